set_option maxHeartbeats 20000000 in
/-- IslandHall$Parser.readIsland -/
theorem n7169_6 {B : eB} (d : Nat) (M0 : Mm) (p1 : Int) (c2 : Int) (T : Int → Int) (hP0 : Pw M0) (l1 : 0 ≤ p1) (u1 : p1 ≤ 500) (hC2 : isC c2) (xp0 : ∀ k : Int, 0 ≤ k → k < p1 → (0 ≤ M0 1 k → T k = M0 1 k) ∧ (M0 1 k < 0 → -128 ≤ M0 1 k ∧ T k = M0 1 k + 256)) : Ct B (d + 64) 169 [R 6, I p1, R c2] M0 (qI fun z M => Pw M ∧ Fr fm_n7169_6 M0 M ∧ 0 ≤ z ∧ z ≤ 6 ∧ (z = 0 → SZk M 7 8 ≤ 3000) ∧ (∀ k : Int, 0 ≤ k → k < 7 → 1 ≤ M 8 k) ∧ (IO T p1 z (M 6 5) (M 6 3)) ∧ (z = 0 → M 7 1 = M 6 3) ∧ (∀ c : Int, isC c → c ≠ c2 → CL M c = CL M0 c) ∧ (z = 0 → ∃ F : List Int, ISD T p1 (M 6 3) (M 7 2, M 7 3, M 7 5, M 7 6, nrF (fun k => M 8 k) (M 7 4) F) ∧ FLc T p1 (M 6 3) F (CL M c2))) := by
  refine ct_of (d := d + 63) (k := 2) (L := [some (R 6), some (I p1), some (R c2), none, none]) rfl rfl rfl ?_
  have hF0 := Fr.rf fm_n7169_6 M0
  generalize hQ : (qI fun z M => Pw M ∧ Fr fm_n7169_6 M0 M ∧ 0 ≤ z ∧ z ≤ 6 ∧ (z = 0 → SZk M 7 8 ≤ 3000) ∧ (∀ k : Int, 0 ≤ k → k < 7 → 1 ≤ M 8 k) ∧ (IO T p1 z (M 6 5) (M 6 3)) ∧ (z = 0 → M 7 1 = M 6 3) ∧ (∀ c : Int, isC c → c ≠ c2 → CL M c = CL M0 c) ∧ (z = 0 → ∃ F : List Int, ISD T p1 (M 6 3) (M 7 2, M 7 3, M 7 5, M 7 6, nrF (fun k => M 8 k) (M 7 4) F) ∧ FLc T p1 (M 6 3) F (CL M c2))) = Q
  refine wk_al0 r169_0 (wk_il1 r169_1 (wk_al2 r169_2 (wk_cv3 r169_3 kc_6_154 rfl (n7154_6 _ M0 p1 c2 T hP0 (by first | with_reducible assumption | omega) (by first | with_reducible assumption | omega) hC2 (xp0)) (cqV ?_))))
  rintro M1 ⟨hP2, hQ3, h5, h6, h7, h8, h9, h10, h11, h12, h13, h14, xh15, xh16, pr17, pr18⟩
  have hF4 : Fr fm_n7169_6 M0 M1 := hF0.tr hQ3 rfl
  obtain ⟨v19, e20⟩ : ∃ v, M1 9 1 = v := ⟨_, rfl⟩
  have h21 := (bf_9_1 hP2).1; rw [e20] at h21
  have h22 := (bf_9_1 hP2).2; rw [e20] at h22
  obtain ⟨v23, e24⟩ : ∃ v, M1 9 3 = v := ⟨_, rfl⟩
  have h25 := (bf_9_3 hP2).1; rw [e24] at h25
  have h26 := (bf_9_3 hP2).2; rw [e24] at h26
  obtain ⟨v27, e28⟩ : ∃ v, M1 9 2 = v := ⟨_, rfl⟩
  have h29 := (bf_9_2 hP2).1; rw [e28] at h29
  have h30 := (bf_9_2 hP2).2; rw [e28] at h30
  obtain ⟨v31, e32⟩ : ∃ v, M1 6 4 = v := ⟨_, rfl⟩
  have h33 := (bf_6_4 hP2).1; rw [e32] at h33
  have h34 := (bf_6_4 hP2).2; rw [e32] at h34
  obtain ⟨v35, e36⟩ : ∃ v, M1 6 5 = v := ⟨_, rfl⟩
  have h37 := (bf_6_5 hP2).1; rw [e36] at h37
  have h38 := (bf_6_5 hP2).2; rw [e36] at h38
  obtain rfl : p1 = v19 := by omega
  have hs0 : v23 = sk T p1 0 := by have := e24; have := xh15; omega
  refine wk_al0 r169_6 (wk_getfr r169_7 fd_6_1 (br_6_1 hP2) (wk_cv1 r169_10 kc_7_183 rfl (n7183_7 _ M1 hP2) (cqV ?_)))
  rintro M39 ⟨hP40, hQ41, h43, h44, h45, h46, h47, h48, h49, h50, h51, h52, xh53, xh54⟩
  have hF42 : Fr fm_n7169_6 M0 M39 := hF4.tr hQ41 rfl
  obtain ⟨v55, e56⟩ : ∃ v, M39 7 2 = v := ⟨_, rfl⟩
  have h57 := (bf_7_2 hP40).1; rw [e56] at h57
  have h58 := (bf_7_2 hP40).2; rw [e56] at h58
  obtain ⟨v59, e60⟩ : ∃ v, M39 7 3 = v := ⟨_, rfl⟩
  have h61 := (bf_7_3 hP40).1; rw [e60] at h61
  have h62 := (bf_7_3 hP40).2; rw [e60] at h62
  obtain ⟨v63, e64⟩ : ∃ v, M39 7 5 = v := ⟨_, rfl⟩
  have h65 := (bf_7_5 hP40).1; rw [e64] at h65
  have h66 := (bf_7_5 hP40).2; rw [e64] at h66
  obtain ⟨v67, e68⟩ : ∃ v, M39 7 6 = v := ⟨_, rfl⟩
  have h69 := (bf_7_6 hP40).1; rw [e68] at h69
  have h70 := (bf_7_6 hP40).2; rw [e68] at h70
  obtain ⟨v71, e72⟩ : ∃ v, M39 7 4 = v := ⟨_, rfl⟩
  have h73 := (bf_7_4 hP40).1; rw [e72] at h73
  have h74 := (bf_7_4 hP40).2; rw [e72] at h74
  obtain ⟨u75, hu76⟩ : ∃ u : Int → Int, ∀ k, M39 8 k = u k := ⟨fun k => M39 8 k, fun k => rfl⟩
  have dm0 : ∀ k : Int, 0 ≤ k → k < 7 → 1 ≤ u75 k := fun k a b => by rw [← hu76 k]; exact xh54 k a b
  have hu3 : ∀ k : Int, u75 k = 3 := fun k => by rw [← hu76 k]; exact xh53 k
  refine wk_al2 r169_13 (wk_cv1 r169_14 (kcC_144 hC2) rfl (n7144 _ M39 c2 hP40 hC2) (cqV ?_))
  rintro M77 ⟨hP78, hQ79, xh81, xh82⟩
  have hF80 : Fr fm_n7169_6 M0 M77 := hF42.tr hQ79 rfl
  obtain ⟨Mb, hMb⟩ : ∃ m : Mm, m = M77 := ⟨_, rfl⟩
  have hOb : ∀ c : Int, isC c → c ≠ c2 → CL Mb c = CL M0 c := fun c hc hn => by rw [hMb]; exact (xh81 c hc hn).trans ((CL_cg (hQ41.at (g_c1 hc) rfl) (fun k => hQ41.at (g_cs hc k) rfl)).trans (CL_cg (hQ3.at (g_c1 hc) rfl) (fun k => hQ3.at (g_cs hc k) rfl)))
  have h6b : Mb 6 2 = c2 := by rw [hMb]; exact ((hQ79.at g_6_2 rfl).trans ((hQ41.at g_6_2 rfl).trans xh16))
  have pr83 : OCe M77 Mb := by rw [hMb]; exact OCe_rf _
  have pr84 : CLe M77 ([8 * 118] : List Int) := ⟨by rw [((hQ79.at g_6_2 rfl).trans ((hQ41.at g_6_2 rfl).trans xh16))]; exact hC2, by unfold CLm; rw [((hQ79.at g_6_2 rfl).trans ((hQ41.at g_6_2 rfl).trans xh16))]; exact xh82⟩
  refine wk_al0 r169_17 ?_
  obtain ⟨v85, e86⟩ : ∃ v, M77 6 3 = v := ⟨_, rfl⟩
  have h87 := (bf_6_3 hP78).1; rw [e86] at h87
  have h88 := (bf_6_3 hP78).2; rw [e86] at h88
  refine wk_cv1 r169_18 kc_6_160 rfl (n7160_6 _ M77 p1 v23 v27 v31 v35 v85 T hP78 ((hQ79.at g_9_1 rfl).trans ((hQ41.at g_9_1 rfl).trans e20)) (by first | with_reducible assumption | omega) (by first | with_reducible assumption | omega) ((hQ79.at g_9_3 rfl).trans ((hQ41.at g_9_3 rfl).trans e24)) (by first | with_reducible assumption | omega) (by first | with_reducible assumption | omega) ((hQ79.at g_9_2 rfl).trans ((hQ41.at g_9_2 rfl).trans e28)) (by first | with_reducible assumption | omega) (by first | with_reducible assumption | omega) ((hQ79.at g_6_4 rfl).trans ((hQ41.at g_6_4 rfl).trans e32)) (by first | with_reducible assumption | omega) (by first | with_reducible assumption | omega) ((hQ79.at g_6_5 rfl).trans ((hQ41.at g_6_5 rfl).trans e36)) (by first | with_reducible assumption | omega) (by first | with_reducible assumption | omega) e86 (by first | with_reducible assumption | omega) (by first | with_reducible assumption | omega) (by omega) (by omega) (by omega) (TXP_sm (Sm.fr hQ79 rfl) (TXP_sm (Sm.fr hQ41 rfl) pr17)) (TCP_sm (Sm.fr hQ79 rfl) (TCP_sm (Sm.fr hQ41 rfl) pr18))) (cqI ?_)
  rintro v110 M89 ⟨hP90, hQ91, h111, h112, h93, h94, h95, h96, h97, h98, h99, h100, h101, h102, h103, h104, h105, h106, xh107, pr108, pr109⟩
  have hF92 : Fr fm_n7169_6 M0 M89 := hF80.tr hQ91 rfl
  obtain ⟨v113, e114⟩ : ∃ v, M89 9 3 = v := ⟨_, rfl⟩
  have h115 := (bf_9_3 hP90).1; rw [e114] at h115
  have h116 := (bf_9_3 hP90).2; rw [e114] at h116
  obtain ⟨v117, e118⟩ : ∃ v, M89 9 2 = v := ⟨_, rfl⟩
  have h119 := (bf_9_2 hP90).1; rw [e118] at h119
  have h120 := (bf_9_2 hP90).2; rw [e118] at h120
  obtain ⟨v121, e122⟩ : ∃ v, M89 6 4 = v := ⟨_, rfl⟩
  have h123 := (bf_6_4 hP90).1; rw [e122] at h123
  have h124 := (bf_6_4 hP90).2; rw [e122] at h124
  obtain ⟨v125, e126⟩ : ∃ v, M89 6 5 = v := ⟨_, rfl⟩
  have h127 := (bf_6_5 hP90).1; rw [e126] at h127
  have h128 := (bf_6_5 hP90).2; rw [e126] at h128
  obtain ⟨v129, e130⟩ : ∃ v, M89 6 3 = v := ⟨_, rfl⟩
  have h131 := (bf_6_3 hP90).1; rw [e130] at h131
  have h132 := (bf_6_3 hP90).2; rw [e130] at h132
  obtain ⟨v133, e134⟩ : ∃ v, M89 7 1 = v := ⟨_, rfl⟩
  have h135 := (bf_7_1 hP90).1; rw [e134] at h135
  have h136 := (bf_7_1 hP90).2; rw [e134] at h136
  refine wk_is3 r169_21 rfl (wk_c1 r169_22 (wk_is4 r169_23 rfl ?_))
  have c25_2292 : ∀ (k2292 : Nat) (M2049 : Mm) (v2043 : Int) (v2046 : Int) (v2052 : Int) (v2056 : Int) (v2060 : Int) (v2064 : Int) (v2068 : Int) (v2072 : Int) (v2076 : Int) (v2080 : Int) (v2084 : Int), (500 - v2046).toNat = k2292 → Pw M2049 → Fr fm_n7169_6 M0 M2049 → M2049 7 2 = v2052 → M2049 7 3 = v2056 → M2049 7 5 = v2060 → M2049 7 6 = v2064 → M2049 7 4 = v2068 → M2049 9 3 = v2072 → M2049 9 2 = v2076 → M2049 6 4 = v2080 → M2049 6 5 = v2084 → M2049 9 1 = p1 → M2049 6 2 = c2 → M2049 6 3 = v129 → M2049 7 1 = v133 → 0 ≤ v2043 → v2043 ≤ 1 → 0 ≤ v2046 → v2046 ≤ 500 → (-1) ≤ v2052 → v2052 ≤ 4 → (-1) ≤ v2056 → v2056 ≤ 6 → 0 ≤ v2060 → v2060 ≤ 1 → 0 ≤ v2064 → v2064 ≤ 1 → 0 ≤ v2068 → v2068 ≤ 127 → 0 ≤ v2072 → v2072 ≤ 500 → 0 ≤ v2076 → v2076 ≤ 500 → 0 ≤ v2080 → v2080 ≤ 6 → (-1) ≤ v2084 → v2084 ≤ 500 → (TXP T M2049) → (TCP T M2049) → (OCe M2049 Mb) → 0 ≤ 1 * p1 + (-1) * v2072 → 0 ≤ 1 * p1 + (-1) * v2076 → 0 ≤ 1 * v2076 + (-1) * v2072 → 0 ≤ 1 * v2072 + (-1) * v2046 + (-600) * v2043 + 600 → 0 ≤ (-1) * v2084 + 599 + (-600) * v2043 → 0 ≤ (-1) * v2080 + 10 + (-10) * v2043 → (∀ k : Int, 0 ≤ k → k < 7 → 1 ≤ M2049 8 k) → (∃ F : List Int, RX T p1 (sk T p1 0) v2043 v133 v129 v2072 (v2052, v2056, v2060, v2064, nrF (fun k => M2049 8 k) v2068 F) v2080 v2084 ∧ (v2043 = 1 → FLc T p1 v129 F (CLm M2049) ∧ 2 * ((CLm M2049).length : Int) ≤ v2072 + 2)) → Wp B (d + 63) 169 25 [some (R 6), none, none, some (I v2043), some (I v2046)] [] M2049 Q := by
    refine lp_ind ?_
    intro k2292 ih2292 M2049 v2043 v2046 v2052 v2056 v2060 v2064 v2068 v2072 v2076 v2080 v2084 hk2292 hP2050 hF2051 e2055 e2059 e2063 e2067 e2071 e2075 e2079 e2083 e2087 e2088 e2089 e2090 e2091 h2044 h2045 h2047 h2048 h2053 h2054 h2057 h2058 h2061 h2062 h2065 h2066 h2069 h2070 h2073 h2074 h2077 h2078 h2081 h2082 h2085 h2086 pr2092 pr2093 pr2094 h2095 h2096 h2097 h2098 h2099 h2100 ti2101 ti2102
    obtain ⟨F9, hrx9, hfl9⟩ := ti2102
    have pr2103 : CLe M2049 (CLm M2049) := ⟨pcE hP2050, rfl⟩
    refine wk_il4 r169_25 (wk_c3 r169_27 ?_)
    refine wk_icge r169_30 ⟨by omega, by omega⟩ (by decide) ?_ ?_
    · intro h2104
      obtain ⟨u2105, hu2106⟩ : ∃ u : Int → Int, ∀ k, M2049 8 k = u k := ⟨fun k => M2049 8 k, fun k => rfl⟩
      have dm3 : ∀ k : Int, 0 ≤ k → k < 7 → 1 ≤ u2105 k := fun k a b => by rw [← hu2106 k]; exact ti2101 k a b
      refine wk_il3 r169_75 ?_
      refine wk_ifeq r169_76 ⟨by omega, by omega⟩ ?_ ?_
      · intro h2107
        refine wk_al0 r169_99 (wk_getfi r169_100 fd_6_4 e2083 ?_)
        subst hQ; exact wk_iret r169_103 (⟨rfl, _, rfl, hP2050, hF2051, by omega, by omega, fun h => absurd h (by have q8 := IOF_nz (RX_0 hrx9 (by omega)); omega), fun k a b => by rw [hu2106 k]; exact dm3 k a b, by rw [e2087, e2090]; exact IO_f (RX_0 hrx9 (by omega)) (by omega), fun q => absurd q (by have q8 := IOF_nz (RX_0 hrx9 (by omega)); omega), fun c hc hn => ((pr2094).2 c hc (by rw [h6b]; exact hn)).trans (hOb c hc hn), fun q => absurd q (by have q8 := IOF_nz (RX_0 hrx9 (by omega)); omega)⟩)
      · intro h2108
        have htt8 : tt T p1 v2072 = 0 := by have q8 := pr2093; unfold TCP at q8; rw [e2088, e2075] at q8; have := tt_lt T p1 v2072; omega
        obtain ⟨sh8, hg8, -⟩ := RX_1 hrx9 (by omega)
        have hb8 := HDg_b hg8
        have hp8 := RX_p hrx9 (by omega)
        have hsz8 := sz_cls (M := M2049) (lv := v2068) (F := F9) (fun k a b => ba_8 hP2050 a b) (by rw [e2091]; omega) (bf_7_5 hP2050) (bf_7_6 hP2050)
        rw [e2091, e2055, e2059, e2063, e2067] at hsz8
        have hpe8 := RX_p hrx9 (by omega); rw [hpe8] at hsz8
        refine wk_al0 r169_79 (wk_getfr r169_80 fd_6_1 (br_6_1 hP2050) (wk_cv1 r169_83 kc_7_184 rfl (n7184_7 _ M2049 hP2050) (cqI ?_)))
        rintro v2114 M2109 ⟨hP2110, hQ2111, h2115, h2116, xh2113⟩
        obtain rfl := Fr.same hQ2111
        refine wk_c3 r169_86 ?_
        refine wk_icle r169_89 ⟨by omega, by omega⟩ (by decide) ?_ ?_
        · intro h2117
          refine wk_al0 r169_99 (wk_getfi r169_100 fd_6_4 e2083 ?_)
          subst hQ; exact wk_iret r169_103 (⟨rfl, _, rfl, hP2050, hF2051, by omega, by omega, by first | (intro h; omega) | (intro _; rw [← xh2113]; omega), fun k a b => by rw [hu2106 k]; exact dm3 k a b, by rw [e2087, e2090]; exact IO_e hrx9 (by omega) htt8 (by omega), fun q => by rw [e2091, e2090]; exact RX_p hrx9 (by omega), fun c hc hn => ((pr2094).2 c hc (by rw [h6b]; exact hn)).trans (hOb c hc hn), fun _ => ⟨F9, by rw [e2090, e2055, e2059, e2063, e2067, e2071]; exact ISD_mk (s2 := 0) hrx9 (by omega) rfl htt8, by rw [e2090]; have q8 := (hfl9 (by omega)).1; unfold CLm at q8; rw [e2089] at q8; exact q8⟩⟩)
        · intro h2118
          refine wk_al0 r169_92 (wk_c2 r169_93 (wk_cv2 r169_95 kc_6_159 rfl (n7159_6 _ M2049 6 v2072 hP2050 (by decide) (by decide) e2075 (by first | with_reducible assumption | omega) (by first | with_reducible assumption | omega)) (cqI ?_)))
          rintro v2127 M2119 ⟨hP2120, hQ2121, h2128, h2129, h2123, h2124, h2125, h2126⟩
          have hF2122 : Fr fm_n7169_6 M0 M2119 := hF2051.tr hQ2121 rfl
          obtain ⟨v2130, e2131⟩ : ∃ v, M2119 6 4 = v := ⟨_, rfl⟩
          have h2132 := (bf_6_4 hP2120).1; rw [e2131] at h2132
          have h2133 := (bf_6_4 hP2120).2; rw [e2131] at h2133
          obtain ⟨v2134, e2135⟩ : ∃ v, M2119 6 5 = v := ⟨_, rfl⟩
          have h2136 := (bf_6_5 hP2120).1; rw [e2135] at h2136
          have h2137 := (bf_6_5 hP2120).2; rw [e2135] at h2137
          refine wk_popi r169_98 ?_
          refine wk_al0 r169_99 (wk_getfi r169_100 fd_6_4 e2131 ?_)
          subst hQ; exact wk_iret r169_103 (⟨rfl, _, rfl, hP2120, hF2122, by omega, by omega, by first | (intro h; omega) | (intro _; rw [← xh2113]; omega), fun k a b => by rw [(fun k => (hQ2121.at (ga_8 k) rfl).trans (hu2106 k)) k]; exact dm3 k a b, by rw [e2135, ((hQ2121.at g_6_3 rfl).trans e2090)]; exact IO_e hrx9 (by omega) htt8 (by omega), fun q => by omega, fun c hc hn => (((OCe_sm (Sm.fr hQ2121 rfl) pr2094)).2 c hc (by rw [h6b]; exact hn)).trans (hOb c hc hn), fun q => by omega⟩)
    · intro h2138
      refine wk_il3 r169_33 ?_
      refine wk_ifeq r169_34 ⟨by omega, by omega⟩ ?_ ?_
      · intro h2139
        obtain ⟨u2140, hu2141⟩ : ∃ u : Int → Int, ∀ k, M2049 8 k = u k := ⟨fun k => M2049 8 k, fun k => rfl⟩
        have dm3 : ∀ k : Int, 0 ≤ k → k < 7 → 1 ≤ u2140 k := fun k a b => by rw [← hu2141 k]; exact ti2101 k a b
        refine wk_il3 r169_75 ?_
        refine wk_ifeq r169_76 ⟨by omega, by omega⟩ ?_ ?_
        · intro h2142
          refine wk_al0 r169_99 (wk_getfi r169_100 fd_6_4 e2083 ?_)
          subst hQ; exact wk_iret r169_103 (⟨rfl, _, rfl, hP2050, hF2051, by omega, by omega, fun h => absurd h (by have q8 := IOF_nz (RX_0 hrx9 (by omega)); omega), fun k a b => by rw [hu2141 k]; exact dm3 k a b, by rw [e2087, e2090]; exact IO_f (RX_0 hrx9 (by omega)) (by omega), fun q => absurd q (by have q8 := IOF_nz (RX_0 hrx9 (by omega)); omega), fun c hc hn => ((pr2094).2 c hc (by rw [h6b]; exact hn)).trans (hOb c hc hn), fun q => absurd q (by have q8 := IOF_nz (RX_0 hrx9 (by omega)); omega)⟩)
        · intro h2143
          exfalso
          omega
      · intro h2144
        refine wk_al0 r169_37 (wk_getfr r169_38 fd_6_0 (br_6_0 hP2050) (wk_getfb r169_41 fd_9_4 (bf_9_4 hP2050) ?_))
        intro v2145 h2147 h2148 e2146
        refine wk_ifeq r169_44 ⟨by omega, by omega⟩ ?_ ?_
        · intro h2149
          obtain ⟨u2150, hu2151⟩ : ∃ u : Int → Int, ∀ k, M2049 8 k = u k := ⟨fun k => M2049 8 k, fun k => rfl⟩
          have dm3 : ∀ k : Int, 0 ≤ k → k < 7 → 1 ≤ u2150 k := fun k a b => by rw [← hu2151 k]; exact ti2101 k a b
          refine wk_il3 r169_75 ?_
          refine wk_ifeq r169_76 ⟨by omega, by omega⟩ ?_ ?_
          · intro h2152
            exfalso
            omega
          · intro h2153
            have htt8 : tt T p1 v2072 = 0 := by have q8 := pr2093; unfold TCP at q8; rw [e2088, e2075] at q8; have := tt_lt T p1 v2072; omega
            obtain ⟨sh8, hg8, -⟩ := RX_1 hrx9 (by omega)
            have hb8 := HDg_b hg8
            have hp8 := RX_p hrx9 (by omega)
            have hsz8 := sz_cls (M := M2049) (lv := v2068) (F := F9) (fun k a b => ba_8 hP2050 a b) (by rw [e2091]; omega) (bf_7_5 hP2050) (bf_7_6 hP2050)
            rw [e2091, e2055, e2059, e2063, e2067] at hsz8
            have hpe8 := RX_p hrx9 (by omega); rw [hpe8] at hsz8
            refine wk_al0 r169_79 (wk_getfr r169_80 fd_6_1 (br_6_1 hP2050) (wk_cv1 r169_83 kc_7_184 rfl (n7184_7 _ M2049 hP2050) (cqI ?_)))
            rintro v2159 M2154 ⟨hP2155, hQ2156, h2160, h2161, xh2158⟩
            obtain rfl := Fr.same hQ2156
            refine wk_c3 r169_86 ?_
            refine wk_icle r169_89 ⟨by omega, by omega⟩ (by decide) ?_ ?_
            · intro h2162
              refine wk_al0 r169_99 (wk_getfi r169_100 fd_6_4 e2083 ?_)
              subst hQ; exact wk_iret r169_103 (⟨rfl, _, rfl, hP2050, hF2051, by omega, by omega, by first | (intro h; omega) | (intro _; rw [← xh2158]; omega), fun k a b => by rw [hu2151 k]; exact dm3 k a b, by rw [e2087, e2090]; exact IO_e hrx9 (by omega) htt8 (by omega), fun q => by rw [e2091, e2090]; exact RX_p hrx9 (by omega), fun c hc hn => ((pr2094).2 c hc (by rw [h6b]; exact hn)).trans (hOb c hc hn), fun _ => ⟨F9, by rw [e2090, e2055, e2059, e2063, e2067, e2071]; exact ISD_mk (s2 := 0) hrx9 (by omega) rfl htt8, by rw [e2090]; have q8 := (hfl9 (by omega)).1; unfold CLm at q8; rw [e2089] at q8; exact q8⟩⟩)
            · intro h2163
              refine wk_al0 r169_92 (wk_c2 r169_93 (wk_cv2 r169_95 kc_6_159 rfl (n7159_6 _ M2049 6 v2072 hP2050 (by decide) (by decide) e2075 (by first | with_reducible assumption | omega) (by first | with_reducible assumption | omega)) (cqI ?_)))
              rintro v2172 M2164 ⟨hP2165, hQ2166, h2173, h2174, h2168, h2169, h2170, h2171⟩
              have hF2167 : Fr fm_n7169_6 M0 M2164 := hF2051.tr hQ2166 rfl
              obtain ⟨v2175, e2176⟩ : ∃ v, M2164 6 4 = v := ⟨_, rfl⟩
              have h2177 := (bf_6_4 hP2165).1; rw [e2176] at h2177
              have h2178 := (bf_6_4 hP2165).2; rw [e2176] at h2178
              obtain ⟨v2179, e2180⟩ : ∃ v, M2164 6 5 = v := ⟨_, rfl⟩
              have h2181 := (bf_6_5 hP2165).1; rw [e2180] at h2181
              have h2182 := (bf_6_5 hP2165).2; rw [e2180] at h2182
              refine wk_popi r169_98 ?_
              refine wk_al0 r169_99 (wk_getfi r169_100 fd_6_4 e2176 ?_)
              subst hQ; exact wk_iret r169_103 (⟨rfl, _, rfl, hP2165, hF2167, by omega, by omega, by first | (intro h; omega) | (intro _; rw [← xh2158]; omega), fun k a b => by rw [(fun k => (hQ2166.at (ga_8 k) rfl).trans (hu2151 k)) k]; exact dm3 k a b, by rw [e2180, ((hQ2166.at g_6_3 rfl).trans e2090)]; exact IO_e hrx9 (by omega) htt8 (by omega), fun q => by omega, fun c hc hn => (((OCe_sm (Sm.fr hQ2166 rfl) pr2094)).2 c hc (by rw [h6b]; exact hn)).trans (hOb c hc hn), fun q => by omega⟩)
        · intro h2183
          obtain ⟨sh9, hg9, ri9⟩ := RX_1 hrx9 (by omega)
          have htt9 : tt T p1 v2072 ≠ 0 := by have q8 := pr2093; unfold TCP at q8; rw [e2088, e2075] at q8; omega
          have hpe9 := RX_p hrx9 (by omega)
          refine wk_al0 r169_47 (wk_cv1 r169_48 kc_6_156 rfl (n7156_6 _ M2049 p1 v2072 v2076 v2080 v2084 v129 v2052 v2056 v2068 v2060 v2064 T (((0 : Int), sh9, (0 : Int), (0 : Int), dg1)) F9 hP2050 e2088 (by first | with_reducible assumption | omega) (by first | with_reducible assumption | omega) e2075 (by first | with_reducible assumption | omega) (by first | with_reducible assumption | omega) e2079 (by first | with_reducible assumption | omega) (by first | with_reducible assumption | omega) e2083 (by first | with_reducible assumption | omega) (by first | with_reducible assumption | omega) e2087 (by first | with_reducible assumption | omega) (by first | with_reducible assumption | omega) e2090 (by first | with_reducible assumption | omega) (by first | with_reducible assumption | omega) e2055 (by first | with_reducible assumption | omega) (by first | with_reducible assumption | omega) e2059 (by first | with_reducible assumption | omega) (by first | with_reducible assumption | omega) e2071 (by first | with_reducible assumption | omega) (by first | with_reducible assumption | omega) e2063 (by first | with_reducible assumption | omega) (by first | with_reducible assumption | omega) e2067 (by first | with_reducible assumption | omega) (by first | with_reducible assumption | omega) (by omega) (by omega) (by omega) (ri9) (htt9) (fun k a b => ti2101 k a b) ((hfl9 (by omega)).1) ((hfl9 (by omega)).2) pr2092 pr2093) (cqI ?_))
          rintro v2208 M2184 ⟨hP2185, hQ2186, h2209, h2210, h2188, h2189, h2190, h2191, h2192, h2193, h2194, h2195, h2196, h2197, h2198, h2199, h2200, h2201, h2202, xh2203, xh2204, pr2205, pr2206, pr2207⟩
          have hF2187 : Fr fm_n7169_6 M0 M2184 := hF2051.tr hQ2186 rfl
          have pr2211 : OCe M2184 Mb := OCe_tr pr2207 pr2094
          obtain ⟨v2212, e2213⟩ : ∃ v, M2184 9 3 = v := ⟨_, rfl⟩
          have h2214 := (bf_9_3 hP2185).1; rw [e2213] at h2214
          have h2215 := (bf_9_3 hP2185).2; rw [e2213] at h2215
          obtain ⟨v2216, e2217⟩ : ∃ v, M2184 9 2 = v := ⟨_, rfl⟩
          have h2218 := (bf_9_2 hP2185).1; rw [e2217] at h2218
          have h2219 := (bf_9_2 hP2185).2; rw [e2217] at h2219
          obtain ⟨v2220, e2221⟩ : ∃ v, M2184 6 4 = v := ⟨_, rfl⟩
          have h2222 := (bf_6_4 hP2185).1; rw [e2221] at h2222
          have h2223 := (bf_6_4 hP2185).2; rw [e2221] at h2223
          obtain ⟨v2224, e2225⟩ : ∃ v, M2184 6 5 = v := ⟨_, rfl⟩
          have h2226 := (bf_6_5 hP2185).1; rw [e2225] at h2226
          have h2227 := (bf_6_5 hP2185).2; rw [e2225] at h2227
          obtain ⟨v2228, e2229⟩ : ∃ v, M2184 7 2 = v := ⟨_, rfl⟩
          have h2230 := (bf_7_2 hP2185).1; rw [e2229] at h2230
          have h2231 := (bf_7_2 hP2185).2; rw [e2229] at h2231
          obtain ⟨v2232, e2233⟩ : ∃ v, M2184 7 3 = v := ⟨_, rfl⟩
          have h2234 := (bf_7_3 hP2185).1; rw [e2233] at h2234
          have h2235 := (bf_7_3 hP2185).2; rw [e2233] at h2235
          obtain ⟨v2236, e2237⟩ : ∃ v, M2184 7 5 = v := ⟨_, rfl⟩
          have h2238 := (bf_7_5 hP2185).1; rw [e2237] at h2238
          have h2239 := (bf_7_5 hP2185).2; rw [e2237] at h2239
          obtain ⟨v2240, e2241⟩ : ∃ v, M2184 7 6 = v := ⟨_, rfl⟩
          have h2242 := (bf_7_6 hP2185).1; rw [e2241] at h2242
          have h2243 := (bf_7_6 hP2185).2; rw [e2241] at h2243
          obtain ⟨v2244, e2245⟩ : ∃ v, M2184 7 4 = v := ⟨_, rfl⟩
          have h2246 := (bf_7_4 hP2185).1; rw [e2245] at h2246
          have h2247 := (bf_7_4 hP2185).2; rw [e2245] at h2247
          obtain ⟨u2248, hu2249⟩ : ∃ u : Int → Int, ∀ k, M2184 8 k = u k := ⟨fun k => M2184 8 k, fun k => rfl⟩
          have dm2 : ∀ k : Int, 0 ≤ k → k < 7 → 1 ≤ u2248 k := fun k a b => by rw [← hu2249 k]; exact xh2203 k a b
          refine wk_ifeq r169_51 ⟨by omega, by omega⟩ ?_ ?_
          · intro h2250
            clear h2199 h2200 h2201 h2202
            refine wk_c1 r169_67 (wk_is3 r169_68 rfl (wk_inc4 r169_69 rfl (wk_goto r169_72 ?_)))
            exact wp_fg (le_s (le_s (le_s (le_s (le_s le_0))))) (ih2292 (500 - (v2046 + 1)).toNat (by omega) M2184 0 (v2046 + 1) v2228 v2232 v2236 v2240 v2244 v2212 v2216 v2220 v2224 rfl hP2185 hF2187 e2229 e2233 e2237 e2241 e2245 e2213 e2217 e2221 e2225 ((hQ2186.at g_9_1 rfl).trans e2088) ((hQ2186.at g_6_2 rfl).trans e2089) ((hQ2186.at g_6_3 rfl).trans e2090) ((hQ2186.at g_7_1 rfl).trans e2091) (by first | with_reducible assumption | omega) (by first | with_reducible assumption | omega) (by first | with_reducible assumption | omega) (by first | with_reducible assumption | omega) (by first | with_reducible assumption | omega) (by first | with_reducible assumption | omega) (by first | with_reducible assumption | omega) (by first | with_reducible assumption | omega) (by first | with_reducible assumption | omega) (by first | with_reducible assumption | omega) (by first | with_reducible assumption | omega) (by first | with_reducible assumption | omega) (by first | with_reducible assumption | omega) (by first | with_reducible assumption | omega) (by first | with_reducible assumption | omega) (by first | with_reducible assumption | omega) (by first | with_reducible assumption | omega) (by first | with_reducible assumption | omega) (by first | with_reducible assumption | omega) (by first | with_reducible assumption | omega) (by first | with_reducible assumption | omega) (by first | with_reducible assumption | omega) pr2205 pr2206 pr2211 (by first | with_reducible assumption | omega) (by first | with_reducible assumption | omega) (by first | with_reducible assumption | omega) (by first | with_reducible assumption | omega) (by first | with_reducible assumption | omega) (by first | with_reducible assumption | omega) (fun k a b => by rw [hu2249 k]; exact dm2 k a b) (⟨F9, RX_b hg9 (I_f (or_r xh2204 (by omega)) (by omega) (by omega)) (by omega), fun q => absurd q (by omega)⟩))
          · intro h2251
            replace h2199 := h2199 (z1_of h2209 h2210 h2251)
            replace h2200 := h2200 (z1_of h2209 h2210 h2251)
            replace h2201 := h2201 (z1_of h2209 h2210 h2251)
            replace h2202 := h2202 (z1_of h2209 h2210 h2251)
            obtain ⟨G9, r5, hg5, hl5⟩ := or_l xh2204 (by omega); rw [e2213, e2229, e2233, e2245, e2237, e2241] at r5; rw [e2213] at hl5
            have pr2252 : CLe M2184 (CLm M2184) := ⟨pcE hP2185, rfl⟩
            refine wk_al0 r169_54 (wk_c2 r169_55 (wk_cv2 r169_57 kc_6_174 rfl (n7174_6 _ M2184 59 p1 v2212 v2216 v2220 v2224 T hP2185 (by decide) (by decide) ((hQ2186.at g_9_1 rfl).trans e2088) (by first | with_reducible assumption | omega) (by first | with_reducible assumption | omega) e2213 (by first | with_reducible assumption | omega) (by first | with_reducible assumption | omega) e2217 (by first | with_reducible assumption | omega) (by first | with_reducible assumption | omega) e2221 (by first | with_reducible assumption | omega) (by first | with_reducible assumption | omega) e2225 (by first | with_reducible assumption | omega) (by first | with_reducible assumption | omega) (by omega) (by omega) (by omega) pr2205 pr2206) (cqI ?_)))
            rintro v2270 M2253 ⟨hP2254, hQ2255, h2271, h2272, h2257, h2258, h2259, h2260, h2261, h2262, h2263, h2264, h2265, h2266, xh2267, pr2268, pr2269⟩
            have hF2256 : Fr fm_n7169_6 M0 M2253 := hF2187.tr hQ2255 rfl
            obtain ⟨v2273, e2274⟩ : ∃ v, M2253 9 3 = v := ⟨_, rfl⟩
            have h2275 := (bf_9_3 hP2254).1; rw [e2274] at h2275
            have h2276 := (bf_9_3 hP2254).2; rw [e2274] at h2276
            obtain ⟨v2277, e2278⟩ : ∃ v, M2253 9 2 = v := ⟨_, rfl⟩
            have h2279 := (bf_9_2 hP2254).1; rw [e2278] at h2279
            have h2280 := (bf_9_2 hP2254).2; rw [e2278] at h2280
            obtain ⟨v2281, e2282⟩ : ∃ v, M2253 6 4 = v := ⟨_, rfl⟩
            have h2283 := (bf_6_4 hP2254).1; rw [e2282] at h2283
            have h2284 := (bf_6_4 hP2254).2; rw [e2282] at h2284
            obtain ⟨v2285, e2286⟩ : ∃ v, M2253 6 5 = v := ⟨_, rfl⟩
            have h2287 := (bf_6_5 hP2254).1; rw [e2286] at h2287
            have h2288 := (bf_6_5 hP2254).2; rw [e2286] at h2288
            refine wk_ifeq r169_60 ⟨by omega, by omega⟩ ?_ ?_
            · intro h2289
              clear h2263 h2264 h2265 h2266
              refine wk_c1 r169_67 (wk_is3 r169_68 rfl (wk_inc4 r169_69 rfl (wk_goto r169_72 ?_)))
              exact wp_fg (le_s (le_s (le_s (le_s (le_s le_0))))) (ih2292 (500 - (v2046 + 1)).toNat (by omega) M2253 0 (v2046 + 1) v2228 v2232 v2236 v2240 v2244 v2273 v2277 v2281 v2285 rfl hP2254 hF2256 ((hQ2255.at g_7_2 rfl).trans e2229) ((hQ2255.at g_7_3 rfl).trans e2233) ((hQ2255.at g_7_5 rfl).trans e2237) ((hQ2255.at g_7_6 rfl).trans e2241) ((hQ2255.at g_7_4 rfl).trans e2245) e2274 e2278 e2282 e2286 ((hQ2255.at g_9_1 rfl).trans ((hQ2186.at g_9_1 rfl).trans e2088)) ((hQ2255.at g_6_2 rfl).trans ((hQ2186.at g_6_2 rfl).trans e2089)) ((hQ2255.at g_6_3 rfl).trans ((hQ2186.at g_6_3 rfl).trans e2090)) ((hQ2255.at g_7_1 rfl).trans ((hQ2186.at g_7_1 rfl).trans e2091)) (by first | with_reducible assumption | omega) (by first | with_reducible assumption | omega) (by first | with_reducible assumption | omega) (by first | with_reducible assumption | omega) (by first | with_reducible assumption | omega) (by first | with_reducible assumption | omega) (by first | with_reducible assumption | omega) (by first | with_reducible assumption | omega) (by first | with_reducible assumption | omega) (by first | with_reducible assumption | omega) (by first | with_reducible assumption | omega) (by first | with_reducible assumption | omega) (by first | with_reducible assumption | omega) (by first | with_reducible assumption | omega) (by first | with_reducible assumption | omega) (by first | with_reducible assumption | omega) (by first | with_reducible assumption | omega) (by first | with_reducible assumption | omega) (by first | with_reducible assumption | omega) (by first | with_reducible assumption | omega) (by first | with_reducible assumption | omega) (by first | with_reducible assumption | omega) pr2268 pr2269 (OCe_sm (Sm.fr hQ2255 rfl) pr2211) (by first | with_reducible assumption | omega) (by first | with_reducible assumption | omega) (by first | with_reducible assumption | omega) (by first | with_reducible assumption | omega) (by first | with_reducible assumption | omega) (by first | with_reducible assumption | omega) (fun k a b => by rw [(fun k => (hQ2255.at (ga_8 k) rfl).trans (hu2249 k)) k]; exact dm2 k a b) (⟨F9, RX_b hg9 (s_n r5 (by omega) (by omega) (by omega)) (by omega), fun q => absurd q (by omega)⟩))
            · intro h2290
              replace h2263 := h2263 (z1_of h2271 h2272 h2290)
              replace h2264 := h2264 (z1_of h2271 h2272 h2290)
              replace h2265 := h2265 (z1_of h2271 h2272 h2290)
              replace h2266 := h2266 (z1_of h2271 h2272 h2290)
              have h2291 : v2212 + 1 ≤ v2273 := by omega
              refine wk_c1 r169_63 (wk_goto r169_64 (wk_is3 r169_68 rfl (wk_inc4 r169_69 rfl (wk_goto r169_72 ?_))))
              exact wp_fg (le_s (le_s (le_s (le_s (le_s le_0))))) (ih2292 (500 - (v2046 + 1)).toNat (by omega) M2253 1 (v2046 + 1) v2228 v2232 v2236 v2240 v2244 v2273 v2277 v2281 v2285 rfl hP2254 hF2256 ((hQ2255.at g_7_2 rfl).trans e2229) ((hQ2255.at g_7_3 rfl).trans e2233) ((hQ2255.at g_7_5 rfl).trans e2237) ((hQ2255.at g_7_6 rfl).trans e2241) ((hQ2255.at g_7_4 rfl).trans e2245) e2274 e2278 e2282 e2286 ((hQ2255.at g_9_1 rfl).trans ((hQ2186.at g_9_1 rfl).trans e2088)) ((hQ2255.at g_6_2 rfl).trans ((hQ2186.at g_6_2 rfl).trans e2089)) ((hQ2255.at g_6_3 rfl).trans ((hQ2186.at g_6_3 rfl).trans e2090)) ((hQ2255.at g_7_1 rfl).trans ((hQ2186.at g_7_1 rfl).trans e2091)) (by first | with_reducible assumption | omega) (by first | with_reducible assumption | omega) (by first | with_reducible assumption | omega) (by first | with_reducible assumption | omega) (by first | with_reducible assumption | omega) (by first | with_reducible assumption | omega) (by first | with_reducible assumption | omega) (by first | with_reducible assumption | omega) (by first | with_reducible assumption | omega) (by first | with_reducible assumption | omega) (by first | with_reducible assumption | omega) (by first | with_reducible assumption | omega) (by first | with_reducible assumption | omega) (by first | with_reducible assumption | omega) (by first | with_reducible assumption | omega) (by first | with_reducible assumption | omega) (by first | with_reducible assumption | omega) (by first | with_reducible assumption | omega) (by first | with_reducible assumption | omega) (by first | with_reducible assumption | omega) (by first | with_reducible assumption | omega) (by first | with_reducible assumption | omega) pr2268 pr2269 (OCe_sm (Sm.fr hQ2255 rfl) pr2211) (by first | with_reducible assumption | omega) (by first | with_reducible assumption | omega) (by first | with_reducible assumption | omega) (by first | with_reducible assumption | omega) (by first | with_reducible assumption | omega) (by first | with_reducible assumption | omega) (fun k a b => by rw [(fun k => (hQ2255.at (ga_8 k) rfl).trans (hu2249 k)) k]; exact dm2 k a b) (⟨G9, RX_g hg9 (I_c (s_y (s := v2212) (s1 := v2273) r5 (by omega) (by omega)) rfl rfl rfl rfl rfl rfl rfl (nr_eq (fun k _ _ => ((fun k => (hQ2255.at (ga_8 k) rfl).trans (hu2249 k)) k).trans (hu2249 k).symm) (by omega) rfl)) (by omega) (by omega), fun _ => by rw [((CLe_sm (Sm.fr hQ2255 rfl) pr2252)).2]; exact ⟨hg5, by omega⟩⟩))
  exact wp_fg (le_s (le_n (le_n (le_s (le_s le_0))))) (c25_2292 _ M89 v110 0 v55 v59 v63 v67 v71 v113 v117 v121 v125 rfl hP90 hF92 ((hQ91.at g_7_2 rfl).trans ((hQ79.at g_7_2 rfl).trans e56)) ((hQ91.at g_7_3 rfl).trans ((hQ79.at g_7_3 rfl).trans e60)) ((hQ91.at g_7_5 rfl).trans ((hQ79.at g_7_5 rfl).trans e64)) ((hQ91.at g_7_6 rfl).trans ((hQ79.at g_7_6 rfl).trans e68)) ((hQ91.at g_7_4 rfl).trans ((hQ79.at g_7_4 rfl).trans e72)) e114 e118 e122 e126 ((hQ91.at g_9_1 rfl).trans ((hQ79.at g_9_1 rfl).trans ((hQ41.at g_9_1 rfl).trans e20))) ((hQ91.at g_6_2 rfl).trans ((hQ79.at g_6_2 rfl).trans ((hQ41.at g_6_2 rfl).trans xh16))) e130 e134 (by first | with_reducible assumption | omega) (by first | with_reducible assumption | omega) (by first | with_reducible assumption | omega) (by first | with_reducible assumption | omega) (by first | with_reducible assumption | omega) (by first | with_reducible assumption | omega) (by first | with_reducible assumption | omega) (by first | with_reducible assumption | omega) (by first | with_reducible assumption | omega) (by first | with_reducible assumption | omega) (by first | with_reducible assumption | omega) (by first | with_reducible assumption | omega) (by first | with_reducible assumption | omega) (by first | with_reducible assumption | omega) (by first | with_reducible assumption | omega) (by first | with_reducible assumption | omega) (by first | with_reducible assumption | omega) (by first | with_reducible assumption | omega) (by first | with_reducible assumption | omega) (by first | with_reducible assumption | omega) (by first | with_reducible assumption | omega) (by first | with_reducible assumption | omega) pr108 pr109 (OCe_sm (Sm.fr hQ91 rfl) pr83) (by first | with_reducible assumption | omega) (by first | with_reducible assumption | omega) (by first | with_reducible assumption | omega) (by first | with_reducible assumption | omega) (by first | with_reducible assumption | omega) (by first | with_reducible assumption | omega) (fun k a b => by rw [(fun k => (hQ91.at (ga_8 k) rfl).trans ((fun k => (hQ79.at (ga_8 k) rfl).trans (hu76 k)) k)) k]; exact dm0 k a b) (⟨[], RX_i (v := v23) (by have q8 := xh107; rw [e130, e114, e134, e122, e126] at q8; exact q8) hs0 (dg1_mk (by omega) (by omega) (by omega) (by omega) (fun k => by rw [(fun k => (hQ91.at (ga_8 k) rfl).trans ((fun k => (hQ79.at (ga_8 k) rfl).trans (hu76 k)) k)) k]; exact hu3 k) (by omega) rfl), fun _ => by rw [((CLe_sm (Sm.fr hQ91 rfl) pr84)).2]; exact ⟨FLc_0 _ _ _, by show (2 : Int) * 1 ≤ _; omega⟩⟩))
def fm_n7178_2_7 : Nat := 266338304
/-- IslandHall$Plan.copy -/
theorem n7178_2_7 {B : eB} (d : Nat) (M0 : Mm) (hP0 : Pw M0) (xp0 : ∀ k : Int, 0 ≤ k → k < 7 → 1 ≤ M0 8 k) : Ct B (d + 1) 178 [R 2, R 7] M0 (qV fun M => Pw M ∧ Fr fm_n7178_2_7 M0 M ∧ 0 ≤ M 2 1 + (-1) * (M 7 1) ∧ 0 ≤ (-1) * (M 2 1) + M 7 1 ∧ 0 ≤ M 2 2 + (-1) * (M 7 2) ∧ 0 ≤ (-1) * (M 2 2) + M 7 2 ∧ 0 ≤ M 2 3 + (-1) * (M 7 3) ∧ 0 ≤ (-1) * (M 2 3) + M 7 3 ∧ 0 ≤ M 2 4 + (-1) * (M 7 4) ∧ 0 ≤ (-1) * (M 2 4) + M 7 4 ∧ 0 ≤ M 2 5 + (-1) * (M 7 5) ∧ 0 ≤ (-1) * (M 2 5) + M 7 5 ∧ 0 ≤ M 2 6 + (-1) * (M 7 6) ∧ 0 ≤ (-1) * (M 2 6) + M 7 6 ∧ (∀ k : Int, 0 ≤ k → k < 7 → M 3 k = M0 8 k) ∧ (SZk M 2 3 = SZk M0 7 8)) := by
  refine ct_of (d := d + 0) (k := 0) (L := [some (R 2), some (R 7)]) rfl rfl rfl ?_
  have hF0 := Fr.rf fm_n7178_2_7 M0
  generalize hQ : (qV fun M => Pw M ∧ Fr fm_n7178_2_7 M0 M ∧ 0 ≤ M 2 1 + (-1) * (M 7 1) ∧ 0 ≤ (-1) * (M 2 1) + M 7 1 ∧ 0 ≤ M 2 2 + (-1) * (M 7 2) ∧ 0 ≤ (-1) * (M 2 2) + M 7 2 ∧ 0 ≤ M 2 3 + (-1) * (M 7 3) ∧ 0 ≤ (-1) * (M 2 3) + M 7 3 ∧ 0 ≤ M 2 4 + (-1) * (M 7 4) ∧ 0 ≤ (-1) * (M 2 4) + M 7 4 ∧ 0 ≤ M 2 5 + (-1) * (M 7 5) ∧ 0 ≤ (-1) * (M 2 5) + M 7 5 ∧ 0 ≤ M 2 6 + (-1) * (M 7 6) ∧ 0 ≤ (-1) * (M 2 6) + M 7 6 ∧ (∀ k : Int, 0 ≤ k → k < 7 → M 3 k = M0 8 k) ∧ (SZk M 2 3 = SZk M0 7 8)) = Q
  refine wk_al1 r178_0 (wk_getfr r178_1 fd_7_0 (br_7_0 hP0) (wk_c1 r178_4 (wk_al0 r178_5 (wk_getfr r178_6 fd_2_0 (br_2_0 hP0) (wk_c1 r178_9 (wk_c2 r178_10 (wk_copy109 r178_12 ar_8 ar_3 ⟨by decide, by decide, by decide, by omega, by omega, by omega⟩ rfl (wk_nc (fun i => by rw [(ga_3 i)]; rfl) hP0 hF0 (fun i h0 h1 => by have := ba_8 hP0 h0 (by omega); have q9 := xp0 i h0 (by omega); exact (ua_3 ⟨by omega, by omega⟩)) ?_))))))))
  intro M1 hP2 hF3 e4
  obtain ⟨u5, hu6⟩ : ∃ u : Int → Int, ∀ k, M1 3 k = u k := ⟨fun k => M1 3 k, fun k => rfl⟩
  have cq : ∀ k : Int, 0 ≤ k → k < 7 → u5 k = M0 8 k := fun k a b => by rw [← hu6 k]; exact cpy_at e4 a b
  refine wk_al0 r178_15 (wk_al1 r178_16 (wk_getfb r178_17 fd_7_1 (bf_7_1 hP2) ?_))
  intro v7 h9 h10 e8
  refine wk_putfi81 r178_20 fd_2_1 (wk_nw g_2_1 rfl hP2 hF3 (uf_2_1 ⟨by omega, by omega⟩) ?_)
  intro M11 hP12 hF13 e14
  refine wk_al0 r178_23 (wk_al1 r178_24 (wk_getfb r178_25 fd_7_2 (bf_7_2 hP12) ?_))
  intro v15 h17 h18 e16
  refine wk_putfi81 r178_28 fd_2_2 (wk_nw g_2_2 rfl hP12 hF13 (uf_2_2 ⟨by omega, by omega⟩) ?_)
  intro M19 hP20 hF21 e22
  refine wk_al0 r178_31 (wk_al1 r178_32 (wk_getfb r178_33 fd_7_3 (bf_7_3 hP20) ?_))
  intro v23 h25 h26 e24
  refine wk_putfi81 r178_36 fd_2_3 (wk_nw g_2_3 rfl hP20 hF21 (uf_2_3 ⟨by omega, by omega⟩) ?_)
  intro M27 hP28 hF29 e30
  refine wk_al0 r178_39 (wk_al1 r178_40 (wk_getfb r178_41 fd_7_4 (bf_7_4 hP28) ?_))
  intro v31 h33 h34 e32
  refine wk_putfi81 r178_44 fd_2_4 (wk_nw g_2_4 rfl hP28 hF29 (uf_2_4 ⟨by omega, by omega⟩) ?_)
  intro M35 hP36 hF37 e38
  refine wk_al0 r178_47 (wk_al1 r178_48 (wk_getfb r178_49 fd_7_5 (bf_7_5 hP36) ?_))
  intro v39 h41 h42 e40
  refine wk_putfz81 r178_52 fd_2_5 ⟨by omega, by omega⟩ (wk_nw g_2_5 rfl hP36 hF37 (uf_2_5 ⟨by omega, by omega⟩) ?_)
  intro M43 hP44 hF45 e46
  refine wk_al0 r178_55 (wk_al1 r178_56 (wk_getfb r178_57 fd_7_6 (bf_7_6 hP44) ?_))
  intro v47 h49 h50 e48
  refine wk_putfz81 r178_60 fd_2_6 ⟨by omega, by omega⟩ (wk_nw g_2_6 rfl hP44 hF45 (uf_2_6 ⟨by omega, by omega⟩) ?_)
  intro M51 hP52 hF53 e54
  subst hQ; exact wk_ret r178_63 (⟨rfl, hP52, hF53, by have := (mUp_no e54 (mUp_no e46 (mUp_no e38 (mUp_no e30 (mUp_no e22 (mUp_at e14) (Or.inr (by decide))) (Or.inr (by decide))) (Or.inr (by decide))) (Or.inr (by decide))) (Or.inr (by decide))); have := (mUp_no e54 (mUp_no e46 (mUp_no e38 (mUp_no e30 (mUp_no e22 (mUp_no e14 e8 (Or.inl (by decide))) (Or.inl (by decide))) (Or.inl (by decide))) (Or.inl (by decide))) (Or.inl (by decide))) (Or.inl (by decide))); omega, by have := (mUp_no e54 (mUp_no e46 (mUp_no e38 (mUp_no e30 (mUp_no e22 (mUp_at e14) (Or.inr (by decide))) (Or.inr (by decide))) (Or.inr (by decide))) (Or.inr (by decide))) (Or.inr (by decide))); have := (mUp_no e54 (mUp_no e46 (mUp_no e38 (mUp_no e30 (mUp_no e22 (mUp_no e14 e8 (Or.inl (by decide))) (Or.inl (by decide))) (Or.inl (by decide))) (Or.inl (by decide))) (Or.inl (by decide))) (Or.inl (by decide))); omega, by have := (mUp_no e54 (mUp_no e46 (mUp_no e38 (mUp_no e30 (mUp_at e22) (Or.inr (by decide))) (Or.inr (by decide))) (Or.inr (by decide))) (Or.inr (by decide))); have := (mUp_no e54 (mUp_no e46 (mUp_no e38 (mUp_no e30 (mUp_no e22 e16 (Or.inl (by decide))) (Or.inl (by decide))) (Or.inl (by decide))) (Or.inl (by decide))) (Or.inl (by decide))); omega, by have := (mUp_no e54 (mUp_no e46 (mUp_no e38 (mUp_no e30 (mUp_at e22) (Or.inr (by decide))) (Or.inr (by decide))) (Or.inr (by decide))) (Or.inr (by decide))); have := (mUp_no e54 (mUp_no e46 (mUp_no e38 (mUp_no e30 (mUp_no e22 e16 (Or.inl (by decide))) (Or.inl (by decide))) (Or.inl (by decide))) (Or.inl (by decide))) (Or.inl (by decide))); omega, by have := (mUp_no e54 (mUp_no e46 (mUp_no e38 (mUp_at e30) (Or.inr (by decide))) (Or.inr (by decide))) (Or.inr (by decide))); have := (mUp_no e54 (mUp_no e46 (mUp_no e38 (mUp_no e30 e24 (Or.inl (by decide))) (Or.inl (by decide))) (Or.inl (by decide))) (Or.inl (by decide))); omega, by have := (mUp_no e54 (mUp_no e46 (mUp_no e38 (mUp_at e30) (Or.inr (by decide))) (Or.inr (by decide))) (Or.inr (by decide))); have := (mUp_no e54 (mUp_no e46 (mUp_no e38 (mUp_no e30 e24 (Or.inl (by decide))) (Or.inl (by decide))) (Or.inl (by decide))) (Or.inl (by decide))); omega, by have := (mUp_no e54 (mUp_no e46 (mUp_at e38) (Or.inr (by decide))) (Or.inr (by decide))); have := (mUp_no e54 (mUp_no e46 (mUp_no e38 e32 (Or.inl (by decide))) (Or.inl (by decide))) (Or.inl (by decide))); omega, by have := (mUp_no e54 (mUp_no e46 (mUp_at e38) (Or.inr (by decide))) (Or.inr (by decide))); have := (mUp_no e54 (mUp_no e46 (mUp_no e38 e32 (Or.inl (by decide))) (Or.inl (by decide))) (Or.inl (by decide))); omega, by have := (mUp_no e54 (mUp_at e46) (Or.inr (by decide))); have := (mUp_no e54 (mUp_no e46 e40 (Or.inl (by decide))) (Or.inl (by decide))); omega, by have := (mUp_no e54 (mUp_at e46) (Or.inr (by decide))); have := (mUp_no e54 (mUp_no e46 e40 (Or.inl (by decide))) (Or.inl (by decide))); omega, by have := (mUp_at e54); have := (mUp_no e54 e48 (Or.inl (by decide))); omega, by have := (mUp_at e54); have := (mUp_no e54 e48 (Or.inl (by decide))); omega, fun k a b => ((fun k => mUp_no e54 ((fun k => mUp_no e46 ((fun k => mUp_no e38 ((fun k => mUp_no e30 ((fun k => mUp_no e22 ((fun k => mUp_no e14 (hu6 k) (Or.inl (by decide))) k) (Or.inl (by decide))) k) (Or.inl (by decide))) k) (Or.inl (by decide))) k) (Or.inl (by decide))) k) (Or.inl (by decide))) k).trans (cq k a b), SZk_eq (six (P := fun i => M51 2 i = M0 7 i) ((mUp_no e54 (mUp_no e46 (mUp_no e38 (mUp_no e30 (mUp_no e22 (mUp_at e14) (Or.inr (by decide))) (Or.inr (by decide))) (Or.inr (by decide))) (Or.inr (by decide))) (Or.inr (by decide))).trans ((hF53.at g_7_1 rfl).symm.trans (mUp_no e54 (mUp_no e46 (mUp_no e38 (mUp_no e30 (mUp_no e22 (mUp_no e14 e8 (Or.inl (by decide))) (Or.inl (by decide))) (Or.inl (by decide))) (Or.inl (by decide))) (Or.inl (by decide))) (Or.inl (by decide)))).symm) ((mUp_no e54 (mUp_no e46 (mUp_no e38 (mUp_no e30 (mUp_at e22) (Or.inr (by decide))) (Or.inr (by decide))) (Or.inr (by decide))) (Or.inr (by decide))).trans ((hF53.at g_7_2 rfl).symm.trans (mUp_no e54 (mUp_no e46 (mUp_no e38 (mUp_no e30 (mUp_no e22 e16 (Or.inl (by decide))) (Or.inl (by decide))) (Or.inl (by decide))) (Or.inl (by decide))) (Or.inl (by decide)))).symm) ((mUp_no e54 (mUp_no e46 (mUp_no e38 (mUp_at e30) (Or.inr (by decide))) (Or.inr (by decide))) (Or.inr (by decide))).trans ((hF53.at g_7_3 rfl).symm.trans (mUp_no e54 (mUp_no e46 (mUp_no e38 (mUp_no e30 e24 (Or.inl (by decide))) (Or.inl (by decide))) (Or.inl (by decide))) (Or.inl (by decide)))).symm) ((mUp_no e54 (mUp_no e46 (mUp_at e38) (Or.inr (by decide))) (Or.inr (by decide))).trans ((hF53.at g_7_4 rfl).symm.trans (mUp_no e54 (mUp_no e46 (mUp_no e38 e32 (Or.inl (by decide))) (Or.inl (by decide))) (Or.inl (by decide)))).symm) ((mUp_no e54 (mUp_at e46) (Or.inr (by decide))).trans ((hF53.at g_7_5 rfl).symm.trans (mUp_no e54 (mUp_no e46 e40 (Or.inl (by decide))) (Or.inl (by decide)))).symm) ((mUp_at e54).trans ((hF53.at g_7_6 rfl).symm.trans (mUp_no e54 e48 (Or.inl (by decide)))).symm)) (fun k a b => by rw [(fun k => mUp_no e54 ((fun k => mUp_no e46 ((fun k => mUp_no e38 ((fun k => mUp_no e30 ((fun k => mUp_no e22 ((fun k => mUp_no e14 (hu6 k) (Or.inl (by decide))) k) (Or.inl (by decide))) k) (Or.inl (by decide))) k) (Or.inl (by decide))) k) (Or.inl (by decide))) k) (Or.inl (by decide))) k]; exact cq k a b) (bf_7_1 hP0).2⟩)
def fm_n7226_138 : Nat := 78580196721694970065453056
/-- IslandHall$Tale.begin -/
theorem n7226_138 {B : eB} (d : Nat) (M0 : Mm) (c1 : Int) (hP0 : Pw M0) (hC1 : isC c1) (xp0 : okH 30 (CL M0 c1) 0) : Ct B (d + 5) 226 [R 138, R c1] M0 (qV fun M => Pw M ∧ Fr fm_n7226_138 M0 M ∧ 0 ≤ (-1) * (M 138 5) ∧ ((∀ (j : Int) (b : Nat) (x : Bool), 0 ≤ j → j < M0 10 10 → b < 64 → runF (stV M0 17 11 j b) (CL M0 c1) [] = [x] → tb M 155 j b = x) ∧ ∀ a i : Int, a ≠ 138 → a ≠ 12 → a ≠ 155 → M a i = M0 a i)) := by
  refine ct_of (d := d + 4) (k := 0) (L := [some (R 138), some (R c1)]) rfl rfl rfl ?_
  have hF0 := Fr.rf fm_n7226_138 M0
  generalize hQ : (qV fun M => Pw M ∧ Fr fm_n7226_138 M0 M ∧ 0 ≤ (-1) * (M 138 5) ∧ ((∀ (j : Int) (b : Nat) (x : Bool), 0 ≤ j → j < M0 10 10 → b < 64 → runF (stV M0 17 11 j b) (CL M0 c1) [] = [x] → tb M 155 j b = x) ∧ ∀ a i : Int, a ≠ 138 → a ≠ 12 → a ≠ 155 → M a i = M0 a i)) = Q
  have hst9 : ∀ x ∈ CL M0 c1, stepok x := CL_st hP0 hC1 (bC_1 hP0 hC1).2
  have hcr : c1 = 4 ∨ 679 ≤ c1 := by have := hC1; unfold isC at this; omega
  refine wk_al0 r226_0 (wk_c1 r226_1 (wk_putfi81 r226_2 fd_138_5 (wk_nw g_138_5 rfl hP0 hF0 (uf_138_5 (by decide)) ?_)))
  intro M1 hP2 hF3 e4
  refine wk_al0 r226_5 (wk_getfr r226_6 fd_138_0 (br_138_0 hP2) (wk_al1 r226_9 (wk_al0 r226_10 (wk_getfr r226_11 fd_138_3 (br_138_3 hP2) (wk_c1 r226_14 (wk_raldb r226_15 ar_154 (by decide) (fun q0 q1 => ba_154 hP2 q0 q1) (wk_cv3 r226_16 kc_10_196 rfl (n7196_10_f155 _ M1 c1 (155 + 0) hP2 hC1 (by omega) (by omega) (by rw [show CL M1 c1 = CL M0 c1 from CL_cg (by rw [e4, mUp_ne (Or.inl (by omega))]) (fun k => by rw [e4, mUp_ne (Or.inl (by omega))])]; exact xp0)) (cqV ?_))))))))
  rintro M5 ⟨hP6, hQ7, xh9, xh10⟩
  have hF8 : Fr fm_n7226_138 M0 M5 := hF3.tr hQ7 rfl
  subst hQ; exact wk_ret r226_19 (⟨rfl, hP6, hF8, by have := ((hQ7.at g_138_5 rfl).trans (mUp_at e4)); omega, ⟨fun j b x q0 q1 hb hx => xh9 j b x q0 (by rw [e4, mUp_ne (Or.inl (by decide))]; exact q1) hb (by rw [show CL M1 c1 = CL M0 c1 from CL_cg (by rw [e4, mUp_ne (Or.inl (by omega))]) (fun k => by rw [e4, mUp_ne (Or.inl (by omega))])]; exact (run_cg hst9 (fun r a b => by rw [e4, mUp_ne (Or.inl (by omega))]) (fun i a b => by rw [e4, mUp_ne (Or.inl (by decide))]) (fun i a b => ba_11 hP0 a (by omega))).trans hx), fun a i q0 q1 q2 => (xh10 a i q1 (Or.inl q2)).trans (by rw [e4, mUp_ne (Or.inl q0)])⟩⟩)
def fm_n7024_0 : Nat := 11419375338222587222394769573935541470745351236
set_option maxHeartbeats 20000000 in
/-- IslandHall.island -/
theorem n7024_0 {B : eB} (d : Nat) (M0 : Mm) (p1 : Int) (x0_1 : Int) (x0_9 : Int) (x0_5 : Int) (x2_1 : Int) (x0_11 : Int) (T : Int → Int) (hP0 : Pw M0) (l1 : (-2147483648) ≤ p1) (u1 : p1 ≤ 2147483647) (ex0_1 : M0 0 1 = x0_1) (lx0_1 : 0 ≤ x0_1) (ux0_1 : x0_1 ≤ 500) (ex0_9 : M0 0 9 = x0_9) (lx0_9 : 0 ≤ x0_9) (ux0_9 : x0_9 ≤ 30) (ex0_5 : M0 0 5 = x0_5) (lx0_5 : (-1) ≤ x0_5) (ux0_5 : x0_5 ≤ 500) (ex2_1 : M0 2 1 = x2_1) (lx2_1 : 0 ≤ x2_1) (ux2_1 : x2_1 ≤ 7) (ex0_11 : M0 0 11 = x0_11) (lx0_11 : 0 ≤ x0_11) (ux0_11 : x0_11 ≤ 10) (xp0 : ∀ k : Int, 0 ≤ k → k < x0_1 → (0 ≤ M0 1 k → T k = M0 1 k) ∧ (M0 1 k < 0 → -128 ≤ M0 1 k ∧ T k = M0 1 k + 256)) : Ct B (d + 65) 24 [R 0, I p1] M0 (qX 1 (fun M => Pw M ∧ Fr (fm_n7024_0 ||| 1) M0 M ∧ M (-1) 0 = M0 (-1) 0 + 1 ∧ (M 0 1 = x0_1 ∧ (p1 < 0 ∨ x0_1 < p1) ∧ M 0 9 = M0 0 9 ∧ M 0 5 = M0 0 5 ∧ M 2 1 = M0 2 1 ∧ M 0 11 = M0 0 11) ∧ (∀ a i : Int, 0 ≤ a → M a i = M0 a i)) (qI fun z M => Pw M ∧ Fr fm_n7024_0 M0 M ∧ 0 ≤ z ∧ z ≤ 6 ∧ 0 ≤ p1 ∧ 0 ≤ x0_1 + (-1) * p1 ∧ 0 ≤ (-1) * (M 0 1) ∧ (INR T p1 x0_1 x2_1 x0_9 x0_11 x0_5 0 z (M 2 1) (M 0 9) (M 0 11) (M 0 5)) ∧ (z = 0 → (∃ F : List Int, ISD T p1 (M 2 1) (M 2 2, M 2 3, M 2 5, M 2 6, nrF (fun k => M 3 k) (M 2 4) F) ∧ FLc T p1 (M 2 1) F (CL M 4)) ∧ M 10 9 = TOT M ∧ RWS M 17 136 (M 2 1) (M 2 4) (TOT M) ∧ (∀ i : Int, 0 ≤ i → i < TOT M → WKP M (M 136 i) (M 137 i) i) ∧ (∀ k : Int, M 11 k = 0) ∧ (∀ (j : Int) (b : Nat) (x : Bool), 0 ≤ j → j < M 10 10 → b < 64 → runF (stV M 17 11 j b) (CL M 4) [] = [x] → tb M 155 j b = x) ∧ TOT M ≤ 64 * M 10 10 ∧ M 0 9 = 0 ∧ M 0 11 = 0 ∧ M 0 13 = -1 ∧ M 138 5 = 0 ∧ M 607 6 = -1 ∧ M 613 9 = 0) ∧ (z ≠ 0 → Sm fg_RC M0 M ∧ ∀ c : Int, isC c → c ≠ 4 → CL M c = CL M0 c))) := by
  refine ct_of (d := d + 64) (k := 1) (L := [some (R 0), some (I p1), none]) rfl rfl rfl ?_
  have hF0 := Fr.rf fm_n7024_0 M0
  generalize hQ : (qX 1 (fun M => Pw M ∧ Fr (fm_n7024_0 ||| 1) M0 M ∧ M (-1) 0 = M0 (-1) 0 + 1 ∧ (M 0 1 = x0_1 ∧ (p1 < 0 ∨ x0_1 < p1) ∧ M 0 9 = M0 0 9 ∧ M 0 5 = M0 0 5 ∧ M 2 1 = M0 2 1 ∧ M 0 11 = M0 0 11) ∧ (∀ a i : Int, 0 ≤ a → M a i = M0 a i)) (qI fun z M => Pw M ∧ Fr fm_n7024_0 M0 M ∧ 0 ≤ z ∧ z ≤ 6 ∧ 0 ≤ p1 ∧ 0 ≤ x0_1 + (-1) * p1 ∧ 0 ≤ (-1) * (M 0 1) ∧ (INR T p1 x0_1 x2_1 x0_9 x0_11 x0_5 0 z (M 2 1) (M 0 9) (M 0 11) (M 0 5)) ∧ (z = 0 → (∃ F : List Int, ISD T p1 (M 2 1) (M 2 2, M 2 3, M 2 5, M 2 6, nrF (fun k => M 3 k) (M 2 4) F) ∧ FLc T p1 (M 2 1) F (CL M 4)) ∧ M 10 9 = TOT M ∧ RWS M 17 136 (M 2 1) (M 2 4) (TOT M) ∧ (∀ i : Int, 0 ≤ i → i < TOT M → WKP M (M 136 i) (M 137 i) i) ∧ (∀ k : Int, M 11 k = 0) ∧ (∀ (j : Int) (b : Nat) (x : Bool), 0 ≤ j → j < M 10 10 → b < 64 → runF (stV M 17 11 j b) (CL M 4) [] = [x] → tb M 155 j b = x) ∧ TOT M ≤ 64 * M 10 10 ∧ M 0 9 = 0 ∧ M 0 11 = 0 ∧ M 0 13 = -1 ∧ M 138 5 = 0 ∧ M 607 6 = -1 ∧ M 613 9 = 0) ∧ (z ≠ 0 → Sm fg_RC M0 M ∧ ∀ c : Int, isC c → c ≠ 4 → CL M c = CL M0 c))) = Q
  refine wk_al0 r24_0 (wk_il1 r24_1 (wk_cv2 r24_2 kc_0_40 rfl (n7040_0 _ M0 p1 x0_1 hP0 (by first | with_reducible assumption | omega) (by first | with_reducible assumption | omega) ex0_1 (by first | with_reducible assumption | omega) (by first | with_reducible assumption | omega)) (cqX (fun _ _ x5 => by subst hQ; exact Or.inl ⟨rfl, x5.1, Fr.trx hF0 x5.2.1 rfl, (by rw [x5.2.2.1, hF0.at g_below rfl]), x5.2.2.2.1, x5.2.2.2.2⟩) (cqV ?_))))
  rintro M1 ⟨hP2, hQ3, h8, h9, h10⟩
  have hF4 : Fr fm_n7024_0 M0 M1 := hF0.tr hQ3 rfl
  obtain ⟨v11, e12⟩ : ∃ v, M1 0 1 = v := ⟨_, rfl⟩
  have h13 := (bf_0_1 hP2).1; rw [e12] at h13
  have h14 := (bf_0_1 hP2).2; rw [e12] at h14
  refine wk_al0 r24_5 (wk_getfr r24_6 fd_0_4 (br_0_4 hP2) (wk_il1 r24_9 (wk_al0 r24_10 (wk_getfr r24_11 fd_0_3 (br_0_3 hP2) (wk_cv3 r24_14 kc_6_169 rfl (n7169_6 _ M1 p1 4 T hP2 (by first | with_reducible assumption | omega) (by first | with_reducible assumption | omega) (Or.inl rfl) (fun k a b => by rw [hF4.at (ga_1 k) rfl]; exact xp0 k a (by omega))) (cqI ?_))))))
  rintro v25 M15 ⟨hP16, hQ17, h26, h27, xh19, xh20, xh21, xh22, xh23, xh24⟩
  have hF18 : Fr fm_n7024_0 M0 M15 := hF4.tr hQ17 rfl
  obtain ⟨v28, e29⟩ : ∃ v, M15 6 3 = v := ⟨_, rfl⟩
  have h30 := (bf_6_3 hP16).1; rw [e29] at h30
  have h31 := (bf_6_3 hP16).2; rw [e29] at h31
  obtain ⟨v32, e33⟩ : ∃ v, M15 7 1 = v := ⟨_, rfl⟩
  have h34 := (bf_7_1 hP16).1; rw [e33] at h34
  have h35 := (bf_7_1 hP16).2; rw [e33] at h35
  obtain ⟨v36, e37⟩ : ∃ v, M15 7 2 = v := ⟨_, rfl⟩
  have h38 := (bf_7_2 hP16).1; rw [e37] at h38
  have h39 := (bf_7_2 hP16).2; rw [e37] at h39
  obtain ⟨v40, e41⟩ : ∃ v, M15 7 3 = v := ⟨_, rfl⟩
  have h42 := (bf_7_3 hP16).1; rw [e41] at h42
  have h43 := (bf_7_3 hP16).2; rw [e41] at h43
  obtain ⟨v44, e45⟩ : ∃ v, M15 7 4 = v := ⟨_, rfl⟩
  have h46 := (bf_7_4 hP16).1; rw [e45] at h46
  have h47 := (bf_7_4 hP16).2; rw [e45] at h47
  obtain ⟨v48, e49⟩ : ∃ v, M15 7 5 = v := ⟨_, rfl⟩
  have h50 := (bf_7_5 hP16).1; rw [e49] at h50
  have h51 := (bf_7_5 hP16).2; rw [e49] at h51
  obtain ⟨v52, e53⟩ : ∃ v, M15 7 6 = v := ⟨_, rfl⟩
  have h54 := (bf_7_6 hP16).1; rw [e53] at h54
  have h55 := (bf_7_6 hP16).2; rw [e53] at h55
  have hio9 := xh21; rw [e29] at hio9
  have hpe9 := xh22; rw [e33, e29] at hpe9
  refine wk_is2 r24_17 rfl (wk_al0 r24_18 (wk_al0 r24_19 (wk_getfr r24_20 fd_0_4 (br_0_4 hP16) (wk_getfb r24_23 fd_6_5 (bf_6_5 hP16) ?_))))
  intro v56 h58 h59 e57
  have hpl9 : M15 6 5 = v56 := e57
  rw [hpl9] at hio9
  refine wk_putfi81 r24_26 fd_0_5 (wk_nw g_0_5 rfl hP16 hF18 (uf_0_5 ⟨by omega, by omega⟩) ?_)
  intro M60 hP61 hF62 e63
  refine wk_il2 r24_29 ?_
  refine wk_ifeq r24_30 ⟨by omega, by omega⟩ ?_ ?_
  · intro h64
    refine wk_al0 r24_35 (wk_getfr r24_36 fd_0_2 (br_0_2 hP61) (wk_al0 r24_39 (wk_getfr r24_40 fd_0_4 (br_0_4 hP61) (wk_getfr r24_43 fd_6_1 (br_6_1 hP61) (wk_cv2 r24_46 kc_2_178 rfl (n7178_2_7 _ M60 hP61 (fun k a b => by rw [e63, mUp_ne (Or.inl (by decide))]; exact xh20 k a b)) (cqV ?_))))))
    rintro M65 ⟨hP66, hQ67, h69, h70, h71, h72, h73, h74, h75, h76, h77, h78, h79, h80, xh81, xh82⟩
    have hF68 : Fr fm_n7024_0 M0 M65 := hF62.tr hQ67 rfl
    obtain ⟨v83, e84⟩ : ∃ v, M65 2 1 = v := ⟨_, rfl⟩
    have h85 := (bf_2_1 hP66).1; rw [e84] at h85
    have h86 := (bf_2_1 hP66).2; rw [e84] at h86
    have e87 := ((hQ67.at g_7_1 rfl).trans (mUp_no e63 e33 (Or.inl (by decide))))
    obtain ⟨v88, e89⟩ : ∃ v, M65 2 2 = v := ⟨_, rfl⟩
    have h90 := (bf_2_2 hP66).1; rw [e89] at h90
    have h91 := (bf_2_2 hP66).2; rw [e89] at h91
    have e92 := ((hQ67.at g_7_2 rfl).trans (mUp_no e63 e37 (Or.inl (by decide))))
    obtain ⟨v93, e94⟩ : ∃ v, M65 2 3 = v := ⟨_, rfl⟩
    have h95 := (bf_2_3 hP66).1; rw [e94] at h95
    have h96 := (bf_2_3 hP66).2; rw [e94] at h96
    have e97 := ((hQ67.at g_7_3 rfl).trans (mUp_no e63 e41 (Or.inl (by decide))))
    obtain ⟨v98, e99⟩ : ∃ v, M65 2 4 = v := ⟨_, rfl⟩
    have h100 := (bf_2_4 hP66).1; rw [e99] at h100
    have h101 := (bf_2_4 hP66).2; rw [e99] at h101
    have e102 := ((hQ67.at g_7_4 rfl).trans (mUp_no e63 e45 (Or.inl (by decide))))
    obtain ⟨v103, e104⟩ : ∃ v, M65 2 5 = v := ⟨_, rfl⟩
    have h105 := (bf_2_5 hP66).1; rw [e104] at h105
    have h106 := (bf_2_5 hP66).2; rw [e104] at h106
    have e107 := ((hQ67.at g_7_5 rfl).trans (mUp_no e63 e49 (Or.inl (by decide))))
    obtain ⟨v108, e109⟩ : ∃ v, M65 2 6 = v := ⟨_, rfl⟩
    have h110 := (bf_2_6 hP66).1; rw [e109] at h110
    have h111 := (bf_2_6 hP66).2; rw [e109] at h111
    have e112 := ((hQ67.at g_7_6 rfl).trans (mUp_no e63 e53 (Or.inl (by decide))))
    refine wk_al0 r24_49 (wk_getfr r24_50 fd_0_6 (br_0_6 hP66) (wk_al0 r24_53 (wk_getfr r24_54 fd_0_2 (br_0_2 hP66) ?_)))
    obtain ⟨F9, hI9, hL9⟩ := xh24 (by omega)
    obtain ⟨hr9, hp9⟩ := ISD_rd hI9
    have hpe8 := hpe9 (by omega)
    have hr8 : 1 ≤ v88 ∧ v88 ≤ 4 := by have q : 1 ≤ M15 7 2 ∧ M15 7 2 ≤ 4 := hr9; rw [e37] at q; omega
    have hp8 : 0 ≤ v83 ∧ v83 ≤ 7 := by have q : 0 ≤ M15 6 3 ∧ M15 6 3 ≤ 7 := hp9; rw [e29] at q; omega
    refine wk_cv2 r24_57 kc_10_205 rfl (n7205_10_2 _ M65 v83 v88 v98 hP66 e84 (by first | with_reducible assumption | omega) (by first | with_reducible assumption | omega) e89 (by first | with_reducible assumption | omega) (by first | with_reducible assumption | omega) e99 (by first | with_reducible assumption | omega) (by first | with_reducible assumption | omega) (by rw [xh82, SZk_eq (fun i _ _ => by rw [e63, mUp_ne (Or.inl (by decide))]) (fun k _ _ => by rw [e63, mUp_ne (Or.inl (by decide))]) (bf_7_1 hP16).2]; exact xh19 (by omega))) (cqV ?_)
    rintro M113 ⟨hP114, hQ115, h117, h118, xh119, xh120⟩
    have hF116 : Fr fm_n7024_0 M0 M113 := hF68.tr hQ115 rfl
    obtain ⟨v121, e122⟩ : ∃ v, M113 10 10 = v := ⟨_, rfl⟩
    have h123 := (bf_10_10 hP114).1; rw [e122] at h123
    have h124 := (bf_10_10 hP114).2; rw [e122] at h124
    obtain ⟨v125, e126⟩ : ∃ v, M113 10 9 = v := ⟨_, rfl⟩
    have h127 := (bf_10_9 hP114).1; rw [e126] at h127
    have h128 := (bf_10_9 hP114).2; rw [e126] at h128
    refine wk_al0 r24_60 (wk_getfr r24_61 fd_0_7 (br_0_7 hP114) (wk_al0 r24_64 (wk_getfr r24_65 fd_0_3 (br_0_3 hP114) ?_)))
    refine wk_cv2 r24_68 kc_138_226 rfl (n7226_138 _ M113 4 hP114 (Or.inl rfl) (by rw [(show CL M113 4 = CL M15 4 from CL_cg (by rw [hQ115.at (g_c1 (show isC 4 from Or.inl rfl)) rfl, hQ67.at (g_c1 (show isC 4 from Or.inl rfl)) rfl, e63, mUp_ne (Or.inl (by decide))]) (fun k => by rw [hQ115.at (g_cs (show isC 4 from Or.inl rfl) k) rfl, hQ67.at (g_cs (show isC 4 from Or.inl rfl) k) rfl, e63, mUp_ne (Or.inl (by decide))]))]; exact (FLc_ok hL9).2)) (cqV ?_)
    rintro M129 ⟨hP130, hQ131, h133, xh134⟩
    have hF132 : Fr fm_n7024_0 M0 M129 := hF116.tr hQ131 rfl
    obtain ⟨v135, e136⟩ : ∃ v, M129 138 5 = v := ⟨_, rfl⟩
    have h137 := (bf_138_5 hP130).1; rw [e136] at h137
    have h138 := (bf_138_5 hP130).2; rw [e136] at h138
    refine wk_al0 r24_71 (wk_getfr r24_72 fd_0_12 (br_0_12 hP130) (wk_cv1 r24_75 kc_170_217 rfl (n7217_170 _ M129 hP130) (cqV ?_)))
    rintro M139 ⟨hP140, hQ141, xh143⟩
    have hF142 : Fr fm_n7024_0 M0 M139 := hF132.tr hQ141 rfl
    refine wk_al0 r24_78 (wk_c1 r24_79 (wk_putfi81 r24_80 fd_0_9 (wk_nw g_0_9 rfl hP140 hF142 (uf_0_9 (by decide)) ?_)))
    intro M144 hP145 hF146 e147
    refine wk_al0 r24_83 (wk_c1 r24_84 (wk_putfi81 r24_85 fd_0_11 (wk_nw g_0_11 rfl hP145 hF146 (uf_0_11 (by decide)) ?_)))
    intro M148 hP149 hF150 e151
    refine wk_al0 r24_88 (wk_c1 r24_89 (wk_putfi81 r24_90 fd_0_13 (wk_nw g_0_13 rfl hP149 hF150 (uf_0_13 (by decide)) ?_)))
    intro M152 hP153 hF154 e155
    refine wk_al0 r24_93 (wk_getfr r24_94 fd_0_16 (br_0_16 hP153) (wk_c1 r24_97 (wk_putfi81 r24_98 fd_607_6 (wk_nw g_607_6 rfl hP153 hF154 (uf_607_6 (by decide)) ?_))))
    intro M156 hP157 hF158 e159
    refine wk_al0 r24_101 (wk_getfr r24_102 fd_0_17 (br_0_17 hP157) (wk_c1 r24_105 (wk_putfi81 r24_106 fd_613_9 (wk_nw g_613_9 rfl hP157 hF158 (uf_613_9 (by decide)) ?_))))
    intro M160 hP161 hF162 e163
    refine wk_c1 r24_109 ?_
    subst hQ; exact wk_iret r24_110 (Or.inr ⟨rfl, _, rfl, hP161, hF162, by omega, by omega, by omega, by omega, by have := (mUp_no e163 (mUp_no e159 (mUp_no e155 (mUp_no e151 (mUp_no e147 ((hQ141.at g_0_1 rfl).trans ((hQ131.at g_0_1 rfl).trans ((hQ115.at g_0_1 rfl).trans ((hQ67.at g_0_1 rfl).trans (mUp_no e63 ((hQ17.at g_0_1 rfl).trans e12) (Or.inr (by decide))))))) (Or.inr (by decide))) (Or.inr (by decide))) (Or.inr (by decide))) (Or.inl (by decide))) (Or.inl (by decide))); omega, by rw [(mUp_no e163 (mUp_no e159 (mUp_no e155 (mUp_no e151 (mUp_no e147 ((hQ141.at g_2_1 rfl).trans ((hQ131.at g_2_1 rfl).trans ((hQ115.at g_2_1 rfl).trans e84))) (Or.inl (by decide))) (Or.inl (by decide))) (Or.inl (by decide))) (Or.inl (by decide))) (Or.inl (by decide))), (mUp_no e163 (mUp_no e159 (mUp_no e155 (mUp_no e151 (mUp_at e147) (Or.inr (by decide))) (Or.inr (by decide))) (Or.inl (by decide))) (Or.inl (by decide))), (mUp_no e163 (mUp_no e159 (mUp_no e155 (mUp_at e151) (Or.inr (by decide))) (Or.inl (by decide))) (Or.inl (by decide))), (mUp_no e163 (mUp_no e159 (mUp_no e155 (mUp_no e151 (mUp_no e147 ((hQ141.at g_0_5 rfl).trans ((hQ131.at g_0_5 rfl).trans ((hQ115.at g_0_5 rfl).trans ((hQ67.at g_0_5 rfl).trans (mUp_at e63))))) (Or.inr (by decide))) (Or.inr (by decide))) (Or.inr (by decide))) (Or.inl (by decide))) (Or.inl (by decide)))]; exact INR_r (by rw [show (0 : Int) = v25 by omega]; exact hio9) (by omega) (by omega) rfl (Or.inl ⟨rfl, by have := hpe9 (by omega); omega, by omega, by omega⟩), (by
      intro _
      have hE2 : ∀ k : Int, 0 ≤ k → k < 7 → M160 2 k = M65 2 k := fun k a b => by rw [e163, mUp_ne (Or.inl (by decide)), e159, mUp_ne (Or.inl (by decide)), e155, mUp_ne (Or.inl (by decide)), e151, mUp_ne (Or.inl (by decide)), e147, mUp_ne (Or.inl (by decide)), pl_fr0 hQ141 rfl rfl rfl rfl rfl rfl rfl k a b, pl_fr0 hQ131 rfl rfl rfl rfl rfl rfl rfl k a b, pl_fr0 hQ115 rfl rfl rfl rfl rfl rfl rfl k a b]
      have hE3 : ∀ k : Int, M160 3 k = M65 3 k := fun k => by rw [e163, mUp_ne (Or.inl (by decide)), e159, mUp_ne (Or.inl (by decide)), e155, mUp_ne (Or.inl (by decide)), e151, mUp_ne (Or.inl (by decide)), e147, mUp_ne (Or.inl (by decide)), hQ141.at (ga_3 k) rfl, hQ131.at (ga_3 k) rfl, hQ115.at (ga_3 k) rfl]
      have hE8 : ∀ k : Int, 0 ≤ k → k < 7 → M160 3 k = M15 8 k := fun k a b => (hE3 k).trans ((xh81 k a b).trans (by rw [e63, mUp_ne (Or.inl (by decide))]))
      have hD1 : M160 2 1 = M15 6 3 := by rw [(mUp_no e163 (mUp_no e159 (mUp_no e155 (mUp_no e151 (mUp_no e147 ((hQ141.at g_2_1 rfl).trans ((hQ131.at g_2_1 rfl).trans ((hQ115.at g_2_1 rfl).trans e84))) (Or.inl (by decide))) (Or.inl (by decide))) (Or.inl (by decide))) (Or.inl (by decide))) (Or.inl (by decide))), e29]; omega
      have hD2 : M160 2 2 = M15 7 2 := by rw [(mUp_no e163 (mUp_no e159 (mUp_no e155 (mUp_no e151 (mUp_no e147 ((hQ141.at g_2_2 rfl).trans ((hQ131.at g_2_2 rfl).trans ((hQ115.at g_2_2 rfl).trans e89))) (Or.inl (by decide))) (Or.inl (by decide))) (Or.inl (by decide))) (Or.inl (by decide))) (Or.inl (by decide))), e37]; omega
      have hD3 : M160 2 3 = M15 7 3 := by rw [(mUp_no e163 (mUp_no e159 (mUp_no e155 (mUp_no e151 (mUp_no e147 ((hQ141.at g_2_3 rfl).trans ((hQ131.at g_2_3 rfl).trans ((hQ115.at g_2_3 rfl).trans e94))) (Or.inl (by decide))) (Or.inl (by decide))) (Or.inl (by decide))) (Or.inl (by decide))) (Or.inl (by decide))), e41]; omega
      have hD4 : M160 2 4 = M15 7 4 := by rw [(mUp_no e163 (mUp_no e159 (mUp_no e155 (mUp_no e151 (mUp_no e147 ((hQ141.at g_2_4 rfl).trans ((hQ131.at g_2_4 rfl).trans ((hQ115.at g_2_4 rfl).trans e99))) (Or.inl (by decide))) (Or.inl (by decide))) (Or.inl (by decide))) (Or.inl (by decide))) (Or.inl (by decide))), e45]; omega
      have hD5 : M160 2 5 = M15 7 5 := by rw [(mUp_no e163 (mUp_no e159 (mUp_no e155 (mUp_no e151 (mUp_no e147 ((hQ141.at g_2_5 rfl).trans ((hQ131.at g_2_5 rfl).trans ((hQ115.at g_2_5 rfl).trans e104))) (Or.inl (by decide))) (Or.inl (by decide))) (Or.inl (by decide))) (Or.inl (by decide))) (Or.inl (by decide))), e49]; omega
      have hD6 : M160 2 6 = M15 7 6 := by rw [(mUp_no e163 (mUp_no e159 (mUp_no e155 (mUp_no e151 (mUp_no e147 ((hQ141.at g_2_6 rfl).trans ((hQ131.at g_2_6 rfl).trans ((hQ115.at g_2_6 rfl).trans e109))) (Or.inl (by decide))) (Or.inl (by decide))) (Or.inl (by decide))) (Or.inl (by decide))) (Or.inl (by decide))), e53]; omega
      have hRw : ∀ r j : Int, 0 ≤ r → r ≤ 118 → M160 (17 + r) j = M113 (17 + r) j := fun r j q0 q1 => by rw [e163, mUp_ne (Or.inl (by omega)), e159, mUp_ne (Or.inl (by omega)), e155, mUp_ne (Or.inl (by omega)), e151, mUp_ne (Or.inl (by omega)), e147, mUp_ne (Or.inl (by omega)), hQ141.at (gr_17 (by omega) (by omega) _) rfl, hQ131.at (gr_17 (by omega) (by omega) _) rfl]
      have hR11 : ∀ i : Int, M160 11 i = M113 11 i := fun i => by rw [e163, mUp_ne (Or.inl (by decide)), e159, mUp_ne (Or.inl (by decide)), e155, mUp_ne (Or.inl (by decide)), e151, mUp_ne (Or.inl (by decide)), e147, mUp_ne (Or.inl (by decide)), hQ141.at (ga_11 i) rfl, hQ131.at (ga_11 i) rfl]
      have hR136 : ∀ i : Int, M160 136 i = M113 136 i := fun i => by rw [e163, mUp_ne (Or.inl (by decide)), e159, mUp_ne (Or.inl (by decide)), e155, mUp_ne (Or.inl (by decide)), e151, mUp_ne (Or.inl (by decide)), e147, mUp_ne (Or.inl (by decide)), hQ141.at (ga_136 i) rfl, hQ131.at (ga_136 i) rfl]
      have hR137 : ∀ i : Int, M160 137 i = M113 137 i := fun i => by rw [e163, mUp_ne (Or.inl (by decide)), e159, mUp_ne (Or.inl (by decide)), e155, mUp_ne (Or.inl (by decide)), e151, mUp_ne (Or.inl (by decide)), e147, mUp_ne (Or.inl (by decide)), hQ141.at (ga_137 i) rfl, hQ131.at (ga_137 i) rfl]
      have hTT : TOT M160 = TOT M65 := TOT_fr hE2 hE3
      have h21 : M160 2 1 = v83 := (mUp_no e163 (mUp_no e159 (mUp_no e155 (mUp_no e151 (mUp_no e147 ((hQ141.at g_2_1 rfl).trans ((hQ131.at g_2_1 rfl).trans ((hQ115.at g_2_1 rfl).trans e84))) (Or.inl (by decide))) (Or.inl (by decide))) (Or.inl (by decide))) (Or.inl (by decide))) (Or.inl (by decide)))
      have h24 : M160 2 4 = v98 := (mUp_no e163 (mUp_no e159 (mUp_no e155 (mUp_no e151 (mUp_no e147 ((hQ141.at g_2_4 rfl).trans ((hQ131.at g_2_4 rfl).trans ((hQ115.at g_2_4 rfl).trans e99))) (Or.inl (by decide))) (Or.inl (by decide))) (Or.inl (by decide))) (Or.inl (by decide))) (Or.inl (by decide)))
      have hCL : CL M160 4 = CL M15 4 := (show CL M160 4 = CL M15 4 from CL_cg (by rw [e163, mUp_ne (Or.inl (by decide)), e159, mUp_ne (Or.inl (by decide)), e155, mUp_ne (Or.inl (by decide)), e151, mUp_ne (Or.inl (by decide)), e147, mUp_ne (Or.inl (by decide)), hQ141.at (g_c1 (show isC 4 from Or.inl rfl)) rfl, hQ131.at (g_c1 (show isC 4 from Or.inl rfl)) rfl, hQ115.at (g_c1 (show isC 4 from Or.inl rfl)) rfl, hQ67.at (g_c1 (show isC 4 from Or.inl rfl)) rfl, e63, mUp_ne (Or.inl (by decide))]) (fun k => by rw [e163, mUp_ne (Or.inl (by decide)), e159, mUp_ne (Or.inl (by decide)), e155, mUp_ne (Or.inl (by decide)), e151, mUp_ne (Or.inl (by decide)), e147, mUp_ne (Or.inl (by decide)), hQ141.at (g_cs (show isC 4 from Or.inl rfl) k) rfl, hQ131.at (g_cs (show isC 4 from Or.inl rfl) k) rfl, hQ115.at (g_cs (show isC 4 from Or.inl rfl) k) rfl, hQ67.at (g_cs (show isC 4 from Or.inl rfl) k) rfl, e63, mUp_ne (Or.inl (by decide))]))
      have hCb : CL M160 4 = CL M113 4 := (show CL M160 4 = CL M113 4 from CL_cg (by rw [e163, mUp_ne (Or.inl (by decide)), e159, mUp_ne (Or.inl (by decide)), e155, mUp_ne (Or.inl (by decide)), e151, mUp_ne (Or.inl (by decide)), e147, mUp_ne (Or.inl (by decide)), hQ141.at (g_c1 (show isC 4 from Or.inl rfl)) rfl, hQ131.at (g_c1 (show isC 4 from Or.inl rfl)) rfl]) (fun k => by rw [e163, mUp_ne (Or.inl (by decide)), e159, mUp_ne (Or.inl (by decide)), e155, mUp_ne (Or.inl (by decide)), e151, mUp_ne (Or.inl (by decide)), e147, mUp_ne (Or.inl (by decide)), hQ141.at (g_cs (show isC 4 from Or.inl rfl) k) rfl, hQ131.at (g_cs (show isC 4 from Or.inl rfl) k) rfl]))
      obtain ⟨s1, s2, s3⟩ := xh119
      obtain ⟨b1, -⟩ := xh134
      have e1010 : M160 10 10 = M113 10 10 := by rw [e163, mUp_ne (Or.inl (by decide)), e159, mUp_ne (Or.inl (by decide)), e155, mUp_ne (Or.inl (by decide)), e151, mUp_ne (Or.inl (by decide)), e147, mUp_ne (Or.inl (by decide)), hQ141.at g_10_10 rfl, hQ131.at g_10_10 rfl]
      have e109 : M160 10 9 = M113 10 9 := by rw [e163, mUp_ne (Or.inl (by decide)), e159, mUp_ne (Or.inl (by decide)), e155, mUp_ne (Or.inl (by decide)), e151, mUp_ne (Or.inl (by decide)), e147, mUp_ne (Or.inl (by decide)), hQ141.at g_10_9 rfl, hQ131.at g_10_9 rfl]
      have hst9 : ∀ x ∈ CL M113 4, stepok x := CL_st hP114 (Or.inl rfl) (bC_1 hP114 (Or.inl rfl)).2
      refine ⟨⟨F9, ?_, ?_⟩, ?_, ?_, ?_, fun i => (hR11 i).trans (xh120 i), fun j b x q0 q1 hb hx => (tb_eq (show M160 155 j = M129 155 j by rw [e163, mUp_ne (Or.inl (by decide)), e159, mUp_ne (Or.inl (by decide)), e155, mUp_ne (Or.inl (by decide)), e151, mUp_ne (Or.inl (by decide)), e147, mUp_ne (Or.inl (by decide)), hQ141.at (ga_155 j) rfl]) b).trans (b1 j b x q0 (by rw [← e1010]; exact q1) hb (by rw [hCb] at hx; rw [run_cg hst9 (fun r a b => hRw r j a b) (fun i a b => hR11 i) (fun i a b => ba_11 hP114 a b)] at hx; exact hx)), ?_, (mUp_no e163 (mUp_no e159 (mUp_no e155 (mUp_no e151 (mUp_at e147) (Or.inr (by decide))) (Or.inr (by decide))) (Or.inl (by decide))) (Or.inl (by decide))), (mUp_no e163 (mUp_no e159 (mUp_no e155 (mUp_at e151) (Or.inr (by decide))) (Or.inl (by decide))) (Or.inl (by decide))), (mUp_no e163 (mUp_no e159 (mUp_at e155) (Or.inl (by decide))) (Or.inl (by decide))), ?_, (mUp_no e163 (mUp_at e159) (Or.inl (by decide))), (mUp_at e163)⟩
      · rw [hD1, hD2, hD3, hD5, hD6, nr_eq (fun k a b => hE8 k a b) hD4 rfl]; exact hI9
      · rw [hD1, hCL]; exact hL9
      · rw [e109, hTT]; exact s1
      · rw [h21, h24, hTT]; exact RWS_fr s2 (fun r j q0 q1 => hRw r j q0 q1) (fun i => hR136 i)
      · intro i a b; rw [hTT] at b; rw [WKP_fr hE2 hE3, hR136, hR137]; exact s3 i a b
      · rw [hTT, ← s1, e126, e1010, e122]; omega
      · have q8 := (mUp_no e163 (mUp_no e159 (mUp_no e155 (mUp_no e151 (mUp_no e147 ((hQ141.at g_138_5 rfl).trans e136) (Or.inl (by decide))) (Or.inl (by decide))) (Or.inl (by decide))) (Or.inl (by decide))) (Or.inl (by decide))); omega), fun q => absurd (show (0 : Int) = 0 by omega) q⟩)
  · intro h164
    refine wk_il2 r24_33 ?_
    subst hQ; exact wk_iret r24_34 (Or.inr ⟨rfl, _, rfl, hP61, hF62, by omega, by omega, by omega, by omega, by have := (mUp_no e63 ((hQ17.at g_0_1 rfl).trans e12) (Or.inr (by decide))); omega, by rw [(mUp_no e63 ((hQ17.at g_2_1 rfl).trans ((hQ3.at g_2_1 rfl).trans ex2_1)) (Or.inl (by decide))), (mUp_no e63 ((hQ17.at g_0_9 rfl).trans ((hQ3.at g_0_9 rfl).trans ex0_9)) (Or.inr (by decide))), (mUp_no e63 ((hQ17.at g_0_11 rfl).trans ((hQ3.at g_0_11 rfl).trans ex0_11)) (Or.inr (by decide))), (mUp_at e63)]; exact INR_r hio9 (by omega) (by omega) rfl (by omega), fun q => absurd q (by omega), fun _ => ⟨(Sm_tr (Sm_tr (Sm.fr hQ3 rfl) (Sm.fr hQ17 rfl)) (Sm.up e63 g_0_5 rfl)), fun c hc hn => (show CL M60 c = CL M15 c from CL_cg (by rw [e63, mUp_ne (Or.inl (by have := hc; unfold isC at this; omega))]) (fun k => by rw [e63, mUp_ne (Or.inl (by have := hc; unfold isC at this; omega))])).trans ((xh23 c hc hn).trans (CL_cg (by rw [hQ3.at (g_c1 hc) rfl]) (fun k => by rw [hQ3.at (g_cs hc k) rfl])))⟩⟩)
