/-! ===== written by program (wip/layer2/wrap.py): the law's calls of which a throw is caught ===== -/
theorem ar_769 : Ar 769 102 1 := ar_of (by decide) (by decide) (by decide +kernel)
theorem ua_769 {i z : Int} (hz : 0 ≤ z ∧ z ≤ 18446744073709551615) : Bd 769 i z := Bd.of0 (gr_769 (by decide) (by decide) i) rfl rfl rfl rfl rfl hz
theorem r247_0 : Rw 247 0 2 2 15 4 0 0 := rw_of (by decide +kernel)
theorem r247_2 : Rw 247 2 3 1 1 (cd 0) 1 0 := rw_of (by decide +kernel)
theorem r247_3 : Rw 247 3 4 1 14 0 0 0 := rw_of (by decide +kernel)
theorem r247_4 : Rw 247 4 5 1 10 1 0 0 := rw_of (by decide +kernel)
theorem r247_5 : Rw 247 5 6 1 10 2 0 0 := rw_of (by decide +kernel)
theorem r247_6 : Rw 247 6 7 1 10 3 0 0 := rw_of (by decide +kernel)
theorem r247_7 : Rw 247 7 10 3 111 11 4 30 := rw_of (by decide +kernel)
theorem r247_10 : Rw 247 10 11 1 48 0 0 0 := rw_of (by decide +kernel)
theorem r247_11 : Rw 247 11 12 1 89 0 0 0 := rw_of (by decide +kernel)
theorem r247_12 : Rw 247 12 15 3 60 19 0 0 := rw_of (by decide +kernel)
theorem r247_19 : Rw 247 19 20 1 1 (cd 0) 1 0 := rw_of (by decide +kernel)
theorem r247_20 : Rw 247 20 21 1 74 0 0 0 := rw_of (by decide +kernel)
theorem kc_0_11 : Kc 0 11 := kc_of (by decide) (by decide +kernel)
theorem r248_0 : Rw 248 0 1 1 14 2 0 0 := rw_of (by decide +kernel)
theorem r248_1 : Rw 248 1 2 1 1 (cd 0) 1 0 := rw_of (by decide +kernel)
theorem r248_2 : Rw 248 2 3 1 14 0 0 0 := rw_of (by decide +kernel)
theorem r248_3 : Rw 248 3 4 1 10 1 0 0 := rw_of (by decide +kernel)
theorem r248_4 : Rw 248 4 7 3 111 13 2 43 := rw_of (by decide +kernel)
theorem r248_7 : Rw 248 7 8 1 48 0 0 0 := rw_of (by decide +kernel)
theorem r248_8 : Rw 248 8 9 1 89 0 0 0 := rw_of (by decide +kernel)
theorem r248_9 : Rw 248 9 12 3 60 15 0 0 := rw_of (by decide +kernel)
theorem r248_15 : Rw 248 15 16 1 1 (cd 0) 1 0 := rw_of (by decide +kernel)
theorem r248_16 : Rw 248 16 17 1 74 0 0 0 := rw_of (by decide +kernel)
theorem kc_0_13 : Kc 0 13 := kc_of (by decide) (by decide +kernel)
theorem lw_can {B : eB} (d : Nat) (M0 : Mm) (p1 : Int) (hP0 : Pw M0) (l1 : (-2147483648) ≤ p1) (u1 : p1 ≤ 2147483647) : Ct B (d + 3) 248 [R 0, I p1, R 769] M0 (qI fun z M => Pw M ∧ Fr (fm_m13_0 ||| 1852673427797059126777135760139006525652319754650249024631321344126610074238977) M0 M ∧ 0 ≤ z ∧ z ≤ 1 ∧ M0 (-1) 0 ≤ M (-1) 0 ∧ M (-1) 0 ≤ M0 (-1) 0 + 1) := by
  refine ct_of (d := d + 2) (k := 1) (L := [some (R 0), some (I p1), some (R 769), none]) rfl rfl rfl ?_
  generalize hQ : (qI fun z M => Pw M ∧ Fr (fm_m13_0 ||| 1852673427797059126777135760139006525652319754650249024631321344126610074238977) M0 M ∧ 0 ≤ z ∧ z ≤ 1 ∧ M0 (-1) 0 ≤ M (-1) 0 ∧ M (-1) 0 ≤ M0 (-1) 0 + 1) = Q
  refine wk_al2 r248_0 (wk_c1 r248_1 (wk_al0 r248_2 (wk_il1 r248_3 (wk_cc2 r248_4 kc_0_13 rfl (m13_0 _ M0 p1 hP0 l1 u1) (ccI (by decide) ?_ ?_)))))
  · rintro M ⟨h1, h2, h3⟩
    subst hQ
    exact ⟨rfl, 1, rfl, h1, (Fr.rf (fm_m13_0 ||| 1852673427797059126777135760139006525652319754650249024631321344126610074238977) M0).tr h2 rfl, by decide, by decide, by omega, by omega⟩
  · rintro z M ⟨h1, h2, h3, h4⟩
    have hF := (Fr.rf (fm_m13_0 ||| 1852673427797059126777135760139006525652319754650249024631321344126610074238977) M0).tr h2 rfl
    have hg : M (-1) 0 = M0 (-1) 0 := h2.at g_below rfl
    refine wk_i2lb r248_7 ⟨by omega, by omega⟩ ?_
    intro n hn _
    refine wk_last r248_8 ar_769 (by decide) (wk_nw (gr_769 (by decide) (by decide) _) rfl h1 hF (ua_769 ⟨by omega, by omega⟩) ?_)
    intro M5 hP5 hF5 e5
    have hg5 : M5 (-1) 0 = M0 (-1) 0 := mUp_no e5 hg (Or.inl (by decide))
    refine wk_goto r248_9 (wk_c1 r248_15 ?_)
    subst hQ
    exact wk_iret r248_16 ⟨rfl, _, rfl, hP5, hF5, by decide, by decide, by omega, by omega⟩
theorem r249_0 : Rw 249 0 1 1 14 3 0 0 := rw_of (by decide +kernel)
theorem r249_1 : Rw 249 1 2 1 1 (cd 0) 1 0 := rw_of (by decide +kernel)
theorem r249_2 : Rw 249 2 3 1 14 0 0 0 := rw_of (by decide +kernel)
theorem r249_3 : Rw 249 3 4 1 10 1 0 0 := rw_of (by decide +kernel)
theorem r249_4 : Rw 249 4 5 1 10 2 0 0 := rw_of (by decide +kernel)
theorem r249_5 : Rw 249 5 8 3 111 14 3 46 := rw_of (by decide +kernel)
theorem r249_8 : Rw 249 8 9 1 48 0 0 0 := rw_of (by decide +kernel)
theorem r249_9 : Rw 249 9 10 1 89 0 0 0 := rw_of (by decide +kernel)
theorem r249_10 : Rw 249 10 13 3 60 17 0 0 := rw_of (by decide +kernel)
theorem r249_17 : Rw 249 17 18 1 1 (cd 0) 1 0 := rw_of (by decide +kernel)
theorem r249_18 : Rw 249 18 19 1 74 0 0 0 := rw_of (by decide +kernel)
theorem kc_0_14 : Kc 0 14 := kc_of (by decide) (by decide +kernel)
theorem lw_could {B : eB} (d : Nat) (M0 : Mm) (p1 : Int) (p2 : Int) (hP0 : Pw M0) (l1 : (-2147483648) ≤ p1) (u1 : p1 ≤ 2147483647) (l2 : (-2147483648) ≤ p2) (u2 : p2 ≤ 2147483647) : Ct B (d + 5) 249 [R 0, I p1, I p2, R 769] M0 (qI fun z M => Pw M ∧ Fr (fm_m14_0 ||| 1852673427797059126777135760139006525652319754650249024631321344126610074238977) M0 M ∧ 0 ≤ z ∧ z ≤ 1 ∧ M0 (-1) 0 ≤ M (-1) 0 ∧ M (-1) 0 ≤ M0 (-1) 0 + 1) := by
  refine ct_of (d := d + 4) (k := 1) (L := [some (R 0), some (I p1), some (I p2), some (R 769), none]) rfl rfl rfl ?_
  generalize hQ : (qI fun z M => Pw M ∧ Fr (fm_m14_0 ||| 1852673427797059126777135760139006525652319754650249024631321344126610074238977) M0 M ∧ 0 ≤ z ∧ z ≤ 1 ∧ M0 (-1) 0 ≤ M (-1) 0 ∧ M (-1) 0 ≤ M0 (-1) 0 + 1) = Q
  refine wk_al3 r249_0 (wk_c1 r249_1 (wk_al0 r249_2 (wk_il1 r249_3 (wk_il2 r249_4 (wk_cc3 r249_5 kc_0_14 rfl (m14_0 _ M0 p1 p2 hP0 l1 u1 l2 u2) (ccI (by decide) ?_ ?_))))))
  · rintro M ⟨h1, h2, h3⟩
    subst hQ
    exact ⟨rfl, 1, rfl, h1, (Fr.rf (fm_m14_0 ||| 1852673427797059126777135760139006525652319754650249024631321344126610074238977) M0).tr h2 rfl, by decide, by decide, by omega, by omega⟩
  · rintro z M ⟨h1, h2, h3, h4⟩
    have hF := (Fr.rf (fm_m14_0 ||| 1852673427797059126777135760139006525652319754650249024631321344126610074238977) M0).tr h2 rfl
    have hg : M (-1) 0 = M0 (-1) 0 := h2.at g_below rfl
    refine wk_i2lb r249_8 ⟨by omega, by omega⟩ ?_
    intro n hn _
    refine wk_last r249_9 ar_769 (by decide) (wk_nw (gr_769 (by decide) (by decide) _) rfl h1 hF (ua_769 ⟨by omega, by omega⟩) ?_)
    intro M5 hP5 hF5 e5
    have hg5 : M5 (-1) 0 = M0 (-1) 0 := mUp_no e5 hg (Or.inl (by decide))
    refine wk_goto r249_10 (wk_c1 r249_17 ?_)
    subst hQ
    exact wk_iret r249_18 ⟨rfl, _, rfl, hP5, hF5, by decide, by decide, by omega, by omega⟩
theorem r250_0 : Rw 250 0 1 1 14 2 0 0 := rw_of (by decide +kernel)
theorem r250_1 : Rw 250 1 2 1 1 (cd 0) 1 0 := rw_of (by decide +kernel)
theorem r250_2 : Rw 250 2 3 1 14 0 0 0 := rw_of (by decide +kernel)
theorem r250_3 : Rw 250 3 4 1 10 1 0 0 := rw_of (by decide +kernel)
theorem r250_4 : Rw 250 4 7 3 111 15 2 18 := rw_of (by decide +kernel)
theorem r250_7 : Rw 250 7 8 1 48 0 0 0 := rw_of (by decide +kernel)
theorem r250_8 : Rw 250 8 9 1 89 0 0 0 := rw_of (by decide +kernel)
theorem r250_9 : Rw 250 9 12 3 60 15 0 0 := rw_of (by decide +kernel)
theorem r250_15 : Rw 250 15 16 1 1 (cd 0) 1 0 := rw_of (by decide +kernel)
theorem r250_16 : Rw 250 16 17 1 74 0 0 0 := rw_of (by decide +kernel)
theorem kc_0_15 : Kc 0 15 := kc_of (by decide) (by decide +kernel)
theorem lw_count {B : eB} (d : Nat) (M0 : Mm) (p1 : Int) (hP0 : Pw M0) (l1 : (-2147483648) ≤ p1) (u1 : p1 ≤ 2147483647) : Ct B (d + 2) 250 [R 0, I p1, R 769] M0 (qI fun z M => Pw M ∧ Fr (fm_m15_0 ||| 1852673427797059126777135760139006525652319754650249024631321344126610074238977) M0 M ∧ 0 ≤ z ∧ z ≤ 1 ∧ M0 (-1) 0 ≤ M (-1) 0 ∧ M (-1) 0 ≤ M0 (-1) 0 + 1) := by
  refine ct_of (d := d + 1) (k := 1) (L := [some (R 0), some (I p1), some (R 769), none]) rfl rfl rfl ?_
  generalize hQ : (qI fun z M => Pw M ∧ Fr (fm_m15_0 ||| 1852673427797059126777135760139006525652319754650249024631321344126610074238977) M0 M ∧ 0 ≤ z ∧ z ≤ 1 ∧ M0 (-1) 0 ≤ M (-1) 0 ∧ M (-1) 0 ≤ M0 (-1) 0 + 1) = Q
  refine wk_al2 r250_0 (wk_c1 r250_1 (wk_al0 r250_2 (wk_il1 r250_3 (wk_cc2 r250_4 kc_0_15 rfl (m15_0 _ M0 p1 hP0 l1 u1) (ccI (by decide) ?_ ?_)))))
  · rintro M ⟨h1, h2, h3⟩
    subst hQ
    exact ⟨rfl, 1, rfl, h1, (Fr.rf (fm_m15_0 ||| 1852673427797059126777135760139006525652319754650249024631321344126610074238977) M0).tr h2 rfl, by decide, by decide, by omega, by omega⟩
  · rintro z M ⟨h1, h2, h3, h4⟩
    have hF := (Fr.rf (fm_m15_0 ||| 1852673427797059126777135760139006525652319754650249024631321344126610074238977) M0).tr h2 rfl
    have hg : M (-1) 0 = M0 (-1) 0 := h2.at g_below rfl
    refine wk_i2lb r250_7 ⟨by omega, by omega⟩ ?_
    intro n hn _
    refine wk_last r250_8 ar_769 (by decide) (wk_nw (gr_769 (by decide) (by decide) _) rfl h1 hF (ua_769 ⟨by omega, by omega⟩) ?_)
    intro M5 hP5 hF5 e5
    have hg5 : M5 (-1) 0 = M0 (-1) 0 := mUp_no e5 hg (Or.inl (by decide))
    refine wk_goto r250_9 (wk_c1 r250_15 ?_)
    subst hQ
    exact wk_iret r250_16 ⟨rfl, _, rfl, hP5, hF5, by decide, by decide, by omega, by omega⟩
theorem r251_0 : Rw 251 0 1 1 14 2 0 0 := rw_of (by decide +kernel)
theorem r251_1 : Rw 251 1 2 1 1 (cd 0) 1 0 := rw_of (by decide +kernel)
theorem r251_2 : Rw 251 2 3 1 14 0 0 0 := rw_of (by decide +kernel)
theorem r251_3 : Rw 251 3 4 1 10 1 0 0 := rw_of (by decide +kernel)
theorem r251_4 : Rw 251 4 7 3 111 16 2 49 := rw_of (by decide +kernel)
theorem r251_7 : Rw 251 7 8 1 48 0 0 0 := rw_of (by decide +kernel)
theorem r251_8 : Rw 251 8 9 1 89 0 0 0 := rw_of (by decide +kernel)
theorem r251_9 : Rw 251 9 12 3 60 15 0 0 := rw_of (by decide +kernel)
theorem r251_15 : Rw 251 15 16 1 1 (cd 0) 1 0 := rw_of (by decide +kernel)
theorem r251_16 : Rw 251 16 17 1 74 0 0 0 := rw_of (by decide +kernel)
theorem kc_0_16 : Kc 0 16 := kc_of (by decide) (by decide +kernel)
theorem lw_enough {B : eB} (d : Nat) (M0 : Mm) (p1 : Int) (hP0 : Pw M0) (l1 : (-2147483648) ≤ p1) (u1 : p1 ≤ 2147483647) : Ct B (d + 6) 251 [R 0, I p1, R 769] M0 (qI fun z M => Pw M ∧ Fr (fm_m16_0 ||| 1852673427797059126777135760139006525652319754650249024631321344126610074238977) M0 M ∧ 0 ≤ z ∧ z ≤ 1 ∧ M0 (-1) 0 ≤ M (-1) 0 ∧ M (-1) 0 ≤ M0 (-1) 0 + 1) := by
  refine ct_of (d := d + 5) (k := 1) (L := [some (R 0), some (I p1), some (R 769), none]) rfl rfl rfl ?_
  generalize hQ : (qI fun z M => Pw M ∧ Fr (fm_m16_0 ||| 1852673427797059126777135760139006525652319754650249024631321344126610074238977) M0 M ∧ 0 ≤ z ∧ z ≤ 1 ∧ M0 (-1) 0 ≤ M (-1) 0 ∧ M (-1) 0 ≤ M0 (-1) 0 + 1) = Q
  refine wk_al2 r251_0 (wk_c1 r251_1 (wk_al0 r251_2 (wk_il1 r251_3 (wk_cc2 r251_4 kc_0_16 rfl (m16_0 _ M0 p1 hP0 l1 u1) (ccI (by decide) ?_ ?_)))))
  · rintro M ⟨h1, h2, h3⟩
    subst hQ
    exact ⟨rfl, 1, rfl, h1, (Fr.rf (fm_m16_0 ||| 1852673427797059126777135760139006525652319754650249024631321344126610074238977) M0).tr h2 rfl, by decide, by decide, by omega, by omega⟩
  · rintro z M ⟨h1, h2, h3, h4⟩
    have hF := (Fr.rf (fm_m16_0 ||| 1852673427797059126777135760139006525652319754650249024631321344126610074238977) M0).tr h2 rfl
    have hg : M (-1) 0 = M0 (-1) 0 := h2.at g_below rfl
    refine wk_i2lb r251_7 ⟨by omega, by omega⟩ ?_
    intro n hn _
    refine wk_last r251_8 ar_769 (by decide) (wk_nw (gr_769 (by decide) (by decide) _) rfl h1 hF (ua_769 ⟨by omega, by omega⟩) ?_)
    intro M5 hP5 hF5 e5
    have hg5 : M5 (-1) 0 = M0 (-1) 0 := mUp_no e5 hg (Or.inl (by decide))
    refine wk_goto r251_9 (wk_c1 r251_15 ?_)
    subst hQ
    exact wk_iret r251_16 ⟨rfl, _, rfl, hP5, hF5, by decide, by decide, by omega, by omega⟩
theorem r252_0 : Rw 252 0 1 1 14 2 0 0 := rw_of (by decide +kernel)
theorem r252_1 : Rw 252 1 2 1 1 (cd 0) 1 0 := rw_of (by decide +kernel)
theorem r252_2 : Rw 252 2 3 1 14 0 0 0 := rw_of (by decide +kernel)
theorem r252_3 : Rw 252 3 4 1 10 1 0 0 := rw_of (by decide +kernel)
theorem r252_4 : Rw 252 4 7 3 111 19 2 58 := rw_of (by decide +kernel)
theorem r252_7 : Rw 252 7 8 1 48 0 0 0 := rw_of (by decide +kernel)
theorem r252_8 : Rw 252 8 9 1 89 0 0 0 := rw_of (by decide +kernel)
theorem r252_9 : Rw 252 9 12 3 60 15 0 0 := rw_of (by decide +kernel)
theorem r252_15 : Rw 252 15 16 1 1 (cd 0) 1 0 := rw_of (by decide +kernel)
theorem r252_16 : Rw 252 16 17 1 74 0 0 0 := rw_of (by decide +kernel)
theorem kc_0_19 : Kc 0 19 := kc_of (by decide) (by decide +kernel)
theorem lw_fewest {B : eB} (d : Nat) (M0 : Mm) (p1 : Int) (hP0 : Pw M0) (l1 : (-2147483648) ≤ p1) (u1 : p1 ≤ 2147483647) : Ct B (d + 13) 252 [R 0, I p1, R 769] M0 (qI fun z M => Pw M ∧ Fr (fm_m19_0 ||| 1852673427797059126777135760139006525652319754650249024631321344126610074238977) M0 M ∧ 0 ≤ z ∧ z ≤ 1 ∧ M0 (-1) 0 ≤ M (-1) 0 ∧ M (-1) 0 ≤ M0 (-1) 0 + 1) := by
  refine ct_of (d := d + 12) (k := 1) (L := [some (R 0), some (I p1), some (R 769), none]) rfl rfl rfl ?_
  generalize hQ : (qI fun z M => Pw M ∧ Fr (fm_m19_0 ||| 1852673427797059126777135760139006525652319754650249024631321344126610074238977) M0 M ∧ 0 ≤ z ∧ z ≤ 1 ∧ M0 (-1) 0 ≤ M (-1) 0 ∧ M (-1) 0 ≤ M0 (-1) 0 + 1) = Q
  refine wk_al2 r252_0 (wk_c1 r252_1 (wk_al0 r252_2 (wk_il1 r252_3 (wk_cc2 r252_4 kc_0_19 rfl (m19_0 _ M0 p1 hP0 l1 u1) (ccI (by decide) ?_ ?_)))))
  · rintro M ⟨h1, h2, h3⟩
    subst hQ
    exact ⟨rfl, 1, rfl, h1, (Fr.rf (fm_m19_0 ||| 1852673427797059126777135760139006525652319754650249024631321344126610074238977) M0).tr h2 rfl, by decide, by decide, by omega, by omega⟩
  · rintro z M ⟨h1, h2, h3, h4⟩
    have hF := (Fr.rf (fm_m19_0 ||| 1852673427797059126777135760139006525652319754650249024631321344126610074238977) M0).tr h2 rfl
    have hg : M (-1) 0 = M0 (-1) 0 := h2.at g_below rfl
    refine wk_i2lb r252_7 ⟨by omega, by omega⟩ ?_
    intro n hn _
    refine wk_last r252_8 ar_769 (by decide) (wk_nw (gr_769 (by decide) (by decide) _) rfl h1 hF (ua_769 ⟨by omega, by omega⟩) ?_)
    intro M5 hP5 hF5 e5
    have hg5 : M5 (-1) 0 = M0 (-1) 0 := mUp_no e5 hg (Or.inl (by decide))
    refine wk_goto r252_9 (wk_c1 r252_15 ?_)
    subst hQ
    exact wk_iret r252_16 ⟨rfl, _, rfl, hP5, hF5, by decide, by decide, by omega, by omega⟩
theorem r253_0 : Rw 253 0 1 1 14 2 0 0 := rw_of (by decide +kernel)
theorem r253_1 : Rw 253 1 2 1 1 (cd 0) 1 0 := rw_of (by decide +kernel)
theorem r253_2 : Rw 253 2 3 1 14 0 0 0 := rw_of (by decide +kernel)
theorem r253_3 : Rw 253 3 4 1 10 1 0 0 := rw_of (by decide +kernel)
theorem r253_4 : Rw 253 4 7 3 111 24 2 7 := rw_of (by decide +kernel)
theorem r253_7 : Rw 253 7 8 1 48 0 0 0 := rw_of (by decide +kernel)
theorem r253_8 : Rw 253 8 9 1 89 0 0 0 := rw_of (by decide +kernel)
theorem r253_9 : Rw 253 9 12 3 60 15 0 0 := rw_of (by decide +kernel)
theorem r253_15 : Rw 253 15 16 1 1 (cd 0) 1 0 := rw_of (by decide +kernel)
theorem r253_16 : Rw 253 16 17 1 74 0 0 0 := rw_of (by decide +kernel)
theorem kc_0_24 : Kc 0 24 := kc_of (by decide) (by decide +kernel)
theorem r254_0 : Rw 254 0 1 1 14 2 0 0 := rw_of (by decide +kernel)
theorem r254_1 : Rw 254 1 2 1 1 (cd 0) 1 0 := rw_of (by decide +kernel)
theorem r254_2 : Rw 254 2 3 1 14 0 0 0 := rw_of (by decide +kernel)
theorem r254_3 : Rw 254 3 4 1 10 1 0 0 := rw_of (by decide +kernel)
theorem r254_4 : Rw 254 4 7 3 111 25 2 52 := rw_of (by decide +kernel)
theorem r254_7 : Rw 254 7 8 1 48 0 0 0 := rw_of (by decide +kernel)
theorem r254_8 : Rw 254 8 9 1 89 0 0 0 := rw_of (by decide +kernel)
theorem r254_9 : Rw 254 9 12 3 60 15 0 0 := rw_of (by decide +kernel)
theorem r254_15 : Rw 254 15 16 1 1 (cd 0) 1 0 := rw_of (by decide +kernel)
theorem r254_16 : Rw 254 16 17 1 74 0 0 0 := rw_of (by decide +kernel)
theorem kc_0_25 : Kc 0 25 := kc_of (by decide) (by decide +kernel)
theorem lw_knot {B : eB} (d : Nat) (M0 : Mm) (p1 : Int) (hP0 : Pw M0) (l1 : (-2147483648) ≤ p1) (u1 : p1 ≤ 2147483647) : Ct B (d + 5) 254 [R 0, I p1, R 769] M0 (qI fun z M => Pw M ∧ Fr (fm_m25_0 ||| 1852673427797059126777135760139006525652319754650249024631321344126610074238977) M0 M ∧ 0 ≤ z ∧ z ≤ 1 ∧ M0 (-1) 0 ≤ M (-1) 0 ∧ M (-1) 0 ≤ M0 (-1) 0 + 1) := by
  refine ct_of (d := d + 4) (k := 1) (L := [some (R 0), some (I p1), some (R 769), none]) rfl rfl rfl ?_
  generalize hQ : (qI fun z M => Pw M ∧ Fr (fm_m25_0 ||| 1852673427797059126777135760139006525652319754650249024631321344126610074238977) M0 M ∧ 0 ≤ z ∧ z ≤ 1 ∧ M0 (-1) 0 ≤ M (-1) 0 ∧ M (-1) 0 ≤ M0 (-1) 0 + 1) = Q
  refine wk_al2 r254_0 (wk_c1 r254_1 (wk_al0 r254_2 (wk_il1 r254_3 (wk_cc2 r254_4 kc_0_25 rfl (m25_0 _ M0 p1 hP0 l1 u1) (ccI (by decide) ?_ ?_)))))
  · rintro M ⟨h1, h2, h3⟩
    subst hQ
    exact ⟨rfl, 1, rfl, h1, (Fr.rf (fm_m25_0 ||| 1852673427797059126777135760139006525652319754650249024631321344126610074238977) M0).tr h2 rfl, by decide, by decide, by omega, by omega⟩
  · rintro z M ⟨h1, h2, h3, h4⟩
    have hF := (Fr.rf (fm_m25_0 ||| 1852673427797059126777135760139006525652319754650249024631321344126610074238977) M0).tr h2 rfl
    have hg : M (-1) 0 = M0 (-1) 0 := h2.at g_below rfl
    refine wk_i2lb r254_7 ⟨by omega, by omega⟩ ?_
    intro n hn _
    refine wk_last r254_8 ar_769 (by decide) (wk_nw (gr_769 (by decide) (by decide) _) rfl h1 hF (ua_769 ⟨by omega, by omega⟩) ?_)
    intro M5 hP5 hF5 e5
    have hg5 : M5 (-1) 0 = M0 (-1) 0 := mUp_no e5 hg (Or.inl (by decide))
    refine wk_goto r254_9 (wk_c1 r254_15 ?_)
    subst hQ
    exact wk_iret r254_16 ⟨rfl, _, rfl, hP5, hF5, by decide, by decide, by omega, by omega⟩
theorem r255_0 : Rw 255 0 1 1 14 2 0 0 := rw_of (by decide +kernel)
theorem r255_1 : Rw 255 1 2 1 1 (cd 0) 1 0 := rw_of (by decide +kernel)
theorem r255_2 : Rw 255 2 3 1 14 0 0 0 := rw_of (by decide +kernel)
theorem r255_3 : Rw 255 3 4 1 10 1 0 0 := rw_of (by decide +kernel)
theorem r255_4 : Rw 255 4 7 3 111 27 2 67 := rw_of (by decide +kernel)
theorem r255_7 : Rw 255 7 8 1 48 0 0 0 := rw_of (by decide +kernel)
theorem r255_8 : Rw 255 8 9 1 89 0 0 0 := rw_of (by decide +kernel)
theorem r255_9 : Rw 255 9 12 3 60 15 0 0 := rw_of (by decide +kernel)
theorem r255_15 : Rw 255 15 16 1 1 (cd 0) 1 0 := rw_of (by decide +kernel)
theorem r255_16 : Rw 255 16 17 1 74 0 0 0 := rw_of (by decide +kernel)
theorem kc_0_27 : Kc 0 27 := kc_of (by decide) (by decide +kernel)
theorem lw_line {B : eB} (d : Nat) (M0 : Mm) (p1 : Int) (hP0 : Pw M0) (l1 : (-2147483648) ≤ p1) (u1 : p1 ≤ 2147483647) : Ct B (d + 2) 255 [R 0, I p1, R 769] M0 (qI fun z M => Pw M ∧ Fr (fm_m27_0 ||| 1852673427797059126777135760139006525652319754650249024631321344126610074238977) M0 M ∧ 0 ≤ z ∧ z ≤ 1 ∧ M0 (-1) 0 ≤ M (-1) 0 ∧ M (-1) 0 ≤ M0 (-1) 0 + 1) := by
  refine ct_of (d := d + 1) (k := 1) (L := [some (R 0), some (I p1), some (R 769), none]) rfl rfl rfl ?_
  generalize hQ : (qI fun z M => Pw M ∧ Fr (fm_m27_0 ||| 1852673427797059126777135760139006525652319754650249024631321344126610074238977) M0 M ∧ 0 ≤ z ∧ z ≤ 1 ∧ M0 (-1) 0 ≤ M (-1) 0 ∧ M (-1) 0 ≤ M0 (-1) 0 + 1) = Q
  refine wk_al2 r255_0 (wk_c1 r255_1 (wk_al0 r255_2 (wk_il1 r255_3 (wk_cc2 r255_4 kc_0_27 rfl (m27_0 _ M0 p1 hP0 l1 u1) (ccI (by decide) ?_ ?_)))))
  · rintro M ⟨h1, h2, h3⟩
    subst hQ
    exact ⟨rfl, 1, rfl, h1, (Fr.rf (fm_m27_0 ||| 1852673427797059126777135760139006525652319754650249024631321344126610074238977) M0).tr h2 rfl, by decide, by decide, by omega, by omega⟩
  · rintro z M ⟨h1, h2, h3, h4⟩
    have hF := (Fr.rf (fm_m27_0 ||| 1852673427797059126777135760139006525652319754650249024631321344126610074238977) M0).tr h2 rfl
    have hg : M (-1) 0 = M0 (-1) 0 := h2.at g_below rfl
    refine wk_i2lb r255_7 ⟨by omega, by omega⟩ ?_
    intro n hn _
    refine wk_last r255_8 ar_769 (by decide) (wk_nw (gr_769 (by decide) (by decide) _) rfl h1 hF (ua_769 ⟨by omega, by omega⟩) ?_)
    intro M5 hP5 hF5 e5
    have hg5 : M5 (-1) 0 = M0 (-1) 0 := mUp_no e5 hg (Or.inl (by decide))
    refine wk_goto r255_9 (wk_c1 r255_15 ?_)
    subst hQ
    exact wk_iret r255_16 ⟨rfl, _, rfl, hP5, hF5, by decide, by decide, by omega, by omega⟩
theorem r256_0 : Rw 256 0 1 1 14 3 0 0 := rw_of (by decide +kernel)
theorem r256_1 : Rw 256 1 2 1 1 (cd 0) 1 0 := rw_of (by decide +kernel)
theorem r256_2 : Rw 256 2 3 1 14 0 0 0 := rw_of (by decide +kernel)
theorem r256_3 : Rw 256 3 4 1 10 1 0 0 := rw_of (by decide +kernel)
theorem r256_4 : Rw 256 4 5 1 10 2 0 0 := rw_of (by decide +kernel)
theorem r256_5 : Rw 256 5 8 3 111 28 3 23 := rw_of (by decide +kernel)
theorem r256_8 : Rw 256 8 9 1 48 0 0 0 := rw_of (by decide +kernel)
theorem r256_9 : Rw 256 9 10 1 89 0 0 0 := rw_of (by decide +kernel)
theorem r256_10 : Rw 256 10 13 3 60 17 0 0 := rw_of (by decide +kernel)
theorem r256_17 : Rw 256 17 18 1 1 (cd 0) 1 0 := rw_of (by decide +kernel)
theorem r256_18 : Rw 256 18 19 1 74 0 0 0 := rw_of (by decide +kernel)
theorem kc_0_28 : Kc 0 28 := kc_of (by decide) (by decide +kernel)
theorem lw_may {B : eB} (d : Nat) (M0 : Mm) (p1 : Int) (p2 : Int) (hP0 : Pw M0) (l1 : (-2147483648) ≤ p1) (u1 : p1 ≤ 2147483647) (l2 : (-2147483648) ≤ p2) (u2 : p2 ≤ 2147483647) : Ct B (d + 3) 256 [R 0, I p1, I p2, R 769] M0 (qI fun z M => Pw M ∧ Fr (fm_m28_0 ||| 1852673427797059126777135760139006525652319754650249024631321344126610074238977) M0 M ∧ 0 ≤ z ∧ z ≤ 1 ∧ M0 (-1) 0 ≤ M (-1) 0 ∧ M (-1) 0 ≤ M0 (-1) 0 + 1) := by
  refine ct_of (d := d + 2) (k := 1) (L := [some (R 0), some (I p1), some (I p2), some (R 769), none]) rfl rfl rfl ?_
  generalize hQ : (qI fun z M => Pw M ∧ Fr (fm_m28_0 ||| 1852673427797059126777135760139006525652319754650249024631321344126610074238977) M0 M ∧ 0 ≤ z ∧ z ≤ 1 ∧ M0 (-1) 0 ≤ M (-1) 0 ∧ M (-1) 0 ≤ M0 (-1) 0 + 1) = Q
  refine wk_al3 r256_0 (wk_c1 r256_1 (wk_al0 r256_2 (wk_il1 r256_3 (wk_il2 r256_4 (wk_cc3 r256_5 kc_0_28 rfl (m28_0 _ M0 p1 p2 hP0 l1 u1 l2 u2) (ccI (by decide) ?_ ?_))))))
  · rintro M ⟨h1, h2, h3⟩
    subst hQ
    exact ⟨rfl, 1, rfl, h1, (Fr.rf (fm_m28_0 ||| 1852673427797059126777135760139006525652319754650249024631321344126610074238977) M0).tr h2 rfl, by decide, by decide, by omega, by omega⟩
  · rintro z M ⟨h1, h2, h3, h4⟩
    have hF := (Fr.rf (fm_m28_0 ||| 1852673427797059126777135760139006525652319754650249024631321344126610074238977) M0).tr h2 rfl
    have hg : M (-1) 0 = M0 (-1) 0 := h2.at g_below rfl
    refine wk_i2lb r256_8 ⟨by omega, by omega⟩ ?_
    intro n hn _
    refine wk_last r256_9 ar_769 (by decide) (wk_nw (gr_769 (by decide) (by decide) _) rfl h1 hF (ua_769 ⟨by omega, by omega⟩) ?_)
    intro M5 hP5 hF5 e5
    have hg5 : M5 (-1) 0 = M0 (-1) 0 := mUp_no e5 hg (Or.inl (by decide))
    refine wk_goto r256_10 (wk_c1 r256_17 ?_)
    subst hQ
    exact wk_iret r256_18 ⟨rfl, _, rfl, hP5, hF5, by decide, by decide, by omega, by omega⟩
theorem r257_0 : Rw 257 0 1 1 14 3 0 0 := rw_of (by decide +kernel)
theorem r257_1 : Rw 257 1 2 1 1 (cd 0) 1 0 := rw_of (by decide +kernel)
theorem r257_2 : Rw 257 2 3 1 14 0 0 0 := rw_of (by decide +kernel)
theorem r257_3 : Rw 257 3 4 1 10 1 0 0 := rw_of (by decide +kernel)
theorem r257_4 : Rw 257 4 5 1 10 2 0 0 := rw_of (by decide +kernel)
theorem r257_5 : Rw 257 5 8 3 111 34 3 55 := rw_of (by decide +kernel)
theorem r257_8 : Rw 257 8 9 1 48 0 0 0 := rw_of (by decide +kernel)
theorem r257_9 : Rw 257 9 10 1 89 0 0 0 := rw_of (by decide +kernel)
theorem r257_10 : Rw 257 10 13 3 60 17 0 0 := rw_of (by decide +kernel)
theorem r257_17 : Rw 257 17 18 1 1 (cd 0) 1 0 := rw_of (by decide +kernel)
theorem r257_18 : Rw 257 18 19 1 74 0 0 0 := rw_of (by decide +kernel)
theorem kc_0_34 : Kc 0 34 := kc_of (by decide) (by decide +kernel)
theorem r258_0 : Rw 258 0 1 1 14 2 0 0 := rw_of (by decide +kernel)
theorem r258_1 : Rw 258 1 2 1 1 (cd 0) 1 0 := rw_of (by decide +kernel)
theorem r258_2 : Rw 258 2 3 1 14 0 0 0 := rw_of (by decide +kernel)
theorem r258_3 : Rw 258 3 4 1 10 1 0 0 := rw_of (by decide +kernel)
theorem r258_4 : Rw 258 4 7 3 111 36 2 61 := rw_of (by decide +kernel)
theorem r258_7 : Rw 258 7 8 1 48 0 0 0 := rw_of (by decide +kernel)
theorem r258_8 : Rw 258 8 9 1 89 0 0 0 := rw_of (by decide +kernel)
theorem r258_9 : Rw 258 9 12 3 60 15 0 0 := rw_of (by decide +kernel)
theorem r258_15 : Rw 258 15 16 1 1 (cd 0) 1 0 := rw_of (by decide +kernel)
theorem r258_16 : Rw 258 16 17 1 74 0 0 0 := rw_of (by decide +kernel)
theorem kc_0_36 : Kc 0 36 := kc_of (by decide) (by decide +kernel)
theorem r259_0 : Rw 259 0 1 1 14 2 0 0 := rw_of (by decide +kernel)
theorem r259_1 : Rw 259 1 2 1 1 (cd 0) 1 0 := rw_of (by decide +kernel)
theorem r259_2 : Rw 259 2 3 1 14 0 0 0 := rw_of (by decide +kernel)
theorem r259_3 : Rw 259 3 4 1 10 1 0 0 := rw_of (by decide +kernel)
theorem r259_4 : Rw 259 4 7 3 111 37 2 64 := rw_of (by decide +kernel)
theorem r259_7 : Rw 259 7 8 1 48 0 0 0 := rw_of (by decide +kernel)
theorem r259_8 : Rw 259 8 9 1 89 0 0 0 := rw_of (by decide +kernel)
theorem r259_9 : Rw 259 9 12 3 60 15 0 0 := rw_of (by decide +kernel)
theorem r259_15 : Rw 259 15 16 1 1 (cd 0) 1 0 := rw_of (by decide +kernel)
theorem r259_16 : Rw 259 16 17 1 74 0 0 0 := rw_of (by decide +kernel)
theorem kc_0_37 : Kc 0 37 := kc_of (by decide) (by decide +kernel)
theorem lw_riddle {B : eB} (d : Nat) (M0 : Mm) (p1 : Int) (hP0 : Pw M0) (l1 : (-2147483648) ≤ p1) (u1 : p1 ≤ 2147483647) : Ct B (d + 9) 259 [R 0, I p1, R 769] M0 (qI fun z M => Pw M ∧ Fr (fm_m37_0 ||| 1852673427797059126777135760139006525652319754650249024631321344126610074238977) M0 M ∧ 0 ≤ z ∧ z ≤ 1 ∧ M0 (-1) 0 ≤ M (-1) 0 ∧ M (-1) 0 ≤ M0 (-1) 0 + 1) := by
  refine ct_of (d := d + 8) (k := 1) (L := [some (R 0), some (I p1), some (R 769), none]) rfl rfl rfl ?_
  generalize hQ : (qI fun z M => Pw M ∧ Fr (fm_m37_0 ||| 1852673427797059126777135760139006525652319754650249024631321344126610074238977) M0 M ∧ 0 ≤ z ∧ z ≤ 1 ∧ M0 (-1) 0 ≤ M (-1) 0 ∧ M (-1) 0 ≤ M0 (-1) 0 + 1) = Q
  refine wk_al2 r259_0 (wk_c1 r259_1 (wk_al0 r259_2 (wk_il1 r259_3 (wk_cc2 r259_4 kc_0_37 rfl (m37_0 _ M0 p1 hP0 l1 u1) (ccI (by decide) ?_ ?_)))))
  · rintro M ⟨h1, h2, h3⟩
    subst hQ
    exact ⟨rfl, 1, rfl, h1, (Fr.rf (fm_m37_0 ||| 1852673427797059126777135760139006525652319754650249024631321344126610074238977) M0).tr h2 rfl, by decide, by decide, by omega, by omega⟩
  · rintro z M ⟨h1, h2, h3, h4⟩
    have hF := (Fr.rf (fm_m37_0 ||| 1852673427797059126777135760139006525652319754650249024631321344126610074238977) M0).tr h2 rfl
    have hg : M (-1) 0 = M0 (-1) 0 := h2.at g_below rfl
    refine wk_i2lb r259_7 ⟨by omega, by omega⟩ ?_
    intro n hn _
    refine wk_last r259_8 ar_769 (by decide) (wk_nw (gr_769 (by decide) (by decide) _) rfl h1 hF (ua_769 ⟨by omega, by omega⟩) ?_)
    intro M5 hP5 hF5 e5
    have hg5 : M5 (-1) 0 = M0 (-1) 0 := mUp_no e5 hg (Or.inl (by decide))
    refine wk_goto r259_9 (wk_c1 r259_15 ?_)
    subst hQ
    exact wk_iret r259_16 ⟨rfl, _, rfl, hP5, hF5, by decide, by decide, by omega, by omega⟩
theorem r260_0 : Rw 260 0 1 1 14 3 0 0 := rw_of (by decide +kernel)
theorem r260_1 : Rw 260 1 2 1 1 (cd 0) 1 0 := rw_of (by decide +kernel)
theorem r260_2 : Rw 260 2 3 1 14 0 0 0 := rw_of (by decide +kernel)
theorem r260_3 : Rw 260 3 4 1 10 1 0 0 := rw_of (by decide +kernel)
theorem r260_4 : Rw 260 4 5 1 10 2 0 0 := rw_of (by decide +kernel)
theorem r260_5 : Rw 260 5 8 3 111 38 3 27 := rw_of (by decide +kernel)
theorem r260_8 : Rw 260 8 9 1 48 0 0 0 := rw_of (by decide +kernel)
theorem r260_9 : Rw 260 9 10 1 89 0 0 0 := rw_of (by decide +kernel)
theorem r260_10 : Rw 260 10 13 3 60 17 0 0 := rw_of (by decide +kernel)
theorem r260_17 : Rw 260 17 18 1 1 (cd 0) 1 0 := rw_of (by decide +kernel)
theorem r260_18 : Rw 260 18 19 1 74 0 0 0 := rw_of (by decide +kernel)
theorem kc_0_38 : Kc 0 38 := kc_of (by decide) (by decide +kernel)
theorem r261_0 : Rw 261 0 1 1 14 2 0 0 := rw_of (by decide +kernel)
theorem r261_1 : Rw 261 1 2 1 1 (cd 0) 1 0 := rw_of (by decide +kernel)
theorem r261_2 : Rw 261 2 3 1 14 0 0 0 := rw_of (by decide +kernel)
theorem r261_3 : Rw 261 3 4 1 10 1 0 0 := rw_of (by decide +kernel)
theorem r261_4 : Rw 261 4 7 3 111 39 2 15 := rw_of (by decide +kernel)
theorem r261_7 : Rw 261 7 8 1 48 0 0 0 := rw_of (by decide +kernel)
theorem r261_8 : Rw 261 8 9 1 89 0 0 0 := rw_of (by decide +kernel)
theorem r261_9 : Rw 261 9 12 3 60 15 0 0 := rw_of (by decide +kernel)
theorem r261_15 : Rw 261 15 16 1 1 (cd 0) 1 0 := rw_of (by decide +kernel)
theorem r261_16 : Rw 261 16 17 1 74 0 0 0 := rw_of (by decide +kernel)
theorem kc_0_39 : Kc 0 39 := kc_of (by decide) (by decide +kernel)
theorem r262_0 : Rw 262 0 1 1 14 2 0 0 := rw_of (by decide +kernel)
theorem r262_1 : Rw 262 1 2 1 1 (cd 0) 1 0 := rw_of (by decide +kernel)
theorem r262_2 : Rw 262 2 3 1 14 0 0 0 := rw_of (by decide +kernel)
theorem r262_3 : Rw 262 3 4 1 10 1 0 0 := rw_of (by decide +kernel)
theorem r262_4 : Rw 262 4 7 3 111 41 2 40 := rw_of (by decide +kernel)
theorem r262_7 : Rw 262 7 8 1 48 0 0 0 := rw_of (by decide +kernel)
theorem r262_8 : Rw 262 8 9 1 89 0 0 0 := rw_of (by decide +kernel)
theorem r262_9 : Rw 262 9 12 3 60 15 0 0 := rw_of (by decide +kernel)
theorem r262_15 : Rw 262 15 16 1 1 (cd 0) 1 0 := rw_of (by decide +kernel)
theorem r262_16 : Rw 262 16 17 1 74 0 0 0 := rw_of (by decide +kernel)
theorem kc_0_41 : Kc 0 41 := kc_of (by decide) (by decide +kernel)
theorem lw_told {B : eB} (d : Nat) (M0 : Mm) (p1 : Int) (hP0 : Pw M0) (l1 : (-2147483648) ≤ p1) (u1 : p1 ≤ 2147483647) : Ct B (d + 5) 262 [R 0, I p1, R 769] M0 (qI fun z M => Pw M ∧ Fr (fm_m41_0 ||| 1852673427797059126777135760139006525652319754650249024631321344126610074238977) M0 M ∧ 0 ≤ z ∧ z ≤ 1 ∧ M0 (-1) 0 ≤ M (-1) 0 ∧ M (-1) 0 ≤ M0 (-1) 0 + 1) := by
  refine ct_of (d := d + 4) (k := 1) (L := [some (R 0), some (I p1), some (R 769), none]) rfl rfl rfl ?_
  generalize hQ : (qI fun z M => Pw M ∧ Fr (fm_m41_0 ||| 1852673427797059126777135760139006525652319754650249024631321344126610074238977) M0 M ∧ 0 ≤ z ∧ z ≤ 1 ∧ M0 (-1) 0 ≤ M (-1) 0 ∧ M (-1) 0 ≤ M0 (-1) 0 + 1) = Q
  refine wk_al2 r262_0 (wk_c1 r262_1 (wk_al0 r262_2 (wk_il1 r262_3 (wk_cc2 r262_4 kc_0_41 rfl (m41_0 _ M0 p1 hP0 l1 u1) (ccI (by decide) ?_ ?_)))))
  · rintro M ⟨h1, h2, h3⟩
    subst hQ
    exact ⟨rfl, 1, rfl, h1, (Fr.rf (fm_m41_0 ||| 1852673427797059126777135760139006525652319754650249024631321344126610074238977) M0).tr h2 rfl, by decide, by decide, by omega, by omega⟩
  · rintro z M ⟨h1, h2, h3, h4⟩
    have hF := (Fr.rf (fm_m41_0 ||| 1852673427797059126777135760139006525652319754650249024631321344126610074238977) M0).tr h2 rfl
    have hg : M (-1) 0 = M0 (-1) 0 := h2.at g_below rfl
    refine wk_i2lb r262_7 ⟨by omega, by omega⟩ ?_
    intro n hn _
    refine wk_last r262_8 ar_769 (by decide) (wk_nw (gr_769 (by decide) (by decide) _) rfl h1 hF (ua_769 ⟨by omega, by omega⟩) ?_)
    intro M5 hP5 hF5 e5
    have hg5 : M5 (-1) 0 = M0 (-1) 0 := mUp_no e5 hg (Or.inl (by decide))
    refine wk_goto r262_9 (wk_c1 r262_15 ?_)
    subst hQ
    exact wk_iret r262_16 ⟨rfl, _, rfl, hP5, hF5, by decide, by decide, by omega, by omega⟩
theorem r263_0 : Rw 263 0 1 1 14 3 0 0 := rw_of (by decide +kernel)
theorem r263_1 : Rw 263 1 2 1 1 (cd 0) 1 0 := rw_of (by decide +kernel)
theorem r263_2 : Rw 263 2 3 1 14 0 0 0 := rw_of (by decide +kernel)
theorem r263_3 : Rw 263 3 4 1 10 1 0 0 := rw_of (by decide +kernel)
theorem r263_4 : Rw 263 4 5 1 10 2 0 0 := rw_of (by decide +kernel)
theorem r263_5 : Rw 263 5 8 3 111 42 3 37 := rw_of (by decide +kernel)
theorem r263_8 : Rw 263 8 9 1 48 0 0 0 := rw_of (by decide +kernel)
theorem r263_9 : Rw 263 9 10 1 89 0 0 0 := rw_of (by decide +kernel)
theorem r263_10 : Rw 263 10 13 3 60 17 0 0 := rw_of (by decide +kernel)
theorem r263_17 : Rw 263 17 18 1 1 (cd 0) 1 0 := rw_of (by decide +kernel)
theorem r263_18 : Rw 263 18 19 1 74 0 0 0 := rw_of (by decide +kernel)
theorem kc_0_42 : Kc 0 42 := kc_of (by decide) (by decide +kernel)
theorem lw_world {B : eB} (d : Nat) (M0 : Mm) (p1 : Int) (p2 : Int) (hP0 : Pw M0) (l1 : (-2147483648) ≤ p1) (u1 : p1 ≤ 2147483647) (l2 : (-2147483648) ≤ p2) (u2 : p2 ≤ 2147483647) : Ct B (d + 4) 263 [R 0, I p1, I p2, R 769] M0 (qI fun z M => Pw M ∧ Fr (fm_m42_0 ||| 1852673427797059126777135760139006525652319754650249024631321344126610074238977) M0 M ∧ 0 ≤ z ∧ z ≤ 1 ∧ M0 (-1) 0 ≤ M (-1) 0 ∧ M (-1) 0 ≤ M0 (-1) 0 + 1) := by
  refine ct_of (d := d + 3) (k := 1) (L := [some (R 0), some (I p1), some (I p2), some (R 769), none]) rfl rfl rfl ?_
  generalize hQ : (qI fun z M => Pw M ∧ Fr (fm_m42_0 ||| 1852673427797059126777135760139006525652319754650249024631321344126610074238977) M0 M ∧ 0 ≤ z ∧ z ≤ 1 ∧ M0 (-1) 0 ≤ M (-1) 0 ∧ M (-1) 0 ≤ M0 (-1) 0 + 1) = Q
  refine wk_al3 r263_0 (wk_c1 r263_1 (wk_al0 r263_2 (wk_il1 r263_3 (wk_il2 r263_4 (wk_cc3 r263_5 kc_0_42 rfl (m42_0 _ M0 p1 p2 hP0 l1 u1 l2 u2) (ccI (by decide) ?_ ?_))))))
  · rintro M ⟨h1, h2, h3⟩
    subst hQ
    exact ⟨rfl, 1, rfl, h1, (Fr.rf (fm_m42_0 ||| 1852673427797059126777135760139006525652319754650249024631321344126610074238977) M0).tr h2 rfl, by decide, by decide, by omega, by omega⟩
  · rintro z M ⟨h1, h2, h3, h4⟩
    have hF := (Fr.rf (fm_m42_0 ||| 1852673427797059126777135760139006525652319754650249024631321344126610074238977) M0).tr h2 rfl
    have hg : M (-1) 0 = M0 (-1) 0 := h2.at g_below rfl
    refine wk_i2lb r263_8 ⟨by omega, by omega⟩ ?_
    intro n hn _
    refine wk_last r263_9 ar_769 (by decide) (wk_nw (gr_769 (by decide) (by decide) _) rfl h1 hF (ua_769 ⟨by omega, by omega⟩) ?_)
    intro M5 hP5 hF5 e5
    have hg5 : M5 (-1) 0 = M0 (-1) 0 := mUp_no e5 hg (Or.inl (by decide))
    refine wk_goto r263_10 (wk_c1 r263_17 ?_)
    subst hQ
    exact wk_iret r263_18 ⟨rfl, _, rfl, hP5, hF5, by decide, by decide, by omega, by omega⟩
theorem r264_0 : Rw 264 0 1 1 14 2 0 0 := rw_of (by decide +kernel)
theorem r264_1 : Rw 264 1 2 1 1 (cd 0) 1 0 := rw_of (by decide +kernel)
theorem r264_2 : Rw 264 2 3 1 14 0 0 0 := rw_of (by decide +kernel)
theorem r264_3 : Rw 264 3 4 1 10 1 0 0 := rw_of (by decide +kernel)
theorem r264_4 : Rw 264 4 7 3 111 43 2 34 := rw_of (by decide +kernel)
theorem r264_7 : Rw 264 7 8 1 48 0 0 0 := rw_of (by decide +kernel)
theorem r264_8 : Rw 264 8 9 1 89 0 0 0 := rw_of (by decide +kernel)
theorem r264_9 : Rw 264 9 12 3 60 15 0 0 := rw_of (by decide +kernel)
theorem r264_15 : Rw 264 15 16 1 1 (cd 0) 1 0 := rw_of (by decide +kernel)
theorem r264_16 : Rw 264 16 17 1 74 0 0 0 := rw_of (by decide +kernel)
theorem kc_0_43 : Kc 0 43 := kc_of (by decide) (by decide +kernel)
theorem lw_worlds {B : eB} (d : Nat) (M0 : Mm) (p1 : Int) (hP0 : Pw M0) (l1 : (-2147483648) ≤ p1) (u1 : p1 ≤ 2147483647) : Ct B (d + 4) 264 [R 0, I p1, R 769] M0 (qI fun z M => Pw M ∧ Fr (fm_m43_0 ||| 1852673427797059126777135760139006525652319754650249024631321344126610074238977) M0 M ∧ 0 ≤ z ∧ z ≤ 1 ∧ M0 (-1) 0 ≤ M (-1) 0 ∧ M (-1) 0 ≤ M0 (-1) 0 + 1) := by
  refine ct_of (d := d + 3) (k := 1) (L := [some (R 0), some (I p1), some (R 769), none]) rfl rfl rfl ?_
  generalize hQ : (qI fun z M => Pw M ∧ Fr (fm_m43_0 ||| 1852673427797059126777135760139006525652319754650249024631321344126610074238977) M0 M ∧ 0 ≤ z ∧ z ≤ 1 ∧ M0 (-1) 0 ≤ M (-1) 0 ∧ M (-1) 0 ≤ M0 (-1) 0 + 1) = Q
  refine wk_al2 r264_0 (wk_c1 r264_1 (wk_al0 r264_2 (wk_il1 r264_3 (wk_cc2 r264_4 kc_0_43 rfl (m43_0 _ M0 p1 hP0 l1 u1) (ccI (by decide) ?_ ?_)))))
  · rintro M ⟨h1, h2, h3⟩
    subst hQ
    exact ⟨rfl, 1, rfl, h1, (Fr.rf (fm_m43_0 ||| 1852673427797059126777135760139006525652319754650249024631321344126610074238977) M0).tr h2 rfl, by decide, by decide, by omega, by omega⟩
  · rintro z M ⟨h1, h2, h3, h4⟩
    have hF := (Fr.rf (fm_m43_0 ||| 1852673427797059126777135760139006525652319754650249024631321344126610074238977) M0).tr h2 rfl
    have hg : M (-1) 0 = M0 (-1) 0 := h2.at g_below rfl
    refine wk_i2lb r264_7 ⟨by omega, by omega⟩ ?_
    intro n hn _
    refine wk_last r264_8 ar_769 (by decide) (wk_nw (gr_769 (by decide) (by decide) _) rfl h1 hF (ua_769 ⟨by omega, by omega⟩) ?_)
    intro M5 hP5 hF5 e5
    have hg5 : M5 (-1) 0 = M0 (-1) 0 := mUp_no e5 hg (Or.inl (by decide))
    refine wk_goto r264_9 (wk_c1 r264_15 ?_)
    subst hQ
    exact wk_iret r264_16 ⟨rfl, _, rfl, hP5, hF5, by decide, by decide, by omega, by omega⟩
