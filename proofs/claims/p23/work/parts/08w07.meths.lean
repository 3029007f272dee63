/-! ===== written by program (wip/layer2/all.py): contracts of methods ===== -/
def fm_m190_10 : Nat := 0
/-- IslandHall$Realm.freeRow -/
theorem m190_10 {B : eB} (d : Nat) (M0 : Mm) (p1 : Int) (hP0 : Pw M0) (l1 : 0 ≤ p1) (u1 : p1 ≤ 6) : Ct B (d + 1) 190 [R 10, I p1] M0 (qR fun z M => Pw M ∧ Fr fm_m190_10 M0 M ∧ 21 ≤ z ∧ z ≤ 51) := by
  refine ct_of (d := d + 0) (k := 0) (L := [some (R 10), some (I p1)]) rfl rfl rfl ?_
  have hF0 := Fr.rf fm_m190_10 M0
  generalize hQ : (qR fun z M => Pw M ∧ Fr fm_m190_10 M0 M ∧ 21 ≤ z ∧ z ≤ 51) = Q
  refine wk_al0 r190_0 (wk_getfr r190_1 fd_10_0 (br_10_0 hP0) (wk_c1 r190_4 (wk_il1 r190_5 (wk_c1 r190_6 (wk_imul r190_7 (wk_iadd r190_8 (wk_c1 r190_9 (wk_iadd r190_10 (wk_raldb r190_11 ar_16 ⟨by omega, by omega⟩ (fun q0 q1 => ba_16 hP0 q0 q1) ?_)))))))))
  subst hQ; exact wk_aret r190_12 (⟨rfl, _, rfl, hP0, hF0, by omega, by omega⟩)
def fm_m208_10 : Nat := 0
/-- IslandHall$Realm.yesRow -/
theorem m208_10 {B : eB} (d : Nat) (M0 : Mm) (p1 : Int) (hP0 : Pw M0) (l1 : (-1) ≤ p1) (u1 : p1 ≤ (-1)) : Ct B (d + 1) 208 [R 10, I p1] M0 (qR fun z M => Pw M ∧ Fr fm_m208_10 M0 M ∧ 135 ≤ z ∧ z ≤ 135) := by
  refine ct_of (d := d + 0) (k := 0) (L := [some (R 10), some (I p1)]) rfl rfl rfl ?_
  have hF0 := Fr.rf fm_m208_10 M0
  generalize hQ : (qR fun z M => Pw M ∧ Fr fm_m208_10 M0 M ∧ 135 ≤ z ∧ z ≤ 135) = Q
  refine wk_al0 r208_0 (wk_getfr r208_1 fd_10_0 (br_10_0 hP0) (wk_il1 r208_4 (wk_c1 r208_5 ?_)))
  refine wk_icne r208_6 ⟨by omega, by omega⟩ (by decide) ?_ ?_
  · intro h1
    exfalso
    omega
  · intro h2
    refine wk_c2 r208_9 (wk_goto r208_11 (wk_raldb r208_18 ar_16 (by decide) (fun q0 q1 => ba_16 hP0 q0 q1) ?_))
    subst hQ; exact wk_aret r208_19 (⟨rfl, _, rfl, hP0, hF0, by omega, by omega⟩)
def fm_m193_10 : Nat := 0
/-- IslandHall$Realm.honestRow -/
theorem m193_10 {B : eB} (d : Nat) (M0 : Mm) (p1 : Int) (hP0 : Pw M0) (l1 : 0 ≤ p1) (u1 : p1 ≤ 6) : Ct B (d + 1) 193 [R 10, I p1] M0 (qR fun z M => Pw M ∧ Fr fm_m193_10 M0 M ∧ 105 ≤ z ∧ z ≤ 118) := by
  refine ct_of (d := d + 0) (k := 0) (L := [some (R 10), some (I p1)]) rfl rfl rfl ?_
  have hF0 := Fr.rf fm_m193_10 M0
  generalize hQ : (qR fun z M => Pw M ∧ Fr fm_m193_10 M0 M ∧ 105 ≤ z ∧ z ≤ 118) = Q
  refine wk_al0 r193_0 (wk_getfr r193_1 fd_10_0 (br_10_0 hP0) (wk_c2 r193_4 (wk_c1 r193_6 (wk_il1 r193_7 (wk_imul r193_8 (wk_iadd r193_9 (wk_al0 r193_10 (wk_getfr r193_11 fd_10_3 (br_10_3 hP0) (wk_il1 r193_14 (wk_ialdb r193_15 ar_11 ⟨by omega, by omega⟩ (fun q0 q1 => ba_11 hP0 q0 q1) ?_))))))))))
  intro v1 h3 h4 e2
  refine wk_iadd r193_16 (wk_raldb r193_17 ar_16 ⟨by omega, by omega⟩ (fun q0 q1 => ba_16 hP0 q0 q1) ?_)
  subst hQ; exact wk_aret r193_18 (⟨rfl, _, rfl, hP0, hF0, by omega, by omega⟩)
def fm_m185_10v8 : Nat := 0
/-- IslandHall$Realm.alike -/
theorem m185_10v8 {B : eB} (d : Nat) (M0 : Mm) (p1 : Int) (p2 : Int) (hP0 : Pw M0) (l1 : 0 ≤ p1) (u1 : p1 ≤ 54) (l2 : 0 ≤ p2) (u2 : p2 ≤ 46) (xp0 : p1 % 8 ≤ 6) : Ct B (d + 1) 185 [R 10, I p1, I p2] M0 (qL fun z M => Pw M ∧ Fr fm_m185_10v8 M0 M ∧ z < 18446744073709551616) := by
  refine ct_of (d := d + 0) (k := 5) (L := [some (R 10), some (I p1), some (I p2), none, none, none, none, none]) rfl rfl rfl ?_
  have hF0 := Fr.rf fm_m185_10v8 M0
  generalize hQ : (qL fun z M => Pw M ∧ Fr fm_m185_10v8 M0 M ∧ z < 18446744073709551616) = Q
  refine wk_c1 r185_0 (wk_il1 r185_1 (wk_c1 r185_2 (wk_ishrc r185_3 ⟨by omega, by omega⟩ (by decide) pwl_3 (wk_c1 r185_4 (wk_imul r185_5 (wk_iadd r185_6 (wk_is3 r185_7 rfl (wk_c1 r185_8 (wk_il1 r185_9 (wk_c2 r185_10 (wk_iandc 3 8 r185_12 ⟨rfl, by decide⟩ rfl (wk_c1 r185_13 (wk_imul r185_14 (wk_iadd r185_15 (wk_is4 r185_16 rfl (wk_c6 r185_18 (wk_ls5 r185_19 rfl (wk_c1 r185_21 (wk_is7 r185_22 rfl ?_)))))))))))))))))))
  have c24_170 : ∀ (k170 : Nat) (n146 : Nat) (v148 : Int), (5 - v148).toNat = k170 → n146 < 18446744073709551616 → 0 ≤ v148 → v148 ≤ 5 → Wp B (d + 0) 185 24 [some (R 10), none, some (I p2), some (I (0 + ((p1 / 8) * 5))), some (I (0 + ((p1 % 8) * 5))), some (J n146), none, some (I v148)] [] M0 Q := by
    refine lp_ind ?_
    intro k170 ih170 n146 v148 hk170 h147 h149 h150
    refine wk_il7 r185_24 (wk_c1 r185_26 ?_)
    refine wk_icge r185_27 ⟨by omega, by omega⟩ (by decide) ?_ ?_
    · intro h151
      refine wk_ll5 r185_65 ?_
      subst hQ; exact wk_lret r185_67 (⟨rfl, _, rfl, hP0, hF0, by omega⟩)
    · intro h152
      refine wk_ll5 r185_30 (wk_al0 r185_32 (wk_getfr r185_33 fd_10_0 (br_10_0 hP0) (wk_il3 r185_36 (wk_il7 r185_37 (wk_iadd r185_39 (wk_raldb r185_40 ar_16 ⟨by omega, by omega⟩ (fun q0 q1 => ba_16 hP0 q0 q1) (wk_il2 r185_41 (wk_laldb r185_42 (arF_17 (by omega) (by omega)) ⟨by omega, by omega⟩ (fun q0 q1 => baF_17 hP0 (by omega) (by omega) q0 q1) (by decide) ?_))))))))
      intro n153 h155 h156 e154
      refine wk_al0 r185_43 (wk_getfr r185_44 fd_10_0 (br_10_0 hP0) (wk_il4 r185_47 (wk_il7 r185_49 (wk_iadd r185_51 (wk_raldb r185_52 ar_16 ⟨by omega, by omega⟩ (fun q0 q1 => ba_16 hP0 q0 q1) (wk_il2 r185_53 (wk_laldb r185_54 (arF_17 (by omega) (by omega)) ⟨by omega, by omega⟩ (fun q0 q1 => baF_17 hP0 (by omega) (by omega) q0 q1) (by decide) ?_)))))))
      intro n157 h159 h160 e158
      refine wk_land r185_55 ?_
      intro n161 h162 h163 h164 h165
      refine wk_lorb r185_56 ?_
      intro n166 h167 h168 h169
      refine wk_ls5 r185_57 rfl (wk_inc7 r185_59 rfl (wk_goto r185_62 ?_))
      exact wp_fg (le_s (le_s (le_s (le_s (le_s (le_s (le_s (le_s le_0)))))))) (ih170 (5 - (v148 + 1)).toNat (by omega) n166 (v148 + 1) rfl (by omega) (by omega) (by omega))
  exact wp_fg (le_s (le_n (le_s (le_s (le_s (le_s (le_s (le_s le_0)))))))) (c24_170 _ 0 0 rfl (by omega) (by omega) (by omega))
def fm_m198_10v8 : Nat := 0
/-- IslandHall$Realm.many -/
theorem m198_10v8 {B : eB} (d : Nat) (M0 : Mm) (p1 : Int) (p2 : Int) (hP0 : Pw M0) (l1 : 0 ≤ p1) (u1 : p1 ≤ 1279) (l2 : 0 ≤ p2) (u2 : p2 ≤ 46) : Ct B (d + 1) 198 [R 10, I p1, I p2] M0 (qL fun z M => Pw M ∧ Fr fm_m198_10v8 M0 M ∧ z < 18446744073709551616) := by
  refine ct_of (d := d + 0) (k := 4) (L := [some (R 10), some (I p1), some (I p2), none, none, none, none]) rfl rfl rfl ?_
  have hF0 := Fr.rf fm_m198_10v8 M0
  generalize hQ : (qL fun z M => Pw M ∧ Fr fm_m198_10v8 M0 M ∧ z < 18446744073709551616) = Q
  refine wk_c2 r198_0 (wk_il1 r198_2 (wk_c2 r198_3 (wk_ishrc r198_5 ⟨by omega, by omega⟩ (by decide) pwl_8 (wk_c2 r198_6 (wk_imul r198_8 (wk_iadd r198_9 (wk_is3 r198_10 rfl (wk_c6 r198_11 (wk_ls4 r198_12 rfl (wk_c1 r198_14 (wk_is6 r198_15 rfl ?_)))))))))))
  have c17_178 : ∀ (k178 : Nat) (n156 : Nat) (v158 : Int), (8 - v158).toNat = k178 → n156 < 18446744073709551616 → 0 ≤ v158 → v158 ≤ 8 → Wp B (d + 0) 198 17 [some (R 10), some (I p1), some (I p2), some (I (48 + ((p1 / 256) * 8))), some (J n156), none, some (I v158)] [] M0 Q := by
    refine lp_ind ?_
    intro k178 ih178 n156 v158 hk178 h157 h159 h160
    refine wk_il6 r198_17 (wk_c2 r198_19 ?_)
    refine wk_icgt r198_21 ⟨by omega, by omega⟩ (by decide) ?_ ?_
    · intro h161
      refine wk_ll4 r198_56 ?_
      subst hQ; exact wk_lret r198_58 (⟨rfl, _, rfl, hP0, hF0, by omega⟩)
    · intro h162
      refine wk_il1 r198_24 (wk_il6 r198_25 (wk_shrb r198_27 ⟨by omega, by omega⟩ ⟨by omega, by omega⟩ ?_))
      intro v163 h164 h165 h166
      refine wk_c1 r198_28 (wk_iandc 1 2 r198_29 ⟨rfl, by decide⟩ rfl (wk_c1 r198_30 ?_))
      refine wk_icne r198_31 ⟨by omega, by omega⟩ (by decide) ?_ ?_
      · intro h168
        refine wk_inc6 r198_50 rfl (wk_goto r198_53 ?_)
        exact wp_fg (le_s (le_s (le_s (le_s (le_s (le_s (le_s le_0))))))) (ih178 (8 - (v158 + 1)).toNat (by omega) n156 (v158 + 1) rfl (by omega) (by omega) (by omega))
      · intro h169
        refine wk_ll4 r198_34 (wk_al0 r198_36 (wk_getfr r198_37 fd_10_0 (br_10_0 hP0) (wk_il3 r198_40 (wk_il6 r198_41 (wk_iadd r198_43 (wk_raldb r198_44 ar_16 ⟨by omega, by omega⟩ (fun q0 q1 => ba_16 hP0 q0 q1) (wk_il2 r198_45 (wk_laldb r198_46 (arF_17 (by omega) (by omega)) ⟨by omega, by omega⟩ (fun q0 q1 => baF_17 hP0 (by omega) (by omega) q0 q1) (by decide) ?_))))))))
        intro n170 h172 h173 e171
        refine wk_lorb r198_47 ?_
        intro n174 h175 h176 h177
        refine wk_ls4 r198_48 rfl (wk_inc6 r198_50 rfl (wk_goto r198_53 ?_))
        exact wp_fg (le_s (le_s (le_s (le_s (le_s (le_s (le_s le_0))))))) (ih178 (8 - (v158 + 1)).toNat (by omega) n174 (v158 + 1) rfl (by omega) (by omega) (by omega))
  exact wp_fg (le_s (le_s (le_s (le_s (le_s (le_s (le_s le_0))))))) (c17_178 _ 0 0 rfl (by omega) (by omega) (by omega))
def fm_m189_10v8 : Nat := 0
/-- IslandHall$Realm.fits -/
theorem m189_10v8 {B : eB} (d : Nat) (M0 : Mm) (p1 : Int) (p2 : Int) (p3 : Nat) (p4 : Int) (hP0 : Pw M0) (l1 : 0 ≤ p1) (u1 : p1 ≤ 6) (l2 : (-1) ≤ p2) (u2 : p2 ≤ (-1)) (l3 : p3 < 18446744073709551616) (l4 : 0 ≤ p4) (u4 : p4 ≤ 46) : Ct B (d + 2) 189 [R 10, I p1, I p2, J p3, I p4] M0 (qL fun z M => Pw M ∧ Fr fm_m189_10v8 M0 M ∧ z < 18446744073709551616) := by
  refine ct_of (d := d + 1) (k := 0) (L := [some (R 10), some (I p1), some (I p2), some (J p3), none, some (I p4)]) rfl rfl rfl ?_
  have hF0 := Fr.rf fm_m189_10v8 M0
  generalize hQ : (qL fun z M => Pw M ∧ Fr fm_m189_10v8 M0 M ∧ z < 18446744073709551616) = Q
  refine wk_al0 r189_0 (wk_il1 r189_1 (wk_cv2 r189_2 kc_10_190 rfl (m190_10 _ M0 p1 hP0 (by omega) (by omega)) (cqR ?_)))
  rintro v5 M1 ⟨hP2, hQ3, h6, h7⟩
  obtain rfl := Fr.same hQ3
  refine wk_il5 r189_5 (wk_laldb r189_7 (arF_17 (by omega) (by omega)) ⟨by omega, by omega⟩ (fun q0 q1 => baF_17 hP0 (by omega) (by omega) q0 q1) (by decide) ?_)
  intro n8 h10 h11 e9
  refine wk_al0 r189_8 (wk_il2 r189_9 (wk_cv2 r189_10 kc_10_208 rfl (m208_10 _ M0 p2 hP0 (by omega) (by omega)) (cqR ?_)))
  rintro v16 M12 ⟨hP13, hQ14, h17, h18⟩
  obtain rfl : v16 = 135 := by omega
  obtain rfl := Fr.same hQ14
  refine wk_il5 r189_13 (wk_laldb r189_15 ar_135 ⟨by omega, by omega⟩ (fun q0 q1 => ba_135 hP0 q0 q1) (by decide) ?_)
  intro n19 h21 h22 e20
  refine wk_ll3 r189_16 (wk_lxor r189_17 ?_)
  intro n23 h24 h25
  refine wk_al0 r189_18 (wk_il1 r189_19 (wk_cv2 r189_20 kc_10_193 rfl (m193_10 _ M0 p1 hP0 (by omega) (by omega)) (cqR ?_)))
  rintro v30 M26 ⟨hP27, hQ28, h31, h32⟩
  obtain rfl := Fr.same hQ28
  refine wk_il5 r189_23 (wk_laldb r189_25 (arF_17 (by omega) (by omega)) ⟨by omega, by omega⟩ (fun q0 q1 => baF_17 hP0 (by omega) (by omega) q0 q1) (by decide) ?_)
  intro n33 h35 h36 e34
  refine wk_lxor r189_26 ?_
  intro n37 h38 h39
  refine wk_lorb r189_27 ?_
  intro n40 h41 h42 h43
  subst hQ; exact wk_lret r189_28 (⟨rfl, _, rfl, hP0, hF0, by omega⟩)
def fm_m207_10v8 : Nat := 18446744073709551616
/-- IslandHall$Realm.truth -/
theorem m207_10v8 {B : eB} (d : Nat) (M0 : Mm) (c1 : Int) (p2 : Int) (hP0 : Pw M0) (hC1 : isC c1) (l2 : 0 ≤ p2) (u2 : p2 ≤ 46) : Ct B (d + 3) 207 [R 10, R c1, I p2] M0 (qL fun z M => Pw M ∧ Fr fm_m207_10v8 M0 M ∧ z < 18446744073709551616) := by
  refine ct_of (d := d + 2) (k := 7) (L := [some (R 10), some (R c1), some (I p2), none, none, none, none, none, none, none]) rfl rfl rfl ?_
  have hF0 := Fr.rf fm_m207_10v8 M0
  generalize hQ : (qL fun z M => Pw M ∧ Fr fm_m207_10v8 M0 M ∧ z < 18446744073709551616) = Q
  refine wk_c1 r207_0 (wk_is3 r207_1 rfl (wk_c1 r207_2 (wk_is4 r207_3 rfl ?_)))
  have c5_1600 : ∀ (k1600 : Nat) (M1434 : Mm) (v1428 : Int) (v1431 : Int), (256 - v1431).toNat = k1600 → Pw M1434 → Fr fm_m207_10v8 M0 M1434 → 0 ≤ v1428 → v1428 ≤ 31 → 0 ≤ v1431 → v1431 ≤ 256 → 0 ≤ (-1) * v1428 + v1431 + 0 → Wp B (d + 2) 207 5 [some (R 10), some (R c1), some (I p2), some (I v1428), some (I v1431), none, none, none, none, none] [] M1434 Q := by
    refine lp_ind ?_
    intro k1600 ih1600 M1434 v1428 v1431 hk1600 hP1435 hF1436 h1429 h1430 h1432 h1433 h1437
    refine wk_il4 r207_5 (wk_al1 r207_7 (wk_getfb r207_8 (fdC_1 hC1) (bC_1 hP1435 hC1) ?_))
    intro v1438 h1440 h1441 e1439
    refine wk_icge r207_11 ⟨by omega, by omega⟩ ⟨by omega, by omega⟩ ?_ ?_
    · intro h1442
      refine wk_al0 r207_255 (wk_getfr r207_256 fd_10_4 (br_10_4 hP1435) (wk_c1 r207_259 (wk_laldb r207_260 ar_12 (by decide) (fun q0 q1 => ba_12 hP1435 q0 q1) (by decide) ?_)))
      intro n1443 h1445 h1446 e1444
      subst hQ; exact wk_lret r207_261 (⟨rfl, _, rfl, hP1435, hF1436, by omega⟩)
    · intro h1447
      refine wk_il3 r207_14 (wk_c1 r207_15 (wk_iadd r207_16 (wk_c2 r207_17 ?_)))
      refine wk_icge r207_19 ⟨by omega, by omega⟩ (by decide) ?_ ?_
      · intro h1448
        refine wk_al0 r207_255 (wk_getfr r207_256 fd_10_4 (br_10_4 hP1435) (wk_c1 r207_259 (wk_laldb r207_260 ar_12 (by decide) (fun q0 q1 => ba_12 hP1435 q0 q1) (by decide) ?_)))
        intro n1449 h1451 h1452 e1450
        subst hQ; exact wk_lret r207_261 (⟨rfl, _, rfl, hP1435, hF1436, by omega⟩)
      · intro h1453
        refine wk_al1 r207_22 (wk_getfr r207_23 (fdC_0 hC1) (bC_0 hP1435 hC1) (wk_il4 r207_26 (wk_ialdb r207_28 (arC hC1) ⟨by omega, by omega⟩ (fun q0 q1 => baC hP1435 hC1 q0 q1) ?_)))
        intro v1454 h1456 h1457 e1455
        have h1458 := exC hP1435 hC1 (i := v1431) (by omega) (by omega); rw [e1455] at h1458; unfold stepok at h1458
        refine wk_c1 r207_29 (wk_ishrc r207_30 ⟨by omega, by omega⟩ (by decide) pwl_3 (wk_is5 r207_31 rfl (wk_al1 r207_33 (wk_getfr r207_34 (fdC_0 hC1) (bC_0 hP1435 hC1) (wk_il4 r207_37 (wk_iald r207_39 (arC hC1) ⟨by omega, by omega⟩ e1455 (wk_c2 r207_40 (wk_iandc 3 8 r207_42 ⟨rfl, by decide⟩ rfl (wk_is6 r207_43 rfl (wk_il6 r207_45 (wk_c1 r207_47 ?_)))))))))))
        refine wk_iceq r207_48 ⟨by omega, by omega⟩ (by decide) ?_ ?_
        · intro h1461
          refine wk_c1 r207_57 (wk_goto r207_58 (wk_is7 r207_62 rfl (wk_il6 r207_64 ?_)))
          refine wk_ifeq r207_66 ⟨by omega, by omega⟩ ?_ ?_
          · intro h1462
            exfalso
            omega
          · intro h1463
            refine wk_il6 r207_69 (wk_c1 r207_71 ?_)
            refine wk_iceq r207_72 ⟨by omega, by omega⟩ (by decide) ?_ ?_
            · intro h1464
              exfalso
              omega
            · intro h1465
              refine wk_il6 r207_75 (wk_c2 r207_77 ?_)
              refine wk_icne r207_79 ⟨by omega, by omega⟩ (by decide) ?_ ?_
              · intro h1466
                refine wk_il7 r207_134 ?_
                refine wk_ifeq r207_136 (by decide) ?_ ?_
                · intro h1467
                  exfalso
                  omega
                · intro h1468
                  refine wk_il3 r207_139 (wk_c1 r207_140 ?_)
                  refine wk_icle r207_141 ⟨by omega, by omega⟩ (by decide) ?_ ?_
                  · intro h1469
                    refine wk_il7 r207_197 ?_
                    refine wk_ifne r207_199 (by decide) ?_ ?_
                    · intro h1470
                      refine wk_inc4 r207_249 rfl (wk_goto r207_252 ?_)
                      exact wp_fg (le_s (le_s (le_s (le_s (le_s (le_n (le_n (le_n (le_s (le_s le_0)))))))))) (ih1600 (256 - (v1431 + 1)).toNat (by omega) M1434 v1428 (v1431 + 1) rfl hP1435 hF1436 (by omega) (by omega) (by omega) (by omega) (by omega))
                    · intro h1471
                      exfalso
                      omega
                  · intro h1472
                    refine wk_inc3 r207_144 rfl (wk_al0 r207_147 (wk_getfr r207_148 fd_10_4 (br_10_4 hP1435) (wk_il3 r207_151 (wk_laldb r207_152 ar_12 ⟨by omega, by omega⟩ (fun q0 q1 => ba_12 hP1435 q0 q1) (by decide) ?_))))
                    intro n1473 h1475 h1476 e1474
                    refine wk_ls8 r207_153 rfl (wk_al0 r207_155 (wk_getfr r207_156 fd_10_4 (br_10_4 hP1435) (wk_il3 r207_159 (wk_c1 r207_160 (wk_isub r207_161 (wk_il6 r207_162 (wk_c1 r207_164 ?_)))))))
                    refine wk_icne r207_165 ⟨by omega, by omega⟩ (by decide) ?_ ?_
                    · intro h1477
                      exfalso
                      omega
                    · intro h1478
                      refine wk_al0 r207_168 (wk_getfr r207_169 fd_10_4 (br_10_4 hP1435) (wk_il3 r207_172 (wk_c1 r207_173 (wk_isub r207_174 (wk_laldb r207_175 ar_12 ⟨by omega, by omega⟩ (fun q0 q1 => ba_12 hP1435 q0 q1) (by decide) ?_)))))
                      intro n1479 h1481 h1482 e1480
                      refine wk_ll8 r207_176 (wk_land r207_178 ?_)
                      intro n1483 h1484 h1485 h1486 h1487
                      refine wk_goto r207_179 (wk_last r207_193 ar_12 ⟨by omega, by omega⟩ (wk_nw (ga_12 _) rfl hP1435 hF1436 (ua_12 ⟨by omega, by omega⟩) ?_))
                      intro M1488 hP1489 hF1490 e1491
                      refine wk_goto r207_194 (wk_inc4 r207_249 rfl (wk_goto r207_252 ?_))
                      exact wp_fg (le_s (le_s (le_s (le_s (le_s (le_n (le_n (le_n (le_n (le_s le_0)))))))))) (ih1600 (256 - (v1431 + 1)).toNat (by omega) M1488 (v1428 + (-1)) (v1431 + 1) rfl hP1489 hF1490 (by omega) (by omega) (by omega) (by omega) (by omega))
              · intro h1492
                exfalso
                omega
        · intro h1493
          refine wk_il6 r207_51 (wk_c1 r207_53 ?_)
          refine wk_icne r207_54 ⟨by omega, by omega⟩ (by decide) ?_ ?_
          · intro h1494
            refine wk_c1 r207_61 (wk_is7 r207_62 rfl (wk_il6 r207_64 ?_))
            refine wk_ifeq r207_66 ⟨by omega, by omega⟩ ?_ ?_
            · intro h1495
              refine wk_al0 r207_82 (wk_getfr r207_83 fd_10_4 (br_10_4 hP1435) (wk_il3 r207_86 (wk_il6 r207_87 ?_)))
              refine wk_ifne r207_89 ⟨by omega, by omega⟩ ?_ ?_
              · intro h1496
                exfalso
                omega
              · intro h1497
                refine wk_al0 r207_92 (wk_getfr r207_93 fd_10_0 (br_10_0 hP1435) (wk_il5 r207_96 (wk_raldb r207_98 ar_16 ⟨by omega, by omega⟩ (fun q0 q1 => ba_16 hP1435 q0 q1) (wk_il2 r207_99 (wk_laldb r207_100 (arF_17 (by omega) (by omega)) ⟨by omega, by omega⟩ (fun q0 q1 => baF_17 hP1435 (by omega) (by omega) q0 q1) (by decide) ?_)))))
                intro n1498 h1500 h1501 e1499
                refine wk_goto r207_101 (wk_last r207_127 ar_12 ⟨by omega, by omega⟩ (wk_nw (ga_12 _) rfl hP1435 hF1436 (ua_12 ⟨by omega, by omega⟩) ?_))
                intro M1502 hP1503 hF1504 e1505
                refine wk_inc3 r207_128 rfl (wk_goto r207_131 (wk_inc4 r207_249 rfl (wk_goto r207_252 ?_)))
                exact wp_fg (le_s (le_s (le_s (le_s (le_s (le_n (le_n (le_n (le_s (le_s le_0)))))))))) (ih1600 (256 - (v1431 + 1)).toNat (by omega) M1502 (v1428 + 1) (v1431 + 1) rfl hP1503 hF1504 (by omega) (by omega) (by omega) (by omega) (by omega))
            · intro h1506
              refine wk_il6 r207_69 (wk_c1 r207_71 ?_)
              refine wk_iceq r207_72 ⟨by omega, by omega⟩ (by decide) ?_ ?_
              · intro h1507
                refine wk_al0 r207_82 (wk_getfr r207_83 fd_10_4 (br_10_4 hP1435) (wk_il3 r207_86 (wk_il6 r207_87 ?_)))
                refine wk_ifne r207_89 ⟨by omega, by omega⟩ ?_ ?_
                · intro h1508
                  refine wk_il6 r207_104 (wk_c1 r207_106 ?_)
                  refine wk_icne r207_107 ⟨by omega, by omega⟩ (by decide) ?_ ?_
                  · intro h1509
                    exfalso
                    omega
                  · intro h1510
                    refine wk_al0 r207_110 (wk_il5 r207_111 (wk_il2 r207_113 (wk_cv3 r207_114 kc_10_185 rfl (m185_10v8 _ M1434 (v1454 / 8) p2 hP1435 (by omega) (by omega) (by omega) (by omega) (by first | assumption | omega | (unfold stepok; omega))) (cqL ?_))))
                    rintro n1515 M1511 ⟨hP1512, hQ1513, h1516⟩
                    obtain rfl := Fr.same hQ1513
                    refine wk_goto r207_117 (wk_last r207_127 ar_12 ⟨by omega, by omega⟩ (wk_nw (ga_12 _) rfl hP1435 hF1436 (ua_12 ⟨by omega, by omega⟩) ?_))
                    intro M1517 hP1518 hF1519 e1520
                    refine wk_inc3 r207_128 rfl (wk_goto r207_131 (wk_inc4 r207_249 rfl (wk_goto r207_252 ?_)))
                    exact wp_fg (le_s (le_s (le_s (le_s (le_s (le_n (le_n (le_n (le_s (le_s le_0)))))))))) (ih1600 (256 - (v1431 + 1)).toNat (by omega) M1517 (v1428 + 1) (v1431 + 1) rfl hP1518 hF1519 (by omega) (by omega) (by omega) (by omega) (by omega))
                · intro h1521
                  exfalso
                  omega
              · intro h1522
                refine wk_il6 r207_75 (wk_c2 r207_77 ?_)
                refine wk_icne r207_79 ⟨by omega, by omega⟩ (by decide) ?_ ?_
                · intro h1523
                  refine wk_il7 r207_134 ?_
                  refine wk_ifeq r207_136 (by decide) ?_ ?_
                  · intro h1524
                    refine wk_il7 r207_197 ?_
                    refine wk_ifne r207_199 (by decide) ?_ ?_
                    · intro h1525
                      exfalso
                      omega
                    · intro h1526
                      refine wk_il3 r207_202 ?_
                      refine wk_ifle r207_203 ⟨by omega, by omega⟩ ?_ ?_
                      · intro h1527
                        refine wk_inc4 r207_249 rfl (wk_goto r207_252 ?_)
                        exact wp_fg (le_s (le_s (le_s (le_s (le_s (le_n (le_n (le_n (le_s (le_s le_0)))))))))) (ih1600 (256 - (v1431 + 1)).toNat (by omega) M1434 v1428 (v1431 + 1) rfl hP1435 hF1436 (by omega) (by omega) (by omega) (by omega) (by omega))
                      · intro h1528
                        refine wk_al0 r207_206 (wk_getfr r207_207 fd_10_4 (br_10_4 hP1435) (wk_il3 r207_210 (wk_c1 r207_211 (wk_isub r207_212 (wk_laldb r207_213 ar_12 ⟨by omega, by omega⟩ (fun q0 q1 => ba_12 hP1435 q0 q1) (by decide) ?_)))))
                        intro n1529 h1531 h1532 e1530
                        refine wk_ls8 r207_214 rfl (wk_al0 r207_216 (wk_getfr r207_217 fd_10_4 (br_10_4 hP1435) (wk_il3 r207_220 (wk_c1 r207_221 (wk_isub r207_222 (wk_il6 r207_223 (wk_c1 r207_225 ?_)))))))
                        refine wk_icne r207_226 ⟨by omega, by omega⟩ (by decide) ?_ ?_
                        · intro h1533
                          have h1534 : (v1454 / 8) ≤ 6 := by omega
                          refine wk_al0 r207_238 (wk_il5 r207_239 (wk_c1 r207_241 (wk_ll8 r207_242 (wk_il2 r207_244 (wk_cv5 r207_245 kc_10_189 rfl (m189_10v8 _ M1434 (v1454 / 8) (-1) n1529 p2 hP1435 (by omega) (by omega) (by decide) (by decide) (by omega) (by omega) (by omega)) (cqL ?_))))))
                          rintro n1539 M1535 ⟨hP1536, hQ1537, h1540⟩
                          obtain rfl := Fr.same hQ1537
                          refine wk_last r207_248 ar_12 ⟨by omega, by omega⟩ (wk_nw (ga_12 _) rfl hP1435 hF1436 (ua_12 ⟨by omega, by omega⟩) ?_)
                          intro M1541 hP1542 hF1543 e1544
                          refine wk_inc4 r207_249 rfl (wk_goto r207_252 ?_)
                          exact wp_fg (le_s (le_s (le_s (le_s (le_s (le_n (le_n (le_n (le_n (le_s le_0)))))))))) (ih1600 (256 - (v1431 + 1)).toNat (by omega) M1541 v1428 (v1431 + 1) rfl hP1542 hF1543 (by omega) (by omega) (by omega) (by omega) (by omega))
                        · intro h1545
                          refine wk_ll8 r207_229 (wk_c7 r207_231 (wk_lxor r207_234 ?_))
                          intro n1546 h1547 h1548
                          refine wk_goto r207_235 (wk_last r207_248 ar_12 ⟨by omega, by omega⟩ (wk_nw (ga_12 _) rfl hP1435 hF1436 (ua_12 ⟨by omega, by omega⟩) ?_))
                          intro M1549 hP1550 hF1551 e1552
                          refine wk_inc4 r207_249 rfl (wk_goto r207_252 ?_)
                          exact wp_fg (le_s (le_s (le_s (le_s (le_s (le_n (le_n (le_n (le_n (le_s le_0)))))))))) (ih1600 (256 - (v1431 + 1)).toNat (by omega) M1549 v1428 (v1431 + 1) rfl hP1550 hF1551 (by omega) (by omega) (by omega) (by omega) (by omega))
                  · intro h1553
                    exfalso
                    omega
                · intro h1554
                  refine wk_al0 r207_82 (wk_getfr r207_83 fd_10_4 (br_10_4 hP1435) (wk_il3 r207_86 (wk_il6 r207_87 ?_)))
                  refine wk_ifne r207_89 ⟨by omega, by omega⟩ ?_ ?_
                  · intro h1555
                    refine wk_il6 r207_104 (wk_c1 r207_106 ?_)
                    refine wk_icne r207_107 ⟨by omega, by omega⟩ (by decide) ?_ ?_
                    · intro h1556
                      refine wk_al0 r207_120 (wk_il5 r207_121 (wk_il2 r207_123 (wk_cv3 r207_124 kc_10_198 rfl (m198_10v8 _ M1434 (v1454 / 8) p2 hP1435 (by omega) (by omega) (by omega) (by omega)) (cqL ?_))))
                      rintro n1561 M1557 ⟨hP1558, hQ1559, h1562⟩
                      obtain rfl := Fr.same hQ1559
                      refine wk_last r207_127 ar_12 ⟨by omega, by omega⟩ (wk_nw (ga_12 _) rfl hP1435 hF1436 (ua_12 ⟨by omega, by omega⟩) ?_)
                      intro M1563 hP1564 hF1565 e1566
                      refine wk_inc3 r207_128 rfl (wk_goto r207_131 (wk_inc4 r207_249 rfl (wk_goto r207_252 ?_)))
                      exact wp_fg (le_s (le_s (le_s (le_s (le_s (le_n (le_n (le_n (le_s (le_s le_0)))))))))) (ih1600 (256 - (v1431 + 1)).toNat (by omega) M1563 (v1428 + 1) (v1431 + 1) rfl hP1564 hF1565 (by omega) (by omega) (by omega) (by omega) (by omega))
                    · intro h1567
                      exfalso
                      omega
                  · intro h1568
                    exfalso
                    omega
          · intro h1569
            refine wk_c1 r207_57 (wk_goto r207_58 (wk_is7 r207_62 rfl (wk_il6 r207_64 ?_)))
            refine wk_ifeq r207_66 ⟨by omega, by omega⟩ ?_ ?_
            · intro h1570
              exfalso
              omega
            · intro h1571
              refine wk_il6 r207_69 (wk_c1 r207_71 ?_)
              refine wk_iceq r207_72 ⟨by omega, by omega⟩ (by decide) ?_ ?_
              · intro h1572
                exfalso
                omega
              · intro h1573
                refine wk_il6 r207_75 (wk_c2 r207_77 ?_)
                refine wk_icne r207_79 ⟨by omega, by omega⟩ (by decide) ?_ ?_
                · intro h1574
                  refine wk_il7 r207_134 ?_
                  refine wk_ifeq r207_136 (by decide) ?_ ?_
                  · intro h1575
                    exfalso
                    omega
                  · intro h1576
                    refine wk_il3 r207_139 (wk_c1 r207_140 ?_)
                    refine wk_icle r207_141 ⟨by omega, by omega⟩ (by decide) ?_ ?_
                    · intro h1577
                      refine wk_il7 r207_197 ?_
                      refine wk_ifne r207_199 (by decide) ?_ ?_
                      · intro h1578
                        refine wk_inc4 r207_249 rfl (wk_goto r207_252 ?_)
                        exact wp_fg (le_s (le_s (le_s (le_s (le_s (le_n (le_n (le_n (le_s (le_s le_0)))))))))) (ih1600 (256 - (v1431 + 1)).toNat (by omega) M1434 v1428 (v1431 + 1) rfl hP1435 hF1436 (by omega) (by omega) (by omega) (by omega) (by omega))
                      · intro h1579
                        exfalso
                        omega
                    · intro h1580
                      refine wk_inc3 r207_144 rfl (wk_al0 r207_147 (wk_getfr r207_148 fd_10_4 (br_10_4 hP1435) (wk_il3 r207_151 (wk_laldb r207_152 ar_12 ⟨by omega, by omega⟩ (fun q0 q1 => ba_12 hP1435 q0 q1) (by decide) ?_))))
                      intro n1581 h1583 h1584 e1582
                      refine wk_ls8 r207_153 rfl (wk_al0 r207_155 (wk_getfr r207_156 fd_10_4 (br_10_4 hP1435) (wk_il3 r207_159 (wk_c1 r207_160 (wk_isub r207_161 (wk_il6 r207_162 (wk_c1 r207_164 ?_)))))))
                      refine wk_icne r207_165 ⟨by omega, by omega⟩ (by decide) ?_ ?_
                      · intro h1585
                        refine wk_al0 r207_182 (wk_getfr r207_183 fd_10_4 (br_10_4 hP1435) (wk_il3 r207_186 (wk_c1 r207_187 (wk_isub r207_188 (wk_laldb r207_189 ar_12 ⟨by omega, by omega⟩ (fun q0 q1 => ba_12 hP1435 q0 q1) (by decide) ?_)))))
                        intro n1586 h1588 h1589 e1587
                        refine wk_ll8 r207_190 (wk_lorb r207_192 ?_)
                        intro n1590 h1591 h1592 h1593
                        refine wk_last r207_193 ar_12 ⟨by omega, by omega⟩ (wk_nw (ga_12 _) rfl hP1435 hF1436 (ua_12 ⟨by omega, by omega⟩) ?_)
                        intro M1594 hP1595 hF1596 e1597
                        refine wk_goto r207_194 (wk_inc4 r207_249 rfl (wk_goto r207_252 ?_))
                        exact wp_fg (le_s (le_s (le_s (le_s (le_s (le_n (le_n (le_n (le_n (le_s le_0)))))))))) (ih1600 (256 - (v1431 + 1)).toNat (by omega) M1594 (v1428 + (-1)) (v1431 + 1) rfl hP1595 hF1596 (by omega) (by omega) (by omega) (by omega) (by omega))
                      · intro h1598
                        exfalso
                        omega
                · intro h1599
                  exfalso
                  omega
  exact wp_fg (le_s (le_s (le_s (le_s (le_s (le_s (le_s (le_s (le_s (le_s le_0)))))))))) (c5_1600 _ M0 0 0 rfl hP0 hF0 (by omega) (by omega) (by omega) (by omega) (by omega))
def fm_m31_0 : Nat := 0
/-- IslandHall.needSentence -/
theorem m31_0 {B : eB} (d : Nat) (M0 : Mm) (p1 : Int) (hP0 : Pw M0) (l1 : (-2147483648) ≤ p1) (u1 : p1 ≤ 2147483647) : Ct B (d + 1) 31 [R 0, I p1] M0 (qX 0 (fun M => Pw M ∧ Fr (fm_m31_0 ||| 1) M0 M ∧ M (-1) 0 = M0 (-1) 0 + 1) (qV fun M => Pw M ∧ Fr fm_m31_0 M0 M ∧ 0 ≤ p1 ∧ 0 ≤ M 0 9 + (-1) * p1 + (-1))) := by
  refine ct_of (d := d + 0) (k := 0) (L := [some (R 0), some (I p1)]) rfl rfl rfl ?_
  have hF0 := Fr.rf fm_m31_0 M0
  generalize hQ : (qX 0 (fun M => Pw M ∧ Fr (fm_m31_0 ||| 1) M0 M ∧ M (-1) 0 = M0 (-1) 0 + 1) (qV fun M => Pw M ∧ Fr fm_m31_0 M0 M ∧ 0 ≤ p1 ∧ 0 ≤ M 0 9 + (-1) * p1 + (-1))) = Q
  refine wk_il1 r31_0 ?_
  refine wk_iflt r31_1 ⟨by omega, by omega⟩ ?_ ?_
  · intro h1
    subst hQ; exact wk_thr112 r31_12 rfl (Or.inl ⟨rfl, hP0.thr, (Fr.thr hF0), (by rw [mUp_eq, hF0.at g_below rfl])⟩)
  · intro h2
    refine wk_il1 r31_4 (wk_al0 r31_5 (wk_getfb r31_6 fd_0_9 (bf_0_9 hP0) ?_))
    intro v3 h5 h6 e4
    refine wk_iclt r31_9 ⟨by omega, by omega⟩ ⟨by omega, by omega⟩ ?_ ?_
    · intro h7
      subst hQ; exact wk_ret r31_23 (Or.inr ⟨rfl, hP0, hF0, by omega, by have := e4; omega⟩)
    · intro h8
      subst hQ; exact wk_thr112 r31_12 rfl (Or.inl ⟨rfl, hP0.thr, (Fr.thr hF0), (by rw [mUp_eq, hF0.at g_below rfl])⟩)
