/-! ===== written by program (wip/layer2/all.py): contracts of methods ===== -/
def fm_m166_6v1 : Nat := 3941070043873280
/-- IslandHall$Parser.negation -/
theorem m166_6v1 {B : eB} (d : Nat) (M0 : Mm) (p1 : Int) (hP0 : Pw M0) (l1 : 1 ≤ p1) (u1 : p1 ≤ 1) : Ct B (d + 32) 166 [R 6, I p1] M0 (qI fun z M => Pw M ∧ Fr fm_m166_6v1 M0 M ∧ 0 ≤ z ∧ z ≤ 1) := by
  refine ct_of (d := d + 31) (k := 2) (L := [some (R 6), some (I p1), none, none]) rfl rfl rfl ?_
  have hF0 := Fr.rf fm_m166_6v1 M0
  generalize hQ : (qI fun z M => Pw M ∧ Fr fm_m166_6v1 M0 M ∧ 0 ≤ z ∧ z ≤ 1) = Q
  refine wk_c1 r166_0 (wk_is2 r166_1 rfl ?_)
  have c2_551 : ∀ (k551 : Nat) (M472 : Mm) (v469 : Int), (6 - v469).toNat = k551 → Pw M472 → Fr fm_m166_6v1 M0 M472 → 0 ≤ v469 → v469 ≤ 6 → Wp B (d + 31) 166 2 [some (R 6), some (I p1), some (I v469), none] [] M472 Q := by
    refine lp_ind ?_
    intro k551 ih551 M472 v469 hk551 hP473 hF474 h470 h471
    refine wk_il2 r166_2 (wk_c2 r166_3 ?_)
    have c23_550 : ∀ (M486 : Mm), Pw M486 → Fr fm_m166_6v1 M0 M486 → Wp B (d + 31) 166 23 [some (R 6), some (I p1), some (I v469), none] [] M486 Q := by
      intro M486 hP487 hF488
      refine wk_al0 r166_23 (wk_getfr r166_24 fd_6_0 (br_6_0 hP487) (wk_c8 r166_27 (wk_cv2 r166_29 kc_9_239 rfl (m239_9 _ M486 4119 hP487 (by decide)) (cqI ?_))))
      rintro v494 M489 ⟨hP490, hQ491, h495, h496, xh493⟩
      obtain rfl := Fr.same hQ491
      refine wk_ifeq r166_32 ⟨by omega, by omega⟩ ?_ ?_
      · intro h497
        refine wk_al0 r166_41 (wk_getfr r166_42 fd_6_0 (br_6_0 hP487) (wk_c2 r166_45 (wk_cv2 r166_47 kc_9_238 rfl (m238_9 _ M486 40 hP487 (by decide) (by decide)) (cqI ?_))))
        rintro v502 M498 ⟨hP499, hQ500, h503, h504⟩
        obtain rfl := Fr.same hQ500
        have c66_541 : ∀ (M524 : Mm) (v521 : Int), Pw M524 → Fr fm_m166_6v1 M0 M524 → 0 ≤ v521 → v521 ≤ 1 → Wp B (d + 31) 166 66 [some (R 6), none, some (I v469), none] [I v521] M524 Q := by
          intro M524 v521 hP525 hF526 h522 h523
          refine wk_is3 r166_66 rfl (wk_il3 r166_67 ?_)
          refine wk_ifeq r166_68 ⟨by omega, by omega⟩ ?_ ?_
          · intro h527
            refine wk_c1 r166_90 ?_
            subst hQ; exact wk_zret r166_91 (by decide) (⟨rfl, _, rfl, hP525, hF526, by omega, by omega⟩)
          · intro h528
            refine wk_il2 r166_71 (wk_c1 r166_72 (wk_iandc 1 2 r166_73 ⟨rfl, by decide⟩ rfl ?_))
            refine wk_ifeq r166_74 ⟨by omega, by omega⟩ ?_ ?_
            · intro h530
              refine wk_c1 r166_86 (wk_goto r166_87 ?_)
              subst hQ; exact wk_zret r166_91 (by decide) (⟨rfl, _, rfl, hP525, hF526, by omega, by omega⟩)
            · intro h531
              refine wk_al0 r166_77 (wk_c1 r166_78 (wk_c1 r166_79 (wk_cv3 r166_80 kc_6_172 rfl (m172_6 _ M524 1 0 hP525 (by decide) (by decide) (by decide) (by decide) (by first | assumption | omega | (unfold stepok; omega))) (cqI ?_))))
              rintro v536 M532 ⟨hP533, hQ534, h537, h538⟩
              have hF535 : Fr fm_m166_6v1 M0 M532 := hF526.tr hQ534 rfl
              refine wk_ifeq r166_83 ⟨by omega, by omega⟩ ?_ ?_
              · intro h539
                exfalso
                omega
              · intro h540
                refine wk_c1 r166_86 (wk_goto r166_87 ?_)
                subst hQ; exact wk_zret r166_91 (by decide) (⟨rfl, _, rfl, hP533, hF535, by omega, by omega⟩)
        refine wk_ifeq r166_50 ⟨by omega, by omega⟩ ?_ ?_
        · intro h505
          refine wk_al0 r166_61 (wk_il1 r166_62 (wk_cv2 r166_63 kc_6_153 rfl (m153_6v1 _ M486 p1 hP487 (by omega) (by omega)) (cqI ?_)))
          rintro v510 M506 ⟨hP507, hQ508, h511, h512⟩
          have hF509 : Fr fm_m166_6v1 M0 M506 := hF488.tr hQ508 rfl
          exact wp_fg (le_s (le_n (le_s (le_s le_0)))) (c66_541 M506 v510 hP507 hF509 (by omega) (by omega))
        · intro h513
          refine wk_al0 r166_53 (wk_il1 r166_54 (wk_cv2 r166_55 kc_6_168 rfl (m168_6v1 _ M486 p1 hP487 (by omega) (by omega)) (cqI ?_)))
          rintro v518 M514 ⟨hP515, hQ516, h519, h520⟩
          have hF517 : Fr fm_m166_6v1 M0 M514 := hF488.tr hQ516 rfl
          refine wk_goto r166_58 ?_
          exact wp_fg (le_s (le_n (le_s (le_s le_0)))) (c66_541 M514 v518 hP515 hF517 (by omega) (by omega))
      · intro h542
        refine wk_al0 r166_35 (wk_c1 r166_36 (wk_cv2 r166_37 kc_6_159 rfl (m159_6v1 _ M486 2 hP487 (by decide) (by decide)) (cqI ?_)))
        rintro v547 M543 ⟨hP544, hQ545, h548, h549⟩
        have hF546 : Fr fm_m166_6v1 M0 M543 := hF488.tr hQ545 rfl
        subst hQ; exact wk_zret r166_40 ⟨by omega, by omega⟩ (⟨rfl, _, rfl, hP544, hF546, by omega, by omega⟩)
    refine wk_icge r166_5 ⟨by omega, by omega⟩ (by decide) ?_ ?_
    · intro h475
      exact wp_fg (le_s (le_s (le_s (le_s le_0)))) (c23_550 M472 hP473 hF474)
    · intro h476
      refine wk_al0 r166_8 (wk_c8 r166_9 (wk_cv2 r166_11 kc_6_175 rfl (m175_6 _ M472 4119 hP473 (by decide)) (cqI ?_)))
      rintro v481 M477 ⟨hP478, hQ479, h482, h483⟩
      have hF480 : Fr fm_m166_6v1 M0 M477 := hF474.tr hQ479 rfl
      refine wk_ifeq r166_14 ⟨by omega, by omega⟩ ?_ ?_
      · intro h484
        exact wp_fg (le_s (le_s (le_s (le_s le_0)))) (c23_550 M477 hP478 hF480)
      · intro h485
        refine wk_inc2 r166_17 rfl (wk_goto r166_20 ?_)
        exact wp_fg (le_s (le_s (le_s (le_s le_0)))) (ih551 (6 - (v469 + 1)).toNat (by omega) M477 (v469 + 1) rfl hP478 hF480 (by omega) (by omega))
  exact wp_fg (le_s (le_s (le_s (le_s le_0)))) (c2_551 _ M0 0 rfl hP0 hF0 (by omega) (by omega))
def fm_m157_6v1 : Nat := 3941070043873280
/-- IslandHall$Parser.conjunction -/
theorem m157_6v1 {B : eB} (d : Nat) (M0 : Mm) (p1 : Int) (hP0 : Pw M0) (l1 : 1 ≤ p1) (u1 : p1 ≤ 1) : Ct B (d + 33) 157 [R 6, I p1] M0 (qI fun z M => Pw M ∧ Fr fm_m157_6v1 M0 M ∧ 0 ≤ z ∧ z ≤ 1) := by
  refine ct_of (d := d + 32) (k := 1) (L := [some (R 6), some (I p1), none]) rfl rfl rfl ?_
  have hF0 := Fr.rf fm_m157_6v1 M0
  generalize hQ : (qI fun z M => Pw M ∧ Fr fm_m157_6v1 M0 M ∧ 0 ≤ z ∧ z ≤ 1) = Q
  refine wk_al0 r157_0 (wk_il1 r157_1 (wk_cv2 r157_2 kc_6_166 rfl (m166_6v1 _ M0 p1 hP0 (by omega) (by omega)) (cqI ?_)))
  rintro v5 M1 ⟨hP2, hQ3, h6, h7⟩
  have hF4 : Fr fm_m157_6v1 M0 M1 := hF0.tr hQ3 rfl
  refine wk_ifne r157_5 ⟨by omega, by omega⟩ ?_ ?_
  · intro h8
    refine wk_c1 r157_10 (wk_is2 r157_11 rfl ?_)
    have c12_359 : ∀ (k359 : Nat) (M327 : Mm) (v324 : Int), (500 - v324).toNat = k359 → Pw M327 → Fr fm_m157_6v1 M0 M327 → 0 ≤ v324 → v324 ≤ 500 → Wp B (d + 32) 157 12 [some (R 6), some (I p1), some (I v324)] [] M327 Q := by
      refine lp_ind ?_
      intro k359 ih359 M327 v324 hk359 hP328 hF329 h325 h326
      refine wk_il2 r157_12 (wk_c3 r157_13 ?_)
      refine wk_icge r157_16 ⟨by omega, by omega⟩ (by decide) ?_ ?_
      · intro h330
        refine wk_c1 r157_53 ?_
        subst hQ; exact wk_zret r157_54 (by decide) (⟨rfl, _, rfl, hP328, hF329, by omega, by omega⟩)
      · intro h331
        refine wk_al0 r157_19 (wk_c8 r157_20 (wk_cv2 r157_22 kc_6_175 rfl (m175_6 _ M327 4125 hP328 (by decide)) (cqI ?_)))
        rintro v336 M332 ⟨hP333, hQ334, h337, h338⟩
        have hF335 : Fr fm_m157_6v1 M0 M332 := hF329.tr hQ334 rfl
        refine wk_ifeq r157_25 ⟨by omega, by omega⟩ ?_ ?_
        · intro h339
          refine wk_c1 r157_53 ?_
          subst hQ; exact wk_zret r157_54 (by decide) (⟨rfl, _, rfl, hP333, hF335, by omega, by omega⟩)
        · intro h340
          refine wk_al0 r157_28 (wk_il1 r157_29 (wk_cv2 r157_30 kc_6_166 rfl (m166_6v1 _ M332 p1 hP333 (by omega) (by omega)) (cqI ?_)))
          rintro v345 M341 ⟨hP342, hQ343, h346, h347⟩
          have hF344 : Fr fm_m157_6v1 M0 M341 := hF335.tr hQ343 rfl
          refine wk_ifeq r157_33 ⟨by omega, by omega⟩ ?_ ?_
          · intro h348
            refine wk_c1 r157_45 ?_
            subst hQ; exact wk_zret r157_46 (by decide) (⟨rfl, _, rfl, hP342, hF344, by omega, by omega⟩)
          · intro h349
            refine wk_al0 r157_36 (wk_c1 r157_37 (wk_c1 r157_38 (wk_cv3 r157_39 kc_6_172 rfl (m172_6 _ M341 2 0 hP342 (by decide) (by decide) (by decide) (by decide) (by first | assumption | omega | (unfold stepok; omega))) (cqI ?_))))
            rintro v354 M350 ⟨hP351, hQ352, h355, h356⟩
            have hF353 : Fr fm_m157_6v1 M0 M350 := hF344.tr hQ352 rfl
            refine wk_ifne r157_42 ⟨by omega, by omega⟩ ?_ ?_
            · intro h357
              refine wk_inc2 r157_47 rfl (wk_goto r157_50 ?_)
              exact wp_fg (le_s (le_s (le_s le_0))) (ih359 (500 - (v324 + 1)).toNat (by omega) M350 (v324 + 1) rfl hP351 hF353 (by omega) (by omega))
            · intro h358
              exfalso
              omega
    exact wp_fg (le_s (le_s (le_s le_0))) (c12_359 _ M1 0 rfl hP2 hF4 (by omega) (by omega))
  · intro h360
    refine wk_c1 r157_8 ?_
    subst hQ; exact wk_zret r157_9 (by decide) (⟨rfl, _, rfl, hP2, hF4, by omega, by omega⟩)
def fm_m158_6v1 : Nat := 3941070043873280
/-- IslandHall$Parser.expr -/
theorem m158_6v1 {B : eB} (d : Nat) (M0 : Mm) (p1 : Int) (hP0 : Pw M0) (l1 : 1 ≤ p1) (u1 : p1 ≤ 1) : Ct B (d + 34) 158 [R 6, I p1] M0 (qI fun z M => Pw M ∧ Fr fm_m158_6v1 M0 M ∧ 0 ≤ z ∧ z ≤ 1) := by
  refine ct_of (d := d + 33) (k := 1) (L := [some (R 6), some (I p1), none]) rfl rfl rfl ?_
  have hF0 := Fr.rf fm_m158_6v1 M0
  generalize hQ : (qI fun z M => Pw M ∧ Fr fm_m158_6v1 M0 M ∧ 0 ≤ z ∧ z ≤ 1) = Q
  refine wk_al0 r158_0 (wk_cv1 r158_1 kc_6_155 rfl (m155_6 _ M0 hP0) (cqI ?_))
  rintro v5 M1 ⟨hP2, hQ3, h6, h7⟩
  obtain rfl := Fr.same hQ3
  refine wk_ifne r158_4 ⟨by omega, by omega⟩ ?_ ?_
  · intro h8
    refine wk_il1 r158_13 (wk_c2 r158_14 ?_)
    refine wk_iclt r158_16 ⟨by omega, by omega⟩ (by decide) ?_ ?_
    · intro h9
      refine wk_al0 r158_25 (wk_il1 r158_26 (wk_cv2 r158_27 kc_6_157 rfl (m157_6v1 _ M0 p1 hP0 (by omega) (by omega)) (cqI ?_)))
      rintro v14 M10 ⟨hP11, hQ12, h15, h16⟩
      have hF13 : Fr fm_m158_6v1 M0 M10 := hF0.tr hQ12 rfl
      refine wk_ifne r158_30 ⟨by omega, by omega⟩ ?_ ?_
      · intro h17
        refine wk_c1 r158_35 (wk_is2 r158_36 rfl ?_)
        have c37_368 : ∀ (k368 : Nat) (M336 : Mm) (v333 : Int), (500 - v333).toNat = k368 → Pw M336 → Fr fm_m158_6v1 M0 M336 → 0 ≤ v333 → v333 ≤ 500 → Wp B (d + 33) 158 37 [some (R 6), some (I p1), some (I v333)] [] M336 Q := by
          refine lp_ind ?_
          intro k368 ih368 M336 v333 hk368 hP337 hF338 h334 h335
          refine wk_il2 r158_37 (wk_c3 r158_38 ?_)
          refine wk_icge r158_41 ⟨by omega, by omega⟩ (by decide) ?_ ?_
          · intro h339
            refine wk_c1 r158_78 ?_
            subst hQ; exact wk_zret r158_79 (by decide) (⟨rfl, _, rfl, hP337, hF338, by omega, by omega⟩)
          · intro h340
            refine wk_al0 r158_44 (wk_c8 r158_45 (wk_cv2 r158_47 kc_6_175 rfl (m175_6 _ M336 4126 hP337 (by decide)) (cqI ?_)))
            rintro v345 M341 ⟨hP342, hQ343, h346, h347⟩
            have hF344 : Fr fm_m158_6v1 M0 M341 := hF338.tr hQ343 rfl
            refine wk_ifeq r158_50 ⟨by omega, by omega⟩ ?_ ?_
            · intro h348
              refine wk_c1 r158_78 ?_
              subst hQ; exact wk_zret r158_79 (by decide) (⟨rfl, _, rfl, hP342, hF344, by omega, by omega⟩)
            · intro h349
              refine wk_al0 r158_53 (wk_il1 r158_54 (wk_cv2 r158_55 kc_6_157 rfl (m157_6v1 _ M341 p1 hP342 (by omega) (by omega)) (cqI ?_)))
              rintro v354 M350 ⟨hP351, hQ352, h355, h356⟩
              have hF353 : Fr fm_m158_6v1 M0 M350 := hF344.tr hQ352 rfl
              refine wk_ifeq r158_58 ⟨by omega, by omega⟩ ?_ ?_
              · intro h357
                refine wk_c1 r158_70 ?_
                subst hQ; exact wk_zret r158_71 (by decide) (⟨rfl, _, rfl, hP351, hF353, by omega, by omega⟩)
              · intro h358
                refine wk_al0 r158_61 (wk_c1 r158_62 (wk_c1 r158_63 (wk_cv3 r158_64 kc_6_172 rfl (m172_6 _ M350 3 0 hP351 (by decide) (by decide) (by decide) (by decide) (by first | assumption | omega | (unfold stepok; omega))) (cqI ?_))))
                rintro v363 M359 ⟨hP360, hQ361, h364, h365⟩
                have hF362 : Fr fm_m158_6v1 M0 M359 := hF353.tr hQ361 rfl
                refine wk_ifne r158_67 ⟨by omega, by omega⟩ ?_ ?_
                · intro h366
                  refine wk_inc2 r158_72 rfl (wk_goto r158_75 ?_)
                  exact wp_fg (le_s (le_s (le_s le_0))) (ih368 (500 - (v333 + 1)).toNat (by omega) M359 (v333 + 1) rfl hP360 hF362 (by omega) (by omega))
                · intro h367
                  exfalso
                  omega
        exact wp_fg (le_s (le_s (le_s le_0))) (c37_368 _ M10 0 rfl hP11 hF13 (by omega) (by omega))
      · intro h369
        refine wk_c1 r158_33 ?_
        subst hQ; exact wk_zret r158_34 (by decide) (⟨rfl, _, rfl, hP11, hF13, by omega, by omega⟩)
    · intro h370
      exfalso
      omega
  · intro h371
    refine wk_al0 r158_7 (wk_c1 r158_8 (wk_cv2 r158_9 kc_6_159 rfl (m159_6 _ M0 1 hP0 (by decide) (by decide)) (cqI ?_)))
    rintro v376 M372 ⟨hP373, hQ374, h377, h378⟩
    have hF375 : Fr fm_m158_6v1 M0 M372 := hF0.tr hQ374 rfl
    subst hQ; exact wk_zret r158_12 ⟨by omega, by omega⟩ (⟨rfl, _, rfl, hP373, hF375, by omega, by omega⟩)
def fm_m168_6 : Nat := 3941070043873280
/-- IslandHall$Parser.parenthesis -/
theorem m168_6 {B : eB} (d : Nat) (M0 : Mm) (p1 : Int) (hP0 : Pw M0) (l1 : 0 ≤ p1) (u1 : p1 ≤ 0) : Ct B (d + 35) 168 [R 6, I p1] M0 (qI fun z M => Pw M ∧ Fr fm_m168_6 M0 M ∧ 0 ≤ z ∧ z ≤ 1) := by
  refine ct_of (d := d + 34) (k := 0) (L := [some (R 6), some (I p1)]) rfl rfl rfl ?_
  have hF0 := Fr.rf fm_m168_6 M0
  generalize hQ : (qI fun z M => Pw M ∧ Fr fm_m168_6 M0 M ∧ 0 ≤ z ∧ z ≤ 1) = Q
  refine wk_al0 r168_0 (wk_c2 r168_1 (wk_cv2 r168_3 kc_6_174 rfl (m174_6 _ M0 40 hP0 (by decide) (by decide)) (cqI ?_)))
  rintro v5 M1 ⟨hP2, hQ3, h6, h7⟩
  have hF4 : Fr fm_m168_6 M0 M1 := hF0.tr hQ3 rfl
  refine wk_ifeq r168_6 ⟨by omega, by omega⟩ ?_ ?_
  · intro h8
    refine wk_c1 r168_32 ?_
    subst hQ; exact wk_zret r168_33 (by decide) (⟨rfl, _, rfl, hP2, hF4, by omega, by omega⟩)
  · intro h9
    refine wk_al0 r168_9 (wk_il1 r168_10 (wk_c1 r168_11 (wk_iadd r168_12 (wk_cv2 r168_13 kc_6_158 rfl (m158_6v1 _ M1 (p1 + 1) hP2 (by omega) (by omega)) (cqI ?_)))))
    rintro v14 M10 ⟨hP11, hQ12, h15, h16⟩
    have hF13 : Fr fm_m168_6 M0 M10 := hF4.tr hQ12 rfl
    refine wk_ifeq r168_16 ⟨by omega, by omega⟩ ?_ ?_
    · intro h17
      refine wk_c1 r168_32 ?_
      subst hQ; exact wk_zret r168_33 (by decide) (⟨rfl, _, rfl, hP11, hF13, by omega, by omega⟩)
    · intro h18
      refine wk_al0 r168_19 (wk_c2 r168_20 (wk_cv2 r168_22 kc_6_174 rfl (m174_6v1 _ M10 41 hP11 (by decide) (by decide)) (cqI ?_)))
      rintro v23 M19 ⟨hP20, hQ21, h24, h25⟩
      have hF22 : Fr fm_m168_6 M0 M19 := hF13.tr hQ21 rfl
      refine wk_ifeq r168_25 ⟨by omega, by omega⟩ ?_ ?_
      · intro h26
        refine wk_c1 r168_32 ?_
        subst hQ; exact wk_zret r168_33 (by decide) (⟨rfl, _, rfl, hP20, hF22, by omega, by omega⟩)
      · intro h27
        refine wk_c1 r168_28 (wk_goto r168_29 ?_)
        subst hQ; exact wk_zret r168_33 (by decide) (⟨rfl, _, rfl, hP20, hF22, by omega, by omega⟩)
def fm_m152_6 : Nat := 3941070043873280
/-- IslandHall$Parser.aboutSomeone -/
theorem m152_6 {B : eB} (d : Nat) (M0 : Mm) (p1 : Int) (hP0 : Pw M0) (l1 : 0 ≤ p1) (u1 : p1 ≤ 0) : Ct B (d + 36) 152 [R 6, I p1] M0 (qI fun z M => Pw M ∧ Fr fm_m152_6 M0 M ∧ 0 ≤ z ∧ z ≤ 1) := by
  refine ct_of (d := d + 35) (k := 2) (L := [some (R 6), some (I p1), none, none]) rfl rfl rfl ?_
  have hF0 := Fr.rf fm_m152_6 M0
  generalize hQ : (qI fun z M => Pw M ∧ Fr fm_m152_6 M0 M ∧ 0 ≤ z ∧ z ≤ 1) = Q
  refine wk_al0 r152_0 (wk_cv1 r152_1 kc_6_165 rfl (m165_6 _ M0 hP0) (cqI ?_))
  rintro v5 M1 ⟨hP2, hQ3, h6, h7⟩
  have hF4 : Fr fm_m152_6 M0 M1 := hF0.tr hQ3 rfl
  refine wk_is2 r152_4 rfl (wk_il2 r152_5 (wk_c1 r152_6 ?_))
  refine wk_icne r152_7 ⟨by omega, by omega⟩ (by decide) ?_ ?_
  · intro h8
    refine wk_al0 r152_12 (wk_c8 r152_13 (wk_cv2 r152_15 kc_6_175 rfl (m175_6 _ M1 4111 hP2 (by decide)) (cqI ?_)))
    rintro v13 M9 ⟨hP10, hQ11, h14, h15⟩
    have hF12 : Fr fm_m152_6 M0 M9 := hF4.tr hQ11 rfl
    refine wk_ifeq r152_18 ⟨by omega, by omega⟩ ?_ ?_
    · intro h16
      refine wk_al0 r152_35 (wk_c8 r152_36 (wk_cv2 r152_38 kc_6_175 rfl (m175_6 _ M9 4112 hP10 (by decide)) (cqI ?_)))
      rintro v21 M17 ⟨hP18, hQ19, h22, h23⟩
      have hF20 : Fr fm_m152_6 M0 M17 := hF12.tr hQ19 rfl
      refine wk_ifeq r152_41 ⟨by omega, by omega⟩ ?_ ?_
      · intro h24
        refine wk_al0 r152_73 (wk_c8 r152_74 (wk_cv2 r152_76 kc_6_175 rfl (m175_6 _ M17 4113 hP18 (by decide)) (cqI ?_)))
        rintro v29 M25 ⟨hP26, hQ27, h30, h31⟩
        have hF28 : Fr fm_m152_6 M0 M25 := hF20.tr hQ27 rfl
        refine wk_ifne r152_79 ⟨by omega, by omega⟩ ?_ ?_
        · intro h32
          refine wk_al0 r152_88 (wk_il1 r152_89 (wk_cv2 r152_90 kc_6_168 rfl (m168_6 _ M25 p1 hP26 (by omega) (by omega)) (cqI ?_)))
          rintro v37 M33 ⟨hP34, hQ35, h38, h39⟩
          have hF36 : Fr fm_m152_6 M0 M33 := hF28.tr hQ35 rfl
          refine wk_ifne r152_93 ⟨by omega, by omega⟩ ?_ ?_
          · intro h40
            refine wk_al0 r152_98 ?_
            obtain ⟨v41, e42⟩ : ∃ v, M33 6 2 = v := ⟨_, rfl⟩
            have hC43 : isC v41 := by have := pcE hP34; rw [e42] at this; exact this
            refine wk_getfr r152_99 fd_6_2 e42 (wk_il2 r152_102 (wk_cv2 r152_103 (kcC_139 hC43) rfl (m139 _ M33 v41 v5 hP34 hC43 (by omega) (by omega)) (cqV ?_)))
            rintro M44 ⟨hP45, hQ46⟩
            have hF47 : Fr fm_m152_6 M0 M44 := hF36.tr hQ46 rfl
            refine wk_c1 r152_106 ?_
            subst hQ; exact wk_zret r152_107 (by decide) (⟨rfl, _, rfl, hP45, hF47, by omega, by omega⟩)
          · intro h48
            refine wk_c1 r152_96 ?_
            subst hQ; exact wk_zret r152_97 (by decide) (⟨rfl, _, rfl, hP34, hF36, by omega, by omega⟩)
        · intro h49
          refine wk_al0 r152_82 (wk_c1 r152_83 (wk_cv2 r152_84 kc_6_159 rfl (m159_6 _ M25 1 hP26 (by decide) (by decide)) (cqI ?_)))
          rintro v54 M50 ⟨hP51, hQ52, h55, h56⟩
          have hF53 : Fr fm_m152_6 M0 M50 := hF28.tr hQ52 rfl
          subst hQ; exact wk_zret r152_87 ⟨by omega, by omega⟩ (⟨rfl, _, rfl, hP51, hF53, by omega, by omega⟩)
      · intro h57
        refine wk_al0 r152_44 (wk_cv1 r152_45 kc_6_165 rfl (m165_6 _ M17 hP18) (cqI ?_))
        rintro v62 M58 ⟨hP59, hQ60, h63, h64⟩
        have hF61 : Fr fm_m152_6 M0 M58 := hF20.tr hQ60 rfl
        refine wk_is3 r152_48 rfl (wk_il3 r152_49 (wk_c1 r152_50 ?_))
        refine wk_iceq r152_51 ⟨by omega, by omega⟩ (by decide) ?_ ?_
        · intro h65
          refine wk_c1 r152_71 ?_
          subst hQ; exact wk_zret r152_72 (by decide) (⟨rfl, _, rfl, hP59, hF61, by omega, by omega⟩)
        · intro h66
          refine wk_al0 r152_54 (wk_c1 r152_55 (wk_il2 r152_56 (wk_c1 r152_57 (wk_ishlc r152_58 (by decide) pwl_3 (wk_il3 r152_59 (wk_iord2 3 8 r152_60 (by decide) ⟨by omega, by omega⟩ ⟨by omega, by omega, by omega⟩ (wk_cv3 r152_61 kc_6_172 rfl (m172_6 _ M58 5 ((v5 * 8) + v62) hP59 (by decide) (by decide) (by omega) (by omega) (by first | assumption | omega | (unfold stepok; omega))) (cqI ?_))))))))
          rintro v71 M67 ⟨hP68, hQ69, h72, h73⟩
          have hF70 : Fr fm_m152_6 M0 M67 := hF61.tr hQ69 rfl
          refine wk_ifeq r152_64 ⟨by omega, by omega⟩ ?_ ?_
          · intro h74
            exfalso
            omega
          · intro h75
            refine wk_c1 r152_67 (wk_goto r152_68 ?_)
            subst hQ; exact wk_zret r152_72 (by decide) (⟨rfl, _, rfl, hP68, hF70, by omega, by omega⟩)
    · intro h76
      refine wk_al0 r152_21 (wk_c1 r152_22 (wk_il2 r152_23 (wk_c1 r152_24 (wk_imul r152_25 (wk_iadd r152_26 (wk_al0 r152_27 (wk_cv1 r152_28 kc_6_173 rfl (m173_6 _ M9 hP10) (cqI ?_))))))))
      rintro v81 M77 ⟨hP78, hQ79, h82, h83⟩
      have hF80 : Fr fm_m152_6 M0 M77 := hF12.tr hQ79 rfl
      refine wk_cv3 r152_31 kc_6_171 rfl (m171_6v3 _ M77 (0 + (v5 * 5)) v81 hP78 (by omega) (by omega) (by omega) (by omega)) (cqI ?_)
      rintro v88 M84 ⟨hP85, hQ86, h89, h90⟩
      have hF87 : Fr fm_m152_6 M0 M84 := hF80.tr hQ86 rfl
      subst hQ; exact wk_zret r152_34 ⟨by omega, by omega⟩ (⟨rfl, _, rfl, hP85, hF87, by omega, by omega⟩)
  · intro h91
    refine wk_c1 r152_10 ?_
    subst hQ; exact wk_zret r152_11 (by decide) (⟨rfl, _, rfl, hP2, hF4, by omega, by omega⟩)
def fm_m153_6 : Nat := 3941070043873280
/-- IslandHall$Parser.atom -/
theorem m153_6 {B : eB} (d : Nat) (M0 : Mm) (p1 : Int) (hP0 : Pw M0) (l1 : 0 ≤ p1) (u1 : p1 ≤ 0) : Ct B (d + 37) 153 [R 6, I p1] M0 (qI fun z M => Pw M ∧ Fr fm_m153_6 M0 M ∧ 0 ≤ z ∧ z ≤ 1) := by
  refine ct_of (d := d + 36) (k := 0) (L := [some (R 6), some (I p1)]) rfl rfl rfl ?_
  have hF0 := Fr.rf fm_m153_6 M0
  generalize hQ : (qI fun z M => Pw M ∧ Fr fm_m153_6 M0 M ∧ 0 ≤ z ∧ z ≤ 1) = Q
  refine wk_al0 r153_0 (wk_getfr r153_1 fd_6_0 (br_6_0 hP0) (wk_cv1 r153_4 kc_9_237 rfl (m237_9 _ M0 hP0) (cqI ?_)))
  rintro v7 M1 ⟨hP2, hQ3, h8, h9, h5, h6⟩
  obtain rfl := Fr.same hQ3
  obtain ⟨v10, e11⟩ : ∃ v, M0 9 2 = v := ⟨_, rfl⟩
  have h12 := bf_9_2 hP0; rw [e11] at h12
  obtain ⟨v13, e14⟩ : ∃ v, M0 9 3 = v := ⟨_, rfl⟩
  have h15 := bf_9_3 hP0; rw [e14] at h15
  refine wk_ifeq r153_7 ⟨by omega, by omega⟩ ?_ ?_
  · intro h16
    refine wk_al0 r153_16 (wk_c8 r153_17 (wk_cv2 r153_19 kc_6_175 rfl (m175_6 _ M0 4114 hP0 (by decide)) (cqI ?_)))
    rintro v21 M17 ⟨hP18, hQ19, h22, h23⟩
    have hF20 : Fr fm_m153_6 M0 M17 := hF0.tr hQ19 rfl
    refine wk_ifeq r153_22 ⟨by omega, by omega⟩ ?_ ?_
    · intro h24
      refine wk_al0 r153_38 (wk_c8 r153_39 (wk_cv2 r153_41 kc_6_175 rfl (m175_6 _ M17 4115 hP18 (by decide)) (cqI ?_)))
      rintro v29 M25 ⟨hP26, hQ27, h30, h31⟩
      have hF28 : Fr fm_m153_6 M0 M25 := hF20.tr hQ27 rfl
      refine wk_ifeq r153_44 ⟨by omega, by omega⟩ ?_ ?_
      · intro h32
        refine wk_al0 r153_61 (wk_c8 r153_62 (wk_cv2 r153_64 kc_6_175 rfl (m175_6 _ M25 4116 hP26 (by decide)) (cqI ?_)))
        rintro v37 M33 ⟨hP34, hQ35, h38, h39⟩
        have hF36 : Fr fm_m153_6 M0 M33 := hF28.tr hQ35 rfl
        refine wk_ifeq r153_67 ⟨by omega, by omega⟩ ?_ ?_
        · intro h40
          refine wk_al0 r153_83 (wk_c8 r153_84 (wk_cv2 r153_86 kc_6_175 rfl (m175_6 _ M33 4117 hP34 (by decide)) (cqI ?_)))
          rintro v45 M41 ⟨hP42, hQ43, h46, h47⟩
          have hF44 : Fr fm_m153_6 M0 M41 := hF36.tr hQ43 rfl
          refine wk_ifeq r153_89 ⟨by omega, by omega⟩ ?_ ?_
          · intro h48
            refine wk_al0 r153_97 (wk_c8 r153_98 (wk_cv2 r153_100 kc_6_175 rfl (m175_6 _ M41 4118 hP42 (by decide)) (cqI ?_)))
            rintro v53 M49 ⟨hP50, hQ51, h54, h55⟩
            have hF52 : Fr fm_m153_6 M0 M49 := hF44.tr hQ51 rfl
            refine wk_ifeq r153_103 ⟨by omega, by omega⟩ ?_ ?_
            · intro h56
              refine wk_al0 r153_117 (wk_c1 r153_118 (wk_cv2 r153_119 kc_6_159 rfl (m159_6 _ M49 1 hP50 (by decide) (by decide)) (cqI ?_)))
              rintro v61 M57 ⟨hP58, hQ59, h62, h63⟩
              have hF60 : Fr fm_m153_6 M0 M57 := hF52.tr hQ59 rfl
              subst hQ; exact wk_zret r153_122 ⟨by omega, by omega⟩ (⟨rfl, _, rfl, hP58, hF60, by omega, by omega⟩)
            · intro h64
              refine wk_al0 r153_106 (wk_al0 r153_107 (wk_cv1 r153_108 kc_6_173 rfl (m173_6 _ M49 hP50) (cqI ?_)))
              rintro v69 M65 ⟨hP66, hQ67, h70, h71⟩
              have hF68 : Fr fm_m153_6 M0 M65 := hF52.tr hQ67 rfl
              refine wk_cv2 r153_111 kc_6_163 rfl (m163_6 _ M65 v69 hP66 (by omega) (by omega)) (cqI ?_)
              rintro v76 M72 ⟨hP73, hQ74, h77, h78⟩
              have hF75 : Fr fm_m153_6 M0 M72 := hF68.tr hQ74 rfl
              refine wk_goto r153_114 ?_
              subst hQ; exact wk_zret r153_122 ⟨by omega, by omega⟩ (⟨rfl, _, rfl, hP73, hF75, by omega, by omega⟩)
          · intro h79
            refine wk_al0 r153_92 (wk_cv1 r153_93 kc_6_176 rfl (m176_6 _ M41 hP42) (cqI ?_))
            rintro v84 M80 ⟨hP81, hQ82, h85, h86⟩
            have hF83 : Fr fm_m153_6 M0 M80 := hF44.tr hQ82 rfl
            subst hQ; exact wk_zret r153_96 ⟨by omega, by omega⟩ (⟨rfl, _, rfl, hP81, hF83, by omega, by omega⟩)
        · intro h87
          refine wk_al0 r153_70 (wk_c2 r153_71 (wk_al0 r153_73 (wk_c1 r153_74 (wk_c1 r153_75 (wk_cv3 r153_76 kc_6_167 rfl (m167_6v1 _ M33 0 1 hP34 (by decide) (by decide) (by decide) (by decide)) (cqI ?_))))))
          rintro v92 M88 ⟨hP89, hQ90, h93, h94⟩
          have hF91 : Fr fm_m153_6 M0 M88 := hF36.tr hQ90 rfl
          refine wk_cv3 r153_79 kc_6_171 rfl (m171_6 _ M88 46 v92 hP89 (by decide) (by decide) (by omega) (by omega)) (cqI ?_)
          rintro v99 M95 ⟨hP96, hQ97, h100, h101⟩
          have hF98 : Fr fm_m153_6 M0 M95 := hF91.tr hQ97 rfl
          subst hQ; exact wk_zret r153_82 ⟨by omega, by omega⟩ (⟨rfl, _, rfl, hP96, hF98, by omega, by omega⟩)
      · intro h102
        refine wk_al0 r153_47 (wk_c2 r153_48 (wk_al0 r153_50 (wk_c1 r153_51 (wk_c2 r153_52 (wk_cv3 r153_54 kc_6_167 rfl (m167_6v2 _ M25 0 6 hP26 (by decide) (by decide) (by decide) (by decide)) (cqI ?_))))))
        rintro v107 M103 ⟨hP104, hQ105, h108, h109⟩
        have hF106 : Fr fm_m153_6 M0 M103 := hF28.tr hQ105 rfl
        refine wk_cv3 r153_57 kc_6_171 rfl (m171_6v1 _ M103 39 v107 hP104 (by decide) (by decide) (by omega) (by omega)) (cqI ?_)
        rintro v114 M110 ⟨hP111, hQ112, h115, h116⟩
        have hF113 : Fr fm_m153_6 M0 M110 := hF106.tr hQ112 rfl
        subst hQ; exact wk_zret r153_60 ⟨by omega, by omega⟩ (⟨rfl, _, rfl, hP111, hF113, by omega, by omega⟩)
    · intro h117
      refine wk_al0 r153_25 (wk_c2 r153_26 (wk_al0 r153_28 (wk_c1 r153_29 (wk_c1 r153_30 (wk_cv3 r153_31 kc_6_167 rfl (m167_6v3 _ M17 0 3 hP18 (by decide) (by decide) (by decide) (by decide)) (cqI ?_))))))
      rintro v122 M118 ⟨hP119, hQ120, h123, h124⟩
      have hF121 : Fr fm_m153_6 M0 M118 := hF20.tr hQ120 rfl
      refine wk_cv3 r153_34 kc_6_171 rfl (m171_6v2 _ M118 35 v122 hP119 (by decide) (by decide) (by omega) (by omega)) (cqI ?_)
      rintro v129 M125 ⟨hP126, hQ127, h130, h131⟩
      have hF128 : Fr fm_m153_6 M0 M125 := hF121.tr hQ127 rfl
      subst hQ; exact wk_zret r153_37 ⟨by omega, by omega⟩ (⟨rfl, _, rfl, hP126, hF128, by omega, by omega⟩)
  · intro h132
    refine wk_al0 r153_10 (wk_il1 r153_11 (wk_cv2 r153_12 kc_6_152 rfl (m152_6 _ M0 p1 hP0 (by omega) (by omega)) (cqI ?_)))
    rintro v137 M133 ⟨hP134, hQ135, h138, h139⟩
    have hF136 : Fr fm_m153_6 M0 M133 := hF0.tr hQ135 rfl
    subst hQ; exact wk_zret r153_15 ⟨by omega, by omega⟩ (⟨rfl, _, rfl, hP134, hF136, by omega, by omega⟩)
def fm_m166_6 : Nat := 3941070043873280
/-- IslandHall$Parser.negation -/
theorem m166_6 {B : eB} (d : Nat) (M0 : Mm) (p1 : Int) (hP0 : Pw M0) (l1 : 0 ≤ p1) (u1 : p1 ≤ 0) : Ct B (d + 38) 166 [R 6, I p1] M0 (qI fun z M => Pw M ∧ Fr fm_m166_6 M0 M ∧ 0 ≤ z ∧ z ≤ 1) := by
  refine ct_of (d := d + 37) (k := 2) (L := [some (R 6), some (I p1), none, none]) rfl rfl rfl ?_
  have hF0 := Fr.rf fm_m166_6 M0
  generalize hQ : (qI fun z M => Pw M ∧ Fr fm_m166_6 M0 M ∧ 0 ≤ z ∧ z ≤ 1) = Q
  refine wk_c1 r166_0 (wk_is2 r166_1 rfl ?_)
  have c2_551 : ∀ (k551 : Nat) (M472 : Mm) (v469 : Int), (6 - v469).toNat = k551 → Pw M472 → Fr fm_m166_6 M0 M472 → 0 ≤ v469 → v469 ≤ 6 → Wp B (d + 37) 166 2 [some (R 6), some (I p1), some (I v469), none] [] M472 Q := by
    refine lp_ind ?_
    intro k551 ih551 M472 v469 hk551 hP473 hF474 h470 h471
    refine wk_il2 r166_2 (wk_c2 r166_3 ?_)
    have c23_550 : ∀ (M486 : Mm), Pw M486 → Fr fm_m166_6 M0 M486 → Wp B (d + 37) 166 23 [some (R 6), some (I p1), some (I v469), none] [] M486 Q := by
      intro M486 hP487 hF488
      refine wk_al0 r166_23 (wk_getfr r166_24 fd_6_0 (br_6_0 hP487) (wk_c8 r166_27 (wk_cv2 r166_29 kc_9_239 rfl (m239_9 _ M486 4119 hP487 (by decide)) (cqI ?_))))
      rintro v494 M489 ⟨hP490, hQ491, h495, h496, xh493⟩
      obtain rfl := Fr.same hQ491
      refine wk_ifeq r166_32 ⟨by omega, by omega⟩ ?_ ?_
      · intro h497
        refine wk_al0 r166_41 (wk_getfr r166_42 fd_6_0 (br_6_0 hP487) (wk_c2 r166_45 (wk_cv2 r166_47 kc_9_238 rfl (m238_9 _ M486 40 hP487 (by decide) (by decide)) (cqI ?_))))
        rintro v502 M498 ⟨hP499, hQ500, h503, h504⟩
        obtain rfl := Fr.same hQ500
        have c66_541 : ∀ (M524 : Mm) (v521 : Int), Pw M524 → Fr fm_m166_6 M0 M524 → 0 ≤ v521 → v521 ≤ 1 → Wp B (d + 37) 166 66 [some (R 6), none, some (I v469), none] [I v521] M524 Q := by
          intro M524 v521 hP525 hF526 h522 h523
          refine wk_is3 r166_66 rfl (wk_il3 r166_67 ?_)
          refine wk_ifeq r166_68 ⟨by omega, by omega⟩ ?_ ?_
          · intro h527
            refine wk_c1 r166_90 ?_
            subst hQ; exact wk_zret r166_91 (by decide) (⟨rfl, _, rfl, hP525, hF526, by omega, by omega⟩)
          · intro h528
            refine wk_il2 r166_71 (wk_c1 r166_72 (wk_iandc 1 2 r166_73 ⟨rfl, by decide⟩ rfl ?_))
            refine wk_ifeq r166_74 ⟨by omega, by omega⟩ ?_ ?_
            · intro h530
              refine wk_c1 r166_86 (wk_goto r166_87 ?_)
              subst hQ; exact wk_zret r166_91 (by decide) (⟨rfl, _, rfl, hP525, hF526, by omega, by omega⟩)
            · intro h531
              refine wk_al0 r166_77 (wk_c1 r166_78 (wk_c1 r166_79 (wk_cv3 r166_80 kc_6_172 rfl (m172_6 _ M524 1 0 hP525 (by decide) (by decide) (by decide) (by decide) (by first | assumption | omega | (unfold stepok; omega))) (cqI ?_))))
              rintro v536 M532 ⟨hP533, hQ534, h537, h538⟩
              have hF535 : Fr fm_m166_6 M0 M532 := hF526.tr hQ534 rfl
              refine wk_ifeq r166_83 ⟨by omega, by omega⟩ ?_ ?_
              · intro h539
                exfalso
                omega
              · intro h540
                refine wk_c1 r166_86 (wk_goto r166_87 ?_)
                subst hQ; exact wk_zret r166_91 (by decide) (⟨rfl, _, rfl, hP533, hF535, by omega, by omega⟩)
        refine wk_ifeq r166_50 ⟨by omega, by omega⟩ ?_ ?_
        · intro h505
          refine wk_al0 r166_61 (wk_il1 r166_62 (wk_cv2 r166_63 kc_6_153 rfl (m153_6 _ M486 p1 hP487 (by omega) (by omega)) (cqI ?_)))
          rintro v510 M506 ⟨hP507, hQ508, h511, h512⟩
          have hF509 : Fr fm_m166_6 M0 M506 := hF488.tr hQ508 rfl
          exact wp_fg (le_s (le_n (le_s (le_s le_0)))) (c66_541 M506 v510 hP507 hF509 (by omega) (by omega))
        · intro h513
          refine wk_al0 r166_53 (wk_il1 r166_54 (wk_cv2 r166_55 kc_6_168 rfl (m168_6 _ M486 p1 hP487 (by omega) (by omega)) (cqI ?_)))
          rintro v518 M514 ⟨hP515, hQ516, h519, h520⟩
          have hF517 : Fr fm_m166_6 M0 M514 := hF488.tr hQ516 rfl
          refine wk_goto r166_58 ?_
          exact wp_fg (le_s (le_n (le_s (le_s le_0)))) (c66_541 M514 v518 hP515 hF517 (by omega) (by omega))
      · intro h542
        refine wk_al0 r166_35 (wk_c1 r166_36 (wk_cv2 r166_37 kc_6_159 rfl (m159_6v1 _ M486 2 hP487 (by decide) (by decide)) (cqI ?_)))
        rintro v547 M543 ⟨hP544, hQ545, h548, h549⟩
        have hF546 : Fr fm_m166_6 M0 M543 := hF488.tr hQ545 rfl
        subst hQ; exact wk_zret r166_40 ⟨by omega, by omega⟩ (⟨rfl, _, rfl, hP544, hF546, by omega, by omega⟩)
    refine wk_icge r166_5 ⟨by omega, by omega⟩ (by decide) ?_ ?_
    · intro h475
      exact wp_fg (le_s (le_s (le_s (le_s le_0)))) (c23_550 M472 hP473 hF474)
    · intro h476
      refine wk_al0 r166_8 (wk_c8 r166_9 (wk_cv2 r166_11 kc_6_175 rfl (m175_6 _ M472 4119 hP473 (by decide)) (cqI ?_)))
      rintro v481 M477 ⟨hP478, hQ479, h482, h483⟩
      have hF480 : Fr fm_m166_6 M0 M477 := hF474.tr hQ479 rfl
      refine wk_ifeq r166_14 ⟨by omega, by omega⟩ ?_ ?_
      · intro h484
        exact wp_fg (le_s (le_s (le_s (le_s le_0)))) (c23_550 M477 hP478 hF480)
      · intro h485
        refine wk_inc2 r166_17 rfl (wk_goto r166_20 ?_)
        exact wp_fg (le_s (le_s (le_s (le_s le_0)))) (ih551 (6 - (v469 + 1)).toNat (by omega) M477 (v469 + 1) rfl hP478 hF480 (by omega) (by omega))
  exact wp_fg (le_s (le_s (le_s (le_s le_0)))) (c2_551 _ M0 0 rfl hP0 hF0 (by omega) (by omega))
def fm_m157_6 : Nat := 3941070043873280
/-- IslandHall$Parser.conjunction -/
theorem m157_6 {B : eB} (d : Nat) (M0 : Mm) (p1 : Int) (hP0 : Pw M0) (l1 : 0 ≤ p1) (u1 : p1 ≤ 0) : Ct B (d + 39) 157 [R 6, I p1] M0 (qI fun z M => Pw M ∧ Fr fm_m157_6 M0 M ∧ 0 ≤ z ∧ z ≤ 1) := by
  refine ct_of (d := d + 38) (k := 1) (L := [some (R 6), some (I p1), none]) rfl rfl rfl ?_
  have hF0 := Fr.rf fm_m157_6 M0
  generalize hQ : (qI fun z M => Pw M ∧ Fr fm_m157_6 M0 M ∧ 0 ≤ z ∧ z ≤ 1) = Q
  refine wk_al0 r157_0 (wk_il1 r157_1 (wk_cv2 r157_2 kc_6_166 rfl (m166_6 _ M0 p1 hP0 (by omega) (by omega)) (cqI ?_)))
  rintro v5 M1 ⟨hP2, hQ3, h6, h7⟩
  have hF4 : Fr fm_m157_6 M0 M1 := hF0.tr hQ3 rfl
  refine wk_ifne r157_5 ⟨by omega, by omega⟩ ?_ ?_
  · intro h8
    refine wk_c1 r157_10 (wk_is2 r157_11 rfl ?_)
    have c12_359 : ∀ (k359 : Nat) (M327 : Mm) (v324 : Int), (500 - v324).toNat = k359 → Pw M327 → Fr fm_m157_6 M0 M327 → 0 ≤ v324 → v324 ≤ 500 → Wp B (d + 38) 157 12 [some (R 6), some (I p1), some (I v324)] [] M327 Q := by
      refine lp_ind ?_
      intro k359 ih359 M327 v324 hk359 hP328 hF329 h325 h326
      refine wk_il2 r157_12 (wk_c3 r157_13 ?_)
      refine wk_icge r157_16 ⟨by omega, by omega⟩ (by decide) ?_ ?_
      · intro h330
        refine wk_c1 r157_53 ?_
        subst hQ; exact wk_zret r157_54 (by decide) (⟨rfl, _, rfl, hP328, hF329, by omega, by omega⟩)
      · intro h331
        refine wk_al0 r157_19 (wk_c8 r157_20 (wk_cv2 r157_22 kc_6_175 rfl (m175_6 _ M327 4125 hP328 (by decide)) (cqI ?_)))
        rintro v336 M332 ⟨hP333, hQ334, h337, h338⟩
        have hF335 : Fr fm_m157_6 M0 M332 := hF329.tr hQ334 rfl
        refine wk_ifeq r157_25 ⟨by omega, by omega⟩ ?_ ?_
        · intro h339
          refine wk_c1 r157_53 ?_
          subst hQ; exact wk_zret r157_54 (by decide) (⟨rfl, _, rfl, hP333, hF335, by omega, by omega⟩)
        · intro h340
          refine wk_al0 r157_28 (wk_il1 r157_29 (wk_cv2 r157_30 kc_6_166 rfl (m166_6 _ M332 p1 hP333 (by omega) (by omega)) (cqI ?_)))
          rintro v345 M341 ⟨hP342, hQ343, h346, h347⟩
          have hF344 : Fr fm_m157_6 M0 M341 := hF335.tr hQ343 rfl
          refine wk_ifeq r157_33 ⟨by omega, by omega⟩ ?_ ?_
          · intro h348
            refine wk_c1 r157_45 ?_
            subst hQ; exact wk_zret r157_46 (by decide) (⟨rfl, _, rfl, hP342, hF344, by omega, by omega⟩)
          · intro h349
            refine wk_al0 r157_36 (wk_c1 r157_37 (wk_c1 r157_38 (wk_cv3 r157_39 kc_6_172 rfl (m172_6 _ M341 2 0 hP342 (by decide) (by decide) (by decide) (by decide) (by first | assumption | omega | (unfold stepok; omega))) (cqI ?_))))
            rintro v354 M350 ⟨hP351, hQ352, h355, h356⟩
            have hF353 : Fr fm_m157_6 M0 M350 := hF344.tr hQ352 rfl
            refine wk_ifne r157_42 ⟨by omega, by omega⟩ ?_ ?_
            · intro h357
              refine wk_inc2 r157_47 rfl (wk_goto r157_50 ?_)
              exact wp_fg (le_s (le_s (le_s le_0))) (ih359 (500 - (v324 + 1)).toNat (by omega) M350 (v324 + 1) rfl hP351 hF353 (by omega) (by omega))
            · intro h358
              exfalso
              omega
    exact wp_fg (le_s (le_s (le_s le_0))) (c12_359 _ M1 0 rfl hP2 hF4 (by omega) (by omega))
  · intro h360
    refine wk_c1 r157_8 ?_
    subst hQ; exact wk_zret r157_9 (by decide) (⟨rfl, _, rfl, hP2, hF4, by omega, by omega⟩)
def fm_m158_6 : Nat := 3941070043873280
/-- IslandHall$Parser.expr -/
theorem m158_6 {B : eB} (d : Nat) (M0 : Mm) (p1 : Int) (hP0 : Pw M0) (l1 : 0 ≤ p1) (u1 : p1 ≤ 0) : Ct B (d + 40) 158 [R 6, I p1] M0 (qI fun z M => Pw M ∧ Fr fm_m158_6 M0 M ∧ 0 ≤ z ∧ z ≤ 1) := by
  refine ct_of (d := d + 39) (k := 1) (L := [some (R 6), some (I p1), none]) rfl rfl rfl ?_
  have hF0 := Fr.rf fm_m158_6 M0
  generalize hQ : (qI fun z M => Pw M ∧ Fr fm_m158_6 M0 M ∧ 0 ≤ z ∧ z ≤ 1) = Q
  refine wk_al0 r158_0 (wk_cv1 r158_1 kc_6_155 rfl (m155_6 _ M0 hP0) (cqI ?_))
  rintro v5 M1 ⟨hP2, hQ3, h6, h7⟩
  obtain rfl := Fr.same hQ3
  refine wk_ifne r158_4 ⟨by omega, by omega⟩ ?_ ?_
  · intro h8
    refine wk_il1 r158_13 (wk_c2 r158_14 ?_)
    refine wk_iclt r158_16 ⟨by omega, by omega⟩ (by decide) ?_ ?_
    · intro h9
      refine wk_al0 r158_25 (wk_il1 r158_26 (wk_cv2 r158_27 kc_6_157 rfl (m157_6 _ M0 p1 hP0 (by omega) (by omega)) (cqI ?_)))
      rintro v14 M10 ⟨hP11, hQ12, h15, h16⟩
      have hF13 : Fr fm_m158_6 M0 M10 := hF0.tr hQ12 rfl
      refine wk_ifne r158_30 ⟨by omega, by omega⟩ ?_ ?_
      · intro h17
        refine wk_c1 r158_35 (wk_is2 r158_36 rfl ?_)
        have c37_368 : ∀ (k368 : Nat) (M336 : Mm) (v333 : Int), (500 - v333).toNat = k368 → Pw M336 → Fr fm_m158_6 M0 M336 → 0 ≤ v333 → v333 ≤ 500 → Wp B (d + 39) 158 37 [some (R 6), some (I p1), some (I v333)] [] M336 Q := by
          refine lp_ind ?_
          intro k368 ih368 M336 v333 hk368 hP337 hF338 h334 h335
          refine wk_il2 r158_37 (wk_c3 r158_38 ?_)
          refine wk_icge r158_41 ⟨by omega, by omega⟩ (by decide) ?_ ?_
          · intro h339
            refine wk_c1 r158_78 ?_
            subst hQ; exact wk_zret r158_79 (by decide) (⟨rfl, _, rfl, hP337, hF338, by omega, by omega⟩)
          · intro h340
            refine wk_al0 r158_44 (wk_c8 r158_45 (wk_cv2 r158_47 kc_6_175 rfl (m175_6 _ M336 4126 hP337 (by decide)) (cqI ?_)))
            rintro v345 M341 ⟨hP342, hQ343, h346, h347⟩
            have hF344 : Fr fm_m158_6 M0 M341 := hF338.tr hQ343 rfl
            refine wk_ifeq r158_50 ⟨by omega, by omega⟩ ?_ ?_
            · intro h348
              refine wk_c1 r158_78 ?_
              subst hQ; exact wk_zret r158_79 (by decide) (⟨rfl, _, rfl, hP342, hF344, by omega, by omega⟩)
            · intro h349
              refine wk_al0 r158_53 (wk_il1 r158_54 (wk_cv2 r158_55 kc_6_157 rfl (m157_6 _ M341 p1 hP342 (by omega) (by omega)) (cqI ?_)))
              rintro v354 M350 ⟨hP351, hQ352, h355, h356⟩
              have hF353 : Fr fm_m158_6 M0 M350 := hF344.tr hQ352 rfl
              refine wk_ifeq r158_58 ⟨by omega, by omega⟩ ?_ ?_
              · intro h357
                refine wk_c1 r158_70 ?_
                subst hQ; exact wk_zret r158_71 (by decide) (⟨rfl, _, rfl, hP351, hF353, by omega, by omega⟩)
              · intro h358
                refine wk_al0 r158_61 (wk_c1 r158_62 (wk_c1 r158_63 (wk_cv3 r158_64 kc_6_172 rfl (m172_6 _ M350 3 0 hP351 (by decide) (by decide) (by decide) (by decide) (by first | assumption | omega | (unfold stepok; omega))) (cqI ?_))))
                rintro v363 M359 ⟨hP360, hQ361, h364, h365⟩
                have hF362 : Fr fm_m158_6 M0 M359 := hF353.tr hQ361 rfl
                refine wk_ifne r158_67 ⟨by omega, by omega⟩ ?_ ?_
                · intro h366
                  refine wk_inc2 r158_72 rfl (wk_goto r158_75 ?_)
                  exact wp_fg (le_s (le_s (le_s le_0))) (ih368 (500 - (v333 + 1)).toNat (by omega) M359 (v333 + 1) rfl hP360 hF362 (by omega) (by omega))
                · intro h367
                  exfalso
                  omega
        exact wp_fg (le_s (le_s (le_s le_0))) (c37_368 _ M10 0 rfl hP11 hF13 (by omega) (by omega))
      · intro h369
        refine wk_c1 r158_33 ?_
        subst hQ; exact wk_zret r158_34 (by decide) (⟨rfl, _, rfl, hP11, hF13, by omega, by omega⟩)
    · intro h370
      exfalso
      omega
  · intro h371
    refine wk_al0 r158_7 (wk_c1 r158_8 (wk_cv2 r158_9 kc_6_159 rfl (m159_6 _ M0 1 hP0 (by decide) (by decide)) (cqI ?_)))
    rintro v376 M372 ⟨hP373, hQ374, h377, h378⟩
    have hF375 : Fr fm_m158_6 M0 M372 := hF0.tr hQ374 rfl
    subst hQ; exact wk_zret r158_12 ⟨by omega, by omega⟩ (⟨rfl, _, rfl, hP373, hF375, by omega, by omega⟩)
def fm_m174_6v2 : Nat := 3941061990809600
/-- IslandHall$Parser.takeSign -/
theorem m174_6v2 {B : eB} (d : Nat) (M0 : Mm) (p1 : Int) (hP0 : Pw M0) (l1 : 40 ≤ p1) (u1 : p1 ≤ 59) : Ct B (d + 3) 174 [R 6, I p1] M0 (qI fun z M => Pw M ∧ Fr fm_m174_6v2 M0 M ∧ 0 ≤ z ∧ z ≤ 1) := by
  refine ct_of (d := d + 2) (k := 0) (L := [some (R 6), some (I p1)]) rfl rfl rfl ?_
  have hF0 := Fr.rf fm_m174_6v2 M0
  generalize hQ : (qI fun z M => Pw M ∧ Fr fm_m174_6v2 M0 M ∧ 0 ≤ z ∧ z ≤ 1) = Q
  refine wk_al0 r174_0 (wk_getfr r174_1 fd_6_0 (br_6_0 hP0) (wk_il1 r174_4 (wk_cv2 r174_5 kc_9_238 rfl (m238_9v1 _ M0 p1 hP0 (by omega) (by omega)) (cqI ?_))))
  rintro v5 M1 ⟨hP2, hQ3, h6, h7⟩
  obtain rfl := Fr.same hQ3
  refine wk_ifne r174_8 ⟨by omega, by omega⟩ ?_ ?_
  · intro h8
    refine wk_al0 r174_17 (wk_getfr r174_18 fd_6_0 (br_6_0 hP0) (wk_cv1 r174_21 kc_9_241 rfl (m241_9 _ M0 hP0) (cqV ?_)))
    rintro M9 ⟨hP10, hQ11⟩
    have hF12 : Fr fm_m174_6v2 M0 M9 := hF0.tr hQ11 rfl
    refine wk_c1 r174_24 ?_
    subst hQ; exact wk_zret r174_25 (by decide) (⟨rfl, _, rfl, hP10, hF12, by omega, by omega⟩)
  · intro h13
    refine wk_al0 r174_11 (wk_c1 r174_12 (wk_cv2 r174_13 kc_6_159 rfl (m159_6 _ M0 1 hP0 (by decide) (by decide)) (cqI ?_)))
    rintro v18 M14 ⟨hP15, hQ16, h19, h20⟩
    have hF17 : Fr fm_m174_6v2 M0 M14 := hF0.tr hQ16 rfl
    subst hQ; exact wk_zret r174_16 ⟨by omega, by omega⟩ (⟨rfl, _, rfl, hP15, hF17, by omega, by omega⟩)
def fm_m170_6 : Nat := 4222648099799040
/-- IslandHall$Parser.readSentence -/
theorem m170_6 {B : eB} (d : Nat) (M0 : Mm) (p1 : Int) (p2 : Int) (c3 : Int) (hP0 : Pw M0) (l1 : 0 ≤ p1) (u1 : p1 ≤ 500) (l2 : (-1) ≤ p2) (u2 : p2 ≤ 7) (hC3 : isC c3) : Ct B (d + 41) 170 [R 6, I p1, I p2, R c3] M0 (qI fun z M => Pw M ∧ Fr fm_m170_6 M0 M ∧ 0 ≤ z ∧ z ≤ 6) := by
  refine ct_of (d := d + 40) (k := 0) (L := [some (R 6), some (I p1), some (I p2), some (R c3)]) rfl rfl rfl ?_
  have hF0 := Fr.rf fm_m170_6 M0
  generalize hQ : (qI fun z M => Pw M ∧ Fr fm_m170_6 M0 M ∧ 0 ≤ z ∧ z ≤ 6) = Q
  refine wk_al0 r170_0 (wk_il1 r170_1 (wk_al3 r170_2 (wk_cv3 r170_3 kc_6_154 rfl (m154_6 _ M0 p1 c3 hP0 (by omega) (by omega) hC3) (cqV ?_))))
  rintro M1 ⟨hP2, hQ3⟩
  have hF4 : Fr fm_m170_6 M0 M1 := hF0.tr hQ3 rfl
  refine wk_al3 r170_6 (wk_cv1 r170_7 (kcC_141 hC3) rfl (m141 _ M1 c3 hP2 hC3) (cqV ?_))
  rintro M5 ⟨hP6, hQ7⟩
  have hF8 : Fr fm_m170_6 M0 M5 := hF4.tr hQ7 rfl
  refine wk_al0 r170_10 (wk_il2 r170_11 (wk_putfi81 r170_12 fd_6_3 (wk_nw g_6_3 rfl hP6 hF8 (uf_6_3 ⟨by omega, by omega⟩) ?_)))
  intro M9 hP10 hF11 e12
  refine wk_al0 r170_15 (wk_c1 r170_16 (wk_cv2 r170_17 kc_6_158 rfl (m158_6 _ M9 0 hP10 (by decide) (by decide)) (cqI ?_)))
  rintro v17 M13 ⟨hP14, hQ15, h18, h19⟩
  have hF16 : Fr fm_m170_6 M0 M13 := hF11.tr hQ15 rfl
  refine wk_ifeq r170_20 ⟨by omega, by omega⟩ ?_ ?_
  · intro h20
    refine wk_al0 r170_48 (wk_getfb r170_49 fd_6_4 (bf_6_4 hP14) ?_)
    intro v21 h23 h24 e22
    subst hQ; exact wk_iret r170_52 (⟨rfl, _, rfl, hP14, hF16, by omega, by omega⟩)
  · intro h25
    refine wk_al0 r170_23 (wk_c2 r170_24 (wk_cv2 r170_26 kc_6_174 rfl (m174_6v2 _ M13 59 hP14 (by decide) (by decide)) (cqI ?_)))
    rintro v30 M26 ⟨hP27, hQ28, h31, h32⟩
    have hF29 : Fr fm_m170_6 M0 M26 := hF16.tr hQ28 rfl
    refine wk_ifeq r170_29 ⟨by omega, by omega⟩ ?_ ?_
    · intro h33
      refine wk_al0 r170_48 (wk_getfb r170_49 fd_6_4 (bf_6_4 hP27) ?_)
      intro v34 h36 h37 e35
      subst hQ; exact wk_iret r170_52 (⟨rfl, _, rfl, hP27, hF29, by omega, by omega⟩)
    · intro h38
      refine wk_al0 r170_32 (wk_getfr r170_33 fd_6_0 (br_6_0 hP27) (wk_getfb r170_36 fd_9_4 (bf_9_4 hP27) ?_))
      intro v39 h41 h42 e40
      refine wk_ifeq r170_39 ⟨by omega, by omega⟩ ?_ ?_
      · intro h43
        refine wk_al0 r170_48 (wk_getfb r170_49 fd_6_4 (bf_6_4 hP27) ?_)
        intro v44 h46 h47 e45
        subst hQ; exact wk_iret r170_52 (⟨rfl, _, rfl, hP27, hF29, by omega, by omega⟩)
      · intro h48
        refine wk_al0 r170_42 (wk_c1 r170_43 (wk_cv2 r170_44 kc_6_159 rfl (m159_6 _ M26 1 hP27 (by decide) (by decide)) (cqI ?_)))
        rintro v53 M49 ⟨hP50, hQ51, h54, h55⟩
        have hF52 : Fr fm_m170_6 M0 M49 := hF29.tr hQ51 rfl
        refine wk_popi r170_47 (wk_al0 r170_48 (wk_getfb r170_49 fd_6_4 (bf_6_4 hP50) ?_))
        intro v56 h58 h59 e57
        subst hQ; exact wk_iret r170_52 (⟨rfl, _, rfl, hP50, hF52, by omega, by omega⟩)
def fm_m39_0 : Nat := 4222648099800132
/-- IslandHall.sentence -/
theorem m39_0 {B : eB} (d : Nat) (M0 : Mm) (p1 : Int) (hP0 : Pw M0) (l1 : (-2147483648) ≤ p1) (u1 : p1 ≤ 2147483647) : Ct B (d + 42) 39 [R 0, I p1] M0 (qX 1 (fun M => Pw M ∧ Fr (fm_m39_0 ||| 1) M0 M ∧ M (-1) 0 = M0 (-1) 0 + 1) (qI fun z M => Pw M ∧ Fr fm_m39_0 M0 M ∧ (-9) ≤ z ∧ z ≤ 29)) := by
  refine ct_of (d := d + 41) (k := 1) (L := [some (R 0), some (I p1), none]) rfl rfl rfl ?_
  have hF0 := Fr.rf fm_m39_0 M0
  generalize hQ : (qX 1 (fun M => Pw M ∧ Fr (fm_m39_0 ||| 1) M0 M ∧ M (-1) 0 = M0 (-1) 0 + 1) (qI fun z M => Pw M ∧ Fr fm_m39_0 M0 M ∧ (-9) ≤ z ∧ z ≤ 29)) = Q
  refine wk_al0 r39_0 (wk_il1 r39_1 ?_)
  obtain ⟨v1, e2⟩ : ∃ v, M0 0 1 = v := ⟨_, rfl⟩
  have h3 := bf_0_1 hP0; rw [e2] at h3
  refine wk_cv2 r39_2 kc_0_40 rfl (m40_0 _ M0 p1 v1 hP0 (by omega) (by omega) e2 (by omega) (by omega)) (cqX (fun _ _ x8 => by subst hQ; exact Or.inl ⟨rfl, x8.1, Fr.trx hF0 x8.2.1 rfl, (by rw [x8.2.2, hF0.at g_below rfl])⟩) (cqV ?_))
  rintro M4 ⟨hP5, hQ6, h11, h12⟩
  have hF7 : Fr fm_m39_0 M0 M4 := hF0.tr hQ6 rfl
  refine wk_al0 r39_5 (wk_getfb r39_6 fd_0_9 (bf_0_9 hP5) ?_)
  intro v13 h15 h16 e14
  refine wk_c2 r39_9 ?_
  refine wk_iclt r39_11 ⟨by omega, by omega⟩ (by decide) ?_ ?_
  · intro h17
    refine wk_al0 r39_22 (wk_getfr r39_23 fd_0_4 (br_0_4 hP5) (wk_il1 r39_26 (wk_al0 r39_27 (wk_getfr r39_28 fd_0_2 (br_0_2 hP5) (wk_getfb r39_31 fd_2_1 (bf_2_1 hP5) ?_)))))
    intro v18 h20 h21 e19
    refine wk_al0 r39_34 (wk_getfr r39_35 fd_0_8 (br_0_8 hP5) (wk_al0 r39_38 (wk_getfi r39_39 fd_0_9 e14 (wk_caldb r39_42 ar_168 ⟨by omega, by omega⟩ (fun q0 q1 => ba_168 hP5 q0 q1) ?_))))
    intro v22 e23
    have hC24 : isC v22 := Or.inr (by omega)
    refine wk_cv4 r39_43 kc_6_170 rfl (m170_6 _ M4 p1 v18 v22 hP5 (by omega) (by omega) (by omega) (by omega) hC24) (cqI ?_)
    rintro v29 M25 ⟨hP26, hQ27, h30, h31⟩
    have hF28 : Fr fm_m39_0 M0 M25 := hF7.tr hQ27 rfl
    refine wk_is2 r39_46 rfl (wk_al0 r39_47 (wk_al0 r39_48 (wk_getfr r39_49 fd_0_4 (br_0_4 hP26) (wk_getfb r39_52 fd_6_5 (bf_6_5 hP26) ?_))))
    intro v32 h34 h35 e33
    refine wk_putfi81 r39_55 fd_0_5 (wk_nw g_0_5 rfl hP26 hF28 (uf_0_5 ⟨by omega, by omega⟩) ?_)
    intro M36 hP37 hF38 e39
    refine wk_il2 r39_58 ?_
    refine wk_ifeq r39_59 ⟨by omega, by omega⟩ ?_ ?_
    · intro h40
      refine wk_al0 r39_66 (wk_dupr r39_67 (wk_getfi r39_68 fd_0_9 (mUp_no e39 ((hQ27.at g_0_9 rfl).trans e14) (Or.inr (by decide))) (wk_c1 r39_71 (wk_iadd r39_72 (wk_putfi81 r39_73 fd_0_9 (wk_nw g_0_9 rfl hP37 hF38 (uf_0_9 ⟨by omega, by omega⟩) ?_))))))
      intro M41 hP42 hF43 e44
      refine wk_al0 r39_76 (wk_getfi r39_77 fd_0_9 (mUp_at e44) (wk_c1 r39_80 (wk_isub r39_81 ?_)))
      subst hQ; exact wk_iret r39_82 (Or.inr ⟨rfl, _, rfl, hP42, hF43, by omega, by omega⟩)
    · intro h45
      refine wk_c1 r39_62 (wk_il2 r39_63 (wk_isub r39_64 ?_))
      subst hQ; exact wk_iret r39_65 (Or.inr ⟨rfl, _, rfl, hP37, hF38, by omega, by omega⟩)
  · intro h46
    refine wk_al0 r39_14 (wk_c1 r39_15 (wk_putfi81 r39_16 fd_0_5 (wk_nw g_0_5 rfl hP5 hF7 (uf_0_5 (by decide)) ?_)))
    intro M47 hP48 hF49 e50
    refine wk_c2 r39_19 ?_
    subst hQ; exact wk_iret r39_21 (Or.inr ⟨rfl, _, rfl, hP48, hF49, by omega, by omega⟩)
def fm_m31_0 : Nat := 0
/-- IslandHall.needSentence -/
theorem m31_0 {B : eB} (d : Nat) (M0 : Mm) (p1 : Int) (hP0 : Pw M0) (l1 : (-2147483648) ≤ p1) (u1 : p1 ≤ 2147483647) : Ct B (d + 1) 31 [R 0, I p1] M0 (qX 0 (fun M => Pw M ∧ Fr (fm_m31_0 ||| 1) M0 M ∧ M (-1) 0 = M0 (-1) 0 + 1) (qV fun M => Pw M ∧ Fr fm_m31_0 M0 M ∧ 0 ≤ p1 ∧ 0 ≤ M 0 9 + (-1) * p1 + (-1))) := by
  refine ct_of (d := d + 0) (k := 0) (L := [some (R 0), some (I p1)]) rfl rfl rfl ?_
  have hF0 := Fr.rf fm_m31_0 M0
  generalize hQ : (qX 0 (fun M => Pw M ∧ Fr (fm_m31_0 ||| 1) M0 M ∧ M (-1) 0 = M0 (-1) 0 + 1) (qV fun M => Pw M ∧ Fr fm_m31_0 M0 M ∧ 0 ≤ p1 ∧ 0 ≤ M 0 9 + (-1) * p1 + (-1))) = Q
  refine wk_il1 r31_0 ?_
  refine wk_iflt r31_1 ⟨by omega, by omega⟩ ?_ ?_
  · intro h1
    subst hQ; exact wk_thr112 r31_12 rfl (Or.inl ⟨rfl, hP0.thr, (Fr.thr hF0), (by rw [mUp_eq, hF0.at g_below rfl])⟩)
  · intro h2
    refine wk_il1 r31_4 (wk_al0 r31_5 (wk_getfb r31_6 fd_0_9 (bf_0_9 hP0) ?_))
    intro v3 h5 h6 e4
    refine wk_iclt r31_9 ⟨by omega, by omega⟩ ⟨by omega, by omega⟩ ?_ ?_
    · intro h7
      subst hQ; exact wk_ret r31_23 (Or.inr ⟨rfl, hP0, hF0, by omega, by have := e4; omega⟩)
    · intro h8
      subst hQ; exact wk_thr112 r31_12 rfl (Or.inl ⟨rfl, hP0.thr, (Fr.thr hF0), (by rw [mUp_eq, hF0.at g_below rfl])⟩)
def fm_m217_170 : Nat := 9903520314283042199192993792
/-- IslandHall$Subsets.forget -/
theorem m217_170 {B : eB} (d : Nat) (M0 : Mm) (hP0 : Pw M0)  : Ct B (d + 1) 217 [R 170] M0 (qV fun M => Pw M ∧ Fr fm_m217_170 M0 M) := by
  refine ct_of (d := d + 0) (k := 0) (L := [some (R 170)]) rfl rfl rfl ?_
  have hF0 := Fr.rf fm_m217_170 M0
  generalize hQ : (qV fun M => Pw M ∧ Fr fm_m217_170 M0 M) = Q
  refine wk_al0 r217_0 (wk_c1 r217_1 (wk_putfz81 r217_2 fd_170_4 (by decide) (wk_nw g_170_4 rfl hP0 hF0 (uf_170_4 (by decide)) ?_)))
  intro M1 hP2 hF3 e4
  subst hQ; exact wk_ret r217_5 (⟨rfl, hP2, hF3⟩)
def fm_m190_10 : Nat := 0
/-- IslandHall$Realm.freeRow -/
theorem m190_10 {B : eB} (d : Nat) (M0 : Mm) (p1 : Int) (hP0 : Pw M0) (l1 : 0 ≤ p1) (u1 : p1 ≤ 6) : Ct B (d + 1) 190 [R 10, I p1] M0 (qR fun z M => Pw M ∧ Fr fm_m190_10 M0 M ∧ 21 ≤ z ∧ z ≤ 51) := by
  refine ct_of (d := d + 0) (k := 0) (L := [some (R 10), some (I p1)]) rfl rfl rfl ?_
  have hF0 := Fr.rf fm_m190_10 M0
  generalize hQ : (qR fun z M => Pw M ∧ Fr fm_m190_10 M0 M ∧ 21 ≤ z ∧ z ≤ 51) = Q
  refine wk_al0 r190_0 (wk_getfr r190_1 fd_10_0 (br_10_0 hP0) (wk_c1 r190_4 (wk_il1 r190_5 (wk_c1 r190_6 (wk_imul r190_7 (wk_iadd r190_8 (wk_c1 r190_9 (wk_iadd r190_10 (wk_raldb r190_11 ar_16 ⟨by omega, by omega⟩ (fun q0 q1 => ba_16 hP0 q0 q1) ?_)))))))))
  subst hQ; exact wk_aret r190_12 (⟨rfl, _, rfl, hP0, hF0, by omega, by omega⟩)
def fm_m208_10 : Nat := 0
/-- IslandHall$Realm.yesRow -/
theorem m208_10 {B : eB} (d : Nat) (M0 : Mm) (p1 : Int) (hP0 : Pw M0) (l1 : (-1) ≤ p1) (u1 : p1 ≤ (-1)) : Ct B (d + 1) 208 [R 10, I p1] M0 (qR fun z M => Pw M ∧ Fr fm_m208_10 M0 M ∧ 135 ≤ z ∧ z ≤ 135) := by
  refine ct_of (d := d + 0) (k := 0) (L := [some (R 10), some (I p1)]) rfl rfl rfl ?_
  have hF0 := Fr.rf fm_m208_10 M0
  generalize hQ : (qR fun z M => Pw M ∧ Fr fm_m208_10 M0 M ∧ 135 ≤ z ∧ z ≤ 135) = Q
  refine wk_al0 r208_0 (wk_getfr r208_1 fd_10_0 (br_10_0 hP0) (wk_il1 r208_4 (wk_c1 r208_5 ?_)))
  refine wk_icne r208_6 ⟨by omega, by omega⟩ (by decide) ?_ ?_
  · intro h1
    exfalso
    omega
  · intro h2
    refine wk_c2 r208_9 (wk_goto r208_11 (wk_raldb r208_18 ar_16 (by decide) (fun q0 q1 => ba_16 hP0 q0 q1) ?_))
    subst hQ; exact wk_aret r208_19 (⟨rfl, _, rfl, hP0, hF0, by omega, by omega⟩)
def fm_m193_10 : Nat := 0
/-- IslandHall$Realm.honestRow -/
theorem m193_10 {B : eB} (d : Nat) (M0 : Mm) (p1 : Int) (hP0 : Pw M0) (l1 : 0 ≤ p1) (u1 : p1 ≤ 6) : Ct B (d + 1) 193 [R 10, I p1] M0 (qR fun z M => Pw M ∧ Fr fm_m193_10 M0 M ∧ 105 ≤ z ∧ z ≤ 118) := by
  refine ct_of (d := d + 0) (k := 0) (L := [some (R 10), some (I p1)]) rfl rfl rfl ?_
  have hF0 := Fr.rf fm_m193_10 M0
  generalize hQ : (qR fun z M => Pw M ∧ Fr fm_m193_10 M0 M ∧ 105 ≤ z ∧ z ≤ 118) = Q
  refine wk_al0 r193_0 (wk_getfr r193_1 fd_10_0 (br_10_0 hP0) (wk_c2 r193_4 (wk_c1 r193_6 (wk_il1 r193_7 (wk_imul r193_8 (wk_iadd r193_9 (wk_al0 r193_10 (wk_getfr r193_11 fd_10_3 (br_10_3 hP0) (wk_il1 r193_14 (wk_ialdb r193_15 ar_11 ⟨by omega, by omega⟩ (fun q0 q1 => ba_11 hP0 q0 q1) ?_))))))))))
  intro v1 h3 h4 e2
  refine wk_iadd r193_16 (wk_raldb r193_17 ar_16 ⟨by omega, by omega⟩ (fun q0 q1 => ba_16 hP0 q0 q1) ?_)
  subst hQ; exact wk_aret r193_18 (⟨rfl, _, rfl, hP0, hF0, by omega, by omega⟩)
def fm_m185_10v8 : Nat := 0
/-- IslandHall$Realm.alike -/
theorem m185_10v8 {B : eB} (d : Nat) (M0 : Mm) (p1 : Int) (p2 : Int) (hP0 : Pw M0) (l1 : 0 ≤ p1) (u1 : p1 ≤ 54) (l2 : 0 ≤ p2) (u2 : p2 ≤ 46) (xp0 : p1 % 8 ≤ 6) : Ct B (d + 1) 185 [R 10, I p1, I p2] M0 (qL fun z M => Pw M ∧ Fr fm_m185_10v8 M0 M ∧ z < 18446744073709551616) := by
  refine ct_of (d := d + 0) (k := 5) (L := [some (R 10), some (I p1), some (I p2), none, none, none, none, none]) rfl rfl rfl ?_
  have hF0 := Fr.rf fm_m185_10v8 M0
  generalize hQ : (qL fun z M => Pw M ∧ Fr fm_m185_10v8 M0 M ∧ z < 18446744073709551616) = Q
  refine wk_c1 r185_0 (wk_il1 r185_1 (wk_c1 r185_2 (wk_ishrc r185_3 ⟨by omega, by omega⟩ (by decide) pwl_3 (wk_c1 r185_4 (wk_imul r185_5 (wk_iadd r185_6 (wk_is3 r185_7 rfl (wk_c1 r185_8 (wk_il1 r185_9 (wk_c2 r185_10 (wk_iandc 3 8 r185_12 ⟨rfl, by decide⟩ rfl (wk_c1 r185_13 (wk_imul r185_14 (wk_iadd r185_15 (wk_is4 r185_16 rfl (wk_c6 r185_18 (wk_ls5 r185_19 rfl (wk_c1 r185_21 (wk_is7 r185_22 rfl ?_)))))))))))))))))))
  have c24_170 : ∀ (k170 : Nat) (n146 : Nat) (v148 : Int), (5 - v148).toNat = k170 → n146 < 18446744073709551616 → 0 ≤ v148 → v148 ≤ 5 → Wp B (d + 0) 185 24 [some (R 10), none, some (I p2), some (I (0 + ((p1 / 8) * 5))), some (I (0 + ((p1 % 8) * 5))), some (J n146), none, some (I v148)] [] M0 Q := by
    refine lp_ind ?_
    intro k170 ih170 n146 v148 hk170 h147 h149 h150
    refine wk_il7 r185_24 (wk_c1 r185_26 ?_)
    refine wk_icge r185_27 ⟨by omega, by omega⟩ (by decide) ?_ ?_
    · intro h151
      refine wk_ll5 r185_65 ?_
      subst hQ; exact wk_lret r185_67 (⟨rfl, _, rfl, hP0, hF0, by omega⟩)
    · intro h152
      refine wk_ll5 r185_30 (wk_al0 r185_32 (wk_getfr r185_33 fd_10_0 (br_10_0 hP0) (wk_il3 r185_36 (wk_il7 r185_37 (wk_iadd r185_39 (wk_raldb r185_40 ar_16 ⟨by omega, by omega⟩ (fun q0 q1 => ba_16 hP0 q0 q1) (wk_il2 r185_41 (wk_laldb r185_42 (arF_17 (by omega) (by omega)) ⟨by omega, by omega⟩ (fun q0 q1 => baF_17 hP0 (by omega) (by omega) q0 q1) (by decide) ?_))))))))
      intro n153 h155 h156 e154
      refine wk_al0 r185_43 (wk_getfr r185_44 fd_10_0 (br_10_0 hP0) (wk_il4 r185_47 (wk_il7 r185_49 (wk_iadd r185_51 (wk_raldb r185_52 ar_16 ⟨by omega, by omega⟩ (fun q0 q1 => ba_16 hP0 q0 q1) (wk_il2 r185_53 (wk_laldb r185_54 (arF_17 (by omega) (by omega)) ⟨by omega, by omega⟩ (fun q0 q1 => baF_17 hP0 (by omega) (by omega) q0 q1) (by decide) ?_)))))))
      intro n157 h159 h160 e158
      refine wk_land r185_55 ?_
      intro n161 h162 h163 h164 h165
      refine wk_lorb r185_56 ?_
      intro n166 h167 h168 h169
      refine wk_ls5 r185_57 rfl (wk_inc7 r185_59 rfl (wk_goto r185_62 ?_))
      exact wp_fg (le_s (le_s (le_s (le_s (le_s (le_s (le_s (le_s le_0)))))))) (ih170 (5 - (v148 + 1)).toNat (by omega) n166 (v148 + 1) rfl (by omega) (by omega) (by omega))
  exact wp_fg (le_s (le_n (le_s (le_s (le_s (le_s (le_s (le_s le_0)))))))) (c24_170 _ 0 0 rfl (by omega) (by omega) (by omega))
def fm_m198_10v8 : Nat := 0
/-- IslandHall$Realm.many -/
theorem m198_10v8 {B : eB} (d : Nat) (M0 : Mm) (p1 : Int) (p2 : Int) (hP0 : Pw M0) (l1 : 0 ≤ p1) (u1 : p1 ≤ 1279) (l2 : 0 ≤ p2) (u2 : p2 ≤ 46) : Ct B (d + 1) 198 [R 10, I p1, I p2] M0 (qL fun z M => Pw M ∧ Fr fm_m198_10v8 M0 M ∧ z < 18446744073709551616) := by
  refine ct_of (d := d + 0) (k := 4) (L := [some (R 10), some (I p1), some (I p2), none, none, none, none]) rfl rfl rfl ?_
  have hF0 := Fr.rf fm_m198_10v8 M0
  generalize hQ : (qL fun z M => Pw M ∧ Fr fm_m198_10v8 M0 M ∧ z < 18446744073709551616) = Q
  refine wk_c2 r198_0 (wk_il1 r198_2 (wk_c2 r198_3 (wk_ishrc r198_5 ⟨by omega, by omega⟩ (by decide) pwl_8 (wk_c2 r198_6 (wk_imul r198_8 (wk_iadd r198_9 (wk_is3 r198_10 rfl (wk_c6 r198_11 (wk_ls4 r198_12 rfl (wk_c1 r198_14 (wk_is6 r198_15 rfl ?_)))))))))))
  have c17_178 : ∀ (k178 : Nat) (n156 : Nat) (v158 : Int), (8 - v158).toNat = k178 → n156 < 18446744073709551616 → 0 ≤ v158 → v158 ≤ 8 → Wp B (d + 0) 198 17 [some (R 10), some (I p1), some (I p2), some (I (48 + ((p1 / 256) * 8))), some (J n156), none, some (I v158)] [] M0 Q := by
    refine lp_ind ?_
    intro k178 ih178 n156 v158 hk178 h157 h159 h160
    refine wk_il6 r198_17 (wk_c2 r198_19 ?_)
    refine wk_icgt r198_21 ⟨by omega, by omega⟩ (by decide) ?_ ?_
    · intro h161
      refine wk_ll4 r198_56 ?_
      subst hQ; exact wk_lret r198_58 (⟨rfl, _, rfl, hP0, hF0, by omega⟩)
    · intro h162
      refine wk_il1 r198_24 (wk_il6 r198_25 (wk_shrb r198_27 ⟨by omega, by omega⟩ ⟨by omega, by omega⟩ ?_))
      intro v163 h164 h165 h166
      refine wk_c1 r198_28 (wk_iandc 1 2 r198_29 ⟨rfl, by decide⟩ rfl (wk_c1 r198_30 ?_))
      refine wk_icne r198_31 ⟨by omega, by omega⟩ (by decide) ?_ ?_
      · intro h168
        refine wk_inc6 r198_50 rfl (wk_goto r198_53 ?_)
        exact wp_fg (le_s (le_s (le_s (le_s (le_s (le_s (le_s le_0))))))) (ih178 (8 - (v158 + 1)).toNat (by omega) n156 (v158 + 1) rfl (by omega) (by omega) (by omega))
      · intro h169
        refine wk_ll4 r198_34 (wk_al0 r198_36 (wk_getfr r198_37 fd_10_0 (br_10_0 hP0) (wk_il3 r198_40 (wk_il6 r198_41 (wk_iadd r198_43 (wk_raldb r198_44 ar_16 ⟨by omega, by omega⟩ (fun q0 q1 => ba_16 hP0 q0 q1) (wk_il2 r198_45 (wk_laldb r198_46 (arF_17 (by omega) (by omega)) ⟨by omega, by omega⟩ (fun q0 q1 => baF_17 hP0 (by omega) (by omega) q0 q1) (by decide) ?_))))))))
        intro n170 h172 h173 e171
        refine wk_lorb r198_47 ?_
        intro n174 h175 h176 h177
        refine wk_ls4 r198_48 rfl (wk_inc6 r198_50 rfl (wk_goto r198_53 ?_))
        exact wp_fg (le_s (le_s (le_s (le_s (le_s (le_s (le_s le_0))))))) (ih178 (8 - (v158 + 1)).toNat (by omega) n174 (v158 + 1) rfl (by omega) (by omega) (by omega))
  exact wp_fg (le_s (le_s (le_s (le_s (le_s (le_s (le_s le_0))))))) (c17_178 _ 0 0 rfl (by omega) (by omega) (by omega))
def fm_m189_10v8 : Nat := 0
/-- IslandHall$Realm.fits -/
theorem m189_10v8 {B : eB} (d : Nat) (M0 : Mm) (p1 : Int) (p2 : Int) (p3 : Nat) (p4 : Int) (hP0 : Pw M0) (l1 : 0 ≤ p1) (u1 : p1 ≤ 6) (l2 : (-1) ≤ p2) (u2 : p2 ≤ (-1)) (l3 : p3 < 18446744073709551616) (l4 : 0 ≤ p4) (u4 : p4 ≤ 46) : Ct B (d + 2) 189 [R 10, I p1, I p2, J p3, I p4] M0 (qL fun z M => Pw M ∧ Fr fm_m189_10v8 M0 M ∧ z < 18446744073709551616) := by
  refine ct_of (d := d + 1) (k := 0) (L := [some (R 10), some (I p1), some (I p2), some (J p3), none, some (I p4)]) rfl rfl rfl ?_
  have hF0 := Fr.rf fm_m189_10v8 M0
  generalize hQ : (qL fun z M => Pw M ∧ Fr fm_m189_10v8 M0 M ∧ z < 18446744073709551616) = Q
  refine wk_al0 r189_0 (wk_il1 r189_1 (wk_cv2 r189_2 kc_10_190 rfl (m190_10 _ M0 p1 hP0 (by omega) (by omega)) (cqR ?_)))
  rintro v5 M1 ⟨hP2, hQ3, h6, h7⟩
  obtain rfl := Fr.same hQ3
  refine wk_il5 r189_5 (wk_laldb r189_7 (arF_17 (by omega) (by omega)) ⟨by omega, by omega⟩ (fun q0 q1 => baF_17 hP0 (by omega) (by omega) q0 q1) (by decide) ?_)
  intro n8 h10 h11 e9
  refine wk_al0 r189_8 (wk_il2 r189_9 (wk_cv2 r189_10 kc_10_208 rfl (m208_10 _ M0 p2 hP0 (by omega) (by omega)) (cqR ?_)))
  rintro v16 M12 ⟨hP13, hQ14, h17, h18⟩
  obtain rfl : v16 = 135 := by omega
  obtain rfl := Fr.same hQ14
  refine wk_il5 r189_13 (wk_laldb r189_15 ar_135 ⟨by omega, by omega⟩ (fun q0 q1 => ba_135 hP0 q0 q1) (by decide) ?_)
  intro n19 h21 h22 e20
  refine wk_ll3 r189_16 (wk_lxor r189_17 ?_)
  intro n23 h24 h25
  refine wk_al0 r189_18 (wk_il1 r189_19 (wk_cv2 r189_20 kc_10_193 rfl (m193_10 _ M0 p1 hP0 (by omega) (by omega)) (cqR ?_)))
  rintro v30 M26 ⟨hP27, hQ28, h31, h32⟩
  obtain rfl := Fr.same hQ28
  refine wk_il5 r189_23 (wk_laldb r189_25 (arF_17 (by omega) (by omega)) ⟨by omega, by omega⟩ (fun q0 q1 => baF_17 hP0 (by omega) (by omega) q0 q1) (by decide) ?_)
  intro n33 h35 h36 e34
  refine wk_lxor r189_26 ?_
  intro n37 h38 h39
  refine wk_lorb r189_27 ?_
  intro n40 h41 h42 h43
  subst hQ; exact wk_lret r189_28 (⟨rfl, _, rfl, hP0, hF0, by omega⟩)
def fm_m207_10v8 : Nat := 18446744073709551616
/-- IslandHall$Realm.truth -/
theorem m207_10v8 {B : eB} (d : Nat) (M0 : Mm) (c1 : Int) (p2 : Int) (hP0 : Pw M0) (hC1 : isC c1) (l2 : 0 ≤ p2) (u2 : p2 ≤ 46) : Ct B (d + 3) 207 [R 10, R c1, I p2] M0 (qL fun z M => Pw M ∧ Fr fm_m207_10v8 M0 M ∧ z < 18446744073709551616) := by
  refine ct_of (d := d + 2) (k := 7) (L := [some (R 10), some (R c1), some (I p2), none, none, none, none, none, none, none]) rfl rfl rfl ?_
  have hF0 := Fr.rf fm_m207_10v8 M0
  generalize hQ : (qL fun z M => Pw M ∧ Fr fm_m207_10v8 M0 M ∧ z < 18446744073709551616) = Q
  refine wk_c1 r207_0 (wk_is3 r207_1 rfl (wk_c1 r207_2 (wk_is4 r207_3 rfl ?_)))
  have c5_2332 : ∀ (k2332 : Nat) (M2086 : Mm) (v2080 : Int) (v2083 : Int), (256 - v2083).toNat = k2332 → Pw M2086 → Fr fm_m207_10v8 M0 M2086 → 0 ≤ v2080 → v2080 ≤ 31 → 0 ≤ v2083 → v2083 ≤ 256 → 0 ≤ (-1) * v2080 + v2083 + 0 → Wp B (d + 2) 207 5 [some (R 10), some (R c1), some (I p2), some (I v2080), some (I v2083), none, none, none, none, none] [] M2086 Q := by
    refine lp_ind ?_
    intro k2332 ih2332 M2086 v2080 v2083 hk2332 hP2087 hF2088 h2081 h2082 h2084 h2085 h2089
    refine wk_il4 r207_5 (wk_al1 r207_7 (wk_getfb r207_8 (fdC_1 hC1) (bC_1 hP2087 hC1) ?_))
    intro v2090 h2092 h2093 e2091
    refine wk_icge r207_11 ⟨by omega, by omega⟩ ⟨by omega, by omega⟩ ?_ ?_
    · intro h2094
      refine wk_al0 r207_255 (wk_getfr r207_256 fd_10_4 (br_10_4 hP2087) (wk_c1 r207_259 (wk_laldb r207_260 ar_12 (by decide) (fun q0 q1 => ba_12 hP2087 q0 q1) (by decide) ?_)))
      intro n2095 h2097 h2098 e2096
      subst hQ; exact wk_lret r207_261 (⟨rfl, _, rfl, hP2087, hF2088, by omega⟩)
    · intro h2099
      refine wk_il3 r207_14 (wk_c1 r207_15 (wk_iadd r207_16 (wk_c2 r207_17 ?_)))
      refine wk_icge r207_19 ⟨by omega, by omega⟩ (by decide) ?_ ?_
      · intro h2100
        refine wk_al0 r207_255 (wk_getfr r207_256 fd_10_4 (br_10_4 hP2087) (wk_c1 r207_259 (wk_laldb r207_260 ar_12 (by decide) (fun q0 q1 => ba_12 hP2087 q0 q1) (by decide) ?_)))
        intro n2101 h2103 h2104 e2102
        subst hQ; exact wk_lret r207_261 (⟨rfl, _, rfl, hP2087, hF2088, by omega⟩)
      · intro h2105
        refine wk_al1 r207_22 (wk_getfr r207_23 (fdC_0 hC1) (bC_0 hP2087 hC1) (wk_il4 r207_26 (wk_ialdb r207_28 (arC hC1) ⟨by omega, by omega⟩ (fun q0 q1 => baC hP2087 hC1 q0 q1) ?_)))
        intro v2106 h2108 h2109 e2107
        have h2110 := exC hP2087 hC1 (i := v2083) (by omega) (by omega); rw [e2107] at h2110; unfold stepok at h2110
        refine wk_c1 r207_29 (wk_ishrc r207_30 ⟨by omega, by omega⟩ (by decide) pwl_3 (wk_is5 r207_31 rfl (wk_al1 r207_33 (wk_getfr r207_34 (fdC_0 hC1) (bC_0 hP2087 hC1) (wk_il4 r207_37 (wk_iald r207_39 (arC hC1) ⟨by omega, by omega⟩ e2107 (wk_c2 r207_40 (wk_iandc 3 8 r207_42 ⟨rfl, by decide⟩ rfl (wk_is6 r207_43 rfl (wk_il6 r207_45 (wk_c1 r207_47 ?_)))))))))))
        refine wk_iceq r207_48 ⟨by omega, by omega⟩ (by decide) ?_ ?_
        · intro h2113
          refine wk_c1 r207_57 (wk_goto r207_58 (wk_is7 r207_62 rfl (wk_il6 r207_64 ?_)))
          refine wk_ifeq r207_66 ⟨by omega, by omega⟩ ?_ ?_
          · intro h2114
            exfalso
            omega
          · intro h2115
            refine wk_il6 r207_69 (wk_c1 r207_71 ?_)
            refine wk_iceq r207_72 ⟨by omega, by omega⟩ (by decide) ?_ ?_
            · intro h2116
              exfalso
              omega
            · intro h2117
              refine wk_il6 r207_75 (wk_c2 r207_77 ?_)
              refine wk_icne r207_79 ⟨by omega, by omega⟩ (by decide) ?_ ?_
              · intro h2118
                refine wk_il7 r207_134 ?_
                refine wk_ifeq r207_136 (by decide) ?_ ?_
                · intro h2119
                  refine wk_il7 r207_197 ?_
                  refine wk_ifne r207_199 (by decide) ?_ ?_
                  · intro h2120
                    refine wk_inc4 r207_249 rfl (wk_goto r207_252 ?_)
                    exact wp_fg (le_s (le_s (le_s (le_s (le_s (le_n (le_n (le_n (le_s (le_s le_0)))))))))) (ih2332 (256 - (v2083 + 1)).toNat (by omega) M2086 v2080 (v2083 + 1) rfl hP2087 hF2088 (by omega) (by omega) (by omega) (by omega) (by omega))
                  · intro h2121
                    refine wk_il3 r207_202 ?_
                    refine wk_ifle r207_203 ⟨by omega, by omega⟩ ?_ ?_
                    · intro h2122
                      refine wk_inc4 r207_249 rfl (wk_goto r207_252 ?_)
                      exact wp_fg (le_s (le_s (le_s (le_s (le_s (le_n (le_n (le_n (le_s (le_s le_0)))))))))) (ih2332 (256 - (v2083 + 1)).toNat (by omega) M2086 v2080 (v2083 + 1) rfl hP2087 hF2088 (by omega) (by omega) (by omega) (by omega) (by omega))
                    · intro h2123
                      refine wk_al0 r207_206 (wk_getfr r207_207 fd_10_4 (br_10_4 hP2087) (wk_il3 r207_210 (wk_c1 r207_211 (wk_isub r207_212 (wk_laldb r207_213 ar_12 ⟨by omega, by omega⟩ (fun q0 q1 => ba_12 hP2087 q0 q1) (by decide) ?_)))))
                      intro n2124 h2126 h2127 e2125
                      refine wk_ls8 r207_214 rfl (wk_al0 r207_216 (wk_getfr r207_217 fd_10_4 (br_10_4 hP2087) (wk_il3 r207_220 (wk_c1 r207_221 (wk_isub r207_222 (wk_il6 r207_223 (wk_c1 r207_225 ?_)))))))
                      refine wk_icne r207_226 ⟨by omega, by omega⟩ (by decide) ?_ ?_
                      · intro h2128
                        have h2129 : (v2106 / 8) ≤ 6 := by omega
                        refine wk_al0 r207_238 (wk_il5 r207_239 (wk_c1 r207_241 (wk_ll8 r207_242 (wk_il2 r207_244 (wk_cv5 r207_245 kc_10_189 rfl (m189_10v8 _ M2086 (v2106 / 8) (-1) n2124 p2 hP2087 (by omega) (by omega) (by decide) (by decide) (by omega) (by omega) (by omega)) (cqL ?_))))))
                        rintro n2134 M2130 ⟨hP2131, hQ2132, h2135⟩
                        obtain rfl := Fr.same hQ2132
                        refine wk_last r207_248 ar_12 ⟨by omega, by omega⟩ (wk_nw (ga_12 _) rfl hP2087 hF2088 (ua_12 ⟨by omega, by omega⟩) ?_)
                        intro M2136 hP2137 hF2138 e2139
                        refine wk_inc4 r207_249 rfl (wk_goto r207_252 ?_)
                        exact wp_fg (le_s (le_s (le_s (le_s (le_s (le_n (le_n (le_n (le_n (le_s le_0)))))))))) (ih2332 (256 - (v2083 + 1)).toNat (by omega) M2136 v2080 (v2083 + 1) rfl hP2137 hF2138 (by omega) (by omega) (by omega) (by omega) (by omega))
                      · intro h2140
                        exfalso
                        omega
                · intro h2141
                  refine wk_il3 r207_139 (wk_c1 r207_140 ?_)
                  refine wk_icle r207_141 ⟨by omega, by omega⟩ (by decide) ?_ ?_
                  · intro h2142
                    refine wk_il7 r207_197 ?_
                    refine wk_ifne r207_199 (by decide) ?_ ?_
                    · intro h2143
                      refine wk_inc4 r207_249 rfl (wk_goto r207_252 ?_)
                      exact wp_fg (le_s (le_s (le_s (le_s (le_s (le_n (le_n (le_n (le_s (le_s le_0)))))))))) (ih2332 (256 - (v2083 + 1)).toNat (by omega) M2086 v2080 (v2083 + 1) rfl hP2087 hF2088 (by omega) (by omega) (by omega) (by omega) (by omega))
                    · intro h2144
                      refine wk_il3 r207_202 ?_
                      refine wk_ifle r207_203 ⟨by omega, by omega⟩ ?_ ?_
                      · intro h2145
                        refine wk_inc4 r207_249 rfl (wk_goto r207_252 ?_)
                        exact wp_fg (le_s (le_s (le_s (le_s (le_s (le_n (le_n (le_n (le_s (le_s le_0)))))))))) (ih2332 (256 - (v2083 + 1)).toNat (by omega) M2086 v2080 (v2083 + 1) rfl hP2087 hF2088 (by omega) (by omega) (by omega) (by omega) (by omega))
                      · intro h2146
                        refine wk_al0 r207_206 (wk_getfr r207_207 fd_10_4 (br_10_4 hP2087) (wk_il3 r207_210 (wk_c1 r207_211 (wk_isub r207_212 (wk_laldb r207_213 ar_12 ⟨by omega, by omega⟩ (fun q0 q1 => ba_12 hP2087 q0 q1) (by decide) ?_)))))
                        intro n2147 h2149 h2150 e2148
                        refine wk_ls8 r207_214 rfl (wk_al0 r207_216 (wk_getfr r207_217 fd_10_4 (br_10_4 hP2087) (wk_il3 r207_220 (wk_c1 r207_221 (wk_isub r207_222 (wk_il6 r207_223 (wk_c1 r207_225 ?_)))))))
                        refine wk_icne r207_226 ⟨by omega, by omega⟩ (by decide) ?_ ?_
                        · intro h2151
                          have h2152 : (v2106 / 8) ≤ 6 := by omega
                          refine wk_al0 r207_238 (wk_il5 r207_239 (wk_c1 r207_241 (wk_ll8 r207_242 (wk_il2 r207_244 (wk_cv5 r207_245 kc_10_189 rfl (m189_10v8 _ M2086 (v2106 / 8) (-1) n2147 p2 hP2087 (by omega) (by omega) (by decide) (by decide) (by omega) (by omega) (by omega)) (cqL ?_))))))
                          rintro n2157 M2153 ⟨hP2154, hQ2155, h2158⟩
                          obtain rfl := Fr.same hQ2155
                          refine wk_last r207_248 ar_12 ⟨by omega, by omega⟩ (wk_nw (ga_12 _) rfl hP2087 hF2088 (ua_12 ⟨by omega, by omega⟩) ?_)
                          intro M2159 hP2160 hF2161 e2162
                          refine wk_inc4 r207_249 rfl (wk_goto r207_252 ?_)
                          exact wp_fg (le_s (le_s (le_s (le_s (le_s (le_n (le_n (le_n (le_n (le_s le_0)))))))))) (ih2332 (256 - (v2083 + 1)).toNat (by omega) M2159 v2080 (v2083 + 1) rfl hP2160 hF2161 (by omega) (by omega) (by omega) (by omega) (by omega))
                        · intro h2163
                          exfalso
                          omega
                  · intro h2164
                    refine wk_inc3 r207_144 rfl (wk_al0 r207_147 (wk_getfr r207_148 fd_10_4 (br_10_4 hP2087) (wk_il3 r207_151 (wk_laldb r207_152 ar_12 ⟨by omega, by omega⟩ (fun q0 q1 => ba_12 hP2087 q0 q1) (by decide) ?_))))
                    intro n2165 h2167 h2168 e2166
                    refine wk_ls8 r207_153 rfl (wk_al0 r207_155 (wk_getfr r207_156 fd_10_4 (br_10_4 hP2087) (wk_il3 r207_159 (wk_c1 r207_160 (wk_isub r207_161 (wk_il6 r207_162 (wk_c1 r207_164 ?_)))))))
                    refine wk_icne r207_165 ⟨by omega, by omega⟩ (by decide) ?_ ?_
                    · intro h2169
                      exfalso
                      omega
                    · intro h2170
                      refine wk_al0 r207_168 (wk_getfr r207_169 fd_10_4 (br_10_4 hP2087) (wk_il3 r207_172 (wk_c1 r207_173 (wk_isub r207_174 (wk_laldb r207_175 ar_12 ⟨by omega, by omega⟩ (fun q0 q1 => ba_12 hP2087 q0 q1) (by decide) ?_)))))
                      intro n2171 h2173 h2174 e2172
                      refine wk_ll8 r207_176 (wk_land r207_178 ?_)
                      intro n2175 h2176 h2177 h2178 h2179
                      refine wk_goto r207_179 (wk_last r207_193 ar_12 ⟨by omega, by omega⟩ (wk_nw (ga_12 _) rfl hP2087 hF2088 (ua_12 ⟨by omega, by omega⟩) ?_))
                      intro M2180 hP2181 hF2182 e2183
                      refine wk_goto r207_194 (wk_inc4 r207_249 rfl (wk_goto r207_252 ?_))
                      exact wp_fg (le_s (le_s (le_s (le_s (le_s (le_n (le_n (le_n (le_n (le_s le_0)))))))))) (ih2332 (256 - (v2083 + 1)).toNat (by omega) M2180 (v2080 + (-1)) (v2083 + 1) rfl hP2181 hF2182 (by omega) (by omega) (by omega) (by omega) (by omega))
              · intro h2184
                exfalso
                omega
        · intro h2185
          refine wk_il6 r207_51 (wk_c1 r207_53 ?_)
          refine wk_icne r207_54 ⟨by omega, by omega⟩ (by decide) ?_ ?_
          · intro h2186
            refine wk_c1 r207_61 (wk_is7 r207_62 rfl (wk_il6 r207_64 ?_))
            refine wk_ifeq r207_66 ⟨by omega, by omega⟩ ?_ ?_
            · intro h2187
              refine wk_al0 r207_82 (wk_getfr r207_83 fd_10_4 (br_10_4 hP2087) (wk_il3 r207_86 (wk_il6 r207_87 ?_)))
              refine wk_ifne r207_89 ⟨by omega, by omega⟩ ?_ ?_
              · intro h2188
                exfalso
                omega
              · intro h2189
                refine wk_al0 r207_92 (wk_getfr r207_93 fd_10_0 (br_10_0 hP2087) (wk_il5 r207_96 (wk_raldb r207_98 ar_16 ⟨by omega, by omega⟩ (fun q0 q1 => ba_16 hP2087 q0 q1) (wk_il2 r207_99 (wk_laldb r207_100 (arF_17 (by omega) (by omega)) ⟨by omega, by omega⟩ (fun q0 q1 => baF_17 hP2087 (by omega) (by omega) q0 q1) (by decide) ?_)))))
                intro n2190 h2192 h2193 e2191
                refine wk_goto r207_101 (wk_last r207_127 ar_12 ⟨by omega, by omega⟩ (wk_nw (ga_12 _) rfl hP2087 hF2088 (ua_12 ⟨by omega, by omega⟩) ?_))
                intro M2194 hP2195 hF2196 e2197
                refine wk_inc3 r207_128 rfl (wk_goto r207_131 (wk_inc4 r207_249 rfl (wk_goto r207_252 ?_)))
                exact wp_fg (le_s (le_s (le_s (le_s (le_s (le_n (le_n (le_n (le_s (le_s le_0)))))))))) (ih2332 (256 - (v2083 + 1)).toNat (by omega) M2194 (v2080 + 1) (v2083 + 1) rfl hP2195 hF2196 (by omega) (by omega) (by omega) (by omega) (by omega))
            · intro h2198
              refine wk_il6 r207_69 (wk_c1 r207_71 ?_)
              refine wk_iceq r207_72 ⟨by omega, by omega⟩ (by decide) ?_ ?_
              · intro h2199
                refine wk_al0 r207_82 (wk_getfr r207_83 fd_10_4 (br_10_4 hP2087) (wk_il3 r207_86 (wk_il6 r207_87 ?_)))
                refine wk_ifne r207_89 ⟨by omega, by omega⟩ ?_ ?_
                · intro h2200
                  refine wk_il6 r207_104 (wk_c1 r207_106 ?_)
                  refine wk_icne r207_107 ⟨by omega, by omega⟩ (by decide) ?_ ?_
                  · intro h2201
                    exfalso
                    omega
                  · intro h2202
                    refine wk_al0 r207_110 (wk_il5 r207_111 (wk_il2 r207_113 (wk_cv3 r207_114 kc_10_185 rfl (m185_10v8 _ M2086 (v2106 / 8) p2 hP2087 (by omega) (by omega) (by omega) (by omega) (by first | assumption | omega | (unfold stepok; omega))) (cqL ?_))))
                    rintro n2207 M2203 ⟨hP2204, hQ2205, h2208⟩
                    obtain rfl := Fr.same hQ2205
                    refine wk_goto r207_117 (wk_last r207_127 ar_12 ⟨by omega, by omega⟩ (wk_nw (ga_12 _) rfl hP2087 hF2088 (ua_12 ⟨by omega, by omega⟩) ?_))
                    intro M2209 hP2210 hF2211 e2212
                    refine wk_inc3 r207_128 rfl (wk_goto r207_131 (wk_inc4 r207_249 rfl (wk_goto r207_252 ?_)))
                    exact wp_fg (le_s (le_s (le_s (le_s (le_s (le_n (le_n (le_n (le_s (le_s le_0)))))))))) (ih2332 (256 - (v2083 + 1)).toNat (by omega) M2209 (v2080 + 1) (v2083 + 1) rfl hP2210 hF2211 (by omega) (by omega) (by omega) (by omega) (by omega))
                · intro h2213
                  exfalso
                  omega
              · intro h2214
                refine wk_il6 r207_75 (wk_c2 r207_77 ?_)
                refine wk_icne r207_79 ⟨by omega, by omega⟩ (by decide) ?_ ?_
                · intro h2215
                  refine wk_il7 r207_134 ?_
                  refine wk_ifeq r207_136 (by decide) ?_ ?_
                  · intro h2216
                    refine wk_il7 r207_197 ?_
                    refine wk_ifne r207_199 (by decide) ?_ ?_
                    · intro h2217
                      exfalso
                      omega
                    · intro h2218
                      refine wk_il3 r207_202 ?_
                      refine wk_ifle r207_203 ⟨by omega, by omega⟩ ?_ ?_
                      · intro h2219
                        refine wk_inc4 r207_249 rfl (wk_goto r207_252 ?_)
                        exact wp_fg (le_s (le_s (le_s (le_s (le_s (le_n (le_n (le_n (le_s (le_s le_0)))))))))) (ih2332 (256 - (v2083 + 1)).toNat (by omega) M2086 v2080 (v2083 + 1) rfl hP2087 hF2088 (by omega) (by omega) (by omega) (by omega) (by omega))
                      · intro h2220
                        refine wk_al0 r207_206 (wk_getfr r207_207 fd_10_4 (br_10_4 hP2087) (wk_il3 r207_210 (wk_c1 r207_211 (wk_isub r207_212 (wk_laldb r207_213 ar_12 ⟨by omega, by omega⟩ (fun q0 q1 => ba_12 hP2087 q0 q1) (by decide) ?_)))))
                        intro n2221 h2223 h2224 e2222
                        refine wk_ls8 r207_214 rfl (wk_al0 r207_216 (wk_getfr r207_217 fd_10_4 (br_10_4 hP2087) (wk_il3 r207_220 (wk_c1 r207_221 (wk_isub r207_222 (wk_il6 r207_223 (wk_c1 r207_225 ?_)))))))
                        refine wk_icne r207_226 ⟨by omega, by omega⟩ (by decide) ?_ ?_
                        · intro h2225
                          have h2226 : (v2106 / 8) ≤ 6 := by omega
                          refine wk_al0 r207_238 (wk_il5 r207_239 (wk_c1 r207_241 (wk_ll8 r207_242 (wk_il2 r207_244 (wk_cv5 r207_245 kc_10_189 rfl (m189_10v8 _ M2086 (v2106 / 8) (-1) n2221 p2 hP2087 (by omega) (by omega) (by decide) (by decide) (by omega) (by omega) (by omega)) (cqL ?_))))))
                          rintro n2231 M2227 ⟨hP2228, hQ2229, h2232⟩
                          obtain rfl := Fr.same hQ2229
                          refine wk_last r207_248 ar_12 ⟨by omega, by omega⟩ (wk_nw (ga_12 _) rfl hP2087 hF2088 (ua_12 ⟨by omega, by omega⟩) ?_)
                          intro M2233 hP2234 hF2235 e2236
                          refine wk_inc4 r207_249 rfl (wk_goto r207_252 ?_)
                          exact wp_fg (le_s (le_s (le_s (le_s (le_s (le_n (le_n (le_n (le_n (le_s le_0)))))))))) (ih2332 (256 - (v2083 + 1)).toNat (by omega) M2233 v2080 (v2083 + 1) rfl hP2234 hF2235 (by omega) (by omega) (by omega) (by omega) (by omega))
                        · intro h2237
                          refine wk_ll8 r207_229 (wk_c7 r207_231 (wk_lxor r207_234 ?_))
                          intro n2238 h2239 h2240
                          refine wk_goto r207_235 (wk_last r207_248 ar_12 ⟨by omega, by omega⟩ (wk_nw (ga_12 _) rfl hP2087 hF2088 (ua_12 ⟨by omega, by omega⟩) ?_))
                          intro M2241 hP2242 hF2243 e2244
                          refine wk_inc4 r207_249 rfl (wk_goto r207_252 ?_)
                          exact wp_fg (le_s (le_s (le_s (le_s (le_s (le_n (le_n (le_n (le_n (le_s le_0)))))))))) (ih2332 (256 - (v2083 + 1)).toNat (by omega) M2241 v2080 (v2083 + 1) rfl hP2242 hF2243 (by omega) (by omega) (by omega) (by omega) (by omega))
                  · intro h2245
                    exfalso
                    omega
                · intro h2246
                  refine wk_al0 r207_82 (wk_getfr r207_83 fd_10_4 (br_10_4 hP2087) (wk_il3 r207_86 (wk_il6 r207_87 ?_)))
                  refine wk_ifne r207_89 ⟨by omega, by omega⟩ ?_ ?_
                  · intro h2247
                    refine wk_il6 r207_104 (wk_c1 r207_106 ?_)
                    refine wk_icne r207_107 ⟨by omega, by omega⟩ (by decide) ?_ ?_
                    · intro h2248
                      refine wk_al0 r207_120 (wk_il5 r207_121 (wk_il2 r207_123 (wk_cv3 r207_124 kc_10_198 rfl (m198_10v8 _ M2086 (v2106 / 8) p2 hP2087 (by omega) (by omega) (by omega) (by omega)) (cqL ?_))))
                      rintro n2253 M2249 ⟨hP2250, hQ2251, h2254⟩
                      obtain rfl := Fr.same hQ2251
                      refine wk_last r207_127 ar_12 ⟨by omega, by omega⟩ (wk_nw (ga_12 _) rfl hP2087 hF2088 (ua_12 ⟨by omega, by omega⟩) ?_)
                      intro M2255 hP2256 hF2257 e2258
                      refine wk_inc3 r207_128 rfl (wk_goto r207_131 (wk_inc4 r207_249 rfl (wk_goto r207_252 ?_)))
                      exact wp_fg (le_s (le_s (le_s (le_s (le_s (le_n (le_n (le_n (le_s (le_s le_0)))))))))) (ih2332 (256 - (v2083 + 1)).toNat (by omega) M2255 (v2080 + 1) (v2083 + 1) rfl hP2256 hF2257 (by omega) (by omega) (by omega) (by omega) (by omega))
                    · intro h2259
                      exfalso
                      omega
                  · intro h2260
                    exfalso
                    omega
          · intro h2261
            refine wk_c1 r207_57 (wk_goto r207_58 (wk_is7 r207_62 rfl (wk_il6 r207_64 ?_)))
            refine wk_ifeq r207_66 ⟨by omega, by omega⟩ ?_ ?_
            · intro h2262
              exfalso
              omega
            · intro h2263
              refine wk_il6 r207_69 (wk_c1 r207_71 ?_)
              refine wk_iceq r207_72 ⟨by omega, by omega⟩ (by decide) ?_ ?_
              · intro h2264
                exfalso
                omega
              · intro h2265
                refine wk_il6 r207_75 (wk_c2 r207_77 ?_)
                refine wk_icne r207_79 ⟨by omega, by omega⟩ (by decide) ?_ ?_
                · intro h2266
                  refine wk_il7 r207_134 ?_
                  refine wk_ifeq r207_136 (by decide) ?_ ?_
                  · intro h2267
                    refine wk_il7 r207_197 ?_
                    refine wk_ifne r207_199 (by decide) ?_ ?_
                    · intro h2268
                      refine wk_inc4 r207_249 rfl (wk_goto r207_252 ?_)
                      exact wp_fg (le_s (le_s (le_s (le_s (le_s (le_n (le_n (le_n (le_s (le_s le_0)))))))))) (ih2332 (256 - (v2083 + 1)).toNat (by omega) M2086 v2080 (v2083 + 1) rfl hP2087 hF2088 (by omega) (by omega) (by omega) (by omega) (by omega))
                    · intro h2269
                      refine wk_il3 r207_202 ?_
                      refine wk_ifle r207_203 ⟨by omega, by omega⟩ ?_ ?_
                      · intro h2270
                        refine wk_inc4 r207_249 rfl (wk_goto r207_252 ?_)
                        exact wp_fg (le_s (le_s (le_s (le_s (le_s (le_n (le_n (le_n (le_s (le_s le_0)))))))))) (ih2332 (256 - (v2083 + 1)).toNat (by omega) M2086 v2080 (v2083 + 1) rfl hP2087 hF2088 (by omega) (by omega) (by omega) (by omega) (by omega))
                      · intro h2271
                        refine wk_al0 r207_206 (wk_getfr r207_207 fd_10_4 (br_10_4 hP2087) (wk_il3 r207_210 (wk_c1 r207_211 (wk_isub r207_212 (wk_laldb r207_213 ar_12 ⟨by omega, by omega⟩ (fun q0 q1 => ba_12 hP2087 q0 q1) (by decide) ?_)))))
                        intro n2272 h2274 h2275 e2273
                        refine wk_ls8 r207_214 rfl (wk_al0 r207_216 (wk_getfr r207_217 fd_10_4 (br_10_4 hP2087) (wk_il3 r207_220 (wk_c1 r207_221 (wk_isub r207_222 (wk_il6 r207_223 (wk_c1 r207_225 ?_)))))))
                        refine wk_icne r207_226 ⟨by omega, by omega⟩ (by decide) ?_ ?_
                        · intro h2276
                          have h2277 : (v2106 / 8) ≤ 6 := by omega
                          refine wk_al0 r207_238 (wk_il5 r207_239 (wk_c1 r207_241 (wk_ll8 r207_242 (wk_il2 r207_244 (wk_cv5 r207_245 kc_10_189 rfl (m189_10v8 _ M2086 (v2106 / 8) (-1) n2272 p2 hP2087 (by omega) (by omega) (by decide) (by decide) (by omega) (by omega) (by omega)) (cqL ?_))))))
                          rintro n2282 M2278 ⟨hP2279, hQ2280, h2283⟩
                          obtain rfl := Fr.same hQ2280
                          refine wk_last r207_248 ar_12 ⟨by omega, by omega⟩ (wk_nw (ga_12 _) rfl hP2087 hF2088 (ua_12 ⟨by omega, by omega⟩) ?_)
                          intro M2284 hP2285 hF2286 e2287
                          refine wk_inc4 r207_249 rfl (wk_goto r207_252 ?_)
                          exact wp_fg (le_s (le_s (le_s (le_s (le_s (le_n (le_n (le_n (le_n (le_s le_0)))))))))) (ih2332 (256 - (v2083 + 1)).toNat (by omega) M2284 v2080 (v2083 + 1) rfl hP2285 hF2286 (by omega) (by omega) (by omega) (by omega) (by omega))
                        · intro h2288
                          exfalso
                          omega
                  · intro h2289
                    refine wk_il3 r207_139 (wk_c1 r207_140 ?_)
                    refine wk_icle r207_141 ⟨by omega, by omega⟩ (by decide) ?_ ?_
                    · intro h2290
                      refine wk_il7 r207_197 ?_
                      refine wk_ifne r207_199 (by decide) ?_ ?_
                      · intro h2291
                        refine wk_inc4 r207_249 rfl (wk_goto r207_252 ?_)
                        exact wp_fg (le_s (le_s (le_s (le_s (le_s (le_n (le_n (le_n (le_s (le_s le_0)))))))))) (ih2332 (256 - (v2083 + 1)).toNat (by omega) M2086 v2080 (v2083 + 1) rfl hP2087 hF2088 (by omega) (by omega) (by omega) (by omega) (by omega))
                      · intro h2292
                        refine wk_il3 r207_202 ?_
                        refine wk_ifle r207_203 ⟨by omega, by omega⟩ ?_ ?_
                        · intro h2293
                          refine wk_inc4 r207_249 rfl (wk_goto r207_252 ?_)
                          exact wp_fg (le_s (le_s (le_s (le_s (le_s (le_n (le_n (le_n (le_s (le_s le_0)))))))))) (ih2332 (256 - (v2083 + 1)).toNat (by omega) M2086 v2080 (v2083 + 1) rfl hP2087 hF2088 (by omega) (by omega) (by omega) (by omega) (by omega))
                        · intro h2294
                          refine wk_al0 r207_206 (wk_getfr r207_207 fd_10_4 (br_10_4 hP2087) (wk_il3 r207_210 (wk_c1 r207_211 (wk_isub r207_212 (wk_laldb r207_213 ar_12 ⟨by omega, by omega⟩ (fun q0 q1 => ba_12 hP2087 q0 q1) (by decide) ?_)))))
                          intro n2295 h2297 h2298 e2296
                          refine wk_ls8 r207_214 rfl (wk_al0 r207_216 (wk_getfr r207_217 fd_10_4 (br_10_4 hP2087) (wk_il3 r207_220 (wk_c1 r207_221 (wk_isub r207_222 (wk_il6 r207_223 (wk_c1 r207_225 ?_)))))))
                          refine wk_icne r207_226 ⟨by omega, by omega⟩ (by decide) ?_ ?_
                          · intro h2299
                            have h2300 : (v2106 / 8) ≤ 6 := by omega
                            refine wk_al0 r207_238 (wk_il5 r207_239 (wk_c1 r207_241 (wk_ll8 r207_242 (wk_il2 r207_244 (wk_cv5 r207_245 kc_10_189 rfl (m189_10v8 _ M2086 (v2106 / 8) (-1) n2295 p2 hP2087 (by omega) (by omega) (by decide) (by decide) (by omega) (by omega) (by omega)) (cqL ?_))))))
                            rintro n2305 M2301 ⟨hP2302, hQ2303, h2306⟩
                            obtain rfl := Fr.same hQ2303
                            refine wk_last r207_248 ar_12 ⟨by omega, by omega⟩ (wk_nw (ga_12 _) rfl hP2087 hF2088 (ua_12 ⟨by omega, by omega⟩) ?_)
                            intro M2307 hP2308 hF2309 e2310
                            refine wk_inc4 r207_249 rfl (wk_goto r207_252 ?_)
                            exact wp_fg (le_s (le_s (le_s (le_s (le_s (le_n (le_n (le_n (le_n (le_s le_0)))))))))) (ih2332 (256 - (v2083 + 1)).toNat (by omega) M2307 v2080 (v2083 + 1) rfl hP2308 hF2309 (by omega) (by omega) (by omega) (by omega) (by omega))
                          · intro h2311
                            exfalso
                            omega
                    · intro h2312
                      refine wk_inc3 r207_144 rfl (wk_al0 r207_147 (wk_getfr r207_148 fd_10_4 (br_10_4 hP2087) (wk_il3 r207_151 (wk_laldb r207_152 ar_12 ⟨by omega, by omega⟩ (fun q0 q1 => ba_12 hP2087 q0 q1) (by decide) ?_))))
                      intro n2313 h2315 h2316 e2314
                      refine wk_ls8 r207_153 rfl (wk_al0 r207_155 (wk_getfr r207_156 fd_10_4 (br_10_4 hP2087) (wk_il3 r207_159 (wk_c1 r207_160 (wk_isub r207_161 (wk_il6 r207_162 (wk_c1 r207_164 ?_)))))))
                      refine wk_icne r207_165 ⟨by omega, by omega⟩ (by decide) ?_ ?_
                      · intro h2317
                        refine wk_al0 r207_182 (wk_getfr r207_183 fd_10_4 (br_10_4 hP2087) (wk_il3 r207_186 (wk_c1 r207_187 (wk_isub r207_188 (wk_laldb r207_189 ar_12 ⟨by omega, by omega⟩ (fun q0 q1 => ba_12 hP2087 q0 q1) (by decide) ?_)))))
                        intro n2318 h2320 h2321 e2319
                        refine wk_ll8 r207_190 (wk_lorb r207_192 ?_)
                        intro n2322 h2323 h2324 h2325
                        refine wk_last r207_193 ar_12 ⟨by omega, by omega⟩ (wk_nw (ga_12 _) rfl hP2087 hF2088 (ua_12 ⟨by omega, by omega⟩) ?_)
                        intro M2326 hP2327 hF2328 e2329
                        refine wk_goto r207_194 (wk_inc4 r207_249 rfl (wk_goto r207_252 ?_))
                        exact wp_fg (le_s (le_s (le_s (le_s (le_s (le_n (le_n (le_n (le_n (le_s le_0)))))))))) (ih2332 (256 - (v2083 + 1)).toNat (by omega) M2326 (v2080 + (-1)) (v2083 + 1) rfl hP2327 hF2328 (by omega) (by omega) (by omega) (by omega) (by omega))
                      · intro h2330
                        exfalso
                        omega
                · intro h2331
                  exfalso
                  omega
  exact wp_fg (le_s (le_s (le_s (le_s (le_s (le_s (le_s (le_s (le_s (le_s le_0)))))))))) (c5_2332 _ M0 0 0 rfl hP0 hF0 (by omega) (by omega) (by omega) (by omega) (by omega))
