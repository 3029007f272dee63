/-! ===== written by program (wip/layer2/all.py): contracts of methods ===== -/
def fm_m157_6v4 : Nat := 3941070043873280
/-- IslandHall$Parser.conjunction -/
theorem m157_6v4 {B : eB} (d : Nat) (M0 : Mm) (p1 : Int) (hP0 : Pw M0) (l1 : 4 ≤ p1) (u1 : p1 ≤ 4) : Ct B (d + 15) 157 [R 6, I p1] M0 (qI fun z M => Pw M ∧ Fr fm_m157_6v4 M0 M ∧ 0 ≤ z ∧ z ≤ 1) := by
  refine ct_of (d := d + 14) (k := 1) (L := [some (R 6), some (I p1), none]) rfl rfl rfl ?_
  have hF0 := Fr.rf fm_m157_6v4 M0
  generalize hQ : (qI fun z M => Pw M ∧ Fr fm_m157_6v4 M0 M ∧ 0 ≤ z ∧ z ≤ 1) = Q
  refine wk_al0 r157_0 (wk_il1 r157_1 (wk_cv2 r157_2 kc_6_166 rfl (m166_6v4 _ M0 p1 hP0 (by omega) (by omega)) (cqI ?_)))
  rintro v5 M1 ⟨hP2, hQ3, h6, h7⟩
  have hF4 : Fr fm_m157_6v4 M0 M1 := hF0.tr hQ3 rfl
  refine wk_ifne r157_5 ⟨by omega, by omega⟩ ?_ ?_
  · intro h8
    refine wk_c1 r157_10 (wk_is2 r157_11 rfl ?_)
    have c12_359 : ∀ (k359 : Nat) (M327 : Mm) (v324 : Int), (500 - v324).toNat = k359 → Pw M327 → Fr fm_m157_6v4 M0 M327 → 0 ≤ v324 → v324 ≤ 500 → Wp B (d + 14) 157 12 [some (R 6), some (I p1), some (I v324)] [] M327 Q := by
      refine lp_ind ?_
      intro k359 ih359 M327 v324 hk359 hP328 hF329 h325 h326
      refine wk_il2 r157_12 (wk_c3 r157_13 ?_)
      refine wk_icge r157_16 ⟨by omega, by omega⟩ (by decide) ?_ ?_
      · intro h330
        refine wk_c1 r157_53 ?_
        subst hQ; exact wk_zret r157_54 (by decide) (⟨rfl, _, rfl, hP328, hF329, by omega, by omega⟩)
      · intro h331
        refine wk_al0 r157_19 (wk_c8 r157_20 (wk_cv2 r157_22 kc_6_175 rfl (m175_6 _ M327 4125 hP328 (by decide)) (cqI ?_)))
        rintro v336 M332 ⟨hP333, hQ334, h337, h338⟩
        have hF335 : Fr fm_m157_6v4 M0 M332 := hF329.tr hQ334 rfl
        refine wk_ifeq r157_25 ⟨by omega, by omega⟩ ?_ ?_
        · intro h339
          refine wk_c1 r157_53 ?_
          subst hQ; exact wk_zret r157_54 (by decide) (⟨rfl, _, rfl, hP333, hF335, by omega, by omega⟩)
        · intro h340
          refine wk_al0 r157_28 (wk_il1 r157_29 (wk_cv2 r157_30 kc_6_166 rfl (m166_6v4 _ M332 p1 hP333 (by omega) (by omega)) (cqI ?_)))
          rintro v345 M341 ⟨hP342, hQ343, h346, h347⟩
          have hF344 : Fr fm_m157_6v4 M0 M341 := hF335.tr hQ343 rfl
          refine wk_ifeq r157_33 ⟨by omega, by omega⟩ ?_ ?_
          · intro h348
            refine wk_c1 r157_45 ?_
            subst hQ; exact wk_zret r157_46 (by decide) (⟨rfl, _, rfl, hP342, hF344, by omega, by omega⟩)
          · intro h349
            refine wk_al0 r157_36 (wk_c1 r157_37 (wk_c1 r157_38 (wk_cv3 r157_39 kc_6_172 rfl (m172_6 _ M341 2 0 hP342 (by decide) (by decide) (by decide) (by decide) (by first | assumption | omega | (unfold stepok; omega))) (cqI ?_))))
            rintro v354 M350 ⟨hP351, hQ352, h355, h356⟩
            have hF353 : Fr fm_m157_6v4 M0 M350 := hF344.tr hQ352 rfl
            refine wk_ifne r157_42 ⟨by omega, by omega⟩ ?_ ?_
            · intro h357
              refine wk_inc2 r157_47 rfl (wk_goto r157_50 ?_)
              exact wp_fg (le_s (le_s (le_s le_0))) (ih359 (500 - (v324 + 1)).toNat (by omega) M350 (v324 + 1) rfl hP351 hF353 (by omega) (by omega))
            · intro h358
              exfalso
              omega
    exact wp_fg (le_s (le_s (le_s le_0))) (c12_359 _ M1 0 rfl hP2 hF4 (by omega) (by omega))
  · intro h360
    refine wk_c1 r157_8 ?_
    subst hQ; exact wk_zret r157_9 (by decide) (⟨rfl, _, rfl, hP2, hF4, by omega, by omega⟩)
def fm_m158_6v4 : Nat := 3941070043873280
/-- IslandHall$Parser.expr -/
theorem m158_6v4 {B : eB} (d : Nat) (M0 : Mm) (p1 : Int) (hP0 : Pw M0) (l1 : 4 ≤ p1) (u1 : p1 ≤ 4) : Ct B (d + 16) 158 [R 6, I p1] M0 (qI fun z M => Pw M ∧ Fr fm_m158_6v4 M0 M ∧ 0 ≤ z ∧ z ≤ 1) := by
  refine ct_of (d := d + 15) (k := 1) (L := [some (R 6), some (I p1), none]) rfl rfl rfl ?_
  have hF0 := Fr.rf fm_m158_6v4 M0
  generalize hQ : (qI fun z M => Pw M ∧ Fr fm_m158_6v4 M0 M ∧ 0 ≤ z ∧ z ≤ 1) = Q
  refine wk_al0 r158_0 (wk_cv1 r158_1 kc_6_155 rfl (m155_6 _ M0 hP0) (cqI ?_))
  rintro v5 M1 ⟨hP2, hQ3, h6, h7⟩
  obtain rfl := Fr.same hQ3
  refine wk_ifne r158_4 ⟨by omega, by omega⟩ ?_ ?_
  · intro h8
    refine wk_il1 r158_13 (wk_c2 r158_14 ?_)
    refine wk_iclt r158_16 ⟨by omega, by omega⟩ (by decide) ?_ ?_
    · intro h9
      refine wk_al0 r158_25 (wk_il1 r158_26 (wk_cv2 r158_27 kc_6_157 rfl (m157_6v4 _ M0 p1 hP0 (by omega) (by omega)) (cqI ?_)))
      rintro v14 M10 ⟨hP11, hQ12, h15, h16⟩
      have hF13 : Fr fm_m158_6v4 M0 M10 := hF0.tr hQ12 rfl
      refine wk_ifne r158_30 ⟨by omega, by omega⟩ ?_ ?_
      · intro h17
        refine wk_c1 r158_35 (wk_is2 r158_36 rfl ?_)
        have c37_368 : ∀ (k368 : Nat) (M336 : Mm) (v333 : Int), (500 - v333).toNat = k368 → Pw M336 → Fr fm_m158_6v4 M0 M336 → 0 ≤ v333 → v333 ≤ 500 → Wp B (d + 15) 158 37 [some (R 6), some (I p1), some (I v333)] [] M336 Q := by
          refine lp_ind ?_
          intro k368 ih368 M336 v333 hk368 hP337 hF338 h334 h335
          refine wk_il2 r158_37 (wk_c3 r158_38 ?_)
          refine wk_icge r158_41 ⟨by omega, by omega⟩ (by decide) ?_ ?_
          · intro h339
            refine wk_c1 r158_78 ?_
            subst hQ; exact wk_zret r158_79 (by decide) (⟨rfl, _, rfl, hP337, hF338, by omega, by omega⟩)
          · intro h340
            refine wk_al0 r158_44 (wk_c8 r158_45 (wk_cv2 r158_47 kc_6_175 rfl (m175_6 _ M336 4126 hP337 (by decide)) (cqI ?_)))
            rintro v345 M341 ⟨hP342, hQ343, h346, h347⟩
            have hF344 : Fr fm_m158_6v4 M0 M341 := hF338.tr hQ343 rfl
            refine wk_ifeq r158_50 ⟨by omega, by omega⟩ ?_ ?_
            · intro h348
              refine wk_c1 r158_78 ?_
              subst hQ; exact wk_zret r158_79 (by decide) (⟨rfl, _, rfl, hP342, hF344, by omega, by omega⟩)
            · intro h349
              refine wk_al0 r158_53 (wk_il1 r158_54 (wk_cv2 r158_55 kc_6_157 rfl (m157_6v4 _ M341 p1 hP342 (by omega) (by omega)) (cqI ?_)))
              rintro v354 M350 ⟨hP351, hQ352, h355, h356⟩
              have hF353 : Fr fm_m158_6v4 M0 M350 := hF344.tr hQ352 rfl
              refine wk_ifeq r158_58 ⟨by omega, by omega⟩ ?_ ?_
              · intro h357
                refine wk_c1 r158_70 ?_
                subst hQ; exact wk_zret r158_71 (by decide) (⟨rfl, _, rfl, hP351, hF353, by omega, by omega⟩)
              · intro h358
                refine wk_al0 r158_61 (wk_c1 r158_62 (wk_c1 r158_63 (wk_cv3 r158_64 kc_6_172 rfl (m172_6 _ M350 3 0 hP351 (by decide) (by decide) (by decide) (by decide) (by first | assumption | omega | (unfold stepok; omega))) (cqI ?_))))
                rintro v363 M359 ⟨hP360, hQ361, h364, h365⟩
                have hF362 : Fr fm_m158_6v4 M0 M359 := hF353.tr hQ361 rfl
                refine wk_ifne r158_67 ⟨by omega, by omega⟩ ?_ ?_
                · intro h366
                  refine wk_inc2 r158_72 rfl (wk_goto r158_75 ?_)
                  exact wp_fg (le_s (le_s (le_s le_0))) (ih368 (500 - (v333 + 1)).toNat (by omega) M359 (v333 + 1) rfl hP360 hF362 (by omega) (by omega))
                · intro h367
                  exfalso
                  omega
        exact wp_fg (le_s (le_s (le_s le_0))) (c37_368 _ M10 0 rfl hP11 hF13 (by omega) (by omega))
      · intro h369
        refine wk_c1 r158_33 ?_
        subst hQ; exact wk_zret r158_34 (by decide) (⟨rfl, _, rfl, hP11, hF13, by omega, by omega⟩)
    · intro h370
      exfalso
      omega
  · intro h371
    refine wk_al0 r158_7 (wk_c1 r158_8 (wk_cv2 r158_9 kc_6_159 rfl (m159_6 _ M0 1 hP0 (by decide) (by decide)) (cqI ?_)))
    rintro v376 M372 ⟨hP373, hQ374, h377, h378⟩
    have hF375 : Fr fm_m158_6v4 M0 M372 := hF0.tr hQ374 rfl
    subst hQ; exact wk_zret r158_12 ⟨by omega, by omega⟩ (⟨rfl, _, rfl, hP373, hF375, by omega, by omega⟩)
def fm_m168_6v3 : Nat := 3941070043873280
/-- IslandHall$Parser.parenthesis -/
theorem m168_6v3 {B : eB} (d : Nat) (M0 : Mm) (p1 : Int) (hP0 : Pw M0) (l1 : 3 ≤ p1) (u1 : p1 ≤ 3) : Ct B (d + 17) 168 [R 6, I p1] M0 (qI fun z M => Pw M ∧ Fr fm_m168_6v3 M0 M ∧ 0 ≤ z ∧ z ≤ 1) := by
  refine ct_of (d := d + 16) (k := 0) (L := [some (R 6), some (I p1)]) rfl rfl rfl ?_
  have hF0 := Fr.rf fm_m168_6v3 M0
  generalize hQ : (qI fun z M => Pw M ∧ Fr fm_m168_6v3 M0 M ∧ 0 ≤ z ∧ z ≤ 1) = Q
  refine wk_al0 r168_0 (wk_c2 r168_1 (wk_cv2 r168_3 kc_6_174 rfl (m174_6 _ M0 40 hP0 (by decide) (by decide)) (cqI ?_)))
  rintro v5 M1 ⟨hP2, hQ3, h6, h7⟩
  have hF4 : Fr fm_m168_6v3 M0 M1 := hF0.tr hQ3 rfl
  refine wk_ifeq r168_6 ⟨by omega, by omega⟩ ?_ ?_
  · intro h8
    refine wk_c1 r168_32 ?_
    subst hQ; exact wk_zret r168_33 (by decide) (⟨rfl, _, rfl, hP2, hF4, by omega, by omega⟩)
  · intro h9
    refine wk_al0 r168_9 (wk_il1 r168_10 (wk_c1 r168_11 (wk_iadd r168_12 (wk_cv2 r168_13 kc_6_158 rfl (m158_6v4 _ M1 (p1 + 1) hP2 (by omega) (by omega)) (cqI ?_)))))
    rintro v14 M10 ⟨hP11, hQ12, h15, h16⟩
    have hF13 : Fr fm_m168_6v3 M0 M10 := hF4.tr hQ12 rfl
    refine wk_ifeq r168_16 ⟨by omega, by omega⟩ ?_ ?_
    · intro h17
      refine wk_c1 r168_32 ?_
      subst hQ; exact wk_zret r168_33 (by decide) (⟨rfl, _, rfl, hP11, hF13, by omega, by omega⟩)
    · intro h18
      refine wk_al0 r168_19 (wk_c2 r168_20 (wk_cv2 r168_22 kc_6_174 rfl (m174_6v1 _ M10 41 hP11 (by decide) (by decide)) (cqI ?_)))
      rintro v23 M19 ⟨hP20, hQ21, h24, h25⟩
      have hF22 : Fr fm_m168_6v3 M0 M19 := hF13.tr hQ21 rfl
      refine wk_ifeq r168_25 ⟨by omega, by omega⟩ ?_ ?_
      · intro h26
        refine wk_c1 r168_32 ?_
        subst hQ; exact wk_zret r168_33 (by decide) (⟨rfl, _, rfl, hP20, hF22, by omega, by omega⟩)
      · intro h27
        refine wk_c1 r168_28 (wk_goto r168_29 ?_)
        subst hQ; exact wk_zret r168_33 (by decide) (⟨rfl, _, rfl, hP20, hF22, by omega, by omega⟩)
def fm_m152_6v3 : Nat := 3941070043873280
/-- IslandHall$Parser.aboutSomeone -/
theorem m152_6v3 {B : eB} (d : Nat) (M0 : Mm) (p1 : Int) (hP0 : Pw M0) (l1 : 3 ≤ p1) (u1 : p1 ≤ 3) : Ct B (d + 18) 152 [R 6, I p1] M0 (qI fun z M => Pw M ∧ Fr fm_m152_6v3 M0 M ∧ 0 ≤ z ∧ z ≤ 1) := by
  refine ct_of (d := d + 17) (k := 2) (L := [some (R 6), some (I p1), none, none]) rfl rfl rfl ?_
  have hF0 := Fr.rf fm_m152_6v3 M0
  generalize hQ : (qI fun z M => Pw M ∧ Fr fm_m152_6v3 M0 M ∧ 0 ≤ z ∧ z ≤ 1) = Q
  refine wk_al0 r152_0 (wk_cv1 r152_1 kc_6_165 rfl (m165_6 _ M0 hP0) (cqI ?_))
  rintro v5 M1 ⟨hP2, hQ3, h6, h7⟩
  have hF4 : Fr fm_m152_6v3 M0 M1 := hF0.tr hQ3 rfl
  refine wk_is2 r152_4 rfl (wk_il2 r152_5 (wk_c1 r152_6 ?_))
  refine wk_icne r152_7 ⟨by omega, by omega⟩ (by decide) ?_ ?_
  · intro h8
    refine wk_al0 r152_12 (wk_c8 r152_13 (wk_cv2 r152_15 kc_6_175 rfl (m175_6 _ M1 4111 hP2 (by decide)) (cqI ?_)))
    rintro v13 M9 ⟨hP10, hQ11, h14, h15⟩
    have hF12 : Fr fm_m152_6v3 M0 M9 := hF4.tr hQ11 rfl
    refine wk_ifeq r152_18 ⟨by omega, by omega⟩ ?_ ?_
    · intro h16
      refine wk_al0 r152_35 (wk_c8 r152_36 (wk_cv2 r152_38 kc_6_175 rfl (m175_6 _ M9 4112 hP10 (by decide)) (cqI ?_)))
      rintro v21 M17 ⟨hP18, hQ19, h22, h23⟩
      have hF20 : Fr fm_m152_6v3 M0 M17 := hF12.tr hQ19 rfl
      refine wk_ifeq r152_41 ⟨by omega, by omega⟩ ?_ ?_
      · intro h24
        refine wk_al0 r152_73 (wk_c8 r152_74 (wk_cv2 r152_76 kc_6_175 rfl (m175_6 _ M17 4113 hP18 (by decide)) (cqI ?_)))
        rintro v29 M25 ⟨hP26, hQ27, h30, h31⟩
        have hF28 : Fr fm_m152_6v3 M0 M25 := hF20.tr hQ27 rfl
        refine wk_ifne r152_79 ⟨by omega, by omega⟩ ?_ ?_
        · intro h32
          refine wk_al0 r152_88 (wk_il1 r152_89 (wk_cv2 r152_90 kc_6_168 rfl (m168_6v3 _ M25 p1 hP26 (by omega) (by omega)) (cqI ?_)))
          rintro v37 M33 ⟨hP34, hQ35, h38, h39⟩
          have hF36 : Fr fm_m152_6v3 M0 M33 := hF28.tr hQ35 rfl
          refine wk_ifne r152_93 ⟨by omega, by omega⟩ ?_ ?_
          · intro h40
            refine wk_al0 r152_98 ?_
            obtain ⟨v41, e42⟩ : ∃ v, M33 6 2 = v := ⟨_, rfl⟩
            have hC43 : isC v41 := by have := pcE hP34; rw [e42] at this; exact this
            refine wk_getfr r152_99 fd_6_2 e42 (wk_il2 r152_102 (wk_cv2 r152_103 (kcC_139 hC43) rfl (m139 _ M33 v41 v5 hP34 hC43 (by omega) (by omega)) (cqV ?_)))
            rintro M44 ⟨hP45, hQ46⟩
            have hF47 : Fr fm_m152_6v3 M0 M44 := hF36.tr hQ46 rfl
            refine wk_c1 r152_106 ?_
            subst hQ; exact wk_zret r152_107 (by decide) (⟨rfl, _, rfl, hP45, hF47, by omega, by omega⟩)
          · intro h48
            refine wk_c1 r152_96 ?_
            subst hQ; exact wk_zret r152_97 (by decide) (⟨rfl, _, rfl, hP34, hF36, by omega, by omega⟩)
        · intro h49
          refine wk_al0 r152_82 (wk_c1 r152_83 (wk_cv2 r152_84 kc_6_159 rfl (m159_6 _ M25 1 hP26 (by decide) (by decide)) (cqI ?_)))
          rintro v54 M50 ⟨hP51, hQ52, h55, h56⟩
          have hF53 : Fr fm_m152_6v3 M0 M50 := hF28.tr hQ52 rfl
          subst hQ; exact wk_zret r152_87 ⟨by omega, by omega⟩ (⟨rfl, _, rfl, hP51, hF53, by omega, by omega⟩)
      · intro h57
        refine wk_al0 r152_44 (wk_cv1 r152_45 kc_6_165 rfl (m165_6 _ M17 hP18) (cqI ?_))
        rintro v62 M58 ⟨hP59, hQ60, h63, h64⟩
        have hF61 : Fr fm_m152_6v3 M0 M58 := hF20.tr hQ60 rfl
        refine wk_is3 r152_48 rfl (wk_il3 r152_49 (wk_c1 r152_50 ?_))
        refine wk_iceq r152_51 ⟨by omega, by omega⟩ (by decide) ?_ ?_
        · intro h65
          refine wk_c1 r152_71 ?_
          subst hQ; exact wk_zret r152_72 (by decide) (⟨rfl, _, rfl, hP59, hF61, by omega, by omega⟩)
        · intro h66
          refine wk_al0 r152_54 (wk_c1 r152_55 (wk_il2 r152_56 (wk_c1 r152_57 (wk_ishlc r152_58 (by decide) pwl_3 (wk_il3 r152_59 (wk_iord2 3 8 r152_60 (by decide) ⟨by omega, by omega⟩ ⟨by omega, by omega, by omega⟩ (wk_cv3 r152_61 kc_6_172 rfl (m172_6 _ M58 5 ((v5 * 8) + v62) hP59 (by decide) (by decide) (by omega) (by omega) (by first | assumption | omega | (unfold stepok; omega))) (cqI ?_))))))))
          rintro v71 M67 ⟨hP68, hQ69, h72, h73⟩
          have hF70 : Fr fm_m152_6v3 M0 M67 := hF61.tr hQ69 rfl
          refine wk_ifeq r152_64 ⟨by omega, by omega⟩ ?_ ?_
          · intro h74
            exfalso
            omega
          · intro h75
            refine wk_c1 r152_67 (wk_goto r152_68 ?_)
            subst hQ; exact wk_zret r152_72 (by decide) (⟨rfl, _, rfl, hP68, hF70, by omega, by omega⟩)
    · intro h76
      refine wk_al0 r152_21 (wk_c1 r152_22 (wk_il2 r152_23 (wk_c1 r152_24 (wk_imul r152_25 (wk_iadd r152_26 (wk_al0 r152_27 (wk_cv1 r152_28 kc_6_173 rfl (m173_6 _ M9 hP10) (cqI ?_))))))))
      rintro v81 M77 ⟨hP78, hQ79, h82, h83⟩
      have hF80 : Fr fm_m152_6v3 M0 M77 := hF12.tr hQ79 rfl
      refine wk_cv3 r152_31 kc_6_171 rfl (m171_6v3 _ M77 (0 + (v5 * 5)) v81 hP78 (by omega) (by omega) (by omega) (by omega)) (cqI ?_)
      rintro v88 M84 ⟨hP85, hQ86, h89, h90⟩
      have hF87 : Fr fm_m152_6v3 M0 M84 := hF80.tr hQ86 rfl
      subst hQ; exact wk_zret r152_34 ⟨by omega, by omega⟩ (⟨rfl, _, rfl, hP85, hF87, by omega, by omega⟩)
  · intro h91
    refine wk_c1 r152_10 ?_
    subst hQ; exact wk_zret r152_11 (by decide) (⟨rfl, _, rfl, hP2, hF4, by omega, by omega⟩)
def fm_m153_6v3 : Nat := 3941070043873280
/-- IslandHall$Parser.atom -/
theorem m153_6v3 {B : eB} (d : Nat) (M0 : Mm) (p1 : Int) (hP0 : Pw M0) (l1 : 3 ≤ p1) (u1 : p1 ≤ 3) : Ct B (d + 19) 153 [R 6, I p1] M0 (qI fun z M => Pw M ∧ Fr fm_m153_6v3 M0 M ∧ 0 ≤ z ∧ z ≤ 1) := by
  refine ct_of (d := d + 18) (k := 0) (L := [some (R 6), some (I p1)]) rfl rfl rfl ?_
  have hF0 := Fr.rf fm_m153_6v3 M0
  generalize hQ : (qI fun z M => Pw M ∧ Fr fm_m153_6v3 M0 M ∧ 0 ≤ z ∧ z ≤ 1) = Q
  refine wk_al0 r153_0 (wk_getfr r153_1 fd_6_0 (br_6_0 hP0) (wk_cv1 r153_4 kc_9_237 rfl (m237_9 _ M0 hP0) (cqI ?_)))
  rintro v7 M1 ⟨hP2, hQ3, h8, h9, h5, h6⟩
  obtain rfl := Fr.same hQ3
  obtain ⟨v10, e11⟩ : ∃ v, M0 9 2 = v := ⟨_, rfl⟩
  have h12 := bf_9_2 hP0; rw [e11] at h12
  obtain ⟨v13, e14⟩ : ∃ v, M0 9 3 = v := ⟨_, rfl⟩
  have h15 := bf_9_3 hP0; rw [e14] at h15
  refine wk_ifeq r153_7 ⟨by omega, by omega⟩ ?_ ?_
  · intro h16
    refine wk_al0 r153_16 (wk_c8 r153_17 (wk_cv2 r153_19 kc_6_175 rfl (m175_6 _ M0 4114 hP0 (by decide)) (cqI ?_)))
    rintro v21 M17 ⟨hP18, hQ19, h22, h23⟩
    have hF20 : Fr fm_m153_6v3 M0 M17 := hF0.tr hQ19 rfl
    refine wk_ifeq r153_22 ⟨by omega, by omega⟩ ?_ ?_
    · intro h24
      refine wk_al0 r153_38 (wk_c8 r153_39 (wk_cv2 r153_41 kc_6_175 rfl (m175_6 _ M17 4115 hP18 (by decide)) (cqI ?_)))
      rintro v29 M25 ⟨hP26, hQ27, h30, h31⟩
      have hF28 : Fr fm_m153_6v3 M0 M25 := hF20.tr hQ27 rfl
      refine wk_ifeq r153_44 ⟨by omega, by omega⟩ ?_ ?_
      · intro h32
        refine wk_al0 r153_61 (wk_c8 r153_62 (wk_cv2 r153_64 kc_6_175 rfl (m175_6 _ M25 4116 hP26 (by decide)) (cqI ?_)))
        rintro v37 M33 ⟨hP34, hQ35, h38, h39⟩
        have hF36 : Fr fm_m153_6v3 M0 M33 := hF28.tr hQ35 rfl
        refine wk_ifeq r153_67 ⟨by omega, by omega⟩ ?_ ?_
        · intro h40
          refine wk_al0 r153_83 (wk_c8 r153_84 (wk_cv2 r153_86 kc_6_175 rfl (m175_6 _ M33 4117 hP34 (by decide)) (cqI ?_)))
          rintro v45 M41 ⟨hP42, hQ43, h46, h47⟩
          have hF44 : Fr fm_m153_6v3 M0 M41 := hF36.tr hQ43 rfl
          refine wk_ifeq r153_89 ⟨by omega, by omega⟩ ?_ ?_
          · intro h48
            refine wk_al0 r153_97 (wk_c8 r153_98 (wk_cv2 r153_100 kc_6_175 rfl (m175_6 _ M41 4118 hP42 (by decide)) (cqI ?_)))
            rintro v53 M49 ⟨hP50, hQ51, h54, h55⟩
            have hF52 : Fr fm_m153_6v3 M0 M49 := hF44.tr hQ51 rfl
            refine wk_ifeq r153_103 ⟨by omega, by omega⟩ ?_ ?_
            · intro h56
              refine wk_al0 r153_117 (wk_c1 r153_118 (wk_cv2 r153_119 kc_6_159 rfl (m159_6 _ M49 1 hP50 (by decide) (by decide)) (cqI ?_)))
              rintro v61 M57 ⟨hP58, hQ59, h62, h63⟩
              have hF60 : Fr fm_m153_6v3 M0 M57 := hF52.tr hQ59 rfl
              subst hQ; exact wk_zret r153_122 ⟨by omega, by omega⟩ (⟨rfl, _, rfl, hP58, hF60, by omega, by omega⟩)
            · intro h64
              refine wk_al0 r153_106 (wk_al0 r153_107 (wk_cv1 r153_108 kc_6_173 rfl (m173_6 _ M49 hP50) (cqI ?_)))
              rintro v69 M65 ⟨hP66, hQ67, h70, h71⟩
              have hF68 : Fr fm_m153_6v3 M0 M65 := hF52.tr hQ67 rfl
              refine wk_cv2 r153_111 kc_6_163 rfl (m163_6 _ M65 v69 hP66 (by omega) (by omega)) (cqI ?_)
              rintro v76 M72 ⟨hP73, hQ74, h77, h78⟩
              have hF75 : Fr fm_m153_6v3 M0 M72 := hF68.tr hQ74 rfl
              refine wk_goto r153_114 ?_
              subst hQ; exact wk_zret r153_122 ⟨by omega, by omega⟩ (⟨rfl, _, rfl, hP73, hF75, by omega, by omega⟩)
          · intro h79
            refine wk_al0 r153_92 (wk_cv1 r153_93 kc_6_176 rfl (m176_6 _ M41 hP42) (cqI ?_))
            rintro v84 M80 ⟨hP81, hQ82, h85, h86⟩
            have hF83 : Fr fm_m153_6v3 M0 M80 := hF44.tr hQ82 rfl
            subst hQ; exact wk_zret r153_96 ⟨by omega, by omega⟩ (⟨rfl, _, rfl, hP81, hF83, by omega, by omega⟩)
        · intro h87
          refine wk_al0 r153_70 (wk_c2 r153_71 (wk_al0 r153_73 (wk_c1 r153_74 (wk_c1 r153_75 (wk_cv3 r153_76 kc_6_167 rfl (m167_6v1 _ M33 0 1 hP34 (by decide) (by decide) (by decide) (by decide)) (cqI ?_))))))
          rintro v92 M88 ⟨hP89, hQ90, h93, h94⟩
          have hF91 : Fr fm_m153_6v3 M0 M88 := hF36.tr hQ90 rfl
          refine wk_cv3 r153_79 kc_6_171 rfl (m171_6 _ M88 46 v92 hP89 (by decide) (by decide) (by omega) (by omega)) (cqI ?_)
          rintro v99 M95 ⟨hP96, hQ97, h100, h101⟩
          have hF98 : Fr fm_m153_6v3 M0 M95 := hF91.tr hQ97 rfl
          subst hQ; exact wk_zret r153_82 ⟨by omega, by omega⟩ (⟨rfl, _, rfl, hP96, hF98, by omega, by omega⟩)
      · intro h102
        refine wk_al0 r153_47 (wk_c2 r153_48 (wk_al0 r153_50 (wk_c1 r153_51 (wk_c2 r153_52 (wk_cv3 r153_54 kc_6_167 rfl (m167_6v2 _ M25 0 6 hP26 (by decide) (by decide) (by decide) (by decide)) (cqI ?_))))))
        rintro v107 M103 ⟨hP104, hQ105, h108, h109⟩
        have hF106 : Fr fm_m153_6v3 M0 M103 := hF28.tr hQ105 rfl
        refine wk_cv3 r153_57 kc_6_171 rfl (m171_6v1 _ M103 39 v107 hP104 (by decide) (by decide) (by omega) (by omega)) (cqI ?_)
        rintro v114 M110 ⟨hP111, hQ112, h115, h116⟩
        have hF113 : Fr fm_m153_6v3 M0 M110 := hF106.tr hQ112 rfl
        subst hQ; exact wk_zret r153_60 ⟨by omega, by omega⟩ (⟨rfl, _, rfl, hP111, hF113, by omega, by omega⟩)
    · intro h117
      refine wk_al0 r153_25 (wk_c2 r153_26 (wk_al0 r153_28 (wk_c1 r153_29 (wk_c1 r153_30 (wk_cv3 r153_31 kc_6_167 rfl (m167_6v3 _ M17 0 3 hP18 (by decide) (by decide) (by decide) (by decide)) (cqI ?_))))))
      rintro v122 M118 ⟨hP119, hQ120, h123, h124⟩
      have hF121 : Fr fm_m153_6v3 M0 M118 := hF20.tr hQ120 rfl
      refine wk_cv3 r153_34 kc_6_171 rfl (m171_6v2 _ M118 35 v122 hP119 (by decide) (by decide) (by omega) (by omega)) (cqI ?_)
      rintro v129 M125 ⟨hP126, hQ127, h130, h131⟩
      have hF128 : Fr fm_m153_6v3 M0 M125 := hF121.tr hQ127 rfl
      subst hQ; exact wk_zret r153_37 ⟨by omega, by omega⟩ (⟨rfl, _, rfl, hP126, hF128, by omega, by omega⟩)
  · intro h132
    refine wk_al0 r153_10 (wk_il1 r153_11 (wk_cv2 r153_12 kc_6_152 rfl (m152_6v3 _ M0 p1 hP0 (by omega) (by omega)) (cqI ?_)))
    rintro v137 M133 ⟨hP134, hQ135, h138, h139⟩
    have hF136 : Fr fm_m153_6v3 M0 M133 := hF0.tr hQ135 rfl
    subst hQ; exact wk_zret r153_15 ⟨by omega, by omega⟩ (⟨rfl, _, rfl, hP134, hF136, by omega, by omega⟩)
def fm_m166_6v3 : Nat := 3941070043873280
/-- IslandHall$Parser.negation -/
theorem m166_6v3 {B : eB} (d : Nat) (M0 : Mm) (p1 : Int) (hP0 : Pw M0) (l1 : 3 ≤ p1) (u1 : p1 ≤ 3) : Ct B (d + 20) 166 [R 6, I p1] M0 (qI fun z M => Pw M ∧ Fr fm_m166_6v3 M0 M ∧ 0 ≤ z ∧ z ≤ 1) := by
  refine ct_of (d := d + 19) (k := 2) (L := [some (R 6), some (I p1), none, none]) rfl rfl rfl ?_
  have hF0 := Fr.rf fm_m166_6v3 M0
  generalize hQ : (qI fun z M => Pw M ∧ Fr fm_m166_6v3 M0 M ∧ 0 ≤ z ∧ z ≤ 1) = Q
  refine wk_c1 r166_0 (wk_is2 r166_1 rfl ?_)
  have c2_551 : ∀ (k551 : Nat) (M472 : Mm) (v469 : Int), (6 - v469).toNat = k551 → Pw M472 → Fr fm_m166_6v3 M0 M472 → 0 ≤ v469 → v469 ≤ 6 → Wp B (d + 19) 166 2 [some (R 6), some (I p1), some (I v469), none] [] M472 Q := by
    refine lp_ind ?_
    intro k551 ih551 M472 v469 hk551 hP473 hF474 h470 h471
    refine wk_il2 r166_2 (wk_c2 r166_3 ?_)
    have c23_550 : ∀ (M486 : Mm), Pw M486 → Fr fm_m166_6v3 M0 M486 → Wp B (d + 19) 166 23 [some (R 6), some (I p1), some (I v469), none] [] M486 Q := by
      intro M486 hP487 hF488
      refine wk_al0 r166_23 (wk_getfr r166_24 fd_6_0 (br_6_0 hP487) (wk_c8 r166_27 (wk_cv2 r166_29 kc_9_239 rfl (m239_9 _ M486 4119 hP487 (by decide)) (cqI ?_))))
      rintro v494 M489 ⟨hP490, hQ491, h495, h496, xh493⟩
      obtain rfl := Fr.same hQ491
      refine wk_ifeq r166_32 ⟨by omega, by omega⟩ ?_ ?_
      · intro h497
        refine wk_al0 r166_41 (wk_getfr r166_42 fd_6_0 (br_6_0 hP487) (wk_c2 r166_45 (wk_cv2 r166_47 kc_9_238 rfl (m238_9 _ M486 40 hP487 (by decide) (by decide)) (cqI ?_))))
        rintro v502 M498 ⟨hP499, hQ500, h503, h504⟩
        obtain rfl := Fr.same hQ500
        have c66_541 : ∀ (M524 : Mm) (v521 : Int), Pw M524 → Fr fm_m166_6v3 M0 M524 → 0 ≤ v521 → v521 ≤ 1 → Wp B (d + 19) 166 66 [some (R 6), none, some (I v469), none] [I v521] M524 Q := by
          intro M524 v521 hP525 hF526 h522 h523
          refine wk_is3 r166_66 rfl (wk_il3 r166_67 ?_)
          refine wk_ifeq r166_68 ⟨by omega, by omega⟩ ?_ ?_
          · intro h527
            refine wk_c1 r166_90 ?_
            subst hQ; exact wk_zret r166_91 (by decide) (⟨rfl, _, rfl, hP525, hF526, by omega, by omega⟩)
          · intro h528
            refine wk_il2 r166_71 (wk_c1 r166_72 (wk_iandc 1 2 r166_73 ⟨rfl, by decide⟩ rfl ?_))
            refine wk_ifeq r166_74 ⟨by omega, by omega⟩ ?_ ?_
            · intro h530
              refine wk_c1 r166_86 (wk_goto r166_87 ?_)
              subst hQ; exact wk_zret r166_91 (by decide) (⟨rfl, _, rfl, hP525, hF526, by omega, by omega⟩)
            · intro h531
              refine wk_al0 r166_77 (wk_c1 r166_78 (wk_c1 r166_79 (wk_cv3 r166_80 kc_6_172 rfl (m172_6 _ M524 1 0 hP525 (by decide) (by decide) (by decide) (by decide) (by first | assumption | omega | (unfold stepok; omega))) (cqI ?_))))
              rintro v536 M532 ⟨hP533, hQ534, h537, h538⟩
              have hF535 : Fr fm_m166_6v3 M0 M532 := hF526.tr hQ534 rfl
              refine wk_ifeq r166_83 ⟨by omega, by omega⟩ ?_ ?_
              · intro h539
                exfalso
                omega
              · intro h540
                refine wk_c1 r166_86 (wk_goto r166_87 ?_)
                subst hQ; exact wk_zret r166_91 (by decide) (⟨rfl, _, rfl, hP533, hF535, by omega, by omega⟩)
        refine wk_ifeq r166_50 ⟨by omega, by omega⟩ ?_ ?_
        · intro h505
          refine wk_al0 r166_61 (wk_il1 r166_62 (wk_cv2 r166_63 kc_6_153 rfl (m153_6v3 _ M486 p1 hP487 (by omega) (by omega)) (cqI ?_)))
          rintro v510 M506 ⟨hP507, hQ508, h511, h512⟩
          have hF509 : Fr fm_m166_6v3 M0 M506 := hF488.tr hQ508 rfl
          exact wp_fg (le_s (le_n (le_s (le_s le_0)))) (c66_541 M506 v510 hP507 hF509 (by omega) (by omega))
        · intro h513
          refine wk_al0 r166_53 (wk_il1 r166_54 (wk_cv2 r166_55 kc_6_168 rfl (m168_6v3 _ M486 p1 hP487 (by omega) (by omega)) (cqI ?_)))
          rintro v518 M514 ⟨hP515, hQ516, h519, h520⟩
          have hF517 : Fr fm_m166_6v3 M0 M514 := hF488.tr hQ516 rfl
          refine wk_goto r166_58 ?_
          exact wp_fg (le_s (le_n (le_s (le_s le_0)))) (c66_541 M514 v518 hP515 hF517 (by omega) (by omega))
      · intro h542
        refine wk_al0 r166_35 (wk_c1 r166_36 (wk_cv2 r166_37 kc_6_159 rfl (m159_6v1 _ M486 2 hP487 (by decide) (by decide)) (cqI ?_)))
        rintro v547 M543 ⟨hP544, hQ545, h548, h549⟩
        have hF546 : Fr fm_m166_6v3 M0 M543 := hF488.tr hQ545 rfl
        subst hQ; exact wk_zret r166_40 ⟨by omega, by omega⟩ (⟨rfl, _, rfl, hP544, hF546, by omega, by omega⟩)
    refine wk_icge r166_5 ⟨by omega, by omega⟩ (by decide) ?_ ?_
    · intro h475
      exact wp_fg (le_s (le_s (le_s (le_s le_0)))) (c23_550 M472 hP473 hF474)
    · intro h476
      refine wk_al0 r166_8 (wk_c8 r166_9 (wk_cv2 r166_11 kc_6_175 rfl (m175_6 _ M472 4119 hP473 (by decide)) (cqI ?_)))
      rintro v481 M477 ⟨hP478, hQ479, h482, h483⟩
      have hF480 : Fr fm_m166_6v3 M0 M477 := hF474.tr hQ479 rfl
      refine wk_ifeq r166_14 ⟨by omega, by omega⟩ ?_ ?_
      · intro h484
        exact wp_fg (le_s (le_s (le_s (le_s le_0)))) (c23_550 M477 hP478 hF480)
      · intro h485
        refine wk_inc2 r166_17 rfl (wk_goto r166_20 ?_)
        exact wp_fg (le_s (le_s (le_s (le_s le_0)))) (ih551 (6 - (v469 + 1)).toNat (by omega) M477 (v469 + 1) rfl hP478 hF480 (by omega) (by omega))
  exact wp_fg (le_s (le_s (le_s (le_s le_0)))) (c2_551 _ M0 0 rfl hP0 hF0 (by omega) (by omega))
def fm_m157_6v3 : Nat := 3941070043873280
/-- IslandHall$Parser.conjunction -/
theorem m157_6v3 {B : eB} (d : Nat) (M0 : Mm) (p1 : Int) (hP0 : Pw M0) (l1 : 3 ≤ p1) (u1 : p1 ≤ 3) : Ct B (d + 21) 157 [R 6, I p1] M0 (qI fun z M => Pw M ∧ Fr fm_m157_6v3 M0 M ∧ 0 ≤ z ∧ z ≤ 1) := by
  refine ct_of (d := d + 20) (k := 1) (L := [some (R 6), some (I p1), none]) rfl rfl rfl ?_
  have hF0 := Fr.rf fm_m157_6v3 M0
  generalize hQ : (qI fun z M => Pw M ∧ Fr fm_m157_6v3 M0 M ∧ 0 ≤ z ∧ z ≤ 1) = Q
  refine wk_al0 r157_0 (wk_il1 r157_1 (wk_cv2 r157_2 kc_6_166 rfl (m166_6v3 _ M0 p1 hP0 (by omega) (by omega)) (cqI ?_)))
  rintro v5 M1 ⟨hP2, hQ3, h6, h7⟩
  have hF4 : Fr fm_m157_6v3 M0 M1 := hF0.tr hQ3 rfl
  refine wk_ifne r157_5 ⟨by omega, by omega⟩ ?_ ?_
  · intro h8
    refine wk_c1 r157_10 (wk_is2 r157_11 rfl ?_)
    have c12_359 : ∀ (k359 : Nat) (M327 : Mm) (v324 : Int), (500 - v324).toNat = k359 → Pw M327 → Fr fm_m157_6v3 M0 M327 → 0 ≤ v324 → v324 ≤ 500 → Wp B (d + 20) 157 12 [some (R 6), some (I p1), some (I v324)] [] M327 Q := by
      refine lp_ind ?_
      intro k359 ih359 M327 v324 hk359 hP328 hF329 h325 h326
      refine wk_il2 r157_12 (wk_c3 r157_13 ?_)
      refine wk_icge r157_16 ⟨by omega, by omega⟩ (by decide) ?_ ?_
      · intro h330
        refine wk_c1 r157_53 ?_
        subst hQ; exact wk_zret r157_54 (by decide) (⟨rfl, _, rfl, hP328, hF329, by omega, by omega⟩)
      · intro h331
        refine wk_al0 r157_19 (wk_c8 r157_20 (wk_cv2 r157_22 kc_6_175 rfl (m175_6 _ M327 4125 hP328 (by decide)) (cqI ?_)))
        rintro v336 M332 ⟨hP333, hQ334, h337, h338⟩
        have hF335 : Fr fm_m157_6v3 M0 M332 := hF329.tr hQ334 rfl
        refine wk_ifeq r157_25 ⟨by omega, by omega⟩ ?_ ?_
        · intro h339
          refine wk_c1 r157_53 ?_
          subst hQ; exact wk_zret r157_54 (by decide) (⟨rfl, _, rfl, hP333, hF335, by omega, by omega⟩)
        · intro h340
          refine wk_al0 r157_28 (wk_il1 r157_29 (wk_cv2 r157_30 kc_6_166 rfl (m166_6v3 _ M332 p1 hP333 (by omega) (by omega)) (cqI ?_)))
          rintro v345 M341 ⟨hP342, hQ343, h346, h347⟩
          have hF344 : Fr fm_m157_6v3 M0 M341 := hF335.tr hQ343 rfl
          refine wk_ifeq r157_33 ⟨by omega, by omega⟩ ?_ ?_
          · intro h348
            refine wk_c1 r157_45 ?_
            subst hQ; exact wk_zret r157_46 (by decide) (⟨rfl, _, rfl, hP342, hF344, by omega, by omega⟩)
          · intro h349
            refine wk_al0 r157_36 (wk_c1 r157_37 (wk_c1 r157_38 (wk_cv3 r157_39 kc_6_172 rfl (m172_6 _ M341 2 0 hP342 (by decide) (by decide) (by decide) (by decide) (by first | assumption | omega | (unfold stepok; omega))) (cqI ?_))))
            rintro v354 M350 ⟨hP351, hQ352, h355, h356⟩
            have hF353 : Fr fm_m157_6v3 M0 M350 := hF344.tr hQ352 rfl
            refine wk_ifne r157_42 ⟨by omega, by omega⟩ ?_ ?_
            · intro h357
              refine wk_inc2 r157_47 rfl (wk_goto r157_50 ?_)
              exact wp_fg (le_s (le_s (le_s le_0))) (ih359 (500 - (v324 + 1)).toNat (by omega) M350 (v324 + 1) rfl hP351 hF353 (by omega) (by omega))
            · intro h358
              exfalso
              omega
    exact wp_fg (le_s (le_s (le_s le_0))) (c12_359 _ M1 0 rfl hP2 hF4 (by omega) (by omega))
  · intro h360
    refine wk_c1 r157_8 ?_
    subst hQ; exact wk_zret r157_9 (by decide) (⟨rfl, _, rfl, hP2, hF4, by omega, by omega⟩)
def fm_m158_6v3 : Nat := 3941070043873280
/-- IslandHall$Parser.expr -/
theorem m158_6v3 {B : eB} (d : Nat) (M0 : Mm) (p1 : Int) (hP0 : Pw M0) (l1 : 3 ≤ p1) (u1 : p1 ≤ 3) : Ct B (d + 22) 158 [R 6, I p1] M0 (qI fun z M => Pw M ∧ Fr fm_m158_6v3 M0 M ∧ 0 ≤ z ∧ z ≤ 1) := by
  refine ct_of (d := d + 21) (k := 1) (L := [some (R 6), some (I p1), none]) rfl rfl rfl ?_
  have hF0 := Fr.rf fm_m158_6v3 M0
  generalize hQ : (qI fun z M => Pw M ∧ Fr fm_m158_6v3 M0 M ∧ 0 ≤ z ∧ z ≤ 1) = Q
  refine wk_al0 r158_0 (wk_cv1 r158_1 kc_6_155 rfl (m155_6 _ M0 hP0) (cqI ?_))
  rintro v5 M1 ⟨hP2, hQ3, h6, h7⟩
  obtain rfl := Fr.same hQ3
  refine wk_ifne r158_4 ⟨by omega, by omega⟩ ?_ ?_
  · intro h8
    refine wk_il1 r158_13 (wk_c2 r158_14 ?_)
    refine wk_iclt r158_16 ⟨by omega, by omega⟩ (by decide) ?_ ?_
    · intro h9
      refine wk_al0 r158_25 (wk_il1 r158_26 (wk_cv2 r158_27 kc_6_157 rfl (m157_6v3 _ M0 p1 hP0 (by omega) (by omega)) (cqI ?_)))
      rintro v14 M10 ⟨hP11, hQ12, h15, h16⟩
      have hF13 : Fr fm_m158_6v3 M0 M10 := hF0.tr hQ12 rfl
      refine wk_ifne r158_30 ⟨by omega, by omega⟩ ?_ ?_
      · intro h17
        refine wk_c1 r158_35 (wk_is2 r158_36 rfl ?_)
        have c37_368 : ∀ (k368 : Nat) (M336 : Mm) (v333 : Int), (500 - v333).toNat = k368 → Pw M336 → Fr fm_m158_6v3 M0 M336 → 0 ≤ v333 → v333 ≤ 500 → Wp B (d + 21) 158 37 [some (R 6), some (I p1), some (I v333)] [] M336 Q := by
          refine lp_ind ?_
          intro k368 ih368 M336 v333 hk368 hP337 hF338 h334 h335
          refine wk_il2 r158_37 (wk_c3 r158_38 ?_)
          refine wk_icge r158_41 ⟨by omega, by omega⟩ (by decide) ?_ ?_
          · intro h339
            refine wk_c1 r158_78 ?_
            subst hQ; exact wk_zret r158_79 (by decide) (⟨rfl, _, rfl, hP337, hF338, by omega, by omega⟩)
          · intro h340
            refine wk_al0 r158_44 (wk_c8 r158_45 (wk_cv2 r158_47 kc_6_175 rfl (m175_6 _ M336 4126 hP337 (by decide)) (cqI ?_)))
            rintro v345 M341 ⟨hP342, hQ343, h346, h347⟩
            have hF344 : Fr fm_m158_6v3 M0 M341 := hF338.tr hQ343 rfl
            refine wk_ifeq r158_50 ⟨by omega, by omega⟩ ?_ ?_
            · intro h348
              refine wk_c1 r158_78 ?_
              subst hQ; exact wk_zret r158_79 (by decide) (⟨rfl, _, rfl, hP342, hF344, by omega, by omega⟩)
            · intro h349
              refine wk_al0 r158_53 (wk_il1 r158_54 (wk_cv2 r158_55 kc_6_157 rfl (m157_6v3 _ M341 p1 hP342 (by omega) (by omega)) (cqI ?_)))
              rintro v354 M350 ⟨hP351, hQ352, h355, h356⟩
              have hF353 : Fr fm_m158_6v3 M0 M350 := hF344.tr hQ352 rfl
              refine wk_ifeq r158_58 ⟨by omega, by omega⟩ ?_ ?_
              · intro h357
                refine wk_c1 r158_70 ?_
                subst hQ; exact wk_zret r158_71 (by decide) (⟨rfl, _, rfl, hP351, hF353, by omega, by omega⟩)
              · intro h358
                refine wk_al0 r158_61 (wk_c1 r158_62 (wk_c1 r158_63 (wk_cv3 r158_64 kc_6_172 rfl (m172_6 _ M350 3 0 hP351 (by decide) (by decide) (by decide) (by decide) (by first | assumption | omega | (unfold stepok; omega))) (cqI ?_))))
                rintro v363 M359 ⟨hP360, hQ361, h364, h365⟩
                have hF362 : Fr fm_m158_6v3 M0 M359 := hF353.tr hQ361 rfl
                refine wk_ifne r158_67 ⟨by omega, by omega⟩ ?_ ?_
                · intro h366
                  refine wk_inc2 r158_72 rfl (wk_goto r158_75 ?_)
                  exact wp_fg (le_s (le_s (le_s le_0))) (ih368 (500 - (v333 + 1)).toNat (by omega) M359 (v333 + 1) rfl hP360 hF362 (by omega) (by omega))
                · intro h367
                  exfalso
                  omega
        exact wp_fg (le_s (le_s (le_s le_0))) (c37_368 _ M10 0 rfl hP11 hF13 (by omega) (by omega))
      · intro h369
        refine wk_c1 r158_33 ?_
        subst hQ; exact wk_zret r158_34 (by decide) (⟨rfl, _, rfl, hP11, hF13, by omega, by omega⟩)
    · intro h370
      exfalso
      omega
  · intro h371
    refine wk_al0 r158_7 (wk_c1 r158_8 (wk_cv2 r158_9 kc_6_159 rfl (m159_6 _ M0 1 hP0 (by decide) (by decide)) (cqI ?_)))
    rintro v376 M372 ⟨hP373, hQ374, h377, h378⟩
    have hF375 : Fr fm_m158_6v3 M0 M372 := hF0.tr hQ374 rfl
    subst hQ; exact wk_zret r158_12 ⟨by omega, by omega⟩ (⟨rfl, _, rfl, hP373, hF375, by omega, by omega⟩)
def fm_m168_6v2 : Nat := 3941070043873280
/-- IslandHall$Parser.parenthesis -/
theorem m168_6v2 {B : eB} (d : Nat) (M0 : Mm) (p1 : Int) (hP0 : Pw M0) (l1 : 2 ≤ p1) (u1 : p1 ≤ 2) : Ct B (d + 23) 168 [R 6, I p1] M0 (qI fun z M => Pw M ∧ Fr fm_m168_6v2 M0 M ∧ 0 ≤ z ∧ z ≤ 1) := by
  refine ct_of (d := d + 22) (k := 0) (L := [some (R 6), some (I p1)]) rfl rfl rfl ?_
  have hF0 := Fr.rf fm_m168_6v2 M0
  generalize hQ : (qI fun z M => Pw M ∧ Fr fm_m168_6v2 M0 M ∧ 0 ≤ z ∧ z ≤ 1) = Q
  refine wk_al0 r168_0 (wk_c2 r168_1 (wk_cv2 r168_3 kc_6_174 rfl (m174_6 _ M0 40 hP0 (by decide) (by decide)) (cqI ?_)))
  rintro v5 M1 ⟨hP2, hQ3, h6, h7⟩
  have hF4 : Fr fm_m168_6v2 M0 M1 := hF0.tr hQ3 rfl
  refine wk_ifeq r168_6 ⟨by omega, by omega⟩ ?_ ?_
  · intro h8
    refine wk_c1 r168_32 ?_
    subst hQ; exact wk_zret r168_33 (by decide) (⟨rfl, _, rfl, hP2, hF4, by omega, by omega⟩)
  · intro h9
    refine wk_al0 r168_9 (wk_il1 r168_10 (wk_c1 r168_11 (wk_iadd r168_12 (wk_cv2 r168_13 kc_6_158 rfl (m158_6v3 _ M1 (p1 + 1) hP2 (by omega) (by omega)) (cqI ?_)))))
    rintro v14 M10 ⟨hP11, hQ12, h15, h16⟩
    have hF13 : Fr fm_m168_6v2 M0 M10 := hF4.tr hQ12 rfl
    refine wk_ifeq r168_16 ⟨by omega, by omega⟩ ?_ ?_
    · intro h17
      refine wk_c1 r168_32 ?_
      subst hQ; exact wk_zret r168_33 (by decide) (⟨rfl, _, rfl, hP11, hF13, by omega, by omega⟩)
    · intro h18
      refine wk_al0 r168_19 (wk_c2 r168_20 (wk_cv2 r168_22 kc_6_174 rfl (m174_6v1 _ M10 41 hP11 (by decide) (by decide)) (cqI ?_)))
      rintro v23 M19 ⟨hP20, hQ21, h24, h25⟩
      have hF22 : Fr fm_m168_6v2 M0 M19 := hF13.tr hQ21 rfl
      refine wk_ifeq r168_25 ⟨by omega, by omega⟩ ?_ ?_
      · intro h26
        refine wk_c1 r168_32 ?_
        subst hQ; exact wk_zret r168_33 (by decide) (⟨rfl, _, rfl, hP20, hF22, by omega, by omega⟩)
      · intro h27
        refine wk_c1 r168_28 (wk_goto r168_29 ?_)
        subst hQ; exact wk_zret r168_33 (by decide) (⟨rfl, _, rfl, hP20, hF22, by omega, by omega⟩)
def fm_m152_6v2 : Nat := 3941070043873280
/-- IslandHall$Parser.aboutSomeone -/
theorem m152_6v2 {B : eB} (d : Nat) (M0 : Mm) (p1 : Int) (hP0 : Pw M0) (l1 : 2 ≤ p1) (u1 : p1 ≤ 2) : Ct B (d + 24) 152 [R 6, I p1] M0 (qI fun z M => Pw M ∧ Fr fm_m152_6v2 M0 M ∧ 0 ≤ z ∧ z ≤ 1) := by
  refine ct_of (d := d + 23) (k := 2) (L := [some (R 6), some (I p1), none, none]) rfl rfl rfl ?_
  have hF0 := Fr.rf fm_m152_6v2 M0
  generalize hQ : (qI fun z M => Pw M ∧ Fr fm_m152_6v2 M0 M ∧ 0 ≤ z ∧ z ≤ 1) = Q
  refine wk_al0 r152_0 (wk_cv1 r152_1 kc_6_165 rfl (m165_6 _ M0 hP0) (cqI ?_))
  rintro v5 M1 ⟨hP2, hQ3, h6, h7⟩
  have hF4 : Fr fm_m152_6v2 M0 M1 := hF0.tr hQ3 rfl
  refine wk_is2 r152_4 rfl (wk_il2 r152_5 (wk_c1 r152_6 ?_))
  refine wk_icne r152_7 ⟨by omega, by omega⟩ (by decide) ?_ ?_
  · intro h8
    refine wk_al0 r152_12 (wk_c8 r152_13 (wk_cv2 r152_15 kc_6_175 rfl (m175_6 _ M1 4111 hP2 (by decide)) (cqI ?_)))
    rintro v13 M9 ⟨hP10, hQ11, h14, h15⟩
    have hF12 : Fr fm_m152_6v2 M0 M9 := hF4.tr hQ11 rfl
    refine wk_ifeq r152_18 ⟨by omega, by omega⟩ ?_ ?_
    · intro h16
      refine wk_al0 r152_35 (wk_c8 r152_36 (wk_cv2 r152_38 kc_6_175 rfl (m175_6 _ M9 4112 hP10 (by decide)) (cqI ?_)))
      rintro v21 M17 ⟨hP18, hQ19, h22, h23⟩
      have hF20 : Fr fm_m152_6v2 M0 M17 := hF12.tr hQ19 rfl
      refine wk_ifeq r152_41 ⟨by omega, by omega⟩ ?_ ?_
      · intro h24
        refine wk_al0 r152_73 (wk_c8 r152_74 (wk_cv2 r152_76 kc_6_175 rfl (m175_6 _ M17 4113 hP18 (by decide)) (cqI ?_)))
        rintro v29 M25 ⟨hP26, hQ27, h30, h31⟩
        have hF28 : Fr fm_m152_6v2 M0 M25 := hF20.tr hQ27 rfl
        refine wk_ifne r152_79 ⟨by omega, by omega⟩ ?_ ?_
        · intro h32
          refine wk_al0 r152_88 (wk_il1 r152_89 (wk_cv2 r152_90 kc_6_168 rfl (m168_6v2 _ M25 p1 hP26 (by omega) (by omega)) (cqI ?_)))
          rintro v37 M33 ⟨hP34, hQ35, h38, h39⟩
          have hF36 : Fr fm_m152_6v2 M0 M33 := hF28.tr hQ35 rfl
          refine wk_ifne r152_93 ⟨by omega, by omega⟩ ?_ ?_
          · intro h40
            refine wk_al0 r152_98 ?_
            obtain ⟨v41, e42⟩ : ∃ v, M33 6 2 = v := ⟨_, rfl⟩
            have hC43 : isC v41 := by have := pcE hP34; rw [e42] at this; exact this
            refine wk_getfr r152_99 fd_6_2 e42 (wk_il2 r152_102 (wk_cv2 r152_103 (kcC_139 hC43) rfl (m139 _ M33 v41 v5 hP34 hC43 (by omega) (by omega)) (cqV ?_)))
            rintro M44 ⟨hP45, hQ46⟩
            have hF47 : Fr fm_m152_6v2 M0 M44 := hF36.tr hQ46 rfl
            refine wk_c1 r152_106 ?_
            subst hQ; exact wk_zret r152_107 (by decide) (⟨rfl, _, rfl, hP45, hF47, by omega, by omega⟩)
          · intro h48
            refine wk_c1 r152_96 ?_
            subst hQ; exact wk_zret r152_97 (by decide) (⟨rfl, _, rfl, hP34, hF36, by omega, by omega⟩)
        · intro h49
          refine wk_al0 r152_82 (wk_c1 r152_83 (wk_cv2 r152_84 kc_6_159 rfl (m159_6 _ M25 1 hP26 (by decide) (by decide)) (cqI ?_)))
          rintro v54 M50 ⟨hP51, hQ52, h55, h56⟩
          have hF53 : Fr fm_m152_6v2 M0 M50 := hF28.tr hQ52 rfl
          subst hQ; exact wk_zret r152_87 ⟨by omega, by omega⟩ (⟨rfl, _, rfl, hP51, hF53, by omega, by omega⟩)
      · intro h57
        refine wk_al0 r152_44 (wk_cv1 r152_45 kc_6_165 rfl (m165_6 _ M17 hP18) (cqI ?_))
        rintro v62 M58 ⟨hP59, hQ60, h63, h64⟩
        have hF61 : Fr fm_m152_6v2 M0 M58 := hF20.tr hQ60 rfl
        refine wk_is3 r152_48 rfl (wk_il3 r152_49 (wk_c1 r152_50 ?_))
        refine wk_iceq r152_51 ⟨by omega, by omega⟩ (by decide) ?_ ?_
        · intro h65
          refine wk_c1 r152_71 ?_
          subst hQ; exact wk_zret r152_72 (by decide) (⟨rfl, _, rfl, hP59, hF61, by omega, by omega⟩)
        · intro h66
          refine wk_al0 r152_54 (wk_c1 r152_55 (wk_il2 r152_56 (wk_c1 r152_57 (wk_ishlc r152_58 (by decide) pwl_3 (wk_il3 r152_59 (wk_iord2 3 8 r152_60 (by decide) ⟨by omega, by omega⟩ ⟨by omega, by omega, by omega⟩ (wk_cv3 r152_61 kc_6_172 rfl (m172_6 _ M58 5 ((v5 * 8) + v62) hP59 (by decide) (by decide) (by omega) (by omega) (by first | assumption | omega | (unfold stepok; omega))) (cqI ?_))))))))
          rintro v71 M67 ⟨hP68, hQ69, h72, h73⟩
          have hF70 : Fr fm_m152_6v2 M0 M67 := hF61.tr hQ69 rfl
          refine wk_ifeq r152_64 ⟨by omega, by omega⟩ ?_ ?_
          · intro h74
            exfalso
            omega
          · intro h75
            refine wk_c1 r152_67 (wk_goto r152_68 ?_)
            subst hQ; exact wk_zret r152_72 (by decide) (⟨rfl, _, rfl, hP68, hF70, by omega, by omega⟩)
    · intro h76
      refine wk_al0 r152_21 (wk_c1 r152_22 (wk_il2 r152_23 (wk_c1 r152_24 (wk_imul r152_25 (wk_iadd r152_26 (wk_al0 r152_27 (wk_cv1 r152_28 kc_6_173 rfl (m173_6 _ M9 hP10) (cqI ?_))))))))
      rintro v81 M77 ⟨hP78, hQ79, h82, h83⟩
      have hF80 : Fr fm_m152_6v2 M0 M77 := hF12.tr hQ79 rfl
      refine wk_cv3 r152_31 kc_6_171 rfl (m171_6v3 _ M77 (0 + (v5 * 5)) v81 hP78 (by omega) (by omega) (by omega) (by omega)) (cqI ?_)
      rintro v88 M84 ⟨hP85, hQ86, h89, h90⟩
      have hF87 : Fr fm_m152_6v2 M0 M84 := hF80.tr hQ86 rfl
      subst hQ; exact wk_zret r152_34 ⟨by omega, by omega⟩ (⟨rfl, _, rfl, hP85, hF87, by omega, by omega⟩)
  · intro h91
    refine wk_c1 r152_10 ?_
    subst hQ; exact wk_zret r152_11 (by decide) (⟨rfl, _, rfl, hP2, hF4, by omega, by omega⟩)
def fm_m153_6v2 : Nat := 3941070043873280
/-- IslandHall$Parser.atom -/
theorem m153_6v2 {B : eB} (d : Nat) (M0 : Mm) (p1 : Int) (hP0 : Pw M0) (l1 : 2 ≤ p1) (u1 : p1 ≤ 2) : Ct B (d + 25) 153 [R 6, I p1] M0 (qI fun z M => Pw M ∧ Fr fm_m153_6v2 M0 M ∧ 0 ≤ z ∧ z ≤ 1) := by
  refine ct_of (d := d + 24) (k := 0) (L := [some (R 6), some (I p1)]) rfl rfl rfl ?_
  have hF0 := Fr.rf fm_m153_6v2 M0
  generalize hQ : (qI fun z M => Pw M ∧ Fr fm_m153_6v2 M0 M ∧ 0 ≤ z ∧ z ≤ 1) = Q
  refine wk_al0 r153_0 (wk_getfr r153_1 fd_6_0 (br_6_0 hP0) (wk_cv1 r153_4 kc_9_237 rfl (m237_9 _ M0 hP0) (cqI ?_)))
  rintro v7 M1 ⟨hP2, hQ3, h8, h9, h5, h6⟩
  obtain rfl := Fr.same hQ3
  obtain ⟨v10, e11⟩ : ∃ v, M0 9 2 = v := ⟨_, rfl⟩
  have h12 := bf_9_2 hP0; rw [e11] at h12
  obtain ⟨v13, e14⟩ : ∃ v, M0 9 3 = v := ⟨_, rfl⟩
  have h15 := bf_9_3 hP0; rw [e14] at h15
  refine wk_ifeq r153_7 ⟨by omega, by omega⟩ ?_ ?_
  · intro h16
    refine wk_al0 r153_16 (wk_c8 r153_17 (wk_cv2 r153_19 kc_6_175 rfl (m175_6 _ M0 4114 hP0 (by decide)) (cqI ?_)))
    rintro v21 M17 ⟨hP18, hQ19, h22, h23⟩
    have hF20 : Fr fm_m153_6v2 M0 M17 := hF0.tr hQ19 rfl
    refine wk_ifeq r153_22 ⟨by omega, by omega⟩ ?_ ?_
    · intro h24
      refine wk_al0 r153_38 (wk_c8 r153_39 (wk_cv2 r153_41 kc_6_175 rfl (m175_6 _ M17 4115 hP18 (by decide)) (cqI ?_)))
      rintro v29 M25 ⟨hP26, hQ27, h30, h31⟩
      have hF28 : Fr fm_m153_6v2 M0 M25 := hF20.tr hQ27 rfl
      refine wk_ifeq r153_44 ⟨by omega, by omega⟩ ?_ ?_
      · intro h32
        refine wk_al0 r153_61 (wk_c8 r153_62 (wk_cv2 r153_64 kc_6_175 rfl (m175_6 _ M25 4116 hP26 (by decide)) (cqI ?_)))
        rintro v37 M33 ⟨hP34, hQ35, h38, h39⟩
        have hF36 : Fr fm_m153_6v2 M0 M33 := hF28.tr hQ35 rfl
        refine wk_ifeq r153_67 ⟨by omega, by omega⟩ ?_ ?_
        · intro h40
          refine wk_al0 r153_83 (wk_c8 r153_84 (wk_cv2 r153_86 kc_6_175 rfl (m175_6 _ M33 4117 hP34 (by decide)) (cqI ?_)))
          rintro v45 M41 ⟨hP42, hQ43, h46, h47⟩
          have hF44 : Fr fm_m153_6v2 M0 M41 := hF36.tr hQ43 rfl
          refine wk_ifeq r153_89 ⟨by omega, by omega⟩ ?_ ?_
          · intro h48
            refine wk_al0 r153_97 (wk_c8 r153_98 (wk_cv2 r153_100 kc_6_175 rfl (m175_6 _ M41 4118 hP42 (by decide)) (cqI ?_)))
            rintro v53 M49 ⟨hP50, hQ51, h54, h55⟩
            have hF52 : Fr fm_m153_6v2 M0 M49 := hF44.tr hQ51 rfl
            refine wk_ifeq r153_103 ⟨by omega, by omega⟩ ?_ ?_
            · intro h56
              refine wk_al0 r153_117 (wk_c1 r153_118 (wk_cv2 r153_119 kc_6_159 rfl (m159_6 _ M49 1 hP50 (by decide) (by decide)) (cqI ?_)))
              rintro v61 M57 ⟨hP58, hQ59, h62, h63⟩
              have hF60 : Fr fm_m153_6v2 M0 M57 := hF52.tr hQ59 rfl
              subst hQ; exact wk_zret r153_122 ⟨by omega, by omega⟩ (⟨rfl, _, rfl, hP58, hF60, by omega, by omega⟩)
            · intro h64
              refine wk_al0 r153_106 (wk_al0 r153_107 (wk_cv1 r153_108 kc_6_173 rfl (m173_6 _ M49 hP50) (cqI ?_)))
              rintro v69 M65 ⟨hP66, hQ67, h70, h71⟩
              have hF68 : Fr fm_m153_6v2 M0 M65 := hF52.tr hQ67 rfl
              refine wk_cv2 r153_111 kc_6_163 rfl (m163_6 _ M65 v69 hP66 (by omega) (by omega)) (cqI ?_)
              rintro v76 M72 ⟨hP73, hQ74, h77, h78⟩
              have hF75 : Fr fm_m153_6v2 M0 M72 := hF68.tr hQ74 rfl
              refine wk_goto r153_114 ?_
              subst hQ; exact wk_zret r153_122 ⟨by omega, by omega⟩ (⟨rfl, _, rfl, hP73, hF75, by omega, by omega⟩)
          · intro h79
            refine wk_al0 r153_92 (wk_cv1 r153_93 kc_6_176 rfl (m176_6 _ M41 hP42) (cqI ?_))
            rintro v84 M80 ⟨hP81, hQ82, h85, h86⟩
            have hF83 : Fr fm_m153_6v2 M0 M80 := hF44.tr hQ82 rfl
            subst hQ; exact wk_zret r153_96 ⟨by omega, by omega⟩ (⟨rfl, _, rfl, hP81, hF83, by omega, by omega⟩)
        · intro h87
          refine wk_al0 r153_70 (wk_c2 r153_71 (wk_al0 r153_73 (wk_c1 r153_74 (wk_c1 r153_75 (wk_cv3 r153_76 kc_6_167 rfl (m167_6v1 _ M33 0 1 hP34 (by decide) (by decide) (by decide) (by decide)) (cqI ?_))))))
          rintro v92 M88 ⟨hP89, hQ90, h93, h94⟩
          have hF91 : Fr fm_m153_6v2 M0 M88 := hF36.tr hQ90 rfl
          refine wk_cv3 r153_79 kc_6_171 rfl (m171_6 _ M88 46 v92 hP89 (by decide) (by decide) (by omega) (by omega)) (cqI ?_)
          rintro v99 M95 ⟨hP96, hQ97, h100, h101⟩
          have hF98 : Fr fm_m153_6v2 M0 M95 := hF91.tr hQ97 rfl
          subst hQ; exact wk_zret r153_82 ⟨by omega, by omega⟩ (⟨rfl, _, rfl, hP96, hF98, by omega, by omega⟩)
      · intro h102
        refine wk_al0 r153_47 (wk_c2 r153_48 (wk_al0 r153_50 (wk_c1 r153_51 (wk_c2 r153_52 (wk_cv3 r153_54 kc_6_167 rfl (m167_6v2 _ M25 0 6 hP26 (by decide) (by decide) (by decide) (by decide)) (cqI ?_))))))
        rintro v107 M103 ⟨hP104, hQ105, h108, h109⟩
        have hF106 : Fr fm_m153_6v2 M0 M103 := hF28.tr hQ105 rfl
        refine wk_cv3 r153_57 kc_6_171 rfl (m171_6v1 _ M103 39 v107 hP104 (by decide) (by decide) (by omega) (by omega)) (cqI ?_)
        rintro v114 M110 ⟨hP111, hQ112, h115, h116⟩
        have hF113 : Fr fm_m153_6v2 M0 M110 := hF106.tr hQ112 rfl
        subst hQ; exact wk_zret r153_60 ⟨by omega, by omega⟩ (⟨rfl, _, rfl, hP111, hF113, by omega, by omega⟩)
    · intro h117
      refine wk_al0 r153_25 (wk_c2 r153_26 (wk_al0 r153_28 (wk_c1 r153_29 (wk_c1 r153_30 (wk_cv3 r153_31 kc_6_167 rfl (m167_6v3 _ M17 0 3 hP18 (by decide) (by decide) (by decide) (by decide)) (cqI ?_))))))
      rintro v122 M118 ⟨hP119, hQ120, h123, h124⟩
      have hF121 : Fr fm_m153_6v2 M0 M118 := hF20.tr hQ120 rfl
      refine wk_cv3 r153_34 kc_6_171 rfl (m171_6v2 _ M118 35 v122 hP119 (by decide) (by decide) (by omega) (by omega)) (cqI ?_)
      rintro v129 M125 ⟨hP126, hQ127, h130, h131⟩
      have hF128 : Fr fm_m153_6v2 M0 M125 := hF121.tr hQ127 rfl
      subst hQ; exact wk_zret r153_37 ⟨by omega, by omega⟩ (⟨rfl, _, rfl, hP126, hF128, by omega, by omega⟩)
  · intro h132
    refine wk_al0 r153_10 (wk_il1 r153_11 (wk_cv2 r153_12 kc_6_152 rfl (m152_6v2 _ M0 p1 hP0 (by omega) (by omega)) (cqI ?_)))
    rintro v137 M133 ⟨hP134, hQ135, h138, h139⟩
    have hF136 : Fr fm_m153_6v2 M0 M133 := hF0.tr hQ135 rfl
    subst hQ; exact wk_zret r153_15 ⟨by omega, by omega⟩ (⟨rfl, _, rfl, hP134, hF136, by omega, by omega⟩)
def fm_m166_6v2 : Nat := 3941070043873280
/-- IslandHall$Parser.negation -/
theorem m166_6v2 {B : eB} (d : Nat) (M0 : Mm) (p1 : Int) (hP0 : Pw M0) (l1 : 2 ≤ p1) (u1 : p1 ≤ 2) : Ct B (d + 26) 166 [R 6, I p1] M0 (qI fun z M => Pw M ∧ Fr fm_m166_6v2 M0 M ∧ 0 ≤ z ∧ z ≤ 1) := by
  refine ct_of (d := d + 25) (k := 2) (L := [some (R 6), some (I p1), none, none]) rfl rfl rfl ?_
  have hF0 := Fr.rf fm_m166_6v2 M0
  generalize hQ : (qI fun z M => Pw M ∧ Fr fm_m166_6v2 M0 M ∧ 0 ≤ z ∧ z ≤ 1) = Q
  refine wk_c1 r166_0 (wk_is2 r166_1 rfl ?_)
  have c2_551 : ∀ (k551 : Nat) (M472 : Mm) (v469 : Int), (6 - v469).toNat = k551 → Pw M472 → Fr fm_m166_6v2 M0 M472 → 0 ≤ v469 → v469 ≤ 6 → Wp B (d + 25) 166 2 [some (R 6), some (I p1), some (I v469), none] [] M472 Q := by
    refine lp_ind ?_
    intro k551 ih551 M472 v469 hk551 hP473 hF474 h470 h471
    refine wk_il2 r166_2 (wk_c2 r166_3 ?_)
    have c23_550 : ∀ (M486 : Mm), Pw M486 → Fr fm_m166_6v2 M0 M486 → Wp B (d + 25) 166 23 [some (R 6), some (I p1), some (I v469), none] [] M486 Q := by
      intro M486 hP487 hF488
      refine wk_al0 r166_23 (wk_getfr r166_24 fd_6_0 (br_6_0 hP487) (wk_c8 r166_27 (wk_cv2 r166_29 kc_9_239 rfl (m239_9 _ M486 4119 hP487 (by decide)) (cqI ?_))))
      rintro v494 M489 ⟨hP490, hQ491, h495, h496, xh493⟩
      obtain rfl := Fr.same hQ491
      refine wk_ifeq r166_32 ⟨by omega, by omega⟩ ?_ ?_
      · intro h497
        refine wk_al0 r166_41 (wk_getfr r166_42 fd_6_0 (br_6_0 hP487) (wk_c2 r166_45 (wk_cv2 r166_47 kc_9_238 rfl (m238_9 _ M486 40 hP487 (by decide) (by decide)) (cqI ?_))))
        rintro v502 M498 ⟨hP499, hQ500, h503, h504⟩
        obtain rfl := Fr.same hQ500
        have c66_541 : ∀ (M524 : Mm) (v521 : Int), Pw M524 → Fr fm_m166_6v2 M0 M524 → 0 ≤ v521 → v521 ≤ 1 → Wp B (d + 25) 166 66 [some (R 6), none, some (I v469), none] [I v521] M524 Q := by
          intro M524 v521 hP525 hF526 h522 h523
          refine wk_is3 r166_66 rfl (wk_il3 r166_67 ?_)
          refine wk_ifeq r166_68 ⟨by omega, by omega⟩ ?_ ?_
          · intro h527
            refine wk_c1 r166_90 ?_
            subst hQ; exact wk_zret r166_91 (by decide) (⟨rfl, _, rfl, hP525, hF526, by omega, by omega⟩)
          · intro h528
            refine wk_il2 r166_71 (wk_c1 r166_72 (wk_iandc 1 2 r166_73 ⟨rfl, by decide⟩ rfl ?_))
            refine wk_ifeq r166_74 ⟨by omega, by omega⟩ ?_ ?_
            · intro h530
              refine wk_c1 r166_86 (wk_goto r166_87 ?_)
              subst hQ; exact wk_zret r166_91 (by decide) (⟨rfl, _, rfl, hP525, hF526, by omega, by omega⟩)
            · intro h531
              refine wk_al0 r166_77 (wk_c1 r166_78 (wk_c1 r166_79 (wk_cv3 r166_80 kc_6_172 rfl (m172_6 _ M524 1 0 hP525 (by decide) (by decide) (by decide) (by decide) (by first | assumption | omega | (unfold stepok; omega))) (cqI ?_))))
              rintro v536 M532 ⟨hP533, hQ534, h537, h538⟩
              have hF535 : Fr fm_m166_6v2 M0 M532 := hF526.tr hQ534 rfl
              refine wk_ifeq r166_83 ⟨by omega, by omega⟩ ?_ ?_
              · intro h539
                exfalso
                omega
              · intro h540
                refine wk_c1 r166_86 (wk_goto r166_87 ?_)
                subst hQ; exact wk_zret r166_91 (by decide) (⟨rfl, _, rfl, hP533, hF535, by omega, by omega⟩)
        refine wk_ifeq r166_50 ⟨by omega, by omega⟩ ?_ ?_
        · intro h505
          refine wk_al0 r166_61 (wk_il1 r166_62 (wk_cv2 r166_63 kc_6_153 rfl (m153_6v2 _ M486 p1 hP487 (by omega) (by omega)) (cqI ?_)))
          rintro v510 M506 ⟨hP507, hQ508, h511, h512⟩
          have hF509 : Fr fm_m166_6v2 M0 M506 := hF488.tr hQ508 rfl
          exact wp_fg (le_s (le_n (le_s (le_s le_0)))) (c66_541 M506 v510 hP507 hF509 (by omega) (by omega))
        · intro h513
          refine wk_al0 r166_53 (wk_il1 r166_54 (wk_cv2 r166_55 kc_6_168 rfl (m168_6v2 _ M486 p1 hP487 (by omega) (by omega)) (cqI ?_)))
          rintro v518 M514 ⟨hP515, hQ516, h519, h520⟩
          have hF517 : Fr fm_m166_6v2 M0 M514 := hF488.tr hQ516 rfl
          refine wk_goto r166_58 ?_
          exact wp_fg (le_s (le_n (le_s (le_s le_0)))) (c66_541 M514 v518 hP515 hF517 (by omega) (by omega))
      · intro h542
        refine wk_al0 r166_35 (wk_c1 r166_36 (wk_cv2 r166_37 kc_6_159 rfl (m159_6v1 _ M486 2 hP487 (by decide) (by decide)) (cqI ?_)))
        rintro v547 M543 ⟨hP544, hQ545, h548, h549⟩
        have hF546 : Fr fm_m166_6v2 M0 M543 := hF488.tr hQ545 rfl
        subst hQ; exact wk_zret r166_40 ⟨by omega, by omega⟩ (⟨rfl, _, rfl, hP544, hF546, by omega, by omega⟩)
    refine wk_icge r166_5 ⟨by omega, by omega⟩ (by decide) ?_ ?_
    · intro h475
      exact wp_fg (le_s (le_s (le_s (le_s le_0)))) (c23_550 M472 hP473 hF474)
    · intro h476
      refine wk_al0 r166_8 (wk_c8 r166_9 (wk_cv2 r166_11 kc_6_175 rfl (m175_6 _ M472 4119 hP473 (by decide)) (cqI ?_)))
      rintro v481 M477 ⟨hP478, hQ479, h482, h483⟩
      have hF480 : Fr fm_m166_6v2 M0 M477 := hF474.tr hQ479 rfl
      refine wk_ifeq r166_14 ⟨by omega, by omega⟩ ?_ ?_
      · intro h484
        exact wp_fg (le_s (le_s (le_s (le_s le_0)))) (c23_550 M477 hP478 hF480)
      · intro h485
        refine wk_inc2 r166_17 rfl (wk_goto r166_20 ?_)
        exact wp_fg (le_s (le_s (le_s (le_s le_0)))) (ih551 (6 - (v469 + 1)).toNat (by omega) M477 (v469 + 1) rfl hP478 hF480 (by omega) (by omega))
  exact wp_fg (le_s (le_s (le_s (le_s le_0)))) (c2_551 _ M0 0 rfl hP0 hF0 (by omega) (by omega))
def fm_m157_6v2 : Nat := 3941070043873280
/-- IslandHall$Parser.conjunction -/
theorem m157_6v2 {B : eB} (d : Nat) (M0 : Mm) (p1 : Int) (hP0 : Pw M0) (l1 : 2 ≤ p1) (u1 : p1 ≤ 2) : Ct B (d + 27) 157 [R 6, I p1] M0 (qI fun z M => Pw M ∧ Fr fm_m157_6v2 M0 M ∧ 0 ≤ z ∧ z ≤ 1) := by
  refine ct_of (d := d + 26) (k := 1) (L := [some (R 6), some (I p1), none]) rfl rfl rfl ?_
  have hF0 := Fr.rf fm_m157_6v2 M0
  generalize hQ : (qI fun z M => Pw M ∧ Fr fm_m157_6v2 M0 M ∧ 0 ≤ z ∧ z ≤ 1) = Q
  refine wk_al0 r157_0 (wk_il1 r157_1 (wk_cv2 r157_2 kc_6_166 rfl (m166_6v2 _ M0 p1 hP0 (by omega) (by omega)) (cqI ?_)))
  rintro v5 M1 ⟨hP2, hQ3, h6, h7⟩
  have hF4 : Fr fm_m157_6v2 M0 M1 := hF0.tr hQ3 rfl
  refine wk_ifne r157_5 ⟨by omega, by omega⟩ ?_ ?_
  · intro h8
    refine wk_c1 r157_10 (wk_is2 r157_11 rfl ?_)
    have c12_359 : ∀ (k359 : Nat) (M327 : Mm) (v324 : Int), (500 - v324).toNat = k359 → Pw M327 → Fr fm_m157_6v2 M0 M327 → 0 ≤ v324 → v324 ≤ 500 → Wp B (d + 26) 157 12 [some (R 6), some (I p1), some (I v324)] [] M327 Q := by
      refine lp_ind ?_
      intro k359 ih359 M327 v324 hk359 hP328 hF329 h325 h326
      refine wk_il2 r157_12 (wk_c3 r157_13 ?_)
      refine wk_icge r157_16 ⟨by omega, by omega⟩ (by decide) ?_ ?_
      · intro h330
        refine wk_c1 r157_53 ?_
        subst hQ; exact wk_zret r157_54 (by decide) (⟨rfl, _, rfl, hP328, hF329, by omega, by omega⟩)
      · intro h331
        refine wk_al0 r157_19 (wk_c8 r157_20 (wk_cv2 r157_22 kc_6_175 rfl (m175_6 _ M327 4125 hP328 (by decide)) (cqI ?_)))
        rintro v336 M332 ⟨hP333, hQ334, h337, h338⟩
        have hF335 : Fr fm_m157_6v2 M0 M332 := hF329.tr hQ334 rfl
        refine wk_ifeq r157_25 ⟨by omega, by omega⟩ ?_ ?_
        · intro h339
          refine wk_c1 r157_53 ?_
          subst hQ; exact wk_zret r157_54 (by decide) (⟨rfl, _, rfl, hP333, hF335, by omega, by omega⟩)
        · intro h340
          refine wk_al0 r157_28 (wk_il1 r157_29 (wk_cv2 r157_30 kc_6_166 rfl (m166_6v2 _ M332 p1 hP333 (by omega) (by omega)) (cqI ?_)))
          rintro v345 M341 ⟨hP342, hQ343, h346, h347⟩
          have hF344 : Fr fm_m157_6v2 M0 M341 := hF335.tr hQ343 rfl
          refine wk_ifeq r157_33 ⟨by omega, by omega⟩ ?_ ?_
          · intro h348
            refine wk_c1 r157_45 ?_
            subst hQ; exact wk_zret r157_46 (by decide) (⟨rfl, _, rfl, hP342, hF344, by omega, by omega⟩)
          · intro h349
            refine wk_al0 r157_36 (wk_c1 r157_37 (wk_c1 r157_38 (wk_cv3 r157_39 kc_6_172 rfl (m172_6 _ M341 2 0 hP342 (by decide) (by decide) (by decide) (by decide) (by first | assumption | omega | (unfold stepok; omega))) (cqI ?_))))
            rintro v354 M350 ⟨hP351, hQ352, h355, h356⟩
            have hF353 : Fr fm_m157_6v2 M0 M350 := hF344.tr hQ352 rfl
            refine wk_ifne r157_42 ⟨by omega, by omega⟩ ?_ ?_
            · intro h357
              refine wk_inc2 r157_47 rfl (wk_goto r157_50 ?_)
              exact wp_fg (le_s (le_s (le_s le_0))) (ih359 (500 - (v324 + 1)).toNat (by omega) M350 (v324 + 1) rfl hP351 hF353 (by omega) (by omega))
            · intro h358
              exfalso
              omega
    exact wp_fg (le_s (le_s (le_s le_0))) (c12_359 _ M1 0 rfl hP2 hF4 (by omega) (by omega))
  · intro h360
    refine wk_c1 r157_8 ?_
    subst hQ; exact wk_zret r157_9 (by decide) (⟨rfl, _, rfl, hP2, hF4, by omega, by omega⟩)
def fm_m158_6v2 : Nat := 3941070043873280
/-- IslandHall$Parser.expr -/
theorem m158_6v2 {B : eB} (d : Nat) (M0 : Mm) (p1 : Int) (hP0 : Pw M0) (l1 : 2 ≤ p1) (u1 : p1 ≤ 2) : Ct B (d + 28) 158 [R 6, I p1] M0 (qI fun z M => Pw M ∧ Fr fm_m158_6v2 M0 M ∧ 0 ≤ z ∧ z ≤ 1) := by
  refine ct_of (d := d + 27) (k := 1) (L := [some (R 6), some (I p1), none]) rfl rfl rfl ?_
  have hF0 := Fr.rf fm_m158_6v2 M0
  generalize hQ : (qI fun z M => Pw M ∧ Fr fm_m158_6v2 M0 M ∧ 0 ≤ z ∧ z ≤ 1) = Q
  refine wk_al0 r158_0 (wk_cv1 r158_1 kc_6_155 rfl (m155_6 _ M0 hP0) (cqI ?_))
  rintro v5 M1 ⟨hP2, hQ3, h6, h7⟩
  obtain rfl := Fr.same hQ3
  refine wk_ifne r158_4 ⟨by omega, by omega⟩ ?_ ?_
  · intro h8
    refine wk_il1 r158_13 (wk_c2 r158_14 ?_)
    refine wk_iclt r158_16 ⟨by omega, by omega⟩ (by decide) ?_ ?_
    · intro h9
      refine wk_al0 r158_25 (wk_il1 r158_26 (wk_cv2 r158_27 kc_6_157 rfl (m157_6v2 _ M0 p1 hP0 (by omega) (by omega)) (cqI ?_)))
      rintro v14 M10 ⟨hP11, hQ12, h15, h16⟩
      have hF13 : Fr fm_m158_6v2 M0 M10 := hF0.tr hQ12 rfl
      refine wk_ifne r158_30 ⟨by omega, by omega⟩ ?_ ?_
      · intro h17
        refine wk_c1 r158_35 (wk_is2 r158_36 rfl ?_)
        have c37_368 : ∀ (k368 : Nat) (M336 : Mm) (v333 : Int), (500 - v333).toNat = k368 → Pw M336 → Fr fm_m158_6v2 M0 M336 → 0 ≤ v333 → v333 ≤ 500 → Wp B (d + 27) 158 37 [some (R 6), some (I p1), some (I v333)] [] M336 Q := by
          refine lp_ind ?_
          intro k368 ih368 M336 v333 hk368 hP337 hF338 h334 h335
          refine wk_il2 r158_37 (wk_c3 r158_38 ?_)
          refine wk_icge r158_41 ⟨by omega, by omega⟩ (by decide) ?_ ?_
          · intro h339
            refine wk_c1 r158_78 ?_
            subst hQ; exact wk_zret r158_79 (by decide) (⟨rfl, _, rfl, hP337, hF338, by omega, by omega⟩)
          · intro h340
            refine wk_al0 r158_44 (wk_c8 r158_45 (wk_cv2 r158_47 kc_6_175 rfl (m175_6 _ M336 4126 hP337 (by decide)) (cqI ?_)))
            rintro v345 M341 ⟨hP342, hQ343, h346, h347⟩
            have hF344 : Fr fm_m158_6v2 M0 M341 := hF338.tr hQ343 rfl
            refine wk_ifeq r158_50 ⟨by omega, by omega⟩ ?_ ?_
            · intro h348
              refine wk_c1 r158_78 ?_
              subst hQ; exact wk_zret r158_79 (by decide) (⟨rfl, _, rfl, hP342, hF344, by omega, by omega⟩)
            · intro h349
              refine wk_al0 r158_53 (wk_il1 r158_54 (wk_cv2 r158_55 kc_6_157 rfl (m157_6v2 _ M341 p1 hP342 (by omega) (by omega)) (cqI ?_)))
              rintro v354 M350 ⟨hP351, hQ352, h355, h356⟩
              have hF353 : Fr fm_m158_6v2 M0 M350 := hF344.tr hQ352 rfl
              refine wk_ifeq r158_58 ⟨by omega, by omega⟩ ?_ ?_
              · intro h357
                refine wk_c1 r158_70 ?_
                subst hQ; exact wk_zret r158_71 (by decide) (⟨rfl, _, rfl, hP351, hF353, by omega, by omega⟩)
              · intro h358
                refine wk_al0 r158_61 (wk_c1 r158_62 (wk_c1 r158_63 (wk_cv3 r158_64 kc_6_172 rfl (m172_6 _ M350 3 0 hP351 (by decide) (by decide) (by decide) (by decide) (by first | assumption | omega | (unfold stepok; omega))) (cqI ?_))))
                rintro v363 M359 ⟨hP360, hQ361, h364, h365⟩
                have hF362 : Fr fm_m158_6v2 M0 M359 := hF353.tr hQ361 rfl
                refine wk_ifne r158_67 ⟨by omega, by omega⟩ ?_ ?_
                · intro h366
                  refine wk_inc2 r158_72 rfl (wk_goto r158_75 ?_)
                  exact wp_fg (le_s (le_s (le_s le_0))) (ih368 (500 - (v333 + 1)).toNat (by omega) M359 (v333 + 1) rfl hP360 hF362 (by omega) (by omega))
                · intro h367
                  exfalso
                  omega
        exact wp_fg (le_s (le_s (le_s le_0))) (c37_368 _ M10 0 rfl hP11 hF13 (by omega) (by omega))
      · intro h369
        refine wk_c1 r158_33 ?_
        subst hQ; exact wk_zret r158_34 (by decide) (⟨rfl, _, rfl, hP11, hF13, by omega, by omega⟩)
    · intro h370
      exfalso
      omega
  · intro h371
    refine wk_al0 r158_7 (wk_c1 r158_8 (wk_cv2 r158_9 kc_6_159 rfl (m159_6 _ M0 1 hP0 (by decide) (by decide)) (cqI ?_)))
    rintro v376 M372 ⟨hP373, hQ374, h377, h378⟩
    have hF375 : Fr fm_m158_6v2 M0 M372 := hF0.tr hQ374 rfl
    subst hQ; exact wk_zret r158_12 ⟨by omega, by omega⟩ (⟨rfl, _, rfl, hP373, hF375, by omega, by omega⟩)
def fm_m168_6v1 : Nat := 3941070043873280
/-- IslandHall$Parser.parenthesis -/
theorem m168_6v1 {B : eB} (d : Nat) (M0 : Mm) (p1 : Int) (hP0 : Pw M0) (l1 : 1 ≤ p1) (u1 : p1 ≤ 1) : Ct B (d + 29) 168 [R 6, I p1] M0 (qI fun z M => Pw M ∧ Fr fm_m168_6v1 M0 M ∧ 0 ≤ z ∧ z ≤ 1) := by
  refine ct_of (d := d + 28) (k := 0) (L := [some (R 6), some (I p1)]) rfl rfl rfl ?_
  have hF0 := Fr.rf fm_m168_6v1 M0
  generalize hQ : (qI fun z M => Pw M ∧ Fr fm_m168_6v1 M0 M ∧ 0 ≤ z ∧ z ≤ 1) = Q
  refine wk_al0 r168_0 (wk_c2 r168_1 (wk_cv2 r168_3 kc_6_174 rfl (m174_6 _ M0 40 hP0 (by decide) (by decide)) (cqI ?_)))
  rintro v5 M1 ⟨hP2, hQ3, h6, h7⟩
  have hF4 : Fr fm_m168_6v1 M0 M1 := hF0.tr hQ3 rfl
  refine wk_ifeq r168_6 ⟨by omega, by omega⟩ ?_ ?_
  · intro h8
    refine wk_c1 r168_32 ?_
    subst hQ; exact wk_zret r168_33 (by decide) (⟨rfl, _, rfl, hP2, hF4, by omega, by omega⟩)
  · intro h9
    refine wk_al0 r168_9 (wk_il1 r168_10 (wk_c1 r168_11 (wk_iadd r168_12 (wk_cv2 r168_13 kc_6_158 rfl (m158_6v2 _ M1 (p1 + 1) hP2 (by omega) (by omega)) (cqI ?_)))))
    rintro v14 M10 ⟨hP11, hQ12, h15, h16⟩
    have hF13 : Fr fm_m168_6v1 M0 M10 := hF4.tr hQ12 rfl
    refine wk_ifeq r168_16 ⟨by omega, by omega⟩ ?_ ?_
    · intro h17
      refine wk_c1 r168_32 ?_
      subst hQ; exact wk_zret r168_33 (by decide) (⟨rfl, _, rfl, hP11, hF13, by omega, by omega⟩)
    · intro h18
      refine wk_al0 r168_19 (wk_c2 r168_20 (wk_cv2 r168_22 kc_6_174 rfl (m174_6v1 _ M10 41 hP11 (by decide) (by decide)) (cqI ?_)))
      rintro v23 M19 ⟨hP20, hQ21, h24, h25⟩
      have hF22 : Fr fm_m168_6v1 M0 M19 := hF13.tr hQ21 rfl
      refine wk_ifeq r168_25 ⟨by omega, by omega⟩ ?_ ?_
      · intro h26
        refine wk_c1 r168_32 ?_
        subst hQ; exact wk_zret r168_33 (by decide) (⟨rfl, _, rfl, hP20, hF22, by omega, by omega⟩)
      · intro h27
        refine wk_c1 r168_28 (wk_goto r168_29 ?_)
        subst hQ; exact wk_zret r168_33 (by decide) (⟨rfl, _, rfl, hP20, hF22, by omega, by omega⟩)
def fm_m152_6v1 : Nat := 3941070043873280
/-- IslandHall$Parser.aboutSomeone -/
theorem m152_6v1 {B : eB} (d : Nat) (M0 : Mm) (p1 : Int) (hP0 : Pw M0) (l1 : 1 ≤ p1) (u1 : p1 ≤ 1) : Ct B (d + 30) 152 [R 6, I p1] M0 (qI fun z M => Pw M ∧ Fr fm_m152_6v1 M0 M ∧ 0 ≤ z ∧ z ≤ 1) := by
  refine ct_of (d := d + 29) (k := 2) (L := [some (R 6), some (I p1), none, none]) rfl rfl rfl ?_
  have hF0 := Fr.rf fm_m152_6v1 M0
  generalize hQ : (qI fun z M => Pw M ∧ Fr fm_m152_6v1 M0 M ∧ 0 ≤ z ∧ z ≤ 1) = Q
  refine wk_al0 r152_0 (wk_cv1 r152_1 kc_6_165 rfl (m165_6 _ M0 hP0) (cqI ?_))
  rintro v5 M1 ⟨hP2, hQ3, h6, h7⟩
  have hF4 : Fr fm_m152_6v1 M0 M1 := hF0.tr hQ3 rfl
  refine wk_is2 r152_4 rfl (wk_il2 r152_5 (wk_c1 r152_6 ?_))
  refine wk_icne r152_7 ⟨by omega, by omega⟩ (by decide) ?_ ?_
  · intro h8
    refine wk_al0 r152_12 (wk_c8 r152_13 (wk_cv2 r152_15 kc_6_175 rfl (m175_6 _ M1 4111 hP2 (by decide)) (cqI ?_)))
    rintro v13 M9 ⟨hP10, hQ11, h14, h15⟩
    have hF12 : Fr fm_m152_6v1 M0 M9 := hF4.tr hQ11 rfl
    refine wk_ifeq r152_18 ⟨by omega, by omega⟩ ?_ ?_
    · intro h16
      refine wk_al0 r152_35 (wk_c8 r152_36 (wk_cv2 r152_38 kc_6_175 rfl (m175_6 _ M9 4112 hP10 (by decide)) (cqI ?_)))
      rintro v21 M17 ⟨hP18, hQ19, h22, h23⟩
      have hF20 : Fr fm_m152_6v1 M0 M17 := hF12.tr hQ19 rfl
      refine wk_ifeq r152_41 ⟨by omega, by omega⟩ ?_ ?_
      · intro h24
        refine wk_al0 r152_73 (wk_c8 r152_74 (wk_cv2 r152_76 kc_6_175 rfl (m175_6 _ M17 4113 hP18 (by decide)) (cqI ?_)))
        rintro v29 M25 ⟨hP26, hQ27, h30, h31⟩
        have hF28 : Fr fm_m152_6v1 M0 M25 := hF20.tr hQ27 rfl
        refine wk_ifne r152_79 ⟨by omega, by omega⟩ ?_ ?_
        · intro h32
          refine wk_al0 r152_88 (wk_il1 r152_89 (wk_cv2 r152_90 kc_6_168 rfl (m168_6v1 _ M25 p1 hP26 (by omega) (by omega)) (cqI ?_)))
          rintro v37 M33 ⟨hP34, hQ35, h38, h39⟩
          have hF36 : Fr fm_m152_6v1 M0 M33 := hF28.tr hQ35 rfl
          refine wk_ifne r152_93 ⟨by omega, by omega⟩ ?_ ?_
          · intro h40
            refine wk_al0 r152_98 ?_
            obtain ⟨v41, e42⟩ : ∃ v, M33 6 2 = v := ⟨_, rfl⟩
            have hC43 : isC v41 := by have := pcE hP34; rw [e42] at this; exact this
            refine wk_getfr r152_99 fd_6_2 e42 (wk_il2 r152_102 (wk_cv2 r152_103 (kcC_139 hC43) rfl (m139 _ M33 v41 v5 hP34 hC43 (by omega) (by omega)) (cqV ?_)))
            rintro M44 ⟨hP45, hQ46⟩
            have hF47 : Fr fm_m152_6v1 M0 M44 := hF36.tr hQ46 rfl
            refine wk_c1 r152_106 ?_
            subst hQ; exact wk_zret r152_107 (by decide) (⟨rfl, _, rfl, hP45, hF47, by omega, by omega⟩)
          · intro h48
            refine wk_c1 r152_96 ?_
            subst hQ; exact wk_zret r152_97 (by decide) (⟨rfl, _, rfl, hP34, hF36, by omega, by omega⟩)
        · intro h49
          refine wk_al0 r152_82 (wk_c1 r152_83 (wk_cv2 r152_84 kc_6_159 rfl (m159_6 _ M25 1 hP26 (by decide) (by decide)) (cqI ?_)))
          rintro v54 M50 ⟨hP51, hQ52, h55, h56⟩
          have hF53 : Fr fm_m152_6v1 M0 M50 := hF28.tr hQ52 rfl
          subst hQ; exact wk_zret r152_87 ⟨by omega, by omega⟩ (⟨rfl, _, rfl, hP51, hF53, by omega, by omega⟩)
      · intro h57
        refine wk_al0 r152_44 (wk_cv1 r152_45 kc_6_165 rfl (m165_6 _ M17 hP18) (cqI ?_))
        rintro v62 M58 ⟨hP59, hQ60, h63, h64⟩
        have hF61 : Fr fm_m152_6v1 M0 M58 := hF20.tr hQ60 rfl
        refine wk_is3 r152_48 rfl (wk_il3 r152_49 (wk_c1 r152_50 ?_))
        refine wk_iceq r152_51 ⟨by omega, by omega⟩ (by decide) ?_ ?_
        · intro h65
          refine wk_c1 r152_71 ?_
          subst hQ; exact wk_zret r152_72 (by decide) (⟨rfl, _, rfl, hP59, hF61, by omega, by omega⟩)
        · intro h66
          refine wk_al0 r152_54 (wk_c1 r152_55 (wk_il2 r152_56 (wk_c1 r152_57 (wk_ishlc r152_58 (by decide) pwl_3 (wk_il3 r152_59 (wk_iord2 3 8 r152_60 (by decide) ⟨by omega, by omega⟩ ⟨by omega, by omega, by omega⟩ (wk_cv3 r152_61 kc_6_172 rfl (m172_6 _ M58 5 ((v5 * 8) + v62) hP59 (by decide) (by decide) (by omega) (by omega) (by first | assumption | omega | (unfold stepok; omega))) (cqI ?_))))))))
          rintro v71 M67 ⟨hP68, hQ69, h72, h73⟩
          have hF70 : Fr fm_m152_6v1 M0 M67 := hF61.tr hQ69 rfl
          refine wk_ifeq r152_64 ⟨by omega, by omega⟩ ?_ ?_
          · intro h74
            exfalso
            omega
          · intro h75
            refine wk_c1 r152_67 (wk_goto r152_68 ?_)
            subst hQ; exact wk_zret r152_72 (by decide) (⟨rfl, _, rfl, hP68, hF70, by omega, by omega⟩)
    · intro h76
      refine wk_al0 r152_21 (wk_c1 r152_22 (wk_il2 r152_23 (wk_c1 r152_24 (wk_imul r152_25 (wk_iadd r152_26 (wk_al0 r152_27 (wk_cv1 r152_28 kc_6_173 rfl (m173_6 _ M9 hP10) (cqI ?_))))))))
      rintro v81 M77 ⟨hP78, hQ79, h82, h83⟩
      have hF80 : Fr fm_m152_6v1 M0 M77 := hF12.tr hQ79 rfl
      refine wk_cv3 r152_31 kc_6_171 rfl (m171_6v3 _ M77 (0 + (v5 * 5)) v81 hP78 (by omega) (by omega) (by omega) (by omega)) (cqI ?_)
      rintro v88 M84 ⟨hP85, hQ86, h89, h90⟩
      have hF87 : Fr fm_m152_6v1 M0 M84 := hF80.tr hQ86 rfl
      subst hQ; exact wk_zret r152_34 ⟨by omega, by omega⟩ (⟨rfl, _, rfl, hP85, hF87, by omega, by omega⟩)
  · intro h91
    refine wk_c1 r152_10 ?_
    subst hQ; exact wk_zret r152_11 (by decide) (⟨rfl, _, rfl, hP2, hF4, by omega, by omega⟩)
def fm_m153_6v1 : Nat := 3941070043873280
/-- IslandHall$Parser.atom -/
theorem m153_6v1 {B : eB} (d : Nat) (M0 : Mm) (p1 : Int) (hP0 : Pw M0) (l1 : 1 ≤ p1) (u1 : p1 ≤ 1) : Ct B (d + 31) 153 [R 6, I p1] M0 (qI fun z M => Pw M ∧ Fr fm_m153_6v1 M0 M ∧ 0 ≤ z ∧ z ≤ 1) := by
  refine ct_of (d := d + 30) (k := 0) (L := [some (R 6), some (I p1)]) rfl rfl rfl ?_
  have hF0 := Fr.rf fm_m153_6v1 M0
  generalize hQ : (qI fun z M => Pw M ∧ Fr fm_m153_6v1 M0 M ∧ 0 ≤ z ∧ z ≤ 1) = Q
  refine wk_al0 r153_0 (wk_getfr r153_1 fd_6_0 (br_6_0 hP0) (wk_cv1 r153_4 kc_9_237 rfl (m237_9 _ M0 hP0) (cqI ?_)))
  rintro v7 M1 ⟨hP2, hQ3, h8, h9, h5, h6⟩
  obtain rfl := Fr.same hQ3
  obtain ⟨v10, e11⟩ : ∃ v, M0 9 2 = v := ⟨_, rfl⟩
  have h12 := bf_9_2 hP0; rw [e11] at h12
  obtain ⟨v13, e14⟩ : ∃ v, M0 9 3 = v := ⟨_, rfl⟩
  have h15 := bf_9_3 hP0; rw [e14] at h15
  refine wk_ifeq r153_7 ⟨by omega, by omega⟩ ?_ ?_
  · intro h16
    refine wk_al0 r153_16 (wk_c8 r153_17 (wk_cv2 r153_19 kc_6_175 rfl (m175_6 _ M0 4114 hP0 (by decide)) (cqI ?_)))
    rintro v21 M17 ⟨hP18, hQ19, h22, h23⟩
    have hF20 : Fr fm_m153_6v1 M0 M17 := hF0.tr hQ19 rfl
    refine wk_ifeq r153_22 ⟨by omega, by omega⟩ ?_ ?_
    · intro h24
      refine wk_al0 r153_38 (wk_c8 r153_39 (wk_cv2 r153_41 kc_6_175 rfl (m175_6 _ M17 4115 hP18 (by decide)) (cqI ?_)))
      rintro v29 M25 ⟨hP26, hQ27, h30, h31⟩
      have hF28 : Fr fm_m153_6v1 M0 M25 := hF20.tr hQ27 rfl
      refine wk_ifeq r153_44 ⟨by omega, by omega⟩ ?_ ?_
      · intro h32
        refine wk_al0 r153_61 (wk_c8 r153_62 (wk_cv2 r153_64 kc_6_175 rfl (m175_6 _ M25 4116 hP26 (by decide)) (cqI ?_)))
        rintro v37 M33 ⟨hP34, hQ35, h38, h39⟩
        have hF36 : Fr fm_m153_6v1 M0 M33 := hF28.tr hQ35 rfl
        refine wk_ifeq r153_67 ⟨by omega, by omega⟩ ?_ ?_
        · intro h40
          refine wk_al0 r153_83 (wk_c8 r153_84 (wk_cv2 r153_86 kc_6_175 rfl (m175_6 _ M33 4117 hP34 (by decide)) (cqI ?_)))
          rintro v45 M41 ⟨hP42, hQ43, h46, h47⟩
          have hF44 : Fr fm_m153_6v1 M0 M41 := hF36.tr hQ43 rfl
          refine wk_ifeq r153_89 ⟨by omega, by omega⟩ ?_ ?_
          · intro h48
            refine wk_al0 r153_97 (wk_c8 r153_98 (wk_cv2 r153_100 kc_6_175 rfl (m175_6 _ M41 4118 hP42 (by decide)) (cqI ?_)))
            rintro v53 M49 ⟨hP50, hQ51, h54, h55⟩
            have hF52 : Fr fm_m153_6v1 M0 M49 := hF44.tr hQ51 rfl
            refine wk_ifeq r153_103 ⟨by omega, by omega⟩ ?_ ?_
            · intro h56
              refine wk_al0 r153_117 (wk_c1 r153_118 (wk_cv2 r153_119 kc_6_159 rfl (m159_6 _ M49 1 hP50 (by decide) (by decide)) (cqI ?_)))
              rintro v61 M57 ⟨hP58, hQ59, h62, h63⟩
              have hF60 : Fr fm_m153_6v1 M0 M57 := hF52.tr hQ59 rfl
              subst hQ; exact wk_zret r153_122 ⟨by omega, by omega⟩ (⟨rfl, _, rfl, hP58, hF60, by omega, by omega⟩)
            · intro h64
              refine wk_al0 r153_106 (wk_al0 r153_107 (wk_cv1 r153_108 kc_6_173 rfl (m173_6 _ M49 hP50) (cqI ?_)))
              rintro v69 M65 ⟨hP66, hQ67, h70, h71⟩
              have hF68 : Fr fm_m153_6v1 M0 M65 := hF52.tr hQ67 rfl
              refine wk_cv2 r153_111 kc_6_163 rfl (m163_6 _ M65 v69 hP66 (by omega) (by omega)) (cqI ?_)
              rintro v76 M72 ⟨hP73, hQ74, h77, h78⟩
              have hF75 : Fr fm_m153_6v1 M0 M72 := hF68.tr hQ74 rfl
              refine wk_goto r153_114 ?_
              subst hQ; exact wk_zret r153_122 ⟨by omega, by omega⟩ (⟨rfl, _, rfl, hP73, hF75, by omega, by omega⟩)
          · intro h79
            refine wk_al0 r153_92 (wk_cv1 r153_93 kc_6_176 rfl (m176_6 _ M41 hP42) (cqI ?_))
            rintro v84 M80 ⟨hP81, hQ82, h85, h86⟩
            have hF83 : Fr fm_m153_6v1 M0 M80 := hF44.tr hQ82 rfl
            subst hQ; exact wk_zret r153_96 ⟨by omega, by omega⟩ (⟨rfl, _, rfl, hP81, hF83, by omega, by omega⟩)
        · intro h87
          refine wk_al0 r153_70 (wk_c2 r153_71 (wk_al0 r153_73 (wk_c1 r153_74 (wk_c1 r153_75 (wk_cv3 r153_76 kc_6_167 rfl (m167_6v1 _ M33 0 1 hP34 (by decide) (by decide) (by decide) (by decide)) (cqI ?_))))))
          rintro v92 M88 ⟨hP89, hQ90, h93, h94⟩
          have hF91 : Fr fm_m153_6v1 M0 M88 := hF36.tr hQ90 rfl
          refine wk_cv3 r153_79 kc_6_171 rfl (m171_6 _ M88 46 v92 hP89 (by decide) (by decide) (by omega) (by omega)) (cqI ?_)
          rintro v99 M95 ⟨hP96, hQ97, h100, h101⟩
          have hF98 : Fr fm_m153_6v1 M0 M95 := hF91.tr hQ97 rfl
          subst hQ; exact wk_zret r153_82 ⟨by omega, by omega⟩ (⟨rfl, _, rfl, hP96, hF98, by omega, by omega⟩)
      · intro h102
        refine wk_al0 r153_47 (wk_c2 r153_48 (wk_al0 r153_50 (wk_c1 r153_51 (wk_c2 r153_52 (wk_cv3 r153_54 kc_6_167 rfl (m167_6v2 _ M25 0 6 hP26 (by decide) (by decide) (by decide) (by decide)) (cqI ?_))))))
        rintro v107 M103 ⟨hP104, hQ105, h108, h109⟩
        have hF106 : Fr fm_m153_6v1 M0 M103 := hF28.tr hQ105 rfl
        refine wk_cv3 r153_57 kc_6_171 rfl (m171_6v1 _ M103 39 v107 hP104 (by decide) (by decide) (by omega) (by omega)) (cqI ?_)
        rintro v114 M110 ⟨hP111, hQ112, h115, h116⟩
        have hF113 : Fr fm_m153_6v1 M0 M110 := hF106.tr hQ112 rfl
        subst hQ; exact wk_zret r153_60 ⟨by omega, by omega⟩ (⟨rfl, _, rfl, hP111, hF113, by omega, by omega⟩)
    · intro h117
      refine wk_al0 r153_25 (wk_c2 r153_26 (wk_al0 r153_28 (wk_c1 r153_29 (wk_c1 r153_30 (wk_cv3 r153_31 kc_6_167 rfl (m167_6v3 _ M17 0 3 hP18 (by decide) (by decide) (by decide) (by decide)) (cqI ?_))))))
      rintro v122 M118 ⟨hP119, hQ120, h123, h124⟩
      have hF121 : Fr fm_m153_6v1 M0 M118 := hF20.tr hQ120 rfl
      refine wk_cv3 r153_34 kc_6_171 rfl (m171_6v2 _ M118 35 v122 hP119 (by decide) (by decide) (by omega) (by omega)) (cqI ?_)
      rintro v129 M125 ⟨hP126, hQ127, h130, h131⟩
      have hF128 : Fr fm_m153_6v1 M0 M125 := hF121.tr hQ127 rfl
      subst hQ; exact wk_zret r153_37 ⟨by omega, by omega⟩ (⟨rfl, _, rfl, hP126, hF128, by omega, by omega⟩)
  · intro h132
    refine wk_al0 r153_10 (wk_il1 r153_11 (wk_cv2 r153_12 kc_6_152 rfl (m152_6v1 _ M0 p1 hP0 (by omega) (by omega)) (cqI ?_)))
    rintro v137 M133 ⟨hP134, hQ135, h138, h139⟩
    have hF136 : Fr fm_m153_6v1 M0 M133 := hF0.tr hQ135 rfl
    subst hQ; exact wk_zret r153_15 ⟨by omega, by omega⟩ (⟨rfl, _, rfl, hP134, hF136, by omega, by omega⟩)
