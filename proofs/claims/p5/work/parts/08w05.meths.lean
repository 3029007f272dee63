/-! ===== written by program (wip/layer2/all.py): contracts of methods ===== -/
def fm_m166_6 : Nat := 3941070043873280
/-- IslandHall$Parser.negation -/
theorem m166_6 {B : eB} (d : Nat) (M0 : Mm) (p1 : Int) (hP0 : Pw M0) (l1 : 0 ≤ p1) (u1 : p1 ≤ 0) : Ct B (d + 38) 166 [R 6, I p1] M0 (qI fun z M => Pw M ∧ Fr fm_m166_6 M0 M ∧ 0 ≤ z ∧ z ≤ 1 ∧ 0 ≤ z + M 6 4 + (-1)) := by
  refine ct_of (d := d + 37) (k := 2) (L := [some (R 6), some (I p1), none, none]) rfl rfl rfl ?_
  have hF0 := Fr.rf fm_m166_6 M0
  generalize hQ : (qI fun z M => Pw M ∧ Fr fm_m166_6 M0 M ∧ 0 ≤ z ∧ z ≤ 1 ∧ 0 ≤ z + M 6 4 + (-1)) = Q
  refine wk_c1 r166_0 (wk_is2 r166_1 rfl ?_)
  have c2_658 : ∀ (k658 : Nat) (M562 : Mm) (v559 : Int), (6 - v559).toNat = k658 → Pw M562 → Fr fm_m166_6 M0 M562 → 0 ≤ v559 → v559 ≤ 6 → Wp B (d + 37) 166 2 [some (R 6), some (I p1), some (I v559), none] [] M562 Q := by
    refine lp_ind ?_
    intro k658 ih658 M562 v559 hk658 hP563 hF564 h560 h561
    refine wk_il2 r166_2 (wk_c2 r166_3 ?_)
    have c23_657 : ∀ (M576 : Mm), Pw M576 → Fr fm_m166_6 M0 M576 → Wp B (d + 37) 166 23 [some (R 6), some (I p1), some (I v559), none] [] M576 Q := by
      intro M576 hP577 hF578
      refine wk_al0 r166_23 (wk_getfr r166_24 fd_6_0 (br_6_0 hP577) (wk_c8 r166_27 (wk_cv2 r166_29 kc_9_239 rfl (m239_9 _ M576 4119 hP577 (by decide)) (cqI ?_))))
      rintro v584 M579 ⟨hP580, hQ581, h585, h586, xh583⟩
      obtain rfl := Fr.same hQ581
      refine wk_ifeq r166_32 ⟨by omega, by omega⟩ ?_ ?_
      · intro h587
        refine wk_al0 r166_41 (wk_getfr r166_42 fd_6_0 (br_6_0 hP577) (wk_c2 r166_45 (wk_cv2 r166_47 kc_9_238 rfl (m238_9 _ M576 40 hP577 (by decide) (by decide)) (cqI ?_))))
        rintro v592 M588 ⟨hP589, hQ590, h593, h594⟩
        obtain rfl := Fr.same hQ590
        have c66_644 : ∀ (M622 : Mm) (v619 : Int) (v625 : Int), Pw M622 → Fr fm_m166_6 M0 M622 → M622 6 4 = v625 → 0 ≤ v619 → v619 ≤ 1 → 0 ≤ v625 → v625 ≤ 6 → 1 ≤ v619 + v625 → Wp B (d + 37) 166 66 [some (R 6), none, some (I v559), none] [I v619] M622 Q := by
          intro M622 v619 v625 hP623 hF624 e628 h620 h621 h626 h627 h629
          refine wk_is3 r166_66 rfl (wk_il3 r166_67 ?_)
          refine wk_ifeq r166_68 ⟨by omega, by omega⟩ ?_ ?_
          · intro h630
            refine wk_c1 r166_90 ?_
            subst hQ; exact wk_zret r166_91 (by decide) (⟨rfl, _, rfl, hP623, hF624, by omega, by omega, by have := e628; omega⟩)
          · intro h631
            refine wk_il2 r166_71 (wk_c1 r166_72 (wk_iandc 1 2 r166_73 ⟨rfl, by decide⟩ rfl ?_))
            refine wk_ifeq r166_74 ⟨by omega, by omega⟩ ?_ ?_
            · intro h633
              refine wk_c1 r166_86 (wk_goto r166_87 ?_)
              subst hQ; exact wk_zret r166_91 (by decide) (⟨rfl, _, rfl, hP623, hF624, by omega, by omega, by have := e628; omega⟩)
            · intro h634
              refine wk_al0 r166_77 (wk_c1 r166_78 (wk_c1 r166_79 (wk_cv3 r166_80 kc_6_172 rfl (m172_6 _ M622 1 0 hP623 (by decide) (by decide) (by decide) (by decide) (by first | assumption | omega | (unfold stepok; omega))) (cqI ?_))))
              rintro v639 M635 ⟨hP636, hQ637, h640, h641⟩
              have hF638 : Fr fm_m166_6 M0 M635 := hF624.tr hQ637 rfl
              refine wk_ifeq r166_83 ⟨by omega, by omega⟩ ?_ ?_
              · intro h642
                exfalso
                omega
              · intro h643
                refine wk_c1 r166_86 (wk_goto r166_87 ?_)
                subst hQ; exact wk_zret r166_91 (by decide) (⟨rfl, _, rfl, hP636, hF638, by omega, by omega, by have := ((hQ637.at g_6_4 rfl).trans e628); omega⟩)
        refine wk_ifeq r166_50 ⟨by omega, by omega⟩ ?_ ?_
        · intro h595
          refine wk_al0 r166_61 (wk_il1 r166_62 (wk_cv2 r166_63 kc_6_153 rfl (m153_6 _ M576 p1 hP577 (by omega) (by omega)) (cqI ?_)))
          rintro v601 M596 ⟨hP597, hQ598, h602, h603, h600⟩
          have hF599 : Fr fm_m166_6 M0 M596 := hF578.tr hQ598 rfl
          obtain ⟨v604, e605⟩ : ∃ v, M596 6 4 = v := ⟨_, rfl⟩
          have h606 := bf_6_4 hP597; rw [e605] at h606
          exact wp_fg (le_s (le_n (le_s (le_s le_0)))) (c66_644 M596 v601 v604 hP597 hF599 e605 (by omega) (by omega) (by omega) (by omega) (by omega))
        · intro h607
          refine wk_al0 r166_53 (wk_il1 r166_54 (wk_cv2 r166_55 kc_6_168 rfl (m168_6 _ M576 p1 hP577 (by omega) (by omega)) (cqI ?_)))
          rintro v613 M608 ⟨hP609, hQ610, h614, h615, h612⟩
          have hF611 : Fr fm_m166_6 M0 M608 := hF578.tr hQ610 rfl
          obtain ⟨v616, e617⟩ : ∃ v, M608 6 4 = v := ⟨_, rfl⟩
          have h618 := bf_6_4 hP609; rw [e617] at h618
          refine wk_goto r166_58 ?_
          exact wp_fg (le_s (le_n (le_s (le_s le_0)))) (c66_644 M608 v613 v616 hP609 hF611 e617 (by omega) (by omega) (by omega) (by omega) (by omega))
      · intro h645
        refine wk_al0 r166_35 (wk_c1 r166_36 (wk_cv2 r166_37 kc_6_159 rfl (m159_6v1 _ M576 2 hP577 (by decide) (by decide)) (cqI ?_)))
        rintro v651 M646 ⟨hP647, hQ648, h652, h653, h650⟩
        have hF649 : Fr fm_m166_6 M0 M646 := hF578.tr hQ648 rfl
        obtain ⟨v654, e655⟩ : ∃ v, M646 6 4 = v := ⟨_, rfl⟩
        have h656 := bf_6_4 hP647; rw [e655] at h656
        subst hQ; exact wk_zret r166_40 ⟨by omega, by omega⟩ (⟨rfl, _, rfl, hP647, hF649, by omega, by omega, by have := e655; omega⟩)
    refine wk_icge r166_5 ⟨by omega, by omega⟩ (by decide) ?_ ?_
    · intro h565
      exact wp_fg (le_s (le_s (le_s (le_s le_0)))) (c23_657 M562 hP563 hF564)
    · intro h566
      refine wk_al0 r166_8 (wk_c8 r166_9 (wk_cv2 r166_11 kc_6_175 rfl (m175_6 _ M562 4119 hP563 (by decide)) (cqI ?_)))
      rintro v571 M567 ⟨hP568, hQ569, h572, h573⟩
      have hF570 : Fr fm_m166_6 M0 M567 := hF564.tr hQ569 rfl
      refine wk_ifeq r166_14 ⟨by omega, by omega⟩ ?_ ?_
      · intro h574
        exact wp_fg (le_s (le_s (le_s (le_s le_0)))) (c23_657 M567 hP568 hF570)
      · intro h575
        refine wk_inc2 r166_17 rfl (wk_goto r166_20 ?_)
        exact wp_fg (le_s (le_s (le_s (le_s le_0)))) (ih658 (6 - (v559 + 1)).toNat (by omega) M567 (v559 + 1) rfl hP568 hF570 (by omega) (by omega))
  exact wp_fg (le_s (le_s (le_s (le_s le_0)))) (c2_658 _ M0 0 rfl hP0 hF0 (by omega) (by omega))
def fm_m157_6 : Nat := 3941070043873280
/-- IslandHall$Parser.conjunction -/
theorem m157_6 {B : eB} (d : Nat) (M0 : Mm) (p1 : Int) (hP0 : Pw M0) (l1 : 0 ≤ p1) (u1 : p1 ≤ 0) : Ct B (d + 39) 157 [R 6, I p1] M0 (qI fun z M => Pw M ∧ Fr fm_m157_6 M0 M ∧ 0 ≤ z ∧ z ≤ 1 ∧ 0 ≤ z + M 6 4 + (-1)) := by
  refine ct_of (d := d + 38) (k := 1) (L := [some (R 6), some (I p1), none]) rfl rfl rfl ?_
  have hF0 := Fr.rf fm_m157_6 M0
  generalize hQ : (qI fun z M => Pw M ∧ Fr fm_m157_6 M0 M ∧ 0 ≤ z ∧ z ≤ 1 ∧ 0 ≤ z + M 6 4 + (-1)) = Q
  refine wk_al0 r157_0 (wk_il1 r157_1 (wk_cv2 r157_2 kc_6_166 rfl (m166_6 _ M0 p1 hP0 (by omega) (by omega)) (cqI ?_)))
  rintro v6 M1 ⟨hP2, hQ3, h7, h8, h5⟩
  have hF4 : Fr fm_m157_6 M0 M1 := hF0.tr hQ3 rfl
  obtain ⟨v9, e10⟩ : ∃ v, M1 6 4 = v := ⟨_, rfl⟩
  have h11 := bf_6_4 hP2; rw [e10] at h11
  refine wk_ifne r157_5 ⟨by omega, by omega⟩ ?_ ?_
  · intro h12
    refine wk_c1 r157_10 (wk_is2 r157_11 rfl ?_)
    have c12_442 : ∀ (k442 : Nat) (M401 : Mm) (v398 : Int) (v404 : Int), (500 - v398).toNat = k442 → Pw M401 → Fr fm_m157_6 M0 M401 → M401 6 4 = v404 → 0 ≤ v398 → v398 ≤ 500 → 0 ≤ v404 → v404 ≤ 6 → 0 ≤ (-1) * v404 + v398 + 6 → Wp B (d + 38) 157 12 [some (R 6), some (I p1), some (I v398)] [] M401 Q := by
      refine lp_ind ?_
      intro k442 ih442 M401 v398 v404 hk442 hP402 hF403 e407 h399 h400 h405 h406 h408
      refine wk_il2 r157_12 (wk_c3 r157_13 ?_)
      refine wk_icge r157_16 ⟨by omega, by omega⟩ (by decide) ?_ ?_
      · intro h409
        refine wk_c1 r157_53 ?_
        subst hQ; exact wk_zret r157_54 (by decide) (⟨rfl, _, rfl, hP402, hF403, by omega, by omega, by have := e407; omega⟩)
      · intro h410
        refine wk_al0 r157_19 (wk_c8 r157_20 (wk_cv2 r157_22 kc_6_175 rfl (m175_6 _ M401 4125 hP402 (by decide)) (cqI ?_)))
        rintro v415 M411 ⟨hP412, hQ413, h416, h417⟩
        have hF414 : Fr fm_m157_6 M0 M411 := hF403.tr hQ413 rfl
        refine wk_ifeq r157_25 ⟨by omega, by omega⟩ ?_ ?_
        · intro h418
          refine wk_c1 r157_53 ?_
          subst hQ; exact wk_zret r157_54 (by decide) (⟨rfl, _, rfl, hP412, hF414, by omega, by omega, by have := ((hQ413.at g_6_4 rfl).trans e407); omega⟩)
        · intro h419
          refine wk_al0 r157_28 (wk_il1 r157_29 (wk_cv2 r157_30 kc_6_166 rfl (m166_6 _ M411 p1 hP412 (by omega) (by omega)) (cqI ?_)))
          rintro v425 M420 ⟨hP421, hQ422, h426, h427, h424⟩
          have hF423 : Fr fm_m157_6 M0 M420 := hF414.tr hQ422 rfl
          obtain ⟨v428, e429⟩ : ∃ v, M420 6 4 = v := ⟨_, rfl⟩
          have h430 := bf_6_4 hP421; rw [e429] at h430
          refine wk_ifeq r157_33 ⟨by omega, by omega⟩ ?_ ?_
          · intro h431
            refine wk_c1 r157_45 ?_
            subst hQ; exact wk_zret r157_46 (by decide) (⟨rfl, _, rfl, hP421, hF423, by omega, by omega, by have := e429; omega⟩)
          · intro h432
            refine wk_al0 r157_36 (wk_c1 r157_37 (wk_c1 r157_38 (wk_cv3 r157_39 kc_6_172 rfl (m172_6 _ M420 2 0 hP421 (by decide) (by decide) (by decide) (by decide) (by first | assumption | omega | (unfold stepok; omega))) (cqI ?_))))
            rintro v437 M433 ⟨hP434, hQ435, h438, h439⟩
            have hF436 : Fr fm_m157_6 M0 M433 := hF423.tr hQ435 rfl
            refine wk_ifne r157_42 ⟨by omega, by omega⟩ ?_ ?_
            · intro h440
              refine wk_inc2 r157_47 rfl (wk_goto r157_50 ?_)
              exact wp_fg (le_s (le_s (le_s le_0))) (ih442 (500 - (v398 + 1)).toNat (by omega) M433 (v398 + 1) v428 rfl hP434 hF436 ((hQ435.at g_6_4 rfl).trans e429) (by omega) (by omega) (by omega) (by omega) (by omega))
            · intro h441
              exfalso
              omega
    exact wp_fg (le_s (le_s (le_s le_0))) (c12_442 _ M1 0 v9 rfl hP2 hF4 e10 (by omega) (by omega) (by omega) (by omega) (by omega))
  · intro h443
    refine wk_c1 r157_8 ?_
    subst hQ; exact wk_zret r157_9 (by decide) (⟨rfl, _, rfl, hP2, hF4, by omega, by omega, by have := e10; omega⟩)
def fm_m158_6 : Nat := 3941070043873280
/-- IslandHall$Parser.expr -/
theorem m158_6 {B : eB} (d : Nat) (M0 : Mm) (p1 : Int) (hP0 : Pw M0) (l1 : 0 ≤ p1) (u1 : p1 ≤ 0) : Ct B (d + 40) 158 [R 6, I p1] M0 (qI fun z M => Pw M ∧ Fr fm_m158_6 M0 M ∧ 0 ≤ z ∧ z ≤ 1 ∧ 0 ≤ z + M 6 4 + (-1)) := by
  refine ct_of (d := d + 39) (k := 1) (L := [some (R 6), some (I p1), none]) rfl rfl rfl ?_
  have hF0 := Fr.rf fm_m158_6 M0
  generalize hQ : (qI fun z M => Pw M ∧ Fr fm_m158_6 M0 M ∧ 0 ≤ z ∧ z ≤ 1 ∧ 0 ≤ z + M 6 4 + (-1)) = Q
  refine wk_al0 r158_0 (wk_cv1 r158_1 kc_6_155 rfl (m155_6 _ M0 hP0) (cqI ?_))
  rintro v5 M1 ⟨hP2, hQ3, h6, h7⟩
  obtain rfl := Fr.same hQ3
  refine wk_ifne r158_4 ⟨by omega, by omega⟩ ?_ ?_
  · intro h8
    refine wk_il1 r158_13 (wk_c2 r158_14 ?_)
    refine wk_iclt r158_16 ⟨by omega, by omega⟩ (by decide) ?_ ?_
    · intro h9
      refine wk_al0 r158_25 (wk_il1 r158_26 (wk_cv2 r158_27 kc_6_157 rfl (m157_6 _ M0 p1 hP0 (by omega) (by omega)) (cqI ?_)))
      rintro v15 M10 ⟨hP11, hQ12, h16, h17, h14⟩
      have hF13 : Fr fm_m158_6 M0 M10 := hF0.tr hQ12 rfl
      obtain ⟨v18, e19⟩ : ∃ v, M10 6 4 = v := ⟨_, rfl⟩
      have h20 := bf_6_4 hP11; rw [e19] at h20
      refine wk_ifne r158_30 ⟨by omega, by omega⟩ ?_ ?_
      · intro h21
        refine wk_c1 r158_35 (wk_is2 r158_36 rfl ?_)
        have c37_451 : ∀ (k451 : Nat) (M410 : Mm) (v407 : Int) (v413 : Int), (500 - v407).toNat = k451 → Pw M410 → Fr fm_m158_6 M0 M410 → M410 6 4 = v413 → 0 ≤ v407 → v407 ≤ 500 → 0 ≤ v413 → v413 ≤ 6 → 0 ≤ (-1) * v413 + v407 + 6 → Wp B (d + 39) 158 37 [some (R 6), some (I p1), some (I v407)] [] M410 Q := by
          refine lp_ind ?_
          intro k451 ih451 M410 v407 v413 hk451 hP411 hF412 e416 h408 h409 h414 h415 h417
          refine wk_il2 r158_37 (wk_c3 r158_38 ?_)
          refine wk_icge r158_41 ⟨by omega, by omega⟩ (by decide) ?_ ?_
          · intro h418
            refine wk_c1 r158_78 ?_
            subst hQ; exact wk_zret r158_79 (by decide) (⟨rfl, _, rfl, hP411, hF412, by omega, by omega, by have := e416; omega⟩)
          · intro h419
            refine wk_al0 r158_44 (wk_c8 r158_45 (wk_cv2 r158_47 kc_6_175 rfl (m175_6 _ M410 4126 hP411 (by decide)) (cqI ?_)))
            rintro v424 M420 ⟨hP421, hQ422, h425, h426⟩
            have hF423 : Fr fm_m158_6 M0 M420 := hF412.tr hQ422 rfl
            refine wk_ifeq r158_50 ⟨by omega, by omega⟩ ?_ ?_
            · intro h427
              refine wk_c1 r158_78 ?_
              subst hQ; exact wk_zret r158_79 (by decide) (⟨rfl, _, rfl, hP421, hF423, by omega, by omega, by have := ((hQ422.at g_6_4 rfl).trans e416); omega⟩)
            · intro h428
              refine wk_al0 r158_53 (wk_il1 r158_54 (wk_cv2 r158_55 kc_6_157 rfl (m157_6 _ M420 p1 hP421 (by omega) (by omega)) (cqI ?_)))
              rintro v434 M429 ⟨hP430, hQ431, h435, h436, h433⟩
              have hF432 : Fr fm_m158_6 M0 M429 := hF423.tr hQ431 rfl
              obtain ⟨v437, e438⟩ : ∃ v, M429 6 4 = v := ⟨_, rfl⟩
              have h439 := bf_6_4 hP430; rw [e438] at h439
              refine wk_ifeq r158_58 ⟨by omega, by omega⟩ ?_ ?_
              · intro h440
                refine wk_c1 r158_70 ?_
                subst hQ; exact wk_zret r158_71 (by decide) (⟨rfl, _, rfl, hP430, hF432, by omega, by omega, by have := e438; omega⟩)
              · intro h441
                refine wk_al0 r158_61 (wk_c1 r158_62 (wk_c1 r158_63 (wk_cv3 r158_64 kc_6_172 rfl (m172_6 _ M429 3 0 hP430 (by decide) (by decide) (by decide) (by decide) (by first | assumption | omega | (unfold stepok; omega))) (cqI ?_))))
                rintro v446 M442 ⟨hP443, hQ444, h447, h448⟩
                have hF445 : Fr fm_m158_6 M0 M442 := hF432.tr hQ444 rfl
                refine wk_ifne r158_67 ⟨by omega, by omega⟩ ?_ ?_
                · intro h449
                  refine wk_inc2 r158_72 rfl (wk_goto r158_75 ?_)
                  exact wp_fg (le_s (le_s (le_s le_0))) (ih451 (500 - (v407 + 1)).toNat (by omega) M442 (v407 + 1) v437 rfl hP443 hF445 ((hQ444.at g_6_4 rfl).trans e438) (by omega) (by omega) (by omega) (by omega) (by omega))
                · intro h450
                  exfalso
                  omega
        exact wp_fg (le_s (le_s (le_s le_0))) (c37_451 _ M10 0 v18 rfl hP11 hF13 e19 (by omega) (by omega) (by omega) (by omega) (by omega))
      · intro h452
        refine wk_c1 r158_33 ?_
        subst hQ; exact wk_zret r158_34 (by decide) (⟨rfl, _, rfl, hP11, hF13, by omega, by omega, by have := e19; omega⟩)
    · intro h453
      exfalso
      omega
  · intro h454
    refine wk_al0 r158_7 (wk_c1 r158_8 (wk_cv2 r158_9 kc_6_159 rfl (m159_6 _ M0 1 hP0 (by decide) (by decide)) (cqI ?_)))
    rintro v460 M455 ⟨hP456, hQ457, h461, h462, h459⟩
    have hF458 : Fr fm_m158_6 M0 M455 := hF0.tr hQ457 rfl
    obtain ⟨v463, e464⟩ : ∃ v, M455 6 4 = v := ⟨_, rfl⟩
    have h465 := bf_6_4 hP456; rw [e464] at h465
    subst hQ; exact wk_zret r158_12 ⟨by omega, by omega⟩ (⟨rfl, _, rfl, hP456, hF458, by omega, by omega, by have := e464; omega⟩)
def fm_m174_6v2 : Nat := 3941061990809600
/-- IslandHall$Parser.takeSign -/
theorem m174_6v2 {B : eB} (d : Nat) (M0 : Mm) (p1 : Int) (hP0 : Pw M0) (l1 : 40 ≤ p1) (u1 : p1 ≤ 59) : Ct B (d + 3) 174 [R 6, I p1] M0 (qI fun z M => Pw M ∧ Fr fm_m174_6v2 M0 M ∧ 0 ≤ z ∧ z ≤ 1 ∧ 0 ≤ z + M 6 4 + (-1)) := by
  refine ct_of (d := d + 2) (k := 0) (L := [some (R 6), some (I p1)]) rfl rfl rfl ?_
  have hF0 := Fr.rf fm_m174_6v2 M0
  generalize hQ : (qI fun z M => Pw M ∧ Fr fm_m174_6v2 M0 M ∧ 0 ≤ z ∧ z ≤ 1 ∧ 0 ≤ z + M 6 4 + (-1)) = Q
  refine wk_al0 r174_0 (wk_getfr r174_1 fd_6_0 (br_6_0 hP0) (wk_il1 r174_4 (wk_cv2 r174_5 kc_9_238 rfl (m238_9v1 _ M0 p1 hP0 (by omega) (by omega)) (cqI ?_))))
  rintro v5 M1 ⟨hP2, hQ3, h6, h7⟩
  obtain rfl := Fr.same hQ3
  refine wk_ifne r174_8 ⟨by omega, by omega⟩ ?_ ?_
  · intro h8
    refine wk_al0 r174_17 (wk_getfr r174_18 fd_6_0 (br_6_0 hP0) (wk_cv1 r174_21 kc_9_241 rfl (m241_9 _ M0 hP0) (cqV ?_)))
    rintro M9 ⟨hP10, hQ11⟩
    have hF12 : Fr fm_m174_6v2 M0 M9 := hF0.tr hQ11 rfl
    refine wk_c1 r174_24 ?_
    subst hQ; exact wk_zret r174_25 (by decide) (⟨rfl, _, rfl, hP10, hF12, by omega, by omega, by have := (bf_6_4 hP10); omega⟩)
  · intro h13
    refine wk_al0 r174_11 (wk_c1 r174_12 (wk_cv2 r174_13 kc_6_159 rfl (m159_6 _ M0 1 hP0 (by decide) (by decide)) (cqI ?_)))
    rintro v19 M14 ⟨hP15, hQ16, h20, h21, h18⟩
    have hF17 : Fr fm_m174_6v2 M0 M14 := hF0.tr hQ16 rfl
    obtain ⟨v22, e23⟩ : ∃ v, M14 6 4 = v := ⟨_, rfl⟩
    have h24 := bf_6_4 hP15; rw [e23] at h24
    subst hQ; exact wk_zret r174_16 ⟨by omega, by omega⟩ (⟨rfl, _, rfl, hP15, hF17, by omega, by omega, by have := e23; omega⟩)
def fm_m170_6 : Nat := 4222648099799040
/-- IslandHall$Parser.readSentence -/
theorem m170_6 {B : eB} (d : Nat) (M0 : Mm) (p1 : Int) (p2 : Int) (c3 : Int) (hP0 : Pw M0) (l1 : 0 ≤ p1) (u1 : p1 ≤ 500) (l2 : (-1) ≤ p2) (u2 : p2 ≤ 7) (hC3 : isC c3) : Ct B (d + 41) 170 [R 6, I p1, I p2, R c3] M0 (qI fun z M => Pw M ∧ Fr fm_m170_6 M0 M ∧ 0 ≤ z ∧ z ≤ 6) := by
  refine ct_of (d := d + 40) (k := 0) (L := [some (R 6), some (I p1), some (I p2), some (R c3)]) rfl rfl rfl ?_
  have hF0 := Fr.rf fm_m170_6 M0
  generalize hQ : (qI fun z M => Pw M ∧ Fr fm_m170_6 M0 M ∧ 0 ≤ z ∧ z ≤ 6) = Q
  refine wk_al0 r170_0 (wk_il1 r170_1 (wk_al3 r170_2 (wk_cv3 r170_3 kc_6_154 rfl (m154_6 _ M0 p1 c3 hP0 (by omega) (by omega) hC3) (cqV ?_))))
  rintro M1 ⟨hP2, hQ3⟩
  have hF4 : Fr fm_m170_6 M0 M1 := hF0.tr hQ3 rfl
  refine wk_al3 r170_6 (wk_cv1 r170_7 (kcC_141 hC3) rfl (m141 _ M1 c3 hP2 hC3) (cqV ?_))
  rintro M5 ⟨hP6, hQ7⟩
  have hF8 : Fr fm_m170_6 M0 M5 := hF4.tr hQ7 rfl
  refine wk_al0 r170_10 (wk_il2 r170_11 (wk_putfi81 r170_12 fd_6_3 (wk_nw g_6_3 rfl hP6 hF8 (uf_6_3 ⟨by omega, by omega⟩) ?_)))
  intro M9 hP10 hF11 e12
  refine wk_al0 r170_15 (wk_c1 r170_16 (wk_cv2 r170_17 kc_6_158 rfl (m158_6 _ M9 0 hP10 (by decide) (by decide)) (cqI ?_)))
  rintro v18 M13 ⟨hP14, hQ15, h19, h20, h17⟩
  have hF16 : Fr fm_m170_6 M0 M13 := hF11.tr hQ15 rfl
  obtain ⟨v21, e22⟩ : ∃ v, M13 6 4 = v := ⟨_, rfl⟩
  have h23 := bf_6_4 hP14; rw [e22] at h23
  refine wk_ifeq r170_20 ⟨by omega, by omega⟩ ?_ ?_
  · intro h24
    refine wk_al0 r170_48 (wk_getfi r170_49 fd_6_4 e22 ?_)
    subst hQ; exact wk_iret r170_52 (⟨rfl, _, rfl, hP14, hF16, by omega, by omega⟩)
  · intro h25
    refine wk_al0 r170_23 (wk_c2 r170_24 (wk_cv2 r170_26 kc_6_174 rfl (m174_6v2 _ M13 59 hP14 (by decide) (by decide)) (cqI ?_)))
    rintro v31 M26 ⟨hP27, hQ28, h32, h33, h30⟩
    have hF29 : Fr fm_m170_6 M0 M26 := hF16.tr hQ28 rfl
    obtain ⟨v34, e35⟩ : ∃ v, M26 6 4 = v := ⟨_, rfl⟩
    have h36 := bf_6_4 hP27; rw [e35] at h36
    refine wk_ifeq r170_29 ⟨by omega, by omega⟩ ?_ ?_
    · intro h37
      refine wk_al0 r170_48 (wk_getfi r170_49 fd_6_4 e35 ?_)
      subst hQ; exact wk_iret r170_52 (⟨rfl, _, rfl, hP27, hF29, by omega, by omega⟩)
    · intro h38
      refine wk_al0 r170_32 (wk_getfr r170_33 fd_6_0 (br_6_0 hP27) (wk_getfb r170_36 fd_9_4 (bf_9_4 hP27) ?_))
      intro v39 h41 h42 e40
      refine wk_ifeq r170_39 ⟨by omega, by omega⟩ ?_ ?_
      · intro h43
        refine wk_al0 r170_48 (wk_getfi r170_49 fd_6_4 e35 ?_)
        subst hQ; exact wk_iret r170_52 (⟨rfl, _, rfl, hP27, hF29, by omega, by omega⟩)
      · intro h44
        refine wk_al0 r170_42 (wk_c1 r170_43 (wk_cv2 r170_44 kc_6_159 rfl (m159_6 _ M26 1 hP27 (by decide) (by decide)) (cqI ?_)))
        rintro v50 M45 ⟨hP46, hQ47, h51, h52, h49⟩
        have hF48 : Fr fm_m170_6 M0 M45 := hF29.tr hQ47 rfl
        obtain ⟨v53, e54⟩ : ∃ v, M45 6 4 = v := ⟨_, rfl⟩
        have h55 := bf_6_4 hP46; rw [e54] at h55
        refine wk_popi r170_47 (wk_al0 r170_48 (wk_getfi r170_49 fd_6_4 e54 ?_))
        subst hQ; exact wk_iret r170_52 (⟨rfl, _, rfl, hP46, hF48, by omega, by omega⟩)
def fm_m39_0 : Nat := 4222648099800132
/-- IslandHall.sentence -/
theorem m39_0 {B : eB} (d : Nat) (M0 : Mm) (p1 : Int) (x0_1 : Int) (hP0 : Pw M0) (l1 : (-2147483648) ≤ p1) (u1 : p1 ≤ 2147483647) (ex0_1 : M0 0 1 = x0_1) (lx0_1 : 0 ≤ x0_1) (ux0_1 : x0_1 ≤ 500) : Ct B (d + 42) 39 [R 0, I p1] M0 (qX 1 (fun M => Pw M ∧ Fr (fm_m39_0 ||| 1) M0 M ∧ M (-1) 0 = M0 (-1) 0 + 1 ∧ (M 0 1 = x0_1 ∧ (p1 < 0 ∨ x0_1 < p1))) (qI fun z M => Pw M ∧ Fr fm_m39_0 M0 M ∧ (-9) ≤ z ∧ z ≤ 29 ∧ 0 ≤ p1 ∧ 0 ≤ x0_1 + (-1) * p1 ∧ 0 ≤ (-1) * (M 0 1))) := by
  refine ct_of (d := d + 41) (k := 1) (L := [some (R 0), some (I p1), none]) rfl rfl rfl ?_
  have hF0 := Fr.rf fm_m39_0 M0
  generalize hQ : (qX 1 (fun M => Pw M ∧ Fr (fm_m39_0 ||| 1) M0 M ∧ M (-1) 0 = M0 (-1) 0 + 1 ∧ (M 0 1 = x0_1 ∧ (p1 < 0 ∨ x0_1 < p1))) (qI fun z M => Pw M ∧ Fr fm_m39_0 M0 M ∧ (-9) ≤ z ∧ z ≤ 29 ∧ 0 ≤ p1 ∧ 0 ≤ x0_1 + (-1) * p1 ∧ 0 ≤ (-1) * (M 0 1))) = Q
  refine wk_al0 r39_0 (wk_il1 r39_1 (wk_cv2 r39_2 kc_0_40 rfl (m40_0 _ M0 p1 x0_1 hP0 (by omega) (by omega) ex0_1 (by omega) (by omega)) (cqX (fun _ _ x5 => by subst hQ; exact Or.inl ⟨rfl, x5.1, Fr.trx hF0 x5.2.1 rfl, (by rw [x5.2.2.1, hF0.at g_below rfl]), x5.2.2.2⟩) (cqV ?_))))
  rintro M1 ⟨hP2, hQ3, h8, h9, h10⟩
  have hF4 : Fr fm_m39_0 M0 M1 := hF0.tr hQ3 rfl
  obtain ⟨v11, e12⟩ : ∃ v, M1 0 1 = v := ⟨_, rfl⟩
  have h13 := bf_0_1 hP2; rw [e12] at h13
  refine wk_al0 r39_5 (wk_getfb r39_6 fd_0_9 (bf_0_9 hP2) ?_)
  intro v14 h16 h17 e15
  refine wk_c2 r39_9 ?_
  refine wk_iclt r39_11 ⟨by omega, by omega⟩ (by decide) ?_ ?_
  · intro h18
    refine wk_al0 r39_22 (wk_getfr r39_23 fd_0_4 (br_0_4 hP2) (wk_il1 r39_26 (wk_al0 r39_27 (wk_getfr r39_28 fd_0_2 (br_0_2 hP2) (wk_getfb r39_31 fd_2_1 (bf_2_1 hP2) ?_)))))
    intro v19 h21 h22 e20
    refine wk_al0 r39_34 (wk_getfr r39_35 fd_0_8 (br_0_8 hP2) (wk_al0 r39_38 (wk_getfi r39_39 fd_0_9 e15 (wk_caldb r39_42 ar_168 ⟨by omega, by omega⟩ (fun q0 q1 => ba_168 hP2 q0 q1) ?_))))
    intro v23 e24
    have hC25 : isC v23 := Or.inr (by omega)
    refine wk_cv4 r39_43 kc_6_170 rfl (m170_6 _ M1 p1 v19 v23 hP2 (by omega) (by omega) (by omega) (by omega) hC25) (cqI ?_)
    rintro v30 M26 ⟨hP27, hQ28, h31, h32⟩
    have hF29 : Fr fm_m39_0 M0 M26 := hF4.tr hQ28 rfl
    refine wk_is2 r39_46 rfl (wk_al0 r39_47 (wk_al0 r39_48 (wk_getfr r39_49 fd_0_4 (br_0_4 hP27) (wk_getfb r39_52 fd_6_5 (bf_6_5 hP27) ?_))))
    intro v33 h35 h36 e34
    refine wk_putfi81 r39_55 fd_0_5 (wk_nw g_0_5 rfl hP27 hF29 (uf_0_5 ⟨by omega, by omega⟩) ?_)
    intro M37 hP38 hF39 e40
    refine wk_il2 r39_58 ?_
    refine wk_ifeq r39_59 ⟨by omega, by omega⟩ ?_ ?_
    · intro h41
      refine wk_al0 r39_66 (wk_dupr r39_67 (wk_getfi r39_68 fd_0_9 (mUp_no e40 ((hQ28.at g_0_9 rfl).trans e15) (Or.inr (by decide))) (wk_c1 r39_71 (wk_iadd r39_72 (wk_putfi81 r39_73 fd_0_9 (wk_nw g_0_9 rfl hP38 hF39 (uf_0_9 ⟨by omega, by omega⟩) ?_))))))
      intro M42 hP43 hF44 e45
      refine wk_al0 r39_76 (wk_getfi r39_77 fd_0_9 (mUp_at e45) (wk_c1 r39_80 (wk_isub r39_81 ?_)))
      subst hQ; exact wk_iret r39_82 (Or.inr ⟨rfl, _, rfl, hP43, hF44, by omega, by omega, by omega, by omega, by have := (mUp_no e45 (mUp_no e40 ((hQ28.at g_0_1 rfl).trans e12) (Or.inr (by decide))) (Or.inr (by decide))); omega⟩)
    · intro h46
      refine wk_c1 r39_62 (wk_il2 r39_63 (wk_isub r39_64 ?_))
      subst hQ; exact wk_iret r39_65 (Or.inr ⟨rfl, _, rfl, hP38, hF39, by omega, by omega, by omega, by omega, by have := (mUp_no e40 ((hQ28.at g_0_1 rfl).trans e12) (Or.inr (by decide))); omega⟩)
  · intro h47
    refine wk_al0 r39_14 (wk_c1 r39_15 (wk_putfi81 r39_16 fd_0_5 (wk_nw g_0_5 rfl hP2 hF4 (uf_0_5 (by decide)) ?_)))
    intro M48 hP49 hF50 e51
    refine wk_c2 r39_19 ?_
    subst hQ; exact wk_iret r39_21 (Or.inr ⟨rfl, _, rfl, hP49, hF50, by omega, by omega, by omega, by omega, by have := (mUp_no e51 e12 (Or.inr (by decide))); omega⟩)
def fm_m183_7 : Nat := 139637976727552
/-- IslandHall$Plan.reset -/
theorem m183_7 {B : eB} (d : Nat) (M0 : Mm) (hP0 : Pw M0)  : Ct B (d + 2) 183 [R 7] M0 (qV fun M => Pw M ∧ Fr fm_m183_7 M0 M ∧ (∀ k : Int, 0 ≤ k → k < 7 → 1 ≤ M 8 k)) := by
  refine ct_of (d := d + 1) (k := 0) (L := [some (R 7)]) rfl rfl rfl ?_
  have hF0 := Fr.rf fm_m183_7 M0
  generalize hQ : (qV fun M => Pw M ∧ Fr fm_m183_7 M0 M ∧ (∀ k : Int, 0 ≤ k → k < 7 → 1 ≤ M 8 k)) = Q
  refine wk_al0 r183_0 (wk_getfr r183_1 fd_7_0 (br_7_0 hP0) (wk_c1 r183_4 (wk_cs102_2 r183_5 rfl (ct_fi ar_8) (cqV ?_))))
  intro M1 e2
  have hP3 : Pw M1 := by rw [e2]; exact hP0.fil (fun i => (ua_8 (by decide)))
  have hF4 : Fr fm_m183_7 M0 M1 := by rw [e2]; exact hF0.fil (fun i => by rw [(ga_8 i)]; rfl)
  obtain ⟨u5, hu6⟩ : ∃ u : Int → Int, ∀ k, M1 8 k = u k := ⟨fun k => M1 8 k, fun k => rfl⟩
  have dm : ∀ k : Int, u5 k = 3 := fun k => by rw [← hu6 k, e2, fil_eq]
  refine wk_al0 r183_8 (wk_c1 r183_9 (wk_putfi81 r183_10 fd_7_1 (wk_nw g_7_1 rfl hP3 hF4 (uf_7_1 (by decide)) ?_)))
  intro M7 hP8 hF9 e10
  refine wk_al0 r183_13 (wk_c1 r183_14 (wk_putfi81 r183_15 fd_7_2 (wk_nw g_7_2 rfl hP8 hF9 (uf_7_2 (by decide)) ?_)))
  intro M11 hP12 hF13 e14
  refine wk_al0 r183_18 (wk_c1 r183_19 (wk_putfi81 r183_20 fd_7_3 (wk_nw g_7_3 rfl hP12 hF13 (uf_7_3 (by decide)) ?_)))
  intro M15 hP16 hF17 e18
  refine wk_al0 r183_23 (wk_c1 r183_24 (wk_putfi81 r183_25 fd_7_4 (wk_nw g_7_4 rfl hP16 hF17 (uf_7_4 (by decide)) ?_)))
  intro M19 hP20 hF21 e22
  refine wk_al0 r183_28 (wk_c1 r183_29 (wk_putfz81 r183_30 fd_7_5 (by decide) (wk_nw g_7_5 rfl hP20 hF21 (uf_7_5 (by decide)) ?_)))
  intro M23 hP24 hF25 e26
  refine wk_al0 r183_33 (wk_c1 r183_34 (wk_putfz81 r183_35 fd_7_6 (by decide) (wk_nw g_7_6 rfl hP24 hF25 (uf_7_6 (by decide)) ?_)))
  intro M27 hP28 hF29 e30
  subst hQ; exact wk_ret r183_38 (⟨rfl, hP28, hF29, fun k a b => by rw [(fun k => mUp_no e30 ((fun k => mUp_no e26 ((fun k => mUp_no e22 ((fun k => mUp_no e18 ((fun k => mUp_no e14 ((fun k => mUp_no e10 (hu6 k) (Or.inl (by decide))) k) (Or.inl (by decide))) k) (Or.inl (by decide))) k) (Or.inl (by decide))) k) (Or.inl (by decide))) k) (Or.inl (by decide))) k, dm k]; decide⟩)
def fm_m144 : Nat := 8053063680
/-- IslandHall$Code.startFacts -/
theorem m144 {B : eB} (d : Nat) (M0 : Mm) (c0 : Int) (hP0 : Pw M0) (hC0 : isC c0) : Ct B (d + 2) 144 [R c0] M0 (qV fun M => Pw M ∧ Fr fm_m144 M0 M) := by
  refine ct_of (d := d + 1) (k := 0) (L := [some (R c0)]) rfl rfl rfl ?_
  have hF0 := Fr.rf fm_m144 M0
  generalize hQ : (qV fun M => Pw M ∧ Fr fm_m144 M0 M) = Q
  refine wk_al0 r144_0 (wk_cv1 r144_1 (kcC_141 hC0) rfl (m141 _ M0 c0 hP0 hC0) (cqV ?_))
  rintro M1 ⟨hP2, hQ3⟩
  have hF4 : Fr fm_m144 M0 M1 := hF0.tr hQ3 rfl
  refine wk_al0 r144_4 (wk_c1 r144_5 (wk_c2 r144_6 (wk_cv3 r144_8 (kcC_138 hC0) rfl (m138 _ M1 c0 0 118 hP2 hC0 (by decide) (by decide) (by decide) (by decide) (by first | assumption | omega | (unfold stepok; omega))) (cqV ?_))))
  rintro M5 ⟨hP6, hQ7⟩
  have hF8 : Fr fm_m144 M0 M5 := hF4.tr hQ7 rfl
  subst hQ; exact wk_ret r144_11 (⟨rfl, hP6, hF8⟩)
def fm_m167_6v4 : Nat := 3941061990809600
/-- IslandHall$Parser.number -/
theorem m167_6v4 {B : eB} (d : Nat) (M0 : Mm) (p1 : Int) (p2 : Int) (hP0 : Pw M0) (l1 : 0 ≤ p1) (u1 : p1 ≤ 0) (l2 : 7 ≤ p2) (u2 : p2 ≤ 7) : Ct B (d + 3) 167 [R 6, I p1, I p2] M0 (qI fun z M => Pw M ∧ Fr fm_m167_6v4 M0 M ∧ (-1) ≤ z ∧ z ≤ 7 ∧ 0 ≤ z + M 6 4) := by
  refine ct_of (d := d + 2) (k := 1) (L := [some (R 6), some (I p1), some (I p2), none]) rfl rfl rfl ?_
  have hF0 := Fr.rf fm_m167_6v4 M0
  generalize hQ : (qI fun z M => Pw M ∧ Fr fm_m167_6v4 M0 M ∧ (-1) ≤ z ∧ z ≤ 7 ∧ 0 ≤ z + M 6 4) = Q
  refine wk_al0 r167_0 (wk_getfr r167_1 fd_6_0 (br_6_0 hP0) (wk_getfb r167_4 fd_9_4 (bf_9_4 hP0) ?_))
  intro v1 h3 h4 e2
  refine wk_c1 r167_7 ?_
  refine wk_iceq r167_8 ⟨by omega, by omega⟩ (by decide) ?_ ?_
  · intro h5
    refine wk_al0 r167_19 (wk_getfr r167_20 fd_6_0 (br_6_0 hP0) (wk_cv1 r167_23 kc_9_244 rfl (m244_9 _ M0 hP0) (cqI ?_)))
    rintro v10 M6 ⟨hP7, hQ8, h11, h12⟩
    obtain rfl := Fr.same hQ8
    refine wk_is3 r167_26 rfl (wk_il3 r167_27 (wk_il1 r167_28 ?_))
    refine wk_iclt r167_29 ⟨by omega, by omega⟩ ⟨by omega, by omega⟩ ?_ ?_
    · intro h13
      refine wk_al0 r167_37 (wk_c1 r167_38 (wk_cv2 r167_39 kc_6_159 rfl (m159_6v1 _ M0 2 hP0 (by decide) (by decide)) (cqI ?_)))
      rintro v19 M14 ⟨hP15, hQ16, h20, h21, h18⟩
      have hF17 : Fr fm_m167_6v4 M0 M14 := hF0.tr hQ16 rfl
      obtain ⟨v22, e23⟩ : ∃ v, M14 6 4 = v := ⟨_, rfl⟩
      have h24 := bf_6_4 hP15; rw [e23] at h24
      refine wk_popi r167_42 (wk_c1 r167_43 ?_)
      subst hQ; exact wk_iret r167_44 (⟨rfl, _, rfl, hP15, hF17, by omega, by omega, by have := e23; omega⟩)
    · intro h25
      refine wk_il3 r167_32 (wk_il2 r167_33 ?_)
      refine wk_icle r167_34 ⟨by omega, by omega⟩ ⟨by omega, by omega⟩ ?_ ?_
      · intro h26
        refine wk_al0 r167_45 (wk_getfr r167_46 fd_6_0 (br_6_0 hP0) (wk_cv1 r167_49 kc_9_241 rfl (m241_9 _ M0 hP0) (cqV ?_)))
        rintro M27 ⟨hP28, hQ29⟩
        have hF30 : Fr fm_m167_6v4 M0 M27 := hF0.tr hQ29 rfl
        refine wk_il3 r167_52 ?_
        subst hQ; exact wk_iret r167_53 (⟨rfl, _, rfl, hP28, hF30, by omega, by omega, by have := (bf_6_4 hP28); omega⟩)
      · intro h31
        refine wk_al0 r167_37 (wk_c1 r167_38 (wk_cv2 r167_39 kc_6_159 rfl (m159_6v1 _ M0 2 hP0 (by decide) (by decide)) (cqI ?_)))
        rintro v37 M32 ⟨hP33, hQ34, h38, h39, h36⟩
        have hF35 : Fr fm_m167_6v4 M0 M32 := hF0.tr hQ34 rfl
        obtain ⟨v40, e41⟩ : ∃ v, M32 6 4 = v := ⟨_, rfl⟩
        have h42 := bf_6_4 hP33; rw [e41] at h42
        refine wk_popi r167_42 (wk_c1 r167_43 ?_)
        subst hQ; exact wk_iret r167_44 (⟨rfl, _, rfl, hP33, hF35, by omega, by omega, by have := e41; omega⟩)
  · intro h43
    refine wk_al0 r167_11 (wk_c1 r167_12 (wk_cv2 r167_13 kc_6_159 rfl (m159_6 _ M0 1 hP0 (by decide) (by decide)) (cqI ?_)))
    rintro v49 M44 ⟨hP45, hQ46, h50, h51, h48⟩
    have hF47 : Fr fm_m167_6v4 M0 M44 := hF0.tr hQ46 rfl
    obtain ⟨v52, e53⟩ : ∃ v, M44 6 4 = v := ⟨_, rfl⟩
    have h54 := bf_6_4 hP45; rw [e53] at h54
    refine wk_popi r167_16 (wk_c1 r167_17 ?_)
    subst hQ; exact wk_iret r167_18 (⟨rfl, _, rfl, hP45, hF47, by omega, by omega, by have := e53; omega⟩)
def fm_m160_6 : Nat := 3942230221914112
/-- IslandHall$Parser.head -/
theorem m160_6 {B : eB} (d : Nat) (M0 : Mm) (hP0 : Pw M0)  : Ct B (d + 4) 160 [R 6] M0 (qI fun z M => Pw M ∧ Fr fm_m160_6 M0 M ∧ 0 ≤ z ∧ z ≤ 1 ∧ 0 ≤ z + M 6 4 + (-1)) := by
  refine ct_of (d := d + 3) (k := 0) (L := [some (R 6)]) rfl rfl rfl ?_
  have hF0 := Fr.rf fm_m160_6 M0
  generalize hQ : (qI fun z M => Pw M ∧ Fr fm_m160_6 M0 M ∧ 0 ≤ z ∧ z ≤ 1 ∧ 0 ≤ z + M 6 4 + (-1)) = Q
  refine wk_al0 r160_0 (wk_c8 r160_1 (wk_cv2 r160_3 kc_6_175 rfl (m175_6 _ M0 4127 hP0 (by decide)) (cqI ?_)))
  rintro v5 M1 ⟨hP2, hQ3, h6, h7⟩
  have hF4 : Fr fm_m160_6 M0 M1 := hF0.tr hQ3 rfl
  refine wk_ifne r160_6 ⟨by omega, by omega⟩ ?_ ?_
  · intro h8
    refine wk_al0 r160_15 (wk_al0 r160_16 (wk_c1 r160_17 (wk_c2 r160_18 (wk_cv3 r160_20 kc_6_167 rfl (m167_6v4 _ M1 0 7 hP2 (by decide) (by decide) (by decide) (by decide)) (cqI ?_)))))
    rintro v14 M9 ⟨hP10, hQ11, h15, h16, h13⟩
    have hF12 : Fr fm_m160_6 M0 M9 := hF4.tr hQ11 rfl
    obtain ⟨v17, e18⟩ : ∃ v, M9 6 4 = v := ⟨_, rfl⟩
    have h19 := bf_6_4 hP10; rw [e18] at h19
    refine wk_putfi81 r160_23 fd_6_3 (wk_nw g_6_3 rfl hP10 hF12 (uf_6_3 ⟨by omega, by omega⟩) ?_)
    intro M20 hP21 hF22 e23
    refine wk_al0 r160_26 (wk_getfr r160_27 fd_6_1 (br_6_1 hP21) (wk_al0 r160_30 (wk_getfi r160_31 fd_6_3 (mUp_at e23) (wk_putfi81 r160_34 fd_7_1 (wk_nw g_7_1 rfl hP21 hF22 (uf_7_1 ⟨by omega, by omega⟩) ?_)))))
    intro M24 hP25 hF26 e27
    refine wk_al0 r160_37 (wk_getfi r160_38 fd_6_3 (mUp_no e27 (mUp_at e23) (Or.inl (by decide))) (wk_c1 r160_41 ?_))
    refine wk_iceq r160_42 ⟨by omega, by omega⟩ (by decide) ?_ ?_
    · intro h28
      refine wk_c1 r160_58 ?_
      subst hQ; exact wk_zret r160_59 (by decide) (⟨rfl, _, rfl, hP25, hF26, by omega, by omega, by have := (mUp_no e27 (mUp_no e23 e18 (Or.inr (by decide))) (Or.inl (by decide))); omega⟩)
    · intro h29
      refine wk_al0 r160_45 (wk_c2 r160_46 (wk_cv2 r160_48 kc_6_174 rfl (m174_6v2 _ M24 59 hP25 (by decide) (by decide)) (cqI ?_)))
      rintro v35 M30 ⟨hP31, hQ32, h36, h37, h34⟩
      have hF33 : Fr fm_m160_6 M0 M30 := hF26.tr hQ32 rfl
      obtain ⟨v38, e39⟩ : ∃ v, M30 6 4 = v := ⟨_, rfl⟩
      have h40 := bf_6_4 hP31; rw [e39] at h40
      refine wk_ifeq r160_51 ⟨by omega, by omega⟩ ?_ ?_
      · intro h41
        refine wk_c1 r160_58 ?_
        subst hQ; exact wk_zret r160_59 (by decide) (⟨rfl, _, rfl, hP31, hF33, by omega, by omega, by have := e39; omega⟩)
      · intro h42
        refine wk_c1 r160_54 (wk_goto r160_55 ?_)
        subst hQ; exact wk_zret r160_59 (by decide) (⟨rfl, _, rfl, hP31, hF33, by omega, by omega, by have := e39; omega⟩)
  · intro h43
    refine wk_al0 r160_9 (wk_c1 r160_10 (wk_cv2 r160_11 kc_6_159 rfl (m159_6 _ M1 1 hP2 (by decide) (by decide)) (cqI ?_)))
    rintro v49 M44 ⟨hP45, hQ46, h50, h51, h48⟩
    have hF47 : Fr fm_m160_6 M0 M44 := hF4.tr hQ46 rfl
    obtain ⟨v52, e53⟩ : ∃ v, M44 6 4 = v := ⟨_, rfl⟩
    have h54 := bf_6_4 hP45; rw [e53] at h54
    subst hQ; exact wk_zret r160_14 ⟨by omega, by omega⟩ (⟨rfl, _, rfl, hP45, hF47, by omega, by omega, by have := e53; omega⟩)
def fm_m179_7 : Nat := 0
/-- IslandHall$Plan.earliestDay -/
theorem m179_7 {B : eB} (d : Nat) (M0 : Mm) (hP0 : Pw M0)  : Ct B (d + 1) 179 [R 7] M0 (qI fun z M => Pw M ∧ Fr fm_m179_7 M0 M ∧ 0 ≤ z ∧ z ≤ 6 ∧ (z = eD M0 7)) := by
  refine ct_of (d := d + 0) (k := 0) (L := [some (R 7)]) rfl rfl rfl ?_
  have hF0 := Fr.rf fm_m179_7 M0
  generalize hQ : (qI fun z M => Pw M ∧ Fr fm_m179_7 M0 M ∧ 0 ≤ z ∧ z ≤ 6 ∧ (z = eD M0 7)) = Q
  refine wk_al0 r179_0 (wk_getfb r179_1 fd_7_3 (bf_7_3 hP0) ?_)
  intro v1 h3 h4 e2
  refine wk_c1 r179_4 ?_
  refine wk_icne r179_5 ⟨by omega, by omega⟩ (by decide) ?_ ?_
  · intro h5
    refine wk_al0 r179_12 (wk_getfi r179_13 fd_7_3 e2 ?_)
    subst hQ; exact wk_iret r179_16 (⟨rfl, _, rfl, hP0, hF0, by omega, by omega, by unfold eD; split <;> omega⟩)
  · intro h6
    refine wk_c1 r179_8 (wk_goto r179_9 ?_)
    subst hQ; exact wk_iret r179_16 (⟨rfl, _, rfl, hP0, hF0, by omega, by omega, by unfold eD; split <;> omega⟩)
def fm_m181_7 : Nat := 0
/-- IslandHall$Plan.latestDay -/
theorem m181_7 {B : eB} (d : Nat) (M0 : Mm) (hP0 : Pw M0)  : Ct B (d + 2) 181 [R 7] M0 (qI fun z M => Pw M ∧ Fr fm_m181_7 M0 M ∧ 0 ≤ z ∧ z ≤ 6 ∧ (z = lD M0 7)) := by
  refine ct_of (d := d + 1) (k := 0) (L := [some (R 7)]) rfl rfl rfl ?_
  have hF0 := Fr.rf fm_m181_7 M0
  generalize hQ : (qI fun z M => Pw M ∧ Fr fm_m181_7 M0 M ∧ 0 ≤ z ∧ z ≤ 6 ∧ (z = lD M0 7)) = Q
  refine wk_al0 r181_0 (wk_getfb r181_1 fd_7_3 (bf_7_3 hP0) ?_)
  intro v1 h3 h4 e2
  refine wk_c1 r181_4 ?_
  refine wk_icne r181_5 ⟨by omega, by omega⟩ (by decide) ?_ ?_
  · intro h5
    refine wk_al0 r181_20 (wk_cv1 r181_21 kc_7_179 rfl (m179_7 _ M0 hP0) (cqI ?_))
    rintro v11 M6 ⟨hP7, hQ8, h12, h13, xh10⟩
    obtain rfl := Fr.same hQ8
    subst hQ; exact wk_iret r181_24 (⟨rfl, _, rfl, hP0, hF0, by omega, by omega, by unfold lD; split <;> omega⟩)
  · intro h14
    refine wk_al0 r181_8 (wk_getfb r181_9 fd_7_5 (bf_7_5 hP0) ?_)
    intro v15 h17 h18 e16
    refine wk_ifeq r181_12 ⟨by omega, by omega⟩ ?_ ?_
    · intro h19
      refine wk_al0 r181_20 (wk_cv1 r181_21 kc_7_179 rfl (m179_7 _ M0 hP0) (cqI ?_))
      rintro v25 M20 ⟨hP21, hQ22, h26, h27, xh24⟩
      obtain rfl := Fr.same hQ22
      subst hQ; exact wk_iret r181_24 (⟨rfl, _, rfl, hP0, hF0, by omega, by omega, by unfold lD; split <;> omega⟩)
    · intro h28
      refine wk_c2 r181_15 (wk_goto r181_17 ?_)
      subst hQ; exact wk_iret r181_24 (⟨rfl, _, rfl, hP0, hF0, by omega, by omega, by unfold lD; split <;> omega⟩)
def fm_m182_7 : Nat := 0
/-- IslandHall$Plan.latestWord -/
theorem m182_7 {B : eB} (d : Nat) (M0 : Mm) (hP0 : Pw M0)  : Ct B (d + 1) 182 [R 7] M0 (qI fun z M => Pw M ∧ Fr fm_m182_7 M0 M ∧ 0 ≤ z ∧ z ≤ 1 ∧ (z = lW M0 7)) := by
  refine ct_of (d := d + 0) (k := 0) (L := [some (R 7)]) rfl rfl rfl ?_
  have hF0 := Fr.rf fm_m182_7 M0
  generalize hQ : (qI fun z M => Pw M ∧ Fr fm_m182_7 M0 M ∧ 0 ≤ z ∧ z ≤ 1 ∧ (z = lW M0 7)) = Q
  refine wk_al0 r182_0 (wk_getfb r182_1 fd_7_6 (bf_7_6 hP0) ?_)
  intro v1 h3 h4 e2
  refine wk_ifeq r182_4 ⟨by omega, by omega⟩ ?_ ?_
  · intro h5
    refine wk_c1 r182_11 ?_
    subst hQ; exact wk_iret r182_12 (⟨rfl, _, rfl, hP0, hF0, by omega, by omega, by unfold lW; split <;> omega⟩)
  · intro h6
    refine wk_c1 r182_7 (wk_goto r182_8 ?_)
    subst hQ; exact wk_iret r182_12 (⟨rfl, _, rfl, hP0, hF0, by omega, by omega, by unfold lW; split <;> omega⟩)
def bcF_g (p0 : Int) : Int :=
  let v1 : Int := p0 % 4294967296 / pw 1
  let v5 : Int := ((Int.toNat (v1) &&& Int.toNat (1431655765) : Nat) : Int)
  let v10 : Int := ((cd ((p0 - v5)) &&& Int.toNat (858993459) : Nat) : Int)
  let v14 : Int := (p0 - v5) % 4294967296 / pw 2
  let v18 : Int := ((Int.toNat (v14) &&& Int.toNat (858993459) : Nat) : Int)
  let v23 : Int := (v10 + v18) % 4294967296 / pw 4
  let v27 : Int := (((v10 + v18) + v23) + 2147483648) % 4294967296 - 2147483648
  let v31 : Int := ((cd (v27) &&& Int.toNat (252645135) : Nat) : Int)
  let v35 : Int := v31 % 4294967296 / pw 8
  let v39 : Int := ((v31 + v35) + 2147483648) % 4294967296 - 2147483648
  let v43 : Int := v39 % 4294967296 / pw 16
  let v47 : Int := ((v39 + v43) + 2147483648) % 4294967296 - 2147483648
  (v47 % 64)
theorem bcF_ex : ∃ f : Int → Int, ∀ p0, f p0 = bcF_g p0 := ⟨bcF_g, fun _ => rfl⟩
noncomputable def bcF : Int → Int := Classical.choose bcF_ex
theorem bcF_eq (p0 : Int) : bcF p0 = bcF_g p0 := Classical.choose_spec bcF_ex p0
theorem bcF_nn (p0 : Int) : 0 ≤ bcF p0 := by
  rw [bcF_eq]
  unfold bcF_g
  exact Int.emod_nonneg _ (by decide)
theorem bcF_31 : (List.range 32).all (fun x => decide (x = 0 ∨ 1 ≤ bcF_g (x : Int)) && decide (bcF_g (x : Int) ≤ 5)) = true := by decide +kernel
theorem bcF_a : (List.range 32).all (fun x => (List.range 5).all fun k => decide (x / 2 ^ k % 2 = 0 ∨ bcF_g ((x &&& (2 ^ k - 1) : Nat) : Int) + 1 ≤ bcF_g (x : Int))) = true := by decide +kernel
theorem bc_rg {x : Int} (h : 1 ≤ x ∧ x ≤ 31) : 1 ≤ bcF x ∧ bcF x ≤ 5 := by
  obtain ⟨n, rfl⟩ := Int.eq_ofNat_of_zero_le (show 0 ≤ x by omega)
  have h1 := List.all_eq_true.mp bcF_31 n (List.mem_range.mpr (by omega))
  simp only [Bool.and_eq_true, decide_eq_true_eq] at h1
  rw [bcF_eq]
  refine ⟨?_, h1.2⟩
  rcases h1.1 with q | q
  · omega
  · exact q
theorem bc_hd {x k r : Int} (h : 1 ≤ x ∧ x ≤ 31) (hk : 0 ≤ k ∧ k ≤ 4) (hb : x / pw k % 2 = 1) (hr : r = ((x.toNat &&& (pw k - 1).toNat : Nat) : Int)) : bcF r + 1 ≤ bcF x := by
  obtain ⟨n, rfl⟩ := Int.eq_ofNat_of_zero_le (show 0 ≤ x by omega)
  obtain ⟨j, rfl⟩ := Int.eq_ofNat_of_zero_le hk.1
  have h1 := of_decide_eq_true (List.all_eq_true.mp (List.all_eq_true.mp bcF_a n (List.mem_range.mpr (by omega))) j (List.mem_range.mpr (by omega)))
  have e1 : (pw (j : Int) - 1).toNat = 2 ^ j - 1 := by
    rw [pw_nat]
    have := Nat.two_pow_pos j
    omega
  rw [hr, e1, Int.toNat_natCast, bcF_eq, bcF_eq]
  rcases h1 with q | q
  · rw [pw_nat] at hb
    have h3 : (((n / 2 ^ j % 2 : Nat)) : Int) = 1 := by
      rw [Int.natCast_emod, Int.natCast_ediv]
      exact hb
    rw [q] at h3
    cases h3
  · exact q
noncomputable def PB (u : Int → Int) : Nat → Int
  | 0 => 1
  | n + 1 => PB u n * bcF (u n)
noncomputable def PS (u : Int → Int) : Nat → Int
  | 0 => 1
  | n + 1 => PS u n * (bcF (u n) + u n / 4 % 2)
theorem pb_succ {u : Int → Int} {p : Int} (h : 0 ≤ p) : PB u (p + 1).toNat = PB u p.toNat * bcF (u p) := by
  rw [toNat_succ h]
  show PB u p.toNat * bcF (u (p.toNat : Int)) = _
  rw [Int.toNat_of_nonneg h]
theorem ps_succ {u : Int → Int} {p : Int} (h : 0 ≤ p) : PS u (p + 1).toNat = PS u p.toNat * (bcF (u p) + u p / 4 % 2) := by
  rw [toNat_succ h]
  show PS u p.toNat * (bcF (u (p.toNat : Int)) + u (p.toNat : Int) / 4 % 2) = _
  rw [Int.toNat_of_nonneg h]
theorem pb_rg {u : Int → Int} (hu : ∀ k : Int, 0 ≤ k → k < 7 → 1 ≤ u k ∧ u k ≤ 31) : ∀ n : Nat, n ≤ 7 → 1 ≤ PB u n ∧ PB u n ≤ PS u n ∧ PS u n ≤ 6 ^ n := by
  intro n
  induction n with
  | zero => intro _; exact ⟨Int.le_refl _, Int.le_refl _, Int.le_refl _⟩
  | succ n ih =>
    intro hn
    obtain ⟨h1, h2, h3⟩ := ih (by omega)
    have h4 := hu n (by omega) (by omega)
    have h5 := bc_rg h4
    show 1 ≤ PB u n * bcF (u n) ∧ PB u n * bcF (u n) ≤ PS u n * (bcF (u n) + u n / 4 % 2) ∧ PS u n * (bcF (u n) + u n / 4 % 2) ≤ 6 ^ (n + 1)
    have h6 : 0 ≤ u (n : Int) / 4 % 2 ∧ u (n : Int) / 4 % 2 ≤ 1 := by omega
    generalize u (n : Int) / 4 % 2 = t at h6
    generalize bcF (u (n : Int)) = b at h5
    refine ⟨?_, ?_, ?_⟩
    · have := Int.mul_le_mul h1 h5.1 (by decide) (by omega)
      omega
    · exact Int.mul_le_mul h2 (by omega) (by omega) (by omega)
    · rw [Int.pow_succ]
      exact Int.mul_le_mul h3 (by omega) (by omega) (by omega)
theorem pb_mono {u : Int → Int} (hu : ∀ k : Int, 0 ≤ k → k < 7 → 1 ≤ u k ∧ u k ≤ 31) {p n : Int} (hpn : p.toNat ≤ n.toNat) (hn : n ≤ 7) : PB u p.toNat ≤ PB u n.toNat := by
  have key : ∀ k m : Nat, k + m ≤ 7 → PB u k ≤ PB u (k + m) := by
    intro k m
    induction m with
    | zero => intro _; exact Int.le_refl _
    | succ m ih =>
      intro h
      have h1 := ih (by omega)
      have h2 := (pb_rg hu (k + m) (by omega)).1
      have h5 := (bc_rg (hu ((k + m : Nat) : Int) (by omega) (by omega))).1
      show PB u k ≤ PB u (k + m) * bcF (u ((k + m : Nat) : Int))
      have h6 := Int.mul_le_mul (Int.le_refl (PB u (k + m))) h5 (by decide) (by omega)
      omega
  have := key p.toNat (n.toNat - p.toNat) (by omega)
  rw [show p.toNat + (n.toNat - p.toNat) = n.toNat by omega] at this
  exact this
noncomputable def SZk (M : Mm) (P A : Int) : Int := Rf M P * PS (fun k => M A k) (M P 1).toNat
def PBok (M : Mm) : Prop := PB (fun k => M 3 k) (M 2 1).toNat ≤ 3000
theorem PBok_eq {M M2 : Mm} (h2 : M2 2 1 = M 2 1) (h3 : ∀ k, M2 3 k = M 3 k) (h : PBok M) : PBok M2 := by
  unfold PBok
  rw [h2, show (fun k => M2 3 k) = fun k => M 3 k from funext h3]
  exact h
theorem SZk_eq {M M2 : Mm} {P A P2 A2 : Int} (hf : ∀ i, 1 ≤ i → i ≤ 6 → M2 P2 i = M P i) (h3 : ∀ k, 0 ≤ k → k < 7 → M2 A2 k = M A k) (hn : M P 1 ≤ 7) : SZk M2 P2 A2 = SZk M P A := by
  have hps : ∀ n : Nat, n ≤ 7 → PS (fun k => M2 A2 k) n = PS (fun k => M A k) n := by
    intro n
    induction n with
    | zero => intro _; rfl
    | succ n ih =>
      intro h
      show PS (fun k => M2 A2 k) n * (bcF (M2 A2 n) + M2 A2 n / 4 % 2) = PS (fun k => M A k) n * (bcF (M A n) + M A n / 4 % 2)
      rw [ih (by omega), h3 n (by omega) (by omega)]
  unfold SZk Rf lD lW eD
  rw [hf 1 (by decide) (by decide), hf 2 (by decide) (by decide), hf 3 (by decide) (by decide), hf 5 (by decide) (by decide), hf 6 (by decide) (by decide), hps _ (by omega)]
theorem PBok_of {M : Mm} {z : Int} (hu : ∀ k : Int, 0 ≤ k → k < 7 → 1 ≤ M 3 k ∧ M 3 k ≤ 31) (hn : M 2 1 ≤ 7) (hz : z = SZk M 2 3) (h1 : 1 ≤ z) (h2 : z ≤ 3000) : PBok M := by
  have h3 := pb_rg (u := fun k => M 3 k) hu (M 2 1).toNat (by omega)
  unfold SZk at hz
  unfold PBok
  generalize PB (fun k => M 3 k) (M 2 1).toNat = pb at h3
  generalize PS (fun k => M 3 k) (M 2 1).toNat = ps at h3 hz
  have h4 : 1 ≤ Rf M 2 := by
    refine Int.not_lt.mp (fun q => ?_)
    have : Rf M 2 * ps ≤ 0 * ps := Int.mul_le_mul_of_nonneg_right (by omega) (by omega)
    omega
  have h5 : 1 * ps ≤ Rf M 2 * ps := Int.mul_le_mul_of_nonneg_right h4 (by omega)
  omega
theorem rk_back {M : Mm} {n p b a mv cv kv sv av r : Int} (hWC : WC M) (hp : 0 ≤ p) (hpp : p < M 2 1) (hmv : M 3 p = mv) (hcv : M 15 p = cv) (hk : kv = if cv ≤ 2 then cv else cv - 1) (hs : sv = pw kv) (hav : av = ((mv.toNat &&& (sv - 1).toNat : Nat) : Int)) (hb : b = bcF mv) (ha : a = bcF av) (hr : r = n * b) (hm : 1 ≤ mv ∧ mv ≤ 31) (hk2 : 0 ≤ kv ∧ kv ≤ 4) (h : 0 ≤ n ∧ n + 1 ≤ PB (fun k => M 3 k) p.toNat) : 0 ≤ r + a ∧ r + a + 1 ≤ PB (fun k => M 3 k) (p + 1).toNat := by
  have h1 := hWC p hp hpp
  rw [hmv, hcv] at h1
  have h2 : kf cv = kv := hk.symm
  rw [h2] at h1
  have h3 : bcF av + 1 ≤ bcF mv := bc_hd hm hk2 h1 (by rw [hav, hs])
  have h4 := bcF_nn av
  rw [pb_succ hp, hr]
  show 0 ≤ n * b + a ∧ n * b + a + 1 ≤ PB (fun k => M 3 k) p.toNat * bcF (M 3 p)
  rw [hmv, ← hb]
  rw [← ha] at h3 h4
  rw [← hb] at h3
  have h5 : 0 ≤ n * b := Int.mul_nonneg h.1 (by omega)
  have h6 := Int.mul_le_mul_of_nonneg_right h.2 (show 0 ≤ b by omega)
  rw [Int.add_mul, Int.one_mul] at h6
  omega
theorem sz_back {u : Int → Int} {R v w p r : Int} (hp : 0 ≤ p) (hv : v = R * PS u p.toNat) (hw : w = bcF (u p) + u p / 4 % 2) (hr : r = v * w) : r = R * PS u (p + 1).toNat := by
  rw [ps_succ hp, hr, hv, hw, Int.mul_assoc]
theorem bc_rg0 {x : Int} (h : 0 ≤ x ∧ x ≤ 31) : 0 ≤ bcF x ∧ bcF x ≤ 5 := by
  obtain ⟨n, rfl⟩ := Int.eq_ofNat_of_zero_le h.1
  have h1 := List.all_eq_true.mp bcF_31 n (List.mem_range.mpr (by omega))
  simp only [Bool.and_eq_true, decide_eq_true_eq] at h1
  have h2 := bcF_nn (n : Int)
  rw [bcF_eq] at h2 ⊢
  exact ⟨h2, h1.2⟩
theorem ps_rg {u : Int → Int} (hu : ∀ k : Int, 0 ≤ k → k < 7 → 0 ≤ u k ∧ u k ≤ 31) : ∀ n : Nat, n ≤ 7 → 0 ≤ PS u n ∧ PS u n ≤ 6 ^ n := by
  intro n
  induction n with
  | zero => intro _; exact ⟨show (0 : Int) ≤ 1 by decide, Int.le_refl _⟩
  | succ n ih =>
    intro hn
    obtain ⟨h1, h3⟩ := ih (by omega)
    have h4 := hu n (by omega) (by omega)
    have h5 := bc_rg0 h4
    show 0 ≤ PS u n * (bcF (u n) + u n / 4 % 2) ∧ PS u n * (bcF (u n) + u n / 4 % 2) ≤ 6 ^ (n + 1)
    have h6 : 0 ≤ u (n : Int) / 4 % 2 ∧ u (n : Int) / 4 % 2 ≤ 1 := by omega
    generalize u (n : Int) / 4 % 2 = t at h6
    generalize bcF (u (n : Int)) = b at h5
    refine ⟨Int.mul_nonneg h1 (by omega), ?_⟩
    rw [Int.pow_succ]
    exact Int.mul_le_mul h3 (by omega) (by omega) (by omega)
theorem sz_rg {u : Int → Int} (hu : ∀ k : Int, 0 ≤ k → k < 7 → 0 ≤ u k ∧ u k ≤ 31) {R v p : Int} (hp : 0 ≤ p) (hp7 : p ≤ 7) (hR : -100 ≤ R ∧ R ≤ 100) (hv : v = R * PS u p.toNat) : -27993600 ≤ v ∧ v ≤ 27993600 := by
  have h1 := ps_rg hu p.toNat (by omega)
  have h2 : (6 : Int) ^ p.toNat ≤ 6 ^ 7 := by
    have : (6 : Nat) ^ p.toNat ≤ 6 ^ 7 := Nat.pow_le_pow_right (by decide) (by omega)
    exact_mod_cast this
  have h3 : (6 : Int) ^ 7 = 279936 := by decide
  generalize PS u p.toNat = ps at h1 hv
  have h4 : 0 ≤ ps ∧ ps ≤ 279936 := by omega
  have h5 : R * ps ≤ 100 * ps := Int.mul_le_mul_of_nonneg_right hR.2 h4.1
  have h6 : -100 * ps ≤ R * ps := Int.mul_le_mul_of_nonneg_right hR.1 h4.1
  omega
def fm_m246 : Nat := 0
/-- java/lang/Integer.bitCount -/
theorem m246 {B : eB} (d : Nat) (M0 : Mm) (p0 : Int) (hP0 : Pw M0) (l0 : 0 ≤ p0) (u0 : p0 ≤ 4095) : Ct B (d + 1) 246 [I p0] M0 (qI fun z M => Pw M ∧ Fr fm_m246 M0 M ∧ 0 ≤ z ∧ z ≤ 63 ∧ (z = bcF p0)) := by
  refine ct_of (d := d + 0) (k := 0) (L := [some (I p0)]) rfl rfl rfl ?_
  have hF0 := Fr.rf fm_m246 M0
  generalize hQ : (qI fun z M => Pw M ∧ Fr fm_m246 M0 M ∧ 0 ≤ z ∧ z ≤ 63 ∧ (z = bcF p0)) = Q
  refine wk_il0 r246_0 (wk_il0 r246_1 (wk_c1 r246_2 (wk_iushrb r246_3 (by decide) ?_)))
  intro v1 h2 h3 h4
  refine wk_c5 r246_4 (wk_iand r246_7 ⟨by omega, by omega⟩ ⟨by omega, by omega⟩ ?_)
  intro v5 h6 h7 h8 h9
  refine wk_isub r246_8 (wk_is0 r246_9 (wk_il0 r246_10 (wk_c5 r246_11 (wk_iandr r246_14 ⟨by omega, by omega⟩ ?_))))
  intro v10 h11 h12 h13
  refine wk_il0 r246_15 (wk_c1 r246_16 (wk_iushrb r246_17 (by decide) ?_))
  intro v14 h15 h16 h17
  refine wk_c5 r246_18 (wk_iand r246_21 ⟨by omega, by omega⟩ ⟨by omega, by omega⟩ ?_)
  intro v18 h19 h20 h21 h22
  refine wk_iadd r246_22 (wk_is0 r246_23 (wk_il0 r246_24 (wk_il0 r246_25 (wk_c1 r246_26 (wk_iushrb r246_27 (by decide) ?_)))))
  intro v23 h24 h25 h26
  refine wk_iadd r246_28 (wk_wrap ?_)
  intro v27 h28 h29 h30
  refine wk_c5 r246_29 (wk_iandr r246_32 ⟨by omega, by omega⟩ ?_)
  intro v31 h32 h33 h34
  refine wk_is0 r246_33 (wk_il0 r246_34 (wk_il0 r246_35 (wk_c2 r246_36 (wk_iushrb r246_38 (by decide) ?_))))
  intro v35 h36 h37 h38
  refine wk_iadd r246_39 (wk_wrap ?_)
  intro v39 h40 h41 h42
  refine wk_is0 r246_40 (wk_il0 r246_41 (wk_il0 r246_42 (wk_c2 r246_43 (wk_iushrb r246_45 (by decide) ?_))))
  intro v43 h44 h45 h46
  refine wk_iadd r246_46 (wk_wrap ?_)
  intro v47 h48 h49 h50
  refine wk_is0 r246_47 (wk_il0 r246_48 (wk_c2 r246_49 (wk_iandc 6 64 r246_51 ⟨rfl, by decide⟩ rfl ?_)))
  subst hQ; exact wk_iret r246_52 (⟨rfl, _, rfl, hP0, hF0, by omega, by omega, by rw [bcF_eq]; subst_vars; rfl⟩)
def fm_m184_7 : Nat := 0
/-- IslandHall$Plan.size -/
theorem m184_7 {B : eB} (d : Nat) (M0 : Mm) (hP0 : Pw M0)  : Ct B (d + 3) 184 [R 7] M0 (qI fun z M => Pw M ∧ Fr fm_m184_7 M0 M ∧ (-1791590400) ≤ z ∧ z ≤ 1791590400 ∧ (z = SZk M0 7 8)) := by
  refine ct_of (d := d + 2) (k := 2) (L := [some (R 7), none, none]) rfl rfl rfl ?_
  have hF0 := Fr.rf fm_m184_7 M0
  generalize hQ : (qI fun z M => Pw M ∧ Fr fm_m184_7 M0 M ∧ (-1791590400) ≤ z ∧ z ≤ 1791590400 ∧ (z = SZk M0 7 8)) = Q
  refine wk_al0 r184_0 (wk_getfb r184_1 fd_7_2 (bf_7_2 hP0) ?_)
  intro v1 h3 h4 e2
  refine wk_al0 r184_4 (wk_cv1 r184_5 kc_7_181 rfl (m181_7 _ M0 hP0) (cqI ?_))
  rintro v10 M5 ⟨hP6, hQ7, h11, h12, xh9⟩
  obtain rfl := Fr.same hQ7
  refine wk_al0 r184_8 (wk_cv1 r184_9 kc_7_179 rfl (m179_7 _ M0 hP0) (cqI ?_))
  rintro v18 M13 ⟨hP14, hQ15, h19, h20, xh17⟩
  obtain rfl := Fr.same hQ15
  refine wk_isub r184_12 (wk_c1 r184_13 (wk_iadd r184_14 (wk_mula 4 7 r184_15 ⟨by omega, by omega⟩ ⟨by omega, by omega⟩ ?_)))
  intro v21 h22 h23 h24
  refine wk_al0 r184_16 (wk_cv1 r184_17 kc_7_182 rfl (m182_7 _ M0 hP0) (cqI ?_))
  rintro v30 M25 ⟨hP26, hQ27, h31, h32, xh29⟩
  obtain rfl := Fr.same hQ27
  refine wk_c1 r184_20 (wk_iadd r184_21 (wk_mula 28 2 r184_22 ⟨by omega, by omega⟩ ⟨by omega, by omega⟩ ?_))
  intro v33 h34 h35 h36
  refine wk_is1 r184_23 rfl ?_
  have hRf : v33 = Rf M0 7 := by unfold Rf; rw [← xh9, ← xh17, ← xh29, e2, h36, h24]
  have hRb : -100 ≤ Rf M0 7 ∧ Rf M0 7 ≤ 100 := by rw [← hRf]; omega
  refine wk_c1 r184_24 (wk_is2 r184_25 rfl ?_)
  have c26_268 : ∀ (k268 : Nat) (v235 : Int) (v238 : Int), (7 - v238).toNat = k268 → (-1791590400) ≤ v235 → v235 ≤ 1791590400 → 0 ≤ v238 → v238 ≤ 7 → (v235 = Rf M0 7 * PS (fun k => M0 8 k) (v238).toNat) → (v238 ≤ M0 7 1 ∨ v238 = 0) → Wp B (d + 2) 184 26 [some (R 7), some (I v235), some (I v238)] [] M0 Q := by
    refine lp_ind ?_
    intro k268 ih268 v235 v238 hk268 h236 h237 h239 h240 ti241 ti242
    refine wk_il2 r184_26 (wk_al0 r184_27 (wk_getfb r184_28 fd_7_1 (bf_7_1 hP0) ?_))
    intro v243 h245 h246 e244
    refine wk_icge r184_31 ⟨by omega, by omega⟩ ⟨by omega, by omega⟩ ?_ ?_
    · intro h247
      refine wk_il1 r184_63 ?_
      subst hQ; exact wk_iret r184_64 (⟨rfl, _, rfl, hP0, hF0, by omega, by omega, by unfold SZk; rw [show (M0 7 1).toNat = (v238).toNat by have := ti242; omega]; exact ti241⟩)
    · intro h248
      refine wk_il1 r184_34 (wk_al0 r184_35 (wk_getfr r184_36 fd_7_0 (br_7_0 hP0) (wk_il2 r184_39 (wk_ialdb r184_40 ar_8 ⟨by omega, by omega⟩ (fun q0 q1 => ba_8 hP0 q0 q1) ?_))))
      intro v249 h251 h252 e250
      refine wk_cs102_1 r184_41 rfl (m246 _ M0 v249 hP0 (by omega) (by omega)) (cqI ?_)
      rintro v258 M253 ⟨hP254, hQ255, h259, h260, xh257⟩
      obtain rfl := Fr.same hQ255
      refine wk_al0 r184_44 (wk_getfr r184_45 fd_7_0 (br_7_0 hP0) (wk_il2 r184_48 (wk_iald r184_49 ar_8 ⟨by omega, by omega⟩ e250 (wk_c1 r184_50 (wk_ishrc r184_51 ⟨by omega, by omega⟩ (by decide) pwl_2 (wk_c1 r184_52 (wk_iandc 1 2 r184_53 ⟨rfl, by decide⟩ rfl (wk_iadd r184_54 ?_))))))))
      have h263 := sz_rg (u := fun k => M0 8 k) (fun k a b => by have := ba_8 hP0 a b; omega) (R := Rf M0 7) (v := v235) (p := v238) (by omega) (by omega) hRb ti241
      refine wk_mula 27993600 64 r184_55 ⟨by omega, by omega⟩ ⟨by omega, by omega⟩ ?_
      intro v264 h265 h266 h267
      refine wk_is1 r184_56 rfl (wk_inc2 r184_57 rfl (wk_goto r184_60 ?_))
      exact wp_fg (le_s (le_s (le_s le_0))) (ih268 (7 - (v238 + 1)).toNat (by omega) v264 (v238 + 1) rfl (by omega) (by omega) (by omega) (by omega) (sz_back (by omega) ti241 (by show _ = bcF (M0 8 v238) + M0 8 v238 / 4 % 2; rw [e250]; omega) h267) (Or.inl (by omega)))
  exact wp_fg (le_s (le_s (le_s le_0))) (c26_268 _ v33 0 rfl (by omega) (by omega) (by omega) (by omega) (by rw [hRf]; exact (Int.mul_one _).symm) (Or.inr rfl))
def fm_m159_6v3 : Nat := 412316860416
/-- IslandHall$Parser.fail -/
theorem m159_6v3 {B : eB} (d : Nat) (M0 : Mm) (p1 : Int) (hP0 : Pw M0) (l1 : 1 ≤ p1) (u1 : p1 ≤ 6) : Ct B (d + 1) 159 [R 6, I p1] M0 (qI fun z M => Pw M ∧ Fr fm_m159_6v3 M0 M ∧ 0 ≤ z ∧ z ≤ 0 ∧ 0 ≤ M 6 4 + (-1)) := by
  refine ct_of (d := d + 0) (k := 0) (L := [some (R 6), some (I p1)]) rfl rfl rfl ?_
  have hF0 := Fr.rf fm_m159_6v3 M0
  generalize hQ : (qI fun z M => Pw M ∧ Fr fm_m159_6v3 M0 M ∧ 0 ≤ z ∧ z ≤ 0 ∧ 0 ≤ M 6 4 + (-1)) = Q
  refine wk_al0 r159_0 (wk_il1 r159_1 (wk_putfi81 r159_2 fd_6_4 (wk_nw g_6_4 rfl hP0 hF0 (uf_6_4 ⟨by omega, by omega⟩) ?_)))
  intro M1 hP2 hF3 e4
  refine wk_al0 r159_5 (wk_al0 r159_6 (wk_getfr r159_7 fd_6_0 (br_6_0 hP2) (wk_getfb r159_10 fd_9_3 (bf_9_3 hP2) ?_)))
  intro v5 h7 h8 e6
  refine wk_putfi81 r159_13 fd_6_5 (wk_nw g_6_5 rfl hP2 hF3 (uf_6_5 ⟨by omega, by omega⟩) ?_)
  intro M9 hP10 hF11 e12
  refine wk_c1 r159_16 ?_
  subst hQ; exact wk_zret r159_17 (by decide) (⟨rfl, _, rfl, hP10, hF11, by omega, by omega, by have := (mUp_no e12 (mUp_at e4) (Or.inr (by decide))); omega⟩)
def fm_m167_6v5 : Nat := 3941061990809600
/-- IslandHall$Parser.number -/
theorem m167_6v5 {B : eB} (d : Nat) (M0 : Mm) (p1 : Int) (p2 : Int) (hP0 : Pw M0) (l1 : 1 ≤ p1) (u1 : p1 ≤ 1) (l2 : 4 ≤ p2) (u2 : p2 ≤ 4) : Ct B (d + 3) 167 [R 6, I p1, I p2] M0 (qI fun z M => Pw M ∧ Fr fm_m167_6v5 M0 M ∧ (-1) ≤ z ∧ z ≤ 4 ∧ 0 ≤ z + M 6 4) := by
  refine ct_of (d := d + 2) (k := 1) (L := [some (R 6), some (I p1), some (I p2), none]) rfl rfl rfl ?_
  have hF0 := Fr.rf fm_m167_6v5 M0
  generalize hQ : (qI fun z M => Pw M ∧ Fr fm_m167_6v5 M0 M ∧ (-1) ≤ z ∧ z ≤ 4 ∧ 0 ≤ z + M 6 4) = Q
  refine wk_al0 r167_0 (wk_getfr r167_1 fd_6_0 (br_6_0 hP0) (wk_getfb r167_4 fd_9_4 (bf_9_4 hP0) ?_))
  intro v1 h3 h4 e2
  refine wk_c1 r167_7 ?_
  refine wk_iceq r167_8 ⟨by omega, by omega⟩ (by decide) ?_ ?_
  · intro h5
    refine wk_al0 r167_19 (wk_getfr r167_20 fd_6_0 (br_6_0 hP0) (wk_cv1 r167_23 kc_9_244 rfl (m244_9 _ M0 hP0) (cqI ?_)))
    rintro v10 M6 ⟨hP7, hQ8, h11, h12⟩
    obtain rfl := Fr.same hQ8
    refine wk_is3 r167_26 rfl (wk_il3 r167_27 (wk_il1 r167_28 ?_))
    refine wk_iclt r167_29 ⟨by omega, by omega⟩ ⟨by omega, by omega⟩ ?_ ?_
    · intro h13
      refine wk_al0 r167_37 (wk_c1 r167_38 (wk_cv2 r167_39 kc_6_159 rfl (m159_6v1 _ M0 2 hP0 (by decide) (by decide)) (cqI ?_)))
      rintro v19 M14 ⟨hP15, hQ16, h20, h21, h18⟩
      have hF17 : Fr fm_m167_6v5 M0 M14 := hF0.tr hQ16 rfl
      obtain ⟨v22, e23⟩ : ∃ v, M14 6 4 = v := ⟨_, rfl⟩
      have h24 := bf_6_4 hP15; rw [e23] at h24
      refine wk_popi r167_42 (wk_c1 r167_43 ?_)
      subst hQ; exact wk_iret r167_44 (⟨rfl, _, rfl, hP15, hF17, by omega, by omega, by have := e23; omega⟩)
    · intro h25
      refine wk_il3 r167_32 (wk_il2 r167_33 ?_)
      refine wk_icle r167_34 ⟨by omega, by omega⟩ ⟨by omega, by omega⟩ ?_ ?_
      · intro h26
        refine wk_al0 r167_45 (wk_getfr r167_46 fd_6_0 (br_6_0 hP0) (wk_cv1 r167_49 kc_9_241 rfl (m241_9 _ M0 hP0) (cqV ?_)))
        rintro M27 ⟨hP28, hQ29⟩
        have hF30 : Fr fm_m167_6v5 M0 M27 := hF0.tr hQ29 rfl
        refine wk_il3 r167_52 ?_
        subst hQ; exact wk_iret r167_53 (⟨rfl, _, rfl, hP28, hF30, by omega, by omega, by have := (bf_6_4 hP28); omega⟩)
      · intro h31
        refine wk_al0 r167_37 (wk_c1 r167_38 (wk_cv2 r167_39 kc_6_159 rfl (m159_6v1 _ M0 2 hP0 (by decide) (by decide)) (cqI ?_)))
        rintro v37 M32 ⟨hP33, hQ34, h38, h39, h36⟩
        have hF35 : Fr fm_m167_6v5 M0 M32 := hF0.tr hQ34 rfl
        obtain ⟨v40, e41⟩ : ∃ v, M32 6 4 = v := ⟨_, rfl⟩
        have h42 := bf_6_4 hP33; rw [e41] at h42
        refine wk_popi r167_42 (wk_c1 r167_43 ?_)
        subst hQ; exact wk_iret r167_44 (⟨rfl, _, rfl, hP33, hF35, by omega, by omega, by have := e41; omega⟩)
  · intro h43
    refine wk_al0 r167_11 (wk_c1 r167_12 (wk_cv2 r167_13 kc_6_159 rfl (m159_6 _ M0 1 hP0 (by decide) (by decide)) (cqI ?_)))
    rintro v49 M44 ⟨hP45, hQ46, h50, h51, h48⟩
    have hF47 : Fr fm_m167_6v5 M0 M44 := hF0.tr hQ46 rfl
    obtain ⟨v52, e53⟩ : ∃ v, M44 6 4 = v := ⟨_, rfl⟩
    have h54 := bf_6_4 hP45; rw [e53] at h54
    refine wk_popi r167_16 (wk_c1 r167_17 ?_)
    subst hQ; exact wk_iret r167_18 (⟨rfl, _, rfl, hP45, hF47, by omega, by omega, by have := e53; omega⟩)
def fm_m162_6 : Nat := 3967450269876224
/-- IslandHall$Parser.liesClause -/
theorem m162_6 {B : eB} (d : Nat) (M0 : Mm) (hP0 : Pw M0)  : Ct B (d + 4) 162 [R 6] M0 (qI fun z M => Pw M ∧ Fr fm_m162_6 M0 M ∧ 0 ≤ z ∧ z ≤ 1 ∧ 0 ≤ z + M 6 4 + (-1)) := by
  refine ct_of (d := d + 3) (k := 3) (L := [some (R 6), none, none, none]) rfl rfl rfl ?_
  have hF0 := Fr.rf fm_m162_6 M0
  generalize hQ : (qI fun z M => Pw M ∧ Fr fm_m162_6 M0 M ∧ 0 ≤ z ∧ z ≤ 1 ∧ 0 ≤ z + M 6 4 + (-1)) = Q
  refine wk_c1 r162_0 (wk_is1 r162_1 rfl (wk_c1 r162_2 (wk_is2 r162_3 rfl ?_)))
  have c4_501 : ∀ (k501 : Nat) (M448 : Mm) (v442 : Int) (v445 : Int), (500 - v445).toNat = k501 → Pw M448 → Fr fm_m162_6 M0 M448 → 0 ≤ v442 → v442 ≤ 127 → 0 ≤ v445 → v445 ≤ 500 → Wp B (d + 3) 162 4 [some (R 6), some (I v442), some (I v445), none] [] M448 Q := by
    refine lp_ind ?_
    intro k501 ih501 M448 v442 v445 hk501 hP449 hF450 h443 h444 h446 h447
    refine wk_il2 r162_4 (wk_c3 r162_5 ?_)
    refine wk_icge r162_8 ⟨by omega, by omega⟩ (by decide) ?_ ?_
    · intro h451
      refine wk_al0 r162_53 (wk_getfr r162_54 fd_6_1 (br_6_1 hP449) (wk_il1 r162_57 (wk_putfi81 r162_58 fd_7_4 (wk_nw g_7_4 rfl hP449 hF450 (uf_7_4 ⟨by omega, by omega⟩) ?_))))
      intro M452 hP453 hF454 e455
      refine wk_al0 r162_61 (wk_getfr r162_62 fd_6_1 (br_6_1 hP453) (wk_c1 r162_65 (wk_putfz81 r162_66 fd_7_5 (by decide) (wk_nw g_7_5 rfl hP453 hF454 (uf_7_5 (by decide)) ?_))))
      intro M456 hP457 hF458 e459
      refine wk_c1 r162_69 ?_
      subst hQ; exact wk_zret r162_70 (by decide) (⟨rfl, _, rfl, hP457, hF458, by omega, by omega, by have := (bf_6_4 hP457); omega⟩)
    · intro h460
      refine wk_il2 r162_11 ?_
      have c26_500 : Wp B (d + 3) 162 26 [some (R 6), some (I v442), some (I v445), none] [] M448 Q := by
        refine wk_al0 r162_26 (wk_c1 r162_27 (wk_c2 r162_28 (wk_cv3 r162_30 kc_6_167 rfl (m167_6v2 _ M448 0 6 hP449 (by decide) (by decide) (by decide) (by decide)) (cqI ?_))))
        rintro v482 M477 ⟨hP478, hQ479, h483, h484, h481⟩
        have hF480 : Fr fm_m162_6 M0 M477 := hF450.tr hQ479 rfl
        obtain ⟨v485, e486⟩ : ∃ v, M477 6 4 = v := ⟨_, rfl⟩
        have h487 := bf_6_4 hP478; rw [e486] at h487
        refine wk_is3 r162_33 rfl (wk_il3 r162_34 (wk_c1 r162_35 ?_))
        refine wk_icne r162_36 ⟨by omega, by omega⟩ (by decide) ?_ ?_
        · intro h488
          refine wk_il1 r162_41 (wk_c1 r162_42 (wk_il3 r162_43 (wk_shl1 6 64 r162_44 ⟨by omega, by omega⟩ ⟨pwl_6, by decide⟩ ?_)))
          intro v489 h490 h491 h492
          refine wk_ior 7 128 r162_45 (by decide) ⟨by omega, by omega⟩ ⟨by omega, by omega⟩ ?_
          intro v493 h494 h495 h496 h497 h498
          refine wk_is1 r162_46 rfl (wk_inc2 r162_47 rfl (wk_goto r162_50 ?_))
          exact wp_fg (le_s (le_s (le_s (le_n le_0)))) (ih501 (500 - (v445 + 1)).toNat (by omega) M477 v493 (v445 + 1) rfl hP478 hF480 (by omega) (by omega) (by omega) (by omega))
        · intro h499
          refine wk_c1 r162_39 ?_
          subst hQ; exact wk_zret r162_40 (by decide) (⟨rfl, _, rfl, hP478, hF480, by omega, by omega, by have := e486; omega⟩)
      refine wk_ifeq r162_12 ⟨by omega, by omega⟩ ?_ ?_
      · intro h461
        exact wp_fg (le_s (le_s (le_s (le_s le_0)))) c26_500
      · intro h462
        refine wk_al0 r162_15 (wk_getfr r162_16 fd_6_0 (br_6_0 hP449) (wk_getfb r162_19 fd_9_4 (bf_9_4 hP449) ?_))
        intro v463 h465 h466 e464
        refine wk_c1 r162_22 ?_
        refine wk_icne r162_23 ⟨by omega, by omega⟩ (by decide) ?_ ?_
        · intro h467
          refine wk_al0 r162_53 (wk_getfr r162_54 fd_6_1 (br_6_1 hP449) (wk_il1 r162_57 (wk_putfi81 r162_58 fd_7_4 (wk_nw g_7_4 rfl hP449 hF450 (uf_7_4 ⟨by omega, by omega⟩) ?_))))
          intro M468 hP469 hF470 e471
          refine wk_al0 r162_61 (wk_getfr r162_62 fd_6_1 (br_6_1 hP469) (wk_c1 r162_65 (wk_putfz81 r162_66 fd_7_5 (by decide) (wk_nw g_7_5 rfl hP469 hF470 (uf_7_5 (by decide)) ?_))))
          intro M472 hP473 hF474 e475
          refine wk_c1 r162_69 ?_
          subst hQ; exact wk_zret r162_70 (by decide) (⟨rfl, _, rfl, hP473, hF474, by omega, by omega, by have := (bf_6_4 hP473); omega⟩)
        · intro h476
          exact wp_fg (le_s (le_s (le_s (le_s le_0)))) c26_500
  exact wp_fg (le_s (le_s (le_s (le_s le_0)))) (c4_501 _ M0 0 0 rfl hP0 hF0 (by omega) (by omega) (by omega) (by omega))
def fm_m164_6 : Nat := 4011430734987264
/-- IslandHall$Parser.mayClause -/
theorem m164_6 {B : eB} (d : Nat) (M0 : Mm) (hP0 : Pw M0) (xp0 : ∀ k : Int, 0 ≤ k → k < 7 → 1 ≤ M0 8 k) : Ct B (d + 5) 164 [R 6] M0 (qI fun z M => Pw M ∧ Fr fm_m164_6 M0 M ∧ 0 ≤ z ∧ z ≤ 1 ∧ 0 ≤ z + M 6 4 + (-1) ∧ (∀ k : Int, 0 ≤ k → k < 7 → 1 ≤ M 8 k)) := by
  refine ct_of (d := d + 4) (k := 5) (L := [some (R 6), none, none, none, none, none]) rfl rfl rfl ?_
  have hF0 := Fr.rf fm_m164_6 M0
  generalize hQ : (qI fun z M => Pw M ∧ Fr fm_m164_6 M0 M ∧ 0 ≤ z ∧ z ≤ 1 ∧ 0 ≤ z + M 6 4 + (-1) ∧ (∀ k : Int, 0 ≤ k → k < 7 → 1 ≤ M 8 k)) = Q
  obtain ⟨u1, hu2⟩ : ∃ u : Int → Int, ∀ k, M0 8 k = u k := ⟨fun k => M0 8 k, fun k => rfl⟩
  have dm0 : ∀ k : Int, 0 ≤ k → k < 7 → 1 ≤ u1 k := fun k a b => by rw [← hu2 k]; exact xp0 k a b
  refine wk_al0 r164_0 (wk_cv1 r164_1 kc_6_165 rfl (m165_6 _ M0 hP0) (cqI ?_))
  rintro v8 M3 ⟨hP4, hQ5, h9, h10, h7⟩
  have hF6 : Fr fm_m164_6 M0 M3 := hF0.tr hQ5 rfl
  obtain ⟨v11, e12⟩ : ∃ v, M3 6 4 = v := ⟨_, rfl⟩
  have h13 := bf_6_4 hP4; rw [e12] at h13
  refine wk_is1 r164_4 rfl (wk_il1 r164_5 (wk_c1 r164_6 ?_))
  refine wk_icne r164_7 ⟨by omega, by omega⟩ (by decide) ?_ ?_
  · intro h14
    refine wk_al0 r164_14 (wk_cv1 r164_15 kc_6_173 rfl (m173_6 _ M3 hP4) (cqI ?_))
    rintro v20 M15 ⟨hP16, hQ17, h21, h22, h19⟩
    have hF18 : Fr fm_m164_6 M0 M15 := hF6.tr hQ17 rfl
    obtain ⟨v23, e24⟩ : ∃ v, M15 6 4 = v := ⟨_, rfl⟩
    have h25 := bf_6_4 hP16; rw [e24] at h25
    refine wk_is2 r164_18 rfl (wk_il2 r164_19 (wk_c1 r164_20 ?_))
    refine wk_icne r164_21 ⟨by omega, by omega⟩ (by decide) ?_ ?_
    · intro h26
      refine wk_c1 r164_26 (wk_il2 r164_27 (wk_shl1 4 16 r164_28 ⟨by omega, by omega⟩ ⟨pwl_4, by decide⟩ ?_))
      intro v27 h28 h29 h30
      refine wk_is3 r164_29 rfl (wk_c1 r164_30 (wk_is4 r164_31 rfl ?_))
      have c33_507 : ∀ (k507 : Nat) (M442 : Mm) (v436 : Int) (v439 : Int), (5 - v439).toNat = k507 → Pw M442 → Fr fm_m164_6 M0 M442 → M442 6 4 = v23 → 1 ≤ v436 → v436 ≤ 31 → 0 ≤ v439 → v439 ≤ 5 → (∀ k, M442 8 k = u1 k) → Wp B (d + 4) 164 33 [some (R 6), some (I v8), none, some (I v436), some (I v439), none] [] M442 Q := by
        refine lp_ind ?_
        intro k507 ih507 M442 v436 v439 hk507 hP443 hF444 e446 h437 h438 h440 h441 hu445
        refine wk_il4 r164_33 (wk_c1 r164_35 ?_)
        refine wk_icge r164_36 ⟨by omega, by omega⟩ (by decide) ?_ ?_
        · intro h447
          refine wk_al0 r164_92 (wk_getfr r164_93 fd_6_1 (br_6_1 hP443) (wk_getfr r164_96 fd_7_0 (br_7_0 hP443) (wk_il1 r164_99 (wk_il3 r164_100 ?_))))
          have dm1 : ∀ k : Int, 0 ≤ k → k < 7 → 1 ≤ M442 8 k := fun k a b => by rw [hu445 k]; exact dm0 k a b
          refine wk_iast r164_101 ar_8 ⟨by omega, by omega⟩ (wk_nw (ga_8 _) rfl hP443 hF444 (ua_8 ⟨by omega, by omega⟩) ?_)
          intro M448 hP449 hF450 e451
          refine wk_c1 r164_102 ?_
          subst hQ; exact wk_zret r164_103 (by decide) (⟨rfl, _, rfl, hP449, hF450, by omega, by omega, by have := (mUp_no e451 e446 (Or.inl (by decide))); omega, fun k a b => dm_up e451 dm1 (by omega) k a b⟩)
        · intro h452
          refine wk_al0 r164_39 (wk_getfr r164_40 fd_6_0 (br_6_0 hP443) (wk_cv1 r164_43 kc_9_240 rfl (m240_9 _ M442 hP443) (cqI ?_)))
          rintro v458 M453 ⟨hP454, hQ455, h459, h460, xh457⟩
          obtain rfl := Fr.same hQ455
          refine wk_c1 r164_46 ?_
          refine wk_iceq r164_47 ⟨by omega, by omega⟩ (by decide) ?_ ?_
          · intro h461
            refine wk_al0 r164_92 (wk_getfr r164_93 fd_6_1 (br_6_1 hP443) (wk_getfr r164_96 fd_7_0 (br_7_0 hP443) (wk_il1 r164_99 (wk_il3 r164_100 ?_))))
            have dm1 : ∀ k : Int, 0 ≤ k → k < 7 → 1 ≤ M442 8 k := fun k a b => by rw [hu445 k]; exact dm0 k a b
            refine wk_iast r164_101 ar_8 ⟨by omega, by omega⟩ (wk_nw (ga_8 _) rfl hP443 hF444 (ua_8 ⟨by omega, by omega⟩) ?_)
            intro M462 hP463 hF464 e465
            refine wk_c1 r164_102 ?_
            subst hQ; exact wk_zret r164_103 (by decide) (⟨rfl, _, rfl, hP463, hF464, by omega, by omega, by have := (mUp_no e465 e446 (Or.inl (by decide))); omega, fun k a b => dm_up e465 dm1 (by omega) k a b⟩)
          · intro h466
            refine wk_c1 r164_50 (wk_al0 r164_51 (wk_getfr r164_52 fd_6_0 (br_6_0 hP443) (wk_cv1 r164_55 kc_9_240 rfl (m240_9 _ M442 hP443) (cqI ?_))))
            rintro v472 M467 ⟨hP468, hQ469, h473, h474, xh471⟩
            obtain rfl := Fr.same hQ469
            refine wk_shl1 4 16 r164_58 ⟨by omega, by omega⟩ ⟨pwl_4, by decide⟩ ?_
            intro v475 h476 h477 h478
            refine wk_is5 r164_59 rfl (wk_il3 r164_61 (wk_il5 r164_62 (wk_iand r164_64 ⟨by omega, by omega⟩ ⟨by omega, by omega⟩ ?_)))
            intro v479 h480 h481 h482 h483
            refine wk_ifeq r164_65 ⟨by omega, by omega⟩ ?_ ?_
            · intro h484
              refine wk_il3 r164_74 (wk_il5 r164_75 (wk_ior 5 32 r164_77 (by decide) ⟨by omega, by omega⟩ ⟨by omega, by omega⟩ ?_))
              intro v485 h486 h487 h488 h489 h490
              refine wk_is3 r164_78 rfl (wk_al0 r164_79 (wk_getfr r164_80 fd_6_0 (br_6_0 hP443) (wk_cv1 r164_83 kc_9_241 rfl (m241_9 _ M442 hP443) (cqV ?_))))
              rintro M491 ⟨hP492, hQ493⟩
              have hF494 : Fr fm_m164_6 M0 M491 := hF444.tr hQ493 rfl
              refine wk_inc4 r164_86 rfl (wk_goto r164_89 ?_)
              exact wp_fg (le_s (le_s (le_s (le_s (le_s (le_n le_0)))))) (ih507 (5 - (v439 + 1)).toNat (by omega) M491 v485 (v439 + 1) rfl hP492 hF494 ((hQ493.at g_6_4 rfl).trans e446) (by omega) (by omega) (by omega) (by omega) (fun k => (hQ493.at (ga_8 k) rfl).trans (hu445 k)))
            · intro h495
              refine wk_al0 r164_68 (wk_c1 r164_69 (wk_cv2 r164_70 kc_6_159 rfl (m159_6v3 _ M442 5 hP443 (by decide) (by decide)) (cqI ?_)))
              rintro v501 M496 ⟨hP497, hQ498, h502, h503, h500⟩
              have hF499 : Fr fm_m164_6 M0 M496 := hF444.tr hQ498 rfl
              obtain ⟨v504, e505⟩ : ∃ v, M496 6 4 = v := ⟨_, rfl⟩
              have h506 := bf_6_4 hP497; rw [e505] at h506
              subst hQ; exact wk_zret r164_73 ⟨by omega, by omega⟩ (⟨rfl, _, rfl, hP497, hF499, by omega, by omega, by have := e505; omega, fun k a b => by rw [(fun k => (hQ498.at (ga_8 k) rfl).trans (hu445 k)) k]; exact dm0 k a b⟩)
      exact wp_fg (le_s (le_s (le_n (le_s (le_s (le_s le_0)))))) (c33_507 _ M15 v27 0 rfl hP16 hF18 e24 (by omega) (by omega) (by omega) (by omega) (fun k => (hQ17.at (ga_8 k) rfl).trans ((fun k => (hQ5.at (ga_8 k) rfl).trans (hu2 k)) k)))
    · intro h508
      refine wk_c1 r164_24 ?_
      subst hQ; exact wk_zret r164_25 (by decide) (⟨rfl, _, rfl, hP16, hF18, by omega, by omega, by have := e24; omega, fun k a b => by rw [(fun k => (hQ17.at (ga_8 k) rfl).trans ((fun k => (hQ5.at (ga_8 k) rfl).trans (hu2 k)) k)) k]; exact dm0 k a b⟩)
  · intro h509
    refine wk_c1 r164_10 (wk_goto r164_11 (wk_is2 r164_18 rfl (wk_il2 r164_19 (wk_c1 r164_20 ?_))))
    refine wk_icne r164_21 (by decide) (by decide) ?_ ?_
    · intro h510
      exfalso
      omega
    · intro h511
      refine wk_c1 r164_24 ?_
      subst hQ; exact wk_zret r164_25 (by decide) (⟨rfl, _, rfl, hP4, hF6, by omega, by omega, by have := e12; omega, fun k a b => by rw [(fun k => (hQ5.at (ga_8 k) rfl).trans (hu2 k)) k]; exact dm0 k a b⟩)
def fm_m156_6 : Nat := 4079608508973056
/-- IslandHall$Parser.clause -/
theorem m156_6 {B : eB} (d : Nat) (M0 : Mm) (hP0 : Pw M0) (xp0 : ∀ k : Int, 0 ≤ k → k < 7 → 1 ≤ M0 8 k) : Ct B (d + 41) 156 [R 6] M0 (qI fun z M => Pw M ∧ Fr fm_m156_6 M0 M ∧ 0 ≤ z ∧ z ≤ 1 ∧ 0 ≤ z + M 6 4 + (-1) ∧ (∀ k : Int, 0 ≤ k → k < 7 → 1 ≤ M 8 k)) := by
  refine ct_of (d := d + 40) (k := 0) (L := [some (R 6)]) rfl rfl rfl ?_
  have hF0 := Fr.rf fm_m156_6 M0
  generalize hQ : (qI fun z M => Pw M ∧ Fr fm_m156_6 M0 M ∧ 0 ≤ z ∧ z ≤ 1 ∧ 0 ≤ z + M 6 4 + (-1) ∧ (∀ k : Int, 0 ≤ k → k < 7 → 1 ≤ M 8 k)) = Q
  obtain ⟨u1, hu2⟩ : ∃ u : Int → Int, ∀ k, M0 8 k = u k := ⟨fun k => M0 8 k, fun k => rfl⟩
  have dm0 : ∀ k : Int, 0 ≤ k → k < 7 → 1 ≤ u1 k := fun k a b => by rw [← hu2 k]; exact xp0 k a b
  refine wk_al0 r156_0 (wk_c8 r156_1 (wk_cv2 r156_3 kc_6_175 rfl (m175_6 _ M0 4120 hP0 (by decide)) (cqI ?_)))
  rintro v7 M3 ⟨hP4, hQ5, h8, h9⟩
  have hF6 : Fr fm_m156_6 M0 M3 := hF0.tr hQ5 rfl
  refine wk_ifeq r156_6 ⟨by omega, by omega⟩ ?_ ?_
  · intro h10
    refine wk_al0 r156_14 (wk_c8 r156_15 (wk_cv2 r156_17 kc_6_175 rfl (m175_6 _ M3 4121 hP4 (by decide)) (cqI ?_)))
    rintro v15 M11 ⟨hP12, hQ13, h16, h17⟩
    have hF14 : Fr fm_m156_6 M0 M11 := hF6.tr hQ13 rfl
    refine wk_ifeq r156_20 ⟨by omega, by omega⟩ ?_ ?_
    · intro h18
      refine wk_al0 r156_28 (wk_c8 r156_29 (wk_cv2 r156_31 kc_6_175 rfl (m175_6 _ M11 4122 hP12 (by decide)) (cqI ?_)))
      rintro v23 M19 ⟨hP20, hQ21, h24, h25⟩
      have hF22 : Fr fm_m156_6 M0 M19 := hF14.tr hQ21 rfl
      refine wk_ifeq r156_34 ⟨by omega, by omega⟩ ?_ ?_
      · intro h26
        refine wk_al0 r156_60 (wk_c8 r156_61 (wk_cv2 r156_63 kc_6_175 rfl (m175_6 _ M19 4123 hP20 (by decide)) (cqI ?_)))
        rintro v31 M27 ⟨hP28, hQ29, h32, h33⟩
        have hF30 : Fr fm_m156_6 M0 M27 := hF22.tr hQ29 rfl
        refine wk_ifeq r156_66 ⟨by omega, by omega⟩ ?_ ?_
        · intro h34
          refine wk_al0 r156_79 (wk_c8 r156_80 (wk_cv2 r156_82 kc_6_175 rfl (m175_6 _ M27 4124 hP28 (by decide)) (cqI ?_)))
          rintro v39 M35 ⟨hP36, hQ37, h40, h41⟩
          have hF38 : Fr fm_m156_6 M0 M35 := hF30.tr hQ37 rfl
          refine wk_ifeq r156_85 ⟨by omega, by omega⟩ ?_ ?_
          · intro h42
            refine wk_al0 r156_118 (wk_c8 r156_119 (wk_cv2 r156_121 kc_6_175 rfl (m175_6 _ M35 4115 hP36 (by decide)) (cqI ?_)))
            rintro v47 M43 ⟨hP44, hQ45, h48, h49⟩
            have hF46 : Fr fm_m156_6 M0 M43 := hF38.tr hQ45 rfl
            refine wk_ifeq r156_124 ⟨by omega, by omega⟩ ?_ ?_
            · intro h50
              refine wk_al0 r156_158 (wk_c1 r156_159 (wk_cv2 r156_160 kc_6_159 rfl (m159_6 _ M43 1 hP44 (by decide) (by decide)) (cqI ?_)))
              rintro v56 M51 ⟨hP52, hQ53, h57, h58, h55⟩
              have hF54 : Fr fm_m156_6 M0 M51 := hF46.tr hQ53 rfl
              obtain ⟨v59, e60⟩ : ∃ v, M51 6 4 = v := ⟨_, rfl⟩
              have h61 := bf_6_4 hP52; rw [e60] at h61
              subst hQ; exact wk_zret r156_163 ⟨by omega, by omega⟩ (⟨rfl, _, rfl, hP52, hF54, by omega, by omega, by have := e60; omega, fun k a b => by rw [(fun k => (hQ53.at (ga_8 k) rfl).trans ((fun k => (hQ45.at (ga_8 k) rfl).trans ((fun k => (hQ37.at (ga_8 k) rfl).trans ((fun k => (hQ29.at (ga_8 k) rfl).trans ((fun k => (hQ21.at (ga_8 k) rfl).trans ((fun k => (hQ13.at (ga_8 k) rfl).trans ((fun k => (hQ5.at (ga_8 k) rfl).trans (hu2 k)) k)) k)) k)) k)) k)) k)) k]; exact dm0 k a b⟩)
            · intro h62
              refine wk_al0 r156_127 (wk_getfr r156_128 fd_6_1 (br_6_1 hP44) (wk_al0 r156_131 (wk_c1 r156_132 (wk_c2 r156_133 (wk_cv3 r156_135 kc_6_167 rfl (m167_6v2 _ M43 0 6 hP44 (by decide) (by decide) (by decide) (by decide)) (cqI ?_))))))
              rintro v68 M63 ⟨hP64, hQ65, h69, h70, h67⟩
              have hF66 : Fr fm_m156_6 M0 M63 := hF46.tr hQ65 rfl
              obtain ⟨v71, e72⟩ : ∃ v, M63 6 4 = v := ⟨_, rfl⟩
              have h73 := bf_6_4 hP64; rw [e72] at h73
              refine wk_putfi81 r156_138 fd_7_3 (wk_nw g_7_3 rfl hP64 hF66 (uf_7_3 ⟨by omega, by omega⟩) ?_)
              intro M74 hP75 hF76 e77
              refine wk_al0 r156_141 (wk_getfr r156_142 fd_6_1 (br_6_1 hP75) (wk_getfi r156_145 fd_7_3 (mUp_at e77) (wk_c1 r156_148 ?_)))
              refine wk_iceq r156_149 ⟨by omega, by omega⟩ (by decide) ?_ ?_
              · intro h78
                refine wk_c1 r156_156 ?_
                subst hQ; exact wk_zret r156_157 (by decide) (⟨rfl, _, rfl, hP75, hF76, by omega, by omega, by have := (mUp_no e77 e72 (Or.inl (by decide))); omega, fun k a b => by rw [(fun k => mUp_no e77 ((fun k => (hQ65.at (ga_8 k) rfl).trans ((fun k => (hQ45.at (ga_8 k) rfl).trans ((fun k => (hQ37.at (ga_8 k) rfl).trans ((fun k => (hQ29.at (ga_8 k) rfl).trans ((fun k => (hQ21.at (ga_8 k) rfl).trans ((fun k => (hQ13.at (ga_8 k) rfl).trans ((fun k => (hQ5.at (ga_8 k) rfl).trans (hu2 k)) k)) k)) k)) k)) k)) k)) k) (Or.inl (by decide))) k]; exact dm0 k a b⟩)
              · intro h79
                refine wk_c1 r156_152 (wk_goto r156_153 ?_)
                subst hQ; exact wk_zret r156_157 (by decide) (⟨rfl, _, rfl, hP75, hF76, by omega, by omega, by have := (mUp_no e77 e72 (Or.inl (by decide))); omega, fun k a b => by rw [(fun k => mUp_no e77 ((fun k => (hQ65.at (ga_8 k) rfl).trans ((fun k => (hQ45.at (ga_8 k) rfl).trans ((fun k => (hQ37.at (ga_8 k) rfl).trans ((fun k => (hQ29.at (ga_8 k) rfl).trans ((fun k => (hQ21.at (ga_8 k) rfl).trans ((fun k => (hQ13.at (ga_8 k) rfl).trans ((fun k => (hQ5.at (ga_8 k) rfl).trans (hu2 k)) k)) k)) k)) k)) k)) k)) k) (Or.inl (by decide))) k]; exact dm0 k a b⟩)
          · intro h80
            refine wk_al0 r156_88 (wk_getfr r156_89 fd_6_1 (br_6_1 hP36) (wk_al0 r156_92 (wk_c1 r156_93 (wk_c1 r156_94 (wk_cv3 r156_95 kc_6_167 rfl (m167_6v5 _ M35 1 4 hP36 (by decide) (by decide) (by decide) (by decide)) (cqI ?_))))))
            rintro v86 M81 ⟨hP82, hQ83, h87, h88, h85⟩
            have hF84 : Fr fm_m156_6 M0 M81 := hF38.tr hQ83 rfl
            obtain ⟨v89, e90⟩ : ∃ v, M81 6 4 = v := ⟨_, rfl⟩
            have h91 := bf_6_4 hP82; rw [e90] at h91
            refine wk_putfi81 r156_98 fd_7_2 (wk_nw g_7_2 rfl hP82 hF84 (uf_7_2 ⟨by omega, by omega⟩) ?_)
            intro M92 hP93 hF94 e95
            refine wk_al0 r156_101 (wk_getfr r156_102 fd_6_1 (br_6_1 hP93) (wk_getfi r156_105 fd_7_2 (mUp_at e95) (wk_c1 r156_108 ?_)))
            refine wk_iceq r156_109 ⟨by omega, by omega⟩ (by decide) ?_ ?_
            · intro h96
              refine wk_c1 r156_116 ?_
              subst hQ; exact wk_zret r156_117 (by decide) (⟨rfl, _, rfl, hP93, hF94, by omega, by omega, by have := (mUp_no e95 e90 (Or.inl (by decide))); omega, fun k a b => by rw [(fun k => mUp_no e95 ((fun k => (hQ83.at (ga_8 k) rfl).trans ((fun k => (hQ37.at (ga_8 k) rfl).trans ((fun k => (hQ29.at (ga_8 k) rfl).trans ((fun k => (hQ21.at (ga_8 k) rfl).trans ((fun k => (hQ13.at (ga_8 k) rfl).trans ((fun k => (hQ5.at (ga_8 k) rfl).trans (hu2 k)) k)) k)) k)) k)) k)) k) (Or.inl (by decide))) k]; exact dm0 k a b⟩)
            · intro h97
              refine wk_c1 r156_112 (wk_goto r156_113 ?_)
              subst hQ; exact wk_zret r156_117 (by decide) (⟨rfl, _, rfl, hP93, hF94, by omega, by omega, by have := (mUp_no e95 e90 (Or.inl (by decide))); omega, fun k a b => by rw [(fun k => mUp_no e95 ((fun k => (hQ83.at (ga_8 k) rfl).trans ((fun k => (hQ37.at (ga_8 k) rfl).trans ((fun k => (hQ29.at (ga_8 k) rfl).trans ((fun k => (hQ21.at (ga_8 k) rfl).trans ((fun k => (hQ13.at (ga_8 k) rfl).trans ((fun k => (hQ5.at (ga_8 k) rfl).trans (hu2 k)) k)) k)) k)) k)) k)) k) (Or.inl (by decide))) k]; exact dm0 k a b⟩)
        · intro h98
          refine wk_al0 r156_69 (wk_getfr r156_70 fd_6_1 (br_6_1 hP28) (wk_c1 r156_73 (wk_putfz81 r156_74 fd_7_6 (by decide) (wk_nw g_7_6 rfl hP28 hF30 (uf_7_6 (by decide)) ?_))))
          intro M99 hP100 hF101 e102
          refine wk_c1 r156_77 ?_
          subst hQ; exact wk_zret r156_78 (by decide) (⟨rfl, _, rfl, hP100, hF101, by omega, by omega, by have := (bf_6_4 hP100); omega, fun k a b => by rw [(fun k => mUp_no e102 ((fun k => (hQ29.at (ga_8 k) rfl).trans ((fun k => (hQ21.at (ga_8 k) rfl).trans ((fun k => (hQ13.at (ga_8 k) rfl).trans ((fun k => (hQ5.at (ga_8 k) rfl).trans (hu2 k)) k)) k)) k)) k) (Or.inl (by decide))) k]; exact dm0 k a b⟩)
      · intro h103
        refine wk_al0 r156_37 (wk_c1 r156_38 (wk_cv2 r156_39 kc_6_158 rfl (m158_6 _ M19 0 hP20 (by decide) (by decide)) (cqI ?_)))
        rintro v109 M104 ⟨hP105, hQ106, h110, h111, h108⟩
        have hF107 : Fr fm_m156_6 M0 M104 := hF22.tr hQ106 rfl
        obtain ⟨v112, e113⟩ : ∃ v, M104 6 4 = v := ⟨_, rfl⟩
        have h114 := bf_6_4 hP105; rw [e113] at h114
        refine wk_ifeq r156_42 ⟨by omega, by omega⟩ ?_ ?_
        · intro h115
          refine wk_c1 r156_58 ?_
          subst hQ; exact wk_zret r156_59 (by decide) (⟨rfl, _, rfl, hP105, hF107, by omega, by omega, by have := e113; omega, fun k a b => by rw [(fun k => (hQ106.at (ga_8 k) rfl).trans ((fun k => (hQ21.at (ga_8 k) rfl).trans ((fun k => (hQ13.at (ga_8 k) rfl).trans ((fun k => (hQ5.at (ga_8 k) rfl).trans (hu2 k)) k)) k)) k)) k]; exact dm0 k a b⟩)
        · intro h116
          refine wk_al0 r156_45 (wk_c1 r156_46 (wk_c1 r156_47 (wk_cv3 r156_48 kc_6_172 rfl (m172_6 _ M104 2 0 hP105 (by decide) (by decide) (by decide) (by decide) (by first | assumption | omega | (unfold stepok; omega))) (cqI ?_))))
          rintro v121 M117 ⟨hP118, hQ119, h122, h123⟩
          have hF120 : Fr fm_m156_6 M0 M117 := hF107.tr hQ119 rfl
          refine wk_ifeq r156_51 ⟨by omega, by omega⟩ ?_ ?_
          · intro h124
            exfalso
            omega
          · intro h125
            refine wk_c1 r156_54 (wk_goto r156_55 ?_)
            subst hQ; exact wk_zret r156_59 (by decide) (⟨rfl, _, rfl, hP118, hF120, by omega, by omega, by have := ((hQ119.at g_6_4 rfl).trans e113); omega, fun k a b => by rw [(fun k => (hQ119.at (ga_8 k) rfl).trans ((fun k => (hQ106.at (ga_8 k) rfl).trans ((fun k => (hQ21.at (ga_8 k) rfl).trans ((fun k => (hQ13.at (ga_8 k) rfl).trans ((fun k => (hQ5.at (ga_8 k) rfl).trans (hu2 k)) k)) k)) k)) k)) k]; exact dm0 k a b⟩)
    · intro h126
      refine wk_al0 r156_23 (wk_cv1 r156_24 kc_6_162 rfl (m162_6 _ M11 hP12) (cqI ?_))
      rintro v132 M127 ⟨hP128, hQ129, h133, h134, h131⟩
      have hF130 : Fr fm_m156_6 M0 M127 := hF14.tr hQ129 rfl
      obtain ⟨v135, e136⟩ : ∃ v, M127 6 4 = v := ⟨_, rfl⟩
      have h137 := bf_6_4 hP128; rw [e136] at h137
      subst hQ; exact wk_zret r156_27 ⟨by omega, by omega⟩ (⟨rfl, _, rfl, hP128, hF130, by omega, by omega, by have := e136; omega, fun k a b => by rw [(fun k => (hQ129.at (ga_8 k) rfl).trans ((fun k => (hQ13.at (ga_8 k) rfl).trans ((fun k => (hQ5.at (ga_8 k) rfl).trans (hu2 k)) k)) k)) k]; exact dm0 k a b⟩)
  · intro h138
    refine wk_al0 r156_9 (wk_cv1 r156_10 kc_6_164 rfl (m164_6 _ M3 hP4 (fun k a b => by rw [(fun k => (hQ5.at (ga_8 k) rfl).trans (hu2 k)) k]; exact dm0 k a b)) (cqI ?_))
    rintro v145 M139 ⟨hP140, hQ141, h146, h147, h143, xh144⟩
    have hF142 : Fr fm_m156_6 M0 M139 := hF6.tr hQ141 rfl
    obtain ⟨v148, e149⟩ : ∃ v, M139 6 4 = v := ⟨_, rfl⟩
    have h150 := bf_6_4 hP140; rw [e149] at h150
    subst hQ; exact wk_zret r156_13 ⟨by omega, by omega⟩ (⟨rfl, _, rfl, hP140, hF142, by omega, by omega, by have := e149; omega, xh144⟩)
