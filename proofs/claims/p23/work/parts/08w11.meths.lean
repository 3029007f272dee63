/-! ===== written by program (wip/layer2/all.py): contracts of methods ===== -/
def fm_m150_174_f609v2 : Nat := 16333553612205046246241981156724874149888
/-- IslandHall$Crowd.tellsAtMost -/
theorem m150_174_f609v2 {B : eB} (d : Nat) (M0 : Mm) (a1 : Int) (p2 : Int) (hP0 : Pw M0) (ha1 : 609 ≤ a1) (hb1 : a1 ≤ 612) (l2 : 1 ≤ p2) (u2 : p2 ≤ 4) : Ct B (d + 3) 150 [R 174, R a1, I p2] M0 (qI fun z M => Pw M ∧ Fr fm_m150_174_f609v2 M0 M ∧ 0 ≤ z ∧ z ≤ 1) := by
  refine ct_of (d := d + 2) (k := 4) (L := [some (R 174), some (R a1), some (I p2), none, none, none, none]) rfl rfl rfl ?_
  have hF0 := Fr.rf fm_m150_174_f609v2 M0
  generalize hQ : (qI fun z M => Pw M ∧ Fr fm_m150_174_f609v2 M0 M ∧ 0 ≤ z ∧ z ≤ 1) = Q
  refine wk_al1 r150_0 (wk_c1 r150_1 (wk_al0 r150_2 (wk_getfr r150_3 fd_174_5 (br_174_5 hP0) (wk_c1 r150_6 (wk_al0 r150_7 (wk_getfi r150_8 fd_174_1 (br_174_1 hP0) (wk_copy110 r150_11 (arF_609 (by omega) (by omega)) (arF_606 (by omega) (by omega)) ⟨by decide, by decide, by decide, by omega, by omega, by omega⟩ rfl (wk_nc (fun i => t4_606 rfl rfl (by omega) (by omega) i) hP0 hF0 (fun i h0 h1 => by have := b4_609 hP0 (a := a1) (by omega) (by omega) h0 (by omega); exact (u4_606 (by omega) (by omega) ⟨by omega, by omega, by omega⟩)) ?_))))))))
  intro M1 hP2 hF3 e4
  refine wk_c1 r150_14 (wk_is3 r150_15 rfl ?_)
  have c16_514 : ∀ (k514 : Nat) (M453 : Mm) (v450 : Int), (4 - v450).toNat = k514 → Pw M453 → Fr fm_m150_174_f609v2 M0 M453 → 0 ≤ v450 → v450 ≤ 4 → Wp B (d + 2) 150 16 [some (R 174), none, some (I p2), some (I v450), none, none, none] [] M453 Q := by
    refine lp_ind ?_
    intro k514 ih514 M453 v450 hk514 hP454 hF455 h451 h452
    refine wk_il3 r150_16 (wk_il2 r150_17 ?_)
    refine wk_icge r150_18 ⟨by omega, by omega⟩ ⟨by omega, by omega⟩ ?_ ?_
    · intro h456
      refine wk_al0 r150_99 (wk_al0 r150_100 (wk_getfr r150_101 fd_174_5 (br_174_5 hP454) (wk_cv2 r150_104 kc_174_149 rfl (m149_174_606 _ M453 hP454) (cqI ?_))))
      rintro v461 M457 ⟨hP458, hQ459, h462, h463⟩
      obtain rfl := Fr.same hQ459
      refine wk_c1 r150_107 ?_
      refine wk_icne r150_108 ⟨by omega, by omega⟩ (by decide) ?_ ?_
      · intro h464
        refine wk_c1 r150_115 ?_
        subst hQ; exact wk_zret r150_116 (by decide) (⟨rfl, _, rfl, hP454, hF455, by omega, by omega⟩)
      · intro h465
        refine wk_c1 r150_111 (wk_goto r150_112 ?_)
        subst hQ; exact wk_zret r150_116 (by decide) (⟨rfl, _, rfl, hP454, hF455, by omega, by omega⟩)
    · intro h466
      refine wk_al0 r150_21 (wk_al0 r150_22 (wk_getfr r150_23 fd_174_5 (br_174_5 hP454) (wk_cv2 r150_26 kc_174_149 rfl (m149_174_606 _ M453 hP454) (cqI ?_))))
      rintro v471 M467 ⟨hP468, hQ469, h472, h473⟩
      obtain rfl := Fr.same hQ469
      refine wk_is4 r150_29 rfl (wk_il4 r150_31 (wk_c1 r150_33 ?_))
      refine wk_icne r150_34 ⟨by omega, by omega⟩ (by decide) ?_ ?_
      · intro h474
        refine wk_al0 r150_39 (wk_getfr r150_40 fd_174_3 (br_174_3 hP454) (wk_al0 r150_43 (wk_getfr r150_44 fd_174_2 (br_174_2 hP454) (wk_il4 r150_47 (wk_ialdb r150_49 ar_304 ⟨by omega, by omega⟩ (fun q0 q1 => ba_304 hP454 q0 q1) ?_)))))
        intro v475 h477 h478 e476
        refine wk_raldb r150_50 ar_305 ⟨by omega, by omega⟩ (fun q0 q1 => ba_305 hP454 q0 q1) (wk_as5 r150_51 rfl (wk_c1 r150_53 (wk_is6 r150_54 rfl ?_)))
        have c56_512 : ∀ (k512 : Nat) (M482 : Mm) (v479 : Int), (5 - v479).toNat = k512 → Pw M482 → Fr fm_m150_174_f609v2 M0 M482 → 0 ≤ v479 → v479 ≤ 5 → Wp B (d + 2) 150 56 [some (R 174), none, some (I p2), some (I v450), none, some (R (306 + v475)), some (I v479)] [] M482 Q := by
          refine lp_ind ?_
          intro k512 ih512 M482 v479 hk512 hP483 hF484 h480 h481
          refine wk_il6 r150_56 (wk_al0 r150_58 (wk_getfr r150_59 fd_174_0 (br_174_0 hP483) (wk_getfb r150_62 fd_176_10 (bf_176_10 hP483) ?_)))
          intro v485 h487 h488 e486
          refine wk_icge r150_65 ⟨by omega, by omega⟩ ⟨by omega, by omega⟩ ?_ ?_
          · intro h489
            refine wk_inc3 r150_93 rfl (wk_goto r150_96 ?_)
            exact wp_fg (le_s (le_s (le_s (le_s (le_s (le_n (le_n le_0))))))) (ih514 (4 - (v450 + 1)).toNat (by omega) M482 (v450 + 1) rfl hP483 hF484 (by omega) (by omega))
          · intro h490
            refine wk_al0 r150_68 (wk_getfr r150_69 fd_174_5 (br_174_5 hP483) (wk_il6 r150_72 (wk_dup2 r150_74 (wk_laldb r150_75 (arF_606 (by omega) (by omega)) ⟨by omega, by omega⟩ (fun q0 q1 => ⟨(b4_606 hP483 (by omega) (by omega) q0 q1).1, (b4_606 hP483 (by omega) (by omega) q0 q1).2.1⟩) (by decide) ?_))))
            intro n491 h493 h494 e492
            have h495 : v479 = 4 → n491 ≤ 17592186044415 := by have := b4_606 hP483 (a := 606) (i := v479) (by omega) (by omega) (by omega) (by omega); omega
            refine wk_al5 r150_76 (wk_il6 r150_78 (wk_laldb r150_80 (arF_306 (by omega) (by omega)) ⟨by omega, by omega⟩ (fun q0 q1 => baF_306 hP483 (by omega) (by omega) q0 q1) (by decide) ?_))
            intro n496 h498 h499 e497
            refine wk_c7 r150_81 (wk_lxor r150_84 ?_)
            intro n500 h501 h502
            refine wk_land r150_85 ?_
            intro n503 h504 h505 h506 h507
            refine wk_last r150_86 (arF_606 (by omega) (by omega)) ⟨by omega, by omega⟩ (wk_nwt (t4_606 rfl rfl (by omega) (by omega) _) hP483 hF484 (u4_606 (by omega) (by omega) ⟨by omega, by omega, by omega⟩) ?_)
            intro M508 hP509 hF510 e511
            refine wk_inc6 r150_87 rfl (wk_goto r150_90 ?_)
            exact wp_fg (le_s (le_s (le_s (le_s (le_s (le_s (le_s le_0))))))) (ih512 (5 - (v479 + 1)).toNat (by omega) M508 (v479 + 1) rfl hP509 hF510 (by omega) (by omega))
        exact wp_fg (le_s (le_s (le_s (le_s (le_n (le_s (le_s le_0))))))) (c56_512 _ M453 0 rfl hP454 hF455 (by omega) (by omega))
      · intro h513
        refine wk_c1 r150_37 ?_
        subst hQ; exact wk_zret r150_38 (by decide) (⟨rfl, _, rfl, hP454, hF455, by omega, by omega⟩)
  exact wp_fg (le_s (le_n (le_s (le_s (le_s (le_s (le_s le_0))))))) (c16_514 _ M1 0 rfl hP2 hF3 (by omega) (by omega))
def fm_m150_174_f609v3 : Nat := 16333553612205046246241981156724874149888
/-- IslandHall$Crowd.tellsAtMost -/
theorem m150_174_f609v3 {B : eB} (d : Nat) (M0 : Mm) (a1 : Int) (p2 : Int) (hP0 : Pw M0) (ha1 : 609 ≤ a1) (hb1 : a1 ≤ 612) (l2 : 1 ≤ p2) (u2 : p2 ≤ 8) : Ct B (d + 3) 150 [R 174, R a1, I p2] M0 (qI fun z M => Pw M ∧ Fr fm_m150_174_f609v3 M0 M ∧ 0 ≤ z ∧ z ≤ 1) := by
  refine ct_of (d := d + 2) (k := 4) (L := [some (R 174), some (R a1), some (I p2), none, none, none, none]) rfl rfl rfl ?_
  have hF0 := Fr.rf fm_m150_174_f609v3 M0
  generalize hQ : (qI fun z M => Pw M ∧ Fr fm_m150_174_f609v3 M0 M ∧ 0 ≤ z ∧ z ≤ 1) = Q
  refine wk_al1 r150_0 (wk_c1 r150_1 (wk_al0 r150_2 (wk_getfr r150_3 fd_174_5 (br_174_5 hP0) (wk_c1 r150_6 (wk_al0 r150_7 (wk_getfi r150_8 fd_174_1 (br_174_1 hP0) (wk_copy110 r150_11 (arF_609 (by omega) (by omega)) (arF_606 (by omega) (by omega)) ⟨by decide, by decide, by decide, by omega, by omega, by omega⟩ rfl (wk_nc (fun i => t4_606 rfl rfl (by omega) (by omega) i) hP0 hF0 (fun i h0 h1 => by have := b4_609 hP0 (a := a1) (by omega) (by omega) h0 (by omega); exact (u4_606 (by omega) (by omega) ⟨by omega, by omega, by omega⟩)) ?_))))))))
  intro M1 hP2 hF3 e4
  refine wk_c1 r150_14 (wk_is3 r150_15 rfl ?_)
  have c16_706 : ∀ (k706 : Nat) (M645 : Mm) (v642 : Int), (8 - v642).toNat = k706 → Pw M645 → Fr fm_m150_174_f609v3 M0 M645 → 0 ≤ v642 → v642 ≤ 8 → Wp B (d + 2) 150 16 [some (R 174), none, some (I p2), some (I v642), none, none, none] [] M645 Q := by
    refine lp_ind ?_
    intro k706 ih706 M645 v642 hk706 hP646 hF647 h643 h644
    refine wk_il3 r150_16 (wk_il2 r150_17 ?_)
    refine wk_icge r150_18 ⟨by omega, by omega⟩ ⟨by omega, by omega⟩ ?_ ?_
    · intro h648
      refine wk_al0 r150_99 (wk_al0 r150_100 (wk_getfr r150_101 fd_174_5 (br_174_5 hP646) (wk_cv2 r150_104 kc_174_149 rfl (m149_174_606 _ M645 hP646) (cqI ?_))))
      rintro v653 M649 ⟨hP650, hQ651, h654, h655⟩
      obtain rfl := Fr.same hQ651
      refine wk_c1 r150_107 ?_
      refine wk_icne r150_108 ⟨by omega, by omega⟩ (by decide) ?_ ?_
      · intro h656
        refine wk_c1 r150_115 ?_
        subst hQ; exact wk_zret r150_116 (by decide) (⟨rfl, _, rfl, hP646, hF647, by omega, by omega⟩)
      · intro h657
        refine wk_c1 r150_111 (wk_goto r150_112 ?_)
        subst hQ; exact wk_zret r150_116 (by decide) (⟨rfl, _, rfl, hP646, hF647, by omega, by omega⟩)
    · intro h658
      refine wk_al0 r150_21 (wk_al0 r150_22 (wk_getfr r150_23 fd_174_5 (br_174_5 hP646) (wk_cv2 r150_26 kc_174_149 rfl (m149_174_606 _ M645 hP646) (cqI ?_))))
      rintro v663 M659 ⟨hP660, hQ661, h664, h665⟩
      obtain rfl := Fr.same hQ661
      refine wk_is4 r150_29 rfl (wk_il4 r150_31 (wk_c1 r150_33 ?_))
      refine wk_icne r150_34 ⟨by omega, by omega⟩ (by decide) ?_ ?_
      · intro h666
        refine wk_al0 r150_39 (wk_getfr r150_40 fd_174_3 (br_174_3 hP646) (wk_al0 r150_43 (wk_getfr r150_44 fd_174_2 (br_174_2 hP646) (wk_il4 r150_47 (wk_ialdb r150_49 ar_304 ⟨by omega, by omega⟩ (fun q0 q1 => ba_304 hP646 q0 q1) ?_)))))
        intro v667 h669 h670 e668
        refine wk_raldb r150_50 ar_305 ⟨by omega, by omega⟩ (fun q0 q1 => ba_305 hP646 q0 q1) (wk_as5 r150_51 rfl (wk_c1 r150_53 (wk_is6 r150_54 rfl ?_)))
        have c56_704 : ∀ (k704 : Nat) (M674 : Mm) (v671 : Int), (5 - v671).toNat = k704 → Pw M674 → Fr fm_m150_174_f609v3 M0 M674 → 0 ≤ v671 → v671 ≤ 5 → Wp B (d + 2) 150 56 [some (R 174), none, some (I p2), some (I v642), none, some (R (306 + v667)), some (I v671)] [] M674 Q := by
          refine lp_ind ?_
          intro k704 ih704 M674 v671 hk704 hP675 hF676 h672 h673
          refine wk_il6 r150_56 (wk_al0 r150_58 (wk_getfr r150_59 fd_174_0 (br_174_0 hP675) (wk_getfb r150_62 fd_176_10 (bf_176_10 hP675) ?_)))
          intro v677 h679 h680 e678
          refine wk_icge r150_65 ⟨by omega, by omega⟩ ⟨by omega, by omega⟩ ?_ ?_
          · intro h681
            refine wk_inc3 r150_93 rfl (wk_goto r150_96 ?_)
            exact wp_fg (le_s (le_s (le_s (le_s (le_s (le_n (le_n le_0))))))) (ih706 (8 - (v642 + 1)).toNat (by omega) M674 (v642 + 1) rfl hP675 hF676 (by omega) (by omega))
          · intro h682
            refine wk_al0 r150_68 (wk_getfr r150_69 fd_174_5 (br_174_5 hP675) (wk_il6 r150_72 (wk_dup2 r150_74 (wk_laldb r150_75 (arF_606 (by omega) (by omega)) ⟨by omega, by omega⟩ (fun q0 q1 => ⟨(b4_606 hP675 (by omega) (by omega) q0 q1).1, (b4_606 hP675 (by omega) (by omega) q0 q1).2.1⟩) (by decide) ?_))))
            intro n683 h685 h686 e684
            have h687 : v671 = 4 → n683 ≤ 17592186044415 := by have := b4_606 hP675 (a := 606) (i := v671) (by omega) (by omega) (by omega) (by omega); omega
            refine wk_al5 r150_76 (wk_il6 r150_78 (wk_laldb r150_80 (arF_306 (by omega) (by omega)) ⟨by omega, by omega⟩ (fun q0 q1 => baF_306 hP675 (by omega) (by omega) q0 q1) (by decide) ?_))
            intro n688 h690 h691 e689
            refine wk_c7 r150_81 (wk_lxor r150_84 ?_)
            intro n692 h693 h694
            refine wk_land r150_85 ?_
            intro n695 h696 h697 h698 h699
            refine wk_last r150_86 (arF_606 (by omega) (by omega)) ⟨by omega, by omega⟩ (wk_nwt (t4_606 rfl rfl (by omega) (by omega) _) hP675 hF676 (u4_606 (by omega) (by omega) ⟨by omega, by omega, by omega⟩) ?_)
            intro M700 hP701 hF702 e703
            refine wk_inc6 r150_87 rfl (wk_goto r150_90 ?_)
            exact wp_fg (le_s (le_s (le_s (le_s (le_s (le_s (le_s le_0))))))) (ih704 (5 - (v671 + 1)).toNat (by omega) M700 (v671 + 1) rfl hP701 hF702 (by omega) (by omega))
        exact wp_fg (le_s (le_s (le_s (le_s (le_n (le_s (le_s le_0))))))) (c56_704 _ M645 0 rfl hP646 hF647 (by omega) (by omega))
      · intro h705
        refine wk_c1 r150_37 ?_
        subst hQ; exact wk_zret r150_38 (by decide) (⟨rfl, _, rfl, hP646, hF647, by omega, by omega⟩)
  exact wp_fg (le_s (le_n (le_s (le_s (le_s (le_s (le_s le_0))))))) (c16_706 _ M1 0 rfl hP2 hF3 (by omega) (by omega))
def fm_m2_607v8 : Nat := 0
/-- IslandHall$Asker.opener -/
theorem m2_607v8 {B : eB} (d : Nat) (M0 : Mm) (p1 : Int) (p2 : Int) (hP0 : Pw M0) (l1 : 3 ≤ p1) (u1 : p1 ≤ 3) (l2 : 0 ≤ p2) (u2 : p2 ≤ 0) : Ct B (d + 1) 2 [R 607, I p1, I p2] M0 (qI fun z M => Pw M ∧ Fr fm_m2_607v8 M0 M ∧ (-1) ≤ z ∧ z ≤ (-1)) := by
  refine ct_of (d := d + 0) (k := 1) (L := [some (R 607), some (I p1), some (I p2), none]) rfl rfl rfl ?_
  have hF0 := Fr.rf fm_m2_607v8 M0
  generalize hQ : (qI fun z M => Pw M ∧ Fr fm_m2_607v8 M0 M ∧ (-1) ≤ z ∧ z ≤ (-1)) = Q
  refine wk_il2 r2_0 ?_
  refine wk_ifle r2_1 ⟨by omega, by omega⟩ ?_ ?_
  · intro h1
    refine wk_c1 r2_28 ?_
    subst hQ; exact wk_iret r2_29 (⟨rfl, _, rfl, hP0, hF0, by omega, by omega⟩)
  · intro h2
    exfalso
    omega
def fm_m3_607v25 : Nat := 16741913844773229565887860231287872390430720
/-- IslandHall$Asker.opens -/
theorem m3_607v25 {B : eB} (d : Nat) (M0 : Mm) (p1 : Int) (p2 : Int) (p3 : Int) (hP0 : Pw M0) (l1 : 0 ≤ p1) (u1 : p1 ≤ 9) (l2 : 2 ≤ p2) (u2 : p2 ≤ 2) (l3 : 1 ≤ p3) (u3 : p3 ≤ 1) : Ct B (d + 5) 3 [R 607, I p1, I p2, I p3] M0 (qI fun z M => Pw M ∧ Fr fm_m3_607v25 M0 M ∧ 0 ≤ z ∧ z ≤ 1) := by
  refine ct_of (d := d + 4) (k := 5) (L := [some (R 607), some (I p1), some (I p2), some (I p3), none, none, none, none, none]) rfl rfl rfl ?_
  have hF0 := Fr.rf fm_m3_607v25 M0
  generalize hQ : (qI fun z M => Pw M ∧ Fr fm_m3_607v25 M0 M ∧ 0 ≤ z ∧ z ≤ 1) = Q
  refine wk_al0 r3_0 (wk_getfr r3_1 fd_607_0 (br_607_0 hP0) (wk_getfr r3_4 fd_174_0 (br_174_0 hP0) (wk_as4 r3_7 rfl (wk_al0 r3_9 (wk_getfr r3_10 fd_607_2 (br_607_2 hP0) (wk_il1 r3_13 (wk_ialdb r3_14 ar_169 ⟨by omega, by omega⟩ (fun q0 q1 => ba_169 hP0 q0 q1) ?_)))))))
  intro v1 h3 h4 e2
  refine wk_c2 r3_15 (wk_idiv r3_17 ⟨by omega, by omega⟩ (by decide) (wk_is5 r3_18 rfl (wk_al4 r3_20 (wk_getfr r3_22 fd_176_0 (br_176_0 hP0) (wk_c2 r3_25 (wk_al0 r3_27 (wk_getfb r3_28 fd_607_5 (bf_607_5 hP0) ?_)))))))
  intro v6 h8 h9 e7
  refine wk_iadd r3_31 (wk_il2 r3_32 (wk_iadd r3_33 (wk_raldb r3_34 ar_182 ⟨by omega, by omega⟩ (fun q0 q1 => ba_182 hP0 q0 q1) (wk_as6 r3_35 rfl (wk_al4 r3_37 (wk_al0 r3_39 (wk_getfr r3_40 fd_607_1 (br_607_1 hP0) (wk_al0 r3_43 (wk_getfr r3_44 fd_607_2 (br_607_2 hP0) (wk_il1 r3_47 (wk_iald r3_48 ar_169 ⟨by omega, by omega⟩ e2 (wk_c2 r3_49 (wk_irem r3_51 ⟨by omega, by omega⟩ (by decide) (wk_caldb r3_52 ar_168 ⟨by omega, by omega⟩ (fun q0 q1 => ba_168 hP0 q0 q1) ?_))))))))))))))
  intro v10 e11
  have hC12 : isC v10 := Or.inr (by omega)
  refine wk_al6 r3_53 (wk_cv3 r3_55 kc_176_196 rfl (m196_176_f183 _ M0 v10 (183 + ((102 + v6) + p2)) hP0 hC12 (by omega) (by omega)) (cqV ?_))
  rintro M13 ⟨hP14, hQ15⟩
  have hF16 : Fr fm_m3_607v25 M0 M13 := hF0.tr hQ15 rfl
  refine wk_c1 r3_58 (wk_is7 r3_59 rfl (wk_c1 r3_61 (wk_is8 r3_62 rfl ?_)))
  have c64_207 : ∀ (k207 : Nat) (M160 : Mm) (v154 : Int) (v157 : Int), (2 - v157).toNat = k207 → Pw M160 → Fr fm_m3_607v25 M0 M160 → M160 607 5 = v6 → 0 ≤ v154 → v154 ≤ 1 → 0 ≤ v157 → v157 ≤ 2 → 0 ≤ (-1) * v154 + v157 + 1 → Wp B (d + 4) 3 64 [some (R 607), none, some (I p2), some (I p3), some (R 176), some (I (v1 / 30)), some (R (183 + ((102 + v6) + p2))), some (I v154), some (I v157)] [] M160 Q := by
    refine lp_ind ?_
    intro k207 ih207 M160 v154 v157 hk207 hP161 hF162 e163 h155 h156 h158 h159 h164
    refine wk_il8 r3_64 (wk_c1 r3_66 ?_)
    refine wk_icge r3_67 ⟨by omega, by omega⟩ (by decide) ?_ ?_
    · intro h165
      refine wk_al6 r3_162 (wk_c6 r3_164 (wk_cs102_2 r3_165 rfl (ct_fl (arF_183 (by omega) (by omega))) (cqV ?_)))
      intro M166 e167
      have hP168 : Pw M166 := by rw [e167]; exact hP161.fil (fun i => (uaF_183 (by omega) (by omega) ⟨by omega, by omega⟩))
      have hF169 : Fr fm_m3_607v25 M0 M166 := by rw [e167]; exact hF162.fil (fun i => by rw [(gr_183 (by omega) (by omega) i)]; rfl)
      refine wk_il7 r3_168 ?_
      subst hQ; exact wk_zret r3_170 ⟨by omega, by omega⟩ (⟨rfl, _, rfl, hP168, hF169, by omega, by omega⟩)
    · intro h170
      refine wk_il7 r3_70 ?_
      refine wk_ifeq r3_72 ⟨by omega, by omega⟩ ?_ ?_
      · intro h171
        refine wk_al6 r3_162 (wk_c6 r3_164 (wk_cs102_2 r3_165 rfl (ct_fl (arF_183 (by omega) (by omega))) (cqV ?_)))
        intro M172 e173
        have hP174 : Pw M172 := by rw [e173]; exact hP161.fil (fun i => (uaF_183 (by omega) (by omega) ⟨by omega, by omega⟩))
        have hF175 : Fr fm_m3_607v25 M0 M172 := by rw [e173]; exact hF162.fil (fun i => by rw [(gr_183 (by omega) (by omega) i)]; rfl)
        refine wk_il7 r3_168 ?_
        subst hQ; exact wk_zret r3_170 ⟨by omega, by omega⟩ (⟨rfl, _, rfl, hP174, hF175, by omega, by omega⟩)
      · intro h176
        refine wk_al0 r3_75 (wk_getfr r3_76 fd_607_0 (br_607_0 hP161) (wk_al0 r3_79 (wk_getfr r3_80 fd_607_3 (br_607_3 hP161) (wk_il2 r3_83 (wk_raldb r3_84 ar_608 ⟨by omega, by omega⟩ (fun q0 q1 => ba_608 hP161 q0 q1) (wk_il5 r3_85 (wk_il8 r3_87 (wk_al6 r3_89 (wk_al0 r3_91 (wk_getfr r3_92 fd_607_3 (br_607_3 hP161) (wk_il2 r3_95 (wk_c1 r3_96 (wk_iadd r3_97 (wk_raldb r3_98 ar_608 ⟨by omega, by omega⟩ (fun q0 q1 => ba_608 hP161 q0 q1) (wk_cv6 r3_99 kc_174_148 rfl (m148_174_f609_f183_f609v1 _ M160 (609 + p2) (v1 / 30) v157 (183 + ((102 + v6) + p2)) (609 + (p2 + 1)) hP161 (by omega) (by omega) (by omega) (by omega) (by omega) (by omega) (by omega) (by omega) (by omega) (by omega)) (cqV ?_))))))))))))))))
        rintro M177 ⟨hP178, hQ179⟩
        have hF180 : Fr fm_m3_607v25 M0 M177 := hF162.tr hQ179 rfl
        refine wk_al0 r3_102 (wk_getfr r3_103 fd_607_0 (br_607_0 hP178) (wk_al0 r3_106 (wk_getfr r3_107 fd_607_3 (br_607_3 hP178) (wk_il2 r3_110 (wk_c1 r3_111 (wk_iadd r3_112 (wk_raldb r3_113 ar_608 ⟨by omega, by omega⟩ (fun q0 q1 => ba_608 hP178 q0 q1) (wk_c1 r3_114 (wk_cv3 r3_115 kc_174_150 rfl (m150_174_f609 _ M177 (609 + (p2 + 1)) 1 hP178 (by omega) (by omega) (by decide) (by decide)) (cqI ?_))))))))))
        rintro v185 M181 ⟨hP182, hQ183, h186, h187⟩
        have hF184 : Fr fm_m3_607v25 M0 M181 := hF180.tr hQ183 rfl
        refine wk_ifne r3_118 ⟨by omega, by omega⟩ ?_ ?_
        · intro h188
          refine wk_inc8 r3_156 rfl (wk_goto r3_159 ?_)
          exact wp_fg (le_s (le_s (le_s (le_s (le_s (le_s (le_s (le_s (le_s le_0))))))))) (ih207 (2 - (v157 + 1)).toNat (by omega) M181 v154 (v157 + 1) rfl hP182 hF184 ((hQ183.at g_607_5 rfl).trans ((hQ179.at g_607_5 rfl).trans e163)) (by omega) (by omega) (by omega) (by omega) (by omega))
        · intro h189
          refine wk_al4 r3_121 (wk_il5 r3_123 (wk_cv2 r3_125 kc_176_200 rfl (m200_176 _ M181 (v1 / 30) hP182 (by omega) (by omega)) (cqV ?_)))
          rintro M190 ⟨hP191, hQ192⟩
          have hF193 : Fr fm_m3_607v25 M0 M190 := hF184.tr hQ192 rfl
          refine wk_al0 r3_128 (wk_il2 r3_129 (wk_c1 r3_130 (wk_iadd r3_131 (wk_il3 r3_132 (wk_c1 r3_133 (wk_isub r3_134 (wk_cv3 r3_135 kc_607_2 rfl (m2_607v8 _ M190 (p2 + 1) (p3 - 1) hP191 (by omega) (by omega) (by omega) (by omega)) (cqI ?_))))))))
          rintro v198 M194 ⟨hP195, hQ196, h199, h200⟩
          obtain rfl := Fr.same hQ196
          refine wk_c1 r3_138 ?_
          refine wk_iceq r3_139 ⟨by omega, by omega⟩ (by decide) ?_ ?_
          · intro h201
            refine wk_c1 r3_146 (wk_is7 r3_147 rfl (wk_al4 r3_149 (wk_il5 r3_151 (wk_cv2 r3_153 kc_176_200 rfl (m200_176 _ M190 (v1 / 30) hP191 (by omega) (by omega)) (cqV ?_)))))
            rintro M202 ⟨hP203, hQ204⟩
            have hF205 : Fr fm_m3_607v25 M0 M202 := hF193.tr hQ204 rfl
            refine wk_inc8 r3_156 rfl (wk_goto r3_159 ?_)
            exact wp_fg (le_s (le_s (le_s (le_s (le_s (le_s (le_s (le_s (le_s le_0))))))))) (ih207 (2 - (v157 + 1)).toNat (by omega) M202 0 (v157 + 1) rfl hP203 hF205 ((hQ204.at g_607_5 rfl).trans ((hQ192.at g_607_5 rfl).trans ((hQ183.at g_607_5 rfl).trans ((hQ179.at g_607_5 rfl).trans e163)))) (by omega) (by omega) (by omega) (by omega) (by omega))
          · intro h206
            exfalso
            omega
  exact wp_fg (le_s (le_n (le_s (le_s (le_s (le_s (le_s (le_s (le_s le_0))))))))) (c64_207 _ M13 1 0 rfl hP14 hF16 ((hQ15.at g_607_5 rfl).trans e7) (by omega) (by omega) (by omega) (by omega) (by omega))
def fm_m2_607v7 : Nat := 16741913844773229565887860231287872390430720
/-- IslandHall$Asker.opener -/
theorem m2_607v7 {B : eB} (d : Nat) (M0 : Mm) (p1 : Int) (p2 : Int) (hP0 : Pw M0) (l1 : 2 ≤ p1) (u1 : p1 ≤ 2) (l2 : 0 ≤ p2) (u2 : p2 ≤ 1) : Ct B (d + 6) 2 [R 607, I p1, I p2] M0 (qI fun z M => Pw M ∧ Fr fm_m2_607v7 M0 M ∧ (-1) ≤ z ∧ z ≤ 9) := by
  refine ct_of (d := d + 5) (k := 1) (L := [some (R 607), some (I p1), some (I p2), none]) rfl rfl rfl ?_
  have hF0 := Fr.rf fm_m2_607v7 M0
  generalize hQ : (qI fun z M => Pw M ∧ Fr fm_m2_607v7 M0 M ∧ (-1) ≤ z ∧ z ≤ 9) = Q
  refine wk_il2 r2_0 ?_
  refine wk_ifle r2_1 ⟨by omega, by omega⟩ ?_ ?_
  · intro h1
    refine wk_c1 r2_28 ?_
    subst hQ; exact wk_iret r2_29 (⟨rfl, _, rfl, hP0, hF0, by omega, by omega⟩)
  · intro h2
    refine wk_il1 r2_4 (wk_c1 r2_5 ?_)
    refine wk_icge r2_6 ⟨by omega, by omega⟩ (by decide) ?_ ?_
    · intro h3
      exfalso
      omega
    · intro h4
      refine wk_al0 r2_9 (wk_getfr r2_10 fd_607_0 (br_607_0 hP0) (wk_al0 r2_13 (wk_getfr r2_14 fd_607_3 (br_607_3 hP0) (wk_il1 r2_17 (wk_raldb r2_18 ar_608 ⟨by omega, by omega⟩ (fun q0 q1 => ba_608 hP0 q0 q1) (wk_c1 r2_19 (wk_il2 r2_20 (wk_shl1 1 2 r2_21 ⟨by omega, by omega⟩ ⟨pwl_1, by decide⟩ ?_))))))))
      intro v5 h6 h7 h8
      refine wk_cv3 r2_22 kc_174_150 rfl (m150_174_f609v1 _ M0 (609 + p1) v5 hP0 (by omega) (by omega) (by omega) (by omega)) (cqI ?_)
      rintro v13 M9 ⟨hP10, hQ11, h14, h15⟩
      have hF12 : Fr fm_m2_607v7 M0 M9 := hF0.tr hQ11 rfl
      refine wk_ifne r2_25 ⟨by omega, by omega⟩ ?_ ?_
      · intro h16
        refine wk_c1 r2_30 (wk_is3 r2_31 rfl ?_)
        have c32_182 : ∀ (k182 : Nat) (M164 : Mm) (v161 : Int), (10 - v161).toNat = k182 → Pw M164 → Fr fm_m2_607v7 M0 M164 → 0 ≤ v161 → v161 ≤ 10 → Wp B (d + 5) 2 32 [some (R 607), some (I p1), some (I p2), some (I v161)] [] M164 Q := by
          refine lp_ind ?_
          intro k182 ih182 M164 v161 hk182 hP165 hF166 h162 h163
          refine wk_il3 r2_32 (wk_al0 r2_33 (wk_getfb r2_34 fd_607_4 (bf_607_4 hP165) ?_))
          intro v167 h169 h170 e168
          refine wk_icge r2_37 ⟨by omega, by omega⟩ ⟨by omega, by omega⟩ ?_ ?_
          · intro h171
            refine wk_c1 r2_58 ?_
            subst hQ; exact wk_iret r2_59 (⟨rfl, _, rfl, hP165, hF166, by omega, by omega⟩)
          · intro h172
            refine wk_al0 r2_40 (wk_il3 r2_41 (wk_il1 r2_42 (wk_il2 r2_43 (wk_cv4 r2_44 kc_607_3 rfl (m3_607v25 _ M164 v161 p1 p2 hP165 (by omega) (by omega) (by omega) (by omega) (by omega) (by omega)) (cqI ?_)))))
            rintro v177 M173 ⟨hP174, hQ175, h178, h179⟩
            have hF176 : Fr fm_m2_607v7 M0 M173 := hF166.tr hQ175 rfl
            refine wk_ifeq r2_47 ⟨by omega, by omega⟩ ?_ ?_
            · intro h180
              refine wk_inc3 r2_52 rfl (wk_goto r2_55 ?_)
              exact wp_fg (le_s (le_s (le_s (le_s le_0)))) (ih182 (10 - (v161 + 1)).toNat (by omega) M173 (v161 + 1) rfl hP174 hF176 (by omega) (by omega))
            · intro h181
              refine wk_il3 r2_50 ?_
              subst hQ; exact wk_iret r2_51 (⟨rfl, _, rfl, hP174, hF176, by omega, by omega⟩)
        exact wp_fg (le_s (le_s (le_s (le_s le_0)))) (c32_182 _ M9 0 rfl hP10 hF12 (by omega) (by omega))
      · intro h183
        refine wk_c1 r2_28 ?_
        subst hQ; exact wk_iret r2_29 (⟨rfl, _, rfl, hP10, hF12, by omega, by omega⟩)
def fm_m3_607v30 : Nat := 16741913844773229565887860231287872390430720
/-- IslandHall$Asker.opens -/
theorem m3_607v30 {B : eB} (d : Nat) (M0 : Mm) (p1 : Int) (p2 : Int) (p3 : Int) (hP0 : Pw M0) (l1 : 0 ≤ p1) (u1 : p1 ≤ 9) (l2 : 1 ≤ p2) (u2 : p2 ≤ 1) (l3 : 1 ≤ p3) (u3 : p3 ≤ 2) : Ct B (d + 7) 3 [R 607, I p1, I p2, I p3] M0 (qI fun z M => Pw M ∧ Fr fm_m3_607v30 M0 M ∧ 0 ≤ z ∧ z ≤ 1) := by
  refine ct_of (d := d + 6) (k := 5) (L := [some (R 607), some (I p1), some (I p2), some (I p3), none, none, none, none, none]) rfl rfl rfl ?_
  have hF0 := Fr.rf fm_m3_607v30 M0
  generalize hQ : (qI fun z M => Pw M ∧ Fr fm_m3_607v30 M0 M ∧ 0 ≤ z ∧ z ≤ 1) = Q
  refine wk_al0 r3_0 (wk_getfr r3_1 fd_607_0 (br_607_0 hP0) (wk_getfr r3_4 fd_174_0 (br_174_0 hP0) (wk_as4 r3_7 rfl (wk_al0 r3_9 (wk_getfr r3_10 fd_607_2 (br_607_2 hP0) (wk_il1 r3_13 (wk_ialdb r3_14 ar_169 ⟨by omega, by omega⟩ (fun q0 q1 => ba_169 hP0 q0 q1) ?_)))))))
  intro v1 h3 h4 e2
  refine wk_c2 r3_15 (wk_idiv r3_17 ⟨by omega, by omega⟩ (by decide) (wk_is5 r3_18 rfl (wk_al4 r3_20 (wk_getfr r3_22 fd_176_0 (br_176_0 hP0) (wk_c2 r3_25 (wk_al0 r3_27 (wk_getfb r3_28 fd_607_5 (bf_607_5 hP0) ?_)))))))
  intro v6 h8 h9 e7
  refine wk_iadd r3_31 (wk_il2 r3_32 (wk_iadd r3_33 (wk_raldb r3_34 ar_182 ⟨by omega, by omega⟩ (fun q0 q1 => ba_182 hP0 q0 q1) (wk_as6 r3_35 rfl (wk_al4 r3_37 (wk_al0 r3_39 (wk_getfr r3_40 fd_607_1 (br_607_1 hP0) (wk_al0 r3_43 (wk_getfr r3_44 fd_607_2 (br_607_2 hP0) (wk_il1 r3_47 (wk_iald r3_48 ar_169 ⟨by omega, by omega⟩ e2 (wk_c2 r3_49 (wk_irem r3_51 ⟨by omega, by omega⟩ (by decide) (wk_caldb r3_52 ar_168 ⟨by omega, by omega⟩ (fun q0 q1 => ba_168 hP0 q0 q1) ?_))))))))))))))
  intro v10 e11
  have hC12 : isC v10 := Or.inr (by omega)
  refine wk_al6 r3_53 (wk_cv3 r3_55 kc_176_196 rfl (m196_176_f183 _ M0 v10 (183 + ((102 + v6) + p2)) hP0 hC12 (by omega) (by omega)) (cqV ?_))
  rintro M13 ⟨hP14, hQ15⟩
  have hF16 : Fr fm_m3_607v30 M0 M13 := hF0.tr hQ15 rfl
  refine wk_c1 r3_58 (wk_is7 r3_59 rfl (wk_c1 r3_61 (wk_is8 r3_62 rfl ?_)))
  have c64_223 : ∀ (k223 : Nat) (M172 : Mm) (v166 : Int) (v169 : Int), (2 - v169).toNat = k223 → Pw M172 → Fr fm_m3_607v30 M0 M172 → M172 607 5 = v6 → 0 ≤ v166 → v166 ≤ 1 → 0 ≤ v169 → v169 ≤ 2 → 0 ≤ (-1) * v166 + v169 + 1 → Wp B (d + 6) 3 64 [some (R 607), none, some (I p2), some (I p3), some (R 176), some (I (v1 / 30)), some (R (183 + ((102 + v6) + p2))), some (I v166), some (I v169)] [] M172 Q := by
    refine lp_ind ?_
    intro k223 ih223 M172 v166 v169 hk223 hP173 hF174 e175 h167 h168 h170 h171 h176
    refine wk_il8 r3_64 (wk_c1 r3_66 ?_)
    refine wk_icge r3_67 ⟨by omega, by omega⟩ (by decide) ?_ ?_
    · intro h177
      refine wk_al6 r3_162 (wk_c6 r3_164 (wk_cs102_2 r3_165 rfl (ct_fl (arF_183 (by omega) (by omega))) (cqV ?_)))
      intro M178 e179
      have hP180 : Pw M178 := by rw [e179]; exact hP173.fil (fun i => (uaF_183 (by omega) (by omega) ⟨by omega, by omega⟩))
      have hF181 : Fr fm_m3_607v30 M0 M178 := by rw [e179]; exact hF174.fil (fun i => by rw [(gr_183 (by omega) (by omega) i)]; rfl)
      refine wk_il7 r3_168 ?_
      subst hQ; exact wk_zret r3_170 ⟨by omega, by omega⟩ (⟨rfl, _, rfl, hP180, hF181, by omega, by omega⟩)
    · intro h182
      refine wk_il7 r3_70 ?_
      refine wk_ifeq r3_72 ⟨by omega, by omega⟩ ?_ ?_
      · intro h183
        refine wk_al6 r3_162 (wk_c6 r3_164 (wk_cs102_2 r3_165 rfl (ct_fl (arF_183 (by omega) (by omega))) (cqV ?_)))
        intro M184 e185
        have hP186 : Pw M184 := by rw [e185]; exact hP173.fil (fun i => (uaF_183 (by omega) (by omega) ⟨by omega, by omega⟩))
        have hF187 : Fr fm_m3_607v30 M0 M184 := by rw [e185]; exact hF174.fil (fun i => by rw [(gr_183 (by omega) (by omega) i)]; rfl)
        refine wk_il7 r3_168 ?_
        subst hQ; exact wk_zret r3_170 ⟨by omega, by omega⟩ (⟨rfl, _, rfl, hP186, hF187, by omega, by omega⟩)
      · intro h188
        refine wk_al0 r3_75 (wk_getfr r3_76 fd_607_0 (br_607_0 hP173) (wk_al0 r3_79 (wk_getfr r3_80 fd_607_3 (br_607_3 hP173) (wk_il2 r3_83 (wk_raldb r3_84 ar_608 ⟨by omega, by omega⟩ (fun q0 q1 => ba_608 hP173 q0 q1) (wk_il5 r3_85 (wk_il8 r3_87 (wk_al6 r3_89 (wk_al0 r3_91 (wk_getfr r3_92 fd_607_3 (br_607_3 hP173) (wk_il2 r3_95 (wk_c1 r3_96 (wk_iadd r3_97 (wk_raldb r3_98 ar_608 ⟨by omega, by omega⟩ (fun q0 q1 => ba_608 hP173 q0 q1) (wk_cv6 r3_99 kc_174_148 rfl (m148_174_f609_f183_f609v1 _ M172 (609 + p2) (v1 / 30) v169 (183 + ((102 + v6) + p2)) (609 + (p2 + 1)) hP173 (by omega) (by omega) (by omega) (by omega) (by omega) (by omega) (by omega) (by omega) (by omega) (by omega)) (cqV ?_))))))))))))))))
        rintro M189 ⟨hP190, hQ191⟩
        have hF192 : Fr fm_m3_607v30 M0 M189 := hF174.tr hQ191 rfl
        refine wk_al0 r3_102 (wk_getfr r3_103 fd_607_0 (br_607_0 hP190) (wk_al0 r3_106 (wk_getfr r3_107 fd_607_3 (br_607_3 hP190) (wk_il2 r3_110 (wk_c1 r3_111 (wk_iadd r3_112 (wk_raldb r3_113 ar_608 ⟨by omega, by omega⟩ (fun q0 q1 => ba_608 hP190 q0 q1) (wk_c1 r3_114 (wk_cv3 r3_115 kc_174_150 rfl (m150_174_f609 _ M189 (609 + (p2 + 1)) 1 hP190 (by omega) (by omega) (by decide) (by decide)) (cqI ?_))))))))))
        rintro v197 M193 ⟨hP194, hQ195, h198, h199⟩
        have hF196 : Fr fm_m3_607v30 M0 M193 := hF192.tr hQ195 rfl
        refine wk_ifne r3_118 ⟨by omega, by omega⟩ ?_ ?_
        · intro h200
          refine wk_inc8 r3_156 rfl (wk_goto r3_159 ?_)
          exact wp_fg (le_s (le_s (le_s (le_s (le_s (le_s (le_s (le_s (le_s le_0))))))))) (ih223 (2 - (v169 + 1)).toNat (by omega) M193 v166 (v169 + 1) rfl hP194 hF196 ((hQ195.at g_607_5 rfl).trans ((hQ191.at g_607_5 rfl).trans e175)) (by omega) (by omega) (by omega) (by omega) (by omega))
        · intro h201
          refine wk_al4 r3_121 (wk_il5 r3_123 (wk_cv2 r3_125 kc_176_200 rfl (m200_176 _ M193 (v1 / 30) hP194 (by omega) (by omega)) (cqV ?_)))
          rintro M202 ⟨hP203, hQ204⟩
          have hF205 : Fr fm_m3_607v30 M0 M202 := hF196.tr hQ204 rfl
          refine wk_al0 r3_128 (wk_il2 r3_129 (wk_c1 r3_130 (wk_iadd r3_131 (wk_il3 r3_132 (wk_c1 r3_133 (wk_isub r3_134 (wk_cv3 r3_135 kc_607_2 rfl (m2_607v7 _ M202 (p2 + 1) (p3 - 1) hP203 (by omega) (by omega) (by omega) (by omega)) (cqI ?_))))))))
          rintro v210 M206 ⟨hP207, hQ208, h211, h212⟩
          have hF209 : Fr fm_m3_607v30 M0 M206 := hF205.tr hQ208 rfl
          refine wk_c1 r3_138 ?_
          refine wk_iceq r3_139 ⟨by omega, by omega⟩ (by decide) ?_ ?_
          · intro h213
            refine wk_c1 r3_146 (wk_is7 r3_147 rfl (wk_al4 r3_149 (wk_il5 r3_151 (wk_cv2 r3_153 kc_176_200 rfl (m200_176 _ M206 (v1 / 30) hP207 (by omega) (by omega)) (cqV ?_)))))
            rintro M214 ⟨hP215, hQ216⟩
            have hF217 : Fr fm_m3_607v30 M0 M214 := hF209.tr hQ216 rfl
            refine wk_inc8 r3_156 rfl (wk_goto r3_159 ?_)
            exact wp_fg (le_s (le_s (le_s (le_s (le_s (le_s (le_s (le_s (le_s le_0))))))))) (ih223 (2 - (v169 + 1)).toNat (by omega) M214 0 (v169 + 1) rfl hP215 hF217 ((hQ216.at g_607_5 rfl).trans ((hQ208.at g_607_5 rfl).trans ((hQ204.at g_607_5 rfl).trans ((hQ195.at g_607_5 rfl).trans ((hQ191.at g_607_5 rfl).trans e175))))) (by omega) (by omega) (by omega) (by omega) (by omega))
          · intro h218
            refine wk_c1 r3_142 (wk_goto r3_143 (wk_is7 r3_147 rfl (wk_al4 r3_149 (wk_il5 r3_151 (wk_cv2 r3_153 kc_176_200 rfl (m200_176 _ M206 (v1 / 30) hP207 (by omega) (by omega)) (cqV ?_))))))
            rintro M219 ⟨hP220, hQ221⟩
            have hF222 : Fr fm_m3_607v30 M0 M219 := hF209.tr hQ221 rfl
            refine wk_inc8 r3_156 rfl (wk_goto r3_159 ?_)
            exact wp_fg (le_s (le_s (le_s (le_s (le_s (le_s (le_s (le_s (le_s le_0))))))))) (ih223 (2 - (v169 + 1)).toNat (by omega) M219 1 (v169 + 1) rfl hP220 hF222 ((hQ221.at g_607_5 rfl).trans ((hQ208.at g_607_5 rfl).trans ((hQ204.at g_607_5 rfl).trans ((hQ195.at g_607_5 rfl).trans ((hQ191.at g_607_5 rfl).trans e175))))) (by omega) (by omega) (by omega) (by omega) (by omega))
  exact wp_fg (le_s (le_n (le_s (le_s (le_s (le_s (le_s (le_s (le_s le_0))))))))) (c64_223 _ M13 1 0 rfl hP14 hF16 ((hQ15.at g_607_5 rfl).trans e7) (by omega) (by omega) (by omega) (by omega) (by omega))
def fm_m2_607v6 : Nat := 16741913844773229565887860231287872390430720
/-- IslandHall$Asker.opener -/
theorem m2_607v6 {B : eB} (d : Nat) (M0 : Mm) (p1 : Int) (p2 : Int) (hP0 : Pw M0) (l1 : 1 ≤ p1) (u1 : p1 ≤ 1) (l2 : 0 ≤ p2) (u2 : p2 ≤ 2) : Ct B (d + 8) 2 [R 607, I p1, I p2] M0 (qI fun z M => Pw M ∧ Fr fm_m2_607v6 M0 M ∧ (-1) ≤ z ∧ z ≤ 9) := by
  refine ct_of (d := d + 7) (k := 1) (L := [some (R 607), some (I p1), some (I p2), none]) rfl rfl rfl ?_
  have hF0 := Fr.rf fm_m2_607v6 M0
  generalize hQ : (qI fun z M => Pw M ∧ Fr fm_m2_607v6 M0 M ∧ (-1) ≤ z ∧ z ≤ 9) = Q
  refine wk_il2 r2_0 ?_
  refine wk_ifle r2_1 ⟨by omega, by omega⟩ ?_ ?_
  · intro h1
    refine wk_c1 r2_28 ?_
    subst hQ; exact wk_iret r2_29 (⟨rfl, _, rfl, hP0, hF0, by omega, by omega⟩)
  · intro h2
    refine wk_il1 r2_4 (wk_c1 r2_5 ?_)
    refine wk_icge r2_6 ⟨by omega, by omega⟩ (by decide) ?_ ?_
    · intro h3
      exfalso
      omega
    · intro h4
      refine wk_al0 r2_9 (wk_getfr r2_10 fd_607_0 (br_607_0 hP0) (wk_al0 r2_13 (wk_getfr r2_14 fd_607_3 (br_607_3 hP0) (wk_il1 r2_17 (wk_raldb r2_18 ar_608 ⟨by omega, by omega⟩ (fun q0 q1 => ba_608 hP0 q0 q1) (wk_c1 r2_19 (wk_il2 r2_20 (wk_shl1 2 4 r2_21 ⟨by omega, by omega⟩ ⟨pwl_2, by decide⟩ ?_))))))))
      intro v5 h6 h7 h8
      refine wk_cv3 r2_22 kc_174_150 rfl (m150_174_f609v2 _ M0 (609 + p1) v5 hP0 (by omega) (by omega) (by omega) (by omega)) (cqI ?_)
      rintro v13 M9 ⟨hP10, hQ11, h14, h15⟩
      have hF12 : Fr fm_m2_607v6 M0 M9 := hF0.tr hQ11 rfl
      refine wk_ifne r2_25 ⟨by omega, by omega⟩ ?_ ?_
      · intro h16
        refine wk_c1 r2_30 (wk_is3 r2_31 rfl ?_)
        have c32_182 : ∀ (k182 : Nat) (M164 : Mm) (v161 : Int), (10 - v161).toNat = k182 → Pw M164 → Fr fm_m2_607v6 M0 M164 → 0 ≤ v161 → v161 ≤ 10 → Wp B (d + 7) 2 32 [some (R 607), some (I p1), some (I p2), some (I v161)] [] M164 Q := by
          refine lp_ind ?_
          intro k182 ih182 M164 v161 hk182 hP165 hF166 h162 h163
          refine wk_il3 r2_32 (wk_al0 r2_33 (wk_getfb r2_34 fd_607_4 (bf_607_4 hP165) ?_))
          intro v167 h169 h170 e168
          refine wk_icge r2_37 ⟨by omega, by omega⟩ ⟨by omega, by omega⟩ ?_ ?_
          · intro h171
            refine wk_c1 r2_58 ?_
            subst hQ; exact wk_iret r2_59 (⟨rfl, _, rfl, hP165, hF166, by omega, by omega⟩)
          · intro h172
            refine wk_al0 r2_40 (wk_il3 r2_41 (wk_il1 r2_42 (wk_il2 r2_43 (wk_cv4 r2_44 kc_607_3 rfl (m3_607v30 _ M164 v161 p1 p2 hP165 (by omega) (by omega) (by omega) (by omega) (by omega) (by omega)) (cqI ?_)))))
            rintro v177 M173 ⟨hP174, hQ175, h178, h179⟩
            have hF176 : Fr fm_m2_607v6 M0 M173 := hF166.tr hQ175 rfl
            refine wk_ifeq r2_47 ⟨by omega, by omega⟩ ?_ ?_
            · intro h180
              refine wk_inc3 r2_52 rfl (wk_goto r2_55 ?_)
              exact wp_fg (le_s (le_s (le_s (le_s le_0)))) (ih182 (10 - (v161 + 1)).toNat (by omega) M173 (v161 + 1) rfl hP174 hF176 (by omega) (by omega))
            · intro h181
              refine wk_il3 r2_50 ?_
              subst hQ; exact wk_iret r2_51 (⟨rfl, _, rfl, hP174, hF176, by omega, by omega⟩)
        exact wp_fg (le_s (le_s (le_s (le_s le_0)))) (c32_182 _ M9 0 rfl hP10 hF12 (by omega) (by omega))
      · intro h183
        refine wk_c1 r2_28 ?_
        subst hQ; exact wk_iret r2_29 (⟨rfl, _, rfl, hP10, hF12, by omega, by omega⟩)
def fm_m3_607v35 : Nat := 16741913844773229565887860231287872390430720
/-- IslandHall$Asker.opens -/
theorem m3_607v35 {B : eB} (d : Nat) (M0 : Mm) (p1 : Int) (p2 : Int) (p3 : Int) (hP0 : Pw M0) (l1 : 0 ≤ p1) (u1 : p1 ≤ 9) (l2 : 0 ≤ p2) (u2 : p2 ≤ 0) (l3 : 1 ≤ p3) (u3 : p3 ≤ 3) : Ct B (d + 9) 3 [R 607, I p1, I p2, I p3] M0 (qI fun z M => Pw M ∧ Fr fm_m3_607v35 M0 M ∧ 0 ≤ z ∧ z ≤ 1) := by
  refine ct_of (d := d + 8) (k := 5) (L := [some (R 607), some (I p1), some (I p2), some (I p3), none, none, none, none, none]) rfl rfl rfl ?_
  have hF0 := Fr.rf fm_m3_607v35 M0
  generalize hQ : (qI fun z M => Pw M ∧ Fr fm_m3_607v35 M0 M ∧ 0 ≤ z ∧ z ≤ 1) = Q
  refine wk_al0 r3_0 (wk_getfr r3_1 fd_607_0 (br_607_0 hP0) (wk_getfr r3_4 fd_174_0 (br_174_0 hP0) (wk_as4 r3_7 rfl (wk_al0 r3_9 (wk_getfr r3_10 fd_607_2 (br_607_2 hP0) (wk_il1 r3_13 (wk_ialdb r3_14 ar_169 ⟨by omega, by omega⟩ (fun q0 q1 => ba_169 hP0 q0 q1) ?_)))))))
  intro v1 h3 h4 e2
  refine wk_c2 r3_15 (wk_idiv r3_17 ⟨by omega, by omega⟩ (by decide) (wk_is5 r3_18 rfl (wk_al4 r3_20 (wk_getfr r3_22 fd_176_0 (br_176_0 hP0) (wk_c2 r3_25 (wk_al0 r3_27 (wk_getfb r3_28 fd_607_5 (bf_607_5 hP0) ?_)))))))
  intro v6 h8 h9 e7
  refine wk_iadd r3_31 (wk_il2 r3_32 (wk_iadd r3_33 (wk_raldb r3_34 ar_182 ⟨by omega, by omega⟩ (fun q0 q1 => ba_182 hP0 q0 q1) (wk_as6 r3_35 rfl (wk_al4 r3_37 (wk_al0 r3_39 (wk_getfr r3_40 fd_607_1 (br_607_1 hP0) (wk_al0 r3_43 (wk_getfr r3_44 fd_607_2 (br_607_2 hP0) (wk_il1 r3_47 (wk_iald r3_48 ar_169 ⟨by omega, by omega⟩ e2 (wk_c2 r3_49 (wk_irem r3_51 ⟨by omega, by omega⟩ (by decide) (wk_caldb r3_52 ar_168 ⟨by omega, by omega⟩ (fun q0 q1 => ba_168 hP0 q0 q1) ?_))))))))))))))
  intro v10 e11
  have hC12 : isC v10 := Or.inr (by omega)
  refine wk_al6 r3_53 (wk_cv3 r3_55 kc_176_196 rfl (m196_176_f183 _ M0 v10 (183 + ((102 + v6) + p2)) hP0 hC12 (by omega) (by omega)) (cqV ?_))
  rintro M13 ⟨hP14, hQ15⟩
  have hF16 : Fr fm_m3_607v35 M0 M13 := hF0.tr hQ15 rfl
  refine wk_c1 r3_58 (wk_is7 r3_59 rfl (wk_c1 r3_61 (wk_is8 r3_62 rfl ?_)))
  have c64_223 : ∀ (k223 : Nat) (M172 : Mm) (v166 : Int) (v169 : Int), (2 - v169).toNat = k223 → Pw M172 → Fr fm_m3_607v35 M0 M172 → M172 607 5 = v6 → 0 ≤ v166 → v166 ≤ 1 → 0 ≤ v169 → v169 ≤ 2 → 0 ≤ (-1) * v166 + v169 + 1 → Wp B (d + 8) 3 64 [some (R 607), none, some (I p2), some (I p3), some (R 176), some (I (v1 / 30)), some (R (183 + ((102 + v6) + p2))), some (I v166), some (I v169)] [] M172 Q := by
    refine lp_ind ?_
    intro k223 ih223 M172 v166 v169 hk223 hP173 hF174 e175 h167 h168 h170 h171 h176
    refine wk_il8 r3_64 (wk_c1 r3_66 ?_)
    refine wk_icge r3_67 ⟨by omega, by omega⟩ (by decide) ?_ ?_
    · intro h177
      refine wk_al6 r3_162 (wk_c6 r3_164 (wk_cs102_2 r3_165 rfl (ct_fl (arF_183 (by omega) (by omega))) (cqV ?_)))
      intro M178 e179
      have hP180 : Pw M178 := by rw [e179]; exact hP173.fil (fun i => (uaF_183 (by omega) (by omega) ⟨by omega, by omega⟩))
      have hF181 : Fr fm_m3_607v35 M0 M178 := by rw [e179]; exact hF174.fil (fun i => by rw [(gr_183 (by omega) (by omega) i)]; rfl)
      refine wk_il7 r3_168 ?_
      subst hQ; exact wk_zret r3_170 ⟨by omega, by omega⟩ (⟨rfl, _, rfl, hP180, hF181, by omega, by omega⟩)
    · intro h182
      refine wk_il7 r3_70 ?_
      refine wk_ifeq r3_72 ⟨by omega, by omega⟩ ?_ ?_
      · intro h183
        refine wk_al6 r3_162 (wk_c6 r3_164 (wk_cs102_2 r3_165 rfl (ct_fl (arF_183 (by omega) (by omega))) (cqV ?_)))
        intro M184 e185
        have hP186 : Pw M184 := by rw [e185]; exact hP173.fil (fun i => (uaF_183 (by omega) (by omega) ⟨by omega, by omega⟩))
        have hF187 : Fr fm_m3_607v35 M0 M184 := by rw [e185]; exact hF174.fil (fun i => by rw [(gr_183 (by omega) (by omega) i)]; rfl)
        refine wk_il7 r3_168 ?_
        subst hQ; exact wk_zret r3_170 ⟨by omega, by omega⟩ (⟨rfl, _, rfl, hP186, hF187, by omega, by omega⟩)
      · intro h188
        refine wk_al0 r3_75 (wk_getfr r3_76 fd_607_0 (br_607_0 hP173) (wk_al0 r3_79 (wk_getfr r3_80 fd_607_3 (br_607_3 hP173) (wk_il2 r3_83 (wk_raldb r3_84 ar_608 ⟨by omega, by omega⟩ (fun q0 q1 => ba_608 hP173 q0 q1) (wk_il5 r3_85 (wk_il8 r3_87 (wk_al6 r3_89 (wk_al0 r3_91 (wk_getfr r3_92 fd_607_3 (br_607_3 hP173) (wk_il2 r3_95 (wk_c1 r3_96 (wk_iadd r3_97 (wk_raldb r3_98 ar_608 ⟨by omega, by omega⟩ (fun q0 q1 => ba_608 hP173 q0 q1) (wk_cv6 r3_99 kc_174_148 rfl (m148_174_f609_f183_f609v1 _ M172 (609 + p2) (v1 / 30) v169 (183 + ((102 + v6) + p2)) (609 + (p2 + 1)) hP173 (by omega) (by omega) (by omega) (by omega) (by omega) (by omega) (by omega) (by omega) (by omega) (by omega)) (cqV ?_))))))))))))))))
        rintro M189 ⟨hP190, hQ191⟩
        have hF192 : Fr fm_m3_607v35 M0 M189 := hF174.tr hQ191 rfl
        refine wk_al0 r3_102 (wk_getfr r3_103 fd_607_0 (br_607_0 hP190) (wk_al0 r3_106 (wk_getfr r3_107 fd_607_3 (br_607_3 hP190) (wk_il2 r3_110 (wk_c1 r3_111 (wk_iadd r3_112 (wk_raldb r3_113 ar_608 ⟨by omega, by omega⟩ (fun q0 q1 => ba_608 hP190 q0 q1) (wk_c1 r3_114 (wk_cv3 r3_115 kc_174_150 rfl (m150_174_f609 _ M189 (609 + (p2 + 1)) 1 hP190 (by omega) (by omega) (by decide) (by decide)) (cqI ?_))))))))))
        rintro v197 M193 ⟨hP194, hQ195, h198, h199⟩
        have hF196 : Fr fm_m3_607v35 M0 M193 := hF192.tr hQ195 rfl
        refine wk_ifne r3_118 ⟨by omega, by omega⟩ ?_ ?_
        · intro h200
          refine wk_inc8 r3_156 rfl (wk_goto r3_159 ?_)
          exact wp_fg (le_s (le_s (le_s (le_s (le_s (le_s (le_s (le_s (le_s le_0))))))))) (ih223 (2 - (v169 + 1)).toNat (by omega) M193 v166 (v169 + 1) rfl hP194 hF196 ((hQ195.at g_607_5 rfl).trans ((hQ191.at g_607_5 rfl).trans e175)) (by omega) (by omega) (by omega) (by omega) (by omega))
        · intro h201
          refine wk_al4 r3_121 (wk_il5 r3_123 (wk_cv2 r3_125 kc_176_200 rfl (m200_176 _ M193 (v1 / 30) hP194 (by omega) (by omega)) (cqV ?_)))
          rintro M202 ⟨hP203, hQ204⟩
          have hF205 : Fr fm_m3_607v35 M0 M202 := hF196.tr hQ204 rfl
          refine wk_al0 r3_128 (wk_il2 r3_129 (wk_c1 r3_130 (wk_iadd r3_131 (wk_il3 r3_132 (wk_c1 r3_133 (wk_isub r3_134 (wk_cv3 r3_135 kc_607_2 rfl (m2_607v6 _ M202 (p2 + 1) (p3 - 1) hP203 (by omega) (by omega) (by omega) (by omega)) (cqI ?_))))))))
          rintro v210 M206 ⟨hP207, hQ208, h211, h212⟩
          have hF209 : Fr fm_m3_607v35 M0 M206 := hF205.tr hQ208 rfl
          refine wk_c1 r3_138 ?_
          refine wk_iceq r3_139 ⟨by omega, by omega⟩ (by decide) ?_ ?_
          · intro h213
            refine wk_c1 r3_146 (wk_is7 r3_147 rfl (wk_al4 r3_149 (wk_il5 r3_151 (wk_cv2 r3_153 kc_176_200 rfl (m200_176 _ M206 (v1 / 30) hP207 (by omega) (by omega)) (cqV ?_)))))
            rintro M214 ⟨hP215, hQ216⟩
            have hF217 : Fr fm_m3_607v35 M0 M214 := hF209.tr hQ216 rfl
            refine wk_inc8 r3_156 rfl (wk_goto r3_159 ?_)
            exact wp_fg (le_s (le_s (le_s (le_s (le_s (le_s (le_s (le_s (le_s le_0))))))))) (ih223 (2 - (v169 + 1)).toNat (by omega) M214 0 (v169 + 1) rfl hP215 hF217 ((hQ216.at g_607_5 rfl).trans ((hQ208.at g_607_5 rfl).trans ((hQ204.at g_607_5 rfl).trans ((hQ195.at g_607_5 rfl).trans ((hQ191.at g_607_5 rfl).trans e175))))) (by omega) (by omega) (by omega) (by omega) (by omega))
          · intro h218
            refine wk_c1 r3_142 (wk_goto r3_143 (wk_is7 r3_147 rfl (wk_al4 r3_149 (wk_il5 r3_151 (wk_cv2 r3_153 kc_176_200 rfl (m200_176 _ M206 (v1 / 30) hP207 (by omega) (by omega)) (cqV ?_))))))
            rintro M219 ⟨hP220, hQ221⟩
            have hF222 : Fr fm_m3_607v35 M0 M219 := hF209.tr hQ221 rfl
            refine wk_inc8 r3_156 rfl (wk_goto r3_159 ?_)
            exact wp_fg (le_s (le_s (le_s (le_s (le_s (le_s (le_s (le_s (le_s le_0))))))))) (ih223 (2 - (v169 + 1)).toNat (by omega) M219 1 (v169 + 1) rfl hP220 hF222 ((hQ221.at g_607_5 rfl).trans ((hQ208.at g_607_5 rfl).trans ((hQ204.at g_607_5 rfl).trans ((hQ195.at g_607_5 rfl).trans ((hQ191.at g_607_5 rfl).trans e175))))) (by omega) (by omega) (by omega) (by omega) (by omega))
  exact wp_fg (le_s (le_n (le_s (le_s (le_s (le_s (le_s (le_s (le_s le_0))))))))) (c64_223 _ M13 1 0 rfl hP14 hF16 ((hQ15.at g_607_5 rfl).trans e7) (by omega) (by omega) (by omega) (by omega) (by omega))
def fm_m2_607v5 : Nat := 16741913844773229565887860231287872390430720
/-- IslandHall$Asker.opener -/
theorem m2_607v5 {B : eB} (d : Nat) (M0 : Mm) (p1 : Int) (p2 : Int) (hP0 : Pw M0) (l1 : 0 ≤ p1) (u1 : p1 ≤ 0) (l2 : 1 ≤ p2) (u2 : p2 ≤ 3) : Ct B (d + 10) 2 [R 607, I p1, I p2] M0 (qI fun z M => Pw M ∧ Fr fm_m2_607v5 M0 M ∧ (-1) ≤ z ∧ z ≤ 9) := by
  refine ct_of (d := d + 9) (k := 1) (L := [some (R 607), some (I p1), some (I p2), none]) rfl rfl rfl ?_
  have hF0 := Fr.rf fm_m2_607v5 M0
  generalize hQ : (qI fun z M => Pw M ∧ Fr fm_m2_607v5 M0 M ∧ (-1) ≤ z ∧ z ≤ 9) = Q
  refine wk_il2 r2_0 ?_
  refine wk_ifle r2_1 ⟨by omega, by omega⟩ ?_ ?_
  · intro h1
    exfalso
    omega
  · intro h2
    refine wk_il1 r2_4 (wk_c1 r2_5 ?_)
    refine wk_icge r2_6 ⟨by omega, by omega⟩ (by decide) ?_ ?_
    · intro h3
      exfalso
      omega
    · intro h4
      refine wk_al0 r2_9 (wk_getfr r2_10 fd_607_0 (br_607_0 hP0) (wk_al0 r2_13 (wk_getfr r2_14 fd_607_3 (br_607_3 hP0) (wk_il1 r2_17 (wk_raldb r2_18 ar_608 ⟨by omega, by omega⟩ (fun q0 q1 => ba_608 hP0 q0 q1) (wk_c1 r2_19 (wk_il2 r2_20 (wk_shl1 3 8 r2_21 ⟨by omega, by omega⟩ ⟨pwl_3, by decide⟩ ?_))))))))
      intro v5 h6 h7 h8
      refine wk_cv3 r2_22 kc_174_150 rfl (m150_174_f609v3 _ M0 (609 + p1) v5 hP0 (by omega) (by omega) (by omega) (by omega)) (cqI ?_)
      rintro v13 M9 ⟨hP10, hQ11, h14, h15⟩
      have hF12 : Fr fm_m2_607v5 M0 M9 := hF0.tr hQ11 rfl
      refine wk_ifne r2_25 ⟨by omega, by omega⟩ ?_ ?_
      · intro h16
        refine wk_c1 r2_30 (wk_is3 r2_31 rfl ?_)
        have c32_182 : ∀ (k182 : Nat) (M164 : Mm) (v161 : Int), (10 - v161).toNat = k182 → Pw M164 → Fr fm_m2_607v5 M0 M164 → 0 ≤ v161 → v161 ≤ 10 → Wp B (d + 9) 2 32 [some (R 607), some (I p1), some (I p2), some (I v161)] [] M164 Q := by
          refine lp_ind ?_
          intro k182 ih182 M164 v161 hk182 hP165 hF166 h162 h163
          refine wk_il3 r2_32 (wk_al0 r2_33 (wk_getfb r2_34 fd_607_4 (bf_607_4 hP165) ?_))
          intro v167 h169 h170 e168
          refine wk_icge r2_37 ⟨by omega, by omega⟩ ⟨by omega, by omega⟩ ?_ ?_
          · intro h171
            refine wk_c1 r2_58 ?_
            subst hQ; exact wk_iret r2_59 (⟨rfl, _, rfl, hP165, hF166, by omega, by omega⟩)
          · intro h172
            refine wk_al0 r2_40 (wk_il3 r2_41 (wk_il1 r2_42 (wk_il2 r2_43 (wk_cv4 r2_44 kc_607_3 rfl (m3_607v35 _ M164 v161 p1 p2 hP165 (by omega) (by omega) (by omega) (by omega) (by omega) (by omega)) (cqI ?_)))))
            rintro v177 M173 ⟨hP174, hQ175, h178, h179⟩
            have hF176 : Fr fm_m2_607v5 M0 M173 := hF166.tr hQ175 rfl
            refine wk_ifeq r2_47 ⟨by omega, by omega⟩ ?_ ?_
            · intro h180
              refine wk_inc3 r2_52 rfl (wk_goto r2_55 ?_)
              exact wp_fg (le_s (le_s (le_s (le_s le_0)))) (ih182 (10 - (v161 + 1)).toNat (by omega) M173 (v161 + 1) rfl hP174 hF176 (by omega) (by omega))
            · intro h181
              refine wk_il3 r2_50 ?_
              subst hQ; exact wk_iret r2_51 (⟨rfl, _, rfl, hP174, hF176, by omega, by omega⟩)
        exact wp_fg (le_s (le_s (le_s (le_s le_0)))) (c32_182 _ M9 0 rfl hP10 hF12 (by omega) (by omega))
      · intro h183
        refine wk_c1 r2_28 ?_
        subst hQ; exact wk_iret r2_29 (⟨rfl, _, rfl, hP10, hF12, by omega, by omega⟩)
def fm_m4_607 : Nat := 19181057850862516471993329417358786930147328
/-- IslandHall$Asker.search -/
theorem m4_607 {B : eB} (d : Nat) (M0 : Mm) (p1 : Int) (p2 : Int) (hP0 : Pw M0) (l1 : 0 ≤ p1) (u1 : p1 ≤ 10) (l2 : 0 ≤ p2) (u2 : p2 ≤ 12) : Ct B (d + 11) 4 [R 607, I p1, I p2] M0 (qI fun z M => Pw M ∧ Fr fm_m4_607 M0 M ∧ (-1) ≤ z ∧ z ≤ 3) := by
  refine ct_of (d := d + 10) (k := 2) (L := [some (R 607), some (I p1), some (I p2), none, none]) rfl rfl rfl ?_
  have hF0 := Fr.rf fm_m4_607 M0
  generalize hQ : (qI fun z M => Pw M ∧ Fr fm_m4_607 M0 M ∧ (-1) ≤ z ∧ z ≤ 3) = Q
  refine wk_al0 r4_0 (wk_il1 r4_1 (wk_putfi81 r4_2 fd_607_4 (wk_nw g_607_4 rfl hP0 hF0 (uf_607_4 ⟨by omega, by omega⟩) ?_)))
  intro M1 hP2 hF3 e4
  refine wk_al0 r4_5 (wk_il2 r4_6 (wk_putfi81 r4_7 fd_607_5 (wk_nw g_607_5 rfl hP2 hF3 (uf_607_5 ⟨by omega, by omega⟩) ?_)))
  intro M5 hP6 hF7 e8
  refine wk_al0 r4_10 (wk_getfr r4_11 fd_607_0 (br_607_0 hP6) (wk_cv1 r4_14 kc_174_145 rfl (m145_174 _ M5 hP6) (cqR ?_)))
  rintro v13 M9 ⟨hP10, hQ11, h14, h15⟩
  obtain rfl : v13 = 301 := by omega
  obtain rfl := Fr.same hQ11
  refine wk_c1 r4_17 (wk_al0 r4_18 (wk_getfr r4_19 fd_607_3 (br_607_3 hP6) (wk_c1 r4_22 (wk_raldb r4_23 ar_608 (by decide) (fun q0 q1 => ba_608 hP6 q0 q1) (wk_c1 r4_24 (wk_al0 r4_25 (wk_getfr r4_26 fd_607_0 (br_607_0 hP6) (wk_getfi r4_29 fd_174_1 (br_174_1 hP6) (wk_copy110 r4_32 (arF_301 (by omega) (by omega)) (arF_609 (by omega) (by omega)) ⟨by decide, by decide, by decide, by omega, by omega, by omega⟩ rfl (wk_nc (fun i => t4_609 rfl rfl (by omega) (by omega) i) hP6 hF7 (fun i h0 h1 => by have := b4_301 hP6 (a := 301) (by omega) (by omega) h0 (by omega); exact (u4_609 (by omega) (by omega) ⟨by omega, by omega, by omega⟩)) ?_))))))))))
  intro M16 hP17 hF18 e19
  refine wk_al0 r4_35 (wk_getfr r4_36 fd_607_0 (br_607_0 hP17) (wk_al0 r4_39 (wk_getfr r4_40 fd_607_3 (br_607_3 hP17) (wk_c1 r4_43 (wk_raldb r4_44 ar_608 (by decide) (fun q0 q1 => ba_608 hP17 q0 q1) (wk_c1 r4_45 (wk_cv3 r4_46 kc_174_150 rfl (m150_174_f609 _ M16 (609 + 0) 1 hP17 (by omega) (by omega) (by decide) (by decide)) (cqI ?_))))))))
  rintro v24 M20 ⟨hP21, hQ22, h25, h26⟩
  have hF23 : Fr fm_m4_607 M0 M20 := hF18.tr hQ22 rfl
  refine wk_ifeq r4_49 ⟨by omega, by omega⟩ ?_ ?_
  · intro h27
    refine wk_c1 r4_59 (wk_is3 r4_60 rfl ?_)
    have c61_138 : ∀ (k138 : Nat) (M118 : Mm) (v115 : Int), (4 - v115).toNat = k138 → Pw M118 → Fr fm_m4_607 M0 M118 → M118 607 4 = p1 → M118 607 5 = p2 → 1 ≤ v115 → v115 ≤ 4 → Wp B (d + 10) 4 61 [some (R 607), none, none, some (I v115), none] [] M118 Q := by
      refine lp_ind ?_
      intro k138 ih138 M118 v115 hk138 hP119 hF120 e121 e122 h116 h117
      refine wk_il3 r4_61 (wk_c1 r4_62 ?_)
      refine wk_icgt r4_63 ⟨by omega, by omega⟩ (by decide) ?_ ?_
      · intro h123
        refine wk_c1 r4_94 ?_
        subst hQ; exact wk_iret r4_95 (⟨rfl, _, rfl, hP119, hF120, by omega, by omega⟩)
      · intro h124
        refine wk_al0 r4_66 (wk_c1 r4_67 (wk_il3 r4_68 (wk_cv3 r4_69 kc_607_2 rfl (m2_607v5 _ M118 0 v115 hP119 (by decide) (by decide) (by omega) (by omega)) (cqI ?_))))
        rintro v129 M125 ⟨hP126, hQ127, h130, h131⟩
        have hF128 : Fr fm_m4_607 M0 M125 := hF120.tr hQ127 rfl
        refine wk_is4 r4_72 rfl (wk_il4 r4_74 (wk_c1 r4_76 ?_))
        refine wk_iceq r4_77 ⟨by omega, by omega⟩ (by decide) ?_ ?_
        · intro h132
          refine wk_inc3 r4_88 rfl (wk_goto r4_91 ?_)
          exact wp_fg (le_s (le_s (le_s (le_s (le_n le_0))))) (ih138 (4 - (v115 + 1)).toNat (by omega) M125 (v115 + 1) rfl hP126 hF128 ((hQ127.at g_607_4 rfl).trans e121) ((hQ127.at g_607_5 rfl).trans e122) (by omega) (by omega))
        · intro h133
          refine wk_al0 r4_80 (wk_il4 r4_81 (wk_putfi81 r4_83 fd_607_6 (wk_nw g_607_6 rfl hP126 hF128 (uf_607_6 ⟨by omega, by omega⟩) ?_)))
          intro M134 hP135 hF136 e137
          refine wk_il3 r4_86 ?_
          subst hQ; exact wk_iret r4_87 (⟨rfl, _, rfl, hP135, hF136, by omega, by omega⟩)
    exact wp_fg (le_s (le_n (le_n (le_s (le_s le_0))))) (c61_138 _ M20 1 rfl hP21 hF23 ((hQ22.at g_607_4 rfl).trans (cpy_no e19 (mUp_no e8 (mUp_at e4) (Or.inr (by decide))) (by decide))) ((hQ22.at g_607_5 rfl).trans (cpy_no e19 (mUp_at e8) (by decide))) (by omega) (by omega))
  · intro h139
    refine wk_al0 r4_52 (wk_c1 r4_53 (wk_putfi81 r4_54 fd_607_6 (wk_nw g_607_6 rfl hP21 hF23 (uf_607_6 (by decide)) ?_)))
    intro M140 hP141 hF142 e143
    refine wk_c1 r4_57 ?_
    subst hQ; exact wk_iret r4_58 (⟨rfl, _, rfl, hP141, hF142, by omega, by omega⟩)
def fm_m19_0 : Nat := 19185098909075569733174474152988617807495168
/-- IslandHall.fewest -/
theorem m19_0 {B : eB} (d : Nat) (M0 : Mm) (p1 : Int) (hP0 : Pw M0) (l1 : (-2147483648) ≤ p1) (u1 : p1 ≤ 2147483647) : Ct B (d + 12) 19 [R 0, I p1] M0 (qX 0 (fun M => Pw M ∧ Fr (fm_m19_0 ||| 1) M0 M ∧ M (-1) 0 = M0 (-1) 0 + 1) (qI fun z M => Pw M ∧ Fr fm_m19_0 M0 M ∧ (-2) ≤ z ∧ z ≤ 3)) := by
  refine ct_of (d := d + 11) (k := 0) (L := [some (R 0), some (I p1)]) rfl rfl rfl ?_
  have hF0 := Fr.rf fm_m19_0 M0
  generalize hQ : (qX 0 (fun M => Pw M ∧ Fr (fm_m19_0 ||| 1) M0 M ∧ M (-1) 0 = M0 (-1) 0 + 1) (qI fun z M => Pw M ∧ Fr fm_m19_0 M0 M ∧ (-2) ≤ z ∧ z ≤ 3)) = Q
  refine wk_il1 r19_0 (wk_cs102_1 r19_1 rfl (m29 _ M0 p1 hP0 (by omega) (by omega)) (cqX (fun _ _ x5 => by subst hQ; exact Or.inl ⟨rfl, x5.1, Fr.trx hF0 x5.2.1 rfl, (by rw [x5.2.2, hF0.at g_below rfl])⟩) (cqV ?_)))
  rintro M1 ⟨hP2, hQ3, h8, h9⟩
  obtain rfl := Fr.same hQ3
  refine wk_al0 r19_4 (wk_getfr r19_5 fd_0_6 (br_0_6 hP0) (wk_al0 r19_8 (wk_getfr r19_9 fd_0_7 (br_0_7 hP0) (wk_cv1 r19_12 kc_138_229 rfl (m229_138 _ M0 hP0) (cqR ?_)))))
  rintro v14 M10 ⟨hP11, hQ12, h15, h16⟩
  obtain rfl := Fr.same hQ12
  refine wk_cv2 r19_15 kc_10_194 rfl (m194_10_f155 _ M0 v14 hP0 (by omega) (by omega)) (cqI ?_)
  rintro v21 M17 ⟨hP18, hQ19, h22, h23⟩
  obtain rfl := Fr.same hQ19
  refine wk_c2 r19_18 ?_
  refine wk_icle r19_20 ⟨by omega, by omega⟩ (by decide) ?_ ?_
  · intro h24
    refine wk_al0 r19_26 (wk_getfr r19_27 fd_0_15 (br_0_15 hP0) (wk_al0 r19_30 (wk_getfr r19_31 fd_0_7 (br_0_7 hP0) (wk_il1 r19_34 (wk_cv3 r19_35 kc_174_146 rfl (m146_174_138 _ M0 p1 hP0 (by omega) (by omega)) (cqV ?_))))))
    rintro M25 ⟨hP26, hQ27⟩
    have hF28 : Fr fm_m19_0 M0 M25 := hF0.tr hQ27 rfl
    refine wk_al0 r19_38 (wk_getfr r19_39 fd_0_16 (br_0_16 hP26) (wk_al0 r19_42 (wk_getfb r19_43 fd_0_11 (bf_0_11 hP26) ?_)))
    intro v29 h31 h32 e30
    refine wk_al0 r19_46 (wk_getfr r19_47 fd_0_7 (br_0_7 hP26) (wk_getfb r19_50 fd_138_5 (bf_138_5 hP26) ?_))
    intro v33 h35 h36 e34
    refine wk_cv3 r19_53 kc_607_4 rfl (m4_607 _ M25 v29 v33 hP26 (by omega) (by omega) (by omega) (by omega)) (cqI ?_)
    rintro v41 M37 ⟨hP38, hQ39, h42, h43⟩
    have hF40 : Fr fm_m19_0 M0 M37 := hF28.tr hQ39 rfl
    subst hQ; exact wk_iret r19_56 (Or.inr ⟨rfl, _, rfl, hP38, hF40, by omega, by omega⟩)
  · intro h44
    refine wk_c2 r19_23 ?_
    subst hQ; exact wk_iret r19_25 (Or.inr ⟨rfl, _, rfl, hP0, hF0, by omega, by omega⟩)
def fm_m20_0 : Nat := 0
/-- IslandHall.first -/
theorem m20_0 {B : eB} (d : Nat) (M0 : Mm) (hP0 : Pw M0)  : Ct B (d + 1) 20 [R 0] M0 (qI fun z M => Pw M ∧ Fr fm_m20_0 M0 M ∧ (-1) ≤ z ∧ z ≤ 9) := by
  refine ct_of (d := d + 0) (k := 0) (L := [some (R 0)]) rfl rfl rfl ?_
  have hF0 := Fr.rf fm_m20_0 M0
  generalize hQ : (qI fun z M => Pw M ∧ Fr fm_m20_0 M0 M ∧ (-1) ≤ z ∧ z ≤ 9) = Q
  refine wk_al0 r20_0 (wk_getfr r20_1 fd_0_16 (br_0_16 hP0) (wk_getfb r20_4 fd_607_6 (bf_607_6 hP0) ?_))
  intro v1 h3 h4 e2
  subst hQ; exact wk_iret r20_7 (⟨rfl, _, rfl, hP0, hF0, by omega, by omega⟩)
def fm_m149_174_677 : Nat := 0
/-- IslandHall$Crowd.someOf -/
theorem m149_174_677 {B : eB} (d : Nat) (M0 : Mm) (hP0 : Pw M0)  : Ct B (d + 2) 149 [R 174, R 677] M0 (qI fun z M => Pw M ∧ Fr fm_m149_174_677 M0 M ∧ (-1) ≤ z ∧ z ≤ 299) := by
  refine ct_of (d := d + 1) (k := 1) (L := [some (R 174), some (R 677), none]) rfl rfl rfl ?_
  have hF0 := Fr.rf fm_m149_174_677 M0
  generalize hQ : (qI fun z M => Pw M ∧ Fr fm_m149_174_677 M0 M ∧ (-1) ≤ z ∧ z ≤ 299) = Q
  refine wk_c1 r149_0 (wk_is2 r149_1 rfl ?_)
  have c2_330 : ∀ (k330 : Nat) (v283 : Int), (5 - v283).toNat = k330 → 0 ≤ v283 → v283 ≤ 5 → Wp B (d + 1) 149 2 [some (R 174), some (R 677), some (I v283)] [] M0 Q := by
    refine lp_ind ?_
    intro k330 ih330 v283 hk330 h284 h285
    refine wk_il2 r149_2 (wk_al0 r149_3 (wk_getfr r149_4 fd_174_0 (br_174_0 hP0) (wk_getfb r149_7 fd_176_10 (bf_176_10 hP0) ?_)))
    intro v286 h288 h289 e287
    refine wk_icge r149_10 ⟨by omega, by omega⟩ ⟨by omega, by omega⟩ ?_ ?_
    · intro h290
      refine wk_c1 r149_49 ?_
      subst hQ; exact wk_iret r149_50 (⟨rfl, _, rfl, hP0, hF0, by omega, by omega⟩)
    · intro h291
      refine wk_al1 r149_13 (wk_il2 r149_14 (wk_laldb r149_15 (arF_677 (by omega) (by omega)) ⟨by omega, by omega⟩ (fun q0 q1 => ⟨(b4_677 hP0 (by omega) (by omega) q0 q1).1, (b4_677 hP0 (by omega) (by omega) q0 q1).2.1⟩) (by decide) ?_))
      intro n292 h294 h295 e293
      have h296 : v283 = 4 → n292 ≤ 17592186044415 := by have := b4_677 hP0 (a := 677) (i := v283) (by omega) (by omega) (by omega) (by omega); omega
      refine wk_c6 r149_16 ?_
      refine wk_lcmp r149_17 (by omega) (by omega) ?_ ?_
      · intro h297
        refine wk_ifeq r149_18 (by decide) ?_ ?_
        · intro h303
          refine wk_inc2 r149_43 rfl (wk_goto r149_46 ?_)
          exact wp_fg (le_s (le_s (le_s le_0))) (ih330 (5 - (v283 + 1)).toNat (by omega) (v283 + 1) rfl (by omega) (by omega))
        · intro h304
          exfalso
          omega
      · intro h298 v302 h299 h300 h301
        refine wk_ifeq r149_18 ⟨by omega, by omega⟩ ?_ ?_
        · intro h305
          exfalso
          omega
        · intro h306
          refine wk_c2 r149_21 (wk_il2 r149_23 (wk_imul r149_24 (wk_al1 r149_25 (wk_il2 r149_26 (wk_lald r149_27 (arF_677 (by omega) (by omega)) ⟨by omega, by omega⟩ e293 (wk_c7 r149_28 (wk_lxor r149_31 ?_)))))))
          intro n308 h309 h310
          refine wk_al1 r149_32 (wk_il2 r149_33 (wk_lald r149_34 (arF_677 (by omega) (by omega)) ⟨by omega, by omega⟩ e293 (wk_c6 r149_35 (wk_lsubb r149_36 (by omega) ?_))))
          intro n312 h314 h313
          refine wk_land r149_37 ?_
          intro n315 h316 h317 h318 h319
          refine wk_cs102_1 r149_38 rfl (m245 _ M0 n315 hP0 (by omega)) (cqI ?_)
          rintro v325 M320 ⟨hP321, hQ322, h326, h327, xh324⟩
          obtain rfl := Fr.same hQ322
          have h328 := tz_b (by omega) (by omega) h310 h313 h319
          have h329 : 64 * v283 + v325 ≤ 299 := by omega
          refine wk_iadd r149_41 ?_
          subst hQ; exact wk_iret r149_42 (⟨rfl, _, rfl, hP0, hF0, by omega, by omega⟩)
  exact wp_fg (le_s (le_s (le_s le_0))) (c2_330 _ 0 rfl (by omega) (by omega))
def fm_m151_174_677 : Nat := 0
/-- IslandHall$Crowd.tellsOne -/
theorem m151_174_677 {B : eB} (d : Nat) (M0 : Mm) (hP0 : Pw M0)  : Ct B (d + 3) 151 [R 174, R 677] M0 (qI fun z M => Pw M ∧ Fr fm_m151_174_677 M0 M ∧ 0 ≤ z ∧ z ≤ 1) := by
  refine ct_of (d := d + 2) (k := 3) (L := [some (R 174), some (R 677), none, none, none]) rfl rfl rfl ?_
  have hF0 := Fr.rf fm_m151_174_677 M0
  generalize hQ : (qI fun z M => Pw M ∧ Fr fm_m151_174_677 M0 M ∧ 0 ≤ z ∧ z ≤ 1) = Q
  refine wk_al0 r151_0 (wk_al1 r151_1 (wk_cv2 r151_2 kc_174_149 rfl (m149_174_677 _ M0 hP0) (cqI ?_)))
  rintro v5 M1 ⟨hP2, hQ3, h6, h7⟩
  obtain rfl := Fr.same hQ3
  refine wk_is2 r151_5 rfl (wk_il2 r151_6 (wk_c1 r151_7 ?_))
  refine wk_icne r151_8 ⟨by omega, by omega⟩ (by decide) ?_ ?_
  · intro h8
    refine wk_al0 r151_13 (wk_getfr r151_14 fd_174_3 (br_174_3 hP0) (wk_al0 r151_17 (wk_getfr r151_18 fd_174_2 (br_174_2 hP0) (wk_il2 r151_21 (wk_ialdb r151_22 ar_304 ⟨by omega, by omega⟩ (fun q0 q1 => ba_304 hP0 q0 q1) ?_)))))
    intro v9 h11 h12 e10
    refine wk_raldb r151_23 ar_305 ⟨by omega, by omega⟩ (fun q0 q1 => ba_305 hP0 q0 q1) (wk_as3 r151_24 rfl (wk_c1 r151_25 (wk_is4 r151_26 rfl ?_)))
    have c28_265 : ∀ (k265 : Nat) (v229 : Int), (5 - v229).toNat = k265 → 0 ≤ v229 → v229 ≤ 5 → Wp B (d + 2) 151 28 [some (R 174), some (R 677), none, some (R (306 + v9)), some (I v229)] [] M0 Q := by
      refine lp_ind ?_
      intro k265 ih265 v229 hk265 h230 h231
      refine wk_il4 r151_28 (wk_al0 r151_30 (wk_getfr r151_31 fd_174_0 (br_174_0 hP0) (wk_getfb r151_34 fd_176_10 (bf_176_10 hP0) ?_)))
      intro v232 h234 h235 e233
      refine wk_icge r151_37 ⟨by omega, by omega⟩ ⟨by omega, by omega⟩ ?_ ?_
      · intro h236
        refine wk_c1 r151_66 ?_
        subst hQ; exact wk_zret r151_67 (by decide) (⟨rfl, _, rfl, hP0, hF0, by omega, by omega⟩)
      · intro h237
        refine wk_al1 r151_40 (wk_il4 r151_41 (wk_laldb r151_43 (arF_677 (by omega) (by omega)) ⟨by omega, by omega⟩ (fun q0 q1 => ⟨(b4_677 hP0 (by omega) (by omega) q0 q1).1, (b4_677 hP0 (by omega) (by omega) q0 q1).2.1⟩) (by decide) ?_))
        intro n238 h240 h241 e239
        have h242 : v229 = 4 → n238 ≤ 17592186044415 := by have := b4_677 hP0 (a := 677) (i := v229) (by omega) (by omega) (by omega) (by omega); omega
        refine wk_al3 r151_44 (wk_il4 r151_45 (wk_laldb r151_47 (arF_306 (by omega) (by omega)) ⟨by omega, by omega⟩ (fun q0 q1 => baF_306 hP0 (by omega) (by omega) q0 q1) (by decide) ?_))
        intro n243 h245 h246 e244
        refine wk_c7 r151_48 (wk_lxor r151_51 ?_)
        intro n247 h248 h249
        refine wk_land r151_52 ?_
        intro n250 h251 h252 h253 h254
        refine wk_c6 r151_53 ?_
        refine wk_lcmp r151_54 (by omega) (by omega) ?_ ?_
        · intro h255
          refine wk_ifeq r151_55 (by decide) ?_ ?_
          · intro h261
            refine wk_inc4 r151_60 rfl (wk_goto r151_63 ?_)
            exact wp_fg (le_s (le_s (le_s (le_s (le_s le_0))))) (ih265 (5 - (v229 + 1)).toNat (by omega) (v229 + 1) rfl (by omega) (by omega))
          · intro h262
            exfalso
            omega
        · intro h256 v260 h257 h258 h259
          refine wk_ifeq r151_55 ⟨by omega, by omega⟩ ?_ ?_
          · intro h263
            exfalso
            omega
          · intro h264
            refine wk_c1 r151_58 ?_
            subst hQ; exact wk_zret r151_59 (by decide) (⟨rfl, _, rfl, hP0, hF0, by omega, by omega⟩)
    exact wp_fg (le_s (le_s (le_n (le_s (le_s le_0))))) (c28_265 _ 0 rfl (by omega) (by omega))
  · intro h266
    refine wk_c1 r151_11 ?_
    subst hQ; exact wk_zret r151_12 (by decide) (⟨rfl, _, rfl, hP0, hF0, by omega, by omega⟩)
def fm_m148_174_301_f616_677v4 : Nat := 2192252455996354377305527249074424529483898814464
/-- IslandHall$Crowd.narrow -/
theorem m148_174_301_f616_677v4 {B : eB} (d : Nat) (M0 : Mm) (p2 : Int) (p3 : Int) (a4 : Int) (hP0 : Pw M0) (l2 : 0 ≤ p2) (u2 : p2 ≤ 6) (l3 : (-1) ≤ p3) (u3 : p3 ≤ (-1)) (ha4 : 616 ≤ a4) (hb4 : a4 ≤ 645) : Ct B (d + 2) 148 [R 174, R 301, I p2, I p3, R a4, R 677] M0 (qV fun M => Pw M ∧ Fr fm_m148_174_301_f616_677v4 M0 M) := by
  refine ct_of (d := d + 1) (k := 4) (L := [some (R 174), some (R 301), some (I p2), some (I p3), some (R a4), some (R 677), none, none, none, none]) rfl rfl rfl ?_
  have hF0 := Fr.rf fm_m148_174_301_f616_677v4 M0
  generalize hQ : (qV fun M => Pw M ∧ Fr fm_m148_174_301_f616_677v4 M0 M) = Q
  refine wk_al0 r148_0 (wk_getfr r148_1 fd_174_0 (br_174_0 hP0) (wk_il2 r148_4 (wk_cv2 r148_5 kc_176_190 rfl (m190_176 _ M0 p2 hP0 (by omega) (by omega)) (cqR ?_))))
  rintro v5 M1 ⟨hP2, hQ3, h6, h7⟩
  obtain rfl := Fr.same hQ3
  refine wk_as6 r148_8 rfl (wk_al0 r148_10 (wk_getfr r148_11 fd_174_0 (br_174_0 hP0) (wk_il2 r148_14 (wk_cv2 r148_15 kc_176_193 rfl (m193_176 _ M0 p2 hP0 (by omega) (by omega)) (cqR ?_)))))
  rintro v12 M8 ⟨hP9, hQ10, h13, h14⟩
  obtain rfl := Fr.same hQ10
  refine wk_as7 r148_18 rfl (wk_al0 r148_20 (wk_getfr r148_21 fd_174_0 (br_174_0 hP0) (wk_il3 r148_24 (wk_cv2 r148_25 kc_176_208 rfl (m208_176 _ M0 p3 hP0 (by omega) (by omega)) (cqR ?_)))))
  rintro v19 M15 ⟨hP16, hQ17, h20, h21⟩
  obtain rfl : v19 = 301 := by omega
  obtain rfl := Fr.same hQ17
  refine wk_as8 r148_28 rfl (wk_c1 r148_30 (wk_is9 r148_31 rfl ?_))
  have c33_365 : ∀ (k365 : Nat) (M319 : Mm) (v316 : Int), (5 - v316).toNat = k365 → Pw M319 → Fr fm_m148_174_301_f616_677v4 M0 M319 → 0 ≤ v316 → v316 ≤ 5 → Wp B (d + 1) 148 33 [some (R 174), some (R 301), none, none, some (R a4), some (R 677), some (R v5), some (R v12), some (R 301), some (I v316)] [] M319 Q := by
    refine lp_ind ?_
    intro k365 ih365 M319 v316 hk365 hP320 hF321 h317 h318
    refine wk_il9 r148_33 (wk_al0 r148_35 (wk_getfr r148_36 fd_174_0 (br_174_0 hP320) (wk_getfb r148_39 fd_176_10 (bf_176_10 hP320) ?_)))
    intro v322 h324 h325 e323
    refine wk_icge r148_42 ⟨by omega, by omega⟩ ⟨by omega, by omega⟩ ?_ ?_
    · intro h326
      subst hQ; exact wk_ret r148_84 (⟨rfl, hP320, hF321⟩)
    · intro h327
      refine wk_al5 r148_45 (wk_il9 r148_47 (wk_al1 r148_49 (wk_il9 r148_50 (wk_laldb r148_52 (arF_301 (by omega) (by omega)) ⟨by omega, by omega⟩ (fun q0 q1 => ⟨(b4_301 hP320 (by omega) (by omega) q0 q1).1, (b4_301 hP320 (by omega) (by omega) q0 q1).2.1⟩) (by decide) ?_))))
      intro n328 h330 h331 e329
      have h332 : v316 = 4 → n328 ≤ 17592186044415 := by have := b4_301 hP320 (a := 301) (i := v316) (by omega) (by omega) (by omega) (by omega); omega
      refine wk_al6 r148_53 (wk_il9 r148_55 (wk_laldb r148_57 (arF_183 (by omega) (by omega)) ⟨by omega, by omega⟩ (fun q0 q1 => baF_183 hP320 (by omega) (by omega) q0 q1) (by decide) ?_))
      intro n333 h335 h336 e334
      refine wk_al8 r148_58 (wk_il9 r148_60 (wk_lald r148_62 (arF_301 (by omega) (by omega)) ⟨by omega, by omega⟩ e329 (wk_al4 r148_63 (wk_il9 r148_65 (wk_laldb r148_67 (arF_616 (by omega) (by omega)) ⟨by omega, by omega⟩ (fun q0 q1 => baF_616 hP320 (by omega) (by omega) q0 q1) (by decide) ?_)))))
      intro n338 h340 h341 e339
      refine wk_lxor r148_68 ?_
      intro n342 h343 h344
      refine wk_al7 r148_69 (wk_il9 r148_71 (wk_laldb r148_73 (arF_183 (by omega) (by omega)) ⟨by omega, by omega⟩ (fun q0 q1 => baF_183 hP320 (by omega) (by omega) q0 q1) (by decide) ?_))
      intro n345 h347 h348 e346
      refine wk_lxor r148_74 ?_
      intro n349 h350 h351
      refine wk_lorb r148_75 ?_
      intro n352 h353 h354 h355
      refine wk_land r148_76 ?_
      intro n356 h357 h358 h359 h360
      refine wk_last r148_77 (arF_677 (by omega) (by omega)) ⟨by omega, by omega⟩ (wk_nwt (t4_677 rfl rfl (by omega) (by omega) _) hP320 hF321 (u4_677 (by omega) (by omega) ⟨by omega, by omega, by omega⟩) ?_)
      intro M361 hP362 hF363 e364
      refine wk_inc9 r148_78 rfl (wk_goto r148_81 ?_)
      exact wp_fg (le_s (le_s (le_s (le_s (le_s (le_s (le_s (le_s (le_s (le_s le_0)))))))))) (ih365 (5 - (v316 + 1)).toNat (by omega) M361 (v316 + 1) rfl hP362 hF363 (by omega) (by omega))
  exact wp_fg (le_s (le_s (le_n (le_n (le_s (le_s (le_s (le_s (le_s (le_s le_0)))))))))) (c33_365 _ M0 0 rfl hP0 hF0 (by omega) (by omega))
