/-! ===== written by program (wip/layer3/model.py): contracts of methods ===== -/
def fm_m9092_739 : Nat := 1809251394438377845161853827458666587891013942719528908517073861377953628160
/-- IslandHallModel.keepsFacts -/
theorem m9092_739 {B : eB} (d : Nat) (M0 : Mm) (p1 : Int) (x739_4 : Int) (fe : Int) (hP0 : Pw M0) (l1 : 0 ≤ p1) (u1 : p1 ≤ 2999) (ex739_4 : M0 739 4 = x739_4) (lx739_4 : 0 ≤ x739_4) (ux739_4 : x739_4 ≤ 500) (pp_FF : FFP M0 fe) : Ct B (d + 5) 92 [R 739, I p1] M0 (qI fun z M => Pw M ∧ Fr fm_m9092_739 M0 M ∧ 0 ≤ z ∧ z ≤ 1) := by
  refine ct_of (d := d + 4) (k := 3) (L := [some (R 739), some (I p1), none, none, none]) rfl rfl rfl ?_
  have hF0 := Fr.rf fm_m9092_739 M0
  generalize hQ : (qI fun z M => Pw M ∧ Fr fm_m9092_739 M0 M ∧ 0 ≤ z ∧ z ≤ 1) = Q
  have hf0 := pp_FF.2.1
  have hf1 := pp_FF.2.2
  rw [ex739_4] at hf0
  refine wk_c1 r92_0 (wk_is2 r92_1 rfl (wk_c1 r92_2 (wk_is3 r92_3 rfl (wk_c1 r92_4 (wk_is4 r92_5 rfl ?_)))))
  have c7_426 : ∀ (k426 : Nat) (M392 : Mm) (v383 : Int) (v386 : Int) (v389 : Int), (500 - v389).toNat = k426 → Pw M392 → Fr fm_m9092_739 M0 M392 → M392 739 4 = x739_4 → 0 ≤ v383 → v383 ≤ 1 → 0 ≤ v386 → v386 ≤ 12000 → 0 ≤ v389 → v389 ≤ 500 → (FFP M392 fe) → 0 ≤ (-1) * v383 + v386 + 1 → 0 ≤ (-1) * v383 + v389 + 1 → (FD (fun k => M0 741 k) (x739_4 - v389).toNat v386 fe ∧ 0 ≤ v386) → Wp B (d + 4) 92 7 [some (R 739), some (I p1), some (I v383), some (I v386), some (I v389)] [] M392 Q := by
    refine lp_ind ?_
    intro k426 ih426 M392 v383 v386 v389 hk426 hP393 hF394 e395 h384 h385 h387 h388 h390 h391 pr396 h397 h398 ti399
    refine wk_il4 r92_7 (wk_al0 r92_9 (wk_getfi r92_10 fd_739_4 e395 ?_))
    refine wk_icge r92_13 ⟨by omega, by omega⟩ ⟨by omega, by omega⟩ ?_ ?_
    · intro h400
      refine wk_il2 r92_53 ?_
      subst hQ; exact wk_zret r92_54 ⟨by omega, by omega⟩ (⟨rfl, _, rfl, hP393, hF394, by omega, by omega⟩)
    · intro h401
      obtain ⟨en, hsg, hrest, hen⟩ := FD_cons ti399.1 (by omega)
      have hz3 := ti399.2
      refine wk_al0 r92_16 (wk_al0 r92_17 (wk_getfr r92_18 fd_739_6 (br_739_6 hP393) (wk_il3 r92_21 (wk_il1 r92_22 (wk_c1 r92_23 (wk_c1 r92_24 (wk_cv6 r92_25 kc_739_136 rfl (m9136_739_741 _ M392 v386 p1 0 0 en hP393 (by omega) (by omega) (by omega) (by omega) (by decide) (by decide) (by decide) (by decide) (SEG_row (fun k => hF394.at (ga_741 k) rfl) hsg) (⟨by omega, by omega⟩)) (cqI ?_))))))))
      rintro v407 M402 ⟨hP403, hQ404, h408, h409, xh406⟩
      have hF405 : Fr fm_m9092_739 M0 M402 := hF394.tr hQ404 rfl
      refine wk_c1 r92_28 ?_
      refine wk_icne r92_29 ⟨by omega, by omega⟩ (by decide) ?_ ?_
      · intro h410
        refine wk_c1 r92_40 (wk_is2 r92_41 rfl (wk_al0 r92_42 (wk_getfb r92_43 fd_739_53 (bf_739_53 hP403) ?_)))
        intro v411 h413 h414 e412
        refine wk_is3 r92_46 rfl ?_
        have hq3 : v411 = en := e412.symm.trans xh406
        refine wk_inc4 r92_47 rfl (wk_goto r92_50 ?_)
        exact wp_fg (le_s (le_s (le_s (le_s (le_s le_0))))) (ih426 (500 - (v389 + 1)).toNat (by omega) M402 0 v411 (v389 + 1) rfl hP403 hF405 ((hQ404.at g_739_4 rfl).trans e395) (by first | assumption | omega) (by first | assumption | omega) (by first | assumption | omega) (by first | assumption | omega) (by first | assumption | omega) (by first | assumption | omega) (FFP_sm (Sm.fr hQ404 rfl) pr396) (by first | assumption | omega) (by first | assumption | omega) (by rw [show (x739_4 - (v389 + 1)).toNat = (x739_4 - v389).toNat - 1 by omega, hq3]; exact ⟨hrest, by have := hsg.2.1; omega⟩))
      · intro h415
        refine wk_il2 r92_32 ?_
        refine wk_ifeq r92_33 ⟨by omega, by omega⟩ ?_ ?_
        · intro h416
          refine wk_c1 r92_40 (wk_is2 r92_41 rfl (wk_al0 r92_42 (wk_getfb r92_43 fd_739_53 (bf_739_53 hP403) ?_)))
          intro v417 h419 h420 e418
          refine wk_is3 r92_46 rfl ?_
          have hq3 : v417 = en := e418.symm.trans xh406
          refine wk_inc4 r92_47 rfl (wk_goto r92_50 ?_)
          exact wp_fg (le_s (le_s (le_s (le_s (le_s le_0))))) (ih426 (500 - (v389 + 1)).toNat (by omega) M402 0 v417 (v389 + 1) rfl hP403 hF405 ((hQ404.at g_739_4 rfl).trans e395) (by first | assumption | omega) (by first | assumption | omega) (by first | assumption | omega) (by first | assumption | omega) (by first | assumption | omega) (by first | assumption | omega) (FFP_sm (Sm.fr hQ404 rfl) pr396) (by first | assumption | omega) (by first | assumption | omega) (by rw [show (x739_4 - (v389 + 1)).toNat = (x739_4 - v389).toNat - 1 by omega, hq3]; exact ⟨hrest, by have := hsg.2.1; omega⟩))
        · intro h421
          refine wk_c1 r92_36 (wk_goto r92_37 (wk_is2 r92_41 rfl (wk_al0 r92_42 (wk_getfb r92_43 fd_739_53 (bf_739_53 hP403) ?_))))
          intro v422 h424 h425 e423
          refine wk_is3 r92_46 rfl ?_
          have hq3 : v422 = en := e423.symm.trans xh406
          refine wk_inc4 r92_47 rfl (wk_goto r92_50 ?_)
          exact wp_fg (le_s (le_s (le_s (le_s (le_s le_0))))) (ih426 (500 - (v389 + 1)).toNat (by omega) M402 1 v422 (v389 + 1) rfl hP403 hF405 ((hQ404.at g_739_4 rfl).trans e395) (by first | assumption | omega) (by first | assumption | omega) (by first | assumption | omega) (by first | assumption | omega) (by first | assumption | omega) (by first | assumption | omega) (FFP_sm (Sm.fr hQ404 rfl) pr396) (by first | assumption | omega) (by first | assumption | omega) (by rw [show (x739_4 - (v389 + 1)).toNat = (x739_4 - v389).toNat - 1 by omega, hq3]; exact ⟨hrest, by have := hsg.2.1; omega⟩))
  exact wp_fg (le_s (le_s (le_s (le_s (le_s le_0))))) (c7_426 _ M0 1 0 0 rfl hP0 hF0 ex739_4 (by first | assumption | omega) (by first | assumption | omega) (by first | assumption | omega) (by first | assumption | omega) (by first | assumption | omega) (by first | assumption | omega) pp_FF (by first | assumption | omega) (by first | assumption | omega) (⟨by rw [Int.sub_zero]; exact hf0, by decide⟩))
def fm_m9057_739 : Nat := 0
set_option maxHeartbeats 20000000 in
/-- IslandHallModel.choiceOf -/
theorem m9057_739 {B : eB} (d : Nat) (M0 : Mm) (p1 : Int) (p2 : Int) (hP0 : Pw M0) (l1 : 0 ≤ p1) (u1 : p1 ≤ 6) (l2 : 0 ≤ p2) (u2 : p2 ≤ 10) : Ct B (d + 1) 57 [R 739, I p1, I p2] M0 (qI fun z M => Pw M ∧ Fr fm_m9057_739 M0 M ∧ (-1) ≤ z ∧ z ≤ 10 ∧ ((z = -1 → cT (M0 740 p1) ≤ p2) ∧ (z ≠ -1 → p2 < cT (M0 740 p1)))) := by
  refine ct_of (d := d + 0) (k := 2) (L := [some (R 739), some (I p1), some (I p2), none, none]) rfl rfl rfl ?_
  have hF0 := Fr.rf fm_m9057_739 M0
  generalize hQ : (qI fun z M => Pw M ∧ Fr fm_m9057_739 M0 M ∧ (-1) ≤ z ∧ z ≤ 10 ∧ ((z = -1 → cT (M0 740 p1) ≤ p2) ∧ (z ≠ -1 → p2 < cT (M0 740 p1)))) = Q
  refine wk_il2 r57_0 (wk_is3 r57_1 rfl (wk_c1 r57_2 (wk_is4 r57_3 rfl (wk_il4 r57_5 (wk_c1 r57_7 ?_)))))
  refine wk_icgt r57_8 (by decide) (by decide) ?_ ?_
  · intro h1
    exfalso
    omega
  · intro h2
    refine wk_al0 r57_11 (wk_getfr r57_12 fd_739_5 (br_739_5 hP0) (wk_il1 r57_15 (wk_ialdb r57_16 ar_740 ⟨by omega, by omega⟩ (fun q0 q1 => ba_740 hP0 q0 q1) ?_)))
    intro v3 h5 h6 e4
    refine wk_il4 r57_17 (wk_ishrc r57_19 ⟨by omega, by omega⟩ (by decide) pwl_0 (wk_c1 r57_20 (wk_iandc 1 2 r57_21 ⟨rfl, by decide⟩ rfl ?_)))
    refine wk_ifne r57_22 ⟨by omega, by omega⟩ ?_ ?_
    · intro h9
      refine wk_il3 r57_28 ?_
      refine wk_ifne r57_29 ⟨by omega, by omega⟩ ?_ ?_
      · intro h10
        refine wk_inc3 r57_35 rfl (wk_il4 r57_38 (wk_c1 r57_40 ?_))
        refine wk_iceq r57_41 (by decide) (by decide) ?_ ?_
        · intro h11
          exfalso
          omega
        · intro h12
          refine wk_goto r57_44 (wk_inc4 r57_57 rfl (wk_goto r57_60 (wk_il4 r57_5 (wk_c1 r57_7 ?_))))
          refine wk_icgt r57_8 (by decide) (by decide) ?_ ?_
          · intro h13
            exfalso
            omega
          · intro h14
            refine wk_al0 r57_11 (wk_getfr r57_12 fd_739_5 (br_739_5 hP0) (wk_il1 r57_15 (wk_iald r57_16 ar_740 ⟨by omega, by omega⟩ e4 (wk_il4 r57_17 (wk_ishrc r57_19 ⟨by omega, by omega⟩ (by decide) pwl_1 (wk_c1 r57_20 (wk_iandc 1 2 r57_21 ⟨rfl, by decide⟩ rfl ?_)))))))
            refine wk_ifne r57_22 ⟨by omega, by omega⟩ ?_ ?_
            · intro h17
              refine wk_il3 r57_28 ?_
              refine wk_ifne r57_29 ⟨by omega, by omega⟩ ?_ ?_
              · intro h18
                refine wk_inc3 r57_35 rfl (wk_il4 r57_38 (wk_c1 r57_40 ?_))
                refine wk_iceq r57_41 (by decide) (by decide) ?_ ?_
                · intro h19
                  exfalso
                  omega
                · intro h20
                  refine wk_goto r57_44 (wk_inc4 r57_57 rfl (wk_goto r57_60 (wk_il4 r57_5 (wk_c1 r57_7 ?_))))
                  refine wk_icgt r57_8 (by decide) (by decide) ?_ ?_
                  · intro h21
                    exfalso
                    omega
                  · intro h22
                    refine wk_al0 r57_11 (wk_getfr r57_12 fd_739_5 (br_739_5 hP0) (wk_il1 r57_15 (wk_iald r57_16 ar_740 ⟨by omega, by omega⟩ e4 (wk_il4 r57_17 (wk_ishrc r57_19 ⟨by omega, by omega⟩ (by decide) pwl_2 (wk_c1 r57_20 (wk_iandc 1 2 r57_21 ⟨rfl, by decide⟩ rfl ?_)))))))
                    refine wk_ifne r57_22 ⟨by omega, by omega⟩ ?_ ?_
                    · intro h25
                      refine wk_il3 r57_28 ?_
                      refine wk_ifne r57_29 ⟨by omega, by omega⟩ ?_ ?_
                      · intro h26
                        refine wk_inc3 r57_35 rfl (wk_il4 r57_38 (wk_c1 r57_40 ?_))
                        refine wk_iceq r57_41 (by decide) (by decide) ?_ ?_
                        · intro h27
                          refine wk_il3 r57_47 ?_
                          refine wk_ifne r57_48 ⟨by omega, by omega⟩ ?_ ?_
                          · intro h28
                            refine wk_inc3 r57_54 rfl (wk_inc4 r57_57 rfl (wk_goto r57_60 (wk_il4 r57_5 (wk_c1 r57_7 ?_))))
                            refine wk_icgt r57_8 (by decide) (by decide) ?_ ?_
                            · intro h29
                              exfalso
                              omega
                            · intro h30
                              refine wk_al0 r57_11 (wk_getfr r57_12 fd_739_5 (br_739_5 hP0) (wk_il1 r57_15 (wk_iald r57_16 ar_740 ⟨by omega, by omega⟩ e4 (wk_il4 r57_17 (wk_ishrc r57_19 ⟨by omega, by omega⟩ (by decide) pwl_3 (wk_c1 r57_20 (wk_iandc 1 2 r57_21 ⟨rfl, by decide⟩ rfl ?_)))))))
                              refine wk_ifne r57_22 ⟨by omega, by omega⟩ ?_ ?_
                              · intro h33
                                refine wk_il3 r57_28 ?_
                                refine wk_ifne r57_29 ⟨by omega, by omega⟩ ?_ ?_
                                · intro h34
                                  refine wk_inc3 r57_35 rfl (wk_il4 r57_38 (wk_c1 r57_40 ?_))
                                  refine wk_iceq r57_41 (by decide) (by decide) ?_ ?_
                                  · intro h35
                                    exfalso
                                    omega
                                  · intro h36
                                    refine wk_goto r57_44 (wk_inc4 r57_57 rfl (wk_goto r57_60 (wk_il4 r57_5 (wk_c1 r57_7 ?_))))
                                    refine wk_icgt r57_8 (by decide) (by decide) ?_ ?_
                                    · intro h37
                                      exfalso
                                      omega
                                    · intro h38
                                      refine wk_al0 r57_11 (wk_getfr r57_12 fd_739_5 (br_739_5 hP0) (wk_il1 r57_15 (wk_iald r57_16 ar_740 ⟨by omega, by omega⟩ e4 (wk_il4 r57_17 (wk_ishrc r57_19 ⟨by omega, by omega⟩ (by decide) pwl_4 (wk_c1 r57_20 (wk_iandc 1 2 r57_21 ⟨rfl, by decide⟩ rfl ?_)))))))
                                      refine wk_ifne r57_22 ⟨by omega, by omega⟩ ?_ ?_
                                      · intro h41
                                        refine wk_il3 r57_28 ?_
                                        refine wk_ifne r57_29 ⟨by omega, by omega⟩ ?_ ?_
                                        · intro h42
                                          refine wk_inc3 r57_35 rfl (wk_il4 r57_38 (wk_c1 r57_40 ?_))
                                          refine wk_iceq r57_41 (by decide) (by decide) ?_ ?_
                                          · intro h43
                                            exfalso
                                            omega
                                          · intro h44
                                            refine wk_goto r57_44 (wk_inc4 r57_57 rfl (wk_goto r57_60 (wk_il4 r57_5 (wk_c1 r57_7 ?_))))
                                            refine wk_icgt r57_8 (by decide) (by decide) ?_ ?_
                                            · intro h45
                                              refine wk_c1 r57_63 ?_
                                              subst hQ; exact wk_iret r57_64 (⟨rfl, _, rfl, hP0, hF0, by omega, by omega, by unfold cT; rw [e4]; exact ⟨fun q => by omega, fun q => by omega⟩⟩)
                                            · intro h46
                                              exfalso
                                              omega
                                        · intro h47
                                          refine wk_il4 r57_32 ?_
                                          subst hQ; exact wk_iret r57_34 (⟨rfl, _, rfl, hP0, hF0, by omega, by omega, by unfold cT; rw [e4]; exact ⟨fun q => by omega, fun q => by omega⟩⟩)
                                      · intro h48
                                        refine wk_goto r57_25 (wk_inc4 r57_57 rfl (wk_goto r57_60 (wk_il4 r57_5 (wk_c1 r57_7 ?_))))
                                        refine wk_icgt r57_8 (by decide) (by decide) ?_ ?_
                                        · intro h49
                                          refine wk_c1 r57_63 ?_
                                          subst hQ; exact wk_iret r57_64 (⟨rfl, _, rfl, hP0, hF0, by omega, by omega, by unfold cT; rw [e4]; exact ⟨fun q => by omega, fun q => by omega⟩⟩)
                                        · intro h50
                                          exfalso
                                          omega
                                · intro h51
                                  refine wk_il4 r57_32 ?_
                                  subst hQ; exact wk_iret r57_34 (⟨rfl, _, rfl, hP0, hF0, by omega, by omega, by unfold cT; rw [e4]; exact ⟨fun q => by omega, fun q => by omega⟩⟩)
                              · intro h52
                                refine wk_goto r57_25 (wk_inc4 r57_57 rfl (wk_goto r57_60 (wk_il4 r57_5 (wk_c1 r57_7 ?_))))
                                refine wk_icgt r57_8 (by decide) (by decide) ?_ ?_
                                · intro h53
                                  exfalso
                                  omega
                                · intro h54
                                  refine wk_al0 r57_11 (wk_getfr r57_12 fd_739_5 (br_739_5 hP0) (wk_il1 r57_15 (wk_iald r57_16 ar_740 ⟨by omega, by omega⟩ e4 (wk_il4 r57_17 (wk_ishrc r57_19 ⟨by omega, by omega⟩ (by decide) pwl_4 (wk_c1 r57_20 (wk_iandc 1 2 r57_21 ⟨rfl, by decide⟩ rfl ?_)))))))
                                  refine wk_ifne r57_22 ⟨by omega, by omega⟩ ?_ ?_
                                  · intro h57
                                    refine wk_il3 r57_28 ?_
                                    refine wk_ifne r57_29 ⟨by omega, by omega⟩ ?_ ?_
                                    · intro h58
                                      refine wk_inc3 r57_35 rfl (wk_il4 r57_38 (wk_c1 r57_40 ?_))
                                      refine wk_iceq r57_41 (by decide) (by decide) ?_ ?_
                                      · intro h59
                                        exfalso
                                        omega
                                      · intro h60
                                        refine wk_goto r57_44 (wk_inc4 r57_57 rfl (wk_goto r57_60 (wk_il4 r57_5 (wk_c1 r57_7 ?_))))
                                        refine wk_icgt r57_8 (by decide) (by decide) ?_ ?_
                                        · intro h61
                                          refine wk_c1 r57_63 ?_
                                          subst hQ; exact wk_iret r57_64 (⟨rfl, _, rfl, hP0, hF0, by omega, by omega, by unfold cT; rw [e4]; exact ⟨fun q => by omega, fun q => by omega⟩⟩)
                                        · intro h62
                                          exfalso
                                          omega
                                    · intro h63
                                      refine wk_il4 r57_32 ?_
                                      subst hQ; exact wk_iret r57_34 (⟨rfl, _, rfl, hP0, hF0, by omega, by omega, by unfold cT; rw [e4]; exact ⟨fun q => by omega, fun q => by omega⟩⟩)
                                  · intro h64
                                    refine wk_goto r57_25 (wk_inc4 r57_57 rfl (wk_goto r57_60 (wk_il4 r57_5 (wk_c1 r57_7 ?_))))
                                    refine wk_icgt r57_8 (by decide) (by decide) ?_ ?_
                                    · intro h65
                                      refine wk_c1 r57_63 ?_
                                      subst hQ; exact wk_iret r57_64 (⟨rfl, _, rfl, hP0, hF0, by omega, by omega, by unfold cT; rw [e4]; exact ⟨fun q => by omega, fun q => by omega⟩⟩)
                                    · intro h66
                                      exfalso
                                      omega
                          · intro h67
                            refine wk_c2 r57_51 ?_
                            subst hQ; exact wk_iret r57_53 (⟨rfl, _, rfl, hP0, hF0, by omega, by omega, by unfold cT; rw [e4]; exact ⟨fun q => by omega, fun q => by omega⟩⟩)
                        · intro h68
                          exfalso
                          omega
                      · intro h69
                        refine wk_il4 r57_32 ?_
                        subst hQ; exact wk_iret r57_34 (⟨rfl, _, rfl, hP0, hF0, by omega, by omega, by unfold cT; rw [e4]; exact ⟨fun q => by omega, fun q => by omega⟩⟩)
                    · intro h70
                      refine wk_goto r57_25 (wk_inc4 r57_57 rfl (wk_goto r57_60 (wk_il4 r57_5 (wk_c1 r57_7 ?_))))
                      refine wk_icgt r57_8 (by decide) (by decide) ?_ ?_
                      · intro h71
                        exfalso
                        omega
                      · intro h72
                        refine wk_al0 r57_11 (wk_getfr r57_12 fd_739_5 (br_739_5 hP0) (wk_il1 r57_15 (wk_iald r57_16 ar_740 ⟨by omega, by omega⟩ e4 (wk_il4 r57_17 (wk_ishrc r57_19 ⟨by omega, by omega⟩ (by decide) pwl_3 (wk_c1 r57_20 (wk_iandc 1 2 r57_21 ⟨rfl, by decide⟩ rfl ?_)))))))
                        refine wk_ifne r57_22 ⟨by omega, by omega⟩ ?_ ?_
                        · intro h75
                          refine wk_il3 r57_28 ?_
                          refine wk_ifne r57_29 ⟨by omega, by omega⟩ ?_ ?_
                          · intro h76
                            refine wk_inc3 r57_35 rfl (wk_il4 r57_38 (wk_c1 r57_40 ?_))
                            refine wk_iceq r57_41 (by decide) (by decide) ?_ ?_
                            · intro h77
                              exfalso
                              omega
                            · intro h78
                              refine wk_goto r57_44 (wk_inc4 r57_57 rfl (wk_goto r57_60 (wk_il4 r57_5 (wk_c1 r57_7 ?_))))
                              refine wk_icgt r57_8 (by decide) (by decide) ?_ ?_
                              · intro h79
                                exfalso
                                omega
                              · intro h80
                                refine wk_al0 r57_11 (wk_getfr r57_12 fd_739_5 (br_739_5 hP0) (wk_il1 r57_15 (wk_iald r57_16 ar_740 ⟨by omega, by omega⟩ e4 (wk_il4 r57_17 (wk_ishrc r57_19 ⟨by omega, by omega⟩ (by decide) pwl_4 (wk_c1 r57_20 (wk_iandc 1 2 r57_21 ⟨rfl, by decide⟩ rfl ?_)))))))
                                refine wk_ifne r57_22 ⟨by omega, by omega⟩ ?_ ?_
                                · intro h83
                                  refine wk_il3 r57_28 ?_
                                  refine wk_ifne r57_29 ⟨by omega, by omega⟩ ?_ ?_
                                  · intro h84
                                    refine wk_inc3 r57_35 rfl (wk_il4 r57_38 (wk_c1 r57_40 ?_))
                                    refine wk_iceq r57_41 (by decide) (by decide) ?_ ?_
                                    · intro h85
                                      exfalso
                                      omega
                                    · intro h86
                                      refine wk_goto r57_44 (wk_inc4 r57_57 rfl (wk_goto r57_60 (wk_il4 r57_5 (wk_c1 r57_7 ?_))))
                                      refine wk_icgt r57_8 (by decide) (by decide) ?_ ?_
                                      · intro h87
                                        refine wk_c1 r57_63 ?_
                                        subst hQ; exact wk_iret r57_64 (⟨rfl, _, rfl, hP0, hF0, by omega, by omega, by unfold cT; rw [e4]; exact ⟨fun q => by omega, fun q => by omega⟩⟩)
                                      · intro h88
                                        exfalso
                                        omega
                                  · intro h89
                                    refine wk_il4 r57_32 ?_
                                    subst hQ; exact wk_iret r57_34 (⟨rfl, _, rfl, hP0, hF0, by omega, by omega, by unfold cT; rw [e4]; exact ⟨fun q => by omega, fun q => by omega⟩⟩)
                                · intro h90
                                  refine wk_goto r57_25 (wk_inc4 r57_57 rfl (wk_goto r57_60 (wk_il4 r57_5 (wk_c1 r57_7 ?_))))
                                  refine wk_icgt r57_8 (by decide) (by decide) ?_ ?_
                                  · intro h91
                                    refine wk_c1 r57_63 ?_
                                    subst hQ; exact wk_iret r57_64 (⟨rfl, _, rfl, hP0, hF0, by omega, by omega, by unfold cT; rw [e4]; exact ⟨fun q => by omega, fun q => by omega⟩⟩)
                                  · intro h92
                                    exfalso
                                    omega
                          · intro h93
                            refine wk_il4 r57_32 ?_
                            subst hQ; exact wk_iret r57_34 (⟨rfl, _, rfl, hP0, hF0, by omega, by omega, by unfold cT; rw [e4]; exact ⟨fun q => by omega, fun q => by omega⟩⟩)
                        · intro h94
                          refine wk_goto r57_25 (wk_inc4 r57_57 rfl (wk_goto r57_60 (wk_il4 r57_5 (wk_c1 r57_7 ?_))))
                          refine wk_icgt r57_8 (by decide) (by decide) ?_ ?_
                          · intro h95
                            exfalso
                            omega
                          · intro h96
                            refine wk_al0 r57_11 (wk_getfr r57_12 fd_739_5 (br_739_5 hP0) (wk_il1 r57_15 (wk_iald r57_16 ar_740 ⟨by omega, by omega⟩ e4 (wk_il4 r57_17 (wk_ishrc r57_19 ⟨by omega, by omega⟩ (by decide) pwl_4 (wk_c1 r57_20 (wk_iandc 1 2 r57_21 ⟨rfl, by decide⟩ rfl ?_)))))))
                            refine wk_ifne r57_22 ⟨by omega, by omega⟩ ?_ ?_
                            · intro h99
                              refine wk_il3 r57_28 ?_
                              refine wk_ifne r57_29 ⟨by omega, by omega⟩ ?_ ?_
                              · intro h100
                                refine wk_inc3 r57_35 rfl (wk_il4 r57_38 (wk_c1 r57_40 ?_))
                                refine wk_iceq r57_41 (by decide) (by decide) ?_ ?_
                                · intro h101
                                  exfalso
                                  omega
                                · intro h102
                                  refine wk_goto r57_44 (wk_inc4 r57_57 rfl (wk_goto r57_60 (wk_il4 r57_5 (wk_c1 r57_7 ?_))))
                                  refine wk_icgt r57_8 (by decide) (by decide) ?_ ?_
                                  · intro h103
                                    refine wk_c1 r57_63 ?_
                                    subst hQ; exact wk_iret r57_64 (⟨rfl, _, rfl, hP0, hF0, by omega, by omega, by unfold cT; rw [e4]; exact ⟨fun q => by omega, fun q => by omega⟩⟩)
                                  · intro h104
                                    exfalso
                                    omega
                              · intro h105
                                refine wk_il4 r57_32 ?_
                                subst hQ; exact wk_iret r57_34 (⟨rfl, _, rfl, hP0, hF0, by omega, by omega, by unfold cT; rw [e4]; exact ⟨fun q => by omega, fun q => by omega⟩⟩)
                            · intro h106
                              refine wk_goto r57_25 (wk_inc4 r57_57 rfl (wk_goto r57_60 (wk_il4 r57_5 (wk_c1 r57_7 ?_))))
                              refine wk_icgt r57_8 (by decide) (by decide) ?_ ?_
                              · intro h107
                                refine wk_c1 r57_63 ?_
                                subst hQ; exact wk_iret r57_64 (⟨rfl, _, rfl, hP0, hF0, by omega, by omega, by unfold cT; rw [e4]; exact ⟨fun q => by omega, fun q => by omega⟩⟩)
                              · intro h108
                                exfalso
                                omega
              · intro h109
                refine wk_il4 r57_32 ?_
                subst hQ; exact wk_iret r57_34 (⟨rfl, _, rfl, hP0, hF0, by omega, by omega, by unfold cT; rw [e4]; exact ⟨fun q => by omega, fun q => by omega⟩⟩)
            · intro h110
              refine wk_goto r57_25 (wk_inc4 r57_57 rfl (wk_goto r57_60 (wk_il4 r57_5 (wk_c1 r57_7 ?_))))
              refine wk_icgt r57_8 (by decide) (by decide) ?_ ?_
              · intro h111
                exfalso
                omega
              · intro h112
                refine wk_al0 r57_11 (wk_getfr r57_12 fd_739_5 (br_739_5 hP0) (wk_il1 r57_15 (wk_iald r57_16 ar_740 ⟨by omega, by omega⟩ e4 (wk_il4 r57_17 (wk_ishrc r57_19 ⟨by omega, by omega⟩ (by decide) pwl_2 (wk_c1 r57_20 (wk_iandc 1 2 r57_21 ⟨rfl, by decide⟩ rfl ?_)))))))
                refine wk_ifne r57_22 ⟨by omega, by omega⟩ ?_ ?_
                · intro h115
                  refine wk_il3 r57_28 ?_
                  refine wk_ifne r57_29 ⟨by omega, by omega⟩ ?_ ?_
                  · intro h116
                    refine wk_inc3 r57_35 rfl (wk_il4 r57_38 (wk_c1 r57_40 ?_))
                    refine wk_iceq r57_41 (by decide) (by decide) ?_ ?_
                    · intro h117
                      refine wk_il3 r57_47 ?_
                      refine wk_ifne r57_48 ⟨by omega, by omega⟩ ?_ ?_
                      · intro h118
                        refine wk_inc3 r57_54 rfl (wk_inc4 r57_57 rfl (wk_goto r57_60 (wk_il4 r57_5 (wk_c1 r57_7 ?_))))
                        refine wk_icgt r57_8 (by decide) (by decide) ?_ ?_
                        · intro h119
                          exfalso
                          omega
                        · intro h120
                          refine wk_al0 r57_11 (wk_getfr r57_12 fd_739_5 (br_739_5 hP0) (wk_il1 r57_15 (wk_iald r57_16 ar_740 ⟨by omega, by omega⟩ e4 (wk_il4 r57_17 (wk_ishrc r57_19 ⟨by omega, by omega⟩ (by decide) pwl_3 (wk_c1 r57_20 (wk_iandc 1 2 r57_21 ⟨rfl, by decide⟩ rfl ?_)))))))
                          refine wk_ifne r57_22 ⟨by omega, by omega⟩ ?_ ?_
                          · intro h123
                            refine wk_il3 r57_28 ?_
                            refine wk_ifne r57_29 ⟨by omega, by omega⟩ ?_ ?_
                            · intro h124
                              refine wk_inc3 r57_35 rfl (wk_il4 r57_38 (wk_c1 r57_40 ?_))
                              refine wk_iceq r57_41 (by decide) (by decide) ?_ ?_
                              · intro h125
                                exfalso
                                omega
                              · intro h126
                                refine wk_goto r57_44 (wk_inc4 r57_57 rfl (wk_goto r57_60 (wk_il4 r57_5 (wk_c1 r57_7 ?_))))
                                refine wk_icgt r57_8 (by decide) (by decide) ?_ ?_
                                · intro h127
                                  exfalso
                                  omega
                                · intro h128
                                  refine wk_al0 r57_11 (wk_getfr r57_12 fd_739_5 (br_739_5 hP0) (wk_il1 r57_15 (wk_iald r57_16 ar_740 ⟨by omega, by omega⟩ e4 (wk_il4 r57_17 (wk_ishrc r57_19 ⟨by omega, by omega⟩ (by decide) pwl_4 (wk_c1 r57_20 (wk_iandc 1 2 r57_21 ⟨rfl, by decide⟩ rfl ?_)))))))
                                  refine wk_ifne r57_22 ⟨by omega, by omega⟩ ?_ ?_
                                  · intro h131
                                    refine wk_il3 r57_28 ?_
                                    refine wk_ifne r57_29 ⟨by omega, by omega⟩ ?_ ?_
                                    · intro h132
                                      refine wk_inc3 r57_35 rfl (wk_il4 r57_38 (wk_c1 r57_40 ?_))
                                      refine wk_iceq r57_41 (by decide) (by decide) ?_ ?_
                                      · intro h133
                                        exfalso
                                        omega
                                      · intro h134
                                        refine wk_goto r57_44 (wk_inc4 r57_57 rfl (wk_goto r57_60 (wk_il4 r57_5 (wk_c1 r57_7 ?_))))
                                        refine wk_icgt r57_8 (by decide) (by decide) ?_ ?_
                                        · intro h135
                                          refine wk_c1 r57_63 ?_
                                          subst hQ; exact wk_iret r57_64 (⟨rfl, _, rfl, hP0, hF0, by omega, by omega, by unfold cT; rw [e4]; exact ⟨fun q => by omega, fun q => by omega⟩⟩)
                                        · intro h136
                                          exfalso
                                          omega
                                    · intro h137
                                      refine wk_il4 r57_32 ?_
                                      subst hQ; exact wk_iret r57_34 (⟨rfl, _, rfl, hP0, hF0, by omega, by omega, by unfold cT; rw [e4]; exact ⟨fun q => by omega, fun q => by omega⟩⟩)
                                  · intro h138
                                    refine wk_goto r57_25 (wk_inc4 r57_57 rfl (wk_goto r57_60 (wk_il4 r57_5 (wk_c1 r57_7 ?_))))
                                    refine wk_icgt r57_8 (by decide) (by decide) ?_ ?_
                                    · intro h139
                                      refine wk_c1 r57_63 ?_
                                      subst hQ; exact wk_iret r57_64 (⟨rfl, _, rfl, hP0, hF0, by omega, by omega, by unfold cT; rw [e4]; exact ⟨fun q => by omega, fun q => by omega⟩⟩)
                                    · intro h140
                                      exfalso
                                      omega
                            · intro h141
                              refine wk_il4 r57_32 ?_
                              subst hQ; exact wk_iret r57_34 (⟨rfl, _, rfl, hP0, hF0, by omega, by omega, by unfold cT; rw [e4]; exact ⟨fun q => by omega, fun q => by omega⟩⟩)
                          · intro h142
                            refine wk_goto r57_25 (wk_inc4 r57_57 rfl (wk_goto r57_60 (wk_il4 r57_5 (wk_c1 r57_7 ?_))))
                            refine wk_icgt r57_8 (by decide) (by decide) ?_ ?_
                            · intro h143
                              exfalso
                              omega
                            · intro h144
                              refine wk_al0 r57_11 (wk_getfr r57_12 fd_739_5 (br_739_5 hP0) (wk_il1 r57_15 (wk_iald r57_16 ar_740 ⟨by omega, by omega⟩ e4 (wk_il4 r57_17 (wk_ishrc r57_19 ⟨by omega, by omega⟩ (by decide) pwl_4 (wk_c1 r57_20 (wk_iandc 1 2 r57_21 ⟨rfl, by decide⟩ rfl ?_)))))))
                              refine wk_ifne r57_22 ⟨by omega, by omega⟩ ?_ ?_
                              · intro h147
                                refine wk_il3 r57_28 ?_
                                refine wk_ifne r57_29 ⟨by omega, by omega⟩ ?_ ?_
                                · intro h148
                                  refine wk_inc3 r57_35 rfl (wk_il4 r57_38 (wk_c1 r57_40 ?_))
                                  refine wk_iceq r57_41 (by decide) (by decide) ?_ ?_
                                  · intro h149
                                    exfalso
                                    omega
                                  · intro h150
                                    refine wk_goto r57_44 (wk_inc4 r57_57 rfl (wk_goto r57_60 (wk_il4 r57_5 (wk_c1 r57_7 ?_))))
                                    refine wk_icgt r57_8 (by decide) (by decide) ?_ ?_
                                    · intro h151
                                      refine wk_c1 r57_63 ?_
                                      subst hQ; exact wk_iret r57_64 (⟨rfl, _, rfl, hP0, hF0, by omega, by omega, by unfold cT; rw [e4]; exact ⟨fun q => by omega, fun q => by omega⟩⟩)
                                    · intro h152
                                      exfalso
                                      omega
                                · intro h153
                                  refine wk_il4 r57_32 ?_
                                  subst hQ; exact wk_iret r57_34 (⟨rfl, _, rfl, hP0, hF0, by omega, by omega, by unfold cT; rw [e4]; exact ⟨fun q => by omega, fun q => by omega⟩⟩)
                              · intro h154
                                refine wk_goto r57_25 (wk_inc4 r57_57 rfl (wk_goto r57_60 (wk_il4 r57_5 (wk_c1 r57_7 ?_))))
                                refine wk_icgt r57_8 (by decide) (by decide) ?_ ?_
                                · intro h155
                                  refine wk_c1 r57_63 ?_
                                  subst hQ; exact wk_iret r57_64 (⟨rfl, _, rfl, hP0, hF0, by omega, by omega, by unfold cT; rw [e4]; exact ⟨fun q => by omega, fun q => by omega⟩⟩)
                                · intro h156
                                  exfalso
                                  omega
                      · intro h157
                        refine wk_c2 r57_51 ?_
                        subst hQ; exact wk_iret r57_53 (⟨rfl, _, rfl, hP0, hF0, by omega, by omega, by unfold cT; rw [e4]; exact ⟨fun q => by omega, fun q => by omega⟩⟩)
                    · intro h158
                      exfalso
                      omega
                  · intro h159
                    refine wk_il4 r57_32 ?_
                    subst hQ; exact wk_iret r57_34 (⟨rfl, _, rfl, hP0, hF0, by omega, by omega, by unfold cT; rw [e4]; exact ⟨fun q => by omega, fun q => by omega⟩⟩)
                · intro h160
                  refine wk_goto r57_25 (wk_inc4 r57_57 rfl (wk_goto r57_60 (wk_il4 r57_5 (wk_c1 r57_7 ?_))))
                  refine wk_icgt r57_8 (by decide) (by decide) ?_ ?_
                  · intro h161
                    exfalso
                    omega
                  · intro h162
                    refine wk_al0 r57_11 (wk_getfr r57_12 fd_739_5 (br_739_5 hP0) (wk_il1 r57_15 (wk_iald r57_16 ar_740 ⟨by omega, by omega⟩ e4 (wk_il4 r57_17 (wk_ishrc r57_19 ⟨by omega, by omega⟩ (by decide) pwl_3 (wk_c1 r57_20 (wk_iandc 1 2 r57_21 ⟨rfl, by decide⟩ rfl ?_)))))))
                    refine wk_ifne r57_22 ⟨by omega, by omega⟩ ?_ ?_
                    · intro h165
                      refine wk_il3 r57_28 ?_
                      refine wk_ifne r57_29 ⟨by omega, by omega⟩ ?_ ?_
                      · intro h166
                        refine wk_inc3 r57_35 rfl (wk_il4 r57_38 (wk_c1 r57_40 ?_))
                        refine wk_iceq r57_41 (by decide) (by decide) ?_ ?_
                        · intro h167
                          exfalso
                          omega
                        · intro h168
                          refine wk_goto r57_44 (wk_inc4 r57_57 rfl (wk_goto r57_60 (wk_il4 r57_5 (wk_c1 r57_7 ?_))))
                          refine wk_icgt r57_8 (by decide) (by decide) ?_ ?_
                          · intro h169
                            exfalso
                            omega
                          · intro h170
                            refine wk_al0 r57_11 (wk_getfr r57_12 fd_739_5 (br_739_5 hP0) (wk_il1 r57_15 (wk_iald r57_16 ar_740 ⟨by omega, by omega⟩ e4 (wk_il4 r57_17 (wk_ishrc r57_19 ⟨by omega, by omega⟩ (by decide) pwl_4 (wk_c1 r57_20 (wk_iandc 1 2 r57_21 ⟨rfl, by decide⟩ rfl ?_)))))))
                            refine wk_ifne r57_22 ⟨by omega, by omega⟩ ?_ ?_
                            · intro h173
                              refine wk_il3 r57_28 ?_
                              refine wk_ifne r57_29 ⟨by omega, by omega⟩ ?_ ?_
                              · intro h174
                                refine wk_inc3 r57_35 rfl (wk_il4 r57_38 (wk_c1 r57_40 ?_))
                                refine wk_iceq r57_41 (by decide) (by decide) ?_ ?_
                                · intro h175
                                  exfalso
                                  omega
                                · intro h176
                                  refine wk_goto r57_44 (wk_inc4 r57_57 rfl (wk_goto r57_60 (wk_il4 r57_5 (wk_c1 r57_7 ?_))))
                                  refine wk_icgt r57_8 (by decide) (by decide) ?_ ?_
                                  · intro h177
                                    refine wk_c1 r57_63 ?_
                                    subst hQ; exact wk_iret r57_64 (⟨rfl, _, rfl, hP0, hF0, by omega, by omega, by unfold cT; rw [e4]; exact ⟨fun q => by omega, fun q => by omega⟩⟩)
                                  · intro h178
                                    exfalso
                                    omega
                              · intro h179
                                refine wk_il4 r57_32 ?_
                                subst hQ; exact wk_iret r57_34 (⟨rfl, _, rfl, hP0, hF0, by omega, by omega, by unfold cT; rw [e4]; exact ⟨fun q => by omega, fun q => by omega⟩⟩)
                            · intro h180
                              refine wk_goto r57_25 (wk_inc4 r57_57 rfl (wk_goto r57_60 (wk_il4 r57_5 (wk_c1 r57_7 ?_))))
                              refine wk_icgt r57_8 (by decide) (by decide) ?_ ?_
                              · intro h181
                                refine wk_c1 r57_63 ?_
                                subst hQ; exact wk_iret r57_64 (⟨rfl, _, rfl, hP0, hF0, by omega, by omega, by unfold cT; rw [e4]; exact ⟨fun q => by omega, fun q => by omega⟩⟩)
                              · intro h182
                                exfalso
                                omega
                      · intro h183
                        refine wk_il4 r57_32 ?_
                        subst hQ; exact wk_iret r57_34 (⟨rfl, _, rfl, hP0, hF0, by omega, by omega, by unfold cT; rw [e4]; exact ⟨fun q => by omega, fun q => by omega⟩⟩)
                    · intro h184
                      refine wk_goto r57_25 (wk_inc4 r57_57 rfl (wk_goto r57_60 (wk_il4 r57_5 (wk_c1 r57_7 ?_))))
                      refine wk_icgt r57_8 (by decide) (by decide) ?_ ?_
                      · intro h185
                        exfalso
                        omega
                      · intro h186
                        refine wk_al0 r57_11 (wk_getfr r57_12 fd_739_5 (br_739_5 hP0) (wk_il1 r57_15 (wk_iald r57_16 ar_740 ⟨by omega, by omega⟩ e4 (wk_il4 r57_17 (wk_ishrc r57_19 ⟨by omega, by omega⟩ (by decide) pwl_4 (wk_c1 r57_20 (wk_iandc 1 2 r57_21 ⟨rfl, by decide⟩ rfl ?_)))))))
                        refine wk_ifne r57_22 ⟨by omega, by omega⟩ ?_ ?_
                        · intro h189
                          refine wk_il3 r57_28 ?_
                          refine wk_ifne r57_29 ⟨by omega, by omega⟩ ?_ ?_
                          · intro h190
                            refine wk_inc3 r57_35 rfl (wk_il4 r57_38 (wk_c1 r57_40 ?_))
                            refine wk_iceq r57_41 (by decide) (by decide) ?_ ?_
                            · intro h191
                              exfalso
                              omega
                            · intro h192
                              refine wk_goto r57_44 (wk_inc4 r57_57 rfl (wk_goto r57_60 (wk_il4 r57_5 (wk_c1 r57_7 ?_))))
                              refine wk_icgt r57_8 (by decide) (by decide) ?_ ?_
                              · intro h193
                                refine wk_c1 r57_63 ?_
                                subst hQ; exact wk_iret r57_64 (⟨rfl, _, rfl, hP0, hF0, by omega, by omega, by unfold cT; rw [e4]; exact ⟨fun q => by omega, fun q => by omega⟩⟩)
                              · intro h194
                                exfalso
                                omega
                          · intro h195
                            refine wk_il4 r57_32 ?_
                            subst hQ; exact wk_iret r57_34 (⟨rfl, _, rfl, hP0, hF0, by omega, by omega, by unfold cT; rw [e4]; exact ⟨fun q => by omega, fun q => by omega⟩⟩)
                        · intro h196
                          refine wk_goto r57_25 (wk_inc4 r57_57 rfl (wk_goto r57_60 (wk_il4 r57_5 (wk_c1 r57_7 ?_))))
                          refine wk_icgt r57_8 (by decide) (by decide) ?_ ?_
                          · intro h197
                            refine wk_c1 r57_63 ?_
                            subst hQ; exact wk_iret r57_64 (⟨rfl, _, rfl, hP0, hF0, by omega, by omega, by unfold cT; rw [e4]; exact ⟨fun q => by omega, fun q => by omega⟩⟩)
                          · intro h198
                            exfalso
                            omega
      · intro h199
        refine wk_il4 r57_32 ?_
        subst hQ; exact wk_iret r57_34 (⟨rfl, _, rfl, hP0, hF0, by omega, by omega, by unfold cT; rw [e4]; exact ⟨fun q => by omega, fun q => by omega⟩⟩)
    · intro h200
      refine wk_goto r57_25 (wk_inc4 r57_57 rfl (wk_goto r57_60 (wk_il4 r57_5 (wk_c1 r57_7 ?_))))
      refine wk_icgt r57_8 (by decide) (by decide) ?_ ?_
      · intro h201
        exfalso
        omega
      · intro h202
        refine wk_al0 r57_11 (wk_getfr r57_12 fd_739_5 (br_739_5 hP0) (wk_il1 r57_15 (wk_iald r57_16 ar_740 ⟨by omega, by omega⟩ e4 (wk_il4 r57_17 (wk_ishrc r57_19 ⟨by omega, by omega⟩ (by decide) pwl_1 (wk_c1 r57_20 (wk_iandc 1 2 r57_21 ⟨rfl, by decide⟩ rfl ?_)))))))
        refine wk_ifne r57_22 ⟨by omega, by omega⟩ ?_ ?_
        · intro h205
          refine wk_il3 r57_28 ?_
          refine wk_ifne r57_29 ⟨by omega, by omega⟩ ?_ ?_
          · intro h206
            refine wk_inc3 r57_35 rfl (wk_il4 r57_38 (wk_c1 r57_40 ?_))
            refine wk_iceq r57_41 (by decide) (by decide) ?_ ?_
            · intro h207
              exfalso
              omega
            · intro h208
              refine wk_goto r57_44 (wk_inc4 r57_57 rfl (wk_goto r57_60 (wk_il4 r57_5 (wk_c1 r57_7 ?_))))
              refine wk_icgt r57_8 (by decide) (by decide) ?_ ?_
              · intro h209
                exfalso
                omega
              · intro h210
                refine wk_al0 r57_11 (wk_getfr r57_12 fd_739_5 (br_739_5 hP0) (wk_il1 r57_15 (wk_iald r57_16 ar_740 ⟨by omega, by omega⟩ e4 (wk_il4 r57_17 (wk_ishrc r57_19 ⟨by omega, by omega⟩ (by decide) pwl_2 (wk_c1 r57_20 (wk_iandc 1 2 r57_21 ⟨rfl, by decide⟩ rfl ?_)))))))
                refine wk_ifne r57_22 ⟨by omega, by omega⟩ ?_ ?_
                · intro h213
                  refine wk_il3 r57_28 ?_
                  refine wk_ifne r57_29 ⟨by omega, by omega⟩ ?_ ?_
                  · intro h214
                    refine wk_inc3 r57_35 rfl (wk_il4 r57_38 (wk_c1 r57_40 ?_))
                    refine wk_iceq r57_41 (by decide) (by decide) ?_ ?_
                    · intro h215
                      refine wk_il3 r57_47 ?_
                      refine wk_ifne r57_48 ⟨by omega, by omega⟩ ?_ ?_
                      · intro h216
                        refine wk_inc3 r57_54 rfl (wk_inc4 r57_57 rfl (wk_goto r57_60 (wk_il4 r57_5 (wk_c1 r57_7 ?_))))
                        refine wk_icgt r57_8 (by decide) (by decide) ?_ ?_
                        · intro h217
                          exfalso
                          omega
                        · intro h218
                          refine wk_al0 r57_11 (wk_getfr r57_12 fd_739_5 (br_739_5 hP0) (wk_il1 r57_15 (wk_iald r57_16 ar_740 ⟨by omega, by omega⟩ e4 (wk_il4 r57_17 (wk_ishrc r57_19 ⟨by omega, by omega⟩ (by decide) pwl_3 (wk_c1 r57_20 (wk_iandc 1 2 r57_21 ⟨rfl, by decide⟩ rfl ?_)))))))
                          refine wk_ifne r57_22 ⟨by omega, by omega⟩ ?_ ?_
                          · intro h221
                            refine wk_il3 r57_28 ?_
                            refine wk_ifne r57_29 ⟨by omega, by omega⟩ ?_ ?_
                            · intro h222
                              refine wk_inc3 r57_35 rfl (wk_il4 r57_38 (wk_c1 r57_40 ?_))
                              refine wk_iceq r57_41 (by decide) (by decide) ?_ ?_
                              · intro h223
                                exfalso
                                omega
                              · intro h224
                                refine wk_goto r57_44 (wk_inc4 r57_57 rfl (wk_goto r57_60 (wk_il4 r57_5 (wk_c1 r57_7 ?_))))
                                refine wk_icgt r57_8 (by decide) (by decide) ?_ ?_
                                · intro h225
                                  exfalso
                                  omega
                                · intro h226
                                  refine wk_al0 r57_11 (wk_getfr r57_12 fd_739_5 (br_739_5 hP0) (wk_il1 r57_15 (wk_iald r57_16 ar_740 ⟨by omega, by omega⟩ e4 (wk_il4 r57_17 (wk_ishrc r57_19 ⟨by omega, by omega⟩ (by decide) pwl_4 (wk_c1 r57_20 (wk_iandc 1 2 r57_21 ⟨rfl, by decide⟩ rfl ?_)))))))
                                  refine wk_ifne r57_22 ⟨by omega, by omega⟩ ?_ ?_
                                  · intro h229
                                    refine wk_il3 r57_28 ?_
                                    refine wk_ifne r57_29 ⟨by omega, by omega⟩ ?_ ?_
                                    · intro h230
                                      refine wk_inc3 r57_35 rfl (wk_il4 r57_38 (wk_c1 r57_40 ?_))
                                      refine wk_iceq r57_41 (by decide) (by decide) ?_ ?_
                                      · intro h231
                                        exfalso
                                        omega
                                      · intro h232
                                        refine wk_goto r57_44 (wk_inc4 r57_57 rfl (wk_goto r57_60 (wk_il4 r57_5 (wk_c1 r57_7 ?_))))
                                        refine wk_icgt r57_8 (by decide) (by decide) ?_ ?_
                                        · intro h233
                                          refine wk_c1 r57_63 ?_
                                          subst hQ; exact wk_iret r57_64 (⟨rfl, _, rfl, hP0, hF0, by omega, by omega, by unfold cT; rw [e4]; exact ⟨fun q => by omega, fun q => by omega⟩⟩)
                                        · intro h234
                                          exfalso
                                          omega
                                    · intro h235
                                      refine wk_il4 r57_32 ?_
                                      subst hQ; exact wk_iret r57_34 (⟨rfl, _, rfl, hP0, hF0, by omega, by omega, by unfold cT; rw [e4]; exact ⟨fun q => by omega, fun q => by omega⟩⟩)
                                  · intro h236
                                    refine wk_goto r57_25 (wk_inc4 r57_57 rfl (wk_goto r57_60 (wk_il4 r57_5 (wk_c1 r57_7 ?_))))
                                    refine wk_icgt r57_8 (by decide) (by decide) ?_ ?_
                                    · intro h237
                                      refine wk_c1 r57_63 ?_
                                      subst hQ; exact wk_iret r57_64 (⟨rfl, _, rfl, hP0, hF0, by omega, by omega, by unfold cT; rw [e4]; exact ⟨fun q => by omega, fun q => by omega⟩⟩)
                                    · intro h238
                                      exfalso
                                      omega
                            · intro h239
                              refine wk_il4 r57_32 ?_
                              subst hQ; exact wk_iret r57_34 (⟨rfl, _, rfl, hP0, hF0, by omega, by omega, by unfold cT; rw [e4]; exact ⟨fun q => by omega, fun q => by omega⟩⟩)
                          · intro h240
                            refine wk_goto r57_25 (wk_inc4 r57_57 rfl (wk_goto r57_60 (wk_il4 r57_5 (wk_c1 r57_7 ?_))))
                            refine wk_icgt r57_8 (by decide) (by decide) ?_ ?_
                            · intro h241
                              exfalso
                              omega
                            · intro h242
                              refine wk_al0 r57_11 (wk_getfr r57_12 fd_739_5 (br_739_5 hP0) (wk_il1 r57_15 (wk_iald r57_16 ar_740 ⟨by omega, by omega⟩ e4 (wk_il4 r57_17 (wk_ishrc r57_19 ⟨by omega, by omega⟩ (by decide) pwl_4 (wk_c1 r57_20 (wk_iandc 1 2 r57_21 ⟨rfl, by decide⟩ rfl ?_)))))))
                              refine wk_ifne r57_22 ⟨by omega, by omega⟩ ?_ ?_
                              · intro h245
                                refine wk_il3 r57_28 ?_
                                refine wk_ifne r57_29 ⟨by omega, by omega⟩ ?_ ?_
                                · intro h246
                                  refine wk_inc3 r57_35 rfl (wk_il4 r57_38 (wk_c1 r57_40 ?_))
                                  refine wk_iceq r57_41 (by decide) (by decide) ?_ ?_
                                  · intro h247
                                    exfalso
                                    omega
                                  · intro h248
                                    refine wk_goto r57_44 (wk_inc4 r57_57 rfl (wk_goto r57_60 (wk_il4 r57_5 (wk_c1 r57_7 ?_))))
                                    refine wk_icgt r57_8 (by decide) (by decide) ?_ ?_
                                    · intro h249
                                      refine wk_c1 r57_63 ?_
                                      subst hQ; exact wk_iret r57_64 (⟨rfl, _, rfl, hP0, hF0, by omega, by omega, by unfold cT; rw [e4]; exact ⟨fun q => by omega, fun q => by omega⟩⟩)
                                    · intro h250
                                      exfalso
                                      omega
                                · intro h251
                                  refine wk_il4 r57_32 ?_
                                  subst hQ; exact wk_iret r57_34 (⟨rfl, _, rfl, hP0, hF0, by omega, by omega, by unfold cT; rw [e4]; exact ⟨fun q => by omega, fun q => by omega⟩⟩)
                              · intro h252
                                refine wk_goto r57_25 (wk_inc4 r57_57 rfl (wk_goto r57_60 (wk_il4 r57_5 (wk_c1 r57_7 ?_))))
                                refine wk_icgt r57_8 (by decide) (by decide) ?_ ?_
                                · intro h253
                                  refine wk_c1 r57_63 ?_
                                  subst hQ; exact wk_iret r57_64 (⟨rfl, _, rfl, hP0, hF0, by omega, by omega, by unfold cT; rw [e4]; exact ⟨fun q => by omega, fun q => by omega⟩⟩)
                                · intro h254
                                  exfalso
                                  omega
                      · intro h255
                        refine wk_c2 r57_51 ?_
                        subst hQ; exact wk_iret r57_53 (⟨rfl, _, rfl, hP0, hF0, by omega, by omega, by unfold cT; rw [e4]; exact ⟨fun q => by omega, fun q => by omega⟩⟩)
                    · intro h256
                      exfalso
                      omega
                  · intro h257
                    refine wk_il4 r57_32 ?_
                    subst hQ; exact wk_iret r57_34 (⟨rfl, _, rfl, hP0, hF0, by omega, by omega, by unfold cT; rw [e4]; exact ⟨fun q => by omega, fun q => by omega⟩⟩)
                · intro h258
                  refine wk_goto r57_25 (wk_inc4 r57_57 rfl (wk_goto r57_60 (wk_il4 r57_5 (wk_c1 r57_7 ?_))))
                  refine wk_icgt r57_8 (by decide) (by decide) ?_ ?_
                  · intro h259
                    exfalso
                    omega
                  · intro h260
                    refine wk_al0 r57_11 (wk_getfr r57_12 fd_739_5 (br_739_5 hP0) (wk_il1 r57_15 (wk_iald r57_16 ar_740 ⟨by omega, by omega⟩ e4 (wk_il4 r57_17 (wk_ishrc r57_19 ⟨by omega, by omega⟩ (by decide) pwl_3 (wk_c1 r57_20 (wk_iandc 1 2 r57_21 ⟨rfl, by decide⟩ rfl ?_)))))))
                    refine wk_ifne r57_22 ⟨by omega, by omega⟩ ?_ ?_
                    · intro h263
                      refine wk_il3 r57_28 ?_
                      refine wk_ifne r57_29 ⟨by omega, by omega⟩ ?_ ?_
                      · intro h264
                        refine wk_inc3 r57_35 rfl (wk_il4 r57_38 (wk_c1 r57_40 ?_))
                        refine wk_iceq r57_41 (by decide) (by decide) ?_ ?_
                        · intro h265
                          exfalso
                          omega
                        · intro h266
                          refine wk_goto r57_44 (wk_inc4 r57_57 rfl (wk_goto r57_60 (wk_il4 r57_5 (wk_c1 r57_7 ?_))))
                          refine wk_icgt r57_8 (by decide) (by decide) ?_ ?_
                          · intro h267
                            exfalso
                            omega
                          · intro h268
                            refine wk_al0 r57_11 (wk_getfr r57_12 fd_739_5 (br_739_5 hP0) (wk_il1 r57_15 (wk_iald r57_16 ar_740 ⟨by omega, by omega⟩ e4 (wk_il4 r57_17 (wk_ishrc r57_19 ⟨by omega, by omega⟩ (by decide) pwl_4 (wk_c1 r57_20 (wk_iandc 1 2 r57_21 ⟨rfl, by decide⟩ rfl ?_)))))))
                            refine wk_ifne r57_22 ⟨by omega, by omega⟩ ?_ ?_
                            · intro h271
                              refine wk_il3 r57_28 ?_
                              refine wk_ifne r57_29 ⟨by omega, by omega⟩ ?_ ?_
                              · intro h272
                                refine wk_inc3 r57_35 rfl (wk_il4 r57_38 (wk_c1 r57_40 ?_))
                                refine wk_iceq r57_41 (by decide) (by decide) ?_ ?_
                                · intro h273
                                  exfalso
                                  omega
                                · intro h274
                                  refine wk_goto r57_44 (wk_inc4 r57_57 rfl (wk_goto r57_60 (wk_il4 r57_5 (wk_c1 r57_7 ?_))))
                                  refine wk_icgt r57_8 (by decide) (by decide) ?_ ?_
                                  · intro h275
                                    refine wk_c1 r57_63 ?_
                                    subst hQ; exact wk_iret r57_64 (⟨rfl, _, rfl, hP0, hF0, by omega, by omega, by unfold cT; rw [e4]; exact ⟨fun q => by omega, fun q => by omega⟩⟩)
                                  · intro h276
                                    exfalso
                                    omega
                              · intro h277
                                refine wk_il4 r57_32 ?_
                                subst hQ; exact wk_iret r57_34 (⟨rfl, _, rfl, hP0, hF0, by omega, by omega, by unfold cT; rw [e4]; exact ⟨fun q => by omega, fun q => by omega⟩⟩)
                            · intro h278
                              refine wk_goto r57_25 (wk_inc4 r57_57 rfl (wk_goto r57_60 (wk_il4 r57_5 (wk_c1 r57_7 ?_))))
                              refine wk_icgt r57_8 (by decide) (by decide) ?_ ?_
                              · intro h279
                                refine wk_c1 r57_63 ?_
                                subst hQ; exact wk_iret r57_64 (⟨rfl, _, rfl, hP0, hF0, by omega, by omega, by unfold cT; rw [e4]; exact ⟨fun q => by omega, fun q => by omega⟩⟩)
                              · intro h280
                                exfalso
                                omega
                      · intro h281
                        refine wk_il4 r57_32 ?_
                        subst hQ; exact wk_iret r57_34 (⟨rfl, _, rfl, hP0, hF0, by omega, by omega, by unfold cT; rw [e4]; exact ⟨fun q => by omega, fun q => by omega⟩⟩)
                    · intro h282
                      refine wk_goto r57_25 (wk_inc4 r57_57 rfl (wk_goto r57_60 (wk_il4 r57_5 (wk_c1 r57_7 ?_))))
                      refine wk_icgt r57_8 (by decide) (by decide) ?_ ?_
                      · intro h283
                        exfalso
                        omega
                      · intro h284
                        refine wk_al0 r57_11 (wk_getfr r57_12 fd_739_5 (br_739_5 hP0) (wk_il1 r57_15 (wk_iald r57_16 ar_740 ⟨by omega, by omega⟩ e4 (wk_il4 r57_17 (wk_ishrc r57_19 ⟨by omega, by omega⟩ (by decide) pwl_4 (wk_c1 r57_20 (wk_iandc 1 2 r57_21 ⟨rfl, by decide⟩ rfl ?_)))))))
                        refine wk_ifne r57_22 ⟨by omega, by omega⟩ ?_ ?_
                        · intro h287
                          refine wk_il3 r57_28 ?_
                          refine wk_ifne r57_29 ⟨by omega, by omega⟩ ?_ ?_
                          · intro h288
                            refine wk_inc3 r57_35 rfl (wk_il4 r57_38 (wk_c1 r57_40 ?_))
                            refine wk_iceq r57_41 (by decide) (by decide) ?_ ?_
                            · intro h289
                              exfalso
                              omega
                            · intro h290
                              refine wk_goto r57_44 (wk_inc4 r57_57 rfl (wk_goto r57_60 (wk_il4 r57_5 (wk_c1 r57_7 ?_))))
                              refine wk_icgt r57_8 (by decide) (by decide) ?_ ?_
                              · intro h291
                                refine wk_c1 r57_63 ?_
                                subst hQ; exact wk_iret r57_64 (⟨rfl, _, rfl, hP0, hF0, by omega, by omega, by unfold cT; rw [e4]; exact ⟨fun q => by omega, fun q => by omega⟩⟩)
                              · intro h292
                                exfalso
                                omega
                          · intro h293
                            refine wk_il4 r57_32 ?_
                            subst hQ; exact wk_iret r57_34 (⟨rfl, _, rfl, hP0, hF0, by omega, by omega, by unfold cT; rw [e4]; exact ⟨fun q => by omega, fun q => by omega⟩⟩)
                        · intro h294
                          refine wk_goto r57_25 (wk_inc4 r57_57 rfl (wk_goto r57_60 (wk_il4 r57_5 (wk_c1 r57_7 ?_))))
                          refine wk_icgt r57_8 (by decide) (by decide) ?_ ?_
                          · intro h295
                            refine wk_c1 r57_63 ?_
                            subst hQ; exact wk_iret r57_64 (⟨rfl, _, rfl, hP0, hF0, by omega, by omega, by unfold cT; rw [e4]; exact ⟨fun q => by omega, fun q => by omega⟩⟩)
                          · intro h296
                            exfalso
                            omega
          · intro h297
            refine wk_il4 r57_32 ?_
            subst hQ; exact wk_iret r57_34 (⟨rfl, _, rfl, hP0, hF0, by omega, by omega, by unfold cT; rw [e4]; exact ⟨fun q => by omega, fun q => by omega⟩⟩)
        · intro h298
          refine wk_goto r57_25 (wk_inc4 r57_57 rfl (wk_goto r57_60 (wk_il4 r57_5 (wk_c1 r57_7 ?_))))
          refine wk_icgt r57_8 (by decide) (by decide) ?_ ?_
          · intro h299
            exfalso
            omega
          · intro h300
            refine wk_al0 r57_11 (wk_getfr r57_12 fd_739_5 (br_739_5 hP0) (wk_il1 r57_15 (wk_iald r57_16 ar_740 ⟨by omega, by omega⟩ e4 (wk_il4 r57_17 (wk_ishrc r57_19 ⟨by omega, by omega⟩ (by decide) pwl_2 (wk_c1 r57_20 (wk_iandc 1 2 r57_21 ⟨rfl, by decide⟩ rfl ?_)))))))
            refine wk_ifne r57_22 ⟨by omega, by omega⟩ ?_ ?_
            · intro h303
              refine wk_il3 r57_28 ?_
              refine wk_ifne r57_29 ⟨by omega, by omega⟩ ?_ ?_
              · intro h304
                refine wk_inc3 r57_35 rfl (wk_il4 r57_38 (wk_c1 r57_40 ?_))
                refine wk_iceq r57_41 (by decide) (by decide) ?_ ?_
                · intro h305
                  refine wk_il3 r57_47 ?_
                  refine wk_ifne r57_48 ⟨by omega, by omega⟩ ?_ ?_
                  · intro h306
                    refine wk_inc3 r57_54 rfl (wk_inc4 r57_57 rfl (wk_goto r57_60 (wk_il4 r57_5 (wk_c1 r57_7 ?_))))
                    refine wk_icgt r57_8 (by decide) (by decide) ?_ ?_
                    · intro h307
                      exfalso
                      omega
                    · intro h308
                      refine wk_al0 r57_11 (wk_getfr r57_12 fd_739_5 (br_739_5 hP0) (wk_il1 r57_15 (wk_iald r57_16 ar_740 ⟨by omega, by omega⟩ e4 (wk_il4 r57_17 (wk_ishrc r57_19 ⟨by omega, by omega⟩ (by decide) pwl_3 (wk_c1 r57_20 (wk_iandc 1 2 r57_21 ⟨rfl, by decide⟩ rfl ?_)))))))
                      refine wk_ifne r57_22 ⟨by omega, by omega⟩ ?_ ?_
                      · intro h311
                        refine wk_il3 r57_28 ?_
                        refine wk_ifne r57_29 ⟨by omega, by omega⟩ ?_ ?_
                        · intro h312
                          refine wk_inc3 r57_35 rfl (wk_il4 r57_38 (wk_c1 r57_40 ?_))
                          refine wk_iceq r57_41 (by decide) (by decide) ?_ ?_
                          · intro h313
                            exfalso
                            omega
                          · intro h314
                            refine wk_goto r57_44 (wk_inc4 r57_57 rfl (wk_goto r57_60 (wk_il4 r57_5 (wk_c1 r57_7 ?_))))
                            refine wk_icgt r57_8 (by decide) (by decide) ?_ ?_
                            · intro h315
                              exfalso
                              omega
                            · intro h316
                              refine wk_al0 r57_11 (wk_getfr r57_12 fd_739_5 (br_739_5 hP0) (wk_il1 r57_15 (wk_iald r57_16 ar_740 ⟨by omega, by omega⟩ e4 (wk_il4 r57_17 (wk_ishrc r57_19 ⟨by omega, by omega⟩ (by decide) pwl_4 (wk_c1 r57_20 (wk_iandc 1 2 r57_21 ⟨rfl, by decide⟩ rfl ?_)))))))
                              refine wk_ifne r57_22 ⟨by omega, by omega⟩ ?_ ?_
                              · intro h319
                                refine wk_il3 r57_28 ?_
                                refine wk_ifne r57_29 ⟨by omega, by omega⟩ ?_ ?_
                                · intro h320
                                  refine wk_inc3 r57_35 rfl (wk_il4 r57_38 (wk_c1 r57_40 ?_))
                                  refine wk_iceq r57_41 (by decide) (by decide) ?_ ?_
                                  · intro h321
                                    exfalso
                                    omega
                                  · intro h322
                                    refine wk_goto r57_44 (wk_inc4 r57_57 rfl (wk_goto r57_60 (wk_il4 r57_5 (wk_c1 r57_7 ?_))))
                                    refine wk_icgt r57_8 (by decide) (by decide) ?_ ?_
                                    · intro h323
                                      refine wk_c1 r57_63 ?_
                                      subst hQ; exact wk_iret r57_64 (⟨rfl, _, rfl, hP0, hF0, by omega, by omega, by unfold cT; rw [e4]; exact ⟨fun q => by omega, fun q => by omega⟩⟩)
                                    · intro h324
                                      exfalso
                                      omega
                                · intro h325
                                  refine wk_il4 r57_32 ?_
                                  subst hQ; exact wk_iret r57_34 (⟨rfl, _, rfl, hP0, hF0, by omega, by omega, by unfold cT; rw [e4]; exact ⟨fun q => by omega, fun q => by omega⟩⟩)
                              · intro h326
                                refine wk_goto r57_25 (wk_inc4 r57_57 rfl (wk_goto r57_60 (wk_il4 r57_5 (wk_c1 r57_7 ?_))))
                                refine wk_icgt r57_8 (by decide) (by decide) ?_ ?_
                                · intro h327
                                  refine wk_c1 r57_63 ?_
                                  subst hQ; exact wk_iret r57_64 (⟨rfl, _, rfl, hP0, hF0, by omega, by omega, by unfold cT; rw [e4]; exact ⟨fun q => by omega, fun q => by omega⟩⟩)
                                · intro h328
                                  exfalso
                                  omega
                        · intro h329
                          refine wk_il4 r57_32 ?_
                          subst hQ; exact wk_iret r57_34 (⟨rfl, _, rfl, hP0, hF0, by omega, by omega, by unfold cT; rw [e4]; exact ⟨fun q => by omega, fun q => by omega⟩⟩)
                      · intro h330
                        refine wk_goto r57_25 (wk_inc4 r57_57 rfl (wk_goto r57_60 (wk_il4 r57_5 (wk_c1 r57_7 ?_))))
                        refine wk_icgt r57_8 (by decide) (by decide) ?_ ?_
                        · intro h331
                          exfalso
                          omega
                        · intro h332
                          refine wk_al0 r57_11 (wk_getfr r57_12 fd_739_5 (br_739_5 hP0) (wk_il1 r57_15 (wk_iald r57_16 ar_740 ⟨by omega, by omega⟩ e4 (wk_il4 r57_17 (wk_ishrc r57_19 ⟨by omega, by omega⟩ (by decide) pwl_4 (wk_c1 r57_20 (wk_iandc 1 2 r57_21 ⟨rfl, by decide⟩ rfl ?_)))))))
                          refine wk_ifne r57_22 ⟨by omega, by omega⟩ ?_ ?_
                          · intro h335
                            refine wk_il3 r57_28 ?_
                            refine wk_ifne r57_29 ⟨by omega, by omega⟩ ?_ ?_
                            · intro h336
                              refine wk_inc3 r57_35 rfl (wk_il4 r57_38 (wk_c1 r57_40 ?_))
                              refine wk_iceq r57_41 (by decide) (by decide) ?_ ?_
                              · intro h337
                                exfalso
                                omega
                              · intro h338
                                refine wk_goto r57_44 (wk_inc4 r57_57 rfl (wk_goto r57_60 (wk_il4 r57_5 (wk_c1 r57_7 ?_))))
                                refine wk_icgt r57_8 (by decide) (by decide) ?_ ?_
                                · intro h339
                                  refine wk_c1 r57_63 ?_
                                  subst hQ; exact wk_iret r57_64 (⟨rfl, _, rfl, hP0, hF0, by omega, by omega, by unfold cT; rw [e4]; exact ⟨fun q => by omega, fun q => by omega⟩⟩)
                                · intro h340
                                  exfalso
                                  omega
                            · intro h341
                              refine wk_il4 r57_32 ?_
                              subst hQ; exact wk_iret r57_34 (⟨rfl, _, rfl, hP0, hF0, by omega, by omega, by unfold cT; rw [e4]; exact ⟨fun q => by omega, fun q => by omega⟩⟩)
                          · intro h342
                            refine wk_goto r57_25 (wk_inc4 r57_57 rfl (wk_goto r57_60 (wk_il4 r57_5 (wk_c1 r57_7 ?_))))
                            refine wk_icgt r57_8 (by decide) (by decide) ?_ ?_
                            · intro h343
                              refine wk_c1 r57_63 ?_
                              subst hQ; exact wk_iret r57_64 (⟨rfl, _, rfl, hP0, hF0, by omega, by omega, by unfold cT; rw [e4]; exact ⟨fun q => by omega, fun q => by omega⟩⟩)
                            · intro h344
                              exfalso
                              omega
                  · intro h345
                    refine wk_c2 r57_51 ?_
                    subst hQ; exact wk_iret r57_53 (⟨rfl, _, rfl, hP0, hF0, by omega, by omega, by unfold cT; rw [e4]; exact ⟨fun q => by omega, fun q => by omega⟩⟩)
                · intro h346
                  exfalso
                  omega
              · intro h347
                refine wk_il4 r57_32 ?_
                subst hQ; exact wk_iret r57_34 (⟨rfl, _, rfl, hP0, hF0, by omega, by omega, by unfold cT; rw [e4]; exact ⟨fun q => by omega, fun q => by omega⟩⟩)
            · intro h348
              refine wk_goto r57_25 (wk_inc4 r57_57 rfl (wk_goto r57_60 (wk_il4 r57_5 (wk_c1 r57_7 ?_))))
              refine wk_icgt r57_8 (by decide) (by decide) ?_ ?_
              · intro h349
                exfalso
                omega
              · intro h350
                refine wk_al0 r57_11 (wk_getfr r57_12 fd_739_5 (br_739_5 hP0) (wk_il1 r57_15 (wk_iald r57_16 ar_740 ⟨by omega, by omega⟩ e4 (wk_il4 r57_17 (wk_ishrc r57_19 ⟨by omega, by omega⟩ (by decide) pwl_3 (wk_c1 r57_20 (wk_iandc 1 2 r57_21 ⟨rfl, by decide⟩ rfl ?_)))))))
                refine wk_ifne r57_22 ⟨by omega, by omega⟩ ?_ ?_
                · intro h353
                  refine wk_il3 r57_28 ?_
                  refine wk_ifne r57_29 ⟨by omega, by omega⟩ ?_ ?_
                  · intro h354
                    refine wk_inc3 r57_35 rfl (wk_il4 r57_38 (wk_c1 r57_40 ?_))
                    refine wk_iceq r57_41 (by decide) (by decide) ?_ ?_
                    · intro h355
                      exfalso
                      omega
                    · intro h356
                      refine wk_goto r57_44 (wk_inc4 r57_57 rfl (wk_goto r57_60 (wk_il4 r57_5 (wk_c1 r57_7 ?_))))
                      refine wk_icgt r57_8 (by decide) (by decide) ?_ ?_
                      · intro h357
                        exfalso
                        omega
                      · intro h358
                        refine wk_al0 r57_11 (wk_getfr r57_12 fd_739_5 (br_739_5 hP0) (wk_il1 r57_15 (wk_iald r57_16 ar_740 ⟨by omega, by omega⟩ e4 (wk_il4 r57_17 (wk_ishrc r57_19 ⟨by omega, by omega⟩ (by decide) pwl_4 (wk_c1 r57_20 (wk_iandc 1 2 r57_21 ⟨rfl, by decide⟩ rfl ?_)))))))
                        refine wk_ifne r57_22 ⟨by omega, by omega⟩ ?_ ?_
                        · intro h361
                          refine wk_il3 r57_28 ?_
                          refine wk_ifne r57_29 ⟨by omega, by omega⟩ ?_ ?_
                          · intro h362
                            refine wk_inc3 r57_35 rfl (wk_il4 r57_38 (wk_c1 r57_40 ?_))
                            refine wk_iceq r57_41 (by decide) (by decide) ?_ ?_
                            · intro h363
                              exfalso
                              omega
                            · intro h364
                              refine wk_goto r57_44 (wk_inc4 r57_57 rfl (wk_goto r57_60 (wk_il4 r57_5 (wk_c1 r57_7 ?_))))
                              refine wk_icgt r57_8 (by decide) (by decide) ?_ ?_
                              · intro h365
                                refine wk_c1 r57_63 ?_
                                subst hQ; exact wk_iret r57_64 (⟨rfl, _, rfl, hP0, hF0, by omega, by omega, by unfold cT; rw [e4]; exact ⟨fun q => by omega, fun q => by omega⟩⟩)
                              · intro h366
                                exfalso
                                omega
                          · intro h367
                            refine wk_il4 r57_32 ?_
                            subst hQ; exact wk_iret r57_34 (⟨rfl, _, rfl, hP0, hF0, by omega, by omega, by unfold cT; rw [e4]; exact ⟨fun q => by omega, fun q => by omega⟩⟩)
                        · intro h368
                          refine wk_goto r57_25 (wk_inc4 r57_57 rfl (wk_goto r57_60 (wk_il4 r57_5 (wk_c1 r57_7 ?_))))
                          refine wk_icgt r57_8 (by decide) (by decide) ?_ ?_
                          · intro h369
                            refine wk_c1 r57_63 ?_
                            subst hQ; exact wk_iret r57_64 (⟨rfl, _, rfl, hP0, hF0, by omega, by omega, by unfold cT; rw [e4]; exact ⟨fun q => by omega, fun q => by omega⟩⟩)
                          · intro h370
                            exfalso
                            omega
                  · intro h371
                    refine wk_il4 r57_32 ?_
                    subst hQ; exact wk_iret r57_34 (⟨rfl, _, rfl, hP0, hF0, by omega, by omega, by unfold cT; rw [e4]; exact ⟨fun q => by omega, fun q => by omega⟩⟩)
                · intro h372
                  refine wk_goto r57_25 (wk_inc4 r57_57 rfl (wk_goto r57_60 (wk_il4 r57_5 (wk_c1 r57_7 ?_))))
                  refine wk_icgt r57_8 (by decide) (by decide) ?_ ?_
                  · intro h373
                    exfalso
                    omega
                  · intro h374
                    refine wk_al0 r57_11 (wk_getfr r57_12 fd_739_5 (br_739_5 hP0) (wk_il1 r57_15 (wk_iald r57_16 ar_740 ⟨by omega, by omega⟩ e4 (wk_il4 r57_17 (wk_ishrc r57_19 ⟨by omega, by omega⟩ (by decide) pwl_4 (wk_c1 r57_20 (wk_iandc 1 2 r57_21 ⟨rfl, by decide⟩ rfl ?_)))))))
                    refine wk_ifne r57_22 ⟨by omega, by omega⟩ ?_ ?_
                    · intro h377
                      refine wk_il3 r57_28 ?_
                      refine wk_ifne r57_29 ⟨by omega, by omega⟩ ?_ ?_
                      · intro h378
                        refine wk_inc3 r57_35 rfl (wk_il4 r57_38 (wk_c1 r57_40 ?_))
                        refine wk_iceq r57_41 (by decide) (by decide) ?_ ?_
                        · intro h379
                          exfalso
                          omega
                        · intro h380
                          refine wk_goto r57_44 (wk_inc4 r57_57 rfl (wk_goto r57_60 (wk_il4 r57_5 (wk_c1 r57_7 ?_))))
                          refine wk_icgt r57_8 (by decide) (by decide) ?_ ?_
                          · intro h381
                            refine wk_c1 r57_63 ?_
                            subst hQ; exact wk_iret r57_64 (⟨rfl, _, rfl, hP0, hF0, by omega, by omega, by unfold cT; rw [e4]; exact ⟨fun q => by omega, fun q => by omega⟩⟩)
                          · intro h382
                            exfalso
                            omega
                      · intro h383
                        refine wk_il4 r57_32 ?_
                        subst hQ; exact wk_iret r57_34 (⟨rfl, _, rfl, hP0, hF0, by omega, by omega, by unfold cT; rw [e4]; exact ⟨fun q => by omega, fun q => by omega⟩⟩)
                    · intro h384
                      refine wk_goto r57_25 (wk_inc4 r57_57 rfl (wk_goto r57_60 (wk_il4 r57_5 (wk_c1 r57_7 ?_))))
                      refine wk_icgt r57_8 (by decide) (by decide) ?_ ?_
                      · intro h385
                        refine wk_c1 r57_63 ?_
                        subst hQ; exact wk_iret r57_64 (⟨rfl, _, rfl, hP0, hF0, by omega, by omega, by unfold cT; rw [e4]; exact ⟨fun q => by omega, fun q => by omega⟩⟩)
                      · intro h386
                        exfalso
                        omega
