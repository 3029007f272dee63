
def fm_n8057_739 : Nat := 0
set_option maxHeartbeats 20000000 in
/-- IslandHallModel.choiceOf -/
theorem n8057_739 {B : eB} (d : Nat) (M0 : Mm) (p1 : Int) (p2 : Int) (hP0 : Pw M0) (l1 : 0 ≤ p1) (u1 : p1 ≤ 6) (l2 : 0 ≤ p2) (u2 : p2 ≤ 10) : Ct B (d + 1) 57 [R 739, I p1, I p2] M0 (qI fun z M => Pw M ∧ Fr fm_n8057_739 M0 M ∧ (-1) ≤ z ∧ z ≤ 10 ∧ (CHQ (M0 740 p1) p2 z) ∧ ((z = -1 → cT (M0 740 p1) ≤ p2) ∧ (z ≠ -1 → p2 < cT (M0 740 p1)))) := by
  refine ct_of (d := d + 0) (k := 2) (L := [some (R 739), some (I p1), some (I p2), none, none]) rfl rfl rfl ?_
  have hF0 := Fr.rf fm_n8057_739 M0
  generalize hQ : (qI fun z M => Pw M ∧ Fr fm_n8057_739 M0 M ∧ (-1) ≤ z ∧ z ≤ 10 ∧ (CHQ (M0 740 p1) p2 z) ∧ ((z = -1 → cT (M0 740 p1) ≤ p2) ∧ (z ≠ -1 → p2 < cT (M0 740 p1)))) = Q
  refine wk_il2 r57_0 (wk_is3 r57_1 rfl (wk_c1 r57_2 (wk_is4 r57_3 rfl (wk_il4 r57_5 (wk_c1 r57_7 ?_)))))
  refine wk_icgt r57_8 (by decide) (by decide) ?_ ?_
  · intro h1
    exfalso
    omega
  · intro h2
    refine wk_al0 r57_11 (wk_getfr r57_12 fd_739_5 (br_739_5 hP0) (wk_il1 r57_15 (wk_ialdb r57_16 ar_740 ⟨by omega, by omega⟩ (fun q0 q1 => ba_740 hP0 q0 q1) ?_)))
    intro v3 h5 h6 e4
    refine wk_il4 r57_17 (wk_ishrc r57_19 ⟨by omega, by omega⟩ (by decide) pwl_0 (wk_c1 r57_20 (wk_iandc 1 2 r57_21 ⟨rfl, by decide⟩ rfl ?_)))
    refine wk_ifne r57_22 ⟨by omega, by omega⟩ ?_ ?_
    · intro h9
      refine wk_il3 r57_28 ?_
      refine wk_ifne r57_29 ⟨by omega, by omega⟩ ?_ ?_
      · intro h10
        refine wk_inc3 r57_35 rfl (wk_il4 r57_38 (wk_c1 r57_40 ?_))
        refine wk_iceq r57_41 (by decide) (by decide) ?_ ?_
        · intro h11
          exfalso
          omega
        · intro h12
          refine wk_goto r57_44 (wk_inc4 r57_57 rfl (wk_goto r57_60 (wk_il4 r57_5 (wk_c1 r57_7 ?_))))
          refine wk_icgt r57_8 (by decide) (by decide) ?_ ?_
          · intro h13
            exfalso
            omega
          · intro h14
            refine wk_al0 r57_11 (wk_getfr r57_12 fd_739_5 (br_739_5 hP0) (wk_il1 r57_15 (wk_iald r57_16 ar_740 ⟨by omega, by omega⟩ e4 (wk_il4 r57_17 (wk_ishrc r57_19 ⟨by omega, by omega⟩ (by decide) pwl_1 (wk_c1 r57_20 (wk_iandc 1 2 r57_21 ⟨rfl, by decide⟩ rfl ?_)))))))
            refine wk_ifne r57_22 ⟨by omega, by omega⟩ ?_ ?_
            · intro h17
              refine wk_il3 r57_28 ?_
              refine wk_ifne r57_29 ⟨by omega, by omega⟩ ?_ ?_
              · intro h18
                refine wk_inc3 r57_35 rfl (wk_il4 r57_38 (wk_c1 r57_40 ?_))
                refine wk_iceq r57_41 (by decide) (by decide) ?_ ?_
                · intro h19
                  exfalso
                  omega
                · intro h20
                  refine wk_goto r57_44 (wk_inc4 r57_57 rfl (wk_goto r57_60 (wk_il4 r57_5 (wk_c1 r57_7 ?_))))
                  refine wk_icgt r57_8 (by decide) (by decide) ?_ ?_
                  · intro h21
                    exfalso
                    omega
                  · intro h22
                    refine wk_al0 r57_11 (wk_getfr r57_12 fd_739_5 (br_739_5 hP0) (wk_il1 r57_15 (wk_iald r57_16 ar_740 ⟨by omega, by omega⟩ e4 (wk_il4 r57_17 (wk_ishrc r57_19 ⟨by omega, by omega⟩ (by decide) pwl_2 (wk_c1 r57_20 (wk_iandc 1 2 r57_21 ⟨rfl, by decide⟩ rfl ?_)))))))
                    refine wk_ifne r57_22 ⟨by omega, by omega⟩ ?_ ?_
                    · intro h25
                      refine wk_il3 r57_28 ?_
                      refine wk_ifne r57_29 ⟨by omega, by omega⟩ ?_ ?_
                      · intro h26
                        refine wk_inc3 r57_35 rfl (wk_il4 r57_38 (wk_c1 r57_40 ?_))
                        refine wk_iceq r57_41 (by decide) (by decide) ?_ ?_
                        · intro h27
                          refine wk_il3 r57_47 ?_
                          refine wk_ifne r57_48 ⟨by omega, by omega⟩ ?_ ?_
                          · intro h28
                            refine wk_inc3 r57_54 rfl (wk_inc4 r57_57 rfl (wk_goto r57_60 (wk_il4 r57_5 (wk_c1 r57_7 ?_))))
                            refine wk_icgt r57_8 (by decide) (by decide) ?_ ?_
                            · intro h29
                              exfalso
                              omega
                            · intro h30
                              refine wk_al0 r57_11 (wk_getfr r57_12 fd_739_5 (br_739_5 hP0) (wk_il1 r57_15 (wk_iald r57_16 ar_740 ⟨by omega, by omega⟩ e4 (wk_il4 r57_17 (wk_ishrc r57_19 ⟨by omega, by omega⟩ (by decide) pwl_3 (wk_c1 r57_20 (wk_iandc 1 2 r57_21 ⟨rfl, by decide⟩ rfl ?_)))))))
                              refine wk_ifne r57_22 ⟨by omega, by omega⟩ ?_ ?_
                              · intro h33
                                refine wk_il3 r57_28 ?_
                                refine wk_ifne r57_29 ⟨by omega, by omega⟩ ?_ ?_
                                · intro h34
                                  refine wk_inc3 r57_35 rfl (wk_il4 r57_38 (wk_c1 r57_40 ?_))
                                  refine wk_iceq r57_41 (by decide) (by decide) ?_ ?_
                                  · intro h35
                                    exfalso
                                    omega
                                  · intro h36
                                    refine wk_goto r57_44 (wk_inc4 r57_57 rfl (wk_goto r57_60 (wk_il4 r57_5 (wk_c1 r57_7 ?_))))
                                    refine wk_icgt r57_8 (by decide) (by decide) ?_ ?_
                                    · intro h37
                                      exfalso
                                      omega
                                    · intro h38
                                      refine wk_al0 r57_11 (wk_getfr r57_12 fd_739_5 (br_739_5 hP0) (wk_il1 r57_15 (wk_iald r57_16 ar_740 ⟨by omega, by omega⟩ e4 (wk_il4 r57_17 (wk_ishrc r57_19 ⟨by omega, by omega⟩ (by decide) pwl_4 (wk_c1 r57_20 (wk_iandc 1 2 r57_21 ⟨rfl, by decide⟩ rfl ?_)))))))
                                      refine wk_ifne r57_22 ⟨by omega, by omega⟩ ?_ ?_
                                      · intro h41
                                        refine wk_il3 r57_28 ?_
                                        refine wk_ifne r57_29 ⟨by omega, by omega⟩ ?_ ?_
                                        · intro h42
                                          refine wk_inc3 r57_35 rfl (wk_il4 r57_38 (wk_c1 r57_40 ?_))
                                          refine wk_iceq r57_41 (by decide) (by decide) ?_ ?_
                                          · intro h43
                                            exfalso
                                            omega
                                          · intro h44
                                            refine wk_goto r57_44 (wk_inc4 r57_57 rfl (wk_goto r57_60 (wk_il4 r57_5 (wk_c1 r57_7 ?_))))
                                            refine wk_icgt r57_8 (by decide) (by decide) ?_ ?_
                                            · intro h45
                                              refine wk_c1 r57_63 ?_
                                              subst hQ; exact wk_iret r57_64 (⟨rfl, _, rfl, hP0, hF0, by omega, by omega, by rw [e4]; exact CHQ_u (Or.inl ⟨by omega, by omega⟩), by unfold cT; rw [e4]; exact ⟨fun q => by omega, fun q => by omega⟩⟩)
                                            · intro h46
                                              exfalso
                                              omega
                                        · intro h47
                                          refine wk_il4 r57_32 ?_
                                          subst hQ; exact wk_iret r57_34 (⟨rfl, _, rfl, hP0, hF0, by omega, by omega, by rw [e4]; exact CHQ_u (Or.inr (Or.inr (Or.inr (Or.inr (Or.inr (Or.inr (⟨by omega, by omega, by omega⟩))))))), by unfold cT; rw [e4]; exact ⟨fun q => by omega, fun q => by omega⟩⟩)
                                      · intro h48
                                        refine wk_goto r57_25 (wk_inc4 r57_57 rfl (wk_goto r57_60 (wk_il4 r57_5 (wk_c1 r57_7 ?_))))
                                        refine wk_icgt r57_8 (by decide) (by decide) ?_ ?_
                                        · intro h49
                                          refine wk_c1 r57_63 ?_
                                          subst hQ; exact wk_iret r57_64 (⟨rfl, _, rfl, hP0, hF0, by omega, by omega, by rw [e4]; exact CHQ_u (Or.inl ⟨by omega, by omega⟩), by unfold cT; rw [e4]; exact ⟨fun q => by omega, fun q => by omega⟩⟩)
                                        · intro h50
                                          exfalso
                                          omega
                                · intro h51
                                  refine wk_il4 r57_32 ?_
                                  subst hQ; exact wk_iret r57_34 (⟨rfl, _, rfl, hP0, hF0, by omega, by omega, by rw [e4]; exact CHQ_u (Or.inr (Or.inr (Or.inr (Or.inr (Or.inr (Or.inl ⟨by omega, by omega, by omega⟩)))))), by unfold cT; rw [e4]; exact ⟨fun q => by omega, fun q => by omega⟩⟩)
                              · intro h52
                                refine wk_goto r57_25 (wk_inc4 r57_57 rfl (wk_goto r57_60 (wk_il4 r57_5 (wk_c1 r57_7 ?_))))
                                refine wk_icgt r57_8 (by decide) (by decide) ?_ ?_
                                · intro h53
                                  exfalso
                                  omega
                                · intro h54
                                  refine wk_al0 r57_11 (wk_getfr r57_12 fd_739_5 (br_739_5 hP0) (wk_il1 r57_15 (wk_iald r57_16 ar_740 ⟨by omega, by omega⟩ e4 (wk_il4 r57_17 (wk_ishrc r57_19 ⟨by omega, by omega⟩ (by decide) pwl_4 (wk_c1 r57_20 (wk_iandc 1 2 r57_21 ⟨rfl, by decide⟩ rfl ?_)))))))
                                  refine wk_ifne r57_22 ⟨by omega, by omega⟩ ?_ ?_
                                  · intro h57
                                    refine wk_il3 r57_28 ?_
                                    refine wk_ifne r57_29 ⟨by omega, by omega⟩ ?_ ?_
                                    · intro h58
                                      refine wk_inc3 r57_35 rfl (wk_il4 r57_38 (wk_c1 r57_40 ?_))
                                      refine wk_iceq r57_41 (by decide) (by decide) ?_ ?_
                                      · intro h59
                                        exfalso
                                        omega
                                      · intro h60
                                        refine wk_goto r57_44 (wk_inc4 r57_57 rfl (wk_goto r57_60 (wk_il4 r57_5 (wk_c1 r57_7 ?_))))
                                        refine wk_icgt r57_8 (by decide) (by decide) ?_ ?_
                                        · intro h61
                                          refine wk_c1 r57_63 ?_
                                          subst hQ; exact wk_iret r57_64 (⟨rfl, _, rfl, hP0, hF0, by omega, by omega, by rw [e4]; exact CHQ_u (Or.inl ⟨by omega, by omega⟩), by unfold cT; rw [e4]; exact ⟨fun q => by omega, fun q => by omega⟩⟩)
                                        · intro h62
                                          exfalso
                                          omega
                                    · intro h63
                                      refine wk_il4 r57_32 ?_
                                      subst hQ; exact wk_iret r57_34 (⟨rfl, _, rfl, hP0, hF0, by omega, by omega, by rw [e4]; exact CHQ_u (Or.inr (Or.inr (Or.inr (Or.inr (Or.inr (Or.inr (⟨by omega, by omega, by omega⟩))))))), by unfold cT; rw [e4]; exact ⟨fun q => by omega, fun q => by omega⟩⟩)
                                  · intro h64
                                    refine wk_goto r57_25 (wk_inc4 r57_57 rfl (wk_goto r57_60 (wk_il4 r57_5 (wk_c1 r57_7 ?_))))
                                    refine wk_icgt r57_8 (by decide) (by decide) ?_ ?_
                                    · intro h65
                                      refine wk_c1 r57_63 ?_
                                      subst hQ; exact wk_iret r57_64 (⟨rfl, _, rfl, hP0, hF0, by omega, by omega, by rw [e4]; exact CHQ_u (Or.inl ⟨by omega, by omega⟩), by unfold cT; rw [e4]; exact ⟨fun q => by omega, fun q => by omega⟩⟩)
                                    · intro h66
                                      exfalso
                                      omega
                          · intro h67
                            refine wk_c2 r57_51 ?_
                            subst hQ; exact wk_iret r57_53 (⟨rfl, _, rfl, hP0, hF0, by omega, by omega, by rw [e4]; exact CHQ_u (Or.inr (Or.inr (Or.inr (Or.inr (Or.inl ⟨by omega, by omega, by omega⟩))))), by unfold cT; rw [e4]; exact ⟨fun q => by omega, fun q => by omega⟩⟩)
                        · intro h68
                          exfalso
                          omega
                      · intro h69
                        refine wk_il4 r57_32 ?_
                        subst hQ; exact wk_iret r57_34 (⟨rfl, _, rfl, hP0, hF0, by omega, by omega, by rw [e4]; exact CHQ_u (Or.inr (Or.inr (Or.inr (Or.inl ⟨by omega, by omega, by omega⟩)))), by unfold cT; rw [e4]; exact ⟨fun q => by omega, fun q => by omega⟩⟩)
                    · intro h70
                      refine wk_goto r57_25 (wk_inc4 r57_57 rfl (wk_goto r57_60 (wk_il4 r57_5 (wk_c1 r57_7 ?_))))
                      refine wk_icgt r57_8 (by decide) (by decide) ?_ ?_
                      · intro h71
                        exfalso
                        omega
                      · intro h72
                        refine wk_al0 r57_11 (wk_getfr r57_12 fd_739_5 (br_739_5 hP0) (wk_il1 r57_15 (wk_iald r57_16 ar_740 ⟨by omega, by omega⟩ e4 (wk_il4 r57_17 (wk_ishrc r57_19 ⟨by omega, by omega⟩ (by decide) pwl_3 (wk_c1 r57_20 (wk_iandc 1 2 r57_21 ⟨rfl, by decide⟩ rfl ?_)))))))
                        refine wk_ifne r57_22 ⟨by omega, by omega⟩ ?_ ?_
                        · intro h75
                          refine wk_il3 r57_28 ?_
                          refine wk_ifne r57_29 ⟨by omega, by omega⟩ ?_ ?_
                          · intro h76
                            refine wk_inc3 r57_35 rfl (wk_il4 r57_38 (wk_c1 r57_40 ?_))
                            refine wk_iceq r57_41 (by decide) (by decide) ?_ ?_
                            · intro h77
                              exfalso
                              omega
                            · intro h78
                              refine wk_goto r57_44 (wk_inc4 r57_57 rfl (wk_goto r57_60 (wk_il4 r57_5 (wk_c1 r57_7 ?_))))
                              refine wk_icgt r57_8 (by decide) (by decide) ?_ ?_
                              · intro h79
                                exfalso
                                omega
                              · intro h80
                                refine wk_al0 r57_11 (wk_getfr r57_12 fd_739_5 (br_739_5 hP0) (wk_il1 r57_15 (wk_iald r57_16 ar_740 ⟨by omega, by omega⟩ e4 (wk_il4 r57_17 (wk_ishrc r57_19 ⟨by omega, by omega⟩ (by decide) pwl_4 (wk_c1 r57_20 (wk_iandc 1 2 r57_21 ⟨rfl, by decide⟩ rfl ?_)))))))
                                refine wk_ifne r57_22 ⟨by omega, by omega⟩ ?_ ?_
                                · intro h83
                                  refine wk_il3 r57_28 ?_
                                  refine wk_ifne r57_29 ⟨by omega, by omega⟩ ?_ ?_
                                  · intro h84
                                    refine wk_inc3 r57_35 rfl (wk_il4 r57_38 (wk_c1 r57_40 ?_))
                                    refine wk_iceq r57_41 (by decide) (by decide) ?_ ?_
                                    · intro h85
                                      exfalso
                                      omega
                                    · intro h86
                                      refine wk_goto r57_44 (wk_inc4 r57_57 rfl (wk_goto r57_60 (wk_il4 r57_5 (wk_c1 r57_7 ?_))))
                                      refine wk_icgt r57_8 (by decide) (by decide) ?_ ?_
                                      · intro h87
                                        refine wk_c1 r57_63 ?_
                                        subst hQ; exact wk_iret r57_64 (⟨rfl, _, rfl, hP0, hF0, by omega, by omega, by rw [e4]; exact CHQ_u (Or.inl ⟨by omega, by omega⟩), by unfold cT; rw [e4]; exact ⟨fun q => by omega, fun q => by omega⟩⟩)
                                      · intro h88
                                        exfalso
                                        omega
                                  · intro h89
                                    refine wk_il4 r57_32 ?_
                                    subst hQ; exact wk_iret r57_34 (⟨rfl, _, rfl, hP0, hF0, by omega, by omega, by rw [e4]; exact CHQ_u (Or.inr (Or.inr (Or.inr (Or.inr (Or.inr (Or.inr (⟨by omega, by omega, by omega⟩))))))), by unfold cT; rw [e4]; exact ⟨fun q => by omega, fun q => by omega⟩⟩)
                                · intro h90
                                  refine wk_goto r57_25 (wk_inc4 r57_57 rfl (wk_goto r57_60 (wk_il4 r57_5 (wk_c1 r57_7 ?_))))
                                  refine wk_icgt r57_8 (by decide) (by decide) ?_ ?_
                                  · intro h91
                                    refine wk_c1 r57_63 ?_
                                    subst hQ; exact wk_iret r57_64 (⟨rfl, _, rfl, hP0, hF0, by omega, by omega, by rw [e4]; exact CHQ_u (Or.inl ⟨by omega, by omega⟩), by unfold cT; rw [e4]; exact ⟨fun q => by omega, fun q => by omega⟩⟩)
                                  · intro h92
                                    exfalso
                                    omega
                          · intro h93
                            refine wk_il4 r57_32 ?_
                            subst hQ; exact wk_iret r57_34 (⟨rfl, _, rfl, hP0, hF0, by omega, by omega, by rw [e4]; exact CHQ_u (Or.inr (Or.inr (Or.inr (Or.inr (Or.inr (Or.inl ⟨by omega, by omega, by omega⟩)))))), by unfold cT; rw [e4]; exact ⟨fun q => by omega, fun q => by omega⟩⟩)
                        · intro h94
                          refine wk_goto r57_25 (wk_inc4 r57_57 rfl (wk_goto r57_60 (wk_il4 r57_5 (wk_c1 r57_7 ?_))))
                          refine wk_icgt r57_8 (by decide) (by decide) ?_ ?_
                          · intro h95
                            exfalso
                            omega
                          · intro h96
                            refine wk_al0 r57_11 (wk_getfr r57_12 fd_739_5 (br_739_5 hP0) (wk_il1 r57_15 (wk_iald r57_16 ar_740 ⟨by omega, by omega⟩ e4 (wk_il4 r57_17 (wk_ishrc r57_19 ⟨by omega, by omega⟩ (by decide) pwl_4 (wk_c1 r57_20 (wk_iandc 1 2 r57_21 ⟨rfl, by decide⟩ rfl ?_)))))))
                            refine wk_ifne r57_22 ⟨by omega, by omega⟩ ?_ ?_
                            · intro h99
                              refine wk_il3 r57_28 ?_
                              refine wk_ifne r57_29 ⟨by omega, by omega⟩ ?_ ?_
                              · intro h100
                                refine wk_inc3 r57_35 rfl (wk_il4 r57_38 (wk_c1 r57_40 ?_))
                                refine wk_iceq r57_41 (by decide) (by decide) ?_ ?_
                                · intro h101
                                  exfalso
                                  omega
                                · intro h102
                                  refine wk_goto r57_44 (wk_inc4 r57_57 rfl (wk_goto r57_60 (wk_il4 r57_5 (wk_c1 r57_7 ?_))))
                                  refine wk_icgt r57_8 (by decide) (by decide) ?_ ?_
                                  · intro h103
                                    refine wk_c1 r57_63 ?_
                                    subst hQ; exact wk_iret r57_64 (⟨rfl, _, rfl, hP0, hF0, by omega, by omega, by rw [e4]; exact CHQ_u (Or.inl ⟨by omega, by omega⟩), by unfold cT; rw [e4]; exact ⟨fun q => by omega, fun q => by omega⟩⟩)
                                  · intro h104
                                    exfalso
                                    omega
                              · intro h105
                                refine wk_il4 r57_32 ?_
                                subst hQ; exact wk_iret r57_34 (⟨rfl, _, rfl, hP0, hF0, by omega, by omega, by rw [e4]; exact CHQ_u (Or.inr (Or.inr (Or.inr (Or.inr (Or.inr (Or.inr (⟨by omega, by omega, by omega⟩))))))), by unfold cT; rw [e4]; exact ⟨fun q => by omega, fun q => by omega⟩⟩)
                            · intro h106
                              refine wk_goto r57_25 (wk_inc4 r57_57 rfl (wk_goto r57_60 (wk_il4 r57_5 (wk_c1 r57_7 ?_))))
                              refine wk_icgt r57_8 (by decide) (by decide) ?_ ?_
                              · intro h107
                                refine wk_c1 r57_63 ?_
                                subst hQ; exact wk_iret r57_64 (⟨rfl, _, rfl, hP0, hF0, by omega, by omega, by rw [e4]; exact CHQ_u (Or.inl ⟨by omega, by omega⟩), by unfold cT; rw [e4]; exact ⟨fun q => by omega, fun q => by omega⟩⟩)
                              · intro h108
                                exfalso
                                omega
              · intro h109
                refine wk_il4 r57_32 ?_
                subst hQ; exact wk_iret r57_34 (⟨rfl, _, rfl, hP0, hF0, by omega, by omega, by rw [e4]; exact CHQ_u (Or.inr (Or.inr (Or.inl ⟨by omega, by omega, by omega⟩))), by unfold cT; rw [e4]; exact ⟨fun q => by omega, fun q => by omega⟩⟩)
            · intro h110
              refine wk_goto r57_25 (wk_inc4 r57_57 rfl (wk_goto r57_60 (wk_il4 r57_5 (wk_c1 r57_7 ?_))))
              refine wk_icgt r57_8 (by decide) (by decide) ?_ ?_
              · intro h111
                exfalso
                omega
              · intro h112
                refine wk_al0 r57_11 (wk_getfr r57_12 fd_739_5 (br_739_5 hP0) (wk_il1 r57_15 (wk_iald r57_16 ar_740 ⟨by omega, by omega⟩ e4 (wk_il4 r57_17 (wk_ishrc r57_19 ⟨by omega, by omega⟩ (by decide) pwl_2 (wk_c1 r57_20 (wk_iandc 1 2 r57_21 ⟨rfl, by decide⟩ rfl ?_)))))))
                refine wk_ifne r57_22 ⟨by omega, by omega⟩ ?_ ?_
                · intro h115
                  refine wk_il3 r57_28 ?_
                  refine wk_ifne r57_29 ⟨by omega, by omega⟩ ?_ ?_
                  · intro h116
                    refine wk_inc3 r57_35 rfl (wk_il4 r57_38 (wk_c1 r57_40 ?_))
                    refine wk_iceq r57_41 (by decide) (by decide) ?_ ?_
                    · intro h117
                      refine wk_il3 r57_47 ?_
                      refine wk_ifne r57_48 ⟨by omega, by omega⟩ ?_ ?_
                      · intro h118
                        refine wk_inc3 r57_54 rfl (wk_inc4 r57_57 rfl (wk_goto r57_60 (wk_il4 r57_5 (wk_c1 r57_7 ?_))))
                        refine wk_icgt r57_8 (by decide) (by decide) ?_ ?_
                        · intro h119
                          exfalso
                          omega
                        · intro h120
                          refine wk_al0 r57_11 (wk_getfr r57_12 fd_739_5 (br_739_5 hP0) (wk_il1 r57_15 (wk_iald r57_16 ar_740 ⟨by omega, by omega⟩ e4 (wk_il4 r57_17 (wk_ishrc r57_19 ⟨by omega, by omega⟩ (by decide) pwl_3 (wk_c1 r57_20 (wk_iandc 1 2 r57_21 ⟨rfl, by decide⟩ rfl ?_)))))))
                          refine wk_ifne r57_22 ⟨by omega, by omega⟩ ?_ ?_
                          · intro h123
                            refine wk_il3 r57_28 ?_
                            refine wk_ifne r57_29 ⟨by omega, by omega⟩ ?_ ?_
                            · intro h124
                              refine wk_inc3 r57_35 rfl (wk_il4 r57_38 (wk_c1 r57_40 ?_))
                              refine wk_iceq r57_41 (by decide) (by decide) ?_ ?_
                              · intro h125
                                exfalso
                                omega
                              · intro h126
                                refine wk_goto r57_44 (wk_inc4 r57_57 rfl (wk_goto r57_60 (wk_il4 r57_5 (wk_c1 r57_7 ?_))))
                                refine wk_icgt r57_8 (by decide) (by decide) ?_ ?_
                                · intro h127
                                  exfalso
                                  omega
                                · intro h128
                                  refine wk_al0 r57_11 (wk_getfr r57_12 fd_739_5 (br_739_5 hP0) (wk_il1 r57_15 (wk_iald r57_16 ar_740 ⟨by omega, by omega⟩ e4 (wk_il4 r57_17 (wk_ishrc r57_19 ⟨by omega, by omega⟩ (by decide) pwl_4 (wk_c1 r57_20 (wk_iandc 1 2 r57_21 ⟨rfl, by decide⟩ rfl ?_)))))))
                                  refine wk_ifne r57_22 ⟨by omega, by omega⟩ ?_ ?_
                                  · intro h131
                                    refine wk_il3 r57_28 ?_
                                    refine wk_ifne r57_29 ⟨by omega, by omega⟩ ?_ ?_
                                    · intro h132
                                      refine wk_inc3 r57_35 rfl (wk_il4 r57_38 (wk_c1 r57_40 ?_))
                                      refine wk_iceq r57_41 (by decide) (by decide) ?_ ?_
                                      · intro h133
                                        exfalso
                                        omega
                                      · intro h134
                                        refine wk_goto r57_44 (wk_inc4 r57_57 rfl (wk_goto r57_60 (wk_il4 r57_5 (wk_c1 r57_7 ?_))))
                                        refine wk_icgt r57_8 (by decide) (by decide) ?_ ?_
                                        · intro h135
                                          refine wk_c1 r57_63 ?_
                                          subst hQ; exact wk_iret r57_64 (⟨rfl, _, rfl, hP0, hF0, by omega, by omega, by rw [e4]; exact CHQ_u (Or.inl ⟨by omega, by omega⟩), by unfold cT; rw [e4]; exact ⟨fun q => by omega, fun q => by omega⟩⟩)
                                        · intro h136
                                          exfalso
                                          omega
                                    · intro h137
                                      refine wk_il4 r57_32 ?_
                                      subst hQ; exact wk_iret r57_34 (⟨rfl, _, rfl, hP0, hF0, by omega, by omega, by rw [e4]; exact CHQ_u (Or.inr (Or.inr (Or.inr (Or.inr (Or.inr (Or.inr (⟨by omega, by omega, by omega⟩))))))), by unfold cT; rw [e4]; exact ⟨fun q => by omega, fun q => by omega⟩⟩)
                                  · intro h138
                                    refine wk_goto r57_25 (wk_inc4 r57_57 rfl (wk_goto r57_60 (wk_il4 r57_5 (wk_c1 r57_7 ?_))))
                                    refine wk_icgt r57_8 (by decide) (by decide) ?_ ?_
                                    · intro h139
                                      refine wk_c1 r57_63 ?_
                                      subst hQ; exact wk_iret r57_64 (⟨rfl, _, rfl, hP0, hF0, by omega, by omega, by rw [e4]; exact CHQ_u (Or.inl ⟨by omega, by omega⟩), by unfold cT; rw [e4]; exact ⟨fun q => by omega, fun q => by omega⟩⟩)
                                    · intro h140
                                      exfalso
                                      omega
                            · intro h141
                              refine wk_il4 r57_32 ?_
                              subst hQ; exact wk_iret r57_34 (⟨rfl, _, rfl, hP0, hF0, by omega, by omega, by rw [e4]; exact CHQ_u (Or.inr (Or.inr (Or.inr (Or.inr (Or.inr (Or.inl ⟨by omega, by omega, by omega⟩)))))), by unfold cT; rw [e4]; exact ⟨fun q => by omega, fun q => by omega⟩⟩)
                          · intro h142
                            refine wk_goto r57_25 (wk_inc4 r57_57 rfl (wk_goto r57_60 (wk_il4 r57_5 (wk_c1 r57_7 ?_))))
                            refine wk_icgt r57_8 (by decide) (by decide) ?_ ?_
                            · intro h143
                              exfalso
                              omega
                            · intro h144
                              refine wk_al0 r57_11 (wk_getfr r57_12 fd_739_5 (br_739_5 hP0) (wk_il1 r57_15 (wk_iald r57_16 ar_740 ⟨by omega, by omega⟩ e4 (wk_il4 r57_17 (wk_ishrc r57_19 ⟨by omega, by omega⟩ (by decide) pwl_4 (wk_c1 r57_20 (wk_iandc 1 2 r57_21 ⟨rfl, by decide⟩ rfl ?_)))))))
                              refine wk_ifne r57_22 ⟨by omega, by omega⟩ ?_ ?_
                              · intro h147
                                refine wk_il3 r57_28 ?_
                                refine wk_ifne r57_29 ⟨by omega, by omega⟩ ?_ ?_
                                · intro h148
                                  refine wk_inc3 r57_35 rfl (wk_il4 r57_38 (wk_c1 r57_40 ?_))
                                  refine wk_iceq r57_41 (by decide) (by decide) ?_ ?_
                                  · intro h149
                                    exfalso
                                    omega
                                  · intro h150
                                    refine wk_goto r57_44 (wk_inc4 r57_57 rfl (wk_goto r57_60 (wk_il4 r57_5 (wk_c1 r57_7 ?_))))
                                    refine wk_icgt r57_8 (by decide) (by decide) ?_ ?_
                                    · intro h151
                                      refine wk_c1 r57_63 ?_
                                      subst hQ; exact wk_iret r57_64 (⟨rfl, _, rfl, hP0, hF0, by omega, by omega, by rw [e4]; exact CHQ_u (Or.inl ⟨by omega, by omega⟩), by unfold cT; rw [e4]; exact ⟨fun q => by omega, fun q => by omega⟩⟩)
                                    · intro h152
                                      exfalso
                                      omega
                                · intro h153
                                  refine wk_il4 r57_32 ?_
                                  subst hQ; exact wk_iret r57_34 (⟨rfl, _, rfl, hP0, hF0, by omega, by omega, by rw [e4]; exact CHQ_u (Or.inr (Or.inr (Or.inr (Or.inr (Or.inr (Or.inr (⟨by omega, by omega, by omega⟩))))))), by unfold cT; rw [e4]; exact ⟨fun q => by omega, fun q => by omega⟩⟩)
                              · intro h154
                                refine wk_goto r57_25 (wk_inc4 r57_57 rfl (wk_goto r57_60 (wk_il4 r57_5 (wk_c1 r57_7 ?_))))
                                refine wk_icgt r57_8 (by decide) (by decide) ?_ ?_
                                · intro h155
                                  refine wk_c1 r57_63 ?_
                                  subst hQ; exact wk_iret r57_64 (⟨rfl, _, rfl, hP0, hF0, by omega, by omega, by rw [e4]; exact CHQ_u (Or.inl ⟨by omega, by omega⟩), by unfold cT; rw [e4]; exact ⟨fun q => by omega, fun q => by omega⟩⟩)
                                · intro h156
                                  exfalso
                                  omega
                      · intro h157
                        refine wk_c2 r57_51 ?_
                        subst hQ; exact wk_iret r57_53 (⟨rfl, _, rfl, hP0, hF0, by omega, by omega, by rw [e4]; exact CHQ_u (Or.inr (Or.inr (Or.inr (Or.inr (Or.inl ⟨by omega, by omega, by omega⟩))))), by unfold cT; rw [e4]; exact ⟨fun q => by omega, fun q => by omega⟩⟩)
                    · intro h158
                      exfalso
                      omega
                  · intro h159
                    refine wk_il4 r57_32 ?_
                    subst hQ; exact wk_iret r57_34 (⟨rfl, _, rfl, hP0, hF0, by omega, by omega, by rw [e4]; exact CHQ_u (Or.inr (Or.inr (Or.inr (Or.inl ⟨by omega, by omega, by omega⟩)))), by unfold cT; rw [e4]; exact ⟨fun q => by omega, fun q => by omega⟩⟩)
                · intro h160
                  refine wk_goto r57_25 (wk_inc4 r57_57 rfl (wk_goto r57_60 (wk_il4 r57_5 (wk_c1 r57_7 ?_))))
                  refine wk_icgt r57_8 (by decide) (by decide) ?_ ?_
                  · intro h161
                    exfalso
                    omega
                  · intro h162
                    refine wk_al0 r57_11 (wk_getfr r57_12 fd_739_5 (br_739_5 hP0) (wk_il1 r57_15 (wk_iald r57_16 ar_740 ⟨by omega, by omega⟩ e4 (wk_il4 r57_17 (wk_ishrc r57_19 ⟨by omega, by omega⟩ (by decide) pwl_3 (wk_c1 r57_20 (wk_iandc 1 2 r57_21 ⟨rfl, by decide⟩ rfl ?_)))))))
                    refine wk_ifne r57_22 ⟨by omega, by omega⟩ ?_ ?_
                    · intro h165
                      refine wk_il3 r57_28 ?_
                      refine wk_ifne r57_29 ⟨by omega, by omega⟩ ?_ ?_
                      · intro h166
                        refine wk_inc3 r57_35 rfl (wk_il4 r57_38 (wk_c1 r57_40 ?_))
                        refine wk_iceq r57_41 (by decide) (by decide) ?_ ?_
                        · intro h167
                          exfalso
                          omega
                        · intro h168
                          refine wk_goto r57_44 (wk_inc4 r57_57 rfl (wk_goto r57_60 (wk_il4 r57_5 (wk_c1 r57_7 ?_))))
                          refine wk_icgt r57_8 (by decide) (by decide) ?_ ?_
                          · intro h169
                            exfalso
                            omega
                          · intro h170
                            refine wk_al0 r57_11 (wk_getfr r57_12 fd_739_5 (br_739_5 hP0) (wk_il1 r57_15 (wk_iald r57_16 ar_740 ⟨by omega, by omega⟩ e4 (wk_il4 r57_17 (wk_ishrc r57_19 ⟨by omega, by omega⟩ (by decide) pwl_4 (wk_c1 r57_20 (wk_iandc 1 2 r57_21 ⟨rfl, by decide⟩ rfl ?_)))))))
                            refine wk_ifne r57_22 ⟨by omega, by omega⟩ ?_ ?_
                            · intro h173
                              refine wk_il3 r57_28 ?_
                              refine wk_ifne r57_29 ⟨by omega, by omega⟩ ?_ ?_
                              · intro h174
                                refine wk_inc3 r57_35 rfl (wk_il4 r57_38 (wk_c1 r57_40 ?_))
                                refine wk_iceq r57_41 (by decide) (by decide) ?_ ?_
                                · intro h175
                                  exfalso
                                  omega
                                · intro h176
                                  refine wk_goto r57_44 (wk_inc4 r57_57 rfl (wk_goto r57_60 (wk_il4 r57_5 (wk_c1 r57_7 ?_))))
                                  refine wk_icgt r57_8 (by decide) (by decide) ?_ ?_
                                  · intro h177
                                    refine wk_c1 r57_63 ?_
                                    subst hQ; exact wk_iret r57_64 (⟨rfl, _, rfl, hP0, hF0, by omega, by omega, by rw [e4]; exact CHQ_u (Or.inl ⟨by omega, by omega⟩), by unfold cT; rw [e4]; exact ⟨fun q => by omega, fun q => by omega⟩⟩)
                                  · intro h178
                                    exfalso
                                    omega
                              · intro h179
                                refine wk_il4 r57_32 ?_
                                subst hQ; exact wk_iret r57_34 (⟨rfl, _, rfl, hP0, hF0, by omega, by omega, by rw [e4]; exact CHQ_u (Or.inr (Or.inr (Or.inr (Or.inr (Or.inr (Or.inr (⟨by omega, by omega, by omega⟩))))))), by unfold cT; rw [e4]; exact ⟨fun q => by omega, fun q => by omega⟩⟩)
                            · intro h180
                              refine wk_goto r57_25 (wk_inc4 r57_57 rfl (wk_goto r57_60 (wk_il4 r57_5 (wk_c1 r57_7 ?_))))
                              refine wk_icgt r57_8 (by decide) (by decide) ?_ ?_
                              · intro h181
                                refine wk_c1 r57_63 ?_
                                subst hQ; exact wk_iret r57_64 (⟨rfl, _, rfl, hP0, hF0, by omega, by omega, by rw [e4]; exact CHQ_u (Or.inl ⟨by omega, by omega⟩), by unfold cT; rw [e4]; exact ⟨fun q => by omega, fun q => by omega⟩⟩)
                              · intro h182
                                exfalso
                                omega
                      · intro h183
                        refine wk_il4 r57_32 ?_
                        subst hQ; exact wk_iret r57_34 (⟨rfl, _, rfl, hP0, hF0, by omega, by omega, by rw [e4]; exact CHQ_u (Or.inr (Or.inr (Or.inr (Or.inr (Or.inr (Or.inl ⟨by omega, by omega, by omega⟩)))))), by unfold cT; rw [e4]; exact ⟨fun q => by omega, fun q => by omega⟩⟩)
                    · intro h184
                      refine wk_goto r57_25 (wk_inc4 r57_57 rfl (wk_goto r57_60 (wk_il4 r57_5 (wk_c1 r57_7 ?_))))
                      refine wk_icgt r57_8 (by decide) (by decide) ?_ ?_
                      · intro h185
                        exfalso
                        omega
                      · intro h186
                        refine wk_al0 r57_11 (wk_getfr r57_12 fd_739_5 (br_739_5 hP0) (wk_il1 r57_15 (wk_iald r57_16 ar_740 ⟨by omega, by omega⟩ e4 (wk_il4 r57_17 (wk_ishrc r57_19 ⟨by omega, by omega⟩ (by decide) pwl_4 (wk_c1 r57_20 (wk_iandc 1 2 r57_21 ⟨rfl, by decide⟩ rfl ?_)))))))
                        refine wk_ifne r57_22 ⟨by omega, by omega⟩ ?_ ?_
                        · intro h189
                          refine wk_il3 r57_28 ?_
                          refine wk_ifne r57_29 ⟨by omega, by omega⟩ ?_ ?_
                          · intro h190
                            refine wk_inc3 r57_35 rfl (wk_il4 r57_38 (wk_c1 r57_40 ?_))
                            refine wk_iceq r57_41 (by decide) (by decide) ?_ ?_
                            · intro h191
                              exfalso
                              omega
                            · intro h192
                              refine wk_goto r57_44 (wk_inc4 r57_57 rfl (wk_goto r57_60 (wk_il4 r57_5 (wk_c1 r57_7 ?_))))
                              refine wk_icgt r57_8 (by decide) (by decide) ?_ ?_
                              · intro h193
                                refine wk_c1 r57_63 ?_
                                subst hQ; exact wk_iret r57_64 (⟨rfl, _, rfl, hP0, hF0, by omega, by omega, by rw [e4]; exact CHQ_u (Or.inl ⟨by omega, by omega⟩), by unfold cT; rw [e4]; exact ⟨fun q => by omega, fun q => by omega⟩⟩)
                              · intro h194
                                exfalso
                                omega
                          · intro h195
                            refine wk_il4 r57_32 ?_
                            subst hQ; exact wk_iret r57_34 (⟨rfl, _, rfl, hP0, hF0, by omega, by omega, by rw [e4]; exact CHQ_u (Or.inr (Or.inr (Or.inr (Or.inr (Or.inr (Or.inr (⟨by omega, by omega, by omega⟩))))))), by unfold cT; rw [e4]; exact ⟨fun q => by omega, fun q => by omega⟩⟩)
                        · intro h196
                          refine wk_goto r57_25 (wk_inc4 r57_57 rfl (wk_goto r57_60 (wk_il4 r57_5 (wk_c1 r57_7 ?_))))
                          refine wk_icgt r57_8 (by decide) (by decide) ?_ ?_
                          · intro h197
                            refine wk_c1 r57_63 ?_
                            subst hQ; exact wk_iret r57_64 (⟨rfl, _, rfl, hP0, hF0, by omega, by omega, by rw [e4]; exact CHQ_u (Or.inl ⟨by omega, by omega⟩), by unfold cT; rw [e4]; exact ⟨fun q => by omega, fun q => by omega⟩⟩)
                          · intro h198
                            exfalso
                            omega
      · intro h199
        refine wk_il4 r57_32 ?_
        subst hQ; exact wk_iret r57_34 (⟨rfl, _, rfl, hP0, hF0, by omega, by omega, by rw [e4]; exact CHQ_u (Or.inr (Or.inl ⟨by omega, by omega, by omega⟩)), by unfold cT; rw [e4]; exact ⟨fun q => by omega, fun q => by omega⟩⟩)
    · intro h200
      refine wk_goto r57_25 (wk_inc4 r57_57 rfl (wk_goto r57_60 (wk_il4 r57_5 (wk_c1 r57_7 ?_))))
      refine wk_icgt r57_8 (by decide) (by decide) ?_ ?_
      · intro h201
        exfalso
        omega
      · intro h202
        refine wk_al0 r57_11 (wk_getfr r57_12 fd_739_5 (br_739_5 hP0) (wk_il1 r57_15 (wk_iald r57_16 ar_740 ⟨by omega, by omega⟩ e4 (wk_il4 r57_17 (wk_ishrc r57_19 ⟨by omega, by omega⟩ (by decide) pwl_1 (wk_c1 r57_20 (wk_iandc 1 2 r57_21 ⟨rfl, by decide⟩ rfl ?_)))))))
        refine wk_ifne r57_22 ⟨by omega, by omega⟩ ?_ ?_
        · intro h205
          refine wk_il3 r57_28 ?_
          refine wk_ifne r57_29 ⟨by omega, by omega⟩ ?_ ?_
          · intro h206
            refine wk_inc3 r57_35 rfl (wk_il4 r57_38 (wk_c1 r57_40 ?_))
            refine wk_iceq r57_41 (by decide) (by decide) ?_ ?_
            · intro h207
              exfalso
              omega
            · intro h208
              refine wk_goto r57_44 (wk_inc4 r57_57 rfl (wk_goto r57_60 (wk_il4 r57_5 (wk_c1 r57_7 ?_))))
              refine wk_icgt r57_8 (by decide) (by decide) ?_ ?_
              · intro h209
                exfalso
                omega
              · intro h210
                refine wk_al0 r57_11 (wk_getfr r57_12 fd_739_5 (br_739_5 hP0) (wk_il1 r57_15 (wk_iald r57_16 ar_740 ⟨by omega, by omega⟩ e4 (wk_il4 r57_17 (wk_ishrc r57_19 ⟨by omega, by omega⟩ (by decide) pwl_2 (wk_c1 r57_20 (wk_iandc 1 2 r57_21 ⟨rfl, by decide⟩ rfl ?_)))))))
                refine wk_ifne r57_22 ⟨by omega, by omega⟩ ?_ ?_
                · intro h213
                  refine wk_il3 r57_28 ?_
                  refine wk_ifne r57_29 ⟨by omega, by omega⟩ ?_ ?_
                  · intro h214
                    refine wk_inc3 r57_35 rfl (wk_il4 r57_38 (wk_c1 r57_40 ?_))
                    refine wk_iceq r57_41 (by decide) (by decide) ?_ ?_
                    · intro h215
                      refine wk_il3 r57_47 ?_
                      refine wk_ifne r57_48 ⟨by omega, by omega⟩ ?_ ?_
                      · intro h216
                        refine wk_inc3 r57_54 rfl (wk_inc4 r57_57 rfl (wk_goto r57_60 (wk_il4 r57_5 (wk_c1 r57_7 ?_))))
                        refine wk_icgt r57_8 (by decide) (by decide) ?_ ?_
                        · intro h217
                          exfalso
                          omega
                        · intro h218
                          refine wk_al0 r57_11 (wk_getfr r57_12 fd_739_5 (br_739_5 hP0) (wk_il1 r57_15 (wk_iald r57_16 ar_740 ⟨by omega, by omega⟩ e4 (wk_il4 r57_17 (wk_ishrc r57_19 ⟨by omega, by omega⟩ (by decide) pwl_3 (wk_c1 r57_20 (wk_iandc 1 2 r57_21 ⟨rfl, by decide⟩ rfl ?_)))))))
                          refine wk_ifne r57_22 ⟨by omega, by omega⟩ ?_ ?_
                          · intro h221
                            refine wk_il3 r57_28 ?_
                            refine wk_ifne r57_29 ⟨by omega, by omega⟩ ?_ ?_
                            · intro h222
                              refine wk_inc3 r57_35 rfl (wk_il4 r57_38 (wk_c1 r57_40 ?_))
                              refine wk_iceq r57_41 (by decide) (by decide) ?_ ?_
                              · intro h223
                                exfalso
                                omega
                              · intro h224
                                refine wk_goto r57_44 (wk_inc4 r57_57 rfl (wk_goto r57_60 (wk_il4 r57_5 (wk_c1 r57_7 ?_))))
                                refine wk_icgt r57_8 (by decide) (by decide) ?_ ?_
                                · intro h225
                                  exfalso
                                  omega
                                · intro h226
                                  refine wk_al0 r57_11 (wk_getfr r57_12 fd_739_5 (br_739_5 hP0) (wk_il1 r57_15 (wk_iald r57_16 ar_740 ⟨by omega, by omega⟩ e4 (wk_il4 r57_17 (wk_ishrc r57_19 ⟨by omega, by omega⟩ (by decide) pwl_4 (wk_c1 r57_20 (wk_iandc 1 2 r57_21 ⟨rfl, by decide⟩ rfl ?_)))))))
                                  refine wk_ifne r57_22 ⟨by omega, by omega⟩ ?_ ?_
                                  · intro h229
                                    refine wk_il3 r57_28 ?_
                                    refine wk_ifne r57_29 ⟨by omega, by omega⟩ ?_ ?_
                                    · intro h230
                                      refine wk_inc3 r57_35 rfl (wk_il4 r57_38 (wk_c1 r57_40 ?_))
                                      refine wk_iceq r57_41 (by decide) (by decide) ?_ ?_
                                      · intro h231
                                        exfalso
                                        omega
                                      · intro h232
                                        refine wk_goto r57_44 (wk_inc4 r57_57 rfl (wk_goto r57_60 (wk_il4 r57_5 (wk_c1 r57_7 ?_))))
                                        refine wk_icgt r57_8 (by decide) (by decide) ?_ ?_
                                        · intro h233
                                          refine wk_c1 r57_63 ?_
                                          subst hQ; exact wk_iret r57_64 (⟨rfl, _, rfl, hP0, hF0, by omega, by omega, by rw [e4]; exact CHQ_u (Or.inl ⟨by omega, by omega⟩), by unfold cT; rw [e4]; exact ⟨fun q => by omega, fun q => by omega⟩⟩)
                                        · intro h234
                                          exfalso
                                          omega
                                    · intro h235
                                      refine wk_il4 r57_32 ?_
                                      subst hQ; exact wk_iret r57_34 (⟨rfl, _, rfl, hP0, hF0, by omega, by omega, by rw [e4]; exact CHQ_u (Or.inr (Or.inr (Or.inr (Or.inr (Or.inr (Or.inr (⟨by omega, by omega, by omega⟩))))))), by unfold cT; rw [e4]; exact ⟨fun q => by omega, fun q => by omega⟩⟩)
                                  · intro h236
                                    refine wk_goto r57_25 (wk_inc4 r57_57 rfl (wk_goto r57_60 (wk_il4 r57_5 (wk_c1 r57_7 ?_))))
                                    refine wk_icgt r57_8 (by decide) (by decide) ?_ ?_
                                    · intro h237
                                      refine wk_c1 r57_63 ?_
                                      subst hQ; exact wk_iret r57_64 (⟨rfl, _, rfl, hP0, hF0, by omega, by omega, by rw [e4]; exact CHQ_u (Or.inl ⟨by omega, by omega⟩), by unfold cT; rw [e4]; exact ⟨fun q => by omega, fun q => by omega⟩⟩)
                                    · intro h238
                                      exfalso
                                      omega
                            · intro h239
                              refine wk_il4 r57_32 ?_
                              subst hQ; exact wk_iret r57_34 (⟨rfl, _, rfl, hP0, hF0, by omega, by omega, by rw [e4]; exact CHQ_u (Or.inr (Or.inr (Or.inr (Or.inr (Or.inr (Or.inl ⟨by omega, by omega, by omega⟩)))))), by unfold cT; rw [e4]; exact ⟨fun q => by omega, fun q => by omega⟩⟩)
                          · intro h240
                            refine wk_goto r57_25 (wk_inc4 r57_57 rfl (wk_goto r57_60 (wk_il4 r57_5 (wk_c1 r57_7 ?_))))
                            refine wk_icgt r57_8 (by decide) (by decide) ?_ ?_
                            · intro h241
                              exfalso
                              omega
                            · intro h242
                              refine wk_al0 r57_11 (wk_getfr r57_12 fd_739_5 (br_739_5 hP0) (wk_il1 r57_15 (wk_iald r57_16 ar_740 ⟨by omega, by omega⟩ e4 (wk_il4 r57_17 (wk_ishrc r57_19 ⟨by omega, by omega⟩ (by decide) pwl_4 (wk_c1 r57_20 (wk_iandc 1 2 r57_21 ⟨rfl, by decide⟩ rfl ?_)))))))
                              refine wk_ifne r57_22 ⟨by omega, by omega⟩ ?_ ?_
                              · intro h245
                                refine wk_il3 r57_28 ?_
                                refine wk_ifne r57_29 ⟨by omega, by omega⟩ ?_ ?_
                                · intro h246
                                  refine wk_inc3 r57_35 rfl (wk_il4 r57_38 (wk_c1 r57_40 ?_))
                                  refine wk_iceq r57_41 (by decide) (by decide) ?_ ?_
                                  · intro h247
                                    exfalso
                                    omega
                                  · intro h248
                                    refine wk_goto r57_44 (wk_inc4 r57_57 rfl (wk_goto r57_60 (wk_il4 r57_5 (wk_c1 r57_7 ?_))))
                                    refine wk_icgt r57_8 (by decide) (by decide) ?_ ?_
                                    · intro h249
                                      refine wk_c1 r57_63 ?_
                                      subst hQ; exact wk_iret r57_64 (⟨rfl, _, rfl, hP0, hF0, by omega, by omega, by rw [e4]; exact CHQ_u (Or.inl ⟨by omega, by omega⟩), by unfold cT; rw [e4]; exact ⟨fun q => by omega, fun q => by omega⟩⟩)
                                    · intro h250
                                      exfalso
                                      omega
                                · intro h251
                                  refine wk_il4 r57_32 ?_
                                  subst hQ; exact wk_iret r57_34 (⟨rfl, _, rfl, hP0, hF0, by omega, by omega, by rw [e4]; exact CHQ_u (Or.inr (Or.inr (Or.inr (Or.inr (Or.inr (Or.inr (⟨by omega, by omega, by omega⟩))))))), by unfold cT; rw [e4]; exact ⟨fun q => by omega, fun q => by omega⟩⟩)
                              · intro h252
                                refine wk_goto r57_25 (wk_inc4 r57_57 rfl (wk_goto r57_60 (wk_il4 r57_5 (wk_c1 r57_7 ?_))))
                                refine wk_icgt r57_8 (by decide) (by decide) ?_ ?_
                                · intro h253
                                  refine wk_c1 r57_63 ?_
                                  subst hQ; exact wk_iret r57_64 (⟨rfl, _, rfl, hP0, hF0, by omega, by omega, by rw [e4]; exact CHQ_u (Or.inl ⟨by omega, by omega⟩), by unfold cT; rw [e4]; exact ⟨fun q => by omega, fun q => by omega⟩⟩)
                                · intro h254
                                  exfalso
                                  omega
                      · intro h255
                        refine wk_c2 r57_51 ?_
                        subst hQ; exact wk_iret r57_53 (⟨rfl, _, rfl, hP0, hF0, by omega, by omega, by rw [e4]; exact CHQ_u (Or.inr (Or.inr (Or.inr (Or.inr (Or.inl ⟨by omega, by omega, by omega⟩))))), by unfold cT; rw [e4]; exact ⟨fun q => by omega, fun q => by omega⟩⟩)
                    · intro h256
                      exfalso
                      omega
                  · intro h257
                    refine wk_il4 r57_32 ?_
                    subst hQ; exact wk_iret r57_34 (⟨rfl, _, rfl, hP0, hF0, by omega, by omega, by rw [e4]; exact CHQ_u (Or.inr (Or.inr (Or.inr (Or.inl ⟨by omega, by omega, by omega⟩)))), by unfold cT; rw [e4]; exact ⟨fun q => by omega, fun q => by omega⟩⟩)
                · intro h258
                  refine wk_goto r57_25 (wk_inc4 r57_57 rfl (wk_goto r57_60 (wk_il4 r57_5 (wk_c1 r57_7 ?_))))
                  refine wk_icgt r57_8 (by decide) (by decide) ?_ ?_
                  · intro h259
                    exfalso
                    omega
                  · intro h260
                    refine wk_al0 r57_11 (wk_getfr r57_12 fd_739_5 (br_739_5 hP0) (wk_il1 r57_15 (wk_iald r57_16 ar_740 ⟨by omega, by omega⟩ e4 (wk_il4 r57_17 (wk_ishrc r57_19 ⟨by omega, by omega⟩ (by decide) pwl_3 (wk_c1 r57_20 (wk_iandc 1 2 r57_21 ⟨rfl, by decide⟩ rfl ?_)))))))
                    refine wk_ifne r57_22 ⟨by omega, by omega⟩ ?_ ?_
                    · intro h263
                      refine wk_il3 r57_28 ?_
                      refine wk_ifne r57_29 ⟨by omega, by omega⟩ ?_ ?_
                      · intro h264
                        refine wk_inc3 r57_35 rfl (wk_il4 r57_38 (wk_c1 r57_40 ?_))
                        refine wk_iceq r57_41 (by decide) (by decide) ?_ ?_
                        · intro h265
                          exfalso
                          omega
                        · intro h266
                          refine wk_goto r57_44 (wk_inc4 r57_57 rfl (wk_goto r57_60 (wk_il4 r57_5 (wk_c1 r57_7 ?_))))
                          refine wk_icgt r57_8 (by decide) (by decide) ?_ ?_
                          · intro h267
                            exfalso
                            omega
                          · intro h268
                            refine wk_al0 r57_11 (wk_getfr r57_12 fd_739_5 (br_739_5 hP0) (wk_il1 r57_15 (wk_iald r57_16 ar_740 ⟨by omega, by omega⟩ e4 (wk_il4 r57_17 (wk_ishrc r57_19 ⟨by omega, by omega⟩ (by decide) pwl_4 (wk_c1 r57_20 (wk_iandc 1 2 r57_21 ⟨rfl, by decide⟩ rfl ?_)))))))
                            refine wk_ifne r57_22 ⟨by omega, by omega⟩ ?_ ?_
                            · intro h271
                              refine wk_il3 r57_28 ?_
                              refine wk_ifne r57_29 ⟨by omega, by omega⟩ ?_ ?_
                              · intro h272
                                refine wk_inc3 r57_35 rfl (wk_il4 r57_38 (wk_c1 r57_40 ?_))
                                refine wk_iceq r57_41 (by decide) (by decide) ?_ ?_
                                · intro h273
                                  exfalso
                                  omega
                                · intro h274
                                  refine wk_goto r57_44 (wk_inc4 r57_57 rfl (wk_goto r57_60 (wk_il4 r57_5 (wk_c1 r57_7 ?_))))
                                  refine wk_icgt r57_8 (by decide) (by decide) ?_ ?_
                                  · intro h275
                                    refine wk_c1 r57_63 ?_
                                    subst hQ; exact wk_iret r57_64 (⟨rfl, _, rfl, hP0, hF0, by omega, by omega, by rw [e4]; exact CHQ_u (Or.inl ⟨by omega, by omega⟩), by unfold cT; rw [e4]; exact ⟨fun q => by omega, fun q => by omega⟩⟩)
                                  · intro h276
                                    exfalso
                                    omega
                              · intro h277
                                refine wk_il4 r57_32 ?_
                                subst hQ; exact wk_iret r57_34 (⟨rfl, _, rfl, hP0, hF0, by omega, by omega, by rw [e4]; exact CHQ_u (Or.inr (Or.inr (Or.inr (Or.inr (Or.inr (Or.inr (⟨by omega, by omega, by omega⟩))))))), by unfold cT; rw [e4]; exact ⟨fun q => by omega, fun q => by omega⟩⟩)
                            · intro h278
                              refine wk_goto r57_25 (wk_inc4 r57_57 rfl (wk_goto r57_60 (wk_il4 r57_5 (wk_c1 r57_7 ?_))))
                              refine wk_icgt r57_8 (by decide) (by decide) ?_ ?_
                              · intro h279
                                refine wk_c1 r57_63 ?_
                                subst hQ; exact wk_iret r57_64 (⟨rfl, _, rfl, hP0, hF0, by omega, by omega, by rw [e4]; exact CHQ_u (Or.inl ⟨by omega, by omega⟩), by unfold cT; rw [e4]; exact ⟨fun q => by omega, fun q => by omega⟩⟩)
                              · intro h280
                                exfalso
                                omega
                      · intro h281
                        refine wk_il4 r57_32 ?_
                        subst hQ; exact wk_iret r57_34 (⟨rfl, _, rfl, hP0, hF0, by omega, by omega, by rw [e4]; exact CHQ_u (Or.inr (Or.inr (Or.inr (Or.inr (Or.inr (Or.inl ⟨by omega, by omega, by omega⟩)))))), by unfold cT; rw [e4]; exact ⟨fun q => by omega, fun q => by omega⟩⟩)
                    · intro h282
                      refine wk_goto r57_25 (wk_inc4 r57_57 rfl (wk_goto r57_60 (wk_il4 r57_5 (wk_c1 r57_7 ?_))))
                      refine wk_icgt r57_8 (by decide) (by decide) ?_ ?_
                      · intro h283
                        exfalso
                        omega
                      · intro h284
                        refine wk_al0 r57_11 (wk_getfr r57_12 fd_739_5 (br_739_5 hP0) (wk_il1 r57_15 (wk_iald r57_16 ar_740 ⟨by omega, by omega⟩ e4 (wk_il4 r57_17 (wk_ishrc r57_19 ⟨by omega, by omega⟩ (by decide) pwl_4 (wk_c1 r57_20 (wk_iandc 1 2 r57_21 ⟨rfl, by decide⟩ rfl ?_)))))))
                        refine wk_ifne r57_22 ⟨by omega, by omega⟩ ?_ ?_
                        · intro h287
                          refine wk_il3 r57_28 ?_
                          refine wk_ifne r57_29 ⟨by omega, by omega⟩ ?_ ?_
                          · intro h288
                            refine wk_inc3 r57_35 rfl (wk_il4 r57_38 (wk_c1 r57_40 ?_))
                            refine wk_iceq r57_41 (by decide) (by decide) ?_ ?_
                            · intro h289
                              exfalso
                              omega
                            · intro h290
                              refine wk_goto r57_44 (wk_inc4 r57_57 rfl (wk_goto r57_60 (wk_il4 r57_5 (wk_c1 r57_7 ?_))))
                              refine wk_icgt r57_8 (by decide) (by decide) ?_ ?_
                              · intro h291
                                refine wk_c1 r57_63 ?_
                                subst hQ; exact wk_iret r57_64 (⟨rfl, _, rfl, hP0, hF0, by omega, by omega, by rw [e4]; exact CHQ_u (Or.inl ⟨by omega, by omega⟩), by unfold cT; rw [e4]; exact ⟨fun q => by omega, fun q => by omega⟩⟩)
                              · intro h292
                                exfalso
                                omega
                          · intro h293
                            refine wk_il4 r57_32 ?_
                            subst hQ; exact wk_iret r57_34 (⟨rfl, _, rfl, hP0, hF0, by omega, by omega, by rw [e4]; exact CHQ_u (Or.inr (Or.inr (Or.inr (Or.inr (Or.inr (Or.inr (⟨by omega, by omega, by omega⟩))))))), by unfold cT; rw [e4]; exact ⟨fun q => by omega, fun q => by omega⟩⟩)
                        · intro h294
                          refine wk_goto r57_25 (wk_inc4 r57_57 rfl (wk_goto r57_60 (wk_il4 r57_5 (wk_c1 r57_7 ?_))))
                          refine wk_icgt r57_8 (by decide) (by decide) ?_ ?_
                          · intro h295
                            refine wk_c1 r57_63 ?_
                            subst hQ; exact wk_iret r57_64 (⟨rfl, _, rfl, hP0, hF0, by omega, by omega, by rw [e4]; exact CHQ_u (Or.inl ⟨by omega, by omega⟩), by unfold cT; rw [e4]; exact ⟨fun q => by omega, fun q => by omega⟩⟩)
                          · intro h296
                            exfalso
                            omega
          · intro h297
            refine wk_il4 r57_32 ?_
            subst hQ; exact wk_iret r57_34 (⟨rfl, _, rfl, hP0, hF0, by omega, by omega, by rw [e4]; exact CHQ_u (Or.inr (Or.inr (Or.inl ⟨by omega, by omega, by omega⟩))), by unfold cT; rw [e4]; exact ⟨fun q => by omega, fun q => by omega⟩⟩)
        · intro h298
          refine wk_goto r57_25 (wk_inc4 r57_57 rfl (wk_goto r57_60 (wk_il4 r57_5 (wk_c1 r57_7 ?_))))
          refine wk_icgt r57_8 (by decide) (by decide) ?_ ?_
          · intro h299
            exfalso
            omega
          · intro h300
            refine wk_al0 r57_11 (wk_getfr r57_12 fd_739_5 (br_739_5 hP0) (wk_il1 r57_15 (wk_iald r57_16 ar_740 ⟨by omega, by omega⟩ e4 (wk_il4 r57_17 (wk_ishrc r57_19 ⟨by omega, by omega⟩ (by decide) pwl_2 (wk_c1 r57_20 (wk_iandc 1 2 r57_21 ⟨rfl, by decide⟩ rfl ?_)))))))
            refine wk_ifne r57_22 ⟨by omega, by omega⟩ ?_ ?_
            · intro h303
              refine wk_il3 r57_28 ?_
              refine wk_ifne r57_29 ⟨by omega, by omega⟩ ?_ ?_
              · intro h304
                refine wk_inc3 r57_35 rfl (wk_il4 r57_38 (wk_c1 r57_40 ?_))
                refine wk_iceq r57_41 (by decide) (by decide) ?_ ?_
                · intro h305
                  refine wk_il3 r57_47 ?_
                  refine wk_ifne r57_48 ⟨by omega, by omega⟩ ?_ ?_
                  · intro h306
                    refine wk_inc3 r57_54 rfl (wk_inc4 r57_57 rfl (wk_goto r57_60 (wk_il4 r57_5 (wk_c1 r57_7 ?_))))
                    refine wk_icgt r57_8 (by decide) (by decide) ?_ ?_
                    · intro h307
                      exfalso
                      omega
                    · intro h308
                      refine wk_al0 r57_11 (wk_getfr r57_12 fd_739_5 (br_739_5 hP0) (wk_il1 r57_15 (wk_iald r57_16 ar_740 ⟨by omega, by omega⟩ e4 (wk_il4 r57_17 (wk_ishrc r57_19 ⟨by omega, by omega⟩ (by decide) pwl_3 (wk_c1 r57_20 (wk_iandc 1 2 r57_21 ⟨rfl, by decide⟩ rfl ?_)))))))
                      refine wk_ifne r57_22 ⟨by omega, by omega⟩ ?_ ?_
                      · intro h311
                        refine wk_il3 r57_28 ?_
                        refine wk_ifne r57_29 ⟨by omega, by omega⟩ ?_ ?_
                        · intro h312
                          refine wk_inc3 r57_35 rfl (wk_il4 r57_38 (wk_c1 r57_40 ?_))
                          refine wk_iceq r57_41 (by decide) (by decide) ?_ ?_
                          · intro h313
                            exfalso
                            omega
                          · intro h314
                            refine wk_goto r57_44 (wk_inc4 r57_57 rfl (wk_goto r57_60 (wk_il4 r57_5 (wk_c1 r57_7 ?_))))
                            refine wk_icgt r57_8 (by decide) (by decide) ?_ ?_
                            · intro h315
                              exfalso
                              omega
                            · intro h316
                              refine wk_al0 r57_11 (wk_getfr r57_12 fd_739_5 (br_739_5 hP0) (wk_il1 r57_15 (wk_iald r57_16 ar_740 ⟨by omega, by omega⟩ e4 (wk_il4 r57_17 (wk_ishrc r57_19 ⟨by omega, by omega⟩ (by decide) pwl_4 (wk_c1 r57_20 (wk_iandc 1 2 r57_21 ⟨rfl, by decide⟩ rfl ?_)))))))
                              refine wk_ifne r57_22 ⟨by omega, by omega⟩ ?_ ?_
                              · intro h319
                                refine wk_il3 r57_28 ?_
                                refine wk_ifne r57_29 ⟨by omega, by omega⟩ ?_ ?_
                                · intro h320
                                  refine wk_inc3 r57_35 rfl (wk_il4 r57_38 (wk_c1 r57_40 ?_))
                                  refine wk_iceq r57_41 (by decide) (by decide) ?_ ?_
                                  · intro h321
                                    exfalso
                                    omega
                                  · intro h322
                                    refine wk_goto r57_44 (wk_inc4 r57_57 rfl (wk_goto r57_60 (wk_il4 r57_5 (wk_c1 r57_7 ?_))))
                                    refine wk_icgt r57_8 (by decide) (by decide) ?_ ?_
                                    · intro h323
                                      refine wk_c1 r57_63 ?_
                                      subst hQ; exact wk_iret r57_64 (⟨rfl, _, rfl, hP0, hF0, by omega, by omega, by rw [e4]; exact CHQ_u (Or.inl ⟨by omega, by omega⟩), by unfold cT; rw [e4]; exact ⟨fun q => by omega, fun q => by omega⟩⟩)
                                    · intro h324
                                      exfalso
                                      omega
                                · intro h325
                                  refine wk_il4 r57_32 ?_
                                  subst hQ; exact wk_iret r57_34 (⟨rfl, _, rfl, hP0, hF0, by omega, by omega, by rw [e4]; exact CHQ_u (Or.inr (Or.inr (Or.inr (Or.inr (Or.inr (Or.inr (⟨by omega, by omega, by omega⟩))))))), by unfold cT; rw [e4]; exact ⟨fun q => by omega, fun q => by omega⟩⟩)
                              · intro h326
                                refine wk_goto r57_25 (wk_inc4 r57_57 rfl (wk_goto r57_60 (wk_il4 r57_5 (wk_c1 r57_7 ?_))))
                                refine wk_icgt r57_8 (by decide) (by decide) ?_ ?_
                                · intro h327
                                  refine wk_c1 r57_63 ?_
                                  subst hQ; exact wk_iret r57_64 (⟨rfl, _, rfl, hP0, hF0, by omega, by omega, by rw [e4]; exact CHQ_u (Or.inl ⟨by omega, by omega⟩), by unfold cT; rw [e4]; exact ⟨fun q => by omega, fun q => by omega⟩⟩)
                                · intro h328
                                  exfalso
                                  omega
                        · intro h329
                          refine wk_il4 r57_32 ?_
                          subst hQ; exact wk_iret r57_34 (⟨rfl, _, rfl, hP0, hF0, by omega, by omega, by rw [e4]; exact CHQ_u (Or.inr (Or.inr (Or.inr (Or.inr (Or.inr (Or.inl ⟨by omega, by omega, by omega⟩)))))), by unfold cT; rw [e4]; exact ⟨fun q => by omega, fun q => by omega⟩⟩)
                      · intro h330
                        refine wk_goto r57_25 (wk_inc4 r57_57 rfl (wk_goto r57_60 (wk_il4 r57_5 (wk_c1 r57_7 ?_))))
                        refine wk_icgt r57_8 (by decide) (by decide) ?_ ?_
                        · intro h331
                          exfalso
                          omega
                        · intro h332
                          refine wk_al0 r57_11 (wk_getfr r57_12 fd_739_5 (br_739_5 hP0) (wk_il1 r57_15 (wk_iald r57_16 ar_740 ⟨by omega, by omega⟩ e4 (wk_il4 r57_17 (wk_ishrc r57_19 ⟨by omega, by omega⟩ (by decide) pwl_4 (wk_c1 r57_20 (wk_iandc 1 2 r57_21 ⟨rfl, by decide⟩ rfl ?_)))))))
                          refine wk_ifne r57_22 ⟨by omega, by omega⟩ ?_ ?_
                          · intro h335
                            refine wk_il3 r57_28 ?_
                            refine wk_ifne r57_29 ⟨by omega, by omega⟩ ?_ ?_
                            · intro h336
                              refine wk_inc3 r57_35 rfl (wk_il4 r57_38 (wk_c1 r57_40 ?_))
                              refine wk_iceq r57_41 (by decide) (by decide) ?_ ?_
                              · intro h337
                                exfalso
                                omega
                              · intro h338
                                refine wk_goto r57_44 (wk_inc4 r57_57 rfl (wk_goto r57_60 (wk_il4 r57_5 (wk_c1 r57_7 ?_))))
                                refine wk_icgt r57_8 (by decide) (by decide) ?_ ?_
                                · intro h339
                                  refine wk_c1 r57_63 ?_
                                  subst hQ; exact wk_iret r57_64 (⟨rfl, _, rfl, hP0, hF0, by omega, by omega, by rw [e4]; exact CHQ_u (Or.inl ⟨by omega, by omega⟩), by unfold cT; rw [e4]; exact ⟨fun q => by omega, fun q => by omega⟩⟩)
                                · intro h340
                                  exfalso
                                  omega
                            · intro h341
                              refine wk_il4 r57_32 ?_
                              subst hQ; exact wk_iret r57_34 (⟨rfl, _, rfl, hP0, hF0, by omega, by omega, by rw [e4]; exact CHQ_u (Or.inr (Or.inr (Or.inr (Or.inr (Or.inr (Or.inr (⟨by omega, by omega, by omega⟩))))))), by unfold cT; rw [e4]; exact ⟨fun q => by omega, fun q => by omega⟩⟩)
                          · intro h342
                            refine wk_goto r57_25 (wk_inc4 r57_57 rfl (wk_goto r57_60 (wk_il4 r57_5 (wk_c1 r57_7 ?_))))
                            refine wk_icgt r57_8 (by decide) (by decide) ?_ ?_
                            · intro h343
                              refine wk_c1 r57_63 ?_
                              subst hQ; exact wk_iret r57_64 (⟨rfl, _, rfl, hP0, hF0, by omega, by omega, by rw [e4]; exact CHQ_u (Or.inl ⟨by omega, by omega⟩), by unfold cT; rw [e4]; exact ⟨fun q => by omega, fun q => by omega⟩⟩)
                            · intro h344
                              exfalso
                              omega
                  · intro h345
                    refine wk_c2 r57_51 ?_
                    subst hQ; exact wk_iret r57_53 (⟨rfl, _, rfl, hP0, hF0, by omega, by omega, by rw [e4]; exact CHQ_u (Or.inr (Or.inr (Or.inr (Or.inr (Or.inl ⟨by omega, by omega, by omega⟩))))), by unfold cT; rw [e4]; exact ⟨fun q => by omega, fun q => by omega⟩⟩)
                · intro h346
                  exfalso
                  omega
              · intro h347
                refine wk_il4 r57_32 ?_
                subst hQ; exact wk_iret r57_34 (⟨rfl, _, rfl, hP0, hF0, by omega, by omega, by rw [e4]; exact CHQ_u (Or.inr (Or.inr (Or.inr (Or.inl ⟨by omega, by omega, by omega⟩)))), by unfold cT; rw [e4]; exact ⟨fun q => by omega, fun q => by omega⟩⟩)
            · intro h348
              refine wk_goto r57_25 (wk_inc4 r57_57 rfl (wk_goto r57_60 (wk_il4 r57_5 (wk_c1 r57_7 ?_))))
              refine wk_icgt r57_8 (by decide) (by decide) ?_ ?_
              · intro h349
                exfalso
                omega
              · intro h350
                refine wk_al0 r57_11 (wk_getfr r57_12 fd_739_5 (br_739_5 hP0) (wk_il1 r57_15 (wk_iald r57_16 ar_740 ⟨by omega, by omega⟩ e4 (wk_il4 r57_17 (wk_ishrc r57_19 ⟨by omega, by omega⟩ (by decide) pwl_3 (wk_c1 r57_20 (wk_iandc 1 2 r57_21 ⟨rfl, by decide⟩ rfl ?_)))))))
                refine wk_ifne r57_22 ⟨by omega, by omega⟩ ?_ ?_
                · intro h353
                  refine wk_il3 r57_28 ?_
                  refine wk_ifne r57_29 ⟨by omega, by omega⟩ ?_ ?_
                  · intro h354
                    refine wk_inc3 r57_35 rfl (wk_il4 r57_38 (wk_c1 r57_40 ?_))
                    refine wk_iceq r57_41 (by decide) (by decide) ?_ ?_
                    · intro h355
                      exfalso
                      omega
                    · intro h356
                      refine wk_goto r57_44 (wk_inc4 r57_57 rfl (wk_goto r57_60 (wk_il4 r57_5 (wk_c1 r57_7 ?_))))
                      refine wk_icgt r57_8 (by decide) (by decide) ?_ ?_
                      · intro h357
                        exfalso
                        omega
                      · intro h358
                        refine wk_al0 r57_11 (wk_getfr r57_12 fd_739_5 (br_739_5 hP0) (wk_il1 r57_15 (wk_iald r57_16 ar_740 ⟨by omega, by omega⟩ e4 (wk_il4 r57_17 (wk_ishrc r57_19 ⟨by omega, by omega⟩ (by decide) pwl_4 (wk_c1 r57_20 (wk_iandc 1 2 r57_21 ⟨rfl, by decide⟩ rfl ?_)))))))
                        refine wk_ifne r57_22 ⟨by omega, by omega⟩ ?_ ?_
                        · intro h361
                          refine wk_il3 r57_28 ?_
                          refine wk_ifne r57_29 ⟨by omega, by omega⟩ ?_ ?_
                          · intro h362
                            refine wk_inc3 r57_35 rfl (wk_il4 r57_38 (wk_c1 r57_40 ?_))
                            refine wk_iceq r57_41 (by decide) (by decide) ?_ ?_
                            · intro h363
                              exfalso
                              omega
                            · intro h364
                              refine wk_goto r57_44 (wk_inc4 r57_57 rfl (wk_goto r57_60 (wk_il4 r57_5 (wk_c1 r57_7 ?_))))
                              refine wk_icgt r57_8 (by decide) (by decide) ?_ ?_
                              · intro h365
                                refine wk_c1 r57_63 ?_
                                subst hQ; exact wk_iret r57_64 (⟨rfl, _, rfl, hP0, hF0, by omega, by omega, by rw [e4]; exact CHQ_u (Or.inl ⟨by omega, by omega⟩), by unfold cT; rw [e4]; exact ⟨fun q => by omega, fun q => by omega⟩⟩)
                              · intro h366
                                exfalso
                                omega
                          · intro h367
                            refine wk_il4 r57_32 ?_
                            subst hQ; exact wk_iret r57_34 (⟨rfl, _, rfl, hP0, hF0, by omega, by omega, by rw [e4]; exact CHQ_u (Or.inr (Or.inr (Or.inr (Or.inr (Or.inr (Or.inr (⟨by omega, by omega, by omega⟩))))))), by unfold cT; rw [e4]; exact ⟨fun q => by omega, fun q => by omega⟩⟩)
                        · intro h368
                          refine wk_goto r57_25 (wk_inc4 r57_57 rfl (wk_goto r57_60 (wk_il4 r57_5 (wk_c1 r57_7 ?_))))
                          refine wk_icgt r57_8 (by decide) (by decide) ?_ ?_
                          · intro h369
                            refine wk_c1 r57_63 ?_
                            subst hQ; exact wk_iret r57_64 (⟨rfl, _, rfl, hP0, hF0, by omega, by omega, by rw [e4]; exact CHQ_u (Or.inl ⟨by omega, by omega⟩), by unfold cT; rw [e4]; exact ⟨fun q => by omega, fun q => by omega⟩⟩)
                          · intro h370
                            exfalso
                            omega
                  · intro h371
                    refine wk_il4 r57_32 ?_
                    subst hQ; exact wk_iret r57_34 (⟨rfl, _, rfl, hP0, hF0, by omega, by omega, by rw [e4]; exact CHQ_u (Or.inr (Or.inr (Or.inr (Or.inr (Or.inr (Or.inl ⟨by omega, by omega, by omega⟩)))))), by unfold cT; rw [e4]; exact ⟨fun q => by omega, fun q => by omega⟩⟩)
                · intro h372
                  refine wk_goto r57_25 (wk_inc4 r57_57 rfl (wk_goto r57_60 (wk_il4 r57_5 (wk_c1 r57_7 ?_))))
                  refine wk_icgt r57_8 (by decide) (by decide) ?_ ?_
                  · intro h373
                    exfalso
                    omega
                  · intro h374
                    refine wk_al0 r57_11 (wk_getfr r57_12 fd_739_5 (br_739_5 hP0) (wk_il1 r57_15 (wk_iald r57_16 ar_740 ⟨by omega, by omega⟩ e4 (wk_il4 r57_17 (wk_ishrc r57_19 ⟨by omega, by omega⟩ (by decide) pwl_4 (wk_c1 r57_20 (wk_iandc 1 2 r57_21 ⟨rfl, by decide⟩ rfl ?_)))))))
                    refine wk_ifne r57_22 ⟨by omega, by omega⟩ ?_ ?_
                    · intro h377
                      refine wk_il3 r57_28 ?_
                      refine wk_ifne r57_29 ⟨by omega, by omega⟩ ?_ ?_
                      · intro h378
                        refine wk_inc3 r57_35 rfl (wk_il4 r57_38 (wk_c1 r57_40 ?_))
                        refine wk_iceq r57_41 (by decide) (by decide) ?_ ?_
                        · intro h379
                          exfalso
                          omega
                        · intro h380
                          refine wk_goto r57_44 (wk_inc4 r57_57 rfl (wk_goto r57_60 (wk_il4 r57_5 (wk_c1 r57_7 ?_))))
                          refine wk_icgt r57_8 (by decide) (by decide) ?_ ?_
                          · intro h381
                            refine wk_c1 r57_63 ?_
                            subst hQ; exact wk_iret r57_64 (⟨rfl, _, rfl, hP0, hF0, by omega, by omega, by rw [e4]; exact CHQ_u (Or.inl ⟨by omega, by omega⟩), by unfold cT; rw [e4]; exact ⟨fun q => by omega, fun q => by omega⟩⟩)
                          · intro h382
                            exfalso
                            omega
                      · intro h383
                        refine wk_il4 r57_32 ?_
                        subst hQ; exact wk_iret r57_34 (⟨rfl, _, rfl, hP0, hF0, by omega, by omega, by rw [e4]; exact CHQ_u (Or.inr (Or.inr (Or.inr (Or.inr (Or.inr (Or.inr (⟨by omega, by omega, by omega⟩))))))), by unfold cT; rw [e4]; exact ⟨fun q => by omega, fun q => by omega⟩⟩)
                    · intro h384
                      refine wk_goto r57_25 (wk_inc4 r57_57 rfl (wk_goto r57_60 (wk_il4 r57_5 (wk_c1 r57_7 ?_))))
                      refine wk_icgt r57_8 (by decide) (by decide) ?_ ?_
                      · intro h385
                        refine wk_c1 r57_63 ?_
                        subst hQ; exact wk_iret r57_64 (⟨rfl, _, rfl, hP0, hF0, by omega, by omega, by rw [e4]; exact CHQ_u (Or.inl ⟨by omega, by omega⟩), by unfold cT; rw [e4]; exact ⟨fun q => by omega, fun q => by omega⟩⟩)
                      · intro h386
                        exfalso
                        omega
def fm_n8136_739_741 : Nat := 1809251394438377845161853827458666587891013942719528908517073861377953628160
set_option maxHeartbeats 20000000 in
/-- IslandHallModel.worth -/
theorem n8136_739_741 {B : eB} (d : Nat) (M0 : Mm) (p2 : Int) (p3 : Int) (p4 : Int) (p5 : Int) (en : Int) (L : List Int) (hP0 : Pw M0) (l2 : 0 ≤ p2) (u2 : p2 ≤ 12000) (l3 : 0 ≤ p3) (u3 : p3 ≤ 2999) (l4 : 0 ≤ p4) (u4 : p4 ≤ 15) (l5 : (-2147483648) ≤ p5) (u5 : p5 ≤ 2147483647) (xp0 : SEG (fun k => M0 741 k) p2 en) (xp1 : en ≤ 800 ∧ en ≤ p2 + 500) (xp2 : LST (fun k => M0 741 k) p2 L) : Ct B (d + 4) 136 [R 739, R 741, I p2, I p3, I p4, I p5] M0 (qI fun z M => Pw M ∧ Fr fm_n8136_739_741 M0 M ∧ 0 ≤ z ∧ z ≤ 1 ∧ (M 739 53 = en) ∧ (∀ b, runR (evF M0 p3 p4 p5) L [] = [b] → z = b2i b)) := by
  refine ct_of (d := d + 3) (k := 6) (L := [some (R 739), some (R 741), some (I p2), some (I p3), some (I p4), some (I p5), none, none, none, none, none, none]) rfl rfl rfl ?_
  have hF0 := Fr.rf fm_n8136_739_741 M0
  generalize hQ : (qI fun z M => Pw M ∧ Fr fm_n8136_739_741 M0 M ∧ 0 ≤ z ∧ z ≤ 1 ∧ (M 739 53 = en) ∧ (∀ b, runR (evF M0 p3 p4 p5) L [] = [b] → z = b2i b)) = Q
  have hs0 := xp0.1
  have hs1 := xp0.2.1
  have hLen := LST_en xp2 xp0
  refine wk_c1 r136_0 (wk_is6 r136_1 rfl (wk_il2 r136_3 (wk_is7 r136_4 rfl ?_)))
  have c6_1441 : ∀ (k1441 : Nat) (M1303 : Mm) (v1297 : Int) (v1300 : Int), (799 - v1300).toNat = k1441 → Pw M1303 → Fr fm_n8136_739_741 M0 M1303 → 0 ≤ v1297 → v1297 ≤ 499 → 0 ≤ v1300 → v1300 ≤ 799 → 0 ≤ v1300 + (-1) * p2 → 0 ≤ (-1) * v1300 + en + (-1) → (v1297 = hgt (fun k => M0 741 k) p2 (v1300 - p2).toNat) → (WTI (evF M0 p3 p4 p5) (fun k => M0 741 k) (fun k => M1303 759 k) p2 v1300 v1297) → Wp B (d + 3) 136 6 [some (R 739), some (R 741), none, some (I p3), some (I p4), some (I p5), some (I v1297), some (I v1300), none, none, none, none] [] M1303 Q := by
    refine lp_ind ?_
    intro k1441 ih1441 M1303 v1297 v1300 hk1441 hP1304 hF1305 h1298 h1299 h1301 h1302 h1306 h1307 ti1308 ti1309
    refine wk_al1 r136_6 (wk_il7 r136_7 (wk_ialdb r136_9 ar_741 ⟨by omega, by omega⟩ (fun q0 q1 => ba_741 hP1304 q0 q1) ?_))
    intro v1310 h1312 h1313 e1311
    have h1314 := wr_at xp0 (k := v1300) (m := v1297) (by omega) (by omega) (show (fun k => M0 741 k) v1300 = v1310 from (hF1305.at (ga_741 _) rfl).symm.trans e1311) ti1308
    refine wk_ifeq r136_10 ⟨by omega, by omega⟩ ?_ ?_
    · intro h1315
      refine wk_al0 r136_248 (wk_il7 r136_249 (wk_c1 r136_251 (wk_iadd r136_252 (wk_putfi81 r136_253 fd_739_53 (wk_nw g_739_53 rfl hP1304 hF1305 (uf_739_53 ⟨by omega, by omega⟩) ?_)))))
      intro M1316 hP1317 hF1318 e1319
      refine wk_al0 r136_256 (wk_getfr r136_257 fd_739_52 (br_739_52 hP1317) (wk_c1 r136_260 (wk_ialdb r136_261 ar_759 (by decide) (fun q0 q1 => ba_759 hP1317 q0 q1) ?_)))
      intro v1320 h1322 h1323 e1321
      subst hQ; exact wk_iret r136_262 (⟨rfl, _, rfl, hP1317, hF1318, by omega, by omega, by have := (mUp_at e1319); omega, WTI_x ti1309 xp2 (by omega) (by show _ = _; rw [← e1321, e1319, mUp_ne (Or.inl (by decide))])⟩)
    · intro h1324
      have h1325 : v1300 ≤ en - 2 := by omega
      refine wk_al1 r136_13 (wk_il7 r136_14 (wk_iald r136_16 ar_741 ⟨by omega, by omega⟩ e1311 (wk_c2 r136_17 (wk_irem r136_19 ⟨by omega, by omega⟩ (by decide) (wk_is8 r136_20 rfl (wk_al1 r136_22 (wk_il7 r136_23 (wk_iald r136_25 ar_741 ⟨by omega, by omega⟩ e1311 (wk_c2 r136_26 (wk_idiv r136_28 ⟨by omega, by omega⟩ (by decide) (wk_c3 r136_29 (wk_irem r136_32 ⟨by omega, by omega⟩ (by decide) (wk_is9 r136_33 rfl (wk_al1 r136_35 (wk_il7 r136_36 (wk_iald r136_38 ar_741 ⟨by omega, by omega⟩ e1311 (wk_c3 r136_39 (wk_idiv r136_42 ⟨by omega, by omega⟩ (by decide) (wk_is10 r136_43 rfl (wk_inc7 r136_45 rfl (wk_il8 r136_48 (wk_c2 r136_50 ?_))))))))))))))))))))))
      refine wk_icne r136_52 ⟨by omega, by omega⟩ (by decide) ?_ ?_
      · intro h1329
        refine wk_il8 r136_78 (wk_c2 r136_80 ?_)
        refine wk_icne r136_82 ⟨by omega, by omega⟩ (by decide) ?_ ?_
        · intro h1330
          refine wk_il8 r136_147 (wk_c2 r136_149 ?_)
          refine wk_iceq r136_151 ⟨by omega, by omega⟩ (by decide) ?_ ?_
          · intro h1331
            have h1332 : 2 ≤ v1297 := by omega
            refine wk_inc6 r136_161 rfl (wk_al0 r136_164 (wk_getfr r136_165 fd_739_52 (br_739_52 hP1304) (wk_il6 r136_168 (wk_c1 r136_170 (wk_isub r136_171 (wk_il8 r136_172 (wk_c2 r136_174 ?_)))))))
            refine wk_icne r136_176 ⟨by omega, by omega⟩ (by decide) ?_ ?_
            · intro h1333
              exfalso
              omega
            · intro h1334
              refine wk_al0 r136_179 (wk_getfr r136_180 fd_739_52 (br_739_52 hP1304) (wk_il6 r136_183 (wk_c1 r136_185 (wk_isub r136_186 (wk_ialdb r136_187 ar_759 ⟨by omega, by omega⟩ (fun q0 q1 => ba_759 hP1304 q0 q1) ?_)))))
              intro v1335 h1337 h1338 e1336
              refine wk_al0 r136_188 (wk_getfr r136_189 fd_739_52 (br_739_52 hP1304) (wk_il6 r136_192 (wk_ialdb r136_194 ar_759 ⟨by omega, by omega⟩ (fun q0 q1 => ba_759 hP1304 q0 q1) ?_)))
              intro v1339 h1341 h1342 e1340
              refine wk_iand r136_195 ⟨by omega, by omega⟩ ⟨by omega, by omega⟩ ?_
              intro v1343 h1344 h1345 h1346 h1347
              refine wk_goto r136_196 ?_
              refine wk_iast r136_216 ar_759 ⟨by omega, by omega⟩ (wk_nw (ga_759 _) rfl hP1304 hF1305 (ua_759 ⟨by omega, by omega⟩) ?_)
              intro M1348 hP1349 hF1350 e1351
              refine wk_goto r136_217 (wk_goto r136_245 ?_)
              exact wp_fg (le_s (le_s (le_s (le_s (le_s (le_s (le_s (le_s (le_n (le_n (le_n (le_s le_0)))))))))))) (ih1441 (799 - (v1300 + 1)).toNat (by omega) M1348 (v1297 + (-1)) (v1300 + 1) rfl hP1349 hF1350 (by first | with_reducible assumption | omega) (by first | with_reducible assumption | omega) (by first | with_reducible assumption | omega) (by first | with_reducible assumption | omega) (by first | with_reducible assumption | omega) (by first | with_reducible assumption | omega) (by have q := hg_up (by omega) (show (fun k => M0 741 k) v1300 = v1310 from (hF1305.at (ga_741 _) rfl).symm.trans e1311) ti1308; rw [q]; split; (omega); (split <;> omega)) (WTI_st ti1309 (by omega) (show (fun k => M0 741 k) v1300 = v1310 from (hF1305.at (ga_741 _) rfl).symm.trans e1311) (fun st hs hm => W_bin (x := v1343) hs hm (by omega) (fun k q7 => by show M1348 759 k = _; rw [e1351, mUp_ne (Or.inr (by omega))]) (by show M1348 759 (v1297 - 1 - 1) = _; rw [show v1297 - 1 - 1 = ((v1297 + (-1)) - 1) by omega]; exact (mUp_at e1351)) (Or.inl ⟨by omega, by show _ = (((M1303 759 (v1297 - 1 - 1)).toNat &&& (M1303 759 (v1297 - 1)).toNat : Nat) : Int); rw [show v1297 - 1 - 1 = ((v1297 + (-1)) - 1) by omega, show v1297 - 1 = (v1297 + (-1)) by omega, e1336, e1340]; exact h1347⟩))))
          · intro h1352
            refine wk_il8 r136_154 (wk_c2 r136_156 ?_)
            refine wk_icne r136_158 ⟨by omega, by omega⟩ (by decide) ?_ ?_
            · intro h1353
              have h1354 : 1 ≤ (v1310 % 16) ∧ (v1310 % 16) ≤ 9 := by omega
              refine wk_al0 r136_220 (wk_getfr r136_221 fd_739_52 (br_739_52 hP1304) (wk_il6 r136_224 (wk_al0 r136_226 (wk_il8 r136_227 (wk_il9 r136_229 (wk_il10 r136_231 (wk_il3 r136_233 (wk_il4 r136_234 (wk_il5 r136_236 ?_)))))))))
              obtain ⟨v1355, e1356⟩ : ∃ v, M1303 739 1 = v := ⟨_, rfl⟩
              have h1357 := (bf_739_1 hP1304).1; rw [e1356] at h1357
              have h1358 := (bf_739_1 hP1304).2; rw [e1356] at h1358
              refine wk_cv7 r136_238 kc_739_48 rfl (n8048_739 _ M1303 (v1310 % 16) ((v1310 / 16) % 128) (v1310 / 2048) p3 p4 p5 v1355 hP1304 (by first | with_reducible assumption | omega) (by first | with_reducible assumption | omega) (by first | with_reducible assumption | omega) (by first | with_reducible assumption | omega) (by first | with_reducible assumption | omega) (by first | with_reducible assumption | omega) (by first | with_reducible assumption | omega) (by first | with_reducible assumption | omega) (by first | with_reducible assumption | omega) (by first | with_reducible assumption | omega) (by first | with_reducible assumption | omega) (by first | with_reducible assumption | omega) e1356 (by first | with_reducible assumption | omega) (by first | with_reducible assumption | omega) (by first | assumption | omega | (unfold stepok; omega)) (by first | assumption | omega | (unfold stepok; omega))) (cqI ?_)
              rintro v1364 M1359 ⟨hP1360, hQ1361, h1365, h1366, xh1363⟩
              obtain rfl := Fr.same hQ1361
              refine wk_iast r136_241 ar_759 ⟨by omega, by omega⟩ (wk_nw (ga_759 _) rfl hP1304 hF1305 (ua_759 ⟨by omega, by omega⟩) ?_)
              intro M1367 hP1368 hF1369 e1370
              refine wk_inc6 r136_242 rfl (wk_goto r136_245 ?_)
              exact wp_fg (le_s (le_s (le_s (le_s (le_s (le_s (le_s (le_s (le_n (le_n (le_n (le_s le_0)))))))))))) (ih1441 (799 - (v1300 + 1)).toNat (by omega) M1367 (v1297 + 1) (v1300 + 1) rfl hP1368 hF1369 (by first | with_reducible assumption | omega) (by first | with_reducible assumption | omega) (by first | with_reducible assumption | omega) (by first | with_reducible assumption | omega) (by first | with_reducible assumption | omega) (by first | with_reducible assumption | omega) (by have q := hg_up (by omega) (show (fun k => M0 741 k) v1300 = v1310 from (hF1305.at (ga_741 _) rfl).symm.trans e1311) ti1308; rw [q]; split; (omega); (split <;> omega)) (WTI_st ti1309 (by omega) (show (fun k => M0 741 k) v1300 = v1310 from (hF1305.at (ga_741 _) rfl).symm.trans e1311) (fun st hs hm => W_at hs hm (by omega) (fun k q7 => by show M1367 759 k = _; rw [e1370, mUp_ne (Or.inr q7)]) (mUp_at e1370) (by rw [← evF_sm (Sm.fr hF1305 rfl)]; exact xh1363 v1310 (by omega) (by omega) (by omega)))))
            · intro h1371
              have h1372 : 2 ≤ v1297 := by omega
              refine wk_inc6 r136_161 rfl (wk_al0 r136_164 (wk_getfr r136_165 fd_739_52 (br_739_52 hP1304) (wk_il6 r136_168 (wk_c1 r136_170 (wk_isub r136_171 (wk_il8 r136_172 (wk_c2 r136_174 ?_)))))))
              refine wk_icne r136_176 ⟨by omega, by omega⟩ (by decide) ?_ ?_
              · intro h1373
                refine wk_al0 r136_199 (wk_getfr r136_200 fd_739_52 (br_739_52 hP1304) (wk_il6 r136_203 (wk_c1 r136_205 (wk_isub r136_206 (wk_ialdb r136_207 ar_759 ⟨by omega, by omega⟩ (fun q0 q1 => ba_759 hP1304 q0 q1) ?_)))))
                intro v1374 h1376 h1377 e1375
                refine wk_al0 r136_208 (wk_getfr r136_209 fd_739_52 (br_739_52 hP1304) (wk_il6 r136_212 (wk_ialdb r136_214 ar_759 ⟨by omega, by omega⟩ (fun q0 q1 => ba_759 hP1304 q0 q1) ?_)))
                intro v1378 h1380 h1381 e1379
                refine wk_ior 1 2 r136_215 (by decide) ⟨by omega, by omega⟩ ⟨by omega, by omega⟩ ?_
                intro v1382 h1383 h1384 h1385 h1386 h1387
                refine wk_iast r136_216 ar_759 ⟨by omega, by omega⟩ (wk_nw (ga_759 _) rfl hP1304 hF1305 (ua_759 ⟨by omega, by omega⟩) ?_)
                intro M1388 hP1389 hF1390 e1391
                refine wk_goto r136_217 (wk_goto r136_245 ?_)
                exact wp_fg (le_s (le_s (le_s (le_s (le_s (le_s (le_s (le_s (le_n (le_n (le_n (le_s le_0)))))))))))) (ih1441 (799 - (v1300 + 1)).toNat (by omega) M1388 (v1297 + (-1)) (v1300 + 1) rfl hP1389 hF1390 (by first | with_reducible assumption | omega) (by first | with_reducible assumption | omega) (by first | with_reducible assumption | omega) (by first | with_reducible assumption | omega) (by first | with_reducible assumption | omega) (by first | with_reducible assumption | omega) (by have q := hg_up (by omega) (show (fun k => M0 741 k) v1300 = v1310 from (hF1305.at (ga_741 _) rfl).symm.trans e1311) ti1308; rw [q]; split; (omega); (split <;> omega)) (WTI_st ti1309 (by omega) (show (fun k => M0 741 k) v1300 = v1310 from (hF1305.at (ga_741 _) rfl).symm.trans e1311) (fun st hs hm => W_bin (x := v1382) hs hm (by omega) (fun k q7 => by show M1388 759 k = _; rw [e1391, mUp_ne (Or.inr (by omega))]) (by show M1388 759 (v1297 - 1 - 1) = _; rw [show v1297 - 1 - 1 = ((v1297 + (-1)) - 1) by omega]; exact (mUp_at e1391)) (Or.inr ⟨by omega, by show _ = (((M1303 759 (v1297 - 1 - 1)).toNat ||| (M1303 759 (v1297 - 1)).toNat : Nat) : Int); rw [show v1297 - 1 - 1 = ((v1297 + (-1)) - 1) by omega, show v1297 - 1 = (v1297 + (-1)) by omega, e1375, e1379]; exact h1387⟩))))
              · intro h1392
                exfalso
                omega
        · intro h1393
          have h1394 : 1 ≤ v1297 ∧ ((v1310 / 16) % 128) ≤ 6 := by omega
          refine wk_al0 r136_85 (wk_il3 r136_86 (wk_il9 r136_87 (wk_il4 r136_89 ?_)))
          obtain ⟨v1395, e1396⟩ : ∃ v, M1303 739 3 = v := ⟨_, rfl⟩
          have h1397 := (bf_739_3 hP1304).1; rw [e1396] at h1397
          have h1398 := (bf_739_3 hP1304).2; rw [e1396] at h1398
          refine wk_cv4 r136_91 kc_739_107 rfl (n8107_739 _ M1303 p3 ((v1310 / 16) % 128) p4 v1395 hP1304 (by first | with_reducible assumption | omega) (by first | with_reducible assumption | omega) (by first | with_reducible assumption | omega) (by first | with_reducible assumption | omega) (by first | with_reducible assumption | omega) (by first | with_reducible assumption | omega) e1396 (by first | with_reducible assumption | omega) (by first | with_reducible assumption | omega)) (cqI ?_)
          rintro v1404 M1399 ⟨hP1400, hQ1401, h1405, h1406, xh1403⟩
          obtain rfl := Fr.same hQ1401
          refine wk_is11 r136_94 rfl (wk_al0 r136_96 (wk_getfr r136_97 fd_739_52 (br_739_52 hP1304) (wk_il6 r136_100 (wk_c1 r136_102 (wk_isub r136_103 (wk_il11 r136_104 (wk_c1 r136_106 ?_)))))))
          refine wk_icne r136_107 ⟨by omega, by omega⟩ (by decide) ?_ ?_
          · intro h1407
            refine wk_il11 r136_114 (wk_c1 r136_116 ?_)
            refine wk_icne r136_117 ⟨by omega, by omega⟩ (by decide) ?_ ?_
            · intro h1408
              refine wk_al0 r136_134 (wk_getfr r136_135 fd_739_52 (br_739_52 hP1304) (wk_il6 r136_138 (wk_c1 r136_140 (wk_isub r136_141 (wk_ialdb r136_142 ar_759 ⟨by omega, by omega⟩ (fun q0 q1 => ba_759 hP1304 q0 q1) ?_)))))
              intro v1409 h1411 h1412 e1410
              refine wk_iast r136_143 ar_759 ⟨by omega, by omega⟩ (wk_nw (ga_759 _) rfl hP1304 hF1305 (ua_759 ⟨by omega, by omega⟩) ?_)
              intro M1413 hP1414 hF1415 e1416
              refine wk_goto r136_144 (wk_goto r136_245 ?_)
              exact wp_fg (le_s (le_s (le_s (le_s (le_s (le_s (le_s (le_s (le_n (le_n (le_n (le_n le_0)))))))))))) (ih1441 (799 - (v1300 + 1)).toNat (by omega) M1413 v1297 (v1300 + 1) rfl hP1414 hF1415 (by first | with_reducible assumption | omega) (by first | with_reducible assumption | omega) (by first | with_reducible assumption | omega) (by first | with_reducible assumption | omega) (by first | with_reducible assumption | omega) (by first | with_reducible assumption | omega) (by have q := hg_up (by omega) (show (fun k => M0 741 k) v1300 = v1310 from (hF1305.at (ga_741 _) rfl).symm.trans e1311) ti1308; rw [q]; split; (omega); (split <;> omega)) (WTI_st ti1309 (by omega) (show (fun k => M0 741 k) v1300 = v1310 from (hF1305.at (ga_741 _) rfl).symm.trans e1311) (fun st hs hm => W_say (l := v1404) hs hm (by omega) (by omega) (by rw [evF_20 (by omega) (by omega), ← lyF_sm (Sm.fr hF1305 rfl) (by omega) (by omega)]; exact (xh1403).trans (by rw [show ((v1310 / 16) % 128) = v1310 / 16 % 128 by omega])) (fun k q7 => by show M1413 759 k = _; rw [e1416, mUp_ne (Or.inr q7)]) (mUp_at e1416) (Or.inr (Or.inr ⟨by omega, by omega, by show _ = M1303 759 (v1297 - 1); rw [e1410]⟩)))))
            · intro h1417
              refine wk_c1 r136_120 (wk_al0 r136_121 (wk_getfr r136_122 fd_739_52 (br_739_52 hP1304) (wk_il6 r136_125 (wk_c1 r136_127 (wk_isub r136_128 (wk_ialdb r136_129 ar_759 ⟨by omega, by omega⟩ (fun q0 q1 => ba_759 hP1304 q0 q1) ?_))))))
              intro v1418 h1420 h1421 e1419
              refine wk_isub r136_130 (wk_goto r136_131 ?_)
              refine wk_iast r136_143 ar_759 ⟨by omega, by omega⟩ (wk_nw (ga_759 _) rfl hP1304 hF1305 (ua_759 ⟨by omega, by omega⟩) ?_)
              intro M1422 hP1423 hF1424 e1425
              refine wk_goto r136_144 (wk_goto r136_245 ?_)
              exact wp_fg (le_s (le_s (le_s (le_s (le_s (le_s (le_s (le_s (le_n (le_n (le_n (le_n le_0)))))))))))) (ih1441 (799 - (v1300 + 1)).toNat (by omega) M1422 v1297 (v1300 + 1) rfl hP1423 hF1424 (by first | with_reducible assumption | omega) (by first | with_reducible assumption | omega) (by first | with_reducible assumption | omega) (by first | with_reducible assumption | omega) (by first | with_reducible assumption | omega) (by first | with_reducible assumption | omega) (by have q := hg_up (by omega) (show (fun k => M0 741 k) v1300 = v1310 from (hF1305.at (ga_741 _) rfl).symm.trans e1311) ti1308; rw [q]; split; (omega); (split <;> omega)) (WTI_st ti1309 (by omega) (show (fun k => M0 741 k) v1300 = v1310 from (hF1305.at (ga_741 _) rfl).symm.trans e1311) (fun st hs hm => W_say (l := v1404) hs hm (by omega) (by omega) (by rw [evF_20 (by omega) (by omega), ← lyF_sm (Sm.fr hF1305 rfl) (by omega) (by omega)]; exact (xh1403).trans (by rw [show ((v1310 / 16) % 128) = v1310 / 16 % 128 by omega])) (fun k q7 => by show M1422 759 k = _; rw [e1425, mUp_ne (Or.inr q7)]) (mUp_at e1425) (Or.inr (Or.inl ⟨by omega, by omega, by show _ = 1 - M1303 759 (v1297 - 1); rw [e1419]⟩)))))
          · intro h1426
            refine wk_c1 r136_110 (wk_goto r136_111 ?_)
            refine wk_iast r136_143 ar_759 ⟨by omega, by omega⟩ (wk_nw (ga_759 _) rfl hP1304 hF1305 (ua_759 (by decide)) ?_)
            intro M1427 hP1428 hF1429 e1430
            refine wk_goto r136_144 (wk_goto r136_245 ?_)
            exact wp_fg (le_s (le_s (le_s (le_s (le_s (le_s (le_s (le_s (le_n (le_n (le_n (le_n le_0)))))))))))) (ih1441 (799 - (v1300 + 1)).toNat (by omega) M1427 v1297 (v1300 + 1) rfl hP1428 hF1429 (by first | with_reducible assumption | omega) (by first | with_reducible assumption | omega) (by first | with_reducible assumption | omega) (by first | with_reducible assumption | omega) (by first | with_reducible assumption | omega) (by first | with_reducible assumption | omega) (by have q := hg_up (by omega) (show (fun k => M0 741 k) v1300 = v1310 from (hF1305.at (ga_741 _) rfl).symm.trans e1311) ti1308; rw [q]; split; (omega); (split <;> omega)) (WTI_st ti1309 (by omega) (show (fun k => M0 741 k) v1300 = v1310 from (hF1305.at (ga_741 _) rfl).symm.trans e1311) (fun st hs hm => W_say (l := v1404) hs hm (by omega) (by omega) (by rw [evF_20 (by omega) (by omega), ← lyF_sm (Sm.fr hF1305 rfl) (by omega) (by omega)]; exact (xh1403).trans (by rw [show ((v1310 / 16) % 128) = v1310 / 16 % 128 by omega])) (fun k q7 => by show M1427 759 k = _; rw [e1430, mUp_ne (Or.inr q7)]) (mUp_at e1430) (Or.inl ⟨by omega, rfl⟩))))
      · intro h1431
        have h1432 : 1 ≤ v1297 := by omega
        refine wk_al0 r136_55 (wk_getfr r136_56 fd_739_52 (br_739_52 hP1304) (wk_il6 r136_59 (wk_c1 r136_61 (wk_isub r136_62 (wk_c1 r136_63 (wk_al0 r136_64 (wk_getfr r136_65 fd_739_52 (br_739_52 hP1304) (wk_il6 r136_68 (wk_c1 r136_70 (wk_isub r136_71 (wk_ialdb r136_72 ar_759 ⟨by omega, by omega⟩ (fun q0 q1 => ba_759 hP1304 q0 q1) ?_)))))))))))
        intro v1433 h1435 h1436 e1434
        refine wk_isub r136_73 (wk_iast r136_74 ar_759 ⟨by omega, by omega⟩ (wk_nw (ga_759 _) rfl hP1304 hF1305 (ua_759 ⟨by omega, by omega⟩) ?_))
        intro M1437 hP1438 hF1439 e1440
        refine wk_goto r136_75 (wk_goto r136_245 ?_)
        exact wp_fg (le_s (le_s (le_s (le_s (le_s (le_s (le_s (le_s (le_n (le_n (le_n (le_s le_0)))))))))))) (ih1441 (799 - (v1300 + 1)).toNat (by omega) M1437 v1297 (v1300 + 1) rfl hP1438 hF1439 (by first | with_reducible assumption | omega) (by first | with_reducible assumption | omega) (by first | with_reducible assumption | omega) (by first | with_reducible assumption | omega) (by first | with_reducible assumption | omega) (by first | with_reducible assumption | omega) (by have q := hg_up (by omega) (show (fun k => M0 741 k) v1300 = v1310 from (hF1305.at (ga_741 _) rfl).symm.trans e1311) ti1308; rw [q]; split; (omega); (split <;> omega)) (WTI_st ti1309 (by omega) (show (fun k => M0 741 k) v1300 = v1310 from (hF1305.at (ga_741 _) rfl).symm.trans e1311) (fun st hs hm => W_not hs hm (by omega) (by omega) (fun k q7 => by show M1437 759 k = _; rw [e1440, mUp_ne (Or.inr q7)]) (mUp_at e1440) (by show _ = 1 - M1303 759 (v1297 - 1); rw [e1434]))))
  exact wp_fg (le_s (le_s (le_n (le_s (le_s (le_s (le_s (le_s (le_s (le_s (le_s (le_s le_0)))))))))))) (c6_1441 _ M0 0 p2 rfl hP0 hF0 (by first | with_reducible assumption | omega) (by first | with_reducible assumption | omega) (by first | with_reducible assumption | omega) (by first | with_reducible assumption | omega) (by first | with_reducible assumption | omega) (by first | with_reducible assumption | omega) (by rw [Int.sub_self]; rfl) (WTI_0 _ _ _ _))
def fm_n8092_739 : Nat := 1809251394438377845161853827458666587891013942719528908517073861377953628160
/-- IslandHallModel.keepsFacts -/
theorem n8092_739 {B : eB} (d : Nat) (M0 : Mm) (p1 : Int) (x739_4 : Int) (x739_1 : Int) (fe : Int) (K : List (List Int)) (hP0 : Pw M0) (l1 : 0 ≤ p1) (u1 : p1 ≤ 2999) (ex739_4 : M0 739 4 = x739_4) (lx739_4 : 0 ≤ x739_4) (ux739_4 : x739_4 ≤ 500) (ex739_1 : M0 739 1 = x739_1) (lx739_1 : 0 ≤ x739_1) (ux739_1 : x739_1 ≤ 7) (xp0 : FLr (fun k => M0 741 k) 0 K) (xp1 : (x739_4 : Int) = K.length) (xp2 : RNS K) (pp_FF : FFP M0 fe) : Ct B (d + 5) 92 [R 739, I p1] M0 (qI fun z M => Pw M ∧ Fr fm_n8092_739 M0 M ∧ 0 ≤ z ∧ z ≤ 1 ∧ (z = b2i (fT (evF M0 p1 0 0) K))) := by
  refine ct_of (d := d + 4) (k := 3) (L := [some (R 739), some (I p1), none, none, none]) rfl rfl rfl ?_
  have hF0 := Fr.rf fm_n8092_739 M0
  generalize hQ : (qI fun z M => Pw M ∧ Fr fm_n8092_739 M0 M ∧ 0 ≤ z ∧ z ≤ 1 ∧ (z = b2i (fT (evF M0 p1 0 0) K))) = Q
  have hf0 := pp_FF.2.1
  have hf1 := pp_FF.2.2
  rw [ex739_4] at hf0
  have hev9 : OKE (evF M0 p1 0 0) := evF_ok (by rw [ex739_1]; omega) (by rw [ex739_1]; omega) (by decide)
  refine wk_c1 r92_0 (wk_is2 r92_1 rfl (wk_c1 r92_2 (wk_is3 r92_3 rfl (wk_c1 r92_4 (wk_is4 r92_5 rfl ?_)))))
  have c7_455 : ∀ (k455 : Nat) (M418 : Mm) (v409 : Int) (v412 : Int) (v415 : Int), (500 - v415).toNat = k455 → Pw M418 → Fr fm_n8092_739 M0 M418 → M418 739 4 = x739_4 → M418 739 1 = x739_1 → 0 ≤ v409 → v409 ≤ 1 → 0 ≤ v412 → v412 ≤ 12000 → 0 ≤ v415 → v415 ≤ 500 → (FFP M418 fe) → 0 ≤ (-1) * v409 + v412 + 1 → 0 ≤ (-1) * v409 + v415 + 1 → (FD (fun k => M0 741 k) (x739_4 - v415).toNat v412 fe ∧ 0 ≤ v412) → (KPI (fun k => M0 741 k) (evF M0 p1 0 0) K v415 v412 v409) → Wp B (d + 4) 92 7 [some (R 739), some (I p1), some (I v409), some (I v412), some (I v415)] [] M418 Q := by
    refine lp_ind ?_
    intro k455 ih455 M418 v409 v412 v415 hk455 hP419 hF420 e421 e422 h410 h411 h413 h414 h416 h417 pr423 h424 h425 ti426 ti427
    refine wk_il4 r92_7 (wk_al0 r92_9 (wk_getfi r92_10 fd_739_4 e421 ?_))
    refine wk_icge r92_13 ⟨by omega, by omega⟩ ⟨by omega, by omega⟩ ?_ ?_
    · intro h428
      refine wk_il2 r92_53 ?_
      subst hQ; exact wk_zret r92_54 ⟨by omega, by omega⟩ (⟨rfl, _, rfl, hP419, hF420, by omega, by omega, KPI_e ti427 (by omega)⟩)
    · intro h429
      obtain ⟨en, hsg, hrest, hen⟩ := FD_cons ti426.1 (by omega)
      have hz3 := ti426.2
      obtain ⟨o9, b9, hl9, hr9, hk9⟩ := KPI_h ti427 (by omega) xp2 hev9
      refine wk_al0 r92_16 (wk_al0 r92_17 (wk_getfr r92_18 fd_739_6 (br_739_6 hP419) (wk_il3 r92_21 (wk_il1 r92_22 (wk_c1 r92_23 (wk_c1 r92_24 (wk_cv6 r92_25 kc_739_136 rfl (n8136_739_741 _ M418 v412 p1 0 0 en o9 hP419 (by first | with_reducible assumption | omega) (by first | with_reducible assumption | omega) (by first | with_reducible assumption | omega) (by first | with_reducible assumption | omega) (by decide) (by decide) (by decide) (by decide) (SEG_row (fun k => hF420.at (ga_741 k) rfl) hsg) (⟨by omega, by omega⟩) (by rw [show (fun k => M418 741 k) = (fun k => M0 741 k) from funext fun k => hF420.at (ga_741 k) rfl]; exact hl9)) (cqI ?_))))))))
      rintro v436 M430 ⟨hP431, hQ432, h437, h438, xh434, xh435⟩
      have hF433 : Fr fm_n8092_739 M0 M430 := hF420.tr hQ432 rfl
      refine wk_c1 r92_28 ?_
      refine wk_icne r92_29 ⟨by omega, by omega⟩ (by decide) ?_ ?_
      · intro h439
        refine wk_c1 r92_40 (wk_is2 r92_41 rfl (wk_al0 r92_42 (wk_getfb r92_43 fd_739_53 (bf_739_53 hP431) ?_)))
        intro v440 h442 h443 e441
        refine wk_is3 r92_46 rfl ?_
        have hq3 : v440 = en := e441.symm.trans xh434
        refine wk_inc4 r92_47 rfl (wk_goto r92_50 ?_)
        exact wp_fg (le_s (le_s (le_s (le_s (le_s le_0))))) (ih455 (500 - (v415 + 1)).toNat (by omega) M430 0 v440 (v415 + 1) rfl hP431 hF433 ((hQ432.at g_739_4 rfl).trans e421) ((hQ432.at g_739_1 rfl).trans e422) (by first | with_reducible assumption | omega) (by first | with_reducible assumption | omega) (by first | with_reducible assumption | omega) (by first | with_reducible assumption | omega) (by first | with_reducible assumption | omega) (by first | with_reducible assumption | omega) (FFP_sm (Sm.fr hQ432 rfl) pr423) (by first | with_reducible assumption | omega) (by first | with_reducible assumption | omega) (by rw [show (x739_4 - (v415 + 1)).toNat = (x739_4 - v415).toNat - 1 by omega, hq3]; exact ⟨hrest, by have := hsg.2.1; omega⟩) (hk9 _ _ _ _ (xh435 b9 (by rw [evF_sm (Sm.fr hF420 rfl)]; exact hr9)) (by omega) rfl (by have q9 := LST_en hl9 hsg; have q8 := hq3; omega)))
      · intro h444
        refine wk_il2 r92_32 ?_
        refine wk_ifeq r92_33 ⟨by omega, by omega⟩ ?_ ?_
        · intro h445
          refine wk_c1 r92_40 (wk_is2 r92_41 rfl (wk_al0 r92_42 (wk_getfb r92_43 fd_739_53 (bf_739_53 hP431) ?_)))
          intro v446 h448 h449 e447
          refine wk_is3 r92_46 rfl ?_
          have hq3 : v446 = en := e447.symm.trans xh434
          refine wk_inc4 r92_47 rfl (wk_goto r92_50 ?_)
          exact wp_fg (le_s (le_s (le_s (le_s (le_s le_0))))) (ih455 (500 - (v415 + 1)).toNat (by omega) M430 0 v446 (v415 + 1) rfl hP431 hF433 ((hQ432.at g_739_4 rfl).trans e421) ((hQ432.at g_739_1 rfl).trans e422) (by first | with_reducible assumption | omega) (by first | with_reducible assumption | omega) (by first | with_reducible assumption | omega) (by first | with_reducible assumption | omega) (by first | with_reducible assumption | omega) (by first | with_reducible assumption | omega) (FFP_sm (Sm.fr hQ432 rfl) pr423) (by first | with_reducible assumption | omega) (by first | with_reducible assumption | omega) (by rw [show (x739_4 - (v415 + 1)).toNat = (x739_4 - v415).toNat - 1 by omega, hq3]; exact ⟨hrest, by have := hsg.2.1; omega⟩) (hk9 _ _ _ _ (xh435 b9 (by rw [evF_sm (Sm.fr hF420 rfl)]; exact hr9)) (by omega) rfl (by have q9 := LST_en hl9 hsg; have q8 := hq3; omega)))
        · intro h450
          refine wk_c1 r92_36 (wk_goto r92_37 (wk_is2 r92_41 rfl (wk_al0 r92_42 (wk_getfb r92_43 fd_739_53 (bf_739_53 hP431) ?_))))
          intro v451 h453 h454 e452
          refine wk_is3 r92_46 rfl ?_
          have hq3 : v451 = en := e452.symm.trans xh434
          refine wk_inc4 r92_47 rfl (wk_goto r92_50 ?_)
          exact wp_fg (le_s (le_s (le_s (le_s (le_s le_0))))) (ih455 (500 - (v415 + 1)).toNat (by omega) M430 1 v451 (v415 + 1) rfl hP431 hF433 ((hQ432.at g_739_4 rfl).trans e421) ((hQ432.at g_739_1 rfl).trans e422) (by first | with_reducible assumption | omega) (by first | with_reducible assumption | omega) (by first | with_reducible assumption | omega) (by first | with_reducible assumption | omega) (by first | with_reducible assumption | omega) (by first | with_reducible assumption | omega) (FFP_sm (Sm.fr hQ432 rfl) pr423) (by first | with_reducible assumption | omega) (by first | with_reducible assumption | omega) (by rw [show (x739_4 - (v415 + 1)).toNat = (x739_4 - v415).toNat - 1 by omega, hq3]; exact ⟨hrest, by have := hsg.2.1; omega⟩) (hk9 _ _ _ _ (xh435 b9 (by rw [evF_sm (Sm.fr hF420 rfl)]; exact hr9)) (by omega) rfl (by have q9 := LST_en hl9 hsg; have q8 := hq3; omega)))
  exact wp_fg (le_s (le_s (le_s (le_s (le_s le_0))))) (c7_455 _ M0 1 0 0 rfl hP0 hF0 ex739_4 ex739_1 (by first | with_reducible assumption | omega) (by first | with_reducible assumption | omega) (by first | with_reducible assumption | omega) (by first | with_reducible assumption | omega) (by first | with_reducible assumption | omega) (by first | with_reducible assumption | omega) pp_FF (by first | with_reducible assumption | omega) (by first | with_reducible assumption | omega) (⟨by rw [Int.sub_zero]; exact hf0, by decide⟩) (KPI_0 xp0))
def fm_n8059_739 : Nat := 1830881467489219472071675848908719412503583958811579601454765339970264629248
set_option maxHeartbeats 20000000 in
/-- IslandHallModel.comes -/
theorem n8059_739 {B : eB} (d : Nat) (M0 : Mm) (p1 : Int) (p2 : Int) (p3 : Int) (x739_7 : Int) (x739_1 : Int) (x739_4 : Int) (fe : Int) (K : List (List Int)) (hP0 : Pw M0) (l1 : 0 ≤ p1) (u1 : p1 ≤ 3) (l2 : 0 ≤ p2) (u2 : p2 ≤ 6) (l3 : 0 ≤ p3) (u3 : p3 ≤ 1) (ex739_7 : M0 739 7 = x739_7) (lx739_7 : 0 ≤ x739_7) (ux739_7 : x739_7 ≤ 2999) (ex739_1 : M0 739 1 = x739_1) (lx739_1 : 0 ≤ x739_1) (ux739_1 : x739_1 ≤ 7) (ex739_4 : M0 739 4 = x739_4) (lx739_4 : 0 ≤ x739_4) (ux739_4 : x739_4 ≤ 500) (xp0 : FLr (fun k => M0 741 k) 0 K) (xp1 : (x739_4 : Int) = K.length) (xp2 : RNS K) (pp_FF : FFP M0 fe) (pp_CH : CHP M0) : Ct B (d + 6) 59 [R 739, I p1, I p2, I p3] M0 (qV fun M => Pw M ∧ Fr fm_n8059_739 M0 M ∧ 0 ≤ M 739 7 + (-1) * x739_7 ∧ 0 ≤ (-1) * (M 739 7) + x739_7 + 1 ∧ (CMP M0 M x739_7 p1 p2 p3 x739_1) ∧ (M 739 7 = x739_7 + b2i (fT (evF M x739_7 0 0) K)) ∧ (FFP M fe) ∧ (CHP M)) := by
  refine ct_of (d := d + 5) (k := 3) (L := [some (R 739), some (I p1), some (I p2), some (I p3), none, none, none]) rfl rfl rfl ?_
  have hF0 := Fr.rf fm_n8059_739 M0
  generalize hQ : (qV fun M => Pw M ∧ Fr fm_n8059_739 M0 M ∧ 0 ≤ M 739 7 + (-1) * x739_7 ∧ 0 ≤ (-1) * (M 739 7) + x739_7 + 1 ∧ (CMP M0 M x739_7 p1 p2 p3 x739_1) ∧ (M 739 7 = x739_7 + b2i (fT (evF M x739_7 0 0) K)) ∧ (FFP M fe) ∧ (CHP M)) = Q
  refine wk_al0 r59_0 (wk_getfi r59_1 fd_739_7 ex739_7 (wk_is4 r59_4 rfl (wk_al0 r59_6 (wk_getfr r59_7 fd_739_8 (br_739_8 hP0) (wk_il4 r59_10 (wk_c1 r59_12 (wk_iast r59_13 ar_742 ⟨by omega, by omega⟩ (wk_nw (ga_742 _) rfl hP0 hF0 (ua_742 (by decide)) ?_))))))))
  intro M1 hP2 hF3 e4
  refine wk_al0 r59_14 (wk_getfr r59_15 fd_739_9 (br_739_9 hP2) (wk_il4 r59_18 (wk_c1 r59_20 (wk_iast r59_21 ar_743 ⟨by omega, by omega⟩ (wk_nw (ga_743 _) rfl hP2 hF3 (ua_743 (by decide)) ?_)))))
  intro M5 hP6 hF7 e8
  refine wk_c1 r59_22 (wk_is5 r59_23 rfl ?_)
  have c25_615 : ∀ (k615 : Nat) (M517 : Mm) (v514 : Int), (7 - v514).toNat = k615 → Pw M517 → Fr fm_n8059_739 M0 M517 → M517 739 7 = x739_7 → M517 739 1 = x739_1 → M517 739 4 = x739_4 → 0 ≤ v514 → v514 ≤ 7 → (FFP M517 fe) → (CHP M517) → 0 ≤ (-1) * v514 + x739_1 → 0 ≤ v514 → ((∃ q, CMI (fun k => M0 740 k) q (M517 742 x739_7) (M517 743 x739_7) v514 (fun k => M0 760 k)) ∧ (∀ a i : Int, i ≠ x739_7 → (a = 742 ∨ a = 743) → M517 a i = M0 a i) ∧ ∀ a i : Int, (a = 744 ∨ a = 745 ∨ a = 746 ∨ a = 751 ∨ a = 752) → M517 a i = M0 a i) → Wp B (d + 5) 59 25 [some (R 739), some (I p1), some (I p2), some (I p3), some (I x739_7), some (I v514), none] [] M517 Q := by
    refine lp_ind ?_
    intro k615 ih615 M517 v514 hk615 hP518 hF519 e520 e521 e522 h515 h516 pr523 pr524 h525 h526 ti527
    refine wk_il5 r59_25 (wk_al0 r59_27 (wk_getfi r59_28 fd_739_1 e521 ?_))
    refine wk_icge r59_31 ⟨by omega, by omega⟩ ⟨by omega, by omega⟩ ?_ ?_
    · intro h528
      refine wk_al0 r59_92 (wk_getfr r59_93 fd_739_10 (br_739_10 hP518) (wk_il4 r59_96 (wk_il1 r59_98 (wk_iast r59_99 ar_744 ⟨by omega, by omega⟩ (wk_nw (ga_744 _) rfl hP518 hF519 (ua_744 ⟨by omega, by omega⟩) ?_)))))
      intro M529 hP530 hF531 e532
      refine wk_al0 r59_100 (wk_getfr r59_101 fd_739_11 (br_739_11 hP530) (wk_il4 r59_104 (wk_il2 r59_106 (wk_iast r59_107 ar_745 ⟨by omega, by omega⟩ (wk_nw (ga_745 _) rfl hP530 hF531 (ua_745 ⟨by omega, by omega⟩) ?_)))))
      intro M533 hP534 hF535 e536
      refine wk_al0 r59_108 (wk_getfr r59_109 fd_739_12 (br_739_12 hP534) (wk_il4 r59_112 (wk_il3 r59_114 (wk_iast r59_115 ar_746 ⟨by omega, by omega⟩ (wk_nw (ga_746 _) rfl hP534 hF535 (ua_746 ⟨by omega, by omega⟩) ?_)))))
      intro M537 hP538 hF539 e540
      refine wk_al0 r59_116 (wk_getfr r59_117 fd_739_19 (br_739_19 hP538) (wk_il4 r59_120 (wk_c1 r59_122 (wk_iast r59_123 ar_751 ⟨by omega, by omega⟩ (wk_nw (ga_751 _) rfl hP538 hF539 (ua_751 (by decide)) ?_)))))
      intro M541 hP542 hF543 e544
      refine wk_al0 r59_124 (wk_getfr r59_125 fd_739_20 (br_739_20 hP542) (wk_il4 r59_128 (wk_c1 r59_130 (wk_iast r59_131 ar_752 ⟨by omega, by omega⟩ (wk_nw (ga_752 _) rfl hP542 hF543 (ua_752 (by decide)) ?_)))))
      intro M545 hP546 hF547 e548
      refine wk_al0 r59_132 (wk_il4 r59_133 (wk_cv2 r59_135 kc_739_92 rfl (n8092_739 _ M545 x739_7 x739_4 x739_1 fe K hP546 (by first | with_reducible assumption | omega) (by first | with_reducible assumption | omega) (mUp_no e548 (mUp_no e544 (mUp_no e540 (mUp_no e536 (mUp_no e532 e522 (Or.inl (by decide))) (Or.inl (by decide))) (Or.inl (by decide))) (Or.inl (by decide))) (Or.inl (by decide))) (by first | with_reducible assumption | omega) (by first | with_reducible assumption | omega) (mUp_no e548 (mUp_no e544 (mUp_no e540 (mUp_no e536 (mUp_no e532 e521 (Or.inl (by decide))) (Or.inl (by decide))) (Or.inl (by decide))) (Or.inl (by decide))) (Or.inl (by decide))) (by first | with_reducible assumption | omega) (by first | with_reducible assumption | omega) (by rw [show (fun k => M545 741 k) = (fun k => M0 741 k) from funext fun k => hF547.at (ga_741 k) rfl]; exact xp0) (by omega) (xp2) (FFP_sm (Sm.up e548 (ga_752 _) rfl) (FFP_sm (Sm.up e544 (ga_751 _) rfl) (FFP_sm (Sm.up e540 (ga_746 _) rfl) (FFP_sm (Sm.up e536 (ga_745 _) rfl) (FFP_sm (Sm.up e532 (ga_744 _) rfl) pr523)))))) (cqI ?_)))
      rintro v554 M549 ⟨hP550, hQ551, h555, h556, xh553⟩
      have hF552 : Fr fm_n8059_739 M0 M549 := hF547.tr hQ551 rfl
      refine wk_ifeq r59_138 ⟨by omega, by omega⟩ ?_ ?_
      · intro h557
        subst hQ; exact wk_ret r59_151 (⟨rfl, hP550, hF552, by have := ((hQ551.at g_739_7 rfl).trans (mUp_no e548 (mUp_no e544 (mUp_no e540 (mUp_no e536 (mUp_no e532 e520 (Or.inl (by decide))) (Or.inl (by decide))) (Or.inl (by decide))) (Or.inl (by decide))) (Or.inl (by decide)))); omega, by have := ((hQ551.at g_739_7 rfl).trans (mUp_no e548 (mUp_no e544 (mUp_no e540 (mUp_no e536 (mUp_no e532 e520 (Or.inl (by decide))) (Or.inl (by decide))) (Or.inl (by decide))) (Or.inl (by decide))) (Or.inl (by decide)))); omega, by obtain ⟨⟨q9, hq9⟩, hq8, hq6b⟩ := ti527; rw [show (v514 : Int) = x739_1 by omega] at hq9; have q6 := CMI_e hq9 (by omega) (by omega); exact ⟨⟨q9, hq9.1, hq9.2.1, fun p a b => by unfold kiF; rw [(show M549 742 x739_7 = M517 742 x739_7 by rw [hQ551.at (ga_742 _) rfl, e548, mUp_ne (Or.inl (by decide)), e544, mUp_ne (Or.inl (by decide)), e540, mUp_ne (Or.inl (by decide)), e536, mUp_ne (Or.inl (by decide)), e532, mUp_ne (Or.inl (by decide))]), (show M549 743 x739_7 = M517 743 x739_7 by rw [hQ551.at (ga_743 _) rfl, e548, mUp_ne (Or.inl (by decide)), e544, mUp_ne (Or.inl (by decide)), e540, mUp_ne (Or.inl (by decide)), e536, mUp_ne (Or.inl (by decide)), e532, mUp_ne (Or.inl (by decide))])]; exact q6 p a b⟩, by rw [hQ551.at (ga_744 _) rfl, e548, mUp_ne (Or.inl (by decide)), e544, mUp_ne (Or.inl (by decide)), e540, mUp_ne (Or.inl (by decide)), e536, mUp_ne (Or.inl (by decide)), e532, mUp_eq], by rw [hQ551.at (ga_745 _) rfl, e548, mUp_ne (Or.inl (by decide)), e544, mUp_ne (Or.inl (by decide)), e540, mUp_ne (Or.inl (by decide)), e536, mUp_eq], by rw [hQ551.at (ga_746 _) rfl, e548, mUp_ne (Or.inl (by decide)), e544, mUp_ne (Or.inl (by decide)), e540, mUp_eq], by rw [hQ551.at (ga_751 _) rfl, e548, mUp_ne (Or.inl (by decide)), e544, mUp_eq], by rw [hQ551.at (ga_752 _) rfl, e548, mUp_eq], fun a i q0 q1 => by rcases q1 with rfl | rfl | rfl | rfl | rfl | rfl | rfl; (rw [hQ551.at (ga_742 _) rfl, e548, mUp_ne (Or.inl (by decide)), e544, mUp_ne (Or.inl (by decide)), e540, mUp_ne (Or.inl (by decide)), e536, mUp_ne (Or.inl (by decide)), e532, mUp_ne (Or.inl (by decide))]; exact hq8 _ i q0 (by omega)); (rw [hQ551.at (ga_743 _) rfl, e548, mUp_ne (Or.inl (by decide)), e544, mUp_ne (Or.inl (by decide)), e540, mUp_ne (Or.inl (by decide)), e536, mUp_ne (Or.inl (by decide)), e532, mUp_ne (Or.inl (by decide))]; exact hq8 _ i q0 (by omega)); (rw [hQ551.at (ga_744 _) rfl, e548, mUp_ne (Or.inl (by decide)), e544, mUp_ne (Or.inl (by decide)), e540, mUp_ne (Or.inl (by decide)), e536, mUp_ne (Or.inl (by decide)), e532, mUp_ne (Or.inr q0)]; exact hq6b _ i (by omega)); (rw [hQ551.at (ga_745 _) rfl, e548, mUp_ne (Or.inl (by decide)), e544, mUp_ne (Or.inl (by decide)), e540, mUp_ne (Or.inl (by decide)), e536, mUp_ne (Or.inr q0), e532, mUp_ne (Or.inl (by decide))]; exact hq6b _ i (by omega)); (rw [hQ551.at (ga_746 _) rfl, e548, mUp_ne (Or.inl (by decide)), e544, mUp_ne (Or.inl (by decide)), e540, mUp_ne (Or.inr q0), e536, mUp_ne (Or.inl (by decide)), e532, mUp_ne (Or.inl (by decide))]; exact hq6b _ i (by omega)); (rw [hQ551.at (ga_751 _) rfl, e548, mUp_ne (Or.inl (by decide)), e544, mUp_ne (Or.inr q0), e540, mUp_ne (Or.inl (by decide)), e536, mUp_ne (Or.inl (by decide)), e532, mUp_ne (Or.inl (by decide))]; exact hq6b _ i (by omega)); (rw [hQ551.at (ga_752 _) rfl, e548, mUp_ne (Or.inr q0), e544, mUp_ne (Or.inl (by decide)), e540, mUp_ne (Or.inl (by decide)), e536, mUp_ne (Or.inl (by decide)), e532, mUp_ne (Or.inl (by decide))]; exact hq6b _ i (by omega))⟩, by rw [evF_sm (Sm.fr hQ551 rfl), ← xh553]; have := ((hQ551.at g_739_7 rfl).trans (mUp_no e548 (mUp_no e544 (mUp_no e540 (mUp_no e536 (mUp_no e532 e520 (Or.inl (by decide))) (Or.inl (by decide))) (Or.inl (by decide))) (Or.inl (by decide))) (Or.inl (by decide)))); omega, (FFP_sm (Sm.fr hQ551 rfl) (FFP_sm (Sm.up e548 (ga_752 _) rfl) (FFP_sm (Sm.up e544 (ga_751 _) rfl) (FFP_sm (Sm.up e540 (ga_746 _) rfl) (FFP_sm (Sm.up e536 (ga_745 _) rfl) (FFP_sm (Sm.up e532 (ga_744 _) rfl) pr523)))))), (CHP_sm (Sm.fr hQ551 rfl) (CHP_sm (Sm.up e548 (ga_752 _) rfl) (CHP_sm (Sm.up e544 (ga_751 _) rfl) (CHP_sm (Sm.up e540 (ga_746 _) rfl) (CHP_sm (Sm.up e536 (ga_745 _) rfl) (CHP_sm (Sm.up e532 (ga_744 _) rfl) pr524))))))⟩)
      · intro h558
        refine wk_al0 r59_141 (wk_dupr r59_142 (wk_getfi r59_143 fd_739_7 ((hQ551.at g_739_7 rfl).trans (mUp_no e548 (mUp_no e544 (mUp_no e540 (mUp_no e536 (mUp_no e532 e520 (Or.inl (by decide))) (Or.inl (by decide))) (Or.inl (by decide))) (Or.inl (by decide))) (Or.inl (by decide)))) (wk_c1 r59_146 (wk_iadd r59_147 (wk_putfi81 r59_148 fd_739_7 (wk_nw g_739_7 rfl hP550 hF552 (uf_739_7 ⟨by omega, by omega⟩) ?_))))))
        intro M559 hP560 hF561 e562
        subst hQ; exact wk_ret r59_151 (⟨rfl, hP560, hF561, by have := (mUp_at e562); omega, by have := (mUp_at e562); omega, by obtain ⟨⟨q9, hq9⟩, hq8, hq6b⟩ := ti527; rw [show (v514 : Int) = x739_1 by omega] at hq9; have q6 := CMI_e hq9 (by omega) (by omega); exact ⟨⟨q9, hq9.1, hq9.2.1, fun p a b => by unfold kiF; rw [(show M559 742 x739_7 = M517 742 x739_7 by rw [e562, mUp_ne (Or.inl (by decide)), hQ551.at (ga_742 _) rfl, e548, mUp_ne (Or.inl (by decide)), e544, mUp_ne (Or.inl (by decide)), e540, mUp_ne (Or.inl (by decide)), e536, mUp_ne (Or.inl (by decide)), e532, mUp_ne (Or.inl (by decide))]), (show M559 743 x739_7 = M517 743 x739_7 by rw [e562, mUp_ne (Or.inl (by decide)), hQ551.at (ga_743 _) rfl, e548, mUp_ne (Or.inl (by decide)), e544, mUp_ne (Or.inl (by decide)), e540, mUp_ne (Or.inl (by decide)), e536, mUp_ne (Or.inl (by decide)), e532, mUp_ne (Or.inl (by decide))])]; exact q6 p a b⟩, by rw [e562, mUp_ne (Or.inl (by decide)), hQ551.at (ga_744 _) rfl, e548, mUp_ne (Or.inl (by decide)), e544, mUp_ne (Or.inl (by decide)), e540, mUp_ne (Or.inl (by decide)), e536, mUp_ne (Or.inl (by decide)), e532, mUp_eq], by rw [e562, mUp_ne (Or.inl (by decide)), hQ551.at (ga_745 _) rfl, e548, mUp_ne (Or.inl (by decide)), e544, mUp_ne (Or.inl (by decide)), e540, mUp_ne (Or.inl (by decide)), e536, mUp_eq], by rw [e562, mUp_ne (Or.inl (by decide)), hQ551.at (ga_746 _) rfl, e548, mUp_ne (Or.inl (by decide)), e544, mUp_ne (Or.inl (by decide)), e540, mUp_eq], by rw [e562, mUp_ne (Or.inl (by decide)), hQ551.at (ga_751 _) rfl, e548, mUp_ne (Or.inl (by decide)), e544, mUp_eq], by rw [e562, mUp_ne (Or.inl (by decide)), hQ551.at (ga_752 _) rfl, e548, mUp_eq], fun a i q0 q1 => by rcases q1 with rfl | rfl | rfl | rfl | rfl | rfl | rfl; (rw [e562, mUp_ne (Or.inl (by decide)), hQ551.at (ga_742 _) rfl, e548, mUp_ne (Or.inl (by decide)), e544, mUp_ne (Or.inl (by decide)), e540, mUp_ne (Or.inl (by decide)), e536, mUp_ne (Or.inl (by decide)), e532, mUp_ne (Or.inl (by decide))]; exact hq8 _ i q0 (by omega)); (rw [e562, mUp_ne (Or.inl (by decide)), hQ551.at (ga_743 _) rfl, e548, mUp_ne (Or.inl (by decide)), e544, mUp_ne (Or.inl (by decide)), e540, mUp_ne (Or.inl (by decide)), e536, mUp_ne (Or.inl (by decide)), e532, mUp_ne (Or.inl (by decide))]; exact hq8 _ i q0 (by omega)); (rw [e562, mUp_ne (Or.inl (by decide)), hQ551.at (ga_744 _) rfl, e548, mUp_ne (Or.inl (by decide)), e544, mUp_ne (Or.inl (by decide)), e540, mUp_ne (Or.inl (by decide)), e536, mUp_ne (Or.inl (by decide)), e532, mUp_ne (Or.inr q0)]; exact hq6b _ i (by omega)); (rw [e562, mUp_ne (Or.inl (by decide)), hQ551.at (ga_745 _) rfl, e548, mUp_ne (Or.inl (by decide)), e544, mUp_ne (Or.inl (by decide)), e540, mUp_ne (Or.inl (by decide)), e536, mUp_ne (Or.inr q0), e532, mUp_ne (Or.inl (by decide))]; exact hq6b _ i (by omega)); (rw [e562, mUp_ne (Or.inl (by decide)), hQ551.at (ga_746 _) rfl, e548, mUp_ne (Or.inl (by decide)), e544, mUp_ne (Or.inl (by decide)), e540, mUp_ne (Or.inr q0), e536, mUp_ne (Or.inl (by decide)), e532, mUp_ne (Or.inl (by decide))]; exact hq6b _ i (by omega)); (rw [e562, mUp_ne (Or.inl (by decide)), hQ551.at (ga_751 _) rfl, e548, mUp_ne (Or.inl (by decide)), e544, mUp_ne (Or.inr q0), e540, mUp_ne (Or.inl (by decide)), e536, mUp_ne (Or.inl (by decide)), e532, mUp_ne (Or.inl (by decide))]; exact hq6b _ i (by omega)); (rw [e562, mUp_ne (Or.inl (by decide)), hQ551.at (ga_752 _) rfl, e548, mUp_ne (Or.inr q0), e544, mUp_ne (Or.inl (by decide)), e540, mUp_ne (Or.inl (by decide)), e536, mUp_ne (Or.inl (by decide)), e532, mUp_ne (Or.inl (by decide))]; exact hq6b _ i (by omega))⟩, by rw [(evF_sm (Sm.up e562 g_739_7 rfl)).trans (evF_sm (Sm.fr hQ551 rfl)), ← xh553]; have := (mUp_at e562); omega, (FFP_sm (Sm.up e562 g_739_7 rfl) (FFP_sm (Sm.fr hQ551 rfl) (FFP_sm (Sm.up e548 (ga_752 _) rfl) (FFP_sm (Sm.up e544 (ga_751 _) rfl) (FFP_sm (Sm.up e540 (ga_746 _) rfl) (FFP_sm (Sm.up e536 (ga_745 _) rfl) (FFP_sm (Sm.up e532 (ga_744 _) rfl) pr523))))))), (CHP_sm (Sm.up e562 g_739_7 rfl) (CHP_sm (Sm.fr hQ551 rfl) (CHP_sm (Sm.up e548 (ga_752 _) rfl) (CHP_sm (Sm.up e544 (ga_751 _) rfl) (CHP_sm (Sm.up e540 (ga_746 _) rfl) (CHP_sm (Sm.up e536 (ga_745 _) rfl) (CHP_sm (Sm.up e532 (ga_744 _) rfl) pr524)))))))⟩)
    · intro h563
      refine wk_al0 r59_34 (wk_il5 r59_35 (wk_al0 r59_37 (wk_getfr r59_38 fd_739_54 (br_739_54 hP518) (wk_il5 r59_41 (wk_ialdb r59_43 ar_760 ⟨by omega, by omega⟩ (fun q0 q1 => ba_760 hP518 q0 q1) ?_)))))
      intro v564 h566 h567 e565
      refine wk_cv3 r59_44 kc_739_57 rfl (n8057_739 _ M517 v514 v564 hP518 (by first | with_reducible assumption | omega) (by first | with_reducible assumption | omega) (by first | with_reducible assumption | omega) (by first | with_reducible assumption | omega)) (cqI ?_)
      rintro v574 M568 ⟨hP569, hQ570, h575, h576, xh572, xh573⟩
      obtain rfl := Fr.same hQ570
      refine wk_is6 r59_47 rfl ?_
      have h577 : 0 ≤ v574 := by have q1 := (xh573).1; have q2 := pr524 v514 (by omega) (by rw [e521]; omega); rw [e565] at q2; omega
      refine wk_al0 r59_49 (wk_getfr r59_50 fd_739_8 (br_739_8 hP518) (wk_il4 r59_53 (wk_dup2 r59_55 (wk_ialdb r59_56 ar_742 ⟨by omega, by omega⟩ (fun q0 q1 => ba_742 hP518 q0 q1) ?_))))
      intro v578 h580 h581 e579
      refine wk_il6 r59_57 (wk_c2 r59_59 (wk_iandc 3 8 r59_61 ⟨rfl, by decide⟩ rfl (wk_c1 r59_62 (wk_il5 r59_63 (wk_imul r59_65 (wk_shlb 18 262144 7 r59_66 ⟨by omega, by omega⟩ ⟨by omega, by omega⟩ ⟨pwl_18, by decide⟩ ?_))))))
      intro v583 h584 h585 h586
      refine wk_ior 21 2097152 r59_67 (by decide) ⟨by omega, by omega⟩ ⟨by omega, by omega⟩ ?_
      intro v587 h588 h589 h590 h591 h592
      refine wk_iast r59_68 ar_742 ⟨by omega, by omega⟩ (wk_nw (ga_742 _) rfl hP518 hF519 (ua_742 ⟨by omega, by omega⟩) ?_)
      intro M593 hP594 hF595 e596
      refine wk_al0 r59_69 (wk_getfr r59_70 fd_739_9 (br_739_9 hP594) (wk_il4 r59_73 (wk_dup2 r59_75 (wk_ialdb r59_76 ar_743 ⟨by omega, by omega⟩ (fun q0 q1 => ba_743 hP594 q0 q1) ?_))))
      intro v597 h599 h600 e598
      refine wk_il6 r59_77 (wk_c1 r59_79 (wk_ishrc r59_80 ⟨by omega, by omega⟩ (by decide) pwl_3 (wk_il5 r59_81 (wk_shlb 6 64 1 r59_83 ⟨by omega, by omega⟩ ⟨by omega, by omega⟩ ⟨pwl_6, by decide⟩ ?_))))
      intro v601 h602 h603 h604
      refine wk_ior 7 128 r59_84 (by decide) ⟨by omega, by omega⟩ ⟨by omega, by omega⟩ ?_
      intro v605 h606 h607 h608 h609 h610
      refine wk_iast r59_85 ar_743 ⟨by omega, by omega⟩ (wk_nw (ga_743 _) rfl hP594 hF595 (ua_743 ⟨by omega, by omega⟩) ?_)
      intro M611 hP612 hF613 e614
      refine wk_inc5 r59_86 rfl (wk_goto r59_89 ?_)
      exact wp_fg (le_s (le_s (le_s (le_s (le_s (le_s (le_n le_0))))))) (ih615 (7 - (v514 + 1)).toNat (by omega) M611 (v514 + 1) rfl hP612 hF613 (mUp_no e614 (mUp_no e596 e520 (Or.inl (by decide))) (Or.inl (by decide))) (mUp_no e614 (mUp_no e596 e521 (Or.inl (by decide))) (Or.inl (by decide))) (mUp_no e614 (mUp_no e596 e522 (Or.inl (by decide))) (Or.inl (by decide))) (by first | with_reducible assumption | omega) (by first | with_reducible assumption | omega) (FFP_sm (Sm.up e614 (ga_743 _) rfl) (FFP_sm (Sm.up e596 (ga_742 _) rfl) pr523)) (CHP_sm (Sm.up e614 (ga_743 _) rfl) (CHP_sm (Sm.up e596 (ga_742 _) rfl) pr524)) (by first | with_reducible assumption | omega) (by first | with_reducible assumption | omega) (by obtain ⟨⟨q9, hq9⟩, hq8, hq6⟩ := ti527; obtain ⟨q7, hq7⟩ := CMI_st (kn2 := v587) (li2 := v605) hq9 (by omega) (by omega) (by have q6 := xh572; rw [hF519.at (ga_740 _) rfl] at q6; exact q6) (by omega) ((hF519.at (ga_760 _) rfl).symm.trans e565) h586 (by rw [e579]; exact h592) h604 (by rw [((show M593 743 x739_7 = M517 743 x739_7 by rw [e596, mUp_ne (Or.inl (by decide))]).symm.trans e598)]; exact h610); exact ⟨⟨q7, by rw [(show M611 742 x739_7 = _ by rw [e614, mUp_ne (Or.inl (by decide)), e596, mUp_eq]), (show M611 743 x739_7 = _ by rw [e614, mUp_eq])]; exact hq7⟩, fun a i q0 q1 => by rw [e614, mUp_ne (Or.inr q0), e596, mUp_ne (Or.inr q0)]; exact hq8 a i q0 q1, fun a i q => by rw [e614, mUp_ne (Or.inl (by omega)), e596, mUp_ne (Or.inl (by omega))]; exact hq6 a i q⟩))
  exact wp_fg (le_s (le_s (le_s (le_s (le_s (le_s (le_s le_0))))))) (c25_615 _ M5 0 rfl hP6 hF7 (mUp_no e8 (mUp_no e4 ex739_7 (Or.inl (by decide))) (Or.inl (by decide))) (mUp_no e8 (mUp_no e4 ex739_1 (Or.inl (by decide))) (Or.inl (by decide))) (mUp_no e8 (mUp_no e4 ex739_4 (Or.inl (by decide))) (Or.inl (by decide))) (by first | with_reducible assumption | omega) (by first | with_reducible assumption | omega) (FFP_sm (Sm.up e8 (ga_743 _) rfl) (FFP_sm (Sm.up e4 (ga_742 _) rfl) pp_FF)) (CHP_sm (Sm.up e8 (ga_743 _) rfl) (CHP_sm (Sm.up e4 (ga_742 _) rfl) pp_CH)) (by first | with_reducible assumption | omega) (by first | with_reducible assumption | omega) (⟨⟨fun _ => 0, by rw [(show M5 742 x739_7 = _ by rw [e8, mUp_ne (Or.inl (by decide)), e4, mUp_eq]), (show M5 743 x739_7 = _ by rw [e8, mUp_eq])]; exact CMI_0 _ _⟩, fun a i q0 q1 => by rw [e8, mUp_ne (Or.inr q0), e4, mUp_ne (Or.inr q0)], fun a i q => by rw [e8, mUp_ne (Or.inl (by omega)), e4, mUp_ne (Or.inl (by omega))]⟩))
