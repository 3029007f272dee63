/-! ===== written by program (wip/layer2/all.py): contracts of methods ===== -/
def fm_m196_10_f17 : Nat := 4740813226943354765312
/-- IslandHall$Realm.judge -/
theorem m196_10_f17 {B : eB} (d : Nat) (M0 : Mm) (c1 : Int) (a2 : Int) (hP0 : Pw M0) (hC1 : isC c1) (ha2 : 17 ≤ a2) (hb2 : a2 ≤ 135) : Ct B (d + 4) 196 [R 10, R c1, R a2] M0 (qV fun M => Pw M ∧ Fr fm_m196_10_f17 M0 M) := by
  refine ct_of (d := d + 3) (k := 1) (L := [some (R 10), some (R c1), some (R a2), none]) rfl rfl rfl ?_
  have hF0 := Fr.rf fm_m196_10_f17 M0
  generalize hQ : (qV fun M => Pw M ∧ Fr fm_m196_10_f17 M0 M) = Q
  refine wk_c1 r196_0 (wk_is3 r196_1 rfl ?_)
  have c2_221 : ∀ (k221 : Nat) (M202 : Mm) (v199 : Int), (47 - v199).toNat = k221 → Pw M202 → Fr fm_m196_10_f17 M0 M202 → 0 ≤ v199 → v199 ≤ 47 → Wp B (d + 3) 196 2 [some (R 10), some (R c1), some (R a2), some (I v199)] [] M202 Q := by
    refine lp_ind ?_
    intro k221 ih221 M202 v199 hk221 hP203 hF204 h200 h201
    refine wk_il3 r196_2 (wk_al0 r196_3 (wk_getfb r196_4 fd_10_10 (bf_10_10 hP203) ?_))
    intro v205 h207 h208 e206
    refine wk_icge r196_7 ⟨by omega, by omega⟩ ⟨by omega, by omega⟩ ?_ ?_
    · intro h209
      subst hQ; exact wk_ret r196_25 (⟨rfl, hP203, hF204⟩)
    · intro h210
      refine wk_al2 r196_10 (wk_il3 r196_11 (wk_al0 r196_12 (wk_al1 r196_13 (wk_il3 r196_14 (wk_cv3 r196_15 kc_10_207 rfl (m207_10v8 _ M202 c1 v199 hP203 hC1 (by omega) (by omega)) (cqL ?_))))))
      rintro n215 M211 ⟨hP212, hQ213, h216⟩
      have hF214 : Fr fm_m196_10_f17 M0 M211 := hF204.tr hQ213 rfl
      refine wk_last r196_18 (arF_17 (by omega) (by omega)) ⟨by omega, by omega⟩ (wk_nw (gr_17 (by omega) (by omega) _) rfl hP212 hF214 (uaF_17 (by omega) (by omega) ⟨by omega, by omega⟩) ?_)
      intro M217 hP218 hF219 e220
      refine wk_inc3 r196_19 rfl (wk_goto r196_22 ?_)
      exact wp_fg (le_s (le_s (le_s (le_s le_0)))) (ih221 (47 - (v199 + 1)).toNat (by omega) M217 (v199 + 1) rfl hP218 hF219 (by omega) (by omega))
  exact wp_fg (le_s (le_s (le_s (le_s le_0)))) (c2_221 _ M0 0 rfl hP0 hF0 (by omega) (by omega))
def fm_m200_10 : Nat := 9223372036854775808
/-- IslandHall$Realm.pass -/
theorem m200_10 {B : eB} (d : Nat) (M0 : Mm) (p1 : Int) (hP0 : Pw M0) (l1 : 0 ≤ p1) (u1 : p1 ≤ 6) : Ct B (d + 1) 200 [R 10, I p1] M0 (qV fun M => Pw M ∧ Fr fm_m200_10 M0 M) := by
  refine ct_of (d := d + 0) (k := 0) (L := [some (R 10), some (I p1)]) rfl rfl rfl ?_
  have hF0 := Fr.rf fm_m200_10 M0
  generalize hQ : (qV fun M => Pw M ∧ Fr fm_m200_10 M0 M) = Q
  refine wk_al0 r200_0 (wk_getfr r200_1 fd_10_3 (br_10_3 hP0) (wk_il1 r200_4 (wk_dup2 r200_5 (wk_ialdb r200_6 ar_11 ⟨by omega, by omega⟩ (fun q0 q1 => ba_11 hP0 q0 q1) ?_))))
  intro v1 h3 h4 e2
  refine wk_c1 r200_7 (wk_ixor 1 2 r200_8 (by decide) ⟨by omega, by omega⟩ ⟨by omega, by omega⟩ ?_)
  intro v5 h6 h7 h8
  refine wk_iast r200_9 ar_11 ⟨by omega, by omega⟩ (wk_nw (ga_11 _) rfl hP0 hF0 (ua_11 ⟨by omega, by omega⟩) ?_)
  intro M9 hP10 hF11 e12
  subst hQ; exact wk_ret r200_10 (⟨rfl, hP10, hF11⟩)
def fm_m224_138 : Nat := 100345593064613201710153728
/-- IslandHall$Tale.add -/
theorem m224_138 {B : eB} (d : Nat) (M0 : Mm) (p1 : Int) (c2 : Int) (p3 : Int) (hP0 : Pw M0) (l1 : 0 ≤ p1) (u1 : p1 ≤ 6) (hC2 : isC c2) (l3 : (-1) ≤ p3) (u3 : p3 ≤ (-1)) : Ct B (d + 5) 224 [R 138, I p1, R c2, I p3] M0 (qI fun z M => Pw M ∧ Fr fm_m224_138 M0 M ∧ (-1) ≤ z ∧ z ≤ 11) := by
  refine ct_of (d := d + 4) (k := 3) (L := [some (R 138), some (I p1), some (R c2), some (I p3), none, none, none]) rfl rfl rfl ?_
  have hF0 := Fr.rf fm_m224_138 M0
  generalize hQ : (qI fun z M => Pw M ∧ Fr fm_m224_138 M0 M ∧ (-1) ≤ z ∧ z ≤ 11) = Q
  refine wk_al0 r224_0 (wk_getfb r224_1 fd_138_5 (bf_138_5 hP0) ?_)
  intro v1 h3 h4 e2
  refine wk_is4 r224_4 rfl (wk_il4 r224_6 (wk_c2 r224_8 ?_))
  refine wk_iclt r224_10 ⟨by omega, by omega⟩ (by decide) ?_ ?_
  · intro h5
    refine wk_al0 r224_15 (wk_getfr r224_16 fd_138_0 (br_138_0 hP0) (wk_getfr r224_19 fd_10_0 (br_10_0 hP0) (wk_c2 r224_22 (wk_il4 r224_24 (wk_iadd r224_26 (wk_raldb r224_27 ar_16 ⟨by omega, by omega⟩ (fun q0 q1 => ba_16 hP0 q0 q1) (wk_as5 r224_28 rfl (wk_al0 r224_30 (wk_getfr r224_31 fd_138_0 (br_138_0 hP0) (wk_al2 r224_34 (wk_al5 r224_35 (wk_cv3 r224_37 kc_10_196 rfl (m196_10_f17 _ M0 c2 (17 + (102 + v1)) hP0 hC2 (by omega) (by omega)) (cqV ?_)))))))))))))
    rintro M6 ⟨hP7, hQ8⟩
    have hF9 : Fr fm_m224_138 M0 M6 := hF0.tr hQ8 rfl
    refine wk_c1 r224_40 (wk_is6 r224_41 rfl ?_)
    have c43_570 : ∀ (k570 : Nat) (M517 : Mm) (v514 : Int), (47 - v514).toNat = k570 → Pw M517 → Fr fm_m224_138 M0 M517 → M517 138 5 = v1 → 0 ≤ v514 → v514 ≤ 47 → Wp B (d + 4) 224 43 [some (R 138), some (I p1), none, some (I p3), some (I v1), some (R (17 + (102 + v1))), some (I v514)] [] M517 Q := by
      refine lp_ind ?_
      intro k570 ih570 M517 v514 hk570 hP518 hF519 e520 h515 h516
      refine wk_il6 r224_43 (wk_al0 r224_45 (wk_getfr r224_46 fd_138_0 (br_138_0 hP518) (wk_getfb r224_49 fd_10_10 (bf_10_10 hP518) ?_)))
      intro v521 h523 h524 e522
      refine wk_icge r224_52 ⟨by omega, by omega⟩ ⟨by omega, by omega⟩ ?_ ?_
      · intro h525
        refine wk_al0 r224_120 (wk_getfr r224_121 fd_138_1 (br_138_1 hP518) (wk_il4 r224_124 (wk_il1 r224_126 (wk_iast r224_127 ar_139 ⟨by omega, by omega⟩ (wk_nw (ga_139 _) rfl hP518 hF519 (ua_139 ⟨by omega, by omega⟩) ?_)))))
        intro M526 hP527 hF528 e529
        refine wk_al0 r224_128 (wk_getfr r224_129 fd_138_0 (br_138_0 hP527) (wk_il1 r224_132 (wk_cv2 r224_133 kc_10_200 rfl (m200_10 _ M526 p1 hP527 (by omega) (by omega)) (cqV ?_))))
        rintro M530 ⟨hP531, hQ532⟩
        have hF533 : Fr fm_m224_138 M0 M530 := hF528.tr hQ532 rfl
        refine wk_al0 r224_136 (wk_dupr r224_137 (wk_getfi r224_138 fd_138_5 ((hQ532.at g_138_5 rfl).trans (mUp_no e529 e520 (Or.inl (by decide)))) (wk_c1 r224_141 (wk_iadd r224_142 (wk_putfi81 r224_143 fd_138_5 (wk_nw g_138_5 rfl hP531 hF533 (uf_138_5 ⟨by omega, by omega⟩) ?_))))))
        intro M534 hP535 hF536 e537
        refine wk_il4 r224_146 ?_
        subst hQ; exact wk_iret r224_148 (⟨rfl, _, rfl, hP535, hF536, by omega, by omega⟩)
      · intro h538
        refine wk_al0 r224_55 (wk_getfr r224_56 fd_138_2 (br_138_2 hP518) (wk_il4 r224_59 (wk_raldb r224_61 ar_141 ⟨by omega, by omega⟩ (fun q0 q1 => ba_141 hP518 q0 q1) (wk_il6 r224_62 (wk_al0 r224_64 (wk_getfr r224_65 fd_138_0 (br_138_0 hP518) (wk_il1 r224_68 (wk_il3 r224_69 (wk_al5 r224_70 (wk_il6 r224_72 (wk_laldb r224_74 (arF_17 (by omega) (by omega)) ⟨by omega, by omega⟩ (fun q0 q1 => baF_17 hP518 (by omega) (by omega) q0 q1) (by decide) ?_)))))))))))
        intro n539 h541 h542 e540
        refine wk_il6 r224_75 (wk_cv5 r224_77 kc_10_189 rfl (m189_10v8 _ M517 p1 p3 n539 v514 hP518 (by omega) (by omega) (by omega) (by omega) (by omega) (by omega) (by omega)) (cqL ?_))
        rintro n547 M543 ⟨hP544, hQ545, h548⟩
        obtain rfl := Fr.same hQ545
        refine wk_last r224_80 (arF_142 (by omega) (by omega)) ⟨by omega, by omega⟩ (wk_nw (gr_142 (by omega) (by omega) _) rfl hP518 hF519 (uaF_142 (by omega) (by omega) ⟨by omega, by omega⟩) ?_)
        intro M549 hP550 hF551 e552
        refine wk_al0 r224_81 (wk_getfr r224_82 fd_138_3 (br_138_3 hP550) (wk_il4 r224_85 (wk_c1 r224_87 (wk_iadd r224_88 (wk_raldb r224_89 ar_154 ⟨by omega, by omega⟩ (fun q0 q1 => ba_154 hP550 q0 q1) (wk_il6 r224_90 (wk_al0 r224_92 (wk_getfr r224_93 fd_138_3 (br_138_3 hP550) (wk_il4 r224_96 (wk_raldb r224_98 ar_154 ⟨by omega, by omega⟩ (fun q0 q1 => ba_154 hP550 q0 q1) (wk_il6 r224_99 (wk_laldb r224_101 (arF_155 (by omega) (by omega)) ⟨by omega, by omega⟩ (fun q0 q1 => baF_155 hP550 (by omega) (by omega) q0 q1) (by decide) ?_))))))))))))
        intro n553 h555 h556 e554
        refine wk_al0 r224_102 (wk_getfr r224_103 fd_138_2 (br_138_2 hP550) (wk_il4 r224_106 (wk_raldb r224_108 ar_141 ⟨by omega, by omega⟩ (fun q0 q1 => ba_141 hP550 q0 q1) (wk_il6 r224_109 (wk_laldb r224_111 (arF_142 (by omega) (by omega)) ⟨by omega, by omega⟩ (fun q0 q1 => baF_142 hP550 (by omega) (by omega) q0 q1) (by decide) ?_)))))
        intro n557 h559 h560 e558
        refine wk_land r224_112 ?_
        intro n561 h562 h563 h564 h565
        refine wk_last r224_113 (arF_155 (by omega) (by omega)) ⟨by omega, by omega⟩ (wk_nw (gr_155 (by omega) (by omega) _) rfl hP550 hF551 (uaF_155 (by omega) (by omega) ⟨by omega, by omega⟩) ?_)
        intro M566 hP567 hF568 e569
        refine wk_inc6 r224_114 rfl (wk_goto r224_117 ?_)
        exact wp_fg (le_s (le_s (le_s (le_s (le_s (le_s (le_s le_0))))))) (ih570 (47 - (v514 + 1)).toNat (by omega) M566 (v514 + 1) rfl hP567 hF568 (mUp_no e569 (mUp_no e552 e520 (Or.inl (by omega))) (Or.inl (by omega))) (by omega) (by omega))
    exact wp_fg (le_s (le_s (le_n (le_s (le_s (le_s (le_s le_0))))))) (c43_570 _ M6 0 rfl hP7 hF9 ((hQ8.at g_138_5 rfl).trans e2) (by omega) (by omega))
  · intro h571
    refine wk_c1 r224_13 ?_
    subst hQ; exact wk_iret r224_14 (⟨rfl, _, rfl, hP0, hF0, by omega, by omega⟩)
def fm_m35_0 : Nat := 10003865907347655400903147520
/-- IslandHall.record -/
theorem m35_0 {B : eB} (d : Nat) (M0 : Mm) (p1 : Int) (p2 : Int) (p3 : Int) (hP0 : Pw M0) (l1 : 0 ≤ p1) (u1 : p1 ≤ 6) (l2 : 0 ≤ p2) (u2 : p2 ≤ 29) (l3 : (-1) ≤ p3) (u3 : p3 ≤ (-1)) : Ct B (d + 6) 35 [R 0, I p1, I p2, I p3] M0 (qI fun z M => Pw M ∧ Fr fm_m35_0 M0 M ∧ (-1) ≤ z ∧ z ≤ 11) := by
  refine ct_of (d := d + 5) (k := 0) (L := [some (R 0), some (I p1), some (I p2), some (I p3)]) rfl rfl rfl ?_
  have hF0 := Fr.rf fm_m35_0 M0
  generalize hQ : (qI fun z M => Pw M ∧ Fr fm_m35_0 M0 M ∧ (-1) ≤ z ∧ z ≤ 11) = Q
  refine wk_al0 r35_0 (wk_getfr r35_1 fd_0_7 (br_0_7 hP0) (wk_getfb r35_4 fd_138_5 (bf_138_5 hP0) ?_))
  intro v1 h3 h4 e2
  refine wk_c2 r35_7 ?_
  refine wk_iclt r35_9 ⟨by omega, by omega⟩ (by decide) ?_ ?_
  · intro h5
    refine wk_al0 r35_14 (wk_getfr r35_15 fd_0_12 (br_0_12 hP0) (wk_cv1 r35_18 kc_170_217 rfl (m217_170 _ M0 hP0) (cqV ?_)))
    rintro M6 ⟨hP7, hQ8⟩
    have hF9 : Fr fm_m35_0 M0 M6 := hF0.tr hQ8 rfl
    refine wk_al0 r35_21 (wk_getfr r35_22 fd_0_7 (br_0_7 hP7) (wk_il1 r35_25 (wk_al0 r35_26 (wk_getfr r35_27 fd_0_8 (br_0_8 hP7) (wk_il2 r35_30 (wk_caldb r35_31 ar_168 ⟨by omega, by omega⟩ (fun q0 q1 => ba_168 hP7 q0 q1) ?_))))))
    intro v10 e11
    have hC12 : isC v10 := Or.inr (by omega)
    refine wk_il3 r35_32 (wk_cv4 r35_33 kc_138_224 rfl (m224_138 _ M6 p1 v10 p3 hP7 (by omega) (by omega) hC12 (by omega) (by omega)) (cqI ?_))
    rintro v17 M13 ⟨hP14, hQ15, h18, h19⟩
    have hF16 : Fr fm_m35_0 M0 M13 := hF9.tr hQ15 rfl
    subst hQ; exact wk_iret r35_36 (⟨rfl, _, rfl, hP14, hF16, by omega, by omega⟩)
  · intro h20
    refine wk_c1 r35_12 ?_
    subst hQ; exact wk_iret r35_13 (⟨rfl, _, rfl, hP0, hF0, by omega, by omega⟩)
def fm_m38_0 : Nat := 10003865907347655400903147520
/-- IslandHall.says -/
theorem m38_0 {B : eB} (d : Nat) (M0 : Mm) (p1 : Int) (p2 : Int) (hP0 : Pw M0) (l1 : (-2147483648) ≤ p1) (u1 : p1 ≤ 2147483647) (l2 : (-2147483648) ≤ p2) (u2 : p2 ≤ 2147483647) : Ct B (d + 7) 38 [R 0, I p1, I p2] M0 (qX 0 (fun M => Pw M ∧ Fr (fm_m38_0 ||| 1) M0 M ∧ M (-1) 0 = M0 (-1) 0 + 1) (qI fun z M => Pw M ∧ Fr fm_m38_0 M0 M ∧ (-1) ≤ z ∧ z ≤ 11)) := by
  refine ct_of (d := d + 6) (k := 0) (L := [some (R 0), some (I p1), some (I p2)]) rfl rfl rfl ?_
  have hF0 := Fr.rf fm_m38_0 M0
  generalize hQ : (qX 0 (fun M => Pw M ∧ Fr (fm_m38_0 ||| 1) M0 M ∧ M (-1) 0 = M0 (-1) 0 + 1) (qI fun z M => Pw M ∧ Fr fm_m38_0 M0 M ∧ (-1) ≤ z ∧ z ≤ 11)) = Q
  refine wk_al0 r38_0 (wk_il1 r38_1 (wk_cv2 r38_2 kc_0_30 rfl (m30_0 _ M0 p1 hP0 (by omega) (by omega)) (cqX (fun _ _ x5 => by subst hQ; exact Or.inl ⟨rfl, x5.1, Fr.trx hF0 x5.2.1 rfl, (by rw [x5.2.2, hF0.at g_below rfl])⟩) (cqV ?_))))
  rintro M1 ⟨hP2, hQ3, h8, h9⟩
  obtain rfl := Fr.same hQ3
  obtain ⟨v10, e11⟩ : ∃ v, M0 2 1 = v := ⟨_, rfl⟩
  have h12 := bf_2_1 hP0; rw [e11] at h12
  refine wk_al0 r38_5 (wk_il2 r38_6 (wk_cv2 r38_7 kc_0_31 rfl (m31_0 _ M0 p2 hP0 (by omega) (by omega)) (cqX (fun _ _ x17 => by subst hQ; exact Or.inl ⟨rfl, x17.1, Fr.trx hF0 x17.2.1 rfl, (by rw [x17.2.2, hF0.at g_below rfl])⟩) (cqV ?_))))
  rintro M13 ⟨hP14, hQ15, h20, h21⟩
  obtain rfl := Fr.same hQ15
  obtain ⟨v22, e23⟩ : ∃ v, M0 0 9 = v := ⟨_, rfl⟩
  have h24 := bf_0_9 hP0; rw [e23] at h24
  refine wk_al0 r38_10 (wk_il1 r38_11 (wk_il2 r38_12 (wk_c1 r38_13 (wk_cv4 r38_14 kc_0_35 rfl (m35_0 _ M0 p1 p2 (-1) hP0 (by omega) (by omega) (by omega) (by omega) (by decide) (by decide)) (cqI ?_)))))
  rintro v29 M25 ⟨hP26, hQ27, h30, h31⟩
  have hF28 : Fr fm_m38_0 M0 M25 := hF0.tr hQ27 rfl
  subst hQ; exact wk_iret r38_17 (Or.inr ⟨rfl, _, rfl, hP26, hF28, by omega, by omega⟩)
def fm_m208_10v1 : Nat := 0
/-- IslandHall$Realm.yesRow -/
theorem m208_10v1 {B : eB} (d : Nat) (M0 : Mm) (p1 : Int) (hP0 : Pw M0) (l1 : (-1) ≤ p1) (u1 : p1 ≤ 1) : Ct B (d + 1) 208 [R 10, I p1] M0 (qR fun z M => Pw M ∧ Fr fm_m208_10v1 M0 M ∧ 63 ≤ z ∧ z ≤ 135) := by
  refine ct_of (d := d + 0) (k := 0) (L := [some (R 10), some (I p1)]) rfl rfl rfl ?_
  have hF0 := Fr.rf fm_m208_10v1 M0
  generalize hQ : (qR fun z M => Pw M ∧ Fr fm_m208_10v1 M0 M ∧ 63 ≤ z ∧ z ≤ 135) = Q
  refine wk_al0 r208_0 (wk_getfr r208_1 fd_10_0 (br_10_0 hP0) (wk_il1 r208_4 (wk_c1 r208_5 ?_)))
  refine wk_icne r208_6 ⟨by omega, by omega⟩ (by decide) ?_ ?_
  · intro h1
    refine wk_c2 r208_14 (wk_il1 r208_16 (wk_iadd r208_17 (wk_raldb r208_18 ar_16 ⟨by omega, by omega⟩ (fun q0 q1 => ba_16 hP0 q0 q1) ?_)))
    subst hQ; exact wk_aret r208_19 (⟨rfl, _, rfl, hP0, hF0, by omega, by omega⟩)
  · intro h2
    refine wk_c2 r208_9 (wk_goto r208_11 (wk_raldb r208_18 ar_16 (by decide) (fun q0 q1 => ba_16 hP0 q0 q1) ?_))
    subst hQ; exact wk_aret r208_19 (⟨rfl, _, rfl, hP0, hF0, by omega, by omega⟩)
def fm_m189_10v17 : Nat := 0
/-- IslandHall$Realm.fits -/
theorem m189_10v17 {B : eB} (d : Nat) (M0 : Mm) (p1 : Int) (p2 : Int) (p3 : Nat) (p4 : Int) (hP0 : Pw M0) (l1 : 0 ≤ p1) (u1 : p1 ≤ 6) (l2 : (-1) ≤ p2) (u2 : p2 ≤ 1) (l3 : p3 < 18446744073709551616) (l4 : 0 ≤ p4) (u4 : p4 ≤ 46) : Ct B (d + 2) 189 [R 10, I p1, I p2, J p3, I p4] M0 (qL fun z M => Pw M ∧ Fr fm_m189_10v17 M0 M ∧ z < 18446744073709551616) := by
  refine ct_of (d := d + 1) (k := 0) (L := [some (R 10), some (I p1), some (I p2), some (J p3), none, some (I p4)]) rfl rfl rfl ?_
  have hF0 := Fr.rf fm_m189_10v17 M0
  generalize hQ : (qL fun z M => Pw M ∧ Fr fm_m189_10v17 M0 M ∧ z < 18446744073709551616) = Q
  refine wk_al0 r189_0 (wk_il1 r189_1 (wk_cv2 r189_2 kc_10_190 rfl (m190_10 _ M0 p1 hP0 (by omega) (by omega)) (cqR ?_)))
  rintro v5 M1 ⟨hP2, hQ3, h6, h7⟩
  obtain rfl := Fr.same hQ3
  refine wk_il5 r189_5 (wk_laldb r189_7 (arF_17 (by omega) (by omega)) ⟨by omega, by omega⟩ (fun q0 q1 => baF_17 hP0 (by omega) (by omega) q0 q1) (by decide) ?_)
  intro n8 h10 h11 e9
  refine wk_al0 r189_8 (wk_il2 r189_9 (wk_cv2 r189_10 kc_10_208 rfl (m208_10v1 _ M0 p2 hP0 (by omega) (by omega)) (cqR ?_)))
  rintro v16 M12 ⟨hP13, hQ14, h17, h18⟩
  obtain rfl := Fr.same hQ14
  refine wk_il5 r189_13 (wk_laldb r189_15 (arF_17 (by omega) (by omega)) ⟨by omega, by omega⟩ (fun q0 q1 => baF_17 hP0 (by omega) (by omega) q0 q1) (by decide) ?_)
  intro n19 h21 h22 e20
  refine wk_ll3 r189_16 (wk_lxor r189_17 ?_)
  intro n23 h24 h25
  refine wk_al0 r189_18 (wk_il1 r189_19 (wk_cv2 r189_20 kc_10_193 rfl (m193_10 _ M0 p1 hP0 (by omega) (by omega)) (cqR ?_)))
  rintro v30 M26 ⟨hP27, hQ28, h31, h32⟩
  obtain rfl := Fr.same hQ28
  refine wk_il5 r189_23 (wk_laldb r189_25 (arF_17 (by omega) (by omega)) ⟨by omega, by omega⟩ (fun q0 q1 => baF_17 hP0 (by omega) (by omega) q0 q1) (by decide) ?_)
  intro n33 h35 h36 e34
  refine wk_lxor r189_26 ?_
  intro n37 h38 h39
  refine wk_lorb r189_27 ?_
  intro n40 h41 h42 h43
  subst hQ; exact wk_lret r189_28 (⟨rfl, _, rfl, hP0, hF0, by omega⟩)
def fm_m224_138v1 : Nat := 100345593064613201710153728
/-- IslandHall$Tale.add -/
theorem m224_138v1 {B : eB} (d : Nat) (M0 : Mm) (p1 : Int) (c2 : Int) (p3 : Int) (hP0 : Pw M0) (l1 : 0 ≤ p1) (u1 : p1 ≤ 6) (hC2 : isC c2) (l3 : (-1) ≤ p3) (u3 : p3 ≤ 1) : Ct B (d + 5) 224 [R 138, I p1, R c2, I p3] M0 (qI fun z M => Pw M ∧ Fr fm_m224_138v1 M0 M ∧ (-1) ≤ z ∧ z ≤ 11) := by
  refine ct_of (d := d + 4) (k := 3) (L := [some (R 138), some (I p1), some (R c2), some (I p3), none, none, none]) rfl rfl rfl ?_
  have hF0 := Fr.rf fm_m224_138v1 M0
  generalize hQ : (qI fun z M => Pw M ∧ Fr fm_m224_138v1 M0 M ∧ (-1) ≤ z ∧ z ≤ 11) = Q
  refine wk_al0 r224_0 (wk_getfb r224_1 fd_138_5 (bf_138_5 hP0) ?_)
  intro v1 h3 h4 e2
  refine wk_is4 r224_4 rfl (wk_il4 r224_6 (wk_c2 r224_8 ?_))
  refine wk_iclt r224_10 ⟨by omega, by omega⟩ (by decide) ?_ ?_
  · intro h5
    refine wk_al0 r224_15 (wk_getfr r224_16 fd_138_0 (br_138_0 hP0) (wk_getfr r224_19 fd_10_0 (br_10_0 hP0) (wk_c2 r224_22 (wk_il4 r224_24 (wk_iadd r224_26 (wk_raldb r224_27 ar_16 ⟨by omega, by omega⟩ (fun q0 q1 => ba_16 hP0 q0 q1) (wk_as5 r224_28 rfl (wk_al0 r224_30 (wk_getfr r224_31 fd_138_0 (br_138_0 hP0) (wk_al2 r224_34 (wk_al5 r224_35 (wk_cv3 r224_37 kc_10_196 rfl (m196_10_f17 _ M0 c2 (17 + (102 + v1)) hP0 hC2 (by omega) (by omega)) (cqV ?_)))))))))))))
    rintro M6 ⟨hP7, hQ8⟩
    have hF9 : Fr fm_m224_138v1 M0 M6 := hF0.tr hQ8 rfl
    refine wk_c1 r224_40 (wk_is6 r224_41 rfl ?_)
    have c43_570 : ∀ (k570 : Nat) (M517 : Mm) (v514 : Int), (47 - v514).toNat = k570 → Pw M517 → Fr fm_m224_138v1 M0 M517 → M517 138 5 = v1 → 0 ≤ v514 → v514 ≤ 47 → Wp B (d + 4) 224 43 [some (R 138), some (I p1), none, some (I p3), some (I v1), some (R (17 + (102 + v1))), some (I v514)] [] M517 Q := by
      refine lp_ind ?_
      intro k570 ih570 M517 v514 hk570 hP518 hF519 e520 h515 h516
      refine wk_il6 r224_43 (wk_al0 r224_45 (wk_getfr r224_46 fd_138_0 (br_138_0 hP518) (wk_getfb r224_49 fd_10_10 (bf_10_10 hP518) ?_)))
      intro v521 h523 h524 e522
      refine wk_icge r224_52 ⟨by omega, by omega⟩ ⟨by omega, by omega⟩ ?_ ?_
      · intro h525
        refine wk_al0 r224_120 (wk_getfr r224_121 fd_138_1 (br_138_1 hP518) (wk_il4 r224_124 (wk_il1 r224_126 (wk_iast r224_127 ar_139 ⟨by omega, by omega⟩ (wk_nw (ga_139 _) rfl hP518 hF519 (ua_139 ⟨by omega, by omega⟩) ?_)))))
        intro M526 hP527 hF528 e529
        refine wk_al0 r224_128 (wk_getfr r224_129 fd_138_0 (br_138_0 hP527) (wk_il1 r224_132 (wk_cv2 r224_133 kc_10_200 rfl (m200_10 _ M526 p1 hP527 (by omega) (by omega)) (cqV ?_))))
        rintro M530 ⟨hP531, hQ532⟩
        have hF533 : Fr fm_m224_138v1 M0 M530 := hF528.tr hQ532 rfl
        refine wk_al0 r224_136 (wk_dupr r224_137 (wk_getfi r224_138 fd_138_5 ((hQ532.at g_138_5 rfl).trans (mUp_no e529 e520 (Or.inl (by decide)))) (wk_c1 r224_141 (wk_iadd r224_142 (wk_putfi81 r224_143 fd_138_5 (wk_nw g_138_5 rfl hP531 hF533 (uf_138_5 ⟨by omega, by omega⟩) ?_))))))
        intro M534 hP535 hF536 e537
        refine wk_il4 r224_146 ?_
        subst hQ; exact wk_iret r224_148 (⟨rfl, _, rfl, hP535, hF536, by omega, by omega⟩)
      · intro h538
        refine wk_al0 r224_55 (wk_getfr r224_56 fd_138_2 (br_138_2 hP518) (wk_il4 r224_59 (wk_raldb r224_61 ar_141 ⟨by omega, by omega⟩ (fun q0 q1 => ba_141 hP518 q0 q1) (wk_il6 r224_62 (wk_al0 r224_64 (wk_getfr r224_65 fd_138_0 (br_138_0 hP518) (wk_il1 r224_68 (wk_il3 r224_69 (wk_al5 r224_70 (wk_il6 r224_72 (wk_laldb r224_74 (arF_17 (by omega) (by omega)) ⟨by omega, by omega⟩ (fun q0 q1 => baF_17 hP518 (by omega) (by omega) q0 q1) (by decide) ?_)))))))))))
        intro n539 h541 h542 e540
        refine wk_il6 r224_75 (wk_cv5 r224_77 kc_10_189 rfl (m189_10v17 _ M517 p1 p3 n539 v514 hP518 (by omega) (by omega) (by omega) (by omega) (by omega) (by omega) (by omega)) (cqL ?_))
        rintro n547 M543 ⟨hP544, hQ545, h548⟩
        obtain rfl := Fr.same hQ545
        refine wk_last r224_80 (arF_142 (by omega) (by omega)) ⟨by omega, by omega⟩ (wk_nw (gr_142 (by omega) (by omega) _) rfl hP518 hF519 (uaF_142 (by omega) (by omega) ⟨by omega, by omega⟩) ?_)
        intro M549 hP550 hF551 e552
        refine wk_al0 r224_81 (wk_getfr r224_82 fd_138_3 (br_138_3 hP550) (wk_il4 r224_85 (wk_c1 r224_87 (wk_iadd r224_88 (wk_raldb r224_89 ar_154 ⟨by omega, by omega⟩ (fun q0 q1 => ba_154 hP550 q0 q1) (wk_il6 r224_90 (wk_al0 r224_92 (wk_getfr r224_93 fd_138_3 (br_138_3 hP550) (wk_il4 r224_96 (wk_raldb r224_98 ar_154 ⟨by omega, by omega⟩ (fun q0 q1 => ba_154 hP550 q0 q1) (wk_il6 r224_99 (wk_laldb r224_101 (arF_155 (by omega) (by omega)) ⟨by omega, by omega⟩ (fun q0 q1 => baF_155 hP550 (by omega) (by omega) q0 q1) (by decide) ?_))))))))))))
        intro n553 h555 h556 e554
        refine wk_al0 r224_102 (wk_getfr r224_103 fd_138_2 (br_138_2 hP550) (wk_il4 r224_106 (wk_raldb r224_108 ar_141 ⟨by omega, by omega⟩ (fun q0 q1 => ba_141 hP550 q0 q1) (wk_il6 r224_109 (wk_laldb r224_111 (arF_142 (by omega) (by omega)) ⟨by omega, by omega⟩ (fun q0 q1 => baF_142 hP550 (by omega) (by omega) q0 q1) (by decide) ?_)))))
        intro n557 h559 h560 e558
        refine wk_land r224_112 ?_
        intro n561 h562 h563 h564 h565
        refine wk_last r224_113 (arF_155 (by omega) (by omega)) ⟨by omega, by omega⟩ (wk_nw (gr_155 (by omega) (by omega) _) rfl hP550 hF551 (uaF_155 (by omega) (by omega) ⟨by omega, by omega⟩) ?_)
        intro M566 hP567 hF568 e569
        refine wk_inc6 r224_114 rfl (wk_goto r224_117 ?_)
        exact wp_fg (le_s (le_s (le_s (le_s (le_s (le_s (le_s le_0))))))) (ih570 (47 - (v514 + 1)).toNat (by omega) M566 (v514 + 1) rfl hP567 hF568 (mUp_no e569 (mUp_no e552 e520 (Or.inl (by omega))) (Or.inl (by omega))) (by omega) (by omega))
    exact wp_fg (le_s (le_s (le_n (le_s (le_s (le_s (le_s le_0))))))) (c43_570 _ M6 0 rfl hP7 hF9 ((hQ8.at g_138_5 rfl).trans e2) (by omega) (by omega))
  · intro h571
    refine wk_c1 r224_13 ?_
    subst hQ; exact wk_iret r224_14 (⟨rfl, _, rfl, hP0, hF0, by omega, by omega⟩)
def fm_m35_0v1 : Nat := 10003865907347655400903147520
/-- IslandHall.record -/
theorem m35_0v1 {B : eB} (d : Nat) (M0 : Mm) (p1 : Int) (p2 : Int) (p3 : Int) (hP0 : Pw M0) (l1 : 0 ≤ p1) (u1 : p1 ≤ 6) (l2 : 0 ≤ p2) (u2 : p2 ≤ 29) (l3 : (-1) ≤ p3) (u3 : p3 ≤ 1) : Ct B (d + 6) 35 [R 0, I p1, I p2, I p3] M0 (qI fun z M => Pw M ∧ Fr fm_m35_0v1 M0 M ∧ (-1) ≤ z ∧ z ≤ 11) := by
  refine ct_of (d := d + 5) (k := 0) (L := [some (R 0), some (I p1), some (I p2), some (I p3)]) rfl rfl rfl ?_
  have hF0 := Fr.rf fm_m35_0v1 M0
  generalize hQ : (qI fun z M => Pw M ∧ Fr fm_m35_0v1 M0 M ∧ (-1) ≤ z ∧ z ≤ 11) = Q
  refine wk_al0 r35_0 (wk_getfr r35_1 fd_0_7 (br_0_7 hP0) (wk_getfb r35_4 fd_138_5 (bf_138_5 hP0) ?_))
  intro v1 h3 h4 e2
  refine wk_c2 r35_7 ?_
  refine wk_iclt r35_9 ⟨by omega, by omega⟩ (by decide) ?_ ?_
  · intro h5
    refine wk_al0 r35_14 (wk_getfr r35_15 fd_0_12 (br_0_12 hP0) (wk_cv1 r35_18 kc_170_217 rfl (m217_170 _ M0 hP0) (cqV ?_)))
    rintro M6 ⟨hP7, hQ8⟩
    have hF9 : Fr fm_m35_0v1 M0 M6 := hF0.tr hQ8 rfl
    refine wk_al0 r35_21 (wk_getfr r35_22 fd_0_7 (br_0_7 hP7) (wk_il1 r35_25 (wk_al0 r35_26 (wk_getfr r35_27 fd_0_8 (br_0_8 hP7) (wk_il2 r35_30 (wk_caldb r35_31 ar_168 ⟨by omega, by omega⟩ (fun q0 q1 => ba_168 hP7 q0 q1) ?_))))))
    intro v10 e11
    have hC12 : isC v10 := Or.inr (by omega)
    refine wk_il3 r35_32 (wk_cv4 r35_33 kc_138_224 rfl (m224_138v1 _ M6 p1 v10 p3 hP7 (by omega) (by omega) hC12 (by omega) (by omega)) (cqI ?_))
    rintro v17 M13 ⟨hP14, hQ15, h18, h19⟩
    have hF16 : Fr fm_m35_0v1 M0 M13 := hF9.tr hQ15 rfl
    subst hQ; exact wk_iret r35_36 (⟨rfl, _, rfl, hP14, hF16, by omega, by omega⟩)
  · intro h20
    refine wk_c1 r35_12 ?_
    subst hQ; exact wk_iret r35_13 (⟨rfl, _, rfl, hP0, hF0, by omega, by omega⟩)
def fm_m11_0 : Nat := 10003865907347655400903147520
/-- IslandHall.answers -/
theorem m11_0 {B : eB} (d : Nat) (M0 : Mm) (p1 : Int) (p2 : Int) (p3 : Int) (hP0 : Pw M0) (l1 : (-2147483648) ≤ p1) (u1 : p1 ≤ 2147483647) (l2 : (-2147483648) ≤ p2) (u2 : p2 ≤ 2147483647) (l3 : (-2147483648) ≤ p3) (u3 : p3 ≤ 2147483647) : Ct B (d + 7) 11 [R 0, I p1, I p2, I p3] M0 (qX 0 (fun M => Pw M ∧ Fr (fm_m11_0 ||| 1) M0 M ∧ M (-1) 0 = M0 (-1) 0 + 1) (qI fun z M => Pw M ∧ Fr fm_m11_0 M0 M ∧ (-1) ≤ z ∧ z ≤ 11)) := by
  refine ct_of (d := d + 6) (k := 0) (L := [some (R 0), some (I p1), some (I p2), some (I p3)]) rfl rfl rfl ?_
  have hF0 := Fr.rf fm_m11_0 M0
  generalize hQ : (qX 0 (fun M => Pw M ∧ Fr (fm_m11_0 ||| 1) M0 M ∧ M (-1) 0 = M0 (-1) 0 + 1) (qI fun z M => Pw M ∧ Fr fm_m11_0 M0 M ∧ (-1) ≤ z ∧ z ≤ 11)) = Q
  refine wk_al0 r11_0 (wk_il1 r11_1 (wk_cv2 r11_2 kc_0_30 rfl (m30_0 _ M0 p1 hP0 (by omega) (by omega)) (cqX (fun _ _ x5 => by subst hQ; exact Or.inl ⟨rfl, x5.1, Fr.trx hF0 x5.2.1 rfl, (by rw [x5.2.2, hF0.at g_below rfl])⟩) (cqV ?_))))
  rintro M1 ⟨hP2, hQ3, h8, h9⟩
  obtain rfl := Fr.same hQ3
  obtain ⟨v10, e11⟩ : ∃ v, M0 2 1 = v := ⟨_, rfl⟩
  have h12 := bf_2_1 hP0; rw [e11] at h12
  refine wk_al0 r11_5 (wk_il2 r11_6 (wk_cv2 r11_7 kc_0_31 rfl (m31_0 _ M0 p2 hP0 (by omega) (by omega)) (cqX (fun _ _ x17 => by subst hQ; exact Or.inl ⟨rfl, x17.1, Fr.trx hF0 x17.2.1 rfl, (by rw [x17.2.2, hF0.at g_below rfl])⟩) (cqV ?_))))
  rintro M13 ⟨hP14, hQ15, h20, h21⟩
  obtain rfl := Fr.same hQ15
  obtain ⟨v22, e23⟩ : ∃ v, M0 0 9 = v := ⟨_, rfl⟩
  have h24 := bf_0_9 hP0; rw [e23] at h24
  refine wk_il3 r11_10 ?_
  refine wk_iflt r11_11 ⟨by omega, by omega⟩ ?_ ?_
  · intro h25
    subst hQ; exact wk_thr105 r11_19 rfl (Or.inl ⟨rfl, hP0.thr, (Fr.thr hF0), (by rw [mUp_eq, hF0.at g_below rfl])⟩)
  · intro h26
    refine wk_il3 r11_14 (wk_c1 r11_15 ?_)
    refine wk_icle r11_16 ⟨by omega, by omega⟩ (by decide) ?_ ?_
    · intro h27
      refine wk_al0 r11_29 (wk_il1 r11_30 (wk_il2 r11_31 (wk_il3 r11_32 (wk_cv4 r11_33 kc_0_35 rfl (m35_0v1 _ M0 p1 p2 p3 hP0 (by omega) (by omega) (by omega) (by omega) (by omega) (by omega)) (cqI ?_)))))
      rintro v32 M28 ⟨hP29, hQ30, h33, h34⟩
      have hF31 : Fr fm_m11_0 M0 M28 := hF0.tr hQ30 rfl
      subst hQ; exact wk_iret r11_36 (Or.inr ⟨rfl, _, rfl, hP29, hF31, by omega, by omega⟩)
    · intro h35
      subst hQ; exact wk_thr105 r11_19 rfl (Or.inl ⟨rfl, hP0.thr, (Fr.thr hF0), (by rw [mUp_eq, hF0.at g_below rfl])⟩)
def fm_m227_138 : Nat := 1213657409469535674695680
/-- IslandHall$Tale.drop -/
theorem m227_138 {B : eB} (d : Nat) (M0 : Mm) (hP0 : Pw M0)  : Ct B (d + 2) 227 [R 138] M0 (qV fun M => Pw M ∧ Fr fm_m227_138 M0 M) := by
  refine ct_of (d := d + 1) (k := 0) (L := [some (R 138)]) rfl rfl rfl ?_
  have hF0 := Fr.rf fm_m227_138 M0
  generalize hQ : (qV fun M => Pw M ∧ Fr fm_m227_138 M0 M) = Q
  refine wk_al0 r227_0 (wk_getfb r227_1 fd_138_5 (bf_138_5 hP0) ?_)
  intro v1 h3 h4 e2
  refine wk_ifle r227_4 ⟨by omega, by omega⟩ ?_ ?_
  · intro h5
    subst hQ; exact wk_ret r227_52 (⟨rfl, hP0, hF0⟩)
  · intro h6
    refine wk_al0 r227_7 (wk_dupr r227_8 (wk_getfi r227_9 fd_138_5 e2 (wk_c1 r227_12 (wk_isub r227_13 (wk_putfi81 r227_14 fd_138_5 (wk_nw g_138_5 rfl hP0 hF0 (uf_138_5 ⟨by omega, by omega⟩) ?_))))))
    intro M7 hP8 hF9 e10
    refine wk_al0 r227_17 (wk_getfr r227_18 fd_138_0 (br_138_0 hP8) (wk_getfr r227_21 fd_10_0 (br_10_0 hP8) (wk_c2 r227_24 (wk_al0 r227_26 (wk_getfi r227_27 fd_138_5 (mUp_at e10) (wk_iadd r227_30 (wk_raldb r227_31 ar_16 ⟨by omega, by omega⟩ (fun q0 q1 => ba_16 hP8 q0 q1) (wk_c6 r227_32 (wk_cs102_2 r227_33 rfl (ct_fl (arF_17 (by omega) (by omega))) (cqV ?_))))))))))
    intro M11 e12
    have hP13 : Pw M11 := by rw [e12]; exact hP8.fil (fun i => (uaF_17 (by omega) (by omega) ⟨by omega, by omega⟩))
    have hF14 : Fr fm_m227_138 M0 M11 := by rw [e12]; exact hF9.fil (fun i => by rw [(gr_17 (by omega) (by omega) i)]; rfl)
    refine wk_al0 r227_36 (wk_getfr r227_37 fd_138_0 (br_138_0 hP13) (wk_al0 r227_40 (wk_getfr r227_41 fd_138_1 (br_138_1 hP13) (wk_al0 r227_44 (wk_getfi r227_45 fd_138_5 (fil_no e12 (mUp_at e10) (by omega)) (wk_ialdb r227_48 ar_139 ⟨by omega, by omega⟩ (fun q0 q1 => ba_139 hP13 q0 q1) ?_))))))
    intro v15 h17 h18 e16
    refine wk_cv2 r227_49 kc_10_200 rfl (m200_10 _ M11 v15 hP13 (by omega) (by omega)) (cqV ?_)
    rintro M19 ⟨hP20, hQ21⟩
    have hF22 : Fr fm_m227_138 M0 M19 := hF14.tr hQ21 rfl
    subst hQ; exact wk_ret r227_52 (⟨rfl, hP20, hF22⟩)
def fm_m12_0 : Nat := 9904733971692511734867689472
/-- IslandHall.back -/
theorem m12_0 {B : eB} (d : Nat) (M0 : Mm) (hP0 : Pw M0)  : Ct B (d + 3) 12 [R 0] M0 (qI fun z M => Pw M ∧ Fr fm_m12_0 M0 M ∧ (-1) ≤ z ∧ z ≤ 12) := by
  refine ct_of (d := d + 2) (k := 0) (L := [some (R 0)]) rfl rfl rfl ?_
  have hF0 := Fr.rf fm_m12_0 M0
  generalize hQ : (qI fun z M => Pw M ∧ Fr fm_m12_0 M0 M ∧ (-1) ≤ z ∧ z ≤ 12) = Q
  refine wk_al0 r12_0 (wk_getfr r12_1 fd_0_7 (br_0_7 hP0) (wk_getfb r12_4 fd_138_5 (bf_138_5 hP0) ?_))
  intro v1 h3 h4 e2
  refine wk_ifne r12_7 ⟨by omega, by omega⟩ ?_ ?_
  · intro h5
    refine wk_al0 r12_12 (wk_getfr r12_13 fd_0_12 (br_0_12 hP0) (wk_cv1 r12_16 kc_170_217 rfl (m217_170 _ M0 hP0) (cqV ?_)))
    rintro M6 ⟨hP7, hQ8⟩
    have hF9 : Fr fm_m12_0 M0 M6 := hF0.tr hQ8 rfl
    refine wk_al0 r12_19 (wk_getfr r12_20 fd_0_7 (br_0_7 hP7) (wk_cv1 r12_23 kc_138_227 rfl (m227_138 _ M6 hP7) (cqV ?_)))
    rintro M10 ⟨hP11, hQ12⟩
    have hF13 : Fr fm_m12_0 M0 M10 := hF9.tr hQ12 rfl
    refine wk_al0 r12_26 (wk_getfr r12_27 fd_0_7 (br_0_7 hP11) (wk_getfb r12_30 fd_138_5 (bf_138_5 hP11) ?_))
    intro v14 h16 h17 e15
    subst hQ; exact wk_iret r12_33 (⟨rfl, _, rfl, hP11, hF13, by omega, by omega⟩)
  · intro h18
    refine wk_c1 r12_10 ?_
    subst hQ; exact wk_iret r12_11 (⟨rfl, _, rfl, hP0, hF0, by omega, by omega⟩)
def fm_m233_138 : Nat := 0
/-- IslandHall$Tale.keeping -/
theorem m233_138 {B : eB} (d : Nat) (M0 : Mm) (hP0 : Pw M0)  : Ct B (d + 1) 233 [R 138] M0 (qR fun z M => Pw M ∧ Fr fm_m233_138 M0 M ∧ 155 ≤ z ∧ z ≤ 155) := by
  refine ct_of (d := d + 0) (k := 0) (L := [some (R 138)]) rfl rfl rfl ?_
  have hF0 := Fr.rf fm_m233_138 M0
  generalize hQ : (qR fun z M => Pw M ∧ Fr fm_m233_138 M0 M ∧ 155 ≤ z ∧ z ≤ 155) = Q
  refine wk_al0 r233_0 (wk_getfr r233_1 fd_138_3 (br_138_3 hP0) (wk_c1 r233_4 (wk_raldb r233_5 ar_154 (by decide) (fun q0 q1 => ba_154 hP0 q0 q1) ?_)))
  subst hQ; exact wk_aret r233_6 (⟨rfl, _, rfl, hP0, hF0, by omega, by omega⟩)
def lbF_g (p0 : Nat) : Int :=
  let n1 : Nat := p0 / 2 ^ Int.toNat (1)
  let n4 : Nat := (n1 &&& 6148914691236517205) % 18446744073709551616
  let n9 : Nat := (p0 + (18446744073709551616 - n4)) % 18446744073709551616
  let n12 : Nat := (n9 &&& 3689348814741910323) % 18446744073709551616
  let n17 : Nat := n9 / 2 ^ Int.toNat (2)
  let n20 : Nat := (n17 &&& 3689348814741910323) % 18446744073709551616
  let n25 : Nat := (n12 + n20) % 18446744073709551616
  let n28 : Nat := n25 / 2 ^ Int.toNat (4)
  let n31 : Nat := (n25 + n28) % 18446744073709551616
  let n34 : Nat := (n31 &&& 1085102592571150095) % 18446744073709551616
  let n39 : Nat := n34 / 2 ^ Int.toNat (8)
  let n42 : Nat := (n34 + n39) % 18446744073709551616
  let n45 : Nat := n42 / 2 ^ Int.toNat (16)
  let n48 : Nat := (n42 + n45) % 18446744073709551616
  let n51 : Nat := n48 / 2 ^ Int.toNat (32)
  let n54 : Nat := (n48 + n51) % 18446744073709551616
  let v57 : Int := ((n54 : Int) + 2147483648) % 4294967296 - 2147483648
  (v57 % 128)
theorem lbF_ex : ∃ f : Nat → Int, ∀ p0, f p0 = lbF_g p0 := ⟨lbF_g, fun _ => rfl⟩
noncomputable def lbF : Nat → Int := Classical.choose lbF_ex
theorem lbF_eq (p0 : Nat) : lbF p0 = lbF_g p0 := Classical.choose_spec lbF_ex p0
theorem lbF_nn (p0 : Nat) : 0 ≤ lbF p0 := by
  rw [lbF_eq]
  unfold lbF_g
  exact Int.emod_nonneg _ (by decide)
theorem lbF_t : (List.range 64).all (fun t => decide (lbF_g (2 ^ t - 1) = (t : Int))) = true := by decide +kernel
theorem tz_b {n r1 r2 r : Nat} (h0 : 0 < n) (hn : n < 18446744073709551616) (e1 : r1 = (n ^^^ 18446744073709551615) % 18446744073709551616) (e2 : r2 = (n + (18446744073709551616 - 1)) % 18446744073709551616) (e : r = (r1 &&& r2) % 18446744073709551616) : 0 ≤ lbF r ∧ lbF r ≤ 63 ∧ (n ≤ 17592186044415 → lbF r ≤ 43) := by
  obtain ⟨t, k, ht⟩ := tz_ex n h0
  have h1 := tz_bits ht hn
  have hx : n ^^^ 18446744073709551615 < 18446744073709551616 := Nat.xor_lt_two_pow (n := 64) hn (by decide)
  have q1 : r1 = n ^^^ 18446744073709551615 := by rw [e1, Nat.mod_eq_of_lt hx]
  have q2 : r2 = n - 1 := by omega
  have q3 : r1 &&& r2 = 2 ^ t - 1 := by rw [q1, q2]; exact h1
  have hle : 2 ^ t ≤ n := by
    rw [ht]
    exact Nat.le_mul_of_pos_right _ (by omega)
  have q4 : r = 2 ^ t - 1 := by rw [e, q3, Nat.mod_eq_of_lt (by omega)]
  have t64 : t < 64 := (Nat.pow_lt_pow_iff_right (a := 2) (by decide)).mp (Nat.lt_of_le_of_lt hle hn)
  have h2 := of_decide_eq_true (List.all_eq_true.mp lbF_t t (List.mem_range.mpr t64))
  rw [q4, lbF_eq, h2]
  exact tz_fin t64 _ (fun q => (Nat.pow_lt_pow_iff_right (a := 2) (by decide)).mp (Nat.lt_of_le_of_lt hle (Nat.lt_succ_of_le q)))
def fm_m245 : Nat := 0
/-- java/lang/Long.bitCount -/
theorem m245 {B : eB} (d : Nat) (M0 : Mm) (p0 : Nat) (hP0 : Pw M0) (l0 : p0 < 18446744073709551616) : Ct B (d + 1) 245 [J p0] M0 (qI fun z M => Pw M ∧ Fr fm_m245 M0 M ∧ 0 ≤ z ∧ z ≤ 127 ∧ (z = lbF p0)) := by
  refine ct_of (d := d + 0) (k := 0) (L := [some (J p0), none]) rfl rfl rfl ?_
  have hF0 := Fr.rf fm_m245 M0
  generalize hQ : (qI fun z M => Pw M ∧ Fr fm_m245 M0 M ∧ 0 ≤ z ∧ z ≤ 127 ∧ (z = lbF p0)) = Q
  refine wk_ll0 r245_0 (wk_ll0 r245_1 (wk_c1 r245_2 (wk_lushrb r245_3 (by omega) (by decide) ?_)))
  intro n1 h2 h3
  refine wk_c7 r245_4 (wk_land r245_7 ?_)
  intro n4 h5 h6 h7 h8
  refine wk_lsubb r245_8 (by omega) ?_
  intro n9 h11 h10
  refine wk_ls0 r245_9 (wk_ll0 r245_10 (wk_c7 r245_11 (wk_land r245_14 ?_)))
  intro n12 h13 h14 h15 h16
  refine wk_ll0 r245_15 (wk_c1 r245_16 (wk_lushrb r245_17 (by omega) (by decide) ?_))
  intro n17 h18 h19
  refine wk_c7 r245_18 (wk_land r245_21 ?_)
  intro n20 h21 h22 h23 h24
  refine wk_laddb r245_22 ?_
  intro n25 h27 h26
  refine wk_ls0 r245_23 (wk_ll0 r245_24 (wk_ll0 r245_25 (wk_c1 r245_26 (wk_lushrb r245_27 (by omega) (by decide) ?_))))
  intro n28 h29 h30
  refine wk_laddb r245_28 ?_
  intro n31 h33 h32
  refine wk_c7 r245_29 (wk_land r245_32 ?_)
  intro n34 h35 h36 h37 h38
  refine wk_ls0 r245_33 (wk_ll0 r245_34 (wk_ll0 r245_35 (wk_c2 r245_36 (wk_lushrb r245_38 (by omega) (by decide) ?_))))
  intro n39 h40 h41
  refine wk_laddb r245_39 ?_
  intro n42 h44 h43
  refine wk_ls0 r245_40 (wk_ll0 r245_41 (wk_ll0 r245_42 (wk_c2 r245_43 (wk_lushrb r245_45 (by omega) (by decide) ?_))))
  intro n45 h46 h47
  refine wk_laddb r245_46 ?_
  intro n48 h50 h49
  refine wk_ls0 r245_47 (wk_ll0 r245_48 (wk_ll0 r245_49 (wk_c2 r245_50 (wk_lushrb r245_52 (by omega) (by decide) ?_))))
  intro n51 h52 h53
  refine wk_laddb r245_53 ?_
  intro n54 h56 h55
  refine wk_ls0 r245_54 (wk_ll0 r245_55 (wk_l2i r245_56 (wk_wrap ?_)))
  intro v57 h58 h59 h60
  refine wk_c2 r245_57 (wk_iandc 7 128 r245_59 ⟨rfl, by decide⟩ rfl ?_)
  subst hQ; exact wk_iret r245_60 (⟨rfl, _, rfl, hP0, hF0, by omega, by omega, by rw [lbF_eq]; subst_vars; rfl⟩)
def fm_m194_10_f155 : Nat := 0
/-- IslandHall$Realm.howMany -/
theorem m194_10_f155 {B : eB} (d : Nat) (M0 : Mm) (a1 : Int) (hP0 : Pw M0) (ha1 : 155 ≤ a1) (hb1 : a1 ≤ 167) : Ct B (d + 2) 194 [R 10, R a1] M0 (qI fun z M => Pw M ∧ Fr fm_m194_10_f155 M0 M ∧ (-2147483648) ≤ z ∧ z ≤ 2147483647) := by
  refine ct_of (d := d + 1) (k := 2) (L := [some (R 10), some (R a1), none, none]) rfl rfl rfl ?_
  have hF0 := Fr.rf fm_m194_10_f155 M0
  generalize hQ : (qI fun z M => Pw M ∧ Fr fm_m194_10_f155 M0 M ∧ (-2147483648) ≤ z ∧ z ≤ 2147483647) = Q
  refine wk_c1 r194_0 (wk_is2 r194_1 rfl (wk_c1 r194_2 (wk_is3 r194_3 rfl ?_)))
  have c4_312 : ∀ (k312 : Nat) (M287 : Mm) (v281 : Int) (v284 : Int), (47 - v284).toNat = k312 → Pw M287 → Fr fm_m194_10_f155 M0 M287 → (-2147483648) ≤ v281 → v281 ≤ 2147483647 → 0 ≤ v284 → v284 ≤ 47 → Wp B (d + 1) 194 4 [some (R 10), some (R a1), some (I v281), some (I v284)] [] M287 Q := by
    refine lp_ind ?_
    intro k312 ih312 M287 v281 v284 hk312 hP288 hF289 h282 h283 h285 h286
    refine wk_il3 r194_4 (wk_al0 r194_5 (wk_getfb r194_6 fd_10_10 (bf_10_10 hP288) ?_))
    intro v290 h292 h293 e291
    refine wk_icge r194_9 ⟨by omega, by omega⟩ ⟨by omega, by omega⟩ ?_ ?_
    · intro h294
      refine wk_il2 r194_27 ?_
      subst hQ; exact wk_iret r194_28 (⟨rfl, _, rfl, hP288, hF289, by omega, by omega⟩)
    · intro h295
      refine wk_il2 r194_12 (wk_al1 r194_13 (wk_il3 r194_14 (wk_laldb r194_15 (arF_155 (by omega) (by omega)) ⟨by omega, by omega⟩ (fun q0 q1 => baF_155 hP288 (by omega) (by omega) q0 q1) (by decide) ?_)))
      intro n296 h298 h299 e297
      refine wk_cs102_1 r194_16 rfl (m245 _ M287 n296 hP288 (by omega)) (cqI ?_)
      rintro v305 M300 ⟨hP301, hQ302, h306, h307, xh304⟩
      obtain rfl := Fr.same hQ302
      refine wk_iadd r194_19 (wk_wrap ?_)
      intro v308 h309 h310 h311
      refine wk_is2 r194_20 rfl (wk_inc3 r194_21 rfl (wk_goto r194_24 ?_))
      exact wp_fg (le_s (le_s (le_s (le_s le_0)))) (ih312 (47 - (v284 + 1)).toNat (by omega) M287 v308 (v284 + 1) rfl hP288 hF289 (by omega) (by omega) (by omega) (by omega))
  exact wp_fg (le_s (le_s (le_s (le_s le_0)))) (c4_312 _ M0 0 0 rfl hP0 hF0 (by omega) (by omega) (by omega) (by omega))
def fm_m43_0 : Nat := 0
/-- IslandHall.worlds -/
theorem m43_0 {B : eB} (d : Nat) (M0 : Mm) (p1 : Int) (hP0 : Pw M0) (l1 : (-2147483648) ≤ p1) (u1 : p1 ≤ 2147483647) : Ct B (d + 3) 43 [R 0, I p1] M0 (qX 0 (fun M => Pw M ∧ Fr (fm_m43_0 ||| 1) M0 M ∧ M (-1) 0 = M0 (-1) 0 + 1) (qI fun z M => Pw M ∧ Fr fm_m43_0 M0 M ∧ (-2147483648) ≤ z ∧ z ≤ 2147483647)) := by
  refine ct_of (d := d + 2) (k := 0) (L := [some (R 0), some (I p1)]) rfl rfl rfl ?_
  have hF0 := Fr.rf fm_m43_0 M0
  generalize hQ : (qX 0 (fun M => Pw M ∧ Fr (fm_m43_0 ||| 1) M0 M ∧ M (-1) 0 = M0 (-1) 0 + 1) (qI fun z M => Pw M ∧ Fr fm_m43_0 M0 M ∧ (-2147483648) ≤ z ∧ z ≤ 2147483647)) = Q
  refine wk_il1 r43_0 ?_
  refine wk_ifeq r43_1 ⟨by omega, by omega⟩ ?_ ?_
  · intro h1
    refine wk_al0 r43_19 (wk_getfr r43_20 fd_0_6 (br_0_6 hP0) (wk_il1 r43_23 ?_))
    refine wk_ifne r43_24 ⟨by omega, by omega⟩ ?_ ?_
    · intro h2
      exfalso
      omega
    · intro h3
      refine wk_al0 r43_27 (wk_getfr r43_28 fd_0_7 (br_0_7 hP0) (wk_cv1 r43_31 kc_138_233 rfl (m233_138 _ M0 hP0) (cqR ?_)))
      rintro v8 M4 ⟨hP5, hQ6, h9, h10⟩
      obtain rfl : v8 = 155 := by omega
      obtain rfl := Fr.same hQ6
      refine wk_goto r43_34 (wk_cv2 r43_44 kc_10_194 rfl (m194_10_f155 _ M0 155 hP0 (by omega) (by omega)) (cqI ?_))
      rintro v15 M11 ⟨hP12, hQ13, h16, h17⟩
      obtain rfl := Fr.same hQ13
      subst hQ; exact wk_iret r43_47 (Or.inr ⟨rfl, _, rfl, hP0, hF0, by omega, by omega⟩)
  · intro h18
    refine wk_il1 r43_4 (wk_c1 r43_5 ?_)
    refine wk_iceq r43_6 ⟨by omega, by omega⟩ (by decide) ?_ ?_
    · intro h19
      refine wk_al0 r43_19 (wk_getfr r43_20 fd_0_6 (br_0_6 hP0) (wk_il1 r43_23 ?_))
      refine wk_ifne r43_24 ⟨by omega, by omega⟩ ?_ ?_
      · intro h20
        refine wk_al0 r43_37 (wk_getfr r43_38 fd_0_7 (br_0_7 hP0) (wk_cv1 r43_41 kc_138_229 rfl (m229_138 _ M0 hP0) (cqR ?_)))
        rintro v25 M21 ⟨hP22, hQ23, h26, h27⟩
        obtain rfl := Fr.same hQ23
        refine wk_cv2 r43_44 kc_10_194 rfl (m194_10_f155 _ M0 v25 hP0 (by omega) (by omega)) (cqI ?_)
        rintro v32 M28 ⟨hP29, hQ30, h33, h34⟩
        obtain rfl := Fr.same hQ30
        subst hQ; exact wk_iret r43_47 (Or.inr ⟨rfl, _, rfl, hP0, hF0, by omega, by omega⟩)
      · intro h35
        exfalso
        omega
    · intro h36
      subst hQ; exact wk_thr105 r43_9 rfl (Or.inl ⟨rfl, hP0.thr, (Fr.thr hF0), (by rw [mUp_eq, hF0.at g_below rfl])⟩)
def fm_m191_f155v8 : Nat := 0
/-- IslandHall$Realm.holds -/
theorem m191_f155v8 {B : eB} (d : Nat) (M0 : Mm) (a0 : Int) (p1 : Int) (hP0 : Pw M0) (ha0 : 155 ≤ a0) (hb0 : a0 ≤ 167) (l1 : 0 ≤ p1) (u1 : p1 ≤ 2999) : Ct B (d + 1) 191 [R a0, I p1] M0 (qI fun z M => Pw M ∧ Fr fm_m191_f155v8 M0 M ∧ 0 ≤ z ∧ z ≤ 1) := by
  refine ct_of (d := d + 0) (k := 0) (L := [some (R a0), some (I p1)]) rfl rfl rfl ?_
  have hF0 := Fr.rf fm_m191_f155v8 M0
  generalize hQ : (qI fun z M => Pw M ∧ Fr fm_m191_f155v8 M0 M ∧ 0 ≤ z ∧ z ≤ 1) = Q
  refine wk_al0 r191_0 (wk_il1 r191_1 (wk_c2 r191_2 (wk_ishrc r191_4 ⟨by omega, by omega⟩ (by decide) pwl_6 (wk_laldb r191_5 (arF_155 (by omega) (by omega)) ⟨by omega, by omega⟩ (fun q0 q1 => baF_155 hP0 (by omega) (by omega) q0 q1) (by decide) ?_))))
  intro n2 h4 h5 e3
  refine wk_il1 r191_6 (wk_c2 r191_7 (wk_iandc 6 64 r191_9 ⟨rfl, by decide⟩ rfl (wk_lushrb r191_10 (by omega) ⟨by omega, by omega⟩ ?_)))
  intro n6 h7 h8
  refine wk_c6 r191_11 (wk_land r191_12 ?_)
  intro n9 h10 h11 h12 h13
  refine wk_c6 r191_13 ?_
  refine wk_lcmp r191_14 (by omega) (by omega) ?_ ?_
  · intro h14
    refine wk_ifne r191_15 (by decide) ?_ ?_
    · intro h20
      exfalso
      omega
    · intro h21
      refine wk_c1 r191_18 (wk_goto r191_19 ?_)
      subst hQ; exact wk_zret r191_23 (by decide) (⟨rfl, _, rfl, hP0, hF0, by omega, by omega⟩)
  · intro h15 v19 h16 h17 h18
    refine wk_ifne r191_15 ⟨by omega, by omega⟩ ?_ ?_
    · intro h22
      refine wk_c1 r191_22 ?_
      subst hQ; exact wk_zret r191_23 (by decide) (⟨rfl, _, rfl, hP0, hF0, by omega, by omega⟩)
    · intro h23
      exfalso
      omega
def fm_m201_10_f155 : Nat := 0
/-- IslandHall$Realm.pick -/
theorem m201_10_f155 {B : eB} (d : Nat) (M0 : Mm) (a1 : Int) (p2 : Int) (hP0 : Pw M0) (ha1 : 155 ≤ a1) (hb1 : a1 ≤ 167) (l2 : (-2147483648) ≤ p2) (u2 : p2 ≤ 2147483647) : Ct B (d + 2) 201 [R 10, R a1, I p2] M0 (qI fun z M => Pw M ∧ Fr fm_m201_10_f155 M0 M ∧ (-1) ≤ z ∧ z ≤ 2999) := by
  refine ct_of (d := d + 1) (k := 2) (L := [some (R 10), some (R a1), some (I p2), none, none]) rfl rfl rfl ?_
  have hF0 := Fr.rf fm_m201_10_f155 M0
  generalize hQ : (qI fun z M => Pw M ∧ Fr fm_m201_10_f155 M0 M ∧ (-1) ≤ z ∧ z ≤ 2999) = Q
  refine wk_il2 r201_0 ?_
  refine wk_ifge r201_1 ⟨by omega, by omega⟩ ?_ ?_
  · intro h1
    refine wk_c1 r201_6 (wk_is3 r201_7 rfl (wk_c1 r201_8 (wk_is4 r201_9 rfl ?_)))
    have c11_273 : ∀ (k273 : Nat) (M252 : Mm) (v246 : Int) (v249 : Int), (3000 - v249).toNat = k273 → Pw M252 → Fr fm_m201_10_f155 M0 M252 → 0 ≤ v246 → v246 ≤ 3000 → 0 ≤ v249 → v249 ≤ 3000 → 0 ≤ (-1) * v246 + v249 + 0 → Wp B (d + 1) 201 11 [some (R 10), some (R a1), some (I p2), some (I v246), some (I v249)] [] M252 Q := by
      refine lp_ind ?_
      intro k273 ih273 M252 v246 v249 hk273 hP253 hF254 h247 h248 h250 h251 h255
      refine wk_il4 r201_11 (wk_al0 r201_13 (wk_getfb r201_14 fd_10_9 (bf_10_9 hP253) ?_))
      intro v256 h258 h259 e257
      refine wk_icge r201_17 ⟨by omega, by omega⟩ ⟨by omega, by omega⟩ ?_ ?_
      · intro h260
        refine wk_c1 r201_46 ?_
        subst hQ; exact wk_iret r201_47 (⟨rfl, _, rfl, hP253, hF254, by omega, by omega⟩)
      · intro h261
        refine wk_al1 r201_20 (wk_il4 r201_21 (wk_cs102_2 r201_23 rfl (m191_f155v8 _ M252 a1 v249 hP253 (by omega) (by omega) (by omega) (by omega)) (cqI ?_)))
        rintro v266 M262 ⟨hP263, hQ264, h267, h268⟩
        obtain rfl := Fr.same hQ264
        refine wk_ifeq r201_26 ⟨by omega, by omega⟩ ?_ ?_
        · intro h269
          refine wk_inc4 r201_40 rfl (wk_goto r201_43 ?_)
          exact wp_fg (le_s (le_s (le_s (le_s (le_s le_0))))) (ih273 (3000 - (v249 + 1)).toNat (by omega) M252 v246 (v249 + 1) rfl hP253 hF254 (by omega) (by omega) (by omega) (by omega) (by omega))
        · intro h270
          refine wk_il3 r201_29 (wk_il2 r201_30 ?_)
          refine wk_icne r201_31 ⟨by omega, by omega⟩ ⟨by omega, by omega⟩ ?_ ?_
          · intro h271
            refine wk_inc3 r201_37 rfl (wk_inc4 r201_40 rfl (wk_goto r201_43 ?_))
            exact wp_fg (le_s (le_s (le_s (le_s (le_s le_0))))) (ih273 (3000 - (v249 + 1)).toNat (by omega) M252 (v246 + 1) (v249 + 1) rfl hP253 hF254 (by omega) (by omega) (by omega) (by omega) (by omega))
          · intro h272
            refine wk_il4 r201_34 ?_
            subst hQ; exact wk_iret r201_36 (⟨rfl, _, rfl, hP253, hF254, by omega, by omega⟩)
    exact wp_fg (le_s (le_s (le_s (le_s (le_s le_0))))) (c11_273 _ M0 0 0 rfl hP0 hF0 (by omega) (by omega) (by omega) (by omega) (by omega))
  · intro h274
    refine wk_c1 r201_4 ?_
    subst hQ; exact wk_iret r201_5 (⟨rfl, _, rfl, hP0, hF0, by omega, by omega⟩)
def fm_m188_10 : Nat := 0
/-- IslandHall$Realm.codeAt -/
theorem m188_10 {B : eB} (d : Nat) (M0 : Mm) (p1 : Int) (p2 : Int) (hP0 : Pw M0) (l1 : 0 ≤ p1) (u1 : p1 ≤ 2999) (l2 : 0 ≤ p2) (u2 : p2 ≤ 6) : Ct B (d + 1) 188 [R 10, I p1, I p2] M0 (qI fun z M => Pw M ∧ Fr fm_m188_10 M0 M ∧ 0 ≤ z ∧ z ≤ 7) := by
  refine ct_of (d := d + 0) (k := 0) (L := [some (R 10), some (I p1), some (I p2)]) rfl rfl rfl ?_
  have hF0 := Fr.rf fm_m188_10 M0
  generalize hQ : (qI fun z M => Pw M ∧ Fr fm_m188_10 M0 M ∧ 0 ≤ z ∧ z ≤ 7) = Q
  refine wk_al0 r188_0 (wk_getfr r188_1 fd_10_1 (br_10_1 hP0) (wk_il1 r188_4 (wk_ialdb r188_5 ar_136 ⟨by omega, by omega⟩ (fun q0 q1 => ba_136 hP0 q0 q1) ?_)))
  intro v1 h3 h4 e2
  refine wk_c1 r188_6 (wk_il2 r188_7 (wk_imul r188_8 (wk_shrb r188_9 ⟨by omega, by omega⟩ ⟨by omega, by omega⟩ ?_)))
  intro v5 h6 h7 h8
  refine wk_c2 r188_10 (wk_iandc 3 8 r188_12 ⟨rfl, by decide⟩ rfl ?_)
  subst hQ; exact wk_iret r188_13 (⟨rfl, _, rfl, hP0, hF0, by omega, by omega⟩)
def fm_m197_10 : Nat := 0
/-- IslandHall$Realm.kindAt -/
theorem m197_10 {B : eB} (d : Nat) (M0 : Mm) (p1 : Int) (p2 : Int) (hP0 : Pw M0) (l1 : 0 ≤ p1) (u1 : p1 ≤ 2999) (l2 : 0 ≤ p2) (u2 : p2 ≤ 6) : Ct B (d + 2) 197 [R 10, I p1, I p2] M0 (qI fun z M => Pw M ∧ Fr fm_m197_10 M0 M ∧ 0 ≤ z ∧ z ≤ 4) := by
  refine ct_of (d := d + 1) (k := 1) (L := [some (R 10), some (I p1), some (I p2), none]) rfl rfl rfl ?_
  have hF0 := Fr.rf fm_m197_10 M0
  generalize hQ : (qI fun z M => Pw M ∧ Fr fm_m197_10 M0 M ∧ 0 ≤ z ∧ z ≤ 4) = Q
  refine wk_al0 r197_0 (wk_il1 r197_1 (wk_il2 r197_2 (wk_cv3 r197_3 kc_10_188 rfl (m188_10 _ M0 p1 p2 hP0 (by omega) (by omega) (by omega) (by omega)) (cqI ?_))))
  rintro v5 M1 ⟨hP2, hQ3, h6, h7⟩
  obtain rfl := Fr.same hQ3
  refine wk_is3 r197_6 rfl (wk_il3 r197_7 (wk_c2 r197_8 ?_))
  refine wk_icge r197_10 ⟨by omega, by omega⟩ (by decide) ?_ ?_
  · intro h8
    refine wk_c1 r197_21 ?_
    subst hQ; exact wk_iret r197_22 (⟨rfl, _, rfl, hP0, hF0, by omega, by omega⟩)
  · intro h9
    refine wk_kget r197_13 (wk_il3 r197_16 (wk_kald r197_17 ⟨by omega, by omega⟩ ?_))
    intro v10 h11 h12 h13
    refine wk_goto r197_18 ?_
    subst hQ; exact wk_iret r197_22 (⟨rfl, _, rfl, hP0, hF0, by omega, by omega⟩)
def fm_m186_10 : Nat := 0
/-- IslandHall$Realm.answerAt -/
theorem m186_10 {B : eB} (d : Nat) (M0 : Mm) (p1 : Int) (p2 : Int) (hP0 : Pw M0) (l1 : 0 ≤ p1) (u1 : p1 ≤ 2999) (l2 : 1 ≤ p2) (u2 : p2 ≤ 3) : Ct B (d + 1) 186 [R 10, I p1, I p2] M0 (qI fun z M => Pw M ∧ Fr fm_m186_10 M0 M ∧ 0 ≤ z ∧ z ≤ 7) := by
  refine ct_of (d := d + 0) (k := 0) (L := [some (R 10), some (I p1), some (I p2)]) rfl rfl rfl ?_
  have hF0 := Fr.rf fm_m186_10 M0
  generalize hQ : (qI fun z M => Pw M ∧ Fr fm_m186_10 M0 M ∧ 0 ≤ z ∧ z ≤ 7) = Q
  refine wk_il2 r186_0 ?_
  refine wk_sw8 r186_1 ⟨by omega, by omega⟩ ?_ ?_ ?_ ?_
  · intro h1
    exfalso
    omega
  · intro h2
    refine wk_al0 r186_28 (wk_getfr r186_29 fd_10_1 (br_10_1 hP0) (wk_il1 r186_32 (wk_ialdb r186_33 ar_136 ⟨by omega, by omega⟩ (fun q0 q1 => ba_136 hP0 q0 q1) ?_)))
    intro v3 h5 h6 e4
    refine wk_c2 r186_34 (wk_ishrc r186_36 ⟨by omega, by omega⟩ (by decide) pwl_21 (wk_c1 r186_37 (wk_iandc 2 4 r186_38 ⟨rfl, by decide⟩ rfl ?_)))
    subst hQ; exact wk_iret r186_39 (⟨rfl, _, rfl, hP0, hF0, by omega, by omega⟩)
  · intro h9
    refine wk_al0 r186_40 (wk_getfr r186_41 fd_10_1 (br_10_1 hP0) (wk_il1 r186_44 (wk_ialdb r186_45 ar_136 ⟨by omega, by omega⟩ (fun q0 q1 => ba_136 hP0 q0 q1) ?_)))
    intro v10 h12 h13 e11
    refine wk_c2 r186_46 (wk_ishrc r186_48 ⟨by omega, by omega⟩ (by decide) pwl_23 (wk_c2 r186_49 (wk_iandc 3 8 r186_51 ⟨rfl, by decide⟩ rfl ?_)))
    subst hQ; exact wk_iret r186_52 (⟨rfl, _, rfl, hP0, hF0, by omega, by omega⟩)
  · intro h16
    refine wk_al0 r186_53 (wk_getfr r186_54 fd_10_1 (br_10_1 hP0) (wk_il1 r186_57 (wk_ialdb r186_58 ar_136 ⟨by omega, by omega⟩ (fun q0 q1 => ba_136 hP0 q0 q1) ?_)))
    intro v17 h19 h20 e18
    refine wk_c2 r186_59 (wk_ishrc r186_61 ⟨by omega, by omega⟩ (by decide) pwl_26 (wk_c1 r186_62 (wk_iandc 1 2 r186_63 ⟨rfl, by decide⟩ rfl ?_)))
    subst hQ; exact wk_iret r186_64 (⟨rfl, _, rfl, hP0, hF0, by omega, by omega⟩)
def fm_m42_0 : Nat := 0
/-- IslandHall.world -/
theorem m42_0 {B : eB} (d : Nat) (M0 : Mm) (p1 : Int) (p2 : Int) (hP0 : Pw M0) (l1 : (-2147483648) ≤ p1) (u1 : p1 ≤ 2147483647) (l2 : (-2147483648) ≤ p2) (u2 : p2 ≤ 2147483647) : Ct B (d + 3) 42 [R 0, I p1, I p2] M0 (qX 0 (fun M => Pw M ∧ Fr (fm_m42_0 ||| 1) M0 M ∧ M (-1) 0 = M0 (-1) 0 + 1) (qI fun z M => Pw M ∧ Fr fm_m42_0 M0 M ∧ 0 ≤ z ∧ z ≤ 7)) := by
  refine ct_of (d := d + 2) (k := 1) (L := [some (R 0), some (I p1), some (I p2), none]) rfl rfl rfl ?_
  have hF0 := Fr.rf fm_m42_0 M0
  generalize hQ : (qX 0 (fun M => Pw M ∧ Fr (fm_m42_0 ||| 1) M0 M ∧ M (-1) 0 = M0 (-1) 0 + 1) (qI fun z M => Pw M ∧ Fr fm_m42_0 M0 M ∧ 0 ≤ z ∧ z ≤ 7)) = Q
  refine wk_al0 r42_0 (wk_getfr r42_1 fd_0_6 (br_0_6 hP0) (wk_al0 r42_4 (wk_getfr r42_5 fd_0_7 (br_0_7 hP0) (wk_cv1 r42_8 kc_138_229 rfl (m229_138 _ M0 hP0) (cqR ?_)))))
  rintro v5 M1 ⟨hP2, hQ3, h6, h7⟩
  obtain rfl := Fr.same hQ3
  refine wk_il1 r42_11 (wk_cv3 r42_12 kc_10_201 rfl (m201_10_f155 _ M0 v5 p1 hP0 (by omega) (by omega) (by omega) (by omega)) (cqI ?_))
  rintro v12 M8 ⟨hP9, hQ10, h13, h14⟩
  obtain rfl := Fr.same hQ10
  refine wk_is3 r42_15 rfl (wk_il3 r42_16 (wk_c1 r42_17 ?_))
  refine wk_icne r42_18 ⟨by omega, by omega⟩ (by decide) ?_ ?_
  · intro h15
    refine wk_il2 r42_31 ?_
    have c56_60 : Wp B (d + 2) 42 56 [some (R 0), none, some (I p2), some (I v12)] [] M0 Q := by
      refine wk_il2 r42_56 (wk_c2 r42_57 ?_)
      have c98_59 : Wp B (d + 2) 42 98 [some (R 0), none, some (I p2), some (I v12)] [] M0 Q := by
        refine wk_il2 r42_98 (wk_c2 r42_99 ?_)
        refine wk_iclt r42_101 ⟨by omega, by omega⟩ (by decide) ?_ ?_
        · intro h48
          subst hQ; exact wk_thr105 r42_110 rfl (Or.inl ⟨rfl, hP0.thr, (Fr.thr hF0), (by rw [mUp_eq, hF0.at g_below rfl])⟩)
        · intro h49
          refine wk_il2 r42_104 (wk_c2 r42_105 ?_)
          refine wk_icle r42_107 ⟨by omega, by omega⟩ (by decide) ?_ ?_
          · intro h50
            refine wk_al0 r42_120 (wk_getfr r42_121 fd_0_6 (br_0_6 hP0) (wk_il3 r42_124 (wk_il2 r42_125 (wk_c2 r42_126 (wk_isub r42_128 (wk_c1 r42_129 (wk_iadd r42_130 (wk_cv3 r42_131 kc_10_186 rfl (m186_10 _ M0 v12 ((p2 - 16) + 1) hP0 (by omega) (by omega) (by omega) (by omega)) (cqI ?_)))))))))
            rintro v55 M51 ⟨hP52, hQ53, h56, h57⟩
            obtain rfl := Fr.same hQ53
            subst hQ; exact wk_iret r42_134 (Or.inr ⟨rfl, _, rfl, hP0, hF0, by omega, by omega⟩)
          · intro h58
            subst hQ; exact wk_thr105 r42_110 rfl (Or.inl ⟨rfl, hP0.thr, (Fr.thr hF0), (by rw [mUp_eq, hF0.at g_below rfl])⟩)
      refine wk_iclt r42_59 ⟨by omega, by omega⟩ (by decide) ?_ ?_
      · intro h31
        exact wp_fg (le_s (le_s (le_s (le_s le_0)))) c98_59
      · intro h32
        refine wk_il2 r42_62 (wk_c2 r42_63 (wk_al0 r42_65 (wk_getfr r42_66 fd_0_2 (br_0_2 hP0) (wk_getfb r42_69 fd_2_1 (bf_2_1 hP0) ?_))))
        intro v33 h35 h36 e34
        refine wk_iadd r42_72 ?_
        refine wk_icge r42_73 ⟨by omega, by omega⟩ ⟨by omega, by omega⟩ ?_ ?_
        · intro h37
          exact wp_fg (le_s (le_s (le_s (le_s le_0)))) c98_59
        · intro h38
          refine wk_al0 r42_76 (wk_getfr r42_77 fd_0_6 (br_0_6 hP0) (wk_il3 r42_80 (wk_il2 r42_81 (wk_c2 r42_82 (wk_isub r42_84 (wk_cv3 r42_85 kc_10_188 rfl (m188_10 _ M0 v12 (p2 - 8) hP0 (by omega) (by omega) (by omega) (by omega)) (cqI ?_)))))))
          rintro v43 M39 ⟨hP40, hQ41, h44, h45⟩
          obtain rfl := Fr.same hQ41
          refine wk_c1 r42_88 ?_
          refine wk_icne r42_89 ⟨by omega, by omega⟩ (by decide) ?_ ?_
          · intro h46
            refine wk_c1 r42_96 ?_
            subst hQ; exact wk_iret r42_97 (Or.inr ⟨rfl, _, rfl, hP0, hF0, by omega, by omega⟩)
          · intro h47
            refine wk_c1 r42_92 (wk_goto r42_93 ?_)
            subst hQ; exact wk_iret r42_97 (Or.inr ⟨rfl, _, rfl, hP0, hF0, by omega, by omega⟩)
    refine wk_iflt r42_32 ⟨by omega, by omega⟩ ?_ ?_
    · intro h16
      exact wp_fg (le_s (le_n (le_s (le_s le_0)))) c56_60
    · intro h17
      refine wk_il2 r42_35 (wk_al0 r42_36 (wk_getfr r42_37 fd_0_2 (br_0_2 hP0) (wk_getfb r42_40 fd_2_1 (bf_2_1 hP0) ?_)))
      intro v18 h20 h21 e19
      refine wk_icge r42_43 ⟨by omega, by omega⟩ ⟨by omega, by omega⟩ ?_ ?_
      · intro h22
        exact wp_fg (le_s (le_n (le_s (le_s le_0)))) c56_60
      · intro h23
        refine wk_al0 r42_46 (wk_getfr r42_47 fd_0_6 (br_0_6 hP0) (wk_il3 r42_50 (wk_il2 r42_51 (wk_cv3 r42_52 kc_10_197 rfl (m197_10 _ M0 v12 p2 hP0 (by omega) (by omega) (by omega) (by omega)) (cqI ?_)))))
        rintro v28 M24 ⟨hP25, hQ26, h29, h30⟩
        obtain rfl := Fr.same hQ26
        subst hQ; exact wk_iret r42_55 (Or.inr ⟨rfl, _, rfl, hP0, hF0, by omega, by omega⟩)
  · intro h61
    subst hQ; exact wk_thr105 r42_21 rfl (Or.inl ⟨rfl, hP0.thr, (Fr.thr hF0), (by rw [mUp_eq, hF0.at g_below rfl])⟩)
def fm_m29 : Nat := 0
/-- IslandHall.needAnswer -/
theorem m29 {B : eB} (d : Nat) (M0 : Mm) (p0 : Int) (hP0 : Pw M0) (l0 : (-2147483648) ≤ p0) (u0 : p0 ≤ 2147483647) : Ct B (d + 1) 29 [I p0] M0 (qX 0 (fun M => Pw M ∧ Fr (fm_m29 ||| 1) M0 M ∧ M (-1) 0 = M0 (-1) 0 + 1) (qV fun M => Pw M ∧ Fr fm_m29 M0 M ∧ 0 ≤ p0 ∧ 0 ≤ (-1) * p0 + 3)) := by
  refine ct_of (d := d + 0) (k := 0) (L := [some (I p0)]) rfl rfl rfl ?_
  have hF0 := Fr.rf fm_m29 M0
  generalize hQ : (qX 0 (fun M => Pw M ∧ Fr (fm_m29 ||| 1) M0 M ∧ M (-1) 0 = M0 (-1) 0 + 1) (qV fun M => Pw M ∧ Fr fm_m29 M0 M ∧ 0 ≤ p0 ∧ 0 ≤ (-1) * p0 + 3)) = Q
  refine wk_il0 r29_0 ?_
  refine wk_iflt r29_1 ⟨by omega, by omega⟩ ?_ ?_
  · intro h1
    subst hQ; exact wk_thr112 r29_9 rfl (Or.inl ⟨rfl, hP0.thr, (Fr.thr hF0), (by rw [mUp_eq, hF0.at g_below rfl])⟩)
  · intro h2
    refine wk_il0 r29_4 (wk_c1 r29_5 ?_)
    refine wk_iclt r29_6 ⟨by omega, by omega⟩ (by decide) ?_ ?_
    · intro h3
      subst hQ; exact wk_ret r29_20 (Or.inr ⟨rfl, hP0, hF0, by omega, by omega⟩)
    · intro h4
      subst hQ; exact wk_thr112 r29_9 rfl (Or.inl ⟨rfl, hP0.thr, (Fr.thr hF0), (by rw [mUp_eq, hF0.at g_below rfl])⟩)
def fm_m186_10v9 : Nat := 0
/-- IslandHall$Realm.answerAt -/
theorem m186_10v9 {B : eB} (d : Nat) (M0 : Mm) (p1 : Int) (p2 : Int) (hP0 : Pw M0) (l1 : 0 ≤ p1) (u1 : p1 ≤ 2999) (l2 : 0 ≤ p2) (u2 : p2 ≤ 3) : Ct B (d + 1) 186 [R 10, I p1, I p2] M0 (qI fun z M => Pw M ∧ Fr fm_m186_10v9 M0 M ∧ 0 ≤ z ∧ z ≤ 2999) := by
  refine ct_of (d := d + 0) (k := 0) (L := [some (R 10), some (I p1), some (I p2)]) rfl rfl rfl ?_
  have hF0 := Fr.rf fm_m186_10v9 M0
  generalize hQ : (qI fun z M => Pw M ∧ Fr fm_m186_10v9 M0 M ∧ 0 ≤ z ∧ z ≤ 2999) = Q
  refine wk_il2 r186_0 ?_
  refine wk_sw8 r186_1 ⟨by omega, by omega⟩ ?_ ?_ ?_ ?_
  · intro h1
    refine wk_al0 r186_65 (wk_getfr r186_66 fd_10_2 (br_10_2 hP0) (wk_il1 r186_69 (wk_ialdb r186_70 ar_137 ⟨by omega, by omega⟩ (fun q0 q1 => ba_137 hP0 q0 q1) ?_)))
    intro v2 h4 h5 e3
    subst hQ; exact wk_iret r186_71 (⟨rfl, _, rfl, hP0, hF0, by omega, by omega⟩)
  · intro h6
    refine wk_al0 r186_28 (wk_getfr r186_29 fd_10_1 (br_10_1 hP0) (wk_il1 r186_32 (wk_ialdb r186_33 ar_136 ⟨by omega, by omega⟩ (fun q0 q1 => ba_136 hP0 q0 q1) ?_)))
    intro v7 h9 h10 e8
    refine wk_c2 r186_34 (wk_ishrc r186_36 ⟨by omega, by omega⟩ (by decide) pwl_21 (wk_c1 r186_37 (wk_iandc 2 4 r186_38 ⟨rfl, by decide⟩ rfl ?_)))
    subst hQ; exact wk_iret r186_39 (⟨rfl, _, rfl, hP0, hF0, by omega, by omega⟩)
  · intro h13
    refine wk_al0 r186_40 (wk_getfr r186_41 fd_10_1 (br_10_1 hP0) (wk_il1 r186_44 (wk_ialdb r186_45 ar_136 ⟨by omega, by omega⟩ (fun q0 q1 => ba_136 hP0 q0 q1) ?_)))
    intro v14 h16 h17 e15
    refine wk_c2 r186_46 (wk_ishrc r186_48 ⟨by omega, by omega⟩ (by decide) pwl_23 (wk_c2 r186_49 (wk_iandc 3 8 r186_51 ⟨rfl, by decide⟩ rfl ?_)))
    subst hQ; exact wk_iret r186_52 (⟨rfl, _, rfl, hP0, hF0, by omega, by omega⟩)
  · intro h20
    refine wk_al0 r186_53 (wk_getfr r186_54 fd_10_1 (br_10_1 hP0) (wk_il1 r186_57 (wk_ialdb r186_58 ar_136 ⟨by omega, by omega⟩ (fun q0 q1 => ba_136 hP0 q0 q1) ?_)))
    intro v21 h23 h24 e22
    refine wk_c2 r186_59 (wk_ishrc r186_61 ⟨by omega, by omega⟩ (by decide) pwl_26 (wk_c1 r186_62 (wk_iandc 1 2 r186_63 ⟨rfl, by decide⟩ rfl ?_)))
    subst hQ; exact wk_iret r186_64 (⟨rfl, _, rfl, hP0, hF0, by omega, by omega⟩)
def fm_m232_138v8 : Nat := 0
/-- IslandHall$Tale.isMarked -/
theorem m232_138v8 {B : eB} (d : Nat) (M0 : Mm) (p1 : Int) (p2 : Int) (hP0 : Pw M0) (l1 : 0 ≤ p1) (u1 : p1 ≤ 2999) (l2 : 0 ≤ p2) (u2 : p2 ≤ 3) : Ct B (d + 2) 232 [R 138, I p1, I p2] M0 (qI fun z M => Pw M ∧ Fr fm_m232_138v8 M0 M ∧ 0 ≤ z ∧ z ≤ 1) := by
  refine ct_of (d := d + 1) (k := 0) (L := [some (R 138), some (I p1), some (I p2)]) rfl rfl rfl ?_
  have hF0 := Fr.rf fm_m232_138v8 M0
  generalize hQ : (qI fun z M => Pw M ∧ Fr fm_m232_138v8 M0 M ∧ 0 ≤ z ∧ z ≤ 1) = Q
  refine wk_al0 r232_0 (wk_getfr r232_1 fd_138_4 (br_138_4 hP0) (wk_al0 r232_4 (wk_getfr r232_5 fd_138_0 (br_138_0 hP0) (wk_il1 r232_8 (wk_il2 r232_9 (wk_cv3 r232_10 kc_10_186 rfl (m186_10v9 _ M0 p1 p2 hP0 (by omega) (by omega) (by omega) (by omega)) (cqI ?_)))))))
  rintro v5 M1 ⟨hP2, hQ3, h6, h7⟩
  obtain rfl := Fr.same hQ3
  refine wk_baldb r232_13 ar_140 ⟨by omega, by omega⟩ (fun q0 q1 => ba_140 hP0 q0 q1) ?_
  intro v8 h10 h11 e9
  refine wk_c1 r232_14 ?_
  refine wk_icne r232_15 ⟨by omega, by omega⟩ (by decide) ?_ ?_
  · intro h12
    refine wk_c1 r232_22 ?_
    subst hQ; exact wk_zret r232_23 (by decide) (⟨rfl, _, rfl, hP0, hF0, by omega, by omega⟩)
  · intro h13
    refine wk_c1 r232_18 (wk_goto r232_19 ?_)
    subst hQ; exact wk_zret r232_23 (by decide) (⟨rfl, _, rfl, hP0, hF0, by omega, by omega⟩)
def fm_m234_138 : Nat := 4835703278458516698824704
/-- IslandHall$Tale.markAnswers -/
theorem m234_138 {B : eB} (d : Nat) (M0 : Mm) (p1 : Int) (hP0 : Pw M0) (l1 : 0 ≤ p1) (u1 : p1 ≤ 3) : Ct B (d + 3) 234 [R 138, I p1] M0 (qI fun z M => Pw M ∧ Fr fm_m234_138 M0 M ∧ 0 ≤ z ∧ z ≤ 3000) := by
  refine ct_of (d := d + 2) (k := 2) (L := [some (R 138), some (I p1), none, none]) rfl rfl rfl ?_
  have hF0 := Fr.rf fm_m234_138 M0
  generalize hQ : (qI fun z M => Pw M ∧ Fr fm_m234_138 M0 M ∧ 0 ≤ z ∧ z ≤ 3000) = Q
  refine wk_al0 r234_0 (wk_getfr r234_1 fd_138_4 (br_138_4 hP0) (wk_c1 r234_4 (wk_cs102_2 r234_5 rfl (ct_fb ar_140) (cqV ?_))))
  intro M1 e2
  have hP3 : Pw M1 := by rw [e2]; exact hP0.fil (fun i => (ua_140 (by decide)))
  have hF4 : Fr fm_m234_138 M0 M1 := by rw [e2]; exact hF0.fil (fun i => by rw [(ga_140 i)]; rfl)
  refine wk_c1 r234_8 (wk_is2 r234_9 rfl (wk_c1 r234_10 (wk_is3 r234_11 rfl ?_)))
  have c12_496 : ∀ (k496 : Nat) (M453 : Mm) (v447 : Int) (v450 : Int), (3000 - v450).toNat = k496 → Pw M453 → Fr fm_m234_138 M0 M453 → 0 ≤ v447 → v447 ≤ 3000 → 0 ≤ v450 → v450 ≤ 3000 → 0 ≤ (-1) * v447 + v450 + 0 → Wp B (d + 2) 234 12 [some (R 138), some (I p1), some (I v447), some (I v450)] [] M453 Q := by
    refine lp_ind ?_
    intro k496 ih496 M453 v447 v450 hk496 hP454 hF455 h448 h449 h451 h452 h456
    refine wk_il3 r234_12 (wk_al0 r234_13 (wk_getfr r234_14 fd_138_0 (br_138_0 hP454) (wk_getfb r234_17 fd_10_9 (bf_10_9 hP454) ?_)))
    intro v457 h459 h460 e458
    refine wk_icge r234_20 ⟨by omega, by omega⟩ ⟨by omega, by omega⟩ ?_ ?_
    · intro h461
      refine wk_il2 r234_72 ?_
      subst hQ; exact wk_iret r234_73 (⟨rfl, _, rfl, hP454, hF455, by omega, by omega⟩)
    · intro h462
      refine wk_al0 r234_23 (wk_getfr r234_24 fd_138_3 (br_138_3 hP454) (wk_al0 r234_27 (wk_getfb r234_28 fd_138_5 (bf_138_5 hP454) ?_)))
      intro v463 h465 h466 e464
      refine wk_raldb r234_31 ar_154 ⟨by omega, by omega⟩ (fun q0 q1 => ba_154 hP454 q0 q1) (wk_il3 r234_32 (wk_cs102_2 r234_33 rfl (m191_f155v8 _ M453 (155 + v463) v450 hP454 (by omega) (by omega) (by omega) (by omega)) (cqI ?_)))
      rintro v471 M467 ⟨hP468, hQ469, h472, h473⟩
      obtain rfl := Fr.same hQ469
      refine wk_ifeq r234_36 ⟨by omega, by omega⟩ ?_ ?_
      · intro h474
        refine wk_inc3 r234_66 rfl (wk_goto r234_69 ?_)
        exact wp_fg (le_s (le_s (le_s (le_s le_0)))) (ih496 (3000 - (v450 + 1)).toNat (by omega) M453 v447 (v450 + 1) rfl hP454 hF455 (by omega) (by omega) (by omega) (by omega) (by omega))
      · intro h475
        refine wk_al0 r234_39 (wk_il3 r234_40 (wk_il1 r234_41 (wk_cv3 r234_42 kc_138_232 rfl (m232_138v8 _ M453 v450 p1 hP454 (by omega) (by omega) (by omega) (by omega)) (cqI ?_))))
        rintro v480 M476 ⟨hP477, hQ478, h481, h482⟩
        obtain rfl := Fr.same hQ478
        refine wk_ifne r234_45 ⟨by omega, by omega⟩ ?_ ?_
        · intro h483
          refine wk_inc3 r234_66 rfl (wk_goto r234_69 ?_)
          exact wp_fg (le_s (le_s (le_s (le_s le_0)))) (ih496 (3000 - (v450 + 1)).toNat (by omega) M453 v447 (v450 + 1) rfl hP454 hF455 (by omega) (by omega) (by omega) (by omega) (by omega))
        · intro h484
          refine wk_al0 r234_48 (wk_getfr r234_49 fd_138_4 (br_138_4 hP454) (wk_al0 r234_52 (wk_getfr r234_53 fd_138_0 (br_138_0 hP454) (wk_il3 r234_56 (wk_il1 r234_57 (wk_cv3 r234_58 kc_10_186 rfl (m186_10v9 _ M453 v450 p1 hP454 (by omega) (by omega) (by omega) (by omega)) (cqI ?_)))))))
          rintro v489 M485 ⟨hP486, hQ487, h490, h491⟩
          obtain rfl := Fr.same hQ487
          refine wk_c1 r234_61 (wk_bast r234_62 ar_140 ⟨by omega, by omega⟩ (by decide) (wk_nw (ga_140 _) rfl hP454 hF455 (ua_140 (by decide)) ?_))
          intro M492 hP493 hF494 e495
          refine wk_inc2 r234_63 rfl (wk_inc3 r234_66 rfl (wk_goto r234_69 ?_))
          exact wp_fg (le_s (le_s (le_s (le_s le_0)))) (ih496 (3000 - (v450 + 1)).toNat (by omega) M492 (v447 + 1) (v450 + 1) rfl hP493 hF494 (by omega) (by omega) (by omega) (by omega) (by omega))
  exact wp_fg (le_s (le_s (le_s (le_s le_0)))) (c12_496 _ M1 0 0 rfl hP3 hF4 (by omega) (by omega) (by omega) (by omega) (by omega))
def fm_m41_0 : Nat := 4835703278458516698824704
/-- IslandHall.told -/
theorem m41_0 {B : eB} (d : Nat) (M0 : Mm) (p1 : Int) (hP0 : Pw M0) (l1 : (-2147483648) ≤ p1) (u1 : p1 ≤ 2147483647) : Ct B (d + 4) 41 [R 0, I p1] M0 (qX 0 (fun M => Pw M ∧ Fr (fm_m41_0 ||| 1) M0 M ∧ M (-1) 0 = M0 (-1) 0 + 1) (qI fun z M => Pw M ∧ Fr fm_m41_0 M0 M ∧ 0 ≤ z ∧ z ≤ 3000)) := by
  refine ct_of (d := d + 3) (k := 0) (L := [some (R 0), some (I p1)]) rfl rfl rfl ?_
  have hF0 := Fr.rf fm_m41_0 M0
  generalize hQ : (qX 0 (fun M => Pw M ∧ Fr (fm_m41_0 ||| 1) M0 M ∧ M (-1) 0 = M0 (-1) 0 + 1) (qI fun z M => Pw M ∧ Fr fm_m41_0 M0 M ∧ 0 ≤ z ∧ z ≤ 3000)) = Q
  refine wk_il1 r41_0 (wk_cs102_1 r41_1 rfl (m29 _ M0 p1 hP0 (by omega) (by omega)) (cqX (fun _ _ x5 => by subst hQ; exact Or.inl ⟨rfl, x5.1, Fr.trx hF0 x5.2.1 rfl, (by rw [x5.2.2, hF0.at g_below rfl])⟩) (cqV ?_)))
  rintro M1 ⟨hP2, hQ3, h8, h9⟩
  obtain rfl := Fr.same hQ3
  refine wk_al0 r41_4 (wk_getfr r41_5 fd_0_7 (br_0_7 hP0) (wk_il1 r41_8 (wk_cv2 r41_9 kc_138_234 rfl (m234_138 _ M0 p1 hP0 (by omega) (by omega)) (cqI ?_))))
  rintro v14 M10 ⟨hP11, hQ12, h15, h16⟩
  have hF13 : Fr fm_m41_0 M0 M10 := hF0.tr hQ12 rfl
  subst hQ; exact wk_iret r41_12 (Or.inr ⟨rfl, _, rfl, hP11, hF13, by omega, by omega⟩)
def fm_m199_10_f155v1 : Nat := 0
/-- IslandHall$Realm.meetings -/
theorem m199_10_f155v1 {B : eB} (d : Nat) (M0 : Mm) (a1 : Int) (p2 : Int) (p3 : Int) (hP0 : Pw M0) (ha1 : 155 ≤ a1) (hb1 : a1 ≤ 167) (l2 : 0 ≤ p2) (u2 : p2 ≤ 35) (l3 : 4 ≤ p3) (u3 : p3 ≤ 5) : Ct B (d + 1) 199 [R 10, R a1, I p2, I p3] M0 (qI fun z M => Pw M ∧ Fr fm_m199_10_f155v1 M0 M ∧ 0 ≤ z ∧ z ≤ 31) := by
  refine ct_of (d := d + 0) (k := 3) (L := [some (R 10), some (R a1), some (I p2), some (I p3), none, none, none]) rfl rfl rfl ?_
  have hF0 := Fr.rf fm_m199_10_f155v1 M0
  generalize hQ : (qI fun z M => Pw M ∧ Fr fm_m199_10_f155v1 M0 M ∧ 0 ≤ z ∧ z ≤ 31) = Q
  refine wk_c1 r199_0 (wk_is4 r199_1 rfl (wk_c1 r199_3 (wk_is5 r199_4 rfl ?_)))
  have c6_978 : ∀ (k978 : Nat) (v924 : Int) (v927 : Int), (5 - v927).toNat = k978 → 0 ≤ v924 → v924 ≤ 31 → 0 ≤ v927 → v927 ≤ 5 → Wp B (d + 0) 199 6 [some (R 10), some (R a1), some (I p2), some (I p3), some (I v924), some (I v927), none] [] M0 Q := by
    refine lp_ind ?_
    intro k978 ih978 v924 v927 hk978 h925 h926 h928 h929
    refine wk_il5 r199_6 (wk_il3 r199_8 ?_)
    refine wk_icge r199_9 ⟨by omega, by omega⟩ ⟨by omega, by omega⟩ ?_ ?_
    · intro h930
      refine wk_il4 r199_67 ?_
      subst hQ; exact wk_iret r199_69 (⟨rfl, _, rfl, hP0, hF0, by omega, by omega⟩)
    · intro h931
      refine wk_c1 r199_12 (wk_is6 r199_13 rfl ?_)
      have c15_977 : ∀ (k977 : Nat) (v932 : Int) (v935 : Int), (47 - v935).toNat = k977 → 0 ≤ v932 → v932 ≤ 31 → 0 ≤ v935 → v935 ≤ 47 → Wp B (d + 0) 199 15 [some (R 10), some (R a1), some (I p2), some (I p3), some (I v932), some (I v927), some (I v935)] [] M0 Q := by
        refine lp_ind ?_
        intro k977 ih977 v932 v935 hk977 h933 h934 h936 h937
        refine wk_il6 r199_15 (wk_al0 r199_17 (wk_getfb r199_18 fd_10_10 (bf_10_10 hP0) ?_))
        intro v938 h940 h941 e939
        refine wk_icge r199_21 ⟨by omega, by omega⟩ ⟨by omega, by omega⟩ ?_ ?_
        · intro h942
          refine wk_inc5 r199_61 rfl (wk_goto r199_64 ?_)
          exact wp_fg (le_s (le_s (le_s (le_s (le_s (le_s (le_n le_0))))))) (ih978 (5 - (v927 + 1)).toNat (by omega) v932 (v927 + 1) rfl (by omega) (by omega) (by omega) (by omega))
        · intro h943
          refine wk_al1 r199_24 (wk_il6 r199_25 (wk_laldb r199_27 (arF_155 (by omega) (by omega)) ⟨by omega, by omega⟩ (fun q0 q1 => baF_155 hP0 (by omega) (by omega) q0 q1) (by decide) ?_))
          intro n944 h946 h947 e945
          refine wk_al0 r199_28 (wk_getfr r199_29 fd_10_0 (br_10_0 hP0) (wk_il2 r199_32 (wk_il5 r199_33 (wk_iadd r199_35 (wk_raldb r199_36 ar_16 ⟨by omega, by omega⟩ (fun q0 q1 => ba_16 hP0 q0 q1) (wk_il6 r199_37 (wk_laldb r199_39 (arF_17 (by omega) (by omega)) ⟨by omega, by omega⟩ (fun q0 q1 => baF_17 hP0 (by omega) (by omega) q0 q1) (by decide) ?_)))))))
          intro n948 h950 h951 e949
          refine wk_land r199_40 ?_
          intro n952 h953 h954 h955 h956
          refine wk_c6 r199_41 ?_
          refine wk_lcmp r199_42 (by omega) (by omega) ?_ ?_
          · intro h957
            refine wk_ifeq r199_43 (by decide) ?_ ?_
            · intro h963
              refine wk_inc6 r199_55 rfl (wk_goto r199_58 ?_)
              exact wp_fg (le_s (le_s (le_s (le_s (le_s (le_s (le_s le_0))))))) (ih977 (47 - (v935 + 1)).toNat (by omega) v932 (v935 + 1) rfl (by omega) (by omega) (by omega) (by omega))
            · intro h964
              exfalso
              omega
          · intro h958 v962 h959 h960 h961
            refine wk_ifeq r199_43 ⟨by omega, by omega⟩ ?_ ?_
            · intro h965
              exfalso
              omega
            · intro h966
              refine wk_il4 r199_46 (wk_c1 r199_48 (wk_il5 r199_49 (wk_shl1 4 16 r199_51 ⟨by omega, by omega⟩ ⟨pwl_4, by decide⟩ ?_)))
              intro v967 h968 h969 h970
              refine wk_ior 5 32 r199_52 (by decide) ⟨by omega, by omega⟩ ⟨by omega, by omega⟩ ?_
              intro v971 h972 h973 h974 h975 h976
              refine wk_is4 r199_53 rfl (wk_inc6 r199_55 rfl (wk_goto r199_58 ?_))
              exact wp_fg (le_s (le_s (le_s (le_s (le_s (le_s (le_s le_0))))))) (ih977 (47 - (v935 + 1)).toNat (by omega) v971 (v935 + 1) rfl (by omega) (by omega) (by omega) (by omega))
      exact wp_fg (le_s (le_s (le_s (le_s (le_s (le_s (le_s le_0))))))) (c15_977 _ v924 0 rfl (by omega) (by omega) (by omega) (by omega))
  exact wp_fg (le_s (le_s (le_s (le_s (le_s (le_s (le_s le_0))))))) (c6_978 _ 0 0 rfl (by omega) (by omega) (by omega) (by omega))
def fm_m199_10_f155v2 : Nat := 0
/-- IslandHall$Realm.meetings -/
theorem m199_10_f155v2 {B : eB} (d : Nat) (M0 : Mm) (a1 : Int) (p2 : Int) (p3 : Int) (hP0 : Pw M0) (ha1 : 155 ≤ a1) (hb1 : a1 ≤ 167) (l2 : 0 ≤ p2) (u2 : p2 ≤ 39) (l3 : 4 ≤ p3) (u3 : p3 ≤ 7) : Ct B (d + 1) 199 [R 10, R a1, I p2, I p3] M0 (qI fun z M => Pw M ∧ Fr fm_m199_10_f155v2 M0 M ∧ 0 ≤ z ∧ z ≤ 127) := by
  refine ct_of (d := d + 0) (k := 3) (L := [some (R 10), some (R a1), some (I p2), some (I p3), none, none, none]) rfl rfl rfl ?_
  have hF0 := Fr.rf fm_m199_10_f155v2 M0
  generalize hQ : (qI fun z M => Pw M ∧ Fr fm_m199_10_f155v2 M0 M ∧ 0 ≤ z ∧ z ≤ 127) = Q
  refine wk_c1 r199_0 (wk_is4 r199_1 rfl (wk_c1 r199_3 (wk_is5 r199_4 rfl ?_)))
  have c6_1023 : ∀ (k1023 : Nat) (v969 : Int) (v972 : Int), (7 - v972).toNat = k1023 → 0 ≤ v969 → v969 ≤ 127 → 0 ≤ v972 → v972 ≤ 7 → Wp B (d + 0) 199 6 [some (R 10), some (R a1), some (I p2), some (I p3), some (I v969), some (I v972), none] [] M0 Q := by
    refine lp_ind ?_
    intro k1023 ih1023 v969 v972 hk1023 h970 h971 h973 h974
    refine wk_il5 r199_6 (wk_il3 r199_8 ?_)
    refine wk_icge r199_9 ⟨by omega, by omega⟩ ⟨by omega, by omega⟩ ?_ ?_
    · intro h975
      refine wk_il4 r199_67 ?_
      subst hQ; exact wk_iret r199_69 (⟨rfl, _, rfl, hP0, hF0, by omega, by omega⟩)
    · intro h976
      refine wk_c1 r199_12 (wk_is6 r199_13 rfl ?_)
      have c15_1022 : ∀ (k1022 : Nat) (v977 : Int) (v980 : Int), (47 - v980).toNat = k1022 → 0 ≤ v977 → v977 ≤ 127 → 0 ≤ v980 → v980 ≤ 47 → Wp B (d + 0) 199 15 [some (R 10), some (R a1), some (I p2), some (I p3), some (I v977), some (I v972), some (I v980)] [] M0 Q := by
        refine lp_ind ?_
        intro k1022 ih1022 v977 v980 hk1022 h978 h979 h981 h982
        refine wk_il6 r199_15 (wk_al0 r199_17 (wk_getfb r199_18 fd_10_10 (bf_10_10 hP0) ?_))
        intro v983 h985 h986 e984
        refine wk_icge r199_21 ⟨by omega, by omega⟩ ⟨by omega, by omega⟩ ?_ ?_
        · intro h987
          refine wk_inc5 r199_61 rfl (wk_goto r199_64 ?_)
          exact wp_fg (le_s (le_s (le_s (le_s (le_s (le_s (le_n le_0))))))) (ih1023 (7 - (v972 + 1)).toNat (by omega) v977 (v972 + 1) rfl (by omega) (by omega) (by omega) (by omega))
        · intro h988
          refine wk_al1 r199_24 (wk_il6 r199_25 (wk_laldb r199_27 (arF_155 (by omega) (by omega)) ⟨by omega, by omega⟩ (fun q0 q1 => baF_155 hP0 (by omega) (by omega) q0 q1) (by decide) ?_))
          intro n989 h991 h992 e990
          refine wk_al0 r199_28 (wk_getfr r199_29 fd_10_0 (br_10_0 hP0) (wk_il2 r199_32 (wk_il5 r199_33 (wk_iadd r199_35 (wk_raldb r199_36 ar_16 ⟨by omega, by omega⟩ (fun q0 q1 => ba_16 hP0 q0 q1) (wk_il6 r199_37 (wk_laldb r199_39 (arF_17 (by omega) (by omega)) ⟨by omega, by omega⟩ (fun q0 q1 => baF_17 hP0 (by omega) (by omega) q0 q1) (by decide) ?_)))))))
          intro n993 h995 h996 e994
          refine wk_land r199_40 ?_
          intro n997 h998 h999 h1000 h1001
          refine wk_c6 r199_41 ?_
          refine wk_lcmp r199_42 (by omega) (by omega) ?_ ?_
          · intro h1002
            refine wk_ifeq r199_43 (by decide) ?_ ?_
            · intro h1008
              refine wk_inc6 r199_55 rfl (wk_goto r199_58 ?_)
              exact wp_fg (le_s (le_s (le_s (le_s (le_s (le_s (le_s le_0))))))) (ih1022 (47 - (v980 + 1)).toNat (by omega) v977 (v980 + 1) rfl (by omega) (by omega) (by omega) (by omega))
            · intro h1009
              exfalso
              omega
          · intro h1003 v1007 h1004 h1005 h1006
            refine wk_ifeq r199_43 ⟨by omega, by omega⟩ ?_ ?_
            · intro h1010
              exfalso
              omega
            · intro h1011
              refine wk_il4 r199_46 (wk_c1 r199_48 (wk_il5 r199_49 (wk_shl1 6 64 r199_51 ⟨by omega, by omega⟩ ⟨pwl_6, by decide⟩ ?_)))
              intro v1012 h1013 h1014 h1015
              refine wk_ior 7 128 r199_52 (by decide) ⟨by omega, by omega⟩ ⟨by omega, by omega⟩ ?_
              intro v1016 h1017 h1018 h1019 h1020 h1021
              refine wk_is4 r199_53 rfl (wk_inc6 r199_55 rfl (wk_goto r199_58 ?_))
              exact wp_fg (le_s (le_s (le_s (le_s (le_s (le_s (le_s le_0))))))) (ih1022 (47 - (v980 + 1)).toNat (by omega) v1016 (v980 + 1) rfl (by omega) (by omega) (by omega) (by omega))
      exact wp_fg (le_s (le_s (le_s (le_s (le_s (le_s (le_s le_0))))))) (c15_1022 _ v969 0 rfl (by omega) (by omega) (by omega) (by omega))
  exact wp_fg (le_s (le_s (le_s (le_s (le_s (le_s (le_s le_0))))))) (c6_1023 _ 0 0 rfl (by omega) (by omega) (by omega) (by omega))
