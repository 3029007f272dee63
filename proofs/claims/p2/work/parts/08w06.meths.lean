/-! ===== written by program (wip/layer2/all.py): contracts of methods ===== -/
def fm_m199_10_f155v3 : Nat := 0
/-- IslandHall$Realm.meetings -/
theorem m199_10_f155v3 {B : eB} (d : Nat) (M0 : Mm) (a1 : Int) (p2 : Int) (p3 : Int) (hP0 : Pw M0) (ha1 : 155 ≤ a1) (hb1 : a1 ≤ 167) (l2 : 0 ≤ p2) (u2 : p2 ≤ 46) (l3 : 2 ≤ p3) (u3 : p3 ≤ 7) : Ct B (d + 1) 199 [R 10, R a1, I p2, I p3] M0 (qI fun z M => Pw M ∧ Fr fm_m199_10_f155v3 M0 M ∧ 0 ≤ z ∧ z ≤ 127) := by
  refine ct_of (d := d + 0) (k := 3) (L := [some (R 10), some (R a1), some (I p2), some (I p3), none, none, none]) rfl rfl rfl ?_
  have hF0 := Fr.rf fm_m199_10_f155v3 M0
  generalize hQ : (qI fun z M => Pw M ∧ Fr fm_m199_10_f155v3 M0 M ∧ 0 ≤ z ∧ z ≤ 127) = Q
  refine wk_c1 r199_0 (wk_is4 r199_1 rfl (wk_c1 r199_3 (wk_is5 r199_4 rfl ?_)))
  have c6_1023 : ∀ (k1023 : Nat) (v969 : Int) (v972 : Int), (7 - v972).toNat = k1023 → 0 ≤ v969 → v969 ≤ 127 → 0 ≤ v972 → v972 ≤ 7 → Wp B (d + 0) 199 6 [some (R 10), some (R a1), some (I p2), some (I p3), some (I v969), some (I v972), none] [] M0 Q := by
    refine lp_ind ?_
    intro k1023 ih1023 v969 v972 hk1023 h970 h971 h973 h974
    refine wk_il5 r199_6 (wk_il3 r199_8 ?_)
    refine wk_icge r199_9 ⟨by omega, by omega⟩ ⟨by omega, by omega⟩ ?_ ?_
    · intro h975
      refine wk_il4 r199_67 ?_
      subst hQ; exact wk_iret r199_69 (⟨rfl, _, rfl, hP0, hF0, by omega, by omega⟩)
    · intro h976
      refine wk_c1 r199_12 (wk_is6 r199_13 rfl ?_)
      have c15_1022 : ∀ (k1022 : Nat) (v977 : Int) (v980 : Int), (47 - v980).toNat = k1022 → 0 ≤ v977 → v977 ≤ 127 → 0 ≤ v980 → v980 ≤ 47 → Wp B (d + 0) 199 15 [some (R 10), some (R a1), some (I p2), some (I p3), some (I v977), some (I v972), some (I v980)] [] M0 Q := by
        refine lp_ind ?_
        intro k1022 ih1022 v977 v980 hk1022 h978 h979 h981 h982
        refine wk_il6 r199_15 (wk_al0 r199_17 (wk_getfb r199_18 fd_10_10 (bf_10_10 hP0) ?_))
        intro v983 h985 h986 e984
        refine wk_icge r199_21 ⟨by omega, by omega⟩ ⟨by omega, by omega⟩ ?_ ?_
        · intro h987
          refine wk_inc5 r199_61 rfl (wk_goto r199_64 ?_)
          exact wp_fg (le_s (le_s (le_s (le_s (le_s (le_s (le_n le_0))))))) (ih1023 (7 - (v972 + 1)).toNat (by omega) v977 (v972 + 1) rfl (by omega) (by omega) (by omega) (by omega))
        · intro h988
          refine wk_al1 r199_24 (wk_il6 r199_25 (wk_laldb r199_27 (arF_155 (by omega) (by omega)) ⟨by omega, by omega⟩ (fun q0 q1 => baF_155 hP0 (by omega) (by omega) q0 q1) (by decide) ?_))
          intro n989 h991 h992 e990
          refine wk_al0 r199_28 (wk_getfr r199_29 fd_10_0 (br_10_0 hP0) (wk_il2 r199_32 (wk_il5 r199_33 (wk_iadd r199_35 (wk_raldb r199_36 ar_16 ⟨by omega, by omega⟩ (fun q0 q1 => ba_16 hP0 q0 q1) (wk_il6 r199_37 (wk_laldb r199_39 (arF_17 (by omega) (by omega)) ⟨by omega, by omega⟩ (fun q0 q1 => baF_17 hP0 (by omega) (by omega) q0 q1) (by decide) ?_)))))))
          intro n993 h995 h996 e994
          refine wk_land r199_40 ?_
          intro n997 h998 h999 h1000 h1001
          refine wk_c6 r199_41 ?_
          refine wk_lcmp r199_42 (by omega) (by omega) ?_ ?_
          · intro h1002
            refine wk_ifeq r199_43 (by decide) ?_ ?_
            · intro h1008
              refine wk_inc6 r199_55 rfl (wk_goto r199_58 ?_)
              exact wp_fg (le_s (le_s (le_s (le_s (le_s (le_s (le_s le_0))))))) (ih1022 (47 - (v980 + 1)).toNat (by omega) v977 (v980 + 1) rfl (by omega) (by omega) (by omega) (by omega))
            · intro h1009
              exfalso
              omega
          · intro h1003 v1007 h1004 h1005 h1006
            refine wk_ifeq r199_43 ⟨by omega, by omega⟩ ?_ ?_
            · intro h1010
              exfalso
              omega
            · intro h1011
              refine wk_il4 r199_46 (wk_c1 r199_48 (wk_il5 r199_49 (wk_shl1 6 64 r199_51 ⟨by omega, by omega⟩ ⟨pwl_6, by decide⟩ ?_)))
              intro v1012 h1013 h1014 h1015
              refine wk_ior 7 128 r199_52 (by decide) ⟨by omega, by omega⟩ ⟨by omega, by omega⟩ ?_
              intro v1016 h1017 h1018 h1019 h1020 h1021
              refine wk_is4 r199_53 rfl (wk_inc6 r199_55 rfl (wk_goto r199_58 ?_))
              exact wp_fg (le_s (le_s (le_s (le_s (le_s (le_s (le_s le_0))))))) (ih1022 (47 - (v980 + 1)).toNat (by omega) v1016 (v980 + 1) rfl (by omega) (by omega) (by omega) (by omega))
      exact wp_fg (le_s (le_s (le_s (le_s (le_s (le_s (le_s le_0))))))) (c15_1022 _ v969 0 rfl (by omega) (by omega) (by omega) (by omega))
  exact wp_fg (le_s (le_s (le_s (le_s (le_s (le_s (le_s le_0))))))) (c6_1023 _ 0 0 rfl (by omega) (by omega) (by omega) (by omega))
def fm_m13_0 : Nat := 0
/-- IslandHall.can -/
theorem m13_0 {B : eB} (d : Nat) (M0 : Mm) (p1 : Int) (hP0 : Pw M0) (l1 : (-2147483648) ≤ p1) (u1 : p1 ≤ 2147483647) : Ct B (d + 2) 13 [R 0, I p1] M0 (qX 0 (fun M => Pw M ∧ Fr (fm_m13_0 ||| 1) M0 M ∧ M (-1) 0 = M0 (-1) 0 + 1) (qI fun z M => Pw M ∧ Fr fm_m13_0 M0 M ∧ 0 ≤ z ∧ z ≤ 127)) := by
  refine ct_of (d := d + 1) (k := 0) (L := [some (R 0), some (I p1)]) rfl rfl rfl ?_
  have hF0 := Fr.rf fm_m13_0 M0
  generalize hQ : (qX 0 (fun M => Pw M ∧ Fr (fm_m13_0 ||| 1) M0 M ∧ M (-1) 0 = M0 (-1) 0 + 1) (qI fun z M => Pw M ∧ Fr fm_m13_0 M0 M ∧ 0 ≤ z ∧ z ≤ 127)) = Q
  refine wk_il1 r13_0 ?_
  refine wk_sw1 r13_1 ⟨by omega, by omega⟩ ?_ ?_ ?_ ?_
  · intro h1
    subst hQ; exact wk_thr105 r13_83 rfl (Or.inl ⟨rfl, hP0.thr, (Fr.thr hF0), (by rw [mUp_eq, hF0.at g_below rfl])⟩)
  · intro h2
    refine wk_al0 r13_28 (wk_getfr r13_29 fd_0_6 (br_0_6 hP0) (wk_al0 r13_32 (wk_getfr r13_33 fd_0_7 (br_0_7 hP0) (wk_cv1 r13_36 kc_138_229 rfl (m229_138 _ M0 hP0) (cqR ?_)))))
    rintro v7 M3 ⟨hP4, hQ5, h8, h9⟩
    obtain rfl := Fr.same hQ5
    refine wk_c2 r13_39 (wk_c1 r13_41 (wk_cv4 r13_42 kc_10_199 rfl (m199_10_f155v1 _ M0 v7 35 4 hP0 (by omega) (by omega) (by decide) (by decide) (by decide) (by decide)) (cqI ?_)))
    rintro v14 M10 ⟨hP11, hQ12, h15, h16⟩
    obtain rfl := Fr.same hQ12
    subst hQ; exact wk_iret r13_45 (Or.inr ⟨rfl, _, rfl, hP0, hF0, by omega, by omega⟩)
  · intro h17
    refine wk_al0 r13_46 (wk_getfr r13_47 fd_0_6 (br_0_6 hP0) (wk_al0 r13_50 (wk_getfr r13_51 fd_0_7 (br_0_7 hP0) (wk_cv1 r13_54 kc_138_229 rfl (m229_138 _ M0 hP0) (cqR ?_)))))
    rintro v22 M18 ⟨hP19, hQ20, h23, h24⟩
    obtain rfl := Fr.same hQ20
    refine wk_c2 r13_57 (wk_c2 r13_59 (wk_cv4 r13_61 kc_10_199 rfl (m199_10_f155v2 _ M0 v22 39 7 hP0 (by omega) (by omega) (by decide) (by decide) (by decide) (by decide)) (cqI ?_)))
    rintro v29 M25 ⟨hP26, hQ27, h30, h31⟩
    obtain rfl := Fr.same hQ27
    subst hQ; exact wk_iret r13_64 (Or.inr ⟨rfl, _, rfl, hP0, hF0, by omega, by omega⟩)
  · intro h32
    refine wk_al0 r13_65 (wk_getfr r13_66 fd_0_6 (br_0_6 hP0) (wk_al0 r13_69 (wk_getfr r13_70 fd_0_7 (br_0_7 hP0) (wk_cv1 r13_73 kc_138_229 rfl (m229_138 _ M0 hP0) (cqR ?_)))))
    rintro v37 M33 ⟨hP34, hQ35, h38, h39⟩
    obtain rfl := Fr.same hQ35
    refine wk_c2 r13_76 (wk_c1 r13_78 (wk_cv4 r13_79 kc_10_199 rfl (m199_10_f155v3 _ M0 v37 46 2 hP0 (by omega) (by omega) (by decide) (by decide) (by decide) (by decide)) (cqI ?_)))
    rintro v44 M40 ⟨hP41, hQ42, h45, h46⟩
    obtain rfl := Fr.same hQ42
    subst hQ; exact wk_iret r13_82 (Or.inr ⟨rfl, _, rfl, hP0, hF0, by omega, by omega⟩)
def fm_m14_0 : Nat := 18446744073709551616
/-- IslandHall.could -/
theorem m14_0 {B : eB} (d : Nat) (M0 : Mm) (p1 : Int) (p2 : Int) (hP0 : Pw M0) (l1 : (-2147483648) ≤ p1) (u1 : p1 ≤ 2147483647) (l2 : (-2147483648) ≤ p2) (u2 : p2 ≤ 2147483647) : Ct B (d + 4) 14 [R 0, I p1, I p2] M0 (qX 0 (fun M => Pw M ∧ Fr (fm_m14_0 ||| 1) M0 M ∧ M (-1) 0 = M0 (-1) 0 + 1) (qI fun z M => Pw M ∧ Fr fm_m14_0 M0 M ∧ (-2147483648) ≤ z ∧ z ≤ 2147483647)) := by
  refine ct_of (d := d + 3) (k := 5) (L := [some (R 0), some (I p1), some (I p2), none, none, none, none, none]) rfl rfl rfl ?_
  have hF0 := Fr.rf fm_m14_0 M0
  generalize hQ : (qX 0 (fun M => Pw M ∧ Fr (fm_m14_0 ||| 1) M0 M ∧ M (-1) 0 = M0 (-1) 0 + 1) (qI fun z M => Pw M ∧ Fr fm_m14_0 M0 M ∧ (-2147483648) ≤ z ∧ z ≤ 2147483647)) = Q
  refine wk_il1 r14_0 (wk_c1 r14_1 ?_)
  have c10_756 : (-1) ≤ p1 → p1 ≤ 6 → Wp B (d + 3) 14 10 [some (R 0), some (I p1), some (I p2), none, none, none, none, none] [] M0 Q := by
    intro h15 h16
    refine wk_al0 r14_10 (wk_il2 r14_11 (wk_cv2 r14_12 kc_0_31 rfl (m31_0 _ M0 p2 hP0 (by omega) (by omega)) (cqX (fun _ _ x21 => by subst hQ; exact Or.inl ⟨rfl, x21.1, Fr.trx hF0 x21.2.1 rfl, (by rw [x21.2.2, hF0.at g_below rfl])⟩) (cqV ?_))))
    rintro M17 ⟨hP18, hQ19, h24, h25⟩
    obtain rfl := Fr.same hQ19
    obtain ⟨v26, e27⟩ : ∃ v, M0 0 9 = v := ⟨_, rfl⟩
    have h28 := bf_0_9 hP0; rw [e27] at h28
    refine wk_al0 r14_15 (wk_getfr r14_16 fd_0_7 (br_0_7 hP0) (wk_cv1 r14_19 kc_138_229 rfl (m229_138 _ M0 hP0) (cqR ?_)))
    rintro v33 M29 ⟨hP30, hQ31, h34, h35⟩
    obtain rfl := Fr.same hQ31
    refine wk_as3 r14_22 rfl (wk_c1 r14_23 (wk_is4 r14_24 rfl (wk_c1 r14_26 (wk_is5 r14_27 rfl ?_))))
    have c29_755 : ∀ (k755 : Nat) (M690 : Mm) (v684 : Int) (v687 : Int), (47 - v687).toNat = k755 → Pw M690 → Fr fm_m14_0 M0 M690 → M690 0 9 = v26 → (-2147483648) ≤ v684 → v684 ≤ 2147483647 → 0 ≤ v687 → v687 ≤ 47 → Wp B (d + 3) 14 29 [some (R 0), some (I p1), some (I p2), some (R v33), some (I v684), some (I v687), none, none] [] M690 Q := by
      refine lp_ind ?_
      intro k755 ih755 M690 v684 v687 hk755 hP691 hF692 e693 h685 h686 h688 h689
      refine wk_il5 r14_29 (wk_al0 r14_31 (wk_getfr r14_32 fd_0_6 (br_0_6 hP691) (wk_getfb r14_35 fd_10_10 (bf_10_10 hP691) ?_)))
      intro v694 h696 h697 e695
      refine wk_icge r14_38 ⟨by omega, by omega⟩ ⟨by omega, by omega⟩ ?_ ?_
      · intro h698
        refine wk_il4 r14_100 ?_
        subst hQ; exact wk_iret r14_102 (Or.inr ⟨rfl, _, rfl, hP691, hF692, by omega, by omega⟩)
      · intro h699
        refine wk_al0 r14_41 (wk_getfr r14_42 fd_0_6 (br_0_6 hP691) (wk_al0 r14_45 (wk_getfr r14_46 fd_0_8 (br_0_8 hP691) (wk_il2 r14_49 (wk_caldb r14_50 ar_168 ⟨by omega, by omega⟩ (fun q0 q1 => ba_168 hP691 q0 q1) ?_)))))
        intro v700 e701
        have hC702 : isC v700 := Or.inr (by omega)
        refine wk_il5 r14_51 (wk_cv3 r14_53 kc_10_207 rfl (m207_10v8 _ M690 v700 v687 hP691 hC702 (by omega) (by omega)) (cqL ?_))
        rintro n707 M703 ⟨hP704, hQ705, h708⟩
        have hF706 : Fr fm_m14_0 M0 M703 := hF692.tr hQ705 rfl
        refine wk_ls6 r14_56 rfl (wk_il4 r14_58 (wk_al3 r14_60 (wk_il5 r14_61 (wk_laldb r14_63 (arF_155 (by omega) (by omega)) ⟨by omega, by omega⟩ (fun q0 q1 => baF_155 hP704 (by omega) (by omega) q0 q1) (by decide) ?_))))
        intro n709 h711 h712 e710
        refine wk_il1 r14_64 (wk_c1 r14_65 ?_)
        refine wk_icne r14_66 ⟨by omega, by omega⟩ (by decide) ?_ ?_
        · intro h713
          refine wk_al0 r14_74 (wk_getfr r14_75 fd_0_6 (br_0_6 hP704) (wk_il1 r14_78 (wk_c1 r14_79 (wk_ll6 r14_80 (wk_il5 r14_82 (wk_cv5 r14_84 kc_10_189 rfl (m189_10v8 _ M703 p1 (-1) n707 v687 hP704 (by omega) (by omega) (by decide) (by decide) (by omega) (by omega) (by omega)) (cqL ?_)))))))
          rintro n718 M714 ⟨hP715, hQ716, h719⟩
          obtain rfl := Fr.same hQ716
          refine wk_land r14_87 ?_
          intro n720 h721 h722 h723 h724
          refine wk_cs102_1 r14_88 rfl (m245 _ M703 n720 hP704 (by omega)) (cqI ?_)
          rintro v730 M725 ⟨hP726, hQ727, h731, h732, xh729⟩
          obtain rfl := Fr.same hQ727
          refine wk_iadd r14_91 (wk_wrap ?_)
          intro v733 h734 h735 h736
          refine wk_is4 r14_92 rfl (wk_inc5 r14_94 rfl (wk_goto r14_97 ?_))
          exact wp_fg (le_s (le_s (le_s (le_s (le_s (le_s (le_n (le_s le_0)))))))) (ih755 (47 - (v687 + 1)).toNat (by omega) M703 v733 (v687 + 1) rfl hP704 hF706 ((hQ705.at g_0_9 rfl).trans e693) (by omega) (by omega) (by omega) (by omega))
        · intro h737
          refine wk_ll6 r14_69 (wk_goto r14_71 (wk_land r14_87 ?_))
          intro n738 h739 h740 h741 h742
          refine wk_cs102_1 r14_88 rfl (m245 _ M703 n738 hP704 (by omega)) (cqI ?_)
          rintro v748 M743 ⟨hP744, hQ745, h749, h750, xh747⟩
          obtain rfl := Fr.same hQ745
          refine wk_iadd r14_91 (wk_wrap ?_)
          intro v751 h752 h753 h754
          refine wk_is4 r14_92 rfl (wk_inc5 r14_94 rfl (wk_goto r14_97 ?_))
          exact wp_fg (le_s (le_s (le_s (le_s (le_s (le_s (le_n (le_s le_0)))))))) (ih755 (47 - (v687 + 1)).toNat (by omega) M703 v751 (v687 + 1) rfl hP704 hF706 ((hQ705.at g_0_9 rfl).trans e693) (by omega) (by omega) (by omega) (by omega))
    exact wp_fg (le_s (le_s (le_s (le_s (le_s (le_s (le_s (le_s le_0)))))))) (c29_755 _ M0 0 0 rfl hP0 hF0 e27 (by omega) (by omega) (by omega) (by omega))
  refine wk_iceq r14_2 ⟨by omega, by omega⟩ (by decide) ?_ ?_
  · intro h1
    exact wp_fg (le_s (le_s (le_s (le_s (le_s (le_s (le_s (le_s le_0)))))))) (c10_756 (by omega) (by omega))
  · intro h2
    refine wk_al0 r14_5 (wk_il1 r14_6 (wk_cv2 r14_7 kc_0_30 rfl (m30_0 _ M0 p1 hP0 (by omega) (by omega)) (cqX (fun _ _ x7 => by subst hQ; exact Or.inl ⟨rfl, x7.1, Fr.trx hF0 x7.2.1 rfl, (by rw [x7.2.2, hF0.at g_below rfl])⟩) (cqV ?_))))
    rintro M3 ⟨hP4, hQ5, h10, h11⟩
    obtain rfl := Fr.same hQ5
    obtain ⟨v12, e13⟩ : ∃ v, M0 2 1 = v := ⟨_, rfl⟩
    have h14 := bf_2_1 hP0; rw [e13] at h14
    exact wp_fg (le_s (le_s (le_s (le_s (le_s (le_s (le_s (le_s le_0)))))))) (c10_756 (by omega) (by omega))
def fm_m225_138v6 : Nat := 0
/-- IslandHall$Tale.bars -/
theorem m225_138v6 {B : eB} (d : Nat) (M0 : Mm) (p1 : Int) (hP0 : Pw M0) (l1 : 0 ≤ p1) (u1 : p1 ≤ 11) : Ct B (d + 1) 225 [R 138, I p1] M0 (qI fun z M => Pw M ∧ Fr fm_m225_138v6 M0 M ∧ 0 ≤ z ∧ z ≤ 1) := by
  refine ct_of (d := d + 0) (k := 4) (L := [some (R 138), some (I p1), none, none, none, none]) rfl rfl rfl ?_
  have hF0 := Fr.rf fm_m225_138v6 M0
  generalize hQ : (qI fun z M => Pw M ∧ Fr fm_m225_138v6 M0 M ∧ 0 ≤ z ∧ z ≤ 1) = Q
  refine wk_c1 r225_0 (wk_is2 r225_1 rfl ?_)
  have c2_805 : ∀ (k805 : Nat) (v747 : Int), (47 - v747).toNat = k805 → 0 ≤ v747 → v747 ≤ 47 → Wp B (d + 0) 225 2 [some (R 138), some (I p1), some (I v747), none, none, none] [] M0 Q := by
    refine lp_ind ?_
    intro k805 ih805 v747 hk805 h748 h749
    refine wk_il2 r225_2 (wk_al0 r225_3 (wk_getfr r225_4 fd_138_0 (br_138_0 hP0) (wk_getfb r225_7 fd_10_10 (bf_10_10 hP0) ?_)))
    intro v750 h752 h753 e751
    refine wk_icge r225_10 ⟨by omega, by omega⟩ ⟨by omega, by omega⟩ ?_ ?_
    · intro h754
      refine wk_c1 r225_85 ?_
      subst hQ; exact wk_zret r225_86 (by decide) (⟨rfl, _, rfl, hP0, hF0, by omega, by omega⟩)
    · intro h755
      refine wk_al0 r225_13 (wk_getfr r225_14 fd_138_3 (br_138_3 hP0) (wk_c1 r225_17 (wk_raldb r225_18 ar_154 (by decide) (fun q0 q1 => ba_154 hP0 q0 q1) (wk_il2 r225_19 (wk_laldb r225_20 ar_155 ⟨by omega, by omega⟩ (fun q0 q1 => ba_155 hP0 q0 q1) (by decide) ?_)))))
      intro n756 h758 h759 e757
      refine wk_al0 r225_21 (wk_getfr r225_22 fd_138_2 (br_138_2 hP0) (wk_il1 r225_25 (wk_raldb r225_26 ar_141 ⟨by omega, by omega⟩ (fun q0 q1 => ba_141 hP0 q0 q1) (wk_il2 r225_27 (wk_laldb r225_28 (arF_142 (by omega) (by omega)) ⟨by omega, by omega⟩ (fun q0 q1 => baF_142 hP0 (by omega) (by omega) q0 q1) (by decide) ?_)))))
      intro n760 h762 h763 e761
      refine wk_c7 r225_29 (wk_lxor r225_32 ?_)
      intro n764 h765 h766
      refine wk_land r225_33 ?_
      intro n767 h768 h769 h770 h771
      refine wk_ls3 r225_34 rfl (wk_c1 r225_35 (wk_is5 r225_36 rfl ?_))
      have c38_804 : ∀ (k804 : Nat) (n772 : Nat) (v774 : Int), (12 - v774).toNat = k804 → n772 < 18446744073709551616 → 0 ≤ v774 → v774 ≤ 12 → Wp B (d + 0) 225 38 [some (R 138), some (I p1), some (I v747), some (J n772), none, some (I v774)] [] M0 Q := by
        refine lp_ind ?_
        intro k804 ih804 n772 v774 hk804 h773 h775 h776
        refine wk_il5 r225_38 (wk_al0 r225_40 (wk_getfb r225_41 fd_138_5 (bf_138_5 hP0) ?_))
        intro v777 h779 h780 e778
        refine wk_icge r225_44 ⟨by omega, by omega⟩ ⟨by omega, by omega⟩ ?_ ?_
        · intro h781
          refine wk_ll3 r225_71 (wk_c6 r225_72 ?_)
          refine wk_lcmp r225_73 (by omega) (by omega) ?_ ?_
          · intro h782
            refine wk_ifeq r225_74 (by decide) ?_ ?_
            · intro h788
              refine wk_inc2 r225_79 rfl (wk_goto r225_82 ?_)
              exact wp_fg (le_s (le_s (le_s (le_n (le_s (le_n le_0)))))) (ih805 (47 - (v747 + 1)).toNat (by omega) (v747 + 1) rfl (by omega) (by omega))
            · intro h789
              exfalso
              omega
          · intro h783 v787 h784 h785 h786
            refine wk_ifeq r225_74 ⟨by omega, by omega⟩ ?_ ?_
            · intro h790
              exfalso
              omega
            · intro h791
              refine wk_c1 r225_77 ?_
              subst hQ; exact wk_zret r225_78 (by decide) (⟨rfl, _, rfl, hP0, hF0, by omega, by omega⟩)
        · intro h792
          refine wk_il5 r225_47 (wk_il1 r225_49 ?_)
          refine wk_iceq r225_50 ⟨by omega, by omega⟩ ⟨by omega, by omega⟩ ?_ ?_
          · intro h793
            refine wk_inc5 r225_65 rfl (wk_goto r225_68 ?_)
            exact wp_fg (le_s (le_s (le_s (le_s (le_s (le_s le_0)))))) (ih804 (12 - (v774 + 1)).toNat (by omega) n772 (v774 + 1) rfl (by omega) (by omega) (by omega))
          · intro h794
            refine wk_ll3 r225_53 (wk_al0 r225_54 (wk_getfr r225_55 fd_138_2 (br_138_2 hP0) (wk_il5 r225_58 (wk_raldb r225_60 ar_141 ⟨by omega, by omega⟩ (fun q0 q1 => ba_141 hP0 q0 q1) (wk_il2 r225_61 (wk_laldb r225_62 (arF_142 (by omega) (by omega)) ⟨by omega, by omega⟩ (fun q0 q1 => baF_142 hP0 (by omega) (by omega) q0 q1) (by decide) ?_))))))
            intro n795 h797 h798 e796
            refine wk_land r225_63 ?_
            intro n799 h800 h801 h802 h803
            refine wk_ls3 r225_64 rfl (wk_inc5 r225_65 rfl (wk_goto r225_68 ?_))
            exact wp_fg (le_s (le_s (le_s (le_s (le_s (le_s le_0)))))) (ih804 (12 - (v774 + 1)).toNat (by omega) n799 (v774 + 1) rfl (by omega) (by omega) (by omega))
      exact wp_fg (le_s (le_s (le_s (le_s (le_s (le_s le_0)))))) (c38_804 _ n767 0 rfl (by omega) (by omega) (by omega))
  exact wp_fg (le_s (le_s (le_s (le_s (le_s (le_s le_0)))))) (c2_805 _ 0 rfl (by omega) (by omega))
def fm_m230_138 : Nat := 0
/-- IslandHall$Tale.idle -/
theorem m230_138 {B : eB} (d : Nat) (M0 : Mm) (hP0 : Pw M0)  : Ct B (d + 2) 230 [R 138] M0 (qI fun z M => Pw M ∧ Fr fm_m230_138 M0 M ∧ 0 ≤ z ∧ z ≤ 4095) := by
  refine ct_of (d := d + 1) (k := 2) (L := [some (R 138), none, none]) rfl rfl rfl ?_
  have hF0 := Fr.rf fm_m230_138 M0
  generalize hQ : (qI fun z M => Pw M ∧ Fr fm_m230_138 M0 M ∧ 0 ≤ z ∧ z ≤ 4095) = Q
  refine wk_c1 r230_0 (wk_is1 r230_1 rfl (wk_c1 r230_2 (wk_is2 r230_3 rfl ?_)))
  have c4_310 : ∀ (k310 : Nat) (M282 : Mm) (v276 : Int) (v279 : Int), (12 - v279).toNat = k310 → Pw M282 → Fr fm_m230_138 M0 M282 → 0 ≤ v276 → v276 ≤ 4095 → 0 ≤ v279 → v279 ≤ 12 → Wp B (d + 1) 230 4 [some (R 138), some (I v276), some (I v279)] [] M282 Q := by
    refine lp_ind ?_
    intro k310 ih310 M282 v276 v279 hk310 hP283 hF284 h277 h278 h280 h281
    refine wk_il2 r230_4 (wk_al0 r230_5 (wk_getfb r230_6 fd_138_5 (bf_138_5 hP283) ?_))
    intro v285 h287 h288 e286
    refine wk_icge r230_9 ⟨by omega, by omega⟩ ⟨by omega, by omega⟩ ?_ ?_
    · intro h289
      refine wk_il1 r230_32 ?_
      subst hQ; exact wk_iret r230_33 (⟨rfl, _, rfl, hP283, hF284, by omega, by omega⟩)
    · intro h290
      refine wk_al0 r230_12 (wk_il2 r230_13 (wk_cv2 r230_14 kc_138_225 rfl (m225_138v6 _ M282 v279 hP283 (by omega) (by omega)) (cqI ?_)))
      rintro v295 M291 ⟨hP292, hQ293, h296, h297⟩
      obtain rfl := Fr.same hQ293
      refine wk_ifne r230_17 ⟨by omega, by omega⟩ ?_ ?_
      · intro h298
        refine wk_inc2 r230_26 rfl (wk_goto r230_29 ?_)
        exact wp_fg (le_s (le_s (le_s le_0))) (ih310 (12 - (v279 + 1)).toNat (by omega) M282 v276 (v279 + 1) rfl hP283 hF284 (by omega) (by omega) (by omega) (by omega))
      · intro h299
        refine wk_il1 r230_20 (wk_c1 r230_21 (wk_il2 r230_22 (wk_shl1 11 2048 r230_23 ⟨by omega, by omega⟩ ⟨pwl_11, by decide⟩ ?_)))
        intro v300 h301 h302 h303
        refine wk_ior 12 4096 r230_24 (by decide) ⟨by omega, by omega⟩ ⟨by omega, by omega⟩ ?_
        intro v304 h305 h306 h307 h308 h309
        refine wk_is1 r230_25 rfl (wk_inc2 r230_26 rfl (wk_goto r230_29 ?_))
        exact wp_fg (le_s (le_s (le_s le_0))) (ih310 (12 - (v279 + 1)).toNat (by omega) M282 v304 (v279 + 1) rfl hP283 hF284 (by omega) (by omega) (by omega) (by omega))
  exact wp_fg (le_s (le_s (le_s le_0))) (c4_310 _ M0 0 0 rfl hP0 hF0 (by omega) (by omega) (by omega) (by omega))
def fm_m32_0 : Nat := 0
/-- IslandHall.needless -/
theorem m32_0 {B : eB} (d : Nat) (M0 : Mm) (hP0 : Pw M0)  : Ct B (d + 3) 32 [R 0] M0 (qI fun z M => Pw M ∧ Fr fm_m32_0 M0 M ∧ 0 ≤ z ∧ z ≤ 4095) := by
  refine ct_of (d := d + 2) (k := 0) (L := [some (R 0)]) rfl rfl rfl ?_
  have hF0 := Fr.rf fm_m32_0 M0
  generalize hQ : (qI fun z M => Pw M ∧ Fr fm_m32_0 M0 M ∧ 0 ≤ z ∧ z ≤ 4095) = Q
  refine wk_al0 r32_0 (wk_getfr r32_1 fd_0_7 (br_0_7 hP0) (wk_cv1 r32_4 kc_138_230 rfl (m230_138 _ M0 hP0) (cqI ?_)))
  rintro v5 M1 ⟨hP2, hQ3, h6, h7⟩
  obtain rfl := Fr.same hQ3
  subst hQ; exact wk_iret r32_7 (⟨rfl, _, rfl, hP0, hF0, by omega, by omega⟩)
def fm_m215_170 : Nat := 19807040628566084398385987584
/-- IslandHall$Subsets.clear -/
theorem m215_170 {B : eB} (d : Nat) (M0 : Mm) (p1 : Int) (hP0 : Pw M0) (l1 : 0 ≤ p1) (u1 : p1 ≤ 12) : Ct B (d + 1) 215 [R 170, I p1] M0 (qV fun M => Pw M ∧ Fr fm_m215_170 M0 M) := by
  refine ct_of (d := d + 0) (k := 1) (L := [some (R 170), some (I p1), none]) rfl rfl rfl ?_
  have hF0 := Fr.rf fm_m215_170 M0
  generalize hQ : (qV fun M => Pw M ∧ Fr fm_m215_170 M0 M) = Q
  refine wk_c1 r215_0 (wk_is2 r215_1 rfl ?_)
  have c2_161 : ∀ (k161 : Nat) (M148 : Mm) (v145 : Int), (4096 - v145).toNat = k161 → Pw M148 → Fr fm_m215_170 M0 M148 → 0 ≤ v145 → v145 ≤ 4096 → Wp B (d + 0) 215 2 [some (R 170), some (I p1), some (I v145)] [] M148 Q := by
    refine lp_ind ?_
    intro k161 ih161 M148 v145 hk161 hP149 hF150 h146 h147
    refine wk_il2 r215_2 (wk_c1 r215_3 (wk_il1 r215_4 (wk_shl1 12 4096 r215_5 ⟨by omega, by omega⟩ ⟨pwl_12, by decide⟩ ?_)))
    intro v151 h152 h153 h154
    refine wk_icge r215_6 ⟨by omega, by omega⟩ ⟨by omega, by omega⟩ ?_ ?_
    · intro h155
      subst hQ; exact wk_ret r215_22 (⟨rfl, hP149, hF150⟩)
    · intro h156
      refine wk_al0 r215_9 (wk_getfr r215_10 fd_170_0 (br_170_0 hP149) (wk_il2 r215_13 (wk_c1 r215_14 (wk_bast r215_15 ar_171 ⟨by omega, by omega⟩ (by decide) (wk_nw (ga_171 _) rfl hP149 hF150 (ua_171 (by decide)) ?_)))))
      intro M157 hP158 hF159 e160
      refine wk_inc2 r215_16 rfl (wk_goto r215_19 ?_)
      exact wp_fg (le_s (le_s (le_s le_0))) (ih161 (4096 - (v145 + 1)).toNat (by omega) M157 (v145 + 1) rfl hP158 hF159 (by omega) (by omega))
  exact wp_fg (le_s (le_s (le_s le_0))) (c2_161 _ M0 0 rfl hP0 hF0 (by omega) (by omega))
def fm_m222_170 : Nat := 19807040628566084398385987584
/-- IslandHall$Subsets.spread -/
theorem m222_170 {B : eB} (d : Nat) (M0 : Mm) (p1 : Int) (hP0 : Pw M0) (l1 : 0 ≤ p1) (u1 : p1 ≤ 12) : Ct B (d + 1) 222 [R 170, I p1] M0 (qV fun M => Pw M ∧ Fr fm_m222_170 M0 M) := by
  refine ct_of (d := d + 0) (k := 2) (L := [some (R 170), some (I p1), none, none]) rfl rfl rfl ?_
  have hF0 := Fr.rf fm_m222_170 M0
  generalize hQ : (qV fun M => Pw M ∧ Fr fm_m222_170 M0 M) = Q
  refine wk_c1 r222_0 (wk_is2 r222_1 rfl ?_)
  have c2_684 : ∀ (k684 : Nat) (M641 : Mm) (v638 : Int), (12 - v638).toNat = k684 → Pw M641 → Fr fm_m222_170 M0 M641 → 0 ≤ v638 → v638 ≤ 12 → Wp B (d + 0) 222 2 [some (R 170), some (I p1), some (I v638), none] [] M641 Q := by
    refine lp_ind ?_
    intro k684 ih684 M641 v638 hk684 hP642 hF643 h639 h640
    refine wk_il2 r222_2 (wk_il1 r222_3 ?_)
    refine wk_icge r222_4 ⟨by omega, by omega⟩ ⟨by omega, by omega⟩ ?_ ?_
    · intro h644
      subst hQ; exact wk_ret r222_58 (⟨rfl, hP642, hF643⟩)
    · intro h645
      refine wk_c1 r222_7 (wk_is3 r222_8 rfl ?_)
      have c9_683 : ∀ (k683 : Nat) (M649 : Mm) (v646 : Int), (4096 - v646).toNat = k683 → Pw M649 → Fr fm_m222_170 M0 M649 → 0 ≤ v646 → v646 ≤ 4096 → Wp B (d + 0) 222 9 [some (R 170), some (I p1), some (I v638), some (I v646)] [] M649 Q := by
        refine lp_ind ?_
        intro k683 ih683 M649 v646 hk683 hP650 hF651 h647 h648
        refine wk_il3 r222_9 (wk_c1 r222_10 (wk_il1 r222_11 (wk_shl1 12 4096 r222_12 ⟨by omega, by omega⟩ ⟨pwl_12, by decide⟩ ?_)))
        intro v652 h653 h654 h655
        refine wk_icge r222_13 ⟨by omega, by omega⟩ ⟨by omega, by omega⟩ ?_ ?_
        · intro h656
          refine wk_inc2 r222_52 rfl (wk_goto r222_55 ?_)
          exact wp_fg (le_s (le_s (le_s (le_n le_0)))) (ih684 (12 - (v638 + 1)).toNat (by omega) M649 (v638 + 1) rfl hP650 hF651 (by omega) (by omega))
        · intro h657
          refine wk_il3 r222_16 (wk_il2 r222_17 (wk_shrb r222_18 ⟨by omega, by omega⟩ ⟨by omega, by omega⟩ ?_))
          intro v658 h659 h660 h661
          refine wk_c1 r222_19 (wk_iandc 1 2 r222_20 ⟨rfl, by decide⟩ rfl (wk_c1 r222_21 ?_))
          refine wk_icne r222_22 ⟨by omega, by omega⟩ (by decide) ?_ ?_
          · intro h663
            refine wk_inc3 r222_46 rfl (wk_goto r222_49 ?_)
            exact wp_fg (le_s (le_s (le_s (le_s le_0)))) (ih683 (4096 - (v646 + 1)).toNat (by omega) M649 (v646 + 1) rfl hP650 hF651 (by omega) (by omega))
          · intro h664
            refine wk_al0 r222_25 (wk_getfr r222_26 fd_170_0 (br_170_0 hP650) (wk_il3 r222_29 (wk_baldb r222_30 ar_171 ⟨by omega, by omega⟩ (fun q0 q1 => ba_171 hP650 q0 q1) ?_)))
            intro v665 h667 h668 e666
            refine wk_c1 r222_31 ?_
            refine wk_icne r222_32 ⟨by omega, by omega⟩ (by decide) ?_ ?_
            · intro h669
              refine wk_inc3 r222_46 rfl (wk_goto r222_49 ?_)
              exact wp_fg (le_s (le_s (le_s (le_s le_0)))) (ih683 (4096 - (v646 + 1)).toNat (by omega) M649 (v646 + 1) rfl hP650 hF651 (by omega) (by omega))
            · intro h670
              refine wk_al0 r222_35 (wk_getfr r222_36 fd_170_0 (br_170_0 hP650) (wk_il3 r222_39 (wk_c1 r222_40 (wk_il2 r222_41 (wk_shl1 11 2048 r222_42 ⟨by omega, by omega⟩ ⟨pwl_11, by decide⟩ ?_)))))
              intro v671 h672 h673 h674
              refine wk_ixor 12 4096 r222_43 (by decide) ⟨by omega, by omega⟩ ⟨by omega, by omega⟩ ?_
              intro v675 h676 h677 h678
              refine wk_c1 r222_44 (wk_bast r222_45 ar_171 ⟨by omega, by omega⟩ (by decide) (wk_nw (ga_171 _) rfl hP650 hF651 (ua_171 (by decide)) ?_))
              intro M679 hP680 hF681 e682
              refine wk_inc3 r222_46 rfl (wk_goto r222_49 ?_)
              exact wp_fg (le_s (le_s (le_s (le_s le_0)))) (ih683 (4096 - (v646 + 1)).toNat (by omega) M679 (v646 + 1) rfl hP680 hF681 (by omega) (by omega))
      exact wp_fg (le_s (le_s (le_s (le_s le_0)))) (c9_683 _ M641 0 rfl hP642 hF643 (by omega) (by omega))
  exact wp_fg (le_s (le_s (le_s (le_s le_0)))) (c2_684 _ M0 0 rfl hP0 hF0 (by omega) (by omega))
def bcF_g (p0 : Int) : Int :=
  let v1 : Int := p0 % 4294967296 / pw 1
  let v5 : Int := ((Int.toNat (v1) &&& Int.toNat (1431655765) : Nat) : Int)
  let v10 : Int := ((cd ((p0 - v5)) &&& Int.toNat (858993459) : Nat) : Int)
  let v14 : Int := (p0 - v5) % 4294967296 / pw 2
  let v18 : Int := ((Int.toNat (v14) &&& Int.toNat (858993459) : Nat) : Int)
  let v23 : Int := (v10 + v18) % 4294967296 / pw 4
  let v27 : Int := (((v10 + v18) + v23) + 2147483648) % 4294967296 - 2147483648
  let v31 : Int := ((cd (v27) &&& Int.toNat (252645135) : Nat) : Int)
  let v35 : Int := v31 % 4294967296 / pw 8
  let v39 : Int := ((v31 + v35) + 2147483648) % 4294967296 - 2147483648
  let v43 : Int := v39 % 4294967296 / pw 16
  let v47 : Int := ((v39 + v43) + 2147483648) % 4294967296 - 2147483648
  (v47 % 64)
theorem bcF_ex : ∃ f : Int → Int, ∀ p0, f p0 = bcF_g p0 := ⟨bcF_g, fun _ => rfl⟩
noncomputable def bcF : Int → Int := Classical.choose bcF_ex
theorem bcF_eq (p0 : Int) : bcF p0 = bcF_g p0 := Classical.choose_spec bcF_ex p0
theorem bcF_nn (p0 : Int) : 0 ≤ bcF p0 := by
  rw [bcF_eq]
  unfold bcF_g
  exact Int.emod_nonneg _ (by decide)
def fm_m246 : Nat := 0
/-- java/lang/Integer.bitCount -/
theorem m246 {B : eB} (d : Nat) (M0 : Mm) (p0 : Int) (hP0 : Pw M0) (l0 : 0 ≤ p0) (u0 : p0 ≤ 4095) : Ct B (d + 1) 246 [I p0] M0 (qI fun z M => Pw M ∧ Fr fm_m246 M0 M ∧ 0 ≤ z ∧ z ≤ 63 ∧ (z = bcF p0)) := by
  refine ct_of (d := d + 0) (k := 0) (L := [some (I p0)]) rfl rfl rfl ?_
  have hF0 := Fr.rf fm_m246 M0
  generalize hQ : (qI fun z M => Pw M ∧ Fr fm_m246 M0 M ∧ 0 ≤ z ∧ z ≤ 63 ∧ (z = bcF p0)) = Q
  refine wk_il0 r246_0 (wk_il0 r246_1 (wk_c1 r246_2 (wk_iushrb r246_3 (by decide) ?_)))
  intro v1 h2 h3 h4
  refine wk_c5 r246_4 (wk_iand r246_7 ⟨by omega, by omega⟩ ⟨by omega, by omega⟩ ?_)
  intro v5 h6 h7 h8 h9
  refine wk_isub r246_8 (wk_is0 r246_9 (wk_il0 r246_10 (wk_c5 r246_11 (wk_iandr r246_14 ⟨by omega, by omega⟩ ?_))))
  intro v10 h11 h12 h13
  refine wk_il0 r246_15 (wk_c1 r246_16 (wk_iushrb r246_17 (by decide) ?_))
  intro v14 h15 h16 h17
  refine wk_c5 r246_18 (wk_iand r246_21 ⟨by omega, by omega⟩ ⟨by omega, by omega⟩ ?_)
  intro v18 h19 h20 h21 h22
  refine wk_iadd r246_22 (wk_is0 r246_23 (wk_il0 r246_24 (wk_il0 r246_25 (wk_c1 r246_26 (wk_iushrb r246_27 (by decide) ?_)))))
  intro v23 h24 h25 h26
  refine wk_iadd r246_28 (wk_wrap ?_)
  intro v27 h28 h29 h30
  refine wk_c5 r246_29 (wk_iandr r246_32 ⟨by omega, by omega⟩ ?_)
  intro v31 h32 h33 h34
  refine wk_is0 r246_33 (wk_il0 r246_34 (wk_il0 r246_35 (wk_c2 r246_36 (wk_iushrb r246_38 (by decide) ?_))))
  intro v35 h36 h37 h38
  refine wk_iadd r246_39 (wk_wrap ?_)
  intro v39 h40 h41 h42
  refine wk_is0 r246_40 (wk_il0 r246_41 (wk_il0 r246_42 (wk_c2 r246_43 (wk_iushrb r246_45 (by decide) ?_))))
  intro v43 h44 h45 h46
  refine wk_iadd r246_46 (wk_wrap ?_)
  intro v47 h48 h49 h50
  refine wk_is0 r246_47 (wk_il0 r246_48 (wk_c2 r246_49 (wk_iandc 6 64 r246_51 ⟨rfl, by decide⟩ rfl ?_)))
  subst hQ; exact wk_iret r246_52 (⟨rfl, _, rfl, hP0, hF0, by omega, by omega, by rw [bcF_eq]; subst_vars; rfl⟩)
def fm_m223 : Nat := 0
/-- IslandHall$Subsets.turned -/
theorem m223 {B : eB} (d : Nat) (M0 : Mm) (p0 : Int) (p1 : Int) (hP0 : Pw M0) (l0 : 0 ≤ p0) (u0 : p0 ≤ 4095) (l1 : 0 ≤ p1) (u1 : p1 ≤ 12) : Ct B (d + 1) 223 [I p0, I p1] M0 (qI fun z M => Pw M ∧ Fr fm_m223 M0 M ∧ 0 ≤ z ∧ z ≤ 4095) := by
  refine ct_of (d := d + 0) (k := 2) (L := [some (I p0), some (I p1), none, none]) rfl rfl rfl ?_
  have hF0 := Fr.rf fm_m223 M0
  have hpw0 := pwl_0
  generalize hQ : (qI fun z M => Pw M ∧ Fr fm_m223 M0 M ∧ 0 ≤ z ∧ z ≤ 4095) = Q
  refine wk_c1 r223_0 (wk_is2 r223_1 rfl (wk_c1 r223_2 (wk_is3 r223_3 rfl ?_)))
  have c4_191 : ∀ (k191 : Nat) (v172 : Int) (v175 : Int), (12 - v175).toNat = k191 → 0 ≤ v172 → v172 ≤ 8191 → 0 ≤ v175 → v175 ≤ 12 → 0 ≤ pw v175 + (-1) * v172 + (-1) → Wp B (d + 0) 223 4 [some (I p0), some (I p1), some (I v172), some (I v175)] [] M0 Q := by
    refine lp_ind ?_
    intro k191 ih191 v172 v175 hk191 h173 h174 h176 h177 h178
    have h179 := pw_le (k := v175) (K := 12) (by omega)
    have h180 := pwl_12
    refine wk_il3 r223_4 (wk_il1 r223_5 ?_)
    refine wk_icge r223_6 ⟨by omega, by omega⟩ ⟨by omega, by omega⟩ ?_ ?_
    · intro h181
      have h182 := pw_le (k := v175) (K := 12) (by omega)
      have h183 := pwl_12
      refine wk_il2 r223_25 ?_
      subst hQ; exact wk_iret r223_26 (⟨rfl, _, rfl, hP0, hF0, by omega, by omega⟩)
    · intro h184
      have h185 := pw_succ (k := v175) (by omega)
      refine wk_c1 r223_9 (wk_il2 r223_10 (wk_imul r223_11 (wk_il0 r223_12 (wk_il3 r223_13 (wk_shrb r223_14 ⟨by omega, by omega⟩ ⟨by omega, by omega⟩ ?_)))))
      intro v186 h187 h188 h189
      refine wk_c1 r223_15 (wk_iandc 1 2 r223_16 ⟨rfl, by decide⟩ rfl (wk_iadd r223_17 (wk_is2 r223_18 rfl (wk_inc3 r223_19 rfl (wk_goto r223_22 ?_)))))
      exact wp_fg (le_s (le_s (le_s (le_s le_0)))) (ih191 (12 - (v175 + 1)).toNat (by omega) ((2 * v172) + (v186 % 2)) (v175 + 1) rfl (by omega) (by omega) (by omega) (by omega) (by omega))
  exact wp_fg (le_s (le_s (le_s (le_s le_0)))) (c4_191 _ 0 0 rfl (by omega) (by omega) (by omega) (by omega) (by omega))
def fm_m191_f142v8 : Nat := 0
/-- IslandHall$Realm.holds -/
theorem m191_f142v8 {B : eB} (d : Nat) (M0 : Mm) (a0 : Int) (p1 : Int) (hP0 : Pw M0) (ha0 : 142 ≤ a0) (hb0 : a0 ≤ 153) (l1 : 0 ≤ p1) (u1 : p1 ≤ 2999) : Ct B (d + 1) 191 [R a0, I p1] M0 (qI fun z M => Pw M ∧ Fr fm_m191_f142v8 M0 M ∧ 0 ≤ z ∧ z ≤ 1) := by
  refine ct_of (d := d + 0) (k := 0) (L := [some (R a0), some (I p1)]) rfl rfl rfl ?_
  have hF0 := Fr.rf fm_m191_f142v8 M0
  generalize hQ : (qI fun z M => Pw M ∧ Fr fm_m191_f142v8 M0 M ∧ 0 ≤ z ∧ z ≤ 1) = Q
  refine wk_al0 r191_0 (wk_il1 r191_1 (wk_c2 r191_2 (wk_ishrc r191_4 ⟨by omega, by omega⟩ (by decide) pwl_6 (wk_laldb r191_5 (arF_142 (by omega) (by omega)) ⟨by omega, by omega⟩ (fun q0 q1 => baF_142 hP0 (by omega) (by omega) q0 q1) (by decide) ?_))))
  intro n2 h4 h5 e3
  refine wk_il1 r191_6 (wk_c2 r191_7 (wk_iandc 6 64 r191_9 ⟨rfl, by decide⟩ rfl (wk_lushrb r191_10 (by omega) ⟨by omega, by omega⟩ ?_)))
  intro n6 h7 h8
  refine wk_c6 r191_11 (wk_land r191_12 ?_)
  intro n9 h10 h11 h12 h13
  refine wk_c6 r191_13 ?_
  refine wk_lcmp r191_14 (by omega) (by omega) ?_ ?_
  · intro h14
    refine wk_ifne r191_15 (by decide) ?_ ?_
    · intro h20
      exfalso
      omega
    · intro h21
      refine wk_c1 r191_18 (wk_goto r191_19 ?_)
      subst hQ; exact wk_zret r191_23 (by decide) (⟨rfl, _, rfl, hP0, hF0, by omega, by omega⟩)
  · intro h15 v19 h16 h17 h18
    refine wk_ifne r191_15 ⟨by omega, by omega⟩ ?_ ?_
    · intro h22
      refine wk_c1 r191_22 ?_
      subst hQ; exact wk_zret r191_23 (by decide) (⟨rfl, _, rfl, hP0, hF0, by omega, by omega⟩)
    · intro h23
      exfalso
      omega
def fm_m228_138v8 : Nat := 0
/-- IslandHall$Tale.fitOf -/
theorem m228_138v8 {B : eB} (d : Nat) (M0 : Mm) (p1 : Int) (hP0 : Pw M0) (l1 : 0 ≤ p1) (u1 : p1 ≤ 2999) : Ct B (d + 2) 228 [R 138, I p1] M0 (qI fun z M => Pw M ∧ Fr fm_m228_138v8 M0 M ∧ 0 ≤ z ∧ z ≤ 4095) := by
  refine ct_of (d := d + 1) (k := 2) (L := [some (R 138), some (I p1), none, none]) rfl rfl rfl ?_
  have hF0 := Fr.rf fm_m228_138v8 M0
  have hpw0 := pwl_0
  generalize hQ : (qI fun z M => Pw M ∧ Fr fm_m228_138v8 M0 M ∧ 0 ≤ z ∧ z ≤ 4095) = Q
  refine wk_c1 r228_0 (wk_is2 r228_1 rfl (wk_c1 r228_2 (wk_is3 r228_3 rfl ?_)))
  have c4_301 : ∀ (k301 : Nat) (M277 : Mm) (v271 : Int) (v274 : Int), (12 - v274).toNat = k301 → Pw M277 → Fr fm_m228_138v8 M0 M277 → 0 ≤ v271 → v271 ≤ 8191 → 0 ≤ v274 → v274 ≤ 12 → 0 ≤ pw v274 + (-1) * v271 + (-1) → Wp B (d + 1) 228 4 [some (R 138), some (I p1), some (I v271), some (I v274)] [] M277 Q := by
    refine lp_ind ?_
    intro k301 ih301 M277 v271 v274 hk301 hP278 hF279 h272 h273 h275 h276 h280
    have h281 := pw_le (k := v274) (K := 12) (by omega)
    have h282 := pwl_12
    refine wk_il3 r228_4 (wk_al0 r228_5 (wk_getfb r228_6 fd_138_5 (bf_138_5 hP278) ?_))
    intro v283 h285 h286 e284
    refine wk_icge r228_9 ⟨by omega, by omega⟩ ⟨by omega, by omega⟩ ?_ ?_
    · intro h287
      have h288 := pw_le (k := v274) (K := 12) (by omega)
      have h289 := pwl_12
      refine wk_il2 r228_41 ?_
      subst hQ; exact wk_iret r228_42 (⟨rfl, _, rfl, hP278, hF279, by omega, by omega⟩)
    · intro h290
      have h291 := pw_succ (k := v274) (by omega)
      refine wk_c1 r228_12 (wk_il2 r228_13 (wk_imul r228_14 (wk_al0 r228_15 (wk_getfr r228_16 fd_138_2 (br_138_2 hP278) (wk_il3 r228_19 (wk_raldb r228_20 ar_141 ⟨by omega, by omega⟩ (fun q0 q1 => ba_141 hP278 q0 q1) (wk_il1 r228_21 (wk_cs102_2 r228_22 rfl (m191_f142v8 _ M277 (142 + v274) p1 hP278 (by omega) (by omega) (by omega) (by omega)) (cqI ?_)))))))))
      rintro v296 M292 ⟨hP293, hQ294, h297, h298⟩
      obtain rfl := Fr.same hQ294
      refine wk_ifeq r228_25 ⟨by omega, by omega⟩ ?_ ?_
      · intro h299
        refine wk_c1 r228_32 (wk_iadd r228_33 (wk_is2 r228_34 rfl (wk_inc3 r228_35 rfl (wk_goto r228_38 ?_))))
        exact wp_fg (le_s (le_s (le_s (le_s le_0)))) (ih301 (12 - (v274 + 1)).toNat (by omega) M277 ((2 * v271) + 0) (v274 + 1) rfl hP278 hF279 (by omega) (by omega) (by omega) (by omega) (by omega))
      · intro h300
        refine wk_c1 r228_28 (wk_goto r228_29 (wk_iadd r228_33 (wk_is2 r228_34 rfl (wk_inc3 r228_35 rfl (wk_goto r228_38 ?_)))))
        exact wp_fg (le_s (le_s (le_s (le_s le_0)))) (ih301 (12 - (v274 + 1)).toNat (by omega) M277 ((2 * v271) + 1) (v274 + 1) rfl hP278 hF279 (by omega) (by omega) (by omega) (by omega) (by omega))
  exact wp_fg (le_s (le_s (le_s (le_s le_0)))) (c4_301 _ M0 0 0 rfl hP0 hF0 (by omega) (by omega) (by omega) (by omega) (by omega))
def fm_m221_170_138 : Nat := 19811876331844542915084812288
/-- IslandHall$Subsets.leastThatTells -/
theorem m221_170_138 {B : eB} (d : Nat) (M0 : Mm) (p2 : Int) (hP0 : Pw M0) (l2 : 0 ≤ p2) (u2 : p2 ≤ 3) : Ct B (d + 4) 221 [R 170, R 138, I p2] M0 (qI fun z M => Pw M ∧ Fr fm_m221_170_138 M0 M ∧ 0 ≤ z ∧ z ≤ 4095) := by
  refine ct_of (d := d + 3) (k := 3) (L := [some (R 170), some (R 138), some (I p2), none, none, none]) rfl rfl rfl ?_
  have hF0 := Fr.rf fm_m221_170_138 M0
  generalize hQ : (qI fun z M => Pw M ∧ Fr fm_m221_170_138 M0 M ∧ 0 ≤ z ∧ z ≤ 4095) = Q
  refine wk_al1 r221_0 (wk_getfr r221_1 fd_138_0 (br_138_0 hP0) (wk_as3 r221_4 rfl (wk_al1 r221_5 (wk_il2 r221_6 (wk_cv2 r221_7 kc_138_234 rfl (m234_138 _ M0 p2 hP0 (by omega) (by omega)) (cqI ?_))))))
  rintro v5 M1 ⟨hP2, hQ3, h6, h7⟩
  have hF4 : Fr fm_m221_170_138 M0 M1 := hF0.tr hQ3 rfl
  refine wk_popi r221_10 (wk_al0 r221_11 (wk_al1 r221_12 (wk_getfb r221_13 fd_138_5 (bf_138_5 hP2) ?_)))
  intro v8 h10 h11 e9
  refine wk_cv2 r221_16 kc_170_215 rfl (m215_170 _ M1 v8 hP2 (by omega) (by omega)) (cqV ?_)
  rintro M12 ⟨hP13, hQ14⟩
  have hF15 : Fr fm_m221_170_138 M0 M12 := hF4.tr hQ14 rfl
  refine wk_c1 r221_19 (wk_is4 r221_20 rfl ?_)
  have c22_1085 : ∀ (k1085 : Nat) (M985 : Mm) (v982 : Int), (3000 - v982).toNat = k1085 → Pw M985 → Fr fm_m221_170_138 M0 M985 → M985 138 5 = v8 → 0 ≤ v982 → v982 ≤ 3000 → Wp B (d + 3) 221 22 [some (R 170), some (R 138), some (I p2), some (R 10), some (I v982), none] [] M985 Q := by
    refine lp_ind ?_
    intro k1085 ih1085 M985 v982 hk1085 hP986 hF987 e988 h983 h984
    refine wk_il4 r221_22 (wk_al3 r221_24 (wk_getfb r221_25 fd_10_9 (bf_10_9 hP986) ?_))
    intro v989 h991 h992 e990
    refine wk_icge r221_28 ⟨by omega, by omega⟩ ⟨by omega, by omega⟩ ?_ ?_
    · intro h993
      refine wk_al0 r221_71 (wk_al1 r221_72 (wk_getfi r221_73 fd_138_5 e988 (wk_cv2 r221_76 kc_170_222 rfl (m222_170 _ M985 v8 hP986 (by omega) (by omega)) (cqV ?_))))
      rintro M994 ⟨hP995, hQ996⟩
      have hF997 : Fr fm_m221_170_138 M0 M994 := hF987.tr hQ996 rfl
      refine wk_c1 r221_79 (wk_al1 r221_80 (wk_getfi r221_81 fd_138_5 ((hQ996.at g_138_5 rfl).trans e988) (wk_shl1 12 4096 r221_84 ⟨by omega, by omega⟩ ⟨pwl_12, by decide⟩ ?_)))
      intro v998 h999 h1000 h1001
      refine wk_c1 r221_85 (wk_isub r221_86 (wk_is4 r221_87 rfl (wk_il4 r221_89 (wk_is5 r221_91 rfl ?_))))
      have c93_1047 : ∀ (k1047 : Nat) (M1008 : Mm) (v1002 : Int) (v1005 : Int), (v1005 - (-1)).toNat = k1047 → Pw M1008 → Fr fm_m221_170_138 M0 M1008 → M1008 138 5 = v8 → M1008 10 9 = v989 → 0 ≤ v1002 → v1002 ≤ 4095 → (-1) ≤ v1005 → v1005 ≤ 4095 → 0 ≤ (-1) * v1005 + v1002 + 0 → Wp B (d + 3) 221 93 [some (R 170), some (R 138), none, none, some (I v1002), some (I v1005)] [] M1008 Q := by
        refine lp_ind ?_
        intro k1047 ih1047 M1008 v1002 v1005 hk1047 hP1009 hF1010 e1011 e1012 h1003 h1004 h1006 h1007 h1013
        refine wk_il5 r221_93 ?_
        refine wk_iflt r221_95 ⟨by omega, by omega⟩ ?_ ?_
        · intro h1014
          refine wk_il4 r221_131 (wk_al1 r221_133 (wk_getfi r221_134 fd_138_5 e1011 (wk_cs102_2 r221_137 rfl (m223 _ M1008 v1002 v8 hP1009 (by omega) (by omega) (by omega) (by omega)) (cqI ?_))))
          rintro v1019 M1015 ⟨hP1016, hQ1017, h1020, h1021⟩
          obtain rfl := Fr.same hQ1017
          subst hQ; exact wk_iret r221_140 (⟨rfl, _, rfl, hP1009, hF1010, by omega, by omega⟩)
        · intro h1022
          refine wk_al0 r221_98 (wk_getfr r221_99 fd_170_0 (br_170_0 hP1009) (wk_il5 r221_102 (wk_baldb r221_104 ar_171 ⟨by omega, by omega⟩ (fun q0 q1 => ba_171 hP1009 q0 q1) ?_)))
          intro v1023 h1025 h1026 e1024
          refine wk_ifne r221_105 ⟨by omega, by omega⟩ ?_ ?_
          · intro h1027
            refine wk_inc5 r221_125 rfl (wk_goto r221_128 ?_)
            exact wp_fg (le_s (le_s (le_s (le_s (le_s (le_s le_0)))))) (ih1047 ((v1005 + (-1)) - (-1)).toNat (by omega) M1008 v1002 (v1005 + (-1)) rfl hP1009 hF1010 e1011 e1012 (by omega) (by omega) (by omega) (by omega) (by omega))
          · intro h1028
            refine wk_il5 r221_108 (wk_cs102_1 r221_110 rfl (m246 _ M1008 v1005 hP1009 (by omega) (by omega)) (cqI ?_))
            rintro v1034 M1029 ⟨hP1030, hQ1031, h1035, h1036, xh1033⟩
            obtain rfl := Fr.same hQ1031
            refine wk_il4 r221_113 (wk_cs102_1 r221_115 rfl (m246 _ M1008 v1002 hP1009 (by omega) (by omega)) (cqI ?_))
            rintro v1042 M1037 ⟨hP1038, hQ1039, h1043, h1044, xh1041⟩
            obtain rfl := Fr.same hQ1039
            refine wk_icge r221_118 ⟨by omega, by omega⟩ ⟨by omega, by omega⟩ ?_ ?_
            · intro h1045
              refine wk_inc5 r221_125 rfl (wk_goto r221_128 ?_)
              exact wp_fg (le_s (le_s (le_s (le_s (le_s (le_s le_0)))))) (ih1047 ((v1005 + (-1)) - (-1)).toNat (by omega) M1008 v1002 (v1005 + (-1)) rfl hP1009 hF1010 e1011 e1012 (by omega) (by omega) (by omega) (by omega) (by omega))
            · intro h1046
              refine wk_il5 r221_121 (wk_is4 r221_123 rfl (wk_inc5 r221_125 rfl (wk_goto r221_128 ?_)))
              exact wp_fg (le_s (le_s (le_s (le_s (le_s (le_s le_0)))))) (ih1047 ((v1005 + (-1)) - (-1)).toNat (by omega) M1008 v1005 (v1005 + (-1)) rfl hP1009 hF1010 e1011 e1012 (by omega) (by omega) (by omega) (by omega) (by omega))
      exact wp_fg (le_s (le_s (le_n (le_n (le_s (le_s le_0)))))) (c93_1047 _ M994 (v998 - 1) (v998 - 1) rfl hP995 hF997 ((hQ996.at g_138_5 rfl).trans e988) ((hQ996.at g_10_9 rfl).trans e990) (by omega) (by omega) (by omega) (by omega) (by omega))
    · intro h1048
      refine wk_al1 r221_31 (wk_cv1 r221_32 kc_138_233 rfl (m233_138 _ M985 hP986) (cqR ?_))
      rintro v1053 M1049 ⟨hP1050, hQ1051, h1054, h1055⟩
      obtain rfl : v1053 = 155 := by omega
      obtain rfl := Fr.same hQ1051
      refine wk_il4 r221_35 (wk_cs102_2 r221_37 rfl (m191_f155v8 _ M985 155 v982 hP986 (by omega) (by omega) (by omega) (by omega)) (cqI ?_))
      rintro v1060 M1056 ⟨hP1057, hQ1058, h1061, h1062⟩
      obtain rfl := Fr.same hQ1058
      refine wk_ifeq r221_40 ⟨by omega, by omega⟩ ?_ ?_
      · intro h1063
        refine wk_inc4 r221_65 rfl (wk_goto r221_68 ?_)
        exact wp_fg (le_s (le_s (le_s (le_s (le_s (le_s le_0)))))) (ih1085 (3000 - (v982 + 1)).toNat (by omega) M985 (v982 + 1) rfl hP986 hF987 e988 (by omega) (by omega))
      · intro h1064
        refine wk_al1 r221_43 (wk_il4 r221_44 (wk_il2 r221_46 (wk_cv3 r221_47 kc_138_232 rfl (m232_138v8 _ M985 v982 p2 hP986 (by omega) (by omega) (by omega) (by omega)) (cqI ?_))))
        rintro v1069 M1065 ⟨hP1066, hQ1067, h1070, h1071⟩
        obtain rfl := Fr.same hQ1067
        refine wk_ifne r221_50 ⟨by omega, by omega⟩ ?_ ?_
        · intro h1072
          refine wk_inc4 r221_65 rfl (wk_goto r221_68 ?_)
          exact wp_fg (le_s (le_s (le_s (le_s (le_s (le_s le_0)))))) (ih1085 (3000 - (v982 + 1)).toNat (by omega) M985 (v982 + 1) rfl hP986 hF987 e988 (by omega) (by omega))
        · intro h1073
          refine wk_al0 r221_53 (wk_getfr r221_54 fd_170_0 (br_170_0 hP986) (wk_al1 r221_57 (wk_il4 r221_58 (wk_cv2 r221_60 kc_138_228 rfl (m228_138v8 _ M985 v982 hP986 (by omega) (by omega)) (cqI ?_)))))
          rintro v1078 M1074 ⟨hP1075, hQ1076, h1079, h1080⟩
          obtain rfl := Fr.same hQ1076
          refine wk_c1 r221_63 (wk_bast r221_64 ar_171 ⟨by omega, by omega⟩ (by decide) (wk_nw (ga_171 _) rfl hP986 hF987 (ua_171 (by decide)) ?_))
          intro M1081 hP1082 hF1083 e1084
          refine wk_inc4 r221_65 rfl (wk_goto r221_68 ?_)
          exact wp_fg (le_s (le_s (le_s (le_s (le_s (le_s le_0)))))) (ih1085 (3000 - (v982 + 1)).toNat (by omega) M1081 (v982 + 1) rfl hP1082 hF1083 (mUp_no e1084 e988 (Or.inl (by decide))) (by omega) (by omega))
  exact wp_fg (le_s (le_s (le_s (le_s (le_s (le_s le_0)))))) (c22_1085 _ M12 0 rfl hP13 hF15 ((hQ14.at g_138_5 rfl).trans e9) (by omega) (by omega))
def fm_m16_0 : Nat := 19811876331844542915084812288
/-- IslandHall.enough -/
theorem m16_0 {B : eB} (d : Nat) (M0 : Mm) (p1 : Int) (hP0 : Pw M0) (l1 : (-2147483648) ≤ p1) (u1 : p1 ≤ 2147483647) : Ct B (d + 5) 16 [R 0, I p1] M0 (qX 0 (fun M => Pw M ∧ Fr (fm_m16_0 ||| 1) M0 M ∧ M (-1) 0 = M0 (-1) 0 + 1) (qI fun z M => Pw M ∧ Fr fm_m16_0 M0 M ∧ 0 ≤ z ∧ z ≤ 4095)) := by
  refine ct_of (d := d + 4) (k := 0) (L := [some (R 0), some (I p1)]) rfl rfl rfl ?_
  have hF0 := Fr.rf fm_m16_0 M0
  generalize hQ : (qX 0 (fun M => Pw M ∧ Fr (fm_m16_0 ||| 1) M0 M ∧ M (-1) 0 = M0 (-1) 0 + 1) (qI fun z M => Pw M ∧ Fr fm_m16_0 M0 M ∧ 0 ≤ z ∧ z ≤ 4095)) = Q
  refine wk_il1 r16_0 (wk_cs102_1 r16_1 rfl (m29 _ M0 p1 hP0 (by omega) (by omega)) (cqX (fun _ _ x5 => by subst hQ; exact Or.inl ⟨rfl, x5.1, Fr.trx hF0 x5.2.1 rfl, (by rw [x5.2.2, hF0.at g_below rfl])⟩) (cqV ?_)))
  rintro M1 ⟨hP2, hQ3, h8, h9⟩
  obtain rfl := Fr.same hQ3
  refine wk_al0 r16_4 (wk_getfr r16_5 fd_0_12 (br_0_12 hP0) (wk_al0 r16_8 (wk_getfr r16_9 fd_0_7 (br_0_7 hP0) (wk_il1 r16_12 (wk_cv3 r16_13 kc_170_221 rfl (m221_170_138 _ M0 p1 hP0 (by omega) (by omega)) (cqI ?_))))))
  rintro v14 M10 ⟨hP11, hQ12, h15, h16⟩
  have hF13 : Fr fm_m16_0 M0 M10 := hF0.tr hQ12 rfl
  subst hQ; exact wk_iret r16_16 (Or.inr ⟨rfl, _, rfl, hP11, hF13, by omega, by omega⟩)
def fm_m220_170 : Nat := 0
/-- IslandHall$Subsets.isKnot -/
theorem m220_170 {B : eB} (d : Nat) (M0 : Mm) (p1 : Int) (p2 : Int) (hP0 : Pw M0) (l1 : 0 ≤ p1) (u1 : p1 ≤ 4095) (l2 : 0 ≤ p2) (u2 : p2 ≤ 12) : Ct B (d + 1) 220 [R 170, I p1, I p2] M0 (qI fun z M => Pw M ∧ Fr fm_m220_170 M0 M ∧ 0 ≤ z ∧ z ≤ 1) := by
  refine ct_of (d := d + 0) (k := 1) (L := [some (R 170), some (I p1), some (I p2), none]) rfl rfl rfl ?_
  have hF0 := Fr.rf fm_m220_170 M0
  generalize hQ : (qI fun z M => Pw M ∧ Fr fm_m220_170 M0 M ∧ 0 ≤ z ∧ z ≤ 1) = Q
  refine wk_al0 r220_0 (wk_getfr r220_1 fd_170_0 (br_170_0 hP0) (wk_il1 r220_4 (wk_baldb r220_5 ar_171 ⟨by omega, by omega⟩ (fun q0 q1 => ba_171 hP0 q0 q1) ?_)))
  intro v1 h3 h4 e2
  refine wk_c1 r220_6 ?_
  refine wk_icne r220_7 ⟨by omega, by omega⟩ (by decide) ?_ ?_
  · intro h5
    refine wk_c1 r220_12 (wk_is3 r220_13 rfl ?_)
    have c14_214 : ∀ (k214 : Nat) (v188 : Int), (12 - v188).toNat = k214 → 0 ≤ v188 → v188 ≤ 12 → Wp B (d + 0) 220 14 [some (R 170), some (I p1), some (I p2), some (I v188)] [] M0 Q := by
      refine lp_ind ?_
      intro k214 ih214 v188 hk214 h189 h190
      refine wk_il3 r220_14 (wk_il2 r220_15 ?_)
      refine wk_icge r220_16 ⟨by omega, by omega⟩ ⟨by omega, by omega⟩ ?_ ?_
      · intro h191
        refine wk_c1 r220_49 ?_
        subst hQ; exact wk_zret r220_50 (by decide) (⟨rfl, _, rfl, hP0, hF0, by omega, by omega⟩)
      · intro h192
        refine wk_il1 r220_19 (wk_il3 r220_20 (wk_shrb r220_21 ⟨by omega, by omega⟩ ⟨by omega, by omega⟩ ?_))
        intro v193 h194 h195 h196
        refine wk_c1 r220_22 (wk_iandc 1 2 r220_23 ⟨rfl, by decide⟩ rfl (wk_c1 r220_24 ?_))
        refine wk_icne r220_25 ⟨by omega, by omega⟩ (by decide) ?_ ?_
        · intro h198
          refine wk_inc3 r220_43 rfl (wk_goto r220_46 ?_)
          exact wp_fg (le_s (le_s (le_s (le_s le_0)))) (ih214 (12 - (v188 + 1)).toNat (by omega) (v188 + 1) rfl (by omega) (by omega))
        · intro h199
          refine wk_al0 r220_28 (wk_getfr r220_29 fd_170_0 (br_170_0 hP0) (wk_il1 r220_32 (wk_c1 r220_33 (wk_il3 r220_34 (wk_shl1 11 2048 r220_35 ⟨by omega, by omega⟩ ⟨pwl_11, by decide⟩ ?_)))))
          intro v200 h201 h202 h203
          refine wk_ixor 12 4096 r220_36 (by decide) ⟨by omega, by omega⟩ ⟨by omega, by omega⟩ ?_
          intro v204 h205 h206 h207
          refine wk_baldb r220_37 ar_171 ⟨by omega, by omega⟩ (fun q0 q1 => ba_171 hP0 q0 q1) ?_
          intro v208 h210 h211 e209
          refine wk_ifne r220_38 ⟨by omega, by omega⟩ ?_ ?_
          · intro h212
            refine wk_inc3 r220_43 rfl (wk_goto r220_46 ?_)
            exact wp_fg (le_s (le_s (le_s (le_s le_0)))) (ih214 (12 - (v188 + 1)).toNat (by omega) (v188 + 1) rfl (by omega) (by omega))
          · intro h213
            refine wk_c1 r220_41 ?_
            subst hQ; exact wk_zret r220_42 (by decide) (⟨rfl, _, rfl, hP0, hF0, by omega, by omega⟩)
    exact wp_fg (le_s (le_s (le_s (le_s le_0)))) (c14_214 _ 0 rfl (by omega) (by omega))
  · intro h215
    refine wk_c1 r220_10 ?_
    subst hQ; exact wk_zret r220_11 (by decide) (⟨rfl, _, rfl, hP0, hF0, by omega, by omega⟩)
def fm_m218_170 : Nat := 123794003928538027489912422400
/-- IslandHall$Subsets.gatherKnots -/
theorem m218_170 {B : eB} (d : Nat) (M0 : Mm) (p1 : Int) (hP0 : Pw M0) (l1 : 0 ≤ p1) (u1 : p1 ≤ 12) : Ct B (d + 2) 218 [R 170, I p1] M0 (qV fun M => Pw M ∧ Fr fm_m218_170 M0 M) := by
  refine ct_of (d := d + 1) (k := 3) (L := [some (R 170), some (I p1), none, none, none]) rfl rfl rfl ?_
  have hF0 := Fr.rf fm_m218_170 M0
  generalize hQ : (qV fun M => Pw M ∧ Fr fm_m218_170 M0 M) = Q
  refine wk_c1 r218_0 (wk_is2 r218_1 rfl (wk_c1 r218_2 (wk_il1 r218_3 (wk_shl1 12 4096 r218_4 ⟨by omega, by omega⟩ ⟨pwl_12, by decide⟩ ?_))))
  intro v1 h2 h3 h4
  refine wk_c1 r218_5 (wk_isub r218_6 (wk_is3 r218_7 rfl ?_))
  have c8_2711 : ∀ (k2711 : Nat) (M2579 : Mm) (v2573 : Int) (v2576 : Int), (v2576 - (-1)).toNat = k2711 → Pw M2579 → Fr fm_m218_170 M0 M2579 → 0 ≤ v2573 → v2573 ≤ 924 → (-1) ≤ v2576 → v2576 ≤ 4095 → 0 ≤ (-1) * v2576 + v2573 + 4095 → Wp B (d + 1) 218 8 [some (R 170), some (I p1), some (I v2573), some (I v2576), none] [] M2579 Q := by
    refine lp_ind ?_
    intro k2711 ih2711 M2579 v2573 v2576 hk2711 hP2580 hF2581 h2574 h2575 h2577 h2578 h2582
    refine wk_il3 r218_8 ?_
    have c44_2710 : Wp B (d + 1) 218 44 [some (R 170), some (I p1), some (I v2573), none, none] [] M2579 Q := by
      obtain ⟨u2600, hu2601⟩ : ∃ u : Int → Int, ∀ k, M2579 172 k = u k := ⟨fun k => M2579 172 k, fun k => rfl⟩
      refine wk_al0 r218_44 (wk_c1 r218_45 (wk_putfi81 r218_46 fd_170_3 (wk_nw g_170_3 rfl hP2580 hF2581 (uf_170_3 (by decide)) ?_)))
      intro M2602 hP2603 hF2604 e2605
      refine wk_c1 r218_49 (wk_is3 r218_50 rfl ?_)
      have c51_2709 : ∀ (k2709 : Nat) (M2609 : Mm) (v2606 : Int) (v2612 : Int), (13 - v2606).toNat = k2709 → Pw M2609 → Fr fm_m218_170 M0 M2609 → M2609 170 3 = v2612 → 0 ≤ v2606 → v2606 ≤ 13 → 0 ≤ v2612 → v2612 ≤ 2147483647 → (∀ k, M2609 172 k = u2600 k) → (v2612 = Cn (fun k => bcF (u2600 k)) v2606 0 (v2573).toNat) → Wp B (d + 1) 218 51 [some (R 170), some (I p1), some (I v2573), some (I v2606), none] [] M2609 Q := by
        refine lp_ind ?_
        intro k2709 ih2709 M2609 v2606 v2612 hk2709 hP2610 hF2611 e2615 h2607 h2608 h2613 h2614 hu2616 ti2617
        refine wk_il3 r218_51 (wk_il1 r218_52 ?_)
        refine wk_icgt r218_53 ⟨by omega, by omega⟩ ⟨by omega, by omega⟩ ?_ ?_
        · intro h2618
          subst hQ; exact wk_ret r218_121 (⟨rfl, hP2610, hF2611⟩)
        · intro h2619
          refine wk_c1 r218_56 (wk_is4 r218_57 rfl ?_)
          have c59_2708 : ∀ (k2708 : Nat) (M2667 : Mm) (v2664 : Int) (v2670 : Int), (924 - v2664).toNat = k2708 → Pw M2667 → Fr fm_m218_170 M0 M2667 → M2667 170 3 = v2670 → 0 ≤ v2664 → v2664 ≤ 924 → 0 ≤ v2670 → v2670 ≤ 2147483647 → (∀ k, M2667 172 k = u2600 k) → (v2670 = Cn (fun k => bcF (u2600 k)) v2606 v2664 (v2573).toNat) → Wp B (d + 1) 218 59 [some (R 170), some (I p1), some (I v2573), some (I v2606), some (I v2664)] [] M2667 Q := by
            refine lp_ind ?_
            intro k2708 ih2708 M2667 v2664 v2670 hk2708 hP2668 hF2669 e2673 h2665 h2666 h2671 h2672 hu2674 ti2675
            refine wk_il4 r218_59 (wk_il2 r218_61 ?_)
            refine wk_icge r218_62 ⟨by omega, by omega⟩ ⟨by omega, by omega⟩ ?_ ?_
            · intro h2676
              refine wk_inc3 r218_115 rfl (wk_goto r218_118 ?_)
              exact wp_fg (le_s (le_s (le_s (le_s (le_n le_0))))) (ih2709 (13 - (v2606 + 1)).toNat (by omega) M2667 (v2606 + 1) v2670 rfl hP2668 hF2669 e2673 (by omega) (by omega) (by omega) (by omega) hu2674 (by rw [← cn_end (f := fun k => bcF (u2600 k)) (m := v2606) (N := v2664) (v2573).toNat (by omega)]; first | assumption | omega))
            · intro h2677
              refine wk_al0 r218_65 (wk_getfr r218_66 fd_170_1 (br_170_1 hP2668) (wk_il4 r218_69 (wk_ialdb r218_71 ar_172 ⟨by omega, by omega⟩ (fun q0 q1 => ba_172 hP2668 q0 q1) ?_)))
              intro v2678 h2680 h2681 e2679
              refine wk_cs102_1 r218_72 rfl (m246 _ M2667 v2678 hP2668 (by omega) (by omega)) (cqI ?_)
              rintro v2687 M2682 ⟨hP2683, hQ2684, h2688, h2689, xh2686⟩
              obtain rfl := Fr.same hQ2684
              refine wk_il3 r218_75 ?_
              refine wk_icne r218_76 ⟨by omega, by omega⟩ ⟨by omega, by omega⟩ ?_ ?_
              · intro h2690
                refine wk_inc4 r218_109 rfl (wk_goto r218_112 ?_)
                exact wp_fg (le_s (le_s (le_s (le_s (le_s le_0))))) (ih2708 (924 - (v2664 + 1)).toNat (by omega) M2667 (v2664 + 1) v2670 rfl hP2668 hF2669 e2673 (by omega) (by omega) (by omega) (by omega) hu2674 (by first | (rw [cn_ne (by show bcF (u2600 v2664) ≠ v2606; rw [← hu2674 v2664, e2679]; omega)]; first | assumption | omega) | (rw [cn_eq (by omega) (by show bcF (u2600 v2664) = v2606; rw [← hu2674 v2664, e2679]; omega), if_pos (by omega)]; omega)))
              · intro h2691
                have h2692 := cn_lt (f := fun k => bcF (u2600 k)) (m := v2606) (i := v2664) (n := (v2573).toNat) (by omega) (by omega) (by show bcF (u2600 v2664) = v2606; rw [← hu2674 v2664, e2679]; omega)
                refine wk_al0 r218_79 (wk_getfr r218_80 fd_170_2 (br_170_2 hP2668) (wk_al0 r218_83 (wk_getfi r218_84 fd_170_3 e2673 (wk_al0 r218_87 (wk_getfr r218_88 fd_170_1 (br_170_1 hP2668) (wk_il4 r218_91 (wk_iald r218_93 ar_172 ⟨by omega, by omega⟩ e2679 (wk_il1 r218_94 (wk_cs102_2 r218_95 rfl (m223 _ M2667 v2678 p1 hP2668 (by omega) (by omega) (by omega) (by omega)) (cqI ?_))))))))))
                rintro v2697 M2693 ⟨hP2694, hQ2695, h2698, h2699⟩
                obtain rfl := Fr.same hQ2695
                refine wk_iast r218_98 ar_173 ⟨by omega, by omega⟩ (wk_nw (ga_173 _) rfl hP2668 hF2669 (ua_173 ⟨by omega, by omega⟩) ?_)
                intro M2700 hP2701 hF2702 e2703
                refine wk_al0 r218_99 (wk_dupr r218_100 (wk_getfi r218_101 fd_170_3 (mUp_no e2703 e2673 (Or.inl (by decide))) (wk_c1 r218_104 (wk_iadd r218_105 (wk_putfi81 r218_106 fd_170_3 (wk_nw g_170_3 rfl hP2701 hF2702 (uf_170_3 ⟨by omega, by omega⟩) ?_))))))
                intro M2704 hP2705 hF2706 e2707
                refine wk_inc4 r218_109 rfl (wk_goto r218_112 ?_)
                exact wp_fg (le_s (le_s (le_s (le_s (le_s le_0))))) (ih2708 (924 - (v2664 + 1)).toNat (by omega) M2704 (v2664 + 1) (v2670 + 1) rfl hP2705 hF2706 (mUp_at e2707) (by omega) (by omega) (by omega) (by omega) (fun k => mUp_no e2707 ((fun k => mUp_no e2703 (hu2674 k) (Or.inl (by decide))) k) (Or.inl (by decide))) (by first | (rw [cn_ne (by show bcF (u2600 v2664) ≠ v2606; rw [← hu2674 v2664, e2679]; omega)]; first | assumption | omega) | (rw [cn_eq (by omega) (by show bcF (u2600 v2664) = v2606; rw [← hu2674 v2664, e2679]; omega), if_pos (by omega)]; omega)))
          exact wp_fg (le_s (le_s (le_s (le_s (le_s le_0))))) (c59_2708 _ M2609 0 v2612 rfl hP2610 hF2611 e2615 (by omega) (by omega) (by omega) (by omega) hu2616 (by first | assumption | omega))
      exact wp_fg (le_s (le_s (le_s (le_s (le_s le_0))))) (c51_2709 _ M2602 0 0 rfl hP2603 hF2604 (mUp_at e2605) (by omega) (by omega) (by omega) (by omega) (fun k => mUp_no e2605 (hu2601 k) (Or.inl (by decide))) (by rw [cn_zero (fun k => bcF_nn _)]))
    refine wk_iflt r218_9 ⟨by omega, by omega⟩ ?_ ?_
    · intro h2583
      exact wp_fg (le_s (le_s (le_s (le_n (le_s le_0))))) c44_2710
    · intro h2584
      refine wk_il2 r218_12 (wk_c3 r218_13 ?_)
      refine wk_icge r218_16 ⟨by omega, by omega⟩ (by decide) ?_ ?_
      · intro h2585
        exact wp_fg (le_s (le_s (le_s (le_n (le_s le_0))))) c44_2710
      · intro h2586
        refine wk_al0 r218_19 (wk_il3 r218_20 (wk_il1 r218_21 (wk_cv3 r218_22 kc_170_220 rfl (m220_170 _ M2579 v2576 p1 hP2580 (by omega) (by omega) (by omega) (by omega)) (cqI ?_))))
        rintro v2591 M2587 ⟨hP2588, hQ2589, h2592, h2593⟩
        obtain rfl := Fr.same hQ2589
        refine wk_ifeq r218_25 ⟨by omega, by omega⟩ ?_ ?_
        · intro h2594
          refine wk_inc3 r218_38 rfl (wk_goto r218_41 ?_)
          exact wp_fg (le_s (le_s (le_s (le_s (le_s le_0))))) (ih2711 ((v2576 + (-1)) - (-1)).toNat (by omega) M2579 v2573 (v2576 + (-1)) rfl hP2580 hF2581 (by omega) (by omega) (by omega) (by omega) (by omega))
        · intro h2595
          refine wk_al0 r218_28 (wk_getfr r218_29 fd_170_1 (br_170_1 hP2580) (wk_il2 r218_32 (wk_il3 r218_33 (wk_iast r218_34 ar_172 ⟨by omega, by omega⟩ (wk_nw (ga_172 _) rfl hP2580 hF2581 (ua_172 ⟨by omega, by omega⟩) ?_)))))
          intro M2596 hP2597 hF2598 e2599
          refine wk_inc2 r218_35 rfl (wk_inc3 r218_38 rfl (wk_goto r218_41 ?_))
          exact wp_fg (le_s (le_s (le_s (le_s (le_s le_0))))) (ih2711 ((v2576 + (-1)) - (-1)).toNat (by omega) M2596 (v2573 + 1) (v2576 + (-1)) rfl hP2597 hF2598 (by omega) (by omega) (by omega) (by omega) (by omega))
  exact wp_fg (le_s (le_s (le_s (le_s (le_s le_0))))) (c8_2711 _ M0 0 (v1 - 1) rfl hP0 hF0 (by omega) (by omega) (by omega) (by omega) (by omega))
def fm_m216_170_138 : Nat := 153504564871387154087491403776
/-- IslandHall$Subsets.findKnots -/
theorem m216_170_138 {B : eB} (d : Nat) (M0 : Mm) (hP0 : Pw M0)  : Ct B (d + 3) 216 [R 170, R 138] M0 (qV fun M => Pw M ∧ Fr fm_m216_170_138 M0 M) := by
  refine ct_of (d := d + 2) (k := 1) (L := [some (R 170), some (R 138), none]) rfl rfl rfl ?_
  have hF0 := Fr.rf fm_m216_170_138 M0
  generalize hQ : (qV fun M => Pw M ∧ Fr fm_m216_170_138 M0 M) = Q
  refine wk_al0 r216_0 (wk_getfb r216_1 fd_170_4 (bf_170_4 hP0) ?_)
  intro v1 h3 h4 e2
  refine wk_ifeq r216_4 ⟨by omega, by omega⟩ ?_ ?_
  · intro h5
    refine wk_al0 r216_8 (wk_al1 r216_9 (wk_getfb r216_10 fd_138_5 (bf_138_5 hP0) ?_))
    intro v6 h8 h9 e7
    refine wk_cv2 r216_13 kc_170_215 rfl (m215_170 _ M0 v6 hP0 (by omega) (by omega)) (cqV ?_)
    rintro M10 ⟨hP11, hQ12⟩
    have hF13 : Fr fm_m216_170_138 M0 M10 := hF0.tr hQ12 rfl
    refine wk_c1 r216_16 (wk_is2 r216_17 rfl ?_)
    have c18_544 : ∀ (k544 : Nat) (M494 : Mm) (v491 : Int), (3000 - v491).toNat = k544 → Pw M494 → Fr fm_m216_170_138 M0 M494 → M494 170 4 = v1 → M494 138 5 = v6 → 0 ≤ v491 → v491 ≤ 3000 → Wp B (d + 2) 216 18 [some (R 170), some (R 138), some (I v491)] [] M494 Q := by
      refine lp_ind ?_
      intro k544 ih544 M494 v491 hk544 hP495 hF496 e497 e498 h492 h493
      refine wk_il2 r216_18 (wk_al1 r216_19 (wk_getfr r216_20 fd_138_0 (br_138_0 hP495) (wk_getfb r216_23 fd_10_9 (bf_10_9 hP495) ?_)))
      intro v499 h501 h502 e500
      refine wk_icge r216_26 ⟨by omega, by omega⟩ ⟨by omega, by omega⟩ ?_ ?_
      · intro h503
        refine wk_al0 r216_57 (wk_al1 r216_58 (wk_getfi r216_59 fd_138_5 e498 (wk_cv2 r216_62 kc_170_222 rfl (m222_170 _ M494 v6 hP495 (by omega) (by omega)) (cqV ?_))))
        rintro M504 ⟨hP505, hQ506⟩
        have hF507 : Fr fm_m216_170_138 M0 M504 := hF496.tr hQ506 rfl
        refine wk_al0 r216_65 (wk_al1 r216_66 (wk_getfi r216_67 fd_138_5 ((hQ506.at g_138_5 rfl).trans e498) (wk_cv2 r216_70 kc_170_218 rfl (m218_170 _ M504 v6 hP505 (by omega) (by omega)) (cqV ?_))))
        rintro M508 ⟨hP509, hQ510⟩
        have hF511 : Fr fm_m216_170_138 M0 M508 := hF507.tr hQ510 rfl
        refine wk_al0 r216_73 (wk_c1 r216_74 (wk_putfz81 r216_75 fd_170_4 (by decide) (wk_nw g_170_4 rfl hP509 hF511 (uf_170_4 (by decide)) ?_)))
        intro M512 hP513 hF514 e515
        subst hQ; exact wk_ret r216_78 (⟨rfl, hP513, hF514⟩)
      · intro h516
        refine wk_al1 r216_29 (wk_cv1 r216_30 kc_138_233 rfl (m233_138 _ M494 hP495) (cqR ?_))
        rintro v521 M517 ⟨hP518, hQ519, h522, h523⟩
        obtain rfl : v521 = 155 := by omega
        obtain rfl := Fr.same hQ519
        refine wk_il2 r216_33 (wk_cs102_2 r216_34 rfl (m191_f155v8 _ M494 155 v491 hP495 (by omega) (by omega) (by omega) (by omega)) (cqI ?_))
        rintro v528 M524 ⟨hP525, hQ526, h529, h530⟩
        obtain rfl := Fr.same hQ526
        refine wk_ifeq r216_37 ⟨by omega, by omega⟩ ?_ ?_
        · intro h531
          refine wk_inc2 r216_51 rfl (wk_goto r216_54 ?_)
          exact wp_fg (le_s (le_s (le_s le_0))) (ih544 (3000 - (v491 + 1)).toNat (by omega) M494 (v491 + 1) rfl hP495 hF496 e497 e498 (by omega) (by omega))
        · intro h532
          refine wk_al0 r216_40 (wk_getfr r216_41 fd_170_0 (br_170_0 hP495) (wk_al1 r216_44 (wk_il2 r216_45 (wk_cv2 r216_46 kc_138_228 rfl (m228_138v8 _ M494 v491 hP495 (by omega) (by omega)) (cqI ?_)))))
          rintro v537 M533 ⟨hP534, hQ535, h538, h539⟩
          obtain rfl := Fr.same hQ535
          refine wk_c1 r216_49 (wk_bast r216_50 ar_171 ⟨by omega, by omega⟩ (by decide) (wk_nw (ga_171 _) rfl hP495 hF496 (ua_171 (by decide)) ?_))
          intro M540 hP541 hF542 e543
          refine wk_inc2 r216_51 rfl (wk_goto r216_54 ?_)
          exact wp_fg (le_s (le_s (le_s le_0))) (ih544 (3000 - (v491 + 1)).toNat (by omega) M540 (v491 + 1) rfl hP541 hF542 (mUp_no e543 e497 (Or.inl (by decide))) (mUp_no e543 e498 (Or.inl (by decide))) (by omega) (by omega))
    exact wp_fg (le_s (le_s (le_s le_0))) (c18_544 _ M10 0 rfl hP11 hF13 ((hQ12.at g_170_4 rfl).trans e2) ((hQ12.at g_138_5 rfl).trans e7) (by omega) (by omega))
  · intro h545
    subst hQ; exact wk_ret r216_7 (⟨rfl, hP0, hF0⟩)
def fm_m26_0 : Nat := 153504564871387154087491403776
/-- IslandHall.knots -/
theorem m26_0 {B : eB} (d : Nat) (M0 : Mm) (hP0 : Pw M0)  : Ct B (d + 4) 26 [R 0] M0 (qI fun z M => Pw M ∧ Fr fm_m26_0 M0 M ∧ 0 ≤ z ∧ z ≤ 924) := by
  refine ct_of (d := d + 3) (k := 0) (L := [some (R 0)]) rfl rfl rfl ?_
  have hF0 := Fr.rf fm_m26_0 M0
  generalize hQ : (qI fun z M => Pw M ∧ Fr fm_m26_0 M0 M ∧ 0 ≤ z ∧ z ≤ 924) = Q
  refine wk_al0 r26_0 (wk_getfr r26_1 fd_0_12 (br_0_12 hP0) (wk_al0 r26_4 (wk_getfr r26_5 fd_0_7 (br_0_7 hP0) (wk_cv2 r26_8 kc_170_216 rfl (m216_170_138 _ M0 hP0) (cqV ?_)))))
  rintro M1 ⟨hP2, hQ3⟩
  have hF4 : Fr fm_m26_0 M0 M1 := hF0.tr hQ3 rfl
  refine wk_al0 r26_11 (wk_getfr r26_12 fd_0_12 (br_0_12 hP2) (wk_getfb r26_15 fd_170_3 (bf_170_3 hP2) ?_))
  intro v5 h7 h8 e6
  subst hQ; exact wk_iret r26_18 (⟨rfl, _, rfl, hP2, hF4, by omega, by omega⟩)
def fm_m25_0 : Nat := 153504564871387154087491403776
/-- IslandHall.knot -/
theorem m25_0 {B : eB} (d : Nat) (M0 : Mm) (p1 : Int) (hP0 : Pw M0) (l1 : (-2147483648) ≤ p1) (u1 : p1 ≤ 2147483647) : Ct B (d + 4) 25 [R 0, I p1] M0 (qX 0 (fun M => Pw M ∧ Fr (fm_m25_0 ||| 1) M0 M ∧ M (-1) 0 = M0 (-1) 0 + 1) (qI fun z M => Pw M ∧ Fr fm_m25_0 M0 M ∧ 0 ≤ z ∧ z ≤ 4095)) := by
  refine ct_of (d := d + 3) (k := 0) (L := [some (R 0), some (I p1)]) rfl rfl rfl ?_
  have hF0 := Fr.rf fm_m25_0 M0
  generalize hQ : (qX 0 (fun M => Pw M ∧ Fr (fm_m25_0 ||| 1) M0 M ∧ M (-1) 0 = M0 (-1) 0 + 1) (qI fun z M => Pw M ∧ Fr fm_m25_0 M0 M ∧ 0 ≤ z ∧ z ≤ 4095)) = Q
  refine wk_al0 r25_0 (wk_getfr r25_1 fd_0_12 (br_0_12 hP0) (wk_al0 r25_4 (wk_getfr r25_5 fd_0_7 (br_0_7 hP0) (wk_cv2 r25_8 kc_170_216 rfl (m216_170_138 _ M0 hP0) (cqV ?_)))))
  rintro M1 ⟨hP2, hQ3⟩
  have hF4 : Fr fm_m25_0 M0 M1 := hF0.tr hQ3 rfl
  refine wk_il1 r25_11 ?_
  refine wk_iflt r25_12 ⟨by omega, by omega⟩ ?_ ?_
  · intro h5
    subst hQ; exact wk_thr112 r25_26 rfl (Or.inl ⟨rfl, hP2.thr, (Fr.thr hF4), (by rw [mUp_eq, hF4.at g_below rfl])⟩)
  · intro h6
    refine wk_il1 r25_15 (wk_al0 r25_16 (wk_getfr r25_17 fd_0_12 (br_0_12 hP2) (wk_getfb r25_20 fd_170_3 (bf_170_3 hP2) ?_)))
    intro v7 h9 h10 e8
    refine wk_iclt r25_23 ⟨by omega, by omega⟩ ⟨by omega, by omega⟩ ?_ ?_
    · intro h11
      refine wk_al0 r25_37 (wk_getfr r25_38 fd_0_12 (br_0_12 hP2) (wk_getfr r25_41 fd_170_2 (br_170_2 hP2) (wk_il1 r25_44 (wk_ialdb r25_45 ar_173 ⟨by omega, by omega⟩ (fun q0 q1 => ba_173 hP2 q0 q1) ?_))))
      intro v12 h14 h15 e13
      subst hQ; exact wk_iret r25_46 (Or.inr ⟨rfl, _, rfl, hP2, hF4, by omega, by omega⟩)
    · intro h16
      subst hQ; exact wk_thr112 r25_26 rfl (Or.inl ⟨rfl, hP2.thr, (Fr.thr hF4), (by rw [mUp_eq, hF4.at g_below rfl])⟩)
def fm_m34_0 : Nat := 309485009821345068724785152
/-- IslandHall.question -/
theorem m34_0 {B : eB} (d : Nat) (M0 : Mm) (p1 : Int) (p2 : Int) (hP0 : Pw M0) (l1 : (-2147483648) ≤ p1) (u1 : p1 ≤ 2147483647) (l2 : (-2147483648) ≤ p2) (u2 : p2 ≤ 2147483647) : Ct B (d + 2) 34 [R 0, I p1, I p2] M0 (qX 0 (fun M => Pw M ∧ Fr (fm_m34_0 ||| 1) M0 M ∧ M (-1) 0 = M0 (-1) 0 + 1) (qI fun z M => Pw M ∧ Fr fm_m34_0 M0 M ∧ (-1) ≤ z ∧ z ≤ 9)) := by
  refine ct_of (d := d + 1) (k := 0) (L := [some (R 0), some (I p1), some (I p2)]) rfl rfl rfl ?_
  have hF0 := Fr.rf fm_m34_0 M0
  generalize hQ : (qX 0 (fun M => Pw M ∧ Fr (fm_m34_0 ||| 1) M0 M ∧ M (-1) 0 = M0 (-1) 0 + 1) (qI fun z M => Pw M ∧ Fr fm_m34_0 M0 M ∧ (-1) ≤ z ∧ z ≤ 9)) = Q
  refine wk_al0 r34_0 (wk_il1 r34_1 (wk_cv2 r34_2 kc_0_30 rfl (m30_0 _ M0 p1 hP0 (by omega) (by omega)) (cqX (fun _ _ x5 => by subst hQ; exact Or.inl ⟨rfl, x5.1, Fr.trx hF0 x5.2.1 rfl, (by rw [x5.2.2, hF0.at g_below rfl])⟩) (cqV ?_))))
  rintro M1 ⟨hP2, hQ3, h8, h9⟩
  obtain rfl := Fr.same hQ3
  obtain ⟨v10, e11⟩ : ∃ v, M0 2 1 = v := ⟨_, rfl⟩
  have h12 := bf_2_1 hP0; rw [e11] at h12
  refine wk_al0 r34_5 (wk_il2 r34_6 (wk_cv2 r34_7 kc_0_31 rfl (m31_0 _ M0 p2 hP0 (by omega) (by omega)) (cqX (fun _ _ x17 => by subst hQ; exact Or.inl ⟨rfl, x17.1, Fr.trx hF0 x17.2.1 rfl, (by rw [x17.2.2, hF0.at g_below rfl])⟩) (cqV ?_))))
  rintro M13 ⟨hP14, hQ15, h20, h21⟩
  obtain rfl := Fr.same hQ15
  obtain ⟨v22, e23⟩ : ∃ v, M0 0 9 = v := ⟨_, rfl⟩
  have h24 := bf_0_9 hP0; rw [e23] at h24
  refine wk_al0 r34_10 (wk_getfb r34_11 fd_0_11 (bf_0_11 hP0) ?_)
  intro v25 h27 h28 e26
  refine wk_c2 r34_14 ?_
  refine wk_iclt r34_16 ⟨by omega, by omega⟩ (by decide) ?_ ?_
  · intro h29
    refine wk_al0 r34_21 (wk_getfr r34_22 fd_0_10 (br_0_10 hP0) (wk_al0 r34_25 (wk_getfi r34_26 fd_0_11 e26 (wk_c2 r34_29 (wk_il1 r34_31 (wk_imul r34_32 (wk_il2 r34_33 (wk_iadd r34_34 (wk_iast r34_35 ar_169 ⟨by omega, by omega⟩ (wk_nw (ga_169 _) rfl hP0 hF0 (ua_169 ⟨by omega, by omega⟩) ?_))))))))))
    intro M30 hP31 hF32 e33
    refine wk_al0 r34_36 (wk_dupr r34_37 (wk_getfi r34_38 fd_0_11 (mUp_no e33 e26 (Or.inl (by decide))) (wk_c1 r34_41 (wk_iadd r34_42 (wk_putfi81 r34_43 fd_0_11 (wk_nw g_0_11 rfl hP31 hF32 (uf_0_11 ⟨by omega, by omega⟩) ?_))))))
    intro M34 hP35 hF36 e37
    refine wk_al0 r34_46 (wk_getfi r34_47 fd_0_11 (mUp_at e37) (wk_c1 r34_50 (wk_isub r34_51 ?_)))
    subst hQ; exact wk_iret r34_52 (Or.inr ⟨rfl, _, rfl, hP35, hF36, by omega, by omega⟩)
  · intro h38
    refine wk_c1 r34_19 ?_
    subst hQ; exact wk_iret r34_20 (Or.inr ⟨rfl, _, rfl, hP0, hF0, by omega, by omega⟩)
def fm_m187_176 : Nat := 148954016129217867593468613444501504000
/-- IslandHall$Realm.clear -/
theorem m187_176 {B : eB} (d : Nat) (M0 : Mm) (p1 : Int) (p2 : Int) (hP0 : Pw M0) (l1 : (-1) ≤ p1) (u1 : p1 ≤ 7) (l2 : 0 ≤ p2) (u2 : p2 ≤ 127) : Ct B (d + 2) 187 [R 176, I p1, I p2] M0 (qV fun M => Pw M ∧ Fr fm_m187_176 M0 M ∧ 0 ≤ (-1) * (M 176 9)) := by
  refine ct_of (d := d + 1) (k := 1) (L := [some (R 176), some (I p1), some (I p2), none]) rfl rfl rfl ?_
  have hF0 := Fr.rf fm_m187_176 M0
  generalize hQ : (qV fun M => Pw M ∧ Fr fm_m187_176 M0 M ∧ 0 ≤ (-1) * (M 176 9)) = Q
  refine wk_al0 r187_0 (wk_il1 r187_1 (wk_putfi81 r187_2 fd_176_7 (wk_nw g_176_7 rfl hP0 hF0 (uf_176_7 ⟨by omega, by omega⟩) ?_)))
  intro M1 hP2 hF3 e4
  refine wk_al0 r187_5 (wk_il2 r187_6 (wk_putfi81 r187_7 fd_176_8 (wk_nw g_176_8 rfl hP2 hF3 (uf_176_8 ⟨by omega, by omega⟩) ?_)))
  intro M5 hP6 hF7 e8
  refine wk_al0 r187_10 (wk_c1 r187_11 (wk_putfi81 r187_12 fd_176_9 (wk_nw g_176_9 rfl hP6 hF7 (uf_176_9 (by decide)) ?_)))
  intro M9 hP10 hF11 e12
  refine wk_al0 r187_15 (wk_c1 r187_16 (wk_putfi81 r187_17 fd_176_10 (wk_nw g_176_10 rfl hP10 hF11 (uf_176_10 (by decide)) ?_)))
  intro M13 hP14 hF15 e16
  refine wk_c1 r187_20 (wk_is3 r187_21 rfl ?_)
  have c22_195 : ∀ (k195 : Nat) (M173 : Mm) (v170 : Int), (119 - v170).toNat = k195 → Pw M173 → Fr fm_m187_176 M0 M173 → M173 176 7 = p1 → M173 176 8 = p2 → M173 176 9 = 0 → M173 176 10 = 0 → 0 ≤ v170 → v170 ≤ 119 → Wp B (d + 1) 187 22 [some (R 176), none, none, some (I v170)] [] M173 Q := by
    refine lp_ind ?_
    intro k195 ih195 M173 v170 hk195 hP174 hF175 e176 e177 e178 e179 h171 h172
    refine wk_il3 r187_22 (wk_c2 r187_23 ?_)
    refine wk_icge r187_25 ⟨by omega, by omega⟩ (by decide) ?_ ?_
    · intro h180
      refine wk_al0 r187_44 (wk_getfr r187_45 fd_176_3 (br_176_3 hP174) (wk_c1 r187_48 (wk_cs102_2 r187_49 rfl (ct_fi ar_177) (cqV ?_))))
      intro M181 e182
      have hP183 : Pw M181 := by rw [e182]; exact hP174.fil (fun i => (ua_177 (by decide)))
      have hF184 : Fr fm_m187_176 M0 M181 := by rw [e182]; exact hF175.fil (fun i => by rw [(ga_177 i)]; rfl)
      subst hQ; exact wk_ret r187_52 (⟨rfl, hP183, hF184, by have := (fil_no e182 e178 (by decide)); omega⟩)
    · intro h185
      refine wk_al0 r187_28 (wk_getfr r187_29 fd_176_0 (br_176_0 hP174) (wk_il3 r187_32 ?_))
      rcases Int.lt_or_le v170 118 with h186 | h186
      · refine wk_raldb r187_33 ar_182 ⟨by omega, by omega⟩ (fun q0 q1 => ba_182 hP174 q0 q1) (wk_c6 r187_34 (wk_cs102_2 r187_35 rfl (ct_fl (arF_183 (by omega) (by omega))) (cqV ?_)))
        intro M187 e188
        have hP189 : Pw M187 := by rw [e188]; exact hP174.fil (fun i => (uaF_183 (by omega) (by omega) ⟨by omega, by omega⟩))
        have hF190 : Fr fm_m187_176 M0 M187 := by rw [e188]; exact hF175.fil (fun i => by rw [(gr_183 (by omega) (by omega) i)]; rfl)
        refine wk_inc3 r187_38 rfl (wk_goto r187_41 ?_)
        exact wp_fg (le_s (le_s (le_s (le_s le_0)))) (ih195 (119 - (v170 + 1)).toNat (by omega) M187 (v170 + 1) rfl hP189 hF190 (fil_no e188 e176 (by omega)) (fil_no e188 e177 (by omega)) (fil_no e188 e178 (by omega)) (fil_no e188 e179 (by omega)) (by omega) (by omega))
      · refine wk_raldb r187_33 ar_182 ⟨by omega, by omega⟩ (fun q0 q1 => ba_182 hP174 q0 q1) (wk_c6 r187_34 (wk_cs102_2 r187_35 rfl (ct_fl (arF_301 (by omega) (by omega))) (cqV ?_)))
        intro M191 e192
        have hP193 : Pw M191 := by rw [e192]; exact hP174.fil (fun i => (u4_301 (by omega) (by omega) ⟨by omega, by omega, by omega⟩))
        have hF194 : Fr fm_m187_176 M0 M191 := by rw [e192]; exact hF175.fil (fun i => t4_301 rfl rfl (by omega) (by omega) i)
        refine wk_inc3 r187_38 rfl (wk_goto r187_41 ?_)
        exact wp_fg (le_s (le_s (le_s (le_s le_0)))) (ih195 (119 - (v170 + 1)).toNat (by omega) M191 (v170 + 1) rfl hP193 hF194 (fil_no e192 e176 (by omega)) (fil_no e192 e177 (by omega)) (fil_no e192 e178 (by omega)) (fil_no e192 e179 (by omega)) (by omega) (by omega))
  exact wp_fg (le_s (le_n (le_n (le_s le_0)))) (c22_195 _ M13 0 rfl hP14 hF15 (mUp_no e16 (mUp_no e12 (mUp_no e8 (mUp_at e4) (Or.inr (by decide))) (Or.inr (by decide))) (Or.inr (by decide))) (mUp_no e16 (mUp_no e12 (mUp_at e8) (Or.inr (by decide))) (Or.inr (by decide))) (mUp_no e16 (mUp_at e12) (Or.inr (by decide))) (mUp_at e16) (by omega) (by omega))
