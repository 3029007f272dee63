/-! ===== written by program (wip/layer3/model.py): contracts of methods ===== -/
def fm_m9103_739 : Nat := 1809251394438377845161853827458666587891013942719528908517073861377953628160
/-- IslandHallModel.leavesOne -/
theorem m9103_739 {B : eB} (d : Nat) (M0 : Mm) (p1 : Int) (p2 : Int) (p3 : Int) (x739_13 : Int) (x739_15 : Int) (hP0 : Pw M0) (l1 : 0 ≤ p1) (u1 : p1 ≤ 300) (l2 : (-1) ≤ p2) (u2 : p2 ≤ 209) (l3 : 0 ≤ p3) (u3 : p3 ≤ 3) (ex739_13 : M0 739 13 = x739_13) (lx739_13 : 0 ≤ x739_13) (ux739_13 : x739_13 ≤ 30) (ex739_15 : M0 739 15 = x739_15) (lx739_15 : 0 ≤ x739_15) (ux739_15 : x739_15 ≤ 10) (xp0 : p2 = -1 ∨ p2 % 30 < x739_13) (pp_WS : WS M0) (pp_QW : QW M0) (pp_C3 : CFP M0) : Ct B (d + 6) 103 [R 739, I p1, I p2, I p3] M0 (qI fun z M => Pw M ∧ Fr fm_m9103_739 M0 M ∧ 0 ≤ z ∧ z ≤ 1 ∧ (WS M) ∧ (QW M) ∧ (CFP M)) := by
  refine ct_of (d := d + 5) (k := 5) (L := [some (R 739), some (I p1), some (I p2), some (I p3), none, none, none, none, none]) rfl rfl rfl ?_
  have hF0 := Fr.rf fm_m9103_739 M0
  generalize hQ : (qI fun z M => Pw M ∧ Fr fm_m9103_739 M0 M ∧ 0 ≤ z ∧ z ≤ 1 ∧ (WS M) ∧ (QW M) ∧ (CFP M)) = Q
  refine wk_c1 r103_0 (wk_is4 r103_1 rfl (wk_c1 r103_3 (wk_is5 r103_4 rfl (wk_c1 r103_6 (wk_is6 r103_7 rfl ?_)))))
  have c9_1061 : ∀ (k1061 : Nat) (M958 : Mm) (v949 : Int) (v952 : Int) (v955 : Int), (300 - v955).toNat = k1061 → Pw M958 → Fr fm_m9103_739 M0 M958 → M958 739 13 = x739_13 → M958 739 15 = x739_15 → (-1) ≤ v949 → v949 ≤ 2999 → 0 ≤ v952 → v952 ≤ 2097151 → 0 ≤ v955 → v955 ≤ 300 → (WS M958) → (QW M958) → (CFP M958) → Wp B (d + 5) 103 9 [some (R 739), some (I p1), some (I p2), some (I p3), some (I v949), some (I v952), some (I v955), none, none] [] M958 Q := by
    refine lp_ind ?_
    intro k1061 ih1061 M958 v949 v952 v955 hk1061 hP959 hF960 e961 e962 h950 h951 h953 h954 h956 h957 pr963 pr964 pr965
    refine wk_il6 r103_9 (wk_il1 r103_11 ?_)
    refine wk_icge r103_12 ⟨by omega, by omega⟩ ⟨by omega, by omega⟩ ?_ ?_
    · intro h966
      refine wk_il4 r103_132 (wk_c1 r103_134 ?_)
      refine wk_iceq r103_135 ⟨by omega, by omega⟩ (by decide) ?_ ?_
      · intro h967
        refine wk_c1 r103_142 ?_
        subst hQ; exact wk_zret r103_143 (by decide) (⟨rfl, _, rfl, hP959, hF960, by omega, by omega, pr963, pr964, pr965⟩)
      · intro h968
        refine wk_c1 r103_138 (wk_goto r103_139 ?_)
        subst hQ; exact wk_zret r103_143 (by decide) (⟨rfl, _, rfl, hP959, hF960, by omega, by omega, pr963, pr964, pr965⟩)
    · intro h969
      refine wk_al0 r103_15 (wk_getfr r103_16 fd_739_67 (br_739_67 hP959) (wk_il6 r103_19 (wk_ialdb r103_21 ar_768 ⟨by omega, by omega⟩ (fun q0 q1 => ba_768 hP959 q0 q1) ?_)))
      intro v970 h972 h973 e971
      refine wk_is7 r103_22 rfl (wk_il2 r103_24 (wk_c1 r103_25 ?_))
      refine wk_iceq r103_26 ⟨by omega, by omega⟩ (by decide) ?_ ?_
      · intro h974
        refine wk_c1 r103_78 (wk_goto r103_79 (wk_is8 r103_83 rfl (wk_il8 r103_85 ?_)))
        refine wk_ifne r103_87 (by decide) ?_ ?_
        · intro h975
          refine wk_il4 r103_93 (wk_c1 r103_95 ?_)
          refine wk_iceq r103_96 ⟨by omega, by omega⟩ (by decide) ?_ ?_
          · intro h976
            refine wk_il7 r103_113 (wk_is4 r103_115 rfl (wk_al0 r103_117 (wk_il7 r103_118 (wk_il3 r103_120 (wk_cv3 r103_121 kc_739_45 rfl (m9045_739 _ M958 v970 p3 hP959 (by omega) (by omega) (by omega) (by omega)) (cqI ?_))))))
            rintro v981 M977 ⟨hP978, hQ979, h982, h983⟩
            obtain rfl := Fr.same hQ979
            refine wk_is5 r103_124 rfl (wk_inc6 r103_126 rfl (wk_goto r103_129 ?_))
            exact wp_fg (le_s (le_s (le_s (le_s (le_s (le_s (le_s (le_n (le_n le_0))))))))) (ih1061 (300 - (v955 + 1)).toNat (by omega) M958 v970 v981 (v955 + 1) rfl hP959 hF960 e961 e962 (by first | assumption | omega) (by first | assumption | omega) (by first | assumption | omega) (by first | assumption | omega) (by first | assumption | omega) (by first | assumption | omega) pr963 pr964 pr965)
          · intro h984
            refine wk_al0 r103_99 (wk_il7 r103_100 (wk_il3 r103_102 (wk_cv3 r103_103 kc_739_45 rfl (m9045_739 _ M958 v970 p3 hP959 (by omega) (by omega) (by omega) (by omega)) (cqI ?_))))
            rintro v989 M985 ⟨hP986, hQ987, h990, h991⟩
            obtain rfl := Fr.same hQ987
            refine wk_il5 r103_106 ?_
            refine wk_iceq r103_108 ⟨by omega, by omega⟩ ⟨by omega, by omega⟩ ?_ ?_
            · intro h992
              refine wk_il7 r103_113 (wk_is4 r103_115 rfl (wk_al0 r103_117 (wk_il7 r103_118 (wk_il3 r103_120 (wk_cv3 r103_121 kc_739_45 rfl (m9045_739 _ M958 v970 p3 hP959 (by omega) (by omega) (by omega) (by omega)) (cqI ?_))))))
              rintro v997 M993 ⟨hP994, hQ995, h998, h999⟩
              obtain rfl := Fr.same hQ995
              refine wk_is5 r103_124 rfl (wk_inc6 r103_126 rfl (wk_goto r103_129 ?_))
              exact wp_fg (le_s (le_s (le_s (le_s (le_s (le_s (le_s (le_n (le_n le_0))))))))) (ih1061 (300 - (v955 + 1)).toNat (by omega) M958 v970 v997 (v955 + 1) rfl hP959 hF960 e961 e962 (by first | assumption | omega) (by first | assumption | omega) (by first | assumption | omega) (by first | assumption | omega) (by first | assumption | omega) (by first | assumption | omega) pr963 pr964 pr965)
            · intro h1000
              refine wk_c1 r103_111 ?_
              subst hQ; exact wk_zret r103_112 (by decide) (⟨rfl, _, rfl, hP959, hF960, by omega, by omega, pr963, pr964, pr965⟩)
        · intro h1001
          exfalso
          omega
      · intro h1002
        have h1004 : p2 % 30 < x739_13 := by omega
        refine wk_al0 r103_29 (wk_al0 r103_30 (wk_il7 r103_31 (wk_il2 r103_33 (wk_c2 r103_34 (wk_idiv r103_36 ⟨by omega, by omega⟩ (by decide) (wk_al0 r103_37 (wk_getfi r103_38 fd_739_15 e962 (wk_c1 r103_41 (wk_iadd r103_42 (wk_cv4 r103_43 kc_739_107 rfl (m9107_739 _ M958 v970 (p2 / 30) (x739_15 + 1) hP959 (by omega) (by omega) (by omega) (by omega) (by omega) (by omega)) (cqI ?_)))))))))))
        rintro v1009 M1005 ⟨hP1006, hQ1007, h1010, h1011⟩
        obtain rfl := Fr.same hQ1007
        refine wk_al0 r103_46 (wk_il2 r103_47 (wk_c2 r103_48 (wk_irem r103_50 ⟨by omega, by omega⟩ (by decide) (wk_il7 r103_51 (wk_al0 r103_53 (wk_getfi r103_54 fd_739_15 e962 (wk_c1 r103_57 (wk_iadd r103_58 (wk_al0 r103_59 (wk_getfr r103_60 fd_739_19 (br_739_19 hP959) (wk_il7 r103_63 (wk_ialdb r103_65 ar_751 ⟨by omega, by omega⟩ (fun q0 q1 => ba_751 hP959 q0 q1) ?_))))))))))))
        intro v1012 h1014 h1015 e1013
        refine wk_cv5 r103_66 kc_739_128 rfl (m9128_739 _ M958 (p2 % 30) v970 (x739_15 + 1) v1012 x739_13 hP959 (by omega) (by omega) (by omega) (by omega) (by omega) (by omega) (by omega) (by omega) e961 (by first | assumption | omega) (by first | assumption | omega) (by omega) pr963) (cqI ?_)
        rintro v1020 M1016 ⟨hP1017, hQ1018, h1021, h1022⟩
        have hF1019 : Fr fm_m9103_739 M0 M1016 := hF960.tr hQ1018 rfl
        refine wk_c1 r103_69 (wk_il7 r103_70 (wk_cv5 r103_72 kc_739_56 rfl (m9056_739 _ M1016 v1009 v1020 (-1) v970 hP1017 (by omega) (by omega) (by omega) (by omega) (by decide) (by decide) (by omega) (by omega)) (cqI ?_)))
        rintro v1027 M1023 ⟨hP1024, hQ1025, h1028, h1029⟩
        obtain rfl := Fr.same hQ1025
        refine wk_ifeq r103_75 ⟨by omega, by omega⟩ ?_ ?_
        · intro h1030
          refine wk_c1 r103_82 (wk_is8 r103_83 rfl (wk_il8 r103_85 ?_))
          refine wk_ifne r103_87 (by decide) ?_ ?_
          · intro h1031
            exfalso
            omega
          · intro h1032
            refine wk_goto r103_90 (wk_inc6 r103_126 rfl (wk_goto r103_129 ?_))
            exact wp_fg (le_s (le_s (le_s (le_s (le_s (le_s (le_s (le_n (le_n le_0))))))))) (ih1061 (300 - (v955 + 1)).toNat (by omega) M1016 v949 v952 (v955 + 1) rfl hP1017 hF1019 ((hQ1018.at g_739_13 rfl).trans e961) ((hQ1018.at g_739_15 rfl).trans e962) (by first | assumption | omega) (by first | assumption | omega) (by first | assumption | omega) (by first | assumption | omega) (by first | assumption | omega) (by first | assumption | omega) (WS_sm (Sm.fr hQ1018 rfl) pr963) (QW_sm (Sm.fr hQ1018 rfl) pr964) (CFP_sm (Sm.fr hQ1018 rfl) pr965))
        · intro h1033
          refine wk_c1 r103_78 (wk_goto r103_79 (wk_is8 r103_83 rfl (wk_il8 r103_85 ?_)))
          refine wk_ifne r103_87 (by decide) ?_ ?_
          · intro h1034
            refine wk_il4 r103_93 (wk_c1 r103_95 ?_)
            refine wk_iceq r103_96 ⟨by omega, by omega⟩ (by decide) ?_ ?_
            · intro h1035
              refine wk_il7 r103_113 (wk_is4 r103_115 rfl (wk_al0 r103_117 (wk_il7 r103_118 (wk_il3 r103_120 (wk_cv3 r103_121 kc_739_45 rfl (m9045_739 _ M1016 v970 p3 hP1017 (by omega) (by omega) (by omega) (by omega)) (cqI ?_))))))
              rintro v1040 M1036 ⟨hP1037, hQ1038, h1041, h1042⟩
              obtain rfl := Fr.same hQ1038
              refine wk_is5 r103_124 rfl (wk_inc6 r103_126 rfl (wk_goto r103_129 ?_))
              exact wp_fg (le_s (le_s (le_s (le_s (le_s (le_s (le_s (le_n (le_n le_0))))))))) (ih1061 (300 - (v955 + 1)).toNat (by omega) M1016 v970 v1040 (v955 + 1) rfl hP1017 hF1019 ((hQ1018.at g_739_13 rfl).trans e961) ((hQ1018.at g_739_15 rfl).trans e962) (by first | assumption | omega) (by first | assumption | omega) (by first | assumption | omega) (by first | assumption | omega) (by first | assumption | omega) (by first | assumption | omega) (WS_sm (Sm.fr hQ1018 rfl) pr963) (QW_sm (Sm.fr hQ1018 rfl) pr964) (CFP_sm (Sm.fr hQ1018 rfl) pr965))
            · intro h1043
              refine wk_al0 r103_99 (wk_il7 r103_100 (wk_il3 r103_102 (wk_cv3 r103_103 kc_739_45 rfl (m9045_739 _ M1016 v970 p3 hP1017 (by omega) (by omega) (by omega) (by omega)) (cqI ?_))))
              rintro v1048 M1044 ⟨hP1045, hQ1046, h1049, h1050⟩
              obtain rfl := Fr.same hQ1046
              refine wk_il5 r103_106 ?_
              refine wk_iceq r103_108 ⟨by omega, by omega⟩ ⟨by omega, by omega⟩ ?_ ?_
              · intro h1051
                refine wk_il7 r103_113 (wk_is4 r103_115 rfl (wk_al0 r103_117 (wk_il7 r103_118 (wk_il3 r103_120 (wk_cv3 r103_121 kc_739_45 rfl (m9045_739 _ M1016 v970 p3 hP1017 (by omega) (by omega) (by omega) (by omega)) (cqI ?_))))))
                rintro v1056 M1052 ⟨hP1053, hQ1054, h1057, h1058⟩
                obtain rfl := Fr.same hQ1054
                refine wk_is5 r103_124 rfl (wk_inc6 r103_126 rfl (wk_goto r103_129 ?_))
                exact wp_fg (le_s (le_s (le_s (le_s (le_s (le_s (le_s (le_n (le_n le_0))))))))) (ih1061 (300 - (v955 + 1)).toNat (by omega) M1016 v970 v1056 (v955 + 1) rfl hP1017 hF1019 ((hQ1018.at g_739_13 rfl).trans e961) ((hQ1018.at g_739_15 rfl).trans e962) (by first | assumption | omega) (by first | assumption | omega) (by first | assumption | omega) (by first | assumption | omega) (by first | assumption | omega) (by first | assumption | omega) (WS_sm (Sm.fr hQ1018 rfl) pr963) (QW_sm (Sm.fr hQ1018 rfl) pr964) (CFP_sm (Sm.fr hQ1018 rfl) pr965))
              · intro h1059
                refine wk_c1 r103_111 ?_
                subst hQ; exact wk_zret r103_112 (by decide) (⟨rfl, _, rfl, hP1017, hF1019, by omega, by omega, (WS_sm (Sm.fr hQ1018 rfl) pr963), (QW_sm (Sm.fr hQ1018 rfl) pr964), (CFP_sm (Sm.fr hQ1018 rfl) pr965)⟩)
          · intro h1060
            exfalso
            omega
  exact wp_fg (le_s (le_s (le_s (le_s (le_s (le_s (le_s (le_s (le_s le_0))))))))) (c9_1061 _ M0 (-1) 0 0 rfl hP0 hF0 ex739_13 ex739_15 (by first | assumption | omega) (by first | assumption | omega) (by first | assumption | omega) (by first | assumption | omega) (by first | assumption | omega) (by first | assumption | omega) pp_WS pp_QW pp_C3)
def fm_m9122_739 : Nat := 1391322273485383372331907035496831158451413367731766027089699053039146550427648
/-- IslandHallModel.riddle -/
theorem m9122_739 {B : eB} (d : Nat) (M0 : Mm) (p1 : Int) (x739_13 : Int) (x739_7 : Int) (x739_1 : Int) (hP0 : Pw M0) (l1 : (-2147483648) ≤ p1) (u1 : p1 ≤ 2147483647) (ex739_13 : M0 739 13 = x739_13) (lx739_13 : 0 ≤ x739_13) (ux739_13 : x739_13 ≤ 30) (ex739_7 : M0 739 7 = x739_7) (lx739_7 : 0 ≤ x739_7) (ux739_7 : x739_7 ≤ 3000) (ex739_1 : M0 739 1 = x739_1) (lx739_1 : 0 ≤ x739_1) (ux739_1 : x739_1 ≤ 7) (pp_WS : WS M0) (pp_QW : QW M0) : Ct B (d + 7) 122 [R 739, I p1] M0 (qI fun z M => Pw M ∧ Fr fm_m9122_739 M0 M ∧ (-2) ≤ z ∧ z ≤ 2 ∧ (WS M) ∧ (QW M)) := by
  refine ct_of (d := d + 6) (k := 3) (L := [some (R 739), some (I p1), none, none, none]) rfl rfl rfl ?_
  have hF0 := Fr.rf fm_m9122_739 M0
  generalize hQ : (qI fun z M => Pw M ∧ Fr fm_m9122_739 M0 M ∧ (-2) ≤ z ∧ z ≤ 2 ∧ (WS M) ∧ (QW M)) = Q
  refine wk_al0 r122_0 (wk_c1 r122_1 (wk_putfi81 r122_2 fd_739_0 (wk_nw g_739_0 rfl hP0 hF0 (uf_739_0 (by decide)) ?_)))
  intro M1 hP2 hF3 e4
  refine wk_al0 r122_5 (wk_il1 r122_6 ?_)
  refine wk_iflt r122_7 ⟨by omega, by omega⟩ ?_ ?_
  · intro h5
    refine wk_c1 r122_19 (wk_c1 r122_20 (wk_cv3 r122_21 kc_739_123 rfl (m9123_739 _ M1 0 1 0 hP2 (by decide) (by decide) (by decide) (by decide) (mUp_at e4) (by first | assumption | omega) (by first | assumption | omega)) (cqI ?_)))
    rintro v12 M6 ⟨hP7, hQ8, h13, h14, h10, xh11⟩
    have hF9 : Fr fm_m9122_739 M0 M6 := hF3.tr hQ8 rfl
    refine wk_ifne r122_24 ⟨by omega, by omega⟩ ?_ ?_
    · intro h15
      exfalso
      omega
    · intro h16
      refine wk_c1 r122_27 ?_
      subst hQ; exact wk_iret r122_28 (⟨rfl, _, rfl, hP7, hF9, by omega, by omega, (WS_sm (Sm.fr hQ8 rfl) (WS_sm (Sm.up e4 g_739_0 rfl) pp_WS)), (QW_sm (Sm.fr hQ8 rfl) (QW_sm (Sm.up e4 g_739_0 rfl) pp_QW))⟩)
  · intro h17
    refine wk_il1 r122_10 (wk_c1 r122_11 ?_)
    refine wk_icgt r122_12 ⟨by omega, by omega⟩ (by decide) ?_ ?_
    · intro h18
      refine wk_c1 r122_19 (wk_c1 r122_20 (wk_cv3 r122_21 kc_739_123 rfl (m9123_739 _ M1 0 1 0 hP2 (by decide) (by decide) (by decide) (by decide) (mUp_at e4) (by first | assumption | omega) (by first | assumption | omega)) (cqI ?_)))
      rintro v25 M19 ⟨hP20, hQ21, h26, h27, h23, xh24⟩
      have hF22 : Fr fm_m9122_739 M0 M19 := hF3.tr hQ21 rfl
      refine wk_ifne r122_24 ⟨by omega, by omega⟩ ?_ ?_
      · intro h28
        exfalso
        omega
      · intro h29
        refine wk_c1 r122_27 ?_
        subst hQ; exact wk_iret r122_28 (⟨rfl, _, rfl, hP20, hF22, by omega, by omega, (WS_sm (Sm.fr hQ21 rfl) (WS_sm (Sm.up e4 g_739_0 rfl) pp_WS)), (QW_sm (Sm.fr hQ21 rfl) (QW_sm (Sm.up e4 g_739_0 rfl) pp_QW))⟩)
    · intro h30
      refine wk_c1 r122_15 (wk_goto r122_16 (wk_c1 r122_20 (wk_cv3 r122_21 kc_739_123 rfl (m9123_739v1 _ M1 1 1 0 hP2 (by decide) (by decide) (by decide) (by decide) (mUp_at e4) (by first | assumption | omega) (by first | assumption | omega)) (cqI ?_))))
      rintro v37 M31 ⟨hP32, hQ33, h38, h39, h35, xh36⟩
      obtain rfl := Fr.same hQ33
      refine wk_ifne r122_24 ⟨by omega, by omega⟩ ?_ ?_
      · intro h40
        refine wk_al0 r122_29 (wk_cv1 r122_30 kc_739_74 rfl (m9074_739 _ M1 x739_7 hP2 (mUp_no e4 ex739_7 (Or.inr (by decide))) (by first | assumption | omega) (by first | assumption | omega)) (cqI ?_))
        rintro v46 M41 ⟨hP42, hQ43, h47, h48, xh45⟩
        obtain rfl := Fr.same hQ43
        refine wk_c3 r122_33 ?_
        refine wk_icle r122_36 ⟨by omega, by omega⟩ (by decide) ?_ ?_
        · intro h49
          have pr50 : CFP M1 := by unfold CFP; rw [(mUp_no e4 ex739_7 (Or.inr (by decide)))]; rw [← xh45]; omega
          refine wk_al0 r122_42 (wk_getfb r122_43 fd_739_15 (bf_739_15 hP2) ?_)
          intro v51 h53 h54 e52
          refine wk_c1 r122_46 (wk_iadd r122_47 (wk_c2 r122_48 ?_))
          refine wk_icle r122_50 ⟨by omega, by omega⟩ (by decide) ?_ ?_
          · intro h55
            refine wk_c1 r122_55 (wk_is2 r122_56 rfl ?_)
            have c57_4426 : ∀ (k4426 : Nat) (M4275 : Mm) (v4272 : Int), (210 - v4272).toNat = k4426 → Pw M4275 → Fr fm_m9122_739 M0 M4275 → M4275 739 13 = x739_13 → M4275 739 7 = x739_7 → M4275 739 1 = x739_1 → M4275 739 0 = 0 → M4275 739 15 = v51 → 0 ≤ v4272 → v4272 ≤ 210 → (WS M4275) → (QW M4275) → (CFP M4275) → Wp B (d + 6) 122 57 [some (R 739), some (I p1), some (I v4272), none, none] [] M4275 Q := by
              refine lp_ind ?_
              intro k4426 ih4426 M4275 v4272 hk4426 hP4276 hF4277 e4278 e4279 e4280 e4281 e4282 h4273 h4274 pr4283 pr4284 pr4285
              refine wk_il2 r122_57 (wk_c2 r122_58 (wk_al0 r122_60 (wk_getfi r122_61 fd_739_1 e4280 (wk_imul r122_64 ?_))))
              refine wk_icge r122_65 ⟨by omega, by omega⟩ ⟨by omega, by omega⟩ ?_ ?_
              · intro h4286
                refine wk_c1 r122_119 (wk_is2 r122_120 rfl ?_)
                have c121_4382 : ∀ (k4382 : Nat) (M4290 : Mm) (v4287 : Int), (210 - v4287).toNat = k4382 → Pw M4290 → Fr fm_m9122_739 M0 M4290 → M4290 739 13 = x739_13 → M4290 739 7 = x739_7 → M4290 739 1 = x739_1 → M4290 739 0 = 0 → M4290 739 15 = v51 → 0 ≤ v4287 → v4287 ≤ 210 → (WS M4290) → (QW M4290) → (CFP M4290) → Wp B (d + 6) 122 121 [some (R 739), some (I p1), some (I v4287), none, none] [] M4290 Q := by
                  refine lp_ind ?_
                  intro k4382 ih4382 M4290 v4287 hk4382 hP4291 hF4292 e4293 e4294 e4295 e4296 e4297 h4288 h4289 pr4298 pr4299 pr4300
                  refine wk_il2 r122_121 (wk_c2 r122_122 (wk_al0 r122_124 (wk_getfi r122_125 fd_739_1 e4295 (wk_imul r122_128 ?_))))
                  refine wk_icge r122_129 ⟨by omega, by omega⟩ ⟨by omega, by omega⟩ ?_ ?_
                  · intro h4301
                    refine wk_al0 r122_243 (wk_cv1 r122_244 kc_739_64 rfl (m9064_739 _ M4290 hP4291 pr4298 pr4299) (cqI ?_))
                    rintro v4308 M4302 ⟨hP4303, hQ4304, h4309, h4310, pr4306, pr4307⟩
                    have hF4305 : Fr fm_m9122_739 M0 M4302 := hF4292.tr hQ4304 rfl
                    refine wk_popi r122_247 (wk_c1 r122_248 ?_)
                    subst hQ; exact wk_iret r122_249 (⟨rfl, _, rfl, hP4303, hF4305, by omega, by omega, pr4306, pr4307⟩)
                  · intro h4311
                    refine wk_il2 r122_132 (wk_c2 r122_133 (wk_irem r122_135 ⟨by omega, by omega⟩ (by decide) (wk_al0 r122_136 (wk_getfi r122_137 fd_739_13 e4293 ?_))))
                    refine wk_iclt r122_140 ⟨by omega, by omega⟩ ⟨by omega, by omega⟩ ?_ ?_
                    · intro h4313
                      refine wk_al0 r122_146 (wk_il2 r122_147 (wk_cv2 r122_148 kc_739_106 rfl (m9106_739 _ M4290 v4287 x739_13 x739_7 hP4291 (by omega) (by omega) e4293 (by first | assumption | omega) (by first | assumption | omega) e4294 (by first | assumption | omega) (by first | assumption | omega) (by omega) pr4298 pr4299 pr4300) (cqI ?_)))
                      rintro v4321 M4314 ⟨hP4315, hQ4316, h4322, h4323, pr4318, pr4319, pr4320⟩
                      have hF4317 : Fr fm_m9122_739 M0 M4314 := hF4292.tr hQ4316 rfl
                      refine wk_is3 r122_151 rfl (wk_al0 r122_152 (wk_getfr r122_153 fd_739_16 (br_739_16 hP4315) (wk_al0 r122_156 (wk_getfi r122_157 fd_739_15 ((hQ4316.at g_739_15 rfl).trans e4297) (wk_il2 r122_160 (wk_c2 r122_161 (wk_idiv r122_163 ⟨by omega, by omega⟩ (by decide) (wk_iast r122_164 ar_748 ⟨by omega, by omega⟩ (wk_nw (ga_748 _) rfl hP4315 hF4317 (ua_748 ⟨by omega, by omega⟩) ?_)))))))))
                      intro M4324 hP4325 hF4326 e4327
                      refine wk_il2 r122_165 (wk_is4 r122_166 rfl ?_)
                      have c168_4380 : ∀ (k4380 : Nat) (M4331 : Mm) (v4328 : Int), (210 - v4328).toNat = k4380 → Pw M4331 → Fr fm_m9122_739 M0 M4331 → M4331 739 13 = x739_13 → M4331 739 7 = x739_7 → M4331 739 1 = x739_1 → M4331 739 0 = 0 → M4331 739 15 = v51 → 0 ≤ v4328 → v4328 ≤ 210 → (WS M4331) → (QW M4331) → (CFP M4331) → Wp B (d + 6) 122 168 [some (R 739), some (I p1), some (I v4287), some (I v4321), some (I v4328)] [] M4331 Q := by
                        refine lp_ind ?_
                        intro k4380 ih4380 M4331 v4328 hk4380 hP4332 hF4333 e4334 e4335 e4336 e4337 e4338 h4329 h4330 pr4339 pr4340 pr4341
                        refine wk_il4 r122_168 (wk_c2 r122_170 (wk_al0 r122_172 (wk_getfi r122_173 fd_739_1 e4336 (wk_imul r122_176 ?_))))
                        refine wk_icge r122_177 ⟨by omega, by omega⟩ ⟨by omega, by omega⟩ ?_ ?_
                        · intro h4342
                          refine wk_inc2 r122_237 rfl (wk_goto r122_240 ?_)
                          exact wp_fg (le_s (le_s (le_s (le_n (le_n le_0))))) (ih4382 (210 - (v4287 + 1)).toNat (by omega) M4331 (v4287 + 1) rfl hP4332 hF4333 e4334 e4335 e4336 e4337 e4338 (by first | assumption | omega) (by first | assumption | omega) pr4339 pr4340 pr4341)
                        · intro h4343
                          refine wk_il4 r122_180 (wk_c2 r122_182 (wk_irem r122_184 ⟨by omega, by omega⟩ (by decide) (wk_al0 r122_185 (wk_getfi r122_186 fd_739_13 e4334 ?_))))
                          refine wk_icge r122_189 ⟨by omega, by omega⟩ ⟨by omega, by omega⟩ ?_ ?_
                          · intro h4345
                            refine wk_inc4 r122_231 rfl (wk_goto r122_234 ?_)
                            exact wp_fg (le_s (le_s (le_s (le_s (le_s le_0))))) (ih4380 (210 - (v4328 + 1)).toNat (by omega) M4331 (v4328 + 1) rfl hP4332 hF4333 e4334 e4335 e4336 e4337 e4338 (by first | assumption | omega) (by first | assumption | omega) pr4339 pr4340 pr4341)
                          · intro h4346
                            refine wk_al0 r122_192 (wk_il3 r122_193 (wk_il4 r122_194 (wk_il1 r122_196 (wk_cv4 r122_197 kc_739_103 rfl (m9103_739 _ M4331 v4321 v4328 p1 x739_13 v51 hP4332 (by omega) (by omega) (by omega) (by omega) (by omega) (by omega) e4334 (by first | assumption | omega) (by first | assumption | omega) e4338 (by first | assumption | omega) (by first | assumption | omega) (by omega) pr4339 pr4340 pr4341) (cqI ?_)))))
                            rintro v4354 M4347 ⟨hP4348, hQ4349, h4355, h4356, pr4351, pr4352, pr4353⟩
                            have hF4350 : Fr fm_m9122_739 M0 M4347 := hF4333.tr hQ4349 rfl
                            refine wk_ifne r122_200 ⟨by omega, by omega⟩ ?_ ?_
                            · intro h4357
                              refine wk_al0 r122_206 (wk_c1 r122_207 (wk_putfi81 r122_208 fd_739_65 (wk_nw g_739_65 rfl hP4348 hF4350 (uf_739_65 (by decide)) ?_)))
                              intro M4358 hP4359 hF4360 e4361
                              refine wk_al0 r122_211 (wk_getfr r122_212 fd_739_66 (br_739_66 hP4359) (wk_c1 r122_215 (wk_il2 r122_216 (wk_iast r122_217 ar_767 (by decide) (wk_nw (ga_767 _) rfl hP4359 hF4360 (ua_767 ⟨by omega, by omega⟩) ?_)))))
                              intro M4362 hP4363 hF4364 e4365
                              refine wk_al0 r122_218 (wk_getfr r122_219 fd_739_66 (br_739_66 hP4363) (wk_c1 r122_222 (wk_il4 r122_223 (wk_iast r122_225 ar_767 (by decide) (wk_nw (ga_767 _) rfl hP4363 hF4364 (ua_767 ⟨by omega, by omega⟩) ?_)))))
                              intro M4366 hP4367 hF4368 e4369
                              refine wk_al0 r122_226 (wk_cv1 r122_227 kc_739_64 rfl (m9064_739 _ M4366 hP4367 (WS_sm (Sm.up e4369 (ga_767 _) rfl) (WS_sm (Sm.up e4365 (ga_767 _) rfl) (WS_sm (Sm.up e4361 g_739_65 rfl) pr4351))) (QW_sm (Sm.up e4369 (ga_767 _) rfl) (QW_sm (Sm.up e4365 (ga_767 _) rfl) (QW_sm (Sm.up e4361 g_739_65 rfl) pr4352)))) (cqI ?_))
                              rintro v4376 M4370 ⟨hP4371, hQ4372, h4377, h4378, pr4374, pr4375⟩
                              have hF4373 : Fr fm_m9122_739 M0 M4370 := hF4368.tr hQ4372 rfl
                              subst hQ; exact wk_iret r122_230 (⟨rfl, _, rfl, hP4371, hF4373, by omega, by omega, pr4374, pr4375⟩)
                            · intro h4379
                              refine wk_goto r122_203 (wk_inc4 r122_231 rfl (wk_goto r122_234 ?_))
                              exact wp_fg (le_s (le_s (le_s (le_s (le_s le_0))))) (ih4380 (210 - (v4328 + 1)).toNat (by omega) M4347 (v4328 + 1) rfl hP4348 hF4350 ((hQ4349.at g_739_13 rfl).trans e4334) ((hQ4349.at g_739_7 rfl).trans e4335) ((hQ4349.at g_739_1 rfl).trans e4336) ((hQ4349.at g_739_0 rfl).trans e4337) ((hQ4349.at g_739_15 rfl).trans e4338) (by first | assumption | omega) (by first | assumption | omega) pr4351 pr4352 pr4353)
                      exact wp_fg (le_s (le_s (le_s (le_s (le_s le_0))))) (c168_4380 _ M4324 v4287 rfl hP4325 hF4326 (mUp_no e4327 ((hQ4316.at g_739_13 rfl).trans e4293) (Or.inl (by decide))) (mUp_no e4327 ((hQ4316.at g_739_7 rfl).trans e4294) (Or.inl (by decide))) (mUp_no e4327 ((hQ4316.at g_739_1 rfl).trans e4295) (Or.inl (by decide))) (mUp_no e4327 ((hQ4316.at g_739_0 rfl).trans e4296) (Or.inl (by decide))) (mUp_no e4327 ((hQ4316.at g_739_15 rfl).trans e4297) (Or.inl (by decide))) (by first | assumption | omega) (by first | assumption | omega) (WS_sm (Sm.up e4327 (ga_748 _) rfl) pr4318) (QW_sm (Sm.up e4327 (ga_748 _) rfl) pr4319) (CFP_sm (Sm.up e4327 (ga_748 _) rfl) pr4320))
                    · intro h4381
                      refine wk_goto r122_143 (wk_inc2 r122_237 rfl (wk_goto r122_240 ?_))
                      exact wp_fg (le_s (le_s (le_s (le_s (le_s le_0))))) (ih4382 (210 - (v4287 + 1)).toNat (by omega) M4290 (v4287 + 1) rfl hP4291 hF4292 e4293 e4294 e4295 e4296 e4297 (by first | assumption | omega) (by first | assumption | omega) pr4298 pr4299 pr4300)
                exact wp_fg (le_s (le_s (le_s (le_s (le_s le_0))))) (c121_4382 _ M4275 0 rfl hP4276 hF4277 e4278 e4279 e4280 e4281 e4282 (by first | assumption | omega) (by first | assumption | omega) pr4283 pr4284 pr4285)
              · intro h4383
                refine wk_il2 r122_68 (wk_c2 r122_69 (wk_irem r122_71 ⟨by omega, by omega⟩ (by decide) (wk_al0 r122_72 (wk_getfi r122_73 fd_739_13 e4278 ?_))))
                refine wk_icge r122_76 ⟨by omega, by omega⟩ ⟨by omega, by omega⟩ ?_ ?_
                · intro h4385
                  refine wk_inc2 r122_113 rfl (wk_goto r122_116 ?_)
                  exact wp_fg (le_s (le_s (le_s (le_s (le_s le_0))))) (ih4426 (210 - (v4272 + 1)).toNat (by omega) M4275 (v4272 + 1) rfl hP4276 hF4277 e4278 e4279 e4280 e4281 e4282 (by first | assumption | omega) (by first | assumption | omega) pr4283 pr4284 pr4285)
                · intro h4386
                  refine wk_al0 r122_79 (wk_al0 r122_80 (wk_il2 r122_81 (wk_cv2 r122_82 kc_739_106 rfl (m9106_739 _ M4275 v4272 x739_13 x739_7 hP4276 (by omega) (by omega) e4278 (by first | assumption | omega) (by first | assumption | omega) e4279 (by first | assumption | omega) (by first | assumption | omega) (by omega) pr4283 pr4284 pr4285) (cqI ?_))))
                  rintro v4394 M4387 ⟨hP4388, hQ4389, h4395, h4396, pr4391, pr4392, pr4393⟩
                  have hF4390 : Fr fm_m9122_739 M0 M4387 := hF4277.tr hQ4389 rfl
                  refine wk_c1 r122_85 (wk_il1 r122_86 (wk_cv4 r122_87 kc_739_103 rfl (m9103_739 _ M4387 v4394 (-1) p1 x739_13 v51 hP4388 (by omega) (by omega) (by decide) (by decide) (by omega) (by omega) ((hQ4389.at g_739_13 rfl).trans e4278) (by first | assumption | omega) (by first | assumption | omega) ((hQ4389.at g_739_15 rfl).trans e4282) (by first | assumption | omega) (by first | assumption | omega) (by omega) pr4391 pr4392 pr4393) (cqI ?_)))
                  rintro v4404 M4397 ⟨hP4398, hQ4399, h4405, h4406, pr4401, pr4402, pr4403⟩
                  have hF4400 : Fr fm_m9122_739 M0 M4397 := hF4390.tr hQ4399 rfl
                  refine wk_ifne r122_90 ⟨by omega, by omega⟩ ?_ ?_
                  · intro h4407
                    refine wk_al0 r122_96 (wk_c1 r122_97 (wk_putfi81 r122_98 fd_739_65 (wk_nw g_739_65 rfl hP4398 hF4400 (uf_739_65 (by decide)) ?_)))
                    intro M4408 hP4409 hF4410 e4411
                    refine wk_al0 r122_101 (wk_getfr r122_102 fd_739_66 (br_739_66 hP4409) (wk_c1 r122_105 (wk_il2 r122_106 (wk_iast r122_107 ar_767 (by decide) (wk_nw (ga_767 _) rfl hP4409 hF4410 (ua_767 ⟨by omega, by omega⟩) ?_)))))
                    intro M4412 hP4413 hF4414 e4415
                    refine wk_al0 r122_108 (wk_cv1 r122_109 kc_739_64 rfl (m9064_739 _ M4412 hP4413 (WS_sm (Sm.up e4415 (ga_767 _) rfl) (WS_sm (Sm.up e4411 g_739_65 rfl) pr4401)) (QW_sm (Sm.up e4415 (ga_767 _) rfl) (QW_sm (Sm.up e4411 g_739_65 rfl) pr4402))) (cqI ?_))
                    rintro v4422 M4416 ⟨hP4417, hQ4418, h4423, h4424, pr4420, pr4421⟩
                    have hF4419 : Fr fm_m9122_739 M0 M4416 := hF4414.tr hQ4418 rfl
                    subst hQ; exact wk_iret r122_112 (⟨rfl, _, rfl, hP4417, hF4419, by omega, by omega, pr4420, pr4421⟩)
                  · intro h4425
                    refine wk_goto r122_93 (wk_inc2 r122_113 rfl (wk_goto r122_116 ?_))
                    exact wp_fg (le_s (le_s (le_s (le_s (le_s le_0))))) (ih4426 (210 - (v4272 + 1)).toNat (by omega) M4397 (v4272 + 1) rfl hP4398 hF4400 ((hQ4399.at g_739_13 rfl).trans ((hQ4389.at g_739_13 rfl).trans e4278)) ((hQ4399.at g_739_7 rfl).trans ((hQ4389.at g_739_7 rfl).trans e4279)) ((hQ4399.at g_739_1 rfl).trans ((hQ4389.at g_739_1 rfl).trans e4280)) ((hQ4399.at g_739_0 rfl).trans ((hQ4389.at g_739_0 rfl).trans e4281)) ((hQ4399.at g_739_15 rfl).trans ((hQ4389.at g_739_15 rfl).trans e4282)) (by first | assumption | omega) (by first | assumption | omega) pr4401 pr4402 pr4403)
            exact wp_fg (le_s (le_s (le_s (le_s (le_s le_0))))) (c57_4426 _ M1 0 rfl hP2 hF3 (mUp_no e4 ex739_13 (Or.inr (by decide))) (mUp_no e4 ex739_7 (Or.inr (by decide))) (mUp_no e4 ex739_1 (Or.inr (by decide))) (mUp_at e4) e52 (by first | assumption | omega) (by first | assumption | omega) (WS_sm (Sm.up e4 g_739_0 rfl) pp_WS) (QW_sm (Sm.up e4 g_739_0 rfl) pp_QW) pr50)
          · intro h4427
            refine wk_c1 r122_53 ?_
            subst hQ; exact wk_iret r122_54 (⟨rfl, _, rfl, hP2, hF3, by omega, by omega, (WS_sm (Sm.up e4 g_739_0 rfl) pp_WS), (QW_sm (Sm.up e4 g_739_0 rfl) pp_QW)⟩)
        · intro h4428
          refine wk_c2 r122_39 ?_
          subst hQ; exact wk_iret r122_41 (⟨rfl, _, rfl, hP2, hF3, by omega, by omega, (WS_sm (Sm.up e4 g_739_0 rfl) pp_WS), (QW_sm (Sm.up e4 g_739_0 rfl) pp_QW)⟩)
      · intro h4429
        refine wk_c1 r122_27 ?_
        subst hQ; exact wk_iret r122_28 (⟨rfl, _, rfl, hP2, hF3, by omega, by omega, (WS_sm (Sm.up e4 g_739_0 rfl) pp_WS), (QW_sm (Sm.up e4 g_739_0 rfl) pp_QW)⟩)
def fm_m9108_739 : Nat := 5449384903194070590894782465179787207261246102259942362722533676274317000704
set_option maxHeartbeats 20000000 in
/-- IslandHallModel.makes -/
theorem m9108_739 {B : eB} (d : Nat) (M0 : Mm) (x739_1 : Int) (x739_2 : Int) (x739_41 : Int) (x739_43 : Int) (x739_40 : Int) (fe : Int) (Rr : Int) (hP0 : Pw M0) (ex739_1 : M0 739 1 = x739_1) (lx739_1 : 0 ≤ x739_1) (ux739_1 : x739_1 ≤ 7) (ex739_2 : M0 739 2 = x739_2) (lx739_2 : 1 ≤ x739_2) (ux739_2 : x739_2 ≤ 4) (ex739_41 : M0 739 41 = x739_41) (lx739_41 : 1 ≤ x739_41) (ux739_41 : x739_41 ≤ 7) (ex739_43 : M0 739 43 = x739_43) (lx739_43 : 1 ≤ x739_43) (ux739_43 : x739_43 ≤ 2) (ex739_40 : M0 739 40 = x739_40) (lx739_40 : (-1) ≤ x739_40) (ux739_40 : x739_40 ≤ 6) (xp0 : x739_41 = 1 ∨ x739_41 = 7) (xp1 : Rr = x739_2 * x739_41 * x739_43) (xp2 : Rr * PRD (fun k => M0 740 k) 0 x739_1.toNat ≤ 3000) (xp3 : ∀ k : Int, 0 ≤ k → k < 7 → 1 ≤ M0 740 k) (pp_FF : FFP M0 fe) : Ct B (d + 7) 108 [R 739] M0 (qV fun M => Pw M ∧ Fr fm_m9108_739 M0 M ∧ (WS M) ∧ (QW M)) := by
  refine ct_of (d := d + 6) (k := 4) (L := [some (R 739), none, none, none, none]) rfl rfl rfl ?_
  have hF0 := Fr.rf fm_m9108_739 M0
  generalize hQ : (qV fun M => Pw M ∧ Fr fm_m9108_739 M0 M ∧ (WS M) ∧ (QW M)) = Q
  rcases (show x739_41 = 1 ∨ x739_41 = 7 by omega) with h1 | h2
  · rcases (show x739_43 = 1 ∨ x739_43 = 2 by omega) with h3 | h4
    · have hRr : Rr = 1 * x739_2 := by rw [xp1, show x739_41 = 1 by omega, show x739_43 = 1 by omega]; omega
      have hmb : ∀ k : Int, 0 ≤ k → k < 7 → 1 ≤ M0 740 k ∧ M0 740 k ≤ 31 := fun k a b => ⟨xp3 k a b, (ba_740 hP0 a b).2⟩
      refine wk_al0 r108_0 (wk_c1 r108_1 (wk_putfi81 r108_2 fd_739_13 (wk_nw g_739_13 rfl hP0 hF0 (uf_739_13 (by decide)) ?_)))
      intro M5 hP6 hF7 e8
      refine wk_al0 r108_5 (wk_c1 r108_6 (wk_putfi81 r108_7 fd_739_15 (wk_nw g_739_15 rfl hP6 hF7 (uf_739_15 (by decide)) ?_)))
      intro M9 hP10 hF11 e12
      refine wk_al0 r108_10 (wk_c1 r108_11 (wk_putfi81 r108_12 fd_739_21 (wk_nw g_739_21 rfl hP10 hF11 (uf_739_21 (by decide)) ?_)))
      intro M13 hP14 hF15 e16
      refine wk_al0 r108_15 (wk_c1 r108_16 (wk_putfi81 r108_17 fd_739_24 (wk_nw g_739_24 rfl hP14 hF15 (uf_739_24 (by decide)) ?_)))
      intro M17 hP18 hF19 e20
      refine wk_al0 r108_20 (wk_c1 r108_21 (wk_putfi81 r108_22 fd_739_64 (wk_nw g_739_64 rfl hP18 hF19 (uf_739_64 (by decide)) ?_)))
      intro M21 hP22 hF23 e24
      refine wk_al0 r108_25 (wk_c1 r108_26 (wk_putfi81 r108_27 fd_739_65 (wk_nw g_739_65 rfl hP22 hF23 (uf_739_65 (by decide)) ?_)))
      intro M25 hP26 hF27 e28
      refine wk_al0 r108_30 (wk_c1 r108_31 (wk_putfi81 r108_32 fd_739_7 (wk_nw g_739_7 rfl hP26 hF27 (uf_739_7 (by decide)) ?_)))
      intro M29 hP30 hF31 e32
      refine wk_c1 r108_35 (wk_is1 r108_36 rfl ?_)
      have c37_3739 : ∀ (k3739 : Nat) (M3504 : Mm) (v3501 : Int), (7 - v3501).toNat = k3739 → Pw M3504 → Fr fm_m9108_739 M0 M3504 → M3504 739 1 = x739_1 → M3504 739 2 = x739_2 → M3504 739 41 = x739_41 → M3504 739 43 = x739_43 → M3504 739 40 = x739_40 → M3504 739 13 = 0 → M3504 739 15 = 0 → M3504 739 21 = 0 → M3504 739 24 = (-1) → M3504 739 64 = (-1) → M3504 739 65 = 0 → M3504 739 7 = 0 → 0 ≤ v3501 → v3501 ≤ 7 → (FFP M3504 fe) → (∀ k : Int, 0 ≤ k → k < v3501 → M3504 760 k = 0) → Wp B (d + 6) 108 37 [some (R 739), some (I v3501), none, none, none] [] M3504 Q := by
        refine lp_ind ?_
        intro k3739 ih3739 M3504 v3501 hk3739 hP3505 hF3506 e3507 e3508 e3509 e3510 e3511 e3512 e3513 e3514 e3515 e3516 e3517 e3518 h3502 h3503 pr3519 ti3520
        refine wk_il1 r108_37 (wk_al0 r108_38 (wk_getfi r108_39 fd_739_1 e3507 ?_))
        refine wk_icge r108_42 ⟨by omega, by omega⟩ ⟨by omega, by omega⟩ ?_ ?_
        · intro h3521
          have hCA := CH_all (M := M3504) (fun k a b => ti3520 k a (by have := e3507; omega)) (fun k a b => by rw [hF3506.at (ga_740 k) rfl]; exact hmb k a b) (by have := e3507; omega)
          have pr3522 : CHP M3504 := hCA.1
          refine wk_c1 r108_58 (wk_is1 r108_59 rfl ?_)
          have c60_3733 : ∀ (k3733 : Nat) (M3526 : Mm) (v3523 : Int) (v3529 : Int), (4000 * v3523 - VC M3526).toNat = k3733 → Pw M3526 → Fr fm_m9108_739 M0 M3526 → M3526 739 7 = v3529 → M3526 739 1 = x739_1 → M3526 739 2 = x739_2 → M3526 739 41 = x739_41 → M3526 739 43 = x739_43 → M3526 739 40 = x739_40 → M3526 739 13 = 0 → M3526 739 15 = 0 → M3526 739 21 = 0 → M3526 739 24 = (-1) → M3526 739 64 = (-1) → M3526 739 65 = 0 → 0 ≤ v3523 → v3523 ≤ 1 → 0 ≤ v3529 → v3529 ≤ 3000 → (FFP M3526 fe) → (CHP M3526) → 0 ≤ (-1) * v3523 + v3529 + 1 → (v3523 = 1 → v3529 ≤ Rr * VC M3526) → Wp B (d + 6) 108 60 [some (R 739), some (I v3523), none, none, none] [] M3526 Q := by
            refine lp_ind ?_
            intro k3733 ih3733 M3526 v3523 v3529 hk3733 hP3527 hF3528 e3532 e3533 e3534 e3535 e3536 e3537 e3538 e3539 e3540 e3541 e3542 e3543 h3524 h3525 h3530 h3531 pr3544 pr3545 h3546 ti3547
            refine wk_il1 r108_60 ?_
            refine wk_ifeq r108_61 ⟨by omega, by omega⟩ ?_ ?_
            · intro h3548
              subst hQ; exact wk_ret r108_218 (⟨rfl, hP3527, hF3528, (WS_0 e3538), (QW_0 e3540)⟩)
            · intro h3549
              obtain ⟨cv, hcv⟩ : ∃ x, VC M3526 = x := ⟨_, rfl⟩
              obtain ⟨xq, hxq⟩ : ∃ x, Rr * cv = x := ⟨_, rfl⟩
              have hw0 : v3529 ≤ xq := by rw [← hxq, ← hcv]; exact ti3547 (by omega)
              have hw1 : xq + Rr ≤ 3000 := by rw [← hxq, ← hcv]; exact VC_lt pr3545 (by omega) (by rw [e3533, PRD_M (fun k => hF3528.at (ga_740 k) rfl)]; exact xp2)
              have hcv0 : 0 ≤ cv := by rw [← hcv]; exact VC_nn hP3527 (by have := e3533; omega) (fun i a b => (ba_760 hP3527 a b).1)
              have hcv1 : cv ≤ 2999 := cv_ub (by omega) hcv0 hxq hw1
              refine wk_c1 r108_64 (wk_is2 r108_65 rfl ?_)
              have c66_3732 : ∀ (k3732 : Nat) (M3553 : Mm) (v3550 : Int) (v3556 : Int), (4 - v3550).toNat = k3732 → Pw M3553 → Fr fm_m9108_739 M0 M3553 → M3553 739 7 = v3556 → M3553 739 1 = x739_1 → M3553 739 2 = x739_2 → M3553 739 41 = x739_41 → M3553 739 43 = x739_43 → M3553 739 40 = x739_40 → M3553 739 13 = 0 → M3553 739 15 = 0 → M3553 739 21 = 0 → M3553 739 24 = (-1) → M3553 739 64 = (-1) → M3553 739 65 = 0 → 0 ≤ v3550 → v3550 ≤ 4 → 0 ≤ v3556 → v3556 ≤ 3000 → (FFP M3553 fe) → (CHP M3553) → (VC M3553 = cv) → 0 ≤ (-1) * v3556 + 1 * xq + 1 * v3550 → 0 ≤ (-1) * v3556 + 1 * xq + 2 * v3550 → 0 ≤ (-1) * v3556 + 1 * xq + 7 * v3550 → 0 ≤ (-1) * v3556 + 1 * xq + 14 * v3550 → 0 ≤ (-1) * v3550 + 1 * x739_2 → Wp B (d + 6) 108 66 [some (R 739), none, some (I v3550), none, none] [] M3553 Q := by
                refine lp_ind ?_
                intro k3732 ih3732 M3553 v3550 v3556 hk3732 hP3554 hF3555 e3559 e3560 e3561 e3562 e3563 e3564 e3565 e3566 e3567 e3568 e3569 e3570 h3551 h3552 h3557 h3558 pr3571 pr3572 pr3573 h3574 h3575 h3576 h3577 h3578
                refine wk_il2 r108_66 (wk_al0 r108_67 (wk_getfi r108_68 fd_739_2 e3561 ?_))
                refine wk_icge r108_71 ⟨by omega, by omega⟩ ⟨by omega, by omega⟩ ?_ ?_
                · intro h3579
                  have hCE : VC M3553 = cv := pr3573
                  have hw2 : v3556 ≤ xq + Rr := by omega
                  refine wk_al0 r108_150 (wk_getfi r108_151 fd_739_1 e3560 (wk_c1 r108_154 (wk_isub r108_155 (wk_is2 r108_156 rfl ?_))))
                  have c157_3637 : ∀ (k3637 : Nat) (M3583 : Mm) (v3580 : Int), (v3580 - (-1)).toNat = k3637 → Pw M3583 → Fr fm_m9108_739 M0 M3583 → M3583 739 7 = v3556 → M3583 739 1 = x739_1 → M3583 739 2 = x739_2 → M3583 739 41 = x739_41 → M3583 739 43 = x739_43 → M3583 739 40 = x739_40 → M3583 739 13 = 0 → M3583 739 15 = 0 → M3583 739 21 = 0 → M3583 739 24 = (-1) → M3583 739 64 = (-1) → M3583 739 65 = 0 → (-1) ≤ v3580 → v3580 ≤ 6 → (FFP M3583 fe) → (CHP M3583) → 0 ≤ (-1) * v3580 + 1 * x739_1 + (-1) → (DCI M3583 x739_1 v3580 cv) → Wp B (d + 6) 108 157 [some (R 739), none, some (I v3580), none, none] [] M3583 Q := by
                    refine lp_ind ?_
                    intro k3637 ih3637 M3583 v3580 hk3637 hP3584 hF3585 e3586 e3587 e3588 e3589 e3590 e3591 e3592 e3593 e3594 e3595 e3596 e3597 h3581 h3582 pr3598 pr3599 h3600 ti3601
                    refine wk_il2 r108_157 ?_
                    refine wk_iflt r108_158 ⟨by omega, by omega⟩ ?_ ?_
                    · intro h3602
                      refine wk_il2 r108_191 ?_
                      refine wk_iflt r108_192 ⟨by omega, by omega⟩ ?_ ?_
                      · intro h3603
                        refine wk_c1 r108_199 (wk_is1 r108_200 rfl (wk_il1 r108_201 ?_))
                        refine wk_ifeq r108_202 (by decide) ?_ ?_
                        · intro h3604
                          refine wk_goto r108_215 ?_
                          exact wp_fg (le_s (le_s (le_n (le_s (le_s le_0))))) (ih3733 (4000 * 0 - VC M3583).toNat (by omega) M3583 0 v3556 rfl hP3584 hF3585 e3586 e3587 e3588 e3589 e3590 e3591 e3592 e3593 e3594 e3595 e3596 e3597 (by first | assumption | omega) (by first | assumption | omega) (by first | assumption | omega) (by first | assumption | omega) pr3598 pr3599 (by first | assumption | omega) (fun q => by omega))
                        · intro h3605
                          exfalso
                          omega
                      · intro h3606
                        exfalso
                        omega
                    · intro h3607
                      refine wk_al0 r108_161 (wk_il2 r108_162 (wk_al0 r108_163 (wk_getfr r108_164 fd_739_54 (br_739_54 hP3584) (wk_il2 r108_167 (wk_ialdb r108_168 ar_760 ⟨by omega, by omega⟩ (fun q0 q1 => ba_760 hP3584 q0 q1) ?_)))))
                      intro v3608 h3610 h3611 e3609
                      refine wk_c1 r108_169 (wk_iadd r108_170 (wk_cv3 r108_171 kc_739_57 rfl (m9057_739 _ M3583 v3580 (v3608 + 1) hP3584 (by omega) (by omega) (by omega) (by omega)) (cqI ?_)))
                      rintro v3617 M3612 ⟨hP3613, hQ3614, h3618, h3619, xh3616⟩
                      obtain rfl := Fr.same hQ3614
                      refine wk_c1 r108_174 ?_
                      refine wk_icne r108_175 ⟨by omega, by omega⟩ (by decide) ?_ ?_
                      · intro h3620
                        refine wk_il2 r108_191 ?_
                        refine wk_iflt r108_192 ⟨by omega, by omega⟩ ?_ ?_
                        · intro h3621
                          exfalso
                          omega
                        · intro h3622
                          refine wk_c1 r108_195 (wk_goto r108_196 (wk_is1 r108_200 rfl (wk_il1 r108_201 ?_)))
                          refine wk_ifeq r108_202 (by decide) ?_ ?_
                          · intro h3623
                            exfalso
                            omega
                          · intro h3624
                            refine wk_al0 r108_205 (wk_getfr r108_206 fd_739_54 (br_739_54 hP3584) (wk_il2 r108_209 (wk_dup2 r108_210 (wk_iald r108_211 ar_760 ⟨by omega, by omega⟩ e3609 (wk_c1 r108_212 (wk_iadd r108_213 ?_))))))
                            have h3625 : (v3608 + 1) ≤ 9 := by have := cT_lt ((xh3616).2 (by omega)); omega
                            refine wk_iast r108_214 ar_760 ⟨by omega, by omega⟩ (wk_nw (ga_760 _) rfl hP3584 hF3585 (ua_760 ⟨by omega, by omega⟩) ?_)
                            intro M3626 hP3627 hF3628 e3629
                            have hVC : VC M3626 = cv + 1 := DC_inc ti3601 e3587 (by omega) (by omega) e3609 e3629
                            have pr3630 : CHP M3626 := CH_inc pr3599 (by have := (xh3616).2 (by omega); omega) e3629
                            refine wk_goto r108_215 ?_
                            exact wp_fg (le_s (le_s (le_n (le_s (le_s le_0))))) (ih3733 (4000 * 1 - VC M3626).toNat (by omega) M3626 1 v3556 rfl hP3627 hF3628 (mUp_no e3629 e3586 (Or.inl (by decide))) (mUp_no e3629 e3587 (Or.inl (by decide))) (mUp_no e3629 e3588 (Or.inl (by decide))) (mUp_no e3629 e3589 (Or.inl (by decide))) (mUp_no e3629 e3590 (Or.inl (by decide))) (mUp_no e3629 e3591 (Or.inl (by decide))) (mUp_no e3629 e3592 (Or.inl (by decide))) (mUp_no e3629 e3593 (Or.inl (by decide))) (mUp_no e3629 e3594 (Or.inl (by decide))) (mUp_no e3629 e3595 (Or.inl (by decide))) (mUp_no e3629 e3596 (Or.inl (by decide))) (mUp_no e3629 e3597 (Or.inl (by decide))) (by first | assumption | omega) (by first | assumption | omega) (by first | assumption | omega) (by first | assumption | omega) (FFP_sm (Sm.up e3629 (ga_760 _) rfl) pr3598) pr3630 (by first | assumption | omega) (fun _ => by rw [mul_ub hVC hxq]; omega))
                      · intro h3631
                        refine wk_al0 r108_178 (wk_getfr r108_179 fd_739_54 (br_739_54 hP3584) (wk_il2 r108_182 (wk_c1 r108_183 (wk_iast r108_184 ar_760 ⟨by omega, by omega⟩ (wk_nw (ga_760 _) rfl hP3584 hF3585 (ua_760 (by decide)) ?_)))))
                        intro M3632 hP3633 hF3634 e3635
                        have pr3636 : CHP M3632 := CH_zero pr3599 (by rw [hF3585.at (ga_740 _) rfl]; exact cT_pos (hmb v3580 (by omega) (by omega))) e3635
                        refine wk_inc2 r108_185 rfl (wk_goto r108_188 ?_)
                        exact wp_fg (le_s (le_s (le_s (le_s (le_s le_0))))) (ih3637 ((v3580 + (-1)) - (-1)).toNat (by omega) M3632 (v3580 + (-1)) rfl hP3633 hF3634 (mUp_no e3635 e3586 (Or.inl (by decide))) (mUp_no e3635 e3587 (Or.inl (by decide))) (mUp_no e3635 e3588 (Or.inl (by decide))) (mUp_no e3635 e3589 (Or.inl (by decide))) (mUp_no e3635 e3590 (Or.inl (by decide))) (mUp_no e3635 e3591 (Or.inl (by decide))) (mUp_no e3635 e3592 (Or.inl (by decide))) (mUp_no e3635 e3593 (Or.inl (by decide))) (mUp_no e3635 e3594 (Or.inl (by decide))) (mUp_no e3635 e3595 (Or.inl (by decide))) (mUp_no e3635 e3596 (Or.inl (by decide))) (mUp_no e3635 e3597 (Or.inl (by decide))) (by first | assumption | omega) (by first | assumption | omega) (FFP_sm (Sm.up e3635 (ga_760 _) rfl) pr3598) pr3636 (by first | assumption | omega) (DC_st ti3601 (by omega) (by omega) (by have := (xh3616).1 (by omega); rw [e3609]; omega) (by have := pr3599 v3580 (by omega) (by rw [e3587]; omega); exact this) e3635))
                  exact wp_fg (le_s (le_s (le_s (le_s (le_s le_0))))) (c157_3637 _ M3553 (x739_1 - 1) rfl hP3554 hF3555 e3559 e3560 e3561 e3562 e3563 e3564 e3565 e3566 e3567 e3568 e3569 e3570 (by first | assumption | omega) (by first | assumption | omega) pr3571 pr3572 (by first | assumption | omega) (DC_in e3560 (by omega) hCE))
                · intro h3638
                  refine wk_c1 r108_74 (wk_is3 r108_75 rfl ?_)
                  have c76_3731 : ∀ (k3731 : Nat) (M3642 : Mm) (v3639 : Int) (v3645 : Int), (1 - v3639).toNat = k3731 → Pw M3642 → Fr fm_m9108_739 M0 M3642 → M3642 739 7 = v3645 → M3642 739 1 = x739_1 → M3642 739 2 = x739_2 → M3642 739 41 = x739_41 → M3642 739 43 = x739_43 → M3642 739 40 = x739_40 → M3642 739 13 = 0 → M3642 739 15 = 0 → M3642 739 21 = 0 → M3642 739 24 = (-1) → M3642 739 64 = (-1) → M3642 739 65 = 0 → 0 ≤ v3639 → v3639 ≤ 1 → 0 ≤ v3645 → v3645 ≤ 3000 → (FFP M3642 fe) → (CHP M3642) → (VC M3642 = cv) → 0 ≤ (-1) * v3645 + 1 * xq + 1 * v3550 + 1 * v3639 → 0 ≤ (-1) * v3645 + 1 * xq + 2 * v3550 + 2 * v3639 → 0 ≤ (-1) * v3645 + 1 * xq + 7 * v3550 + 1 * v3639 → 0 ≤ (-1) * v3645 + 1 * xq + 14 * v3550 + 2 * v3639 → 0 ≤ (-1) * v3550 + 1 * x739_2 → 0 ≤ (-1) * v3639 + 1 * x739_41 → Wp B (d + 6) 108 76 [some (R 739), none, some (I v3550), some (I v3639), none] [] M3642 Q := by
                    refine lp_ind ?_
                    intro k3731 ih3731 M3642 v3639 v3645 hk3731 hP3643 hF3644 e3648 e3649 e3650 e3651 e3652 e3653 e3654 e3655 e3656 e3657 e3658 e3659 h3640 h3641 h3646 h3647 pr3660 pr3661 pr3662 h3663 h3664 h3665 h3666 h3667 h3668
                    refine wk_il3 r108_76 (wk_al0 r108_77 (wk_getfi r108_78 fd_739_41 e3651 ?_))
                    refine wk_icge r108_81 ⟨by omega, by omega⟩ ⟨by omega, by omega⟩ ?_ ?_
                    · intro h3669
                      refine wk_inc2 r108_144 rfl (wk_goto r108_147 ?_)
                      exact wp_fg (le_s (le_s (le_s (le_n (le_s le_0))))) (ih3732 (4 - (v3550 + 1)).toNat (by omega) M3642 (v3550 + 1) v3645 rfl hP3643 hF3644 e3648 e3649 e3650 e3651 e3652 e3653 e3654 e3655 e3656 e3657 e3658 e3659 (by first | assumption | omega) (by first | assumption | omega) (by first | assumption | omega) (by first | assumption | omega) pr3660 pr3661 pr3662 (by first | assumption | omega) (by first | assumption | omega) (by first | assumption | omega) (by first | assumption | omega) (by first | assumption | omega))
                    · intro h3670
                      refine wk_c1 r108_84 (wk_is4 r108_85 rfl ?_)
                      have c87_3730 : ∀ (k3730 : Nat) (M3674 : Mm) (v3671 : Int) (v3677 : Int), (1 - v3671).toNat = k3730 → Pw M3674 → Fr fm_m9108_739 M0 M3674 → M3674 739 7 = v3677 → M3674 739 1 = x739_1 → M3674 739 2 = x739_2 → M3674 739 41 = x739_41 → M3674 739 43 = x739_43 → M3674 739 40 = x739_40 → M3674 739 13 = 0 → M3674 739 15 = 0 → M3674 739 21 = 0 → M3674 739 24 = (-1) → M3674 739 64 = (-1) → M3674 739 65 = 0 → 0 ≤ v3671 → v3671 ≤ 1 → 0 ≤ v3677 → v3677 ≤ 3000 → (FFP M3674 fe) → (CHP M3674) → (VC M3674 = cv) → 0 ≤ (-1) * v3677 + 1 * xq + 1 * v3550 + 1 * v3639 + 1 * v3671 → 0 ≤ (-1) * v3677 + 1 * xq + 2 * v3550 + 2 * v3639 + 1 * v3671 → 0 ≤ (-1) * v3677 + 1 * xq + 7 * v3550 + 1 * v3639 + 1 * v3671 → 0 ≤ (-1) * v3677 + 1 * xq + 14 * v3550 + 2 * v3639 + 1 * v3671 → 0 ≤ (-1) * v3550 + 1 * x739_2 → 0 ≤ (-1) * v3639 + 1 * x739_41 → 0 ≤ (-1) * v3671 + 1 * x739_43 → Wp B (d + 6) 108 87 [some (R 739), none, some (I v3550), some (I v3639), some (I v3671)] [] M3674 Q := by
                        refine lp_ind ?_
                        intro k3730 ih3730 M3674 v3671 v3677 hk3730 hP3675 hF3676 e3680 e3681 e3682 e3683 e3684 e3685 e3686 e3687 e3688 e3689 e3690 e3691 h3672 h3673 h3678 h3679 pr3692 pr3693 pr3694 h3695 h3696 h3697 h3698 h3699 h3700 h3701
                        refine wk_il4 r108_87 (wk_al0 r108_89 (wk_getfi r108_90 fd_739_43 e3684 ?_))
                        refine wk_icge r108_93 ⟨by omega, by omega⟩ ⟨by omega, by omega⟩ ?_ ?_
                        · intro h3702
                          refine wk_inc3 r108_138 rfl (wk_goto r108_141 ?_)
                          exact wp_fg (le_s (le_s (le_s (le_s (le_n le_0))))) (ih3731 (1 - (v3639 + 1)).toNat (by omega) M3674 (v3639 + 1) v3677 rfl hP3675 hF3676 e3680 e3681 e3682 e3683 e3684 e3685 e3686 e3687 e3688 e3689 e3690 e3691 (by first | assumption | omega) (by first | assumption | omega) (by first | assumption | omega) (by first | assumption | omega) pr3692 pr3693 pr3694 (by first | assumption | omega) (by first | assumption | omega) (by first | assumption | omega) (by first | assumption | omega) (by first | assumption | omega) (by first | assumption | omega))
                        · intro h3703
                          refine wk_al0 r108_96 (wk_il2 r108_97 (wk_al0 r108_98 (wk_getfi r108_99 fd_739_41 e3683 (wk_c2 r108_102 ?_))))
                          refine wk_icne r108_104 ⟨by omega, by omega⟩ (by decide) ?_ ?_
                          · intro h3704
                            refine wk_al0 r108_111 (wk_getfi r108_112 fd_739_40 e3685 (wk_c1 r108_115 ?_))
                            refine wk_icne r108_116 ⟨by omega, by omega⟩ (by decide) ?_ ?_
                            · intro h3705
                              refine wk_al0 r108_123 (wk_getfi r108_124 fd_739_40 e3685 (wk_il4 r108_127 (wk_cv4 r108_129 kc_739_59 rfl (m9059_739 _ M3674 v3550 x739_40 v3671 v3677 x739_1 fe hP3675 (by omega) (by omega) (by omega) (by omega) (by omega) (by omega) e3680 (by first | assumption | omega) (by first | assumption | omega) e3681 (by first | assumption | omega) (by first | assumption | omega) pr3692 pr3693) (cqV ?_))))
                              rintro M3706 ⟨hP3707, hQ3708, h3710, h3711, pr3712, pr3713⟩
                              have hF3709 : Fr fm_m9108_739 M0 M3706 := hF3676.tr hQ3708 rfl
                              obtain ⟨v3714, e3715⟩ : ∃ v, M3706 739 7 = v := ⟨_, rfl⟩
                              have h3716 := bf_739_7 hP3707; rw [e3715] at h3716
                              refine wk_inc4 r108_132 rfl (wk_goto r108_135 ?_)
                              exact wp_fg (le_s (le_s (le_s (le_s (le_s le_0))))) (ih3730 (1 - (v3671 + 1)).toNat (by omega) M3706 (v3671 + 1) v3714 rfl hP3707 hF3709 e3715 ((hQ3708.at g_739_1 rfl).trans e3681) ((hQ3708.at g_739_2 rfl).trans e3682) ((hQ3708.at g_739_41 rfl).trans e3683) ((hQ3708.at g_739_43 rfl).trans e3684) ((hQ3708.at g_739_40 rfl).trans e3685) ((hQ3708.at g_739_13 rfl).trans e3686) ((hQ3708.at g_739_15 rfl).trans e3687) ((hQ3708.at g_739_21 rfl).trans e3688) ((hQ3708.at g_739_24 rfl).trans e3689) ((hQ3708.at g_739_64 rfl).trans e3690) ((hQ3708.at g_739_65 rfl).trans e3691) (by first | assumption | omega) (by first | assumption | omega) (by first | assumption | omega) (by first | assumption | omega) pr3712 pr3713 (VCE_sm (Sm.fr hQ3708 rfl) pr3694) (by first | assumption | omega) (by first | assumption | omega) (by first | assumption | omega) (by first | assumption | omega) (by first | assumption | omega) (by first | assumption | omega) (by first | assumption | omega))
                            · intro h3717
                              refine wk_c1 r108_119 (wk_goto r108_120 (wk_il4 r108_127 (wk_cv4 r108_129 kc_739_59 rfl (m9059_739 _ M3674 v3550 0 v3671 v3677 x739_1 fe hP3675 (by omega) (by omega) (by decide) (by decide) (by omega) (by omega) e3680 (by first | assumption | omega) (by first | assumption | omega) e3681 (by first | assumption | omega) (by first | assumption | omega) pr3692 pr3693) (cqV ?_))))
                              rintro M3718 ⟨hP3719, hQ3720, h3722, h3723, pr3724, pr3725⟩
                              have hF3721 : Fr fm_m9108_739 M0 M3718 := hF3676.tr hQ3720 rfl
                              obtain ⟨v3726, e3727⟩ : ∃ v, M3718 739 7 = v := ⟨_, rfl⟩
                              have h3728 := bf_739_7 hP3719; rw [e3727] at h3728
                              refine wk_inc4 r108_132 rfl (wk_goto r108_135 ?_)
                              exact wp_fg (le_s (le_s (le_s (le_s (le_s le_0))))) (ih3730 (1 - (v3671 + 1)).toNat (by omega) M3718 (v3671 + 1) v3726 rfl hP3719 hF3721 e3727 ((hQ3720.at g_739_1 rfl).trans e3681) ((hQ3720.at g_739_2 rfl).trans e3682) ((hQ3720.at g_739_41 rfl).trans e3683) ((hQ3720.at g_739_43 rfl).trans e3684) ((hQ3720.at g_739_40 rfl).trans e3685) ((hQ3720.at g_739_13 rfl).trans e3686) ((hQ3720.at g_739_15 rfl).trans e3687) ((hQ3720.at g_739_21 rfl).trans e3688) ((hQ3720.at g_739_24 rfl).trans e3689) ((hQ3720.at g_739_64 rfl).trans e3690) ((hQ3720.at g_739_65 rfl).trans e3691) (by first | assumption | omega) (by first | assumption | omega) (by first | assumption | omega) (by first | assumption | omega) pr3724 pr3725 (VCE_sm (Sm.fr hQ3720 rfl) pr3694) (by first | assumption | omega) (by first | assumption | omega) (by first | assumption | omega) (by first | assumption | omega) (by first | assumption | omega) (by first | assumption | omega) (by first | assumption | omega))
                          · intro h3729
                            exfalso
                            omega
                      exact wp_fg (le_s (le_s (le_s (le_s (le_s le_0))))) (c87_3730 _ M3642 0 v3645 rfl hP3643 hF3644 e3648 e3649 e3650 e3651 e3652 e3653 e3654 e3655 e3656 e3657 e3658 e3659 (by first | assumption | omega) (by first | assumption | omega) (by first | assumption | omega) (by first | assumption | omega) pr3660 pr3661 pr3662 (by first | assumption | omega) (by first | assumption | omega) (by first | assumption | omega) (by first | assumption | omega) (by first | assumption | omega) (by first | assumption | omega) (by first | assumption | omega))
                  exact wp_fg (le_s (le_s (le_s (le_s (le_s le_0))))) (c76_3731 _ M3553 0 v3556 rfl hP3554 hF3555 e3559 e3560 e3561 e3562 e3563 e3564 e3565 e3566 e3567 e3568 e3569 e3570 (by first | assumption | omega) (by first | assumption | omega) (by first | assumption | omega) (by first | assumption | omega) pr3571 pr3572 pr3573 (by first | assumption | omega) (by first | assumption | omega) (by first | assumption | omega) (by first | assumption | omega) (by first | assumption | omega) (by first | assumption | omega))
              exact wp_fg (le_s (le_n (le_s (le_s (le_s le_0))))) (c66_3732 _ M3526 0 v3529 rfl hP3527 hF3528 e3532 e3533 e3534 e3535 e3536 e3537 e3538 e3539 e3540 e3541 e3542 e3543 (by first | assumption | omega) (by first | assumption | omega) (by first | assumption | omega) (by first | assumption | omega) pr3544 pr3545 hcv (by first | assumption | omega) (by first | assumption | omega) (by first | assumption | omega) (by first | assumption | omega) (by first | assumption | omega))
          exact wp_fg (le_s (le_s (le_s (le_s (le_s le_0))))) (c60_3733 _ M3504 1 0 rfl hP3505 hF3506 e3518 e3507 e3508 e3509 e3510 e3511 e3512 e3513 e3514 e3515 e3516 e3517 (by first | assumption | omega) (by first | assumption | omega) (by first | assumption | omega) (by first | assumption | omega) pr3519 pr3522 (by first | assumption | omega) (fun _ => by rw [hCA.2, Int.mul_zero]; omega))
        · intro h3734
          refine wk_al0 r108_45 (wk_getfr r108_46 fd_739_54 (br_739_54 hP3505) (wk_il1 r108_49 (wk_c1 r108_50 (wk_iast r108_51 ar_760 ⟨by omega, by omega⟩ (wk_nw (ga_760 _) rfl hP3505 hF3506 (ua_760 (by decide)) ?_)))))
          intro M3735 hP3736 hF3737 e3738
          refine wk_inc1 r108_52 rfl (wk_goto r108_55 ?_)
          exact wp_fg (le_s (le_s (le_s (le_s (le_s le_0))))) (ih3739 (7 - (v3501 + 1)).toNat (by omega) M3735 (v3501 + 1) rfl hP3736 hF3737 (mUp_no e3738 e3507 (Or.inl (by decide))) (mUp_no e3738 e3508 (Or.inl (by decide))) (mUp_no e3738 e3509 (Or.inl (by decide))) (mUp_no e3738 e3510 (Or.inl (by decide))) (mUp_no e3738 e3511 (Or.inl (by decide))) (mUp_no e3738 e3512 (Or.inl (by decide))) (mUp_no e3738 e3513 (Or.inl (by decide))) (mUp_no e3738 e3514 (Or.inl (by decide))) (mUp_no e3738 e3515 (Or.inl (by decide))) (mUp_no e3738 e3516 (Or.inl (by decide))) (mUp_no e3738 e3517 (Or.inl (by decide))) (mUp_no e3738 e3518 (Or.inl (by decide))) (by first | assumption | omega) (by first | assumption | omega) (FFP_sm (Sm.up e3738 (ga_760 _) rfl) pr3519) (fun k a b => by rw [e3738]; (by_cases q : k = v3501); (rw [q, mUp_eq]); (rw [mUp_ne (Or.inr q)]; exact ti3520 k a (by omega))))
      exact wp_fg (le_s (le_s (le_s (le_s (le_s le_0))))) (c37_3739 _ M29 0 rfl hP30 hF31 (mUp_no e32 (mUp_no e28 (mUp_no e24 (mUp_no e20 (mUp_no e16 (mUp_no e12 (mUp_no e8 ex739_1 (Or.inr (by decide))) (Or.inr (by decide))) (Or.inr (by decide))) (Or.inr (by decide))) (Or.inr (by decide))) (Or.inr (by decide))) (Or.inr (by decide))) (mUp_no e32 (mUp_no e28 (mUp_no e24 (mUp_no e20 (mUp_no e16 (mUp_no e12 (mUp_no e8 ex739_2 (Or.inr (by decide))) (Or.inr (by decide))) (Or.inr (by decide))) (Or.inr (by decide))) (Or.inr (by decide))) (Or.inr (by decide))) (Or.inr (by decide))) (mUp_no e32 (mUp_no e28 (mUp_no e24 (mUp_no e20 (mUp_no e16 (mUp_no e12 (mUp_no e8 ex739_41 (Or.inr (by decide))) (Or.inr (by decide))) (Or.inr (by decide))) (Or.inr (by decide))) (Or.inr (by decide))) (Or.inr (by decide))) (Or.inr (by decide))) (mUp_no e32 (mUp_no e28 (mUp_no e24 (mUp_no e20 (mUp_no e16 (mUp_no e12 (mUp_no e8 ex739_43 (Or.inr (by decide))) (Or.inr (by decide))) (Or.inr (by decide))) (Or.inr (by decide))) (Or.inr (by decide))) (Or.inr (by decide))) (Or.inr (by decide))) (mUp_no e32 (mUp_no e28 (mUp_no e24 (mUp_no e20 (mUp_no e16 (mUp_no e12 (mUp_no e8 ex739_40 (Or.inr (by decide))) (Or.inr (by decide))) (Or.inr (by decide))) (Or.inr (by decide))) (Or.inr (by decide))) (Or.inr (by decide))) (Or.inr (by decide))) (mUp_no e32 (mUp_no e28 (mUp_no e24 (mUp_no e20 (mUp_no e16 (mUp_no e12 (mUp_at e8) (Or.inr (by decide))) (Or.inr (by decide))) (Or.inr (by decide))) (Or.inr (by decide))) (Or.inr (by decide))) (Or.inr (by decide))) (mUp_no e32 (mUp_no e28 (mUp_no e24 (mUp_no e20 (mUp_no e16 (mUp_at e12) (Or.inr (by decide))) (Or.inr (by decide))) (Or.inr (by decide))) (Or.inr (by decide))) (Or.inr (by decide))) (mUp_no e32 (mUp_no e28 (mUp_no e24 (mUp_no e20 (mUp_at e16) (Or.inr (by decide))) (Or.inr (by decide))) (Or.inr (by decide))) (Or.inr (by decide))) (mUp_no e32 (mUp_no e28 (mUp_no e24 (mUp_at e20) (Or.inr (by decide))) (Or.inr (by decide))) (Or.inr (by decide))) (mUp_no e32 (mUp_no e28 (mUp_at e24) (Or.inr (by decide))) (Or.inr (by decide))) (mUp_no e32 (mUp_at e28) (Or.inr (by decide))) (mUp_at e32) (by first | assumption | omega) (by first | assumption | omega) (FFP_sm (Sm.up e32 g_739_7 rfl) (FFP_sm (Sm.up e28 g_739_65 rfl) (FFP_sm (Sm.up e24 g_739_64 rfl) (FFP_sm (Sm.up e20 g_739_24 rfl) (FFP_sm (Sm.up e16 g_739_21 rfl) (FFP_sm (Sm.up e12 g_739_15 rfl) (FFP_sm (Sm.up e8 g_739_13 rfl) pp_FF))))))) (fun k a b => by omega))
    · have hRr : Rr = 2 * x739_2 := by rw [xp1, show x739_41 = 1 by omega, show x739_43 = 2 by omega]; omega
      have hmb : ∀ k : Int, 0 ≤ k → k < 7 → 1 ≤ M0 740 k ∧ M0 740 k ≤ 31 := fun k a b => ⟨xp3 k a b, (ba_740 hP0 a b).2⟩
      refine wk_al0 r108_0 (wk_c1 r108_1 (wk_putfi81 r108_2 fd_739_13 (wk_nw g_739_13 rfl hP0 hF0 (uf_739_13 (by decide)) ?_)))
      intro M3740 hP3741 hF3742 e3743
      refine wk_al0 r108_5 (wk_c1 r108_6 (wk_putfi81 r108_7 fd_739_15 (wk_nw g_739_15 rfl hP3741 hF3742 (uf_739_15 (by decide)) ?_)))
      intro M3744 hP3745 hF3746 e3747
      refine wk_al0 r108_10 (wk_c1 r108_11 (wk_putfi81 r108_12 fd_739_21 (wk_nw g_739_21 rfl hP3745 hF3746 (uf_739_21 (by decide)) ?_)))
      intro M3748 hP3749 hF3750 e3751
      refine wk_al0 r108_15 (wk_c1 r108_16 (wk_putfi81 r108_17 fd_739_24 (wk_nw g_739_24 rfl hP3749 hF3750 (uf_739_24 (by decide)) ?_)))
      intro M3752 hP3753 hF3754 e3755
      refine wk_al0 r108_20 (wk_c1 r108_21 (wk_putfi81 r108_22 fd_739_64 (wk_nw g_739_64 rfl hP3753 hF3754 (uf_739_64 (by decide)) ?_)))
      intro M3756 hP3757 hF3758 e3759
      refine wk_al0 r108_25 (wk_c1 r108_26 (wk_putfi81 r108_27 fd_739_65 (wk_nw g_739_65 rfl hP3757 hF3758 (uf_739_65 (by decide)) ?_)))
      intro M3760 hP3761 hF3762 e3763
      refine wk_al0 r108_30 (wk_c1 r108_31 (wk_putfi81 r108_32 fd_739_7 (wk_nw g_739_7 rfl hP3761 hF3762 (uf_739_7 (by decide)) ?_)))
      intro M3764 hP3765 hF3766 e3767
      refine wk_c1 r108_35 (wk_is1 r108_36 rfl ?_)
      have c37_7472 : ∀ (k7472 : Nat) (M7241 : Mm) (v7238 : Int), (7 - v7238).toNat = k7472 → Pw M7241 → Fr fm_m9108_739 M0 M7241 → M7241 739 1 = x739_1 → M7241 739 2 = x739_2 → M7241 739 41 = x739_41 → M7241 739 43 = x739_43 → M7241 739 40 = x739_40 → M7241 739 13 = 0 → M7241 739 15 = 0 → M7241 739 21 = 0 → M7241 739 24 = (-1) → M7241 739 64 = (-1) → M7241 739 65 = 0 → M7241 739 7 = 0 → 0 ≤ v7238 → v7238 ≤ 7 → (FFP M7241 fe) → (∀ k : Int, 0 ≤ k → k < v7238 → M7241 760 k = 0) → Wp B (d + 6) 108 37 [some (R 739), some (I v7238), none, none, none] [] M7241 Q := by
        refine lp_ind ?_
        intro k7472 ih7472 M7241 v7238 hk7472 hP7242 hF7243 e7244 e7245 e7246 e7247 e7248 e7249 e7250 e7251 e7252 e7253 e7254 e7255 h7239 h7240 pr7256 ti7257
        refine wk_il1 r108_37 (wk_al0 r108_38 (wk_getfi r108_39 fd_739_1 e7244 ?_))
        refine wk_icge r108_42 ⟨by omega, by omega⟩ ⟨by omega, by omega⟩ ?_ ?_
        · intro h7258
          have hCA := CH_all (M := M7241) (fun k a b => ti7257 k a (by have := e7244; omega)) (fun k a b => by rw [hF7243.at (ga_740 k) rfl]; exact hmb k a b) (by have := e7244; omega)
          have pr7259 : CHP M7241 := hCA.1
          refine wk_c1 r108_58 (wk_is1 r108_59 rfl ?_)
          have c60_7466 : ∀ (k7466 : Nat) (M7263 : Mm) (v7260 : Int) (v7266 : Int), (4000 * v7260 - VC M7263).toNat = k7466 → Pw M7263 → Fr fm_m9108_739 M0 M7263 → M7263 739 7 = v7266 → M7263 739 1 = x739_1 → M7263 739 2 = x739_2 → M7263 739 41 = x739_41 → M7263 739 43 = x739_43 → M7263 739 40 = x739_40 → M7263 739 13 = 0 → M7263 739 15 = 0 → M7263 739 21 = 0 → M7263 739 24 = (-1) → M7263 739 64 = (-1) → M7263 739 65 = 0 → 0 ≤ v7260 → v7260 ≤ 1 → 0 ≤ v7266 → v7266 ≤ 3000 → (FFP M7263 fe) → (CHP M7263) → 0 ≤ (-1) * v7260 + v7266 + 1 → (v7260 = 1 → v7266 ≤ Rr * VC M7263) → Wp B (d + 6) 108 60 [some (R 739), some (I v7260), none, none, none] [] M7263 Q := by
            refine lp_ind ?_
            intro k7466 ih7466 M7263 v7260 v7266 hk7466 hP7264 hF7265 e7269 e7270 e7271 e7272 e7273 e7274 e7275 e7276 e7277 e7278 e7279 e7280 h7261 h7262 h7267 h7268 pr7281 pr7282 h7283 ti7284
            refine wk_il1 r108_60 ?_
            refine wk_ifeq r108_61 ⟨by omega, by omega⟩ ?_ ?_
            · intro h7285
              subst hQ; exact wk_ret r108_218 (⟨rfl, hP7264, hF7265, (WS_0 e7275), (QW_0 e7277)⟩)
            · intro h7286
              obtain ⟨cv, hcv⟩ : ∃ x, VC M7263 = x := ⟨_, rfl⟩
              obtain ⟨xq, hxq⟩ : ∃ x, Rr * cv = x := ⟨_, rfl⟩
              have hw0 : v7266 ≤ xq := by rw [← hxq, ← hcv]; exact ti7284 (by omega)
              have hw1 : xq + Rr ≤ 3000 := by rw [← hxq, ← hcv]; exact VC_lt pr7282 (by omega) (by rw [e7270, PRD_M (fun k => hF7265.at (ga_740 k) rfl)]; exact xp2)
              have hcv0 : 0 ≤ cv := by rw [← hcv]; exact VC_nn hP7264 (by have := e7270; omega) (fun i a b => (ba_760 hP7264 a b).1)
              have hcv1 : cv ≤ 2999 := cv_ub (by omega) hcv0 hxq hw1
              refine wk_c1 r108_64 (wk_is2 r108_65 rfl ?_)
              have c66_7465 : ∀ (k7465 : Nat) (M7290 : Mm) (v7287 : Int) (v7293 : Int), (4 - v7287).toNat = k7465 → Pw M7290 → Fr fm_m9108_739 M0 M7290 → M7290 739 7 = v7293 → M7290 739 1 = x739_1 → M7290 739 2 = x739_2 → M7290 739 41 = x739_41 → M7290 739 43 = x739_43 → M7290 739 40 = x739_40 → M7290 739 13 = 0 → M7290 739 15 = 0 → M7290 739 21 = 0 → M7290 739 24 = (-1) → M7290 739 64 = (-1) → M7290 739 65 = 0 → 0 ≤ v7287 → v7287 ≤ 4 → 0 ≤ v7293 → v7293 ≤ 3000 → (FFP M7290 fe) → (CHP M7290) → (VC M7290 = cv) → 0 ≤ (-1) * v7293 + 1 * xq + 2 * v7287 → 0 ≤ (-1) * v7293 + 1 * xq + 7 * v7287 → 0 ≤ (-1) * v7293 + 1 * xq + 14 * v7287 → 0 ≤ (-1) * v7287 + 1 * x739_2 → Wp B (d + 6) 108 66 [some (R 739), none, some (I v7287), none, none] [] M7290 Q := by
                refine lp_ind ?_
                intro k7465 ih7465 M7290 v7287 v7293 hk7465 hP7291 hF7292 e7296 e7297 e7298 e7299 e7300 e7301 e7302 e7303 e7304 e7305 e7306 e7307 h7288 h7289 h7294 h7295 pr7308 pr7309 pr7310 h7311 h7312 h7313 h7314
                refine wk_il2 r108_66 (wk_al0 r108_67 (wk_getfi r108_68 fd_739_2 e7298 ?_))
                refine wk_icge r108_71 ⟨by omega, by omega⟩ ⟨by omega, by omega⟩ ?_ ?_
                · intro h7315
                  have hCE : VC M7290 = cv := pr7310
                  have hw2 : v7293 ≤ xq + Rr := by omega
                  refine wk_al0 r108_150 (wk_getfi r108_151 fd_739_1 e7297 (wk_c1 r108_154 (wk_isub r108_155 (wk_is2 r108_156 rfl ?_))))
                  have c157_7373 : ∀ (k7373 : Nat) (M7319 : Mm) (v7316 : Int), (v7316 - (-1)).toNat = k7373 → Pw M7319 → Fr fm_m9108_739 M0 M7319 → M7319 739 7 = v7293 → M7319 739 1 = x739_1 → M7319 739 2 = x739_2 → M7319 739 41 = x739_41 → M7319 739 43 = x739_43 → M7319 739 40 = x739_40 → M7319 739 13 = 0 → M7319 739 15 = 0 → M7319 739 21 = 0 → M7319 739 24 = (-1) → M7319 739 64 = (-1) → M7319 739 65 = 0 → (-1) ≤ v7316 → v7316 ≤ 6 → (FFP M7319 fe) → (CHP M7319) → 0 ≤ (-1) * v7316 + 1 * x739_1 + (-1) → (DCI M7319 x739_1 v7316 cv) → Wp B (d + 6) 108 157 [some (R 739), none, some (I v7316), none, none] [] M7319 Q := by
                    refine lp_ind ?_
                    intro k7373 ih7373 M7319 v7316 hk7373 hP7320 hF7321 e7322 e7323 e7324 e7325 e7326 e7327 e7328 e7329 e7330 e7331 e7332 e7333 h7317 h7318 pr7334 pr7335 h7336 ti7337
                    refine wk_il2 r108_157 ?_
                    refine wk_iflt r108_158 ⟨by omega, by omega⟩ ?_ ?_
                    · intro h7338
                      refine wk_il2 r108_191 ?_
                      refine wk_iflt r108_192 ⟨by omega, by omega⟩ ?_ ?_
                      · intro h7339
                        refine wk_c1 r108_199 (wk_is1 r108_200 rfl (wk_il1 r108_201 ?_))
                        refine wk_ifeq r108_202 (by decide) ?_ ?_
                        · intro h7340
                          refine wk_goto r108_215 ?_
                          exact wp_fg (le_s (le_s (le_n (le_s (le_s le_0))))) (ih7466 (4000 * 0 - VC M7319).toNat (by omega) M7319 0 v7293 rfl hP7320 hF7321 e7322 e7323 e7324 e7325 e7326 e7327 e7328 e7329 e7330 e7331 e7332 e7333 (by first | assumption | omega) (by first | assumption | omega) (by first | assumption | omega) (by first | assumption | omega) pr7334 pr7335 (by first | assumption | omega) (fun q => by omega))
                        · intro h7341
                          exfalso
                          omega
                      · intro h7342
                        exfalso
                        omega
                    · intro h7343
                      refine wk_al0 r108_161 (wk_il2 r108_162 (wk_al0 r108_163 (wk_getfr r108_164 fd_739_54 (br_739_54 hP7320) (wk_il2 r108_167 (wk_ialdb r108_168 ar_760 ⟨by omega, by omega⟩ (fun q0 q1 => ba_760 hP7320 q0 q1) ?_)))))
                      intro v7344 h7346 h7347 e7345
                      refine wk_c1 r108_169 (wk_iadd r108_170 (wk_cv3 r108_171 kc_739_57 rfl (m9057_739 _ M7319 v7316 (v7344 + 1) hP7320 (by omega) (by omega) (by omega) (by omega)) (cqI ?_)))
                      rintro v7353 M7348 ⟨hP7349, hQ7350, h7354, h7355, xh7352⟩
                      obtain rfl := Fr.same hQ7350
                      refine wk_c1 r108_174 ?_
                      refine wk_icne r108_175 ⟨by omega, by omega⟩ (by decide) ?_ ?_
                      · intro h7356
                        refine wk_il2 r108_191 ?_
                        refine wk_iflt r108_192 ⟨by omega, by omega⟩ ?_ ?_
                        · intro h7357
                          exfalso
                          omega
                        · intro h7358
                          refine wk_c1 r108_195 (wk_goto r108_196 (wk_is1 r108_200 rfl (wk_il1 r108_201 ?_)))
                          refine wk_ifeq r108_202 (by decide) ?_ ?_
                          · intro h7359
                            exfalso
                            omega
                          · intro h7360
                            refine wk_al0 r108_205 (wk_getfr r108_206 fd_739_54 (br_739_54 hP7320) (wk_il2 r108_209 (wk_dup2 r108_210 (wk_iald r108_211 ar_760 ⟨by omega, by omega⟩ e7345 (wk_c1 r108_212 (wk_iadd r108_213 ?_))))))
                            have h7361 : (v7344 + 1) ≤ 9 := by have := cT_lt ((xh7352).2 (by omega)); omega
                            refine wk_iast r108_214 ar_760 ⟨by omega, by omega⟩ (wk_nw (ga_760 _) rfl hP7320 hF7321 (ua_760 ⟨by omega, by omega⟩) ?_)
                            intro M7362 hP7363 hF7364 e7365
                            have hVC : VC M7362 = cv + 1 := DC_inc ti7337 e7323 (by omega) (by omega) e7345 e7365
                            have pr7366 : CHP M7362 := CH_inc pr7335 (by have := (xh7352).2 (by omega); omega) e7365
                            refine wk_goto r108_215 ?_
                            exact wp_fg (le_s (le_s (le_n (le_s (le_s le_0))))) (ih7466 (4000 * 1 - VC M7362).toNat (by omega) M7362 1 v7293 rfl hP7363 hF7364 (mUp_no e7365 e7322 (Or.inl (by decide))) (mUp_no e7365 e7323 (Or.inl (by decide))) (mUp_no e7365 e7324 (Or.inl (by decide))) (mUp_no e7365 e7325 (Or.inl (by decide))) (mUp_no e7365 e7326 (Or.inl (by decide))) (mUp_no e7365 e7327 (Or.inl (by decide))) (mUp_no e7365 e7328 (Or.inl (by decide))) (mUp_no e7365 e7329 (Or.inl (by decide))) (mUp_no e7365 e7330 (Or.inl (by decide))) (mUp_no e7365 e7331 (Or.inl (by decide))) (mUp_no e7365 e7332 (Or.inl (by decide))) (mUp_no e7365 e7333 (Or.inl (by decide))) (by first | assumption | omega) (by first | assumption | omega) (by first | assumption | omega) (by first | assumption | omega) (FFP_sm (Sm.up e7365 (ga_760 _) rfl) pr7334) pr7366 (by first | assumption | omega) (fun _ => by rw [mul_ub hVC hxq]; omega))
                      · intro h7367
                        refine wk_al0 r108_178 (wk_getfr r108_179 fd_739_54 (br_739_54 hP7320) (wk_il2 r108_182 (wk_c1 r108_183 (wk_iast r108_184 ar_760 ⟨by omega, by omega⟩ (wk_nw (ga_760 _) rfl hP7320 hF7321 (ua_760 (by decide)) ?_)))))
                        intro M7368 hP7369 hF7370 e7371
                        have pr7372 : CHP M7368 := CH_zero pr7335 (by rw [hF7321.at (ga_740 _) rfl]; exact cT_pos (hmb v7316 (by omega) (by omega))) e7371
                        refine wk_inc2 r108_185 rfl (wk_goto r108_188 ?_)
                        exact wp_fg (le_s (le_s (le_s (le_s (le_s le_0))))) (ih7373 ((v7316 + (-1)) - (-1)).toNat (by omega) M7368 (v7316 + (-1)) rfl hP7369 hF7370 (mUp_no e7371 e7322 (Or.inl (by decide))) (mUp_no e7371 e7323 (Or.inl (by decide))) (mUp_no e7371 e7324 (Or.inl (by decide))) (mUp_no e7371 e7325 (Or.inl (by decide))) (mUp_no e7371 e7326 (Or.inl (by decide))) (mUp_no e7371 e7327 (Or.inl (by decide))) (mUp_no e7371 e7328 (Or.inl (by decide))) (mUp_no e7371 e7329 (Or.inl (by decide))) (mUp_no e7371 e7330 (Or.inl (by decide))) (mUp_no e7371 e7331 (Or.inl (by decide))) (mUp_no e7371 e7332 (Or.inl (by decide))) (mUp_no e7371 e7333 (Or.inl (by decide))) (by first | assumption | omega) (by first | assumption | omega) (FFP_sm (Sm.up e7371 (ga_760 _) rfl) pr7334) pr7372 (by first | assumption | omega) (DC_st ti7337 (by omega) (by omega) (by have := (xh7352).1 (by omega); rw [e7345]; omega) (by have := pr7335 v7316 (by omega) (by rw [e7323]; omega); exact this) e7371))
                  exact wp_fg (le_s (le_s (le_s (le_s (le_s le_0))))) (c157_7373 _ M7290 (x739_1 - 1) rfl hP7291 hF7292 e7296 e7297 e7298 e7299 e7300 e7301 e7302 e7303 e7304 e7305 e7306 e7307 (by first | assumption | omega) (by first | assumption | omega) pr7308 pr7309 (by first | assumption | omega) (DC_in e7297 (by omega) hCE))
                · intro h7374
                  refine wk_c1 r108_74 (wk_is3 r108_75 rfl ?_)
                  have c76_7464 : ∀ (k7464 : Nat) (M7378 : Mm) (v7375 : Int) (v7381 : Int), (1 - v7375).toNat = k7464 → Pw M7378 → Fr fm_m9108_739 M0 M7378 → M7378 739 7 = v7381 → M7378 739 1 = x739_1 → M7378 739 2 = x739_2 → M7378 739 41 = x739_41 → M7378 739 43 = x739_43 → M7378 739 40 = x739_40 → M7378 739 13 = 0 → M7378 739 15 = 0 → M7378 739 21 = 0 → M7378 739 24 = (-1) → M7378 739 64 = (-1) → M7378 739 65 = 0 → 0 ≤ v7375 → v7375 ≤ 1 → 0 ≤ v7381 → v7381 ≤ 3000 → (FFP M7378 fe) → (CHP M7378) → (VC M7378 = cv) → 0 ≤ (-1) * v7381 + 1 * xq + 2 * v7287 + 2 * v7375 → 0 ≤ (-1) * v7381 + 1 * xq + 14 * v7287 + 2 * v7375 → 0 ≤ (-1) * v7287 + 1 * x739_2 → 0 ≤ (-1) * v7375 + 1 * x739_41 → Wp B (d + 6) 108 76 [some (R 739), none, some (I v7287), some (I v7375), none] [] M7378 Q := by
                    refine lp_ind ?_
                    intro k7464 ih7464 M7378 v7375 v7381 hk7464 hP7379 hF7380 e7384 e7385 e7386 e7387 e7388 e7389 e7390 e7391 e7392 e7393 e7394 e7395 h7376 h7377 h7382 h7383 pr7396 pr7397 pr7398 h7399 h7400 h7401 h7402
                    refine wk_il3 r108_76 (wk_al0 r108_77 (wk_getfi r108_78 fd_739_41 e7387 ?_))
                    refine wk_icge r108_81 ⟨by omega, by omega⟩ ⟨by omega, by omega⟩ ?_ ?_
                    · intro h7403
                      refine wk_inc2 r108_144 rfl (wk_goto r108_147 ?_)
                      exact wp_fg (le_s (le_s (le_s (le_n (le_s le_0))))) (ih7465 (4 - (v7287 + 1)).toNat (by omega) M7378 (v7287 + 1) v7381 rfl hP7379 hF7380 e7384 e7385 e7386 e7387 e7388 e7389 e7390 e7391 e7392 e7393 e7394 e7395 (by first | assumption | omega) (by first | assumption | omega) (by first | assumption | omega) (by first | assumption | omega) pr7396 pr7397 pr7398 (by first | assumption | omega) (by first | assumption | omega) (by first | assumption | omega) (by first | assumption | omega))
                    · intro h7404
                      refine wk_c1 r108_84 (wk_is4 r108_85 rfl ?_)
                      have c87_7463 : ∀ (k7463 : Nat) (M7408 : Mm) (v7405 : Int) (v7411 : Int), (2 - v7405).toNat = k7463 → Pw M7408 → Fr fm_m9108_739 M0 M7408 → M7408 739 7 = v7411 → M7408 739 1 = x739_1 → M7408 739 2 = x739_2 → M7408 739 41 = x739_41 → M7408 739 43 = x739_43 → M7408 739 40 = x739_40 → M7408 739 13 = 0 → M7408 739 15 = 0 → M7408 739 21 = 0 → M7408 739 24 = (-1) → M7408 739 64 = (-1) → M7408 739 65 = 0 → 0 ≤ v7405 → v7405 ≤ 2 → 0 ≤ v7411 → v7411 ≤ 3000 → (FFP M7408 fe) → (CHP M7408) → (VC M7408 = cv) → 0 ≤ (-1) * v7411 + 1 * xq + 2 * v7287 + 2 * v7375 + 1 * v7405 → 0 ≤ (-1) * v7411 + 1 * xq + 7 * v7287 + 1 * v7375 + 1 * v7405 → 0 ≤ (-1) * v7411 + 1 * xq + 14 * v7287 + 2 * v7375 + 1 * v7405 → 0 ≤ (-1) * v7287 + 1 * x739_2 → 0 ≤ (-1) * v7375 + 1 * x739_41 → 0 ≤ (-1) * v7405 + 1 * x739_43 → Wp B (d + 6) 108 87 [some (R 739), none, some (I v7287), some (I v7375), some (I v7405)] [] M7408 Q := by
                        refine lp_ind ?_
                        intro k7463 ih7463 M7408 v7405 v7411 hk7463 hP7409 hF7410 e7414 e7415 e7416 e7417 e7418 e7419 e7420 e7421 e7422 e7423 e7424 e7425 h7406 h7407 h7412 h7413 pr7426 pr7427 pr7428 h7429 h7430 h7431 h7432 h7433 h7434
                        refine wk_il4 r108_87 (wk_al0 r108_89 (wk_getfi r108_90 fd_739_43 e7418 ?_))
                        refine wk_icge r108_93 ⟨by omega, by omega⟩ ⟨by omega, by omega⟩ ?_ ?_
                        · intro h7435
                          refine wk_inc3 r108_138 rfl (wk_goto r108_141 ?_)
                          exact wp_fg (le_s (le_s (le_s (le_s (le_n le_0))))) (ih7464 (1 - (v7375 + 1)).toNat (by omega) M7408 (v7375 + 1) v7411 rfl hP7409 hF7410 e7414 e7415 e7416 e7417 e7418 e7419 e7420 e7421 e7422 e7423 e7424 e7425 (by first | assumption | omega) (by first | assumption | omega) (by first | assumption | omega) (by first | assumption | omega) pr7426 pr7427 pr7428 (by first | assumption | omega) (by first | assumption | omega) (by first | assumption | omega) (by first | assumption | omega))
                        · intro h7436
                          refine wk_al0 r108_96 (wk_il2 r108_97 (wk_al0 r108_98 (wk_getfi r108_99 fd_739_41 e7417 (wk_c2 r108_102 ?_))))
                          refine wk_icne r108_104 ⟨by omega, by omega⟩ (by decide) ?_ ?_
                          · intro h7437
                            refine wk_al0 r108_111 (wk_getfi r108_112 fd_739_40 e7419 (wk_c1 r108_115 ?_))
                            refine wk_icne r108_116 ⟨by omega, by omega⟩ (by decide) ?_ ?_
                            · intro h7438
                              refine wk_al0 r108_123 (wk_getfi r108_124 fd_739_40 e7419 (wk_il4 r108_127 (wk_cv4 r108_129 kc_739_59 rfl (m9059_739 _ M7408 v7287 x739_40 v7405 v7411 x739_1 fe hP7409 (by omega) (by omega) (by omega) (by omega) (by omega) (by omega) e7414 (by first | assumption | omega) (by first | assumption | omega) e7415 (by first | assumption | omega) (by first | assumption | omega) pr7426 pr7427) (cqV ?_))))
                              rintro M7439 ⟨hP7440, hQ7441, h7443, h7444, pr7445, pr7446⟩
                              have hF7442 : Fr fm_m9108_739 M0 M7439 := hF7410.tr hQ7441 rfl
                              obtain ⟨v7447, e7448⟩ : ∃ v, M7439 739 7 = v := ⟨_, rfl⟩
                              have h7449 := bf_739_7 hP7440; rw [e7448] at h7449
                              refine wk_inc4 r108_132 rfl (wk_goto r108_135 ?_)
                              exact wp_fg (le_s (le_s (le_s (le_s (le_s le_0))))) (ih7463 (2 - (v7405 + 1)).toNat (by omega) M7439 (v7405 + 1) v7447 rfl hP7440 hF7442 e7448 ((hQ7441.at g_739_1 rfl).trans e7415) ((hQ7441.at g_739_2 rfl).trans e7416) ((hQ7441.at g_739_41 rfl).trans e7417) ((hQ7441.at g_739_43 rfl).trans e7418) ((hQ7441.at g_739_40 rfl).trans e7419) ((hQ7441.at g_739_13 rfl).trans e7420) ((hQ7441.at g_739_15 rfl).trans e7421) ((hQ7441.at g_739_21 rfl).trans e7422) ((hQ7441.at g_739_24 rfl).trans e7423) ((hQ7441.at g_739_64 rfl).trans e7424) ((hQ7441.at g_739_65 rfl).trans e7425) (by first | assumption | omega) (by first | assumption | omega) (by first | assumption | omega) (by first | assumption | omega) pr7445 pr7446 (VCE_sm (Sm.fr hQ7441 rfl) pr7428) (by first | assumption | omega) (by first | assumption | omega) (by first | assumption | omega) (by first | assumption | omega) (by first | assumption | omega) (by first | assumption | omega))
                            · intro h7450
                              refine wk_c1 r108_119 (wk_goto r108_120 (wk_il4 r108_127 (wk_cv4 r108_129 kc_739_59 rfl (m9059_739 _ M7408 v7287 0 v7405 v7411 x739_1 fe hP7409 (by omega) (by omega) (by decide) (by decide) (by omega) (by omega) e7414 (by first | assumption | omega) (by first | assumption | omega) e7415 (by first | assumption | omega) (by first | assumption | omega) pr7426 pr7427) (cqV ?_))))
                              rintro M7451 ⟨hP7452, hQ7453, h7455, h7456, pr7457, pr7458⟩
                              have hF7454 : Fr fm_m9108_739 M0 M7451 := hF7410.tr hQ7453 rfl
                              obtain ⟨v7459, e7460⟩ : ∃ v, M7451 739 7 = v := ⟨_, rfl⟩
                              have h7461 := bf_739_7 hP7452; rw [e7460] at h7461
                              refine wk_inc4 r108_132 rfl (wk_goto r108_135 ?_)
                              exact wp_fg (le_s (le_s (le_s (le_s (le_s le_0))))) (ih7463 (2 - (v7405 + 1)).toNat (by omega) M7451 (v7405 + 1) v7459 rfl hP7452 hF7454 e7460 ((hQ7453.at g_739_1 rfl).trans e7415) ((hQ7453.at g_739_2 rfl).trans e7416) ((hQ7453.at g_739_41 rfl).trans e7417) ((hQ7453.at g_739_43 rfl).trans e7418) ((hQ7453.at g_739_40 rfl).trans e7419) ((hQ7453.at g_739_13 rfl).trans e7420) ((hQ7453.at g_739_15 rfl).trans e7421) ((hQ7453.at g_739_21 rfl).trans e7422) ((hQ7453.at g_739_24 rfl).trans e7423) ((hQ7453.at g_739_64 rfl).trans e7424) ((hQ7453.at g_739_65 rfl).trans e7425) (by first | assumption | omega) (by first | assumption | omega) (by first | assumption | omega) (by first | assumption | omega) pr7457 pr7458 (VCE_sm (Sm.fr hQ7453 rfl) pr7428) (by first | assumption | omega) (by first | assumption | omega) (by first | assumption | omega) (by first | assumption | omega) (by first | assumption | omega) (by first | assumption | omega))
                          · intro h7462
                            exfalso
                            omega
                      exact wp_fg (le_s (le_s (le_s (le_s (le_s le_0))))) (c87_7463 _ M7378 0 v7381 rfl hP7379 hF7380 e7384 e7385 e7386 e7387 e7388 e7389 e7390 e7391 e7392 e7393 e7394 e7395 (by first | assumption | omega) (by first | assumption | omega) (by first | assumption | omega) (by first | assumption | omega) pr7396 pr7397 pr7398 (by first | assumption | omega) (by first | assumption | omega) (by first | assumption | omega) (by first | assumption | omega) (by first | assumption | omega) (by first | assumption | omega))
                  exact wp_fg (le_s (le_s (le_s (le_s (le_s le_0))))) (c76_7464 _ M7290 0 v7293 rfl hP7291 hF7292 e7296 e7297 e7298 e7299 e7300 e7301 e7302 e7303 e7304 e7305 e7306 e7307 (by first | assumption | omega) (by first | assumption | omega) (by first | assumption | omega) (by first | assumption | omega) pr7308 pr7309 pr7310 (by first | assumption | omega) (by first | assumption | omega) (by first | assumption | omega) (by first | assumption | omega))
              exact wp_fg (le_s (le_n (le_s (le_s (le_s le_0))))) (c66_7465 _ M7263 0 v7266 rfl hP7264 hF7265 e7269 e7270 e7271 e7272 e7273 e7274 e7275 e7276 e7277 e7278 e7279 e7280 (by first | assumption | omega) (by first | assumption | omega) (by first | assumption | omega) (by first | assumption | omega) pr7281 pr7282 hcv (by first | assumption | omega) (by first | assumption | omega) (by first | assumption | omega) (by first | assumption | omega))
          exact wp_fg (le_s (le_s (le_s (le_s (le_s le_0))))) (c60_7466 _ M7241 1 0 rfl hP7242 hF7243 e7255 e7244 e7245 e7246 e7247 e7248 e7249 e7250 e7251 e7252 e7253 e7254 (by first | assumption | omega) (by first | assumption | omega) (by first | assumption | omega) (by first | assumption | omega) pr7256 pr7259 (by first | assumption | omega) (fun _ => by rw [hCA.2, Int.mul_zero]; omega))
        · intro h7467
          refine wk_al0 r108_45 (wk_getfr r108_46 fd_739_54 (br_739_54 hP7242) (wk_il1 r108_49 (wk_c1 r108_50 (wk_iast r108_51 ar_760 ⟨by omega, by omega⟩ (wk_nw (ga_760 _) rfl hP7242 hF7243 (ua_760 (by decide)) ?_)))))
          intro M7468 hP7469 hF7470 e7471
          refine wk_inc1 r108_52 rfl (wk_goto r108_55 ?_)
          exact wp_fg (le_s (le_s (le_s (le_s (le_s le_0))))) (ih7472 (7 - (v7238 + 1)).toNat (by omega) M7468 (v7238 + 1) rfl hP7469 hF7470 (mUp_no e7471 e7244 (Or.inl (by decide))) (mUp_no e7471 e7245 (Or.inl (by decide))) (mUp_no e7471 e7246 (Or.inl (by decide))) (mUp_no e7471 e7247 (Or.inl (by decide))) (mUp_no e7471 e7248 (Or.inl (by decide))) (mUp_no e7471 e7249 (Or.inl (by decide))) (mUp_no e7471 e7250 (Or.inl (by decide))) (mUp_no e7471 e7251 (Or.inl (by decide))) (mUp_no e7471 e7252 (Or.inl (by decide))) (mUp_no e7471 e7253 (Or.inl (by decide))) (mUp_no e7471 e7254 (Or.inl (by decide))) (mUp_no e7471 e7255 (Or.inl (by decide))) (by first | assumption | omega) (by first | assumption | omega) (FFP_sm (Sm.up e7471 (ga_760 _) rfl) pr7256) (fun k a b => by rw [e7471]; (by_cases q : k = v7238); (rw [q, mUp_eq]); (rw [mUp_ne (Or.inr q)]; exact ti7257 k a (by omega))))
      exact wp_fg (le_s (le_s (le_s (le_s (le_s le_0))))) (c37_7472 _ M3764 0 rfl hP3765 hF3766 (mUp_no e3767 (mUp_no e3763 (mUp_no e3759 (mUp_no e3755 (mUp_no e3751 (mUp_no e3747 (mUp_no e3743 ex739_1 (Or.inr (by decide))) (Or.inr (by decide))) (Or.inr (by decide))) (Or.inr (by decide))) (Or.inr (by decide))) (Or.inr (by decide))) (Or.inr (by decide))) (mUp_no e3767 (mUp_no e3763 (mUp_no e3759 (mUp_no e3755 (mUp_no e3751 (mUp_no e3747 (mUp_no e3743 ex739_2 (Or.inr (by decide))) (Or.inr (by decide))) (Or.inr (by decide))) (Or.inr (by decide))) (Or.inr (by decide))) (Or.inr (by decide))) (Or.inr (by decide))) (mUp_no e3767 (mUp_no e3763 (mUp_no e3759 (mUp_no e3755 (mUp_no e3751 (mUp_no e3747 (mUp_no e3743 ex739_41 (Or.inr (by decide))) (Or.inr (by decide))) (Or.inr (by decide))) (Or.inr (by decide))) (Or.inr (by decide))) (Or.inr (by decide))) (Or.inr (by decide))) (mUp_no e3767 (mUp_no e3763 (mUp_no e3759 (mUp_no e3755 (mUp_no e3751 (mUp_no e3747 (mUp_no e3743 ex739_43 (Or.inr (by decide))) (Or.inr (by decide))) (Or.inr (by decide))) (Or.inr (by decide))) (Or.inr (by decide))) (Or.inr (by decide))) (Or.inr (by decide))) (mUp_no e3767 (mUp_no e3763 (mUp_no e3759 (mUp_no e3755 (mUp_no e3751 (mUp_no e3747 (mUp_no e3743 ex739_40 (Or.inr (by decide))) (Or.inr (by decide))) (Or.inr (by decide))) (Or.inr (by decide))) (Or.inr (by decide))) (Or.inr (by decide))) (Or.inr (by decide))) (mUp_no e3767 (mUp_no e3763 (mUp_no e3759 (mUp_no e3755 (mUp_no e3751 (mUp_no e3747 (mUp_at e3743) (Or.inr (by decide))) (Or.inr (by decide))) (Or.inr (by decide))) (Or.inr (by decide))) (Or.inr (by decide))) (Or.inr (by decide))) (mUp_no e3767 (mUp_no e3763 (mUp_no e3759 (mUp_no e3755 (mUp_no e3751 (mUp_at e3747) (Or.inr (by decide))) (Or.inr (by decide))) (Or.inr (by decide))) (Or.inr (by decide))) (Or.inr (by decide))) (mUp_no e3767 (mUp_no e3763 (mUp_no e3759 (mUp_no e3755 (mUp_at e3751) (Or.inr (by decide))) (Or.inr (by decide))) (Or.inr (by decide))) (Or.inr (by decide))) (mUp_no e3767 (mUp_no e3763 (mUp_no e3759 (mUp_at e3755) (Or.inr (by decide))) (Or.inr (by decide))) (Or.inr (by decide))) (mUp_no e3767 (mUp_no e3763 (mUp_at e3759) (Or.inr (by decide))) (Or.inr (by decide))) (mUp_no e3767 (mUp_at e3763) (Or.inr (by decide))) (mUp_at e3767) (by first | assumption | omega) (by first | assumption | omega) (FFP_sm (Sm.up e3767 g_739_7 rfl) (FFP_sm (Sm.up e3763 g_739_65 rfl) (FFP_sm (Sm.up e3759 g_739_64 rfl) (FFP_sm (Sm.up e3755 g_739_24 rfl) (FFP_sm (Sm.up e3751 g_739_21 rfl) (FFP_sm (Sm.up e3747 g_739_15 rfl) (FFP_sm (Sm.up e3743 g_739_13 rfl) pp_FF))))))) (fun k a b => by omega))
  · rcases (show x739_43 = 1 ∨ x739_43 = 2 by omega) with h7473 | h7474
    · have hRr : Rr = 7 * x739_2 := by rw [xp1, show x739_41 = 7 by omega, show x739_43 = 1 by omega]; omega
      have hmb : ∀ k : Int, 0 ≤ k → k < 7 → 1 ≤ M0 740 k ∧ M0 740 k ≤ 31 := fun k a b => ⟨xp3 k a b, (ba_740 hP0 a b).2⟩
      refine wk_al0 r108_0 (wk_c1 r108_1 (wk_putfi81 r108_2 fd_739_13 (wk_nw g_739_13 rfl hP0 hF0 (uf_739_13 (by decide)) ?_)))
      intro M7475 hP7476 hF7477 e7478
      refine wk_al0 r108_5 (wk_c1 r108_6 (wk_putfi81 r108_7 fd_739_15 (wk_nw g_739_15 rfl hP7476 hF7477 (uf_739_15 (by decide)) ?_)))
      intro M7479 hP7480 hF7481 e7482
      refine wk_al0 r108_10 (wk_c1 r108_11 (wk_putfi81 r108_12 fd_739_21 (wk_nw g_739_21 rfl hP7480 hF7481 (uf_739_21 (by decide)) ?_)))
      intro M7483 hP7484 hF7485 e7486
      refine wk_al0 r108_15 (wk_c1 r108_16 (wk_putfi81 r108_17 fd_739_24 (wk_nw g_739_24 rfl hP7484 hF7485 (uf_739_24 (by decide)) ?_)))
      intro M7487 hP7488 hF7489 e7490
      refine wk_al0 r108_20 (wk_c1 r108_21 (wk_putfi81 r108_22 fd_739_64 (wk_nw g_739_64 rfl hP7488 hF7489 (uf_739_64 (by decide)) ?_)))
      intro M7491 hP7492 hF7493 e7494
      refine wk_al0 r108_25 (wk_c1 r108_26 (wk_putfi81 r108_27 fd_739_65 (wk_nw g_739_65 rfl hP7492 hF7493 (uf_739_65 (by decide)) ?_)))
      intro M7495 hP7496 hF7497 e7498
      refine wk_al0 r108_30 (wk_c1 r108_31 (wk_putfi81 r108_32 fd_739_7 (wk_nw g_739_7 rfl hP7496 hF7497 (uf_739_7 (by decide)) ?_)))
      intro M7499 hP7500 hF7501 e7502
      refine wk_c1 r108_35 (wk_is1 r108_36 rfl ?_)
      have c37_10995 : ∀ (k10995 : Nat) (M10779 : Mm) (v10776 : Int), (7 - v10776).toNat = k10995 → Pw M10779 → Fr fm_m9108_739 M0 M10779 → M10779 739 1 = x739_1 → M10779 739 2 = x739_2 → M10779 739 41 = x739_41 → M10779 739 43 = x739_43 → M10779 739 40 = x739_40 → M10779 739 13 = 0 → M10779 739 15 = 0 → M10779 739 21 = 0 → M10779 739 24 = (-1) → M10779 739 64 = (-1) → M10779 739 65 = 0 → M10779 739 7 = 0 → 0 ≤ v10776 → v10776 ≤ 7 → (FFP M10779 fe) → (∀ k : Int, 0 ≤ k → k < v10776 → M10779 760 k = 0) → Wp B (d + 6) 108 37 [some (R 739), some (I v10776), none, none, none] [] M10779 Q := by
        refine lp_ind ?_
        intro k10995 ih10995 M10779 v10776 hk10995 hP10780 hF10781 e10782 e10783 e10784 e10785 e10786 e10787 e10788 e10789 e10790 e10791 e10792 e10793 h10777 h10778 pr10794 ti10795
        refine wk_il1 r108_37 (wk_al0 r108_38 (wk_getfi r108_39 fd_739_1 e10782 ?_))
        refine wk_icge r108_42 ⟨by omega, by omega⟩ ⟨by omega, by omega⟩ ?_ ?_
        · intro h10796
          have hCA := CH_all (M := M10779) (fun k a b => ti10795 k a (by have := e10782; omega)) (fun k a b => by rw [hF10781.at (ga_740 k) rfl]; exact hmb k a b) (by have := e10782; omega)
          have pr10797 : CHP M10779 := hCA.1
          refine wk_c1 r108_58 (wk_is1 r108_59 rfl ?_)
          have c60_10989 : ∀ (k10989 : Nat) (M10801 : Mm) (v10798 : Int) (v10804 : Int), (4000 * v10798 - VC M10801).toNat = k10989 → Pw M10801 → Fr fm_m9108_739 M0 M10801 → M10801 739 7 = v10804 → M10801 739 1 = x739_1 → M10801 739 2 = x739_2 → M10801 739 41 = x739_41 → M10801 739 43 = x739_43 → M10801 739 40 = x739_40 → M10801 739 13 = 0 → M10801 739 15 = 0 → M10801 739 21 = 0 → M10801 739 24 = (-1) → M10801 739 64 = (-1) → M10801 739 65 = 0 → 0 ≤ v10798 → v10798 ≤ 1 → 0 ≤ v10804 → v10804 ≤ 3000 → (FFP M10801 fe) → (CHP M10801) → 0 ≤ (-1) * v10798 + v10804 + 1 → (v10798 = 1 → v10804 ≤ Rr * VC M10801) → Wp B (d + 6) 108 60 [some (R 739), some (I v10798), none, none, none] [] M10801 Q := by
            refine lp_ind ?_
            intro k10989 ih10989 M10801 v10798 v10804 hk10989 hP10802 hF10803 e10807 e10808 e10809 e10810 e10811 e10812 e10813 e10814 e10815 e10816 e10817 e10818 h10799 h10800 h10805 h10806 pr10819 pr10820 h10821 ti10822
            refine wk_il1 r108_60 ?_
            refine wk_ifeq r108_61 ⟨by omega, by omega⟩ ?_ ?_
            · intro h10823
              subst hQ; exact wk_ret r108_218 (⟨rfl, hP10802, hF10803, (WS_0 e10813), (QW_0 e10815)⟩)
            · intro h10824
              obtain ⟨cv, hcv⟩ : ∃ x, VC M10801 = x := ⟨_, rfl⟩
              obtain ⟨xq, hxq⟩ : ∃ x, Rr * cv = x := ⟨_, rfl⟩
              have hw0 : v10804 ≤ xq := by rw [← hxq, ← hcv]; exact ti10822 (by omega)
              have hw1 : xq + Rr ≤ 3000 := by rw [← hxq, ← hcv]; exact VC_lt pr10820 (by omega) (by rw [e10808, PRD_M (fun k => hF10803.at (ga_740 k) rfl)]; exact xp2)
              have hcv0 : 0 ≤ cv := by rw [← hcv]; exact VC_nn hP10802 (by have := e10808; omega) (fun i a b => (ba_760 hP10802 a b).1)
              have hcv1 : cv ≤ 2999 := cv_ub (by omega) hcv0 hxq hw1
              refine wk_c1 r108_64 (wk_is2 r108_65 rfl ?_)
              have c66_10988 : ∀ (k10988 : Nat) (M10828 : Mm) (v10825 : Int) (v10831 : Int), (4 - v10825).toNat = k10988 → Pw M10828 → Fr fm_m9108_739 M0 M10828 → M10828 739 7 = v10831 → M10828 739 1 = x739_1 → M10828 739 2 = x739_2 → M10828 739 41 = x739_41 → M10828 739 43 = x739_43 → M10828 739 40 = x739_40 → M10828 739 13 = 0 → M10828 739 15 = 0 → M10828 739 21 = 0 → M10828 739 24 = (-1) → M10828 739 64 = (-1) → M10828 739 65 = 0 → 0 ≤ v10825 → v10825 ≤ 4 → 0 ≤ v10831 → v10831 ≤ 3000 → (FFP M10828 fe) → (CHP M10828) → (VC M10828 = cv) → 0 ≤ (-1) * v10831 + 1 * xq + 7 * v10825 → 0 ≤ (-1) * v10831 + 1 * xq + 14 * v10825 → 0 ≤ (-1) * v10825 + 1 * x739_2 → Wp B (d + 6) 108 66 [some (R 739), none, some (I v10825), none, none] [] M10828 Q := by
                refine lp_ind ?_
                intro k10988 ih10988 M10828 v10825 v10831 hk10988 hP10829 hF10830 e10834 e10835 e10836 e10837 e10838 e10839 e10840 e10841 e10842 e10843 e10844 e10845 h10826 h10827 h10832 h10833 pr10846 pr10847 pr10848 h10849 h10850 h10851
                refine wk_il2 r108_66 (wk_al0 r108_67 (wk_getfi r108_68 fd_739_2 e10836 ?_))
                refine wk_icge r108_71 ⟨by omega, by omega⟩ ⟨by omega, by omega⟩ ?_ ?_
                · intro h10852
                  have hCE : VC M10828 = cv := pr10848
                  have hw2 : v10831 ≤ xq + Rr := by omega
                  refine wk_al0 r108_150 (wk_getfi r108_151 fd_739_1 e10835 (wk_c1 r108_154 (wk_isub r108_155 (wk_is2 r108_156 rfl ?_))))
                  have c157_10910 : ∀ (k10910 : Nat) (M10856 : Mm) (v10853 : Int), (v10853 - (-1)).toNat = k10910 → Pw M10856 → Fr fm_m9108_739 M0 M10856 → M10856 739 7 = v10831 → M10856 739 1 = x739_1 → M10856 739 2 = x739_2 → M10856 739 41 = x739_41 → M10856 739 43 = x739_43 → M10856 739 40 = x739_40 → M10856 739 13 = 0 → M10856 739 15 = 0 → M10856 739 21 = 0 → M10856 739 24 = (-1) → M10856 739 64 = (-1) → M10856 739 65 = 0 → (-1) ≤ v10853 → v10853 ≤ 6 → (FFP M10856 fe) → (CHP M10856) → 0 ≤ (-1) * v10853 + 1 * x739_1 + (-1) → (DCI M10856 x739_1 v10853 cv) → Wp B (d + 6) 108 157 [some (R 739), none, some (I v10853), none, none] [] M10856 Q := by
                    refine lp_ind ?_
                    intro k10910 ih10910 M10856 v10853 hk10910 hP10857 hF10858 e10859 e10860 e10861 e10862 e10863 e10864 e10865 e10866 e10867 e10868 e10869 e10870 h10854 h10855 pr10871 pr10872 h10873 ti10874
                    refine wk_il2 r108_157 ?_
                    refine wk_iflt r108_158 ⟨by omega, by omega⟩ ?_ ?_
                    · intro h10875
                      refine wk_il2 r108_191 ?_
                      refine wk_iflt r108_192 ⟨by omega, by omega⟩ ?_ ?_
                      · intro h10876
                        refine wk_c1 r108_199 (wk_is1 r108_200 rfl (wk_il1 r108_201 ?_))
                        refine wk_ifeq r108_202 (by decide) ?_ ?_
                        · intro h10877
                          refine wk_goto r108_215 ?_
                          exact wp_fg (le_s (le_s (le_n (le_s (le_s le_0))))) (ih10989 (4000 * 0 - VC M10856).toNat (by omega) M10856 0 v10831 rfl hP10857 hF10858 e10859 e10860 e10861 e10862 e10863 e10864 e10865 e10866 e10867 e10868 e10869 e10870 (by first | assumption | omega) (by first | assumption | omega) (by first | assumption | omega) (by first | assumption | omega) pr10871 pr10872 (by first | assumption | omega) (fun q => by omega))
                        · intro h10878
                          exfalso
                          omega
                      · intro h10879
                        exfalso
                        omega
                    · intro h10880
                      refine wk_al0 r108_161 (wk_il2 r108_162 (wk_al0 r108_163 (wk_getfr r108_164 fd_739_54 (br_739_54 hP10857) (wk_il2 r108_167 (wk_ialdb r108_168 ar_760 ⟨by omega, by omega⟩ (fun q0 q1 => ba_760 hP10857 q0 q1) ?_)))))
                      intro v10881 h10883 h10884 e10882
                      refine wk_c1 r108_169 (wk_iadd r108_170 (wk_cv3 r108_171 kc_739_57 rfl (m9057_739 _ M10856 v10853 (v10881 + 1) hP10857 (by omega) (by omega) (by omega) (by omega)) (cqI ?_)))
                      rintro v10890 M10885 ⟨hP10886, hQ10887, h10891, h10892, xh10889⟩
                      obtain rfl := Fr.same hQ10887
                      refine wk_c1 r108_174 ?_
                      refine wk_icne r108_175 ⟨by omega, by omega⟩ (by decide) ?_ ?_
                      · intro h10893
                        refine wk_il2 r108_191 ?_
                        refine wk_iflt r108_192 ⟨by omega, by omega⟩ ?_ ?_
                        · intro h10894
                          exfalso
                          omega
                        · intro h10895
                          refine wk_c1 r108_195 (wk_goto r108_196 (wk_is1 r108_200 rfl (wk_il1 r108_201 ?_)))
                          refine wk_ifeq r108_202 (by decide) ?_ ?_
                          · intro h10896
                            exfalso
                            omega
                          · intro h10897
                            refine wk_al0 r108_205 (wk_getfr r108_206 fd_739_54 (br_739_54 hP10857) (wk_il2 r108_209 (wk_dup2 r108_210 (wk_iald r108_211 ar_760 ⟨by omega, by omega⟩ e10882 (wk_c1 r108_212 (wk_iadd r108_213 ?_))))))
                            have h10898 : (v10881 + 1) ≤ 9 := by have := cT_lt ((xh10889).2 (by omega)); omega
                            refine wk_iast r108_214 ar_760 ⟨by omega, by omega⟩ (wk_nw (ga_760 _) rfl hP10857 hF10858 (ua_760 ⟨by omega, by omega⟩) ?_)
                            intro M10899 hP10900 hF10901 e10902
                            have hVC : VC M10899 = cv + 1 := DC_inc ti10874 e10860 (by omega) (by omega) e10882 e10902
                            have pr10903 : CHP M10899 := CH_inc pr10872 (by have := (xh10889).2 (by omega); omega) e10902
                            refine wk_goto r108_215 ?_
                            exact wp_fg (le_s (le_s (le_n (le_s (le_s le_0))))) (ih10989 (4000 * 1 - VC M10899).toNat (by omega) M10899 1 v10831 rfl hP10900 hF10901 (mUp_no e10902 e10859 (Or.inl (by decide))) (mUp_no e10902 e10860 (Or.inl (by decide))) (mUp_no e10902 e10861 (Or.inl (by decide))) (mUp_no e10902 e10862 (Or.inl (by decide))) (mUp_no e10902 e10863 (Or.inl (by decide))) (mUp_no e10902 e10864 (Or.inl (by decide))) (mUp_no e10902 e10865 (Or.inl (by decide))) (mUp_no e10902 e10866 (Or.inl (by decide))) (mUp_no e10902 e10867 (Or.inl (by decide))) (mUp_no e10902 e10868 (Or.inl (by decide))) (mUp_no e10902 e10869 (Or.inl (by decide))) (mUp_no e10902 e10870 (Or.inl (by decide))) (by first | assumption | omega) (by first | assumption | omega) (by first | assumption | omega) (by first | assumption | omega) (FFP_sm (Sm.up e10902 (ga_760 _) rfl) pr10871) pr10903 (by first | assumption | omega) (fun _ => by rw [mul_ub hVC hxq]; omega))
                      · intro h10904
                        refine wk_al0 r108_178 (wk_getfr r108_179 fd_739_54 (br_739_54 hP10857) (wk_il2 r108_182 (wk_c1 r108_183 (wk_iast r108_184 ar_760 ⟨by omega, by omega⟩ (wk_nw (ga_760 _) rfl hP10857 hF10858 (ua_760 (by decide)) ?_)))))
                        intro M10905 hP10906 hF10907 e10908
                        have pr10909 : CHP M10905 := CH_zero pr10872 (by rw [hF10858.at (ga_740 _) rfl]; exact cT_pos (hmb v10853 (by omega) (by omega))) e10908
                        refine wk_inc2 r108_185 rfl (wk_goto r108_188 ?_)
                        exact wp_fg (le_s (le_s (le_s (le_s (le_s le_0))))) (ih10910 ((v10853 + (-1)) - (-1)).toNat (by omega) M10905 (v10853 + (-1)) rfl hP10906 hF10907 (mUp_no e10908 e10859 (Or.inl (by decide))) (mUp_no e10908 e10860 (Or.inl (by decide))) (mUp_no e10908 e10861 (Or.inl (by decide))) (mUp_no e10908 e10862 (Or.inl (by decide))) (mUp_no e10908 e10863 (Or.inl (by decide))) (mUp_no e10908 e10864 (Or.inl (by decide))) (mUp_no e10908 e10865 (Or.inl (by decide))) (mUp_no e10908 e10866 (Or.inl (by decide))) (mUp_no e10908 e10867 (Or.inl (by decide))) (mUp_no e10908 e10868 (Or.inl (by decide))) (mUp_no e10908 e10869 (Or.inl (by decide))) (mUp_no e10908 e10870 (Or.inl (by decide))) (by first | assumption | omega) (by first | assumption | omega) (FFP_sm (Sm.up e10908 (ga_760 _) rfl) pr10871) pr10909 (by first | assumption | omega) (DC_st ti10874 (by omega) (by omega) (by have := (xh10889).1 (by omega); rw [e10882]; omega) (by have := pr10872 v10853 (by omega) (by rw [e10860]; omega); exact this) e10908))
                  exact wp_fg (le_s (le_s (le_s (le_s (le_s le_0))))) (c157_10910 _ M10828 (x739_1 - 1) rfl hP10829 hF10830 e10834 e10835 e10836 e10837 e10838 e10839 e10840 e10841 e10842 e10843 e10844 e10845 (by first | assumption | omega) (by first | assumption | omega) pr10846 pr10847 (by first | assumption | omega) (DC_in e10835 (by omega) hCE))
                · intro h10911
                  refine wk_c1 r108_74 (wk_is3 r108_75 rfl ?_)
                  have c76_10987 : ∀ (k10987 : Nat) (M10915 : Mm) (v10912 : Int) (v10918 : Int), (7 - v10912).toNat = k10987 → Pw M10915 → Fr fm_m9108_739 M0 M10915 → M10915 739 7 = v10918 → M10915 739 1 = x739_1 → M10915 739 2 = x739_2 → M10915 739 41 = x739_41 → M10915 739 43 = x739_43 → M10915 739 40 = x739_40 → M10915 739 13 = 0 → M10915 739 15 = 0 → M10915 739 21 = 0 → M10915 739 24 = (-1) → M10915 739 64 = (-1) → M10915 739 65 = 0 → 0 ≤ v10912 → v10912 ≤ 7 → 0 ≤ v10918 → v10918 ≤ 3000 → (FFP M10915 fe) → (CHP M10915) → (VC M10915 = cv) → 0 ≤ (-1) * v10918 + 1 * xq + 7 * v10825 + 1 * v10912 → 0 ≤ (-1) * v10918 + 1 * xq + 14 * v10825 + 2 * v10912 → 0 ≤ (-1) * v10825 + 1 * x739_2 → 0 ≤ (-1) * v10912 + 1 * x739_41 → Wp B (d + 6) 108 76 [some (R 739), none, some (I v10825), some (I v10912), none] [] M10915 Q := by
                    refine lp_ind ?_
                    intro k10987 ih10987 M10915 v10912 v10918 hk10987 hP10916 hF10917 e10921 e10922 e10923 e10924 e10925 e10926 e10927 e10928 e10929 e10930 e10931 e10932 h10913 h10914 h10919 h10920 pr10933 pr10934 pr10935 h10936 h10937 h10938 h10939
                    refine wk_il3 r108_76 (wk_al0 r108_77 (wk_getfi r108_78 fd_739_41 e10924 ?_))
                    refine wk_icge r108_81 ⟨by omega, by omega⟩ ⟨by omega, by omega⟩ ?_ ?_
                    · intro h10940
                      refine wk_inc2 r108_144 rfl (wk_goto r108_147 ?_)
                      exact wp_fg (le_s (le_s (le_s (le_n (le_s le_0))))) (ih10988 (4 - (v10825 + 1)).toNat (by omega) M10915 (v10825 + 1) v10918 rfl hP10916 hF10917 e10921 e10922 e10923 e10924 e10925 e10926 e10927 e10928 e10929 e10930 e10931 e10932 (by first | assumption | omega) (by first | assumption | omega) (by first | assumption | omega) (by first | assumption | omega) pr10933 pr10934 pr10935 (by first | assumption | omega) (by first | assumption | omega) (by first | assumption | omega))
                    · intro h10941
                      refine wk_c1 r108_84 (wk_is4 r108_85 rfl ?_)
                      have c87_10986 : ∀ (k10986 : Nat) (M10945 : Mm) (v10942 : Int) (v10948 : Int), (1 - v10942).toNat = k10986 → Pw M10945 → Fr fm_m9108_739 M0 M10945 → M10945 739 7 = v10948 → M10945 739 1 = x739_1 → M10945 739 2 = x739_2 → M10945 739 41 = x739_41 → M10945 739 43 = x739_43 → M10945 739 40 = x739_40 → M10945 739 13 = 0 → M10945 739 15 = 0 → M10945 739 21 = 0 → M10945 739 24 = (-1) → M10945 739 64 = (-1) → M10945 739 65 = 0 → 0 ≤ v10942 → v10942 ≤ 1 → 0 ≤ v10948 → v10948 ≤ 3000 → (FFP M10945 fe) → (CHP M10945) → (VC M10945 = cv) → 0 ≤ (-1) * v10948 + 1 * xq + 7 * v10825 + 1 * v10912 + 1 * v10942 → 0 ≤ (-1) * v10948 + 1 * xq + 14 * v10825 + 2 * v10912 + 1 * v10942 → 0 ≤ (-1) * v10825 + 1 * x739_2 → 0 ≤ (-1) * v10912 + 1 * x739_41 → 0 ≤ (-1) * v10942 + 1 * x739_43 → Wp B (d + 6) 108 87 [some (R 739), none, some (I v10825), some (I v10912), some (I v10942)] [] M10945 Q := by
                        refine lp_ind ?_
                        intro k10986 ih10986 M10945 v10942 v10948 hk10986 hP10946 hF10947 e10951 e10952 e10953 e10954 e10955 e10956 e10957 e10958 e10959 e10960 e10961 e10962 h10943 h10944 h10949 h10950 pr10963 pr10964 pr10965 h10966 h10967 h10968 h10969 h10970
                        refine wk_il4 r108_87 (wk_al0 r108_89 (wk_getfi r108_90 fd_739_43 e10955 ?_))
                        refine wk_icge r108_93 ⟨by omega, by omega⟩ ⟨by omega, by omega⟩ ?_ ?_
                        · intro h10971
                          refine wk_inc3 r108_138 rfl (wk_goto r108_141 ?_)
                          exact wp_fg (le_s (le_s (le_s (le_s (le_n le_0))))) (ih10987 (7 - (v10912 + 1)).toNat (by omega) M10945 (v10912 + 1) v10948 rfl hP10946 hF10947 e10951 e10952 e10953 e10954 e10955 e10956 e10957 e10958 e10959 e10960 e10961 e10962 (by first | assumption | omega) (by first | assumption | omega) (by first | assumption | omega) (by first | assumption | omega) pr10963 pr10964 pr10965 (by first | assumption | omega) (by first | assumption | omega) (by first | assumption | omega) (by first | assumption | omega))
                        · intro h10972
                          refine wk_al0 r108_96 (wk_il2 r108_97 (wk_al0 r108_98 (wk_getfi r108_99 fd_739_41 e10954 (wk_c2 r108_102 ?_))))
                          refine wk_icne r108_104 ⟨by omega, by omega⟩ (by decide) ?_ ?_
                          · intro h10973
                            exfalso
                            omega
                          · intro h10974
                            refine wk_il3 r108_107 (wk_goto r108_108 (wk_il4 r108_127 (wk_cv4 r108_129 kc_739_59 rfl (m9059_739 _ M10945 v10825 v10912 v10942 v10948 x739_1 fe hP10946 (by omega) (by omega) (by omega) (by omega) (by omega) (by omega) e10951 (by first | assumption | omega) (by first | assumption | omega) e10952 (by first | assumption | omega) (by first | assumption | omega) pr10963 pr10964) (cqV ?_))))
                            rintro M10975 ⟨hP10976, hQ10977, h10979, h10980, pr10981, pr10982⟩
                            have hF10978 : Fr fm_m9108_739 M0 M10975 := hF10947.tr hQ10977 rfl
                            obtain ⟨v10983, e10984⟩ : ∃ v, M10975 739 7 = v := ⟨_, rfl⟩
                            have h10985 := bf_739_7 hP10976; rw [e10984] at h10985
                            refine wk_inc4 r108_132 rfl (wk_goto r108_135 ?_)
                            exact wp_fg (le_s (le_s (le_s (le_s (le_s le_0))))) (ih10986 (1 - (v10942 + 1)).toNat (by omega) M10975 (v10942 + 1) v10983 rfl hP10976 hF10978 e10984 ((hQ10977.at g_739_1 rfl).trans e10952) ((hQ10977.at g_739_2 rfl).trans e10953) ((hQ10977.at g_739_41 rfl).trans e10954) ((hQ10977.at g_739_43 rfl).trans e10955) ((hQ10977.at g_739_40 rfl).trans e10956) ((hQ10977.at g_739_13 rfl).trans e10957) ((hQ10977.at g_739_15 rfl).trans e10958) ((hQ10977.at g_739_21 rfl).trans e10959) ((hQ10977.at g_739_24 rfl).trans e10960) ((hQ10977.at g_739_64 rfl).trans e10961) ((hQ10977.at g_739_65 rfl).trans e10962) (by first | assumption | omega) (by first | assumption | omega) (by first | assumption | omega) (by first | assumption | omega) pr10981 pr10982 (VCE_sm (Sm.fr hQ10977 rfl) pr10965) (by first | assumption | omega) (by first | assumption | omega) (by first | assumption | omega) (by first | assumption | omega) (by first | assumption | omega))
                      exact wp_fg (le_s (le_s (le_s (le_s (le_s le_0))))) (c87_10986 _ M10915 0 v10918 rfl hP10916 hF10917 e10921 e10922 e10923 e10924 e10925 e10926 e10927 e10928 e10929 e10930 e10931 e10932 (by first | assumption | omega) (by first | assumption | omega) (by first | assumption | omega) (by first | assumption | omega) pr10933 pr10934 pr10935 (by first | assumption | omega) (by first | assumption | omega) (by first | assumption | omega) (by first | assumption | omega) (by first | assumption | omega))
                  exact wp_fg (le_s (le_s (le_s (le_s (le_s le_0))))) (c76_10987 _ M10828 0 v10831 rfl hP10829 hF10830 e10834 e10835 e10836 e10837 e10838 e10839 e10840 e10841 e10842 e10843 e10844 e10845 (by first | assumption | omega) (by first | assumption | omega) (by first | assumption | omega) (by first | assumption | omega) pr10846 pr10847 pr10848 (by first | assumption | omega) (by first | assumption | omega) (by first | assumption | omega) (by first | assumption | omega))
              exact wp_fg (le_s (le_n (le_s (le_s (le_s le_0))))) (c66_10988 _ M10801 0 v10804 rfl hP10802 hF10803 e10807 e10808 e10809 e10810 e10811 e10812 e10813 e10814 e10815 e10816 e10817 e10818 (by first | assumption | omega) (by first | assumption | omega) (by first | assumption | omega) (by first | assumption | omega) pr10819 pr10820 hcv (by first | assumption | omega) (by first | assumption | omega) (by first | assumption | omega))
          exact wp_fg (le_s (le_s (le_s (le_s (le_s le_0))))) (c60_10989 _ M10779 1 0 rfl hP10780 hF10781 e10793 e10782 e10783 e10784 e10785 e10786 e10787 e10788 e10789 e10790 e10791 e10792 (by first | assumption | omega) (by first | assumption | omega) (by first | assumption | omega) (by first | assumption | omega) pr10794 pr10797 (by first | assumption | omega) (fun _ => by rw [hCA.2, Int.mul_zero]; omega))
        · intro h10990
          refine wk_al0 r108_45 (wk_getfr r108_46 fd_739_54 (br_739_54 hP10780) (wk_il1 r108_49 (wk_c1 r108_50 (wk_iast r108_51 ar_760 ⟨by omega, by omega⟩ (wk_nw (ga_760 _) rfl hP10780 hF10781 (ua_760 (by decide)) ?_)))))
          intro M10991 hP10992 hF10993 e10994
          refine wk_inc1 r108_52 rfl (wk_goto r108_55 ?_)
          exact wp_fg (le_s (le_s (le_s (le_s (le_s le_0))))) (ih10995 (7 - (v10776 + 1)).toNat (by omega) M10991 (v10776 + 1) rfl hP10992 hF10993 (mUp_no e10994 e10782 (Or.inl (by decide))) (mUp_no e10994 e10783 (Or.inl (by decide))) (mUp_no e10994 e10784 (Or.inl (by decide))) (mUp_no e10994 e10785 (Or.inl (by decide))) (mUp_no e10994 e10786 (Or.inl (by decide))) (mUp_no e10994 e10787 (Or.inl (by decide))) (mUp_no e10994 e10788 (Or.inl (by decide))) (mUp_no e10994 e10789 (Or.inl (by decide))) (mUp_no e10994 e10790 (Or.inl (by decide))) (mUp_no e10994 e10791 (Or.inl (by decide))) (mUp_no e10994 e10792 (Or.inl (by decide))) (mUp_no e10994 e10793 (Or.inl (by decide))) (by first | assumption | omega) (by first | assumption | omega) (FFP_sm (Sm.up e10994 (ga_760 _) rfl) pr10794) (fun k a b => by rw [e10994]; (by_cases q : k = v10776); (rw [q, mUp_eq]); (rw [mUp_ne (Or.inr q)]; exact ti10795 k a (by omega))))
      exact wp_fg (le_s (le_s (le_s (le_s (le_s le_0))))) (c37_10995 _ M7499 0 rfl hP7500 hF7501 (mUp_no e7502 (mUp_no e7498 (mUp_no e7494 (mUp_no e7490 (mUp_no e7486 (mUp_no e7482 (mUp_no e7478 ex739_1 (Or.inr (by decide))) (Or.inr (by decide))) (Or.inr (by decide))) (Or.inr (by decide))) (Or.inr (by decide))) (Or.inr (by decide))) (Or.inr (by decide))) (mUp_no e7502 (mUp_no e7498 (mUp_no e7494 (mUp_no e7490 (mUp_no e7486 (mUp_no e7482 (mUp_no e7478 ex739_2 (Or.inr (by decide))) (Or.inr (by decide))) (Or.inr (by decide))) (Or.inr (by decide))) (Or.inr (by decide))) (Or.inr (by decide))) (Or.inr (by decide))) (mUp_no e7502 (mUp_no e7498 (mUp_no e7494 (mUp_no e7490 (mUp_no e7486 (mUp_no e7482 (mUp_no e7478 ex739_41 (Or.inr (by decide))) (Or.inr (by decide))) (Or.inr (by decide))) (Or.inr (by decide))) (Or.inr (by decide))) (Or.inr (by decide))) (Or.inr (by decide))) (mUp_no e7502 (mUp_no e7498 (mUp_no e7494 (mUp_no e7490 (mUp_no e7486 (mUp_no e7482 (mUp_no e7478 ex739_43 (Or.inr (by decide))) (Or.inr (by decide))) (Or.inr (by decide))) (Or.inr (by decide))) (Or.inr (by decide))) (Or.inr (by decide))) (Or.inr (by decide))) (mUp_no e7502 (mUp_no e7498 (mUp_no e7494 (mUp_no e7490 (mUp_no e7486 (mUp_no e7482 (mUp_no e7478 ex739_40 (Or.inr (by decide))) (Or.inr (by decide))) (Or.inr (by decide))) (Or.inr (by decide))) (Or.inr (by decide))) (Or.inr (by decide))) (Or.inr (by decide))) (mUp_no e7502 (mUp_no e7498 (mUp_no e7494 (mUp_no e7490 (mUp_no e7486 (mUp_no e7482 (mUp_at e7478) (Or.inr (by decide))) (Or.inr (by decide))) (Or.inr (by decide))) (Or.inr (by decide))) (Or.inr (by decide))) (Or.inr (by decide))) (mUp_no e7502 (mUp_no e7498 (mUp_no e7494 (mUp_no e7490 (mUp_no e7486 (mUp_at e7482) (Or.inr (by decide))) (Or.inr (by decide))) (Or.inr (by decide))) (Or.inr (by decide))) (Or.inr (by decide))) (mUp_no e7502 (mUp_no e7498 (mUp_no e7494 (mUp_no e7490 (mUp_at e7486) (Or.inr (by decide))) (Or.inr (by decide))) (Or.inr (by decide))) (Or.inr (by decide))) (mUp_no e7502 (mUp_no e7498 (mUp_no e7494 (mUp_at e7490) (Or.inr (by decide))) (Or.inr (by decide))) (Or.inr (by decide))) (mUp_no e7502 (mUp_no e7498 (mUp_at e7494) (Or.inr (by decide))) (Or.inr (by decide))) (mUp_no e7502 (mUp_at e7498) (Or.inr (by decide))) (mUp_at e7502) (by first | assumption | omega) (by first | assumption | omega) (FFP_sm (Sm.up e7502 g_739_7 rfl) (FFP_sm (Sm.up e7498 g_739_65 rfl) (FFP_sm (Sm.up e7494 g_739_64 rfl) (FFP_sm (Sm.up e7490 g_739_24 rfl) (FFP_sm (Sm.up e7486 g_739_21 rfl) (FFP_sm (Sm.up e7482 g_739_15 rfl) (FFP_sm (Sm.up e7478 g_739_13 rfl) pp_FF))))))) (fun k a b => by omega))
    · have hRr : Rr = 14 * x739_2 := by rw [xp1, show x739_41 = 7 by omega, show x739_43 = 2 by omega]; omega
      have hmb : ∀ k : Int, 0 ≤ k → k < 7 → 1 ≤ M0 740 k ∧ M0 740 k ≤ 31 := fun k a b => ⟨xp3 k a b, (ba_740 hP0 a b).2⟩
      refine wk_al0 r108_0 (wk_c1 r108_1 (wk_putfi81 r108_2 fd_739_13 (wk_nw g_739_13 rfl hP0 hF0 (uf_739_13 (by decide)) ?_)))
      intro M10996 hP10997 hF10998 e10999
      refine wk_al0 r108_5 (wk_c1 r108_6 (wk_putfi81 r108_7 fd_739_15 (wk_nw g_739_15 rfl hP10997 hF10998 (uf_739_15 (by decide)) ?_)))
      intro M11000 hP11001 hF11002 e11003
      refine wk_al0 r108_10 (wk_c1 r108_11 (wk_putfi81 r108_12 fd_739_21 (wk_nw g_739_21 rfl hP11001 hF11002 (uf_739_21 (by decide)) ?_)))
      intro M11004 hP11005 hF11006 e11007
      refine wk_al0 r108_15 (wk_c1 r108_16 (wk_putfi81 r108_17 fd_739_24 (wk_nw g_739_24 rfl hP11005 hF11006 (uf_739_24 (by decide)) ?_)))
      intro M11008 hP11009 hF11010 e11011
      refine wk_al0 r108_20 (wk_c1 r108_21 (wk_putfi81 r108_22 fd_739_64 (wk_nw g_739_64 rfl hP11009 hF11010 (uf_739_64 (by decide)) ?_)))
      intro M11012 hP11013 hF11014 e11015
      refine wk_al0 r108_25 (wk_c1 r108_26 (wk_putfi81 r108_27 fd_739_65 (wk_nw g_739_65 rfl hP11013 hF11014 (uf_739_65 (by decide)) ?_)))
      intro M11016 hP11017 hF11018 e11019
      refine wk_al0 r108_30 (wk_c1 r108_31 (wk_putfi81 r108_32 fd_739_7 (wk_nw g_739_7 rfl hP11017 hF11018 (uf_739_7 (by decide)) ?_)))
      intro M11020 hP11021 hF11022 e11023
      refine wk_c1 r108_35 (wk_is1 r108_36 rfl ?_)
      have c37_14612 : ∀ (k14612 : Nat) (M14399 : Mm) (v14396 : Int), (7 - v14396).toNat = k14612 → Pw M14399 → Fr fm_m9108_739 M0 M14399 → M14399 739 1 = x739_1 → M14399 739 2 = x739_2 → M14399 739 41 = x739_41 → M14399 739 43 = x739_43 → M14399 739 40 = x739_40 → M14399 739 13 = 0 → M14399 739 15 = 0 → M14399 739 21 = 0 → M14399 739 24 = (-1) → M14399 739 64 = (-1) → M14399 739 65 = 0 → M14399 739 7 = 0 → 0 ≤ v14396 → v14396 ≤ 7 → (FFP M14399 fe) → (∀ k : Int, 0 ≤ k → k < v14396 → M14399 760 k = 0) → Wp B (d + 6) 108 37 [some (R 739), some (I v14396), none, none, none] [] M14399 Q := by
        refine lp_ind ?_
        intro k14612 ih14612 M14399 v14396 hk14612 hP14400 hF14401 e14402 e14403 e14404 e14405 e14406 e14407 e14408 e14409 e14410 e14411 e14412 e14413 h14397 h14398 pr14414 ti14415
        refine wk_il1 r108_37 (wk_al0 r108_38 (wk_getfi r108_39 fd_739_1 e14402 ?_))
        refine wk_icge r108_42 ⟨by omega, by omega⟩ ⟨by omega, by omega⟩ ?_ ?_
        · intro h14416
          have hCA := CH_all (M := M14399) (fun k a b => ti14415 k a (by have := e14402; omega)) (fun k a b => by rw [hF14401.at (ga_740 k) rfl]; exact hmb k a b) (by have := e14402; omega)
          have pr14417 : CHP M14399 := hCA.1
          refine wk_c1 r108_58 (wk_is1 r108_59 rfl ?_)
          have c60_14606 : ∀ (k14606 : Nat) (M14421 : Mm) (v14418 : Int) (v14424 : Int), (4000 * v14418 - VC M14421).toNat = k14606 → Pw M14421 → Fr fm_m9108_739 M0 M14421 → M14421 739 7 = v14424 → M14421 739 1 = x739_1 → M14421 739 2 = x739_2 → M14421 739 41 = x739_41 → M14421 739 43 = x739_43 → M14421 739 40 = x739_40 → M14421 739 13 = 0 → M14421 739 15 = 0 → M14421 739 21 = 0 → M14421 739 24 = (-1) → M14421 739 64 = (-1) → M14421 739 65 = 0 → 0 ≤ v14418 → v14418 ≤ 1 → 0 ≤ v14424 → v14424 ≤ 3000 → (FFP M14421 fe) → (CHP M14421) → 0 ≤ (-1) * v14418 + v14424 + 1 → (v14418 = 1 → v14424 ≤ Rr * VC M14421) → Wp B (d + 6) 108 60 [some (R 739), some (I v14418), none, none, none] [] M14421 Q := by
            refine lp_ind ?_
            intro k14606 ih14606 M14421 v14418 v14424 hk14606 hP14422 hF14423 e14427 e14428 e14429 e14430 e14431 e14432 e14433 e14434 e14435 e14436 e14437 e14438 h14419 h14420 h14425 h14426 pr14439 pr14440 h14441 ti14442
            refine wk_il1 r108_60 ?_
            refine wk_ifeq r108_61 ⟨by omega, by omega⟩ ?_ ?_
            · intro h14443
              subst hQ; exact wk_ret r108_218 (⟨rfl, hP14422, hF14423, (WS_0 e14433), (QW_0 e14435)⟩)
            · intro h14444
              obtain ⟨cv, hcv⟩ : ∃ x, VC M14421 = x := ⟨_, rfl⟩
              obtain ⟨xq, hxq⟩ : ∃ x, Rr * cv = x := ⟨_, rfl⟩
              have hw0 : v14424 ≤ xq := by rw [← hxq, ← hcv]; exact ti14442 (by omega)
              have hw1 : xq + Rr ≤ 3000 := by rw [← hxq, ← hcv]; exact VC_lt pr14440 (by omega) (by rw [e14428, PRD_M (fun k => hF14423.at (ga_740 k) rfl)]; exact xp2)
              have hcv0 : 0 ≤ cv := by rw [← hcv]; exact VC_nn hP14422 (by have := e14428; omega) (fun i a b => (ba_760 hP14422 a b).1)
              have hcv1 : cv ≤ 2999 := cv_ub (by omega) hcv0 hxq hw1
              refine wk_c1 r108_64 (wk_is2 r108_65 rfl ?_)
              have c66_14605 : ∀ (k14605 : Nat) (M14448 : Mm) (v14445 : Int) (v14451 : Int), (4 - v14445).toNat = k14605 → Pw M14448 → Fr fm_m9108_739 M0 M14448 → M14448 739 7 = v14451 → M14448 739 1 = x739_1 → M14448 739 2 = x739_2 → M14448 739 41 = x739_41 → M14448 739 43 = x739_43 → M14448 739 40 = x739_40 → M14448 739 13 = 0 → M14448 739 15 = 0 → M14448 739 21 = 0 → M14448 739 24 = (-1) → M14448 739 64 = (-1) → M14448 739 65 = 0 → 0 ≤ v14445 → v14445 ≤ 4 → 0 ≤ v14451 → v14451 ≤ 3000 → (FFP M14448 fe) → (CHP M14448) → (VC M14448 = cv) → 0 ≤ (-1) * v14451 + 1 * xq + 14 * v14445 → 0 ≤ (-1) * v14445 + 1 * x739_2 → Wp B (d + 6) 108 66 [some (R 739), none, some (I v14445), none, none] [] M14448 Q := by
                refine lp_ind ?_
                intro k14605 ih14605 M14448 v14445 v14451 hk14605 hP14449 hF14450 e14454 e14455 e14456 e14457 e14458 e14459 e14460 e14461 e14462 e14463 e14464 e14465 h14446 h14447 h14452 h14453 pr14466 pr14467 pr14468 h14469 h14470
                refine wk_il2 r108_66 (wk_al0 r108_67 (wk_getfi r108_68 fd_739_2 e14456 ?_))
                refine wk_icge r108_71 ⟨by omega, by omega⟩ ⟨by omega, by omega⟩ ?_ ?_
                · intro h14471
                  have hCE : VC M14448 = cv := pr14468
                  have hw2 : v14451 ≤ xq + Rr := by omega
                  refine wk_al0 r108_150 (wk_getfi r108_151 fd_739_1 e14455 (wk_c1 r108_154 (wk_isub r108_155 (wk_is2 r108_156 rfl ?_))))
                  have c157_14529 : ∀ (k14529 : Nat) (M14475 : Mm) (v14472 : Int), (v14472 - (-1)).toNat = k14529 → Pw M14475 → Fr fm_m9108_739 M0 M14475 → M14475 739 7 = v14451 → M14475 739 1 = x739_1 → M14475 739 2 = x739_2 → M14475 739 41 = x739_41 → M14475 739 43 = x739_43 → M14475 739 40 = x739_40 → M14475 739 13 = 0 → M14475 739 15 = 0 → M14475 739 21 = 0 → M14475 739 24 = (-1) → M14475 739 64 = (-1) → M14475 739 65 = 0 → (-1) ≤ v14472 → v14472 ≤ 6 → (FFP M14475 fe) → (CHP M14475) → 0 ≤ (-1) * v14472 + 1 * x739_1 + (-1) → (DCI M14475 x739_1 v14472 cv) → Wp B (d + 6) 108 157 [some (R 739), none, some (I v14472), none, none] [] M14475 Q := by
                    refine lp_ind ?_
                    intro k14529 ih14529 M14475 v14472 hk14529 hP14476 hF14477 e14478 e14479 e14480 e14481 e14482 e14483 e14484 e14485 e14486 e14487 e14488 e14489 h14473 h14474 pr14490 pr14491 h14492 ti14493
                    refine wk_il2 r108_157 ?_
                    refine wk_iflt r108_158 ⟨by omega, by omega⟩ ?_ ?_
                    · intro h14494
                      refine wk_il2 r108_191 ?_
                      refine wk_iflt r108_192 ⟨by omega, by omega⟩ ?_ ?_
                      · intro h14495
                        refine wk_c1 r108_199 (wk_is1 r108_200 rfl (wk_il1 r108_201 ?_))
                        refine wk_ifeq r108_202 (by decide) ?_ ?_
                        · intro h14496
                          refine wk_goto r108_215 ?_
                          exact wp_fg (le_s (le_s (le_n (le_s (le_s le_0))))) (ih14606 (4000 * 0 - VC M14475).toNat (by omega) M14475 0 v14451 rfl hP14476 hF14477 e14478 e14479 e14480 e14481 e14482 e14483 e14484 e14485 e14486 e14487 e14488 e14489 (by first | assumption | omega) (by first | assumption | omega) (by first | assumption | omega) (by first | assumption | omega) pr14490 pr14491 (by first | assumption | omega) (fun q => by omega))
                        · intro h14497
                          exfalso
                          omega
                      · intro h14498
                        exfalso
                        omega
                    · intro h14499
                      refine wk_al0 r108_161 (wk_il2 r108_162 (wk_al0 r108_163 (wk_getfr r108_164 fd_739_54 (br_739_54 hP14476) (wk_il2 r108_167 (wk_ialdb r108_168 ar_760 ⟨by omega, by omega⟩ (fun q0 q1 => ba_760 hP14476 q0 q1) ?_)))))
                      intro v14500 h14502 h14503 e14501
                      refine wk_c1 r108_169 (wk_iadd r108_170 (wk_cv3 r108_171 kc_739_57 rfl (m9057_739 _ M14475 v14472 (v14500 + 1) hP14476 (by omega) (by omega) (by omega) (by omega)) (cqI ?_)))
                      rintro v14509 M14504 ⟨hP14505, hQ14506, h14510, h14511, xh14508⟩
                      obtain rfl := Fr.same hQ14506
                      refine wk_c1 r108_174 ?_
                      refine wk_icne r108_175 ⟨by omega, by omega⟩ (by decide) ?_ ?_
                      · intro h14512
                        refine wk_il2 r108_191 ?_
                        refine wk_iflt r108_192 ⟨by omega, by omega⟩ ?_ ?_
                        · intro h14513
                          exfalso
                          omega
                        · intro h14514
                          refine wk_c1 r108_195 (wk_goto r108_196 (wk_is1 r108_200 rfl (wk_il1 r108_201 ?_)))
                          refine wk_ifeq r108_202 (by decide) ?_ ?_
                          · intro h14515
                            exfalso
                            omega
                          · intro h14516
                            refine wk_al0 r108_205 (wk_getfr r108_206 fd_739_54 (br_739_54 hP14476) (wk_il2 r108_209 (wk_dup2 r108_210 (wk_iald r108_211 ar_760 ⟨by omega, by omega⟩ e14501 (wk_c1 r108_212 (wk_iadd r108_213 ?_))))))
                            have h14517 : (v14500 + 1) ≤ 9 := by have := cT_lt ((xh14508).2 (by omega)); omega
                            refine wk_iast r108_214 ar_760 ⟨by omega, by omega⟩ (wk_nw (ga_760 _) rfl hP14476 hF14477 (ua_760 ⟨by omega, by omega⟩) ?_)
                            intro M14518 hP14519 hF14520 e14521
                            have hVC : VC M14518 = cv + 1 := DC_inc ti14493 e14479 (by omega) (by omega) e14501 e14521
                            have pr14522 : CHP M14518 := CH_inc pr14491 (by have := (xh14508).2 (by omega); omega) e14521
                            refine wk_goto r108_215 ?_
                            exact wp_fg (le_s (le_s (le_n (le_s (le_s le_0))))) (ih14606 (4000 * 1 - VC M14518).toNat (by omega) M14518 1 v14451 rfl hP14519 hF14520 (mUp_no e14521 e14478 (Or.inl (by decide))) (mUp_no e14521 e14479 (Or.inl (by decide))) (mUp_no e14521 e14480 (Or.inl (by decide))) (mUp_no e14521 e14481 (Or.inl (by decide))) (mUp_no e14521 e14482 (Or.inl (by decide))) (mUp_no e14521 e14483 (Or.inl (by decide))) (mUp_no e14521 e14484 (Or.inl (by decide))) (mUp_no e14521 e14485 (Or.inl (by decide))) (mUp_no e14521 e14486 (Or.inl (by decide))) (mUp_no e14521 e14487 (Or.inl (by decide))) (mUp_no e14521 e14488 (Or.inl (by decide))) (mUp_no e14521 e14489 (Or.inl (by decide))) (by first | assumption | omega) (by first | assumption | omega) (by first | assumption | omega) (by first | assumption | omega) (FFP_sm (Sm.up e14521 (ga_760 _) rfl) pr14490) pr14522 (by first | assumption | omega) (fun _ => by rw [mul_ub hVC hxq]; omega))
                      · intro h14523
                        refine wk_al0 r108_178 (wk_getfr r108_179 fd_739_54 (br_739_54 hP14476) (wk_il2 r108_182 (wk_c1 r108_183 (wk_iast r108_184 ar_760 ⟨by omega, by omega⟩ (wk_nw (ga_760 _) rfl hP14476 hF14477 (ua_760 (by decide)) ?_)))))
                        intro M14524 hP14525 hF14526 e14527
                        have pr14528 : CHP M14524 := CH_zero pr14491 (by rw [hF14477.at (ga_740 _) rfl]; exact cT_pos (hmb v14472 (by omega) (by omega))) e14527
                        refine wk_inc2 r108_185 rfl (wk_goto r108_188 ?_)
                        exact wp_fg (le_s (le_s (le_s (le_s (le_s le_0))))) (ih14529 ((v14472 + (-1)) - (-1)).toNat (by omega) M14524 (v14472 + (-1)) rfl hP14525 hF14526 (mUp_no e14527 e14478 (Or.inl (by decide))) (mUp_no e14527 e14479 (Or.inl (by decide))) (mUp_no e14527 e14480 (Or.inl (by decide))) (mUp_no e14527 e14481 (Or.inl (by decide))) (mUp_no e14527 e14482 (Or.inl (by decide))) (mUp_no e14527 e14483 (Or.inl (by decide))) (mUp_no e14527 e14484 (Or.inl (by decide))) (mUp_no e14527 e14485 (Or.inl (by decide))) (mUp_no e14527 e14486 (Or.inl (by decide))) (mUp_no e14527 e14487 (Or.inl (by decide))) (mUp_no e14527 e14488 (Or.inl (by decide))) (mUp_no e14527 e14489 (Or.inl (by decide))) (by first | assumption | omega) (by first | assumption | omega) (FFP_sm (Sm.up e14527 (ga_760 _) rfl) pr14490) pr14528 (by first | assumption | omega) (DC_st ti14493 (by omega) (by omega) (by have := (xh14508).1 (by omega); rw [e14501]; omega) (by have := pr14491 v14472 (by omega) (by rw [e14479]; omega); exact this) e14527))
                  exact wp_fg (le_s (le_s (le_s (le_s (le_s le_0))))) (c157_14529 _ M14448 (x739_1 - 1) rfl hP14449 hF14450 e14454 e14455 e14456 e14457 e14458 e14459 e14460 e14461 e14462 e14463 e14464 e14465 (by first | assumption | omega) (by first | assumption | omega) pr14466 pr14467 (by first | assumption | omega) (DC_in e14455 (by omega) hCE))
                · intro h14530
                  refine wk_c1 r108_74 (wk_is3 r108_75 rfl ?_)
                  have c76_14604 : ∀ (k14604 : Nat) (M14534 : Mm) (v14531 : Int) (v14537 : Int), (7 - v14531).toNat = k14604 → Pw M14534 → Fr fm_m9108_739 M0 M14534 → M14534 739 7 = v14537 → M14534 739 1 = x739_1 → M14534 739 2 = x739_2 → M14534 739 41 = x739_41 → M14534 739 43 = x739_43 → M14534 739 40 = x739_40 → M14534 739 13 = 0 → M14534 739 15 = 0 → M14534 739 21 = 0 → M14534 739 24 = (-1) → M14534 739 64 = (-1) → M14534 739 65 = 0 → 0 ≤ v14531 → v14531 ≤ 7 → 0 ≤ v14537 → v14537 ≤ 3000 → (FFP M14534 fe) → (CHP M14534) → (VC M14534 = cv) → 0 ≤ (-1) * v14537 + 1 * xq + 14 * v14445 + 2 * v14531 → 0 ≤ (-1) * v14445 + 1 * x739_2 → 0 ≤ (-1) * v14531 + 1 * x739_41 → Wp B (d + 6) 108 76 [some (R 739), none, some (I v14445), some (I v14531), none] [] M14534 Q := by
                    refine lp_ind ?_
                    intro k14604 ih14604 M14534 v14531 v14537 hk14604 hP14535 hF14536 e14540 e14541 e14542 e14543 e14544 e14545 e14546 e14547 e14548 e14549 e14550 e14551 h14532 h14533 h14538 h14539 pr14552 pr14553 pr14554 h14555 h14556 h14557
                    refine wk_il3 r108_76 (wk_al0 r108_77 (wk_getfi r108_78 fd_739_41 e14543 ?_))
                    refine wk_icge r108_81 ⟨by omega, by omega⟩ ⟨by omega, by omega⟩ ?_ ?_
                    · intro h14558
                      refine wk_inc2 r108_144 rfl (wk_goto r108_147 ?_)
                      exact wp_fg (le_s (le_s (le_s (le_n (le_s le_0))))) (ih14605 (4 - (v14445 + 1)).toNat (by omega) M14534 (v14445 + 1) v14537 rfl hP14535 hF14536 e14540 e14541 e14542 e14543 e14544 e14545 e14546 e14547 e14548 e14549 e14550 e14551 (by first | assumption | omega) (by first | assumption | omega) (by first | assumption | omega) (by first | assumption | omega) pr14552 pr14553 pr14554 (by first | assumption | omega) (by first | assumption | omega))
                    · intro h14559
                      refine wk_c1 r108_84 (wk_is4 r108_85 rfl ?_)
                      have c87_14603 : ∀ (k14603 : Nat) (M14563 : Mm) (v14560 : Int) (v14566 : Int), (2 - v14560).toNat = k14603 → Pw M14563 → Fr fm_m9108_739 M0 M14563 → M14563 739 7 = v14566 → M14563 739 1 = x739_1 → M14563 739 2 = x739_2 → M14563 739 41 = x739_41 → M14563 739 43 = x739_43 → M14563 739 40 = x739_40 → M14563 739 13 = 0 → M14563 739 15 = 0 → M14563 739 21 = 0 → M14563 739 24 = (-1) → M14563 739 64 = (-1) → M14563 739 65 = 0 → 0 ≤ v14560 → v14560 ≤ 2 → 0 ≤ v14566 → v14566 ≤ 3000 → (FFP M14563 fe) → (CHP M14563) → (VC M14563 = cv) → 0 ≤ (-1) * v14566 + 1 * xq + 14 * v14445 + 2 * v14531 + 1 * v14560 → 0 ≤ (-1) * v14445 + 1 * x739_2 → 0 ≤ (-1) * v14531 + 1 * x739_41 → 0 ≤ (-1) * v14560 + 1 * x739_43 → Wp B (d + 6) 108 87 [some (R 739), none, some (I v14445), some (I v14531), some (I v14560)] [] M14563 Q := by
                        refine lp_ind ?_
                        intro k14603 ih14603 M14563 v14560 v14566 hk14603 hP14564 hF14565 e14569 e14570 e14571 e14572 e14573 e14574 e14575 e14576 e14577 e14578 e14579 e14580 h14561 h14562 h14567 h14568 pr14581 pr14582 pr14583 h14584 h14585 h14586 h14587
                        refine wk_il4 r108_87 (wk_al0 r108_89 (wk_getfi r108_90 fd_739_43 e14573 ?_))
                        refine wk_icge r108_93 ⟨by omega, by omega⟩ ⟨by omega, by omega⟩ ?_ ?_
                        · intro h14588
                          refine wk_inc3 r108_138 rfl (wk_goto r108_141 ?_)
                          exact wp_fg (le_s (le_s (le_s (le_s (le_n le_0))))) (ih14604 (7 - (v14531 + 1)).toNat (by omega) M14563 (v14531 + 1) v14566 rfl hP14564 hF14565 e14569 e14570 e14571 e14572 e14573 e14574 e14575 e14576 e14577 e14578 e14579 e14580 (by first | assumption | omega) (by first | assumption | omega) (by first | assumption | omega) (by first | assumption | omega) pr14581 pr14582 pr14583 (by first | assumption | omega) (by first | assumption | omega) (by first | assumption | omega))
                        · intro h14589
                          refine wk_al0 r108_96 (wk_il2 r108_97 (wk_al0 r108_98 (wk_getfi r108_99 fd_739_41 e14572 (wk_c2 r108_102 ?_))))
                          refine wk_icne r108_104 ⟨by omega, by omega⟩ (by decide) ?_ ?_
                          · intro h14590
                            exfalso
                            omega
                          · intro h14591
                            refine wk_il3 r108_107 (wk_goto r108_108 (wk_il4 r108_127 (wk_cv4 r108_129 kc_739_59 rfl (m9059_739 _ M14563 v14445 v14531 v14560 v14566 x739_1 fe hP14564 (by omega) (by omega) (by omega) (by omega) (by omega) (by omega) e14569 (by first | assumption | omega) (by first | assumption | omega) e14570 (by first | assumption | omega) (by first | assumption | omega) pr14581 pr14582) (cqV ?_))))
                            rintro M14592 ⟨hP14593, hQ14594, h14596, h14597, pr14598, pr14599⟩
                            have hF14595 : Fr fm_m9108_739 M0 M14592 := hF14565.tr hQ14594 rfl
                            obtain ⟨v14600, e14601⟩ : ∃ v, M14592 739 7 = v := ⟨_, rfl⟩
                            have h14602 := bf_739_7 hP14593; rw [e14601] at h14602
                            refine wk_inc4 r108_132 rfl (wk_goto r108_135 ?_)
                            exact wp_fg (le_s (le_s (le_s (le_s (le_s le_0))))) (ih14603 (2 - (v14560 + 1)).toNat (by omega) M14592 (v14560 + 1) v14600 rfl hP14593 hF14595 e14601 ((hQ14594.at g_739_1 rfl).trans e14570) ((hQ14594.at g_739_2 rfl).trans e14571) ((hQ14594.at g_739_41 rfl).trans e14572) ((hQ14594.at g_739_43 rfl).trans e14573) ((hQ14594.at g_739_40 rfl).trans e14574) ((hQ14594.at g_739_13 rfl).trans e14575) ((hQ14594.at g_739_15 rfl).trans e14576) ((hQ14594.at g_739_21 rfl).trans e14577) ((hQ14594.at g_739_24 rfl).trans e14578) ((hQ14594.at g_739_64 rfl).trans e14579) ((hQ14594.at g_739_65 rfl).trans e14580) (by first | assumption | omega) (by first | assumption | omega) (by first | assumption | omega) (by first | assumption | omega) pr14598 pr14599 (VCE_sm (Sm.fr hQ14594 rfl) pr14583) (by first | assumption | omega) (by first | assumption | omega) (by first | assumption | omega) (by first | assumption | omega))
                      exact wp_fg (le_s (le_s (le_s (le_s (le_s le_0))))) (c87_14603 _ M14534 0 v14537 rfl hP14535 hF14536 e14540 e14541 e14542 e14543 e14544 e14545 e14546 e14547 e14548 e14549 e14550 e14551 (by first | assumption | omega) (by first | assumption | omega) (by first | assumption | omega) (by first | assumption | omega) pr14552 pr14553 pr14554 (by first | assumption | omega) (by first | assumption | omega) (by first | assumption | omega) (by first | assumption | omega))
                  exact wp_fg (le_s (le_s (le_s (le_s (le_s le_0))))) (c76_14604 _ M14448 0 v14451 rfl hP14449 hF14450 e14454 e14455 e14456 e14457 e14458 e14459 e14460 e14461 e14462 e14463 e14464 e14465 (by first | assumption | omega) (by first | assumption | omega) (by first | assumption | omega) (by first | assumption | omega) pr14466 pr14467 pr14468 (by first | assumption | omega) (by first | assumption | omega) (by first | assumption | omega))
              exact wp_fg (le_s (le_n (le_s (le_s (le_s le_0))))) (c66_14605 _ M14421 0 v14424 rfl hP14422 hF14423 e14427 e14428 e14429 e14430 e14431 e14432 e14433 e14434 e14435 e14436 e14437 e14438 (by first | assumption | omega) (by first | assumption | omega) (by first | assumption | omega) (by first | assumption | omega) pr14439 pr14440 hcv (by first | assumption | omega) (by first | assumption | omega))
          exact wp_fg (le_s (le_s (le_s (le_s (le_s le_0))))) (c60_14606 _ M14399 1 0 rfl hP14400 hF14401 e14413 e14402 e14403 e14404 e14405 e14406 e14407 e14408 e14409 e14410 e14411 e14412 (by first | assumption | omega) (by first | assumption | omega) (by first | assumption | omega) (by first | assumption | omega) pr14414 pr14417 (by first | assumption | omega) (fun _ => by rw [hCA.2, Int.mul_zero]; omega))
        · intro h14607
          refine wk_al0 r108_45 (wk_getfr r108_46 fd_739_54 (br_739_54 hP14400) (wk_il1 r108_49 (wk_c1 r108_50 (wk_iast r108_51 ar_760 ⟨by omega, by omega⟩ (wk_nw (ga_760 _) rfl hP14400 hF14401 (ua_760 (by decide)) ?_)))))
          intro M14608 hP14609 hF14610 e14611
          refine wk_inc1 r108_52 rfl (wk_goto r108_55 ?_)
          exact wp_fg (le_s (le_s (le_s (le_s (le_s le_0))))) (ih14612 (7 - (v14396 + 1)).toNat (by omega) M14608 (v14396 + 1) rfl hP14609 hF14610 (mUp_no e14611 e14402 (Or.inl (by decide))) (mUp_no e14611 e14403 (Or.inl (by decide))) (mUp_no e14611 e14404 (Or.inl (by decide))) (mUp_no e14611 e14405 (Or.inl (by decide))) (mUp_no e14611 e14406 (Or.inl (by decide))) (mUp_no e14611 e14407 (Or.inl (by decide))) (mUp_no e14611 e14408 (Or.inl (by decide))) (mUp_no e14611 e14409 (Or.inl (by decide))) (mUp_no e14611 e14410 (Or.inl (by decide))) (mUp_no e14611 e14411 (Or.inl (by decide))) (mUp_no e14611 e14412 (Or.inl (by decide))) (mUp_no e14611 e14413 (Or.inl (by decide))) (by first | assumption | omega) (by first | assumption | omega) (FFP_sm (Sm.up e14611 (ga_760 _) rfl) pr14414) (fun k a b => by rw [e14611]; (by_cases q : k = v14396); (rw [q, mUp_eq]); (rw [mUp_ne (Or.inr q)]; exact ti14415 k a (by omega))))
      exact wp_fg (le_s (le_s (le_s (le_s (le_s le_0))))) (c37_14612 _ M11020 0 rfl hP11021 hF11022 (mUp_no e11023 (mUp_no e11019 (mUp_no e11015 (mUp_no e11011 (mUp_no e11007 (mUp_no e11003 (mUp_no e10999 ex739_1 (Or.inr (by decide))) (Or.inr (by decide))) (Or.inr (by decide))) (Or.inr (by decide))) (Or.inr (by decide))) (Or.inr (by decide))) (Or.inr (by decide))) (mUp_no e11023 (mUp_no e11019 (mUp_no e11015 (mUp_no e11011 (mUp_no e11007 (mUp_no e11003 (mUp_no e10999 ex739_2 (Or.inr (by decide))) (Or.inr (by decide))) (Or.inr (by decide))) (Or.inr (by decide))) (Or.inr (by decide))) (Or.inr (by decide))) (Or.inr (by decide))) (mUp_no e11023 (mUp_no e11019 (mUp_no e11015 (mUp_no e11011 (mUp_no e11007 (mUp_no e11003 (mUp_no e10999 ex739_41 (Or.inr (by decide))) (Or.inr (by decide))) (Or.inr (by decide))) (Or.inr (by decide))) (Or.inr (by decide))) (Or.inr (by decide))) (Or.inr (by decide))) (mUp_no e11023 (mUp_no e11019 (mUp_no e11015 (mUp_no e11011 (mUp_no e11007 (mUp_no e11003 (mUp_no e10999 ex739_43 (Or.inr (by decide))) (Or.inr (by decide))) (Or.inr (by decide))) (Or.inr (by decide))) (Or.inr (by decide))) (Or.inr (by decide))) (Or.inr (by decide))) (mUp_no e11023 (mUp_no e11019 (mUp_no e11015 (mUp_no e11011 (mUp_no e11007 (mUp_no e11003 (mUp_no e10999 ex739_40 (Or.inr (by decide))) (Or.inr (by decide))) (Or.inr (by decide))) (Or.inr (by decide))) (Or.inr (by decide))) (Or.inr (by decide))) (Or.inr (by decide))) (mUp_no e11023 (mUp_no e11019 (mUp_no e11015 (mUp_no e11011 (mUp_no e11007 (mUp_no e11003 (mUp_at e10999) (Or.inr (by decide))) (Or.inr (by decide))) (Or.inr (by decide))) (Or.inr (by decide))) (Or.inr (by decide))) (Or.inr (by decide))) (mUp_no e11023 (mUp_no e11019 (mUp_no e11015 (mUp_no e11011 (mUp_no e11007 (mUp_at e11003) (Or.inr (by decide))) (Or.inr (by decide))) (Or.inr (by decide))) (Or.inr (by decide))) (Or.inr (by decide))) (mUp_no e11023 (mUp_no e11019 (mUp_no e11015 (mUp_no e11011 (mUp_at e11007) (Or.inr (by decide))) (Or.inr (by decide))) (Or.inr (by decide))) (Or.inr (by decide))) (mUp_no e11023 (mUp_no e11019 (mUp_no e11015 (mUp_at e11011) (Or.inr (by decide))) (Or.inr (by decide))) (Or.inr (by decide))) (mUp_no e11023 (mUp_no e11019 (mUp_at e11015) (Or.inr (by decide))) (Or.inr (by decide))) (mUp_no e11023 (mUp_at e11019) (Or.inr (by decide))) (mUp_at e11023) (by first | assumption | omega) (by first | assumption | omega) (FFP_sm (Sm.up e11023 g_739_7 rfl) (FFP_sm (Sm.up e11019 g_739_65 rfl) (FFP_sm (Sm.up e11015 g_739_64 rfl) (FFP_sm (Sm.up e11011 g_739_24 rfl) (FFP_sm (Sm.up e11007 g_739_21 rfl) (FFP_sm (Sm.up e11003 g_739_15 rfl) (FFP_sm (Sm.up e10999 g_739_13 rfl) pp_FF))))))) (fun k a b => by omega))
