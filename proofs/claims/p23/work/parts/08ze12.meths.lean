/-! ===== written by program (wip/layer3/model.py): contracts of methods ===== -/
def fm_m9103_739 : Nat := 1809251394438377845161853827458666587891013942719528908517073861377953628160
/-- IslandHallModel.leavesOne -/
theorem m9103_739 {B : eB} (d : Nat) (M0 : Mm) (p1 : Int) (p2 : Int) (p3 : Int) (x739_13 : Int) (x739_15 : Int) (hP0 : Pw M0) (l1 : 0 ≤ p1) (u1 : p1 ≤ 300) (l2 : (-1) ≤ p2) (u2 : p2 ≤ 209) (l3 : 0 ≤ p3) (u3 : p3 ≤ 3) (ex739_13 : M0 739 13 = x739_13) (lx739_13 : 0 ≤ x739_13) (ux739_13 : x739_13 ≤ 30) (ex739_15 : M0 739 15 = x739_15) (lx739_15 : 0 ≤ x739_15) (ux739_15 : x739_15 ≤ 10) (xp0 : p2 = -1 ∨ p2 % 30 < x739_13) (pp_WS : WS M0) (pp_QW : QW M0) (pp_C3 : CFP M0) : Ct B (d + 6) 103 [R 739, I p1, I p2, I p3] M0 (qI fun z M => Pw M ∧ Fr fm_m9103_739 M0 M ∧ 0 ≤ z ∧ z ≤ 1 ∧ (WS M) ∧ (QW M) ∧ (CFP M)) := by
  refine ct_of (d := d + 5) (k := 5) (L := [some (R 739), some (I p1), some (I p2), some (I p3), none, none, none, none, none]) rfl rfl rfl ?_
  have hF0 := Fr.rf fm_m9103_739 M0
  generalize hQ : (qI fun z M => Pw M ∧ Fr fm_m9103_739 M0 M ∧ 0 ≤ z ∧ z ≤ 1 ∧ (WS M) ∧ (QW M) ∧ (CFP M)) = Q
  refine wk_c1 r103_0 (wk_is4 r103_1 rfl (wk_c1 r103_3 (wk_is5 r103_4 rfl (wk_c1 r103_6 (wk_is6 r103_7 rfl ?_)))))
  have c9_1061 : ∀ (k1061 : Nat) (M958 : Mm) (v949 : Int) (v952 : Int) (v955 : Int), (300 - v955).toNat = k1061 → Pw M958 → Fr fm_m9103_739 M0 M958 → M958 739 13 = x739_13 → M958 739 15 = x739_15 → (-1) ≤ v949 → v949 ≤ 2999 → 0 ≤ v952 → v952 ≤ 2097151 → 0 ≤ v955 → v955 ≤ 300 → (WS M958) → (QW M958) → (CFP M958) → Wp B (d + 5) 103 9 [some (R 739), some (I p1), some (I p2), some (I p3), some (I v949), some (I v952), some (I v955), none, none] [] M958 Q := by
    refine lp_ind ?_
    intro k1061 ih1061 M958 v949 v952 v955 hk1061 hP959 hF960 e961 e962 h950 h951 h953 h954 h956 h957 pr963 pr964 pr965
    refine wk_il6 r103_9 (wk_il1 r103_11 ?_)
    refine wk_icge r103_12 ⟨by omega, by omega⟩ ⟨by omega, by omega⟩ ?_ ?_
    · intro h966
      refine wk_il4 r103_132 (wk_c1 r103_134 ?_)
      refine wk_iceq r103_135 ⟨by omega, by omega⟩ (by decide) ?_ ?_
      · intro h967
        refine wk_c1 r103_142 ?_
        subst hQ; exact wk_zret r103_143 (by decide) (⟨rfl, _, rfl, hP959, hF960, by omega, by omega, pr963, pr964, pr965⟩)
      · intro h968
        refine wk_c1 r103_138 (wk_goto r103_139 ?_)
        subst hQ; exact wk_zret r103_143 (by decide) (⟨rfl, _, rfl, hP959, hF960, by omega, by omega, pr963, pr964, pr965⟩)
    · intro h969
      refine wk_al0 r103_15 (wk_getfr r103_16 fd_739_67 (br_739_67 hP959) (wk_il6 r103_19 (wk_ialdb r103_21 ar_768 ⟨by omega, by omega⟩ (fun q0 q1 => ba_768 hP959 q0 q1) ?_)))
      intro v970 h972 h973 e971
      refine wk_is7 r103_22 rfl (wk_il2 r103_24 (wk_c1 r103_25 ?_))
      refine wk_iceq r103_26 ⟨by omega, by omega⟩ (by decide) ?_ ?_
      · intro h974
        refine wk_c1 r103_78 (wk_goto r103_79 (wk_is8 r103_83 rfl (wk_il8 r103_85 ?_)))
        refine wk_ifne r103_87 (by decide) ?_ ?_
        · intro h975
          refine wk_il4 r103_93 (wk_c1 r103_95 ?_)
          refine wk_iceq r103_96 ⟨by omega, by omega⟩ (by decide) ?_ ?_
          · intro h976
            refine wk_il7 r103_113 (wk_is4 r103_115 rfl (wk_al0 r103_117 (wk_il7 r103_118 (wk_il3 r103_120 (wk_cv3 r103_121 kc_739_45 rfl (m9045_739 _ M958 v970 p3 hP959 (by omega) (by omega) (by omega) (by omega)) (cqI ?_))))))
            rintro v981 M977 ⟨hP978, hQ979, h982, h983⟩
            obtain rfl := Fr.same hQ979
            refine wk_is5 r103_124 rfl (wk_inc6 r103_126 rfl (wk_goto r103_129 ?_))
            exact wp_fg (le_s (le_s (le_s (le_s (le_s (le_s (le_s (le_n (le_n le_0))))))))) (ih1061 (300 - (v955 + 1)).toNat (by omega) M958 v970 v981 (v955 + 1) rfl hP959 hF960 e961 e962 (by first | assumption | omega) (by first | assumption | omega) (by first | assumption | omega) (by first | assumption | omega) (by first | assumption | omega) (by first | assumption | omega) pr963 pr964 pr965)
          · intro h984
            refine wk_al0 r103_99 (wk_il7 r103_100 (wk_il3 r103_102 (wk_cv3 r103_103 kc_739_45 rfl (m9045_739 _ M958 v970 p3 hP959 (by omega) (by omega) (by omega) (by omega)) (cqI ?_))))
            rintro v989 M985 ⟨hP986, hQ987, h990, h991⟩
            obtain rfl := Fr.same hQ987
            refine wk_il5 r103_106 ?_
            refine wk_iceq r103_108 ⟨by omega, by omega⟩ ⟨by omega, by omega⟩ ?_ ?_
            · intro h992
              refine wk_il7 r103_113 (wk_is4 r103_115 rfl (wk_al0 r103_117 (wk_il7 r103_118 (wk_il3 r103_120 (wk_cv3 r103_121 kc_739_45 rfl (m9045_739 _ M958 v970 p3 hP959 (by omega) (by omega) (by omega) (by omega)) (cqI ?_))))))
              rintro v997 M993 ⟨hP994, hQ995, h998, h999⟩
              obtain rfl := Fr.same hQ995
              refine wk_is5 r103_124 rfl (wk_inc6 r103_126 rfl (wk_goto r103_129 ?_))
              exact wp_fg (le_s (le_s (le_s (le_s (le_s (le_s (le_s (le_n (le_n le_0))))))))) (ih1061 (300 - (v955 + 1)).toNat (by omega) M958 v970 v997 (v955 + 1) rfl hP959 hF960 e961 e962 (by first | assumption | omega) (by first | assumption | omega) (by first | assumption | omega) (by first | assumption | omega) (by first | assumption | omega) (by first | assumption | omega) pr963 pr964 pr965)
            · intro h1000
              refine wk_c1 r103_111 ?_
              subst hQ; exact wk_zret r103_112 (by decide) (⟨rfl, _, rfl, hP959, hF960, by omega, by omega, pr963, pr964, pr965⟩)
        · intro h1001
          exfalso
          omega
      · intro h1002
        have h1004 : p2 % 30 < x739_13 := by omega
        refine wk_al0 r103_29 (wk_al0 r103_30 (wk_il7 r103_31 (wk_il2 r103_33 (wk_c2 r103_34 (wk_idiv r103_36 ⟨by omega, by omega⟩ (by decide) (wk_al0 r103_37 (wk_getfi r103_38 fd_739_15 e962 (wk_c1 r103_41 (wk_iadd r103_42 (wk_cv4 r103_43 kc_739_107 rfl (m9107_739 _ M958 v970 (p2 / 30) (x739_15 + 1) hP959 (by omega) (by omega) (by omega) (by omega) (by omega) (by omega)) (cqI ?_)))))))))))
        rintro v1009 M1005 ⟨hP1006, hQ1007, h1010, h1011⟩
        obtain rfl := Fr.same hQ1007
        refine wk_al0 r103_46 (wk_il2 r103_47 (wk_c2 r103_48 (wk_irem r103_50 ⟨by omega, by omega⟩ (by decide) (wk_il7 r103_51 (wk_al0 r103_53 (wk_getfi r103_54 fd_739_15 e962 (wk_c1 r103_57 (wk_iadd r103_58 (wk_al0 r103_59 (wk_getfr r103_60 fd_739_19 (br_739_19 hP959) (wk_il7 r103_63 (wk_ialdb r103_65 ar_751 ⟨by omega, by omega⟩ (fun q0 q1 => ba_751 hP959 q0 q1) ?_))))))))))))
        intro v1012 h1014 h1015 e1013
        refine wk_cv5 r103_66 kc_739_128 rfl (m9128_739 _ M958 (p2 % 30) v970 (x739_15 + 1) v1012 x739_13 hP959 (by omega) (by omega) (by omega) (by omega) (by omega) (by omega) (by omega) (by omega) e961 (by first | assumption | omega) (by first | assumption | omega) (by omega) pr963) (cqI ?_)
        rintro v1020 M1016 ⟨hP1017, hQ1018, h1021, h1022⟩
        have hF1019 : Fr fm_m9103_739 M0 M1016 := hF960.tr hQ1018 rfl
        refine wk_c1 r103_69 (wk_il7 r103_70 (wk_cv5 r103_72 kc_739_56 rfl (m9056_739 _ M1016 v1009 v1020 (-1) v970 hP1017 (by omega) (by omega) (by omega) (by omega) (by decide) (by decide) (by omega) (by omega)) (cqI ?_)))
        rintro v1027 M1023 ⟨hP1024, hQ1025, h1028, h1029⟩
        obtain rfl := Fr.same hQ1025
        refine wk_ifeq r103_75 ⟨by omega, by omega⟩ ?_ ?_
        · intro h1030
          refine wk_c1 r103_82 (wk_is8 r103_83 rfl (wk_il8 r103_85 ?_))
          refine wk_ifne r103_87 (by decide) ?_ ?_
          · intro h1031
            exfalso
            omega
          · intro h1032
            refine wk_goto r103_90 (wk_inc6 r103_126 rfl (wk_goto r103_129 ?_))
            exact wp_fg (le_s (le_s (le_s (le_s (le_s (le_s (le_s (le_n (le_n le_0))))))))) (ih1061 (300 - (v955 + 1)).toNat (by omega) M1016 v949 v952 (v955 + 1) rfl hP1017 hF1019 ((hQ1018.at g_739_13 rfl).trans e961) ((hQ1018.at g_739_15 rfl).trans e962) (by first | assumption | omega) (by first | assumption | omega) (by first | assumption | omega) (by first | assumption | omega) (by first | assumption | omega) (by first | assumption | omega) (WS_sm (Sm.fr hQ1018 rfl) pr963) (QW_sm (Sm.fr hQ1018 rfl) pr964) (CFP_sm (Sm.fr hQ1018 rfl) pr965))
        · intro h1033
          refine wk_c1 r103_78 (wk_goto r103_79 (wk_is8 r103_83 rfl (wk_il8 r103_85 ?_)))
          refine wk_ifne r103_87 (by decide) ?_ ?_
          · intro h1034
            refine wk_il4 r103_93 (wk_c1 r103_95 ?_)
            refine wk_iceq r103_96 ⟨by omega, by omega⟩ (by decide) ?_ ?_
            · intro h1035
              refine wk_il7 r103_113 (wk_is4 r103_115 rfl (wk_al0 r103_117 (wk_il7 r103_118 (wk_il3 r103_120 (wk_cv3 r103_121 kc_739_45 rfl (m9045_739 _ M1016 v970 p3 hP1017 (by omega) (by omega) (by omega) (by omega)) (cqI ?_))))))
              rintro v1040 M1036 ⟨hP1037, hQ1038, h1041, h1042⟩
              obtain rfl := Fr.same hQ1038
              refine wk_is5 r103_124 rfl (wk_inc6 r103_126 rfl (wk_goto r103_129 ?_))
              exact wp_fg (le_s (le_s (le_s (le_s (le_s (le_s (le_s (le_n (le_n le_0))))))))) (ih1061 (300 - (v955 + 1)).toNat (by omega) M1016 v970 v1040 (v955 + 1) rfl hP1017 hF1019 ((hQ1018.at g_739_13 rfl).trans e961) ((hQ1018.at g_739_15 rfl).trans e962) (by first | assumption | omega) (by first | assumption | omega) (by first | assumption | omega) (by first | assumption | omega) (by first | assumption | omega) (by first | assumption | omega) (WS_sm (Sm.fr hQ1018 rfl) pr963) (QW_sm (Sm.fr hQ1018 rfl) pr964) (CFP_sm (Sm.fr hQ1018 rfl) pr965))
            · intro h1043
              refine wk_al0 r103_99 (wk_il7 r103_100 (wk_il3 r103_102 (wk_cv3 r103_103 kc_739_45 rfl (m9045_739 _ M1016 v970 p3 hP1017 (by omega) (by omega) (by omega) (by omega)) (cqI ?_))))
              rintro v1048 M1044 ⟨hP1045, hQ1046, h1049, h1050⟩
              obtain rfl := Fr.same hQ1046
              refine wk_il5 r103_106 ?_
              refine wk_iceq r103_108 ⟨by omega, by omega⟩ ⟨by omega, by omega⟩ ?_ ?_
              · intro h1051
                refine wk_il7 r103_113 (wk_is4 r103_115 rfl (wk_al0 r103_117 (wk_il7 r103_118 (wk_il3 r103_120 (wk_cv3 r103_121 kc_739_45 rfl (m9045_739 _ M1016 v970 p3 hP1017 (by omega) (by omega) (by omega) (by omega)) (cqI ?_))))))
                rintro v1056 M1052 ⟨hP1053, hQ1054, h1057, h1058⟩
                obtain rfl := Fr.same hQ1054
                refine wk_is5 r103_124 rfl (wk_inc6 r103_126 rfl (wk_goto r103_129 ?_))
                exact wp_fg (le_s (le_s (le_s (le_s (le_s (le_s (le_s (le_n (le_n le_0))))))))) (ih1061 (300 - (v955 + 1)).toNat (by omega) M1016 v970 v1056 (v955 + 1) rfl hP1017 hF1019 ((hQ1018.at g_739_13 rfl).trans e961) ((hQ1018.at g_739_15 rfl).trans e962) (by first | assumption | omega) (by first | assumption | omega) (by first | assumption | omega) (by first | assumption | omega) (by first | assumption | omega) (by first | assumption | omega) (WS_sm (Sm.fr hQ1018 rfl) pr963) (QW_sm (Sm.fr hQ1018 rfl) pr964) (CFP_sm (Sm.fr hQ1018 rfl) pr965))
              · intro h1059
                refine wk_c1 r103_111 ?_
                subst hQ; exact wk_zret r103_112 (by decide) (⟨rfl, _, rfl, hP1017, hF1019, by omega, by omega, (WS_sm (Sm.fr hQ1018 rfl) pr963), (QW_sm (Sm.fr hQ1018 rfl) pr964), (CFP_sm (Sm.fr hQ1018 rfl) pr965)⟩)
          · intro h1060
            exfalso
            omega
  exact wp_fg (le_s (le_s (le_s (le_s (le_s (le_s (le_s (le_s (le_s le_0))))))))) (c9_1061 _ M0 (-1) 0 0 rfl hP0 hF0 ex739_13 ex739_15 (by first | assumption | omega) (by first | assumption | omega) (by first | assumption | omega) (by first | assumption | omega) (by first | assumption | omega) (by first | assumption | omega) pp_WS pp_QW pp_C3)
