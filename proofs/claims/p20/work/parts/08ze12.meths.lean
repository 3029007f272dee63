/-! ===== written by program (wip/layer3/model.py): contracts of methods ===== -/
def fm_m9103_739 : Nat := 1809251394438377845161853827458666587891013942719528908517073861377953628160
/-- IslandHallModel.leavesOne -/
theorem m9103_739 {B : eB} (d : Nat) (M0 : Mm) (p1 : Int) (p2 : Int) (p3 : Int) (x739_13 : Int) (x739_15 : Int) (hP0 : Pw M0) (l1 : 0 ≤ p1) (u1 : p1 ≤ 300) (l2 : (-1) ≤ p2) (u2 : p2 ≤ 209) (l3 : 0 ≤ p3) (u3 : p3 ≤ 3) (ex739_13 : M0 739 13 = x739_13) (lx739_13 : 0 ≤ x739_13) (ux739_13 : x739_13 ≤ 30) (ex739_15 : M0 739 15 = x739_15) (lx739_15 : 0 ≤ x739_15) (ux739_15 : x739_15 ≤ 10) (xp0 : p2 = -1 ∨ p2 % 30 < x739_13) (pp_WS : WS M0) (pp_QW : QW M0) (pp_C3 : CFP M0) : Ct B (d + 6) 103 [R 739, I p1, I p2, I p3] M0 (qI fun z M => Pw M ∧ Fr fm_m9103_739 M0 M ∧ 0 ≤ z ∧ z ≤ 1 ∧ (WS M) ∧ (QW M) ∧ (CFP M)) := by
  refine ct_of (d := d + 5) (k := 5) (L := [some (R 739), some (I p1), some (I p2), some (I p3), none, none, none, none, none]) rfl rfl rfl ?_
  have hF0 := Fr.rf fm_m9103_739 M0
  generalize hQ : (qI fun z M => Pw M ∧ Fr fm_m9103_739 M0 M ∧ 0 ≤ z ∧ z ≤ 1 ∧ (WS M) ∧ (QW M) ∧ (CFP M)) = Q
  refine wk_c1 r103_0 (wk_is4 r103_1 rfl (wk_c1 r103_3 (wk_is5 r103_4 rfl (wk_c1 r103_6 (wk_is6 r103_7 rfl ?_)))))
  have c9_1061 : ∀ (k1061 : Nat) (M958 : Mm) (v949 : Int) (v952 : Int) (v955 : Int), (300 - v955).toNat = k1061 → Pw M958 → Fr fm_m9103_739 M0 M958 → M958 739 13 = x739_13 → M958 739 15 = x739_15 → (-1) ≤ v949 → v949 ≤ 2999 → 0 ≤ v952 → v952 ≤ 2097151 → 0 ≤ v955 → v955 ≤ 300 → (WS M958) → (QW M958) → (CFP M958) → Wp B (d + 5) 103 9 [some (R 739), some (I p1), some (I p2), some (I p3), some (I v949), some (I v952), some (I v955), none, none] [] M958 Q := by
    refine lp_ind ?_
    intro k1061 ih1061 M958 v949 v952 v955 hk1061 hP959 hF960 e961 e962 h950 h951 h953 h954 h956 h957 pr963 pr964 pr965
    refine wk_il6 r103_9 (wk_il1 r103_11 ?_)
    refine wk_icge r103_12 ⟨by omega, by omega⟩ ⟨by omega, by omega⟩ ?_ ?_
    · intro h966
      refine wk_il4 r103_132 (wk_c1 r103_134 ?_)
      refine wk_iceq r103_135 ⟨by omega, by omega⟩ (by decide) ?_ ?_
      · intro h967
        refine wk_c1 r103_142 ?_
        subst hQ; exact wk_zret r103_143 (by decide) (⟨rfl, _, rfl, hP959, hF960, by omega, by omega, pr963, pr964, pr965⟩)
      · intro h968
        refine wk_c1 r103_138 (wk_goto r103_139 ?_)
        subst hQ; exact wk_zret r103_143 (by decide) (⟨rfl, _, rfl, hP959, hF960, by omega, by omega, pr963, pr964, pr965⟩)
    · intro h969
      refine wk_al0 r103_15 (wk_getfr r103_16 fd_739_67 (br_739_67 hP959) (wk_il6 r103_19 (wk_ialdb r103_21 ar_768 ⟨by omega, by omega⟩ (fun q0 q1 => ba_768 hP959 q0 q1) ?_)))
      intro v970 h972 h973 e971
      refine wk_is7 r103_22 rfl (wk_il2 r103_24 (wk_c1 r103_25 ?_))
      refine wk_iceq r103_26 ⟨by omega, by omega⟩ (by decide) ?_ ?_
      · intro h974
        refine wk_c1 r103_78 (wk_goto r103_79 (wk_is8 r103_83 rfl (wk_il8 r103_85 ?_)))
        refine wk_ifne r103_87 (by decide) ?_ ?_
        · intro h975
          refine wk_il4 r103_93 (wk_c1 r103_95 ?_)
          refine wk_iceq r103_96 ⟨by omega, by omega⟩ (by decide) ?_ ?_
          · intro h976
            refine wk_il7 r103_113 (wk_is4 r103_115 rfl (wk_al0 r103_117 (wk_il7 r103_118 (wk_il3 r103_120 (wk_cv3 r103_121 kc_739_45 rfl (m9045_739 _ M958 v970 p3 hP959 (by omega) (by omega) (by omega) (by omega)) (cqI ?_))))))
            rintro v981 M977 ⟨hP978, hQ979, h982, h983⟩
            obtain rfl := Fr.same hQ979
            refine wk_is5 r103_124 rfl (wk_inc6 r103_126 rfl (wk_goto r103_129 ?_))
            exact wp_fg (le_s (le_s (le_s (le_s (le_s (le_s (le_s (le_n (le_n le_0))))))))) (ih1061 (300 - (v955 + 1)).toNat (by omega) M958 v970 v981 (v955 + 1) rfl hP959 hF960 e961 e962 (by first | assumption | omega) (by first | assumption | omega) (by first | assumption | omega) (by first | assumption | omega) (by first | assumption | omega) (by first | assumption | omega) pr963 pr964 pr965)
          · intro h984
            refine wk_al0 r103_99 (wk_il7 r103_100 (wk_il3 r103_102 (wk_cv3 r103_103 kc_739_45 rfl (m9045_739 _ M958 v970 p3 hP959 (by omega) (by omega) (by omega) (by omega)) (cqI ?_))))
            rintro v989 M985 ⟨hP986, hQ987, h990, h991⟩
            obtain rfl := Fr.same hQ987
            refine wk_il5 r103_106 ?_
            refine wk_iceq r103_108 ⟨by omega, by omega⟩ ⟨by omega, by omega⟩ ?_ ?_
            · intro h992
              refine wk_il7 r103_113 (wk_is4 r103_115 rfl (wk_al0 r103_117 (wk_il7 r103_118 (wk_il3 r103_120 (wk_cv3 r103_121 kc_739_45 rfl (m9045_739 _ M958 v970 p3 hP959 (by omega) (by omega) (by omega) (by omega)) (cqI ?_))))))
              rintro v997 M993 ⟨hP994, hQ995, h998, h999⟩
              obtain rfl := Fr.same hQ995
              refine wk_is5 r103_124 rfl (wk_inc6 r103_126 rfl (wk_goto r103_129 ?_))
              exact wp_fg (le_s (le_s (le_s (le_s (le_s (le_s (le_s (le_n (le_n le_0))))))))) (ih1061 (300 - (v955 + 1)).toNat (by omega) M958 v970 v997 (v955 + 1) rfl hP959 hF960 e961 e962 (by first | assumption | omega) (by first | assumption | omega) (by first | assumption | omega) (by first | assumption | omega) (by first | assumption | omega) (by first | assumption | omega) pr963 pr964 pr965)
            · intro h1000
              refine wk_c1 r103_111 ?_
              subst hQ; exact wk_zret r103_112 (by decide) (⟨rfl, _, rfl, hP959, hF960, by omega, by omega, pr963, pr964, pr965⟩)
        · intro h1001
          exfalso
          omega
      · intro h1002
        have h1004 : p2 % 30 < x739_13 := by omega
        refine wk_al0 r103_29 (wk_al0 r103_30 (wk_il7 r103_31 (wk_il2 r103_33 (wk_c2 r103_34 (wk_idiv r103_36 ⟨by omega, by omega⟩ (by decide) (wk_al0 r103_37 (wk_getfi r103_38 fd_739_15 e962 (wk_c1 r103_41 (wk_iadd r103_42 (wk_cv4 r103_43 kc_739_107 rfl (m9107_739 _ M958 v970 (p2 / 30) (x739_15 + 1) hP959 (by omega) (by omega) (by omega) (by omega) (by omega) (by omega)) (cqI ?_)))))))))))
        rintro v1009 M1005 ⟨hP1006, hQ1007, h1010, h1011⟩
        obtain rfl := Fr.same hQ1007
        refine wk_al0 r103_46 (wk_il2 r103_47 (wk_c2 r103_48 (wk_irem r103_50 ⟨by omega, by omega⟩ (by decide) (wk_il7 r103_51 (wk_al0 r103_53 (wk_getfi r103_54 fd_739_15 e962 (wk_c1 r103_57 (wk_iadd r103_58 (wk_al0 r103_59 (wk_getfr r103_60 fd_739_19 (br_739_19 hP959) (wk_il7 r103_63 (wk_ialdb r103_65 ar_751 ⟨by omega, by omega⟩ (fun q0 q1 => ba_751 hP959 q0 q1) ?_))))))))))))
        intro v1012 h1014 h1015 e1013
        refine wk_cv5 r103_66 kc_739_128 rfl (m9128_739 _ M958 (p2 % 30) v970 (x739_15 + 1) v1012 x739_13 hP959 (by omega) (by omega) (by omega) (by omega) (by omega) (by omega) (by omega) (by omega) e961 (by first | assumption | omega) (by first | assumption | omega) (by omega) pr963) (cqI ?_)
        rintro v1020 M1016 ⟨hP1017, hQ1018, h1021, h1022⟩
        have hF1019 : Fr fm_m9103_739 M0 M1016 := hF960.tr hQ1018 rfl
        refine wk_c1 r103_69 (wk_il7 r103_70 (wk_cv5 r103_72 kc_739_56 rfl (m9056_739 _ M1016 v1009 v1020 (-1) v970 hP1017 (by omega) (by omega) (by omega) (by omega) (by decide) (by decide) (by omega) (by omega)) (cqI ?_)))
        rintro v1027 M1023 ⟨hP1024, hQ1025, h1028, h1029⟩
        obtain rfl := Fr.same hQ1025
        refine wk_ifeq r103_75 ⟨by omega, by omega⟩ ?_ ?_
        · intro h1030
          refine wk_c1 r103_82 (wk_is8 r103_83 rfl (wk_il8 r103_85 ?_))
          refine wk_ifne r103_87 (by decide) ?_ ?_
          · intro h1031
            exfalso
            omega
          · intro h1032
            refine wk_goto r103_90 (wk_inc6 r103_126 rfl (wk_goto r103_129 ?_))
            exact wp_fg (le_s (le_s (le_s (le_s (le_s (le_s (le_s (le_n (le_n le_0))))))))) (ih1061 (300 - (v955 + 1)).toNat (by omega) M1016 v949 v952 (v955 + 1) rfl hP1017 hF1019 ((hQ1018.at g_739_13 rfl).trans e961) ((hQ1018.at g_739_15 rfl).trans e962) (by first | assumption | omega) (by first | assumption | omega) (by first | assumption | omega) (by first | assumption | omega) (by first | assumption | omega) (by first | assumption | omega) (WS_sm (Sm.fr hQ1018 rfl) pr963) (QW_sm (Sm.fr hQ1018 rfl) pr964) (CFP_sm (Sm.fr hQ1018 rfl) pr965))
        · intro h1033
          refine wk_c1 r103_78 (wk_goto r103_79 (wk_is8 r103_83 rfl (wk_il8 r103_85 ?_)))
          refine wk_ifne r103_87 (by decide) ?_ ?_
          · intro h1034
            refine wk_il4 r103_93 (wk_c1 r103_95 ?_)
            refine wk_iceq r103_96 ⟨by omega, by omega⟩ (by decide) ?_ ?_
            · intro h1035
              refine wk_il7 r103_113 (wk_is4 r103_115 rfl (wk_al0 r103_117 (wk_il7 r103_118 (wk_il3 r103_120 (wk_cv3 r103_121 kc_739_45 rfl (m9045_739 _ M1016 v970 p3 hP1017 (by omega) (by omega) (by omega) (by omega)) (cqI ?_))))))
              rintro v1040 M1036 ⟨hP1037, hQ1038, h1041, h1042⟩
              obtain rfl := Fr.same hQ1038
              refine wk_is5 r103_124 rfl (wk_inc6 r103_126 rfl (wk_goto r103_129 ?_))
              exact wp_fg (le_s (le_s (le_s (le_s (le_s (le_s (le_s (le_n (le_n le_0))))))))) (ih1061 (300 - (v955 + 1)).toNat (by omega) M1016 v970 v1040 (v955 + 1) rfl hP1017 hF1019 ((hQ1018.at g_739_13 rfl).trans e961) ((hQ1018.at g_739_15 rfl).trans e962) (by first | assumption | omega) (by first | assumption | omega) (by first | assumption | omega) (by first | assumption | omega) (by first | assumption | omega) (by first | assumption | omega) (WS_sm (Sm.fr hQ1018 rfl) pr963) (QW_sm (Sm.fr hQ1018 rfl) pr964) (CFP_sm (Sm.fr hQ1018 rfl) pr965))
            · intro h1043
              refine wk_al0 r103_99 (wk_il7 r103_100 (wk_il3 r103_102 (wk_cv3 r103_103 kc_739_45 rfl (m9045_739 _ M1016 v970 p3 hP1017 (by omega) (by omega) (by omega) (by omega)) (cqI ?_))))
              rintro v1048 M1044 ⟨hP1045, hQ1046, h1049, h1050⟩
              obtain rfl := Fr.same hQ1046
              refine wk_il5 r103_106 ?_
              refine wk_iceq r103_108 ⟨by omega, by omega⟩ ⟨by omega, by omega⟩ ?_ ?_
              · intro h1051
                refine wk_il7 r103_113 (wk_is4 r103_115 rfl (wk_al0 r103_117 (wk_il7 r103_118 (wk_il3 r103_120 (wk_cv3 r103_121 kc_739_45 rfl (m9045_739 _ M1016 v970 p3 hP1017 (by omega) (by omega) (by omega) (by omega)) (cqI ?_))))))
                rintro v1056 M1052 ⟨hP1053, hQ1054, h1057, h1058⟩
                obtain rfl := Fr.same hQ1054
                refine wk_is5 r103_124 rfl (wk_inc6 r103_126 rfl (wk_goto r103_129 ?_))
                exact wp_fg (le_s (le_s (le_s (le_s (le_s (le_s (le_s (le_n (le_n le_0))))))))) (ih1061 (300 - (v955 + 1)).toNat (by omega) M1016 v970 v1056 (v955 + 1) rfl hP1017 hF1019 ((hQ1018.at g_739_13 rfl).trans e961) ((hQ1018.at g_739_15 rfl).trans e962) (by first | assumption | omega) (by first | assumption | omega) (by first | assumption | omega) (by first | assumption | omega) (by first | assumption | omega) (by first | assumption | omega) (WS_sm (Sm.fr hQ1018 rfl) pr963) (QW_sm (Sm.fr hQ1018 rfl) pr964) (CFP_sm (Sm.fr hQ1018 rfl) pr965))
              · intro h1059
                refine wk_c1 r103_111 ?_
                subst hQ; exact wk_zret r103_112 (by decide) (⟨rfl, _, rfl, hP1017, hF1019, by omega, by omega, (WS_sm (Sm.fr hQ1018 rfl) pr963), (QW_sm (Sm.fr hQ1018 rfl) pr964), (CFP_sm (Sm.fr hQ1018 rfl) pr965)⟩)
          · intro h1060
            exfalso
            omega
  exact wp_fg (le_s (le_s (le_s (le_s (le_s (le_s (le_s (le_s (le_s le_0))))))))) (c9_1061 _ M0 (-1) 0 0 rfl hP0 hF0 ex739_13 ex739_15 (by first | assumption | omega) (by first | assumption | omega) (by first | assumption | omega) (by first | assumption | omega) (by first | assumption | omega) (by first | assumption | omega) pp_WS pp_QW pp_C3)
def fm_m9122_739 : Nat := 1391322273485383372331907035496831158451413367731766027089699053039146550427648
/-- IslandHallModel.riddle -/
theorem m9122_739 {B : eB} (d : Nat) (M0 : Mm) (p1 : Int) (x739_13 : Int) (x739_7 : Int) (x739_1 : Int) (hP0 : Pw M0) (l1 : (-2147483648) ≤ p1) (u1 : p1 ≤ 2147483647) (ex739_13 : M0 739 13 = x739_13) (lx739_13 : 0 ≤ x739_13) (ux739_13 : x739_13 ≤ 30) (ex739_7 : M0 739 7 = x739_7) (lx739_7 : 0 ≤ x739_7) (ux739_7 : x739_7 ≤ 3000) (ex739_1 : M0 739 1 = x739_1) (lx739_1 : 0 ≤ x739_1) (ux739_1 : x739_1 ≤ 7) (pp_WS : WS M0) (pp_QW : QW M0) : Ct B (d + 7) 122 [R 739, I p1] M0 (qI fun z M => Pw M ∧ Fr fm_m9122_739 M0 M ∧ (-2) ≤ z ∧ z ≤ 2 ∧ (WS M) ∧ (QW M)) := by
  refine ct_of (d := d + 6) (k := 3) (L := [some (R 739), some (I p1), none, none, none]) rfl rfl rfl ?_
  have hF0 := Fr.rf fm_m9122_739 M0
  generalize hQ : (qI fun z M => Pw M ∧ Fr fm_m9122_739 M0 M ∧ (-2) ≤ z ∧ z ≤ 2 ∧ (WS M) ∧ (QW M)) = Q
  refine wk_al0 r122_0 (wk_c1 r122_1 (wk_putfi81 r122_2 fd_739_0 (wk_nw g_739_0 rfl hP0 hF0 (uf_739_0 (by decide)) ?_)))
  intro M1 hP2 hF3 e4
  refine wk_al0 r122_5 (wk_il1 r122_6 ?_)
  refine wk_iflt r122_7 ⟨by omega, by omega⟩ ?_ ?_
  · intro h5
    refine wk_c1 r122_19 (wk_c1 r122_20 (wk_cv3 r122_21 kc_739_123 rfl (m9123_739 _ M1 0 1 0 hP2 (by decide) (by decide) (by decide) (by decide) (mUp_at e4) (by first | assumption | omega) (by first | assumption | omega)) (cqI ?_)))
    rintro v12 M6 ⟨hP7, hQ8, h13, h14, h10, xh11⟩
    have hF9 : Fr fm_m9122_739 M0 M6 := hF3.tr hQ8 rfl
    refine wk_ifne r122_24 ⟨by omega, by omega⟩ ?_ ?_
    · intro h15
      exfalso
      omega
    · intro h16
      refine wk_c1 r122_27 ?_
      subst hQ; exact wk_iret r122_28 (⟨rfl, _, rfl, hP7, hF9, by omega, by omega, (WS_sm (Sm.fr hQ8 rfl) (WS_sm (Sm.up e4 g_739_0 rfl) pp_WS)), (QW_sm (Sm.fr hQ8 rfl) (QW_sm (Sm.up e4 g_739_0 rfl) pp_QW))⟩)
  · intro h17
    refine wk_il1 r122_10 (wk_c1 r122_11 ?_)
    refine wk_icgt r122_12 ⟨by omega, by omega⟩ (by decide) ?_ ?_
    · intro h18
      refine wk_c1 r122_19 (wk_c1 r122_20 (wk_cv3 r122_21 kc_739_123 rfl (m9123_739 _ M1 0 1 0 hP2 (by decide) (by decide) (by decide) (by decide) (mUp_at e4) (by first | assumption | omega) (by first | assumption | omega)) (cqI ?_)))
      rintro v25 M19 ⟨hP20, hQ21, h26, h27, h23, xh24⟩
      have hF22 : Fr fm_m9122_739 M0 M19 := hF3.tr hQ21 rfl
      refine wk_ifne r122_24 ⟨by omega, by omega⟩ ?_ ?_
      · intro h28
        exfalso
        omega
      · intro h29
        refine wk_c1 r122_27 ?_
        subst hQ; exact wk_iret r122_28 (⟨rfl, _, rfl, hP20, hF22, by omega, by omega, (WS_sm (Sm.fr hQ21 rfl) (WS_sm (Sm.up e4 g_739_0 rfl) pp_WS)), (QW_sm (Sm.fr hQ21 rfl) (QW_sm (Sm.up e4 g_739_0 rfl) pp_QW))⟩)
    · intro h30
      refine wk_c1 r122_15 (wk_goto r122_16 (wk_c1 r122_20 (wk_cv3 r122_21 kc_739_123 rfl (m9123_739v1 _ M1 1 1 0 hP2 (by decide) (by decide) (by decide) (by decide) (mUp_at e4) (by first | assumption | omega) (by first | assumption | omega)) (cqI ?_))))
      rintro v37 M31 ⟨hP32, hQ33, h38, h39, h35, xh36⟩
      obtain rfl := Fr.same hQ33
      refine wk_ifne r122_24 ⟨by omega, by omega⟩ ?_ ?_
      · intro h40
        refine wk_al0 r122_29 (wk_cv1 r122_30 kc_739_74 rfl (m9074_739 _ M1 x739_7 hP2 (mUp_no e4 ex739_7 (Or.inr (by decide))) (by first | assumption | omega) (by first | assumption | omega)) (cqI ?_))
        rintro v46 M41 ⟨hP42, hQ43, h47, h48, xh45⟩
        obtain rfl := Fr.same hQ43
        refine wk_c3 r122_33 ?_
        refine wk_icle r122_36 ⟨by omega, by omega⟩ (by decide) ?_ ?_
        · intro h49
          have pr50 : CFP M1 := by unfold CFP; rw [(mUp_no e4 ex739_7 (Or.inr (by decide)))]; rw [← xh45]; omega
          refine wk_al0 r122_42 (wk_getfb r122_43 fd_739_15 (bf_739_15 hP2) ?_)
          intro v51 h53 h54 e52
          refine wk_c1 r122_46 (wk_iadd r122_47 (wk_c2 r122_48 ?_))
          refine wk_icle r122_50 ⟨by omega, by omega⟩ (by decide) ?_ ?_
          · intro h55
            refine wk_c1 r122_55 (wk_is2 r122_56 rfl ?_)
            have c57_4426 : ∀ (k4426 : Nat) (M4275 : Mm) (v4272 : Int), (210 - v4272).toNat = k4426 → Pw M4275 → Fr fm_m9122_739 M0 M4275 → M4275 739 13 = x739_13 → M4275 739 7 = x739_7 → M4275 739 1 = x739_1 → M4275 739 0 = 0 → M4275 739 15 = v51 → 0 ≤ v4272 → v4272 ≤ 210 → (WS M4275) → (QW M4275) → (CFP M4275) → Wp B (d + 6) 122 57 [some (R 739), some (I p1), some (I v4272), none, none] [] M4275 Q := by
              refine lp_ind ?_
              intro k4426 ih4426 M4275 v4272 hk4426 hP4276 hF4277 e4278 e4279 e4280 e4281 e4282 h4273 h4274 pr4283 pr4284 pr4285
              refine wk_il2 r122_57 (wk_c2 r122_58 (wk_al0 r122_60 (wk_getfi r122_61 fd_739_1 e4280 (wk_imul r122_64 ?_))))
              refine wk_icge r122_65 ⟨by omega, by omega⟩ ⟨by omega, by omega⟩ ?_ ?_
              · intro h4286
                refine wk_c1 r122_119 (wk_is2 r122_120 rfl ?_)
                have c121_4382 : ∀ (k4382 : Nat) (M4290 : Mm) (v4287 : Int), (210 - v4287).toNat = k4382 → Pw M4290 → Fr fm_m9122_739 M0 M4290 → M4290 739 13 = x739_13 → M4290 739 7 = x739_7 → M4290 739 1 = x739_1 → M4290 739 0 = 0 → M4290 739 15 = v51 → 0 ≤ v4287 → v4287 ≤ 210 → (WS M4290) → (QW M4290) → (CFP M4290) → Wp B (d + 6) 122 121 [some (R 739), some (I p1), some (I v4287), none, none] [] M4290 Q := by
                  refine lp_ind ?_
                  intro k4382 ih4382 M4290 v4287 hk4382 hP4291 hF4292 e4293 e4294 e4295 e4296 e4297 h4288 h4289 pr4298 pr4299 pr4300
                  refine wk_il2 r122_121 (wk_c2 r122_122 (wk_al0 r122_124 (wk_getfi r122_125 fd_739_1 e4295 (wk_imul r122_128 ?_))))
                  refine wk_icge r122_129 ⟨by omega, by omega⟩ ⟨by omega, by omega⟩ ?_ ?_
                  · intro h4301
                    refine wk_al0 r122_243 (wk_cv1 r122_244 kc_739_64 rfl (m9064_739 _ M4290 hP4291 pr4298 pr4299) (cqI ?_))
                    rintro v4308 M4302 ⟨hP4303, hQ4304, h4309, h4310, pr4306, pr4307⟩
                    have hF4305 : Fr fm_m9122_739 M0 M4302 := hF4292.tr hQ4304 rfl
                    refine wk_popi r122_247 (wk_c1 r122_248 ?_)
                    subst hQ; exact wk_iret r122_249 (⟨rfl, _, rfl, hP4303, hF4305, by omega, by omega, pr4306, pr4307⟩)
                  · intro h4311
                    refine wk_il2 r122_132 (wk_c2 r122_133 (wk_irem r122_135 ⟨by omega, by omega⟩ (by decide) (wk_al0 r122_136 (wk_getfi r122_137 fd_739_13 e4293 ?_))))
                    refine wk_iclt r122_140 ⟨by omega, by omega⟩ ⟨by omega, by omega⟩ ?_ ?_
                    · intro h4313
                      refine wk_al0 r122_146 (wk_il2 r122_147 (wk_cv2 r122_148 kc_739_106 rfl (m9106_739 _ M4290 v4287 x739_13 x739_7 hP4291 (by omega) (by omega) e4293 (by first | assumption | omega) (by first | assumption | omega) e4294 (by first | assumption | omega) (by first | assumption | omega) (by omega) pr4298 pr4299 pr4300) (cqI ?_)))
                      rintro v4321 M4314 ⟨hP4315, hQ4316, h4322, h4323, pr4318, pr4319, pr4320⟩
                      have hF4317 : Fr fm_m9122_739 M0 M4314 := hF4292.tr hQ4316 rfl
                      refine wk_is3 r122_151 rfl (wk_al0 r122_152 (wk_getfr r122_153 fd_739_16 (br_739_16 hP4315) (wk_al0 r122_156 (wk_getfi r122_157 fd_739_15 ((hQ4316.at g_739_15 rfl).trans e4297) (wk_il2 r122_160 (wk_c2 r122_161 (wk_idiv r122_163 ⟨by omega, by omega⟩ (by decide) (wk_iast r122_164 ar_748 ⟨by omega, by omega⟩ (wk_nw (ga_748 _) rfl hP4315 hF4317 (ua_748 ⟨by omega, by omega⟩) ?_)))))))))
                      intro M4324 hP4325 hF4326 e4327
                      refine wk_il2 r122_165 (wk_is4 r122_166 rfl ?_)
                      have c168_4380 : ∀ (k4380 : Nat) (M4331 : Mm) (v4328 : Int), (210 - v4328).toNat = k4380 → Pw M4331 → Fr fm_m9122_739 M0 M4331 → M4331 739 13 = x739_13 → M4331 739 7 = x739_7 → M4331 739 1 = x739_1 → M4331 739 0 = 0 → M4331 739 15 = v51 → 0 ≤ v4328 → v4328 ≤ 210 → (WS M4331) → (QW M4331) → (CFP M4331) → Wp B (d + 6) 122 168 [some (R 739), some (I p1), some (I v4287), some (I v4321), some (I v4328)] [] M4331 Q := by
                        refine lp_ind ?_
                        intro k4380 ih4380 M4331 v4328 hk4380 hP4332 hF4333 e4334 e4335 e4336 e4337 e4338 h4329 h4330 pr4339 pr4340 pr4341
                        refine wk_il4 r122_168 (wk_c2 r122_170 (wk_al0 r122_172 (wk_getfi r122_173 fd_739_1 e4336 (wk_imul r122_176 ?_))))
                        refine wk_icge r122_177 ⟨by omega, by omega⟩ ⟨by omega, by omega⟩ ?_ ?_
                        · intro h4342
                          refine wk_inc2 r122_237 rfl (wk_goto r122_240 ?_)
                          exact wp_fg (le_s (le_s (le_s (le_n (le_n le_0))))) (ih4382 (210 - (v4287 + 1)).toNat (by omega) M4331 (v4287 + 1) rfl hP4332 hF4333 e4334 e4335 e4336 e4337 e4338 (by first | assumption | omega) (by first | assumption | omega) pr4339 pr4340 pr4341)
                        · intro h4343
                          refine wk_il4 r122_180 (wk_c2 r122_182 (wk_irem r122_184 ⟨by omega, by omega⟩ (by decide) (wk_al0 r122_185 (wk_getfi r122_186 fd_739_13 e4334 ?_))))
                          refine wk_icge r122_189 ⟨by omega, by omega⟩ ⟨by omega, by omega⟩ ?_ ?_
                          · intro h4345
                            refine wk_inc4 r122_231 rfl (wk_goto r122_234 ?_)
                            exact wp_fg (le_s (le_s (le_s (le_s (le_s le_0))))) (ih4380 (210 - (v4328 + 1)).toNat (by omega) M4331 (v4328 + 1) rfl hP4332 hF4333 e4334 e4335 e4336 e4337 e4338 (by first | assumption | omega) (by first | assumption | omega) pr4339 pr4340 pr4341)
                          · intro h4346
                            refine wk_al0 r122_192 (wk_il3 r122_193 (wk_il4 r122_194 (wk_il1 r122_196 (wk_cv4 r122_197 kc_739_103 rfl (m9103_739 _ M4331 v4321 v4328 p1 x739_13 v51 hP4332 (by omega) (by omega) (by omega) (by omega) (by omega) (by omega) e4334 (by first | assumption | omega) (by first | assumption | omega) e4338 (by first | assumption | omega) (by first | assumption | omega) (by omega) pr4339 pr4340 pr4341) (cqI ?_)))))
                            rintro v4354 M4347 ⟨hP4348, hQ4349, h4355, h4356, pr4351, pr4352, pr4353⟩
                            have hF4350 : Fr fm_m9122_739 M0 M4347 := hF4333.tr hQ4349 rfl
                            refine wk_ifne r122_200 ⟨by omega, by omega⟩ ?_ ?_
                            · intro h4357
                              refine wk_al0 r122_206 (wk_c1 r122_207 (wk_putfi81 r122_208 fd_739_65 (wk_nw g_739_65 rfl hP4348 hF4350 (uf_739_65 (by decide)) ?_)))
                              intro M4358 hP4359 hF4360 e4361
                              refine wk_al0 r122_211 (wk_getfr r122_212 fd_739_66 (br_739_66 hP4359) (wk_c1 r122_215 (wk_il2 r122_216 (wk_iast r122_217 ar_767 (by decide) (wk_nw (ga_767 _) rfl hP4359 hF4360 (ua_767 ⟨by omega, by omega⟩) ?_)))))
                              intro M4362 hP4363 hF4364 e4365
                              refine wk_al0 r122_218 (wk_getfr r122_219 fd_739_66 (br_739_66 hP4363) (wk_c1 r122_222 (wk_il4 r122_223 (wk_iast r122_225 ar_767 (by decide) (wk_nw (ga_767 _) rfl hP4363 hF4364 (ua_767 ⟨by omega, by omega⟩) ?_)))))
                              intro M4366 hP4367 hF4368 e4369
                              refine wk_al0 r122_226 (wk_cv1 r122_227 kc_739_64 rfl (m9064_739 _ M4366 hP4367 (WS_sm (Sm.up e4369 (ga_767 _) rfl) (WS_sm (Sm.up e4365 (ga_767 _) rfl) (WS_sm (Sm.up e4361 g_739_65 rfl) pr4351))) (QW_sm (Sm.up e4369 (ga_767 _) rfl) (QW_sm (Sm.up e4365 (ga_767 _) rfl) (QW_sm (Sm.up e4361 g_739_65 rfl) pr4352)))) (cqI ?_))
                              rintro v4376 M4370 ⟨hP4371, hQ4372, h4377, h4378, pr4374, pr4375⟩
                              have hF4373 : Fr fm_m9122_739 M0 M4370 := hF4368.tr hQ4372 rfl
                              subst hQ; exact wk_iret r122_230 (⟨rfl, _, rfl, hP4371, hF4373, by omega, by omega, pr4374, pr4375⟩)
                            · intro h4379
                              refine wk_goto r122_203 (wk_inc4 r122_231 rfl (wk_goto r122_234 ?_))
                              exact wp_fg (le_s (le_s (le_s (le_s (le_s le_0))))) (ih4380 (210 - (v4328 + 1)).toNat (by omega) M4347 (v4328 + 1) rfl hP4348 hF4350 ((hQ4349.at g_739_13 rfl).trans e4334) ((hQ4349.at g_739_7 rfl).trans e4335) ((hQ4349.at g_739_1 rfl).trans e4336) ((hQ4349.at g_739_0 rfl).trans e4337) ((hQ4349.at g_739_15 rfl).trans e4338) (by first | assumption | omega) (by first | assumption | omega) pr4351 pr4352 pr4353)
                      exact wp_fg (le_s (le_s (le_s (le_s (le_s le_0))))) (c168_4380 _ M4324 v4287 rfl hP4325 hF4326 (mUp_no e4327 ((hQ4316.at g_739_13 rfl).trans e4293) (Or.inl (by decide))) (mUp_no e4327 ((hQ4316.at g_739_7 rfl).trans e4294) (Or.inl (by decide))) (mUp_no e4327 ((hQ4316.at g_739_1 rfl).trans e4295) (Or.inl (by decide))) (mUp_no e4327 ((hQ4316.at g_739_0 rfl).trans e4296) (Or.inl (by decide))) (mUp_no e4327 ((hQ4316.at g_739_15 rfl).trans e4297) (Or.inl (by decide))) (by first | assumption | omega) (by first | assumption | omega) (WS_sm (Sm.up e4327 (ga_748 _) rfl) pr4318) (QW_sm (Sm.up e4327 (ga_748 _) rfl) pr4319) (CFP_sm (Sm.up e4327 (ga_748 _) rfl) pr4320))
                    · intro h4381
                      refine wk_goto r122_143 (wk_inc2 r122_237 rfl (wk_goto r122_240 ?_))
                      exact wp_fg (le_s (le_s (le_s (le_s (le_s le_0))))) (ih4382 (210 - (v4287 + 1)).toNat (by omega) M4290 (v4287 + 1) rfl hP4291 hF4292 e4293 e4294 e4295 e4296 e4297 (by first | assumption | omega) (by first | assumption | omega) pr4298 pr4299 pr4300)
                exact wp_fg (le_s (le_s (le_s (le_s (le_s le_0))))) (c121_4382 _ M4275 0 rfl hP4276 hF4277 e4278 e4279 e4280 e4281 e4282 (by first | assumption | omega) (by first | assumption | omega) pr4283 pr4284 pr4285)
              · intro h4383
                refine wk_il2 r122_68 (wk_c2 r122_69 (wk_irem r122_71 ⟨by omega, by omega⟩ (by decide) (wk_al0 r122_72 (wk_getfi r122_73 fd_739_13 e4278 ?_))))
                refine wk_icge r122_76 ⟨by omega, by omega⟩ ⟨by omega, by omega⟩ ?_ ?_
                · intro h4385
                  refine wk_inc2 r122_113 rfl (wk_goto r122_116 ?_)
                  exact wp_fg (le_s (le_s (le_s (le_s (le_s le_0))))) (ih4426 (210 - (v4272 + 1)).toNat (by omega) M4275 (v4272 + 1) rfl hP4276 hF4277 e4278 e4279 e4280 e4281 e4282 (by first | assumption | omega) (by first | assumption | omega) pr4283 pr4284 pr4285)
                · intro h4386
                  refine wk_al0 r122_79 (wk_al0 r122_80 (wk_il2 r122_81 (wk_cv2 r122_82 kc_739_106 rfl (m9106_739 _ M4275 v4272 x739_13 x739_7 hP4276 (by omega) (by omega) e4278 (by first | assumption | omega) (by first | assumption | omega) e4279 (by first | assumption | omega) (by first | assumption | omega) (by omega) pr4283 pr4284 pr4285) (cqI ?_))))
                  rintro v4394 M4387 ⟨hP4388, hQ4389, h4395, h4396, pr4391, pr4392, pr4393⟩
                  have hF4390 : Fr fm_m9122_739 M0 M4387 := hF4277.tr hQ4389 rfl
                  refine wk_c1 r122_85 (wk_il1 r122_86 (wk_cv4 r122_87 kc_739_103 rfl (m9103_739 _ M4387 v4394 (-1) p1 x739_13 v51 hP4388 (by omega) (by omega) (by decide) (by decide) (by omega) (by omega) ((hQ4389.at g_739_13 rfl).trans e4278) (by first | assumption | omega) (by first | assumption | omega) ((hQ4389.at g_739_15 rfl).trans e4282) (by first | assumption | omega) (by first | assumption | omega) (by omega) pr4391 pr4392 pr4393) (cqI ?_)))
                  rintro v4404 M4397 ⟨hP4398, hQ4399, h4405, h4406, pr4401, pr4402, pr4403⟩
                  have hF4400 : Fr fm_m9122_739 M0 M4397 := hF4390.tr hQ4399 rfl
                  refine wk_ifne r122_90 ⟨by omega, by omega⟩ ?_ ?_
                  · intro h4407
                    refine wk_al0 r122_96 (wk_c1 r122_97 (wk_putfi81 r122_98 fd_739_65 (wk_nw g_739_65 rfl hP4398 hF4400 (uf_739_65 (by decide)) ?_)))
                    intro M4408 hP4409 hF4410 e4411
                    refine wk_al0 r122_101 (wk_getfr r122_102 fd_739_66 (br_739_66 hP4409) (wk_c1 r122_105 (wk_il2 r122_106 (wk_iast r122_107 ar_767 (by decide) (wk_nw (ga_767 _) rfl hP4409 hF4410 (ua_767 ⟨by omega, by omega⟩) ?_)))))
                    intro M4412 hP4413 hF4414 e4415
                    refine wk_al0 r122_108 (wk_cv1 r122_109 kc_739_64 rfl (m9064_739 _ M4412 hP4413 (WS_sm (Sm.up e4415 (ga_767 _) rfl) (WS_sm (Sm.up e4411 g_739_65 rfl) pr4401)) (QW_sm (Sm.up e4415 (ga_767 _) rfl) (QW_sm (Sm.up e4411 g_739_65 rfl) pr4402))) (cqI ?_))
                    rintro v4422 M4416 ⟨hP4417, hQ4418, h4423, h4424, pr4420, pr4421⟩
                    have hF4419 : Fr fm_m9122_739 M0 M4416 := hF4414.tr hQ4418 rfl
                    subst hQ; exact wk_iret r122_112 (⟨rfl, _, rfl, hP4417, hF4419, by omega, by omega, pr4420, pr4421⟩)
                  · intro h4425
                    refine wk_goto r122_93 (wk_inc2 r122_113 rfl (wk_goto r122_116 ?_))
                    exact wp_fg (le_s (le_s (le_s (le_s (le_s le_0))))) (ih4426 (210 - (v4272 + 1)).toNat (by omega) M4397 (v4272 + 1) rfl hP4398 hF4400 ((hQ4399.at g_739_13 rfl).trans ((hQ4389.at g_739_13 rfl).trans e4278)) ((hQ4399.at g_739_7 rfl).trans ((hQ4389.at g_739_7 rfl).trans e4279)) ((hQ4399.at g_739_1 rfl).trans ((hQ4389.at g_739_1 rfl).trans e4280)) ((hQ4399.at g_739_0 rfl).trans ((hQ4389.at g_739_0 rfl).trans e4281)) ((hQ4399.at g_739_15 rfl).trans ((hQ4389.at g_739_15 rfl).trans e4282)) (by first | assumption | omega) (by first | assumption | omega) pr4401 pr4402 pr4403)
            exact wp_fg (le_s (le_s (le_s (le_s (le_s le_0))))) (c57_4426 _ M1 0 rfl hP2 hF3 (mUp_no e4 ex739_13 (Or.inr (by decide))) (mUp_no e4 ex739_7 (Or.inr (by decide))) (mUp_no e4 ex739_1 (Or.inr (by decide))) (mUp_at e4) e52 (by first | assumption | omega) (by first | assumption | omega) (WS_sm (Sm.up e4 g_739_0 rfl) pp_WS) (QW_sm (Sm.up e4 g_739_0 rfl) pp_QW) pr50)
          · intro h4427
            refine wk_c1 r122_53 ?_
            subst hQ; exact wk_iret r122_54 (⟨rfl, _, rfl, hP2, hF3, by omega, by omega, (WS_sm (Sm.up e4 g_739_0 rfl) pp_WS), (QW_sm (Sm.up e4 g_739_0 rfl) pp_QW)⟩)
        · intro h4428
          refine wk_c2 r122_39 ?_
          subst hQ; exact wk_iret r122_41 (⟨rfl, _, rfl, hP2, hF3, by omega, by omega, (WS_sm (Sm.up e4 g_739_0 rfl) pp_WS), (QW_sm (Sm.up e4 g_739_0 rfl) pp_QW)⟩)
      · intro h4429
        refine wk_c1 r122_27 ?_
        subst hQ; exact wk_iret r122_28 (⟨rfl, _, rfl, hP2, hF3, by omega, by omega, (WS_sm (Sm.up e4 g_739_0 rfl) pp_WS), (QW_sm (Sm.up e4 g_739_0 rfl) pp_QW)⟩)
