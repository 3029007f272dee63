
def fm_n9077_739 : Nat := 407082447148577451019825093006616715533593874014409940856097678692174553677824
/-- IslandHallModel.hears -/
theorem n9077_739 {B : eB} (d : Nat) (M0 : Mm) (p1 : Int) (p2 : Int) (p3 : Int) (x739_13 : Int) (x739_21 : Int) (x739_15 : Int) (hP0 : Pw M0) (l1 : 0 ≤ p1) (u1 : p1 ≤ 2) (l2 : 0 ≤ p2) (u2 : p2 ≤ 9) (l3 : 0 ≤ p3) (u3 : p3 ≤ 1) (ex739_13 : M0 739 13 = x739_13) (lx739_13 : 0 ≤ x739_13) (ux739_13 : x739_13 ≤ 30) (ex739_21 : M0 739 21 = x739_21) (lx739_21 : 0 ≤ x739_21) (ux739_21 : x739_21 ≤ 10) (ex739_15 : M0 739 15 = x739_15) (lx739_15 : 0 ≤ x739_15) (ux739_15 : x739_15 ≤ 12) (rp0 : 0 ≤ x739_21 + (-1) * p2 + (-1)) (pp_WS : WS M0) (pp_QW : QW M0) : Ct B (d + 6) 77 [R 739, I p1, I p2, I p3] M0 (qV fun M => Pw M ∧ Fr fm_n9077_739 M0 M ∧ (WS M) ∧ (QW M) ∧ (WPe M M0)) := by
  refine ct_of (d := d + 5) (k := 5) (L := [some (R 739), some (I p1), some (I p2), some (I p3), none, none, none, none, none]) rfl rfl rfl ?_
  have hF0 := Fr.rf fm_n9077_739 M0
  generalize hQ : (qV fun M => Pw M ∧ Fr fm_n9077_739 M0 M ∧ (WS M) ∧ (QW M) ∧ (WPe M M0)) = Q
  refine wk_al0 r77_0 (wk_getfi r77_1 fd_739_15 ex739_15 (wk_il1 r77_4 (wk_iadd r77_5 (wk_is4 r77_6 rfl (wk_c1 r77_8 (wk_is5 r77_9 rfl (wk_c1 r77_11 (wk_is6 r77_12 rfl ?_))))))))
  have c14_942 : ∀ (k942 : Nat) (M854 : Mm) (v848 : Int) (v851 : Int), (100 - v851).toNat = k942 → Pw M854 → Fr fm_n9077_739 M0 M854 → M854 739 13 = x739_13 → M854 739 21 = x739_21 → M854 739 15 = x739_15 → 0 ≤ v848 → v848 ≤ 100 → 0 ≤ v851 → v851 ≤ 100 → (WS M854) → (QW M854) → (WPe M854 M0) → 0 ≤ (-1) * v848 + v851 + 0 → Wp B (d + 5) 77 14 [some (R 739), some (I p1), some (I p2), some (I p3), some (I (x739_15 + p1)), some (I v848), some (I v851), none, none] [] M854 Q := by
    refine lp_ind ?_
    intro k942 ih942 M854 v848 v851 hk942 hP855 hF856 e857 e858 e859 h849 h850 h852 h853 pr860 pr861 pr862 h863
    refine wk_il6 r77_14 (wk_al0 r77_16 (wk_getfr r77_17 fd_739_62 (br_739_62 hP855) (wk_il1 r77_20 (wk_ialdb r77_21 ar_766 ⟨by omega, by omega⟩ (fun q0 q1 => ba_766 hP855 q0 q1) ?_))))
    intro v864 h866 h867 e865
    refine wk_icge r77_22 ⟨by omega, by omega⟩ ⟨by omega, by omega⟩ ?_ ?_
    · intro h868
      refine wk_al0 r77_153 (wk_getfr r77_154 fd_739_62 (br_739_62 hP855) (wk_il1 r77_157 (wk_c1 r77_158 (wk_iadd r77_159 (wk_il5 r77_160 (wk_iast r77_162 ar_766 ⟨by omega, by omega⟩ (wk_nw (ga_766 _) rfl hP855 hF856 (ua_766 ⟨by omega, by omega⟩) ?_)))))))
      intro M869 hP870 hF871 e872
      refine wk_al0 r77_163 (wk_getfr r77_164 fd_739_16 (br_739_16 hP870) (wk_il4 r77_167 (wk_al0 r77_169 (wk_getfr r77_170 fd_739_22 (br_739_22 hP870) (wk_il2 r77_173 (wk_ialdb r77_174 ar_753 ⟨by omega, by omega⟩ (fun q0 q1 => ba_753 hP870 q0 q1) ?_))))))
      intro v873 h875 h876 e874
      refine wk_iast r77_175 ar_748 ⟨by omega, by omega⟩ (wk_nw (ga_748 _) rfl hP870 hF871 (ua_748 ⟨by omega, by omega⟩) ?_)
      intro M877 hP878 hF879 e880
      have pr881 : WPe M877 M0 := WPe_up (WPe_sm (Sm.up e872 (ga_766 _) rfl) pr862) e880 (by rw [ex739_15]; omega)
      subst hQ; exact wk_ret r77_176 (⟨rfl, hP878, hF879, (WS_sm (Sm.up e880 (ga_748 _) rfl) (WS_sm (Sm.up e872 (ga_766 _) rfl) pr860)), (QW_sm (Sm.up e880 (ga_748 _) rfl) (QW_sm (Sm.up e872 (ga_766 _) rfl) pr861)), pr881⟩)
    · intro h882
      refine wk_al0 r77_25 (wk_getfr r77_26 fd_739_60 (br_739_60 hP855) (wk_c2 r77_29 (wk_il1 r77_31 (wk_imul r77_32 (wk_il6 r77_33 (wk_iadd r77_35 (wk_ialdb r77_36 ar_764 ⟨by omega, by omega⟩ (fun q0 q1 => ba_764 hP855 q0 q1) ?_)))))))
      intro v883 h885 h886 e884
      refine wk_is7 r77_37 rfl (wk_al0 r77_39 (wk_al0 r77_40 (wk_getfr r77_41 fd_739_23 (br_739_23 hP855) (wk_il2 r77_44 (wk_ialdb r77_45 ar_754 ⟨by omega, by omega⟩ (fun q0 q1 => ba_754 hP855 q0 q1) ?_)))))
      intro v887 h889 h890 e888
      have h891 : v887 < x739_13 := by have q := pr861 p2 (by omega) (by rw [e858]; omega); rw [e857, e888] at q; exact q
      refine wk_il7 r77_46 (wk_il4 r77_48 (wk_al0 r77_50 (wk_getfr r77_51 fd_739_61 (br_739_61 hP855) (wk_c2 r77_54 (wk_il1 r77_56 (wk_imul r77_57 (wk_il6 r77_58 (wk_iadd r77_60 (wk_ialdb r77_61 ar_765 ⟨by omega, by omega⟩ (fun q0 q1 => ba_765 hP855 q0 q1) ?_)))))))))
      intro v892 h894 h895 e893
      refine wk_cv5 r77_62 kc_739_128 rfl (m9128_739 _ M854 v887 v883 (x739_15 + p1) v892 x739_13 hP855 (by first | with_reducible assumption | omega) (by first | with_reducible assumption | omega) (by first | with_reducible assumption | omega) (by first | with_reducible assumption | omega) (by first | with_reducible assumption | omega) (by first | with_reducible assumption | omega) (by first | with_reducible assumption | omega) (by first | with_reducible assumption | omega) e857 (by first | with_reducible assumption | omega) (by first | with_reducible assumption | omega) (by omega) pr860) (cqI ?_)
      rintro v900 M896 ⟨hP897, hQ898, h901, h902⟩
      have hF899 : Fr fm_n9077_739 M0 M896 := hF856.tr hQ898 rfl
      refine wk_is8 r77_65 rfl (wk_al0 r77_67 (wk_al0 r77_68 (wk_il7 r77_69 (wk_al0 r77_71 (wk_getfr r77_72 fd_739_22 (br_739_22 hP897) (wk_il2 r77_75 (wk_ialdb r77_76 ar_753 ⟨by omega, by omega⟩ (fun q0 q1 => ba_753 hP897 q0 q1) ?_)))))))
      intro v903 h905 h906 e904
      refine wk_il4 r77_77 (wk_cv4 r77_79 kc_739_107 rfl (m9107_739 _ M896 v883 v903 (x739_15 + p1) hP897 (by first | with_reducible assumption | omega) (by first | with_reducible assumption | omega) (by first | with_reducible assumption | omega) (by first | with_reducible assumption | omega) (by first | with_reducible assumption | omega) (by first | with_reducible assumption | omega)) (cqI ?_))
      rintro v911 M907 ⟨hP908, hQ909, h912, h913⟩
      obtain rfl := Fr.same hQ909
      refine wk_il8 r77_82 (wk_il3 r77_84 (wk_il7 r77_85 (wk_cv5 r77_87 kc_739_56 rfl (m9056_739 _ M896 v911 v900 p3 v883 hP897 (by first | with_reducible assumption | omega) (by first | with_reducible assumption | omega) (by first | with_reducible assumption | omega) (by first | with_reducible assumption | omega) (by first | with_reducible assumption | omega) (by first | with_reducible assumption | omega) (by first | with_reducible assumption | omega) (by first | with_reducible assumption | omega)) (cqI ?_))))
      rintro v918 M914 ⟨hP915, hQ916, h919, h920⟩
      obtain rfl := Fr.same hQ916
      refine wk_ifne r77_90 ⟨by omega, by omega⟩ ?_ ?_
      · intro h921
        refine wk_al0 r77_96 (wk_getfr r77_97 fd_739_60 (br_739_60 hP897) (wk_c2 r77_100 (wk_il1 r77_102 (wk_c1 r77_103 (wk_iadd r77_104 (wk_imul r77_105 (wk_il5 r77_106 (wk_iadd r77_108 (wk_il7 r77_109 (wk_iast r77_111 ar_764 ⟨by omega, by omega⟩ (wk_nw (ga_764 _) rfl hP897 hF899 (ua_764 ⟨by omega, by omega⟩) ?_)))))))))))
        intro M922 hP923 hF924 e925
        refine wk_al0 r77_112 (wk_getfr r77_113 fd_739_61 (br_739_61 hP923) (wk_c2 r77_116 (wk_il1 r77_118 (wk_c1 r77_119 (wk_iadd r77_120 (wk_imul r77_121 (wk_il5 r77_122 (wk_iadd r77_124 (wk_al0 r77_125 (wk_getfr r77_126 fd_739_61 (br_739_61 hP923) (wk_c2 r77_129 (wk_il1 r77_131 (wk_imul r77_132 (wk_il6 r77_133 (wk_iadd r77_135 (wk_ialdb r77_136 ar_765 ⟨by omega, by omega⟩ (fun q0 q1 => ba_765 hP923 q0 q1) ?_))))))))))))))))
        intro v926 h928 h929 e927
        refine wk_il8 r77_137 (wk_il4 r77_139 (wk_shlb 14 16384 1 r77_141 ⟨by omega, by omega⟩ ⟨by omega, by omega⟩ ⟨pwl_14, by decide⟩ ?_))
        intro v930 h931 h932 h933
        refine wk_iorx r77_142 ?_
        intro v934 h935 h936
        refine wk_iast r77_143 ar_765 ⟨by omega, by omega⟩ (wk_nw (ga_765 _) rfl hP923 hF924 (ua_765 ⟨by omega, by omega⟩) ?_)
        intro M937 hP938 hF939 e940
        refine wk_inc5 r77_144 rfl (wk_inc6 r77_147 rfl (wk_goto r77_150 ?_))
        exact wp_fg (le_s (le_s (le_s (le_s (le_s (le_s (le_s (le_n (le_n le_0))))))))) (ih942 (100 - (v851 + 1)).toNat (by omega) M937 (v848 + 1) (v851 + 1) rfl hP938 hF939 (mUp_no e940 (mUp_no e925 ((hQ898.at g_739_13 rfl).trans e857) (Or.inl (by decide))) (Or.inl (by decide))) (mUp_no e940 (mUp_no e925 ((hQ898.at g_739_21 rfl).trans e858) (Or.inl (by decide))) (Or.inl (by decide))) (mUp_no e940 (mUp_no e925 ((hQ898.at g_739_15 rfl).trans e859) (Or.inl (by decide))) (Or.inl (by decide))) (by first | with_reducible assumption | omega) (by first | with_reducible assumption | omega) (by first | with_reducible assumption | omega) (by first | with_reducible assumption | omega) (WS_sm (Sm.up e940 (ga_765 _) rfl) (WS_sm (Sm.up e925 (ga_764 _) rfl) (WS_sm (Sm.fr hQ898 rfl) pr860))) (QW_sm (Sm.up e940 (ga_765 _) rfl) (QW_sm (Sm.up e925 (ga_764 _) rfl) (QW_sm (Sm.fr hQ898 rfl) pr861))) (WPe_sm (Sm.up e940 (ga_765 _) rfl) (WPe_sm (Sm.up e925 (ga_764 _) rfl) (WPe_sm (Sm.fr hQ898 rfl) pr862))) (by first | with_reducible assumption | omega))
      · intro h941
        refine wk_goto r77_93 (wk_inc6 r77_147 rfl (wk_goto r77_150 ?_))
        exact wp_fg (le_s (le_s (le_s (le_s (le_s (le_s (le_s (le_n (le_n le_0))))))))) (ih942 (100 - (v851 + 1)).toNat (by omega) M896 v848 (v851 + 1) rfl hP897 hF899 ((hQ898.at g_739_13 rfl).trans e857) ((hQ898.at g_739_21 rfl).trans e858) ((hQ898.at g_739_15 rfl).trans e859) (by first | with_reducible assumption | omega) (by first | with_reducible assumption | omega) (by first | with_reducible assumption | omega) (by first | with_reducible assumption | omega) (WS_sm (Sm.fr hQ898 rfl) pr860) (QW_sm (Sm.fr hQ898 rfl) pr861) (WPe_sm (Sm.fr hQ898 rfl) pr862) (by first | with_reducible assumption | omega))
  exact wp_fg (le_s (le_s (le_s (le_s (le_s (le_s (le_s (le_s (le_s le_0))))))))) (c14_942 _ M0 0 0 rfl hP0 hF0 ex739_13 ex739_21 ex739_15 (by first | with_reducible assumption | omega) (by first | with_reducible assumption | omega) (by first | with_reducible assumption | omega) (by first | with_reducible assumption | omega) pp_WS pp_QW (WPe_rf M0) (by first | with_reducible assumption | omega))
def fm_n9101_739 : Nat := 407082447148577451019825093006616715533593874014409940856097678692174553677824
/-- IslandHallModel.leadsToTold -/
theorem n9101_739 {B : eB} (d : Nat) (M0 : Mm) (p1 : Int) (p2 : Int) (x739_13 : Int) (x739_21 : Int) (hP0 : Pw M0) (l1 : 0 ≤ p1) (u1 : p1 ≤ 2) (l2 : 0 ≤ p2) (u2 : p2 ≤ 9) (ex739_13 : M0 739 13 = x739_13) (lx739_13 : 0 ≤ x739_13) (ux739_13 : x739_13 ≤ 30) (ex739_21 : M0 739 21 = x739_21) (lx739_21 : 0 ≤ x739_21) (ux739_21 : x739_21 ≤ 10) (rp0 : 0 ≤ x739_21 + (-1) * p2 + (-1)) (pp_WS : WS M0) (pp_QW : QW M0) : Ct B (d + 7) 101 [R 739, I p1, I p2] M0 (qI fun z M => Pw M ∧ Fr fm_n9101_739 M0 M ∧ 0 ≤ z ∧ z ≤ 1 ∧ (WS M) ∧ (QW M) ∧ (WPe M M0)) := by
  refine ct_of (d := d + 6) (k := 1) (L := [some (R 739), some (I p1), some (I p2), none]) rfl rfl rfl ?_
  have hF0 := Fr.rf fm_n9101_739 M0
  generalize hQ : (qI fun z M => Pw M ∧ Fr fm_n9101_739 M0 M ∧ 0 ≤ z ∧ z ≤ 1 ∧ (WS M) ∧ (QW M) ∧ (WPe M M0)) = Q
  refine wk_c1 r101_0 (wk_is3 r101_1 rfl ?_)
  have c2_129 : ∀ (k129 : Nat) (M98 : Mm) (v95 : Int), (2 - v95).toNat = k129 → Pw M98 → Fr fm_n9101_739 M0 M98 → M98 739 13 = x739_13 → M98 739 21 = x739_21 → 0 ≤ v95 → v95 ≤ 2 → (WS M98) → (QW M98) → (WPe M98 M0) → Wp B (d + 6) 101 2 [some (R 739), some (I p1), some (I p2), some (I v95)] [] M98 Q := by
    refine lp_ind ?_
    intro k129 ih129 M98 v95 hk129 hP99 hF100 e101 e102 h96 h97 pr103 pr104 pr105
    refine wk_il3 r101_2 (wk_c1 r101_3 ?_)
    refine wk_icge r101_4 ⟨by omega, by omega⟩ (by decide) ?_ ?_
    · intro h106
      refine wk_c1 r101_32 ?_
      subst hQ; exact wk_zret r101_33 (by decide) (⟨rfl, _, rfl, hP99, hF100, by omega, by omega, pr103, pr104, pr105⟩)
    · intro h107
      refine wk_al0 r101_7 (wk_il1 r101_8 (wk_il2 r101_9 (wk_il3 r101_10 ?_)))
      obtain ⟨v108, e109⟩ : ∃ v, M98 739 15 = v := ⟨_, rfl⟩
      have h110 := (bf_739_15 hP99).1; rw [e109] at h110
      have h111 := (bf_739_15 hP99).2; rw [e109] at h111
      refine wk_cv4 r101_11 kc_739_77 rfl (n9077_739 _ M98 p1 p2 v95 x739_13 x739_21 v108 hP99 (by first | with_reducible assumption | omega) (by first | with_reducible assumption | omega) (by first | with_reducible assumption | omega) (by first | with_reducible assumption | omega) (by first | with_reducible assumption | omega) (by first | with_reducible assumption | omega) e101 (by first | with_reducible assumption | omega) (by first | with_reducible assumption | omega) e102 (by first | with_reducible assumption | omega) (by first | with_reducible assumption | omega) e109 (by first | with_reducible assumption | omega) (by first | with_reducible assumption | omega) (by omega) pr103 pr104) (cqV ?_)
      rintro M112 ⟨hP113, hQ114, pr116, pr117, pr118⟩
      have hF115 : Fr fm_n9101_739 M0 M112 := hF100.tr hQ114 rfl
      have pr119 : WPe M112 M0 := WPe_tr pr118 pr105
      refine wk_al0 r101_14 (wk_il1 r101_15 (wk_c1 r101_16 (wk_iadd r101_17 (wk_cv2 r101_18 kc_739_89 rfl (m9089_739 _ M112 (p1 + 1) hP113 (by first | with_reducible assumption | omega) (by first | with_reducible assumption | omega)) (cqI ?_)))))
      rintro v124 M120 ⟨hP121, hQ122, h125, h126⟩
      obtain rfl := Fr.same hQ122
      refine wk_ifne r101_21 ⟨by omega, by omega⟩ ?_ ?_
      · intro h127
        refine wk_inc3 r101_26 rfl (wk_goto r101_29 ?_)
        exact wp_fg (le_s (le_s (le_s (le_s le_0)))) (ih129 (2 - (v95 + 1)).toNat (by omega) M112 (v95 + 1) rfl hP113 hF115 ((hQ114.at g_739_13 rfl).trans e101) ((hQ114.at g_739_21 rfl).trans e102) (by first | with_reducible assumption | omega) (by first | with_reducible assumption | omega) pr116 pr117 pr119)
      · intro h128
        refine wk_c1 r101_24 ?_
        subst hQ; exact wk_zret r101_25 (by decide) (⟨rfl, _, rfl, hP113, hF115, by omega, by omega, pr116, pr117, pr119⟩)
  exact wp_fg (le_s (le_s (le_s (le_s le_0)))) (c2_129 _ M0 0 rfl hP0 hF0 ex739_13 ex739_21 (by first | with_reducible assumption | omega) (by first | with_reducible assumption | omega) pp_WS pp_QW (WPe_rf M0))
def fm_n9052_739 : Nat := 407082447148577451019825093006616715533593874014409940856097678692174553677824
/-- IslandHallModel.byOne -/
theorem n9052_739 {B : eB} (d : Nat) (M0 : Mm) (p1 : Int) (x739_13 : Int) (x739_21 : Int) (hP0 : Pw M0) (l1 : 0 ≤ p1) (u1 : p1 ≤ 2) (ex739_13 : M0 739 13 = x739_13) (lx739_13 : 0 ≤ x739_13) (ux739_13 : x739_13 ≤ 30) (ex739_21 : M0 739 21 = x739_21) (lx739_21 : 0 ≤ x739_21) (ux739_21 : x739_21 ≤ 10) (pp_WS : WS M0) (pp_QW : QW M0) : Ct B (d + 8) 52 [R 739, I p1] M0 (qI fun z M => Pw M ∧ Fr fm_n9052_739 M0 M ∧ 0 ≤ z ∧ z ≤ 1 ∧ (WS M) ∧ (QW M) ∧ (WPe M M0)) := by
  refine ct_of (d := d + 7) (k := 1) (L := [some (R 739), some (I p1), none]) rfl rfl rfl ?_
  have hF0 := Fr.rf fm_n9052_739 M0
  generalize hQ : (qI fun z M => Pw M ∧ Fr fm_n9052_739 M0 M ∧ 0 ≤ z ∧ z ≤ 1 ∧ (WS M) ∧ (QW M) ∧ (WPe M M0)) = Q
  refine wk_al0 r52_0 (wk_il1 r52_1 (wk_cv2 r52_2 kc_739_89 rfl (m9089_739 _ M0 p1 hP0 (by first | with_reducible assumption | omega) (by first | with_reducible assumption | omega)) (cqI ?_)))
  rintro v5 M1 ⟨hP2, hQ3, h6, h7⟩
  obtain rfl := Fr.same hQ3
  refine wk_ifeq r52_5 ⟨by omega, by omega⟩ ?_ ?_
  · intro h8
    refine wk_c1 r52_10 (wk_is2 r52_11 rfl ?_)
    have c12_209 : ∀ (k209 : Nat) (M186 : Mm) (v183 : Int), (10 - v183).toNat = k209 → Pw M186 → Fr fm_n9052_739 M0 M186 → M186 739 13 = x739_13 → M186 739 21 = x739_21 → 0 ≤ v183 → v183 ≤ 10 → (WS M186) → (QW M186) → (WPe M186 M0) → Wp B (d + 7) 52 12 [some (R 739), some (I p1), some (I v183)] [] M186 Q := by
      refine lp_ind ?_
      intro k209 ih209 M186 v183 hk209 hP187 hF188 e189 e190 h184 h185 pr191 pr192 pr193
      refine wk_il2 r52_12 (wk_al0 r52_13 (wk_getfi r52_14 fd_739_21 e190 ?_))
      refine wk_icge r52_17 ⟨by omega, by omega⟩ ⟨by omega, by omega⟩ ?_ ?_
      · intro h194
        refine wk_c1 r52_37 ?_
        subst hQ; exact wk_zret r52_38 (by decide) (⟨rfl, _, rfl, hP187, hF188, by omega, by omega, pr191, pr192, pr193⟩)
      · intro h195
        refine wk_al0 r52_20 (wk_il1 r52_21 (wk_il2 r52_22 (wk_cv3 r52_23 kc_739_101 rfl (n9101_739 _ M186 p1 v183 x739_13 x739_21 hP187 (by first | with_reducible assumption | omega) (by first | with_reducible assumption | omega) (by first | with_reducible assumption | omega) (by first | with_reducible assumption | omega) e189 (by first | with_reducible assumption | omega) (by first | with_reducible assumption | omega) e190 (by first | with_reducible assumption | omega) (by first | with_reducible assumption | omega) (by omega) pr191 pr192) (cqI ?_))))
        rintro v203 M196 ⟨hP197, hQ198, h204, h205, pr200, pr201, pr202⟩
        have hF199 : Fr fm_n9052_739 M0 M196 := hF188.tr hQ198 rfl
        have pr206 : WPe M196 M0 := WPe_tr pr202 pr193
        refine wk_ifeq r52_26 ⟨by omega, by omega⟩ ?_ ?_
        · intro h207
          refine wk_inc2 r52_31 rfl (wk_goto r52_34 ?_)
          exact wp_fg (le_s (le_s (le_s le_0))) (ih209 (10 - (v183 + 1)).toNat (by omega) M196 (v183 + 1) rfl hP197 hF199 ((hQ198.at g_739_13 rfl).trans e189) ((hQ198.at g_739_21 rfl).trans e190) (by first | with_reducible assumption | omega) (by first | with_reducible assumption | omega) pr200 pr201 pr206)
        · intro h208
          refine wk_c1 r52_29 ?_
          subst hQ; exact wk_zret r52_30 (by decide) (⟨rfl, _, rfl, hP197, hF199, by omega, by omega, pr200, pr201, pr206⟩)
    exact wp_fg (le_s (le_s (le_s le_0))) (c12_209 _ M0 0 rfl hP0 hF0 ex739_13 ex739_21 (by first | with_reducible assumption | omega) (by first | with_reducible assumption | omega) pp_WS pp_QW (WPe_rf M0))
  · intro h210
    refine wk_c1 r52_8 ?_
    subst hQ; exact wk_zret r52_9 (by decide) (⟨rfl, _, rfl, hP0, hF0, by omega, by omega, pp_WS, pp_QW, (WPe_rf M0)⟩)
def fm_n9100_739 : Nat := 407082447148577451019825093006616715533593874014409940856097678692174553677824
/-- IslandHallModel.leadsToOne -/
theorem n9100_739 {B : eB} (d : Nat) (M0 : Mm) (p1 : Int) (p2 : Int) (x739_13 : Int) (x739_21 : Int) (hP0 : Pw M0) (l1 : 0 ≤ p1) (u1 : p1 ≤ 1) (l2 : 0 ≤ p2) (u2 : p2 ≤ 9) (ex739_13 : M0 739 13 = x739_13) (lx739_13 : 0 ≤ x739_13) (ux739_13 : x739_13 ≤ 30) (ex739_21 : M0 739 21 = x739_21) (lx739_21 : 0 ≤ x739_21) (ux739_21 : x739_21 ≤ 10) (rp0 : 0 ≤ x739_21 + (-1) * p2 + (-1)) (pp_WS : WS M0) (pp_QW : QW M0) : Ct B (d + 9) 100 [R 739, I p1, I p2] M0 (qI fun z M => Pw M ∧ Fr fm_n9100_739 M0 M ∧ 0 ≤ z ∧ z ≤ 1 ∧ (WS M) ∧ (QW M) ∧ (WPe M M0)) := by
  refine ct_of (d := d + 8) (k := 1) (L := [some (R 739), some (I p1), some (I p2), none]) rfl rfl rfl ?_
  have hF0 := Fr.rf fm_n9100_739 M0
  generalize hQ : (qI fun z M => Pw M ∧ Fr fm_n9100_739 M0 M ∧ 0 ≤ z ∧ z ≤ 1 ∧ (WS M) ∧ (QW M) ∧ (WPe M M0)) = Q
  refine wk_c1 r100_0 (wk_is3 r100_1 rfl ?_)
  have c2_145 : ∀ (k145 : Nat) (M110 : Mm) (v107 : Int), (2 - v107).toNat = k145 → Pw M110 → Fr fm_n9100_739 M0 M110 → M110 739 13 = x739_13 → M110 739 21 = x739_21 → 0 ≤ v107 → v107 ≤ 2 → (WS M110) → (QW M110) → (WPe M110 M0) → Wp B (d + 8) 100 2 [some (R 739), some (I p1), some (I p2), some (I v107)] [] M110 Q := by
    refine lp_ind ?_
    intro k145 ih145 M110 v107 hk145 hP111 hF112 e113 e114 h108 h109 pr115 pr116 pr117
    refine wk_il3 r100_2 (wk_c1 r100_3 ?_)
    refine wk_icge r100_4 ⟨by omega, by omega⟩ (by decide) ?_ ?_
    · intro h118
      refine wk_c1 r100_32 ?_
      subst hQ; exact wk_zret r100_33 (by decide) (⟨rfl, _, rfl, hP111, hF112, by omega, by omega, pr115, pr116, pr117⟩)
    · intro h119
      refine wk_al0 r100_7 (wk_il1 r100_8 (wk_il2 r100_9 (wk_il3 r100_10 ?_)))
      obtain ⟨v120, e121⟩ : ∃ v, M110 739 15 = v := ⟨_, rfl⟩
      have h122 := (bf_739_15 hP111).1; rw [e121] at h122
      have h123 := (bf_739_15 hP111).2; rw [e121] at h123
      refine wk_cv4 r100_11 kc_739_77 rfl (n9077_739 _ M110 p1 p2 v107 x739_13 x739_21 v120 hP111 (by first | with_reducible assumption | omega) (by first | with_reducible assumption | omega) (by first | with_reducible assumption | omega) (by first | with_reducible assumption | omega) (by first | with_reducible assumption | omega) (by first | with_reducible assumption | omega) e113 (by first | with_reducible assumption | omega) (by first | with_reducible assumption | omega) e114 (by first | with_reducible assumption | omega) (by first | with_reducible assumption | omega) e121 (by first | with_reducible assumption | omega) (by first | with_reducible assumption | omega) (by omega) pr115 pr116) (cqV ?_)
      rintro M124 ⟨hP125, hQ126, pr128, pr129, pr130⟩
      have hF127 : Fr fm_n9100_739 M0 M124 := hF112.tr hQ126 rfl
      have pr131 : WPe M124 M0 := WPe_tr pr130 pr117
      refine wk_al0 r100_14 (wk_il1 r100_15 (wk_c1 r100_16 (wk_iadd r100_17 (wk_cv2 r100_18 kc_739_52 rfl (n9052_739 _ M124 (p1 + 1) x739_13 x739_21 hP125 (by first | with_reducible assumption | omega) (by first | with_reducible assumption | omega) ((hQ126.at g_739_13 rfl).trans e113) (by first | with_reducible assumption | omega) (by first | with_reducible assumption | omega) ((hQ126.at g_739_21 rfl).trans e114) (by first | with_reducible assumption | omega) (by first | with_reducible assumption | omega) pr128 pr129) (cqI ?_)))))
      rintro v139 M132 ⟨hP133, hQ134, h140, h141, pr136, pr137, pr138⟩
      have hF135 : Fr fm_n9100_739 M0 M132 := hF127.tr hQ134 rfl
      have pr142 : WPe M132 M0 := WPe_tr pr138 pr131
      refine wk_ifne r100_21 ⟨by omega, by omega⟩ ?_ ?_
      · intro h143
        refine wk_inc3 r100_26 rfl (wk_goto r100_29 ?_)
        exact wp_fg (le_s (le_s (le_s (le_s le_0)))) (ih145 (2 - (v107 + 1)).toNat (by omega) M132 (v107 + 1) rfl hP133 hF135 ((hQ134.at g_739_13 rfl).trans ((hQ126.at g_739_13 rfl).trans e113)) ((hQ134.at g_739_21 rfl).trans ((hQ126.at g_739_21 rfl).trans e114)) (by first | with_reducible assumption | omega) (by first | with_reducible assumption | omega) pr136 pr137 pr142)
      · intro h144
        refine wk_c1 r100_24 ?_
        subst hQ; exact wk_zret r100_25 (by decide) (⟨rfl, _, rfl, hP133, hF135, by omega, by omega, pr136, pr137, pr142⟩)
  exact wp_fg (le_s (le_s (le_s (le_s le_0)))) (c2_145 _ M0 0 rfl hP0 hF0 ex739_13 ex739_21 (by first | with_reducible assumption | omega) (by first | with_reducible assumption | omega) pp_WS pp_QW (WPe_rf M0))
def fm_n9053_739 : Nat := 407082447148577451019825093006616715533593874014409940856097678692174553677824
/-- IslandHallModel.byTwo -/
theorem n9053_739 {B : eB} (d : Nat) (M0 : Mm) (p1 : Int) (x739_13 : Int) (x739_21 : Int) (hP0 : Pw M0) (l1 : 0 ≤ p1) (u1 : p1 ≤ 1) (ex739_13 : M0 739 13 = x739_13) (lx739_13 : 0 ≤ x739_13) (ux739_13 : x739_13 ≤ 30) (ex739_21 : M0 739 21 = x739_21) (lx739_21 : 0 ≤ x739_21) (ux739_21 : x739_21 ≤ 10) (pp_WS : WS M0) (pp_QW : QW M0) : Ct B (d + 10) 53 [R 739, I p1] M0 (qI fun z M => Pw M ∧ Fr fm_n9053_739 M0 M ∧ 0 ≤ z ∧ z ≤ 1 ∧ (WS M) ∧ (QW M) ∧ (WPe M M0)) := by
  refine ct_of (d := d + 9) (k := 1) (L := [some (R 739), some (I p1), none]) rfl rfl rfl ?_
  have hF0 := Fr.rf fm_n9053_739 M0
  generalize hQ : (qI fun z M => Pw M ∧ Fr fm_n9053_739 M0 M ∧ 0 ≤ z ∧ z ≤ 1 ∧ (WS M) ∧ (QW M) ∧ (WPe M M0)) = Q
  refine wk_al0 r53_0 (wk_il1 r53_1 (wk_cv2 r53_2 kc_739_89 rfl (m9089_739 _ M0 p1 hP0 (by first | with_reducible assumption | omega) (by first | with_reducible assumption | omega)) (cqI ?_)))
  rintro v5 M1 ⟨hP2, hQ3, h6, h7⟩
  obtain rfl := Fr.same hQ3
  refine wk_ifeq r53_5 ⟨by omega, by omega⟩ ?_ ?_
  · intro h8
    refine wk_c1 r53_10 (wk_is2 r53_11 rfl ?_)
    have c12_209 : ∀ (k209 : Nat) (M186 : Mm) (v183 : Int), (10 - v183).toNat = k209 → Pw M186 → Fr fm_n9053_739 M0 M186 → M186 739 13 = x739_13 → M186 739 21 = x739_21 → 0 ≤ v183 → v183 ≤ 10 → (WS M186) → (QW M186) → (WPe M186 M0) → Wp B (d + 9) 53 12 [some (R 739), some (I p1), some (I v183)] [] M186 Q := by
      refine lp_ind ?_
      intro k209 ih209 M186 v183 hk209 hP187 hF188 e189 e190 h184 h185 pr191 pr192 pr193
      refine wk_il2 r53_12 (wk_al0 r53_13 (wk_getfi r53_14 fd_739_21 e190 ?_))
      refine wk_icge r53_17 ⟨by omega, by omega⟩ ⟨by omega, by omega⟩ ?_ ?_
      · intro h194
        refine wk_c1 r53_37 ?_
        subst hQ; exact wk_zret r53_38 (by decide) (⟨rfl, _, rfl, hP187, hF188, by omega, by omega, pr191, pr192, pr193⟩)
      · intro h195
        refine wk_al0 r53_20 (wk_il1 r53_21 (wk_il2 r53_22 (wk_cv3 r53_23 kc_739_100 rfl (n9100_739 _ M186 p1 v183 x739_13 x739_21 hP187 (by first | with_reducible assumption | omega) (by first | with_reducible assumption | omega) (by first | with_reducible assumption | omega) (by first | with_reducible assumption | omega) e189 (by first | with_reducible assumption | omega) (by first | with_reducible assumption | omega) e190 (by first | with_reducible assumption | omega) (by first | with_reducible assumption | omega) (by omega) pr191 pr192) (cqI ?_))))
        rintro v203 M196 ⟨hP197, hQ198, h204, h205, pr200, pr201, pr202⟩
        have hF199 : Fr fm_n9053_739 M0 M196 := hF188.tr hQ198 rfl
        have pr206 : WPe M196 M0 := WPe_tr pr202 pr193
        refine wk_ifeq r53_26 ⟨by omega, by omega⟩ ?_ ?_
        · intro h207
          refine wk_inc2 r53_31 rfl (wk_goto r53_34 ?_)
          exact wp_fg (le_s (le_s (le_s le_0))) (ih209 (10 - (v183 + 1)).toNat (by omega) M196 (v183 + 1) rfl hP197 hF199 ((hQ198.at g_739_13 rfl).trans e189) ((hQ198.at g_739_21 rfl).trans e190) (by first | with_reducible assumption | omega) (by first | with_reducible assumption | omega) pr200 pr201 pr206)
        · intro h208
          refine wk_c1 r53_29 ?_
          subst hQ; exact wk_zret r53_30 (by decide) (⟨rfl, _, rfl, hP197, hF199, by omega, by omega, pr200, pr201, pr206⟩)
    exact wp_fg (le_s (le_s (le_s le_0))) (c12_209 _ M0 0 rfl hP0 hF0 ex739_13 ex739_21 (by first | with_reducible assumption | omega) (by first | with_reducible assumption | omega) pp_WS pp_QW (WPe_rf M0))
  · intro h210
    refine wk_c1 r53_8 ?_
    subst hQ; exact wk_zret r53_9 (by decide) (⟨rfl, _, rfl, hP0, hF0, by omega, by omega, pp_WS, pp_QW, (WPe_rf M0)⟩)
def fm_n9102_739 : Nat := 407082447148577451019825093006616715533593874014409940856097678692174553677824
/-- IslandHallModel.leadsToTwo -/
theorem n9102_739 {B : eB} (d : Nat) (M0 : Mm) (p1 : Int) (x739_13 : Int) (x739_21 : Int) (hP0 : Pw M0) (l1 : 0 ≤ p1) (u1 : p1 ≤ 9) (ex739_13 : M0 739 13 = x739_13) (lx739_13 : 0 ≤ x739_13) (ux739_13 : x739_13 ≤ 30) (ex739_21 : M0 739 21 = x739_21) (lx739_21 : 0 ≤ x739_21) (ux739_21 : x739_21 ≤ 10) (rp0 : 0 ≤ x739_21 + (-1) * p1 + (-1)) (pp_WS : WS M0) (pp_QW : QW M0) : Ct B (d + 11) 102 [R 739, I p1] M0 (qI fun z M => Pw M ∧ Fr fm_n9102_739 M0 M ∧ 0 ≤ z ∧ z ≤ 1 ∧ (WS M) ∧ (QW M) ∧ (WPe M M0)) := by
  refine ct_of (d := d + 10) (k := 1) (L := [some (R 739), some (I p1), none]) rfl rfl rfl ?_
  have hF0 := Fr.rf fm_n9102_739 M0
  generalize hQ : (qI fun z M => Pw M ∧ Fr fm_n9102_739 M0 M ∧ 0 ≤ z ∧ z ≤ 1 ∧ (WS M) ∧ (QW M) ∧ (WPe M M0)) = Q
  refine wk_c1 r102_0 (wk_is2 r102_1 rfl ?_)
  have c2_145 : ∀ (k145 : Nat) (M110 : Mm) (v107 : Int), (2 - v107).toNat = k145 → Pw M110 → Fr fm_n9102_739 M0 M110 → M110 739 13 = x739_13 → M110 739 21 = x739_21 → 0 ≤ v107 → v107 ≤ 2 → (WS M110) → (QW M110) → (WPe M110 M0) → Wp B (d + 10) 102 2 [some (R 739), some (I p1), some (I v107)] [] M110 Q := by
    refine lp_ind ?_
    intro k145 ih145 M110 v107 hk145 hP111 hF112 e113 e114 h108 h109 pr115 pr116 pr117
    refine wk_il2 r102_2 (wk_c1 r102_3 ?_)
    refine wk_icge r102_4 ⟨by omega, by omega⟩ (by decide) ?_ ?_
    · intro h118
      refine wk_c1 r102_30 ?_
      subst hQ; exact wk_zret r102_31 (by decide) (⟨rfl, _, rfl, hP111, hF112, by omega, by omega, pr115, pr116, pr117⟩)
    · intro h119
      refine wk_al0 r102_7 (wk_c1 r102_8 (wk_il1 r102_9 (wk_il2 r102_10 ?_)))
      obtain ⟨v120, e121⟩ : ∃ v, M110 739 15 = v := ⟨_, rfl⟩
      have h122 := (bf_739_15 hP111).1; rw [e121] at h122
      have h123 := (bf_739_15 hP111).2; rw [e121] at h123
      refine wk_cv4 r102_11 kc_739_77 rfl (n9077_739 _ M110 0 p1 v107 x739_13 x739_21 v120 hP111 (by decide) (by decide) (by first | with_reducible assumption | omega) (by first | with_reducible assumption | omega) (by first | with_reducible assumption | omega) (by first | with_reducible assumption | omega) e113 (by first | with_reducible assumption | omega) (by first | with_reducible assumption | omega) e114 (by first | with_reducible assumption | omega) (by first | with_reducible assumption | omega) e121 (by first | with_reducible assumption | omega) (by first | with_reducible assumption | omega) (by omega) pr115 pr116) (cqV ?_)
      rintro M124 ⟨hP125, hQ126, pr128, pr129, pr130⟩
      have hF127 : Fr fm_n9102_739 M0 M124 := hF112.tr hQ126 rfl
      have pr131 : WPe M124 M0 := WPe_tr pr130 pr117
      refine wk_al0 r102_14 (wk_c1 r102_15 (wk_cv2 r102_16 kc_739_53 rfl (n9053_739 _ M124 1 x739_13 x739_21 hP125 (by decide) (by decide) ((hQ126.at g_739_13 rfl).trans e113) (by first | with_reducible assumption | omega) (by first | with_reducible assumption | omega) ((hQ126.at g_739_21 rfl).trans e114) (by first | with_reducible assumption | omega) (by first | with_reducible assumption | omega) pr128 pr129) (cqI ?_)))
      rintro v139 M132 ⟨hP133, hQ134, h140, h141, pr136, pr137, pr138⟩
      have hF135 : Fr fm_n9102_739 M0 M132 := hF127.tr hQ134 rfl
      have pr142 : WPe M132 M0 := WPe_tr pr138 pr131
      refine wk_ifne r102_19 ⟨by omega, by omega⟩ ?_ ?_
      · intro h143
        refine wk_inc2 r102_24 rfl (wk_goto r102_27 ?_)
        exact wp_fg (le_s (le_s (le_s le_0))) (ih145 (2 - (v107 + 1)).toNat (by omega) M132 (v107 + 1) rfl hP133 hF135 ((hQ134.at g_739_13 rfl).trans ((hQ126.at g_739_13 rfl).trans e113)) ((hQ134.at g_739_21 rfl).trans ((hQ126.at g_739_21 rfl).trans e114)) (by first | with_reducible assumption | omega) (by first | with_reducible assumption | omega) pr136 pr137 pr142)
      · intro h144
        refine wk_c1 r102_22 ?_
        subst hQ; exact wk_zret r102_23 (by decide) (⟨rfl, _, rfl, hP133, hF135, by omega, by omega, pr136, pr137, pr142⟩)
  exact wp_fg (le_s (le_s (le_s le_0))) (c2_145 _ M0 0 rfl hP0 hF0 ex739_13 ex739_21 (by first | with_reducible assumption | omega) (by first | with_reducible assumption | omega) pp_WS pp_QW (WPe_rf M0))
def fm_n9099_739 : Nat := 407082447148577451019825093006616715533593874014409940856097678692174553677824
/-- IslandHallModel.leads -/
theorem n9099_739 {B : eB} (d : Nat) (M0 : Mm) (p1 : Int) (p2 : Int) (x739_13 : Int) (x739_21 : Int) (hP0 : Pw M0) (l1 : 0 ≤ p1) (u1 : p1 ≤ 9) (l2 : 0 ≤ p2) (u2 : p2 ≤ 2) (ex739_13 : M0 739 13 = x739_13) (lx739_13 : 0 ≤ x739_13) (ux739_13 : x739_13 ≤ 30) (ex739_21 : M0 739 21 = x739_21) (lx739_21 : 0 ≤ x739_21) (ux739_21 : x739_21 ≤ 10) (rp0 : 0 ≤ x739_21 + (-1) * p1 + (-1)) (pp_WS : WS M0) (pp_QW : QW M0) : Ct B (d + 12) 99 [R 739, I p1, I p2] M0 (qI fun z M => Pw M ∧ Fr fm_n9099_739 M0 M ∧ 0 ≤ z ∧ z ≤ 1 ∧ (WS M) ∧ (QW M) ∧ (WPe M M0)) := by
  refine ct_of (d := d + 11) (k := 0) (L := [some (R 739), some (I p1), some (I p2)]) rfl rfl rfl ?_
  have hF0 := Fr.rf fm_n9099_739 M0
  generalize hQ : (qI fun z M => Pw M ∧ Fr fm_n9099_739 M0 M ∧ 0 ≤ z ∧ z ≤ 1 ∧ (WS M) ∧ (QW M) ∧ (WPe M M0)) = Q
  refine wk_il2 r99_0 ?_
  refine wk_ifne r99_1 ⟨by omega, by omega⟩ ?_ ?_
  · intro h1
    refine wk_il2 r99_13 (wk_c1 r99_14 ?_)
    refine wk_icne r99_15 ⟨by omega, by omega⟩ (by decide) ?_ ?_
    · intro h2
      refine wk_al0 r99_27 (wk_il1 r99_28 (wk_cv2 r99_29 kc_739_102 rfl (n9102_739 _ M0 p1 x739_13 x739_21 hP0 (by first | with_reducible assumption | omega) (by first | with_reducible assumption | omega) ex739_13 (by first | with_reducible assumption | omega) (by first | with_reducible assumption | omega) ex739_21 (by first | with_reducible assumption | omega) (by first | with_reducible assumption | omega) (by omega) pp_WS pp_QW) (cqI ?_)))
      rintro v10 M3 ⟨hP4, hQ5, h11, h12, pr7, pr8, pr9⟩
      have hF6 : Fr fm_n9099_739 M0 M3 := hF0.tr hQ5 rfl
      have pr13 : WPe M3 M0 := WPe_tr pr9 (WPe_rf M0)
      subst hQ; exact wk_zret r99_32 ⟨by omega, by omega⟩ (⟨rfl, _, rfl, hP4, hF6, by omega, by omega, pr7, pr8, pr13⟩)
    · intro h14
      refine wk_al0 r99_18 (wk_c1 r99_19 (wk_il1 r99_20 (wk_cv3 r99_21 kc_739_100 rfl (n9100_739 _ M0 0 p1 x739_13 x739_21 hP0 (by decide) (by decide) (by first | with_reducible assumption | omega) (by first | with_reducible assumption | omega) ex739_13 (by first | with_reducible assumption | omega) (by first | with_reducible assumption | omega) ex739_21 (by first | with_reducible assumption | omega) (by first | with_reducible assumption | omega) (by omega) pp_WS pp_QW) (cqI ?_))))
      rintro v22 M15 ⟨hP16, hQ17, h23, h24, pr19, pr20, pr21⟩
      have hF18 : Fr fm_n9099_739 M0 M15 := hF0.tr hQ17 rfl
      have pr25 : WPe M15 M0 := WPe_tr pr21 (WPe_rf M0)
      refine wk_goto r99_24 ?_
      subst hQ; exact wk_zret r99_32 ⟨by omega, by omega⟩ (⟨rfl, _, rfl, hP16, hF18, by omega, by omega, pr19, pr20, pr25⟩)
  · intro h26
    refine wk_al0 r99_4 (wk_c1 r99_5 (wk_il1 r99_6 (wk_cv3 r99_7 kc_739_101 rfl (n9101_739 _ M0 0 p1 x739_13 x739_21 hP0 (by decide) (by decide) (by first | with_reducible assumption | omega) (by first | with_reducible assumption | omega) ex739_13 (by first | with_reducible assumption | omega) (by first | with_reducible assumption | omega) ex739_21 (by first | with_reducible assumption | omega) (by first | with_reducible assumption | omega) (by omega) pp_WS pp_QW) (cqI ?_))))
    rintro v34 M27 ⟨hP28, hQ29, h35, h36, pr31, pr32, pr33⟩
    have hF30 : Fr fm_n9099_739 M0 M27 := hF0.tr hQ29 rfl
    have pr37 : WPe M27 M0 := WPe_tr pr33 (WPe_rf M0)
    refine wk_goto r99_10 ?_
    subst hQ; exact wk_zret r99_32 ⟨by omega, by omega⟩ (⟨rfl, _, rfl, hP28, hF30, by omega, by omega, pr31, pr32, pr37⟩)
def fm_n9071_739 : Nat := 407082447472096811025632770554312909676476665443685152588314812622665337012224
set_option maxHeartbeats 20000000 in
/-- IslandHallModel.fewest -/
theorem n9071_739 {B : eB} (d : Nat) (M0 : Mm) (p1 : Int) (x739_13 : Int) (x739_21 : Int) (x739_7 : Int) (hP0 : Pw M0) (l1 : (-2147483648) ≤ p1) (u1 : p1 ≤ 2147483647) (ex739_13 : M0 739 13 = x739_13) (lx739_13 : 0 ≤ x739_13) (ux739_13 : x739_13 ≤ 30) (ex739_21 : M0 739 21 = x739_21) (lx739_21 : 0 ≤ x739_21) (ux739_21 : x739_21 ≤ 10) (ex739_7 : M0 739 7 = x739_7) (lx739_7 : 0 ≤ x739_7) (ux739_7 : x739_7 ≤ 3000) (pp_WS : WS M0) (pp_QW : QW M0) : Ct B (d + 13) 71 [R 739, I p1] M0 (qI fun z M => Pw M ∧ Fr fm_n9071_739 M0 M ∧ (-2) ≤ z ∧ z ≤ 3 ∧ (WS M) ∧ (QW M) ∧ (WPe M M0)) := by
  refine ct_of (d := d + 12) (k := 2) (L := [some (R 739), some (I p1), none, none]) rfl rfl rfl ?_
  have hF0 := Fr.rf fm_n9071_739 M0
  generalize hQ : (qI fun z M => Pw M ∧ Fr fm_n9071_739 M0 M ∧ (-2) ≤ z ∧ z ≤ 3 ∧ (WS M) ∧ (QW M) ∧ (WPe M M0)) = Q
  refine wk_al0 r71_0 (wk_c1 r71_1 (wk_putfi81 r71_2 fd_739_0 (wk_nw g_739_0 rfl hP0 hF0 (uf_739_0 (by decide)) ?_)))
  intro M1 hP2 hF3 e4
  refine wk_al0 r71_5 (wk_il1 r71_6 ?_)
  refine wk_iflt r71_7 ⟨by omega, by omega⟩ ?_ ?_
  · intro h5
    refine wk_c1 r71_19 (wk_c1 r71_20 (wk_cv3 r71_21 kc_739_123 rfl (m9123_739 _ M1 0 1 0 hP2 (by decide) (by decide) (by decide) (by decide) (mUp_at e4) (by first | with_reducible assumption | omega) (by first | with_reducible assumption | omega)) (cqI ?_)))
    rintro v12 M6 ⟨hP7, hQ8, h13, h14, h10, xh11⟩
    have hF9 : Fr fm_n9071_739 M0 M6 := hF3.tr hQ8 rfl
    refine wk_ifne r71_24 ⟨by omega, by omega⟩ ?_ ?_
    · intro h15
      exfalso
      omega
    · intro h16
      refine wk_c1 r71_27 ?_
      subst hQ; exact wk_iret r71_28 (⟨rfl, _, rfl, hP7, hF9, by omega, by omega, (WS_sm (Sm.fr hQ8 rfl) (WS_sm (Sm.up e4 g_739_0 rfl) pp_WS)), (QW_sm (Sm.fr hQ8 rfl) (QW_sm (Sm.up e4 g_739_0 rfl) pp_QW)), (WPe_sm (Sm.fr hQ8 rfl) (WPe_sm (Sm.up e4 g_739_0 rfl) (WPe_rf M0)))⟩)
  · intro h17
    refine wk_il1 r71_10 (wk_c1 r71_11 ?_)
    refine wk_icgt r71_12 ⟨by omega, by omega⟩ (by decide) ?_ ?_
    · intro h18
      refine wk_c1 r71_19 (wk_c1 r71_20 (wk_cv3 r71_21 kc_739_123 rfl (m9123_739 _ M1 0 1 0 hP2 (by decide) (by decide) (by decide) (by decide) (mUp_at e4) (by first | with_reducible assumption | omega) (by first | with_reducible assumption | omega)) (cqI ?_)))
      rintro v25 M19 ⟨hP20, hQ21, h26, h27, h23, xh24⟩
      have hF22 : Fr fm_n9071_739 M0 M19 := hF3.tr hQ21 rfl
      refine wk_ifne r71_24 ⟨by omega, by omega⟩ ?_ ?_
      · intro h28
        exfalso
        omega
      · intro h29
        refine wk_c1 r71_27 ?_
        subst hQ; exact wk_iret r71_28 (⟨rfl, _, rfl, hP20, hF22, by omega, by omega, (WS_sm (Sm.fr hQ21 rfl) (WS_sm (Sm.up e4 g_739_0 rfl) pp_WS)), (QW_sm (Sm.fr hQ21 rfl) (QW_sm (Sm.up e4 g_739_0 rfl) pp_QW)), (WPe_sm (Sm.fr hQ21 rfl) (WPe_sm (Sm.up e4 g_739_0 rfl) (WPe_rf M0)))⟩)
    · intro h30
      refine wk_c1 r71_15 (wk_goto r71_16 (wk_c1 r71_20 (wk_cv3 r71_21 kc_739_123 rfl (m9123_739v1 _ M1 1 1 0 hP2 (by decide) (by decide) (by decide) (by decide) (mUp_at e4) (by first | with_reducible assumption | omega) (by first | with_reducible assumption | omega)) (cqI ?_))))
      rintro v37 M31 ⟨hP32, hQ33, h38, h39, h35, xh36⟩
      obtain rfl := Fr.same hQ33
      refine wk_ifne r71_24 ⟨by omega, by omega⟩ ?_ ?_
      · intro h40
        replace h35 := h35 (z1_of h38 h39 h40)
        refine wk_al0 r71_29 (wk_cv1 r71_30 kc_739_74 rfl (m9074_739 _ M1 x739_7 hP2 (mUp_no e4 ex739_7 (Or.inr (by decide))) (by first | with_reducible assumption | omega) (by first | with_reducible assumption | omega)) (cqI ?_))
        rintro v46 M41 ⟨hP42, hQ43, h47, h48, xh45⟩
        obtain rfl := Fr.same hQ43
        refine wk_c2 r71_33 ?_
        refine wk_icle r71_35 ⟨by omega, by omega⟩ (by decide) ?_ ?_
        · intro h49
          have hfz := xh45; rw [show (fun k => M1 752 k) = (fun k => M0 752 k) from funext fun k => hF3.at (ga_752 k) rfl, show AL M1 = AL M0 by unfold AL; rw [hF3.at g_739_15 rfl]] at hfz
          refine wk_al0 r71_41 (wk_il1 r71_42 (wk_putfi81 r71_43 fd_739_63 (wk_nw g_739_63 rfl hP2 hF3 (uf_739_63 ⟨by omega, by omega⟩) ?_)))
          intro M50 hP51 hF52 e53
          refine wk_al0 r71_46 (wk_getfr r71_47 fd_739_62 (br_739_62 hP51) (wk_c1 r71_50 (wk_c1 r71_51 (wk_iast r71_52 ar_766 (by decide) (wk_nw (ga_766 _) rfl hP51 hF52 (ua_766 (by decide)) ?_)))))
          intro M54 hP55 hF56 e57
          refine wk_c1 r71_53 (wk_is2 r71_54 rfl ?_)
          have c55_1697 : ∀ (k1697 : Nat) (M1577 : Mm) (v1574 : Int), (3000 - v1574).toNat = k1697 → Pw M1577 → Fr fm_n9071_739 M0 M1577 → M1577 739 13 = x739_13 → M1577 739 21 = x739_21 → M1577 739 7 = x739_7 → M1577 739 0 = 0 → M1577 739 63 = p1 → 0 ≤ v1574 → v1574 ≤ 3000 → (WS M1577) → (QW M1577) → (WPe M1577 M0) → 0 ≤ (-1) * v1574 + x739_7 → 0 ≤ v1574 → (M1577 766 0 = cnF (fun k => M0 752 k) (AL M0) (v1574).toNat) → Wp B (d + 12) 71 55 [some (R 739), none, some (I v1574), none] [] M1577 Q := by
            refine lp_ind ?_
            intro k1697 ih1697 M1577 v1574 hk1697 hP1578 hF1579 e1580 e1581 e1582 e1583 e1584 h1575 h1576 pr1585 pr1586 pr1587 h1588 h1589 ti1590
            refine wk_il2 r71_55 (wk_al0 r71_56 (wk_getfi r71_57 fd_739_7 e1582 ?_))
            refine wk_icge r71_60 ⟨by omega, by omega⟩ ⟨by omega, by omega⟩ ?_ ?_
            · intro h1591
              refine wk_al0 r71_119 (wk_c1 r71_120 (wk_cv2 r71_121 kc_739_89 rfl (m9089_739 _ M1577 0 hP1578 (by decide) (by decide)) (cqI ?_)))
              rintro v1596 M1592 ⟨hP1593, hQ1594, h1597, h1598⟩
              obtain rfl := Fr.same hQ1594
              refine wk_ifeq r71_124 ⟨by omega, by omega⟩ ?_ ?_
              · intro h1599
                refine wk_c1 r71_134 (wk_is2 r71_135 rfl ?_)
                have c136_1650 : ∀ (k1650 : Nat) (M1603 : Mm) (v1600 : Int), (4 - v1600).toNat = k1650 → Pw M1603 → Fr fm_n9071_739 M0 M1603 → M1603 739 13 = x739_13 → M1603 739 21 = x739_21 → M1603 739 7 = x739_7 → M1603 739 0 = 0 → M1603 739 63 = p1 → 1 ≤ v1600 → v1600 ≤ 4 → (WS M1603) → (QW M1603) → (WPe M1603 M0) → Wp B (d + 12) 71 136 [some (R 739), none, some (I v1600), none] [] M1603 Q := by
                  refine lp_ind ?_
                  intro k1650 ih1650 M1603 v1600 hk1650 hP1604 hF1605 e1606 e1607 e1608 e1609 e1610 h1601 h1602 pr1611 pr1612 pr1613
                  refine wk_il2 r71_136 (wk_c1 r71_137 ?_)
                  refine wk_icgt r71_138 ⟨by omega, by omega⟩ (by decide) ?_ ?_
                  · intro h1614
                    refine wk_c1 r71_184 ?_
                    subst hQ; exact wk_iret r71_185 (⟨rfl, _, rfl, hP1604, hF1605, by omega, by omega, pr1611, pr1612, pr1613⟩)
                  · intro h1615
                    refine wk_c1 r71_141 (wk_is3 r71_142 rfl ?_)
                    have c143_1649 : ∀ (k1649 : Nat) (M1619 : Mm) (v1616 : Int), (10 - v1616).toNat = k1649 → Pw M1619 → Fr fm_n9071_739 M0 M1619 → M1619 739 13 = x739_13 → M1619 739 21 = x739_21 → M1619 739 7 = x739_7 → M1619 739 0 = 0 → M1619 739 63 = p1 → 0 ≤ v1616 → v1616 ≤ 10 → (WS M1619) → (QW M1619) → (WPe M1619 M0) → Wp B (d + 12) 71 143 [some (R 739), none, some (I v1600), some (I v1616)] [] M1619 Q := by
                      refine lp_ind ?_
                      intro k1649 ih1649 M1619 v1616 hk1649 hP1620 hF1621 e1622 e1623 e1624 e1625 e1626 h1617 h1618 pr1627 pr1628 pr1629
                      refine wk_il3 r71_143 (wk_al0 r71_144 (wk_getfi r71_145 fd_739_21 e1623 ?_))
                      refine wk_icge r71_148 ⟨by omega, by omega⟩ ⟨by omega, by omega⟩ ?_ ?_
                      · intro h1630
                        refine wk_inc2 r71_178 rfl (wk_goto r71_181 ?_)
                        exact wp_fg (le_s (le_s (le_s (le_n le_0)))) (ih1650 (4 - (v1600 + 1)).toNat (by omega) M1619 (v1600 + 1) rfl hP1620 hF1621 e1622 e1623 e1624 e1625 e1626 (by first | with_reducible assumption | omega) (by first | with_reducible assumption | omega) pr1627 pr1628 pr1629)
                      · intro h1631
                        refine wk_al0 r71_151 (wk_il3 r71_152 (wk_il2 r71_153 (wk_c1 r71_154 (wk_isub r71_155 (wk_cv3 r71_156 kc_739_99 rfl (n9099_739 _ M1619 v1616 (v1600 - 1) x739_13 x739_21 hP1620 (by first | with_reducible assumption | omega) (by first | with_reducible assumption | omega) (by first | with_reducible assumption | omega) (by first | with_reducible assumption | omega) e1622 (by first | with_reducible assumption | omega) (by first | with_reducible assumption | omega) e1623 (by first | with_reducible assumption | omega) (by first | with_reducible assumption | omega) (by omega) pr1627 pr1628) (cqI ?_))))))
                        rintro v1639 M1632 ⟨hP1633, hQ1634, h1640, h1641, pr1636, pr1637, pr1638⟩
                        have hF1635 : Fr fm_n9071_739 M0 M1632 := hF1621.tr hQ1634 rfl
                        have pr1642 : WPe M1632 M0 := WPe_tr pr1638 pr1629
                        refine wk_ifne r71_159 ⟨by omega, by omega⟩ ?_ ?_
                        · intro h1643
                          refine wk_al0 r71_165 (wk_il3 r71_166 (wk_putfi81 r71_167 fd_739_64 (wk_nw g_739_64 rfl hP1633 hF1635 (uf_739_64 ⟨by omega, by omega⟩) ?_)))
                          intro M1644 hP1645 hF1646 e1647
                          refine wk_il2 r71_170 ?_
                          subst hQ; exact wk_iret r71_171 (⟨rfl, _, rfl, hP1645, hF1646, by omega, by omega, (WS_sm (Sm.up e1647 g_739_64 rfl) pr1636), (QW_sm (Sm.up e1647 g_739_64 rfl) pr1637), (WPe_sm (Sm.up e1647 g_739_64 rfl) pr1642)⟩)
                        · intro h1648
                          refine wk_goto r71_162 (wk_inc3 r71_172 rfl (wk_goto r71_175 ?_))
                          exact wp_fg (le_s (le_s (le_s (le_s le_0)))) (ih1649 (10 - (v1616 + 1)).toNat (by omega) M1632 (v1616 + 1) rfl hP1633 hF1635 ((hQ1634.at g_739_13 rfl).trans e1622) ((hQ1634.at g_739_21 rfl).trans e1623) ((hQ1634.at g_739_7 rfl).trans e1624) ((hQ1634.at g_739_0 rfl).trans e1625) ((hQ1634.at g_739_63 rfl).trans e1626) (by first | with_reducible assumption | omega) (by first | with_reducible assumption | omega) pr1636 pr1637 pr1642)
                    exact wp_fg (le_s (le_s (le_s (le_s le_0)))) (c143_1649 _ M1603 0 rfl hP1604 hF1605 e1606 e1607 e1608 e1609 e1610 (by first | with_reducible assumption | omega) (by first | with_reducible assumption | omega) pr1611 pr1612 pr1613)
                exact wp_fg (le_s (le_s (le_s (le_s le_0)))) (c136_1650 _ M1577 1 rfl hP1578 hF1579 e1580 e1581 e1582 e1583 e1584 (by first | with_reducible assumption | omega) (by first | with_reducible assumption | omega) pr1585 pr1586 pr1587)
              · intro h1651
                refine wk_al0 r71_127 (wk_c1 r71_128 (wk_putfi81 r71_129 fd_739_64 (wk_nw g_739_64 rfl hP1578 hF1579 (uf_739_64 (by decide)) ?_)))
                intro M1652 hP1653 hF1654 e1655
                refine wk_c1 r71_132 ?_
                subst hQ; exact wk_iret r71_133 (⟨rfl, _, rfl, hP1653, hF1654, by omega, by omega, (WS_sm (Sm.up e1655 g_739_64 rfl) pr1585), (QW_sm (Sm.up e1655 g_739_64 rfl) pr1586), (WPe_sm (Sm.up e1655 g_739_64 rfl) pr1587)⟩)
            · intro h1656
              refine wk_al0 r71_63 (wk_il2 r71_64 (wk_cv2 r71_65 kc_739_83 rfl (m9083_739 _ M1577 v1574 hP1578 (by first | with_reducible assumption | omega) (by first | with_reducible assumption | omega)) (cqI ?_)))
              rintro v1662 M1657 ⟨hP1658, hQ1659, h1663, h1664, xh1661⟩
              obtain rfl := Fr.same hQ1659
              refine wk_ifne r71_68 ⟨by omega, by omega⟩ ?_ ?_
              · intro h1665
                have hfi : M0 752 v1574 = AL M0 := by rcases xh1661 with ⟨q1, q2⟩ | ⟨q1, q2⟩; (rw [← hF1579.at (ga_752 _) rfl]; exact q2.trans (by unfold AL; rw [hF1579.at g_739_15 rfl])); (omega)
                have hfc := cnF_y (u := fun k => M0 752 k) (a := AL M0) (w := v1574) (by omega) hfi
                have hfd := cnF_le (u := fun k => M0 752 k) (a := AL M0) (w := v1574 + 1) (n := x739_7) (by omega)
                refine wk_al0 r71_74 (wk_getfr r71_75 fd_739_60 (br_739_60 hP1578) (wk_al0 r71_78 (wk_getfr r71_79 fd_739_62 (br_739_62 hP1578) (wk_c1 r71_82 (wk_ialdb r71_83 ar_766 (by decide) (fun q0 q1 => ba_766 hP1578 q0 q1) ?_)))))
                intro v1666 h1668 h1669 e1667
                have h1670 : v1666 ≤ 99 := by have q0 := ti1590; rw [e1667] at q0; omega
                refine wk_il2 r71_84 (wk_iast r71_85 ar_764 ⟨by omega, by omega⟩ (wk_nw (ga_764 _) rfl hP1578 hF1579 (ua_764 ⟨by omega, by omega⟩) ?_))
                intro M1671 hP1672 hF1673 e1674
                refine wk_al0 r71_86 (wk_getfr r71_87 fd_739_61 (br_739_61 hP1672) (wk_al0 r71_90 (wk_getfr r71_91 fd_739_62 (br_739_62 hP1672) (wk_c1 r71_94 (wk_ialdb r71_95 ar_766 (by decide) (fun q0 q1 => ba_766 hP1672 q0 q1) ?_)))))
                intro v1675 h1677 h1678 e1676
                refine wk_al0 r71_96 (wk_getfr r71_97 fd_739_19 (br_739_19 hP1672) (wk_il2 r71_100 (wk_ialdb r71_101 ar_751 ⟨by omega, by omega⟩ (fun q0 q1 => ba_751 hP1672 q0 q1) ?_)))
                intro v1679 h1681 h1682 e1680
                refine wk_iast r71_102 ar_765 ⟨by omega, by omega⟩ (wk_nw (ga_765 _) rfl hP1672 hF1673 (ua_765 ⟨by omega, by omega⟩) ?_)
                intro M1683 hP1684 hF1685 e1686
                refine wk_al0 r71_103 (wk_getfr r71_104 fd_739_62 (br_739_62 hP1684) (wk_c1 r71_107 (wk_dup2 r71_108 (wk_ialdb r71_109 ar_766 (by decide) (fun q0 q1 => ba_766 hP1684 q0 q1) ?_))))
                intro v1687 h1689 h1690 e1688
                have h1691 : v1687 ≤ 99 := by have q0 := (mUp_no e1686 (mUp_no e1674 ti1590 (Or.inl (by decide))) (Or.inl (by decide))); rw [e1688] at q0; omega
                refine wk_c1 r71_110 (wk_iadd r71_111 (wk_iast r71_112 ar_766 (by decide) (wk_nw (ga_766 _) rfl hP1684 hF1685 (ua_766 ⟨by omega, by omega⟩) ?_)))
                intro M1692 hP1693 hF1694 e1695
                refine wk_inc2 r71_113 rfl (wk_goto r71_116 ?_)
                exact wp_fg (le_s (le_s (le_s (le_s le_0)))) (ih1697 (3000 - (v1574 + 1)).toNat (by omega) M1692 (v1574 + 1) rfl hP1693 hF1694 (mUp_no e1695 (mUp_no e1686 (mUp_no e1674 e1580 (Or.inl (by decide))) (Or.inl (by decide))) (Or.inl (by decide))) (mUp_no e1695 (mUp_no e1686 (mUp_no e1674 e1581 (Or.inl (by decide))) (Or.inl (by decide))) (Or.inl (by decide))) (mUp_no e1695 (mUp_no e1686 (mUp_no e1674 e1582 (Or.inl (by decide))) (Or.inl (by decide))) (Or.inl (by decide))) (mUp_no e1695 (mUp_no e1686 (mUp_no e1674 e1583 (Or.inl (by decide))) (Or.inl (by decide))) (Or.inl (by decide))) (mUp_no e1695 (mUp_no e1686 (mUp_no e1674 e1584 (Or.inl (by decide))) (Or.inl (by decide))) (Or.inl (by decide))) (by first | with_reducible assumption | omega) (by first | with_reducible assumption | omega) (WS_sm (Sm.up e1695 (ga_766 _) rfl) (WS_sm (Sm.up e1686 (ga_765 _) rfl) (WS_sm (Sm.up e1674 (ga_764 _) rfl) pr1585))) (QW_sm (Sm.up e1695 (ga_766 _) rfl) (QW_sm (Sm.up e1686 (ga_765 _) rfl) (QW_sm (Sm.up e1674 (ga_764 _) rfl) pr1586))) (WPe_sm (Sm.up e1695 (ga_766 _) rfl) (WPe_sm (Sm.up e1686 (ga_765 _) rfl) (WPe_sm (Sm.up e1674 (ga_764 _) rfl) pr1587))) (by first | with_reducible assumption | omega) (by first | with_reducible assumption | omega) (by rw [mUp_at e1695]; have q0 := (mUp_no e1686 (mUp_no e1674 ti1590 (Or.inl (by decide))) (Or.inl (by decide))); rw [e1688] at q0; omega))
              · intro h1696
                refine wk_goto r71_71 (wk_inc2 r71_113 rfl (wk_goto r71_116 ?_))
                exact wp_fg (le_s (le_s (le_s (le_s le_0)))) (ih1697 (3000 - (v1574 + 1)).toNat (by omega) M1577 (v1574 + 1) rfl hP1578 hF1579 e1580 e1581 e1582 e1583 e1584 (by first | with_reducible assumption | omega) (by first | with_reducible assumption | omega) pr1585 pr1586 pr1587 (by first | with_reducible assumption | omega) (by first | with_reducible assumption | omega) (by have hfn : M0 752 v1574 ≠ AL M0 := (by rcases xh1661 with ⟨q1, q2⟩ | ⟨q1, q2⟩; (omega); (intro q3; exact q2 ((hF1579.at (ga_752 _) rfl).trans (q3.trans (by unfold AL; rw [hF1579.at g_739_15 rfl]))))); rw [cnF_n (u := fun k => M0 752 k) (by omega) hfn]; exact ti1590))
          exact wp_fg (le_s (le_n (le_s (le_s le_0)))) (c55_1697 _ M54 0 rfl hP55 hF56 (mUp_no e57 (mUp_no e53 (mUp_no e4 ex739_13 (Or.inr (by decide))) (Or.inr (by decide))) (Or.inl (by decide))) (mUp_no e57 (mUp_no e53 (mUp_no e4 ex739_21 (Or.inr (by decide))) (Or.inr (by decide))) (Or.inl (by decide))) (mUp_no e57 (mUp_no e53 (mUp_no e4 ex739_7 (Or.inr (by decide))) (Or.inr (by decide))) (Or.inl (by decide))) (mUp_no e57 (mUp_no e53 (mUp_at e4) (Or.inr (by decide))) (Or.inl (by decide))) (mUp_no e57 (mUp_at e53) (Or.inl (by decide))) (by first | with_reducible assumption | omega) (by first | with_reducible assumption | omega) (WS_sm (Sm.up e57 (ga_766 _) rfl) (WS_sm (Sm.up e53 g_739_63 rfl) (WS_sm (Sm.up e4 g_739_0 rfl) pp_WS))) (QW_sm (Sm.up e57 (ga_766 _) rfl) (QW_sm (Sm.up e53 g_739_63 rfl) (QW_sm (Sm.up e4 g_739_0 rfl) pp_QW))) (WPe_sm (Sm.up e57 (ga_766 _) rfl) (WPe_sm (Sm.up e53 g_739_63 rfl) (WPe_sm (Sm.up e4 g_739_0 rfl) (WPe_rf M0)))) (by first | with_reducible assumption | omega) (by first | with_reducible assumption | omega) ((mUp_at e57).trans rfl))
        · intro h1698
          refine wk_c2 r71_38 ?_
          subst hQ; exact wk_iret r71_40 (⟨rfl, _, rfl, hP2, hF3, by omega, by omega, (WS_sm (Sm.up e4 g_739_0 rfl) pp_WS), (QW_sm (Sm.up e4 g_739_0 rfl) pp_QW), (WPe_sm (Sm.up e4 g_739_0 rfl) (WPe_rf M0))⟩)
      · intro h1699
        clear h35
        refine wk_c1 r71_27 ?_
        subst hQ; exact wk_iret r71_28 (⟨rfl, _, rfl, hP2, hF3, by omega, by omega, (WS_sm (Sm.up e4 g_739_0 rfl) pp_WS), (QW_sm (Sm.up e4 g_739_0 rfl) pp_QW), (WPe_sm (Sm.up e4 g_739_0 rfl) (WPe_rf M0))⟩)
