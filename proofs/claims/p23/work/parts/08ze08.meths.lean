/-! ===== written by program (wip/layer3/model.py): contracts of methods ===== -/
def fm_m9094_739 : Nat := 0
/-- IslandHallModel.kindOf -/
theorem m9094_739 {B : eB} (d : Nat) (M0 : Mm) (p1 : Int) (p2 : Int) (hP0 : Pw M0) (l1 : 0 ≤ p1) (u1 : p1 ≤ 2999) (l2 : 0 ≤ p2) (u2 : p2 ≤ 6) : Ct B (d + 1) 94 [R 739, I p1, I p2] M0 (qI fun z M => Pw M ∧ Fr fm_m9094_739 M0 M ∧ 0 ≤ z ∧ z ≤ 7) := by
  refine ct_of (d := d + 0) (k := 0) (L := [some (R 739), some (I p1), some (I p2)]) rfl rfl rfl ?_
  have hF0 := Fr.rf fm_m9094_739 M0
  generalize hQ : (qI fun z M => Pw M ∧ Fr fm_m9094_739 M0 M ∧ 0 ≤ z ∧ z ≤ 7) = Q
  refine wk_al0 r94_0 (wk_getfr r94_1 fd_739_8 (br_739_8 hP0) (wk_il1 r94_4 (wk_ialdb r94_5 ar_742 ⟨by omega, by omega⟩ (fun q0 q1 => ba_742 hP0 q0 q1) ?_)))
  intro v1 h3 h4 e2
  refine wk_c1 r94_6 (wk_il2 r94_7 (wk_imul r94_8 (wk_shrb r94_9 ⟨by omega, by omega⟩ ⟨by omega, by omega⟩ ?_)))
  intro v5 h6 h7 h8
  refine wk_c2 r94_10 (wk_iandc 3 8 r94_12 ⟨rfl, by decide⟩ rfl ?_)
  subst hQ; exact wk_iret r94_13 (⟨rfl, _, rfl, hP0, hF0, by omega, by omega⟩)
def fm_m9115 : Nat := 0
/-- IslandHallModel.one -/
theorem m9115 {B : eB} (d : Nat) (M0 : Mm) (p0 : Int) (hP0 : Pw M0) (l0 : 0 ≤ p0) (u0 : p0 ≤ 0) : Ct B (d + 1) 115 [I p0] M0 (qI fun z M => Pw M ∧ Fr fm_m9115 M0 M ∧ 0 ≤ z ∧ z ≤ 0) := by
  refine ct_of (d := d + 0) (k := 0) (L := [some (I p0)]) rfl rfl rfl ?_
  have hF0 := Fr.rf fm_m9115 M0
  generalize hQ : (qI fun z M => Pw M ∧ Fr fm_m9115 M0 M ∧ 0 ≤ z ∧ z ≤ 0) = Q
  refine wk_il0 r115_0 ?_
  refine wk_ifeq r115_1 ⟨by omega, by omega⟩ ?_ ?_
  · intro h1
    refine wk_c1 r115_8 ?_
    subst hQ; exact wk_iret r115_9 (⟨rfl, _, rfl, hP0, hF0, by omega, by omega⟩)
  · intro h2
    exfalso
    omega
def fm_m9115v1 : Nat := 0
/-- IslandHallModel.one -/
theorem m9115v1 {B : eB} (d : Nat) (M0 : Mm) (p0 : Int) (hP0 : Pw M0) (l0 : 0 ≤ p0) (u0 : p0 ≤ 1) : Ct B (d + 1) 115 [I p0] M0 (qI fun z M => Pw M ∧ Fr fm_m9115v1 M0 M ∧ 0 ≤ z ∧ z ≤ 1) := by
  refine ct_of (d := d + 0) (k := 0) (L := [some (I p0)]) rfl rfl rfl ?_
  have hF0 := Fr.rf fm_m9115v1 M0
  generalize hQ : (qI fun z M => Pw M ∧ Fr fm_m9115v1 M0 M ∧ 0 ≤ z ∧ z ≤ 1) = Q
  refine wk_il0 r115_0 ?_
  refine wk_ifeq r115_1 ⟨by omega, by omega⟩ ?_ ?_
  · intro h1
    refine wk_c1 r115_8 ?_
    subst hQ; exact wk_iret r115_9 (⟨rfl, _, rfl, hP0, hF0, by omega, by omega⟩)
  · intro h2
    refine wk_c1 r115_4 (wk_goto r115_5 ?_)
    subst hQ; exact wk_iret r115_9 (⟨rfl, _, rfl, hP0, hF0, by omega, by omega⟩)
def fm_m9109_739 : Nat := 0
/-- IslandHallModel.manyOf -/
theorem m9109_739 {B : eB} (d : Nat) (M0 : Mm) (p1 : Int) (p2 : Int) (hP0 : Pw M0) (l1 : 0 ≤ p1) (u1 : p1 ≤ 2999) (l2 : 0 ≤ p2) (u2 : p2 ≤ 127) : Ct B (d + 2) 109 [R 739, I p1, I p2] M0 (qI fun z M => Pw M ∧ Fr fm_m9109_739 M0 M ∧ 0 ≤ z ∧ z ≤ 7) := by
  refine ct_of (d := d + 1) (k := 2) (L := [some (R 739), some (I p1), some (I p2), none, none]) rfl rfl rfl ?_
  have hF0 := Fr.rf fm_m9109_739 M0
  generalize hQ : (qI fun z M => Pw M ∧ Fr fm_m9109_739 M0 M ∧ 0 ≤ z ∧ z ≤ 7) = Q
  refine wk_c1 r109_0 (wk_is3 r109_1 rfl (wk_c1 r109_2 (wk_is4 r109_3 rfl ?_)))
  have c5_134 : ∀ (k134 : Nat) (v112 : Int) (v115 : Int), (7 - v115).toNat = k134 → 0 ≤ v112 → v112 ≤ 7 → 0 ≤ v115 → v115 ≤ 7 → 0 ≤ (-1) * v112 + v115 + 0 → Wp B (d + 1) 109 5 [some (R 739), some (I p1), some (I p2), some (I v112), some (I v115)] [] M0 Q := by
    refine lp_ind ?_
    intro k134 ih134 v112 v115 hk134 h113 h114 h116 h117 h118
    refine wk_il4 r109_5 (wk_al0 r109_7 (wk_getfb r109_8 fd_739_1 (bf_739_1 hP0) ?_))
    intro v119 h121 h122 e120
    refine wk_icge r109_11 ⟨by omega, by omega⟩ ⟨by omega, by omega⟩ ?_ ?_
    · intro h123
      refine wk_il3 r109_39 ?_
      subst hQ; exact wk_iret r109_40 (⟨rfl, _, rfl, hP0, hF0, by omega, by omega⟩)
    · intro h124
      refine wk_il3 r109_14 (wk_al0 r109_15 (wk_il1 r109_16 (wk_il4 r109_17 (wk_cv3 r109_19 kc_739_94 rfl (m9094_739 _ M0 p1 v115 hP0 (by omega) (by omega) (by omega) (by omega)) (cqI ?_)))))
      rintro v129 M125 ⟨hP126, hQ127, h130, h131⟩
      obtain rfl := Fr.same hQ127
      refine wk_il2 r109_22 ?_
      refine wk_icne r109_23 ⟨by omega, by omega⟩ ⟨by omega, by omega⟩ ?_ ?_
      · intro h132
        refine wk_c1 r109_30 (wk_iadd r109_31 (wk_is3 r109_32 rfl (wk_inc4 r109_33 rfl (wk_goto r109_36 ?_))))
        exact wp_fg (le_s (le_s (le_s (le_s (le_s le_0))))) (ih134 (7 - (v115 + 1)).toNat (by omega) (v112 + 0) (v115 + 1) rfl (by first | assumption | omega) (by first | assumption | omega) (by first | assumption | omega) (by first | assumption | omega) (by first | assumption | omega))
      · intro h133
        refine wk_c1 r109_26 (wk_goto r109_27 (wk_iadd r109_31 (wk_is3 r109_32 rfl (wk_inc4 r109_33 rfl (wk_goto r109_36 ?_)))))
        exact wp_fg (le_s (le_s (le_s (le_s (le_s le_0))))) (ih134 (7 - (v115 + 1)).toNat (by omega) (v112 + 1) (v115 + 1) rfl (by first | assumption | omega) (by first | assumption | omega) (by first | assumption | omega) (by first | assumption | omega) (by first | assumption | omega))
  exact wp_fg (le_s (le_s (le_s (le_s (le_s le_0))))) (c5_134 _ 0 0 rfl (by first | assumption | omega) (by first | assumption | omega) (by first | assumption | omega) (by first | assumption | omega) (by first | assumption | omega))
def fm_m9048_739 : Nat := 0
/-- IslandHallModel.atomOf -/
theorem m9048_739 {B : eB} (d : Nat) (M0 : Mm) (p1 : Int) (p2 : Int) (p3 : Int) (p4 : Int) (p5 : Int) (p6 : Int) (hP0 : Pw M0) (l1 : 1 ≤ p1) (u1 : p1 ≤ 9) (l2 : 0 ≤ p2) (u2 : p2 ≤ 127) (l3 : 0 ≤ p3) (u3 : p3 ≤ 146) (l4 : 0 ≤ p4) (u4 : p4 ≤ 2999) (l5 : 0 ≤ p5) (u5 : p5 ≤ 15) (l6 : (-2147483648) ≤ p6) (u6 : p6 ≤ 2147483647) (xp0 : p1 = 1 → p2 ≤ 6) (xp1 : p1 = 2 → p2 ≤ 6 ∧ p3 ≤ 6) : Ct B (d + 3) 48 [R 739, I p1, I p2, I p3, I p4, I p5, I p6] M0 (qI fun z M => Pw M ∧ Fr fm_m9048_739 M0 M ∧ 0 ≤ z ∧ z ≤ 1) := by
  refine ct_of (d := d + 2) (k := 0) (L := [some (R 739), some (I p1), some (I p2), some (I p3), some (I p4), some (I p5), some (I p6)]) rfl rfl rfl ?_
  have hF0 := Fr.rf fm_m9048_739 M0
  generalize hQ : (qI fun z M => Pw M ∧ Fr fm_m9048_739 M0 M ∧ 0 ≤ z ∧ z ≤ 1) = Q
  refine wk_il1 r48_0 ?_
  refine wk_sw3 r48_1 ⟨by omega, by omega⟩ ?_ ?_ ?_ ?_ ?_ ?_ ?_ ?_ ?_
  · intro h1
    refine wk_il2 r48_214 (wk_il5 r48_215 ?_)
    refine wk_icge r48_217 ⟨by omega, by omega⟩ ⟨by omega, by omega⟩ ?_ ?_
    · intro h2
      refine wk_c1 r48_229 ?_
      subst hQ; exact wk_iret r48_230 (⟨rfl, _, rfl, hP0, hF0, by omega, by omega⟩)
    · intro h3
      refine wk_il6 r48_220 (wk_il2 r48_222 (wk_shrx r48_223 ⟨by omega, by omega⟩ ⟨by omega, by omega⟩ ?_))
      intro v4 h5 h6
      refine wk_c1 r48_224 (wk_iandc 1 2 r48_225 ⟨rfl, by decide⟩ rfl (wk_goto r48_226 ?_))
      subst hQ; exact wk_iret r48_230 (⟨rfl, _, rfl, hP0, hF0, by omega, by omega⟩)
  · intro h8
    have h9 : p2 ≤ 6 := xp0 (by omega)
    refine wk_al0 r48_48 (wk_il4 r48_49 (wk_il2 r48_51 (wk_cv3 r48_52 kc_739_94 rfl (m9094_739 _ M0 p4 p2 hP0 (by omega) (by omega) (by omega) (by omega)) (cqI ?_))))
    rintro v14 M10 ⟨hP11, hQ12, h15, h16⟩
    obtain rfl := Fr.same hQ12
    refine wk_il3 r48_55 ?_
    refine wk_icne r48_56 ⟨by omega, by omega⟩ ⟨by omega, by omega⟩ ?_ ?_
    · intro h17
      refine wk_c1 r48_63 (wk_cs102_1 r48_64 rfl (m9115 _ M0 0 hP0 (by decide) (by decide)) (cqI ?_))
      rintro v22 M18 ⟨hP19, hQ20, h23, h24⟩
      obtain rfl := Fr.same hQ20
      subst hQ; exact wk_iret r48_67 (⟨rfl, _, rfl, hP0, hF0, by omega, by omega⟩)
    · intro h25
      refine wk_c1 r48_59 (wk_goto r48_60 (wk_cs102_1 r48_64 rfl (m9115v1 _ M0 1 hP0 (by decide) (by decide)) (cqI ?_)))
      rintro v30 M26 ⟨hP27, hQ28, h31, h32⟩
      obtain rfl := Fr.same hQ28
      subst hQ; exact wk_iret r48_67 (⟨rfl, _, rfl, hP0, hF0, by omega, by omega⟩)
  · intro h33
    have h34 : p2 ≤ 6 ∧ p3 ≤ 6 := xp1 (by omega)
    refine wk_al0 r48_68 (wk_il4 r48_69 (wk_il2 r48_71 (wk_cv3 r48_72 kc_739_94 rfl (m9094_739 _ M0 p4 p2 hP0 (by omega) (by omega) (by omega) (by omega)) (cqI ?_))))
    rintro v39 M35 ⟨hP36, hQ37, h40, h41⟩
    obtain rfl := Fr.same hQ37
    refine wk_al0 r48_75 (wk_il4 r48_76 (wk_il3 r48_78 (wk_cv3 r48_79 kc_739_94 rfl (m9094_739 _ M0 p4 p3 hP0 (by omega) (by omega) (by omega) (by omega)) (cqI ?_))))
    rintro v46 M42 ⟨hP43, hQ44, h47, h48⟩
    obtain rfl := Fr.same hQ44
    refine wk_icne r48_82 ⟨by omega, by omega⟩ ⟨by omega, by omega⟩ ?_ ?_
    · intro h49
      refine wk_c1 r48_89 (wk_cs102_1 r48_90 rfl (m9115 _ M0 0 hP0 (by decide) (by decide)) (cqI ?_))
      rintro v54 M50 ⟨hP51, hQ52, h55, h56⟩
      obtain rfl := Fr.same hQ52
      subst hQ; exact wk_iret r48_93 (⟨rfl, _, rfl, hP0, hF0, by omega, by omega⟩)
    · intro h57
      refine wk_c1 r48_85 (wk_goto r48_86 (wk_cs102_1 r48_90 rfl (m9115v1 _ M0 1 hP0 (by decide) (by decide)) (cqI ?_)))
      rintro v62 M58 ⟨hP59, hQ60, h63, h64⟩
      obtain rfl := Fr.same hQ60
      subst hQ; exact wk_iret r48_93 (⟨rfl, _, rfl, hP0, hF0, by omega, by omega⟩)
  · intro h65
    refine wk_al0 r48_94 (wk_getfr r48_95 fd_739_10 (br_739_10 hP0) (wk_il4 r48_98 (wk_ialdb r48_100 ar_744 ⟨by omega, by omega⟩ (fun q0 q1 => ba_744 hP0 q0 q1) ?_)))
    intro v66 h68 h69 e67
    refine wk_il2 r48_101 ?_
    refine wk_icne r48_102 ⟨by omega, by omega⟩ ⟨by omega, by omega⟩ ?_ ?_
    · intro h70
      refine wk_c1 r48_109 (wk_cs102_1 r48_110 rfl (m9115 _ M0 0 hP0 (by decide) (by decide)) (cqI ?_))
      rintro v75 M71 ⟨hP72, hQ73, h76, h77⟩
      obtain rfl := Fr.same hQ73
      subst hQ; exact wk_iret r48_113 (⟨rfl, _, rfl, hP0, hF0, by omega, by omega⟩)
    · intro h78
      refine wk_c1 r48_105 (wk_goto r48_106 (wk_cs102_1 r48_110 rfl (m9115v1 _ M0 1 hP0 (by decide) (by decide)) (cqI ?_)))
      rintro v83 M79 ⟨hP80, hQ81, h84, h85⟩
      obtain rfl := Fr.same hQ81
      subst hQ; exact wk_iret r48_113 (⟨rfl, _, rfl, hP0, hF0, by omega, by omega⟩)
  · intro h86
    refine wk_al0 r48_114 (wk_getfr r48_115 fd_739_11 (br_739_11 hP0) (wk_il4 r48_118 (wk_ialdb r48_120 ar_745 ⟨by omega, by omega⟩ (fun q0 q1 => ba_745 hP0 q0 q1) ?_)))
    intro v87 h89 h90 e88
    refine wk_il2 r48_121 ?_
    refine wk_icne r48_122 ⟨by omega, by omega⟩ ⟨by omega, by omega⟩ ?_ ?_
    · intro h91
      refine wk_c1 r48_129 (wk_cs102_1 r48_130 rfl (m9115 _ M0 0 hP0 (by decide) (by decide)) (cqI ?_))
      rintro v96 M92 ⟨hP93, hQ94, h97, h98⟩
      obtain rfl := Fr.same hQ94
      subst hQ; exact wk_iret r48_133 (⟨rfl, _, rfl, hP0, hF0, by omega, by omega⟩)
    · intro h99
      refine wk_c1 r48_125 (wk_goto r48_126 (wk_cs102_1 r48_130 rfl (m9115v1 _ M0 1 hP0 (by decide) (by decide)) (cqI ?_)))
      rintro v104 M100 ⟨hP101, hQ102, h105, h106⟩
      obtain rfl := Fr.same hQ102
      subst hQ; exact wk_iret r48_133 (⟨rfl, _, rfl, hP0, hF0, by omega, by omega⟩)
  · intro h107
    refine wk_al0 r48_134 (wk_il4 r48_135 (wk_il2 r48_137 (wk_cv3 r48_138 kc_739_109 rfl (m9109_739 _ M0 p4 p2 hP0 (by omega) (by omega) (by omega) (by omega)) (cqI ?_))))
    rintro v112 M108 ⟨hP109, hQ110, h113, h114⟩
    obtain rfl := Fr.same hQ110
    refine wk_il3 r48_141 ?_
    refine wk_icge r48_142 ⟨by omega, by omega⟩ ⟨by omega, by omega⟩ ?_ ?_
    · intro h115
      refine wk_c1 r48_149 (wk_cs102_1 r48_150 rfl (m9115 _ M0 0 hP0 (by decide) (by decide)) (cqI ?_))
      rintro v120 M116 ⟨hP117, hQ118, h121, h122⟩
      obtain rfl := Fr.same hQ118
      subst hQ; exact wk_iret r48_153 (⟨rfl, _, rfl, hP0, hF0, by omega, by omega⟩)
    · intro h123
      refine wk_c1 r48_145 (wk_goto r48_146 (wk_cs102_1 r48_150 rfl (m9115v1 _ M0 1 hP0 (by decide) (by decide)) (cqI ?_)))
      rintro v128 M124 ⟨hP125, hQ126, h129, h130⟩
      obtain rfl := Fr.same hQ126
      subst hQ; exact wk_iret r48_153 (⟨rfl, _, rfl, hP0, hF0, by omega, by omega⟩)
  · intro h131
    refine wk_al0 r48_154 (wk_il4 r48_155 (wk_il2 r48_157 (wk_cv3 r48_158 kc_739_109 rfl (m9109_739 _ M0 p4 p2 hP0 (by omega) (by omega) (by omega) (by omega)) (cqI ?_))))
    rintro v136 M132 ⟨hP133, hQ134, h137, h138⟩
    obtain rfl := Fr.same hQ134
    refine wk_il3 r48_161 ?_
    refine wk_icne r48_162 ⟨by omega, by omega⟩ ⟨by omega, by omega⟩ ?_ ?_
    · intro h139
      refine wk_c1 r48_169 (wk_cs102_1 r48_170 rfl (m9115 _ M0 0 hP0 (by decide) (by decide)) (cqI ?_))
      rintro v144 M140 ⟨hP141, hQ142, h145, h146⟩
      obtain rfl := Fr.same hQ142
      subst hQ; exact wk_iret r48_173 (⟨rfl, _, rfl, hP0, hF0, by omega, by omega⟩)
    · intro h147
      refine wk_c1 r48_165 (wk_goto r48_166 (wk_cs102_1 r48_170 rfl (m9115v1 _ M0 1 hP0 (by decide) (by decide)) (cqI ?_)))
      rintro v152 M148 ⟨hP149, hQ150, h153, h154⟩
      obtain rfl := Fr.same hQ150
      subst hQ; exact wk_iret r48_173 (⟨rfl, _, rfl, hP0, hF0, by omega, by omega⟩)
  · intro h155
    refine wk_al0 r48_174 (wk_il4 r48_175 (wk_il2 r48_177 (wk_cv3 r48_178 kc_739_109 rfl (m9109_739 _ M0 p4 p2 hP0 (by omega) (by omega) (by omega) (by omega)) (cqI ?_))))
    rintro v160 M156 ⟨hP157, hQ158, h161, h162⟩
    obtain rfl := Fr.same hQ158
    refine wk_il3 r48_181 ?_
    refine wk_icle r48_182 ⟨by omega, by omega⟩ ⟨by omega, by omega⟩ ?_ ?_
    · intro h163
      refine wk_c1 r48_189 (wk_cs102_1 r48_190 rfl (m9115 _ M0 0 hP0 (by decide) (by decide)) (cqI ?_))
      rintro v168 M164 ⟨hP165, hQ166, h169, h170⟩
      obtain rfl := Fr.same hQ166
      subst hQ; exact wk_iret r48_193 (⟨rfl, _, rfl, hP0, hF0, by omega, by omega⟩)
    · intro h171
      refine wk_c1 r48_185 (wk_goto r48_186 (wk_cs102_1 r48_190 rfl (m9115v1 _ M0 1 hP0 (by decide) (by decide)) (cqI ?_)))
      rintro v176 M172 ⟨hP173, hQ174, h177, h178⟩
      obtain rfl := Fr.same hQ174
      subst hQ; exact wk_iret r48_193 (⟨rfl, _, rfl, hP0, hF0, by omega, by omega⟩)
  · intro h179
    refine wk_al0 r48_194 (wk_getfr r48_195 fd_739_12 (br_739_12 hP0) (wk_il4 r48_198 (wk_ialdb r48_200 ar_746 ⟨by omega, by omega⟩ (fun q0 q1 => ba_746 hP0 q0 q1) ?_)))
    intro v180 h182 h183 e181
    refine wk_il2 r48_201 ?_
    refine wk_icne r48_202 ⟨by omega, by omega⟩ ⟨by omega, by omega⟩ ?_ ?_
    · intro h184
      refine wk_c1 r48_209 (wk_cs102_1 r48_210 rfl (m9115 _ M0 0 hP0 (by decide) (by decide)) (cqI ?_))
      rintro v189 M185 ⟨hP186, hQ187, h190, h191⟩
      obtain rfl := Fr.same hQ187
      subst hQ; exact wk_iret r48_213 (⟨rfl, _, rfl, hP0, hF0, by omega, by omega⟩)
    · intro h192
      refine wk_c1 r48_205 (wk_goto r48_206 (wk_cs102_1 r48_210 rfl (m9115v1 _ M0 1 hP0 (by decide) (by decide)) (cqI ?_)))
      rintro v197 M193 ⟨hP194, hQ195, h198, h199⟩
      obtain rfl := Fr.same hQ195
      subst hQ; exact wk_iret r48_213 (⟨rfl, _, rfl, hP0, hF0, by omega, by omega⟩)
def fm_m9107_739 : Nat := 0
/-- IslandHallModel.lying -/
theorem m9107_739 {B : eB} (d : Nat) (M0 : Mm) (p1 : Int) (p2 : Int) (p3 : Int) (hP0 : Pw M0) (l1 : 0 ≤ p1) (u1 : p1 ≤ 2999) (l2 : 0 ≤ p2) (u2 : p2 ≤ 6) (l3 : 0 ≤ p3) (u3 : p3 ≤ 15) : Ct B (d + 2) 107 [R 739, I p1, I p2, I p3] M0 (qI fun z M => Pw M ∧ Fr fm_m9107_739 M0 M ∧ 0 ≤ z ∧ z ≤ 2) := by
  refine ct_of (d := d + 1) (k := 2) (L := [some (R 739), some (I p1), some (I p2), some (I p3), none, none]) rfl rfl rfl ?_
  have hF0 := Fr.rf fm_m9107_739 M0
  generalize hQ : (qI fun z M => Pw M ∧ Fr fm_m9107_739 M0 M ∧ 0 ≤ z ∧ z ≤ 2) = Q
  refine wk_al0 r107_0 (wk_il1 r107_1 (wk_il2 r107_2 (wk_cv3 r107_3 kc_739_94 rfl (m9094_739 _ M0 p1 p2 hP0 (by omega) (by omega) (by omega) (by omega)) (cqI ?_))))
  rintro v5 M1 ⟨hP2, hQ3, h6, h7⟩
  obtain rfl := Fr.same hQ3
  refine wk_sw7 r107_6 ⟨by omega, by omega⟩ ?_ ?_ ?_ ?_ ?_
  · intro h8
    refine wk_c1 r107_101 ?_
    subst hQ; exact wk_iret r107_102 (⟨rfl, _, rfl, hP0, hF0, by omega, by omega⟩)
  · intro h9
    refine wk_c1 r107_36 ?_
    subst hQ; exact wk_iret r107_37 (⟨rfl, _, rfl, hP0, hF0, by omega, by omega⟩)
  · intro h10
    refine wk_c1 r107_38 ?_
    subst hQ; exact wk_iret r107_39 (⟨rfl, _, rfl, hP0, hF0, by omega, by omega⟩)
  · intro h11
    refine wk_al0 r107_40 (wk_getfr r107_41 fd_739_9 (br_739_9 hP0) (wk_il1 r107_44 (wk_ialdb r107_45 ar_743 ⟨by omega, by omega⟩ (fun q0 q1 => ba_743 hP0 q0 q1) ?_)))
    intro v12 h14 h15 e13
    refine wk_il2 r107_46 (wk_shrb r107_47 ⟨by omega, by omega⟩ ⟨by omega, by omega⟩ ?_)
    intro v16 h17 h18 h19
    refine wk_c1 r107_48 (wk_iandc 1 2 r107_49 ⟨rfl, by decide⟩ rfl (wk_is4 r107_50 rfl (wk_c1 r107_52 (wk_is5 r107_53 rfl ?_))))
    have c55_142 : ∀ (k142 : Nat) (v127 : Int) (v130 : Int), (15 - v130).toNat = k142 → 0 ≤ v127 → v127 ≤ 1 → 0 ≤ v130 → v130 ≤ 15 → 0 ≤ (-1) * v127 + v130 + 1 → Wp B (d + 1) 107 55 [some (R 739), none, some (I p2), some (I p3), some (I v127), some (I v130)] [] M0 Q := by
      refine lp_ind ?_
      intro k142 ih142 v127 v130 hk142 h128 h129 h131 h132 h133
      refine wk_il5 r107_55 (wk_il3 r107_57 ?_)
      refine wk_icge r107_58 ⟨by omega, by omega⟩ ⟨by omega, by omega⟩ ?_ ?_
      · intro h134
        refine wk_il4 r107_84 ?_
        subst hQ; exact wk_iret r107_86 (⟨rfl, _, rfl, hP0, hF0, by omega, by omega⟩)
      · intro h135
        refine wk_al0 r107_61 (wk_getfr r107_62 fd_739_16 (br_739_16 hP0) (wk_il5 r107_65 (wk_ialdb r107_67 ar_748 ⟨by omega, by omega⟩ (fun q0 q1 => ba_748 hP0 q0 q1) ?_)))
        intro v136 h138 h139 e137
        refine wk_il2 r107_68 ?_
        refine wk_icne r107_69 ⟨by omega, by omega⟩ ⟨by omega, by omega⟩ ?_ ?_
        · intro h140
          refine wk_inc5 r107_78 rfl (wk_goto r107_81 ?_)
          exact wp_fg (le_s (le_s (le_s (le_s (le_s (le_s le_0)))))) (ih142 (15 - (v130 + 1)).toNat (by omega) v127 (v130 + 1) rfl (by first | assumption | omega) (by first | assumption | omega) (by first | assumption | omega) (by first | assumption | omega) (by first | assumption | omega))
        · intro h141
          refine wk_c1 r107_72 (wk_il4 r107_73 (wk_isub r107_75 (wk_is4 r107_76 rfl (wk_inc5 r107_78 rfl (wk_goto r107_81 ?_)))))
          exact wp_fg (le_s (le_s (le_s (le_s (le_s (le_s le_0)))))) (ih142 (15 - (v130 + 1)).toNat (by omega) (1 - v127) (v130 + 1) rfl (by first | assumption | omega) (by first | assumption | omega) (by first | assumption | omega) (by first | assumption | omega) (by first | assumption | omega))
    exact wp_fg (le_s (le_n (le_s (le_s (le_s (le_s le_0)))))) (c55_142 _ (v16 % 2) 0 rfl (by first | assumption | omega) (by first | assumption | omega) (by first | assumption | omega) (by first | assumption | omega) (by first | assumption | omega))
  · intro h143
    refine wk_al0 r107_87 (wk_getfb r107_88 fd_739_3 (bf_739_3 hP0) ?_)
    intro v144 h146 h147 e145
    refine wk_al0 r107_91 (wk_getfr r107_92 fd_739_11 (br_739_11 hP0) (wk_il1 r107_95 (wk_ialdb r107_96 ar_745 ⟨by omega, by omega⟩ (fun q0 q1 => ba_745 hP0 q0 q1) ?_)))
    intro v148 h150 h151 e149
    refine wk_shrb r107_97 ⟨by omega, by omega⟩ ⟨by omega, by omega⟩ ?_
    intro v152 h153 h154 h155
    refine wk_c1 r107_98 (wk_iandc 1 2 r107_99 ⟨rfl, by decide⟩ rfl ?_)
    subst hQ; exact wk_iret r107_100 (⟨rfl, _, rfl, hP0, hF0, by omega, by omega⟩)
def fm_m9136_739_747 : Nat := 1809251394438377845161853827458666587891013942719528908517073861377953628160
/-- IslandHallModel.worth -/
theorem m9136_739_747 {B : eB} (d : Nat) (M0 : Mm) (p2 : Int) (p3 : Int) (p4 : Int) (p5 : Int) (en : Int) (hP0 : Pw M0) (l2 : 0 ≤ p2) (u2 : p2 ≤ 12000) (l3 : 0 ≤ p3) (u3 : p3 ≤ 2999) (l4 : 0 ≤ p4) (u4 : p4 ≤ 15) (l5 : (-2147483648) ≤ p5) (u5 : p5 ≤ 2147483647) (xp0 : SEG (fun k => M0 747 k) p2 en) (xp1 : en ≤ 12000 ∧ en ≤ p2 + 500) : Ct B (d + 4) 136 [R 739, R 747, I p2, I p3, I p4, I p5] M0 (qI fun z M => Pw M ∧ Fr fm_m9136_739_747 M0 M ∧ 0 ≤ z ∧ z ≤ 1 ∧ (M 739 53 = en)) := by
  refine ct_of (d := d + 3) (k := 6) (L := [some (R 739), some (R 747), some (I p2), some (I p3), some (I p4), some (I p5), none, none, none, none, none, none]) rfl rfl rfl ?_
  have hF0 := Fr.rf fm_m9136_739_747 M0
  generalize hQ : (qI fun z M => Pw M ∧ Fr fm_m9136_739_747 M0 M ∧ 0 ≤ z ∧ z ≤ 1 ∧ (M 739 53 = en)) = Q
  have hs0 := xp0.1
  have hs1 := xp0.2.1
  refine wk_c1 r136_0 (wk_is6 r136_1 rfl (wk_il2 r136_3 (wk_is7 r136_4 rfl ?_)))
  have c6_1331 : ∀ (k1331 : Nat) (M1204 : Mm) (v1198 : Int) (v1201 : Int), (11999 - v1201).toNat = k1331 → Pw M1204 → Fr fm_m9136_739_747 M0 M1204 → 0 ≤ v1198 → v1198 ≤ 499 → 0 ≤ v1201 → v1201 ≤ 11999 → 0 ≤ v1201 + (-1) * p2 → 0 ≤ (-1) * v1201 + en + (-1) → (v1198 = hgt (fun k => M0 747 k) p2 (v1201 - p2).toNat) → Wp B (d + 3) 136 6 [some (R 739), some (R 747), none, some (I p3), some (I p4), some (I p5), some (I v1198), some (I v1201), none, none, none, none] [] M1204 Q := by
    refine lp_ind ?_
    intro k1331 ih1331 M1204 v1198 v1201 hk1331 hP1205 hF1206 h1199 h1200 h1202 h1203 h1207 h1208 ti1209
    refine wk_al1 r136_6 (wk_il7 r136_7 (wk_ialdb r136_9 ar_747 ⟨by omega, by omega⟩ (fun q0 q1 => ba_747 hP1205 q0 q1) ?_))
    intro v1210 h1212 h1213 e1211
    have h1214 := wr_at xp0 (k := v1201) (m := v1198) (by omega) (by omega) (show (fun k => M0 747 k) v1201 = v1210 from (hF1206.at (ga_747 _) rfl).symm.trans e1211) ti1209
    refine wk_ifeq r136_10 ⟨by omega, by omega⟩ ?_ ?_
    · intro h1215
      refine wk_al0 r136_248 (wk_il7 r136_249 (wk_c1 r136_251 (wk_iadd r136_252 (wk_putfi81 r136_253 fd_739_53 (wk_nw g_739_53 rfl hP1205 hF1206 (uf_739_53 ⟨by omega, by omega⟩) ?_)))))
      intro M1216 hP1217 hF1218 e1219
      refine wk_al0 r136_256 (wk_getfr r136_257 fd_739_52 (br_739_52 hP1217) (wk_c1 r136_260 (wk_ialdb r136_261 ar_759 (by decide) (fun q0 q1 => ba_759 hP1217 q0 q1) ?_)))
      intro v1220 h1222 h1223 e1221
      subst hQ; exact wk_iret r136_262 (⟨rfl, _, rfl, hP1217, hF1218, by omega, by omega, by have := (mUp_at e1219); omega⟩)
    · intro h1224
      have h1225 : v1201 ≤ en - 2 := by omega
      refine wk_al1 r136_13 (wk_il7 r136_14 (wk_iald r136_16 ar_747 ⟨by omega, by omega⟩ e1211 (wk_c2 r136_17 (wk_irem r136_19 ⟨by omega, by omega⟩ (by decide) (wk_is8 r136_20 rfl (wk_al1 r136_22 (wk_il7 r136_23 (wk_iald r136_25 ar_747 ⟨by omega, by omega⟩ e1211 (wk_c2 r136_26 (wk_idiv r136_28 ⟨by omega, by omega⟩ (by decide) (wk_c3 r136_29 (wk_irem r136_32 ⟨by omega, by omega⟩ (by decide) (wk_is9 r136_33 rfl (wk_al1 r136_35 (wk_il7 r136_36 (wk_iald r136_38 ar_747 ⟨by omega, by omega⟩ e1211 (wk_c3 r136_39 (wk_idiv r136_42 ⟨by omega, by omega⟩ (by decide) (wk_is10 r136_43 rfl (wk_inc7 r136_45 rfl (wk_il8 r136_48 (wk_c2 r136_50 ?_))))))))))))))))))))))
      refine wk_icne r136_52 ⟨by omega, by omega⟩ (by decide) ?_ ?_
      · intro h1229
        refine wk_il8 r136_78 (wk_c2 r136_80 ?_)
        refine wk_icne r136_82 ⟨by omega, by omega⟩ (by decide) ?_ ?_
        · intro h1230
          refine wk_il8 r136_147 (wk_c2 r136_149 ?_)
          refine wk_iceq r136_151 ⟨by omega, by omega⟩ (by decide) ?_ ?_
          · intro h1231
            have h1232 : 2 ≤ v1198 := by omega
            refine wk_inc6 r136_161 rfl (wk_al0 r136_164 (wk_getfr r136_165 fd_739_52 (br_739_52 hP1205) (wk_il6 r136_168 (wk_c1 r136_170 (wk_isub r136_171 (wk_il8 r136_172 (wk_c2 r136_174 ?_)))))))
            refine wk_icne r136_176 ⟨by omega, by omega⟩ (by decide) ?_ ?_
            · intro h1233
              exfalso
              omega
            · intro h1234
              refine wk_al0 r136_179 (wk_getfr r136_180 fd_739_52 (br_739_52 hP1205) (wk_il6 r136_183 (wk_c1 r136_185 (wk_isub r136_186 (wk_ialdb r136_187 ar_759 ⟨by omega, by omega⟩ (fun q0 q1 => ba_759 hP1205 q0 q1) ?_)))))
              intro v1235 h1237 h1238 e1236
              refine wk_al0 r136_188 (wk_getfr r136_189 fd_739_52 (br_739_52 hP1205) (wk_il6 r136_192 (wk_ialdb r136_194 ar_759 ⟨by omega, by omega⟩ (fun q0 q1 => ba_759 hP1205 q0 q1) ?_)))
              intro v1239 h1241 h1242 e1240
              refine wk_iand r136_195 ⟨by omega, by omega⟩ ⟨by omega, by omega⟩ ?_
              intro v1243 h1244 h1245 h1246 h1247
              refine wk_goto r136_196 (wk_iast r136_216 ar_759 ⟨by omega, by omega⟩ (wk_nw (ga_759 _) rfl hP1205 hF1206 (ua_759 ⟨by omega, by omega⟩) ?_))
              intro M1248 hP1249 hF1250 e1251
              refine wk_goto r136_217 (wk_goto r136_245 ?_)
              exact wp_fg (le_s (le_s (le_s (le_s (le_s (le_s (le_s (le_s (le_n (le_n (le_n (le_s le_0)))))))))))) (ih1331 (11999 - (v1201 + 1)).toNat (by omega) M1248 (v1198 + (-1)) (v1201 + 1) rfl hP1249 hF1250 (by first | assumption | omega) (by first | assumption | omega) (by first | assumption | omega) (by first | assumption | omega) (by first | assumption | omega) (by first | assumption | omega) (by have q := hg_up (by omega) (show (fun k => M0 747 k) v1201 = v1210 from (hF1206.at (ga_747 _) rfl).symm.trans e1211) ti1209; rw [q]; split; (omega); (split <;> omega)))
          · intro h1252
            refine wk_il8 r136_154 (wk_c2 r136_156 ?_)
            refine wk_icne r136_158 ⟨by omega, by omega⟩ (by decide) ?_ ?_
            · intro h1253
              have h1254 : 1 ≤ (v1210 % 16) ∧ (v1210 % 16) ≤ 9 := by omega
              refine wk_al0 r136_220 (wk_getfr r136_221 fd_739_52 (br_739_52 hP1205) (wk_il6 r136_224 (wk_al0 r136_226 (wk_il8 r136_227 (wk_il9 r136_229 (wk_il10 r136_231 (wk_il3 r136_233 (wk_il4 r136_234 (wk_il5 r136_236 (wk_cv7 r136_238 kc_739_48 rfl (m9048_739 _ M1204 (v1210 % 16) ((v1210 / 16) % 128) (v1210 / 2048) p3 p4 p5 hP1205 (by omega) (by omega) (by omega) (by omega) (by omega) (by omega) (by omega) (by omega) (by omega) (by omega) (by omega) (by omega) (by first | assumption | omega | (unfold stepok; omega)) (by first | assumption | omega | (unfold stepok; omega))) (cqI ?_)))))))))))
              rintro v1259 M1255 ⟨hP1256, hQ1257, h1260, h1261⟩
              obtain rfl := Fr.same hQ1257
              refine wk_iast r136_241 ar_759 ⟨by omega, by omega⟩ (wk_nw (ga_759 _) rfl hP1205 hF1206 (ua_759 ⟨by omega, by omega⟩) ?_)
              intro M1262 hP1263 hF1264 e1265
              refine wk_inc6 r136_242 rfl (wk_goto r136_245 ?_)
              exact wp_fg (le_s (le_s (le_s (le_s (le_s (le_s (le_s (le_s (le_n (le_n (le_n (le_s le_0)))))))))))) (ih1331 (11999 - (v1201 + 1)).toNat (by omega) M1262 (v1198 + 1) (v1201 + 1) rfl hP1263 hF1264 (by first | assumption | omega) (by first | assumption | omega) (by first | assumption | omega) (by first | assumption | omega) (by first | assumption | omega) (by first | assumption | omega) (by have q := hg_up (by omega) (show (fun k => M0 747 k) v1201 = v1210 from (hF1206.at (ga_747 _) rfl).symm.trans e1211) ti1209; rw [q]; split; (omega); (split <;> omega)))
            · intro h1266
              have h1267 : 2 ≤ v1198 := by omega
              refine wk_inc6 r136_161 rfl (wk_al0 r136_164 (wk_getfr r136_165 fd_739_52 (br_739_52 hP1205) (wk_il6 r136_168 (wk_c1 r136_170 (wk_isub r136_171 (wk_il8 r136_172 (wk_c2 r136_174 ?_)))))))
              refine wk_icne r136_176 ⟨by omega, by omega⟩ (by decide) ?_ ?_
              · intro h1268
                refine wk_al0 r136_199 (wk_getfr r136_200 fd_739_52 (br_739_52 hP1205) (wk_il6 r136_203 (wk_c1 r136_205 (wk_isub r136_206 (wk_ialdb r136_207 ar_759 ⟨by omega, by omega⟩ (fun q0 q1 => ba_759 hP1205 q0 q1) ?_)))))
                intro v1269 h1271 h1272 e1270
                refine wk_al0 r136_208 (wk_getfr r136_209 fd_739_52 (br_739_52 hP1205) (wk_il6 r136_212 (wk_ialdb r136_214 ar_759 ⟨by omega, by omega⟩ (fun q0 q1 => ba_759 hP1205 q0 q1) ?_)))
                intro v1273 h1275 h1276 e1274
                refine wk_ior 1 2 r136_215 (by decide) ⟨by omega, by omega⟩ ⟨by omega, by omega⟩ ?_
                intro v1277 h1278 h1279 h1280 h1281 h1282
                refine wk_iast r136_216 ar_759 ⟨by omega, by omega⟩ (wk_nw (ga_759 _) rfl hP1205 hF1206 (ua_759 ⟨by omega, by omega⟩) ?_)
                intro M1283 hP1284 hF1285 e1286
                refine wk_goto r136_217 (wk_goto r136_245 ?_)
                exact wp_fg (le_s (le_s (le_s (le_s (le_s (le_s (le_s (le_s (le_n (le_n (le_n (le_s le_0)))))))))))) (ih1331 (11999 - (v1201 + 1)).toNat (by omega) M1283 (v1198 + (-1)) (v1201 + 1) rfl hP1284 hF1285 (by first | assumption | omega) (by first | assumption | omega) (by first | assumption | omega) (by first | assumption | omega) (by first | assumption | omega) (by first | assumption | omega) (by have q := hg_up (by omega) (show (fun k => M0 747 k) v1201 = v1210 from (hF1206.at (ga_747 _) rfl).symm.trans e1211) ti1209; rw [q]; split; (omega); (split <;> omega)))
              · intro h1287
                exfalso
                omega
        · intro h1288
          have h1289 : 1 ≤ v1198 ∧ ((v1210 / 16) % 128) ≤ 6 := by omega
          refine wk_al0 r136_85 (wk_il3 r136_86 (wk_il9 r136_87 (wk_il4 r136_89 (wk_cv4 r136_91 kc_739_107 rfl (m9107_739 _ M1204 p3 ((v1210 / 16) % 128) p4 hP1205 (by omega) (by omega) (by omega) (by omega) (by omega) (by omega)) (cqI ?_)))))
          rintro v1294 M1290 ⟨hP1291, hQ1292, h1295, h1296⟩
          obtain rfl := Fr.same hQ1292
          refine wk_is11 r136_94 rfl (wk_al0 r136_96 (wk_getfr r136_97 fd_739_52 (br_739_52 hP1205) (wk_il6 r136_100 (wk_c1 r136_102 (wk_isub r136_103 (wk_il11 r136_104 (wk_c1 r136_106 ?_)))))))
          refine wk_icne r136_107 ⟨by omega, by omega⟩ (by decide) ?_ ?_
          · intro h1297
            refine wk_il11 r136_114 (wk_c1 r136_116 ?_)
            refine wk_icne r136_117 ⟨by omega, by omega⟩ (by decide) ?_ ?_
            · intro h1298
              refine wk_al0 r136_134 (wk_getfr r136_135 fd_739_52 (br_739_52 hP1205) (wk_il6 r136_138 (wk_c1 r136_140 (wk_isub r136_141 (wk_ialdb r136_142 ar_759 ⟨by omega, by omega⟩ (fun q0 q1 => ba_759 hP1205 q0 q1) ?_)))))
              intro v1299 h1301 h1302 e1300
              refine wk_iast r136_143 ar_759 ⟨by omega, by omega⟩ (wk_nw (ga_759 _) rfl hP1205 hF1206 (ua_759 ⟨by omega, by omega⟩) ?_)
              intro M1303 hP1304 hF1305 e1306
              refine wk_goto r136_144 (wk_goto r136_245 ?_)
              exact wp_fg (le_s (le_s (le_s (le_s (le_s (le_s (le_s (le_s (le_n (le_n (le_n (le_n le_0)))))))))))) (ih1331 (11999 - (v1201 + 1)).toNat (by omega) M1303 v1198 (v1201 + 1) rfl hP1304 hF1305 (by first | assumption | omega) (by first | assumption | omega) (by first | assumption | omega) (by first | assumption | omega) (by first | assumption | omega) (by first | assumption | omega) (by have q := hg_up (by omega) (show (fun k => M0 747 k) v1201 = v1210 from (hF1206.at (ga_747 _) rfl).symm.trans e1211) ti1209; rw [q]; split; (omega); (split <;> omega)))
            · intro h1307
              refine wk_c1 r136_120 (wk_al0 r136_121 (wk_getfr r136_122 fd_739_52 (br_739_52 hP1205) (wk_il6 r136_125 (wk_c1 r136_127 (wk_isub r136_128 (wk_ialdb r136_129 ar_759 ⟨by omega, by omega⟩ (fun q0 q1 => ba_759 hP1205 q0 q1) ?_))))))
              intro v1308 h1310 h1311 e1309
              refine wk_isub r136_130 (wk_goto r136_131 (wk_iast r136_143 ar_759 ⟨by omega, by omega⟩ (wk_nw (ga_759 _) rfl hP1205 hF1206 (ua_759 ⟨by omega, by omega⟩) ?_)))
              intro M1312 hP1313 hF1314 e1315
              refine wk_goto r136_144 (wk_goto r136_245 ?_)
              exact wp_fg (le_s (le_s (le_s (le_s (le_s (le_s (le_s (le_s (le_n (le_n (le_n (le_n le_0)))))))))))) (ih1331 (11999 - (v1201 + 1)).toNat (by omega) M1312 v1198 (v1201 + 1) rfl hP1313 hF1314 (by first | assumption | omega) (by first | assumption | omega) (by first | assumption | omega) (by first | assumption | omega) (by first | assumption | omega) (by first | assumption | omega) (by have q := hg_up (by omega) (show (fun k => M0 747 k) v1201 = v1210 from (hF1206.at (ga_747 _) rfl).symm.trans e1211) ti1209; rw [q]; split; (omega); (split <;> omega)))
          · intro h1316
            refine wk_c1 r136_110 (wk_goto r136_111 (wk_iast r136_143 ar_759 ⟨by omega, by omega⟩ (wk_nw (ga_759 _) rfl hP1205 hF1206 (ua_759 (by decide)) ?_)))
            intro M1317 hP1318 hF1319 e1320
            refine wk_goto r136_144 (wk_goto r136_245 ?_)
            exact wp_fg (le_s (le_s (le_s (le_s (le_s (le_s (le_s (le_s (le_n (le_n (le_n (le_n le_0)))))))))))) (ih1331 (11999 - (v1201 + 1)).toNat (by omega) M1317 v1198 (v1201 + 1) rfl hP1318 hF1319 (by first | assumption | omega) (by first | assumption | omega) (by first | assumption | omega) (by first | assumption | omega) (by first | assumption | omega) (by first | assumption | omega) (by have q := hg_up (by omega) (show (fun k => M0 747 k) v1201 = v1210 from (hF1206.at (ga_747 _) rfl).symm.trans e1211) ti1209; rw [q]; split; (omega); (split <;> omega)))
      · intro h1321
        have h1322 : 1 ≤ v1198 := by omega
        refine wk_al0 r136_55 (wk_getfr r136_56 fd_739_52 (br_739_52 hP1205) (wk_il6 r136_59 (wk_c1 r136_61 (wk_isub r136_62 (wk_c1 r136_63 (wk_al0 r136_64 (wk_getfr r136_65 fd_739_52 (br_739_52 hP1205) (wk_il6 r136_68 (wk_c1 r136_70 (wk_isub r136_71 (wk_ialdb r136_72 ar_759 ⟨by omega, by omega⟩ (fun q0 q1 => ba_759 hP1205 q0 q1) ?_)))))))))))
        intro v1323 h1325 h1326 e1324
        refine wk_isub r136_73 (wk_iast r136_74 ar_759 ⟨by omega, by omega⟩ (wk_nw (ga_759 _) rfl hP1205 hF1206 (ua_759 ⟨by omega, by omega⟩) ?_))
        intro M1327 hP1328 hF1329 e1330
        refine wk_goto r136_75 (wk_goto r136_245 ?_)
        exact wp_fg (le_s (le_s (le_s (le_s (le_s (le_s (le_s (le_s (le_n (le_n (le_n (le_s le_0)))))))))))) (ih1331 (11999 - (v1201 + 1)).toNat (by omega) M1327 v1198 (v1201 + 1) rfl hP1328 hF1329 (by first | assumption | omega) (by first | assumption | omega) (by first | assumption | omega) (by first | assumption | omega) (by first | assumption | omega) (by first | assumption | omega) (by have q := hg_up (by omega) (show (fun k => M0 747 k) v1201 = v1210 from (hF1206.at (ga_747 _) rfl).symm.trans e1211) ti1209; rw [q]; split; (omega); (split <;> omega)))
  exact wp_fg (le_s (le_s (le_n (le_s (le_s (le_s (le_s (le_s (le_s (le_s (le_s (le_s le_0)))))))))))) (c6_1331 _ M0 0 p2 rfl hP0 hF0 (by first | assumption | omega) (by first | assumption | omega) (by first | assumption | omega) (by first | assumption | omega) (by first | assumption | omega) (by first | assumption | omega) (by rw [Int.sub_self]; rfl))
def fm_m9128_739 : Nat := 1809251394438377845161853827458666587891013942719528908517073861377953628160
/-- IslandHallModel.soOf -/
theorem m9128_739 {B : eB} (d : Nat) (M0 : Mm) (p1 : Int) (p2 : Int) (p3 : Int) (p4 : Int) (x739_13 : Int) (hP0 : Pw M0) (l1 : 0 ≤ p1) (u1 : p1 ≤ 29) (l2 : 0 ≤ p2) (u2 : p2 ≤ 2999) (l3 : 0 ≤ p3) (u3 : p3 ≤ 15) (l4 : (-2147483648) ≤ p4) (u4 : p4 ≤ 2147483647) (ex739_13 : M0 739 13 = x739_13) (lx739_13 : 0 ≤ x739_13) (ux739_13 : x739_13 ≤ 30) (rp0 : 0 ≤ x739_13 + (-1) * p1 + (-1)) (pp_WS : WS M0) : Ct B (d + 5) 128 [R 739, I p1, I p2, I p3, I p4] M0 (qI fun z M => Pw M ∧ Fr fm_m9128_739 M0 M ∧ 0 ≤ z ∧ z ≤ 1) := by
  refine ct_of (d := d + 4) (k := 0) (L := [some (R 739), some (I p1), some (I p2), some (I p3), some (I p4)]) rfl rfl rfl ?_
  have hF0 := Fr.rf fm_m9128_739 M0
  generalize hQ : (qI fun z M => Pw M ∧ Fr fm_m9128_739 M0 M ∧ 0 ≤ z ∧ z ≤ 1) = Q
  obtain ⟨en, hen, hsg⟩ := pp_WS p1 (by omega) (by rw [ex739_13]; omega)
  refine wk_al0 r128_0 (wk_al0 r128_1 (wk_getfr r128_2 fd_739_14 (br_739_14 hP0) (wk_c3 r128_5 (wk_il1 r128_8 (wk_imul r128_9 (wk_il2 r128_10 (wk_il3 r128_11 (wk_il4 r128_12 (wk_cv6 r128_14 kc_739_136 rfl (m9136_739_747 _ M0 (400 * p1) p2 p3 p4 en hP0 (by omega) (by omega) (by omega) (by omega) (by omega) (by omega) (by omega) (by omega) (hsg) (⟨by omega, by omega⟩)) (cqI ?_))))))))))
  rintro v6 M1 ⟨hP2, hQ3, h7, h8, xh5⟩
  have hF4 : Fr fm_m9128_739 M0 M1 := hF0.tr hQ3 rfl
  subst hQ; exact wk_iret r128_17 (⟨rfl, _, rfl, hP2, hF4, by omega, by omega⟩)
