/-! ===== written by program (wip/layer2/all.py): contracts of methods ===== -/
def fm_m2_607v6 : Nat := 16741913844773229565887860231287872390430720
/-- IslandHall$Asker.opener -/
theorem m2_607v6 {B : eB} (d : Nat) (M0 : Mm) (p1 : Int) (p2 : Int) (hP0 : Pw M0) (l1 : 1 ≤ p1) (u1 : p1 ≤ 1) (l2 : 0 ≤ p2) (u2 : p2 ≤ 2) : Ct B (d + 8) 2 [R 607, I p1, I p2] M0 (qI fun z M => Pw M ∧ Fr fm_m2_607v6 M0 M ∧ (-1) ≤ z ∧ z ≤ 9) := by
  refine ct_of (d := d + 7) (k := 1) (L := [some (R 607), some (I p1), some (I p2), none]) rfl rfl rfl ?_
  have hF0 := Fr.rf fm_m2_607v6 M0
  generalize hQ : (qI fun z M => Pw M ∧ Fr fm_m2_607v6 M0 M ∧ (-1) ≤ z ∧ z ≤ 9) = Q
  refine wk_il2 r2_0 ?_
  refine wk_ifle r2_1 ⟨by omega, by omega⟩ ?_ ?_
  · intro h1
    refine wk_c1 r2_28 ?_
    subst hQ; exact wk_iret r2_29 (⟨rfl, _, rfl, hP0, hF0, by omega, by omega⟩)
  · intro h2
    refine wk_il1 r2_4 (wk_c1 r2_5 ?_)
    refine wk_icge r2_6 ⟨by omega, by omega⟩ (by decide) ?_ ?_
    · intro h3
      exfalso
      omega
    · intro h4
      refine wk_al0 r2_9 (wk_getfr r2_10 fd_607_0 (br_607_0 hP0) (wk_al0 r2_13 (wk_getfr r2_14 fd_607_3 (br_607_3 hP0) (wk_il1 r2_17 (wk_raldb r2_18 ar_608 ⟨by omega, by omega⟩ (fun q0 q1 => ba_608 hP0 q0 q1) (wk_c1 r2_19 (wk_il2 r2_20 (wk_shl1 2 4 r2_21 ⟨by omega, by omega⟩ ⟨pwl_2, by decide⟩ ?_))))))))
      intro v5 h6 h7 h8
      refine wk_cv3 r2_22 kc_174_150 rfl (m150_174_f609v2 _ M0 (609 + p1) v5 hP0 (by omega) (by omega) (by omega) (by omega)) (cqI ?_)
      rintro v13 M9 ⟨hP10, hQ11, h14, h15⟩
      have hF12 : Fr fm_m2_607v6 M0 M9 := hF0.tr hQ11 rfl
      refine wk_ifne r2_25 ⟨by omega, by omega⟩ ?_ ?_
      · intro h16
        refine wk_c1 r2_30 (wk_is3 r2_31 rfl ?_)
        have c32_185 : ∀ (k185 : Nat) (M167 : Mm) (v164 : Int), (10 - v164).toNat = k185 → Pw M167 → Fr fm_m2_607v6 M0 M167 → 0 ≤ v164 → v164 ≤ 10 → Wp B (d + 7) 2 32 [some (R 607), some (I p1), some (I p2), some (I v164)] [] M167 Q := by
          refine lp_ind ?_
          intro k185 ih185 M167 v164 hk185 hP168 hF169 h165 h166
          refine wk_il3 r2_32 (wk_al0 r2_33 (wk_getfb r2_34 fd_607_4 (bf_607_4 hP168) ?_))
          intro v170 h172 h173 e171
          refine wk_icge r2_37 ⟨by omega, by omega⟩ ⟨by omega, by omega⟩ ?_ ?_
          · intro h174
            refine wk_c1 r2_58 ?_
            subst hQ; exact wk_iret r2_59 (⟨rfl, _, rfl, hP168, hF169, by omega, by omega⟩)
          · intro h175
            refine wk_al0 r2_40 (wk_il3 r2_41 (wk_il1 r2_42 (wk_il2 r2_43 (wk_cv4 r2_44 kc_607_3 rfl (m3_607v35 _ M167 v164 p1 p2 hP168 (by omega) (by omega) (by omega) (by omega) (by omega) (by omega)) (cqI ?_)))))
            rintro v180 M176 ⟨hP177, hQ178, h181, h182⟩
            have hF179 : Fr fm_m2_607v6 M0 M176 := hF169.tr hQ178 rfl
            refine wk_ifeq r2_47 ⟨by omega, by omega⟩ ?_ ?_
            · intro h183
              refine wk_inc3 r2_52 rfl (wk_goto r2_55 ?_)
              exact wp_fg (le_s (le_s (le_s (le_s le_0)))) (ih185 (10 - (v164 + 1)).toNat (by omega) M176 (v164 + 1) rfl hP177 hF179 (by omega) (by omega))
            · intro h184
              refine wk_il3 r2_50 ?_
              subst hQ; exact wk_iret r2_51 (⟨rfl, _, rfl, hP177, hF179, by omega, by omega⟩)
        exact wp_fg (le_s (le_s (le_s (le_s le_0)))) (c32_185 _ M9 0 rfl hP10 hF12 (by omega) (by omega))
      · intro h186
        refine wk_c1 r2_28 ?_
        subst hQ; exact wk_iret r2_29 (⟨rfl, _, rfl, hP10, hF12, by omega, by omega⟩)
def fm_m3_607v41 : Nat := 16741913844773229565887860231287872390430720
/-- IslandHall$Asker.opens -/
theorem m3_607v41 {B : eB} (d : Nat) (M0 : Mm) (p1 : Int) (p2 : Int) (p3 : Int) (hP0 : Pw M0) (l1 : 0 ≤ p1) (u1 : p1 ≤ 9) (l2 : 0 ≤ p2) (u2 : p2 ≤ 0) (l3 : 1 ≤ p3) (u3 : p3 ≤ 3) : Ct B (d + 9) 3 [R 607, I p1, I p2, I p3] M0 (qI fun z M => Pw M ∧ Fr fm_m3_607v41 M0 M ∧ 0 ≤ z ∧ z ≤ 1) := by
  refine ct_of (d := d + 8) (k := 5) (L := [some (R 607), some (I p1), some (I p2), some (I p3), none, none, none, none, none]) rfl rfl rfl ?_
  have hF0 := Fr.rf fm_m3_607v41 M0
  generalize hQ : (qI fun z M => Pw M ∧ Fr fm_m3_607v41 M0 M ∧ 0 ≤ z ∧ z ≤ 1) = Q
  refine wk_al0 r3_0 (wk_getfr r3_1 fd_607_0 (br_607_0 hP0) (wk_getfr r3_4 fd_174_0 (br_174_0 hP0) (wk_as4 r3_7 rfl (wk_al0 r3_9 (wk_getfr r3_10 fd_607_2 (br_607_2 hP0) (wk_il1 r3_13 (wk_ialdb r3_14 ar_169 ⟨by omega, by omega⟩ (fun q0 q1 => ba_169 hP0 q0 q1) ?_)))))))
  intro v1 h3 h4 e2
  refine wk_c2 r3_15 (wk_idiv r3_17 ⟨by omega, by omega⟩ (by decide) (wk_is5 r3_18 rfl (wk_al4 r3_20 (wk_getfr r3_22 fd_176_0 (br_176_0 hP0) (wk_c2 r3_25 (wk_al0 r3_27 (wk_getfb r3_28 fd_607_5 (bf_607_5 hP0) ?_)))))))
  intro v6 h8 h9 e7
  refine wk_iadd r3_31 (wk_il2 r3_32 (wk_iadd r3_33 (wk_raldb r3_34 ar_182 ⟨by omega, by omega⟩ (fun q0 q1 => ba_182 hP0 q0 q1) (wk_as6 r3_35 rfl (wk_al4 r3_37 (wk_al0 r3_39 (wk_getfr r3_40 fd_607_1 (br_607_1 hP0) (wk_al0 r3_43 (wk_getfr r3_44 fd_607_2 (br_607_2 hP0) (wk_il1 r3_47 (wk_iald r3_48 ar_169 ⟨by omega, by omega⟩ e2 (wk_c2 r3_49 (wk_irem r3_51 ⟨by omega, by omega⟩ (by decide) (wk_caldb r3_52 ar_168 ⟨by omega, by omega⟩ (fun q0 q1 => ba_168 hP0 q0 q1) ?_))))))))))))))
  intro v10 e11
  have hC12 : isC v10 := Or.inr (by omega)
  refine wk_al6 r3_53 (wk_cv3 r3_55 kc_176_196 rfl (m196_176_f183 _ M0 v10 (183 + ((102 + v6) + p2)) hP0 hC12 (by omega) (by omega)) (cqV ?_))
  rintro M13 ⟨hP14, hQ15⟩
  have hF16 : Fr fm_m3_607v41 M0 M13 := hF0.tr hQ15 rfl
  refine wk_c1 r3_58 (wk_is7 r3_59 rfl (wk_c1 r3_61 (wk_is8 r3_62 rfl ?_)))
  have c64_177 : ∀ (k177 : Nat) (M126 : Mm) (v120 : Int) (v123 : Int), (2 - v123).toNat = k177 → Pw M126 → Fr fm_m3_607v41 M0 M126 → M126 607 5 = v6 → 0 ≤ v120 → v120 ≤ 1 → 0 ≤ v123 → v123 ≤ 2 → 0 ≤ (-1) * v120 + v123 + 1 → Wp B (d + 8) 3 64 [some (R 607), none, some (I p2), some (I p3), some (R 176), some (I (v1 / 30)), some (R (183 + ((102 + v6) + p2))), some (I v120), some (I v123)] [] M126 Q := by
    refine lp_ind ?_
    intro k177 ih177 M126 v120 v123 hk177 hP127 hF128 e129 h121 h122 h124 h125 h130
    refine wk_il8 r3_64 (wk_c1 r3_66 ?_)
    refine wk_icge r3_67 ⟨by omega, by omega⟩ (by decide) ?_ ?_
    · intro h131
      refine wk_al6 r3_162 (wk_c6 r3_164 (wk_cs102_2 r3_165 rfl (ct_fl (arF_183 (by omega) (by omega))) (cqV ?_)))
      intro M132 e133
      have hP134 : Pw M132 := by rw [e133]; exact hP127.fil (fun i => (uaF_183 (by omega) (by omega) ⟨by omega, by omega⟩))
      have hF135 : Fr fm_m3_607v41 M0 M132 := by rw [e133]; exact hF128.fil (fun i => by rw [(gr_183 (by omega) (by omega) i)]; rfl)
      refine wk_il7 r3_168 ?_
      subst hQ; exact wk_zret r3_170 ⟨by omega, by omega⟩ (⟨rfl, _, rfl, hP134, hF135, by omega, by omega⟩)
    · intro h136
      refine wk_il7 r3_70 ?_
      refine wk_ifeq r3_72 ⟨by omega, by omega⟩ ?_ ?_
      · intro h137
        refine wk_al6 r3_162 (wk_c6 r3_164 (wk_cs102_2 r3_165 rfl (ct_fl (arF_183 (by omega) (by omega))) (cqV ?_)))
        intro M138 e139
        have hP140 : Pw M138 := by rw [e139]; exact hP127.fil (fun i => (uaF_183 (by omega) (by omega) ⟨by omega, by omega⟩))
        have hF141 : Fr fm_m3_607v41 M0 M138 := by rw [e139]; exact hF128.fil (fun i => by rw [(gr_183 (by omega) (by omega) i)]; rfl)
        refine wk_il7 r3_168 ?_
        subst hQ; exact wk_zret r3_170 ⟨by omega, by omega⟩ (⟨rfl, _, rfl, hP140, hF141, by omega, by omega⟩)
      · intro h142
        refine wk_al0 r3_75 (wk_getfr r3_76 fd_607_0 (br_607_0 hP127) (wk_al0 r3_79 (wk_getfr r3_80 fd_607_3 (br_607_3 hP127) (wk_il2 r3_83 (wk_raldb r3_84 ar_608 ⟨by omega, by omega⟩ (fun q0 q1 => ba_608 hP127 q0 q1) (wk_il5 r3_85 (wk_il8 r3_87 (wk_al6 r3_89 (wk_al0 r3_91 (wk_getfr r3_92 fd_607_3 (br_607_3 hP127) (wk_il2 r3_95 (wk_c1 r3_96 (wk_iadd r3_97 (wk_raldb r3_98 ar_608 ⟨by omega, by omega⟩ (fun q0 q1 => ba_608 hP127 q0 q1) (wk_cv6 r3_99 kc_174_148 rfl (m148_174_f609_f183_f609v1 _ M126 (609 + p2) (v1 / 30) v123 (183 + ((102 + v6) + p2)) (609 + (p2 + 1)) hP127 (by omega) (by omega) (by omega) (by omega) (by omega) (by omega) (by omega) (by omega) (by omega) (by omega)) (cqV ?_))))))))))))))))
        rintro M143 ⟨hP144, hQ145⟩
        have hF146 : Fr fm_m3_607v41 M0 M143 := hF128.tr hQ145 rfl
        refine wk_al0 r3_102 (wk_getfr r3_103 fd_607_0 (br_607_0 hP144) (wk_al0 r3_106 (wk_getfr r3_107 fd_607_3 (br_607_3 hP144) (wk_il2 r3_110 (wk_c1 r3_111 (wk_iadd r3_112 (wk_raldb r3_113 ar_608 ⟨by omega, by omega⟩ (fun q0 q1 => ba_608 hP144 q0 q1) (wk_c1 r3_114 (wk_cv3 r3_115 kc_174_150 rfl (m150_174_f609 _ M143 (609 + (p2 + 1)) 1 hP144 (by omega) (by omega) (by decide) (by decide)) (cqI ?_))))))))))
        rintro v151 M147 ⟨hP148, hQ149, h152, h153⟩
        have hF150 : Fr fm_m3_607v41 M0 M147 := hF146.tr hQ149 rfl
        refine wk_ifne r3_118 ⟨by omega, by omega⟩ ?_ ?_
        · intro h154
          refine wk_inc8 r3_156 rfl (wk_goto r3_159 ?_)
          exact wp_fg (le_s (le_s (le_s (le_s (le_s (le_s (le_s (le_s (le_s le_0))))))))) (ih177 (2 - (v123 + 1)).toNat (by omega) M147 v120 (v123 + 1) rfl hP148 hF150 ((hQ149.at g_607_5 rfl).trans ((hQ145.at g_607_5 rfl).trans e129)) (by omega) (by omega) (by omega) (by omega) (by omega))
        · intro h155
          refine wk_al4 r3_121 (wk_il5 r3_123 (wk_cv2 r3_125 kc_176_200 rfl (m200_176 _ M147 (v1 / 30) hP148 (by omega) (by omega)) (cqV ?_)))
          rintro M156 ⟨hP157, hQ158⟩
          have hF159 : Fr fm_m3_607v41 M0 M156 := hF150.tr hQ158 rfl
          refine wk_al0 r3_128 (wk_il2 r3_129 (wk_c1 r3_130 (wk_iadd r3_131 (wk_il3 r3_132 (wk_c1 r3_133 (wk_isub r3_134 (wk_cv3 r3_135 kc_607_2 rfl (m2_607v6 _ M156 (p2 + 1) (p3 - 1) hP157 (by omega) (by omega) (by omega) (by omega)) (cqI ?_))))))))
          rintro v164 M160 ⟨hP161, hQ162, h165, h166⟩
          have hF163 : Fr fm_m3_607v41 M0 M160 := hF159.tr hQ162 rfl
          refine wk_c1 r3_138 ?_
          refine wk_iceq r3_139 ⟨by omega, by omega⟩ (by decide) ?_ ?_
          · intro h167
            refine wk_c1 r3_146 (wk_is7 r3_147 rfl (wk_al4 r3_149 (wk_il5 r3_151 (wk_cv2 r3_153 kc_176_200 rfl (m200_176 _ M160 (v1 / 30) hP161 (by omega) (by omega)) (cqV ?_)))))
            rintro M168 ⟨hP169, hQ170⟩
            have hF171 : Fr fm_m3_607v41 M0 M168 := hF163.tr hQ170 rfl
            refine wk_inc8 r3_156 rfl (wk_goto r3_159 ?_)
            exact wp_fg (le_s (le_s (le_s (le_s (le_s (le_s (le_s (le_s (le_s le_0))))))))) (ih177 (2 - (v123 + 1)).toNat (by omega) M168 0 (v123 + 1) rfl hP169 hF171 ((hQ170.at g_607_5 rfl).trans ((hQ162.at g_607_5 rfl).trans ((hQ158.at g_607_5 rfl).trans ((hQ149.at g_607_5 rfl).trans ((hQ145.at g_607_5 rfl).trans e129))))) (by omega) (by omega) (by omega) (by omega) (by omega))
          · intro h172
            refine wk_c1 r3_142 (wk_goto r3_143 (wk_is7 r3_147 rfl (wk_al4 r3_149 (wk_il5 r3_151 (wk_cv2 r3_153 kc_176_200 rfl (m200_176 _ M160 (v1 / 30) hP161 (by omega) (by omega)) (cqV ?_))))))
            rintro M173 ⟨hP174, hQ175⟩
            have hF176 : Fr fm_m3_607v41 M0 M173 := hF163.tr hQ175 rfl
            refine wk_inc8 r3_156 rfl (wk_goto r3_159 ?_)
            exact wp_fg (le_s (le_s (le_s (le_s (le_s (le_s (le_s (le_s (le_s le_0))))))))) (ih177 (2 - (v123 + 1)).toNat (by omega) M173 1 (v123 + 1) rfl hP174 hF176 ((hQ175.at g_607_5 rfl).trans ((hQ162.at g_607_5 rfl).trans ((hQ158.at g_607_5 rfl).trans ((hQ149.at g_607_5 rfl).trans ((hQ145.at g_607_5 rfl).trans e129))))) (by omega) (by omega) (by omega) (by omega) (by omega))
  exact wp_fg (le_s (le_n (le_s (le_s (le_s (le_s (le_s (le_s (le_s le_0))))))))) (c64_177 _ M13 1 0 rfl hP14 hF16 ((hQ15.at g_607_5 rfl).trans e7) (by omega) (by omega) (by omega) (by omega) (by omega))
def fm_m2_607v5 : Nat := 16741913844773229565887860231287872390430720
/-- IslandHall$Asker.opener -/
theorem m2_607v5 {B : eB} (d : Nat) (M0 : Mm) (p1 : Int) (p2 : Int) (hP0 : Pw M0) (l1 : 0 ≤ p1) (u1 : p1 ≤ 0) (l2 : 1 ≤ p2) (u2 : p2 ≤ 3) : Ct B (d + 10) 2 [R 607, I p1, I p2] M0 (qI fun z M => Pw M ∧ Fr fm_m2_607v5 M0 M ∧ (-1) ≤ z ∧ z ≤ 9) := by
  refine ct_of (d := d + 9) (k := 1) (L := [some (R 607), some (I p1), some (I p2), none]) rfl rfl rfl ?_
  have hF0 := Fr.rf fm_m2_607v5 M0
  generalize hQ : (qI fun z M => Pw M ∧ Fr fm_m2_607v5 M0 M ∧ (-1) ≤ z ∧ z ≤ 9) = Q
  refine wk_il2 r2_0 ?_
  refine wk_ifle r2_1 ⟨by omega, by omega⟩ ?_ ?_
  · intro h1
    exfalso
    omega
  · intro h2
    refine wk_il1 r2_4 (wk_c1 r2_5 ?_)
    refine wk_icge r2_6 ⟨by omega, by omega⟩ (by decide) ?_ ?_
    · intro h3
      exfalso
      omega
    · intro h4
      refine wk_al0 r2_9 (wk_getfr r2_10 fd_607_0 (br_607_0 hP0) (wk_al0 r2_13 (wk_getfr r2_14 fd_607_3 (br_607_3 hP0) (wk_il1 r2_17 (wk_raldb r2_18 ar_608 ⟨by omega, by omega⟩ (fun q0 q1 => ba_608 hP0 q0 q1) (wk_c1 r2_19 (wk_il2 r2_20 (wk_shl1 3 8 r2_21 ⟨by omega, by omega⟩ ⟨pwl_3, by decide⟩ ?_))))))))
      intro v5 h6 h7 h8
      refine wk_cv3 r2_22 kc_174_150 rfl (m150_174_f609v3 _ M0 (609 + p1) v5 hP0 (by omega) (by omega) (by omega) (by omega)) (cqI ?_)
      rintro v13 M9 ⟨hP10, hQ11, h14, h15⟩
      have hF12 : Fr fm_m2_607v5 M0 M9 := hF0.tr hQ11 rfl
      refine wk_ifne r2_25 ⟨by omega, by omega⟩ ?_ ?_
      · intro h16
        refine wk_c1 r2_30 (wk_is3 r2_31 rfl ?_)
        have c32_185 : ∀ (k185 : Nat) (M167 : Mm) (v164 : Int), (10 - v164).toNat = k185 → Pw M167 → Fr fm_m2_607v5 M0 M167 → 0 ≤ v164 → v164 ≤ 10 → Wp B (d + 9) 2 32 [some (R 607), some (I p1), some (I p2), some (I v164)] [] M167 Q := by
          refine lp_ind ?_
          intro k185 ih185 M167 v164 hk185 hP168 hF169 h165 h166
          refine wk_il3 r2_32 (wk_al0 r2_33 (wk_getfb r2_34 fd_607_4 (bf_607_4 hP168) ?_))
          intro v170 h172 h173 e171
          refine wk_icge r2_37 ⟨by omega, by omega⟩ ⟨by omega, by omega⟩ ?_ ?_
          · intro h174
            refine wk_c1 r2_58 ?_
            subst hQ; exact wk_iret r2_59 (⟨rfl, _, rfl, hP168, hF169, by omega, by omega⟩)
          · intro h175
            refine wk_al0 r2_40 (wk_il3 r2_41 (wk_il1 r2_42 (wk_il2 r2_43 (wk_cv4 r2_44 kc_607_3 rfl (m3_607v41 _ M167 v164 p1 p2 hP168 (by omega) (by omega) (by omega) (by omega) (by omega) (by omega)) (cqI ?_)))))
            rintro v180 M176 ⟨hP177, hQ178, h181, h182⟩
            have hF179 : Fr fm_m2_607v5 M0 M176 := hF169.tr hQ178 rfl
            refine wk_ifeq r2_47 ⟨by omega, by omega⟩ ?_ ?_
            · intro h183
              refine wk_inc3 r2_52 rfl (wk_goto r2_55 ?_)
              exact wp_fg (le_s (le_s (le_s (le_s le_0)))) (ih185 (10 - (v164 + 1)).toNat (by omega) M176 (v164 + 1) rfl hP177 hF179 (by omega) (by omega))
            · intro h184
              refine wk_il3 r2_50 ?_
              subst hQ; exact wk_iret r2_51 (⟨rfl, _, rfl, hP177, hF179, by omega, by omega⟩)
        exact wp_fg (le_s (le_s (le_s (le_s le_0)))) (c32_185 _ M9 0 rfl hP10 hF12 (by omega) (by omega))
      · intro h186
        refine wk_c1 r2_28 ?_
        subst hQ; exact wk_iret r2_29 (⟨rfl, _, rfl, hP10, hF12, by omega, by omega⟩)
def fm_m4_607 : Nat := 19181057850862516471993329417358786930147328
/-- IslandHall$Asker.search -/
theorem m4_607 {B : eB} (d : Nat) (M0 : Mm) (p1 : Int) (p2 : Int) (hP0 : Pw M0) (l1 : 0 ≤ p1) (u1 : p1 ≤ 10) (l2 : 0 ≤ p2) (u2 : p2 ≤ 12) : Ct B (d + 11) 4 [R 607, I p1, I p2] M0 (qI fun z M => Pw M ∧ Fr fm_m4_607 M0 M ∧ (-1) ≤ z ∧ z ≤ 3) := by
  refine ct_of (d := d + 10) (k := 2) (L := [some (R 607), some (I p1), some (I p2), none, none]) rfl rfl rfl ?_
  have hF0 := Fr.rf fm_m4_607 M0
  generalize hQ : (qI fun z M => Pw M ∧ Fr fm_m4_607 M0 M ∧ (-1) ≤ z ∧ z ≤ 3) = Q
  refine wk_al0 r4_0 (wk_il1 r4_1 (wk_putfi81 r4_2 fd_607_4 (wk_nw g_607_4 rfl hP0 hF0 (uf_607_4 ⟨by omega, by omega⟩) ?_)))
  intro M1 hP2 hF3 e4
  refine wk_al0 r4_5 (wk_il2 r4_6 (wk_putfi81 r4_7 fd_607_5 (wk_nw g_607_5 rfl hP2 hF3 (uf_607_5 ⟨by omega, by omega⟩) ?_)))
  intro M5 hP6 hF7 e8
  refine wk_al0 r4_10 (wk_getfr r4_11 fd_607_0 (br_607_0 hP6) (wk_cv1 r4_14 kc_174_145 rfl (m145_174 _ M5 hP6) (cqR ?_)))
  rintro v13 M9 ⟨hP10, hQ11, h14, h15⟩
  obtain rfl : v13 = 301 := by omega
  obtain rfl := Fr.same hQ11
  refine wk_c1 r4_17 (wk_al0 r4_18 (wk_getfr r4_19 fd_607_3 (br_607_3 hP6) (wk_c1 r4_22 (wk_raldb r4_23 ar_608 (by decide) (fun q0 q1 => ba_608 hP6 q0 q1) (wk_c1 r4_24 (wk_al0 r4_25 (wk_getfr r4_26 fd_607_0 (br_607_0 hP6) (wk_getfi r4_29 fd_174_1 (br_174_1 hP6) (wk_copy110 r4_32 (arF_301 (by omega) (by omega)) (arF_609 (by omega) (by omega)) ⟨by decide, by decide, by decide, by omega, by omega, by omega⟩ rfl (wk_nc (fun i => t4_609 rfl rfl (by omega) (by omega) i) hP6 hF7 (fun i h0 h1 => by have := b4_301 hP6 (a := 301) (by omega) (by omega) h0 (by omega); exact (u4_609 (by omega) (by omega) ⟨by omega, by omega, by omega⟩)) ?_))))))))))
  intro M16 hP17 hF18 e19
  refine wk_al0 r4_35 (wk_getfr r4_36 fd_607_0 (br_607_0 hP17) (wk_al0 r4_39 (wk_getfr r4_40 fd_607_3 (br_607_3 hP17) (wk_c1 r4_43 (wk_raldb r4_44 ar_608 (by decide) (fun q0 q1 => ba_608 hP17 q0 q1) (wk_c1 r4_45 (wk_cv3 r4_46 kc_174_150 rfl (m150_174_f609 _ M16 (609 + 0) 1 hP17 (by omega) (by omega) (by decide) (by decide)) (cqI ?_))))))))
  rintro v24 M20 ⟨hP21, hQ22, h25, h26⟩
  have hF23 : Fr fm_m4_607 M0 M20 := hF18.tr hQ22 rfl
  refine wk_ifeq r4_49 ⟨by omega, by omega⟩ ?_ ?_
  · intro h27
    refine wk_c1 r4_59 (wk_is3 r4_60 rfl ?_)
    have c61_120 : ∀ (k120 : Nat) (M100 : Mm) (v97 : Int), (4 - v97).toNat = k120 → Pw M100 → Fr fm_m4_607 M0 M100 → M100 607 4 = p1 → M100 607 5 = p2 → 1 ≤ v97 → v97 ≤ 4 → Wp B (d + 10) 4 61 [some (R 607), none, none, some (I v97), none] [] M100 Q := by
      refine lp_ind ?_
      intro k120 ih120 M100 v97 hk120 hP101 hF102 e103 e104 h98 h99
      refine wk_il3 r4_61 (wk_c1 r4_62 ?_)
      refine wk_icgt r4_63 ⟨by omega, by omega⟩ (by decide) ?_ ?_
      · intro h105
        refine wk_c1 r4_94 ?_
        subst hQ; exact wk_iret r4_95 (⟨rfl, _, rfl, hP101, hF102, by omega, by omega⟩)
      · intro h106
        refine wk_al0 r4_66 (wk_c1 r4_67 (wk_il3 r4_68 (wk_cv3 r4_69 kc_607_2 rfl (m2_607v5 _ M100 0 v97 hP101 (by decide) (by decide) (by omega) (by omega)) (cqI ?_))))
        rintro v111 M107 ⟨hP108, hQ109, h112, h113⟩
        have hF110 : Fr fm_m4_607 M0 M107 := hF102.tr hQ109 rfl
        refine wk_is4 r4_72 rfl (wk_il4 r4_74 (wk_c1 r4_76 ?_))
        refine wk_iceq r4_77 ⟨by omega, by omega⟩ (by decide) ?_ ?_
        · intro h114
          refine wk_inc3 r4_88 rfl (wk_goto r4_91 ?_)
          exact wp_fg (le_s (le_s (le_s (le_s (le_n le_0))))) (ih120 (4 - (v97 + 1)).toNat (by omega) M107 (v97 + 1) rfl hP108 hF110 ((hQ109.at g_607_4 rfl).trans e103) ((hQ109.at g_607_5 rfl).trans e104) (by omega) (by omega))
        · intro h115
          refine wk_al0 r4_80 (wk_il4 r4_81 (wk_putfi81 r4_83 fd_607_6 (wk_nw g_607_6 rfl hP108 hF110 (uf_607_6 ⟨by omega, by omega⟩) ?_)))
          intro M116 hP117 hF118 e119
          refine wk_il3 r4_86 ?_
          subst hQ; exact wk_iret r4_87 (⟨rfl, _, rfl, hP117, hF118, by omega, by omega⟩)
    exact wp_fg (le_s (le_n (le_n (le_s (le_s le_0))))) (c61_120 _ M20 1 rfl hP21 hF23 ((hQ22.at g_607_4 rfl).trans (cpy_no e19 (mUp_no e8 (mUp_at e4) (Or.inr (by decide))) (by decide))) ((hQ22.at g_607_5 rfl).trans (cpy_no e19 (mUp_at e8) (by decide))) (by omega) (by omega))
  · intro h121
    refine wk_al0 r4_52 (wk_c1 r4_53 (wk_putfi81 r4_54 fd_607_6 (wk_nw g_607_6 rfl hP21 hF23 (uf_607_6 (by decide)) ?_)))
    intro M122 hP123 hF124 e125
    refine wk_c1 r4_57 ?_
    subst hQ; exact wk_iret r4_58 (⟨rfl, _, rfl, hP123, hF124, by omega, by omega⟩)
def fm_m19_0 : Nat := 19185098909075569733174474152988617807495168
/-- IslandHall.fewest -/
theorem m19_0 {B : eB} (d : Nat) (M0 : Mm) (p1 : Int) (hP0 : Pw M0) (l1 : (-2147483648) ≤ p1) (u1 : p1 ≤ 2147483647) : Ct B (d + 12) 19 [R 0, I p1] M0 (qX 0 (fun M => Pw M ∧ Fr (fm_m19_0 ||| 1) M0 M ∧ M (-1) 0 = M0 (-1) 0 + 1) (qI fun z M => Pw M ∧ Fr fm_m19_0 M0 M ∧ (-2) ≤ z ∧ z ≤ 3)) := by
  refine ct_of (d := d + 11) (k := 0) (L := [some (R 0), some (I p1)]) rfl rfl rfl ?_
  have hF0 := Fr.rf fm_m19_0 M0
  generalize hQ : (qX 0 (fun M => Pw M ∧ Fr (fm_m19_0 ||| 1) M0 M ∧ M (-1) 0 = M0 (-1) 0 + 1) (qI fun z M => Pw M ∧ Fr fm_m19_0 M0 M ∧ (-2) ≤ z ∧ z ≤ 3)) = Q
  refine wk_il1 r19_0 (wk_cs102_1 r19_1 rfl (m29 _ M0 p1 hP0 (by omega) (by omega)) (cqX (fun _ _ x5 => by subst hQ; exact Or.inl ⟨rfl, x5.1, Fr.trx hF0 x5.2.1 rfl, (by rw [x5.2.2, hF0.at g_below rfl])⟩) (cqV ?_)))
  rintro M1 ⟨hP2, hQ3, h8, h9⟩
  obtain rfl := Fr.same hQ3
  refine wk_al0 r19_4 (wk_getfr r19_5 fd_0_6 (br_0_6 hP0) (wk_al0 r19_8 (wk_getfr r19_9 fd_0_7 (br_0_7 hP0) (wk_cv1 r19_12 kc_138_229 rfl (m229_138 _ M0 hP0) (cqR ?_)))))
  rintro v14 M10 ⟨hP11, hQ12, h15, h16⟩
  obtain rfl := Fr.same hQ12
  refine wk_cv2 r19_15 kc_10_194 rfl (m194_10_f155 _ M0 v14 hP0 (by omega) (by omega)) (cqI ?_)
  rintro v21 M17 ⟨hP18, hQ19, h22, h23⟩
  obtain rfl := Fr.same hQ19
  refine wk_c2 r19_18 ?_
  refine wk_icle r19_20 ⟨by omega, by omega⟩ (by decide) ?_ ?_
  · intro h24
    refine wk_al0 r19_26 (wk_getfr r19_27 fd_0_15 (br_0_15 hP0) (wk_al0 r19_30 (wk_getfr r19_31 fd_0_7 (br_0_7 hP0) (wk_il1 r19_34 (wk_cv3 r19_35 kc_174_146 rfl (m146_174_138 _ M0 p1 hP0 (by omega) (by omega)) (cqV ?_))))))
    rintro M25 ⟨hP26, hQ27⟩
    have hF28 : Fr fm_m19_0 M0 M25 := hF0.tr hQ27 rfl
    refine wk_al0 r19_38 (wk_getfr r19_39 fd_0_16 (br_0_16 hP26) (wk_al0 r19_42 (wk_getfb r19_43 fd_0_11 (bf_0_11 hP26) ?_)))
    intro v29 h31 h32 e30
    refine wk_al0 r19_46 (wk_getfr r19_47 fd_0_7 (br_0_7 hP26) (wk_getfb r19_50 fd_138_5 (bf_138_5 hP26) ?_))
    intro v33 h35 h36 e34
    refine wk_cv3 r19_53 kc_607_4 rfl (m4_607 _ M25 v29 v33 hP26 (by omega) (by omega) (by omega) (by omega)) (cqI ?_)
    rintro v41 M37 ⟨hP38, hQ39, h42, h43⟩
    have hF40 : Fr fm_m19_0 M0 M37 := hF28.tr hQ39 rfl
    subst hQ; exact wk_iret r19_56 (Or.inr ⟨rfl, _, rfl, hP38, hF40, by omega, by omega⟩)
  · intro h44
    refine wk_c2 r19_23 ?_
    subst hQ; exact wk_iret r19_25 (Or.inr ⟨rfl, _, rfl, hP0, hF0, by omega, by omega⟩)
def fm_m20_0 : Nat := 0
/-- IslandHall.first -/
theorem m20_0 {B : eB} (d : Nat) (M0 : Mm) (hP0 : Pw M0)  : Ct B (d + 1) 20 [R 0] M0 (qI fun z M => Pw M ∧ Fr fm_m20_0 M0 M ∧ (-1) ≤ z ∧ z ≤ 9) := by
  refine ct_of (d := d + 0) (k := 0) (L := [some (R 0)]) rfl rfl rfl ?_
  have hF0 := Fr.rf fm_m20_0 M0
  generalize hQ : (qI fun z M => Pw M ∧ Fr fm_m20_0 M0 M ∧ (-1) ≤ z ∧ z ≤ 9) = Q
  refine wk_al0 r20_0 (wk_getfr r20_1 fd_0_16 (br_0_16 hP0) (wk_getfb r20_4 fd_607_6 (bf_607_6 hP0) ?_))
  intro v1 h3 h4 e2
  subst hQ; exact wk_iret r20_7 (⟨rfl, _, rfl, hP0, hF0, by omega, by omega⟩)
def fm_m22_0 : Nat := 49152
/-- IslandHall.hide -/
theorem m22_0 {B : eB} (d : Nat) (M0 : Mm) (p1 : Int) (p2 : Int) (hP0 : Pw M0) (l1 : (-2147483648) ≤ p1) (u1 : p1 ≤ 2147483647) (l2 : (-2147483648) ≤ p2) (u2 : p2 ≤ 2147483647) : Ct B (d + 3) 22 [R 0, I p1, I p2] M0 (qI fun z M => Pw M ∧ Fr fm_m22_0 M0 M ∧ 0 ≤ z ∧ z ≤ 1) := by
  refine ct_of (d := d + 2) (k := 1) (L := [some (R 0), some (I p1), some (I p2), none]) rfl rfl rfl ?_
  have hF0 := Fr.rf fm_m22_0 M0
  generalize hQ : (qI fun z M => Pw M ∧ Fr fm_m22_0 M0 M ∧ 0 ≤ z ∧ z ≤ 1) = Q
  refine wk_al0 r22_0 (wk_getfr r22_1 fd_0_6 (br_0_6 hP0) (wk_al0 r22_4 (wk_getfr r22_5 fd_0_7 (br_0_7 hP0) (wk_cv1 r22_8 kc_138_229 rfl (m229_138 _ M0 hP0) (cqR ?_)))))
  rintro v5 M1 ⟨hP2, hQ3, h6, h7⟩
  obtain rfl := Fr.same hQ3
  refine wk_il1 r22_11 (wk_cv3 r22_12 kc_10_201 rfl (m201_10_f155 _ M0 v5 p1 hP0 (by omega) (by omega) (by omega) (by omega)) (cqI ?_))
  rintro v12 M8 ⟨hP9, hQ10, h13, h14⟩
  obtain rfl := Fr.same hQ10
  refine wk_is3 r22_15 rfl (wk_il3 r22_16 (wk_c1 r22_17 ?_))
  refine wk_icne r22_18 ⟨by omega, by omega⟩ (by decide) ?_ ?_
  · intro h15
    refine wk_al0 r22_23 (wk_il3 r22_24 (wk_putfi81 r22_25 fd_0_13 (wk_nw g_0_13 rfl hP0 hF0 (uf_0_13 ⟨by omega, by omega⟩) ?_)))
    intro M16 hP17 hF18 e19
    refine wk_al0 r22_28 (wk_il2 r22_29 (wk_putfi81 r22_30 fd_0_14 (wk_nw g_0_14 rfl hP17 hF18 (uf_0_14 ⟨by omega, by omega⟩) ?_)))
    intro M20 hP21 hF22 e23
    refine wk_c1 r22_33 ?_
    subst hQ; exact wk_zret r22_34 (by decide) (⟨rfl, _, rfl, hP21, hF22, by omega, by omega⟩)
  · intro h24
    refine wk_c1 r22_21 ?_
    subst hQ; exact wk_zret r22_22 (by decide) (⟨rfl, _, rfl, hP0, hF0, by omega, by omega⟩)
def fm_m21_0 : Nat := 18446744073709584384
/-- IslandHall.hiddenWord -/
theorem m21_0 {B : eB} (d : Nat) (M0 : Mm) (p1 : Int) (c2 : Int) (x0_13 : Int) (hP0 : Pw M0) (l1 : 0 ≤ p1) (u1 : p1 ≤ 6) (hC2 : isC c2) (ex0_13 : M0 0 13 = x0_13) (lx0_13 : 0 ≤ x0_13) (ux0_13 : x0_13 ≤ 2999) : Ct B (d + 4) 21 [R 0, I p1, R c2] M0 (qI fun z M => Pw M ∧ Fr fm_m21_0 M0 M ∧ 0 ≤ z ∧ z ≤ 1) := by
  refine ct_of (d := d + 3) (k := 3) (L := [some (R 0), some (I p1), some (R c2), none, none, none]) rfl rfl rfl ?_
  have hF0 := Fr.rf fm_m21_0 M0
  generalize hQ : (qI fun z M => Pw M ∧ Fr fm_m21_0 M0 M ∧ 0 ≤ z ∧ z ≤ 1) = Q
  refine wk_al0 r21_0 (wk_getfr r21_1 fd_0_6 (br_0_6 hP0) (wk_al0 r21_4 (wk_getfi r21_5 fd_0_13 ex0_13 (wk_il1 r21_8 (wk_cv3 r21_9 kc_10_197 rfl (m197_10 _ M0 x0_13 p1 hP0 (by omega) (by omega) (by omega) (by omega)) (cqI ?_))))))
  rintro v5 M1 ⟨hP2, hQ3, h6, h7⟩
  obtain rfl := Fr.same hQ3
  refine wk_c1 r21_12 ?_
  refine wk_icne r21_13 ⟨by omega, by omega⟩ (by decide) ?_ ?_
  · intro h8
    refine wk_al0 r21_42 (wk_getfi r21_43 fd_0_13 ex0_13 (wk_c2 r21_46 (wk_ishrc r21_48 ⟨by omega, by omega⟩ (by decide) pwl_6 (wk_is3 r21_49 rfl (wk_al0 r21_50 (wk_getfr r21_51 fd_0_6 (br_0_6 hP0) (wk_il1 r21_54 (wk_c1 r21_55 (wk_al0 r21_56 (wk_getfr r21_57 fd_0_6 (br_0_6 hP0) (wk_al2 r21_60 (wk_il3 r21_61 (wk_cv3 r21_62 kc_10_207 rfl (m207_10v8 _ M0 c2 (x0_13 / 64) hP0 hC2 (by omega) (by omega)) (cqL ?_))))))))))))))
    rintro n14 M10 ⟨hP11, hQ12, h15⟩
    have hF13 : Fr fm_m21_0 M0 M10 := hF0.tr hQ12 rfl
    refine wk_il3 r21_65 (wk_cv5 r21_66 kc_10_189 rfl (m189_10v17 _ M10 p1 0 n14 (x0_13 / 64) hP11 (by omega) (by omega) (by decide) (by decide) (by omega) (by omega) (by omega)) (cqL ?_))
    rintro n20 M16 ⟨hP17, hQ18, h21⟩
    obtain rfl := Fr.same hQ18
    refine wk_ls4 r21_69 rfl (wk_ll4 r21_71 (wk_al0 r21_73 (wk_getfi r21_74 fd_0_13 ((hQ12.at g_0_13 rfl).trans ex0_13) (wk_c2 r21_77 (wk_iandc 6 64 r21_79 ⟨rfl, by decide⟩ rfl (wk_lushrb r21_80 (by omega) ⟨by omega, by omega⟩ ?_))))))
    intro n22 h23 h24
    refine wk_c6 r21_81 (wk_land r21_82 ?_)
    intro n25 h26 h27 h28 h29
    refine wk_c6 r21_83 ?_
    refine wk_lcmp r21_84 (by omega) (by omega) ?_ ?_
    · intro h30
      refine wk_ifne r21_85 (by decide) ?_ ?_
      · intro h36
        exfalso
        omega
      · intro h37
        refine wk_c1 r21_88 (wk_goto r21_89 ?_)
        subst hQ; exact wk_iret r21_93 (⟨rfl, _, rfl, hP11, hF13, by omega, by omega⟩)
    · intro h31 v35 h32 h33 h34
      refine wk_ifne r21_85 ⟨by omega, by omega⟩ ?_ ?_
      · intro h38
        refine wk_c1 r21_92 ?_
        subst hQ; exact wk_iret r21_93 (⟨rfl, _, rfl, hP11, hF13, by omega, by omega⟩)
      · intro h39
        exfalso
        omega
  · intro h40
    refine wk_al0 r21_16 (wk_al0 r21_17 (wk_getfb r21_18 fd_0_14 (bf_0_14 hP0) ?_))
    intro v41 h43 h44 e42
    refine wk_c5 r21_21 (wk_imul r21_24 (wk_wrap ?_))
    intro v45 h46 h47 h48
    refine wk_c3 r21_25 (wk_iadd r21_28 (wk_wrap ?_))
    intro v49 h50 h51 h52
    refine wk_putfi81 r21_29 fd_0_14 (wk_nw g_0_14 rfl hP0 hF0 (uf_0_14 ⟨by omega, by omega⟩) ?_)
    intro M53 hP54 hF55 e56
    refine wk_al0 r21_32 (wk_getfi r21_33 fd_0_14 (mUp_at e56) (wk_c2 r21_36 (wk_iushrb r21_38 (by decide) ?_)))
    intro v57 h58 h59 h60
    refine wk_c1 r21_39 (wk_iandc 1 2 r21_40 ⟨rfl, by decide⟩ rfl ?_)
    subst hQ; exact wk_iret r21_41 (⟨rfl, _, rfl, hP54, hF55, by omega, by omega⟩)
def fm_m36_0 : Nat := 10003865907347655400903180288
/-- IslandHall.reply -/
theorem m36_0 {B : eB} (d : Nat) (M0 : Mm) (p1 : Int) (hP0 : Pw M0) (l1 : (-2147483648) ≤ p1) (u1 : p1 ≤ 2147483647) : Ct B (d + 7) 36 [R 0, I p1] M0 (qX 0 (fun M => Pw M ∧ Fr (fm_m36_0 ||| 1) M0 M ∧ M (-1) 0 = M0 (-1) 0 + 1) (qI fun z M => Pw M ∧ Fr fm_m36_0 M0 M ∧ (-1) ≤ z ∧ z ≤ 1)) := by
  refine ct_of (d := d + 6) (k := 3) (L := [some (R 0), some (I p1), none, none, none]) rfl rfl rfl ?_
  have hF0 := Fr.rf fm_m36_0 M0
  generalize hQ : (qX 0 (fun M => Pw M ∧ Fr (fm_m36_0 ||| 1) M0 M ∧ M (-1) 0 = M0 (-1) 0 + 1) (qI fun z M => Pw M ∧ Fr fm_m36_0 M0 M ∧ (-1) ≤ z ∧ z ≤ 1)) = Q
  refine wk_il1 r36_0 ?_
  refine wk_iflt r36_1 ⟨by omega, by omega⟩ ?_ ?_
  · intro h1
    subst hQ; exact wk_thr112 r36_12 rfl (Or.inl ⟨rfl, hP0.thr, (Fr.thr hF0), (by rw [mUp_eq, hF0.at g_below rfl])⟩)
  · intro h2
    refine wk_il1 r36_4 (wk_al0 r36_5 (wk_getfb r36_6 fd_0_11 (bf_0_11 hP0) ?_))
    intro v3 h5 h6 e4
    refine wk_iclt r36_9 ⟨by omega, by omega⟩ ⟨by omega, by omega⟩ ?_ ?_
    · intro h7
      refine wk_al0 r36_23 (wk_getfb r36_24 fd_0_13 (bf_0_13 hP0) ?_)
      intro v8 h10 h11 e9
      refine wk_c1 r36_27 ?_
      refine wk_iceq r36_28 ⟨by omega, by omega⟩ (by decide) ?_ ?_
      · intro h12
        refine wk_c1 r36_43 ?_
        subst hQ; exact wk_iret r36_44 (Or.inr ⟨rfl, _, rfl, hP0, hF0, by omega, by omega⟩)
      · intro h13
        refine wk_al0 r36_31 (wk_getfr r36_32 fd_0_7 (br_0_7 hP0) (wk_getfb r36_35 fd_138_5 (bf_138_5 hP0) ?_))
        intro v14 h16 h17 e15
        refine wk_c2 r36_38 ?_
        refine wk_iclt r36_40 ⟨by omega, by omega⟩ (by decide) ?_ ?_
        · intro h18
          refine wk_al0 r36_45 (wk_getfr r36_46 fd_0_10 (br_0_10 hP0) (wk_il1 r36_49 (wk_ialdb r36_50 ar_169 ⟨by omega, by omega⟩ (fun q0 q1 => ba_169 hP0 q0 q1) ?_)))
          intro v19 h21 h22 e20
          refine wk_c2 r36_51 (wk_idiv r36_53 ⟨by omega, by omega⟩ (by decide) (wk_is2 r36_54 rfl (wk_al0 r36_55 (wk_getfr r36_56 fd_0_10 (br_0_10 hP0) (wk_il1 r36_59 (wk_iald r36_60 ar_169 ⟨by omega, by omega⟩ e20 (wk_c2 r36_61 (wk_irem r36_63 ⟨by omega, by omega⟩ (by decide) (wk_is3 r36_64 rfl (wk_al0 r36_65 (wk_il2 r36_66 (wk_al0 r36_67 (wk_getfr r36_68 fd_0_8 (br_0_8 hP0) (wk_il3 r36_71 (wk_caldb r36_72 ar_168 ⟨by omega, by omega⟩ (fun q0 q1 => ba_168 hP0 q0 q1) ?_)))))))))))))))
          intro v24 e25
          have hC26 : isC v24 := Or.inr (by omega)
          refine wk_cv3 r36_73 kc_0_21 rfl (m21_0 _ M0 (v19 / 30) v24 v8 hP0 (by omega) (by omega) hC26 e9 (by omega) (by omega)) (cqI ?_)
          rintro v31 M27 ⟨hP28, hQ29, h32, h33⟩
          have hF30 : Fr fm_m36_0 M0 M27 := hF0.tr hQ29 rfl
          refine wk_is4 r36_76 rfl (wk_al0 r36_78 (wk_il2 r36_79 (wk_il3 r36_80 (wk_il4 r36_81 (wk_cv4 r36_83 kc_0_35 rfl (m35_0v1 _ M27 (v19 / 30) (v19 % 30) v31 hP28 (by omega) (by omega) (by omega) (by omega) (by omega) (by omega)) (cqI ?_))))))
          rintro v38 M34 ⟨hP35, hQ36, h39, h40⟩
          have hF37 : Fr fm_m36_0 M0 M34 := hF30.tr hQ36 rfl
          refine wk_popi r36_86 (wk_il4 r36_87 ?_)
          subst hQ; exact wk_iret r36_89 (Or.inr ⟨rfl, _, rfl, hP35, hF37, by omega, by omega⟩)
        · intro h41
          refine wk_c1 r36_43 ?_
          subst hQ; exact wk_iret r36_44 (Or.inr ⟨rfl, _, rfl, hP0, hF0, by omega, by omega⟩)
    · intro h42
      subst hQ; exact wk_thr112 r36_12 rfl (Or.inl ⟨rfl, hP0.thr, (Fr.thr hF0), (by rw [mUp_eq, hF0.at g_below rfl])⟩)
def fm_m149_174_677 : Nat := 0
/-- IslandHall$Crowd.someOf -/
theorem m149_174_677 {B : eB} (d : Nat) (M0 : Mm) (hP0 : Pw M0)  : Ct B (d + 2) 149 [R 174, R 677] M0 (qI fun z M => Pw M ∧ Fr fm_m149_174_677 M0 M ∧ (-1) ≤ z ∧ z ≤ 299) := by
  refine ct_of (d := d + 1) (k := 1) (L := [some (R 174), some (R 677), none]) rfl rfl rfl ?_
  have hF0 := Fr.rf fm_m149_174_677 M0
  generalize hQ : (qI fun z M => Pw M ∧ Fr fm_m149_174_677 M0 M ∧ (-1) ≤ z ∧ z ≤ 299) = Q
  refine wk_c1 r149_0 (wk_is2 r149_1 rfl ?_)
  have c2_330 : ∀ (k330 : Nat) (v283 : Int), (5 - v283).toNat = k330 → 0 ≤ v283 → v283 ≤ 5 → Wp B (d + 1) 149 2 [some (R 174), some (R 677), some (I v283)] [] M0 Q := by
    refine lp_ind ?_
    intro k330 ih330 v283 hk330 h284 h285
    refine wk_il2 r149_2 (wk_al0 r149_3 (wk_getfr r149_4 fd_174_0 (br_174_0 hP0) (wk_getfb r149_7 fd_176_10 (bf_176_10 hP0) ?_)))
    intro v286 h288 h289 e287
    refine wk_icge r149_10 ⟨by omega, by omega⟩ ⟨by omega, by omega⟩ ?_ ?_
    · intro h290
      refine wk_c1 r149_49 ?_
      subst hQ; exact wk_iret r149_50 (⟨rfl, _, rfl, hP0, hF0, by omega, by omega⟩)
    · intro h291
      refine wk_al1 r149_13 (wk_il2 r149_14 (wk_laldb r149_15 (arF_677 (by omega) (by omega)) ⟨by omega, by omega⟩ (fun q0 q1 => ⟨(b4_677 hP0 (by omega) (by omega) q0 q1).1, (b4_677 hP0 (by omega) (by omega) q0 q1).2.1⟩) (by decide) ?_))
      intro n292 h294 h295 e293
      have h296 : v283 = 4 → n292 ≤ 17592186044415 := by have := b4_677 hP0 (a := 677) (i := v283) (by omega) (by omega) (by omega) (by omega); omega
      refine wk_c6 r149_16 ?_
      refine wk_lcmp r149_17 (by omega) (by omega) ?_ ?_
      · intro h297
        refine wk_ifeq r149_18 (by decide) ?_ ?_
        · intro h303
          refine wk_inc2 r149_43 rfl (wk_goto r149_46 ?_)
          exact wp_fg (le_s (le_s (le_s le_0))) (ih330 (5 - (v283 + 1)).toNat (by omega) (v283 + 1) rfl (by omega) (by omega))
        · intro h304
          exfalso
          omega
      · intro h298 v302 h299 h300 h301
        refine wk_ifeq r149_18 ⟨by omega, by omega⟩ ?_ ?_
        · intro h305
          exfalso
          omega
        · intro h306
          refine wk_c2 r149_21 (wk_il2 r149_23 (wk_imul r149_24 (wk_al1 r149_25 (wk_il2 r149_26 (wk_lald r149_27 (arF_677 (by omega) (by omega)) ⟨by omega, by omega⟩ e293 (wk_c7 r149_28 (wk_lxor r149_31 ?_)))))))
          intro n308 h309 h310
          refine wk_al1 r149_32 (wk_il2 r149_33 (wk_lald r149_34 (arF_677 (by omega) (by omega)) ⟨by omega, by omega⟩ e293 (wk_c6 r149_35 (wk_lsubb r149_36 (by omega) ?_))))
          intro n312 h314 h313
          refine wk_land r149_37 ?_
          intro n315 h316 h317 h318 h319
          refine wk_cs102_1 r149_38 rfl (m245 _ M0 n315 hP0 (by omega)) (cqI ?_)
          rintro v325 M320 ⟨hP321, hQ322, h326, h327, xh324⟩
          obtain rfl := Fr.same hQ322
          have h328 := tz_b (by omega) (by omega) h310 h313 h319
          have h329 : 64 * v283 + v325 ≤ 299 := by omega
          refine wk_iadd r149_41 ?_
          subst hQ; exact wk_iret r149_42 (⟨rfl, _, rfl, hP0, hF0, by omega, by omega⟩)
  exact wp_fg (le_s (le_s (le_s le_0))) (c2_330 _ 0 rfl (by omega) (by omega))
def fm_m151_174_677 : Nat := 0
/-- IslandHall$Crowd.tellsOne -/
theorem m151_174_677 {B : eB} (d : Nat) (M0 : Mm) (hP0 : Pw M0)  : Ct B (d + 3) 151 [R 174, R 677] M0 (qI fun z M => Pw M ∧ Fr fm_m151_174_677 M0 M ∧ 0 ≤ z ∧ z ≤ 1) := by
  refine ct_of (d := d + 2) (k := 3) (L := [some (R 174), some (R 677), none, none, none]) rfl rfl rfl ?_
  have hF0 := Fr.rf fm_m151_174_677 M0
  generalize hQ : (qI fun z M => Pw M ∧ Fr fm_m151_174_677 M0 M ∧ 0 ≤ z ∧ z ≤ 1) = Q
  refine wk_al0 r151_0 (wk_al1 r151_1 (wk_cv2 r151_2 kc_174_149 rfl (m149_174_677 _ M0 hP0) (cqI ?_)))
  rintro v5 M1 ⟨hP2, hQ3, h6, h7⟩
  obtain rfl := Fr.same hQ3
  refine wk_is2 r151_5 rfl (wk_il2 r151_6 (wk_c1 r151_7 ?_))
  refine wk_icne r151_8 ⟨by omega, by omega⟩ (by decide) ?_ ?_
  · intro h8
    refine wk_al0 r151_13 (wk_getfr r151_14 fd_174_3 (br_174_3 hP0) (wk_al0 r151_17 (wk_getfr r151_18 fd_174_2 (br_174_2 hP0) (wk_il2 r151_21 (wk_ialdb r151_22 ar_304 ⟨by omega, by omega⟩ (fun q0 q1 => ba_304 hP0 q0 q1) ?_)))))
    intro v9 h11 h12 e10
    refine wk_raldb r151_23 ar_305 ⟨by omega, by omega⟩ (fun q0 q1 => ba_305 hP0 q0 q1) (wk_as3 r151_24 rfl (wk_c1 r151_25 (wk_is4 r151_26 rfl ?_)))
    have c28_265 : ∀ (k265 : Nat) (v229 : Int), (5 - v229).toNat = k265 → 0 ≤ v229 → v229 ≤ 5 → Wp B (d + 2) 151 28 [some (R 174), some (R 677), none, some (R (306 + v9)), some (I v229)] [] M0 Q := by
      refine lp_ind ?_
      intro k265 ih265 v229 hk265 h230 h231
      refine wk_il4 r151_28 (wk_al0 r151_30 (wk_getfr r151_31 fd_174_0 (br_174_0 hP0) (wk_getfb r151_34 fd_176_10 (bf_176_10 hP0) ?_)))
      intro v232 h234 h235 e233
      refine wk_icge r151_37 ⟨by omega, by omega⟩ ⟨by omega, by omega⟩ ?_ ?_
      · intro h236
        refine wk_c1 r151_66 ?_
        subst hQ; exact wk_zret r151_67 (by decide) (⟨rfl, _, rfl, hP0, hF0, by omega, by omega⟩)
      · intro h237
        refine wk_al1 r151_40 (wk_il4 r151_41 (wk_laldb r151_43 (arF_677 (by omega) (by omega)) ⟨by omega, by omega⟩ (fun q0 q1 => ⟨(b4_677 hP0 (by omega) (by omega) q0 q1).1, (b4_677 hP0 (by omega) (by omega) q0 q1).2.1⟩) (by decide) ?_))
        intro n238 h240 h241 e239
        have h242 : v229 = 4 → n238 ≤ 17592186044415 := by have := b4_677 hP0 (a := 677) (i := v229) (by omega) (by omega) (by omega) (by omega); omega
        refine wk_al3 r151_44 (wk_il4 r151_45 (wk_laldb r151_47 (arF_306 (by omega) (by omega)) ⟨by omega, by omega⟩ (fun q0 q1 => baF_306 hP0 (by omega) (by omega) q0 q1) (by decide) ?_))
        intro n243 h245 h246 e244
        refine wk_c7 r151_48 (wk_lxor r151_51 ?_)
        intro n247 h248 h249
        refine wk_land r151_52 ?_
        intro n250 h251 h252 h253 h254
        refine wk_c6 r151_53 ?_
        refine wk_lcmp r151_54 (by omega) (by omega) ?_ ?_
        · intro h255
          refine wk_ifeq r151_55 (by decide) ?_ ?_
          · intro h261
            refine wk_inc4 r151_60 rfl (wk_goto r151_63 ?_)
            exact wp_fg (le_s (le_s (le_s (le_s (le_s le_0))))) (ih265 (5 - (v229 + 1)).toNat (by omega) (v229 + 1) rfl (by omega) (by omega))
          · intro h262
            exfalso
            omega
        · intro h256 v260 h257 h258 h259
          refine wk_ifeq r151_55 ⟨by omega, by omega⟩ ?_ ?_
          · intro h263
            exfalso
            omega
          · intro h264
            refine wk_c1 r151_58 ?_
            subst hQ; exact wk_zret r151_59 (by decide) (⟨rfl, _, rfl, hP0, hF0, by omega, by omega⟩)
    exact wp_fg (le_s (le_s (le_n (le_s (le_s le_0))))) (c28_265 _ 0 rfl (by omega) (by omega))
  · intro h266
    refine wk_c1 r151_11 ?_
    subst hQ; exact wk_zret r151_12 (by decide) (⟨rfl, _, rfl, hP0, hF0, by omega, by omega⟩)
def fm_m148_174_301_f616_677v5 : Nat := 2192252455996354377305527249074424529483898814464
/-- IslandHall$Crowd.narrow -/
theorem m148_174_301_f616_677v5 {B : eB} (d : Nat) (M0 : Mm) (p2 : Int) (p3 : Int) (a4 : Int) (hP0 : Pw M0) (l2 : 0 ≤ p2) (u2 : p2 ≤ 6) (l3 : (-1) ≤ p3) (u3 : p3 ≤ (-1)) (ha4 : 616 ≤ a4) (hb4 : a4 ≤ 645) : Ct B (d + 2) 148 [R 174, R 301, I p2, I p3, R a4, R 677] M0 (qV fun M => Pw M ∧ Fr fm_m148_174_301_f616_677v5 M0 M) := by
  refine ct_of (d := d + 1) (k := 4) (L := [some (R 174), some (R 301), some (I p2), some (I p3), some (R a4), some (R 677), none, none, none, none]) rfl rfl rfl ?_
  have hF0 := Fr.rf fm_m148_174_301_f616_677v5 M0
  generalize hQ : (qV fun M => Pw M ∧ Fr fm_m148_174_301_f616_677v5 M0 M) = Q
  refine wk_al0 r148_0 (wk_getfr r148_1 fd_174_0 (br_174_0 hP0) (wk_il2 r148_4 (wk_cv2 r148_5 kc_176_190 rfl (m190_176 _ M0 p2 hP0 (by omega) (by omega)) (cqR ?_))))
  rintro v5 M1 ⟨hP2, hQ3, h6, h7⟩
  obtain rfl := Fr.same hQ3
  refine wk_as6 r148_8 rfl (wk_al0 r148_10 (wk_getfr r148_11 fd_174_0 (br_174_0 hP0) (wk_il2 r148_14 (wk_cv2 r148_15 kc_176_193 rfl (m193_176 _ M0 p2 hP0 (by omega) (by omega)) (cqR ?_)))))
  rintro v12 M8 ⟨hP9, hQ10, h13, h14⟩
  obtain rfl := Fr.same hQ10
  refine wk_as7 r148_18 rfl (wk_al0 r148_20 (wk_getfr r148_21 fd_174_0 (br_174_0 hP0) (wk_il3 r148_24 (wk_cv2 r148_25 kc_176_208 rfl (m208_176 _ M0 p3 hP0 (by omega) (by omega)) (cqR ?_)))))
  rintro v19 M15 ⟨hP16, hQ17, h20, h21⟩
  obtain rfl : v19 = 301 := by omega
  obtain rfl := Fr.same hQ17
  refine wk_as8 r148_28 rfl (wk_c1 r148_30 (wk_is9 r148_31 rfl ?_))
  have c33_365 : ∀ (k365 : Nat) (M319 : Mm) (v316 : Int), (5 - v316).toNat = k365 → Pw M319 → Fr fm_m148_174_301_f616_677v5 M0 M319 → 0 ≤ v316 → v316 ≤ 5 → Wp B (d + 1) 148 33 [some (R 174), some (R 301), none, none, some (R a4), some (R 677), some (R v5), some (R v12), some (R 301), some (I v316)] [] M319 Q := by
    refine lp_ind ?_
    intro k365 ih365 M319 v316 hk365 hP320 hF321 h317 h318
    refine wk_il9 r148_33 (wk_al0 r148_35 (wk_getfr r148_36 fd_174_0 (br_174_0 hP320) (wk_getfb r148_39 fd_176_10 (bf_176_10 hP320) ?_)))
    intro v322 h324 h325 e323
    refine wk_icge r148_42 ⟨by omega, by omega⟩ ⟨by omega, by omega⟩ ?_ ?_
    · intro h326
      subst hQ; exact wk_ret r148_84 (⟨rfl, hP320, hF321⟩)
    · intro h327
      refine wk_al5 r148_45 (wk_il9 r148_47 (wk_al1 r148_49 (wk_il9 r148_50 (wk_laldb r148_52 (arF_301 (by omega) (by omega)) ⟨by omega, by omega⟩ (fun q0 q1 => ⟨(b4_301 hP320 (by omega) (by omega) q0 q1).1, (b4_301 hP320 (by omega) (by omega) q0 q1).2.1⟩) (by decide) ?_))))
      intro n328 h330 h331 e329
      have h332 : v316 = 4 → n328 ≤ 17592186044415 := by have := b4_301 hP320 (a := 301) (i := v316) (by omega) (by omega) (by omega) (by omega); omega
      refine wk_al6 r148_53 (wk_il9 r148_55 (wk_laldb r148_57 (arF_183 (by omega) (by omega)) ⟨by omega, by omega⟩ (fun q0 q1 => baF_183 hP320 (by omega) (by omega) q0 q1) (by decide) ?_))
      intro n333 h335 h336 e334
      refine wk_al8 r148_58 (wk_il9 r148_60 (wk_lald r148_62 (arF_301 (by omega) (by omega)) ⟨by omega, by omega⟩ e329 (wk_al4 r148_63 (wk_il9 r148_65 (wk_laldb r148_67 (arF_616 (by omega) (by omega)) ⟨by omega, by omega⟩ (fun q0 q1 => baF_616 hP320 (by omega) (by omega) q0 q1) (by decide) ?_)))))
      intro n338 h340 h341 e339
      refine wk_lxor r148_68 ?_
      intro n342 h343 h344
      refine wk_al7 r148_69 (wk_il9 r148_71 (wk_laldb r148_73 (arF_183 (by omega) (by omega)) ⟨by omega, by omega⟩ (fun q0 q1 => baF_183 hP320 (by omega) (by omega) q0 q1) (by decide) ?_))
      intro n345 h347 h348 e346
      refine wk_lxor r148_74 ?_
      intro n349 h350 h351
      refine wk_lorb r148_75 ?_
      intro n352 h353 h354 h355
      refine wk_land r148_76 ?_
      intro n356 h357 h358 h359 h360
      refine wk_last r148_77 (arF_677 (by omega) (by omega)) ⟨by omega, by omega⟩ (wk_nwt (t4_677 rfl rfl (by omega) (by omega) _) hP320 hF321 (u4_677 (by omega) (by omega) ⟨by omega, by omega, by omega⟩) ?_)
      intro M361 hP362 hF363 e364
      refine wk_inc9 r148_78 rfl (wk_goto r148_81 ?_)
      exact wp_fg (le_s (le_s (le_s (le_s (le_s (le_s (le_s (le_s (le_s (le_s le_0)))))))))) (ih365 (5 - (v316 + 1)).toNat (by omega) M361 (v316 + 1) rfl hP362 hF363 (by omega) (by omega))
  exact wp_fg (le_s (le_s (le_n (le_n (le_s (le_s (le_s (le_s (le_s (le_s le_0)))))))))) (c33_365 _ M0 0 rfl hP0 hF0 (by omega) (by omega))
def fm_m214_613 : Nat := 2226506400621297414450926112341212412757084733440
/-- IslandHall$Riddler.tellsAlone -/
theorem m214_613 {B : eB} (d : Nat) (M0 : Mm) (hP0 : Pw M0)  : Ct B (d + 4) 214 [R 613] M0 (qI fun z M => Pw M ∧ Fr fm_m214_613 M0 M ∧ 0 ≤ z ∧ z ≤ 1) := by
  refine ct_of (d := d + 3) (k := 2) (L := [some (R 613), none, none]) rfl rfl rfl ?_
  have hF0 := Fr.rf fm_m214_613 M0
  generalize hQ : (qI fun z M => Pw M ∧ Fr fm_m214_613 M0 M ∧ 0 ≤ z ∧ z ≤ 1) = Q
  refine wk_c1 r214_0 (wk_is1 r214_1 rfl ?_)
  have c2_612 : ∀ (k612 : Nat) (M561 : Mm) (v558 : Int), (7 - v558).toNat = k612 → Pw M561 → Fr fm_m214_613 M0 M561 → 0 ≤ v558 → v558 ≤ 7 → Wp B (d + 3) 214 2 [some (R 613), some (I v558), none] [] M561 Q := by
    refine lp_ind ?_
    intro k612 ih612 M561 v558 hk612 hP562 hF563 h559 h560
    refine wk_il1 r214_2 (wk_al0 r214_3 (wk_getfr r214_4 fd_613_0 (br_613_0 hP562) (wk_getfr r214_7 fd_174_0 (br_174_0 hP562) (wk_getfb r214_10 fd_176_7 (bf_176_7 hP562) ?_))))
    intro v564 h566 h567 e565
    refine wk_icge r214_13 ⟨by omega, by omega⟩ ⟨by omega, by omega⟩ ?_ ?_
    · intro h568
      refine wk_c1 r214_97 ?_
      subst hQ; exact wk_zret r214_98 (by decide) (⟨rfl, _, rfl, hP562, hF563, by omega, by omega⟩)
    · intro h569
      refine wk_c1 r214_16 (wk_is2 r214_17 rfl ?_)
      have c18_611 : ∀ (k611 : Nat) (M573 : Mm) (v570 : Int), (30 - v570).toNat = k611 → Pw M573 → Fr fm_m214_613 M0 M573 → M573 176 7 = v564 → 0 ≤ v570 → v570 ≤ 30 → Wp B (d + 3) 214 18 [some (R 613), some (I v558), some (I v570)] [] M573 Q := by
        refine lp_ind ?_
        intro k611 ih611 M573 v570 hk611 hP574 hF575 e576 h571 h572
        refine wk_il2 r214_18 (wk_al0 r214_19 (wk_getfb r214_20 fd_613_6 (bf_613_6 hP574) ?_))
        intro v577 h579 h580 e578
        refine wk_icge r214_23 ⟨by omega, by omega⟩ ⟨by omega, by omega⟩ ?_ ?_
        · intro h581
          refine wk_inc1 r214_91 rfl (wk_goto r214_94 ?_)
          exact wp_fg (le_s (le_s (le_n le_0))) (ih612 (7 - (v558 + 1)).toNat (by omega) M573 (v558 + 1) rfl hP574 hF575 (by omega) (by omega))
        · intro h582
          refine wk_al0 r214_26 (wk_getfr r214_27 fd_613_0 (br_613_0 hP574) (wk_al0 r214_30 (wk_getfr r214_31 fd_613_0 (br_613_0 hP574) (wk_cv1 r214_34 kc_174_145 rfl (m145_174 _ M573 hP574) (cqR ?_)))))
          rintro v587 M583 ⟨hP584, hQ585, h588, h589⟩
          obtain rfl : v587 = 301 := by omega
          obtain rfl := Fr.same hQ585
          refine wk_il1 r214_37 (wk_c1 r214_38 (wk_al0 r214_39 (wk_getfr r214_40 fd_613_2 (br_613_2 hP574) (wk_il2 r214_43 (wk_raldb r214_44 ar_615 ⟨by omega, by omega⟩ (fun q0 q1 => ba_615 hP574 q0 q1) (wk_al0 r214_45 (wk_getfr r214_46 fd_613_4 (br_613_4 hP574) (wk_cv6 r214_49 kc_174_148 rfl (m148_174_301_f616_677v5 _ M573 v558 (-1) (616 + v570) hP574 (by omega) (by omega) (by decide) (by decide) (by omega) (by omega)) (cqV ?_)))))))))
          rintro M590 ⟨hP591, hQ592⟩
          have hF593 : Fr fm_m214_613 M0 M590 := hF575.tr hQ592 rfl
          refine wk_al0 r214_52 (wk_getfr r214_53 fd_613_0 (br_613_0 hP591) (wk_al0 r214_56 (wk_getfr r214_57 fd_613_4 (br_613_4 hP591) (wk_cv2 r214_60 kc_174_151 rfl (m151_174_677 _ M590 hP591) (cqI ?_)))))
          rintro v598 M594 ⟨hP595, hQ596, h599, h600⟩
          obtain rfl := Fr.same hQ596
          refine wk_ifeq r214_63 ⟨by omega, by omega⟩ ?_ ?_
          · intro h601
            refine wk_inc2 r214_85 rfl (wk_goto r214_88 ?_)
            exact wp_fg (le_s (le_s (le_s le_0))) (ih611 (30 - (v570 + 1)).toNat (by omega) M590 (v570 + 1) rfl hP591 hF593 ((hQ592.at g_176_7 rfl).trans e576) (by omega) (by omega))
          · intro h602
            refine wk_al0 r214_66 (wk_getfr r214_67 fd_613_8 (br_613_8 hP591) (wk_c1 r214_70 (wk_c2 r214_71 (wk_il1 r214_73 (wk_imul r214_74 (wk_il2 r214_75 (wk_iadd r214_76 (wk_iast r214_77 ar_614 (by decide) (wk_nw (ga_614 _) rfl hP591 hF593 (ua_614 ⟨by omega, by omega⟩) ?_)))))))))
            intro M603 hP604 hF605 e606
            refine wk_al0 r214_78 (wk_c1 r214_79 (wk_putfi81 r214_80 fd_613_9 (wk_nw g_613_9 rfl hP604 hF605 (uf_613_9 (by decide)) ?_)))
            intro M607 hP608 hF609 e610
            refine wk_c1 r214_83 ?_
            subst hQ; exact wk_zret r214_84 (by decide) (⟨rfl, _, rfl, hP608, hF609, by omega, by omega⟩)
      exact wp_fg (le_s (le_s (le_s le_0))) (c18_611 _ M561 0 rfl hP562 hF563 e565 (by omega) (by omega))
  exact wp_fg (le_s (le_s (le_s le_0))) (c2_612 _ M0 0 rfl hP0 hF0 (by omega) (by omega))
def fm_m196_176_f616 : Nat := 91343852333264509137466859286824176669763305472
/-- IslandHall$Realm.judge -/
theorem m196_176_f616 {B : eB} (d : Nat) (M0 : Mm) (c1 : Int) (a2 : Int) (hP0 : Pw M0) (hC1 : isC c1) (ha2 : 616 ≤ a2) (hb2 : a2 ≤ 645) : Ct B (d + 4) 196 [R 176, R c1, R a2] M0 (qV fun M => Pw M ∧ Fr fm_m196_176_f616 M0 M) := by
  refine ct_of (d := d + 3) (k := 1) (L := [some (R 176), some (R c1), some (R a2), none]) rfl rfl rfl ?_
  have hF0 := Fr.rf fm_m196_176_f616 M0
  generalize hQ : (qV fun M => Pw M ∧ Fr fm_m196_176_f616 M0 M) = Q
  refine wk_c1 r196_0 (wk_is3 r196_1 rfl ?_)
  have c2_155 : ∀ (k155 : Nat) (M136 : Mm) (v133 : Int), (5 - v133).toNat = k155 → Pw M136 → Fr fm_m196_176_f616 M0 M136 → 0 ≤ v133 → v133 ≤ 5 → Wp B (d + 3) 196 2 [some (R 176), some (R c1), some (R a2), some (I v133)] [] M136 Q := by
    refine lp_ind ?_
    intro k155 ih155 M136 v133 hk155 hP137 hF138 h134 h135
    refine wk_il3 r196_2 (wk_al0 r196_3 (wk_getfb r196_4 fd_176_10 (bf_176_10 hP137) ?_))
    intro v139 h141 h142 e140
    refine wk_icge r196_7 ⟨by omega, by omega⟩ ⟨by omega, by omega⟩ ?_ ?_
    · intro h143
      subst hQ; exact wk_ret r196_25 (⟨rfl, hP137, hF138⟩)
    · intro h144
      refine wk_al2 r196_10 (wk_il3 r196_11 (wk_al0 r196_12 (wk_al1 r196_13 (wk_il3 r196_14 (wk_cv3 r196_15 kc_176_207 rfl (m207_176v4 _ M136 c1 v133 hP137 hC1 (by omega) (by omega)) (cqL ?_))))))
      rintro n149 M145 ⟨hP146, hQ147, h150⟩
      have hF148 : Fr fm_m196_176_f616 M0 M145 := hF138.tr hQ147 rfl
      refine wk_last r196_18 (arF_616 (by omega) (by omega)) ⟨by omega, by omega⟩ (wk_nw (gr_616 (by omega) (by omega) _) rfl hP146 hF148 (uaF_616 (by omega) (by omega) ⟨by omega, by omega⟩) ?_)
      intro M151 hP152 hF153 e154
      refine wk_inc3 r196_19 rfl (wk_goto r196_22 ?_)
      exact wp_fg (le_s (le_s (le_s (le_s le_0)))) (ih155 (5 - (v133 + 1)).toNat (by omega) M151 (v133 + 1) rfl hP152 hF153 (by omega) (by omega))
  exact wp_fg (le_s (le_s (le_s (le_s le_0)))) (c2_155 _ M0 0 rfl hP0 hF0 (by omega) (by omega))
def fm_m142 : Nat := 0
/-- IslandHall$Code.hangsOn -/
theorem m142 {B : eB} (d : Nat) (M0 : Mm) (c0 : Int) (p1 : Int) (p2 : Int) (hP0 : Pw M0) (hC0 : isC c0) (l1 : 0 ≤ p1) (u1 : p1 ≤ 6) (l2 : 0 ≤ p2) (u2 : p2 ≤ 12) : Ct B (d + 1) 142 [R c0, I p1, I p2] M0 (qI fun z M => Pw M ∧ Fr fm_m142 M0 M ∧ 0 ≤ z ∧ z ≤ 1) := by
  refine ct_of (d := d + 0) (k := 0) (L := [some (R c0), some (I p1), some (I p2)]) rfl rfl rfl ?_
  have hF0 := Fr.rf fm_m142 M0
  generalize hQ : (qI fun z M => Pw M ∧ Fr fm_m142 M0 M ∧ 0 ≤ z ∧ z ≤ 1) = Q
  refine wk_al0 r142_0 (wk_getfb r142_1 (fdC_2 hC0) (bC_2 hP0 hC0) ?_)
  intro v1 h3 h4 e2
  refine wk_il1 r142_4 (wk_shrb r142_5 ⟨by omega, by omega⟩ ⟨by omega, by omega⟩ ?_)
  intro v5 h6 h7 h8
  refine wk_c1 r142_6 (wk_iandc 1 2 r142_7 ⟨rfl, by decide⟩ rfl (wk_c1 r142_8 ?_))
  refine wk_iceq r142_9 ⟨by omega, by omega⟩ (by decide) ?_ ?_
  · intro h10
    refine wk_c1 r142_24 (wk_goto r142_25 ?_)
    subst hQ; exact wk_zret r142_29 (by decide) (⟨rfl, _, rfl, hP0, hF0, by omega, by omega⟩)
  · intro h11
    refine wk_al0 r142_12 (wk_getfb r142_13 (fdC_3 hC0) (bC_3 hP0 hC0) ?_)
    intro v12 h14 h15 e13
    refine wk_il2 r142_16 (wk_shrb r142_17 ⟨by omega, by omega⟩ ⟨by omega, by omega⟩ ?_)
    intro v16 h17 h18 h19
    refine wk_c1 r142_18 (wk_iandc 1 2 r142_19 ⟨rfl, by decide⟩ rfl (wk_c1 r142_20 ?_))
    refine wk_icne r142_21 ⟨by omega, by omega⟩ (by decide) ?_ ?_
    · intro h21
      refine wk_c1 r142_28 ?_
      subst hQ; exact wk_zret r142_29 (by decide) (⟨rfl, _, rfl, hP0, hF0, by omega, by omega⟩)
    · intro h22
      refine wk_c1 r142_24 (wk_goto r142_25 ?_)
      subst hQ; exact wk_zret r142_29 (by decide) (⟨rfl, _, rfl, hP0, hF0, by omega, by omega⟩)
def fm_m196_176_f647 : Nat := 365375409332808806300657765421127242855250657280
/-- IslandHall$Realm.judge -/
theorem m196_176_f647 {B : eB} (d : Nat) (M0 : Mm) (c1 : Int) (a2 : Int) (hP0 : Pw M0) (hC1 : isC c1) (ha2 : 647 ≤ a2) (hb2 : a2 ≤ 676) : Ct B (d + 4) 196 [R 176, R c1, R a2] M0 (qV fun M => Pw M ∧ Fr fm_m196_176_f647 M0 M) := by
  refine ct_of (d := d + 3) (k := 1) (L := [some (R 176), some (R c1), some (R a2), none]) rfl rfl rfl ?_
  have hF0 := Fr.rf fm_m196_176_f647 M0
  generalize hQ : (qV fun M => Pw M ∧ Fr fm_m196_176_f647 M0 M) = Q
  refine wk_c1 r196_0 (wk_is3 r196_1 rfl ?_)
  have c2_155 : ∀ (k155 : Nat) (M136 : Mm) (v133 : Int), (5 - v133).toNat = k155 → Pw M136 → Fr fm_m196_176_f647 M0 M136 → 0 ≤ v133 → v133 ≤ 5 → Wp B (d + 3) 196 2 [some (R 176), some (R c1), some (R a2), some (I v133)] [] M136 Q := by
    refine lp_ind ?_
    intro k155 ih155 M136 v133 hk155 hP137 hF138 h134 h135
    refine wk_il3 r196_2 (wk_al0 r196_3 (wk_getfb r196_4 fd_176_10 (bf_176_10 hP137) ?_))
    intro v139 h141 h142 e140
    refine wk_icge r196_7 ⟨by omega, by omega⟩ ⟨by omega, by omega⟩ ?_ ?_
    · intro h143
      subst hQ; exact wk_ret r196_25 (⟨rfl, hP137, hF138⟩)
    · intro h144
      refine wk_al2 r196_10 (wk_il3 r196_11 (wk_al0 r196_12 (wk_al1 r196_13 (wk_il3 r196_14 (wk_cv3 r196_15 kc_176_207 rfl (m207_176v4 _ M136 c1 v133 hP137 hC1 (by omega) (by omega)) (cqL ?_))))))
      rintro n149 M145 ⟨hP146, hQ147, h150⟩
      have hF148 : Fr fm_m196_176_f647 M0 M145 := hF138.tr hQ147 rfl
      refine wk_last r196_18 (arF_647 (by omega) (by omega)) ⟨by omega, by omega⟩ (wk_nw (gr_647 (by omega) (by omega) _) rfl hP146 hF148 (uaF_647 (by omega) (by omega) ⟨by omega, by omega⟩) ?_)
      intro M151 hP152 hF153 e154
      refine wk_inc3 r196_19 rfl (wk_goto r196_22 ?_)
      exact wp_fg (le_s (le_s (le_s (le_s le_0)))) (ih155 (5 - (v133 + 1)).toNat (by omega) M151 (v133 + 1) rfl hP152 hF153 (by omega) (by omega))
  exact wp_fg (le_s (le_s (le_s (le_s le_0)))) (c2_155 _ M0 0 rfl hP0 hF0 (by omega) (by omega))
def fm_m210_613 : Nat := 365375409332808806300657765421127242855250657280
/-- IslandHall$Riddler.judgeAgain -/
theorem m210_613 {B : eB} (d : Nat) (M0 : Mm) (p1 : Int) (hP0 : Pw M0) (l1 : 0 ≤ p1) (u1 : p1 ≤ 6) : Ct B (d + 5) 210 [R 613, I p1] M0 (qV fun M => Pw M ∧ Fr fm_m210_613 M0 M) := by
  refine ct_of (d := d + 4) (k := 1) (L := [some (R 613), some (I p1), none]) rfl rfl rfl ?_
  have hF0 := Fr.rf fm_m210_613 M0
  generalize hQ : (qV fun M => Pw M ∧ Fr fm_m210_613 M0 M) = Q
  refine wk_c1 r210_0 (wk_is2 r210_1 rfl ?_)
  have c2_313 : ∀ (k313 : Nat) (M277 : Mm) (v274 : Int), (30 - v274).toNat = k313 → Pw M277 → Fr fm_m210_613 M0 M277 → 0 ≤ v274 → v274 ≤ 30 → Wp B (d + 4) 210 2 [some (R 613), some (I p1), some (I v274)] [] M277 Q := by
    refine lp_ind ?_
    intro k313 ih313 M277 v274 hk313 hP278 hF279 h275 h276
    refine wk_il2 r210_2 (wk_al0 r210_3 (wk_getfb r210_4 fd_613_6 (bf_613_6 hP278) ?_))
    intro v280 h282 h283 e281
    refine wk_icge r210_7 ⟨by omega, by omega⟩ ⟨by omega, by omega⟩ ?_ ?_
    · intro h284
      subst hQ; exact wk_ret r210_82 (⟨rfl, hP278, hF279⟩)
    · intro h285
      refine wk_al0 r210_10 (wk_getfr r210_11 fd_613_1 (br_613_1 hP278) (wk_il2 r210_14 (wk_caldb r210_15 ar_168 ⟨by omega, by omega⟩ (fun q0 q1 => ba_168 hP278 q0 q1) ?_)))
      intro v286 e287
      have hC288 : isC v286 := Or.inr (by omega)
      refine wk_il1 r210_16 (wk_al0 r210_17 (wk_getfb r210_18 fd_613_7 (bf_613_7 hP278) ?_))
      intro v289 h291 h292 e290
      refine wk_cv3 r210_21 (kcC_142 hC288) rfl (m142 _ M277 v286 p1 v289 hP278 hC288 (by omega) (by omega) (by omega) (by omega)) (cqI ?_)
      rintro v297 M293 ⟨hP294, hQ295, h298, h299⟩
      obtain rfl := Fr.same hQ295
      refine wk_ifeq r210_24 ⟨by omega, by omega⟩ ?_ ?_
      · intro h300
        refine wk_al0 r210_52 (wk_getfr r210_53 fd_613_2 (br_613_2 hP278) (wk_il2 r210_56 (wk_raldb r210_57 ar_615 ⟨by omega, by omega⟩ (fun q0 q1 => ba_615 hP278 q0 q1) (wk_c1 r210_58 (wk_al0 r210_59 (wk_getfr r210_60 fd_613_3 (br_613_3 hP278) (wk_il2 r210_63 (wk_raldb r210_64 ar_646 ⟨by omega, by omega⟩ (fun q0 q1 => ba_646 hP278 q0 q1) (wk_c1 r210_65 (wk_al0 r210_66 (wk_getfr r210_67 fd_613_0 (br_613_0 hP278) (wk_getfi r210_70 fd_174_1 (br_174_1 hP278) (wk_copy110 r210_73 (arF_616 (by omega) (by omega)) (arF_647 (by omega) (by omega)) ⟨by decide, by decide, by decide, by omega, by omega, by omega⟩ rfl (wk_nc (fun i => by rw [(gr_647 (by omega) (by omega) i)]; rfl) hP278 hF279 (fun i h0 h1 => by have := baF_616 hP278 (a := (616 + v274)) (by omega) (by omega) h0 (by omega); exact (uaF_647 (by omega) (by omega) ⟨by omega, by omega⟩)) ?_))))))))))))))
        intro M301 hP302 hF303 e304
        refine wk_inc2 r210_76 rfl (wk_goto r210_79 ?_)
        exact wp_fg (le_s (le_s (le_s le_0))) (ih313 (30 - (v274 + 1)).toNat (by omega) M301 (v274 + 1) rfl hP302 hF303 (by omega) (by omega))
      · intro h305
        refine wk_al0 r210_27 (wk_getfr r210_28 fd_613_0 (br_613_0 hP278) (wk_getfr r210_31 fd_174_0 (br_174_0 hP278) (wk_al0 r210_34 (wk_getfr r210_35 fd_613_1 (br_613_1 hP278) (wk_il2 r210_38 (wk_caldb r210_39 ar_168 ⟨by omega, by omega⟩ (fun q0 q1 => ba_168 hP278 q0 q1) ?_))))))
        intro v306 e307
        have hC308 : isC v306 := Or.inr (by omega)
        refine wk_al0 r210_40 (wk_getfr r210_41 fd_613_3 (br_613_3 hP278) (wk_il2 r210_44 (wk_raldb r210_45 ar_646 ⟨by omega, by omega⟩ (fun q0 q1 => ba_646 hP278 q0 q1) (wk_cv3 r210_46 kc_176_196 rfl (m196_176_f647 _ M277 v306 (647 + v274) hP278 hC308 (by omega) (by omega)) (cqV ?_)))))
        rintro M309 ⟨hP310, hQ311⟩
        have hF312 : Fr fm_m210_613 M0 M309 := hF279.tr hQ311 rfl
        refine wk_goto r210_49 (wk_inc2 r210_76 rfl (wk_goto r210_79 ?_))
        exact wp_fg (le_s (le_s (le_s le_0))) (ih313 (30 - (v274 + 1)).toNat (by omega) M309 (v274 + 1) rfl hP310 hF312 (by omega) (by omega))
  exact wp_fg (le_s (le_s (le_s le_0))) (c2_313 _ M0 0 rfl hP0 hF0 (by omega) (by omega))
def fm_m148_174_677_f647_678 : Nat := 8769009823985417509222108996297698117935595257856
/-- IslandHall$Crowd.narrow -/
theorem m148_174_677_f647_678 {B : eB} (d : Nat) (M0 : Mm) (p2 : Int) (p3 : Int) (a4 : Int) (hP0 : Pw M0) (l2 : 0 ≤ p2) (u2 : p2 ≤ 6) (l3 : (-1) ≤ p3) (u3 : p3 ≤ (-1)) (ha4 : 647 ≤ a4) (hb4 : a4 ≤ 676) : Ct B (d + 2) 148 [R 174, R 677, I p2, I p3, R a4, R 678] M0 (qV fun M => Pw M ∧ Fr fm_m148_174_677_f647_678 M0 M) := by
  refine ct_of (d := d + 1) (k := 4) (L := [some (R 174), some (R 677), some (I p2), some (I p3), some (R a4), some (R 678), none, none, none, none]) rfl rfl rfl ?_
  have hF0 := Fr.rf fm_m148_174_677_f647_678 M0
  generalize hQ : (qV fun M => Pw M ∧ Fr fm_m148_174_677_f647_678 M0 M) = Q
  refine wk_al0 r148_0 (wk_getfr r148_1 fd_174_0 (br_174_0 hP0) (wk_il2 r148_4 (wk_cv2 r148_5 kc_176_190 rfl (m190_176 _ M0 p2 hP0 (by omega) (by omega)) (cqR ?_))))
  rintro v5 M1 ⟨hP2, hQ3, h6, h7⟩
  obtain rfl := Fr.same hQ3
  refine wk_as6 r148_8 rfl (wk_al0 r148_10 (wk_getfr r148_11 fd_174_0 (br_174_0 hP0) (wk_il2 r148_14 (wk_cv2 r148_15 kc_176_193 rfl (m193_176 _ M0 p2 hP0 (by omega) (by omega)) (cqR ?_)))))
  rintro v12 M8 ⟨hP9, hQ10, h13, h14⟩
  obtain rfl := Fr.same hQ10
  refine wk_as7 r148_18 rfl (wk_al0 r148_20 (wk_getfr r148_21 fd_174_0 (br_174_0 hP0) (wk_il3 r148_24 (wk_cv2 r148_25 kc_176_208 rfl (m208_176 _ M0 p3 hP0 (by omega) (by omega)) (cqR ?_)))))
  rintro v19 M15 ⟨hP16, hQ17, h20, h21⟩
  obtain rfl : v19 = 301 := by omega
  obtain rfl := Fr.same hQ17
  refine wk_as8 r148_28 rfl (wk_c1 r148_30 (wk_is9 r148_31 rfl ?_))
  have c33_393 : ∀ (k393 : Nat) (M343 : Mm) (v340 : Int), (5 - v340).toNat = k393 → Pw M343 → Fr fm_m148_174_677_f647_678 M0 M343 → 0 ≤ v340 → v340 ≤ 5 → Wp B (d + 1) 148 33 [some (R 174), some (R 677), none, none, some (R a4), some (R 678), some (R v5), some (R v12), some (R 301), some (I v340)] [] M343 Q := by
    refine lp_ind ?_
    intro k393 ih393 M343 v340 hk393 hP344 hF345 h341 h342
    refine wk_il9 r148_33 (wk_al0 r148_35 (wk_getfr r148_36 fd_174_0 (br_174_0 hP344) (wk_getfb r148_39 fd_176_10 (bf_176_10 hP344) ?_)))
    intro v346 h348 h349 e347
    refine wk_icge r148_42 ⟨by omega, by omega⟩ ⟨by omega, by omega⟩ ?_ ?_
    · intro h350
      subst hQ; exact wk_ret r148_84 (⟨rfl, hP344, hF345⟩)
    · intro h351
      refine wk_al5 r148_45 (wk_il9 r148_47 (wk_al1 r148_49 (wk_il9 r148_50 (wk_laldb r148_52 (arF_677 (by omega) (by omega)) ⟨by omega, by omega⟩ (fun q0 q1 => ⟨(b4_677 hP344 (by omega) (by omega) q0 q1).1, (b4_677 hP344 (by omega) (by omega) q0 q1).2.1⟩) (by decide) ?_))))
      intro n352 h354 h355 e353
      have h356 : v340 = 4 → n352 ≤ 17592186044415 := by have := b4_677 hP344 (a := 677) (i := v340) (by omega) (by omega) (by omega) (by omega); omega
      refine wk_al6 r148_53 (wk_il9 r148_55 (wk_laldb r148_57 (arF_183 (by omega) (by omega)) ⟨by omega, by omega⟩ (fun q0 q1 => baF_183 hP344 (by omega) (by omega) q0 q1) (by decide) ?_))
      intro n357 h359 h360 e358
      refine wk_al8 r148_58 (wk_il9 r148_60 (wk_laldb r148_62 (arF_301 (by omega) (by omega)) ⟨by omega, by omega⟩ (fun q0 q1 => ⟨(b4_301 hP344 (by omega) (by omega) q0 q1).1, (b4_301 hP344 (by omega) (by omega) q0 q1).2.1⟩) (by decide) ?_))
      intro n361 h363 h364 e362
      have h365 : v340 = 4 → n361 ≤ 17592186044415 := by have := b4_301 hP344 (a := 301) (i := v340) (by omega) (by omega) (by omega) (by omega); omega
      refine wk_al4 r148_63 (wk_il9 r148_65 (wk_laldb r148_67 (arF_647 (by omega) (by omega)) ⟨by omega, by omega⟩ (fun q0 q1 => baF_647 hP344 (by omega) (by omega) q0 q1) (by decide) ?_))
      intro n366 h368 h369 e367
      refine wk_lxor r148_68 ?_
      intro n370 h371 h372
      refine wk_al7 r148_69 (wk_il9 r148_71 (wk_laldb r148_73 (arF_183 (by omega) (by omega)) ⟨by omega, by omega⟩ (fun q0 q1 => baF_183 hP344 (by omega) (by omega) q0 q1) (by decide) ?_))
      intro n373 h375 h376 e374
      refine wk_lxor r148_74 ?_
      intro n377 h378 h379
      refine wk_lorb r148_75 ?_
      intro n380 h381 h382 h383
      refine wk_land r148_76 ?_
      intro n384 h385 h386 h387 h388
      refine wk_last r148_77 (arF_678 (by omega) (by omega)) ⟨by omega, by omega⟩ (wk_nwt (t4_678 rfl rfl (by omega) (by omega) _) hP344 hF345 (u4_678 (by omega) (by omega) ⟨by omega, by omega, by omega⟩) ?_)
      intro M389 hP390 hF391 e392
      refine wk_inc9 r148_78 rfl (wk_goto r148_81 ?_)
      exact wp_fg (le_s (le_s (le_s (le_s (le_s (le_s (le_s (le_s (le_s (le_s le_0)))))))))) (ih393 (5 - (v340 + 1)).toNat (by omega) M389 (v340 + 1) rfl hP390 hF391 (by omega) (by omega))
  exact wp_fg (le_s (le_s (le_n (le_n (le_s (le_s (le_s (le_s (le_s (le_s le_0)))))))))) (c33_393 _ M0 0 rfl hP0 hF0 (by omega) (by omega))
def fm_m149_174_678 : Nat := 0
/-- IslandHall$Crowd.someOf -/
theorem m149_174_678 {B : eB} (d : Nat) (M0 : Mm) (hP0 : Pw M0)  : Ct B (d + 2) 149 [R 174, R 678] M0 (qI fun z M => Pw M ∧ Fr fm_m149_174_678 M0 M ∧ (-1) ≤ z ∧ z ≤ 299) := by
  refine ct_of (d := d + 1) (k := 1) (L := [some (R 174), some (R 678), none]) rfl rfl rfl ?_
  have hF0 := Fr.rf fm_m149_174_678 M0
  generalize hQ : (qI fun z M => Pw M ∧ Fr fm_m149_174_678 M0 M ∧ (-1) ≤ z ∧ z ≤ 299) = Q
  refine wk_c1 r149_0 (wk_is2 r149_1 rfl ?_)
  have c2_330 : ∀ (k330 : Nat) (v283 : Int), (5 - v283).toNat = k330 → 0 ≤ v283 → v283 ≤ 5 → Wp B (d + 1) 149 2 [some (R 174), some (R 678), some (I v283)] [] M0 Q := by
    refine lp_ind ?_
    intro k330 ih330 v283 hk330 h284 h285
    refine wk_il2 r149_2 (wk_al0 r149_3 (wk_getfr r149_4 fd_174_0 (br_174_0 hP0) (wk_getfb r149_7 fd_176_10 (bf_176_10 hP0) ?_)))
    intro v286 h288 h289 e287
    refine wk_icge r149_10 ⟨by omega, by omega⟩ ⟨by omega, by omega⟩ ?_ ?_
    · intro h290
      refine wk_c1 r149_49 ?_
      subst hQ; exact wk_iret r149_50 (⟨rfl, _, rfl, hP0, hF0, by omega, by omega⟩)
    · intro h291
      refine wk_al1 r149_13 (wk_il2 r149_14 (wk_laldb r149_15 (arF_678 (by omega) (by omega)) ⟨by omega, by omega⟩ (fun q0 q1 => ⟨(b4_678 hP0 (by omega) (by omega) q0 q1).1, (b4_678 hP0 (by omega) (by omega) q0 q1).2.1⟩) (by decide) ?_))
      intro n292 h294 h295 e293
      have h296 : v283 = 4 → n292 ≤ 17592186044415 := by have := b4_678 hP0 (a := 678) (i := v283) (by omega) (by omega) (by omega) (by omega); omega
      refine wk_c6 r149_16 ?_
      refine wk_lcmp r149_17 (by omega) (by omega) ?_ ?_
      · intro h297
        refine wk_ifeq r149_18 (by decide) ?_ ?_
        · intro h303
          refine wk_inc2 r149_43 rfl (wk_goto r149_46 ?_)
          exact wp_fg (le_s (le_s (le_s le_0))) (ih330 (5 - (v283 + 1)).toNat (by omega) (v283 + 1) rfl (by omega) (by omega))
        · intro h304
          exfalso
          omega
      · intro h298 v302 h299 h300 h301
        refine wk_ifeq r149_18 ⟨by omega, by omega⟩ ?_ ?_
        · intro h305
          exfalso
          omega
        · intro h306
          refine wk_c2 r149_21 (wk_il2 r149_23 (wk_imul r149_24 (wk_al1 r149_25 (wk_il2 r149_26 (wk_lald r149_27 (arF_678 (by omega) (by omega)) ⟨by omega, by omega⟩ e293 (wk_c7 r149_28 (wk_lxor r149_31 ?_)))))))
          intro n308 h309 h310
          refine wk_al1 r149_32 (wk_il2 r149_33 (wk_lald r149_34 (arF_678 (by omega) (by omega)) ⟨by omega, by omega⟩ e293 (wk_c6 r149_35 (wk_lsubb r149_36 (by omega) ?_))))
          intro n312 h314 h313
          refine wk_land r149_37 ?_
          intro n315 h316 h317 h318 h319
          refine wk_cs102_1 r149_38 rfl (m245 _ M0 n315 hP0 (by omega)) (cqI ?_)
          rintro v325 M320 ⟨hP321, hQ322, h326, h327, xh324⟩
          obtain rfl := Fr.same hQ322
          have h328 := tz_b (by omega) (by omega) h310 h313 h319
          have h329 : 64 * v283 + v325 ≤ 299 := by omega
          refine wk_iadd r149_41 ?_
          subst hQ; exact wk_iret r149_42 (⟨rfl, _, rfl, hP0, hF0, by omega, by omega⟩)
  exact wp_fg (le_s (le_s (le_s le_0))) (c2_330 _ 0 rfl (by omega) (by omega))
def fm_m151_174_678 : Nat := 0
/-- IslandHall$Crowd.tellsOne -/
theorem m151_174_678 {B : eB} (d : Nat) (M0 : Mm) (hP0 : Pw M0)  : Ct B (d + 3) 151 [R 174, R 678] M0 (qI fun z M => Pw M ∧ Fr fm_m151_174_678 M0 M ∧ 0 ≤ z ∧ z ≤ 1) := by
  refine ct_of (d := d + 2) (k := 3) (L := [some (R 174), some (R 678), none, none, none]) rfl rfl rfl ?_
  have hF0 := Fr.rf fm_m151_174_678 M0
  generalize hQ : (qI fun z M => Pw M ∧ Fr fm_m151_174_678 M0 M ∧ 0 ≤ z ∧ z ≤ 1) = Q
  refine wk_al0 r151_0 (wk_al1 r151_1 (wk_cv2 r151_2 kc_174_149 rfl (m149_174_678 _ M0 hP0) (cqI ?_)))
  rintro v5 M1 ⟨hP2, hQ3, h6, h7⟩
  obtain rfl := Fr.same hQ3
  refine wk_is2 r151_5 rfl (wk_il2 r151_6 (wk_c1 r151_7 ?_))
  refine wk_icne r151_8 ⟨by omega, by omega⟩ (by decide) ?_ ?_
  · intro h8
    refine wk_al0 r151_13 (wk_getfr r151_14 fd_174_3 (br_174_3 hP0) (wk_al0 r151_17 (wk_getfr r151_18 fd_174_2 (br_174_2 hP0) (wk_il2 r151_21 (wk_ialdb r151_22 ar_304 ⟨by omega, by omega⟩ (fun q0 q1 => ba_304 hP0 q0 q1) ?_)))))
    intro v9 h11 h12 e10
    refine wk_raldb r151_23 ar_305 ⟨by omega, by omega⟩ (fun q0 q1 => ba_305 hP0 q0 q1) (wk_as3 r151_24 rfl (wk_c1 r151_25 (wk_is4 r151_26 rfl ?_)))
    have c28_265 : ∀ (k265 : Nat) (v229 : Int), (5 - v229).toNat = k265 → 0 ≤ v229 → v229 ≤ 5 → Wp B (d + 2) 151 28 [some (R 174), some (R 678), none, some (R (306 + v9)), some (I v229)] [] M0 Q := by
      refine lp_ind ?_
      intro k265 ih265 v229 hk265 h230 h231
      refine wk_il4 r151_28 (wk_al0 r151_30 (wk_getfr r151_31 fd_174_0 (br_174_0 hP0) (wk_getfb r151_34 fd_176_10 (bf_176_10 hP0) ?_)))
      intro v232 h234 h235 e233
      refine wk_icge r151_37 ⟨by omega, by omega⟩ ⟨by omega, by omega⟩ ?_ ?_
      · intro h236
        refine wk_c1 r151_66 ?_
        subst hQ; exact wk_zret r151_67 (by decide) (⟨rfl, _, rfl, hP0, hF0, by omega, by omega⟩)
      · intro h237
        refine wk_al1 r151_40 (wk_il4 r151_41 (wk_laldb r151_43 (arF_678 (by omega) (by omega)) ⟨by omega, by omega⟩ (fun q0 q1 => ⟨(b4_678 hP0 (by omega) (by omega) q0 q1).1, (b4_678 hP0 (by omega) (by omega) q0 q1).2.1⟩) (by decide) ?_))
        intro n238 h240 h241 e239
        have h242 : v229 = 4 → n238 ≤ 17592186044415 := by have := b4_678 hP0 (a := 678) (i := v229) (by omega) (by omega) (by omega) (by omega); omega
        refine wk_al3 r151_44 (wk_il4 r151_45 (wk_laldb r151_47 (arF_306 (by omega) (by omega)) ⟨by omega, by omega⟩ (fun q0 q1 => baF_306 hP0 (by omega) (by omega) q0 q1) (by decide) ?_))
        intro n243 h245 h246 e244
        refine wk_c7 r151_48 (wk_lxor r151_51 ?_)
        intro n247 h248 h249
        refine wk_land r151_52 ?_
        intro n250 h251 h252 h253 h254
        refine wk_c6 r151_53 ?_
        refine wk_lcmp r151_54 (by omega) (by omega) ?_ ?_
        · intro h255
          refine wk_ifeq r151_55 (by decide) ?_ ?_
          · intro h261
            refine wk_inc4 r151_60 rfl (wk_goto r151_63 ?_)
            exact wp_fg (le_s (le_s (le_s (le_s (le_s le_0))))) (ih265 (5 - (v229 + 1)).toNat (by omega) (v229 + 1) rfl (by omega) (by omega))
          · intro h262
            exfalso
            omega
        · intro h256 v260 h257 h258 h259
          refine wk_ifeq r151_55 ⟨by omega, by omega⟩ ?_ ?_
          · intro h263
            exfalso
            omega
          · intro h264
            refine wk_c1 r151_58 ?_
            subst hQ; exact wk_zret r151_59 (by decide) (⟨rfl, _, rfl, hP0, hF0, by omega, by omega⟩)
    exact wp_fg (le_s (le_s (le_n (le_s (le_s le_0))))) (c28_265 _ 0 rfl (by omega) (by omega))
  · intro h266
    refine wk_c1 r151_11 ?_
    subst hQ; exact wk_zret r151_12 (by decide) (⟨rfl, _, rfl, hP0, hF0, by omega, by omega⟩)
def fm_m211_613v12 : Nat := 8769009823985417509222108996297698117935595257856
/-- IslandHall$Riddler.leastFrom -/
theorem m211_613v12 {B : eB} (d : Nat) (M0 : Mm) (p1 : Int) (p2 : Int) (hP0 : Pw M0) (l1 : 0 ≤ p1) (u1 : p1 ≤ 6) (l2 : 0 ≤ p2) (u2 : p2 ≤ 29) : Ct B (d + 4) 211 [R 613, I p1, I p2] M0 (qI fun z M => Pw M ∧ Fr fm_m211_613v12 M0 M ∧ (-1) ≤ z ∧ z ≤ 209) := by
  refine ct_of (d := d + 3) (k := 2) (L := [some (R 613), some (I p1), some (I p2), none, none]) rfl rfl rfl ?_
  have hF0 := Fr.rf fm_m211_613v12 M0
  generalize hQ : (qI fun z M => Pw M ∧ Fr fm_m211_613v12 M0 M ∧ (-1) ≤ z ∧ z ≤ 209) = Q
  refine wk_il1 r211_0 (wk_is3 r211_1 rfl ?_)
  have c2_117 : ∀ (k117 : Nat) (M75 : Mm) (v72 : Int), (7 - v72).toNat = k117 → Pw M75 → Fr fm_m211_613v12 M0 M75 → 0 ≤ v72 → v72 ≤ 7 → Wp B (d + 3) 211 2 [some (R 613), some (I p1), some (I p2), some (I v72), none] [] M75 Q := by
    refine lp_ind ?_
    intro k117 ih117 M75 v72 hk117 hP76 hF77 h73 h74
    refine wk_il3 r211_2 (wk_al0 r211_3 (wk_getfr r211_4 fd_613_0 (br_613_0 hP76) (wk_getfr r211_7 fd_174_0 (br_174_0 hP76) (wk_getfb r211_10 fd_176_7 (bf_176_7 hP76) ?_))))
    intro v78 h80 h81 e79
    refine wk_icge r211_13 ⟨by omega, by omega⟩ ⟨by omega, by omega⟩ ?_ ?_
    · intro h82
      refine wk_c1 r211_95 ?_
      subst hQ; exact wk_iret r211_96 (⟨rfl, _, rfl, hP76, hF77, by omega, by omega⟩)
    · intro h83
      refine wk_il3 r211_16 (wk_il1 r211_17 ?_)
      have c26_116 : ∀ (v86 : Int), 0 ≤ v86 → v86 ≤ 29 → Wp B (d + 3) 211 26 [some (R 613), some (I p1), some (I p2), some (I v72), none] [I v86] M75 Q := by
        intro v86 h87 h88
        refine wk_is4 r211_26 rfl ?_
        have c28_115 : ∀ (k115 : Nat) (M92 : Mm) (v89 : Int), (30 - v89).toNat = k115 → Pw M92 → Fr fm_m211_613v12 M0 M92 → M92 176 7 = v78 → 0 ≤ v89 → v89 ≤ 30 → Wp B (d + 3) 211 28 [some (R 613), some (I p1), some (I p2), some (I v72), some (I v89)] [] M92 Q := by
          refine lp_ind ?_
          intro k115 ih115 M92 v89 hk115 hP93 hF94 e95 h90 h91
          refine wk_il4 r211_28 (wk_al0 r211_30 (wk_getfb r211_31 fd_613_6 (bf_613_6 hP93) ?_))
          intro v96 h98 h99 e97
          refine wk_icge r211_34 ⟨by omega, by omega⟩ ⟨by omega, by omega⟩ ?_ ?_
          · intro h100
            refine wk_inc3 r211_89 rfl (wk_goto r211_92 ?_)
            exact wp_fg (le_s (le_s (le_s (le_s (le_n le_0))))) (ih117 (7 - (v72 + 1)).toNat (by omega) M92 (v72 + 1) rfl hP93 hF94 (by omega) (by omega))
          · intro h101
            refine wk_al0 r211_37 (wk_getfr r211_38 fd_613_0 (br_613_0 hP93) (wk_al0 r211_41 (wk_getfr r211_42 fd_613_4 (br_613_4 hP93) (wk_il3 r211_45 (wk_c1 r211_46 (wk_al0 r211_47 (wk_getfr r211_48 fd_613_3 (br_613_3 hP93) (wk_il4 r211_51 (wk_raldb r211_53 ar_646 ⟨by omega, by omega⟩ (fun q0 q1 => ba_646 hP93 q0 q1) (wk_al0 r211_54 (wk_getfr r211_55 fd_613_5 (br_613_5 hP93) (wk_cv6 r211_58 kc_174_148 rfl (m148_174_677_f647_678 _ M92 v72 (-1) (647 + v89) hP93 (by omega) (by omega) (by decide) (by decide) (by omega) (by omega)) (cqV ?_)))))))))))))
            rintro M102 ⟨hP103, hQ104⟩
            have hF105 : Fr fm_m211_613v12 M0 M102 := hF94.tr hQ104 rfl
            refine wk_al0 r211_61 (wk_getfr r211_62 fd_613_0 (br_613_0 hP103) (wk_al0 r211_65 (wk_getfr r211_66 fd_613_5 (br_613_5 hP103) (wk_cv2 r211_69 kc_174_151 rfl (m151_174_678 _ M102 hP103) (cqI ?_)))))
            rintro v110 M106 ⟨hP107, hQ108, h111, h112⟩
            obtain rfl := Fr.same hQ108
            refine wk_ifeq r211_72 ⟨by omega, by omega⟩ ?_ ?_
            · intro h113
              refine wk_inc4 r211_83 rfl (wk_goto r211_86 ?_)
              exact wp_fg (le_s (le_s (le_s (le_s (le_s le_0))))) (ih115 (30 - (v89 + 1)).toNat (by omega) M102 (v89 + 1) rfl hP103 hF105 ((hQ104.at g_176_7 rfl).trans e95) (by omega) (by omega))
            · intro h114
              refine wk_c2 r211_75 (wk_il3 r211_77 (wk_imul r211_78 (wk_il4 r211_79 (wk_iadd r211_81 ?_))))
              subst hQ; exact wk_iret r211_82 (⟨rfl, _, rfl, hP103, hF105, by omega, by omega⟩)
        exact wp_fg (le_s (le_s (le_s (le_s (le_s le_0))))) (c28_115 _ M75 v86 rfl hP76 hF77 e79 (by omega) (by omega))
      refine wk_icne r211_18 ⟨by omega, by omega⟩ ⟨by omega, by omega⟩ ?_ ?_
      · intro h84
        refine wk_c1 r211_25 ?_
        exact wp_fg (le_s (le_s (le_s (le_s (le_s le_0))))) (c26_116 0 (by omega) (by omega))
      · intro h85
        refine wk_il2 r211_21 (wk_goto r211_22 ?_)
        exact wp_fg (le_s (le_s (le_s (le_s (le_s le_0))))) (c26_116 p2 (by omega) (by omega))
  exact wp_fg (le_s (le_s (le_s (le_s (le_s le_0))))) (c2_117 _ M0 p1 rfl hP0 hF0 (by omega) (by omega))
