/-! ===== written by program (wip/layer2/all.py): contracts of methods ===== -/
def fm_m139 : Nat := 5905580032
/-- IslandHall$Code.addSays -/
theorem m139 {B : eB} (d : Nat) (M0 : Mm) (c0 : Int) (p1 : Int) (hP0 : Pw M0) (hC0 : isC c0) (l1 : 0 ≤ p1) (u1 : p1 ≤ 6) : Ct B (d + 2) 139 [R c0, I p1] M0 (qV fun M => Pw M ∧ Fr fm_m139 M0 M) := by
  refine ct_of (d := d + 1) (k := 0) (L := [some (R c0), some (I p1)]) rfl rfl rfl ?_
  have hF0 := Fr.rf fm_m139 M0
  generalize hQ : (qV fun M => Pw M ∧ Fr fm_m139 M0 M) = Q
  refine wk_al0 r139_0 (wk_c1 r139_1 (wk_il1 r139_2 (wk_cv3 r139_3 (kcC_138 hC0) rfl (m138 _ M0 c0 4 p1 hP0 hC0 (by decide) (by decide) (by omega) (by omega) (by first | assumption | omega | (unfold stepok; omega))) (cqV ?_))))
  rintro M1 ⟨hP2, hQ3⟩
  have hF4 : Fr fm_m139 M0 M1 := hF0.tr hQ3 rfl
  refine wk_al0 r139_6 (wk_dupr r139_7 (wk_getfb r139_8 (fdC_2 hC0) (bC_2 hP2 hC0) ?_))
  intro v5 h7 h8 e6
  refine wk_c1 r139_11 (wk_il1 r139_12 (wk_shl1 6 64 r139_13 ⟨by omega, by omega⟩ ⟨pwl_6, by decide⟩ ?_))
  intro v9 h10 h11 h12
  refine wk_ior 7 128 r139_14 (by decide) ⟨by omega, by omega⟩ ⟨by omega, by omega⟩ ?_
  intro v13 h14 h15 h16 h17 h18
  refine wk_putfi81 r139_15 (fdC_2 hC0) (wk_nw (g_c2 hC0) rfl hP2 hF4 (uC_2 hC0 ⟨by omega, by omega⟩) ?_)
  intro M19 hP20 hF21 e22
  subst hQ; exact wk_ret r139_18 (⟨rfl, hP20, hF21⟩)
def fm_m152_6v4 : Nat := 3941070043873280
/-- IslandHall$Parser.aboutSomeone -/
theorem m152_6v4 {B : eB} (d : Nat) (M0 : Mm) (p1 : Int) (hP0 : Pw M0) (l1 : 4 ≤ p1) (u1 : p1 ≤ 4) : Ct B (d + 12) 152 [R 6, I p1] M0 (qI fun z M => Pw M ∧ Fr fm_m152_6v4 M0 M ∧ 0 ≤ z ∧ z ≤ 1 ∧ 0 ≤ z + M 6 4 + (-1)) := by
  refine ct_of (d := d + 11) (k := 2) (L := [some (R 6), some (I p1), none, none]) rfl rfl rfl ?_
  have hF0 := Fr.rf fm_m152_6v4 M0
  generalize hQ : (qI fun z M => Pw M ∧ Fr fm_m152_6v4 M0 M ∧ 0 ≤ z ∧ z ≤ 1 ∧ 0 ≤ z + M 6 4 + (-1)) = Q
  refine wk_al0 r152_0 (wk_cv1 r152_1 kc_6_165 rfl (m165_6 _ M0 hP0) (cqI ?_))
  rintro v6 M1 ⟨hP2, hQ3, h7, h8, h5⟩
  have hF4 : Fr fm_m152_6v4 M0 M1 := hF0.tr hQ3 rfl
  obtain ⟨v9, e10⟩ : ∃ v, M1 6 4 = v := ⟨_, rfl⟩
  have h11 := bf_6_4 hP2; rw [e10] at h11
  refine wk_is2 r152_4 rfl (wk_il2 r152_5 (wk_c1 r152_6 ?_))
  refine wk_icne r152_7 ⟨by omega, by omega⟩ (by decide) ?_ ?_
  · intro h12
    refine wk_al0 r152_12 (wk_c8 r152_13 (wk_cv2 r152_15 kc_6_175 rfl (m175_6 _ M1 4111 hP2 (by decide)) (cqI ?_)))
    rintro v17 M13 ⟨hP14, hQ15, h18, h19⟩
    have hF16 : Fr fm_m152_6v4 M0 M13 := hF4.tr hQ15 rfl
    refine wk_ifeq r152_18 ⟨by omega, by omega⟩ ?_ ?_
    · intro h20
      refine wk_al0 r152_35 (wk_c8 r152_36 (wk_cv2 r152_38 kc_6_175 rfl (m175_6 _ M13 4112 hP14 (by decide)) (cqI ?_)))
      rintro v25 M21 ⟨hP22, hQ23, h26, h27⟩
      have hF24 : Fr fm_m152_6v4 M0 M21 := hF16.tr hQ23 rfl
      refine wk_ifeq r152_41 ⟨by omega, by omega⟩ ?_ ?_
      · intro h28
        refine wk_al0 r152_73 (wk_c8 r152_74 (wk_cv2 r152_76 kc_6_175 rfl (m175_6 _ M21 4113 hP22 (by decide)) (cqI ?_)))
        rintro v33 M29 ⟨hP30, hQ31, h34, h35⟩
        have hF32 : Fr fm_m152_6v4 M0 M29 := hF24.tr hQ31 rfl
        refine wk_ifne r152_79 ⟨by omega, by omega⟩ ?_ ?_
        · intro h36
          refine wk_al0 r152_88 (wk_il1 r152_89 (wk_cv2 r152_90 kc_6_168 rfl (m168_6v4 _ M29 p1 hP30 (by omega) (by omega)) (cqI ?_)))
          rintro v42 M37 ⟨hP38, hQ39, h43, h44, h41⟩
          have hF40 : Fr fm_m152_6v4 M0 M37 := hF32.tr hQ39 rfl
          obtain ⟨v45, e46⟩ : ∃ v, M37 6 4 = v := ⟨_, rfl⟩
          have h47 := bf_6_4 hP38; rw [e46] at h47
          refine wk_ifne r152_93 ⟨by omega, by omega⟩ ?_ ?_
          · intro h48
            refine wk_al0 r152_98 ?_
            obtain ⟨v49, e50⟩ : ∃ v, M37 6 2 = v := ⟨_, rfl⟩
            have hC51 : isC v49 := by have := pcE hP38; rw [e50] at this; exact this
            refine wk_getfr r152_99 fd_6_2 e50 (wk_il2 r152_102 (wk_cv2 r152_103 (kcC_139 hC51) rfl (m139 _ M37 v49 v6 hP38 hC51 (by omega) (by omega)) (cqV ?_)))
            rintro M52 ⟨hP53, hQ54⟩
            have hF55 : Fr fm_m152_6v4 M0 M52 := hF40.tr hQ54 rfl
            refine wk_c1 r152_106 ?_
            subst hQ; exact wk_zret r152_107 (by decide) (⟨rfl, _, rfl, hP53, hF55, by omega, by omega, by have := ((hQ54.at g_6_4 rfl).trans e46); omega⟩)
          · intro h56
            refine wk_c1 r152_96 ?_
            subst hQ; exact wk_zret r152_97 (by decide) (⟨rfl, _, rfl, hP38, hF40, by omega, by omega, by have := e46; omega⟩)
        · intro h57
          refine wk_al0 r152_82 (wk_c1 r152_83 (wk_cv2 r152_84 kc_6_159 rfl (m159_6 _ M29 1 hP30 (by decide) (by decide)) (cqI ?_)))
          rintro v63 M58 ⟨hP59, hQ60, h64, h65, h62⟩
          have hF61 : Fr fm_m152_6v4 M0 M58 := hF32.tr hQ60 rfl
          obtain ⟨v66, e67⟩ : ∃ v, M58 6 4 = v := ⟨_, rfl⟩
          have h68 := bf_6_4 hP59; rw [e67] at h68
          subst hQ; exact wk_zret r152_87 ⟨by omega, by omega⟩ (⟨rfl, _, rfl, hP59, hF61, by omega, by omega, by have := e67; omega⟩)
      · intro h69
        refine wk_al0 r152_44 (wk_cv1 r152_45 kc_6_165 rfl (m165_6 _ M21 hP22) (cqI ?_))
        rintro v75 M70 ⟨hP71, hQ72, h76, h77, h74⟩
        have hF73 : Fr fm_m152_6v4 M0 M70 := hF24.tr hQ72 rfl
        obtain ⟨v78, e79⟩ : ∃ v, M70 6 4 = v := ⟨_, rfl⟩
        have h80 := bf_6_4 hP71; rw [e79] at h80
        refine wk_is3 r152_48 rfl (wk_il3 r152_49 (wk_c1 r152_50 ?_))
        refine wk_iceq r152_51 ⟨by omega, by omega⟩ (by decide) ?_ ?_
        · intro h81
          refine wk_c1 r152_71 ?_
          subst hQ; exact wk_zret r152_72 (by decide) (⟨rfl, _, rfl, hP71, hF73, by omega, by omega, by have := e79; omega⟩)
        · intro h82
          refine wk_al0 r152_54 (wk_c1 r152_55 (wk_il2 r152_56 (wk_c1 r152_57 (wk_ishlc r152_58 (by decide) pwl_3 (wk_il3 r152_59 (wk_iord2 3 8 r152_60 (by decide) ⟨by omega, by omega⟩ ⟨by omega, by omega, by omega⟩ (wk_cv3 r152_61 kc_6_172 rfl (m172_6 _ M70 5 ((v6 * 8) + v75) hP71 (by decide) (by decide) (by omega) (by omega) (by first | assumption | omega | (unfold stepok; omega))) (cqI ?_))))))))
          rintro v87 M83 ⟨hP84, hQ85, h88, h89⟩
          have hF86 : Fr fm_m152_6v4 M0 M83 := hF73.tr hQ85 rfl
          refine wk_ifeq r152_64 ⟨by omega, by omega⟩ ?_ ?_
          · intro h90
            exfalso
            omega
          · intro h91
            refine wk_c1 r152_67 (wk_goto r152_68 ?_)
            subst hQ; exact wk_zret r152_72 (by decide) (⟨rfl, _, rfl, hP84, hF86, by omega, by omega, by have := ((hQ85.at g_6_4 rfl).trans e79); omega⟩)
    · intro h92
      refine wk_al0 r152_21 (wk_c1 r152_22 (wk_il2 r152_23 (wk_c1 r152_24 (wk_imul r152_25 (wk_iadd r152_26 (wk_al0 r152_27 (wk_cv1 r152_28 kc_6_173 rfl (m173_6 _ M13 hP14) (cqI ?_))))))))
      rintro v98 M93 ⟨hP94, hQ95, h99, h100, h97⟩
      have hF96 : Fr fm_m152_6v4 M0 M93 := hF16.tr hQ95 rfl
      obtain ⟨v101, e102⟩ : ∃ v, M93 6 4 = v := ⟨_, rfl⟩
      have h103 := bf_6_4 hP94; rw [e102] at h103
      refine wk_cv3 r152_31 kc_6_171 rfl (m171_6v3 _ M93 (0 + (v6 * 5)) v98 v101 hP94 (by omega) (by omega) (by omega) (by omega) e102 (by omega) (by omega) (by omega)) (cqI ?_)
      rintro v109 M104 ⟨hP105, hQ106, h110, h111, h108⟩
      have hF107 : Fr fm_m152_6v4 M0 M104 := hF96.tr hQ106 rfl
      have e112 := ((hQ106.at g_6_4 rfl).trans e102)
      subst hQ; exact wk_zret r152_34 ⟨by omega, by omega⟩ (⟨rfl, _, rfl, hP105, hF107, by omega, by omega, by have := ((hQ106.at g_6_4 rfl).trans e102); omega⟩)
  · intro h113
    refine wk_c1 r152_10 ?_
    subst hQ; exact wk_zret r152_11 (by decide) (⟨rfl, _, rfl, hP2, hF4, by omega, by omega, by have := e10; omega⟩)
def fm_m153_6v4 : Nat := 3941070043873280
/-- IslandHall$Parser.atom -/
theorem m153_6v4 {B : eB} (d : Nat) (M0 : Mm) (p1 : Int) (hP0 : Pw M0) (l1 : 4 ≤ p1) (u1 : p1 ≤ 4) : Ct B (d + 13) 153 [R 6, I p1] M0 (qI fun z M => Pw M ∧ Fr fm_m153_6v4 M0 M ∧ 0 ≤ z ∧ z ≤ 1 ∧ 0 ≤ z + M 6 4 + (-1)) := by
  refine ct_of (d := d + 12) (k := 0) (L := [some (R 6), some (I p1)]) rfl rfl rfl ?_
  have hF0 := Fr.rf fm_m153_6v4 M0
  generalize hQ : (qI fun z M => Pw M ∧ Fr fm_m153_6v4 M0 M ∧ 0 ≤ z ∧ z ≤ 1 ∧ 0 ≤ z + M 6 4 + (-1)) = Q
  refine wk_al0 r153_0 (wk_getfr r153_1 fd_6_0 (br_6_0 hP0) (wk_cv1 r153_4 kc_9_237 rfl (m237_9 _ M0 hP0) (cqI ?_)))
  rintro v7 M1 ⟨hP2, hQ3, h8, h9, h5, h6⟩
  obtain rfl := Fr.same hQ3
  obtain ⟨v10, e11⟩ : ∃ v, M0 9 2 = v := ⟨_, rfl⟩
  have h12 := bf_9_2 hP0; rw [e11] at h12
  obtain ⟨v13, e14⟩ : ∃ v, M0 9 3 = v := ⟨_, rfl⟩
  have h15 := bf_9_3 hP0; rw [e14] at h15
  refine wk_ifeq r153_7 ⟨by omega, by omega⟩ ?_ ?_
  · intro h16
    refine wk_al0 r153_16 (wk_c8 r153_17 (wk_cv2 r153_19 kc_6_175 rfl (m175_6 _ M0 4114 hP0 (by decide)) (cqI ?_)))
    rintro v21 M17 ⟨hP18, hQ19, h22, h23⟩
    have hF20 : Fr fm_m153_6v4 M0 M17 := hF0.tr hQ19 rfl
    refine wk_ifeq r153_22 ⟨by omega, by omega⟩ ?_ ?_
    · intro h24
      refine wk_al0 r153_38 (wk_c8 r153_39 (wk_cv2 r153_41 kc_6_175 rfl (m175_6 _ M17 4115 hP18 (by decide)) (cqI ?_)))
      rintro v29 M25 ⟨hP26, hQ27, h30, h31⟩
      have hF28 : Fr fm_m153_6v4 M0 M25 := hF20.tr hQ27 rfl
      refine wk_ifeq r153_44 ⟨by omega, by omega⟩ ?_ ?_
      · intro h32
        refine wk_al0 r153_61 (wk_c8 r153_62 (wk_cv2 r153_64 kc_6_175 rfl (m175_6 _ M25 4116 hP26 (by decide)) (cqI ?_)))
        rintro v37 M33 ⟨hP34, hQ35, h38, h39⟩
        have hF36 : Fr fm_m153_6v4 M0 M33 := hF28.tr hQ35 rfl
        refine wk_ifeq r153_67 ⟨by omega, by omega⟩ ?_ ?_
        · intro h40
          refine wk_al0 r153_83 (wk_c8 r153_84 (wk_cv2 r153_86 kc_6_175 rfl (m175_6 _ M33 4117 hP34 (by decide)) (cqI ?_)))
          rintro v45 M41 ⟨hP42, hQ43, h46, h47⟩
          have hF44 : Fr fm_m153_6v4 M0 M41 := hF36.tr hQ43 rfl
          refine wk_ifeq r153_89 ⟨by omega, by omega⟩ ?_ ?_
          · intro h48
            refine wk_al0 r153_97 (wk_c8 r153_98 (wk_cv2 r153_100 kc_6_175 rfl (m175_6 _ M41 4118 hP42 (by decide)) (cqI ?_)))
            rintro v53 M49 ⟨hP50, hQ51, h54, h55⟩
            have hF52 : Fr fm_m153_6v4 M0 M49 := hF44.tr hQ51 rfl
            refine wk_ifeq r153_103 ⟨by omega, by omega⟩ ?_ ?_
            · intro h56
              refine wk_al0 r153_117 (wk_c1 r153_118 (wk_cv2 r153_119 kc_6_159 rfl (m159_6 _ M49 1 hP50 (by decide) (by decide)) (cqI ?_)))
              rintro v62 M57 ⟨hP58, hQ59, h63, h64, h61⟩
              have hF60 : Fr fm_m153_6v4 M0 M57 := hF52.tr hQ59 rfl
              obtain ⟨v65, e66⟩ : ∃ v, M57 6 4 = v := ⟨_, rfl⟩
              have h67 := bf_6_4 hP58; rw [e66] at h67
              subst hQ; exact wk_zret r153_122 ⟨by omega, by omega⟩ (⟨rfl, _, rfl, hP58, hF60, by omega, by omega, by have := e66; omega⟩)
            · intro h68
              refine wk_al0 r153_106 (wk_al0 r153_107 (wk_cv1 r153_108 kc_6_173 rfl (m173_6 _ M49 hP50) (cqI ?_)))
              rintro v74 M69 ⟨hP70, hQ71, h75, h76, h73⟩
              have hF72 : Fr fm_m153_6v4 M0 M69 := hF52.tr hQ71 rfl
              obtain ⟨v77, e78⟩ : ∃ v, M69 6 4 = v := ⟨_, rfl⟩
              have h79 := bf_6_4 hP70; rw [e78] at h79
              refine wk_cv2 r153_111 kc_6_163 rfl (m163_6 _ M69 v74 v77 hP70 (by omega) (by omega) e78 (by omega) (by omega) (by omega)) (cqI ?_)
              rintro v85 M80 ⟨hP81, hQ82, h86, h87, h84⟩
              have hF83 : Fr fm_m153_6v4 M0 M80 := hF72.tr hQ82 rfl
              obtain ⟨v88, e89⟩ : ∃ v, M80 6 4 = v := ⟨_, rfl⟩
              have h90 := bf_6_4 hP81; rw [e89] at h90
              refine wk_goto r153_114 ?_
              subst hQ; exact wk_zret r153_122 ⟨by omega, by omega⟩ (⟨rfl, _, rfl, hP81, hF83, by omega, by omega, by have := e89; omega⟩)
          · intro h91
            refine wk_al0 r153_92 (wk_cv1 r153_93 kc_6_176 rfl (m176_6 _ M41 hP42) (cqI ?_))
            rintro v97 M92 ⟨hP93, hQ94, h98, h99, h96⟩
            have hF95 : Fr fm_m153_6v4 M0 M92 := hF44.tr hQ94 rfl
            obtain ⟨v100, e101⟩ : ∃ v, M92 6 4 = v := ⟨_, rfl⟩
            have h102 := bf_6_4 hP93; rw [e101] at h102
            subst hQ; exact wk_zret r153_96 ⟨by omega, by omega⟩ (⟨rfl, _, rfl, hP93, hF95, by omega, by omega, by have := e101; omega⟩)
        · intro h103
          refine wk_al0 r153_70 (wk_c2 r153_71 (wk_al0 r153_73 (wk_c1 r153_74 (wk_c1 r153_75 (wk_cv3 r153_76 kc_6_167 rfl (m167_6v1 _ M33 0 1 hP34 (by decide) (by decide) (by decide) (by decide)) (cqI ?_))))))
          rintro v109 M104 ⟨hP105, hQ106, h110, h111, h108⟩
          have hF107 : Fr fm_m153_6v4 M0 M104 := hF36.tr hQ106 rfl
          obtain ⟨v112, e113⟩ : ∃ v, M104 6 4 = v := ⟨_, rfl⟩
          have h114 := bf_6_4 hP105; rw [e113] at h114
          refine wk_cv3 r153_79 kc_6_171 rfl (m171_6 _ M104 46 v109 v112 hP105 (by decide) (by decide) (by omega) (by omega) e113 (by omega) (by omega) (by omega)) (cqI ?_)
          rintro v120 M115 ⟨hP116, hQ117, h121, h122, h119⟩
          have hF118 : Fr fm_m153_6v4 M0 M115 := hF107.tr hQ117 rfl
          have e123 := ((hQ117.at g_6_4 rfl).trans e113)
          subst hQ; exact wk_zret r153_82 ⟨by omega, by omega⟩ (⟨rfl, _, rfl, hP116, hF118, by omega, by omega, by have := ((hQ117.at g_6_4 rfl).trans e113); omega⟩)
      · intro h124
        refine wk_al0 r153_47 (wk_c2 r153_48 (wk_al0 r153_50 (wk_c1 r153_51 (wk_c2 r153_52 (wk_cv3 r153_54 kc_6_167 rfl (m167_6v2 _ M25 0 6 hP26 (by decide) (by decide) (by decide) (by decide)) (cqI ?_))))))
        rintro v130 M125 ⟨hP126, hQ127, h131, h132, h129⟩
        have hF128 : Fr fm_m153_6v4 M0 M125 := hF28.tr hQ127 rfl
        obtain ⟨v133, e134⟩ : ∃ v, M125 6 4 = v := ⟨_, rfl⟩
        have h135 := bf_6_4 hP126; rw [e134] at h135
        refine wk_cv3 r153_57 kc_6_171 rfl (m171_6v1 _ M125 39 v130 v133 hP126 (by decide) (by decide) (by omega) (by omega) e134 (by omega) (by omega) (by omega)) (cqI ?_)
        rintro v141 M136 ⟨hP137, hQ138, h142, h143, h140⟩
        have hF139 : Fr fm_m153_6v4 M0 M136 := hF128.tr hQ138 rfl
        have e144 := ((hQ138.at g_6_4 rfl).trans e134)
        subst hQ; exact wk_zret r153_60 ⟨by omega, by omega⟩ (⟨rfl, _, rfl, hP137, hF139, by omega, by omega, by have := ((hQ138.at g_6_4 rfl).trans e134); omega⟩)
    · intro h145
      refine wk_al0 r153_25 (wk_c2 r153_26 (wk_al0 r153_28 (wk_c1 r153_29 (wk_c1 r153_30 (wk_cv3 r153_31 kc_6_167 rfl (m167_6v3 _ M17 0 3 hP18 (by decide) (by decide) (by decide) (by decide)) (cqI ?_))))))
      rintro v151 M146 ⟨hP147, hQ148, h152, h153, h150⟩
      have hF149 : Fr fm_m153_6v4 M0 M146 := hF20.tr hQ148 rfl
      obtain ⟨v154, e155⟩ : ∃ v, M146 6 4 = v := ⟨_, rfl⟩
      have h156 := bf_6_4 hP147; rw [e155] at h156
      refine wk_cv3 r153_34 kc_6_171 rfl (m171_6v2 _ M146 35 v151 v154 hP147 (by decide) (by decide) (by omega) (by omega) e155 (by omega) (by omega) (by omega)) (cqI ?_)
      rintro v162 M157 ⟨hP158, hQ159, h163, h164, h161⟩
      have hF160 : Fr fm_m153_6v4 M0 M157 := hF149.tr hQ159 rfl
      have e165 := ((hQ159.at g_6_4 rfl).trans e155)
      subst hQ; exact wk_zret r153_37 ⟨by omega, by omega⟩ (⟨rfl, _, rfl, hP158, hF160, by omega, by omega, by have := ((hQ159.at g_6_4 rfl).trans e155); omega⟩)
  · intro h166
    refine wk_al0 r153_10 (wk_il1 r153_11 (wk_cv2 r153_12 kc_6_152 rfl (m152_6v4 _ M0 p1 hP0 (by omega) (by omega)) (cqI ?_)))
    rintro v172 M167 ⟨hP168, hQ169, h173, h174, h171⟩
    have hF170 : Fr fm_m153_6v4 M0 M167 := hF0.tr hQ169 rfl
    obtain ⟨v175, e176⟩ : ∃ v, M167 6 4 = v := ⟨_, rfl⟩
    have h177 := bf_6_4 hP168; rw [e176] at h177
    subst hQ; exact wk_zret r153_15 ⟨by omega, by omega⟩ (⟨rfl, _, rfl, hP168, hF170, by omega, by omega, by have := e176; omega⟩)
def fm_m166_6v4 : Nat := 3941070043873280
/-- IslandHall$Parser.negation -/
theorem m166_6v4 {B : eB} (d : Nat) (M0 : Mm) (p1 : Int) (hP0 : Pw M0) (l1 : 4 ≤ p1) (u1 : p1 ≤ 4) : Ct B (d + 14) 166 [R 6, I p1] M0 (qI fun z M => Pw M ∧ Fr fm_m166_6v4 M0 M ∧ 0 ≤ z ∧ z ≤ 1 ∧ 0 ≤ z + M 6 4 + (-1)) := by
  refine ct_of (d := d + 13) (k := 2) (L := [some (R 6), some (I p1), none, none]) rfl rfl rfl ?_
  have hF0 := Fr.rf fm_m166_6v4 M0
  generalize hQ : (qI fun z M => Pw M ∧ Fr fm_m166_6v4 M0 M ∧ 0 ≤ z ∧ z ≤ 1 ∧ 0 ≤ z + M 6 4 + (-1)) = Q
  refine wk_c1 r166_0 (wk_is2 r166_1 rfl ?_)
  have c2_658 : ∀ (k658 : Nat) (M562 : Mm) (v559 : Int), (6 - v559).toNat = k658 → Pw M562 → Fr fm_m166_6v4 M0 M562 → 0 ≤ v559 → v559 ≤ 6 → Wp B (d + 13) 166 2 [some (R 6), some (I p1), some (I v559), none] [] M562 Q := by
    refine lp_ind ?_
    intro k658 ih658 M562 v559 hk658 hP563 hF564 h560 h561
    refine wk_il2 r166_2 (wk_c2 r166_3 ?_)
    have c23_657 : ∀ (M576 : Mm), Pw M576 → Fr fm_m166_6v4 M0 M576 → Wp B (d + 13) 166 23 [some (R 6), some (I p1), some (I v559), none] [] M576 Q := by
      intro M576 hP577 hF578
      refine wk_al0 r166_23 (wk_getfr r166_24 fd_6_0 (br_6_0 hP577) (wk_c8 r166_27 (wk_cv2 r166_29 kc_9_239 rfl (m239_9 _ M576 4119 hP577 (by decide)) (cqI ?_))))
      rintro v584 M579 ⟨hP580, hQ581, h585, h586, xh583⟩
      obtain rfl := Fr.same hQ581
      refine wk_ifeq r166_32 ⟨by omega, by omega⟩ ?_ ?_
      · intro h587
        refine wk_al0 r166_41 (wk_getfr r166_42 fd_6_0 (br_6_0 hP577) (wk_c2 r166_45 (wk_cv2 r166_47 kc_9_238 rfl (m238_9 _ M576 40 hP577 (by decide) (by decide)) (cqI ?_))))
        rintro v592 M588 ⟨hP589, hQ590, h593, h594⟩
        obtain rfl := Fr.same hQ590
        have c66_644 : ∀ (M622 : Mm) (v619 : Int) (v625 : Int), Pw M622 → Fr fm_m166_6v4 M0 M622 → M622 6 4 = v625 → 0 ≤ v619 → v619 ≤ 1 → 0 ≤ v625 → v625 ≤ 6 → 1 ≤ v619 + v625 → Wp B (d + 13) 166 66 [some (R 6), none, some (I v559), none] [I v619] M622 Q := by
          intro M622 v619 v625 hP623 hF624 e628 h620 h621 h626 h627 h629
          refine wk_is3 r166_66 rfl (wk_il3 r166_67 ?_)
          refine wk_ifeq r166_68 ⟨by omega, by omega⟩ ?_ ?_
          · intro h630
            refine wk_c1 r166_90 ?_
            subst hQ; exact wk_zret r166_91 (by decide) (⟨rfl, _, rfl, hP623, hF624, by omega, by omega, by have := e628; omega⟩)
          · intro h631
            refine wk_il2 r166_71 (wk_c1 r166_72 (wk_iandc 1 2 r166_73 ⟨rfl, by decide⟩ rfl ?_))
            refine wk_ifeq r166_74 ⟨by omega, by omega⟩ ?_ ?_
            · intro h633
              refine wk_c1 r166_86 (wk_goto r166_87 ?_)
              subst hQ; exact wk_zret r166_91 (by decide) (⟨rfl, _, rfl, hP623, hF624, by omega, by omega, by have := e628; omega⟩)
            · intro h634
              refine wk_al0 r166_77 (wk_c1 r166_78 (wk_c1 r166_79 (wk_cv3 r166_80 kc_6_172 rfl (m172_6 _ M622 1 0 hP623 (by decide) (by decide) (by decide) (by decide) (by first | assumption | omega | (unfold stepok; omega))) (cqI ?_))))
              rintro v639 M635 ⟨hP636, hQ637, h640, h641⟩
              have hF638 : Fr fm_m166_6v4 M0 M635 := hF624.tr hQ637 rfl
              refine wk_ifeq r166_83 ⟨by omega, by omega⟩ ?_ ?_
              · intro h642
                exfalso
                omega
              · intro h643
                refine wk_c1 r166_86 (wk_goto r166_87 ?_)
                subst hQ; exact wk_zret r166_91 (by decide) (⟨rfl, _, rfl, hP636, hF638, by omega, by omega, by have := ((hQ637.at g_6_4 rfl).trans e628); omega⟩)
        refine wk_ifeq r166_50 ⟨by omega, by omega⟩ ?_ ?_
        · intro h595
          refine wk_al0 r166_61 (wk_il1 r166_62 (wk_cv2 r166_63 kc_6_153 rfl (m153_6v4 _ M576 p1 hP577 (by omega) (by omega)) (cqI ?_)))
          rintro v601 M596 ⟨hP597, hQ598, h602, h603, h600⟩
          have hF599 : Fr fm_m166_6v4 M0 M596 := hF578.tr hQ598 rfl
          obtain ⟨v604, e605⟩ : ∃ v, M596 6 4 = v := ⟨_, rfl⟩
          have h606 := bf_6_4 hP597; rw [e605] at h606
          exact wp_fg (le_s (le_n (le_s (le_s le_0)))) (c66_644 M596 v601 v604 hP597 hF599 e605 (by omega) (by omega) (by omega) (by omega) (by omega))
        · intro h607
          refine wk_al0 r166_53 (wk_il1 r166_54 (wk_cv2 r166_55 kc_6_168 rfl (m168_6v4 _ M576 p1 hP577 (by omega) (by omega)) (cqI ?_)))
          rintro v613 M608 ⟨hP609, hQ610, h614, h615, h612⟩
          have hF611 : Fr fm_m166_6v4 M0 M608 := hF578.tr hQ610 rfl
          obtain ⟨v616, e617⟩ : ∃ v, M608 6 4 = v := ⟨_, rfl⟩
          have h618 := bf_6_4 hP609; rw [e617] at h618
          refine wk_goto r166_58 ?_
          exact wp_fg (le_s (le_n (le_s (le_s le_0)))) (c66_644 M608 v613 v616 hP609 hF611 e617 (by omega) (by omega) (by omega) (by omega) (by omega))
      · intro h645
        refine wk_al0 r166_35 (wk_c1 r166_36 (wk_cv2 r166_37 kc_6_159 rfl (m159_6v1 _ M576 2 hP577 (by decide) (by decide)) (cqI ?_)))
        rintro v651 M646 ⟨hP647, hQ648, h652, h653, h650⟩
        have hF649 : Fr fm_m166_6v4 M0 M646 := hF578.tr hQ648 rfl
        obtain ⟨v654, e655⟩ : ∃ v, M646 6 4 = v := ⟨_, rfl⟩
        have h656 := bf_6_4 hP647; rw [e655] at h656
        subst hQ; exact wk_zret r166_40 ⟨by omega, by omega⟩ (⟨rfl, _, rfl, hP647, hF649, by omega, by omega, by have := e655; omega⟩)
    refine wk_icge r166_5 ⟨by omega, by omega⟩ (by decide) ?_ ?_
    · intro h565
      exact wp_fg (le_s (le_s (le_s (le_s le_0)))) (c23_657 M562 hP563 hF564)
    · intro h566
      refine wk_al0 r166_8 (wk_c8 r166_9 (wk_cv2 r166_11 kc_6_175 rfl (m175_6 _ M562 4119 hP563 (by decide)) (cqI ?_)))
      rintro v571 M567 ⟨hP568, hQ569, h572, h573⟩
      have hF570 : Fr fm_m166_6v4 M0 M567 := hF564.tr hQ569 rfl
      refine wk_ifeq r166_14 ⟨by omega, by omega⟩ ?_ ?_
      · intro h574
        exact wp_fg (le_s (le_s (le_s (le_s le_0)))) (c23_657 M567 hP568 hF570)
      · intro h575
        refine wk_inc2 r166_17 rfl (wk_goto r166_20 ?_)
        exact wp_fg (le_s (le_s (le_s (le_s le_0)))) (ih658 (6 - (v559 + 1)).toNat (by omega) M567 (v559 + 1) rfl hP568 hF570 (by omega) (by omega))
  exact wp_fg (le_s (le_s (le_s (le_s le_0)))) (c2_658 _ M0 0 rfl hP0 hF0 (by omega) (by omega))
def fm_m157_6v4 : Nat := 3941070043873280
/-- IslandHall$Parser.conjunction -/
theorem m157_6v4 {B : eB} (d : Nat) (M0 : Mm) (p1 : Int) (hP0 : Pw M0) (l1 : 4 ≤ p1) (u1 : p1 ≤ 4) : Ct B (d + 15) 157 [R 6, I p1] M0 (qI fun z M => Pw M ∧ Fr fm_m157_6v4 M0 M ∧ 0 ≤ z ∧ z ≤ 1 ∧ 0 ≤ z + M 6 4 + (-1)) := by
  refine ct_of (d := d + 14) (k := 1) (L := [some (R 6), some (I p1), none]) rfl rfl rfl ?_
  have hF0 := Fr.rf fm_m157_6v4 M0
  generalize hQ : (qI fun z M => Pw M ∧ Fr fm_m157_6v4 M0 M ∧ 0 ≤ z ∧ z ≤ 1 ∧ 0 ≤ z + M 6 4 + (-1)) = Q
  refine wk_al0 r157_0 (wk_il1 r157_1 (wk_cv2 r157_2 kc_6_166 rfl (m166_6v4 _ M0 p1 hP0 (by omega) (by omega)) (cqI ?_)))
  rintro v6 M1 ⟨hP2, hQ3, h7, h8, h5⟩
  have hF4 : Fr fm_m157_6v4 M0 M1 := hF0.tr hQ3 rfl
  obtain ⟨v9, e10⟩ : ∃ v, M1 6 4 = v := ⟨_, rfl⟩
  have h11 := bf_6_4 hP2; rw [e10] at h11
  refine wk_ifne r157_5 ⟨by omega, by omega⟩ ?_ ?_
  · intro h12
    refine wk_c1 r157_10 (wk_is2 r157_11 rfl ?_)
    have c12_442 : ∀ (k442 : Nat) (M401 : Mm) (v398 : Int) (v404 : Int), (500 - v398).toNat = k442 → Pw M401 → Fr fm_m157_6v4 M0 M401 → M401 6 4 = v404 → 0 ≤ v398 → v398 ≤ 500 → 0 ≤ v404 → v404 ≤ 6 → 0 ≤ (-1) * v404 + v398 + 6 → Wp B (d + 14) 157 12 [some (R 6), some (I p1), some (I v398)] [] M401 Q := by
      refine lp_ind ?_
      intro k442 ih442 M401 v398 v404 hk442 hP402 hF403 e407 h399 h400 h405 h406 h408
      refine wk_il2 r157_12 (wk_c3 r157_13 ?_)
      refine wk_icge r157_16 ⟨by omega, by omega⟩ (by decide) ?_ ?_
      · intro h409
        refine wk_c1 r157_53 ?_
        subst hQ; exact wk_zret r157_54 (by decide) (⟨rfl, _, rfl, hP402, hF403, by omega, by omega, by have := e407; omega⟩)
      · intro h410
        refine wk_al0 r157_19 (wk_c8 r157_20 (wk_cv2 r157_22 kc_6_175 rfl (m175_6 _ M401 4125 hP402 (by decide)) (cqI ?_)))
        rintro v415 M411 ⟨hP412, hQ413, h416, h417⟩
        have hF414 : Fr fm_m157_6v4 M0 M411 := hF403.tr hQ413 rfl
        refine wk_ifeq r157_25 ⟨by omega, by omega⟩ ?_ ?_
        · intro h418
          refine wk_c1 r157_53 ?_
          subst hQ; exact wk_zret r157_54 (by decide) (⟨rfl, _, rfl, hP412, hF414, by omega, by omega, by have := ((hQ413.at g_6_4 rfl).trans e407); omega⟩)
        · intro h419
          refine wk_al0 r157_28 (wk_il1 r157_29 (wk_cv2 r157_30 kc_6_166 rfl (m166_6v4 _ M411 p1 hP412 (by omega) (by omega)) (cqI ?_)))
          rintro v425 M420 ⟨hP421, hQ422, h426, h427, h424⟩
          have hF423 : Fr fm_m157_6v4 M0 M420 := hF414.tr hQ422 rfl
          obtain ⟨v428, e429⟩ : ∃ v, M420 6 4 = v := ⟨_, rfl⟩
          have h430 := bf_6_4 hP421; rw [e429] at h430
          refine wk_ifeq r157_33 ⟨by omega, by omega⟩ ?_ ?_
          · intro h431
            refine wk_c1 r157_45 ?_
            subst hQ; exact wk_zret r157_46 (by decide) (⟨rfl, _, rfl, hP421, hF423, by omega, by omega, by have := e429; omega⟩)
          · intro h432
            refine wk_al0 r157_36 (wk_c1 r157_37 (wk_c1 r157_38 (wk_cv3 r157_39 kc_6_172 rfl (m172_6 _ M420 2 0 hP421 (by decide) (by decide) (by decide) (by decide) (by first | assumption | omega | (unfold stepok; omega))) (cqI ?_))))
            rintro v437 M433 ⟨hP434, hQ435, h438, h439⟩
            have hF436 : Fr fm_m157_6v4 M0 M433 := hF423.tr hQ435 rfl
            refine wk_ifne r157_42 ⟨by omega, by omega⟩ ?_ ?_
            · intro h440
              refine wk_inc2 r157_47 rfl (wk_goto r157_50 ?_)
              exact wp_fg (le_s (le_s (le_s le_0))) (ih442 (500 - (v398 + 1)).toNat (by omega) M433 (v398 + 1) v428 rfl hP434 hF436 ((hQ435.at g_6_4 rfl).trans e429) (by omega) (by omega) (by omega) (by omega) (by omega))
            · intro h441
              exfalso
              omega
    exact wp_fg (le_s (le_s (le_s le_0))) (c12_442 _ M1 0 v9 rfl hP2 hF4 e10 (by omega) (by omega) (by omega) (by omega) (by omega))
  · intro h443
    refine wk_c1 r157_8 ?_
    subst hQ; exact wk_zret r157_9 (by decide) (⟨rfl, _, rfl, hP2, hF4, by omega, by omega, by have := e10; omega⟩)
def fm_m158_6v4 : Nat := 3941070043873280
/-- IslandHall$Parser.expr -/
theorem m158_6v4 {B : eB} (d : Nat) (M0 : Mm) (p1 : Int) (hP0 : Pw M0) (l1 : 4 ≤ p1) (u1 : p1 ≤ 4) : Ct B (d + 16) 158 [R 6, I p1] M0 (qI fun z M => Pw M ∧ Fr fm_m158_6v4 M0 M ∧ 0 ≤ z ∧ z ≤ 1 ∧ 0 ≤ z + M 6 4 + (-1)) := by
  refine ct_of (d := d + 15) (k := 1) (L := [some (R 6), some (I p1), none]) rfl rfl rfl ?_
  have hF0 := Fr.rf fm_m158_6v4 M0
  generalize hQ : (qI fun z M => Pw M ∧ Fr fm_m158_6v4 M0 M ∧ 0 ≤ z ∧ z ≤ 1 ∧ 0 ≤ z + M 6 4 + (-1)) = Q
  refine wk_al0 r158_0 (wk_cv1 r158_1 kc_6_155 rfl (m155_6 _ M0 hP0) (cqI ?_))
  rintro v5 M1 ⟨hP2, hQ3, h6, h7⟩
  obtain rfl := Fr.same hQ3
  refine wk_ifne r158_4 ⟨by omega, by omega⟩ ?_ ?_
  · intro h8
    refine wk_il1 r158_13 (wk_c2 r158_14 ?_)
    refine wk_iclt r158_16 ⟨by omega, by omega⟩ (by decide) ?_ ?_
    · intro h9
      refine wk_al0 r158_25 (wk_il1 r158_26 (wk_cv2 r158_27 kc_6_157 rfl (m157_6v4 _ M0 p1 hP0 (by omega) (by omega)) (cqI ?_)))
      rintro v15 M10 ⟨hP11, hQ12, h16, h17, h14⟩
      have hF13 : Fr fm_m158_6v4 M0 M10 := hF0.tr hQ12 rfl
      obtain ⟨v18, e19⟩ : ∃ v, M10 6 4 = v := ⟨_, rfl⟩
      have h20 := bf_6_4 hP11; rw [e19] at h20
      refine wk_ifne r158_30 ⟨by omega, by omega⟩ ?_ ?_
      · intro h21
        refine wk_c1 r158_35 (wk_is2 r158_36 rfl ?_)
        have c37_451 : ∀ (k451 : Nat) (M410 : Mm) (v407 : Int) (v413 : Int), (500 - v407).toNat = k451 → Pw M410 → Fr fm_m158_6v4 M0 M410 → M410 6 4 = v413 → 0 ≤ v407 → v407 ≤ 500 → 0 ≤ v413 → v413 ≤ 6 → 0 ≤ (-1) * v413 + v407 + 6 → Wp B (d + 15) 158 37 [some (R 6), some (I p1), some (I v407)] [] M410 Q := by
          refine lp_ind ?_
          intro k451 ih451 M410 v407 v413 hk451 hP411 hF412 e416 h408 h409 h414 h415 h417
          refine wk_il2 r158_37 (wk_c3 r158_38 ?_)
          refine wk_icge r158_41 ⟨by omega, by omega⟩ (by decide) ?_ ?_
          · intro h418
            refine wk_c1 r158_78 ?_
            subst hQ; exact wk_zret r158_79 (by decide) (⟨rfl, _, rfl, hP411, hF412, by omega, by omega, by have := e416; omega⟩)
          · intro h419
            refine wk_al0 r158_44 (wk_c8 r158_45 (wk_cv2 r158_47 kc_6_175 rfl (m175_6 _ M410 4126 hP411 (by decide)) (cqI ?_)))
            rintro v424 M420 ⟨hP421, hQ422, h425, h426⟩
            have hF423 : Fr fm_m158_6v4 M0 M420 := hF412.tr hQ422 rfl
            refine wk_ifeq r158_50 ⟨by omega, by omega⟩ ?_ ?_
            · intro h427
              refine wk_c1 r158_78 ?_
              subst hQ; exact wk_zret r158_79 (by decide) (⟨rfl, _, rfl, hP421, hF423, by omega, by omega, by have := ((hQ422.at g_6_4 rfl).trans e416); omega⟩)
            · intro h428
              refine wk_al0 r158_53 (wk_il1 r158_54 (wk_cv2 r158_55 kc_6_157 rfl (m157_6v4 _ M420 p1 hP421 (by omega) (by omega)) (cqI ?_)))
              rintro v434 M429 ⟨hP430, hQ431, h435, h436, h433⟩
              have hF432 : Fr fm_m158_6v4 M0 M429 := hF423.tr hQ431 rfl
              obtain ⟨v437, e438⟩ : ∃ v, M429 6 4 = v := ⟨_, rfl⟩
              have h439 := bf_6_4 hP430; rw [e438] at h439
              refine wk_ifeq r158_58 ⟨by omega, by omega⟩ ?_ ?_
              · intro h440
                refine wk_c1 r158_70 ?_
                subst hQ; exact wk_zret r158_71 (by decide) (⟨rfl, _, rfl, hP430, hF432, by omega, by omega, by have := e438; omega⟩)
              · intro h441
                refine wk_al0 r158_61 (wk_c1 r158_62 (wk_c1 r158_63 (wk_cv3 r158_64 kc_6_172 rfl (m172_6 _ M429 3 0 hP430 (by decide) (by decide) (by decide) (by decide) (by first | assumption | omega | (unfold stepok; omega))) (cqI ?_))))
                rintro v446 M442 ⟨hP443, hQ444, h447, h448⟩
                have hF445 : Fr fm_m158_6v4 M0 M442 := hF432.tr hQ444 rfl
                refine wk_ifne r158_67 ⟨by omega, by omega⟩ ?_ ?_
                · intro h449
                  refine wk_inc2 r158_72 rfl (wk_goto r158_75 ?_)
                  exact wp_fg (le_s (le_s (le_s le_0))) (ih451 (500 - (v407 + 1)).toNat (by omega) M442 (v407 + 1) v437 rfl hP443 hF445 ((hQ444.at g_6_4 rfl).trans e438) (by omega) (by omega) (by omega) (by omega) (by omega))
                · intro h450
                  exfalso
                  omega
        exact wp_fg (le_s (le_s (le_s le_0))) (c37_451 _ M10 0 v18 rfl hP11 hF13 e19 (by omega) (by omega) (by omega) (by omega) (by omega))
      · intro h452
        refine wk_c1 r158_33 ?_
        subst hQ; exact wk_zret r158_34 (by decide) (⟨rfl, _, rfl, hP11, hF13, by omega, by omega, by have := e19; omega⟩)
    · intro h453
      exfalso
      omega
  · intro h454
    refine wk_al0 r158_7 (wk_c1 r158_8 (wk_cv2 r158_9 kc_6_159 rfl (m159_6 _ M0 1 hP0 (by decide) (by decide)) (cqI ?_)))
    rintro v460 M455 ⟨hP456, hQ457, h461, h462, h459⟩
    have hF458 : Fr fm_m158_6v4 M0 M455 := hF0.tr hQ457 rfl
    obtain ⟨v463, e464⟩ : ∃ v, M455 6 4 = v := ⟨_, rfl⟩
    have h465 := bf_6_4 hP456; rw [e464] at h465
    subst hQ; exact wk_zret r158_12 ⟨by omega, by omega⟩ (⟨rfl, _, rfl, hP456, hF458, by omega, by omega, by have := e464; omega⟩)
def fm_m168_6v3 : Nat := 3941070043873280
/-- IslandHall$Parser.parenthesis -/
theorem m168_6v3 {B : eB} (d : Nat) (M0 : Mm) (p1 : Int) (hP0 : Pw M0) (l1 : 3 ≤ p1) (u1 : p1 ≤ 3) : Ct B (d + 17) 168 [R 6, I p1] M0 (qI fun z M => Pw M ∧ Fr fm_m168_6v3 M0 M ∧ 0 ≤ z ∧ z ≤ 1 ∧ 0 ≤ z + M 6 4 + (-1)) := by
  refine ct_of (d := d + 16) (k := 0) (L := [some (R 6), some (I p1)]) rfl rfl rfl ?_
  have hF0 := Fr.rf fm_m168_6v3 M0
  generalize hQ : (qI fun z M => Pw M ∧ Fr fm_m168_6v3 M0 M ∧ 0 ≤ z ∧ z ≤ 1 ∧ 0 ≤ z + M 6 4 + (-1)) = Q
  refine wk_al0 r168_0 (wk_c2 r168_1 (wk_cv2 r168_3 kc_6_174 rfl (m174_6 _ M0 40 hP0 (by decide) (by decide)) (cqI ?_)))
  rintro v6 M1 ⟨hP2, hQ3, h7, h8, h5⟩
  have hF4 : Fr fm_m168_6v3 M0 M1 := hF0.tr hQ3 rfl
  obtain ⟨v9, e10⟩ : ∃ v, M1 6 4 = v := ⟨_, rfl⟩
  have h11 := bf_6_4 hP2; rw [e10] at h11
  refine wk_ifeq r168_6 ⟨by omega, by omega⟩ ?_ ?_
  · intro h12
    refine wk_c1 r168_32 ?_
    subst hQ; exact wk_zret r168_33 (by decide) (⟨rfl, _, rfl, hP2, hF4, by omega, by omega, by have := e10; omega⟩)
  · intro h13
    refine wk_al0 r168_9 (wk_il1 r168_10 (wk_c1 r168_11 (wk_iadd r168_12 (wk_cv2 r168_13 kc_6_158 rfl (m158_6v4 _ M1 (p1 + 1) hP2 (by omega) (by omega)) (cqI ?_)))))
    rintro v19 M14 ⟨hP15, hQ16, h20, h21, h18⟩
    have hF17 : Fr fm_m168_6v3 M0 M14 := hF4.tr hQ16 rfl
    obtain ⟨v22, e23⟩ : ∃ v, M14 6 4 = v := ⟨_, rfl⟩
    have h24 := bf_6_4 hP15; rw [e23] at h24
    refine wk_ifeq r168_16 ⟨by omega, by omega⟩ ?_ ?_
    · intro h25
      refine wk_c1 r168_32 ?_
      subst hQ; exact wk_zret r168_33 (by decide) (⟨rfl, _, rfl, hP15, hF17, by omega, by omega, by have := e23; omega⟩)
    · intro h26
      refine wk_al0 r168_19 (wk_c2 r168_20 (wk_cv2 r168_22 kc_6_174 rfl (m174_6v1 _ M14 41 hP15 (by decide) (by decide)) (cqI ?_)))
      rintro v32 M27 ⟨hP28, hQ29, h33, h34, h31⟩
      have hF30 : Fr fm_m168_6v3 M0 M27 := hF17.tr hQ29 rfl
      obtain ⟨v35, e36⟩ : ∃ v, M27 6 4 = v := ⟨_, rfl⟩
      have h37 := bf_6_4 hP28; rw [e36] at h37
      refine wk_ifeq r168_25 ⟨by omega, by omega⟩ ?_ ?_
      · intro h38
        refine wk_c1 r168_32 ?_
        subst hQ; exact wk_zret r168_33 (by decide) (⟨rfl, _, rfl, hP28, hF30, by omega, by omega, by have := e36; omega⟩)
      · intro h39
        refine wk_c1 r168_28 (wk_goto r168_29 ?_)
        subst hQ; exact wk_zret r168_33 (by decide) (⟨rfl, _, rfl, hP28, hF30, by omega, by omega, by have := e36; omega⟩)
def fm_m152_6v3 : Nat := 3941070043873280
/-- IslandHall$Parser.aboutSomeone -/
theorem m152_6v3 {B : eB} (d : Nat) (M0 : Mm) (p1 : Int) (hP0 : Pw M0) (l1 : 3 ≤ p1) (u1 : p1 ≤ 3) : Ct B (d + 18) 152 [R 6, I p1] M0 (qI fun z M => Pw M ∧ Fr fm_m152_6v3 M0 M ∧ 0 ≤ z ∧ z ≤ 1 ∧ 0 ≤ z + M 6 4 + (-1)) := by
  refine ct_of (d := d + 17) (k := 2) (L := [some (R 6), some (I p1), none, none]) rfl rfl rfl ?_
  have hF0 := Fr.rf fm_m152_6v3 M0
  generalize hQ : (qI fun z M => Pw M ∧ Fr fm_m152_6v3 M0 M ∧ 0 ≤ z ∧ z ≤ 1 ∧ 0 ≤ z + M 6 4 + (-1)) = Q
  refine wk_al0 r152_0 (wk_cv1 r152_1 kc_6_165 rfl (m165_6 _ M0 hP0) (cqI ?_))
  rintro v6 M1 ⟨hP2, hQ3, h7, h8, h5⟩
  have hF4 : Fr fm_m152_6v3 M0 M1 := hF0.tr hQ3 rfl
  obtain ⟨v9, e10⟩ : ∃ v, M1 6 4 = v := ⟨_, rfl⟩
  have h11 := bf_6_4 hP2; rw [e10] at h11
  refine wk_is2 r152_4 rfl (wk_il2 r152_5 (wk_c1 r152_6 ?_))
  refine wk_icne r152_7 ⟨by omega, by omega⟩ (by decide) ?_ ?_
  · intro h12
    refine wk_al0 r152_12 (wk_c8 r152_13 (wk_cv2 r152_15 kc_6_175 rfl (m175_6 _ M1 4111 hP2 (by decide)) (cqI ?_)))
    rintro v17 M13 ⟨hP14, hQ15, h18, h19⟩
    have hF16 : Fr fm_m152_6v3 M0 M13 := hF4.tr hQ15 rfl
    refine wk_ifeq r152_18 ⟨by omega, by omega⟩ ?_ ?_
    · intro h20
      refine wk_al0 r152_35 (wk_c8 r152_36 (wk_cv2 r152_38 kc_6_175 rfl (m175_6 _ M13 4112 hP14 (by decide)) (cqI ?_)))
      rintro v25 M21 ⟨hP22, hQ23, h26, h27⟩
      have hF24 : Fr fm_m152_6v3 M0 M21 := hF16.tr hQ23 rfl
      refine wk_ifeq r152_41 ⟨by omega, by omega⟩ ?_ ?_
      · intro h28
        refine wk_al0 r152_73 (wk_c8 r152_74 (wk_cv2 r152_76 kc_6_175 rfl (m175_6 _ M21 4113 hP22 (by decide)) (cqI ?_)))
        rintro v33 M29 ⟨hP30, hQ31, h34, h35⟩
        have hF32 : Fr fm_m152_6v3 M0 M29 := hF24.tr hQ31 rfl
        refine wk_ifne r152_79 ⟨by omega, by omega⟩ ?_ ?_
        · intro h36
          refine wk_al0 r152_88 (wk_il1 r152_89 (wk_cv2 r152_90 kc_6_168 rfl (m168_6v3 _ M29 p1 hP30 (by omega) (by omega)) (cqI ?_)))
          rintro v42 M37 ⟨hP38, hQ39, h43, h44, h41⟩
          have hF40 : Fr fm_m152_6v3 M0 M37 := hF32.tr hQ39 rfl
          obtain ⟨v45, e46⟩ : ∃ v, M37 6 4 = v := ⟨_, rfl⟩
          have h47 := bf_6_4 hP38; rw [e46] at h47
          refine wk_ifne r152_93 ⟨by omega, by omega⟩ ?_ ?_
          · intro h48
            refine wk_al0 r152_98 ?_
            obtain ⟨v49, e50⟩ : ∃ v, M37 6 2 = v := ⟨_, rfl⟩
            have hC51 : isC v49 := by have := pcE hP38; rw [e50] at this; exact this
            refine wk_getfr r152_99 fd_6_2 e50 (wk_il2 r152_102 (wk_cv2 r152_103 (kcC_139 hC51) rfl (m139 _ M37 v49 v6 hP38 hC51 (by omega) (by omega)) (cqV ?_)))
            rintro M52 ⟨hP53, hQ54⟩
            have hF55 : Fr fm_m152_6v3 M0 M52 := hF40.tr hQ54 rfl
            refine wk_c1 r152_106 ?_
            subst hQ; exact wk_zret r152_107 (by decide) (⟨rfl, _, rfl, hP53, hF55, by omega, by omega, by have := ((hQ54.at g_6_4 rfl).trans e46); omega⟩)
          · intro h56
            refine wk_c1 r152_96 ?_
            subst hQ; exact wk_zret r152_97 (by decide) (⟨rfl, _, rfl, hP38, hF40, by omega, by omega, by have := e46; omega⟩)
        · intro h57
          refine wk_al0 r152_82 (wk_c1 r152_83 (wk_cv2 r152_84 kc_6_159 rfl (m159_6 _ M29 1 hP30 (by decide) (by decide)) (cqI ?_)))
          rintro v63 M58 ⟨hP59, hQ60, h64, h65, h62⟩
          have hF61 : Fr fm_m152_6v3 M0 M58 := hF32.tr hQ60 rfl
          obtain ⟨v66, e67⟩ : ∃ v, M58 6 4 = v := ⟨_, rfl⟩
          have h68 := bf_6_4 hP59; rw [e67] at h68
          subst hQ; exact wk_zret r152_87 ⟨by omega, by omega⟩ (⟨rfl, _, rfl, hP59, hF61, by omega, by omega, by have := e67; omega⟩)
      · intro h69
        refine wk_al0 r152_44 (wk_cv1 r152_45 kc_6_165 rfl (m165_6 _ M21 hP22) (cqI ?_))
        rintro v75 M70 ⟨hP71, hQ72, h76, h77, h74⟩
        have hF73 : Fr fm_m152_6v3 M0 M70 := hF24.tr hQ72 rfl
        obtain ⟨v78, e79⟩ : ∃ v, M70 6 4 = v := ⟨_, rfl⟩
        have h80 := bf_6_4 hP71; rw [e79] at h80
        refine wk_is3 r152_48 rfl (wk_il3 r152_49 (wk_c1 r152_50 ?_))
        refine wk_iceq r152_51 ⟨by omega, by omega⟩ (by decide) ?_ ?_
        · intro h81
          refine wk_c1 r152_71 ?_
          subst hQ; exact wk_zret r152_72 (by decide) (⟨rfl, _, rfl, hP71, hF73, by omega, by omega, by have := e79; omega⟩)
        · intro h82
          refine wk_al0 r152_54 (wk_c1 r152_55 (wk_il2 r152_56 (wk_c1 r152_57 (wk_ishlc r152_58 (by decide) pwl_3 (wk_il3 r152_59 (wk_iord2 3 8 r152_60 (by decide) ⟨by omega, by omega⟩ ⟨by omega, by omega, by omega⟩ (wk_cv3 r152_61 kc_6_172 rfl (m172_6 _ M70 5 ((v6 * 8) + v75) hP71 (by decide) (by decide) (by omega) (by omega) (by first | assumption | omega | (unfold stepok; omega))) (cqI ?_))))))))
          rintro v87 M83 ⟨hP84, hQ85, h88, h89⟩
          have hF86 : Fr fm_m152_6v3 M0 M83 := hF73.tr hQ85 rfl
          refine wk_ifeq r152_64 ⟨by omega, by omega⟩ ?_ ?_
          · intro h90
            exfalso
            omega
          · intro h91
            refine wk_c1 r152_67 (wk_goto r152_68 ?_)
            subst hQ; exact wk_zret r152_72 (by decide) (⟨rfl, _, rfl, hP84, hF86, by omega, by omega, by have := ((hQ85.at g_6_4 rfl).trans e79); omega⟩)
    · intro h92
      refine wk_al0 r152_21 (wk_c1 r152_22 (wk_il2 r152_23 (wk_c1 r152_24 (wk_imul r152_25 (wk_iadd r152_26 (wk_al0 r152_27 (wk_cv1 r152_28 kc_6_173 rfl (m173_6 _ M13 hP14) (cqI ?_))))))))
      rintro v98 M93 ⟨hP94, hQ95, h99, h100, h97⟩
      have hF96 : Fr fm_m152_6v3 M0 M93 := hF16.tr hQ95 rfl
      obtain ⟨v101, e102⟩ : ∃ v, M93 6 4 = v := ⟨_, rfl⟩
      have h103 := bf_6_4 hP94; rw [e102] at h103
      refine wk_cv3 r152_31 kc_6_171 rfl (m171_6v3 _ M93 (0 + (v6 * 5)) v98 v101 hP94 (by omega) (by omega) (by omega) (by omega) e102 (by omega) (by omega) (by omega)) (cqI ?_)
      rintro v109 M104 ⟨hP105, hQ106, h110, h111, h108⟩
      have hF107 : Fr fm_m152_6v3 M0 M104 := hF96.tr hQ106 rfl
      have e112 := ((hQ106.at g_6_4 rfl).trans e102)
      subst hQ; exact wk_zret r152_34 ⟨by omega, by omega⟩ (⟨rfl, _, rfl, hP105, hF107, by omega, by omega, by have := ((hQ106.at g_6_4 rfl).trans e102); omega⟩)
  · intro h113
    refine wk_c1 r152_10 ?_
    subst hQ; exact wk_zret r152_11 (by decide) (⟨rfl, _, rfl, hP2, hF4, by omega, by omega, by have := e10; omega⟩)
def fm_m153_6v3 : Nat := 3941070043873280
/-- IslandHall$Parser.atom -/
theorem m153_6v3 {B : eB} (d : Nat) (M0 : Mm) (p1 : Int) (hP0 : Pw M0) (l1 : 3 ≤ p1) (u1 : p1 ≤ 3) : Ct B (d + 19) 153 [R 6, I p1] M0 (qI fun z M => Pw M ∧ Fr fm_m153_6v3 M0 M ∧ 0 ≤ z ∧ z ≤ 1 ∧ 0 ≤ z + M 6 4 + (-1)) := by
  refine ct_of (d := d + 18) (k := 0) (L := [some (R 6), some (I p1)]) rfl rfl rfl ?_
  have hF0 := Fr.rf fm_m153_6v3 M0
  generalize hQ : (qI fun z M => Pw M ∧ Fr fm_m153_6v3 M0 M ∧ 0 ≤ z ∧ z ≤ 1 ∧ 0 ≤ z + M 6 4 + (-1)) = Q
  refine wk_al0 r153_0 (wk_getfr r153_1 fd_6_0 (br_6_0 hP0) (wk_cv1 r153_4 kc_9_237 rfl (m237_9 _ M0 hP0) (cqI ?_)))
  rintro v7 M1 ⟨hP2, hQ3, h8, h9, h5, h6⟩
  obtain rfl := Fr.same hQ3
  obtain ⟨v10, e11⟩ : ∃ v, M0 9 2 = v := ⟨_, rfl⟩
  have h12 := bf_9_2 hP0; rw [e11] at h12
  obtain ⟨v13, e14⟩ : ∃ v, M0 9 3 = v := ⟨_, rfl⟩
  have h15 := bf_9_3 hP0; rw [e14] at h15
  refine wk_ifeq r153_7 ⟨by omega, by omega⟩ ?_ ?_
  · intro h16
    refine wk_al0 r153_16 (wk_c8 r153_17 (wk_cv2 r153_19 kc_6_175 rfl (m175_6 _ M0 4114 hP0 (by decide)) (cqI ?_)))
    rintro v21 M17 ⟨hP18, hQ19, h22, h23⟩
    have hF20 : Fr fm_m153_6v3 M0 M17 := hF0.tr hQ19 rfl
    refine wk_ifeq r153_22 ⟨by omega, by omega⟩ ?_ ?_
    · intro h24
      refine wk_al0 r153_38 (wk_c8 r153_39 (wk_cv2 r153_41 kc_6_175 rfl (m175_6 _ M17 4115 hP18 (by decide)) (cqI ?_)))
      rintro v29 M25 ⟨hP26, hQ27, h30, h31⟩
      have hF28 : Fr fm_m153_6v3 M0 M25 := hF20.tr hQ27 rfl
      refine wk_ifeq r153_44 ⟨by omega, by omega⟩ ?_ ?_
      · intro h32
        refine wk_al0 r153_61 (wk_c8 r153_62 (wk_cv2 r153_64 kc_6_175 rfl (m175_6 _ M25 4116 hP26 (by decide)) (cqI ?_)))
        rintro v37 M33 ⟨hP34, hQ35, h38, h39⟩
        have hF36 : Fr fm_m153_6v3 M0 M33 := hF28.tr hQ35 rfl
        refine wk_ifeq r153_67 ⟨by omega, by omega⟩ ?_ ?_
        · intro h40
          refine wk_al0 r153_83 (wk_c8 r153_84 (wk_cv2 r153_86 kc_6_175 rfl (m175_6 _ M33 4117 hP34 (by decide)) (cqI ?_)))
          rintro v45 M41 ⟨hP42, hQ43, h46, h47⟩
          have hF44 : Fr fm_m153_6v3 M0 M41 := hF36.tr hQ43 rfl
          refine wk_ifeq r153_89 ⟨by omega, by omega⟩ ?_ ?_
          · intro h48
            refine wk_al0 r153_97 (wk_c8 r153_98 (wk_cv2 r153_100 kc_6_175 rfl (m175_6 _ M41 4118 hP42 (by decide)) (cqI ?_)))
            rintro v53 M49 ⟨hP50, hQ51, h54, h55⟩
            have hF52 : Fr fm_m153_6v3 M0 M49 := hF44.tr hQ51 rfl
            refine wk_ifeq r153_103 ⟨by omega, by omega⟩ ?_ ?_
            · intro h56
              refine wk_al0 r153_117 (wk_c1 r153_118 (wk_cv2 r153_119 kc_6_159 rfl (m159_6 _ M49 1 hP50 (by decide) (by decide)) (cqI ?_)))
              rintro v62 M57 ⟨hP58, hQ59, h63, h64, h61⟩
              have hF60 : Fr fm_m153_6v3 M0 M57 := hF52.tr hQ59 rfl
              obtain ⟨v65, e66⟩ : ∃ v, M57 6 4 = v := ⟨_, rfl⟩
              have h67 := bf_6_4 hP58; rw [e66] at h67
              subst hQ; exact wk_zret r153_122 ⟨by omega, by omega⟩ (⟨rfl, _, rfl, hP58, hF60, by omega, by omega, by have := e66; omega⟩)
            · intro h68
              refine wk_al0 r153_106 (wk_al0 r153_107 (wk_cv1 r153_108 kc_6_173 rfl (m173_6 _ M49 hP50) (cqI ?_)))
              rintro v74 M69 ⟨hP70, hQ71, h75, h76, h73⟩
              have hF72 : Fr fm_m153_6v3 M0 M69 := hF52.tr hQ71 rfl
              obtain ⟨v77, e78⟩ : ∃ v, M69 6 4 = v := ⟨_, rfl⟩
              have h79 := bf_6_4 hP70; rw [e78] at h79
              refine wk_cv2 r153_111 kc_6_163 rfl (m163_6 _ M69 v74 v77 hP70 (by omega) (by omega) e78 (by omega) (by omega) (by omega)) (cqI ?_)
              rintro v85 M80 ⟨hP81, hQ82, h86, h87, h84⟩
              have hF83 : Fr fm_m153_6v3 M0 M80 := hF72.tr hQ82 rfl
              obtain ⟨v88, e89⟩ : ∃ v, M80 6 4 = v := ⟨_, rfl⟩
              have h90 := bf_6_4 hP81; rw [e89] at h90
              refine wk_goto r153_114 ?_
              subst hQ; exact wk_zret r153_122 ⟨by omega, by omega⟩ (⟨rfl, _, rfl, hP81, hF83, by omega, by omega, by have := e89; omega⟩)
          · intro h91
            refine wk_al0 r153_92 (wk_cv1 r153_93 kc_6_176 rfl (m176_6 _ M41 hP42) (cqI ?_))
            rintro v97 M92 ⟨hP93, hQ94, h98, h99, h96⟩
            have hF95 : Fr fm_m153_6v3 M0 M92 := hF44.tr hQ94 rfl
            obtain ⟨v100, e101⟩ : ∃ v, M92 6 4 = v := ⟨_, rfl⟩
            have h102 := bf_6_4 hP93; rw [e101] at h102
            subst hQ; exact wk_zret r153_96 ⟨by omega, by omega⟩ (⟨rfl, _, rfl, hP93, hF95, by omega, by omega, by have := e101; omega⟩)
        · intro h103
          refine wk_al0 r153_70 (wk_c2 r153_71 (wk_al0 r153_73 (wk_c1 r153_74 (wk_c1 r153_75 (wk_cv3 r153_76 kc_6_167 rfl (m167_6v1 _ M33 0 1 hP34 (by decide) (by decide) (by decide) (by decide)) (cqI ?_))))))
          rintro v109 M104 ⟨hP105, hQ106, h110, h111, h108⟩
          have hF107 : Fr fm_m153_6v3 M0 M104 := hF36.tr hQ106 rfl
          obtain ⟨v112, e113⟩ : ∃ v, M104 6 4 = v := ⟨_, rfl⟩
          have h114 := bf_6_4 hP105; rw [e113] at h114
          refine wk_cv3 r153_79 kc_6_171 rfl (m171_6 _ M104 46 v109 v112 hP105 (by decide) (by decide) (by omega) (by omega) e113 (by omega) (by omega) (by omega)) (cqI ?_)
          rintro v120 M115 ⟨hP116, hQ117, h121, h122, h119⟩
          have hF118 : Fr fm_m153_6v3 M0 M115 := hF107.tr hQ117 rfl
          have e123 := ((hQ117.at g_6_4 rfl).trans e113)
          subst hQ; exact wk_zret r153_82 ⟨by omega, by omega⟩ (⟨rfl, _, rfl, hP116, hF118, by omega, by omega, by have := ((hQ117.at g_6_4 rfl).trans e113); omega⟩)
      · intro h124
        refine wk_al0 r153_47 (wk_c2 r153_48 (wk_al0 r153_50 (wk_c1 r153_51 (wk_c2 r153_52 (wk_cv3 r153_54 kc_6_167 rfl (m167_6v2 _ M25 0 6 hP26 (by decide) (by decide) (by decide) (by decide)) (cqI ?_))))))
        rintro v130 M125 ⟨hP126, hQ127, h131, h132, h129⟩
        have hF128 : Fr fm_m153_6v3 M0 M125 := hF28.tr hQ127 rfl
        obtain ⟨v133, e134⟩ : ∃ v, M125 6 4 = v := ⟨_, rfl⟩
        have h135 := bf_6_4 hP126; rw [e134] at h135
        refine wk_cv3 r153_57 kc_6_171 rfl (m171_6v1 _ M125 39 v130 v133 hP126 (by decide) (by decide) (by omega) (by omega) e134 (by omega) (by omega) (by omega)) (cqI ?_)
        rintro v141 M136 ⟨hP137, hQ138, h142, h143, h140⟩
        have hF139 : Fr fm_m153_6v3 M0 M136 := hF128.tr hQ138 rfl
        have e144 := ((hQ138.at g_6_4 rfl).trans e134)
        subst hQ; exact wk_zret r153_60 ⟨by omega, by omega⟩ (⟨rfl, _, rfl, hP137, hF139, by omega, by omega, by have := ((hQ138.at g_6_4 rfl).trans e134); omega⟩)
    · intro h145
      refine wk_al0 r153_25 (wk_c2 r153_26 (wk_al0 r153_28 (wk_c1 r153_29 (wk_c1 r153_30 (wk_cv3 r153_31 kc_6_167 rfl (m167_6v3 _ M17 0 3 hP18 (by decide) (by decide) (by decide) (by decide)) (cqI ?_))))))
      rintro v151 M146 ⟨hP147, hQ148, h152, h153, h150⟩
      have hF149 : Fr fm_m153_6v3 M0 M146 := hF20.tr hQ148 rfl
      obtain ⟨v154, e155⟩ : ∃ v, M146 6 4 = v := ⟨_, rfl⟩
      have h156 := bf_6_4 hP147; rw [e155] at h156
      refine wk_cv3 r153_34 kc_6_171 rfl (m171_6v2 _ M146 35 v151 v154 hP147 (by decide) (by decide) (by omega) (by omega) e155 (by omega) (by omega) (by omega)) (cqI ?_)
      rintro v162 M157 ⟨hP158, hQ159, h163, h164, h161⟩
      have hF160 : Fr fm_m153_6v3 M0 M157 := hF149.tr hQ159 rfl
      have e165 := ((hQ159.at g_6_4 rfl).trans e155)
      subst hQ; exact wk_zret r153_37 ⟨by omega, by omega⟩ (⟨rfl, _, rfl, hP158, hF160, by omega, by omega, by have := ((hQ159.at g_6_4 rfl).trans e155); omega⟩)
  · intro h166
    refine wk_al0 r153_10 (wk_il1 r153_11 (wk_cv2 r153_12 kc_6_152 rfl (m152_6v3 _ M0 p1 hP0 (by omega) (by omega)) (cqI ?_)))
    rintro v172 M167 ⟨hP168, hQ169, h173, h174, h171⟩
    have hF170 : Fr fm_m153_6v3 M0 M167 := hF0.tr hQ169 rfl
    obtain ⟨v175, e176⟩ : ∃ v, M167 6 4 = v := ⟨_, rfl⟩
    have h177 := bf_6_4 hP168; rw [e176] at h177
    subst hQ; exact wk_zret r153_15 ⟨by omega, by omega⟩ (⟨rfl, _, rfl, hP168, hF170, by omega, by omega, by have := e176; omega⟩)
def fm_m166_6v3 : Nat := 3941070043873280
/-- IslandHall$Parser.negation -/
theorem m166_6v3 {B : eB} (d : Nat) (M0 : Mm) (p1 : Int) (hP0 : Pw M0) (l1 : 3 ≤ p1) (u1 : p1 ≤ 3) : Ct B (d + 20) 166 [R 6, I p1] M0 (qI fun z M => Pw M ∧ Fr fm_m166_6v3 M0 M ∧ 0 ≤ z ∧ z ≤ 1 ∧ 0 ≤ z + M 6 4 + (-1)) := by
  refine ct_of (d := d + 19) (k := 2) (L := [some (R 6), some (I p1), none, none]) rfl rfl rfl ?_
  have hF0 := Fr.rf fm_m166_6v3 M0
  generalize hQ : (qI fun z M => Pw M ∧ Fr fm_m166_6v3 M0 M ∧ 0 ≤ z ∧ z ≤ 1 ∧ 0 ≤ z + M 6 4 + (-1)) = Q
  refine wk_c1 r166_0 (wk_is2 r166_1 rfl ?_)
  have c2_658 : ∀ (k658 : Nat) (M562 : Mm) (v559 : Int), (6 - v559).toNat = k658 → Pw M562 → Fr fm_m166_6v3 M0 M562 → 0 ≤ v559 → v559 ≤ 6 → Wp B (d + 19) 166 2 [some (R 6), some (I p1), some (I v559), none] [] M562 Q := by
    refine lp_ind ?_
    intro k658 ih658 M562 v559 hk658 hP563 hF564 h560 h561
    refine wk_il2 r166_2 (wk_c2 r166_3 ?_)
    have c23_657 : ∀ (M576 : Mm), Pw M576 → Fr fm_m166_6v3 M0 M576 → Wp B (d + 19) 166 23 [some (R 6), some (I p1), some (I v559), none] [] M576 Q := by
      intro M576 hP577 hF578
      refine wk_al0 r166_23 (wk_getfr r166_24 fd_6_0 (br_6_0 hP577) (wk_c8 r166_27 (wk_cv2 r166_29 kc_9_239 rfl (m239_9 _ M576 4119 hP577 (by decide)) (cqI ?_))))
      rintro v584 M579 ⟨hP580, hQ581, h585, h586, xh583⟩
      obtain rfl := Fr.same hQ581
      refine wk_ifeq r166_32 ⟨by omega, by omega⟩ ?_ ?_
      · intro h587
        refine wk_al0 r166_41 (wk_getfr r166_42 fd_6_0 (br_6_0 hP577) (wk_c2 r166_45 (wk_cv2 r166_47 kc_9_238 rfl (m238_9 _ M576 40 hP577 (by decide) (by decide)) (cqI ?_))))
        rintro v592 M588 ⟨hP589, hQ590, h593, h594⟩
        obtain rfl := Fr.same hQ590
        have c66_644 : ∀ (M622 : Mm) (v619 : Int) (v625 : Int), Pw M622 → Fr fm_m166_6v3 M0 M622 → M622 6 4 = v625 → 0 ≤ v619 → v619 ≤ 1 → 0 ≤ v625 → v625 ≤ 6 → 1 ≤ v619 + v625 → Wp B (d + 19) 166 66 [some (R 6), none, some (I v559), none] [I v619] M622 Q := by
          intro M622 v619 v625 hP623 hF624 e628 h620 h621 h626 h627 h629
          refine wk_is3 r166_66 rfl (wk_il3 r166_67 ?_)
          refine wk_ifeq r166_68 ⟨by omega, by omega⟩ ?_ ?_
          · intro h630
            refine wk_c1 r166_90 ?_
            subst hQ; exact wk_zret r166_91 (by decide) (⟨rfl, _, rfl, hP623, hF624, by omega, by omega, by have := e628; omega⟩)
          · intro h631
            refine wk_il2 r166_71 (wk_c1 r166_72 (wk_iandc 1 2 r166_73 ⟨rfl, by decide⟩ rfl ?_))
            refine wk_ifeq r166_74 ⟨by omega, by omega⟩ ?_ ?_
            · intro h633
              refine wk_c1 r166_86 (wk_goto r166_87 ?_)
              subst hQ; exact wk_zret r166_91 (by decide) (⟨rfl, _, rfl, hP623, hF624, by omega, by omega, by have := e628; omega⟩)
            · intro h634
              refine wk_al0 r166_77 (wk_c1 r166_78 (wk_c1 r166_79 (wk_cv3 r166_80 kc_6_172 rfl (m172_6 _ M622 1 0 hP623 (by decide) (by decide) (by decide) (by decide) (by first | assumption | omega | (unfold stepok; omega))) (cqI ?_))))
              rintro v639 M635 ⟨hP636, hQ637, h640, h641⟩
              have hF638 : Fr fm_m166_6v3 M0 M635 := hF624.tr hQ637 rfl
              refine wk_ifeq r166_83 ⟨by omega, by omega⟩ ?_ ?_
              · intro h642
                exfalso
                omega
              · intro h643
                refine wk_c1 r166_86 (wk_goto r166_87 ?_)
                subst hQ; exact wk_zret r166_91 (by decide) (⟨rfl, _, rfl, hP636, hF638, by omega, by omega, by have := ((hQ637.at g_6_4 rfl).trans e628); omega⟩)
        refine wk_ifeq r166_50 ⟨by omega, by omega⟩ ?_ ?_
        · intro h595
          refine wk_al0 r166_61 (wk_il1 r166_62 (wk_cv2 r166_63 kc_6_153 rfl (m153_6v3 _ M576 p1 hP577 (by omega) (by omega)) (cqI ?_)))
          rintro v601 M596 ⟨hP597, hQ598, h602, h603, h600⟩
          have hF599 : Fr fm_m166_6v3 M0 M596 := hF578.tr hQ598 rfl
          obtain ⟨v604, e605⟩ : ∃ v, M596 6 4 = v := ⟨_, rfl⟩
          have h606 := bf_6_4 hP597; rw [e605] at h606
          exact wp_fg (le_s (le_n (le_s (le_s le_0)))) (c66_644 M596 v601 v604 hP597 hF599 e605 (by omega) (by omega) (by omega) (by omega) (by omega))
        · intro h607
          refine wk_al0 r166_53 (wk_il1 r166_54 (wk_cv2 r166_55 kc_6_168 rfl (m168_6v3 _ M576 p1 hP577 (by omega) (by omega)) (cqI ?_)))
          rintro v613 M608 ⟨hP609, hQ610, h614, h615, h612⟩
          have hF611 : Fr fm_m166_6v3 M0 M608 := hF578.tr hQ610 rfl
          obtain ⟨v616, e617⟩ : ∃ v, M608 6 4 = v := ⟨_, rfl⟩
          have h618 := bf_6_4 hP609; rw [e617] at h618
          refine wk_goto r166_58 ?_
          exact wp_fg (le_s (le_n (le_s (le_s le_0)))) (c66_644 M608 v613 v616 hP609 hF611 e617 (by omega) (by omega) (by omega) (by omega) (by omega))
      · intro h645
        refine wk_al0 r166_35 (wk_c1 r166_36 (wk_cv2 r166_37 kc_6_159 rfl (m159_6v1 _ M576 2 hP577 (by decide) (by decide)) (cqI ?_)))
        rintro v651 M646 ⟨hP647, hQ648, h652, h653, h650⟩
        have hF649 : Fr fm_m166_6v3 M0 M646 := hF578.tr hQ648 rfl
        obtain ⟨v654, e655⟩ : ∃ v, M646 6 4 = v := ⟨_, rfl⟩
        have h656 := bf_6_4 hP647; rw [e655] at h656
        subst hQ; exact wk_zret r166_40 ⟨by omega, by omega⟩ (⟨rfl, _, rfl, hP647, hF649, by omega, by omega, by have := e655; omega⟩)
    refine wk_icge r166_5 ⟨by omega, by omega⟩ (by decide) ?_ ?_
    · intro h565
      exact wp_fg (le_s (le_s (le_s (le_s le_0)))) (c23_657 M562 hP563 hF564)
    · intro h566
      refine wk_al0 r166_8 (wk_c8 r166_9 (wk_cv2 r166_11 kc_6_175 rfl (m175_6 _ M562 4119 hP563 (by decide)) (cqI ?_)))
      rintro v571 M567 ⟨hP568, hQ569, h572, h573⟩
      have hF570 : Fr fm_m166_6v3 M0 M567 := hF564.tr hQ569 rfl
      refine wk_ifeq r166_14 ⟨by omega, by omega⟩ ?_ ?_
      · intro h574
        exact wp_fg (le_s (le_s (le_s (le_s le_0)))) (c23_657 M567 hP568 hF570)
      · intro h575
        refine wk_inc2 r166_17 rfl (wk_goto r166_20 ?_)
        exact wp_fg (le_s (le_s (le_s (le_s le_0)))) (ih658 (6 - (v559 + 1)).toNat (by omega) M567 (v559 + 1) rfl hP568 hF570 (by omega) (by omega))
  exact wp_fg (le_s (le_s (le_s (le_s le_0)))) (c2_658 _ M0 0 rfl hP0 hF0 (by omega) (by omega))
def fm_m157_6v3 : Nat := 3941070043873280
/-- IslandHall$Parser.conjunction -/
theorem m157_6v3 {B : eB} (d : Nat) (M0 : Mm) (p1 : Int) (hP0 : Pw M0) (l1 : 3 ≤ p1) (u1 : p1 ≤ 3) : Ct B (d + 21) 157 [R 6, I p1] M0 (qI fun z M => Pw M ∧ Fr fm_m157_6v3 M0 M ∧ 0 ≤ z ∧ z ≤ 1 ∧ 0 ≤ z + M 6 4 + (-1)) := by
  refine ct_of (d := d + 20) (k := 1) (L := [some (R 6), some (I p1), none]) rfl rfl rfl ?_
  have hF0 := Fr.rf fm_m157_6v3 M0
  generalize hQ : (qI fun z M => Pw M ∧ Fr fm_m157_6v3 M0 M ∧ 0 ≤ z ∧ z ≤ 1 ∧ 0 ≤ z + M 6 4 + (-1)) = Q
  refine wk_al0 r157_0 (wk_il1 r157_1 (wk_cv2 r157_2 kc_6_166 rfl (m166_6v3 _ M0 p1 hP0 (by omega) (by omega)) (cqI ?_)))
  rintro v6 M1 ⟨hP2, hQ3, h7, h8, h5⟩
  have hF4 : Fr fm_m157_6v3 M0 M1 := hF0.tr hQ3 rfl
  obtain ⟨v9, e10⟩ : ∃ v, M1 6 4 = v := ⟨_, rfl⟩
  have h11 := bf_6_4 hP2; rw [e10] at h11
  refine wk_ifne r157_5 ⟨by omega, by omega⟩ ?_ ?_
  · intro h12
    refine wk_c1 r157_10 (wk_is2 r157_11 rfl ?_)
    have c12_442 : ∀ (k442 : Nat) (M401 : Mm) (v398 : Int) (v404 : Int), (500 - v398).toNat = k442 → Pw M401 → Fr fm_m157_6v3 M0 M401 → M401 6 4 = v404 → 0 ≤ v398 → v398 ≤ 500 → 0 ≤ v404 → v404 ≤ 6 → 0 ≤ (-1) * v404 + v398 + 6 → Wp B (d + 20) 157 12 [some (R 6), some (I p1), some (I v398)] [] M401 Q := by
      refine lp_ind ?_
      intro k442 ih442 M401 v398 v404 hk442 hP402 hF403 e407 h399 h400 h405 h406 h408
      refine wk_il2 r157_12 (wk_c3 r157_13 ?_)
      refine wk_icge r157_16 ⟨by omega, by omega⟩ (by decide) ?_ ?_
      · intro h409
        refine wk_c1 r157_53 ?_
        subst hQ; exact wk_zret r157_54 (by decide) (⟨rfl, _, rfl, hP402, hF403, by omega, by omega, by have := e407; omega⟩)
      · intro h410
        refine wk_al0 r157_19 (wk_c8 r157_20 (wk_cv2 r157_22 kc_6_175 rfl (m175_6 _ M401 4125 hP402 (by decide)) (cqI ?_)))
        rintro v415 M411 ⟨hP412, hQ413, h416, h417⟩
        have hF414 : Fr fm_m157_6v3 M0 M411 := hF403.tr hQ413 rfl
        refine wk_ifeq r157_25 ⟨by omega, by omega⟩ ?_ ?_
        · intro h418
          refine wk_c1 r157_53 ?_
          subst hQ; exact wk_zret r157_54 (by decide) (⟨rfl, _, rfl, hP412, hF414, by omega, by omega, by have := ((hQ413.at g_6_4 rfl).trans e407); omega⟩)
        · intro h419
          refine wk_al0 r157_28 (wk_il1 r157_29 (wk_cv2 r157_30 kc_6_166 rfl (m166_6v3 _ M411 p1 hP412 (by omega) (by omega)) (cqI ?_)))
          rintro v425 M420 ⟨hP421, hQ422, h426, h427, h424⟩
          have hF423 : Fr fm_m157_6v3 M0 M420 := hF414.tr hQ422 rfl
          obtain ⟨v428, e429⟩ : ∃ v, M420 6 4 = v := ⟨_, rfl⟩
          have h430 := bf_6_4 hP421; rw [e429] at h430
          refine wk_ifeq r157_33 ⟨by omega, by omega⟩ ?_ ?_
          · intro h431
            refine wk_c1 r157_45 ?_
            subst hQ; exact wk_zret r157_46 (by decide) (⟨rfl, _, rfl, hP421, hF423, by omega, by omega, by have := e429; omega⟩)
          · intro h432
            refine wk_al0 r157_36 (wk_c1 r157_37 (wk_c1 r157_38 (wk_cv3 r157_39 kc_6_172 rfl (m172_6 _ M420 2 0 hP421 (by decide) (by decide) (by decide) (by decide) (by first | assumption | omega | (unfold stepok; omega))) (cqI ?_))))
            rintro v437 M433 ⟨hP434, hQ435, h438, h439⟩
            have hF436 : Fr fm_m157_6v3 M0 M433 := hF423.tr hQ435 rfl
            refine wk_ifne r157_42 ⟨by omega, by omega⟩ ?_ ?_
            · intro h440
              refine wk_inc2 r157_47 rfl (wk_goto r157_50 ?_)
              exact wp_fg (le_s (le_s (le_s le_0))) (ih442 (500 - (v398 + 1)).toNat (by omega) M433 (v398 + 1) v428 rfl hP434 hF436 ((hQ435.at g_6_4 rfl).trans e429) (by omega) (by omega) (by omega) (by omega) (by omega))
            · intro h441
              exfalso
              omega
    exact wp_fg (le_s (le_s (le_s le_0))) (c12_442 _ M1 0 v9 rfl hP2 hF4 e10 (by omega) (by omega) (by omega) (by omega) (by omega))
  · intro h443
    refine wk_c1 r157_8 ?_
    subst hQ; exact wk_zret r157_9 (by decide) (⟨rfl, _, rfl, hP2, hF4, by omega, by omega, by have := e10; omega⟩)
def fm_m158_6v3 : Nat := 3941070043873280
/-- IslandHall$Parser.expr -/
theorem m158_6v3 {B : eB} (d : Nat) (M0 : Mm) (p1 : Int) (hP0 : Pw M0) (l1 : 3 ≤ p1) (u1 : p1 ≤ 3) : Ct B (d + 22) 158 [R 6, I p1] M0 (qI fun z M => Pw M ∧ Fr fm_m158_6v3 M0 M ∧ 0 ≤ z ∧ z ≤ 1 ∧ 0 ≤ z + M 6 4 + (-1)) := by
  refine ct_of (d := d + 21) (k := 1) (L := [some (R 6), some (I p1), none]) rfl rfl rfl ?_
  have hF0 := Fr.rf fm_m158_6v3 M0
  generalize hQ : (qI fun z M => Pw M ∧ Fr fm_m158_6v3 M0 M ∧ 0 ≤ z ∧ z ≤ 1 ∧ 0 ≤ z + M 6 4 + (-1)) = Q
  refine wk_al0 r158_0 (wk_cv1 r158_1 kc_6_155 rfl (m155_6 _ M0 hP0) (cqI ?_))
  rintro v5 M1 ⟨hP2, hQ3, h6, h7⟩
  obtain rfl := Fr.same hQ3
  refine wk_ifne r158_4 ⟨by omega, by omega⟩ ?_ ?_
  · intro h8
    refine wk_il1 r158_13 (wk_c2 r158_14 ?_)
    refine wk_iclt r158_16 ⟨by omega, by omega⟩ (by decide) ?_ ?_
    · intro h9
      refine wk_al0 r158_25 (wk_il1 r158_26 (wk_cv2 r158_27 kc_6_157 rfl (m157_6v3 _ M0 p1 hP0 (by omega) (by omega)) (cqI ?_)))
      rintro v15 M10 ⟨hP11, hQ12, h16, h17, h14⟩
      have hF13 : Fr fm_m158_6v3 M0 M10 := hF0.tr hQ12 rfl
      obtain ⟨v18, e19⟩ : ∃ v, M10 6 4 = v := ⟨_, rfl⟩
      have h20 := bf_6_4 hP11; rw [e19] at h20
      refine wk_ifne r158_30 ⟨by omega, by omega⟩ ?_ ?_
      · intro h21
        refine wk_c1 r158_35 (wk_is2 r158_36 rfl ?_)
        have c37_451 : ∀ (k451 : Nat) (M410 : Mm) (v407 : Int) (v413 : Int), (500 - v407).toNat = k451 → Pw M410 → Fr fm_m158_6v3 M0 M410 → M410 6 4 = v413 → 0 ≤ v407 → v407 ≤ 500 → 0 ≤ v413 → v413 ≤ 6 → 0 ≤ (-1) * v413 + v407 + 6 → Wp B (d + 21) 158 37 [some (R 6), some (I p1), some (I v407)] [] M410 Q := by
          refine lp_ind ?_
          intro k451 ih451 M410 v407 v413 hk451 hP411 hF412 e416 h408 h409 h414 h415 h417
          refine wk_il2 r158_37 (wk_c3 r158_38 ?_)
          refine wk_icge r158_41 ⟨by omega, by omega⟩ (by decide) ?_ ?_
          · intro h418
            refine wk_c1 r158_78 ?_
            subst hQ; exact wk_zret r158_79 (by decide) (⟨rfl, _, rfl, hP411, hF412, by omega, by omega, by have := e416; omega⟩)
          · intro h419
            refine wk_al0 r158_44 (wk_c8 r158_45 (wk_cv2 r158_47 kc_6_175 rfl (m175_6 _ M410 4126 hP411 (by decide)) (cqI ?_)))
            rintro v424 M420 ⟨hP421, hQ422, h425, h426⟩
            have hF423 : Fr fm_m158_6v3 M0 M420 := hF412.tr hQ422 rfl
            refine wk_ifeq r158_50 ⟨by omega, by omega⟩ ?_ ?_
            · intro h427
              refine wk_c1 r158_78 ?_
              subst hQ; exact wk_zret r158_79 (by decide) (⟨rfl, _, rfl, hP421, hF423, by omega, by omega, by have := ((hQ422.at g_6_4 rfl).trans e416); omega⟩)
            · intro h428
              refine wk_al0 r158_53 (wk_il1 r158_54 (wk_cv2 r158_55 kc_6_157 rfl (m157_6v3 _ M420 p1 hP421 (by omega) (by omega)) (cqI ?_)))
              rintro v434 M429 ⟨hP430, hQ431, h435, h436, h433⟩
              have hF432 : Fr fm_m158_6v3 M0 M429 := hF423.tr hQ431 rfl
              obtain ⟨v437, e438⟩ : ∃ v, M429 6 4 = v := ⟨_, rfl⟩
              have h439 := bf_6_4 hP430; rw [e438] at h439
              refine wk_ifeq r158_58 ⟨by omega, by omega⟩ ?_ ?_
              · intro h440
                refine wk_c1 r158_70 ?_
                subst hQ; exact wk_zret r158_71 (by decide) (⟨rfl, _, rfl, hP430, hF432, by omega, by omega, by have := e438; omega⟩)
              · intro h441
                refine wk_al0 r158_61 (wk_c1 r158_62 (wk_c1 r158_63 (wk_cv3 r158_64 kc_6_172 rfl (m172_6 _ M429 3 0 hP430 (by decide) (by decide) (by decide) (by decide) (by first | assumption | omega | (unfold stepok; omega))) (cqI ?_))))
                rintro v446 M442 ⟨hP443, hQ444, h447, h448⟩
                have hF445 : Fr fm_m158_6v3 M0 M442 := hF432.tr hQ444 rfl
                refine wk_ifne r158_67 ⟨by omega, by omega⟩ ?_ ?_
                · intro h449
                  refine wk_inc2 r158_72 rfl (wk_goto r158_75 ?_)
                  exact wp_fg (le_s (le_s (le_s le_0))) (ih451 (500 - (v407 + 1)).toNat (by omega) M442 (v407 + 1) v437 rfl hP443 hF445 ((hQ444.at g_6_4 rfl).trans e438) (by omega) (by omega) (by omega) (by omega) (by omega))
                · intro h450
                  exfalso
                  omega
        exact wp_fg (le_s (le_s (le_s le_0))) (c37_451 _ M10 0 v18 rfl hP11 hF13 e19 (by omega) (by omega) (by omega) (by omega) (by omega))
      · intro h452
        refine wk_c1 r158_33 ?_
        subst hQ; exact wk_zret r158_34 (by decide) (⟨rfl, _, rfl, hP11, hF13, by omega, by omega, by have := e19; omega⟩)
    · intro h453
      exfalso
      omega
  · intro h454
    refine wk_al0 r158_7 (wk_c1 r158_8 (wk_cv2 r158_9 kc_6_159 rfl (m159_6 _ M0 1 hP0 (by decide) (by decide)) (cqI ?_)))
    rintro v460 M455 ⟨hP456, hQ457, h461, h462, h459⟩
    have hF458 : Fr fm_m158_6v3 M0 M455 := hF0.tr hQ457 rfl
    obtain ⟨v463, e464⟩ : ∃ v, M455 6 4 = v := ⟨_, rfl⟩
    have h465 := bf_6_4 hP456; rw [e464] at h465
    subst hQ; exact wk_zret r158_12 ⟨by omega, by omega⟩ (⟨rfl, _, rfl, hP456, hF458, by omega, by omega, by have := e464; omega⟩)
def fm_m168_6v2 : Nat := 3941070043873280
/-- IslandHall$Parser.parenthesis -/
theorem m168_6v2 {B : eB} (d : Nat) (M0 : Mm) (p1 : Int) (hP0 : Pw M0) (l1 : 2 ≤ p1) (u1 : p1 ≤ 2) : Ct B (d + 23) 168 [R 6, I p1] M0 (qI fun z M => Pw M ∧ Fr fm_m168_6v2 M0 M ∧ 0 ≤ z ∧ z ≤ 1 ∧ 0 ≤ z + M 6 4 + (-1)) := by
  refine ct_of (d := d + 22) (k := 0) (L := [some (R 6), some (I p1)]) rfl rfl rfl ?_
  have hF0 := Fr.rf fm_m168_6v2 M0
  generalize hQ : (qI fun z M => Pw M ∧ Fr fm_m168_6v2 M0 M ∧ 0 ≤ z ∧ z ≤ 1 ∧ 0 ≤ z + M 6 4 + (-1)) = Q
  refine wk_al0 r168_0 (wk_c2 r168_1 (wk_cv2 r168_3 kc_6_174 rfl (m174_6 _ M0 40 hP0 (by decide) (by decide)) (cqI ?_)))
  rintro v6 M1 ⟨hP2, hQ3, h7, h8, h5⟩
  have hF4 : Fr fm_m168_6v2 M0 M1 := hF0.tr hQ3 rfl
  obtain ⟨v9, e10⟩ : ∃ v, M1 6 4 = v := ⟨_, rfl⟩
  have h11 := bf_6_4 hP2; rw [e10] at h11
  refine wk_ifeq r168_6 ⟨by omega, by omega⟩ ?_ ?_
  · intro h12
    refine wk_c1 r168_32 ?_
    subst hQ; exact wk_zret r168_33 (by decide) (⟨rfl, _, rfl, hP2, hF4, by omega, by omega, by have := e10; omega⟩)
  · intro h13
    refine wk_al0 r168_9 (wk_il1 r168_10 (wk_c1 r168_11 (wk_iadd r168_12 (wk_cv2 r168_13 kc_6_158 rfl (m158_6v3 _ M1 (p1 + 1) hP2 (by omega) (by omega)) (cqI ?_)))))
    rintro v19 M14 ⟨hP15, hQ16, h20, h21, h18⟩
    have hF17 : Fr fm_m168_6v2 M0 M14 := hF4.tr hQ16 rfl
    obtain ⟨v22, e23⟩ : ∃ v, M14 6 4 = v := ⟨_, rfl⟩
    have h24 := bf_6_4 hP15; rw [e23] at h24
    refine wk_ifeq r168_16 ⟨by omega, by omega⟩ ?_ ?_
    · intro h25
      refine wk_c1 r168_32 ?_
      subst hQ; exact wk_zret r168_33 (by decide) (⟨rfl, _, rfl, hP15, hF17, by omega, by omega, by have := e23; omega⟩)
    · intro h26
      refine wk_al0 r168_19 (wk_c2 r168_20 (wk_cv2 r168_22 kc_6_174 rfl (m174_6v1 _ M14 41 hP15 (by decide) (by decide)) (cqI ?_)))
      rintro v32 M27 ⟨hP28, hQ29, h33, h34, h31⟩
      have hF30 : Fr fm_m168_6v2 M0 M27 := hF17.tr hQ29 rfl
      obtain ⟨v35, e36⟩ : ∃ v, M27 6 4 = v := ⟨_, rfl⟩
      have h37 := bf_6_4 hP28; rw [e36] at h37
      refine wk_ifeq r168_25 ⟨by omega, by omega⟩ ?_ ?_
      · intro h38
        refine wk_c1 r168_32 ?_
        subst hQ; exact wk_zret r168_33 (by decide) (⟨rfl, _, rfl, hP28, hF30, by omega, by omega, by have := e36; omega⟩)
      · intro h39
        refine wk_c1 r168_28 (wk_goto r168_29 ?_)
        subst hQ; exact wk_zret r168_33 (by decide) (⟨rfl, _, rfl, hP28, hF30, by omega, by omega, by have := e36; omega⟩)
def fm_m152_6v2 : Nat := 3941070043873280
/-- IslandHall$Parser.aboutSomeone -/
theorem m152_6v2 {B : eB} (d : Nat) (M0 : Mm) (p1 : Int) (hP0 : Pw M0) (l1 : 2 ≤ p1) (u1 : p1 ≤ 2) : Ct B (d + 24) 152 [R 6, I p1] M0 (qI fun z M => Pw M ∧ Fr fm_m152_6v2 M0 M ∧ 0 ≤ z ∧ z ≤ 1 ∧ 0 ≤ z + M 6 4 + (-1)) := by
  refine ct_of (d := d + 23) (k := 2) (L := [some (R 6), some (I p1), none, none]) rfl rfl rfl ?_
  have hF0 := Fr.rf fm_m152_6v2 M0
  generalize hQ : (qI fun z M => Pw M ∧ Fr fm_m152_6v2 M0 M ∧ 0 ≤ z ∧ z ≤ 1 ∧ 0 ≤ z + M 6 4 + (-1)) = Q
  refine wk_al0 r152_0 (wk_cv1 r152_1 kc_6_165 rfl (m165_6 _ M0 hP0) (cqI ?_))
  rintro v6 M1 ⟨hP2, hQ3, h7, h8, h5⟩
  have hF4 : Fr fm_m152_6v2 M0 M1 := hF0.tr hQ3 rfl
  obtain ⟨v9, e10⟩ : ∃ v, M1 6 4 = v := ⟨_, rfl⟩
  have h11 := bf_6_4 hP2; rw [e10] at h11
  refine wk_is2 r152_4 rfl (wk_il2 r152_5 (wk_c1 r152_6 ?_))
  refine wk_icne r152_7 ⟨by omega, by omega⟩ (by decide) ?_ ?_
  · intro h12
    refine wk_al0 r152_12 (wk_c8 r152_13 (wk_cv2 r152_15 kc_6_175 rfl (m175_6 _ M1 4111 hP2 (by decide)) (cqI ?_)))
    rintro v17 M13 ⟨hP14, hQ15, h18, h19⟩
    have hF16 : Fr fm_m152_6v2 M0 M13 := hF4.tr hQ15 rfl
    refine wk_ifeq r152_18 ⟨by omega, by omega⟩ ?_ ?_
    · intro h20
      refine wk_al0 r152_35 (wk_c8 r152_36 (wk_cv2 r152_38 kc_6_175 rfl (m175_6 _ M13 4112 hP14 (by decide)) (cqI ?_)))
      rintro v25 M21 ⟨hP22, hQ23, h26, h27⟩
      have hF24 : Fr fm_m152_6v2 M0 M21 := hF16.tr hQ23 rfl
      refine wk_ifeq r152_41 ⟨by omega, by omega⟩ ?_ ?_
      · intro h28
        refine wk_al0 r152_73 (wk_c8 r152_74 (wk_cv2 r152_76 kc_6_175 rfl (m175_6 _ M21 4113 hP22 (by decide)) (cqI ?_)))
        rintro v33 M29 ⟨hP30, hQ31, h34, h35⟩
        have hF32 : Fr fm_m152_6v2 M0 M29 := hF24.tr hQ31 rfl
        refine wk_ifne r152_79 ⟨by omega, by omega⟩ ?_ ?_
        · intro h36
          refine wk_al0 r152_88 (wk_il1 r152_89 (wk_cv2 r152_90 kc_6_168 rfl (m168_6v2 _ M29 p1 hP30 (by omega) (by omega)) (cqI ?_)))
          rintro v42 M37 ⟨hP38, hQ39, h43, h44, h41⟩
          have hF40 : Fr fm_m152_6v2 M0 M37 := hF32.tr hQ39 rfl
          obtain ⟨v45, e46⟩ : ∃ v, M37 6 4 = v := ⟨_, rfl⟩
          have h47 := bf_6_4 hP38; rw [e46] at h47
          refine wk_ifne r152_93 ⟨by omega, by omega⟩ ?_ ?_
          · intro h48
            refine wk_al0 r152_98 ?_
            obtain ⟨v49, e50⟩ : ∃ v, M37 6 2 = v := ⟨_, rfl⟩
            have hC51 : isC v49 := by have := pcE hP38; rw [e50] at this; exact this
            refine wk_getfr r152_99 fd_6_2 e50 (wk_il2 r152_102 (wk_cv2 r152_103 (kcC_139 hC51) rfl (m139 _ M37 v49 v6 hP38 hC51 (by omega) (by omega)) (cqV ?_)))
            rintro M52 ⟨hP53, hQ54⟩
            have hF55 : Fr fm_m152_6v2 M0 M52 := hF40.tr hQ54 rfl
            refine wk_c1 r152_106 ?_
            subst hQ; exact wk_zret r152_107 (by decide) (⟨rfl, _, rfl, hP53, hF55, by omega, by omega, by have := ((hQ54.at g_6_4 rfl).trans e46); omega⟩)
          · intro h56
            refine wk_c1 r152_96 ?_
            subst hQ; exact wk_zret r152_97 (by decide) (⟨rfl, _, rfl, hP38, hF40, by omega, by omega, by have := e46; omega⟩)
        · intro h57
          refine wk_al0 r152_82 (wk_c1 r152_83 (wk_cv2 r152_84 kc_6_159 rfl (m159_6 _ M29 1 hP30 (by decide) (by decide)) (cqI ?_)))
          rintro v63 M58 ⟨hP59, hQ60, h64, h65, h62⟩
          have hF61 : Fr fm_m152_6v2 M0 M58 := hF32.tr hQ60 rfl
          obtain ⟨v66, e67⟩ : ∃ v, M58 6 4 = v := ⟨_, rfl⟩
          have h68 := bf_6_4 hP59; rw [e67] at h68
          subst hQ; exact wk_zret r152_87 ⟨by omega, by omega⟩ (⟨rfl, _, rfl, hP59, hF61, by omega, by omega, by have := e67; omega⟩)
      · intro h69
        refine wk_al0 r152_44 (wk_cv1 r152_45 kc_6_165 rfl (m165_6 _ M21 hP22) (cqI ?_))
        rintro v75 M70 ⟨hP71, hQ72, h76, h77, h74⟩
        have hF73 : Fr fm_m152_6v2 M0 M70 := hF24.tr hQ72 rfl
        obtain ⟨v78, e79⟩ : ∃ v, M70 6 4 = v := ⟨_, rfl⟩
        have h80 := bf_6_4 hP71; rw [e79] at h80
        refine wk_is3 r152_48 rfl (wk_il3 r152_49 (wk_c1 r152_50 ?_))
        refine wk_iceq r152_51 ⟨by omega, by omega⟩ (by decide) ?_ ?_
        · intro h81
          refine wk_c1 r152_71 ?_
          subst hQ; exact wk_zret r152_72 (by decide) (⟨rfl, _, rfl, hP71, hF73, by omega, by omega, by have := e79; omega⟩)
        · intro h82
          refine wk_al0 r152_54 (wk_c1 r152_55 (wk_il2 r152_56 (wk_c1 r152_57 (wk_ishlc r152_58 (by decide) pwl_3 (wk_il3 r152_59 (wk_iord2 3 8 r152_60 (by decide) ⟨by omega, by omega⟩ ⟨by omega, by omega, by omega⟩ (wk_cv3 r152_61 kc_6_172 rfl (m172_6 _ M70 5 ((v6 * 8) + v75) hP71 (by decide) (by decide) (by omega) (by omega) (by first | assumption | omega | (unfold stepok; omega))) (cqI ?_))))))))
          rintro v87 M83 ⟨hP84, hQ85, h88, h89⟩
          have hF86 : Fr fm_m152_6v2 M0 M83 := hF73.tr hQ85 rfl
          refine wk_ifeq r152_64 ⟨by omega, by omega⟩ ?_ ?_
          · intro h90
            exfalso
            omega
          · intro h91
            refine wk_c1 r152_67 (wk_goto r152_68 ?_)
            subst hQ; exact wk_zret r152_72 (by decide) (⟨rfl, _, rfl, hP84, hF86, by omega, by omega, by have := ((hQ85.at g_6_4 rfl).trans e79); omega⟩)
    · intro h92
      refine wk_al0 r152_21 (wk_c1 r152_22 (wk_il2 r152_23 (wk_c1 r152_24 (wk_imul r152_25 (wk_iadd r152_26 (wk_al0 r152_27 (wk_cv1 r152_28 kc_6_173 rfl (m173_6 _ M13 hP14) (cqI ?_))))))))
      rintro v98 M93 ⟨hP94, hQ95, h99, h100, h97⟩
      have hF96 : Fr fm_m152_6v2 M0 M93 := hF16.tr hQ95 rfl
      obtain ⟨v101, e102⟩ : ∃ v, M93 6 4 = v := ⟨_, rfl⟩
      have h103 := bf_6_4 hP94; rw [e102] at h103
      refine wk_cv3 r152_31 kc_6_171 rfl (m171_6v3 _ M93 (0 + (v6 * 5)) v98 v101 hP94 (by omega) (by omega) (by omega) (by omega) e102 (by omega) (by omega) (by omega)) (cqI ?_)
      rintro v109 M104 ⟨hP105, hQ106, h110, h111, h108⟩
      have hF107 : Fr fm_m152_6v2 M0 M104 := hF96.tr hQ106 rfl
      have e112 := ((hQ106.at g_6_4 rfl).trans e102)
      subst hQ; exact wk_zret r152_34 ⟨by omega, by omega⟩ (⟨rfl, _, rfl, hP105, hF107, by omega, by omega, by have := ((hQ106.at g_6_4 rfl).trans e102); omega⟩)
  · intro h113
    refine wk_c1 r152_10 ?_
    subst hQ; exact wk_zret r152_11 (by decide) (⟨rfl, _, rfl, hP2, hF4, by omega, by omega, by have := e10; omega⟩)
