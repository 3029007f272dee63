/-! ===== written by program (wip/layer2/all.py): contracts of methods ===== -/
def fm_m163_6 : Nat := 3941066822647808
/-- IslandHall$Parser.manyAtom -/
theorem m163_6 {B : eB} (d : Nat) (M0 : Mm) (p1 : Int) (x6_4 : Int) (hP0 : Pw M0) (l1 : (-1) ≤ p1) (u1 : p1 ≤ 4) (ex6_4 : M0 6 4 = x6_4) (lx6_4 : 0 ≤ x6_4) (ux6_4 : x6_4 ≤ 6) (rp0 : 0 ≤ p1 + x6_4) : Ct B (d + 4) 163 [R 6, I p1] M0 (qI fun z M => Pw M ∧ Fr fm_m163_6 M0 M ∧ 0 ≤ z ∧ z ≤ 1 ∧ 0 ≤ z + M 6 4 + (-1)) := by
  refine ct_of (d := d + 3) (k := 4) (L := [some (R 6), some (I p1), none, none, none, none]) rfl rfl rfl ?_
  have hF0 := Fr.rf fm_m163_6 M0
  generalize hQ : (qI fun z M => Pw M ∧ Fr fm_m163_6 M0 M ∧ 0 ≤ z ∧ z ≤ 1 ∧ 0 ≤ z + M 6 4 + (-1)) = Q
  refine wk_il1 r163_0 (wk_c1 r163_1 ?_)
  refine wk_icne r163_2 ⟨by omega, by omega⟩ (by decide) ?_ ?_
  · intro h1
    refine wk_al0 r163_7 (wk_getfr r163_8 fd_6_0 (br_6_0 hP0) (wk_c2 r163_11 (wk_cv2 r163_13 kc_9_238 rfl (m238_9v1 _ M0 60 hP0 (by decide) (by decide)) (cqI ?_))))
    rintro v6 M2 ⟨hP3, hQ4, h7, h8⟩
    obtain rfl := Fr.same hQ4
    have c40_107 : ∀ (v20 : Int), (-1) ≤ v20 → v20 ≤ 1 → Wp B (d + 3) 163 40 [some (R 6), some (I p1), none, none, none, none] [I v20] M0 Q := by
      intro v20 h21 h22
      refine wk_is2 r163_40 rfl (wk_il2 r163_41 ?_)
      have c63_106 : Wp B (d + 3) 163 63 [some (R 6), some (I p1), some (I v20), none, none, none] [] M0 Q := by
        refine wk_al0 r163_63 (wk_getfr r163_64 fd_6_0 (br_6_0 hP0) (wk_cv1 r163_67 kc_9_241 rfl (m241_9 _ M0 hP0) (cqV ?_)))
        rintro M45 ⟨hP46, hQ47⟩
        have hF48 : Fr fm_m163_6 M0 M45 := hF0.tr hQ47 rfl
        refine wk_al0 r163_70 (wk_c1 r163_71 (wk_c2 r163_72 (wk_cv3 r163_74 kc_6_167 rfl (m167_6 _ M45 0 99 hP46 (by decide) (by decide) (by decide) (by decide)) (cqI ?_))))
        rintro v54 M49 ⟨hP50, hQ51, h55, h56, h53⟩
        have hF52 : Fr fm_m163_6 M0 M49 := hF48.tr hQ51 rfl
        obtain ⟨v57, e58⟩ : ∃ v, M49 6 4 = v := ⟨_, rfl⟩
        have h59 := bf_6_4 hP50; rw [e58] at h59
        refine wk_is3 r163_77 rfl (wk_il3 r163_78 (wk_c1 r163_79 ?_))
        refine wk_icne r163_80 ⟨by omega, by omega⟩ (by decide) ?_ ?_
        · intro h60
          refine wk_il3 r163_85 (wk_c2 r163_86 (wk_min r163_88 ⟨by omega, by omega⟩ (by decide) rfl ?_))
          intro v61 h62 h63 h64
          refine wk_is4 r163_91 rfl (wk_il2 r163_93 ?_)
          refine wk_ifge r163_94 ⟨by omega, by omega⟩ ?_ ?_
          · intro h65
            refine wk_il2 r163_106 ?_
            refine wk_ifle r163_107 ⟨by omega, by omega⟩ ?_ ?_
            · intro h66
              refine wk_c1 r163_119 (wk_il4 r163_120 (wk_shl1 8 256 r163_122 ⟨by omega, by omega⟩ ⟨pwl_8, by decide⟩ ?_))
              intro v67 h68 h69 h70
              refine wk_is5 r163_123 rfl (wk_al0 r163_125 (wk_c2 r163_126 (wk_il1 r163_128 (wk_c2 r163_129 (wk_ishlc r163_131 (by decide) pwl_8 (wk_il5 r163_132 (wk_c3 r163_134 (wk_iandc 8 256 r163_137 ⟨rfl, by decide⟩ rfl (wk_iord2 8 256 r163_138 (by decide) ⟨by omega, by omega⟩ ⟨by omega, by omega, by omega⟩ (wk_cv3 r163_139 kc_6_172 rfl (m172_6 _ M49 6 ((p1 * 256) + (v67 % 256)) hP50 (by decide) (by decide) (by omega) (by omega) (by first | assumption | omega | (unfold stepok; omega))) (cqI ?_)))))))))))
              rintro v76 M72 ⟨hP73, hQ74, h77, h78⟩
              have hF75 : Fr fm_m163_6 M0 M72 := hF52.tr hQ74 rfl
              subst hQ; exact wk_zret r163_142 ⟨by omega, by omega⟩ (⟨rfl, _, rfl, hP73, hF75, by omega, by omega, by have := ((hQ74.at g_6_4 rfl).trans e58); omega⟩)
            · intro h79
              refine wk_c1 r163_110 (wk_il4 r163_111 (wk_c1 r163_113 (wk_iadd r163_114 (wk_ishl r163_115 ⟨by omega, by omega⟩ (wk_wrap ?_)))))
              intro v80 h81 h82 h83
              refine wk_goto r163_116 (wk_is5 r163_123 rfl (wk_al0 r163_125 (wk_c2 r163_126 (wk_il1 r163_128 (wk_c2 r163_129 (wk_ishlc r163_131 (by decide) pwl_8 (wk_il5 r163_132 (wk_c3 r163_134 (wk_iandc 8 256 r163_137 ⟨rfl, by decide⟩ rfl (wk_iord2 8 256 r163_138 (by decide) ⟨by omega, by omega⟩ ⟨by omega, by omega, by omega⟩ (wk_cv3 r163_139 kc_6_172 rfl (m172_6 _ M49 6 ((p1 * 256) + (v80 % 256)) hP50 (by decide) (by decide) (by omega) (by omega) (by first | assumption | omega | (unfold stepok; omega))) (cqI ?_))))))))))))
              rintro v89 M85 ⟨hP86, hQ87, h90, h91⟩
              have hF88 : Fr fm_m163_6 M0 M85 := hF52.tr hQ87 rfl
              subst hQ; exact wk_zret r163_142 ⟨by omega, by omega⟩ (⟨rfl, _, rfl, hP86, hF88, by omega, by omega, by have := ((hQ87.at g_6_4 rfl).trans e58); omega⟩)
          · intro h92
            refine wk_c1 r163_97 (wk_il4 r163_98 (wk_shl1 8 256 r163_100 ⟨by omega, by omega⟩ ⟨pwl_8, by decide⟩ ?_))
            intro v93 h94 h95 h96
            refine wk_c1 r163_101 (wk_isub r163_102 (wk_goto r163_103 (wk_is5 r163_123 rfl (wk_al0 r163_125 (wk_c2 r163_126 (wk_il1 r163_128 (wk_c2 r163_129 (wk_ishlc r163_131 (by decide) pwl_8 (wk_il5 r163_132 (wk_c3 r163_134 (wk_iandc 8 256 r163_137 ⟨rfl, by decide⟩ rfl (wk_iord2 8 256 r163_138 (by decide) ⟨by omega, by omega⟩ ⟨by omega, by omega, by omega⟩ (wk_cv3 r163_139 kc_6_172 rfl (m172_6 _ M49 6 ((p1 * 256) + ((v93 - 1) % 256)) hP50 (by decide) (by decide) (by omega) (by omega) (by first | assumption | omega | (unfold stepok; omega))) (cqI ?_))))))))))))))
            rintro v102 M98 ⟨hP99, hQ100, h103, h104⟩
            have hF101 : Fr fm_m163_6 M0 M98 := hF52.tr hQ100 rfl
            subst hQ; exact wk_zret r163_142 ⟨by omega, by omega⟩ (⟨rfl, _, rfl, hP99, hF101, by omega, by omega, by have := ((hQ100.at g_6_4 rfl).trans e58); omega⟩)
        · intro h105
          refine wk_c1 r163_83 ?_
          subst hQ; exact wk_zret r163_84 (by decide) (⟨rfl, _, rfl, hP50, hF52, by omega, by omega, by have := e58; omega⟩)
      refine wk_ifne r163_42 ⟨by omega, by omega⟩ ?_ ?_
      · intro h23
        exact wp_fg (le_s (le_s (le_s (le_s (le_s (le_s le_0)))))) c63_106
      · intro h24
        refine wk_al0 r163_45 (wk_getfr r163_46 fd_6_0 (br_6_0 hP0) (wk_c2 r163_49 (wk_cv2 r163_51 kc_9_238 rfl (m238_9v2 _ M0 61 hP0 (by decide) (by decide)) (cqI ?_))))
        rintro v29 M25 ⟨hP26, hQ27, h30, h31⟩
        obtain rfl := Fr.same hQ27
        refine wk_ifne r163_54 ⟨by omega, by omega⟩ ?_ ?_
        · intro h32
          exact wp_fg (le_s (le_s (le_s (le_s (le_s (le_s le_0)))))) c63_106
        · intro h33
          refine wk_al0 r163_57 (wk_c1 r163_58 (wk_cv2 r163_59 kc_6_159 rfl (m159_6 _ M0 1 hP0 (by decide) (by decide)) (cqI ?_)))
          rintro v39 M34 ⟨hP35, hQ36, h40, h41, h38⟩
          have hF37 : Fr fm_m163_6 M0 M34 := hF0.tr hQ36 rfl
          obtain ⟨v42, e43⟩ : ∃ v, M34 6 4 = v := ⟨_, rfl⟩
          have h44 := bf_6_4 hP35; rw [e43] at h44
          subst hQ; exact wk_zret r163_62 ⟨by omega, by omega⟩ (⟨rfl, _, rfl, hP35, hF37, by omega, by omega, by have := e43; omega⟩)
    refine wk_ifeq r163_16 ⟨by omega, by omega⟩ ?_ ?_
    · intro h9
      refine wk_al0 r163_23 (wk_getfr r163_24 fd_6_0 (br_6_0 hP0) (wk_c2 r163_27 (wk_cv2 r163_29 kc_9_238 rfl (m238_9v2 _ M0 62 hP0 (by decide) (by decide)) (cqI ?_))))
      rintro v14 M10 ⟨hP11, hQ12, h15, h16⟩
      obtain rfl := Fr.same hQ12
      refine wk_ifeq r163_32 ⟨by omega, by omega⟩ ?_ ?_
      · intro h17
        refine wk_c1 r163_39 ?_
        exact wp_fg (le_s (le_s (le_s (le_s (le_s (le_s le_0)))))) (c40_107 0 (by omega) (by omega))
      · intro h18
        refine wk_c1 r163_35 (wk_goto r163_36 ?_)
        exact wp_fg (le_s (le_s (le_s (le_s (le_s (le_s le_0)))))) (c40_107 1 (by omega) (by omega))
    · intro h19
      refine wk_c1 r163_19 (wk_goto r163_20 ?_)
      exact wp_fg (le_s (le_s (le_s (le_s (le_s (le_s le_0)))))) (c40_107 (-1) (by omega) (by omega))
  · intro h108
    refine wk_c1 r163_5 ?_
    subst hQ; exact wk_zret r163_6 (by decide) (⟨rfl, _, rfl, hP0, hF0, by omega, by omega, by have := ex6_4; omega⟩)
def fm_m140 : Nat := 6979321856
/-- IslandHall$Code.addTold -/
theorem m140 {B : eB} (d : Nat) (M0 : Mm) (c0 : Int) (p1 : Int) (hP0 : Pw M0) (hC0 : isC c0) (l1 : 0 ≤ p1) (u1 : p1 ≤ 99) : Ct B (d + 2) 140 [R c0, I p1] M0 (qV fun M => Pw M ∧ Fr fm_m140 M0 M) := by
  refine ct_of (d := d + 1) (k := 1) (L := [some (R c0), some (I p1), none]) rfl rfl rfl ?_
  have hF0 := Fr.rf fm_m140 M0
  generalize hQ : (qV fun M => Pw M ∧ Fr fm_m140 M0 M) = Q
  refine wk_il1 r140_0 (wk_c2 r140_1 ?_)
  refine wk_icge r140_3 ⟨by omega, by omega⟩ (by decide) ?_ ?_
  · intro h1
    refine wk_c1 r140_10 (wk_is2 r140_11 rfl (wk_al0 r140_12 (wk_c1 r140_13 (wk_il2 r140_14 ?_))))
    refine wk_ifeq r140_15 (by decide) ?_ ?_
    · intro h2
      refine wk_c2 r140_25 (wk_cv3 r140_27 (kcC_138 hC0) rfl (m138 _ M0 c0 0 117 hP0 hC0 (by decide) (by decide) (by decide) (by decide) (by first | assumption | omega | (unfold stepok; omega))) (cqV ?_))
      rintro M3 ⟨hP4, hQ5⟩
      have hF6 : Fr fm_m140 M0 M3 := hF0.tr hQ5 rfl
      refine wk_il2 r140_30 ?_
      refine wk_ifeq r140_31 (by decide) ?_ ?_
      · intro h7
        subst hQ; exact wk_ret r140_46 (⟨rfl, hP4, hF6⟩)
      · intro h8
        exfalso
        omega
    · intro h9
      exfalso
      omega
  · intro h10
    refine wk_c1 r140_6 (wk_goto r140_7 (wk_is2 r140_11 rfl (wk_al0 r140_12 (wk_c1 r140_13 (wk_il2 r140_14 ?_)))))
    refine wk_ifeq r140_15 (by decide) ?_ ?_
    · intro h11
      exfalso
      omega
    · intro h12
      refine wk_c2 r140_18 (wk_il1 r140_20 (wk_iadd r140_21 (wk_goto r140_22 (wk_cv3 r140_27 (kcC_138 hC0) rfl (m138 _ M0 c0 0 (102 + p1) hP0 hC0 (by decide) (by decide) (by omega) (by omega) (by first | assumption | omega | (unfold stepok; omega))) (cqV ?_)))))
      rintro M13 ⟨hP14, hQ15⟩
      have hF16 : Fr fm_m140 M0 M13 := hF0.tr hQ15 rfl
      refine wk_il2 r140_30 ?_
      refine wk_ifeq r140_31 (by decide) ?_ ?_
      · intro h17
        exfalso
        omega
      · intro h18
        refine wk_al0 r140_34 (wk_dupr r140_35 (wk_getfb r140_36 (fdC_3 hC0) (bC_3 hP14 hC0) ?_))
        intro v19 h21 h22 e20
        refine wk_c1 r140_39 (wk_il1 r140_40 (wk_shl1 14 16384 r140_41 ⟨by omega, by omega⟩ ⟨pwl_14, by decide⟩ ?_))
        intro v23 h24 h25 h26
        refine wk_ior 15 32768 r140_42 (by decide) ⟨by omega, by omega⟩ ⟨by omega, by omega⟩ ?_
        intro v27 h28 h29 h30 h31 h32
        refine wk_putfi81 r140_43 (fdC_3 hC0) (wk_nw (g_c3 hC0) rfl hP14 hF16 (uC_3 hC0 ⟨by omega, by omega⟩) ?_)
        intro M33 hP34 hF35 e36
        subst hQ; exact wk_ret r140_46 (⟨rfl, hP34, hF35⟩)
def fm_m176_6 : Nat := 3941068970131456
/-- IslandHall$Parser.toldAtom -/
theorem m176_6 {B : eB} (d : Nat) (M0 : Mm) (hP0 : Pw M0)  : Ct B (d + 4) 176 [R 6] M0 (qI fun z M => Pw M ∧ Fr fm_m176_6 M0 M ∧ 0 ≤ z ∧ z ≤ 1 ∧ 0 ≤ z + M 6 4 + (-1)) := by
  refine ct_of (d := d + 3) (k := 1) (L := [some (R 6), none]) rfl rfl rfl ?_
  have hF0 := Fr.rf fm_m176_6 M0
  generalize hQ : (qI fun z M => Pw M ∧ Fr fm_m176_6 M0 M ∧ 0 ≤ z ∧ z ≤ 1 ∧ 0 ≤ z + M 6 4 + (-1)) = Q
  refine wk_al0 r176_0 (wk_c1 r176_1 (wk_c2 r176_2 (wk_cv3 r176_4 kc_6_167 rfl (m167_6 _ M0 0 99 hP0 (by decide) (by decide) (by decide) (by decide)) (cqI ?_))))
  rintro v6 M1 ⟨hP2, hQ3, h7, h8, h5⟩
  have hF4 : Fr fm_m176_6 M0 M1 := hF0.tr hQ3 rfl
  obtain ⟨v9, e10⟩ : ∃ v, M1 6 4 = v := ⟨_, rfl⟩
  have h11 := bf_6_4 hP2; rw [e10] at h11
  refine wk_is1 r176_7 rfl (wk_il1 r176_8 (wk_c1 r176_9 ?_))
  refine wk_icne r176_10 ⟨by omega, by omega⟩ (by decide) ?_ ?_
  · intro h12
    refine wk_al0 r176_15 ?_
    obtain ⟨v13, e14⟩ : ∃ v, M1 6 2 = v := ⟨_, rfl⟩
    have hC15 : isC v13 := by have := pcE hP2; rw [e14] at this; exact this
    refine wk_getfr r176_16 fd_6_2 e14 (wk_il1 r176_19 (wk_cv2 r176_20 (kcC_140 hC15) rfl (m140 _ M1 v13 v6 hP2 hC15 (by omega) (by omega)) (cqV ?_)))
    rintro M16 ⟨hP17, hQ18⟩
    have hF19 : Fr fm_m176_6 M0 M16 := hF4.tr hQ18 rfl
    refine wk_c1 r176_23 ?_
    subst hQ; exact wk_zret r176_24 (by decide) (⟨rfl, _, rfl, hP17, hF19, by omega, by omega, by have := ((hQ18.at g_6_4 rfl).trans e10); omega⟩)
  · intro h20
    refine wk_c1 r176_13 ?_
    subst hQ; exact wk_zret r176_14 (by decide) (⟨rfl, _, rfl, hP2, hF4, by omega, by omega, by have := e10; omega⟩)
def fm_m167_6v1 : Nat := 3941061990809600
/-- IslandHall$Parser.number -/
theorem m167_6v1 {B : eB} (d : Nat) (M0 : Mm) (p1 : Int) (p2 : Int) (hP0 : Pw M0) (l1 : 0 ≤ p1) (u1 : p1 ≤ 0) (l2 : 1 ≤ p2) (u2 : p2 ≤ 1) : Ct B (d + 3) 167 [R 6, I p1, I p2] M0 (qI fun z M => Pw M ∧ Fr fm_m167_6v1 M0 M ∧ (-1) ≤ z ∧ z ≤ 1 ∧ 0 ≤ z + M 6 4) := by
  refine ct_of (d := d + 2) (k := 1) (L := [some (R 6), some (I p1), some (I p2), none]) rfl rfl rfl ?_
  have hF0 := Fr.rf fm_m167_6v1 M0
  generalize hQ : (qI fun z M => Pw M ∧ Fr fm_m167_6v1 M0 M ∧ (-1) ≤ z ∧ z ≤ 1 ∧ 0 ≤ z + M 6 4) = Q
  refine wk_al0 r167_0 (wk_getfr r167_1 fd_6_0 (br_6_0 hP0) (wk_getfb r167_4 fd_9_4 (bf_9_4 hP0) ?_))
  intro v1 h3 h4 e2
  refine wk_c1 r167_7 ?_
  refine wk_iceq r167_8 ⟨by omega, by omega⟩ (by decide) ?_ ?_
  · intro h5
    refine wk_al0 r167_19 (wk_getfr r167_20 fd_6_0 (br_6_0 hP0) (wk_cv1 r167_23 kc_9_244 rfl (m244_9 _ M0 hP0) (cqI ?_)))
    rintro v10 M6 ⟨hP7, hQ8, h11, h12⟩
    obtain rfl := Fr.same hQ8
    refine wk_is3 r167_26 rfl (wk_il3 r167_27 (wk_il1 r167_28 ?_))
    refine wk_iclt r167_29 ⟨by omega, by omega⟩ ⟨by omega, by omega⟩ ?_ ?_
    · intro h13
      refine wk_al0 r167_37 (wk_c1 r167_38 (wk_cv2 r167_39 kc_6_159 rfl (m159_6v1 _ M0 2 hP0 (by decide) (by decide)) (cqI ?_)))
      rintro v19 M14 ⟨hP15, hQ16, h20, h21, h18⟩
      have hF17 : Fr fm_m167_6v1 M0 M14 := hF0.tr hQ16 rfl
      obtain ⟨v22, e23⟩ : ∃ v, M14 6 4 = v := ⟨_, rfl⟩
      have h24 := bf_6_4 hP15; rw [e23] at h24
      refine wk_popi r167_42 (wk_c1 r167_43 ?_)
      subst hQ; exact wk_iret r167_44 (⟨rfl, _, rfl, hP15, hF17, by omega, by omega, by have := e23; omega⟩)
    · intro h25
      refine wk_il3 r167_32 (wk_il2 r167_33 ?_)
      refine wk_icle r167_34 ⟨by omega, by omega⟩ ⟨by omega, by omega⟩ ?_ ?_
      · intro h26
        refine wk_al0 r167_45 (wk_getfr r167_46 fd_6_0 (br_6_0 hP0) (wk_cv1 r167_49 kc_9_241 rfl (m241_9 _ M0 hP0) (cqV ?_)))
        rintro M27 ⟨hP28, hQ29⟩
        have hF30 : Fr fm_m167_6v1 M0 M27 := hF0.tr hQ29 rfl
        refine wk_il3 r167_52 ?_
        subst hQ; exact wk_iret r167_53 (⟨rfl, _, rfl, hP28, hF30, by omega, by omega, by have := (bf_6_4 hP28); omega⟩)
      · intro h31
        refine wk_al0 r167_37 (wk_c1 r167_38 (wk_cv2 r167_39 kc_6_159 rfl (m159_6v1 _ M0 2 hP0 (by decide) (by decide)) (cqI ?_)))
        rintro v37 M32 ⟨hP33, hQ34, h38, h39, h36⟩
        have hF35 : Fr fm_m167_6v1 M0 M32 := hF0.tr hQ34 rfl
        obtain ⟨v40, e41⟩ : ∃ v, M32 6 4 = v := ⟨_, rfl⟩
        have h42 := bf_6_4 hP33; rw [e41] at h42
        refine wk_popi r167_42 (wk_c1 r167_43 ?_)
        subst hQ; exact wk_iret r167_44 (⟨rfl, _, rfl, hP33, hF35, by omega, by omega, by have := e41; omega⟩)
  · intro h43
    refine wk_al0 r167_11 (wk_c1 r167_12 (wk_cv2 r167_13 kc_6_159 rfl (m159_6 _ M0 1 hP0 (by decide) (by decide)) (cqI ?_)))
    rintro v49 M44 ⟨hP45, hQ46, h50, h51, h48⟩
    have hF47 : Fr fm_m167_6v1 M0 M44 := hF0.tr hQ46 rfl
    obtain ⟨v52, e53⟩ : ∃ v, M44 6 4 = v := ⟨_, rfl⟩
    have h54 := bf_6_4 hP45; rw [e53] at h54
    refine wk_popi r167_16 (wk_c1 r167_17 ?_)
    subst hQ; exact wk_iret r167_18 (⟨rfl, _, rfl, hP45, hF47, by omega, by omega, by have := e53; omega⟩)
def fm_m171_6 : Nat := 4831838208
/-- IslandHall$Parser.row -/
theorem m171_6 {B : eB} (d : Nat) (M0 : Mm) (p1 : Int) (p2 : Int) (x6_4 : Int) (hP0 : Pw M0) (l1 : 46 ≤ p1) (u1 : p1 ≤ 46) (l2 : (-1) ≤ p2) (u2 : p2 ≤ 1) (ex6_4 : M0 6 4 = x6_4) (lx6_4 : 0 ≤ x6_4) (ux6_4 : x6_4 ≤ 6) (rp0 : 0 ≤ p2 + x6_4) : Ct B (d + 3) 171 [R 6, I p1, I p2] M0 (qI fun z M => Pw M ∧ Fr fm_m171_6 M0 M ∧ 0 ≤ z ∧ z ≤ 1 ∧ 0 ≤ z + M 6 4 + (-1)) := by
  refine ct_of (d := d + 2) (k := 0) (L := [some (R 6), some (I p1), some (I p2)]) rfl rfl rfl ?_
  have hF0 := Fr.rf fm_m171_6 M0
  generalize hQ : (qI fun z M => Pw M ∧ Fr fm_m171_6 M0 M ∧ 0 ≤ z ∧ z ≤ 1 ∧ 0 ≤ z + M 6 4 + (-1)) = Q
  refine wk_il2 r171_0 (wk_c1 r171_1 ?_)
  refine wk_iceq r171_2 ⟨by omega, by omega⟩ (by decide) ?_ ?_
  · intro h1
    refine wk_c1 r171_20 ?_
    subst hQ; exact wk_zret r171_21 (by decide) (⟨rfl, _, rfl, hP0, hF0, by omega, by omega, by have := ex6_4; omega⟩)
  · intro h2
    refine wk_al0 r171_5 (wk_c1 r171_6 (wk_il1 r171_7 (wk_il2 r171_8 (wk_iadd r171_9 (wk_cv3 r171_10 kc_6_172 rfl (m172_6 _ M0 0 (p1 + p2) hP0 (by decide) (by decide) (by omega) (by omega) (by first | assumption | omega | (unfold stepok; omega))) (cqI ?_))))))
    rintro v7 M3 ⟨hP4, hQ5, h8, h9⟩
    have hF6 : Fr fm_m171_6 M0 M3 := hF0.tr hQ5 rfl
    refine wk_ifeq r171_13 ⟨by omega, by omega⟩ ?_ ?_
    · intro h10
      exfalso
      omega
    · intro h11
      refine wk_c1 r171_16 (wk_goto r171_17 ?_)
      subst hQ; exact wk_zret r171_21 (by decide) (⟨rfl, _, rfl, hP4, hF6, by omega, by omega, by have := ((hQ5.at g_6_4 rfl).trans ex6_4); omega⟩)
def fm_m167_6v2 : Nat := 3941061990809600
/-- IslandHall$Parser.number -/
theorem m167_6v2 {B : eB} (d : Nat) (M0 : Mm) (p1 : Int) (p2 : Int) (hP0 : Pw M0) (l1 : 0 ≤ p1) (u1 : p1 ≤ 0) (l2 : 6 ≤ p2) (u2 : p2 ≤ 6) : Ct B (d + 3) 167 [R 6, I p1, I p2] M0 (qI fun z M => Pw M ∧ Fr fm_m167_6v2 M0 M ∧ (-1) ≤ z ∧ z ≤ 6 ∧ 0 ≤ z + M 6 4) := by
  refine ct_of (d := d + 2) (k := 1) (L := [some (R 6), some (I p1), some (I p2), none]) rfl rfl rfl ?_
  have hF0 := Fr.rf fm_m167_6v2 M0
  generalize hQ : (qI fun z M => Pw M ∧ Fr fm_m167_6v2 M0 M ∧ (-1) ≤ z ∧ z ≤ 6 ∧ 0 ≤ z + M 6 4) = Q
  refine wk_al0 r167_0 (wk_getfr r167_1 fd_6_0 (br_6_0 hP0) (wk_getfb r167_4 fd_9_4 (bf_9_4 hP0) ?_))
  intro v1 h3 h4 e2
  refine wk_c1 r167_7 ?_
  refine wk_iceq r167_8 ⟨by omega, by omega⟩ (by decide) ?_ ?_
  · intro h5
    refine wk_al0 r167_19 (wk_getfr r167_20 fd_6_0 (br_6_0 hP0) (wk_cv1 r167_23 kc_9_244 rfl (m244_9 _ M0 hP0) (cqI ?_)))
    rintro v10 M6 ⟨hP7, hQ8, h11, h12⟩
    obtain rfl := Fr.same hQ8
    refine wk_is3 r167_26 rfl (wk_il3 r167_27 (wk_il1 r167_28 ?_))
    refine wk_iclt r167_29 ⟨by omega, by omega⟩ ⟨by omega, by omega⟩ ?_ ?_
    · intro h13
      refine wk_al0 r167_37 (wk_c1 r167_38 (wk_cv2 r167_39 kc_6_159 rfl (m159_6v1 _ M0 2 hP0 (by decide) (by decide)) (cqI ?_)))
      rintro v19 M14 ⟨hP15, hQ16, h20, h21, h18⟩
      have hF17 : Fr fm_m167_6v2 M0 M14 := hF0.tr hQ16 rfl
      obtain ⟨v22, e23⟩ : ∃ v, M14 6 4 = v := ⟨_, rfl⟩
      have h24 := bf_6_4 hP15; rw [e23] at h24
      refine wk_popi r167_42 (wk_c1 r167_43 ?_)
      subst hQ; exact wk_iret r167_44 (⟨rfl, _, rfl, hP15, hF17, by omega, by omega, by have := e23; omega⟩)
    · intro h25
      refine wk_il3 r167_32 (wk_il2 r167_33 ?_)
      refine wk_icle r167_34 ⟨by omega, by omega⟩ ⟨by omega, by omega⟩ ?_ ?_
      · intro h26
        refine wk_al0 r167_45 (wk_getfr r167_46 fd_6_0 (br_6_0 hP0) (wk_cv1 r167_49 kc_9_241 rfl (m241_9 _ M0 hP0) (cqV ?_)))
        rintro M27 ⟨hP28, hQ29⟩
        have hF30 : Fr fm_m167_6v2 M0 M27 := hF0.tr hQ29 rfl
        refine wk_il3 r167_52 ?_
        subst hQ; exact wk_iret r167_53 (⟨rfl, _, rfl, hP28, hF30, by omega, by omega, by have := (bf_6_4 hP28); omega⟩)
      · intro h31
        refine wk_al0 r167_37 (wk_c1 r167_38 (wk_cv2 r167_39 kc_6_159 rfl (m159_6v1 _ M0 2 hP0 (by decide) (by decide)) (cqI ?_)))
        rintro v37 M32 ⟨hP33, hQ34, h38, h39, h36⟩
        have hF35 : Fr fm_m167_6v2 M0 M32 := hF0.tr hQ34 rfl
        obtain ⟨v40, e41⟩ : ∃ v, M32 6 4 = v := ⟨_, rfl⟩
        have h42 := bf_6_4 hP33; rw [e41] at h42
        refine wk_popi r167_42 (wk_c1 r167_43 ?_)
        subst hQ; exact wk_iret r167_44 (⟨rfl, _, rfl, hP33, hF35, by omega, by omega, by have := e41; omega⟩)
  · intro h43
    refine wk_al0 r167_11 (wk_c1 r167_12 (wk_cv2 r167_13 kc_6_159 rfl (m159_6 _ M0 1 hP0 (by decide) (by decide)) (cqI ?_)))
    rintro v49 M44 ⟨hP45, hQ46, h50, h51, h48⟩
    have hF47 : Fr fm_m167_6v2 M0 M44 := hF0.tr hQ46 rfl
    obtain ⟨v52, e53⟩ : ∃ v, M44 6 4 = v := ⟨_, rfl⟩
    have h54 := bf_6_4 hP45; rw [e53] at h54
    refine wk_popi r167_16 (wk_c1 r167_17 ?_)
    subst hQ; exact wk_iret r167_18 (⟨rfl, _, rfl, hP45, hF47, by omega, by omega, by have := e53; omega⟩)
def fm_m171_6v1 : Nat := 4831838208
/-- IslandHall$Parser.row -/
theorem m171_6v1 {B : eB} (d : Nat) (M0 : Mm) (p1 : Int) (p2 : Int) (x6_4 : Int) (hP0 : Pw M0) (l1 : 39 ≤ p1) (u1 : p1 ≤ 39) (l2 : (-1) ≤ p2) (u2 : p2 ≤ 6) (ex6_4 : M0 6 4 = x6_4) (lx6_4 : 0 ≤ x6_4) (ux6_4 : x6_4 ≤ 6) (rp0 : 0 ≤ p2 + x6_4) : Ct B (d + 3) 171 [R 6, I p1, I p2] M0 (qI fun z M => Pw M ∧ Fr fm_m171_6v1 M0 M ∧ 0 ≤ z ∧ z ≤ 1 ∧ 0 ≤ z + M 6 4 + (-1)) := by
  refine ct_of (d := d + 2) (k := 0) (L := [some (R 6), some (I p1), some (I p2)]) rfl rfl rfl ?_
  have hF0 := Fr.rf fm_m171_6v1 M0
  generalize hQ : (qI fun z M => Pw M ∧ Fr fm_m171_6v1 M0 M ∧ 0 ≤ z ∧ z ≤ 1 ∧ 0 ≤ z + M 6 4 + (-1)) = Q
  refine wk_il2 r171_0 (wk_c1 r171_1 ?_)
  refine wk_iceq r171_2 ⟨by omega, by omega⟩ (by decide) ?_ ?_
  · intro h1
    refine wk_c1 r171_20 ?_
    subst hQ; exact wk_zret r171_21 (by decide) (⟨rfl, _, rfl, hP0, hF0, by omega, by omega, by have := ex6_4; omega⟩)
  · intro h2
    refine wk_al0 r171_5 (wk_c1 r171_6 (wk_il1 r171_7 (wk_il2 r171_8 (wk_iadd r171_9 (wk_cv3 r171_10 kc_6_172 rfl (m172_6 _ M0 0 (p1 + p2) hP0 (by decide) (by decide) (by omega) (by omega) (by first | assumption | omega | (unfold stepok; omega))) (cqI ?_))))))
    rintro v7 M3 ⟨hP4, hQ5, h8, h9⟩
    have hF6 : Fr fm_m171_6v1 M0 M3 := hF0.tr hQ5 rfl
    refine wk_ifeq r171_13 ⟨by omega, by omega⟩ ?_ ?_
    · intro h10
      exfalso
      omega
    · intro h11
      refine wk_c1 r171_16 (wk_goto r171_17 ?_)
      subst hQ; exact wk_zret r171_21 (by decide) (⟨rfl, _, rfl, hP4, hF6, by omega, by omega, by have := ((hQ5.at g_6_4 rfl).trans ex6_4); omega⟩)
def fm_m167_6v3 : Nat := 3941061990809600
/-- IslandHall$Parser.number -/
theorem m167_6v3 {B : eB} (d : Nat) (M0 : Mm) (p1 : Int) (p2 : Int) (hP0 : Pw M0) (l1 : 0 ≤ p1) (u1 : p1 ≤ 0) (l2 : 3 ≤ p2) (u2 : p2 ≤ 3) : Ct B (d + 3) 167 [R 6, I p1, I p2] M0 (qI fun z M => Pw M ∧ Fr fm_m167_6v3 M0 M ∧ (-1) ≤ z ∧ z ≤ 3 ∧ 0 ≤ z + M 6 4) := by
  refine ct_of (d := d + 2) (k := 1) (L := [some (R 6), some (I p1), some (I p2), none]) rfl rfl rfl ?_
  have hF0 := Fr.rf fm_m167_6v3 M0
  generalize hQ : (qI fun z M => Pw M ∧ Fr fm_m167_6v3 M0 M ∧ (-1) ≤ z ∧ z ≤ 3 ∧ 0 ≤ z + M 6 4) = Q
  refine wk_al0 r167_0 (wk_getfr r167_1 fd_6_0 (br_6_0 hP0) (wk_getfb r167_4 fd_9_4 (bf_9_4 hP0) ?_))
  intro v1 h3 h4 e2
  refine wk_c1 r167_7 ?_
  refine wk_iceq r167_8 ⟨by omega, by omega⟩ (by decide) ?_ ?_
  · intro h5
    refine wk_al0 r167_19 (wk_getfr r167_20 fd_6_0 (br_6_0 hP0) (wk_cv1 r167_23 kc_9_244 rfl (m244_9 _ M0 hP0) (cqI ?_)))
    rintro v10 M6 ⟨hP7, hQ8, h11, h12⟩
    obtain rfl := Fr.same hQ8
    refine wk_is3 r167_26 rfl (wk_il3 r167_27 (wk_il1 r167_28 ?_))
    refine wk_iclt r167_29 ⟨by omega, by omega⟩ ⟨by omega, by omega⟩ ?_ ?_
    · intro h13
      refine wk_al0 r167_37 (wk_c1 r167_38 (wk_cv2 r167_39 kc_6_159 rfl (m159_6v1 _ M0 2 hP0 (by decide) (by decide)) (cqI ?_)))
      rintro v19 M14 ⟨hP15, hQ16, h20, h21, h18⟩
      have hF17 : Fr fm_m167_6v3 M0 M14 := hF0.tr hQ16 rfl
      obtain ⟨v22, e23⟩ : ∃ v, M14 6 4 = v := ⟨_, rfl⟩
      have h24 := bf_6_4 hP15; rw [e23] at h24
      refine wk_popi r167_42 (wk_c1 r167_43 ?_)
      subst hQ; exact wk_iret r167_44 (⟨rfl, _, rfl, hP15, hF17, by omega, by omega, by have := e23; omega⟩)
    · intro h25
      refine wk_il3 r167_32 (wk_il2 r167_33 ?_)
      refine wk_icle r167_34 ⟨by omega, by omega⟩ ⟨by omega, by omega⟩ ?_ ?_
      · intro h26
        refine wk_al0 r167_45 (wk_getfr r167_46 fd_6_0 (br_6_0 hP0) (wk_cv1 r167_49 kc_9_241 rfl (m241_9 _ M0 hP0) (cqV ?_)))
        rintro M27 ⟨hP28, hQ29⟩
        have hF30 : Fr fm_m167_6v3 M0 M27 := hF0.tr hQ29 rfl
        refine wk_il3 r167_52 ?_
        subst hQ; exact wk_iret r167_53 (⟨rfl, _, rfl, hP28, hF30, by omega, by omega, by have := (bf_6_4 hP28); omega⟩)
      · intro h31
        refine wk_al0 r167_37 (wk_c1 r167_38 (wk_cv2 r167_39 kc_6_159 rfl (m159_6v1 _ M0 2 hP0 (by decide) (by decide)) (cqI ?_)))
        rintro v37 M32 ⟨hP33, hQ34, h38, h39, h36⟩
        have hF35 : Fr fm_m167_6v3 M0 M32 := hF0.tr hQ34 rfl
        obtain ⟨v40, e41⟩ : ∃ v, M32 6 4 = v := ⟨_, rfl⟩
        have h42 := bf_6_4 hP33; rw [e41] at h42
        refine wk_popi r167_42 (wk_c1 r167_43 ?_)
        subst hQ; exact wk_iret r167_44 (⟨rfl, _, rfl, hP33, hF35, by omega, by omega, by have := e41; omega⟩)
  · intro h43
    refine wk_al0 r167_11 (wk_c1 r167_12 (wk_cv2 r167_13 kc_6_159 rfl (m159_6 _ M0 1 hP0 (by decide) (by decide)) (cqI ?_)))
    rintro v49 M44 ⟨hP45, hQ46, h50, h51, h48⟩
    have hF47 : Fr fm_m167_6v3 M0 M44 := hF0.tr hQ46 rfl
    obtain ⟨v52, e53⟩ : ∃ v, M44 6 4 = v := ⟨_, rfl⟩
    have h54 := bf_6_4 hP45; rw [e53] at h54
    refine wk_popi r167_16 (wk_c1 r167_17 ?_)
    subst hQ; exact wk_iret r167_18 (⟨rfl, _, rfl, hP45, hF47, by omega, by omega, by have := e53; omega⟩)
def fm_m171_6v2 : Nat := 4831838208
/-- IslandHall$Parser.row -/
theorem m171_6v2 {B : eB} (d : Nat) (M0 : Mm) (p1 : Int) (p2 : Int) (x6_4 : Int) (hP0 : Pw M0) (l1 : 35 ≤ p1) (u1 : p1 ≤ 35) (l2 : (-1) ≤ p2) (u2 : p2 ≤ 3) (ex6_4 : M0 6 4 = x6_4) (lx6_4 : 0 ≤ x6_4) (ux6_4 : x6_4 ≤ 6) (rp0 : 0 ≤ p2 + x6_4) : Ct B (d + 3) 171 [R 6, I p1, I p2] M0 (qI fun z M => Pw M ∧ Fr fm_m171_6v2 M0 M ∧ 0 ≤ z ∧ z ≤ 1 ∧ 0 ≤ z + M 6 4 + (-1)) := by
  refine ct_of (d := d + 2) (k := 0) (L := [some (R 6), some (I p1), some (I p2)]) rfl rfl rfl ?_
  have hF0 := Fr.rf fm_m171_6v2 M0
  generalize hQ : (qI fun z M => Pw M ∧ Fr fm_m171_6v2 M0 M ∧ 0 ≤ z ∧ z ≤ 1 ∧ 0 ≤ z + M 6 4 + (-1)) = Q
  refine wk_il2 r171_0 (wk_c1 r171_1 ?_)
  refine wk_iceq r171_2 ⟨by omega, by omega⟩ (by decide) ?_ ?_
  · intro h1
    refine wk_c1 r171_20 ?_
    subst hQ; exact wk_zret r171_21 (by decide) (⟨rfl, _, rfl, hP0, hF0, by omega, by omega, by have := ex6_4; omega⟩)
  · intro h2
    refine wk_al0 r171_5 (wk_c1 r171_6 (wk_il1 r171_7 (wk_il2 r171_8 (wk_iadd r171_9 (wk_cv3 r171_10 kc_6_172 rfl (m172_6 _ M0 0 (p1 + p2) hP0 (by decide) (by decide) (by omega) (by omega) (by first | assumption | omega | (unfold stepok; omega))) (cqI ?_))))))
    rintro v7 M3 ⟨hP4, hQ5, h8, h9⟩
    have hF6 : Fr fm_m171_6v2 M0 M3 := hF0.tr hQ5 rfl
    refine wk_ifeq r171_13 ⟨by omega, by omega⟩ ?_ ?_
    · intro h10
      exfalso
      omega
    · intro h11
      refine wk_c1 r171_16 (wk_goto r171_17 ?_)
      subst hQ; exact wk_zret r171_21 (by decide) (⟨rfl, _, rfl, hP4, hF6, by omega, by omega, by have := ((hQ5.at g_6_4 rfl).trans ex6_4); omega⟩)
def fm_m242_9 : Nat := 0
/-- IslandHall$Tokens.person -/
theorem m242_9 {B : eB} (d : Nat) (M0 : Mm) (x9_3 : Int) (hP0 : Pw M0) (ex9_3 : M0 9 3 = x9_3) (lx9_3 : 0 ≤ x9_3) (ux9_3 : x9_3 ≤ 499) : Ct B (d + 1) 242 [R 9] M0 (qI fun z M => Pw M ∧ Fr fm_m242_9 M0 M ∧ (-225) ≤ z ∧ z ≤ 30) := by
  refine ct_of (d := d + 0) (k := 0) (L := [some (R 9)]) rfl rfl rfl ?_
  have hF0 := Fr.rf fm_m242_9 M0
  generalize hQ : (qI fun z M => Pw M ∧ Fr fm_m242_9 M0 M ∧ (-225) ≤ z ∧ z ≤ 30) = Q
  refine wk_al0 r242_0 (wk_getfr r242_1 fd_9_0 (br_9_0 hP0) (wk_al0 r242_4 (wk_getfi r242_5 fd_9_3 ex9_3 (wk_baldb r242_8 ar_1 ⟨by omega, by omega⟩ (fun q0 q1 => ba_1 hP0 q0 q1) ?_))))
  intro v1 h3 h4 e2
  refine wk_c2 r242_9 (wk_isub r242_11 ?_)
  subst hQ; exact wk_iret r242_12 (⟨rfl, _, rfl, hP0, hF0, by omega, by omega⟩)
def fm_m159_6v2 : Nat := 412316860416
/-- IslandHall$Parser.fail -/
theorem m159_6v2 {B : eB} (d : Nat) (M0 : Mm) (p1 : Int) (hP0 : Pw M0) (l1 : 1 ≤ p1) (u1 : p1 ≤ 4) : Ct B (d + 1) 159 [R 6, I p1] M0 (qI fun z M => Pw M ∧ Fr fm_m159_6v2 M0 M ∧ 0 ≤ z ∧ z ≤ 0 ∧ 0 ≤ M 6 4 + (-1)) := by
  refine ct_of (d := d + 0) (k := 0) (L := [some (R 6), some (I p1)]) rfl rfl rfl ?_
  have hF0 := Fr.rf fm_m159_6v2 M0
  generalize hQ : (qI fun z M => Pw M ∧ Fr fm_m159_6v2 M0 M ∧ 0 ≤ z ∧ z ≤ 0 ∧ 0 ≤ M 6 4 + (-1)) = Q
  refine wk_al0 r159_0 (wk_il1 r159_1 (wk_putfi81 r159_2 fd_6_4 (wk_nw g_6_4 rfl hP0 hF0 (uf_6_4 ⟨by omega, by omega⟩) ?_)))
  intro M1 hP2 hF3 e4
  refine wk_al0 r159_5 (wk_al0 r159_6 (wk_getfr r159_7 fd_6_0 (br_6_0 hP2) (wk_getfb r159_10 fd_9_3 (bf_9_3 hP2) ?_)))
  intro v5 h7 h8 e6
  refine wk_putfi81 r159_13 fd_6_5 (wk_nw g_6_5 rfl hP2 hF3 (uf_6_5 ⟨by omega, by omega⟩) ?_)
  intro M9 hP10 hF11 e12
  refine wk_c1 r159_16 ?_
  subst hQ; exact wk_zret r159_17 (by decide) (⟨rfl, _, rfl, hP10, hF11, by omega, by omega, by have := (mUp_no e12 (mUp_at e4) (Or.inr (by decide))); omega⟩)
def fm_m165_6 : Nat := 3941061990809600
/-- IslandHall$Parser.name -/
theorem m165_6 {B : eB} (d : Nat) (M0 : Mm) (hP0 : Pw M0)  : Ct B (d + 3) 165 [R 6] M0 (qI fun z M => Pw M ∧ Fr fm_m165_6 M0 M ∧ (-1) ≤ z ∧ z ≤ 6 ∧ 0 ≤ z + M 6 4) := by
  refine ct_of (d := d + 2) (k := 1) (L := [some (R 6), none]) rfl rfl rfl ?_
  have hF0 := Fr.rf fm_m165_6 M0
  generalize hQ : (qI fun z M => Pw M ∧ Fr fm_m165_6 M0 M ∧ (-1) ≤ z ∧ z ≤ 6 ∧ 0 ≤ z + M 6 4) = Q
  refine wk_al0 r165_0 (wk_getfr r165_1 fd_6_0 (br_6_0 hP0) (wk_cv1 r165_4 kc_9_237 rfl (m237_9 _ M0 hP0) (cqI ?_)))
  rintro v7 M1 ⟨hP2, hQ3, h8, h9, h5, h6⟩
  obtain rfl := Fr.same hQ3
  obtain ⟨v10, e11⟩ : ∃ v, M0 9 2 = v := ⟨_, rfl⟩
  have h12 := bf_9_2 hP0; rw [e11] at h12
  obtain ⟨v13, e14⟩ : ∃ v, M0 9 3 = v := ⟨_, rfl⟩
  have h15 := bf_9_3 hP0; rw [e14] at h15
  refine wk_ifne r165_7 ⟨by omega, by omega⟩ ?_ ?_
  · intro h16
    refine wk_al0 r165_18 (wk_getfr r165_19 fd_6_0 (br_6_0 hP0) (wk_cv1 r165_22 kc_9_242 rfl (m242_9 _ M0 v13 hP0 e14 (by omega) (by omega)) (cqI ?_)))
    rintro v21 M17 ⟨hP18, hQ19, h22, h23⟩
    obtain rfl := Fr.same hQ19
    refine wk_is1 r165_25 rfl (wk_il1 r165_26 ?_)
    refine wk_iflt r165_27 ⟨by omega, by omega⟩ ?_ ?_
    · intro h24
      refine wk_al0 r165_38 (wk_c1 r165_39 (wk_cv2 r165_40 kc_6_159 rfl (m159_6v2 _ M0 4 hP0 (by decide) (by decide)) (cqI ?_)))
      rintro v30 M25 ⟨hP26, hQ27, h31, h32, h29⟩
      have hF28 : Fr fm_m165_6 M0 M25 := hF0.tr hQ27 rfl
      obtain ⟨v33, e34⟩ : ∃ v, M25 6 4 = v := ⟨_, rfl⟩
      have h35 := bf_6_4 hP26; rw [e34] at h35
      refine wk_popi r165_43 (wk_c1 r165_44 ?_)
      subst hQ; exact wk_iret r165_45 (⟨rfl, _, rfl, hP26, hF28, by omega, by omega, by have := e34; omega⟩)
    · intro h36
      refine wk_il1 r165_30 (wk_al0 r165_31 (wk_getfb r165_32 fd_6_3 (bf_6_3 hP0) ?_))
      intro v37 h39 h40 e38
      refine wk_iclt r165_35 ⟨by omega, by omega⟩ ⟨by omega, by omega⟩ ?_ ?_
      · intro h41
        refine wk_al0 r165_46 (wk_getfr r165_47 fd_6_0 (br_6_0 hP0) (wk_cv1 r165_50 kc_9_241 rfl (m241_9 _ M0 hP0) (cqV ?_)))
        rintro M42 ⟨hP43, hQ44⟩
        have hF45 : Fr fm_m165_6 M0 M42 := hF0.tr hQ44 rfl
        refine wk_il1 r165_53 ?_
        subst hQ; exact wk_iret r165_54 (⟨rfl, _, rfl, hP43, hF45, by omega, by omega, by have := (bf_6_4 hP43); omega⟩)
      · intro h46
        refine wk_al0 r165_38 (wk_c1 r165_39 (wk_cv2 r165_40 kc_6_159 rfl (m159_6v2 _ M0 4 hP0 (by decide) (by decide)) (cqI ?_)))
        rintro v52 M47 ⟨hP48, hQ49, h53, h54, h51⟩
        have hF50 : Fr fm_m165_6 M0 M47 := hF0.tr hQ49 rfl
        obtain ⟨v55, e56⟩ : ∃ v, M47 6 4 = v := ⟨_, rfl⟩
        have h57 := bf_6_4 hP48; rw [e56] at h57
        refine wk_popi r165_43 (wk_c1 r165_44 ?_)
        subst hQ; exact wk_iret r165_45 (⟨rfl, _, rfl, hP48, hF50, by omega, by omega, by have := e56; omega⟩)
  · intro h58
    refine wk_al0 r165_10 (wk_c1 r165_11 (wk_cv2 r165_12 kc_6_159 rfl (m159_6 _ M0 1 hP0 (by decide) (by decide)) (cqI ?_)))
    rintro v64 M59 ⟨hP60, hQ61, h65, h66, h63⟩
    have hF62 : Fr fm_m165_6 M0 M59 := hF0.tr hQ61 rfl
    obtain ⟨v67, e68⟩ : ∃ v, M59 6 4 = v := ⟨_, rfl⟩
    have h69 := bf_6_4 hP60; rw [e68] at h69
    refine wk_popi r165_15 (wk_c1 r165_16 ?_)
    subst hQ; exact wk_iret r165_17 (⟨rfl, _, rfl, hP60, hF62, by omega, by omega, by have := e68; omega⟩)
def fm_m174_6 : Nat := 3941061990809600
/-- IslandHall$Parser.takeSign -/
theorem m174_6 {B : eB} (d : Nat) (M0 : Mm) (p1 : Int) (hP0 : Pw M0) (l1 : 40 ≤ p1) (u1 : p1 ≤ 40) : Ct B (d + 3) 174 [R 6, I p1] M0 (qI fun z M => Pw M ∧ Fr fm_m174_6 M0 M ∧ 0 ≤ z ∧ z ≤ 1 ∧ 0 ≤ z + M 6 4 + (-1)) := by
  refine ct_of (d := d + 2) (k := 0) (L := [some (R 6), some (I p1)]) rfl rfl rfl ?_
  have hF0 := Fr.rf fm_m174_6 M0
  generalize hQ : (qI fun z M => Pw M ∧ Fr fm_m174_6 M0 M ∧ 0 ≤ z ∧ z ≤ 1 ∧ 0 ≤ z + M 6 4 + (-1)) = Q
  refine wk_al0 r174_0 (wk_getfr r174_1 fd_6_0 (br_6_0 hP0) (wk_il1 r174_4 (wk_cv2 r174_5 kc_9_238 rfl (m238_9 _ M0 p1 hP0 (by omega) (by omega)) (cqI ?_))))
  rintro v5 M1 ⟨hP2, hQ3, h6, h7⟩
  obtain rfl := Fr.same hQ3
  refine wk_ifne r174_8 ⟨by omega, by omega⟩ ?_ ?_
  · intro h8
    refine wk_al0 r174_17 (wk_getfr r174_18 fd_6_0 (br_6_0 hP0) (wk_cv1 r174_21 kc_9_241 rfl (m241_9 _ M0 hP0) (cqV ?_)))
    rintro M9 ⟨hP10, hQ11⟩
    have hF12 : Fr fm_m174_6 M0 M9 := hF0.tr hQ11 rfl
    refine wk_c1 r174_24 ?_
    subst hQ; exact wk_zret r174_25 (by decide) (⟨rfl, _, rfl, hP10, hF12, by omega, by omega, by have := (bf_6_4 hP10); omega⟩)
  · intro h13
    refine wk_al0 r174_11 (wk_c1 r174_12 (wk_cv2 r174_13 kc_6_159 rfl (m159_6 _ M0 1 hP0 (by decide) (by decide)) (cqI ?_)))
    rintro v19 M14 ⟨hP15, hQ16, h20, h21, h18⟩
    have hF17 : Fr fm_m174_6 M0 M14 := hF0.tr hQ16 rfl
    obtain ⟨v22, e23⟩ : ∃ v, M14 6 4 = v := ⟨_, rfl⟩
    have h24 := bf_6_4 hP15; rw [e23] at h24
    subst hQ; exact wk_zret r174_16 ⟨by omega, by omega⟩ (⟨rfl, _, rfl, hP15, hF17, by omega, by omega, by have := e23; omega⟩)
def fm_m158_6v6 : Nat := 412316860416
/-- IslandHall$Parser.expr -/
theorem m158_6v6 {B : eB} (d : Nat) (M0 : Mm) (p1 : Int) (hP0 : Pw M0) (l1 : 6 ≤ p1) (u1 : p1 ≤ 6) : Ct B (d + 4) 158 [R 6, I p1] M0 (qI fun z M => Pw M ∧ Fr fm_m158_6v6 M0 M ∧ 0 ≤ z ∧ z ≤ 0 ∧ 0 ≤ z + M 6 4 + (-1)) := by
  refine ct_of (d := d + 3) (k := 1) (L := [some (R 6), some (I p1), none]) rfl rfl rfl ?_
  have hF0 := Fr.rf fm_m158_6v6 M0
  generalize hQ : (qI fun z M => Pw M ∧ Fr fm_m158_6v6 M0 M ∧ 0 ≤ z ∧ z ≤ 0 ∧ 0 ≤ z + M 6 4 + (-1)) = Q
  refine wk_al0 r158_0 (wk_cv1 r158_1 kc_6_155 rfl (m155_6 _ M0 hP0) (cqI ?_))
  rintro v5 M1 ⟨hP2, hQ3, h6, h7⟩
  obtain rfl := Fr.same hQ3
  refine wk_ifne r158_4 ⟨by omega, by omega⟩ ?_ ?_
  · intro h8
    refine wk_il1 r158_13 (wk_c2 r158_14 ?_)
    refine wk_iclt r158_16 ⟨by omega, by omega⟩ (by decide) ?_ ?_
    · intro h9
      exfalso
      omega
    · intro h10
      refine wk_al0 r158_19 (wk_c1 r158_20 (wk_cv2 r158_21 kc_6_159 rfl (m159_6v1 _ M0 2 hP0 (by decide) (by decide)) (cqI ?_)))
      rintro v16 M11 ⟨hP12, hQ13, h17, h18, h15⟩
      have hF14 : Fr fm_m158_6v6 M0 M11 := hF0.tr hQ13 rfl
      obtain ⟨v19, e20⟩ : ∃ v, M11 6 4 = v := ⟨_, rfl⟩
      have h21 := bf_6_4 hP12; rw [e20] at h21
      subst hQ; exact wk_zret r158_24 ⟨by omega, by omega⟩ (⟨rfl, _, rfl, hP12, hF14, by omega, by omega, by have := e20; omega⟩)
  · intro h22
    refine wk_al0 r158_7 (wk_c1 r158_8 (wk_cv2 r158_9 kc_6_159 rfl (m159_6 _ M0 1 hP0 (by decide) (by decide)) (cqI ?_)))
    rintro v28 M23 ⟨hP24, hQ25, h29, h30, h27⟩
    have hF26 : Fr fm_m158_6v6 M0 M23 := hF0.tr hQ25 rfl
    obtain ⟨v31, e32⟩ : ∃ v, M23 6 4 = v := ⟨_, rfl⟩
    have h33 := bf_6_4 hP24; rw [e32] at h33
    subst hQ; exact wk_zret r158_12 ⟨by omega, by omega⟩ (⟨rfl, _, rfl, hP24, hF26, by omega, by omega, by have := e32; omega⟩)
def fm_m168_6v5 : Nat := 3941061990809600
/-- IslandHall$Parser.parenthesis -/
theorem m168_6v5 {B : eB} (d : Nat) (M0 : Mm) (p1 : Int) (hP0 : Pw M0) (l1 : 5 ≤ p1) (u1 : p1 ≤ 5) : Ct B (d + 5) 168 [R 6, I p1] M0 (qI fun z M => Pw M ∧ Fr fm_m168_6v5 M0 M ∧ 0 ≤ z ∧ z ≤ 0 ∧ 0 ≤ z + M 6 4 + (-1)) := by
  refine ct_of (d := d + 4) (k := 0) (L := [some (R 6), some (I p1)]) rfl rfl rfl ?_
  have hF0 := Fr.rf fm_m168_6v5 M0
  generalize hQ : (qI fun z M => Pw M ∧ Fr fm_m168_6v5 M0 M ∧ 0 ≤ z ∧ z ≤ 0 ∧ 0 ≤ z + M 6 4 + (-1)) = Q
  refine wk_al0 r168_0 (wk_c2 r168_1 (wk_cv2 r168_3 kc_6_174 rfl (m174_6 _ M0 40 hP0 (by decide) (by decide)) (cqI ?_)))
  rintro v6 M1 ⟨hP2, hQ3, h7, h8, h5⟩
  have hF4 : Fr fm_m168_6v5 M0 M1 := hF0.tr hQ3 rfl
  obtain ⟨v9, e10⟩ : ∃ v, M1 6 4 = v := ⟨_, rfl⟩
  have h11 := bf_6_4 hP2; rw [e10] at h11
  refine wk_ifeq r168_6 ⟨by omega, by omega⟩ ?_ ?_
  · intro h12
    refine wk_c1 r168_32 ?_
    subst hQ; exact wk_zret r168_33 (by decide) (⟨rfl, _, rfl, hP2, hF4, by omega, by omega, by have := e10; omega⟩)
  · intro h13
    refine wk_al0 r168_9 (wk_il1 r168_10 (wk_c1 r168_11 (wk_iadd r168_12 (wk_cv2 r168_13 kc_6_158 rfl (m158_6v6 _ M1 (p1 + 1) hP2 (by omega) (by omega)) (cqI ?_)))))
    rintro v19 M14 ⟨hP15, hQ16, h20, h21, h18⟩
    have hF17 : Fr fm_m168_6v5 M0 M14 := hF4.tr hQ16 rfl
    obtain ⟨v22, e23⟩ : ∃ v, M14 6 4 = v := ⟨_, rfl⟩
    have h24 := bf_6_4 hP15; rw [e23] at h24
    refine wk_ifeq r168_16 ⟨by omega, by omega⟩ ?_ ?_
    · intro h25
      refine wk_c1 r168_32 ?_
      subst hQ; exact wk_zret r168_33 (by decide) (⟨rfl, _, rfl, hP15, hF17, by omega, by omega, by have := e23; omega⟩)
    · intro h26
      exfalso
      omega
def fm_m171_6v3 : Nat := 4831838208
/-- IslandHall$Parser.row -/
theorem m171_6v3 {B : eB} (d : Nat) (M0 : Mm) (p1 : Int) (p2 : Int) (x6_4 : Int) (hP0 : Pw M0) (l1 : 0 ≤ p1) (u1 : p1 ≤ 30) (l2 : (-1) ≤ p2) (u2 : p2 ≤ 4) (ex6_4 : M0 6 4 = x6_4) (lx6_4 : 0 ≤ x6_4) (ux6_4 : x6_4 ≤ 6) (rp0 : 0 ≤ p2 + x6_4) : Ct B (d + 3) 171 [R 6, I p1, I p2] M0 (qI fun z M => Pw M ∧ Fr fm_m171_6v3 M0 M ∧ 0 ≤ z ∧ z ≤ 1 ∧ 0 ≤ z + M 6 4 + (-1)) := by
  refine ct_of (d := d + 2) (k := 0) (L := [some (R 6), some (I p1), some (I p2)]) rfl rfl rfl ?_
  have hF0 := Fr.rf fm_m171_6v3 M0
  generalize hQ : (qI fun z M => Pw M ∧ Fr fm_m171_6v3 M0 M ∧ 0 ≤ z ∧ z ≤ 1 ∧ 0 ≤ z + M 6 4 + (-1)) = Q
  refine wk_il2 r171_0 (wk_c1 r171_1 ?_)
  refine wk_iceq r171_2 ⟨by omega, by omega⟩ (by decide) ?_ ?_
  · intro h1
    refine wk_c1 r171_20 ?_
    subst hQ; exact wk_zret r171_21 (by decide) (⟨rfl, _, rfl, hP0, hF0, by omega, by omega, by have := ex6_4; omega⟩)
  · intro h2
    refine wk_al0 r171_5 (wk_c1 r171_6 (wk_il1 r171_7 (wk_il2 r171_8 (wk_iadd r171_9 (wk_cv3 r171_10 kc_6_172 rfl (m172_6 _ M0 0 (p1 + p2) hP0 (by decide) (by decide) (by omega) (by omega) (by first | assumption | omega | (unfold stepok; omega))) (cqI ?_))))))
    rintro v7 M3 ⟨hP4, hQ5, h8, h9⟩
    have hF6 : Fr fm_m171_6v3 M0 M3 := hF0.tr hQ5 rfl
    refine wk_ifeq r171_13 ⟨by omega, by omega⟩ ?_ ?_
    · intro h10
      exfalso
      omega
    · intro h11
      refine wk_c1 r171_16 (wk_goto r171_17 ?_)
      subst hQ; exact wk_zret r171_21 (by decide) (⟨rfl, _, rfl, hP4, hF6, by omega, by omega, by have := ((hQ5.at g_6_4 rfl).trans ex6_4); omega⟩)
def fm_m152_6v5 : Nat := 3941066822647808
/-- IslandHall$Parser.aboutSomeone -/
theorem m152_6v5 {B : eB} (d : Nat) (M0 : Mm) (p1 : Int) (hP0 : Pw M0) (l1 : 5 ≤ p1) (u1 : p1 ≤ 5) : Ct B (d + 6) 152 [R 6, I p1] M0 (qI fun z M => Pw M ∧ Fr fm_m152_6v5 M0 M ∧ 0 ≤ z ∧ z ≤ 1 ∧ 0 ≤ z + M 6 4 + (-1)) := by
  refine ct_of (d := d + 5) (k := 2) (L := [some (R 6), some (I p1), none, none]) rfl rfl rfl ?_
  have hF0 := Fr.rf fm_m152_6v5 M0
  generalize hQ : (qI fun z M => Pw M ∧ Fr fm_m152_6v5 M0 M ∧ 0 ≤ z ∧ z ≤ 1 ∧ 0 ≤ z + M 6 4 + (-1)) = Q
  refine wk_al0 r152_0 (wk_cv1 r152_1 kc_6_165 rfl (m165_6 _ M0 hP0) (cqI ?_))
  rintro v6 M1 ⟨hP2, hQ3, h7, h8, h5⟩
  have hF4 : Fr fm_m152_6v5 M0 M1 := hF0.tr hQ3 rfl
  obtain ⟨v9, e10⟩ : ∃ v, M1 6 4 = v := ⟨_, rfl⟩
  have h11 := bf_6_4 hP2; rw [e10] at h11
  refine wk_is2 r152_4 rfl (wk_il2 r152_5 (wk_c1 r152_6 ?_))
  refine wk_icne r152_7 ⟨by omega, by omega⟩ (by decide) ?_ ?_
  · intro h12
    refine wk_al0 r152_12 (wk_c8 r152_13 (wk_cv2 r152_15 kc_6_175 rfl (m175_6 _ M1 4111 hP2 (by decide)) (cqI ?_)))
    rintro v17 M13 ⟨hP14, hQ15, h18, h19⟩
    have hF16 : Fr fm_m152_6v5 M0 M13 := hF4.tr hQ15 rfl
    refine wk_ifeq r152_18 ⟨by omega, by omega⟩ ?_ ?_
    · intro h20
      refine wk_al0 r152_35 (wk_c8 r152_36 (wk_cv2 r152_38 kc_6_175 rfl (m175_6 _ M13 4112 hP14 (by decide)) (cqI ?_)))
      rintro v25 M21 ⟨hP22, hQ23, h26, h27⟩
      have hF24 : Fr fm_m152_6v5 M0 M21 := hF16.tr hQ23 rfl
      refine wk_ifeq r152_41 ⟨by omega, by omega⟩ ?_ ?_
      · intro h28
        refine wk_al0 r152_73 (wk_c8 r152_74 (wk_cv2 r152_76 kc_6_175 rfl (m175_6 _ M21 4113 hP22 (by decide)) (cqI ?_)))
        rintro v33 M29 ⟨hP30, hQ31, h34, h35⟩
        have hF32 : Fr fm_m152_6v5 M0 M29 := hF24.tr hQ31 rfl
        refine wk_ifne r152_79 ⟨by omega, by omega⟩ ?_ ?_
        · intro h36
          refine wk_al0 r152_88 (wk_il1 r152_89 (wk_cv2 r152_90 kc_6_168 rfl (m168_6v5 _ M29 p1 hP30 (by omega) (by omega)) (cqI ?_)))
          rintro v42 M37 ⟨hP38, hQ39, h43, h44, h41⟩
          have hF40 : Fr fm_m152_6v5 M0 M37 := hF32.tr hQ39 rfl
          obtain ⟨v45, e46⟩ : ∃ v, M37 6 4 = v := ⟨_, rfl⟩
          have h47 := bf_6_4 hP38; rw [e46] at h47
          refine wk_ifne r152_93 ⟨by omega, by omega⟩ ?_ ?_
          · intro h48
            exfalso
            omega
          · intro h49
            refine wk_c1 r152_96 ?_
            subst hQ; exact wk_zret r152_97 (by decide) (⟨rfl, _, rfl, hP38, hF40, by omega, by omega, by have := e46; omega⟩)
        · intro h50
          refine wk_al0 r152_82 (wk_c1 r152_83 (wk_cv2 r152_84 kc_6_159 rfl (m159_6 _ M29 1 hP30 (by decide) (by decide)) (cqI ?_)))
          rintro v56 M51 ⟨hP52, hQ53, h57, h58, h55⟩
          have hF54 : Fr fm_m152_6v5 M0 M51 := hF32.tr hQ53 rfl
          obtain ⟨v59, e60⟩ : ∃ v, M51 6 4 = v := ⟨_, rfl⟩
          have h61 := bf_6_4 hP52; rw [e60] at h61
          subst hQ; exact wk_zret r152_87 ⟨by omega, by omega⟩ (⟨rfl, _, rfl, hP52, hF54, by omega, by omega, by have := e60; omega⟩)
      · intro h62
        refine wk_al0 r152_44 (wk_cv1 r152_45 kc_6_165 rfl (m165_6 _ M21 hP22) (cqI ?_))
        rintro v68 M63 ⟨hP64, hQ65, h69, h70, h67⟩
        have hF66 : Fr fm_m152_6v5 M0 M63 := hF24.tr hQ65 rfl
        obtain ⟨v71, e72⟩ : ∃ v, M63 6 4 = v := ⟨_, rfl⟩
        have h73 := bf_6_4 hP64; rw [e72] at h73
        refine wk_is3 r152_48 rfl (wk_il3 r152_49 (wk_c1 r152_50 ?_))
        refine wk_iceq r152_51 ⟨by omega, by omega⟩ (by decide) ?_ ?_
        · intro h74
          refine wk_c1 r152_71 ?_
          subst hQ; exact wk_zret r152_72 (by decide) (⟨rfl, _, rfl, hP64, hF66, by omega, by omega, by have := e72; omega⟩)
        · intro h75
          refine wk_al0 r152_54 (wk_c1 r152_55 (wk_il2 r152_56 (wk_c1 r152_57 (wk_ishlc r152_58 (by decide) pwl_3 (wk_il3 r152_59 (wk_iord2 3 8 r152_60 (by decide) ⟨by omega, by omega⟩ ⟨by omega, by omega, by omega⟩ (wk_cv3 r152_61 kc_6_172 rfl (m172_6 _ M63 5 ((v6 * 8) + v68) hP64 (by decide) (by decide) (by omega) (by omega) (by first | assumption | omega | (unfold stepok; omega))) (cqI ?_))))))))
          rintro v80 M76 ⟨hP77, hQ78, h81, h82⟩
          have hF79 : Fr fm_m152_6v5 M0 M76 := hF66.tr hQ78 rfl
          refine wk_ifeq r152_64 ⟨by omega, by omega⟩ ?_ ?_
          · intro h83
            exfalso
            omega
          · intro h84
            refine wk_c1 r152_67 (wk_goto r152_68 ?_)
            subst hQ; exact wk_zret r152_72 (by decide) (⟨rfl, _, rfl, hP77, hF79, by omega, by omega, by have := ((hQ78.at g_6_4 rfl).trans e72); omega⟩)
    · intro h85
      refine wk_al0 r152_21 (wk_c1 r152_22 (wk_il2 r152_23 (wk_c1 r152_24 (wk_imul r152_25 (wk_iadd r152_26 (wk_al0 r152_27 (wk_cv1 r152_28 kc_6_173 rfl (m173_6 _ M13 hP14) (cqI ?_))))))))
      rintro v91 M86 ⟨hP87, hQ88, h92, h93, h90⟩
      have hF89 : Fr fm_m152_6v5 M0 M86 := hF16.tr hQ88 rfl
      obtain ⟨v94, e95⟩ : ∃ v, M86 6 4 = v := ⟨_, rfl⟩
      have h96 := bf_6_4 hP87; rw [e95] at h96
      refine wk_cv3 r152_31 kc_6_171 rfl (m171_6v3 _ M86 (0 + (v6 * 5)) v91 v94 hP87 (by omega) (by omega) (by omega) (by omega) e95 (by omega) (by omega) (by omega)) (cqI ?_)
      rintro v102 M97 ⟨hP98, hQ99, h103, h104, h101⟩
      have hF100 : Fr fm_m152_6v5 M0 M97 := hF89.tr hQ99 rfl
      have e105 := ((hQ99.at g_6_4 rfl).trans e95)
      subst hQ; exact wk_zret r152_34 ⟨by omega, by omega⟩ (⟨rfl, _, rfl, hP98, hF100, by omega, by omega, by have := ((hQ99.at g_6_4 rfl).trans e95); omega⟩)
  · intro h106
    refine wk_c1 r152_10 ?_
    subst hQ; exact wk_zret r152_11 (by decide) (⟨rfl, _, rfl, hP2, hF4, by omega, by omega, by have := e10; omega⟩)
def fm_m153_6v5 : Nat := 3941068970131456
/-- IslandHall$Parser.atom -/
theorem m153_6v5 {B : eB} (d : Nat) (M0 : Mm) (p1 : Int) (hP0 : Pw M0) (l1 : 5 ≤ p1) (u1 : p1 ≤ 5) : Ct B (d + 7) 153 [R 6, I p1] M0 (qI fun z M => Pw M ∧ Fr fm_m153_6v5 M0 M ∧ 0 ≤ z ∧ z ≤ 1 ∧ 0 ≤ z + M 6 4 + (-1)) := by
  refine ct_of (d := d + 6) (k := 0) (L := [some (R 6), some (I p1)]) rfl rfl rfl ?_
  have hF0 := Fr.rf fm_m153_6v5 M0
  generalize hQ : (qI fun z M => Pw M ∧ Fr fm_m153_6v5 M0 M ∧ 0 ≤ z ∧ z ≤ 1 ∧ 0 ≤ z + M 6 4 + (-1)) = Q
  refine wk_al0 r153_0 (wk_getfr r153_1 fd_6_0 (br_6_0 hP0) (wk_cv1 r153_4 kc_9_237 rfl (m237_9 _ M0 hP0) (cqI ?_)))
  rintro v7 M1 ⟨hP2, hQ3, h8, h9, h5, h6⟩
  obtain rfl := Fr.same hQ3
  obtain ⟨v10, e11⟩ : ∃ v, M0 9 2 = v := ⟨_, rfl⟩
  have h12 := bf_9_2 hP0; rw [e11] at h12
  obtain ⟨v13, e14⟩ : ∃ v, M0 9 3 = v := ⟨_, rfl⟩
  have h15 := bf_9_3 hP0; rw [e14] at h15
  refine wk_ifeq r153_7 ⟨by omega, by omega⟩ ?_ ?_
  · intro h16
    refine wk_al0 r153_16 (wk_c8 r153_17 (wk_cv2 r153_19 kc_6_175 rfl (m175_6 _ M0 4114 hP0 (by decide)) (cqI ?_)))
    rintro v21 M17 ⟨hP18, hQ19, h22, h23⟩
    have hF20 : Fr fm_m153_6v5 M0 M17 := hF0.tr hQ19 rfl
    refine wk_ifeq r153_22 ⟨by omega, by omega⟩ ?_ ?_
    · intro h24
      refine wk_al0 r153_38 (wk_c8 r153_39 (wk_cv2 r153_41 kc_6_175 rfl (m175_6 _ M17 4115 hP18 (by decide)) (cqI ?_)))
      rintro v29 M25 ⟨hP26, hQ27, h30, h31⟩
      have hF28 : Fr fm_m153_6v5 M0 M25 := hF20.tr hQ27 rfl
      refine wk_ifeq r153_44 ⟨by omega, by omega⟩ ?_ ?_
      · intro h32
        refine wk_al0 r153_61 (wk_c8 r153_62 (wk_cv2 r153_64 kc_6_175 rfl (m175_6 _ M25 4116 hP26 (by decide)) (cqI ?_)))
        rintro v37 M33 ⟨hP34, hQ35, h38, h39⟩
        have hF36 : Fr fm_m153_6v5 M0 M33 := hF28.tr hQ35 rfl
        refine wk_ifeq r153_67 ⟨by omega, by omega⟩ ?_ ?_
        · intro h40
          refine wk_al0 r153_83 (wk_c8 r153_84 (wk_cv2 r153_86 kc_6_175 rfl (m175_6 _ M33 4117 hP34 (by decide)) (cqI ?_)))
          rintro v45 M41 ⟨hP42, hQ43, h46, h47⟩
          have hF44 : Fr fm_m153_6v5 M0 M41 := hF36.tr hQ43 rfl
          refine wk_ifeq r153_89 ⟨by omega, by omega⟩ ?_ ?_
          · intro h48
            refine wk_al0 r153_97 (wk_c8 r153_98 (wk_cv2 r153_100 kc_6_175 rfl (m175_6 _ M41 4118 hP42 (by decide)) (cqI ?_)))
            rintro v53 M49 ⟨hP50, hQ51, h54, h55⟩
            have hF52 : Fr fm_m153_6v5 M0 M49 := hF44.tr hQ51 rfl
            refine wk_ifeq r153_103 ⟨by omega, by omega⟩ ?_ ?_
            · intro h56
              refine wk_al0 r153_117 (wk_c1 r153_118 (wk_cv2 r153_119 kc_6_159 rfl (m159_6 _ M49 1 hP50 (by decide) (by decide)) (cqI ?_)))
              rintro v62 M57 ⟨hP58, hQ59, h63, h64, h61⟩
              have hF60 : Fr fm_m153_6v5 M0 M57 := hF52.tr hQ59 rfl
              obtain ⟨v65, e66⟩ : ∃ v, M57 6 4 = v := ⟨_, rfl⟩
              have h67 := bf_6_4 hP58; rw [e66] at h67
              subst hQ; exact wk_zret r153_122 ⟨by omega, by omega⟩ (⟨rfl, _, rfl, hP58, hF60, by omega, by omega, by have := e66; omega⟩)
            · intro h68
              refine wk_al0 r153_106 (wk_al0 r153_107 (wk_cv1 r153_108 kc_6_173 rfl (m173_6 _ M49 hP50) (cqI ?_)))
              rintro v74 M69 ⟨hP70, hQ71, h75, h76, h73⟩
              have hF72 : Fr fm_m153_6v5 M0 M69 := hF52.tr hQ71 rfl
              obtain ⟨v77, e78⟩ : ∃ v, M69 6 4 = v := ⟨_, rfl⟩
              have h79 := bf_6_4 hP70; rw [e78] at h79
              refine wk_cv2 r153_111 kc_6_163 rfl (m163_6 _ M69 v74 v77 hP70 (by omega) (by omega) e78 (by omega) (by omega) (by omega)) (cqI ?_)
              rintro v85 M80 ⟨hP81, hQ82, h86, h87, h84⟩
              have hF83 : Fr fm_m153_6v5 M0 M80 := hF72.tr hQ82 rfl
              obtain ⟨v88, e89⟩ : ∃ v, M80 6 4 = v := ⟨_, rfl⟩
              have h90 := bf_6_4 hP81; rw [e89] at h90
              refine wk_goto r153_114 ?_
              subst hQ; exact wk_zret r153_122 ⟨by omega, by omega⟩ (⟨rfl, _, rfl, hP81, hF83, by omega, by omega, by have := e89; omega⟩)
          · intro h91
            refine wk_al0 r153_92 (wk_cv1 r153_93 kc_6_176 rfl (m176_6 _ M41 hP42) (cqI ?_))
            rintro v97 M92 ⟨hP93, hQ94, h98, h99, h96⟩
            have hF95 : Fr fm_m153_6v5 M0 M92 := hF44.tr hQ94 rfl
            obtain ⟨v100, e101⟩ : ∃ v, M92 6 4 = v := ⟨_, rfl⟩
            have h102 := bf_6_4 hP93; rw [e101] at h102
            subst hQ; exact wk_zret r153_96 ⟨by omega, by omega⟩ (⟨rfl, _, rfl, hP93, hF95, by omega, by omega, by have := e101; omega⟩)
        · intro h103
          refine wk_al0 r153_70 (wk_c2 r153_71 (wk_al0 r153_73 (wk_c1 r153_74 (wk_c1 r153_75 (wk_cv3 r153_76 kc_6_167 rfl (m167_6v1 _ M33 0 1 hP34 (by decide) (by decide) (by decide) (by decide)) (cqI ?_))))))
          rintro v109 M104 ⟨hP105, hQ106, h110, h111, h108⟩
          have hF107 : Fr fm_m153_6v5 M0 M104 := hF36.tr hQ106 rfl
          obtain ⟨v112, e113⟩ : ∃ v, M104 6 4 = v := ⟨_, rfl⟩
          have h114 := bf_6_4 hP105; rw [e113] at h114
          refine wk_cv3 r153_79 kc_6_171 rfl (m171_6 _ M104 46 v109 v112 hP105 (by decide) (by decide) (by omega) (by omega) e113 (by omega) (by omega) (by omega)) (cqI ?_)
          rintro v120 M115 ⟨hP116, hQ117, h121, h122, h119⟩
          have hF118 : Fr fm_m153_6v5 M0 M115 := hF107.tr hQ117 rfl
          have e123 := ((hQ117.at g_6_4 rfl).trans e113)
          subst hQ; exact wk_zret r153_82 ⟨by omega, by omega⟩ (⟨rfl, _, rfl, hP116, hF118, by omega, by omega, by have := ((hQ117.at g_6_4 rfl).trans e113); omega⟩)
      · intro h124
        refine wk_al0 r153_47 (wk_c2 r153_48 (wk_al0 r153_50 (wk_c1 r153_51 (wk_c2 r153_52 (wk_cv3 r153_54 kc_6_167 rfl (m167_6v2 _ M25 0 6 hP26 (by decide) (by decide) (by decide) (by decide)) (cqI ?_))))))
        rintro v130 M125 ⟨hP126, hQ127, h131, h132, h129⟩
        have hF128 : Fr fm_m153_6v5 M0 M125 := hF28.tr hQ127 rfl
        obtain ⟨v133, e134⟩ : ∃ v, M125 6 4 = v := ⟨_, rfl⟩
        have h135 := bf_6_4 hP126; rw [e134] at h135
        refine wk_cv3 r153_57 kc_6_171 rfl (m171_6v1 _ M125 39 v130 v133 hP126 (by decide) (by decide) (by omega) (by omega) e134 (by omega) (by omega) (by omega)) (cqI ?_)
        rintro v141 M136 ⟨hP137, hQ138, h142, h143, h140⟩
        have hF139 : Fr fm_m153_6v5 M0 M136 := hF128.tr hQ138 rfl
        have e144 := ((hQ138.at g_6_4 rfl).trans e134)
        subst hQ; exact wk_zret r153_60 ⟨by omega, by omega⟩ (⟨rfl, _, rfl, hP137, hF139, by omega, by omega, by have := ((hQ138.at g_6_4 rfl).trans e134); omega⟩)
    · intro h145
      refine wk_al0 r153_25 (wk_c2 r153_26 (wk_al0 r153_28 (wk_c1 r153_29 (wk_c1 r153_30 (wk_cv3 r153_31 kc_6_167 rfl (m167_6v3 _ M17 0 3 hP18 (by decide) (by decide) (by decide) (by decide)) (cqI ?_))))))
      rintro v151 M146 ⟨hP147, hQ148, h152, h153, h150⟩
      have hF149 : Fr fm_m153_6v5 M0 M146 := hF20.tr hQ148 rfl
      obtain ⟨v154, e155⟩ : ∃ v, M146 6 4 = v := ⟨_, rfl⟩
      have h156 := bf_6_4 hP147; rw [e155] at h156
      refine wk_cv3 r153_34 kc_6_171 rfl (m171_6v2 _ M146 35 v151 v154 hP147 (by decide) (by decide) (by omega) (by omega) e155 (by omega) (by omega) (by omega)) (cqI ?_)
      rintro v162 M157 ⟨hP158, hQ159, h163, h164, h161⟩
      have hF160 : Fr fm_m153_6v5 M0 M157 := hF149.tr hQ159 rfl
      have e165 := ((hQ159.at g_6_4 rfl).trans e155)
      subst hQ; exact wk_zret r153_37 ⟨by omega, by omega⟩ (⟨rfl, _, rfl, hP158, hF160, by omega, by omega, by have := ((hQ159.at g_6_4 rfl).trans e155); omega⟩)
  · intro h166
    refine wk_al0 r153_10 (wk_il1 r153_11 (wk_cv2 r153_12 kc_6_152 rfl (m152_6v5 _ M0 p1 hP0 (by omega) (by omega)) (cqI ?_)))
    rintro v172 M167 ⟨hP168, hQ169, h173, h174, h171⟩
    have hF170 : Fr fm_m153_6v5 M0 M167 := hF0.tr hQ169 rfl
    obtain ⟨v175, e176⟩ : ∃ v, M167 6 4 = v := ⟨_, rfl⟩
    have h177 := bf_6_4 hP168; rw [e176] at h177
    subst hQ; exact wk_zret r153_15 ⟨by omega, by omega⟩ (⟨rfl, _, rfl, hP168, hF170, by omega, by omega, by have := e176; omega⟩)
def fm_m166_6v5 : Nat := 3941068970131456
/-- IslandHall$Parser.negation -/
theorem m166_6v5 {B : eB} (d : Nat) (M0 : Mm) (p1 : Int) (hP0 : Pw M0) (l1 : 5 ≤ p1) (u1 : p1 ≤ 5) : Ct B (d + 8) 166 [R 6, I p1] M0 (qI fun z M => Pw M ∧ Fr fm_m166_6v5 M0 M ∧ 0 ≤ z ∧ z ≤ 1 ∧ 0 ≤ z + M 6 4 + (-1)) := by
  refine ct_of (d := d + 7) (k := 2) (L := [some (R 6), some (I p1), none, none]) rfl rfl rfl ?_
  have hF0 := Fr.rf fm_m166_6v5 M0
  generalize hQ : (qI fun z M => Pw M ∧ Fr fm_m166_6v5 M0 M ∧ 0 ≤ z ∧ z ≤ 1 ∧ 0 ≤ z + M 6 4 + (-1)) = Q
  refine wk_c1 r166_0 (wk_is2 r166_1 rfl ?_)
  have c2_658 : ∀ (k658 : Nat) (M562 : Mm) (v559 : Int), (6 - v559).toNat = k658 → Pw M562 → Fr fm_m166_6v5 M0 M562 → 0 ≤ v559 → v559 ≤ 6 → Wp B (d + 7) 166 2 [some (R 6), some (I p1), some (I v559), none] [] M562 Q := by
    refine lp_ind ?_
    intro k658 ih658 M562 v559 hk658 hP563 hF564 h560 h561
    refine wk_il2 r166_2 (wk_c2 r166_3 ?_)
    have c23_657 : ∀ (M576 : Mm), Pw M576 → Fr fm_m166_6v5 M0 M576 → Wp B (d + 7) 166 23 [some (R 6), some (I p1), some (I v559), none] [] M576 Q := by
      intro M576 hP577 hF578
      refine wk_al0 r166_23 (wk_getfr r166_24 fd_6_0 (br_6_0 hP577) (wk_c8 r166_27 (wk_cv2 r166_29 kc_9_239 rfl (m239_9 _ M576 4119 hP577 (by decide)) (cqI ?_))))
      rintro v584 M579 ⟨hP580, hQ581, h585, h586, xh583⟩
      obtain rfl := Fr.same hQ581
      refine wk_ifeq r166_32 ⟨by omega, by omega⟩ ?_ ?_
      · intro h587
        refine wk_al0 r166_41 (wk_getfr r166_42 fd_6_0 (br_6_0 hP577) (wk_c2 r166_45 (wk_cv2 r166_47 kc_9_238 rfl (m238_9 _ M576 40 hP577 (by decide) (by decide)) (cqI ?_))))
        rintro v592 M588 ⟨hP589, hQ590, h593, h594⟩
        obtain rfl := Fr.same hQ590
        have c66_644 : ∀ (M622 : Mm) (v619 : Int) (v625 : Int), Pw M622 → Fr fm_m166_6v5 M0 M622 → M622 6 4 = v625 → 0 ≤ v619 → v619 ≤ 1 → 0 ≤ v625 → v625 ≤ 6 → 1 ≤ v619 + v625 → Wp B (d + 7) 166 66 [some (R 6), none, some (I v559), none] [I v619] M622 Q := by
          intro M622 v619 v625 hP623 hF624 e628 h620 h621 h626 h627 h629
          refine wk_is3 r166_66 rfl (wk_il3 r166_67 ?_)
          refine wk_ifeq r166_68 ⟨by omega, by omega⟩ ?_ ?_
          · intro h630
            refine wk_c1 r166_90 ?_
            subst hQ; exact wk_zret r166_91 (by decide) (⟨rfl, _, rfl, hP623, hF624, by omega, by omega, by have := e628; omega⟩)
          · intro h631
            refine wk_il2 r166_71 (wk_c1 r166_72 (wk_iandc 1 2 r166_73 ⟨rfl, by decide⟩ rfl ?_))
            refine wk_ifeq r166_74 ⟨by omega, by omega⟩ ?_ ?_
            · intro h633
              refine wk_c1 r166_86 (wk_goto r166_87 ?_)
              subst hQ; exact wk_zret r166_91 (by decide) (⟨rfl, _, rfl, hP623, hF624, by omega, by omega, by have := e628; omega⟩)
            · intro h634
              refine wk_al0 r166_77 (wk_c1 r166_78 (wk_c1 r166_79 (wk_cv3 r166_80 kc_6_172 rfl (m172_6 _ M622 1 0 hP623 (by decide) (by decide) (by decide) (by decide) (by first | assumption | omega | (unfold stepok; omega))) (cqI ?_))))
              rintro v639 M635 ⟨hP636, hQ637, h640, h641⟩
              have hF638 : Fr fm_m166_6v5 M0 M635 := hF624.tr hQ637 rfl
              refine wk_ifeq r166_83 ⟨by omega, by omega⟩ ?_ ?_
              · intro h642
                exfalso
                omega
              · intro h643
                refine wk_c1 r166_86 (wk_goto r166_87 ?_)
                subst hQ; exact wk_zret r166_91 (by decide) (⟨rfl, _, rfl, hP636, hF638, by omega, by omega, by have := ((hQ637.at g_6_4 rfl).trans e628); omega⟩)
        refine wk_ifeq r166_50 ⟨by omega, by omega⟩ ?_ ?_
        · intro h595
          refine wk_al0 r166_61 (wk_il1 r166_62 (wk_cv2 r166_63 kc_6_153 rfl (m153_6v5 _ M576 p1 hP577 (by omega) (by omega)) (cqI ?_)))
          rintro v601 M596 ⟨hP597, hQ598, h602, h603, h600⟩
          have hF599 : Fr fm_m166_6v5 M0 M596 := hF578.tr hQ598 rfl
          obtain ⟨v604, e605⟩ : ∃ v, M596 6 4 = v := ⟨_, rfl⟩
          have h606 := bf_6_4 hP597; rw [e605] at h606
          exact wp_fg (le_s (le_n (le_s (le_s le_0)))) (c66_644 M596 v601 v604 hP597 hF599 e605 (by omega) (by omega) (by omega) (by omega) (by omega))
        · intro h607
          refine wk_al0 r166_53 (wk_il1 r166_54 (wk_cv2 r166_55 kc_6_168 rfl (m168_6v5 _ M576 p1 hP577 (by omega) (by omega)) (cqI ?_)))
          rintro v613 M608 ⟨hP609, hQ610, h614, h615, h612⟩
          have hF611 : Fr fm_m166_6v5 M0 M608 := hF578.tr hQ610 rfl
          obtain ⟨v616, e617⟩ : ∃ v, M608 6 4 = v := ⟨_, rfl⟩
          have h618 := bf_6_4 hP609; rw [e617] at h618
          refine wk_goto r166_58 ?_
          exact wp_fg (le_s (le_n (le_s (le_s le_0)))) (c66_644 M608 v613 v616 hP609 hF611 e617 (by omega) (by omega) (by omega) (by omega) (by omega))
      · intro h645
        refine wk_al0 r166_35 (wk_c1 r166_36 (wk_cv2 r166_37 kc_6_159 rfl (m159_6v1 _ M576 2 hP577 (by decide) (by decide)) (cqI ?_)))
        rintro v651 M646 ⟨hP647, hQ648, h652, h653, h650⟩
        have hF649 : Fr fm_m166_6v5 M0 M646 := hF578.tr hQ648 rfl
        obtain ⟨v654, e655⟩ : ∃ v, M646 6 4 = v := ⟨_, rfl⟩
        have h656 := bf_6_4 hP647; rw [e655] at h656
        subst hQ; exact wk_zret r166_40 ⟨by omega, by omega⟩ (⟨rfl, _, rfl, hP647, hF649, by omega, by omega, by have := e655; omega⟩)
    refine wk_icge r166_5 ⟨by omega, by omega⟩ (by decide) ?_ ?_
    · intro h565
      exact wp_fg (le_s (le_s (le_s (le_s le_0)))) (c23_657 M562 hP563 hF564)
    · intro h566
      refine wk_al0 r166_8 (wk_c8 r166_9 (wk_cv2 r166_11 kc_6_175 rfl (m175_6 _ M562 4119 hP563 (by decide)) (cqI ?_)))
      rintro v571 M567 ⟨hP568, hQ569, h572, h573⟩
      have hF570 : Fr fm_m166_6v5 M0 M567 := hF564.tr hQ569 rfl
      refine wk_ifeq r166_14 ⟨by omega, by omega⟩ ?_ ?_
      · intro h574
        exact wp_fg (le_s (le_s (le_s (le_s le_0)))) (c23_657 M567 hP568 hF570)
      · intro h575
        refine wk_inc2 r166_17 rfl (wk_goto r166_20 ?_)
        exact wp_fg (le_s (le_s (le_s (le_s le_0)))) (ih658 (6 - (v559 + 1)).toNat (by omega) M567 (v559 + 1) rfl hP568 hF570 (by omega) (by omega))
  exact wp_fg (le_s (le_s (le_s (le_s le_0)))) (c2_658 _ M0 0 rfl hP0 hF0 (by omega) (by omega))
def fm_m157_6v5 : Nat := 3941068970131456
/-- IslandHall$Parser.conjunction -/
theorem m157_6v5 {B : eB} (d : Nat) (M0 : Mm) (p1 : Int) (hP0 : Pw M0) (l1 : 5 ≤ p1) (u1 : p1 ≤ 5) : Ct B (d + 9) 157 [R 6, I p1] M0 (qI fun z M => Pw M ∧ Fr fm_m157_6v5 M0 M ∧ 0 ≤ z ∧ z ≤ 1 ∧ 0 ≤ z + M 6 4 + (-1)) := by
  refine ct_of (d := d + 8) (k := 1) (L := [some (R 6), some (I p1), none]) rfl rfl rfl ?_
  have hF0 := Fr.rf fm_m157_6v5 M0
  generalize hQ : (qI fun z M => Pw M ∧ Fr fm_m157_6v5 M0 M ∧ 0 ≤ z ∧ z ≤ 1 ∧ 0 ≤ z + M 6 4 + (-1)) = Q
  refine wk_al0 r157_0 (wk_il1 r157_1 (wk_cv2 r157_2 kc_6_166 rfl (m166_6v5 _ M0 p1 hP0 (by omega) (by omega)) (cqI ?_)))
  rintro v6 M1 ⟨hP2, hQ3, h7, h8, h5⟩
  have hF4 : Fr fm_m157_6v5 M0 M1 := hF0.tr hQ3 rfl
  obtain ⟨v9, e10⟩ : ∃ v, M1 6 4 = v := ⟨_, rfl⟩
  have h11 := bf_6_4 hP2; rw [e10] at h11
  refine wk_ifne r157_5 ⟨by omega, by omega⟩ ?_ ?_
  · intro h12
    refine wk_c1 r157_10 (wk_is2 r157_11 rfl ?_)
    have c12_442 : ∀ (k442 : Nat) (M401 : Mm) (v398 : Int) (v404 : Int), (500 - v398).toNat = k442 → Pw M401 → Fr fm_m157_6v5 M0 M401 → M401 6 4 = v404 → 0 ≤ v398 → v398 ≤ 500 → 0 ≤ v404 → v404 ≤ 6 → 0 ≤ (-1) * v404 + v398 + 6 → Wp B (d + 8) 157 12 [some (R 6), some (I p1), some (I v398)] [] M401 Q := by
      refine lp_ind ?_
      intro k442 ih442 M401 v398 v404 hk442 hP402 hF403 e407 h399 h400 h405 h406 h408
      refine wk_il2 r157_12 (wk_c3 r157_13 ?_)
      refine wk_icge r157_16 ⟨by omega, by omega⟩ (by decide) ?_ ?_
      · intro h409
        refine wk_c1 r157_53 ?_
        subst hQ; exact wk_zret r157_54 (by decide) (⟨rfl, _, rfl, hP402, hF403, by omega, by omega, by have := e407; omega⟩)
      · intro h410
        refine wk_al0 r157_19 (wk_c8 r157_20 (wk_cv2 r157_22 kc_6_175 rfl (m175_6 _ M401 4125 hP402 (by decide)) (cqI ?_)))
        rintro v415 M411 ⟨hP412, hQ413, h416, h417⟩
        have hF414 : Fr fm_m157_6v5 M0 M411 := hF403.tr hQ413 rfl
        refine wk_ifeq r157_25 ⟨by omega, by omega⟩ ?_ ?_
        · intro h418
          refine wk_c1 r157_53 ?_
          subst hQ; exact wk_zret r157_54 (by decide) (⟨rfl, _, rfl, hP412, hF414, by omega, by omega, by have := ((hQ413.at g_6_4 rfl).trans e407); omega⟩)
        · intro h419
          refine wk_al0 r157_28 (wk_il1 r157_29 (wk_cv2 r157_30 kc_6_166 rfl (m166_6v5 _ M411 p1 hP412 (by omega) (by omega)) (cqI ?_)))
          rintro v425 M420 ⟨hP421, hQ422, h426, h427, h424⟩
          have hF423 : Fr fm_m157_6v5 M0 M420 := hF414.tr hQ422 rfl
          obtain ⟨v428, e429⟩ : ∃ v, M420 6 4 = v := ⟨_, rfl⟩
          have h430 := bf_6_4 hP421; rw [e429] at h430
          refine wk_ifeq r157_33 ⟨by omega, by omega⟩ ?_ ?_
          · intro h431
            refine wk_c1 r157_45 ?_
            subst hQ; exact wk_zret r157_46 (by decide) (⟨rfl, _, rfl, hP421, hF423, by omega, by omega, by have := e429; omega⟩)
          · intro h432
            refine wk_al0 r157_36 (wk_c1 r157_37 (wk_c1 r157_38 (wk_cv3 r157_39 kc_6_172 rfl (m172_6 _ M420 2 0 hP421 (by decide) (by decide) (by decide) (by decide) (by first | assumption | omega | (unfold stepok; omega))) (cqI ?_))))
            rintro v437 M433 ⟨hP434, hQ435, h438, h439⟩
            have hF436 : Fr fm_m157_6v5 M0 M433 := hF423.tr hQ435 rfl
            refine wk_ifne r157_42 ⟨by omega, by omega⟩ ?_ ?_
            · intro h440
              refine wk_inc2 r157_47 rfl (wk_goto r157_50 ?_)
              exact wp_fg (le_s (le_s (le_s le_0))) (ih442 (500 - (v398 + 1)).toNat (by omega) M433 (v398 + 1) v428 rfl hP434 hF436 ((hQ435.at g_6_4 rfl).trans e429) (by omega) (by omega) (by omega) (by omega) (by omega))
            · intro h441
              exfalso
              omega
    exact wp_fg (le_s (le_s (le_s le_0))) (c12_442 _ M1 0 v9 rfl hP2 hF4 e10 (by omega) (by omega) (by omega) (by omega) (by omega))
  · intro h443
    refine wk_c1 r157_8 ?_
    subst hQ; exact wk_zret r157_9 (by decide) (⟨rfl, _, rfl, hP2, hF4, by omega, by omega, by have := e10; omega⟩)
def fm_m158_6v5 : Nat := 3941068970131456
/-- IslandHall$Parser.expr -/
theorem m158_6v5 {B : eB} (d : Nat) (M0 : Mm) (p1 : Int) (hP0 : Pw M0) (l1 : 5 ≤ p1) (u1 : p1 ≤ 5) : Ct B (d + 10) 158 [R 6, I p1] M0 (qI fun z M => Pw M ∧ Fr fm_m158_6v5 M0 M ∧ 0 ≤ z ∧ z ≤ 1 ∧ 0 ≤ z + M 6 4 + (-1)) := by
  refine ct_of (d := d + 9) (k := 1) (L := [some (R 6), some (I p1), none]) rfl rfl rfl ?_
  have hF0 := Fr.rf fm_m158_6v5 M0
  generalize hQ : (qI fun z M => Pw M ∧ Fr fm_m158_6v5 M0 M ∧ 0 ≤ z ∧ z ≤ 1 ∧ 0 ≤ z + M 6 4 + (-1)) = Q
  refine wk_al0 r158_0 (wk_cv1 r158_1 kc_6_155 rfl (m155_6 _ M0 hP0) (cqI ?_))
  rintro v5 M1 ⟨hP2, hQ3, h6, h7⟩
  obtain rfl := Fr.same hQ3
  refine wk_ifne r158_4 ⟨by omega, by omega⟩ ?_ ?_
  · intro h8
    refine wk_il1 r158_13 (wk_c2 r158_14 ?_)
    refine wk_iclt r158_16 ⟨by omega, by omega⟩ (by decide) ?_ ?_
    · intro h9
      refine wk_al0 r158_25 (wk_il1 r158_26 (wk_cv2 r158_27 kc_6_157 rfl (m157_6v5 _ M0 p1 hP0 (by omega) (by omega)) (cqI ?_)))
      rintro v15 M10 ⟨hP11, hQ12, h16, h17, h14⟩
      have hF13 : Fr fm_m158_6v5 M0 M10 := hF0.tr hQ12 rfl
      obtain ⟨v18, e19⟩ : ∃ v, M10 6 4 = v := ⟨_, rfl⟩
      have h20 := bf_6_4 hP11; rw [e19] at h20
      refine wk_ifne r158_30 ⟨by omega, by omega⟩ ?_ ?_
      · intro h21
        refine wk_c1 r158_35 (wk_is2 r158_36 rfl ?_)
        have c37_451 : ∀ (k451 : Nat) (M410 : Mm) (v407 : Int) (v413 : Int), (500 - v407).toNat = k451 → Pw M410 → Fr fm_m158_6v5 M0 M410 → M410 6 4 = v413 → 0 ≤ v407 → v407 ≤ 500 → 0 ≤ v413 → v413 ≤ 6 → 0 ≤ (-1) * v413 + v407 + 6 → Wp B (d + 9) 158 37 [some (R 6), some (I p1), some (I v407)] [] M410 Q := by
          refine lp_ind ?_
          intro k451 ih451 M410 v407 v413 hk451 hP411 hF412 e416 h408 h409 h414 h415 h417
          refine wk_il2 r158_37 (wk_c3 r158_38 ?_)
          refine wk_icge r158_41 ⟨by omega, by omega⟩ (by decide) ?_ ?_
          · intro h418
            refine wk_c1 r158_78 ?_
            subst hQ; exact wk_zret r158_79 (by decide) (⟨rfl, _, rfl, hP411, hF412, by omega, by omega, by have := e416; omega⟩)
          · intro h419
            refine wk_al0 r158_44 (wk_c8 r158_45 (wk_cv2 r158_47 kc_6_175 rfl (m175_6 _ M410 4126 hP411 (by decide)) (cqI ?_)))
            rintro v424 M420 ⟨hP421, hQ422, h425, h426⟩
            have hF423 : Fr fm_m158_6v5 M0 M420 := hF412.tr hQ422 rfl
            refine wk_ifeq r158_50 ⟨by omega, by omega⟩ ?_ ?_
            · intro h427
              refine wk_c1 r158_78 ?_
              subst hQ; exact wk_zret r158_79 (by decide) (⟨rfl, _, rfl, hP421, hF423, by omega, by omega, by have := ((hQ422.at g_6_4 rfl).trans e416); omega⟩)
            · intro h428
              refine wk_al0 r158_53 (wk_il1 r158_54 (wk_cv2 r158_55 kc_6_157 rfl (m157_6v5 _ M420 p1 hP421 (by omega) (by omega)) (cqI ?_)))
              rintro v434 M429 ⟨hP430, hQ431, h435, h436, h433⟩
              have hF432 : Fr fm_m158_6v5 M0 M429 := hF423.tr hQ431 rfl
              obtain ⟨v437, e438⟩ : ∃ v, M429 6 4 = v := ⟨_, rfl⟩
              have h439 := bf_6_4 hP430; rw [e438] at h439
              refine wk_ifeq r158_58 ⟨by omega, by omega⟩ ?_ ?_
              · intro h440
                refine wk_c1 r158_70 ?_
                subst hQ; exact wk_zret r158_71 (by decide) (⟨rfl, _, rfl, hP430, hF432, by omega, by omega, by have := e438; omega⟩)
              · intro h441
                refine wk_al0 r158_61 (wk_c1 r158_62 (wk_c1 r158_63 (wk_cv3 r158_64 kc_6_172 rfl (m172_6 _ M429 3 0 hP430 (by decide) (by decide) (by decide) (by decide) (by first | assumption | omega | (unfold stepok; omega))) (cqI ?_))))
                rintro v446 M442 ⟨hP443, hQ444, h447, h448⟩
                have hF445 : Fr fm_m158_6v5 M0 M442 := hF432.tr hQ444 rfl
                refine wk_ifne r158_67 ⟨by omega, by omega⟩ ?_ ?_
                · intro h449
                  refine wk_inc2 r158_72 rfl (wk_goto r158_75 ?_)
                  exact wp_fg (le_s (le_s (le_s le_0))) (ih451 (500 - (v407 + 1)).toNat (by omega) M442 (v407 + 1) v437 rfl hP443 hF445 ((hQ444.at g_6_4 rfl).trans e438) (by omega) (by omega) (by omega) (by omega) (by omega))
                · intro h450
                  exfalso
                  omega
        exact wp_fg (le_s (le_s (le_s le_0))) (c37_451 _ M10 0 v18 rfl hP11 hF13 e19 (by omega) (by omega) (by omega) (by omega) (by omega))
      · intro h452
        refine wk_c1 r158_33 ?_
        subst hQ; exact wk_zret r158_34 (by decide) (⟨rfl, _, rfl, hP11, hF13, by omega, by omega, by have := e19; omega⟩)
    · intro h453
      exfalso
      omega
  · intro h454
    refine wk_al0 r158_7 (wk_c1 r158_8 (wk_cv2 r158_9 kc_6_159 rfl (m159_6 _ M0 1 hP0 (by decide) (by decide)) (cqI ?_)))
    rintro v460 M455 ⟨hP456, hQ457, h461, h462, h459⟩
    have hF458 : Fr fm_m158_6v5 M0 M455 := hF0.tr hQ457 rfl
    obtain ⟨v463, e464⟩ : ∃ v, M455 6 4 = v := ⟨_, rfl⟩
    have h465 := bf_6_4 hP456; rw [e464] at h465
    subst hQ; exact wk_zret r158_12 ⟨by omega, by omega⟩ (⟨rfl, _, rfl, hP456, hF458, by omega, by omega, by have := e464; omega⟩)
def fm_m174_6v1 : Nat := 3941061990809600
/-- IslandHall$Parser.takeSign -/
theorem m174_6v1 {B : eB} (d : Nat) (M0 : Mm) (p1 : Int) (hP0 : Pw M0) (l1 : 40 ≤ p1) (u1 : p1 ≤ 41) : Ct B (d + 3) 174 [R 6, I p1] M0 (qI fun z M => Pw M ∧ Fr fm_m174_6v1 M0 M ∧ 0 ≤ z ∧ z ≤ 1 ∧ 0 ≤ z + M 6 4 + (-1)) := by
  refine ct_of (d := d + 2) (k := 0) (L := [some (R 6), some (I p1)]) rfl rfl rfl ?_
  have hF0 := Fr.rf fm_m174_6v1 M0
  generalize hQ : (qI fun z M => Pw M ∧ Fr fm_m174_6v1 M0 M ∧ 0 ≤ z ∧ z ≤ 1 ∧ 0 ≤ z + M 6 4 + (-1)) = Q
  refine wk_al0 r174_0 (wk_getfr r174_1 fd_6_0 (br_6_0 hP0) (wk_il1 r174_4 (wk_cv2 r174_5 kc_9_238 rfl (m238_9v1 _ M0 p1 hP0 (by omega) (by omega)) (cqI ?_))))
  rintro v5 M1 ⟨hP2, hQ3, h6, h7⟩
  obtain rfl := Fr.same hQ3
  refine wk_ifne r174_8 ⟨by omega, by omega⟩ ?_ ?_
  · intro h8
    refine wk_al0 r174_17 (wk_getfr r174_18 fd_6_0 (br_6_0 hP0) (wk_cv1 r174_21 kc_9_241 rfl (m241_9 _ M0 hP0) (cqV ?_)))
    rintro M9 ⟨hP10, hQ11⟩
    have hF12 : Fr fm_m174_6v1 M0 M9 := hF0.tr hQ11 rfl
    refine wk_c1 r174_24 ?_
    subst hQ; exact wk_zret r174_25 (by decide) (⟨rfl, _, rfl, hP10, hF12, by omega, by omega, by have := (bf_6_4 hP10); omega⟩)
  · intro h13
    refine wk_al0 r174_11 (wk_c1 r174_12 (wk_cv2 r174_13 kc_6_159 rfl (m159_6 _ M0 1 hP0 (by decide) (by decide)) (cqI ?_)))
    rintro v19 M14 ⟨hP15, hQ16, h20, h21, h18⟩
    have hF17 : Fr fm_m174_6v1 M0 M14 := hF0.tr hQ16 rfl
    obtain ⟨v22, e23⟩ : ∃ v, M14 6 4 = v := ⟨_, rfl⟩
    have h24 := bf_6_4 hP15; rw [e23] at h24
    subst hQ; exact wk_zret r174_16 ⟨by omega, by omega⟩ (⟨rfl, _, rfl, hP15, hF17, by omega, by omega, by have := e23; omega⟩)
def fm_m168_6v4 : Nat := 3941068970131456
/-- IslandHall$Parser.parenthesis -/
theorem m168_6v4 {B : eB} (d : Nat) (M0 : Mm) (p1 : Int) (hP0 : Pw M0) (l1 : 4 ≤ p1) (u1 : p1 ≤ 4) : Ct B (d + 11) 168 [R 6, I p1] M0 (qI fun z M => Pw M ∧ Fr fm_m168_6v4 M0 M ∧ 0 ≤ z ∧ z ≤ 1 ∧ 0 ≤ z + M 6 4 + (-1)) := by
  refine ct_of (d := d + 10) (k := 0) (L := [some (R 6), some (I p1)]) rfl rfl rfl ?_
  have hF0 := Fr.rf fm_m168_6v4 M0
  generalize hQ : (qI fun z M => Pw M ∧ Fr fm_m168_6v4 M0 M ∧ 0 ≤ z ∧ z ≤ 1 ∧ 0 ≤ z + M 6 4 + (-1)) = Q
  refine wk_al0 r168_0 (wk_c2 r168_1 (wk_cv2 r168_3 kc_6_174 rfl (m174_6 _ M0 40 hP0 (by decide) (by decide)) (cqI ?_)))
  rintro v6 M1 ⟨hP2, hQ3, h7, h8, h5⟩
  have hF4 : Fr fm_m168_6v4 M0 M1 := hF0.tr hQ3 rfl
  obtain ⟨v9, e10⟩ : ∃ v, M1 6 4 = v := ⟨_, rfl⟩
  have h11 := bf_6_4 hP2; rw [e10] at h11
  refine wk_ifeq r168_6 ⟨by omega, by omega⟩ ?_ ?_
  · intro h12
    refine wk_c1 r168_32 ?_
    subst hQ; exact wk_zret r168_33 (by decide) (⟨rfl, _, rfl, hP2, hF4, by omega, by omega, by have := e10; omega⟩)
  · intro h13
    refine wk_al0 r168_9 (wk_il1 r168_10 (wk_c1 r168_11 (wk_iadd r168_12 (wk_cv2 r168_13 kc_6_158 rfl (m158_6v5 _ M1 (p1 + 1) hP2 (by omega) (by omega)) (cqI ?_)))))
    rintro v19 M14 ⟨hP15, hQ16, h20, h21, h18⟩
    have hF17 : Fr fm_m168_6v4 M0 M14 := hF4.tr hQ16 rfl
    obtain ⟨v22, e23⟩ : ∃ v, M14 6 4 = v := ⟨_, rfl⟩
    have h24 := bf_6_4 hP15; rw [e23] at h24
    refine wk_ifeq r168_16 ⟨by omega, by omega⟩ ?_ ?_
    · intro h25
      refine wk_c1 r168_32 ?_
      subst hQ; exact wk_zret r168_33 (by decide) (⟨rfl, _, rfl, hP15, hF17, by omega, by omega, by have := e23; omega⟩)
    · intro h26
      refine wk_al0 r168_19 (wk_c2 r168_20 (wk_cv2 r168_22 kc_6_174 rfl (m174_6v1 _ M14 41 hP15 (by decide) (by decide)) (cqI ?_)))
      rintro v32 M27 ⟨hP28, hQ29, h33, h34, h31⟩
      have hF30 : Fr fm_m168_6v4 M0 M27 := hF17.tr hQ29 rfl
      obtain ⟨v35, e36⟩ : ∃ v, M27 6 4 = v := ⟨_, rfl⟩
      have h37 := bf_6_4 hP28; rw [e36] at h37
      refine wk_ifeq r168_25 ⟨by omega, by omega⟩ ?_ ?_
      · intro h38
        refine wk_c1 r168_32 ?_
        subst hQ; exact wk_zret r168_33 (by decide) (⟨rfl, _, rfl, hP28, hF30, by omega, by omega, by have := e36; omega⟩)
      · intro h39
        refine wk_c1 r168_28 (wk_goto r168_29 ?_)
        subst hQ; exact wk_zret r168_33 (by decide) (⟨rfl, _, rfl, hP28, hF30, by omega, by omega, by have := e36; omega⟩)
