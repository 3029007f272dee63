/-! ===== written by program (wip/layer2/all.py): contracts of methods ===== -/
def fm_m74_739 : Nat := 0
/-- IslandHallModel.fitting -/
theorem m74_739 {B : eB} (d : Nat) (M0 : Mm) (hP0 : Pw M0)  : Ct B (d + 3) 74 [R 739] M0 (qI fun z M => Pw M ∧ Fr fm_m74_739 M0 M ∧ 0 ≤ z ∧ z ≤ 3000) := by
  refine ct_of (d := d + 2) (k := 2) (L := [some (R 739), none, none]) rfl rfl rfl ?_
  have hF0 := Fr.rf fm_m74_739 M0
  generalize hQ : (qI fun z M => Pw M ∧ Fr fm_m74_739 M0 M ∧ 0 ≤ z ∧ z ≤ 3000) = Q
  refine wk_c1 r74_0 (wk_is1 r74_1 rfl (wk_c1 r74_2 (wk_is2 r74_3 rfl ?_)))
  have c4_222 : ∀ (k222 : Nat) (v200 : Int) (v203 : Int), (3000 - v203).toNat = k222 → 0 ≤ v200 → v200 ≤ 3000 → 0 ≤ v203 → v203 ≤ 3000 → 0 ≤ (-1) * v200 + v203 + 0 → Wp B (d + 2) 74 4 [some (R 739), some (I v200), some (I v203)] [] M0 Q := by
    refine lp_ind ?_
    intro k222 ih222 v200 v203 hk222 h201 h202 h204 h205 h206
    refine wk_il2 r74_4 (wk_al0 r74_5 (wk_getfb r74_6 fd_739_7 (bf_739_7 hP0) ?_))
    intro v207 h209 h210 e208
    refine wk_icge r74_9 ⟨by omega, by omega⟩ ⟨by omega, by omega⟩ ?_ ?_
    · intro h211
      refine wk_il1 r74_29 ?_
      subst hQ; exact wk_iret r74_30 (⟨rfl, _, rfl, hP0, hF0, by omega, by omega⟩)
    · intro h212
      refine wk_al0 r74_12 (wk_il2 r74_13 (wk_cv2 r74_14 kc_739_83 rfl (m83_739v8 _ M0 v203 hP0 (by omega) (by omega)) (cqI ?_)))
      rintro v217 M213 ⟨hP214, hQ215, h218, h219⟩
      obtain rfl := Fr.same hQ215
      refine wk_ifeq r74_17 ⟨by omega, by omega⟩ ?_ ?_
      · intro h220
        refine wk_inc2 r74_23 rfl (wk_goto r74_26 ?_)
        exact wp_fg (le_s (le_s (le_s le_0))) (ih222 (3000 - (v203 + 1)).toNat (by omega) v200 (v203 + 1) rfl (by omega) (by omega) (by omega) (by omega) (by omega))
      · intro h221
        refine wk_inc1 r74_20 rfl (wk_inc2 r74_23 rfl (wk_goto r74_26 ?_))
        exact wp_fg (le_s (le_s (le_s le_0))) (ih222 (3000 - (v203 + 1)).toNat (by omega) (v200 + 1) (v203 + 1) rfl (by omega) (by omega) (by omega) (by omega) (by omega))
  exact wp_fg (le_s (le_s (le_s le_0))) (c4_222 _ 0 0 rfl (by omega) (by omega) (by omega) (by omega) (by omega))
def fm_m135_739 : Nat := 11692013098647223345629478661730264157247460343808
/-- IslandHallModel.worlds -/
theorem m135_739 {B : eB} (d : Nat) (M0 : Mm) (p1 : Int) (hP0 : Pw M0) (l1 : (-2147483648) ≤ p1) (u1 : p1 ≤ 2147483647) : Ct B (d + 4) 135 [R 739, I p1] M0 (qI fun z M => Pw M ∧ Fr fm_m135_739 M0 M ∧ 0 ≤ z ∧ z ≤ 3000) := by
  refine ct_of (d := d + 3) (k := 0) (L := [some (R 739), some (I p1)]) rfl rfl rfl ?_
  have hF0 := Fr.rf fm_m135_739 M0
  generalize hQ : (qI fun z M => Pw M ∧ Fr fm_m135_739 M0 M ∧ 0 ≤ z ∧ z ≤ 3000) = Q
  refine wk_al0 r135_0 (wk_c1 r135_1 (wk_putfi81 r135_2 fd_739_0 (wk_nw g_739_0 rfl hP0 hF0 (uf_739_0 (by decide)) ?_)))
  intro M1 hP2 hF3 e4
  refine wk_al0 r135_5 (wk_il1 r135_6 ?_)
  have c15_44 : 0 ≤ p1 → p1 ≤ 1 → Wp B (d + 3) 135 15 [some (R 739), some (I p1)] [R 739] M1 Q := by
    intro h19 h20
    refine wk_c1 r135_15 (wk_goto r135_16 (wk_c1 r135_20 (wk_cv3 r135_21 kc_739_123 rfl (m123_739 _ M1 1 1 hP2 (by decide) (by decide) (by decide) (by decide)) (cqI ?_))))
    rintro v26 M21 ⟨hP22, hQ23, h27, h28, h25⟩
    have hF24 : Fr fm_m135_739 M0 M21 := hF3.tr hQ23 rfl
    refine wk_ifne r135_24 ⟨by omega, by omega⟩ ?_ ?_
    · intro h29
      refine wk_il1 r135_29 ?_
      refine wk_ifne r135_30 ⟨by omega, by omega⟩ ?_ ?_
      · intro h30
        refine wk_al0 r135_40 (wk_cv1 r135_41 kc_739_74 rfl (m74_739 _ M21 hP22) (cqI ?_))
        rintro v35 M31 ⟨hP32, hQ33, h36, h37⟩
        obtain rfl := Fr.same hQ33
        subst hQ; exact wk_iret r135_44 (⟨rfl, _, rfl, hP22, hF24, by omega, by omega⟩)
      · intro h38
        refine wk_al0 r135_33 (wk_getfb r135_34 fd_739_7 (bf_739_7 hP22) ?_)
        intro v39 h41 h42 e40
        refine wk_goto r135_37 ?_
        subst hQ; exact wk_iret r135_44 (⟨rfl, _, rfl, hP22, hF24, by omega, by omega⟩)
    · intro h43
      refine wk_c1 r135_27 ?_
      subst hQ; exact wk_iret r135_28 (⟨rfl, _, rfl, hP22, hF24, by omega, by omega⟩)
  refine wk_ifeq r135_7 ⟨by omega, by omega⟩ ?_ ?_
  · intro h5
    exact wp_fg (le_s (le_s le_0)) (c15_44 (by omega) (by omega))
  · intro h6
    refine wk_il1 r135_10 (wk_c1 r135_11 ?_)
    refine wk_icne r135_12 ⟨by omega, by omega⟩ (by decide) ?_ ?_
    · intro h7
      refine wk_c1 r135_19 (wk_c1 r135_20 (wk_cv3 r135_21 kc_739_123 rfl (m123_739 _ M1 0 1 hP2 (by decide) (by decide) (by decide) (by decide)) (cqI ?_)))
      rintro v13 M8 ⟨hP9, hQ10, h14, h15, h12⟩
      have hF11 : Fr fm_m135_739 M0 M8 := hF3.tr hQ10 rfl
      refine wk_ifne r135_24 ⟨by omega, by omega⟩ ?_ ?_
      · intro h16
        exfalso
        omega
      · intro h17
        refine wk_c1 r135_27 ?_
        subst hQ; exact wk_iret r135_28 (⟨rfl, _, rfl, hP9, hF11, by omega, by omega⟩)
    · intro h18
      exact wp_fg (le_s (le_s le_0)) (c15_44 (by omega) (by omega))
def fm_m73_739 : Nat := 0
/-- IslandHallModel.fitAt -/
theorem m73_739 {B : eB} (d : Nat) (M0 : Mm) (p1 : Int) (hP0 : Pw M0) (l1 : (-2147483648) ≤ p1) (u1 : p1 ≤ 2147483647) : Ct B (d + 3) 73 [R 739, I p1] M0 (qI fun z M => Pw M ∧ Fr fm_m73_739 M0 M ∧ (-1) ≤ z ∧ z ≤ 2999) := by
  refine ct_of (d := d + 2) (k := 2) (L := [some (R 739), some (I p1), none, none]) rfl rfl rfl ?_
  have hF0 := Fr.rf fm_m73_739 M0
  generalize hQ : (qI fun z M => Pw M ∧ Fr fm_m73_739 M0 M ∧ (-1) ≤ z ∧ z ≤ 2999) = Q
  refine wk_il1 r73_0 (wk_is2 r73_1 rfl (wk_c1 r73_2 (wk_is3 r73_3 rfl ?_)))
  have c4_261 : ∀ (k261 : Nat) (v235 : Int) (v238 : Int), (3000 - v238).toNat = k261 → (-2147483648) ≤ v235 → v235 ≤ 2147483647 → 0 ≤ v238 → v238 ≤ 3000 → (v235 = p1 ∨ 0 ≤ v235) → Wp B (d + 2) 73 4 [some (R 739), some (I p1), some (I v235), some (I v238)] [] M0 Q := by
    refine lp_ind ?_
    intro k261 ih261 v235 v238 hk261 h236 h237 h239 h240 ti241
    refine wk_il3 r73_4 (wk_al0 r73_5 (wk_getfb r73_6 fd_739_7 (bf_739_7 hP0) ?_))
    intro v242 h244 h245 e243
    refine wk_icge r73_9 ⟨by omega, by omega⟩ ⟨by omega, by omega⟩ ?_ ?_
    · intro h246
      refine wk_c1 r73_42 ?_
      subst hQ; exact wk_iret r73_43 (⟨rfl, _, rfl, hP0, hF0, by omega, by omega⟩)
    · intro h247
      refine wk_il1 r73_12 ?_
      refine wk_iflt r73_13 ⟨by omega, by omega⟩ ?_ ?_
      · intro h248
        refine wk_c1 r73_42 ?_
        subst hQ; exact wk_iret r73_43 (⟨rfl, _, rfl, hP0, hF0, by omega, by omega⟩)
      · intro h249
        refine wk_al0 r73_16 (wk_il3 r73_17 (wk_cv2 r73_18 kc_739_83 rfl (m83_739v8 _ M0 v238 hP0 (by omega) (by omega)) (cqI ?_)))
        rintro v254 M250 ⟨hP251, hQ252, h255, h256⟩
        obtain rfl := Fr.same hQ252
        refine wk_ifne r73_21 ⟨by omega, by omega⟩ ?_ ?_
        · intro h257
          refine wk_il2 r73_27 ?_
          refine wk_ifne r73_28 ⟨by omega, by omega⟩ ?_ ?_
          · intro h258
            refine wk_inc2 r73_33 rfl (wk_inc3 r73_36 rfl (wk_goto r73_39 ?_))
            exact wp_fg (le_s (le_s (le_s (le_s le_0)))) (ih261 (3000 - (v238 + 1)).toNat (by omega) (v235 + (-1)) (v238 + 1) rfl (by omega) (by omega) (by omega) (by omega) (Or.inr (by omega)))
          · intro h259
            refine wk_il3 r73_31 ?_
            subst hQ; exact wk_iret r73_32 (⟨rfl, _, rfl, hP0, hF0, by omega, by omega⟩)
        · intro h260
          refine wk_goto r73_24 (wk_inc3 r73_36 rfl (wk_goto r73_39 ?_))
          exact wp_fg (le_s (le_s (le_s (le_s le_0)))) (ih261 (3000 - (v238 + 1)).toNat (by omega) v235 (v238 + 1) rfl (by omega) (by omega) (by omega) (by omega) (Or.inr (by omega)))
  exact wp_fg (le_s (le_s (le_s (le_s le_0)))) (c4_261 _ p1 0 rfl (by omega) (by omega) (by omega) (by omega) (Or.inl rfl))
def fm_m134_739 : Nat := 11692013098647223345629478661730264157247460343808
/-- IslandHallModel.world -/
theorem m134_739 {B : eB} (d : Nat) (M0 : Mm) (p1 : Int) (p2 : Int) (hP0 : Pw M0) (l1 : (-2147483648) ≤ p1) (u1 : p1 ≤ 2147483647) (l2 : (-2147483648) ≤ p2) (u2 : p2 ≤ 2147483647) : Ct B (d + 4) 134 [R 739, I p1, I p2] M0 (qI fun z M => Pw M ∧ Fr fm_m134_739 M0 M ∧ 0 ≤ z ∧ z ≤ 7) := by
  refine ct_of (d := d + 3) (k := 2) (L := [some (R 739), some (I p1), some (I p2), none, none]) rfl rfl rfl ?_
  have hF0 := Fr.rf fm_m134_739 M0
  generalize hQ : (qI fun z M => Pw M ∧ Fr fm_m134_739 M0 M ∧ 0 ≤ z ∧ z ≤ 7) = Q
  refine wk_al0 r134_0 (wk_c1 r134_1 (wk_putfi81 r134_2 fd_739_0 (wk_nw g_739_0 rfl hP0 hF0 (uf_739_0 (by decide)) ?_)))
  intro M1 hP2 hF3 e4
  refine wk_al0 r134_5 (wk_il1 r134_6 (wk_cv2 r134_7 kc_739_73 rfl (m73_739 _ M1 p1 hP2 (by omega) (by omega)) (cqI ?_)))
  rintro v9 M5 ⟨hP6, hQ7, h10, h11⟩
  obtain rfl := Fr.same hQ7
  refine wk_is3 r134_10 rfl (wk_il2 r134_11 ?_)
  refine wk_iflt r134_12 ⟨by omega, by omega⟩ ?_ ?_
  · intro h12
    refine wk_il2 r134_23 (wk_c2 r134_24 ?_)
    refine wk_iclt r134_26 ⟨by omega, by omega⟩ (by decide) ?_ ?_
    · intro h13
      refine wk_il2 r134_40 (wk_c2 r134_41 ?_)
      refine wk_iclt r134_43 ⟨by omega, by omega⟩ (by decide) ?_ ?_
      · intro h14
        refine wk_c1 r134_56 (wk_is4 r134_57 rfl (wk_al0 r134_59 (wk_il3 r134_60 (wk_c1 r134_61 ?_))))
        refine wk_iceq r134_62 ⟨by omega, by omega⟩ (by decide) ?_ ?_
        · intro h15
          refine wk_c1 r134_74 (wk_c1 r134_75 (wk_cv3 r134_76 kc_739_123 rfl (m123_739 _ M1 0 1 hP2 (by decide) (by decide) (by decide) (by decide)) (cqI ?_)))
          rintro v21 M16 ⟨hP17, hQ18, h22, h23, h20⟩
          have hF19 : Fr fm_m134_739 M0 M16 := hF3.tr hQ18 rfl
          refine wk_ifne r134_79 ⟨by omega, by omega⟩ ?_ ?_
          · intro h24
            exfalso
            omega
          · intro h25
            refine wk_c1 r134_82 ?_
            subst hQ; exact wk_iret r134_83 (⟨rfl, _, rfl, hP17, hF19, by omega, by omega⟩)
        · intro h26
          refine wk_il4 r134_65 ?_
          refine wk_ifeq r134_67 (by decide) ?_ ?_
          · intro h27
            refine wk_c1 r134_74 (wk_c1 r134_75 (wk_cv3 r134_76 kc_739_123 rfl (m123_739 _ M1 0 1 hP2 (by decide) (by decide) (by decide) (by decide)) (cqI ?_)))
            rintro v33 M28 ⟨hP29, hQ30, h34, h35, h32⟩
            have hF31 : Fr fm_m134_739 M0 M28 := hF3.tr hQ30 rfl
            refine wk_ifne r134_79 ⟨by omega, by omega⟩ ?_ ?_
            · intro h36
              exfalso
              omega
            · intro h37
              refine wk_c1 r134_82 ?_
              subst hQ; exact wk_iret r134_83 (⟨rfl, _, rfl, hP29, hF31, by omega, by omega⟩)
          · intro h38
            exfalso
            omega
      · intro h39
        exfalso
        omega
    · intro h40
      exfalso
      omega
  · intro h41
    refine wk_il2 r134_15 (wk_al0 r134_16 (wk_getfb r134_17 fd_739_1 (bf_739_1 hP2) ?_))
    intro v42 h44 h45 e43
    refine wk_iclt r134_20 ⟨by omega, by omega⟩ ⟨by omega, by omega⟩ ?_ ?_
    · intro h46
      refine wk_c1 r134_52 (wk_goto r134_53 (wk_is4 r134_57 rfl (wk_al0 r134_59 (wk_il3 r134_60 (wk_c1 r134_61 ?_)))))
      refine wk_iceq r134_62 ⟨by omega, by omega⟩ (by decide) ?_ ?_
      · intro h47
        refine wk_c1 r134_74 (wk_c1 r134_75 (wk_cv3 r134_76 kc_739_123 rfl (m123_739 _ M1 0 1 hP2 (by decide) (by decide) (by decide) (by decide)) (cqI ?_)))
        rintro v53 M48 ⟨hP49, hQ50, h54, h55, h52⟩
        have hF51 : Fr fm_m134_739 M0 M48 := hF3.tr hQ50 rfl
        refine wk_ifne r134_79 ⟨by omega, by omega⟩ ?_ ?_
        · intro h56
          exfalso
          omega
        · intro h57
          refine wk_c1 r134_82 ?_
          subst hQ; exact wk_iret r134_83 (⟨rfl, _, rfl, hP49, hF51, by omega, by omega⟩)
      · intro h58
        refine wk_il4 r134_65 ?_
        refine wk_ifeq r134_67 (by decide) ?_ ?_
        · intro h59
          exfalso
          omega
        · intro h60
          refine wk_c1 r134_70 (wk_goto r134_71 (wk_c1 r134_75 (wk_cv3 r134_76 kc_739_123 rfl (m123_739 _ M1 1 1 hP2 (by decide) (by decide) (by decide) (by decide)) (cqI ?_))))
          rintro v66 M61 ⟨hP62, hQ63, h67, h68, h65⟩
          have hF64 : Fr fm_m134_739 M0 M61 := hF3.tr hQ63 rfl
          refine wk_ifne r134_79 ⟨by omega, by omega⟩ ?_ ?_
          · intro h69
            refine wk_il2 r134_84 (wk_c2 r134_85 ?_)
            refine wk_icge r134_87 ⟨by omega, by omega⟩ (by decide) ?_ ?_
            · intro h70
              exfalso
              omega
            · intro h71
              refine wk_al0 r134_90 (wk_il3 r134_91 (wk_il2 r134_92 (wk_cv3 r134_93 kc_739_94 rfl (m94_739v8 _ M61 v9 p2 hP62 (by omega) (by omega) (by omega) (by omega)) (cqI ?_))))
              rintro v76 M72 ⟨hP73, hQ74, h77, h78⟩
              obtain rfl := Fr.same hQ74
              subst hQ; exact wk_iret r134_96 (⟨rfl, _, rfl, hP62, hF64, by omega, by omega⟩)
          · intro h79
            refine wk_c1 r134_82 ?_
            subst hQ; exact wk_iret r134_83 (⟨rfl, _, rfl, hP62, hF64, by omega, by omega⟩)
    · intro h80
      refine wk_il2 r134_23 (wk_c2 r134_24 ?_)
      refine wk_iclt r134_26 ⟨by omega, by omega⟩ (by decide) ?_ ?_
      · intro h81
        refine wk_il2 r134_40 (wk_c2 r134_41 ?_)
        refine wk_iclt r134_43 ⟨by omega, by omega⟩ (by decide) ?_ ?_
        · intro h82
          refine wk_c1 r134_56 (wk_is4 r134_57 rfl (wk_al0 r134_59 (wk_il3 r134_60 (wk_c1 r134_61 ?_))))
          refine wk_iceq r134_62 ⟨by omega, by omega⟩ (by decide) ?_ ?_
          · intro h83
            refine wk_c1 r134_74 (wk_c1 r134_75 (wk_cv3 r134_76 kc_739_123 rfl (m123_739 _ M1 0 1 hP2 (by decide) (by decide) (by decide) (by decide)) (cqI ?_)))
            rintro v89 M84 ⟨hP85, hQ86, h90, h91, h88⟩
            have hF87 : Fr fm_m134_739 M0 M84 := hF3.tr hQ86 rfl
            refine wk_ifne r134_79 ⟨by omega, by omega⟩ ?_ ?_
            · intro h92
              exfalso
              omega
            · intro h93
              refine wk_c1 r134_82 ?_
              subst hQ; exact wk_iret r134_83 (⟨rfl, _, rfl, hP85, hF87, by omega, by omega⟩)
          · intro h94
            refine wk_il4 r134_65 ?_
            refine wk_ifeq r134_67 (by decide) ?_ ?_
            · intro h95
              refine wk_c1 r134_74 (wk_c1 r134_75 (wk_cv3 r134_76 kc_739_123 rfl (m123_739 _ M1 0 1 hP2 (by decide) (by decide) (by decide) (by decide)) (cqI ?_)))
              rintro v101 M96 ⟨hP97, hQ98, h102, h103, h100⟩
              have hF99 : Fr fm_m134_739 M0 M96 := hF3.tr hQ98 rfl
              refine wk_ifne r134_79 ⟨by omega, by omega⟩ ?_ ?_
              · intro h104
                exfalso
                omega
              · intro h105
                refine wk_c1 r134_82 ?_
                subst hQ; exact wk_iret r134_83 (⟨rfl, _, rfl, hP97, hF99, by omega, by omega⟩)
            · intro h106
              exfalso
              omega
        · intro h107
          exfalso
          omega
      · intro h108
        refine wk_il2 r134_29 (wk_c2 r134_30 (wk_al0 r134_32 (wk_getfi r134_33 fd_739_1 e43 (wk_iadd r134_36 ?_))))
        refine wk_iclt r134_37 ⟨by omega, by omega⟩ ⟨by omega, by omega⟩ ?_ ?_
        · intro h109
          refine wk_c1 r134_52 (wk_goto r134_53 (wk_is4 r134_57 rfl (wk_al0 r134_59 (wk_il3 r134_60 (wk_c1 r134_61 ?_)))))
          refine wk_iceq r134_62 ⟨by omega, by omega⟩ (by decide) ?_ ?_
          · intro h110
            refine wk_c1 r134_74 (wk_c1 r134_75 (wk_cv3 r134_76 kc_739_123 rfl (m123_739 _ M1 0 1 hP2 (by decide) (by decide) (by decide) (by decide)) (cqI ?_)))
            rintro v116 M111 ⟨hP112, hQ113, h117, h118, h115⟩
            have hF114 : Fr fm_m134_739 M0 M111 := hF3.tr hQ113 rfl
            refine wk_ifne r134_79 ⟨by omega, by omega⟩ ?_ ?_
            · intro h119
              exfalso
              omega
            · intro h120
              refine wk_c1 r134_82 ?_
              subst hQ; exact wk_iret r134_83 (⟨rfl, _, rfl, hP112, hF114, by omega, by omega⟩)
          · intro h121
            refine wk_il4 r134_65 ?_
            refine wk_ifeq r134_67 (by decide) ?_ ?_
            · intro h122
              exfalso
              omega
            · intro h123
              refine wk_c1 r134_70 (wk_goto r134_71 (wk_c1 r134_75 (wk_cv3 r134_76 kc_739_123 rfl (m123_739 _ M1 1 1 hP2 (by decide) (by decide) (by decide) (by decide)) (cqI ?_))))
              rintro v129 M124 ⟨hP125, hQ126, h130, h131, h128⟩
              have hF127 : Fr fm_m134_739 M0 M124 := hF3.tr hQ126 rfl
              refine wk_ifne r134_79 ⟨by omega, by omega⟩ ?_ ?_
              · intro h132
                refine wk_il2 r134_84 (wk_c2 r134_85 ?_)
                refine wk_icge r134_87 ⟨by omega, by omega⟩ (by decide) ?_ ?_
                · intro h133
                  refine wk_il2 r134_97 (wk_c2 r134_98 ?_)
                  refine wk_icge r134_100 ⟨by omega, by omega⟩ (by decide) ?_ ?_
                  · intro h134
                    exfalso
                    omega
                  · intro h135
                    refine wk_al0 r134_103 (wk_getfr r134_104 fd_739_9 (br_739_9 hP125) (wk_il3 r134_107 (wk_ialdb r134_108 ar_743 ⟨by omega, by omega⟩ (fun q0 q1 => ba_743 hP125 q0 q1) ?_)))
                    intro v136 h138 h139 e137
                    refine wk_il2 r134_109 (wk_c2 r134_110 (wk_isub r134_112 (wk_shrb r134_113 ⟨by omega, by omega⟩ ⟨by omega, by omega⟩ ?_)))
                    intro v140 h141 h142 h143
                    refine wk_c1 r134_114 (wk_iandc 1 2 r134_115 ⟨rfl, by decide⟩ rfl ?_)
                    subst hQ; exact wk_iret r134_116 (⟨rfl, _, rfl, hP125, hF127, by omega, by omega⟩)
                · intro h145
                  exfalso
                  omega
              · intro h146
                refine wk_c1 r134_82 ?_
                subst hQ; exact wk_iret r134_83 (⟨rfl, _, rfl, hP125, hF127, by omega, by omega⟩)
        · intro h147
          refine wk_il2 r134_40 (wk_c2 r134_41 ?_)
          refine wk_iclt r134_43 ⟨by omega, by omega⟩ (by decide) ?_ ?_
          · intro h148
            refine wk_c1 r134_56 (wk_is4 r134_57 rfl (wk_al0 r134_59 (wk_il3 r134_60 (wk_c1 r134_61 ?_))))
            refine wk_iceq r134_62 ⟨by omega, by omega⟩ (by decide) ?_ ?_
            · intro h149
              refine wk_c1 r134_74 (wk_c1 r134_75 (wk_cv3 r134_76 kc_739_123 rfl (m123_739 _ M1 0 1 hP2 (by decide) (by decide) (by decide) (by decide)) (cqI ?_)))
              rintro v155 M150 ⟨hP151, hQ152, h156, h157, h154⟩
              have hF153 : Fr fm_m134_739 M0 M150 := hF3.tr hQ152 rfl
              refine wk_ifne r134_79 ⟨by omega, by omega⟩ ?_ ?_
              · intro h158
                exfalso
                omega
              · intro h159
                refine wk_c1 r134_82 ?_
                subst hQ; exact wk_iret r134_83 (⟨rfl, _, rfl, hP151, hF153, by omega, by omega⟩)
            · intro h160
              refine wk_il4 r134_65 ?_
              refine wk_ifeq r134_67 (by decide) ?_ ?_
              · intro h161
                refine wk_c1 r134_74 (wk_c1 r134_75 (wk_cv3 r134_76 kc_739_123 rfl (m123_739 _ M1 0 1 hP2 (by decide) (by decide) (by decide) (by decide)) (cqI ?_)))
                rintro v167 M162 ⟨hP163, hQ164, h168, h169, h166⟩
                have hF165 : Fr fm_m134_739 M0 M162 := hF3.tr hQ164 rfl
                refine wk_ifne r134_79 ⟨by omega, by omega⟩ ?_ ?_
                · intro h170
                  exfalso
                  omega
                · intro h171
                  refine wk_c1 r134_82 ?_
                  subst hQ; exact wk_iret r134_83 (⟨rfl, _, rfl, hP163, hF165, by omega, by omega⟩)
              · intro h172
                exfalso
                omega
          · intro h173
            refine wk_il2 r134_46 (wk_c2 r134_47 ?_)
            refine wk_icgt r134_49 ⟨by omega, by omega⟩ (by decide) ?_ ?_
            · intro h174
              refine wk_c1 r134_56 (wk_is4 r134_57 rfl (wk_al0 r134_59 (wk_il3 r134_60 (wk_c1 r134_61 ?_))))
              refine wk_iceq r134_62 ⟨by omega, by omega⟩ (by decide) ?_ ?_
              · intro h175
                refine wk_c1 r134_74 (wk_c1 r134_75 (wk_cv3 r134_76 kc_739_123 rfl (m123_739 _ M1 0 1 hP2 (by decide) (by decide) (by decide) (by decide)) (cqI ?_)))
                rintro v181 M176 ⟨hP177, hQ178, h182, h183, h180⟩
                have hF179 : Fr fm_m134_739 M0 M176 := hF3.tr hQ178 rfl
                refine wk_ifne r134_79 ⟨by omega, by omega⟩ ?_ ?_
                · intro h184
                  exfalso
                  omega
                · intro h185
                  refine wk_c1 r134_82 ?_
                  subst hQ; exact wk_iret r134_83 (⟨rfl, _, rfl, hP177, hF179, by omega, by omega⟩)
              · intro h186
                refine wk_il4 r134_65 ?_
                refine wk_ifeq r134_67 (by decide) ?_ ?_
                · intro h187
                  refine wk_c1 r134_74 (wk_c1 r134_75 (wk_cv3 r134_76 kc_739_123 rfl (m123_739 _ M1 0 1 hP2 (by decide) (by decide) (by decide) (by decide)) (cqI ?_)))
                  rintro v193 M188 ⟨hP189, hQ190, h194, h195, h192⟩
                  have hF191 : Fr fm_m134_739 M0 M188 := hF3.tr hQ190 rfl
                  refine wk_ifne r134_79 ⟨by omega, by omega⟩ ?_ ?_
                  · intro h196
                    exfalso
                    omega
                  · intro h197
                    refine wk_c1 r134_82 ?_
                    subst hQ; exact wk_iret r134_83 (⟨rfl, _, rfl, hP189, hF191, by omega, by omega⟩)
                · intro h198
                  exfalso
                  omega
            · intro h199
              refine wk_c1 r134_52 (wk_goto r134_53 (wk_is4 r134_57 rfl (wk_al0 r134_59 (wk_il3 r134_60 (wk_c1 r134_61 ?_)))))
              refine wk_iceq r134_62 ⟨by omega, by omega⟩ (by decide) ?_ ?_
              · intro h200
                refine wk_c1 r134_74 (wk_c1 r134_75 (wk_cv3 r134_76 kc_739_123 rfl (m123_739 _ M1 0 1 hP2 (by decide) (by decide) (by decide) (by decide)) (cqI ?_)))
                rintro v206 M201 ⟨hP202, hQ203, h207, h208, h205⟩
                have hF204 : Fr fm_m134_739 M0 M201 := hF3.tr hQ203 rfl
                refine wk_ifne r134_79 ⟨by omega, by omega⟩ ?_ ?_
                · intro h209
                  exfalso
                  omega
                · intro h210
                  refine wk_c1 r134_82 ?_
                  subst hQ; exact wk_iret r134_83 (⟨rfl, _, rfl, hP202, hF204, by omega, by omega⟩)
              · intro h211
                refine wk_il4 r134_65 ?_
                refine wk_ifeq r134_67 (by decide) ?_ ?_
                · intro h212
                  exfalso
                  omega
                · intro h213
                  refine wk_c1 r134_70 (wk_goto r134_71 (wk_c1 r134_75 (wk_cv3 r134_76 kc_739_123 rfl (m123_739 _ M1 1 1 hP2 (by decide) (by decide) (by decide) (by decide)) (cqI ?_))))
                  rintro v219 M214 ⟨hP215, hQ216, h220, h221, h218⟩
                  have hF217 : Fr fm_m134_739 M0 M214 := hF3.tr hQ216 rfl
                  refine wk_ifne r134_79 ⟨by omega, by omega⟩ ?_ ?_
                  · intro h222
                    refine wk_il2 r134_84 (wk_c2 r134_85 ?_)
                    refine wk_icge r134_87 ⟨by omega, by omega⟩ (by decide) ?_ ?_
                    · intro h223
                      refine wk_il2 r134_97 (wk_c2 r134_98 ?_)
                      refine wk_icge r134_100 ⟨by omega, by omega⟩ (by decide) ?_ ?_
                      · intro h224
                        refine wk_il2 r134_117 (wk_c2 r134_118 ?_)
                        refine wk_icne r134_120 ⟨by omega, by omega⟩ (by decide) ?_ ?_
                        · intro h225
                          refine wk_il2 r134_132 (wk_c2 r134_133 ?_)
                          refine wk_icne r134_135 ⟨by omega, by omega⟩ (by decide) ?_ ?_
                          · intro h226
                            refine wk_al0 r134_147 (wk_getfr r134_148 fd_739_12 (br_739_12 hP215) (wk_il3 r134_151 (wk_ialdb r134_152 ar_746 ⟨by omega, by omega⟩ (fun q0 q1 => ba_746 hP215 q0 q1) ?_)))
                            intro v227 h229 h230 e228
                            subst hQ; exact wk_iret r134_153 (⟨rfl, _, rfl, hP215, hF217, by omega, by omega⟩)
                          · intro h231
                            refine wk_al0 r134_138 (wk_getfr r134_139 fd_739_11 (br_739_11 hP215) (wk_il3 r134_142 (wk_ialdb r134_143 ar_745 ⟨by omega, by omega⟩ (fun q0 q1 => ba_745 hP215 q0 q1) ?_)))
                            intro v232 h234 h235 e233
                            refine wk_goto r134_144 ?_
                            subst hQ; exact wk_iret r134_153 (⟨rfl, _, rfl, hP215, hF217, by omega, by omega⟩)
                        · intro h236
                          refine wk_al0 r134_123 (wk_getfr r134_124 fd_739_10 (br_739_10 hP215) (wk_il3 r134_127 (wk_ialdb r134_128 ar_744 ⟨by omega, by omega⟩ (fun q0 q1 => ba_744 hP215 q0 q1) ?_)))
                          intro v237 h239 h240 e238
                          refine wk_goto r134_129 ?_
                          subst hQ; exact wk_iret r134_153 (⟨rfl, _, rfl, hP215, hF217, by omega, by omega⟩)
                      · intro h241
                        exfalso
                        omega
                    · intro h242
                      exfalso
                      omega
                  · intro h243
                    refine wk_c1 r134_82 ?_
                    subst hQ; exact wk_iret r134_83 (⟨rfl, _, rfl, hP215, hF217, by omega, by omega⟩)
def fm_m81_739 : Nat := 0
/-- IslandHallModel.isAnswer -/
theorem m81_739 {B : eB} (d : Nat) (M0 : Mm) (p1 : Int) (hP0 : Pw M0) (l1 : 0 ≤ p1) (u1 : p1 ≤ 2097151) : Ct B (d + 1) 81 [R 739, I p1] M0 (qI fun z M => Pw M ∧ Fr fm_m81_739 M0 M ∧ 0 ≤ z ∧ z ≤ 1) := by
  refine ct_of (d := d + 0) (k := 2) (L := [some (R 739), some (I p1), none, none]) rfl rfl rfl ?_
  have hF0 := Fr.rf fm_m81_739 M0
  generalize hQ : (qI fun z M => Pw M ∧ Fr fm_m81_739 M0 M ∧ 0 ≤ z ∧ z ≤ 1) = Q
  refine wk_c1 r81_0 (wk_is2 r81_1 rfl (wk_c1 r81_2 (wk_is3 r81_3 rfl ?_)))
  have c4_212 : ∀ (k212 : Nat) (v191 : Int) (v194 : Int), (3000 - v194).toNat = k212 → 0 ≤ v191 → v191 ≤ 1 → 0 ≤ v194 → v194 ≤ 3000 → 0 ≤ (-1) * v191 + v194 + 0 → Wp B (d + 0) 81 4 [some (R 739), some (I p1), some (I v191), some (I v194)] [] M0 Q := by
    refine lp_ind ?_
    intro k212 ih212 v191 v194 hk212 h192 h193 h195 h196 h197
    refine wk_il3 r81_4 (wk_al0 r81_5 (wk_getfb r81_6 fd_739_55 (bf_739_55 hP0) ?_))
    intro v198 h200 h201 e199
    refine wk_icge r81_9 ⟨by omega, by omega⟩ ⟨by omega, by omega⟩ ?_ ?_
    · intro h202
      refine wk_il2 r81_38 ?_
      subst hQ; exact wk_zret r81_39 ⟨by omega, by omega⟩ (⟨rfl, _, rfl, hP0, hF0, by omega, by omega⟩)
    · intro h203
      refine wk_il2 r81_12 ?_
      refine wk_ifne r81_13 ⟨by omega, by omega⟩ ?_ ?_
      · intro h204
        refine wk_il2 r81_38 ?_
        subst hQ; exact wk_zret r81_39 ⟨by omega, by omega⟩ (⟨rfl, _, rfl, hP0, hF0, by omega, by omega⟩)
      · intro h205
        refine wk_al0 r81_16 (wk_getfr r81_17 fd_739_56 (br_739_56 hP0) (wk_il3 r81_20 (wk_ialdb r81_21 ar_761 ⟨by omega, by omega⟩ (fun q0 q1 => ba_761 hP0 q0 q1) ?_)))
        intro v206 h208 h209 e207
        refine wk_il1 r81_22 ?_
        refine wk_icne r81_23 ⟨by omega, by omega⟩ ⟨by omega, by omega⟩ ?_ ?_
        · intro h210
          refine wk_c1 r81_30 (wk_is2 r81_31 rfl (wk_inc3 r81_32 rfl (wk_goto r81_35 ?_)))
          exact wp_fg (le_s (le_s (le_s (le_s le_0)))) (ih212 (3000 - (v194 + 1)).toNat (by omega) 0 (v194 + 1) rfl (by omega) (by omega) (by omega) (by omega) (by omega))
        · intro h211
          refine wk_c1 r81_26 (wk_goto r81_27 (wk_is2 r81_31 rfl (wk_inc3 r81_32 rfl (wk_goto r81_35 ?_))))
          exact wp_fg (le_s (le_s (le_s (le_s le_0)))) (ih212 (3000 - (v194 + 1)).toNat (by omega) 1 (v194 + 1) rfl (by omega) (by omega) (by omega) (by omega) (by omega))
  exact wp_fg (le_s (le_s (le_s (le_s le_0)))) (c4_212 _ 0 0 rfl (by omega) (by omega) (by omega) (by omega) (by omega))
def fm_m45_739v7 : Nat := 0
/-- IslandHallModel.answer -/
theorem m45_739v7 {B : eB} (d : Nat) (M0 : Mm) (p1 : Int) (p2 : Int) (hP0 : Pw M0) (l1 : 0 ≤ p1) (u1 : p1 ≤ 2999) (l2 : 0 ≤ p2) (u2 : p2 ≤ 3) : Ct B (d + 1) 45 [R 739, I p1, I p2] M0 (qI fun z M => Pw M ∧ Fr fm_m45_739v7 M0 M ∧ 0 ≤ z ∧ z ≤ 2097151) := by
  refine ct_of (d := d + 0) (k := 0) (L := [some (R 739), some (I p1), some (I p2)]) rfl rfl rfl ?_
  have hF0 := Fr.rf fm_m45_739v7 M0
  generalize hQ : (qI fun z M => Pw M ∧ Fr fm_m45_739v7 M0 M ∧ 0 ≤ z ∧ z ≤ 2097151) = Q
  refine wk_il2 r45_0 ?_
  refine wk_ifne r45_1 ⟨by omega, by omega⟩ ?_ ?_
  · intro h1
    refine wk_il2 r45_13 (wk_c1 r45_14 ?_)
    refine wk_icne r45_15 ⟨by omega, by omega⟩ (by decide) ?_ ?_
    · intro h2
      refine wk_il2 r45_27 (wk_c1 r45_28 ?_)
      refine wk_icne r45_29 ⟨by omega, by omega⟩ (by decide) ?_ ?_
      · intro h3
        refine wk_al0 r45_41 (wk_getfr r45_42 fd_739_12 (br_739_12 hP0) (wk_il1 r45_45 (wk_ialdb r45_46 ar_746 ⟨by omega, by omega⟩ (fun q0 q1 => ba_746 hP0 q0 q1) ?_)))
        intro v4 h6 h7 e5
        subst hQ; exact wk_iret r45_47 (⟨rfl, _, rfl, hP0, hF0, by omega, by omega⟩)
      · intro h8
        refine wk_al0 r45_32 (wk_getfr r45_33 fd_739_11 (br_739_11 hP0) (wk_il1 r45_36 (wk_ialdb r45_37 ar_745 ⟨by omega, by omega⟩ (fun q0 q1 => ba_745 hP0 q0 q1) ?_)))
        intro v9 h11 h12 e10
        refine wk_goto r45_38 ?_
        subst hQ; exact wk_iret r45_47 (⟨rfl, _, rfl, hP0, hF0, by omega, by omega⟩)
    · intro h13
      refine wk_al0 r45_18 (wk_getfr r45_19 fd_739_10 (br_739_10 hP0) (wk_il1 r45_22 (wk_ialdb r45_23 ar_744 ⟨by omega, by omega⟩ (fun q0 q1 => ba_744 hP0 q0 q1) ?_)))
      intro v14 h16 h17 e15
      refine wk_goto r45_24 ?_
      subst hQ; exact wk_iret r45_47 (⟨rfl, _, rfl, hP0, hF0, by omega, by omega⟩)
  · intro h18
    refine wk_al0 r45_4 (wk_getfr r45_5 fd_739_8 (br_739_8 hP0) (wk_il1 r45_8 (wk_ialdb r45_9 ar_742 ⟨by omega, by omega⟩ (fun q0 q1 => ba_742 hP0 q0 q1) ?_)))
    intro v19 h21 h22 e20
    refine wk_goto r45_10 ?_
    subst hQ; exact wk_iret r45_47 (⟨rfl, _, rfl, hP0, hF0, by omega, by omega⟩)
def fm_m75_739 : Nat := 7237005577753511380647415309834666351564055770878115634068295445511814512640
/-- IslandHallModel.gathers -/
theorem m75_739 {B : eB} (d : Nat) (M0 : Mm) (p1 : Int) (hP0 : Pw M0) (l1 : 0 ≤ p1) (u1 : p1 ≤ 3) : Ct B (d + 3) 75 [R 739, I p1] M0 (qV fun M => Pw M ∧ Fr fm_m75_739 M0 M) := by
  refine ct_of (d := d + 2) (k := 1) (L := [some (R 739), some (I p1), none]) rfl rfl rfl ?_
  have hF0 := Fr.rf fm_m75_739 M0
  generalize hQ : (qV fun M => Pw M ∧ Fr fm_m75_739 M0 M) = Q
  refine wk_al0 r75_0 (wk_c1 r75_1 (wk_putfi81 r75_2 fd_739_55 (wk_nw g_739_55 rfl hP0 hF0 (uf_739_55 (by decide)) ?_)))
  intro M1 hP2 hF3 e4
  refine wk_c1 r75_5 (wk_is2 r75_6 rfl ?_)
  have c7_572 : ∀ (k572 : Nat) (M518 : Mm) (v515 : Int) (v521 : Int), (3000 - v515).toNat = k572 → Pw M518 → Fr fm_m75_739 M0 M518 → M518 739 55 = v521 → 0 ≤ v515 → v515 ≤ 3000 → 0 ≤ v521 → v521 ≤ 3000 → 0 ≤ (-1) * v521 + v515 + 0 → Wp B (d + 2) 75 7 [some (R 739), some (I p1), some (I v515)] [] M518 Q := by
    refine lp_ind ?_
    intro k572 ih572 M518 v515 v521 hk572 hP519 hF520 e524 h516 h517 h522 h523 h525
    refine wk_il2 r75_7 (wk_al0 r75_8 (wk_getfb r75_9 fd_739_7 (bf_739_7 hP519) ?_))
    intro v526 h528 h529 e527
    refine wk_icge r75_12 ⟨by omega, by omega⟩ ⟨by omega, by omega⟩ ?_ ?_
    · intro h530
      subst hQ; exact wk_ret r75_70 (⟨rfl, hP519, hF520⟩)
    · intro h531
      refine wk_al0 r75_15 (wk_il2 r75_16 (wk_cv2 r75_17 kc_739_83 rfl (m83_739v8 _ M518 v515 hP519 (by omega) (by omega)) (cqI ?_)))
      rintro v536 M532 ⟨hP533, hQ534, h537, h538⟩
      obtain rfl := Fr.same hQ534
      refine wk_ifeq r75_20 ⟨by omega, by omega⟩ ?_ ?_
      · intro h539
        refine wk_inc2 r75_64 rfl (wk_goto r75_67 ?_)
        exact wp_fg (le_s (le_s (le_s le_0))) (ih572 (3000 - (v515 + 1)).toNat (by omega) M518 (v515 + 1) v521 rfl hP519 hF520 e524 (by omega) (by omega) (by omega) (by omega) (by omega))
      · intro h540
        refine wk_al0 r75_23 (wk_al0 r75_24 (wk_il2 r75_25 (wk_il1 r75_26 (wk_cv3 r75_27 kc_739_45 rfl (m45_739v7 _ M518 v515 p1 hP519 (by omega) (by omega) (by omega) (by omega)) (cqI ?_)))))
        rintro v545 M541 ⟨hP542, hQ543, h546, h547⟩
        obtain rfl := Fr.same hQ543
        refine wk_cv2 r75_30 kc_739_81 rfl (m81_739 _ M518 v545 hP519 (by omega) (by omega)) (cqI ?_)
        rintro v552 M548 ⟨hP549, hQ550, h553, h554⟩
        obtain rfl := Fr.same hQ550
        refine wk_ifeq r75_33 ⟨by omega, by omega⟩ ?_ ?_
        · intro h555
          refine wk_al0 r75_39 (wk_getfr r75_40 fd_739_56 (br_739_56 hP519) (wk_al0 r75_43 (wk_getfi r75_44 fd_739_55 e524 (wk_al0 r75_47 (wk_il2 r75_48 (wk_il1 r75_49 (wk_cv3 r75_50 kc_739_45 rfl (m45_739v7 _ M518 v515 p1 hP519 (by omega) (by omega) (by omega) (by omega)) (cqI ?_))))))))
          rintro v560 M556 ⟨hP557, hQ558, h561, h562⟩
          obtain rfl := Fr.same hQ558
          refine wk_iast r75_53 ar_761 ⟨by omega, by omega⟩ (wk_nw (ga_761 _) rfl hP519 hF520 (ua_761 ⟨by omega, by omega⟩) ?_)
          intro M563 hP564 hF565 e566
          refine wk_al0 r75_54 (wk_dupr r75_55 (wk_getfi r75_56 fd_739_55 (mUp_no e566 e524 (Or.inl (by decide))) (wk_c1 r75_59 (wk_iadd r75_60 (wk_putfi81 r75_61 fd_739_55 (wk_nw g_739_55 rfl hP564 hF565 (uf_739_55 ⟨by omega, by omega⟩) ?_))))))
          intro M567 hP568 hF569 e570
          refine wk_inc2 r75_64 rfl (wk_goto r75_67 ?_)
          exact wp_fg (le_s (le_s (le_s le_0))) (ih572 (3000 - (v515 + 1)).toNat (by omega) M567 (v515 + 1) (v521 + 1) rfl hP568 hF569 (mUp_at e570) (by omega) (by omega) (by omega) (by omega) (by omega))
        · intro h571
          refine wk_goto r75_36 (wk_inc2 r75_64 rfl (wk_goto r75_67 ?_))
          exact wp_fg (le_s (le_s (le_s le_0))) (ih572 (3000 - (v515 + 1)).toNat (by omega) M518 (v515 + 1) v521 rfl hP519 hF520 e524 (by omega) (by omega) (by omega) (by omega) (by omega))
  exact wp_fg (le_s (le_s (le_s le_0))) (c7_572 _ M1 0 0 rfl hP2 hF3 (mUp_at e4) (by omega) (by omega) (by omega) (by omega) (by omega))
def fm_m132_739 : Nat := 7237005577753511380647415321526679450211279116507594295798559602759274856448
/-- IslandHallModel.told -/
theorem m132_739 {B : eB} (d : Nat) (M0 : Mm) (p1 : Int) (hP0 : Pw M0) (l1 : (-2147483648) ≤ p1) (u1 : p1 ≤ 2147483647) : Ct B (d + 4) 132 [R 739, I p1] M0 (qI fun z M => Pw M ∧ Fr fm_m132_739 M0 M ∧ 0 ≤ z ∧ z ≤ 3000) := by
  refine ct_of (d := d + 3) (k := 0) (L := [some (R 739), some (I p1)]) rfl rfl rfl ?_
  have hF0 := Fr.rf fm_m132_739 M0
  generalize hQ : (qI fun z M => Pw M ∧ Fr fm_m132_739 M0 M ∧ 0 ≤ z ∧ z ≤ 3000) = Q
  refine wk_al0 r132_0 (wk_c1 r132_1 (wk_putfi81 r132_2 fd_739_0 (wk_nw g_739_0 rfl hP0 hF0 (uf_739_0 (by decide)) ?_)))
  intro M1 hP2 hF3 e4
  refine wk_al0 r132_5 (wk_il1 r132_6 ?_)
  refine wk_iflt r132_7 ⟨by omega, by omega⟩ ?_ ?_
  · intro h5
    refine wk_c1 r132_19 (wk_c1 r132_20 (wk_cv3 r132_21 kc_739_123 rfl (m123_739 _ M1 0 1 hP2 (by decide) (by decide) (by decide) (by decide)) (cqI ?_)))
    rintro v11 M6 ⟨hP7, hQ8, h12, h13, h10⟩
    have hF9 : Fr fm_m132_739 M0 M6 := hF3.tr hQ8 rfl
    refine wk_ifne r132_24 ⟨by omega, by omega⟩ ?_ ?_
    · intro h14
      exfalso
      omega
    · intro h15
      refine wk_c1 r132_27 ?_
      subst hQ; exact wk_iret r132_28 (⟨rfl, _, rfl, hP7, hF9, by omega, by omega⟩)
  · intro h16
    refine wk_il1 r132_10 (wk_c1 r132_11 ?_)
    refine wk_icgt r132_12 ⟨by omega, by omega⟩ (by decide) ?_ ?_
    · intro h17
      refine wk_c1 r132_19 (wk_c1 r132_20 (wk_cv3 r132_21 kc_739_123 rfl (m123_739 _ M1 0 1 hP2 (by decide) (by decide) (by decide) (by decide)) (cqI ?_)))
      rintro v23 M18 ⟨hP19, hQ20, h24, h25, h22⟩
      have hF21 : Fr fm_m132_739 M0 M18 := hF3.tr hQ20 rfl
      refine wk_ifne r132_24 ⟨by omega, by omega⟩ ?_ ?_
      · intro h26
        exfalso
        omega
      · intro h27
        refine wk_c1 r132_27 ?_
        subst hQ; exact wk_iret r132_28 (⟨rfl, _, rfl, hP19, hF21, by omega, by omega⟩)
    · intro h28
      refine wk_c1 r132_15 (wk_goto r132_16 (wk_c1 r132_20 (wk_cv3 r132_21 kc_739_123 rfl (m123_739 _ M1 1 1 hP2 (by decide) (by decide) (by decide) (by decide)) (cqI ?_))))
      rintro v34 M29 ⟨hP30, hQ31, h35, h36, h33⟩
      have hF32 : Fr fm_m132_739 M0 M29 := hF3.tr hQ31 rfl
      refine wk_ifne r132_24 ⟨by omega, by omega⟩ ?_ ?_
      · intro h37
        refine wk_al0 r132_29 (wk_il1 r132_30 (wk_cv2 r132_31 kc_739_75 rfl (m75_739 _ M29 p1 hP30 (by omega) (by omega)) (cqV ?_)))
        rintro M38 ⟨hP39, hQ40⟩
        have hF41 : Fr fm_m132_739 M0 M38 := hF32.tr hQ40 rfl
        refine wk_al0 r132_34 (wk_getfb r132_35 fd_739_55 (bf_739_55 hP39) ?_)
        intro v42 h44 h45 e43
        subst hQ; exact wk_iret r132_38 (⟨rfl, _, rfl, hP39, hF41, by omega, by omega⟩)
      · intro h46
        refine wk_c1 r132_27 ?_
        subst hQ; exact wk_iret r132_28 (⟨rfl, _, rfl, hP30, hF32, by omega, by omega⟩)
def fm_m113_739 : Nat := 11692013098647223345629478661730264157247460343808
/-- IslandHallModel.needless -/
theorem m113_739 {B : eB} (d : Nat) (M0 : Mm) (hP0 : Pw M0)  : Ct B (d + 2) 113 [R 739] M0 (qI fun z M => Pw M ∧ Fr fm_m113_739 M0 M ∧ 0 ≤ z ∧ z ≤ 4095) := by
  refine ct_of (d := d + 1) (k := 3) (L := [some (R 739), none, none, none]) rfl rfl rfl ?_
  have hF0 := Fr.rf fm_m113_739 M0
  generalize hQ : (qI fun z M => Pw M ∧ Fr fm_m113_739 M0 M ∧ 0 ≤ z ∧ z ≤ 4095) = Q
  refine wk_al0 r113_0 (wk_c1 r113_1 (wk_putfi81 r113_2 fd_739_0 (wk_nw g_739_0 rfl hP0 hF0 (uf_739_0 (by decide)) ?_)))
  intro M1 hP2 hF3 e4
  refine wk_al0 r113_5 (wk_cv1 r113_6 kc_739_44 rfl (m44_739 _ M1 hP2) (cqI ?_))
  rintro v9 M5 ⟨hP6, hQ7, h10, h11⟩
  obtain rfl := Fr.same hQ7
  refine wk_is1 r113_9 rfl (wk_c1 r113_10 (wk_is2 r113_11 rfl ?_))
  have c12_423 : ∀ (k423 : Nat) (v382 : Int) (v385 : Int), (3000 - v385).toNat = k423 → 0 ≤ v382 → v382 ≤ 4095 → 0 ≤ v385 → v385 ≤ 3000 → 0 ≤ (-1) * v382 + v385 + 4095 → Wp B (d + 1) 113 12 [some (R 739), some (I v382), some (I v385), none] [] M1 Q := by
    refine lp_ind ?_
    intro k423 ih423 v382 v385 hk423 h383 h384 h386 h387 h388
    refine wk_il2 r113_12 (wk_al0 r113_13 (wk_getfb r113_14 fd_739_7 (bf_739_7 hP2) ?_))
    intro v389 h391 h392 e390
    refine wk_icge r113_17 ⟨by omega, by omega⟩ ⟨by omega, by omega⟩ ?_ ?_
    · intro h393
      refine wk_il1 r113_58 ?_
      subst hQ; exact wk_iret r113_59 (⟨rfl, _, rfl, hP2, hF3, by omega, by omega⟩)
    · intro h394
      refine wk_al0 r113_20 (wk_cv1 r113_21 kc_739_44 rfl (m44_739 _ M1 hP2) (cqI ?_))
      rintro v399 M395 ⟨hP396, hQ397, h400, h401⟩
      obtain rfl := Fr.same hQ397
      refine wk_al0 r113_24 (wk_getfr r113_25 fd_739_20 (br_739_20 hP2) (wk_il2 r113_28 (wk_ialdb r113_29 ar_752 ⟨by omega, by omega⟩ (fun q0 q1 => ba_752 hP2 q0 q1) ?_)))
      intro v402 h404 h405 e403
      refine wk_c1 r113_30 (wk_inot r113_31 (wk_iandl r113_32 ⟨by omega, by omega⟩ ?_))
      intro v406 h407 h408 h409
      refine wk_is3 r113_33 rfl (wk_il3 r113_34 ?_)
      refine wk_ifeq r113_35 ⟨by omega, by omega⟩ ?_ ?_
      · intro h410
        refine wk_inc2 r113_52 rfl (wk_goto r113_55 ?_)
        exact wp_fg (le_s (le_s (le_s (le_n le_0)))) (ih423 (3000 - (v385 + 1)).toNat (by omega) v382 (v385 + 1) rfl (by omega) (by omega) (by omega) (by omega) (by omega))
      · intro h411
        refine wk_il3 r113_38 (wk_il3 r113_39 (wk_c1 r113_40 (wk_isub r113_41 (wk_iand r113_42 ⟨by omega, by omega⟩ ⟨by omega, by omega⟩ ?_))))
        intro v412 h413 h414 h415 h416
        refine wk_ifne r113_43 ⟨by omega, by omega⟩ ?_ ?_
        · intro h417
          refine wk_inc2 r113_52 rfl (wk_goto r113_55 ?_)
          exact wp_fg (le_s (le_s (le_s (le_n le_0)))) (ih423 (3000 - (v385 + 1)).toNat (by omega) v382 (v385 + 1) rfl (by omega) (by omega) (by omega) (by omega) (by omega))
        · intro h418
          refine wk_il1 r113_46 (wk_il3 r113_47 (wk_c1 r113_48 (wk_inot r113_49 (wk_iandl r113_50 ⟨by omega, by omega⟩ ?_))))
          intro v419 h420 h421 h422
          refine wk_is1 r113_51 rfl (wk_inc2 r113_52 rfl (wk_goto r113_55 ?_))
          exact wp_fg (le_s (le_s (le_s (le_n le_0)))) (ih423 (3000 - (v385 + 1)).toNat (by omega) v419 (v385 + 1) rfl (by omega) (by omega) (by omega) (by omega) (by omega))
  exact wp_fg (le_s (le_s (le_s (le_s le_0)))) (c12_423 _ v9 0 rfl (by omega) (by omega) (by omega) (by omega) (by omega))
def fm_m45_739v15 : Nat := 0
/-- IslandHallModel.answer -/
theorem m45_739v15 {B : eB} (d : Nat) (M0 : Mm) (p1 : Int) (p2 : Int) (hP0 : Pw M0) (l1 : 0 ≤ p1) (u1 : p1 ≤ 2999) (l2 : (-2147483648) ≤ p2) (u2 : p2 ≤ 2147483647) : Ct B (d + 1) 45 [R 739, I p1, I p2] M0 (qI fun z M => Pw M ∧ Fr fm_m45_739v15 M0 M ∧ 0 ≤ z ∧ z ≤ 2097151) := by
  refine ct_of (d := d + 0) (k := 0) (L := [some (R 739), some (I p1), some (I p2)]) rfl rfl rfl ?_
  have hF0 := Fr.rf fm_m45_739v15 M0
  generalize hQ : (qI fun z M => Pw M ∧ Fr fm_m45_739v15 M0 M ∧ 0 ≤ z ∧ z ≤ 2097151) = Q
  refine wk_il2 r45_0 ?_
  refine wk_ifne r45_1 ⟨by omega, by omega⟩ ?_ ?_
  · intro h1
    refine wk_il2 r45_13 (wk_c1 r45_14 ?_)
    refine wk_icne r45_15 ⟨by omega, by omega⟩ (by decide) ?_ ?_
    · intro h2
      refine wk_il2 r45_27 (wk_c1 r45_28 ?_)
      refine wk_icne r45_29 ⟨by omega, by omega⟩ (by decide) ?_ ?_
      · intro h3
        refine wk_al0 r45_41 (wk_getfr r45_42 fd_739_12 (br_739_12 hP0) (wk_il1 r45_45 (wk_ialdb r45_46 ar_746 ⟨by omega, by omega⟩ (fun q0 q1 => ba_746 hP0 q0 q1) ?_)))
        intro v4 h6 h7 e5
        subst hQ; exact wk_iret r45_47 (⟨rfl, _, rfl, hP0, hF0, by omega, by omega⟩)
      · intro h8
        refine wk_al0 r45_32 (wk_getfr r45_33 fd_739_11 (br_739_11 hP0) (wk_il1 r45_36 (wk_ialdb r45_37 ar_745 ⟨by omega, by omega⟩ (fun q0 q1 => ba_745 hP0 q0 q1) ?_)))
        intro v9 h11 h12 e10
        refine wk_goto r45_38 ?_
        subst hQ; exact wk_iret r45_47 (⟨rfl, _, rfl, hP0, hF0, by omega, by omega⟩)
    · intro h13
      refine wk_al0 r45_18 (wk_getfr r45_19 fd_739_10 (br_739_10 hP0) (wk_il1 r45_22 (wk_ialdb r45_23 ar_744 ⟨by omega, by omega⟩ (fun q0 q1 => ba_744 hP0 q0 q1) ?_)))
      intro v14 h16 h17 e15
      refine wk_goto r45_24 ?_
      subst hQ; exact wk_iret r45_47 (⟨rfl, _, rfl, hP0, hF0, by omega, by omega⟩)
  · intro h18
    refine wk_al0 r45_4 (wk_getfr r45_5 fd_739_8 (br_739_8 hP0) (wk_il1 r45_8 (wk_ialdb r45_9 ar_742 ⟨by omega, by omega⟩ (fun q0 q1 => ba_742 hP0 q0 q1) ?_)))
    intro v19 h21 h22 e20
    refine wk_goto r45_10 ?_
    subst hQ; exact wk_iret r45_47 (⟨rfl, _, rfl, hP0, hF0, by omega, by omega⟩)
def fm_m75_739v1 : Nat := 7237005577753511380647415309834666351564055770878115634068295445511814512640
/-- IslandHallModel.gathers -/
theorem m75_739v1 {B : eB} (d : Nat) (M0 : Mm) (p1 : Int) (hP0 : Pw M0) (l1 : (-2147483648) ≤ p1) (u1 : p1 ≤ 2147483647) : Ct B (d + 3) 75 [R 739, I p1] M0 (qV fun M => Pw M ∧ Fr fm_m75_739v1 M0 M) := by
  refine ct_of (d := d + 2) (k := 1) (L := [some (R 739), some (I p1), none]) rfl rfl rfl ?_
  have hF0 := Fr.rf fm_m75_739v1 M0
  generalize hQ : (qV fun M => Pw M ∧ Fr fm_m75_739v1 M0 M) = Q
  refine wk_al0 r75_0 (wk_c1 r75_1 (wk_putfi81 r75_2 fd_739_55 (wk_nw g_739_55 rfl hP0 hF0 (uf_739_55 (by decide)) ?_)))
  intro M1 hP2 hF3 e4
  refine wk_c1 r75_5 (wk_is2 r75_6 rfl ?_)
  have c7_572 : ∀ (k572 : Nat) (M518 : Mm) (v515 : Int) (v521 : Int), (3000 - v515).toNat = k572 → Pw M518 → Fr fm_m75_739v1 M0 M518 → M518 739 55 = v521 → 0 ≤ v515 → v515 ≤ 3000 → 0 ≤ v521 → v521 ≤ 3000 → 0 ≤ (-1) * v521 + v515 + 0 → Wp B (d + 2) 75 7 [some (R 739), some (I p1), some (I v515)] [] M518 Q := by
    refine lp_ind ?_
    intro k572 ih572 M518 v515 v521 hk572 hP519 hF520 e524 h516 h517 h522 h523 h525
    refine wk_il2 r75_7 (wk_al0 r75_8 (wk_getfb r75_9 fd_739_7 (bf_739_7 hP519) ?_))
    intro v526 h528 h529 e527
    refine wk_icge r75_12 ⟨by omega, by omega⟩ ⟨by omega, by omega⟩ ?_ ?_
    · intro h530
      subst hQ; exact wk_ret r75_70 (⟨rfl, hP519, hF520⟩)
    · intro h531
      refine wk_al0 r75_15 (wk_il2 r75_16 (wk_cv2 r75_17 kc_739_83 rfl (m83_739v8 _ M518 v515 hP519 (by omega) (by omega)) (cqI ?_)))
      rintro v536 M532 ⟨hP533, hQ534, h537, h538⟩
      obtain rfl := Fr.same hQ534
      refine wk_ifeq r75_20 ⟨by omega, by omega⟩ ?_ ?_
      · intro h539
        refine wk_inc2 r75_64 rfl (wk_goto r75_67 ?_)
        exact wp_fg (le_s (le_s (le_s le_0))) (ih572 (3000 - (v515 + 1)).toNat (by omega) M518 (v515 + 1) v521 rfl hP519 hF520 e524 (by omega) (by omega) (by omega) (by omega) (by omega))
      · intro h540
        refine wk_al0 r75_23 (wk_al0 r75_24 (wk_il2 r75_25 (wk_il1 r75_26 (wk_cv3 r75_27 kc_739_45 rfl (m45_739v15 _ M518 v515 p1 hP519 (by omega) (by omega) (by omega) (by omega)) (cqI ?_)))))
        rintro v545 M541 ⟨hP542, hQ543, h546, h547⟩
        obtain rfl := Fr.same hQ543
        refine wk_cv2 r75_30 kc_739_81 rfl (m81_739 _ M518 v545 hP519 (by omega) (by omega)) (cqI ?_)
        rintro v552 M548 ⟨hP549, hQ550, h553, h554⟩
        obtain rfl := Fr.same hQ550
        refine wk_ifeq r75_33 ⟨by omega, by omega⟩ ?_ ?_
        · intro h555
          refine wk_al0 r75_39 (wk_getfr r75_40 fd_739_56 (br_739_56 hP519) (wk_al0 r75_43 (wk_getfi r75_44 fd_739_55 e524 (wk_al0 r75_47 (wk_il2 r75_48 (wk_il1 r75_49 (wk_cv3 r75_50 kc_739_45 rfl (m45_739v15 _ M518 v515 p1 hP519 (by omega) (by omega) (by omega) (by omega)) (cqI ?_))))))))
          rintro v560 M556 ⟨hP557, hQ558, h561, h562⟩
          obtain rfl := Fr.same hQ558
          refine wk_iast r75_53 ar_761 ⟨by omega, by omega⟩ (wk_nw (ga_761 _) rfl hP519 hF520 (ua_761 ⟨by omega, by omega⟩) ?_)
          intro M563 hP564 hF565 e566
          refine wk_al0 r75_54 (wk_dupr r75_55 (wk_getfi r75_56 fd_739_55 (mUp_no e566 e524 (Or.inl (by decide))) (wk_c1 r75_59 (wk_iadd r75_60 (wk_putfi81 r75_61 fd_739_55 (wk_nw g_739_55 rfl hP564 hF565 (uf_739_55 ⟨by omega, by omega⟩) ?_))))))
          intro M567 hP568 hF569 e570
          refine wk_inc2 r75_64 rfl (wk_goto r75_67 ?_)
          exact wp_fg (le_s (le_s (le_s le_0))) (ih572 (3000 - (v515 + 1)).toNat (by omega) M567 (v515 + 1) (v521 + 1) rfl hP568 hF569 (mUp_at e570) (by omega) (by omega) (by omega) (by omega) (by omega))
        · intro h571
          refine wk_goto r75_36 (wk_inc2 r75_64 rfl (wk_goto r75_67 ?_))
          exact wp_fg (le_s (le_s (le_s le_0))) (ih572 (3000 - (v515 + 1)).toNat (by omega) M518 (v515 + 1) v521 rfl hP519 hF520 e524 (by omega) (by omega) (by omega) (by omega) (by omega))
  exact wp_fg (le_s (le_s (le_s le_0))) (c7_572 _ M1 0 0 rfl hP2 hF3 (mUp_at e4) (by omega) (by omega) (by omega) (by omega) (by omega))
def fm_m131_739 : Nat := 14474011154664524427946373126085988481658748083205070504932198000989141204992
/-- IslandHallModel.sums -/
theorem m131_739 {B : eB} (d : Nat) (M0 : Mm) (hP0 : Pw M0)  : Ct B (d + 2) 131 [R 739] M0 (qV fun M => Pw M ∧ Fr fm_m131_739 M0 M) := by
  refine ct_of (d := d + 1) (k := 2) (L := [some (R 739), none, none]) rfl rfl rfl ?_
  have hF0 := Fr.rf fm_m131_739 M0
  generalize hQ : (qV fun M => Pw M ∧ Fr fm_m131_739 M0 M) = Q
  refine wk_c1 r131_0 (wk_is1 r131_1 rfl ?_)
  have c2_938 : ∀ (k938 : Nat) (M879 : Mm) (v876 : Int), (12 - v876).toNat = k938 → Pw M879 → Fr fm_m131_739 M0 M879 → 0 ≤ v876 → v876 ≤ 12 → Wp B (d + 1) 131 2 [some (R 739), some (I v876), none] [] M879 Q := by
    refine lp_ind ?_
    intro k938 ih938 M879 v876 hk938 hP880 hF881 h877 h878
    refine wk_il1 r131_2 (wk_al0 r131_3 (wk_getfb r131_4 fd_739_15 (bf_739_15 hP880) ?_))
    intro v882 h884 h885 e883
    refine wk_icge r131_7 ⟨by omega, by omega⟩ ⟨by omega, by omega⟩ ?_ ?_
    · intro h886
      subst hQ; exact wk_ret r131_59 (⟨rfl, hP880, hF881⟩)
    · intro h887
      refine wk_c1 r131_10 (wk_is2 r131_11 rfl ?_)
      have c12_937 : ∀ (k937 : Nat) (M891 : Mm) (v888 : Int), (4096 - v888).toNat = k937 → Pw M891 → Fr fm_m131_739 M0 M891 → M891 739 15 = v882 → 0 ≤ v888 → v888 ≤ 4096 → Wp B (d + 1) 131 12 [some (R 739), some (I v876), some (I v888)] [] M891 Q := by
        refine lp_ind ?_
        intro k937 ih937 M891 v888 hk937 hP892 hF893 e894 h889 h890
        refine wk_il2 r131_12 (wk_al0 r131_13 (wk_cv1 r131_14 kc_739_44 rfl (m44_739 _ M891 hP892) (cqI ?_)))
        rintro v899 M895 ⟨hP896, hQ897, h900, h901⟩
        obtain rfl := Fr.same hQ897
        refine wk_icgt r131_17 ⟨by omega, by omega⟩ ⟨by omega, by omega⟩ ?_ ?_
        · intro h902
          refine wk_inc1 r131_53 rfl (wk_goto r131_56 ?_)
          exact wp_fg (le_s (le_s (le_n le_0))) (ih938 (12 - (v876 + 1)).toNat (by omega) M891 (v876 + 1) rfl hP892 hF893 (by omega) (by omega))
        · intro h903
          refine wk_il2 r131_20 (wk_il1 r131_21 (wk_shrb r131_22 ⟨by omega, by omega⟩ ⟨by omega, by omega⟩ ?_))
          intro v904 h905 h906 h907
          refine wk_c1 r131_23 (wk_iandc 1 2 r131_24 ⟨rfl, by decide⟩ rfl ?_)
          refine wk_ifne r131_25 ⟨by omega, by omega⟩ ?_ ?_
          · intro h909
            refine wk_inc2 r131_47 rfl (wk_goto r131_50 ?_)
            exact wp_fg (le_s (le_s (le_s le_0))) (ih937 (4096 - (v888 + 1)).toNat (by omega) M891 (v888 + 1) rfl hP892 hF893 e894 (by omega) (by omega))
          · intro h910
            refine wk_al0 r131_28 (wk_getfr r131_29 fd_739_57 (br_739_57 hP892) (wk_il2 r131_32 (wk_dup2 r131_33 (wk_ialdb r131_34 ar_762 ⟨by omega, by omega⟩ (fun q0 q1 => ba_762 hP892 q0 q1) ?_))))
            intro v911 h913 h914 e912
            refine wk_al0 r131_35 (wk_getfr r131_36 fd_739_57 (br_739_57 hP892) (wk_il2 r131_39 (wk_c1 r131_40 (wk_il1 r131_41 (wk_shl1 11 2048 r131_42 ⟨by omega, by omega⟩ ⟨pwl_11, by decide⟩ ?_)))))
            intro v915 h916 h917 h918
            refine wk_ior 12 4096 r131_43 (by decide) ⟨by omega, by omega⟩ ⟨by omega, by omega⟩ ?_
            intro v919 h920 h921 h922 h923 h924
            refine wk_ialdb r131_44 ar_762 ⟨by omega, by omega⟩ (fun q0 q1 => ba_762 hP892 q0 q1) ?_
            intro v925 h927 h928 e926
            refine wk_iadd r131_45 (wk_wrap ?_)
            intro v929 h930 h931 h932
            refine wk_iast r131_46 ar_762 ⟨by omega, by omega⟩ (wk_nw (ga_762 _) rfl hP892 hF893 (ua_762 ⟨by omega, by omega⟩) ?_)
            intro M933 hP934 hF935 e936
            refine wk_inc2 r131_47 rfl (wk_goto r131_50 ?_)
            exact wp_fg (le_s (le_s (le_s le_0))) (ih937 (4096 - (v888 + 1)).toNat (by omega) M933 (v888 + 1) rfl hP934 hF935 (mUp_no e936 e894 (Or.inl (by decide))) (by omega) (by omega))
      exact wp_fg (le_s (le_s (le_s le_0))) (c12_937 _ M879 0 rfl hP880 hF881 e883 (by omega) (by omega))
  exact wp_fg (le_s (le_s (le_s le_0))) (c2_938 _ M0 0 rfl hP0 hF0 (by omega) (by omega))
def fm_m51v8 : Nat := 0
/-- IslandHallModel.bits -/
theorem m51v8 {B : eB} (d : Nat) (M0 : Mm) (p0 : Int) (hP0 : Pw M0) (l0 : 0 ≤ p0) (u0 : p0 ≤ 4095) : Ct B (d + 1) 51 [I p0] M0 (qI fun z M => Pw M ∧ Fr fm_m51v8 M0 M ∧ 0 ≤ z ∧ z ≤ 4095) := by
  refine ct_of (d := d + 0) (k := 2) (L := [some (I p0), none, none]) rfl rfl rfl ?_
  have hF0 := Fr.rf fm_m51v8 M0
  generalize hQ : (qI fun z M => Pw M ∧ Fr fm_m51v8 M0 M ∧ 0 ≤ z ∧ z ≤ 4095) = Q
  refine wk_c1 r51_0 (wk_is1 r51_1 rfl (wk_il0 r51_2 (wk_is2 r51_3 rfl ?_)))
  have c4_152 : ∀ (k152 : Nat) (v137 : Int) (v140 : Int), (4095 - v137).toNat = k152 → 0 ≤ v137 → v137 ≤ 4095 → 0 ≤ v140 → v140 ≤ 4095 → 0 ≤ p0 + (-1) * v137 + (-1) * v140 → 0 ≤ (-1) * v140 + v137 + 4095 → Wp B (d + 0) 51 4 [none, some (I v137), some (I v140)] [] M0 Q := by
    refine lp_ind ?_
    intro k152 ih152 v137 v140 hk152 h138 h139 h141 h142 h143 h144
    refine wk_il2 r51_4 ?_
    refine wk_ifeq r51_5 ⟨by omega, by omega⟩ ?_ ?_
    · intro h145
      refine wk_il1 r51_20 ?_
      subst hQ; exact wk_iret r51_21 (⟨rfl, _, rfl, hP0, hF0, by omega, by omega⟩)
    · intro h146
      refine wk_inc1 r51_8 rfl (wk_il2 r51_11 (wk_il2 r51_12 (wk_c1 r51_13 (wk_isub r51_14 (wk_iand r51_15 ⟨by omega, by omega⟩ ⟨by omega, by omega⟩ ?_)))))
      intro v147 h148 h149 h150 h151
      refine wk_is2 r51_16 rfl (wk_goto r51_17 ?_)
      exact wp_fg (le_s (le_s (le_s le_0))) (ih152 (4095 - (v137 + 1)).toNat (by omega) (v137 + 1) v147 rfl (by omega) (by omega) (by omega) (by omega) (by omega) (by omega))
  exact wp_fg (le_n (le_s (le_s le_0))) (c4_152 _ 0 p0 rfl (by omega) (by omega) (by omega) (by omega) (by omega) (by omega))
def fm_m80v7 : Nat := 0
/-- IslandHallModel.isAhead -/
theorem m80v7 {B : eB} (d : Nat) (M0 : Mm) (p0 : Int) (p1 : Int) (hP0 : Pw M0) (l0 : 1 ≤ p0) (u0 : p0 ≤ 4095) (l1 : 0 ≤ p1) (u1 : p1 ≤ 4094) : Ct B (d + 2) 80 [I p0, I p1] M0 (qI fun z M => Pw M ∧ Fr fm_m80v7 M0 M ∧ 0 ≤ z ∧ z ≤ 1) := by
  refine ct_of (d := d + 1) (k := 1) (L := [some (I p0), some (I p1), none]) rfl rfl rfl ?_
  have hF0 := Fr.rf fm_m80v7 M0
  generalize hQ : (qI fun z M => Pw M ∧ Fr fm_m80v7 M0 M ∧ 0 ≤ z ∧ z ≤ 1) = Q
  refine wk_il0 r80_0 (wk_cs102_1 r80_1 rfl (m51v8 _ M0 p0 hP0 (by omega) (by omega)) (cqI ?_))
  rintro v5 M1 ⟨hP2, hQ3, h6, h7⟩
  obtain rfl := Fr.same hQ3
  refine wk_il1 r80_4 (wk_cs102_1 r80_5 rfl (m51v8 _ M0 p1 hP0 (by omega) (by omega)) (cqI ?_))
  rintro v12 M8 ⟨hP9, hQ10, h13, h14⟩
  obtain rfl := Fr.same hQ10
  refine wk_iceq r80_8 ⟨by omega, by omega⟩ ⟨by omega, by omega⟩ ?_ ?_
  · intro h15
    refine wk_il0 r80_28 (wk_il1 r80_29 (wk_ixor 12 4096 r80_30 (by decide) ⟨by omega, by omega⟩ ⟨by omega, by omega⟩ ?_))
    intro v16 h17 h18 h19
    refine wk_is2 r80_31 rfl (wk_il0 r80_32 (wk_il2 r80_33 (wk_il2 r80_34 (wk_ineg r80_35 (wk_iandl r80_36 ⟨by omega, by omega⟩ ?_)))))
    intro v20 h21 h22 h23
    refine wk_iand r80_37 ⟨by omega, by omega⟩ ⟨by omega, by omega⟩ ?_
    intro v24 h25 h26 h27 h28
    refine wk_ifeq r80_38 ⟨by omega, by omega⟩ ?_ ?_
    · intro h29
      refine wk_c1 r80_45 ?_
      subst hQ; exact wk_zret r80_46 (by decide) (⟨rfl, _, rfl, hP0, hF0, by omega, by omega⟩)
    · intro h30
      refine wk_c1 r80_41 (wk_goto r80_42 ?_)
      subst hQ; exact wk_zret r80_46 (by decide) (⟨rfl, _, rfl, hP0, hF0, by omega, by omega⟩)
  · intro h31
    refine wk_il0 r80_11 (wk_cs102_1 r80_12 rfl (m51v8 _ M0 p0 hP0 (by omega) (by omega)) (cqI ?_))
    rintro v36 M32 ⟨hP33, hQ34, h37, h38⟩
    obtain rfl := Fr.same hQ34
    refine wk_il1 r80_15 (wk_cs102_1 r80_16 rfl (m51v8 _ M0 p1 hP0 (by omega) (by omega)) (cqI ?_))
    rintro v43 M39 ⟨hP40, hQ41, h44, h45⟩
    obtain rfl := Fr.same hQ41
    refine wk_icge r80_19 ⟨by omega, by omega⟩ ⟨by omega, by omega⟩ ?_ ?_
    · intro h46
      refine wk_c1 r80_26 ?_
      subst hQ; exact wk_zret r80_27 (by decide) (⟨rfl, _, rfl, hP0, hF0, by omega, by omega⟩)
    · intro h47
      refine wk_c1 r80_22 (wk_goto r80_23 ?_)
      subst hQ; exact wk_zret r80_27 (by decide) (⟨rfl, _, rfl, hP0, hF0, by omega, by omega⟩)
def fm_m66_739 : Nat := 21711016732418035808593788447612667931870027199712664800730757603748416061440
/-- IslandHallModel.enough -/
theorem m66_739 {B : eB} (d : Nat) (M0 : Mm) (p1 : Int) (hP0 : Pw M0) (l1 : (-2147483648) ≤ p1) (u1 : p1 ≤ 2147483647) : Ct B (d + 4) 66 [R 739, I p1] M0 (qI fun z M => Pw M ∧ Fr fm_m66_739 M0 M ∧ (-1) ≤ z ∧ z ≤ 4095) := by
  refine ct_of (d := d + 3) (k := 2) (L := [some (R 739), some (I p1), none, none]) rfl rfl rfl ?_
  have hF0 := Fr.rf fm_m66_739 M0
  generalize hQ : (qI fun z M => Pw M ∧ Fr fm_m66_739 M0 M ∧ (-1) ≤ z ∧ z ≤ 4095) = Q
  refine wk_al0 r66_0 (wk_c1 r66_1 (wk_putfi81 r66_2 fd_739_0 (wk_nw g_739_0 rfl hP0 hF0 (uf_739_0 (by decide)) ?_)))
  intro M1 hP2 hF3 e4
  refine wk_al0 r66_5 (wk_il1 r66_6 ?_)
  have c20_1992 : ∀ (v10 : Int), 0 ≤ v10 → v10 ≤ 1 → Wp B (d + 3) 66 20 [some (R 739), some (I p1), none, none] [I v10, R 739] M1 Q := by
    intro v10 h11 h12
    refine wk_c1 r66_20 (wk_cv3 r66_21 kc_739_123 rfl (m123_739 _ M1 v10 1 hP2 (by omega) (by omega) (by decide) (by decide)) (cqI ?_))
    rintro v18 M13 ⟨hP14, hQ15, h19, h20, h17⟩
    have hF16 : Fr fm_m66_739 M0 M13 := hF3.tr hQ15 rfl
    refine wk_ifne r66_24 ⟨by omega, by omega⟩ ?_ ?_
    · intro h21
      refine wk_al0 r66_29 (wk_il1 r66_30 (wk_cv2 r66_31 kc_739_75 rfl (m75_739v1 _ M13 p1 hP14 (by omega) (by omega)) (cqV ?_)))
      rintro M22 ⟨hP23, hQ24⟩
      have hF25 : Fr fm_m66_739 M0 M22 := hF16.tr hQ24 rfl
      refine wk_c1 r66_34 (wk_is2 r66_35 rfl ?_)
      have c36_1990 : ∀ (k1990 : Nat) (M1891 : Mm) (v1888 : Int), (4096 - v1888).toNat = k1990 → Pw M1891 → Fr fm_m66_739 M0 M1891 → 0 ≤ v1888 → v1888 ≤ 4096 → Wp B (d + 3) 66 36 [some (R 739), some (I p1), some (I v1888), none] [] M1891 Q := by
        refine lp_ind ?_
        intro k1990 ih1990 M1891 v1888 hk1990 hP1892 hF1893 h1889 h1890
        refine wk_il2 r66_36 (wk_al0 r66_37 (wk_cv1 r66_38 kc_739_44 rfl (m44_739 _ M1891 hP1892) (cqI ?_)))
        rintro v1898 M1894 ⟨hP1895, hQ1896, h1899, h1900⟩
        obtain rfl := Fr.same hQ1896
        refine wk_icgt r66_41 ⟨by omega, by omega⟩ ⟨by omega, by omega⟩ ?_ ?_
        · intro h1901
          refine wk_c1 r66_57 (wk_is2 r66_58 rfl ?_)
          have c59_1984 : ∀ (k1984 : Nat) (M1905 : Mm) (v1902 : Int), (3000 - v1902).toNat = k1984 → Pw M1905 → Fr fm_m66_739 M0 M1905 → 0 ≤ v1902 → v1902 ≤ 3000 → Wp B (d + 3) 66 59 [some (R 739), some (I p1), some (I v1902), none] [] M1905 Q := by
            refine lp_ind ?_
            intro k1984 ih1984 M1905 v1902 hk1984 hP1906 hF1907 h1903 h1904
            refine wk_il2 r66_59 (wk_al0 r66_60 (wk_getfb r66_61 fd_739_7 (bf_739_7 hP1906) ?_))
            intro v1908 h1910 h1911 e1909
            refine wk_icge r66_64 ⟨by omega, by omega⟩ ⟨by omega, by omega⟩ ?_ ?_
            · intro h1912
              refine wk_al0 r66_101 (wk_cv1 r66_102 kc_739_131 rfl (m131_739 _ M1905 hP1906) (cqV ?_))
              rintro M1913 ⟨hP1914, hQ1915⟩
              have hF1916 : Fr fm_m66_739 M0 M1913 := hF1907.tr hQ1915 rfl
              refine wk_c1 r66_105 (wk_is2 r66_106 rfl (wk_c1 r66_107 (wk_is3 r66_108 rfl ?_)))
              have c109_1950 : ∀ (k1950 : Nat) (v1917 : Int) (v1920 : Int), (4096 - v1920).toNat = k1950 → (-1) ≤ v1917 → v1917 ≤ 4095 → 0 ≤ v1920 → v1920 ≤ 4096 → 0 ≤ (-1) * v1917 + v1920 + (-1) → Wp B (d + 3) 66 109 [some (R 739), none, some (I v1917), some (I v1920)] [] M1913 Q := by
                refine lp_ind ?_
                intro k1950 ih1950 v1917 v1920 hk1950 h1918 h1919 h1921 h1922 h1923
                refine wk_il3 r66_109 (wk_al0 r66_110 (wk_cv1 r66_111 kc_739_44 rfl (m44_739 _ M1913 hP1914) (cqI ?_)))
                rintro v1928 M1924 ⟨hP1925, hQ1926, h1929, h1930⟩
                obtain rfl := Fr.same hQ1926
                refine wk_icgt r66_114 ⟨by omega, by omega⟩ ⟨by omega, by omega⟩ ?_ ?_
                · intro h1931
                  refine wk_il2 r66_147 ?_
                  subst hQ; exact wk_iret r66_148 (⟨rfl, _, rfl, hP1914, hF1916, by omega, by omega⟩)
                · intro h1932
                  refine wk_al0 r66_117 (wk_getfr r66_118 fd_739_57 (br_739_57 hP1914) (wk_il3 r66_121 (wk_ialdb r66_122 ar_762 ⟨by omega, by omega⟩ (fun q0 q1 => ba_762 hP1914 q0 q1) ?_)))
                  intro v1933 h1935 h1936 e1934
                  refine wk_ifne r66_123 ⟨by omega, by omega⟩ ?_ ?_
                  · intro h1937
                    refine wk_inc3 r66_141 rfl (wk_goto r66_144 ?_)
                    exact wp_fg (le_s (le_s (le_s (le_s le_0)))) (ih1950 (4096 - (v1920 + 1)).toNat (by omega) v1917 (v1920 + 1) rfl (by omega) (by omega) (by omega) (by omega) (by omega))
                  · intro h1938
                    refine wk_il2 r66_126 (wk_c1 r66_127 ?_)
                    refine wk_iceq r66_128 ⟨by omega, by omega⟩ (by decide) ?_ ?_
                    · intro h1939
                      refine wk_il3 r66_139 (wk_is2 r66_140 rfl (wk_inc3 r66_141 rfl (wk_goto r66_144 ?_)))
                      exact wp_fg (le_s (le_s (le_s (le_s le_0)))) (ih1950 (4096 - (v1920 + 1)).toNat (by omega) v1920 (v1920 + 1) rfl (by omega) (by omega) (by omega) (by omega) (by omega))
                    · intro h1940
                      refine wk_il3 r66_131 (wk_il2 r66_132 (wk_cs102_2 r66_133 rfl (m80v7 _ M1913 v1920 v1917 hP1914 (by omega) (by omega) (by omega) (by omega)) (cqI ?_)))
                      rintro v1945 M1941 ⟨hP1942, hQ1943, h1946, h1947⟩
                      obtain rfl := Fr.same hQ1943
                      refine wk_ifeq r66_136 ⟨by omega, by omega⟩ ?_ ?_
                      · intro h1948
                        refine wk_inc3 r66_141 rfl (wk_goto r66_144 ?_)
                        exact wp_fg (le_s (le_s (le_s (le_s le_0)))) (ih1950 (4096 - (v1920 + 1)).toNat (by omega) v1917 (v1920 + 1) rfl (by omega) (by omega) (by omega) (by omega) (by omega))
                      · intro h1949
                        refine wk_il3 r66_139 (wk_is2 r66_140 rfl (wk_inc3 r66_141 rfl (wk_goto r66_144 ?_)))
                        exact wp_fg (le_s (le_s (le_s (le_s le_0)))) (ih1950 (4096 - (v1920 + 1)).toNat (by omega) v1920 (v1920 + 1) rfl (by omega) (by omega) (by omega) (by omega) (by omega))
              exact wp_fg (le_s (le_n (le_s (le_s le_0)))) (c109_1950 _ (-1) 0 rfl (by omega) (by omega) (by omega) (by omega) (by omega))
            · intro h1951
              refine wk_al0 r66_67 (wk_al0 r66_68 (wk_il2 r66_69 (wk_il1 r66_70 (wk_cv3 r66_71 kc_739_45 rfl (m45_739v15 _ M1905 v1902 p1 hP1906 (by omega) (by omega) (by omega) (by omega)) (cqI ?_)))))
              rintro v1956 M1952 ⟨hP1953, hQ1954, h1957, h1958⟩
              obtain rfl := Fr.same hQ1954
              refine wk_cv2 r66_74 kc_739_81 rfl (m81_739 _ M1905 v1956 hP1906 (by omega) (by omega)) (cqI ?_)
              rintro v1963 M1959 ⟨hP1960, hQ1961, h1964, h1965⟩
              obtain rfl := Fr.same hQ1961
              refine wk_ifne r66_77 ⟨by omega, by omega⟩ ?_ ?_
              · intro h1966
                refine wk_inc2 r66_95 rfl (wk_goto r66_98 ?_)
                exact wp_fg (le_s (le_s (le_s (le_s le_0)))) (ih1984 (3000 - (v1902 + 1)).toNat (by omega) M1905 (v1902 + 1) rfl hP1906 hF1907 (by omega) (by omega))
              · intro h1967
                refine wk_al0 r66_80 (wk_getfr r66_81 fd_739_57 (br_739_57 hP1906) (wk_al0 r66_84 (wk_getfr r66_85 fd_739_20 (br_739_20 hP1906) (wk_il2 r66_88 (wk_ialdb r66_89 ar_752 ⟨by omega, by omega⟩ (fun q0 q1 => ba_752 hP1906 q0 q1) ?_)))))
                intro v1968 h1970 h1971 e1969
                refine wk_dup2 r66_90 (wk_ialdb r66_91 ar_762 ⟨by omega, by omega⟩ (fun q0 q1 => ba_762 hP1906 q0 q1) ?_)
                intro v1972 h1974 h1975 e1973
                refine wk_c1 r66_92 (wk_iadd r66_93 (wk_wrap ?_))
                intro v1976 h1977 h1978 h1979
                refine wk_iast r66_94 ar_762 ⟨by omega, by omega⟩ (wk_nw (ga_762 _) rfl hP1906 hF1907 (ua_762 ⟨by omega, by omega⟩) ?_)
                intro M1980 hP1981 hF1982 e1983
                refine wk_inc2 r66_95 rfl (wk_goto r66_98 ?_)
                exact wp_fg (le_s (le_s (le_s (le_s le_0)))) (ih1984 (3000 - (v1902 + 1)).toNat (by omega) M1980 (v1902 + 1) rfl hP1981 hF1982 (by omega) (by omega))
          exact wp_fg (le_s (le_s (le_s (le_s le_0)))) (c59_1984 _ M1891 0 rfl hP1892 hF1893 (by omega) (by omega))
        · intro h1985
          refine wk_al0 r66_44 (wk_getfr r66_45 fd_739_57 (br_739_57 hP1892) (wk_il2 r66_48 (wk_c1 r66_49 (wk_iast r66_50 ar_762 ⟨by omega, by omega⟩ (wk_nw (ga_762 _) rfl hP1892 hF1893 (ua_762 (by decide)) ?_)))))
          intro M1986 hP1987 hF1988 e1989
          refine wk_inc2 r66_51 rfl (wk_goto r66_54 ?_)
          exact wp_fg (le_s (le_s (le_s (le_s le_0)))) (ih1990 (4096 - (v1888 + 1)).toNat (by omega) M1986 (v1888 + 1) rfl hP1987 hF1988 (by omega) (by omega))
      exact wp_fg (le_s (le_s (le_s (le_s le_0)))) (c36_1990 _ M22 0 rfl hP23 hF25 (by omega) (by omega))
    · intro h1991
      refine wk_c1 r66_27 ?_
      subst hQ; exact wk_iret r66_28 (⟨rfl, _, rfl, hP14, hF16, by omega, by omega⟩)
  have c19_9 : Wp B (d + 3) 66 19 [some (R 739), some (I p1), none, none] [R 739] M1 Q := by
    refine wk_c1 r66_19 ?_
    exact wp_fg (le_s (le_s (le_s (le_s le_0)))) (c20_1992 0 (by omega) (by omega))
  refine wk_iflt r66_7 ⟨by omega, by omega⟩ ?_ ?_
  · intro h5
    exact wp_fg (le_s (le_s (le_s (le_s le_0)))) c19_9
  · intro h6
    refine wk_il1 r66_10 (wk_c1 r66_11 ?_)
    refine wk_icgt r66_12 ⟨by omega, by omega⟩ (by decide) ?_ ?_
    · intro h7
      exact wp_fg (le_s (le_s (le_s (le_s le_0)))) c19_9
    · intro h8
      refine wk_c1 r66_15 (wk_goto r66_16 ?_)
      exact wp_fg (le_s (le_s (le_s (le_s le_0)))) (c20_1992 1 (by omega) (by omega))
def fm_m80v8 : Nat := 0
/-- IslandHallModel.isAhead -/
theorem m80v8 {B : eB} (d : Nat) (M0 : Mm) (p0 : Int) (p1 : Int) (hP0 : Pw M0) (l0 : 0 ≤ p0) (u0 : p0 ≤ 4095) (l1 : 0 ≤ p1) (u1 : p1 ≤ 4095) : Ct B (d + 2) 80 [I p0, I p1] M0 (qI fun z M => Pw M ∧ Fr fm_m80v8 M0 M ∧ 0 ≤ z ∧ z ≤ 1) := by
  refine ct_of (d := d + 1) (k := 1) (L := [some (I p0), some (I p1), none]) rfl rfl rfl ?_
  have hF0 := Fr.rf fm_m80v8 M0
  generalize hQ : (qI fun z M => Pw M ∧ Fr fm_m80v8 M0 M ∧ 0 ≤ z ∧ z ≤ 1) = Q
  refine wk_il0 r80_0 (wk_cs102_1 r80_1 rfl (m51v8 _ M0 p0 hP0 (by omega) (by omega)) (cqI ?_))
  rintro v5 M1 ⟨hP2, hQ3, h6, h7⟩
  obtain rfl := Fr.same hQ3
  refine wk_il1 r80_4 (wk_cs102_1 r80_5 rfl (m51v8 _ M0 p1 hP0 (by omega) (by omega)) (cqI ?_))
  rintro v12 M8 ⟨hP9, hQ10, h13, h14⟩
  obtain rfl := Fr.same hQ10
  refine wk_iceq r80_8 ⟨by omega, by omega⟩ ⟨by omega, by omega⟩ ?_ ?_
  · intro h15
    refine wk_il0 r80_28 (wk_il1 r80_29 (wk_ixor 12 4096 r80_30 (by decide) ⟨by omega, by omega⟩ ⟨by omega, by omega⟩ ?_))
    intro v16 h17 h18 h19
    refine wk_is2 r80_31 rfl (wk_il0 r80_32 (wk_il2 r80_33 (wk_il2 r80_34 (wk_ineg r80_35 (wk_iandl r80_36 ⟨by omega, by omega⟩ ?_)))))
    intro v20 h21 h22 h23
    refine wk_iand r80_37 ⟨by omega, by omega⟩ ⟨by omega, by omega⟩ ?_
    intro v24 h25 h26 h27 h28
    refine wk_ifeq r80_38 ⟨by omega, by omega⟩ ?_ ?_
    · intro h29
      refine wk_c1 r80_45 ?_
      subst hQ; exact wk_zret r80_46 (by decide) (⟨rfl, _, rfl, hP0, hF0, by omega, by omega⟩)
    · intro h30
      refine wk_c1 r80_41 (wk_goto r80_42 ?_)
      subst hQ; exact wk_zret r80_46 (by decide) (⟨rfl, _, rfl, hP0, hF0, by omega, by omega⟩)
  · intro h31
    refine wk_il0 r80_11 (wk_cs102_1 r80_12 rfl (m51v8 _ M0 p0 hP0 (by omega) (by omega)) (cqI ?_))
    rintro v36 M32 ⟨hP33, hQ34, h37, h38⟩
    obtain rfl := Fr.same hQ34
    refine wk_il1 r80_15 (wk_cs102_1 r80_16 rfl (m51v8 _ M0 p1 hP0 (by omega) (by omega)) (cqI ?_))
    rintro v43 M39 ⟨hP40, hQ41, h44, h45⟩
    obtain rfl := Fr.same hQ41
    refine wk_icge r80_19 ⟨by omega, by omega⟩ ⟨by omega, by omega⟩ ?_ ?_
    · intro h46
      refine wk_c1 r80_26 ?_
      subst hQ; exact wk_zret r80_27 (by decide) (⟨rfl, _, rfl, hP0, hF0, by omega, by omega⟩)
    · intro h47
      refine wk_c1 r80_22 (wk_goto r80_23 ?_)
      subst hQ; exact wk_zret r80_27 (by decide) (⟨rfl, _, rfl, hP0, hF0, by omega, by omega⟩)
