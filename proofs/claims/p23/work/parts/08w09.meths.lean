/-! ===== written by program (wip/layer2/all.py): contracts of methods ===== -/
def fm_m222_170 : Nat := 19807040628566084398385987584
/-- IslandHall$Subsets.spread -/
theorem m222_170 {B : eB} (d : Nat) (M0 : Mm) (p1 : Int) (hP0 : Pw M0) (l1 : 0 ≤ p1) (u1 : p1 ≤ 12) : Ct B (d + 1) 222 [R 170, I p1] M0 (qV fun M => Pw M ∧ Fr fm_m222_170 M0 M) := by
  refine ct_of (d := d + 0) (k := 2) (L := [some (R 170), some (I p1), none, none]) rfl rfl rfl ?_
  have hF0 := Fr.rf fm_m222_170 M0
  generalize hQ : (qV fun M => Pw M ∧ Fr fm_m222_170 M0 M) = Q
  refine wk_c1 r222_0 (wk_is2 r222_1 rfl ?_)
  have c2_684 : ∀ (k684 : Nat) (M641 : Mm) (v638 : Int), (12 - v638).toNat = k684 → Pw M641 → Fr fm_m222_170 M0 M641 → 0 ≤ v638 → v638 ≤ 12 → Wp B (d + 0) 222 2 [some (R 170), some (I p1), some (I v638), none] [] M641 Q := by
    refine lp_ind ?_
    intro k684 ih684 M641 v638 hk684 hP642 hF643 h639 h640
    refine wk_il2 r222_2 (wk_il1 r222_3 ?_)
    refine wk_icge r222_4 ⟨by omega, by omega⟩ ⟨by omega, by omega⟩ ?_ ?_
    · intro h644
      subst hQ; exact wk_ret r222_58 (⟨rfl, hP642, hF643⟩)
    · intro h645
      refine wk_c1 r222_7 (wk_is3 r222_8 rfl ?_)
      have c9_683 : ∀ (k683 : Nat) (M649 : Mm) (v646 : Int), (4096 - v646).toNat = k683 → Pw M649 → Fr fm_m222_170 M0 M649 → 0 ≤ v646 → v646 ≤ 4096 → Wp B (d + 0) 222 9 [some (R 170), some (I p1), some (I v638), some (I v646)] [] M649 Q := by
        refine lp_ind ?_
        intro k683 ih683 M649 v646 hk683 hP650 hF651 h647 h648
        refine wk_il3 r222_9 (wk_c1 r222_10 (wk_il1 r222_11 (wk_shl1 12 4096 r222_12 ⟨by omega, by omega⟩ ⟨pwl_12, by decide⟩ ?_)))
        intro v652 h653 h654 h655
        refine wk_icge r222_13 ⟨by omega, by omega⟩ ⟨by omega, by omega⟩ ?_ ?_
        · intro h656
          refine wk_inc2 r222_52 rfl (wk_goto r222_55 ?_)
          exact wp_fg (le_s (le_s (le_s (le_n le_0)))) (ih684 (12 - (v638 + 1)).toNat (by omega) M649 (v638 + 1) rfl hP650 hF651 (by omega) (by omega))
        · intro h657
          refine wk_il3 r222_16 (wk_il2 r222_17 (wk_shrb r222_18 ⟨by omega, by omega⟩ ⟨by omega, by omega⟩ ?_))
          intro v658 h659 h660 h661
          refine wk_c1 r222_19 (wk_iandc 1 2 r222_20 ⟨rfl, by decide⟩ rfl (wk_c1 r222_21 ?_))
          refine wk_icne r222_22 ⟨by omega, by omega⟩ (by decide) ?_ ?_
          · intro h663
            refine wk_inc3 r222_46 rfl (wk_goto r222_49 ?_)
            exact wp_fg (le_s (le_s (le_s (le_s le_0)))) (ih683 (4096 - (v646 + 1)).toNat (by omega) M649 (v646 + 1) rfl hP650 hF651 (by omega) (by omega))
          · intro h664
            refine wk_al0 r222_25 (wk_getfr r222_26 fd_170_0 (br_170_0 hP650) (wk_il3 r222_29 (wk_baldb r222_30 ar_171 ⟨by omega, by omega⟩ (fun q0 q1 => ba_171 hP650 q0 q1) ?_)))
            intro v665 h667 h668 e666
            refine wk_c1 r222_31 ?_
            refine wk_icne r222_32 ⟨by omega, by omega⟩ (by decide) ?_ ?_
            · intro h669
              refine wk_inc3 r222_46 rfl (wk_goto r222_49 ?_)
              exact wp_fg (le_s (le_s (le_s (le_s le_0)))) (ih683 (4096 - (v646 + 1)).toNat (by omega) M649 (v646 + 1) rfl hP650 hF651 (by omega) (by omega))
            · intro h670
              refine wk_al0 r222_35 (wk_getfr r222_36 fd_170_0 (br_170_0 hP650) (wk_il3 r222_39 (wk_c1 r222_40 (wk_il2 r222_41 (wk_shl1 11 2048 r222_42 ⟨by omega, by omega⟩ ⟨pwl_11, by decide⟩ ?_)))))
              intro v671 h672 h673 h674
              refine wk_ixor 12 4096 r222_43 (by decide) ⟨by omega, by omega⟩ ⟨by omega, by omega⟩ ?_
              intro v675 h676 h677 h678
              refine wk_c1 r222_44 (wk_bast r222_45 ar_171 ⟨by omega, by omega⟩ (by decide) (wk_nw (ga_171 _) rfl hP650 hF651 (ua_171 (by decide)) ?_))
              intro M679 hP680 hF681 e682
              refine wk_inc3 r222_46 rfl (wk_goto r222_49 ?_)
              exact wp_fg (le_s (le_s (le_s (le_s le_0)))) (ih683 (4096 - (v646 + 1)).toNat (by omega) M679 (v646 + 1) rfl hP680 hF681 (by omega) (by omega))
      exact wp_fg (le_s (le_s (le_s (le_s le_0)))) (c9_683 _ M641 0 rfl hP642 hF643 (by omega) (by omega))
  exact wp_fg (le_s (le_s (le_s (le_s le_0)))) (c2_684 _ M0 0 rfl hP0 hF0 (by omega) (by omega))
def fm_m223 : Nat := 0
/-- IslandHall$Subsets.turned -/
theorem m223 {B : eB} (d : Nat) (M0 : Mm) (p0 : Int) (p1 : Int) (hP0 : Pw M0) (l0 : 0 ≤ p0) (u0 : p0 ≤ 4095) (l1 : 0 ≤ p1) (u1 : p1 ≤ 12) : Ct B (d + 1) 223 [I p0, I p1] M0 (qI fun z M => Pw M ∧ Fr fm_m223 M0 M ∧ 0 ≤ z ∧ z ≤ 4095) := by
  refine ct_of (d := d + 0) (k := 2) (L := [some (I p0), some (I p1), none, none]) rfl rfl rfl ?_
  have hF0 := Fr.rf fm_m223 M0
  have hpw0 := pwl_0
  generalize hQ : (qI fun z M => Pw M ∧ Fr fm_m223 M0 M ∧ 0 ≤ z ∧ z ≤ 4095) = Q
  refine wk_c1 r223_0 (wk_is2 r223_1 rfl (wk_c1 r223_2 (wk_is3 r223_3 rfl ?_)))
  have c4_191 : ∀ (k191 : Nat) (v172 : Int) (v175 : Int), (12 - v175).toNat = k191 → 0 ≤ v172 → v172 ≤ 8191 → 0 ≤ v175 → v175 ≤ 12 → 0 ≤ pw v175 + (-1) * v172 + (-1) → Wp B (d + 0) 223 4 [some (I p0), some (I p1), some (I v172), some (I v175)] [] M0 Q := by
    refine lp_ind ?_
    intro k191 ih191 v172 v175 hk191 h173 h174 h176 h177 h178
    have h179 := pw_le (k := v175) (K := 12) (by omega)
    have h180 := pwl_12
    refine wk_il3 r223_4 (wk_il1 r223_5 ?_)
    refine wk_icge r223_6 ⟨by omega, by omega⟩ ⟨by omega, by omega⟩ ?_ ?_
    · intro h181
      have h182 := pw_le (k := v175) (K := 12) (by omega)
      have h183 := pwl_12
      refine wk_il2 r223_25 ?_
      subst hQ; exact wk_iret r223_26 (⟨rfl, _, rfl, hP0, hF0, by omega, by omega⟩)
    · intro h184
      have h185 := pw_succ (k := v175) (by omega)
      refine wk_c1 r223_9 (wk_il2 r223_10 (wk_imul r223_11 (wk_il0 r223_12 (wk_il3 r223_13 (wk_shrb r223_14 ⟨by omega, by omega⟩ ⟨by omega, by omega⟩ ?_)))))
      intro v186 h187 h188 h189
      refine wk_c1 r223_15 (wk_iandc 1 2 r223_16 ⟨rfl, by decide⟩ rfl (wk_iadd r223_17 (wk_is2 r223_18 rfl (wk_inc3 r223_19 rfl (wk_goto r223_22 ?_)))))
      exact wp_fg (le_s (le_s (le_s (le_s le_0)))) (ih191 (12 - (v175 + 1)).toNat (by omega) ((2 * v172) + (v186 % 2)) (v175 + 1) rfl (by omega) (by omega) (by omega) (by omega) (by omega))
  exact wp_fg (le_s (le_s (le_s (le_s le_0)))) (c4_191 _ 0 0 rfl (by omega) (by omega) (by omega) (by omega) (by omega))
def fm_m191_f142v8 : Nat := 0
/-- IslandHall$Realm.holds -/
theorem m191_f142v8 {B : eB} (d : Nat) (M0 : Mm) (a0 : Int) (p1 : Int) (hP0 : Pw M0) (ha0 : 142 ≤ a0) (hb0 : a0 ≤ 153) (l1 : 0 ≤ p1) (u1 : p1 ≤ 2999) : Ct B (d + 1) 191 [R a0, I p1] M0 (qI fun z M => Pw M ∧ Fr fm_m191_f142v8 M0 M ∧ 0 ≤ z ∧ z ≤ 1) := by
  refine ct_of (d := d + 0) (k := 0) (L := [some (R a0), some (I p1)]) rfl rfl rfl ?_
  have hF0 := Fr.rf fm_m191_f142v8 M0
  generalize hQ : (qI fun z M => Pw M ∧ Fr fm_m191_f142v8 M0 M ∧ 0 ≤ z ∧ z ≤ 1) = Q
  refine wk_al0 r191_0 (wk_il1 r191_1 (wk_c2 r191_2 (wk_ishrc r191_4 ⟨by omega, by omega⟩ (by decide) pwl_6 (wk_laldb r191_5 (arF_142 (by omega) (by omega)) ⟨by omega, by omega⟩ (fun q0 q1 => baF_142 hP0 (by omega) (by omega) q0 q1) (by decide) ?_))))
  intro n2 h4 h5 e3
  refine wk_il1 r191_6 (wk_c2 r191_7 (wk_iandc 6 64 r191_9 ⟨rfl, by decide⟩ rfl (wk_lushrb r191_10 (by omega) ⟨by omega, by omega⟩ ?_)))
  intro n6 h7 h8
  refine wk_c6 r191_11 (wk_land r191_12 ?_)
  intro n9 h10 h11 h12 h13
  refine wk_c6 r191_13 ?_
  refine wk_lcmp r191_14 (by omega) (by omega) ?_ ?_
  · intro h14
    refine wk_ifne r191_15 (by decide) ?_ ?_
    · intro h20
      exfalso
      omega
    · intro h21
      refine wk_c1 r191_18 (wk_goto r191_19 ?_)
      subst hQ; exact wk_zret r191_23 (by decide) (⟨rfl, _, rfl, hP0, hF0, by omega, by omega⟩)
  · intro h15 v19 h16 h17 h18
    refine wk_ifne r191_15 ⟨by omega, by omega⟩ ?_ ?_
    · intro h22
      refine wk_c1 r191_22 ?_
      subst hQ; exact wk_zret r191_23 (by decide) (⟨rfl, _, rfl, hP0, hF0, by omega, by omega⟩)
    · intro h23
      exfalso
      omega
def fm_m228_138v8 : Nat := 0
/-- IslandHall$Tale.fitOf -/
theorem m228_138v8 {B : eB} (d : Nat) (M0 : Mm) (p1 : Int) (hP0 : Pw M0) (l1 : 0 ≤ p1) (u1 : p1 ≤ 2999) : Ct B (d + 2) 228 [R 138, I p1] M0 (qI fun z M => Pw M ∧ Fr fm_m228_138v8 M0 M ∧ 0 ≤ z ∧ z ≤ 4095) := by
  refine ct_of (d := d + 1) (k := 2) (L := [some (R 138), some (I p1), none, none]) rfl rfl rfl ?_
  have hF0 := Fr.rf fm_m228_138v8 M0
  have hpw0 := pwl_0
  generalize hQ : (qI fun z M => Pw M ∧ Fr fm_m228_138v8 M0 M ∧ 0 ≤ z ∧ z ≤ 4095) = Q
  refine wk_c1 r228_0 (wk_is2 r228_1 rfl (wk_c1 r228_2 (wk_is3 r228_3 rfl ?_)))
  have c4_271 : ∀ (k271 : Nat) (v244 : Int) (v247 : Int), (12 - v247).toNat = k271 → 0 ≤ v244 → v244 ≤ 8191 → 0 ≤ v247 → v247 ≤ 12 → 0 ≤ pw v247 + (-1) * v244 + (-1) → Wp B (d + 1) 228 4 [some (R 138), some (I p1), some (I v244), some (I v247)] [] M0 Q := by
    refine lp_ind ?_
    intro k271 ih271 v244 v247 hk271 h245 h246 h248 h249 h250
    have h251 := pw_le (k := v247) (K := 12) (by omega)
    have h252 := pwl_12
    refine wk_il3 r228_4 (wk_al0 r228_5 (wk_getfb r228_6 fd_138_5 (bf_138_5 hP0) ?_))
    intro v253 h255 h256 e254
    refine wk_icge r228_9 ⟨by omega, by omega⟩ ⟨by omega, by omega⟩ ?_ ?_
    · intro h257
      have h258 := pw_le (k := v247) (K := 12) (by omega)
      have h259 := pwl_12
      refine wk_il2 r228_41 ?_
      subst hQ; exact wk_iret r228_42 (⟨rfl, _, rfl, hP0, hF0, by omega, by omega⟩)
    · intro h260
      have h261 := pw_succ (k := v247) (by omega)
      refine wk_c1 r228_12 (wk_il2 r228_13 (wk_imul r228_14 (wk_al0 r228_15 (wk_getfr r228_16 fd_138_2 (br_138_2 hP0) (wk_il3 r228_19 (wk_raldb r228_20 ar_141 ⟨by omega, by omega⟩ (fun q0 q1 => ba_141 hP0 q0 q1) (wk_il1 r228_21 (wk_cs102_2 r228_22 rfl (m191_f142v8 _ M0 (142 + v247) p1 hP0 (by omega) (by omega) (by omega) (by omega)) (cqI ?_)))))))))
      rintro v266 M262 ⟨hP263, hQ264, h267, h268⟩
      obtain rfl := Fr.same hQ264
      refine wk_ifeq r228_25 ⟨by omega, by omega⟩ ?_ ?_
      · intro h269
        refine wk_c1 r228_32 (wk_iadd r228_33 (wk_is2 r228_34 rfl (wk_inc3 r228_35 rfl (wk_goto r228_38 ?_))))
        exact wp_fg (le_s (le_s (le_s (le_s le_0)))) (ih271 (12 - (v247 + 1)).toNat (by omega) ((2 * v244) + 0) (v247 + 1) rfl (by omega) (by omega) (by omega) (by omega) (by omega))
      · intro h270
        refine wk_c1 r228_28 (wk_goto r228_29 (wk_iadd r228_33 (wk_is2 r228_34 rfl (wk_inc3 r228_35 rfl (wk_goto r228_38 ?_)))))
        exact wp_fg (le_s (le_s (le_s (le_s le_0)))) (ih271 (12 - (v247 + 1)).toNat (by omega) ((2 * v244) + 1) (v247 + 1) rfl (by omega) (by omega) (by omega) (by omega) (by omega))
  exact wp_fg (le_s (le_s (le_s (le_s le_0)))) (c4_271 _ 0 0 rfl (by omega) (by omega) (by omega) (by omega) (by omega))
def fm_m221_170_138 : Nat := 19811876331844542915084812288
/-- IslandHall$Subsets.leastThatTells -/
theorem m221_170_138 {B : eB} (d : Nat) (M0 : Mm) (p2 : Int) (hP0 : Pw M0) (l2 : 0 ≤ p2) (u2 : p2 ≤ 3) : Ct B (d + 4) 221 [R 170, R 138, I p2] M0 (qI fun z M => Pw M ∧ Fr fm_m221_170_138 M0 M ∧ 0 ≤ z ∧ z ≤ 4095) := by
  refine ct_of (d := d + 3) (k := 3) (L := [some (R 170), some (R 138), some (I p2), none, none, none]) rfl rfl rfl ?_
  have hF0 := Fr.rf fm_m221_170_138 M0
  generalize hQ : (qI fun z M => Pw M ∧ Fr fm_m221_170_138 M0 M ∧ 0 ≤ z ∧ z ≤ 4095) = Q
  refine wk_al1 r221_0 (wk_getfr r221_1 fd_138_0 (br_138_0 hP0) (wk_as3 r221_4 rfl (wk_al1 r221_5 (wk_il2 r221_6 (wk_cv2 r221_7 kc_138_234 rfl (m234_138 _ M0 p2 hP0 (by omega) (by omega)) (cqI ?_))))))
  rintro v5 M1 ⟨hP2, hQ3, h6, h7⟩
  have hF4 : Fr fm_m221_170_138 M0 M1 := hF0.tr hQ3 rfl
  refine wk_popi r221_10 (wk_al0 r221_11 (wk_al1 r221_12 (wk_getfb r221_13 fd_138_5 (bf_138_5 hP2) ?_)))
  intro v8 h10 h11 e9
  refine wk_cv2 r221_16 kc_170_215 rfl (m215_170 _ M1 v8 hP2 (by omega) (by omega)) (cqV ?_)
  rintro M12 ⟨hP13, hQ14⟩
  have hF15 : Fr fm_m221_170_138 M0 M12 := hF4.tr hQ14 rfl
  refine wk_c1 r221_19 (wk_is4 r221_20 rfl ?_)
  have c22_1030 : ∀ (k1030 : Nat) (M935 : Mm) (v932 : Int), (3000 - v932).toNat = k1030 → Pw M935 → Fr fm_m221_170_138 M0 M935 → M935 138 5 = v8 → 0 ≤ v932 → v932 ≤ 3000 → Wp B (d + 3) 221 22 [some (R 170), some (R 138), some (I p2), some (R 10), some (I v932), none] [] M935 Q := by
    refine lp_ind ?_
    intro k1030 ih1030 M935 v932 hk1030 hP936 hF937 e938 h933 h934
    refine wk_il4 r221_22 (wk_al3 r221_24 (wk_getfb r221_25 fd_10_9 (bf_10_9 hP936) ?_))
    intro v939 h941 h942 e940
    refine wk_icge r221_28 ⟨by omega, by omega⟩ ⟨by omega, by omega⟩ ?_ ?_
    · intro h943
      refine wk_al0 r221_71 (wk_al1 r221_72 (wk_getfi r221_73 fd_138_5 e938 (wk_cv2 r221_76 kc_170_222 rfl (m222_170 _ M935 v8 hP936 (by omega) (by omega)) (cqV ?_))))
      rintro M944 ⟨hP945, hQ946⟩
      have hF947 : Fr fm_m221_170_138 M0 M944 := hF937.tr hQ946 rfl
      refine wk_c1 r221_79 (wk_al1 r221_80 (wk_getfi r221_81 fd_138_5 ((hQ946.at g_138_5 rfl).trans e938) (wk_shl1 12 4096 r221_84 ⟨by omega, by omega⟩ ⟨pwl_12, by decide⟩ ?_)))
      intro v948 h949 h950 h951
      refine wk_c1 r221_85 (wk_isub r221_86 (wk_is4 r221_87 rfl (wk_il4 r221_89 (wk_is5 r221_91 rfl ?_))))
      have c93_992 : ∀ (k992 : Nat) (v952 : Int) (v955 : Int), (v955 - (-1)).toNat = k992 → 0 ≤ v952 → v952 ≤ 4095 → (-1) ≤ v955 → v955 ≤ 4095 → 0 ≤ (-1) * v955 + v952 + 0 → Wp B (d + 3) 221 93 [some (R 170), some (R 138), none, none, some (I v952), some (I v955)] [] M944 Q := by
        refine lp_ind ?_
        intro k992 ih992 v952 v955 hk992 h953 h954 h956 h957 h958
        refine wk_il5 r221_93 ?_
        refine wk_iflt r221_95 ⟨by omega, by omega⟩ ?_ ?_
        · intro h959
          refine wk_il4 r221_131 (wk_al1 r221_133 (wk_getfi r221_134 fd_138_5 ((hQ946.at g_138_5 rfl).trans e938) (wk_cs102_2 r221_137 rfl (m223 _ M944 v952 v8 hP945 (by omega) (by omega) (by omega) (by omega)) (cqI ?_))))
          rintro v964 M960 ⟨hP961, hQ962, h965, h966⟩
          obtain rfl := Fr.same hQ962
          subst hQ; exact wk_iret r221_140 (⟨rfl, _, rfl, hP945, hF947, by omega, by omega⟩)
        · intro h967
          refine wk_al0 r221_98 (wk_getfr r221_99 fd_170_0 (br_170_0 hP945) (wk_il5 r221_102 (wk_baldb r221_104 ar_171 ⟨by omega, by omega⟩ (fun q0 q1 => ba_171 hP945 q0 q1) ?_)))
          intro v968 h970 h971 e969
          refine wk_ifne r221_105 ⟨by omega, by omega⟩ ?_ ?_
          · intro h972
            refine wk_inc5 r221_125 rfl (wk_goto r221_128 ?_)
            exact wp_fg (le_s (le_s (le_s (le_s (le_s (le_s le_0)))))) (ih992 ((v955 + (-1)) - (-1)).toNat (by omega) v952 (v955 + (-1)) rfl (by omega) (by omega) (by omega) (by omega) (by omega))
          · intro h973
            refine wk_il5 r221_108 (wk_cs102_1 r221_110 rfl (m246 _ M944 v955 hP945 (by omega) (by omega)) (cqI ?_))
            rintro v979 M974 ⟨hP975, hQ976, h980, h981, xh978⟩
            obtain rfl := Fr.same hQ976
            refine wk_il4 r221_113 (wk_cs102_1 r221_115 rfl (m246 _ M944 v952 hP945 (by omega) (by omega)) (cqI ?_))
            rintro v987 M982 ⟨hP983, hQ984, h988, h989, xh986⟩
            obtain rfl := Fr.same hQ984
            refine wk_icge r221_118 ⟨by omega, by omega⟩ ⟨by omega, by omega⟩ ?_ ?_
            · intro h990
              refine wk_inc5 r221_125 rfl (wk_goto r221_128 ?_)
              exact wp_fg (le_s (le_s (le_s (le_s (le_s (le_s le_0)))))) (ih992 ((v955 + (-1)) - (-1)).toNat (by omega) v952 (v955 + (-1)) rfl (by omega) (by omega) (by omega) (by omega) (by omega))
            · intro h991
              refine wk_il5 r221_121 (wk_is4 r221_123 rfl (wk_inc5 r221_125 rfl (wk_goto r221_128 ?_)))
              exact wp_fg (le_s (le_s (le_s (le_s (le_s (le_s le_0)))))) (ih992 ((v955 + (-1)) - (-1)).toNat (by omega) v955 (v955 + (-1)) rfl (by omega) (by omega) (by omega) (by omega) (by omega))
      exact wp_fg (le_s (le_s (le_n (le_n (le_s (le_s le_0)))))) (c93_992 _ (v948 - 1) (v948 - 1) rfl (by omega) (by omega) (by omega) (by omega) (by omega))
    · intro h993
      refine wk_al1 r221_31 (wk_cv1 r221_32 kc_138_233 rfl (m233_138 _ M935 hP936) (cqR ?_))
      rintro v998 M994 ⟨hP995, hQ996, h999, h1000⟩
      obtain rfl : v998 = 155 := by omega
      obtain rfl := Fr.same hQ996
      refine wk_il4 r221_35 (wk_cs102_2 r221_37 rfl (m191_f155v8 _ M935 155 v932 hP936 (by omega) (by omega) (by omega) (by omega)) (cqI ?_))
      rintro v1005 M1001 ⟨hP1002, hQ1003, h1006, h1007⟩
      obtain rfl := Fr.same hQ1003
      refine wk_ifeq r221_40 ⟨by omega, by omega⟩ ?_ ?_
      · intro h1008
        refine wk_inc4 r221_65 rfl (wk_goto r221_68 ?_)
        exact wp_fg (le_s (le_s (le_s (le_s (le_s (le_s le_0)))))) (ih1030 (3000 - (v932 + 1)).toNat (by omega) M935 (v932 + 1) rfl hP936 hF937 e938 (by omega) (by omega))
      · intro h1009
        refine wk_al1 r221_43 (wk_il4 r221_44 (wk_il2 r221_46 (wk_cv3 r221_47 kc_138_232 rfl (m232_138v8 _ M935 v932 p2 hP936 (by omega) (by omega) (by omega) (by omega)) (cqI ?_))))
        rintro v1014 M1010 ⟨hP1011, hQ1012, h1015, h1016⟩
        obtain rfl := Fr.same hQ1012
        refine wk_ifne r221_50 ⟨by omega, by omega⟩ ?_ ?_
        · intro h1017
          refine wk_inc4 r221_65 rfl (wk_goto r221_68 ?_)
          exact wp_fg (le_s (le_s (le_s (le_s (le_s (le_s le_0)))))) (ih1030 (3000 - (v932 + 1)).toNat (by omega) M935 (v932 + 1) rfl hP936 hF937 e938 (by omega) (by omega))
        · intro h1018
          refine wk_al0 r221_53 (wk_getfr r221_54 fd_170_0 (br_170_0 hP936) (wk_al1 r221_57 (wk_il4 r221_58 (wk_cv2 r221_60 kc_138_228 rfl (m228_138v8 _ M935 v932 hP936 (by omega) (by omega)) (cqI ?_)))))
          rintro v1023 M1019 ⟨hP1020, hQ1021, h1024, h1025⟩
          obtain rfl := Fr.same hQ1021
          refine wk_c1 r221_63 (wk_bast r221_64 ar_171 ⟨by omega, by omega⟩ (by decide) (wk_nw (ga_171 _) rfl hP936 hF937 (ua_171 (by decide)) ?_))
          intro M1026 hP1027 hF1028 e1029
          refine wk_inc4 r221_65 rfl (wk_goto r221_68 ?_)
          exact wp_fg (le_s (le_s (le_s (le_s (le_s (le_s le_0)))))) (ih1030 (3000 - (v932 + 1)).toNat (by omega) M1026 (v932 + 1) rfl hP1027 hF1028 (mUp_no e1029 e938 (Or.inl (by decide))) (by omega) (by omega))
  exact wp_fg (le_s (le_s (le_s (le_s (le_s (le_s le_0)))))) (c22_1030 _ M12 0 rfl hP13 hF15 ((hQ14.at g_138_5 rfl).trans e9) (by omega) (by omega))
def fm_m16_0 : Nat := 19811876331844542915084812288
/-- IslandHall.enough -/
theorem m16_0 {B : eB} (d : Nat) (M0 : Mm) (p1 : Int) (hP0 : Pw M0) (l1 : (-2147483648) ≤ p1) (u1 : p1 ≤ 2147483647) : Ct B (d + 5) 16 [R 0, I p1] M0 (qX 0 (fun M => Pw M ∧ Fr (fm_m16_0 ||| 1) M0 M ∧ M (-1) 0 = M0 (-1) 0 + 1) (qI fun z M => Pw M ∧ Fr fm_m16_0 M0 M ∧ 0 ≤ z ∧ z ≤ 4095)) := by
  refine ct_of (d := d + 4) (k := 0) (L := [some (R 0), some (I p1)]) rfl rfl rfl ?_
  have hF0 := Fr.rf fm_m16_0 M0
  generalize hQ : (qX 0 (fun M => Pw M ∧ Fr (fm_m16_0 ||| 1) M0 M ∧ M (-1) 0 = M0 (-1) 0 + 1) (qI fun z M => Pw M ∧ Fr fm_m16_0 M0 M ∧ 0 ≤ z ∧ z ≤ 4095)) = Q
  refine wk_il1 r16_0 (wk_cs102_1 r16_1 rfl (m29 _ M0 p1 hP0 (by omega) (by omega)) (cqX (fun _ _ x5 => by subst hQ; exact Or.inl ⟨rfl, x5.1, Fr.trx hF0 x5.2.1 rfl, (by rw [x5.2.2, hF0.at g_below rfl])⟩) (cqV ?_)))
  rintro M1 ⟨hP2, hQ3, h8, h9⟩
  obtain rfl := Fr.same hQ3
  refine wk_al0 r16_4 (wk_getfr r16_5 fd_0_12 (br_0_12 hP0) (wk_al0 r16_8 (wk_getfr r16_9 fd_0_7 (br_0_7 hP0) (wk_il1 r16_12 (wk_cv3 r16_13 kc_170_221 rfl (m221_170_138 _ M0 p1 hP0 (by omega) (by omega)) (cqI ?_))))))
  rintro v14 M10 ⟨hP11, hQ12, h15, h16⟩
  have hF13 : Fr fm_m16_0 M0 M10 := hF0.tr hQ12 rfl
  subst hQ; exact wk_iret r16_16 (Or.inr ⟨rfl, _, rfl, hP11, hF13, by omega, by omega⟩)
def fm_m220_170 : Nat := 0
/-- IslandHall$Subsets.isKnot -/
theorem m220_170 {B : eB} (d : Nat) (M0 : Mm) (p1 : Int) (p2 : Int) (hP0 : Pw M0) (l1 : 0 ≤ p1) (u1 : p1 ≤ 4095) (l2 : 0 ≤ p2) (u2 : p2 ≤ 12) : Ct B (d + 1) 220 [R 170, I p1, I p2] M0 (qI fun z M => Pw M ∧ Fr fm_m220_170 M0 M ∧ 0 ≤ z ∧ z ≤ 1) := by
  refine ct_of (d := d + 0) (k := 1) (L := [some (R 170), some (I p1), some (I p2), none]) rfl rfl rfl ?_
  have hF0 := Fr.rf fm_m220_170 M0
  generalize hQ : (qI fun z M => Pw M ∧ Fr fm_m220_170 M0 M ∧ 0 ≤ z ∧ z ≤ 1) = Q
  refine wk_al0 r220_0 (wk_getfr r220_1 fd_170_0 (br_170_0 hP0) (wk_il1 r220_4 (wk_baldb r220_5 ar_171 ⟨by omega, by omega⟩ (fun q0 q1 => ba_171 hP0 q0 q1) ?_)))
  intro v1 h3 h4 e2
  refine wk_c1 r220_6 ?_
  refine wk_icne r220_7 ⟨by omega, by omega⟩ (by decide) ?_ ?_
  · intro h5
    refine wk_c1 r220_12 (wk_is3 r220_13 rfl ?_)
    have c14_214 : ∀ (k214 : Nat) (v188 : Int), (12 - v188).toNat = k214 → 0 ≤ v188 → v188 ≤ 12 → Wp B (d + 0) 220 14 [some (R 170), some (I p1), some (I p2), some (I v188)] [] M0 Q := by
      refine lp_ind ?_
      intro k214 ih214 v188 hk214 h189 h190
      refine wk_il3 r220_14 (wk_il2 r220_15 ?_)
      refine wk_icge r220_16 ⟨by omega, by omega⟩ ⟨by omega, by omega⟩ ?_ ?_
      · intro h191
        refine wk_c1 r220_49 ?_
        subst hQ; exact wk_zret r220_50 (by decide) (⟨rfl, _, rfl, hP0, hF0, by omega, by omega⟩)
      · intro h192
        refine wk_il1 r220_19 (wk_il3 r220_20 (wk_shrb r220_21 ⟨by omega, by omega⟩ ⟨by omega, by omega⟩ ?_))
        intro v193 h194 h195 h196
        refine wk_c1 r220_22 (wk_iandc 1 2 r220_23 ⟨rfl, by decide⟩ rfl (wk_c1 r220_24 ?_))
        refine wk_icne r220_25 ⟨by omega, by omega⟩ (by decide) ?_ ?_
        · intro h198
          refine wk_inc3 r220_43 rfl (wk_goto r220_46 ?_)
          exact wp_fg (le_s (le_s (le_s (le_s le_0)))) (ih214 (12 - (v188 + 1)).toNat (by omega) (v188 + 1) rfl (by omega) (by omega))
        · intro h199
          refine wk_al0 r220_28 (wk_getfr r220_29 fd_170_0 (br_170_0 hP0) (wk_il1 r220_32 (wk_c1 r220_33 (wk_il3 r220_34 (wk_shl1 11 2048 r220_35 ⟨by omega, by omega⟩ ⟨pwl_11, by decide⟩ ?_)))))
          intro v200 h201 h202 h203
          refine wk_ixor 12 4096 r220_36 (by decide) ⟨by omega, by omega⟩ ⟨by omega, by omega⟩ ?_
          intro v204 h205 h206 h207
          refine wk_baldb r220_37 ar_171 ⟨by omega, by omega⟩ (fun q0 q1 => ba_171 hP0 q0 q1) ?_
          intro v208 h210 h211 e209
          refine wk_ifne r220_38 ⟨by omega, by omega⟩ ?_ ?_
          · intro h212
            refine wk_inc3 r220_43 rfl (wk_goto r220_46 ?_)
            exact wp_fg (le_s (le_s (le_s (le_s le_0)))) (ih214 (12 - (v188 + 1)).toNat (by omega) (v188 + 1) rfl (by omega) (by omega))
          · intro h213
            refine wk_c1 r220_41 ?_
            subst hQ; exact wk_zret r220_42 (by decide) (⟨rfl, _, rfl, hP0, hF0, by omega, by omega⟩)
    exact wp_fg (le_s (le_s (le_s (le_s le_0)))) (c14_214 _ 0 rfl (by omega) (by omega))
  · intro h215
    refine wk_c1 r220_10 ?_
    subst hQ; exact wk_zret r220_11 (by decide) (⟨rfl, _, rfl, hP0, hF0, by omega, by omega⟩)
def fm_m218_170 : Nat := 123794003928538027489912422400
/-- IslandHall$Subsets.gatherKnots -/
theorem m218_170 {B : eB} (d : Nat) (M0 : Mm) (p1 : Int) (hP0 : Pw M0) (l1 : 0 ≤ p1) (u1 : p1 ≤ 12) : Ct B (d + 2) 218 [R 170, I p1] M0 (qV fun M => Pw M ∧ Fr fm_m218_170 M0 M) := by
  refine ct_of (d := d + 1) (k := 3) (L := [some (R 170), some (I p1), none, none, none]) rfl rfl rfl ?_
  have hF0 := Fr.rf fm_m218_170 M0
  generalize hQ : (qV fun M => Pw M ∧ Fr fm_m218_170 M0 M) = Q
  refine wk_c1 r218_0 (wk_is2 r218_1 rfl (wk_c1 r218_2 (wk_il1 r218_3 (wk_shl1 12 4096 r218_4 ⟨by omega, by omega⟩ ⟨pwl_12, by decide⟩ ?_))))
  intro v1 h2 h3 h4
  refine wk_c1 r218_5 (wk_isub r218_6 (wk_is3 r218_7 rfl ?_))
  have c8_2724 : ∀ (k2724 : Nat) (M2592 : Mm) (v2586 : Int) (v2589 : Int), (v2589 - (-1)).toNat = k2724 → Pw M2592 → Fr fm_m218_170 M0 M2592 → 0 ≤ v2586 → v2586 ≤ 924 → (-1) ≤ v2589 → v2589 ≤ 4095 → 0 ≤ (-1) * v2589 + v2586 + 4095 → Wp B (d + 1) 218 8 [some (R 170), some (I p1), some (I v2586), some (I v2589), none] [] M2592 Q := by
    refine lp_ind ?_
    intro k2724 ih2724 M2592 v2586 v2589 hk2724 hP2593 hF2594 h2587 h2588 h2590 h2591 h2595
    refine wk_il3 r218_8 ?_
    have c44_2723 : Wp B (d + 1) 218 44 [some (R 170), some (I p1), some (I v2586), none, none] [] M2592 Q := by
      obtain ⟨u2613, hu2614⟩ : ∃ u : Int → Int, ∀ k, M2592 172 k = u k := ⟨fun k => M2592 172 k, fun k => rfl⟩
      refine wk_al0 r218_44 (wk_c1 r218_45 (wk_putfi81 r218_46 fd_170_3 (wk_nw g_170_3 rfl hP2593 hF2594 (uf_170_3 (by decide)) ?_)))
      intro M2615 hP2616 hF2617 e2618
      refine wk_c1 r218_49 (wk_is3 r218_50 rfl ?_)
      have c51_2722 : ∀ (k2722 : Nat) (M2622 : Mm) (v2619 : Int) (v2625 : Int), (13 - v2619).toNat = k2722 → Pw M2622 → Fr fm_m218_170 M0 M2622 → M2622 170 3 = v2625 → 0 ≤ v2619 → v2619 ≤ 13 → 0 ≤ v2625 → v2625 ≤ 2147483647 → (∀ k, M2622 172 k = u2613 k) → (v2625 = Cn (fun k => bcF (u2613 k)) v2619 0 (v2586).toNat) → Wp B (d + 1) 218 51 [some (R 170), some (I p1), some (I v2586), some (I v2619), none] [] M2622 Q := by
        refine lp_ind ?_
        intro k2722 ih2722 M2622 v2619 v2625 hk2722 hP2623 hF2624 e2628 h2620 h2621 h2626 h2627 hu2629 ti2630
        refine wk_il3 r218_51 (wk_il1 r218_52 ?_)
        refine wk_icgt r218_53 ⟨by omega, by omega⟩ ⟨by omega, by omega⟩ ?_ ?_
        · intro h2631
          subst hQ; exact wk_ret r218_121 (⟨rfl, hP2623, hF2624⟩)
        · intro h2632
          refine wk_c1 r218_56 (wk_is4 r218_57 rfl ?_)
          have c59_2721 : ∀ (k2721 : Nat) (M2680 : Mm) (v2677 : Int) (v2683 : Int), (924 - v2677).toNat = k2721 → Pw M2680 → Fr fm_m218_170 M0 M2680 → M2680 170 3 = v2683 → 0 ≤ v2677 → v2677 ≤ 924 → 0 ≤ v2683 → v2683 ≤ 2147483647 → (∀ k, M2680 172 k = u2613 k) → (v2683 = Cn (fun k => bcF (u2613 k)) v2619 v2677 (v2586).toNat) → Wp B (d + 1) 218 59 [some (R 170), some (I p1), some (I v2586), some (I v2619), some (I v2677)] [] M2680 Q := by
            refine lp_ind ?_
            intro k2721 ih2721 M2680 v2677 v2683 hk2721 hP2681 hF2682 e2686 h2678 h2679 h2684 h2685 hu2687 ti2688
            refine wk_il4 r218_59 (wk_il2 r218_61 ?_)
            refine wk_icge r218_62 ⟨by omega, by omega⟩ ⟨by omega, by omega⟩ ?_ ?_
            · intro h2689
              refine wk_inc3 r218_115 rfl (wk_goto r218_118 ?_)
              exact wp_fg (le_s (le_s (le_s (le_s (le_n le_0))))) (ih2722 (13 - (v2619 + 1)).toNat (by omega) M2680 (v2619 + 1) v2683 rfl hP2681 hF2682 e2686 (by omega) (by omega) (by omega) (by omega) hu2687 (by rw [← cn_end (f := fun k => bcF (u2613 k)) (m := v2619) (N := v2677) (v2586).toNat (by omega)]; first | assumption | omega))
            · intro h2690
              refine wk_al0 r218_65 (wk_getfr r218_66 fd_170_1 (br_170_1 hP2681) (wk_il4 r218_69 (wk_ialdb r218_71 ar_172 ⟨by omega, by omega⟩ (fun q0 q1 => ba_172 hP2681 q0 q1) ?_)))
              intro v2691 h2693 h2694 e2692
              refine wk_cs102_1 r218_72 rfl (m246 _ M2680 v2691 hP2681 (by omega) (by omega)) (cqI ?_)
              rintro v2700 M2695 ⟨hP2696, hQ2697, h2701, h2702, xh2699⟩
              obtain rfl := Fr.same hQ2697
              refine wk_il3 r218_75 ?_
              refine wk_icne r218_76 ⟨by omega, by omega⟩ ⟨by omega, by omega⟩ ?_ ?_
              · intro h2703
                refine wk_inc4 r218_109 rfl (wk_goto r218_112 ?_)
                exact wp_fg (le_s (le_s (le_s (le_s (le_s le_0))))) (ih2721 (924 - (v2677 + 1)).toNat (by omega) M2680 (v2677 + 1) v2683 rfl hP2681 hF2682 e2686 (by omega) (by omega) (by omega) (by omega) hu2687 (by first | (rw [cn_ne (by show bcF (u2613 v2677) ≠ v2619; rw [← hu2687 v2677, e2692]; omega)]; first | assumption | omega) | (rw [cn_eq (by omega) (by show bcF (u2613 v2677) = v2619; rw [← hu2687 v2677, e2692]; omega), if_pos (by omega)]; omega)))
              · intro h2704
                have h2705 := cn_lt (f := fun k => bcF (u2613 k)) (m := v2619) (i := v2677) (n := (v2586).toNat) (by omega) (by omega) (by show bcF (u2613 v2677) = v2619; rw [← hu2687 v2677, e2692]; omega)
                refine wk_al0 r218_79 (wk_getfr r218_80 fd_170_2 (br_170_2 hP2681) (wk_al0 r218_83 (wk_getfi r218_84 fd_170_3 e2686 (wk_al0 r218_87 (wk_getfr r218_88 fd_170_1 (br_170_1 hP2681) (wk_il4 r218_91 (wk_iald r218_93 ar_172 ⟨by omega, by omega⟩ e2692 (wk_il1 r218_94 (wk_cs102_2 r218_95 rfl (m223 _ M2680 v2691 p1 hP2681 (by omega) (by omega) (by omega) (by omega)) (cqI ?_))))))))))
                rintro v2710 M2706 ⟨hP2707, hQ2708, h2711, h2712⟩
                obtain rfl := Fr.same hQ2708
                refine wk_iast r218_98 ar_173 ⟨by omega, by omega⟩ (wk_nw (ga_173 _) rfl hP2681 hF2682 (ua_173 ⟨by omega, by omega⟩) ?_)
                intro M2713 hP2714 hF2715 e2716
                refine wk_al0 r218_99 (wk_dupr r218_100 (wk_getfi r218_101 fd_170_3 (mUp_no e2716 e2686 (Or.inl (by decide))) (wk_c1 r218_104 (wk_iadd r218_105 (wk_putfi81 r218_106 fd_170_3 (wk_nw g_170_3 rfl hP2714 hF2715 (uf_170_3 ⟨by omega, by omega⟩) ?_))))))
                intro M2717 hP2718 hF2719 e2720
                refine wk_inc4 r218_109 rfl (wk_goto r218_112 ?_)
                exact wp_fg (le_s (le_s (le_s (le_s (le_s le_0))))) (ih2721 (924 - (v2677 + 1)).toNat (by omega) M2717 (v2677 + 1) (v2683 + 1) rfl hP2718 hF2719 (mUp_at e2720) (by omega) (by omega) (by omega) (by omega) (fun k => mUp_no e2720 ((fun k => mUp_no e2716 (hu2687 k) (Or.inl (by decide))) k) (Or.inl (by decide))) (by first | (rw [cn_ne (by show bcF (u2613 v2677) ≠ v2619; rw [← hu2687 v2677, e2692]; omega)]; first | assumption | omega) | (rw [cn_eq (by omega) (by show bcF (u2613 v2677) = v2619; rw [← hu2687 v2677, e2692]; omega), if_pos (by omega)]; omega)))
          exact wp_fg (le_s (le_s (le_s (le_s (le_s le_0))))) (c59_2721 _ M2622 0 v2625 rfl hP2623 hF2624 e2628 (by omega) (by omega) (by omega) (by omega) hu2629 (by first | assumption | omega))
      exact wp_fg (le_s (le_s (le_s (le_s (le_s le_0))))) (c51_2722 _ M2615 0 0 rfl hP2616 hF2617 (mUp_at e2618) (by omega) (by omega) (by omega) (by omega) (fun k => mUp_no e2618 (hu2614 k) (Or.inl (by decide))) (by rw [cn_zero (fun k => bcF_nn _)]))
    refine wk_iflt r218_9 ⟨by omega, by omega⟩ ?_ ?_
    · intro h2596
      exact wp_fg (le_s (le_s (le_s (le_n (le_s le_0))))) c44_2723
    · intro h2597
      refine wk_il2 r218_12 (wk_c3 r218_13 ?_)
      refine wk_icge r218_16 ⟨by omega, by omega⟩ (by decide) ?_ ?_
      · intro h2598
        exact wp_fg (le_s (le_s (le_s (le_n (le_s le_0))))) c44_2723
      · intro h2599
        refine wk_al0 r218_19 (wk_il3 r218_20 (wk_il1 r218_21 (wk_cv3 r218_22 kc_170_220 rfl (m220_170 _ M2592 v2589 p1 hP2593 (by omega) (by omega) (by omega) (by omega)) (cqI ?_))))
        rintro v2604 M2600 ⟨hP2601, hQ2602, h2605, h2606⟩
        obtain rfl := Fr.same hQ2602
        refine wk_ifeq r218_25 ⟨by omega, by omega⟩ ?_ ?_
        · intro h2607
          refine wk_inc3 r218_38 rfl (wk_goto r218_41 ?_)
          exact wp_fg (le_s (le_s (le_s (le_s (le_s le_0))))) (ih2724 ((v2589 + (-1)) - (-1)).toNat (by omega) M2592 v2586 (v2589 + (-1)) rfl hP2593 hF2594 (by omega) (by omega) (by omega) (by omega) (by omega))
        · intro h2608
          refine wk_al0 r218_28 (wk_getfr r218_29 fd_170_1 (br_170_1 hP2593) (wk_il2 r218_32 (wk_il3 r218_33 (wk_iast r218_34 ar_172 ⟨by omega, by omega⟩ (wk_nw (ga_172 _) rfl hP2593 hF2594 (ua_172 ⟨by omega, by omega⟩) ?_)))))
          intro M2609 hP2610 hF2611 e2612
          refine wk_inc2 r218_35 rfl (wk_inc3 r218_38 rfl (wk_goto r218_41 ?_))
          exact wp_fg (le_s (le_s (le_s (le_s (le_s le_0))))) (ih2724 ((v2589 + (-1)) - (-1)).toNat (by omega) M2609 (v2586 + 1) (v2589 + (-1)) rfl hP2610 hF2611 (by omega) (by omega) (by omega) (by omega) (by omega))
  exact wp_fg (le_s (le_s (le_s (le_s (le_s le_0))))) (c8_2724 _ M0 0 (v1 - 1) rfl hP0 hF0 (by omega) (by omega) (by omega) (by omega) (by omega))
def fm_m216_170_138 : Nat := 153504564871387154087491403776
/-- IslandHall$Subsets.findKnots -/
theorem m216_170_138 {B : eB} (d : Nat) (M0 : Mm) (hP0 : Pw M0)  : Ct B (d + 3) 216 [R 170, R 138] M0 (qV fun M => Pw M ∧ Fr fm_m216_170_138 M0 M) := by
  refine ct_of (d := d + 2) (k := 1) (L := [some (R 170), some (R 138), none]) rfl rfl rfl ?_
  have hF0 := Fr.rf fm_m216_170_138 M0
  generalize hQ : (qV fun M => Pw M ∧ Fr fm_m216_170_138 M0 M) = Q
  refine wk_al0 r216_0 (wk_getfb r216_1 fd_170_4 (bf_170_4 hP0) ?_)
  intro v1 h3 h4 e2
  refine wk_ifeq r216_4 ⟨by omega, by omega⟩ ?_ ?_
  · intro h5
    refine wk_al0 r216_8 (wk_al1 r216_9 (wk_getfb r216_10 fd_138_5 (bf_138_5 hP0) ?_))
    intro v6 h8 h9 e7
    refine wk_cv2 r216_13 kc_170_215 rfl (m215_170 _ M0 v6 hP0 (by omega) (by omega)) (cqV ?_)
    rintro M10 ⟨hP11, hQ12⟩
    have hF13 : Fr fm_m216_170_138 M0 M10 := hF0.tr hQ12 rfl
    refine wk_c1 r216_16 (wk_is2 r216_17 rfl ?_)
    have c18_544 : ∀ (k544 : Nat) (M494 : Mm) (v491 : Int), (3000 - v491).toNat = k544 → Pw M494 → Fr fm_m216_170_138 M0 M494 → M494 170 4 = v1 → M494 138 5 = v6 → 0 ≤ v491 → v491 ≤ 3000 → Wp B (d + 2) 216 18 [some (R 170), some (R 138), some (I v491)] [] M494 Q := by
      refine lp_ind ?_
      intro k544 ih544 M494 v491 hk544 hP495 hF496 e497 e498 h492 h493
      refine wk_il2 r216_18 (wk_al1 r216_19 (wk_getfr r216_20 fd_138_0 (br_138_0 hP495) (wk_getfb r216_23 fd_10_9 (bf_10_9 hP495) ?_)))
      intro v499 h501 h502 e500
      refine wk_icge r216_26 ⟨by omega, by omega⟩ ⟨by omega, by omega⟩ ?_ ?_
      · intro h503
        refine wk_al0 r216_57 (wk_al1 r216_58 (wk_getfi r216_59 fd_138_5 e498 (wk_cv2 r216_62 kc_170_222 rfl (m222_170 _ M494 v6 hP495 (by omega) (by omega)) (cqV ?_))))
        rintro M504 ⟨hP505, hQ506⟩
        have hF507 : Fr fm_m216_170_138 M0 M504 := hF496.tr hQ506 rfl
        refine wk_al0 r216_65 (wk_al1 r216_66 (wk_getfi r216_67 fd_138_5 ((hQ506.at g_138_5 rfl).trans e498) (wk_cv2 r216_70 kc_170_218 rfl (m218_170 _ M504 v6 hP505 (by omega) (by omega)) (cqV ?_))))
        rintro M508 ⟨hP509, hQ510⟩
        have hF511 : Fr fm_m216_170_138 M0 M508 := hF507.tr hQ510 rfl
        refine wk_al0 r216_73 (wk_c1 r216_74 (wk_putfz81 r216_75 fd_170_4 (by decide) (wk_nw g_170_4 rfl hP509 hF511 (uf_170_4 (by decide)) ?_)))
        intro M512 hP513 hF514 e515
        subst hQ; exact wk_ret r216_78 (⟨rfl, hP513, hF514⟩)
      · intro h516
        refine wk_al1 r216_29 (wk_cv1 r216_30 kc_138_233 rfl (m233_138 _ M494 hP495) (cqR ?_))
        rintro v521 M517 ⟨hP518, hQ519, h522, h523⟩
        obtain rfl : v521 = 155 := by omega
        obtain rfl := Fr.same hQ519
        refine wk_il2 r216_33 (wk_cs102_2 r216_34 rfl (m191_f155v8 _ M494 155 v491 hP495 (by omega) (by omega) (by omega) (by omega)) (cqI ?_))
        rintro v528 M524 ⟨hP525, hQ526, h529, h530⟩
        obtain rfl := Fr.same hQ526
        refine wk_ifeq r216_37 ⟨by omega, by omega⟩ ?_ ?_
        · intro h531
          refine wk_inc2 r216_51 rfl (wk_goto r216_54 ?_)
          exact wp_fg (le_s (le_s (le_s le_0))) (ih544 (3000 - (v491 + 1)).toNat (by omega) M494 (v491 + 1) rfl hP495 hF496 e497 e498 (by omega) (by omega))
        · intro h532
          refine wk_al0 r216_40 (wk_getfr r216_41 fd_170_0 (br_170_0 hP495) (wk_al1 r216_44 (wk_il2 r216_45 (wk_cv2 r216_46 kc_138_228 rfl (m228_138v8 _ M494 v491 hP495 (by omega) (by omega)) (cqI ?_)))))
          rintro v537 M533 ⟨hP534, hQ535, h538, h539⟩
          obtain rfl := Fr.same hQ535
          refine wk_c1 r216_49 (wk_bast r216_50 ar_171 ⟨by omega, by omega⟩ (by decide) (wk_nw (ga_171 _) rfl hP495 hF496 (ua_171 (by decide)) ?_))
          intro M540 hP541 hF542 e543
          refine wk_inc2 r216_51 rfl (wk_goto r216_54 ?_)
          exact wp_fg (le_s (le_s (le_s le_0))) (ih544 (3000 - (v491 + 1)).toNat (by omega) M540 (v491 + 1) rfl hP541 hF542 (mUp_no e543 e497 (Or.inl (by decide))) (mUp_no e543 e498 (Or.inl (by decide))) (by omega) (by omega))
    exact wp_fg (le_s (le_s (le_s le_0))) (c18_544 _ M10 0 rfl hP11 hF13 ((hQ12.at g_170_4 rfl).trans e2) ((hQ12.at g_138_5 rfl).trans e7) (by omega) (by omega))
  · intro h545
    subst hQ; exact wk_ret r216_7 (⟨rfl, hP0, hF0⟩)
def fm_m26_0 : Nat := 153504564871387154087491403776
/-- IslandHall.knots -/
theorem m26_0 {B : eB} (d : Nat) (M0 : Mm) (hP0 : Pw M0)  : Ct B (d + 4) 26 [R 0] M0 (qI fun z M => Pw M ∧ Fr fm_m26_0 M0 M ∧ 0 ≤ z ∧ z ≤ 924) := by
  refine ct_of (d := d + 3) (k := 0) (L := [some (R 0)]) rfl rfl rfl ?_
  have hF0 := Fr.rf fm_m26_0 M0
  generalize hQ : (qI fun z M => Pw M ∧ Fr fm_m26_0 M0 M ∧ 0 ≤ z ∧ z ≤ 924) = Q
  refine wk_al0 r26_0 (wk_getfr r26_1 fd_0_12 (br_0_12 hP0) (wk_al0 r26_4 (wk_getfr r26_5 fd_0_7 (br_0_7 hP0) (wk_cv2 r26_8 kc_170_216 rfl (m216_170_138 _ M0 hP0) (cqV ?_)))))
  rintro M1 ⟨hP2, hQ3⟩
  have hF4 : Fr fm_m26_0 M0 M1 := hF0.tr hQ3 rfl
  refine wk_al0 r26_11 (wk_getfr r26_12 fd_0_12 (br_0_12 hP2) (wk_getfb r26_15 fd_170_3 (bf_170_3 hP2) ?_))
  intro v5 h7 h8 e6
  subst hQ; exact wk_iret r26_18 (⟨rfl, _, rfl, hP2, hF4, by omega, by omega⟩)
def fm_m25_0 : Nat := 153504564871387154087491403776
/-- IslandHall.knot -/
theorem m25_0 {B : eB} (d : Nat) (M0 : Mm) (p1 : Int) (hP0 : Pw M0) (l1 : (-2147483648) ≤ p1) (u1 : p1 ≤ 2147483647) : Ct B (d + 4) 25 [R 0, I p1] M0 (qX 0 (fun M => Pw M ∧ Fr (fm_m25_0 ||| 1) M0 M ∧ M (-1) 0 = M0 (-1) 0 + 1) (qI fun z M => Pw M ∧ Fr fm_m25_0 M0 M ∧ 0 ≤ z ∧ z ≤ 4095)) := by
  refine ct_of (d := d + 3) (k := 0) (L := [some (R 0), some (I p1)]) rfl rfl rfl ?_
  have hF0 := Fr.rf fm_m25_0 M0
  generalize hQ : (qX 0 (fun M => Pw M ∧ Fr (fm_m25_0 ||| 1) M0 M ∧ M (-1) 0 = M0 (-1) 0 + 1) (qI fun z M => Pw M ∧ Fr fm_m25_0 M0 M ∧ 0 ≤ z ∧ z ≤ 4095)) = Q
  refine wk_al0 r25_0 (wk_getfr r25_1 fd_0_12 (br_0_12 hP0) (wk_al0 r25_4 (wk_getfr r25_5 fd_0_7 (br_0_7 hP0) (wk_cv2 r25_8 kc_170_216 rfl (m216_170_138 _ M0 hP0) (cqV ?_)))))
  rintro M1 ⟨hP2, hQ3⟩
  have hF4 : Fr fm_m25_0 M0 M1 := hF0.tr hQ3 rfl
  refine wk_il1 r25_11 ?_
  refine wk_iflt r25_12 ⟨by omega, by omega⟩ ?_ ?_
  · intro h5
    subst hQ; exact wk_thr112 r25_26 rfl (Or.inl ⟨rfl, hP2.thr, (Fr.thr hF4), (by rw [mUp_eq, hF4.at g_below rfl])⟩)
  · intro h6
    refine wk_il1 r25_15 (wk_al0 r25_16 (wk_getfr r25_17 fd_0_12 (br_0_12 hP2) (wk_getfb r25_20 fd_170_3 (bf_170_3 hP2) ?_)))
    intro v7 h9 h10 e8
    refine wk_iclt r25_23 ⟨by omega, by omega⟩ ⟨by omega, by omega⟩ ?_ ?_
    · intro h11
      refine wk_al0 r25_37 (wk_getfr r25_38 fd_0_12 (br_0_12 hP2) (wk_getfr r25_41 fd_170_2 (br_170_2 hP2) (wk_il1 r25_44 (wk_ialdb r25_45 ar_173 ⟨by omega, by omega⟩ (fun q0 q1 => ba_173 hP2 q0 q1) ?_))))
      intro v12 h14 h15 e13
      subst hQ; exact wk_iret r25_46 (Or.inr ⟨rfl, _, rfl, hP2, hF4, by omega, by omega⟩)
    · intro h16
      subst hQ; exact wk_thr112 r25_26 rfl (Or.inl ⟨rfl, hP2.thr, (Fr.thr hF4), (by rw [mUp_eq, hF4.at g_below rfl])⟩)
def fm_m187_176 : Nat := 148954016129217867593468613444501504000
/-- IslandHall$Realm.clear -/
theorem m187_176 {B : eB} (d : Nat) (M0 : Mm) (p1 : Int) (p2 : Int) (hP0 : Pw M0) (l1 : (-1) ≤ p1) (u1 : p1 ≤ 7) (l2 : 0 ≤ p2) (u2 : p2 ≤ 127) : Ct B (d + 2) 187 [R 176, I p1, I p2] M0 (qV fun M => Pw M ∧ Fr fm_m187_176 M0 M ∧ 0 ≤ (-1) * (M 176 9)) := by
  refine ct_of (d := d + 1) (k := 1) (L := [some (R 176), some (I p1), some (I p2), none]) rfl rfl rfl ?_
  have hF0 := Fr.rf fm_m187_176 M0
  generalize hQ : (qV fun M => Pw M ∧ Fr fm_m187_176 M0 M ∧ 0 ≤ (-1) * (M 176 9)) = Q
  refine wk_al0 r187_0 (wk_il1 r187_1 (wk_putfi81 r187_2 fd_176_7 (wk_nw g_176_7 rfl hP0 hF0 (uf_176_7 ⟨by omega, by omega⟩) ?_)))
  intro M1 hP2 hF3 e4
  refine wk_al0 r187_5 (wk_il2 r187_6 (wk_putfi81 r187_7 fd_176_8 (wk_nw g_176_8 rfl hP2 hF3 (uf_176_8 ⟨by omega, by omega⟩) ?_)))
  intro M5 hP6 hF7 e8
  refine wk_al0 r187_10 (wk_c1 r187_11 (wk_putfi81 r187_12 fd_176_9 (wk_nw g_176_9 rfl hP6 hF7 (uf_176_9 (by decide)) ?_)))
  intro M9 hP10 hF11 e12
  refine wk_al0 r187_15 (wk_c1 r187_16 (wk_putfi81 r187_17 fd_176_10 (wk_nw g_176_10 rfl hP10 hF11 (uf_176_10 (by decide)) ?_)))
  intro M13 hP14 hF15 e16
  refine wk_c1 r187_20 (wk_is3 r187_21 rfl ?_)
  have c22_195 : ∀ (k195 : Nat) (M173 : Mm) (v170 : Int), (119 - v170).toNat = k195 → Pw M173 → Fr fm_m187_176 M0 M173 → M173 176 7 = p1 → M173 176 8 = p2 → M173 176 9 = 0 → M173 176 10 = 0 → 0 ≤ v170 → v170 ≤ 119 → Wp B (d + 1) 187 22 [some (R 176), none, none, some (I v170)] [] M173 Q := by
    refine lp_ind ?_
    intro k195 ih195 M173 v170 hk195 hP174 hF175 e176 e177 e178 e179 h171 h172
    refine wk_il3 r187_22 (wk_c2 r187_23 ?_)
    refine wk_icge r187_25 ⟨by omega, by omega⟩ (by decide) ?_ ?_
    · intro h180
      refine wk_al0 r187_44 (wk_getfr r187_45 fd_176_3 (br_176_3 hP174) (wk_c1 r187_48 (wk_cs102_2 r187_49 rfl (ct_fi ar_177) (cqV ?_))))
      intro M181 e182
      have hP183 : Pw M181 := by rw [e182]; exact hP174.fil (fun i => (ua_177 (by decide)))
      have hF184 : Fr fm_m187_176 M0 M181 := by rw [e182]; exact hF175.fil (fun i => by rw [(ga_177 i)]; rfl)
      subst hQ; exact wk_ret r187_52 (⟨rfl, hP183, hF184, by have := (fil_no e182 e178 (by decide)); omega⟩)
    · intro h185
      refine wk_al0 r187_28 (wk_getfr r187_29 fd_176_0 (br_176_0 hP174) (wk_il3 r187_32 ?_))
      rcases Int.lt_or_le v170 118 with h186 | h186
      · refine wk_raldb r187_33 ar_182 ⟨by omega, by omega⟩ (fun q0 q1 => ba_182 hP174 q0 q1) (wk_c6 r187_34 (wk_cs102_2 r187_35 rfl (ct_fl (arF_183 (by omega) (by omega))) (cqV ?_)))
        intro M187 e188
        have hP189 : Pw M187 := by rw [e188]; exact hP174.fil (fun i => (uaF_183 (by omega) (by omega) ⟨by omega, by omega⟩))
        have hF190 : Fr fm_m187_176 M0 M187 := by rw [e188]; exact hF175.fil (fun i => by rw [(gr_183 (by omega) (by omega) i)]; rfl)
        refine wk_inc3 r187_38 rfl (wk_goto r187_41 ?_)
        exact wp_fg (le_s (le_s (le_s (le_s le_0)))) (ih195 (119 - (v170 + 1)).toNat (by omega) M187 (v170 + 1) rfl hP189 hF190 (fil_no e188 e176 (by omega)) (fil_no e188 e177 (by omega)) (fil_no e188 e178 (by omega)) (fil_no e188 e179 (by omega)) (by omega) (by omega))
      · refine wk_raldb r187_33 ar_182 ⟨by omega, by omega⟩ (fun q0 q1 => ba_182 hP174 q0 q1) (wk_c6 r187_34 (wk_cs102_2 r187_35 rfl (ct_fl (arF_301 (by omega) (by omega))) (cqV ?_)))
        intro M191 e192
        have hP193 : Pw M191 := by rw [e192]; exact hP174.fil (fun i => (u4_301 (by omega) (by omega) ⟨by omega, by omega, by omega⟩))
        have hF194 : Fr fm_m187_176 M0 M191 := by rw [e192]; exact hF175.fil (fun i => t4_301 rfl rfl (by omega) (by omega) i)
        refine wk_inc3 r187_38 rfl (wk_goto r187_41 ?_)
        exact wp_fg (le_s (le_s (le_s (le_s le_0)))) (ih195 (119 - (v170 + 1)).toNat (by omega) M191 (v170 + 1) rfl hP193 hF194 (fil_no e192 e176 (by omega)) (fil_no e192 e177 (by omega)) (fil_no e192 e178 (by omega)) (fil_no e192 e179 (by omega)) (by omega) (by omega))
  exact wp_fg (le_s (le_n (le_n (le_s le_0)))) (c22_195 _ M13 0 rfl hP14 hF15 (mUp_no e16 (mUp_no e12 (mUp_no e8 (mUp_at e4) (Or.inr (by decide))) (Or.inr (by decide))) (Or.inr (by decide))) (mUp_no e16 (mUp_no e12 (mUp_at e8) (Or.inr (by decide))) (Or.inr (by decide))) (mUp_no e16 (mUp_at e12) (Or.inr (by decide))) (mUp_at e16) (by omega) (by omega))
def fm_m186_176 : Nat := 0
/-- IslandHall$Realm.answerAt -/
theorem m186_176 {B : eB} (d : Nat) (M0 : Mm) (p1 : Int) (p2 : Int) (hP0 : Pw M0) (l1 : 0 ≤ p1) (u1 : p1 ≤ 299) (l2 : 1 ≤ p2) (u2 : p2 ≤ 1) : Ct B (d + 1) 186 [R 176, I p1, I p2] M0 (qI fun z M => Pw M ∧ Fr fm_m186_176 M0 M ∧ 0 ≤ z ∧ z ≤ 3) := by
  refine ct_of (d := d + 0) (k := 0) (L := [some (R 176), some (I p1), some (I p2)]) rfl rfl rfl ?_
  have hF0 := Fr.rf fm_m186_176 M0
  generalize hQ : (qI fun z M => Pw M ∧ Fr fm_m186_176 M0 M ∧ 0 ≤ z ∧ z ≤ 3) = Q
  refine wk_il2 r186_0 ?_
  refine wk_sw8 r186_1 ⟨by omega, by omega⟩ ?_ ?_ ?_ ?_
  · intro h1
    exfalso
    omega
  · intro h2
    refine wk_al0 r186_28 (wk_getfr r186_29 fd_176_1 (br_176_1 hP0) (wk_il1 r186_32 (wk_ialdb r186_33 ar_302 ⟨by omega, by omega⟩ (fun q0 q1 => ba_302 hP0 q0 q1) ?_)))
    intro v3 h5 h6 e4
    refine wk_c2 r186_34 (wk_ishrc r186_36 ⟨by omega, by omega⟩ (by decide) pwl_21 (wk_c1 r186_37 (wk_iandc 2 4 r186_38 ⟨rfl, by decide⟩ rfl ?_)))
    subst hQ; exact wk_iret r186_39 (⟨rfl, _, rfl, hP0, hF0, by omega, by omega⟩)
  · intro h9
    exfalso
    omega
  · intro h10
    exfalso
    omega
def fm_m204_176v4 : Nat := 21267647932558653966460912964485513216
/-- IslandHall$Realm.set -/
theorem m204_176v4 {B : eB} (d : Nat) (M0 : Mm) (p1 : Int) (p2 : Int) (hP0 : Pw M0) (l1 : 35 ≤ p1) (u1 : p1 ≤ 38) (l2 : 0 ≤ p2) (u2 : p2 ≤ 299) : Ct B (d + 1) 204 [R 176, I p1, I p2] M0 (qV fun M => Pw M ∧ Fr fm_m204_176v4 M0 M) := by
  refine ct_of (d := d + 0) (k := 0) (L := [some (R 176), some (I p1), some (I p2)]) rfl rfl rfl ?_
  have hF0 := Fr.rf fm_m204_176v4 M0
  generalize hQ : (qV fun M => Pw M ∧ Fr fm_m204_176v4 M0 M) = Q
  refine wk_al0 r204_0 (wk_getfr r204_1 fd_176_0 (br_176_0 hP0) (wk_il1 r204_4 (wk_raldb r204_5 ar_182 ⟨by omega, by omega⟩ (fun q0 q1 => ba_182 hP0 q0 q1) (wk_il2 r204_6 (wk_c2 r204_7 (wk_ishrc r204_9 ⟨by omega, by omega⟩ (by decide) pwl_6 (wk_dup2 r204_10 (wk_laldb r204_11 (arF_183 (by omega) (by omega)) ⟨by omega, by omega⟩ (fun q0 q1 => baF_183 hP0 (by omega) (by omega) q0 q1) (by decide) ?_))))))))
  intro n2 h4 h5 e3
  refine wk_c6 r204_12 (wk_il2 r204_13 (wk_c2 r204_14 (wk_iandc 6 64 r204_16 ⟨rfl, by decide⟩ rfl (wk_lshlb r204_17 ⟨by omega, by omega⟩ ?_))))
  intro n6 h7 h8 h9
  refine wk_lorb r204_18 ?_
  intro n10 h11 h12 h13
  refine wk_last r204_19 (arF_183 (by omega) (by omega)) ⟨by omega, by omega⟩ (wk_nw (gr_183 (by omega) (by omega) _) rfl hP0 hF0 (uaF_183 (by omega) (by omega) ⟨by omega, by omega⟩) ?_)
  intro M14 hP15 hF16 e17
  subst hQ; exact wk_ret r204_20 (⟨rfl, hP15, hF16⟩)
def fm_m186_176v1 : Nat := 0
/-- IslandHall$Realm.answerAt -/
theorem m186_176v1 {B : eB} (d : Nat) (M0 : Mm) (p1 : Int) (p2 : Int) (hP0 : Pw M0) (l1 : 0 ≤ p1) (u1 : p1 ≤ 299) (l2 : 2 ≤ p2) (u2 : p2 ≤ 2) : Ct B (d + 1) 186 [R 176, I p1, I p2] M0 (qI fun z M => Pw M ∧ Fr fm_m186_176v1 M0 M ∧ 0 ≤ z ∧ z ≤ 7) := by
  refine ct_of (d := d + 0) (k := 0) (L := [some (R 176), some (I p1), some (I p2)]) rfl rfl rfl ?_
  have hF0 := Fr.rf fm_m186_176v1 M0
  generalize hQ : (qI fun z M => Pw M ∧ Fr fm_m186_176v1 M0 M ∧ 0 ≤ z ∧ z ≤ 7) = Q
  refine wk_il2 r186_0 ?_
  refine wk_sw8 r186_1 ⟨by omega, by omega⟩ ?_ ?_ ?_ ?_
  · intro h1
    exfalso
    omega
  · intro h2
    exfalso
    omega
  · intro h3
    refine wk_al0 r186_40 (wk_getfr r186_41 fd_176_1 (br_176_1 hP0) (wk_il1 r186_44 (wk_ialdb r186_45 ar_302 ⟨by omega, by omega⟩ (fun q0 q1 => ba_302 hP0 q0 q1) ?_)))
    intro v4 h6 h7 e5
    refine wk_c2 r186_46 (wk_ishrc r186_48 ⟨by omega, by omega⟩ (by decide) pwl_23 (wk_c2 r186_49 (wk_iandc 3 8 r186_51 ⟨rfl, by decide⟩ rfl ?_)))
    subst hQ; exact wk_iret r186_52 (⟨rfl, _, rfl, hP0, hF0, by omega, by omega⟩)
  · intro h10
    exfalso
    omega
def fm_m204_176v5 : Nat := 21267647932558653966460912964485513216
/-- IslandHall$Realm.set -/
theorem m204_176v5 {B : eB} (d : Nat) (M0 : Mm) (p1 : Int) (p2 : Int) (hP0 : Pw M0) (l1 : 39 ≤ p1) (u1 : p1 ≤ 46) (l2 : 0 ≤ p2) (u2 : p2 ≤ 299) : Ct B (d + 1) 204 [R 176, I p1, I p2] M0 (qV fun M => Pw M ∧ Fr fm_m204_176v5 M0 M) := by
  refine ct_of (d := d + 0) (k := 0) (L := [some (R 176), some (I p1), some (I p2)]) rfl rfl rfl ?_
  have hF0 := Fr.rf fm_m204_176v5 M0
  generalize hQ : (qV fun M => Pw M ∧ Fr fm_m204_176v5 M0 M) = Q
  refine wk_al0 r204_0 (wk_getfr r204_1 fd_176_0 (br_176_0 hP0) (wk_il1 r204_4 (wk_raldb r204_5 ar_182 ⟨by omega, by omega⟩ (fun q0 q1 => ba_182 hP0 q0 q1) (wk_il2 r204_6 (wk_c2 r204_7 (wk_ishrc r204_9 ⟨by omega, by omega⟩ (by decide) pwl_6 (wk_dup2 r204_10 (wk_laldb r204_11 (arF_183 (by omega) (by omega)) ⟨by omega, by omega⟩ (fun q0 q1 => baF_183 hP0 (by omega) (by omega) q0 q1) (by decide) ?_))))))))
  intro n2 h4 h5 e3
  refine wk_c6 r204_12 (wk_il2 r204_13 (wk_c2 r204_14 (wk_iandc 6 64 r204_16 ⟨rfl, by decide⟩ rfl (wk_lshlb r204_17 ⟨by omega, by omega⟩ ?_))))
  intro n6 h7 h8 h9
  refine wk_lorb r204_18 ?_
  intro n10 h11 h12 h13
  refine wk_last r204_19 (arF_183 (by omega) (by omega)) ⟨by omega, by omega⟩ (wk_nw (gr_183 (by omega) (by omega) _) rfl hP0 hF0 (uaF_183 (by omega) (by omega) ⟨by omega, by omega⟩) ?_)
  intro M14 hP15 hF16 e17
  subst hQ; exact wk_ret r204_20 (⟨rfl, hP15, hF16⟩)
def fm_m186_176v2 : Nat := 0
/-- IslandHall$Realm.answerAt -/
theorem m186_176v2 {B : eB} (d : Nat) (M0 : Mm) (p1 : Int) (p2 : Int) (hP0 : Pw M0) (l1 : 0 ≤ p1) (u1 : p1 ≤ 299) (l2 : 3 ≤ p2) (u2 : p2 ≤ 3) : Ct B (d + 1) 186 [R 176, I p1, I p2] M0 (qI fun z M => Pw M ∧ Fr fm_m186_176v2 M0 M ∧ 0 ≤ z ∧ z ≤ 1) := by
  refine ct_of (d := d + 0) (k := 0) (L := [some (R 176), some (I p1), some (I p2)]) rfl rfl rfl ?_
  have hF0 := Fr.rf fm_m186_176v2 M0
  generalize hQ : (qI fun z M => Pw M ∧ Fr fm_m186_176v2 M0 M ∧ 0 ≤ z ∧ z ≤ 1) = Q
  refine wk_il2 r186_0 ?_
  refine wk_sw8 r186_1 ⟨by omega, by omega⟩ ?_ ?_ ?_ ?_
  · intro h1
    exfalso
    omega
  · intro h2
    exfalso
    omega
  · intro h3
    exfalso
    omega
  · intro h4
    refine wk_al0 r186_53 (wk_getfr r186_54 fd_176_1 (br_176_1 hP0) (wk_il1 r186_57 (wk_ialdb r186_58 ar_302 ⟨by omega, by omega⟩ (fun q0 q1 => ba_302 hP0 q0 q1) ?_)))
    intro v5 h7 h8 e6
    refine wk_c2 r186_59 (wk_ishrc r186_61 ⟨by omega, by omega⟩ (by decide) pwl_26 (wk_c1 r186_62 (wk_iandc 1 2 r186_63 ⟨rfl, by decide⟩ rfl ?_)))
    subst hQ; exact wk_iret r186_64 (⟨rfl, _, rfl, hP0, hF0, by omega, by omega⟩)
def fm_m204_176v6 : Nat := 21267647932558653966460912964485513216
/-- IslandHall$Realm.set -/
theorem m204_176v6 {B : eB} (d : Nat) (M0 : Mm) (p1 : Int) (p2 : Int) (hP0 : Pw M0) (l1 : 46 ≤ p1) (u1 : p1 ≤ 47) (l2 : 0 ≤ p2) (u2 : p2 ≤ 299) : Ct B (d + 1) 204 [R 176, I p1, I p2] M0 (qV fun M => Pw M ∧ Fr fm_m204_176v6 M0 M) := by
  refine ct_of (d := d + 0) (k := 0) (L := [some (R 176), some (I p1), some (I p2)]) rfl rfl rfl ?_
  have hF0 := Fr.rf fm_m204_176v6 M0
  generalize hQ : (qV fun M => Pw M ∧ Fr fm_m204_176v6 M0 M) = Q
  refine wk_al0 r204_0 (wk_getfr r204_1 fd_176_0 (br_176_0 hP0) (wk_il1 r204_4 (wk_raldb r204_5 ar_182 ⟨by omega, by omega⟩ (fun q0 q1 => ba_182 hP0 q0 q1) (wk_il2 r204_6 (wk_c2 r204_7 (wk_ishrc r204_9 ⟨by omega, by omega⟩ (by decide) pwl_6 (wk_dup2 r204_10 (wk_laldb r204_11 (arF_183 (by omega) (by omega)) ⟨by omega, by omega⟩ (fun q0 q1 => baF_183 hP0 (by omega) (by omega) q0 q1) (by decide) ?_))))))))
  intro n2 h4 h5 e3
  refine wk_c6 r204_12 (wk_il2 r204_13 (wk_c2 r204_14 (wk_iandc 6 64 r204_16 ⟨rfl, by decide⟩ rfl (wk_lshlb r204_17 ⟨by omega, by omega⟩ ?_))))
  intro n6 h7 h8 h9
  refine wk_lorb r204_18 ?_
  intro n10 h11 h12 h13
  refine wk_last r204_19 (arF_183 (by omega) (by omega)) ⟨by omega, by omega⟩ (wk_nw (gr_183 (by omega) (by omega) _) rfl hP0 hF0 (uaF_183 (by omega) (by omega) ⟨by omega, by omega⟩) ?_)
  intro M14 hP15 hF16 e17
  subst hQ; exact wk_ret r204_20 (⟨rfl, hP15, hF16⟩)
def fm_m204_176v7 : Nat := 127605887595351923798765477786913079296
/-- IslandHall$Realm.set -/
theorem m204_176v7 {B : eB} (d : Nat) (M0 : Mm) (p1 : Int) (p2 : Int) (hP0 : Pw M0) (l1 : 118 ≤ p1) (u1 : p1 ≤ 118) (l2 : 0 ≤ p2) (u2 : p2 ≤ 299) : Ct B (d + 1) 204 [R 176, I p1, I p2] M0 (qV fun M => Pw M ∧ Fr fm_m204_176v7 M0 M) := by
  refine ct_of (d := d + 0) (k := 0) (L := [some (R 176), some (I p1), some (I p2)]) rfl rfl rfl ?_
  have hF0 := Fr.rf fm_m204_176v7 M0
  generalize hQ : (qV fun M => Pw M ∧ Fr fm_m204_176v7 M0 M) = Q
  refine wk_al0 r204_0 (wk_getfr r204_1 fd_176_0 (br_176_0 hP0) (wk_il1 r204_4 (wk_raldb r204_5 ar_182 ⟨by omega, by omega⟩ (fun q0 q1 => ba_182 hP0 q0 q1) (wk_il2 r204_6 (wk_c2 r204_7 (wk_ishrc r204_9 ⟨by omega, by omega⟩ (by decide) pwl_6 (wk_dup2 r204_10 (wk_laldb r204_11 (arF_301 (by omega) (by omega)) ⟨by omega, by omega⟩ (fun q0 q1 => ⟨(b4_301 hP0 (by omega) (by omega) q0 q1).1, (b4_301 hP0 (by omega) (by omega) q0 q1).2.1⟩) (by decide) ?_))))))))
  intro n2 h4 h5 e3
  have h6 : (p2 / 64) = 4 → n2 ≤ 17592186044415 := by have := b4_301 hP0 (a := (183 + p1)) (i := (p2 / 64)) (by omega) (by omega) (by omega) (by omega); omega
  refine wk_c6 r204_12 (wk_il2 r204_13 (wk_c2 r204_14 (wk_iandc 6 64 r204_16 ⟨rfl, by decide⟩ rfl (wk_lshlb r204_17 ⟨by omega, by omega⟩ ?_))))
  intro n7 h8 h9 h10
  refine wk_lorb r204_18 ?_
  intro n11 h12 h13 h14
  refine wk_last r204_19 (arF_301 (by omega) (by omega)) ⟨by omega, by omega⟩ (wk_nwt (t4_301 rfl rfl (by omega) (by omega) _) hP0 hF0 (u4_301 (by omega) (by omega) ⟨by omega, by omega, by omega⟩) ?_)
  intro M15 hP16 hF17 e18
  subst hQ; exact wk_ret r204_20 (⟨rfl, hP16, hF17⟩)
def fm_m204_176v8 : Nat := 21267647932558653966460912964485513216
/-- IslandHall$Realm.set -/
theorem m204_176v8 {B : eB} (d : Nat) (M0 : Mm) (p1 : Int) (p2 : Int) (hP0 : Pw M0) (l1 : 48 ≤ p1) (u1 : p1 ≤ 87) (l2 : 0 ≤ p2) (u2 : p2 ≤ 299) : Ct B (d + 1) 204 [R 176, I p1, I p2] M0 (qV fun M => Pw M ∧ Fr fm_m204_176v8 M0 M) := by
  refine ct_of (d := d + 0) (k := 0) (L := [some (R 176), some (I p1), some (I p2)]) rfl rfl rfl ?_
  have hF0 := Fr.rf fm_m204_176v8 M0
  generalize hQ : (qV fun M => Pw M ∧ Fr fm_m204_176v8 M0 M) = Q
  refine wk_al0 r204_0 (wk_getfr r204_1 fd_176_0 (br_176_0 hP0) (wk_il1 r204_4 (wk_raldb r204_5 ar_182 ⟨by omega, by omega⟩ (fun q0 q1 => ba_182 hP0 q0 q1) (wk_il2 r204_6 (wk_c2 r204_7 (wk_ishrc r204_9 ⟨by omega, by omega⟩ (by decide) pwl_6 (wk_dup2 r204_10 (wk_laldb r204_11 (arF_183 (by omega) (by omega)) ⟨by omega, by omega⟩ (fun q0 q1 => baF_183 hP0 (by omega) (by omega) q0 q1) (by decide) ?_))))))))
  intro n2 h4 h5 e3
  refine wk_c6 r204_12 (wk_il2 r204_13 (wk_c2 r204_14 (wk_iandc 6 64 r204_16 ⟨rfl, by decide⟩ rfl (wk_lshlb r204_17 ⟨by omega, by omega⟩ ?_))))
  intro n6 h7 h8 h9
  refine wk_lorb r204_18 ?_
  intro n10 h11 h12 h13
  refine wk_last r204_19 (arF_183 (by omega) (by omega)) ⟨by omega, by omega⟩ (wk_nw (gr_183 (by omega) (by omega) _) rfl hP0 hF0 (uaF_183 (by omega) (by omega) ⟨by omega, by omega⟩) ?_)
  intro M14 hP15 hF16 e17
  subst hQ; exact wk_ret r204_20 (⟨rfl, hP15, hF16⟩)
def fm_m188_176 : Nat := 0
/-- IslandHall$Realm.codeAt -/
theorem m188_176 {B : eB} (d : Nat) (M0 : Mm) (p1 : Int) (p2 : Int) (hP0 : Pw M0) (l1 : 0 ≤ p1) (u1 : p1 ≤ 299) (l2 : 0 ≤ p2) (u2 : p2 ≤ 6) : Ct B (d + 1) 188 [R 176, I p1, I p2] M0 (qI fun z M => Pw M ∧ Fr fm_m188_176 M0 M ∧ 0 ≤ z ∧ z ≤ 7) := by
  refine ct_of (d := d + 0) (k := 0) (L := [some (R 176), some (I p1), some (I p2)]) rfl rfl rfl ?_
  have hF0 := Fr.rf fm_m188_176 M0
  generalize hQ : (qI fun z M => Pw M ∧ Fr fm_m188_176 M0 M ∧ 0 ≤ z ∧ z ≤ 7) = Q
  refine wk_al0 r188_0 (wk_getfr r188_1 fd_176_1 (br_176_1 hP0) (wk_il1 r188_4 (wk_ialdb r188_5 ar_302 ⟨by omega, by omega⟩ (fun q0 q1 => ba_302 hP0 q0 q1) ?_)))
  intro v1 h3 h4 e2
  refine wk_c1 r188_6 (wk_il2 r188_7 (wk_imul r188_8 (wk_shrb r188_9 ⟨by omega, by omega⟩ ⟨by omega, by omega⟩ ?_)))
  intro v5 h6 h7 h8
  refine wk_c2 r188_10 (wk_iandc 3 8 r188_12 ⟨rfl, by decide⟩ rfl ?_)
  subst hQ; exact wk_iret r188_13 (⟨rfl, _, rfl, hP0, hF0, by omega, by omega⟩)
def fm_m197_176 : Nat := 0
/-- IslandHall$Realm.kindAt -/
theorem m197_176 {B : eB} (d : Nat) (M0 : Mm) (p1 : Int) (p2 : Int) (hP0 : Pw M0) (l1 : 0 ≤ p1) (u1 : p1 ≤ 299) (l2 : 0 ≤ p2) (u2 : p2 ≤ 6) : Ct B (d + 2) 197 [R 176, I p1, I p2] M0 (qI fun z M => Pw M ∧ Fr fm_m197_176 M0 M ∧ 0 ≤ z ∧ z ≤ 4) := by
  refine ct_of (d := d + 1) (k := 1) (L := [some (R 176), some (I p1), some (I p2), none]) rfl rfl rfl ?_
  have hF0 := Fr.rf fm_m197_176 M0
  generalize hQ : (qI fun z M => Pw M ∧ Fr fm_m197_176 M0 M ∧ 0 ≤ z ∧ z ≤ 4) = Q
  refine wk_al0 r197_0 (wk_il1 r197_1 (wk_il2 r197_2 (wk_cv3 r197_3 kc_176_188 rfl (m188_176 _ M0 p1 p2 hP0 (by omega) (by omega) (by omega) (by omega)) (cqI ?_))))
  rintro v5 M1 ⟨hP2, hQ3, h6, h7⟩
  obtain rfl := Fr.same hQ3
  refine wk_is3 r197_6 rfl (wk_il3 r197_7 (wk_c2 r197_8 ?_))
  refine wk_icge r197_10 ⟨by omega, by omega⟩ (by decide) ?_ ?_
  · intro h8
    refine wk_c1 r197_21 ?_
    subst hQ; exact wk_iret r197_22 (⟨rfl, _, rfl, hP0, hF0, by omega, by omega⟩)
  · intro h9
    refine wk_kget r197_13 (wk_il3 r197_16 (wk_kald r197_17 ⟨by omega, by omega⟩ ?_))
    intro v10 h11 h12 h13
    refine wk_goto r197_18 ?_
    subst hQ; exact wk_iret r197_22 (⟨rfl, _, rfl, hP0, hF0, by omega, by omega⟩)
def fm_m204_176v9 : Nat := 21267647932558653966460912964485513216
/-- IslandHall$Realm.set -/
theorem m204_176v9 {B : eB} (d : Nat) (M0 : Mm) (p1 : Int) (p2 : Int) (hP0 : Pw M0) (l1 : 0 ≤ p1) (u1 : p1 ≤ 34) (l2 : 0 ≤ p2) (u2 : p2 ≤ 299) : Ct B (d + 1) 204 [R 176, I p1, I p2] M0 (qV fun M => Pw M ∧ Fr fm_m204_176v9 M0 M) := by
  refine ct_of (d := d + 0) (k := 0) (L := [some (R 176), some (I p1), some (I p2)]) rfl rfl rfl ?_
  have hF0 := Fr.rf fm_m204_176v9 M0
  generalize hQ : (qV fun M => Pw M ∧ Fr fm_m204_176v9 M0 M) = Q
  refine wk_al0 r204_0 (wk_getfr r204_1 fd_176_0 (br_176_0 hP0) (wk_il1 r204_4 (wk_raldb r204_5 ar_182 ⟨by omega, by omega⟩ (fun q0 q1 => ba_182 hP0 q0 q1) (wk_il2 r204_6 (wk_c2 r204_7 (wk_ishrc r204_9 ⟨by omega, by omega⟩ (by decide) pwl_6 (wk_dup2 r204_10 (wk_laldb r204_11 (arF_183 (by omega) (by omega)) ⟨by omega, by omega⟩ (fun q0 q1 => baF_183 hP0 (by omega) (by omega) q0 q1) (by decide) ?_))))))))
  intro n2 h4 h5 e3
  refine wk_c6 r204_12 (wk_il2 r204_13 (wk_c2 r204_14 (wk_iandc 6 64 r204_16 ⟨rfl, by decide⟩ rfl (wk_lshlb r204_17 ⟨by omega, by omega⟩ ?_))))
  intro n6 h7 h8 h9
  refine wk_lorb r204_18 ?_
  intro n10 h11 h12 h13
  refine wk_last r204_19 (arF_183 (by omega) (by omega)) ⟨by omega, by omega⟩ (wk_nw (gr_183 (by omega) (by omega) _) rfl hP0 hF0 (uaF_183 (by omega) (by omega) ⟨by omega, by omega⟩) ?_)
  intro M14 hP15 hF16 e17
  subst hQ; exact wk_ret r204_20 (⟨rfl, hP15, hF16⟩)
def fm_m192_176v1 : Nat := 0
/-- IslandHall$Realm.honestAt -/
theorem m192_176v1 {B : eB} (d : Nat) (M0 : Mm) (p1 : Int) (p2 : Int) (p3 : Int) (hP0 : Pw M0) (l1 : 0 ≤ p1) (u1 : p1 ≤ 299) (l2 : 0 ≤ p2) (u2 : p2 ≤ 6) (l3 : 0 ≤ p3) (u3 : p3 ≤ 1) : Ct B (d + 3) 192 [R 176, I p1, I p2, I p3] M0 (qI fun z M => Pw M ∧ Fr fm_m192_176v1 M0 M ∧ 0 ≤ z ∧ z ≤ 1) := by
  refine ct_of (d := d + 2) (k := 0) (L := [some (R 176), some (I p1), some (I p2), some (I p3)]) rfl rfl rfl ?_
  have hF0 := Fr.rf fm_m192_176v1 M0
  generalize hQ : (qI fun z M => Pw M ∧ Fr fm_m192_176v1 M0 M ∧ 0 ≤ z ∧ z ≤ 1) = Q
  refine wk_al0 r192_0 (wk_il1 r192_1 (wk_il2 r192_2 (wk_cv3 r192_3 kc_176_197 rfl (m197_176 _ M0 p1 p2 hP0 (by omega) (by omega) (by omega) (by omega)) (cqI ?_))))
  rintro v5 M1 ⟨hP2, hQ3, h6, h7⟩
  obtain rfl := Fr.same hQ3
  refine wk_sw9 r192_6 ⟨by omega, by omega⟩ ?_ ?_ ?_ ?_ ?_
  · intro h8
    refine wk_c1 r192_94 ?_
    subst hQ; exact wk_zret r192_95 (by decide) (⟨rfl, _, rfl, hP0, hF0, by omega, by omega⟩)
  · intro h9
    refine wk_c1 r192_36 ?_
    subst hQ; exact wk_zret r192_37 (by decide) (⟨rfl, _, rfl, hP0, hF0, by omega, by omega⟩)
  · intro h10
    refine wk_c1 r192_94 ?_
    subst hQ; exact wk_zret r192_95 (by decide) (⟨rfl, _, rfl, hP0, hF0, by omega, by omega⟩)
  · intro h11
    refine wk_al0 r192_38 (wk_il1 r192_39 (wk_il2 r192_40 (wk_cv3 r192_41 kc_176_188 rfl (m188_176 _ M0 p1 p2 hP0 (by omega) (by omega) (by omega) (by omega)) (cqI ?_))))
    rintro v16 M12 ⟨hP13, hQ14, h17, h18⟩
    obtain rfl := Fr.same hQ14
    refine wk_c1 r192_44 ?_
    refine wk_icne r192_45 ⟨by omega, by omega⟩ (by decide) ?_ ?_
    · intro h19
      refine wk_c1 r192_52 (wk_il3 r192_53 (wk_c1 r192_54 ?_))
      refine wk_icne r192_55 ⟨by omega, by omega⟩ (by decide) ?_ ?_
      · intro h20
        refine wk_c1 r192_62 ?_
        refine wk_icne r192_63 (by decide) (by decide) ?_ ?_
        · intro h21
          exfalso
          omega
        · intro h22
          refine wk_c1 r192_66 (wk_goto r192_67 ?_)
          subst hQ; exact wk_zret r192_71 (by decide) (⟨rfl, _, rfl, hP0, hF0, by omega, by omega⟩)
      · intro h23
        refine wk_c1 r192_58 (wk_goto r192_59 ?_)
        refine wk_icne r192_63 (by decide) (by decide) ?_ ?_
        · intro h24
          refine wk_c1 r192_70 ?_
          subst hQ; exact wk_zret r192_71 (by decide) (⟨rfl, _, rfl, hP0, hF0, by omega, by omega⟩)
        · intro h25
          exfalso
          omega
    · intro h26
      refine wk_c1 r192_48 (wk_goto r192_49 (wk_il3 r192_53 (wk_c1 r192_54 ?_)))
      refine wk_icne r192_55 ⟨by omega, by omega⟩ (by decide) ?_ ?_
      · intro h27
        refine wk_c1 r192_62 ?_
        refine wk_icne r192_63 (by decide) (by decide) ?_ ?_
        · intro h28
          refine wk_c1 r192_70 ?_
          subst hQ; exact wk_zret r192_71 (by decide) (⟨rfl, _, rfl, hP0, hF0, by omega, by omega⟩)
        · intro h29
          exfalso
          omega
      · intro h30
        refine wk_c1 r192_58 (wk_goto r192_59 ?_)
        refine wk_icne r192_63 (by decide) (by decide) ?_ ?_
        · intro h31
          exfalso
          omega
        · intro h32
          refine wk_c1 r192_66 (wk_goto r192_67 ?_)
          subst hQ; exact wk_zret r192_71 (by decide) (⟨rfl, _, rfl, hP0, hF0, by omega, by omega⟩)
  · intro h33
    refine wk_al0 r192_72 (wk_getfb r192_73 fd_176_8 (bf_176_8 hP0) ?_)
    intro v34 h36 h37 e35
    refine wk_al0 r192_76 (wk_il1 r192_77 (wk_c1 r192_78 (wk_cv3 r192_79 kc_176_186 rfl (m186_176v1 _ M0 p1 2 hP0 (by omega) (by omega) (by decide) (by decide)) (cqI ?_))))
    rintro v42 M38 ⟨hP39, hQ40, h43, h44⟩
    obtain rfl := Fr.same hQ40
    refine wk_shrb r192_82 ⟨by omega, by omega⟩ ⟨by omega, by omega⟩ ?_
    intro v45 h46 h47 h48
    refine wk_c1 r192_83 (wk_iandc 1 2 r192_84 ⟨rfl, by decide⟩ rfl ?_)
    refine wk_ifne r192_85 ⟨by omega, by omega⟩ ?_ ?_
    · intro h50
      refine wk_c1 r192_92 ?_
      subst hQ; exact wk_zret r192_93 (by decide) (⟨rfl, _, rfl, hP0, hF0, by omega, by omega⟩)
    · intro h51
      refine wk_c1 r192_88 (wk_goto r192_89 ?_)
      subst hQ; exact wk_zret r192_93 (by decide) (⟨rfl, _, rfl, hP0, hF0, by omega, by omega⟩)
def fm_m204_176v11 : Nat := 21267647932558653966460912964485513216
/-- IslandHall$Realm.set -/
theorem m204_176v11 {B : eB} (d : Nat) (M0 : Mm) (p1 : Int) (p2 : Int) (hP0 : Pw M0) (l1 : 88 ≤ p1) (u1 : p1 ≤ 101) (l2 : 0 ≤ p2) (u2 : p2 ≤ 299) : Ct B (d + 1) 204 [R 176, I p1, I p2] M0 (qV fun M => Pw M ∧ Fr fm_m204_176v11 M0 M) := by
  refine ct_of (d := d + 0) (k := 0) (L := [some (R 176), some (I p1), some (I p2)]) rfl rfl rfl ?_
  have hF0 := Fr.rf fm_m204_176v11 M0
  generalize hQ : (qV fun M => Pw M ∧ Fr fm_m204_176v11 M0 M) = Q
  refine wk_al0 r204_0 (wk_getfr r204_1 fd_176_0 (br_176_0 hP0) (wk_il1 r204_4 (wk_raldb r204_5 ar_182 ⟨by omega, by omega⟩ (fun q0 q1 => ba_182 hP0 q0 q1) (wk_il2 r204_6 (wk_c2 r204_7 (wk_ishrc r204_9 ⟨by omega, by omega⟩ (by decide) pwl_6 (wk_dup2 r204_10 (wk_laldb r204_11 (arF_183 (by omega) (by omega)) ⟨by omega, by omega⟩ (fun q0 q1 => baF_183 hP0 (by omega) (by omega) q0 q1) (by decide) ?_))))))))
  intro n2 h4 h5 e3
  refine wk_c6 r204_12 (wk_il2 r204_13 (wk_c2 r204_14 (wk_iandc 6 64 r204_16 ⟨rfl, by decide⟩ rfl (wk_lshlb r204_17 ⟨by omega, by omega⟩ ?_))))
  intro n6 h7 h8 h9
  refine wk_lorb r204_18 ?_
  intro n10 h11 h12 h13
  refine wk_last r204_19 (arF_183 (by omega) (by omega)) ⟨by omega, by omega⟩ (wk_nw (gr_183 (by omega) (by omega) _) rfl hP0 hF0 (uaF_183 (by omega) (by omega) ⟨by omega, by omega⟩) ?_)
  intro M14 hP15 hF16 e17
  subst hQ; exact wk_ret r204_20 (⟨rfl, hP15, hF16⟩)
def fm_m203_176 : Nat := 21433801432031768450573888847020556288
/-- IslandHall$Realm.placePerson -/
theorem m203_176 {B : eB} (d : Nat) (M0 : Mm) (p1 : Int) (p2 : Int) (hP0 : Pw M0) (l1 : 0 ≤ p1) (u1 : p1 ≤ 299) (l2 : 0 ≤ p2) (u2 : p2 ≤ 6) (xp0 : ∀ k : Int, 0 ≤ k → k < 5 → M0 179 k ≤ p2) : Ct B (d + 4) 203 [R 176, I p1, I p2] M0 (qV fun M => Pw M ∧ Fr fm_m203_176 M0 M ∧ (∀ k : Int, 0 ≤ k → k < 5 → M 179 k ≤ p2 + 1)) := by
  refine ct_of (d := d + 3) (k := 2) (L := [some (R 176), some (I p1), some (I p2), none, none]) rfl rfl rfl ?_
  have hF0 := Fr.rf fm_m203_176 M0
  generalize hQ : (qV fun M => Pw M ∧ Fr fm_m203_176 M0 M ∧ (∀ k : Int, 0 ≤ k → k < 5 → M 179 k ≤ p2 + 1)) = Q
  refine wk_al0 r203_0 (wk_il1 r203_1 (wk_il2 r203_2 (wk_cv3 r203_3 kc_176_197 rfl (m197_176 _ M0 p1 p2 hP0 (by omega) (by omega) (by omega) (by omega)) (cqI ?_))))
  rintro v5 M1 ⟨hP2, hQ3, h6, h7⟩
  obtain rfl := Fr.same hQ3
  refine wk_is3 r203_6 rfl (wk_al0 r203_7 (wk_getfr r203_8 fd_176_5 (br_176_5 hP0) (wk_il3 r203_11 (wk_dup2 r203_12 (wk_ialdb r203_13 ar_179 ⟨by omega, by omega⟩ (fun q0 q1 => ba_179 hP0 q0 q1) ?_)))))
  intro v8 h10 h11 e9
  have h12 : v8 ≤ p2 := by have q := xp0 v5 (by omega) (by omega); rw [e9] at q; omega
  refine wk_c1 r203_14 (wk_iadd r203_15 (wk_iast r203_16 ar_179 ⟨by omega, by omega⟩ (wk_nw (ga_179 _) rfl hP0 hF0 (ua_179 ⟨by omega, by omega⟩) ?_)))
  intro M13 hP14 hF15 e16
  obtain ⟨u17, hu18⟩ : ∃ u : Int → Int, ∀ k, M13 179 k = u k := ⟨fun k => M13 179 k, fun k => rfl⟩
  have tal : ∀ k : Int, 0 ≤ k → k < 5 → u17 k ≤ p2 + 1 := fun k q0 q1 => by rw [← hu18 k]; exact tally_up e16 (by omega) xp0 k q0 q1
  refine wk_al0 r203_17 (wk_c1 r203_18 (wk_il2 r203_19 (wk_c1 r203_20 (wk_imul r203_21 (wk_iadd r203_22 (wk_il3 r203_23 (wk_iadd r203_24 (wk_il1 r203_25 (wk_cv3 r203_26 kc_176_204 rfl (m204_176v9 _ M13 ((0 + (p2 * 5)) + v5) p1 hP14 (by omega) (by omega) (by omega) (by omega)) (cqV ?_))))))))))
  rintro M19 ⟨hP20, hQ21⟩
  have hF22 : Fr fm_m203_176 M0 M19 := hF15.tr hQ21 rfl
  refine wk_c1 r203_29 (wk_is4 r203_30 rfl ?_)
  have c32_107 : ∀ (k107 : Nat) (M88 : Mm) (v85 : Int), (2 - v85).toNat = k107 → Pw M88 → Fr fm_m203_176 M0 M88 → 0 ≤ v85 → v85 ≤ 2 → (∀ k, M88 179 k = u17 k) → Wp B (d + 3) 203 32 [some (R 176), some (I p1), some (I p2), none, some (I v85)] [] M88 Q := by
    refine lp_ind ?_
    intro k107 ih107 M88 v85 hk107 hP89 hF90 h86 h87 hu91
    refine wk_il4 r203_32 (wk_c1 r203_34 ?_)
    refine wk_icge r203_35 ⟨by omega, by omega⟩ (by decide) ?_ ?_
    · intro h92
      subst hQ; exact wk_ret r203_69 (⟨rfl, hP89, hF90, fun k q0 q1 => by rw [hu91 k]; exact tal k q0 q1⟩)
    · intro h93
      refine wk_al0 r203_38 (wk_il1 r203_39 (wk_il2 r203_40 (wk_il4 r203_41 (wk_cv4 r203_43 kc_176_192 rfl (m192_176v1 _ M88 p1 p2 v85 hP89 (by omega) (by omega) (by omega) (by omega) (by omega) (by omega)) (cqI ?_)))))
      rintro v98 M94 ⟨hP95, hQ96, h99, h100⟩
      obtain rfl := Fr.same hQ96
      refine wk_ifeq r203_46 ⟨by omega, by omega⟩ ?_ ?_
      · intro h101
        refine wk_inc4 r203_63 rfl (wk_goto r203_66 ?_)
        exact wp_fg (le_s (le_s (le_s (le_s (le_s le_0))))) (ih107 (2 - (v85 + 1)).toNat (by omega) M88 (v85 + 1) rfl hP89 hF90 (by omega) (by omega) hu91)
      · intro h102
        refine wk_al0 r203_49 (wk_c2 r203_50 (wk_c1 r203_52 (wk_il2 r203_53 (wk_imul r203_54 (wk_iadd r203_55 (wk_il4 r203_56 (wk_iadd r203_58 (wk_il1 r203_59 (wk_cv3 r203_60 kc_176_204 rfl (m204_176v11 _ M88 ((88 + (2 * p2)) + v85) p1 hP89 (by omega) (by omega) (by omega) (by omega)) (cqV ?_))))))))))
        rintro M103 ⟨hP104, hQ105⟩
        have hF106 : Fr fm_m203_176 M0 M103 := hF90.tr hQ105 rfl
        refine wk_inc4 r203_63 rfl (wk_goto r203_66 ?_)
        exact wp_fg (le_s (le_s (le_s (le_s (le_s le_0))))) (ih107 (2 - (v85 + 1)).toNat (by omega) M103 (v85 + 1) rfl hP104 hF106 (by omega) (by omega) (fun k => (hQ105.at (ga_179 k) rfl).trans (hu91 k)))
  exact wp_fg (le_s (le_s (le_s (le_n (le_s le_0))))) (c32_107 _ M19 0 rfl hP20 hF22 (by omega) (by omega) (fun k => (hQ21.at (ga_179 k) rfl).trans (hu18 k)))
def fm_m202_176 : Nat := 659494393189942596410172460759561273344
/-- IslandHall$Realm.place -/
theorem m202_176 {B : eB} (d : Nat) (M0 : Mm) (p1 : Int) (p2 : Int) (x176_9 : Int) (hP0 : Pw M0) (l1 : 0 ≤ p1) (u1 : p1 ≤ 134217727) (l2 : 0 ≤ p2) (u2 : p2 ≤ 2999) (ex176_9 : M0 176 9 = x176_9) (lx176_9 : 0 ≤ x176_9) (ux176_9 : x176_9 ≤ 299) : Ct B (d + 5) 202 [R 176, I p1, I p2] M0 (qV fun M => Pw M ∧ Fr fm_m202_176 M0 M ∧ 0 ≤ M 176 9 + (-1) * x176_9 + (-1) ∧ 0 ≤ (-1) * (M 176 9) + x176_9 + 1) := by
  refine ct_of (d := d + 4) (k := 2) (L := [some (R 176), some (I p1), some (I p2), none, none]) rfl rfl rfl ?_
  have hF0 := Fr.rf fm_m202_176 M0
  generalize hQ : (qV fun M => Pw M ∧ Fr fm_m202_176 M0 M ∧ 0 ≤ M 176 9 + (-1) * x176_9 + (-1) ∧ 0 ≤ (-1) * (M 176 9) + x176_9 + 1) = Q
  refine wk_al0 r202_0 (wk_getfi r202_1 fd_176_9 ex176_9 (wk_is3 r202_4 rfl (wk_al0 r202_5 (wk_getfr r202_6 fd_176_1 (br_176_1 hP0) (wk_il3 r202_9 (wk_il1 r202_10 (wk_iast r202_11 ar_302 ⟨by omega, by omega⟩ (wk_nw (ga_302 _) rfl hP0 hF0 (ua_302 ⟨by omega, by omega⟩) ?_))))))))
  intro M1 hP2 hF3 e4
  refine wk_al0 r202_12 (wk_getfr r202_13 fd_176_2 (br_176_2 hP2) (wk_il3 r202_16 (wk_il2 r202_17 (wk_iast r202_18 ar_303 ⟨by omega, by omega⟩ (wk_nw (ga_303 _) rfl hP2 hF3 (ua_303 ⟨by omega, by omega⟩) ?_)))))
  intro M5 hP6 hF7 e8
  refine wk_al0 r202_19 (wk_dupr r202_20 (wk_getfi r202_21 fd_176_9 (mUp_no e8 (mUp_no e4 ex176_9 (Or.inl (by decide))) (Or.inl (by decide))) (wk_c1 r202_24 (wk_iadd r202_25 (wk_putfi81 r202_26 fd_176_9 (wk_nw g_176_9 rfl hP6 hF7 (uf_176_9 ⟨by omega, by omega⟩) ?_))))))
  intro M9 hP10 hF11 e12
  refine wk_al0 r202_29 (wk_al0 r202_30 (wk_getfi r202_31 fd_176_9 (mUp_at e12) (wk_c2 r202_34 (wk_iadd r202_36 (wk_c2 r202_37 (wk_ishrc r202_39 ⟨by omega, by omega⟩ (by decide) pwl_6 (wk_putfi81 r202_40 fd_176_10 (wk_nw g_176_10 rfl hP10 hF11 (uf_176_10 ⟨by omega, by omega⟩) ?_))))))))
  intro M14 hP15 hF16 e17
  refine wk_al0 r202_43 (wk_getfr r202_44 fd_176_5 (br_176_5 hP15) (wk_c1 r202_47 (wk_cs102_2 r202_48 rfl (ct_fi ar_179) (cqV ?_))))
  intro M18 e19
  have hP20 : Pw M18 := by rw [e19]; exact hP15.fil (fun i => (ua_179 (by decide)))
  have hF21 : Fr fm_m202_176 M0 M18 := by rw [e19]; exact hF16.fil (fun i => by rw [(ga_179 i)]; rfl)
  refine wk_c1 r202_51 (wk_is4 r202_52 rfl ?_)
  have c54_624 : ∀ (k624 : Nat) (M550 : Mm) (v547 : Int), (7 - v547).toNat = k624 → Pw M550 → Fr fm_m202_176 M0 M550 → M550 176 9 = (x176_9 + 1) → M550 176 10 = (((x176_9 + 1) + 63) / 64) → 0 ≤ v547 → v547 ≤ 7 → (∀ k : Int, 0 ≤ k → k < 5 → M550 179 k ≤ v547) → Wp B (d + 4) 202 54 [some (R 176), none, none, some (I x176_9), some (I v547)] [] M550 Q := by
    refine lp_ind ?_
    intro k624 ih624 M550 v547 hk624 hP551 hF552 e553 e554 h548 h549 ti555
    refine wk_il4 r202_54 (wk_al0 r202_56 (wk_getfb r202_57 fd_176_7 (bf_176_7 hP551) ?_))
    intro v556 h558 h559 e557
    refine wk_icge r202_60 ⟨by omega, by omega⟩ ⟨by omega, by omega⟩ ?_ ?_
    · intro h560
      refine wk_c1 r202_76 (wk_is4 r202_77 rfl ?_)
      have c79_617 : ∀ (k617 : Nat) (M564 : Mm) (v561 : Int), (5 - v561).toNat = k617 → Pw M564 → Fr fm_m202_176 M0 M564 → M564 176 9 = (x176_9 + 1) → M564 176 10 = (((x176_9 + 1) + 63) / 64) → M564 176 7 = v556 → 0 ≤ v561 → v561 ≤ 5 → Wp B (d + 4) 202 79 [some (R 176), none, none, some (I x176_9), some (I v561)] [] M564 Q := by
        refine lp_ind ?_
        intro k617 ih617 M564 v561 hk617 hP565 hF566 e567 e568 e569 h562 h563
        refine wk_il4 r202_79 (wk_c1 r202_81 ?_)
        refine wk_icge r202_82 ⟨by omega, by omega⟩ (by decide) ?_ ?_
        · intro h570
          refine wk_al0 r202_112 (wk_c2 r202_113 (wk_al0 r202_115 (wk_il3 r202_116 (wk_c1 r202_117 (wk_cv3 r202_118 kc_176_186 rfl (m186_176 _ M564 x176_9 1 hP565 (by omega) (by omega) (by decide) (by decide)) (cqI ?_))))))
          rintro v575 M571 ⟨hP572, hQ573, h576, h577⟩
          obtain rfl := Fr.same hQ573
          refine wk_iadd r202_121 (wk_il3 r202_122 (wk_cv3 r202_123 kc_176_204 rfl (m204_176v4 _ M564 (35 + v575) x176_9 hP565 (by omega) (by omega) (by omega) (by omega)) (cqV ?_)))
          rintro M578 ⟨hP579, hQ580⟩
          have hF581 : Fr fm_m202_176 M0 M578 := hF566.tr hQ580 rfl
          refine wk_al0 r202_126 (wk_c2 r202_127 (wk_al0 r202_129 (wk_il3 r202_130 (wk_c1 r202_131 (wk_cv3 r202_132 kc_176_186 rfl (m186_176v1 _ M578 x176_9 2 hP579 (by omega) (by omega) (by decide) (by decide)) (cqI ?_))))))
          rintro v586 M582 ⟨hP583, hQ584, h587, h588⟩
          obtain rfl := Fr.same hQ584
          refine wk_iadd r202_135 (wk_il3 r202_136 (wk_cv3 r202_137 kc_176_204 rfl (m204_176v5 _ M578 (39 + v586) x176_9 hP579 (by omega) (by omega) (by omega) (by omega)) (cqV ?_)))
          rintro M589 ⟨hP590, hQ591⟩
          have hF592 : Fr fm_m202_176 M0 M589 := hF581.tr hQ591 rfl
          refine wk_al0 r202_140 (wk_c2 r202_141 (wk_al0 r202_143 (wk_il3 r202_144 (wk_c1 r202_145 (wk_cv3 r202_146 kc_176_186 rfl (m186_176v2 _ M589 x176_9 3 hP590 (by omega) (by omega) (by decide) (by decide)) (cqI ?_))))))
          rintro v597 M593 ⟨hP594, hQ595, h598, h599⟩
          obtain rfl := Fr.same hQ595
          refine wk_iadd r202_149 (wk_il3 r202_150 (wk_cv3 r202_151 kc_176_204 rfl (m204_176v6 _ M589 (46 + v597) x176_9 hP590 (by omega) (by omega) (by omega) (by omega)) (cqV ?_)))
          rintro M600 ⟨hP601, hQ602⟩
          have hF603 : Fr fm_m202_176 M0 M600 := hF592.tr hQ602 rfl
          refine wk_al0 r202_154 (wk_c2 r202_155 (wk_il3 r202_157 (wk_cv3 r202_158 kc_176_204 rfl (m204_176v7 _ M600 118 x176_9 hP601 (by decide) (by decide) (by omega) (by omega)) (cqV ?_))))
          rintro M604 ⟨hP605, hQ606⟩
          have hF607 : Fr fm_m202_176 M0 M604 := hF603.tr hQ606 rfl
          subst hQ; exact wk_ret r202_161 (⟨rfl, hP605, hF607, by have := ((hQ606.at g_176_9 rfl).trans ((hQ602.at g_176_9 rfl).trans ((hQ591.at g_176_9 rfl).trans ((hQ580.at g_176_9 rfl).trans e567)))); omega, by have := ((hQ606.at g_176_9 rfl).trans ((hQ602.at g_176_9 rfl).trans ((hQ591.at g_176_9 rfl).trans ((hQ580.at g_176_9 rfl).trans e567)))); omega⟩)
        · intro h608
          refine wk_al0 r202_85 (wk_c2 r202_86 (wk_il4 r202_88 (wk_c2 r202_90 (wk_imul r202_92 (wk_iadd r202_93 (wk_al0 r202_94 (wk_getfr r202_95 fd_176_5 (br_176_5 hP565) (wk_il4 r202_98 (wk_ialdb r202_100 ar_179 ⟨by omega, by omega⟩ (fun q0 q1 => ba_179 hP565 q0 q1) ?_)))))))))
          intro v609 h611 h612 e610
          refine wk_iadd r202_101 (wk_il3 r202_102 (wk_cv3 r202_103 kc_176_204 rfl (m204_176v8 _ M564 ((48 + (v561 * 8)) + v609) x176_9 hP565 (by omega) (by omega) (by omega) (by omega)) (cqV ?_)))
          rintro M613 ⟨hP614, hQ615⟩
          have hF616 : Fr fm_m202_176 M0 M613 := hF566.tr hQ615 rfl
          refine wk_inc4 r202_106 rfl (wk_goto r202_109 ?_)
          exact wp_fg (le_s (le_s (le_s (le_s (le_s le_0))))) (ih617 (5 - (v561 + 1)).toNat (by omega) M613 (v561 + 1) rfl hP614 hF616 ((hQ615.at g_176_9 rfl).trans e567) ((hQ615.at g_176_10 rfl).trans e568) ((hQ615.at g_176_7 rfl).trans e569) (by omega) (by omega))
      exact wp_fg (le_s (le_s (le_s (le_s (le_s le_0))))) (c79_617 _ M550 0 rfl hP551 hF552 e553 e554 e557 (by omega) (by omega))
    · intro h618
      refine wk_al0 r202_63 (wk_il3 r202_64 (wk_il4 r202_65 (wk_cv3 r202_67 kc_176_203 rfl (m203_176 _ M550 x176_9 v547 hP551 (by omega) (by omega) (by omega) (by omega) (by first | assumption | omega | (unfold stepok; omega))) (cqV ?_))))
      rintro M619 ⟨hP620, hQ621, xh623⟩
      have hF622 : Fr fm_m202_176 M0 M619 := hF552.tr hQ621 rfl
      refine wk_inc4 r202_70 rfl (wk_goto r202_73 ?_)
      exact wp_fg (le_s (le_s (le_s (le_s (le_s le_0))))) (ih624 (7 - (v547 + 1)).toNat (by omega) M619 (v547 + 1) rfl hP620 hF622 ((hQ621.at g_176_9 rfl).trans e553) ((hQ621.at g_176_10 rfl).trans e554) (by omega) (by omega) (xh623))
  exact wp_fg (le_s (le_n (le_n (le_s (le_s le_0))))) (c54_624 _ M18 0 rfl hP20 hF21 (fil_no e19 (mUp_no e17 (mUp_at e12) (Or.inr (by decide))) (by decide)) (fil_no e19 (mUp_at e17) (by decide)) (by omega) (by omega) (fun k q0 q1 => by rw [e19, fil_eq]; omega))
