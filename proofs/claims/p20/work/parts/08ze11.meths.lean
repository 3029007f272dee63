/-! ===== written by program (wip/layer3/model.py): contracts of methods ===== -/
def fm_m9101_739 : Nat := 407082447148577451019825093006616715533593874014409940856097678692174553677824
/-- IslandHallModel.leadsToTold -/
theorem m9101_739 {B : eB} (d : Nat) (M0 : Mm) (p1 : Int) (p2 : Int) (x739_13 : Int) (x739_21 : Int) (hP0 : Pw M0) (l1 : 0 ≤ p1) (u1 : p1 ≤ 2) (l2 : 0 ≤ p2) (u2 : p2 ≤ 9) (ex739_13 : M0 739 13 = x739_13) (lx739_13 : 0 ≤ x739_13) (ux739_13 : x739_13 ≤ 30) (ex739_21 : M0 739 21 = x739_21) (lx739_21 : 0 ≤ x739_21) (ux739_21 : x739_21 ≤ 10) (rp0 : 0 ≤ x739_21 + (-1) * p2 + (-1)) (pp_WS : WS M0) (pp_QW : QW M0) : Ct B (d + 7) 101 [R 739, I p1, I p2] M0 (qI fun z M => Pw M ∧ Fr fm_m9101_739 M0 M ∧ 0 ≤ z ∧ z ≤ 1 ∧ (WS M) ∧ (QW M)) := by
  refine ct_of (d := d + 6) (k := 1) (L := [some (R 739), some (I p1), some (I p2), none]) rfl rfl rfl ?_
  have hF0 := Fr.rf fm_m9101_739 M0
  generalize hQ : (qI fun z M => Pw M ∧ Fr fm_m9101_739 M0 M ∧ 0 ≤ z ∧ z ≤ 1 ∧ (WS M) ∧ (QW M)) = Q
  refine wk_c1 r101_0 (wk_is3 r101_1 rfl ?_)
  have c2_102 : ∀ (k102 : Nat) (M78 : Mm) (v75 : Int), (2 - v75).toNat = k102 → Pw M78 → Fr fm_m9101_739 M0 M78 → M78 739 13 = x739_13 → M78 739 21 = x739_21 → 0 ≤ v75 → v75 ≤ 2 → (WS M78) → (QW M78) → Wp B (d + 6) 101 2 [some (R 739), some (I p1), some (I p2), some (I v75)] [] M78 Q := by
    refine lp_ind ?_
    intro k102 ih102 M78 v75 hk102 hP79 hF80 e81 e82 h76 h77 pr83 pr84
    refine wk_il3 r101_2 (wk_c1 r101_3 ?_)
    refine wk_icge r101_4 ⟨by omega, by omega⟩ (by decide) ?_ ?_
    · intro h85
      refine wk_c1 r101_32 ?_
      subst hQ; exact wk_zret r101_33 (by decide) (⟨rfl, _, rfl, hP79, hF80, by omega, by omega, pr83, pr84⟩)
    · intro h86
      refine wk_al0 r101_7 (wk_il1 r101_8 (wk_il2 r101_9 (wk_il3 r101_10 (wk_cv4 r101_11 kc_739_77 rfl (m9077_739 _ M78 p1 p2 v75 x739_13 x739_21 hP79 (by omega) (by omega) (by omega) (by omega) (by omega) (by omega) e81 (by first | assumption | omega) (by first | assumption | omega) e82 (by first | assumption | omega) (by first | assumption | omega) (by omega) pr83 pr84) (cqV ?_)))))
      rintro M87 ⟨hP88, hQ89, pr91, pr92⟩
      have hF90 : Fr fm_m9101_739 M0 M87 := hF80.tr hQ89 rfl
      refine wk_al0 r101_14 (wk_il1 r101_15 (wk_c1 r101_16 (wk_iadd r101_17 (wk_cv2 r101_18 kc_739_89 rfl (m9089_739 _ M87 (p1 + 1) hP88 (by omega) (by omega)) (cqI ?_)))))
      rintro v97 M93 ⟨hP94, hQ95, h98, h99⟩
      obtain rfl := Fr.same hQ95
      refine wk_ifne r101_21 ⟨by omega, by omega⟩ ?_ ?_
      · intro h100
        refine wk_inc3 r101_26 rfl (wk_goto r101_29 ?_)
        exact wp_fg (le_s (le_s (le_s (le_s le_0)))) (ih102 (2 - (v75 + 1)).toNat (by omega) M87 (v75 + 1) rfl hP88 hF90 ((hQ89.at g_739_13 rfl).trans e81) ((hQ89.at g_739_21 rfl).trans e82) (by first | assumption | omega) (by first | assumption | omega) pr91 pr92)
      · intro h101
        refine wk_c1 r101_24 ?_
        subst hQ; exact wk_zret r101_25 (by decide) (⟨rfl, _, rfl, hP88, hF90, by omega, by omega, pr91, pr92⟩)
  exact wp_fg (le_s (le_s (le_s (le_s le_0)))) (c2_102 _ M0 0 rfl hP0 hF0 ex739_13 ex739_21 (by first | assumption | omega) (by first | assumption | omega) pp_WS pp_QW)
def fm_m9052_739 : Nat := 407082447148577451019825093006616715533593874014409940856097678692174553677824
/-- IslandHallModel.byOne -/
theorem m9052_739 {B : eB} (d : Nat) (M0 : Mm) (p1 : Int) (x739_13 : Int) (x739_21 : Int) (hP0 : Pw M0) (l1 : 0 ≤ p1) (u1 : p1 ≤ 2) (ex739_13 : M0 739 13 = x739_13) (lx739_13 : 0 ≤ x739_13) (ux739_13 : x739_13 ≤ 30) (ex739_21 : M0 739 21 = x739_21) (lx739_21 : 0 ≤ x739_21) (ux739_21 : x739_21 ≤ 10) (pp_WS : WS M0) (pp_QW : QW M0) : Ct B (d + 8) 52 [R 739, I p1] M0 (qI fun z M => Pw M ∧ Fr fm_m9052_739 M0 M ∧ 0 ≤ z ∧ z ≤ 1 ∧ (WS M) ∧ (QW M)) := by
  refine ct_of (d := d + 7) (k := 1) (L := [some (R 739), some (I p1), none]) rfl rfl rfl ?_
  have hF0 := Fr.rf fm_m9052_739 M0
  generalize hQ : (qI fun z M => Pw M ∧ Fr fm_m9052_739 M0 M ∧ 0 ≤ z ∧ z ≤ 1 ∧ (WS M) ∧ (QW M)) = Q
  refine wk_al0 r52_0 (wk_il1 r52_1 (wk_cv2 r52_2 kc_739_89 rfl (m9089_739 _ M0 p1 hP0 (by omega) (by omega)) (cqI ?_)))
  rintro v5 M1 ⟨hP2, hQ3, h6, h7⟩
  obtain rfl := Fr.same hQ3
  refine wk_ifeq r52_5 ⟨by omega, by omega⟩ ?_ ?_
  · intro h8
    refine wk_c1 r52_10 (wk_is2 r52_11 rfl ?_)
    have c12_186 : ∀ (k186 : Nat) (M166 : Mm) (v163 : Int), (10 - v163).toNat = k186 → Pw M166 → Fr fm_m9052_739 M0 M166 → M166 739 13 = x739_13 → M166 739 21 = x739_21 → 0 ≤ v163 → v163 ≤ 10 → (WS M166) → (QW M166) → Wp B (d + 7) 52 12 [some (R 739), some (I p1), some (I v163)] [] M166 Q := by
      refine lp_ind ?_
      intro k186 ih186 M166 v163 hk186 hP167 hF168 e169 e170 h164 h165 pr171 pr172
      refine wk_il2 r52_12 (wk_al0 r52_13 (wk_getfi r52_14 fd_739_21 e170 ?_))
      refine wk_icge r52_17 ⟨by omega, by omega⟩ ⟨by omega, by omega⟩ ?_ ?_
      · intro h173
        refine wk_c1 r52_37 ?_
        subst hQ; exact wk_zret r52_38 (by decide) (⟨rfl, _, rfl, hP167, hF168, by omega, by omega, pr171, pr172⟩)
      · intro h174
        refine wk_al0 r52_20 (wk_il1 r52_21 (wk_il2 r52_22 (wk_cv3 r52_23 kc_739_101 rfl (m9101_739 _ M166 p1 v163 x739_13 x739_21 hP167 (by omega) (by omega) (by omega) (by omega) e169 (by first | assumption | omega) (by first | assumption | omega) e170 (by first | assumption | omega) (by first | assumption | omega) (by omega) pr171 pr172) (cqI ?_))))
        rintro v181 M175 ⟨hP176, hQ177, h182, h183, pr179, pr180⟩
        have hF178 : Fr fm_m9052_739 M0 M175 := hF168.tr hQ177 rfl
        refine wk_ifeq r52_26 ⟨by omega, by omega⟩ ?_ ?_
        · intro h184
          refine wk_inc2 r52_31 rfl (wk_goto r52_34 ?_)
          exact wp_fg (le_s (le_s (le_s le_0))) (ih186 (10 - (v163 + 1)).toNat (by omega) M175 (v163 + 1) rfl hP176 hF178 ((hQ177.at g_739_13 rfl).trans e169) ((hQ177.at g_739_21 rfl).trans e170) (by first | assumption | omega) (by first | assumption | omega) pr179 pr180)
        · intro h185
          refine wk_c1 r52_29 ?_
          subst hQ; exact wk_zret r52_30 (by decide) (⟨rfl, _, rfl, hP176, hF178, by omega, by omega, pr179, pr180⟩)
    exact wp_fg (le_s (le_s (le_s le_0))) (c12_186 _ M0 0 rfl hP0 hF0 ex739_13 ex739_21 (by first | assumption | omega) (by first | assumption | omega) pp_WS pp_QW)
  · intro h187
    refine wk_c1 r52_8 ?_
    subst hQ; exact wk_zret r52_9 (by decide) (⟨rfl, _, rfl, hP0, hF0, by omega, by omega, pp_WS, pp_QW⟩)
def fm_m9100_739 : Nat := 407082447148577451019825093006616715533593874014409940856097678692174553677824
/-- IslandHallModel.leadsToOne -/
theorem m9100_739 {B : eB} (d : Nat) (M0 : Mm) (p1 : Int) (p2 : Int) (x739_13 : Int) (x739_21 : Int) (hP0 : Pw M0) (l1 : 0 ≤ p1) (u1 : p1 ≤ 1) (l2 : 0 ≤ p2) (u2 : p2 ≤ 9) (ex739_13 : M0 739 13 = x739_13) (lx739_13 : 0 ≤ x739_13) (ux739_13 : x739_13 ≤ 30) (ex739_21 : M0 739 21 = x739_21) (lx739_21 : 0 ≤ x739_21) (ux739_21 : x739_21 ≤ 10) (rp0 : 0 ≤ x739_21 + (-1) * p2 + (-1)) (pp_WS : WS M0) (pp_QW : QW M0) : Ct B (d + 9) 100 [R 739, I p1, I p2] M0 (qI fun z M => Pw M ∧ Fr fm_m9100_739 M0 M ∧ 0 ≤ z ∧ z ≤ 1 ∧ (WS M) ∧ (QW M)) := by
  refine ct_of (d := d + 8) (k := 1) (L := [some (R 739), some (I p1), some (I p2), none]) rfl rfl rfl ?_
  have hF0 := Fr.rf fm_m9100_739 M0
  generalize hQ : (qI fun z M => Pw M ∧ Fr fm_m9100_739 M0 M ∧ 0 ≤ z ∧ z ≤ 1 ∧ (WS M) ∧ (QW M)) = Q
  refine wk_c1 r100_0 (wk_is3 r100_1 rfl ?_)
  have c2_110 : ∀ (k110 : Nat) (M84 : Mm) (v81 : Int), (2 - v81).toNat = k110 → Pw M84 → Fr fm_m9100_739 M0 M84 → M84 739 13 = x739_13 → M84 739 21 = x739_21 → 0 ≤ v81 → v81 ≤ 2 → (WS M84) → (QW M84) → Wp B (d + 8) 100 2 [some (R 739), some (I p1), some (I p2), some (I v81)] [] M84 Q := by
    refine lp_ind ?_
    intro k110 ih110 M84 v81 hk110 hP85 hF86 e87 e88 h82 h83 pr89 pr90
    refine wk_il3 r100_2 (wk_c1 r100_3 ?_)
    refine wk_icge r100_4 ⟨by omega, by omega⟩ (by decide) ?_ ?_
    · intro h91
      refine wk_c1 r100_32 ?_
      subst hQ; exact wk_zret r100_33 (by decide) (⟨rfl, _, rfl, hP85, hF86, by omega, by omega, pr89, pr90⟩)
    · intro h92
      refine wk_al0 r100_7 (wk_il1 r100_8 (wk_il2 r100_9 (wk_il3 r100_10 (wk_cv4 r100_11 kc_739_77 rfl (m9077_739 _ M84 p1 p2 v81 x739_13 x739_21 hP85 (by omega) (by omega) (by omega) (by omega) (by omega) (by omega) e87 (by first | assumption | omega) (by first | assumption | omega) e88 (by first | assumption | omega) (by first | assumption | omega) (by omega) pr89 pr90) (cqV ?_)))))
      rintro M93 ⟨hP94, hQ95, pr97, pr98⟩
      have hF96 : Fr fm_m9100_739 M0 M93 := hF86.tr hQ95 rfl
      refine wk_al0 r100_14 (wk_il1 r100_15 (wk_c1 r100_16 (wk_iadd r100_17 (wk_cv2 r100_18 kc_739_52 rfl (m9052_739 _ M93 (p1 + 1) x739_13 x739_21 hP94 (by omega) (by omega) ((hQ95.at g_739_13 rfl).trans e87) (by first | assumption | omega) (by first | assumption | omega) ((hQ95.at g_739_21 rfl).trans e88) (by first | assumption | omega) (by first | assumption | omega) pr97 pr98) (cqI ?_)))))
      rintro v105 M99 ⟨hP100, hQ101, h106, h107, pr103, pr104⟩
      have hF102 : Fr fm_m9100_739 M0 M99 := hF96.tr hQ101 rfl
      refine wk_ifne r100_21 ⟨by omega, by omega⟩ ?_ ?_
      · intro h108
        refine wk_inc3 r100_26 rfl (wk_goto r100_29 ?_)
        exact wp_fg (le_s (le_s (le_s (le_s le_0)))) (ih110 (2 - (v81 + 1)).toNat (by omega) M99 (v81 + 1) rfl hP100 hF102 ((hQ101.at g_739_13 rfl).trans ((hQ95.at g_739_13 rfl).trans e87)) ((hQ101.at g_739_21 rfl).trans ((hQ95.at g_739_21 rfl).trans e88)) (by first | assumption | omega) (by first | assumption | omega) pr103 pr104)
      · intro h109
        refine wk_c1 r100_24 ?_
        subst hQ; exact wk_zret r100_25 (by decide) (⟨rfl, _, rfl, hP100, hF102, by omega, by omega, pr103, pr104⟩)
  exact wp_fg (le_s (le_s (le_s (le_s le_0)))) (c2_110 _ M0 0 rfl hP0 hF0 ex739_13 ex739_21 (by first | assumption | omega) (by first | assumption | omega) pp_WS pp_QW)
def fm_m9053_739 : Nat := 407082447148577451019825093006616715533593874014409940856097678692174553677824
/-- IslandHallModel.byTwo -/
theorem m9053_739 {B : eB} (d : Nat) (M0 : Mm) (p1 : Int) (x739_13 : Int) (x739_21 : Int) (hP0 : Pw M0) (l1 : 0 ≤ p1) (u1 : p1 ≤ 1) (ex739_13 : M0 739 13 = x739_13) (lx739_13 : 0 ≤ x739_13) (ux739_13 : x739_13 ≤ 30) (ex739_21 : M0 739 21 = x739_21) (lx739_21 : 0 ≤ x739_21) (ux739_21 : x739_21 ≤ 10) (pp_WS : WS M0) (pp_QW : QW M0) : Ct B (d + 10) 53 [R 739, I p1] M0 (qI fun z M => Pw M ∧ Fr fm_m9053_739 M0 M ∧ 0 ≤ z ∧ z ≤ 1 ∧ (WS M) ∧ (QW M)) := by
  refine ct_of (d := d + 9) (k := 1) (L := [some (R 739), some (I p1), none]) rfl rfl rfl ?_
  have hF0 := Fr.rf fm_m9053_739 M0
  generalize hQ : (qI fun z M => Pw M ∧ Fr fm_m9053_739 M0 M ∧ 0 ≤ z ∧ z ≤ 1 ∧ (WS M) ∧ (QW M)) = Q
  refine wk_al0 r53_0 (wk_il1 r53_1 (wk_cv2 r53_2 kc_739_89 rfl (m9089_739 _ M0 p1 hP0 (by omega) (by omega)) (cqI ?_)))
  rintro v5 M1 ⟨hP2, hQ3, h6, h7⟩
  obtain rfl := Fr.same hQ3
  refine wk_ifeq r53_5 ⟨by omega, by omega⟩ ?_ ?_
  · intro h8
    refine wk_c1 r53_10 (wk_is2 r53_11 rfl ?_)
    have c12_186 : ∀ (k186 : Nat) (M166 : Mm) (v163 : Int), (10 - v163).toNat = k186 → Pw M166 → Fr fm_m9053_739 M0 M166 → M166 739 13 = x739_13 → M166 739 21 = x739_21 → 0 ≤ v163 → v163 ≤ 10 → (WS M166) → (QW M166) → Wp B (d + 9) 53 12 [some (R 739), some (I p1), some (I v163)] [] M166 Q := by
      refine lp_ind ?_
      intro k186 ih186 M166 v163 hk186 hP167 hF168 e169 e170 h164 h165 pr171 pr172
      refine wk_il2 r53_12 (wk_al0 r53_13 (wk_getfi r53_14 fd_739_21 e170 ?_))
      refine wk_icge r53_17 ⟨by omega, by omega⟩ ⟨by omega, by omega⟩ ?_ ?_
      · intro h173
        refine wk_c1 r53_37 ?_
        subst hQ; exact wk_zret r53_38 (by decide) (⟨rfl, _, rfl, hP167, hF168, by omega, by omega, pr171, pr172⟩)
      · intro h174
        refine wk_al0 r53_20 (wk_il1 r53_21 (wk_il2 r53_22 (wk_cv3 r53_23 kc_739_100 rfl (m9100_739 _ M166 p1 v163 x739_13 x739_21 hP167 (by omega) (by omega) (by omega) (by omega) e169 (by first | assumption | omega) (by first | assumption | omega) e170 (by first | assumption | omega) (by first | assumption | omega) (by omega) pr171 pr172) (cqI ?_))))
        rintro v181 M175 ⟨hP176, hQ177, h182, h183, pr179, pr180⟩
        have hF178 : Fr fm_m9053_739 M0 M175 := hF168.tr hQ177 rfl
        refine wk_ifeq r53_26 ⟨by omega, by omega⟩ ?_ ?_
        · intro h184
          refine wk_inc2 r53_31 rfl (wk_goto r53_34 ?_)
          exact wp_fg (le_s (le_s (le_s le_0))) (ih186 (10 - (v163 + 1)).toNat (by omega) M175 (v163 + 1) rfl hP176 hF178 ((hQ177.at g_739_13 rfl).trans e169) ((hQ177.at g_739_21 rfl).trans e170) (by first | assumption | omega) (by first | assumption | omega) pr179 pr180)
        · intro h185
          refine wk_c1 r53_29 ?_
          subst hQ; exact wk_zret r53_30 (by decide) (⟨rfl, _, rfl, hP176, hF178, by omega, by omega, pr179, pr180⟩)
    exact wp_fg (le_s (le_s (le_s le_0))) (c12_186 _ M0 0 rfl hP0 hF0 ex739_13 ex739_21 (by first | assumption | omega) (by first | assumption | omega) pp_WS pp_QW)
  · intro h187
    refine wk_c1 r53_8 ?_
    subst hQ; exact wk_zret r53_9 (by decide) (⟨rfl, _, rfl, hP0, hF0, by omega, by omega, pp_WS, pp_QW⟩)
def fm_m9102_739 : Nat := 407082447148577451019825093006616715533593874014409940856097678692174553677824
/-- IslandHallModel.leadsToTwo -/
theorem m9102_739 {B : eB} (d : Nat) (M0 : Mm) (p1 : Int) (x739_13 : Int) (x739_21 : Int) (hP0 : Pw M0) (l1 : 0 ≤ p1) (u1 : p1 ≤ 9) (ex739_13 : M0 739 13 = x739_13) (lx739_13 : 0 ≤ x739_13) (ux739_13 : x739_13 ≤ 30) (ex739_21 : M0 739 21 = x739_21) (lx739_21 : 0 ≤ x739_21) (ux739_21 : x739_21 ≤ 10) (rp0 : 0 ≤ x739_21 + (-1) * p1 + (-1)) (pp_WS : WS M0) (pp_QW : QW M0) : Ct B (d + 11) 102 [R 739, I p1] M0 (qI fun z M => Pw M ∧ Fr fm_m9102_739 M0 M ∧ 0 ≤ z ∧ z ≤ 1 ∧ (WS M) ∧ (QW M)) := by
  refine ct_of (d := d + 10) (k := 1) (L := [some (R 739), some (I p1), none]) rfl rfl rfl ?_
  have hF0 := Fr.rf fm_m9102_739 M0
  generalize hQ : (qI fun z M => Pw M ∧ Fr fm_m9102_739 M0 M ∧ 0 ≤ z ∧ z ≤ 1 ∧ (WS M) ∧ (QW M)) = Q
  refine wk_c1 r102_0 (wk_is2 r102_1 rfl ?_)
  have c2_110 : ∀ (k110 : Nat) (M84 : Mm) (v81 : Int), (2 - v81).toNat = k110 → Pw M84 → Fr fm_m9102_739 M0 M84 → M84 739 13 = x739_13 → M84 739 21 = x739_21 → 0 ≤ v81 → v81 ≤ 2 → (WS M84) → (QW M84) → Wp B (d + 10) 102 2 [some (R 739), some (I p1), some (I v81)] [] M84 Q := by
    refine lp_ind ?_
    intro k110 ih110 M84 v81 hk110 hP85 hF86 e87 e88 h82 h83 pr89 pr90
    refine wk_il2 r102_2 (wk_c1 r102_3 ?_)
    refine wk_icge r102_4 ⟨by omega, by omega⟩ (by decide) ?_ ?_
    · intro h91
      refine wk_c1 r102_30 ?_
      subst hQ; exact wk_zret r102_31 (by decide) (⟨rfl, _, rfl, hP85, hF86, by omega, by omega, pr89, pr90⟩)
    · intro h92
      refine wk_al0 r102_7 (wk_c1 r102_8 (wk_il1 r102_9 (wk_il2 r102_10 (wk_cv4 r102_11 kc_739_77 rfl (m9077_739 _ M84 0 p1 v81 x739_13 x739_21 hP85 (by decide) (by decide) (by omega) (by omega) (by omega) (by omega) e87 (by first | assumption | omega) (by first | assumption | omega) e88 (by first | assumption | omega) (by first | assumption | omega) (by omega) pr89 pr90) (cqV ?_)))))
      rintro M93 ⟨hP94, hQ95, pr97, pr98⟩
      have hF96 : Fr fm_m9102_739 M0 M93 := hF86.tr hQ95 rfl
      refine wk_al0 r102_14 (wk_c1 r102_15 (wk_cv2 r102_16 kc_739_53 rfl (m9053_739 _ M93 1 x739_13 x739_21 hP94 (by decide) (by decide) ((hQ95.at g_739_13 rfl).trans e87) (by first | assumption | omega) (by first | assumption | omega) ((hQ95.at g_739_21 rfl).trans e88) (by first | assumption | omega) (by first | assumption | omega) pr97 pr98) (cqI ?_)))
      rintro v105 M99 ⟨hP100, hQ101, h106, h107, pr103, pr104⟩
      have hF102 : Fr fm_m9102_739 M0 M99 := hF96.tr hQ101 rfl
      refine wk_ifne r102_19 ⟨by omega, by omega⟩ ?_ ?_
      · intro h108
        refine wk_inc2 r102_24 rfl (wk_goto r102_27 ?_)
        exact wp_fg (le_s (le_s (le_s le_0))) (ih110 (2 - (v81 + 1)).toNat (by omega) M99 (v81 + 1) rfl hP100 hF102 ((hQ101.at g_739_13 rfl).trans ((hQ95.at g_739_13 rfl).trans e87)) ((hQ101.at g_739_21 rfl).trans ((hQ95.at g_739_21 rfl).trans e88)) (by first | assumption | omega) (by first | assumption | omega) pr103 pr104)
      · intro h109
        refine wk_c1 r102_22 ?_
        subst hQ; exact wk_zret r102_23 (by decide) (⟨rfl, _, rfl, hP100, hF102, by omega, by omega, pr103, pr104⟩)
  exact wp_fg (le_s (le_s (le_s le_0))) (c2_110 _ M0 0 rfl hP0 hF0 ex739_13 ex739_21 (by first | assumption | omega) (by first | assumption | omega) pp_WS pp_QW)
def fm_m9099_739 : Nat := 407082447148577451019825093006616715533593874014409940856097678692174553677824
/-- IslandHallModel.leads -/
theorem m9099_739 {B : eB} (d : Nat) (M0 : Mm) (p1 : Int) (p2 : Int) (x739_13 : Int) (x739_21 : Int) (hP0 : Pw M0) (l1 : 0 ≤ p1) (u1 : p1 ≤ 9) (l2 : 0 ≤ p2) (u2 : p2 ≤ 2) (ex739_13 : M0 739 13 = x739_13) (lx739_13 : 0 ≤ x739_13) (ux739_13 : x739_13 ≤ 30) (ex739_21 : M0 739 21 = x739_21) (lx739_21 : 0 ≤ x739_21) (ux739_21 : x739_21 ≤ 10) (rp0 : 0 ≤ x739_21 + (-1) * p1 + (-1)) (pp_WS : WS M0) (pp_QW : QW M0) : Ct B (d + 12) 99 [R 739, I p1, I p2] M0 (qI fun z M => Pw M ∧ Fr fm_m9099_739 M0 M ∧ 0 ≤ z ∧ z ≤ 1 ∧ (WS M) ∧ (QW M)) := by
  refine ct_of (d := d + 11) (k := 0) (L := [some (R 739), some (I p1), some (I p2)]) rfl rfl rfl ?_
  have hF0 := Fr.rf fm_m9099_739 M0
  generalize hQ : (qI fun z M => Pw M ∧ Fr fm_m9099_739 M0 M ∧ 0 ≤ z ∧ z ≤ 1 ∧ (WS M) ∧ (QW M)) = Q
  refine wk_il2 r99_0 ?_
  refine wk_ifne r99_1 ⟨by omega, by omega⟩ ?_ ?_
  · intro h1
    refine wk_il2 r99_13 (wk_c1 r99_14 ?_)
    refine wk_icne r99_15 ⟨by omega, by omega⟩ (by decide) ?_ ?_
    · intro h2
      refine wk_al0 r99_27 (wk_il1 r99_28 (wk_cv2 r99_29 kc_739_102 rfl (m9102_739 _ M0 p1 x739_13 x739_21 hP0 (by omega) (by omega) ex739_13 (by first | assumption | omega) (by first | assumption | omega) ex739_21 (by first | assumption | omega) (by first | assumption | omega) (by omega) pp_WS pp_QW) (cqI ?_)))
      rintro v9 M3 ⟨hP4, hQ5, h10, h11, pr7, pr8⟩
      have hF6 : Fr fm_m9099_739 M0 M3 := hF0.tr hQ5 rfl
      subst hQ; exact wk_zret r99_32 ⟨by omega, by omega⟩ (⟨rfl, _, rfl, hP4, hF6, by omega, by omega, pr7, pr8⟩)
    · intro h12
      refine wk_al0 r99_18 (wk_c1 r99_19 (wk_il1 r99_20 (wk_cv3 r99_21 kc_739_100 rfl (m9100_739 _ M0 0 p1 x739_13 x739_21 hP0 (by decide) (by decide) (by omega) (by omega) ex739_13 (by first | assumption | omega) (by first | assumption | omega) ex739_21 (by first | assumption | omega) (by first | assumption | omega) (by omega) pp_WS pp_QW) (cqI ?_))))
      rintro v19 M13 ⟨hP14, hQ15, h20, h21, pr17, pr18⟩
      have hF16 : Fr fm_m9099_739 M0 M13 := hF0.tr hQ15 rfl
      refine wk_goto r99_24 ?_
      subst hQ; exact wk_zret r99_32 ⟨by omega, by omega⟩ (⟨rfl, _, rfl, hP14, hF16, by omega, by omega, pr17, pr18⟩)
  · intro h22
    refine wk_al0 r99_4 (wk_c1 r99_5 (wk_il1 r99_6 (wk_cv3 r99_7 kc_739_101 rfl (m9101_739 _ M0 0 p1 x739_13 x739_21 hP0 (by decide) (by decide) (by omega) (by omega) ex739_13 (by first | assumption | omega) (by first | assumption | omega) ex739_21 (by first | assumption | omega) (by first | assumption | omega) (by omega) pp_WS pp_QW) (cqI ?_))))
    rintro v29 M23 ⟨hP24, hQ25, h30, h31, pr27, pr28⟩
    have hF26 : Fr fm_m9099_739 M0 M23 := hF0.tr hQ25 rfl
    refine wk_goto r99_10 ?_
    subst hQ; exact wk_zret r99_32 ⟨by omega, by omega⟩ (⟨rfl, _, rfl, hP24, hF26, by omega, by omega, pr27, pr28⟩)
def fm_m9121_739 : Nat := 1836637523942442802663096932759078943487889714457846392400524814804997636096
/-- IslandHallModel.reply -/
theorem m9121_739 {B : eB} (d : Nat) (M0 : Mm) (p1 : Int) (x739_13 : Int) (x739_21 : Int) (hP0 : Pw M0) (l1 : (-2147483648) ≤ p1) (u1 : p1 ≤ 2147483647) (ex739_13 : M0 739 13 = x739_13) (lx739_13 : 0 ≤ x739_13) (ux739_13 : x739_13 ≤ 30) (ex739_21 : M0 739 21 = x739_21) (lx739_21 : 0 ≤ x739_21) (ux739_21 : x739_21 ≤ 10) (pp_WS : WS M0) (pp_QW : QW M0) : Ct B (d + 7) 121 [R 739, I p1] M0 (qI fun z M => Pw M ∧ Fr fm_m9121_739 M0 M ∧ (-1) ≤ z ∧ z ≤ 1 ∧ (WS M) ∧ (QW M)) := by
  refine ct_of (d := d + 6) (k := 4) (L := [some (R 739), some (I p1), none, none, none, none]) rfl rfl rfl ?_
  have hF0 := Fr.rf fm_m9121_739 M0
  generalize hQ : (qI fun z M => Pw M ∧ Fr fm_m9121_739 M0 M ∧ (-1) ≤ z ∧ z ≤ 1 ∧ (WS M) ∧ (QW M)) = Q
  refine wk_al0 r121_0 (wk_c1 r121_1 (wk_putfi81 r121_2 fd_739_0 (wk_nw g_739_0 rfl hP0 hF0 (uf_739_0 (by decide)) ?_)))
  intro M1 hP2 hF3 e4
  refine wk_al0 r121_5 (wk_il1 r121_6 ?_)
  refine wk_iflt r121_7 ⟨by omega, by omega⟩ ?_ ?_
  · intro h5
    refine wk_c1 r121_22 (wk_c1 r121_23 (wk_cv3 r121_24 kc_739_123 rfl (m9123_739 _ M1 0 1 0 hP2 (by decide) (by decide) (by decide) (by decide) (mUp_at e4) (by first | assumption | omega) (by first | assumption | omega)) (cqI ?_)))
    rintro v12 M6 ⟨hP7, hQ8, h13, h14, h10, xh11⟩
    have hF9 : Fr fm_m9121_739 M0 M6 := hF3.tr hQ8 rfl
    refine wk_ifne r121_27 ⟨by omega, by omega⟩ ?_ ?_
    · intro h15
      exfalso
      omega
    · intro h16
      refine wk_c1 r121_30 ?_
      subst hQ; exact wk_iret r121_31 (⟨rfl, _, rfl, hP7, hF9, by omega, by omega, (WS_sm (Sm.fr hQ8 rfl) (WS_sm (Sm.up e4 g_739_0 rfl) pp_WS)), (QW_sm (Sm.fr hQ8 rfl) (QW_sm (Sm.up e4 g_739_0 rfl) pp_QW))⟩)
  · intro h17
    refine wk_il1 r121_10 (wk_al0 r121_11 (wk_getfi r121_12 fd_739_21 (mUp_no e4 ex739_21 (Or.inr (by decide))) ?_))
    refine wk_icge r121_15 ⟨by omega, by omega⟩ ⟨by omega, by omega⟩ ?_ ?_
    · intro h18
      refine wk_c1 r121_22 (wk_c1 r121_23 (wk_cv3 r121_24 kc_739_123 rfl (m9123_739 _ M1 0 1 0 hP2 (by decide) (by decide) (by decide) (by decide) (mUp_at e4) (by first | assumption | omega) (by first | assumption | omega)) (cqI ?_)))
      rintro v25 M19 ⟨hP20, hQ21, h26, h27, h23, xh24⟩
      have hF22 : Fr fm_m9121_739 M0 M19 := hF3.tr hQ21 rfl
      refine wk_ifne r121_27 ⟨by omega, by omega⟩ ?_ ?_
      · intro h28
        exfalso
        omega
      · intro h29
        refine wk_c1 r121_30 ?_
        subst hQ; exact wk_iret r121_31 (⟨rfl, _, rfl, hP20, hF22, by omega, by omega, (WS_sm (Sm.fr hQ21 rfl) (WS_sm (Sm.up e4 g_739_0 rfl) pp_WS)), (QW_sm (Sm.fr hQ21 rfl) (QW_sm (Sm.up e4 g_739_0 rfl) pp_QW))⟩)
    · intro h30
      refine wk_c1 r121_18 (wk_goto r121_19 (wk_c1 r121_23 (wk_cv3 r121_24 kc_739_123 rfl (m9123_739v1 _ M1 1 1 0 hP2 (by decide) (by decide) (by decide) (by decide) (mUp_at e4) (by first | assumption | omega) (by first | assumption | omega)) (cqI ?_))))
      rintro v37 M31 ⟨hP32, hQ33, h38, h39, h35, xh36⟩
      obtain rfl := Fr.same hQ33
      refine wk_ifne r121_27 ⟨by omega, by omega⟩ ?_ ?_
      · intro h40
        refine wk_al0 r121_32 (wk_getfb r121_33 fd_739_15 (bf_739_15 hP2) ?_)
        intro v41 h43 h44 e42
        refine wk_c2 r121_36 ?_
        refine wk_iceq r121_38 ⟨by omega, by omega⟩ (by decide) ?_ ?_
        · intro h45
          refine wk_c1 r121_49 ?_
          subst hQ; exact wk_iret r121_50 (⟨rfl, _, rfl, hP2, hF3, by omega, by omega, (WS_sm (Sm.up e4 g_739_0 rfl) pp_WS), (QW_sm (Sm.up e4 g_739_0 rfl) pp_QW)⟩)
        · intro h46
          refine wk_al0 r121_41 (wk_getfb r121_42 fd_739_24 (bf_739_24 hP2) ?_)
          intro v47 h49 h50 e48
          refine wk_c1 r121_45 ?_
          refine wk_icne r121_46 ⟨by omega, by omega⟩ (by decide) ?_ ?_
          · intro h51
            refine wk_al0 r121_51 (wk_al0 r121_52 (wk_getfi r121_53 fd_739_24 e48 (wk_al0 r121_56 (wk_getfr r121_57 fd_739_22 (br_739_22 hP2) (wk_il1 r121_60 (wk_ialdb r121_61 ar_753 ⟨by omega, by omega⟩ (fun q0 q1 => ba_753 hP2 q0 q1) ?_))))))
            intro v52 h54 h55 e53
            refine wk_al0 r121_62 (wk_getfi r121_63 fd_739_15 e42 (wk_cv4 r121_66 kc_739_107 rfl (m9107_739 _ M1 v47 v52 v41 hP2 (by omega) (by omega) (by omega) (by omega) (by omega) (by omega)) (cqI ?_)))
            rintro v60 M56 ⟨hP57, hQ58, h61, h62⟩
            obtain rfl := Fr.same hQ58
            refine wk_is2 r121_69 rfl (wk_al0 r121_70 (wk_al0 r121_71 (wk_getfr r121_72 fd_739_23 (br_739_23 hP2) (wk_il1 r121_75 (wk_ialdb r121_76 ar_754 ⟨by omega, by omega⟩ (fun q0 q1 => ba_754 hP2 q0 q1) ?_)))))
            intro v63 h65 h66 e64
            have h67 : v63 < x739_13 := by have q := (QW_sm (Sm.up e4 g_739_0 rfl) pp_QW) p1 (by omega) (by rw [(mUp_no e4 ex739_21 (Or.inr (by decide)))]; omega); rw [(mUp_no e4 ex739_13 (Or.inr (by decide))), e64] at q; exact q
            refine wk_al0 r121_77 (wk_getfi r121_78 fd_739_24 e48 (wk_al0 r121_81 (wk_getfi r121_82 fd_739_15 e42 (wk_al0 r121_85 (wk_getfr r121_86 fd_739_19 (br_739_19 hP2) (wk_al0 r121_89 (wk_getfi r121_90 fd_739_24 e48 (wk_ialdb r121_93 ar_751 ⟨by omega, by omega⟩ (fun q0 q1 => ba_751 hP2 q0 q1) ?_))))))))
            intro v68 h70 h71 e69
            refine wk_cv5 r121_94 kc_739_128 rfl (m9128_739 _ M1 v63 v47 v41 v68 x739_13 hP2 (by omega) (by omega) (by omega) (by omega) (by omega) (by omega) (by omega) (by omega) (mUp_no e4 ex739_13 (Or.inr (by decide))) (by first | assumption | omega) (by first | assumption | omega) (by omega) (WS_sm (Sm.up e4 g_739_0 rfl) pp_WS)) (cqI ?_)
            rintro v76 M72 ⟨hP73, hQ74, h77, h78⟩
            have hF75 : Fr fm_m9121_739 M0 M72 := hF3.tr hQ74 rfl
            refine wk_is3 r121_97 rfl (wk_il2 r121_98 (wk_c1 r121_99 ?_))
            refine wk_icne r121_100 ⟨by omega, by omega⟩ (by decide) ?_ ?_
            · intro h79
              refine wk_il3 r121_109 (wk_is4 r121_110 rfl (wk_il4 r121_112 (wk_c1 r121_114 ?_)))
              refine wk_icne r121_115 ⟨by omega, by omega⟩ (by decide) ?_ ?_
              · intro h80
                refine wk_c1 r121_130 (wk_al0 r121_131 (wk_getfr r121_132 fd_739_12 (br_739_12 hP73) (wk_al0 r121_135 (wk_getfi r121_136 fd_739_24 ((hQ74.at g_739_24 rfl).trans e48) (wk_ialdb r121_139 ar_746 ⟨by omega, by omega⟩ (fun q0 q1 => ba_746 hP73 q0 q1) ?_)))))
                intro v81 h83 h84 e82
                refine wk_isub r121_140 (wk_is5 r121_141 rfl (wk_il2 r121_143 (wk_c1 r121_144 ?_)))
                refine wk_icne r121_145 ⟨by omega, by omega⟩ (by decide) ?_ ?_
                · intro h85
                  refine wk_al0 r121_179 (wk_al0 r121_180 (wk_getfr r121_181 fd_739_22 (br_739_22 hP73) (wk_il1 r121_184 (wk_ialdb r121_185 ar_753 ⟨by omega, by omega⟩ (fun q0 q1 => ba_753 hP73 q0 q1) ?_))))
                  intro v86 h88 h89 e87
                  refine wk_al0 r121_186 (wk_getfr r121_187 fd_739_23 (br_739_23 hP73) (wk_il1 r121_190 (wk_ialdb r121_191 ar_754 ⟨by omega, by omega⟩ (fun q0 q1 => ba_754 hP73 q0 q1) ?_)))
                  intro v90 h92 h93 e91
                  have h94 : v90 < x739_13 := by have q := (QW_sm (Sm.fr hQ74 rfl) (QW_sm (Sm.up e4 g_739_0 rfl) pp_QW)) p1 (by omega) (by rw [((hQ74.at g_739_21 rfl).trans (mUp_no e4 ex739_21 (Or.inr (by decide))))]; omega); rw [((hQ74.at g_739_13 rfl).trans (mUp_no e4 ex739_13 (Or.inr (by decide)))), e91] at q; exact q
                  refine wk_il5 r121_192 (wk_cv4 r121_194 kc_739_67 rfl (m9067_739 _ M72 v86 v90 (1 - v81) x739_13 hP73 (by omega) (by omega) (by omega) (by omega) (by omega) (by omega) ((hQ74.at g_739_13 rfl).trans (mUp_no e4 ex739_13 (Or.inr (by decide)))) (by first | assumption | omega) (by first | assumption | omega) (by omega) (WS_sm (Sm.fr hQ74 rfl) (WS_sm (Sm.up e4 g_739_0 rfl) pp_WS))) (cqI ?_))
                  rintro v100 M95 ⟨hP96, hQ97, h101, h102, pr99⟩
                  have hF98 : Fr fm_m9121_739 M0 M95 := hF75.tr hQ97 rfl
                  refine wk_popi r121_197 (wk_il5 r121_198 ?_)
                  subst hQ; exact wk_iret r121_200 (⟨rfl, _, rfl, hP96, hF98, by omega, by omega, pr99, (QW_sm (Sm.fr hQ97 rfl) (QW_sm (Sm.fr hQ74 rfl) (QW_sm (Sm.up e4 g_739_0 rfl) pp_QW)))⟩)
                · intro h103
                  refine wk_al0 r121_148 (wk_al0 r121_149 (wk_getfb r121_150 fd_739_25 (bf_739_25 hP73) ?_))
                  intro v104 h106 h107 e105
                  refine wk_c5 r121_153 (wk_imul r121_156 (wk_wrap ?_))
                  intro v108 h109 h110 h111
                  refine wk_c3 r121_157 (wk_iadd r121_160 (wk_wrap ?_))
                  intro v112 h113 h114 h115
                  refine wk_putfi81 r121_161 fd_739_25 (wk_nw g_739_25 rfl hP73 hF75 (uf_739_25 ⟨by omega, by omega⟩) ?_)
                  intro M116 hP117 hF118 e119
                  refine wk_al0 r121_164 (wk_getfi r121_165 fd_739_25 (mUp_at e119) (wk_c2 r121_168 (wk_ishrc r121_170 ⟨by omega, by omega⟩ (by decide) pwl_16 (wk_c3 r121_171 (wk_iandc 15 32768 r121_174 ⟨rfl, by decide⟩ rfl (wk_c1 r121_175 (wk_irem r121_176 ⟨by omega, by omega⟩ (by decide) (wk_is5 r121_177 rfl (wk_al0 r121_179 (wk_al0 r121_180 (wk_getfr r121_181 fd_739_22 (br_739_22 hP117) (wk_il1 r121_184 (wk_ialdb r121_185 ar_753 ⟨by omega, by omega⟩ (fun q0 q1 => ba_753 hP117 q0 q1) ?_)))))))))))))
                  intro v123 h125 h126 e124
                  refine wk_al0 r121_186 (wk_getfr r121_187 fd_739_23 (br_739_23 hP117) (wk_il1 r121_190 (wk_ialdb r121_191 ar_754 ⟨by omega, by omega⟩ (fun q0 q1 => ba_754 hP117 q0 q1) ?_)))
                  intro v127 h129 h130 e128
                  have h131 : v127 < x739_13 := by have q := (QW_sm (Sm.up e119 g_739_25 rfl) (QW_sm (Sm.fr hQ74 rfl) (QW_sm (Sm.up e4 g_739_0 rfl) pp_QW))) p1 (by omega) (by rw [(mUp_no e119 ((hQ74.at g_739_21 rfl).trans (mUp_no e4 ex739_21 (Or.inr (by decide)))) (Or.inr (by decide)))]; omega); rw [(mUp_no e119 ((hQ74.at g_739_13 rfl).trans (mUp_no e4 ex739_13 (Or.inr (by decide)))) (Or.inr (by decide))), e128] at q; exact q
                  refine wk_il5 r121_192 (wk_cv4 r121_194 kc_739_67 rfl (m9067_739 _ M116 v123 v127 (((v112 / 65536) % 32768) % 2) x739_13 hP117 (by omega) (by omega) (by omega) (by omega) (by omega) (by omega) (mUp_no e119 ((hQ74.at g_739_13 rfl).trans (mUp_no e4 ex739_13 (Or.inr (by decide)))) (Or.inr (by decide))) (by first | assumption | omega) (by first | assumption | omega) (by omega) (WS_sm (Sm.up e119 g_739_25 rfl) (WS_sm (Sm.fr hQ74 rfl) (WS_sm (Sm.up e4 g_739_0 rfl) pp_WS)))) (cqI ?_))
                  rintro v137 M132 ⟨hP133, hQ134, h138, h139, pr136⟩
                  have hF135 : Fr fm_m9121_739 M0 M132 := hF118.tr hQ134 rfl
                  refine wk_popi r121_197 (wk_il5 r121_198 ?_)
                  subst hQ; exact wk_iret r121_200 (⟨rfl, _, rfl, hP133, hF135, by omega, by omega, pr136, (QW_sm (Sm.fr hQ134 rfl) (QW_sm (Sm.up e119 g_739_25 rfl) (QW_sm (Sm.fr hQ74 rfl) (QW_sm (Sm.up e4 g_739_0 rfl) pp_QW))))⟩)
              · intro h140
                refine wk_al0 r121_118 (wk_getfr r121_119 fd_739_12 (br_739_12 hP73) (wk_al0 r121_122 (wk_getfi r121_123 fd_739_24 ((hQ74.at g_739_24 rfl).trans e48) (wk_ialdb r121_126 ar_746 ⟨by omega, by omega⟩ (fun q0 q1 => ba_746 hP73 q0 q1) ?_))))
                intro v141 h143 h144 e142
                refine wk_goto r121_127 (wk_is5 r121_141 rfl (wk_il2 r121_143 (wk_c1 r121_144 ?_)))
                refine wk_icne r121_145 ⟨by omega, by omega⟩ (by decide) ?_ ?_
                · intro h145
                  refine wk_al0 r121_179 (wk_al0 r121_180 (wk_getfr r121_181 fd_739_22 (br_739_22 hP73) (wk_il1 r121_184 (wk_ialdb r121_185 ar_753 ⟨by omega, by omega⟩ (fun q0 q1 => ba_753 hP73 q0 q1) ?_))))
                  intro v146 h148 h149 e147
                  refine wk_al0 r121_186 (wk_getfr r121_187 fd_739_23 (br_739_23 hP73) (wk_il1 r121_190 (wk_ialdb r121_191 ar_754 ⟨by omega, by omega⟩ (fun q0 q1 => ba_754 hP73 q0 q1) ?_)))
                  intro v150 h152 h153 e151
                  have h154 : v150 < x739_13 := by have q := (QW_sm (Sm.fr hQ74 rfl) (QW_sm (Sm.up e4 g_739_0 rfl) pp_QW)) p1 (by omega) (by rw [((hQ74.at g_739_21 rfl).trans (mUp_no e4 ex739_21 (Or.inr (by decide))))]; omega); rw [((hQ74.at g_739_13 rfl).trans (mUp_no e4 ex739_13 (Or.inr (by decide)))), e151] at q; exact q
                  refine wk_il5 r121_192 (wk_cv4 r121_194 kc_739_67 rfl (m9067_739 _ M72 v146 v150 v141 x739_13 hP73 (by omega) (by omega) (by omega) (by omega) (by omega) (by omega) ((hQ74.at g_739_13 rfl).trans (mUp_no e4 ex739_13 (Or.inr (by decide)))) (by first | assumption | omega) (by first | assumption | omega) (by omega) (WS_sm (Sm.fr hQ74 rfl) (WS_sm (Sm.up e4 g_739_0 rfl) pp_WS))) (cqI ?_))
                  rintro v160 M155 ⟨hP156, hQ157, h161, h162, pr159⟩
                  have hF158 : Fr fm_m9121_739 M0 M155 := hF75.tr hQ157 rfl
                  refine wk_popi r121_197 (wk_il5 r121_198 ?_)
                  subst hQ; exact wk_iret r121_200 (⟨rfl, _, rfl, hP156, hF158, by omega, by omega, pr159, (QW_sm (Sm.fr hQ157 rfl) (QW_sm (Sm.fr hQ74 rfl) (QW_sm (Sm.up e4 g_739_0 rfl) pp_QW)))⟩)
                · intro h163
                  refine wk_al0 r121_148 (wk_al0 r121_149 (wk_getfb r121_150 fd_739_25 (bf_739_25 hP73) ?_))
                  intro v164 h166 h167 e165
                  refine wk_c5 r121_153 (wk_imul r121_156 (wk_wrap ?_))
                  intro v168 h169 h170 h171
                  refine wk_c3 r121_157 (wk_iadd r121_160 (wk_wrap ?_))
                  intro v172 h173 h174 h175
                  refine wk_putfi81 r121_161 fd_739_25 (wk_nw g_739_25 rfl hP73 hF75 (uf_739_25 ⟨by omega, by omega⟩) ?_)
                  intro M176 hP177 hF178 e179
                  refine wk_al0 r121_164 (wk_getfi r121_165 fd_739_25 (mUp_at e179) (wk_c2 r121_168 (wk_ishrc r121_170 ⟨by omega, by omega⟩ (by decide) pwl_16 (wk_c3 r121_171 (wk_iandc 15 32768 r121_174 ⟨rfl, by decide⟩ rfl (wk_c1 r121_175 (wk_irem r121_176 ⟨by omega, by omega⟩ (by decide) (wk_is5 r121_177 rfl (wk_al0 r121_179 (wk_al0 r121_180 (wk_getfr r121_181 fd_739_22 (br_739_22 hP177) (wk_il1 r121_184 (wk_ialdb r121_185 ar_753 ⟨by omega, by omega⟩ (fun q0 q1 => ba_753 hP177 q0 q1) ?_)))))))))))))
                  intro v183 h185 h186 e184
                  refine wk_al0 r121_186 (wk_getfr r121_187 fd_739_23 (br_739_23 hP177) (wk_il1 r121_190 (wk_ialdb r121_191 ar_754 ⟨by omega, by omega⟩ (fun q0 q1 => ba_754 hP177 q0 q1) ?_)))
                  intro v187 h189 h190 e188
                  have h191 : v187 < x739_13 := by have q := (QW_sm (Sm.up e179 g_739_25 rfl) (QW_sm (Sm.fr hQ74 rfl) (QW_sm (Sm.up e4 g_739_0 rfl) pp_QW))) p1 (by omega) (by rw [(mUp_no e179 ((hQ74.at g_739_21 rfl).trans (mUp_no e4 ex739_21 (Or.inr (by decide)))) (Or.inr (by decide)))]; omega); rw [(mUp_no e179 ((hQ74.at g_739_13 rfl).trans (mUp_no e4 ex739_13 (Or.inr (by decide)))) (Or.inr (by decide))), e188] at q; exact q
                  refine wk_il5 r121_192 (wk_cv4 r121_194 kc_739_67 rfl (m9067_739 _ M176 v183 v187 (((v172 / 65536) % 32768) % 2) x739_13 hP177 (by omega) (by omega) (by omega) (by omega) (by omega) (by omega) (mUp_no e179 ((hQ74.at g_739_13 rfl).trans (mUp_no e4 ex739_13 (Or.inr (by decide)))) (Or.inr (by decide))) (by first | assumption | omega) (by first | assumption | omega) (by omega) (WS_sm (Sm.up e179 g_739_25 rfl) (WS_sm (Sm.fr hQ74 rfl) (WS_sm (Sm.up e4 g_739_0 rfl) pp_WS)))) (cqI ?_))
                  rintro v197 M192 ⟨hP193, hQ194, h198, h199, pr196⟩
                  have hF195 : Fr fm_m9121_739 M0 M192 := hF178.tr hQ194 rfl
                  refine wk_popi r121_197 (wk_il5 r121_198 ?_)
                  subst hQ; exact wk_iret r121_200 (⟨rfl, _, rfl, hP193, hF195, by omega, by omega, pr196, (QW_sm (Sm.fr hQ194 rfl) (QW_sm (Sm.up e179 g_739_25 rfl) (QW_sm (Sm.fr hQ74 rfl) (QW_sm (Sm.up e4 g_739_0 rfl) pp_QW))))⟩)
            · intro h200
              refine wk_c1 r121_103 (wk_il3 r121_104 (wk_isub r121_105 (wk_goto r121_106 (wk_is4 r121_110 rfl (wk_il4 r121_112 (wk_c1 r121_114 ?_))))))
              refine wk_icne r121_115 ⟨by omega, by omega⟩ (by decide) ?_ ?_
              · intro h201
                refine wk_c1 r121_130 (wk_al0 r121_131 (wk_getfr r121_132 fd_739_12 (br_739_12 hP73) (wk_al0 r121_135 (wk_getfi r121_136 fd_739_24 ((hQ74.at g_739_24 rfl).trans e48) (wk_ialdb r121_139 ar_746 ⟨by omega, by omega⟩ (fun q0 q1 => ba_746 hP73 q0 q1) ?_)))))
                intro v202 h204 h205 e203
                refine wk_isub r121_140 (wk_is5 r121_141 rfl (wk_il2 r121_143 (wk_c1 r121_144 ?_)))
                refine wk_icne r121_145 ⟨by omega, by omega⟩ (by decide) ?_ ?_
                · intro h206
                  refine wk_al0 r121_179 (wk_al0 r121_180 (wk_getfr r121_181 fd_739_22 (br_739_22 hP73) (wk_il1 r121_184 (wk_ialdb r121_185 ar_753 ⟨by omega, by omega⟩ (fun q0 q1 => ba_753 hP73 q0 q1) ?_))))
                  intro v207 h209 h210 e208
                  refine wk_al0 r121_186 (wk_getfr r121_187 fd_739_23 (br_739_23 hP73) (wk_il1 r121_190 (wk_ialdb r121_191 ar_754 ⟨by omega, by omega⟩ (fun q0 q1 => ba_754 hP73 q0 q1) ?_)))
                  intro v211 h213 h214 e212
                  have h215 : v211 < x739_13 := by have q := (QW_sm (Sm.fr hQ74 rfl) (QW_sm (Sm.up e4 g_739_0 rfl) pp_QW)) p1 (by omega) (by rw [((hQ74.at g_739_21 rfl).trans (mUp_no e4 ex739_21 (Or.inr (by decide))))]; omega); rw [((hQ74.at g_739_13 rfl).trans (mUp_no e4 ex739_13 (Or.inr (by decide)))), e212] at q; exact q
                  refine wk_il5 r121_192 (wk_cv4 r121_194 kc_739_67 rfl (m9067_739 _ M72 v207 v211 (1 - v202) x739_13 hP73 (by omega) (by omega) (by omega) (by omega) (by omega) (by omega) ((hQ74.at g_739_13 rfl).trans (mUp_no e4 ex739_13 (Or.inr (by decide)))) (by first | assumption | omega) (by first | assumption | omega) (by omega) (WS_sm (Sm.fr hQ74 rfl) (WS_sm (Sm.up e4 g_739_0 rfl) pp_WS))) (cqI ?_))
                  rintro v221 M216 ⟨hP217, hQ218, h222, h223, pr220⟩
                  have hF219 : Fr fm_m9121_739 M0 M216 := hF75.tr hQ218 rfl
                  refine wk_popi r121_197 (wk_il5 r121_198 ?_)
                  subst hQ; exact wk_iret r121_200 (⟨rfl, _, rfl, hP217, hF219, by omega, by omega, pr220, (QW_sm (Sm.fr hQ218 rfl) (QW_sm (Sm.fr hQ74 rfl) (QW_sm (Sm.up e4 g_739_0 rfl) pp_QW)))⟩)
                · intro h224
                  exfalso
                  omega
              · intro h225
                refine wk_al0 r121_118 (wk_getfr r121_119 fd_739_12 (br_739_12 hP73) (wk_al0 r121_122 (wk_getfi r121_123 fd_739_24 ((hQ74.at g_739_24 rfl).trans e48) (wk_ialdb r121_126 ar_746 ⟨by omega, by omega⟩ (fun q0 q1 => ba_746 hP73 q0 q1) ?_))))
                intro v226 h228 h229 e227
                refine wk_goto r121_127 (wk_is5 r121_141 rfl (wk_il2 r121_143 (wk_c1 r121_144 ?_)))
                refine wk_icne r121_145 ⟨by omega, by omega⟩ (by decide) ?_ ?_
                · intro h230
                  refine wk_al0 r121_179 (wk_al0 r121_180 (wk_getfr r121_181 fd_739_22 (br_739_22 hP73) (wk_il1 r121_184 (wk_ialdb r121_185 ar_753 ⟨by omega, by omega⟩ (fun q0 q1 => ba_753 hP73 q0 q1) ?_))))
                  intro v231 h233 h234 e232
                  refine wk_al0 r121_186 (wk_getfr r121_187 fd_739_23 (br_739_23 hP73) (wk_il1 r121_190 (wk_ialdb r121_191 ar_754 ⟨by omega, by omega⟩ (fun q0 q1 => ba_754 hP73 q0 q1) ?_)))
                  intro v235 h237 h238 e236
                  have h239 : v235 < x739_13 := by have q := (QW_sm (Sm.fr hQ74 rfl) (QW_sm (Sm.up e4 g_739_0 rfl) pp_QW)) p1 (by omega) (by rw [((hQ74.at g_739_21 rfl).trans (mUp_no e4 ex739_21 (Or.inr (by decide))))]; omega); rw [((hQ74.at g_739_13 rfl).trans (mUp_no e4 ex739_13 (Or.inr (by decide)))), e236] at q; exact q
                  refine wk_il5 r121_192 (wk_cv4 r121_194 kc_739_67 rfl (m9067_739 _ M72 v231 v235 v226 x739_13 hP73 (by omega) (by omega) (by omega) (by omega) (by omega) (by omega) ((hQ74.at g_739_13 rfl).trans (mUp_no e4 ex739_13 (Or.inr (by decide)))) (by first | assumption | omega) (by first | assumption | omega) (by omega) (WS_sm (Sm.fr hQ74 rfl) (WS_sm (Sm.up e4 g_739_0 rfl) pp_WS))) (cqI ?_))
                  rintro v245 M240 ⟨hP241, hQ242, h246, h247, pr244⟩
                  have hF243 : Fr fm_m9121_739 M0 M240 := hF75.tr hQ242 rfl
                  refine wk_popi r121_197 (wk_il5 r121_198 ?_)
                  subst hQ; exact wk_iret r121_200 (⟨rfl, _, rfl, hP241, hF243, by omega, by omega, pr244, (QW_sm (Sm.fr hQ242 rfl) (QW_sm (Sm.fr hQ74 rfl) (QW_sm (Sm.up e4 g_739_0 rfl) pp_QW)))⟩)
                · intro h248
                  exfalso
                  omega
          · intro h249
            refine wk_c1 r121_49 ?_
            subst hQ; exact wk_iret r121_50 (⟨rfl, _, rfl, hP2, hF3, by omega, by omega, (WS_sm (Sm.up e4 g_739_0 rfl) pp_WS), (QW_sm (Sm.up e4 g_739_0 rfl) pp_QW)⟩)
      · intro h250
        refine wk_c1 r121_30 ?_
        subst hQ; exact wk_iret r121_31 (⟨rfl, _, rfl, hP2, hF3, by omega, by omega, (WS_sm (Sm.up e4 g_739_0 rfl) pp_WS), (QW_sm (Sm.up e4 g_739_0 rfl) pp_QW)⟩)
def fm_m9071_739 : Nat := 407082447472096811025632770554312909676476665443685152588314812622665337012224
/-- IslandHallModel.fewest -/
theorem m9071_739 {B : eB} (d : Nat) (M0 : Mm) (p1 : Int) (x739_13 : Int) (x739_21 : Int) (x739_7 : Int) (hP0 : Pw M0) (l1 : (-2147483648) ≤ p1) (u1 : p1 ≤ 2147483647) (ex739_13 : M0 739 13 = x739_13) (lx739_13 : 0 ≤ x739_13) (ux739_13 : x739_13 ≤ 30) (ex739_21 : M0 739 21 = x739_21) (lx739_21 : 0 ≤ x739_21) (ux739_21 : x739_21 ≤ 10) (ex739_7 : M0 739 7 = x739_7) (lx739_7 : 0 ≤ x739_7) (ux739_7 : x739_7 ≤ 3000) (pp_WS : WS M0) (pp_QW : QW M0) : Ct B (d + 13) 71 [R 739, I p1] M0 (qI fun z M => Pw M ∧ Fr fm_m9071_739 M0 M ∧ (-2) ≤ z ∧ z ≤ 3 ∧ (WS M) ∧ (QW M)) := by
  refine ct_of (d := d + 12) (k := 2) (L := [some (R 739), some (I p1), none, none]) rfl rfl rfl ?_
  have hF0 := Fr.rf fm_m9071_739 M0
  generalize hQ : (qI fun z M => Pw M ∧ Fr fm_m9071_739 M0 M ∧ (-2) ≤ z ∧ z ≤ 3 ∧ (WS M) ∧ (QW M)) = Q
  refine wk_al0 r71_0 (wk_c1 r71_1 (wk_putfi81 r71_2 fd_739_0 (wk_nw g_739_0 rfl hP0 hF0 (uf_739_0 (by decide)) ?_)))
  intro M1 hP2 hF3 e4
  refine wk_al0 r71_5 (wk_il1 r71_6 ?_)
  refine wk_iflt r71_7 ⟨by omega, by omega⟩ ?_ ?_
  · intro h5
    refine wk_c1 r71_19 (wk_c1 r71_20 (wk_cv3 r71_21 kc_739_123 rfl (m9123_739 _ M1 0 1 0 hP2 (by decide) (by decide) (by decide) (by decide) (mUp_at e4) (by first | assumption | omega) (by first | assumption | omega)) (cqI ?_)))
    rintro v12 M6 ⟨hP7, hQ8, h13, h14, h10, xh11⟩
    have hF9 : Fr fm_m9071_739 M0 M6 := hF3.tr hQ8 rfl
    refine wk_ifne r71_24 ⟨by omega, by omega⟩ ?_ ?_
    · intro h15
      exfalso
      omega
    · intro h16
      refine wk_c1 r71_27 ?_
      subst hQ; exact wk_iret r71_28 (⟨rfl, _, rfl, hP7, hF9, by omega, by omega, (WS_sm (Sm.fr hQ8 rfl) (WS_sm (Sm.up e4 g_739_0 rfl) pp_WS)), (QW_sm (Sm.fr hQ8 rfl) (QW_sm (Sm.up e4 g_739_0 rfl) pp_QW))⟩)
  · intro h17
    refine wk_il1 r71_10 (wk_c1 r71_11 ?_)
    refine wk_icgt r71_12 ⟨by omega, by omega⟩ (by decide) ?_ ?_
    · intro h18
      refine wk_c1 r71_19 (wk_c1 r71_20 (wk_cv3 r71_21 kc_739_123 rfl (m9123_739 _ M1 0 1 0 hP2 (by decide) (by decide) (by decide) (by decide) (mUp_at e4) (by first | assumption | omega) (by first | assumption | omega)) (cqI ?_)))
      rintro v25 M19 ⟨hP20, hQ21, h26, h27, h23, xh24⟩
      have hF22 : Fr fm_m9071_739 M0 M19 := hF3.tr hQ21 rfl
      refine wk_ifne r71_24 ⟨by omega, by omega⟩ ?_ ?_
      · intro h28
        exfalso
        omega
      · intro h29
        refine wk_c1 r71_27 ?_
        subst hQ; exact wk_iret r71_28 (⟨rfl, _, rfl, hP20, hF22, by omega, by omega, (WS_sm (Sm.fr hQ21 rfl) (WS_sm (Sm.up e4 g_739_0 rfl) pp_WS)), (QW_sm (Sm.fr hQ21 rfl) (QW_sm (Sm.up e4 g_739_0 rfl) pp_QW))⟩)
    · intro h30
      refine wk_c1 r71_15 (wk_goto r71_16 (wk_c1 r71_20 (wk_cv3 r71_21 kc_739_123 rfl (m9123_739v1 _ M1 1 1 0 hP2 (by decide) (by decide) (by decide) (by decide) (mUp_at e4) (by first | assumption | omega) (by first | assumption | omega)) (cqI ?_))))
      rintro v37 M31 ⟨hP32, hQ33, h38, h39, h35, xh36⟩
      obtain rfl := Fr.same hQ33
      refine wk_ifne r71_24 ⟨by omega, by omega⟩ ?_ ?_
      · intro h40
        refine wk_al0 r71_29 (wk_cv1 r71_30 kc_739_74 rfl (m9074_739 _ M1 x739_7 hP2 (mUp_no e4 ex739_7 (Or.inr (by decide))) (by first | assumption | omega) (by first | assumption | omega)) (cqI ?_))
        rintro v46 M41 ⟨hP42, hQ43, h47, h48, xh45⟩
        obtain rfl := Fr.same hQ43
        refine wk_c2 r71_33 ?_
        refine wk_icle r71_35 ⟨by omega, by omega⟩ (by decide) ?_ ?_
        · intro h49
          have hfz := xh45; rw [show (fun k => M1 752 k) = (fun k => M0 752 k) from funext fun k => hF3.at (ga_752 k) rfl, show AL M1 = AL M0 by unfold AL; rw [hF3.at g_739_15 rfl]] at hfz
          refine wk_al0 r71_41 (wk_il1 r71_42 (wk_putfi81 r71_43 fd_739_63 (wk_nw g_739_63 rfl hP2 hF3 (uf_739_63 ⟨by omega, by omega⟩) ?_)))
          intro M50 hP51 hF52 e53
          refine wk_al0 r71_46 (wk_getfr r71_47 fd_739_62 (br_739_62 hP51) (wk_c1 r71_50 (wk_c1 r71_51 (wk_iast r71_52 ar_766 (by decide) (wk_nw (ga_766 _) rfl hP51 hF52 (ua_766 (by decide)) ?_)))))
          intro M54 hP55 hF56 e57
          refine wk_c1 r71_53 (wk_is2 r71_54 rfl ?_)
          have c55_1612 : ∀ (k1612 : Nat) (M1497 : Mm) (v1494 : Int), (3000 - v1494).toNat = k1612 → Pw M1497 → Fr fm_m9071_739 M0 M1497 → M1497 739 13 = x739_13 → M1497 739 21 = x739_21 → M1497 739 7 = x739_7 → M1497 739 0 = 0 → M1497 739 63 = p1 → 0 ≤ v1494 → v1494 ≤ 3000 → (WS M1497) → (QW M1497) → 0 ≤ (-1) * v1494 + x739_7 → 0 ≤ v1494 → (M1497 766 0 = cnF (fun k => M0 752 k) (AL M0) (v1494).toNat) → Wp B (d + 12) 71 55 [some (R 739), none, some (I v1494), none] [] M1497 Q := by
            refine lp_ind ?_
            intro k1612 ih1612 M1497 v1494 hk1612 hP1498 hF1499 e1500 e1501 e1502 e1503 e1504 h1495 h1496 pr1505 pr1506 h1507 h1508 ti1509
            refine wk_il2 r71_55 (wk_al0 r71_56 (wk_getfi r71_57 fd_739_7 e1502 ?_))
            refine wk_icge r71_60 ⟨by omega, by omega⟩ ⟨by omega, by omega⟩ ?_ ?_
            · intro h1510
              refine wk_al0 r71_119 (wk_c1 r71_120 (wk_cv2 r71_121 kc_739_89 rfl (m9089_739 _ M1497 0 hP1498 (by decide) (by decide)) (cqI ?_)))
              rintro v1515 M1511 ⟨hP1512, hQ1513, h1516, h1517⟩
              obtain rfl := Fr.same hQ1513
              refine wk_ifeq r71_124 ⟨by omega, by omega⟩ ?_ ?_
              · intro h1518
                refine wk_c1 r71_134 (wk_is2 r71_135 rfl ?_)
                have c136_1565 : ∀ (k1565 : Nat) (M1522 : Mm) (v1519 : Int), (4 - v1519).toNat = k1565 → Pw M1522 → Fr fm_m9071_739 M0 M1522 → M1522 739 13 = x739_13 → M1522 739 21 = x739_21 → M1522 739 7 = x739_7 → M1522 739 0 = 0 → M1522 739 63 = p1 → 1 ≤ v1519 → v1519 ≤ 4 → (WS M1522) → (QW M1522) → Wp B (d + 12) 71 136 [some (R 739), none, some (I v1519), none] [] M1522 Q := by
                  refine lp_ind ?_
                  intro k1565 ih1565 M1522 v1519 hk1565 hP1523 hF1524 e1525 e1526 e1527 e1528 e1529 h1520 h1521 pr1530 pr1531
                  refine wk_il2 r71_136 (wk_c1 r71_137 ?_)
                  refine wk_icgt r71_138 ⟨by omega, by omega⟩ (by decide) ?_ ?_
                  · intro h1532
                    refine wk_c1 r71_184 ?_
                    subst hQ; exact wk_iret r71_185 (⟨rfl, _, rfl, hP1523, hF1524, by omega, by omega, pr1530, pr1531⟩)
                  · intro h1533
                    refine wk_c1 r71_141 (wk_is3 r71_142 rfl ?_)
                    have c143_1564 : ∀ (k1564 : Nat) (M1537 : Mm) (v1534 : Int), (10 - v1534).toNat = k1564 → Pw M1537 → Fr fm_m9071_739 M0 M1537 → M1537 739 13 = x739_13 → M1537 739 21 = x739_21 → M1537 739 7 = x739_7 → M1537 739 0 = 0 → M1537 739 63 = p1 → 0 ≤ v1534 → v1534 ≤ 10 → (WS M1537) → (QW M1537) → Wp B (d + 12) 71 143 [some (R 739), none, some (I v1519), some (I v1534)] [] M1537 Q := by
                      refine lp_ind ?_
                      intro k1564 ih1564 M1537 v1534 hk1564 hP1538 hF1539 e1540 e1541 e1542 e1543 e1544 h1535 h1536 pr1545 pr1546
                      refine wk_il3 r71_143 (wk_al0 r71_144 (wk_getfi r71_145 fd_739_21 e1541 ?_))
                      refine wk_icge r71_148 ⟨by omega, by omega⟩ ⟨by omega, by omega⟩ ?_ ?_
                      · intro h1547
                        refine wk_inc2 r71_178 rfl (wk_goto r71_181 ?_)
                        exact wp_fg (le_s (le_s (le_s (le_n le_0)))) (ih1565 (4 - (v1519 + 1)).toNat (by omega) M1537 (v1519 + 1) rfl hP1538 hF1539 e1540 e1541 e1542 e1543 e1544 (by first | assumption | omega) (by first | assumption | omega) pr1545 pr1546)
                      · intro h1548
                        refine wk_al0 r71_151 (wk_il3 r71_152 (wk_il2 r71_153 (wk_c1 r71_154 (wk_isub r71_155 (wk_cv3 r71_156 kc_739_99 rfl (m9099_739 _ M1537 v1534 (v1519 - 1) x739_13 x739_21 hP1538 (by omega) (by omega) (by omega) (by omega) e1540 (by first | assumption | omega) (by first | assumption | omega) e1541 (by first | assumption | omega) (by first | assumption | omega) (by omega) pr1545 pr1546) (cqI ?_))))))
                        rintro v1555 M1549 ⟨hP1550, hQ1551, h1556, h1557, pr1553, pr1554⟩
                        have hF1552 : Fr fm_m9071_739 M0 M1549 := hF1539.tr hQ1551 rfl
                        refine wk_ifne r71_159 ⟨by omega, by omega⟩ ?_ ?_
                        · intro h1558
                          refine wk_al0 r71_165 (wk_il3 r71_166 (wk_putfi81 r71_167 fd_739_64 (wk_nw g_739_64 rfl hP1550 hF1552 (uf_739_64 ⟨by omega, by omega⟩) ?_)))
                          intro M1559 hP1560 hF1561 e1562
                          refine wk_il2 r71_170 ?_
                          subst hQ; exact wk_iret r71_171 (⟨rfl, _, rfl, hP1560, hF1561, by omega, by omega, (WS_sm (Sm.up e1562 g_739_64 rfl) pr1553), (QW_sm (Sm.up e1562 g_739_64 rfl) pr1554)⟩)
                        · intro h1563
                          refine wk_goto r71_162 (wk_inc3 r71_172 rfl (wk_goto r71_175 ?_))
                          exact wp_fg (le_s (le_s (le_s (le_s le_0)))) (ih1564 (10 - (v1534 + 1)).toNat (by omega) M1549 (v1534 + 1) rfl hP1550 hF1552 ((hQ1551.at g_739_13 rfl).trans e1540) ((hQ1551.at g_739_21 rfl).trans e1541) ((hQ1551.at g_739_7 rfl).trans e1542) ((hQ1551.at g_739_0 rfl).trans e1543) ((hQ1551.at g_739_63 rfl).trans e1544) (by first | assumption | omega) (by first | assumption | omega) pr1553 pr1554)
                    exact wp_fg (le_s (le_s (le_s (le_s le_0)))) (c143_1564 _ M1522 0 rfl hP1523 hF1524 e1525 e1526 e1527 e1528 e1529 (by first | assumption | omega) (by first | assumption | omega) pr1530 pr1531)
                exact wp_fg (le_s (le_s (le_s (le_s le_0)))) (c136_1565 _ M1497 1 rfl hP1498 hF1499 e1500 e1501 e1502 e1503 e1504 (by first | assumption | omega) (by first | assumption | omega) pr1505 pr1506)
              · intro h1566
                refine wk_al0 r71_127 (wk_c1 r71_128 (wk_putfi81 r71_129 fd_739_64 (wk_nw g_739_64 rfl hP1498 hF1499 (uf_739_64 (by decide)) ?_)))
                intro M1567 hP1568 hF1569 e1570
                refine wk_c1 r71_132 ?_
                subst hQ; exact wk_iret r71_133 (⟨rfl, _, rfl, hP1568, hF1569, by omega, by omega, (WS_sm (Sm.up e1570 g_739_64 rfl) pr1505), (QW_sm (Sm.up e1570 g_739_64 rfl) pr1506)⟩)
            · intro h1571
              refine wk_al0 r71_63 (wk_il2 r71_64 (wk_cv2 r71_65 kc_739_83 rfl (m9083_739 _ M1497 v1494 hP1498 (by omega) (by omega)) (cqI ?_)))
              rintro v1577 M1572 ⟨hP1573, hQ1574, h1578, h1579, xh1576⟩
              obtain rfl := Fr.same hQ1574
              refine wk_ifne r71_68 ⟨by omega, by omega⟩ ?_ ?_
              · intro h1580
                have hfi : M0 752 v1494 = AL M0 := by rcases xh1576 with ⟨q1, q2⟩ | ⟨q1, q2⟩; (rw [← hF1499.at (ga_752 _) rfl]; exact q2.trans (by unfold AL; rw [hF1499.at g_739_15 rfl])); (omega)
                have hfc := cnF_y (u := fun k => M0 752 k) (a := AL M0) (w := v1494) (by omega) hfi
                have hfd := cnF_le (u := fun k => M0 752 k) (a := AL M0) (w := v1494 + 1) (n := x739_7) (by omega)
                refine wk_al0 r71_74 (wk_getfr r71_75 fd_739_60 (br_739_60 hP1498) (wk_al0 r71_78 (wk_getfr r71_79 fd_739_62 (br_739_62 hP1498) (wk_c1 r71_82 (wk_ialdb r71_83 ar_766 (by decide) (fun q0 q1 => ba_766 hP1498 q0 q1) ?_)))))
                intro v1581 h1583 h1584 e1582
                have h1585 : v1581 ≤ 99 := by have q0 := ti1509; rw [e1582] at q0; omega
                refine wk_il2 r71_84 (wk_iast r71_85 ar_764 ⟨by omega, by omega⟩ (wk_nw (ga_764 _) rfl hP1498 hF1499 (ua_764 ⟨by omega, by omega⟩) ?_))
                intro M1586 hP1587 hF1588 e1589
                refine wk_al0 r71_86 (wk_getfr r71_87 fd_739_61 (br_739_61 hP1587) (wk_al0 r71_90 (wk_getfr r71_91 fd_739_62 (br_739_62 hP1587) (wk_c1 r71_94 (wk_ialdb r71_95 ar_766 (by decide) (fun q0 q1 => ba_766 hP1587 q0 q1) ?_)))))
                intro v1590 h1592 h1593 e1591
                refine wk_al0 r71_96 (wk_getfr r71_97 fd_739_19 (br_739_19 hP1587) (wk_il2 r71_100 (wk_ialdb r71_101 ar_751 ⟨by omega, by omega⟩ (fun q0 q1 => ba_751 hP1587 q0 q1) ?_)))
                intro v1594 h1596 h1597 e1595
                refine wk_iast r71_102 ar_765 ⟨by omega, by omega⟩ (wk_nw (ga_765 _) rfl hP1587 hF1588 (ua_765 ⟨by omega, by omega⟩) ?_)
                intro M1598 hP1599 hF1600 e1601
                refine wk_al0 r71_103 (wk_getfr r71_104 fd_739_62 (br_739_62 hP1599) (wk_c1 r71_107 (wk_dup2 r71_108 (wk_ialdb r71_109 ar_766 (by decide) (fun q0 q1 => ba_766 hP1599 q0 q1) ?_))))
                intro v1602 h1604 h1605 e1603
                have h1606 : v1602 ≤ 99 := by have q0 := (mUp_no e1601 (mUp_no e1589 ti1509 (Or.inl (by decide))) (Or.inl (by decide))); rw [e1603] at q0; omega
                refine wk_c1 r71_110 (wk_iadd r71_111 (wk_iast r71_112 ar_766 (by decide) (wk_nw (ga_766 _) rfl hP1599 hF1600 (ua_766 ⟨by omega, by omega⟩) ?_)))
                intro M1607 hP1608 hF1609 e1610
                refine wk_inc2 r71_113 rfl (wk_goto r71_116 ?_)
                exact wp_fg (le_s (le_s (le_s (le_s le_0)))) (ih1612 (3000 - (v1494 + 1)).toNat (by omega) M1607 (v1494 + 1) rfl hP1608 hF1609 (mUp_no e1610 (mUp_no e1601 (mUp_no e1589 e1500 (Or.inl (by decide))) (Or.inl (by decide))) (Or.inl (by decide))) (mUp_no e1610 (mUp_no e1601 (mUp_no e1589 e1501 (Or.inl (by decide))) (Or.inl (by decide))) (Or.inl (by decide))) (mUp_no e1610 (mUp_no e1601 (mUp_no e1589 e1502 (Or.inl (by decide))) (Or.inl (by decide))) (Or.inl (by decide))) (mUp_no e1610 (mUp_no e1601 (mUp_no e1589 e1503 (Or.inl (by decide))) (Or.inl (by decide))) (Or.inl (by decide))) (mUp_no e1610 (mUp_no e1601 (mUp_no e1589 e1504 (Or.inl (by decide))) (Or.inl (by decide))) (Or.inl (by decide))) (by first | assumption | omega) (by first | assumption | omega) (WS_sm (Sm.up e1610 (ga_766 _) rfl) (WS_sm (Sm.up e1601 (ga_765 _) rfl) (WS_sm (Sm.up e1589 (ga_764 _) rfl) pr1505))) (QW_sm (Sm.up e1610 (ga_766 _) rfl) (QW_sm (Sm.up e1601 (ga_765 _) rfl) (QW_sm (Sm.up e1589 (ga_764 _) rfl) pr1506))) (by first | assumption | omega) (by first | assumption | omega) (by rw [mUp_at e1610]; have q0 := (mUp_no e1601 (mUp_no e1589 ti1509 (Or.inl (by decide))) (Or.inl (by decide))); rw [e1603] at q0; omega))
              · intro h1611
                refine wk_goto r71_71 (wk_inc2 r71_113 rfl (wk_goto r71_116 ?_))
                exact wp_fg (le_s (le_s (le_s (le_s le_0)))) (ih1612 (3000 - (v1494 + 1)).toNat (by omega) M1497 (v1494 + 1) rfl hP1498 hF1499 e1500 e1501 e1502 e1503 e1504 (by first | assumption | omega) (by first | assumption | omega) pr1505 pr1506 (by first | assumption | omega) (by first | assumption | omega) (by have hfn : M0 752 v1494 ≠ AL M0 := (by rcases xh1576 with ⟨q1, q2⟩ | ⟨q1, q2⟩; (omega); (intro q3; exact q2 ((hF1499.at (ga_752 _) rfl).trans (q3.trans (by unfold AL; rw [hF1499.at g_739_15 rfl]))))); rw [cnF_n (u := fun k => M0 752 k) (by omega) hfn]; exact ti1509))
          exact wp_fg (le_s (le_n (le_s (le_s le_0)))) (c55_1612 _ M54 0 rfl hP55 hF56 (mUp_no e57 (mUp_no e53 (mUp_no e4 ex739_13 (Or.inr (by decide))) (Or.inr (by decide))) (Or.inl (by decide))) (mUp_no e57 (mUp_no e53 (mUp_no e4 ex739_21 (Or.inr (by decide))) (Or.inr (by decide))) (Or.inl (by decide))) (mUp_no e57 (mUp_no e53 (mUp_no e4 ex739_7 (Or.inr (by decide))) (Or.inr (by decide))) (Or.inl (by decide))) (mUp_no e57 (mUp_no e53 (mUp_at e4) (Or.inr (by decide))) (Or.inl (by decide))) (mUp_no e57 (mUp_at e53) (Or.inl (by decide))) (by first | assumption | omega) (by first | assumption | omega) (WS_sm (Sm.up e57 (ga_766 _) rfl) (WS_sm (Sm.up e53 g_739_63 rfl) (WS_sm (Sm.up e4 g_739_0 rfl) pp_WS))) (QW_sm (Sm.up e57 (ga_766 _) rfl) (QW_sm (Sm.up e53 g_739_63 rfl) (QW_sm (Sm.up e4 g_739_0 rfl) pp_QW))) (by first | assumption | omega) (by first | assumption | omega) ((mUp_at e57).trans rfl))
        · intro h1613
          refine wk_c2 r71_38 ?_
          subst hQ; exact wk_iret r71_40 (⟨rfl, _, rfl, hP2, hF3, by omega, by omega, (WS_sm (Sm.up e4 g_739_0 rfl) pp_WS), (QW_sm (Sm.up e4 g_739_0 rfl) pp_QW)⟩)
      · intro h1614
        refine wk_c1 r71_27 ?_
        subst hQ; exact wk_iret r71_28 (⟨rfl, _, rfl, hP2, hF3, by omega, by omega, (WS_sm (Sm.up e4 g_739_0 rfl) pp_WS), (QW_sm (Sm.up e4 g_739_0 rfl) pp_QW)⟩)
def fm_m9064_739 : Nat := 7067388259113537318333190002971674063309935587502475832486424805170479104
/-- IslandHallModel.end -/
theorem m9064_739 {B : eB} (d : Nat) (M0 : Mm) (hP0 : Pw M0) (pp_WS : WS M0) (pp_QW : QW M0) : Ct B (d + 2) 64 [R 739] M0 (qI fun z M => Pw M ∧ Fr fm_m9064_739 M0 M ∧ 0 ≤ z ∧ z ≤ 2 ∧ (WS M) ∧ (QW M)) := by
  refine ct_of (d := d + 1) (k := 1) (L := [some (R 739), none]) rfl rfl rfl ?_
  have hF0 := Fr.rf fm_m9064_739 M0
  generalize hQ : (qI fun z M => Pw M ∧ Fr fm_m9064_739 M0 M ∧ 0 ≤ z ∧ z ≤ 2 ∧ (WS M) ∧ (QW M)) = Q
  refine wk_c1 r64_0 (wk_is1 r64_1 rfl ?_)
  have c2_381 : ∀ (k381 : Nat) (M346 : Mm) (v343 : Int), (3000 - v343).toNat = k381 → Pw M346 → Fr fm_m9064_739 M0 M346 → 0 ≤ v343 → v343 ≤ 3000 → (WS M346) → (QW M346) → Wp B (d + 1) 64 2 [some (R 739), some (I v343)] [] M346 Q := by
    refine lp_ind ?_
    intro k381 ih381 M346 v343 hk381 hP347 hF348 h344 h345 pr349 pr350
    refine wk_il1 r64_2 (wk_al0 r64_3 (wk_getfb r64_4 fd_739_7 (bf_739_7 hP347) ?_))
    intro v351 h353 h354 e352
    refine wk_icge r64_7 ⟨by omega, by omega⟩ ⟨by omega, by omega⟩ ?_ ?_
    · intro h355
      refine wk_al0 r64_29 (wk_getfb r64_30 fd_739_65 (bf_739_65 hP347) ?_)
      intro v356 h358 h359 e357
      subst hQ; exact wk_iret r64_33 (⟨rfl, _, rfl, hP347, hF348, by omega, by omega, pr349, pr350⟩)
    · intro h360
      refine wk_al0 r64_10 (wk_getfr r64_11 fd_739_19 (br_739_19 hP347) (wk_il1 r64_14 (wk_dup2 r64_15 (wk_ialdb r64_16 ar_751 ⟨by omega, by omega⟩ (fun q0 q1 => ba_751 hP347 q0 q1) ?_))))
      intro v361 h363 h364 e362
      refine wk_al0 r64_17 (wk_cv1 r64_18 kc_739_44 rfl (m9044_739 _ M346 hP347) (cqI ?_))
      rintro v370 M365 ⟨hP366, hQ367, h371, h372, xh369⟩
      obtain rfl := Fr.same hQ367
      refine wk_iandr r64_21 ⟨by omega, by omega⟩ ?_
      intro v373 h374 h375 h376
      refine wk_iast r64_22 ar_751 ⟨by omega, by omega⟩ (wk_nw (ga_751 _) rfl hP347 hF348 (ua_751 ⟨by omega, by omega⟩) ?_)
      intro M377 hP378 hF379 e380
      refine wk_inc1 r64_23 rfl (wk_goto r64_26 ?_)
      exact wp_fg (le_s (le_s le_0)) (ih381 (3000 - (v343 + 1)).toNat (by omega) M377 (v343 + 1) rfl hP378 hF379 (by first | assumption | omega) (by first | assumption | omega) (WS_sm (Sm.up e380 (ga_751 _) rfl) pr349) (QW_sm (Sm.up e380 (ga_751 _) rfl) pr350))
  exact wp_fg (le_s (le_s le_0)) (c2_381 _ M0 0 rfl hP0 hF0 (by first | assumption | omega) (by first | assumption | omega) pp_WS pp_QW)
def fm_m9106_739 : Nat := 928153032681227054771048067086964901088114201203431543700010232349488161226752
/-- IslandHallModel.listsBy -/
theorem m9106_739 {B : eB} (d : Nat) (M0 : Mm) (p1 : Int) (x739_13 : Int) (x739_7 : Int) (hP0 : Pw M0) (l1 : 0 ≤ p1) (u1 : p1 ≤ 209) (ex739_13 : M0 739 13 = x739_13) (lx739_13 : 0 ≤ x739_13) (ux739_13 : x739_13 ≤ 30) (ex739_7 : M0 739 7 = x739_7) (lx739_7 : 0 ≤ x739_7) (ux739_7 : x739_7 ≤ 3000) (xp0 : p1 % 30 < x739_13) (pp_WS : WS M0) (pp_QW : QW M0) (pp_C3 : CFP M0) : Ct B (d + 6) 106 [R 739, I p1] M0 (qI fun z M => Pw M ∧ Fr fm_m9106_739 M0 M ∧ 0 ≤ z ∧ z ≤ 300 ∧ (WS M) ∧ (QW M) ∧ (CFP M)) := by
  refine ct_of (d := d + 5) (k := 3) (L := [some (R 739), some (I p1), none, none, none]) rfl rfl rfl ?_
  have hF0 := Fr.rf fm_m9106_739 M0
  generalize hQ : (qI fun z M => Pw M ∧ Fr fm_m9106_739 M0 M ∧ 0 ≤ z ∧ z ≤ 300 ∧ (WS M) ∧ (QW M) ∧ (CFP M)) = Q
  have hc3 := pp_C3
  unfold CFP at hc3
  rw [ex739_7] at hc3
  refine wk_c1 r106_0 (wk_is2 r106_1 rfl (wk_c1 r106_2 (wk_is3 r106_3 rfl ?_)))
  have c4_973 : ∀ (k973 : Nat) (M882 : Mm) (v876 : Int) (v879 : Int), (3000 - v879).toNat = k973 → Pw M882 → Fr fm_m9106_739 M0 M882 → M882 739 13 = x739_13 → M882 739 7 = x739_7 → 0 ≤ v876 → v876 ≤ 300 → 0 ≤ v879 → v879 ≤ 3000 → (WS M882) → (QW M882) → (CFP M882) → 0 ≤ (-1) * v879 + x739_7 → 0 ≤ v879 + (-1) * v876 → 0 ≤ (-1) * v876 + 300 → 0 ≤ (-1) * v876 + v879 + 0 → (v876 ≤ cnF (fun k => M0 752 k) (AL M0) (v879).toNat) → Wp B (d + 5) 106 4 [some (R 739), some (I p1), some (I v876), some (I v879), none] [] M882 Q := by
    refine lp_ind ?_
    intro k973 ih973 M882 v876 v879 hk973 hP883 hF884 e885 e886 h877 h878 h880 h881 pr887 pr888 pr889 h890 h891 h892 h893 ti894
    refine wk_il3 r106_4 (wk_al0 r106_5 (wk_getfi r106_6 fd_739_7 e886 ?_))
    refine wk_icge r106_9 ⟨by omega, by omega⟩ ⟨by omega, by omega⟩ ?_ ?_
    · intro h895
      refine wk_il2 r106_112 ?_
      subst hQ; exact wk_iret r106_113 (⟨rfl, _, rfl, hP883, hF884, by omega, by omega, pr887, pr888, pr889⟩)
    · intro h896
      refine wk_al0 r106_12 (wk_il3 r106_13 (wk_cv2 r106_14 kc_739_83 rfl (m9083_739 _ M882 v879 hP883 (by omega) (by omega)) (cqI ?_)))
      rintro v902 M897 ⟨hP898, hQ899, h903, h904, xh901⟩
      obtain rfl := Fr.same hQ899
      refine wk_ifne r106_17 ⟨by omega, by omega⟩ ?_ ?_
      · intro h905
        have hfi : M0 752 v879 = AL M0 := by rcases xh901 with ⟨q1, q2⟩ | ⟨q1, q2⟩; (rw [← hF884.at (ga_752 _) rfl]; exact q2.trans (by unfold AL; rw [hF884.at g_739_15 rfl])); (omega)
        have hfc := cnF_y (u := fun k => M0 752 k) (a := AL M0) (w := v879) (by omega) hfi
        have hfd := cnF_le (u := fun k => M0 752 k) (a := AL M0) (w := v879 + 1) (n := x739_7) (by omega)
        refine wk_al0 r106_23 (wk_il1 r106_24 (wk_c2 r106_25 (wk_irem r106_27 ⟨by omega, by omega⟩ (by decide) (wk_il3 r106_28 (wk_al0 r106_29 (wk_getfb r106_30 fd_739_15 (bf_739_15 hP883) ?_))))))
        intro v906 h908 h909 e907
        refine wk_al0 r106_33 (wk_getfr r106_34 fd_739_19 (br_739_19 hP883) (wk_il3 r106_37 (wk_ialdb r106_38 ar_751 ⟨by omega, by omega⟩ (fun q0 q1 => ba_751 hP883 q0 q1) ?_)))
        intro v910 h912 h913 e911
        refine wk_cv5 r106_39 kc_739_128 rfl (m9128_739 _ M882 (p1 % 30) v879 v906 v910 x739_13 hP883 (by omega) (by omega) (by omega) (by omega) (by omega) (by omega) (by omega) (by omega) e885 (by first | assumption | omega) (by first | assumption | omega) (by omega) pr887) (cqI ?_)
        rintro v918 M914 ⟨hP915, hQ916, h919, h920⟩
        have hF917 : Fr fm_m9106_739 M0 M914 := hF884.tr hQ916 rfl
        refine wk_is4 r106_42 rfl (wk_al0 r106_44 (wk_al0 r106_45 (wk_il3 r106_46 (wk_il1 r106_47 (wk_c2 r106_48 (wk_idiv r106_50 ⟨by omega, by omega⟩ (by decide) (wk_al0 r106_51 (wk_getfi r106_52 fd_739_15 ((hQ916.at g_739_15 rfl).trans e907) (wk_cv4 r106_55 kc_739_107 rfl (m9107_739 _ M914 v879 (p1 / 30) v906 hP915 (by omega) (by omega) (by omega) (by omega) (by omega) (by omega)) (cqI ?_))))))))))
        rintro v925 M921 ⟨hP922, hQ923, h926, h927⟩
        obtain rfl := Fr.same hQ923
        refine wk_il4 r106_58 (wk_c1 r106_60 (wk_il3 r106_61 (wk_cv5 r106_62 kc_739_56 rfl (m9056_739 _ M914 v925 v918 (-1) v879 hP915 (by omega) (by omega) (by omega) (by omega) (by decide) (by decide) (by omega) (by omega)) (cqI ?_))))
        rintro v932 M928 ⟨hP929, hQ930, h933, h934⟩
        obtain rfl := Fr.same hQ930
        refine wk_ifne r106_65 ⟨by omega, by omega⟩ ?_ ?_
        · intro h935
          have h936 : v876 ≤ 299 := by have := ti894; omega
          refine wk_al0 r106_71 (wk_getfr r106_72 fd_739_67 (br_739_67 hP915) (wk_il2 r106_75 (wk_il3 r106_76 (wk_iast r106_77 ar_768 ⟨by omega, by omega⟩ (wk_nw (ga_768 _) rfl hP915 hF917 (ua_768 ⟨by omega, by omega⟩) ?_)))))
          intro M937 hP938 hF939 e940
          refine wk_al0 r106_78 (wk_getfr r106_79 fd_739_19 (br_739_19 hP938) (wk_il3 r106_82 (wk_al0 r106_83 (wk_getfr r106_84 fd_739_19 (br_739_19 hP938) (wk_il3 r106_87 (wk_ialdb r106_88 ar_751 ⟨by omega, by omega⟩ (fun q0 q1 => ba_751 hP938 q0 q1) ?_))))))
          intro v941 h943 h944 e942
          refine wk_al0 r106_89 (wk_cv1 r106_90 kc_739_44 rfl (m9044_739 _ M937 hP938) (cqI ?_))
          rintro v950 M945 ⟨hP946, hQ947, h951, h952, xh949⟩
          obtain rfl := Fr.same hQ947
          refine wk_iandr r106_93 ⟨by omega, by omega⟩ ?_
          intro v953 h954 h955 h956
          refine wk_il4 r106_94 (wk_al0 r106_96 (wk_getfi r106_97 fd_739_15 (mUp_no e940 ((hQ916.at g_739_15 rfl).trans e907) (Or.inl (by decide))) (wk_shlb 12 4096 1 r106_100 ⟨by omega, by omega⟩ ⟨by omega, by omega⟩ ⟨pwl_12, by decide⟩ ?_)))
          intro v957 h958 h959 h960
          refine wk_ior 13 8192 r106_101 (by decide) ⟨by omega, by omega⟩ ⟨by omega, by omega⟩ ?_
          intro v961 h962 h963 h964 h965 h966
          refine wk_iast r106_102 ar_751 ⟨by omega, by omega⟩ (wk_nw (ga_751 _) rfl hP938 hF939 (ua_751 ⟨by omega, by omega⟩) ?_)
          intro M967 hP968 hF969 e970
          refine wk_inc2 r106_103 rfl (wk_inc3 r106_106 rfl (wk_goto r106_109 ?_))
          exact wp_fg (le_s (le_s (le_s (le_s (le_n le_0))))) (ih973 (3000 - (v879 + 1)).toNat (by omega) M967 (v876 + 1) (v879 + 1) rfl hP968 hF969 (mUp_no e970 (mUp_no e940 ((hQ916.at g_739_13 rfl).trans e885) (Or.inl (by decide))) (Or.inl (by decide))) (mUp_no e970 (mUp_no e940 ((hQ916.at g_739_7 rfl).trans e886) (Or.inl (by decide))) (Or.inl (by decide))) (by first | assumption | omega) (by first | assumption | omega) (by first | assumption | omega) (by first | assumption | omega) (WS_sm (Sm.up e970 (ga_751 _) rfl) (WS_sm (Sm.up e940 (ga_768 _) rfl) (WS_sm (Sm.fr hQ916 rfl) pr887))) (QW_sm (Sm.up e970 (ga_751 _) rfl) (QW_sm (Sm.up e940 (ga_768 _) rfl) (QW_sm (Sm.fr hQ916 rfl) pr888))) (CFP_sm (Sm.up e970 (ga_751 _) rfl) (CFP_sm (Sm.up e940 (ga_768 _) rfl) (CFP_sm (Sm.fr hQ916 rfl) pr889))) (by first | assumption | omega) (by first | assumption | omega) (by first | assumption | omega) (by first | assumption | omega) (by have := ti894; omega))
        · intro h971
          refine wk_goto r106_68 (wk_inc3 r106_106 rfl (wk_goto r106_109 ?_))
          exact wp_fg (le_s (le_s (le_s (le_s (le_n le_0))))) (ih973 (3000 - (v879 + 1)).toNat (by omega) M914 v876 (v879 + 1) rfl hP915 hF917 ((hQ916.at g_739_13 rfl).trans e885) ((hQ916.at g_739_7 rfl).trans e886) (by first | assumption | omega) (by first | assumption | omega) (by first | assumption | omega) (by first | assumption | omega) (WS_sm (Sm.fr hQ916 rfl) pr887) (QW_sm (Sm.fr hQ916 rfl) pr888) (CFP_sm (Sm.fr hQ916 rfl) pr889) (by first | assumption | omega) (by first | assumption | omega) (by first | assumption | omega) (by first | assumption | omega) (by have q1 := ti894; have := cnF_le (u := fun k => M0 752 k) (a := AL M0) (w := v879) (n := v879 + 1) (by omega); omega))
      · intro h972
        refine wk_goto r106_20 (wk_inc3 r106_106 rfl (wk_goto r106_109 ?_))
        exact wp_fg (le_s (le_s (le_s (le_s (le_s le_0))))) (ih973 (3000 - (v879 + 1)).toNat (by omega) M882 v876 (v879 + 1) rfl hP883 hF884 e885 e886 (by first | assumption | omega) (by first | assumption | omega) (by first | assumption | omega) (by first | assumption | omega) pr887 pr888 pr889 (by first | assumption | omega) (by first | assumption | omega) (by first | assumption | omega) (by first | assumption | omega) (by have q1 := ti894; have := cnF_le (u := fun k => M0 752 k) (a := AL M0) (w := v879) (n := v879 + 1) (by omega); omega))
  exact wp_fg (le_s (le_s (le_s (le_s (le_s le_0))))) (c4_973 _ M0 0 0 rfl hP0 hF0 ex739_13 ex739_7 (by first | assumption | omega) (by first | assumption | omega) (by first | assumption | omega) (by first | assumption | omega) pp_WS pp_QW pp_C3 (by first | assumption | omega) (by first | assumption | omega) (by first | assumption | omega) (by first | assumption | omega) (Int.le_refl _))
