/-! ===== written by program (wip/layer2/all.py): contracts of methods ===== -/
def fm_m140 : Nat := 6979321856
/-- IslandHall$Code.addTold -/
theorem m140 {B : eB} (d : Nat) (M0 : Mm) (c0 : Int) (p1 : Int) (hP0 : Pw M0) (hC0 : isC c0) (l1 : 0 ≤ p1) (u1 : p1 ≤ 99) : Ct B (d + 2) 140 [R c0, I p1] M0 (qV fun M => Pw M ∧ Fr fm_m140 M0 M) := by
  refine ct_of (d := d + 1) (k := 1) (L := [some (R c0), some (I p1), none]) rfl rfl rfl ?_
  have hF0 := Fr.rf fm_m140 M0
  generalize hQ : (qV fun M => Pw M ∧ Fr fm_m140 M0 M) = Q
  refine wk_il1 r140_0 (wk_c2 r140_1 ?_)
  refine wk_icge r140_3 ⟨by omega, by omega⟩ (by decide) ?_ ?_
  · intro h1
    refine wk_c1 r140_10 (wk_is2 r140_11 rfl (wk_al0 r140_12 (wk_c1 r140_13 (wk_il2 r140_14 ?_))))
    refine wk_ifeq r140_15 (by decide) ?_ ?_
    · intro h2
      refine wk_c2 r140_25 (wk_cv3 r140_27 (kcC_138 hC0) rfl (m138 _ M0 c0 0 117 hP0 hC0 (by decide) (by decide) (by decide) (by decide) (by first | assumption | omega | (unfold stepok; omega))) (cqV ?_))
      rintro M3 ⟨hP4, hQ5⟩
      have hF6 : Fr fm_m140 M0 M3 := hF0.tr hQ5 rfl
      refine wk_il2 r140_30 ?_
      refine wk_ifeq r140_31 (by decide) ?_ ?_
      · intro h7
        subst hQ; exact wk_ret r140_46 (⟨rfl, hP4, hF6⟩)
      · intro h8
        exfalso
        omega
    · intro h9
      exfalso
      omega
  · intro h10
    refine wk_c1 r140_6 (wk_goto r140_7 (wk_is2 r140_11 rfl (wk_al0 r140_12 (wk_c1 r140_13 (wk_il2 r140_14 ?_)))))
    refine wk_ifeq r140_15 (by decide) ?_ ?_
    · intro h11
      refine wk_c2 r140_25 (wk_cv3 r140_27 (kcC_138 hC0) rfl (m138 _ M0 c0 0 117 hP0 hC0 (by decide) (by decide) (by decide) (by decide) (by first | assumption | omega | (unfold stepok; omega))) (cqV ?_))
      rintro M12 ⟨hP13, hQ14⟩
      have hF15 : Fr fm_m140 M0 M12 := hF0.tr hQ14 rfl
      refine wk_il2 r140_30 ?_
      refine wk_ifeq r140_31 (by decide) ?_ ?_
      · intro h16
        subst hQ; exact wk_ret r140_46 (⟨rfl, hP13, hF15⟩)
      · intro h17
        refine wk_al0 r140_34 (wk_dupr r140_35 (wk_getfb r140_36 (fdC_3 hC0) (bC_3 hP13 hC0) ?_))
        intro v18 h20 h21 e19
        refine wk_c1 r140_39 (wk_il1 r140_40 (wk_shl1 14 16384 r140_41 ⟨by omega, by omega⟩ ⟨pwl_14, by decide⟩ ?_))
        intro v22 h23 h24 h25
        refine wk_ior 15 32768 r140_42 (by decide) ⟨by omega, by omega⟩ ⟨by omega, by omega⟩ ?_
        intro v26 h27 h28 h29 h30 h31
        refine wk_putfi81 r140_43 (fdC_3 hC0) (wk_nw (g_c3 hC0) rfl hP13 hF15 (uC_3 hC0 ⟨by omega, by omega⟩) ?_)
        intro M32 hP33 hF34 e35
        subst hQ; exact wk_ret r140_46 (⟨rfl, hP33, hF34⟩)
    · intro h36
      refine wk_c2 r140_18 (wk_il1 r140_20 (wk_iadd r140_21 (wk_goto r140_22 (wk_cv3 r140_27 (kcC_138 hC0) rfl (m138 _ M0 c0 0 (102 + p1) hP0 hC0 (by decide) (by decide) (by omega) (by omega) (by first | assumption | omega | (unfold stepok; omega))) (cqV ?_)))))
      rintro M37 ⟨hP38, hQ39⟩
      have hF40 : Fr fm_m140 M0 M37 := hF0.tr hQ39 rfl
      refine wk_il2 r140_30 ?_
      refine wk_ifeq r140_31 (by decide) ?_ ?_
      · intro h41
        subst hQ; exact wk_ret r140_46 (⟨rfl, hP38, hF40⟩)
      · intro h42
        refine wk_al0 r140_34 (wk_dupr r140_35 (wk_getfb r140_36 (fdC_3 hC0) (bC_3 hP38 hC0) ?_))
        intro v43 h45 h46 e44
        refine wk_c1 r140_39 (wk_il1 r140_40 (wk_shl1 14 16384 r140_41 ⟨by omega, by omega⟩ ⟨pwl_14, by decide⟩ ?_))
        intro v47 h48 h49 h50
        refine wk_ior 15 32768 r140_42 (by decide) ⟨by omega, by omega⟩ ⟨by omega, by omega⟩ ?_
        intro v51 h52 h53 h54 h55 h56
        refine wk_putfi81 r140_43 (fdC_3 hC0) (wk_nw (g_c3 hC0) rfl hP38 hF40 (uC_3 hC0 ⟨by omega, by omega⟩) ?_)
        intro M57 hP58 hF59 e60
        subst hQ; exact wk_ret r140_46 (⟨rfl, hP58, hF59⟩)
def fm_m176_6 : Nat := 3941068970131456
/-- IslandHall$Parser.toldAtom -/
theorem m176_6 {B : eB} (d : Nat) (M0 : Mm) (hP0 : Pw M0)  : Ct B (d + 4) 176 [R 6] M0 (qI fun z M => Pw M ∧ Fr fm_m176_6 M0 M ∧ 0 ≤ z ∧ z ≤ 1) := by
  refine ct_of (d := d + 3) (k := 1) (L := [some (R 6), none]) rfl rfl rfl ?_
  have hF0 := Fr.rf fm_m176_6 M0
  generalize hQ : (qI fun z M => Pw M ∧ Fr fm_m176_6 M0 M ∧ 0 ≤ z ∧ z ≤ 1) = Q
  refine wk_al0 r176_0 (wk_c1 r176_1 (wk_c2 r176_2 (wk_cv3 r176_4 kc_6_167 rfl (m167_6 _ M0 0 99 hP0 (by decide) (by decide) (by decide) (by decide)) (cqI ?_))))
  rintro v5 M1 ⟨hP2, hQ3, h6, h7⟩
  have hF4 : Fr fm_m176_6 M0 M1 := hF0.tr hQ3 rfl
  refine wk_is1 r176_7 rfl (wk_il1 r176_8 (wk_c1 r176_9 ?_))
  refine wk_icne r176_10 ⟨by omega, by omega⟩ (by decide) ?_ ?_
  · intro h8
    refine wk_al0 r176_15 ?_
    obtain ⟨v9, e10⟩ : ∃ v, M1 6 2 = v := ⟨_, rfl⟩
    have hC11 : isC v9 := by have := pcE hP2; rw [e10] at this; exact this
    refine wk_getfr r176_16 fd_6_2 e10 (wk_il1 r176_19 (wk_cv2 r176_20 (kcC_140 hC11) rfl (m140 _ M1 v9 v5 hP2 hC11 (by omega) (by omega)) (cqV ?_)))
    rintro M12 ⟨hP13, hQ14⟩
    have hF15 : Fr fm_m176_6 M0 M12 := hF4.tr hQ14 rfl
    refine wk_c1 r176_23 ?_
    subst hQ; exact wk_zret r176_24 (by decide) (⟨rfl, _, rfl, hP13, hF15, by omega, by omega⟩)
  · intro h16
    refine wk_c1 r176_13 ?_
    subst hQ; exact wk_zret r176_14 (by decide) (⟨rfl, _, rfl, hP2, hF4, by omega, by omega⟩)
def fm_m167_6v1 : Nat := 3941061990809600
/-- IslandHall$Parser.number -/
theorem m167_6v1 {B : eB} (d : Nat) (M0 : Mm) (p1 : Int) (p2 : Int) (hP0 : Pw M0) (l1 : 0 ≤ p1) (u1 : p1 ≤ 0) (l2 : 1 ≤ p2) (u2 : p2 ≤ 1) : Ct B (d + 3) 167 [R 6, I p1, I p2] M0 (qI fun z M => Pw M ∧ Fr fm_m167_6v1 M0 M ∧ (-1) ≤ z ∧ z ≤ 1) := by
  refine ct_of (d := d + 2) (k := 1) (L := [some (R 6), some (I p1), some (I p2), none]) rfl rfl rfl ?_
  have hF0 := Fr.rf fm_m167_6v1 M0
  generalize hQ : (qI fun z M => Pw M ∧ Fr fm_m167_6v1 M0 M ∧ (-1) ≤ z ∧ z ≤ 1) = Q
  refine wk_al0 r167_0 (wk_getfr r167_1 fd_6_0 (br_6_0 hP0) (wk_getfb r167_4 fd_9_4 (bf_9_4 hP0) ?_))
  intro v1 h3 h4 e2
  refine wk_c1 r167_7 ?_
  refine wk_iceq r167_8 ⟨by omega, by omega⟩ (by decide) ?_ ?_
  · intro h5
    refine wk_al0 r167_19 (wk_getfr r167_20 fd_6_0 (br_6_0 hP0) (wk_cv1 r167_23 kc_9_244 rfl (m244_9 _ M0 hP0) (cqI ?_)))
    rintro v10 M6 ⟨hP7, hQ8, h11, h12⟩
    obtain rfl := Fr.same hQ8
    refine wk_is3 r167_26 rfl (wk_il3 r167_27 (wk_il1 r167_28 ?_))
    refine wk_iclt r167_29 ⟨by omega, by omega⟩ ⟨by omega, by omega⟩ ?_ ?_
    · intro h13
      refine wk_al0 r167_37 (wk_c1 r167_38 (wk_cv2 r167_39 kc_6_159 rfl (m159_6v1 _ M0 2 hP0 (by decide) (by decide)) (cqI ?_)))
      rintro v18 M14 ⟨hP15, hQ16, h19, h20⟩
      have hF17 : Fr fm_m167_6v1 M0 M14 := hF0.tr hQ16 rfl
      refine wk_popi r167_42 (wk_c1 r167_43 ?_)
      subst hQ; exact wk_iret r167_44 (⟨rfl, _, rfl, hP15, hF17, by omega, by omega⟩)
    · intro h21
      refine wk_il3 r167_32 (wk_il2 r167_33 ?_)
      refine wk_icle r167_34 ⟨by omega, by omega⟩ ⟨by omega, by omega⟩ ?_ ?_
      · intro h22
        refine wk_al0 r167_45 (wk_getfr r167_46 fd_6_0 (br_6_0 hP0) (wk_cv1 r167_49 kc_9_241 rfl (m241_9 _ M0 hP0) (cqV ?_)))
        rintro M23 ⟨hP24, hQ25⟩
        have hF26 : Fr fm_m167_6v1 M0 M23 := hF0.tr hQ25 rfl
        refine wk_il3 r167_52 ?_
        subst hQ; exact wk_iret r167_53 (⟨rfl, _, rfl, hP24, hF26, by omega, by omega⟩)
      · intro h27
        refine wk_al0 r167_37 (wk_c1 r167_38 (wk_cv2 r167_39 kc_6_159 rfl (m159_6v1 _ M0 2 hP0 (by decide) (by decide)) (cqI ?_)))
        rintro v32 M28 ⟨hP29, hQ30, h33, h34⟩
        have hF31 : Fr fm_m167_6v1 M0 M28 := hF0.tr hQ30 rfl
        refine wk_popi r167_42 (wk_c1 r167_43 ?_)
        subst hQ; exact wk_iret r167_44 (⟨rfl, _, rfl, hP29, hF31, by omega, by omega⟩)
  · intro h35
    refine wk_al0 r167_11 (wk_c1 r167_12 (wk_cv2 r167_13 kc_6_159 rfl (m159_6 _ M0 1 hP0 (by decide) (by decide)) (cqI ?_)))
    rintro v40 M36 ⟨hP37, hQ38, h41, h42⟩
    have hF39 : Fr fm_m167_6v1 M0 M36 := hF0.tr hQ38 rfl
    refine wk_popi r167_16 (wk_c1 r167_17 ?_)
    subst hQ; exact wk_iret r167_18 (⟨rfl, _, rfl, hP37, hF39, by omega, by omega⟩)
def fm_m171_6 : Nat := 4831838208
/-- IslandHall$Parser.row -/
theorem m171_6 {B : eB} (d : Nat) (M0 : Mm) (p1 : Int) (p2 : Int) (hP0 : Pw M0) (l1 : 46 ≤ p1) (u1 : p1 ≤ 46) (l2 : (-1) ≤ p2) (u2 : p2 ≤ 1) : Ct B (d + 3) 171 [R 6, I p1, I p2] M0 (qI fun z M => Pw M ∧ Fr fm_m171_6 M0 M ∧ 0 ≤ z ∧ z ≤ 1) := by
  refine ct_of (d := d + 2) (k := 0) (L := [some (R 6), some (I p1), some (I p2)]) rfl rfl rfl ?_
  have hF0 := Fr.rf fm_m171_6 M0
  generalize hQ : (qI fun z M => Pw M ∧ Fr fm_m171_6 M0 M ∧ 0 ≤ z ∧ z ≤ 1) = Q
  refine wk_il2 r171_0 (wk_c1 r171_1 ?_)
  refine wk_iceq r171_2 ⟨by omega, by omega⟩ (by decide) ?_ ?_
  · intro h1
    refine wk_c1 r171_20 ?_
    subst hQ; exact wk_zret r171_21 (by decide) (⟨rfl, _, rfl, hP0, hF0, by omega, by omega⟩)
  · intro h2
    refine wk_al0 r171_5 (wk_c1 r171_6 (wk_il1 r171_7 (wk_il2 r171_8 (wk_iadd r171_9 (wk_cv3 r171_10 kc_6_172 rfl (m172_6 _ M0 0 (p1 + p2) hP0 (by decide) (by decide) (by omega) (by omega) (by first | assumption | omega | (unfold stepok; omega))) (cqI ?_))))))
    rintro v7 M3 ⟨hP4, hQ5, h8, h9⟩
    have hF6 : Fr fm_m171_6 M0 M3 := hF0.tr hQ5 rfl
    refine wk_ifeq r171_13 ⟨by omega, by omega⟩ ?_ ?_
    · intro h10
      exfalso
      omega
    · intro h11
      refine wk_c1 r171_16 (wk_goto r171_17 ?_)
      subst hQ; exact wk_zret r171_21 (by decide) (⟨rfl, _, rfl, hP4, hF6, by omega, by omega⟩)
def fm_m167_6v2 : Nat := 3941061990809600
/-- IslandHall$Parser.number -/
theorem m167_6v2 {B : eB} (d : Nat) (M0 : Mm) (p1 : Int) (p2 : Int) (hP0 : Pw M0) (l1 : 0 ≤ p1) (u1 : p1 ≤ 0) (l2 : 6 ≤ p2) (u2 : p2 ≤ 6) : Ct B (d + 3) 167 [R 6, I p1, I p2] M0 (qI fun z M => Pw M ∧ Fr fm_m167_6v2 M0 M ∧ (-1) ≤ z ∧ z ≤ 6) := by
  refine ct_of (d := d + 2) (k := 1) (L := [some (R 6), some (I p1), some (I p2), none]) rfl rfl rfl ?_
  have hF0 := Fr.rf fm_m167_6v2 M0
  generalize hQ : (qI fun z M => Pw M ∧ Fr fm_m167_6v2 M0 M ∧ (-1) ≤ z ∧ z ≤ 6) = Q
  refine wk_al0 r167_0 (wk_getfr r167_1 fd_6_0 (br_6_0 hP0) (wk_getfb r167_4 fd_9_4 (bf_9_4 hP0) ?_))
  intro v1 h3 h4 e2
  refine wk_c1 r167_7 ?_
  refine wk_iceq r167_8 ⟨by omega, by omega⟩ (by decide) ?_ ?_
  · intro h5
    refine wk_al0 r167_19 (wk_getfr r167_20 fd_6_0 (br_6_0 hP0) (wk_cv1 r167_23 kc_9_244 rfl (m244_9 _ M0 hP0) (cqI ?_)))
    rintro v10 M6 ⟨hP7, hQ8, h11, h12⟩
    obtain rfl := Fr.same hQ8
    refine wk_is3 r167_26 rfl (wk_il3 r167_27 (wk_il1 r167_28 ?_))
    refine wk_iclt r167_29 ⟨by omega, by omega⟩ ⟨by omega, by omega⟩ ?_ ?_
    · intro h13
      refine wk_al0 r167_37 (wk_c1 r167_38 (wk_cv2 r167_39 kc_6_159 rfl (m159_6v1 _ M0 2 hP0 (by decide) (by decide)) (cqI ?_)))
      rintro v18 M14 ⟨hP15, hQ16, h19, h20⟩
      have hF17 : Fr fm_m167_6v2 M0 M14 := hF0.tr hQ16 rfl
      refine wk_popi r167_42 (wk_c1 r167_43 ?_)
      subst hQ; exact wk_iret r167_44 (⟨rfl, _, rfl, hP15, hF17, by omega, by omega⟩)
    · intro h21
      refine wk_il3 r167_32 (wk_il2 r167_33 ?_)
      refine wk_icle r167_34 ⟨by omega, by omega⟩ ⟨by omega, by omega⟩ ?_ ?_
      · intro h22
        refine wk_al0 r167_45 (wk_getfr r167_46 fd_6_0 (br_6_0 hP0) (wk_cv1 r167_49 kc_9_241 rfl (m241_9 _ M0 hP0) (cqV ?_)))
        rintro M23 ⟨hP24, hQ25⟩
        have hF26 : Fr fm_m167_6v2 M0 M23 := hF0.tr hQ25 rfl
        refine wk_il3 r167_52 ?_
        subst hQ; exact wk_iret r167_53 (⟨rfl, _, rfl, hP24, hF26, by omega, by omega⟩)
      · intro h27
        refine wk_al0 r167_37 (wk_c1 r167_38 (wk_cv2 r167_39 kc_6_159 rfl (m159_6v1 _ M0 2 hP0 (by decide) (by decide)) (cqI ?_)))
        rintro v32 M28 ⟨hP29, hQ30, h33, h34⟩
        have hF31 : Fr fm_m167_6v2 M0 M28 := hF0.tr hQ30 rfl
        refine wk_popi r167_42 (wk_c1 r167_43 ?_)
        subst hQ; exact wk_iret r167_44 (⟨rfl, _, rfl, hP29, hF31, by omega, by omega⟩)
  · intro h35
    refine wk_al0 r167_11 (wk_c1 r167_12 (wk_cv2 r167_13 kc_6_159 rfl (m159_6 _ M0 1 hP0 (by decide) (by decide)) (cqI ?_)))
    rintro v40 M36 ⟨hP37, hQ38, h41, h42⟩
    have hF39 : Fr fm_m167_6v2 M0 M36 := hF0.tr hQ38 rfl
    refine wk_popi r167_16 (wk_c1 r167_17 ?_)
    subst hQ; exact wk_iret r167_18 (⟨rfl, _, rfl, hP37, hF39, by omega, by omega⟩)
def fm_m171_6v1 : Nat := 4831838208
/-- IslandHall$Parser.row -/
theorem m171_6v1 {B : eB} (d : Nat) (M0 : Mm) (p1 : Int) (p2 : Int) (hP0 : Pw M0) (l1 : 39 ≤ p1) (u1 : p1 ≤ 39) (l2 : (-1) ≤ p2) (u2 : p2 ≤ 6) : Ct B (d + 3) 171 [R 6, I p1, I p2] M0 (qI fun z M => Pw M ∧ Fr fm_m171_6v1 M0 M ∧ 0 ≤ z ∧ z ≤ 1) := by
  refine ct_of (d := d + 2) (k := 0) (L := [some (R 6), some (I p1), some (I p2)]) rfl rfl rfl ?_
  have hF0 := Fr.rf fm_m171_6v1 M0
  generalize hQ : (qI fun z M => Pw M ∧ Fr fm_m171_6v1 M0 M ∧ 0 ≤ z ∧ z ≤ 1) = Q
  refine wk_il2 r171_0 (wk_c1 r171_1 ?_)
  refine wk_iceq r171_2 ⟨by omega, by omega⟩ (by decide) ?_ ?_
  · intro h1
    refine wk_c1 r171_20 ?_
    subst hQ; exact wk_zret r171_21 (by decide) (⟨rfl, _, rfl, hP0, hF0, by omega, by omega⟩)
  · intro h2
    refine wk_al0 r171_5 (wk_c1 r171_6 (wk_il1 r171_7 (wk_il2 r171_8 (wk_iadd r171_9 (wk_cv3 r171_10 kc_6_172 rfl (m172_6 _ M0 0 (p1 + p2) hP0 (by decide) (by decide) (by omega) (by omega) (by first | assumption | omega | (unfold stepok; omega))) (cqI ?_))))))
    rintro v7 M3 ⟨hP4, hQ5, h8, h9⟩
    have hF6 : Fr fm_m171_6v1 M0 M3 := hF0.tr hQ5 rfl
    refine wk_ifeq r171_13 ⟨by omega, by omega⟩ ?_ ?_
    · intro h10
      exfalso
      omega
    · intro h11
      refine wk_c1 r171_16 (wk_goto r171_17 ?_)
      subst hQ; exact wk_zret r171_21 (by decide) (⟨rfl, _, rfl, hP4, hF6, by omega, by omega⟩)
def fm_m167_6v3 : Nat := 3941061990809600
/-- IslandHall$Parser.number -/
theorem m167_6v3 {B : eB} (d : Nat) (M0 : Mm) (p1 : Int) (p2 : Int) (hP0 : Pw M0) (l1 : 0 ≤ p1) (u1 : p1 ≤ 0) (l2 : 3 ≤ p2) (u2 : p2 ≤ 3) : Ct B (d + 3) 167 [R 6, I p1, I p2] M0 (qI fun z M => Pw M ∧ Fr fm_m167_6v3 M0 M ∧ (-1) ≤ z ∧ z ≤ 3) := by
  refine ct_of (d := d + 2) (k := 1) (L := [some (R 6), some (I p1), some (I p2), none]) rfl rfl rfl ?_
  have hF0 := Fr.rf fm_m167_6v3 M0
  generalize hQ : (qI fun z M => Pw M ∧ Fr fm_m167_6v3 M0 M ∧ (-1) ≤ z ∧ z ≤ 3) = Q
  refine wk_al0 r167_0 (wk_getfr r167_1 fd_6_0 (br_6_0 hP0) (wk_getfb r167_4 fd_9_4 (bf_9_4 hP0) ?_))
  intro v1 h3 h4 e2
  refine wk_c1 r167_7 ?_
  refine wk_iceq r167_8 ⟨by omega, by omega⟩ (by decide) ?_ ?_
  · intro h5
    refine wk_al0 r167_19 (wk_getfr r167_20 fd_6_0 (br_6_0 hP0) (wk_cv1 r167_23 kc_9_244 rfl (m244_9 _ M0 hP0) (cqI ?_)))
    rintro v10 M6 ⟨hP7, hQ8, h11, h12⟩
    obtain rfl := Fr.same hQ8
    refine wk_is3 r167_26 rfl (wk_il3 r167_27 (wk_il1 r167_28 ?_))
    refine wk_iclt r167_29 ⟨by omega, by omega⟩ ⟨by omega, by omega⟩ ?_ ?_
    · intro h13
      refine wk_al0 r167_37 (wk_c1 r167_38 (wk_cv2 r167_39 kc_6_159 rfl (m159_6v1 _ M0 2 hP0 (by decide) (by decide)) (cqI ?_)))
      rintro v18 M14 ⟨hP15, hQ16, h19, h20⟩
      have hF17 : Fr fm_m167_6v3 M0 M14 := hF0.tr hQ16 rfl
      refine wk_popi r167_42 (wk_c1 r167_43 ?_)
      subst hQ; exact wk_iret r167_44 (⟨rfl, _, rfl, hP15, hF17, by omega, by omega⟩)
    · intro h21
      refine wk_il3 r167_32 (wk_il2 r167_33 ?_)
      refine wk_icle r167_34 ⟨by omega, by omega⟩ ⟨by omega, by omega⟩ ?_ ?_
      · intro h22
        refine wk_al0 r167_45 (wk_getfr r167_46 fd_6_0 (br_6_0 hP0) (wk_cv1 r167_49 kc_9_241 rfl (m241_9 _ M0 hP0) (cqV ?_)))
        rintro M23 ⟨hP24, hQ25⟩
        have hF26 : Fr fm_m167_6v3 M0 M23 := hF0.tr hQ25 rfl
        refine wk_il3 r167_52 ?_
        subst hQ; exact wk_iret r167_53 (⟨rfl, _, rfl, hP24, hF26, by omega, by omega⟩)
      · intro h27
        refine wk_al0 r167_37 (wk_c1 r167_38 (wk_cv2 r167_39 kc_6_159 rfl (m159_6v1 _ M0 2 hP0 (by decide) (by decide)) (cqI ?_)))
        rintro v32 M28 ⟨hP29, hQ30, h33, h34⟩
        have hF31 : Fr fm_m167_6v3 M0 M28 := hF0.tr hQ30 rfl
        refine wk_popi r167_42 (wk_c1 r167_43 ?_)
        subst hQ; exact wk_iret r167_44 (⟨rfl, _, rfl, hP29, hF31, by omega, by omega⟩)
  · intro h35
    refine wk_al0 r167_11 (wk_c1 r167_12 (wk_cv2 r167_13 kc_6_159 rfl (m159_6 _ M0 1 hP0 (by decide) (by decide)) (cqI ?_)))
    rintro v40 M36 ⟨hP37, hQ38, h41, h42⟩
    have hF39 : Fr fm_m167_6v3 M0 M36 := hF0.tr hQ38 rfl
    refine wk_popi r167_16 (wk_c1 r167_17 ?_)
    subst hQ; exact wk_iret r167_18 (⟨rfl, _, rfl, hP37, hF39, by omega, by omega⟩)
def fm_m171_6v2 : Nat := 4831838208
/-- IslandHall$Parser.row -/
theorem m171_6v2 {B : eB} (d : Nat) (M0 : Mm) (p1 : Int) (p2 : Int) (hP0 : Pw M0) (l1 : 35 ≤ p1) (u1 : p1 ≤ 35) (l2 : (-1) ≤ p2) (u2 : p2 ≤ 3) : Ct B (d + 3) 171 [R 6, I p1, I p2] M0 (qI fun z M => Pw M ∧ Fr fm_m171_6v2 M0 M ∧ 0 ≤ z ∧ z ≤ 1) := by
  refine ct_of (d := d + 2) (k := 0) (L := [some (R 6), some (I p1), some (I p2)]) rfl rfl rfl ?_
  have hF0 := Fr.rf fm_m171_6v2 M0
  generalize hQ : (qI fun z M => Pw M ∧ Fr fm_m171_6v2 M0 M ∧ 0 ≤ z ∧ z ≤ 1) = Q
  refine wk_il2 r171_0 (wk_c1 r171_1 ?_)
  refine wk_iceq r171_2 ⟨by omega, by omega⟩ (by decide) ?_ ?_
  · intro h1
    refine wk_c1 r171_20 ?_
    subst hQ; exact wk_zret r171_21 (by decide) (⟨rfl, _, rfl, hP0, hF0, by omega, by omega⟩)
  · intro h2
    refine wk_al0 r171_5 (wk_c1 r171_6 (wk_il1 r171_7 (wk_il2 r171_8 (wk_iadd r171_9 (wk_cv3 r171_10 kc_6_172 rfl (m172_6 _ M0 0 (p1 + p2) hP0 (by decide) (by decide) (by omega) (by omega) (by first | assumption | omega | (unfold stepok; omega))) (cqI ?_))))))
    rintro v7 M3 ⟨hP4, hQ5, h8, h9⟩
    have hF6 : Fr fm_m171_6v2 M0 M3 := hF0.tr hQ5 rfl
    refine wk_ifeq r171_13 ⟨by omega, by omega⟩ ?_ ?_
    · intro h10
      exfalso
      omega
    · intro h11
      refine wk_c1 r171_16 (wk_goto r171_17 ?_)
      subst hQ; exact wk_zret r171_21 (by decide) (⟨rfl, _, rfl, hP4, hF6, by omega, by omega⟩)
def fm_m242_9 : Nat := 0
/-- IslandHall$Tokens.person -/
theorem m242_9 {B : eB} (d : Nat) (M0 : Mm) (x9_3 : Int) (hP0 : Pw M0) (ex9_3 : M0 9 3 = x9_3) (lx9_3 : 0 ≤ x9_3) (ux9_3 : x9_3 ≤ 499) : Ct B (d + 1) 242 [R 9] M0 (qI fun z M => Pw M ∧ Fr fm_m242_9 M0 M ∧ (-225) ≤ z ∧ z ≤ 30) := by
  refine ct_of (d := d + 0) (k := 0) (L := [some (R 9)]) rfl rfl rfl ?_
  have hF0 := Fr.rf fm_m242_9 M0
  generalize hQ : (qI fun z M => Pw M ∧ Fr fm_m242_9 M0 M ∧ (-225) ≤ z ∧ z ≤ 30) = Q
  refine wk_al0 r242_0 (wk_getfr r242_1 fd_9_0 (br_9_0 hP0) (wk_al0 r242_4 (wk_getfi r242_5 fd_9_3 ex9_3 (wk_baldb r242_8 ar_1 ⟨by omega, by omega⟩ (fun q0 q1 => ba_1 hP0 q0 q1) ?_))))
  intro v1 h3 h4 e2
  refine wk_c2 r242_9 (wk_isub r242_11 ?_)
  subst hQ; exact wk_iret r242_12 (⟨rfl, _, rfl, hP0, hF0, by omega, by omega⟩)
def fm_m159_6v2 : Nat := 412316860416
/-- IslandHall$Parser.fail -/
theorem m159_6v2 {B : eB} (d : Nat) (M0 : Mm) (p1 : Int) (hP0 : Pw M0) (l1 : 1 ≤ p1) (u1 : p1 ≤ 4) : Ct B (d + 1) 159 [R 6, I p1] M0 (qI fun z M => Pw M ∧ Fr fm_m159_6v2 M0 M ∧ 0 ≤ z ∧ z ≤ 0) := by
  refine ct_of (d := d + 0) (k := 0) (L := [some (R 6), some (I p1)]) rfl rfl rfl ?_
  have hF0 := Fr.rf fm_m159_6v2 M0
  generalize hQ : (qI fun z M => Pw M ∧ Fr fm_m159_6v2 M0 M ∧ 0 ≤ z ∧ z ≤ 0) = Q
  refine wk_al0 r159_0 (wk_il1 r159_1 (wk_putfi81 r159_2 fd_6_4 (wk_nw g_6_4 rfl hP0 hF0 (uf_6_4 ⟨by omega, by omega⟩) ?_)))
  intro M1 hP2 hF3 e4
  refine wk_al0 r159_5 (wk_al0 r159_6 (wk_getfr r159_7 fd_6_0 (br_6_0 hP2) (wk_getfb r159_10 fd_9_3 (bf_9_3 hP2) ?_)))
  intro v5 h7 h8 e6
  refine wk_putfi81 r159_13 fd_6_5 (wk_nw g_6_5 rfl hP2 hF3 (uf_6_5 ⟨by omega, by omega⟩) ?_)
  intro M9 hP10 hF11 e12
  refine wk_c1 r159_16 ?_
  subst hQ; exact wk_zret r159_17 (by decide) (⟨rfl, _, rfl, hP10, hF11, by omega, by omega⟩)
def fm_m165_6 : Nat := 3941061990809600
/-- IslandHall$Parser.name -/
theorem m165_6 {B : eB} (d : Nat) (M0 : Mm) (hP0 : Pw M0)  : Ct B (d + 3) 165 [R 6] M0 (qI fun z M => Pw M ∧ Fr fm_m165_6 M0 M ∧ (-1) ≤ z ∧ z ≤ 6) := by
  refine ct_of (d := d + 2) (k := 1) (L := [some (R 6), none]) rfl rfl rfl ?_
  have hF0 := Fr.rf fm_m165_6 M0
  generalize hQ : (qI fun z M => Pw M ∧ Fr fm_m165_6 M0 M ∧ (-1) ≤ z ∧ z ≤ 6) = Q
  refine wk_al0 r165_0 (wk_getfr r165_1 fd_6_0 (br_6_0 hP0) (wk_cv1 r165_4 kc_9_237 rfl (m237_9 _ M0 hP0) (cqI ?_)))
  rintro v7 M1 ⟨hP2, hQ3, h8, h9, h5, h6⟩
  obtain rfl := Fr.same hQ3
  obtain ⟨v10, e11⟩ : ∃ v, M0 9 2 = v := ⟨_, rfl⟩
  have h12 := bf_9_2 hP0; rw [e11] at h12
  obtain ⟨v13, e14⟩ : ∃ v, M0 9 3 = v := ⟨_, rfl⟩
  have h15 := bf_9_3 hP0; rw [e14] at h15
  refine wk_ifne r165_7 ⟨by omega, by omega⟩ ?_ ?_
  · intro h16
    refine wk_al0 r165_18 (wk_getfr r165_19 fd_6_0 (br_6_0 hP0) (wk_cv1 r165_22 kc_9_242 rfl (m242_9 _ M0 v13 hP0 e14 (by omega) (by omega)) (cqI ?_)))
    rintro v21 M17 ⟨hP18, hQ19, h22, h23⟩
    obtain rfl := Fr.same hQ19
    refine wk_is1 r165_25 rfl (wk_il1 r165_26 ?_)
    refine wk_iflt r165_27 ⟨by omega, by omega⟩ ?_ ?_
    · intro h24
      refine wk_al0 r165_38 (wk_c1 r165_39 (wk_cv2 r165_40 kc_6_159 rfl (m159_6v2 _ M0 4 hP0 (by decide) (by decide)) (cqI ?_)))
      rintro v29 M25 ⟨hP26, hQ27, h30, h31⟩
      have hF28 : Fr fm_m165_6 M0 M25 := hF0.tr hQ27 rfl
      refine wk_popi r165_43 (wk_c1 r165_44 ?_)
      subst hQ; exact wk_iret r165_45 (⟨rfl, _, rfl, hP26, hF28, by omega, by omega⟩)
    · intro h32
      refine wk_il1 r165_30 (wk_al0 r165_31 (wk_getfb r165_32 fd_6_3 (bf_6_3 hP0) ?_))
      intro v33 h35 h36 e34
      refine wk_iclt r165_35 ⟨by omega, by omega⟩ ⟨by omega, by omega⟩ ?_ ?_
      · intro h37
        refine wk_al0 r165_46 (wk_getfr r165_47 fd_6_0 (br_6_0 hP0) (wk_cv1 r165_50 kc_9_241 rfl (m241_9 _ M0 hP0) (cqV ?_)))
        rintro M38 ⟨hP39, hQ40⟩
        have hF41 : Fr fm_m165_6 M0 M38 := hF0.tr hQ40 rfl
        refine wk_il1 r165_53 ?_
        subst hQ; exact wk_iret r165_54 (⟨rfl, _, rfl, hP39, hF41, by omega, by omega⟩)
      · intro h42
        refine wk_al0 r165_38 (wk_c1 r165_39 (wk_cv2 r165_40 kc_6_159 rfl (m159_6v2 _ M0 4 hP0 (by decide) (by decide)) (cqI ?_)))
        rintro v47 M43 ⟨hP44, hQ45, h48, h49⟩
        have hF46 : Fr fm_m165_6 M0 M43 := hF0.tr hQ45 rfl
        refine wk_popi r165_43 (wk_c1 r165_44 ?_)
        subst hQ; exact wk_iret r165_45 (⟨rfl, _, rfl, hP44, hF46, by omega, by omega⟩)
  · intro h50
    refine wk_al0 r165_10 (wk_c1 r165_11 (wk_cv2 r165_12 kc_6_159 rfl (m159_6 _ M0 1 hP0 (by decide) (by decide)) (cqI ?_)))
    rintro v55 M51 ⟨hP52, hQ53, h56, h57⟩
    have hF54 : Fr fm_m165_6 M0 M51 := hF0.tr hQ53 rfl
    refine wk_popi r165_15 (wk_c1 r165_16 ?_)
    subst hQ; exact wk_iret r165_17 (⟨rfl, _, rfl, hP52, hF54, by omega, by omega⟩)
def fm_m174_6 : Nat := 3941061990809600
/-- IslandHall$Parser.takeSign -/
theorem m174_6 {B : eB} (d : Nat) (M0 : Mm) (p1 : Int) (hP0 : Pw M0) (l1 : 40 ≤ p1) (u1 : p1 ≤ 40) : Ct B (d + 3) 174 [R 6, I p1] M0 (qI fun z M => Pw M ∧ Fr fm_m174_6 M0 M ∧ 0 ≤ z ∧ z ≤ 1) := by
  refine ct_of (d := d + 2) (k := 0) (L := [some (R 6), some (I p1)]) rfl rfl rfl ?_
  have hF0 := Fr.rf fm_m174_6 M0
  generalize hQ : (qI fun z M => Pw M ∧ Fr fm_m174_6 M0 M ∧ 0 ≤ z ∧ z ≤ 1) = Q
  refine wk_al0 r174_0 (wk_getfr r174_1 fd_6_0 (br_6_0 hP0) (wk_il1 r174_4 (wk_cv2 r174_5 kc_9_238 rfl (m238_9 _ M0 p1 hP0 (by omega) (by omega)) (cqI ?_))))
  rintro v5 M1 ⟨hP2, hQ3, h6, h7⟩
  obtain rfl := Fr.same hQ3
  refine wk_ifne r174_8 ⟨by omega, by omega⟩ ?_ ?_
  · intro h8
    refine wk_al0 r174_17 (wk_getfr r174_18 fd_6_0 (br_6_0 hP0) (wk_cv1 r174_21 kc_9_241 rfl (m241_9 _ M0 hP0) (cqV ?_)))
    rintro M9 ⟨hP10, hQ11⟩
    have hF12 : Fr fm_m174_6 M0 M9 := hF0.tr hQ11 rfl
    refine wk_c1 r174_24 ?_
    subst hQ; exact wk_zret r174_25 (by decide) (⟨rfl, _, rfl, hP10, hF12, by omega, by omega⟩)
  · intro h13
    refine wk_al0 r174_11 (wk_c1 r174_12 (wk_cv2 r174_13 kc_6_159 rfl (m159_6 _ M0 1 hP0 (by decide) (by decide)) (cqI ?_)))
    rintro v18 M14 ⟨hP15, hQ16, h19, h20⟩
    have hF17 : Fr fm_m174_6 M0 M14 := hF0.tr hQ16 rfl
    subst hQ; exact wk_zret r174_16 ⟨by omega, by omega⟩ (⟨rfl, _, rfl, hP15, hF17, by omega, by omega⟩)
def fm_m158_6v6 : Nat := 412316860416
/-- IslandHall$Parser.expr -/
theorem m158_6v6 {B : eB} (d : Nat) (M0 : Mm) (p1 : Int) (hP0 : Pw M0) (l1 : 6 ≤ p1) (u1 : p1 ≤ 6) : Ct B (d + 4) 158 [R 6, I p1] M0 (qI fun z M => Pw M ∧ Fr fm_m158_6v6 M0 M ∧ 0 ≤ z ∧ z ≤ 0) := by
  refine ct_of (d := d + 3) (k := 1) (L := [some (R 6), some (I p1), none]) rfl rfl rfl ?_
  have hF0 := Fr.rf fm_m158_6v6 M0
  generalize hQ : (qI fun z M => Pw M ∧ Fr fm_m158_6v6 M0 M ∧ 0 ≤ z ∧ z ≤ 0) = Q
  refine wk_al0 r158_0 (wk_cv1 r158_1 kc_6_155 rfl (m155_6 _ M0 hP0) (cqI ?_))
  rintro v5 M1 ⟨hP2, hQ3, h6, h7⟩
  obtain rfl := Fr.same hQ3
  refine wk_ifne r158_4 ⟨by omega, by omega⟩ ?_ ?_
  · intro h8
    refine wk_il1 r158_13 (wk_c2 r158_14 ?_)
    refine wk_iclt r158_16 ⟨by omega, by omega⟩ (by decide) ?_ ?_
    · intro h9
      exfalso
      omega
    · intro h10
      refine wk_al0 r158_19 (wk_c1 r158_20 (wk_cv2 r158_21 kc_6_159 rfl (m159_6v1 _ M0 2 hP0 (by decide) (by decide)) (cqI ?_)))
      rintro v15 M11 ⟨hP12, hQ13, h16, h17⟩
      have hF14 : Fr fm_m158_6v6 M0 M11 := hF0.tr hQ13 rfl
      subst hQ; exact wk_zret r158_24 ⟨by omega, by omega⟩ (⟨rfl, _, rfl, hP12, hF14, by omega, by omega⟩)
  · intro h18
    refine wk_al0 r158_7 (wk_c1 r158_8 (wk_cv2 r158_9 kc_6_159 rfl (m159_6 _ M0 1 hP0 (by decide) (by decide)) (cqI ?_)))
    rintro v23 M19 ⟨hP20, hQ21, h24, h25⟩
    have hF22 : Fr fm_m158_6v6 M0 M19 := hF0.tr hQ21 rfl
    subst hQ; exact wk_zret r158_12 ⟨by omega, by omega⟩ (⟨rfl, _, rfl, hP20, hF22, by omega, by omega⟩)
def fm_m168_6v5 : Nat := 3941061990809600
/-- IslandHall$Parser.parenthesis -/
theorem m168_6v5 {B : eB} (d : Nat) (M0 : Mm) (p1 : Int) (hP0 : Pw M0) (l1 : 5 ≤ p1) (u1 : p1 ≤ 5) : Ct B (d + 5) 168 [R 6, I p1] M0 (qI fun z M => Pw M ∧ Fr fm_m168_6v5 M0 M ∧ 0 ≤ z ∧ z ≤ 0) := by
  refine ct_of (d := d + 4) (k := 0) (L := [some (R 6), some (I p1)]) rfl rfl rfl ?_
  have hF0 := Fr.rf fm_m168_6v5 M0
  generalize hQ : (qI fun z M => Pw M ∧ Fr fm_m168_6v5 M0 M ∧ 0 ≤ z ∧ z ≤ 0) = Q
  refine wk_al0 r168_0 (wk_c2 r168_1 (wk_cv2 r168_3 kc_6_174 rfl (m174_6 _ M0 40 hP0 (by decide) (by decide)) (cqI ?_)))
  rintro v5 M1 ⟨hP2, hQ3, h6, h7⟩
  have hF4 : Fr fm_m168_6v5 M0 M1 := hF0.tr hQ3 rfl
  refine wk_ifeq r168_6 ⟨by omega, by omega⟩ ?_ ?_
  · intro h8
    refine wk_c1 r168_32 ?_
    subst hQ; exact wk_zret r168_33 (by decide) (⟨rfl, _, rfl, hP2, hF4, by omega, by omega⟩)
  · intro h9
    refine wk_al0 r168_9 (wk_il1 r168_10 (wk_c1 r168_11 (wk_iadd r168_12 (wk_cv2 r168_13 kc_6_158 rfl (m158_6v6 _ M1 (p1 + 1) hP2 (by omega) (by omega)) (cqI ?_)))))
    rintro v14 M10 ⟨hP11, hQ12, h15, h16⟩
    have hF13 : Fr fm_m168_6v5 M0 M10 := hF4.tr hQ12 rfl
    refine wk_ifeq r168_16 ⟨by omega, by omega⟩ ?_ ?_
    · intro h17
      refine wk_c1 r168_32 ?_
      subst hQ; exact wk_zret r168_33 (by decide) (⟨rfl, _, rfl, hP11, hF13, by omega, by omega⟩)
    · intro h18
      exfalso
      omega
def fm_m171_6v3 : Nat := 4831838208
/-- IslandHall$Parser.row -/
theorem m171_6v3 {B : eB} (d : Nat) (M0 : Mm) (p1 : Int) (p2 : Int) (hP0 : Pw M0) (l1 : 0 ≤ p1) (u1 : p1 ≤ 30) (l2 : (-1) ≤ p2) (u2 : p2 ≤ 4) : Ct B (d + 3) 171 [R 6, I p1, I p2] M0 (qI fun z M => Pw M ∧ Fr fm_m171_6v3 M0 M ∧ 0 ≤ z ∧ z ≤ 1) := by
  refine ct_of (d := d + 2) (k := 0) (L := [some (R 6), some (I p1), some (I p2)]) rfl rfl rfl ?_
  have hF0 := Fr.rf fm_m171_6v3 M0
  generalize hQ : (qI fun z M => Pw M ∧ Fr fm_m171_6v3 M0 M ∧ 0 ≤ z ∧ z ≤ 1) = Q
  refine wk_il2 r171_0 (wk_c1 r171_1 ?_)
  refine wk_iceq r171_2 ⟨by omega, by omega⟩ (by decide) ?_ ?_
  · intro h1
    refine wk_c1 r171_20 ?_
    subst hQ; exact wk_zret r171_21 (by decide) (⟨rfl, _, rfl, hP0, hF0, by omega, by omega⟩)
  · intro h2
    refine wk_al0 r171_5 (wk_c1 r171_6 (wk_il1 r171_7 (wk_il2 r171_8 (wk_iadd r171_9 (wk_cv3 r171_10 kc_6_172 rfl (m172_6 _ M0 0 (p1 + p2) hP0 (by decide) (by decide) (by omega) (by omega) (by first | assumption | omega | (unfold stepok; omega))) (cqI ?_))))))
    rintro v7 M3 ⟨hP4, hQ5, h8, h9⟩
    have hF6 : Fr fm_m171_6v3 M0 M3 := hF0.tr hQ5 rfl
    refine wk_ifeq r171_13 ⟨by omega, by omega⟩ ?_ ?_
    · intro h10
      exfalso
      omega
    · intro h11
      refine wk_c1 r171_16 (wk_goto r171_17 ?_)
      subst hQ; exact wk_zret r171_21 (by decide) (⟨rfl, _, rfl, hP4, hF6, by omega, by omega⟩)
def fm_m152_6v5 : Nat := 3941066822647808
/-- IslandHall$Parser.aboutSomeone -/
theorem m152_6v5 {B : eB} (d : Nat) (M0 : Mm) (p1 : Int) (hP0 : Pw M0) (l1 : 5 ≤ p1) (u1 : p1 ≤ 5) : Ct B (d + 6) 152 [R 6, I p1] M0 (qI fun z M => Pw M ∧ Fr fm_m152_6v5 M0 M ∧ 0 ≤ z ∧ z ≤ 1) := by
  refine ct_of (d := d + 5) (k := 2) (L := [some (R 6), some (I p1), none, none]) rfl rfl rfl ?_
  have hF0 := Fr.rf fm_m152_6v5 M0
  generalize hQ : (qI fun z M => Pw M ∧ Fr fm_m152_6v5 M0 M ∧ 0 ≤ z ∧ z ≤ 1) = Q
  refine wk_al0 r152_0 (wk_cv1 r152_1 kc_6_165 rfl (m165_6 _ M0 hP0) (cqI ?_))
  rintro v5 M1 ⟨hP2, hQ3, h6, h7⟩
  have hF4 : Fr fm_m152_6v5 M0 M1 := hF0.tr hQ3 rfl
  refine wk_is2 r152_4 rfl (wk_il2 r152_5 (wk_c1 r152_6 ?_))
  refine wk_icne r152_7 ⟨by omega, by omega⟩ (by decide) ?_ ?_
  · intro h8
    refine wk_al0 r152_12 (wk_c8 r152_13 (wk_cv2 r152_15 kc_6_175 rfl (m175_6 _ M1 4111 hP2 (by decide)) (cqI ?_)))
    rintro v13 M9 ⟨hP10, hQ11, h14, h15⟩
    have hF12 : Fr fm_m152_6v5 M0 M9 := hF4.tr hQ11 rfl
    refine wk_ifeq r152_18 ⟨by omega, by omega⟩ ?_ ?_
    · intro h16
      refine wk_al0 r152_35 (wk_c8 r152_36 (wk_cv2 r152_38 kc_6_175 rfl (m175_6 _ M9 4112 hP10 (by decide)) (cqI ?_)))
      rintro v21 M17 ⟨hP18, hQ19, h22, h23⟩
      have hF20 : Fr fm_m152_6v5 M0 M17 := hF12.tr hQ19 rfl
      refine wk_ifeq r152_41 ⟨by omega, by omega⟩ ?_ ?_
      · intro h24
        refine wk_al0 r152_73 (wk_c8 r152_74 (wk_cv2 r152_76 kc_6_175 rfl (m175_6 _ M17 4113 hP18 (by decide)) (cqI ?_)))
        rintro v29 M25 ⟨hP26, hQ27, h30, h31⟩
        have hF28 : Fr fm_m152_6v5 M0 M25 := hF20.tr hQ27 rfl
        refine wk_ifne r152_79 ⟨by omega, by omega⟩ ?_ ?_
        · intro h32
          refine wk_al0 r152_88 (wk_il1 r152_89 (wk_cv2 r152_90 kc_6_168 rfl (m168_6v5 _ M25 p1 hP26 (by omega) (by omega)) (cqI ?_)))
          rintro v37 M33 ⟨hP34, hQ35, h38, h39⟩
          have hF36 : Fr fm_m152_6v5 M0 M33 := hF28.tr hQ35 rfl
          refine wk_ifne r152_93 ⟨by omega, by omega⟩ ?_ ?_
          · intro h40
            exfalso
            omega
          · intro h41
            refine wk_c1 r152_96 ?_
            subst hQ; exact wk_zret r152_97 (by decide) (⟨rfl, _, rfl, hP34, hF36, by omega, by omega⟩)
        · intro h42
          refine wk_al0 r152_82 (wk_c1 r152_83 (wk_cv2 r152_84 kc_6_159 rfl (m159_6 _ M25 1 hP26 (by decide) (by decide)) (cqI ?_)))
          rintro v47 M43 ⟨hP44, hQ45, h48, h49⟩
          have hF46 : Fr fm_m152_6v5 M0 M43 := hF28.tr hQ45 rfl
          subst hQ; exact wk_zret r152_87 ⟨by omega, by omega⟩ (⟨rfl, _, rfl, hP44, hF46, by omega, by omega⟩)
      · intro h50
        refine wk_al0 r152_44 (wk_cv1 r152_45 kc_6_165 rfl (m165_6 _ M17 hP18) (cqI ?_))
        rintro v55 M51 ⟨hP52, hQ53, h56, h57⟩
        have hF54 : Fr fm_m152_6v5 M0 M51 := hF20.tr hQ53 rfl
        refine wk_is3 r152_48 rfl (wk_il3 r152_49 (wk_c1 r152_50 ?_))
        refine wk_iceq r152_51 ⟨by omega, by omega⟩ (by decide) ?_ ?_
        · intro h58
          refine wk_c1 r152_71 ?_
          subst hQ; exact wk_zret r152_72 (by decide) (⟨rfl, _, rfl, hP52, hF54, by omega, by omega⟩)
        · intro h59
          refine wk_al0 r152_54 (wk_c1 r152_55 (wk_il2 r152_56 (wk_c1 r152_57 (wk_ishlc r152_58 (by decide) pwl_3 (wk_il3 r152_59 (wk_iord2 3 8 r152_60 (by decide) ⟨by omega, by omega⟩ ⟨by omega, by omega, by omega⟩ (wk_cv3 r152_61 kc_6_172 rfl (m172_6 _ M51 5 ((v5 * 8) + v55) hP52 (by decide) (by decide) (by omega) (by omega) (by first | assumption | omega | (unfold stepok; omega))) (cqI ?_))))))))
          rintro v64 M60 ⟨hP61, hQ62, h65, h66⟩
          have hF63 : Fr fm_m152_6v5 M0 M60 := hF54.tr hQ62 rfl
          refine wk_ifeq r152_64 ⟨by omega, by omega⟩ ?_ ?_
          · intro h67
            exfalso
            omega
          · intro h68
            refine wk_c1 r152_67 (wk_goto r152_68 ?_)
            subst hQ; exact wk_zret r152_72 (by decide) (⟨rfl, _, rfl, hP61, hF63, by omega, by omega⟩)
    · intro h69
      refine wk_al0 r152_21 (wk_c1 r152_22 (wk_il2 r152_23 (wk_c1 r152_24 (wk_imul r152_25 (wk_iadd r152_26 (wk_al0 r152_27 (wk_cv1 r152_28 kc_6_173 rfl (m173_6 _ M9 hP10) (cqI ?_))))))))
      rintro v74 M70 ⟨hP71, hQ72, h75, h76⟩
      have hF73 : Fr fm_m152_6v5 M0 M70 := hF12.tr hQ72 rfl
      refine wk_cv3 r152_31 kc_6_171 rfl (m171_6v3 _ M70 (0 + (v5 * 5)) v74 hP71 (by omega) (by omega) (by omega) (by omega)) (cqI ?_)
      rintro v81 M77 ⟨hP78, hQ79, h82, h83⟩
      have hF80 : Fr fm_m152_6v5 M0 M77 := hF73.tr hQ79 rfl
      subst hQ; exact wk_zret r152_34 ⟨by omega, by omega⟩ (⟨rfl, _, rfl, hP78, hF80, by omega, by omega⟩)
  · intro h84
    refine wk_c1 r152_10 ?_
    subst hQ; exact wk_zret r152_11 (by decide) (⟨rfl, _, rfl, hP2, hF4, by omega, by omega⟩)
def fm_m153_6v5 : Nat := 3941068970131456
/-- IslandHall$Parser.atom -/
theorem m153_6v5 {B : eB} (d : Nat) (M0 : Mm) (p1 : Int) (hP0 : Pw M0) (l1 : 5 ≤ p1) (u1 : p1 ≤ 5) : Ct B (d + 7) 153 [R 6, I p1] M0 (qI fun z M => Pw M ∧ Fr fm_m153_6v5 M0 M ∧ 0 ≤ z ∧ z ≤ 1) := by
  refine ct_of (d := d + 6) (k := 0) (L := [some (R 6), some (I p1)]) rfl rfl rfl ?_
  have hF0 := Fr.rf fm_m153_6v5 M0
  generalize hQ : (qI fun z M => Pw M ∧ Fr fm_m153_6v5 M0 M ∧ 0 ≤ z ∧ z ≤ 1) = Q
  refine wk_al0 r153_0 (wk_getfr r153_1 fd_6_0 (br_6_0 hP0) (wk_cv1 r153_4 kc_9_237 rfl (m237_9 _ M0 hP0) (cqI ?_)))
  rintro v7 M1 ⟨hP2, hQ3, h8, h9, h5, h6⟩
  obtain rfl := Fr.same hQ3
  obtain ⟨v10, e11⟩ : ∃ v, M0 9 2 = v := ⟨_, rfl⟩
  have h12 := bf_9_2 hP0; rw [e11] at h12
  obtain ⟨v13, e14⟩ : ∃ v, M0 9 3 = v := ⟨_, rfl⟩
  have h15 := bf_9_3 hP0; rw [e14] at h15
  refine wk_ifeq r153_7 ⟨by omega, by omega⟩ ?_ ?_
  · intro h16
    refine wk_al0 r153_16 (wk_c8 r153_17 (wk_cv2 r153_19 kc_6_175 rfl (m175_6 _ M0 4114 hP0 (by decide)) (cqI ?_)))
    rintro v21 M17 ⟨hP18, hQ19, h22, h23⟩
    have hF20 : Fr fm_m153_6v5 M0 M17 := hF0.tr hQ19 rfl
    refine wk_ifeq r153_22 ⟨by omega, by omega⟩ ?_ ?_
    · intro h24
      refine wk_al0 r153_38 (wk_c8 r153_39 (wk_cv2 r153_41 kc_6_175 rfl (m175_6 _ M17 4115 hP18 (by decide)) (cqI ?_)))
      rintro v29 M25 ⟨hP26, hQ27, h30, h31⟩
      have hF28 : Fr fm_m153_6v5 M0 M25 := hF20.tr hQ27 rfl
      refine wk_ifeq r153_44 ⟨by omega, by omega⟩ ?_ ?_
      · intro h32
        refine wk_al0 r153_61 (wk_c8 r153_62 (wk_cv2 r153_64 kc_6_175 rfl (m175_6 _ M25 4116 hP26 (by decide)) (cqI ?_)))
        rintro v37 M33 ⟨hP34, hQ35, h38, h39⟩
        have hF36 : Fr fm_m153_6v5 M0 M33 := hF28.tr hQ35 rfl
        refine wk_ifeq r153_67 ⟨by omega, by omega⟩ ?_ ?_
        · intro h40
          refine wk_al0 r153_83 (wk_c8 r153_84 (wk_cv2 r153_86 kc_6_175 rfl (m175_6 _ M33 4117 hP34 (by decide)) (cqI ?_)))
          rintro v45 M41 ⟨hP42, hQ43, h46, h47⟩
          have hF44 : Fr fm_m153_6v5 M0 M41 := hF36.tr hQ43 rfl
          refine wk_ifeq r153_89 ⟨by omega, by omega⟩ ?_ ?_
          · intro h48
            refine wk_al0 r153_97 (wk_c8 r153_98 (wk_cv2 r153_100 kc_6_175 rfl (m175_6 _ M41 4118 hP42 (by decide)) (cqI ?_)))
            rintro v53 M49 ⟨hP50, hQ51, h54, h55⟩
            have hF52 : Fr fm_m153_6v5 M0 M49 := hF44.tr hQ51 rfl
            refine wk_ifeq r153_103 ⟨by omega, by omega⟩ ?_ ?_
            · intro h56
              refine wk_al0 r153_117 (wk_c1 r153_118 (wk_cv2 r153_119 kc_6_159 rfl (m159_6 _ M49 1 hP50 (by decide) (by decide)) (cqI ?_)))
              rintro v61 M57 ⟨hP58, hQ59, h62, h63⟩
              have hF60 : Fr fm_m153_6v5 M0 M57 := hF52.tr hQ59 rfl
              subst hQ; exact wk_zret r153_122 ⟨by omega, by omega⟩ (⟨rfl, _, rfl, hP58, hF60, by omega, by omega⟩)
            · intro h64
              refine wk_al0 r153_106 (wk_al0 r153_107 (wk_cv1 r153_108 kc_6_173 rfl (m173_6 _ M49 hP50) (cqI ?_)))
              rintro v69 M65 ⟨hP66, hQ67, h70, h71⟩
              have hF68 : Fr fm_m153_6v5 M0 M65 := hF52.tr hQ67 rfl
              refine wk_cv2 r153_111 kc_6_163 rfl (m163_6 _ M65 v69 hP66 (by omega) (by omega)) (cqI ?_)
              rintro v76 M72 ⟨hP73, hQ74, h77, h78⟩
              have hF75 : Fr fm_m153_6v5 M0 M72 := hF68.tr hQ74 rfl
              refine wk_goto r153_114 ?_
              subst hQ; exact wk_zret r153_122 ⟨by omega, by omega⟩ (⟨rfl, _, rfl, hP73, hF75, by omega, by omega⟩)
          · intro h79
            refine wk_al0 r153_92 (wk_cv1 r153_93 kc_6_176 rfl (m176_6 _ M41 hP42) (cqI ?_))
            rintro v84 M80 ⟨hP81, hQ82, h85, h86⟩
            have hF83 : Fr fm_m153_6v5 M0 M80 := hF44.tr hQ82 rfl
            subst hQ; exact wk_zret r153_96 ⟨by omega, by omega⟩ (⟨rfl, _, rfl, hP81, hF83, by omega, by omega⟩)
        · intro h87
          refine wk_al0 r153_70 (wk_c2 r153_71 (wk_al0 r153_73 (wk_c1 r153_74 (wk_c1 r153_75 (wk_cv3 r153_76 kc_6_167 rfl (m167_6v1 _ M33 0 1 hP34 (by decide) (by decide) (by decide) (by decide)) (cqI ?_))))))
          rintro v92 M88 ⟨hP89, hQ90, h93, h94⟩
          have hF91 : Fr fm_m153_6v5 M0 M88 := hF36.tr hQ90 rfl
          refine wk_cv3 r153_79 kc_6_171 rfl (m171_6 _ M88 46 v92 hP89 (by decide) (by decide) (by omega) (by omega)) (cqI ?_)
          rintro v99 M95 ⟨hP96, hQ97, h100, h101⟩
          have hF98 : Fr fm_m153_6v5 M0 M95 := hF91.tr hQ97 rfl
          subst hQ; exact wk_zret r153_82 ⟨by omega, by omega⟩ (⟨rfl, _, rfl, hP96, hF98, by omega, by omega⟩)
      · intro h102
        refine wk_al0 r153_47 (wk_c2 r153_48 (wk_al0 r153_50 (wk_c1 r153_51 (wk_c2 r153_52 (wk_cv3 r153_54 kc_6_167 rfl (m167_6v2 _ M25 0 6 hP26 (by decide) (by decide) (by decide) (by decide)) (cqI ?_))))))
        rintro v107 M103 ⟨hP104, hQ105, h108, h109⟩
        have hF106 : Fr fm_m153_6v5 M0 M103 := hF28.tr hQ105 rfl
        refine wk_cv3 r153_57 kc_6_171 rfl (m171_6v1 _ M103 39 v107 hP104 (by decide) (by decide) (by omega) (by omega)) (cqI ?_)
        rintro v114 M110 ⟨hP111, hQ112, h115, h116⟩
        have hF113 : Fr fm_m153_6v5 M0 M110 := hF106.tr hQ112 rfl
        subst hQ; exact wk_zret r153_60 ⟨by omega, by omega⟩ (⟨rfl, _, rfl, hP111, hF113, by omega, by omega⟩)
    · intro h117
      refine wk_al0 r153_25 (wk_c2 r153_26 (wk_al0 r153_28 (wk_c1 r153_29 (wk_c1 r153_30 (wk_cv3 r153_31 kc_6_167 rfl (m167_6v3 _ M17 0 3 hP18 (by decide) (by decide) (by decide) (by decide)) (cqI ?_))))))
      rintro v122 M118 ⟨hP119, hQ120, h123, h124⟩
      have hF121 : Fr fm_m153_6v5 M0 M118 := hF20.tr hQ120 rfl
      refine wk_cv3 r153_34 kc_6_171 rfl (m171_6v2 _ M118 35 v122 hP119 (by decide) (by decide) (by omega) (by omega)) (cqI ?_)
      rintro v129 M125 ⟨hP126, hQ127, h130, h131⟩
      have hF128 : Fr fm_m153_6v5 M0 M125 := hF121.tr hQ127 rfl
      subst hQ; exact wk_zret r153_37 ⟨by omega, by omega⟩ (⟨rfl, _, rfl, hP126, hF128, by omega, by omega⟩)
  · intro h132
    refine wk_al0 r153_10 (wk_il1 r153_11 (wk_cv2 r153_12 kc_6_152 rfl (m152_6v5 _ M0 p1 hP0 (by omega) (by omega)) (cqI ?_)))
    rintro v137 M133 ⟨hP134, hQ135, h138, h139⟩
    have hF136 : Fr fm_m153_6v5 M0 M133 := hF0.tr hQ135 rfl
    subst hQ; exact wk_zret r153_15 ⟨by omega, by omega⟩ (⟨rfl, _, rfl, hP134, hF136, by omega, by omega⟩)
def fm_m166_6v5 : Nat := 3941068970131456
/-- IslandHall$Parser.negation -/
theorem m166_6v5 {B : eB} (d : Nat) (M0 : Mm) (p1 : Int) (hP0 : Pw M0) (l1 : 5 ≤ p1) (u1 : p1 ≤ 5) : Ct B (d + 8) 166 [R 6, I p1] M0 (qI fun z M => Pw M ∧ Fr fm_m166_6v5 M0 M ∧ 0 ≤ z ∧ z ≤ 1) := by
  refine ct_of (d := d + 7) (k := 2) (L := [some (R 6), some (I p1), none, none]) rfl rfl rfl ?_
  have hF0 := Fr.rf fm_m166_6v5 M0
  generalize hQ : (qI fun z M => Pw M ∧ Fr fm_m166_6v5 M0 M ∧ 0 ≤ z ∧ z ≤ 1) = Q
  refine wk_c1 r166_0 (wk_is2 r166_1 rfl ?_)
  have c2_551 : ∀ (k551 : Nat) (M472 : Mm) (v469 : Int), (6 - v469).toNat = k551 → Pw M472 → Fr fm_m166_6v5 M0 M472 → 0 ≤ v469 → v469 ≤ 6 → Wp B (d + 7) 166 2 [some (R 6), some (I p1), some (I v469), none] [] M472 Q := by
    refine lp_ind ?_
    intro k551 ih551 M472 v469 hk551 hP473 hF474 h470 h471
    refine wk_il2 r166_2 (wk_c2 r166_3 ?_)
    have c23_550 : ∀ (M486 : Mm), Pw M486 → Fr fm_m166_6v5 M0 M486 → Wp B (d + 7) 166 23 [some (R 6), some (I p1), some (I v469), none] [] M486 Q := by
      intro M486 hP487 hF488
      refine wk_al0 r166_23 (wk_getfr r166_24 fd_6_0 (br_6_0 hP487) (wk_c8 r166_27 (wk_cv2 r166_29 kc_9_239 rfl (m239_9 _ M486 4119 hP487 (by decide)) (cqI ?_))))
      rintro v494 M489 ⟨hP490, hQ491, h495, h496, xh493⟩
      obtain rfl := Fr.same hQ491
      refine wk_ifeq r166_32 ⟨by omega, by omega⟩ ?_ ?_
      · intro h497
        refine wk_al0 r166_41 (wk_getfr r166_42 fd_6_0 (br_6_0 hP487) (wk_c2 r166_45 (wk_cv2 r166_47 kc_9_238 rfl (m238_9 _ M486 40 hP487 (by decide) (by decide)) (cqI ?_))))
        rintro v502 M498 ⟨hP499, hQ500, h503, h504⟩
        obtain rfl := Fr.same hQ500
        have c66_541 : ∀ (M524 : Mm) (v521 : Int), Pw M524 → Fr fm_m166_6v5 M0 M524 → 0 ≤ v521 → v521 ≤ 1 → Wp B (d + 7) 166 66 [some (R 6), none, some (I v469), none] [I v521] M524 Q := by
          intro M524 v521 hP525 hF526 h522 h523
          refine wk_is3 r166_66 rfl (wk_il3 r166_67 ?_)
          refine wk_ifeq r166_68 ⟨by omega, by omega⟩ ?_ ?_
          · intro h527
            refine wk_c1 r166_90 ?_
            subst hQ; exact wk_zret r166_91 (by decide) (⟨rfl, _, rfl, hP525, hF526, by omega, by omega⟩)
          · intro h528
            refine wk_il2 r166_71 (wk_c1 r166_72 (wk_iandc 1 2 r166_73 ⟨rfl, by decide⟩ rfl ?_))
            refine wk_ifeq r166_74 ⟨by omega, by omega⟩ ?_ ?_
            · intro h530
              refine wk_c1 r166_86 (wk_goto r166_87 ?_)
              subst hQ; exact wk_zret r166_91 (by decide) (⟨rfl, _, rfl, hP525, hF526, by omega, by omega⟩)
            · intro h531
              refine wk_al0 r166_77 (wk_c1 r166_78 (wk_c1 r166_79 (wk_cv3 r166_80 kc_6_172 rfl (m172_6 _ M524 1 0 hP525 (by decide) (by decide) (by decide) (by decide) (by first | assumption | omega | (unfold stepok; omega))) (cqI ?_))))
              rintro v536 M532 ⟨hP533, hQ534, h537, h538⟩
              have hF535 : Fr fm_m166_6v5 M0 M532 := hF526.tr hQ534 rfl
              refine wk_ifeq r166_83 ⟨by omega, by omega⟩ ?_ ?_
              · intro h539
                exfalso
                omega
              · intro h540
                refine wk_c1 r166_86 (wk_goto r166_87 ?_)
                subst hQ; exact wk_zret r166_91 (by decide) (⟨rfl, _, rfl, hP533, hF535, by omega, by omega⟩)
        refine wk_ifeq r166_50 ⟨by omega, by omega⟩ ?_ ?_
        · intro h505
          refine wk_al0 r166_61 (wk_il1 r166_62 (wk_cv2 r166_63 kc_6_153 rfl (m153_6v5 _ M486 p1 hP487 (by omega) (by omega)) (cqI ?_)))
          rintro v510 M506 ⟨hP507, hQ508, h511, h512⟩
          have hF509 : Fr fm_m166_6v5 M0 M506 := hF488.tr hQ508 rfl
          exact wp_fg (le_s (le_n (le_s (le_s le_0)))) (c66_541 M506 v510 hP507 hF509 (by omega) (by omega))
        · intro h513
          refine wk_al0 r166_53 (wk_il1 r166_54 (wk_cv2 r166_55 kc_6_168 rfl (m168_6v5 _ M486 p1 hP487 (by omega) (by omega)) (cqI ?_)))
          rintro v518 M514 ⟨hP515, hQ516, h519, h520⟩
          have hF517 : Fr fm_m166_6v5 M0 M514 := hF488.tr hQ516 rfl
          refine wk_goto r166_58 ?_
          exact wp_fg (le_s (le_n (le_s (le_s le_0)))) (c66_541 M514 v518 hP515 hF517 (by omega) (by omega))
      · intro h542
        refine wk_al0 r166_35 (wk_c1 r166_36 (wk_cv2 r166_37 kc_6_159 rfl (m159_6v1 _ M486 2 hP487 (by decide) (by decide)) (cqI ?_)))
        rintro v547 M543 ⟨hP544, hQ545, h548, h549⟩
        have hF546 : Fr fm_m166_6v5 M0 M543 := hF488.tr hQ545 rfl
        subst hQ; exact wk_zret r166_40 ⟨by omega, by omega⟩ (⟨rfl, _, rfl, hP544, hF546, by omega, by omega⟩)
    refine wk_icge r166_5 ⟨by omega, by omega⟩ (by decide) ?_ ?_
    · intro h475
      exact wp_fg (le_s (le_s (le_s (le_s le_0)))) (c23_550 M472 hP473 hF474)
    · intro h476
      refine wk_al0 r166_8 (wk_c8 r166_9 (wk_cv2 r166_11 kc_6_175 rfl (m175_6 _ M472 4119 hP473 (by decide)) (cqI ?_)))
      rintro v481 M477 ⟨hP478, hQ479, h482, h483⟩
      have hF480 : Fr fm_m166_6v5 M0 M477 := hF474.tr hQ479 rfl
      refine wk_ifeq r166_14 ⟨by omega, by omega⟩ ?_ ?_
      · intro h484
        exact wp_fg (le_s (le_s (le_s (le_s le_0)))) (c23_550 M477 hP478 hF480)
      · intro h485
        refine wk_inc2 r166_17 rfl (wk_goto r166_20 ?_)
        exact wp_fg (le_s (le_s (le_s (le_s le_0)))) (ih551 (6 - (v469 + 1)).toNat (by omega) M477 (v469 + 1) rfl hP478 hF480 (by omega) (by omega))
  exact wp_fg (le_s (le_s (le_s (le_s le_0)))) (c2_551 _ M0 0 rfl hP0 hF0 (by omega) (by omega))
def fm_m157_6v5 : Nat := 3941068970131456
/-- IslandHall$Parser.conjunction -/
theorem m157_6v5 {B : eB} (d : Nat) (M0 : Mm) (p1 : Int) (hP0 : Pw M0) (l1 : 5 ≤ p1) (u1 : p1 ≤ 5) : Ct B (d + 9) 157 [R 6, I p1] M0 (qI fun z M => Pw M ∧ Fr fm_m157_6v5 M0 M ∧ 0 ≤ z ∧ z ≤ 1) := by
  refine ct_of (d := d + 8) (k := 1) (L := [some (R 6), some (I p1), none]) rfl rfl rfl ?_
  have hF0 := Fr.rf fm_m157_6v5 M0
  generalize hQ : (qI fun z M => Pw M ∧ Fr fm_m157_6v5 M0 M ∧ 0 ≤ z ∧ z ≤ 1) = Q
  refine wk_al0 r157_0 (wk_il1 r157_1 (wk_cv2 r157_2 kc_6_166 rfl (m166_6v5 _ M0 p1 hP0 (by omega) (by omega)) (cqI ?_)))
  rintro v5 M1 ⟨hP2, hQ3, h6, h7⟩
  have hF4 : Fr fm_m157_6v5 M0 M1 := hF0.tr hQ3 rfl
  refine wk_ifne r157_5 ⟨by omega, by omega⟩ ?_ ?_
  · intro h8
    refine wk_c1 r157_10 (wk_is2 r157_11 rfl ?_)
    have c12_359 : ∀ (k359 : Nat) (M327 : Mm) (v324 : Int), (500 - v324).toNat = k359 → Pw M327 → Fr fm_m157_6v5 M0 M327 → 0 ≤ v324 → v324 ≤ 500 → Wp B (d + 8) 157 12 [some (R 6), some (I p1), some (I v324)] [] M327 Q := by
      refine lp_ind ?_
      intro k359 ih359 M327 v324 hk359 hP328 hF329 h325 h326
      refine wk_il2 r157_12 (wk_c3 r157_13 ?_)
      refine wk_icge r157_16 ⟨by omega, by omega⟩ (by decide) ?_ ?_
      · intro h330
        refine wk_c1 r157_53 ?_
        subst hQ; exact wk_zret r157_54 (by decide) (⟨rfl, _, rfl, hP328, hF329, by omega, by omega⟩)
      · intro h331
        refine wk_al0 r157_19 (wk_c8 r157_20 (wk_cv2 r157_22 kc_6_175 rfl (m175_6 _ M327 4125 hP328 (by decide)) (cqI ?_)))
        rintro v336 M332 ⟨hP333, hQ334, h337, h338⟩
        have hF335 : Fr fm_m157_6v5 M0 M332 := hF329.tr hQ334 rfl
        refine wk_ifeq r157_25 ⟨by omega, by omega⟩ ?_ ?_
        · intro h339
          refine wk_c1 r157_53 ?_
          subst hQ; exact wk_zret r157_54 (by decide) (⟨rfl, _, rfl, hP333, hF335, by omega, by omega⟩)
        · intro h340
          refine wk_al0 r157_28 (wk_il1 r157_29 (wk_cv2 r157_30 kc_6_166 rfl (m166_6v5 _ M332 p1 hP333 (by omega) (by omega)) (cqI ?_)))
          rintro v345 M341 ⟨hP342, hQ343, h346, h347⟩
          have hF344 : Fr fm_m157_6v5 M0 M341 := hF335.tr hQ343 rfl
          refine wk_ifeq r157_33 ⟨by omega, by omega⟩ ?_ ?_
          · intro h348
            refine wk_c1 r157_45 ?_
            subst hQ; exact wk_zret r157_46 (by decide) (⟨rfl, _, rfl, hP342, hF344, by omega, by omega⟩)
          · intro h349
            refine wk_al0 r157_36 (wk_c1 r157_37 (wk_c1 r157_38 (wk_cv3 r157_39 kc_6_172 rfl (m172_6 _ M341 2 0 hP342 (by decide) (by decide) (by decide) (by decide) (by first | assumption | omega | (unfold stepok; omega))) (cqI ?_))))
            rintro v354 M350 ⟨hP351, hQ352, h355, h356⟩
            have hF353 : Fr fm_m157_6v5 M0 M350 := hF344.tr hQ352 rfl
            refine wk_ifne r157_42 ⟨by omega, by omega⟩ ?_ ?_
            · intro h357
              refine wk_inc2 r157_47 rfl (wk_goto r157_50 ?_)
              exact wp_fg (le_s (le_s (le_s le_0))) (ih359 (500 - (v324 + 1)).toNat (by omega) M350 (v324 + 1) rfl hP351 hF353 (by omega) (by omega))
            · intro h358
              exfalso
              omega
    exact wp_fg (le_s (le_s (le_s le_0))) (c12_359 _ M1 0 rfl hP2 hF4 (by omega) (by omega))
  · intro h360
    refine wk_c1 r157_8 ?_
    subst hQ; exact wk_zret r157_9 (by decide) (⟨rfl, _, rfl, hP2, hF4, by omega, by omega⟩)
def fm_m158_6v5 : Nat := 3941068970131456
/-- IslandHall$Parser.expr -/
theorem m158_6v5 {B : eB} (d : Nat) (M0 : Mm) (p1 : Int) (hP0 : Pw M0) (l1 : 5 ≤ p1) (u1 : p1 ≤ 5) : Ct B (d + 10) 158 [R 6, I p1] M0 (qI fun z M => Pw M ∧ Fr fm_m158_6v5 M0 M ∧ 0 ≤ z ∧ z ≤ 1) := by
  refine ct_of (d := d + 9) (k := 1) (L := [some (R 6), some (I p1), none]) rfl rfl rfl ?_
  have hF0 := Fr.rf fm_m158_6v5 M0
  generalize hQ : (qI fun z M => Pw M ∧ Fr fm_m158_6v5 M0 M ∧ 0 ≤ z ∧ z ≤ 1) = Q
  refine wk_al0 r158_0 (wk_cv1 r158_1 kc_6_155 rfl (m155_6 _ M0 hP0) (cqI ?_))
  rintro v5 M1 ⟨hP2, hQ3, h6, h7⟩
  obtain rfl := Fr.same hQ3
  refine wk_ifne r158_4 ⟨by omega, by omega⟩ ?_ ?_
  · intro h8
    refine wk_il1 r158_13 (wk_c2 r158_14 ?_)
    refine wk_iclt r158_16 ⟨by omega, by omega⟩ (by decide) ?_ ?_
    · intro h9
      refine wk_al0 r158_25 (wk_il1 r158_26 (wk_cv2 r158_27 kc_6_157 rfl (m157_6v5 _ M0 p1 hP0 (by omega) (by omega)) (cqI ?_)))
      rintro v14 M10 ⟨hP11, hQ12, h15, h16⟩
      have hF13 : Fr fm_m158_6v5 M0 M10 := hF0.tr hQ12 rfl
      refine wk_ifne r158_30 ⟨by omega, by omega⟩ ?_ ?_
      · intro h17
        refine wk_c1 r158_35 (wk_is2 r158_36 rfl ?_)
        have c37_368 : ∀ (k368 : Nat) (M336 : Mm) (v333 : Int), (500 - v333).toNat = k368 → Pw M336 → Fr fm_m158_6v5 M0 M336 → 0 ≤ v333 → v333 ≤ 500 → Wp B (d + 9) 158 37 [some (R 6), some (I p1), some (I v333)] [] M336 Q := by
          refine lp_ind ?_
          intro k368 ih368 M336 v333 hk368 hP337 hF338 h334 h335
          refine wk_il2 r158_37 (wk_c3 r158_38 ?_)
          refine wk_icge r158_41 ⟨by omega, by omega⟩ (by decide) ?_ ?_
          · intro h339
            refine wk_c1 r158_78 ?_
            subst hQ; exact wk_zret r158_79 (by decide) (⟨rfl, _, rfl, hP337, hF338, by omega, by omega⟩)
          · intro h340
            refine wk_al0 r158_44 (wk_c8 r158_45 (wk_cv2 r158_47 kc_6_175 rfl (m175_6 _ M336 4126 hP337 (by decide)) (cqI ?_)))
            rintro v345 M341 ⟨hP342, hQ343, h346, h347⟩
            have hF344 : Fr fm_m158_6v5 M0 M341 := hF338.tr hQ343 rfl
            refine wk_ifeq r158_50 ⟨by omega, by omega⟩ ?_ ?_
            · intro h348
              refine wk_c1 r158_78 ?_
              subst hQ; exact wk_zret r158_79 (by decide) (⟨rfl, _, rfl, hP342, hF344, by omega, by omega⟩)
            · intro h349
              refine wk_al0 r158_53 (wk_il1 r158_54 (wk_cv2 r158_55 kc_6_157 rfl (m157_6v5 _ M341 p1 hP342 (by omega) (by omega)) (cqI ?_)))
              rintro v354 M350 ⟨hP351, hQ352, h355, h356⟩
              have hF353 : Fr fm_m158_6v5 M0 M350 := hF344.tr hQ352 rfl
              refine wk_ifeq r158_58 ⟨by omega, by omega⟩ ?_ ?_
              · intro h357
                refine wk_c1 r158_70 ?_
                subst hQ; exact wk_zret r158_71 (by decide) (⟨rfl, _, rfl, hP351, hF353, by omega, by omega⟩)
              · intro h358
                refine wk_al0 r158_61 (wk_c1 r158_62 (wk_c1 r158_63 (wk_cv3 r158_64 kc_6_172 rfl (m172_6 _ M350 3 0 hP351 (by decide) (by decide) (by decide) (by decide) (by first | assumption | omega | (unfold stepok; omega))) (cqI ?_))))
                rintro v363 M359 ⟨hP360, hQ361, h364, h365⟩
                have hF362 : Fr fm_m158_6v5 M0 M359 := hF353.tr hQ361 rfl
                refine wk_ifne r158_67 ⟨by omega, by omega⟩ ?_ ?_
                · intro h366
                  refine wk_inc2 r158_72 rfl (wk_goto r158_75 ?_)
                  exact wp_fg (le_s (le_s (le_s le_0))) (ih368 (500 - (v333 + 1)).toNat (by omega) M359 (v333 + 1) rfl hP360 hF362 (by omega) (by omega))
                · intro h367
                  exfalso
                  omega
        exact wp_fg (le_s (le_s (le_s le_0))) (c37_368 _ M10 0 rfl hP11 hF13 (by omega) (by omega))
      · intro h369
        refine wk_c1 r158_33 ?_
        subst hQ; exact wk_zret r158_34 (by decide) (⟨rfl, _, rfl, hP11, hF13, by omega, by omega⟩)
    · intro h370
      exfalso
      omega
  · intro h371
    refine wk_al0 r158_7 (wk_c1 r158_8 (wk_cv2 r158_9 kc_6_159 rfl (m159_6 _ M0 1 hP0 (by decide) (by decide)) (cqI ?_)))
    rintro v376 M372 ⟨hP373, hQ374, h377, h378⟩
    have hF375 : Fr fm_m158_6v5 M0 M372 := hF0.tr hQ374 rfl
    subst hQ; exact wk_zret r158_12 ⟨by omega, by omega⟩ (⟨rfl, _, rfl, hP373, hF375, by omega, by omega⟩)
def fm_m174_6v1 : Nat := 3941061990809600
/-- IslandHall$Parser.takeSign -/
theorem m174_6v1 {B : eB} (d : Nat) (M0 : Mm) (p1 : Int) (hP0 : Pw M0) (l1 : 40 ≤ p1) (u1 : p1 ≤ 41) : Ct B (d + 3) 174 [R 6, I p1] M0 (qI fun z M => Pw M ∧ Fr fm_m174_6v1 M0 M ∧ 0 ≤ z ∧ z ≤ 1) := by
  refine ct_of (d := d + 2) (k := 0) (L := [some (R 6), some (I p1)]) rfl rfl rfl ?_
  have hF0 := Fr.rf fm_m174_6v1 M0
  generalize hQ : (qI fun z M => Pw M ∧ Fr fm_m174_6v1 M0 M ∧ 0 ≤ z ∧ z ≤ 1) = Q
  refine wk_al0 r174_0 (wk_getfr r174_1 fd_6_0 (br_6_0 hP0) (wk_il1 r174_4 (wk_cv2 r174_5 kc_9_238 rfl (m238_9v1 _ M0 p1 hP0 (by omega) (by omega)) (cqI ?_))))
  rintro v5 M1 ⟨hP2, hQ3, h6, h7⟩
  obtain rfl := Fr.same hQ3
  refine wk_ifne r174_8 ⟨by omega, by omega⟩ ?_ ?_
  · intro h8
    refine wk_al0 r174_17 (wk_getfr r174_18 fd_6_0 (br_6_0 hP0) (wk_cv1 r174_21 kc_9_241 rfl (m241_9 _ M0 hP0) (cqV ?_)))
    rintro M9 ⟨hP10, hQ11⟩
    have hF12 : Fr fm_m174_6v1 M0 M9 := hF0.tr hQ11 rfl
    refine wk_c1 r174_24 ?_
    subst hQ; exact wk_zret r174_25 (by decide) (⟨rfl, _, rfl, hP10, hF12, by omega, by omega⟩)
  · intro h13
    refine wk_al0 r174_11 (wk_c1 r174_12 (wk_cv2 r174_13 kc_6_159 rfl (m159_6 _ M0 1 hP0 (by decide) (by decide)) (cqI ?_)))
    rintro v18 M14 ⟨hP15, hQ16, h19, h20⟩
    have hF17 : Fr fm_m174_6v1 M0 M14 := hF0.tr hQ16 rfl
    subst hQ; exact wk_zret r174_16 ⟨by omega, by omega⟩ (⟨rfl, _, rfl, hP15, hF17, by omega, by omega⟩)
def fm_m168_6v4 : Nat := 3941068970131456
/-- IslandHall$Parser.parenthesis -/
theorem m168_6v4 {B : eB} (d : Nat) (M0 : Mm) (p1 : Int) (hP0 : Pw M0) (l1 : 4 ≤ p1) (u1 : p1 ≤ 4) : Ct B (d + 11) 168 [R 6, I p1] M0 (qI fun z M => Pw M ∧ Fr fm_m168_6v4 M0 M ∧ 0 ≤ z ∧ z ≤ 1) := by
  refine ct_of (d := d + 10) (k := 0) (L := [some (R 6), some (I p1)]) rfl rfl rfl ?_
  have hF0 := Fr.rf fm_m168_6v4 M0
  generalize hQ : (qI fun z M => Pw M ∧ Fr fm_m168_6v4 M0 M ∧ 0 ≤ z ∧ z ≤ 1) = Q
  refine wk_al0 r168_0 (wk_c2 r168_1 (wk_cv2 r168_3 kc_6_174 rfl (m174_6 _ M0 40 hP0 (by decide) (by decide)) (cqI ?_)))
  rintro v5 M1 ⟨hP2, hQ3, h6, h7⟩
  have hF4 : Fr fm_m168_6v4 M0 M1 := hF0.tr hQ3 rfl
  refine wk_ifeq r168_6 ⟨by omega, by omega⟩ ?_ ?_
  · intro h8
    refine wk_c1 r168_32 ?_
    subst hQ; exact wk_zret r168_33 (by decide) (⟨rfl, _, rfl, hP2, hF4, by omega, by omega⟩)
  · intro h9
    refine wk_al0 r168_9 (wk_il1 r168_10 (wk_c1 r168_11 (wk_iadd r168_12 (wk_cv2 r168_13 kc_6_158 rfl (m158_6v5 _ M1 (p1 + 1) hP2 (by omega) (by omega)) (cqI ?_)))))
    rintro v14 M10 ⟨hP11, hQ12, h15, h16⟩
    have hF13 : Fr fm_m168_6v4 M0 M10 := hF4.tr hQ12 rfl
    refine wk_ifeq r168_16 ⟨by omega, by omega⟩ ?_ ?_
    · intro h17
      refine wk_c1 r168_32 ?_
      subst hQ; exact wk_zret r168_33 (by decide) (⟨rfl, _, rfl, hP11, hF13, by omega, by omega⟩)
    · intro h18
      refine wk_al0 r168_19 (wk_c2 r168_20 (wk_cv2 r168_22 kc_6_174 rfl (m174_6v1 _ M10 41 hP11 (by decide) (by decide)) (cqI ?_)))
      rintro v23 M19 ⟨hP20, hQ21, h24, h25⟩
      have hF22 : Fr fm_m168_6v4 M0 M19 := hF13.tr hQ21 rfl
      refine wk_ifeq r168_25 ⟨by omega, by omega⟩ ?_ ?_
      · intro h26
        refine wk_c1 r168_32 ?_
        subst hQ; exact wk_zret r168_33 (by decide) (⟨rfl, _, rfl, hP20, hF22, by omega, by omega⟩)
      · intro h27
        refine wk_c1 r168_28 (wk_goto r168_29 ?_)
        subst hQ; exact wk_zret r168_33 (by decide) (⟨rfl, _, rfl, hP20, hF22, by omega, by omega⟩)
def fm_m139 : Nat := 5905580032
/-- IslandHall$Code.addSays -/
theorem m139 {B : eB} (d : Nat) (M0 : Mm) (c0 : Int) (p1 : Int) (hP0 : Pw M0) (hC0 : isC c0) (l1 : 0 ≤ p1) (u1 : p1 ≤ 6) : Ct B (d + 2) 139 [R c0, I p1] M0 (qV fun M => Pw M ∧ Fr fm_m139 M0 M) := by
  refine ct_of (d := d + 1) (k := 0) (L := [some (R c0), some (I p1)]) rfl rfl rfl ?_
  have hF0 := Fr.rf fm_m139 M0
  generalize hQ : (qV fun M => Pw M ∧ Fr fm_m139 M0 M) = Q
  refine wk_al0 r139_0 (wk_c1 r139_1 (wk_il1 r139_2 (wk_cv3 r139_3 (kcC_138 hC0) rfl (m138 _ M0 c0 4 p1 hP0 hC0 (by decide) (by decide) (by omega) (by omega) (by first | assumption | omega | (unfold stepok; omega))) (cqV ?_))))
  rintro M1 ⟨hP2, hQ3⟩
  have hF4 : Fr fm_m139 M0 M1 := hF0.tr hQ3 rfl
  refine wk_al0 r139_6 (wk_dupr r139_7 (wk_getfb r139_8 (fdC_2 hC0) (bC_2 hP2 hC0) ?_))
  intro v5 h7 h8 e6
  refine wk_c1 r139_11 (wk_il1 r139_12 (wk_shl1 6 64 r139_13 ⟨by omega, by omega⟩ ⟨pwl_6, by decide⟩ ?_))
  intro v9 h10 h11 h12
  refine wk_ior 7 128 r139_14 (by decide) ⟨by omega, by omega⟩ ⟨by omega, by omega⟩ ?_
  intro v13 h14 h15 h16 h17 h18
  refine wk_putfi81 r139_15 (fdC_2 hC0) (wk_nw (g_c2 hC0) rfl hP2 hF4 (uC_2 hC0 ⟨by omega, by omega⟩) ?_)
  intro M19 hP20 hF21 e22
  subst hQ; exact wk_ret r139_18 (⟨rfl, hP20, hF21⟩)
def fm_m152_6v4 : Nat := 3941070043873280
/-- IslandHall$Parser.aboutSomeone -/
theorem m152_6v4 {B : eB} (d : Nat) (M0 : Mm) (p1 : Int) (hP0 : Pw M0) (l1 : 4 ≤ p1) (u1 : p1 ≤ 4) : Ct B (d + 12) 152 [R 6, I p1] M0 (qI fun z M => Pw M ∧ Fr fm_m152_6v4 M0 M ∧ 0 ≤ z ∧ z ≤ 1) := by
  refine ct_of (d := d + 11) (k := 2) (L := [some (R 6), some (I p1), none, none]) rfl rfl rfl ?_
  have hF0 := Fr.rf fm_m152_6v4 M0
  generalize hQ : (qI fun z M => Pw M ∧ Fr fm_m152_6v4 M0 M ∧ 0 ≤ z ∧ z ≤ 1) = Q
  refine wk_al0 r152_0 (wk_cv1 r152_1 kc_6_165 rfl (m165_6 _ M0 hP0) (cqI ?_))
  rintro v5 M1 ⟨hP2, hQ3, h6, h7⟩
  have hF4 : Fr fm_m152_6v4 M0 M1 := hF0.tr hQ3 rfl
  refine wk_is2 r152_4 rfl (wk_il2 r152_5 (wk_c1 r152_6 ?_))
  refine wk_icne r152_7 ⟨by omega, by omega⟩ (by decide) ?_ ?_
  · intro h8
    refine wk_al0 r152_12 (wk_c8 r152_13 (wk_cv2 r152_15 kc_6_175 rfl (m175_6 _ M1 4111 hP2 (by decide)) (cqI ?_)))
    rintro v13 M9 ⟨hP10, hQ11, h14, h15⟩
    have hF12 : Fr fm_m152_6v4 M0 M9 := hF4.tr hQ11 rfl
    refine wk_ifeq r152_18 ⟨by omega, by omega⟩ ?_ ?_
    · intro h16
      refine wk_al0 r152_35 (wk_c8 r152_36 (wk_cv2 r152_38 kc_6_175 rfl (m175_6 _ M9 4112 hP10 (by decide)) (cqI ?_)))
      rintro v21 M17 ⟨hP18, hQ19, h22, h23⟩
      have hF20 : Fr fm_m152_6v4 M0 M17 := hF12.tr hQ19 rfl
      refine wk_ifeq r152_41 ⟨by omega, by omega⟩ ?_ ?_
      · intro h24
        refine wk_al0 r152_73 (wk_c8 r152_74 (wk_cv2 r152_76 kc_6_175 rfl (m175_6 _ M17 4113 hP18 (by decide)) (cqI ?_)))
        rintro v29 M25 ⟨hP26, hQ27, h30, h31⟩
        have hF28 : Fr fm_m152_6v4 M0 M25 := hF20.tr hQ27 rfl
        refine wk_ifne r152_79 ⟨by omega, by omega⟩ ?_ ?_
        · intro h32
          refine wk_al0 r152_88 (wk_il1 r152_89 (wk_cv2 r152_90 kc_6_168 rfl (m168_6v4 _ M25 p1 hP26 (by omega) (by omega)) (cqI ?_)))
          rintro v37 M33 ⟨hP34, hQ35, h38, h39⟩
          have hF36 : Fr fm_m152_6v4 M0 M33 := hF28.tr hQ35 rfl
          refine wk_ifne r152_93 ⟨by omega, by omega⟩ ?_ ?_
          · intro h40
            refine wk_al0 r152_98 ?_
            obtain ⟨v41, e42⟩ : ∃ v, M33 6 2 = v := ⟨_, rfl⟩
            have hC43 : isC v41 := by have := pcE hP34; rw [e42] at this; exact this
            refine wk_getfr r152_99 fd_6_2 e42 (wk_il2 r152_102 (wk_cv2 r152_103 (kcC_139 hC43) rfl (m139 _ M33 v41 v5 hP34 hC43 (by omega) (by omega)) (cqV ?_)))
            rintro M44 ⟨hP45, hQ46⟩
            have hF47 : Fr fm_m152_6v4 M0 M44 := hF36.tr hQ46 rfl
            refine wk_c1 r152_106 ?_
            subst hQ; exact wk_zret r152_107 (by decide) (⟨rfl, _, rfl, hP45, hF47, by omega, by omega⟩)
          · intro h48
            refine wk_c1 r152_96 ?_
            subst hQ; exact wk_zret r152_97 (by decide) (⟨rfl, _, rfl, hP34, hF36, by omega, by omega⟩)
        · intro h49
          refine wk_al0 r152_82 (wk_c1 r152_83 (wk_cv2 r152_84 kc_6_159 rfl (m159_6 _ M25 1 hP26 (by decide) (by decide)) (cqI ?_)))
          rintro v54 M50 ⟨hP51, hQ52, h55, h56⟩
          have hF53 : Fr fm_m152_6v4 M0 M50 := hF28.tr hQ52 rfl
          subst hQ; exact wk_zret r152_87 ⟨by omega, by omega⟩ (⟨rfl, _, rfl, hP51, hF53, by omega, by omega⟩)
      · intro h57
        refine wk_al0 r152_44 (wk_cv1 r152_45 kc_6_165 rfl (m165_6 _ M17 hP18) (cqI ?_))
        rintro v62 M58 ⟨hP59, hQ60, h63, h64⟩
        have hF61 : Fr fm_m152_6v4 M0 M58 := hF20.tr hQ60 rfl
        refine wk_is3 r152_48 rfl (wk_il3 r152_49 (wk_c1 r152_50 ?_))
        refine wk_iceq r152_51 ⟨by omega, by omega⟩ (by decide) ?_ ?_
        · intro h65
          refine wk_c1 r152_71 ?_
          subst hQ; exact wk_zret r152_72 (by decide) (⟨rfl, _, rfl, hP59, hF61, by omega, by omega⟩)
        · intro h66
          refine wk_al0 r152_54 (wk_c1 r152_55 (wk_il2 r152_56 (wk_c1 r152_57 (wk_ishlc r152_58 (by decide) pwl_3 (wk_il3 r152_59 (wk_iord2 3 8 r152_60 (by decide) ⟨by omega, by omega⟩ ⟨by omega, by omega, by omega⟩ (wk_cv3 r152_61 kc_6_172 rfl (m172_6 _ M58 5 ((v5 * 8) + v62) hP59 (by decide) (by decide) (by omega) (by omega) (by first | assumption | omega | (unfold stepok; omega))) (cqI ?_))))))))
          rintro v71 M67 ⟨hP68, hQ69, h72, h73⟩
          have hF70 : Fr fm_m152_6v4 M0 M67 := hF61.tr hQ69 rfl
          refine wk_ifeq r152_64 ⟨by omega, by omega⟩ ?_ ?_
          · intro h74
            exfalso
            omega
          · intro h75
            refine wk_c1 r152_67 (wk_goto r152_68 ?_)
            subst hQ; exact wk_zret r152_72 (by decide) (⟨rfl, _, rfl, hP68, hF70, by omega, by omega⟩)
    · intro h76
      refine wk_al0 r152_21 (wk_c1 r152_22 (wk_il2 r152_23 (wk_c1 r152_24 (wk_imul r152_25 (wk_iadd r152_26 (wk_al0 r152_27 (wk_cv1 r152_28 kc_6_173 rfl (m173_6 _ M9 hP10) (cqI ?_))))))))
      rintro v81 M77 ⟨hP78, hQ79, h82, h83⟩
      have hF80 : Fr fm_m152_6v4 M0 M77 := hF12.tr hQ79 rfl
      refine wk_cv3 r152_31 kc_6_171 rfl (m171_6v3 _ M77 (0 + (v5 * 5)) v81 hP78 (by omega) (by omega) (by omega) (by omega)) (cqI ?_)
      rintro v88 M84 ⟨hP85, hQ86, h89, h90⟩
      have hF87 : Fr fm_m152_6v4 M0 M84 := hF80.tr hQ86 rfl
      subst hQ; exact wk_zret r152_34 ⟨by omega, by omega⟩ (⟨rfl, _, rfl, hP85, hF87, by omega, by omega⟩)
  · intro h91
    refine wk_c1 r152_10 ?_
    subst hQ; exact wk_zret r152_11 (by decide) (⟨rfl, _, rfl, hP2, hF4, by omega, by omega⟩)
def fm_m153_6v4 : Nat := 3941070043873280
/-- IslandHall$Parser.atom -/
theorem m153_6v4 {B : eB} (d : Nat) (M0 : Mm) (p1 : Int) (hP0 : Pw M0) (l1 : 4 ≤ p1) (u1 : p1 ≤ 4) : Ct B (d + 13) 153 [R 6, I p1] M0 (qI fun z M => Pw M ∧ Fr fm_m153_6v4 M0 M ∧ 0 ≤ z ∧ z ≤ 1) := by
  refine ct_of (d := d + 12) (k := 0) (L := [some (R 6), some (I p1)]) rfl rfl rfl ?_
  have hF0 := Fr.rf fm_m153_6v4 M0
  generalize hQ : (qI fun z M => Pw M ∧ Fr fm_m153_6v4 M0 M ∧ 0 ≤ z ∧ z ≤ 1) = Q
  refine wk_al0 r153_0 (wk_getfr r153_1 fd_6_0 (br_6_0 hP0) (wk_cv1 r153_4 kc_9_237 rfl (m237_9 _ M0 hP0) (cqI ?_)))
  rintro v7 M1 ⟨hP2, hQ3, h8, h9, h5, h6⟩
  obtain rfl := Fr.same hQ3
  obtain ⟨v10, e11⟩ : ∃ v, M0 9 2 = v := ⟨_, rfl⟩
  have h12 := bf_9_2 hP0; rw [e11] at h12
  obtain ⟨v13, e14⟩ : ∃ v, M0 9 3 = v := ⟨_, rfl⟩
  have h15 := bf_9_3 hP0; rw [e14] at h15
  refine wk_ifeq r153_7 ⟨by omega, by omega⟩ ?_ ?_
  · intro h16
    refine wk_al0 r153_16 (wk_c8 r153_17 (wk_cv2 r153_19 kc_6_175 rfl (m175_6 _ M0 4114 hP0 (by decide)) (cqI ?_)))
    rintro v21 M17 ⟨hP18, hQ19, h22, h23⟩
    have hF20 : Fr fm_m153_6v4 M0 M17 := hF0.tr hQ19 rfl
    refine wk_ifeq r153_22 ⟨by omega, by omega⟩ ?_ ?_
    · intro h24
      refine wk_al0 r153_38 (wk_c8 r153_39 (wk_cv2 r153_41 kc_6_175 rfl (m175_6 _ M17 4115 hP18 (by decide)) (cqI ?_)))
      rintro v29 M25 ⟨hP26, hQ27, h30, h31⟩
      have hF28 : Fr fm_m153_6v4 M0 M25 := hF20.tr hQ27 rfl
      refine wk_ifeq r153_44 ⟨by omega, by omega⟩ ?_ ?_
      · intro h32
        refine wk_al0 r153_61 (wk_c8 r153_62 (wk_cv2 r153_64 kc_6_175 rfl (m175_6 _ M25 4116 hP26 (by decide)) (cqI ?_)))
        rintro v37 M33 ⟨hP34, hQ35, h38, h39⟩
        have hF36 : Fr fm_m153_6v4 M0 M33 := hF28.tr hQ35 rfl
        refine wk_ifeq r153_67 ⟨by omega, by omega⟩ ?_ ?_
        · intro h40
          refine wk_al0 r153_83 (wk_c8 r153_84 (wk_cv2 r153_86 kc_6_175 rfl (m175_6 _ M33 4117 hP34 (by decide)) (cqI ?_)))
          rintro v45 M41 ⟨hP42, hQ43, h46, h47⟩
          have hF44 : Fr fm_m153_6v4 M0 M41 := hF36.tr hQ43 rfl
          refine wk_ifeq r153_89 ⟨by omega, by omega⟩ ?_ ?_
          · intro h48
            refine wk_al0 r153_97 (wk_c8 r153_98 (wk_cv2 r153_100 kc_6_175 rfl (m175_6 _ M41 4118 hP42 (by decide)) (cqI ?_)))
            rintro v53 M49 ⟨hP50, hQ51, h54, h55⟩
            have hF52 : Fr fm_m153_6v4 M0 M49 := hF44.tr hQ51 rfl
            refine wk_ifeq r153_103 ⟨by omega, by omega⟩ ?_ ?_
            · intro h56
              refine wk_al0 r153_117 (wk_c1 r153_118 (wk_cv2 r153_119 kc_6_159 rfl (m159_6 _ M49 1 hP50 (by decide) (by decide)) (cqI ?_)))
              rintro v61 M57 ⟨hP58, hQ59, h62, h63⟩
              have hF60 : Fr fm_m153_6v4 M0 M57 := hF52.tr hQ59 rfl
              subst hQ; exact wk_zret r153_122 ⟨by omega, by omega⟩ (⟨rfl, _, rfl, hP58, hF60, by omega, by omega⟩)
            · intro h64
              refine wk_al0 r153_106 (wk_al0 r153_107 (wk_cv1 r153_108 kc_6_173 rfl (m173_6 _ M49 hP50) (cqI ?_)))
              rintro v69 M65 ⟨hP66, hQ67, h70, h71⟩
              have hF68 : Fr fm_m153_6v4 M0 M65 := hF52.tr hQ67 rfl
              refine wk_cv2 r153_111 kc_6_163 rfl (m163_6 _ M65 v69 hP66 (by omega) (by omega)) (cqI ?_)
              rintro v76 M72 ⟨hP73, hQ74, h77, h78⟩
              have hF75 : Fr fm_m153_6v4 M0 M72 := hF68.tr hQ74 rfl
              refine wk_goto r153_114 ?_
              subst hQ; exact wk_zret r153_122 ⟨by omega, by omega⟩ (⟨rfl, _, rfl, hP73, hF75, by omega, by omega⟩)
          · intro h79
            refine wk_al0 r153_92 (wk_cv1 r153_93 kc_6_176 rfl (m176_6 _ M41 hP42) (cqI ?_))
            rintro v84 M80 ⟨hP81, hQ82, h85, h86⟩
            have hF83 : Fr fm_m153_6v4 M0 M80 := hF44.tr hQ82 rfl
            subst hQ; exact wk_zret r153_96 ⟨by omega, by omega⟩ (⟨rfl, _, rfl, hP81, hF83, by omega, by omega⟩)
        · intro h87
          refine wk_al0 r153_70 (wk_c2 r153_71 (wk_al0 r153_73 (wk_c1 r153_74 (wk_c1 r153_75 (wk_cv3 r153_76 kc_6_167 rfl (m167_6v1 _ M33 0 1 hP34 (by decide) (by decide) (by decide) (by decide)) (cqI ?_))))))
          rintro v92 M88 ⟨hP89, hQ90, h93, h94⟩
          have hF91 : Fr fm_m153_6v4 M0 M88 := hF36.tr hQ90 rfl
          refine wk_cv3 r153_79 kc_6_171 rfl (m171_6 _ M88 46 v92 hP89 (by decide) (by decide) (by omega) (by omega)) (cqI ?_)
          rintro v99 M95 ⟨hP96, hQ97, h100, h101⟩
          have hF98 : Fr fm_m153_6v4 M0 M95 := hF91.tr hQ97 rfl
          subst hQ; exact wk_zret r153_82 ⟨by omega, by omega⟩ (⟨rfl, _, rfl, hP96, hF98, by omega, by omega⟩)
      · intro h102
        refine wk_al0 r153_47 (wk_c2 r153_48 (wk_al0 r153_50 (wk_c1 r153_51 (wk_c2 r153_52 (wk_cv3 r153_54 kc_6_167 rfl (m167_6v2 _ M25 0 6 hP26 (by decide) (by decide) (by decide) (by decide)) (cqI ?_))))))
        rintro v107 M103 ⟨hP104, hQ105, h108, h109⟩
        have hF106 : Fr fm_m153_6v4 M0 M103 := hF28.tr hQ105 rfl
        refine wk_cv3 r153_57 kc_6_171 rfl (m171_6v1 _ M103 39 v107 hP104 (by decide) (by decide) (by omega) (by omega)) (cqI ?_)
        rintro v114 M110 ⟨hP111, hQ112, h115, h116⟩
        have hF113 : Fr fm_m153_6v4 M0 M110 := hF106.tr hQ112 rfl
        subst hQ; exact wk_zret r153_60 ⟨by omega, by omega⟩ (⟨rfl, _, rfl, hP111, hF113, by omega, by omega⟩)
    · intro h117
      refine wk_al0 r153_25 (wk_c2 r153_26 (wk_al0 r153_28 (wk_c1 r153_29 (wk_c1 r153_30 (wk_cv3 r153_31 kc_6_167 rfl (m167_6v3 _ M17 0 3 hP18 (by decide) (by decide) (by decide) (by decide)) (cqI ?_))))))
      rintro v122 M118 ⟨hP119, hQ120, h123, h124⟩
      have hF121 : Fr fm_m153_6v4 M0 M118 := hF20.tr hQ120 rfl
      refine wk_cv3 r153_34 kc_6_171 rfl (m171_6v2 _ M118 35 v122 hP119 (by decide) (by decide) (by omega) (by omega)) (cqI ?_)
      rintro v129 M125 ⟨hP126, hQ127, h130, h131⟩
      have hF128 : Fr fm_m153_6v4 M0 M125 := hF121.tr hQ127 rfl
      subst hQ; exact wk_zret r153_37 ⟨by omega, by omega⟩ (⟨rfl, _, rfl, hP126, hF128, by omega, by omega⟩)
  · intro h132
    refine wk_al0 r153_10 (wk_il1 r153_11 (wk_cv2 r153_12 kc_6_152 rfl (m152_6v4 _ M0 p1 hP0 (by omega) (by omega)) (cqI ?_)))
    rintro v137 M133 ⟨hP134, hQ135, h138, h139⟩
    have hF136 : Fr fm_m153_6v4 M0 M133 := hF0.tr hQ135 rfl
    subst hQ; exact wk_zret r153_15 ⟨by omega, by omega⟩ (⟨rfl, _, rfl, hP134, hF136, by omega, by omega⟩)
def fm_m166_6v4 : Nat := 3941070043873280
/-- IslandHall$Parser.negation -/
theorem m166_6v4 {B : eB} (d : Nat) (M0 : Mm) (p1 : Int) (hP0 : Pw M0) (l1 : 4 ≤ p1) (u1 : p1 ≤ 4) : Ct B (d + 14) 166 [R 6, I p1] M0 (qI fun z M => Pw M ∧ Fr fm_m166_6v4 M0 M ∧ 0 ≤ z ∧ z ≤ 1) := by
  refine ct_of (d := d + 13) (k := 2) (L := [some (R 6), some (I p1), none, none]) rfl rfl rfl ?_
  have hF0 := Fr.rf fm_m166_6v4 M0
  generalize hQ : (qI fun z M => Pw M ∧ Fr fm_m166_6v4 M0 M ∧ 0 ≤ z ∧ z ≤ 1) = Q
  refine wk_c1 r166_0 (wk_is2 r166_1 rfl ?_)
  have c2_551 : ∀ (k551 : Nat) (M472 : Mm) (v469 : Int), (6 - v469).toNat = k551 → Pw M472 → Fr fm_m166_6v4 M0 M472 → 0 ≤ v469 → v469 ≤ 6 → Wp B (d + 13) 166 2 [some (R 6), some (I p1), some (I v469), none] [] M472 Q := by
    refine lp_ind ?_
    intro k551 ih551 M472 v469 hk551 hP473 hF474 h470 h471
    refine wk_il2 r166_2 (wk_c2 r166_3 ?_)
    have c23_550 : ∀ (M486 : Mm), Pw M486 → Fr fm_m166_6v4 M0 M486 → Wp B (d + 13) 166 23 [some (R 6), some (I p1), some (I v469), none] [] M486 Q := by
      intro M486 hP487 hF488
      refine wk_al0 r166_23 (wk_getfr r166_24 fd_6_0 (br_6_0 hP487) (wk_c8 r166_27 (wk_cv2 r166_29 kc_9_239 rfl (m239_9 _ M486 4119 hP487 (by decide)) (cqI ?_))))
      rintro v494 M489 ⟨hP490, hQ491, h495, h496, xh493⟩
      obtain rfl := Fr.same hQ491
      refine wk_ifeq r166_32 ⟨by omega, by omega⟩ ?_ ?_
      · intro h497
        refine wk_al0 r166_41 (wk_getfr r166_42 fd_6_0 (br_6_0 hP487) (wk_c2 r166_45 (wk_cv2 r166_47 kc_9_238 rfl (m238_9 _ M486 40 hP487 (by decide) (by decide)) (cqI ?_))))
        rintro v502 M498 ⟨hP499, hQ500, h503, h504⟩
        obtain rfl := Fr.same hQ500
        have c66_541 : ∀ (M524 : Mm) (v521 : Int), Pw M524 → Fr fm_m166_6v4 M0 M524 → 0 ≤ v521 → v521 ≤ 1 → Wp B (d + 13) 166 66 [some (R 6), none, some (I v469), none] [I v521] M524 Q := by
          intro M524 v521 hP525 hF526 h522 h523
          refine wk_is3 r166_66 rfl (wk_il3 r166_67 ?_)
          refine wk_ifeq r166_68 ⟨by omega, by omega⟩ ?_ ?_
          · intro h527
            refine wk_c1 r166_90 ?_
            subst hQ; exact wk_zret r166_91 (by decide) (⟨rfl, _, rfl, hP525, hF526, by omega, by omega⟩)
          · intro h528
            refine wk_il2 r166_71 (wk_c1 r166_72 (wk_iandc 1 2 r166_73 ⟨rfl, by decide⟩ rfl ?_))
            refine wk_ifeq r166_74 ⟨by omega, by omega⟩ ?_ ?_
            · intro h530
              refine wk_c1 r166_86 (wk_goto r166_87 ?_)
              subst hQ; exact wk_zret r166_91 (by decide) (⟨rfl, _, rfl, hP525, hF526, by omega, by omega⟩)
            · intro h531
              refine wk_al0 r166_77 (wk_c1 r166_78 (wk_c1 r166_79 (wk_cv3 r166_80 kc_6_172 rfl (m172_6 _ M524 1 0 hP525 (by decide) (by decide) (by decide) (by decide) (by first | assumption | omega | (unfold stepok; omega))) (cqI ?_))))
              rintro v536 M532 ⟨hP533, hQ534, h537, h538⟩
              have hF535 : Fr fm_m166_6v4 M0 M532 := hF526.tr hQ534 rfl
              refine wk_ifeq r166_83 ⟨by omega, by omega⟩ ?_ ?_
              · intro h539
                exfalso
                omega
              · intro h540
                refine wk_c1 r166_86 (wk_goto r166_87 ?_)
                subst hQ; exact wk_zret r166_91 (by decide) (⟨rfl, _, rfl, hP533, hF535, by omega, by omega⟩)
        refine wk_ifeq r166_50 ⟨by omega, by omega⟩ ?_ ?_
        · intro h505
          refine wk_al0 r166_61 (wk_il1 r166_62 (wk_cv2 r166_63 kc_6_153 rfl (m153_6v4 _ M486 p1 hP487 (by omega) (by omega)) (cqI ?_)))
          rintro v510 M506 ⟨hP507, hQ508, h511, h512⟩
          have hF509 : Fr fm_m166_6v4 M0 M506 := hF488.tr hQ508 rfl
          exact wp_fg (le_s (le_n (le_s (le_s le_0)))) (c66_541 M506 v510 hP507 hF509 (by omega) (by omega))
        · intro h513
          refine wk_al0 r166_53 (wk_il1 r166_54 (wk_cv2 r166_55 kc_6_168 rfl (m168_6v4 _ M486 p1 hP487 (by omega) (by omega)) (cqI ?_)))
          rintro v518 M514 ⟨hP515, hQ516, h519, h520⟩
          have hF517 : Fr fm_m166_6v4 M0 M514 := hF488.tr hQ516 rfl
          refine wk_goto r166_58 ?_
          exact wp_fg (le_s (le_n (le_s (le_s le_0)))) (c66_541 M514 v518 hP515 hF517 (by omega) (by omega))
      · intro h542
        refine wk_al0 r166_35 (wk_c1 r166_36 (wk_cv2 r166_37 kc_6_159 rfl (m159_6v1 _ M486 2 hP487 (by decide) (by decide)) (cqI ?_)))
        rintro v547 M543 ⟨hP544, hQ545, h548, h549⟩
        have hF546 : Fr fm_m166_6v4 M0 M543 := hF488.tr hQ545 rfl
        subst hQ; exact wk_zret r166_40 ⟨by omega, by omega⟩ (⟨rfl, _, rfl, hP544, hF546, by omega, by omega⟩)
    refine wk_icge r166_5 ⟨by omega, by omega⟩ (by decide) ?_ ?_
    · intro h475
      exact wp_fg (le_s (le_s (le_s (le_s le_0)))) (c23_550 M472 hP473 hF474)
    · intro h476
      refine wk_al0 r166_8 (wk_c8 r166_9 (wk_cv2 r166_11 kc_6_175 rfl (m175_6 _ M472 4119 hP473 (by decide)) (cqI ?_)))
      rintro v481 M477 ⟨hP478, hQ479, h482, h483⟩
      have hF480 : Fr fm_m166_6v4 M0 M477 := hF474.tr hQ479 rfl
      refine wk_ifeq r166_14 ⟨by omega, by omega⟩ ?_ ?_
      · intro h484
        exact wp_fg (le_s (le_s (le_s (le_s le_0)))) (c23_550 M477 hP478 hF480)
      · intro h485
        refine wk_inc2 r166_17 rfl (wk_goto r166_20 ?_)
        exact wp_fg (le_s (le_s (le_s (le_s le_0)))) (ih551 (6 - (v469 + 1)).toNat (by omega) M477 (v469 + 1) rfl hP478 hF480 (by omega) (by omega))
  exact wp_fg (le_s (le_s (le_s (le_s le_0)))) (c2_551 _ M0 0 rfl hP0 hF0 (by omega) (by omega))
