/-! ===== written by program (wip/layer3/model.py): contracts of methods ===== -/
def fm_m9093_739 : Nat := 3198183334179513849174334711124306039004150098954425584320512
/-- IslandHallModel.kind -/
theorem m9093_739 {B : eB} (d : Nat) (M0 : Mm) (x739_30 : Int) (x739_31 : Int) (x739_33 : Int) (x739_34 : Int) (x739_32 : Int) (x739_28 : Int) (hP0 : Pw M0) (ex739_30 : M0 739 30 = x739_30) (lx739_30 : 0 ≤ x739_30) (ux739_30 : x739_30 ≤ 500) (ex739_31 : M0 739 31 = x739_31) (lx739_31 : 0 ≤ x739_31) (ux739_31 : x739_31 ≤ 500) (ex739_33 : M0 739 33 = x739_33) (lx739_33 : 0 ≤ x739_33) (ux739_33 : x739_33 ≤ 500) (ex739_34 : M0 739 34 = x739_34) (lx739_34 : 0 ≤ x739_34) (ux739_34 : x739_34 ≤ 500) (ex739_32 : M0 739 32 = x739_32) (lx739_32 : 0 ≤ x739_32) (ux739_32 : x739_32 ≤ 4) (ex739_28 : M0 739 28 = x739_28) (lx739_28 : 0 ≤ x739_28) (ux739_28 : x739_28 ≤ 6) (rp0 : 0 ≤ x739_30 + (-1) * x739_31) (rp1 : 0 ≤ x739_31 + (-1) * x739_33 + (-1) * x739_34) (rp2 : 0 ≤ (-1) * x739_31 + x739_33 + x739_34) (rp3 : 0 ≤ 4 * x739_34 + (-1) * x739_32) (pp_TK : TK M0) : Ct B (d + 4) 93 [R 739] M0 (qI fun z M => Pw M ∧ Fr fm_m9093_739 M0 M ∧ (-1) ≤ z ∧ z ≤ 21 ∧ 0 ≤ M 739 30 + (-1) * (M 739 31) ∧ 0 ≤ M 739 31 + (-1) * (M 739 33) + (-1) * (M 739 34) ∧ 0 ≤ (-1) * (M 739 31) + M 739 33 + M 739 34 ∧ 0 ≤ 4 * (M 739 34) + (-1) * (M 739 32) ∧ 0 ≤ M 739 33 + (-1) * x739_33 ∧ 0 ≤ M 739 28 + (-1) * x739_28 ∧ 0 ≤ M 739 33 + (-1) * x739_33 + M 739 28 + (-1) ∧ 0 ≤ 4 + 21 * (M 739 28) + (-1) * z ∧ 0 ≤ z + M 739 28 ∧ (TK M)) := by
  refine ct_of (d := d + 3) (k := 1) (L := [some (R 739), none]) rfl rfl rfl ?_
  have hF0 := Fr.rf fm_m9093_739 M0
  generalize hQ : (qI fun z M => Pw M ∧ Fr fm_m9093_739 M0 M ∧ (-1) ≤ z ∧ z ≤ 21 ∧ 0 ≤ M 739 30 + (-1) * (M 739 31) ∧ 0 ≤ M 739 31 + (-1) * (M 739 33) + (-1) * (M 739 34) ∧ 0 ≤ (-1) * (M 739 31) + M 739 33 + M 739 34 ∧ 0 ≤ 4 * (M 739 34) + (-1) * (M 739 32) ∧ 0 ≤ M 739 33 + (-1) * x739_33 ∧ 0 ≤ M 739 28 + (-1) * x739_28 ∧ 0 ≤ M 739 33 + (-1) * x739_33 + M 739 28 + (-1) ∧ 0 ≤ 4 + 21 * (M 739 28) + (-1) * z ∧ 0 ≤ z + M 739 28 ∧ (TK M)) = Q
  refine wk_al0 r93_0 (wk_cv1 r93_1 kc_739_84 rfl (m9084_739 _ M0 x739_28 hP0 ex739_28 (by first | assumption | omega) (by first | assumption | omega)) (cqI ?_))
  rintro v7 M1 ⟨hP2, hQ3, h8, h9, h5, h6⟩
  obtain rfl := Fr.same hQ3
  have e10 := ex739_28
  refine wk_ifne r93_4 ⟨by omega, by omega⟩ ?_ ?_
  · intro h11
    refine wk_al0 r93_9 (wk_cv1 r93_10 kc_739_97 rfl (m9097_739 _ M0 x739_32 x739_34 hP0 ex739_32 (by first | assumption | omega) (by first | assumption | omega) ex739_34 (by first | assumption | omega) (by first | assumption | omega) pp_TK) (cqI ?_))
    rintro v17 M12 ⟨hP13, hQ14, h18, h19, h16⟩
    obtain rfl := Fr.same hQ14
    have e20 := ex739_34
    refine wk_is1 r93_13 rfl (wk_al0 r93_14 (wk_getfi r93_15 fd_739_32 ex739_32 (wk_c1 r93_18 ?_)))
    refine wk_iceq r93_19 ⟨by omega, by omega⟩ (by decide) ?_ ?_
    · intro h21
      refine wk_il1 r93_30 ?_
      refine wk_iflt r93_31 ⟨by omega, by omega⟩ ?_ ?_
      · intro h22
        refine wk_al0 r93_39 (wk_c1 r93_40 (wk_cv2 r93_41 kc_739_137 rfl (m9137_739 _ M0 3 x739_28 x739_33 hP0 (by decide) (by decide) ex739_28 (by first | assumption | omega) (by first | assumption | omega) ex739_33 (by first | assumption | omega) (by first | assumption | omega)) (cqV ?_)))
        rintro M23 ⟨hP24, hQ25, h27, h28⟩
        have hF26 : Fr fm_m9093_739 M0 M23 := hF0.tr hQ25 rfl
        obtain ⟨v29, e30⟩ : ∃ v, M23 739 28 = v := ⟨_, rfl⟩
        have h31 := bf_739_28 hP24; rw [e30] at h31
        refine wk_al0 r93_44 (wk_cv1 r93_45 kc_739_84 rfl (m9084_739 _ M23 v29 hP24 e30 (by first | assumption | omega) (by first | assumption | omega)) (cqI ?_))
        rintro v38 M32 ⟨hP33, hQ34, h39, h40, h36, h37⟩
        obtain rfl := Fr.same hQ34
        have e41 := e30
        refine wk_ifeq r93_48 ⟨by omega, by omega⟩ ?_ ?_
        · intro h42
          refine wk_il1 r93_55 ?_
          subst hQ; exact wk_iret r93_56 (⟨rfl, _, rfl, hP24, hF26, by omega, by omega, by have := ((hQ25.at g_739_30 rfl).trans ex739_30); have := ((hQ25.at g_739_31 rfl).trans ex739_31); omega, by have := ((hQ25.at g_739_31 rfl).trans ex739_31); have := ((hQ25.at g_739_33 rfl).trans ex739_33); have := ((hQ25.at g_739_34 rfl).trans ex739_34); omega, by have := ((hQ25.at g_739_31 rfl).trans ex739_31); have := ((hQ25.at g_739_33 rfl).trans ex739_33); have := ((hQ25.at g_739_34 rfl).trans ex739_34); omega, by have := ((hQ25.at g_739_34 rfl).trans ex739_34); have := ((hQ25.at g_739_32 rfl).trans ex739_32); omega, by have := ((hQ25.at g_739_33 rfl).trans ex739_33); omega, by have := e30; omega, by have := ((hQ25.at g_739_33 rfl).trans ex739_33); have := e30; omega, by have := e30; omega, by have := e30; omega, (TK_sm (Sm.fr hQ25 rfl) pp_TK)⟩)
        · intro h43
          exfalso
          omega
      · intro h44
        refine wk_il1 r93_34 (wk_c1 r93_35 ?_)
        refine wk_icle r93_36 ⟨by omega, by omega⟩ (by decide) ?_ ?_
        · intro h45
          refine wk_al0 r93_44 (wk_cv1 r93_45 kc_739_84 rfl (m9084_739 _ M0 x739_28 hP0 ex739_28 (by first | assumption | omega) (by first | assumption | omega)) (cqI ?_))
          rintro v52 M46 ⟨hP47, hQ48, h53, h54, h50, h51⟩
          obtain rfl := Fr.same hQ48
          have e55 := ex739_28
          refine wk_ifeq r93_48 ⟨by omega, by omega⟩ ?_ ?_
          · intro h56
            exfalso
            omega
          · intro h57
            refine wk_al0 r93_51 (wk_cv1 r93_52 kc_739_76 rfl (m9076_739 _ M0 x739_30 x739_31 hP0 ex739_30 (by first | assumption | omega) (by first | assumption | omega) ex739_31 (by first | assumption | omega) (by first | assumption | omega) (by omega)) (cqV ?_))
            rintro M58 ⟨hP59, hQ60, h62, h63, h64, h65, h66, pr67⟩
            have hF61 : Fr fm_m9093_739 M0 M58 := hF0.tr hQ60 rfl
            have e68 := ((hQ60.at g_739_30 rfl).trans ex739_30)
            obtain ⟨v69, e70⟩ : ∃ v, M58 739 31 = v := ⟨_, rfl⟩
            have h71 := bf_739_31 hP59; rw [e70] at h71
            obtain ⟨v72, e73⟩ : ∃ v, M58 739 33 = v := ⟨_, rfl⟩
            have h74 := bf_739_33 hP59; rw [e73] at h74
            obtain ⟨v75, e76⟩ : ∃ v, M58 739 34 = v := ⟨_, rfl⟩
            have h77 := bf_739_34 hP59; rw [e76] at h77
            obtain ⟨v78, e79⟩ : ∃ v, M58 739 32 = v := ⟨_, rfl⟩
            have h80 := bf_739_32 hP59; rw [e79] at h80
            refine wk_il1 r93_55 ?_
            subst hQ; exact wk_iret r93_56 (⟨rfl, _, rfl, hP59, hF61, by omega, by omega, by have := ((hQ60.at g_739_30 rfl).trans ex739_30); have := e70; omega, by have := e70; have := e73; have := e76; omega, by have := e70; have := e73; have := e76; omega, by have := e76; have := e79; omega, by have := e73; omega, by have := ((hQ60.at g_739_28 rfl).trans ex739_28); omega, by have := e73; have := ((hQ60.at g_739_28 rfl).trans ex739_28); omega, by have := ((hQ60.at g_739_28 rfl).trans ex739_28); omega, by have := ((hQ60.at g_739_28 rfl).trans ex739_28); omega, pr67⟩)
        · intro h81
          refine wk_al0 r93_39 (wk_c1 r93_40 (wk_cv2 r93_41 kc_739_137 rfl (m9137_739 _ M0 3 x739_28 x739_33 hP0 (by decide) (by decide) ex739_28 (by first | assumption | omega) (by first | assumption | omega) ex739_33 (by first | assumption | omega) (by first | assumption | omega)) (cqV ?_)))
          rintro M82 ⟨hP83, hQ84, h86, h87⟩
          have hF85 : Fr fm_m9093_739 M0 M82 := hF0.tr hQ84 rfl
          obtain ⟨v88, e89⟩ : ∃ v, M82 739 28 = v := ⟨_, rfl⟩
          have h90 := bf_739_28 hP83; rw [e89] at h90
          refine wk_al0 r93_44 (wk_cv1 r93_45 kc_739_84 rfl (m9084_739 _ M82 v88 hP83 e89 (by first | assumption | omega) (by first | assumption | omega)) (cqI ?_))
          rintro v97 M91 ⟨hP92, hQ93, h98, h99, h95, h96⟩
          obtain rfl := Fr.same hQ93
          have e100 := e89
          refine wk_ifeq r93_48 ⟨by omega, by omega⟩ ?_ ?_
          · intro h101
            refine wk_il1 r93_55 ?_
            subst hQ; exact wk_iret r93_56 (⟨rfl, _, rfl, hP83, hF85, by omega, by omega, by have := ((hQ84.at g_739_30 rfl).trans ex739_30); have := ((hQ84.at g_739_31 rfl).trans ex739_31); omega, by have := ((hQ84.at g_739_31 rfl).trans ex739_31); have := ((hQ84.at g_739_33 rfl).trans ex739_33); have := ((hQ84.at g_739_34 rfl).trans ex739_34); omega, by have := ((hQ84.at g_739_31 rfl).trans ex739_31); have := ((hQ84.at g_739_33 rfl).trans ex739_33); have := ((hQ84.at g_739_34 rfl).trans ex739_34); omega, by have := ((hQ84.at g_739_34 rfl).trans ex739_34); have := ((hQ84.at g_739_32 rfl).trans ex739_32); omega, by have := ((hQ84.at g_739_33 rfl).trans ex739_33); omega, by have := e89; omega, by have := ((hQ84.at g_739_33 rfl).trans ex739_33); have := e89; omega, by have := e89; omega, by have := e89; omega, (TK_sm (Sm.fr hQ84 rfl) pp_TK)⟩)
          · intro h102
            exfalso
            omega
    · intro h103
      refine wk_al0 r93_22 (wk_c1 r93_23 (wk_cv2 r93_24 kc_739_137 rfl (m9137_739 _ M0 1 x739_28 x739_33 hP0 (by decide) (by decide) ex739_28 (by first | assumption | omega) (by first | assumption | omega) ex739_33 (by first | assumption | omega) (by first | assumption | omega)) (cqV ?_)))
      rintro M104 ⟨hP105, hQ106, h108, h109⟩
      have hF107 : Fr fm_m9093_739 M0 M104 := hF0.tr hQ106 rfl
      obtain ⟨v110, e111⟩ : ∃ v, M104 739 28 = v := ⟨_, rfl⟩
      have h112 := bf_739_28 hP105; rw [e111] at h112
      refine wk_goto r93_27 (wk_al0 r93_44 (wk_cv1 r93_45 kc_739_84 rfl (m9084_739 _ M104 v110 hP105 e111 (by first | assumption | omega) (by first | assumption | omega)) (cqI ?_)))
      rintro v119 M113 ⟨hP114, hQ115, h120, h121, h117, h118⟩
      obtain rfl := Fr.same hQ115
      have e122 := e111
      refine wk_ifeq r93_48 ⟨by omega, by omega⟩ ?_ ?_
      · intro h123
        refine wk_il1 r93_55 ?_
        subst hQ; exact wk_iret r93_56 (⟨rfl, _, rfl, hP105, hF107, by omega, by omega, by have := ((hQ106.at g_739_30 rfl).trans ex739_30); have := ((hQ106.at g_739_31 rfl).trans ex739_31); omega, by have := ((hQ106.at g_739_31 rfl).trans ex739_31); have := ((hQ106.at g_739_33 rfl).trans ex739_33); have := ((hQ106.at g_739_34 rfl).trans ex739_34); omega, by have := ((hQ106.at g_739_31 rfl).trans ex739_31); have := ((hQ106.at g_739_33 rfl).trans ex739_33); have := ((hQ106.at g_739_34 rfl).trans ex739_34); omega, by have := ((hQ106.at g_739_34 rfl).trans ex739_34); have := ((hQ106.at g_739_32 rfl).trans ex739_32); omega, by have := ((hQ106.at g_739_33 rfl).trans ex739_33); omega, by have := e111; omega, by have := ((hQ106.at g_739_33 rfl).trans ex739_33); have := e111; omega, by have := e111; omega, by have := e111; omega, (TK_sm (Sm.fr hQ106 rfl) pp_TK)⟩)
      · intro h124
        exfalso
        omega
  · intro h125
    refine wk_c1 r93_7 ?_
    subst hQ; exact wk_iret r93_8 (⟨rfl, _, rfl, hP0, hF0, by omega, by omega, by have := ex739_30; have := ex739_31; omega, by have := ex739_31; have := ex739_33; have := ex739_34; omega, by have := ex739_31; have := ex739_33; have := ex739_34; omega, by have := ex739_34; have := ex739_32; omega, by have := ex739_33; omega, by have := ex739_28; omega, by have := ex739_33; have := ex739_28; omega, by have := ex739_28; omega, by have := ex739_28; omega, pp_TK⟩)
def fm_m9086_739 : Nat := 0
/-- IslandHallModel.isName -/
theorem m9086_739 {B : eB} (d : Nat) (M0 : Mm) (x739_32 : Int) (x739_34 : Int) (hP0 : Pw M0) (ex739_32 : M0 739 32 = x739_32) (lx739_32 : 0 ≤ x739_32) (ux739_32 : x739_32 ≤ 4) (ex739_34 : M0 739 34 = x739_34) (lx739_34 : 0 ≤ x739_34) (ux739_34 : x739_34 ≤ 500) : Ct B (d + 1) 86 [R 739] M0 (qI fun z M => Pw M ∧ Fr fm_m9086_739 M0 M ∧ 0 ≤ z ∧ z ≤ 1 ∧ (z = 1 → 0 ≤ M 739 34 + (-1)) ∧ (z = 1 → 0 ≤ (-1) * (M 739 34) + 1) ∧ (z = 1 → 0 ≤ M 739 32 + (-1)) ∧ (z = 1 → 0 ≤ (-1) * (M 739 32) + 1)) := by
  refine ct_of (d := d + 0) (k := 0) (L := [some (R 739)]) rfl rfl rfl ?_
  have hF0 := Fr.rf fm_m9086_739 M0
  generalize hQ : (qI fun z M => Pw M ∧ Fr fm_m9086_739 M0 M ∧ 0 ≤ z ∧ z ≤ 1 ∧ (z = 1 → 0 ≤ M 739 34 + (-1)) ∧ (z = 1 → 0 ≤ (-1) * (M 739 34) + 1) ∧ (z = 1 → 0 ≤ M 739 32 + (-1)) ∧ (z = 1 → 0 ≤ (-1) * (M 739 32) + 1)) = Q
  refine wk_al0 r86_0 (wk_getfi r86_1 fd_739_32 ex739_32 (wk_c1 r86_4 ?_))
  refine wk_icne r86_5 ⟨by omega, by omega⟩ (by decide) ?_ ?_
  · intro h1
    refine wk_c1 r86_20 ?_
    subst hQ; exact wk_zret r86_21 (by decide) (⟨rfl, _, rfl, hP0, hF0, by omega, by omega, by omega, by omega, by omega, by omega⟩)
  · intro h2
    refine wk_al0 r86_8 (wk_getfi r86_9 fd_739_34 ex739_34 (wk_c1 r86_12 ?_))
    refine wk_icne r86_13 ⟨by omega, by omega⟩ (by decide) ?_ ?_
    · intro h3
      refine wk_c1 r86_20 ?_
      subst hQ; exact wk_zret r86_21 (by decide) (⟨rfl, _, rfl, hP0, hF0, by omega, by omega, by omega, by omega, by omega, by omega⟩)
    · intro h4
      refine wk_c1 r86_16 (wk_goto r86_17 ?_)
      subst hQ; exact wk_zret r86_21 (by decide) (⟨rfl, _, rfl, hP0, hF0, by omega, by omega, by have := ex739_34; omega, by have := ex739_34; omega, by have := ex739_32; omega, by have := ex739_32; omega⟩)
def fm_m9111_739 : Nat := 3198183334179513849174334711124306039004150098954425584320512
/-- IslandHallModel.name -/
theorem m9111_739 {B : eB} (d : Nat) (M0 : Mm) (x739_30 : Int) (x739_31 : Int) (x739_33 : Int) (x739_34 : Int) (x739_32 : Int) (x739_28 : Int) (x739_38 : Int) (x739_36 : Int) (hP0 : Pw M0) (ex739_30 : M0 739 30 = x739_30) (lx739_30 : 0 ≤ x739_30) (ux739_30 : x739_30 ≤ 500) (ex739_31 : M0 739 31 = x739_31) (lx739_31 : 0 ≤ x739_31) (ux739_31 : x739_31 ≤ 500) (ex739_33 : M0 739 33 = x739_33) (lx739_33 : 0 ≤ x739_33) (ux739_33 : x739_33 ≤ 500) (ex739_34 : M0 739 34 = x739_34) (lx739_34 : 0 ≤ x739_34) (ux739_34 : x739_34 ≤ 500) (ex739_32 : M0 739 32 = x739_32) (lx739_32 : 0 ≤ x739_32) (ux739_32 : x739_32 ≤ 4) (ex739_28 : M0 739 28 = x739_28) (lx739_28 : 0 ≤ x739_28) (ux739_28 : x739_28 ≤ 6) (ex739_38 : M0 739 38 = x739_38) (lx739_38 : 0 ≤ x739_38) (ux739_38 : x739_38 ≤ 999) (ex739_36 : M0 739 36 = x739_36) (lx739_36 : 0 ≤ x739_36) (ux739_36 : x739_36 ≤ 255) (rp0 : 0 ≤ x739_30 + (-1) * x739_31) (rp1 : 0 ≤ x739_31 + (-1) * x739_33 + (-1) * x739_34) (rp2 : 0 ≤ (-1) * x739_31 + x739_33 + x739_34) (rp3 : 0 ≤ 4 * x739_34 + (-1) * x739_32) (rp4 : 0 ≤ (-1) * x739_38 + 7 + 3000 * x739_28) (pp_TK : TK M0) : Ct B (d + 3) 111 [R 739] M0 (qI fun z M => Pw M ∧ Fr fm_m9111_739 M0 M ∧ (-97) ≤ z ∧ z ≤ 158 ∧ 0 ≤ M 739 30 + (-1) * (M 739 31) ∧ 0 ≤ M 739 31 + (-1) * (M 739 33) + (-1) * (M 739 34) ∧ 0 ≤ (-1) * (M 739 31) + M 739 33 + M 739 34 ∧ 0 ≤ 4 * (M 739 34) + (-1) * (M 739 32) ∧ 0 ≤ M 739 33 + (-1) * x739_33 ∧ 0 ≤ M 739 28 + (-1) * x739_28 ∧ 0 ≤ M 739 33 + (-1) * x739_33 + M 739 28 + (-1) ∧ 0 ≤ 6 + 152 * (M 739 28) + (-1) * z ∧ 0 ≤ z + 97 * (M 739 28) ∧ (TK M)) := by
  refine ct_of (d := d + 2) (k := 1) (L := [some (R 739), none]) rfl rfl rfl ?_
  have hF0 := Fr.rf fm_m9111_739 M0
  generalize hQ : (qI fun z M => Pw M ∧ Fr fm_m9111_739 M0 M ∧ (-97) ≤ z ∧ z ≤ 158 ∧ 0 ≤ M 739 30 + (-1) * (M 739 31) ∧ 0 ≤ M 739 31 + (-1) * (M 739 33) + (-1) * (M 739 34) ∧ 0 ≤ (-1) * (M 739 31) + M 739 33 + M 739 34 ∧ 0 ≤ 4 * (M 739 34) + (-1) * (M 739 32) ∧ 0 ≤ M 739 33 + (-1) * x739_33 ∧ 0 ≤ M 739 28 + (-1) * x739_28 ∧ 0 ≤ M 739 33 + (-1) * x739_33 + M 739 28 + (-1) ∧ 0 ≤ 6 + 152 * (M 739 28) + (-1) * z ∧ 0 ≤ z + 97 * (M 739 28) ∧ (TK M)) = Q
  refine wk_al0 r111_0 (wk_cv1 r111_1 kc_739_84 rfl (m9084_739 _ M0 x739_28 hP0 ex739_28 (by first | assumption | omega) (by first | assumption | omega)) (cqI ?_))
  rintro v7 M1 ⟨hP2, hQ3, h8, h9, h5, h6⟩
  obtain rfl := Fr.same hQ3
  have e10 := ex739_28
  refine wk_ifne r111_4 ⟨by omega, by omega⟩ ?_ ?_
  · intro h11
    refine wk_al0 r111_9 (wk_cv1 r111_10 kc_739_86 rfl (m9086_739 _ M0 x739_32 x739_34 hP0 ex739_32 (by first | assumption | omega) (by first | assumption | omega) ex739_34 (by first | assumption | omega) (by first | assumption | omega)) (cqI ?_))
    rintro v20 M12 ⟨hP13, hQ14, h21, h22, h16, h17, h18, h19⟩
    obtain rfl := Fr.same hQ14
    have e23 := ex739_34
    have e24 := ex739_32
    refine wk_ifne r111_13 ⟨by omega, by omega⟩ ?_ ?_
    · intro h25
      have h26 : 97 ≤ x739_36 := by have q := pp_TK; unfold TK at q; omega
      refine wk_al0 r111_24 (wk_getfi r111_25 fd_739_36 ex739_36 (wk_c2 r111_28 (wk_isub r111_30 (wk_al0 r111_31 (wk_getfi r111_32 fd_739_38 ex739_38 ?_)))))
      refine wk_iclt r111_35 ⟨by omega, by omega⟩ ⟨by omega, by omega⟩ ?_ ?_
      · intro h27
        refine wk_al0 r111_43 (wk_getfi r111_44 fd_739_36 ex739_36 (wk_c2 r111_47 (wk_isub r111_49 (wk_is1 r111_50 rfl (wk_al0 r111_51 (wk_cv1 r111_52 kc_739_84 rfl (m9084_739 _ M0 x739_28 hP0 ex739_28 (by first | assumption | omega) (by first | assumption | omega)) (cqI ?_)))))))
        rintro v34 M28 ⟨hP29, hQ30, h35, h36, h32, h33⟩
        obtain rfl := Fr.same hQ30
        have e37 := ex739_28
        refine wk_ifeq r111_55 ⟨by omega, by omega⟩ ?_ ?_
        · intro h38
          exfalso
          omega
        · intro h39
          refine wk_al0 r111_58 (wk_cv1 r111_59 kc_739_76 rfl (m9076_739 _ M0 x739_30 x739_31 hP0 ex739_30 (by first | assumption | omega) (by first | assumption | omega) ex739_31 (by first | assumption | omega) (by first | assumption | omega) (by omega)) (cqV ?_))
          rintro M40 ⟨hP41, hQ42, h44, h45, h46, h47, h48, pr49⟩
          have hF43 : Fr fm_m9111_739 M0 M40 := hF0.tr hQ42 rfl
          have e50 := ((hQ42.at g_739_30 rfl).trans ex739_30)
          obtain ⟨v51, e52⟩ : ∃ v, M40 739 31 = v := ⟨_, rfl⟩
          have h53 := bf_739_31 hP41; rw [e52] at h53
          obtain ⟨v54, e55⟩ : ∃ v, M40 739 33 = v := ⟨_, rfl⟩
          have h56 := bf_739_33 hP41; rw [e55] at h56
          obtain ⟨v57, e58⟩ : ∃ v, M40 739 34 = v := ⟨_, rfl⟩
          have h59 := bf_739_34 hP41; rw [e58] at h59
          obtain ⟨v60, e61⟩ : ∃ v, M40 739 32 = v := ⟨_, rfl⟩
          have h62 := bf_739_32 hP41; rw [e61] at h62
          refine wk_il1 r111_62 ?_
          subst hQ; exact wk_iret r111_63 (⟨rfl, _, rfl, hP41, hF43, by omega, by omega, by have := ((hQ42.at g_739_30 rfl).trans ex739_30); have := e52; omega, by have := e52; have := e55; have := e58; omega, by have := e52; have := e55; have := e58; omega, by have := e58; have := e61; omega, by have := e55; omega, by have := ((hQ42.at g_739_28 rfl).trans ex739_28); omega, by have := e55; have := ((hQ42.at g_739_28 rfl).trans ex739_28); omega, by have := ((hQ42.at g_739_28 rfl).trans ex739_28); omega, by have := ((hQ42.at g_739_28 rfl).trans ex739_28); omega, pr49⟩)
      · intro h63
        refine wk_al0 r111_38 (wk_c1 r111_39 (wk_cv2 r111_40 kc_739_137 rfl (m9137_739 _ M0 4 x739_28 x739_33 hP0 (by decide) (by decide) ex739_28 (by first | assumption | omega) (by first | assumption | omega) ex739_33 (by first | assumption | omega) (by first | assumption | omega)) (cqV ?_)))
        rintro M64 ⟨hP65, hQ66, h68, h69⟩
        have hF67 : Fr fm_m9111_739 M0 M64 := hF0.tr hQ66 rfl
        obtain ⟨v70, e71⟩ : ∃ v, M64 739 28 = v := ⟨_, rfl⟩
        have h72 := bf_739_28 hP65; rw [e71] at h72
        refine wk_al0 r111_43 (wk_getfi r111_44 fd_739_36 ((hQ66.at g_739_36 rfl).trans ex739_36) (wk_c2 r111_47 (wk_isub r111_49 (wk_is1 r111_50 rfl (wk_al0 r111_51 (wk_cv1 r111_52 kc_739_84 rfl (m9084_739 _ M64 v70 hP65 e71 (by first | assumption | omega) (by first | assumption | omega)) (cqI ?_)))))))
        rintro v79 M73 ⟨hP74, hQ75, h80, h81, h77, h78⟩
        obtain rfl := Fr.same hQ75
        have e82 := e71
        refine wk_ifeq r111_55 ⟨by omega, by omega⟩ ?_ ?_
        · intro h83
          refine wk_il1 r111_62 ?_
          subst hQ; exact wk_iret r111_63 (⟨rfl, _, rfl, hP65, hF67, by omega, by omega, by have := ((hQ66.at g_739_30 rfl).trans ex739_30); have := ((hQ66.at g_739_31 rfl).trans ex739_31); omega, by have := ((hQ66.at g_739_31 rfl).trans ex739_31); have := ((hQ66.at g_739_33 rfl).trans ex739_33); have := ((hQ66.at g_739_34 rfl).trans ex739_34); omega, by have := ((hQ66.at g_739_31 rfl).trans ex739_31); have := ((hQ66.at g_739_33 rfl).trans ex739_33); have := ((hQ66.at g_739_34 rfl).trans ex739_34); omega, by have := ((hQ66.at g_739_34 rfl).trans ex739_34); have := ((hQ66.at g_739_32 rfl).trans ex739_32); omega, by have := ((hQ66.at g_739_33 rfl).trans ex739_33); omega, by have := e71; omega, by have := ((hQ66.at g_739_33 rfl).trans ex739_33); have := e71; omega, by have := e71; omega, by have := e71; omega, (TK_sm (Sm.fr hQ66 rfl) pp_TK)⟩)
        · intro h84
          exfalso
          omega
    · intro h85
      refine wk_al0 r111_16 (wk_c1 r111_17 (wk_cv2 r111_18 kc_739_137 rfl (m9137_739 _ M0 1 x739_28 x739_33 hP0 (by decide) (by decide) ex739_28 (by first | assumption | omega) (by first | assumption | omega) ex739_33 (by first | assumption | omega) (by first | assumption | omega)) (cqV ?_)))
      rintro M86 ⟨hP87, hQ88, h90, h91⟩
      have hF89 : Fr fm_m9111_739 M0 M86 := hF0.tr hQ88 rfl
      obtain ⟨v92, e93⟩ : ∃ v, M86 739 28 = v := ⟨_, rfl⟩
      have h94 := bf_739_28 hP87; rw [e93] at h94
      refine wk_goto r111_21 (wk_al0 r111_43 (wk_getfi r111_44 fd_739_36 ((hQ88.at g_739_36 rfl).trans ex739_36) (wk_c2 r111_47 (wk_isub r111_49 (wk_is1 r111_50 rfl (wk_al0 r111_51 (wk_cv1 r111_52 kc_739_84 rfl (m9084_739 _ M86 v92 hP87 e93 (by first | assumption | omega) (by first | assumption | omega)) (cqI ?_))))))))
      rintro v101 M95 ⟨hP96, hQ97, h102, h103, h99, h100⟩
      obtain rfl := Fr.same hQ97
      have e104 := e93
      refine wk_ifeq r111_55 ⟨by omega, by omega⟩ ?_ ?_
      · intro h105
        refine wk_il1 r111_62 ?_
        subst hQ; exact wk_iret r111_63 (⟨rfl, _, rfl, hP87, hF89, by omega, by omega, by have := ((hQ88.at g_739_30 rfl).trans ex739_30); have := ((hQ88.at g_739_31 rfl).trans ex739_31); omega, by have := ((hQ88.at g_739_31 rfl).trans ex739_31); have := ((hQ88.at g_739_33 rfl).trans ex739_33); have := ((hQ88.at g_739_34 rfl).trans ex739_34); omega, by have := ((hQ88.at g_739_31 rfl).trans ex739_31); have := ((hQ88.at g_739_33 rfl).trans ex739_33); have := ((hQ88.at g_739_34 rfl).trans ex739_34); omega, by have := ((hQ88.at g_739_34 rfl).trans ex739_34); have := ((hQ88.at g_739_32 rfl).trans ex739_32); omega, by have := ((hQ88.at g_739_33 rfl).trans ex739_33); omega, by have := e93; omega, by have := ((hQ88.at g_739_33 rfl).trans ex739_33); have := e93; omega, by have := e93; omega, by have := e93; omega, (TK_sm (Sm.fr hQ88 rfl) pp_TK)⟩)
      · intro h106
        exfalso
        omega
  · intro h107
    refine wk_c1 r111_7 ?_
    subst hQ; exact wk_iret r111_8 (⟨rfl, _, rfl, hP0, hF0, by omega, by omega, by have := ex739_30; have := ex739_31; omega, by have := ex739_31; have := ex739_33; have := ex739_34; omega, by have := ex739_31; have := ex739_33; have := ex739_34; omega, by have := ex739_34; have := ex739_32; omega, by have := ex739_33; omega, by have := ex739_28; omega, by have := ex739_33; have := ex739_28; omega, by have := ex739_28; omega, by have := ex739_28; omega, pp_TK⟩)
def fm_m9117_739 : Nat := 452312848583677764512654461700725882347475215226404137245539582496747814912
/-- IslandHallModel.puts -/
theorem m9117_739 {B : eB} (d : Nat) (M0 : Mm) (p1 : Int) (p2 : Int) (p3 : Int) (x739_45 : Int) (hP0 : Pw M0) (l1 : 0 ≤ p1) (u1 : p1 ≤ 15) (l2 : (-97) ≤ p2) (u2 : p2 ≤ 999) (l3 : (-97) ≤ p3) (u3 : p3 ≤ 999) (ex739_45 : M0 739 45 = x739_45) (lx739_45 : 0 ≤ x739_45) (ux739_45 : x739_45 ≤ 999) : Ct B (d + 1) 117 [R 739, I p1, I p2, I p3] M0 (qV fun M => Pw M ∧ Fr fm_m9117_739 M0 M ∧ 0 ≤ M 739 45 + (-1) * x739_45 + (-1) ∧ 0 ≤ (-1) * (M 739 45) + x739_45 + 1 ∧ (PUT M0 M (p1 + 16 * p2 + 2048 * p3))) := by
  refine ct_of (d := d + 0) (k := 0) (L := [some (R 739), some (I p1), some (I p2), some (I p3)]) rfl rfl rfl ?_
  have hF0 := Fr.rf fm_m9117_739 M0
  generalize hQ : (qV fun M => Pw M ∧ Fr fm_m9117_739 M0 M ∧ 0 ≤ M 739 45 + (-1) * x739_45 + (-1) ∧ 0 ≤ (-1) * (M 739 45) + x739_45 + 1 ∧ (PUT M0 M (p1 + 16 * p2 + 2048 * p3))) = Q
  refine wk_al0 r117_0 (wk_getfr r117_1 fd_739_49 (br_739_49 hP0) (wk_al0 r117_4 (wk_getfi r117_5 fd_739_45 ex739_45 (wk_il1 r117_8 (wk_c2 r117_9 (wk_il2 r117_11 (wk_imul r117_12 (wk_iadd r117_13 (wk_c3 r117_14 (wk_il3 r117_17 (wk_imul r117_18 (wk_iadd r117_19 (wk_iast r117_20 ar_757 ⟨by omega, by omega⟩ (wk_nw (ga_757 _) rfl hP0 hF0 (ua_757 ⟨by omega, by omega⟩) ?_))))))))))))))
  intro M1 hP2 hF3 e4
  refine wk_al0 r117_21 (wk_dupr r117_22 (wk_getfi r117_23 fd_739_45 (mUp_no e4 ex739_45 (Or.inl (by decide))) (wk_c1 r117_26 (wk_iadd r117_27 (wk_putfi81 r117_28 fd_739_45 (wk_nw g_739_45 rfl hP2 hF3 (uf_739_45 ⟨by omega, by omega⟩) ?_))))))
  intro M5 hP6 hF7 e8
  subst hQ; exact wk_ret r117_31 (⟨rfl, hP6, hF7, by have := (mUp_at e8); omega, by have := (mUp_at e8); omega, put_mk ex739_45 e4 e8 (by omega)⟩)
def fm_m9133_739 : Nat := 904625697167355529025308923401451764694950430452808274491079164993495629824
/-- IslandHallModel.waitsFor -/
theorem m9133_739 {B : eB} (d : Nat) (M0 : Mm) (p1 : Int) (p2 : Int) (x739_46 : Int) (hP0 : Pw M0) (l1 : 10 ≤ p1) (u1 : p1 ≤ 14) (l2 : 0 ≤ p2) (u2 : p2 ≤ 7) (ex739_46 : M0 739 46 = x739_46) (lx739_46 : 0 ≤ x739_46) (ux739_46 : x739_46 ≤ 519) : Ct B (d + 1) 133 [R 739, I p1, I p2] M0 (qV fun M => Pw M ∧ Fr fm_m9133_739 M0 M ∧ 0 ≤ M 739 46 + (-1) * x739_46 + (-1) ∧ 0 ≤ (-1) * (M 739 46) + x739_46 + 1 ∧ (WAI M0 M (p1 + 16 * p2))) := by
  refine ct_of (d := d + 0) (k := 0) (L := [some (R 739), some (I p1), some (I p2)]) rfl rfl rfl ?_
  have hF0 := Fr.rf fm_m9133_739 M0
  generalize hQ : (qV fun M => Pw M ∧ Fr fm_m9133_739 M0 M ∧ 0 ≤ M 739 46 + (-1) * x739_46 + (-1) ∧ 0 ≤ (-1) * (M 739 46) + x739_46 + 1 ∧ (WAI M0 M (p1 + 16 * p2))) = Q
  refine wk_al0 r133_0 (wk_getfr r133_1 fd_739_50 (br_739_50 hP0) (wk_al0 r133_4 (wk_getfi r133_5 fd_739_46 ex739_46 (wk_il1 r133_8 (wk_c2 r133_9 (wk_il2 r133_11 (wk_imul r133_12 (wk_iadd r133_13 (wk_iast r133_14 ar_758 ⟨by omega, by omega⟩ (wk_nw (ga_758 _) rfl hP0 hF0 (ua_758 ⟨by omega, by omega⟩) ?_))))))))))
  intro M1 hP2 hF3 e4
  refine wk_al0 r133_15 (wk_dupr r133_16 (wk_getfi r133_17 fd_739_46 (mUp_no e4 ex739_46 (Or.inl (by decide))) (wk_c1 r133_20 (wk_iadd r133_21 (wk_putfi81 r133_22 fd_739_46 (wk_nw g_739_46 rfl hP2 hF3 (uf_739_46 ⟨by omega, by omega⟩) ?_))))))
  intro M5 hP6 hF7 e8
  subst hQ; exact wk_ret r133_25 (⟨rfl, hP6, hF7, by have := (mUp_at e8); omega, by have := (mUp_at e8); omega, wai_mk ex739_46 e4 e8 (by omega)⟩)
def fm_m9130 : Nat := 0
/-- IslandHallModel.strength -/
theorem m9130 {B : eB} (d : Nat) (M0 : Mm) (p0 : Int) (hP0 : Pw M0) (l0 : 0 ≤ p0) (u0 : p0 ≤ 15) : Ct B (d + 1) 130 [I p0] M0 (qI fun z M => Pw M ∧ Fr fm_m9130 M0 M ∧ 0 ≤ z ∧ z ≤ 3 ∧ (z = 0 → p0 = 14)) := by
  refine ct_of (d := d + 0) (k := 0) (L := [some (I p0)]) rfl rfl rfl ?_
  have hF0 := Fr.rf fm_m9130 M0
  generalize hQ : (qI fun z M => Pw M ∧ Fr fm_m9130 M0 M ∧ 0 ≤ z ∧ z ≤ 3 ∧ (z = 0 → p0 = 14)) = Q
  refine wk_il0 r130_0 (wk_c2 r130_1 ?_)
  refine wk_icne r130_3 ⟨by omega, by omega⟩ (by decide) ?_ ?_
  · intro h1
    refine wk_il0 r130_10 (wk_c2 r130_11 ?_)
    refine wk_icne r130_13 ⟨by omega, by omega⟩ (by decide) ?_ ?_
    · intro h2
      refine wk_il0 r130_20 (wk_c2 r130_21 ?_)
      refine wk_icne r130_23 ⟨by omega, by omega⟩ (by decide) ?_ ?_
      · intro h3
        refine wk_c1 r130_30 ?_
        subst hQ; exact wk_iret r130_31 (⟨rfl, _, rfl, hP0, hF0, by omega, by omega, by intro q; omega⟩)
      · intro h4
        refine wk_c1 r130_26 (wk_goto r130_27 ?_)
        subst hQ; exact wk_iret r130_31 (⟨rfl, _, rfl, hP0, hF0, by omega, by omega, by intro q; omega⟩)
    · intro h5
      refine wk_c1 r130_16 (wk_goto r130_17 ?_)
      subst hQ; exact wk_iret r130_31 (⟨rfl, _, rfl, hP0, hF0, by omega, by omega, by intro q; omega⟩)
  · intro h6
    refine wk_c1 r130_6 (wk_goto r130_7 ?_)
    subst hQ; exact wk_iret r130_31 (⟨rfl, _, rfl, hP0, hF0, by omega, by omega, by intro q; omega⟩)
def fm_m9062_739 : Nat := 1645513972973809122176114936241485316482360019166746559400378368
/-- IslandHallModel.deeper -/
theorem m9062_739 {B : eB} (d : Nat) (M0 : Mm) (x739_30 : Int) (x739_31 : Int) (x739_33 : Int) (x739_34 : Int) (x739_32 : Int) (x739_28 : Int) (x739_45 : Int) (x739_46 : Int) (x739_47 : Int) (s0 : Int) (u0 : Int → Int) (hP0 : Pw M0) (ex739_30 : M0 739 30 = x739_30) (lx739_30 : 0 ≤ x739_30) (ux739_30 : x739_30 ≤ 500) (ex739_31 : M0 739 31 = x739_31) (lx739_31 : 0 ≤ x739_31) (ux739_31 : x739_31 ≤ 500) (ex739_33 : M0 739 33 = x739_33) (lx739_33 : 0 ≤ x739_33) (ux739_33 : x739_33 ≤ 500) (ex739_34 : M0 739 34 = x739_34) (lx739_34 : 0 ≤ x739_34) (ux739_34 : x739_34 ≤ 500) (ex739_32 : M0 739 32 = x739_32) (lx739_32 : 0 ≤ x739_32) (ux739_32 : x739_32 ≤ 4) (ex739_28 : M0 739 28 = x739_28) (lx739_28 : 0 ≤ x739_28) (ux739_28 : x739_28 ≤ 6) (ex739_45 : M0 739 45 = x739_45) (lx739_45 : 0 ≤ x739_45) (ux739_45 : x739_45 ≤ 1000) (ex739_46 : M0 739 46 = x739_46) (lx739_46 : 0 ≤ x739_46) (ux739_46 : x739_46 ≤ 520) (ex739_47 : M0 739 47 = x739_47) (lx739_47 : 0 ≤ x739_47) (ux739_47 : x739_47 ≤ 500) (rp0 : 0 ≤ x739_30 + (-1) * x739_31) (rp1 : 0 ≤ x739_31 + (-1) * x739_33 + (-1) * x739_34) (rp2 : 0 ≤ (-1) * x739_31 + x739_33 + x739_34) (rp3 : 0 ≤ 4 * x739_34 + (-1) * x739_32) (rp4 : 0 ≤ (-2) * x739_45 + (-2) * x739_46 + 520) (rp5 : 0 ≤ (-1) * x739_47 + x739_28 + 6) (pp_TK : TK M0) (pp_F0 : GE M0 s0 u0 0 1) : Ct B (d + 4) 62 [R 739] M0 (qV fun M => Pw M ∧ Fr fm_m9062_739 M0 M ∧ 0 ≤ M 739 30 + (-1) * (M 739 31) ∧ 0 ≤ M 739 31 + (-1) * (M 739 33) + (-1) * (M 739 34) ∧ 0 ≤ (-1) * (M 739 31) + M 739 33 + M 739 34 ∧ 0 ≤ 4 * (M 739 34) + (-1) * (M 739 32) ∧ 0 ≤ M 739 33 + (-1) * x739_33 ∧ 0 ≤ M 739 28 + (-1) * x739_28 ∧ 0 ≤ (-2) * (M 739 45) + (-2) * (M 739 46) + 520 ∧ 0 ≤ (-1) * (M 739 47) + M 739 28 + 6 ∧ 0 ≤ M 739 47 + (-1) * x739_47 ∧ 0 ≤ (-1) * (M 739 47) + x739_47 + 1 ∧ 0 ≤ M 739 47 + (-1) * x739_47 + (-1) + x739_28 ∧ 0 ≤ M 739 47 + 0 ∧ (TK M) ∧ (GE M s0 u0 0 0)) := by
  refine ct_of (d := d + 3) (k := 2) (L := [some (R 739), none, none]) rfl rfl rfl ?_
  have hF0 := Fr.rf fm_m9062_739 M0
  generalize hQ : (qV fun M => Pw M ∧ Fr fm_m9062_739 M0 M ∧ 0 ≤ M 739 30 + (-1) * (M 739 31) ∧ 0 ≤ M 739 31 + (-1) * (M 739 33) + (-1) * (M 739 34) ∧ 0 ≤ (-1) * (M 739 31) + M 739 33 + M 739 34 ∧ 0 ≤ 4 * (M 739 34) + (-1) * (M 739 32) ∧ 0 ≤ M 739 33 + (-1) * x739_33 ∧ 0 ≤ M 739 28 + (-1) * x739_28 ∧ 0 ≤ (-2) * (M 739 45) + (-2) * (M 739 46) + 520 ∧ 0 ≤ (-1) * (M 739 47) + M 739 28 + 6 ∧ 0 ≤ M 739 47 + (-1) * x739_47 ∧ 0 ≤ (-1) * (M 739 47) + x739_47 + 1 ∧ 0 ≤ M 739 47 + (-1) * x739_47 + (-1) + x739_28 ∧ 0 ≤ M 739 47 + 0 ∧ (TK M) ∧ (GE M s0 u0 0 0)) = Q
  refine wk_al0 r62_0 (wk_cv1 r62_1 kc_739_84 rfl (m9084_739 _ M0 x739_28 hP0 ex739_28 (by first | assumption | omega) (by first | assumption | omega)) (cqI ?_))
  rintro v7 M1 ⟨hP2, hQ3, h8, h9, h5, h6⟩
  obtain rfl := Fr.same hQ3
  have e10 := ex739_28
  refine wk_ifne r62_4 ⟨by omega, by omega⟩ ?_ ?_
  · intro h11
    refine wk_al0 r62_8 (wk_cv1 r62_9 kc_739_97 rfl (m9097_739 _ M0 x739_32 x739_34 hP0 ex739_32 (by first | assumption | omega) (by first | assumption | omega) ex739_34 (by first | assumption | omega) (by first | assumption | omega) pp_TK) (cqI ?_))
    rintro v17 M12 ⟨hP13, hQ14, h18, h19, h16⟩
    obtain rfl := Fr.same hQ14
    have e20 := ex739_34
    refine wk_is1 r62_12 rfl (wk_al0 r62_13 (wk_cv1 r62_14 kc_739_86 rfl (m9086_739 _ M0 x739_32 x739_34 hP0 ex739_32 (by first | assumption | omega) (by first | assumption | omega) ex739_34 (by first | assumption | omega) (by first | assumption | omega)) (cqI ?_)))
    rintro v29 M21 ⟨hP22, hQ23, h30, h31, h25, h26, h27, h28⟩
    obtain rfl := Fr.same hQ23
    have e32 := ex739_34
    have e33 := ex739_32
    refine wk_ifne r62_17 ⟨by omega, by omega⟩ ?_ ?_
    · intro h34
      refine wk_c1 r62_65 (wk_goto r62_66 (wk_is2 r62_70 rfl (wk_il2 r62_71 ?_)))
      refine wk_ifne r62_72 (by decide) ?_ ?_
      · intro h35
        refine wk_al0 r62_80 (wk_getfi r62_81 fd_739_47 ex739_47 (wk_c2 r62_84 ?_))
        refine wk_icne r62_86 ⟨by omega, by omega⟩ (by decide) ?_ ?_
        · intro h36
          refine wk_al0 r62_94 (wk_dupr r62_95 (wk_getfi r62_96 fd_739_47 ex739_47 (wk_c1 r62_99 (wk_iadd r62_100 (wk_putfi81 r62_101 fd_739_47 (wk_nw g_739_47 rfl hP0 hF0 (uf_739_47 ⟨by omega, by omega⟩) ?_))))))
          intro M37 hP38 hF39 e40
          subst hQ; exact wk_ret r62_104 (⟨rfl, hP38, hF39, by have := (mUp_no e40 ex739_30 (Or.inr (by decide))); have := (mUp_no e40 ex739_31 (Or.inr (by decide))); omega, by have := (mUp_no e40 ex739_31 (Or.inr (by decide))); have := (mUp_no e40 ex739_33 (Or.inr (by decide))); have := (mUp_no e40 ex739_34 (Or.inr (by decide))); omega, by have := (mUp_no e40 ex739_31 (Or.inr (by decide))); have := (mUp_no e40 ex739_33 (Or.inr (by decide))); have := (mUp_no e40 ex739_34 (Or.inr (by decide))); omega, by have := (mUp_no e40 ex739_34 (Or.inr (by decide))); have := (mUp_no e40 ex739_32 (Or.inr (by decide))); omega, by have := (mUp_no e40 ex739_33 (Or.inr (by decide))); omega, by have := (mUp_no e40 ex739_28 (Or.inr (by decide))); omega, by have := (mUp_no e40 ex739_45 (Or.inr (by decide))); have := (mUp_no e40 ex739_46 (Or.inr (by decide))); omega, by have := (mUp_at e40); have := (mUp_no e40 ex739_28 (Or.inr (by decide))); omega, by have := (mUp_at e40); omega, by have := (mUp_at e40); omega, by have := (mUp_at e40); omega, by have := (mUp_at e40); omega, (TK_sm (Sm.up e40 g_739_47 rfl) pp_TK), (GE_deep e40 (by have := ex739_47; omega) pp_F0)⟩)
        · intro h41
          refine wk_al0 r62_89 (wk_c1 r62_90 (wk_cv2 r62_91 kc_739_137 rfl (m9137_739 _ M0 2 x739_28 x739_33 hP0 (by decide) (by decide) ex739_28 (by first | assumption | omega) (by first | assumption | omega) ex739_33 (by first | assumption | omega) (by first | assumption | omega)) (cqV ?_)))
          rintro M42 ⟨hP43, hQ44, h46, h47⟩
          have hF45 : Fr fm_m9062_739 M0 M42 := hF0.tr hQ44 rfl
          obtain ⟨v48, e49⟩ : ∃ v, M42 739 28 = v := ⟨_, rfl⟩
          have h50 := bf_739_28 hP43; rw [e49] at h50
          have pr51 : GE M42 s0 u0 0 1 := GE_mn (Sm.fr hQ44 rfl) (fun q => by have := ex739_28; have := e49; omega) pp_F0
          refine wk_al0 r62_94 (wk_dupr r62_95 (wk_getfi r62_96 fd_739_47 ((hQ44.at g_739_47 rfl).trans ex739_47) (wk_c1 r62_99 (wk_iadd r62_100 (wk_putfi81 r62_101 fd_739_47 (wk_nw g_739_47 rfl hP43 hF45 (uf_739_47 ⟨by omega, by omega⟩) ?_))))))
          intro M52 hP53 hF54 e55
          subst hQ; exact wk_ret r62_104 (⟨rfl, hP53, hF54, by have := (mUp_no e55 ((hQ44.at g_739_30 rfl).trans ex739_30) (Or.inr (by decide))); have := (mUp_no e55 ((hQ44.at g_739_31 rfl).trans ex739_31) (Or.inr (by decide))); omega, by have := (mUp_no e55 ((hQ44.at g_739_31 rfl).trans ex739_31) (Or.inr (by decide))); have := (mUp_no e55 ((hQ44.at g_739_33 rfl).trans ex739_33) (Or.inr (by decide))); have := (mUp_no e55 ((hQ44.at g_739_34 rfl).trans ex739_34) (Or.inr (by decide))); omega, by have := (mUp_no e55 ((hQ44.at g_739_31 rfl).trans ex739_31) (Or.inr (by decide))); have := (mUp_no e55 ((hQ44.at g_739_33 rfl).trans ex739_33) (Or.inr (by decide))); have := (mUp_no e55 ((hQ44.at g_739_34 rfl).trans ex739_34) (Or.inr (by decide))); omega, by have := (mUp_no e55 ((hQ44.at g_739_34 rfl).trans ex739_34) (Or.inr (by decide))); have := (mUp_no e55 ((hQ44.at g_739_32 rfl).trans ex739_32) (Or.inr (by decide))); omega, by have := (mUp_no e55 ((hQ44.at g_739_33 rfl).trans ex739_33) (Or.inr (by decide))); omega, by have := (mUp_no e55 e49 (Or.inr (by decide))); omega, by have := (mUp_no e55 ((hQ44.at g_739_45 rfl).trans ex739_45) (Or.inr (by decide))); have := (mUp_no e55 ((hQ44.at g_739_46 rfl).trans ex739_46) (Or.inr (by decide))); omega, by have := (mUp_at e55); have := (mUp_no e55 e49 (Or.inr (by decide))); omega, by have := (mUp_at e55); omega, by have := (mUp_at e55); omega, by have := (mUp_at e55); omega, by have := (mUp_at e55); omega, (TK_sm (Sm.up e55 g_739_47 rfl) (TK_sm (Sm.fr hQ44 rfl) pp_TK)), (GE_deep e55 (by have := ((hQ44.at g_739_47 rfl).trans ex739_47); omega) pr51)⟩)
      · intro h56
        exfalso
        omega
    · intro h57
      refine wk_al0 r62_20 (wk_c2 r62_21 ?_)
      obtain ⟨v58, e59⟩ : ∃ v, M0 739 36 = v := ⟨_, rfl⟩
      have h60 := bf_739_36 hP0; rw [e59] at h60
      refine wk_cv2 r62_23 kc_739_88 rfl (m9088_739 _ M0 40 x739_32 v58 hP0 (by decide) (by decide) ex739_32 (by first | assumption | omega) (by first | assumption | omega) e59 (by first | assumption | omega) (by first | assumption | omega)) (cqI ?_)
      rintro v68 M61 ⟨hP62, hQ63, h69, h70, h65, h66, h67⟩
      obtain rfl := Fr.same hQ63
      have e71 := ex739_32
      have e72 := e59
      refine wk_ifne r62_26 ⟨by omega, by omega⟩ ?_ ?_
      · intro h73
        refine wk_c1 r62_65 (wk_goto r62_66 (wk_is2 r62_70 rfl (wk_il2 r62_71 ?_)))
        refine wk_ifne r62_72 (by decide) ?_ ?_
        · intro h74
          refine wk_al0 r62_80 (wk_getfi r62_81 fd_739_47 ex739_47 (wk_c2 r62_84 ?_))
          refine wk_icne r62_86 ⟨by omega, by omega⟩ (by decide) ?_ ?_
          · intro h75
            refine wk_al0 r62_94 (wk_dupr r62_95 (wk_getfi r62_96 fd_739_47 ex739_47 (wk_c1 r62_99 (wk_iadd r62_100 (wk_putfi81 r62_101 fd_739_47 (wk_nw g_739_47 rfl hP0 hF0 (uf_739_47 ⟨by omega, by omega⟩) ?_))))))
            intro M76 hP77 hF78 e79
            subst hQ; exact wk_ret r62_104 (⟨rfl, hP77, hF78, by have := (mUp_no e79 ex739_30 (Or.inr (by decide))); have := (mUp_no e79 ex739_31 (Or.inr (by decide))); omega, by have := (mUp_no e79 ex739_31 (Or.inr (by decide))); have := (mUp_no e79 ex739_33 (Or.inr (by decide))); have := (mUp_no e79 ex739_34 (Or.inr (by decide))); omega, by have := (mUp_no e79 ex739_31 (Or.inr (by decide))); have := (mUp_no e79 ex739_33 (Or.inr (by decide))); have := (mUp_no e79 ex739_34 (Or.inr (by decide))); omega, by have := (mUp_no e79 ex739_34 (Or.inr (by decide))); have := (mUp_no e79 ex739_32 (Or.inr (by decide))); omega, by have := (mUp_no e79 ex739_33 (Or.inr (by decide))); omega, by have := (mUp_no e79 ex739_28 (Or.inr (by decide))); omega, by have := (mUp_no e79 ex739_45 (Or.inr (by decide))); have := (mUp_no e79 ex739_46 (Or.inr (by decide))); omega, by have := (mUp_at e79); have := (mUp_no e79 ex739_28 (Or.inr (by decide))); omega, by have := (mUp_at e79); omega, by have := (mUp_at e79); omega, by have := (mUp_at e79); omega, by have := (mUp_at e79); omega, (TK_sm (Sm.up e79 g_739_47 rfl) pp_TK), (GE_deep e79 (by have := ex739_47; omega) pp_F0)⟩)
          · intro h80
            refine wk_al0 r62_89 (wk_c1 r62_90 (wk_cv2 r62_91 kc_739_137 rfl (m9137_739 _ M0 2 x739_28 x739_33 hP0 (by decide) (by decide) ex739_28 (by first | assumption | omega) (by first | assumption | omega) ex739_33 (by first | assumption | omega) (by first | assumption | omega)) (cqV ?_)))
            rintro M81 ⟨hP82, hQ83, h85, h86⟩
            have hF84 : Fr fm_m9062_739 M0 M81 := hF0.tr hQ83 rfl
            obtain ⟨v87, e88⟩ : ∃ v, M81 739 28 = v := ⟨_, rfl⟩
            have h89 := bf_739_28 hP82; rw [e88] at h89
            have pr90 : GE M81 s0 u0 0 1 := GE_mn (Sm.fr hQ83 rfl) (fun q => by have := ex739_28; have := e88; omega) pp_F0
            refine wk_al0 r62_94 (wk_dupr r62_95 (wk_getfi r62_96 fd_739_47 ((hQ83.at g_739_47 rfl).trans ex739_47) (wk_c1 r62_99 (wk_iadd r62_100 (wk_putfi81 r62_101 fd_739_47 (wk_nw g_739_47 rfl hP82 hF84 (uf_739_47 ⟨by omega, by omega⟩) ?_))))))
            intro M91 hP92 hF93 e94
            subst hQ; exact wk_ret r62_104 (⟨rfl, hP92, hF93, by have := (mUp_no e94 ((hQ83.at g_739_30 rfl).trans ex739_30) (Or.inr (by decide))); have := (mUp_no e94 ((hQ83.at g_739_31 rfl).trans ex739_31) (Or.inr (by decide))); omega, by have := (mUp_no e94 ((hQ83.at g_739_31 rfl).trans ex739_31) (Or.inr (by decide))); have := (mUp_no e94 ((hQ83.at g_739_33 rfl).trans ex739_33) (Or.inr (by decide))); have := (mUp_no e94 ((hQ83.at g_739_34 rfl).trans ex739_34) (Or.inr (by decide))); omega, by have := (mUp_no e94 ((hQ83.at g_739_31 rfl).trans ex739_31) (Or.inr (by decide))); have := (mUp_no e94 ((hQ83.at g_739_33 rfl).trans ex739_33) (Or.inr (by decide))); have := (mUp_no e94 ((hQ83.at g_739_34 rfl).trans ex739_34) (Or.inr (by decide))); omega, by have := (mUp_no e94 ((hQ83.at g_739_34 rfl).trans ex739_34) (Or.inr (by decide))); have := (mUp_no e94 ((hQ83.at g_739_32 rfl).trans ex739_32) (Or.inr (by decide))); omega, by have := (mUp_no e94 ((hQ83.at g_739_33 rfl).trans ex739_33) (Or.inr (by decide))); omega, by have := (mUp_no e94 e88 (Or.inr (by decide))); omega, by have := (mUp_no e94 ((hQ83.at g_739_45 rfl).trans ex739_45) (Or.inr (by decide))); have := (mUp_no e94 ((hQ83.at g_739_46 rfl).trans ex739_46) (Or.inr (by decide))); omega, by have := (mUp_at e94); have := (mUp_no e94 e88 (Or.inr (by decide))); omega, by have := (mUp_at e94); omega, by have := (mUp_at e94); omega, by have := (mUp_at e94); omega, by have := (mUp_at e94); omega, (TK_sm (Sm.up e94 g_739_47 rfl) (TK_sm (Sm.fr hQ83 rfl) pp_TK)), (GE_deep e94 (by have := ((hQ83.at g_739_47 rfl).trans ex739_47); omega) pr90)⟩)
        · intro h95
          exfalso
          omega
      · intro h96
        refine wk_il1 r62_29 (wk_c2 r62_30 ?_)
        refine wk_iceq r62_32 ⟨by omega, by omega⟩ (by decide) ?_ ?_
        · intro h97
          refine wk_c1 r62_65 (wk_goto r62_66 (wk_is2 r62_70 rfl (wk_il2 r62_71 ?_)))
          refine wk_ifne r62_72 (by decide) ?_ ?_
          · intro h98
            refine wk_al0 r62_80 (wk_getfi r62_81 fd_739_47 ex739_47 (wk_c2 r62_84 ?_))
            refine wk_icne r62_86 ⟨by omega, by omega⟩ (by decide) ?_ ?_
            · intro h99
              refine wk_al0 r62_94 (wk_dupr r62_95 (wk_getfi r62_96 fd_739_47 ex739_47 (wk_c1 r62_99 (wk_iadd r62_100 (wk_putfi81 r62_101 fd_739_47 (wk_nw g_739_47 rfl hP0 hF0 (uf_739_47 ⟨by omega, by omega⟩) ?_))))))
              intro M100 hP101 hF102 e103
              subst hQ; exact wk_ret r62_104 (⟨rfl, hP101, hF102, by have := (mUp_no e103 ex739_30 (Or.inr (by decide))); have := (mUp_no e103 ex739_31 (Or.inr (by decide))); omega, by have := (mUp_no e103 ex739_31 (Or.inr (by decide))); have := (mUp_no e103 ex739_33 (Or.inr (by decide))); have := (mUp_no e103 ex739_34 (Or.inr (by decide))); omega, by have := (mUp_no e103 ex739_31 (Or.inr (by decide))); have := (mUp_no e103 ex739_33 (Or.inr (by decide))); have := (mUp_no e103 ex739_34 (Or.inr (by decide))); omega, by have := (mUp_no e103 ex739_34 (Or.inr (by decide))); have := (mUp_no e103 ex739_32 (Or.inr (by decide))); omega, by have := (mUp_no e103 ex739_33 (Or.inr (by decide))); omega, by have := (mUp_no e103 ex739_28 (Or.inr (by decide))); omega, by have := (mUp_no e103 ex739_45 (Or.inr (by decide))); have := (mUp_no e103 ex739_46 (Or.inr (by decide))); omega, by have := (mUp_at e103); have := (mUp_no e103 ex739_28 (Or.inr (by decide))); omega, by have := (mUp_at e103); omega, by have := (mUp_at e103); omega, by have := (mUp_at e103); omega, by have := (mUp_at e103); omega, (TK_sm (Sm.up e103 g_739_47 rfl) pp_TK), (GE_deep e103 (by have := ex739_47; omega) pp_F0)⟩)
            · intro h104
              refine wk_al0 r62_89 (wk_c1 r62_90 (wk_cv2 r62_91 kc_739_137 rfl (m9137_739 _ M0 2 x739_28 x739_33 hP0 (by decide) (by decide) ex739_28 (by first | assumption | omega) (by first | assumption | omega) ex739_33 (by first | assumption | omega) (by first | assumption | omega)) (cqV ?_)))
              rintro M105 ⟨hP106, hQ107, h109, h110⟩
              have hF108 : Fr fm_m9062_739 M0 M105 := hF0.tr hQ107 rfl
              obtain ⟨v111, e112⟩ : ∃ v, M105 739 28 = v := ⟨_, rfl⟩
              have h113 := bf_739_28 hP106; rw [e112] at h113
              have pr114 : GE M105 s0 u0 0 1 := GE_mn (Sm.fr hQ107 rfl) (fun q => by have := ex739_28; have := e112; omega) pp_F0
              refine wk_al0 r62_94 (wk_dupr r62_95 (wk_getfi r62_96 fd_739_47 ((hQ107.at g_739_47 rfl).trans ex739_47) (wk_c1 r62_99 (wk_iadd r62_100 (wk_putfi81 r62_101 fd_739_47 (wk_nw g_739_47 rfl hP106 hF108 (uf_739_47 ⟨by omega, by omega⟩) ?_))))))
              intro M115 hP116 hF117 e118
              subst hQ; exact wk_ret r62_104 (⟨rfl, hP116, hF117, by have := (mUp_no e118 ((hQ107.at g_739_30 rfl).trans ex739_30) (Or.inr (by decide))); have := (mUp_no e118 ((hQ107.at g_739_31 rfl).trans ex739_31) (Or.inr (by decide))); omega, by have := (mUp_no e118 ((hQ107.at g_739_31 rfl).trans ex739_31) (Or.inr (by decide))); have := (mUp_no e118 ((hQ107.at g_739_33 rfl).trans ex739_33) (Or.inr (by decide))); have := (mUp_no e118 ((hQ107.at g_739_34 rfl).trans ex739_34) (Or.inr (by decide))); omega, by have := (mUp_no e118 ((hQ107.at g_739_31 rfl).trans ex739_31) (Or.inr (by decide))); have := (mUp_no e118 ((hQ107.at g_739_33 rfl).trans ex739_33) (Or.inr (by decide))); have := (mUp_no e118 ((hQ107.at g_739_34 rfl).trans ex739_34) (Or.inr (by decide))); omega, by have := (mUp_no e118 ((hQ107.at g_739_34 rfl).trans ex739_34) (Or.inr (by decide))); have := (mUp_no e118 ((hQ107.at g_739_32 rfl).trans ex739_32) (Or.inr (by decide))); omega, by have := (mUp_no e118 ((hQ107.at g_739_33 rfl).trans ex739_33) (Or.inr (by decide))); omega, by have := (mUp_no e118 e112 (Or.inr (by decide))); omega, by have := (mUp_no e118 ((hQ107.at g_739_45 rfl).trans ex739_45) (Or.inr (by decide))); have := (mUp_no e118 ((hQ107.at g_739_46 rfl).trans ex739_46) (Or.inr (by decide))); omega, by have := (mUp_at e118); have := (mUp_no e118 e112 (Or.inr (by decide))); omega, by have := (mUp_at e118); omega, by have := (mUp_at e118); omega, by have := (mUp_at e118); omega, by have := (mUp_at e118); omega, (TK_sm (Sm.up e118 g_739_47 rfl) (TK_sm (Sm.fr hQ107 rfl) pp_TK)), (GE_deep e118 (by have := ((hQ107.at g_739_47 rfl).trans ex739_47); omega) pr114)⟩)
          · intro h119
            exfalso
            omega
        · intro h120
          refine wk_il1 r62_35 (wk_c2 r62_36 ?_)
          refine wk_iceq r62_38 ⟨by omega, by omega⟩ (by decide) ?_ ?_
          · intro h121
            refine wk_c1 r62_65 (wk_goto r62_66 (wk_is2 r62_70 rfl (wk_il2 r62_71 ?_)))
            refine wk_ifne r62_72 (by decide) ?_ ?_
            · intro h122
              refine wk_al0 r62_80 (wk_getfi r62_81 fd_739_47 ex739_47 (wk_c2 r62_84 ?_))
              refine wk_icne r62_86 ⟨by omega, by omega⟩ (by decide) ?_ ?_
              · intro h123
                refine wk_al0 r62_94 (wk_dupr r62_95 (wk_getfi r62_96 fd_739_47 ex739_47 (wk_c1 r62_99 (wk_iadd r62_100 (wk_putfi81 r62_101 fd_739_47 (wk_nw g_739_47 rfl hP0 hF0 (uf_739_47 ⟨by omega, by omega⟩) ?_))))))
                intro M124 hP125 hF126 e127
                subst hQ; exact wk_ret r62_104 (⟨rfl, hP125, hF126, by have := (mUp_no e127 ex739_30 (Or.inr (by decide))); have := (mUp_no e127 ex739_31 (Or.inr (by decide))); omega, by have := (mUp_no e127 ex739_31 (Or.inr (by decide))); have := (mUp_no e127 ex739_33 (Or.inr (by decide))); have := (mUp_no e127 ex739_34 (Or.inr (by decide))); omega, by have := (mUp_no e127 ex739_31 (Or.inr (by decide))); have := (mUp_no e127 ex739_33 (Or.inr (by decide))); have := (mUp_no e127 ex739_34 (Or.inr (by decide))); omega, by have := (mUp_no e127 ex739_34 (Or.inr (by decide))); have := (mUp_no e127 ex739_32 (Or.inr (by decide))); omega, by have := (mUp_no e127 ex739_33 (Or.inr (by decide))); omega, by have := (mUp_no e127 ex739_28 (Or.inr (by decide))); omega, by have := (mUp_no e127 ex739_45 (Or.inr (by decide))); have := (mUp_no e127 ex739_46 (Or.inr (by decide))); omega, by have := (mUp_at e127); have := (mUp_no e127 ex739_28 (Or.inr (by decide))); omega, by have := (mUp_at e127); omega, by have := (mUp_at e127); omega, by have := (mUp_at e127); omega, by have := (mUp_at e127); omega, (TK_sm (Sm.up e127 g_739_47 rfl) pp_TK), (GE_deep e127 (by have := ex739_47; omega) pp_F0)⟩)
              · intro h128
                refine wk_al0 r62_89 (wk_c1 r62_90 (wk_cv2 r62_91 kc_739_137 rfl (m9137_739 _ M0 2 x739_28 x739_33 hP0 (by decide) (by decide) ex739_28 (by first | assumption | omega) (by first | assumption | omega) ex739_33 (by first | assumption | omega) (by first | assumption | omega)) (cqV ?_)))
                rintro M129 ⟨hP130, hQ131, h133, h134⟩
                have hF132 : Fr fm_m9062_739 M0 M129 := hF0.tr hQ131 rfl
                obtain ⟨v135, e136⟩ : ∃ v, M129 739 28 = v := ⟨_, rfl⟩
                have h137 := bf_739_28 hP130; rw [e136] at h137
                have pr138 : GE M129 s0 u0 0 1 := GE_mn (Sm.fr hQ131 rfl) (fun q => by have := ex739_28; have := e136; omega) pp_F0
                refine wk_al0 r62_94 (wk_dupr r62_95 (wk_getfi r62_96 fd_739_47 ((hQ131.at g_739_47 rfl).trans ex739_47) (wk_c1 r62_99 (wk_iadd r62_100 (wk_putfi81 r62_101 fd_739_47 (wk_nw g_739_47 rfl hP130 hF132 (uf_739_47 ⟨by omega, by omega⟩) ?_))))))
                intro M139 hP140 hF141 e142
                subst hQ; exact wk_ret r62_104 (⟨rfl, hP140, hF141, by have := (mUp_no e142 ((hQ131.at g_739_30 rfl).trans ex739_30) (Or.inr (by decide))); have := (mUp_no e142 ((hQ131.at g_739_31 rfl).trans ex739_31) (Or.inr (by decide))); omega, by have := (mUp_no e142 ((hQ131.at g_739_31 rfl).trans ex739_31) (Or.inr (by decide))); have := (mUp_no e142 ((hQ131.at g_739_33 rfl).trans ex739_33) (Or.inr (by decide))); have := (mUp_no e142 ((hQ131.at g_739_34 rfl).trans ex739_34) (Or.inr (by decide))); omega, by have := (mUp_no e142 ((hQ131.at g_739_31 rfl).trans ex739_31) (Or.inr (by decide))); have := (mUp_no e142 ((hQ131.at g_739_33 rfl).trans ex739_33) (Or.inr (by decide))); have := (mUp_no e142 ((hQ131.at g_739_34 rfl).trans ex739_34) (Or.inr (by decide))); omega, by have := (mUp_no e142 ((hQ131.at g_739_34 rfl).trans ex739_34) (Or.inr (by decide))); have := (mUp_no e142 ((hQ131.at g_739_32 rfl).trans ex739_32) (Or.inr (by decide))); omega, by have := (mUp_no e142 ((hQ131.at g_739_33 rfl).trans ex739_33) (Or.inr (by decide))); omega, by have := (mUp_no e142 e136 (Or.inr (by decide))); omega, by have := (mUp_no e142 ((hQ131.at g_739_45 rfl).trans ex739_45) (Or.inr (by decide))); have := (mUp_no e142 ((hQ131.at g_739_46 rfl).trans ex739_46) (Or.inr (by decide))); omega, by have := (mUp_at e142); have := (mUp_no e142 e136 (Or.inr (by decide))); omega, by have := (mUp_at e142); omega, by have := (mUp_at e142); omega, by have := (mUp_at e142); omega, by have := (mUp_at e142); omega, (TK_sm (Sm.up e142 g_739_47 rfl) (TK_sm (Sm.fr hQ131 rfl) pp_TK)), (GE_deep e142 (by have := ((hQ131.at g_739_47 rfl).trans ex739_47); omega) pr138)⟩)
            · intro h143
              exfalso
              omega
          · intro h144
            refine wk_il1 r62_41 (wk_c2 r62_42 ?_)
            refine wk_iceq r62_44 ⟨by omega, by omega⟩ (by decide) ?_ ?_
            · intro h145
              refine wk_c1 r62_65 (wk_goto r62_66 (wk_is2 r62_70 rfl (wk_il2 r62_71 ?_)))
              refine wk_ifne r62_72 (by decide) ?_ ?_
              · intro h146
                refine wk_al0 r62_80 (wk_getfi r62_81 fd_739_47 ex739_47 (wk_c2 r62_84 ?_))
                refine wk_icne r62_86 ⟨by omega, by omega⟩ (by decide) ?_ ?_
                · intro h147
                  refine wk_al0 r62_94 (wk_dupr r62_95 (wk_getfi r62_96 fd_739_47 ex739_47 (wk_c1 r62_99 (wk_iadd r62_100 (wk_putfi81 r62_101 fd_739_47 (wk_nw g_739_47 rfl hP0 hF0 (uf_739_47 ⟨by omega, by omega⟩) ?_))))))
                  intro M148 hP149 hF150 e151
                  subst hQ; exact wk_ret r62_104 (⟨rfl, hP149, hF150, by have := (mUp_no e151 ex739_30 (Or.inr (by decide))); have := (mUp_no e151 ex739_31 (Or.inr (by decide))); omega, by have := (mUp_no e151 ex739_31 (Or.inr (by decide))); have := (mUp_no e151 ex739_33 (Or.inr (by decide))); have := (mUp_no e151 ex739_34 (Or.inr (by decide))); omega, by have := (mUp_no e151 ex739_31 (Or.inr (by decide))); have := (mUp_no e151 ex739_33 (Or.inr (by decide))); have := (mUp_no e151 ex739_34 (Or.inr (by decide))); omega, by have := (mUp_no e151 ex739_34 (Or.inr (by decide))); have := (mUp_no e151 ex739_32 (Or.inr (by decide))); omega, by have := (mUp_no e151 ex739_33 (Or.inr (by decide))); omega, by have := (mUp_no e151 ex739_28 (Or.inr (by decide))); omega, by have := (mUp_no e151 ex739_45 (Or.inr (by decide))); have := (mUp_no e151 ex739_46 (Or.inr (by decide))); omega, by have := (mUp_at e151); have := (mUp_no e151 ex739_28 (Or.inr (by decide))); omega, by have := (mUp_at e151); omega, by have := (mUp_at e151); omega, by have := (mUp_at e151); omega, by have := (mUp_at e151); omega, (TK_sm (Sm.up e151 g_739_47 rfl) pp_TK), (GE_deep e151 (by have := ex739_47; omega) pp_F0)⟩)
                · intro h152
                  refine wk_al0 r62_89 (wk_c1 r62_90 (wk_cv2 r62_91 kc_739_137 rfl (m9137_739 _ M0 2 x739_28 x739_33 hP0 (by decide) (by decide) ex739_28 (by first | assumption | omega) (by first | assumption | omega) ex739_33 (by first | assumption | omega) (by first | assumption | omega)) (cqV ?_)))
                  rintro M153 ⟨hP154, hQ155, h157, h158⟩
                  have hF156 : Fr fm_m9062_739 M0 M153 := hF0.tr hQ155 rfl
                  obtain ⟨v159, e160⟩ : ∃ v, M153 739 28 = v := ⟨_, rfl⟩
                  have h161 := bf_739_28 hP154; rw [e160] at h161
                  have pr162 : GE M153 s0 u0 0 1 := GE_mn (Sm.fr hQ155 rfl) (fun q => by have := ex739_28; have := e160; omega) pp_F0
                  refine wk_al0 r62_94 (wk_dupr r62_95 (wk_getfi r62_96 fd_739_47 ((hQ155.at g_739_47 rfl).trans ex739_47) (wk_c1 r62_99 (wk_iadd r62_100 (wk_putfi81 r62_101 fd_739_47 (wk_nw g_739_47 rfl hP154 hF156 (uf_739_47 ⟨by omega, by omega⟩) ?_))))))
                  intro M163 hP164 hF165 e166
                  subst hQ; exact wk_ret r62_104 (⟨rfl, hP164, hF165, by have := (mUp_no e166 ((hQ155.at g_739_30 rfl).trans ex739_30) (Or.inr (by decide))); have := (mUp_no e166 ((hQ155.at g_739_31 rfl).trans ex739_31) (Or.inr (by decide))); omega, by have := (mUp_no e166 ((hQ155.at g_739_31 rfl).trans ex739_31) (Or.inr (by decide))); have := (mUp_no e166 ((hQ155.at g_739_33 rfl).trans ex739_33) (Or.inr (by decide))); have := (mUp_no e166 ((hQ155.at g_739_34 rfl).trans ex739_34) (Or.inr (by decide))); omega, by have := (mUp_no e166 ((hQ155.at g_739_31 rfl).trans ex739_31) (Or.inr (by decide))); have := (mUp_no e166 ((hQ155.at g_739_33 rfl).trans ex739_33) (Or.inr (by decide))); have := (mUp_no e166 ((hQ155.at g_739_34 rfl).trans ex739_34) (Or.inr (by decide))); omega, by have := (mUp_no e166 ((hQ155.at g_739_34 rfl).trans ex739_34) (Or.inr (by decide))); have := (mUp_no e166 ((hQ155.at g_739_32 rfl).trans ex739_32) (Or.inr (by decide))); omega, by have := (mUp_no e166 ((hQ155.at g_739_33 rfl).trans ex739_33) (Or.inr (by decide))); omega, by have := (mUp_no e166 e160 (Or.inr (by decide))); omega, by have := (mUp_no e166 ((hQ155.at g_739_45 rfl).trans ex739_45) (Or.inr (by decide))); have := (mUp_no e166 ((hQ155.at g_739_46 rfl).trans ex739_46) (Or.inr (by decide))); omega, by have := (mUp_at e166); have := (mUp_no e166 e160 (Or.inr (by decide))); omega, by have := (mUp_at e166); omega, by have := (mUp_at e166); omega, by have := (mUp_at e166); omega, by have := (mUp_at e166); omega, (TK_sm (Sm.up e166 g_739_47 rfl) (TK_sm (Sm.fr hQ155 rfl) pp_TK)), (GE_deep e166 (by have := ((hQ155.at g_739_47 rfl).trans ex739_47); omega) pr162)⟩)
              · intro h167
                exfalso
                omega
            · intro h168
              refine wk_il1 r62_47 (wk_c2 r62_48 ?_)
              refine wk_iceq r62_50 ⟨by omega, by omega⟩ (by decide) ?_ ?_
              · intro h169
                refine wk_c1 r62_65 (wk_goto r62_66 (wk_is2 r62_70 rfl (wk_il2 r62_71 ?_)))
                refine wk_ifne r62_72 (by decide) ?_ ?_
                · intro h170
                  refine wk_al0 r62_80 (wk_getfi r62_81 fd_739_47 ex739_47 (wk_c2 r62_84 ?_))
                  refine wk_icne r62_86 ⟨by omega, by omega⟩ (by decide) ?_ ?_
                  · intro h171
                    refine wk_al0 r62_94 (wk_dupr r62_95 (wk_getfi r62_96 fd_739_47 ex739_47 (wk_c1 r62_99 (wk_iadd r62_100 (wk_putfi81 r62_101 fd_739_47 (wk_nw g_739_47 rfl hP0 hF0 (uf_739_47 ⟨by omega, by omega⟩) ?_))))))
                    intro M172 hP173 hF174 e175
                    subst hQ; exact wk_ret r62_104 (⟨rfl, hP173, hF174, by have := (mUp_no e175 ex739_30 (Or.inr (by decide))); have := (mUp_no e175 ex739_31 (Or.inr (by decide))); omega, by have := (mUp_no e175 ex739_31 (Or.inr (by decide))); have := (mUp_no e175 ex739_33 (Or.inr (by decide))); have := (mUp_no e175 ex739_34 (Or.inr (by decide))); omega, by have := (mUp_no e175 ex739_31 (Or.inr (by decide))); have := (mUp_no e175 ex739_33 (Or.inr (by decide))); have := (mUp_no e175 ex739_34 (Or.inr (by decide))); omega, by have := (mUp_no e175 ex739_34 (Or.inr (by decide))); have := (mUp_no e175 ex739_32 (Or.inr (by decide))); omega, by have := (mUp_no e175 ex739_33 (Or.inr (by decide))); omega, by have := (mUp_no e175 ex739_28 (Or.inr (by decide))); omega, by have := (mUp_no e175 ex739_45 (Or.inr (by decide))); have := (mUp_no e175 ex739_46 (Or.inr (by decide))); omega, by have := (mUp_at e175); have := (mUp_no e175 ex739_28 (Or.inr (by decide))); omega, by have := (mUp_at e175); omega, by have := (mUp_at e175); omega, by have := (mUp_at e175); omega, by have := (mUp_at e175); omega, (TK_sm (Sm.up e175 g_739_47 rfl) pp_TK), (GE_deep e175 (by have := ex739_47; omega) pp_F0)⟩)
                  · intro h176
                    refine wk_al0 r62_89 (wk_c1 r62_90 (wk_cv2 r62_91 kc_739_137 rfl (m9137_739 _ M0 2 x739_28 x739_33 hP0 (by decide) (by decide) ex739_28 (by first | assumption | omega) (by first | assumption | omega) ex739_33 (by first | assumption | omega) (by first | assumption | omega)) (cqV ?_)))
                    rintro M177 ⟨hP178, hQ179, h181, h182⟩
                    have hF180 : Fr fm_m9062_739 M0 M177 := hF0.tr hQ179 rfl
                    obtain ⟨v183, e184⟩ : ∃ v, M177 739 28 = v := ⟨_, rfl⟩
                    have h185 := bf_739_28 hP178; rw [e184] at h185
                    have pr186 : GE M177 s0 u0 0 1 := GE_mn (Sm.fr hQ179 rfl) (fun q => by have := ex739_28; have := e184; omega) pp_F0
                    refine wk_al0 r62_94 (wk_dupr r62_95 (wk_getfi r62_96 fd_739_47 ((hQ179.at g_739_47 rfl).trans ex739_47) (wk_c1 r62_99 (wk_iadd r62_100 (wk_putfi81 r62_101 fd_739_47 (wk_nw g_739_47 rfl hP178 hF180 (uf_739_47 ⟨by omega, by omega⟩) ?_))))))
                    intro M187 hP188 hF189 e190
                    subst hQ; exact wk_ret r62_104 (⟨rfl, hP188, hF189, by have := (mUp_no e190 ((hQ179.at g_739_30 rfl).trans ex739_30) (Or.inr (by decide))); have := (mUp_no e190 ((hQ179.at g_739_31 rfl).trans ex739_31) (Or.inr (by decide))); omega, by have := (mUp_no e190 ((hQ179.at g_739_31 rfl).trans ex739_31) (Or.inr (by decide))); have := (mUp_no e190 ((hQ179.at g_739_33 rfl).trans ex739_33) (Or.inr (by decide))); have := (mUp_no e190 ((hQ179.at g_739_34 rfl).trans ex739_34) (Or.inr (by decide))); omega, by have := (mUp_no e190 ((hQ179.at g_739_31 rfl).trans ex739_31) (Or.inr (by decide))); have := (mUp_no e190 ((hQ179.at g_739_33 rfl).trans ex739_33) (Or.inr (by decide))); have := (mUp_no e190 ((hQ179.at g_739_34 rfl).trans ex739_34) (Or.inr (by decide))); omega, by have := (mUp_no e190 ((hQ179.at g_739_34 rfl).trans ex739_34) (Or.inr (by decide))); have := (mUp_no e190 ((hQ179.at g_739_32 rfl).trans ex739_32) (Or.inr (by decide))); omega, by have := (mUp_no e190 ((hQ179.at g_739_33 rfl).trans ex739_33) (Or.inr (by decide))); omega, by have := (mUp_no e190 e184 (Or.inr (by decide))); omega, by have := (mUp_no e190 ((hQ179.at g_739_45 rfl).trans ex739_45) (Or.inr (by decide))); have := (mUp_no e190 ((hQ179.at g_739_46 rfl).trans ex739_46) (Or.inr (by decide))); omega, by have := (mUp_at e190); have := (mUp_no e190 e184 (Or.inr (by decide))); omega, by have := (mUp_at e190); omega, by have := (mUp_at e190); omega, by have := (mUp_at e190); omega, by have := (mUp_at e190); omega, (TK_sm (Sm.up e190 g_739_47 rfl) (TK_sm (Sm.fr hQ179 rfl) pp_TK)), (GE_deep e190 (by have := ((hQ179.at g_739_47 rfl).trans ex739_47); omega) pr186)⟩)
                · intro h191
                  exfalso
                  omega
              · intro h192
                refine wk_il1 r62_53 (wk_c2 r62_54 ?_)
                refine wk_iceq r62_56 ⟨by omega, by omega⟩ (by decide) ?_ ?_
                · intro h193
                  refine wk_c1 r62_65 (wk_goto r62_66 (wk_is2 r62_70 rfl (wk_il2 r62_71 ?_)))
                  refine wk_ifne r62_72 (by decide) ?_ ?_
                  · intro h194
                    refine wk_al0 r62_80 (wk_getfi r62_81 fd_739_47 ex739_47 (wk_c2 r62_84 ?_))
                    refine wk_icne r62_86 ⟨by omega, by omega⟩ (by decide) ?_ ?_
                    · intro h195
                      refine wk_al0 r62_94 (wk_dupr r62_95 (wk_getfi r62_96 fd_739_47 ex739_47 (wk_c1 r62_99 (wk_iadd r62_100 (wk_putfi81 r62_101 fd_739_47 (wk_nw g_739_47 rfl hP0 hF0 (uf_739_47 ⟨by omega, by omega⟩) ?_))))))
                      intro M196 hP197 hF198 e199
                      subst hQ; exact wk_ret r62_104 (⟨rfl, hP197, hF198, by have := (mUp_no e199 ex739_30 (Or.inr (by decide))); have := (mUp_no e199 ex739_31 (Or.inr (by decide))); omega, by have := (mUp_no e199 ex739_31 (Or.inr (by decide))); have := (mUp_no e199 ex739_33 (Or.inr (by decide))); have := (mUp_no e199 ex739_34 (Or.inr (by decide))); omega, by have := (mUp_no e199 ex739_31 (Or.inr (by decide))); have := (mUp_no e199 ex739_33 (Or.inr (by decide))); have := (mUp_no e199 ex739_34 (Or.inr (by decide))); omega, by have := (mUp_no e199 ex739_34 (Or.inr (by decide))); have := (mUp_no e199 ex739_32 (Or.inr (by decide))); omega, by have := (mUp_no e199 ex739_33 (Or.inr (by decide))); omega, by have := (mUp_no e199 ex739_28 (Or.inr (by decide))); omega, by have := (mUp_no e199 ex739_45 (Or.inr (by decide))); have := (mUp_no e199 ex739_46 (Or.inr (by decide))); omega, by have := (mUp_at e199); have := (mUp_no e199 ex739_28 (Or.inr (by decide))); omega, by have := (mUp_at e199); omega, by have := (mUp_at e199); omega, by have := (mUp_at e199); omega, by have := (mUp_at e199); omega, (TK_sm (Sm.up e199 g_739_47 rfl) pp_TK), (GE_deep e199 (by have := ex739_47; omega) pp_F0)⟩)
                    · intro h200
                      refine wk_al0 r62_89 (wk_c1 r62_90 (wk_cv2 r62_91 kc_739_137 rfl (m9137_739 _ M0 2 x739_28 x739_33 hP0 (by decide) (by decide) ex739_28 (by first | assumption | omega) (by first | assumption | omega) ex739_33 (by first | assumption | omega) (by first | assumption | omega)) (cqV ?_)))
                      rintro M201 ⟨hP202, hQ203, h205, h206⟩
                      have hF204 : Fr fm_m9062_739 M0 M201 := hF0.tr hQ203 rfl
                      obtain ⟨v207, e208⟩ : ∃ v, M201 739 28 = v := ⟨_, rfl⟩
                      have h209 := bf_739_28 hP202; rw [e208] at h209
                      have pr210 : GE M201 s0 u0 0 1 := GE_mn (Sm.fr hQ203 rfl) (fun q => by have := ex739_28; have := e208; omega) pp_F0
                      refine wk_al0 r62_94 (wk_dupr r62_95 (wk_getfi r62_96 fd_739_47 ((hQ203.at g_739_47 rfl).trans ex739_47) (wk_c1 r62_99 (wk_iadd r62_100 (wk_putfi81 r62_101 fd_739_47 (wk_nw g_739_47 rfl hP202 hF204 (uf_739_47 ⟨by omega, by omega⟩) ?_))))))
                      intro M211 hP212 hF213 e214
                      subst hQ; exact wk_ret r62_104 (⟨rfl, hP212, hF213, by have := (mUp_no e214 ((hQ203.at g_739_30 rfl).trans ex739_30) (Or.inr (by decide))); have := (mUp_no e214 ((hQ203.at g_739_31 rfl).trans ex739_31) (Or.inr (by decide))); omega, by have := (mUp_no e214 ((hQ203.at g_739_31 rfl).trans ex739_31) (Or.inr (by decide))); have := (mUp_no e214 ((hQ203.at g_739_33 rfl).trans ex739_33) (Or.inr (by decide))); have := (mUp_no e214 ((hQ203.at g_739_34 rfl).trans ex739_34) (Or.inr (by decide))); omega, by have := (mUp_no e214 ((hQ203.at g_739_31 rfl).trans ex739_31) (Or.inr (by decide))); have := (mUp_no e214 ((hQ203.at g_739_33 rfl).trans ex739_33) (Or.inr (by decide))); have := (mUp_no e214 ((hQ203.at g_739_34 rfl).trans ex739_34) (Or.inr (by decide))); omega, by have := (mUp_no e214 ((hQ203.at g_739_34 rfl).trans ex739_34) (Or.inr (by decide))); have := (mUp_no e214 ((hQ203.at g_739_32 rfl).trans ex739_32) (Or.inr (by decide))); omega, by have := (mUp_no e214 ((hQ203.at g_739_33 rfl).trans ex739_33) (Or.inr (by decide))); omega, by have := (mUp_no e214 e208 (Or.inr (by decide))); omega, by have := (mUp_no e214 ((hQ203.at g_739_45 rfl).trans ex739_45) (Or.inr (by decide))); have := (mUp_no e214 ((hQ203.at g_739_46 rfl).trans ex739_46) (Or.inr (by decide))); omega, by have := (mUp_at e214); have := (mUp_no e214 e208 (Or.inr (by decide))); omega, by have := (mUp_at e214); omega, by have := (mUp_at e214); omega, by have := (mUp_at e214); omega, by have := (mUp_at e214); omega, (TK_sm (Sm.up e214 g_739_47 rfl) (TK_sm (Sm.fr hQ203 rfl) pp_TK)), (GE_deep e214 (by have := ((hQ203.at g_739_47 rfl).trans ex739_47); omega) pr210)⟩)
                  · intro h215
                    exfalso
                    omega
                · intro h216
                  refine wk_il1 r62_59 (wk_c2 r62_60 ?_)
                  refine wk_icne r62_62 ⟨by omega, by omega⟩ (by decide) ?_ ?_
                  · intro h217
                    refine wk_c1 r62_69 (wk_is2 r62_70 rfl (wk_il2 r62_71 ?_))
                    refine wk_ifne r62_72 (by decide) ?_ ?_
                    · intro h218
                      exfalso
                      omega
                    · intro h219
                      refine wk_al0 r62_75 (wk_c1 r62_76 (wk_cv2 r62_77 kc_739_137 rfl (m9137_739 _ M0 1 x739_28 x739_33 hP0 (by decide) (by decide) ex739_28 (by first | assumption | omega) (by first | assumption | omega) ex739_33 (by first | assumption | omega) (by first | assumption | omega)) (cqV ?_)))
                      rintro M220 ⟨hP221, hQ222, h224, h225⟩
                      have hF223 : Fr fm_m9062_739 M0 M220 := hF0.tr hQ222 rfl
                      obtain ⟨v226, e227⟩ : ∃ v, M220 739 28 = v := ⟨_, rfl⟩
                      have h228 := bf_739_28 hP221; rw [e227] at h228
                      have pr229 : GE M220 s0 u0 0 1 := GE_mn (Sm.fr hQ222 rfl) (fun q => by have := ex739_28; have := e227; omega) pp_F0
                      refine wk_al0 r62_80 (wk_getfi r62_81 fd_739_47 ((hQ222.at g_739_47 rfl).trans ex739_47) (wk_c2 r62_84 ?_))
                      refine wk_icne r62_86 ⟨by omega, by omega⟩ (by decide) ?_ ?_
                      · intro h230
                        refine wk_al0 r62_94 (wk_dupr r62_95 (wk_getfi r62_96 fd_739_47 ((hQ222.at g_739_47 rfl).trans ex739_47) (wk_c1 r62_99 (wk_iadd r62_100 (wk_putfi81 r62_101 fd_739_47 (wk_nw g_739_47 rfl hP221 hF223 (uf_739_47 ⟨by omega, by omega⟩) ?_))))))
                        intro M231 hP232 hF233 e234
                        subst hQ; exact wk_ret r62_104 (⟨rfl, hP232, hF233, by have := (mUp_no e234 ((hQ222.at g_739_30 rfl).trans ex739_30) (Or.inr (by decide))); have := (mUp_no e234 ((hQ222.at g_739_31 rfl).trans ex739_31) (Or.inr (by decide))); omega, by have := (mUp_no e234 ((hQ222.at g_739_31 rfl).trans ex739_31) (Or.inr (by decide))); have := (mUp_no e234 ((hQ222.at g_739_33 rfl).trans ex739_33) (Or.inr (by decide))); have := (mUp_no e234 ((hQ222.at g_739_34 rfl).trans ex739_34) (Or.inr (by decide))); omega, by have := (mUp_no e234 ((hQ222.at g_739_31 rfl).trans ex739_31) (Or.inr (by decide))); have := (mUp_no e234 ((hQ222.at g_739_33 rfl).trans ex739_33) (Or.inr (by decide))); have := (mUp_no e234 ((hQ222.at g_739_34 rfl).trans ex739_34) (Or.inr (by decide))); omega, by have := (mUp_no e234 ((hQ222.at g_739_34 rfl).trans ex739_34) (Or.inr (by decide))); have := (mUp_no e234 ((hQ222.at g_739_32 rfl).trans ex739_32) (Or.inr (by decide))); omega, by have := (mUp_no e234 ((hQ222.at g_739_33 rfl).trans ex739_33) (Or.inr (by decide))); omega, by have := (mUp_no e234 e227 (Or.inr (by decide))); omega, by have := (mUp_no e234 ((hQ222.at g_739_45 rfl).trans ex739_45) (Or.inr (by decide))); have := (mUp_no e234 ((hQ222.at g_739_46 rfl).trans ex739_46) (Or.inr (by decide))); omega, by have := (mUp_at e234); have := (mUp_no e234 e227 (Or.inr (by decide))); omega, by have := (mUp_at e234); omega, by have := (mUp_at e234); omega, by have := (mUp_at e234); omega, by have := (mUp_at e234); omega, (TK_sm (Sm.up e234 g_739_47 rfl) (TK_sm (Sm.fr hQ222 rfl) pp_TK)), (GE_deep e234 (by have := ((hQ222.at g_739_47 rfl).trans ex739_47); omega) pr229)⟩)
                      · intro h235
                        refine wk_al0 r62_89 (wk_c1 r62_90 (wk_cv2 r62_91 kc_739_137 rfl (m9137_739 _ M220 2 v226 x739_33 hP221 (by decide) (by decide) e227 (by first | assumption | omega) (by first | assumption | omega) ((hQ222.at g_739_33 rfl).trans ex739_33) (by first | assumption | omega) (by first | assumption | omega)) (cqV ?_)))
                        rintro M236 ⟨hP237, hQ238, h240, h241⟩
                        have hF239 : Fr fm_m9062_739 M0 M236 := hF223.tr hQ238 rfl
                        obtain ⟨v242, e243⟩ : ∃ v, M236 739 28 = v := ⟨_, rfl⟩
                        have h244 := bf_739_28 hP237; rw [e243] at h244
                        have pr245 : GE M236 s0 u0 0 1 := GE_mn (Sm.fr hQ238 rfl) (fun q => by have := e227; have := e243; omega) pr229
                        refine wk_al0 r62_94 (wk_dupr r62_95 (wk_getfi r62_96 fd_739_47 ((hQ238.at g_739_47 rfl).trans ((hQ222.at g_739_47 rfl).trans ex739_47)) (wk_c1 r62_99 (wk_iadd r62_100 (wk_putfi81 r62_101 fd_739_47 (wk_nw g_739_47 rfl hP237 hF239 (uf_739_47 ⟨by omega, by omega⟩) ?_))))))
                        intro M246 hP247 hF248 e249
                        subst hQ; exact wk_ret r62_104 (⟨rfl, hP247, hF248, by have := (mUp_no e249 ((hQ238.at g_739_30 rfl).trans ((hQ222.at g_739_30 rfl).trans ex739_30)) (Or.inr (by decide))); have := (mUp_no e249 ((hQ238.at g_739_31 rfl).trans ((hQ222.at g_739_31 rfl).trans ex739_31)) (Or.inr (by decide))); omega, by have := (mUp_no e249 ((hQ238.at g_739_31 rfl).trans ((hQ222.at g_739_31 rfl).trans ex739_31)) (Or.inr (by decide))); have := (mUp_no e249 ((hQ238.at g_739_33 rfl).trans ((hQ222.at g_739_33 rfl).trans ex739_33)) (Or.inr (by decide))); have := (mUp_no e249 ((hQ238.at g_739_34 rfl).trans ((hQ222.at g_739_34 rfl).trans ex739_34)) (Or.inr (by decide))); omega, by have := (mUp_no e249 ((hQ238.at g_739_31 rfl).trans ((hQ222.at g_739_31 rfl).trans ex739_31)) (Or.inr (by decide))); have := (mUp_no e249 ((hQ238.at g_739_33 rfl).trans ((hQ222.at g_739_33 rfl).trans ex739_33)) (Or.inr (by decide))); have := (mUp_no e249 ((hQ238.at g_739_34 rfl).trans ((hQ222.at g_739_34 rfl).trans ex739_34)) (Or.inr (by decide))); omega, by have := (mUp_no e249 ((hQ238.at g_739_34 rfl).trans ((hQ222.at g_739_34 rfl).trans ex739_34)) (Or.inr (by decide))); have := (mUp_no e249 ((hQ238.at g_739_32 rfl).trans ((hQ222.at g_739_32 rfl).trans ex739_32)) (Or.inr (by decide))); omega, by have := (mUp_no e249 ((hQ238.at g_739_33 rfl).trans ((hQ222.at g_739_33 rfl).trans ex739_33)) (Or.inr (by decide))); omega, by have := (mUp_no e249 e243 (Or.inr (by decide))); omega, by have := (mUp_no e249 ((hQ238.at g_739_45 rfl).trans ((hQ222.at g_739_45 rfl).trans ex739_45)) (Or.inr (by decide))); have := (mUp_no e249 ((hQ238.at g_739_46 rfl).trans ((hQ222.at g_739_46 rfl).trans ex739_46)) (Or.inr (by decide))); omega, by have := (mUp_at e249); have := (mUp_no e249 e243 (Or.inr (by decide))); omega, by have := (mUp_at e249); omega, by have := (mUp_at e249); omega, by have := (mUp_at e249); omega, by have := (mUp_at e249); omega, (TK_sm (Sm.up e249 g_739_47 rfl) (TK_sm (Sm.fr hQ238 rfl) (TK_sm (Sm.fr hQ222 rfl) pp_TK))), (GE_deep e249 (by have := ((hQ238.at g_739_47 rfl).trans ((hQ222.at g_739_47 rfl).trans ex739_47)); omega) pr245)⟩)
                  · intro h250
                    refine wk_c1 r62_65 (wk_goto r62_66 (wk_is2 r62_70 rfl (wk_il2 r62_71 ?_)))
                    refine wk_ifne r62_72 (by decide) ?_ ?_
                    · intro h251
                      refine wk_al0 r62_80 (wk_getfi r62_81 fd_739_47 ex739_47 (wk_c2 r62_84 ?_))
                      refine wk_icne r62_86 ⟨by omega, by omega⟩ (by decide) ?_ ?_
                      · intro h252
                        refine wk_al0 r62_94 (wk_dupr r62_95 (wk_getfi r62_96 fd_739_47 ex739_47 (wk_c1 r62_99 (wk_iadd r62_100 (wk_putfi81 r62_101 fd_739_47 (wk_nw g_739_47 rfl hP0 hF0 (uf_739_47 ⟨by omega, by omega⟩) ?_))))))
                        intro M253 hP254 hF255 e256
                        subst hQ; exact wk_ret r62_104 (⟨rfl, hP254, hF255, by have := (mUp_no e256 ex739_30 (Or.inr (by decide))); have := (mUp_no e256 ex739_31 (Or.inr (by decide))); omega, by have := (mUp_no e256 ex739_31 (Or.inr (by decide))); have := (mUp_no e256 ex739_33 (Or.inr (by decide))); have := (mUp_no e256 ex739_34 (Or.inr (by decide))); omega, by have := (mUp_no e256 ex739_31 (Or.inr (by decide))); have := (mUp_no e256 ex739_33 (Or.inr (by decide))); have := (mUp_no e256 ex739_34 (Or.inr (by decide))); omega, by have := (mUp_no e256 ex739_34 (Or.inr (by decide))); have := (mUp_no e256 ex739_32 (Or.inr (by decide))); omega, by have := (mUp_no e256 ex739_33 (Or.inr (by decide))); omega, by have := (mUp_no e256 ex739_28 (Or.inr (by decide))); omega, by have := (mUp_no e256 ex739_45 (Or.inr (by decide))); have := (mUp_no e256 ex739_46 (Or.inr (by decide))); omega, by have := (mUp_at e256); have := (mUp_no e256 ex739_28 (Or.inr (by decide))); omega, by have := (mUp_at e256); omega, by have := (mUp_at e256); omega, by have := (mUp_at e256); omega, by have := (mUp_at e256); omega, (TK_sm (Sm.up e256 g_739_47 rfl) pp_TK), (GE_deep e256 (by have := ex739_47; omega) pp_F0)⟩)
                      · intro h257
                        refine wk_al0 r62_89 (wk_c1 r62_90 (wk_cv2 r62_91 kc_739_137 rfl (m9137_739 _ M0 2 x739_28 x739_33 hP0 (by decide) (by decide) ex739_28 (by first | assumption | omega) (by first | assumption | omega) ex739_33 (by first | assumption | omega) (by first | assumption | omega)) (cqV ?_)))
                        rintro M258 ⟨hP259, hQ260, h262, h263⟩
                        have hF261 : Fr fm_m9062_739 M0 M258 := hF0.tr hQ260 rfl
                        obtain ⟨v264, e265⟩ : ∃ v, M258 739 28 = v := ⟨_, rfl⟩
                        have h266 := bf_739_28 hP259; rw [e265] at h266
                        have pr267 : GE M258 s0 u0 0 1 := GE_mn (Sm.fr hQ260 rfl) (fun q => by have := ex739_28; have := e265; omega) pp_F0
                        refine wk_al0 r62_94 (wk_dupr r62_95 (wk_getfi r62_96 fd_739_47 ((hQ260.at g_739_47 rfl).trans ex739_47) (wk_c1 r62_99 (wk_iadd r62_100 (wk_putfi81 r62_101 fd_739_47 (wk_nw g_739_47 rfl hP259 hF261 (uf_739_47 ⟨by omega, by omega⟩) ?_))))))
                        intro M268 hP269 hF270 e271
                        subst hQ; exact wk_ret r62_104 (⟨rfl, hP269, hF270, by have := (mUp_no e271 ((hQ260.at g_739_30 rfl).trans ex739_30) (Or.inr (by decide))); have := (mUp_no e271 ((hQ260.at g_739_31 rfl).trans ex739_31) (Or.inr (by decide))); omega, by have := (mUp_no e271 ((hQ260.at g_739_31 rfl).trans ex739_31) (Or.inr (by decide))); have := (mUp_no e271 ((hQ260.at g_739_33 rfl).trans ex739_33) (Or.inr (by decide))); have := (mUp_no e271 ((hQ260.at g_739_34 rfl).trans ex739_34) (Or.inr (by decide))); omega, by have := (mUp_no e271 ((hQ260.at g_739_31 rfl).trans ex739_31) (Or.inr (by decide))); have := (mUp_no e271 ((hQ260.at g_739_33 rfl).trans ex739_33) (Or.inr (by decide))); have := (mUp_no e271 ((hQ260.at g_739_34 rfl).trans ex739_34) (Or.inr (by decide))); omega, by have := (mUp_no e271 ((hQ260.at g_739_34 rfl).trans ex739_34) (Or.inr (by decide))); have := (mUp_no e271 ((hQ260.at g_739_32 rfl).trans ex739_32) (Or.inr (by decide))); omega, by have := (mUp_no e271 ((hQ260.at g_739_33 rfl).trans ex739_33) (Or.inr (by decide))); omega, by have := (mUp_no e271 e265 (Or.inr (by decide))); omega, by have := (mUp_no e271 ((hQ260.at g_739_45 rfl).trans ex739_45) (Or.inr (by decide))); have := (mUp_no e271 ((hQ260.at g_739_46 rfl).trans ex739_46) (Or.inr (by decide))); omega, by have := (mUp_at e271); have := (mUp_no e271 e265 (Or.inr (by decide))); omega, by have := (mUp_at e271); omega, by have := (mUp_at e271); omega, by have := (mUp_at e271); omega, by have := (mUp_at e271); omega, (TK_sm (Sm.up e271 g_739_47 rfl) (TK_sm (Sm.fr hQ260 rfl) pp_TK)), (GE_deep e271 (by have := ((hQ260.at g_739_47 rfl).trans ex739_47); omega) pr267)⟩)
                    · intro h272
                      exfalso
                      omega
  · intro h273
    subst hQ; exact wk_ret r62_7 (⟨rfl, hP0, hF0, by have := ex739_30; have := ex739_31; omega, by have := ex739_31; have := ex739_33; have := ex739_34; omega, by have := ex739_31; have := ex739_33; have := ex739_34; omega, by have := ex739_34; have := ex739_32; omega, by have := ex739_33; omega, by have := ex739_28; omega, by have := ex739_45; have := ex739_46; omega, by have := ex739_47; have := ex739_28; omega, by have := ex739_47; omega, by have := ex739_47; omega, by have := ex739_47; omega, by have := ex739_47; omega, pp_TK, (GE_vac ex739_28 (by omega))⟩)
