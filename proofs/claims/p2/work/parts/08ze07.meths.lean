/-! ===== written by program (wip/layer3/model.py): contracts of methods ===== -/
def fm_m9058_739 : Nat := 1583094970071022500760865269132782770560322181744232392148586892467340574720
/-- IslandHallModel.clause -/
theorem m9058_739 {B : eB} (d : Nat) (M0 : Mm) (x739_30 : Int) (x739_31 : Int) (x739_33 : Int) (x739_34 : Int) (x739_32 : Int) (x739_28 : Int) (x739_45 : Int) (x739_46 : Int) (x739_47 : Int) (x739_38 : Int) (x739_36 : Int) (x739_51 : Int) (x739_35 : Int) (x739_44 : Int) (x739_39 : Int) (x739_40 : Int) (hP0 : Pw M0) (ex739_30 : M0 739 30 = x739_30) (lx739_30 : 0 ≤ x739_30) (ux739_30 : x739_30 ≤ 500) (ex739_31 : M0 739 31 = x739_31) (lx739_31 : 0 ≤ x739_31) (ux739_31 : x739_31 ≤ 500) (ex739_33 : M0 739 33 = x739_33) (lx739_33 : 0 ≤ x739_33) (ux739_33 : x739_33 ≤ 500) (ex739_34 : M0 739 34 = x739_34) (lx739_34 : 0 ≤ x739_34) (ux739_34 : x739_34 ≤ 500) (ex739_32 : M0 739 32 = x739_32) (lx739_32 : 0 ≤ x739_32) (ux739_32 : x739_32 ≤ 4) (ex739_28 : M0 739 28 = x739_28) (lx739_28 : 0 ≤ x739_28) (ux739_28 : x739_28 ≤ 6) (ex739_45 : M0 739 45 = x739_45) (lx739_45 : 0 ≤ x739_45) (ux739_45 : x739_45 ≤ 1000) (ex739_46 : M0 739 46 = x739_46) (lx739_46 : 0 ≤ x739_46) (ux739_46 : x739_46 ≤ 520) (ex739_47 : M0 739 47 = x739_47) (lx739_47 : 0 ≤ x739_47) (ux739_47 : x739_47 ≤ 500) (ex739_38 : M0 739 38 = x739_38) (lx739_38 : 0 ≤ x739_38) (ux739_38 : x739_38 ≤ 999) (ex739_36 : M0 739 36 = x739_36) (lx739_36 : 0 ≤ x739_36) (ux739_36 : x739_36 ≤ 255) (ex739_51 : M0 739 51 = x739_51) (lx739_51 : 0 ≤ x739_51) (ux739_51 : x739_51 ≤ 1) (ex739_35 : M0 739 35 = x739_35) (lx739_35 : 0 ≤ x739_35) (ux739_35 : x739_35 ≤ 999) (ex739_44 : M0 739 44 = x739_44) (lx739_44 : 0 ≤ x739_44) (ux739_44 : x739_44 ≤ 500) (ex739_39 : M0 739 39 = x739_39) (lx739_39 : 0 ≤ x739_39) (ux739_39 : x739_39 ≤ 999) (ex739_40 : M0 739 40 = x739_40) (lx739_40 : (-1) ≤ x739_40) (ux739_40 : x739_40 ≤ 999) (rp0 : 0 ≤ x739_30 + (-1) * x739_31) (rp1 : 0 ≤ x739_31 + (-1) * x739_33 + (-1) * x739_34) (rp2 : 0 ≤ (-1) * x739_31 + x739_33 + x739_34) (rp3 : 0 ≤ 4 * x739_34 + (-1) * x739_32) (rp4 : 0 ≤ x739_33 + (-2) * x739_45 + 3000 * x739_28 + 2) (rp5 : 0 ≤ (-1) * x739_38 + 7 + 3000 * x739_28) (rp6 : 0 ≤ (-1) * x739_45 + 260) (rp7 : 0 ≤ (-1) * x739_44 + x739_33 + 3000 * x739_28) (rp8 : 0 ≤ (-1) * x739_39 + 4 + 3000 * x739_28) (rp9 : 0 ≤ x739_39 + (-1) + 3000 * x739_28) (rp10 : 0 ≤ (-1) * x739_40 + 6 + 3000 * x739_28) (pp_TK : TK M0) (pp_FP : FP M0) (pp_MR : MRP M0) (pp_LP : LRP M0) : Ct B (d + 8) 58 [R 739] M0 (qV fun M => Pw M ∧ Fr fm_m9058_739 M0 M ∧ 0 ≤ M 739 30 + (-1) * (M 739 31) ∧ 0 ≤ M 739 31 + (-1) * (M 739 33) + (-1) * (M 739 34) ∧ 0 ≤ (-1) * (M 739 31) + M 739 33 + M 739 34 ∧ 0 ≤ 4 * (M 739 34) + (-1) * (M 739 32) ∧ 0 ≤ M 739 33 + (-1) * x739_33 ∧ 0 ≤ M 739 28 + (-1) * x739_28 ∧ 0 ≤ M 739 33 + (-1) * x739_33 + M 739 28 + (-1) ∧ 0 ≤ M 739 33 + (-2) * (M 739 45) + 3000 * (M 739 28) + 2 ∧ 0 ≤ (-1) * (M 739 45) + 262 ∧ 0 ≤ (-1) * (M 739 44) + M 739 33 + 3000 * (M 739 28) ∧ 0 ≤ (-1) * (M 739 44) + 502 ∧ 0 ≤ (-1) * (M 739 39) + 4 + 3000 * (M 739 28) ∧ 0 ≤ M 739 39 + (-1) + 3000 * (M 739 28) ∧ 0 ≤ (-1) * (M 739 40) + 6 + 3000 * (M 739 28) ∧ (TK M) ∧ (FP M) ∧ (MRP M) ∧ (LRP M)) := by
  refine ct_of (d := d + 7) (k := 1) (L := [some (R 739), none]) rfl rfl rfl ?_
  have hF0 := Fr.rf fm_m9058_739 M0
  generalize hQ : (qV fun M => Pw M ∧ Fr fm_m9058_739 M0 M ∧ 0 ≤ M 739 30 + (-1) * (M 739 31) ∧ 0 ≤ M 739 31 + (-1) * (M 739 33) + (-1) * (M 739 34) ∧ 0 ≤ (-1) * (M 739 31) + M 739 33 + M 739 34 ∧ 0 ≤ 4 * (M 739 34) + (-1) * (M 739 32) ∧ 0 ≤ M 739 33 + (-1) * x739_33 ∧ 0 ≤ M 739 28 + (-1) * x739_28 ∧ 0 ≤ M 739 33 + (-1) * x739_33 + M 739 28 + (-1) ∧ 0 ≤ M 739 33 + (-2) * (M 739 45) + 3000 * (M 739 28) + 2 ∧ 0 ≤ (-1) * (M 739 45) + 262 ∧ 0 ≤ (-1) * (M 739 44) + M 739 33 + 3000 * (M 739 28) ∧ 0 ≤ (-1) * (M 739 44) + 502 ∧ 0 ≤ (-1) * (M 739 39) + 4 + 3000 * (M 739 28) ∧ 0 ≤ M 739 39 + (-1) + 3000 * (M 739 28) ∧ 0 ≤ (-1) * (M 739 40) + 6 + 3000 * (M 739 28) ∧ (TK M) ∧ (FP M) ∧ (MRP M) ∧ (LRP M)) = Q
  refine wk_al0 r58_0 (wk_cv1 r58_1 kc_739_97 rfl (m9097_739 _ M0 x739_32 x739_34 hP0 ex739_32 (by omega) (by omega) ex739_34 (by omega) (by omega) pp_TK) (cqI ?_))
  rintro v6 M1 ⟨hP2, hQ3, h7, h8, h5⟩
  obtain rfl := Fr.same hQ3
  have e9 := ex739_34
  refine wk_is1 r58_4 rfl (wk_il1 r58_5 (wk_c2 r58_6 ?_))
  have c17_459 : Wp B (d + 7) 58 17 [some (R 739), some (I v6)] [] M0 Q := by
    refine wk_al0 r58_17 (wk_c1 r58_18 (wk_cv2 r58_19 kc_739_137 rfl (m9137_739 _ M0 1 x739_28 x739_33 hP0 (by decide) (by decide) ex739_28 (by omega) (by omega) ex739_33 (by omega) (by omega)) (cqV ?_)))
    rintro M436 ⟨hP437, hQ438, h440, h441⟩
    have hF439 : Fr fm_m9058_739 M0 M436 := hF0.tr hQ438 rfl
    obtain ⟨v442, e443⟩ : ∃ v, M436 739 28 = v := ⟨_, rfl⟩
    have h444 := bf_739_28 hP437; rw [e443] at h444
    have pr445 : FP M436 := FP_mn (Sm.fr hQ438 rfl) (fun q => by have := ex739_28; have := e443; omega) pp_FP
    have pr446 : LRP M436 := LRP_mn (Sm.fr hQ438 rfl) (fun q => by have := ex739_28; have := e443; omega) pp_LP
    refine wk_al0 r58_22 (wk_cv1 r58_23 kc_739_84 rfl (m9084_739 _ M436 v442 hP437 e443 (by omega) (by omega)) (cqI ?_))
    rintro v453 M447 ⟨hP448, hQ449, h454, h455, h451, h452⟩
    obtain rfl := Fr.same hQ449
    have e456 := e443
    refine wk_ifne r58_26 ⟨by omega, by omega⟩ ?_ ?_
    · intro h457
      exfalso
      omega
    · intro h458
      subst hQ; exact wk_ret r58_29 (⟨rfl, hP437, hF439, by have := ((hQ438.at g_739_30 rfl).trans ex739_30); have := ((hQ438.at g_739_31 rfl).trans ex739_31); omega, by have := ((hQ438.at g_739_31 rfl).trans ex739_31); have := ((hQ438.at g_739_33 rfl).trans ex739_33); have := ((hQ438.at g_739_34 rfl).trans ex739_34); omega, by have := ((hQ438.at g_739_31 rfl).trans ex739_31); have := ((hQ438.at g_739_33 rfl).trans ex739_33); have := ((hQ438.at g_739_34 rfl).trans ex739_34); omega, by have := ((hQ438.at g_739_34 rfl).trans ex739_34); have := ((hQ438.at g_739_32 rfl).trans ex739_32); omega, by have := ((hQ438.at g_739_33 rfl).trans ex739_33); omega, by have := e443; omega, by have := ((hQ438.at g_739_33 rfl).trans ex739_33); have := e443; omega, by have := ((hQ438.at g_739_33 rfl).trans ex739_33); have := ((hQ438.at g_739_45 rfl).trans ex739_45); have := e443; omega, by have := ((hQ438.at g_739_45 rfl).trans ex739_45); omega, by have := ((hQ438.at g_739_44 rfl).trans ex739_44); have := ((hQ438.at g_739_33 rfl).trans ex739_33); have := e443; omega, by have := ((hQ438.at g_739_44 rfl).trans ex739_44); omega, by have := ((hQ438.at g_739_39 rfl).trans ex739_39); have := e443; omega, by have := ((hQ438.at g_739_39 rfl).trans ex739_39); have := e443; omega, by have := ((hQ438.at g_739_40 rfl).trans ex739_40); have := e443; omega, (TK_sm (Sm.fr hQ438 rfl) pp_TK), pr445, (MRP_sm (Sm.fr hQ438 rfl) pp_MR), pr446⟩)
  refine wk_iclt r58_8 ⟨by omega, by omega⟩ (by decide) ?_ ?_
  · intro h10
    exact wp_fg (le_s (le_s le_0)) c17_459
  · intro h11
    refine wk_il1 r58_11 (wk_c2 r58_12 ?_)
    refine wk_icle r58_14 ⟨by omega, by omega⟩ (by decide) ?_ ?_
    · intro h12
      refine wk_al0 r58_22 (wk_cv1 r58_23 kc_739_84 rfl (m9084_739 _ M0 x739_28 hP0 ex739_28 (by omega) (by omega)) (cqI ?_))
      rintro v19 M13 ⟨hP14, hQ15, h20, h21, h17, h18⟩
      obtain rfl := Fr.same hQ15
      have e22 := ex739_28
      refine wk_ifne r58_26 ⟨by omega, by omega⟩ ?_ ?_
      · intro h23
        refine wk_al0 r58_30 (wk_cv1 r58_31 kc_739_76 rfl (m9076_739 _ M0 x739_30 x739_31 hP0 ex739_30 (by omega) (by omega) ex739_31 (by omega) (by omega) (by omega)) (cqV ?_))
        rintro M24 ⟨hP25, hQ26, h28, h29, h30, h31, h32, pr33⟩
        have hF27 : Fr fm_m9058_739 M0 M24 := hF0.tr hQ26 rfl
        have e34 := ((hQ26.at g_739_30 rfl).trans ex739_30)
        obtain ⟨v35, e36⟩ : ∃ v, M24 739 31 = v := ⟨_, rfl⟩
        have h37 := bf_739_31 hP25; rw [e36] at h37
        obtain ⟨v38, e39⟩ : ∃ v, M24 739 33 = v := ⟨_, rfl⟩
        have h40 := bf_739_33 hP25; rw [e39] at h40
        obtain ⟨v41, e42⟩ : ∃ v, M24 739 34 = v := ⟨_, rfl⟩
        have h43 := bf_739_34 hP25; rw [e42] at h43
        obtain ⟨v44, e45⟩ : ∃ v, M24 739 32 = v := ⟨_, rfl⟩
        have h46 := bf_739_32 hP25; rw [e45] at h46
        refine wk_il1 r58_34 ?_
        refine wk_sw4 r58_35 ⟨by omega, by omega⟩ ?_ ?_ ?_ ?_ ?_ ?_
        · intro h47
          have dF : FP M24 := (FP_sm (Sm.fr hQ26 rfl) pp_FP)
          have dT : M24 739 45 = x739_45 := ((hQ26.at g_739_45 rfl).trans ex739_45)
          have dK : M24 739 28 = x739_28 := ((hQ26.at g_739_28 rfl).trans ex739_28)
          have dN : M24 739 44 = x739_44 := ((hQ26.at g_739_44 rfl).trans ex739_44)
          refine wk_al0 r58_117 ?_
          obtain ⟨v48, e49⟩ : ∃ v, M24 739 36 = v := ⟨_, rfl⟩
          have h50 := bf_739_36 hP25; rw [e49] at h50
          obtain ⟨v51, e52⟩ : ∃ v, M24 739 35 = v := ⟨_, rfl⟩
          have h53 := bf_739_35 hP25; rw [e52] at h53
          refine wk_cv1 r58_118 kc_739_68 rfl (m9068_739 _ M24 x739_30 v35 v38 v41 v44 x739_28 x739_45 x739_46 x739_47 x739_38 v48 x739_51 v51 hP25 ((hQ26.at g_739_30 rfl).trans ex739_30) (by omega) (by omega) e36 (by omega) (by omega) e39 (by omega) (by omega) e42 (by omega) (by omega) e45 (by omega) (by omega) ((hQ26.at g_739_28 rfl).trans ex739_28) (by omega) (by omega) ((hQ26.at g_739_45 rfl).trans ex739_45) (by omega) (by omega) ((hQ26.at g_739_46 rfl).trans ex739_46) (by omega) (by omega) ((hQ26.at g_739_47 rfl).trans ex739_47) (by omega) (by omega) ((hQ26.at g_739_38 rfl).trans ex739_38) (by omega) (by omega) e49 (by omega) (by omega) ((hQ26.at g_739_51 rfl).trans ex739_51) (by omega) (by omega) e52 (by omega) (by omega) (by omega) (by omega) (by omega) (by omega) (by omega) (by omega) (by omega) pr33) (cqV ?_)
          rintro M54 ⟨hP55, hQ56, h58, h59, h60, h61, h62, h63, h64, h65, xh66, pr67⟩
          have hF57 : Fr fm_m9058_739 M0 M54 := hF27.tr hQ56 rfl
          have e68 := ((hQ56.at g_739_30 rfl).trans ((hQ26.at g_739_30 rfl).trans ex739_30))
          obtain ⟨v69, e70⟩ : ∃ v, M54 739 31 = v := ⟨_, rfl⟩
          have h71 := bf_739_31 hP55; rw [e70] at h71
          obtain ⟨v72, e73⟩ : ∃ v, M54 739 33 = v := ⟨_, rfl⟩
          have h74 := bf_739_33 hP55; rw [e73] at h74
          obtain ⟨v75, e76⟩ : ∃ v, M54 739 34 = v := ⟨_, rfl⟩
          have h77 := bf_739_34 hP55; rw [e76] at h77
          obtain ⟨v78, e79⟩ : ∃ v, M54 739 32 = v := ⟨_, rfl⟩
          have h80 := bf_739_32 hP55; rw [e79] at h80
          obtain ⟨v81, e82⟩ : ∃ v, M54 739 28 = v := ⟨_, rfl⟩
          have h83 := bf_739_28 hP55; rw [e82] at h83
          obtain ⟨v84, e85⟩ : ∃ v, M54 739 45 = v := ⟨_, rfl⟩
          have h86 := bf_739_45 hP55; rw [e85] at h86
          have pr87 : LRP M54 := LRP_mn (Sm.fr hQ56 rfl) (fun q => by have := ((hQ26.at g_739_28 rfl).trans ex739_28); have := e82; omega) (LRP_sm (Sm.fr hQ26 rfl) pp_LP)
          have dS := xh66
          refine wk_al0 r58_121 (wk_dupr r58_122 (wk_getfi r58_123 fd_739_44 ((hQ56.at g_739_44 rfl).trans ((hQ26.at g_739_44 rfl).trans ex739_44)) (wk_c1 r58_126 (wk_iadd r58_127 (wk_putfi81 r58_128 fd_739_44 (wk_nw g_739_44 rfl hP55 hF57 (uf_739_44 ⟨by omega, by omega⟩) ?_))))))
          intro M88 hP89 hF90 e91
          have pr92 : FP M88 := FP_step dF dT (dK.trans (by omega)) dS (by rw [dN]; exact (mUp_at e91)) e91 (by omega)
          refine wk_al0 r58_131 (wk_cv1 r58_132 kc_739_65 rfl (m9065_739 _ M88 x739_30 v69 v72 v75 v78 v81 hP89 (mUp_no e91 ((hQ56.at g_739_30 rfl).trans ((hQ26.at g_739_30 rfl).trans ex739_30)) (Or.inr (by decide))) (by omega) (by omega) (mUp_no e91 e70 (Or.inr (by decide))) (by omega) (by omega) (mUp_no e91 e73 (Or.inr (by decide))) (by omega) (by omega) (mUp_no e91 e76 (Or.inr (by decide))) (by omega) (by omega) (mUp_no e91 e79 (Or.inr (by decide))) (by omega) (by omega) (mUp_no e91 e82 (Or.inr (by decide))) (by omega) (by omega) (by omega) (by omega) (by omega) (by omega) (TK_sm (Sm.up e91 g_739_44 rfl) pr67)) (cqV ?_))
          rintro M93 ⟨hP94, hQ95, h97, h98, h99, h100, h101, h102, h103, pr104⟩
          have hF96 : Fr fm_m9058_739 M0 M93 := hF90.tr hQ95 rfl
          have e105 := ((hQ95.at g_739_30 rfl).trans (mUp_no e91 ((hQ56.at g_739_30 rfl).trans ((hQ26.at g_739_30 rfl).trans ex739_30)) (Or.inr (by decide))))
          obtain ⟨v106, e107⟩ : ∃ v, M93 739 31 = v := ⟨_, rfl⟩
          have h108 := bf_739_31 hP94; rw [e107] at h108
          obtain ⟨v109, e110⟩ : ∃ v, M93 739 33 = v := ⟨_, rfl⟩
          have h111 := bf_739_33 hP94; rw [e110] at h111
          obtain ⟨v112, e113⟩ : ∃ v, M93 739 34 = v := ⟨_, rfl⟩
          have h114 := bf_739_34 hP94; rw [e113] at h114
          obtain ⟨v115, e116⟩ : ∃ v, M93 739 32 = v := ⟨_, rfl⟩
          have h117 := bf_739_32 hP94; rw [e116] at h117
          obtain ⟨v118, e119⟩ : ∃ v, M93 739 28 = v := ⟨_, rfl⟩
          have h120 := bf_739_28 hP94; rw [e119] at h120
          have pr121 : LRP M93 := LRP_mn (Sm.fr hQ95 rfl) (fun q => by have := (mUp_no e91 e82 (Or.inr (by decide))); have := e119; omega) (LRP_sm (Sm.up e91 g_739_44 rfl) pr87)
          have pr122 : FP M93 := FP_mn (Sm.fr hQ95 rfl) (fun q => by have := (mUp_no e91 e82 (Or.inr (by decide))); have := e119; omega) pr92
          subst hQ; exact wk_ret r58_135 (⟨rfl, hP94, hF96, by have := ((hQ95.at g_739_30 rfl).trans (mUp_no e91 ((hQ56.at g_739_30 rfl).trans ((hQ26.at g_739_30 rfl).trans ex739_30)) (Or.inr (by decide)))); have := e107; omega, by have := e107; have := e110; have := e113; omega, by have := e107; have := e110; have := e113; omega, by have := e113; have := e116; omega, by have := e110; omega, by have := e119; omega, by have := e110; have := e119; omega, by have := e110; have := ((hQ95.at g_739_45 rfl).trans (mUp_no e91 e85 (Or.inr (by decide)))); have := e119; omega, by have := ((hQ95.at g_739_45 rfl).trans (mUp_no e91 e85 (Or.inr (by decide)))); omega, by have := ((hQ95.at g_739_44 rfl).trans (mUp_at e91)); have := e110; have := e119; omega, by have := ((hQ95.at g_739_44 rfl).trans (mUp_at e91)); omega, by have := ((hQ95.at g_739_39 rfl).trans (mUp_no e91 ((hQ56.at g_739_39 rfl).trans ((hQ26.at g_739_39 rfl).trans ex739_39)) (Or.inr (by decide)))); have := e119; omega, by have := ((hQ95.at g_739_39 rfl).trans (mUp_no e91 ((hQ56.at g_739_39 rfl).trans ((hQ26.at g_739_39 rfl).trans ex739_39)) (Or.inr (by decide)))); have := e119; omega, by have := ((hQ95.at g_739_40 rfl).trans (mUp_no e91 ((hQ56.at g_739_40 rfl).trans ((hQ26.at g_739_40 rfl).trans ex739_40)) (Or.inr (by decide)))); have := e119; omega, pr104, pr122, (MRP_sm (Sm.fr hQ95 rfl) (MRP_sm (Sm.up e91 g_739_44 rfl) (MRP_sm (Sm.fr hQ56 rfl) (MRP_sm (Sm.fr hQ26 rfl) pp_MR)))), pr121⟩)
        · intro h123
          refine wk_al0 r58_68 ?_
          obtain ⟨v124, e125⟩ : ∃ v, M24 739 35 = v := ⟨_, rfl⟩
          have h126 := bf_739_35 hP25; rw [e125] at h126
          obtain ⟨v127, e128⟩ : ∃ v, M24 739 36 = v := ⟨_, rfl⟩
          have h129 := bf_739_36 hP25; rw [e128] at h129
          refine wk_cv1 r58_69 kc_739_120 rfl (m9120_739 _ M24 x739_30 v35 v38 v41 v44 x739_28 v124 x739_38 v127 hP25 ((hQ26.at g_739_30 rfl).trans ex739_30) (by omega) (by omega) e36 (by omega) (by omega) e39 (by omega) (by omega) e42 (by omega) (by omega) e45 (by omega) (by omega) ((hQ26.at g_739_28 rfl).trans ex739_28) (by omega) (by omega) e125 (by omega) (by omega) ((hQ26.at g_739_38 rfl).trans ex739_38) (by omega) (by omega) e128 (by omega) (by omega) (by omega) (by omega) (by omega) (by omega) (by omega) pr33 (MRP_sm (Sm.fr hQ26 rfl) pp_MR)) (cqV ?_)
          rintro M130 ⟨hP131, hQ132, h134, h135, h136, h137, h138, h139, pr140, pr141⟩
          have hF133 : Fr fm_m9058_739 M0 M130 := hF27.tr hQ132 rfl
          have e142 := ((hQ132.at g_739_30 rfl).trans ((hQ26.at g_739_30 rfl).trans ex739_30))
          obtain ⟨v143, e144⟩ : ∃ v, M130 739 31 = v := ⟨_, rfl⟩
          have h145 := bf_739_31 hP131; rw [e144] at h145
          obtain ⟨v146, e147⟩ : ∃ v, M130 739 33 = v := ⟨_, rfl⟩
          have h148 := bf_739_33 hP131; rw [e147] at h148
          obtain ⟨v149, e150⟩ : ∃ v, M130 739 34 = v := ⟨_, rfl⟩
          have h151 := bf_739_34 hP131; rw [e150] at h151
          obtain ⟨v152, e153⟩ : ∃ v, M130 739 32 = v := ⟨_, rfl⟩
          have h154 := bf_739_32 hP131; rw [e153] at h154
          obtain ⟨v155, e156⟩ : ∃ v, M130 739 28 = v := ⟨_, rfl⟩
          have h157 := bf_739_28 hP131; rw [e156] at h157
          have pr158 : FP M130 := FP_mn (Sm.fr hQ132 rfl) (fun q => by have := ((hQ26.at g_739_28 rfl).trans ex739_28); have := e156; omega) (FP_sm (Sm.fr hQ26 rfl) pp_FP)
          have pr159 : LRP M130 := LRP_mn (Sm.fr hQ132 rfl) (fun q => by have := ((hQ26.at g_739_28 rfl).trans ex739_28); have := e156; omega) (LRP_sm (Sm.fr hQ26 rfl) pp_LP)
          refine wk_goto r58_72 ?_
          refine wk_al0 r58_131 (wk_cv1 r58_132 kc_739_65 rfl (m9065_739 _ M130 x739_30 v143 v146 v149 v152 v155 hP131 ((hQ132.at g_739_30 rfl).trans ((hQ26.at g_739_30 rfl).trans ex739_30)) (by omega) (by omega) e144 (by omega) (by omega) e147 (by omega) (by omega) e150 (by omega) (by omega) e153 (by omega) (by omega) e156 (by omega) (by omega) (by omega) (by omega) (by omega) (by omega) pr140) (cqV ?_))
          rintro M160 ⟨hP161, hQ162, h164, h165, h166, h167, h168, h169, h170, pr171⟩
          have hF163 : Fr fm_m9058_739 M0 M160 := hF133.tr hQ162 rfl
          have e172 := ((hQ162.at g_739_30 rfl).trans ((hQ132.at g_739_30 rfl).trans ((hQ26.at g_739_30 rfl).trans ex739_30)))
          obtain ⟨v173, e174⟩ : ∃ v, M160 739 31 = v := ⟨_, rfl⟩
          have h175 := bf_739_31 hP161; rw [e174] at h175
          obtain ⟨v176, e177⟩ : ∃ v, M160 739 33 = v := ⟨_, rfl⟩
          have h178 := bf_739_33 hP161; rw [e177] at h178
          obtain ⟨v179, e180⟩ : ∃ v, M160 739 34 = v := ⟨_, rfl⟩
          have h181 := bf_739_34 hP161; rw [e180] at h181
          obtain ⟨v182, e183⟩ : ∃ v, M160 739 32 = v := ⟨_, rfl⟩
          have h184 := bf_739_32 hP161; rw [e183] at h184
          obtain ⟨v185, e186⟩ : ∃ v, M160 739 28 = v := ⟨_, rfl⟩
          have h187 := bf_739_28 hP161; rw [e186] at h187
          have pr188 : FP M160 := FP_mn (Sm.fr hQ162 rfl) (fun q => by have := e156; have := e186; omega) pr158
          have pr189 : LRP M160 := LRP_mn (Sm.fr hQ162 rfl) (fun q => by have := e156; have := e186; omega) pr159
          subst hQ; exact wk_ret r58_135 (⟨rfl, hP161, hF163, by have := ((hQ162.at g_739_30 rfl).trans ((hQ132.at g_739_30 rfl).trans ((hQ26.at g_739_30 rfl).trans ex739_30))); have := e174; omega, by have := e174; have := e177; have := e180; omega, by have := e174; have := e177; have := e180; omega, by have := e180; have := e183; omega, by have := e177; omega, by have := e186; omega, by have := e177; have := e186; omega, by have := e177; have := ((hQ162.at g_739_45 rfl).trans ((hQ132.at g_739_45 rfl).trans ((hQ26.at g_739_45 rfl).trans ex739_45))); have := e186; omega, by have := ((hQ162.at g_739_45 rfl).trans ((hQ132.at g_739_45 rfl).trans ((hQ26.at g_739_45 rfl).trans ex739_45))); omega, by have := ((hQ162.at g_739_44 rfl).trans ((hQ132.at g_739_44 rfl).trans ((hQ26.at g_739_44 rfl).trans ex739_44))); have := e177; have := e186; omega, by have := ((hQ162.at g_739_44 rfl).trans ((hQ132.at g_739_44 rfl).trans ((hQ26.at g_739_44 rfl).trans ex739_44))); omega, by have := ((hQ162.at g_739_39 rfl).trans ((hQ132.at g_739_39 rfl).trans ((hQ26.at g_739_39 rfl).trans ex739_39))); have := e186; omega, by have := ((hQ162.at g_739_39 rfl).trans ((hQ132.at g_739_39 rfl).trans ((hQ26.at g_739_39 rfl).trans ex739_39))); have := e186; omega, by have := ((hQ162.at g_739_40 rfl).trans ((hQ132.at g_739_40 rfl).trans ((hQ26.at g_739_40 rfl).trans ex739_40))); have := e186; omega, pr171, pr188, (MRP_sm (Sm.fr hQ162 rfl) pr141), pr189⟩)
        · intro h190
          refine wk_al0 r58_75 (wk_al0 r58_76 (wk_c1 r58_77 (wk_c1 r58_78 ?_)))
          obtain ⟨v191, e192⟩ : ∃ v, M24 739 35 = v := ⟨_, rfl⟩
          have h193 := bf_739_35 hP25; rw [e192] at h193
          refine wk_cv3 r58_79 kc_739_114 rfl (m9114_739 _ M24 1 4 x739_30 v35 v38 v41 v44 x739_28 v191 hP25 (by decide) (by decide) (by decide) (by decide) ((hQ26.at g_739_30 rfl).trans ex739_30) (by omega) (by omega) e36 (by omega) (by omega) e39 (by omega) (by omega) e42 (by omega) (by omega) e45 (by omega) (by omega) ((hQ26.at g_739_28 rfl).trans ex739_28) (by omega) (by omega) e192 (by omega) (by omega) (by omega) (by omega) (by omega) (by omega) pr33) (cqI ?_)
          rintro v208 M194 ⟨hP195, hQ196, h209, h210, h198, h199, h200, h201, h202, h203, h204, h205, h206, pr207⟩
          have hF197 : Fr fm_m9058_739 M0 M194 := hF27.tr hQ196 rfl
          have e211 := ((hQ196.at g_739_30 rfl).trans ((hQ26.at g_739_30 rfl).trans ex739_30))
          obtain ⟨v212, e213⟩ : ∃ v, M194 739 31 = v := ⟨_, rfl⟩
          have h214 := bf_739_31 hP195; rw [e213] at h214
          obtain ⟨v215, e216⟩ : ∃ v, M194 739 33 = v := ⟨_, rfl⟩
          have h217 := bf_739_33 hP195; rw [e216] at h217
          obtain ⟨v218, e219⟩ : ∃ v, M194 739 34 = v := ⟨_, rfl⟩
          have h220 := bf_739_34 hP195; rw [e219] at h220
          obtain ⟨v221, e222⟩ : ∃ v, M194 739 32 = v := ⟨_, rfl⟩
          have h223 := bf_739_32 hP195; rw [e222] at h223
          obtain ⟨v224, e225⟩ : ∃ v, M194 739 28 = v := ⟨_, rfl⟩
          have h226 := bf_739_28 hP195; rw [e225] at h226
          have pr227 : FP M194 := FP_mn (Sm.fr hQ196 rfl) (fun q => by have := ((hQ26.at g_739_28 rfl).trans ex739_28); have := e225; omega) (FP_sm (Sm.fr hQ26 rfl) pp_FP)
          have pr228 : LRP M194 := LRP_mn (Sm.fr hQ196 rfl) (fun q => by have := ((hQ26.at g_739_28 rfl).trans ex739_28); have := e225; omega) (LRP_sm (Sm.fr hQ26 rfl) pp_LP)
          refine wk_putfi81 r58_82 fd_739_39 (wk_nw g_739_39 rfl hP195 hF197 (uf_739_39 ⟨by omega, by omega⟩) ?_)
          intro M229 hP230 hF231 e232
          refine wk_goto r58_85 ?_
          refine wk_al0 r58_131 (wk_cv1 r58_132 kc_739_65 rfl (m9065_739 _ M229 x739_30 v212 v215 v218 v221 v224 hP230 (mUp_no e232 ((hQ196.at g_739_30 rfl).trans ((hQ26.at g_739_30 rfl).trans ex739_30)) (Or.inr (by decide))) (by omega) (by omega) (mUp_no e232 e213 (Or.inr (by decide))) (by omega) (by omega) (mUp_no e232 e216 (Or.inr (by decide))) (by omega) (by omega) (mUp_no e232 e219 (Or.inr (by decide))) (by omega) (by omega) (mUp_no e232 e222 (Or.inr (by decide))) (by omega) (by omega) (mUp_no e232 e225 (Or.inr (by decide))) (by omega) (by omega) (by omega) (by omega) (by omega) (by omega) (TK_sm (Sm.up e232 g_739_39 rfl) pr207)) (cqV ?_))
          rintro M233 ⟨hP234, hQ235, h237, h238, h239, h240, h241, h242, h243, pr244⟩
          have hF236 : Fr fm_m9058_739 M0 M233 := hF231.tr hQ235 rfl
          have e245 := ((hQ235.at g_739_30 rfl).trans (mUp_no e232 ((hQ196.at g_739_30 rfl).trans ((hQ26.at g_739_30 rfl).trans ex739_30)) (Or.inr (by decide))))
          obtain ⟨v246, e247⟩ : ∃ v, M233 739 31 = v := ⟨_, rfl⟩
          have h248 := bf_739_31 hP234; rw [e247] at h248
          obtain ⟨v249, e250⟩ : ∃ v, M233 739 33 = v := ⟨_, rfl⟩
          have h251 := bf_739_33 hP234; rw [e250] at h251
          obtain ⟨v252, e253⟩ : ∃ v, M233 739 34 = v := ⟨_, rfl⟩
          have h254 := bf_739_34 hP234; rw [e253] at h254
          obtain ⟨v255, e256⟩ : ∃ v, M233 739 32 = v := ⟨_, rfl⟩
          have h257 := bf_739_32 hP234; rw [e256] at h257
          obtain ⟨v258, e259⟩ : ∃ v, M233 739 28 = v := ⟨_, rfl⟩
          have h260 := bf_739_28 hP234; rw [e259] at h260
          have pr261 : FP M233 := FP_mn (Sm.fr hQ235 rfl) (fun q => by have := (mUp_no e232 e225 (Or.inr (by decide))); have := e259; omega) (FP_sm (Sm.up e232 g_739_39 rfl) pr227)
          have pr262 : LRP M233 := LRP_mn (Sm.fr hQ235 rfl) (fun q => by have := (mUp_no e232 e225 (Or.inr (by decide))); have := e259; omega) (LRP_sm (Sm.up e232 g_739_39 rfl) pr228)
          subst hQ; exact wk_ret r58_135 (⟨rfl, hP234, hF236, by have := ((hQ235.at g_739_30 rfl).trans (mUp_no e232 ((hQ196.at g_739_30 rfl).trans ((hQ26.at g_739_30 rfl).trans ex739_30)) (Or.inr (by decide)))); have := e247; omega, by have := e247; have := e250; have := e253; omega, by have := e247; have := e250; have := e253; omega, by have := e253; have := e256; omega, by have := e250; omega, by have := e259; omega, by have := e250; have := e259; omega, by have := e250; have := ((hQ235.at g_739_45 rfl).trans (mUp_no e232 ((hQ196.at g_739_45 rfl).trans ((hQ26.at g_739_45 rfl).trans ex739_45)) (Or.inr (by decide)))); have := e259; omega, by have := ((hQ235.at g_739_45 rfl).trans (mUp_no e232 ((hQ196.at g_739_45 rfl).trans ((hQ26.at g_739_45 rfl).trans ex739_45)) (Or.inr (by decide)))); omega, by have := ((hQ235.at g_739_44 rfl).trans (mUp_no e232 ((hQ196.at g_739_44 rfl).trans ((hQ26.at g_739_44 rfl).trans ex739_44)) (Or.inr (by decide)))); have := e250; have := e259; omega, by have := ((hQ235.at g_739_44 rfl).trans (mUp_no e232 ((hQ196.at g_739_44 rfl).trans ((hQ26.at g_739_44 rfl).trans ex739_44)) (Or.inr (by decide)))); omega, by have := ((hQ235.at g_739_39 rfl).trans (mUp_at e232)); have := e259; omega, by have := ((hQ235.at g_739_39 rfl).trans (mUp_at e232)); have := e259; omega, by have := ((hQ235.at g_739_40 rfl).trans (mUp_no e232 ((hQ196.at g_739_40 rfl).trans ((hQ26.at g_739_40 rfl).trans ex739_40)) (Or.inr (by decide)))); have := e259; omega, pr244, pr261, (MRP_sm (Sm.fr hQ235 rfl) (MRP_sm (Sm.up e232 g_739_39 rfl) (MRP_sm (Sm.fr hQ196 rfl) (MRP_sm (Sm.fr hQ26 rfl) pp_MR)))), pr262⟩)
        · intro h263
          refine wk_al0 r58_88 (wk_al0 r58_89 (wk_c1 r58_90 (wk_c2 r58_91 ?_)))
          obtain ⟨v264, e265⟩ : ∃ v, M24 739 35 = v := ⟨_, rfl⟩
          have h266 := bf_739_35 hP25; rw [e265] at h266
          refine wk_cv3 r58_93 kc_739_114 rfl (m9114_739 _ M24 0 6 x739_30 v35 v38 v41 v44 x739_28 v264 hP25 (by decide) (by decide) (by decide) (by decide) ((hQ26.at g_739_30 rfl).trans ex739_30) (by omega) (by omega) e36 (by omega) (by omega) e39 (by omega) (by omega) e42 (by omega) (by omega) e45 (by omega) (by omega) ((hQ26.at g_739_28 rfl).trans ex739_28) (by omega) (by omega) e265 (by omega) (by omega) (by omega) (by omega) (by omega) (by omega) pr33) (cqI ?_)
          rintro v281 M267 ⟨hP268, hQ269, h282, h283, h271, h272, h273, h274, h275, h276, h277, h278, h279, pr280⟩
          have hF270 : Fr fm_m9058_739 M0 M267 := hF27.tr hQ269 rfl
          have e284 := ((hQ269.at g_739_30 rfl).trans ((hQ26.at g_739_30 rfl).trans ex739_30))
          obtain ⟨v285, e286⟩ : ∃ v, M267 739 31 = v := ⟨_, rfl⟩
          have h287 := bf_739_31 hP268; rw [e286] at h287
          obtain ⟨v288, e289⟩ : ∃ v, M267 739 33 = v := ⟨_, rfl⟩
          have h290 := bf_739_33 hP268; rw [e289] at h290
          obtain ⟨v291, e292⟩ : ∃ v, M267 739 34 = v := ⟨_, rfl⟩
          have h293 := bf_739_34 hP268; rw [e292] at h293
          obtain ⟨v294, e295⟩ : ∃ v, M267 739 32 = v := ⟨_, rfl⟩
          have h296 := bf_739_32 hP268; rw [e295] at h296
          obtain ⟨v297, e298⟩ : ∃ v, M267 739 28 = v := ⟨_, rfl⟩
          have h299 := bf_739_28 hP268; rw [e298] at h299
          have pr300 : FP M267 := FP_mn (Sm.fr hQ269 rfl) (fun q => by have := ((hQ26.at g_739_28 rfl).trans ex739_28); have := e298; omega) (FP_sm (Sm.fr hQ26 rfl) pp_FP)
          have pr301 : LRP M267 := LRP_mn (Sm.fr hQ269 rfl) (fun q => by have := ((hQ26.at g_739_28 rfl).trans ex739_28); have := e298; omega) (LRP_sm (Sm.fr hQ26 rfl) pp_LP)
          refine wk_putfi81 r58_96 fd_739_40 (wk_nw g_739_40 rfl hP268 hF270 (uf_739_40 ⟨by omega, by omega⟩) ?_)
          intro M302 hP303 hF304 e305
          refine wk_goto r58_99 ?_
          refine wk_al0 r58_131 (wk_cv1 r58_132 kc_739_65 rfl (m9065_739 _ M302 x739_30 v285 v288 v291 v294 v297 hP303 (mUp_no e305 ((hQ269.at g_739_30 rfl).trans ((hQ26.at g_739_30 rfl).trans ex739_30)) (Or.inr (by decide))) (by omega) (by omega) (mUp_no e305 e286 (Or.inr (by decide))) (by omega) (by omega) (mUp_no e305 e289 (Or.inr (by decide))) (by omega) (by omega) (mUp_no e305 e292 (Or.inr (by decide))) (by omega) (by omega) (mUp_no e305 e295 (Or.inr (by decide))) (by omega) (by omega) (mUp_no e305 e298 (Or.inr (by decide))) (by omega) (by omega) (by omega) (by omega) (by omega) (by omega) (TK_sm (Sm.up e305 g_739_40 rfl) pr280)) (cqV ?_))
          rintro M306 ⟨hP307, hQ308, h310, h311, h312, h313, h314, h315, h316, pr317⟩
          have hF309 : Fr fm_m9058_739 M0 M306 := hF304.tr hQ308 rfl
          have e318 := ((hQ308.at g_739_30 rfl).trans (mUp_no e305 ((hQ269.at g_739_30 rfl).trans ((hQ26.at g_739_30 rfl).trans ex739_30)) (Or.inr (by decide))))
          obtain ⟨v319, e320⟩ : ∃ v, M306 739 31 = v := ⟨_, rfl⟩
          have h321 := bf_739_31 hP307; rw [e320] at h321
          obtain ⟨v322, e323⟩ : ∃ v, M306 739 33 = v := ⟨_, rfl⟩
          have h324 := bf_739_33 hP307; rw [e323] at h324
          obtain ⟨v325, e326⟩ : ∃ v, M306 739 34 = v := ⟨_, rfl⟩
          have h327 := bf_739_34 hP307; rw [e326] at h327
          obtain ⟨v328, e329⟩ : ∃ v, M306 739 32 = v := ⟨_, rfl⟩
          have h330 := bf_739_32 hP307; rw [e329] at h330
          obtain ⟨v331, e332⟩ : ∃ v, M306 739 28 = v := ⟨_, rfl⟩
          have h333 := bf_739_28 hP307; rw [e332] at h333
          have pr334 : FP M306 := FP_mn (Sm.fr hQ308 rfl) (fun q => by have := (mUp_no e305 e298 (Or.inr (by decide))); have := e332; omega) (FP_sm (Sm.up e305 g_739_40 rfl) pr300)
          have pr335 : LRP M306 := LRP_mn (Sm.fr hQ308 rfl) (fun q => by have := (mUp_no e305 e298 (Or.inr (by decide))); have := e332; omega) (LRP_sm (Sm.up e305 g_739_40 rfl) pr301)
          subst hQ; exact wk_ret r58_135 (⟨rfl, hP307, hF309, by have := ((hQ308.at g_739_30 rfl).trans (mUp_no e305 ((hQ269.at g_739_30 rfl).trans ((hQ26.at g_739_30 rfl).trans ex739_30)) (Or.inr (by decide)))); have := e320; omega, by have := e320; have := e323; have := e326; omega, by have := e320; have := e323; have := e326; omega, by have := e326; have := e329; omega, by have := e323; omega, by have := e332; omega, by have := e323; have := e332; omega, by have := e323; have := ((hQ308.at g_739_45 rfl).trans (mUp_no e305 ((hQ269.at g_739_45 rfl).trans ((hQ26.at g_739_45 rfl).trans ex739_45)) (Or.inr (by decide)))); have := e332; omega, by have := ((hQ308.at g_739_45 rfl).trans (mUp_no e305 ((hQ269.at g_739_45 rfl).trans ((hQ26.at g_739_45 rfl).trans ex739_45)) (Or.inr (by decide)))); omega, by have := ((hQ308.at g_739_44 rfl).trans (mUp_no e305 ((hQ269.at g_739_44 rfl).trans ((hQ26.at g_739_44 rfl).trans ex739_44)) (Or.inr (by decide)))); have := e323; have := e332; omega, by have := ((hQ308.at g_739_44 rfl).trans (mUp_no e305 ((hQ269.at g_739_44 rfl).trans ((hQ26.at g_739_44 rfl).trans ex739_44)) (Or.inr (by decide)))); omega, by have := ((hQ308.at g_739_39 rfl).trans (mUp_no e305 ((hQ269.at g_739_39 rfl).trans ((hQ26.at g_739_39 rfl).trans ex739_39)) (Or.inr (by decide)))); have := e332; omega, by have := ((hQ308.at g_739_39 rfl).trans (mUp_no e305 ((hQ269.at g_739_39 rfl).trans ((hQ26.at g_739_39 rfl).trans ex739_39)) (Or.inr (by decide)))); have := e332; omega, by have := ((hQ308.at g_739_40 rfl).trans (mUp_at e305)); have := e332; omega, pr317, pr334, (MRP_sm (Sm.fr hQ308 rfl) (MRP_sm (Sm.up e305 g_739_40 rfl) (MRP_sm (Sm.fr hQ269 rfl) (MRP_sm (Sm.fr hQ26 rfl) pp_MR)))), pr335⟩)
        · intro h336
          refine wk_al0 r58_102 ?_
          obtain ⟨v337, e338⟩ : ∃ v, M24 739 35 = v := ⟨_, rfl⟩
          have h339 := bf_739_35 hP25; rw [e338] at h339
          refine wk_cv1 r58_103 kc_739_119 rfl (m9119_739 _ M24 x739_30 v35 v38 v41 v44 x739_28 v337 hP25 ((hQ26.at g_739_30 rfl).trans ex739_30) (by omega) (by omega) e36 (by omega) (by omega) e39 (by omega) (by omega) e42 (by omega) (by omega) e45 (by omega) (by omega) ((hQ26.at g_739_28 rfl).trans ex739_28) (by omega) (by omega) e338 (by omega) (by omega) (by omega) (by omega) (by omega) (by omega) pr33) (cqV ?_)
          rintro M340 ⟨hP341, hQ342, h344, h345, h346, h347, h348, h349, pr350, pr351⟩
          have hF343 : Fr fm_m9058_739 M0 M340 := hF27.tr hQ342 rfl
          have e352 := ((hQ342.at g_739_30 rfl).trans ((hQ26.at g_739_30 rfl).trans ex739_30))
          obtain ⟨v353, e354⟩ : ∃ v, M340 739 31 = v := ⟨_, rfl⟩
          have h355 := bf_739_31 hP341; rw [e354] at h355
          obtain ⟨v356, e357⟩ : ∃ v, M340 739 33 = v := ⟨_, rfl⟩
          have h358 := bf_739_33 hP341; rw [e357] at h358
          obtain ⟨v359, e360⟩ : ∃ v, M340 739 34 = v := ⟨_, rfl⟩
          have h361 := bf_739_34 hP341; rw [e360] at h361
          obtain ⟨v362, e363⟩ : ∃ v, M340 739 32 = v := ⟨_, rfl⟩
          have h364 := bf_739_32 hP341; rw [e363] at h364
          obtain ⟨v365, e366⟩ : ∃ v, M340 739 28 = v := ⟨_, rfl⟩
          have h367 := bf_739_28 hP341; rw [e366] at h367
          have pr368 : FP M340 := FP_mn (Sm.fr hQ342 rfl) (fun q => by have := ((hQ26.at g_739_28 rfl).trans ex739_28); have := e366; omega) (FP_sm (Sm.fr hQ26 rfl) pp_FP)
          refine wk_goto r58_106 ?_
          refine wk_al0 r58_131 (wk_cv1 r58_132 kc_739_65 rfl (m9065_739 _ M340 x739_30 v353 v356 v359 v362 v365 hP341 ((hQ342.at g_739_30 rfl).trans ((hQ26.at g_739_30 rfl).trans ex739_30)) (by omega) (by omega) e354 (by omega) (by omega) e357 (by omega) (by omega) e360 (by omega) (by omega) e363 (by omega) (by omega) e366 (by omega) (by omega) (by omega) (by omega) (by omega) (by omega) pr350) (cqV ?_))
          rintro M369 ⟨hP370, hQ371, h373, h374, h375, h376, h377, h378, h379, pr380⟩
          have hF372 : Fr fm_m9058_739 M0 M369 := hF343.tr hQ371 rfl
          have e381 := ((hQ371.at g_739_30 rfl).trans ((hQ342.at g_739_30 rfl).trans ((hQ26.at g_739_30 rfl).trans ex739_30)))
          obtain ⟨v382, e383⟩ : ∃ v, M369 739 31 = v := ⟨_, rfl⟩
          have h384 := bf_739_31 hP370; rw [e383] at h384
          obtain ⟨v385, e386⟩ : ∃ v, M369 739 33 = v := ⟨_, rfl⟩
          have h387 := bf_739_33 hP370; rw [e386] at h387
          obtain ⟨v388, e389⟩ : ∃ v, M369 739 34 = v := ⟨_, rfl⟩
          have h390 := bf_739_34 hP370; rw [e389] at h390
          obtain ⟨v391, e392⟩ : ∃ v, M369 739 32 = v := ⟨_, rfl⟩
          have h393 := bf_739_32 hP370; rw [e392] at h393
          obtain ⟨v394, e395⟩ : ∃ v, M369 739 28 = v := ⟨_, rfl⟩
          have h396 := bf_739_28 hP370; rw [e395] at h396
          have pr397 : LRP M369 := LRP_mn (Sm.fr hQ371 rfl) (fun q => by have := e366; have := e395; omega) pr351
          have pr398 : FP M369 := FP_mn (Sm.fr hQ371 rfl) (fun q => by have := e366; have := e395; omega) pr368
          subst hQ; exact wk_ret r58_135 (⟨rfl, hP370, hF372, by have := ((hQ371.at g_739_30 rfl).trans ((hQ342.at g_739_30 rfl).trans ((hQ26.at g_739_30 rfl).trans ex739_30))); have := e383; omega, by have := e383; have := e386; have := e389; omega, by have := e383; have := e386; have := e389; omega, by have := e389; have := e392; omega, by have := e386; omega, by have := e395; omega, by have := e386; have := e395; omega, by have := e386; have := ((hQ371.at g_739_45 rfl).trans ((hQ342.at g_739_45 rfl).trans ((hQ26.at g_739_45 rfl).trans ex739_45))); have := e395; omega, by have := ((hQ371.at g_739_45 rfl).trans ((hQ342.at g_739_45 rfl).trans ((hQ26.at g_739_45 rfl).trans ex739_45))); omega, by have := ((hQ371.at g_739_44 rfl).trans ((hQ342.at g_739_44 rfl).trans ((hQ26.at g_739_44 rfl).trans ex739_44))); have := e386; have := e395; omega, by have := ((hQ371.at g_739_44 rfl).trans ((hQ342.at g_739_44 rfl).trans ((hQ26.at g_739_44 rfl).trans ex739_44))); omega, by have := ((hQ371.at g_739_39 rfl).trans ((hQ342.at g_739_39 rfl).trans ((hQ26.at g_739_39 rfl).trans ex739_39))); have := e395; omega, by have := ((hQ371.at g_739_39 rfl).trans ((hQ342.at g_739_39 rfl).trans ((hQ26.at g_739_39 rfl).trans ex739_39))); have := e395; omega, by have := ((hQ371.at g_739_40 rfl).trans ((hQ342.at g_739_40 rfl).trans ((hQ26.at g_739_40 rfl).trans ex739_40))); have := e395; omega, pr380, pr398, (MRP_sm (Sm.fr hQ371 rfl) (MRP_sm (Sm.fr hQ342 rfl) (MRP_sm (Sm.fr hQ26 rfl) pp_MR))), pr397⟩)
        · intro h399
          refine wk_al0 r58_109 (wk_c1 r58_110 (wk_putfi81 r58_111 fd_739_43 (wk_nw g_739_43 rfl hP25 hF27 (uf_739_43 (by decide)) ?_)))
          intro M400 hP401 hF402 e403
          refine wk_goto r58_114 ?_
          refine wk_al0 r58_131 (wk_cv1 r58_132 kc_739_65 rfl (m9065_739 _ M400 x739_30 v35 v38 v41 v44 x739_28 hP401 (mUp_no e403 ((hQ26.at g_739_30 rfl).trans ex739_30) (Or.inr (by decide))) (by omega) (by omega) (mUp_no e403 e36 (Or.inr (by decide))) (by omega) (by omega) (mUp_no e403 e39 (Or.inr (by decide))) (by omega) (by omega) (mUp_no e403 e42 (Or.inr (by decide))) (by omega) (by omega) (mUp_no e403 e45 (Or.inr (by decide))) (by omega) (by omega) (mUp_no e403 ((hQ26.at g_739_28 rfl).trans ex739_28) (Or.inr (by decide))) (by omega) (by omega) (by omega) (by omega) (by omega) (by omega) (TK_sm (Sm.up e403 g_739_43 rfl) pr33)) (cqV ?_))
          rintro M404 ⟨hP405, hQ406, h408, h409, h410, h411, h412, h413, h414, pr415⟩
          have hF407 : Fr fm_m9058_739 M0 M404 := hF402.tr hQ406 rfl
          have e416 := ((hQ406.at g_739_30 rfl).trans (mUp_no e403 ((hQ26.at g_739_30 rfl).trans ex739_30) (Or.inr (by decide))))
          obtain ⟨v417, e418⟩ : ∃ v, M404 739 31 = v := ⟨_, rfl⟩
          have h419 := bf_739_31 hP405; rw [e418] at h419
          obtain ⟨v420, e421⟩ : ∃ v, M404 739 33 = v := ⟨_, rfl⟩
          have h422 := bf_739_33 hP405; rw [e421] at h422
          obtain ⟨v423, e424⟩ : ∃ v, M404 739 34 = v := ⟨_, rfl⟩
          have h425 := bf_739_34 hP405; rw [e424] at h425
          obtain ⟨v426, e427⟩ : ∃ v, M404 739 32 = v := ⟨_, rfl⟩
          have h428 := bf_739_32 hP405; rw [e427] at h428
          obtain ⟨v429, e430⟩ : ∃ v, M404 739 28 = v := ⟨_, rfl⟩
          have h431 := bf_739_28 hP405; rw [e430] at h431
          have pr432 : FP M404 := FP_mn (Sm.fr hQ406 rfl) (fun q => by have := (mUp_no e403 ((hQ26.at g_739_28 rfl).trans ex739_28) (Or.inr (by decide))); have := e430; omega) (FP_sm (Sm.up e403 g_739_43 rfl) (FP_sm (Sm.fr hQ26 rfl) pp_FP))
          have pr433 : LRP M404 := LRP_mn (Sm.fr hQ406 rfl) (fun q => by have := (mUp_no e403 ((hQ26.at g_739_28 rfl).trans ex739_28) (Or.inr (by decide))); have := e430; omega) (LRP_sm (Sm.up e403 g_739_43 rfl) (LRP_sm (Sm.fr hQ26 rfl) pp_LP))
          subst hQ; exact wk_ret r58_135 (⟨rfl, hP405, hF407, by have := ((hQ406.at g_739_30 rfl).trans (mUp_no e403 ((hQ26.at g_739_30 rfl).trans ex739_30) (Or.inr (by decide)))); have := e418; omega, by have := e418; have := e421; have := e424; omega, by have := e418; have := e421; have := e424; omega, by have := e424; have := e427; omega, by have := e421; omega, by have := e430; omega, by have := e421; have := e430; omega, by have := e421; have := ((hQ406.at g_739_45 rfl).trans (mUp_no e403 ((hQ26.at g_739_45 rfl).trans ex739_45) (Or.inr (by decide)))); have := e430; omega, by have := ((hQ406.at g_739_45 rfl).trans (mUp_no e403 ((hQ26.at g_739_45 rfl).trans ex739_45) (Or.inr (by decide)))); omega, by have := ((hQ406.at g_739_44 rfl).trans (mUp_no e403 ((hQ26.at g_739_44 rfl).trans ex739_44) (Or.inr (by decide)))); have := e421; have := e430; omega, by have := ((hQ406.at g_739_44 rfl).trans (mUp_no e403 ((hQ26.at g_739_44 rfl).trans ex739_44) (Or.inr (by decide)))); omega, by have := ((hQ406.at g_739_39 rfl).trans (mUp_no e403 ((hQ26.at g_739_39 rfl).trans ex739_39) (Or.inr (by decide)))); have := e430; omega, by have := ((hQ406.at g_739_39 rfl).trans (mUp_no e403 ((hQ26.at g_739_39 rfl).trans ex739_39) (Or.inr (by decide)))); have := e430; omega, by have := ((hQ406.at g_739_40 rfl).trans (mUp_no e403 ((hQ26.at g_739_40 rfl).trans ex739_40) (Or.inr (by decide)))); have := e430; omega, pr415, pr432, (MRP_sm (Sm.fr hQ406 rfl) (MRP_sm (Sm.up e403 g_739_43 rfl) (MRP_sm (Sm.fr hQ26 rfl) pp_MR))), pr433⟩)
      · intro h434
        subst hQ; exact wk_ret r58_29 (⟨rfl, hP0, hF0, by have := ex739_30; have := ex739_31; omega, by have := ex739_31; have := ex739_33; have := ex739_34; omega, by have := ex739_31; have := ex739_33; have := ex739_34; omega, by have := ex739_34; have := ex739_32; omega, by have := ex739_33; omega, by have := ex739_28; omega, by have := ex739_33; have := ex739_28; omega, by have := ex739_33; have := ex739_45; have := ex739_28; omega, by have := ex739_45; omega, by have := ex739_44; have := ex739_33; have := ex739_28; omega, by have := ex739_44; omega, by have := ex739_39; have := ex739_28; omega, by have := ex739_39; have := ex739_28; omega, by have := ex739_40; have := ex739_28; omega, pp_TK, pp_FP, pp_MR, pp_LP⟩)
    · intro h435
      exact wp_fg (le_s (le_s le_0)) c17_459
def fm_m9123_739 : Nat := 11692013098647223345629478661730264157247460343808
/-- IslandHallModel.right -/
theorem m9123_739 {B : eB} (d : Nat) (M0 : Mm) (p1 : Int) (p2 : Int) (x739_0 : Int) (hP0 : Pw M0) (l1 : 0 ≤ p1) (u1 : p1 ≤ 0) (l2 : 1 ≤ p2) (u2 : p2 ≤ 1) (ex739_0 : M0 739 0 = x739_0) (lx739_0 : 0 ≤ x739_0) (ux739_0 : x739_0 ≤ 1) : Ct B (d + 1) 123 [R 739, I p1, I p2] M0 (qI fun z M => Pw M ∧ Fr fm_m9123_739 M0 M ∧ 0 ≤ z ∧ z ≤ 0 ∧ (z = 1 → 0 ≤ p1 + (-1)) ∧ (M0 739 0 = 0 → z = p1)) := by
  refine ct_of (d := d + 0) (k := 0) (L := [some (R 739), some (I p1), some (I p2)]) rfl rfl rfl ?_
  have hF0 := Fr.rf fm_m9123_739 M0
  generalize hQ : (qI fun z M => Pw M ∧ Fr fm_m9123_739 M0 M ∧ 0 ≤ z ∧ z ≤ 0 ∧ (z = 1 → 0 ≤ p1 + (-1)) ∧ (M0 739 0 = 0 → z = p1)) = Q
  refine wk_al0 r123_0 (wk_getfi r123_1 fd_739_0 ex739_0 ?_)
  refine wk_ifne r123_4 ⟨by omega, by omega⟩ ?_ ?_
  · intro h1
    refine wk_al0 r123_16 (wk_getfi r123_17 fd_739_0 ex739_0 ?_)
    refine wk_ifne r123_20 ⟨by omega, by omega⟩ ?_ ?_
    · intro h2
      refine wk_c1 r123_27 ?_
      subst hQ; exact wk_zret r123_28 (by decide) (⟨rfl, _, rfl, hP0, hF0, by omega, by omega, by omega, by intro q; omega⟩)
    · intro h3
      exfalso
      omega
  · intro h4
    refine wk_il1 r123_7 ?_
    refine wk_ifne r123_8 ⟨by omega, by omega⟩ ?_ ?_
    · intro h5
      exfalso
      omega
    · intro h6
      refine wk_al0 r123_11 (wk_il2 r123_12 (wk_putfi81 r123_13 fd_739_0 (wk_nw g_739_0 rfl hP0 hF0 (uf_739_0 ⟨by omega, by omega⟩) ?_)))
      intro M7 hP8 hF9 e10
      refine wk_al0 r123_16 (wk_getfi r123_17 fd_739_0 (mUp_at e10) ?_)
      refine wk_ifne r123_20 ⟨by omega, by omega⟩ ?_ ?_
      · intro h11
        refine wk_c1 r123_27 ?_
        subst hQ; exact wk_zret r123_28 (by decide) (⟨rfl, _, rfl, hP8, hF9, by omega, by omega, by omega, by intro q; omega⟩)
      · intro h12
        exfalso
        omega
def fm_m9123_739v1 : Nat := 0
/-- IslandHallModel.right -/
theorem m9123_739v1 {B : eB} (d : Nat) (M0 : Mm) (p1 : Int) (p2 : Int) (x739_0 : Int) (hP0 : Pw M0) (l1 : 1 ≤ p1) (u1 : p1 ≤ 1) (l2 : 1 ≤ p2) (u2 : p2 ≤ 1) (ex739_0 : M0 739 0 = x739_0) (lx739_0 : 0 ≤ x739_0) (ux739_0 : x739_0 ≤ 1) : Ct B (d + 1) 123 [R 739, I p1, I p2] M0 (qI fun z M => Pw M ∧ Fr fm_m9123_739v1 M0 M ∧ 0 ≤ z ∧ z ≤ 1 ∧ (z = 1 → 0 ≤ p1 + (-1)) ∧ (M0 739 0 = 0 → z = p1)) := by
  refine ct_of (d := d + 0) (k := 0) (L := [some (R 739), some (I p1), some (I p2)]) rfl rfl rfl ?_
  have hF0 := Fr.rf fm_m9123_739v1 M0
  generalize hQ : (qI fun z M => Pw M ∧ Fr fm_m9123_739v1 M0 M ∧ 0 ≤ z ∧ z ≤ 1 ∧ (z = 1 → 0 ≤ p1 + (-1)) ∧ (M0 739 0 = 0 → z = p1)) = Q
  refine wk_al0 r123_0 (wk_getfi r123_1 fd_739_0 ex739_0 ?_)
  refine wk_ifne r123_4 ⟨by omega, by omega⟩ ?_ ?_
  · intro h1
    refine wk_al0 r123_16 (wk_getfi r123_17 fd_739_0 ex739_0 ?_)
    refine wk_ifne r123_20 ⟨by omega, by omega⟩ ?_ ?_
    · intro h2
      refine wk_c1 r123_27 ?_
      subst hQ; exact wk_zret r123_28 (by decide) (⟨rfl, _, rfl, hP0, hF0, by omega, by omega, by omega, by intro q; omega⟩)
    · intro h3
      exfalso
      omega
  · intro h4
    refine wk_il1 r123_7 ?_
    refine wk_ifne r123_8 ⟨by omega, by omega⟩ ?_ ?_
    · intro h5
      refine wk_al0 r123_16 (wk_getfi r123_17 fd_739_0 ex739_0 ?_)
      refine wk_ifne r123_20 ⟨by omega, by omega⟩ ?_ ?_
      · intro h6
        exfalso
        omega
      · intro h7
        refine wk_c1 r123_23 (wk_goto r123_24 ?_)
        subst hQ; exact wk_zret r123_28 (by decide) (⟨rfl, _, rfl, hP0, hF0, by omega, by omega, by omega, by intro q; omega⟩)
    · intro h8
      exfalso
      omega
def fm_m9050_739 : Nat := 414588446143397336432733908100009779012786077071256682959470592
/-- IslandHallModel.begins -/
theorem m9050_739 {B : eB} (d : Nat) (M0 : Mm) (p1 : Int) (x739_27 : Int) (hP0 : Pw M0) (l1 : (-2147483648) ≤ p1) (u1 : p1 ≤ 2147483647) (ex739_27 : M0 739 27 = x739_27) (lx739_27 : 0 ≤ x739_27) (ux739_27 : x739_27 ≤ 500) : Ct B (d + 3) 50 [R 739, I p1] M0 (qI fun z M => Pw M ∧ Fr fm_m9050_739 M0 M ∧ 0 ≤ z ∧ z ≤ 1 ∧ 0 ≤ x739_27 + (-1) * (M 739 27) ∧ (z = 1 → 0 ≤ (-1) * (M 739 28)) ∧ (z = 1 → 0 ≤ (-1) * (M 739 45)) ∧ (z = 1 → 0 ≤ M 739 30 + (-1) * (M 739 31)) ∧ (z = 1 → 0 ≤ M 739 31 + (-1) * (M 739 33) + (-1) * (M 739 34)) ∧ (z = 1 → 0 ≤ (-1) * (M 739 31) + M 739 33 + M 739 34) ∧ (z = 1 → 0 ≤ 4 * (M 739 34) + (-1) * (M 739 32)) ∧ ((z = 1 ∧ 0 ≤ p1 ∧ p1 ≤ x739_27 ∧ M 739 27 = 0) ∨ (z = 0 ∧ (p1 < 0 ∨ x739_27 < p1) ∧ M 739 27 = x739_27)) ∧ (z = 1 → TK M)) := by
  refine ct_of (d := d + 2) (k := 0) (L := [some (R 739), some (I p1)]) rfl rfl rfl ?_
  have hF0 := Fr.rf fm_m9050_739 M0
  generalize hQ : (qI fun z M => Pw M ∧ Fr fm_m9050_739 M0 M ∧ 0 ≤ z ∧ z ≤ 1 ∧ 0 ≤ x739_27 + (-1) * (M 739 27) ∧ (z = 1 → 0 ≤ (-1) * (M 739 28)) ∧ (z = 1 → 0 ≤ (-1) * (M 739 45)) ∧ (z = 1 → 0 ≤ M 739 30 + (-1) * (M 739 31)) ∧ (z = 1 → 0 ≤ M 739 31 + (-1) * (M 739 33) + (-1) * (M 739 34)) ∧ (z = 1 → 0 ≤ (-1) * (M 739 31) + M 739 33 + M 739 34) ∧ (z = 1 → 0 ≤ 4 * (M 739 34) + (-1) * (M 739 32)) ∧ ((z = 1 ∧ 0 ≤ p1 ∧ p1 ≤ x739_27 ∧ M 739 27 = 0) ∨ (z = 0 ∧ (p1 < 0 ∨ x739_27 < p1) ∧ M 739 27 = x739_27)) ∧ (z = 1 → TK M)) = Q
  refine wk_al0 r50_0 (wk_c1 r50_1 (wk_putfi81 r50_2 fd_739_0 (wk_nw g_739_0 rfl hP0 hF0 (uf_739_0 (by decide)) ?_)))
  intro M1 hP2 hF3 e4
  refine wk_al0 r50_5 (wk_il1 r50_6 ?_)
  refine wk_iflt r50_7 ⟨by omega, by omega⟩ ?_ ?_
  · intro h5
    refine wk_c1 r50_22 (wk_c1 r50_23 (wk_cv3 r50_24 kc_739_123 rfl (m9123_739 _ M1 0 1 0 hP2 (by decide) (by decide) (by decide) (by decide) (mUp_at e4) (by omega) (by omega)) (cqI ?_)))
    rintro v12 M6 ⟨hP7, hQ8, h13, h14, h10, xh11⟩
    have hF9 : Fr fm_m9050_739 M0 M6 := hF3.tr hQ8 rfl
    have h15 := xh11 (mUp_at e4)
    refine wk_ifne r50_27 ⟨by omega, by omega⟩ ?_ ?_
    · intro h16
      exfalso
      omega
    · intro h17
      refine wk_c1 r50_30 ?_
      subst hQ; exact wk_zret r50_31 (by decide) (⟨rfl, _, rfl, hP7, hF9, by omega, by omega, by have := ((hQ8.at g_739_27 rfl).trans (mUp_no e4 ex739_27 (Or.inr (by decide)))); omega, by omega, by omega, by omega, by omega, by omega, by omega, by have := ((hQ8.at g_739_27 rfl).trans (mUp_no e4 ex739_27 (Or.inr (by decide)))); omega, fun q => absurd q (by decide)⟩)
  · intro h18
    refine wk_il1 r50_10 (wk_al0 r50_11 (wk_getfi r50_12 fd_739_27 (mUp_no e4 ex739_27 (Or.inr (by decide))) ?_))
    refine wk_icgt r50_15 ⟨by omega, by omega⟩ ⟨by omega, by omega⟩ ?_ ?_
    · intro h19
      refine wk_c1 r50_22 (wk_c1 r50_23 (wk_cv3 r50_24 kc_739_123 rfl (m9123_739 _ M1 0 1 0 hP2 (by decide) (by decide) (by decide) (by decide) (mUp_at e4) (by omega) (by omega)) (cqI ?_)))
      rintro v26 M20 ⟨hP21, hQ22, h27, h28, h24, xh25⟩
      have hF23 : Fr fm_m9050_739 M0 M20 := hF3.tr hQ22 rfl
      have h29 := xh25 (mUp_at e4)
      refine wk_ifne r50_27 ⟨by omega, by omega⟩ ?_ ?_
      · intro h30
        exfalso
        omega
      · intro h31
        refine wk_c1 r50_30 ?_
        subst hQ; exact wk_zret r50_31 (by decide) (⟨rfl, _, rfl, hP21, hF23, by omega, by omega, by have := ((hQ22.at g_739_27 rfl).trans (mUp_no e4 ex739_27 (Or.inr (by decide)))); omega, by omega, by omega, by omega, by omega, by omega, by omega, by have := ((hQ22.at g_739_27 rfl).trans (mUp_no e4 ex739_27 (Or.inr (by decide)))); omega, fun q => absurd q (by decide)⟩)
    · intro h32
      refine wk_c1 r50_18 (wk_goto r50_19 (wk_c1 r50_23 (wk_cv3 r50_24 kc_739_123 rfl (m9123_739v1 _ M1 1 1 0 hP2 (by decide) (by decide) (by decide) (by decide) (mUp_at e4) (by omega) (by omega)) (cqI ?_))))
      rintro v39 M33 ⟨hP34, hQ35, h40, h41, h37, xh38⟩
      obtain rfl := Fr.same hQ35
      have h42 := xh38 (mUp_at e4)
      refine wk_ifne r50_27 ⟨by omega, by omega⟩ ?_ ?_
      · intro h43
        refine wk_al0 r50_32 (wk_c1 r50_33 (wk_putfi81 r50_34 fd_739_27 (wk_nw g_739_27 rfl hP2 hF3 (uf_739_27 (by decide)) ?_)))
        intro M44 hP45 hF46 e47
        refine wk_al0 r50_37 (wk_c1 r50_38 (wk_putfi81 r50_39 fd_739_29 (wk_nw g_739_29 rfl hP45 hF46 (uf_739_29 (by decide)) ?_)))
        intro M48 hP49 hF50 e51
        refine wk_al0 r50_42 (wk_c1 r50_43 (wk_putfi81 r50_44 fd_739_28 (wk_nw g_739_28 rfl hP49 hF50 (uf_739_28 (by decide)) ?_)))
        intro M52 hP53 hF54 e55
        refine wk_al0 r50_47 (wk_il1 r50_48 (wk_putfi81 r50_49 fd_739_30 (wk_nw g_739_30 rfl hP53 hF54 (uf_739_30 ⟨by omega, by omega⟩) ?_)))
        intro M56 hP57 hF58 e59
        refine wk_al0 r50_52 (wk_c1 r50_53 (wk_putfi81 r50_54 fd_739_31 (wk_nw g_739_31 rfl hP57 hF58 (uf_739_31 (by decide)) ?_)))
        intro M60 hP61 hF62 e63
        refine wk_al0 r50_57 (wk_c1 r50_58 (wk_putfi81 r50_59 fd_739_45 (wk_nw g_739_45 rfl hP61 hF62 (uf_739_45 (by decide)) ?_)))
        intro M64 hP65 hF66 e67
        refine wk_al0 r50_62 (wk_cv1 r50_63 kc_739_76 rfl (m9076_739 _ M64 p1 0 hP65 (mUp_no e67 (mUp_no e63 (mUp_at e59) (Or.inr (by decide))) (Or.inr (by decide))) (by omega) (by omega) (mUp_no e67 (mUp_at e63) (Or.inr (by decide))) (by omega) (by omega) (by omega)) (cqV ?_))
        rintro M68 ⟨hP69, hQ70, h72, h73, h74, h75, h76, pr77⟩
        have hF71 : Fr fm_m9050_739 M0 M68 := hF66.tr hQ70 rfl
        have e78 := ((hQ70.at g_739_30 rfl).trans (mUp_no e67 (mUp_no e63 (mUp_at e59) (Or.inr (by decide))) (Or.inr (by decide))))
        obtain ⟨v79, e80⟩ : ∃ v, M68 739 31 = v := ⟨_, rfl⟩
        have h81 := bf_739_31 hP69; rw [e80] at h81
        obtain ⟨v82, e83⟩ : ∃ v, M68 739 33 = v := ⟨_, rfl⟩
        have h84 := bf_739_33 hP69; rw [e83] at h84
        obtain ⟨v85, e86⟩ : ∃ v, M68 739 34 = v := ⟨_, rfl⟩
        have h87 := bf_739_34 hP69; rw [e86] at h87
        obtain ⟨v88, e89⟩ : ∃ v, M68 739 32 = v := ⟨_, rfl⟩
        have h90 := bf_739_32 hP69; rw [e89] at h90
        refine wk_c1 r50_66 ?_
        subst hQ; exact wk_zret r50_67 (by decide) (⟨rfl, _, rfl, hP69, hF71, by omega, by omega, by have := ((hQ70.at g_739_27 rfl).trans (mUp_no e67 (mUp_no e63 (mUp_no e59 (mUp_no e55 (mUp_no e51 (mUp_at e47) (Or.inr (by decide))) (Or.inr (by decide))) (Or.inr (by decide))) (Or.inr (by decide))) (Or.inr (by decide)))); omega, by have := ((hQ70.at g_739_28 rfl).trans (mUp_no e67 (mUp_no e63 (mUp_no e59 (mUp_at e55) (Or.inr (by decide))) (Or.inr (by decide))) (Or.inr (by decide)))); omega, by have := ((hQ70.at g_739_45 rfl).trans (mUp_at e67)); omega, by have := ((hQ70.at g_739_30 rfl).trans (mUp_no e67 (mUp_no e63 (mUp_at e59) (Or.inr (by decide))) (Or.inr (by decide)))); have := e80; omega, by have := e80; have := e83; have := e86; omega, by have := e80; have := e83; have := e86; omega, by have := e86; have := e89; omega, by have := ((hQ70.at g_739_27 rfl).trans (mUp_no e67 (mUp_no e63 (mUp_no e59 (mUp_no e55 (mUp_no e51 (mUp_at e47) (Or.inr (by decide))) (Or.inr (by decide))) (Or.inr (by decide))) (Or.inr (by decide))) (Or.inr (by decide)))); omega, fun _ => pr77⟩)
      · intro h91
        refine wk_c1 r50_30 ?_
        subst hQ; exact wk_zret r50_31 (by decide) (⟨rfl, _, rfl, hP2, hF3, by omega, by omega, by have := (mUp_no e4 ex739_27 (Or.inr (by decide))); omega, by omega, by omega, by omega, by omega, by omega, by omega, by have := (mUp_no e4 ex739_27 (Or.inr (by decide))); omega, fun q => absurd q (by decide)⟩)
def fm_m9126_739 : Nat := 1357380257545207893277817106971747046365150226405306867032546605215422349312
/-- IslandHallModel.sentence -/
theorem m9126_739 {B : eB} (d : Nat) (M0 : Mm) (p1 : Int) (x739_27 : Int) (hP0 : Pw M0) (l1 : (-2147483648) ≤ p1) (u1 : p1 ≤ 2147483647) (ex739_27 : M0 739 27 = x739_27) (lx739_27 : 0 ≤ x739_27) (ux739_27 : x739_27 ≤ 500) (pp_WS : WS M0) (pp_QW : QW M0) : Ct B (d + 8) 126 [R 739, I p1] M0 (qI fun z M => Pw M ∧ Fr fm_m9126_739 M0 M ∧ (-9) ≤ z ∧ z ≤ 29 ∧ ((0 ≤ p1 ∧ p1 ≤ x739_27 ∧ M 739 27 = 0) ∨ ((p1 < 0 ∨ x739_27 < p1) ∧ M 739 27 = x739_27)) ∧ (WS M) ∧ (QW M)) := by
  refine ct_of (d := d + 7) (k := 1) (L := [some (R 739), some (I p1), none]) rfl rfl rfl ?_
  have hF0 := Fr.rf fm_m9126_739 M0
  generalize hQ : (qI fun z M => Pw M ∧ Fr fm_m9126_739 M0 M ∧ (-9) ≤ z ∧ z ≤ 29 ∧ ((0 ≤ p1 ∧ p1 ≤ x739_27 ∧ M 739 27 = 0) ∨ ((p1 < 0 ∨ x739_27 < p1) ∧ M 739 27 = x739_27)) ∧ (WS M) ∧ (QW M)) = Q
  refine wk_al0 r126_0 (wk_il1 r126_1 (wk_cv2 r126_2 kc_739_50 rfl (m9050_739 _ M0 p1 x739_27 hP0 (by omega) (by omega) ex739_27 (by omega) (by omega)) (cqI ?_)))
  rintro v14 M1 ⟨hP2, hQ3, h15, h16, h5, h6, h7, h8, h9, h10, h11, xh12, xh13⟩
  have hF4 : Fr fm_m9126_739 M0 M1 := hF0.tr hQ3 rfl
  obtain ⟨v17, e18⟩ : ∃ v, M1 739 27 = v := ⟨_, rfl⟩
  have h19 := bf_739_27 hP2; rw [e18] at h19
  obtain ⟨v20, e21⟩ : ∃ v, M1 739 28 = v := ⟨_, rfl⟩
  have h22 := bf_739_28 hP2; rw [e21] at h22
  obtain ⟨v23, e24⟩ : ∃ v, M1 739 45 = v := ⟨_, rfl⟩
  have h25 := bf_739_45 hP2; rw [e24] at h25
  obtain ⟨v26, e27⟩ : ∃ v, M1 739 30 = v := ⟨_, rfl⟩
  have h28 := bf_739_30 hP2; rw [e27] at h28
  obtain ⟨v29, e30⟩ : ∃ v, M1 739 31 = v := ⟨_, rfl⟩
  have h31 := bf_739_31 hP2; rw [e30] at h31
  obtain ⟨v32, e33⟩ : ∃ v, M1 739 33 = v := ⟨_, rfl⟩
  have h34 := bf_739_33 hP2; rw [e33] at h34
  obtain ⟨v35, e36⟩ : ∃ v, M1 739 34 = v := ⟨_, rfl⟩
  have h37 := bf_739_34 hP2; rw [e36] at h37
  obtain ⟨v38, e39⟩ : ∃ v, M1 739 32 = v := ⟨_, rfl⟩
  have h40 := bf_739_32 hP2; rw [e39] at h40
  refine wk_ifne r126_5 ⟨by omega, by omega⟩ ?_ ?_
  · intro h41
    have pr42 : TK M1 := xh13 (by omega)
    refine wk_al0 r126_10 (wk_getfb r126_11 fd_739_13 (bf_739_13 hP2) ?_)
    intro v43 h45 h46 e44
    refine wk_c2 r126_14 ?_
    refine wk_icne r126_16 ⟨by omega, by omega⟩ (by decide) ?_ ?_
    · intro h47
      refine wk_al0 r126_22 (wk_al0 r126_23 (wk_getfb r126_24 fd_739_1 (bf_739_1 hP2) ?_))
      intro v48 h50 h51 e49
      refine wk_putfi81 r126_27 fd_739_38 (wk_nw g_739_38 rfl hP2 hF4 (uf_739_38 ⟨by omega, by omega⟩) ?_)
      intro M52 hP53 hF54 e55
      refine wk_al0 r126_30 ?_
      obtain ⟨v56, e57⟩ : ∃ v, M52 739 46 = v := ⟨_, rfl⟩
      have h58 := bf_739_46 hP53; rw [e57] at h58
      obtain ⟨v59, e60⟩ : ∃ v, M52 739 47 = v := ⟨_, rfl⟩
      have h61 := bf_739_47 hP53; rw [e60] at h61
      obtain ⟨v62, e63⟩ : ∃ v, M52 739 36 = v := ⟨_, rfl⟩
      have h64 := bf_739_36 hP53; rw [e63] at h64
      obtain ⟨v65, e66⟩ : ∃ v, M52 739 51 = v := ⟨_, rfl⟩
      have h67 := bf_739_51 hP53; rw [e66] at h67
      obtain ⟨v68, e69⟩ : ∃ v, M52 739 35 = v := ⟨_, rfl⟩
      have h70 := bf_739_35 hP53; rw [e69] at h70
      refine wk_cv1 r126_31 kc_739_68 rfl (m9068_739 _ M52 v26 v29 v32 v35 v38 v20 v23 v56 v59 v48 v62 v65 v68 hP53 (mUp_no e55 e27 (Or.inr (by decide))) (by omega) (by omega) (mUp_no e55 e30 (Or.inr (by decide))) (by omega) (by omega) (mUp_no e55 e33 (Or.inr (by decide))) (by omega) (by omega) (mUp_no e55 e36 (Or.inr (by decide))) (by omega) (by omega) (mUp_no e55 e39 (Or.inr (by decide))) (by omega) (by omega) (mUp_no e55 e21 (Or.inr (by decide))) (by omega) (by omega) (mUp_no e55 e24 (Or.inr (by decide))) (by omega) (by omega) e57 (by omega) (by omega) e60 (by omega) (by omega) (mUp_at e55) (by omega) (by omega) e63 (by omega) (by omega) e66 (by omega) (by omega) e69 (by omega) (by omega) (by omega) (by omega) (by omega) (by omega) (by omega) (by omega) (by omega) (TK_sm (Sm.up e55 g_739_38 rfl) pr42)) (cqV ?_)
      rintro M71 ⟨hP72, hQ73, h75, h76, h77, h78, h79, h80, h81, h82, xh83, pr84⟩
      have hF74 : Fr fm_m9126_739 M0 M71 := hF54.tr hQ73 rfl
      have e85 := ((hQ73.at g_739_30 rfl).trans (mUp_no e55 e27 (Or.inr (by decide))))
      obtain ⟨v86, e87⟩ : ∃ v, M71 739 31 = v := ⟨_, rfl⟩
      have h88 := bf_739_31 hP72; rw [e87] at h88
      obtain ⟨v89, e90⟩ : ∃ v, M71 739 33 = v := ⟨_, rfl⟩
      have h91 := bf_739_33 hP72; rw [e90] at h91
      obtain ⟨v92, e93⟩ : ∃ v, M71 739 34 = v := ⟨_, rfl⟩
      have h94 := bf_739_34 hP72; rw [e93] at h94
      obtain ⟨v95, e96⟩ : ∃ v, M71 739 32 = v := ⟨_, rfl⟩
      have h97 := bf_739_32 hP72; rw [e96] at h97
      obtain ⟨v98, e99⟩ : ∃ v, M71 739 28 = v := ⟨_, rfl⟩
      have h100 := bf_739_28 hP72; rw [e99] at h100
      obtain ⟨v101, e102⟩ : ∃ v, M71 739 45 = v := ⟨_, rfl⟩
      have h103 := bf_739_45 hP72; rw [e102] at h103
      have pr104 : SGP M71 := SG_of xh83 (by omega)
      refine wk_al0 r126_34 (wk_cv1 r126_35 kc_739_65 rfl (m9065_739 _ M71 v26 v86 v89 v92 v95 v98 hP72 ((hQ73.at g_739_30 rfl).trans (mUp_no e55 e27 (Or.inr (by decide)))) (by omega) (by omega) e87 (by omega) (by omega) e90 (by omega) (by omega) e93 (by omega) (by omega) e96 (by omega) (by omega) e99 (by omega) (by omega) (by omega) (by omega) (by omega) (by omega) pr84) (cqV ?_))
      rintro M105 ⟨hP106, hQ107, h109, h110, h111, h112, h113, h114, h115, pr116⟩
      have hF108 : Fr fm_m9126_739 M0 M105 := hF74.tr hQ107 rfl
      have e117 := ((hQ107.at g_739_30 rfl).trans ((hQ73.at g_739_30 rfl).trans (mUp_no e55 e27 (Or.inr (by decide)))))
      obtain ⟨v118, e119⟩ : ∃ v, M105 739 31 = v := ⟨_, rfl⟩
      have h120 := bf_739_31 hP106; rw [e119] at h120
      obtain ⟨v121, e122⟩ : ∃ v, M105 739 33 = v := ⟨_, rfl⟩
      have h123 := bf_739_33 hP106; rw [e122] at h123
      obtain ⟨v124, e125⟩ : ∃ v, M105 739 34 = v := ⟨_, rfl⟩
      have h126 := bf_739_34 hP106; rw [e125] at h126
      obtain ⟨v127, e128⟩ : ∃ v, M105 739 32 = v := ⟨_, rfl⟩
      have h129 := bf_739_32 hP106; rw [e128] at h129
      obtain ⟨v130, e131⟩ : ∃ v, M105 739 28 = v := ⟨_, rfl⟩
      have h132 := bf_739_28 hP106; rw [e131] at h132
      have pr133 : SGP M105 := SGP_mn (Sm.fr hQ107 rfl) (fun q => by have := e99; have := e131; omega) pr104
      refine wk_al0 r126_38 (wk_cv1 r126_39 kc_739_84 rfl (m9084_739 _ M105 v130 hP106 e131 (by omega) (by omega)) (cqI ?_))
      rintro v140 M134 ⟨hP135, hQ136, h141, h142, h138, h139⟩
      obtain rfl := Fr.same hQ136
      have e143 := e131
      refine wk_ifeq r126_42 ⟨by omega, by omega⟩ ?_ ?_
      · intro h144
        refine wk_al0 r126_57 (wk_cv1 r126_58 kc_739_84 rfl (m9084_739 _ M105 v130 hP106 e131 (by omega) (by omega)) (cqI ?_))
        rintro v151 M145 ⟨hP146, hQ147, h152, h153, h149, h150⟩
        obtain rfl := Fr.same hQ147
        have e154 := e131
        refine wk_ifne r126_61 ⟨by omega, by omega⟩ ?_ ?_
        · intro h155
          exfalso
          omega
        · intro h156
          refine wk_c1 r126_64 (wk_al0 r126_65 (wk_getfi r126_66 fd_739_28 e131 (wk_isub r126_69 ?_)))
          subst hQ; exact wk_iret r126_70 (⟨rfl, _, rfl, hP106, hF108, by omega, by omega, by have := ((hQ107.at g_739_27 rfl).trans ((hQ73.at g_739_27 rfl).trans (mUp_no e55 e18 (Or.inr (by decide))))); omega, (WS_sm (Sm.fr hQ107 rfl) (WS_sm (Sm.fr hQ73 rfl) (WS_sm (Sm.up e55 g_739_38 rfl) (WS_sm (Sm.fr hQ3 rfl) pp_WS)))), (QW_sm (Sm.fr hQ107 rfl) (QW_sm (Sm.fr hQ73 rfl) (QW_sm (Sm.up e55 g_739_38 rfl) (QW_sm (Sm.fr hQ3 rfl) pp_QW))))⟩)
      · intro h157
        refine wk_al0 r126_45 (wk_getfi r126_46 fd_739_32 e128 ?_)
        refine wk_ifeq r126_49 ⟨by omega, by omega⟩ ?_ ?_
        · intro h158
          refine wk_al0 r126_57 (wk_cv1 r126_58 kc_739_84 rfl (m9084_739 _ M105 v130 hP106 e131 (by omega) (by omega)) (cqI ?_))
          rintro v165 M159 ⟨hP160, hQ161, h166, h167, h163, h164⟩
          obtain rfl := Fr.same hQ161
          have e168 := e131
          refine wk_ifne r126_61 ⟨by omega, by omega⟩ ?_ ?_
          · intro h169
            obtain ⟨u170, hu171⟩ : ∃ u : Int → Int, ∀ k, M105 757 k = u k := ⟨fun k => M105 757 k, fun k => rfl⟩
            have hsg : SEG u170 0 v101 := SGP_get pr133 e131 (by omega) hu171 ((hQ107.at g_739_45 rfl).trans e102)
            obtain ⟨Ma, hMa⟩ : ∃ m : Mm, m = M105 := ⟨_, rfl⟩
            have hS0 : M105 739 13 = v43 := ((hQ107.at g_739_13 rfl).trans ((hQ73.at g_739_13 rfl).trans (mUp_no e55 e44 (Or.inr (by decide)))))
            have hWa : WS Ma := by rw [hMa]; exact (WS_sm (Sm.fr hQ107 rfl) (WS_sm (Sm.fr hQ73 rfl) (WS_sm (Sm.up e55 g_739_38 rfl) (WS_sm (Sm.fr hQ3 rfl) pp_WS))))
            have hSa : Ma 739 13 = v43 := by rw [hMa]; exact hS0
            refine wk_c1 r126_71 (wk_is2 r126_72 rfl ?_)
            have c73_603 : ∀ (k603 : Nat) (M563 : Mm) (v560 : Int), (251 - v560).toNat = k603 → Pw M563 → Fr fm_m9126_739 M0 M563 → M563 739 27 = v17 → M563 739 30 = v26 → M563 739 13 = v43 → M563 739 1 = v48 → M563 739 38 = v48 → M563 739 45 = v101 → M563 739 31 = v118 → M563 739 33 = v121 → M563 739 34 = v124 → M563 739 32 = v127 → M563 739 28 = v130 → 0 ≤ v560 → v560 ≤ 251 → (∀ k, M563 757 k = u170 k) → (TK M563) → (SGP M563) → (QW M563) → 0 ≤ 1 * v26 + (-1) * v118 → 0 ≤ 1 * v118 + (-1) * v121 + (-1) * v124 → 0 ≤ (-1) * v118 + 1 * v121 + 1 * v124 → 0 ≤ 4 * v124 + (-1) * v127 → (∀ k : Int, 0 ≤ k → k < v560 → M563 747 (400 * v43 + k) = u170 k) → (∀ k : Int, k < 400 * v43 → M563 747 k = Ma 747 k) → Wp B (d + 7) 126 73 [some (R 739), none, some (I v560)] [] M563 Q := by
              refine lp_ind ?_
              intro k603 ih603 M563 v560 hk603 hP564 hF565 e567 e568 e569 e570 e571 e572 e573 e574 e575 e576 e577 h561 h562 hu566 pr578 pr579 pr580 h581 h582 h583 h584 ti585 ti586
              refine wk_il2 r126_73 (wk_al0 r126_74 (wk_getfi r126_75 fd_739_45 e572 ?_))
              refine wk_icge r126_78 ⟨by omega, by omega⟩ ⟨by omega, by omega⟩ ?_ ?_
              · intro h587
                refine wk_al0 r126_108 (wk_dupr r126_109 (wk_getfi r126_110 fd_739_13 e569 (wk_c1 r126_113 (wk_iadd r126_114 (wk_putfi81 r126_115 fd_739_13 (wk_nw g_739_13 rfl hP564 hF565 (uf_739_13 ⟨by omega, by omega⟩) ?_))))))
                intro M588 hP589 hF590 e591
                have pr592 : WS M588 := WS_new hWa hSa (by omega) ti586 hsg (fun k a b => ti585 k a (by omega)) (by omega) e591
                have pr593 : QW M588 := QW_new pr580 (mUp_at e591) e591
                refine wk_al0 r126_118 (wk_getfi r126_119 fd_739_13 (mUp_at e591) (wk_c1 r126_122 (wk_isub r126_123 ?_)))
                subst hQ; exact wk_iret r126_124 (⟨rfl, _, rfl, hP589, hF590, by omega, by omega, by have := (mUp_no e591 e567 (Or.inr (by decide))); omega, pr592, pr593⟩)
              · intro h594
                refine wk_al0 r126_81 (wk_getfr r126_82 fd_739_14 (br_739_14 hP564) (wk_c3 r126_85 (wk_al0 r126_88 (wk_getfi r126_89 fd_739_13 e569 (wk_imul r126_92 (wk_il2 r126_93 (wk_iadd r126_94 (wk_al0 r126_95 (wk_getfr r126_96 fd_739_49 (br_739_49 hP564) (wk_il2 r126_99 (wk_ialdb r126_100 ar_757 ⟨by omega, by omega⟩ (fun q0 q1 => ba_757 hP564 q0 q1) ?_)))))))))))
                intro v595 h597 h598 e596
                refine wk_iast r126_101 ar_747 ⟨by omega, by omega⟩ (wk_nw (ga_747 _) rfl hP564 hF565 (uaR_747 (by rw [← e596, hu566]; exact SEG_ok hsg _ (by omega) (by omega))) ?_)
                intro M599 hP600 hF601 e602
                refine wk_inc2 r126_102 rfl (wk_goto r126_105 ?_)
                exact wp_fg (le_s (le_s (le_s le_0))) (ih603 (251 - (v560 + 1)).toNat (by omega) M599 (v560 + 1) rfl hP600 hF601 (mUp_no e602 e567 (Or.inl (by decide))) (mUp_no e602 e568 (Or.inl (by decide))) (mUp_no e602 e569 (Or.inl (by decide))) (mUp_no e602 e570 (Or.inl (by decide))) (mUp_no e602 e571 (Or.inl (by decide))) (mUp_no e602 e572 (Or.inl (by decide))) (mUp_no e602 e573 (Or.inl (by decide))) (mUp_no e602 e574 (Or.inl (by decide))) (mUp_no e602 e575 (Or.inl (by decide))) (mUp_no e602 e576 (Or.inl (by decide))) (mUp_no e602 e577 (Or.inl (by decide))) (by omega) (by omega) (fun k => mUp_no e602 (hu566 k) (Or.inl (by decide))) (TK_sm (Sm.up e602 (ga_747 _) rfl) pr578) (SGP_sm (Sm.up e602 (ga_747 _) rfl) pr579) (QW_sm (Sm.up e602 (ga_747 _) rfl) pr580) (by omega) (by omega) (by omega) (by omega) (cp_step e602 ti585 e596 hu566) (fun k hk => by rw [e602, mUp_ne (Or.inr (by omega))]; exact ti586 k hk))
            exact wp_fg (le_s (le_n (le_s le_0))) (c73_603 _ M105 0 rfl hP106 hF108 ((hQ107.at g_739_27 rfl).trans ((hQ73.at g_739_27 rfl).trans (mUp_no e55 e18 (Or.inr (by decide))))) ((hQ107.at g_739_30 rfl).trans ((hQ73.at g_739_30 rfl).trans (mUp_no e55 e27 (Or.inr (by decide))))) ((hQ107.at g_739_13 rfl).trans ((hQ73.at g_739_13 rfl).trans (mUp_no e55 e44 (Or.inr (by decide))))) ((hQ107.at g_739_1 rfl).trans ((hQ73.at g_739_1 rfl).trans (mUp_no e55 e49 (Or.inr (by decide))))) ((hQ107.at g_739_38 rfl).trans ((hQ73.at g_739_38 rfl).trans (mUp_at e55))) ((hQ107.at g_739_45 rfl).trans e102) e119 e122 e125 e128 e131 (by omega) (by omega) hu171 pr116 pr133 (QW_sm (Sm.fr hQ107 rfl) (QW_sm (Sm.fr hQ73 rfl) (QW_sm (Sm.up e55 g_739_38 rfl) (QW_sm (Sm.fr hQ3 rfl) pp_QW)))) (by omega) (by omega) (by omega) (by omega) (fun k a b => by omega) (fun k _ => by rw [hMa]))
          · intro h604
            exfalso
            omega
        · intro h605
          refine wk_al0 r126_52 (wk_c1 r126_53 (wk_cv2 r126_54 kc_739_137 rfl (m9137_739 _ M105 1 v130 v121 hP106 (by decide) (by decide) e131 (by omega) (by omega) e122 (by omega) (by omega)) (cqV ?_)))
          rintro M606 ⟨hP607, hQ608, h610, h611⟩
          have hF609 : Fr fm_m9126_739 M0 M606 := hF108.tr hQ608 rfl
          obtain ⟨v612, e613⟩ : ∃ v, M606 739 28 = v := ⟨_, rfl⟩
          have h614 := bf_739_28 hP607; rw [e613] at h614
          have pr615 : SGP M606 := SGP_mn (Sm.fr hQ608 rfl) (fun q => by have := e131; have := e613; omega) pr133
          refine wk_al0 r126_57 (wk_cv1 r126_58 kc_739_84 rfl (m9084_739 _ M606 v612 hP607 e613 (by omega) (by omega)) (cqI ?_))
          rintro v622 M616 ⟨hP617, hQ618, h623, h624, h620, h621⟩
          obtain rfl := Fr.same hQ618
          have e625 := e613
          refine wk_ifne r126_61 ⟨by omega, by omega⟩ ?_ ?_
          · intro h626
            exfalso
            omega
          · intro h627
            refine wk_c1 r126_64 (wk_al0 r126_65 (wk_getfi r126_66 fd_739_28 e613 (wk_isub r126_69 ?_)))
            subst hQ; exact wk_iret r126_70 (⟨rfl, _, rfl, hP607, hF609, by omega, by omega, by have := ((hQ608.at g_739_27 rfl).trans ((hQ107.at g_739_27 rfl).trans ((hQ73.at g_739_27 rfl).trans (mUp_no e55 e18 (Or.inr (by decide)))))); omega, (WS_sm (Sm.fr hQ608 rfl) (WS_sm (Sm.fr hQ107 rfl) (WS_sm (Sm.fr hQ73 rfl) (WS_sm (Sm.up e55 g_739_38 rfl) (WS_sm (Sm.fr hQ3 rfl) pp_WS))))), (QW_sm (Sm.fr hQ608 rfl) (QW_sm (Sm.fr hQ107 rfl) (QW_sm (Sm.fr hQ73 rfl) (QW_sm (Sm.up e55 g_739_38 rfl) (QW_sm (Sm.fr hQ3 rfl) pp_QW)))))⟩)
    · intro h628
      refine wk_c2 r126_19 ?_
      subst hQ; exact wk_iret r126_21 (⟨rfl, _, rfl, hP2, hF4, by omega, by omega, by have := e18; omega, (WS_sm (Sm.fr hQ3 rfl) pp_WS), (QW_sm (Sm.fr hQ3 rfl) pp_QW)⟩)
  · intro h629
    refine wk_c1 r126_8 ?_
    subst hQ; exact wk_iret r126_9 (⟨rfl, _, rfl, hP2, hF4, by omega, by omega, by have := e18; omega, (WS_sm (Sm.fr hQ3 rfl) pp_WS), (QW_sm (Sm.fr hQ3 rfl) pp_QW)⟩)
def fm_m9094_739 : Nat := 0
/-- IslandHallModel.kindOf -/
theorem m9094_739 {B : eB} (d : Nat) (M0 : Mm) (p1 : Int) (p2 : Int) (hP0 : Pw M0) (l1 : 0 ≤ p1) (u1 : p1 ≤ 2999) (l2 : 0 ≤ p2) (u2 : p2 ≤ 6) : Ct B (d + 1) 94 [R 739, I p1, I p2] M0 (qI fun z M => Pw M ∧ Fr fm_m9094_739 M0 M ∧ 0 ≤ z ∧ z ≤ 7) := by
  refine ct_of (d := d + 0) (k := 0) (L := [some (R 739), some (I p1), some (I p2)]) rfl rfl rfl ?_
  have hF0 := Fr.rf fm_m9094_739 M0
  generalize hQ : (qI fun z M => Pw M ∧ Fr fm_m9094_739 M0 M ∧ 0 ≤ z ∧ z ≤ 7) = Q
  refine wk_al0 r94_0 (wk_getfr r94_1 fd_739_8 (br_739_8 hP0) (wk_il1 r94_4 (wk_ialdb r94_5 ar_742 ⟨by omega, by omega⟩ (fun q0 q1 => ba_742 hP0 q0 q1) ?_)))
  intro v1 h3 h4 e2
  refine wk_c1 r94_6 (wk_il2 r94_7 (wk_imul r94_8 (wk_shrb r94_9 ⟨by omega, by omega⟩ ⟨by omega, by omega⟩ ?_)))
  intro v5 h6 h7 h8
  refine wk_c2 r94_10 (wk_iandc 3 8 r94_12 ⟨rfl, by decide⟩ rfl ?_)
  subst hQ; exact wk_iret r94_13 (⟨rfl, _, rfl, hP0, hF0, by omega, by omega⟩)
def fm_m9115 : Nat := 0
/-- IslandHallModel.one -/
theorem m9115 {B : eB} (d : Nat) (M0 : Mm) (p0 : Int) (hP0 : Pw M0) (l0 : 0 ≤ p0) (u0 : p0 ≤ 0) : Ct B (d + 1) 115 [I p0] M0 (qI fun z M => Pw M ∧ Fr fm_m9115 M0 M ∧ 0 ≤ z ∧ z ≤ 0) := by
  refine ct_of (d := d + 0) (k := 0) (L := [some (I p0)]) rfl rfl rfl ?_
  have hF0 := Fr.rf fm_m9115 M0
  generalize hQ : (qI fun z M => Pw M ∧ Fr fm_m9115 M0 M ∧ 0 ≤ z ∧ z ≤ 0) = Q
  refine wk_il0 r115_0 ?_
  refine wk_ifeq r115_1 ⟨by omega, by omega⟩ ?_ ?_
  · intro h1
    refine wk_c1 r115_8 ?_
    subst hQ; exact wk_iret r115_9 (⟨rfl, _, rfl, hP0, hF0, by omega, by omega⟩)
  · intro h2
    exfalso
    omega
def fm_m9115v1 : Nat := 0
/-- IslandHallModel.one -/
theorem m9115v1 {B : eB} (d : Nat) (M0 : Mm) (p0 : Int) (hP0 : Pw M0) (l0 : 0 ≤ p0) (u0 : p0 ≤ 1) : Ct B (d + 1) 115 [I p0] M0 (qI fun z M => Pw M ∧ Fr fm_m9115v1 M0 M ∧ 0 ≤ z ∧ z ≤ 1) := by
  refine ct_of (d := d + 0) (k := 0) (L := [some (I p0)]) rfl rfl rfl ?_
  have hF0 := Fr.rf fm_m9115v1 M0
  generalize hQ : (qI fun z M => Pw M ∧ Fr fm_m9115v1 M0 M ∧ 0 ≤ z ∧ z ≤ 1) = Q
  refine wk_il0 r115_0 ?_
  refine wk_ifeq r115_1 ⟨by omega, by omega⟩ ?_ ?_
  · intro h1
    refine wk_c1 r115_8 ?_
    subst hQ; exact wk_iret r115_9 (⟨rfl, _, rfl, hP0, hF0, by omega, by omega⟩)
  · intro h2
    refine wk_c1 r115_4 (wk_goto r115_5 ?_)
    subst hQ; exact wk_iret r115_9 (⟨rfl, _, rfl, hP0, hF0, by omega, by omega⟩)
def fm_m9109_739 : Nat := 0
/-- IslandHallModel.manyOf -/
theorem m9109_739 {B : eB} (d : Nat) (M0 : Mm) (p1 : Int) (p2 : Int) (hP0 : Pw M0) (l1 : 0 ≤ p1) (u1 : p1 ≤ 2999) (l2 : 0 ≤ p2) (u2 : p2 ≤ 127) : Ct B (d + 2) 109 [R 739, I p1, I p2] M0 (qI fun z M => Pw M ∧ Fr fm_m9109_739 M0 M ∧ 0 ≤ z ∧ z ≤ 7) := by
  refine ct_of (d := d + 1) (k := 2) (L := [some (R 739), some (I p1), some (I p2), none, none]) rfl rfl rfl ?_
  have hF0 := Fr.rf fm_m9109_739 M0
  generalize hQ : (qI fun z M => Pw M ∧ Fr fm_m9109_739 M0 M ∧ 0 ≤ z ∧ z ≤ 7) = Q
  refine wk_c1 r109_0 (wk_is3 r109_1 rfl (wk_c1 r109_2 (wk_is4 r109_3 rfl ?_)))
  have c5_134 : ∀ (k134 : Nat) (v112 : Int) (v115 : Int), (7 - v115).toNat = k134 → 0 ≤ v112 → v112 ≤ 7 → 0 ≤ v115 → v115 ≤ 7 → 0 ≤ (-1) * v112 + v115 + 0 → Wp B (d + 1) 109 5 [some (R 739), some (I p1), some (I p2), some (I v112), some (I v115)] [] M0 Q := by
    refine lp_ind ?_
    intro k134 ih134 v112 v115 hk134 h113 h114 h116 h117 h118
    refine wk_il4 r109_5 (wk_al0 r109_7 (wk_getfb r109_8 fd_739_1 (bf_739_1 hP0) ?_))
    intro v119 h121 h122 e120
    refine wk_icge r109_11 ⟨by omega, by omega⟩ ⟨by omega, by omega⟩ ?_ ?_
    · intro h123
      refine wk_il3 r109_39 ?_
      subst hQ; exact wk_iret r109_40 (⟨rfl, _, rfl, hP0, hF0, by omega, by omega⟩)
    · intro h124
      refine wk_il3 r109_14 (wk_al0 r109_15 (wk_il1 r109_16 (wk_il4 r109_17 (wk_cv3 r109_19 kc_739_94 rfl (m9094_739 _ M0 p1 v115 hP0 (by omega) (by omega) (by omega) (by omega)) (cqI ?_)))))
      rintro v129 M125 ⟨hP126, hQ127, h130, h131⟩
      obtain rfl := Fr.same hQ127
      refine wk_il2 r109_22 ?_
      refine wk_icne r109_23 ⟨by omega, by omega⟩ ⟨by omega, by omega⟩ ?_ ?_
      · intro h132
        refine wk_c1 r109_30 (wk_iadd r109_31 (wk_is3 r109_32 rfl (wk_inc4 r109_33 rfl (wk_goto r109_36 ?_))))
        exact wp_fg (le_s (le_s (le_s (le_s (le_s le_0))))) (ih134 (7 - (v115 + 1)).toNat (by omega) (v112 + 0) (v115 + 1) rfl (by omega) (by omega) (by omega) (by omega) (by omega))
      · intro h133
        refine wk_c1 r109_26 (wk_goto r109_27 (wk_iadd r109_31 (wk_is3 r109_32 rfl (wk_inc4 r109_33 rfl (wk_goto r109_36 ?_)))))
        exact wp_fg (le_s (le_s (le_s (le_s (le_s le_0))))) (ih134 (7 - (v115 + 1)).toNat (by omega) (v112 + 1) (v115 + 1) rfl (by omega) (by omega) (by omega) (by omega) (by omega))
  exact wp_fg (le_s (le_s (le_s (le_s (le_s le_0))))) (c5_134 _ 0 0 rfl (by omega) (by omega) (by omega) (by omega) (by omega))
