/-! ===== written by program (wip/layer3/model.py): contracts of methods ===== -/
def fm_m9050_739 : Nat := 414588446143397336432733908100009779012786077071256682959470592
/-- IslandHallModel.begins -/
theorem m9050_739 {B : eB} (d : Nat) (M0 : Mm) (p1 : Int) (x739_27 : Int) (hP0 : Pw M0) (l1 : (-2147483648) ≤ p1) (u1 : p1 ≤ 2147483647) (ex739_27 : M0 739 27 = x739_27) (lx739_27 : 0 ≤ x739_27) (ux739_27 : x739_27 ≤ 500) : Ct B (d + 3) 50 [R 739, I p1] M0 (qI fun z M => Pw M ∧ Fr fm_m9050_739 M0 M ∧ 0 ≤ z ∧ z ≤ 1 ∧ 0 ≤ x739_27 + (-1) * (M 739 27) ∧ (z = 1 → 0 ≤ (-1) * (M 739 28)) ∧ (z = 1 → 0 ≤ (-1) * (M 739 45)) ∧ (z = 1 → 0 ≤ M 739 30 + (-1) * (M 739 31)) ∧ (z = 1 → 0 ≤ M 739 31 + (-1) * (M 739 33) + (-1) * (M 739 34)) ∧ (z = 1 → 0 ≤ (-1) * (M 739 31) + M 739 33 + M 739 34) ∧ (z = 1 → 0 ≤ 4 * (M 739 34) + (-1) * (M 739 32)) ∧ ((z = 1 ∧ 0 ≤ p1 ∧ p1 ≤ x739_27 ∧ M 739 27 = 0) ∨ (z = 0 ∧ (p1 < 0 ∨ x739_27 < p1) ∧ M 739 27 = x739_27)) ∧ (z = 1 → TK M)) := by
  refine ct_of (d := d + 2) (k := 0) (L := [some (R 739), some (I p1)]) rfl rfl rfl ?_
  have hF0 := Fr.rf fm_m9050_739 M0
  generalize hQ : (qI fun z M => Pw M ∧ Fr fm_m9050_739 M0 M ∧ 0 ≤ z ∧ z ≤ 1 ∧ 0 ≤ x739_27 + (-1) * (M 739 27) ∧ (z = 1 → 0 ≤ (-1) * (M 739 28)) ∧ (z = 1 → 0 ≤ (-1) * (M 739 45)) ∧ (z = 1 → 0 ≤ M 739 30 + (-1) * (M 739 31)) ∧ (z = 1 → 0 ≤ M 739 31 + (-1) * (M 739 33) + (-1) * (M 739 34)) ∧ (z = 1 → 0 ≤ (-1) * (M 739 31) + M 739 33 + M 739 34) ∧ (z = 1 → 0 ≤ 4 * (M 739 34) + (-1) * (M 739 32)) ∧ ((z = 1 ∧ 0 ≤ p1 ∧ p1 ≤ x739_27 ∧ M 739 27 = 0) ∨ (z = 0 ∧ (p1 < 0 ∨ x739_27 < p1) ∧ M 739 27 = x739_27)) ∧ (z = 1 → TK M)) = Q
  refine wk_al0 r50_0 (wk_c1 r50_1 (wk_putfi81 r50_2 fd_739_0 (wk_nw g_739_0 rfl hP0 hF0 (uf_739_0 (by decide)) ?_)))
  intro M1 hP2 hF3 e4
  refine wk_al0 r50_5 (wk_il1 r50_6 ?_)
  refine wk_iflt r50_7 ⟨by omega, by omega⟩ ?_ ?_
  · intro h5
    refine wk_c1 r50_22 (wk_c1 r50_23 (wk_cv3 r50_24 kc_739_123 rfl (m9123_739 _ M1 0 1 0 hP2 (by decide) (by decide) (by decide) (by decide) (mUp_at e4) (by first | assumption | omega) (by first | assumption | omega)) (cqI ?_)))
    rintro v12 M6 ⟨hP7, hQ8, h13, h14, h10, xh11⟩
    have hF9 : Fr fm_m9050_739 M0 M6 := hF3.tr hQ8 rfl
    have h15 := xh11 (mUp_at e4)
    refine wk_ifne r50_27 ⟨by omega, by omega⟩ ?_ ?_
    · intro h16
      exfalso
      omega
    · intro h17
      refine wk_c1 r50_30 ?_
      subst hQ; exact wk_zret r50_31 (by decide) (⟨rfl, _, rfl, hP7, hF9, by omega, by omega, by have := ((hQ8.at g_739_27 rfl).trans (mUp_no e4 ex739_27 (Or.inr (by decide)))); omega, by omega, by omega, by omega, by omega, by omega, by omega, by have := ((hQ8.at g_739_27 rfl).trans (mUp_no e4 ex739_27 (Or.inr (by decide)))); omega, fun q => absurd q (by decide)⟩)
  · intro h18
    refine wk_il1 r50_10 (wk_al0 r50_11 (wk_getfi r50_12 fd_739_27 (mUp_no e4 ex739_27 (Or.inr (by decide))) ?_))
    refine wk_icgt r50_15 ⟨by omega, by omega⟩ ⟨by omega, by omega⟩ ?_ ?_
    · intro h19
      refine wk_c1 r50_22 (wk_c1 r50_23 (wk_cv3 r50_24 kc_739_123 rfl (m9123_739 _ M1 0 1 0 hP2 (by decide) (by decide) (by decide) (by decide) (mUp_at e4) (by first | assumption | omega) (by first | assumption | omega)) (cqI ?_)))
      rintro v26 M20 ⟨hP21, hQ22, h27, h28, h24, xh25⟩
      have hF23 : Fr fm_m9050_739 M0 M20 := hF3.tr hQ22 rfl
      have h29 := xh25 (mUp_at e4)
      refine wk_ifne r50_27 ⟨by omega, by omega⟩ ?_ ?_
      · intro h30
        exfalso
        omega
      · intro h31
        refine wk_c1 r50_30 ?_
        subst hQ; exact wk_zret r50_31 (by decide) (⟨rfl, _, rfl, hP21, hF23, by omega, by omega, by have := ((hQ22.at g_739_27 rfl).trans (mUp_no e4 ex739_27 (Or.inr (by decide)))); omega, by omega, by omega, by omega, by omega, by omega, by omega, by have := ((hQ22.at g_739_27 rfl).trans (mUp_no e4 ex739_27 (Or.inr (by decide)))); omega, fun q => absurd q (by decide)⟩)
    · intro h32
      refine wk_c1 r50_18 (wk_goto r50_19 (wk_c1 r50_23 (wk_cv3 r50_24 kc_739_123 rfl (m9123_739v1 _ M1 1 1 0 hP2 (by decide) (by decide) (by decide) (by decide) (mUp_at e4) (by first | assumption | omega) (by first | assumption | omega)) (cqI ?_))))
      rintro v39 M33 ⟨hP34, hQ35, h40, h41, h37, xh38⟩
      obtain rfl := Fr.same hQ35
      have h42 := xh38 (mUp_at e4)
      refine wk_ifne r50_27 ⟨by omega, by omega⟩ ?_ ?_
      · intro h43
        refine wk_al0 r50_32 (wk_c1 r50_33 (wk_putfi81 r50_34 fd_739_27 (wk_nw g_739_27 rfl hP2 hF3 (uf_739_27 (by decide)) ?_)))
        intro M44 hP45 hF46 e47
        refine wk_al0 r50_37 (wk_c1 r50_38 (wk_putfi81 r50_39 fd_739_29 (wk_nw g_739_29 rfl hP45 hF46 (uf_739_29 (by decide)) ?_)))
        intro M48 hP49 hF50 e51
        refine wk_al0 r50_42 (wk_c1 r50_43 (wk_putfi81 r50_44 fd_739_28 (wk_nw g_739_28 rfl hP49 hF50 (uf_739_28 (by decide)) ?_)))
        intro M52 hP53 hF54 e55
        refine wk_al0 r50_47 (wk_il1 r50_48 (wk_putfi81 r50_49 fd_739_30 (wk_nw g_739_30 rfl hP53 hF54 (uf_739_30 ⟨by omega, by omega⟩) ?_)))
        intro M56 hP57 hF58 e59
        refine wk_al0 r50_52 (wk_c1 r50_53 (wk_putfi81 r50_54 fd_739_31 (wk_nw g_739_31 rfl hP57 hF58 (uf_739_31 (by decide)) ?_)))
        intro M60 hP61 hF62 e63
        refine wk_al0 r50_57 (wk_c1 r50_58 (wk_putfi81 r50_59 fd_739_45 (wk_nw g_739_45 rfl hP61 hF62 (uf_739_45 (by decide)) ?_)))
        intro M64 hP65 hF66 e67
        refine wk_al0 r50_62 (wk_cv1 r50_63 kc_739_76 rfl (m9076_739 _ M64 p1 0 hP65 (mUp_no e67 (mUp_no e63 (mUp_at e59) (Or.inr (by decide))) (Or.inr (by decide))) (by first | assumption | omega) (by first | assumption | omega) (mUp_no e67 (mUp_at e63) (Or.inr (by decide))) (by first | assumption | omega) (by first | assumption | omega) (by omega)) (cqV ?_))
        rintro M68 ⟨hP69, hQ70, h72, h73, h74, h75, h76, pr77⟩
        have hF71 : Fr fm_m9050_739 M0 M68 := hF66.tr hQ70 rfl
        have e78 := ((hQ70.at g_739_30 rfl).trans (mUp_no e67 (mUp_no e63 (mUp_at e59) (Or.inr (by decide))) (Or.inr (by decide))))
        obtain ⟨v79, e80⟩ : ∃ v, M68 739 31 = v := ⟨_, rfl⟩
        have h81 := bf_739_31 hP69; rw [e80] at h81
        obtain ⟨v82, e83⟩ : ∃ v, M68 739 33 = v := ⟨_, rfl⟩
        have h84 := bf_739_33 hP69; rw [e83] at h84
        obtain ⟨v85, e86⟩ : ∃ v, M68 739 34 = v := ⟨_, rfl⟩
        have h87 := bf_739_34 hP69; rw [e86] at h87
        obtain ⟨v88, e89⟩ : ∃ v, M68 739 32 = v := ⟨_, rfl⟩
        have h90 := bf_739_32 hP69; rw [e89] at h90
        refine wk_c1 r50_66 ?_
        subst hQ; exact wk_zret r50_67 (by decide) (⟨rfl, _, rfl, hP69, hF71, by omega, by omega, by have := ((hQ70.at g_739_27 rfl).trans (mUp_no e67 (mUp_no e63 (mUp_no e59 (mUp_no e55 (mUp_no e51 (mUp_at e47) (Or.inr (by decide))) (Or.inr (by decide))) (Or.inr (by decide))) (Or.inr (by decide))) (Or.inr (by decide)))); omega, by have := ((hQ70.at g_739_28 rfl).trans (mUp_no e67 (mUp_no e63 (mUp_no e59 (mUp_at e55) (Or.inr (by decide))) (Or.inr (by decide))) (Or.inr (by decide)))); omega, by have := ((hQ70.at g_739_45 rfl).trans (mUp_at e67)); omega, by have := ((hQ70.at g_739_30 rfl).trans (mUp_no e67 (mUp_no e63 (mUp_at e59) (Or.inr (by decide))) (Or.inr (by decide)))); have := e80; omega, by have := e80; have := e83; have := e86; omega, by have := e80; have := e83; have := e86; omega, by have := e86; have := e89; omega, by have := ((hQ70.at g_739_27 rfl).trans (mUp_no e67 (mUp_no e63 (mUp_no e59 (mUp_no e55 (mUp_no e51 (mUp_at e47) (Or.inr (by decide))) (Or.inr (by decide))) (Or.inr (by decide))) (Or.inr (by decide))) (Or.inr (by decide)))); omega, fun _ => pr77⟩)
      · intro h91
        refine wk_c1 r50_30 ?_
        subst hQ; exact wk_zret r50_31 (by decide) (⟨rfl, _, rfl, hP2, hF3, by omega, by omega, by have := (mUp_no e4 ex739_27 (Or.inr (by decide))); omega, by omega, by omega, by omega, by omega, by omega, by omega, by have := (mUp_no e4 ex739_27 (Or.inr (by decide))); omega, fun q => absurd q (by decide)⟩)
def fm_m9126_739 : Nat := 1357380257545207893277817106971747046365150226405306867032546605215422349312
/-- IslandHallModel.sentence -/
theorem m9126_739 {B : eB} (d : Nat) (M0 : Mm) (p1 : Int) (x739_27 : Int) (hP0 : Pw M0) (l1 : (-2147483648) ≤ p1) (u1 : p1 ≤ 2147483647) (ex739_27 : M0 739 27 = x739_27) (lx739_27 : 0 ≤ x739_27) (ux739_27 : x739_27 ≤ 500) (pp_WS : WS M0) (pp_QW : QW M0) : Ct B (d + 8) 126 [R 739, I p1] M0 (qI fun z M => Pw M ∧ Fr fm_m9126_739 M0 M ∧ (-9) ≤ z ∧ z ≤ 29 ∧ ((0 ≤ p1 ∧ p1 ≤ x739_27 ∧ M 739 27 = 0) ∨ ((p1 < 0 ∨ x739_27 < p1) ∧ M 739 27 = x739_27)) ∧ (WS M) ∧ (QW M)) := by
  refine ct_of (d := d + 7) (k := 1) (L := [some (R 739), some (I p1), none]) rfl rfl rfl ?_
  have hF0 := Fr.rf fm_m9126_739 M0
  generalize hQ : (qI fun z M => Pw M ∧ Fr fm_m9126_739 M0 M ∧ (-9) ≤ z ∧ z ≤ 29 ∧ ((0 ≤ p1 ∧ p1 ≤ x739_27 ∧ M 739 27 = 0) ∨ ((p1 < 0 ∨ x739_27 < p1) ∧ M 739 27 = x739_27)) ∧ (WS M) ∧ (QW M)) = Q
  refine wk_al0 r126_0 (wk_il1 r126_1 (wk_cv2 r126_2 kc_739_50 rfl (m9050_739 _ M0 p1 x739_27 hP0 (by omega) (by omega) ex739_27 (by first | assumption | omega) (by first | assumption | omega)) (cqI ?_)))
  rintro v14 M1 ⟨hP2, hQ3, h15, h16, h5, h6, h7, h8, h9, h10, h11, xh12, xh13⟩
  have hF4 : Fr fm_m9126_739 M0 M1 := hF0.tr hQ3 rfl
  obtain ⟨v17, e18⟩ : ∃ v, M1 739 27 = v := ⟨_, rfl⟩
  have h19 := bf_739_27 hP2; rw [e18] at h19
  obtain ⟨v20, e21⟩ : ∃ v, M1 739 28 = v := ⟨_, rfl⟩
  have h22 := bf_739_28 hP2; rw [e21] at h22
  obtain ⟨v23, e24⟩ : ∃ v, M1 739 45 = v := ⟨_, rfl⟩
  have h25 := bf_739_45 hP2; rw [e24] at h25
  obtain ⟨v26, e27⟩ : ∃ v, M1 739 30 = v := ⟨_, rfl⟩
  have h28 := bf_739_30 hP2; rw [e27] at h28
  obtain ⟨v29, e30⟩ : ∃ v, M1 739 31 = v := ⟨_, rfl⟩
  have h31 := bf_739_31 hP2; rw [e30] at h31
  obtain ⟨v32, e33⟩ : ∃ v, M1 739 33 = v := ⟨_, rfl⟩
  have h34 := bf_739_33 hP2; rw [e33] at h34
  obtain ⟨v35, e36⟩ : ∃ v, M1 739 34 = v := ⟨_, rfl⟩
  have h37 := bf_739_34 hP2; rw [e36] at h37
  obtain ⟨v38, e39⟩ : ∃ v, M1 739 32 = v := ⟨_, rfl⟩
  have h40 := bf_739_32 hP2; rw [e39] at h40
  refine wk_ifne r126_5 ⟨by omega, by omega⟩ ?_ ?_
  · intro h41
    have pr42 : TK M1 := xh13 (by omega)
    refine wk_al0 r126_10 (wk_getfb r126_11 fd_739_13 (bf_739_13 hP2) ?_)
    intro v43 h45 h46 e44
    refine wk_c2 r126_14 ?_
    refine wk_icne r126_16 ⟨by omega, by omega⟩ (by decide) ?_ ?_
    · intro h47
      refine wk_al0 r126_22 (wk_al0 r126_23 (wk_getfb r126_24 fd_739_1 (bf_739_1 hP2) ?_))
      intro v48 h50 h51 e49
      refine wk_putfi81 r126_27 fd_739_38 (wk_nw g_739_38 rfl hP2 hF4 (uf_739_38 ⟨by omega, by omega⟩) ?_)
      intro M52 hP53 hF54 e55
      refine wk_al0 r126_30 ?_
      obtain ⟨v56, e57⟩ : ∃ v, M52 739 46 = v := ⟨_, rfl⟩
      have h58 := bf_739_46 hP53; rw [e57] at h58
      obtain ⟨v59, e60⟩ : ∃ v, M52 739 47 = v := ⟨_, rfl⟩
      have h61 := bf_739_47 hP53; rw [e60] at h61
      obtain ⟨v62, e63⟩ : ∃ v, M52 739 36 = v := ⟨_, rfl⟩
      have h64 := bf_739_36 hP53; rw [e63] at h64
      obtain ⟨v65, e66⟩ : ∃ v, M52 739 51 = v := ⟨_, rfl⟩
      have h67 := bf_739_51 hP53; rw [e66] at h67
      obtain ⟨v68, e69⟩ : ∃ v, M52 739 35 = v := ⟨_, rfl⟩
      have h70 := bf_739_35 hP53; rw [e69] at h70
      refine wk_cv1 r126_31 kc_739_68 rfl (m9068_739 _ M52 v26 v29 v32 v35 v38 v20 v23 v56 v59 v48 v62 v65 v68 hP53 (mUp_no e55 e27 (Or.inr (by decide))) (by first | assumption | omega) (by first | assumption | omega) (mUp_no e55 e30 (Or.inr (by decide))) (by first | assumption | omega) (by first | assumption | omega) (mUp_no e55 e33 (Or.inr (by decide))) (by first | assumption | omega) (by first | assumption | omega) (mUp_no e55 e36 (Or.inr (by decide))) (by first | assumption | omega) (by first | assumption | omega) (mUp_no e55 e39 (Or.inr (by decide))) (by first | assumption | omega) (by first | assumption | omega) (mUp_no e55 e21 (Or.inr (by decide))) (by first | assumption | omega) (by first | assumption | omega) (mUp_no e55 e24 (Or.inr (by decide))) (by first | assumption | omega) (by first | assumption | omega) e57 (by first | assumption | omega) (by first | assumption | omega) e60 (by first | assumption | omega) (by first | assumption | omega) (mUp_at e55) (by first | assumption | omega) (by first | assumption | omega) e63 (by first | assumption | omega) (by first | assumption | omega) e66 (by first | assumption | omega) (by first | assumption | omega) e69 (by first | assumption | omega) (by first | assumption | omega) (by omega) (by omega) (by omega) (by omega) (by omega) (by omega) (by omega) (TK_sm (Sm.up e55 g_739_38 rfl) pr42)) (cqV ?_)
      rintro M71 ⟨hP72, hQ73, h75, h76, h77, h78, h79, h80, h81, h82, xh83, pr84⟩
      have hF74 : Fr fm_m9126_739 M0 M71 := hF54.tr hQ73 rfl
      have e85 := ((hQ73.at g_739_30 rfl).trans (mUp_no e55 e27 (Or.inr (by decide))))
      obtain ⟨v86, e87⟩ : ∃ v, M71 739 31 = v := ⟨_, rfl⟩
      have h88 := bf_739_31 hP72; rw [e87] at h88
      obtain ⟨v89, e90⟩ : ∃ v, M71 739 33 = v := ⟨_, rfl⟩
      have h91 := bf_739_33 hP72; rw [e90] at h91
      obtain ⟨v92, e93⟩ : ∃ v, M71 739 34 = v := ⟨_, rfl⟩
      have h94 := bf_739_34 hP72; rw [e93] at h94
      obtain ⟨v95, e96⟩ : ∃ v, M71 739 32 = v := ⟨_, rfl⟩
      have h97 := bf_739_32 hP72; rw [e96] at h97
      obtain ⟨v98, e99⟩ : ∃ v, M71 739 28 = v := ⟨_, rfl⟩
      have h100 := bf_739_28 hP72; rw [e99] at h100
      obtain ⟨v101, e102⟩ : ∃ v, M71 739 45 = v := ⟨_, rfl⟩
      have h103 := bf_739_45 hP72; rw [e102] at h103
      have pr104 : SGP M71 := SG_of xh83 (by omega)
      refine wk_al0 r126_34 (wk_cv1 r126_35 kc_739_65 rfl (m9065_739 _ M71 v26 v86 v89 v92 v95 v98 hP72 ((hQ73.at g_739_30 rfl).trans (mUp_no e55 e27 (Or.inr (by decide)))) (by first | assumption | omega) (by first | assumption | omega) e87 (by first | assumption | omega) (by first | assumption | omega) e90 (by first | assumption | omega) (by first | assumption | omega) e93 (by first | assumption | omega) (by first | assumption | omega) e96 (by first | assumption | omega) (by first | assumption | omega) e99 (by first | assumption | omega) (by first | assumption | omega) (by omega) (by omega) (by omega) (by omega) pr84) (cqV ?_))
      rintro M105 ⟨hP106, hQ107, h109, h110, h111, h112, h113, h114, h115, pr116⟩
      have hF108 : Fr fm_m9126_739 M0 M105 := hF74.tr hQ107 rfl
      have e117 := ((hQ107.at g_739_30 rfl).trans ((hQ73.at g_739_30 rfl).trans (mUp_no e55 e27 (Or.inr (by decide)))))
      obtain ⟨v118, e119⟩ : ∃ v, M105 739 31 = v := ⟨_, rfl⟩
      have h120 := bf_739_31 hP106; rw [e119] at h120
      obtain ⟨v121, e122⟩ : ∃ v, M105 739 33 = v := ⟨_, rfl⟩
      have h123 := bf_739_33 hP106; rw [e122] at h123
      obtain ⟨v124, e125⟩ : ∃ v, M105 739 34 = v := ⟨_, rfl⟩
      have h126 := bf_739_34 hP106; rw [e125] at h126
      obtain ⟨v127, e128⟩ : ∃ v, M105 739 32 = v := ⟨_, rfl⟩
      have h129 := bf_739_32 hP106; rw [e128] at h129
      obtain ⟨v130, e131⟩ : ∃ v, M105 739 28 = v := ⟨_, rfl⟩
      have h132 := bf_739_28 hP106; rw [e131] at h132
      have pr133 : SGP M105 := SGP_mn (Sm.fr hQ107 rfl) (fun q => by have := e99; have := e131; omega) pr104
      refine wk_al0 r126_38 (wk_cv1 r126_39 kc_739_84 rfl (m9084_739 _ M105 v130 hP106 e131 (by first | assumption | omega) (by first | assumption | omega)) (cqI ?_))
      rintro v140 M134 ⟨hP135, hQ136, h141, h142, h138, h139⟩
      obtain rfl := Fr.same hQ136
      have e143 := e131
      refine wk_ifeq r126_42 ⟨by omega, by omega⟩ ?_ ?_
      · intro h144
        refine wk_al0 r126_57 (wk_cv1 r126_58 kc_739_84 rfl (m9084_739 _ M105 v130 hP106 e131 (by first | assumption | omega) (by first | assumption | omega)) (cqI ?_))
        rintro v151 M145 ⟨hP146, hQ147, h152, h153, h149, h150⟩
        obtain rfl := Fr.same hQ147
        have e154 := e131
        refine wk_ifne r126_61 ⟨by omega, by omega⟩ ?_ ?_
        · intro h155
          exfalso
          omega
        · intro h156
          refine wk_c1 r126_64 (wk_al0 r126_65 (wk_getfi r126_66 fd_739_28 e131 (wk_isub r126_69 ?_)))
          subst hQ; exact wk_iret r126_70 (⟨rfl, _, rfl, hP106, hF108, by omega, by omega, by have := ((hQ107.at g_739_27 rfl).trans ((hQ73.at g_739_27 rfl).trans (mUp_no e55 e18 (Or.inr (by decide))))); omega, (WS_sm (Sm.fr hQ107 rfl) (WS_sm (Sm.fr hQ73 rfl) (WS_sm (Sm.up e55 g_739_38 rfl) (WS_sm (Sm.fr hQ3 rfl) pp_WS)))), (QW_sm (Sm.fr hQ107 rfl) (QW_sm (Sm.fr hQ73 rfl) (QW_sm (Sm.up e55 g_739_38 rfl) (QW_sm (Sm.fr hQ3 rfl) pp_QW))))⟩)
      · intro h157
        refine wk_al0 r126_45 (wk_getfi r126_46 fd_739_32 e128 ?_)
        refine wk_ifeq r126_49 ⟨by omega, by omega⟩ ?_ ?_
        · intro h158
          refine wk_al0 r126_57 (wk_cv1 r126_58 kc_739_84 rfl (m9084_739 _ M105 v130 hP106 e131 (by first | assumption | omega) (by first | assumption | omega)) (cqI ?_))
          rintro v165 M159 ⟨hP160, hQ161, h166, h167, h163, h164⟩
          obtain rfl := Fr.same hQ161
          have e168 := e131
          refine wk_ifne r126_61 ⟨by omega, by omega⟩ ?_ ?_
          · intro h169
            obtain ⟨u170, hu171⟩ : ∃ u : Int → Int, ∀ k, M105 757 k = u k := ⟨fun k => M105 757 k, fun k => rfl⟩
            have hsg : SEG u170 0 v101 := SGP_get pr133 e131 (by omega) hu171 ((hQ107.at g_739_45 rfl).trans e102)
            obtain ⟨Ma, hMa⟩ : ∃ m : Mm, m = M105 := ⟨_, rfl⟩
            have hS0 : M105 739 13 = v43 := ((hQ107.at g_739_13 rfl).trans ((hQ73.at g_739_13 rfl).trans (mUp_no e55 e44 (Or.inr (by decide)))))
            have hWa : WS Ma := by rw [hMa]; exact (WS_sm (Sm.fr hQ107 rfl) (WS_sm (Sm.fr hQ73 rfl) (WS_sm (Sm.up e55 g_739_38 rfl) (WS_sm (Sm.fr hQ3 rfl) pp_WS))))
            have hSa : Ma 739 13 = v43 := by rw [hMa]; exact hS0
            refine wk_c1 r126_71 (wk_is2 r126_72 rfl ?_)
            have c73_603 : ∀ (k603 : Nat) (M563 : Mm) (v560 : Int), (251 - v560).toNat = k603 → Pw M563 → Fr fm_m9126_739 M0 M563 → M563 739 27 = v17 → M563 739 30 = v26 → M563 739 13 = v43 → M563 739 1 = v48 → M563 739 38 = v48 → M563 739 45 = v101 → M563 739 31 = v118 → M563 739 33 = v121 → M563 739 34 = v124 → M563 739 32 = v127 → M563 739 28 = v130 → 0 ≤ v560 → v560 ≤ 251 → (∀ k, M563 757 k = u170 k) → (TK M563) → (SGP M563) → (QW M563) → 0 ≤ 1 * v26 + (-1) * v118 → 0 ≤ 1 * v118 + (-1) * v121 + (-1) * v124 → 0 ≤ (-1) * v118 + 1 * v121 + 1 * v124 → 0 ≤ 4 * v124 + (-1) * v127 → (∀ k : Int, 0 ≤ k → k < v560 → M563 747 (400 * v43 + k) = u170 k) → (∀ k : Int, k < 400 * v43 → M563 747 k = Ma 747 k) → Wp B (d + 7) 126 73 [some (R 739), none, some (I v560)] [] M563 Q := by
              refine lp_ind ?_
              intro k603 ih603 M563 v560 hk603 hP564 hF565 e567 e568 e569 e570 e571 e572 e573 e574 e575 e576 e577 h561 h562 hu566 pr578 pr579 pr580 h581 h582 h583 h584 ti585 ti586
              refine wk_il2 r126_73 (wk_al0 r126_74 (wk_getfi r126_75 fd_739_45 e572 ?_))
              refine wk_icge r126_78 ⟨by omega, by omega⟩ ⟨by omega, by omega⟩ ?_ ?_
              · intro h587
                refine wk_al0 r126_108 (wk_dupr r126_109 (wk_getfi r126_110 fd_739_13 e569 (wk_c1 r126_113 (wk_iadd r126_114 (wk_putfi81 r126_115 fd_739_13 (wk_nw g_739_13 rfl hP564 hF565 (uf_739_13 ⟨by omega, by omega⟩) ?_))))))
                intro M588 hP589 hF590 e591
                have pr592 : WS M588 := WS_new hWa hSa (by omega) ti586 hsg (fun k a b => ti585 k a (by omega)) (by omega) e591
                have pr593 : QW M588 := QW_new pr580 e569 e591
                refine wk_al0 r126_118 (wk_getfi r126_119 fd_739_13 (mUp_at e591) (wk_c1 r126_122 (wk_isub r126_123 ?_)))
                subst hQ; exact wk_iret r126_124 (⟨rfl, _, rfl, hP589, hF590, by omega, by omega, by have := (mUp_no e591 e567 (Or.inr (by decide))); omega, pr592, pr593⟩)
              · intro h594
                refine wk_al0 r126_81 (wk_getfr r126_82 fd_739_14 (br_739_14 hP564) (wk_c3 r126_85 (wk_al0 r126_88 (wk_getfi r126_89 fd_739_13 e569 (wk_imul r126_92 (wk_il2 r126_93 (wk_iadd r126_94 (wk_al0 r126_95 (wk_getfr r126_96 fd_739_49 (br_739_49 hP564) (wk_il2 r126_99 (wk_ialdb r126_100 ar_757 ⟨by omega, by omega⟩ (fun q0 q1 => ba_757 hP564 q0 q1) ?_)))))))))))
                intro v595 h597 h598 e596
                refine wk_iast r126_101 ar_747 ⟨by omega, by omega⟩ (wk_nw (ga_747 _) rfl hP564 hF565 (uaR_747 (by rw [← e596, hu566]; exact SEG_ok hsg _ (by omega) (by omega))) ?_)
                intro M599 hP600 hF601 e602
                refine wk_inc2 r126_102 rfl (wk_goto r126_105 ?_)
                exact wp_fg (le_s (le_s (le_s le_0))) (ih603 (251 - (v560 + 1)).toNat (by omega) M599 (v560 + 1) rfl hP600 hF601 (mUp_no e602 e567 (Or.inl (by decide))) (mUp_no e602 e568 (Or.inl (by decide))) (mUp_no e602 e569 (Or.inl (by decide))) (mUp_no e602 e570 (Or.inl (by decide))) (mUp_no e602 e571 (Or.inl (by decide))) (mUp_no e602 e572 (Or.inl (by decide))) (mUp_no e602 e573 (Or.inl (by decide))) (mUp_no e602 e574 (Or.inl (by decide))) (mUp_no e602 e575 (Or.inl (by decide))) (mUp_no e602 e576 (Or.inl (by decide))) (mUp_no e602 e577 (Or.inl (by decide))) (by first | assumption | omega) (by first | assumption | omega) (fun k => mUp_no e602 (hu566 k) (Or.inl (by decide))) (TK_sm (Sm.up e602 (ga_747 _) rfl) pr578) (SGP_sm (Sm.up e602 (ga_747 _) rfl) pr579) (QW_sm (Sm.up e602 (ga_747 _) rfl) pr580) (by first | assumption | omega) (by first | assumption | omega) (by first | assumption | omega) (by first | assumption | omega) (cp_step e602 ti585 e596 hu566) (fun k hk => by rw [e602, mUp_ne (Or.inr (by omega))]; exact ti586 k hk))
            exact wp_fg (le_s (le_n (le_s le_0))) (c73_603 _ M105 0 rfl hP106 hF108 ((hQ107.at g_739_27 rfl).trans ((hQ73.at g_739_27 rfl).trans (mUp_no e55 e18 (Or.inr (by decide))))) ((hQ107.at g_739_30 rfl).trans ((hQ73.at g_739_30 rfl).trans (mUp_no e55 e27 (Or.inr (by decide))))) ((hQ107.at g_739_13 rfl).trans ((hQ73.at g_739_13 rfl).trans (mUp_no e55 e44 (Or.inr (by decide))))) ((hQ107.at g_739_1 rfl).trans ((hQ73.at g_739_1 rfl).trans (mUp_no e55 e49 (Or.inr (by decide))))) ((hQ107.at g_739_38 rfl).trans ((hQ73.at g_739_38 rfl).trans (mUp_at e55))) ((hQ107.at g_739_45 rfl).trans e102) e119 e122 e125 e128 e131 (by first | assumption | omega) (by first | assumption | omega) hu171 pr116 pr133 (QW_sm (Sm.fr hQ107 rfl) (QW_sm (Sm.fr hQ73 rfl) (QW_sm (Sm.up e55 g_739_38 rfl) (QW_sm (Sm.fr hQ3 rfl) pp_QW)))) (by first | assumption | omega) (by first | assumption | omega) (by first | assumption | omega) (by first | assumption | omega) (fun k a b => by omega) (fun k _ => by rw [hMa]))
          · intro h604
            exfalso
            omega
        · intro h605
          refine wk_al0 r126_52 (wk_c1 r126_53 (wk_cv2 r126_54 kc_739_137 rfl (m9137_739 _ M105 1 v130 v121 hP106 (by decide) (by decide) e131 (by first | assumption | omega) (by first | assumption | omega) e122 (by first | assumption | omega) (by first | assumption | omega)) (cqV ?_)))
          rintro M606 ⟨hP607, hQ608, h610, h611⟩
          have hF609 : Fr fm_m9126_739 M0 M606 := hF108.tr hQ608 rfl
          obtain ⟨v612, e613⟩ : ∃ v, M606 739 28 = v := ⟨_, rfl⟩
          have h614 := bf_739_28 hP607; rw [e613] at h614
          have pr615 : SGP M606 := SGP_mn (Sm.fr hQ608 rfl) (fun q => by have := e131; have := e613; omega) pr133
          refine wk_al0 r126_57 (wk_cv1 r126_58 kc_739_84 rfl (m9084_739 _ M606 v612 hP607 e613 (by first | assumption | omega) (by first | assumption | omega)) (cqI ?_))
          rintro v622 M616 ⟨hP617, hQ618, h623, h624, h620, h621⟩
          obtain rfl := Fr.same hQ618
          have e625 := e613
          refine wk_ifne r126_61 ⟨by omega, by omega⟩ ?_ ?_
          · intro h626
            exfalso
            omega
          · intro h627
            refine wk_c1 r126_64 (wk_al0 r126_65 (wk_getfi r126_66 fd_739_28 e613 (wk_isub r126_69 ?_)))
            subst hQ; exact wk_iret r126_70 (⟨rfl, _, rfl, hP607, hF609, by omega, by omega, by have := ((hQ608.at g_739_27 rfl).trans ((hQ107.at g_739_27 rfl).trans ((hQ73.at g_739_27 rfl).trans (mUp_no e55 e18 (Or.inr (by decide)))))); omega, (WS_sm (Sm.fr hQ608 rfl) (WS_sm (Sm.fr hQ107 rfl) (WS_sm (Sm.fr hQ73 rfl) (WS_sm (Sm.up e55 g_739_38 rfl) (WS_sm (Sm.fr hQ3 rfl) pp_WS))))), (QW_sm (Sm.fr hQ608 rfl) (QW_sm (Sm.fr hQ107 rfl) (QW_sm (Sm.fr hQ73 rfl) (QW_sm (Sm.up e55 g_739_38 rfl) (QW_sm (Sm.fr hQ3 rfl) pp_QW)))))⟩)
    · intro h628
      refine wk_c2 r126_19 ?_
      subst hQ; exact wk_iret r126_21 (⟨rfl, _, rfl, hP2, hF4, by omega, by omega, by have := e18; omega, (WS_sm (Sm.fr hQ3 rfl) pp_WS), (QW_sm (Sm.fr hQ3 rfl) pp_QW)⟩)
  · intro h629
    refine wk_c1 r126_8 ?_
    subst hQ; exact wk_iret r126_9 (⟨rfl, _, rfl, hP2, hF4, by omega, by omega, by have := e18; omega, (WS_sm (Sm.fr hQ3 rfl) pp_WS), (QW_sm (Sm.fr hQ3 rfl) pp_QW)⟩)
def fm_m9094_739 : Nat := 0
/-- IslandHallModel.kindOf -/
theorem m9094_739 {B : eB} (d : Nat) (M0 : Mm) (p1 : Int) (p2 : Int) (hP0 : Pw M0) (l1 : 0 ≤ p1) (u1 : p1 ≤ 2999) (l2 : 0 ≤ p2) (u2 : p2 ≤ 6) : Ct B (d + 1) 94 [R 739, I p1, I p2] M0 (qI fun z M => Pw M ∧ Fr fm_m9094_739 M0 M ∧ 0 ≤ z ∧ z ≤ 7) := by
  refine ct_of (d := d + 0) (k := 0) (L := [some (R 739), some (I p1), some (I p2)]) rfl rfl rfl ?_
  have hF0 := Fr.rf fm_m9094_739 M0
  generalize hQ : (qI fun z M => Pw M ∧ Fr fm_m9094_739 M0 M ∧ 0 ≤ z ∧ z ≤ 7) = Q
  refine wk_al0 r94_0 (wk_getfr r94_1 fd_739_8 (br_739_8 hP0) (wk_il1 r94_4 (wk_ialdb r94_5 ar_742 ⟨by omega, by omega⟩ (fun q0 q1 => ba_742 hP0 q0 q1) ?_)))
  intro v1 h3 h4 e2
  refine wk_c1 r94_6 (wk_il2 r94_7 (wk_imul r94_8 (wk_shrb r94_9 ⟨by omega, by omega⟩ ⟨by omega, by omega⟩ ?_)))
  intro v5 h6 h7 h8
  refine wk_c2 r94_10 (wk_iandc 3 8 r94_12 ⟨rfl, by decide⟩ rfl ?_)
  subst hQ; exact wk_iret r94_13 (⟨rfl, _, rfl, hP0, hF0, by omega, by omega⟩)
def fm_m9115 : Nat := 0
/-- IslandHallModel.one -/
theorem m9115 {B : eB} (d : Nat) (M0 : Mm) (p0 : Int) (hP0 : Pw M0) (l0 : 0 ≤ p0) (u0 : p0 ≤ 0) : Ct B (d + 1) 115 [I p0] M0 (qI fun z M => Pw M ∧ Fr fm_m9115 M0 M ∧ 0 ≤ z ∧ z ≤ 0) := by
  refine ct_of (d := d + 0) (k := 0) (L := [some (I p0)]) rfl rfl rfl ?_
  have hF0 := Fr.rf fm_m9115 M0
  generalize hQ : (qI fun z M => Pw M ∧ Fr fm_m9115 M0 M ∧ 0 ≤ z ∧ z ≤ 0) = Q
  refine wk_il0 r115_0 ?_
  refine wk_ifeq r115_1 ⟨by omega, by omega⟩ ?_ ?_
  · intro h1
    refine wk_c1 r115_8 ?_
    subst hQ; exact wk_iret r115_9 (⟨rfl, _, rfl, hP0, hF0, by omega, by omega⟩)
  · intro h2
    exfalso
    omega
def fm_m9115v1 : Nat := 0
/-- IslandHallModel.one -/
theorem m9115v1 {B : eB} (d : Nat) (M0 : Mm) (p0 : Int) (hP0 : Pw M0) (l0 : 0 ≤ p0) (u0 : p0 ≤ 1) : Ct B (d + 1) 115 [I p0] M0 (qI fun z M => Pw M ∧ Fr fm_m9115v1 M0 M ∧ 0 ≤ z ∧ z ≤ 1) := by
  refine ct_of (d := d + 0) (k := 0) (L := [some (I p0)]) rfl rfl rfl ?_
  have hF0 := Fr.rf fm_m9115v1 M0
  generalize hQ : (qI fun z M => Pw M ∧ Fr fm_m9115v1 M0 M ∧ 0 ≤ z ∧ z ≤ 1) = Q
  refine wk_il0 r115_0 ?_
  refine wk_ifeq r115_1 ⟨by omega, by omega⟩ ?_ ?_
  · intro h1
    refine wk_c1 r115_8 ?_
    subst hQ; exact wk_iret r115_9 (⟨rfl, _, rfl, hP0, hF0, by omega, by omega⟩)
  · intro h2
    refine wk_c1 r115_4 (wk_goto r115_5 ?_)
    subst hQ; exact wk_iret r115_9 (⟨rfl, _, rfl, hP0, hF0, by omega, by omega⟩)
def fm_m9109_739 : Nat := 0
/-- IslandHallModel.manyOf -/
theorem m9109_739 {B : eB} (d : Nat) (M0 : Mm) (p1 : Int) (p2 : Int) (hP0 : Pw M0) (l1 : 0 ≤ p1) (u1 : p1 ≤ 2999) (l2 : 0 ≤ p2) (u2 : p2 ≤ 127) : Ct B (d + 2) 109 [R 739, I p1, I p2] M0 (qI fun z M => Pw M ∧ Fr fm_m9109_739 M0 M ∧ 0 ≤ z ∧ z ≤ 7) := by
  refine ct_of (d := d + 1) (k := 2) (L := [some (R 739), some (I p1), some (I p2), none, none]) rfl rfl rfl ?_
  have hF0 := Fr.rf fm_m9109_739 M0
  generalize hQ : (qI fun z M => Pw M ∧ Fr fm_m9109_739 M0 M ∧ 0 ≤ z ∧ z ≤ 7) = Q
  refine wk_c1 r109_0 (wk_is3 r109_1 rfl (wk_c1 r109_2 (wk_is4 r109_3 rfl ?_)))
  have c5_134 : ∀ (k134 : Nat) (v112 : Int) (v115 : Int), (7 - v115).toNat = k134 → 0 ≤ v112 → v112 ≤ 7 → 0 ≤ v115 → v115 ≤ 7 → 0 ≤ (-1) * v112 + v115 + 0 → Wp B (d + 1) 109 5 [some (R 739), some (I p1), some (I p2), some (I v112), some (I v115)] [] M0 Q := by
    refine lp_ind ?_
    intro k134 ih134 v112 v115 hk134 h113 h114 h116 h117 h118
    refine wk_il4 r109_5 (wk_al0 r109_7 (wk_getfb r109_8 fd_739_1 (bf_739_1 hP0) ?_))
    intro v119 h121 h122 e120
    refine wk_icge r109_11 ⟨by omega, by omega⟩ ⟨by omega, by omega⟩ ?_ ?_
    · intro h123
      refine wk_il3 r109_39 ?_
      subst hQ; exact wk_iret r109_40 (⟨rfl, _, rfl, hP0, hF0, by omega, by omega⟩)
    · intro h124
      refine wk_il3 r109_14 (wk_al0 r109_15 (wk_il1 r109_16 (wk_il4 r109_17 (wk_cv3 r109_19 kc_739_94 rfl (m9094_739 _ M0 p1 v115 hP0 (by omega) (by omega) (by omega) (by omega)) (cqI ?_)))))
      rintro v129 M125 ⟨hP126, hQ127, h130, h131⟩
      obtain rfl := Fr.same hQ127
      refine wk_il2 r109_22 ?_
      refine wk_icne r109_23 ⟨by omega, by omega⟩ ⟨by omega, by omega⟩ ?_ ?_
      · intro h132
        refine wk_c1 r109_30 (wk_iadd r109_31 (wk_is3 r109_32 rfl (wk_inc4 r109_33 rfl (wk_goto r109_36 ?_))))
        exact wp_fg (le_s (le_s (le_s (le_s (le_s le_0))))) (ih134 (7 - (v115 + 1)).toNat (by omega) (v112 + 0) (v115 + 1) rfl (by first | assumption | omega) (by first | assumption | omega) (by first | assumption | omega) (by first | assumption | omega) (by first | assumption | omega))
      · intro h133
        refine wk_c1 r109_26 (wk_goto r109_27 (wk_iadd r109_31 (wk_is3 r109_32 rfl (wk_inc4 r109_33 rfl (wk_goto r109_36 ?_)))))
        exact wp_fg (le_s (le_s (le_s (le_s (le_s le_0))))) (ih134 (7 - (v115 + 1)).toNat (by omega) (v112 + 1) (v115 + 1) rfl (by first | assumption | omega) (by first | assumption | omega) (by first | assumption | omega) (by first | assumption | omega) (by first | assumption | omega))
  exact wp_fg (le_s (le_s (le_s (le_s (le_s le_0))))) (c5_134 _ 0 0 rfl (by first | assumption | omega) (by first | assumption | omega) (by first | assumption | omega) (by first | assumption | omega) (by first | assumption | omega))
def fm_m9048_739 : Nat := 0
/-- IslandHallModel.atomOf -/
theorem m9048_739 {B : eB} (d : Nat) (M0 : Mm) (p1 : Int) (p2 : Int) (p3 : Int) (p4 : Int) (p5 : Int) (p6 : Int) (hP0 : Pw M0) (l1 : 1 ≤ p1) (u1 : p1 ≤ 9) (l2 : 0 ≤ p2) (u2 : p2 ≤ 127) (l3 : 0 ≤ p3) (u3 : p3 ≤ 146) (l4 : 0 ≤ p4) (u4 : p4 ≤ 2999) (l5 : 0 ≤ p5) (u5 : p5 ≤ 15) (l6 : (-2147483648) ≤ p6) (u6 : p6 ≤ 2147483647) (xp0 : p1 = 1 → p2 ≤ 6) (xp1 : p1 = 2 → p2 ≤ 6 ∧ p3 ≤ 6) : Ct B (d + 3) 48 [R 739, I p1, I p2, I p3, I p4, I p5, I p6] M0 (qI fun z M => Pw M ∧ Fr fm_m9048_739 M0 M ∧ 0 ≤ z ∧ z ≤ 1) := by
  refine ct_of (d := d + 2) (k := 0) (L := [some (R 739), some (I p1), some (I p2), some (I p3), some (I p4), some (I p5), some (I p6)]) rfl rfl rfl ?_
  have hF0 := Fr.rf fm_m9048_739 M0
  generalize hQ : (qI fun z M => Pw M ∧ Fr fm_m9048_739 M0 M ∧ 0 ≤ z ∧ z ≤ 1) = Q
  refine wk_il1 r48_0 ?_
  refine wk_sw3 r48_1 ⟨by omega, by omega⟩ ?_ ?_ ?_ ?_ ?_ ?_ ?_ ?_ ?_
  · intro h1
    refine wk_il2 r48_214 (wk_il5 r48_215 ?_)
    refine wk_icge r48_217 ⟨by omega, by omega⟩ ⟨by omega, by omega⟩ ?_ ?_
    · intro h2
      refine wk_c1 r48_229 ?_
      subst hQ; exact wk_iret r48_230 (⟨rfl, _, rfl, hP0, hF0, by omega, by omega⟩)
    · intro h3
      refine wk_il6 r48_220 (wk_il2 r48_222 (wk_shrx r48_223 ⟨by omega, by omega⟩ ⟨by omega, by omega⟩ ?_))
      intro v4 h5 h6
      refine wk_c1 r48_224 (wk_iandc 1 2 r48_225 ⟨rfl, by decide⟩ rfl (wk_goto r48_226 ?_))
      subst hQ; exact wk_iret r48_230 (⟨rfl, _, rfl, hP0, hF0, by omega, by omega⟩)
  · intro h8
    have h9 : p2 ≤ 6 := xp0 (by omega)
    refine wk_al0 r48_48 (wk_il4 r48_49 (wk_il2 r48_51 (wk_cv3 r48_52 kc_739_94 rfl (m9094_739 _ M0 p4 p2 hP0 (by omega) (by omega) (by omega) (by omega)) (cqI ?_))))
    rintro v14 M10 ⟨hP11, hQ12, h15, h16⟩
    obtain rfl := Fr.same hQ12
    refine wk_il3 r48_55 ?_
    refine wk_icne r48_56 ⟨by omega, by omega⟩ ⟨by omega, by omega⟩ ?_ ?_
    · intro h17
      refine wk_c1 r48_63 (wk_cs102_1 r48_64 rfl (m9115 _ M0 0 hP0 (by decide) (by decide)) (cqI ?_))
      rintro v22 M18 ⟨hP19, hQ20, h23, h24⟩
      obtain rfl := Fr.same hQ20
      subst hQ; exact wk_iret r48_67 (⟨rfl, _, rfl, hP0, hF0, by omega, by omega⟩)
    · intro h25
      refine wk_c1 r48_59 (wk_goto r48_60 (wk_cs102_1 r48_64 rfl (m9115v1 _ M0 1 hP0 (by decide) (by decide)) (cqI ?_)))
      rintro v30 M26 ⟨hP27, hQ28, h31, h32⟩
      obtain rfl := Fr.same hQ28
      subst hQ; exact wk_iret r48_67 (⟨rfl, _, rfl, hP0, hF0, by omega, by omega⟩)
  · intro h33
    have h34 : p2 ≤ 6 ∧ p3 ≤ 6 := xp1 (by omega)
    refine wk_al0 r48_68 (wk_il4 r48_69 (wk_il2 r48_71 (wk_cv3 r48_72 kc_739_94 rfl (m9094_739 _ M0 p4 p2 hP0 (by omega) (by omega) (by omega) (by omega)) (cqI ?_))))
    rintro v39 M35 ⟨hP36, hQ37, h40, h41⟩
    obtain rfl := Fr.same hQ37
    refine wk_al0 r48_75 (wk_il4 r48_76 (wk_il3 r48_78 (wk_cv3 r48_79 kc_739_94 rfl (m9094_739 _ M0 p4 p3 hP0 (by omega) (by omega) (by omega) (by omega)) (cqI ?_))))
    rintro v46 M42 ⟨hP43, hQ44, h47, h48⟩
    obtain rfl := Fr.same hQ44
    refine wk_icne r48_82 ⟨by omega, by omega⟩ ⟨by omega, by omega⟩ ?_ ?_
    · intro h49
      refine wk_c1 r48_89 (wk_cs102_1 r48_90 rfl (m9115 _ M0 0 hP0 (by decide) (by decide)) (cqI ?_))
      rintro v54 M50 ⟨hP51, hQ52, h55, h56⟩
      obtain rfl := Fr.same hQ52
      subst hQ; exact wk_iret r48_93 (⟨rfl, _, rfl, hP0, hF0, by omega, by omega⟩)
    · intro h57
      refine wk_c1 r48_85 (wk_goto r48_86 (wk_cs102_1 r48_90 rfl (m9115v1 _ M0 1 hP0 (by decide) (by decide)) (cqI ?_)))
      rintro v62 M58 ⟨hP59, hQ60, h63, h64⟩
      obtain rfl := Fr.same hQ60
      subst hQ; exact wk_iret r48_93 (⟨rfl, _, rfl, hP0, hF0, by omega, by omega⟩)
  · intro h65
    refine wk_al0 r48_94 (wk_getfr r48_95 fd_739_10 (br_739_10 hP0) (wk_il4 r48_98 (wk_ialdb r48_100 ar_744 ⟨by omega, by omega⟩ (fun q0 q1 => ba_744 hP0 q0 q1) ?_)))
    intro v66 h68 h69 e67
    refine wk_il2 r48_101 ?_
    refine wk_icne r48_102 ⟨by omega, by omega⟩ ⟨by omega, by omega⟩ ?_ ?_
    · intro h70
      refine wk_c1 r48_109 (wk_cs102_1 r48_110 rfl (m9115 _ M0 0 hP0 (by decide) (by decide)) (cqI ?_))
      rintro v75 M71 ⟨hP72, hQ73, h76, h77⟩
      obtain rfl := Fr.same hQ73
      subst hQ; exact wk_iret r48_113 (⟨rfl, _, rfl, hP0, hF0, by omega, by omega⟩)
    · intro h78
      refine wk_c1 r48_105 (wk_goto r48_106 (wk_cs102_1 r48_110 rfl (m9115v1 _ M0 1 hP0 (by decide) (by decide)) (cqI ?_)))
      rintro v83 M79 ⟨hP80, hQ81, h84, h85⟩
      obtain rfl := Fr.same hQ81
      subst hQ; exact wk_iret r48_113 (⟨rfl, _, rfl, hP0, hF0, by omega, by omega⟩)
  · intro h86
    refine wk_al0 r48_114 (wk_getfr r48_115 fd_739_11 (br_739_11 hP0) (wk_il4 r48_118 (wk_ialdb r48_120 ar_745 ⟨by omega, by omega⟩ (fun q0 q1 => ba_745 hP0 q0 q1) ?_)))
    intro v87 h89 h90 e88
    refine wk_il2 r48_121 ?_
    refine wk_icne r48_122 ⟨by omega, by omega⟩ ⟨by omega, by omega⟩ ?_ ?_
    · intro h91
      refine wk_c1 r48_129 (wk_cs102_1 r48_130 rfl (m9115 _ M0 0 hP0 (by decide) (by decide)) (cqI ?_))
      rintro v96 M92 ⟨hP93, hQ94, h97, h98⟩
      obtain rfl := Fr.same hQ94
      subst hQ; exact wk_iret r48_133 (⟨rfl, _, rfl, hP0, hF0, by omega, by omega⟩)
    · intro h99
      refine wk_c1 r48_125 (wk_goto r48_126 (wk_cs102_1 r48_130 rfl (m9115v1 _ M0 1 hP0 (by decide) (by decide)) (cqI ?_)))
      rintro v104 M100 ⟨hP101, hQ102, h105, h106⟩
      obtain rfl := Fr.same hQ102
      subst hQ; exact wk_iret r48_133 (⟨rfl, _, rfl, hP0, hF0, by omega, by omega⟩)
  · intro h107
    refine wk_al0 r48_134 (wk_il4 r48_135 (wk_il2 r48_137 (wk_cv3 r48_138 kc_739_109 rfl (m9109_739 _ M0 p4 p2 hP0 (by omega) (by omega) (by omega) (by omega)) (cqI ?_))))
    rintro v112 M108 ⟨hP109, hQ110, h113, h114⟩
    obtain rfl := Fr.same hQ110
    refine wk_il3 r48_141 ?_
    refine wk_icge r48_142 ⟨by omega, by omega⟩ ⟨by omega, by omega⟩ ?_ ?_
    · intro h115
      refine wk_c1 r48_149 (wk_cs102_1 r48_150 rfl (m9115 _ M0 0 hP0 (by decide) (by decide)) (cqI ?_))
      rintro v120 M116 ⟨hP117, hQ118, h121, h122⟩
      obtain rfl := Fr.same hQ118
      subst hQ; exact wk_iret r48_153 (⟨rfl, _, rfl, hP0, hF0, by omega, by omega⟩)
    · intro h123
      refine wk_c1 r48_145 (wk_goto r48_146 (wk_cs102_1 r48_150 rfl (m9115v1 _ M0 1 hP0 (by decide) (by decide)) (cqI ?_)))
      rintro v128 M124 ⟨hP125, hQ126, h129, h130⟩
      obtain rfl := Fr.same hQ126
      subst hQ; exact wk_iret r48_153 (⟨rfl, _, rfl, hP0, hF0, by omega, by omega⟩)
  · intro h131
    refine wk_al0 r48_154 (wk_il4 r48_155 (wk_il2 r48_157 (wk_cv3 r48_158 kc_739_109 rfl (m9109_739 _ M0 p4 p2 hP0 (by omega) (by omega) (by omega) (by omega)) (cqI ?_))))
    rintro v136 M132 ⟨hP133, hQ134, h137, h138⟩
    obtain rfl := Fr.same hQ134
    refine wk_il3 r48_161 ?_
    refine wk_icne r48_162 ⟨by omega, by omega⟩ ⟨by omega, by omega⟩ ?_ ?_
    · intro h139
      refine wk_c1 r48_169 (wk_cs102_1 r48_170 rfl (m9115 _ M0 0 hP0 (by decide) (by decide)) (cqI ?_))
      rintro v144 M140 ⟨hP141, hQ142, h145, h146⟩
      obtain rfl := Fr.same hQ142
      subst hQ; exact wk_iret r48_173 (⟨rfl, _, rfl, hP0, hF0, by omega, by omega⟩)
    · intro h147
      refine wk_c1 r48_165 (wk_goto r48_166 (wk_cs102_1 r48_170 rfl (m9115v1 _ M0 1 hP0 (by decide) (by decide)) (cqI ?_)))
      rintro v152 M148 ⟨hP149, hQ150, h153, h154⟩
      obtain rfl := Fr.same hQ150
      subst hQ; exact wk_iret r48_173 (⟨rfl, _, rfl, hP0, hF0, by omega, by omega⟩)
  · intro h155
    refine wk_al0 r48_174 (wk_il4 r48_175 (wk_il2 r48_177 (wk_cv3 r48_178 kc_739_109 rfl (m9109_739 _ M0 p4 p2 hP0 (by omega) (by omega) (by omega) (by omega)) (cqI ?_))))
    rintro v160 M156 ⟨hP157, hQ158, h161, h162⟩
    obtain rfl := Fr.same hQ158
    refine wk_il3 r48_181 ?_
    refine wk_icle r48_182 ⟨by omega, by omega⟩ ⟨by omega, by omega⟩ ?_ ?_
    · intro h163
      refine wk_c1 r48_189 (wk_cs102_1 r48_190 rfl (m9115 _ M0 0 hP0 (by decide) (by decide)) (cqI ?_))
      rintro v168 M164 ⟨hP165, hQ166, h169, h170⟩
      obtain rfl := Fr.same hQ166
      subst hQ; exact wk_iret r48_193 (⟨rfl, _, rfl, hP0, hF0, by omega, by omega⟩)
    · intro h171
      refine wk_c1 r48_185 (wk_goto r48_186 (wk_cs102_1 r48_190 rfl (m9115v1 _ M0 1 hP0 (by decide) (by decide)) (cqI ?_)))
      rintro v176 M172 ⟨hP173, hQ174, h177, h178⟩
      obtain rfl := Fr.same hQ174
      subst hQ; exact wk_iret r48_193 (⟨rfl, _, rfl, hP0, hF0, by omega, by omega⟩)
  · intro h179
    refine wk_al0 r48_194 (wk_getfr r48_195 fd_739_12 (br_739_12 hP0) (wk_il4 r48_198 (wk_ialdb r48_200 ar_746 ⟨by omega, by omega⟩ (fun q0 q1 => ba_746 hP0 q0 q1) ?_)))
    intro v180 h182 h183 e181
    refine wk_il2 r48_201 ?_
    refine wk_icne r48_202 ⟨by omega, by omega⟩ ⟨by omega, by omega⟩ ?_ ?_
    · intro h184
      refine wk_c1 r48_209 (wk_cs102_1 r48_210 rfl (m9115 _ M0 0 hP0 (by decide) (by decide)) (cqI ?_))
      rintro v189 M185 ⟨hP186, hQ187, h190, h191⟩
      obtain rfl := Fr.same hQ187
      subst hQ; exact wk_iret r48_213 (⟨rfl, _, rfl, hP0, hF0, by omega, by omega⟩)
    · intro h192
      refine wk_c1 r48_205 (wk_goto r48_206 (wk_cs102_1 r48_210 rfl (m9115v1 _ M0 1 hP0 (by decide) (by decide)) (cqI ?_)))
      rintro v197 M193 ⟨hP194, hQ195, h198, h199⟩
      obtain rfl := Fr.same hQ195
      subst hQ; exact wk_iret r48_213 (⟨rfl, _, rfl, hP0, hF0, by omega, by omega⟩)
def fm_m9107_739 : Nat := 0
/-- IslandHallModel.lying -/
theorem m9107_739 {B : eB} (d : Nat) (M0 : Mm) (p1 : Int) (p2 : Int) (p3 : Int) (hP0 : Pw M0) (l1 : 0 ≤ p1) (u1 : p1 ≤ 2999) (l2 : 0 ≤ p2) (u2 : p2 ≤ 6) (l3 : 0 ≤ p3) (u3 : p3 ≤ 15) : Ct B (d + 2) 107 [R 739, I p1, I p2, I p3] M0 (qI fun z M => Pw M ∧ Fr fm_m9107_739 M0 M ∧ 0 ≤ z ∧ z ≤ 2) := by
  refine ct_of (d := d + 1) (k := 2) (L := [some (R 739), some (I p1), some (I p2), some (I p3), none, none]) rfl rfl rfl ?_
  have hF0 := Fr.rf fm_m9107_739 M0
  generalize hQ : (qI fun z M => Pw M ∧ Fr fm_m9107_739 M0 M ∧ 0 ≤ z ∧ z ≤ 2) = Q
  refine wk_al0 r107_0 (wk_il1 r107_1 (wk_il2 r107_2 (wk_cv3 r107_3 kc_739_94 rfl (m9094_739 _ M0 p1 p2 hP0 (by omega) (by omega) (by omega) (by omega)) (cqI ?_))))
  rintro v5 M1 ⟨hP2, hQ3, h6, h7⟩
  obtain rfl := Fr.same hQ3
  refine wk_sw7 r107_6 ⟨by omega, by omega⟩ ?_ ?_ ?_ ?_ ?_
  · intro h8
    refine wk_c1 r107_101 ?_
    subst hQ; exact wk_iret r107_102 (⟨rfl, _, rfl, hP0, hF0, by omega, by omega⟩)
  · intro h9
    refine wk_c1 r107_36 ?_
    subst hQ; exact wk_iret r107_37 (⟨rfl, _, rfl, hP0, hF0, by omega, by omega⟩)
  · intro h10
    refine wk_c1 r107_38 ?_
    subst hQ; exact wk_iret r107_39 (⟨rfl, _, rfl, hP0, hF0, by omega, by omega⟩)
  · intro h11
    refine wk_al0 r107_40 (wk_getfr r107_41 fd_739_9 (br_739_9 hP0) (wk_il1 r107_44 (wk_ialdb r107_45 ar_743 ⟨by omega, by omega⟩ (fun q0 q1 => ba_743 hP0 q0 q1) ?_)))
    intro v12 h14 h15 e13
    refine wk_il2 r107_46 (wk_shrb r107_47 ⟨by omega, by omega⟩ ⟨by omega, by omega⟩ ?_)
    intro v16 h17 h18 h19
    refine wk_c1 r107_48 (wk_iandc 1 2 r107_49 ⟨rfl, by decide⟩ rfl (wk_is4 r107_50 rfl (wk_c1 r107_52 (wk_is5 r107_53 rfl ?_))))
    have c55_142 : ∀ (k142 : Nat) (v127 : Int) (v130 : Int), (15 - v130).toNat = k142 → 0 ≤ v127 → v127 ≤ 1 → 0 ≤ v130 → v130 ≤ 15 → 0 ≤ (-1) * v127 + v130 + 1 → Wp B (d + 1) 107 55 [some (R 739), none, some (I p2), some (I p3), some (I v127), some (I v130)] [] M0 Q := by
      refine lp_ind ?_
      intro k142 ih142 v127 v130 hk142 h128 h129 h131 h132 h133
      refine wk_il5 r107_55 (wk_il3 r107_57 ?_)
      refine wk_icge r107_58 ⟨by omega, by omega⟩ ⟨by omega, by omega⟩ ?_ ?_
      · intro h134
        refine wk_il4 r107_84 ?_
        subst hQ; exact wk_iret r107_86 (⟨rfl, _, rfl, hP0, hF0, by omega, by omega⟩)
      · intro h135
        refine wk_al0 r107_61 (wk_getfr r107_62 fd_739_16 (br_739_16 hP0) (wk_il5 r107_65 (wk_ialdb r107_67 ar_748 ⟨by omega, by omega⟩ (fun q0 q1 => ba_748 hP0 q0 q1) ?_)))
        intro v136 h138 h139 e137
        refine wk_il2 r107_68 ?_
        refine wk_icne r107_69 ⟨by omega, by omega⟩ ⟨by omega, by omega⟩ ?_ ?_
        · intro h140
          refine wk_inc5 r107_78 rfl (wk_goto r107_81 ?_)
          exact wp_fg (le_s (le_s (le_s (le_s (le_s (le_s le_0)))))) (ih142 (15 - (v130 + 1)).toNat (by omega) v127 (v130 + 1) rfl (by first | assumption | omega) (by first | assumption | omega) (by first | assumption | omega) (by first | assumption | omega) (by first | assumption | omega))
        · intro h141
          refine wk_c1 r107_72 (wk_il4 r107_73 (wk_isub r107_75 (wk_is4 r107_76 rfl (wk_inc5 r107_78 rfl (wk_goto r107_81 ?_)))))
          exact wp_fg (le_s (le_s (le_s (le_s (le_s (le_s le_0)))))) (ih142 (15 - (v130 + 1)).toNat (by omega) (1 - v127) (v130 + 1) rfl (by first | assumption | omega) (by first | assumption | omega) (by first | assumption | omega) (by first | assumption | omega) (by first | assumption | omega))
    exact wp_fg (le_s (le_n (le_s (le_s (le_s (le_s le_0)))))) (c55_142 _ (v16 % 2) 0 rfl (by first | assumption | omega) (by first | assumption | omega) (by first | assumption | omega) (by first | assumption | omega) (by first | assumption | omega))
  · intro h143
    refine wk_al0 r107_87 (wk_getfb r107_88 fd_739_3 (bf_739_3 hP0) ?_)
    intro v144 h146 h147 e145
    refine wk_al0 r107_91 (wk_getfr r107_92 fd_739_11 (br_739_11 hP0) (wk_il1 r107_95 (wk_ialdb r107_96 ar_745 ⟨by omega, by omega⟩ (fun q0 q1 => ba_745 hP0 q0 q1) ?_)))
    intro v148 h150 h151 e149
    refine wk_shrb r107_97 ⟨by omega, by omega⟩ ⟨by omega, by omega⟩ ?_
    intro v152 h153 h154 h155
    refine wk_c1 r107_98 (wk_iandc 1 2 r107_99 ⟨rfl, by decide⟩ rfl ?_)
    subst hQ; exact wk_iret r107_100 (⟨rfl, _, rfl, hP0, hF0, by omega, by omega⟩)
def fm_m9136_739_747 : Nat := 1809251394438377845161853827458666587891013942719528908517073861377953628160
/-- IslandHallModel.worth -/
theorem m9136_739_747 {B : eB} (d : Nat) (M0 : Mm) (p2 : Int) (p3 : Int) (p4 : Int) (p5 : Int) (en : Int) (hP0 : Pw M0) (l2 : 0 ≤ p2) (u2 : p2 ≤ 12000) (l3 : 0 ≤ p3) (u3 : p3 ≤ 2999) (l4 : 0 ≤ p4) (u4 : p4 ≤ 15) (l5 : (-2147483648) ≤ p5) (u5 : p5 ≤ 2147483647) (xp0 : SEG (fun k => M0 747 k) p2 en) (xp1 : en ≤ 12000 ∧ en ≤ p2 + 500) : Ct B (d + 4) 136 [R 739, R 747, I p2, I p3, I p4, I p5] M0 (qI fun z M => Pw M ∧ Fr fm_m9136_739_747 M0 M ∧ 0 ≤ z ∧ z ≤ 1 ∧ (M 739 53 = en)) := by
  refine ct_of (d := d + 3) (k := 6) (L := [some (R 739), some (R 747), some (I p2), some (I p3), some (I p4), some (I p5), none, none, none, none, none, none]) rfl rfl rfl ?_
  have hF0 := Fr.rf fm_m9136_739_747 M0
  generalize hQ : (qI fun z M => Pw M ∧ Fr fm_m9136_739_747 M0 M ∧ 0 ≤ z ∧ z ≤ 1 ∧ (M 739 53 = en)) = Q
  have hs0 := xp0.1
  have hs1 := xp0.2.1
  refine wk_c1 r136_0 (wk_is6 r136_1 rfl (wk_il2 r136_3 (wk_is7 r136_4 rfl ?_)))
  have c6_1331 : ∀ (k1331 : Nat) (M1204 : Mm) (v1198 : Int) (v1201 : Int), (11999 - v1201).toNat = k1331 → Pw M1204 → Fr fm_m9136_739_747 M0 M1204 → 0 ≤ v1198 → v1198 ≤ 499 → 0 ≤ v1201 → v1201 ≤ 11999 → 0 ≤ v1201 + (-1) * p2 → 0 ≤ (-1) * v1201 + en + (-1) → (v1198 = hgt (fun k => M0 747 k) p2 (v1201 - p2).toNat) → Wp B (d + 3) 136 6 [some (R 739), some (R 747), none, some (I p3), some (I p4), some (I p5), some (I v1198), some (I v1201), none, none, none, none] [] M1204 Q := by
    refine lp_ind ?_
    intro k1331 ih1331 M1204 v1198 v1201 hk1331 hP1205 hF1206 h1199 h1200 h1202 h1203 h1207 h1208 ti1209
    refine wk_al1 r136_6 (wk_il7 r136_7 (wk_ialdb r136_9 ar_747 ⟨by omega, by omega⟩ (fun q0 q1 => ba_747 hP1205 q0 q1) ?_))
    intro v1210 h1212 h1213 e1211
    have h1214 := wr_at xp0 (k := v1201) (m := v1198) (by omega) (by omega) (show (fun k => M0 747 k) v1201 = v1210 from (hF1206.at (ga_747 _) rfl).symm.trans e1211) ti1209
    refine wk_ifeq r136_10 ⟨by omega, by omega⟩ ?_ ?_
    · intro h1215
      refine wk_al0 r136_248 (wk_il7 r136_249 (wk_c1 r136_251 (wk_iadd r136_252 (wk_putfi81 r136_253 fd_739_53 (wk_nw g_739_53 rfl hP1205 hF1206 (uf_739_53 ⟨by omega, by omega⟩) ?_)))))
      intro M1216 hP1217 hF1218 e1219
      refine wk_al0 r136_256 (wk_getfr r136_257 fd_739_52 (br_739_52 hP1217) (wk_c1 r136_260 (wk_ialdb r136_261 ar_759 (by decide) (fun q0 q1 => ba_759 hP1217 q0 q1) ?_)))
      intro v1220 h1222 h1223 e1221
      subst hQ; exact wk_iret r136_262 (⟨rfl, _, rfl, hP1217, hF1218, by omega, by omega, by have := (mUp_at e1219); omega⟩)
    · intro h1224
      have h1225 : v1201 ≤ en - 2 := by omega
      refine wk_al1 r136_13 (wk_il7 r136_14 (wk_iald r136_16 ar_747 ⟨by omega, by omega⟩ e1211 (wk_c2 r136_17 (wk_irem r136_19 ⟨by omega, by omega⟩ (by decide) (wk_is8 r136_20 rfl (wk_al1 r136_22 (wk_il7 r136_23 (wk_iald r136_25 ar_747 ⟨by omega, by omega⟩ e1211 (wk_c2 r136_26 (wk_idiv r136_28 ⟨by omega, by omega⟩ (by decide) (wk_c3 r136_29 (wk_irem r136_32 ⟨by omega, by omega⟩ (by decide) (wk_is9 r136_33 rfl (wk_al1 r136_35 (wk_il7 r136_36 (wk_iald r136_38 ar_747 ⟨by omega, by omega⟩ e1211 (wk_c3 r136_39 (wk_idiv r136_42 ⟨by omega, by omega⟩ (by decide) (wk_is10 r136_43 rfl (wk_inc7 r136_45 rfl (wk_il8 r136_48 (wk_c2 r136_50 ?_))))))))))))))))))))))
      refine wk_icne r136_52 ⟨by omega, by omega⟩ (by decide) ?_ ?_
      · intro h1229
        refine wk_il8 r136_78 (wk_c2 r136_80 ?_)
        refine wk_icne r136_82 ⟨by omega, by omega⟩ (by decide) ?_ ?_
        · intro h1230
          refine wk_il8 r136_147 (wk_c2 r136_149 ?_)
          refine wk_iceq r136_151 ⟨by omega, by omega⟩ (by decide) ?_ ?_
          · intro h1231
            have h1232 : 2 ≤ v1198 := by omega
            refine wk_inc6 r136_161 rfl (wk_al0 r136_164 (wk_getfr r136_165 fd_739_52 (br_739_52 hP1205) (wk_il6 r136_168 (wk_c1 r136_170 (wk_isub r136_171 (wk_il8 r136_172 (wk_c2 r136_174 ?_)))))))
            refine wk_icne r136_176 ⟨by omega, by omega⟩ (by decide) ?_ ?_
            · intro h1233
              exfalso
              omega
            · intro h1234
              refine wk_al0 r136_179 (wk_getfr r136_180 fd_739_52 (br_739_52 hP1205) (wk_il6 r136_183 (wk_c1 r136_185 (wk_isub r136_186 (wk_ialdb r136_187 ar_759 ⟨by omega, by omega⟩ (fun q0 q1 => ba_759 hP1205 q0 q1) ?_)))))
              intro v1235 h1237 h1238 e1236
              refine wk_al0 r136_188 (wk_getfr r136_189 fd_739_52 (br_739_52 hP1205) (wk_il6 r136_192 (wk_ialdb r136_194 ar_759 ⟨by omega, by omega⟩ (fun q0 q1 => ba_759 hP1205 q0 q1) ?_)))
              intro v1239 h1241 h1242 e1240
              refine wk_iand r136_195 ⟨by omega, by omega⟩ ⟨by omega, by omega⟩ ?_
              intro v1243 h1244 h1245 h1246 h1247
              refine wk_goto r136_196 (wk_iast r136_216 ar_759 ⟨by omega, by omega⟩ (wk_nw (ga_759 _) rfl hP1205 hF1206 (ua_759 ⟨by omega, by omega⟩) ?_))
              intro M1248 hP1249 hF1250 e1251
              refine wk_goto r136_217 (wk_goto r136_245 ?_)
              exact wp_fg (le_s (le_s (le_s (le_s (le_s (le_s (le_s (le_s (le_n (le_n (le_n (le_s le_0)))))))))))) (ih1331 (11999 - (v1201 + 1)).toNat (by omega) M1248 (v1198 + (-1)) (v1201 + 1) rfl hP1249 hF1250 (by first | assumption | omega) (by first | assumption | omega) (by first | assumption | omega) (by first | assumption | omega) (by first | assumption | omega) (by first | assumption | omega) (by have q := hg_up (by omega) (show (fun k => M0 747 k) v1201 = v1210 from (hF1206.at (ga_747 _) rfl).symm.trans e1211) ti1209; rw [q]; split; (omega); (split <;> omega)))
          · intro h1252
            refine wk_il8 r136_154 (wk_c2 r136_156 ?_)
            refine wk_icne r136_158 ⟨by omega, by omega⟩ (by decide) ?_ ?_
            · intro h1253
              have h1254 : 1 ≤ (v1210 % 16) ∧ (v1210 % 16) ≤ 9 := by omega
              refine wk_al0 r136_220 (wk_getfr r136_221 fd_739_52 (br_739_52 hP1205) (wk_il6 r136_224 (wk_al0 r136_226 (wk_il8 r136_227 (wk_il9 r136_229 (wk_il10 r136_231 (wk_il3 r136_233 (wk_il4 r136_234 (wk_il5 r136_236 (wk_cv7 r136_238 kc_739_48 rfl (m9048_739 _ M1204 (v1210 % 16) ((v1210 / 16) % 128) (v1210 / 2048) p3 p4 p5 hP1205 (by omega) (by omega) (by omega) (by omega) (by omega) (by omega) (by omega) (by omega) (by omega) (by omega) (by omega) (by omega) (by first | assumption | omega | (unfold stepok; omega)) (by first | assumption | omega | (unfold stepok; omega))) (cqI ?_)))))))))))
              rintro v1259 M1255 ⟨hP1256, hQ1257, h1260, h1261⟩
              obtain rfl := Fr.same hQ1257
              refine wk_iast r136_241 ar_759 ⟨by omega, by omega⟩ (wk_nw (ga_759 _) rfl hP1205 hF1206 (ua_759 ⟨by omega, by omega⟩) ?_)
              intro M1262 hP1263 hF1264 e1265
              refine wk_inc6 r136_242 rfl (wk_goto r136_245 ?_)
              exact wp_fg (le_s (le_s (le_s (le_s (le_s (le_s (le_s (le_s (le_n (le_n (le_n (le_s le_0)))))))))))) (ih1331 (11999 - (v1201 + 1)).toNat (by omega) M1262 (v1198 + 1) (v1201 + 1) rfl hP1263 hF1264 (by first | assumption | omega) (by first | assumption | omega) (by first | assumption | omega) (by first | assumption | omega) (by first | assumption | omega) (by first | assumption | omega) (by have q := hg_up (by omega) (show (fun k => M0 747 k) v1201 = v1210 from (hF1206.at (ga_747 _) rfl).symm.trans e1211) ti1209; rw [q]; split; (omega); (split <;> omega)))
            · intro h1266
              have h1267 : 2 ≤ v1198 := by omega
              refine wk_inc6 r136_161 rfl (wk_al0 r136_164 (wk_getfr r136_165 fd_739_52 (br_739_52 hP1205) (wk_il6 r136_168 (wk_c1 r136_170 (wk_isub r136_171 (wk_il8 r136_172 (wk_c2 r136_174 ?_)))))))
              refine wk_icne r136_176 ⟨by omega, by omega⟩ (by decide) ?_ ?_
              · intro h1268
                refine wk_al0 r136_199 (wk_getfr r136_200 fd_739_52 (br_739_52 hP1205) (wk_il6 r136_203 (wk_c1 r136_205 (wk_isub r136_206 (wk_ialdb r136_207 ar_759 ⟨by omega, by omega⟩ (fun q0 q1 => ba_759 hP1205 q0 q1) ?_)))))
                intro v1269 h1271 h1272 e1270
                refine wk_al0 r136_208 (wk_getfr r136_209 fd_739_52 (br_739_52 hP1205) (wk_il6 r136_212 (wk_ialdb r136_214 ar_759 ⟨by omega, by omega⟩ (fun q0 q1 => ba_759 hP1205 q0 q1) ?_)))
                intro v1273 h1275 h1276 e1274
                refine wk_ior 1 2 r136_215 (by decide) ⟨by omega, by omega⟩ ⟨by omega, by omega⟩ ?_
                intro v1277 h1278 h1279 h1280 h1281 h1282
                refine wk_iast r136_216 ar_759 ⟨by omega, by omega⟩ (wk_nw (ga_759 _) rfl hP1205 hF1206 (ua_759 ⟨by omega, by omega⟩) ?_)
                intro M1283 hP1284 hF1285 e1286
                refine wk_goto r136_217 (wk_goto r136_245 ?_)
                exact wp_fg (le_s (le_s (le_s (le_s (le_s (le_s (le_s (le_s (le_n (le_n (le_n (le_s le_0)))))))))))) (ih1331 (11999 - (v1201 + 1)).toNat (by omega) M1283 (v1198 + (-1)) (v1201 + 1) rfl hP1284 hF1285 (by first | assumption | omega) (by first | assumption | omega) (by first | assumption | omega) (by first | assumption | omega) (by first | assumption | omega) (by first | assumption | omega) (by have q := hg_up (by omega) (show (fun k => M0 747 k) v1201 = v1210 from (hF1206.at (ga_747 _) rfl).symm.trans e1211) ti1209; rw [q]; split; (omega); (split <;> omega)))
              · intro h1287
                exfalso
                omega
        · intro h1288
          have h1289 : 1 ≤ v1198 ∧ ((v1210 / 16) % 128) ≤ 6 := by omega
          refine wk_al0 r136_85 (wk_il3 r136_86 (wk_il9 r136_87 (wk_il4 r136_89 (wk_cv4 r136_91 kc_739_107 rfl (m9107_739 _ M1204 p3 ((v1210 / 16) % 128) p4 hP1205 (by omega) (by omega) (by omega) (by omega) (by omega) (by omega)) (cqI ?_)))))
          rintro v1294 M1290 ⟨hP1291, hQ1292, h1295, h1296⟩
          obtain rfl := Fr.same hQ1292
          refine wk_is11 r136_94 rfl (wk_al0 r136_96 (wk_getfr r136_97 fd_739_52 (br_739_52 hP1205) (wk_il6 r136_100 (wk_c1 r136_102 (wk_isub r136_103 (wk_il11 r136_104 (wk_c1 r136_106 ?_)))))))
          refine wk_icne r136_107 ⟨by omega, by omega⟩ (by decide) ?_ ?_
          · intro h1297
            refine wk_il11 r136_114 (wk_c1 r136_116 ?_)
            refine wk_icne r136_117 ⟨by omega, by omega⟩ (by decide) ?_ ?_
            · intro h1298
              refine wk_al0 r136_134 (wk_getfr r136_135 fd_739_52 (br_739_52 hP1205) (wk_il6 r136_138 (wk_c1 r136_140 (wk_isub r136_141 (wk_ialdb r136_142 ar_759 ⟨by omega, by omega⟩ (fun q0 q1 => ba_759 hP1205 q0 q1) ?_)))))
              intro v1299 h1301 h1302 e1300
              refine wk_iast r136_143 ar_759 ⟨by omega, by omega⟩ (wk_nw (ga_759 _) rfl hP1205 hF1206 (ua_759 ⟨by omega, by omega⟩) ?_)
              intro M1303 hP1304 hF1305 e1306
              refine wk_goto r136_144 (wk_goto r136_245 ?_)
              exact wp_fg (le_s (le_s (le_s (le_s (le_s (le_s (le_s (le_s (le_n (le_n (le_n (le_n le_0)))))))))))) (ih1331 (11999 - (v1201 + 1)).toNat (by omega) M1303 v1198 (v1201 + 1) rfl hP1304 hF1305 (by first | assumption | omega) (by first | assumption | omega) (by first | assumption | omega) (by first | assumption | omega) (by first | assumption | omega) (by first | assumption | omega) (by have q := hg_up (by omega) (show (fun k => M0 747 k) v1201 = v1210 from (hF1206.at (ga_747 _) rfl).symm.trans e1211) ti1209; rw [q]; split; (omega); (split <;> omega)))
            · intro h1307
              refine wk_c1 r136_120 (wk_al0 r136_121 (wk_getfr r136_122 fd_739_52 (br_739_52 hP1205) (wk_il6 r136_125 (wk_c1 r136_127 (wk_isub r136_128 (wk_ialdb r136_129 ar_759 ⟨by omega, by omega⟩ (fun q0 q1 => ba_759 hP1205 q0 q1) ?_))))))
              intro v1308 h1310 h1311 e1309
              refine wk_isub r136_130 (wk_goto r136_131 (wk_iast r136_143 ar_759 ⟨by omega, by omega⟩ (wk_nw (ga_759 _) rfl hP1205 hF1206 (ua_759 ⟨by omega, by omega⟩) ?_)))
              intro M1312 hP1313 hF1314 e1315
              refine wk_goto r136_144 (wk_goto r136_245 ?_)
              exact wp_fg (le_s (le_s (le_s (le_s (le_s (le_s (le_s (le_s (le_n (le_n (le_n (le_n le_0)))))))))))) (ih1331 (11999 - (v1201 + 1)).toNat (by omega) M1312 v1198 (v1201 + 1) rfl hP1313 hF1314 (by first | assumption | omega) (by first | assumption | omega) (by first | assumption | omega) (by first | assumption | omega) (by first | assumption | omega) (by first | assumption | omega) (by have q := hg_up (by omega) (show (fun k => M0 747 k) v1201 = v1210 from (hF1206.at (ga_747 _) rfl).symm.trans e1211) ti1209; rw [q]; split; (omega); (split <;> omega)))
          · intro h1316
            refine wk_c1 r136_110 (wk_goto r136_111 (wk_iast r136_143 ar_759 ⟨by omega, by omega⟩ (wk_nw (ga_759 _) rfl hP1205 hF1206 (ua_759 (by decide)) ?_)))
            intro M1317 hP1318 hF1319 e1320
            refine wk_goto r136_144 (wk_goto r136_245 ?_)
            exact wp_fg (le_s (le_s (le_s (le_s (le_s (le_s (le_s (le_s (le_n (le_n (le_n (le_n le_0)))))))))))) (ih1331 (11999 - (v1201 + 1)).toNat (by omega) M1317 v1198 (v1201 + 1) rfl hP1318 hF1319 (by first | assumption | omega) (by first | assumption | omega) (by first | assumption | omega) (by first | assumption | omega) (by first | assumption | omega) (by first | assumption | omega) (by have q := hg_up (by omega) (show (fun k => M0 747 k) v1201 = v1210 from (hF1206.at (ga_747 _) rfl).symm.trans e1211) ti1209; rw [q]; split; (omega); (split <;> omega)))
      · intro h1321
        have h1322 : 1 ≤ v1198 := by omega
        refine wk_al0 r136_55 (wk_getfr r136_56 fd_739_52 (br_739_52 hP1205) (wk_il6 r136_59 (wk_c1 r136_61 (wk_isub r136_62 (wk_c1 r136_63 (wk_al0 r136_64 (wk_getfr r136_65 fd_739_52 (br_739_52 hP1205) (wk_il6 r136_68 (wk_c1 r136_70 (wk_isub r136_71 (wk_ialdb r136_72 ar_759 ⟨by omega, by omega⟩ (fun q0 q1 => ba_759 hP1205 q0 q1) ?_)))))))))))
        intro v1323 h1325 h1326 e1324
        refine wk_isub r136_73 (wk_iast r136_74 ar_759 ⟨by omega, by omega⟩ (wk_nw (ga_759 _) rfl hP1205 hF1206 (ua_759 ⟨by omega, by omega⟩) ?_))
        intro M1327 hP1328 hF1329 e1330
        refine wk_goto r136_75 (wk_goto r136_245 ?_)
        exact wp_fg (le_s (le_s (le_s (le_s (le_s (le_s (le_s (le_s (le_n (le_n (le_n (le_s le_0)))))))))))) (ih1331 (11999 - (v1201 + 1)).toNat (by omega) M1327 v1198 (v1201 + 1) rfl hP1328 hF1329 (by first | assumption | omega) (by first | assumption | omega) (by first | assumption | omega) (by first | assumption | omega) (by first | assumption | omega) (by first | assumption | omega) (by have q := hg_up (by omega) (show (fun k => M0 747 k) v1201 = v1210 from (hF1206.at (ga_747 _) rfl).symm.trans e1211) ti1209; rw [q]; split; (omega); (split <;> omega)))
  exact wp_fg (le_s (le_s (le_n (le_s (le_s (le_s (le_s (le_s (le_s (le_s (le_s (le_s le_0)))))))))))) (c6_1331 _ M0 0 p2 rfl hP0 hF0 (by first | assumption | omega) (by first | assumption | omega) (by first | assumption | omega) (by first | assumption | omega) (by first | assumption | omega) (by first | assumption | omega) (by rw [Int.sub_self]; rfl))
def fm_m9128_739 : Nat := 1809251394438377845161853827458666587891013942719528908517073861377953628160
/-- IslandHallModel.soOf -/
theorem m9128_739 {B : eB} (d : Nat) (M0 : Mm) (p1 : Int) (p2 : Int) (p3 : Int) (p4 : Int) (x739_13 : Int) (hP0 : Pw M0) (l1 : 0 ≤ p1) (u1 : p1 ≤ 29) (l2 : 0 ≤ p2) (u2 : p2 ≤ 2999) (l3 : 0 ≤ p3) (u3 : p3 ≤ 15) (l4 : (-2147483648) ≤ p4) (u4 : p4 ≤ 2147483647) (ex739_13 : M0 739 13 = x739_13) (lx739_13 : 0 ≤ x739_13) (ux739_13 : x739_13 ≤ 30) (rp0 : 0 ≤ x739_13 + (-1) * p1 + (-1)) (pp_WS : WS M0) : Ct B (d + 5) 128 [R 739, I p1, I p2, I p3, I p4] M0 (qI fun z M => Pw M ∧ Fr fm_m9128_739 M0 M ∧ 0 ≤ z ∧ z ≤ 1) := by
  refine ct_of (d := d + 4) (k := 0) (L := [some (R 739), some (I p1), some (I p2), some (I p3), some (I p4)]) rfl rfl rfl ?_
  have hF0 := Fr.rf fm_m9128_739 M0
  generalize hQ : (qI fun z M => Pw M ∧ Fr fm_m9128_739 M0 M ∧ 0 ≤ z ∧ z ≤ 1) = Q
  obtain ⟨en, hen, hsg⟩ := pp_WS p1 (by omega) (by rw [ex739_13]; omega)
  refine wk_al0 r128_0 (wk_al0 r128_1 (wk_getfr r128_2 fd_739_14 (br_739_14 hP0) (wk_c3 r128_5 (wk_il1 r128_8 (wk_imul r128_9 (wk_il2 r128_10 (wk_il3 r128_11 (wk_il4 r128_12 (wk_cv6 r128_14 kc_739_136 rfl (m9136_739_747 _ M0 (400 * p1) p2 p3 p4 en hP0 (by omega) (by omega) (by omega) (by omega) (by omega) (by omega) (by omega) (by omega) (hsg) (⟨by omega, by omega⟩)) (cqI ?_))))))))))
  rintro v6 M1 ⟨hP2, hQ3, h7, h8, xh5⟩
  have hF4 : Fr fm_m9128_739 M0 M1 := hF0.tr hQ3 rfl
  subst hQ; exact wk_iret r128_17 (⟨rfl, _, rfl, hP2, hF4, by omega, by omega⟩)
def fm_m9136_739_741 : Nat := 1809251394438377845161853827458666587891013942719528908517073861377953628160
/-- IslandHallModel.worth -/
theorem m9136_739_741 {B : eB} (d : Nat) (M0 : Mm) (p2 : Int) (p3 : Int) (p4 : Int) (p5 : Int) (en : Int) (hP0 : Pw M0) (l2 : 0 ≤ p2) (u2 : p2 ≤ 12000) (l3 : 0 ≤ p3) (u3 : p3 ≤ 2999) (l4 : 0 ≤ p4) (u4 : p4 ≤ 15) (l5 : (-2147483648) ≤ p5) (u5 : p5 ≤ 2147483647) (xp0 : SEG (fun k => M0 741 k) p2 en) (xp1 : en ≤ 800 ∧ en ≤ p2 + 500) : Ct B (d + 4) 136 [R 739, R 741, I p2, I p3, I p4, I p5] M0 (qI fun z M => Pw M ∧ Fr fm_m9136_739_741 M0 M ∧ 0 ≤ z ∧ z ≤ 1 ∧ (M 739 53 = en)) := by
  refine ct_of (d := d + 3) (k := 6) (L := [some (R 739), some (R 741), some (I p2), some (I p3), some (I p4), some (I p5), none, none, none, none, none, none]) rfl rfl rfl ?_
  have hF0 := Fr.rf fm_m9136_739_741 M0
  generalize hQ : (qI fun z M => Pw M ∧ Fr fm_m9136_739_741 M0 M ∧ 0 ≤ z ∧ z ≤ 1 ∧ (M 739 53 = en)) = Q
  have hs0 := xp0.1
  have hs1 := xp0.2.1
  refine wk_c1 r136_0 (wk_is6 r136_1 rfl (wk_il2 r136_3 (wk_is7 r136_4 rfl ?_)))
  have c6_1331 : ∀ (k1331 : Nat) (M1204 : Mm) (v1198 : Int) (v1201 : Int), (799 - v1201).toNat = k1331 → Pw M1204 → Fr fm_m9136_739_741 M0 M1204 → 0 ≤ v1198 → v1198 ≤ 499 → 0 ≤ v1201 → v1201 ≤ 799 → 0 ≤ v1201 + (-1) * p2 → 0 ≤ (-1) * v1201 + en + (-1) → (v1198 = hgt (fun k => M0 741 k) p2 (v1201 - p2).toNat) → Wp B (d + 3) 136 6 [some (R 739), some (R 741), none, some (I p3), some (I p4), some (I p5), some (I v1198), some (I v1201), none, none, none, none] [] M1204 Q := by
    refine lp_ind ?_
    intro k1331 ih1331 M1204 v1198 v1201 hk1331 hP1205 hF1206 h1199 h1200 h1202 h1203 h1207 h1208 ti1209
    refine wk_al1 r136_6 (wk_il7 r136_7 (wk_ialdb r136_9 ar_741 ⟨by omega, by omega⟩ (fun q0 q1 => ba_741 hP1205 q0 q1) ?_))
    intro v1210 h1212 h1213 e1211
    have h1214 := wr_at xp0 (k := v1201) (m := v1198) (by omega) (by omega) (show (fun k => M0 741 k) v1201 = v1210 from (hF1206.at (ga_741 _) rfl).symm.trans e1211) ti1209
    refine wk_ifeq r136_10 ⟨by omega, by omega⟩ ?_ ?_
    · intro h1215
      refine wk_al0 r136_248 (wk_il7 r136_249 (wk_c1 r136_251 (wk_iadd r136_252 (wk_putfi81 r136_253 fd_739_53 (wk_nw g_739_53 rfl hP1205 hF1206 (uf_739_53 ⟨by omega, by omega⟩) ?_)))))
      intro M1216 hP1217 hF1218 e1219
      refine wk_al0 r136_256 (wk_getfr r136_257 fd_739_52 (br_739_52 hP1217) (wk_c1 r136_260 (wk_ialdb r136_261 ar_759 (by decide) (fun q0 q1 => ba_759 hP1217 q0 q1) ?_)))
      intro v1220 h1222 h1223 e1221
      subst hQ; exact wk_iret r136_262 (⟨rfl, _, rfl, hP1217, hF1218, by omega, by omega, by have := (mUp_at e1219); omega⟩)
    · intro h1224
      have h1225 : v1201 ≤ en - 2 := by omega
      refine wk_al1 r136_13 (wk_il7 r136_14 (wk_iald r136_16 ar_741 ⟨by omega, by omega⟩ e1211 (wk_c2 r136_17 (wk_irem r136_19 ⟨by omega, by omega⟩ (by decide) (wk_is8 r136_20 rfl (wk_al1 r136_22 (wk_il7 r136_23 (wk_iald r136_25 ar_741 ⟨by omega, by omega⟩ e1211 (wk_c2 r136_26 (wk_idiv r136_28 ⟨by omega, by omega⟩ (by decide) (wk_c3 r136_29 (wk_irem r136_32 ⟨by omega, by omega⟩ (by decide) (wk_is9 r136_33 rfl (wk_al1 r136_35 (wk_il7 r136_36 (wk_iald r136_38 ar_741 ⟨by omega, by omega⟩ e1211 (wk_c3 r136_39 (wk_idiv r136_42 ⟨by omega, by omega⟩ (by decide) (wk_is10 r136_43 rfl (wk_inc7 r136_45 rfl (wk_il8 r136_48 (wk_c2 r136_50 ?_))))))))))))))))))))))
      refine wk_icne r136_52 ⟨by omega, by omega⟩ (by decide) ?_ ?_
      · intro h1229
        refine wk_il8 r136_78 (wk_c2 r136_80 ?_)
        refine wk_icne r136_82 ⟨by omega, by omega⟩ (by decide) ?_ ?_
        · intro h1230
          refine wk_il8 r136_147 (wk_c2 r136_149 ?_)
          refine wk_iceq r136_151 ⟨by omega, by omega⟩ (by decide) ?_ ?_
          · intro h1231
            have h1232 : 2 ≤ v1198 := by omega
            refine wk_inc6 r136_161 rfl (wk_al0 r136_164 (wk_getfr r136_165 fd_739_52 (br_739_52 hP1205) (wk_il6 r136_168 (wk_c1 r136_170 (wk_isub r136_171 (wk_il8 r136_172 (wk_c2 r136_174 ?_)))))))
            refine wk_icne r136_176 ⟨by omega, by omega⟩ (by decide) ?_ ?_
            · intro h1233
              exfalso
              omega
            · intro h1234
              refine wk_al0 r136_179 (wk_getfr r136_180 fd_739_52 (br_739_52 hP1205) (wk_il6 r136_183 (wk_c1 r136_185 (wk_isub r136_186 (wk_ialdb r136_187 ar_759 ⟨by omega, by omega⟩ (fun q0 q1 => ba_759 hP1205 q0 q1) ?_)))))
              intro v1235 h1237 h1238 e1236
              refine wk_al0 r136_188 (wk_getfr r136_189 fd_739_52 (br_739_52 hP1205) (wk_il6 r136_192 (wk_ialdb r136_194 ar_759 ⟨by omega, by omega⟩ (fun q0 q1 => ba_759 hP1205 q0 q1) ?_)))
              intro v1239 h1241 h1242 e1240
              refine wk_iand r136_195 ⟨by omega, by omega⟩ ⟨by omega, by omega⟩ ?_
              intro v1243 h1244 h1245 h1246 h1247
              refine wk_goto r136_196 (wk_iast r136_216 ar_759 ⟨by omega, by omega⟩ (wk_nw (ga_759 _) rfl hP1205 hF1206 (ua_759 ⟨by omega, by omega⟩) ?_))
              intro M1248 hP1249 hF1250 e1251
              refine wk_goto r136_217 (wk_goto r136_245 ?_)
              exact wp_fg (le_s (le_s (le_s (le_s (le_s (le_s (le_s (le_s (le_n (le_n (le_n (le_s le_0)))))))))))) (ih1331 (799 - (v1201 + 1)).toNat (by omega) M1248 (v1198 + (-1)) (v1201 + 1) rfl hP1249 hF1250 (by first | assumption | omega) (by first | assumption | omega) (by first | assumption | omega) (by first | assumption | omega) (by first | assumption | omega) (by first | assumption | omega) (by have q := hg_up (by omega) (show (fun k => M0 741 k) v1201 = v1210 from (hF1206.at (ga_741 _) rfl).symm.trans e1211) ti1209; rw [q]; split; (omega); (split <;> omega)))
          · intro h1252
            refine wk_il8 r136_154 (wk_c2 r136_156 ?_)
            refine wk_icne r136_158 ⟨by omega, by omega⟩ (by decide) ?_ ?_
            · intro h1253
              have h1254 : 1 ≤ (v1210 % 16) ∧ (v1210 % 16) ≤ 9 := by omega
              refine wk_al0 r136_220 (wk_getfr r136_221 fd_739_52 (br_739_52 hP1205) (wk_il6 r136_224 (wk_al0 r136_226 (wk_il8 r136_227 (wk_il9 r136_229 (wk_il10 r136_231 (wk_il3 r136_233 (wk_il4 r136_234 (wk_il5 r136_236 (wk_cv7 r136_238 kc_739_48 rfl (m9048_739 _ M1204 (v1210 % 16) ((v1210 / 16) % 128) (v1210 / 2048) p3 p4 p5 hP1205 (by omega) (by omega) (by omega) (by omega) (by omega) (by omega) (by omega) (by omega) (by omega) (by omega) (by omega) (by omega) (by first | assumption | omega | (unfold stepok; omega)) (by first | assumption | omega | (unfold stepok; omega))) (cqI ?_)))))))))))
              rintro v1259 M1255 ⟨hP1256, hQ1257, h1260, h1261⟩
              obtain rfl := Fr.same hQ1257
              refine wk_iast r136_241 ar_759 ⟨by omega, by omega⟩ (wk_nw (ga_759 _) rfl hP1205 hF1206 (ua_759 ⟨by omega, by omega⟩) ?_)
              intro M1262 hP1263 hF1264 e1265
              refine wk_inc6 r136_242 rfl (wk_goto r136_245 ?_)
              exact wp_fg (le_s (le_s (le_s (le_s (le_s (le_s (le_s (le_s (le_n (le_n (le_n (le_s le_0)))))))))))) (ih1331 (799 - (v1201 + 1)).toNat (by omega) M1262 (v1198 + 1) (v1201 + 1) rfl hP1263 hF1264 (by first | assumption | omega) (by first | assumption | omega) (by first | assumption | omega) (by first | assumption | omega) (by first | assumption | omega) (by first | assumption | omega) (by have q := hg_up (by omega) (show (fun k => M0 741 k) v1201 = v1210 from (hF1206.at (ga_741 _) rfl).symm.trans e1211) ti1209; rw [q]; split; (omega); (split <;> omega)))
            · intro h1266
              have h1267 : 2 ≤ v1198 := by omega
              refine wk_inc6 r136_161 rfl (wk_al0 r136_164 (wk_getfr r136_165 fd_739_52 (br_739_52 hP1205) (wk_il6 r136_168 (wk_c1 r136_170 (wk_isub r136_171 (wk_il8 r136_172 (wk_c2 r136_174 ?_)))))))
              refine wk_icne r136_176 ⟨by omega, by omega⟩ (by decide) ?_ ?_
              · intro h1268
                refine wk_al0 r136_199 (wk_getfr r136_200 fd_739_52 (br_739_52 hP1205) (wk_il6 r136_203 (wk_c1 r136_205 (wk_isub r136_206 (wk_ialdb r136_207 ar_759 ⟨by omega, by omega⟩ (fun q0 q1 => ba_759 hP1205 q0 q1) ?_)))))
                intro v1269 h1271 h1272 e1270
                refine wk_al0 r136_208 (wk_getfr r136_209 fd_739_52 (br_739_52 hP1205) (wk_il6 r136_212 (wk_ialdb r136_214 ar_759 ⟨by omega, by omega⟩ (fun q0 q1 => ba_759 hP1205 q0 q1) ?_)))
                intro v1273 h1275 h1276 e1274
                refine wk_ior 1 2 r136_215 (by decide) ⟨by omega, by omega⟩ ⟨by omega, by omega⟩ ?_
                intro v1277 h1278 h1279 h1280 h1281 h1282
                refine wk_iast r136_216 ar_759 ⟨by omega, by omega⟩ (wk_nw (ga_759 _) rfl hP1205 hF1206 (ua_759 ⟨by omega, by omega⟩) ?_)
                intro M1283 hP1284 hF1285 e1286
                refine wk_goto r136_217 (wk_goto r136_245 ?_)
                exact wp_fg (le_s (le_s (le_s (le_s (le_s (le_s (le_s (le_s (le_n (le_n (le_n (le_s le_0)))))))))))) (ih1331 (799 - (v1201 + 1)).toNat (by omega) M1283 (v1198 + (-1)) (v1201 + 1) rfl hP1284 hF1285 (by first | assumption | omega) (by first | assumption | omega) (by first | assumption | omega) (by first | assumption | omega) (by first | assumption | omega) (by first | assumption | omega) (by have q := hg_up (by omega) (show (fun k => M0 741 k) v1201 = v1210 from (hF1206.at (ga_741 _) rfl).symm.trans e1211) ti1209; rw [q]; split; (omega); (split <;> omega)))
              · intro h1287
                exfalso
                omega
        · intro h1288
          have h1289 : 1 ≤ v1198 ∧ ((v1210 / 16) % 128) ≤ 6 := by omega
          refine wk_al0 r136_85 (wk_il3 r136_86 (wk_il9 r136_87 (wk_il4 r136_89 (wk_cv4 r136_91 kc_739_107 rfl (m9107_739 _ M1204 p3 ((v1210 / 16) % 128) p4 hP1205 (by omega) (by omega) (by omega) (by omega) (by omega) (by omega)) (cqI ?_)))))
          rintro v1294 M1290 ⟨hP1291, hQ1292, h1295, h1296⟩
          obtain rfl := Fr.same hQ1292
          refine wk_is11 r136_94 rfl (wk_al0 r136_96 (wk_getfr r136_97 fd_739_52 (br_739_52 hP1205) (wk_il6 r136_100 (wk_c1 r136_102 (wk_isub r136_103 (wk_il11 r136_104 (wk_c1 r136_106 ?_)))))))
          refine wk_icne r136_107 ⟨by omega, by omega⟩ (by decide) ?_ ?_
          · intro h1297
            refine wk_il11 r136_114 (wk_c1 r136_116 ?_)
            refine wk_icne r136_117 ⟨by omega, by omega⟩ (by decide) ?_ ?_
            · intro h1298
              refine wk_al0 r136_134 (wk_getfr r136_135 fd_739_52 (br_739_52 hP1205) (wk_il6 r136_138 (wk_c1 r136_140 (wk_isub r136_141 (wk_ialdb r136_142 ar_759 ⟨by omega, by omega⟩ (fun q0 q1 => ba_759 hP1205 q0 q1) ?_)))))
              intro v1299 h1301 h1302 e1300
              refine wk_iast r136_143 ar_759 ⟨by omega, by omega⟩ (wk_nw (ga_759 _) rfl hP1205 hF1206 (ua_759 ⟨by omega, by omega⟩) ?_)
              intro M1303 hP1304 hF1305 e1306
              refine wk_goto r136_144 (wk_goto r136_245 ?_)
              exact wp_fg (le_s (le_s (le_s (le_s (le_s (le_s (le_s (le_s (le_n (le_n (le_n (le_n le_0)))))))))))) (ih1331 (799 - (v1201 + 1)).toNat (by omega) M1303 v1198 (v1201 + 1) rfl hP1304 hF1305 (by first | assumption | omega) (by first | assumption | omega) (by first | assumption | omega) (by first | assumption | omega) (by first | assumption | omega) (by first | assumption | omega) (by have q := hg_up (by omega) (show (fun k => M0 741 k) v1201 = v1210 from (hF1206.at (ga_741 _) rfl).symm.trans e1211) ti1209; rw [q]; split; (omega); (split <;> omega)))
            · intro h1307
              refine wk_c1 r136_120 (wk_al0 r136_121 (wk_getfr r136_122 fd_739_52 (br_739_52 hP1205) (wk_il6 r136_125 (wk_c1 r136_127 (wk_isub r136_128 (wk_ialdb r136_129 ar_759 ⟨by omega, by omega⟩ (fun q0 q1 => ba_759 hP1205 q0 q1) ?_))))))
              intro v1308 h1310 h1311 e1309
              refine wk_isub r136_130 (wk_goto r136_131 (wk_iast r136_143 ar_759 ⟨by omega, by omega⟩ (wk_nw (ga_759 _) rfl hP1205 hF1206 (ua_759 ⟨by omega, by omega⟩) ?_)))
              intro M1312 hP1313 hF1314 e1315
              refine wk_goto r136_144 (wk_goto r136_245 ?_)
              exact wp_fg (le_s (le_s (le_s (le_s (le_s (le_s (le_s (le_s (le_n (le_n (le_n (le_n le_0)))))))))))) (ih1331 (799 - (v1201 + 1)).toNat (by omega) M1312 v1198 (v1201 + 1) rfl hP1313 hF1314 (by first | assumption | omega) (by first | assumption | omega) (by first | assumption | omega) (by first | assumption | omega) (by first | assumption | omega) (by first | assumption | omega) (by have q := hg_up (by omega) (show (fun k => M0 741 k) v1201 = v1210 from (hF1206.at (ga_741 _) rfl).symm.trans e1211) ti1209; rw [q]; split; (omega); (split <;> omega)))
          · intro h1316
            refine wk_c1 r136_110 (wk_goto r136_111 (wk_iast r136_143 ar_759 ⟨by omega, by omega⟩ (wk_nw (ga_759 _) rfl hP1205 hF1206 (ua_759 (by decide)) ?_)))
            intro M1317 hP1318 hF1319 e1320
            refine wk_goto r136_144 (wk_goto r136_245 ?_)
            exact wp_fg (le_s (le_s (le_s (le_s (le_s (le_s (le_s (le_s (le_n (le_n (le_n (le_n le_0)))))))))))) (ih1331 (799 - (v1201 + 1)).toNat (by omega) M1317 v1198 (v1201 + 1) rfl hP1318 hF1319 (by first | assumption | omega) (by first | assumption | omega) (by first | assumption | omega) (by first | assumption | omega) (by first | assumption | omega) (by first | assumption | omega) (by have q := hg_up (by omega) (show (fun k => M0 741 k) v1201 = v1210 from (hF1206.at (ga_741 _) rfl).symm.trans e1211) ti1209; rw [q]; split; (omega); (split <;> omega)))
      · intro h1321
        have h1322 : 1 ≤ v1198 := by omega
        refine wk_al0 r136_55 (wk_getfr r136_56 fd_739_52 (br_739_52 hP1205) (wk_il6 r136_59 (wk_c1 r136_61 (wk_isub r136_62 (wk_c1 r136_63 (wk_al0 r136_64 (wk_getfr r136_65 fd_739_52 (br_739_52 hP1205) (wk_il6 r136_68 (wk_c1 r136_70 (wk_isub r136_71 (wk_ialdb r136_72 ar_759 ⟨by omega, by omega⟩ (fun q0 q1 => ba_759 hP1205 q0 q1) ?_)))))))))))
        intro v1323 h1325 h1326 e1324
        refine wk_isub r136_73 (wk_iast r136_74 ar_759 ⟨by omega, by omega⟩ (wk_nw (ga_759 _) rfl hP1205 hF1206 (ua_759 ⟨by omega, by omega⟩) ?_))
        intro M1327 hP1328 hF1329 e1330
        refine wk_goto r136_75 (wk_goto r136_245 ?_)
        exact wp_fg (le_s (le_s (le_s (le_s (le_s (le_s (le_s (le_s (le_n (le_n (le_n (le_s le_0)))))))))))) (ih1331 (799 - (v1201 + 1)).toNat (by omega) M1327 v1198 (v1201 + 1) rfl hP1328 hF1329 (by first | assumption | omega) (by first | assumption | omega) (by first | assumption | omega) (by first | assumption | omega) (by first | assumption | omega) (by first | assumption | omega) (by have q := hg_up (by omega) (show (fun k => M0 741 k) v1201 = v1210 from (hF1206.at (ga_741 _) rfl).symm.trans e1211) ti1209; rw [q]; split; (omega); (split <;> omega)))
  exact wp_fg (le_s (le_s (le_n (le_s (le_s (le_s (le_s (le_s (le_s (le_s (le_s (le_s le_0)))))))))))) (c6_1331 _ M0 0 p2 rfl hP0 hF0 (by first | assumption | omega) (by first | assumption | omega) (by first | assumption | omega) (by first | assumption | omega) (by first | assumption | omega) (by first | assumption | omega) (by rw [Int.sub_self]; rfl))
