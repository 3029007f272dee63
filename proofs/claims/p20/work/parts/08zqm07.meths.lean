/-! ===== written by program (wip/layer4) ===== -/
def fm_m8068_739 : Nat := 1356938545779010069195758067332661297480611728569957925602488559592754118656
set_option maxHeartbeats 20000000 in
/-- IslandHallModel.expression -/
theorem m8068_739 {B : eB} (d : Nat) (M0 : Mm) (x739_30 : Int) (x739_31 : Int) (x739_33 : Int) (x739_34 : Int) (x739_32 : Int) (x739_28 : Int) (x739_45 : Int) (x739_46 : Int) (x739_47 : Int) (x739_38 : Int) (x739_36 : Int) (x739_51 : Int) (x739_35 : Int) (x739_29 : Int) (T : Int → Int) (hP0 : Pw M0) (ex739_30 : M0 739 30 = x739_30) (lx739_30 : 0 ≤ x739_30) (ux739_30 : x739_30 ≤ 500) (ex739_31 : M0 739 31 = x739_31) (lx739_31 : 0 ≤ x739_31) (ux739_31 : x739_31 ≤ 500) (ex739_33 : M0 739 33 = x739_33) (lx739_33 : 0 ≤ x739_33) (ux739_33 : x739_33 ≤ 500) (ex739_34 : M0 739 34 = x739_34) (lx739_34 : 0 ≤ x739_34) (ux739_34 : x739_34 ≤ 500) (ex739_32 : M0 739 32 = x739_32) (lx739_32 : 0 ≤ x739_32) (ux739_32 : x739_32 ≤ 4) (ex739_28 : M0 739 28 = x739_28) (lx739_28 : 0 ≤ x739_28) (ux739_28 : x739_28 ≤ 6) (ex739_45 : M0 739 45 = x739_45) (lx739_45 : 0 ≤ x739_45) (ux739_45 : x739_45 ≤ 1000) (ex739_46 : M0 739 46 = x739_46) (lx739_46 : 0 ≤ x739_46) (ux739_46 : x739_46 ≤ 520) (ex739_47 : M0 739 47 = x739_47) (lx739_47 : 0 ≤ x739_47) (ux739_47 : x739_47 ≤ 500) (ex739_38 : M0 739 38 = x739_38) (lx739_38 : 0 ≤ x739_38) (ux739_38 : x739_38 ≤ 999) (ex739_36 : M0 739 36 = x739_36) (lx739_36 : 0 ≤ x739_36) (ux739_36 : x739_36 ≤ 255) (ex739_51 : M0 739 51 = x739_51) (lx739_51 : 0 ≤ x739_51) (ux739_51 : x739_51 ≤ 1) (ex739_35 : M0 739 35 = x739_35) (lx739_35 : 0 ≤ x739_35) (ux739_35 : x739_35 ≤ 999) (ex739_29 : M0 739 29 = x739_29) (lx739_29 : (-1) ≤ x739_29) (ux739_29 : x739_29 ≤ 501) (rp0 : 0 ≤ x739_30 + (-1) * x739_31) (rp1 : 0 ≤ x739_31 + (-1) * x739_33 + (-1) * x739_34) (rp2 : 0 ≤ (-1) * x739_31 + x739_33 + x739_34) (rp3 : 0 ≤ 4 * x739_34 + (-1) * x739_32) (rp4 : 0 ≤ x739_33 + (-2) * x739_45 + 3000 * x739_28) (rp5 : 0 ≤ (-1) * x739_38 + 7 + 3000 * x739_28) (rp6 : 0 ≤ (-1) * x739_45 + 260) (pp_TK : TK M0) (pp_TQ : TXQ T M0) (pp_TT : TTP T M0) : Ct B (d + 7) 68 [R 739] M0 (qV fun M => Pw M ∧ Fr fm_m8068_739 M0 M ∧ 0 ≤ M 739 30 + (-1) * (M 739 31) ∧ 0 ≤ M 739 31 + (-1) * (M 739 33) + (-1) * (M 739 34) ∧ 0 ≤ (-1) * (M 739 31) + M 739 33 + M 739 34 ∧ 0 ≤ 4 * (M 739 34) + (-1) * (M 739 32) ∧ 0 ≤ M 739 33 + (-1) * x739_33 ∧ 0 ≤ M 739 28 + (-1) * x739_28 ∧ 0 ≤ M 739 33 + (-2) * (M 739 45) + 3000 * (M 739 28) + 3 ∧ 0 ≤ (-1) * (M 739 45) + 262 ∧ 0 ≤ M 739 29 + 1 ∧ 0 ≤ M 739 29 + (-1) * x739_29 + 7000 * (M 739 28) ∧ 0 ≤ (-1) * (M 739 29) + x739_29 + 7000 * (M 739 28) ∧ (ESP M0 M x739_45) ∧ ((x739_28 ≠ 0 ∧ M 739 28 = x739_28 ∧ M 739 29 = x739_29) ∨ (x739_28 = 0 ∧ RG T x739_30 x739_38 ((0 : Int), (0 : Int), x739_33, (0 : Int)) 4 0 (M 739 33) 0 (M 739 28) (M 739 29))) ∧ (TK M) ∧ (TXQ T M) ∧ (TTP T M)) := by
  refine ct_of (d := d + 6) (k := 2) (L := [some (R 739), none, none]) rfl rfl rfl ?_
  have hF0 := Fr.rf fm_m8068_739 M0
  generalize hQ : (qV fun M => Pw M ∧ Fr fm_m8068_739 M0 M ∧ 0 ≤ M 739 30 + (-1) * (M 739 31) ∧ 0 ≤ M 739 31 + (-1) * (M 739 33) + (-1) * (M 739 34) ∧ 0 ≤ (-1) * (M 739 31) + M 739 33 + M 739 34 ∧ 0 ≤ 4 * (M 739 34) + (-1) * (M 739 32) ∧ 0 ≤ M 739 33 + (-1) * x739_33 ∧ 0 ≤ M 739 28 + (-1) * x739_28 ∧ 0 ≤ M 739 33 + (-2) * (M 739 45) + 3000 * (M 739 28) + 3 ∧ 0 ≤ (-1) * (M 739 45) + 262 ∧ 0 ≤ M 739 29 + 1 ∧ 0 ≤ M 739 29 + (-1) * x739_29 + 7000 * (M 739 28) ∧ 0 ≤ (-1) * (M 739 29) + x739_29 + 7000 * (M 739 28) ∧ (ESP M0 M x739_45) ∧ ((x739_28 ≠ 0 ∧ M 739 28 = x739_28 ∧ M 739 29 = x739_29) ∨ (x739_28 = 0 ∧ RG T x739_30 x739_38 ((0 : Int), (0 : Int), x739_33, (0 : Int)) 4 0 (M 739 33) 0 (M 739 28) (M 739 29))) ∧ (TK M) ∧ (TXQ T M) ∧ (TTP T M)) = Q
  refine wk_al0 r68_0 (wk_cv1 r68_1 kc_739_84 rfl (m8084_739 _ M0 x739_28 hP0 ex739_28 (by first | with_reducible assumption | omega) (by first | with_reducible assumption | omega)) (cqI ?_))
  rintro v7 M1 ⟨hP2, hQ3, h8, h9, h5, h6⟩
  obtain rfl := Fr.same hQ3
  have e10 := ex739_28
  refine wk_ifne r68_4 ⟨by omega, by omega⟩ ?_ ?_
  · intro h11
    refine wk_al0 r68_8 (wk_c1 r68_9 (wk_putfi81 r68_10 fd_739_46 (wk_nw g_739_46 rfl hP0 hF0 (uf_739_46 (by decide)) ?_)))
    intro M12 hP13 hF14 e15
    refine wk_al0 r68_13 (wk_c1 r68_14 (wk_putfi81 r68_15 fd_739_47 (wk_nw g_739_47 rfl hP13 hF14 (uf_739_47 (by decide)) ?_)))
    intro M16 hP17 hF18 e19
    refine wk_al0 r68_18 (wk_c1 r68_19 (wk_putfz81 r68_20 fd_739_51 (by decide) (wk_nw g_739_51 rfl hP17 hF18 (uf_739_51 (by decide)) ?_)))
    intro M20 hP21 hF22 e23
    have pr24 : GE M20 x739_45 (fun k => M0 757 k) 0 1 := GE_init (mUp_no e23 (mUp_no e19 (mUp_no e15 ex739_45 (Or.inr (by decide))) (Or.inr (by decide))) (Or.inr (by decide))) (by omega) (mUp_no e23 (mUp_no e19 (mUp_at e15) (Or.inr (by decide))) (Or.inr (by decide))) (mUp_no e23 (mUp_at e19) (Or.inr (by decide))) (fun k => by rw [e23, mUp_ne (Or.inl (by decide)), e19, mUp_ne (Or.inl (by decide)), e15, mUp_ne (Or.inl (by decide))])
    refine wk_al0 r68_23 (wk_cv1 r68_24 kc_739_62 rfl (m8062_739 _ M20 x739_30 x739_31 x739_33 x739_34 x739_32 x739_28 x739_45 0 0 x739_29 x739_38 x739_45 ((fun k => M0 757 k)) T (((0 : Int), (0 : Int), x739_33, (0 : Int))) hP21 (mUp_no e23 (mUp_no e19 (mUp_no e15 ex739_30 (Or.inr (by decide))) (Or.inr (by decide))) (Or.inr (by decide))) (by first | with_reducible assumption | omega) (by first | with_reducible assumption | omega) (mUp_no e23 (mUp_no e19 (mUp_no e15 ex739_31 (Or.inr (by decide))) (Or.inr (by decide))) (Or.inr (by decide))) (by first | with_reducible assumption | omega) (by first | with_reducible assumption | omega) (mUp_no e23 (mUp_no e19 (mUp_no e15 ex739_33 (Or.inr (by decide))) (Or.inr (by decide))) (Or.inr (by decide))) (by first | with_reducible assumption | omega) (by first | with_reducible assumption | omega) (mUp_no e23 (mUp_no e19 (mUp_no e15 ex739_34 (Or.inr (by decide))) (Or.inr (by decide))) (Or.inr (by decide))) (by first | with_reducible assumption | omega) (by first | with_reducible assumption | omega) (mUp_no e23 (mUp_no e19 (mUp_no e15 ex739_32 (Or.inr (by decide))) (Or.inr (by decide))) (Or.inr (by decide))) (by first | with_reducible assumption | omega) (by first | with_reducible assumption | omega) (mUp_no e23 (mUp_no e19 (mUp_no e15 ex739_28 (Or.inr (by decide))) (Or.inr (by decide))) (Or.inr (by decide))) (by first | with_reducible assumption | omega) (by first | with_reducible assumption | omega) (mUp_no e23 (mUp_no e19 (mUp_no e15 ex739_45 (Or.inr (by decide))) (Or.inr (by decide))) (Or.inr (by decide))) (by first | with_reducible assumption | omega) (by first | with_reducible assumption | omega) (mUp_no e23 (mUp_no e19 (mUp_at e15) (Or.inr (by decide))) (Or.inr (by decide))) (by first | with_reducible assumption | omega) (by first | with_reducible assumption | omega) (mUp_no e23 (mUp_at e19) (Or.inr (by decide))) (by first | with_reducible assumption | omega) (by first | with_reducible assumption | omega) (mUp_no e23 (mUp_no e19 (mUp_no e15 ex739_29 (Or.inr (by decide))) (Or.inr (by decide))) (Or.inr (by decide))) (by first | with_reducible assumption | omega) (by first | with_reducible assumption | omega) (mUp_no e23 (mUp_no e19 (mUp_no e15 ex739_38 (Or.inr (by decide))) (Or.inr (by decide))) (Or.inr (by decide))) (by first | with_reducible assumption | omega) (by first | with_reducible assumption | omega) (by omega) (by omega) (by omega) (by omega) (by omega) (by omega) (RG_mg (Rch.rf _) (by omega)) (TK_sm (Sm.up e23 g_739_51 rfl) (TK_sm (Sm.up e19 g_739_47 rfl) (TK_sm (Sm.up e15 g_739_46 rfl) pp_TK))) pr24 (TXQ_sm (Sm.up e23 g_739_51 rfl) (TXQ_sm (Sm.up e19 g_739_47 rfl) (TXQ_sm (Sm.up e15 g_739_46 rfl) pp_TQ))) (TTP_sm (Sm.up e23 g_739_51 rfl) (TTP_sm (Sm.up e19 g_739_47 rfl) (TTP_sm (Sm.up e15 g_739_46 rfl) pp_TT)))) (cqV ?_))
    rintro M25 ⟨hP26, hQ27, h29, h30, h31, h32, h33, h34, h35, h36, h37, h38, h39, h40, h41, h42, h43, xh44, pr45, pr46, pr47, pr48⟩
    have hF28 : Fr fm_m8068_739 M0 M25 := hF22.tr hQ27 rfl
    have e49 := ((hQ27.at g_739_30 rfl).trans (mUp_no e23 (mUp_no e19 (mUp_no e15 ex739_30 (Or.inr (by decide))) (Or.inr (by decide))) (Or.inr (by decide))))
    have e50 := ((hQ27.at g_739_31 rfl).trans (mUp_no e23 (mUp_no e19 (mUp_no e15 ex739_31 (Or.inr (by decide))) (Or.inr (by decide))) (Or.inr (by decide))))
    have e51 := ((hQ27.at g_739_33 rfl).trans (mUp_no e23 (mUp_no e19 (mUp_no e15 ex739_33 (Or.inr (by decide))) (Or.inr (by decide))) (Or.inr (by decide))))
    have e52 := ((hQ27.at g_739_34 rfl).trans (mUp_no e23 (mUp_no e19 (mUp_no e15 ex739_34 (Or.inr (by decide))) (Or.inr (by decide))) (Or.inr (by decide))))
    have e53 := ((hQ27.at g_739_32 rfl).trans (mUp_no e23 (mUp_no e19 (mUp_no e15 ex739_32 (Or.inr (by decide))) (Or.inr (by decide))) (Or.inr (by decide))))
    obtain ⟨v54, e55⟩ : ∃ v, M25 739 28 = v := ⟨_, rfl⟩
    have h56 := (bf_739_28 hP26).1; rw [e55] at h56
    have h57 := (bf_739_28 hP26).2; rw [e55] at h57
    have e58 := ((hQ27.at g_739_45 rfl).trans (mUp_no e23 (mUp_no e19 (mUp_no e15 ex739_45 (Or.inr (by decide))) (Or.inr (by decide))) (Or.inr (by decide))))
    have e59 := ((hQ27.at g_739_46 rfl).trans (mUp_no e23 (mUp_no e19 (mUp_at e15) (Or.inr (by decide))) (Or.inr (by decide))))
    obtain ⟨v60, e61⟩ : ∃ v, M25 739 47 = v := ⟨_, rfl⟩
    have h62 := (bf_739_47 hP26).1; rw [e61] at h62
    have h63 := (bf_739_47 hP26).2; rw [e61] at h63
    obtain ⟨v64, e65⟩ : ∃ v, M25 739 29 = v := ⟨_, rfl⟩
    have h66 := (bf_739_29 hP26).1; rw [e65] at h66
    have h67 := (bf_739_29 hP26).2; rw [e65] at h67
    refine wk_al0 r68_27 (wk_cv1 r68_28 kc_739_116 rfl (m8116_739 _ M25 x739_30 x739_31 x739_33 x739_34 x739_32 v54 x739_45 0 v60 x739_38 x739_36 0 x739_35 v64 x739_45 ((fun k => M0 757 k)) T (((0 : Int), (0 : Int), x739_33, (0 : Int))) hP26 ((hQ27.at g_739_30 rfl).trans (mUp_no e23 (mUp_no e19 (mUp_no e15 ex739_30 (Or.inr (by decide))) (Or.inr (by decide))) (Or.inr (by decide)))) (by first | with_reducible assumption | omega) (by first | with_reducible assumption | omega) ((hQ27.at g_739_31 rfl).trans (mUp_no e23 (mUp_no e19 (mUp_no e15 ex739_31 (Or.inr (by decide))) (Or.inr (by decide))) (Or.inr (by decide)))) (by first | with_reducible assumption | omega) (by first | with_reducible assumption | omega) ((hQ27.at g_739_33 rfl).trans (mUp_no e23 (mUp_no e19 (mUp_no e15 ex739_33 (Or.inr (by decide))) (Or.inr (by decide))) (Or.inr (by decide)))) (by first | with_reducible assumption | omega) (by first | with_reducible assumption | omega) ((hQ27.at g_739_34 rfl).trans (mUp_no e23 (mUp_no e19 (mUp_no e15 ex739_34 (Or.inr (by decide))) (Or.inr (by decide))) (Or.inr (by decide)))) (by first | with_reducible assumption | omega) (by first | with_reducible assumption | omega) ((hQ27.at g_739_32 rfl).trans (mUp_no e23 (mUp_no e19 (mUp_no e15 ex739_32 (Or.inr (by decide))) (Or.inr (by decide))) (Or.inr (by decide)))) (by first | with_reducible assumption | omega) (by first | with_reducible assumption | omega) e55 (by first | with_reducible assumption | omega) (by first | with_reducible assumption | omega) ((hQ27.at g_739_45 rfl).trans (mUp_no e23 (mUp_no e19 (mUp_no e15 ex739_45 (Or.inr (by decide))) (Or.inr (by decide))) (Or.inr (by decide)))) (by first | with_reducible assumption | omega) (by first | with_reducible assumption | omega) ((hQ27.at g_739_46 rfl).trans (mUp_no e23 (mUp_no e19 (mUp_at e15) (Or.inr (by decide))) (Or.inr (by decide)))) (by first | with_reducible assumption | omega) (by first | with_reducible assumption | omega) e61 (by first | with_reducible assumption | omega) (by first | with_reducible assumption | omega) ((hQ27.at g_739_38 rfl).trans (mUp_no e23 (mUp_no e19 (mUp_no e15 ex739_38 (Or.inr (by decide))) (Or.inr (by decide))) (Or.inr (by decide)))) (by first | with_reducible assumption | omega) (by first | with_reducible assumption | omega) ((hQ27.at g_739_36 rfl).trans (mUp_no e23 (mUp_no e19 (mUp_no e15 ex739_36 (Or.inr (by decide))) (Or.inr (by decide))) (Or.inr (by decide)))) (by first | with_reducible assumption | omega) (by first | with_reducible assumption | omega) ((hQ27.at g_739_51 rfl).trans (mUp_at e23)) (by first | with_reducible assumption | omega) (by first | with_reducible assumption | omega) ((hQ27.at g_739_35 rfl).trans (mUp_no e23 (mUp_no e19 (mUp_no e15 ex739_35 (Or.inr (by decide))) (Or.inr (by decide))) (Or.inr (by decide)))) (by first | with_reducible assumption | omega) (by first | with_reducible assumption | omega) e65 (by first | with_reducible assumption | omega) (by first | with_reducible assumption | omega) (by omega) (by omega) (by omega) (by omega) (by omega) (by omega) (by omega) (by omega) (RG_c xh44 (by omega) (by omega) rfl (by omega) (by omega)) pr45 pr46 pr47 pr48) (cqV ?_))
    rintro M68 ⟨hP69, hQ70, h72, h73, h74, h75, h76, h77, h78, h79, h80, h81, h82, h83, h84, xh85, pr86, pr87, pr88, pr89⟩
    have hF71 : Fr fm_m8068_739 M0 M68 := hF28.tr hQ70 rfl
    have e90 := ((hQ70.at g_739_30 rfl).trans ((hQ27.at g_739_30 rfl).trans (mUp_no e23 (mUp_no e19 (mUp_no e15 ex739_30 (Or.inr (by decide))) (Or.inr (by decide))) (Or.inr (by decide)))))
    obtain ⟨v91, e92⟩ : ∃ v, M68 739 31 = v := ⟨_, rfl⟩
    have h93 := (bf_739_31 hP69).1; rw [e92] at h93
    have h94 := (bf_739_31 hP69).2; rw [e92] at h94
    obtain ⟨v95, e96⟩ : ∃ v, M68 739 33 = v := ⟨_, rfl⟩
    have h97 := (bf_739_33 hP69).1; rw [e96] at h97
    have h98 := (bf_739_33 hP69).2; rw [e96] at h98
    obtain ⟨v99, e100⟩ : ∃ v, M68 739 34 = v := ⟨_, rfl⟩
    have h101 := (bf_739_34 hP69).1; rw [e100] at h101
    have h102 := (bf_739_34 hP69).2; rw [e100] at h102
    obtain ⟨v103, e104⟩ : ∃ v, M68 739 32 = v := ⟨_, rfl⟩
    have h105 := (bf_739_32 hP69).1; rw [e104] at h105
    have h106 := (bf_739_32 hP69).2; rw [e104] at h106
    obtain ⟨v107, e108⟩ : ∃ v, M68 739 28 = v := ⟨_, rfl⟩
    have h109 := (bf_739_28 hP69).1; rw [e108] at h109
    have h110 := (bf_739_28 hP69).2; rw [e108] at h110
    obtain ⟨v111, e112⟩ : ∃ v, M68 739 47 = v := ⟨_, rfl⟩
    have h113 := (bf_739_47 hP69).1; rw [e112] at h113
    have h114 := (bf_739_47 hP69).2; rw [e112] at h114
    obtain ⟨v115, e116⟩ : ∃ v, M68 739 45 = v := ⟨_, rfl⟩
    have h117 := (bf_739_45 hP69).1; rw [e116] at h117
    have h118 := (bf_739_45 hP69).2; rw [e116] at h118
    obtain ⟨v119, e120⟩ : ∃ v, M68 739 46 = v := ⟨_, rfl⟩
    have h121 := (bf_739_46 hP69).1; rw [e120] at h121
    have h122 := (bf_739_46 hP69).2; rw [e120] at h122
    obtain ⟨v123, e124⟩ : ∃ v, M68 739 51 = v := ⟨_, rfl⟩
    have h125 := (bf_739_51 hP69).1; rw [e124] at h125
    have h126 := (bf_739_51 hP69).2; rw [e124] at h126
    obtain ⟨v127, e128⟩ : ∃ v, M68 739 29 = v := ⟨_, rfl⟩
    have h129 := (bf_739_29 hP69).1; rw [e128] at h129
    have h130 := (bf_739_29 hP69).2; rw [e128] at h130
    refine wk_c1 r68_31 (wk_is1 r68_32 rfl ?_)
    have c33_1286 : ∀ (k1286 : Nat) (M638 : Mm) (v635 : Int) (v641 : Int) (v645 : Int) (v649 : Int) (v653 : Int) (v657 : Int) (v661 : Int) (v665 : Int) (v669 : Int) (v673 : Int) (v677 : Int), (10 * (501 - v645) + v635).toNat = k1286 → Pw M638 → Fr fm_m8068_739 M0 M638 → M638 739 31 = v641 → M638 739 33 = v645 → M638 739 34 = v649 → M638 739 32 = v653 → M638 739 28 = v657 → M638 739 47 = v661 → M638 739 45 = v665 → M638 739 46 = v669 → M638 739 51 = v673 → M638 739 29 = v677 → M638 739 30 = x739_30 → M638 739 38 = x739_38 → 0 ≤ v635 → v635 ≤ 1 → 0 ≤ v641 → v641 ≤ 500 → 0 ≤ v645 → v645 ≤ 500 → 0 ≤ v649 → v649 ≤ 500 → 0 ≤ v653 → v653 ≤ 4 → 0 ≤ v657 → v657 ≤ 6 → 0 ≤ v661 → v661 ≤ 12 → 0 ≤ v665 → v665 ≤ 260 → 0 ≤ v669 → v669 ≤ 260 → 0 ≤ v673 → v673 ≤ 0 → (-1) ≤ v677 → v677 ≤ 501 → (TK M638) → (GE M638 x739_45 (fun k => M0 757 k) 1 0) → (TXQ T M638) → (TTP T M638) → 0 ≤ 1 * x739_30 + (-1) * v641 → 0 ≤ 1 * v641 + (-1) * v645 + (-1) * v649 → 0 ≤ (-1) * v641 + 1 * v645 + 1 * v649 → 0 ≤ 4 * v649 + (-1) * v653 → 0 ≤ 1 * v645 + 1 * v661 + (-2) * v665 + (-2) * v669 + 3000 * v657 → 0 ≤ (-2) * v665 + (-2) * v669 + 520 → 0 ≤ (-1) * v661 + 1 * v657 + 6 → 0 ≤ 1 * v645 + (-1) * x739_33 → 0 ≤ 1 * v657 + (-1) * x739_28 → 0 ≤ (-1) * x739_38 + 7 + 3000 * v657 → 0 ≤ (-1) * v673 → 0 ≤ 1 * v677 + (-1) * x739_29 + 7000 * v657 → 0 ≤ (-1) * v677 + 1 * x739_29 + 7000 * v657 → (EXI T x739_30 x739_38 ((0 : Int), (0 : Int), x739_33, (0 : Int)) v635 v661 v645 v657 v677) → Wp B (d + 6) 68 33 [some (R 739), some (I v635), none] [] M638 Q := by
      refine lp_ind ?_
      intro k1286 ih1286 M638 v635 v641 v645 v649 v653 v657 v661 v665 v669 v673 v677 hk1286 hP639 hF640 e644 e648 e652 e656 e660 e664 e668 e672 e676 e680 e681 e682 h636 h637 h642 h643 h646 h647 h650 h651 h654 h655 h658 h659 h662 h663 h666 h667 h670 h671 h674 h675 h678 h679 pr683 pr684 pr685 pr686 h687 h688 h689 h690 h691 h692 h693 h694 h695 h696 h697 h698 h699 ti700
      refine wk_il1 r68_33 ?_
      refine wk_ifeq r68_34 ⟨by omega, by omega⟩ ?_ ?_
      · intro h701
        refine wk_al0 r68_194 (wk_cv1 r68_195 kc_739_84 rfl (m8084_739 _ M638 v657 hP639 e660 (by first | with_reducible assumption | omega) (by first | with_reducible assumption | omega)) (cqI ?_))
        rintro v708 M702 ⟨hP703, hQ704, h709, h710, h706, h707⟩
        obtain rfl := Fr.same hQ704
        have e711 := e660
        refine wk_ifeq r68_198 ⟨by omega, by omega⟩ ?_ ?_
        · intro h712
          refine wk_al0 r68_214 (wk_c1 r68_215 (wk_cv2 r68_216 kc_739_63 rfl (m8063_739 _ M638 1 v665 v669 v661 x739_45 ((fun k => M0 757 k)) hP639 (by decide) (by decide) e668 (by first | with_reducible assumption | omega) (by first | with_reducible assumption | omega) e672 (by first | with_reducible assumption | omega) (by first | with_reducible assumption | omega) e664 (by first | with_reducible assumption | omega) (by first | with_reducible assumption | omega) (by omega) pr684) (cqV ?_)))
          rintro M713 ⟨hP714, hQ715, h717, h718, h719, xh720, pr721⟩
          have hF716 : Fr fm_m8068_739 M0 M713 := hF640.tr hQ715 rfl
          obtain ⟨v722, e723⟩ : ∃ v, M713 739 45 = v := ⟨_, rfl⟩
          have h724 := (bf_739_45 hP714).1; rw [e723] at h724
          have h725 := (bf_739_45 hP714).2; rw [e723] at h725
          obtain ⟨v726, e727⟩ : ∃ v, M713 739 46 = v := ⟨_, rfl⟩
          have h728 := (bf_739_46 hP714).1; rw [e727] at h728
          have h729 := (bf_739_46 hP714).2; rw [e727] at h729
          refine wk_al0 r68_219 (wk_c1 r68_220 (wk_c1 r68_221 (wk_c1 r68_222 (wk_cv4 r68_223 kc_739_117 rfl (m8117_739 _ M713 0 0 0 v722 hP714 (by decide) (by decide) (by decide) (by decide) (by decide) (by decide) e723 (by first | with_reducible assumption | omega) (by first | with_reducible assumption | omega)) (cqV ?_)))))
          rintro M730 ⟨hP731, hQ732, h734, h735, xh736⟩
          have hF733 : Fr fm_m8068_739 M0 M730 := hF716.tr hQ732 rfl
          obtain ⟨v737, e738⟩ : ∃ v, M730 739 45 = v := ⟨_, rfl⟩
          have h739 := (bf_739_45 hP731).1; rw [e738] at h739
          have h740 := (bf_739_45 hP731).2; rw [e738] at h740
          subst hQ; exact wk_ret r68_226 (⟨rfl, hP731, hF733, by have := ((hQ732.at g_739_30 rfl).trans ((hQ715.at g_739_30 rfl).trans e681)); have := ((hQ732.at g_739_31 rfl).trans ((hQ715.at g_739_31 rfl).trans e644)); omega, by have := ((hQ732.at g_739_31 rfl).trans ((hQ715.at g_739_31 rfl).trans e644)); have := ((hQ732.at g_739_33 rfl).trans ((hQ715.at g_739_33 rfl).trans e648)); have := ((hQ732.at g_739_34 rfl).trans ((hQ715.at g_739_34 rfl).trans e652)); omega, by have := ((hQ732.at g_739_31 rfl).trans ((hQ715.at g_739_31 rfl).trans e644)); have := ((hQ732.at g_739_33 rfl).trans ((hQ715.at g_739_33 rfl).trans e648)); have := ((hQ732.at g_739_34 rfl).trans ((hQ715.at g_739_34 rfl).trans e652)); omega, by have := ((hQ732.at g_739_34 rfl).trans ((hQ715.at g_739_34 rfl).trans e652)); have := ((hQ732.at g_739_32 rfl).trans ((hQ715.at g_739_32 rfl).trans e656)); omega, by have := ((hQ732.at g_739_33 rfl).trans ((hQ715.at g_739_33 rfl).trans e648)); omega, by have := ((hQ732.at g_739_28 rfl).trans ((hQ715.at g_739_28 rfl).trans e660)); omega, by have := ((hQ732.at g_739_33 rfl).trans ((hQ715.at g_739_33 rfl).trans e648)); have := e738; have := ((hQ732.at g_739_28 rfl).trans ((hQ715.at g_739_28 rfl).trans e660)); omega, by have := e738; omega, by have := ((hQ732.at g_739_29 rfl).trans ((hQ715.at g_739_29 rfl).trans e680)); omega, by have := ((hQ732.at g_739_29 rfl).trans ((hQ715.at g_739_29 rfl).trans e680)); have := ((hQ732.at g_739_28 rfl).trans ((hQ715.at g_739_28 rfl).trans e660)); omega, by have := ((hQ732.at g_739_29 rfl).trans ((hQ715.at g_739_29 rfl).trans e680)); have := ((hQ732.at g_739_28 rfl).trans ((hQ715.at g_739_28 rfl).trans e660)); omega, ES_put xh736 pr721 (by omega), Or.inr ⟨by omega, by rw [((hQ732.at g_739_33 rfl).trans ((hQ715.at g_739_33 rfl).trans e648)), ((hQ732.at g_739_28 rfl).trans ((hQ715.at g_739_28 rfl).trans e660)), ((hQ732.at g_739_29 rfl).trans ((hQ715.at g_739_29 rfl).trans e680))]; exact ex_end ti700 (Or.inl ⟨by omega, by omega, by omega⟩)⟩, (TK_sm (Sm.fr hQ732 rfl) (TK_sm (Sm.fr hQ715 rfl) pr683)), (TXQ_sm (Sm.fr hQ732 rfl) (TXQ_sm (Sm.fr hQ715 rfl) pr685)), (TTP_sm (Sm.fr hQ732 rfl) (TTP_sm (Sm.fr hQ715 rfl) pr686))⟩)
        · intro h741
          refine wk_al0 r68_201 (wk_getfi r68_202 fd_739_47 e664 (wk_c1 r68_205 ?_))
          refine wk_icle r68_206 ⟨by omega, by omega⟩ (by decide) ?_ ?_
          · intro h742
            refine wk_al0 r68_214 (wk_c1 r68_215 (wk_cv2 r68_216 kc_739_63 rfl (m8063_739 _ M638 1 v665 v669 v661 x739_45 ((fun k => M0 757 k)) hP639 (by decide) (by decide) e668 (by first | with_reducible assumption | omega) (by first | with_reducible assumption | omega) e672 (by first | with_reducible assumption | omega) (by first | with_reducible assumption | omega) e664 (by first | with_reducible assumption | omega) (by first | with_reducible assumption | omega) (by omega) pr684) (cqV ?_)))
            rintro M743 ⟨hP744, hQ745, h747, h748, h749, xh750, pr751⟩
            have hF746 : Fr fm_m8068_739 M0 M743 := hF640.tr hQ745 rfl
            obtain ⟨v752, e753⟩ : ∃ v, M743 739 45 = v := ⟨_, rfl⟩
            have h754 := (bf_739_45 hP744).1; rw [e753] at h754
            have h755 := (bf_739_45 hP744).2; rw [e753] at h755
            obtain ⟨v756, e757⟩ : ∃ v, M743 739 46 = v := ⟨_, rfl⟩
            have h758 := (bf_739_46 hP744).1; rw [e757] at h758
            have h759 := (bf_739_46 hP744).2; rw [e757] at h759
            refine wk_al0 r68_219 (wk_c1 r68_220 (wk_c1 r68_221 (wk_c1 r68_222 (wk_cv4 r68_223 kc_739_117 rfl (m8117_739 _ M743 0 0 0 v752 hP744 (by decide) (by decide) (by decide) (by decide) (by decide) (by decide) e753 (by first | with_reducible assumption | omega) (by first | with_reducible assumption | omega)) (cqV ?_)))))
            rintro M760 ⟨hP761, hQ762, h764, h765, xh766⟩
            have hF763 : Fr fm_m8068_739 M0 M760 := hF746.tr hQ762 rfl
            obtain ⟨v767, e768⟩ : ∃ v, M760 739 45 = v := ⟨_, rfl⟩
            have h769 := (bf_739_45 hP761).1; rw [e768] at h769
            have h770 := (bf_739_45 hP761).2; rw [e768] at h770
            subst hQ; exact wk_ret r68_226 (⟨rfl, hP761, hF763, by have := ((hQ762.at g_739_30 rfl).trans ((hQ745.at g_739_30 rfl).trans e681)); have := ((hQ762.at g_739_31 rfl).trans ((hQ745.at g_739_31 rfl).trans e644)); omega, by have := ((hQ762.at g_739_31 rfl).trans ((hQ745.at g_739_31 rfl).trans e644)); have := ((hQ762.at g_739_33 rfl).trans ((hQ745.at g_739_33 rfl).trans e648)); have := ((hQ762.at g_739_34 rfl).trans ((hQ745.at g_739_34 rfl).trans e652)); omega, by have := ((hQ762.at g_739_31 rfl).trans ((hQ745.at g_739_31 rfl).trans e644)); have := ((hQ762.at g_739_33 rfl).trans ((hQ745.at g_739_33 rfl).trans e648)); have := ((hQ762.at g_739_34 rfl).trans ((hQ745.at g_739_34 rfl).trans e652)); omega, by have := ((hQ762.at g_739_34 rfl).trans ((hQ745.at g_739_34 rfl).trans e652)); have := ((hQ762.at g_739_32 rfl).trans ((hQ745.at g_739_32 rfl).trans e656)); omega, by have := ((hQ762.at g_739_33 rfl).trans ((hQ745.at g_739_33 rfl).trans e648)); omega, by have := ((hQ762.at g_739_28 rfl).trans ((hQ745.at g_739_28 rfl).trans e660)); omega, by have := ((hQ762.at g_739_33 rfl).trans ((hQ745.at g_739_33 rfl).trans e648)); have := e768; have := ((hQ762.at g_739_28 rfl).trans ((hQ745.at g_739_28 rfl).trans e660)); omega, by have := e768; omega, by have := ((hQ762.at g_739_29 rfl).trans ((hQ745.at g_739_29 rfl).trans e680)); omega, by have := ((hQ762.at g_739_29 rfl).trans ((hQ745.at g_739_29 rfl).trans e680)); have := ((hQ762.at g_739_28 rfl).trans ((hQ745.at g_739_28 rfl).trans e660)); omega, by have := ((hQ762.at g_739_29 rfl).trans ((hQ745.at g_739_29 rfl).trans e680)); have := ((hQ762.at g_739_28 rfl).trans ((hQ745.at g_739_28 rfl).trans e660)); omega, ES_put xh766 pr751 (by omega), Or.inr ⟨by omega, by rw [((hQ762.at g_739_33 rfl).trans ((hQ745.at g_739_33 rfl).trans e648)), ((hQ762.at g_739_28 rfl).trans ((hQ745.at g_739_28 rfl).trans e660)), ((hQ762.at g_739_29 rfl).trans ((hQ745.at g_739_29 rfl).trans e680))]; exact ex_end ti700 (Or.inr (Or.inl ⟨by omega, by omega, by omega, by omega, by omega⟩))⟩, (TK_sm (Sm.fr hQ762 rfl) (TK_sm (Sm.fr hQ745 rfl) pr683)), (TXQ_sm (Sm.fr hQ762 rfl) (TXQ_sm (Sm.fr hQ745 rfl) pr685)), (TTP_sm (Sm.fr hQ762 rfl) (TTP_sm (Sm.fr hQ745 rfl) pr686))⟩)
          · intro h771
            refine wk_al0 r68_209 (wk_c1 r68_210 (wk_cv2 r68_211 kc_739_137 rfl (m8137_739 _ M638 1 v657 v645 v677 hP639 (by decide) (by decide) e660 (by first | with_reducible assumption | omega) (by first | with_reducible assumption | omega) e648 (by first | with_reducible assumption | omega) (by first | with_reducible assumption | omega) e680 (by first | with_reducible assumption | omega) (by first | with_reducible assumption | omega)) (cqV ?_)))
            rintro M772 ⟨hP773, hQ774, h776, h777, h778, h779, h780, xh781⟩
            have hF775 : Fr fm_m8068_739 M0 M772 := hF640.tr hQ774 rfl
            obtain ⟨v782, e783⟩ : ∃ v, M772 739 28 = v := ⟨_, rfl⟩
            have h784 := (bf_739_28 hP773).1; rw [e783] at h784
            have h785 := (bf_739_28 hP773).2; rw [e783] at h785
            obtain ⟨v786, e787⟩ : ∃ v, M772 739 29 = v := ⟨_, rfl⟩
            have h788 := (bf_739_29 hP773).1; rw [e787] at h788
            have h789 := (bf_739_29 hP773).2; rw [e787] at h789
            have pr790 : GE M772 x739_45 (fun k => M0 757 k) 1 0 := GE_mn (Sm.fr hQ774 rfl) (fun q => by have := e660; have := e783; omega) pr684
            refine wk_al0 r68_214 (wk_c1 r68_215 (wk_cv2 r68_216 kc_739_63 rfl (m8063_739 _ M772 1 v665 v669 v661 x739_45 ((fun k => M0 757 k)) hP773 (by decide) (by decide) ((hQ774.at g_739_45 rfl).trans e668) (by first | with_reducible assumption | omega) (by first | with_reducible assumption | omega) ((hQ774.at g_739_46 rfl).trans e672) (by first | with_reducible assumption | omega) (by first | with_reducible assumption | omega) ((hQ774.at g_739_47 rfl).trans e664) (by first | with_reducible assumption | omega) (by first | with_reducible assumption | omega) (by omega) pr790) (cqV ?_)))
            rintro M791 ⟨hP792, hQ793, h795, h796, h797, xh798, pr799⟩
            have hF794 : Fr fm_m8068_739 M0 M791 := hF775.tr hQ793 rfl
            obtain ⟨v800, e801⟩ : ∃ v, M791 739 45 = v := ⟨_, rfl⟩
            have h802 := (bf_739_45 hP792).1; rw [e801] at h802
            have h803 := (bf_739_45 hP792).2; rw [e801] at h803
            obtain ⟨v804, e805⟩ : ∃ v, M791 739 46 = v := ⟨_, rfl⟩
            have h806 := (bf_739_46 hP792).1; rw [e805] at h806
            have h807 := (bf_739_46 hP792).2; rw [e805] at h807
            refine wk_al0 r68_219 (wk_c1 r68_220 (wk_c1 r68_221 (wk_c1 r68_222 (wk_cv4 r68_223 kc_739_117 rfl (m8117_739 _ M791 0 0 0 v800 hP792 (by decide) (by decide) (by decide) (by decide) (by decide) (by decide) e801 (by first | with_reducible assumption | omega) (by first | with_reducible assumption | omega)) (cqV ?_)))))
            rintro M808 ⟨hP809, hQ810, h812, h813, xh814⟩
            have hF811 : Fr fm_m8068_739 M0 M808 := hF794.tr hQ810 rfl
            obtain ⟨v815, e816⟩ : ∃ v, M808 739 45 = v := ⟨_, rfl⟩
            have h817 := (bf_739_45 hP809).1; rw [e816] at h817
            have h818 := (bf_739_45 hP809).2; rw [e816] at h818
            subst hQ; exact wk_ret r68_226 (⟨rfl, hP809, hF811, by have := ((hQ810.at g_739_30 rfl).trans ((hQ793.at g_739_30 rfl).trans ((hQ774.at g_739_30 rfl).trans e681))); have := ((hQ810.at g_739_31 rfl).trans ((hQ793.at g_739_31 rfl).trans ((hQ774.at g_739_31 rfl).trans e644))); omega, by have := ((hQ810.at g_739_31 rfl).trans ((hQ793.at g_739_31 rfl).trans ((hQ774.at g_739_31 rfl).trans e644))); have := ((hQ810.at g_739_33 rfl).trans ((hQ793.at g_739_33 rfl).trans ((hQ774.at g_739_33 rfl).trans e648))); have := ((hQ810.at g_739_34 rfl).trans ((hQ793.at g_739_34 rfl).trans ((hQ774.at g_739_34 rfl).trans e652))); omega, by have := ((hQ810.at g_739_31 rfl).trans ((hQ793.at g_739_31 rfl).trans ((hQ774.at g_739_31 rfl).trans e644))); have := ((hQ810.at g_739_33 rfl).trans ((hQ793.at g_739_33 rfl).trans ((hQ774.at g_739_33 rfl).trans e648))); have := ((hQ810.at g_739_34 rfl).trans ((hQ793.at g_739_34 rfl).trans ((hQ774.at g_739_34 rfl).trans e652))); omega, by have := ((hQ810.at g_739_34 rfl).trans ((hQ793.at g_739_34 rfl).trans ((hQ774.at g_739_34 rfl).trans e652))); have := ((hQ810.at g_739_32 rfl).trans ((hQ793.at g_739_32 rfl).trans ((hQ774.at g_739_32 rfl).trans e656))); omega, by have := ((hQ810.at g_739_33 rfl).trans ((hQ793.at g_739_33 rfl).trans ((hQ774.at g_739_33 rfl).trans e648))); omega, by have := ((hQ810.at g_739_28 rfl).trans ((hQ793.at g_739_28 rfl).trans e783)); omega, by have := ((hQ810.at g_739_33 rfl).trans ((hQ793.at g_739_33 rfl).trans ((hQ774.at g_739_33 rfl).trans e648))); have := e816; have := ((hQ810.at g_739_28 rfl).trans ((hQ793.at g_739_28 rfl).trans e783)); omega, by have := e816; omega, by have := ((hQ810.at g_739_29 rfl).trans ((hQ793.at g_739_29 rfl).trans e787)); omega, by have := ((hQ810.at g_739_29 rfl).trans ((hQ793.at g_739_29 rfl).trans e787)); have := ((hQ810.at g_739_28 rfl).trans ((hQ793.at g_739_28 rfl).trans e783)); omega, by have := ((hQ810.at g_739_29 rfl).trans ((hQ793.at g_739_29 rfl).trans e787)); have := ((hQ810.at g_739_28 rfl).trans ((hQ793.at g_739_28 rfl).trans e783)); omega, ES_put xh814 pr799 (by omega), Or.inr ⟨by omega, by rw [((hQ810.at g_739_33 rfl).trans ((hQ793.at g_739_33 rfl).trans ((hQ774.at g_739_33 rfl).trans e648))), ((hQ810.at g_739_28 rfl).trans ((hQ793.at g_739_28 rfl).trans e783)), ((hQ810.at g_739_29 rfl).trans ((hQ793.at g_739_29 rfl).trans e787))]; exact ex_end ti700 (Or.inr (Or.inr ⟨by omega, by omega, by omega, by omega, by omega⟩))⟩, (TK_sm (Sm.fr hQ810 rfl) (TK_sm (Sm.fr hQ793 rfl) (TK_sm (Sm.fr hQ774 rfl) pr683))), (TXQ_sm (Sm.fr hQ810 rfl) (TXQ_sm (Sm.fr hQ793 rfl) (TXQ_sm (Sm.fr hQ774 rfl) pr685))), (TTP_sm (Sm.fr hQ810 rfl) (TTP_sm (Sm.fr hQ793 rfl) (TTP_sm (Sm.fr hQ774 rfl) pr686)))⟩)
      · intro h819
        refine wk_al0 r68_37 (wk_cv1 r68_38 kc_739_84 rfl (m8084_739 _ M638 v657 hP639 e660 (by first | with_reducible assumption | omega) (by first | with_reducible assumption | omega)) (cqI ?_))
        rintro v826 M820 ⟨hP821, hQ822, h827, h828, h824, h825⟩
        obtain rfl := Fr.same hQ822
        have e829 := e660
        refine wk_ifeq r68_41 ⟨by omega, by omega⟩ ?_ ?_
        · intro h830
          refine wk_al0 r68_194 (wk_cv1 r68_195 kc_739_84 rfl (m8084_739 _ M638 v657 hP639 e660 (by first | with_reducible assumption | omega) (by first | with_reducible assumption | omega)) (cqI ?_))
          rintro v837 M831 ⟨hP832, hQ833, h838, h839, h835, h836⟩
          obtain rfl := Fr.same hQ833
          have e840 := e660
          refine wk_ifeq r68_198 ⟨by omega, by omega⟩ ?_ ?_
          · intro h841
            refine wk_al0 r68_214 (wk_c1 r68_215 (wk_cv2 r68_216 kc_739_63 rfl (m8063_739 _ M638 1 v665 v669 v661 x739_45 ((fun k => M0 757 k)) hP639 (by decide) (by decide) e668 (by first | with_reducible assumption | omega) (by first | with_reducible assumption | omega) e672 (by first | with_reducible assumption | omega) (by first | with_reducible assumption | omega) e664 (by first | with_reducible assumption | omega) (by first | with_reducible assumption | omega) (by omega) pr684) (cqV ?_)))
            rintro M842 ⟨hP843, hQ844, h846, h847, h848, xh849, pr850⟩
            have hF845 : Fr fm_m8068_739 M0 M842 := hF640.tr hQ844 rfl
            obtain ⟨v851, e852⟩ : ∃ v, M842 739 45 = v := ⟨_, rfl⟩
            have h853 := (bf_739_45 hP843).1; rw [e852] at h853
            have h854 := (bf_739_45 hP843).2; rw [e852] at h854
            obtain ⟨v855, e856⟩ : ∃ v, M842 739 46 = v := ⟨_, rfl⟩
            have h857 := (bf_739_46 hP843).1; rw [e856] at h857
            have h858 := (bf_739_46 hP843).2; rw [e856] at h858
            refine wk_al0 r68_219 (wk_c1 r68_220 (wk_c1 r68_221 (wk_c1 r68_222 (wk_cv4 r68_223 kc_739_117 rfl (m8117_739 _ M842 0 0 0 v851 hP843 (by decide) (by decide) (by decide) (by decide) (by decide) (by decide) e852 (by first | with_reducible assumption | omega) (by first | with_reducible assumption | omega)) (cqV ?_)))))
            rintro M859 ⟨hP860, hQ861, h863, h864, xh865⟩
            have hF862 : Fr fm_m8068_739 M0 M859 := hF845.tr hQ861 rfl
            obtain ⟨v866, e867⟩ : ∃ v, M859 739 45 = v := ⟨_, rfl⟩
            have h868 := (bf_739_45 hP860).1; rw [e867] at h868
            have h869 := (bf_739_45 hP860).2; rw [e867] at h869
            subst hQ; exact wk_ret r68_226 (⟨rfl, hP860, hF862, by have := ((hQ861.at g_739_30 rfl).trans ((hQ844.at g_739_30 rfl).trans e681)); have := ((hQ861.at g_739_31 rfl).trans ((hQ844.at g_739_31 rfl).trans e644)); omega, by have := ((hQ861.at g_739_31 rfl).trans ((hQ844.at g_739_31 rfl).trans e644)); have := ((hQ861.at g_739_33 rfl).trans ((hQ844.at g_739_33 rfl).trans e648)); have := ((hQ861.at g_739_34 rfl).trans ((hQ844.at g_739_34 rfl).trans e652)); omega, by have := ((hQ861.at g_739_31 rfl).trans ((hQ844.at g_739_31 rfl).trans e644)); have := ((hQ861.at g_739_33 rfl).trans ((hQ844.at g_739_33 rfl).trans e648)); have := ((hQ861.at g_739_34 rfl).trans ((hQ844.at g_739_34 rfl).trans e652)); omega, by have := ((hQ861.at g_739_34 rfl).trans ((hQ844.at g_739_34 rfl).trans e652)); have := ((hQ861.at g_739_32 rfl).trans ((hQ844.at g_739_32 rfl).trans e656)); omega, by have := ((hQ861.at g_739_33 rfl).trans ((hQ844.at g_739_33 rfl).trans e648)); omega, by have := ((hQ861.at g_739_28 rfl).trans ((hQ844.at g_739_28 rfl).trans e660)); omega, by have := ((hQ861.at g_739_33 rfl).trans ((hQ844.at g_739_33 rfl).trans e648)); have := e867; have := ((hQ861.at g_739_28 rfl).trans ((hQ844.at g_739_28 rfl).trans e660)); omega, by have := e867; omega, by have := ((hQ861.at g_739_29 rfl).trans ((hQ844.at g_739_29 rfl).trans e680)); omega, by have := ((hQ861.at g_739_29 rfl).trans ((hQ844.at g_739_29 rfl).trans e680)); have := ((hQ861.at g_739_28 rfl).trans ((hQ844.at g_739_28 rfl).trans e660)); omega, by have := ((hQ861.at g_739_29 rfl).trans ((hQ844.at g_739_29 rfl).trans e680)); have := ((hQ861.at g_739_28 rfl).trans ((hQ844.at g_739_28 rfl).trans e660)); omega, ES_put xh865 pr850 (by omega), Or.inr ⟨by omega, by rw [((hQ861.at g_739_33 rfl).trans ((hQ844.at g_739_33 rfl).trans e648)), ((hQ861.at g_739_28 rfl).trans ((hQ844.at g_739_28 rfl).trans e660)), ((hQ861.at g_739_29 rfl).trans ((hQ844.at g_739_29 rfl).trans e680))]; exact ex_end ti700 (Or.inl ⟨by omega, by omega, by omega⟩)⟩, (TK_sm (Sm.fr hQ861 rfl) (TK_sm (Sm.fr hQ844 rfl) pr683)), (TXQ_sm (Sm.fr hQ861 rfl) (TXQ_sm (Sm.fr hQ844 rfl) pr685)), (TTP_sm (Sm.fr hQ861 rfl) (TTP_sm (Sm.fr hQ844 rfl) pr686))⟩)
          · intro h870
            exfalso
            omega
        · intro h871
          refine wk_al0 r68_44 (wk_cv1 r68_45 kc_739_97 rfl (m8097_739 _ M638 v653 v649 x739_30 v645 T hP639 e656 (by first | with_reducible assumption | omega) (by first | with_reducible assumption | omega) e652 (by first | with_reducible assumption | omega) (by first | with_reducible assumption | omega) e681 (by first | with_reducible assumption | omega) (by first | with_reducible assumption | omega) e648 (by first | with_reducible assumption | omega) (by first | with_reducible assumption | omega) pr683 pr686) (cqI ?_))
          rintro v878 M872 ⟨hP873, hQ874, h879, h880, h876, xh877⟩
          obtain rfl := Fr.same hQ874
          have e881 := e652
          refine wk_is2 r68_48 rfl (wk_il2 r68_49 (wk_c2 r68_50 ?_))
          refine wk_iceq r68_52 ⟨by omega, by omega⟩ (by decide) ?_ ?_
          · intro h882
            refine wk_al0 r68_61 (wk_il2 r68_62 (wk_c2 r68_63 ?_))
            refine wk_icne r68_65 ⟨by omega, by omega⟩ (by decide) ?_ ?_
            · intro h883
              exfalso
              omega
            · intro h884
              refine wk_c1 r68_68 (wk_goto r68_69 (wk_cv2 r68_73 kc_739_63 rfl (m8063_739 _ M638 2 v665 v669 v661 x739_45 ((fun k => M0 757 k)) hP639 (by decide) (by decide) e668 (by first | with_reducible assumption | omega) (by first | with_reducible assumption | omega) e672 (by first | with_reducible assumption | omega) (by first | with_reducible assumption | omega) e664 (by first | with_reducible assumption | omega) (by first | with_reducible assumption | omega) (by omega) pr684) (cqV ?_)))
              rintro M885 ⟨hP886, hQ887, h889, h890, h891, xh892, pr893⟩
              have hF888 : Fr fm_m8068_739 M0 M885 := hF640.tr hQ887 rfl
              obtain ⟨v894, e895⟩ : ∃ v, M885 739 45 = v := ⟨_, rfl⟩
              have h896 := (bf_739_45 hP886).1; rw [e895] at h896
              have h897 := (bf_739_45 hP886).2; rw [e895] at h897
              obtain ⟨v898, e899⟩ : ∃ v, M885 739 46 = v := ⟨_, rfl⟩
              have h900 := (bf_739_46 hP886).1; rw [e899] at h900
              have h901 := (bf_739_46 hP886).2; rw [e899] at h901
              refine wk_al0 r68_76 (wk_il2 r68_77 (wk_c2 r68_78 ?_))
              refine wk_icne r68_80 ⟨by omega, by omega⟩ (by decide) ?_ ?_
              · intro h902
                exfalso
                omega
              · intro h903
                refine wk_c2 r68_83 (wk_goto r68_85 (wk_c1 r68_90 (wk_cv3 r68_91 kc_739_133 rfl (m8133_739 _ M885 11 0 v898 hP886 (by decide) (by decide) (by decide) (by decide) e899 (by first | with_reducible assumption | omega) (by first | with_reducible assumption | omega)) (cqV ?_))))
                rintro M904 ⟨hP905, hQ906, h908, h909, xh910⟩
                have hF907 : Fr fm_m8068_739 M0 M904 := hF888.tr hQ906 rfl
                obtain ⟨v911, e912⟩ : ∃ v, M904 739 46 = v := ⟨_, rfl⟩
                have h913 := (bf_739_46 hP905).1; rw [e912] at h913
                have h914 := (bf_739_46 hP905).2; rw [e912] at h914
                have pr915 : GE M904 x739_45 (fun k => M0 757 k) 0 0 := GE_bin xh910 pr893 (by omega)
                refine wk_al0 r68_94 (wk_cv1 r68_95 kc_739_76 rfl (m8076_739 _ M904 x739_30 v641 T hP905 ((hQ906.at g_739_30 rfl).trans ((hQ887.at g_739_30 rfl).trans e681)) (by first | with_reducible assumption | omega) (by first | with_reducible assumption | omega) ((hQ906.at g_739_31 rfl).trans ((hQ887.at g_739_31 rfl).trans e644)) (by first | with_reducible assumption | omega) (by first | with_reducible assumption | omega) (by omega) (TXQ_sm (Sm.fr hQ906 rfl) (TXQ_sm (Sm.fr hQ887 rfl) pr685))) (cqV ?_))
                rintro M916 ⟨hP917, hQ918, h920, h921, h922, h923, h924, xh925, pr926, pr927, pr928⟩
                have hF919 : Fr fm_m8068_739 M0 M916 := hF907.tr hQ918 rfl
                have e929 := ((hQ918.at g_739_30 rfl).trans ((hQ906.at g_739_30 rfl).trans ((hQ887.at g_739_30 rfl).trans e681)))
                obtain ⟨v930, e931⟩ : ∃ v, M916 739 31 = v := ⟨_, rfl⟩
                have h932 := (bf_739_31 hP917).1; rw [e931] at h932
                have h933 := (bf_739_31 hP917).2; rw [e931] at h933
                obtain ⟨v934, e935⟩ : ∃ v, M916 739 33 = v := ⟨_, rfl⟩
                have h936 := (bf_739_33 hP917).1; rw [e935] at h936
                have h937 := (bf_739_33 hP917).2; rw [e935] at h937
                obtain ⟨v938, e939⟩ : ∃ v, M916 739 34 = v := ⟨_, rfl⟩
                have h940 := (bf_739_34 hP917).1; rw [e939] at h940
                have h941 := (bf_739_34 hP917).2; rw [e939] at h941
                obtain ⟨v942, e943⟩ : ∃ v, M916 739 32 = v := ⟨_, rfl⟩
                have h944 := (bf_739_32 hP917).1; rw [e943] at h944
                have h945 := (bf_739_32 hP917).2; rw [e943] at h945
                have hn946 := nx_ofm (TTP_sm (Sm.fr hQ906 rfl) (TTP_sm (Sm.fr hQ887 rfl) pr686)) ((hQ906.at g_739_30 rfl).trans ((hQ887.at g_739_30 rfl).trans e681)) ((hQ906.at g_739_33 rfl).trans ((hQ887.at g_739_33 rfl).trans e648)) ((hQ906.at g_739_31 rfl).trans ((hQ887.at g_739_31 rfl).trans e644)) xh925
                refine wk_al0 r68_98 ?_
                obtain ⟨v947, e948⟩ : ∃ v, M916 739 36 = v := ⟨_, rfl⟩
                have h949 := (bf_739_36 hP917).1; rw [e948] at h949
                have h950 := (bf_739_36 hP917).2; rw [e948] at h950
                obtain ⟨v951, e952⟩ : ∃ v, M916 739 35 = v := ⟨_, rfl⟩
                have h953 := (bf_739_35 hP917).1; rw [e952] at h953
                have h954 := (bf_739_35 hP917).2; rw [e952] at h954
                refine wk_cv1 r68_99 kc_739_116 rfl (m8116_739 _ M916 x739_30 v930 v934 v938 v942 v657 v894 v911 v661 x739_38 v947 v673 v951 v677 x739_45 ((fun k => M0 757 k)) T (((0 : Int), (0 : Int), x739_33, (0 : Int))) hP917 ((hQ918.at g_739_30 rfl).trans ((hQ906.at g_739_30 rfl).trans ((hQ887.at g_739_30 rfl).trans e681))) (by first | with_reducible assumption | omega) (by first | with_reducible assumption | omega) e931 (by first | with_reducible assumption | omega) (by first | with_reducible assumption | omega) e935 (by first | with_reducible assumption | omega) (by first | with_reducible assumption | omega) e939 (by first | with_reducible assumption | omega) (by first | with_reducible assumption | omega) e943 (by first | with_reducible assumption | omega) (by first | with_reducible assumption | omega) ((hQ918.at g_739_28 rfl).trans ((hQ906.at g_739_28 rfl).trans ((hQ887.at g_739_28 rfl).trans e660))) (by first | with_reducible assumption | omega) (by first | with_reducible assumption | omega) ((hQ918.at g_739_45 rfl).trans ((hQ906.at g_739_45 rfl).trans e895)) (by first | with_reducible assumption | omega) (by first | with_reducible assumption | omega) ((hQ918.at g_739_46 rfl).trans e912) (by first | with_reducible assumption | omega) (by first | with_reducible assumption | omega) ((hQ918.at g_739_47 rfl).trans ((hQ906.at g_739_47 rfl).trans ((hQ887.at g_739_47 rfl).trans e664))) (by first | with_reducible assumption | omega) (by first | with_reducible assumption | omega) ((hQ918.at g_739_38 rfl).trans ((hQ906.at g_739_38 rfl).trans ((hQ887.at g_739_38 rfl).trans e682))) (by first | with_reducible assumption | omega) (by first | with_reducible assumption | omega) e948 (by first | with_reducible assumption | omega) (by first | with_reducible assumption | omega) ((hQ918.at g_739_51 rfl).trans ((hQ906.at g_739_51 rfl).trans ((hQ887.at g_739_51 rfl).trans e676))) (by first | with_reducible assumption | omega) (by first | with_reducible assumption | omega) e952 (by first | with_reducible assumption | omega) (by first | with_reducible assumption | omega) ((hQ918.at g_739_29 rfl).trans ((hQ906.at g_739_29 rfl).trans ((hQ887.at g_739_29 rfl).trans e680))) (by first | with_reducible assumption | omega) (by first | with_reducible assumption | omega) (by omega) (by omega) (by omega) (by omega) (by omega) (by omega) (by omega) (by omega) (e98 ti700 (by omega) (by omega) (by omega) (by omega)) pr926 (GE_sm (Sm.fr hQ918 rfl) pr915) pr927 pr928) (cqV ?_)
                rintro M955 ⟨hP956, hQ957, h959, h960, h961, h962, h963, h964, h965, h966, h967, h968, h969, h970, h971, xh972, pr973, pr974, pr975, pr976⟩
                have hF958 : Fr fm_m8068_739 M0 M955 := hF919.tr hQ957 rfl
                have e977 := ((hQ957.at g_739_30 rfl).trans ((hQ918.at g_739_30 rfl).trans ((hQ906.at g_739_30 rfl).trans ((hQ887.at g_739_30 rfl).trans e681))))
                obtain ⟨v978, e979⟩ : ∃ v, M955 739 31 = v := ⟨_, rfl⟩
                have h980 := (bf_739_31 hP956).1; rw [e979] at h980
                have h981 := (bf_739_31 hP956).2; rw [e979] at h981
                obtain ⟨v982, e983⟩ : ∃ v, M955 739 33 = v := ⟨_, rfl⟩
                have h984 := (bf_739_33 hP956).1; rw [e983] at h984
                have h985 := (bf_739_33 hP956).2; rw [e983] at h985
                obtain ⟨v986, e987⟩ : ∃ v, M955 739 34 = v := ⟨_, rfl⟩
                have h988 := (bf_739_34 hP956).1; rw [e987] at h988
                have h989 := (bf_739_34 hP956).2; rw [e987] at h989
                obtain ⟨v990, e991⟩ : ∃ v, M955 739 32 = v := ⟨_, rfl⟩
                have h992 := (bf_739_32 hP956).1; rw [e991] at h992
                have h993 := (bf_739_32 hP956).2; rw [e991] at h993
                obtain ⟨v994, e995⟩ : ∃ v, M955 739 28 = v := ⟨_, rfl⟩
                have h996 := (bf_739_28 hP956).1; rw [e995] at h996
                have h997 := (bf_739_28 hP956).2; rw [e995] at h997
                obtain ⟨v998, e999⟩ : ∃ v, M955 739 47 = v := ⟨_, rfl⟩
                have h1000 := (bf_739_47 hP956).1; rw [e999] at h1000
                have h1001 := (bf_739_47 hP956).2; rw [e999] at h1001
                obtain ⟨v1002, e1003⟩ : ∃ v, M955 739 45 = v := ⟨_, rfl⟩
                have h1004 := (bf_739_45 hP956).1; rw [e1003] at h1004
                have h1005 := (bf_739_45 hP956).2; rw [e1003] at h1005
                obtain ⟨v1006, e1007⟩ : ∃ v, M955 739 46 = v := ⟨_, rfl⟩
                have h1008 := (bf_739_46 hP956).1; rw [e1007] at h1008
                have h1009 := (bf_739_46 hP956).2; rw [e1007] at h1009
                obtain ⟨v1010, e1011⟩ : ∃ v, M955 739 51 = v := ⟨_, rfl⟩
                have h1012 := (bf_739_51 hP956).1; rw [e1011] at h1012
                have h1013 := (bf_739_51 hP956).2; rw [e1011] at h1013
                obtain ⟨v1014, e1015⟩ : ∃ v, M955 739 29 = v := ⟨_, rfl⟩
                have h1016 := (bf_739_29 hP956).1; rw [e1015] at h1016
                have h1017 := (bf_739_29 hP956).2; rw [e1015] at h1017
                refine wk_goto r68_102 (wk_goto r68_191 ?_)
                exact wp_fg (le_s (le_s (le_n le_0))) (ih1286 (10 * (501 - v982) + v635).toNat (by omega) M955 v635 v978 v982 v986 v990 v994 v998 v1002 v1006 v1010 v1014 rfl hP956 hF958 e979 e983 e987 e991 e995 e999 e1003 e1007 e1011 e1015 ((hQ957.at g_739_30 rfl).trans ((hQ918.at g_739_30 rfl).trans ((hQ906.at g_739_30 rfl).trans ((hQ887.at g_739_30 rfl).trans e681)))) ((hQ957.at g_739_38 rfl).trans ((hQ918.at g_739_38 rfl).trans ((hQ906.at g_739_38 rfl).trans ((hQ887.at g_739_38 rfl).trans e682)))) (by first | with_reducible assumption | omega) (by first | with_reducible assumption | omega) (by first | with_reducible assumption | omega) (by first | with_reducible assumption | omega) (by first | with_reducible assumption | omega) (by first | with_reducible assumption | omega) (by first | with_reducible assumption | omega) (by first | with_reducible assumption | omega) (by first | with_reducible assumption | omega) (by first | with_reducible assumption | omega) (by first | with_reducible assumption | omega) (by first | with_reducible assumption | omega) (by first | with_reducible assumption | omega) (by first | with_reducible assumption | omega) (by first | with_reducible assumption | omega) (by first | with_reducible assumption | omega) (by first | with_reducible assumption | omega) (by first | with_reducible assumption | omega) (by first | with_reducible assumption | omega) (by first | with_reducible assumption | omega) (by first | with_reducible assumption | omega) (by first | with_reducible assumption | omega) pr973 pr974 pr975 pr976 (by first | with_reducible assumption | omega) (by first | with_reducible assumption | omega) (by first | with_reducible assumption | omega) (by first | with_reducible assumption | omega) (by first | with_reducible assumption | omega) (by first | with_reducible assumption | omega) (by first | with_reducible assumption | omega) (by first | with_reducible assumption | omega) (by first | with_reducible assumption | omega) (by first | with_reducible assumption | omega) (by first | with_reducible assumption | omega) (by first | with_reducible assumption | omega) (by first | with_reducible assumption | omega) (EXI_a (RG_c xh972 (by omega) (by omega) rfl (by omega) (by omega)) (by omega)))
          · intro h1018
            refine wk_il2 r68_55 (wk_c2 r68_56 ?_)
            refine wk_icne r68_58 ⟨by omega, by omega⟩ (by decide) ?_ ?_
            · intro h1019
              refine wk_al0 r68_105 (wk_c2 r68_106 ?_)
              obtain ⟨v1020, e1021⟩ : ∃ v, M638 739 36 = v := ⟨_, rfl⟩
              have h1022 := (bf_739_36 hP639).1; rw [e1021] at h1022
              have h1023 := (bf_739_36 hP639).2; rw [e1021] at h1023
              refine wk_cv2 r68_108 kc_739_88 rfl (m8088_739 _ M638 41 v653 v1020 x739_30 v645 T hP639 (by decide) (by decide) e656 (by first | with_reducible assumption | omega) (by first | with_reducible assumption | omega) e1021 (by first | with_reducible assumption | omega) (by first | with_reducible assumption | omega) e681 (by first | with_reducible assumption | omega) (by first | with_reducible assumption | omega) e648 (by first | with_reducible assumption | omega) (by first | with_reducible assumption | omega) pr686) (cqI ?_)
              rintro v1032 M1024 ⟨hP1025, hQ1026, h1033, h1034, h1028, h1029, h1030, xh1031⟩
              obtain rfl := Fr.same hQ1026
              have e1035 := e656
              have e1036 := e1021
              refine wk_ifeq r68_111 ⟨by omega, by omega⟩ ?_ ?_
              · intro h1037
                clear h1028 h1029 h1030
                refine wk_c1 r68_189 (wk_is1 r68_190 rfl (wk_goto r68_191 ?_))
                exact wp_fg (le_s (le_s (le_n le_0))) (ih1286 (10 * (501 - v645) + 0).toNat (by omega) M638 0 v641 v645 v649 v653 v657 v661 v665 v669 v673 v677 rfl hP639 hF640 e644 e648 e652 e656 e660 e664 e668 e672 e676 e680 e681 e682 (by first | with_reducible assumption | omega) (by first | with_reducible assumption | omega) (by first | with_reducible assumption | omega) (by first | with_reducible assumption | omega) (by first | with_reducible assumption | omega) (by first | with_reducible assumption | omega) (by first | with_reducible assumption | omega) (by first | with_reducible assumption | omega) (by first | with_reducible assumption | omega) (by first | with_reducible assumption | omega) (by first | with_reducible assumption | omega) (by first | with_reducible assumption | omega) (by first | with_reducible assumption | omega) (by first | with_reducible assumption | omega) (by first | with_reducible assumption | omega) (by first | with_reducible assumption | omega) (by first | with_reducible assumption | omega) (by first | with_reducible assumption | omega) (by first | with_reducible assumption | omega) (by first | with_reducible assumption | omega) (by first | with_reducible assumption | omega) (by first | with_reducible assumption | omega) pr683 pr684 pr685 pr686 (by first | with_reducible assumption | omega) (by first | with_reducible assumption | omega) (by first | with_reducible assumption | omega) (by first | with_reducible assumption | omega) (by first | with_reducible assumption | omega) (by first | with_reducible assumption | omega) (by first | with_reducible assumption | omega) (by first | with_reducible assumption | omega) (by first | with_reducible assumption | omega) (by first | with_reducible assumption | omega) (by first | with_reducible assumption | omega) (by first | with_reducible assumption | omega) (by first | with_reducible assumption | omega) (EXI_z ti700 (by omega)))
              · intro h1038
                replace h1028 := h1028 (z1_of h1033 h1034 h1038)
                replace h1029 := h1029 (z1_of h1033 h1034 h1038)
                replace h1030 := h1030 (z1_of h1033 h1034 h1038)
                refine wk_al0 r68_114 (wk_getfi r68_115 fd_739_47 e664 (wk_c1 r68_118 ?_))
                refine wk_icle r68_119 ⟨by omega, by omega⟩ (by decide) ?_ ?_
                · intro h1039
                  refine wk_c1 r68_189 (wk_is1 r68_190 rfl (wk_goto r68_191 ?_))
                  exact wp_fg (le_s (le_s (le_n le_0))) (ih1286 (10 * (501 - v645) + 0).toNat (by omega) M638 0 v641 v645 v649 v653 v657 v661 v665 v669 v673 v677 rfl hP639 hF640 e644 e648 e652 e656 e660 e664 e668 e672 e676 e680 e681 e682 (by first | with_reducible assumption | omega) (by first | with_reducible assumption | omega) (by first | with_reducible assumption | omega) (by first | with_reducible assumption | omega) (by first | with_reducible assumption | omega) (by first | with_reducible assumption | omega) (by first | with_reducible assumption | omega) (by first | with_reducible assumption | omega) (by first | with_reducible assumption | omega) (by first | with_reducible assumption | omega) (by first | with_reducible assumption | omega) (by first | with_reducible assumption | omega) (by first | with_reducible assumption | omega) (by first | with_reducible assumption | omega) (by first | with_reducible assumption | omega) (by first | with_reducible assumption | omega) (by first | with_reducible assumption | omega) (by first | with_reducible assumption | omega) (by first | with_reducible assumption | omega) (by first | with_reducible assumption | omega) (by first | with_reducible assumption | omega) (by first | with_reducible assumption | omega) pr683 pr684 pr685 pr686 (by first | with_reducible assumption | omega) (by first | with_reducible assumption | omega) (by first | with_reducible assumption | omega) (by first | with_reducible assumption | omega) (by first | with_reducible assumption | omega) (by first | with_reducible assumption | omega) (by first | with_reducible assumption | omega) (by first | with_reducible assumption | omega) (by first | with_reducible assumption | omega) (by first | with_reducible assumption | omega) (by first | with_reducible assumption | omega) (by first | with_reducible assumption | omega) (by first | with_reducible assumption | omega) (EXI_z ti700 (by omega)))
                · intro h1040
                  refine wk_al0 r68_122 (wk_c1 r68_123 (wk_cv2 r68_124 kc_739_63 rfl (m8063_739 _ M638 1 v665 v669 v661 x739_45 ((fun k => M0 757 k)) hP639 (by decide) (by decide) e668 (by first | with_reducible assumption | omega) (by first | with_reducible assumption | omega) e672 (by first | with_reducible assumption | omega) (by first | with_reducible assumption | omega) e664 (by first | with_reducible assumption | omega) (by first | with_reducible assumption | omega) (by omega) pr684) (cqV ?_)))
                  rintro M1041 ⟨hP1042, hQ1043, h1045, h1046, h1047, xh1048, pr1049⟩
                  have hF1044 : Fr fm_m8068_739 M0 M1041 := hF640.tr hQ1043 rfl
                  obtain ⟨v1050, e1051⟩ : ∃ v, M1041 739 45 = v := ⟨_, rfl⟩
                  have h1052 := (bf_739_45 hP1042).1; rw [e1051] at h1052
                  have h1053 := (bf_739_45 hP1042).2; rw [e1051] at h1053
                  obtain ⟨v1054, e1055⟩ : ∃ v, M1041 739 46 = v := ⟨_, rfl⟩
                  have h1056 := (bf_739_46 hP1042).1; rw [e1055] at h1056
                  have h1057 := (bf_739_46 hP1042).2; rw [e1055] at h1057
                  have h1058 : 1 ≤ v1054 := by have q := GE_open pr1049 ((hQ1043.at g_739_28 rfl).trans e660) (by omega) ((hQ1043.at g_739_47 rfl).trans e664) (by omega); have := e1055; omega
                  have dE : GE M1041 x739_45 (fun k => M0 757 k) 1 0 := pr1049
                  have dW : M1041 739 46 = v1054 := e1055
                  have dD : M1041 739 47 = v661 := ((hQ1043.at g_739_47 rfl).trans e664)
                  have dL := xh1048 rfl
                  refine wk_al0 r68_127 (wk_dupr r68_128 (wk_getfi r68_129 fd_739_46 e1055 (wk_c1 r68_132 (wk_isub r68_133 (wk_putfi81 r68_134 fd_739_46 (wk_nw g_739_46 rfl hP1042 hF1044 (uf_739_46 ⟨by omega, by omega⟩) ?_))))))
                  intro M1059 hP1060 hF1061 e1062
                  refine wk_al0 r68_137 (wk_dupr r68_138 (wk_getfi r68_139 fd_739_47 (mUp_no e1062 ((hQ1043.at g_739_47 rfl).trans e664) (Or.inr (by decide))) (wk_c1 r68_142 (wk_isub r68_143 (wk_putfi81 r68_144 fd_739_47 (wk_nw g_739_47 rfl hP1060 hF1061 (uf_739_47 ⟨by omega, by omega⟩) ?_))))))
                  intro M1063 hP1064 hF1065 e1066
                  have pr1067 : GE M1063 x739_45 (fun k => M0 757 k) 1 0 := GE_close dE dW (by omega) dD dL e1062 e1066
                  refine wk_al0 r68_147 (wk_getfr r68_148 fd_739_50 (br_739_50 hP1064) (wk_al0 r68_151 (wk_getfi r68_152 fd_739_46 (mUp_no e1066 (mUp_at e1062) (Or.inr (by decide))) (wk_ialdb r68_155 ar_758 ⟨by omega, by omega⟩ (fun q0 q1 => ba_758 hP1064 q0 q1) ?_))))
                  intro v1068 h1070 h1071 e1069
                  have h1072 := cl_val dL dW (by omega) e1062 e1066 e1069
                  refine wk_c2 r68_156 ?_
                  refine wk_icle r68_158 ⟨by omega, by omega⟩ (by decide) ?_ ?_
                  · intro h1073
                    refine wk_al0 r68_182 (wk_cv1 r68_183 kc_739_76 rfl (m8076_739 _ M1063 x739_30 v641 T hP1064 (mUp_no e1066 (mUp_no e1062 ((hQ1043.at g_739_30 rfl).trans e681) (Or.inr (by decide))) (Or.inr (by decide))) (by first | with_reducible assumption | omega) (by first | with_reducible assumption | omega) (mUp_no e1066 (mUp_no e1062 ((hQ1043.at g_739_31 rfl).trans e644) (Or.inr (by decide))) (Or.inr (by decide))) (by first | with_reducible assumption | omega) (by first | with_reducible assumption | omega) (by omega) (TXQ_sm (Sm.up e1066 g_739_47 rfl) (TXQ_sm (Sm.up e1062 g_739_46 rfl) (TXQ_sm (Sm.fr hQ1043 rfl) pr685)))) (cqV ?_))
                    rintro M1074 ⟨hP1075, hQ1076, h1078, h1079, h1080, h1081, h1082, xh1083, pr1084, pr1085, pr1086⟩
                    have hF1077 : Fr fm_m8068_739 M0 M1074 := hF1065.tr hQ1076 rfl
                    have e1087 := ((hQ1076.at g_739_30 rfl).trans (mUp_no e1066 (mUp_no e1062 ((hQ1043.at g_739_30 rfl).trans e681) (Or.inr (by decide))) (Or.inr (by decide))))
                    obtain ⟨v1088, e1089⟩ : ∃ v, M1074 739 31 = v := ⟨_, rfl⟩
                    have h1090 := (bf_739_31 hP1075).1; rw [e1089] at h1090
                    have h1091 := (bf_739_31 hP1075).2; rw [e1089] at h1091
                    obtain ⟨v1092, e1093⟩ : ∃ v, M1074 739 33 = v := ⟨_, rfl⟩
                    have h1094 := (bf_739_33 hP1075).1; rw [e1093] at h1094
                    have h1095 := (bf_739_33 hP1075).2; rw [e1093] at h1095
                    obtain ⟨v1096, e1097⟩ : ∃ v, M1074 739 34 = v := ⟨_, rfl⟩
                    have h1098 := (bf_739_34 hP1075).1; rw [e1097] at h1098
                    have h1099 := (bf_739_34 hP1075).2; rw [e1097] at h1099
                    obtain ⟨v1100, e1101⟩ : ∃ v, M1074 739 32 = v := ⟨_, rfl⟩
                    have h1102 := (bf_739_32 hP1075).1; rw [e1101] at h1102
                    have h1103 := (bf_739_32 hP1075).2; rw [e1101] at h1103
                    have hn1104 := nx_ofm (TTP_sm (Sm.up e1066 g_739_47 rfl) (TTP_sm (Sm.up e1062 g_739_46 rfl) (TTP_sm (Sm.fr hQ1043 rfl) pr686))) (mUp_no e1066 (mUp_no e1062 ((hQ1043.at g_739_30 rfl).trans e681) (Or.inr (by decide))) (Or.inr (by decide))) (mUp_no e1066 (mUp_no e1062 ((hQ1043.at g_739_33 rfl).trans e648) (Or.inr (by decide))) (Or.inr (by decide))) (mUp_no e1066 (mUp_no e1062 ((hQ1043.at g_739_31 rfl).trans e644) (Or.inr (by decide))) (Or.inr (by decide))) xh1083
                    refine wk_goto r68_186 (wk_goto r68_191 ?_)
                    exact wp_fg (le_s (le_s (le_n le_0))) (ih1286 (10 * (501 - v1092) + v635).toNat (by omega) M1074 v635 v1088 v1092 v1096 v1100 v657 (v661 - 1) v1050 (v1054 - 1) v673 v677 rfl hP1075 hF1077 e1089 e1093 e1097 e1101 ((hQ1076.at g_739_28 rfl).trans (mUp_no e1066 (mUp_no e1062 ((hQ1043.at g_739_28 rfl).trans e660) (Or.inr (by decide))) (Or.inr (by decide)))) ((hQ1076.at g_739_47 rfl).trans (mUp_at e1066)) ((hQ1076.at g_739_45 rfl).trans (mUp_no e1066 (mUp_no e1062 e1051 (Or.inr (by decide))) (Or.inr (by decide)))) ((hQ1076.at g_739_46 rfl).trans (mUp_no e1066 (mUp_at e1062) (Or.inr (by decide)))) ((hQ1076.at g_739_51 rfl).trans (mUp_no e1066 (mUp_no e1062 ((hQ1043.at g_739_51 rfl).trans e676) (Or.inr (by decide))) (Or.inr (by decide)))) ((hQ1076.at g_739_29 rfl).trans (mUp_no e1066 (mUp_no e1062 ((hQ1043.at g_739_29 rfl).trans e680) (Or.inr (by decide))) (Or.inr (by decide)))) ((hQ1076.at g_739_30 rfl).trans (mUp_no e1066 (mUp_no e1062 ((hQ1043.at g_739_30 rfl).trans e681) (Or.inr (by decide))) (Or.inr (by decide)))) ((hQ1076.at g_739_38 rfl).trans (mUp_no e1066 (mUp_no e1062 ((hQ1043.at g_739_38 rfl).trans e682) (Or.inr (by decide))) (Or.inr (by decide)))) (by first | with_reducible assumption | omega) (by first | with_reducible assumption | omega) (by first | with_reducible assumption | omega) (by first | with_reducible assumption | omega) (by first | with_reducible assumption | omega) (by first | with_reducible assumption | omega) (by first | with_reducible assumption | omega) (by first | with_reducible assumption | omega) (by first | with_reducible assumption | omega) (by first | with_reducible assumption | omega) (by first | with_reducible assumption | omega) (by first | with_reducible assumption | omega) (by first | with_reducible assumption | omega) (by first | with_reducible assumption | omega) (by first | with_reducible assumption | omega) (by first | with_reducible assumption | omega) (by first | with_reducible assumption | omega) (by first | with_reducible assumption | omega) (by first | with_reducible assumption | omega) (by first | with_reducible assumption | omega) (by first | with_reducible assumption | omega) (by first | with_reducible assumption | omega) pr1084 (GE_sm (Sm.fr hQ1076 rfl) pr1067) pr1085 pr1086 (by first | with_reducible assumption | omega) (by first | with_reducible assumption | omega) (by first | with_reducible assumption | omega) (by first | with_reducible assumption | omega) (by first | with_reducible assumption | omega) (by first | with_reducible assumption | omega) (by first | with_reducible assumption | omega) (by first | with_reducible assumption | omega) (by first | with_reducible assumption | omega) (by first | with_reducible assumption | omega) (by first | with_reducible assumption | omega) (by first | with_reducible assumption | omega) (by first | with_reducible assumption | omega) (EXI_a (e182 ti700 (by omega) (by omega) (by omega) (by omega) (by omega) (by omega)) (by omega)))
                  · intro h1105
                    refine wk_al0 r68_161 (wk_c2 r68_162 (wk_al0 r68_164 (wk_getfr r68_165 fd_739_50 (br_739_50 hP1064) (wk_al0 r68_168 (wk_getfi r68_169 fd_739_46 (mUp_no e1066 (mUp_at e1062) (Or.inr (by decide))) (wk_iald r68_172 ar_758 ⟨by omega, by omega⟩ e1069 (wk_c2 r68_173 (wk_idiv r68_175 ⟨by omega, by omega⟩ (by decide) (wk_c1 r68_176 (wk_isub r68_177 (wk_c1 r68_178 (wk_cv4 r68_179 kc_739_117 rfl (m8117_739 _ M1063 13 ((v1068 / 16) - 1) 0 v1050 hP1064 (by decide) (by decide) (by first | with_reducible assumption | omega) (by first | with_reducible assumption | omega) (by decide) (by decide) (mUp_no e1066 (mUp_no e1062 e1051 (Or.inr (by decide))) (Or.inr (by decide))) (by first | with_reducible assumption | omega) (by first | with_reducible assumption | omega)) (cqV ?_)))))))))))))
                    rintro M1107 ⟨hP1108, hQ1109, h1111, h1112, xh1113⟩
                    have hF1110 : Fr fm_m8068_739 M0 M1107 := hF1065.tr hQ1109 rfl
                    obtain ⟨v1114, e1115⟩ : ∃ v, M1107 739 45 = v := ⟨_, rfl⟩
                    have h1116 := (bf_739_45 hP1108).1; rw [e1115] at h1116
                    have h1117 := (bf_739_45 hP1108).2; rw [e1115] at h1117
                    have pr1118 : GE M1107 x739_45 (fun k => M0 757 k) 1 0 := GE_says xh1113 pr1067 ⟨by omega, by unfold refok; omega, by omega⟩
                    refine wk_al0 r68_182 (wk_cv1 r68_183 kc_739_76 rfl (m8076_739 _ M1107 x739_30 v641 T hP1108 ((hQ1109.at g_739_30 rfl).trans (mUp_no e1066 (mUp_no e1062 ((hQ1043.at g_739_30 rfl).trans e681) (Or.inr (by decide))) (Or.inr (by decide)))) (by first | with_reducible assumption | omega) (by first | with_reducible assumption | omega) ((hQ1109.at g_739_31 rfl).trans (mUp_no e1066 (mUp_no e1062 ((hQ1043.at g_739_31 rfl).trans e644) (Or.inr (by decide))) (Or.inr (by decide)))) (by first | with_reducible assumption | omega) (by first | with_reducible assumption | omega) (by omega) (TXQ_sm (Sm.fr hQ1109 rfl) (TXQ_sm (Sm.up e1066 g_739_47 rfl) (TXQ_sm (Sm.up e1062 g_739_46 rfl) (TXQ_sm (Sm.fr hQ1043 rfl) pr685))))) (cqV ?_))
                    rintro M1119 ⟨hP1120, hQ1121, h1123, h1124, h1125, h1126, h1127, xh1128, pr1129, pr1130, pr1131⟩
                    have hF1122 : Fr fm_m8068_739 M0 M1119 := hF1110.tr hQ1121 rfl
                    have e1132 := ((hQ1121.at g_739_30 rfl).trans ((hQ1109.at g_739_30 rfl).trans (mUp_no e1066 (mUp_no e1062 ((hQ1043.at g_739_30 rfl).trans e681) (Or.inr (by decide))) (Or.inr (by decide)))))
                    obtain ⟨v1133, e1134⟩ : ∃ v, M1119 739 31 = v := ⟨_, rfl⟩
                    have h1135 := (bf_739_31 hP1120).1; rw [e1134] at h1135
                    have h1136 := (bf_739_31 hP1120).2; rw [e1134] at h1136
                    obtain ⟨v1137, e1138⟩ : ∃ v, M1119 739 33 = v := ⟨_, rfl⟩
                    have h1139 := (bf_739_33 hP1120).1; rw [e1138] at h1139
                    have h1140 := (bf_739_33 hP1120).2; rw [e1138] at h1140
                    obtain ⟨v1141, e1142⟩ : ∃ v, M1119 739 34 = v := ⟨_, rfl⟩
                    have h1143 := (bf_739_34 hP1120).1; rw [e1142] at h1143
                    have h1144 := (bf_739_34 hP1120).2; rw [e1142] at h1144
                    obtain ⟨v1145, e1146⟩ : ∃ v, M1119 739 32 = v := ⟨_, rfl⟩
                    have h1147 := (bf_739_32 hP1120).1; rw [e1146] at h1147
                    have h1148 := (bf_739_32 hP1120).2; rw [e1146] at h1148
                    have hn1149 := nx_ofm (TTP_sm (Sm.fr hQ1109 rfl) (TTP_sm (Sm.up e1066 g_739_47 rfl) (TTP_sm (Sm.up e1062 g_739_46 rfl) (TTP_sm (Sm.fr hQ1043 rfl) pr686)))) ((hQ1109.at g_739_30 rfl).trans (mUp_no e1066 (mUp_no e1062 ((hQ1043.at g_739_30 rfl).trans e681) (Or.inr (by decide))) (Or.inr (by decide)))) ((hQ1109.at g_739_33 rfl).trans (mUp_no e1066 (mUp_no e1062 ((hQ1043.at g_739_33 rfl).trans e648) (Or.inr (by decide))) (Or.inr (by decide)))) ((hQ1109.at g_739_31 rfl).trans (mUp_no e1066 (mUp_no e1062 ((hQ1043.at g_739_31 rfl).trans e644) (Or.inr (by decide))) (Or.inr (by decide)))) xh1128
                    refine wk_goto r68_186 (wk_goto r68_191 ?_)
                    exact wp_fg (le_s (le_s (le_n le_0))) (ih1286 (10 * (501 - v1137) + v635).toNat (by omega) M1119 v635 v1133 v1137 v1141 v1145 v657 (v661 - 1) v1114 (v1054 - 1) v673 v677 rfl hP1120 hF1122 e1134 e1138 e1142 e1146 ((hQ1121.at g_739_28 rfl).trans ((hQ1109.at g_739_28 rfl).trans (mUp_no e1066 (mUp_no e1062 ((hQ1043.at g_739_28 rfl).trans e660) (Or.inr (by decide))) (Or.inr (by decide))))) ((hQ1121.at g_739_47 rfl).trans ((hQ1109.at g_739_47 rfl).trans (mUp_at e1066))) ((hQ1121.at g_739_45 rfl).trans e1115) ((hQ1121.at g_739_46 rfl).trans ((hQ1109.at g_739_46 rfl).trans (mUp_no e1066 (mUp_at e1062) (Or.inr (by decide))))) ((hQ1121.at g_739_51 rfl).trans ((hQ1109.at g_739_51 rfl).trans (mUp_no e1066 (mUp_no e1062 ((hQ1043.at g_739_51 rfl).trans e676) (Or.inr (by decide))) (Or.inr (by decide))))) ((hQ1121.at g_739_29 rfl).trans ((hQ1109.at g_739_29 rfl).trans (mUp_no e1066 (mUp_no e1062 ((hQ1043.at g_739_29 rfl).trans e680) (Or.inr (by decide))) (Or.inr (by decide))))) ((hQ1121.at g_739_30 rfl).trans ((hQ1109.at g_739_30 rfl).trans (mUp_no e1066 (mUp_no e1062 ((hQ1043.at g_739_30 rfl).trans e681) (Or.inr (by decide))) (Or.inr (by decide))))) ((hQ1121.at g_739_38 rfl).trans ((hQ1109.at g_739_38 rfl).trans (mUp_no e1066 (mUp_no e1062 ((hQ1043.at g_739_38 rfl).trans e682) (Or.inr (by decide))) (Or.inr (by decide))))) (by first | with_reducible assumption | omega) (by first | with_reducible assumption | omega) (by first | with_reducible assumption | omega) (by first | with_reducible assumption | omega) (by first | with_reducible assumption | omega) (by first | with_reducible assumption | omega) (by first | with_reducible assumption | omega) (by first | with_reducible assumption | omega) (by first | with_reducible assumption | omega) (by first | with_reducible assumption | omega) (by first | with_reducible assumption | omega) (by first | with_reducible assumption | omega) (by first | with_reducible assumption | omega) (by first | with_reducible assumption | omega) (by first | with_reducible assumption | omega) (by first | with_reducible assumption | omega) (by first | with_reducible assumption | omega) (by first | with_reducible assumption | omega) (by first | with_reducible assumption | omega) (by first | with_reducible assumption | omega) (by first | with_reducible assumption | omega) (by first | with_reducible assumption | omega) pr1129 (GE_sm (Sm.fr hQ1121 rfl) pr1118) pr1130 pr1131 (by first | with_reducible assumption | omega) (by first | with_reducible assumption | omega) (by first | with_reducible assumption | omega) (by first | with_reducible assumption | omega) (by first | with_reducible assumption | omega) (by first | with_reducible assumption | omega) (by first | with_reducible assumption | omega) (by first | with_reducible assumption | omega) (by first | with_reducible assumption | omega) (by first | with_reducible assumption | omega) (by first | with_reducible assumption | omega) (by first | with_reducible assumption | omega) (by first | with_reducible assumption | omega) (EXI_a (e182 ti700 (by omega) (by omega) (by omega) (by omega) (by omega) (by omega)) (by omega)))
            · intro h1150
              refine wk_al0 r68_61 (wk_il2 r68_62 (wk_c2 r68_63 ?_))
              refine wk_icne r68_65 ⟨by omega, by omega⟩ (by decide) ?_ ?_
              · intro h1151
                refine wk_c1 r68_72 (wk_cv2 r68_73 kc_739_63 rfl (m8063_739 _ M638 1 v665 v669 v661 x739_45 ((fun k => M0 757 k)) hP639 (by decide) (by decide) e668 (by first | with_reducible assumption | omega) (by first | with_reducible assumption | omega) e672 (by first | with_reducible assumption | omega) (by first | with_reducible assumption | omega) e664 (by first | with_reducible assumption | omega) (by first | with_reducible assumption | omega) (by omega) pr684) (cqV ?_))
                rintro M1152 ⟨hP1153, hQ1154, h1156, h1157, h1158, xh1159, pr1160⟩
                have hF1155 : Fr fm_m8068_739 M0 M1152 := hF640.tr hQ1154 rfl
                obtain ⟨v1161, e1162⟩ : ∃ v, M1152 739 45 = v := ⟨_, rfl⟩
                have h1163 := (bf_739_45 hP1153).1; rw [e1162] at h1163
                have h1164 := (bf_739_45 hP1153).2; rw [e1162] at h1164
                obtain ⟨v1165, e1166⟩ : ∃ v, M1152 739 46 = v := ⟨_, rfl⟩
                have h1167 := (bf_739_46 hP1153).1; rw [e1166] at h1167
                have h1168 := (bf_739_46 hP1153).2; rw [e1166] at h1168
                refine wk_al0 r68_76 (wk_il2 r68_77 (wk_c2 r68_78 ?_))
                refine wk_icne r68_80 ⟨by omega, by omega⟩ (by decide) ?_ ?_
                · intro h1169
                  refine wk_c2 r68_88 (wk_c1 r68_90 (wk_cv3 r68_91 kc_739_133 rfl (m8133_739 _ M1152 12 0 v1165 hP1153 (by decide) (by decide) (by decide) (by decide) e1166 (by first | with_reducible assumption | omega) (by first | with_reducible assumption | omega)) (cqV ?_)))
                  rintro M1170 ⟨hP1171, hQ1172, h1174, h1175, xh1176⟩
                  have hF1173 : Fr fm_m8068_739 M0 M1170 := hF1155.tr hQ1172 rfl
                  obtain ⟨v1177, e1178⟩ : ∃ v, M1170 739 46 = v := ⟨_, rfl⟩
                  have h1179 := (bf_739_46 hP1171).1; rw [e1178] at h1179
                  have h1180 := (bf_739_46 hP1171).2; rw [e1178] at h1180
                  have pr1181 : GE M1170 x739_45 (fun k => M0 757 k) 0 0 := GE_bin xh1176 pr1160 (by omega)
                  refine wk_al0 r68_94 (wk_cv1 r68_95 kc_739_76 rfl (m8076_739 _ M1170 x739_30 v641 T hP1171 ((hQ1172.at g_739_30 rfl).trans ((hQ1154.at g_739_30 rfl).trans e681)) (by first | with_reducible assumption | omega) (by first | with_reducible assumption | omega) ((hQ1172.at g_739_31 rfl).trans ((hQ1154.at g_739_31 rfl).trans e644)) (by first | with_reducible assumption | omega) (by first | with_reducible assumption | omega) (by omega) (TXQ_sm (Sm.fr hQ1172 rfl) (TXQ_sm (Sm.fr hQ1154 rfl) pr685))) (cqV ?_))
                  rintro M1182 ⟨hP1183, hQ1184, h1186, h1187, h1188, h1189, h1190, xh1191, pr1192, pr1193, pr1194⟩
                  have hF1185 : Fr fm_m8068_739 M0 M1182 := hF1173.tr hQ1184 rfl
                  have e1195 := ((hQ1184.at g_739_30 rfl).trans ((hQ1172.at g_739_30 rfl).trans ((hQ1154.at g_739_30 rfl).trans e681)))
                  obtain ⟨v1196, e1197⟩ : ∃ v, M1182 739 31 = v := ⟨_, rfl⟩
                  have h1198 := (bf_739_31 hP1183).1; rw [e1197] at h1198
                  have h1199 := (bf_739_31 hP1183).2; rw [e1197] at h1199
                  obtain ⟨v1200, e1201⟩ : ∃ v, M1182 739 33 = v := ⟨_, rfl⟩
                  have h1202 := (bf_739_33 hP1183).1; rw [e1201] at h1202
                  have h1203 := (bf_739_33 hP1183).2; rw [e1201] at h1203
                  obtain ⟨v1204, e1205⟩ : ∃ v, M1182 739 34 = v := ⟨_, rfl⟩
                  have h1206 := (bf_739_34 hP1183).1; rw [e1205] at h1206
                  have h1207 := (bf_739_34 hP1183).2; rw [e1205] at h1207
                  obtain ⟨v1208, e1209⟩ : ∃ v, M1182 739 32 = v := ⟨_, rfl⟩
                  have h1210 := (bf_739_32 hP1183).1; rw [e1209] at h1210
                  have h1211 := (bf_739_32 hP1183).2; rw [e1209] at h1211
                  have hn1212 := nx_ofm (TTP_sm (Sm.fr hQ1172 rfl) (TTP_sm (Sm.fr hQ1154 rfl) pr686)) ((hQ1172.at g_739_30 rfl).trans ((hQ1154.at g_739_30 rfl).trans e681)) ((hQ1172.at g_739_33 rfl).trans ((hQ1154.at g_739_33 rfl).trans e648)) ((hQ1172.at g_739_31 rfl).trans ((hQ1154.at g_739_31 rfl).trans e644)) xh1191
                  refine wk_al0 r68_98 ?_
                  obtain ⟨v1213, e1214⟩ : ∃ v, M1182 739 36 = v := ⟨_, rfl⟩
                  have h1215 := (bf_739_36 hP1183).1; rw [e1214] at h1215
                  have h1216 := (bf_739_36 hP1183).2; rw [e1214] at h1216
                  obtain ⟨v1217, e1218⟩ : ∃ v, M1182 739 35 = v := ⟨_, rfl⟩
                  have h1219 := (bf_739_35 hP1183).1; rw [e1218] at h1219
                  have h1220 := (bf_739_35 hP1183).2; rw [e1218] at h1220
                  refine wk_cv1 r68_99 kc_739_116 rfl (m8116_739 _ M1182 x739_30 v1196 v1200 v1204 v1208 v657 v1161 v1177 v661 x739_38 v1213 v673 v1217 v677 x739_45 ((fun k => M0 757 k)) T (((0 : Int), (0 : Int), x739_33, (0 : Int))) hP1183 ((hQ1184.at g_739_30 rfl).trans ((hQ1172.at g_739_30 rfl).trans ((hQ1154.at g_739_30 rfl).trans e681))) (by first | with_reducible assumption | omega) (by first | with_reducible assumption | omega) e1197 (by first | with_reducible assumption | omega) (by first | with_reducible assumption | omega) e1201 (by first | with_reducible assumption | omega) (by first | with_reducible assumption | omega) e1205 (by first | with_reducible assumption | omega) (by first | with_reducible assumption | omega) e1209 (by first | with_reducible assumption | omega) (by first | with_reducible assumption | omega) ((hQ1184.at g_739_28 rfl).trans ((hQ1172.at g_739_28 rfl).trans ((hQ1154.at g_739_28 rfl).trans e660))) (by first | with_reducible assumption | omega) (by first | with_reducible assumption | omega) ((hQ1184.at g_739_45 rfl).trans ((hQ1172.at g_739_45 rfl).trans e1162)) (by first | with_reducible assumption | omega) (by first | with_reducible assumption | omega) ((hQ1184.at g_739_46 rfl).trans e1178) (by first | with_reducible assumption | omega) (by first | with_reducible assumption | omega) ((hQ1184.at g_739_47 rfl).trans ((hQ1172.at g_739_47 rfl).trans ((hQ1154.at g_739_47 rfl).trans e664))) (by first | with_reducible assumption | omega) (by first | with_reducible assumption | omega) ((hQ1184.at g_739_38 rfl).trans ((hQ1172.at g_739_38 rfl).trans ((hQ1154.at g_739_38 rfl).trans e682))) (by first | with_reducible assumption | omega) (by first | with_reducible assumption | omega) e1214 (by first | with_reducible assumption | omega) (by first | with_reducible assumption | omega) ((hQ1184.at g_739_51 rfl).trans ((hQ1172.at g_739_51 rfl).trans ((hQ1154.at g_739_51 rfl).trans e676))) (by first | with_reducible assumption | omega) (by first | with_reducible assumption | omega) e1218 (by first | with_reducible assumption | omega) (by first | with_reducible assumption | omega) ((hQ1184.at g_739_29 rfl).trans ((hQ1172.at g_739_29 rfl).trans ((hQ1154.at g_739_29 rfl).trans e680))) (by first | with_reducible assumption | omega) (by first | with_reducible assumption | omega) (by omega) (by omega) (by omega) (by omega) (by omega) (by omega) (by omega) (by omega) (e98 ti700 (by omega) (by omega) (by omega) (by omega)) pr1192 (GE_sm (Sm.fr hQ1184 rfl) pr1181) pr1193 pr1194) (cqV ?_)
                  rintro M1221 ⟨hP1222, hQ1223, h1225, h1226, h1227, h1228, h1229, h1230, h1231, h1232, h1233, h1234, h1235, h1236, h1237, xh1238, pr1239, pr1240, pr1241, pr1242⟩
                  have hF1224 : Fr fm_m8068_739 M0 M1221 := hF1185.tr hQ1223 rfl
                  have e1243 := ((hQ1223.at g_739_30 rfl).trans ((hQ1184.at g_739_30 rfl).trans ((hQ1172.at g_739_30 rfl).trans ((hQ1154.at g_739_30 rfl).trans e681))))
                  obtain ⟨v1244, e1245⟩ : ∃ v, M1221 739 31 = v := ⟨_, rfl⟩
                  have h1246 := (bf_739_31 hP1222).1; rw [e1245] at h1246
                  have h1247 := (bf_739_31 hP1222).2; rw [e1245] at h1247
                  obtain ⟨v1248, e1249⟩ : ∃ v, M1221 739 33 = v := ⟨_, rfl⟩
                  have h1250 := (bf_739_33 hP1222).1; rw [e1249] at h1250
                  have h1251 := (bf_739_33 hP1222).2; rw [e1249] at h1251
                  obtain ⟨v1252, e1253⟩ : ∃ v, M1221 739 34 = v := ⟨_, rfl⟩
                  have h1254 := (bf_739_34 hP1222).1; rw [e1253] at h1254
                  have h1255 := (bf_739_34 hP1222).2; rw [e1253] at h1255
                  obtain ⟨v1256, e1257⟩ : ∃ v, M1221 739 32 = v := ⟨_, rfl⟩
                  have h1258 := (bf_739_32 hP1222).1; rw [e1257] at h1258
                  have h1259 := (bf_739_32 hP1222).2; rw [e1257] at h1259
                  obtain ⟨v1260, e1261⟩ : ∃ v, M1221 739 28 = v := ⟨_, rfl⟩
                  have h1262 := (bf_739_28 hP1222).1; rw [e1261] at h1262
                  have h1263 := (bf_739_28 hP1222).2; rw [e1261] at h1263
                  obtain ⟨v1264, e1265⟩ : ∃ v, M1221 739 47 = v := ⟨_, rfl⟩
                  have h1266 := (bf_739_47 hP1222).1; rw [e1265] at h1266
                  have h1267 := (bf_739_47 hP1222).2; rw [e1265] at h1267
                  obtain ⟨v1268, e1269⟩ : ∃ v, M1221 739 45 = v := ⟨_, rfl⟩
                  have h1270 := (bf_739_45 hP1222).1; rw [e1269] at h1270
                  have h1271 := (bf_739_45 hP1222).2; rw [e1269] at h1271
                  obtain ⟨v1272, e1273⟩ : ∃ v, M1221 739 46 = v := ⟨_, rfl⟩
                  have h1274 := (bf_739_46 hP1222).1; rw [e1273] at h1274
                  have h1275 := (bf_739_46 hP1222).2; rw [e1273] at h1275
                  obtain ⟨v1276, e1277⟩ : ∃ v, M1221 739 51 = v := ⟨_, rfl⟩
                  have h1278 := (bf_739_51 hP1222).1; rw [e1277] at h1278
                  have h1279 := (bf_739_51 hP1222).2; rw [e1277] at h1279
                  obtain ⟨v1280, e1281⟩ : ∃ v, M1221 739 29 = v := ⟨_, rfl⟩
                  have h1282 := (bf_739_29 hP1222).1; rw [e1281] at h1282
                  have h1283 := (bf_739_29 hP1222).2; rw [e1281] at h1283
                  refine wk_goto r68_102 (wk_goto r68_191 ?_)
                  exact wp_fg (le_s (le_s (le_n le_0))) (ih1286 (10 * (501 - v1248) + v635).toNat (by omega) M1221 v635 v1244 v1248 v1252 v1256 v1260 v1264 v1268 v1272 v1276 v1280 rfl hP1222 hF1224 e1245 e1249 e1253 e1257 e1261 e1265 e1269 e1273 e1277 e1281 ((hQ1223.at g_739_30 rfl).trans ((hQ1184.at g_739_30 rfl).trans ((hQ1172.at g_739_30 rfl).trans ((hQ1154.at g_739_30 rfl).trans e681)))) ((hQ1223.at g_739_38 rfl).trans ((hQ1184.at g_739_38 rfl).trans ((hQ1172.at g_739_38 rfl).trans ((hQ1154.at g_739_38 rfl).trans e682)))) (by first | with_reducible assumption | omega) (by first | with_reducible assumption | omega) (by first | with_reducible assumption | omega) (by first | with_reducible assumption | omega) (by first | with_reducible assumption | omega) (by first | with_reducible assumption | omega) (by first | with_reducible assumption | omega) (by first | with_reducible assumption | omega) (by first | with_reducible assumption | omega) (by first | with_reducible assumption | omega) (by first | with_reducible assumption | omega) (by first | with_reducible assumption | omega) (by first | with_reducible assumption | omega) (by first | with_reducible assumption | omega) (by first | with_reducible assumption | omega) (by first | with_reducible assumption | omega) (by first | with_reducible assumption | omega) (by first | with_reducible assumption | omega) (by first | with_reducible assumption | omega) (by first | with_reducible assumption | omega) (by first | with_reducible assumption | omega) (by first | with_reducible assumption | omega) pr1239 pr1240 pr1241 pr1242 (by first | with_reducible assumption | omega) (by first | with_reducible assumption | omega) (by first | with_reducible assumption | omega) (by first | with_reducible assumption | omega) (by first | with_reducible assumption | omega) (by first | with_reducible assumption | omega) (by first | with_reducible assumption | omega) (by first | with_reducible assumption | omega) (by first | with_reducible assumption | omega) (by first | with_reducible assumption | omega) (by first | with_reducible assumption | omega) (by first | with_reducible assumption | omega) (by first | with_reducible assumption | omega) (EXI_a (RG_c xh1238 (by omega) (by omega) rfl (by omega) (by omega)) (by omega)))
                · intro h1284
                  exfalso
                  omega
              · intro h1285
                exfalso
                omega
    exact wp_fg (le_s (le_s (le_s le_0))) (c33_1286 _ M68 1 v91 v95 v99 v103 v107 v111 v115 v119 v123 v127 rfl hP69 hF71 e92 e96 e100 e104 e108 e112 e116 e120 e124 e128 ((hQ70.at g_739_30 rfl).trans ((hQ27.at g_739_30 rfl).trans (mUp_no e23 (mUp_no e19 (mUp_no e15 ex739_30 (Or.inr (by decide))) (Or.inr (by decide))) (Or.inr (by decide))))) ((hQ70.at g_739_38 rfl).trans ((hQ27.at g_739_38 rfl).trans (mUp_no e23 (mUp_no e19 (mUp_no e15 ex739_38 (Or.inr (by decide))) (Or.inr (by decide))) (Or.inr (by decide))))) (by first | with_reducible assumption | omega) (by first | with_reducible assumption | omega) (by first | with_reducible assumption | omega) (by first | with_reducible assumption | omega) (by first | with_reducible assumption | omega) (by first | with_reducible assumption | omega) (by first | with_reducible assumption | omega) (by first | with_reducible assumption | omega) (by first | with_reducible assumption | omega) (by first | with_reducible assumption | omega) (by first | with_reducible assumption | omega) (by first | with_reducible assumption | omega) (by first | with_reducible assumption | omega) (by first | with_reducible assumption | omega) (by first | with_reducible assumption | omega) (by first | with_reducible assumption | omega) (by first | with_reducible assumption | omega) (by first | with_reducible assumption | omega) (by first | with_reducible assumption | omega) (by first | with_reducible assumption | omega) (by first | with_reducible assumption | omega) (by first | with_reducible assumption | omega) pr86 pr87 pr88 pr89 (by first | with_reducible assumption | omega) (by first | with_reducible assumption | omega) (by first | with_reducible assumption | omega) (by first | with_reducible assumption | omega) (by first | with_reducible assumption | omega) (by first | with_reducible assumption | omega) (by first | with_reducible assumption | omega) (by first | with_reducible assumption | omega) (by first | with_reducible assumption | omega) (by first | with_reducible assumption | omega) (by first | with_reducible assumption | omega) (by first | with_reducible assumption | omega) (by first | with_reducible assumption | omega) (EXI_a (RG_c xh85 (by omega) (by omega) rfl (by omega) (by omega)) (by omega)))
  · intro h1287
    subst hQ; exact wk_ret r68_7 (⟨rfl, hP0, hF0, by have := ex739_30; have := ex739_31; omega, by have := ex739_31; have := ex739_33; have := ex739_34; omega, by have := ex739_31; have := ex739_33; have := ex739_34; omega, by have := ex739_34; have := ex739_32; omega, by have := ex739_33; omega, by have := ex739_28; omega, by have := ex739_33; have := ex739_45; have := ex739_28; omega, by have := ex739_45; omega, by have := ex739_29; omega, by have := ex739_29; have := ex739_28; omega, by have := ex739_29; have := ex739_28; omega, fun q => absurd q (by have := ex739_28; omega), Or.inl ⟨by omega, ex739_28.trans (by omega), ex739_29.trans (by omega)⟩, pp_TK, pp_TQ, pp_TT⟩)
