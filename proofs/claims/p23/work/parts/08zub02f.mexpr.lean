set_option maxHeartbeats 20000000 in
/-- IslandHallModel.expression -/
theorem n8068_739 {B : eB} (d : Nat) (M0 : Mm) (x739_30 : Int) (x739_31 : Int) (x739_33 : Int) (x739_34 : Int) (x739_32 : Int) (x739_28 : Int) (x739_45 : Int) (x739_46 : Int) (x739_47 : Int) (x739_38 : Int) (x739_36 : Int) (x739_51 : Int) (x739_35 : Int) (x739_29 : Int) (T : Int → Int) (hP0 : Pw M0) (ex739_30 : M0 739 30 = x739_30) (lx739_30 : 0 ≤ x739_30) (ux739_30 : x739_30 ≤ 500) (ex739_31 : M0 739 31 = x739_31) (lx739_31 : 0 ≤ x739_31) (ux739_31 : x739_31 ≤ 500) (ex739_33 : M0 739 33 = x739_33) (lx739_33 : 0 ≤ x739_33) (ux739_33 : x739_33 ≤ 500) (ex739_34 : M0 739 34 = x739_34) (lx739_34 : 0 ≤ x739_34) (ux739_34 : x739_34 ≤ 500) (ex739_32 : M0 739 32 = x739_32) (lx739_32 : 0 ≤ x739_32) (ux739_32 : x739_32 ≤ 4) (ex739_28 : M0 739 28 = x739_28) (lx739_28 : 0 ≤ x739_28) (ux739_28 : x739_28 ≤ 6) (ex739_45 : M0 739 45 = x739_45) (lx739_45 : 0 ≤ x739_45) (ux739_45 : x739_45 ≤ 1000) (ex739_46 : M0 739 46 = x739_46) (lx739_46 : 0 ≤ x739_46) (ux739_46 : x739_46 ≤ 520) (ex739_47 : M0 739 47 = x739_47) (lx739_47 : 0 ≤ x739_47) (ux739_47 : x739_47 ≤ 500) (ex739_38 : M0 739 38 = x739_38) (lx739_38 : 0 ≤ x739_38) (ux739_38 : x739_38 ≤ 999) (ex739_36 : M0 739 36 = x739_36) (lx739_36 : 0 ≤ x739_36) (ux739_36 : x739_36 ≤ 255) (ex739_51 : M0 739 51 = x739_51) (lx739_51 : 0 ≤ x739_51) (ux739_51 : x739_51 ≤ 1) (ex739_35 : M0 739 35 = x739_35) (lx739_35 : 0 ≤ x739_35) (ux739_35 : x739_35 ≤ 999) (ex739_29 : M0 739 29 = x739_29) (lx739_29 : (-1) ≤ x739_29) (ux739_29 : x739_29 ≤ 501) (rp0 : 0 ≤ x739_30 + (-1) * x739_31) (rp1 : 0 ≤ x739_31 + (-1) * x739_33 + (-1) * x739_34) (rp2 : 0 ≤ (-1) * x739_31 + x739_33 + x739_34) (rp3 : 0 ≤ 4 * x739_34 + (-1) * x739_32) (rp4 : 0 ≤ x739_33 + (-2) * x739_45 + 3000 * x739_28) (rp5 : 0 ≤ (-1) * x739_38 + 7 + 3000 * x739_28) (rp6 : 0 ≤ (-1) * x739_45 + 260) (pp_TK : TK M0) (pp_TQ : TXQ T M0) (pp_TT : TTP T M0) : Ct B (d + 7) 68 [R 739] M0 (qV fun M => Pw M ∧ Fr fm_n8068_739 M0 M ∧ 0 ≤ M 739 30 + (-1) * (M 739 31) ∧ 0 ≤ M 739 31 + (-1) * (M 739 33) + (-1) * (M 739 34) ∧ 0 ≤ (-1) * (M 739 31) + M 739 33 + M 739 34 ∧ 0 ≤ 4 * (M 739 34) + (-1) * (M 739 32) ∧ 0 ≤ M 739 33 + (-1) * x739_33 ∧ 0 ≤ M 739 28 + (-1) * x739_28 ∧ 0 ≤ M 739 33 + (-2) * (M 739 45) + 3000 * (M 739 28) + 3 ∧ 0 ≤ (-1) * (M 739 45) + 262 ∧ 0 ≤ M 739 29 + 1 ∧ 0 ≤ M 739 29 + (-1) * x739_29 + 7000 * (M 739 28) ∧ 0 ≤ (-1) * (M 739 29) + x739_29 + 7000 * (M 739 28) ∧ (ESP M0 M x739_45) ∧ ((x739_28 ≠ 0 ∧ M 739 28 = x739_28 ∧ M 739 29 = x739_29) ∨ (x739_28 = 0 ∧ RGX T x739_30 x739_38 ((0 : Int), (0 : Int), x739_33, (0 : Int)) ((OW M0).1, ([] : List Int)) 4 0 (M 739 33) 0 (M 739 28) (M 739 29) (OW M))) ∧ (TK M) ∧ (TXQ T M) ∧ (TTP T M)) := by
  refine ct_of (d := d + 6) (k := 2) (L := [some (R 739), none, none]) rfl rfl rfl ?_
  have hF0 := Fr.rf fm_n8068_739 M0
  generalize hQ : (qV fun M => Pw M ∧ Fr fm_n8068_739 M0 M ∧ 0 ≤ M 739 30 + (-1) * (M 739 31) ∧ 0 ≤ M 739 31 + (-1) * (M 739 33) + (-1) * (M 739 34) ∧ 0 ≤ (-1) * (M 739 31) + M 739 33 + M 739 34 ∧ 0 ≤ 4 * (M 739 34) + (-1) * (M 739 32) ∧ 0 ≤ M 739 33 + (-1) * x739_33 ∧ 0 ≤ M 739 28 + (-1) * x739_28 ∧ 0 ≤ M 739 33 + (-2) * (M 739 45) + 3000 * (M 739 28) + 3 ∧ 0 ≤ (-1) * (M 739 45) + 262 ∧ 0 ≤ M 739 29 + 1 ∧ 0 ≤ M 739 29 + (-1) * x739_29 + 7000 * (M 739 28) ∧ 0 ≤ (-1) * (M 739 29) + x739_29 + 7000 * (M 739 28) ∧ (ESP M0 M x739_45) ∧ ((x739_28 ≠ 0 ∧ M 739 28 = x739_28 ∧ M 739 29 = x739_29) ∨ (x739_28 = 0 ∧ RGX T x739_30 x739_38 ((0 : Int), (0 : Int), x739_33, (0 : Int)) ((OW M0).1, ([] : List Int)) 4 0 (M 739 33) 0 (M 739 28) (M 739 29) (OW M))) ∧ (TK M) ∧ (TXQ T M) ∧ (TTP T M)) = Q
  refine wk_al0 r68_0 (wk_cv1 r68_1 kc_739_84 rfl (n8084_739 _ M0 x739_28 hP0 ex739_28 (by first | with_reducible assumption | omega) (by first | with_reducible assumption | omega)) (cqI ?_))
  rintro v7 M1 ⟨hP2, hQ3, h8, h9, h5, h6⟩
  obtain rfl := Fr.same hQ3
  have e10 := ex739_28
  refine wk_ifne r68_4 ⟨by omega, by omega⟩ ?_ ?_
  · intro h11
    refine wk_al0 r68_8 (wk_c1 r68_9 (wk_putfi81 r68_10 fd_739_46 (wk_nw g_739_46 rfl hP0 hF0 (uf_739_46 (by decide)) ?_)))
    intro M12 hP13 hF14 e15
    refine wk_al0 r68_13 (wk_c1 r68_14 (wk_putfi81 r68_15 fd_739_47 (wk_nw g_739_47 rfl hP13 hF14 (uf_739_47 (by decide)) ?_)))
    intro M16 hP17 hF18 e19
    refine wk_al0 r68_18 (wk_c1 r68_19 (wk_putfz81 r68_20 fd_739_51 (by decide) (wk_nw g_739_51 rfl hP17 hF18 (uf_739_51 (by decide)) ?_)))
    intro M20 hP21 hF22 e23
    have pr24 : GE M20 x739_45 (fun k => M0 757 k) 0 1 := GE_init (mUp_no e23 (mUp_no e19 (mUp_no e15 ex739_45 (Or.inr (by decide))) (Or.inr (by decide))) (Or.inr (by decide))) (by omega) (mUp_no e23 (mUp_no e19 (mUp_at e15) (Or.inr (by decide))) (Or.inr (by decide))) (mUp_no e23 (mUp_at e19) (Or.inr (by decide))) (fun k => by rw [e23, mUp_ne (Or.inl (by decide)), e19, mUp_ne (Or.inl (by decide)), e15, mUp_ne (Or.inl (by decide))])
    have pr25 : OWe M20 ((OW M0).1, ([] : List Int)) := OWe_0 ((mUp_no e23 (mUp_no e19 (mUp_no e15 ex739_45 (Or.inr (by decide))) (Or.inr (by decide))) (Or.inr (by decide))).trans ex739_45.symm) (mUp_no e23 (mUp_no e19 (mUp_at e15) (Or.inr (by decide))) (Or.inr (by decide))) (fun k => by rw [e23, mUp_ne (Or.inl (by decide)), e19, mUp_ne (Or.inl (by decide)), e15, mUp_ne (Or.inl (by decide))])
    refine wk_al0 r68_23 (wk_cv1 r68_24 kc_739_62 rfl (n8062_739 _ M20 x739_30 x739_31 x739_33 x739_34 x739_32 x739_28 x739_45 0 0 x739_29 x739_38 x739_45 ((fun k => M0 757 k)) T (((0 : Int), (0 : Int), x739_33, (0 : Int))) (((OW M0).1, ([] : List Int))) hP21 (mUp_no e23 (mUp_no e19 (mUp_no e15 ex739_30 (Or.inr (by decide))) (Or.inr (by decide))) (Or.inr (by decide))) (by first | with_reducible assumption | omega) (by first | with_reducible assumption | omega) (mUp_no e23 (mUp_no e19 (mUp_no e15 ex739_31 (Or.inr (by decide))) (Or.inr (by decide))) (Or.inr (by decide))) (by first | with_reducible assumption | omega) (by first | with_reducible assumption | omega) (mUp_no e23 (mUp_no e19 (mUp_no e15 ex739_33 (Or.inr (by decide))) (Or.inr (by decide))) (Or.inr (by decide))) (by first | with_reducible assumption | omega) (by first | with_reducible assumption | omega) (mUp_no e23 (mUp_no e19 (mUp_no e15 ex739_34 (Or.inr (by decide))) (Or.inr (by decide))) (Or.inr (by decide))) (by first | with_reducible assumption | omega) (by first | with_reducible assumption | omega) (mUp_no e23 (mUp_no e19 (mUp_no e15 ex739_32 (Or.inr (by decide))) (Or.inr (by decide))) (Or.inr (by decide))) (by first | with_reducible assumption | omega) (by first | with_reducible assumption | omega) (mUp_no e23 (mUp_no e19 (mUp_no e15 ex739_28 (Or.inr (by decide))) (Or.inr (by decide))) (Or.inr (by decide))) (by first | with_reducible assumption | omega) (by first | with_reducible assumption | omega) (mUp_no e23 (mUp_no e19 (mUp_no e15 ex739_45 (Or.inr (by decide))) (Or.inr (by decide))) (Or.inr (by decide))) (by first | with_reducible assumption | omega) (by first | with_reducible assumption | omega) (mUp_no e23 (mUp_no e19 (mUp_at e15) (Or.inr (by decide))) (Or.inr (by decide))) (by first | with_reducible assumption | omega) (by first | with_reducible assumption | omega) (mUp_no e23 (mUp_at e19) (Or.inr (by decide))) (by first | with_reducible assumption | omega) (by first | with_reducible assumption | omega) (mUp_no e23 (mUp_no e19 (mUp_no e15 ex739_29 (Or.inr (by decide))) (Or.inr (by decide))) (Or.inr (by decide))) (by first | with_reducible assumption | omega) (by first | with_reducible assumption | omega) (mUp_no e23 (mUp_no e19 (mUp_no e15 ex739_38 (Or.inr (by decide))) (Or.inr (by decide))) (Or.inr (by decide))) (by first | with_reducible assumption | omega) (by first | with_reducible assumption | omega) (by omega) (by omega) (by omega) (by omega) (by omega) (by omega) (RGX_c (RGX_mg (RQ.rf _) (by omega)) rfl rfl rfl rfl rfl pr25) (TK_sm (Sm.up e23 g_739_51 rfl) (TK_sm (Sm.up e19 g_739_47 rfl) (TK_sm (Sm.up e15 g_739_46 rfl) pp_TK))) pr24 (TXQ_sm (Sm.up e23 g_739_51 rfl) (TXQ_sm (Sm.up e19 g_739_47 rfl) (TXQ_sm (Sm.up e15 g_739_46 rfl) pp_TQ))) (TTP_sm (Sm.up e23 g_739_51 rfl) (TTP_sm (Sm.up e19 g_739_47 rfl) (TTP_sm (Sm.up e15 g_739_46 rfl) pp_TT)))) (cqV ?_))
    rintro M26 ⟨hP27, hQ28, h30, h31, h32, h33, h34, h35, h36, h37, h38, h39, h40, h41, h42, h43, h44, xh45, pr46, pr47, pr48, pr49⟩
    have hF29 : Fr fm_n8068_739 M0 M26 := hF22.tr hQ28 rfl
    have e50 := ((hQ28.at g_739_30 rfl).trans (mUp_no e23 (mUp_no e19 (mUp_no e15 ex739_30 (Or.inr (by decide))) (Or.inr (by decide))) (Or.inr (by decide))))
    have e51 := ((hQ28.at g_739_31 rfl).trans (mUp_no e23 (mUp_no e19 (mUp_no e15 ex739_31 (Or.inr (by decide))) (Or.inr (by decide))) (Or.inr (by decide))))
    have e52 := ((hQ28.at g_739_33 rfl).trans (mUp_no e23 (mUp_no e19 (mUp_no e15 ex739_33 (Or.inr (by decide))) (Or.inr (by decide))) (Or.inr (by decide))))
    have e53 := ((hQ28.at g_739_34 rfl).trans (mUp_no e23 (mUp_no e19 (mUp_no e15 ex739_34 (Or.inr (by decide))) (Or.inr (by decide))) (Or.inr (by decide))))
    have e54 := ((hQ28.at g_739_32 rfl).trans (mUp_no e23 (mUp_no e19 (mUp_no e15 ex739_32 (Or.inr (by decide))) (Or.inr (by decide))) (Or.inr (by decide))))
    obtain ⟨v55, e56⟩ : ∃ v, M26 739 28 = v := ⟨_, rfl⟩
    have h57 := (bf_739_28 hP27).1; rw [e56] at h57
    have h58 := (bf_739_28 hP27).2; rw [e56] at h58
    have e59 := ((hQ28.at g_739_45 rfl).trans (mUp_no e23 (mUp_no e19 (mUp_no e15 ex739_45 (Or.inr (by decide))) (Or.inr (by decide))) (Or.inr (by decide))))
    have e60 := ((hQ28.at g_739_46 rfl).trans (mUp_no e23 (mUp_no e19 (mUp_at e15) (Or.inr (by decide))) (Or.inr (by decide))))
    obtain ⟨v61, e62⟩ : ∃ v, M26 739 47 = v := ⟨_, rfl⟩
    have h63 := (bf_739_47 hP27).1; rw [e62] at h63
    have h64 := (bf_739_47 hP27).2; rw [e62] at h64
    obtain ⟨v65, e66⟩ : ∃ v, M26 739 29 = v := ⟨_, rfl⟩
    have h67 := (bf_739_29 hP27).1; rw [e66] at h67
    have h68 := (bf_739_29 hP27).2; rw [e66] at h68
    refine wk_al0 r68_27 (wk_cv1 r68_28 kc_739_116 rfl (n8116_739 _ M26 x739_30 x739_31 x739_33 x739_34 x739_32 v55 x739_45 0 v61 x739_38 x739_36 0 x739_35 v65 x739_45 ((fun k => M0 757 k)) T (((0 : Int), (0 : Int), x739_33, (0 : Int))) (((OW M0).1, ([] : List Int))) hP27 ((hQ28.at g_739_30 rfl).trans (mUp_no e23 (mUp_no e19 (mUp_no e15 ex739_30 (Or.inr (by decide))) (Or.inr (by decide))) (Or.inr (by decide)))) (by first | with_reducible assumption | omega) (by first | with_reducible assumption | omega) ((hQ28.at g_739_31 rfl).trans (mUp_no e23 (mUp_no e19 (mUp_no e15 ex739_31 (Or.inr (by decide))) (Or.inr (by decide))) (Or.inr (by decide)))) (by first | with_reducible assumption | omega) (by first | with_reducible assumption | omega) ((hQ28.at g_739_33 rfl).trans (mUp_no e23 (mUp_no e19 (mUp_no e15 ex739_33 (Or.inr (by decide))) (Or.inr (by decide))) (Or.inr (by decide)))) (by first | with_reducible assumption | omega) (by first | with_reducible assumption | omega) ((hQ28.at g_739_34 rfl).trans (mUp_no e23 (mUp_no e19 (mUp_no e15 ex739_34 (Or.inr (by decide))) (Or.inr (by decide))) (Or.inr (by decide)))) (by first | with_reducible assumption | omega) (by first | with_reducible assumption | omega) ((hQ28.at g_739_32 rfl).trans (mUp_no e23 (mUp_no e19 (mUp_no e15 ex739_32 (Or.inr (by decide))) (Or.inr (by decide))) (Or.inr (by decide)))) (by first | with_reducible assumption | omega) (by first | with_reducible assumption | omega) e56 (by first | with_reducible assumption | omega) (by first | with_reducible assumption | omega) ((hQ28.at g_739_45 rfl).trans (mUp_no e23 (mUp_no e19 (mUp_no e15 ex739_45 (Or.inr (by decide))) (Or.inr (by decide))) (Or.inr (by decide)))) (by first | with_reducible assumption | omega) (by first | with_reducible assumption | omega) ((hQ28.at g_739_46 rfl).trans (mUp_no e23 (mUp_no e19 (mUp_at e15) (Or.inr (by decide))) (Or.inr (by decide)))) (by first | with_reducible assumption | omega) (by first | with_reducible assumption | omega) e62 (by first | with_reducible assumption | omega) (by first | with_reducible assumption | omega) ((hQ28.at g_739_38 rfl).trans (mUp_no e23 (mUp_no e19 (mUp_no e15 ex739_38 (Or.inr (by decide))) (Or.inr (by decide))) (Or.inr (by decide)))) (by first | with_reducible assumption | omega) (by first | with_reducible assumption | omega) ((hQ28.at g_739_36 rfl).trans (mUp_no e23 (mUp_no e19 (mUp_no e15 ex739_36 (Or.inr (by decide))) (Or.inr (by decide))) (Or.inr (by decide)))) (by first | with_reducible assumption | omega) (by first | with_reducible assumption | omega) ((hQ28.at g_739_51 rfl).trans (mUp_at e23)) (by first | with_reducible assumption | omega) (by first | with_reducible assumption | omega) ((hQ28.at g_739_35 rfl).trans (mUp_no e23 (mUp_no e19 (mUp_no e15 ex739_35 (Or.inr (by decide))) (Or.inr (by decide))) (Or.inr (by decide)))) (by first | with_reducible assumption | omega) (by first | with_reducible assumption | omega) e66 (by first | with_reducible assumption | omega) (by first | with_reducible assumption | omega) (by omega) (by omega) (by omega) (by omega) (by omega) (by omega) (by omega) (by omega) (RGX_c xh45 (by omega) (by omega) rfl (by omega) (by omega) rfl) pr46 pr47 pr48 pr49) (cqV ?_))
    rintro M69 ⟨hP70, hQ71, h73, h74, h75, h76, h77, h78, h79, h80, h81, h82, h83, h84, h85, xh86, pr87, pr88, pr89, pr90⟩
    have hF72 : Fr fm_n8068_739 M0 M69 := hF29.tr hQ71 rfl
    have e91 := ((hQ71.at g_739_30 rfl).trans ((hQ28.at g_739_30 rfl).trans (mUp_no e23 (mUp_no e19 (mUp_no e15 ex739_30 (Or.inr (by decide))) (Or.inr (by decide))) (Or.inr (by decide)))))
    obtain ⟨v92, e93⟩ : ∃ v, M69 739 31 = v := ⟨_, rfl⟩
    have h94 := (bf_739_31 hP70).1; rw [e93] at h94
    have h95 := (bf_739_31 hP70).2; rw [e93] at h95
    obtain ⟨v96, e97⟩ : ∃ v, M69 739 33 = v := ⟨_, rfl⟩
    have h98 := (bf_739_33 hP70).1; rw [e97] at h98
    have h99 := (bf_739_33 hP70).2; rw [e97] at h99
    obtain ⟨v100, e101⟩ : ∃ v, M69 739 34 = v := ⟨_, rfl⟩
    have h102 := (bf_739_34 hP70).1; rw [e101] at h102
    have h103 := (bf_739_34 hP70).2; rw [e101] at h103
    obtain ⟨v104, e105⟩ : ∃ v, M69 739 32 = v := ⟨_, rfl⟩
    have h106 := (bf_739_32 hP70).1; rw [e105] at h106
    have h107 := (bf_739_32 hP70).2; rw [e105] at h107
    obtain ⟨v108, e109⟩ : ∃ v, M69 739 28 = v := ⟨_, rfl⟩
    have h110 := (bf_739_28 hP70).1; rw [e109] at h110
    have h111 := (bf_739_28 hP70).2; rw [e109] at h111
    obtain ⟨v112, e113⟩ : ∃ v, M69 739 47 = v := ⟨_, rfl⟩
    have h114 := (bf_739_47 hP70).1; rw [e113] at h114
    have h115 := (bf_739_47 hP70).2; rw [e113] at h115
    obtain ⟨v116, e117⟩ : ∃ v, M69 739 45 = v := ⟨_, rfl⟩
    have h118 := (bf_739_45 hP70).1; rw [e117] at h118
    have h119 := (bf_739_45 hP70).2; rw [e117] at h119
    obtain ⟨v120, e121⟩ : ∃ v, M69 739 46 = v := ⟨_, rfl⟩
    have h122 := (bf_739_46 hP70).1; rw [e121] at h122
    have h123 := (bf_739_46 hP70).2; rw [e121] at h123
    obtain ⟨v124, e125⟩ : ∃ v, M69 739 51 = v := ⟨_, rfl⟩
    have h126 := (bf_739_51 hP70).1; rw [e125] at h126
    have h127 := (bf_739_51 hP70).2; rw [e125] at h127
    obtain ⟨v128, e129⟩ : ∃ v, M69 739 29 = v := ⟨_, rfl⟩
    have h130 := (bf_739_29 hP70).1; rw [e129] at h130
    have h131 := (bf_739_29 hP70).2; rw [e129] at h131
    refine wk_c1 r68_31 (wk_is1 r68_32 rfl ?_)
    have c33_1309 : ∀ (k1309 : Nat) (M647 : Mm) (v644 : Int) (v650 : Int) (v654 : Int) (v658 : Int) (v662 : Int) (v666 : Int) (v670 : Int) (v674 : Int) (v678 : Int) (v682 : Int) (v686 : Int), (10 * (501 - v654) + v644).toNat = k1309 → Pw M647 → Fr fm_n8068_739 M0 M647 → M647 739 31 = v650 → M647 739 33 = v654 → M647 739 34 = v658 → M647 739 32 = v662 → M647 739 28 = v666 → M647 739 47 = v670 → M647 739 45 = v674 → M647 739 46 = v678 → M647 739 51 = v682 → M647 739 29 = v686 → M647 739 30 = x739_30 → M647 739 38 = x739_38 → 0 ≤ v644 → v644 ≤ 1 → 0 ≤ v650 → v650 ≤ 500 → 0 ≤ v654 → v654 ≤ 500 → 0 ≤ v658 → v658 ≤ 500 → 0 ≤ v662 → v662 ≤ 4 → 0 ≤ v666 → v666 ≤ 6 → 0 ≤ v670 → v670 ≤ 12 → 0 ≤ v674 → v674 ≤ 260 → 0 ≤ v678 → v678 ≤ 260 → 0 ≤ v682 → v682 ≤ 0 → (-1) ≤ v686 → v686 ≤ 501 → (TK M647) → (GE M647 x739_45 (fun k => M0 757 k) 1 0) → (TXQ T M647) → (TTP T M647) → 0 ≤ 1 * x739_30 + (-1) * v650 → 0 ≤ 1 * v650 + (-1) * v654 + (-1) * v658 → 0 ≤ (-1) * v650 + 1 * v654 + 1 * v658 → 0 ≤ 4 * v658 + (-1) * v662 → 0 ≤ 1 * v654 + 1 * v670 + (-2) * v674 + (-2) * v678 + 3000 * v666 → 0 ≤ (-2) * v674 + (-2) * v678 + 520 → 0 ≤ (-1) * v670 + 1 * v666 + 6 → 0 ≤ 1 * v654 + (-1) * x739_33 → 0 ≤ 1 * v666 + (-1) * x739_28 → 0 ≤ (-1) * x739_38 + 7 + 3000 * v666 → 0 ≤ (-1) * v682 → 0 ≤ 1 * v686 + (-1) * x739_29 + 7000 * v666 → 0 ≤ (-1) * v686 + 1 * x739_29 + 7000 * v666 → (EXX T x739_30 x739_38 ((0 : Int), (0 : Int), x739_33, (0 : Int)) ((OW M0).1, ([] : List Int)) v644 v670 v654 v666 v686 (OW M647)) → Wp B (d + 6) 68 33 [some (R 739), some (I v644), none] [] M647 Q := by
      refine lp_ind ?_
      intro k1309 ih1309 M647 v644 v650 v654 v658 v662 v666 v670 v674 v678 v682 v686 hk1309 hP648 hF649 e653 e657 e661 e665 e669 e673 e677 e681 e685 e689 e690 e691 h645 h646 h651 h652 h655 h656 h659 h660 h663 h664 h667 h668 h671 h672 h675 h676 h679 h680 h683 h684 h687 h688 pr692 pr693 pr694 pr695 h696 h697 h698 h699 h700 h701 h702 h703 h704 h705 h706 h707 h708 ti709
      refine wk_il1 r68_33 ?_
      refine wk_ifeq r68_34 ⟨by omega, by omega⟩ ?_ ?_
      · intro h710
        refine wk_al0 r68_194 (wk_cv1 r68_195 kc_739_84 rfl (n8084_739 _ M647 v666 hP648 e669 (by first | with_reducible assumption | omega) (by first | with_reducible assumption | omega)) (cqI ?_))
        rintro v717 M711 ⟨hP712, hQ713, h718, h719, h715, h716⟩
        obtain rfl := Fr.same hQ713
        have e720 := e669
        refine wk_ifeq r68_198 ⟨by omega, by omega⟩ ?_ ?_
        · intro h721
          refine wk_al0 r68_214 (wk_c1 r68_215 ?_)
          refine wk_cv2 r68_216 kc_739_63 rfl (n8063_739 _ M647 1 v674 v678 v670 x739_45 ((fun k => M0 757 k)) hP648 (by decide) (by decide) e677 (by first | with_reducible assumption | omega) (by first | with_reducible assumption | omega) e681 (by first | with_reducible assumption | omega) (by first | with_reducible assumption | omega) e673 (by first | with_reducible assumption | omega) (by first | with_reducible assumption | omega) (by omega) pr693) (cqV ?_)
          rintro M722 ⟨hP723, hQ724, h726, h727, h728, xh729, xh730, pr731⟩
          have hF725 : Fr fm_n8068_739 M0 M722 := hF649.tr hQ724 rfl
          obtain ⟨v732, e733⟩ : ∃ v, M722 739 45 = v := ⟨_, rfl⟩
          have h734 := (bf_739_45 hP723).1; rw [e733] at h734
          have h735 := (bf_739_45 hP723).2; rw [e733] at h735
          obtain ⟨v736, e737⟩ : ∃ v, M722 739 46 = v := ⟨_, rfl⟩
          have h738 := (bf_739_46 hP723).1; rw [e737] at h738
          have h739 := (bf_739_46 hP723).2; rw [e737] at h739
          have hd9 : OW M722 = drp 1 (OW M647).2 (OW M647).1 := OW_dr (OWe_rf M647) xh730
          refine wk_al0 r68_219 (wk_c1 r68_220 (wk_c1 r68_221 (wk_c1 r68_222 (wk_cv4 r68_223 kc_739_117 rfl (n8117_739 _ M722 0 0 0 v732 hP723 (by decide) (by decide) (by decide) (by decide) (by decide) (by decide) e733 (by first | with_reducible assumption | omega) (by first | with_reducible assumption | omega)) (cqV ?_)))))
          rintro M740 ⟨hP741, hQ742, h744, h745, xh746⟩
          have hF743 : Fr fm_n8068_739 M0 M740 := hF725.tr hQ742 rfl
          obtain ⟨v747, e748⟩ : ∃ v, M740 739 45 = v := ⟨_, rfl⟩
          have h749 := (bf_739_45 hP741).1; rw [e748] at h749
          have h750 := (bf_739_45 hP741).2; rw [e748] at h750
          have pr751 : OWe M740 ((OW M722).1 ++ [0], (OW M722).2) := OWe_c (OWe_put (OWe_rf M722) xh746 (bf_739_45 hP723).1) (by show ((OW M722).1 ++ [_], (OW M722).2) = ((OW M722).1 ++ [_], (OW M722).2); congr 3 <;> omega)
          subst hQ; exact wk_ret r68_226 (⟨rfl, hP741, hF743, by have := ((hQ742.at g_739_30 rfl).trans ((hQ724.at g_739_30 rfl).trans e690)); have := ((hQ742.at g_739_31 rfl).trans ((hQ724.at g_739_31 rfl).trans e653)); omega, by have := ((hQ742.at g_739_31 rfl).trans ((hQ724.at g_739_31 rfl).trans e653)); have := ((hQ742.at g_739_33 rfl).trans ((hQ724.at g_739_33 rfl).trans e657)); have := ((hQ742.at g_739_34 rfl).trans ((hQ724.at g_739_34 rfl).trans e661)); omega, by have := ((hQ742.at g_739_31 rfl).trans ((hQ724.at g_739_31 rfl).trans e653)); have := ((hQ742.at g_739_33 rfl).trans ((hQ724.at g_739_33 rfl).trans e657)); have := ((hQ742.at g_739_34 rfl).trans ((hQ724.at g_739_34 rfl).trans e661)); omega, by have := ((hQ742.at g_739_34 rfl).trans ((hQ724.at g_739_34 rfl).trans e661)); have := ((hQ742.at g_739_32 rfl).trans ((hQ724.at g_739_32 rfl).trans e665)); omega, by have := ((hQ742.at g_739_33 rfl).trans ((hQ724.at g_739_33 rfl).trans e657)); omega, by have := ((hQ742.at g_739_28 rfl).trans ((hQ724.at g_739_28 rfl).trans e669)); omega, by have := ((hQ742.at g_739_33 rfl).trans ((hQ724.at g_739_33 rfl).trans e657)); have := e748; have := ((hQ742.at g_739_28 rfl).trans ((hQ724.at g_739_28 rfl).trans e669)); omega, by have := e748; omega, by have := ((hQ742.at g_739_29 rfl).trans ((hQ724.at g_739_29 rfl).trans e689)); omega, by have := ((hQ742.at g_739_29 rfl).trans ((hQ724.at g_739_29 rfl).trans e689)); have := ((hQ742.at g_739_28 rfl).trans ((hQ724.at g_739_28 rfl).trans e669)); omega, by have := ((hQ742.at g_739_29 rfl).trans ((hQ724.at g_739_29 rfl).trans e689)); have := ((hQ742.at g_739_28 rfl).trans ((hQ724.at g_739_28 rfl).trans e669)); omega, ES_put xh746 pr731 (by omega), Or.inr ⟨by omega, by rw [((hQ742.at g_739_33 rfl).trans ((hQ724.at g_739_33 rfl).trans e657)), ((hQ742.at g_739_28 rfl).trans ((hQ724.at g_739_28 rfl).trans e669)), ((hQ742.at g_739_29 rfl).trans ((hQ724.at g_739_29 rfl).trans e689))]; exact ex_endx (P := OW M722) ti709 (Or.inl ⟨by omega, by omega, by omega⟩) hd9 pr751⟩, (TK_sm (Sm.fr hQ742 rfl) (TK_sm (Sm.fr hQ724 rfl) pr692)), (TXQ_sm (Sm.fr hQ742 rfl) (TXQ_sm (Sm.fr hQ724 rfl) pr694)), (TTP_sm (Sm.fr hQ742 rfl) (TTP_sm (Sm.fr hQ724 rfl) pr695))⟩)
        · intro h752
          refine wk_al0 r68_201 (wk_getfi r68_202 fd_739_47 e673 (wk_c1 r68_205 ?_))
          refine wk_icle r68_206 ⟨by omega, by omega⟩ (by decide) ?_ ?_
          · intro h753
            refine wk_al0 r68_214 (wk_c1 r68_215 ?_)
            refine wk_cv2 r68_216 kc_739_63 rfl (n8063_739 _ M647 1 v674 v678 v670 x739_45 ((fun k => M0 757 k)) hP648 (by decide) (by decide) e677 (by first | with_reducible assumption | omega) (by first | with_reducible assumption | omega) e681 (by first | with_reducible assumption | omega) (by first | with_reducible assumption | omega) e673 (by first | with_reducible assumption | omega) (by first | with_reducible assumption | omega) (by omega) pr693) (cqV ?_)
            rintro M754 ⟨hP755, hQ756, h758, h759, h760, xh761, xh762, pr763⟩
            have hF757 : Fr fm_n8068_739 M0 M754 := hF649.tr hQ756 rfl
            obtain ⟨v764, e765⟩ : ∃ v, M754 739 45 = v := ⟨_, rfl⟩
            have h766 := (bf_739_45 hP755).1; rw [e765] at h766
            have h767 := (bf_739_45 hP755).2; rw [e765] at h767
            obtain ⟨v768, e769⟩ : ∃ v, M754 739 46 = v := ⟨_, rfl⟩
            have h770 := (bf_739_46 hP755).1; rw [e769] at h770
            have h771 := (bf_739_46 hP755).2; rw [e769] at h771
            have hd9 : OW M754 = drp 1 (OW M647).2 (OW M647).1 := OW_dr (OWe_rf M647) xh762
            refine wk_al0 r68_219 (wk_c1 r68_220 (wk_c1 r68_221 (wk_c1 r68_222 (wk_cv4 r68_223 kc_739_117 rfl (n8117_739 _ M754 0 0 0 v764 hP755 (by decide) (by decide) (by decide) (by decide) (by decide) (by decide) e765 (by first | with_reducible assumption | omega) (by first | with_reducible assumption | omega)) (cqV ?_)))))
            rintro M772 ⟨hP773, hQ774, h776, h777, xh778⟩
            have hF775 : Fr fm_n8068_739 M0 M772 := hF757.tr hQ774 rfl
            obtain ⟨v779, e780⟩ : ∃ v, M772 739 45 = v := ⟨_, rfl⟩
            have h781 := (bf_739_45 hP773).1; rw [e780] at h781
            have h782 := (bf_739_45 hP773).2; rw [e780] at h782
            have pr783 : OWe M772 ((OW M754).1 ++ [0], (OW M754).2) := OWe_c (OWe_put (OWe_rf M754) xh778 (bf_739_45 hP755).1) (by show ((OW M754).1 ++ [_], (OW M754).2) = ((OW M754).1 ++ [_], (OW M754).2); congr 3 <;> omega)
            subst hQ; exact wk_ret r68_226 (⟨rfl, hP773, hF775, by have := ((hQ774.at g_739_30 rfl).trans ((hQ756.at g_739_30 rfl).trans e690)); have := ((hQ774.at g_739_31 rfl).trans ((hQ756.at g_739_31 rfl).trans e653)); omega, by have := ((hQ774.at g_739_31 rfl).trans ((hQ756.at g_739_31 rfl).trans e653)); have := ((hQ774.at g_739_33 rfl).trans ((hQ756.at g_739_33 rfl).trans e657)); have := ((hQ774.at g_739_34 rfl).trans ((hQ756.at g_739_34 rfl).trans e661)); omega, by have := ((hQ774.at g_739_31 rfl).trans ((hQ756.at g_739_31 rfl).trans e653)); have := ((hQ774.at g_739_33 rfl).trans ((hQ756.at g_739_33 rfl).trans e657)); have := ((hQ774.at g_739_34 rfl).trans ((hQ756.at g_739_34 rfl).trans e661)); omega, by have := ((hQ774.at g_739_34 rfl).trans ((hQ756.at g_739_34 rfl).trans e661)); have := ((hQ774.at g_739_32 rfl).trans ((hQ756.at g_739_32 rfl).trans e665)); omega, by have := ((hQ774.at g_739_33 rfl).trans ((hQ756.at g_739_33 rfl).trans e657)); omega, by have := ((hQ774.at g_739_28 rfl).trans ((hQ756.at g_739_28 rfl).trans e669)); omega, by have := ((hQ774.at g_739_33 rfl).trans ((hQ756.at g_739_33 rfl).trans e657)); have := e780; have := ((hQ774.at g_739_28 rfl).trans ((hQ756.at g_739_28 rfl).trans e669)); omega, by have := e780; omega, by have := ((hQ774.at g_739_29 rfl).trans ((hQ756.at g_739_29 rfl).trans e689)); omega, by have := ((hQ774.at g_739_29 rfl).trans ((hQ756.at g_739_29 rfl).trans e689)); have := ((hQ774.at g_739_28 rfl).trans ((hQ756.at g_739_28 rfl).trans e669)); omega, by have := ((hQ774.at g_739_29 rfl).trans ((hQ756.at g_739_29 rfl).trans e689)); have := ((hQ774.at g_739_28 rfl).trans ((hQ756.at g_739_28 rfl).trans e669)); omega, ES_put xh778 pr763 (by omega), Or.inr ⟨by omega, by rw [((hQ774.at g_739_33 rfl).trans ((hQ756.at g_739_33 rfl).trans e657)), ((hQ774.at g_739_28 rfl).trans ((hQ756.at g_739_28 rfl).trans e669)), ((hQ774.at g_739_29 rfl).trans ((hQ756.at g_739_29 rfl).trans e689))]; exact ex_endx (P := OW M754) ti709 (Or.inr (Or.inl ⟨by omega, by omega, by omega, by omega, by omega⟩)) hd9 pr783⟩, (TK_sm (Sm.fr hQ774 rfl) (TK_sm (Sm.fr hQ756 rfl) pr692)), (TXQ_sm (Sm.fr hQ774 rfl) (TXQ_sm (Sm.fr hQ756 rfl) pr694)), (TTP_sm (Sm.fr hQ774 rfl) (TTP_sm (Sm.fr hQ756 rfl) pr695))⟩)
          · intro h784
            refine wk_al0 r68_209 (wk_c1 r68_210 (wk_cv2 r68_211 kc_739_137 rfl (n8137_739 _ M647 1 v666 v654 v686 hP648 (by decide) (by decide) e669 (by first | with_reducible assumption | omega) (by first | with_reducible assumption | omega) e657 (by first | with_reducible assumption | omega) (by first | with_reducible assumption | omega) e689 (by first | with_reducible assumption | omega) (by first | with_reducible assumption | omega)) (cqV ?_)))
            rintro M785 ⟨hP786, hQ787, h789, h790, h791, h792, h793, xh794⟩
            have hF788 : Fr fm_n8068_739 M0 M785 := hF649.tr hQ787 rfl
            obtain ⟨v795, e796⟩ : ∃ v, M785 739 28 = v := ⟨_, rfl⟩
            have h797 := (bf_739_28 hP786).1; rw [e796] at h797
            have h798 := (bf_739_28 hP786).2; rw [e796] at h798
            obtain ⟨v799, e800⟩ : ∃ v, M785 739 29 = v := ⟨_, rfl⟩
            have h801 := (bf_739_29 hP786).1; rw [e800] at h801
            have h802 := (bf_739_29 hP786).2; rw [e800] at h802
            have pr803 : GE M785 x739_45 (fun k => M0 757 k) 1 0 := GE_mn (Sm.fr hQ787 rfl) (fun q => by have := e669; have := e796; omega) pr693
            refine wk_al0 r68_214 (wk_c1 r68_215 ?_)
            refine wk_cv2 r68_216 kc_739_63 rfl (n8063_739 _ M785 1 v674 v678 v670 x739_45 ((fun k => M0 757 k)) hP786 (by decide) (by decide) ((hQ787.at g_739_45 rfl).trans e677) (by first | with_reducible assumption | omega) (by first | with_reducible assumption | omega) ((hQ787.at g_739_46 rfl).trans e681) (by first | with_reducible assumption | omega) (by first | with_reducible assumption | omega) ((hQ787.at g_739_47 rfl).trans e673) (by first | with_reducible assumption | omega) (by first | with_reducible assumption | omega) (by omega) pr803) (cqV ?_)
            rintro M804 ⟨hP805, hQ806, h808, h809, h810, xh811, xh812, pr813⟩
            have hF807 : Fr fm_n8068_739 M0 M804 := hF788.tr hQ806 rfl
            obtain ⟨v814, e815⟩ : ∃ v, M804 739 45 = v := ⟨_, rfl⟩
            have h816 := (bf_739_45 hP805).1; rw [e815] at h816
            have h817 := (bf_739_45 hP805).2; rw [e815] at h817
            obtain ⟨v818, e819⟩ : ∃ v, M804 739 46 = v := ⟨_, rfl⟩
            have h820 := (bf_739_46 hP805).1; rw [e819] at h820
            have h821 := (bf_739_46 hP805).2; rw [e819] at h821
            have hd9 : OW M804 = drp 1 (OW M647).2 (OW M647).1 := OW_dr (OWe_sm (Sm.fr hQ787 rfl) (OWe_rf M647)) xh812
            refine wk_al0 r68_219 (wk_c1 r68_220 (wk_c1 r68_221 (wk_c1 r68_222 (wk_cv4 r68_223 kc_739_117 rfl (n8117_739 _ M804 0 0 0 v814 hP805 (by decide) (by decide) (by decide) (by decide) (by decide) (by decide) e815 (by first | with_reducible assumption | omega) (by first | with_reducible assumption | omega)) (cqV ?_)))))
            rintro M822 ⟨hP823, hQ824, h826, h827, xh828⟩
            have hF825 : Fr fm_n8068_739 M0 M822 := hF807.tr hQ824 rfl
            obtain ⟨v829, e830⟩ : ∃ v, M822 739 45 = v := ⟨_, rfl⟩
            have h831 := (bf_739_45 hP823).1; rw [e830] at h831
            have h832 := (bf_739_45 hP823).2; rw [e830] at h832
            have pr833 : OWe M822 ((OW M804).1 ++ [0], (OW M804).2) := OWe_c (OWe_put (OWe_rf M804) xh828 (bf_739_45 hP805).1) (by show ((OW M804).1 ++ [_], (OW M804).2) = ((OW M804).1 ++ [_], (OW M804).2); congr 3 <;> omega)
            subst hQ; exact wk_ret r68_226 (⟨rfl, hP823, hF825, by have := ((hQ824.at g_739_30 rfl).trans ((hQ806.at g_739_30 rfl).trans ((hQ787.at g_739_30 rfl).trans e690))); have := ((hQ824.at g_739_31 rfl).trans ((hQ806.at g_739_31 rfl).trans ((hQ787.at g_739_31 rfl).trans e653))); omega, by have := ((hQ824.at g_739_31 rfl).trans ((hQ806.at g_739_31 rfl).trans ((hQ787.at g_739_31 rfl).trans e653))); have := ((hQ824.at g_739_33 rfl).trans ((hQ806.at g_739_33 rfl).trans ((hQ787.at g_739_33 rfl).trans e657))); have := ((hQ824.at g_739_34 rfl).trans ((hQ806.at g_739_34 rfl).trans ((hQ787.at g_739_34 rfl).trans e661))); omega, by have := ((hQ824.at g_739_31 rfl).trans ((hQ806.at g_739_31 rfl).trans ((hQ787.at g_739_31 rfl).trans e653))); have := ((hQ824.at g_739_33 rfl).trans ((hQ806.at g_739_33 rfl).trans ((hQ787.at g_739_33 rfl).trans e657))); have := ((hQ824.at g_739_34 rfl).trans ((hQ806.at g_739_34 rfl).trans ((hQ787.at g_739_34 rfl).trans e661))); omega, by have := ((hQ824.at g_739_34 rfl).trans ((hQ806.at g_739_34 rfl).trans ((hQ787.at g_739_34 rfl).trans e661))); have := ((hQ824.at g_739_32 rfl).trans ((hQ806.at g_739_32 rfl).trans ((hQ787.at g_739_32 rfl).trans e665))); omega, by have := ((hQ824.at g_739_33 rfl).trans ((hQ806.at g_739_33 rfl).trans ((hQ787.at g_739_33 rfl).trans e657))); omega, by have := ((hQ824.at g_739_28 rfl).trans ((hQ806.at g_739_28 rfl).trans e796)); omega, by have := ((hQ824.at g_739_33 rfl).trans ((hQ806.at g_739_33 rfl).trans ((hQ787.at g_739_33 rfl).trans e657))); have := e830; have := ((hQ824.at g_739_28 rfl).trans ((hQ806.at g_739_28 rfl).trans e796)); omega, by have := e830; omega, by have := ((hQ824.at g_739_29 rfl).trans ((hQ806.at g_739_29 rfl).trans e800)); omega, by have := ((hQ824.at g_739_29 rfl).trans ((hQ806.at g_739_29 rfl).trans e800)); have := ((hQ824.at g_739_28 rfl).trans ((hQ806.at g_739_28 rfl).trans e796)); omega, by have := ((hQ824.at g_739_29 rfl).trans ((hQ806.at g_739_29 rfl).trans e800)); have := ((hQ824.at g_739_28 rfl).trans ((hQ806.at g_739_28 rfl).trans e796)); omega, ES_put xh828 pr813 (by omega), Or.inr ⟨by omega, by rw [((hQ824.at g_739_33 rfl).trans ((hQ806.at g_739_33 rfl).trans ((hQ787.at g_739_33 rfl).trans e657))), ((hQ824.at g_739_28 rfl).trans ((hQ806.at g_739_28 rfl).trans e796)), ((hQ824.at g_739_29 rfl).trans ((hQ806.at g_739_29 rfl).trans e800))]; exact ex_endx (P := OW M804) ti709 (Or.inr (Or.inr ⟨by omega, by omega, by omega, by omega, by omega⟩)) hd9 pr833⟩, (TK_sm (Sm.fr hQ824 rfl) (TK_sm (Sm.fr hQ806 rfl) (TK_sm (Sm.fr hQ787 rfl) pr692))), (TXQ_sm (Sm.fr hQ824 rfl) (TXQ_sm (Sm.fr hQ806 rfl) (TXQ_sm (Sm.fr hQ787 rfl) pr694))), (TTP_sm (Sm.fr hQ824 rfl) (TTP_sm (Sm.fr hQ806 rfl) (TTP_sm (Sm.fr hQ787 rfl) pr695)))⟩)
      · intro h834
        refine wk_al0 r68_37 (wk_cv1 r68_38 kc_739_84 rfl (n8084_739 _ M647 v666 hP648 e669 (by first | with_reducible assumption | omega) (by first | with_reducible assumption | omega)) (cqI ?_))
        rintro v841 M835 ⟨hP836, hQ837, h842, h843, h839, h840⟩
        obtain rfl := Fr.same hQ837
        have e844 := e669
        refine wk_ifeq r68_41 ⟨by omega, by omega⟩ ?_ ?_
        · intro h845
          refine wk_al0 r68_194 (wk_cv1 r68_195 kc_739_84 rfl (n8084_739 _ M647 v666 hP648 e669 (by first | with_reducible assumption | omega) (by first | with_reducible assumption | omega)) (cqI ?_))
          rintro v852 M846 ⟨hP847, hQ848, h853, h854, h850, h851⟩
          obtain rfl := Fr.same hQ848
          have e855 := e669
          refine wk_ifeq r68_198 ⟨by omega, by omega⟩ ?_ ?_
          · intro h856
            refine wk_al0 r68_214 (wk_c1 r68_215 ?_)
            refine wk_cv2 r68_216 kc_739_63 rfl (n8063_739 _ M647 1 v674 v678 v670 x739_45 ((fun k => M0 757 k)) hP648 (by decide) (by decide) e677 (by first | with_reducible assumption | omega) (by first | with_reducible assumption | omega) e681 (by first | with_reducible assumption | omega) (by first | with_reducible assumption | omega) e673 (by first | with_reducible assumption | omega) (by first | with_reducible assumption | omega) (by omega) pr693) (cqV ?_)
            rintro M857 ⟨hP858, hQ859, h861, h862, h863, xh864, xh865, pr866⟩
            have hF860 : Fr fm_n8068_739 M0 M857 := hF649.tr hQ859 rfl
            obtain ⟨v867, e868⟩ : ∃ v, M857 739 45 = v := ⟨_, rfl⟩
            have h869 := (bf_739_45 hP858).1; rw [e868] at h869
            have h870 := (bf_739_45 hP858).2; rw [e868] at h870
            obtain ⟨v871, e872⟩ : ∃ v, M857 739 46 = v := ⟨_, rfl⟩
            have h873 := (bf_739_46 hP858).1; rw [e872] at h873
            have h874 := (bf_739_46 hP858).2; rw [e872] at h874
            have hd9 : OW M857 = drp 1 (OW M647).2 (OW M647).1 := OW_dr (OWe_rf M647) xh865
            refine wk_al0 r68_219 (wk_c1 r68_220 (wk_c1 r68_221 (wk_c1 r68_222 (wk_cv4 r68_223 kc_739_117 rfl (n8117_739 _ M857 0 0 0 v867 hP858 (by decide) (by decide) (by decide) (by decide) (by decide) (by decide) e868 (by first | with_reducible assumption | omega) (by first | with_reducible assumption | omega)) (cqV ?_)))))
            rintro M875 ⟨hP876, hQ877, h879, h880, xh881⟩
            have hF878 : Fr fm_n8068_739 M0 M875 := hF860.tr hQ877 rfl
            obtain ⟨v882, e883⟩ : ∃ v, M875 739 45 = v := ⟨_, rfl⟩
            have h884 := (bf_739_45 hP876).1; rw [e883] at h884
            have h885 := (bf_739_45 hP876).2; rw [e883] at h885
            have pr886 : OWe M875 ((OW M857).1 ++ [0], (OW M857).2) := OWe_c (OWe_put (OWe_rf M857) xh881 (bf_739_45 hP858).1) (by show ((OW M857).1 ++ [_], (OW M857).2) = ((OW M857).1 ++ [_], (OW M857).2); congr 3 <;> omega)
            subst hQ; exact wk_ret r68_226 (⟨rfl, hP876, hF878, by have := ((hQ877.at g_739_30 rfl).trans ((hQ859.at g_739_30 rfl).trans e690)); have := ((hQ877.at g_739_31 rfl).trans ((hQ859.at g_739_31 rfl).trans e653)); omega, by have := ((hQ877.at g_739_31 rfl).trans ((hQ859.at g_739_31 rfl).trans e653)); have := ((hQ877.at g_739_33 rfl).trans ((hQ859.at g_739_33 rfl).trans e657)); have := ((hQ877.at g_739_34 rfl).trans ((hQ859.at g_739_34 rfl).trans e661)); omega, by have := ((hQ877.at g_739_31 rfl).trans ((hQ859.at g_739_31 rfl).trans e653)); have := ((hQ877.at g_739_33 rfl).trans ((hQ859.at g_739_33 rfl).trans e657)); have := ((hQ877.at g_739_34 rfl).trans ((hQ859.at g_739_34 rfl).trans e661)); omega, by have := ((hQ877.at g_739_34 rfl).trans ((hQ859.at g_739_34 rfl).trans e661)); have := ((hQ877.at g_739_32 rfl).trans ((hQ859.at g_739_32 rfl).trans e665)); omega, by have := ((hQ877.at g_739_33 rfl).trans ((hQ859.at g_739_33 rfl).trans e657)); omega, by have := ((hQ877.at g_739_28 rfl).trans ((hQ859.at g_739_28 rfl).trans e669)); omega, by have := ((hQ877.at g_739_33 rfl).trans ((hQ859.at g_739_33 rfl).trans e657)); have := e883; have := ((hQ877.at g_739_28 rfl).trans ((hQ859.at g_739_28 rfl).trans e669)); omega, by have := e883; omega, by have := ((hQ877.at g_739_29 rfl).trans ((hQ859.at g_739_29 rfl).trans e689)); omega, by have := ((hQ877.at g_739_29 rfl).trans ((hQ859.at g_739_29 rfl).trans e689)); have := ((hQ877.at g_739_28 rfl).trans ((hQ859.at g_739_28 rfl).trans e669)); omega, by have := ((hQ877.at g_739_29 rfl).trans ((hQ859.at g_739_29 rfl).trans e689)); have := ((hQ877.at g_739_28 rfl).trans ((hQ859.at g_739_28 rfl).trans e669)); omega, ES_put xh881 pr866 (by omega), Or.inr ⟨by omega, by rw [((hQ877.at g_739_33 rfl).trans ((hQ859.at g_739_33 rfl).trans e657)), ((hQ877.at g_739_28 rfl).trans ((hQ859.at g_739_28 rfl).trans e669)), ((hQ877.at g_739_29 rfl).trans ((hQ859.at g_739_29 rfl).trans e689))]; exact ex_endx (P := OW M857) ti709 (Or.inl ⟨by omega, by omega, by omega⟩) hd9 pr886⟩, (TK_sm (Sm.fr hQ877 rfl) (TK_sm (Sm.fr hQ859 rfl) pr692)), (TXQ_sm (Sm.fr hQ877 rfl) (TXQ_sm (Sm.fr hQ859 rfl) pr694)), (TTP_sm (Sm.fr hQ877 rfl) (TTP_sm (Sm.fr hQ859 rfl) pr695))⟩)
          · intro h887
            exfalso
            omega
        · intro h888
          refine wk_al0 r68_44 (wk_cv1 r68_45 kc_739_97 rfl (n8097_739 _ M647 v662 v658 x739_30 v654 T hP648 e665 (by first | with_reducible assumption | omega) (by first | with_reducible assumption | omega) e661 (by first | with_reducible assumption | omega) (by first | with_reducible assumption | omega) e690 (by first | with_reducible assumption | omega) (by first | with_reducible assumption | omega) e657 (by first | with_reducible assumption | omega) (by first | with_reducible assumption | omega) pr692 pr695) (cqI ?_))
          rintro v895 M889 ⟨hP890, hQ891, h896, h897, h893, xh894⟩
          obtain rfl := Fr.same hQ891
          have e898 := e661
          refine wk_is2 r68_48 rfl (wk_il2 r68_49 (wk_c2 r68_50 ?_))
          refine wk_iceq r68_52 ⟨by omega, by omega⟩ (by decide) ?_ ?_
          · intro h899
            refine wk_al0 r68_61 (wk_il2 r68_62 (wk_c2 r68_63 ?_))
            refine wk_icne r68_65 ⟨by omega, by omega⟩ (by decide) ?_ ?_
            · intro h900
              exfalso
              omega
            · intro h901
              refine wk_c1 r68_68 (wk_goto r68_69 ?_)
              refine wk_cv2 r68_73 kc_739_63 rfl (n8063_739 _ M647 2 v674 v678 v670 x739_45 ((fun k => M0 757 k)) hP648 (by decide) (by decide) e677 (by first | with_reducible assumption | omega) (by first | with_reducible assumption | omega) e681 (by first | with_reducible assumption | omega) (by first | with_reducible assumption | omega) e673 (by first | with_reducible assumption | omega) (by first | with_reducible assumption | omega) (by omega) pr693) (cqV ?_)
              rintro M902 ⟨hP903, hQ904, h906, h907, h908, xh909, xh910, pr911⟩
              have hF905 : Fr fm_n8068_739 M0 M902 := hF649.tr hQ904 rfl
              obtain ⟨v912, e913⟩ : ∃ v, M902 739 45 = v := ⟨_, rfl⟩
              have h914 := (bf_739_45 hP903).1; rw [e913] at h914
              have h915 := (bf_739_45 hP903).2; rw [e913] at h915
              obtain ⟨v916, e917⟩ : ∃ v, M902 739 46 = v := ⟨_, rfl⟩
              have h918 := (bf_739_46 hP903).1; rw [e917] at h918
              have h919 := (bf_739_46 hP903).2; rw [e917] at h919
              have hd9 : OW M902 = drp 2 (OW M647).2 (OW M647).1 := OW_dr (OWe_rf M647) xh910
              refine wk_al0 r68_76 (wk_il2 r68_77 (wk_c2 r68_78 ?_))
              refine wk_icne r68_80 ⟨by omega, by omega⟩ (by decide) ?_ ?_
              · intro h920
                exfalso
                omega
              · intro h921
                refine wk_c2 r68_83 (wk_goto r68_85 ?_)
                refine wk_c1 r68_90 (wk_cv3 r68_91 kc_739_133 rfl (n8133_739 _ M902 11 0 v916 hP903 (by decide) (by decide) (by decide) (by decide) e917 (by first | with_reducible assumption | omega) (by first | with_reducible assumption | omega)) (cqV ?_))
                rintro M922 ⟨hP923, hQ924, h926, h927, xh928⟩
                have hF925 : Fr fm_n8068_739 M0 M922 := hF905.tr hQ924 rfl
                obtain ⟨v929, e930⟩ : ∃ v, M922 739 46 = v := ⟨_, rfl⟩
                have h931 := (bf_739_46 hP923).1; rw [e930] at h931
                have h932 := (bf_739_46 hP923).2; rw [e930] at h932
                have pr933 : GE M922 x739_45 (fun k => M0 757 k) 0 0 := GE_bin xh928 pr911 (by omega)
                have pr934 : OWe M922 ((OW M902).1, (11) :: (OW M902).2) := OWe_c (OWe_wai (OWe_rf M902) xh928 (bf_739_46 hP903).1) (by show ((OW M902).1, _ :: (OW M902).2) = ((OW M902).1, _ :: (OW M902).2); congr 2 <;> omega)
                refine wk_al0 r68_94 (wk_cv1 r68_95 kc_739_76 rfl (n8076_739 _ M922 x739_30 v650 T hP923 ((hQ924.at g_739_30 rfl).trans ((hQ904.at g_739_30 rfl).trans e690)) (by first | with_reducible assumption | omega) (by first | with_reducible assumption | omega) ((hQ924.at g_739_31 rfl).trans ((hQ904.at g_739_31 rfl).trans e653)) (by first | with_reducible assumption | omega) (by first | with_reducible assumption | omega) (by omega) (TXQ_sm (Sm.fr hQ924 rfl) (TXQ_sm (Sm.fr hQ904 rfl) pr694))) (cqV ?_))
                rintro M935 ⟨hP936, hQ937, h939, h940, h941, h942, h943, xh944, pr945, pr946, pr947⟩
                have hF938 : Fr fm_n8068_739 M0 M935 := hF925.tr hQ937 rfl
                have e948 := ((hQ937.at g_739_30 rfl).trans ((hQ924.at g_739_30 rfl).trans ((hQ904.at g_739_30 rfl).trans e690)))
                obtain ⟨v949, e950⟩ : ∃ v, M935 739 31 = v := ⟨_, rfl⟩
                have h951 := (bf_739_31 hP936).1; rw [e950] at h951
                have h952 := (bf_739_31 hP936).2; rw [e950] at h952
                obtain ⟨v953, e954⟩ : ∃ v, M935 739 33 = v := ⟨_, rfl⟩
                have h955 := (bf_739_33 hP936).1; rw [e954] at h955
                have h956 := (bf_739_33 hP936).2; rw [e954] at h956
                obtain ⟨v957, e958⟩ : ∃ v, M935 739 34 = v := ⟨_, rfl⟩
                have h959 := (bf_739_34 hP936).1; rw [e958] at h959
                have h960 := (bf_739_34 hP936).2; rw [e958] at h960
                obtain ⟨v961, e962⟩ : ∃ v, M935 739 32 = v := ⟨_, rfl⟩
                have h963 := (bf_739_32 hP936).1; rw [e962] at h963
                have h964 := (bf_739_32 hP936).2; rw [e962] at h964
                have hn965 := nx_ofm (TTP_sm (Sm.fr hQ924 rfl) (TTP_sm (Sm.fr hQ904 rfl) pr695)) ((hQ924.at g_739_30 rfl).trans ((hQ904.at g_739_30 rfl).trans e690)) ((hQ924.at g_739_33 rfl).trans ((hQ904.at g_739_33 rfl).trans e657)) ((hQ924.at g_739_31 rfl).trans ((hQ904.at g_739_31 rfl).trans e653)) xh944
                refine wk_al0 r68_98 ?_
                obtain ⟨v966, e967⟩ : ∃ v, M935 739 36 = v := ⟨_, rfl⟩
                have h968 := (bf_739_36 hP936).1; rw [e967] at h968
                have h969 := (bf_739_36 hP936).2; rw [e967] at h969
                obtain ⟨v970, e971⟩ : ∃ v, M935 739 35 = v := ⟨_, rfl⟩
                have h972 := (bf_739_35 hP936).1; rw [e971] at h972
                have h973 := (bf_739_35 hP936).2; rw [e971] at h973
                refine wk_cv1 r68_99 kc_739_116 rfl (n8116_739 _ M935 x739_30 v949 v953 v957 v961 v666 v912 v929 v670 x739_38 v966 v682 v970 v686 x739_45 ((fun k => M0 757 k)) T (((0 : Int), (0 : Int), x739_33, (0 : Int))) (((OW M0).1, ([] : List Int))) hP936 ((hQ937.at g_739_30 rfl).trans ((hQ924.at g_739_30 rfl).trans ((hQ904.at g_739_30 rfl).trans e690))) (by first | with_reducible assumption | omega) (by first | with_reducible assumption | omega) e950 (by first | with_reducible assumption | omega) (by first | with_reducible assumption | omega) e954 (by first | with_reducible assumption | omega) (by first | with_reducible assumption | omega) e958 (by first | with_reducible assumption | omega) (by first | with_reducible assumption | omega) e962 (by first | with_reducible assumption | omega) (by first | with_reducible assumption | omega) ((hQ937.at g_739_28 rfl).trans ((hQ924.at g_739_28 rfl).trans ((hQ904.at g_739_28 rfl).trans e669))) (by first | with_reducible assumption | omega) (by first | with_reducible assumption | omega) ((hQ937.at g_739_45 rfl).trans ((hQ924.at g_739_45 rfl).trans e913)) (by first | with_reducible assumption | omega) (by first | with_reducible assumption | omega) ((hQ937.at g_739_46 rfl).trans e930) (by first | with_reducible assumption | omega) (by first | with_reducible assumption | omega) ((hQ937.at g_739_47 rfl).trans ((hQ924.at g_739_47 rfl).trans ((hQ904.at g_739_47 rfl).trans e673))) (by first | with_reducible assumption | omega) (by first | with_reducible assumption | omega) ((hQ937.at g_739_38 rfl).trans ((hQ924.at g_739_38 rfl).trans ((hQ904.at g_739_38 rfl).trans e691))) (by first | with_reducible assumption | omega) (by first | with_reducible assumption | omega) e967 (by first | with_reducible assumption | omega) (by first | with_reducible assumption | omega) ((hQ937.at g_739_51 rfl).trans ((hQ924.at g_739_51 rfl).trans ((hQ904.at g_739_51 rfl).trans e685))) (by first | with_reducible assumption | omega) (by first | with_reducible assumption | omega) e971 (by first | with_reducible assumption | omega) (by first | with_reducible assumption | omega) ((hQ937.at g_739_29 rfl).trans ((hQ924.at g_739_29 rfl).trans ((hQ904.at g_739_29 rfl).trans e689))) (by first | with_reducible assumption | omega) (by first | with_reducible assumption | omega) (by omega) (by omega) (by omega) (by omega) (by omega) (by omega) (by omega) (by omega) (e98x (l := 2) (b := 11) (P := OW M902) ti709 (by omega) (by omega) (by omega) (by omega) hd9 (OWe_sm (Sm.fr hQ937 rfl) pr934)) pr945 (GE_sm (Sm.fr hQ937 rfl) pr933) pr946 pr947) (cqV ?_)
                rintro M974 ⟨hP975, hQ976, h978, h979, h980, h981, h982, h983, h984, h985, h986, h987, h988, h989, h990, xh991, pr992, pr993, pr994, pr995⟩
                have hF977 : Fr fm_n8068_739 M0 M974 := hF938.tr hQ976 rfl
                have e996 := ((hQ976.at g_739_30 rfl).trans ((hQ937.at g_739_30 rfl).trans ((hQ924.at g_739_30 rfl).trans ((hQ904.at g_739_30 rfl).trans e690))))
                obtain ⟨v997, e998⟩ : ∃ v, M974 739 31 = v := ⟨_, rfl⟩
                have h999 := (bf_739_31 hP975).1; rw [e998] at h999
                have h1000 := (bf_739_31 hP975).2; rw [e998] at h1000
                obtain ⟨v1001, e1002⟩ : ∃ v, M974 739 33 = v := ⟨_, rfl⟩
                have h1003 := (bf_739_33 hP975).1; rw [e1002] at h1003
                have h1004 := (bf_739_33 hP975).2; rw [e1002] at h1004
                obtain ⟨v1005, e1006⟩ : ∃ v, M974 739 34 = v := ⟨_, rfl⟩
                have h1007 := (bf_739_34 hP975).1; rw [e1006] at h1007
                have h1008 := (bf_739_34 hP975).2; rw [e1006] at h1008
                obtain ⟨v1009, e1010⟩ : ∃ v, M974 739 32 = v := ⟨_, rfl⟩
                have h1011 := (bf_739_32 hP975).1; rw [e1010] at h1011
                have h1012 := (bf_739_32 hP975).2; rw [e1010] at h1012
                obtain ⟨v1013, e1014⟩ : ∃ v, M974 739 28 = v := ⟨_, rfl⟩
                have h1015 := (bf_739_28 hP975).1; rw [e1014] at h1015
                have h1016 := (bf_739_28 hP975).2; rw [e1014] at h1016
                obtain ⟨v1017, e1018⟩ : ∃ v, M974 739 47 = v := ⟨_, rfl⟩
                have h1019 := (bf_739_47 hP975).1; rw [e1018] at h1019
                have h1020 := (bf_739_47 hP975).2; rw [e1018] at h1020
                obtain ⟨v1021, e1022⟩ : ∃ v, M974 739 45 = v := ⟨_, rfl⟩
                have h1023 := (bf_739_45 hP975).1; rw [e1022] at h1023
                have h1024 := (bf_739_45 hP975).2; rw [e1022] at h1024
                obtain ⟨v1025, e1026⟩ : ∃ v, M974 739 46 = v := ⟨_, rfl⟩
                have h1027 := (bf_739_46 hP975).1; rw [e1026] at h1027
                have h1028 := (bf_739_46 hP975).2; rw [e1026] at h1028
                obtain ⟨v1029, e1030⟩ : ∃ v, M974 739 51 = v := ⟨_, rfl⟩
                have h1031 := (bf_739_51 hP975).1; rw [e1030] at h1031
                have h1032 := (bf_739_51 hP975).2; rw [e1030] at h1032
                obtain ⟨v1033, e1034⟩ : ∃ v, M974 739 29 = v := ⟨_, rfl⟩
                have h1035 := (bf_739_29 hP975).1; rw [e1034] at h1035
                have h1036 := (bf_739_29 hP975).2; rw [e1034] at h1036
                refine wk_goto r68_102 (wk_goto r68_191 ?_)
                exact wp_fg (le_s (le_s (le_n le_0))) (ih1309 (10 * (501 - v1001) + v644).toNat (by omega) M974 v644 v997 v1001 v1005 v1009 v1013 v1017 v1021 v1025 v1029 v1033 rfl hP975 hF977 e998 e1002 e1006 e1010 e1014 e1018 e1022 e1026 e1030 e1034 ((hQ976.at g_739_30 rfl).trans ((hQ937.at g_739_30 rfl).trans ((hQ924.at g_739_30 rfl).trans ((hQ904.at g_739_30 rfl).trans e690)))) ((hQ976.at g_739_38 rfl).trans ((hQ937.at g_739_38 rfl).trans ((hQ924.at g_739_38 rfl).trans ((hQ904.at g_739_38 rfl).trans e691)))) (by first | with_reducible assumption | omega) (by first | with_reducible assumption | omega) (by first | with_reducible assumption | omega) (by first | with_reducible assumption | omega) (by first | with_reducible assumption | omega) (by first | with_reducible assumption | omega) (by first | with_reducible assumption | omega) (by first | with_reducible assumption | omega) (by first | with_reducible assumption | omega) (by first | with_reducible assumption | omega) (by first | with_reducible assumption | omega) (by first | with_reducible assumption | omega) (by first | with_reducible assumption | omega) (by first | with_reducible assumption | omega) (by first | with_reducible assumption | omega) (by first | with_reducible assumption | omega) (by first | with_reducible assumption | omega) (by first | with_reducible assumption | omega) (by first | with_reducible assumption | omega) (by first | with_reducible assumption | omega) (by first | with_reducible assumption | omega) (by first | with_reducible assumption | omega) pr992 pr993 pr994 pr995 (by first | with_reducible assumption | omega) (by first | with_reducible assumption | omega) (by first | with_reducible assumption | omega) (by first | with_reducible assumption | omega) (by first | with_reducible assumption | omega) (by first | with_reducible assumption | omega) (by first | with_reducible assumption | omega) (by first | with_reducible assumption | omega) (by first | with_reducible assumption | omega) (by first | with_reducible assumption | omega) (by first | with_reducible assumption | omega) (by first | with_reducible assumption | omega) (by first | with_reducible assumption | omega) (EXX_a (RGX_c xh991 (by omega) (by omega) rfl (by omega) (by omega) rfl) (by omega)))
          · intro h1037
            refine wk_il2 r68_55 (wk_c2 r68_56 ?_)
            refine wk_icne r68_58 ⟨by omega, by omega⟩ (by decide) ?_ ?_
            · intro h1038
              refine wk_al0 r68_105 (wk_c2 r68_106 ?_)
              obtain ⟨v1039, e1040⟩ : ∃ v, M647 739 36 = v := ⟨_, rfl⟩
              have h1041 := (bf_739_36 hP648).1; rw [e1040] at h1041
              have h1042 := (bf_739_36 hP648).2; rw [e1040] at h1042
              refine wk_cv2 r68_108 kc_739_88 rfl (n8088_739 _ M647 41 v662 v1039 x739_30 v654 T hP648 (by decide) (by decide) e665 (by first | with_reducible assumption | omega) (by first | with_reducible assumption | omega) e1040 (by first | with_reducible assumption | omega) (by first | with_reducible assumption | omega) e690 (by first | with_reducible assumption | omega) (by first | with_reducible assumption | omega) e657 (by first | with_reducible assumption | omega) (by first | with_reducible assumption | omega) pr695) (cqI ?_)
              rintro v1051 M1043 ⟨hP1044, hQ1045, h1052, h1053, h1047, h1048, h1049, xh1050⟩
              obtain rfl := Fr.same hQ1045
              have e1054 := e665
              have e1055 := e1040
              refine wk_ifeq r68_111 ⟨by omega, by omega⟩ ?_ ?_
              · intro h1056
                clear h1047 h1048 h1049
                refine wk_c1 r68_189 (wk_is1 r68_190 rfl (wk_goto r68_191 ?_))
                exact wp_fg (le_s (le_s (le_n le_0))) (ih1309 (10 * (501 - v654) + 0).toNat (by omega) M647 0 v650 v654 v658 v662 v666 v670 v674 v678 v682 v686 rfl hP648 hF649 e653 e657 e661 e665 e669 e673 e677 e681 e685 e689 e690 e691 (by first | with_reducible assumption | omega) (by first | with_reducible assumption | omega) (by first | with_reducible assumption | omega) (by first | with_reducible assumption | omega) (by first | with_reducible assumption | omega) (by first | with_reducible assumption | omega) (by first | with_reducible assumption | omega) (by first | with_reducible assumption | omega) (by first | with_reducible assumption | omega) (by first | with_reducible assumption | omega) (by first | with_reducible assumption | omega) (by first | with_reducible assumption | omega) (by first | with_reducible assumption | omega) (by first | with_reducible assumption | omega) (by first | with_reducible assumption | omega) (by first | with_reducible assumption | omega) (by first | with_reducible assumption | omega) (by first | with_reducible assumption | omega) (by first | with_reducible assumption | omega) (by first | with_reducible assumption | omega) (by first | with_reducible assumption | omega) (by first | with_reducible assumption | omega) pr692 pr693 pr694 pr695 (by first | with_reducible assumption | omega) (by first | with_reducible assumption | omega) (by first | with_reducible assumption | omega) (by first | with_reducible assumption | omega) (by first | with_reducible assumption | omega) (by first | with_reducible assumption | omega) (by first | with_reducible assumption | omega) (by first | with_reducible assumption | omega) (by first | with_reducible assumption | omega) (by first | with_reducible assumption | omega) (by first | with_reducible assumption | omega) (by first | with_reducible assumption | omega) (by first | with_reducible assumption | omega) (EXX_z ti709 (by omega) (OWe_rf M647)))
              · intro h1057
                replace h1047 := h1047 (z1_of h1052 h1053 h1057)
                replace h1048 := h1048 (z1_of h1052 h1053 h1057)
                replace h1049 := h1049 (z1_of h1052 h1053 h1057)
                refine wk_al0 r68_114 (wk_getfi r68_115 fd_739_47 e673 (wk_c1 r68_118 ?_))
                refine wk_icle r68_119 ⟨by omega, by omega⟩ (by decide) ?_ ?_
                · intro h1058
                  refine wk_c1 r68_189 (wk_is1 r68_190 rfl (wk_goto r68_191 ?_))
                  exact wp_fg (le_s (le_s (le_n le_0))) (ih1309 (10 * (501 - v654) + 0).toNat (by omega) M647 0 v650 v654 v658 v662 v666 v670 v674 v678 v682 v686 rfl hP648 hF649 e653 e657 e661 e665 e669 e673 e677 e681 e685 e689 e690 e691 (by first | with_reducible assumption | omega) (by first | with_reducible assumption | omega) (by first | with_reducible assumption | omega) (by first | with_reducible assumption | omega) (by first | with_reducible assumption | omega) (by first | with_reducible assumption | omega) (by first | with_reducible assumption | omega) (by first | with_reducible assumption | omega) (by first | with_reducible assumption | omega) (by first | with_reducible assumption | omega) (by first | with_reducible assumption | omega) (by first | with_reducible assumption | omega) (by first | with_reducible assumption | omega) (by first | with_reducible assumption | omega) (by first | with_reducible assumption | omega) (by first | with_reducible assumption | omega) (by first | with_reducible assumption | omega) (by first | with_reducible assumption | omega) (by first | with_reducible assumption | omega) (by first | with_reducible assumption | omega) (by first | with_reducible assumption | omega) (by first | with_reducible assumption | omega) pr692 pr693 pr694 pr695 (by first | with_reducible assumption | omega) (by first | with_reducible assumption | omega) (by first | with_reducible assumption | omega) (by first | with_reducible assumption | omega) (by first | with_reducible assumption | omega) (by first | with_reducible assumption | omega) (by first | with_reducible assumption | omega) (by first | with_reducible assumption | omega) (by first | with_reducible assumption | omega) (by first | with_reducible assumption | omega) (by first | with_reducible assumption | omega) (by first | with_reducible assumption | omega) (by first | with_reducible assumption | omega) (EXX_z ti709 (by omega) (OWe_rf M647)))
                · intro h1059
                  refine wk_al0 r68_122 (wk_c1 r68_123 ?_)
                  refine wk_cv2 r68_124 kc_739_63 rfl (n8063_739 _ M647 1 v674 v678 v670 x739_45 ((fun k => M0 757 k)) hP648 (by decide) (by decide) e677 (by first | with_reducible assumption | omega) (by first | with_reducible assumption | omega) e681 (by first | with_reducible assumption | omega) (by first | with_reducible assumption | omega) e673 (by first | with_reducible assumption | omega) (by first | with_reducible assumption | omega) (by omega) pr693) (cqV ?_)
                  rintro M1060 ⟨hP1061, hQ1062, h1064, h1065, h1066, xh1067, xh1068, pr1069⟩
                  have hF1063 : Fr fm_n8068_739 M0 M1060 := hF649.tr hQ1062 rfl
                  obtain ⟨v1070, e1071⟩ : ∃ v, M1060 739 45 = v := ⟨_, rfl⟩
                  have h1072 := (bf_739_45 hP1061).1; rw [e1071] at h1072
                  have h1073 := (bf_739_45 hP1061).2; rw [e1071] at h1073
                  obtain ⟨v1074, e1075⟩ : ∃ v, M1060 739 46 = v := ⟨_, rfl⟩
                  have h1076 := (bf_739_46 hP1061).1; rw [e1075] at h1076
                  have h1077 := (bf_739_46 hP1061).2; rw [e1075] at h1077
                  have h1078 : 1 ≤ v1074 := by have q := GE_open pr1069 ((hQ1062.at g_739_28 rfl).trans e669) (by omega) ((hQ1062.at g_739_47 rfl).trans e673) (by omega); have := e1075; omega
                  have dE : GE M1060 x739_45 (fun k => M0 757 k) 1 0 := pr1069
                  have dW : M1060 739 46 = v1074 := e1075
                  have dD : M1060 739 47 = v670 := ((hQ1062.at g_739_47 rfl).trans e673)
                  have dL := xh1067 rfl
                  have hd9 : OW M1060 = drp 1 (OW M647).2 (OW M647).1 := OW_dr (OWe_rf M647) xh1068
                  refine wk_al0 r68_127 (wk_dupr r68_128 (wk_getfi r68_129 fd_739_46 e1075 (wk_c1 r68_132 (wk_isub r68_133 (wk_putfi81 r68_134 fd_739_46 (wk_nw g_739_46 rfl hP1061 hF1063 (uf_739_46 ⟨by omega, by omega⟩) ?_))))))
                  intro M1079 hP1080 hF1081 e1082
                  refine wk_al0 r68_137 (wk_dupr r68_138 (wk_getfi r68_139 fd_739_47 (mUp_no e1082 ((hQ1062.at g_739_47 rfl).trans e673) (Or.inr (by decide))) (wk_c1 r68_142 (wk_isub r68_143 (wk_putfi81 r68_144 fd_739_47 (wk_nw g_739_47 rfl hP1080 hF1081 (uf_739_47 ⟨by omega, by omega⟩) ?_))))))
                  intro M1083 hP1084 hF1085 e1086
                  have pr1087 : GE M1083 x739_45 (fun k => M0 757 k) 1 0 := GE_close dE dW (by omega) dD dL e1082 e1086
                  refine wk_al0 r68_147 (wk_getfr r68_148 fd_739_50 (br_739_50 hP1084) (wk_al0 r68_151 (wk_getfi r68_152 fd_739_46 (mUp_no e1086 (mUp_at e1082) (Or.inr (by decide))) (wk_ialdb r68_155 ar_758 ⟨by omega, by omega⟩ (fun q0 q1 => ba_758 hP1084 q0 q1) ?_))))
                  intro v1088 h1090 h1091 e1089
                  have h1092 := cl_val dL dW (by omega) e1082 e1086 e1089
                  have hv9 : M1060 758 (v1074 - 1) = v1088 := by rw [← e1089, e1086, mUp_ne (Or.inl (by decide)), e1082, mUp_ne (Or.inl (by decide))]
                  obtain ⟨ws9, ew9, hp9⟩ := OWe_pop (OWe_rf M1060) dW (by omega) e1082 hv9
                  refine wk_c2 r68_156 ?_
                  refine wk_icle r68_158 ⟨by omega, by omega⟩ (by decide) ?_ ?_
                  · intro h1093
                    refine wk_al0 r68_182 (wk_cv1 r68_183 kc_739_76 rfl (n8076_739 _ M1083 x739_30 v650 T hP1084 (mUp_no e1086 (mUp_no e1082 ((hQ1062.at g_739_30 rfl).trans e690) (Or.inr (by decide))) (Or.inr (by decide))) (by first | with_reducible assumption | omega) (by first | with_reducible assumption | omega) (mUp_no e1086 (mUp_no e1082 ((hQ1062.at g_739_31 rfl).trans e653) (Or.inr (by decide))) (Or.inr (by decide))) (by first | with_reducible assumption | omega) (by first | with_reducible assumption | omega) (by omega) (TXQ_sm (Sm.up e1086 g_739_47 rfl) (TXQ_sm (Sm.up e1082 g_739_46 rfl) (TXQ_sm (Sm.fr hQ1062 rfl) pr694)))) (cqV ?_))
                    rintro M1094 ⟨hP1095, hQ1096, h1098, h1099, h1100, h1101, h1102, xh1103, pr1104, pr1105, pr1106⟩
                    have hF1097 : Fr fm_n8068_739 M0 M1094 := hF1085.tr hQ1096 rfl
                    have e1107 := ((hQ1096.at g_739_30 rfl).trans (mUp_no e1086 (mUp_no e1082 ((hQ1062.at g_739_30 rfl).trans e690) (Or.inr (by decide))) (Or.inr (by decide))))
                    obtain ⟨v1108, e1109⟩ : ∃ v, M1094 739 31 = v := ⟨_, rfl⟩
                    have h1110 := (bf_739_31 hP1095).1; rw [e1109] at h1110
                    have h1111 := (bf_739_31 hP1095).2; rw [e1109] at h1111
                    obtain ⟨v1112, e1113⟩ : ∃ v, M1094 739 33 = v := ⟨_, rfl⟩
                    have h1114 := (bf_739_33 hP1095).1; rw [e1113] at h1114
                    have h1115 := (bf_739_33 hP1095).2; rw [e1113] at h1115
                    obtain ⟨v1116, e1117⟩ : ∃ v, M1094 739 34 = v := ⟨_, rfl⟩
                    have h1118 := (bf_739_34 hP1095).1; rw [e1117] at h1118
                    have h1119 := (bf_739_34 hP1095).2; rw [e1117] at h1119
                    obtain ⟨v1120, e1121⟩ : ∃ v, M1094 739 32 = v := ⟨_, rfl⟩
                    have h1122 := (bf_739_32 hP1095).1; rw [e1121] at h1122
                    have h1123 := (bf_739_32 hP1095).2; rw [e1121] at h1123
                    have hn1124 := nx_ofm (TTP_sm (Sm.up e1086 g_739_47 rfl) (TTP_sm (Sm.up e1082 g_739_46 rfl) (TTP_sm (Sm.fr hQ1062 rfl) pr695))) (mUp_no e1086 (mUp_no e1082 ((hQ1062.at g_739_30 rfl).trans e690) (Or.inr (by decide))) (Or.inr (by decide))) (mUp_no e1086 (mUp_no e1082 ((hQ1062.at g_739_33 rfl).trans e657) (Or.inr (by decide))) (Or.inr (by decide))) (mUp_no e1086 (mUp_no e1082 ((hQ1062.at g_739_31 rfl).trans e653) (Or.inr (by decide))) (Or.inr (by decide))) xh1103
                    refine wk_goto r68_186 (wk_goto r68_191 ?_)
                    exact wp_fg (le_s (le_s (le_n le_0))) (ih1309 (10 * (501 - v1112) + v644).toNat (by omega) M1094 v644 v1108 v1112 v1116 v1120 v666 (v670 - 1) v1070 (v1074 - 1) v682 v686 rfl hP1095 hF1097 e1109 e1113 e1117 e1121 ((hQ1096.at g_739_28 rfl).trans (mUp_no e1086 (mUp_no e1082 ((hQ1062.at g_739_28 rfl).trans e669) (Or.inr (by decide))) (Or.inr (by decide)))) ((hQ1096.at g_739_47 rfl).trans (mUp_at e1086)) ((hQ1096.at g_739_45 rfl).trans (mUp_no e1086 (mUp_no e1082 e1071 (Or.inr (by decide))) (Or.inr (by decide)))) ((hQ1096.at g_739_46 rfl).trans (mUp_no e1086 (mUp_at e1082) (Or.inr (by decide)))) ((hQ1096.at g_739_51 rfl).trans (mUp_no e1086 (mUp_no e1082 ((hQ1062.at g_739_51 rfl).trans e685) (Or.inr (by decide))) (Or.inr (by decide)))) ((hQ1096.at g_739_29 rfl).trans (mUp_no e1086 (mUp_no e1082 ((hQ1062.at g_739_29 rfl).trans e689) (Or.inr (by decide))) (Or.inr (by decide)))) ((hQ1096.at g_739_30 rfl).trans (mUp_no e1086 (mUp_no e1082 ((hQ1062.at g_739_30 rfl).trans e690) (Or.inr (by decide))) (Or.inr (by decide)))) ((hQ1096.at g_739_38 rfl).trans (mUp_no e1086 (mUp_no e1082 ((hQ1062.at g_739_38 rfl).trans e691) (Or.inr (by decide))) (Or.inr (by decide)))) (by first | with_reducible assumption | omega) (by first | with_reducible assumption | omega) (by first | with_reducible assumption | omega) (by first | with_reducible assumption | omega) (by first | with_reducible assumption | omega) (by first | with_reducible assumption | omega) (by first | with_reducible assumption | omega) (by first | with_reducible assumption | omega) (by first | with_reducible assumption | omega) (by first | with_reducible assumption | omega) (by first | with_reducible assumption | omega) (by first | with_reducible assumption | omega) (by first | with_reducible assumption | omega) (by first | with_reducible assumption | omega) (by first | with_reducible assumption | omega) (by first | with_reducible assumption | omega) (by first | with_reducible assumption | omega) (by first | with_reducible assumption | omega) (by first | with_reducible assumption | omega) (by first | with_reducible assumption | omega) (by first | with_reducible assumption | omega) (by first | with_reducible assumption | omega) pr1104 (GE_sm (Sm.fr hQ1096 rfl) pr1087) pr1105 pr1106 (by first | with_reducible assumption | omega) (by first | with_reducible assumption | omega) (by first | with_reducible assumption | omega) (by first | with_reducible assumption | omega) (by first | with_reducible assumption | omega) (by first | with_reducible assumption | omega) (by first | with_reducible assumption | omega) (by first | with_reducible assumption | omega) (by first | with_reducible assumption | omega) (by first | with_reducible assumption | omega) (by first | with_reducible assumption | omega) (by first | with_reducible assumption | omega) (by first | with_reducible assumption | omega) (EXX_a (e182x (P := OW M1060) (b := v1088) (ws := ws9) ti709 (by omega) (by omega) (by omega) (by omega) (by omega) (by omega) hd9 ew9 (by rw [if_neg (by omega)]; exact (OWe_sm (Sm.fr hQ1096 rfl) (OWe_sm (Sm.up e1086 g_739_47 rfl) hp9)))) (by omega)))
                  · intro h1125
                    refine wk_al0 r68_161 (wk_c2 r68_162 (wk_al0 r68_164 (wk_getfr r68_165 fd_739_50 (br_739_50 hP1084) (wk_al0 r68_168 (wk_getfi r68_169 fd_739_46 (mUp_no e1086 (mUp_at e1082) (Or.inr (by decide))) (wk_iald r68_172 ar_758 ⟨by omega, by omega⟩ e1089 (wk_c2 r68_173 (wk_idiv r68_175 ⟨by omega, by omega⟩ (by decide) (wk_c1 r68_176 (wk_isub r68_177 (wk_c1 r68_178 (wk_cv4 r68_179 kc_739_117 rfl (n8117_739 _ M1083 13 ((v1088 / 16) - 1) 0 v1070 hP1084 (by decide) (by decide) (by first | with_reducible assumption | omega) (by first | with_reducible assumption | omega) (by decide) (by decide) (mUp_no e1086 (mUp_no e1082 e1071 (Or.inr (by decide))) (Or.inr (by decide))) (by first | with_reducible assumption | omega) (by first | with_reducible assumption | omega)) (cqV ?_)))))))))))))
                    rintro M1127 ⟨hP1128, hQ1129, h1131, h1132, xh1133⟩
                    have hF1130 : Fr fm_n8068_739 M0 M1127 := hF1085.tr hQ1129 rfl
                    obtain ⟨v1134, e1135⟩ : ∃ v, M1127 739 45 = v := ⟨_, rfl⟩
                    have h1136 := (bf_739_45 hP1128).1; rw [e1135] at h1136
                    have h1137 := (bf_739_45 hP1128).2; rw [e1135] at h1137
                    have pr1138 : GE M1127 x739_45 (fun k => M0 757 k) 1 0 := GE_says xh1133 pr1087 ⟨by omega, by unfold refok; omega, by omega⟩
                    have pr1139 : OWe M1127 (((OW M1060).1, ws9).1 ++ [13 + 16 * (v1088 / 16 - 1)], ((OW M1060).1, ws9).2) := OWe_c (OWe_put (OWe_sm (Sm.up e1086 g_739_47 rfl) hp9) xh1133 (bf_739_45 hP1084).1) (by show (((OW M1060).1, ws9).1 ++ [_], ((OW M1060).1, ws9).2) = (((OW M1060).1, ws9).1 ++ [_], ((OW M1060).1, ws9).2); congr 3 <;> omega)
                    refine wk_al0 r68_182 (wk_cv1 r68_183 kc_739_76 rfl (n8076_739 _ M1127 x739_30 v650 T hP1128 ((hQ1129.at g_739_30 rfl).trans (mUp_no e1086 (mUp_no e1082 ((hQ1062.at g_739_30 rfl).trans e690) (Or.inr (by decide))) (Or.inr (by decide)))) (by first | with_reducible assumption | omega) (by first | with_reducible assumption | omega) ((hQ1129.at g_739_31 rfl).trans (mUp_no e1086 (mUp_no e1082 ((hQ1062.at g_739_31 rfl).trans e653) (Or.inr (by decide))) (Or.inr (by decide)))) (by first | with_reducible assumption | omega) (by first | with_reducible assumption | omega) (by omega) (TXQ_sm (Sm.fr hQ1129 rfl) (TXQ_sm (Sm.up e1086 g_739_47 rfl) (TXQ_sm (Sm.up e1082 g_739_46 rfl) (TXQ_sm (Sm.fr hQ1062 rfl) pr694))))) (cqV ?_))
                    rintro M1140 ⟨hP1141, hQ1142, h1144, h1145, h1146, h1147, h1148, xh1149, pr1150, pr1151, pr1152⟩
                    have hF1143 : Fr fm_n8068_739 M0 M1140 := hF1130.tr hQ1142 rfl
                    have e1153 := ((hQ1142.at g_739_30 rfl).trans ((hQ1129.at g_739_30 rfl).trans (mUp_no e1086 (mUp_no e1082 ((hQ1062.at g_739_30 rfl).trans e690) (Or.inr (by decide))) (Or.inr (by decide)))))
                    obtain ⟨v1154, e1155⟩ : ∃ v, M1140 739 31 = v := ⟨_, rfl⟩
                    have h1156 := (bf_739_31 hP1141).1; rw [e1155] at h1156
                    have h1157 := (bf_739_31 hP1141).2; rw [e1155] at h1157
                    obtain ⟨v1158, e1159⟩ : ∃ v, M1140 739 33 = v := ⟨_, rfl⟩
                    have h1160 := (bf_739_33 hP1141).1; rw [e1159] at h1160
                    have h1161 := (bf_739_33 hP1141).2; rw [e1159] at h1161
                    obtain ⟨v1162, e1163⟩ : ∃ v, M1140 739 34 = v := ⟨_, rfl⟩
                    have h1164 := (bf_739_34 hP1141).1; rw [e1163] at h1164
                    have h1165 := (bf_739_34 hP1141).2; rw [e1163] at h1165
                    obtain ⟨v1166, e1167⟩ : ∃ v, M1140 739 32 = v := ⟨_, rfl⟩
                    have h1168 := (bf_739_32 hP1141).1; rw [e1167] at h1168
                    have h1169 := (bf_739_32 hP1141).2; rw [e1167] at h1169
                    have hn1170 := nx_ofm (TTP_sm (Sm.fr hQ1129 rfl) (TTP_sm (Sm.up e1086 g_739_47 rfl) (TTP_sm (Sm.up e1082 g_739_46 rfl) (TTP_sm (Sm.fr hQ1062 rfl) pr695)))) ((hQ1129.at g_739_30 rfl).trans (mUp_no e1086 (mUp_no e1082 ((hQ1062.at g_739_30 rfl).trans e690) (Or.inr (by decide))) (Or.inr (by decide)))) ((hQ1129.at g_739_33 rfl).trans (mUp_no e1086 (mUp_no e1082 ((hQ1062.at g_739_33 rfl).trans e657) (Or.inr (by decide))) (Or.inr (by decide)))) ((hQ1129.at g_739_31 rfl).trans (mUp_no e1086 (mUp_no e1082 ((hQ1062.at g_739_31 rfl).trans e653) (Or.inr (by decide))) (Or.inr (by decide)))) xh1149
                    refine wk_goto r68_186 (wk_goto r68_191 ?_)
                    exact wp_fg (le_s (le_s (le_n le_0))) (ih1309 (10 * (501 - v1158) + v644).toNat (by omega) M1140 v644 v1154 v1158 v1162 v1166 v666 (v670 - 1) v1134 (v1074 - 1) v682 v686 rfl hP1141 hF1143 e1155 e1159 e1163 e1167 ((hQ1142.at g_739_28 rfl).trans ((hQ1129.at g_739_28 rfl).trans (mUp_no e1086 (mUp_no e1082 ((hQ1062.at g_739_28 rfl).trans e669) (Or.inr (by decide))) (Or.inr (by decide))))) ((hQ1142.at g_739_47 rfl).trans ((hQ1129.at g_739_47 rfl).trans (mUp_at e1086))) ((hQ1142.at g_739_45 rfl).trans e1135) ((hQ1142.at g_739_46 rfl).trans ((hQ1129.at g_739_46 rfl).trans (mUp_no e1086 (mUp_at e1082) (Or.inr (by decide))))) ((hQ1142.at g_739_51 rfl).trans ((hQ1129.at g_739_51 rfl).trans (mUp_no e1086 (mUp_no e1082 ((hQ1062.at g_739_51 rfl).trans e685) (Or.inr (by decide))) (Or.inr (by decide))))) ((hQ1142.at g_739_29 rfl).trans ((hQ1129.at g_739_29 rfl).trans (mUp_no e1086 (mUp_no e1082 ((hQ1062.at g_739_29 rfl).trans e689) (Or.inr (by decide))) (Or.inr (by decide))))) ((hQ1142.at g_739_30 rfl).trans ((hQ1129.at g_739_30 rfl).trans (mUp_no e1086 (mUp_no e1082 ((hQ1062.at g_739_30 rfl).trans e690) (Or.inr (by decide))) (Or.inr (by decide))))) ((hQ1142.at g_739_38 rfl).trans ((hQ1129.at g_739_38 rfl).trans (mUp_no e1086 (mUp_no e1082 ((hQ1062.at g_739_38 rfl).trans e691) (Or.inr (by decide))) (Or.inr (by decide))))) (by first | with_reducible assumption | omega) (by first | with_reducible assumption | omega) (by first | with_reducible assumption | omega) (by first | with_reducible assumption | omega) (by first | with_reducible assumption | omega) (by first | with_reducible assumption | omega) (by first | with_reducible assumption | omega) (by first | with_reducible assumption | omega) (by first | with_reducible assumption | omega) (by first | with_reducible assumption | omega) (by first | with_reducible assumption | omega) (by first | with_reducible assumption | omega) (by first | with_reducible assumption | omega) (by first | with_reducible assumption | omega) (by first | with_reducible assumption | omega) (by first | with_reducible assumption | omega) (by first | with_reducible assumption | omega) (by first | with_reducible assumption | omega) (by first | with_reducible assumption | omega) (by first | with_reducible assumption | omega) (by first | with_reducible assumption | omega) (by first | with_reducible assumption | omega) pr1150 (GE_sm (Sm.fr hQ1142 rfl) pr1138) pr1151 pr1152 (by first | with_reducible assumption | omega) (by first | with_reducible assumption | omega) (by first | with_reducible assumption | omega) (by first | with_reducible assumption | omega) (by first | with_reducible assumption | omega) (by first | with_reducible assumption | omega) (by first | with_reducible assumption | omega) (by first | with_reducible assumption | omega) (by first | with_reducible assumption | omega) (by first | with_reducible assumption | omega) (by first | with_reducible assumption | omega) (by first | with_reducible assumption | omega) (by first | with_reducible assumption | omega) (EXX_a (e182x (P := OW M1060) (b := v1088) (ws := ws9) ti709 (by omega) (by omega) (by omega) (by omega) (by omega) (by omega) hd9 ew9 (by rw [if_pos (by omega)]; exact (OWe_sm (Sm.fr hQ1142 rfl) pr1139))) (by omega)))
            · intro h1171
              refine wk_al0 r68_61 (wk_il2 r68_62 (wk_c2 r68_63 ?_))
              refine wk_icne r68_65 ⟨by omega, by omega⟩ (by decide) ?_ ?_
              · intro h1172
                refine wk_c1 r68_72 ?_
                refine wk_cv2 r68_73 kc_739_63 rfl (n8063_739 _ M647 1 v674 v678 v670 x739_45 ((fun k => M0 757 k)) hP648 (by decide) (by decide) e677 (by first | with_reducible assumption | omega) (by first | with_reducible assumption | omega) e681 (by first | with_reducible assumption | omega) (by first | with_reducible assumption | omega) e673 (by first | with_reducible assumption | omega) (by first | with_reducible assumption | omega) (by omega) pr693) (cqV ?_)
                rintro M1173 ⟨hP1174, hQ1175, h1177, h1178, h1179, xh1180, xh1181, pr1182⟩
                have hF1176 : Fr fm_n8068_739 M0 M1173 := hF649.tr hQ1175 rfl
                obtain ⟨v1183, e1184⟩ : ∃ v, M1173 739 45 = v := ⟨_, rfl⟩
                have h1185 := (bf_739_45 hP1174).1; rw [e1184] at h1185
                have h1186 := (bf_739_45 hP1174).2; rw [e1184] at h1186
                obtain ⟨v1187, e1188⟩ : ∃ v, M1173 739 46 = v := ⟨_, rfl⟩
                have h1189 := (bf_739_46 hP1174).1; rw [e1188] at h1189
                have h1190 := (bf_739_46 hP1174).2; rw [e1188] at h1190
                have hd9 : OW M1173 = drp 1 (OW M647).2 (OW M647).1 := OW_dr (OWe_rf M647) xh1181
                refine wk_al0 r68_76 (wk_il2 r68_77 (wk_c2 r68_78 ?_))
                refine wk_icne r68_80 ⟨by omega, by omega⟩ (by decide) ?_ ?_
                · intro h1191
                  refine wk_c2 r68_88 ?_
                  refine wk_c1 r68_90 (wk_cv3 r68_91 kc_739_133 rfl (n8133_739 _ M1173 12 0 v1187 hP1174 (by decide) (by decide) (by decide) (by decide) e1188 (by first | with_reducible assumption | omega) (by first | with_reducible assumption | omega)) (cqV ?_))
                  rintro M1192 ⟨hP1193, hQ1194, h1196, h1197, xh1198⟩
                  have hF1195 : Fr fm_n8068_739 M0 M1192 := hF1176.tr hQ1194 rfl
                  obtain ⟨v1199, e1200⟩ : ∃ v, M1192 739 46 = v := ⟨_, rfl⟩
                  have h1201 := (bf_739_46 hP1193).1; rw [e1200] at h1201
                  have h1202 := (bf_739_46 hP1193).2; rw [e1200] at h1202
                  have pr1203 : GE M1192 x739_45 (fun k => M0 757 k) 0 0 := GE_bin xh1198 pr1182 (by omega)
                  have pr1204 : OWe M1192 ((OW M1173).1, (12) :: (OW M1173).2) := OWe_c (OWe_wai (OWe_rf M1173) xh1198 (bf_739_46 hP1174).1) (by show ((OW M1173).1, _ :: (OW M1173).2) = ((OW M1173).1, _ :: (OW M1173).2); congr 2 <;> omega)
                  refine wk_al0 r68_94 (wk_cv1 r68_95 kc_739_76 rfl (n8076_739 _ M1192 x739_30 v650 T hP1193 ((hQ1194.at g_739_30 rfl).trans ((hQ1175.at g_739_30 rfl).trans e690)) (by first | with_reducible assumption | omega) (by first | with_reducible assumption | omega) ((hQ1194.at g_739_31 rfl).trans ((hQ1175.at g_739_31 rfl).trans e653)) (by first | with_reducible assumption | omega) (by first | with_reducible assumption | omega) (by omega) (TXQ_sm (Sm.fr hQ1194 rfl) (TXQ_sm (Sm.fr hQ1175 rfl) pr694))) (cqV ?_))
                  rintro M1205 ⟨hP1206, hQ1207, h1209, h1210, h1211, h1212, h1213, xh1214, pr1215, pr1216, pr1217⟩
                  have hF1208 : Fr fm_n8068_739 M0 M1205 := hF1195.tr hQ1207 rfl
                  have e1218 := ((hQ1207.at g_739_30 rfl).trans ((hQ1194.at g_739_30 rfl).trans ((hQ1175.at g_739_30 rfl).trans e690)))
                  obtain ⟨v1219, e1220⟩ : ∃ v, M1205 739 31 = v := ⟨_, rfl⟩
                  have h1221 := (bf_739_31 hP1206).1; rw [e1220] at h1221
                  have h1222 := (bf_739_31 hP1206).2; rw [e1220] at h1222
                  obtain ⟨v1223, e1224⟩ : ∃ v, M1205 739 33 = v := ⟨_, rfl⟩
                  have h1225 := (bf_739_33 hP1206).1; rw [e1224] at h1225
                  have h1226 := (bf_739_33 hP1206).2; rw [e1224] at h1226
                  obtain ⟨v1227, e1228⟩ : ∃ v, M1205 739 34 = v := ⟨_, rfl⟩
                  have h1229 := (bf_739_34 hP1206).1; rw [e1228] at h1229
                  have h1230 := (bf_739_34 hP1206).2; rw [e1228] at h1230
                  obtain ⟨v1231, e1232⟩ : ∃ v, M1205 739 32 = v := ⟨_, rfl⟩
                  have h1233 := (bf_739_32 hP1206).1; rw [e1232] at h1233
                  have h1234 := (bf_739_32 hP1206).2; rw [e1232] at h1234
                  have hn1235 := nx_ofm (TTP_sm (Sm.fr hQ1194 rfl) (TTP_sm (Sm.fr hQ1175 rfl) pr695)) ((hQ1194.at g_739_30 rfl).trans ((hQ1175.at g_739_30 rfl).trans e690)) ((hQ1194.at g_739_33 rfl).trans ((hQ1175.at g_739_33 rfl).trans e657)) ((hQ1194.at g_739_31 rfl).trans ((hQ1175.at g_739_31 rfl).trans e653)) xh1214
                  refine wk_al0 r68_98 ?_
                  obtain ⟨v1236, e1237⟩ : ∃ v, M1205 739 36 = v := ⟨_, rfl⟩
                  have h1238 := (bf_739_36 hP1206).1; rw [e1237] at h1238
                  have h1239 := (bf_739_36 hP1206).2; rw [e1237] at h1239
                  obtain ⟨v1240, e1241⟩ : ∃ v, M1205 739 35 = v := ⟨_, rfl⟩
                  have h1242 := (bf_739_35 hP1206).1; rw [e1241] at h1242
                  have h1243 := (bf_739_35 hP1206).2; rw [e1241] at h1243
                  refine wk_cv1 r68_99 kc_739_116 rfl (n8116_739 _ M1205 x739_30 v1219 v1223 v1227 v1231 v666 v1183 v1199 v670 x739_38 v1236 v682 v1240 v686 x739_45 ((fun k => M0 757 k)) T (((0 : Int), (0 : Int), x739_33, (0 : Int))) (((OW M0).1, ([] : List Int))) hP1206 ((hQ1207.at g_739_30 rfl).trans ((hQ1194.at g_739_30 rfl).trans ((hQ1175.at g_739_30 rfl).trans e690))) (by first | with_reducible assumption | omega) (by first | with_reducible assumption | omega) e1220 (by first | with_reducible assumption | omega) (by first | with_reducible assumption | omega) e1224 (by first | with_reducible assumption | omega) (by first | with_reducible assumption | omega) e1228 (by first | with_reducible assumption | omega) (by first | with_reducible assumption | omega) e1232 (by first | with_reducible assumption | omega) (by first | with_reducible assumption | omega) ((hQ1207.at g_739_28 rfl).trans ((hQ1194.at g_739_28 rfl).trans ((hQ1175.at g_739_28 rfl).trans e669))) (by first | with_reducible assumption | omega) (by first | with_reducible assumption | omega) ((hQ1207.at g_739_45 rfl).trans ((hQ1194.at g_739_45 rfl).trans e1184)) (by first | with_reducible assumption | omega) (by first | with_reducible assumption | omega) ((hQ1207.at g_739_46 rfl).trans e1200) (by first | with_reducible assumption | omega) (by first | with_reducible assumption | omega) ((hQ1207.at g_739_47 rfl).trans ((hQ1194.at g_739_47 rfl).trans ((hQ1175.at g_739_47 rfl).trans e673))) (by first | with_reducible assumption | omega) (by first | with_reducible assumption | omega) ((hQ1207.at g_739_38 rfl).trans ((hQ1194.at g_739_38 rfl).trans ((hQ1175.at g_739_38 rfl).trans e691))) (by first | with_reducible assumption | omega) (by first | with_reducible assumption | omega) e1237 (by first | with_reducible assumption | omega) (by first | with_reducible assumption | omega) ((hQ1207.at g_739_51 rfl).trans ((hQ1194.at g_739_51 rfl).trans ((hQ1175.at g_739_51 rfl).trans e685))) (by first | with_reducible assumption | omega) (by first | with_reducible assumption | omega) e1241 (by first | with_reducible assumption | omega) (by first | with_reducible assumption | omega) ((hQ1207.at g_739_29 rfl).trans ((hQ1194.at g_739_29 rfl).trans ((hQ1175.at g_739_29 rfl).trans e689))) (by first | with_reducible assumption | omega) (by first | with_reducible assumption | omega) (by omega) (by omega) (by omega) (by omega) (by omega) (by omega) (by omega) (by omega) (e98x (l := 1) (b := 12) (P := OW M1173) ti709 (by omega) (by omega) (by omega) (by omega) hd9 (OWe_sm (Sm.fr hQ1207 rfl) pr1204)) pr1215 (GE_sm (Sm.fr hQ1207 rfl) pr1203) pr1216 pr1217) (cqV ?_)
                  rintro M1244 ⟨hP1245, hQ1246, h1248, h1249, h1250, h1251, h1252, h1253, h1254, h1255, h1256, h1257, h1258, h1259, h1260, xh1261, pr1262, pr1263, pr1264, pr1265⟩
                  have hF1247 : Fr fm_n8068_739 M0 M1244 := hF1208.tr hQ1246 rfl
                  have e1266 := ((hQ1246.at g_739_30 rfl).trans ((hQ1207.at g_739_30 rfl).trans ((hQ1194.at g_739_30 rfl).trans ((hQ1175.at g_739_30 rfl).trans e690))))
                  obtain ⟨v1267, e1268⟩ : ∃ v, M1244 739 31 = v := ⟨_, rfl⟩
                  have h1269 := (bf_739_31 hP1245).1; rw [e1268] at h1269
                  have h1270 := (bf_739_31 hP1245).2; rw [e1268] at h1270
                  obtain ⟨v1271, e1272⟩ : ∃ v, M1244 739 33 = v := ⟨_, rfl⟩
                  have h1273 := (bf_739_33 hP1245).1; rw [e1272] at h1273
                  have h1274 := (bf_739_33 hP1245).2; rw [e1272] at h1274
                  obtain ⟨v1275, e1276⟩ : ∃ v, M1244 739 34 = v := ⟨_, rfl⟩
                  have h1277 := (bf_739_34 hP1245).1; rw [e1276] at h1277
                  have h1278 := (bf_739_34 hP1245).2; rw [e1276] at h1278
                  obtain ⟨v1279, e1280⟩ : ∃ v, M1244 739 32 = v := ⟨_, rfl⟩
                  have h1281 := (bf_739_32 hP1245).1; rw [e1280] at h1281
                  have h1282 := (bf_739_32 hP1245).2; rw [e1280] at h1282
                  obtain ⟨v1283, e1284⟩ : ∃ v, M1244 739 28 = v := ⟨_, rfl⟩
                  have h1285 := (bf_739_28 hP1245).1; rw [e1284] at h1285
                  have h1286 := (bf_739_28 hP1245).2; rw [e1284] at h1286
                  obtain ⟨v1287, e1288⟩ : ∃ v, M1244 739 47 = v := ⟨_, rfl⟩
                  have h1289 := (bf_739_47 hP1245).1; rw [e1288] at h1289
                  have h1290 := (bf_739_47 hP1245).2; rw [e1288] at h1290
                  obtain ⟨v1291, e1292⟩ : ∃ v, M1244 739 45 = v := ⟨_, rfl⟩
                  have h1293 := (bf_739_45 hP1245).1; rw [e1292] at h1293
                  have h1294 := (bf_739_45 hP1245).2; rw [e1292] at h1294
                  obtain ⟨v1295, e1296⟩ : ∃ v, M1244 739 46 = v := ⟨_, rfl⟩
                  have h1297 := (bf_739_46 hP1245).1; rw [e1296] at h1297
                  have h1298 := (bf_739_46 hP1245).2; rw [e1296] at h1298
                  obtain ⟨v1299, e1300⟩ : ∃ v, M1244 739 51 = v := ⟨_, rfl⟩
                  have h1301 := (bf_739_51 hP1245).1; rw [e1300] at h1301
                  have h1302 := (bf_739_51 hP1245).2; rw [e1300] at h1302
                  obtain ⟨v1303, e1304⟩ : ∃ v, M1244 739 29 = v := ⟨_, rfl⟩
                  have h1305 := (bf_739_29 hP1245).1; rw [e1304] at h1305
                  have h1306 := (bf_739_29 hP1245).2; rw [e1304] at h1306
                  refine wk_goto r68_102 (wk_goto r68_191 ?_)
                  exact wp_fg (le_s (le_s (le_n le_0))) (ih1309 (10 * (501 - v1271) + v644).toNat (by omega) M1244 v644 v1267 v1271 v1275 v1279 v1283 v1287 v1291 v1295 v1299 v1303 rfl hP1245 hF1247 e1268 e1272 e1276 e1280 e1284 e1288 e1292 e1296 e1300 e1304 ((hQ1246.at g_739_30 rfl).trans ((hQ1207.at g_739_30 rfl).trans ((hQ1194.at g_739_30 rfl).trans ((hQ1175.at g_739_30 rfl).trans e690)))) ((hQ1246.at g_739_38 rfl).trans ((hQ1207.at g_739_38 rfl).trans ((hQ1194.at g_739_38 rfl).trans ((hQ1175.at g_739_38 rfl).trans e691)))) (by first | with_reducible assumption | omega) (by first | with_reducible assumption | omega) (by first | with_reducible assumption | omega) (by first | with_reducible assumption | omega) (by first | with_reducible assumption | omega) (by first | with_reducible assumption | omega) (by first | with_reducible assumption | omega) (by first | with_reducible assumption | omega) (by first | with_reducible assumption | omega) (by first | with_reducible assumption | omega) (by first | with_reducible assumption | omega) (by first | with_reducible assumption | omega) (by first | with_reducible assumption | omega) (by first | with_reducible assumption | omega) (by first | with_reducible assumption | omega) (by first | with_reducible assumption | omega) (by first | with_reducible assumption | omega) (by first | with_reducible assumption | omega) (by first | with_reducible assumption | omega) (by first | with_reducible assumption | omega) (by first | with_reducible assumption | omega) (by first | with_reducible assumption | omega) pr1262 pr1263 pr1264 pr1265 (by first | with_reducible assumption | omega) (by first | with_reducible assumption | omega) (by first | with_reducible assumption | omega) (by first | with_reducible assumption | omega) (by first | with_reducible assumption | omega) (by first | with_reducible assumption | omega) (by first | with_reducible assumption | omega) (by first | with_reducible assumption | omega) (by first | with_reducible assumption | omega) (by first | with_reducible assumption | omega) (by first | with_reducible assumption | omega) (by first | with_reducible assumption | omega) (by first | with_reducible assumption | omega) (EXX_a (RGX_c xh1261 (by omega) (by omega) rfl (by omega) (by omega) rfl) (by omega)))
                · intro h1307
                  exfalso
                  omega
              · intro h1308
                exfalso
                omega
    exact wp_fg (le_s (le_s (le_s le_0))) (c33_1309 _ M69 1 v92 v96 v100 v104 v108 v112 v116 v120 v124 v128 rfl hP70 hF72 e93 e97 e101 e105 e109 e113 e117 e121 e125 e129 ((hQ71.at g_739_30 rfl).trans ((hQ28.at g_739_30 rfl).trans (mUp_no e23 (mUp_no e19 (mUp_no e15 ex739_30 (Or.inr (by decide))) (Or.inr (by decide))) (Or.inr (by decide))))) ((hQ71.at g_739_38 rfl).trans ((hQ28.at g_739_38 rfl).trans (mUp_no e23 (mUp_no e19 (mUp_no e15 ex739_38 (Or.inr (by decide))) (Or.inr (by decide))) (Or.inr (by decide))))) (by first | with_reducible assumption | omega) (by first | with_reducible assumption | omega) (by first | with_reducible assumption | omega) (by first | with_reducible assumption | omega) (by first | with_reducible assumption | omega) (by first | with_reducible assumption | omega) (by first | with_reducible assumption | omega) (by first | with_reducible assumption | omega) (by first | with_reducible assumption | omega) (by first | with_reducible assumption | omega) (by first | with_reducible assumption | omega) (by first | with_reducible assumption | omega) (by first | with_reducible assumption | omega) (by first | with_reducible assumption | omega) (by first | with_reducible assumption | omega) (by first | with_reducible assumption | omega) (by first | with_reducible assumption | omega) (by first | with_reducible assumption | omega) (by first | with_reducible assumption | omega) (by first | with_reducible assumption | omega) (by first | with_reducible assumption | omega) (by first | with_reducible assumption | omega) pr87 pr88 pr89 pr90 (by first | with_reducible assumption | omega) (by first | with_reducible assumption | omega) (by first | with_reducible assumption | omega) (by first | with_reducible assumption | omega) (by first | with_reducible assumption | omega) (by first | with_reducible assumption | omega) (by first | with_reducible assumption | omega) (by first | with_reducible assumption | omega) (by first | with_reducible assumption | omega) (by first | with_reducible assumption | omega) (by first | with_reducible assumption | omega) (by first | with_reducible assumption | omega) (by first | with_reducible assumption | omega) (EXX_a (RGX_c xh86 (by omega) (by omega) rfl (by omega) (by omega) rfl) (by omega)))
  · intro h1310
    subst hQ; exact wk_ret r68_7 (⟨rfl, hP0, hF0, by have := ex739_30; have := ex739_31; omega, by have := ex739_31; have := ex739_33; have := ex739_34; omega, by have := ex739_31; have := ex739_33; have := ex739_34; omega, by have := ex739_34; have := ex739_32; omega, by have := ex739_33; omega, by have := ex739_28; omega, by have := ex739_33; have := ex739_45; have := ex739_28; omega, by have := ex739_45; omega, by have := ex739_29; omega, by have := ex739_29; have := ex739_28; omega, by have := ex739_29; have := ex739_28; omega, fun q => absurd q (by have := ex739_28; omega), Or.inl ⟨by omega, ex739_28.trans (by omega), ex739_29.trans (by omega)⟩, pp_TK, pp_TQ, pp_TT⟩)
