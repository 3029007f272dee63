/-! ===== written by program (wip/layer3/model.py): contracts of methods ===== -/
def fm_m9068_739 : Nat := 1356938545779010069195758067332661297480611728569957925602488559592754118656
/-- IslandHallModel.expression -/
theorem m9068_739 {B : eB} (d : Nat) (M0 : Mm) (x739_30 : Int) (x739_31 : Int) (x739_33 : Int) (x739_34 : Int) (x739_32 : Int) (x739_28 : Int) (x739_45 : Int) (x739_46 : Int) (x739_47 : Int) (x739_38 : Int) (x739_36 : Int) (x739_51 : Int) (x739_35 : Int) (hP0 : Pw M0) (ex739_30 : M0 739 30 = x739_30) (lx739_30 : 0 ≤ x739_30) (ux739_30 : x739_30 ≤ 500) (ex739_31 : M0 739 31 = x739_31) (lx739_31 : 0 ≤ x739_31) (ux739_31 : x739_31 ≤ 500) (ex739_33 : M0 739 33 = x739_33) (lx739_33 : 0 ≤ x739_33) (ux739_33 : x739_33 ≤ 500) (ex739_34 : M0 739 34 = x739_34) (lx739_34 : 0 ≤ x739_34) (ux739_34 : x739_34 ≤ 500) (ex739_32 : M0 739 32 = x739_32) (lx739_32 : 0 ≤ x739_32) (ux739_32 : x739_32 ≤ 4) (ex739_28 : M0 739 28 = x739_28) (lx739_28 : 0 ≤ x739_28) (ux739_28 : x739_28 ≤ 6) (ex739_45 : M0 739 45 = x739_45) (lx739_45 : 0 ≤ x739_45) (ux739_45 : x739_45 ≤ 1000) (ex739_46 : M0 739 46 = x739_46) (lx739_46 : 0 ≤ x739_46) (ux739_46 : x739_46 ≤ 520) (ex739_47 : M0 739 47 = x739_47) (lx739_47 : 0 ≤ x739_47) (ux739_47 : x739_47 ≤ 500) (ex739_38 : M0 739 38 = x739_38) (lx739_38 : 0 ≤ x739_38) (ux739_38 : x739_38 ≤ 999) (ex739_36 : M0 739 36 = x739_36) (lx739_36 : 0 ≤ x739_36) (ux739_36 : x739_36 ≤ 255) (ex739_51 : M0 739 51 = x739_51) (lx739_51 : 0 ≤ x739_51) (ux739_51 : x739_51 ≤ 1) (ex739_35 : M0 739 35 = x739_35) (lx739_35 : 0 ≤ x739_35) (ux739_35 : x739_35 ≤ 999) (rp0 : 0 ≤ x739_30 + (-1) * x739_31) (rp1 : 0 ≤ x739_31 + (-1) * x739_33 + (-1) * x739_34) (rp2 : 0 ≤ (-1) * x739_31 + x739_33 + x739_34) (rp3 : 0 ≤ 4 * x739_34 + (-1) * x739_32) (rp4 : 0 ≤ x739_33 + (-2) * x739_45 + 3000 * x739_28) (rp5 : 0 ≤ (-1) * x739_38 + 7 + 3000 * x739_28) (rp6 : 0 ≤ (-1) * x739_45 + 260) (pp_TK : TK M0) : Ct B (d + 7) 68 [R 739] M0 (qV fun M => Pw M ∧ Fr fm_m9068_739 M0 M ∧ 0 ≤ M 739 30 + (-1) * (M 739 31) ∧ 0 ≤ M 739 31 + (-1) * (M 739 33) + (-1) * (M 739 34) ∧ 0 ≤ (-1) * (M 739 31) + M 739 33 + M 739 34 ∧ 0 ≤ 4 * (M 739 34) + (-1) * (M 739 32) ∧ 0 ≤ M 739 33 + (-1) * x739_33 ∧ 0 ≤ M 739 28 + (-1) * x739_28 ∧ 0 ≤ M 739 33 + (-2) * (M 739 45) + 3000 * (M 739 28) + 3 ∧ 0 ≤ (-1) * (M 739 45) + 262 ∧ (ESP M0 M x739_45) ∧ (TK M)) := by
  refine ct_of (d := d + 6) (k := 2) (L := [some (R 739), none, none]) rfl rfl rfl ?_
  have hF0 := Fr.rf fm_m9068_739 M0
  generalize hQ : (qV fun M => Pw M ∧ Fr fm_m9068_739 M0 M ∧ 0 ≤ M 739 30 + (-1) * (M 739 31) ∧ 0 ≤ M 739 31 + (-1) * (M 739 33) + (-1) * (M 739 34) ∧ 0 ≤ (-1) * (M 739 31) + M 739 33 + M 739 34 ∧ 0 ≤ 4 * (M 739 34) + (-1) * (M 739 32) ∧ 0 ≤ M 739 33 + (-1) * x739_33 ∧ 0 ≤ M 739 28 + (-1) * x739_28 ∧ 0 ≤ M 739 33 + (-2) * (M 739 45) + 3000 * (M 739 28) + 3 ∧ 0 ≤ (-1) * (M 739 45) + 262 ∧ (ESP M0 M x739_45) ∧ (TK M)) = Q
  refine wk_al0 r68_0 (wk_cv1 r68_1 kc_739_84 rfl (m9084_739 _ M0 x739_28 hP0 ex739_28 (by first | assumption | omega) (by first | assumption | omega)) (cqI ?_))
  rintro v7 M1 ⟨hP2, hQ3, h8, h9, h5, h6⟩
  obtain rfl := Fr.same hQ3
  have e10 := ex739_28
  refine wk_ifne r68_4 ⟨by omega, by omega⟩ ?_ ?_
  · intro h11
    refine wk_al0 r68_8 (wk_c1 r68_9 (wk_putfi81 r68_10 fd_739_46 (wk_nw g_739_46 rfl hP0 hF0 (uf_739_46 (by decide)) ?_)))
    intro M12 hP13 hF14 e15
    refine wk_al0 r68_13 (wk_c1 r68_14 (wk_putfi81 r68_15 fd_739_47 (wk_nw g_739_47 rfl hP13 hF14 (uf_739_47 (by decide)) ?_)))
    intro M16 hP17 hF18 e19
    refine wk_al0 r68_18 (wk_c1 r68_19 (wk_putfz81 r68_20 fd_739_51 (by decide) (wk_nw g_739_51 rfl hP17 hF18 (uf_739_51 (by decide)) ?_)))
    intro M20 hP21 hF22 e23
    have pr24 : GE M20 x739_45 (fun k => M0 757 k) 0 1 := GE_init (mUp_no e23 (mUp_no e19 (mUp_no e15 ex739_45 (Or.inr (by decide))) (Or.inr (by decide))) (Or.inr (by decide))) (by omega) (mUp_no e23 (mUp_no e19 (mUp_at e15) (Or.inr (by decide))) (Or.inr (by decide))) (mUp_no e23 (mUp_at e19) (Or.inr (by decide))) (fun k => by rw [e23, mUp_ne (Or.inl (by decide)), e19, mUp_ne (Or.inl (by decide)), e15, mUp_ne (Or.inl (by decide))])
    refine wk_al0 r68_23 (wk_cv1 r68_24 kc_739_62 rfl (m9062_739 _ M20 x739_30 x739_31 x739_33 x739_34 x739_32 x739_28 x739_45 0 0 x739_45 ((fun k => M0 757 k)) hP21 (mUp_no e23 (mUp_no e19 (mUp_no e15 ex739_30 (Or.inr (by decide))) (Or.inr (by decide))) (Or.inr (by decide))) (by first | assumption | omega) (by first | assumption | omega) (mUp_no e23 (mUp_no e19 (mUp_no e15 ex739_31 (Or.inr (by decide))) (Or.inr (by decide))) (Or.inr (by decide))) (by first | assumption | omega) (by first | assumption | omega) (mUp_no e23 (mUp_no e19 (mUp_no e15 ex739_33 (Or.inr (by decide))) (Or.inr (by decide))) (Or.inr (by decide))) (by first | assumption | omega) (by first | assumption | omega) (mUp_no e23 (mUp_no e19 (mUp_no e15 ex739_34 (Or.inr (by decide))) (Or.inr (by decide))) (Or.inr (by decide))) (by first | assumption | omega) (by first | assumption | omega) (mUp_no e23 (mUp_no e19 (mUp_no e15 ex739_32 (Or.inr (by decide))) (Or.inr (by decide))) (Or.inr (by decide))) (by first | assumption | omega) (by first | assumption | omega) (mUp_no e23 (mUp_no e19 (mUp_no e15 ex739_28 (Or.inr (by decide))) (Or.inr (by decide))) (Or.inr (by decide))) (by first | assumption | omega) (by first | assumption | omega) (mUp_no e23 (mUp_no e19 (mUp_no e15 ex739_45 (Or.inr (by decide))) (Or.inr (by decide))) (Or.inr (by decide))) (by first | assumption | omega) (by first | assumption | omega) (mUp_no e23 (mUp_no e19 (mUp_at e15) (Or.inr (by decide))) (Or.inr (by decide))) (by first | assumption | omega) (by first | assumption | omega) (mUp_no e23 (mUp_at e19) (Or.inr (by decide))) (by first | assumption | omega) (by first | assumption | omega) (by omega) (by omega) (by omega) (by omega) (by omega) (by omega) (TK_sm (Sm.up e23 g_739_51 rfl) (TK_sm (Sm.up e19 g_739_47 rfl) (TK_sm (Sm.up e15 g_739_46 rfl) pp_TK))) pr24) (cqV ?_))
    rintro M25 ⟨hP26, hQ27, h29, h30, h31, h32, h33, h34, h35, h36, h37, h38, h39, h40, pr41, pr42⟩
    have hF28 : Fr fm_m9068_739 M0 M25 := hF22.tr hQ27 rfl
    have e43 := ((hQ27.at g_739_30 rfl).trans (mUp_no e23 (mUp_no e19 (mUp_no e15 ex739_30 (Or.inr (by decide))) (Or.inr (by decide))) (Or.inr (by decide))))
    have e44 := ((hQ27.at g_739_31 rfl).trans (mUp_no e23 (mUp_no e19 (mUp_no e15 ex739_31 (Or.inr (by decide))) (Or.inr (by decide))) (Or.inr (by decide))))
    have e45 := ((hQ27.at g_739_33 rfl).trans (mUp_no e23 (mUp_no e19 (mUp_no e15 ex739_33 (Or.inr (by decide))) (Or.inr (by decide))) (Or.inr (by decide))))
    have e46 := ((hQ27.at g_739_34 rfl).trans (mUp_no e23 (mUp_no e19 (mUp_no e15 ex739_34 (Or.inr (by decide))) (Or.inr (by decide))) (Or.inr (by decide))))
    have e47 := ((hQ27.at g_739_32 rfl).trans (mUp_no e23 (mUp_no e19 (mUp_no e15 ex739_32 (Or.inr (by decide))) (Or.inr (by decide))) (Or.inr (by decide))))
    obtain ⟨v48, e49⟩ : ∃ v, M25 739 28 = v := ⟨_, rfl⟩
    have h50 := bf_739_28 hP26; rw [e49] at h50
    have e51 := ((hQ27.at g_739_45 rfl).trans (mUp_no e23 (mUp_no e19 (mUp_no e15 ex739_45 (Or.inr (by decide))) (Or.inr (by decide))) (Or.inr (by decide))))
    have e52 := ((hQ27.at g_739_46 rfl).trans (mUp_no e23 (mUp_no e19 (mUp_at e15) (Or.inr (by decide))) (Or.inr (by decide))))
    obtain ⟨v53, e54⟩ : ∃ v, M25 739 47 = v := ⟨_, rfl⟩
    have h55 := bf_739_47 hP26; rw [e54] at h55
    refine wk_al0 r68_27 (wk_cv1 r68_28 kc_739_116 rfl (m9116_739 _ M25 x739_30 x739_31 x739_33 x739_34 x739_32 v48 x739_45 0 v53 x739_38 x739_36 0 x739_35 x739_45 ((fun k => M0 757 k)) hP26 ((hQ27.at g_739_30 rfl).trans (mUp_no e23 (mUp_no e19 (mUp_no e15 ex739_30 (Or.inr (by decide))) (Or.inr (by decide))) (Or.inr (by decide)))) (by first | assumption | omega) (by first | assumption | omega) ((hQ27.at g_739_31 rfl).trans (mUp_no e23 (mUp_no e19 (mUp_no e15 ex739_31 (Or.inr (by decide))) (Or.inr (by decide))) (Or.inr (by decide)))) (by first | assumption | omega) (by first | assumption | omega) ((hQ27.at g_739_33 rfl).trans (mUp_no e23 (mUp_no e19 (mUp_no e15 ex739_33 (Or.inr (by decide))) (Or.inr (by decide))) (Or.inr (by decide)))) (by first | assumption | omega) (by first | assumption | omega) ((hQ27.at g_739_34 rfl).trans (mUp_no e23 (mUp_no e19 (mUp_no e15 ex739_34 (Or.inr (by decide))) (Or.inr (by decide))) (Or.inr (by decide)))) (by first | assumption | omega) (by first | assumption | omega) ((hQ27.at g_739_32 rfl).trans (mUp_no e23 (mUp_no e19 (mUp_no e15 ex739_32 (Or.inr (by decide))) (Or.inr (by decide))) (Or.inr (by decide)))) (by first | assumption | omega) (by first | assumption | omega) e49 (by first | assumption | omega) (by first | assumption | omega) ((hQ27.at g_739_45 rfl).trans (mUp_no e23 (mUp_no e19 (mUp_no e15 ex739_45 (Or.inr (by decide))) (Or.inr (by decide))) (Or.inr (by decide)))) (by first | assumption | omega) (by first | assumption | omega) ((hQ27.at g_739_46 rfl).trans (mUp_no e23 (mUp_no e19 (mUp_at e15) (Or.inr (by decide))) (Or.inr (by decide)))) (by first | assumption | omega) (by first | assumption | omega) e54 (by first | assumption | omega) (by first | assumption | omega) ((hQ27.at g_739_38 rfl).trans (mUp_no e23 (mUp_no e19 (mUp_no e15 ex739_38 (Or.inr (by decide))) (Or.inr (by decide))) (Or.inr (by decide)))) (by first | assumption | omega) (by first | assumption | omega) ((hQ27.at g_739_36 rfl).trans (mUp_no e23 (mUp_no e19 (mUp_no e15 ex739_36 (Or.inr (by decide))) (Or.inr (by decide))) (Or.inr (by decide)))) (by first | assumption | omega) (by first | assumption | omega) ((hQ27.at g_739_51 rfl).trans (mUp_at e23)) (by first | assumption | omega) (by first | assumption | omega) ((hQ27.at g_739_35 rfl).trans (mUp_no e23 (mUp_no e19 (mUp_no e15 ex739_35 (Or.inr (by decide))) (Or.inr (by decide))) (Or.inr (by decide)))) (by first | assumption | omega) (by first | assumption | omega) (by omega) (by omega) (by omega) (by omega) (by omega) (by omega) (by omega) (by omega) pr41 pr42) (cqV ?_))
    rintro M56 ⟨hP57, hQ58, h60, h61, h62, h63, h64, h65, h66, h67, h68, h69, pr70, pr71⟩
    have hF59 : Fr fm_m9068_739 M0 M56 := hF28.tr hQ58 rfl
    have e72 := ((hQ58.at g_739_30 rfl).trans ((hQ27.at g_739_30 rfl).trans (mUp_no e23 (mUp_no e19 (mUp_no e15 ex739_30 (Or.inr (by decide))) (Or.inr (by decide))) (Or.inr (by decide)))))
    obtain ⟨v73, e74⟩ : ∃ v, M56 739 31 = v := ⟨_, rfl⟩
    have h75 := bf_739_31 hP57; rw [e74] at h75
    obtain ⟨v76, e77⟩ : ∃ v, M56 739 33 = v := ⟨_, rfl⟩
    have h78 := bf_739_33 hP57; rw [e77] at h78
    obtain ⟨v79, e80⟩ : ∃ v, M56 739 34 = v := ⟨_, rfl⟩
    have h81 := bf_739_34 hP57; rw [e80] at h81
    obtain ⟨v82, e83⟩ : ∃ v, M56 739 32 = v := ⟨_, rfl⟩
    have h84 := bf_739_32 hP57; rw [e83] at h84
    obtain ⟨v85, e86⟩ : ∃ v, M56 739 28 = v := ⟨_, rfl⟩
    have h87 := bf_739_28 hP57; rw [e86] at h87
    obtain ⟨v88, e89⟩ : ∃ v, M56 739 47 = v := ⟨_, rfl⟩
    have h90 := bf_739_47 hP57; rw [e89] at h90
    obtain ⟨v91, e92⟩ : ∃ v, M56 739 45 = v := ⟨_, rfl⟩
    have h93 := bf_739_45 hP57; rw [e92] at h93
    obtain ⟨v94, e95⟩ : ∃ v, M56 739 46 = v := ⟨_, rfl⟩
    have h96 := bf_739_46 hP57; rw [e95] at h96
    obtain ⟨v97, e98⟩ : ∃ v, M56 739 51 = v := ⟨_, rfl⟩
    have h99 := bf_739_51 hP57; rw [e98] at h99
    refine wk_c1 r68_31 (wk_is1 r68_32 rfl ?_)
    have c33_1071 : ∀ (k1071 : Nat) (M575 : Mm) (v572 : Int) (v578 : Int) (v582 : Int) (v586 : Int) (v590 : Int) (v594 : Int) (v598 : Int) (v602 : Int) (v606 : Int) (v610 : Int), (10 * (501 - v582) + v572).toNat = k1071 → Pw M575 → Fr fm_m9068_739 M0 M575 → M575 739 31 = v578 → M575 739 33 = v582 → M575 739 34 = v586 → M575 739 32 = v590 → M575 739 28 = v594 → M575 739 47 = v598 → M575 739 45 = v602 → M575 739 46 = v606 → M575 739 51 = v610 → M575 739 30 = x739_30 → M575 739 38 = x739_38 → 0 ≤ v572 → v572 ≤ 1 → 0 ≤ v578 → v578 ≤ 500 → 0 ≤ v582 → v582 ≤ 500 → 0 ≤ v586 → v586 ≤ 500 → 0 ≤ v590 → v590 ≤ 4 → 0 ≤ v594 → v594 ≤ 6 → 0 ≤ v598 → v598 ≤ 12 → 0 ≤ v602 → v602 ≤ 260 → 0 ≤ v606 → v606 ≤ 260 → 0 ≤ v610 → v610 ≤ 0 → (TK M575) → (GE M575 x739_45 (fun k => M0 757 k) 1 0) → 0 ≤ 1 * x739_30 + (-1) * v578 → 0 ≤ 1 * v578 + (-1) * v582 + (-1) * v586 → 0 ≤ (-1) * v578 + 1 * v582 + 1 * v586 → 0 ≤ 4 * v586 + (-1) * v590 → 0 ≤ 1 * v582 + 1 * v598 + (-2) * v602 + (-2) * v606 + 3000 * v594 → 0 ≤ (-2) * v602 + (-2) * v606 + 520 → 0 ≤ (-1) * v598 + 1 * v594 + 6 → 0 ≤ 1 * v582 + (-1) * x739_33 → 0 ≤ 1 * v594 + (-1) * x739_28 → 0 ≤ (-1) * x739_38 + 7 + 3000 * v594 → 0 ≤ (-1) * v610 → Wp B (d + 6) 68 33 [some (R 739), some (I v572), none] [] M575 Q := by
      refine lp_ind ?_
      intro k1071 ih1071 M575 v572 v578 v582 v586 v590 v594 v598 v602 v606 v610 hk1071 hP576 hF577 e581 e585 e589 e593 e597 e601 e605 e609 e613 e614 e615 h573 h574 h579 h580 h583 h584 h587 h588 h591 h592 h595 h596 h599 h600 h603 h604 h607 h608 h611 h612 pr616 pr617 h618 h619 h620 h621 h622 h623 h624 h625 h626 h627 h628
      refine wk_il1 r68_33 ?_
      have c194_1070 : Wp B (d + 6) 68 194 [some (R 739), none, none] [] M575 Q := by
        refine wk_al0 r68_194 (wk_cv1 r68_195 kc_739_84 rfl (m9084_739 _ M575 v594 hP576 e597 (by first | assumption | omega) (by first | assumption | omega)) (cqI ?_))
        rintro v977 M971 ⟨hP972, hQ973, h978, h979, h975, h976⟩
        obtain rfl := Fr.same hQ973
        have e980 := e597
        refine wk_ifeq r68_198 ⟨by omega, by omega⟩ ?_ ?_
        · intro h981
          refine wk_al0 r68_214 (wk_c1 r68_215 (wk_cv2 r68_216 kc_739_63 rfl (m9063_739 _ M575 1 v602 v606 v598 x739_45 ((fun k => M0 757 k)) hP576 (by decide) (by decide) e605 (by first | assumption | omega) (by first | assumption | omega) e609 (by first | assumption | omega) (by first | assumption | omega) e601 (by first | assumption | omega) (by first | assumption | omega) (by omega) pr617) (cqV ?_)))
          rintro M982 ⟨hP983, hQ984, h986, h987, h988, xh989, pr990⟩
          have hF985 : Fr fm_m9068_739 M0 M982 := hF577.tr hQ984 rfl
          obtain ⟨v991, e992⟩ : ∃ v, M982 739 45 = v := ⟨_, rfl⟩
          have h993 := bf_739_45 hP983; rw [e992] at h993
          obtain ⟨v994, e995⟩ : ∃ v, M982 739 46 = v := ⟨_, rfl⟩
          have h996 := bf_739_46 hP983; rw [e995] at h996
          refine wk_al0 r68_219 (wk_c1 r68_220 (wk_c1 r68_221 (wk_c1 r68_222 (wk_cv4 r68_223 kc_739_117 rfl (m9117_739 _ M982 0 0 0 v991 hP983 (by decide) (by decide) (by decide) (by decide) (by decide) (by decide) e992 (by first | assumption | omega) (by first | assumption | omega)) (cqV ?_)))))
          rintro M997 ⟨hP998, hQ999, h1001, h1002, xh1003⟩
          have hF1000 : Fr fm_m9068_739 M0 M997 := hF985.tr hQ999 rfl
          obtain ⟨v1004, e1005⟩ : ∃ v, M997 739 45 = v := ⟨_, rfl⟩
          have h1006 := bf_739_45 hP998; rw [e1005] at h1006
          subst hQ; exact wk_ret r68_226 (⟨rfl, hP998, hF1000, by have := ((hQ999.at g_739_30 rfl).trans ((hQ984.at g_739_30 rfl).trans e614)); have := ((hQ999.at g_739_31 rfl).trans ((hQ984.at g_739_31 rfl).trans e581)); omega, by have := ((hQ999.at g_739_31 rfl).trans ((hQ984.at g_739_31 rfl).trans e581)); have := ((hQ999.at g_739_33 rfl).trans ((hQ984.at g_739_33 rfl).trans e585)); have := ((hQ999.at g_739_34 rfl).trans ((hQ984.at g_739_34 rfl).trans e589)); omega, by have := ((hQ999.at g_739_31 rfl).trans ((hQ984.at g_739_31 rfl).trans e581)); have := ((hQ999.at g_739_33 rfl).trans ((hQ984.at g_739_33 rfl).trans e585)); have := ((hQ999.at g_739_34 rfl).trans ((hQ984.at g_739_34 rfl).trans e589)); omega, by have := ((hQ999.at g_739_34 rfl).trans ((hQ984.at g_739_34 rfl).trans e589)); have := ((hQ999.at g_739_32 rfl).trans ((hQ984.at g_739_32 rfl).trans e593)); omega, by have := ((hQ999.at g_739_33 rfl).trans ((hQ984.at g_739_33 rfl).trans e585)); omega, by have := ((hQ999.at g_739_28 rfl).trans ((hQ984.at g_739_28 rfl).trans e597)); omega, by have := ((hQ999.at g_739_33 rfl).trans ((hQ984.at g_739_33 rfl).trans e585)); have := e1005; have := ((hQ999.at g_739_28 rfl).trans ((hQ984.at g_739_28 rfl).trans e597)); omega, by have := e1005; omega, ES_put xh1003 pr990 (by omega), (TK_sm (Sm.fr hQ999 rfl) (TK_sm (Sm.fr hQ984 rfl) pr616))⟩)
        · intro h1007
          refine wk_al0 r68_201 (wk_getfi r68_202 fd_739_47 e601 (wk_c1 r68_205 ?_))
          refine wk_icle r68_206 ⟨by omega, by omega⟩ (by decide) ?_ ?_
          · intro h1008
            refine wk_al0 r68_214 (wk_c1 r68_215 (wk_cv2 r68_216 kc_739_63 rfl (m9063_739 _ M575 1 v602 v606 v598 x739_45 ((fun k => M0 757 k)) hP576 (by decide) (by decide) e605 (by first | assumption | omega) (by first | assumption | omega) e609 (by first | assumption | omega) (by first | assumption | omega) e601 (by first | assumption | omega) (by first | assumption | omega) (by omega) pr617) (cqV ?_)))
            rintro M1009 ⟨hP1010, hQ1011, h1013, h1014, h1015, xh1016, pr1017⟩
            have hF1012 : Fr fm_m9068_739 M0 M1009 := hF577.tr hQ1011 rfl
            obtain ⟨v1018, e1019⟩ : ∃ v, M1009 739 45 = v := ⟨_, rfl⟩
            have h1020 := bf_739_45 hP1010; rw [e1019] at h1020
            obtain ⟨v1021, e1022⟩ : ∃ v, M1009 739 46 = v := ⟨_, rfl⟩
            have h1023 := bf_739_46 hP1010; rw [e1022] at h1023
            refine wk_al0 r68_219 (wk_c1 r68_220 (wk_c1 r68_221 (wk_c1 r68_222 (wk_cv4 r68_223 kc_739_117 rfl (m9117_739 _ M1009 0 0 0 v1018 hP1010 (by decide) (by decide) (by decide) (by decide) (by decide) (by decide) e1019 (by first | assumption | omega) (by first | assumption | omega)) (cqV ?_)))))
            rintro M1024 ⟨hP1025, hQ1026, h1028, h1029, xh1030⟩
            have hF1027 : Fr fm_m9068_739 M0 M1024 := hF1012.tr hQ1026 rfl
            obtain ⟨v1031, e1032⟩ : ∃ v, M1024 739 45 = v := ⟨_, rfl⟩
            have h1033 := bf_739_45 hP1025; rw [e1032] at h1033
            subst hQ; exact wk_ret r68_226 (⟨rfl, hP1025, hF1027, by have := ((hQ1026.at g_739_30 rfl).trans ((hQ1011.at g_739_30 rfl).trans e614)); have := ((hQ1026.at g_739_31 rfl).trans ((hQ1011.at g_739_31 rfl).trans e581)); omega, by have := ((hQ1026.at g_739_31 rfl).trans ((hQ1011.at g_739_31 rfl).trans e581)); have := ((hQ1026.at g_739_33 rfl).trans ((hQ1011.at g_739_33 rfl).trans e585)); have := ((hQ1026.at g_739_34 rfl).trans ((hQ1011.at g_739_34 rfl).trans e589)); omega, by have := ((hQ1026.at g_739_31 rfl).trans ((hQ1011.at g_739_31 rfl).trans e581)); have := ((hQ1026.at g_739_33 rfl).trans ((hQ1011.at g_739_33 rfl).trans e585)); have := ((hQ1026.at g_739_34 rfl).trans ((hQ1011.at g_739_34 rfl).trans e589)); omega, by have := ((hQ1026.at g_739_34 rfl).trans ((hQ1011.at g_739_34 rfl).trans e589)); have := ((hQ1026.at g_739_32 rfl).trans ((hQ1011.at g_739_32 rfl).trans e593)); omega, by have := ((hQ1026.at g_739_33 rfl).trans ((hQ1011.at g_739_33 rfl).trans e585)); omega, by have := ((hQ1026.at g_739_28 rfl).trans ((hQ1011.at g_739_28 rfl).trans e597)); omega, by have := ((hQ1026.at g_739_33 rfl).trans ((hQ1011.at g_739_33 rfl).trans e585)); have := e1032; have := ((hQ1026.at g_739_28 rfl).trans ((hQ1011.at g_739_28 rfl).trans e597)); omega, by have := e1032; omega, ES_put xh1030 pr1017 (by omega), (TK_sm (Sm.fr hQ1026 rfl) (TK_sm (Sm.fr hQ1011 rfl) pr616))⟩)
          · intro h1034
            refine wk_al0 r68_209 (wk_c1 r68_210 (wk_cv2 r68_211 kc_739_137 rfl (m9137_739 _ M575 1 v594 v582 hP576 (by decide) (by decide) e597 (by first | assumption | omega) (by first | assumption | omega) e585 (by first | assumption | omega) (by first | assumption | omega)) (cqV ?_)))
            rintro M1035 ⟨hP1036, hQ1037, h1039, h1040⟩
            have hF1038 : Fr fm_m9068_739 M0 M1035 := hF577.tr hQ1037 rfl
            obtain ⟨v1041, e1042⟩ : ∃ v, M1035 739 28 = v := ⟨_, rfl⟩
            have h1043 := bf_739_28 hP1036; rw [e1042] at h1043
            have pr1044 : GE M1035 x739_45 (fun k => M0 757 k) 1 0 := GE_mn (Sm.fr hQ1037 rfl) (fun q => by have := e597; have := e1042; omega) pr617
            refine wk_al0 r68_214 (wk_c1 r68_215 (wk_cv2 r68_216 kc_739_63 rfl (m9063_739 _ M1035 1 v602 v606 v598 x739_45 ((fun k => M0 757 k)) hP1036 (by decide) (by decide) ((hQ1037.at g_739_45 rfl).trans e605) (by first | assumption | omega) (by first | assumption | omega) ((hQ1037.at g_739_46 rfl).trans e609) (by first | assumption | omega) (by first | assumption | omega) ((hQ1037.at g_739_47 rfl).trans e601) (by first | assumption | omega) (by first | assumption | omega) (by omega) pr1044) (cqV ?_)))
            rintro M1045 ⟨hP1046, hQ1047, h1049, h1050, h1051, xh1052, pr1053⟩
            have hF1048 : Fr fm_m9068_739 M0 M1045 := hF1038.tr hQ1047 rfl
            obtain ⟨v1054, e1055⟩ : ∃ v, M1045 739 45 = v := ⟨_, rfl⟩
            have h1056 := bf_739_45 hP1046; rw [e1055] at h1056
            obtain ⟨v1057, e1058⟩ : ∃ v, M1045 739 46 = v := ⟨_, rfl⟩
            have h1059 := bf_739_46 hP1046; rw [e1058] at h1059
            refine wk_al0 r68_219 (wk_c1 r68_220 (wk_c1 r68_221 (wk_c1 r68_222 (wk_cv4 r68_223 kc_739_117 rfl (m9117_739 _ M1045 0 0 0 v1054 hP1046 (by decide) (by decide) (by decide) (by decide) (by decide) (by decide) e1055 (by first | assumption | omega) (by first | assumption | omega)) (cqV ?_)))))
            rintro M1060 ⟨hP1061, hQ1062, h1064, h1065, xh1066⟩
            have hF1063 : Fr fm_m9068_739 M0 M1060 := hF1048.tr hQ1062 rfl
            obtain ⟨v1067, e1068⟩ : ∃ v, M1060 739 45 = v := ⟨_, rfl⟩
            have h1069 := bf_739_45 hP1061; rw [e1068] at h1069
            subst hQ; exact wk_ret r68_226 (⟨rfl, hP1061, hF1063, by have := ((hQ1062.at g_739_30 rfl).trans ((hQ1047.at g_739_30 rfl).trans ((hQ1037.at g_739_30 rfl).trans e614))); have := ((hQ1062.at g_739_31 rfl).trans ((hQ1047.at g_739_31 rfl).trans ((hQ1037.at g_739_31 rfl).trans e581))); omega, by have := ((hQ1062.at g_739_31 rfl).trans ((hQ1047.at g_739_31 rfl).trans ((hQ1037.at g_739_31 rfl).trans e581))); have := ((hQ1062.at g_739_33 rfl).trans ((hQ1047.at g_739_33 rfl).trans ((hQ1037.at g_739_33 rfl).trans e585))); have := ((hQ1062.at g_739_34 rfl).trans ((hQ1047.at g_739_34 rfl).trans ((hQ1037.at g_739_34 rfl).trans e589))); omega, by have := ((hQ1062.at g_739_31 rfl).trans ((hQ1047.at g_739_31 rfl).trans ((hQ1037.at g_739_31 rfl).trans e581))); have := ((hQ1062.at g_739_33 rfl).trans ((hQ1047.at g_739_33 rfl).trans ((hQ1037.at g_739_33 rfl).trans e585))); have := ((hQ1062.at g_739_34 rfl).trans ((hQ1047.at g_739_34 rfl).trans ((hQ1037.at g_739_34 rfl).trans e589))); omega, by have := ((hQ1062.at g_739_34 rfl).trans ((hQ1047.at g_739_34 rfl).trans ((hQ1037.at g_739_34 rfl).trans e589))); have := ((hQ1062.at g_739_32 rfl).trans ((hQ1047.at g_739_32 rfl).trans ((hQ1037.at g_739_32 rfl).trans e593))); omega, by have := ((hQ1062.at g_739_33 rfl).trans ((hQ1047.at g_739_33 rfl).trans ((hQ1037.at g_739_33 rfl).trans e585))); omega, by have := ((hQ1062.at g_739_28 rfl).trans ((hQ1047.at g_739_28 rfl).trans e1042)); omega, by have := ((hQ1062.at g_739_33 rfl).trans ((hQ1047.at g_739_33 rfl).trans ((hQ1037.at g_739_33 rfl).trans e585))); have := e1068; have := ((hQ1062.at g_739_28 rfl).trans ((hQ1047.at g_739_28 rfl).trans e1042)); omega, by have := e1068; omega, ES_put xh1066 pr1053 (by omega), (TK_sm (Sm.fr hQ1062 rfl) (TK_sm (Sm.fr hQ1047 rfl) (TK_sm (Sm.fr hQ1037 rfl) pr616)))⟩)
      refine wk_ifeq r68_34 ⟨by omega, by omega⟩ ?_ ?_
      · intro h629
        exact wp_fg (le_s (le_n (le_s le_0))) c194_1070
      · intro h630
        refine wk_al0 r68_37 (wk_cv1 r68_38 kc_739_84 rfl (m9084_739 _ M575 v594 hP576 e597 (by first | assumption | omega) (by first | assumption | omega)) (cqI ?_))
        rintro v637 M631 ⟨hP632, hQ633, h638, h639, h635, h636⟩
        obtain rfl := Fr.same hQ633
        have e640 := e597
        refine wk_ifeq r68_41 ⟨by omega, by omega⟩ ?_ ?_
        · intro h641
          exact wp_fg (le_s (le_n (le_s le_0))) c194_1070
        · intro h642
          refine wk_al0 r68_44 (wk_cv1 r68_45 kc_739_97 rfl (m9097_739 _ M575 v590 v586 hP576 e593 (by first | assumption | omega) (by first | assumption | omega) e589 (by first | assumption | omega) (by first | assumption | omega) pr616) (cqI ?_))
          rintro v648 M643 ⟨hP644, hQ645, h649, h650, h647⟩
          obtain rfl := Fr.same hQ645
          have e651 := e589
          refine wk_is2 r68_48 rfl (wk_il2 r68_49 (wk_c2 r68_50 ?_))
          refine wk_iceq r68_52 ⟨by omega, by omega⟩ (by decide) ?_ ?_
          · intro h652
            refine wk_al0 r68_61 (wk_il2 r68_62 (wk_c2 r68_63 ?_))
            refine wk_icne r68_65 ⟨by omega, by omega⟩ (by decide) ?_ ?_
            · intro h653
              exfalso
              omega
            · intro h654
              refine wk_c1 r68_68 (wk_goto r68_69 (wk_cv2 r68_73 kc_739_63 rfl (m9063_739 _ M575 2 v602 v606 v598 x739_45 ((fun k => M0 757 k)) hP576 (by decide) (by decide) e605 (by first | assumption | omega) (by first | assumption | omega) e609 (by first | assumption | omega) (by first | assumption | omega) e601 (by first | assumption | omega) (by first | assumption | omega) (by omega) pr617) (cqV ?_)))
              rintro M655 ⟨hP656, hQ657, h659, h660, h661, xh662, pr663⟩
              have hF658 : Fr fm_m9068_739 M0 M655 := hF577.tr hQ657 rfl
              obtain ⟨v664, e665⟩ : ∃ v, M655 739 45 = v := ⟨_, rfl⟩
              have h666 := bf_739_45 hP656; rw [e665] at h666
              obtain ⟨v667, e668⟩ : ∃ v, M655 739 46 = v := ⟨_, rfl⟩
              have h669 := bf_739_46 hP656; rw [e668] at h669
              refine wk_al0 r68_76 (wk_il2 r68_77 (wk_c2 r68_78 ?_))
              refine wk_icne r68_80 ⟨by omega, by omega⟩ (by decide) ?_ ?_
              · intro h670
                exfalso
                omega
              · intro h671
                refine wk_c2 r68_83 (wk_goto r68_85 (wk_c1 r68_90 (wk_cv3 r68_91 kc_739_133 rfl (m9133_739 _ M655 11 0 v667 hP656 (by decide) (by decide) (by decide) (by decide) e668 (by first | assumption | omega) (by first | assumption | omega)) (cqV ?_))))
                rintro M672 ⟨hP673, hQ674, h676, h677, xh678⟩
                have hF675 : Fr fm_m9068_739 M0 M672 := hF658.tr hQ674 rfl
                obtain ⟨v679, e680⟩ : ∃ v, M672 739 46 = v := ⟨_, rfl⟩
                have h681 := bf_739_46 hP673; rw [e680] at h681
                have pr682 : GE M672 x739_45 (fun k => M0 757 k) 0 0 := GE_bin xh678 pr663 (by omega)
                refine wk_al0 r68_94 (wk_cv1 r68_95 kc_739_76 rfl (m9076_739 _ M672 x739_30 v578 hP673 ((hQ674.at g_739_30 rfl).trans ((hQ657.at g_739_30 rfl).trans e614)) (by first | assumption | omega) (by first | assumption | omega) ((hQ674.at g_739_31 rfl).trans ((hQ657.at g_739_31 rfl).trans e581)) (by first | assumption | omega) (by first | assumption | omega) (by omega)) (cqV ?_))
                rintro M683 ⟨hP684, hQ685, h687, h688, h689, h690, h691, pr692⟩
                have hF686 : Fr fm_m9068_739 M0 M683 := hF675.tr hQ685 rfl
                have e693 := ((hQ685.at g_739_30 rfl).trans ((hQ674.at g_739_30 rfl).trans ((hQ657.at g_739_30 rfl).trans e614)))
                obtain ⟨v694, e695⟩ : ∃ v, M683 739 31 = v := ⟨_, rfl⟩
                have h696 := bf_739_31 hP684; rw [e695] at h696
                obtain ⟨v697, e698⟩ : ∃ v, M683 739 33 = v := ⟨_, rfl⟩
                have h699 := bf_739_33 hP684; rw [e698] at h699
                obtain ⟨v700, e701⟩ : ∃ v, M683 739 34 = v := ⟨_, rfl⟩
                have h702 := bf_739_34 hP684; rw [e701] at h702
                obtain ⟨v703, e704⟩ : ∃ v, M683 739 32 = v := ⟨_, rfl⟩
                have h705 := bf_739_32 hP684; rw [e704] at h705
                refine wk_al0 r68_98 ?_
                obtain ⟨v706, e707⟩ : ∃ v, M683 739 36 = v := ⟨_, rfl⟩
                have h708 := bf_739_36 hP684; rw [e707] at h708
                obtain ⟨v709, e710⟩ : ∃ v, M683 739 35 = v := ⟨_, rfl⟩
                have h711 := bf_739_35 hP684; rw [e710] at h711
                refine wk_cv1 r68_99 kc_739_116 rfl (m9116_739 _ M683 x739_30 v694 v697 v700 v703 v594 v664 v679 v598 x739_38 v706 v610 v709 x739_45 ((fun k => M0 757 k)) hP684 ((hQ685.at g_739_30 rfl).trans ((hQ674.at g_739_30 rfl).trans ((hQ657.at g_739_30 rfl).trans e614))) (by first | assumption | omega) (by first | assumption | omega) e695 (by first | assumption | omega) (by first | assumption | omega) e698 (by first | assumption | omega) (by first | assumption | omega) e701 (by first | assumption | omega) (by first | assumption | omega) e704 (by first | assumption | omega) (by first | assumption | omega) ((hQ685.at g_739_28 rfl).trans ((hQ674.at g_739_28 rfl).trans ((hQ657.at g_739_28 rfl).trans e597))) (by first | assumption | omega) (by first | assumption | omega) ((hQ685.at g_739_45 rfl).trans ((hQ674.at g_739_45 rfl).trans e665)) (by first | assumption | omega) (by first | assumption | omega) ((hQ685.at g_739_46 rfl).trans e680) (by first | assumption | omega) (by first | assumption | omega) ((hQ685.at g_739_47 rfl).trans ((hQ674.at g_739_47 rfl).trans ((hQ657.at g_739_47 rfl).trans e601))) (by first | assumption | omega) (by first | assumption | omega) ((hQ685.at g_739_38 rfl).trans ((hQ674.at g_739_38 rfl).trans ((hQ657.at g_739_38 rfl).trans e615))) (by first | assumption | omega) (by first | assumption | omega) e707 (by first | assumption | omega) (by first | assumption | omega) ((hQ685.at g_739_51 rfl).trans ((hQ674.at g_739_51 rfl).trans ((hQ657.at g_739_51 rfl).trans e613))) (by first | assumption | omega) (by first | assumption | omega) e710 (by first | assumption | omega) (by first | assumption | omega) (by omega) (by omega) (by omega) (by omega) (by omega) (by omega) (by omega) (by omega) pr692 (GE_sm (Sm.fr hQ685 rfl) pr682)) (cqV ?_)
                rintro M712 ⟨hP713, hQ714, h716, h717, h718, h719, h720, h721, h722, h723, h724, h725, pr726, pr727⟩
                have hF715 : Fr fm_m9068_739 M0 M712 := hF686.tr hQ714 rfl
                have e728 := ((hQ714.at g_739_30 rfl).trans ((hQ685.at g_739_30 rfl).trans ((hQ674.at g_739_30 rfl).trans ((hQ657.at g_739_30 rfl).trans e614))))
                obtain ⟨v729, e730⟩ : ∃ v, M712 739 31 = v := ⟨_, rfl⟩
                have h731 := bf_739_31 hP713; rw [e730] at h731
                obtain ⟨v732, e733⟩ : ∃ v, M712 739 33 = v := ⟨_, rfl⟩
                have h734 := bf_739_33 hP713; rw [e733] at h734
                obtain ⟨v735, e736⟩ : ∃ v, M712 739 34 = v := ⟨_, rfl⟩
                have h737 := bf_739_34 hP713; rw [e736] at h737
                obtain ⟨v738, e739⟩ : ∃ v, M712 739 32 = v := ⟨_, rfl⟩
                have h740 := bf_739_32 hP713; rw [e739] at h740
                obtain ⟨v741, e742⟩ : ∃ v, M712 739 28 = v := ⟨_, rfl⟩
                have h743 := bf_739_28 hP713; rw [e742] at h743
                obtain ⟨v744, e745⟩ : ∃ v, M712 739 47 = v := ⟨_, rfl⟩
                have h746 := bf_739_47 hP713; rw [e745] at h746
                obtain ⟨v747, e748⟩ : ∃ v, M712 739 45 = v := ⟨_, rfl⟩
                have h749 := bf_739_45 hP713; rw [e748] at h749
                obtain ⟨v750, e751⟩ : ∃ v, M712 739 46 = v := ⟨_, rfl⟩
                have h752 := bf_739_46 hP713; rw [e751] at h752
                obtain ⟨v753, e754⟩ : ∃ v, M712 739 51 = v := ⟨_, rfl⟩
                have h755 := bf_739_51 hP713; rw [e754] at h755
                refine wk_goto r68_102 (wk_goto r68_191 ?_)
                exact wp_fg (le_s (le_s (le_n le_0))) (ih1071 (10 * (501 - v732) + v572).toNat (by omega) M712 v572 v729 v732 v735 v738 v741 v744 v747 v750 v753 rfl hP713 hF715 e730 e733 e736 e739 e742 e745 e748 e751 e754 ((hQ714.at g_739_30 rfl).trans ((hQ685.at g_739_30 rfl).trans ((hQ674.at g_739_30 rfl).trans ((hQ657.at g_739_30 rfl).trans e614)))) ((hQ714.at g_739_38 rfl).trans ((hQ685.at g_739_38 rfl).trans ((hQ674.at g_739_38 rfl).trans ((hQ657.at g_739_38 rfl).trans e615)))) (by first | assumption | omega) (by first | assumption | omega) (by first | assumption | omega) (by first | assumption | omega) (by first | assumption | omega) (by first | assumption | omega) (by first | assumption | omega) (by first | assumption | omega) (by first | assumption | omega) (by first | assumption | omega) (by first | assumption | omega) (by first | assumption | omega) (by first | assumption | omega) (by first | assumption | omega) (by first | assumption | omega) (by first | assumption | omega) (by first | assumption | omega) (by first | assumption | omega) (by first | assumption | omega) (by first | assumption | omega) pr726 pr727 (by first | assumption | omega) (by first | assumption | omega) (by first | assumption | omega) (by first | assumption | omega) (by first | assumption | omega) (by first | assumption | omega) (by first | assumption | omega) (by first | assumption | omega) (by first | assumption | omega) (by first | assumption | omega) (by first | assumption | omega))
          · intro h756
            refine wk_il2 r68_55 (wk_c2 r68_56 ?_)
            refine wk_icne r68_58 ⟨by omega, by omega⟩ (by decide) ?_ ?_
            · intro h757
              refine wk_al0 r68_105 (wk_c2 r68_106 ?_)
              obtain ⟨v758, e759⟩ : ∃ v, M575 739 36 = v := ⟨_, rfl⟩
              have h760 := bf_739_36 hP576; rw [e759] at h760
              refine wk_cv2 r68_108 kc_739_88 rfl (m9088_739 _ M575 41 v590 v758 hP576 (by decide) (by decide) e593 (by first | assumption | omega) (by first | assumption | omega) e759 (by first | assumption | omega) (by first | assumption | omega)) (cqI ?_)
              rintro v768 M761 ⟨hP762, hQ763, h769, h770, h765, h766, h767⟩
              obtain rfl := Fr.same hQ763
              have e771 := e593
              have e772 := e759
              refine wk_ifeq r68_111 ⟨by omega, by omega⟩ ?_ ?_
              · intro h773
                refine wk_c1 r68_189 (wk_is1 r68_190 rfl (wk_goto r68_191 ?_))
                exact wp_fg (le_s (le_s (le_n le_0))) (ih1071 (10 * (501 - v582) + 0).toNat (by omega) M575 0 v578 v582 v586 v590 v594 v598 v602 v606 v610 rfl hP576 hF577 e581 e585 e589 e593 e597 e601 e605 e609 e613 e614 e615 (by first | assumption | omega) (by first | assumption | omega) (by first | assumption | omega) (by first | assumption | omega) (by first | assumption | omega) (by first | assumption | omega) (by first | assumption | omega) (by first | assumption | omega) (by first | assumption | omega) (by first | assumption | omega) (by first | assumption | omega) (by first | assumption | omega) (by first | assumption | omega) (by first | assumption | omega) (by first | assumption | omega) (by first | assumption | omega) (by first | assumption | omega) (by first | assumption | omega) (by first | assumption | omega) (by first | assumption | omega) pr616 pr617 (by first | assumption | omega) (by first | assumption | omega) (by first | assumption | omega) (by first | assumption | omega) (by first | assumption | omega) (by first | assumption | omega) (by first | assumption | omega) (by first | assumption | omega) (by first | assumption | omega) (by first | assumption | omega) (by first | assumption | omega))
              · intro h774
                refine wk_al0 r68_114 (wk_getfi r68_115 fd_739_47 e601 (wk_c1 r68_118 ?_))
                refine wk_icle r68_119 ⟨by omega, by omega⟩ (by decide) ?_ ?_
                · intro h775
                  refine wk_c1 r68_189 (wk_is1 r68_190 rfl (wk_goto r68_191 ?_))
                  exact wp_fg (le_s (le_s (le_n le_0))) (ih1071 (10 * (501 - v582) + 0).toNat (by omega) M575 0 v578 v582 v586 v590 v594 v598 v602 v606 v610 rfl hP576 hF577 e581 e585 e589 e593 e597 e601 e605 e609 e613 e614 e615 (by first | assumption | omega) (by first | assumption | omega) (by first | assumption | omega) (by first | assumption | omega) (by first | assumption | omega) (by first | assumption | omega) (by first | assumption | omega) (by first | assumption | omega) (by first | assumption | omega) (by first | assumption | omega) (by first | assumption | omega) (by first | assumption | omega) (by first | assumption | omega) (by first | assumption | omega) (by first | assumption | omega) (by first | assumption | omega) (by first | assumption | omega) (by first | assumption | omega) (by first | assumption | omega) (by first | assumption | omega) pr616 pr617 (by first | assumption | omega) (by first | assumption | omega) (by first | assumption | omega) (by first | assumption | omega) (by first | assumption | omega) (by first | assumption | omega) (by first | assumption | omega) (by first | assumption | omega) (by first | assumption | omega) (by first | assumption | omega) (by first | assumption | omega))
                · intro h776
                  refine wk_al0 r68_122 (wk_c1 r68_123 (wk_cv2 r68_124 kc_739_63 rfl (m9063_739 _ M575 1 v602 v606 v598 x739_45 ((fun k => M0 757 k)) hP576 (by decide) (by decide) e605 (by first | assumption | omega) (by first | assumption | omega) e609 (by first | assumption | omega) (by first | assumption | omega) e601 (by first | assumption | omega) (by first | assumption | omega) (by omega) pr617) (cqV ?_)))
                  rintro M777 ⟨hP778, hQ779, h781, h782, h783, xh784, pr785⟩
                  have hF780 : Fr fm_m9068_739 M0 M777 := hF577.tr hQ779 rfl
                  obtain ⟨v786, e787⟩ : ∃ v, M777 739 45 = v := ⟨_, rfl⟩
                  have h788 := bf_739_45 hP778; rw [e787] at h788
                  obtain ⟨v789, e790⟩ : ∃ v, M777 739 46 = v := ⟨_, rfl⟩
                  have h791 := bf_739_46 hP778; rw [e790] at h791
                  have h792 : 1 ≤ v789 := by have q := GE_open pr785 ((hQ779.at g_739_28 rfl).trans e597) (by omega) ((hQ779.at g_739_47 rfl).trans e601) (by omega); have := e790; omega
                  have dE : GE M777 x739_45 (fun k => M0 757 k) 1 0 := pr785
                  have dW : M777 739 46 = v789 := e790
                  have dD : M777 739 47 = v598 := ((hQ779.at g_739_47 rfl).trans e601)
                  have dL := xh784 rfl
                  refine wk_al0 r68_127 (wk_dupr r68_128 (wk_getfi r68_129 fd_739_46 e790 (wk_c1 r68_132 (wk_isub r68_133 (wk_putfi81 r68_134 fd_739_46 (wk_nw g_739_46 rfl hP778 hF780 (uf_739_46 ⟨by omega, by omega⟩) ?_))))))
                  intro M793 hP794 hF795 e796
                  refine wk_al0 r68_137 (wk_dupr r68_138 (wk_getfi r68_139 fd_739_47 (mUp_no e796 ((hQ779.at g_739_47 rfl).trans e601) (Or.inr (by decide))) (wk_c1 r68_142 (wk_isub r68_143 (wk_putfi81 r68_144 fd_739_47 (wk_nw g_739_47 rfl hP794 hF795 (uf_739_47 ⟨by omega, by omega⟩) ?_))))))
                  intro M797 hP798 hF799 e800
                  have pr801 : GE M797 x739_45 (fun k => M0 757 k) 1 0 := GE_close dE dW (by omega) dD dL e796 e800
                  refine wk_al0 r68_147 (wk_getfr r68_148 fd_739_50 (br_739_50 hP798) (wk_al0 r68_151 (wk_getfi r68_152 fd_739_46 (mUp_no e800 (mUp_at e796) (Or.inr (by decide))) (wk_ialdb r68_155 ar_758 ⟨by omega, by omega⟩ (fun q0 q1 => ba_758 hP798 q0 q1) ?_))))
                  intro v802 h804 h805 e803
                  have h806 := cl_val dL dW (by omega) e796 e800 e803
                  refine wk_c2 r68_156 ?_
                  refine wk_icle r68_158 ⟨by omega, by omega⟩ (by decide) ?_ ?_
                  · intro h807
                    refine wk_al0 r68_182 (wk_cv1 r68_183 kc_739_76 rfl (m9076_739 _ M797 x739_30 v578 hP798 (mUp_no e800 (mUp_no e796 ((hQ779.at g_739_30 rfl).trans e614) (Or.inr (by decide))) (Or.inr (by decide))) (by first | assumption | omega) (by first | assumption | omega) (mUp_no e800 (mUp_no e796 ((hQ779.at g_739_31 rfl).trans e581) (Or.inr (by decide))) (Or.inr (by decide))) (by first | assumption | omega) (by first | assumption | omega) (by omega)) (cqV ?_))
                    rintro M808 ⟨hP809, hQ810, h812, h813, h814, h815, h816, pr817⟩
                    have hF811 : Fr fm_m9068_739 M0 M808 := hF799.tr hQ810 rfl
                    have e818 := ((hQ810.at g_739_30 rfl).trans (mUp_no e800 (mUp_no e796 ((hQ779.at g_739_30 rfl).trans e614) (Or.inr (by decide))) (Or.inr (by decide))))
                    obtain ⟨v819, e820⟩ : ∃ v, M808 739 31 = v := ⟨_, rfl⟩
                    have h821 := bf_739_31 hP809; rw [e820] at h821
                    obtain ⟨v822, e823⟩ : ∃ v, M808 739 33 = v := ⟨_, rfl⟩
                    have h824 := bf_739_33 hP809; rw [e823] at h824
                    obtain ⟨v825, e826⟩ : ∃ v, M808 739 34 = v := ⟨_, rfl⟩
                    have h827 := bf_739_34 hP809; rw [e826] at h827
                    obtain ⟨v828, e829⟩ : ∃ v, M808 739 32 = v := ⟨_, rfl⟩
                    have h830 := bf_739_32 hP809; rw [e829] at h830
                    refine wk_goto r68_186 (wk_goto r68_191 ?_)
                    exact wp_fg (le_s (le_s (le_n le_0))) (ih1071 (10 * (501 - v822) + v572).toNat (by omega) M808 v572 v819 v822 v825 v828 v594 (v598 - 1) v786 (v789 - 1) v610 rfl hP809 hF811 e820 e823 e826 e829 ((hQ810.at g_739_28 rfl).trans (mUp_no e800 (mUp_no e796 ((hQ779.at g_739_28 rfl).trans e597) (Or.inr (by decide))) (Or.inr (by decide)))) ((hQ810.at g_739_47 rfl).trans (mUp_at e800)) ((hQ810.at g_739_45 rfl).trans (mUp_no e800 (mUp_no e796 e787 (Or.inr (by decide))) (Or.inr (by decide)))) ((hQ810.at g_739_46 rfl).trans (mUp_no e800 (mUp_at e796) (Or.inr (by decide)))) ((hQ810.at g_739_51 rfl).trans (mUp_no e800 (mUp_no e796 ((hQ779.at g_739_51 rfl).trans e613) (Or.inr (by decide))) (Or.inr (by decide)))) ((hQ810.at g_739_30 rfl).trans (mUp_no e800 (mUp_no e796 ((hQ779.at g_739_30 rfl).trans e614) (Or.inr (by decide))) (Or.inr (by decide)))) ((hQ810.at g_739_38 rfl).trans (mUp_no e800 (mUp_no e796 ((hQ779.at g_739_38 rfl).trans e615) (Or.inr (by decide))) (Or.inr (by decide)))) (by first | assumption | omega) (by first | assumption | omega) (by first | assumption | omega) (by first | assumption | omega) (by first | assumption | omega) (by first | assumption | omega) (by first | assumption | omega) (by first | assumption | omega) (by first | assumption | omega) (by first | assumption | omega) (by first | assumption | omega) (by first | assumption | omega) (by first | assumption | omega) (by first | assumption | omega) (by first | assumption | omega) (by first | assumption | omega) (by first | assumption | omega) (by first | assumption | omega) (by first | assumption | omega) (by first | assumption | omega) pr817 (GE_sm (Sm.fr hQ810 rfl) pr801) (by first | assumption | omega) (by first | assumption | omega) (by first | assumption | omega) (by first | assumption | omega) (by first | assumption | omega) (by first | assumption | omega) (by first | assumption | omega) (by first | assumption | omega) (by first | assumption | omega) (by first | assumption | omega) (by first | assumption | omega))
                  · intro h831
                    refine wk_al0 r68_161 (wk_c2 r68_162 (wk_al0 r68_164 (wk_getfr r68_165 fd_739_50 (br_739_50 hP798) (wk_al0 r68_168 (wk_getfi r68_169 fd_739_46 (mUp_no e800 (mUp_at e796) (Or.inr (by decide))) (wk_iald r68_172 ar_758 ⟨by omega, by omega⟩ e803 (wk_c2 r68_173 (wk_idiv r68_175 ⟨by omega, by omega⟩ (by decide) (wk_c1 r68_176 (wk_isub r68_177 (wk_c1 r68_178 (wk_cv4 r68_179 kc_739_117 rfl (m9117_739 _ M797 13 ((v802 / 16) - 1) 0 v786 hP798 (by decide) (by decide) (by omega) (by omega) (by decide) (by decide) (mUp_no e800 (mUp_no e796 e787 (Or.inr (by decide))) (Or.inr (by decide))) (by first | assumption | omega) (by first | assumption | omega)) (cqV ?_)))))))))))))
                    rintro M833 ⟨hP834, hQ835, h837, h838, xh839⟩
                    have hF836 : Fr fm_m9068_739 M0 M833 := hF799.tr hQ835 rfl
                    obtain ⟨v840, e841⟩ : ∃ v, M833 739 45 = v := ⟨_, rfl⟩
                    have h842 := bf_739_45 hP834; rw [e841] at h842
                    have pr843 : GE M833 x739_45 (fun k => M0 757 k) 1 0 := GE_says xh839 pr801 ⟨by omega, by unfold refok; omega, by omega⟩
                    refine wk_al0 r68_182 (wk_cv1 r68_183 kc_739_76 rfl (m9076_739 _ M833 x739_30 v578 hP834 ((hQ835.at g_739_30 rfl).trans (mUp_no e800 (mUp_no e796 ((hQ779.at g_739_30 rfl).trans e614) (Or.inr (by decide))) (Or.inr (by decide)))) (by first | assumption | omega) (by first | assumption | omega) ((hQ835.at g_739_31 rfl).trans (mUp_no e800 (mUp_no e796 ((hQ779.at g_739_31 rfl).trans e581) (Or.inr (by decide))) (Or.inr (by decide)))) (by first | assumption | omega) (by first | assumption | omega) (by omega)) (cqV ?_))
                    rintro M844 ⟨hP845, hQ846, h848, h849, h850, h851, h852, pr853⟩
                    have hF847 : Fr fm_m9068_739 M0 M844 := hF836.tr hQ846 rfl
                    have e854 := ((hQ846.at g_739_30 rfl).trans ((hQ835.at g_739_30 rfl).trans (mUp_no e800 (mUp_no e796 ((hQ779.at g_739_30 rfl).trans e614) (Or.inr (by decide))) (Or.inr (by decide)))))
                    obtain ⟨v855, e856⟩ : ∃ v, M844 739 31 = v := ⟨_, rfl⟩
                    have h857 := bf_739_31 hP845; rw [e856] at h857
                    obtain ⟨v858, e859⟩ : ∃ v, M844 739 33 = v := ⟨_, rfl⟩
                    have h860 := bf_739_33 hP845; rw [e859] at h860
                    obtain ⟨v861, e862⟩ : ∃ v, M844 739 34 = v := ⟨_, rfl⟩
                    have h863 := bf_739_34 hP845; rw [e862] at h863
                    obtain ⟨v864, e865⟩ : ∃ v, M844 739 32 = v := ⟨_, rfl⟩
                    have h866 := bf_739_32 hP845; rw [e865] at h866
                    refine wk_goto r68_186 (wk_goto r68_191 ?_)
                    exact wp_fg (le_s (le_s (le_n le_0))) (ih1071 (10 * (501 - v858) + v572).toNat (by omega) M844 v572 v855 v858 v861 v864 v594 (v598 - 1) v840 (v789 - 1) v610 rfl hP845 hF847 e856 e859 e862 e865 ((hQ846.at g_739_28 rfl).trans ((hQ835.at g_739_28 rfl).trans (mUp_no e800 (mUp_no e796 ((hQ779.at g_739_28 rfl).trans e597) (Or.inr (by decide))) (Or.inr (by decide))))) ((hQ846.at g_739_47 rfl).trans ((hQ835.at g_739_47 rfl).trans (mUp_at e800))) ((hQ846.at g_739_45 rfl).trans e841) ((hQ846.at g_739_46 rfl).trans ((hQ835.at g_739_46 rfl).trans (mUp_no e800 (mUp_at e796) (Or.inr (by decide))))) ((hQ846.at g_739_51 rfl).trans ((hQ835.at g_739_51 rfl).trans (mUp_no e800 (mUp_no e796 ((hQ779.at g_739_51 rfl).trans e613) (Or.inr (by decide))) (Or.inr (by decide))))) ((hQ846.at g_739_30 rfl).trans ((hQ835.at g_739_30 rfl).trans (mUp_no e800 (mUp_no e796 ((hQ779.at g_739_30 rfl).trans e614) (Or.inr (by decide))) (Or.inr (by decide))))) ((hQ846.at g_739_38 rfl).trans ((hQ835.at g_739_38 rfl).trans (mUp_no e800 (mUp_no e796 ((hQ779.at g_739_38 rfl).trans e615) (Or.inr (by decide))) (Or.inr (by decide))))) (by first | assumption | omega) (by first | assumption | omega) (by first | assumption | omega) (by first | assumption | omega) (by first | assumption | omega) (by first | assumption | omega) (by first | assumption | omega) (by first | assumption | omega) (by first | assumption | omega) (by first | assumption | omega) (by first | assumption | omega) (by first | assumption | omega) (by first | assumption | omega) (by first | assumption | omega) (by first | assumption | omega) (by first | assumption | omega) (by first | assumption | omega) (by first | assumption | omega) (by first | assumption | omega) (by first | assumption | omega) pr853 (GE_sm (Sm.fr hQ846 rfl) pr843) (by first | assumption | omega) (by first | assumption | omega) (by first | assumption | omega) (by first | assumption | omega) (by first | assumption | omega) (by first | assumption | omega) (by first | assumption | omega) (by first | assumption | omega) (by first | assumption | omega) (by first | assumption | omega) (by first | assumption | omega))
            · intro h867
              refine wk_al0 r68_61 (wk_il2 r68_62 (wk_c2 r68_63 ?_))
              refine wk_icne r68_65 ⟨by omega, by omega⟩ (by decide) ?_ ?_
              · intro h868
                refine wk_c1 r68_72 (wk_cv2 r68_73 kc_739_63 rfl (m9063_739 _ M575 1 v602 v606 v598 x739_45 ((fun k => M0 757 k)) hP576 (by decide) (by decide) e605 (by first | assumption | omega) (by first | assumption | omega) e609 (by first | assumption | omega) (by first | assumption | omega) e601 (by first | assumption | omega) (by first | assumption | omega) (by omega) pr617) (cqV ?_))
                rintro M869 ⟨hP870, hQ871, h873, h874, h875, xh876, pr877⟩
                have hF872 : Fr fm_m9068_739 M0 M869 := hF577.tr hQ871 rfl
                obtain ⟨v878, e879⟩ : ∃ v, M869 739 45 = v := ⟨_, rfl⟩
                have h880 := bf_739_45 hP870; rw [e879] at h880
                obtain ⟨v881, e882⟩ : ∃ v, M869 739 46 = v := ⟨_, rfl⟩
                have h883 := bf_739_46 hP870; rw [e882] at h883
                refine wk_al0 r68_76 (wk_il2 r68_77 (wk_c2 r68_78 ?_))
                refine wk_icne r68_80 ⟨by omega, by omega⟩ (by decide) ?_ ?_
                · intro h884
                  refine wk_c2 r68_88 (wk_c1 r68_90 (wk_cv3 r68_91 kc_739_133 rfl (m9133_739 _ M869 12 0 v881 hP870 (by decide) (by decide) (by decide) (by decide) e882 (by first | assumption | omega) (by first | assumption | omega)) (cqV ?_)))
                  rintro M885 ⟨hP886, hQ887, h889, h890, xh891⟩
                  have hF888 : Fr fm_m9068_739 M0 M885 := hF872.tr hQ887 rfl
                  obtain ⟨v892, e893⟩ : ∃ v, M885 739 46 = v := ⟨_, rfl⟩
                  have h894 := bf_739_46 hP886; rw [e893] at h894
                  have pr895 : GE M885 x739_45 (fun k => M0 757 k) 0 0 := GE_bin xh891 pr877 (by omega)
                  refine wk_al0 r68_94 (wk_cv1 r68_95 kc_739_76 rfl (m9076_739 _ M885 x739_30 v578 hP886 ((hQ887.at g_739_30 rfl).trans ((hQ871.at g_739_30 rfl).trans e614)) (by first | assumption | omega) (by first | assumption | omega) ((hQ887.at g_739_31 rfl).trans ((hQ871.at g_739_31 rfl).trans e581)) (by first | assumption | omega) (by first | assumption | omega) (by omega)) (cqV ?_))
                  rintro M896 ⟨hP897, hQ898, h900, h901, h902, h903, h904, pr905⟩
                  have hF899 : Fr fm_m9068_739 M0 M896 := hF888.tr hQ898 rfl
                  have e906 := ((hQ898.at g_739_30 rfl).trans ((hQ887.at g_739_30 rfl).trans ((hQ871.at g_739_30 rfl).trans e614)))
                  obtain ⟨v907, e908⟩ : ∃ v, M896 739 31 = v := ⟨_, rfl⟩
                  have h909 := bf_739_31 hP897; rw [e908] at h909
                  obtain ⟨v910, e911⟩ : ∃ v, M896 739 33 = v := ⟨_, rfl⟩
                  have h912 := bf_739_33 hP897; rw [e911] at h912
                  obtain ⟨v913, e914⟩ : ∃ v, M896 739 34 = v := ⟨_, rfl⟩
                  have h915 := bf_739_34 hP897; rw [e914] at h915
                  obtain ⟨v916, e917⟩ : ∃ v, M896 739 32 = v := ⟨_, rfl⟩
                  have h918 := bf_739_32 hP897; rw [e917] at h918
                  refine wk_al0 r68_98 ?_
                  obtain ⟨v919, e920⟩ : ∃ v, M896 739 36 = v := ⟨_, rfl⟩
                  have h921 := bf_739_36 hP897; rw [e920] at h921
                  obtain ⟨v922, e923⟩ : ∃ v, M896 739 35 = v := ⟨_, rfl⟩
                  have h924 := bf_739_35 hP897; rw [e923] at h924
                  refine wk_cv1 r68_99 kc_739_116 rfl (m9116_739 _ M896 x739_30 v907 v910 v913 v916 v594 v878 v892 v598 x739_38 v919 v610 v922 x739_45 ((fun k => M0 757 k)) hP897 ((hQ898.at g_739_30 rfl).trans ((hQ887.at g_739_30 rfl).trans ((hQ871.at g_739_30 rfl).trans e614))) (by first | assumption | omega) (by first | assumption | omega) e908 (by first | assumption | omega) (by first | assumption | omega) e911 (by first | assumption | omega) (by first | assumption | omega) e914 (by first | assumption | omega) (by first | assumption | omega) e917 (by first | assumption | omega) (by first | assumption | omega) ((hQ898.at g_739_28 rfl).trans ((hQ887.at g_739_28 rfl).trans ((hQ871.at g_739_28 rfl).trans e597))) (by first | assumption | omega) (by first | assumption | omega) ((hQ898.at g_739_45 rfl).trans ((hQ887.at g_739_45 rfl).trans e879)) (by first | assumption | omega) (by first | assumption | omega) ((hQ898.at g_739_46 rfl).trans e893) (by first | assumption | omega) (by first | assumption | omega) ((hQ898.at g_739_47 rfl).trans ((hQ887.at g_739_47 rfl).trans ((hQ871.at g_739_47 rfl).trans e601))) (by first | assumption | omega) (by first | assumption | omega) ((hQ898.at g_739_38 rfl).trans ((hQ887.at g_739_38 rfl).trans ((hQ871.at g_739_38 rfl).trans e615))) (by first | assumption | omega) (by first | assumption | omega) e920 (by first | assumption | omega) (by first | assumption | omega) ((hQ898.at g_739_51 rfl).trans ((hQ887.at g_739_51 rfl).trans ((hQ871.at g_739_51 rfl).trans e613))) (by first | assumption | omega) (by first | assumption | omega) e923 (by first | assumption | omega) (by first | assumption | omega) (by omega) (by omega) (by omega) (by omega) (by omega) (by omega) (by omega) (by omega) pr905 (GE_sm (Sm.fr hQ898 rfl) pr895)) (cqV ?_)
                  rintro M925 ⟨hP926, hQ927, h929, h930, h931, h932, h933, h934, h935, h936, h937, h938, pr939, pr940⟩
                  have hF928 : Fr fm_m9068_739 M0 M925 := hF899.tr hQ927 rfl
                  have e941 := ((hQ927.at g_739_30 rfl).trans ((hQ898.at g_739_30 rfl).trans ((hQ887.at g_739_30 rfl).trans ((hQ871.at g_739_30 rfl).trans e614))))
                  obtain ⟨v942, e943⟩ : ∃ v, M925 739 31 = v := ⟨_, rfl⟩
                  have h944 := bf_739_31 hP926; rw [e943] at h944
                  obtain ⟨v945, e946⟩ : ∃ v, M925 739 33 = v := ⟨_, rfl⟩
                  have h947 := bf_739_33 hP926; rw [e946] at h947
                  obtain ⟨v948, e949⟩ : ∃ v, M925 739 34 = v := ⟨_, rfl⟩
                  have h950 := bf_739_34 hP926; rw [e949] at h950
                  obtain ⟨v951, e952⟩ : ∃ v, M925 739 32 = v := ⟨_, rfl⟩
                  have h953 := bf_739_32 hP926; rw [e952] at h953
                  obtain ⟨v954, e955⟩ : ∃ v, M925 739 28 = v := ⟨_, rfl⟩
                  have h956 := bf_739_28 hP926; rw [e955] at h956
                  obtain ⟨v957, e958⟩ : ∃ v, M925 739 47 = v := ⟨_, rfl⟩
                  have h959 := bf_739_47 hP926; rw [e958] at h959
                  obtain ⟨v960, e961⟩ : ∃ v, M925 739 45 = v := ⟨_, rfl⟩
                  have h962 := bf_739_45 hP926; rw [e961] at h962
                  obtain ⟨v963, e964⟩ : ∃ v, M925 739 46 = v := ⟨_, rfl⟩
                  have h965 := bf_739_46 hP926; rw [e964] at h965
                  obtain ⟨v966, e967⟩ : ∃ v, M925 739 51 = v := ⟨_, rfl⟩
                  have h968 := bf_739_51 hP926; rw [e967] at h968
                  refine wk_goto r68_102 (wk_goto r68_191 ?_)
                  exact wp_fg (le_s (le_s (le_n le_0))) (ih1071 (10 * (501 - v945) + v572).toNat (by omega) M925 v572 v942 v945 v948 v951 v954 v957 v960 v963 v966 rfl hP926 hF928 e943 e946 e949 e952 e955 e958 e961 e964 e967 ((hQ927.at g_739_30 rfl).trans ((hQ898.at g_739_30 rfl).trans ((hQ887.at g_739_30 rfl).trans ((hQ871.at g_739_30 rfl).trans e614)))) ((hQ927.at g_739_38 rfl).trans ((hQ898.at g_739_38 rfl).trans ((hQ887.at g_739_38 rfl).trans ((hQ871.at g_739_38 rfl).trans e615)))) (by first | assumption | omega) (by first | assumption | omega) (by first | assumption | omega) (by first | assumption | omega) (by first | assumption | omega) (by first | assumption | omega) (by first | assumption | omega) (by first | assumption | omega) (by first | assumption | omega) (by first | assumption | omega) (by first | assumption | omega) (by first | assumption | omega) (by first | assumption | omega) (by first | assumption | omega) (by first | assumption | omega) (by first | assumption | omega) (by first | assumption | omega) (by first | assumption | omega) (by first | assumption | omega) (by first | assumption | omega) pr939 pr940 (by first | assumption | omega) (by first | assumption | omega) (by first | assumption | omega) (by first | assumption | omega) (by first | assumption | omega) (by first | assumption | omega) (by first | assumption | omega) (by first | assumption | omega) (by first | assumption | omega) (by first | assumption | omega) (by first | assumption | omega))
                · intro h969
                  exfalso
                  omega
              · intro h970
                exfalso
                omega
    exact wp_fg (le_s (le_s (le_s le_0))) (c33_1071 _ M56 1 v73 v76 v79 v82 v85 v88 v91 v94 v97 rfl hP57 hF59 e74 e77 e80 e83 e86 e89 e92 e95 e98 ((hQ58.at g_739_30 rfl).trans ((hQ27.at g_739_30 rfl).trans (mUp_no e23 (mUp_no e19 (mUp_no e15 ex739_30 (Or.inr (by decide))) (Or.inr (by decide))) (Or.inr (by decide))))) ((hQ58.at g_739_38 rfl).trans ((hQ27.at g_739_38 rfl).trans (mUp_no e23 (mUp_no e19 (mUp_no e15 ex739_38 (Or.inr (by decide))) (Or.inr (by decide))) (Or.inr (by decide))))) (by first | assumption | omega) (by first | assumption | omega) (by first | assumption | omega) (by first | assumption | omega) (by first | assumption | omega) (by first | assumption | omega) (by first | assumption | omega) (by first | assumption | omega) (by first | assumption | omega) (by first | assumption | omega) (by first | assumption | omega) (by first | assumption | omega) (by first | assumption | omega) (by first | assumption | omega) (by first | assumption | omega) (by first | assumption | omega) (by first | assumption | omega) (by first | assumption | omega) (by first | assumption | omega) (by first | assumption | omega) pr70 pr71 (by first | assumption | omega) (by first | assumption | omega) (by first | assumption | omega) (by first | assumption | omega) (by first | assumption | omega) (by first | assumption | omega) (by first | assumption | omega) (by first | assumption | omega) (by first | assumption | omega) (by first | assumption | omega) (by first | assumption | omega))
  · intro h1072
    subst hQ; exact wk_ret r68_7 (⟨rfl, hP0, hF0, by have := ex739_30; have := ex739_31; omega, by have := ex739_31; have := ex739_33; have := ex739_34; omega, by have := ex739_31; have := ex739_33; have := ex739_34; omega, by have := ex739_34; have := ex739_32; omega, by have := ex739_33; omega, by have := ex739_28; omega, by have := ex739_33; have := ex739_45; have := ex739_28; omega, by have := ex739_45; omega, fun q => absurd q (by have := ex739_28; omega), pp_TK⟩)
def fm_m9119_739 : Nat := 54620200750467202666517121666041509319714645900003796313964544
/-- IslandHallModel.readsLies -/
theorem m9119_739 {B : eB} (d : Nat) (M0 : Mm) (x739_30 : Int) (x739_31 : Int) (x739_33 : Int) (x739_34 : Int) (x739_32 : Int) (x739_28 : Int) (x739_35 : Int) (hP0 : Pw M0) (ex739_30 : M0 739 30 = x739_30) (lx739_30 : 0 ≤ x739_30) (ux739_30 : x739_30 ≤ 500) (ex739_31 : M0 739 31 = x739_31) (lx739_31 : 0 ≤ x739_31) (ux739_31 : x739_31 ≤ 500) (ex739_33 : M0 739 33 = x739_33) (lx739_33 : 0 ≤ x739_33) (ux739_33 : x739_33 ≤ 500) (ex739_34 : M0 739 34 = x739_34) (lx739_34 : 0 ≤ x739_34) (ux739_34 : x739_34 ≤ 500) (ex739_32 : M0 739 32 = x739_32) (lx739_32 : 0 ≤ x739_32) (ux739_32 : x739_32 ≤ 4) (ex739_28 : M0 739 28 = x739_28) (lx739_28 : 0 ≤ x739_28) (ux739_28 : x739_28 ≤ 6) (ex739_35 : M0 739 35 = x739_35) (lx739_35 : 0 ≤ x739_35) (ux739_35 : x739_35 ≤ 999) (rp0 : 0 ≤ x739_30 + (-1) * x739_31) (rp1 : 0 ≤ x739_31 + (-1) * x739_33 + (-1) * x739_34) (rp2 : 0 ≤ (-1) * x739_31 + x739_33 + x739_34) (rp3 : 0 ≤ 4 * x739_34 + (-1) * x739_32) (pp_TK : TK M0) : Ct B (d + 4) 119 [R 739] M0 (qV fun M => Pw M ∧ Fr fm_m9119_739 M0 M ∧ 0 ≤ M 739 30 + (-1) * (M 739 31) ∧ 0 ≤ M 739 31 + (-1) * (M 739 33) + (-1) * (M 739 34) ∧ 0 ≤ (-1) * (M 739 31) + M 739 33 + M 739 34 ∧ 0 ≤ 4 * (M 739 34) + (-1) * (M 739 32) ∧ 0 ≤ M 739 33 + (-1) * x739_33 ∧ 0 ≤ M 739 28 + (-1) * x739_28 ∧ (TK M) ∧ (LRP M)) := by
  refine ct_of (d := d + 3) (k := 0) (L := [some (R 739)]) rfl rfl rfl ?_
  have hF0 := Fr.rf fm_m9119_739 M0
  generalize hQ : (qV fun M => Pw M ∧ Fr fm_m9119_739 M0 M ∧ 0 ≤ M 739 30 + (-1) * (M 739 31) ∧ 0 ≤ M 739 31 + (-1) * (M 739 33) + (-1) * (M 739 34) ∧ 0 ≤ (-1) * (M 739 31) + M 739 33 + M 739 34 ∧ 0 ≤ 4 * (M 739 34) + (-1) * (M 739 32) ∧ 0 ≤ M 739 33 + (-1) * x739_33 ∧ 0 ≤ M 739 28 + (-1) * x739_28 ∧ (TK M) ∧ (LRP M)) = Q
  refine wk_al0 r119_0 (wk_c1 r119_1 (wk_al0 r119_2 (wk_c1 r119_3 (wk_c2 r119_4 (wk_cv3 r119_6 kc_739_114 rfl (m9114_739 _ M0 0 6 x739_30 x739_31 x739_33 x739_34 x739_32 x739_28 x739_35 hP0 (by decide) (by decide) (by decide) (by decide) ex739_30 (by first | assumption | omega) (by first | assumption | omega) ex739_31 (by first | assumption | omega) (by first | assumption | omega) ex739_33 (by first | assumption | omega) (by first | assumption | omega) ex739_34 (by first | assumption | omega) (by first | assumption | omega) ex739_32 (by first | assumption | omega) (by first | assumption | omega) ex739_28 (by first | assumption | omega) (by first | assumption | omega) ex739_35 (by first | assumption | omega) (by first | assumption | omega) (by omega) (by omega) (by omega) (by omega) pp_TK) (cqI ?_))))))
  rintro v15 M1 ⟨hP2, hQ3, h16, h17, h5, h6, h7, h8, h9, h10, h11, h12, h13, pr14⟩
  have hF4 : Fr fm_m9119_739 M0 M1 := hF0.tr hQ3 rfl
  have e18 := ((hQ3.at g_739_30 rfl).trans ex739_30)
  obtain ⟨v19, e20⟩ : ∃ v, M1 739 31 = v := ⟨_, rfl⟩
  have h21 := bf_739_31 hP2; rw [e20] at h21
  obtain ⟨v22, e23⟩ : ∃ v, M1 739 33 = v := ⟨_, rfl⟩
  have h24 := bf_739_33 hP2; rw [e23] at h24
  obtain ⟨v25, e26⟩ : ∃ v, M1 739 34 = v := ⟨_, rfl⟩
  have h27 := bf_739_34 hP2; rw [e26] at h27
  obtain ⟨v28, e29⟩ : ∃ v, M1 739 32 = v := ⟨_, rfl⟩
  have h30 := bf_739_32 hP2; rw [e29] at h30
  obtain ⟨v31, e32⟩ : ∃ v, M1 739 28 = v := ⟨_, rfl⟩
  have h33 := bf_739_28 hP2; rw [e32] at h33
  rcases (show v31 = 0 ∨ 1 ≤ v31 by omega) with h34 | h35
  · refine wk_shl1 6 64 r119_9 ⟨by omega, by omega⟩ ⟨pwl_6, by decide⟩ ?_
    intro v36 h37 h38 h39
    refine wk_putfi81 r119_10 fd_739_42 (wk_nw g_739_42 rfl hP2 hF4 (uf_739_42 ⟨by omega, by omega⟩) ?_)
    intro M40 hP41 hF42 e43
    have pr44 : LRP M40 := fun _ => by have := (mUp_at e43); omega
    have c13_375 : ∀ (k375 : Nat) (M259 : Mm) (v262 : Int) (v266 : Int) (v270 : Int) (v274 : Int) (v278 : Int) (v282 : Int), (10 * (501 - v266) + (6 - v278)).toNat = k375 → Pw M259 → Fr fm_m9119_739 M0 M259 → M259 739 31 = v262 → M259 739 33 = v266 → M259 739 34 = v270 → M259 739 32 = v274 → M259 739 28 = v278 → M259 739 42 = v282 → M259 739 30 = x739_30 → 1 ≤ v262 → v262 ≤ 500 → 1 ≤ v266 → v266 ≤ 500 → 0 ≤ v270 → v270 ≤ 499 → 0 ≤ v274 → v274 ≤ 4 → 0 ≤ v278 → v278 ≤ 6 → (-2147483648) ≤ v282 → v282 ≤ 2147483647 → (TK M259) → (LRP M259) → 0 ≤ 1 * x739_30 + (-1) * v262 → 0 ≤ 1 * v262 + (-1) * v266 + (-1) * v270 → 0 ≤ (-1) * v262 + 1 * v266 + 1 * v270 → 0 ≤ 4 * v270 + (-1) * v274 → 0 ≤ 1 * v266 + (-1) * x739_33 → 0 ≤ 1 * v278 + (-1) * x739_28 → Wp B (d + 3) 119 13 [some (R 739)] [] M259 Q := by
      refine lp_ind ?_
      intro k375 ih375 M259 v262 v266 v270 v274 v278 v282 hk375 hP260 hF261 e265 e269 e273 e277 e281 e285 e286 h263 h264 h267 h268 h271 h272 h275 h276 h279 h280 h283 h284 pr287 pr288 h289 h290 h291 h292 h293 h294
      refine wk_al0 r119_13 (wk_cv1 r119_14 kc_739_84 rfl (m9084_739 _ M259 v278 hP260 e281 (by first | assumption | omega) (by first | assumption | omega)) (cqI ?_))
      rintro v301 M295 ⟨hP296, hQ297, h302, h303, h299, h300⟩
      obtain rfl := Fr.same hQ297
      have e304 := e281
      refine wk_ifeq r119_17 ⟨by omega, by omega⟩ ?_ ?_
      · intro h305
        subst hQ; exact wk_ret r119_49 (⟨rfl, hP260, hF261, by have := e286; have := e265; omega, by have := e265; have := e269; have := e273; omega, by have := e265; have := e269; have := e273; omega, by have := e273; have := e277; omega, by have := e269; omega, by have := e281; omega, pr287, pr288⟩)
      · intro h306
        refine wk_al0 r119_20 (wk_getfi r119_21 fd_739_32 e277 (wk_c1 r119_24 ?_))
        refine wk_icne r119_25 ⟨by omega, by omega⟩ (by decide) ?_ ?_
        · intro h307
          subst hQ; exact wk_ret r119_49 (⟨rfl, hP260, hF261, by have := e286; have := e265; omega, by have := e265; have := e269; have := e273; omega, by have := e265; have := e269; have := e273; omega, by have := e273; have := e277; omega, by have := e269; omega, by have := e281; omega, pr287, pr288⟩)
        · intro h308
          refine wk_al0 r119_28 (wk_dupr r119_29 (wk_getfi r119_30 fd_739_42 e285 ?_))
          have h309 : 0 ≤ v282 ∧ v282 ≤ 127 := by have q := pr288 (by have := e281; omega); have := e285; omega
          refine wk_c1 r119_33 (wk_al0 r119_34 (wk_c1 r119_35 (wk_c2 r119_36 ?_)))
          obtain ⟨v310, e311⟩ : ∃ v, M259 739 35 = v := ⟨_, rfl⟩
          have h312 := bf_739_35 hP260; rw [e311] at h312
          refine wk_cv3 r119_38 kc_739_114 rfl (m9114_739 _ M259 0 6 x739_30 v262 v266 v270 v274 v278 v310 hP260 (by decide) (by decide) (by decide) (by decide) e286 (by first | assumption | omega) (by first | assumption | omega) e265 (by first | assumption | omega) (by first | assumption | omega) e269 (by first | assumption | omega) (by first | assumption | omega) e273 (by first | assumption | omega) (by first | assumption | omega) e277 (by first | assumption | omega) (by first | assumption | omega) e281 (by first | assumption | omega) (by first | assumption | omega) e311 (by first | assumption | omega) (by first | assumption | omega) (by omega) (by omega) (by omega) (by omega) pr287) (cqI ?_)
          rintro v327 M313 ⟨hP314, hQ315, h328, h329, h317, h318, h319, h320, h321, h322, h323, h324, h325, pr326⟩
          have hF316 : Fr fm_m9119_739 M0 M313 := hF261.tr hQ315 rfl
          have e330 := ((hQ315.at g_739_30 rfl).trans e286)
          obtain ⟨v331, e332⟩ : ∃ v, M313 739 31 = v := ⟨_, rfl⟩
          have h333 := bf_739_31 hP314; rw [e332] at h333
          obtain ⟨v334, e335⟩ : ∃ v, M313 739 33 = v := ⟨_, rfl⟩
          have h336 := bf_739_33 hP314; rw [e335] at h336
          obtain ⟨v337, e338⟩ : ∃ v, M313 739 34 = v := ⟨_, rfl⟩
          have h339 := bf_739_34 hP314; rw [e338] at h339
          obtain ⟨v340, e341⟩ : ∃ v, M313 739 32 = v := ⟨_, rfl⟩
          have h342 := bf_739_32 hP314; rw [e341] at h342
          obtain ⟨v343, e344⟩ : ∃ v, M313 739 28 = v := ⟨_, rfl⟩
          have h345 := bf_739_28 hP314; rw [e344] at h345
          have pr346 : LRP M313 := LRP_mn (Sm.fr hQ315 rfl) (fun q => by have := e281; have := e344; omega) pr288
          rcases (show v343 = 0 ∨ 1 ≤ v343 by omega) with h347 | h348
          · refine wk_shl1 6 64 r119_41 ⟨by omega, by omega⟩ ⟨pwl_6, by decide⟩ ?_
            intro v349 h350 h351 h352
            refine wk_ior 7 128 r119_42 (by decide) ⟨by omega, by omega⟩ ⟨by omega, by omega⟩ ?_
            intro v353 h354 h355 h356 h357 h358
            refine wk_putfi81 r119_43 fd_739_42 (wk_nw g_739_42 rfl hP314 hF316 (uf_739_42 ⟨by omega, by omega⟩) ?_)
            intro M359 hP360 hF361 e362
            have pr363 : LRP M359 := fun _ => by have := (mUp_at e362); omega
            refine wk_goto r119_46 ?_
            have pr364 : LRP M359 := fun _ => by have := (mUp_at e362); omega
            exact wp_fg (le_s le_0) (ih375 (10 * (501 - v334) + (6 - v343)).toNat (by omega) M359 v331 v334 v337 v340 v343 v353 rfl hP360 hF361 (mUp_no e362 e332 (Or.inr (by decide))) (mUp_no e362 e335 (Or.inr (by decide))) (mUp_no e362 e338 (Or.inr (by decide))) (mUp_no e362 e341 (Or.inr (by decide))) (mUp_no e362 e344 (Or.inr (by decide))) (mUp_at e362) (mUp_no e362 ((hQ315.at g_739_30 rfl).trans e286) (Or.inr (by decide))) (by first | assumption | omega) (by first | assumption | omega) (by first | assumption | omega) (by first | assumption | omega) (by first | assumption | omega) (by first | assumption | omega) (by first | assumption | omega) (by first | assumption | omega) (by first | assumption | omega) (by first | assumption | omega) (by first | assumption | omega) (by first | assumption | omega) (TK_sm (Sm.up e362 g_739_42 rfl) pr326) pr364 (by first | assumption | omega) (by first | assumption | omega) (by first | assumption | omega) (by first | assumption | omega) (by first | assumption | omega) (by first | assumption | omega))
          · refine wk_shlx r119_41 ?_
            intro v365 h366 h367
            refine wk_iorx r119_42 ?_
            intro v368 h369 h370
            refine wk_putfi81 r119_43 fd_739_42 (wk_nw g_739_42 rfl hP314 hF316 (uf_739_42 ⟨by omega, by omega⟩) ?_)
            intro M371 hP372 hF373 e374
            refine wk_goto r119_46 ?_
            exact wp_fg (le_s le_0) (ih375 (10 * (501 - v334) + (6 - v343)).toNat (by omega) M371 v331 v334 v337 v340 v343 v368 rfl hP372 hF373 (mUp_no e374 e332 (Or.inr (by decide))) (mUp_no e374 e335 (Or.inr (by decide))) (mUp_no e374 e338 (Or.inr (by decide))) (mUp_no e374 e341 (Or.inr (by decide))) (mUp_no e374 e344 (Or.inr (by decide))) (mUp_at e374) (mUp_no e374 ((hQ315.at g_739_30 rfl).trans e286) (Or.inr (by decide))) (by first | assumption | omega) (by first | assumption | omega) (by first | assumption | omega) (by first | assumption | omega) (by first | assumption | omega) (by first | assumption | omega) (by first | assumption | omega) (by first | assumption | omega) (by first | assumption | omega) (by first | assumption | omega) (by first | assumption | omega) (by first | assumption | omega) (TK_sm (Sm.up e374 g_739_42 rfl) pr326) (LRP_vac (mUp_no e374 e344 (Or.inr (by decide))) (by omega)) (by first | assumption | omega) (by first | assumption | omega) (by first | assumption | omega) (by first | assumption | omega) (by first | assumption | omega) (by first | assumption | omega))
    exact wp_fg (le_s le_0) (c13_375 _ M40 v19 v22 v25 v28 v31 v36 rfl hP41 hF42 (mUp_no e43 e20 (Or.inr (by decide))) (mUp_no e43 e23 (Or.inr (by decide))) (mUp_no e43 e26 (Or.inr (by decide))) (mUp_no e43 e29 (Or.inr (by decide))) (mUp_no e43 e32 (Or.inr (by decide))) (mUp_at e43) (mUp_no e43 ((hQ3.at g_739_30 rfl).trans ex739_30) (Or.inr (by decide))) (by first | assumption | omega) (by first | assumption | omega) (by first | assumption | omega) (by first | assumption | omega) (by first | assumption | omega) (by first | assumption | omega) (by first | assumption | omega) (by first | assumption | omega) (by first | assumption | omega) (by first | assumption | omega) (by first | assumption | omega) (by first | assumption | omega) (TK_sm (Sm.up e43 g_739_42 rfl) pr14) pr44 (by first | assumption | omega) (by first | assumption | omega) (by first | assumption | omega) (by first | assumption | omega) (by first | assumption | omega) (by first | assumption | omega))
  · refine wk_shlx r119_9 ?_
    intro v376 h377 h378
    refine wk_putfi81 r119_10 fd_739_42 (wk_nw g_739_42 rfl hP2 hF4 (uf_739_42 ⟨by omega, by omega⟩) ?_)
    intro M379 hP380 hF381 e382
    have c13_499 : ∀ (k499 : Nat) (M383 : Mm) (v386 : Int) (v390 : Int) (v394 : Int) (v398 : Int) (v402 : Int) (v406 : Int), (10 * (501 - v390) + (6 - v402)).toNat = k499 → Pw M383 → Fr fm_m9119_739 M0 M383 → M383 739 31 = v386 → M383 739 33 = v390 → M383 739 34 = v394 → M383 739 32 = v398 → M383 739 28 = v402 → M383 739 42 = v406 → M383 739 30 = x739_30 → 0 ≤ v386 → v386 ≤ 500 → 0 ≤ v390 → v390 ≤ 500 → 0 ≤ v394 → v394 ≤ 500 → 0 ≤ v398 → v398 ≤ 4 → 0 ≤ v402 → v402 ≤ 6 → (-2147483648) ≤ v406 → v406 ≤ 2147483647 → (TK M383) → (LRP M383) → 0 ≤ 1 * x739_30 + (-1) * v386 → 0 ≤ 1 * v386 + (-1) * v390 + (-1) * v394 → 0 ≤ (-1) * v386 + 1 * v390 + 1 * v394 → 0 ≤ 4 * v394 + (-1) * v398 → 0 ≤ 1 * v390 + (-1) * x739_33 → 0 ≤ 1 * v402 + (-1) * x739_28 → Wp B (d + 3) 119 13 [some (R 739)] [] M383 Q := by
      refine lp_ind ?_
      intro k499 ih499 M383 v386 v390 v394 v398 v402 v406 hk499 hP384 hF385 e389 e393 e397 e401 e405 e409 e410 h387 h388 h391 h392 h395 h396 h399 h400 h403 h404 h407 h408 pr411 pr412 h413 h414 h415 h416 h417 h418
      refine wk_al0 r119_13 (wk_cv1 r119_14 kc_739_84 rfl (m9084_739 _ M383 v402 hP384 e405 (by first | assumption | omega) (by first | assumption | omega)) (cqI ?_))
      rintro v425 M419 ⟨hP420, hQ421, h426, h427, h423, h424⟩
      obtain rfl := Fr.same hQ421
      have e428 := e405
      refine wk_ifeq r119_17 ⟨by omega, by omega⟩ ?_ ?_
      · intro h429
        subst hQ; exact wk_ret r119_49 (⟨rfl, hP384, hF385, by have := e410; have := e389; omega, by have := e389; have := e393; have := e397; omega, by have := e389; have := e393; have := e397; omega, by have := e397; have := e401; omega, by have := e393; omega, by have := e405; omega, pr411, pr412⟩)
      · intro h430
        refine wk_al0 r119_20 (wk_getfi r119_21 fd_739_32 e401 (wk_c1 r119_24 ?_))
        refine wk_icne r119_25 ⟨by omega, by omega⟩ (by decide) ?_ ?_
        · intro h431
          subst hQ; exact wk_ret r119_49 (⟨rfl, hP384, hF385, by have := e410; have := e389; omega, by have := e389; have := e393; have := e397; omega, by have := e389; have := e393; have := e397; omega, by have := e397; have := e401; omega, by have := e393; omega, by have := e405; omega, pr411, pr412⟩)
        · intro h432
          refine wk_al0 r119_28 (wk_dupr r119_29 (wk_getfi r119_30 fd_739_42 e409 ?_))
          have h433 : 0 ≤ v406 ∧ v406 ≤ 127 := by have q := pr412 (by have := e405; omega); have := e409; omega
          refine wk_c1 r119_33 (wk_al0 r119_34 (wk_c1 r119_35 (wk_c2 r119_36 ?_)))
          obtain ⟨v434, e435⟩ : ∃ v, M383 739 35 = v := ⟨_, rfl⟩
          have h436 := bf_739_35 hP384; rw [e435] at h436
          refine wk_cv3 r119_38 kc_739_114 rfl (m9114_739 _ M383 0 6 x739_30 v386 v390 v394 v398 v402 v434 hP384 (by decide) (by decide) (by decide) (by decide) e410 (by first | assumption | omega) (by first | assumption | omega) e389 (by first | assumption | omega) (by first | assumption | omega) e393 (by first | assumption | omega) (by first | assumption | omega) e397 (by first | assumption | omega) (by first | assumption | omega) e401 (by first | assumption | omega) (by first | assumption | omega) e405 (by first | assumption | omega) (by first | assumption | omega) e435 (by first | assumption | omega) (by first | assumption | omega) (by omega) (by omega) (by omega) (by omega) pr411) (cqI ?_)
          rintro v451 M437 ⟨hP438, hQ439, h452, h453, h441, h442, h443, h444, h445, h446, h447, h448, h449, pr450⟩
          have hF440 : Fr fm_m9119_739 M0 M437 := hF385.tr hQ439 rfl
          have e454 := ((hQ439.at g_739_30 rfl).trans e410)
          obtain ⟨v455, e456⟩ : ∃ v, M437 739 31 = v := ⟨_, rfl⟩
          have h457 := bf_739_31 hP438; rw [e456] at h457
          obtain ⟨v458, e459⟩ : ∃ v, M437 739 33 = v := ⟨_, rfl⟩
          have h460 := bf_739_33 hP438; rw [e459] at h460
          obtain ⟨v461, e462⟩ : ∃ v, M437 739 34 = v := ⟨_, rfl⟩
          have h463 := bf_739_34 hP438; rw [e462] at h463
          obtain ⟨v464, e465⟩ : ∃ v, M437 739 32 = v := ⟨_, rfl⟩
          have h466 := bf_739_32 hP438; rw [e465] at h466
          obtain ⟨v467, e468⟩ : ∃ v, M437 739 28 = v := ⟨_, rfl⟩
          have h469 := bf_739_28 hP438; rw [e468] at h469
          have pr470 : LRP M437 := LRP_mn (Sm.fr hQ439 rfl) (fun q => by have := e405; have := e468; omega) pr412
          rcases (show v467 = 0 ∨ 1 ≤ v467 by omega) with h471 | h472
          · refine wk_shl1 6 64 r119_41 ⟨by omega, by omega⟩ ⟨pwl_6, by decide⟩ ?_
            intro v473 h474 h475 h476
            refine wk_ior 7 128 r119_42 (by decide) ⟨by omega, by omega⟩ ⟨by omega, by omega⟩ ?_
            intro v477 h478 h479 h480 h481 h482
            refine wk_putfi81 r119_43 fd_739_42 (wk_nw g_739_42 rfl hP438 hF440 (uf_739_42 ⟨by omega, by omega⟩) ?_)
            intro M483 hP484 hF485 e486
            have pr487 : LRP M483 := fun _ => by have := (mUp_at e486); omega
            refine wk_goto r119_46 ?_
            have pr488 : LRP M483 := fun _ => by have := (mUp_at e486); omega
            exact wp_fg (le_s le_0) (ih499 (10 * (501 - v458) + (6 - v467)).toNat (by omega) M483 v455 v458 v461 v464 v467 v477 rfl hP484 hF485 (mUp_no e486 e456 (Or.inr (by decide))) (mUp_no e486 e459 (Or.inr (by decide))) (mUp_no e486 e462 (Or.inr (by decide))) (mUp_no e486 e465 (Or.inr (by decide))) (mUp_no e486 e468 (Or.inr (by decide))) (mUp_at e486) (mUp_no e486 ((hQ439.at g_739_30 rfl).trans e410) (Or.inr (by decide))) (by first | assumption | omega) (by first | assumption | omega) (by first | assumption | omega) (by first | assumption | omega) (by first | assumption | omega) (by first | assumption | omega) (by first | assumption | omega) (by first | assumption | omega) (by first | assumption | omega) (by first | assumption | omega) (by first | assumption | omega) (by first | assumption | omega) (TK_sm (Sm.up e486 g_739_42 rfl) pr450) pr488 (by first | assumption | omega) (by first | assumption | omega) (by first | assumption | omega) (by first | assumption | omega) (by first | assumption | omega) (by first | assumption | omega))
          · refine wk_shlx r119_41 ?_
            intro v489 h490 h491
            refine wk_iorx r119_42 ?_
            intro v492 h493 h494
            refine wk_putfi81 r119_43 fd_739_42 (wk_nw g_739_42 rfl hP438 hF440 (uf_739_42 ⟨by omega, by omega⟩) ?_)
            intro M495 hP496 hF497 e498
            refine wk_goto r119_46 ?_
            exact wp_fg (le_s le_0) (ih499 (10 * (501 - v458) + (6 - v467)).toNat (by omega) M495 v455 v458 v461 v464 v467 v492 rfl hP496 hF497 (mUp_no e498 e456 (Or.inr (by decide))) (mUp_no e498 e459 (Or.inr (by decide))) (mUp_no e498 e462 (Or.inr (by decide))) (mUp_no e498 e465 (Or.inr (by decide))) (mUp_no e498 e468 (Or.inr (by decide))) (mUp_at e498) (mUp_no e498 ((hQ439.at g_739_30 rfl).trans e410) (Or.inr (by decide))) (by first | assumption | omega) (by first | assumption | omega) (by first | assumption | omega) (by first | assumption | omega) (by first | assumption | omega) (by first | assumption | omega) (by first | assumption | omega) (by first | assumption | omega) (by first | assumption | omega) (by first | assumption | omega) (by first | assumption | omega) (by first | assumption | omega) (TK_sm (Sm.up e498 g_739_42 rfl) pr450) (LRP_vac (mUp_no e498 e468 (Or.inr (by decide))) (by omega)) (by first | assumption | omega) (by first | assumption | omega) (by first | assumption | omega) (by first | assumption | omega) (by first | assumption | omega) (by first | assumption | omega))
    exact wp_fg (le_s le_0) (c13_499 _ M379 v19 v22 v25 v28 v31 v376 rfl hP380 hF381 (mUp_no e382 e20 (Or.inr (by decide))) (mUp_no e382 e23 (Or.inr (by decide))) (mUp_no e382 e26 (Or.inr (by decide))) (mUp_no e382 e29 (Or.inr (by decide))) (mUp_no e382 e32 (Or.inr (by decide))) (mUp_at e382) (mUp_no e382 ((hQ3.at g_739_30 rfl).trans ex739_30) (Or.inr (by decide))) (by first | assumption | omega) (by first | assumption | omega) (by first | assumption | omega) (by first | assumption | omega) (by first | assumption | omega) (by first | assumption | omega) (by first | assumption | omega) (by first | assumption | omega) (by first | assumption | omega) (by first | assumption | omega) (by first | assumption | omega) (by first | assumption | omega) (TK_sm (Sm.up e382 g_739_42 rfl) pr14) (LRP_vac (mUp_no e382 e32 (Or.inr (by decide))) (by omega)) (by first | assumption | omega) (by first | assumption | omega) (by first | assumption | omega) (by first | assumption | omega) (by first | assumption | omega) (by first | assumption | omega))
