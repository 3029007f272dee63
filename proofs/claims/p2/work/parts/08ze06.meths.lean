/-! ===== written by program (wip/layer3/model.py): contracts of methods ===== -/
def fm_m9068_739 : Nat := 1356938545779010069195758067332661297480611728569957925602488559592754118656
/-- IslandHallModel.expression -/
theorem m9068_739 {B : eB} (d : Nat) (M0 : Mm) (x739_30 : Int) (x739_31 : Int) (x739_33 : Int) (x739_34 : Int) (x739_32 : Int) (x739_28 : Int) (x739_45 : Int) (x739_46 : Int) (x739_47 : Int) (x739_38 : Int) (x739_36 : Int) (x739_51 : Int) (x739_35 : Int) (hP0 : Pw M0) (ex739_30 : M0 739 30 = x739_30) (lx739_30 : 0 ≤ x739_30) (ux739_30 : x739_30 ≤ 500) (ex739_31 : M0 739 31 = x739_31) (lx739_31 : 0 ≤ x739_31) (ux739_31 : x739_31 ≤ 500) (ex739_33 : M0 739 33 = x739_33) (lx739_33 : 0 ≤ x739_33) (ux739_33 : x739_33 ≤ 500) (ex739_34 : M0 739 34 = x739_34) (lx739_34 : 0 ≤ x739_34) (ux739_34 : x739_34 ≤ 500) (ex739_32 : M0 739 32 = x739_32) (lx739_32 : 0 ≤ x739_32) (ux739_32 : x739_32 ≤ 4) (ex739_28 : M0 739 28 = x739_28) (lx739_28 : 0 ≤ x739_28) (ux739_28 : x739_28 ≤ 6) (ex739_45 : M0 739 45 = x739_45) (lx739_45 : 0 ≤ x739_45) (ux739_45 : x739_45 ≤ 1000) (ex739_46 : M0 739 46 = x739_46) (lx739_46 : 0 ≤ x739_46) (ux739_46 : x739_46 ≤ 520) (ex739_47 : M0 739 47 = x739_47) (lx739_47 : 0 ≤ x739_47) (ux739_47 : x739_47 ≤ 500) (ex739_38 : M0 739 38 = x739_38) (lx739_38 : 0 ≤ x739_38) (ux739_38 : x739_38 ≤ 999) (ex739_36 : M0 739 36 = x739_36) (lx739_36 : 0 ≤ x739_36) (ux739_36 : x739_36 ≤ 255) (ex739_51 : M0 739 51 = x739_51) (lx739_51 : 0 ≤ x739_51) (ux739_51 : x739_51 ≤ 1) (ex739_35 : M0 739 35 = x739_35) (lx739_35 : 0 ≤ x739_35) (ux739_35 : x739_35 ≤ 999) (rp0 : 0 ≤ x739_30 + (-1) * x739_31) (rp1 : 0 ≤ x739_31 + (-1) * x739_33 + (-1) * x739_34) (rp2 : 0 ≤ (-1) * x739_31 + x739_33 + x739_34) (rp3 : 0 ≤ 4 * x739_34 + (-1) * x739_32) (rp4 : 0 ≤ x739_33 + (-2) * x739_45 + 3000 * x739_28) (rp5 : 0 ≤ (-1) * x739_38 + 7 + 3000 * x739_28) (rp6 : 0 ≤ (-1) * x739_45 + 260) (pp_TK : TK M0) : Ct B (d + 7) 68 [R 739] M0 (qV fun M => Pw M ∧ Fr fm_m9068_739 M0 M ∧ 0 ≤ M 739 30 + (-1) * (M 739 31) ∧ 0 ≤ M 739 31 + (-1) * (M 739 33) + (-1) * (M 739 34) ∧ 0 ≤ (-1) * (M 739 31) + M 739 33 + M 739 34 ∧ 0 ≤ 4 * (M 739 34) + (-1) * (M 739 32) ∧ 0 ≤ M 739 33 + (-1) * x739_33 ∧ 0 ≤ M 739 28 + (-1) * x739_28 ∧ 0 ≤ M 739 33 + (-2) * (M 739 45) + 3000 * (M 739 28) + 3 ∧ 0 ≤ (-1) * (M 739 45) + 262 ∧ (ESP M0 M x739_45) ∧ (TK M)) := by
  refine ct_of (d := d + 6) (k := 2) (L := [some (R 739), none, none]) rfl rfl rfl ?_
  have hF0 := Fr.rf fm_m9068_739 M0
  generalize hQ : (qV fun M => Pw M ∧ Fr fm_m9068_739 M0 M ∧ 0 ≤ M 739 30 + (-1) * (M 739 31) ∧ 0 ≤ M 739 31 + (-1) * (M 739 33) + (-1) * (M 739 34) ∧ 0 ≤ (-1) * (M 739 31) + M 739 33 + M 739 34 ∧ 0 ≤ 4 * (M 739 34) + (-1) * (M 739 32) ∧ 0 ≤ M 739 33 + (-1) * x739_33 ∧ 0 ≤ M 739 28 + (-1) * x739_28 ∧ 0 ≤ M 739 33 + (-2) * (M 739 45) + 3000 * (M 739 28) + 3 ∧ 0 ≤ (-1) * (M 739 45) + 262 ∧ (ESP M0 M x739_45) ∧ (TK M)) = Q
  refine wk_al0 r68_0 (wk_cv1 r68_1 kc_739_84 rfl (m9084_739 _ M0 x739_28 hP0 ex739_28 (by omega) (by omega)) (cqI ?_))
  rintro v7 M1 ⟨hP2, hQ3, h8, h9, h5, h6⟩
  obtain rfl := Fr.same hQ3
  have e10 := ex739_28
  refine wk_ifne r68_4 ⟨by omega, by omega⟩ ?_ ?_
  · intro h11
    refine wk_al0 r68_8 (wk_c1 r68_9 (wk_putfi81 r68_10 fd_739_46 (wk_nw g_739_46 rfl hP0 hF0 (uf_739_46 (by decide)) ?_)))
    intro M12 hP13 hF14 e15
    refine wk_al0 r68_13 (wk_c1 r68_14 (wk_putfi81 r68_15 fd_739_47 (wk_nw g_739_47 rfl hP13 hF14 (uf_739_47 (by decide)) ?_)))
    intro M16 hP17 hF18 e19
    refine wk_al0 r68_18 (wk_c1 r68_19 (wk_putfz81 r68_20 fd_739_51 (by decide) (wk_nw g_739_51 rfl hP17 hF18 (uf_739_51 (by decide)) ?_)))
    intro M20 hP21 hF22 e23
    have pr24 : GE M20 x739_45 (fun k => M0 757 k) 0 1 := GE_init (mUp_no e23 (mUp_no e19 (mUp_no e15 ex739_45 (Or.inr (by decide))) (Or.inr (by decide))) (Or.inr (by decide))) (by omega) (mUp_no e23 (mUp_no e19 (mUp_at e15) (Or.inr (by decide))) (Or.inr (by decide))) (mUp_no e23 (mUp_at e19) (Or.inr (by decide))) (fun k => by rw [e23, mUp_ne (Or.inl (by decide)), e19, mUp_ne (Or.inl (by decide)), e15, mUp_ne (Or.inl (by decide))])
    refine wk_al0 r68_23 (wk_cv1 r68_24 kc_739_62 rfl (m9062_739 _ M20 x739_30 x739_31 x739_33 x739_34 x739_32 x739_28 x739_45 0 0 x739_45 ((fun k => M0 757 k)) hP21 (mUp_no e23 (mUp_no e19 (mUp_no e15 ex739_30 (Or.inr (by decide))) (Or.inr (by decide))) (Or.inr (by decide))) (by omega) (by omega) (mUp_no e23 (mUp_no e19 (mUp_no e15 ex739_31 (Or.inr (by decide))) (Or.inr (by decide))) (Or.inr (by decide))) (by omega) (by omega) (mUp_no e23 (mUp_no e19 (mUp_no e15 ex739_33 (Or.inr (by decide))) (Or.inr (by decide))) (Or.inr (by decide))) (by omega) (by omega) (mUp_no e23 (mUp_no e19 (mUp_no e15 ex739_34 (Or.inr (by decide))) (Or.inr (by decide))) (Or.inr (by decide))) (by omega) (by omega) (mUp_no e23 (mUp_no e19 (mUp_no e15 ex739_32 (Or.inr (by decide))) (Or.inr (by decide))) (Or.inr (by decide))) (by omega) (by omega) (mUp_no e23 (mUp_no e19 (mUp_no e15 ex739_28 (Or.inr (by decide))) (Or.inr (by decide))) (Or.inr (by decide))) (by omega) (by omega) (mUp_no e23 (mUp_no e19 (mUp_no e15 ex739_45 (Or.inr (by decide))) (Or.inr (by decide))) (Or.inr (by decide))) (by omega) (by omega) (mUp_no e23 (mUp_no e19 (mUp_at e15) (Or.inr (by decide))) (Or.inr (by decide))) (by omega) (by omega) (mUp_no e23 (mUp_at e19) (Or.inr (by decide))) (by omega) (by omega) (by omega) (by omega) (by omega) (by omega) (by omega) (by omega) (TK_sm (Sm.up e23 g_739_51 rfl) (TK_sm (Sm.up e19 g_739_47 rfl) (TK_sm (Sm.up e15 g_739_46 rfl) pp_TK))) pr24) (cqV ?_))
    rintro M25 ⟨hP26, hQ27, h29, h30, h31, h32, h33, h34, h35, h36, h37, h38, h39, h40, pr41, pr42⟩
    have hF28 : Fr fm_m9068_739 M0 M25 := hF22.tr hQ27 rfl
    have e43 := ((hQ27.at g_739_30 rfl).trans (mUp_no e23 (mUp_no e19 (mUp_no e15 ex739_30 (Or.inr (by decide))) (Or.inr (by decide))) (Or.inr (by decide))))
    have e44 := ((hQ27.at g_739_31 rfl).trans (mUp_no e23 (mUp_no e19 (mUp_no e15 ex739_31 (Or.inr (by decide))) (Or.inr (by decide))) (Or.inr (by decide))))
    have e45 := ((hQ27.at g_739_33 rfl).trans (mUp_no e23 (mUp_no e19 (mUp_no e15 ex739_33 (Or.inr (by decide))) (Or.inr (by decide))) (Or.inr (by decide))))
    have e46 := ((hQ27.at g_739_34 rfl).trans (mUp_no e23 (mUp_no e19 (mUp_no e15 ex739_34 (Or.inr (by decide))) (Or.inr (by decide))) (Or.inr (by decide))))
    have e47 := ((hQ27.at g_739_32 rfl).trans (mUp_no e23 (mUp_no e19 (mUp_no e15 ex739_32 (Or.inr (by decide))) (Or.inr (by decide))) (Or.inr (by decide))))
    obtain ⟨v48, e49⟩ : ∃ v, M25 739 28 = v := ⟨_, rfl⟩
    have h50 := bf_739_28 hP26; rw [e49] at h50
    have e51 := ((hQ27.at g_739_45 rfl).trans (mUp_no e23 (mUp_no e19 (mUp_no e15 ex739_45 (Or.inr (by decide))) (Or.inr (by decide))) (Or.inr (by decide))))
    have e52 := ((hQ27.at g_739_46 rfl).trans (mUp_no e23 (mUp_no e19 (mUp_at e15) (Or.inr (by decide))) (Or.inr (by decide))))
    obtain ⟨v53, e54⟩ : ∃ v, M25 739 47 = v := ⟨_, rfl⟩
    have h55 := bf_739_47 hP26; rw [e54] at h55
    refine wk_al0 r68_27 (wk_cv1 r68_28 kc_739_116 rfl (m9116_739 _ M25 x739_30 x739_31 x739_33 x739_34 x739_32 v48 x739_45 0 v53 x739_38 x739_36 0 x739_35 x739_45 ((fun k => M0 757 k)) hP26 ((hQ27.at g_739_30 rfl).trans (mUp_no e23 (mUp_no e19 (mUp_no e15 ex739_30 (Or.inr (by decide))) (Or.inr (by decide))) (Or.inr (by decide)))) (by omega) (by omega) ((hQ27.at g_739_31 rfl).trans (mUp_no e23 (mUp_no e19 (mUp_no e15 ex739_31 (Or.inr (by decide))) (Or.inr (by decide))) (Or.inr (by decide)))) (by omega) (by omega) ((hQ27.at g_739_33 rfl).trans (mUp_no e23 (mUp_no e19 (mUp_no e15 ex739_33 (Or.inr (by decide))) (Or.inr (by decide))) (Or.inr (by decide)))) (by omega) (by omega) ((hQ27.at g_739_34 rfl).trans (mUp_no e23 (mUp_no e19 (mUp_no e15 ex739_34 (Or.inr (by decide))) (Or.inr (by decide))) (Or.inr (by decide)))) (by omega) (by omega) ((hQ27.at g_739_32 rfl).trans (mUp_no e23 (mUp_no e19 (mUp_no e15 ex739_32 (Or.inr (by decide))) (Or.inr (by decide))) (Or.inr (by decide)))) (by omega) (by omega) e49 (by omega) (by omega) ((hQ27.at g_739_45 rfl).trans (mUp_no e23 (mUp_no e19 (mUp_no e15 ex739_45 (Or.inr (by decide))) (Or.inr (by decide))) (Or.inr (by decide)))) (by omega) (by omega) ((hQ27.at g_739_46 rfl).trans (mUp_no e23 (mUp_no e19 (mUp_at e15) (Or.inr (by decide))) (Or.inr (by decide)))) (by omega) (by omega) e54 (by omega) (by omega) ((hQ27.at g_739_38 rfl).trans (mUp_no e23 (mUp_no e19 (mUp_no e15 ex739_38 (Or.inr (by decide))) (Or.inr (by decide))) (Or.inr (by decide)))) (by omega) (by omega) ((hQ27.at g_739_36 rfl).trans (mUp_no e23 (mUp_no e19 (mUp_no e15 ex739_36 (Or.inr (by decide))) (Or.inr (by decide))) (Or.inr (by decide)))) (by omega) (by omega) ((hQ27.at g_739_51 rfl).trans (mUp_at e23)) (by omega) (by omega) ((hQ27.at g_739_35 rfl).trans (mUp_no e23 (mUp_no e19 (mUp_no e15 ex739_35 (Or.inr (by decide))) (Or.inr (by decide))) (Or.inr (by decide)))) (by omega) (by omega) (by omega) (by omega) (by omega) (by omega) (by omega) (by omega) (by omega) (by omega) pr41 pr42) (cqV ?_))
    rintro M56 ⟨hP57, hQ58, h60, h61, h62, h63, h64, h65, h66, h67, h68, h69, pr70, pr71⟩
    have hF59 : Fr fm_m9068_739 M0 M56 := hF28.tr hQ58 rfl
    have e72 := ((hQ58.at g_739_30 rfl).trans ((hQ27.at g_739_30 rfl).trans (mUp_no e23 (mUp_no e19 (mUp_no e15 ex739_30 (Or.inr (by decide))) (Or.inr (by decide))) (Or.inr (by decide)))))
    obtain ⟨v73, e74⟩ : ∃ v, M56 739 31 = v := ⟨_, rfl⟩
    have h75 := bf_739_31 hP57; rw [e74] at h75
    obtain ⟨v76, e77⟩ : ∃ v, M56 739 33 = v := ⟨_, rfl⟩
    have h78 := bf_739_33 hP57; rw [e77] at h78
    obtain ⟨v79, e80⟩ : ∃ v, M56 739 34 = v := ⟨_, rfl⟩
    have h81 := bf_739_34 hP57; rw [e80] at h81
    obtain ⟨v82, e83⟩ : ∃ v, M56 739 32 = v := ⟨_, rfl⟩
    have h84 := bf_739_32 hP57; rw [e83] at h84
    obtain ⟨v85, e86⟩ : ∃ v, M56 739 28 = v := ⟨_, rfl⟩
    have h87 := bf_739_28 hP57; rw [e86] at h87
    obtain ⟨v88, e89⟩ : ∃ v, M56 739 47 = v := ⟨_, rfl⟩
    have h90 := bf_739_47 hP57; rw [e89] at h90
    obtain ⟨v91, e92⟩ : ∃ v, M56 739 45 = v := ⟨_, rfl⟩
    have h93 := bf_739_45 hP57; rw [e92] at h93
    obtain ⟨v94, e95⟩ : ∃ v, M56 739 46 = v := ⟨_, rfl⟩
    have h96 := bf_739_46 hP57; rw [e95] at h96
    obtain ⟨v97, e98⟩ : ∃ v, M56 739 51 = v := ⟨_, rfl⟩
    have h99 := bf_739_51 hP57; rw [e98] at h99
    refine wk_c1 r68_31 (wk_is1 r68_32 rfl ?_)
    have c33_1069 : ∀ (k1069 : Nat) (M574 : Mm) (v571 : Int) (v577 : Int) (v581 : Int) (v585 : Int) (v589 : Int) (v593 : Int) (v597 : Int) (v601 : Int) (v605 : Int) (v609 : Int), (10 * (501 - v581) + v571).toNat = k1069 → Pw M574 → Fr fm_m9068_739 M0 M574 → M574 739 31 = v577 → M574 739 33 = v581 → M574 739 34 = v585 → M574 739 32 = v589 → M574 739 28 = v593 → M574 739 47 = v597 → M574 739 45 = v601 → M574 739 46 = v605 → M574 739 51 = v609 → M574 739 30 = x739_30 → M574 739 38 = x739_38 → 0 ≤ v571 → v571 ≤ 1 → 0 ≤ v577 → v577 ≤ 500 → 0 ≤ v581 → v581 ≤ 500 → 0 ≤ v585 → v585 ≤ 500 → 0 ≤ v589 → v589 ≤ 4 → 0 ≤ v593 → v593 ≤ 6 → 0 ≤ v597 → v597 ≤ 12 → 0 ≤ v601 → v601 ≤ 260 → 0 ≤ v605 → v605 ≤ 260 → 0 ≤ v609 → v609 ≤ 0 → (TK M574) → (GE M574 x739_45 (fun k => M0 757 k) 1 0) → 0 ≤ 1 * x739_30 + (-1) * v577 → 0 ≤ 1 * v577 + (-1) * v581 + (-1) * v585 → 0 ≤ (-1) * v577 + 1 * v581 + 1 * v585 → 0 ≤ 4 * v585 + (-1) * v589 → 0 ≤ 1 * v581 + 1 * v597 + (-2) * v601 + (-2) * v605 + 3000 * v593 → 0 ≤ (-2) * v601 + (-2) * v605 + 520 → 0 ≤ (-1) * v597 + 1 * v593 + 6 → 0 ≤ 1 * v581 + (-1) * x739_33 → 0 ≤ 1 * v593 + (-1) * x739_28 → 0 ≤ (-1) * x739_38 + 7 + 3000 * v593 → 0 ≤ (-1) * v609 → Wp B (d + 6) 68 33 [some (R 739), some (I v571), none] [] M574 Q := by
      refine lp_ind ?_
      intro k1069 ih1069 M574 v571 v577 v581 v585 v589 v593 v597 v601 v605 v609 hk1069 hP575 hF576 e580 e584 e588 e592 e596 e600 e604 e608 e612 e613 e614 h572 h573 h578 h579 h582 h583 h586 h587 h590 h591 h594 h595 h598 h599 h602 h603 h606 h607 h610 h611 pr615 pr616 h617 h618 h619 h620 h621 h622 h623 h624 h625 h626 h627
      refine wk_il1 r68_33 ?_
      have c194_1068 : Wp B (d + 6) 68 194 [some (R 739), none, none] [] M574 Q := by
        refine wk_al0 r68_194 (wk_cv1 r68_195 kc_739_84 rfl (m9084_739 _ M574 v593 hP575 e596 (by omega) (by omega)) (cqI ?_))
        rintro v975 M969 ⟨hP970, hQ971, h976, h977, h973, h974⟩
        obtain rfl := Fr.same hQ971
        have e978 := e596
        refine wk_ifeq r68_198 ⟨by omega, by omega⟩ ?_ ?_
        · intro h979
          refine wk_al0 r68_214 (wk_c1 r68_215 (wk_cv2 r68_216 kc_739_63 rfl (m9063_739 _ M574 1 v601 v605 v597 x739_45 ((fun k => M0 757 k)) hP575 (by decide) (by decide) e604 (by omega) (by omega) e608 (by omega) (by omega) e600 (by omega) (by omega) (by omega) pr616) (cqV ?_)))
          rintro M980 ⟨hP981, hQ982, h984, h985, h986, xh987, pr988⟩
          have hF983 : Fr fm_m9068_739 M0 M980 := hF576.tr hQ982 rfl
          obtain ⟨v989, e990⟩ : ∃ v, M980 739 45 = v := ⟨_, rfl⟩
          have h991 := bf_739_45 hP981; rw [e990] at h991
          obtain ⟨v992, e993⟩ : ∃ v, M980 739 46 = v := ⟨_, rfl⟩
          have h994 := bf_739_46 hP981; rw [e993] at h994
          refine wk_al0 r68_219 (wk_c1 r68_220 (wk_c1 r68_221 (wk_c1 r68_222 (wk_cv4 r68_223 kc_739_117 rfl (m9117_739 _ M980 0 0 0 v989 hP981 (by decide) (by decide) (by decide) (by decide) (by decide) (by decide) e990 (by omega) (by omega)) (cqV ?_)))))
          rintro M995 ⟨hP996, hQ997, h999, h1000, xh1001⟩
          have hF998 : Fr fm_m9068_739 M0 M995 := hF983.tr hQ997 rfl
          obtain ⟨v1002, e1003⟩ : ∃ v, M995 739 45 = v := ⟨_, rfl⟩
          have h1004 := bf_739_45 hP996; rw [e1003] at h1004
          subst hQ; exact wk_ret r68_226 (⟨rfl, hP996, hF998, by have := ((hQ997.at g_739_30 rfl).trans ((hQ982.at g_739_30 rfl).trans e613)); have := ((hQ997.at g_739_31 rfl).trans ((hQ982.at g_739_31 rfl).trans e580)); omega, by have := ((hQ997.at g_739_31 rfl).trans ((hQ982.at g_739_31 rfl).trans e580)); have := ((hQ997.at g_739_33 rfl).trans ((hQ982.at g_739_33 rfl).trans e584)); have := ((hQ997.at g_739_34 rfl).trans ((hQ982.at g_739_34 rfl).trans e588)); omega, by have := ((hQ997.at g_739_31 rfl).trans ((hQ982.at g_739_31 rfl).trans e580)); have := ((hQ997.at g_739_33 rfl).trans ((hQ982.at g_739_33 rfl).trans e584)); have := ((hQ997.at g_739_34 rfl).trans ((hQ982.at g_739_34 rfl).trans e588)); omega, by have := ((hQ997.at g_739_34 rfl).trans ((hQ982.at g_739_34 rfl).trans e588)); have := ((hQ997.at g_739_32 rfl).trans ((hQ982.at g_739_32 rfl).trans e592)); omega, by have := ((hQ997.at g_739_33 rfl).trans ((hQ982.at g_739_33 rfl).trans e584)); omega, by have := ((hQ997.at g_739_28 rfl).trans ((hQ982.at g_739_28 rfl).trans e596)); omega, by have := ((hQ997.at g_739_33 rfl).trans ((hQ982.at g_739_33 rfl).trans e584)); have := e1003; have := ((hQ997.at g_739_28 rfl).trans ((hQ982.at g_739_28 rfl).trans e596)); omega, by have := e1003; omega, ES_put xh1001 pr988 (by omega), (TK_sm (Sm.fr hQ997 rfl) (TK_sm (Sm.fr hQ982 rfl) pr615))⟩)
        · intro h1005
          refine wk_al0 r68_201 (wk_getfi r68_202 fd_739_47 e600 (wk_c1 r68_205 ?_))
          refine wk_icle r68_206 ⟨by omega, by omega⟩ (by decide) ?_ ?_
          · intro h1006
            refine wk_al0 r68_214 (wk_c1 r68_215 (wk_cv2 r68_216 kc_739_63 rfl (m9063_739 _ M574 1 v601 v605 v597 x739_45 ((fun k => M0 757 k)) hP575 (by decide) (by decide) e604 (by omega) (by omega) e608 (by omega) (by omega) e600 (by omega) (by omega) (by omega) pr616) (cqV ?_)))
            rintro M1007 ⟨hP1008, hQ1009, h1011, h1012, h1013, xh1014, pr1015⟩
            have hF1010 : Fr fm_m9068_739 M0 M1007 := hF576.tr hQ1009 rfl
            obtain ⟨v1016, e1017⟩ : ∃ v, M1007 739 45 = v := ⟨_, rfl⟩
            have h1018 := bf_739_45 hP1008; rw [e1017] at h1018
            obtain ⟨v1019, e1020⟩ : ∃ v, M1007 739 46 = v := ⟨_, rfl⟩
            have h1021 := bf_739_46 hP1008; rw [e1020] at h1021
            refine wk_al0 r68_219 (wk_c1 r68_220 (wk_c1 r68_221 (wk_c1 r68_222 (wk_cv4 r68_223 kc_739_117 rfl (m9117_739 _ M1007 0 0 0 v1016 hP1008 (by decide) (by decide) (by decide) (by decide) (by decide) (by decide) e1017 (by omega) (by omega)) (cqV ?_)))))
            rintro M1022 ⟨hP1023, hQ1024, h1026, h1027, xh1028⟩
            have hF1025 : Fr fm_m9068_739 M0 M1022 := hF1010.tr hQ1024 rfl
            obtain ⟨v1029, e1030⟩ : ∃ v, M1022 739 45 = v := ⟨_, rfl⟩
            have h1031 := bf_739_45 hP1023; rw [e1030] at h1031
            subst hQ; exact wk_ret r68_226 (⟨rfl, hP1023, hF1025, by have := ((hQ1024.at g_739_30 rfl).trans ((hQ1009.at g_739_30 rfl).trans e613)); have := ((hQ1024.at g_739_31 rfl).trans ((hQ1009.at g_739_31 rfl).trans e580)); omega, by have := ((hQ1024.at g_739_31 rfl).trans ((hQ1009.at g_739_31 rfl).trans e580)); have := ((hQ1024.at g_739_33 rfl).trans ((hQ1009.at g_739_33 rfl).trans e584)); have := ((hQ1024.at g_739_34 rfl).trans ((hQ1009.at g_739_34 rfl).trans e588)); omega, by have := ((hQ1024.at g_739_31 rfl).trans ((hQ1009.at g_739_31 rfl).trans e580)); have := ((hQ1024.at g_739_33 rfl).trans ((hQ1009.at g_739_33 rfl).trans e584)); have := ((hQ1024.at g_739_34 rfl).trans ((hQ1009.at g_739_34 rfl).trans e588)); omega, by have := ((hQ1024.at g_739_34 rfl).trans ((hQ1009.at g_739_34 rfl).trans e588)); have := ((hQ1024.at g_739_32 rfl).trans ((hQ1009.at g_739_32 rfl).trans e592)); omega, by have := ((hQ1024.at g_739_33 rfl).trans ((hQ1009.at g_739_33 rfl).trans e584)); omega, by have := ((hQ1024.at g_739_28 rfl).trans ((hQ1009.at g_739_28 rfl).trans e596)); omega, by have := ((hQ1024.at g_739_33 rfl).trans ((hQ1009.at g_739_33 rfl).trans e584)); have := e1030; have := ((hQ1024.at g_739_28 rfl).trans ((hQ1009.at g_739_28 rfl).trans e596)); omega, by have := e1030; omega, ES_put xh1028 pr1015 (by omega), (TK_sm (Sm.fr hQ1024 rfl) (TK_sm (Sm.fr hQ1009 rfl) pr615))⟩)
          · intro h1032
            refine wk_al0 r68_209 (wk_c1 r68_210 (wk_cv2 r68_211 kc_739_137 rfl (m9137_739 _ M574 1 v593 v581 hP575 (by decide) (by decide) e596 (by omega) (by omega) e584 (by omega) (by omega)) (cqV ?_)))
            rintro M1033 ⟨hP1034, hQ1035, h1037, h1038⟩
            have hF1036 : Fr fm_m9068_739 M0 M1033 := hF576.tr hQ1035 rfl
            obtain ⟨v1039, e1040⟩ : ∃ v, M1033 739 28 = v := ⟨_, rfl⟩
            have h1041 := bf_739_28 hP1034; rw [e1040] at h1041
            have pr1042 : GE M1033 x739_45 (fun k => M0 757 k) 1 0 := GE_mn (Sm.fr hQ1035 rfl) (fun q => by have := e596; have := e1040; omega) pr616
            refine wk_al0 r68_214 (wk_c1 r68_215 (wk_cv2 r68_216 kc_739_63 rfl (m9063_739 _ M1033 1 v601 v605 v597 x739_45 ((fun k => M0 757 k)) hP1034 (by decide) (by decide) ((hQ1035.at g_739_45 rfl).trans e604) (by omega) (by omega) ((hQ1035.at g_739_46 rfl).trans e608) (by omega) (by omega) ((hQ1035.at g_739_47 rfl).trans e600) (by omega) (by omega) (by omega) pr1042) (cqV ?_)))
            rintro M1043 ⟨hP1044, hQ1045, h1047, h1048, h1049, xh1050, pr1051⟩
            have hF1046 : Fr fm_m9068_739 M0 M1043 := hF1036.tr hQ1045 rfl
            obtain ⟨v1052, e1053⟩ : ∃ v, M1043 739 45 = v := ⟨_, rfl⟩
            have h1054 := bf_739_45 hP1044; rw [e1053] at h1054
            obtain ⟨v1055, e1056⟩ : ∃ v, M1043 739 46 = v := ⟨_, rfl⟩
            have h1057 := bf_739_46 hP1044; rw [e1056] at h1057
            refine wk_al0 r68_219 (wk_c1 r68_220 (wk_c1 r68_221 (wk_c1 r68_222 (wk_cv4 r68_223 kc_739_117 rfl (m9117_739 _ M1043 0 0 0 v1052 hP1044 (by decide) (by decide) (by decide) (by decide) (by decide) (by decide) e1053 (by omega) (by omega)) (cqV ?_)))))
            rintro M1058 ⟨hP1059, hQ1060, h1062, h1063, xh1064⟩
            have hF1061 : Fr fm_m9068_739 M0 M1058 := hF1046.tr hQ1060 rfl
            obtain ⟨v1065, e1066⟩ : ∃ v, M1058 739 45 = v := ⟨_, rfl⟩
            have h1067 := bf_739_45 hP1059; rw [e1066] at h1067
            subst hQ; exact wk_ret r68_226 (⟨rfl, hP1059, hF1061, by have := ((hQ1060.at g_739_30 rfl).trans ((hQ1045.at g_739_30 rfl).trans ((hQ1035.at g_739_30 rfl).trans e613))); have := ((hQ1060.at g_739_31 rfl).trans ((hQ1045.at g_739_31 rfl).trans ((hQ1035.at g_739_31 rfl).trans e580))); omega, by have := ((hQ1060.at g_739_31 rfl).trans ((hQ1045.at g_739_31 rfl).trans ((hQ1035.at g_739_31 rfl).trans e580))); have := ((hQ1060.at g_739_33 rfl).trans ((hQ1045.at g_739_33 rfl).trans ((hQ1035.at g_739_33 rfl).trans e584))); have := ((hQ1060.at g_739_34 rfl).trans ((hQ1045.at g_739_34 rfl).trans ((hQ1035.at g_739_34 rfl).trans e588))); omega, by have := ((hQ1060.at g_739_31 rfl).trans ((hQ1045.at g_739_31 rfl).trans ((hQ1035.at g_739_31 rfl).trans e580))); have := ((hQ1060.at g_739_33 rfl).trans ((hQ1045.at g_739_33 rfl).trans ((hQ1035.at g_739_33 rfl).trans e584))); have := ((hQ1060.at g_739_34 rfl).trans ((hQ1045.at g_739_34 rfl).trans ((hQ1035.at g_739_34 rfl).trans e588))); omega, by have := ((hQ1060.at g_739_34 rfl).trans ((hQ1045.at g_739_34 rfl).trans ((hQ1035.at g_739_34 rfl).trans e588))); have := ((hQ1060.at g_739_32 rfl).trans ((hQ1045.at g_739_32 rfl).trans ((hQ1035.at g_739_32 rfl).trans e592))); omega, by have := ((hQ1060.at g_739_33 rfl).trans ((hQ1045.at g_739_33 rfl).trans ((hQ1035.at g_739_33 rfl).trans e584))); omega, by have := ((hQ1060.at g_739_28 rfl).trans ((hQ1045.at g_739_28 rfl).trans e1040)); omega, by have := ((hQ1060.at g_739_33 rfl).trans ((hQ1045.at g_739_33 rfl).trans ((hQ1035.at g_739_33 rfl).trans e584))); have := e1066; have := ((hQ1060.at g_739_28 rfl).trans ((hQ1045.at g_739_28 rfl).trans e1040)); omega, by have := e1066; omega, ES_put xh1064 pr1051 (by omega), (TK_sm (Sm.fr hQ1060 rfl) (TK_sm (Sm.fr hQ1045 rfl) (TK_sm (Sm.fr hQ1035 rfl) pr615)))⟩)
      refine wk_ifeq r68_34 ⟨by omega, by omega⟩ ?_ ?_
      · intro h628
        exact wp_fg (le_s (le_n (le_s le_0))) c194_1068
      · intro h629
        refine wk_al0 r68_37 (wk_cv1 r68_38 kc_739_84 rfl (m9084_739 _ M574 v593 hP575 e596 (by omega) (by omega)) (cqI ?_))
        rintro v636 M630 ⟨hP631, hQ632, h637, h638, h634, h635⟩
        obtain rfl := Fr.same hQ632
        have e639 := e596
        refine wk_ifeq r68_41 ⟨by omega, by omega⟩ ?_ ?_
        · intro h640
          exact wp_fg (le_s (le_n (le_s le_0))) c194_1068
        · intro h641
          refine wk_al0 r68_44 (wk_cv1 r68_45 kc_739_97 rfl (m9097_739 _ M574 v589 v585 hP575 e592 (by omega) (by omega) e588 (by omega) (by omega) pr615) (cqI ?_))
          rintro v647 M642 ⟨hP643, hQ644, h648, h649, h646⟩
          obtain rfl := Fr.same hQ644
          have e650 := e588
          refine wk_is2 r68_48 rfl (wk_il2 r68_49 (wk_c2 r68_50 ?_))
          refine wk_iceq r68_52 ⟨by omega, by omega⟩ (by decide) ?_ ?_
          · intro h651
            refine wk_al0 r68_61 (wk_il2 r68_62 (wk_c2 r68_63 ?_))
            refine wk_icne r68_65 ⟨by omega, by omega⟩ (by decide) ?_ ?_
            · intro h652
              exfalso
              omega
            · intro h653
              refine wk_c1 r68_68 (wk_goto r68_69 (wk_cv2 r68_73 kc_739_63 rfl (m9063_739 _ M574 2 v601 v605 v597 x739_45 ((fun k => M0 757 k)) hP575 (by decide) (by decide) e604 (by omega) (by omega) e608 (by omega) (by omega) e600 (by omega) (by omega) (by omega) pr616) (cqV ?_)))
              rintro M654 ⟨hP655, hQ656, h658, h659, h660, xh661, pr662⟩
              have hF657 : Fr fm_m9068_739 M0 M654 := hF576.tr hQ656 rfl
              obtain ⟨v663, e664⟩ : ∃ v, M654 739 45 = v := ⟨_, rfl⟩
              have h665 := bf_739_45 hP655; rw [e664] at h665
              obtain ⟨v666, e667⟩ : ∃ v, M654 739 46 = v := ⟨_, rfl⟩
              have h668 := bf_739_46 hP655; rw [e667] at h668
              refine wk_al0 r68_76 (wk_il2 r68_77 (wk_c2 r68_78 ?_))
              refine wk_icne r68_80 ⟨by omega, by omega⟩ (by decide) ?_ ?_
              · intro h669
                exfalso
                omega
              · intro h670
                refine wk_c2 r68_83 (wk_goto r68_85 (wk_c1 r68_90 (wk_cv3 r68_91 kc_739_133 rfl (m9133_739 _ M654 11 0 v666 hP655 (by decide) (by decide) (by decide) (by decide) e667 (by omega) (by omega)) (cqV ?_))))
                rintro M671 ⟨hP672, hQ673, h675, h676, xh677⟩
                have hF674 : Fr fm_m9068_739 M0 M671 := hF657.tr hQ673 rfl
                obtain ⟨v678, e679⟩ : ∃ v, M671 739 46 = v := ⟨_, rfl⟩
                have h680 := bf_739_46 hP672; rw [e679] at h680
                have pr681 : GE M671 x739_45 (fun k => M0 757 k) 0 0 := GE_bin xh677 pr662 (by omega)
                refine wk_al0 r68_94 (wk_cv1 r68_95 kc_739_76 rfl (m9076_739 _ M671 x739_30 v577 hP672 ((hQ673.at g_739_30 rfl).trans ((hQ656.at g_739_30 rfl).trans e613)) (by omega) (by omega) ((hQ673.at g_739_31 rfl).trans ((hQ656.at g_739_31 rfl).trans e580)) (by omega) (by omega) (by omega)) (cqV ?_))
                rintro M682 ⟨hP683, hQ684, h686, h687, h688, h689, h690, pr691⟩
                have hF685 : Fr fm_m9068_739 M0 M682 := hF674.tr hQ684 rfl
                have e692 := ((hQ684.at g_739_30 rfl).trans ((hQ673.at g_739_30 rfl).trans ((hQ656.at g_739_30 rfl).trans e613)))
                obtain ⟨v693, e694⟩ : ∃ v, M682 739 31 = v := ⟨_, rfl⟩
                have h695 := bf_739_31 hP683; rw [e694] at h695
                obtain ⟨v696, e697⟩ : ∃ v, M682 739 33 = v := ⟨_, rfl⟩
                have h698 := bf_739_33 hP683; rw [e697] at h698
                obtain ⟨v699, e700⟩ : ∃ v, M682 739 34 = v := ⟨_, rfl⟩
                have h701 := bf_739_34 hP683; rw [e700] at h701
                obtain ⟨v702, e703⟩ : ∃ v, M682 739 32 = v := ⟨_, rfl⟩
                have h704 := bf_739_32 hP683; rw [e703] at h704
                refine wk_al0 r68_98 ?_
                obtain ⟨v705, e706⟩ : ∃ v, M682 739 36 = v := ⟨_, rfl⟩
                have h707 := bf_739_36 hP683; rw [e706] at h707
                obtain ⟨v708, e709⟩ : ∃ v, M682 739 35 = v := ⟨_, rfl⟩
                have h710 := bf_739_35 hP683; rw [e709] at h710
                refine wk_cv1 r68_99 kc_739_116 rfl (m9116_739 _ M682 x739_30 v693 v696 v699 v702 v593 v663 v678 v597 x739_38 v705 v609 v708 x739_45 ((fun k => M0 757 k)) hP683 ((hQ684.at g_739_30 rfl).trans ((hQ673.at g_739_30 rfl).trans ((hQ656.at g_739_30 rfl).trans e613))) (by omega) (by omega) e694 (by omega) (by omega) e697 (by omega) (by omega) e700 (by omega) (by omega) e703 (by omega) (by omega) ((hQ684.at g_739_28 rfl).trans ((hQ673.at g_739_28 rfl).trans ((hQ656.at g_739_28 rfl).trans e596))) (by omega) (by omega) ((hQ684.at g_739_45 rfl).trans ((hQ673.at g_739_45 rfl).trans e664)) (by omega) (by omega) ((hQ684.at g_739_46 rfl).trans e679) (by omega) (by omega) ((hQ684.at g_739_47 rfl).trans ((hQ673.at g_739_47 rfl).trans ((hQ656.at g_739_47 rfl).trans e600))) (by omega) (by omega) ((hQ684.at g_739_38 rfl).trans ((hQ673.at g_739_38 rfl).trans ((hQ656.at g_739_38 rfl).trans e614))) (by omega) (by omega) e706 (by omega) (by omega) ((hQ684.at g_739_51 rfl).trans ((hQ673.at g_739_51 rfl).trans ((hQ656.at g_739_51 rfl).trans e612))) (by omega) (by omega) e709 (by omega) (by omega) (by omega) (by omega) (by omega) (by omega) (by omega) (by omega) (by omega) (by omega) pr691 (GE_sm (Sm.fr hQ684 rfl) pr681)) (cqV ?_)
                rintro M711 ⟨hP712, hQ713, h715, h716, h717, h718, h719, h720, h721, h722, h723, h724, pr725, pr726⟩
                have hF714 : Fr fm_m9068_739 M0 M711 := hF685.tr hQ713 rfl
                have e727 := ((hQ713.at g_739_30 rfl).trans ((hQ684.at g_739_30 rfl).trans ((hQ673.at g_739_30 rfl).trans ((hQ656.at g_739_30 rfl).trans e613))))
                obtain ⟨v728, e729⟩ : ∃ v, M711 739 31 = v := ⟨_, rfl⟩
                have h730 := bf_739_31 hP712; rw [e729] at h730
                obtain ⟨v731, e732⟩ : ∃ v, M711 739 33 = v := ⟨_, rfl⟩
                have h733 := bf_739_33 hP712; rw [e732] at h733
                obtain ⟨v734, e735⟩ : ∃ v, M711 739 34 = v := ⟨_, rfl⟩
                have h736 := bf_739_34 hP712; rw [e735] at h736
                obtain ⟨v737, e738⟩ : ∃ v, M711 739 32 = v := ⟨_, rfl⟩
                have h739 := bf_739_32 hP712; rw [e738] at h739
                obtain ⟨v740, e741⟩ : ∃ v, M711 739 28 = v := ⟨_, rfl⟩
                have h742 := bf_739_28 hP712; rw [e741] at h742
                obtain ⟨v743, e744⟩ : ∃ v, M711 739 47 = v := ⟨_, rfl⟩
                have h745 := bf_739_47 hP712; rw [e744] at h745
                obtain ⟨v746, e747⟩ : ∃ v, M711 739 45 = v := ⟨_, rfl⟩
                have h748 := bf_739_45 hP712; rw [e747] at h748
                obtain ⟨v749, e750⟩ : ∃ v, M711 739 46 = v := ⟨_, rfl⟩
                have h751 := bf_739_46 hP712; rw [e750] at h751
                obtain ⟨v752, e753⟩ : ∃ v, M711 739 51 = v := ⟨_, rfl⟩
                have h754 := bf_739_51 hP712; rw [e753] at h754
                refine wk_goto r68_102 (wk_goto r68_191 ?_)
                exact wp_fg (le_s (le_s (le_n le_0))) (ih1069 (10 * (501 - v731) + v571).toNat (by omega) M711 v571 v728 v731 v734 v737 v740 v743 v746 v749 v752 rfl hP712 hF714 e729 e732 e735 e738 e741 e744 e747 e750 e753 ((hQ713.at g_739_30 rfl).trans ((hQ684.at g_739_30 rfl).trans ((hQ673.at g_739_30 rfl).trans ((hQ656.at g_739_30 rfl).trans e613)))) ((hQ713.at g_739_38 rfl).trans ((hQ684.at g_739_38 rfl).trans ((hQ673.at g_739_38 rfl).trans ((hQ656.at g_739_38 rfl).trans e614)))) (by omega) (by omega) (by omega) (by omega) (by omega) (by omega) (by omega) (by omega) (by omega) (by omega) (by omega) (by omega) (by omega) (by omega) (by omega) (by omega) (by omega) (by omega) (by omega) (by omega) pr725 pr726 (by omega) (by omega) (by omega) (by omega) (by omega) (by omega) (by omega) (by omega) (by omega) (by omega) (by omega))
          · intro h755
            refine wk_il2 r68_55 (wk_c2 r68_56 ?_)
            refine wk_icne r68_58 ⟨by omega, by omega⟩ (by decide) ?_ ?_
            · intro h756
              refine wk_al0 r68_105 (wk_c2 r68_106 ?_)
              obtain ⟨v757, e758⟩ : ∃ v, M574 739 36 = v := ⟨_, rfl⟩
              have h759 := bf_739_36 hP575; rw [e758] at h759
              refine wk_cv2 r68_108 kc_739_88 rfl (m9088_739 _ M574 41 v589 v757 hP575 (by decide) (by decide) e592 (by omega) (by omega) e758 (by omega) (by omega)) (cqI ?_)
              rintro v767 M760 ⟨hP761, hQ762, h768, h769, h764, h765, h766⟩
              obtain rfl := Fr.same hQ762
              have e770 := e592
              have e771 := e758
              refine wk_ifeq r68_111 ⟨by omega, by omega⟩ ?_ ?_
              · intro h772
                refine wk_c1 r68_189 (wk_is1 r68_190 rfl (wk_goto r68_191 ?_))
                exact wp_fg (le_s (le_s (le_n le_0))) (ih1069 (10 * (501 - v581) + 0).toNat (by omega) M574 0 v577 v581 v585 v589 v593 v597 v601 v605 v609 rfl hP575 hF576 e580 e584 e588 e592 e596 e600 e604 e608 e612 e613 e614 (by omega) (by omega) (by omega) (by omega) (by omega) (by omega) (by omega) (by omega) (by omega) (by omega) (by omega) (by omega) (by omega) (by omega) (by omega) (by omega) (by omega) (by omega) (by omega) (by omega) pr615 pr616 (by omega) (by omega) (by omega) (by omega) (by omega) (by omega) (by omega) (by omega) (by omega) (by omega) (by omega))
              · intro h773
                refine wk_al0 r68_114 (wk_getfi r68_115 fd_739_47 e600 (wk_c1 r68_118 ?_))
                refine wk_icle r68_119 ⟨by omega, by omega⟩ (by decide) ?_ ?_
                · intro h774
                  refine wk_c1 r68_189 (wk_is1 r68_190 rfl (wk_goto r68_191 ?_))
                  exact wp_fg (le_s (le_s (le_n le_0))) (ih1069 (10 * (501 - v581) + 0).toNat (by omega) M574 0 v577 v581 v585 v589 v593 v597 v601 v605 v609 rfl hP575 hF576 e580 e584 e588 e592 e596 e600 e604 e608 e612 e613 e614 (by omega) (by omega) (by omega) (by omega) (by omega) (by omega) (by omega) (by omega) (by omega) (by omega) (by omega) (by omega) (by omega) (by omega) (by omega) (by omega) (by omega) (by omega) (by omega) (by omega) pr615 pr616 (by omega) (by omega) (by omega) (by omega) (by omega) (by omega) (by omega) (by omega) (by omega) (by omega) (by omega))
                · intro h775
                  refine wk_al0 r68_122 (wk_c1 r68_123 (wk_cv2 r68_124 kc_739_63 rfl (m9063_739 _ M574 1 v601 v605 v597 x739_45 ((fun k => M0 757 k)) hP575 (by decide) (by decide) e604 (by omega) (by omega) e608 (by omega) (by omega) e600 (by omega) (by omega) (by omega) pr616) (cqV ?_)))
                  rintro M776 ⟨hP777, hQ778, h780, h781, h782, xh783, pr784⟩
                  have hF779 : Fr fm_m9068_739 M0 M776 := hF576.tr hQ778 rfl
                  obtain ⟨v785, e786⟩ : ∃ v, M776 739 45 = v := ⟨_, rfl⟩
                  have h787 := bf_739_45 hP777; rw [e786] at h787
                  obtain ⟨v788, e789⟩ : ∃ v, M776 739 46 = v := ⟨_, rfl⟩
                  have h790 := bf_739_46 hP777; rw [e789] at h790
                  have h791 : 1 ≤ v788 := by have q := GE_open pr784 ((hQ778.at g_739_28 rfl).trans e596) (by omega) ((hQ778.at g_739_47 rfl).trans e600) (by omega); have := e789; omega
                  have dE : GE M776 x739_45 (fun k => M0 757 k) 1 0 := pr784
                  have dW : M776 739 46 = v788 := e789
                  have dD : M776 739 47 = v597 := ((hQ778.at g_739_47 rfl).trans e600)
                  have dL := xh783 rfl
                  refine wk_al0 r68_127 (wk_dupr r68_128 (wk_getfi r68_129 fd_739_46 e789 (wk_c1 r68_132 (wk_isub r68_133 (wk_putfi81 r68_134 fd_739_46 (wk_nw g_739_46 rfl hP777 hF779 (uf_739_46 ⟨by omega, by omega⟩) ?_))))))
                  intro M792 hP793 hF794 e795
                  refine wk_al0 r68_137 (wk_dupr r68_138 (wk_getfi r68_139 fd_739_47 (mUp_no e795 ((hQ778.at g_739_47 rfl).trans e600) (Or.inr (by decide))) (wk_c1 r68_142 (wk_isub r68_143 (wk_putfi81 r68_144 fd_739_47 (wk_nw g_739_47 rfl hP793 hF794 (uf_739_47 ⟨by omega, by omega⟩) ?_))))))
                  intro M796 hP797 hF798 e799
                  have pr800 : GE M796 x739_45 (fun k => M0 757 k) 1 0 := GE_close dE dW (by omega) dD dL e795 e799
                  refine wk_al0 r68_147 (wk_getfr r68_148 fd_739_50 (br_739_50 hP797) (wk_al0 r68_151 (wk_getfi r68_152 fd_739_46 (mUp_no e799 (mUp_at e795) (Or.inr (by decide))) (wk_ialdb r68_155 ar_758 ⟨by omega, by omega⟩ (fun q0 q1 => ba_758 hP797 q0 q1) ?_))))
                  intro v801 h803 h804 e802
                  refine wk_c2 r68_156 ?_
                  refine wk_icle r68_158 ⟨by omega, by omega⟩ (by decide) ?_ ?_
                  · intro h805
                    refine wk_al0 r68_182 (wk_cv1 r68_183 kc_739_76 rfl (m9076_739 _ M796 x739_30 v577 hP797 (mUp_no e799 (mUp_no e795 ((hQ778.at g_739_30 rfl).trans e613) (Or.inr (by decide))) (Or.inr (by decide))) (by omega) (by omega) (mUp_no e799 (mUp_no e795 ((hQ778.at g_739_31 rfl).trans e580) (Or.inr (by decide))) (Or.inr (by decide))) (by omega) (by omega) (by omega)) (cqV ?_))
                    rintro M806 ⟨hP807, hQ808, h810, h811, h812, h813, h814, pr815⟩
                    have hF809 : Fr fm_m9068_739 M0 M806 := hF798.tr hQ808 rfl
                    have e816 := ((hQ808.at g_739_30 rfl).trans (mUp_no e799 (mUp_no e795 ((hQ778.at g_739_30 rfl).trans e613) (Or.inr (by decide))) (Or.inr (by decide))))
                    obtain ⟨v817, e818⟩ : ∃ v, M806 739 31 = v := ⟨_, rfl⟩
                    have h819 := bf_739_31 hP807; rw [e818] at h819
                    obtain ⟨v820, e821⟩ : ∃ v, M806 739 33 = v := ⟨_, rfl⟩
                    have h822 := bf_739_33 hP807; rw [e821] at h822
                    obtain ⟨v823, e824⟩ : ∃ v, M806 739 34 = v := ⟨_, rfl⟩
                    have h825 := bf_739_34 hP807; rw [e824] at h825
                    obtain ⟨v826, e827⟩ : ∃ v, M806 739 32 = v := ⟨_, rfl⟩
                    have h828 := bf_739_32 hP807; rw [e827] at h828
                    refine wk_goto r68_186 (wk_goto r68_191 ?_)
                    exact wp_fg (le_s (le_s (le_n le_0))) (ih1069 (10 * (501 - v820) + v571).toNat (by omega) M806 v571 v817 v820 v823 v826 v593 (v597 - 1) v785 (v788 - 1) v609 rfl hP807 hF809 e818 e821 e824 e827 ((hQ808.at g_739_28 rfl).trans (mUp_no e799 (mUp_no e795 ((hQ778.at g_739_28 rfl).trans e596) (Or.inr (by decide))) (Or.inr (by decide)))) ((hQ808.at g_739_47 rfl).trans (mUp_at e799)) ((hQ808.at g_739_45 rfl).trans (mUp_no e799 (mUp_no e795 e786 (Or.inr (by decide))) (Or.inr (by decide)))) ((hQ808.at g_739_46 rfl).trans (mUp_no e799 (mUp_at e795) (Or.inr (by decide)))) ((hQ808.at g_739_51 rfl).trans (mUp_no e799 (mUp_no e795 ((hQ778.at g_739_51 rfl).trans e612) (Or.inr (by decide))) (Or.inr (by decide)))) ((hQ808.at g_739_30 rfl).trans (mUp_no e799 (mUp_no e795 ((hQ778.at g_739_30 rfl).trans e613) (Or.inr (by decide))) (Or.inr (by decide)))) ((hQ808.at g_739_38 rfl).trans (mUp_no e799 (mUp_no e795 ((hQ778.at g_739_38 rfl).trans e614) (Or.inr (by decide))) (Or.inr (by decide)))) (by omega) (by omega) (by omega) (by omega) (by omega) (by omega) (by omega) (by omega) (by omega) (by omega) (by omega) (by omega) (by omega) (by omega) (by omega) (by omega) (by omega) (by omega) (by omega) (by omega) pr815 (GE_sm (Sm.fr hQ808 rfl) pr800) (by omega) (by omega) (by omega) (by omega) (by omega) (by omega) (by omega) (by omega) (by omega) (by omega) (by omega))
                  · intro h829
                    refine wk_al0 r68_161 (wk_c2 r68_162 (wk_al0 r68_164 (wk_getfr r68_165 fd_739_50 (br_739_50 hP797) (wk_al0 r68_168 (wk_getfi r68_169 fd_739_46 (mUp_no e799 (mUp_at e795) (Or.inr (by decide))) (wk_iald r68_172 ar_758 ⟨by omega, by omega⟩ e802 (wk_c2 r68_173 (wk_idiv r68_175 ⟨by omega, by omega⟩ (by decide) (wk_c1 r68_176 (wk_isub r68_177 (wk_c1 r68_178 (wk_cv4 r68_179 kc_739_117 rfl (m9117_739 _ M796 13 ((v801 / 16) - 1) 0 v785 hP797 (by decide) (by decide) (by omega) (by omega) (by decide) (by decide) (mUp_no e799 (mUp_no e795 e786 (Or.inr (by decide))) (Or.inr (by decide))) (by omega) (by omega)) (cqV ?_)))))))))))))
                    rintro M831 ⟨hP832, hQ833, h835, h836, xh837⟩
                    have hF834 : Fr fm_m9068_739 M0 M831 := hF798.tr hQ833 rfl
                    obtain ⟨v838, e839⟩ : ∃ v, M831 739 45 = v := ⟨_, rfl⟩
                    have h840 := bf_739_45 hP832; rw [e839] at h840
                    have pr841 : GE M831 x739_45 (fun k => M0 757 k) 1 0 := GE_says xh837 pr800 ⟨by omega, by unfold refok; omega, by omega⟩
                    refine wk_al0 r68_182 (wk_cv1 r68_183 kc_739_76 rfl (m9076_739 _ M831 x739_30 v577 hP832 ((hQ833.at g_739_30 rfl).trans (mUp_no e799 (mUp_no e795 ((hQ778.at g_739_30 rfl).trans e613) (Or.inr (by decide))) (Or.inr (by decide)))) (by omega) (by omega) ((hQ833.at g_739_31 rfl).trans (mUp_no e799 (mUp_no e795 ((hQ778.at g_739_31 rfl).trans e580) (Or.inr (by decide))) (Or.inr (by decide)))) (by omega) (by omega) (by omega)) (cqV ?_))
                    rintro M842 ⟨hP843, hQ844, h846, h847, h848, h849, h850, pr851⟩
                    have hF845 : Fr fm_m9068_739 M0 M842 := hF834.tr hQ844 rfl
                    have e852 := ((hQ844.at g_739_30 rfl).trans ((hQ833.at g_739_30 rfl).trans (mUp_no e799 (mUp_no e795 ((hQ778.at g_739_30 rfl).trans e613) (Or.inr (by decide))) (Or.inr (by decide)))))
                    obtain ⟨v853, e854⟩ : ∃ v, M842 739 31 = v := ⟨_, rfl⟩
                    have h855 := bf_739_31 hP843; rw [e854] at h855
                    obtain ⟨v856, e857⟩ : ∃ v, M842 739 33 = v := ⟨_, rfl⟩
                    have h858 := bf_739_33 hP843; rw [e857] at h858
                    obtain ⟨v859, e860⟩ : ∃ v, M842 739 34 = v := ⟨_, rfl⟩
                    have h861 := bf_739_34 hP843; rw [e860] at h861
                    obtain ⟨v862, e863⟩ : ∃ v, M842 739 32 = v := ⟨_, rfl⟩
                    have h864 := bf_739_32 hP843; rw [e863] at h864
                    refine wk_goto r68_186 (wk_goto r68_191 ?_)
                    exact wp_fg (le_s (le_s (le_n le_0))) (ih1069 (10 * (501 - v856) + v571).toNat (by omega) M842 v571 v853 v856 v859 v862 v593 (v597 - 1) v838 (v788 - 1) v609 rfl hP843 hF845 e854 e857 e860 e863 ((hQ844.at g_739_28 rfl).trans ((hQ833.at g_739_28 rfl).trans (mUp_no e799 (mUp_no e795 ((hQ778.at g_739_28 rfl).trans e596) (Or.inr (by decide))) (Or.inr (by decide))))) ((hQ844.at g_739_47 rfl).trans ((hQ833.at g_739_47 rfl).trans (mUp_at e799))) ((hQ844.at g_739_45 rfl).trans e839) ((hQ844.at g_739_46 rfl).trans ((hQ833.at g_739_46 rfl).trans (mUp_no e799 (mUp_at e795) (Or.inr (by decide))))) ((hQ844.at g_739_51 rfl).trans ((hQ833.at g_739_51 rfl).trans (mUp_no e799 (mUp_no e795 ((hQ778.at g_739_51 rfl).trans e612) (Or.inr (by decide))) (Or.inr (by decide))))) ((hQ844.at g_739_30 rfl).trans ((hQ833.at g_739_30 rfl).trans (mUp_no e799 (mUp_no e795 ((hQ778.at g_739_30 rfl).trans e613) (Or.inr (by decide))) (Or.inr (by decide))))) ((hQ844.at g_739_38 rfl).trans ((hQ833.at g_739_38 rfl).trans (mUp_no e799 (mUp_no e795 ((hQ778.at g_739_38 rfl).trans e614) (Or.inr (by decide))) (Or.inr (by decide))))) (by omega) (by omega) (by omega) (by omega) (by omega) (by omega) (by omega) (by omega) (by omega) (by omega) (by omega) (by omega) (by omega) (by omega) (by omega) (by omega) (by omega) (by omega) (by omega) (by omega) pr851 (GE_sm (Sm.fr hQ844 rfl) pr841) (by omega) (by omega) (by omega) (by omega) (by omega) (by omega) (by omega) (by omega) (by omega) (by omega) (by omega))
            · intro h865
              refine wk_al0 r68_61 (wk_il2 r68_62 (wk_c2 r68_63 ?_))
              refine wk_icne r68_65 ⟨by omega, by omega⟩ (by decide) ?_ ?_
              · intro h866
                refine wk_c1 r68_72 (wk_cv2 r68_73 kc_739_63 rfl (m9063_739 _ M574 1 v601 v605 v597 x739_45 ((fun k => M0 757 k)) hP575 (by decide) (by decide) e604 (by omega) (by omega) e608 (by omega) (by omega) e600 (by omega) (by omega) (by omega) pr616) (cqV ?_))
                rintro M867 ⟨hP868, hQ869, h871, h872, h873, xh874, pr875⟩
                have hF870 : Fr fm_m9068_739 M0 M867 := hF576.tr hQ869 rfl
                obtain ⟨v876, e877⟩ : ∃ v, M867 739 45 = v := ⟨_, rfl⟩
                have h878 := bf_739_45 hP868; rw [e877] at h878
                obtain ⟨v879, e880⟩ : ∃ v, M867 739 46 = v := ⟨_, rfl⟩
                have h881 := bf_739_46 hP868; rw [e880] at h881
                refine wk_al0 r68_76 (wk_il2 r68_77 (wk_c2 r68_78 ?_))
                refine wk_icne r68_80 ⟨by omega, by omega⟩ (by decide) ?_ ?_
                · intro h882
                  refine wk_c2 r68_88 (wk_c1 r68_90 (wk_cv3 r68_91 kc_739_133 rfl (m9133_739 _ M867 12 0 v879 hP868 (by decide) (by decide) (by decide) (by decide) e880 (by omega) (by omega)) (cqV ?_)))
                  rintro M883 ⟨hP884, hQ885, h887, h888, xh889⟩
                  have hF886 : Fr fm_m9068_739 M0 M883 := hF870.tr hQ885 rfl
                  obtain ⟨v890, e891⟩ : ∃ v, M883 739 46 = v := ⟨_, rfl⟩
                  have h892 := bf_739_46 hP884; rw [e891] at h892
                  have pr893 : GE M883 x739_45 (fun k => M0 757 k) 0 0 := GE_bin xh889 pr875 (by omega)
                  refine wk_al0 r68_94 (wk_cv1 r68_95 kc_739_76 rfl (m9076_739 _ M883 x739_30 v577 hP884 ((hQ885.at g_739_30 rfl).trans ((hQ869.at g_739_30 rfl).trans e613)) (by omega) (by omega) ((hQ885.at g_739_31 rfl).trans ((hQ869.at g_739_31 rfl).trans e580)) (by omega) (by omega) (by omega)) (cqV ?_))
                  rintro M894 ⟨hP895, hQ896, h898, h899, h900, h901, h902, pr903⟩
                  have hF897 : Fr fm_m9068_739 M0 M894 := hF886.tr hQ896 rfl
                  have e904 := ((hQ896.at g_739_30 rfl).trans ((hQ885.at g_739_30 rfl).trans ((hQ869.at g_739_30 rfl).trans e613)))
                  obtain ⟨v905, e906⟩ : ∃ v, M894 739 31 = v := ⟨_, rfl⟩
                  have h907 := bf_739_31 hP895; rw [e906] at h907
                  obtain ⟨v908, e909⟩ : ∃ v, M894 739 33 = v := ⟨_, rfl⟩
                  have h910 := bf_739_33 hP895; rw [e909] at h910
                  obtain ⟨v911, e912⟩ : ∃ v, M894 739 34 = v := ⟨_, rfl⟩
                  have h913 := bf_739_34 hP895; rw [e912] at h913
                  obtain ⟨v914, e915⟩ : ∃ v, M894 739 32 = v := ⟨_, rfl⟩
                  have h916 := bf_739_32 hP895; rw [e915] at h916
                  refine wk_al0 r68_98 ?_
                  obtain ⟨v917, e918⟩ : ∃ v, M894 739 36 = v := ⟨_, rfl⟩
                  have h919 := bf_739_36 hP895; rw [e918] at h919
                  obtain ⟨v920, e921⟩ : ∃ v, M894 739 35 = v := ⟨_, rfl⟩
                  have h922 := bf_739_35 hP895; rw [e921] at h922
                  refine wk_cv1 r68_99 kc_739_116 rfl (m9116_739 _ M894 x739_30 v905 v908 v911 v914 v593 v876 v890 v597 x739_38 v917 v609 v920 x739_45 ((fun k => M0 757 k)) hP895 ((hQ896.at g_739_30 rfl).trans ((hQ885.at g_739_30 rfl).trans ((hQ869.at g_739_30 rfl).trans e613))) (by omega) (by omega) e906 (by omega) (by omega) e909 (by omega) (by omega) e912 (by omega) (by omega) e915 (by omega) (by omega) ((hQ896.at g_739_28 rfl).trans ((hQ885.at g_739_28 rfl).trans ((hQ869.at g_739_28 rfl).trans e596))) (by omega) (by omega) ((hQ896.at g_739_45 rfl).trans ((hQ885.at g_739_45 rfl).trans e877)) (by omega) (by omega) ((hQ896.at g_739_46 rfl).trans e891) (by omega) (by omega) ((hQ896.at g_739_47 rfl).trans ((hQ885.at g_739_47 rfl).trans ((hQ869.at g_739_47 rfl).trans e600))) (by omega) (by omega) ((hQ896.at g_739_38 rfl).trans ((hQ885.at g_739_38 rfl).trans ((hQ869.at g_739_38 rfl).trans e614))) (by omega) (by omega) e918 (by omega) (by omega) ((hQ896.at g_739_51 rfl).trans ((hQ885.at g_739_51 rfl).trans ((hQ869.at g_739_51 rfl).trans e612))) (by omega) (by omega) e921 (by omega) (by omega) (by omega) (by omega) (by omega) (by omega) (by omega) (by omega) (by omega) (by omega) pr903 (GE_sm (Sm.fr hQ896 rfl) pr893)) (cqV ?_)
                  rintro M923 ⟨hP924, hQ925, h927, h928, h929, h930, h931, h932, h933, h934, h935, h936, pr937, pr938⟩
                  have hF926 : Fr fm_m9068_739 M0 M923 := hF897.tr hQ925 rfl
                  have e939 := ((hQ925.at g_739_30 rfl).trans ((hQ896.at g_739_30 rfl).trans ((hQ885.at g_739_30 rfl).trans ((hQ869.at g_739_30 rfl).trans e613))))
                  obtain ⟨v940, e941⟩ : ∃ v, M923 739 31 = v := ⟨_, rfl⟩
                  have h942 := bf_739_31 hP924; rw [e941] at h942
                  obtain ⟨v943, e944⟩ : ∃ v, M923 739 33 = v := ⟨_, rfl⟩
                  have h945 := bf_739_33 hP924; rw [e944] at h945
                  obtain ⟨v946, e947⟩ : ∃ v, M923 739 34 = v := ⟨_, rfl⟩
                  have h948 := bf_739_34 hP924; rw [e947] at h948
                  obtain ⟨v949, e950⟩ : ∃ v, M923 739 32 = v := ⟨_, rfl⟩
                  have h951 := bf_739_32 hP924; rw [e950] at h951
                  obtain ⟨v952, e953⟩ : ∃ v, M923 739 28 = v := ⟨_, rfl⟩
                  have h954 := bf_739_28 hP924; rw [e953] at h954
                  obtain ⟨v955, e956⟩ : ∃ v, M923 739 47 = v := ⟨_, rfl⟩
                  have h957 := bf_739_47 hP924; rw [e956] at h957
                  obtain ⟨v958, e959⟩ : ∃ v, M923 739 45 = v := ⟨_, rfl⟩
                  have h960 := bf_739_45 hP924; rw [e959] at h960
                  obtain ⟨v961, e962⟩ : ∃ v, M923 739 46 = v := ⟨_, rfl⟩
                  have h963 := bf_739_46 hP924; rw [e962] at h963
                  obtain ⟨v964, e965⟩ : ∃ v, M923 739 51 = v := ⟨_, rfl⟩
                  have h966 := bf_739_51 hP924; rw [e965] at h966
                  refine wk_goto r68_102 (wk_goto r68_191 ?_)
                  exact wp_fg (le_s (le_s (le_n le_0))) (ih1069 (10 * (501 - v943) + v571).toNat (by omega) M923 v571 v940 v943 v946 v949 v952 v955 v958 v961 v964 rfl hP924 hF926 e941 e944 e947 e950 e953 e956 e959 e962 e965 ((hQ925.at g_739_30 rfl).trans ((hQ896.at g_739_30 rfl).trans ((hQ885.at g_739_30 rfl).trans ((hQ869.at g_739_30 rfl).trans e613)))) ((hQ925.at g_739_38 rfl).trans ((hQ896.at g_739_38 rfl).trans ((hQ885.at g_739_38 rfl).trans ((hQ869.at g_739_38 rfl).trans e614)))) (by omega) (by omega) (by omega) (by omega) (by omega) (by omega) (by omega) (by omega) (by omega) (by omega) (by omega) (by omega) (by omega) (by omega) (by omega) (by omega) (by omega) (by omega) (by omega) (by omega) pr937 pr938 (by omega) (by omega) (by omega) (by omega) (by omega) (by omega) (by omega) (by omega) (by omega) (by omega) (by omega))
                · intro h967
                  exfalso
                  omega
              · intro h968
                exfalso
                omega
    exact wp_fg (le_s (le_s (le_s le_0))) (c33_1069 _ M56 1 v73 v76 v79 v82 v85 v88 v91 v94 v97 rfl hP57 hF59 e74 e77 e80 e83 e86 e89 e92 e95 e98 ((hQ58.at g_739_30 rfl).trans ((hQ27.at g_739_30 rfl).trans (mUp_no e23 (mUp_no e19 (mUp_no e15 ex739_30 (Or.inr (by decide))) (Or.inr (by decide))) (Or.inr (by decide))))) ((hQ58.at g_739_38 rfl).trans ((hQ27.at g_739_38 rfl).trans (mUp_no e23 (mUp_no e19 (mUp_no e15 ex739_38 (Or.inr (by decide))) (Or.inr (by decide))) (Or.inr (by decide))))) (by omega) (by omega) (by omega) (by omega) (by omega) (by omega) (by omega) (by omega) (by omega) (by omega) (by omega) (by omega) (by omega) (by omega) (by omega) (by omega) (by omega) (by omega) (by omega) (by omega) pr70 pr71 (by omega) (by omega) (by omega) (by omega) (by omega) (by omega) (by omega) (by omega) (by omega) (by omega) (by omega))
  · intro h1070
    subst hQ; exact wk_ret r68_7 (⟨rfl, hP0, hF0, by have := ex739_30; have := ex739_31; omega, by have := ex739_31; have := ex739_33; have := ex739_34; omega, by have := ex739_31; have := ex739_33; have := ex739_34; omega, by have := ex739_34; have := ex739_32; omega, by have := ex739_33; omega, by have := ex739_28; omega, by have := ex739_33; have := ex739_45; have := ex739_28; omega, by have := ex739_45; omega, fun q => absurd q (by have := ex739_28; omega), pp_TK⟩)
def fm_m9119_739 : Nat := 54620200750467202666517121666041509319714645900003796313964544
/-- IslandHallModel.readsLies -/
theorem m9119_739 {B : eB} (d : Nat) (M0 : Mm) (x739_30 : Int) (x739_31 : Int) (x739_33 : Int) (x739_34 : Int) (x739_32 : Int) (x739_28 : Int) (x739_35 : Int) (hP0 : Pw M0) (ex739_30 : M0 739 30 = x739_30) (lx739_30 : 0 ≤ x739_30) (ux739_30 : x739_30 ≤ 500) (ex739_31 : M0 739 31 = x739_31) (lx739_31 : 0 ≤ x739_31) (ux739_31 : x739_31 ≤ 500) (ex739_33 : M0 739 33 = x739_33) (lx739_33 : 0 ≤ x739_33) (ux739_33 : x739_33 ≤ 500) (ex739_34 : M0 739 34 = x739_34) (lx739_34 : 0 ≤ x739_34) (ux739_34 : x739_34 ≤ 500) (ex739_32 : M0 739 32 = x739_32) (lx739_32 : 0 ≤ x739_32) (ux739_32 : x739_32 ≤ 4) (ex739_28 : M0 739 28 = x739_28) (lx739_28 : 0 ≤ x739_28) (ux739_28 : x739_28 ≤ 6) (ex739_35 : M0 739 35 = x739_35) (lx739_35 : 0 ≤ x739_35) (ux739_35 : x739_35 ≤ 999) (rp0 : 0 ≤ x739_30 + (-1) * x739_31) (rp1 : 0 ≤ x739_31 + (-1) * x739_33 + (-1) * x739_34) (rp2 : 0 ≤ (-1) * x739_31 + x739_33 + x739_34) (rp3 : 0 ≤ 4 * x739_34 + (-1) * x739_32) (pp_TK : TK M0) : Ct B (d + 4) 119 [R 739] M0 (qV fun M => Pw M ∧ Fr fm_m9119_739 M0 M ∧ 0 ≤ M 739 30 + (-1) * (M 739 31) ∧ 0 ≤ M 739 31 + (-1) * (M 739 33) + (-1) * (M 739 34) ∧ 0 ≤ (-1) * (M 739 31) + M 739 33 + M 739 34 ∧ 0 ≤ 4 * (M 739 34) + (-1) * (M 739 32) ∧ 0 ≤ M 739 33 + (-1) * x739_33 ∧ 0 ≤ M 739 28 + (-1) * x739_28 ∧ (TK M) ∧ (LRP M)) := by
  refine ct_of (d := d + 3) (k := 0) (L := [some (R 739)]) rfl rfl rfl ?_
  have hF0 := Fr.rf fm_m9119_739 M0
  generalize hQ : (qV fun M => Pw M ∧ Fr fm_m9119_739 M0 M ∧ 0 ≤ M 739 30 + (-1) * (M 739 31) ∧ 0 ≤ M 739 31 + (-1) * (M 739 33) + (-1) * (M 739 34) ∧ 0 ≤ (-1) * (M 739 31) + M 739 33 + M 739 34 ∧ 0 ≤ 4 * (M 739 34) + (-1) * (M 739 32) ∧ 0 ≤ M 739 33 + (-1) * x739_33 ∧ 0 ≤ M 739 28 + (-1) * x739_28 ∧ (TK M) ∧ (LRP M)) = Q
  refine wk_al0 r119_0 (wk_c1 r119_1 (wk_al0 r119_2 (wk_c1 r119_3 (wk_c2 r119_4 (wk_cv3 r119_6 kc_739_114 rfl (m9114_739 _ M0 0 6 x739_30 x739_31 x739_33 x739_34 x739_32 x739_28 x739_35 hP0 (by decide) (by decide) (by decide) (by decide) ex739_30 (by omega) (by omega) ex739_31 (by omega) (by omega) ex739_33 (by omega) (by omega) ex739_34 (by omega) (by omega) ex739_32 (by omega) (by omega) ex739_28 (by omega) (by omega) ex739_35 (by omega) (by omega) (by omega) (by omega) (by omega) (by omega) pp_TK) (cqI ?_))))))
  rintro v15 M1 ⟨hP2, hQ3, h16, h17, h5, h6, h7, h8, h9, h10, h11, h12, h13, pr14⟩
  have hF4 : Fr fm_m9119_739 M0 M1 := hF0.tr hQ3 rfl
  have e18 := ((hQ3.at g_739_30 rfl).trans ex739_30)
  obtain ⟨v19, e20⟩ : ∃ v, M1 739 31 = v := ⟨_, rfl⟩
  have h21 := bf_739_31 hP2; rw [e20] at h21
  obtain ⟨v22, e23⟩ : ∃ v, M1 739 33 = v := ⟨_, rfl⟩
  have h24 := bf_739_33 hP2; rw [e23] at h24
  obtain ⟨v25, e26⟩ : ∃ v, M1 739 34 = v := ⟨_, rfl⟩
  have h27 := bf_739_34 hP2; rw [e26] at h27
  obtain ⟨v28, e29⟩ : ∃ v, M1 739 32 = v := ⟨_, rfl⟩
  have h30 := bf_739_32 hP2; rw [e29] at h30
  obtain ⟨v31, e32⟩ : ∃ v, M1 739 28 = v := ⟨_, rfl⟩
  have h33 := bf_739_28 hP2; rw [e32] at h33
  rcases (show v31 = 0 ∨ 1 ≤ v31 by omega) with h34 | h35
  · refine wk_shl1 6 64 r119_9 ⟨by omega, by omega⟩ ⟨pwl_6, by decide⟩ ?_
    intro v36 h37 h38 h39
    refine wk_putfi81 r119_10 fd_739_42 (wk_nw g_739_42 rfl hP2 hF4 (uf_739_42 ⟨by omega, by omega⟩) ?_)
    intro M40 hP41 hF42 e43
    have pr44 : LRP M40 := fun _ => by have := (mUp_at e43); omega
    have c13_375 : ∀ (k375 : Nat) (M259 : Mm) (v262 : Int) (v266 : Int) (v270 : Int) (v274 : Int) (v278 : Int) (v282 : Int), (10 * (501 - v266) + (6 - v278)).toNat = k375 → Pw M259 → Fr fm_m9119_739 M0 M259 → M259 739 31 = v262 → M259 739 33 = v266 → M259 739 34 = v270 → M259 739 32 = v274 → M259 739 28 = v278 → M259 739 42 = v282 → M259 739 30 = x739_30 → 1 ≤ v262 → v262 ≤ 500 → 1 ≤ v266 → v266 ≤ 500 → 0 ≤ v270 → v270 ≤ 499 → 0 ≤ v274 → v274 ≤ 4 → 0 ≤ v278 → v278 ≤ 6 → (-2147483648) ≤ v282 → v282 ≤ 2147483647 → (TK M259) → (LRP M259) → 0 ≤ 1 * x739_30 + (-1) * v262 → 0 ≤ 1 * v262 + (-1) * v266 + (-1) * v270 → 0 ≤ (-1) * v262 + 1 * v266 + 1 * v270 → 0 ≤ 4 * v270 + (-1) * v274 → 0 ≤ 1 * v266 + (-1) * x739_33 → 0 ≤ 1 * v278 + (-1) * x739_28 → Wp B (d + 3) 119 13 [some (R 739)] [] M259 Q := by
      refine lp_ind ?_
      intro k375 ih375 M259 v262 v266 v270 v274 v278 v282 hk375 hP260 hF261 e265 e269 e273 e277 e281 e285 e286 h263 h264 h267 h268 h271 h272 h275 h276 h279 h280 h283 h284 pr287 pr288 h289 h290 h291 h292 h293 h294
      refine wk_al0 r119_13 (wk_cv1 r119_14 kc_739_84 rfl (m9084_739 _ M259 v278 hP260 e281 (by omega) (by omega)) (cqI ?_))
      rintro v301 M295 ⟨hP296, hQ297, h302, h303, h299, h300⟩
      obtain rfl := Fr.same hQ297
      have e304 := e281
      refine wk_ifeq r119_17 ⟨by omega, by omega⟩ ?_ ?_
      · intro h305
        subst hQ; exact wk_ret r119_49 (⟨rfl, hP260, hF261, by have := e286; have := e265; omega, by have := e265; have := e269; have := e273; omega, by have := e265; have := e269; have := e273; omega, by have := e273; have := e277; omega, by have := e269; omega, by have := e281; omega, pr287, pr288⟩)
      · intro h306
        refine wk_al0 r119_20 (wk_getfi r119_21 fd_739_32 e277 (wk_c1 r119_24 ?_))
        refine wk_icne r119_25 ⟨by omega, by omega⟩ (by decide) ?_ ?_
        · intro h307
          subst hQ; exact wk_ret r119_49 (⟨rfl, hP260, hF261, by have := e286; have := e265; omega, by have := e265; have := e269; have := e273; omega, by have := e265; have := e269; have := e273; omega, by have := e273; have := e277; omega, by have := e269; omega, by have := e281; omega, pr287, pr288⟩)
        · intro h308
          refine wk_al0 r119_28 (wk_dupr r119_29 (wk_getfi r119_30 fd_739_42 e285 ?_))
          have h309 : 0 ≤ v282 ∧ v282 ≤ 127 := by have q := pr288 (by have := e281; omega); have := e285; omega
          refine wk_c1 r119_33 (wk_al0 r119_34 (wk_c1 r119_35 (wk_c2 r119_36 ?_)))
          obtain ⟨v310, e311⟩ : ∃ v, M259 739 35 = v := ⟨_, rfl⟩
          have h312 := bf_739_35 hP260; rw [e311] at h312
          refine wk_cv3 r119_38 kc_739_114 rfl (m9114_739 _ M259 0 6 x739_30 v262 v266 v270 v274 v278 v310 hP260 (by decide) (by decide) (by decide) (by decide) e286 (by omega) (by omega) e265 (by omega) (by omega) e269 (by omega) (by omega) e273 (by omega) (by omega) e277 (by omega) (by omega) e281 (by omega) (by omega) e311 (by omega) (by omega) (by omega) (by omega) (by omega) (by omega) pr287) (cqI ?_)
          rintro v327 M313 ⟨hP314, hQ315, h328, h329, h317, h318, h319, h320, h321, h322, h323, h324, h325, pr326⟩
          have hF316 : Fr fm_m9119_739 M0 M313 := hF261.tr hQ315 rfl
          have e330 := ((hQ315.at g_739_30 rfl).trans e286)
          obtain ⟨v331, e332⟩ : ∃ v, M313 739 31 = v := ⟨_, rfl⟩
          have h333 := bf_739_31 hP314; rw [e332] at h333
          obtain ⟨v334, e335⟩ : ∃ v, M313 739 33 = v := ⟨_, rfl⟩
          have h336 := bf_739_33 hP314; rw [e335] at h336
          obtain ⟨v337, e338⟩ : ∃ v, M313 739 34 = v := ⟨_, rfl⟩
          have h339 := bf_739_34 hP314; rw [e338] at h339
          obtain ⟨v340, e341⟩ : ∃ v, M313 739 32 = v := ⟨_, rfl⟩
          have h342 := bf_739_32 hP314; rw [e341] at h342
          obtain ⟨v343, e344⟩ : ∃ v, M313 739 28 = v := ⟨_, rfl⟩
          have h345 := bf_739_28 hP314; rw [e344] at h345
          have pr346 : LRP M313 := LRP_mn (Sm.fr hQ315 rfl) (fun q => by have := e281; have := e344; omega) pr288
          rcases (show v343 = 0 ∨ 1 ≤ v343 by omega) with h347 | h348
          · refine wk_shl1 6 64 r119_41 ⟨by omega, by omega⟩ ⟨pwl_6, by decide⟩ ?_
            intro v349 h350 h351 h352
            refine wk_ior 7 128 r119_42 (by decide) ⟨by omega, by omega⟩ ⟨by omega, by omega⟩ ?_
            intro v353 h354 h355 h356 h357 h358
            refine wk_putfi81 r119_43 fd_739_42 (wk_nw g_739_42 rfl hP314 hF316 (uf_739_42 ⟨by omega, by omega⟩) ?_)
            intro M359 hP360 hF361 e362
            have pr363 : LRP M359 := fun _ => by have := (mUp_at e362); omega
            refine wk_goto r119_46 ?_
            have pr364 : LRP M359 := fun _ => by have := (mUp_at e362); omega
            exact wp_fg (le_s le_0) (ih375 (10 * (501 - v334) + (6 - v343)).toNat (by omega) M359 v331 v334 v337 v340 v343 v353 rfl hP360 hF361 (mUp_no e362 e332 (Or.inr (by decide))) (mUp_no e362 e335 (Or.inr (by decide))) (mUp_no e362 e338 (Or.inr (by decide))) (mUp_no e362 e341 (Or.inr (by decide))) (mUp_no e362 e344 (Or.inr (by decide))) (mUp_at e362) (mUp_no e362 ((hQ315.at g_739_30 rfl).trans e286) (Or.inr (by decide))) (by omega) (by omega) (by omega) (by omega) (by omega) (by omega) (by omega) (by omega) (by omega) (by omega) (by omega) (by omega) (TK_sm (Sm.up e362 g_739_42 rfl) pr326) pr364 (by omega) (by omega) (by omega) (by omega) (by omega) (by omega))
          · refine wk_shlx r119_41 ?_
            intro v365 h366 h367
            refine wk_iorx r119_42 ?_
            intro v368 h369 h370
            refine wk_putfi81 r119_43 fd_739_42 (wk_nw g_739_42 rfl hP314 hF316 (uf_739_42 ⟨by omega, by omega⟩) ?_)
            intro M371 hP372 hF373 e374
            refine wk_goto r119_46 ?_
            exact wp_fg (le_s le_0) (ih375 (10 * (501 - v334) + (6 - v343)).toNat (by omega) M371 v331 v334 v337 v340 v343 v368 rfl hP372 hF373 (mUp_no e374 e332 (Or.inr (by decide))) (mUp_no e374 e335 (Or.inr (by decide))) (mUp_no e374 e338 (Or.inr (by decide))) (mUp_no e374 e341 (Or.inr (by decide))) (mUp_no e374 e344 (Or.inr (by decide))) (mUp_at e374) (mUp_no e374 ((hQ315.at g_739_30 rfl).trans e286) (Or.inr (by decide))) (by omega) (by omega) (by omega) (by omega) (by omega) (by omega) (by omega) (by omega) (by omega) (by omega) (by omega) (by omega) (TK_sm (Sm.up e374 g_739_42 rfl) pr326) (LRP_vac (mUp_no e374 e344 (Or.inr (by decide))) (by omega)) (by omega) (by omega) (by omega) (by omega) (by omega) (by omega))
    exact wp_fg (le_s le_0) (c13_375 _ M40 v19 v22 v25 v28 v31 v36 rfl hP41 hF42 (mUp_no e43 e20 (Or.inr (by decide))) (mUp_no e43 e23 (Or.inr (by decide))) (mUp_no e43 e26 (Or.inr (by decide))) (mUp_no e43 e29 (Or.inr (by decide))) (mUp_no e43 e32 (Or.inr (by decide))) (mUp_at e43) (mUp_no e43 ((hQ3.at g_739_30 rfl).trans ex739_30) (Or.inr (by decide))) (by omega) (by omega) (by omega) (by omega) (by omega) (by omega) (by omega) (by omega) (by omega) (by omega) (by omega) (by omega) (TK_sm (Sm.up e43 g_739_42 rfl) pr14) pr44 (by omega) (by omega) (by omega) (by omega) (by omega) (by omega))
  · refine wk_shlx r119_9 ?_
    intro v376 h377 h378
    refine wk_putfi81 r119_10 fd_739_42 (wk_nw g_739_42 rfl hP2 hF4 (uf_739_42 ⟨by omega, by omega⟩) ?_)
    intro M379 hP380 hF381 e382
    have c13_511 : ∀ (k511 : Nat) (M383 : Mm) (v386 : Int) (v390 : Int) (v394 : Int) (v398 : Int) (v402 : Int) (v406 : Int), (10 * (501 - v390) + (6 - v402)).toNat = k511 → Pw M383 → Fr fm_m9119_739 M0 M383 → M383 739 31 = v386 → M383 739 33 = v390 → M383 739 34 = v394 → M383 739 32 = v398 → M383 739 28 = v402 → M383 739 42 = v406 → M383 739 30 = x739_30 → 0 ≤ v386 → v386 ≤ 500 → 0 ≤ v390 → v390 ≤ 500 → 0 ≤ v394 → v394 ≤ 500 → 0 ≤ v398 → v398 ≤ 4 → 0 ≤ v402 → v402 ≤ 6 → (-2147483648) ≤ v406 → v406 ≤ 2147483647 → (TK M383) → (GE M383 s0 u0 0 0) → (GE M383 s0 u0 1 0) → (GE M383 s0 u0 0 1) → (GH M383 s0 u0) → (FP M383) → (SGP M383) → (LRP M383) → 0 ≤ 1 * x739_30 + (-1) * v386 → 0 ≤ 1 * v386 + (-1) * v390 + (-1) * v394 → 0 ≤ (-1) * v386 + 1 * v390 + 1 * v394 → 0 ≤ 4 * v394 + (-1) * v398 → 0 ≤ 1 * v390 + (-1) * x739_33 → 0 ≤ 1 * v402 + (-1) * x739_28 → Wp B (d + 3) 119 13 [some (R 739)] [] M383 Q := by
      refine lp_ind ?_
      intro k511 ih511 M383 v386 v390 v394 v398 v402 v406 hk511 hP384 hF385 e389 e393 e397 e401 e405 e409 e410 h387 h388 h391 h392 h395 h396 h399 h400 h403 h404 h407 h408 pr411 pr412 pr413 pr414 pr415 pr416 pr417 pr418 h419 h420 h421 h422 h423 h424
      refine wk_al0 r119_13 (wk_cv1 r119_14 kc_739_84 rfl (m9084_739 _ M383 v402 hP384 e405 (by omega) (by omega)) (cqI ?_))
      rintro v431 M425 ⟨hP426, hQ427, h432, h433, h429, h430⟩
      obtain rfl := Fr.same hQ427
      have e434 := e405
      refine wk_ifeq r119_17 ⟨by omega, by omega⟩ ?_ ?_
      · intro h435
        subst hQ; exact wk_ret r119_49 (⟨rfl, hP384, hF385, by have := e410; have := e389; omega, by have := e389; have := e393; have := e397; omega, by have := e389; have := e393; have := e397; omega, by have := e397; have := e401; omega, by have := e393; omega, by have := e405; omega, pr411, pr418⟩)
      · intro h436
        refine wk_al0 r119_20 (wk_getfi r119_21 fd_739_32 e401 (wk_c1 r119_24 ?_))
        refine wk_icne r119_25 ⟨by omega, by omega⟩ (by decide) ?_ ?_
        · intro h437
          subst hQ; exact wk_ret r119_49 (⟨rfl, hP384, hF385, by have := e410; have := e389; omega, by have := e389; have := e393; have := e397; omega, by have := e389; have := e393; have := e397; omega, by have := e397; have := e401; omega, by have := e393; omega, by have := e405; omega, pr411, pr418⟩)
        · intro h438
          refine wk_al0 r119_28 (wk_dupr r119_29 (wk_getfi r119_30 fd_739_42 e409 ?_))
          have h439 : 0 ≤ v406 ∧ v406 ≤ 127 := by have q := pr418 (by have := e405; omega); have := e409; omega
          refine wk_c1 r119_33 (wk_al0 r119_34 (wk_c1 r119_35 (wk_c2 r119_36 ?_)))
          obtain ⟨v440, e441⟩ : ∃ v, M383 739 35 = v := ⟨_, rfl⟩
          have h442 := bf_739_35 hP384; rw [e441] at h442
          refine wk_cv3 r119_38 kc_739_114 rfl (m9114_739 _ M383 0 6 x739_30 v386 v390 v394 v398 v402 v440 hP384 (by decide) (by decide) (by decide) (by decide) e410 (by omega) (by omega) e389 (by omega) (by omega) e393 (by omega) (by omega) e397 (by omega) (by omega) e401 (by omega) (by omega) e405 (by omega) (by omega) e441 (by omega) (by omega) (by omega) (by omega) (by omega) (by omega) pr411) (cqI ?_)
          rintro v457 M443 ⟨hP444, hQ445, h458, h459, h447, h448, h449, h450, h451, h452, h453, h454, h455, pr456⟩
          have hF446 : Fr fm_m9119_739 M0 M443 := hF385.tr hQ445 rfl
          have e460 := ((hQ445.at g_739_30 rfl).trans e410)
          obtain ⟨v461, e462⟩ : ∃ v, M443 739 31 = v := ⟨_, rfl⟩
          have h463 := bf_739_31 hP444; rw [e462] at h463
          obtain ⟨v464, e465⟩ : ∃ v, M443 739 33 = v := ⟨_, rfl⟩
          have h466 := bf_739_33 hP444; rw [e465] at h466
          obtain ⟨v467, e468⟩ : ∃ v, M443 739 34 = v := ⟨_, rfl⟩
          have h469 := bf_739_34 hP444; rw [e468] at h469
          obtain ⟨v470, e471⟩ : ∃ v, M443 739 32 = v := ⟨_, rfl⟩
          have h472 := bf_739_32 hP444; rw [e471] at h472
          obtain ⟨v473, e474⟩ : ∃ v, M443 739 28 = v := ⟨_, rfl⟩
          have h475 := bf_739_28 hP444; rw [e474] at h475
          have pr476 : GE M443 s0 u0 0 0 := GE_mn (Sm.fr hQ445 rfl) (fun q => by have := e405; have := e474; omega) pr412
          have pr477 : GE M443 s0 u0 1 0 := GE_mn (Sm.fr hQ445 rfl) (fun q => by have := e405; have := e474; omega) pr413
          have pr478 : GE M443 s0 u0 0 1 := GE_mn (Sm.fr hQ445 rfl) (fun q => by have := e405; have := e474; omega) pr414
          have pr479 : GH M443 s0 u0 := GH_mn (Sm.fr hQ445 rfl) (fun q => by have := e405; have := e474; omega) pr415
          have pr480 : FP M443 := FP_mn (Sm.fr hQ445 rfl) (fun q => by have := e405; have := e474; omega) pr416
          have pr481 : SGP M443 := SGP_mn (Sm.fr hQ445 rfl) (fun q => by have := e405; have := e474; omega) pr417
          have pr482 : LRP M443 := LRP_mn (Sm.fr hQ445 rfl) (fun q => by have := e405; have := e474; omega) pr418
          rcases (show v473 = 0 ∨ 1 ≤ v473 by omega) with h483 | h484
          · refine wk_shl1 6 64 r119_41 ⟨by omega, by omega⟩ ⟨pwl_6, by decide⟩ ?_
            intro v485 h486 h487 h488
            refine wk_ior 7 128 r119_42 (by decide) ⟨by omega, by omega⟩ ⟨by omega, by omega⟩ ?_
            intro v489 h490 h491 h492 h493 h494
            refine wk_putfi81 r119_43 fd_739_42 (wk_nw g_739_42 rfl hP444 hF446 (uf_739_42 ⟨by omega, by omega⟩) ?_)
            intro M495 hP496 hF497 e498
            have pr499 : LRP M495 := fun _ => by have := (mUp_at e498); omega
            refine wk_goto r119_46 ?_
            have pr500 : LRP M495 := fun _ => by have := (mUp_at e498); omega
            exact wp_fg (le_s le_0) (ih511 (10 * (501 - v464) + (6 - v473)).toNat (by omega) M495 v461 v464 v467 v470 v473 v489 rfl hP496 hF497 (mUp_no e498 e462 (Or.inr (by decide))) (mUp_no e498 e465 (Or.inr (by decide))) (mUp_no e498 e468 (Or.inr (by decide))) (mUp_no e498 e471 (Or.inr (by decide))) (mUp_no e498 e474 (Or.inr (by decide))) (mUp_at e498) (mUp_no e498 ((hQ445.at g_739_30 rfl).trans e410) (Or.inr (by decide))) (by omega) (by omega) (by omega) (by omega) (by omega) (by omega) (by omega) (by omega) (by omega) (by omega) (by omega) (by omega) (TK_sm (Sm.up e498 g_739_42 rfl) pr456) (GE_sm (Sm.up e498 g_739_42 rfl) pr476) (GE_sm (Sm.up e498 g_739_42 rfl) pr477) (GE_sm (Sm.up e498 g_739_42 rfl) pr478) (GH_sm (Sm.up e498 g_739_42 rfl) pr479) (FP_sm (Sm.up e498 g_739_42 rfl) pr480) (SGP_sm (Sm.up e498 g_739_42 rfl) pr481) pr500 (by omega) (by omega) (by omega) (by omega) (by omega) (by omega))
          · refine wk_shlx r119_41 ?_
            intro v501 h502 h503
            refine wk_iorx r119_42 ?_
            intro v504 h505 h506
            refine wk_putfi81 r119_43 fd_739_42 (wk_nw g_739_42 rfl hP444 hF446 (uf_739_42 ⟨by omega, by omega⟩) ?_)
            intro M507 hP508 hF509 e510
            refine wk_goto r119_46 ?_
            exact wp_fg (le_s le_0) (ih511 (10 * (501 - v464) + (6 - v473)).toNat (by omega) M507 v461 v464 v467 v470 v473 v504 rfl hP508 hF509 (mUp_no e510 e462 (Or.inr (by decide))) (mUp_no e510 e465 (Or.inr (by decide))) (mUp_no e510 e468 (Or.inr (by decide))) (mUp_no e510 e471 (Or.inr (by decide))) (mUp_no e510 e474 (Or.inr (by decide))) (mUp_at e510) (mUp_no e510 ((hQ445.at g_739_30 rfl).trans e410) (Or.inr (by decide))) (by omega) (by omega) (by omega) (by omega) (by omega) (by omega) (by omega) (by omega) (by omega) (by omega) (by omega) (by omega) (TK_sm (Sm.up e510 g_739_42 rfl) pr456) (GE_sm (Sm.up e510 g_739_42 rfl) pr476) (GE_sm (Sm.up e510 g_739_42 rfl) pr477) (GE_sm (Sm.up e510 g_739_42 rfl) pr478) (GH_sm (Sm.up e510 g_739_42 rfl) pr479) (FP_sm (Sm.up e510 g_739_42 rfl) pr480) (SGP_sm (Sm.up e510 g_739_42 rfl) pr481) (LRP_vac (mUp_no e510 e474 (Or.inr (by decide))) (by omega)) (by omega) (by omega) (by omega) (by omega) (by omega) (by omega))
    exact wp_fg (le_s le_0) (c13_511 _ M379 v19 v22 v25 v28 v31 v376 rfl hP380 hF381 (mUp_no e382 e20 (Or.inr (by decide))) (mUp_no e382 e23 (Or.inr (by decide))) (mUp_no e382 e26 (Or.inr (by decide))) (mUp_no e382 e29 (Or.inr (by decide))) (mUp_no e382 e32 (Or.inr (by decide))) (mUp_at e382) (mUp_no e382 ((hQ3.at g_739_30 rfl).trans ex739_30) (Or.inr (by decide))) (by omega) (by omega) (by omega) (by omega) (by omega) (by omega) (by omega) (by omega) (by omega) (by omega) (by omega) (by omega) (TK_sm (Sm.up e382 g_739_42 rfl) pr14) (GE_vac (mUp_no e382 e32 (Or.inr (by decide))) (by omega)) (GE_vac (mUp_no e382 e32 (Or.inr (by decide))) (by omega)) (GE_vac (mUp_no e382 e32 (Or.inr (by decide))) (by omega)) (GH_vac (mUp_no e382 e32 (Or.inr (by decide))) (by omega)) (FP_vac (mUp_no e382 e32 (Or.inr (by decide))) (by omega)) (SGP_vac (mUp_no e382 e32 (Or.inr (by decide))) (by omega)) (LRP_vac (mUp_no e382 e32 (Or.inr (by decide))) (by omega)) (by omega) (by omega) (by omega) (by omega) (by omega) (by omega))
def fm_m9120_739 : Nat := 226156424291636392369996259608942744360629063106118230789664548191039651840
/-- IslandHallModel.readsMay -/
theorem m9120_739 {B : eB} (d : Nat) (M0 : Mm) (x739_30 : Int) (x739_31 : Int) (x739_33 : Int) (x739_34 : Int) (x739_32 : Int) (x739_28 : Int) (x739_35 : Int) (x739_38 : Int) (x739_36 : Int) (hP0 : Pw M0) (ex739_30 : M0 739 30 = x739_30) (lx739_30 : 0 ≤ x739_30) (ux739_30 : x739_30 ≤ 500) (ex739_31 : M0 739 31 = x739_31) (lx739_31 : 0 ≤ x739_31) (ux739_31 : x739_31 ≤ 500) (ex739_33 : M0 739 33 = x739_33) (lx739_33 : 0 ≤ x739_33) (ux739_33 : x739_33 ≤ 500) (ex739_34 : M0 739 34 = x739_34) (lx739_34 : 0 ≤ x739_34) (ux739_34 : x739_34 ≤ 500) (ex739_32 : M0 739 32 = x739_32) (lx739_32 : 0 ≤ x739_32) (ux739_32 : x739_32 ≤ 4) (ex739_28 : M0 739 28 = x739_28) (lx739_28 : 0 ≤ x739_28) (ux739_28 : x739_28 ≤ 6) (ex739_35 : M0 739 35 = x739_35) (lx739_35 : 0 ≤ x739_35) (ux739_35 : x739_35 ≤ 999) (ex739_38 : M0 739 38 = x739_38) (lx739_38 : 0 ≤ x739_38) (ux739_38 : x739_38 ≤ 999) (ex739_36 : M0 739 36 = x739_36) (lx739_36 : 0 ≤ x739_36) (ux739_36 : x739_36 ≤ 255) (rp0 : 0 ≤ x739_30 + (-1) * x739_31) (rp1 : 0 ≤ x739_31 + (-1) * x739_33 + (-1) * x739_34) (rp2 : 0 ≤ (-1) * x739_31 + x739_33 + x739_34) (rp3 : 0 ≤ 4 * x739_34 + (-1) * x739_32) (rp4 : 0 ≤ (-1) * x739_38 + 7 + 3000 * x739_28) (pp_TK : TK M0) (pp_MR : MRP M0) : Ct B (d + 5) 120 [R 739] M0 (qV fun M => Pw M ∧ Fr fm_m9120_739 M0 M ∧ 0 ≤ M 739 30 + (-1) * (M 739 31) ∧ 0 ≤ M 739 31 + (-1) * (M 739 33) + (-1) * (M 739 34) ∧ 0 ≤ (-1) * (M 739 31) + M 739 33 + M 739 34 ∧ 0 ≤ 4 * (M 739 34) + (-1) * (M 739 32) ∧ 0 ≤ M 739 33 + (-1) * x739_33 ∧ 0 ≤ M 739 28 + (-1) * x739_28 ∧ (TK M) ∧ (MRP M)) := by
  refine ct_of (d := d + 4) (k := 6) (L := [some (R 739), none, none, none, none, none, none]) rfl rfl rfl ?_
  have hF0 := Fr.rf fm_m9120_739 M0
  generalize hQ : (qV fun M => Pw M ∧ Fr fm_m9120_739 M0 M ∧ 0 ≤ M 739 30 + (-1) * (M 739 31) ∧ 0 ≤ M 739 31 + (-1) * (M 739 33) + (-1) * (M 739 34) ∧ 0 ≤ (-1) * (M 739 31) + M 739 33 + M 739 34 ∧ 0 ≤ 4 * (M 739 34) + (-1) * (M 739 32) ∧ 0 ≤ M 739 33 + (-1) * x739_33 ∧ 0 ≤ M 739 28 + (-1) * x739_28 ∧ (TK M) ∧ (MRP M)) = Q
  refine wk_al0 r120_0 (wk_cv1 r120_1 kc_739_111 rfl (m9111_739 _ M0 x739_30 x739_31 x739_33 x739_34 x739_32 x739_28 x739_38 x739_36 hP0 ex739_30 (by omega) (by omega) ex739_31 (by omega) (by omega) ex739_33 (by omega) (by omega) ex739_34 (by omega) (by omega) ex739_32 (by omega) (by omega) ex739_28 (by omega) (by omega) ex739_38 (by omega) (by omega) ex739_36 (by omega) (by omega) (by omega) (by omega) (by omega) (by omega) (by omega) pp_TK) (cqI ?_))
  rintro v15 M1 ⟨hP2, hQ3, h16, h17, h5, h6, h7, h8, h9, h10, h11, h12, h13, pr14⟩
  have hF4 : Fr fm_m9120_739 M0 M1 := hF0.tr hQ3 rfl
  have e18 := ((hQ3.at g_739_30 rfl).trans ex739_30)
  obtain ⟨v19, e20⟩ : ∃ v, M1 739 31 = v := ⟨_, rfl⟩
  have h21 := bf_739_31 hP2; rw [e20] at h21
  obtain ⟨v22, e23⟩ : ∃ v, M1 739 33 = v := ⟨_, rfl⟩
  have h24 := bf_739_33 hP2; rw [e23] at h24
  obtain ⟨v25, e26⟩ : ∃ v, M1 739 34 = v := ⟨_, rfl⟩
  have h27 := bf_739_34 hP2; rw [e26] at h27
  obtain ⟨v28, e29⟩ : ∃ v, M1 739 32 = v := ⟨_, rfl⟩
  have h30 := bf_739_32 hP2; rw [e29] at h30
  obtain ⟨v31, e32⟩ : ∃ v, M1 739 28 = v := ⟨_, rfl⟩
  have h33 := bf_739_28 hP2; rw [e32] at h33
  refine wk_is1 r120_4 rfl (wk_c1 r120_5 (wk_is2 r120_6 rfl (wk_al0 r120_7 (wk_cv1 r120_8 kc_739_84 rfl (m9084_739 _ M1 v31 hP2 e32 (by omega) (by omega)) (cqI ?_)))))
  rintro v40 M34 ⟨hP35, hQ36, h41, h42, h38, h39⟩
  obtain rfl := Fr.same hQ36
  have e43 := e32
  refine wk_is3 r120_11 rfl ?_
  have c12_473 : ∀ (k473 : Nat) (M232 : Mm) (v226 : Int) (v229 : Int) (v235 : Int) (v239 : Int) (v243 : Int) (v247 : Int) (v251 : Int), (10 * (501 - v239) + v229).toNat = k473 → Pw M232 → Fr fm_m9120_739 M0 M232 → M232 739 31 = v235 → M232 739 33 = v239 → M232 739 34 = v243 → M232 739 32 = v247 → M232 739 28 = v251 → M232 739 30 = x739_30 → M232 739 38 = x739_38 → 0 ≤ v226 → v226 ≤ 31 → 0 ≤ v229 → v229 ≤ 1 → 0 ≤ v235 → v235 ≤ 500 → 0 ≤ v239 → v239 ≤ 500 → 0 ≤ v243 → v243 ≤ 500 → 0 ≤ v247 → v247 ≤ 4 → 0 ≤ v251 → v251 ≤ 6 → (TK M232) → (MRP M232) → 0 ≤ 1 * x739_30 + (-1) * v235 → 0 ≤ 1 * v235 + (-1) * v239 + (-1) * v243 → 0 ≤ (-1) * v235 + 1 * v239 + 1 * v243 → 0 ≤ 4 * v243 + (-1) * v247 → 0 ≤ 1 * v239 + (-1) * x739_33 → 0 ≤ 1 * v251 + (-1) * x739_28 → 0 ≤ (-1) * v15 + 3000 * v251 + 6 → 0 ≤ 1 * v15 + 3000 * v251 → 0 ≤ (-6) * v229 + (-1) * v251 + 6 → 0 ≤ 1 * v226 + (-1) + 3000 * v251 + 1 * v229 → Wp B (d + 4) 120 12 [some (R 739), some (I v15), some (I v226), some (I v229), none, none, none] [] M232 Q := by
    refine lp_ind ?_
    intro k473 ih473 M232 v226 v229 v235 v239 v243 v247 v251 hk473 hP233 hF234 e238 e242 e246 e250 e254 e255 e256 h227 h228 h230 h231 h236 h237 h240 h241 h244 h245 h248 h249 h252 h253 pr257 pr258 h259 h260 h261 h262 h263 h264 h265 h266 h267 h268
    refine wk_il3 r120_12 ?_
    refine wk_ifeq r120_13 ⟨by omega, by omega⟩ ?_ ?_
    · intro h269
      refine wk_al0 r120_107 (wk_cv1 r120_108 kc_739_84 rfl (m9084_739 _ M232 v251 hP233 e254 (by omega) (by omega)) (cqI ?_))
      rintro v276 M270 ⟨hP271, hQ272, h277, h278, h274, h275⟩
      obtain rfl := Fr.same hQ272
      have e279 := e254
      refine wk_ifeq r120_111 ⟨by omega, by omega⟩ ?_ ?_
      · intro h280
        subst hQ; exact wk_ret r120_121 (⟨rfl, hP233, hF234, by have := e255; have := e238; omega, by have := e238; have := e242; have := e246; omega, by have := e238; have := e242; have := e246; omega, by have := e246; have := e250; omega, by have := e242; omega, by have := e254; omega, pr257, pr258⟩)
      · intro h281
        refine wk_al0 r120_114 (wk_getfr r120_115 fd_739_48 (br_739_48 hP233) (wk_il1 r120_118 (wk_il2 r120_119 (wk_iast r120_120 ar_756 ⟨by omega, by omega⟩ (wk_nw (ga_756 _) rfl hP233 hF234 (ua_756 ⟨by omega, by omega⟩) ?_)))))
        intro M282 hP283 hF284 e285
        have pr286 : MRP M282 := MRP_up pr258 (by omega) e285
        subst hQ; exact wk_ret r120_121 (⟨rfl, hP283, hF284, by have := (mUp_no e285 e255 (Or.inl (by decide))); have := (mUp_no e285 e238 (Or.inl (by decide))); omega, by have := (mUp_no e285 e238 (Or.inl (by decide))); have := (mUp_no e285 e242 (Or.inl (by decide))); have := (mUp_no e285 e246 (Or.inl (by decide))); omega, by have := (mUp_no e285 e238 (Or.inl (by decide))); have := (mUp_no e285 e242 (Or.inl (by decide))); have := (mUp_no e285 e246 (Or.inl (by decide))); omega, by have := (mUp_no e285 e246 (Or.inl (by decide))); have := (mUp_no e285 e250 (Or.inl (by decide))); omega, by have := (mUp_no e285 e242 (Or.inl (by decide))); omega, by have := (mUp_no e285 e254 (Or.inl (by decide))); omega, (TK_sm (Sm.up e285 (ga_756 _) rfl) pr257), pr286⟩)
    · intro h287
      refine wk_al0 r120_16 (wk_getfi r120_17 fd_739_33 e242 (wk_is4 r120_20 rfl (wk_al0 r120_22 (wk_cv1 r120_23 kc_739_93 rfl (m9093_739 _ M232 x739_30 v235 v239 v243 v247 v251 hP233 e255 (by omega) (by omega) e238 (by omega) (by omega) e242 (by omega) (by omega) e246 (by omega) (by omega) e250 (by omega) (by omega) e254 (by omega) (by omega) (by omega) (by omega) (by omega) (by omega) pr257) (cqI ?_)))))
      rintro v302 M288 ⟨hP289, hQ290, h303, h304, h292, h293, h294, h295, h296, h297, h298, h299, h300, pr301⟩
      have hF291 : Fr fm_m9120_739 M0 M288 := hF234.tr hQ290 rfl
      have e305 := ((hQ290.at g_739_30 rfl).trans e255)
      obtain ⟨v306, e307⟩ : ∃ v, M288 739 31 = v := ⟨_, rfl⟩
      have h308 := bf_739_31 hP289; rw [e307] at h308
      obtain ⟨v309, e310⟩ : ∃ v, M288 739 33 = v := ⟨_, rfl⟩
      have h311 := bf_739_33 hP289; rw [e310] at h311
      obtain ⟨v312, e313⟩ : ∃ v, M288 739 34 = v := ⟨_, rfl⟩
      have h314 := bf_739_34 hP289; rw [e313] at h314
      obtain ⟨v315, e316⟩ : ∃ v, M288 739 32 = v := ⟨_, rfl⟩
      have h317 := bf_739_32 hP289; rw [e316] at h317
      obtain ⟨v318, e319⟩ : ∃ v, M288 739 28 = v := ⟨_, rfl⟩
      have h320 := bf_739_28 hP289; rw [e319] at h320
      refine wk_is5 r120_26 rfl (wk_al0 r120_28 (wk_cv1 r120_29 kc_739_84 rfl (m9084_739 _ M288 v318 hP289 e319 (by omega) (by omega)) (cqI ?_)))
      rintro v327 M321 ⟨hP322, hQ323, h328, h329, h325, h326⟩
      obtain rfl := Fr.same hQ323
      have e330 := e319
      refine wk_ifeq r120_32 ⟨by omega, by omega⟩ ?_ ?_
      · intro h331
        refine wk_il2 r120_56 (wk_al0 r120_57 (wk_cv1 r120_58 kc_739_84 rfl (m9084_739 _ M288 v318 hP289 e319 (by omega) (by omega)) (cqI ?_)))
        rintro v338 M332 ⟨hP333, hQ334, h339, h340, h336, h337⟩
        obtain rfl := Fr.same hQ334
        have e341 := e319
        refine wk_ifeq r120_61 ⟨by omega, by omega⟩ ?_ ?_
        · intro h342
          refine wk_c1 r120_71 (wk_ior 5 32 r120_72 (by decide) ⟨by omega, by omega⟩ ⟨by omega, by omega⟩ ?_)
          intro v343 h344 h345 h346 h347 h348
          refine wk_is2 r120_73 rfl (wk_al0 r120_74 (wk_cv1 r120_75 kc_739_97 rfl (m9097_739 _ M288 v315 v312 hP289 e316 (by omega) (by omega) e313 (by omega) (by omega) pr301) (cqI ?_)))
          rintro v354 M349 ⟨hP350, hQ351, h355, h356, h353⟩
          obtain rfl := Fr.same hQ351
          have e357 := e313
          refine wk_is6 r120_78 rfl (wk_al0 r120_80 (wk_cv1 r120_81 kc_739_84 rfl (m9084_739 _ M288 v318 hP289 e319 (by omega) (by omega)) (cqI ?_)))
          rintro v364 M358 ⟨hP359, hQ360, h365, h366, h362, h363⟩
          obtain rfl := Fr.same hQ360
          have e367 := e319
          refine wk_ifeq r120_84 ⟨by omega, by omega⟩ ?_ ?_
          · intro h368
            refine wk_c1 r120_102 (wk_is3 r120_103 rfl (wk_goto r120_104 ?_))
            exact wp_fg (le_s (le_s (le_s (le_s (le_n (le_n (le_n le_0))))))) (ih473 (10 * (501 - v309) + 0).toNat (by omega) M288 v343 0 v306 v309 v312 v315 v318 rfl hP289 hF291 e307 e310 e313 e316 e319 ((hQ290.at g_739_30 rfl).trans e255) ((hQ290.at g_739_38 rfl).trans e256) (by omega) (by omega) (by omega) (by omega) (by omega) (by omega) (by omega) (by omega) (by omega) (by omega) (by omega) (by omega) (by omega) (by omega) pr301 (MRP_sm (Sm.fr hQ290 rfl) pr258) (by omega) (by omega) (by omega) (by omega) (by omega) (by omega) (by omega) (by omega) (by omega) (by omega))
          · intro h369
            exfalso
            omega
        · intro h370
          exfalso
          omega
      · intro h371
        refine wk_il2 r120_35 (wk_il5 r120_36 (wk_shrb r120_38 ⟨by omega, by omega⟩ ⟨by omega, by omega⟩ ?_))
        intro v372 h373 h374 h375
        refine wk_c1 r120_39 (wk_iandc 1 2 r120_40 ⟨rfl, by decide⟩ rfl (wk_c1 r120_41 ?_))
        refine wk_icne r120_42 ⟨by omega, by omega⟩ (by decide) ?_ ?_
        · intro h377
          refine wk_il2 r120_56 (wk_al0 r120_57 (wk_cv1 r120_58 kc_739_84 rfl (m9084_739 _ M288 v318 hP289 e319 (by omega) (by omega)) (cqI ?_)))
          rintro v384 M378 ⟨hP379, hQ380, h385, h386, h382, h383⟩
          obtain rfl := Fr.same hQ380
          have e387 := e319
          refine wk_ifeq r120_61 ⟨by omega, by omega⟩ ?_ ?_
          · intro h388
            exfalso
            omega
          · intro h389
            refine wk_c1 r120_64 (wk_il5 r120_65 (wk_shl1 4 16 r120_67 ⟨by omega, by omega⟩ ⟨pwl_4, by decide⟩ ?_))
            intro v390 h391 h392 h393
            refine wk_goto r120_68 (wk_ior 5 32 r120_72 (by decide) ⟨by omega, by omega⟩ ⟨by omega, by omega⟩ ?_)
            intro v394 h395 h396 h397 h398 h399
            refine wk_is2 r120_73 rfl (wk_al0 r120_74 (wk_cv1 r120_75 kc_739_97 rfl (m9097_739 _ M288 v315 v312 hP289 e316 (by omega) (by omega) e313 (by omega) (by omega) pr301) (cqI ?_)))
            rintro v405 M400 ⟨hP401, hQ402, h406, h407, h404⟩
            obtain rfl := Fr.same hQ402
            have e408 := e313
            refine wk_is6 r120_78 rfl (wk_al0 r120_80 (wk_cv1 r120_81 kc_739_84 rfl (m9084_739 _ M288 v318 hP289 e319 (by omega) (by omega)) (cqI ?_)))
            rintro v415 M409 ⟨hP410, hQ411, h416, h417, h413, h414⟩
            obtain rfl := Fr.same hQ411
            have e418 := e319
            refine wk_ifeq r120_84 ⟨by omega, by omega⟩ ?_ ?_
            · intro h419
              exfalso
              omega
            · intro h420
              refine wk_il6 r120_87 ?_
              refine wk_iflt r120_89 ⟨by omega, by omega⟩ ?_ ?_
              · intro h421
                refine wk_c1 r120_102 (wk_is3 r120_103 rfl (wk_goto r120_104 ?_))
                exact wp_fg (le_s (le_s (le_s (le_s (le_n (le_n (le_n le_0))))))) (ih473 (10 * (501 - v309) + 0).toNat (by omega) M288 v394 0 v306 v309 v312 v315 v318 rfl hP289 hF291 e307 e310 e313 e316 e319 ((hQ290.at g_739_30 rfl).trans e255) ((hQ290.at g_739_38 rfl).trans e256) (by omega) (by omega) (by omega) (by omega) (by omega) (by omega) (by omega) (by omega) (by omega) (by omega) (by omega) (by omega) (by omega) (by omega) pr301 (MRP_sm (Sm.fr hQ290 rfl) pr258) (by omega) (by omega) (by omega) (by omega) (by omega) (by omega) (by omega) (by omega) (by omega) (by omega))
              · intro h422
                refine wk_il6 r120_92 (wk_c1 r120_94 ?_)
                refine wk_icgt r120_95 ⟨by omega, by omega⟩ (by decide) ?_ ?_
                · intro h423
                  refine wk_c1 r120_102 (wk_is3 r120_103 rfl (wk_goto r120_104 ?_))
                  exact wp_fg (le_s (le_s (le_s (le_s (le_n (le_n (le_n le_0))))))) (ih473 (10 * (501 - v309) + 0).toNat (by omega) M288 v394 0 v306 v309 v312 v315 v318 rfl hP289 hF291 e307 e310 e313 e316 e319 ((hQ290.at g_739_30 rfl).trans e255) ((hQ290.at g_739_38 rfl).trans e256) (by omega) (by omega) (by omega) (by omega) (by omega) (by omega) (by omega) (by omega) (by omega) (by omega) (by omega) (by omega) (by omega) (by omega) pr301 (MRP_sm (Sm.fr hQ290 rfl) pr258) (by omega) (by omega) (by omega) (by omega) (by omega) (by omega) (by omega) (by omega) (by omega) (by omega))
                · intro h424
                  refine wk_c1 r120_98 (wk_goto r120_99 (wk_is3 r120_103 rfl (wk_goto r120_104 ?_)))
                  exact wp_fg (le_s (le_s (le_s (le_s (le_n (le_n (le_n le_0))))))) (ih473 (10 * (501 - v309) + 1).toNat (by omega) M288 v394 1 v306 v309 v312 v315 v318 rfl hP289 hF291 e307 e310 e313 e316 e319 ((hQ290.at g_739_30 rfl).trans e255) ((hQ290.at g_739_38 rfl).trans e256) (by omega) (by omega) (by omega) (by omega) (by omega) (by omega) (by omega) (by omega) (by omega) (by omega) (by omega) (by omega) (by omega) (by omega) pr301 (MRP_sm (Sm.fr hQ290 rfl) pr258) (by omega) (by omega) (by omega) (by omega) (by omega) (by omega) (by omega) (by omega) (by omega) (by omega))
        · intro h425
          refine wk_al0 r120_45 (wk_c1 r120_46 (wk_putfi81 r120_47 fd_739_28 (wk_nw g_739_28 rfl hP289 hF291 (uf_739_28 (by decide)) ?_)))
          intro M426 hP427 hF428 e429
          refine wk_al0 r120_50 (wk_il4 r120_51 (wk_putfi81 r120_53 fd_739_29 (wk_nw g_739_29 rfl hP427 hF428 (uf_739_29 ⟨by omega, by omega⟩) ?_)))
          intro M430 hP431 hF432 e433
          refine wk_il2 r120_56 (wk_al0 r120_57 (wk_cv1 r120_58 kc_739_84 rfl (m9084_739 _ M430 5 hP431 (mUp_no e433 (mUp_at e429) (Or.inr (by decide))) (by omega) (by omega)) (cqI ?_)))
          rintro v440 M434 ⟨hP435, hQ436, h441, h442, h438, h439⟩
          obtain rfl := Fr.same hQ436
          have e443 := (mUp_no e433 (mUp_at e429) (Or.inr (by decide)))
          refine wk_ifeq r120_61 ⟨by omega, by omega⟩ ?_ ?_
          · intro h444
            refine wk_c1 r120_71 (wk_ior 5 32 r120_72 (by decide) ⟨by omega, by omega⟩ ⟨by omega, by omega⟩ ?_)
            intro v445 h446 h447 h448 h449 h450
            refine wk_is2 r120_73 rfl (wk_al0 r120_74 (wk_cv1 r120_75 kc_739_97 rfl (m9097_739 _ M430 v315 v312 hP431 (mUp_no e433 (mUp_no e429 e316 (Or.inr (by decide))) (Or.inr (by decide))) (by omega) (by omega) (mUp_no e433 (mUp_no e429 e313 (Or.inr (by decide))) (Or.inr (by decide))) (by omega) (by omega) (TK_sm (Sm.up e433 g_739_29 rfl) (TK_sm (Sm.up e429 g_739_28 rfl) pr301))) (cqI ?_)))
            rintro v456 M451 ⟨hP452, hQ453, h457, h458, h455⟩
            obtain rfl := Fr.same hQ453
            have e459 := (mUp_no e433 (mUp_no e429 e313 (Or.inr (by decide))) (Or.inr (by decide)))
            refine wk_is6 r120_78 rfl (wk_al0 r120_80 (wk_cv1 r120_81 kc_739_84 rfl (m9084_739 _ M430 5 hP431 (mUp_no e433 (mUp_at e429) (Or.inr (by decide))) (by omega) (by omega)) (cqI ?_)))
            rintro v466 M460 ⟨hP461, hQ462, h467, h468, h464, h465⟩
            obtain rfl := Fr.same hQ462
            have e469 := (mUp_no e433 (mUp_at e429) (Or.inr (by decide)))
            refine wk_ifeq r120_84 ⟨by omega, by omega⟩ ?_ ?_
            · intro h470
              refine wk_c1 r120_102 (wk_is3 r120_103 rfl (wk_goto r120_104 ?_))
              exact wp_fg (le_s (le_s (le_s (le_s (le_n (le_n (le_n le_0))))))) (ih473 (10 * (501 - v309) + 0).toNat (by omega) M430 v445 0 v306 v309 v312 v315 5 rfl hP431 hF432 (mUp_no e433 (mUp_no e429 e307 (Or.inr (by decide))) (Or.inr (by decide))) (mUp_no e433 (mUp_no e429 e310 (Or.inr (by decide))) (Or.inr (by decide))) (mUp_no e433 (mUp_no e429 e313 (Or.inr (by decide))) (Or.inr (by decide))) (mUp_no e433 (mUp_no e429 e316 (Or.inr (by decide))) (Or.inr (by decide))) (mUp_no e433 (mUp_at e429) (Or.inr (by decide))) (mUp_no e433 (mUp_no e429 ((hQ290.at g_739_30 rfl).trans e255) (Or.inr (by decide))) (Or.inr (by decide))) (mUp_no e433 (mUp_no e429 ((hQ290.at g_739_38 rfl).trans e256) (Or.inr (by decide))) (Or.inr (by decide))) (by omega) (by omega) (by omega) (by omega) (by omega) (by omega) (by omega) (by omega) (by omega) (by omega) (by omega) (by omega) (by omega) (by omega) (TK_sm (Sm.up e433 g_739_29 rfl) (TK_sm (Sm.up e429 g_739_28 rfl) pr301)) (MRP_sm (Sm.up e433 g_739_29 rfl) (MRP_sm (Sm.up e429 g_739_28 rfl) (MRP_sm (Sm.fr hQ290 rfl) pr258))) (by omega) (by omega) (by omega) (by omega) (by omega) (by omega) (by omega) (by omega) (by omega) (by omega))
            · intro h471
              exfalso
              omega
          · intro h472
            exfalso
            omega
  exact wp_fg (le_s (le_s (le_s (le_s (le_s (le_s (le_s le_0))))))) (c12_473 _ M1 0 v40 v19 v22 v25 v28 v31 rfl hP2 hF4 e20 e23 e26 e29 e32 ((hQ3.at g_739_30 rfl).trans ex739_30) ((hQ3.at g_739_38 rfl).trans ex739_38) (by omega) (by omega) (by omega) (by omega) (by omega) (by omega) (by omega) (by omega) (by omega) (by omega) (by omega) (by omega) (by omega) (by omega) pr14 (MRP_sm (Sm.fr hQ3 rfl) pp_MR) (by omega) (by omega) (by omega) (by omega) (by omega) (by omega) (by omega) (by omega) (by omega) (by omega))
