/-! ===== written by program (wip/layer2/all.py): contracts of methods ===== -/
def fm_m33_0 : Nat := 524292
/-- IslandHall.putNumber -/
theorem m33_0 {B : eB} (d : Nat) (M0 : Mm) (p1 : Int) (x0_1 : Int) (hP0 : Pw M0) (l1 : (-2147483648) ≤ p1) (u1 : p1 ≤ 2147483647) (ex0_1 : M0 0 1 = x0_1) (lx0_1 : 0 ≤ x0_1) (ux0_1 : x0_1 ≤ 496) : Ct B (d + 1) 33 [R 0, I p1] M0 (qV fun M => Pw M ∧ Fr fm_m33_0 M0 M ∧ 0 ≤ M 0 1 + (-1) * x0_1 + (-4) ∧ 0 ≤ (-1) * (M 0 1) + x0_1 + 4) := by
  refine ct_of (d := d + 0) (k := 1) (L := [some (R 0), some (I p1), none]) rfl rfl rfl ?_
  have hF0 := Fr.rf fm_m33_0 M0
  generalize hQ : (qV fun M => Pw M ∧ Fr fm_m33_0 M0 M ∧ 0 ≤ M 0 1 + (-1) * x0_1 + (-4) ∧ 0 ≤ (-1) * (M 0 1) + x0_1 + 4) = Q
  refine wk_c2 r33_0 (wk_is2 r33_2 rfl ?_)
  have c3_172 : ∀ (k172 : Nat) (M146 : Mm) (v143 : Int) (v149 : Int), (v143 - (-8)).toNat = k172 → Pw M146 → Fr fm_m33_0 M0 M146 → M146 0 1 = v149 → (-8) ≤ v143 → v143 ≤ 24 → 0 ≤ v149 → v149 ≤ 500 → 0 ≤ 8 * v149 + v143 + (-8) * x0_1 + (-24) → 0 ≤ (-8) * v149 + (-1) * v143 + 8 * x0_1 + 24 → 0 ≤ (-1) * v143 + v149 + 24 → Wp B (d + 0) 33 3 [some (R 0), some (I p1), some (I v143)] [] M146 Q := by
    refine lp_ind ?_
    intro k172 ih172 M146 v143 v149 hk172 hP147 hF148 e152 h144 h145 h150 h151 h153 h154 h155
    refine wk_il2 r33_3 ?_
    refine wk_iflt r33_4 ⟨by omega, by omega⟩ ?_ ?_
    · intro h156
      subst hQ; exact wk_ret r33_48 (⟨rfl, hP147, hF148, by have := e152; omega, by have := e152; omega⟩)
    · intro h157
      refine wk_al0 r33_7 (wk_getfi r33_8 fd_0_1 e152 (wk_al0 r33_11 (wk_getfr r33_12 fd_0_0 (br_0_0 hP147) (wk_alen r33_15 ar_1 (by decide) ?_))))
      refine wk_icge r33_16 ⟨by omega, by omega⟩ (by decide) ?_ ?_
      · intro h158
        exfalso
        omega
      · intro h159
        refine wk_al0 r33_19 (wk_getfr r33_20 fd_0_0 (br_0_0 hP147) (wk_al0 r33_23 (wk_getfi r33_24 fd_0_1 e152 (wk_il1 r33_27 (wk_il2 r33_28 (wk_shrx r33_29 ⟨by omega, by omega⟩ ⟨by omega, by omega⟩ ?_))))))
        intro v160 h161 h162
        refine wk_i2b r33_30 (wk_bast r33_31 ar_1 ⟨by omega, by omega⟩ ⟨by omega, by omega⟩ (wk_nw (ga_1 _) rfl hP147 hF148 (ua_1 ⟨by omega, by omega⟩) ?_))
        intro M164 hP165 hF166 e167
        refine wk_al0 r33_32 (wk_dupr r33_33 (wk_getfi r33_34 fd_0_1 (mUp_no e167 e152 (Or.inl (by decide))) (wk_c1 r33_37 (wk_iadd r33_38 (wk_putfi81 r33_39 fd_0_1 (wk_nw g_0_1 rfl hP165 hF166 (uf_0_1 ⟨by omega, by omega⟩) ?_))))))
        intro M168 hP169 hF170 e171
        refine wk_inc2 r33_42 rfl (wk_goto r33_45 ?_)
        exact wp_fg (le_s (le_s (le_s le_0))) (ih172 ((v143 + (-8)) - (-8)).toNat (by omega) M168 (v143 + (-8)) (v149 + 1) rfl hP169 hF170 (mUp_at e171) (by omega) (by omega) (by omega) (by omega) (by omega) (by omega) (by omega))
  exact wp_fg (le_s (le_s (le_s le_0))) (c3_172 _ M0 24 x0_1 rfl hP0 hF0 ex0_1 (by omega) (by omega) (by omega) (by omega) (by omega) (by omega) (by omega))
def fm_m18_0 : Nat := 524292
/-- IslandHall.feed -/
theorem m18_0 {B : eB} (d : Nat) (M0 : Mm) (p1 : Int) (p2 : Int) (p3 : Int) (p4 : Int) (p5 : Int) (x0_1 : Int) (hP0 : Pw M0) (l1 : (-2147483648) ≤ p1) (u1 : p1 ≤ 2147483647) (l2 : (-2147483648) ≤ p2) (u2 : p2 ≤ 2147483647) (l3 : (-2147483648) ≤ p3) (u3 : p3 ≤ 2147483647) (l4 : (-2147483648) ≤ p4) (u4 : p4 ≤ 2147483647) (l5 : (-2147483648) ≤ p5) (u5 : p5 ≤ 2147483647) (ex0_1 : M0 0 1 = x0_1) (lx0_1 : 0 ≤ x0_1) (ux0_1 : x0_1 ≤ 500) : Ct B (d + 2) 18 [R 0, I p1, I p2, I p3, I p4, I p5] M0 (qI fun z M => Pw M ∧ Fr fm_m18_0 M0 M ∧ (-1) ≤ z ∧ z ≤ 500 ∧ ((x0_1 ≤ 480 ∧ z = x0_1 + 20 ∧ M 0 1 = z) ∨ (481 ≤ x0_1 ∧ z = -1 ∧ M 0 1 = x0_1))) := by
  refine ct_of (d := d + 1) (k := 0) (L := [some (R 0), some (I p1), some (I p2), some (I p3), some (I p4), some (I p5)]) rfl rfl rfl ?_
  have hF0 := Fr.rf fm_m18_0 M0
  generalize hQ : (qI fun z M => Pw M ∧ Fr fm_m18_0 M0 M ∧ (-1) ≤ z ∧ z ≤ 500 ∧ ((x0_1 ≤ 480 ∧ z = x0_1 + 20 ∧ M 0 1 = z) ∨ (481 ≤ x0_1 ∧ z = -1 ∧ M 0 1 = x0_1))) = Q
  refine wk_al0 r18_0 (wk_getfi r18_1 fd_0_1 ex0_1 (wk_c2 r18_4 (wk_iadd r18_6 (wk_c3 r18_7 ?_))))
  refine wk_icle r18_10 ⟨by omega, by omega⟩ (by decide) ?_ ?_
  · intro h1
    refine wk_al0 r18_15 (wk_il1 r18_16 (wk_cv2 r18_17 kc_0_33 rfl (m33_0 _ M0 p1 x0_1 hP0 (by omega) (by omega) ex0_1 (by omega) (by omega)) (cqV ?_)))
    rintro M2 ⟨hP3, hQ4, h6, h7⟩
    have hF5 : Fr fm_m18_0 M0 M2 := hF0.tr hQ4 rfl
    obtain ⟨v8, e9⟩ : ∃ v, M2 0 1 = v := ⟨_, rfl⟩
    have h10 := bf_0_1 hP3; rw [e9] at h10
    refine wk_al0 r18_20 (wk_il2 r18_21 (wk_cv2 r18_22 kc_0_33 rfl (m33_0 _ M2 p2 v8 hP3 (by omega) (by omega) e9 (by omega) (by omega)) (cqV ?_)))
    rintro M11 ⟨hP12, hQ13, h15, h16⟩
    have hF14 : Fr fm_m18_0 M0 M11 := hF5.tr hQ13 rfl
    obtain ⟨v17, e18⟩ : ∃ v, M11 0 1 = v := ⟨_, rfl⟩
    have h19 := bf_0_1 hP12; rw [e18] at h19
    refine wk_al0 r18_25 (wk_il3 r18_26 (wk_cv2 r18_27 kc_0_33 rfl (m33_0 _ M11 p3 v17 hP12 (by omega) (by omega) e18 (by omega) (by omega)) (cqV ?_)))
    rintro M20 ⟨hP21, hQ22, h24, h25⟩
    have hF23 : Fr fm_m18_0 M0 M20 := hF14.tr hQ22 rfl
    obtain ⟨v26, e27⟩ : ∃ v, M20 0 1 = v := ⟨_, rfl⟩
    have h28 := bf_0_1 hP21; rw [e27] at h28
    refine wk_al0 r18_30 (wk_il4 r18_31 (wk_cv2 r18_33 kc_0_33 rfl (m33_0 _ M20 p4 v26 hP21 (by omega) (by omega) e27 (by omega) (by omega)) (cqV ?_)))
    rintro M29 ⟨hP30, hQ31, h33, h34⟩
    have hF32 : Fr fm_m18_0 M0 M29 := hF23.tr hQ31 rfl
    obtain ⟨v35, e36⟩ : ∃ v, M29 0 1 = v := ⟨_, rfl⟩
    have h37 := bf_0_1 hP30; rw [e36] at h37
    refine wk_al0 r18_36 (wk_il5 r18_37 (wk_cv2 r18_39 kc_0_33 rfl (m33_0 _ M29 p5 v35 hP30 (by omega) (by omega) e36 (by omega) (by omega)) (cqV ?_)))
    rintro M38 ⟨hP39, hQ40, h42, h43⟩
    have hF41 : Fr fm_m18_0 M0 M38 := hF32.tr hQ40 rfl
    obtain ⟨v44, e45⟩ : ∃ v, M38 0 1 = v := ⟨_, rfl⟩
    have h46 := bf_0_1 hP39; rw [e45] at h46
    refine wk_al0 r18_42 (wk_getfi r18_43 fd_0_1 e45 ?_)
    subst hQ; exact wk_iret r18_46 (⟨rfl, _, rfl, hP39, hF41, by omega, by omega, by have := e45; omega⟩)
  · intro h47
    refine wk_c1 r18_13 ?_
    subst hQ; exact wk_iret r18_14 (⟨rfl, _, rfl, hP0, hF0, by omega, by omega, by have := ex0_1; omega⟩)
def fm_m17_0 : Nat := 0
/-- IslandHall.fault -/
theorem m17_0 {B : eB} (d : Nat) (M0 : Mm) (hP0 : Pw M0)  : Ct B (d + 1) 17 [R 0] M0 (qI fun z M => Pw M ∧ Fr fm_m17_0 M0 M ∧ (-1) ≤ z ∧ z ≤ 500) := by
  refine ct_of (d := d + 0) (k := 0) (L := [some (R 0)]) rfl rfl rfl ?_
  have hF0 := Fr.rf fm_m17_0 M0
  generalize hQ : (qI fun z M => Pw M ∧ Fr fm_m17_0 M0 M ∧ (-1) ≤ z ∧ z ≤ 500) = Q
  refine wk_al0 r17_0 (wk_getfb r17_1 fd_0_5 (bf_0_5 hP0) ?_)
  intro v1 h3 h4 e2
  subst hQ; exact wk_iret r17_4 (⟨rfl, _, rfl, hP0, hF0, by omega, by omega⟩)
def fm_m15_0 : Nat := 0
/-- IslandHall.count -/
theorem m15_0 {B : eB} (d : Nat) (M0 : Mm) (p1 : Int) (hP0 : Pw M0) (l1 : (-2147483648) ≤ p1) (u1 : p1 ≤ 2147483647) : Ct B (d + 1) 15 [R 0, I p1] M0 (qX 0 (fun M => Pw M ∧ Fr (fm_m15_0 ||| 1) M0 M ∧ M (-1) 0 = M0 (-1) 0 + 1) (qI fun z M => Pw M ∧ Fr fm_m15_0 M0 M ∧ (-1) ≤ z ∧ z ≤ 500)) := by
  refine ct_of (d := d + 0) (k := 0) (L := [some (R 0), some (I p1)]) rfl rfl rfl ?_
  have hF0 := Fr.rf fm_m15_0 M0
  generalize hQ : (qX 0 (fun M => Pw M ∧ Fr (fm_m15_0 ||| 1) M0 M ∧ M (-1) 0 = M0 (-1) 0 + 1) (qI fun z M => Pw M ∧ Fr fm_m15_0 M0 M ∧ (-1) ≤ z ∧ z ≤ 500)) = Q
  refine wk_il1 r15_0 ?_
  refine wk_sw2 r15_1 ⟨by omega, by omega⟩ ?_ ?_ ?_ ?_ ?_ ?_ ?_ ?_ ?_
  · intro h1
    subst hQ; exact wk_thr105 r15_109 rfl (Or.inl ⟨rfl, hP0.thr, (Fr.thr hF0), (by rw [mUp_eq, hF0.at g_below rfl])⟩)
  · intro h2
    refine wk_al0 r15_48 (wk_getfr r15_49 fd_0_2 (br_0_2 hP0) (wk_getfb r15_52 fd_2_1 (bf_2_1 hP0) ?_))
    intro v3 h5 h6 e4
    subst hQ; exact wk_iret r15_55 (Or.inr ⟨rfl, _, rfl, hP0, hF0, by omega, by omega⟩)
  · intro h7
    refine wk_al0 r15_56 (wk_getfr r15_57 fd_0_2 (br_0_2 hP0) (wk_getfb r15_60 fd_2_2 (bf_2_2 hP0) ?_))
    intro v8 h10 h11 e9
    subst hQ; exact wk_iret r15_63 (Or.inr ⟨rfl, _, rfl, hP0, hF0, by omega, by omega⟩)
  · intro h12
    refine wk_al0 r15_64 (wk_getfb r15_65 fd_0_9 (bf_0_9 hP0) ?_)
    intro v13 h15 h16 e14
    subst hQ; exact wk_iret r15_68 (Or.inr ⟨rfl, _, rfl, hP0, hF0, by omega, by omega⟩)
  · intro h17
    refine wk_al0 r15_69 (wk_getfr r15_70 fd_0_7 (br_0_7 hP0) (wk_getfb r15_73 fd_138_5 (bf_138_5 hP0) ?_))
    intro v18 h20 h21 e19
    subst hQ; exact wk_iret r15_76 (Or.inr ⟨rfl, _, rfl, hP0, hF0, by omega, by omega⟩)
  · intro h22
    refine wk_al0 r15_77 (wk_getfb r15_78 fd_0_11 (bf_0_11 hP0) ?_)
    intro v23 h25 h26 e24
    subst hQ; exact wk_iret r15_81 (Or.inr ⟨rfl, _, rfl, hP0, hF0, by omega, by omega⟩)
  · intro h27
    refine wk_al0 r15_82 (wk_getfb r15_83 fd_0_1 (bf_0_1 hP0) ?_)
    intro v28 h30 h31 e29
    subst hQ; exact wk_iret r15_86 (Or.inr ⟨rfl, _, rfl, hP0, hF0, by omega, by omega⟩)
  · intro h32
    refine wk_al0 r15_87 (wk_getfr r15_88 fd_0_2 (br_0_2 hP0) (wk_getfb r15_91 fd_2_4 (bf_2_4 hP0) ?_))
    intro v33 h35 h36 e34
    subst hQ; exact wk_iret r15_94 (Or.inr ⟨rfl, _, rfl, hP0, hF0, by omega, by omega⟩)
  · intro h37
    refine wk_al0 r15_95 (wk_getfb r15_96 fd_0_13 (bf_0_13 hP0) ?_)
    intro v38 h40 h41 e39
    refine wk_c1 r15_99 ?_
    refine wk_icne r15_100 ⟨by omega, by omega⟩ (by decide) ?_ ?_
    · intro h42
      refine wk_c1 r15_107 ?_
      subst hQ; exact wk_iret r15_108 (Or.inr ⟨rfl, _, rfl, hP0, hF0, by omega, by omega⟩)
    · intro h43
      refine wk_c1 r15_103 (wk_goto r15_104 ?_)
      subst hQ; exact wk_iret r15_108 (Or.inr ⟨rfl, _, rfl, hP0, hF0, by omega, by omega⟩)
def fm_m30_0 : Nat := 0
/-- IslandHall.needPerson -/
theorem m30_0 {B : eB} (d : Nat) (M0 : Mm) (p1 : Int) (hP0 : Pw M0) (l1 : (-2147483648) ≤ p1) (u1 : p1 ≤ 2147483647) : Ct B (d + 1) 30 [R 0, I p1] M0 (qX 0 (fun M => Pw M ∧ Fr (fm_m30_0 ||| 1) M0 M ∧ M (-1) 0 = M0 (-1) 0 + 1) (qV fun M => Pw M ∧ Fr fm_m30_0 M0 M ∧ 0 ≤ p1 ∧ 0 ≤ M 2 1 + (-1) * p1 + (-1))) := by
  refine ct_of (d := d + 0) (k := 0) (L := [some (R 0), some (I p1)]) rfl rfl rfl ?_
  have hF0 := Fr.rf fm_m30_0 M0
  generalize hQ : (qX 0 (fun M => Pw M ∧ Fr (fm_m30_0 ||| 1) M0 M ∧ M (-1) 0 = M0 (-1) 0 + 1) (qV fun M => Pw M ∧ Fr fm_m30_0 M0 M ∧ 0 ≤ p1 ∧ 0 ≤ M 2 1 + (-1) * p1 + (-1))) = Q
  refine wk_il1 r30_0 ?_
  refine wk_iflt r30_1 ⟨by omega, by omega⟩ ?_ ?_
  · intro h1
    subst hQ; exact wk_thr112 r30_15 rfl (Or.inl ⟨rfl, hP0.thr, (Fr.thr hF0), (by rw [mUp_eq, hF0.at g_below rfl])⟩)
  · intro h2
    refine wk_il1 r30_4 (wk_al0 r30_5 (wk_getfr r30_6 fd_0_2 (br_0_2 hP0) (wk_getfb r30_9 fd_2_1 (bf_2_1 hP0) ?_)))
    intro v3 h5 h6 e4
    refine wk_iclt r30_12 ⟨by omega, by omega⟩ ⟨by omega, by omega⟩ ?_ ?_
    · intro h7
      subst hQ; exact wk_ret r30_26 (Or.inr ⟨rfl, hP0, hF0, by omega, by have := e4; omega⟩)
    · intro h8
      subst hQ; exact wk_thr112 r30_15 rfl (Or.inl ⟨rfl, hP0.thr, (Fr.thr hF0), (by rw [mUp_eq, hF0.at g_below rfl])⟩)
def fm_m229_138 : Nat := 0
/-- IslandHall$Tale.fitting -/
theorem m229_138 {B : eB} (d : Nat) (M0 : Mm) (hP0 : Pw M0)  : Ct B (d + 1) 229 [R 138] M0 (qR fun z M => Pw M ∧ Fr fm_m229_138 M0 M ∧ 155 ≤ z ∧ z ≤ 167) := by
  refine ct_of (d := d + 0) (k := 0) (L := [some (R 138)]) rfl rfl rfl ?_
  have hF0 := Fr.rf fm_m229_138 M0
  generalize hQ : (qR fun z M => Pw M ∧ Fr fm_m229_138 M0 M ∧ 155 ≤ z ∧ z ≤ 167) = Q
  refine wk_al0 r229_0 (wk_getfr r229_1 fd_138_3 (br_138_3 hP0) (wk_al0 r229_4 (wk_getfb r229_5 fd_138_5 (bf_138_5 hP0) ?_)))
  intro v1 h3 h4 e2
  refine wk_raldb r229_8 ar_154 ⟨by omega, by omega⟩ (fun q0 q1 => ba_154 hP0 q0 q1) ?_
  subst hQ; exact wk_aret r229_9 (⟨rfl, _, rfl, hP0, hF0, by omega, by omega⟩)
def fm_m199_10_f155 : Nat := 0
/-- IslandHall$Realm.meetings -/
theorem m199_10_f155 {B : eB} (d : Nat) (M0 : Mm) (a1 : Int) (p2 : Int) (p3 : Int) (hP0 : Pw M0) (ha1 : 155 ≤ a1) (hb1 : a1 ≤ 167) (l2 : 0 ≤ p2) (u2 : p2 ≤ 30) (l3 : 5 ≤ p3) (u3 : p3 ≤ 5) : Ct B (d + 1) 199 [R 10, R a1, I p2, I p3] M0 (qI fun z M => Pw M ∧ Fr fm_m199_10_f155 M0 M ∧ 0 ≤ z ∧ z ≤ 31) := by
  refine ct_of (d := d + 0) (k := 3) (L := [some (R 10), some (R a1), some (I p2), some (I p3), none, none, none]) rfl rfl rfl ?_
  have hF0 := Fr.rf fm_m199_10_f155 M0
  generalize hQ : (qI fun z M => Pw M ∧ Fr fm_m199_10_f155 M0 M ∧ 0 ≤ z ∧ z ≤ 31) = Q
  refine wk_c1 r199_0 (wk_is4 r199_1 rfl (wk_c1 r199_3 (wk_is5 r199_4 rfl ?_)))
  have c6_978 : ∀ (k978 : Nat) (v924 : Int) (v927 : Int), (5 - v927).toNat = k978 → 0 ≤ v924 → v924 ≤ 31 → 0 ≤ v927 → v927 ≤ 5 → Wp B (d + 0) 199 6 [some (R 10), some (R a1), some (I p2), some (I p3), some (I v924), some (I v927), none] [] M0 Q := by
    refine lp_ind ?_
    intro k978 ih978 v924 v927 hk978 h925 h926 h928 h929
    refine wk_il5 r199_6 (wk_il3 r199_8 ?_)
    refine wk_icge r199_9 ⟨by omega, by omega⟩ ⟨by omega, by omega⟩ ?_ ?_
    · intro h930
      refine wk_il4 r199_67 ?_
      subst hQ; exact wk_iret r199_69 (⟨rfl, _, rfl, hP0, hF0, by omega, by omega⟩)
    · intro h931
      refine wk_c1 r199_12 (wk_is6 r199_13 rfl ?_)
      have c15_977 : ∀ (k977 : Nat) (v932 : Int) (v935 : Int), (47 - v935).toNat = k977 → 0 ≤ v932 → v932 ≤ 31 → 0 ≤ v935 → v935 ≤ 47 → Wp B (d + 0) 199 15 [some (R 10), some (R a1), some (I p2), some (I p3), some (I v932), some (I v927), some (I v935)] [] M0 Q := by
        refine lp_ind ?_
        intro k977 ih977 v932 v935 hk977 h933 h934 h936 h937
        refine wk_il6 r199_15 (wk_al0 r199_17 (wk_getfb r199_18 fd_10_10 (bf_10_10 hP0) ?_))
        intro v938 h940 h941 e939
        refine wk_icge r199_21 ⟨by omega, by omega⟩ ⟨by omega, by omega⟩ ?_ ?_
        · intro h942
          refine wk_inc5 r199_61 rfl (wk_goto r199_64 ?_)
          exact wp_fg (le_s (le_s (le_s (le_s (le_s (le_s (le_n le_0))))))) (ih978 (5 - (v927 + 1)).toNat (by omega) v932 (v927 + 1) rfl (by omega) (by omega) (by omega) (by omega))
        · intro h943
          refine wk_al1 r199_24 (wk_il6 r199_25 (wk_laldb r199_27 (arF_155 (by omega) (by omega)) ⟨by omega, by omega⟩ (fun q0 q1 => baF_155 hP0 (by omega) (by omega) q0 q1) (by decide) ?_))
          intro n944 h946 h947 e945
          refine wk_al0 r199_28 (wk_getfr r199_29 fd_10_0 (br_10_0 hP0) (wk_il2 r199_32 (wk_il5 r199_33 (wk_iadd r199_35 (wk_raldb r199_36 ar_16 ⟨by omega, by omega⟩ (fun q0 q1 => ba_16 hP0 q0 q1) (wk_il6 r199_37 (wk_laldb r199_39 (arF_17 (by omega) (by omega)) ⟨by omega, by omega⟩ (fun q0 q1 => baF_17 hP0 (by omega) (by omega) q0 q1) (by decide) ?_)))))))
          intro n948 h950 h951 e949
          refine wk_land r199_40 ?_
          intro n952 h953 h954 h955 h956
          refine wk_c6 r199_41 ?_
          refine wk_lcmp r199_42 (by omega) (by omega) ?_ ?_
          · intro h957
            refine wk_ifeq r199_43 (by decide) ?_ ?_
            · intro h963
              refine wk_inc6 r199_55 rfl (wk_goto r199_58 ?_)
              exact wp_fg (le_s (le_s (le_s (le_s (le_s (le_s (le_s le_0))))))) (ih977 (47 - (v935 + 1)).toNat (by omega) v932 (v935 + 1) rfl (by omega) (by omega) (by omega) (by omega))
            · intro h964
              exfalso
              omega
          · intro h958 v962 h959 h960 h961
            refine wk_ifeq r199_43 ⟨by omega, by omega⟩ ?_ ?_
            · intro h965
              exfalso
              omega
            · intro h966
              refine wk_il4 r199_46 (wk_c1 r199_48 (wk_il5 r199_49 (wk_shl1 4 16 r199_51 ⟨by omega, by omega⟩ ⟨pwl_4, by decide⟩ ?_)))
              intro v967 h968 h969 h970
              refine wk_ior 5 32 r199_52 (by decide) ⟨by omega, by omega⟩ ⟨by omega, by omega⟩ ?_
              intro v971 h972 h973 h974 h975 h976
              refine wk_is4 r199_53 rfl (wk_inc6 r199_55 rfl (wk_goto r199_58 ?_))
              exact wp_fg (le_s (le_s (le_s (le_s (le_s (le_s (le_s le_0))))))) (ih977 (47 - (v935 + 1)).toNat (by omega) v971 (v935 + 1) rfl (by omega) (by omega) (by omega) (by omega))
      exact wp_fg (le_s (le_s (le_s (le_s (le_s (le_s (le_s le_0))))))) (c15_977 _ v924 0 rfl (by omega) (by omega) (by omega) (by omega))
  exact wp_fg (le_s (le_s (le_s (le_s (le_s (le_s (le_s le_0))))))) (c6_978 _ 0 0 rfl (by omega) (by omega) (by omega) (by omega))
def fm_m28_0 : Nat := 0
/-- IslandHall.may -/
theorem m28_0 {B : eB} (d : Nat) (M0 : Mm) (p1 : Int) (p2 : Int) (hP0 : Pw M0) (l1 : (-2147483648) ≤ p1) (u1 : p1 ≤ 2147483647) (l2 : (-2147483648) ≤ p2) (u2 : p2 ≤ 2147483647) : Ct B (d + 2) 28 [R 0, I p1, I p2] M0 (qX 0 (fun M => Pw M ∧ Fr (fm_m28_0 ||| 1) M0 M ∧ M (-1) 0 = M0 (-1) 0 + 1) (qI fun z M => Pw M ∧ Fr fm_m28_0 M0 M ∧ 0 ≤ z ∧ z ≤ 31)) := by
  refine ct_of (d := d + 1) (k := 0) (L := [some (R 0), some (I p1), some (I p2)]) rfl rfl rfl ?_
  have hF0 := Fr.rf fm_m28_0 M0
  generalize hQ : (qX 0 (fun M => Pw M ∧ Fr (fm_m28_0 ||| 1) M0 M ∧ M (-1) 0 = M0 (-1) 0 + 1) (qI fun z M => Pw M ∧ Fr fm_m28_0 M0 M ∧ 0 ≤ z ∧ z ≤ 31)) = Q
  refine wk_al0 r28_0 (wk_il1 r28_1 (wk_cv2 r28_2 kc_0_30 rfl (m30_0 _ M0 p1 hP0 (by omega) (by omega)) (cqX (fun _ _ x5 => by subst hQ; exact Or.inl ⟨rfl, x5.1, Fr.trx hF0 x5.2.1 rfl, (by rw [x5.2.2, hF0.at g_below rfl])⟩) (cqV ?_))))
  rintro M1 ⟨hP2, hQ3, h8, h9⟩
  obtain rfl := Fr.same hQ3
  obtain ⟨v10, e11⟩ : ∃ v, M0 2 1 = v := ⟨_, rfl⟩
  have h12 := bf_2_1 hP0; rw [e11] at h12
  refine wk_il2 r28_5 ?_
  refine wk_ifne r28_6 ⟨by omega, by omega⟩ ?_ ?_
  · intro h13
    refine wk_il2 r28_19 (wk_c1 r28_20 ?_)
    refine wk_iceq r28_21 ⟨by omega, by omega⟩ (by decide) ?_ ?_
    · intro h14
      refine wk_al0 r28_34 (wk_getfr r28_35 fd_0_6 (br_0_6 hP0) (wk_al0 r28_38 (wk_getfr r28_39 fd_0_7 (br_0_7 hP0) (wk_cv1 r28_42 kc_138_229 rfl (m229_138 _ M0 hP0) (cqR ?_)))))
      rintro v19 M15 ⟨hP16, hQ17, h20, h21⟩
      obtain rfl := Fr.same hQ17
      refine wk_c1 r28_45 (wk_il1 r28_46 (wk_c1 r28_47 (wk_imul r28_48 (wk_iadd r28_49 (wk_c1 r28_50 (wk_cv4 r28_51 kc_10_199 rfl (m199_10_f155 _ M0 v19 (0 + (p1 * 5)) 5 hP0 (by omega) (by omega) (by omega) (by omega) (by decide) (by decide)) (cqI ?_)))))))
      rintro v26 M22 ⟨hP23, hQ24, h27, h28⟩
      obtain rfl := Fr.same hQ24
      subst hQ; exact wk_iret r28_54 (Or.inr ⟨rfl, _, rfl, hP0, hF0, by omega, by omega⟩)
    · intro h29
      subst hQ; exact wk_thr105 r28_24 rfl (Or.inl ⟨rfl, hP0.thr, (Fr.thr hF0), (by rw [mUp_eq, hF0.at g_below rfl])⟩)
  · intro h30
    refine wk_al0 r28_9 (wk_getfr r28_10 fd_0_2 (br_0_2 hP0) (wk_getfr r28_13 fd_2_0 (br_2_0 hP0) (wk_il1 r28_16 (wk_ialdb r28_17 ar_3 ⟨by omega, by omega⟩ (fun q0 q1 => ba_3 hP0 q0 q1) ?_))))
    intro v31 h33 h34 e32
    subst hQ; exact wk_iret r28_18 (Or.inr ⟨rfl, _, rfl, hP0, hF0, by omega, by omega⟩)
def fm_m40_0 : Nat := 4
/-- IslandHall.takeTape -/
theorem m40_0 {B : eB} (d : Nat) (M0 : Mm) (p1 : Int) (x0_1 : Int) (hP0 : Pw M0) (l1 : (-2147483648) ≤ p1) (u1 : p1 ≤ 2147483647) (ex0_1 : M0 0 1 = x0_1) (lx0_1 : 0 ≤ x0_1) (ux0_1 : x0_1 ≤ 500) : Ct B (d + 1) 40 [R 0, I p1] M0 (qX 1 (fun M => Pw M ∧ Fr (fm_m40_0 ||| 1) M0 M ∧ M (-1) 0 = M0 (-1) 0 + 1 ∧ (M 0 1 = x0_1 ∧ (p1 < 0 ∨ x0_1 < p1))) (qV fun M => Pw M ∧ Fr fm_m40_0 M0 M ∧ 0 ≤ p1 ∧ 0 ≤ x0_1 + (-1) * p1 ∧ 0 ≤ (-1) * (M 0 1))) := by
  refine ct_of (d := d + 0) (k := 0) (L := [some (R 0), some (I p1)]) rfl rfl rfl ?_
  have hF0 := Fr.rf fm_m40_0 M0
  generalize hQ : (qX 1 (fun M => Pw M ∧ Fr (fm_m40_0 ||| 1) M0 M ∧ M (-1) 0 = M0 (-1) 0 + 1 ∧ (M 0 1 = x0_1 ∧ (p1 < 0 ∨ x0_1 < p1))) (qV fun M => Pw M ∧ Fr fm_m40_0 M0 M ∧ 0 ≤ p1 ∧ 0 ≤ x0_1 + (-1) * p1 ∧ 0 ≤ (-1) * (M 0 1))) = Q
  refine wk_il1 r40_0 ?_
  refine wk_iflt r40_1 ⟨by omega, by omega⟩ ?_ ?_
  · intro h1
    subst hQ; exact wk_thr105 r40_12 rfl (Or.inl ⟨rfl, hP0.thr, (Fr.thr hF0), (by rw [mUp_eq, hF0.at g_below rfl]), ⟨by rw [mUp_ne (Or.inl (by decide))]; exact ex0_1, by omega⟩⟩)
  · intro h2
    refine wk_il1 r40_4 (wk_al0 r40_5 (wk_getfi r40_6 fd_0_1 ex0_1 ?_))
    refine wk_icle r40_9 ⟨by omega, by omega⟩ ⟨by omega, by omega⟩ ?_ ?_
    · intro h3
      refine wk_al0 r40_22 (wk_c1 r40_23 (wk_putfi81 r40_24 fd_0_1 (wk_nw g_0_1 rfl hP0 hF0 (uf_0_1 (by decide)) ?_)))
      intro M4 hP5 hF6 e7
      subst hQ; exact wk_ret r40_27 (Or.inr ⟨rfl, hP5, hF6, by omega, by omega, by have := (mUp_at e7); omega⟩)
    · intro h8
      subst hQ; exact wk_thr105 r40_12 rfl (Or.inl ⟨rfl, hP0.thr, (Fr.thr hF0), (by rw [mUp_eq, hF0.at g_below rfl]), ⟨by rw [mUp_ne (Or.inl (by decide))]; exact ex0_1, by omega⟩⟩)
def fm_m243 : Nat := 0
/-- IslandHall$Tokens.typeOf -/
theorem m243 {B : eB} (d : Nat) (M0 : Mm) (p0 : Int) (hP0 : Pw M0) (l0 : (-128) ≤ p0) (u0 : p0 ≤ 127) : Ct B (d + 1) 243 [I p0] M0 (qI fun z M => Pw M ∧ Fr fm_m243 M0 M ∧ 1 ≤ z ∧ z ≤ 4) := by
  refine ct_of (d := d + 0) (k := 1) (L := [some (I p0), none]) rfl rfl rfl ?_
  have hF0 := Fr.rf fm_m243 M0
  generalize hQ : (qI fun z M => Pw M ∧ Fr fm_m243 M0 M ∧ 1 ≤ z ∧ z ≤ 4) = Q
  refine wk_il0 r243_0 (wk_c2 r243_1 ?_)
  have c14_36 : Wp B (d + 0) 243 14 [some (I p0), none] [] M0 Q := by
    refine wk_il0 r243_14 (wk_c2 r243_15 ?_)
    have c28_35 : Wp B (d + 0) 243 28 [some (I p0), none] [] M0 Q := by
      refine wk_il0 r243_28 (wk_c2 r243_29 ?_)
      refine wk_iceq r243_31 ⟨by omega, by omega⟩ (by decide) ?_ ?_
      · intro h9
        refine wk_c1 r243_64 (wk_goto r243_65 (wk_is1 r243_69 rfl (wk_il1 r243_70 ?_)))
        refine wk_ifeq r243_71 (by decide) ?_ ?_
        · intro h10
          exfalso
          omega
        · intro h11
          refine wk_c1 r243_74 (wk_goto r243_75 ?_)
          subst hQ; exact wk_iret r243_79 (⟨rfl, _, rfl, hP0, hF0, by omega, by omega⟩)
      · intro h12
        refine wk_il0 r243_34 (wk_c2 r243_35 ?_)
        refine wk_iceq r243_37 ⟨by omega, by omega⟩ (by decide) ?_ ?_
        · intro h13
          refine wk_c1 r243_64 (wk_goto r243_65 (wk_is1 r243_69 rfl (wk_il1 r243_70 ?_)))
          refine wk_ifeq r243_71 (by decide) ?_ ?_
          · intro h14
            exfalso
            omega
          · intro h15
            refine wk_c1 r243_74 (wk_goto r243_75 ?_)
            subst hQ; exact wk_iret r243_79 (⟨rfl, _, rfl, hP0, hF0, by omega, by omega⟩)
        · intro h16
          refine wk_il0 r243_40 (wk_c2 r243_41 ?_)
          refine wk_iceq r243_43 ⟨by omega, by omega⟩ (by decide) ?_ ?_
          · intro h17
            refine wk_c1 r243_64 (wk_goto r243_65 (wk_is1 r243_69 rfl (wk_il1 r243_70 ?_)))
            refine wk_ifeq r243_71 (by decide) ?_ ?_
            · intro h18
              exfalso
              omega
            · intro h19
              refine wk_c1 r243_74 (wk_goto r243_75 ?_)
              subst hQ; exact wk_iret r243_79 (⟨rfl, _, rfl, hP0, hF0, by omega, by omega⟩)
          · intro h20
            refine wk_il0 r243_46 (wk_c2 r243_47 ?_)
            refine wk_iceq r243_49 ⟨by omega, by omega⟩ (by decide) ?_ ?_
            · intro h21
              refine wk_c1 r243_64 (wk_goto r243_65 (wk_is1 r243_69 rfl (wk_il1 r243_70 ?_)))
              refine wk_ifeq r243_71 (by decide) ?_ ?_
              · intro h22
                exfalso
                omega
              · intro h23
                refine wk_c1 r243_74 (wk_goto r243_75 ?_)
                subst hQ; exact wk_iret r243_79 (⟨rfl, _, rfl, hP0, hF0, by omega, by omega⟩)
            · intro h24
              refine wk_il0 r243_52 (wk_c2 r243_53 ?_)
              refine wk_iceq r243_55 ⟨by omega, by omega⟩ (by decide) ?_ ?_
              · intro h25
                refine wk_c1 r243_64 (wk_goto r243_65 (wk_is1 r243_69 rfl (wk_il1 r243_70 ?_)))
                refine wk_ifeq r243_71 (by decide) ?_ ?_
                · intro h26
                  exfalso
                  omega
                · intro h27
                  refine wk_c1 r243_74 (wk_goto r243_75 ?_)
                  subst hQ; exact wk_iret r243_79 (⟨rfl, _, rfl, hP0, hF0, by omega, by omega⟩)
              · intro h28
                refine wk_il0 r243_58 (wk_c2 r243_59 ?_)
                refine wk_icne r243_61 ⟨by omega, by omega⟩ (by decide) ?_ ?_
                · intro h29
                  refine wk_c1 r243_68 (wk_is1 r243_69 rfl (wk_il1 r243_70 ?_))
                  refine wk_ifeq r243_71 (by decide) ?_ ?_
                  · intro h30
                    refine wk_c1 r243_78 ?_
                    subst hQ; exact wk_iret r243_79 (⟨rfl, _, rfl, hP0, hF0, by omega, by omega⟩)
                  · intro h31
                    exfalso
                    omega
                · intro h32
                  refine wk_c1 r243_64 (wk_goto r243_65 (wk_is1 r243_69 rfl (wk_il1 r243_70 ?_)))
                  refine wk_ifeq r243_71 (by decide) ?_ ?_
                  · intro h33
                    exfalso
                    omega
                  · intro h34
                    refine wk_c1 r243_74 (wk_goto r243_75 ?_)
                    subst hQ; exact wk_iret r243_79 (⟨rfl, _, rfl, hP0, hF0, by omega, by omega⟩)
    refine wk_iclt r243_17 ⟨by omega, by omega⟩ (by decide) ?_ ?_
    · intro h5
      exact wp_fg (le_s (le_s le_0)) c28_35
    · intro h6
      refine wk_il0 r243_20 (wk_c2 r243_21 ?_)
      refine wk_icgt r243_23 ⟨by omega, by omega⟩ (by decide) ?_ ?_
      · intro h7
        exact wp_fg (le_s (le_s le_0)) c28_35
      · intro h8
        refine wk_c1 r243_26 ?_
        subst hQ; exact wk_iret r243_27 (⟨rfl, _, rfl, hP0, hF0, by omega, by omega⟩)
  refine wk_iclt r243_3 ⟨by omega, by omega⟩ (by decide) ?_ ?_
  · intro h1
    exact wp_fg (le_s (le_s le_0)) c14_36
  · intro h2
    refine wk_il0 r243_6 (wk_c2 r243_7 ?_)
    refine wk_icgt r243_9 ⟨by omega, by omega⟩ (by decide) ?_ ?_
    · intro h3
      exact wp_fg (le_s (le_s le_0)) c14_36
    · intro h4
      refine wk_c1 r243_12 ?_
      subst hQ; exact wk_iret r243_13 (⟨rfl, _, rfl, hP0, hF0, by omega, by omega⟩)
def fm_m241_9 : Nat := 3940649673949184
/-- IslandHall$Tokens.next -/
theorem m241_9 {B : eB} (d : Nat) (M0 : Mm) (hP0 : Pw M0)  : Ct B (d + 2) 241 [R 9] M0 (qV fun M => Pw M ∧ Fr fm_m241_9 M0 M) := by
  refine ct_of (d := d + 1) (k := 1) (L := [some (R 9), none]) rfl rfl rfl ?_
  have hF0 := Fr.rf fm_m241_9 M0
  generalize hQ : (qV fun M => Pw M ∧ Fr fm_m241_9 M0 M) = Q
  refine wk_al0 r241_0 (wk_al0 r241_1 (wk_getfb r241_2 fd_9_2 (bf_9_2 hP0) ?_))
  intro v1 h3 h4 e2
  refine wk_putfi81 r241_5 fd_9_3 (wk_nw g_9_3 rfl hP0 hF0 (uf_9_3 ⟨by omega, by omega⟩) ?_)
  intro M5 hP6 hF7 e8
  have c8_236 : ∀ (k236 : Nat) (M135 : Mm) (v138 : Int), (500 - v138).toNat = k236 → Pw M135 → Fr fm_m241_9 M0 M135 → M135 9 3 = v138 → M135 9 2 = v1 → 0 ≤ v138 → v138 ≤ 500 → Wp B (d + 1) 241 8 [some (R 9), none] [] M135 Q := by
    refine lp_ind ?_
    intro k236 ih236 M135 v138 hk236 hP136 hF137 e141 e142 h139 h140
    refine wk_al0 r241_8 (wk_getfi r241_9 fd_9_3 e141 (wk_al0 r241_12 (wk_getfb r241_13 fd_9_1 (bf_9_1 hP136) ?_)))
    intro v143 h145 h146 e144
    have c60_235 : Wp B (d + 1) 241 60 [some (R 9), none] [] M135 Q := by
      refine wk_al0 r241_60 (wk_getfi r241_61 fd_9_3 e141 (wk_al0 r241_64 (wk_getfi r241_65 fd_9_1 e144 ?_)))
      refine wk_iclt r241_68 ⟨by omega, by omega⟩ ⟨by omega, by omega⟩ ?_ ?_
      · intro h165
        refine wk_al0 r241_85 (wk_al0 r241_86 (wk_getfr r241_87 fd_9_0 (br_9_0 hP136) (wk_al0 r241_90 (wk_getfi r241_91 fd_9_3 e141 (wk_baldb r241_94 ar_1 ⟨by omega, by omega⟩ (fun q0 q1 => ba_1 hP136 q0 q1) ?_)))))
        intro v166 h168 h169 e167
        refine wk_cs102_1 r241_95 rfl (m243 _ M135 v166 hP136 (by omega) (by omega)) (cqI ?_)
        rintro v174 M170 ⟨hP171, hQ172, h175, h176⟩
        obtain rfl := Fr.same hQ172
        refine wk_putfi81 r241_98 fd_9_4 (wk_nw g_9_4 rfl hP136 hF137 (uf_9_4 ⟨by omega, by omega⟩) ?_)
        intro M177 hP178 hF179 e180
        refine wk_al0 r241_101 (wk_al0 r241_102 (wk_getfi r241_103 fd_9_3 (mUp_no e180 e141 (Or.inr (by decide))) (wk_c1 r241_106 (wk_iadd r241_107 (wk_putfi81 r241_108 fd_9_2 (wk_nw g_9_2 rfl hP178 hF179 (uf_9_2 ⟨by omega, by omega⟩) ?_))))))
        intro M181 hP182 hF183 e184
        refine wk_al0 r241_111 (wk_getfi r241_112 fd_9_4 (mUp_no e184 (mUp_at e180) (Or.inr (by decide))) (wk_c1 r241_115 ?_))
        have c132_225 : ∀ (v190 : Int), 0 ≤ v190 → v190 ≤ 1 → Wp B (d + 1) 241 132 [some (R 9), none] [I v190] M181 Q := by
          intro v190 h191 h192
          refine wk_is1 r241_132 rfl ?_
          have c133_224 : ∀ (k224 : Nat) (M193 : Mm) (v196 : Int), (500 - v196).toNat = k224 → Pw M193 → Fr fm_m241_9 M0 M193 → M193 9 2 = v196 → M193 9 3 = v138 → M193 9 1 = v143 → M193 9 4 = v174 → 1 ≤ v196 → v196 ≤ 500 → Wp B (d + 1) 241 133 [some (R 9), some (I v190)] [] M193 Q := by
            refine lp_ind ?_
            intro k224 ih224 M193 v196 hk224 hP194 hF195 e199 e200 e201 e202 h197 h198
            refine wk_il1 r241_133 ?_
            refine wk_ifeq r241_134 ⟨by omega, by omega⟩ ?_ ?_
            · intro h203
              subst hQ; exact wk_ret r241_180 (⟨rfl, hP194, hF195⟩)
            · intro h204
              refine wk_al0 r241_137 (wk_getfi r241_138 fd_9_2 e199 (wk_al0 r241_141 (wk_getfi r241_142 fd_9_1 e201 ?_)))
              refine wk_icge r241_145 ⟨by omega, by omega⟩ ⟨by omega, by omega⟩ ?_ ?_
              · intro h205
                subst hQ; exact wk_ret r241_180 (⟨rfl, hP194, hF195⟩)
              · intro h206
                refine wk_al0 r241_148 (wk_getfr r241_149 fd_9_0 (br_9_0 hP194) (wk_al0 r241_152 (wk_getfi r241_153 fd_9_2 e199 (wk_baldb r241_156 ar_1 ⟨by omega, by omega⟩ (fun q0 q1 => ba_1 hP194 q0 q1) ?_))))
                intro v207 h209 h210 e208
                refine wk_cs102_1 r241_157 rfl (m243 _ M193 v207 hP194 (by omega) (by omega)) (cqI ?_)
                rintro v215 M211 ⟨hP212, hQ213, h216, h217⟩
                obtain rfl := Fr.same hQ213
                refine wk_al0 r241_160 (wk_getfi r241_161 fd_9_4 e202 ?_)
                refine wk_icne r241_164 ⟨by omega, by omega⟩ ⟨by omega, by omega⟩ ?_ ?_
                · intro h218
                  subst hQ; exact wk_ret r241_180 (⟨rfl, hP194, hF195⟩)
                · intro h219
                  refine wk_al0 r241_167 (wk_dupr r241_168 (wk_getfi r241_169 fd_9_2 e199 (wk_c1 r241_172 (wk_iadd r241_173 (wk_putfi81 r241_174 fd_9_2 (wk_nw g_9_2 rfl hP194 hF195 (uf_9_2 ⟨by omega, by omega⟩) ?_))))))
                  intro M220 hP221 hF222 e223
                  refine wk_goto r241_177 ?_
                  exact wp_fg (le_s (le_s le_0)) (ih224 (500 - (v196 + 1)).toNat (by omega) M220 (v196 + 1) rfl hP221 hF222 (mUp_at e223) (mUp_no e223 e200 (Or.inr (by decide))) (mUp_no e223 e201 (Or.inr (by decide))) (mUp_no e223 e202 (Or.inr (by decide))) (by omega) (by omega))
          exact wp_fg (le_s (le_s le_0)) (c133_224 _ M181 (v138 + 1) rfl hP182 hF183 (mUp_at e184) (mUp_no e184 (mUp_no e180 e141 (Or.inr (by decide))) (Or.inr (by decide))) (mUp_no e184 (mUp_no e180 e144 (Or.inr (by decide))) (Or.inr (by decide))) (mUp_no e184 (mUp_at e180) (Or.inr (by decide))) (by omega) (by omega))
        have c127_189 : Wp B (d + 1) 241 127 [some (R 9), none] [] M181 Q := by
          refine wk_c1 r241_127 (wk_goto r241_128 ?_)
          exact wp_fg (le_s (le_s le_0)) (c132_225 1 (by omega) (by omega))
        refine wk_iceq r241_116 ⟨by omega, by omega⟩ (by decide) ?_ ?_
        · intro h185
          exact wp_fg (le_s (le_s le_0)) c127_189
        · intro h186
          refine wk_al0 r241_119 (wk_getfi r241_120 fd_9_4 (mUp_no e184 (mUp_at e180) (Or.inr (by decide))) (wk_c1 r241_123 ?_))
          refine wk_icne r241_124 ⟨by omega, by omega⟩ (by decide) ?_ ?_
          · intro h187
            refine wk_c1 r241_131 ?_
            exact wp_fg (le_s (le_s le_0)) (c132_225 0 (by omega) (by omega))
          · intro h188
            exact wp_fg (le_s (le_s le_0)) c127_189
      · intro h226
        refine wk_al0 r241_71 (wk_c1 r241_72 (wk_putfi81 r241_73 fd_9_4 (wk_nw g_9_4 rfl hP136 hF137 (uf_9_4 (by decide)) ?_)))
        intro M227 hP228 hF229 e230
        refine wk_al0 r241_76 (wk_al0 r241_77 (wk_getfi r241_78 fd_9_3 (mUp_no e230 e141 (Or.inr (by decide))) (wk_putfi81 r241_81 fd_9_2 (wk_nw g_9_2 rfl hP228 hF229 (uf_9_2 ⟨by omega, by omega⟩) ?_))))
        intro M231 hP232 hF233 e234
        subst hQ; exact wk_ret r241_84 (⟨rfl, hP232, hF233⟩)
    refine wk_icge r241_16 ⟨by omega, by omega⟩ ⟨by omega, by omega⟩ ?_ ?_
    · intro h147
      exact wp_fg (le_s (le_s le_0)) c60_235
    · intro h148
      refine wk_al0 r241_19 (wk_getfr r241_20 fd_9_0 (br_9_0 hP136) (wk_al0 r241_23 (wk_getfi r241_24 fd_9_3 e141 (wk_baldb r241_27 ar_1 ⟨by omega, by omega⟩ (fun q0 q1 => ba_1 hP136 q0 q1) ?_))))
      intro v149 h151 h152 e150
      refine wk_c2 r241_28 ?_
      refine wk_iceq r241_30 ⟨by omega, by omega⟩ (by decide) ?_ ?_
      · intro h153
        refine wk_al0 r241_47 (wk_dupr r241_48 (wk_getfi r241_49 fd_9_3 e141 (wk_c1 r241_52 (wk_iadd r241_53 (wk_putfi81 r241_54 fd_9_3 (wk_nw g_9_3 rfl hP136 hF137 (uf_9_3 ⟨by omega, by omega⟩) ?_))))))
        intro M154 hP155 hF156 e157
        refine wk_goto r241_57 ?_
        exact wp_fg (le_s (le_s le_0)) (ih236 (500 - (v138 + 1)).toNat (by omega) M154 (v138 + 1) rfl hP155 hF156 (mUp_at e157) (mUp_no e157 e142 (Or.inr (by decide))) (by omega) (by omega))
      · intro h158
        refine wk_al0 r241_33 (wk_getfr r241_34 fd_9_0 (br_9_0 hP136) (wk_al0 r241_37 (wk_getfi r241_38 fd_9_3 e141 (wk_bald r241_41 ar_1 ⟨by omega, by omega⟩ e150 (wk_c2 r241_42 ?_)))))
        refine wk_icne r241_44 ⟨by omega, by omega⟩ (by decide) ?_ ?_
        · intro h159
          exact wp_fg (le_s (le_s le_0)) c60_235
        · intro h160
          refine wk_al0 r241_47 (wk_dupr r241_48 (wk_getfi r241_49 fd_9_3 e141 (wk_c1 r241_52 (wk_iadd r241_53 (wk_putfi81 r241_54 fd_9_3 (wk_nw g_9_3 rfl hP136 hF137 (uf_9_3 ⟨by omega, by omega⟩) ?_))))))
          intro M161 hP162 hF163 e164
          refine wk_goto r241_57 ?_
          exact wp_fg (le_s (le_s le_0)) (ih236 (500 - (v138 + 1)).toNat (by omega) M161 (v138 + 1) rfl hP162 hF163 (mUp_at e164) (mUp_no e164 e142 (Or.inr (by decide))) (by omega) (by omega))
  exact wp_fg (le_s (le_s le_0)) (c8_236 _ M5 v1 rfl hP6 hF7 (mUp_at e8) (mUp_no e8 e2 (Or.inr (by decide))) (by omega) (by omega))
def fm_m235_9 : Nat := 4222124650659840
/-- IslandHall$Tokens.begin -/
theorem m235_9 {B : eB} (d : Nat) (M0 : Mm) (p1 : Int) (hP0 : Pw M0) (l1 : 0 ≤ p1) (u1 : p1 ≤ 500) : Ct B (d + 3) 235 [R 9, I p1] M0 (qV fun M => Pw M ∧ Fr fm_m235_9 M0 M) := by
  refine ct_of (d := d + 2) (k := 0) (L := [some (R 9), some (I p1)]) rfl rfl rfl ?_
  have hF0 := Fr.rf fm_m235_9 M0
  generalize hQ : (qV fun M => Pw M ∧ Fr fm_m235_9 M0 M) = Q
  refine wk_al0 r235_0 (wk_il1 r235_1 (wk_al0 r235_2 (wk_getfr r235_3 fd_9_0 (br_9_0 hP0) (wk_alen r235_6 ar_1 (by decide) (wk_min r235_7 ⟨by omega, by omega⟩ (by decide) rfl ?_)))))
  intro v1 h2 h3 h4
  refine wk_putfi81 r235_10 fd_9_1 (wk_nw g_9_1 rfl hP0 hF0 (uf_9_1 ⟨by omega, by omega⟩) ?_)
  intro M5 hP6 hF7 e8
  refine wk_al0 r235_13 (wk_c1 r235_14 (wk_putfi81 r235_15 fd_9_2 (wk_nw g_9_2 rfl hP6 hF7 (uf_9_2 (by decide)) ?_)))
  intro M9 hP10 hF11 e12
  refine wk_al0 r235_18 (wk_cv1 r235_19 kc_9_241 rfl (m241_9 _ M9 hP10) (cqV ?_))
  rintro M13 ⟨hP14, hQ15⟩
  have hF16 : Fr fm_m235_9 M0 M13 := hF11.tr hQ15 rfl
  subst hQ; exact wk_ret r235_22 (⟨rfl, hP14, hF16⟩)
def fm_m154_6 : Nat := 4222571327258624
/-- IslandHall$Parser.begin -/
theorem m154_6 {B : eB} (d : Nat) (M0 : Mm) (p1 : Int) (c2 : Int) (hP0 : Pw M0) (l1 : 0 ≤ p1) (u1 : p1 ≤ 500) (hC2 : isC c2) : Ct B (d + 4) 154 [R 6, I p1, R c2] M0 (qV fun M => Pw M ∧ Fr fm_m154_6 M0 M) := by
  refine ct_of (d := d + 3) (k := 0) (L := [some (R 6), some (I p1), some (R c2)]) rfl rfl rfl ?_
  have hF0 := Fr.rf fm_m154_6 M0
  generalize hQ : (qV fun M => Pw M ∧ Fr fm_m154_6 M0 M) = Q
  refine wk_al0 r154_0 (wk_al2 r154_1 (wk_putfr81 r154_2 fd_6_2 (wk_nw g_6_2 rfl hP0 hF0 (pcU hC2) ?_)))
  intro M1 hP2 hF3 e4
  refine wk_al0 r154_5 (wk_c1 r154_6 (wk_putfi81 r154_7 fd_6_4 (wk_nw g_6_4 rfl hP2 hF3 (uf_6_4 (by decide)) ?_)))
  intro M5 hP6 hF7 e8
  refine wk_al0 r154_10 (wk_c1 r154_11 (wk_putfi81 r154_12 fd_6_5 (wk_nw g_6_5 rfl hP6 hF7 (uf_6_5 (by decide)) ?_)))
  intro M9 hP10 hF11 e12
  refine wk_al0 r154_15 (wk_getfr r154_16 fd_6_0 (br_6_0 hP10) (wk_il1 r154_19 (wk_cv2 r154_20 kc_9_235 rfl (m235_9 _ M9 p1 hP10 (by omega) (by omega)) (cqV ?_))))
  rintro M13 ⟨hP14, hQ15⟩
  have hF16 : Fr fm_m154_6 M0 M13 := hF11.tr hQ15 rfl
  subst hQ; exact wk_ret r154_23 (⟨rfl, hP14, hF16⟩)
def fm_m141 : Nat := 3758096384
/-- IslandHall$Code.clear -/
theorem m141 {B : eB} (d : Nat) (M0 : Mm) (c0 : Int) (hP0 : Pw M0) (hC0 : isC c0) : Ct B (d + 1) 141 [R c0] M0 (qV fun M => Pw M ∧ Fr fm_m141 M0 M) := by
  refine ct_of (d := d + 0) (k := 0) (L := [some (R c0)]) rfl rfl rfl ?_
  have hF0 := Fr.rf fm_m141 M0
  generalize hQ : (qV fun M => Pw M ∧ Fr fm_m141 M0 M) = Q
  refine wk_al0 r141_0 (wk_c1 r141_1 (wk_putfi81 r141_2 (fdC_1 hC0) (wk_nw (g_c1 hC0) rfl hP0 hF0 (uC_1 hC0 (by decide)) ?_)))
  intro M1 hP2 hF3 e4
  refine wk_al0 r141_5 (wk_c1 r141_6 (wk_putfi81 r141_7 (fdC_2 hC0) (wk_nw (g_c2 hC0) rfl hP2 hF3 (uC_2 hC0 (by decide)) ?_)))
  intro M5 hP6 hF7 e8
  refine wk_al0 r141_10 (wk_c1 r141_11 (wk_putfi81 r141_12 (fdC_3 hC0) (wk_nw (g_c3 hC0) rfl hP6 hF7 (uC_3 hC0 (by decide)) ?_)))
  intro M9 hP10 hF11 e12
  subst hQ; exact wk_ret r141_15 (⟨rfl, hP10, hF11⟩)
def fm_m238_9 : Nat := 0
/-- IslandHall$Tokens.isSign -/
theorem m238_9 {B : eB} (d : Nat) (M0 : Mm) (p1 : Int) (hP0 : Pw M0) (l1 : 40 ≤ p1) (u1 : p1 ≤ 40) : Ct B (d + 1) 238 [R 9, I p1] M0 (qI fun z M => Pw M ∧ Fr fm_m238_9 M0 M ∧ 0 ≤ z ∧ z ≤ 1) := by
  refine ct_of (d := d + 0) (k := 0) (L := [some (R 9), some (I p1)]) rfl rfl rfl ?_
  have hF0 := Fr.rf fm_m238_9 M0
  generalize hQ : (qI fun z M => Pw M ∧ Fr fm_m238_9 M0 M ∧ 0 ≤ z ∧ z ≤ 1) = Q
  refine wk_al0 r238_0 (wk_getfb r238_1 fd_9_4 (bf_9_4 hP0) ?_)
  intro v1 h3 h4 e2
  refine wk_c1 r238_4 ?_
  refine wk_icne r238_5 ⟨by omega, by omega⟩ (by decide) ?_ ?_
  · intro h5
    refine wk_c1 r238_36 ?_
    subst hQ; exact wk_zret r238_37 (by decide) (⟨rfl, _, rfl, hP0, hF0, by omega, by omega⟩)
  · intro h6
    refine wk_al0 r238_8 (wk_getfb r238_9 fd_9_3 (bf_9_3 hP0) ?_)
    intro v7 h9 h10 e8
    refine wk_al0 r238_12 (wk_getfb r238_13 fd_9_1 (bf_9_1 hP0) ?_)
    intro v11 h13 h14 e12
    refine wk_icge r238_16 ⟨by omega, by omega⟩ ⟨by omega, by omega⟩ ?_ ?_
    · intro h15
      refine wk_c1 r238_36 ?_
      subst hQ; exact wk_zret r238_37 (by decide) (⟨rfl, _, rfl, hP0, hF0, by omega, by omega⟩)
    · intro h16
      refine wk_al0 r238_19 (wk_getfr r238_20 fd_9_0 (br_9_0 hP0) (wk_al0 r238_23 (wk_getfi r238_24 fd_9_3 e8 (wk_baldb r238_27 ar_1 ⟨by omega, by omega⟩ (fun q0 q1 => ba_1 hP0 q0 q1) ?_))))
      intro v17 h19 h20 e18
      refine wk_il1 r238_28 ?_
      refine wk_icne r238_29 ⟨by omega, by omega⟩ ⟨by omega, by omega⟩ ?_ ?_
      · intro h21
        refine wk_c1 r238_36 ?_
        subst hQ; exact wk_zret r238_37 (by decide) (⟨rfl, _, rfl, hP0, hF0, by omega, by omega⟩)
      · intro h22
        refine wk_c1 r238_32 (wk_goto r238_33 ?_)
        subst hQ; exact wk_zret r238_37 (by decide) (⟨rfl, _, rfl, hP0, hF0, by omega, by omega⟩)
def fm_m237_9 : Nat := 0
/-- IslandHall$Tokens.isName -/
theorem m237_9 {B : eB} (d : Nat) (M0 : Mm) (hP0 : Pw M0)  : Ct B (d + 1) 237 [R 9] M0 (qI fun z M => Pw M ∧ Fr fm_m237_9 M0 M ∧ 0 ≤ z ∧ z ≤ 1 ∧ (z = 1 → 0 ≤ M 9 2 + (-1) * (M 9 3) + (-1)) ∧ (z = 1 → 0 ≤ (-1) * (M 9 2) + M 9 3 + 1)) := by
  refine ct_of (d := d + 0) (k := 0) (L := [some (R 9)]) rfl rfl rfl ?_
  have hF0 := Fr.rf fm_m237_9 M0
  generalize hQ : (qI fun z M => Pw M ∧ Fr fm_m237_9 M0 M ∧ 0 ≤ z ∧ z ≤ 1 ∧ (z = 1 → 0 ≤ M 9 2 + (-1) * (M 9 3) + (-1)) ∧ (z = 1 → 0 ≤ (-1) * (M 9 2) + M 9 3 + 1)) = Q
  refine wk_al0 r237_0 (wk_getfb r237_1 fd_9_4 (bf_9_4 hP0) ?_)
  intro v1 h3 h4 e2
  refine wk_c1 r237_4 ?_
  refine wk_icne r237_5 ⟨by omega, by omega⟩ (by decide) ?_ ?_
  · intro h5
    refine wk_c1 r237_25 ?_
    subst hQ; exact wk_zret r237_26 (by decide) (⟨rfl, _, rfl, hP0, hF0, by omega, by omega, by omega, by omega⟩)
  · intro h6
    refine wk_al0 r237_8 (wk_getfb r237_9 fd_9_2 (bf_9_2 hP0) ?_)
    intro v7 h9 h10 e8
    refine wk_al0 r237_12 (wk_getfb r237_13 fd_9_3 (bf_9_3 hP0) ?_)
    intro v11 h13 h14 e12
    refine wk_isub r237_16 (wk_c1 r237_17 ?_)
    refine wk_icne r237_18 ⟨by omega, by omega⟩ (by decide) ?_ ?_
    · intro h15
      refine wk_c1 r237_25 ?_
      subst hQ; exact wk_zret r237_26 (by decide) (⟨rfl, _, rfl, hP0, hF0, by omega, by omega, by omega, by omega⟩)
    · intro h16
      refine wk_c1 r237_21 (wk_goto r237_22 ?_)
      subst hQ; exact wk_zret r237_26 (by decide) (⟨rfl, _, rfl, hP0, hF0, by omega, by omega, by have := e8; have := e12; omega, by have := e8; have := e12; omega⟩)
def fm_m239_9 : Nat := 0
/-- IslandHall$Tokens.isWord -/
theorem m239_9 {B : eB} (d : Nat) (M0 : Mm) (t1 : Int) (hP0 : Pw M0) (ht_t1 : 4097 ≤ t1 ∧ t1 ≤ 4132) : Ct B (d + 2) 239 [R 9, R t1] M0 (qI fun z M => Pw M ∧ Fr fm_m239_9 M0 M ∧ 0 ≤ z ∧ z ≤ 1 ∧ (z = 1 ↔ WI M0 t1)) := by
  refine ct_of (d := d + 1) (k := 1) (L := [some (R 9), some (R t1), none]) rfl rfl rfl ?_
  have hF0 := Fr.rf fm_m239_9 M0
  generalize hQ : (qI fun z M => Pw M ∧ Fr fm_m239_9 M0 M ∧ 0 ≤ z ∧ z ≤ 1 ∧ (z = 1 ↔ WI M0 t1)) = Q
  refine wk_al0 r239_0 (wk_getfb r239_1 fd_9_4 (bf_9_4 hP0) ?_)
  intro v1 h3 h4 e2
  refine wk_c1 r239_4 ?_
  refine wk_icne r239_5 ⟨by omega, by omega⟩ (by decide) ?_ ?_
  · intro h5
    refine wk_c1 r239_24 ?_
    subst hQ; exact wk_zret r239_25 (by decide) (⟨rfl, _, rfl, hP0, hF0, by omega, by omega, by first | exact ⟨fun h => by omega, fun h => by have h1 := h.1; have h2 := h.2.1; omega⟩ | exact ⟨fun h => by omega, fun h => by have h1 := h.2.2 _ (by omega) (by omega); rw [rfl] at h1; omega⟩ | exact ⟨fun _ => ⟨by omega, by omega, fun i h0 h1 => by rw [rfl]; exact _ i h0 (by omega)⟩, fun _ => rfl⟩⟩)
  · intro h6
    refine wk_al0 r239_8 (wk_getfb r239_9 fd_9_2 (bf_9_2 hP0) ?_)
    intro v7 h9 h10 e8
    refine wk_al0 r239_12 (wk_getfb r239_13 fd_9_3 (bf_9_3 hP0) ?_)
    intro v11 h13 h14 e12
    refine wk_isub r239_16 (wk_al1 r239_17 (wk_ct1 r239_18 ht_t1 rfl (ct_len _ _ ht_t1) (cqI ?_)))
    rintro v15 _ ⟨rfl, h16, h17, h18⟩
    refine wk_iceq r239_21 ⟨by omega, by omega⟩ ⟨by omega, by omega⟩ ?_ ?_
    · intro h19
      refine wk_c1 r239_26 (wk_is2 r239_27 rfl ?_)
      have c28_220 : ∀ (k220 : Nat) (v200 : Int), (40 - v200).toNat = k220 → 0 ≤ v200 → v200 ≤ 40 → (∀ k : Int, 0 ≤ k → k < v200 → M0 1 (v11 + k) = chf t1 k) → Wp B (d + 1) 239 28 [some (R 9), some (R t1), some (I v200)] [] M0 Q := by
        refine lp_ind ?_
        intro k220 ih220 v200 hk220 h201 h202 ti203
        refine wk_il2 r239_28 (wk_al1 r239_29 (wk_ct1 r239_30 ht_t1 rfl (ct_len _ _ ht_t1) (cqI ?_)))
        rintro v204 _ ⟨rfl, h205, h206, h207⟩
        refine wk_icge r239_33 ⟨by omega, by omega⟩ ⟨by omega, by omega⟩ ?_ ?_
        · intro h208
          refine wk_c1 r239_63 ?_
          subst hQ; exact wk_zret r239_64 (by decide) (⟨rfl, _, rfl, hP0, hF0, by omega, by omega, by first | exact ⟨fun h => by omega, fun h => by have h1 := h.1; have h2 := h.2.1; omega⟩ | exact ⟨fun h => by omega, fun h => by have h1 := h.2.2 v200 (by omega) (by omega); rw [e12] at h1; omega⟩ | exact ⟨fun _ => ⟨by omega, by omega, fun i h0 h1 => by rw [e12]; exact ti203 i h0 (by omega)⟩, fun _ => rfl⟩⟩)
        · intro h209
          refine wk_al0 r239_36 (wk_getfr r239_37 fd_9_0 (br_9_0 hP0) (wk_al0 r239_40 (wk_getfi r239_41 fd_9_3 e12 (wk_il2 r239_44 (wk_iadd r239_45 (wk_baldb r239_46 ar_1 ⟨by omega, by omega⟩ (fun q0 q1 => ba_1 hP0 q0 q1) ?_))))))
          intro v210 h212 h213 e211
          refine wk_al1 r239_47 (wk_il2 r239_48 (wk_ct2 r239_49 ht_t1 rfl (ct_cha _ _ ht_t1 ⟨by omega, by omega⟩) (cqI ?_)))
          rintro v214 _ ⟨rfl, h215, h216, h217⟩
          refine wk_iceq r239_52 ⟨by omega, by omega⟩ ⟨by omega, by omega⟩ ?_ ?_
          · intro h218
            refine wk_inc2 r239_57 rfl (wk_goto r239_60 ?_)
            exact wp_fg (le_s (le_s (le_s le_0))) (ih220 (40 - (v200 + 1)).toNat (by omega) (v200 + 1) rfl (by omega) (by omega) (fun k q0 q1 => (Int.lt_or_le k v200).elim (fun q => ti203 k q0 q) (fun q => by rw [show k = v200 by omega]; omega)))
          · intro h219
            refine wk_c1 r239_55 ?_
            subst hQ; exact wk_zret r239_56 (by decide) (⟨rfl, _, rfl, hP0, hF0, by omega, by omega, by first | exact ⟨fun h => by omega, fun h => by have h1 := h.1; have h2 := h.2.1; omega⟩ | exact ⟨fun h => by omega, fun h => by have h1 := h.2.2 v200 (by omega) (by omega); rw [e12] at h1; omega⟩ | exact ⟨fun _ => ⟨by omega, by omega, fun i h0 h1 => by rw [e12]; exact ti203 i h0 (by omega)⟩, fun _ => rfl⟩⟩)
      exact wp_fg (le_s (le_s (le_s le_0))) (c28_220 _ 0 rfl (by omega) (by omega) (fun k a b => by omega))
    · intro h221
      refine wk_c1 r239_24 ?_
      subst hQ; exact wk_zret r239_25 (by decide) (⟨rfl, _, rfl, hP0, hF0, by omega, by omega, by first | exact ⟨fun h => by omega, fun h => by have h1 := h.1; have h2 := h.2.1; omega⟩ | exact ⟨fun h => by omega, fun h => by have h1 := h.2.2 _ (by omega) (by omega); rw [e12] at h1; omega⟩ | exact ⟨fun _ => ⟨by omega, by omega, fun i h0 h1 => by rw [e12]; exact _ i h0 (by omega)⟩, fun _ => rfl⟩⟩)
def fm_m155_6 : Nat := 0
/-- IslandHall$Parser.canBegin -/
theorem m155_6 {B : eB} (d : Nat) (M0 : Mm) (hP0 : Pw M0)  : Ct B (d + 3) 155 [R 6] M0 (qI fun z M => Pw M ∧ Fr fm_m155_6 M0 M ∧ 0 ≤ z ∧ z ≤ 1) := by
  refine ct_of (d := d + 2) (k := 0) (L := [some (R 6)]) rfl rfl rfl ?_
  have hF0 := Fr.rf fm_m155_6 M0
  generalize hQ : (qI fun z M => Pw M ∧ Fr fm_m155_6 M0 M ∧ 0 ≤ z ∧ z ≤ 1) = Q
  refine wk_al0 r155_0 (wk_getfr r155_1 fd_6_0 (br_6_0 hP0) (wk_c2 r155_4 (wk_cv2 r155_6 kc_9_238 rfl (m238_9 _ M0 40 hP0 (by decide) (by decide)) (cqI ?_))))
  rintro v5 M1 ⟨hP2, hQ3, h6, h7⟩
  obtain rfl := Fr.same hQ3
  refine wk_ifne r155_9 ⟨by omega, by omega⟩ ?_ ?_
  · intro h8
    refine wk_c1 r155_94 (wk_goto r155_95 ?_)
    subst hQ; exact wk_zret r155_99 (by decide) (⟨rfl, _, rfl, hP0, hF0, by omega, by omega⟩)
  · intro h9
    refine wk_al0 r155_12 (wk_getfr r155_13 fd_6_0 (br_6_0 hP0) (wk_cv1 r155_16 kc_9_237 rfl (m237_9 _ M0 hP0) (cqI ?_)))
    rintro v16 M10 ⟨hP11, hQ12, h17, h18, h14, h15⟩
    obtain rfl := Fr.same hQ12
    obtain ⟨v19, e20⟩ : ∃ v, M0 9 2 = v := ⟨_, rfl⟩
    have h21 := bf_9_2 hP0; rw [e20] at h21
    obtain ⟨v22, e23⟩ : ∃ v, M0 9 3 = v := ⟨_, rfl⟩
    have h24 := bf_9_3 hP0; rw [e23] at h24
    refine wk_ifne r155_19 ⟨by omega, by omega⟩ ?_ ?_
    · intro h25
      refine wk_c1 r155_94 (wk_goto r155_95 ?_)
      subst hQ; exact wk_zret r155_99 (by decide) (⟨rfl, _, rfl, hP0, hF0, by omega, by omega⟩)
    · intro h26
      refine wk_al0 r155_22 (wk_getfr r155_23 fd_6_0 (br_6_0 hP0) (wk_c8 r155_26 (wk_cv2 r155_28 kc_9_239 rfl (m239_9 _ M0 4119 hP0 (by decide)) (cqI ?_))))
      rintro v32 M27 ⟨hP28, hQ29, h33, h34, xh31⟩
      obtain rfl := Fr.same hQ29
      refine wk_ifne r155_31 ⟨by omega, by omega⟩ ?_ ?_
      · intro h35
        refine wk_c1 r155_94 (wk_goto r155_95 ?_)
        subst hQ; exact wk_zret r155_99 (by decide) (⟨rfl, _, rfl, hP0, hF0, by omega, by omega⟩)
      · intro h36
        refine wk_al0 r155_34 (wk_getfr r155_35 fd_6_0 (br_6_0 hP0) (wk_c8 r155_38 (wk_cv2 r155_40 kc_9_239 rfl (m239_9 _ M0 4114 hP0 (by decide)) (cqI ?_))))
        rintro v42 M37 ⟨hP38, hQ39, h43, h44, xh41⟩
        obtain rfl := Fr.same hQ39
        refine wk_ifne r155_43 ⟨by omega, by omega⟩ ?_ ?_
        · intro h45
          refine wk_c1 r155_94 (wk_goto r155_95 ?_)
          subst hQ; exact wk_zret r155_99 (by decide) (⟨rfl, _, rfl, hP0, hF0, by omega, by omega⟩)
        · intro h46
          refine wk_al0 r155_46 (wk_getfr r155_47 fd_6_0 (br_6_0 hP0) (wk_c8 r155_50 (wk_cv2 r155_52 kc_9_239 rfl (m239_9 _ M0 4115 hP0 (by decide)) (cqI ?_))))
          rintro v52 M47 ⟨hP48, hQ49, h53, h54, xh51⟩
          obtain rfl := Fr.same hQ49
          refine wk_ifne r155_55 ⟨by omega, by omega⟩ ?_ ?_
          · intro h55
            refine wk_c1 r155_94 (wk_goto r155_95 ?_)
            subst hQ; exact wk_zret r155_99 (by decide) (⟨rfl, _, rfl, hP0, hF0, by omega, by omega⟩)
          · intro h56
            refine wk_al0 r155_58 (wk_getfr r155_59 fd_6_0 (br_6_0 hP0) (wk_c8 r155_62 (wk_cv2 r155_64 kc_9_239 rfl (m239_9 _ M0 4118 hP0 (by decide)) (cqI ?_))))
            rintro v62 M57 ⟨hP58, hQ59, h63, h64, xh61⟩
            obtain rfl := Fr.same hQ59
            refine wk_ifne r155_67 ⟨by omega, by omega⟩ ?_ ?_
            · intro h65
              refine wk_c1 r155_94 (wk_goto r155_95 ?_)
              subst hQ; exact wk_zret r155_99 (by decide) (⟨rfl, _, rfl, hP0, hF0, by omega, by omega⟩)
            · intro h66
              refine wk_al0 r155_70 (wk_getfr r155_71 fd_6_0 (br_6_0 hP0) (wk_c8 r155_74 (wk_cv2 r155_76 kc_9_239 rfl (m239_9 _ M0 4116 hP0 (by decide)) (cqI ?_))))
              rintro v72 M67 ⟨hP68, hQ69, h73, h74, xh71⟩
              obtain rfl := Fr.same hQ69
              refine wk_ifne r155_79 ⟨by omega, by omega⟩ ?_ ?_
              · intro h75
                refine wk_c1 r155_94 (wk_goto r155_95 ?_)
                subst hQ; exact wk_zret r155_99 (by decide) (⟨rfl, _, rfl, hP0, hF0, by omega, by omega⟩)
              · intro h76
                refine wk_al0 r155_82 (wk_getfr r155_83 fd_6_0 (br_6_0 hP0) (wk_c8 r155_86 (wk_cv2 r155_88 kc_9_239 rfl (m239_9 _ M0 4117 hP0 (by decide)) (cqI ?_))))
                rintro v82 M77 ⟨hP78, hQ79, h83, h84, xh81⟩
                obtain rfl := Fr.same hQ79
                refine wk_ifeq r155_91 ⟨by omega, by omega⟩ ?_ ?_
                · intro h85
                  refine wk_c1 r155_98 ?_
                  subst hQ; exact wk_zret r155_99 (by decide) (⟨rfl, _, rfl, hP0, hF0, by omega, by omega⟩)
                · intro h86
                  refine wk_c1 r155_94 (wk_goto r155_95 ?_)
                  subst hQ; exact wk_zret r155_99 (by decide) (⟨rfl, _, rfl, hP0, hF0, by omega, by omega⟩)
def fm_m175_6 : Nat := 3940649673949184
/-- IslandHall$Parser.takeWord -/
theorem m175_6 {B : eB} (d : Nat) (M0 : Mm) (t1 : Int) (hP0 : Pw M0) (ht_t1 : 4097 ≤ t1 ∧ t1 ≤ 4132) : Ct B (d + 3) 175 [R 6, R t1] M0 (qI fun z M => Pw M ∧ Fr fm_m175_6 M0 M ∧ 0 ≤ z ∧ z ≤ 1) := by
  refine ct_of (d := d + 2) (k := 0) (L := [some (R 6), some (R t1)]) rfl rfl rfl ?_
  have hF0 := Fr.rf fm_m175_6 M0
  generalize hQ : (qI fun z M => Pw M ∧ Fr fm_m175_6 M0 M ∧ 0 ≤ z ∧ z ≤ 1) = Q
  refine wk_al0 r175_0 (wk_getfr r175_1 fd_6_0 (br_6_0 hP0) (wk_al1 r175_4 (wk_cv2 r175_5 kc_9_239 rfl (m239_9 _ M0 t1 hP0 ht_t1) (cqI ?_))))
  rintro v6 M1 ⟨hP2, hQ3, h7, h8, xh5⟩
  obtain rfl := Fr.same hQ3
  refine wk_ifne r175_8 ⟨by omega, by omega⟩ ?_ ?_
  · intro h9
    refine wk_al0 r175_13 (wk_getfr r175_14 fd_6_0 (br_6_0 hP0) (wk_cv1 r175_17 kc_9_241 rfl (m241_9 _ M0 hP0) (cqV ?_)))
    rintro M10 ⟨hP11, hQ12⟩
    have hF13 : Fr fm_m175_6 M0 M10 := hF0.tr hQ12 rfl
    refine wk_c1 r175_20 ?_
    subst hQ; exact wk_zret r175_21 (by decide) (⟨rfl, _, rfl, hP11, hF13, by omega, by omega⟩)
  · intro h14
    refine wk_c1 r175_11 ?_
    subst hQ; exact wk_zret r175_12 (by decide) (⟨rfl, _, rfl, hP0, hF0, by omega, by omega⟩)
def fm_m159_6 : Nat := 412316860416
/-- IslandHall$Parser.fail -/
theorem m159_6 {B : eB} (d : Nat) (M0 : Mm) (p1 : Int) (hP0 : Pw M0) (l1 : 1 ≤ p1) (u1 : p1 ≤ 1) : Ct B (d + 1) 159 [R 6, I p1] M0 (qI fun z M => Pw M ∧ Fr fm_m159_6 M0 M ∧ 0 ≤ z ∧ z ≤ 0 ∧ 0 ≤ M 6 4 + (-1)) := by
  refine ct_of (d := d + 0) (k := 0) (L := [some (R 6), some (I p1)]) rfl rfl rfl ?_
  have hF0 := Fr.rf fm_m159_6 M0
  generalize hQ : (qI fun z M => Pw M ∧ Fr fm_m159_6 M0 M ∧ 0 ≤ z ∧ z ≤ 0 ∧ 0 ≤ M 6 4 + (-1)) = Q
  refine wk_al0 r159_0 (wk_il1 r159_1 (wk_putfi81 r159_2 fd_6_4 (wk_nw g_6_4 rfl hP0 hF0 (uf_6_4 ⟨by omega, by omega⟩) ?_)))
  intro M1 hP2 hF3 e4
  refine wk_al0 r159_5 (wk_al0 r159_6 (wk_getfr r159_7 fd_6_0 (br_6_0 hP2) (wk_getfb r159_10 fd_9_3 (bf_9_3 hP2) ?_)))
  intro v5 h7 h8 e6
  refine wk_putfi81 r159_13 fd_6_5 (wk_nw g_6_5 rfl hP2 hF3 (uf_6_5 ⟨by omega, by omega⟩) ?_)
  intro M9 hP10 hF11 e12
  refine wk_c1 r159_16 ?_
  subst hQ; exact wk_zret r159_17 (by decide) (⟨rfl, _, rfl, hP10, hF11, by omega, by omega, by have := (mUp_no e12 (mUp_at e4) (Or.inr (by decide))); omega⟩)
def fm_m240_9 : Nat := 0
/-- IslandHall$Tokens.kind -/
theorem m240_9 {B : eB} (d : Nat) (M0 : Mm) (hP0 : Pw M0)  : Ct B (d + 3) 240 [R 9] M0 (qI fun z M => Pw M ∧ Fr fm_m240_9 M0 M ∧ (-1) ≤ z ∧ z ≤ 4 ∧ (z = kdF M0)) := by
  refine ct_of (d := d + 2) (k := 0) (L := [some (R 9)]) rfl rfl rfl ?_
  have hF0 := Fr.rf fm_m240_9 M0
  generalize hQ : (qI fun z M => Pw M ∧ Fr fm_m240_9 M0 M ∧ (-1) ≤ z ∧ z ≤ 4 ∧ (z = kdF M0)) = Q
  refine wk_al0 r240_0 (wk_c8 r240_1 (wk_cv2 r240_3 kc_9_239 rfl (m239_9 _ M0 4128 hP0 (by decide)) (cqI ?_)))
  rintro v6 M1 ⟨hP2, hQ3, h7, h8, xh5⟩
  obtain rfl := Fr.same hQ3
  refine wk_ifeq r240_6 ⟨by omega, by omega⟩ ?_ ?_
  · intro h9
    refine wk_al0 r240_11 (wk_c8 r240_12 (wk_cv2 r240_14 kc_9_239 rfl (m239_9 _ M0 4129 hP0 (by decide)) (cqI ?_)))
    rintro v15 M10 ⟨hP11, hQ12, h16, h17, xh14⟩
    obtain rfl := Fr.same hQ12
    refine wk_ifeq r240_17 ⟨by omega, by omega⟩ ?_ ?_
    · intro h18
      refine wk_al0 r240_22 (wk_c8 r240_23 (wk_cv2 r240_25 kc_9_239 rfl (m239_9 _ M0 4130 hP0 (by decide)) (cqI ?_)))
      rintro v24 M19 ⟨hP20, hQ21, h25, h26, xh23⟩
      obtain rfl := Fr.same hQ21
      refine wk_ifeq r240_28 ⟨by omega, by omega⟩ ?_ ?_
      · intro h27
        refine wk_al0 r240_33 (wk_c8 r240_34 (wk_cv2 r240_36 kc_9_239 rfl (m239_9 _ M0 4131 hP0 (by decide)) (cqI ?_)))
        rintro v33 M28 ⟨hP29, hQ30, h34, h35, xh32⟩
        obtain rfl := Fr.same hQ30
        refine wk_ifeq r240_39 ⟨by omega, by omega⟩ ?_ ?_
        · intro h36
          refine wk_al0 r240_44 (wk_c8 r240_45 (wk_cv2 r240_47 kc_9_239 rfl (m239_9 _ M0 4132 hP0 (by decide)) (cqI ?_)))
          rintro v42 M37 ⟨hP38, hQ39, h43, h44, xh41⟩
          obtain rfl := Fr.same hQ39
          refine wk_ifeq r240_50 ⟨by omega, by omega⟩ ?_ ?_
          · intro h45
            refine wk_c1 r240_57 ?_
            subst hQ; exact wk_iret r240_58 (⟨rfl, _, rfl, hP0, hF0, by omega, by omega, by unfold kdF; rw [if_neg (fun q => by have := xh5.mpr q; omega), if_neg (fun q => by have := xh14.mpr q; omega), if_neg (fun q => by have := xh23.mpr q; omega), if_neg (fun q => by have := xh32.mpr q; omega), if_neg (fun q => by have := xh41.mpr q; omega)]⟩)
          · intro h46
            refine wk_c1 r240_53 (wk_goto r240_54 ?_)
            subst hQ; exact wk_iret r240_58 (⟨rfl, _, rfl, hP0, hF0, by omega, by omega, by unfold kdF; rw [if_neg (fun q => by have := xh5.mpr q; omega), if_neg (fun q => by have := xh14.mpr q; omega), if_neg (fun q => by have := xh23.mpr q; omega), if_neg (fun q => by have := xh32.mpr q; omega), if_pos (xh41.mp (by omega))]⟩)
        · intro h47
          refine wk_c1 r240_42 ?_
          subst hQ; exact wk_iret r240_43 (⟨rfl, _, rfl, hP0, hF0, by omega, by omega, by unfold kdF; rw [if_neg (fun q => by have := xh5.mpr q; omega), if_neg (fun q => by have := xh14.mpr q; omega), if_neg (fun q => by have := xh23.mpr q; omega), if_pos (xh32.mp (by omega))]⟩)
      · intro h48
        refine wk_c1 r240_31 ?_
        subst hQ; exact wk_iret r240_32 (⟨rfl, _, rfl, hP0, hF0, by omega, by omega, by unfold kdF; rw [if_neg (fun q => by have := xh5.mpr q; omega), if_neg (fun q => by have := xh14.mpr q; omega), if_pos (xh23.mp (by omega))]⟩)
    · intro h49
      refine wk_c1 r240_20 ?_
      subst hQ; exact wk_iret r240_21 (⟨rfl, _, rfl, hP0, hF0, by omega, by omega, by unfold kdF; rw [if_neg (fun q => by have := xh5.mpr q; omega), if_pos (xh14.mp (by omega))]⟩)
  · intro h50
    refine wk_c1 r240_9 ?_
    subst hQ; exact wk_iret r240_10 (⟨rfl, _, rfl, hP0, hF0, by omega, by omega, by unfold kdF; rw [if_pos (xh5.mp (by omega))]⟩)
def fm_m159_6v1 : Nat := 412316860416
/-- IslandHall$Parser.fail -/
theorem m159_6v1 {B : eB} (d : Nat) (M0 : Mm) (p1 : Int) (hP0 : Pw M0) (l1 : 1 ≤ p1) (u1 : p1 ≤ 3) : Ct B (d + 1) 159 [R 6, I p1] M0 (qI fun z M => Pw M ∧ Fr fm_m159_6v1 M0 M ∧ 0 ≤ z ∧ z ≤ 0 ∧ 0 ≤ M 6 4 + (-1)) := by
  refine ct_of (d := d + 0) (k := 0) (L := [some (R 6), some (I p1)]) rfl rfl rfl ?_
  have hF0 := Fr.rf fm_m159_6v1 M0
  generalize hQ : (qI fun z M => Pw M ∧ Fr fm_m159_6v1 M0 M ∧ 0 ≤ z ∧ z ≤ 0 ∧ 0 ≤ M 6 4 + (-1)) = Q
  refine wk_al0 r159_0 (wk_il1 r159_1 (wk_putfi81 r159_2 fd_6_4 (wk_nw g_6_4 rfl hP0 hF0 (uf_6_4 ⟨by omega, by omega⟩) ?_)))
  intro M1 hP2 hF3 e4
  refine wk_al0 r159_5 (wk_al0 r159_6 (wk_getfr r159_7 fd_6_0 (br_6_0 hP2) (wk_getfb r159_10 fd_9_3 (bf_9_3 hP2) ?_)))
  intro v5 h7 h8 e6
  refine wk_putfi81 r159_13 fd_6_5 (wk_nw g_6_5 rfl hP2 hF3 (uf_6_5 ⟨by omega, by omega⟩) ?_)
  intro M9 hP10 hF11 e12
  refine wk_c1 r159_16 ?_
  subst hQ; exact wk_zret r159_17 (by decide) (⟨rfl, _, rfl, hP10, hF11, by omega, by omega, by have := (mUp_no e12 (mUp_at e4) (Or.inr (by decide))); omega⟩)
def fm_m173_6 : Nat := 3941061990809600
/-- IslandHall$Parser.takeKind -/
theorem m173_6 {B : eB} (d : Nat) (M0 : Mm) (hP0 : Pw M0)  : Ct B (d + 4) 173 [R 6] M0 (qI fun z M => Pw M ∧ Fr fm_m173_6 M0 M ∧ (-1) ≤ z ∧ z ≤ 4 ∧ 0 ≤ z + M 6 4) := by
  refine ct_of (d := d + 3) (k := 1) (L := [some (R 6), none]) rfl rfl rfl ?_
  have hF0 := Fr.rf fm_m173_6 M0
  generalize hQ : (qI fun z M => Pw M ∧ Fr fm_m173_6 M0 M ∧ (-1) ≤ z ∧ z ≤ 4 ∧ 0 ≤ z + M 6 4) = Q
  refine wk_al0 r173_0 (wk_getfr r173_1 fd_6_0 (br_6_0 hP0) (wk_cv1 r173_4 kc_9_240 rfl (m240_9 _ M0 hP0) (cqI ?_)))
  rintro v6 M1 ⟨hP2, hQ3, h7, h8, xh5⟩
  obtain rfl := Fr.same hQ3
  refine wk_is1 r173_7 rfl (wk_il1 r173_8 (wk_c1 r173_9 ?_))
  refine wk_icne r173_10 ⟨by omega, by omega⟩ (by decide) ?_ ?_
  · intro h9
    refine wk_al0 r173_36 (wk_getfr r173_37 fd_6_0 (br_6_0 hP0) (wk_cv1 r173_40 kc_9_241 rfl (m241_9 _ M0 hP0) (cqV ?_)))
    rintro M10 ⟨hP11, hQ12⟩
    have hF13 : Fr fm_m173_6 M0 M10 := hF0.tr hQ12 rfl
    refine wk_il1 r173_43 ?_
    subst hQ; exact wk_iret r173_44 (⟨rfl, _, rfl, hP11, hF13, by omega, by omega, by have := (bf_6_4 hP11); omega⟩)
  · intro h14
    refine wk_al0 r173_13 (wk_al0 r173_14 (wk_getfr r173_15 fd_6_0 (br_6_0 hP0) (wk_getfb r173_18 fd_9_4 (bf_9_4 hP0) ?_)))
    intro v15 h17 h18 e16
    refine wk_c1 r173_21 ?_
    refine wk_icne r173_22 ⟨by omega, by omega⟩ (by decide) ?_ ?_
    · intro h19
      refine wk_c1 r173_29 (wk_cv2 r173_30 kc_6_159 rfl (m159_6 _ M0 1 hP0 (by decide) (by decide)) (cqI ?_))
      rintro v25 M20 ⟨hP21, hQ22, h26, h27, h24⟩
      have hF23 : Fr fm_m173_6 M0 M20 := hF0.tr hQ22 rfl
      obtain ⟨v28, e29⟩ : ∃ v, M20 6 4 = v := ⟨_, rfl⟩
      have h30 := bf_6_4 hP21; rw [e29] at h30
      refine wk_popi r173_33 (wk_c1 r173_34 ?_)
      subst hQ; exact wk_iret r173_35 (⟨rfl, _, rfl, hP21, hF23, by omega, by omega, by have := e29; omega⟩)
    · intro h31
      refine wk_c1 r173_25 (wk_goto r173_26 (wk_cv2 r173_30 kc_6_159 rfl (m159_6v1 _ M0 3 hP0 (by decide) (by decide)) (cqI ?_)))
      rintro v37 M32 ⟨hP33, hQ34, h38, h39, h36⟩
      have hF35 : Fr fm_m173_6 M0 M32 := hF0.tr hQ34 rfl
      obtain ⟨v40, e41⟩ : ∃ v, M32 6 4 = v := ⟨_, rfl⟩
      have h42 := bf_6_4 hP33; rw [e41] at h42
      refine wk_popi r173_33 (wk_c1 r173_34 ?_)
      subst hQ; exact wk_iret r173_35 (⟨rfl, _, rfl, hP33, hF35, by omega, by omega, by have := e41; omega⟩)
def fm_m238_9v1 : Nat := 0
/-- IslandHall$Tokens.isSign -/
theorem m238_9v1 {B : eB} (d : Nat) (M0 : Mm) (p1 : Int) (hP0 : Pw M0) (l1 : 40 ≤ p1) (u1 : p1 ≤ 60) : Ct B (d + 1) 238 [R 9, I p1] M0 (qI fun z M => Pw M ∧ Fr fm_m238_9v1 M0 M ∧ 0 ≤ z ∧ z ≤ 1) := by
  refine ct_of (d := d + 0) (k := 0) (L := [some (R 9), some (I p1)]) rfl rfl rfl ?_
  have hF0 := Fr.rf fm_m238_9v1 M0
  generalize hQ : (qI fun z M => Pw M ∧ Fr fm_m238_9v1 M0 M ∧ 0 ≤ z ∧ z ≤ 1) = Q
  refine wk_al0 r238_0 (wk_getfb r238_1 fd_9_4 (bf_9_4 hP0) ?_)
  intro v1 h3 h4 e2
  refine wk_c1 r238_4 ?_
  refine wk_icne r238_5 ⟨by omega, by omega⟩ (by decide) ?_ ?_
  · intro h5
    refine wk_c1 r238_36 ?_
    subst hQ; exact wk_zret r238_37 (by decide) (⟨rfl, _, rfl, hP0, hF0, by omega, by omega⟩)
  · intro h6
    refine wk_al0 r238_8 (wk_getfb r238_9 fd_9_3 (bf_9_3 hP0) ?_)
    intro v7 h9 h10 e8
    refine wk_al0 r238_12 (wk_getfb r238_13 fd_9_1 (bf_9_1 hP0) ?_)
    intro v11 h13 h14 e12
    refine wk_icge r238_16 ⟨by omega, by omega⟩ ⟨by omega, by omega⟩ ?_ ?_
    · intro h15
      refine wk_c1 r238_36 ?_
      subst hQ; exact wk_zret r238_37 (by decide) (⟨rfl, _, rfl, hP0, hF0, by omega, by omega⟩)
    · intro h16
      refine wk_al0 r238_19 (wk_getfr r238_20 fd_9_0 (br_9_0 hP0) (wk_al0 r238_23 (wk_getfi r238_24 fd_9_3 e8 (wk_baldb r238_27 ar_1 ⟨by omega, by omega⟩ (fun q0 q1 => ba_1 hP0 q0 q1) ?_))))
      intro v17 h19 h20 e18
      refine wk_il1 r238_28 ?_
      refine wk_icne r238_29 ⟨by omega, by omega⟩ ⟨by omega, by omega⟩ ?_ ?_
      · intro h21
        refine wk_c1 r238_36 ?_
        subst hQ; exact wk_zret r238_37 (by decide) (⟨rfl, _, rfl, hP0, hF0, by omega, by omega⟩)
      · intro h22
        refine wk_c1 r238_32 (wk_goto r238_33 ?_)
        subst hQ; exact wk_zret r238_37 (by decide) (⟨rfl, _, rfl, hP0, hF0, by omega, by omega⟩)
def fm_m238_9v2 : Nat := 0
/-- IslandHall$Tokens.isSign -/
theorem m238_9v2 {B : eB} (d : Nat) (M0 : Mm) (p1 : Int) (hP0 : Pw M0) (l1 : 40 ≤ p1) (u1 : p1 ≤ 62) : Ct B (d + 1) 238 [R 9, I p1] M0 (qI fun z M => Pw M ∧ Fr fm_m238_9v2 M0 M ∧ 0 ≤ z ∧ z ≤ 1) := by
  refine ct_of (d := d + 0) (k := 0) (L := [some (R 9), some (I p1)]) rfl rfl rfl ?_
  have hF0 := Fr.rf fm_m238_9v2 M0
  generalize hQ : (qI fun z M => Pw M ∧ Fr fm_m238_9v2 M0 M ∧ 0 ≤ z ∧ z ≤ 1) = Q
  refine wk_al0 r238_0 (wk_getfb r238_1 fd_9_4 (bf_9_4 hP0) ?_)
  intro v1 h3 h4 e2
  refine wk_c1 r238_4 ?_
  refine wk_icne r238_5 ⟨by omega, by omega⟩ (by decide) ?_ ?_
  · intro h5
    refine wk_c1 r238_36 ?_
    subst hQ; exact wk_zret r238_37 (by decide) (⟨rfl, _, rfl, hP0, hF0, by omega, by omega⟩)
  · intro h6
    refine wk_al0 r238_8 (wk_getfb r238_9 fd_9_3 (bf_9_3 hP0) ?_)
    intro v7 h9 h10 e8
    refine wk_al0 r238_12 (wk_getfb r238_13 fd_9_1 (bf_9_1 hP0) ?_)
    intro v11 h13 h14 e12
    refine wk_icge r238_16 ⟨by omega, by omega⟩ ⟨by omega, by omega⟩ ?_ ?_
    · intro h15
      refine wk_c1 r238_36 ?_
      subst hQ; exact wk_zret r238_37 (by decide) (⟨rfl, _, rfl, hP0, hF0, by omega, by omega⟩)
    · intro h16
      refine wk_al0 r238_19 (wk_getfr r238_20 fd_9_0 (br_9_0 hP0) (wk_al0 r238_23 (wk_getfi r238_24 fd_9_3 e8 (wk_baldb r238_27 ar_1 ⟨by omega, by omega⟩ (fun q0 q1 => ba_1 hP0 q0 q1) ?_))))
      intro v17 h19 h20 e18
      refine wk_il1 r238_28 ?_
      refine wk_icne r238_29 ⟨by omega, by omega⟩ ⟨by omega, by omega⟩ ?_ ?_
      · intro h21
        refine wk_c1 r238_36 ?_
        subst hQ; exact wk_zret r238_37 (by decide) (⟨rfl, _, rfl, hP0, hF0, by omega, by omega⟩)
      · intro h22
        refine wk_c1 r238_32 (wk_goto r238_33 ?_)
        subst hQ; exact wk_zret r238_37 (by decide) (⟨rfl, _, rfl, hP0, hF0, by omega, by omega⟩)
def fm_m244_9 : Nat := 0
/-- IslandHall$Tokens.value -/
theorem m244_9 {B : eB} (d : Nat) (M0 : Mm) (hP0 : Pw M0)  : Ct B (d + 1) 244 [R 9] M0 (qI fun z M => Pw M ∧ Fr fm_m244_9 M0 M ∧ (-2147483648) ≤ z ∧ z ≤ 2147483647) := by
  refine ct_of (d := d + 0) (k := 2) (L := [some (R 9), none, none]) rfl rfl rfl ?_
  have hF0 := Fr.rf fm_m244_9 M0
  generalize hQ : (qI fun z M => Pw M ∧ Fr fm_m244_9 M0 M ∧ (-2147483648) ≤ z ∧ z ≤ 2147483647) = Q
  refine wk_al0 r244_0 (wk_getfb r244_1 fd_9_2 (bf_9_2 hP0) ?_)
  intro v1 h3 h4 e2
  refine wk_al0 r244_4 (wk_getfb r244_5 fd_9_3 (bf_9_3 hP0) ?_)
  intro v5 h7 h8 e6
  refine wk_isub r244_8 (wk_c1 r244_9 ?_)
  refine wk_icle r244_10 ⟨by omega, by omega⟩ (by decide) ?_ ?_
  · intro h9
    refine wk_c1 r244_15 (wk_is1 r244_16 rfl (wk_al0 r244_17 (wk_getfi r244_18 fd_9_3 e6 (wk_is2 r244_21 rfl ?_))))
    have c22_76 : ∀ (k76 : Nat) (v56 : Int) (v59 : Int), (500 - v59).toNat = k76 → (-2147483648) ≤ v56 → v56 ≤ 2147483647 → 0 ≤ v59 → v59 ≤ 500 → Wp B (d + 0) 244 22 [some (R 9), some (I v56), some (I v59)] [] M0 Q := by
      refine lp_ind ?_
      intro k76 ih76 v56 v59 hk76 h57 h58 h60 h61
      refine wk_il2 r244_22 (wk_al0 r244_23 (wk_getfi r244_24 fd_9_2 e2 ?_))
      refine wk_icge r244_27 ⟨by omega, by omega⟩ ⟨by omega, by omega⟩ ?_ ?_
      · intro h62
        refine wk_il1 r244_51 ?_
        subst hQ; exact wk_iret r244_52 (⟨rfl, _, rfl, hP0, hF0, by omega, by omega⟩)
      · intro h63
        refine wk_c2 r244_30 (wk_il1 r244_32 (wk_imul r244_33 (wk_wrap ?_)))
        intro v64 h65 h66 h67
        refine wk_al0 r244_34 (wk_getfr r244_35 fd_9_0 (br_9_0 hP0) (wk_il2 r244_38 (wk_baldb r244_39 ar_1 ⟨by omega, by omega⟩ (fun q0 q1 => ba_1 hP0 q0 q1) ?_)))
        intro v68 h70 h71 e69
        refine wk_c2 r244_40 (wk_isub r244_42 (wk_iadd r244_43 (wk_wrap ?_)))
        intro v72 h73 h74 h75
        refine wk_is1 r244_44 rfl (wk_inc2 r244_45 rfl (wk_goto r244_48 ?_))
        exact wp_fg (le_s (le_s (le_s le_0))) (ih76 (500 - (v59 + 1)).toNat (by omega) v72 (v59 + 1) rfl (by omega) (by omega) (by omega) (by omega))
    exact wp_fg (le_s (le_s (le_s le_0))) (c22_76 _ 0 v5 rfl (by omega) (by omega) (by omega) (by omega))
  · intro h77
    refine wk_c1 r244_13 ?_
    subst hQ; exact wk_iret r244_14 (⟨rfl, _, rfl, hP0, hF0, by omega, by omega⟩)
def fm_m167_6 : Nat := 3941061990809600
/-- IslandHall$Parser.number -/
theorem m167_6 {B : eB} (d : Nat) (M0 : Mm) (p1 : Int) (p2 : Int) (hP0 : Pw M0) (l1 : 0 ≤ p1) (u1 : p1 ≤ 0) (l2 : 99 ≤ p2) (u2 : p2 ≤ 99) : Ct B (d + 3) 167 [R 6, I p1, I p2] M0 (qI fun z M => Pw M ∧ Fr fm_m167_6 M0 M ∧ (-1) ≤ z ∧ z ≤ 99 ∧ 0 ≤ z + M 6 4) := by
  refine ct_of (d := d + 2) (k := 1) (L := [some (R 6), some (I p1), some (I p2), none]) rfl rfl rfl ?_
  have hF0 := Fr.rf fm_m167_6 M0
  generalize hQ : (qI fun z M => Pw M ∧ Fr fm_m167_6 M0 M ∧ (-1) ≤ z ∧ z ≤ 99 ∧ 0 ≤ z + M 6 4) = Q
  refine wk_al0 r167_0 (wk_getfr r167_1 fd_6_0 (br_6_0 hP0) (wk_getfb r167_4 fd_9_4 (bf_9_4 hP0) ?_))
  intro v1 h3 h4 e2
  refine wk_c1 r167_7 ?_
  refine wk_iceq r167_8 ⟨by omega, by omega⟩ (by decide) ?_ ?_
  · intro h5
    refine wk_al0 r167_19 (wk_getfr r167_20 fd_6_0 (br_6_0 hP0) (wk_cv1 r167_23 kc_9_244 rfl (m244_9 _ M0 hP0) (cqI ?_)))
    rintro v10 M6 ⟨hP7, hQ8, h11, h12⟩
    obtain rfl := Fr.same hQ8
    refine wk_is3 r167_26 rfl (wk_il3 r167_27 (wk_il1 r167_28 ?_))
    refine wk_iclt r167_29 ⟨by omega, by omega⟩ ⟨by omega, by omega⟩ ?_ ?_
    · intro h13
      refine wk_al0 r167_37 (wk_c1 r167_38 (wk_cv2 r167_39 kc_6_159 rfl (m159_6v1 _ M0 2 hP0 (by decide) (by decide)) (cqI ?_)))
      rintro v19 M14 ⟨hP15, hQ16, h20, h21, h18⟩
      have hF17 : Fr fm_m167_6 M0 M14 := hF0.tr hQ16 rfl
      obtain ⟨v22, e23⟩ : ∃ v, M14 6 4 = v := ⟨_, rfl⟩
      have h24 := bf_6_4 hP15; rw [e23] at h24
      refine wk_popi r167_42 (wk_c1 r167_43 ?_)
      subst hQ; exact wk_iret r167_44 (⟨rfl, _, rfl, hP15, hF17, by omega, by omega, by have := e23; omega⟩)
    · intro h25
      refine wk_il3 r167_32 (wk_il2 r167_33 ?_)
      refine wk_icle r167_34 ⟨by omega, by omega⟩ ⟨by omega, by omega⟩ ?_ ?_
      · intro h26
        refine wk_al0 r167_45 (wk_getfr r167_46 fd_6_0 (br_6_0 hP0) (wk_cv1 r167_49 kc_9_241 rfl (m241_9 _ M0 hP0) (cqV ?_)))
        rintro M27 ⟨hP28, hQ29⟩
        have hF30 : Fr fm_m167_6 M0 M27 := hF0.tr hQ29 rfl
        refine wk_il3 r167_52 ?_
        subst hQ; exact wk_iret r167_53 (⟨rfl, _, rfl, hP28, hF30, by omega, by omega, by have := (bf_6_4 hP28); omega⟩)
      · intro h31
        refine wk_al0 r167_37 (wk_c1 r167_38 (wk_cv2 r167_39 kc_6_159 rfl (m159_6v1 _ M0 2 hP0 (by decide) (by decide)) (cqI ?_)))
        rintro v37 M32 ⟨hP33, hQ34, h38, h39, h36⟩
        have hF35 : Fr fm_m167_6 M0 M32 := hF0.tr hQ34 rfl
        obtain ⟨v40, e41⟩ : ∃ v, M32 6 4 = v := ⟨_, rfl⟩
        have h42 := bf_6_4 hP33; rw [e41] at h42
        refine wk_popi r167_42 (wk_c1 r167_43 ?_)
        subst hQ; exact wk_iret r167_44 (⟨rfl, _, rfl, hP33, hF35, by omega, by omega, by have := e41; omega⟩)
  · intro h43
    refine wk_al0 r167_11 (wk_c1 r167_12 (wk_cv2 r167_13 kc_6_159 rfl (m159_6 _ M0 1 hP0 (by decide) (by decide)) (cqI ?_)))
    rintro v49 M44 ⟨hP45, hQ46, h50, h51, h48⟩
    have hF47 : Fr fm_m167_6 M0 M44 := hF0.tr hQ46 rfl
    obtain ⟨v52, e53⟩ : ∃ v, M44 6 4 = v := ⟨_, rfl⟩
    have h54 := bf_6_4 hP45; rw [e53] at h54
    refine wk_popi r167_16 (wk_c1 r167_17 ?_)
    subst hQ; exact wk_iret r167_18 (⟨rfl, _, rfl, hP45, hF47, by omega, by omega, by have := e53; omega⟩)
def fm_m138 : Nat := 4831838208
/-- IslandHall$Code.add -/
theorem m138 {B : eB} (d : Nat) (M0 : Mm) (c0 : Int) (p1 : Int) (p2 : Int) (hP0 : Pw M0) (hC0 : isC c0) (l1 : 0 ≤ p1) (u1 : p1 ≤ 6) (l2 : 0 ≤ p2) (u2 : p2 ≤ 1279) (xp0 : stepok (p1 + 8 * p2)) : Ct B (d + 1) 138 [R c0, I p1, I p2] M0 (qV fun M => Pw M ∧ Fr fm_m138 M0 M) := by
  refine ct_of (d := d + 0) (k := 0) (L := [some (R c0), some (I p1), some (I p2)]) rfl rfl rfl ?_
  have hF0 := Fr.rf fm_m138 M0
  generalize hQ : (qV fun M => Pw M ∧ Fr fm_m138 M0 M) = Q
  refine wk_al0 r138_0 (wk_getfb r138_1 (fdC_1 hC0) (bC_1 hP0 hC0) ?_)
  intro v1 h3 h4 e2
  refine wk_al0 r138_4 (wk_getfr r138_5 (fdC_0 hC0) (bC_0 hP0 hC0) (wk_alen r138_8 (arC hC0) (by decide) ?_))
  refine wk_icge r138_9 ⟨by omega, by omega⟩ (by decide) ?_ ?_
  · intro h5
    subst hQ; exact wk_ret r138_36 (⟨rfl, hP0, hF0⟩)
  · intro h6
    refine wk_al0 r138_12 (wk_getfr r138_13 (fdC_0 hC0) (bC_0 hP0 hC0) (wk_al0 r138_16 (wk_getfi r138_17 (fdC_1 hC0) e2 (wk_il1 r138_20 (wk_il2 r138_21 (wk_c1 r138_22 (wk_ishlc r138_23 (by decide) pwl_3 (wk_iord 3 8 r138_24 (by decide) ⟨by omega, by omega⟩ ⟨by omega, by omega, by omega⟩ (wk_iast r138_25 (arC hC0) ⟨by omega, by omega⟩ (wk_nw (g_cs hC0 _) rfl hP0 hF0 (uaC hC0 (by unfold stepok at *; omega)) ?_))))))))))
    intro M7 hP8 hF9 e10
    refine wk_al0 r138_26 (wk_dupr r138_27 (wk_getfi r138_28 (fdC_1 hC0) (mUp_no e10 e2 (Or.inl (by omega))) (wk_c1 r138_31 (wk_iadd r138_32 (wk_putfi81 r138_33 (fdC_1 hC0) (wk_nw (g_c1 hC0) rfl hP8 hF9 (uC_1 hC0 ⟨by omega, by omega⟩) ?_))))))
    intro M11 hP12 hF13 e14
    subst hQ; exact wk_ret r138_36 (⟨rfl, hP12, hF13⟩)
def fm_m172_6 : Nat := 4831838208
/-- IslandHall$Parser.step -/
theorem m172_6 {B : eB} (d : Nat) (M0 : Mm) (p1 : Int) (p2 : Int) (hP0 : Pw M0) (l1 : 0 ≤ p1) (u1 : p1 ≤ 6) (l2 : 0 ≤ p2) (u2 : p2 ≤ 1279) (xp0 : stepok (p1 + 8 * p2)) : Ct B (d + 2) 172 [R 6, I p1, I p2] M0 (qI fun z M => Pw M ∧ Fr fm_m172_6 M0 M ∧ 1 ≤ z ∧ z ≤ 1) := by
  refine ct_of (d := d + 1) (k := 0) (L := [some (R 6), some (I p1), some (I p2)]) rfl rfl rfl ?_
  have hF0 := Fr.rf fm_m172_6 M0
  generalize hQ : (qI fun z M => Pw M ∧ Fr fm_m172_6 M0 M ∧ 1 ≤ z ∧ z ≤ 1) = Q
  refine wk_al0 r172_0 ?_
  obtain ⟨v1, e2⟩ : ∃ v, M0 6 2 = v := ⟨_, rfl⟩
  have hC3 : isC v1 := by have := pcE hP0; rw [e2] at this; exact this
  refine wk_getfr r172_1 fd_6_2 e2 (wk_il1 r172_4 (wk_il2 r172_5 (wk_cv3 r172_6 (kcC_138 hC3) rfl (m138 _ M0 v1 p1 p2 hP0 hC3 (by omega) (by omega) (by omega) (by omega) (by first | assumption | omega | (unfold stepok; omega))) (cqV ?_))))
  rintro M4 ⟨hP5, hQ6⟩
  have hF7 : Fr fm_m172_6 M0 M4 := hF0.tr hQ6 rfl
  refine wk_c1 r172_9 ?_
  subst hQ; exact wk_zret r172_10 (by decide) (⟨rfl, _, rfl, hP5, hF7, by omega, by omega⟩)
