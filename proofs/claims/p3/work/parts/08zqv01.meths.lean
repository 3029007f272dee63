/-! ===== written by program (wip/layer4) ===== -/
def fm_m7030_0 : Nat := 0
/-- IslandHall.needPerson -/
theorem m7030_0 {B : eB} (d : Nat) (M0 : Mm) (p1 : Int) (x2_1 : Int) (hP0 : Pw M0) (l1 : (-2147483648) ≤ p1) (u1 : p1 ≤ 2147483647) (ex2_1 : M0 2 1 = x2_1) (lx2_1 : 0 ≤ x2_1) (ux2_1 : x2_1 ≤ 7) : Ct B (d + 1) 30 [R 0, I p1] M0 (qX 0 (fun M => Pw M ∧ Fr (fm_m7030_0 ||| 1) M0 M ∧ M (-1) 0 = M0 (-1) 0 + 1 ∧ (M 0 11 = M0 0 11 ∧ (p1 < 0 ∨ x2_1 ≤ p1))) (qV fun M => Pw M ∧ Fr fm_m7030_0 M0 M ∧ 0 ≤ p1 ∧ 0 ≤ M 2 1 + (-1) * p1 + (-1))) := by
  refine ct_of (d := d + 0) (k := 0) (L := [some (R 0), some (I p1)]) rfl rfl rfl ?_
  have hF0 := Fr.rf fm_m7030_0 M0
  generalize hQ : (qX 0 (fun M => Pw M ∧ Fr (fm_m7030_0 ||| 1) M0 M ∧ M (-1) 0 = M0 (-1) 0 + 1 ∧ (M 0 11 = M0 0 11 ∧ (p1 < 0 ∨ x2_1 ≤ p1))) (qV fun M => Pw M ∧ Fr fm_m7030_0 M0 M ∧ 0 ≤ p1 ∧ 0 ≤ M 2 1 + (-1) * p1 + (-1))) = Q
  refine wk_il1 r30_0 ?_
  refine wk_iflt r30_1 ⟨by omega, by omega⟩ ?_ ?_
  · intro h1
    subst hQ; exact wk_thr112 r30_15 rfl (Or.inl ⟨rfl, hP0.thr, (Fr.thr hF0), (by rw [mUp_eq, hF0.at g_below rfl]), ⟨by rw [mUp_ne (Or.inl (by decide))], by omega⟩⟩)
  · intro h2
    refine wk_il1 r30_4 (wk_al0 r30_5 (wk_getfr r30_6 fd_0_2 (br_0_2 hP0) (wk_getfi r30_9 fd_2_1 ex2_1 ?_)))
    refine wk_iclt r30_12 ⟨by omega, by omega⟩ ⟨by omega, by omega⟩ ?_ ?_
    · intro h3
      subst hQ; exact wk_ret r30_26 (Or.inr ⟨rfl, hP0, hF0, by omega, by have := ex2_1; omega⟩)
    · intro h4
      subst hQ; exact wk_thr112 r30_15 rfl (Or.inl ⟨rfl, hP0.thr, (Fr.thr hF0), (by rw [mUp_eq, hF0.at g_below rfl]), ⟨by rw [mUp_ne (Or.inl (by decide))], by omega⟩⟩)
def fm_m7031_0 : Nat := 0
/-- IslandHall.needSentence -/
theorem m7031_0 {B : eB} (d : Nat) (M0 : Mm) (p1 : Int) (x0_9 : Int) (hP0 : Pw M0) (l1 : (-2147483648) ≤ p1) (u1 : p1 ≤ 2147483647) (ex0_9 : M0 0 9 = x0_9) (lx0_9 : 0 ≤ x0_9) (ux0_9 : x0_9 ≤ 30) : Ct B (d + 1) 31 [R 0, I p1] M0 (qX 0 (fun M => Pw M ∧ Fr (fm_m7031_0 ||| 1) M0 M ∧ M (-1) 0 = M0 (-1) 0 + 1 ∧ (M 0 11 = M0 0 11 ∧ (p1 < 0 ∨ x0_9 ≤ p1))) (qV fun M => Pw M ∧ Fr fm_m7031_0 M0 M ∧ 0 ≤ p1 ∧ 0 ≤ M 0 9 + (-1) * p1 + (-1))) := by
  refine ct_of (d := d + 0) (k := 0) (L := [some (R 0), some (I p1)]) rfl rfl rfl ?_
  have hF0 := Fr.rf fm_m7031_0 M0
  generalize hQ : (qX 0 (fun M => Pw M ∧ Fr (fm_m7031_0 ||| 1) M0 M ∧ M (-1) 0 = M0 (-1) 0 + 1 ∧ (M 0 11 = M0 0 11 ∧ (p1 < 0 ∨ x0_9 ≤ p1))) (qV fun M => Pw M ∧ Fr fm_m7031_0 M0 M ∧ 0 ≤ p1 ∧ 0 ≤ M 0 9 + (-1) * p1 + (-1))) = Q
  refine wk_il1 r31_0 ?_
  refine wk_iflt r31_1 ⟨by omega, by omega⟩ ?_ ?_
  · intro h1
    subst hQ; exact wk_thr112 r31_12 rfl (Or.inl ⟨rfl, hP0.thr, (Fr.thr hF0), (by rw [mUp_eq, hF0.at g_below rfl]), ⟨by rw [mUp_ne (Or.inl (by decide))], by omega⟩⟩)
  · intro h2
    refine wk_il1 r31_4 (wk_al0 r31_5 (wk_getfi r31_6 fd_0_9 ex0_9 ?_))
    refine wk_iclt r31_9 ⟨by omega, by omega⟩ ⟨by omega, by omega⟩ ?_ ?_
    · intro h3
      subst hQ; exact wk_ret r31_23 (Or.inr ⟨rfl, hP0, hF0, by omega, by have := ex0_9; omega⟩)
    · intro h4
      subst hQ; exact wk_thr112 r31_12 rfl (Or.inl ⟨rfl, hP0.thr, (Fr.thr hF0), (by rw [mUp_eq, hF0.at g_below rfl]), ⟨by rw [mUp_ne (Or.inl (by decide))], by omega⟩⟩)
def fm_m7034_0 : Nat := 309485009821345068724785152
/-- IslandHall.question -/
theorem m7034_0 {B : eB} (d : Nat) (M0 : Mm) (p1 : Int) (p2 : Int) (x2_1 : Int) (x0_9 : Int) (x0_11 : Int) (hP0 : Pw M0) (l1 : (-2147483648) ≤ p1) (u1 : p1 ≤ 2147483647) (l2 : (-2147483648) ≤ p2) (u2 : p2 ≤ 2147483647) (ex2_1 : M0 2 1 = x2_1) (lx2_1 : 0 ≤ x2_1) (ux2_1 : x2_1 ≤ 7) (ex0_9 : M0 0 9 = x0_9) (lx0_9 : 0 ≤ x0_9) (ux0_9 : x0_9 ≤ 30) (ex0_11 : M0 0 11 = x0_11) (lx0_11 : 0 ≤ x0_11) (ux0_11 : x0_11 ≤ 10) : Ct B (d + 2) 34 [R 0, I p1, I p2] M0 (qX 0 (fun M => Pw M ∧ Fr (fm_m7034_0 ||| 1) M0 M ∧ M (-1) 0 = M0 (-1) 0 + 1 ∧ (M 0 11 = x0_11 ∧ (p1 < 0 ∨ x2_1 ≤ p1 ∨ p2 < 0 ∨ x0_9 ≤ p2))) (qI fun z M => Pw M ∧ Fr fm_m7034_0 M0 M ∧ (-1) ≤ z ∧ z ≤ 9 ∧ (QNR p1 p2 x2_1 x0_9 x0_11 0 z (M 0 11)))) := by
  refine ct_of (d := d + 1) (k := 0) (L := [some (R 0), some (I p1), some (I p2)]) rfl rfl rfl ?_
  have hF0 := Fr.rf fm_m7034_0 M0
  generalize hQ : (qX 0 (fun M => Pw M ∧ Fr (fm_m7034_0 ||| 1) M0 M ∧ M (-1) 0 = M0 (-1) 0 + 1 ∧ (M 0 11 = x0_11 ∧ (p1 < 0 ∨ x2_1 ≤ p1 ∨ p2 < 0 ∨ x0_9 ≤ p2))) (qI fun z M => Pw M ∧ Fr fm_m7034_0 M0 M ∧ (-1) ≤ z ∧ z ≤ 9 ∧ (QNR p1 p2 x2_1 x0_9 x0_11 0 z (M 0 11)))) = Q
  refine wk_al0 r34_0 (wk_il1 r34_1 (wk_cv2 r34_2 kc_0_30 rfl (m7030_0 _ M0 p1 x2_1 hP0 (by first | with_reducible assumption | omega) (by first | with_reducible assumption | omega) ex2_1 (by first | with_reducible assumption | omega) (by first | with_reducible assumption | omega)) (cqX (fun _ _ x5 => by subst hQ; exact Or.inl ⟨rfl, x5.1, Fr.trx hF0 x5.2.1 rfl, (by rw [x5.2.2.1, hF0.at g_below rfl]), ⟨x5.2.2.2.1.trans ex0_11, by have := x5.2.2.2.2; omega⟩⟩) (cqV ?_))))
  rintro M1 ⟨hP2, hQ3, h8, h9⟩
  obtain rfl := Fr.same hQ3
  have e10 := ex2_1
  refine wk_al0 r34_5 (wk_il2 r34_6 (wk_cv2 r34_7 kc_0_31 rfl (m7031_0 _ M0 p2 x0_9 hP0 (by first | with_reducible assumption | omega) (by first | with_reducible assumption | omega) ex0_9 (by first | with_reducible assumption | omega) (by first | with_reducible assumption | omega)) (cqX (fun _ _ x15 => by subst hQ; exact Or.inl ⟨rfl, x15.1, Fr.trx hF0 x15.2.1 rfl, (by rw [x15.2.2.1, hF0.at g_below rfl]), ⟨x15.2.2.2.1.trans ex0_11, by have := x15.2.2.2.2; omega⟩⟩) (cqV ?_))))
  rintro M11 ⟨hP12, hQ13, h18, h19⟩
  obtain rfl := Fr.same hQ13
  have e20 := ex0_9
  refine wk_al0 r34_10 (wk_getfi r34_11 fd_0_11 ex0_11 (wk_c2 r34_14 ?_))
  refine wk_iclt r34_16 ⟨by omega, by omega⟩ (by decide) ?_ ?_
  · intro h21
    refine wk_al0 r34_21 (wk_getfr r34_22 fd_0_10 (br_0_10 hP0) (wk_al0 r34_25 (wk_getfi r34_26 fd_0_11 ex0_11 (wk_c2 r34_29 (wk_il1 r34_31 (wk_imul r34_32 (wk_il2 r34_33 (wk_iadd r34_34 (wk_iast r34_35 ar_169 ⟨by omega, by omega⟩ (wk_nw (ga_169 _) rfl hP0 hF0 (ua_169 ⟨by omega, by omega⟩) ?_))))))))))
    intro M22 hP23 hF24 e25
    refine wk_al0 r34_36 (wk_dupr r34_37 (wk_getfi r34_38 fd_0_11 (mUp_no e25 ex0_11 (Or.inl (by decide))) (wk_c1 r34_41 (wk_iadd r34_42 (wk_putfi81 r34_43 fd_0_11 (wk_nw g_0_11 rfl hP23 hF24 (uf_0_11 ⟨by omega, by omega⟩) ?_))))))
    intro M26 hP27 hF28 e29
    refine wk_al0 r34_46 (wk_getfi r34_47 fd_0_11 (mUp_at e29) (wk_c1 r34_50 (wk_isub r34_51 ?_)))
    subst hQ; exact wk_iret r34_52 (Or.inr ⟨rfl, _, rfl, hP27, hF28, by omega, by omega, by rw [(mUp_at e29)]; unfold QNR; omega⟩)
  · intro h30
    refine wk_c1 r34_19 ?_
    subst hQ; exact wk_iret r34_20 (Or.inr ⟨rfl, _, rfl, hP0, hF0, by omega, by omega, by rw [ex0_11]; unfold QNR; omega⟩)
def fm_m7017_0 : Nat := 0
/-- IslandHall.fault -/
theorem m7017_0 {B : eB} (d : Nat) (M0 : Mm) (x0_5 : Int) (hP0 : Pw M0) (ex0_5 : M0 0 5 = x0_5) (lx0_5 : (-1) ≤ x0_5) (ux0_5 : x0_5 ≤ 500) : Ct B (d + 1) 17 [R 0] M0 (qI fun z M => Pw M ∧ Fr fm_m7017_0 M0 M ∧ (-1) ≤ z ∧ z ≤ 500 ∧ (z = x0_5) ∧ (M = M0)) := by
  refine ct_of (d := d + 0) (k := 0) (L := [some (R 0)]) rfl rfl rfl ?_
  have hF0 := Fr.rf fm_m7017_0 M0
  generalize hQ : (qI fun z M => Pw M ∧ Fr fm_m7017_0 M0 M ∧ (-1) ≤ z ∧ z ≤ 500 ∧ (z = x0_5) ∧ (M = M0)) = Q
  refine wk_al0 r17_0 (wk_getfi r17_1 fd_0_5 ex0_5 ?_)
  subst hQ; exact wk_iret r17_4 (⟨rfl, _, rfl, hP0, hF0, by omega, by omega, by omega, rfl⟩)
