
def fm_n7022_0 : Nat := 49152
/-- IslandHall.hide -/
theorem n7022_0 {B : eB} (d : Nat) (M0 : Mm) (p1 : Int) (p2 : Int) (x138_5 : Int) (x10_9 : Int) (hP0 : Pw M0) (l1 : (-2147483648) ≤ p1) (u1 : p1 ≤ 2147483647) (l2 : (-2147483648) ≤ p2) (u2 : p2 ≤ 2147483647) (ex138_5 : M0 138 5 = x138_5) (lx138_5 : 0 ≤ x138_5) (ux138_5 : x138_5 ≤ 12) (ex10_9 : M0 10 9 = x10_9) (lx10_9 : 0 ≤ x10_9) (ux10_9 : x10_9 ≤ 3000) : Ct B (d + 3) 22 [R 0, I p1, I p2] M0 (qI fun z M => Pw M ∧ Fr fm_n7022_0 M0 M ∧ 0 ≤ z ∧ z ≤ 1 ∧ ((z = 0 ∧ PCK (fun i => tbI M0 (155 + x138_5) i) x10_9 p1 (-1) ∧ ∀ a i : Int, M a i = M0 a i) ∨ (z = 1 ∧ PCK (fun i => tbI M0 (155 + x138_5) i) x10_9 p1 (M 0 13) ∧ M 0 13 ≠ -1 ∧ M 0 14 = p2 ∧ ∀ a i : Int, a ≠ 0 ∨ (i ≠ 13 ∧ i ≠ 14) → M a i = M0 a i))) := by
  refine ct_of (d := d + 2) (k := 1) (L := [some (R 0), some (I p1), some (I p2), none]) rfl rfl rfl ?_
  have hF0 := Fr.rf fm_n7022_0 M0
  generalize hQ : (qI fun z M => Pw M ∧ Fr fm_n7022_0 M0 M ∧ 0 ≤ z ∧ z ≤ 1 ∧ ((z = 0 ∧ PCK (fun i => tbI M0 (155 + x138_5) i) x10_9 p1 (-1) ∧ ∀ a i : Int, M a i = M0 a i) ∨ (z = 1 ∧ PCK (fun i => tbI M0 (155 + x138_5) i) x10_9 p1 (M 0 13) ∧ M 0 13 ≠ -1 ∧ M 0 14 = p2 ∧ ∀ a i : Int, a ≠ 0 ∨ (i ≠ 13 ∧ i ≠ 14) → M a i = M0 a i))) = Q
  refine wk_al0 r22_0 (wk_getfr r22_1 fd_0_6 (br_0_6 hP0) (wk_al0 r22_4 (wk_getfr r22_5 fd_0_7 (br_0_7 hP0) (wk_cv1 r22_8 kc_138_229 rfl (n7229_138 _ M0 x138_5 hP0 ex138_5 (by first | with_reducible assumption | omega) (by first | with_reducible assumption | omega)) (cqR ?_)))))
  rintro v6 M1 ⟨hP2, hQ3, h7, h8, xh5⟩
  obtain rfl := Fr.same hQ3
  refine wk_il1 r22_11 (wk_cv3 r22_12 kc_10_201 rfl (n7201_10_f155 _ M0 v6 p1 x10_9 hP0 (by omega) (by omega) (by first | with_reducible assumption | omega) (by first | with_reducible assumption | omega) ex10_9 (by first | with_reducible assumption | omega) (by first | with_reducible assumption | omega)) (cqI ?_))
  rintro v14 M9 ⟨hP10, hQ11, h15, h16, xh13⟩
  obtain rfl := Fr.same hQ11
  refine wk_is3 r22_15 rfl (wk_il3 r22_16 (wk_c1 r22_17 ?_))
  refine wk_icne r22_18 ⟨by omega, by omega⟩ (by decide) ?_ ?_
  · intro h17
    refine wk_al0 r22_23 (wk_il3 r22_24 (wk_putfi81 r22_25 fd_0_13 (wk_nw g_0_13 rfl hP0 hF0 (uf_0_13 ⟨by omega, by omega⟩) ?_)))
    intro M18 hP19 hF20 e21
    refine wk_al0 r22_28 (wk_il2 r22_29 (wk_putfi81 r22_30 fd_0_14 (wk_nw g_0_14 rfl hP19 hF20 (uf_0_14 ⟨by omega, by omega⟩) ?_)))
    intro M22 hP23 hF24 e25
    refine wk_c1 r22_33 ?_
    subst hQ; exact wk_zret r22_34 (by decide) (⟨rfl, _, rfl, hP23, hF24, by omega, by omega, Or.inr ⟨by omega, by have q9 := xh13; rw [show v6 = 155 + x138_5 by omega] at q9; rw [(mUp_no e25 (mUp_at e21) (Or.inr (by decide)))]; exact q9, by have := (mUp_no e25 (mUp_at e21) (Or.inr (by decide))); omega, by have := (mUp_at e25); omega, fun a i q => by rw [e25, mUp_ne (by omega), e21, mUp_ne (by omega)]⟩⟩)
  · intro h26
    refine wk_c1 r22_21 ?_
    subst hQ; exact wk_zret r22_22 (by decide) (⟨rfl, _, rfl, hP0, hF0, by omega, by omega, Or.inl ⟨by omega, by have q9 := xh13; rw [show v6 = 155 + x138_5 by omega, show v14 = -1 by omega] at q9; exact q9, fun a i => rfl⟩⟩)
def fm_n7217_170 : Nat := 9903520314283042199192993792
/-- IslandHall$Subsets.forget -/
theorem n7217_170 {B : eB} (d : Nat) (M0 : Mm) (hP0 : Pw M0)  : Ct B (d + 1) 217 [R 170] M0 (qV fun M => Pw M ∧ Fr fm_n7217_170 M0 M ∧ (∀ a i : Int, a ≠ 170 → M a i = M0 a i)) := by
  refine ct_of (d := d + 0) (k := 0) (L := [some (R 170)]) rfl rfl rfl ?_
  have hF0 := Fr.rf fm_n7217_170 M0
  generalize hQ : (qV fun M => Pw M ∧ Fr fm_n7217_170 M0 M ∧ (∀ a i : Int, a ≠ 170 → M a i = M0 a i)) = Q
  refine wk_al0 r217_0 (wk_c1 r217_1 (wk_putfz81 r217_2 fd_170_4 (by decide) (wk_nw g_170_4 rfl hP0 hF0 (uf_170_4 (by decide)) ?_)))
  intro M1 hP2 hF3 e4
  subst hQ; exact wk_ret r217_5 (⟨rfl, hP2, hF3, fun a i q => by rw [e4, mUp_ne (Or.inl q)]⟩)
def fm_n7012_0 : Nat := 9904733971692511734867689472
/-- IslandHall.back -/
theorem n7012_0 {B : eB} (d : Nat) (M0 : Mm) (x138_5 : Int) (hP0 : Pw M0) (ex138_5 : M0 138 5 = x138_5) (lx138_5 : 0 ≤ x138_5) (ux138_5 : x138_5 ≤ 12) : Ct B (d + 3) 12 [R 0] M0 (qI fun z M => Pw M ∧ Fr fm_n7012_0 M0 M ∧ (-1) ≤ z ∧ z ≤ 12 ∧ ((x138_5 = 0 ∧ z = -1 ∧ ∀ a i : Int, M a i = M0 a i) ∨ (x138_5 ≠ 0 ∧ z = x138_5 - 1 ∧ M 138 5 = x138_5 - 1 ∧ (∀ k : Int, M 11 k = if k = M0 139 (x138_5 - 1) then 1 - M0 11 k else M0 11 k) ∧ (∀ j : Int, M (118 + x138_5) j = 0) ∧ ∀ a i : Int, a ≠ 138 → a ≠ 11 → a ≠ 118 + x138_5 → a ≠ 170 → M a i = M0 a i))) := by
  refine ct_of (d := d + 2) (k := 0) (L := [some (R 0)]) rfl rfl rfl ?_
  have hF0 := Fr.rf fm_n7012_0 M0
  generalize hQ : (qI fun z M => Pw M ∧ Fr fm_n7012_0 M0 M ∧ (-1) ≤ z ∧ z ≤ 12 ∧ ((x138_5 = 0 ∧ z = -1 ∧ ∀ a i : Int, M a i = M0 a i) ∨ (x138_5 ≠ 0 ∧ z = x138_5 - 1 ∧ M 138 5 = x138_5 - 1 ∧ (∀ k : Int, M 11 k = if k = M0 139 (x138_5 - 1) then 1 - M0 11 k else M0 11 k) ∧ (∀ j : Int, M (118 + x138_5) j = 0) ∧ ∀ a i : Int, a ≠ 138 → a ≠ 11 → a ≠ 118 + x138_5 → a ≠ 170 → M a i = M0 a i))) = Q
  refine wk_al0 r12_0 (wk_getfr r12_1 fd_0_7 (br_0_7 hP0) (wk_getfi r12_4 fd_138_5 ex138_5 ?_))
  refine wk_ifne r12_7 ⟨by omega, by omega⟩ ?_ ?_
  · intro h1
    refine wk_al0 r12_12 (wk_getfr r12_13 fd_0_12 (br_0_12 hP0) (wk_cv1 r12_16 kc_170_217 rfl (n7217_170 _ M0 hP0) (cqV ?_)))
    rintro M2 ⟨hP3, hQ4, xh6⟩
    have hF5 : Fr fm_n7012_0 M0 M2 := hF0.tr hQ4 rfl
    refine wk_al0 r12_19 (wk_getfr r12_20 fd_0_7 (br_0_7 hP3) (wk_cv1 r12_23 kc_138_227 rfl (n7227_138 _ M2 x138_5 hP3 ((hQ4.at g_138_5 rfl).trans ex138_5) (by first | with_reducible assumption | omega) (by first | with_reducible assumption | omega)) (cqV ?_)))
    rintro M7 ⟨hP8, hQ9, xh11⟩
    have hF10 : Fr fm_n7012_0 M0 M7 := hF5.tr hQ9 rfl
    refine wk_al0 r12_26 (wk_getfr r12_27 fd_0_7 (br_0_7 hP8) (wk_getfb r12_30 fd_138_5 (bf_138_5 hP8) ?_))
    intro v12 h14 h15 e13
    subst hQ; exact wk_iret r12_33 (⟨rfl, _, rfl, hP8, hF10, by omega, by omega, by rcases xh11 with ⟨q1, -⟩ | ⟨q1, q2, q3, q4, q5⟩; (omega); exact Or.inr ⟨by omega, by omega, by omega, fun k => by rw [q3 k, xh6 11 k (by decide), xh6 139 _ (by decide)], q4, fun a i b1 b2 b3 b4 => by rw [q5 a i b1 b2 b3, xh6 a i b4]⟩⟩)
  · intro h16
    refine wk_c1 r12_10 ?_
    subst hQ; exact wk_iret r12_11 (⟨rfl, _, rfl, hP0, hF0, by omega, by omega, Or.inl ⟨by omega, by omega, fun a i => rfl⟩⟩)
def fm_n7035_0 : Nat := 10003865907347655400903147520
/-- IslandHall.record -/
theorem n7035_0 {B : eB} (d : Nat) (M0 : Mm) (p1 : Int) (p2 : Int) (p3 : Int) (x138_5 : Int) (x10_10 : Int) (hP0 : Pw M0) (l1 : 0 ≤ p1) (u1 : p1 ≤ 6) (l2 : 0 ≤ p2) (u2 : p2 ≤ 29) (l3 : (-1) ≤ p3) (u3 : p3 ≤ 1) (ex138_5 : M0 138 5 = x138_5) (lx138_5 : 0 ≤ x138_5) (ux138_5 : x138_5 ≤ 12) (ex10_10 : M0 10 10 = x10_10) (lx10_10 : 0 ≤ x10_10) (ux10_10 : x10_10 ≤ 47) (xp0 : okH 30 (CL M0 (679 + 2 * p2)) 0) : Ct B (d + 6) 35 [R 0, I p1, I p2, I p3] M0 (qI fun z M => Pw M ∧ Fr fm_n7035_0 M0 M ∧ (-1) ≤ z ∧ z ≤ 11 ∧ ((x138_5 = 12 ∧ z = -1 ∧ ∀ a i : Int, M a i = M0 a i) ∨ (x138_5 < 12 ∧ z = x138_5 ∧ RECP M0 M p1 (679 + 2 * p2) p3 x138_5 x10_10))) := by
  refine ct_of (d := d + 5) (k := 0) (L := [some (R 0), some (I p1), some (I p2), some (I p3)]) rfl rfl rfl ?_
  have hF0 := Fr.rf fm_n7035_0 M0
  generalize hQ : (qI fun z M => Pw M ∧ Fr fm_n7035_0 M0 M ∧ (-1) ≤ z ∧ z ≤ 11 ∧ ((x138_5 = 12 ∧ z = -1 ∧ ∀ a i : Int, M a i = M0 a i) ∨ (x138_5 < 12 ∧ z = x138_5 ∧ RECP M0 M p1 (679 + 2 * p2) p3 x138_5 x10_10))) = Q
  have hC9 : isC (679 + 2 * p2) := Or.inr (by omega)
  have hst9 : ∀ x ∈ CL M0 (679 + 2 * p2), stepok x := CL_st hP0 hC9 (bC_1 hP0 hC9).2
  refine wk_al0 r35_0 (wk_getfr r35_1 fd_0_7 (br_0_7 hP0) (wk_getfi r35_4 fd_138_5 ex138_5 (wk_c2 r35_7 ?_)))
  refine wk_iclt r35_9 ⟨by omega, by omega⟩ (by decide) ?_ ?_
  · intro h1
    refine wk_al0 r35_14 (wk_getfr r35_15 fd_0_12 (br_0_12 hP0) (wk_cv1 r35_18 kc_170_217 rfl (n7217_170 _ M0 hP0) (cqV ?_)))
    rintro M2 ⟨hP3, hQ4, xh6⟩
    have hF5 : Fr fm_n7035_0 M0 M2 := hF0.tr hQ4 rfl
    refine wk_al0 r35_21 (wk_getfr r35_22 fd_0_7 (br_0_7 hP3) (wk_il1 r35_25 (wk_al0 r35_26 (wk_getfr r35_27 fd_0_8 (br_0_8 hP3) (wk_il2 r35_30 (wk_caldb r35_31 ar_168 ⟨by omega, by omega⟩ (fun q0 q1 => ba_168 hP3 q0 q1) ?_))))))
    intro v7 e8
    have hC9 : isC v7 := Or.inr (by omega)
    refine wk_il3 r35_32 (wk_cv4 r35_33 kc_138_224 rfl (n7224_138 _ M2 p1 v7 p3 x138_5 x10_10 hP3 (by first | with_reducible assumption | omega) (by first | with_reducible assumption | omega) hC9 (by first | with_reducible assumption | omega) (by first | with_reducible assumption | omega) ((hQ4.at g_138_5 rfl).trans ex138_5) (by first | with_reducible assumption | omega) (by first | with_reducible assumption | omega) ((hQ4.at g_10_10 rfl).trans ex10_10) (by first | with_reducible assumption | omega) (by first | with_reducible assumption | omega) (by rw [CL_cg (xh6 _ _ (by omega)) (fun k => xh6 _ _ (by omega)), (show v7 = 679 + 2 * p2 by omega)]; exact xp0)) (cqI ?_))
    rintro v16 M10 ⟨hP11, hQ12, h17, h18, xh14, xh15⟩
    have hF13 : Fr fm_n7035_0 M0 M10 := hF5.tr hQ12 rfl
    subst hQ; exact wk_iret r35_36 (⟨rfl, _, rfl, hP11, hF13, by omega, by omega, by obtain ⟨q1, q2, q3, q4, q5⟩ := xh15; exact Or.inr ⟨by omega, by omega, by omega, fun k => by rw [q2 k, xh6 139 k (by decide)], fun k => by rw [q3 k, xh6 11 k (by decide)], fun j b x a0 a1 hb hx => by have q6 := q4 j b x a0 (by omega) hb (by rw [(show CL M2 v7 = CL M0 (679 + 2 * p2) by rw [CL_cg (xh6 _ _ (by omega)) (fun k => xh6 _ _ (by omega)), (show v7 = 679 + 2 * p2 by omega)]), (show runF (stV M2 17 11 j b) (CL M0 (679 + 2 * p2)) [] = runF (stV M0 17 11 j b) (CL M0 (679 + 2 * p2)) [] from run_cg hst9 (fun r a b => xh6 _ _ (by omega)) (fun i a b => xh6 _ _ (by decide)) (fun i a b => ba_11 hP0 a (by omega)))]; exact hx); rw [ft_cg (M2 := M2) (M := M0) (fun r a b c => xh6 _ _ (by omega)) (xh6 11 _ (by decide)) (by omega) (by omega) (ba_11 hP0 (by omega) (by omega)) (by omega), tb_eq (xh6 (155 + x138_5) j (by omega))] at q6; exact q6, fun a i _ b1 b2 b3 b4 b5 b6 b7 b8 => by rw [q5 a i b1 b2 b3 b4 b5 b6 b7, xh6 a i b8]⟩⟩)
  · intro h19
    refine wk_c1 r35_12 ?_
    subst hQ; exact wk_iret r35_13 (⟨rfl, _, rfl, hP0, hF0, by omega, by omega, Or.inl ⟨by omega, by omega, fun a i => rfl⟩⟩)
def fm_n7021_0 : Nat := 18446744073709584384
/-- IslandHall.hiddenWord -/
theorem n7021_0 {B : eB} (d : Nat) (M0 : Mm) (p1 : Int) (c2 : Int) (x0_13 : Int) (x0_14 : Int) (hP0 : Pw M0) (l1 : 0 ≤ p1) (u1 : p1 ≤ 6) (hC2 : isC c2) (ex0_13 : M0 0 13 = x0_13) (lx0_13 : 0 ≤ x0_13) (ux0_13 : x0_13 ≤ 2999) (ex0_14 : M0 0 14 = x0_14) (lx0_14 : (-2147483648) ≤ x0_14) (ux0_14 : x0_14 ≤ 2147483647) (xp0 : okH 30 (CL M0 c2) 0) : Ct B (d + 4) 21 [R 0, I p1, R c2] M0 (qI fun z M => Pw M ∧ Fr fm_n7021_0 M0 M ∧ 0 ≤ z ∧ z ≤ 1 ∧ ((kdC (cdX (M0 136 x0_13) p1) = 4 ∧ M 0 14 = SDN x0_14 ∧ z = M 0 14 / 65536 % 2) ∨ (kdC (cdX (M0 136 x0_13) p1) ≠ 4 ∧ M 0 14 = x0_14 ∧ ∀ x : Bool, runF (stV M0 17 11 (x0_13 / 64) (x0_13 % 64).toNat) (CL M0 c2) [] = [x] → z = 1 - b2i (ftV M0 17 11 p1 0 (x0_13 / 64) x (x0_13 % 64).toNat))) ∧ (∀ a i : Int, a ≠ 12 → (a ≠ 0 ∨ i ≠ 14) → M a i = M0 a i)) := by
  refine ct_of (d := d + 3) (k := 3) (L := [some (R 0), some (I p1), some (R c2), none, none, none]) rfl rfl rfl ?_
  have hF0 := Fr.rf fm_n7021_0 M0
  generalize hQ : (qI fun z M => Pw M ∧ Fr fm_n7021_0 M0 M ∧ 0 ≤ z ∧ z ≤ 1 ∧ ((kdC (cdX (M0 136 x0_13) p1) = 4 ∧ M 0 14 = SDN x0_14 ∧ z = M 0 14 / 65536 % 2) ∨ (kdC (cdX (M0 136 x0_13) p1) ≠ 4 ∧ M 0 14 = x0_14 ∧ ∀ x : Bool, runF (stV M0 17 11 (x0_13 / 64) (x0_13 % 64).toNat) (CL M0 c2) [] = [x] → z = 1 - b2i (ftV M0 17 11 p1 0 (x0_13 / 64) x (x0_13 % 64).toNat))) ∧ (∀ a i : Int, a ≠ 12 → (a ≠ 0 ∨ i ≠ 14) → M a i = M0 a i)) = Q
  refine wk_al0 r21_0 (wk_getfr r21_1 fd_0_6 (br_0_6 hP0) (wk_al0 r21_4 (wk_getfi r21_5 fd_0_13 ex0_13 (wk_il1 r21_8 (wk_cv3 r21_9 kc_10_197 rfl (n7197_10 _ M0 x0_13 p1 hP0 (by first | with_reducible assumption | omega) (by first | with_reducible assumption | omega) (by first | with_reducible assumption | omega) (by first | with_reducible assumption | omega)) (cqI ?_))))))
  rintro v6 M1 ⟨hP2, hQ3, h7, h8, xh5⟩
  obtain rfl := Fr.same hQ3
  refine wk_c1 r21_12 ?_
  refine wk_icne r21_13 ⟨by omega, by omega⟩ (by decide) ?_ ?_
  · intro h9
    refine wk_al0 r21_42 (wk_getfi r21_43 fd_0_13 ex0_13 (wk_c2 r21_46 (wk_ishrc r21_48 ⟨by omega, by omega⟩ (by decide) pwl_6 (wk_is3 r21_49 rfl (wk_al0 r21_50 (wk_getfr r21_51 fd_0_6 (br_0_6 hP0) (wk_il1 r21_54 (wk_c1 r21_55 (wk_al0 r21_56 (wk_getfr r21_57 fd_0_6 (br_0_6 hP0) (wk_al2 r21_60 (wk_il3 r21_61 (wk_cv3 r21_62 kc_10_207 rfl (n7207_10 _ M0 c2 (x0_13 / 64) hP0 hC2 (by first | with_reducible assumption | omega) (by first | with_reducible assumption | omega) (xp0)) (cqL ?_))))))))))))))
    rintro n17 M11 ⟨hP12, hQ13, h18, xh15, xh16⟩
    have hF14 : Fr fm_n7021_0 M0 M11 := hF0.tr hQ13 rfl
    refine wk_il3 r21_65 (wk_cv5 r21_66 kc_10_189 rfl (n7189_10v9 _ M11 p1 0 n17 (x0_13 / 64) hP12 (by first | with_reducible assumption | omega) (by first | with_reducible assumption | omega) (by decide) (by decide) (by omega) (by first | with_reducible assumption | omega) (by first | with_reducible assumption | omega)) (cqL ?_))
    rintro n24 M19 ⟨hP20, hQ21, h25, xh23⟩
    obtain rfl := Fr.same hQ21
    refine wk_ls4 r21_69 rfl (wk_ll4 r21_71 (wk_al0 r21_73 (wk_getfi r21_74 fd_0_13 ((hQ13.at g_0_13 rfl).trans ex0_13) (wk_c2 r21_77 (wk_iandc 6 64 r21_79 ⟨rfl, by decide⟩ rfl (wk_lushrb r21_80 (by omega) ⟨by omega, by omega⟩ ?_))))))
    intro n26 h27 h28
    refine wk_c6 r21_81 (wk_land r21_82 ?_)
    intro n29 h30 h31 h32 h33
    refine wk_c6 r21_83 ?_
    refine wk_lcmp r21_84 (by omega) (by omega) ?_ ?_
    · intro h34
      refine wk_ifne r21_85 (by decide) ?_ ?_
      · intro h40
        exfalso
        omega
      · intro h41
        refine wk_c1 r21_88 (wk_goto r21_89 ?_)
        subst hQ; exact wk_iret r21_93 (⟨rfl, _, rfl, hP12, hF14, by omega, by omega, Or.inr ⟨by rw [← xh5]; omega, by have := ((hQ13.at g_0_14 rfl).trans ex0_14); omega, fun x hx => by have hf9 : Nat.testBit n24 (x0_13 % 64).toNat = ftV M0 17 11 p1 0 (x0_13 / 64) x (x0_13 % 64).toNat := (by have q8 := xh23 (x0_13 % 64).toNat (by omega); rw [show Nat.testBit n17 (x0_13 % 64).toNat = x from xh15 (x0_13 % 64).toNat x (by omega) hx] at q8; exact q8.trans (ft_cg (fun r a b c => xh16 (17 + r) _ (by omega)) (xh16 11 _ (by decide)) (by omega) (by omega) (ba_11 hP0 (by omega) (by omega)) (by omega))); rcases hold_1 h28 h33 with ⟨a, b⟩ | ⟨a, b⟩; (rw [← hf9, b]; show _ = 1 - (1 : Int); omega); (rw [← hf9, b]; show _ = 1 - (0 : Int); omega)⟩, fun a i q0 q1 => xh16 a i q0⟩)
    · intro h35 v39 h36 h37 h38
      refine wk_ifne r21_85 ⟨by omega, by omega⟩ ?_ ?_
      · intro h42
        refine wk_c1 r21_92 ?_
        subst hQ; exact wk_iret r21_93 (⟨rfl, _, rfl, hP12, hF14, by omega, by omega, Or.inr ⟨by rw [← xh5]; omega, by have := ((hQ13.at g_0_14 rfl).trans ex0_14); omega, fun x hx => by have hf9 : Nat.testBit n24 (x0_13 % 64).toNat = ftV M0 17 11 p1 0 (x0_13 / 64) x (x0_13 % 64).toNat := (by have q8 := xh23 (x0_13 % 64).toNat (by omega); rw [show Nat.testBit n17 (x0_13 % 64).toNat = x from xh15 (x0_13 % 64).toNat x (by omega) hx] at q8; exact q8.trans (ft_cg (fun r a b c => xh16 (17 + r) _ (by omega)) (xh16 11 _ (by decide)) (by omega) (by omega) (ba_11 hP0 (by omega) (by omega)) (by omega))); rcases hold_1 h28 h33 with ⟨a, b⟩ | ⟨a, b⟩; (rw [← hf9, b]; show _ = 1 - (1 : Int); omega); (rw [← hf9, b]; show _ = 1 - (0 : Int); omega)⟩, fun a i q0 q1 => xh16 a i q0⟩)
      · intro h43
        exfalso
        omega
  · intro h44
    refine wk_al0 r21_16 (wk_al0 r21_17 (wk_getfi r21_18 fd_0_14 ex0_14 (wk_c5 r21_21 (wk_imul r21_24 (wk_wrap ?_)))))
    intro v45 h46 h47 h48
    refine wk_c3 r21_25 (wk_iadd r21_28 (wk_wrap ?_))
    intro v49 h50 h51 h52
    refine wk_putfi81 r21_29 fd_0_14 (wk_nw g_0_14 rfl hP0 hF0 (uf_0_14 ⟨by omega, by omega⟩) ?_)
    intro M53 hP54 hF55 e56
    refine wk_al0 r21_32 (wk_getfi r21_33 fd_0_14 (mUp_at e56) (wk_c2 r21_36 (wk_iushrb r21_38 (by decide) ?_)))
    intro v57 h58 h59 h60
    refine wk_c1 r21_39 (wk_iandc 1 2 r21_40 ⟨rfl, by decide⟩ rfl ?_)
    subst hQ; exact wk_iret r21_41 (⟨rfl, _, rfl, hP54, hF55, by omega, by omega, Or.inl ⟨by rw [← xh5]; omega, by have q8 := (mUp_at e56); have q7 := h48; have q6 := h52; rw [q8]; unfold SDN wrI; omega, by have q8 := (mUp_at e56); have q7 := h60; rw [q8]; rw [show pw 16 = 65536 by decide] at q7; have q5 := sd_bit v49; omega⟩, fun a i q0 q1 => by rw [e56, mUp_ne (by omega)]⟩)
def fm_n7036_0 : Nat := 10003865907347655400903180288
/-- IslandHall.reply -/
theorem n7036_0 {B : eB} (d : Nat) (M0 : Mm) (p1 : Int) (x138_5 : Int) (x10_10 : Int) (x0_11 : Int) (x0_13 : Int) (x0_14 : Int) (hP0 : Pw M0) (l1 : (-2147483648) ≤ p1) (u1 : p1 ≤ 2147483647) (ex138_5 : M0 138 5 = x138_5) (lx138_5 : 0 ≤ x138_5) (ux138_5 : x138_5 ≤ 12) (ex10_10 : M0 10 10 = x10_10) (lx10_10 : 0 ≤ x10_10) (ux10_10 : x10_10 ≤ 47) (ex0_11 : M0 0 11 = x0_11) (lx0_11 : 0 ≤ x0_11) (ux0_11 : x0_11 ≤ 10) (ex0_13 : M0 0 13 = x0_13) (lx0_13 : (-1) ≤ x0_13) (ux0_13 : x0_13 ≤ 2999) (ex0_14 : M0 0 14 = x0_14) (lx0_14 : (-2147483648) ≤ x0_14) (ux0_14 : x0_14 ≤ 2147483647) (xp0 : 0 ≤ p1 → p1 < x0_11 → okH 30 (CL M0 (679 + 2 * (M0 169 p1 % 30))) 0) : Ct B (d + 7) 36 [R 0, I p1] M0 (qX 0 (fun M => Pw M ∧ Fr (fm_n7036_0 ||| 1) M0 M ∧ M (-1) 0 = M0 (-1) 0 + 1 ∧ (p1 < 0 ∨ x0_11 ≤ p1) ∧ (∀ a i : Int, 0 ≤ a → M a i = M0 a i)) (qI fun z M => Pw M ∧ Fr fm_n7036_0 M0 M ∧ (-1) ≤ z ∧ z ≤ 1 ∧ (0 ≤ p1 ∧ p1 < x0_11) ∧ (((x0_13 = -1 ∨ x138_5 = 12) ∧ z = -1 ∧ ∀ a i : Int, M a i = M0 a i) ∨ (x0_13 ≠ -1 ∧ x138_5 < 12 ∧ ((kdC (cdX (M0 136 x0_13) (M0 169 p1 / 30)) = 4 ∧ M 0 14 = SDN x0_14 ∧ z = M 0 14 / 65536 % 2) ∨ (kdC (cdX (M0 136 x0_13) (M0 169 p1 / 30)) ≠ 4 ∧ M 0 14 = x0_14 ∧ ∀ x : Bool, runF (stV M0 17 11 (x0_13 / 64) (x0_13 % 64).toNat) (CL M0 (679 + 2 * (M0 169 p1 % 30))) [] = [x] → z = 1 - b2i (ftV M0 17 11 (M0 169 p1 / 30) 0 (x0_13 / 64) x (x0_13 % 64).toNat))) ∧ 0 ≤ z ∧ RECP M0 M (M0 169 p1 / 30) (679 + 2 * (M0 169 p1 % 30)) z x138_5 x10_10)))) := by
  refine ct_of (d := d + 6) (k := 3) (L := [some (R 0), some (I p1), none, none, none]) rfl rfl rfl ?_
  have hF0 := Fr.rf fm_n7036_0 M0
  generalize hQ : (qX 0 (fun M => Pw M ∧ Fr (fm_n7036_0 ||| 1) M0 M ∧ M (-1) 0 = M0 (-1) 0 + 1 ∧ (p1 < 0 ∨ x0_11 ≤ p1) ∧ (∀ a i : Int, 0 ≤ a → M a i = M0 a i)) (qI fun z M => Pw M ∧ Fr fm_n7036_0 M0 M ∧ (-1) ≤ z ∧ z ≤ 1 ∧ (0 ≤ p1 ∧ p1 < x0_11) ∧ (((x0_13 = -1 ∨ x138_5 = 12) ∧ z = -1 ∧ ∀ a i : Int, M a i = M0 a i) ∨ (x0_13 ≠ -1 ∧ x138_5 < 12 ∧ ((kdC (cdX (M0 136 x0_13) (M0 169 p1 / 30)) = 4 ∧ M 0 14 = SDN x0_14 ∧ z = M 0 14 / 65536 % 2) ∨ (kdC (cdX (M0 136 x0_13) (M0 169 p1 / 30)) ≠ 4 ∧ M 0 14 = x0_14 ∧ ∀ x : Bool, runF (stV M0 17 11 (x0_13 / 64) (x0_13 % 64).toNat) (CL M0 (679 + 2 * (M0 169 p1 % 30))) [] = [x] → z = 1 - b2i (ftV M0 17 11 (M0 169 p1 / 30) 0 (x0_13 / 64) x (x0_13 % 64).toNat))) ∧ 0 ≤ z ∧ RECP M0 M (M0 169 p1 / 30) (679 + 2 * (M0 169 p1 % 30)) z x138_5 x10_10)))) = Q
  refine wk_il1 r36_0 ?_
  refine wk_iflt r36_1 ⟨by omega, by omega⟩ ?_ ?_
  · intro h1
    subst hQ; exact wk_thr112 r36_12 rfl (Or.inl ⟨rfl, hP0.thr, (Fr.thr hF0), (by rw [mUp_eq, hF0.at g_below rfl]), by omega, fun a i q => by rw [mUp_ne (Or.inl (by omega))]⟩)
  · intro h2
    refine wk_il1 r36_4 (wk_al0 r36_5 (wk_getfi r36_6 fd_0_11 ex0_11 ?_))
    refine wk_iclt r36_9 ⟨by omega, by omega⟩ ⟨by omega, by omega⟩ ?_ ?_
    · intro h3
      refine wk_al0 r36_23 (wk_getfi r36_24 fd_0_13 ex0_13 (wk_c1 r36_27 ?_))
      refine wk_iceq r36_28 ⟨by omega, by omega⟩ (by decide) ?_ ?_
      · intro h4
        refine wk_c1 r36_43 ?_
        subst hQ; exact wk_iret r36_44 (Or.inr ⟨rfl, _, rfl, hP0, hF0, by omega, by omega, by omega, Or.inl ⟨by omega, by omega, fun a i => rfl⟩⟩)
      · intro h5
        refine wk_al0 r36_31 (wk_getfr r36_32 fd_0_7 (br_0_7 hP0) (wk_getfi r36_35 fd_138_5 ex138_5 (wk_c2 r36_38 ?_)))
        refine wk_iclt r36_40 ⟨by omega, by omega⟩ (by decide) ?_ ?_
        · intro h6
          refine wk_al0 r36_45 (wk_getfr r36_46 fd_0_10 (br_0_10 hP0) (wk_il1 r36_49 (wk_ialdb r36_50 ar_169 ⟨by omega, by omega⟩ (fun q0 q1 => ba_169 hP0 q0 q1) ?_)))
          intro v7 h9 h10 e8
          refine wk_c2 r36_51 (wk_idiv r36_53 ⟨by omega, by omega⟩ (by decide) (wk_is2 r36_54 rfl (wk_al0 r36_55 (wk_getfr r36_56 fd_0_10 (br_0_10 hP0) (wk_il1 r36_59 (wk_iald r36_60 ar_169 ⟨by omega, by omega⟩ e8 (wk_c2 r36_61 (wk_irem r36_63 ⟨by omega, by omega⟩ (by decide) (wk_is3 r36_64 rfl (wk_al0 r36_65 (wk_il2 r36_66 (wk_al0 r36_67 (wk_getfr r36_68 fd_0_8 (br_0_8 hP0) (wk_il3 r36_71 (wk_caldb r36_72 ar_168 ⟨by omega, by omega⟩ (fun q0 q1 => ba_168 hP0 q0 q1) ?_)))))))))))))))
          intro v12 e13
          have hC14 : isC v12 := Or.inr (by omega)
          refine wk_cv3 r36_73 kc_0_21 rfl (n7021_0 _ M0 (v7 / 30) v12 x0_13 x0_14 hP0 (by first | with_reducible assumption | omega) (by first | with_reducible assumption | omega) hC14 ex0_13 (by first | with_reducible assumption | omega) (by first | with_reducible assumption | omega) ex0_14 (by first | with_reducible assumption | omega) (by first | with_reducible assumption | omega) (by rw [show v12 = 679 + 2 * (M0 169 p1 % 30) by rw [e8]; omega]; exact xp0 (by omega) (by omega))) (cqI ?_)
          rintro v21 M15 ⟨hP16, hQ17, h22, h23, xh19, xh20⟩
          have hF18 : Fr fm_n7036_0 M0 M15 := hF0.tr hQ17 rfl
          refine wk_is4 r36_76 rfl (wk_al0 r36_78 (wk_il2 r36_79 (wk_il3 r36_80 (wk_il4 r36_81 (wk_cv4 r36_83 kc_0_35 rfl (n7035_0 _ M15 (v7 / 30) (v7 % 30) v21 x138_5 x10_10 hP16 (by first | with_reducible assumption | omega) (by first | with_reducible assumption | omega) (by first | with_reducible assumption | omega) (by first | with_reducible assumption | omega) (by first | with_reducible assumption | omega) (by first | with_reducible assumption | omega) ((hQ17.at g_138_5 rfl).trans ex138_5) (by first | with_reducible assumption | omega) (by first | with_reducible assumption | omega) ((hQ17.at g_10_10 rfl).trans ex10_10) (by first | with_reducible assumption | omega) (by first | with_reducible assumption | omega) (by rw [CL_cg (xh20 _ _ (by omega) (Or.inl (by omega))) (fun k => xh20 _ _ (by omega) (Or.inl (by omega))), ← e8]; exact xp0 (by omega) (by omega))) (cqI ?_))))))
          rintro v29 M24 ⟨hP25, hQ26, h30, h31, xh28⟩
          have hF27 : Fr fm_n7036_0 M0 M24 := hF18.tr hQ26 rfl
          refine wk_popi r36_86 (wk_il4 r36_87 ?_)
          subst hQ; exact wk_iret r36_89 (Or.inr ⟨rfl, _, rfl, hP25, hF27, by omega, by omega, by omega, by have hq9 := (show v7 = M0 169 p1 by rw [← e8]); rcases xh28 with ⟨q1, -⟩ | ⟨q1, q2, q3⟩; (omega); rw [← hq9]; exact Or.inr ⟨by omega, by omega, by rw [show M24 0 14 = M15 0 14 from hQ26.at g_0_14 rfl]; rw [← show v12 = 679 + 2 * (v7 % 30) by omega]; exact xh19, by omega, RECP_bs q3 (fun a i b0 b1 => xh20 a i b1 (Or.inl b0)) hP0 (by omega) (CL_st hP0 (Or.inr (by omega)) (bC_1 hP0 (Or.inr (by omega))).2) (fun i a b => ba_11 hP0 a b) (by omega) (by omega) (by omega)⟩⟩)
        · intro h32
          refine wk_c1 r36_43 ?_
          subst hQ; exact wk_iret r36_44 (Or.inr ⟨rfl, _, rfl, hP0, hF0, by omega, by omega, by omega, Or.inl ⟨by omega, by omega, fun a i => rfl⟩⟩)
    · intro h33
      subst hQ; exact wk_thr112 r36_12 rfl (Or.inl ⟨rfl, hP0.thr, (Fr.thr hF0), (by rw [mUp_eq, hF0.at g_below rfl]), by omega, fun a i q => by rw [mUp_ne (Or.inl (by omega))]⟩)
def fm_n7030_0 : Nat := 0
/-- IslandHall.needPerson -/
theorem n7030_0 {B : eB} (d : Nat) (M0 : Mm) (p1 : Int) (x2_1 : Int) (hP0 : Pw M0) (l1 : (-2147483648) ≤ p1) (u1 : p1 ≤ 2147483647) (ex2_1 : M0 2 1 = x2_1) (lx2_1 : 0 ≤ x2_1) (ux2_1 : x2_1 ≤ 7) : Ct B (d + 1) 30 [R 0, I p1] M0 (qX 0 (fun M => Pw M ∧ Fr (fm_n7030_0 ||| 1) M0 M ∧ M (-1) 0 = M0 (-1) 0 + 1 ∧ (p1 < 0 ∨ x2_1 ≤ p1) ∧ (∀ a i : Int, 0 ≤ a → M a i = M0 a i)) (qV fun M => Pw M ∧ Fr fm_n7030_0 M0 M ∧ 0 ≤ p1 ∧ 0 ≤ M 2 1 + (-1) * p1 + (-1) ∧ (M = M0))) := by
  refine ct_of (d := d + 0) (k := 0) (L := [some (R 0), some (I p1)]) rfl rfl rfl ?_
  have hF0 := Fr.rf fm_n7030_0 M0
  generalize hQ : (qX 0 (fun M => Pw M ∧ Fr (fm_n7030_0 ||| 1) M0 M ∧ M (-1) 0 = M0 (-1) 0 + 1 ∧ (p1 < 0 ∨ x2_1 ≤ p1) ∧ (∀ a i : Int, 0 ≤ a → M a i = M0 a i)) (qV fun M => Pw M ∧ Fr fm_n7030_0 M0 M ∧ 0 ≤ p1 ∧ 0 ≤ M 2 1 + (-1) * p1 + (-1) ∧ (M = M0))) = Q
  refine wk_il1 r30_0 ?_
  refine wk_iflt r30_1 ⟨by omega, by omega⟩ ?_ ?_
  · intro h1
    subst hQ; exact wk_thr112 r30_15 rfl (Or.inl ⟨rfl, hP0.thr, (Fr.thr hF0), (by rw [mUp_eq, hF0.at g_below rfl]), by omega, fun a i q => by rw [mUp_ne (Or.inl (by omega))]⟩)
  · intro h2
    refine wk_il1 r30_4 (wk_al0 r30_5 (wk_getfr r30_6 fd_0_2 (br_0_2 hP0) (wk_getfi r30_9 fd_2_1 ex2_1 ?_)))
    refine wk_iclt r30_12 ⟨by omega, by omega⟩ ⟨by omega, by omega⟩ ?_ ?_
    · intro h3
      subst hQ; exact wk_ret r30_26 (Or.inr ⟨rfl, hP0, hF0, by omega, by have := ex2_1; omega, rfl⟩)
    · intro h4
      subst hQ; exact wk_thr112 r30_15 rfl (Or.inl ⟨rfl, hP0.thr, (Fr.thr hF0), (by rw [mUp_eq, hF0.at g_below rfl]), by omega, fun a i q => by rw [mUp_ne (Or.inl (by omega))]⟩)
def fm_n7031_0 : Nat := 0
/-- IslandHall.needSentence -/
theorem n7031_0 {B : eB} (d : Nat) (M0 : Mm) (p1 : Int) (x0_9 : Int) (hP0 : Pw M0) (l1 : (-2147483648) ≤ p1) (u1 : p1 ≤ 2147483647) (ex0_9 : M0 0 9 = x0_9) (lx0_9 : 0 ≤ x0_9) (ux0_9 : x0_9 ≤ 30) : Ct B (d + 1) 31 [R 0, I p1] M0 (qX 0 (fun M => Pw M ∧ Fr (fm_n7031_0 ||| 1) M0 M ∧ M (-1) 0 = M0 (-1) 0 + 1 ∧ (p1 < 0 ∨ x0_9 ≤ p1) ∧ (∀ a i : Int, 0 ≤ a → M a i = M0 a i)) (qV fun M => Pw M ∧ Fr fm_n7031_0 M0 M ∧ 0 ≤ p1 ∧ 0 ≤ M 0 9 + (-1) * p1 + (-1) ∧ (M = M0))) := by
  refine ct_of (d := d + 0) (k := 0) (L := [some (R 0), some (I p1)]) rfl rfl rfl ?_
  have hF0 := Fr.rf fm_n7031_0 M0
  generalize hQ : (qX 0 (fun M => Pw M ∧ Fr (fm_n7031_0 ||| 1) M0 M ∧ M (-1) 0 = M0 (-1) 0 + 1 ∧ (p1 < 0 ∨ x0_9 ≤ p1) ∧ (∀ a i : Int, 0 ≤ a → M a i = M0 a i)) (qV fun M => Pw M ∧ Fr fm_n7031_0 M0 M ∧ 0 ≤ p1 ∧ 0 ≤ M 0 9 + (-1) * p1 + (-1) ∧ (M = M0))) = Q
  refine wk_il1 r31_0 ?_
  refine wk_iflt r31_1 ⟨by omega, by omega⟩ ?_ ?_
  · intro h1
    subst hQ; exact wk_thr112 r31_12 rfl (Or.inl ⟨rfl, hP0.thr, (Fr.thr hF0), (by rw [mUp_eq, hF0.at g_below rfl]), by omega, fun a i q => by rw [mUp_ne (Or.inl (by omega))]⟩)
  · intro h2
    refine wk_il1 r31_4 (wk_al0 r31_5 (wk_getfi r31_6 fd_0_9 ex0_9 ?_))
    refine wk_iclt r31_9 ⟨by omega, by omega⟩ ⟨by omega, by omega⟩ ?_ ?_
    · intro h3
      subst hQ; exact wk_ret r31_23 (Or.inr ⟨rfl, hP0, hF0, by omega, by have := ex0_9; omega, rfl⟩)
    · intro h4
      subst hQ; exact wk_thr112 r31_12 rfl (Or.inl ⟨rfl, hP0.thr, (Fr.thr hF0), (by rw [mUp_eq, hF0.at g_below rfl]), by omega, fun a i q => by rw [mUp_ne (Or.inl (by omega))]⟩)
def fm_n7038_0 : Nat := 10003865907347655400903147520
/-- IslandHall.says -/
theorem n7038_0 {B : eB} (d : Nat) (M0 : Mm) (p1 : Int) (p2 : Int) (x138_5 : Int) (x10_10 : Int) (x0_9 : Int) (x2_1 : Int) (hP0 : Pw M0) (l1 : (-2147483648) ≤ p1) (u1 : p1 ≤ 2147483647) (l2 : (-2147483648) ≤ p2) (u2 : p2 ≤ 2147483647) (ex138_5 : M0 138 5 = x138_5) (lx138_5 : 0 ≤ x138_5) (ux138_5 : x138_5 ≤ 12) (ex10_10 : M0 10 10 = x10_10) (lx10_10 : 0 ≤ x10_10) (ux10_10 : x10_10 ≤ 47) (ex0_9 : M0 0 9 = x0_9) (lx0_9 : 0 ≤ x0_9) (ux0_9 : x0_9 ≤ 30) (ex2_1 : M0 2 1 = x2_1) (lx2_1 : 0 ≤ x2_1) (ux2_1 : x2_1 ≤ 7) (xp0 : p2 < x0_9 → 0 ≤ p2 → okH 30 (CL M0 (679 + 2 * p2)) 0) : Ct B (d + 7) 38 [R 0, I p1, I p2] M0 (qX 0 (fun M => Pw M ∧ Fr (fm_n7038_0 ||| 1) M0 M ∧ M (-1) 0 = M0 (-1) 0 + 1 ∧ (p1 < 0 ∨ x2_1 ≤ p1 ∨ p2 < 0 ∨ x0_9 ≤ p2) ∧ (∀ a i : Int, 0 ≤ a → M a i = M0 a i)) (qI fun z M => Pw M ∧ Fr fm_n7038_0 M0 M ∧ (-1) ≤ z ∧ z ≤ 11 ∧ (0 ≤ p1 ∧ p1 < x2_1 ∧ 0 ≤ p2 ∧ p2 < x0_9) ∧ ((x138_5 = 12 ∧ z = -1 ∧ ∀ a i : Int, M a i = M0 a i) ∨ (x138_5 < 12 ∧ z = x138_5 ∧ RECP M0 M p1 (679 + 2 * p2) (-1) x138_5 x10_10)))) := by
  refine ct_of (d := d + 6) (k := 0) (L := [some (R 0), some (I p1), some (I p2)]) rfl rfl rfl ?_
  have hF0 := Fr.rf fm_n7038_0 M0
  generalize hQ : (qX 0 (fun M => Pw M ∧ Fr (fm_n7038_0 ||| 1) M0 M ∧ M (-1) 0 = M0 (-1) 0 + 1 ∧ (p1 < 0 ∨ x2_1 ≤ p1 ∨ p2 < 0 ∨ x0_9 ≤ p2) ∧ (∀ a i : Int, 0 ≤ a → M a i = M0 a i)) (qI fun z M => Pw M ∧ Fr fm_n7038_0 M0 M ∧ (-1) ≤ z ∧ z ≤ 11 ∧ (0 ≤ p1 ∧ p1 < x2_1 ∧ 0 ≤ p2 ∧ p2 < x0_9) ∧ ((x138_5 = 12 ∧ z = -1 ∧ ∀ a i : Int, M a i = M0 a i) ∨ (x138_5 < 12 ∧ z = x138_5 ∧ RECP M0 M p1 (679 + 2 * p2) (-1) x138_5 x10_10)))) = Q
  refine wk_al0 r38_0 (wk_il1 r38_1 (wk_cv2 r38_2 kc_0_30 rfl (n7030_0 _ M0 p1 x2_1 hP0 (by first | with_reducible assumption | omega) (by first | with_reducible assumption | omega) ex2_1 (by first | with_reducible assumption | omega) (by first | with_reducible assumption | omega)) (cqX (fun _ _ x5 => by subst hQ; exact Or.inl ⟨rfl, x5.1, Fr.trx hF0 x5.2.1 rfl, (by rw [x5.2.2.1, hF0.at g_below rfl]), by have := x5.2.2.2.1; omega, fun a i q => by rw [x5.2.2.2.2 a i q]⟩) (cqV ?_))))
  rintro M1 ⟨hP2, hQ3, h8, h9, xh10⟩
  obtain rfl := Fr.same hQ3
  have e11 := ex2_1
  refine wk_al0 r38_5 (wk_il2 r38_6 (wk_cv2 r38_7 kc_0_31 rfl (n7031_0 _ M0 p2 x0_9 hP0 (by first | with_reducible assumption | omega) (by first | with_reducible assumption | omega) ex0_9 (by first | with_reducible assumption | omega) (by first | with_reducible assumption | omega)) (cqX (fun _ _ x16 => by subst hQ; exact Or.inl ⟨rfl, x16.1, Fr.trx hF0 x16.2.1 rfl, (by rw [x16.2.2.1, hF0.at g_below rfl]), by have := x16.2.2.2.1; omega, fun a i q => by rw [x16.2.2.2.2 a i q, xh10]⟩) (cqV ?_))))
  rintro M12 ⟨hP13, hQ14, h19, h20, xh21⟩
  obtain rfl := Fr.same hQ14
  have e22 := ex0_9
  refine wk_al0 r38_10 (wk_il1 r38_11 (wk_il2 r38_12 ?_))
  refine wk_c1 r38_13 (wk_cv4 r38_14 kc_0_35 rfl (n7035_0 _ M0 p1 p2 (-1) x138_5 x10_10 hP0 (by first | with_reducible assumption | omega) (by first | with_reducible assumption | omega) (by first | with_reducible assumption | omega) (by first | with_reducible assumption | omega) (by decide) (by decide) ex138_5 (by first | with_reducible assumption | omega) (by first | with_reducible assumption | omega) ex10_10 (by first | with_reducible assumption | omega) (by first | with_reducible assumption | omega) (by rw [show M0 = M0 by rw [xh21, xh10]]; exact xp0 (by omega) (by omega))) (cqI ?_))
  rintro v28 M23 ⟨hP24, hQ25, h29, h30, xh27⟩
  have hF26 : Fr fm_n7038_0 M0 M23 := hF0.tr hQ25 rfl
  subst hQ; exact wk_iret r38_17 (Or.inr ⟨rfl, _, rfl, hP24, hF26, by omega, by omega, by omega, by have hq9 := xh27; rw [show M0 = M0 by rw [xh21, xh10]] at hq9; exact hq9⟩)
def fm_n7011_0 : Nat := 10003865907347655400903147520
/-- IslandHall.answers -/
theorem n7011_0 {B : eB} (d : Nat) (M0 : Mm) (p1 : Int) (p2 : Int) (p3 : Int) (x138_5 : Int) (x10_10 : Int) (x0_9 : Int) (x2_1 : Int) (hP0 : Pw M0) (l1 : (-2147483648) ≤ p1) (u1 : p1 ≤ 2147483647) (l2 : (-2147483648) ≤ p2) (u2 : p2 ≤ 2147483647) (l3 : (-2147483648) ≤ p3) (u3 : p3 ≤ 2147483647) (ex138_5 : M0 138 5 = x138_5) (lx138_5 : 0 ≤ x138_5) (ux138_5 : x138_5 ≤ 12) (ex10_10 : M0 10 10 = x10_10) (lx10_10 : 0 ≤ x10_10) (ux10_10 : x10_10 ≤ 47) (ex0_9 : M0 0 9 = x0_9) (lx0_9 : 0 ≤ x0_9) (ux0_9 : x0_9 ≤ 30) (ex2_1 : M0 2 1 = x2_1) (lx2_1 : 0 ≤ x2_1) (ux2_1 : x2_1 ≤ 7) (xp0 : p2 < x0_9 → 0 ≤ p2 → okH 30 (CL M0 (679 + 2 * p2)) 0) : Ct B (d + 7) 11 [R 0, I p1, I p2, I p3] M0 (qX 0 (fun M => Pw M ∧ Fr (fm_n7011_0 ||| 1) M0 M ∧ M (-1) 0 = M0 (-1) 0 + 1 ∧ (p1 < 0 ∨ x2_1 ≤ p1 ∨ p2 < 0 ∨ x0_9 ≤ p2 ∨ p3 < 0 ∨ 1 < p3) ∧ (∀ a i : Int, 0 ≤ a → M a i = M0 a i)) (qI fun z M => Pw M ∧ Fr fm_n7011_0 M0 M ∧ (-1) ≤ z ∧ z ≤ 11 ∧ (0 ≤ p1 ∧ p1 < x2_1 ∧ 0 ≤ p2 ∧ p2 < x0_9 ∧ 0 ≤ p3 ∧ p3 ≤ 1) ∧ ((x138_5 = 12 ∧ z = -1 ∧ ∀ a i : Int, M a i = M0 a i) ∨ (x138_5 < 12 ∧ z = x138_5 ∧ RECP M0 M p1 (679 + 2 * p2) p3 x138_5 x10_10)))) := by
  refine ct_of (d := d + 6) (k := 0) (L := [some (R 0), some (I p1), some (I p2), some (I p3)]) rfl rfl rfl ?_
  have hF0 := Fr.rf fm_n7011_0 M0
  generalize hQ : (qX 0 (fun M => Pw M ∧ Fr (fm_n7011_0 ||| 1) M0 M ∧ M (-1) 0 = M0 (-1) 0 + 1 ∧ (p1 < 0 ∨ x2_1 ≤ p1 ∨ p2 < 0 ∨ x0_9 ≤ p2 ∨ p3 < 0 ∨ 1 < p3) ∧ (∀ a i : Int, 0 ≤ a → M a i = M0 a i)) (qI fun z M => Pw M ∧ Fr fm_n7011_0 M0 M ∧ (-1) ≤ z ∧ z ≤ 11 ∧ (0 ≤ p1 ∧ p1 < x2_1 ∧ 0 ≤ p2 ∧ p2 < x0_9 ∧ 0 ≤ p3 ∧ p3 ≤ 1) ∧ ((x138_5 = 12 ∧ z = -1 ∧ ∀ a i : Int, M a i = M0 a i) ∨ (x138_5 < 12 ∧ z = x138_5 ∧ RECP M0 M p1 (679 + 2 * p2) p3 x138_5 x10_10)))) = Q
  refine wk_al0 r11_0 (wk_il1 r11_1 (wk_cv2 r11_2 kc_0_30 rfl (n7030_0 _ M0 p1 x2_1 hP0 (by first | with_reducible assumption | omega) (by first | with_reducible assumption | omega) ex2_1 (by first | with_reducible assumption | omega) (by first | with_reducible assumption | omega)) (cqX (fun _ _ x5 => by subst hQ; exact Or.inl ⟨rfl, x5.1, Fr.trx hF0 x5.2.1 rfl, (by rw [x5.2.2.1, hF0.at g_below rfl]), by have := x5.2.2.2.1; omega, fun a i q => by rw [x5.2.2.2.2 a i q]⟩) (cqV ?_))))
  rintro M1 ⟨hP2, hQ3, h8, h9, xh10⟩
  obtain rfl := Fr.same hQ3
  have e11 := ex2_1
  refine wk_al0 r11_5 (wk_il2 r11_6 (wk_cv2 r11_7 kc_0_31 rfl (n7031_0 _ M0 p2 x0_9 hP0 (by first | with_reducible assumption | omega) (by first | with_reducible assumption | omega) ex0_9 (by first | with_reducible assumption | omega) (by first | with_reducible assumption | omega)) (cqX (fun _ _ x16 => by subst hQ; exact Or.inl ⟨rfl, x16.1, Fr.trx hF0 x16.2.1 rfl, (by rw [x16.2.2.1, hF0.at g_below rfl]), by have := x16.2.2.2.1; omega, fun a i q => by rw [x16.2.2.2.2 a i q, xh10]⟩) (cqV ?_))))
  rintro M12 ⟨hP13, hQ14, h19, h20, xh21⟩
  obtain rfl := Fr.same hQ14
  have e22 := ex0_9
  refine wk_il3 r11_10 ?_
  refine wk_iflt r11_11 ⟨by omega, by omega⟩ ?_ ?_
  · intro h23
    subst hQ; exact wk_thr105 r11_19 rfl (Or.inl ⟨rfl, hP0.thr, (Fr.thr hF0), (by rw [mUp_eq, hF0.at g_below rfl]), by omega, fun a i q => by rw [mUp_ne (Or.inl (by omega)), xh21, xh10]⟩)
  · intro h24
    refine wk_il3 r11_14 (wk_c1 r11_15 ?_)
    refine wk_icle r11_16 ⟨by omega, by omega⟩ (by decide) ?_ ?_
    · intro h25
      refine wk_al0 r11_29 (wk_il1 r11_30 (wk_il2 r11_31 ?_))
      refine wk_il3 r11_32 (wk_cv4 r11_33 kc_0_35 rfl (n7035_0 _ M0 p1 p2 p3 x138_5 x10_10 hP0 (by first | with_reducible assumption | omega) (by first | with_reducible assumption | omega) (by first | with_reducible assumption | omega) (by first | with_reducible assumption | omega) (by first | with_reducible assumption | omega) (by first | with_reducible assumption | omega) ex138_5 (by first | with_reducible assumption | omega) (by first | with_reducible assumption | omega) ex10_10 (by first | with_reducible assumption | omega) (by first | with_reducible assumption | omega) (by rw [show M0 = M0 by rw [xh21, xh10]]; exact xp0 (by omega) (by omega))) (cqI ?_))
      rintro v31 M26 ⟨hP27, hQ28, h32, h33, xh30⟩
      have hF29 : Fr fm_n7011_0 M0 M26 := hF0.tr hQ28 rfl
      subst hQ; exact wk_iret r11_36 (Or.inr ⟨rfl, _, rfl, hP27, hF29, by omega, by omega, by omega, by have hq9 := xh30; rw [show M0 = M0 by rw [xh21, xh10]] at hq9; exact hq9⟩)
    · intro h34
      subst hQ; exact wk_thr105 r11_19 rfl (Or.inl ⟨rfl, hP0.thr, (Fr.thr hF0), (by rw [mUp_eq, hF0.at g_below rfl]), by omega, fun a i q => by rw [mUp_ne (Or.inl (by omega)), xh21, xh10]⟩)
def fm_n7034_0 : Nat := 309485009821345068724785152
/-- IslandHall.question -/
theorem n7034_0 {B : eB} (d : Nat) (M0 : Mm) (p1 : Int) (p2 : Int) (x2_1 : Int) (x0_9 : Int) (x0_11 : Int) (hP0 : Pw M0) (l1 : (-2147483648) ≤ p1) (u1 : p1 ≤ 2147483647) (l2 : (-2147483648) ≤ p2) (u2 : p2 ≤ 2147483647) (ex2_1 : M0 2 1 = x2_1) (lx2_1 : 0 ≤ x2_1) (ux2_1 : x2_1 ≤ 7) (ex0_9 : M0 0 9 = x0_9) (lx0_9 : 0 ≤ x0_9) (ux0_9 : x0_9 ≤ 30) (ex0_11 : M0 0 11 = x0_11) (lx0_11 : 0 ≤ x0_11) (ux0_11 : x0_11 ≤ 10) : Ct B (d + 2) 34 [R 0, I p1, I p2] M0 (qX 0 (fun M => Pw M ∧ Fr (fm_n7034_0 ||| 1) M0 M ∧ M (-1) 0 = M0 (-1) 0 + 1 ∧ (p1 < 0 ∨ x2_1 ≤ p1 ∨ p2 < 0 ∨ x0_9 ≤ p2) ∧ (∀ a i : Int, 0 ≤ a → M a i = M0 a i)) (qI fun z M => Pw M ∧ Fr fm_n7034_0 M0 M ∧ (-1) ≤ z ∧ z ≤ 9 ∧ (QNR p1 p2 x2_1 x0_9 x0_11 0 z (M 0 11)) ∧ ((z = -1 → ∀ a i : Int, M a i = M0 a i) ∧ (0 ≤ z → (∀ k : Int, M 169 k = if k = x0_11 then 30 * p1 + p2 else M0 169 k) ∧ ∀ a i : Int, a ≠ 169 → (a ≠ 0 ∨ i ≠ 11) → M a i = M0 a i)))) := by
  refine ct_of (d := d + 1) (k := 0) (L := [some (R 0), some (I p1), some (I p2)]) rfl rfl rfl ?_
  have hF0 := Fr.rf fm_n7034_0 M0
  generalize hQ : (qX 0 (fun M => Pw M ∧ Fr (fm_n7034_0 ||| 1) M0 M ∧ M (-1) 0 = M0 (-1) 0 + 1 ∧ (p1 < 0 ∨ x2_1 ≤ p1 ∨ p2 < 0 ∨ x0_9 ≤ p2) ∧ (∀ a i : Int, 0 ≤ a → M a i = M0 a i)) (qI fun z M => Pw M ∧ Fr fm_n7034_0 M0 M ∧ (-1) ≤ z ∧ z ≤ 9 ∧ (QNR p1 p2 x2_1 x0_9 x0_11 0 z (M 0 11)) ∧ ((z = -1 → ∀ a i : Int, M a i = M0 a i) ∧ (0 ≤ z → (∀ k : Int, M 169 k = if k = x0_11 then 30 * p1 + p2 else M0 169 k) ∧ ∀ a i : Int, a ≠ 169 → (a ≠ 0 ∨ i ≠ 11) → M a i = M0 a i)))) = Q
  refine wk_al0 r34_0 (wk_il1 r34_1 (wk_cv2 r34_2 kc_0_30 rfl (n7030_0 _ M0 p1 x2_1 hP0 (by first | with_reducible assumption | omega) (by first | with_reducible assumption | omega) ex2_1 (by first | with_reducible assumption | omega) (by first | with_reducible assumption | omega)) (cqX (fun _ _ x5 => by subst hQ; exact Or.inl ⟨rfl, x5.1, Fr.trx hF0 x5.2.1 rfl, (by rw [x5.2.2.1, hF0.at g_below rfl]), by have := x5.2.2.2.1; omega, fun a i q => by rw [x5.2.2.2.2 a i q]⟩) (cqV ?_))))
  rintro M1 ⟨hP2, hQ3, h8, h9, xh10⟩
  obtain rfl := Fr.same hQ3
  have e11 := ex2_1
  refine wk_al0 r34_5 (wk_il2 r34_6 (wk_cv2 r34_7 kc_0_31 rfl (n7031_0 _ M0 p2 x0_9 hP0 (by first | with_reducible assumption | omega) (by first | with_reducible assumption | omega) ex0_9 (by first | with_reducible assumption | omega) (by first | with_reducible assumption | omega)) (cqX (fun _ _ x16 => by subst hQ; exact Or.inl ⟨rfl, x16.1, Fr.trx hF0 x16.2.1 rfl, (by rw [x16.2.2.1, hF0.at g_below rfl]), by have := x16.2.2.2.1; omega, fun a i q => by rw [x16.2.2.2.2 a i q, xh10]⟩) (cqV ?_))))
  rintro M12 ⟨hP13, hQ14, h19, h20, xh21⟩
  obtain rfl := Fr.same hQ14
  have e22 := ex0_9
  refine wk_al0 r34_10 (wk_getfi r34_11 fd_0_11 ex0_11 (wk_c2 r34_14 ?_))
  refine wk_iclt r34_16 ⟨by omega, by omega⟩ (by decide) ?_ ?_
  · intro h23
    refine wk_al0 r34_21 (wk_getfr r34_22 fd_0_10 (br_0_10 hP0) (wk_al0 r34_25 (wk_getfi r34_26 fd_0_11 ex0_11 (wk_c2 r34_29 (wk_il1 r34_31 (wk_imul r34_32 (wk_il2 r34_33 (wk_iadd r34_34 (wk_iast r34_35 ar_169 ⟨by omega, by omega⟩ (wk_nw (ga_169 _) rfl hP0 hF0 (ua_169 ⟨by omega, by omega⟩) ?_))))))))))
    intro M24 hP25 hF26 e27
    refine wk_al0 r34_36 (wk_dupr r34_37 (wk_getfi r34_38 fd_0_11 (mUp_no e27 ex0_11 (Or.inl (by decide))) (wk_c1 r34_41 (wk_iadd r34_42 (wk_putfi81 r34_43 fd_0_11 (wk_nw g_0_11 rfl hP25 hF26 (uf_0_11 ⟨by omega, by omega⟩) ?_))))))
    intro M28 hP29 hF30 e31
    refine wk_al0 r34_46 (wk_getfi r34_47 fd_0_11 (mUp_at e31) (wk_c1 r34_50 (wk_isub r34_51 ?_)))
    subst hQ; exact wk_iret r34_52 (Or.inr ⟨rfl, _, rfl, hP29, hF30, by omega, by omega, by rw [(mUp_at e31)]; unfold QNR; omega, ⟨fun q => by omega, fun _ => ⟨fun k => by rw [e31, mUp_ne (Or.inl (by decide)), e27]; by_cases q : k = x0_11; (rw [if_pos q, q, show x0_11 = x0_11 by omega, mUp_eq] <;> omega); (rw [if_neg q, mUp_ne (Or.inr (by omega)), xh21, xh10]), fun a i q1 q2 => by rw [e31, mUp_ne q2, e27, mUp_ne (Or.inl q1), xh21, xh10]⟩⟩⟩)
  · intro h32
    refine wk_c1 r34_19 ?_
    subst hQ; exact wk_iret r34_20 (Or.inr ⟨rfl, _, rfl, hP0, hF0, by omega, by omega, by rw [ex0_11]; unfold QNR; omega, ⟨fun _ a i => by rw [xh21, xh10], fun q => by omega⟩⟩)
