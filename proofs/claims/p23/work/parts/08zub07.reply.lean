
def fm_n8083_739 : Nat := 0
/-- IslandHallModel.isFit -/
theorem n8083_739 {B : eB} (d : Nat) (M0 : Mm) (p1 : Int) (hP0 : Pw M0) (l1 : 0 ≤ p1) (u1 : p1 ≤ 2999) : Ct B (d + 2) 83 [R 739, I p1] M0 (qI fun z M => Pw M ∧ Fr fm_n8083_739 M0 M ∧ 0 ≤ z ∧ z ≤ 1 ∧ ((z = 1 ∧ M0 752 p1 = AL M0) ∨ (z = 0 ∧ M0 752 p1 ≠ AL M0))) := by
  refine ct_of (d := d + 1) (k := 0) (L := [some (R 739), some (I p1)]) rfl rfl rfl ?_
  have hF0 := Fr.rf fm_n8083_739 M0
  generalize hQ : (qI fun z M => Pw M ∧ Fr fm_n8083_739 M0 M ∧ 0 ≤ z ∧ z ≤ 1 ∧ ((z = 1 ∧ M0 752 p1 = AL M0) ∨ (z = 0 ∧ M0 752 p1 ≠ AL M0))) = Q
  refine wk_al0 r83_0 (wk_getfr r83_1 fd_739_20 (br_739_20 hP0) (wk_il1 r83_4 (wk_ialdb r83_5 ar_752 ⟨by omega, by omega⟩ (fun q0 q1 => ba_752 hP0 q0 q1) ?_)))
  intro v1 h3 h4 e2
  refine wk_al0 r83_6 (wk_cv1 r83_7 kc_739_44 rfl (n8044_739 _ M0 hP0) (cqI ?_))
  rintro v10 M5 ⟨hP6, hQ7, h11, h12, xh9⟩
  obtain rfl := Fr.same hQ7
  refine wk_icne r83_10 ⟨by omega, by omega⟩ ⟨by omega, by omega⟩ ?_ ?_
  · intro h13
    refine wk_c1 r83_17 ?_
    subst hQ; exact wk_zret r83_18 (by decide) (⟨rfl, _, rfl, hP0, hF0, by omega, by omega, by rw [e2]; omega⟩)
  · intro h14
    refine wk_c1 r83_13 (wk_goto r83_14 ?_)
    subst hQ; exact wk_zret r83_18 (by decide) (⟨rfl, _, rfl, hP0, hF0, by omega, by omega, by rw [e2]; omega⟩)
def fm_n8073_739 : Nat := 0
/-- IslandHallModel.fitAt -/
theorem n8073_739 {B : eB} (d : Nat) (M0 : Mm) (p1 : Int) (x739_7 : Int) (hP0 : Pw M0) (l1 : (-2147483648) ≤ p1) (u1 : p1 ≤ 2147483647) (ex739_7 : M0 739 7 = x739_7) (lx739_7 : 0 ≤ x739_7) (ux739_7 : x739_7 ≤ 3000) : Ct B (d + 3) 73 [R 739, I p1] M0 (qI fun z M => Pw M ∧ Fr fm_n8073_739 M0 M ∧ (-1) ≤ z ∧ z ≤ 2999 ∧ (PCK (fun i => decide (M0 752 i = AL M0)) x739_7 p1 z)) := by
  refine ct_of (d := d + 2) (k := 2) (L := [some (R 739), some (I p1), none, none]) rfl rfl rfl ?_
  have hF0 := Fr.rf fm_n8073_739 M0
  generalize hQ : (qI fun z M => Pw M ∧ Fr fm_n8073_739 M0 M ∧ (-1) ≤ z ∧ z ≤ 2999 ∧ (PCK (fun i => decide (M0 752 i = AL M0)) x739_7 p1 z)) = Q
  refine wk_il1 r73_0 (wk_is2 r73_1 rfl (wk_c1 r73_2 (wk_is3 r73_3 rfl ?_)))
  have c4_251 : ∀ (k251 : Nat) (v226 : Int) (v229 : Int), (3000 - v229).toNat = k251 → (-2147483648) ≤ v226 → v226 ≤ 2147483647 → 0 ≤ v229 → v229 ≤ 3000 → 0 ≤ (-1) * v229 + x739_7 → 0 ≤ v229 → (cnB (fun i => decide (M0 752 i = AL M0)) (v229).toNat + v226 = p1 ∧ (0 ≤ p1 → 0 ≤ v226)) → Wp B (d + 2) 73 4 [some (R 739), some (I p1), some (I v226), some (I v229)] [] M0 Q := by
    refine lp_ind ?_
    intro k251 ih251 v226 v229 hk251 h227 h228 h230 h231 h232 h233 ti234
    refine wk_il3 r73_4 (wk_al0 r73_5 (wk_getfi r73_6 fd_739_7 ex739_7 ?_))
    refine wk_icge r73_9 ⟨by omega, by omega⟩ ⟨by omega, by omega⟩ ?_ ?_
    · intro h235
      refine wk_c1 r73_42 ?_
      subst hQ; exact wk_iret r73_43 (⟨rfl, _, rfl, hP0, hF0, by omega, by omega, by by_cases q : p1 < 0; (exact Or.inl ⟨by omega, Or.inl q⟩); (exact Or.inl ⟨by omega, Or.inr (by rw [show x739_7 = v229 by omega]; omega)⟩)⟩)
    · intro h236
      refine wk_il1 r73_12 ?_
      refine wk_iflt r73_13 ⟨by omega, by omega⟩ ?_ ?_
      · intro h237
        refine wk_c1 r73_42 ?_
        subst hQ; exact wk_iret r73_43 (⟨rfl, _, rfl, hP0, hF0, by omega, by omega, by by_cases q : p1 < 0; (exact Or.inl ⟨by omega, Or.inl q⟩); (exact Or.inl ⟨by omega, Or.inr (by rw [show x739_7 = v229 by omega]; omega)⟩)⟩)
      · intro h238
        refine wk_al0 r73_16 (wk_il3 r73_17 (wk_cv2 r73_18 kc_739_83 rfl (n8083_739 _ M0 v229 hP0 (by first | with_reducible assumption | omega) (by first | with_reducible assumption | omega)) (cqI ?_)))
        rintro v244 M239 ⟨hP240, hQ241, h245, h246, xh243⟩
        obtain rfl := Fr.same hQ241
        refine wk_ifne r73_21 ⟨by omega, by omega⟩ ?_ ?_
        · intro h247
          refine wk_il2 r73_27 ?_
          refine wk_ifne r73_28 ⟨by omega, by omega⟩ ?_ ?_
          · intro h248
            refine wk_inc2 r73_33 rfl (wk_inc3 r73_36 rfl (wk_goto r73_39 ?_))
            exact wp_fg (le_s (le_s (le_s (le_s le_0)))) (ih251 (3000 - (v229 + 1)).toNat (by omega) (v226 + (-1)) (v229 + 1) rfl (by first | with_reducible assumption | omega) (by first | with_reducible assumption | omega) (by first | with_reducible assumption | omega) (by first | with_reducible assumption | omega) (by first | with_reducible assumption | omega) (by first | with_reducible assumption | omega) (⟨by have q7 := ti234.1; rw [cnB_s (by omega)]; rcases xh243 with ⟨q1, q2⟩ | ⟨q1, q2⟩; (have q3 : b2i (decide (M0 752 v229 = AL M0)) = 1 := (by rw [decide_eq_true q2]; rfl); show _ + b2i (decide (M0 752 v229 = AL M0)) + _ = _; omega); (have q3 : b2i (decide (M0 752 v229 = AL M0)) = 0 := (by rw [decide_eq_false q2]; rfl); show _ + b2i (decide (M0 752 v229 = AL M0)) + _ = _; omega), fun q => by have q7 := ti234.2 q; omega⟩))
          · intro h249
            refine wk_il3 r73_31 ?_
            subst hQ; exact wk_iret r73_32 (⟨rfl, _, rfl, hP0, hF0, by omega, by omega, Or.inr ⟨by omega, by omega, by omega, by rcases xh243 with ⟨q1, q2⟩ | ⟨q1, q2⟩; (exact decide_eq_true q2); (omega), by omega⟩⟩)
        · intro h250
          refine wk_goto r73_24 (wk_inc3 r73_36 rfl (wk_goto r73_39 ?_))
          exact wp_fg (le_s (le_s (le_s (le_s le_0)))) (ih251 (3000 - (v229 + 1)).toNat (by omega) v226 (v229 + 1) rfl (by first | with_reducible assumption | omega) (by first | with_reducible assumption | omega) (by first | with_reducible assumption | omega) (by first | with_reducible assumption | omega) (by first | with_reducible assumption | omega) (by first | with_reducible assumption | omega) (⟨by have q7 := ti234.1; rw [cnB_s (by omega)]; rcases xh243 with ⟨q1, q2⟩ | ⟨q1, q2⟩; (have q3 : b2i (decide (M0 752 v229 = AL M0)) = 1 := (by rw [decide_eq_true q2]; rfl); show _ + b2i (decide (M0 752 v229 = AL M0)) + _ = _; omega); (have q3 : b2i (decide (M0 752 v229 = AL M0)) = 0 := (by rw [decide_eq_false q2]; rfl); show _ + b2i (decide (M0 752 v229 = AL M0)) + _ = _; omega), fun q => by have q7 := ti234.2 q; omega⟩))
  exact wp_fg (le_s (le_s (le_s (le_s le_0)))) (c4_251 _ p1 0 rfl (by first | with_reducible assumption | omega) (by first | with_reducible assumption | omega) (by first | with_reducible assumption | omega) (by first | with_reducible assumption | omega) (by first | with_reducible assumption | omega) (by first | with_reducible assumption | omega) (⟨by show (0 : Int) + _ = _; omega, fun q => q⟩))
def fm_n8078_739 : Nat := 588478299384514420256828604055197388239859980165963579392
/-- IslandHallModel.hide -/
theorem n8078_739 {B : eB} (d : Nat) (M0 : Mm) (p1 : Int) (p2 : Int) (x739_7 : Int) (x739_24 : Int) (x739_25 : Int) (hP0 : Pw M0) (l1 : (-2147483648) ≤ p1) (u1 : p1 ≤ 2147483647) (l2 : (-2147483648) ≤ p2) (u2 : p2 ≤ 2147483647) (ex739_7 : M0 739 7 = x739_7) (lx739_7 : 0 ≤ x739_7) (ux739_7 : x739_7 ≤ 3000) (ex739_24 : M0 739 24 = x739_24) (lx739_24 : (-1) ≤ x739_24) (ux739_24 : x739_24 ≤ 2999) (ex739_25 : M0 739 25 = x739_25) (lx739_25 : (-2147483648) ≤ x739_25) (ux739_25 : x739_25 ≤ 2147483647) : Ct B (d + 4) 78 [R 739, I p1, I p2] M0 (qI fun z M => Pw M ∧ Fr fm_n8078_739 M0 M ∧ 0 ≤ z ∧ z ≤ 1 ∧ ((z = 0 ∧ PCK (fun i => decide (M0 752 i = AL M0)) x739_7 p1 (-1) ∧ M 739 24 = x739_24 ∧ M 739 25 = x739_25) ∨ (z = 1 ∧ PCK (fun i => decide (M0 752 i = AL M0)) x739_7 p1 (M 739 24) ∧ M 739 24 ≠ -1 ∧ M 739 25 = p2))) := by
  refine ct_of (d := d + 3) (k := 1) (L := [some (R 739), some (I p1), some (I p2), none]) rfl rfl rfl ?_
  have hF0 := Fr.rf fm_n8078_739 M0
  generalize hQ : (qI fun z M => Pw M ∧ Fr fm_n8078_739 M0 M ∧ 0 ≤ z ∧ z ≤ 1 ∧ ((z = 0 ∧ PCK (fun i => decide (M0 752 i = AL M0)) x739_7 p1 (-1) ∧ M 739 24 = x739_24 ∧ M 739 25 = x739_25) ∨ (z = 1 ∧ PCK (fun i => decide (M0 752 i = AL M0)) x739_7 p1 (M 739 24) ∧ M 739 24 ≠ -1 ∧ M 739 25 = p2))) = Q
  refine wk_al0 r78_0 (wk_c1 r78_1 (wk_putfi81 r78_2 fd_739_0 (wk_nw g_739_0 rfl hP0 hF0 (uf_739_0 (by decide)) ?_)))
  intro M1 hP2 hF3 e4
  refine wk_al0 r78_5 (wk_il1 r78_6 (wk_cv2 r78_7 kc_739_73 rfl (n8073_739 _ M1 p1 x739_7 hP2 (by first | with_reducible assumption | omega) (by first | with_reducible assumption | omega) (mUp_no e4 ex739_7 (Or.inr (by decide))) (by first | with_reducible assumption | omega) (by first | with_reducible assumption | omega)) (cqI ?_)))
  rintro v10 M5 ⟨hP6, hQ7, h11, h12, xh9⟩
  obtain rfl := Fr.same hQ7
  refine wk_is3 r78_10 rfl (wk_il3 r78_11 (wk_c1 r78_12 ?_))
  refine wk_icne r78_13 ⟨by omega, by omega⟩ (by decide) ?_ ?_
  · intro h13
    refine wk_al0 r78_18 (wk_il3 r78_19 (wk_putfi81 r78_20 fd_739_24 (wk_nw g_739_24 rfl hP2 hF3 (uf_739_24 ⟨by omega, by omega⟩) ?_)))
    intro M14 hP15 hF16 e17
    refine wk_al0 r78_23 (wk_il2 r78_24 (wk_putfi81 r78_25 fd_739_25 (wk_nw g_739_25 rfl hP15 hF16 (uf_739_25 ⟨by omega, by omega⟩) ?_)))
    intro M18 hP19 hF20 e21
    refine wk_c1 r78_28 ?_
    subst hQ; exact wk_zret r78_29 (by decide) (⟨rfl, _, rfl, hP19, hF20, by omega, by omega, Or.inr ⟨by omega, by have q9 := xh9; rw [(show (fun i => decide (M1 752 i = AL M1)) = (fun i => decide (M0 752 i = AL M0)) from funext fun i => by rw [show AL M1 = AL M0 by unfold AL; rw [e4, mUp_ne (Or.inr (by decide))], show M1 752 i = M0 752 i by rw [e4, mUp_ne (Or.inl (by decide))]])] at q9; rw [(mUp_no e21 (mUp_at e17) (Or.inr (by decide)))]; exact q9, by have := (mUp_no e21 (mUp_at e17) (Or.inr (by decide))); omega, by have := (mUp_at e21); omega⟩⟩)
  · intro h22
    refine wk_c1 r78_16 ?_
    subst hQ; exact wk_zret r78_17 (by decide) (⟨rfl, _, rfl, hP2, hF3, by omega, by omega, Or.inl ⟨by omega, by have q9 := xh9; rw [(show (fun i => decide (M1 752 i = AL M1)) = (fun i => decide (M0 752 i = AL M0)) from funext fun i => by rw [show AL M1 = AL M0 by unfold AL; rw [e4, mUp_ne (Or.inr (by decide))], show M1 752 i = M0 752 i by rw [e4, mUp_ne (Or.inl (by decide))]]), show v10 = -1 by omega] at q9; exact q9, by have := (mUp_no e4 ex739_24 (Or.inr (by decide))); omega, by have := (mUp_no e4 ex739_25 (Or.inr (by decide))); omega⟩⟩)
def fm_n8123_739 : Nat := 11692013098647223345629478661730264157247460343808
/-- IslandHallModel.right -/
theorem n8123_739 {B : eB} (d : Nat) (M0 : Mm) (p1 : Int) (p2 : Int) (x739_0 : Int) (hP0 : Pw M0) (l1 : 0 ≤ p1) (u1 : p1 ≤ 0) (l2 : 1 ≤ p2) (u2 : p2 ≤ 1) (ex739_0 : M0 739 0 = x739_0) (lx739_0 : 0 ≤ x739_0) (ux739_0 : x739_0 ≤ 1) : Ct B (d + 1) 123 [R 739, I p1, I p2] M0 (qI fun z M => Pw M ∧ Fr fm_n8123_739 M0 M ∧ 0 ≤ z ∧ z ≤ 0 ∧ 0 ≤ M 739 0 ∧ (z = 1 → 0 ≤ p1 + (-1)) ∧ (M0 739 0 = 0 → z = p1) ∧ ((M0 739 0 = 0 ∧ p1 = 0 → M 739 0 = p2) ∧ (M0 739 0 = 0 ∧ p1 ≠ 0 → M 739 0 = 0)) ∧ (∀ a i : Int, a ≠ 739 ∨ i ≠ 0 → M a i = M0 a i)) := by
  refine ct_of (d := d + 0) (k := 0) (L := [some (R 739), some (I p1), some (I p2)]) rfl rfl rfl ?_
  have hF0 := Fr.rf fm_n8123_739 M0
  generalize hQ : (qI fun z M => Pw M ∧ Fr fm_n8123_739 M0 M ∧ 0 ≤ z ∧ z ≤ 0 ∧ 0 ≤ M 739 0 ∧ (z = 1 → 0 ≤ p1 + (-1)) ∧ (M0 739 0 = 0 → z = p1) ∧ ((M0 739 0 = 0 ∧ p1 = 0 → M 739 0 = p2) ∧ (M0 739 0 = 0 ∧ p1 ≠ 0 → M 739 0 = 0)) ∧ (∀ a i : Int, a ≠ 739 ∨ i ≠ 0 → M a i = M0 a i)) = Q
  refine wk_al0 r123_0 (wk_getfi r123_1 fd_739_0 ex739_0 ?_)
  refine wk_ifne r123_4 ⟨by omega, by omega⟩ ?_ ?_
  · intro h1
    refine wk_al0 r123_16 (wk_getfi r123_17 fd_739_0 ex739_0 ?_)
    refine wk_ifne r123_20 ⟨by omega, by omega⟩ ?_ ?_
    · intro h2
      refine wk_c1 r123_27 ?_
      subst hQ; exact wk_zret r123_28 (by decide) (⟨rfl, _, rfl, hP0, hF0, by omega, by omega, by have := ex739_0; omega, by omega, by intro q; omega, by have := ex739_0; omega, fun a i q => rfl⟩)
    · intro h3
      exfalso
      omega
  · intro h4
    refine wk_il1 r123_7 ?_
    refine wk_ifne r123_8 ⟨by omega, by omega⟩ ?_ ?_
    · intro h5
      exfalso
      omega
    · intro h6
      refine wk_al0 r123_11 (wk_il2 r123_12 (wk_putfi81 r123_13 fd_739_0 (wk_nw g_739_0 rfl hP0 hF0 (uf_739_0 ⟨by omega, by omega⟩) ?_)))
      intro M7 hP8 hF9 e10
      refine wk_al0 r123_16 (wk_getfi r123_17 fd_739_0 (mUp_at e10) ?_)
      refine wk_ifne r123_20 ⟨by omega, by omega⟩ ?_ ?_
      · intro h11
        refine wk_c1 r123_27 ?_
        subst hQ; exact wk_zret r123_28 (by decide) (⟨rfl, _, rfl, hP8, hF9, by omega, by omega, by have := (mUp_at e10); omega, by omega, by intro q; omega, by have := (mUp_at e10); omega, fun a i q => by rw [e10, mUp_ne q]⟩)
      · intro h12
        exfalso
        omega
def fm_n8123_739v1 : Nat := 0
/-- IslandHallModel.right -/
theorem n8123_739v1 {B : eB} (d : Nat) (M0 : Mm) (p1 : Int) (p2 : Int) (x739_0 : Int) (hP0 : Pw M0) (l1 : 1 ≤ p1) (u1 : p1 ≤ 1) (l2 : 1 ≤ p2) (u2 : p2 ≤ 1) (ex739_0 : M0 739 0 = x739_0) (lx739_0 : 0 ≤ x739_0) (ux739_0 : x739_0 ≤ 1) : Ct B (d + 1) 123 [R 739, I p1, I p2] M0 (qI fun z M => Pw M ∧ Fr fm_n8123_739v1 M0 M ∧ 0 ≤ z ∧ z ≤ 1 ∧ 0 ≤ M 739 0 ∧ (z = 1 → 0 ≤ p1 + (-1)) ∧ (M0 739 0 = 0 → z = p1) ∧ ((M0 739 0 = 0 ∧ p1 = 0 → M 739 0 = p2) ∧ (M0 739 0 = 0 ∧ p1 ≠ 0 → M 739 0 = 0)) ∧ (∀ a i : Int, a ≠ 739 ∨ i ≠ 0 → M a i = M0 a i)) := by
  refine ct_of (d := d + 0) (k := 0) (L := [some (R 739), some (I p1), some (I p2)]) rfl rfl rfl ?_
  have hF0 := Fr.rf fm_n8123_739v1 M0
  generalize hQ : (qI fun z M => Pw M ∧ Fr fm_n8123_739v1 M0 M ∧ 0 ≤ z ∧ z ≤ 1 ∧ 0 ≤ M 739 0 ∧ (z = 1 → 0 ≤ p1 + (-1)) ∧ (M0 739 0 = 0 → z = p1) ∧ ((M0 739 0 = 0 ∧ p1 = 0 → M 739 0 = p2) ∧ (M0 739 0 = 0 ∧ p1 ≠ 0 → M 739 0 = 0)) ∧ (∀ a i : Int, a ≠ 739 ∨ i ≠ 0 → M a i = M0 a i)) = Q
  refine wk_al0 r123_0 (wk_getfi r123_1 fd_739_0 ex739_0 ?_)
  refine wk_ifne r123_4 ⟨by omega, by omega⟩ ?_ ?_
  · intro h1
    refine wk_al0 r123_16 (wk_getfi r123_17 fd_739_0 ex739_0 ?_)
    refine wk_ifne r123_20 ⟨by omega, by omega⟩ ?_ ?_
    · intro h2
      refine wk_c1 r123_27 ?_
      subst hQ; exact wk_zret r123_28 (by decide) (⟨rfl, _, rfl, hP0, hF0, by omega, by omega, by have := ex739_0; omega, by omega, by intro q; omega, by have := ex739_0; omega, fun a i q => rfl⟩)
    · intro h3
      exfalso
      omega
  · intro h4
    refine wk_il1 r123_7 ?_
    refine wk_ifne r123_8 ⟨by omega, by omega⟩ ?_ ?_
    · intro h5
      refine wk_al0 r123_16 (wk_getfi r123_17 fd_739_0 ex739_0 ?_)
      refine wk_ifne r123_20 ⟨by omega, by omega⟩ ?_ ?_
      · intro h6
        exfalso
        omega
      · intro h7
        refine wk_c1 r123_23 (wk_goto r123_24 ?_)
        subst hQ; exact wk_zret r123_28 (by decide) (⟨rfl, _, rfl, hP0, hF0, by omega, by omega, by have := ex739_0; omega, by omega, by intro q; omega, by have := ex739_0; omega, fun a i q => rfl⟩)
    · intro h8
      exfalso
      omega
def fm_n8121_739 : Nat := 1836637523942442802663096932759078943487889714457846392400524814804997636096
set_option maxHeartbeats 20000000 in
/-- IslandHallModel.reply -/
theorem n8121_739 {B : eB} (d : Nat) (M0 : Mm) (p1 : Int) (x739_13 : Int) (x739_21 : Int) (x739_15 : Int) (x739_7 : Int) (x739_1 : Int) (x739_24 : Int) (x739_25 : Int) (x739_0 : Int) (L : List Int) (hP0 : Pw M0) (l1 : (-2147483648) ≤ p1) (u1 : p1 ≤ 2147483647) (ex739_13 : M0 739 13 = x739_13) (lx739_13 : 0 ≤ x739_13) (ux739_13 : x739_13 ≤ 30) (ex739_21 : M0 739 21 = x739_21) (lx739_21 : 0 ≤ x739_21) (ux739_21 : x739_21 ≤ 10) (ex739_15 : M0 739 15 = x739_15) (lx739_15 : 0 ≤ x739_15) (ux739_15 : x739_15 ≤ 12) (ex739_7 : M0 739 7 = x739_7) (lx739_7 : 0 ≤ x739_7) (ux739_7 : x739_7 ≤ 3000) (ex739_1 : M0 739 1 = x739_1) (lx739_1 : 0 ≤ x739_1) (ux739_1 : x739_1 ≤ 7) (ex739_24 : M0 739 24 = x739_24) (lx739_24 : (-1) ≤ x739_24) (ux739_24 : x739_24 ≤ 2999) (ex739_25 : M0 739 25 = x739_25) (lx739_25 : (-2147483648) ≤ x739_25) (ux739_25 : x739_25 ≤ 2147483647) (ex739_0 : M0 739 0 = x739_0) (lx739_0 : 0 ≤ x739_0) (ux739_0 : x739_0 ≤ 1) (xp0 : (0 ≤ p1 → p1 < x739_21 → LST (fun k => M0 747 k) (400 * M0 754 p1) L)) (xp1 : ∀ w : Int, 0 ≤ w → w < x739_7 → (0 ≤ M0 751 w ∧ M0 751 w < pw x739_15) ∧ (0 ≤ M0 752 w ∧ M0 752 w < pw x739_15)) (pp_WS : WS M0) (pp_QW : QW M0) : Ct B (d + 7) 121 [R 739, I p1] M0 (qI fun z M => Pw M ∧ Fr fm_n8121_739 M0 M ∧ (-1) ≤ z ∧ z ≤ 1 ∧ (((z = 0 ∨ z = -1) ∧ (∀ a i : Int, a ≠ 739 ∨ i ≠ 0 → M a i = M0 a i) ∧ (p1 < 0 ∨ x739_21 ≤ p1 ∨ x739_15 = 12 ∨ x739_24 = -1)) ∨ (0 ≤ p1 ∧ p1 < x739_21 ∧ x739_15 < 12 ∧ x739_24 ≠ -1 ∧ (∀ b, runR (evF M0 x739_24 x739_15 (M0 751 x739_24)) L [] = [b] → (lyF M0 x739_24 (M0 753 p1) x739_15 = 2 ∧ M 739 25 = SDN x739_25 ∧ z = M 739 25 / 65536 % 2) ∨ (lyF M0 x739_24 (M0 753 p1) x739_15 ≠ 2 ∧ M 739 25 = x739_25 ∧ z = 1 - b2i (csV (evF M0 x739_24 x739_15 (M0 751 x739_24)) (M0 753 p1) 0 b))) ∧ 0 ≤ z ∧ M 739 15 = x739_15 + 1 ∧ ((∀ k : Int, M 748 k = if k = x739_15 then (M0 753 p1) else M0 748 k) ∧ (∀ k : Int, M 749 k = if k = x739_15 then (M0 754 p1) else M0 749 k) ∧ (∀ k : Int, M 750 k = if k = x739_15 then z else M0 750 k)) ∧ EVW M0 M L x739_15 (M0 753 p1) z x739_7)) ∧ ((p1 < 0 ∨ x739_21 ≤ p1 → M 739 0 = 1) ∧ (0 ≤ p1 ∧ p1 < x739_21 → M 739 0 = 0 ∧ (z = 0 → x739_15 < 12 ∧ x739_24 ≠ -1))) ∧ (WS M) ∧ (QW M)) := by
  refine ct_of (d := d + 6) (k := 4) (L := [some (R 739), some (I p1), none, none, none, none]) rfl rfl rfl ?_
  have hF0 := Fr.rf fm_n8121_739 M0
  generalize hQ : (qI fun z M => Pw M ∧ Fr fm_n8121_739 M0 M ∧ (-1) ≤ z ∧ z ≤ 1 ∧ (((z = 0 ∨ z = -1) ∧ (∀ a i : Int, a ≠ 739 ∨ i ≠ 0 → M a i = M0 a i) ∧ (p1 < 0 ∨ x739_21 ≤ p1 ∨ x739_15 = 12 ∨ x739_24 = -1)) ∨ (0 ≤ p1 ∧ p1 < x739_21 ∧ x739_15 < 12 ∧ x739_24 ≠ -1 ∧ (∀ b, runR (evF M0 x739_24 x739_15 (M0 751 x739_24)) L [] = [b] → (lyF M0 x739_24 (M0 753 p1) x739_15 = 2 ∧ M 739 25 = SDN x739_25 ∧ z = M 739 25 / 65536 % 2) ∨ (lyF M0 x739_24 (M0 753 p1) x739_15 ≠ 2 ∧ M 739 25 = x739_25 ∧ z = 1 - b2i (csV (evF M0 x739_24 x739_15 (M0 751 x739_24)) (M0 753 p1) 0 b))) ∧ 0 ≤ z ∧ M 739 15 = x739_15 + 1 ∧ ((∀ k : Int, M 748 k = if k = x739_15 then (M0 753 p1) else M0 748 k) ∧ (∀ k : Int, M 749 k = if k = x739_15 then (M0 754 p1) else M0 749 k) ∧ (∀ k : Int, M 750 k = if k = x739_15 then z else M0 750 k)) ∧ EVW M0 M L x739_15 (M0 753 p1) z x739_7)) ∧ ((p1 < 0 ∨ x739_21 ≤ p1 → M 739 0 = 1) ∧ (0 ≤ p1 ∧ p1 < x739_21 → M 739 0 = 0 ∧ (z = 0 → x739_15 < 12 ∧ x739_24 ≠ -1))) ∧ (WS M) ∧ (QW M)) = Q
  refine wk_al0 r121_0 (wk_c1 r121_1 (wk_putfi81 r121_2 fd_739_0 (wk_nw g_739_0 rfl hP0 hF0 (uf_739_0 (by decide)) ?_)))
  intro M1 hP2 hF3 e4
  refine wk_al0 r121_5 (wk_il1 r121_6 ?_)
  refine wk_iflt r121_7 ⟨by omega, by omega⟩ ?_ ?_
  · intro h5
    refine wk_c1 r121_22 (wk_c1 r121_23 (wk_cv3 r121_24 kc_739_123 rfl (n8123_739 _ M1 0 1 0 hP2 (by decide) (by decide) (by decide) (by decide) (mUp_at e4) (by first | with_reducible assumption | omega) (by first | with_reducible assumption | omega)) (cqI ?_)))
    rintro v15 M6 ⟨hP7, hQ8, h16, h17, h10, h11, xh12, xh13, xh14⟩
    have hF9 : Fr fm_n8121_739 M0 M6 := hF3.tr hQ8 rfl
    obtain ⟨v18, e19⟩ : ∃ v, M6 739 0 = v := ⟨_, rfl⟩
    have h20 := (bf_739_0 hP7).1; rw [e19] at h20
    have h21 := (bf_739_0 hP7).2; rw [e19] at h21
    have h22 := xh12
    have h23 := xh13
    have h24 := (mUp_at e4)
    have h25 := e19
    refine wk_ifne r121_27 ⟨by omega, by omega⟩ ?_ ?_
    · intro h26
      exfalso
      omega
    · intro h27
      refine wk_c1 r121_30 ?_
      subst hQ; exact wk_iret r121_31 (⟨rfl, _, rfl, hP7, hF9, by omega, by omega, Or.inl ⟨by omega, fun a i q => by rw [xh14 a i q, e4, mUp_ne q], by omega⟩, by have := e19; omega, (WS_sm (Sm.fr hQ8 rfl) (WS_sm (Sm.up e4 g_739_0 rfl) pp_WS)), (QW_sm (Sm.fr hQ8 rfl) (QW_sm (Sm.up e4 g_739_0 rfl) pp_QW))⟩)
  · intro h28
    refine wk_il1 r121_10 (wk_al0 r121_11 (wk_getfi r121_12 fd_739_21 (mUp_no e4 ex739_21 (Or.inr (by decide))) ?_))
    refine wk_icge r121_15 ⟨by omega, by omega⟩ ⟨by omega, by omega⟩ ?_ ?_
    · intro h29
      refine wk_c1 r121_22 (wk_c1 r121_23 (wk_cv3 r121_24 kc_739_123 rfl (n8123_739 _ M1 0 1 0 hP2 (by decide) (by decide) (by decide) (by decide) (mUp_at e4) (by first | with_reducible assumption | omega) (by first | with_reducible assumption | omega)) (cqI ?_)))
      rintro v39 M30 ⟨hP31, hQ32, h40, h41, h34, h35, xh36, xh37, xh38⟩
      have hF33 : Fr fm_n8121_739 M0 M30 := hF3.tr hQ32 rfl
      obtain ⟨v42, e43⟩ : ∃ v, M30 739 0 = v := ⟨_, rfl⟩
      have h44 := (bf_739_0 hP31).1; rw [e43] at h44
      have h45 := (bf_739_0 hP31).2; rw [e43] at h45
      have h46 := xh36
      have h47 := xh37
      have h48 := (mUp_at e4)
      have h49 := e43
      refine wk_ifne r121_27 ⟨by omega, by omega⟩ ?_ ?_
      · intro h50
        exfalso
        omega
      · intro h51
        refine wk_c1 r121_30 ?_
        subst hQ; exact wk_iret r121_31 (⟨rfl, _, rfl, hP31, hF33, by omega, by omega, Or.inl ⟨by omega, fun a i q => by rw [xh38 a i q, e4, mUp_ne q], by omega⟩, by have := e43; omega, (WS_sm (Sm.fr hQ32 rfl) (WS_sm (Sm.up e4 g_739_0 rfl) pp_WS)), (QW_sm (Sm.fr hQ32 rfl) (QW_sm (Sm.up e4 g_739_0 rfl) pp_QW))⟩)
    · intro h52
      refine wk_c1 r121_18 (wk_goto r121_19 (wk_c1 r121_23 (wk_cv3 r121_24 kc_739_123 rfl (n8123_739v1 _ M1 1 1 0 hP2 (by decide) (by decide) (by decide) (by decide) (mUp_at e4) (by first | with_reducible assumption | omega) (by first | with_reducible assumption | omega)) (cqI ?_))))
      rintro v62 M53 ⟨hP54, hQ55, h63, h64, h57, h58, xh59, xh60, xh61⟩
      obtain rfl := Fr.same hQ55
      have e65 := (mUp_at e4)
      have h66 := xh59
      have h67 := xh60
      have h68 := (mUp_at e4)
      have h69 := (mUp_at e4)
      refine wk_ifne r121_27 ⟨by omega, by omega⟩ ?_ ?_
      · intro h70
        replace h58 := h58 (z1_of h63 h64 h70)
        refine wk_al0 r121_32 (wk_getfi r121_33 fd_739_15 (mUp_no e4 ex739_15 (Or.inr (by decide))) (wk_c2 r121_36 ?_))
        refine wk_iceq r121_38 ⟨by omega, by omega⟩ (by decide) ?_ ?_
        · intro h71
          refine wk_c1 r121_49 ?_
          subst hQ; exact wk_iret r121_50 (⟨rfl, _, rfl, hP2, hF3, by omega, by omega, Or.inl ⟨by omega, fun a i q => by rw [e4, mUp_ne q], by omega⟩, by have := (mUp_at e4); omega, (WS_sm (Sm.up e4 g_739_0 rfl) pp_WS), (QW_sm (Sm.up e4 g_739_0 rfl) pp_QW)⟩)
        · intro h72
          refine wk_al0 r121_41 (wk_getfi r121_42 fd_739_24 (mUp_no e4 ex739_24 (Or.inr (by decide))) (wk_c1 r121_45 ?_))
          refine wk_icne r121_46 ⟨by omega, by omega⟩ (by decide) ?_ ?_
          · intro h73
            refine wk_al0 r121_51 (wk_al0 r121_52 (wk_getfi r121_53 fd_739_24 (mUp_no e4 ex739_24 (Or.inr (by decide))) (wk_al0 r121_56 (wk_getfr r121_57 fd_739_22 (br_739_22 hP2) (wk_il1 r121_60 (wk_ialdb r121_61 ar_753 ⟨by omega, by omega⟩ (fun q0 q1 => ba_753 hP2 q0 q1) ?_))))))
            intro v74 h76 h77 e75
            refine wk_al0 r121_62 (wk_getfi r121_63 fd_739_15 (mUp_no e4 ex739_15 (Or.inr (by decide))) ?_)
            obtain ⟨v78, e79⟩ : ∃ v, M1 739 3 = v := ⟨_, rfl⟩
            have h80 := (bf_739_3 hP2).1; rw [e79] at h80
            have h81 := (bf_739_3 hP2).2; rw [e79] at h81
            refine wk_cv4 r121_66 kc_739_107 rfl (n8107_739 _ M1 x739_24 v74 x739_15 v78 hP2 (by first | with_reducible assumption | omega) (by first | with_reducible assumption | omega) (by first | with_reducible assumption | omega) (by first | with_reducible assumption | omega) (by first | with_reducible assumption | omega) (by first | with_reducible assumption | omega) e79 (by first | with_reducible assumption | omega) (by first | with_reducible assumption | omega)) (cqI ?_)
            rintro v87 M82 ⟨hP83, hQ84, h88, h89, xh86⟩
            obtain rfl := Fr.same hQ84
            refine wk_is2 r121_69 rfl (wk_al0 r121_70 (wk_al0 r121_71 (wk_getfr r121_72 fd_739_23 (br_739_23 hP2) (wk_il1 r121_75 (wk_ialdb r121_76 ar_754 ⟨by omega, by omega⟩ (fun q0 q1 => ba_754 hP2 q0 q1) ?_)))))
            intro v90 h92 h93 e91
            have h94 : v90 < x739_13 := by have q := (QW_sm (Sm.up e4 g_739_0 rfl) pp_QW) p1 (by omega) (by rw [(mUp_no e4 ex739_21 (Or.inr (by decide)))]; omega); rw [(mUp_no e4 ex739_13 (Or.inr (by decide))), e91] at q; exact q
            refine wk_al0 r121_77 (wk_getfi r121_78 fd_739_24 (mUp_no e4 ex739_24 (Or.inr (by decide))) (wk_al0 r121_81 (wk_getfi r121_82 fd_739_15 (mUp_no e4 ex739_15 (Or.inr (by decide))) (wk_al0 r121_85 (wk_getfr r121_86 fd_739_19 (br_739_19 hP2) (wk_al0 r121_89 (wk_getfi r121_90 fd_739_24 (mUp_no e4 ex739_24 (Or.inr (by decide))) (wk_ialdb r121_93 ar_751 ⟨by omega, by omega⟩ (fun q0 q1 => ba_751 hP2 q0 q1) ?_))))))))
            intro v95 h97 h98 e96
            refine wk_cv5 r121_94 kc_739_128 rfl (n8128_739 _ M1 v90 x739_24 x739_15 v95 x739_13 x739_1 L hP2 (by first | with_reducible assumption | omega) (by first | with_reducible assumption | omega) (by first | with_reducible assumption | omega) (by first | with_reducible assumption | omega) (by first | with_reducible assumption | omega) (by first | with_reducible assumption | omega) (by first | with_reducible assumption | omega) (by first | with_reducible assumption | omega) (mUp_no e4 ex739_13 (Or.inr (by decide))) (by first | with_reducible assumption | omega) (by first | with_reducible assumption | omega) (mUp_no e4 ex739_1 (Or.inr (by decide))) (by first | with_reducible assumption | omega) (by first | with_reducible assumption | omega) (by omega) (by rw [show (fun k => M1 747 k) = (fun k => M0 747 k) from funext fun k => hF3.at (ga_747 k) rfl, show v90 = M0 754 p1 by rw [← e91, e4, mUp_ne (Or.inl (by decide))]]; exact xp0 (by omega) (by omega)) (WS_sm (Sm.up e4 g_739_0 rfl) pp_WS)) (cqI ?_)
            rintro v104 M99 ⟨hP100, hQ101, h105, h106, xh103⟩
            have hF102 : Fr fm_n8121_739 M0 M99 := hF3.tr hQ101 rfl
            refine wk_is3 r121_97 rfl (wk_il2 r121_98 (wk_c1 r121_99 ?_))
            refine wk_icne r121_100 ⟨by omega, by omega⟩ (by decide) ?_ ?_
            · intro h107
              refine wk_il3 r121_109 (wk_is4 r121_110 rfl (wk_il4 r121_112 (wk_c1 r121_114 ?_)))
              refine wk_icne r121_115 ⟨by omega, by omega⟩ (by decide) ?_ ?_
              · intro h108
                refine wk_c1 r121_130 (wk_al0 r121_131 (wk_getfr r121_132 fd_739_12 (br_739_12 hP100) (wk_al0 r121_135 (wk_getfi r121_136 fd_739_24 ((hQ101.at g_739_24 rfl).trans (mUp_no e4 ex739_24 (Or.inr (by decide)))) (wk_ialdb r121_139 ar_746 ⟨by omega, by omega⟩ (fun q0 q1 => ba_746 hP100 q0 q1) ?_)))))
                intro v109 h111 h112 e110
                refine wk_isub r121_140 (wk_is5 r121_141 rfl (wk_il2 r121_143 (wk_c1 r121_144 ?_)))
                refine wk_icne r121_145 ⟨by omega, by omega⟩ (by decide) ?_ ?_
                · intro h113
                  refine wk_al0 r121_179 (wk_al0 r121_180 (wk_getfr r121_181 fd_739_22 (br_739_22 hP100) (wk_il1 r121_184 (wk_ialdb r121_185 ar_753 ⟨by omega, by omega⟩ (fun q0 q1 => ba_753 hP100 q0 q1) ?_))))
                  intro v114 h116 h117 e115
                  refine wk_al0 r121_186 (wk_getfr r121_187 fd_739_23 (br_739_23 hP100) (wk_il1 r121_190 (wk_ialdb r121_191 ar_754 ⟨by omega, by omega⟩ (fun q0 q1 => ba_754 hP100 q0 q1) ?_)))
                  intro v118 h120 h121 e119
                  have h122 : v118 < x739_13 := by have q := (QW_sm (Sm.fr hQ101 rfl) (QW_sm (Sm.up e4 g_739_0 rfl) pp_QW)) p1 (by omega) (by rw [((hQ101.at g_739_21 rfl).trans (mUp_no e4 ex739_21 (Or.inr (by decide))))]; omega); rw [((hQ101.at g_739_13 rfl).trans (mUp_no e4 ex739_13 (Or.inr (by decide)))), e119] at q; exact q
                  refine wk_il5 r121_192 (wk_cv4 r121_194 kc_739_67 rfl (n8067_739 _ M99 v114 v118 (1 - v109) x739_13 x739_15 x739_7 x739_1 L hP100 (by first | with_reducible assumption | omega) (by first | with_reducible assumption | omega) (by first | with_reducible assumption | omega) (by first | with_reducible assumption | omega) (by first | with_reducible assumption | omega) (by first | with_reducible assumption | omega) ((hQ101.at g_739_13 rfl).trans (mUp_no e4 ex739_13 (Or.inr (by decide)))) (by first | with_reducible assumption | omega) (by first | with_reducible assumption | omega) ((hQ101.at g_739_15 rfl).trans (mUp_no e4 ex739_15 (Or.inr (by decide)))) (by first | with_reducible assumption | omega) (by first | with_reducible assumption | omega) ((hQ101.at g_739_7 rfl).trans (mUp_no e4 ex739_7 (Or.inr (by decide)))) (by first | with_reducible assumption | omega) (by first | with_reducible assumption | omega) ((hQ101.at g_739_1 rfl).trans (mUp_no e4 ex739_1 (Or.inr (by decide)))) (by first | with_reducible assumption | omega) (by first | with_reducible assumption | omega) (by omega) (by rw [show (fun k => M99 747 k) = (fun k => M0 747 k) from funext fun k => hF102.at (ga_747 k) rfl, show v118 = M0 754 p1 by rw [← e119, hQ101.at (ga_754 _) rfl, e4, mUp_ne (Or.inl (by decide))]]; exact xp0 (by omega) (by omega)) (fun w a b => by rw [show M99 751 w = M0 751 w by rw [hQ101.at (ga_751 _) rfl, e4, mUp_ne (Or.inl (by decide))], show M99 752 w = M0 752 w by rw [hQ101.at (ga_752 _) rfl, e4, mUp_ne (Or.inl (by decide))]]; exact xp1 w a b) (WS_sm (Sm.fr hQ101 rfl) (WS_sm (Sm.up e4 g_739_0 rfl) pp_WS))) (cqI ?_))
                  rintro v129 M123 ⟨hP124, hQ125, h130, h131, xh127, pr128⟩
                  have hF126 : Fr fm_n8121_739 M0 M123 := hF102.tr hQ125 rfl
                  refine wk_popi r121_197 (wk_il5 r121_198 ?_)
                  subst hQ; exact wk_iret r121_200 (⟨rfl, _, rfl, hP124, hF126, by omega, by omega, Or.inr (by rcases xh127 with ⟨q1, -⟩ | ⟨q1, q2, q3, q4, q5⟩; (omega); exact ⟨by omega, by omega, by omega, by omega, fun b hb => Or.inr ⟨by rw [← (show v87 = lyF M0 x739_24 (M0 753 p1) x739_15 by rw [← (show v74 = M0 753 p1 by rw [← e75, e4, mUp_ne (Or.inl (by decide))]), ← evF_20 (M := M0) (so := M0 751 x739_24) (by omega) (by omega), ← (show evF M1 x739_24 x739_15 v95 = evF M0 x739_24 x739_15 (M0 751 x739_24) by rw [← e96, show M1 751 x739_24 = M0 751 x739_24 by rw [e4, mUp_ne (Or.inl (by decide))]]; exact evF_748 (fun a q => by rw [e4, mUp_ne (Or.inl (by omega))]) (fun k q => by rw [e4, mUp_ne (Or.inl (by decide))]) (by rw [e4, mUp_ne (Or.inr (by decide))]) (by rw [e4, mUp_ne (Or.inr (by decide))])), evF_20 (by omega) (by omega)]; exact xh86)]; omega, by have q8 := ((hQ125.at g_739_25 rfl).trans ((hQ101.at g_739_25 rfl).trans (mUp_no e4 ex739_25 (Or.inr (by decide))))); omega, rp_mk (ly := v87) (so := v104) (y := v109) (so2 := v104) (by rw [evF_20 (by have := (show v74 = M0 753 p1 by rw [← e75, e4, mUp_ne (Or.inl (by decide))]); omega) (by have := (show v74 = M0 753 p1 by rw [← e75, e4, mUp_ne (Or.inl (by decide))]); omega), ← (show v87 = lyF M0 x739_24 (M0 753 p1) x739_15 by rw [← (show v74 = M0 753 p1 by rw [← e75, e4, mUp_ne (Or.inl (by decide))]), ← evF_20 (M := M0) (so := M0 751 x739_24) (by omega) (by omega), ← (show evF M1 x739_24 x739_15 v95 = evF M0 x739_24 x739_15 (M0 751 x739_24) by rw [← e96, show M1 751 x739_24 = M0 751 x739_24 by rw [e4, mUp_ne (Or.inl (by decide))]]; exact evF_748 (fun a q => by rw [e4, mUp_ne (Or.inl (by omega))]) (fun k q => by rw [e4, mUp_ne (Or.inl (by decide))]) (by rw [e4, mUp_ne (Or.inr (by decide))]) (by rw [e4, mUp_ne (Or.inr (by decide))])), evF_20 (by omega) (by omega)]; exact xh86)]) (by omega) (by rw [evF_12, ← e110, hQ101.at (ga_746 _) rfl, e4, mUp_ne (Or.inl (by decide))]) (by omega) (xh103 b (by rw [(show evF M1 x739_24 x739_15 v95 = evF M0 x739_24 x739_15 (M0 751 x739_24) by rw [← e96, show M1 751 x739_24 = M0 751 x739_24 by rw [e4, mUp_ne (Or.inl (by decide))]]; exact evF_748 (fun a q => by rw [e4, mUp_ne (Or.inl (by omega))]) (fun k q => by rw [e4, mUp_ne (Or.inl (by decide))]) (by rw [e4, mUp_ne (Or.inr (by decide))]) (by rw [e4, mUp_ne (Or.inr (by decide))]))]; exact hb)) (by omega) (by omega)⟩, by omega, by rw [show (x739_15 : Int) + 1 = x739_15 + 1 from rfl]; exact q3, ⟨fun k => by rw [q4.1 k, show M99 748 k = M0 748 k by rw [hQ101.at (ga_748 _) rfl, e4, mUp_ne (Or.inl (by decide))], (show v114 = M0 753 p1 by rw [← e115, hQ101.at (ga_753 _) rfl, e4, mUp_ne (Or.inl (by decide))])], fun k => by rw [q4.2.1 k, show M99 749 k = M0 749 k by rw [hQ101.at (ga_749 _) rfl, e4, mUp_ne (Or.inl (by decide))], (show v118 = M0 754 p1 by rw [← e119, hQ101.at (ga_754 _) rfl, e4, mUp_ne (Or.inl (by decide))])], fun k => by rw [q4.2.2 k, show M99 750 k = M0 750 k by rw [hQ101.at (ga_750 _) rfl, e4, mUp_ne (Or.inl (by decide))]]⟩, by rw [← (show v114 = M0 753 p1 by rw [← e115, hQ101.at (ga_753 _) rfl, e4, mUp_ne (Or.inl (by decide))])]; exact (EVW_bs (M0 := M0) q5 (fun a i q => by rcases q with rfl | rfl | rfl | rfl | rfl | rfl | rfl | rfl; (rw [hQ101.at (ga_742 _) rfl, e4, mUp_ne (Or.inl (by decide))]); (rw [hQ101.at (ga_743 _) rfl, e4, mUp_ne (Or.inl (by decide))]); (rw [hQ101.at (ga_744 _) rfl, e4, mUp_ne (Or.inl (by decide))]); (rw [hQ101.at (ga_745 _) rfl, e4, mUp_ne (Or.inl (by decide))]); (rw [hQ101.at (ga_746 _) rfl, e4, mUp_ne (Or.inl (by decide))]); (rw [hQ101.at (ga_748 _) rfl, e4, mUp_ne (Or.inl (by decide))]); (rw [hQ101.at (ga_751 _) rfl, e4, mUp_ne (Or.inl (by decide))]); (rw [hQ101.at (ga_752 _) rfl, e4, mUp_ne (Or.inl (by decide))])) (by rw [hQ101.at g_739_1 rfl, e4, mUp_ne (Or.inr (by decide))]) (by rw [hQ101.at g_739_3 rfl, e4, mUp_ne (Or.inr (by decide))]))⟩), by have := ((hQ125.at g_739_0 rfl).trans ((hQ101.at g_739_0 rfl).trans (mUp_at e4))); omega, pr128, (QW_sm (Sm.fr hQ125 rfl) (QW_sm (Sm.fr hQ101 rfl) (QW_sm (Sm.up e4 g_739_0 rfl) pp_QW)))⟩)
                · intro h132
                  refine wk_al0 r121_148 (wk_al0 r121_149 (wk_getfi r121_150 fd_739_25 ((hQ101.at g_739_25 rfl).trans (mUp_no e4 ex739_25 (Or.inr (by decide)))) (wk_c5 r121_153 (wk_imul r121_156 (wk_wrap ?_)))))
                  intro v133 h134 h135 h136
                  refine wk_c3 r121_157 (wk_iadd r121_160 (wk_wrap ?_))
                  intro v137 h138 h139 h140
                  refine wk_putfi81 r121_161 fd_739_25 (wk_nw g_739_25 rfl hP100 hF102 (uf_739_25 ⟨by omega, by omega⟩) ?_)
                  intro M141 hP142 hF143 e144
                  refine wk_al0 r121_164 (wk_getfi r121_165 fd_739_25 (mUp_at e144) (wk_c2 r121_168 (wk_ishrc r121_170 ⟨by omega, by omega⟩ (by decide) pwl_16 (wk_c3 r121_171 (wk_iandc 15 32768 r121_174 ⟨rfl, by decide⟩ rfl (wk_c1 r121_175 (wk_irem r121_176 ⟨by omega, by omega⟩ (by decide) (wk_is5 r121_177 rfl ?_))))))))
                  refine wk_al0 r121_179 (wk_al0 r121_180 (wk_getfr r121_181 fd_739_22 (br_739_22 hP142) (wk_il1 r121_184 (wk_ialdb r121_185 ar_753 ⟨by omega, by omega⟩ (fun q0 q1 => ba_753 hP142 q0 q1) ?_))))
                  intro v148 h150 h151 e149
                  refine wk_al0 r121_186 (wk_getfr r121_187 fd_739_23 (br_739_23 hP142) (wk_il1 r121_190 (wk_ialdb r121_191 ar_754 ⟨by omega, by omega⟩ (fun q0 q1 => ba_754 hP142 q0 q1) ?_)))
                  intro v152 h154 h155 e153
                  have h156 : v152 < x739_13 := by have q := (QW_sm (Sm.up e144 g_739_25 rfl) (QW_sm (Sm.fr hQ101 rfl) (QW_sm (Sm.up e4 g_739_0 rfl) pp_QW))) p1 (by omega) (by rw [(mUp_no e144 ((hQ101.at g_739_21 rfl).trans (mUp_no e4 ex739_21 (Or.inr (by decide)))) (Or.inr (by decide)))]; omega); rw [(mUp_no e144 ((hQ101.at g_739_13 rfl).trans (mUp_no e4 ex739_13 (Or.inr (by decide)))) (Or.inr (by decide))), e153] at q; exact q
                  refine wk_il5 r121_192 (wk_cv4 r121_194 kc_739_67 rfl (n8067_739 _ M141 v148 v152 (((v137 / 65536) % 32768) % 2) x739_13 x739_15 x739_7 x739_1 L hP142 (by first | with_reducible assumption | omega) (by first | with_reducible assumption | omega) (by first | with_reducible assumption | omega) (by first | with_reducible assumption | omega) (by first | with_reducible assumption | omega) (by first | with_reducible assumption | omega) (mUp_no e144 ((hQ101.at g_739_13 rfl).trans (mUp_no e4 ex739_13 (Or.inr (by decide)))) (Or.inr (by decide))) (by first | with_reducible assumption | omega) (by first | with_reducible assumption | omega) (mUp_no e144 ((hQ101.at g_739_15 rfl).trans (mUp_no e4 ex739_15 (Or.inr (by decide)))) (Or.inr (by decide))) (by first | with_reducible assumption | omega) (by first | with_reducible assumption | omega) (mUp_no e144 ((hQ101.at g_739_7 rfl).trans (mUp_no e4 ex739_7 (Or.inr (by decide)))) (Or.inr (by decide))) (by first | with_reducible assumption | omega) (by first | with_reducible assumption | omega) (mUp_no e144 ((hQ101.at g_739_1 rfl).trans (mUp_no e4 ex739_1 (Or.inr (by decide)))) (Or.inr (by decide))) (by first | with_reducible assumption | omega) (by first | with_reducible assumption | omega) (by omega) (by rw [show (fun k => M141 747 k) = (fun k => M0 747 k) from funext fun k => hF143.at (ga_747 k) rfl, show v152 = M0 754 p1 by rw [← e153, e144, mUp_ne (Or.inl (by decide)), hQ101.at (ga_754 _) rfl, e4, mUp_ne (Or.inl (by decide))]]; exact xp0 (by omega) (by omega)) (fun w a b => by rw [show M141 751 w = M0 751 w by rw [e144, mUp_ne (Or.inl (by decide)), hQ101.at (ga_751 _) rfl, e4, mUp_ne (Or.inl (by decide))], show M141 752 w = M0 752 w by rw [e144, mUp_ne (Or.inl (by decide)), hQ101.at (ga_752 _) rfl, e4, mUp_ne (Or.inl (by decide))]]; exact xp1 w a b) (WS_sm (Sm.up e144 g_739_25 rfl) (WS_sm (Sm.fr hQ101 rfl) (WS_sm (Sm.up e4 g_739_0 rfl) pp_WS)))) (cqI ?_))
                  rintro v163 M157 ⟨hP158, hQ159, h164, h165, xh161, pr162⟩
                  have hF160 : Fr fm_n8121_739 M0 M157 := hF143.tr hQ159 rfl
                  refine wk_popi r121_197 (wk_il5 r121_198 ?_)
                  subst hQ; exact wk_iret r121_200 (⟨rfl, _, rfl, hP158, hF160, by omega, by omega, Or.inr (by rcases xh161 with ⟨q1, -⟩ | ⟨q1, q2, q3, q4, q5⟩; (omega); exact ⟨by omega, by omega, by omega, by omega, fun b hb => Or.inl ⟨by rw [← (show v87 = lyF M0 x739_24 (M0 753 p1) x739_15 by rw [← (show v74 = M0 753 p1 by rw [← e75, e4, mUp_ne (Or.inl (by decide))]), ← evF_20 (M := M0) (so := M0 751 x739_24) (by omega) (by omega), ← (show evF M1 x739_24 x739_15 v95 = evF M0 x739_24 x739_15 (M0 751 x739_24) by rw [← e96, show M1 751 x739_24 = M0 751 x739_24 by rw [e4, mUp_ne (Or.inl (by decide))]]; exact evF_748 (fun a q => by rw [e4, mUp_ne (Or.inl (by omega))]) (fun k q => by rw [e4, mUp_ne (Or.inl (by decide))]) (by rw [e4, mUp_ne (Or.inr (by decide))]) (by rw [e4, mUp_ne (Or.inr (by decide))])), evF_20 (by omega) (by omega)]; exact xh86)]; omega, by have q8 := ((hQ159.at g_739_25 rfl).trans (mUp_at e144)); rw [q8]; have q7 := h136; have q6 := h140; unfold SDN wrI; omega, by have q8 := ((hQ159.at g_739_25 rfl).trans (mUp_at e144)); rw [q8]; omega⟩, by omega, by rw [show (x739_15 : Int) + 1 = x739_15 + 1 from rfl]; exact q3, ⟨fun k => by rw [q4.1 k, show M141 748 k = M0 748 k by rw [e144, mUp_ne (Or.inl (by decide)), hQ101.at (ga_748 _) rfl, e4, mUp_ne (Or.inl (by decide))], (show v148 = M0 753 p1 by rw [← e149, e144, mUp_ne (Or.inl (by decide)), hQ101.at (ga_753 _) rfl, e4, mUp_ne (Or.inl (by decide))])], fun k => by rw [q4.2.1 k, show M141 749 k = M0 749 k by rw [e144, mUp_ne (Or.inl (by decide)), hQ101.at (ga_749 _) rfl, e4, mUp_ne (Or.inl (by decide))], (show v152 = M0 754 p1 by rw [← e153, e144, mUp_ne (Or.inl (by decide)), hQ101.at (ga_754 _) rfl, e4, mUp_ne (Or.inl (by decide))])], fun k => by rw [q4.2.2 k, show M141 750 k = M0 750 k by rw [e144, mUp_ne (Or.inl (by decide)), hQ101.at (ga_750 _) rfl, e4, mUp_ne (Or.inl (by decide))]]⟩, by rw [← (show v148 = M0 753 p1 by rw [← e149, e144, mUp_ne (Or.inl (by decide)), hQ101.at (ga_753 _) rfl, e4, mUp_ne (Or.inl (by decide))])]; exact (EVW_bs (M0 := M0) q5 (fun a i q => by rcases q with rfl | rfl | rfl | rfl | rfl | rfl | rfl | rfl; (rw [e144, mUp_ne (Or.inl (by decide)), hQ101.at (ga_742 _) rfl, e4, mUp_ne (Or.inl (by decide))]); (rw [e144, mUp_ne (Or.inl (by decide)), hQ101.at (ga_743 _) rfl, e4, mUp_ne (Or.inl (by decide))]); (rw [e144, mUp_ne (Or.inl (by decide)), hQ101.at (ga_744 _) rfl, e4, mUp_ne (Or.inl (by decide))]); (rw [e144, mUp_ne (Or.inl (by decide)), hQ101.at (ga_745 _) rfl, e4, mUp_ne (Or.inl (by decide))]); (rw [e144, mUp_ne (Or.inl (by decide)), hQ101.at (ga_746 _) rfl, e4, mUp_ne (Or.inl (by decide))]); (rw [e144, mUp_ne (Or.inl (by decide)), hQ101.at (ga_748 _) rfl, e4, mUp_ne (Or.inl (by decide))]); (rw [e144, mUp_ne (Or.inl (by decide)), hQ101.at (ga_751 _) rfl, e4, mUp_ne (Or.inl (by decide))]); (rw [e144, mUp_ne (Or.inl (by decide)), hQ101.at (ga_752 _) rfl, e4, mUp_ne (Or.inl (by decide))])) (by rw [e144, mUp_ne (Or.inr (by decide)), hQ101.at g_739_1 rfl, e4, mUp_ne (Or.inr (by decide))]) (by rw [e144, mUp_ne (Or.inr (by decide)), hQ101.at g_739_3 rfl, e4, mUp_ne (Or.inr (by decide))]))⟩), by have := ((hQ159.at g_739_0 rfl).trans (mUp_no e144 ((hQ101.at g_739_0 rfl).trans (mUp_at e4)) (Or.inr (by decide)))); omega, pr162, (QW_sm (Sm.fr hQ159 rfl) (QW_sm (Sm.up e144 g_739_25 rfl) (QW_sm (Sm.fr hQ101 rfl) (QW_sm (Sm.up e4 g_739_0 rfl) pp_QW))))⟩)
              · intro h166
                refine wk_al0 r121_118 (wk_getfr r121_119 fd_739_12 (br_739_12 hP100) (wk_al0 r121_122 (wk_getfi r121_123 fd_739_24 ((hQ101.at g_739_24 rfl).trans (mUp_no e4 ex739_24 (Or.inr (by decide)))) (wk_ialdb r121_126 ar_746 ⟨by omega, by omega⟩ (fun q0 q1 => ba_746 hP100 q0 q1) ?_))))
                intro v167 h169 h170 e168
                refine wk_goto r121_127 (wk_is5 r121_141 rfl (wk_il2 r121_143 (wk_c1 r121_144 ?_)))
                refine wk_icne r121_145 ⟨by omega, by omega⟩ (by decide) ?_ ?_
                · intro h171
                  refine wk_al0 r121_179 (wk_al0 r121_180 (wk_getfr r121_181 fd_739_22 (br_739_22 hP100) (wk_il1 r121_184 (wk_ialdb r121_185 ar_753 ⟨by omega, by omega⟩ (fun q0 q1 => ba_753 hP100 q0 q1) ?_))))
                  intro v172 h174 h175 e173
                  refine wk_al0 r121_186 (wk_getfr r121_187 fd_739_23 (br_739_23 hP100) (wk_il1 r121_190 (wk_ialdb r121_191 ar_754 ⟨by omega, by omega⟩ (fun q0 q1 => ba_754 hP100 q0 q1) ?_)))
                  intro v176 h178 h179 e177
                  have h180 : v176 < x739_13 := by have q := (QW_sm (Sm.fr hQ101 rfl) (QW_sm (Sm.up e4 g_739_0 rfl) pp_QW)) p1 (by omega) (by rw [((hQ101.at g_739_21 rfl).trans (mUp_no e4 ex739_21 (Or.inr (by decide))))]; omega); rw [((hQ101.at g_739_13 rfl).trans (mUp_no e4 ex739_13 (Or.inr (by decide)))), e177] at q; exact q
                  refine wk_il5 r121_192 (wk_cv4 r121_194 kc_739_67 rfl (n8067_739 _ M99 v172 v176 v167 x739_13 x739_15 x739_7 x739_1 L hP100 (by first | with_reducible assumption | omega) (by first | with_reducible assumption | omega) (by first | with_reducible assumption | omega) (by first | with_reducible assumption | omega) (by first | with_reducible assumption | omega) (by first | with_reducible assumption | omega) ((hQ101.at g_739_13 rfl).trans (mUp_no e4 ex739_13 (Or.inr (by decide)))) (by first | with_reducible assumption | omega) (by first | with_reducible assumption | omega) ((hQ101.at g_739_15 rfl).trans (mUp_no e4 ex739_15 (Or.inr (by decide)))) (by first | with_reducible assumption | omega) (by first | with_reducible assumption | omega) ((hQ101.at g_739_7 rfl).trans (mUp_no e4 ex739_7 (Or.inr (by decide)))) (by first | with_reducible assumption | omega) (by first | with_reducible assumption | omega) ((hQ101.at g_739_1 rfl).trans (mUp_no e4 ex739_1 (Or.inr (by decide)))) (by first | with_reducible assumption | omega) (by first | with_reducible assumption | omega) (by omega) (by rw [show (fun k => M99 747 k) = (fun k => M0 747 k) from funext fun k => hF102.at (ga_747 k) rfl, show v176 = M0 754 p1 by rw [← e177, hQ101.at (ga_754 _) rfl, e4, mUp_ne (Or.inl (by decide))]]; exact xp0 (by omega) (by omega)) (fun w a b => by rw [show M99 751 w = M0 751 w by rw [hQ101.at (ga_751 _) rfl, e4, mUp_ne (Or.inl (by decide))], show M99 752 w = M0 752 w by rw [hQ101.at (ga_752 _) rfl, e4, mUp_ne (Or.inl (by decide))]]; exact xp1 w a b) (WS_sm (Sm.fr hQ101 rfl) (WS_sm (Sm.up e4 g_739_0 rfl) pp_WS))) (cqI ?_))
                  rintro v187 M181 ⟨hP182, hQ183, h188, h189, xh185, pr186⟩
                  have hF184 : Fr fm_n8121_739 M0 M181 := hF102.tr hQ183 rfl
                  refine wk_popi r121_197 (wk_il5 r121_198 ?_)
                  subst hQ; exact wk_iret r121_200 (⟨rfl, _, rfl, hP182, hF184, by omega, by omega, Or.inr (by rcases xh185 with ⟨q1, -⟩ | ⟨q1, q2, q3, q4, q5⟩; (omega); exact ⟨by omega, by omega, by omega, by omega, fun b hb => Or.inr ⟨by rw [← (show v87 = lyF M0 x739_24 (M0 753 p1) x739_15 by rw [← (show v74 = M0 753 p1 by rw [← e75, e4, mUp_ne (Or.inl (by decide))]), ← evF_20 (M := M0) (so := M0 751 x739_24) (by omega) (by omega), ← (show evF M1 x739_24 x739_15 v95 = evF M0 x739_24 x739_15 (M0 751 x739_24) by rw [← e96, show M1 751 x739_24 = M0 751 x739_24 by rw [e4, mUp_ne (Or.inl (by decide))]]; exact evF_748 (fun a q => by rw [e4, mUp_ne (Or.inl (by omega))]) (fun k q => by rw [e4, mUp_ne (Or.inl (by decide))]) (by rw [e4, mUp_ne (Or.inr (by decide))]) (by rw [e4, mUp_ne (Or.inr (by decide))])), evF_20 (by omega) (by omega)]; exact xh86)]; omega, by have q8 := ((hQ183.at g_739_25 rfl).trans ((hQ101.at g_739_25 rfl).trans (mUp_no e4 ex739_25 (Or.inr (by decide))))); omega, rp_mk (ly := v87) (so := v104) (y := v167) (so2 := v104) (by rw [evF_20 (by have := (show v74 = M0 753 p1 by rw [← e75, e4, mUp_ne (Or.inl (by decide))]); omega) (by have := (show v74 = M0 753 p1 by rw [← e75, e4, mUp_ne (Or.inl (by decide))]); omega), ← (show v87 = lyF M0 x739_24 (M0 753 p1) x739_15 by rw [← (show v74 = M0 753 p1 by rw [← e75, e4, mUp_ne (Or.inl (by decide))]), ← evF_20 (M := M0) (so := M0 751 x739_24) (by omega) (by omega), ← (show evF M1 x739_24 x739_15 v95 = evF M0 x739_24 x739_15 (M0 751 x739_24) by rw [← e96, show M1 751 x739_24 = M0 751 x739_24 by rw [e4, mUp_ne (Or.inl (by decide))]]; exact evF_748 (fun a q => by rw [e4, mUp_ne (Or.inl (by omega))]) (fun k q => by rw [e4, mUp_ne (Or.inl (by decide))]) (by rw [e4, mUp_ne (Or.inr (by decide))]) (by rw [e4, mUp_ne (Or.inr (by decide))])), evF_20 (by omega) (by omega)]; exact xh86)]) (by omega) (by rw [evF_12, ← e168, hQ101.at (ga_746 _) rfl, e4, mUp_ne (Or.inl (by decide))]) (by omega) (xh103 b (by rw [(show evF M1 x739_24 x739_15 v95 = evF M0 x739_24 x739_15 (M0 751 x739_24) by rw [← e96, show M1 751 x739_24 = M0 751 x739_24 by rw [e4, mUp_ne (Or.inl (by decide))]]; exact evF_748 (fun a q => by rw [e4, mUp_ne (Or.inl (by omega))]) (fun k q => by rw [e4, mUp_ne (Or.inl (by decide))]) (by rw [e4, mUp_ne (Or.inr (by decide))]) (by rw [e4, mUp_ne (Or.inr (by decide))]))]; exact hb)) (by omega) (by omega)⟩, by omega, by rw [show (x739_15 : Int) + 1 = x739_15 + 1 from rfl]; exact q3, ⟨fun k => by rw [q4.1 k, show M99 748 k = M0 748 k by rw [hQ101.at (ga_748 _) rfl, e4, mUp_ne (Or.inl (by decide))], (show v172 = M0 753 p1 by rw [← e173, hQ101.at (ga_753 _) rfl, e4, mUp_ne (Or.inl (by decide))])], fun k => by rw [q4.2.1 k, show M99 749 k = M0 749 k by rw [hQ101.at (ga_749 _) rfl, e4, mUp_ne (Or.inl (by decide))], (show v176 = M0 754 p1 by rw [← e177, hQ101.at (ga_754 _) rfl, e4, mUp_ne (Or.inl (by decide))])], fun k => by rw [q4.2.2 k, show M99 750 k = M0 750 k by rw [hQ101.at (ga_750 _) rfl, e4, mUp_ne (Or.inl (by decide))]]⟩, by rw [← (show v172 = M0 753 p1 by rw [← e173, hQ101.at (ga_753 _) rfl, e4, mUp_ne (Or.inl (by decide))])]; exact (EVW_bs (M0 := M0) q5 (fun a i q => by rcases q with rfl | rfl | rfl | rfl | rfl | rfl | rfl | rfl; (rw [hQ101.at (ga_742 _) rfl, e4, mUp_ne (Or.inl (by decide))]); (rw [hQ101.at (ga_743 _) rfl, e4, mUp_ne (Or.inl (by decide))]); (rw [hQ101.at (ga_744 _) rfl, e4, mUp_ne (Or.inl (by decide))]); (rw [hQ101.at (ga_745 _) rfl, e4, mUp_ne (Or.inl (by decide))]); (rw [hQ101.at (ga_746 _) rfl, e4, mUp_ne (Or.inl (by decide))]); (rw [hQ101.at (ga_748 _) rfl, e4, mUp_ne (Or.inl (by decide))]); (rw [hQ101.at (ga_751 _) rfl, e4, mUp_ne (Or.inl (by decide))]); (rw [hQ101.at (ga_752 _) rfl, e4, mUp_ne (Or.inl (by decide))])) (by rw [hQ101.at g_739_1 rfl, e4, mUp_ne (Or.inr (by decide))]) (by rw [hQ101.at g_739_3 rfl, e4, mUp_ne (Or.inr (by decide))]))⟩), by have := ((hQ183.at g_739_0 rfl).trans ((hQ101.at g_739_0 rfl).trans (mUp_at e4))); omega, pr186, (QW_sm (Sm.fr hQ183 rfl) (QW_sm (Sm.fr hQ101 rfl) (QW_sm (Sm.up e4 g_739_0 rfl) pp_QW)))⟩)
                · intro h190
                  refine wk_al0 r121_148 (wk_al0 r121_149 (wk_getfi r121_150 fd_739_25 ((hQ101.at g_739_25 rfl).trans (mUp_no e4 ex739_25 (Or.inr (by decide)))) (wk_c5 r121_153 (wk_imul r121_156 (wk_wrap ?_)))))
                  intro v191 h192 h193 h194
                  refine wk_c3 r121_157 (wk_iadd r121_160 (wk_wrap ?_))
                  intro v195 h196 h197 h198
                  refine wk_putfi81 r121_161 fd_739_25 (wk_nw g_739_25 rfl hP100 hF102 (uf_739_25 ⟨by omega, by omega⟩) ?_)
                  intro M199 hP200 hF201 e202
                  refine wk_al0 r121_164 (wk_getfi r121_165 fd_739_25 (mUp_at e202) (wk_c2 r121_168 (wk_ishrc r121_170 ⟨by omega, by omega⟩ (by decide) pwl_16 (wk_c3 r121_171 (wk_iandc 15 32768 r121_174 ⟨rfl, by decide⟩ rfl (wk_c1 r121_175 (wk_irem r121_176 ⟨by omega, by omega⟩ (by decide) (wk_is5 r121_177 rfl ?_))))))))
                  refine wk_al0 r121_179 (wk_al0 r121_180 (wk_getfr r121_181 fd_739_22 (br_739_22 hP200) (wk_il1 r121_184 (wk_ialdb r121_185 ar_753 ⟨by omega, by omega⟩ (fun q0 q1 => ba_753 hP200 q0 q1) ?_))))
                  intro v206 h208 h209 e207
                  refine wk_al0 r121_186 (wk_getfr r121_187 fd_739_23 (br_739_23 hP200) (wk_il1 r121_190 (wk_ialdb r121_191 ar_754 ⟨by omega, by omega⟩ (fun q0 q1 => ba_754 hP200 q0 q1) ?_)))
                  intro v210 h212 h213 e211
                  have h214 : v210 < x739_13 := by have q := (QW_sm (Sm.up e202 g_739_25 rfl) (QW_sm (Sm.fr hQ101 rfl) (QW_sm (Sm.up e4 g_739_0 rfl) pp_QW))) p1 (by omega) (by rw [(mUp_no e202 ((hQ101.at g_739_21 rfl).trans (mUp_no e4 ex739_21 (Or.inr (by decide)))) (Or.inr (by decide)))]; omega); rw [(mUp_no e202 ((hQ101.at g_739_13 rfl).trans (mUp_no e4 ex739_13 (Or.inr (by decide)))) (Or.inr (by decide))), e211] at q; exact q
                  refine wk_il5 r121_192 (wk_cv4 r121_194 kc_739_67 rfl (n8067_739 _ M199 v206 v210 (((v195 / 65536) % 32768) % 2) x739_13 x739_15 x739_7 x739_1 L hP200 (by first | with_reducible assumption | omega) (by first | with_reducible assumption | omega) (by first | with_reducible assumption | omega) (by first | with_reducible assumption | omega) (by first | with_reducible assumption | omega) (by first | with_reducible assumption | omega) (mUp_no e202 ((hQ101.at g_739_13 rfl).trans (mUp_no e4 ex739_13 (Or.inr (by decide)))) (Or.inr (by decide))) (by first | with_reducible assumption | omega) (by first | with_reducible assumption | omega) (mUp_no e202 ((hQ101.at g_739_15 rfl).trans (mUp_no e4 ex739_15 (Or.inr (by decide)))) (Or.inr (by decide))) (by first | with_reducible assumption | omega) (by first | with_reducible assumption | omega) (mUp_no e202 ((hQ101.at g_739_7 rfl).trans (mUp_no e4 ex739_7 (Or.inr (by decide)))) (Or.inr (by decide))) (by first | with_reducible assumption | omega) (by first | with_reducible assumption | omega) (mUp_no e202 ((hQ101.at g_739_1 rfl).trans (mUp_no e4 ex739_1 (Or.inr (by decide)))) (Or.inr (by decide))) (by first | with_reducible assumption | omega) (by first | with_reducible assumption | omega) (by omega) (by rw [show (fun k => M199 747 k) = (fun k => M0 747 k) from funext fun k => hF201.at (ga_747 k) rfl, show v210 = M0 754 p1 by rw [← e211, e202, mUp_ne (Or.inl (by decide)), hQ101.at (ga_754 _) rfl, e4, mUp_ne (Or.inl (by decide))]]; exact xp0 (by omega) (by omega)) (fun w a b => by rw [show M199 751 w = M0 751 w by rw [e202, mUp_ne (Or.inl (by decide)), hQ101.at (ga_751 _) rfl, e4, mUp_ne (Or.inl (by decide))], show M199 752 w = M0 752 w by rw [e202, mUp_ne (Or.inl (by decide)), hQ101.at (ga_752 _) rfl, e4, mUp_ne (Or.inl (by decide))]]; exact xp1 w a b) (WS_sm (Sm.up e202 g_739_25 rfl) (WS_sm (Sm.fr hQ101 rfl) (WS_sm (Sm.up e4 g_739_0 rfl) pp_WS)))) (cqI ?_))
                  rintro v221 M215 ⟨hP216, hQ217, h222, h223, xh219, pr220⟩
                  have hF218 : Fr fm_n8121_739 M0 M215 := hF201.tr hQ217 rfl
                  refine wk_popi r121_197 (wk_il5 r121_198 ?_)
                  subst hQ; exact wk_iret r121_200 (⟨rfl, _, rfl, hP216, hF218, by omega, by omega, Or.inr (by rcases xh219 with ⟨q1, -⟩ | ⟨q1, q2, q3, q4, q5⟩; (omega); exact ⟨by omega, by omega, by omega, by omega, fun b hb => Or.inl ⟨by rw [← (show v87 = lyF M0 x739_24 (M0 753 p1) x739_15 by rw [← (show v74 = M0 753 p1 by rw [← e75, e4, mUp_ne (Or.inl (by decide))]), ← evF_20 (M := M0) (so := M0 751 x739_24) (by omega) (by omega), ← (show evF M1 x739_24 x739_15 v95 = evF M0 x739_24 x739_15 (M0 751 x739_24) by rw [← e96, show M1 751 x739_24 = M0 751 x739_24 by rw [e4, mUp_ne (Or.inl (by decide))]]; exact evF_748 (fun a q => by rw [e4, mUp_ne (Or.inl (by omega))]) (fun k q => by rw [e4, mUp_ne (Or.inl (by decide))]) (by rw [e4, mUp_ne (Or.inr (by decide))]) (by rw [e4, mUp_ne (Or.inr (by decide))])), evF_20 (by omega) (by omega)]; exact xh86)]; omega, by have q8 := ((hQ217.at g_739_25 rfl).trans (mUp_at e202)); rw [q8]; have q7 := h194; have q6 := h198; unfold SDN wrI; omega, by have q8 := ((hQ217.at g_739_25 rfl).trans (mUp_at e202)); rw [q8]; omega⟩, by omega, by rw [show (x739_15 : Int) + 1 = x739_15 + 1 from rfl]; exact q3, ⟨fun k => by rw [q4.1 k, show M199 748 k = M0 748 k by rw [e202, mUp_ne (Or.inl (by decide)), hQ101.at (ga_748 _) rfl, e4, mUp_ne (Or.inl (by decide))], (show v206 = M0 753 p1 by rw [← e207, e202, mUp_ne (Or.inl (by decide)), hQ101.at (ga_753 _) rfl, e4, mUp_ne (Or.inl (by decide))])], fun k => by rw [q4.2.1 k, show M199 749 k = M0 749 k by rw [e202, mUp_ne (Or.inl (by decide)), hQ101.at (ga_749 _) rfl, e4, mUp_ne (Or.inl (by decide))], (show v210 = M0 754 p1 by rw [← e211, e202, mUp_ne (Or.inl (by decide)), hQ101.at (ga_754 _) rfl, e4, mUp_ne (Or.inl (by decide))])], fun k => by rw [q4.2.2 k, show M199 750 k = M0 750 k by rw [e202, mUp_ne (Or.inl (by decide)), hQ101.at (ga_750 _) rfl, e4, mUp_ne (Or.inl (by decide))]]⟩, by rw [← (show v206 = M0 753 p1 by rw [← e207, e202, mUp_ne (Or.inl (by decide)), hQ101.at (ga_753 _) rfl, e4, mUp_ne (Or.inl (by decide))])]; exact (EVW_bs (M0 := M0) q5 (fun a i q => by rcases q with rfl | rfl | rfl | rfl | rfl | rfl | rfl | rfl; (rw [e202, mUp_ne (Or.inl (by decide)), hQ101.at (ga_742 _) rfl, e4, mUp_ne (Or.inl (by decide))]); (rw [e202, mUp_ne (Or.inl (by decide)), hQ101.at (ga_743 _) rfl, e4, mUp_ne (Or.inl (by decide))]); (rw [e202, mUp_ne (Or.inl (by decide)), hQ101.at (ga_744 _) rfl, e4, mUp_ne (Or.inl (by decide))]); (rw [e202, mUp_ne (Or.inl (by decide)), hQ101.at (ga_745 _) rfl, e4, mUp_ne (Or.inl (by decide))]); (rw [e202, mUp_ne (Or.inl (by decide)), hQ101.at (ga_746 _) rfl, e4, mUp_ne (Or.inl (by decide))]); (rw [e202, mUp_ne (Or.inl (by decide)), hQ101.at (ga_748 _) rfl, e4, mUp_ne (Or.inl (by decide))]); (rw [e202, mUp_ne (Or.inl (by decide)), hQ101.at (ga_751 _) rfl, e4, mUp_ne (Or.inl (by decide))]); (rw [e202, mUp_ne (Or.inl (by decide)), hQ101.at (ga_752 _) rfl, e4, mUp_ne (Or.inl (by decide))])) (by rw [e202, mUp_ne (Or.inr (by decide)), hQ101.at g_739_1 rfl, e4, mUp_ne (Or.inr (by decide))]) (by rw [e202, mUp_ne (Or.inr (by decide)), hQ101.at g_739_3 rfl, e4, mUp_ne (Or.inr (by decide))]))⟩), by have := ((hQ217.at g_739_0 rfl).trans (mUp_no e202 ((hQ101.at g_739_0 rfl).trans (mUp_at e4)) (Or.inr (by decide)))); omega, pr220, (QW_sm (Sm.fr hQ217 rfl) (QW_sm (Sm.up e202 g_739_25 rfl) (QW_sm (Sm.fr hQ101 rfl) (QW_sm (Sm.up e4 g_739_0 rfl) pp_QW))))⟩)
            · intro h224
              refine wk_c1 r121_103 (wk_il3 r121_104 (wk_isub r121_105 (wk_goto r121_106 (wk_is4 r121_110 rfl (wk_il4 r121_112 (wk_c1 r121_114 ?_))))))
              refine wk_icne r121_115 ⟨by omega, by omega⟩ (by decide) ?_ ?_
              · intro h225
                refine wk_c1 r121_130 (wk_al0 r121_131 (wk_getfr r121_132 fd_739_12 (br_739_12 hP100) (wk_al0 r121_135 (wk_getfi r121_136 fd_739_24 ((hQ101.at g_739_24 rfl).trans (mUp_no e4 ex739_24 (Or.inr (by decide)))) (wk_ialdb r121_139 ar_746 ⟨by omega, by omega⟩ (fun q0 q1 => ba_746 hP100 q0 q1) ?_)))))
                intro v226 h228 h229 e227
                refine wk_isub r121_140 (wk_is5 r121_141 rfl (wk_il2 r121_143 (wk_c1 r121_144 ?_)))
                refine wk_icne r121_145 ⟨by omega, by omega⟩ (by decide) ?_ ?_
                · intro h230
                  refine wk_al0 r121_179 (wk_al0 r121_180 (wk_getfr r121_181 fd_739_22 (br_739_22 hP100) (wk_il1 r121_184 (wk_ialdb r121_185 ar_753 ⟨by omega, by omega⟩ (fun q0 q1 => ba_753 hP100 q0 q1) ?_))))
                  intro v231 h233 h234 e232
                  refine wk_al0 r121_186 (wk_getfr r121_187 fd_739_23 (br_739_23 hP100) (wk_il1 r121_190 (wk_ialdb r121_191 ar_754 ⟨by omega, by omega⟩ (fun q0 q1 => ba_754 hP100 q0 q1) ?_)))
                  intro v235 h237 h238 e236
                  have h239 : v235 < x739_13 := by have q := (QW_sm (Sm.fr hQ101 rfl) (QW_sm (Sm.up e4 g_739_0 rfl) pp_QW)) p1 (by omega) (by rw [((hQ101.at g_739_21 rfl).trans (mUp_no e4 ex739_21 (Or.inr (by decide))))]; omega); rw [((hQ101.at g_739_13 rfl).trans (mUp_no e4 ex739_13 (Or.inr (by decide)))), e236] at q; exact q
                  refine wk_il5 r121_192 (wk_cv4 r121_194 kc_739_67 rfl (n8067_739 _ M99 v231 v235 (1 - v226) x739_13 x739_15 x739_7 x739_1 L hP100 (by first | with_reducible assumption | omega) (by first | with_reducible assumption | omega) (by first | with_reducible assumption | omega) (by first | with_reducible assumption | omega) (by first | with_reducible assumption | omega) (by first | with_reducible assumption | omega) ((hQ101.at g_739_13 rfl).trans (mUp_no e4 ex739_13 (Or.inr (by decide)))) (by first | with_reducible assumption | omega) (by first | with_reducible assumption | omega) ((hQ101.at g_739_15 rfl).trans (mUp_no e4 ex739_15 (Or.inr (by decide)))) (by first | with_reducible assumption | omega) (by first | with_reducible assumption | omega) ((hQ101.at g_739_7 rfl).trans (mUp_no e4 ex739_7 (Or.inr (by decide)))) (by first | with_reducible assumption | omega) (by first | with_reducible assumption | omega) ((hQ101.at g_739_1 rfl).trans (mUp_no e4 ex739_1 (Or.inr (by decide)))) (by first | with_reducible assumption | omega) (by first | with_reducible assumption | omega) (by omega) (by rw [show (fun k => M99 747 k) = (fun k => M0 747 k) from funext fun k => hF102.at (ga_747 k) rfl, show v235 = M0 754 p1 by rw [← e236, hQ101.at (ga_754 _) rfl, e4, mUp_ne (Or.inl (by decide))]]; exact xp0 (by omega) (by omega)) (fun w a b => by rw [show M99 751 w = M0 751 w by rw [hQ101.at (ga_751 _) rfl, e4, mUp_ne (Or.inl (by decide))], show M99 752 w = M0 752 w by rw [hQ101.at (ga_752 _) rfl, e4, mUp_ne (Or.inl (by decide))]]; exact xp1 w a b) (WS_sm (Sm.fr hQ101 rfl) (WS_sm (Sm.up e4 g_739_0 rfl) pp_WS))) (cqI ?_))
                  rintro v246 M240 ⟨hP241, hQ242, h247, h248, xh244, pr245⟩
                  have hF243 : Fr fm_n8121_739 M0 M240 := hF102.tr hQ242 rfl
                  refine wk_popi r121_197 (wk_il5 r121_198 ?_)
                  subst hQ; exact wk_iret r121_200 (⟨rfl, _, rfl, hP241, hF243, by omega, by omega, Or.inr (by rcases xh244 with ⟨q1, -⟩ | ⟨q1, q2, q3, q4, q5⟩; (omega); exact ⟨by omega, by omega, by omega, by omega, fun b hb => Or.inr ⟨by rw [← (show v87 = lyF M0 x739_24 (M0 753 p1) x739_15 by rw [← (show v74 = M0 753 p1 by rw [← e75, e4, mUp_ne (Or.inl (by decide))]), ← evF_20 (M := M0) (so := M0 751 x739_24) (by omega) (by omega), ← (show evF M1 x739_24 x739_15 v95 = evF M0 x739_24 x739_15 (M0 751 x739_24) by rw [← e96, show M1 751 x739_24 = M0 751 x739_24 by rw [e4, mUp_ne (Or.inl (by decide))]]; exact evF_748 (fun a q => by rw [e4, mUp_ne (Or.inl (by omega))]) (fun k q => by rw [e4, mUp_ne (Or.inl (by decide))]) (by rw [e4, mUp_ne (Or.inr (by decide))]) (by rw [e4, mUp_ne (Or.inr (by decide))])), evF_20 (by omega) (by omega)]; exact xh86)]; omega, by have q8 := ((hQ242.at g_739_25 rfl).trans ((hQ101.at g_739_25 rfl).trans (mUp_no e4 ex739_25 (Or.inr (by decide))))); omega, rp_mk (ly := v87) (so := v104) (y := v226) (so2 := (1 - v104)) (by rw [evF_20 (by have := (show v74 = M0 753 p1 by rw [← e75, e4, mUp_ne (Or.inl (by decide))]); omega) (by have := (show v74 = M0 753 p1 by rw [← e75, e4, mUp_ne (Or.inl (by decide))]); omega), ← (show v87 = lyF M0 x739_24 (M0 753 p1) x739_15 by rw [← (show v74 = M0 753 p1 by rw [← e75, e4, mUp_ne (Or.inl (by decide))]), ← evF_20 (M := M0) (so := M0 751 x739_24) (by omega) (by omega), ← (show evF M1 x739_24 x739_15 v95 = evF M0 x739_24 x739_15 (M0 751 x739_24) by rw [← e96, show M1 751 x739_24 = M0 751 x739_24 by rw [e4, mUp_ne (Or.inl (by decide))]]; exact evF_748 (fun a q => by rw [e4, mUp_ne (Or.inl (by omega))]) (fun k q => by rw [e4, mUp_ne (Or.inl (by decide))]) (by rw [e4, mUp_ne (Or.inr (by decide))]) (by rw [e4, mUp_ne (Or.inr (by decide))])), evF_20 (by omega) (by omega)]; exact xh86)]) (by omega) (by rw [evF_12, ← e227, hQ101.at (ga_746 _) rfl, e4, mUp_ne (Or.inl (by decide))]) (by omega) (xh103 b (by rw [(show evF M1 x739_24 x739_15 v95 = evF M0 x739_24 x739_15 (M0 751 x739_24) by rw [← e96, show M1 751 x739_24 = M0 751 x739_24 by rw [e4, mUp_ne (Or.inl (by decide))]]; exact evF_748 (fun a q => by rw [e4, mUp_ne (Or.inl (by omega))]) (fun k q => by rw [e4, mUp_ne (Or.inl (by decide))]) (by rw [e4, mUp_ne (Or.inr (by decide))]) (by rw [e4, mUp_ne (Or.inr (by decide))]))]; exact hb)) (by omega) (by omega)⟩, by omega, by rw [show (x739_15 : Int) + 1 = x739_15 + 1 from rfl]; exact q3, ⟨fun k => by rw [q4.1 k, show M99 748 k = M0 748 k by rw [hQ101.at (ga_748 _) rfl, e4, mUp_ne (Or.inl (by decide))], (show v231 = M0 753 p1 by rw [← e232, hQ101.at (ga_753 _) rfl, e4, mUp_ne (Or.inl (by decide))])], fun k => by rw [q4.2.1 k, show M99 749 k = M0 749 k by rw [hQ101.at (ga_749 _) rfl, e4, mUp_ne (Or.inl (by decide))], (show v235 = M0 754 p1 by rw [← e236, hQ101.at (ga_754 _) rfl, e4, mUp_ne (Or.inl (by decide))])], fun k => by rw [q4.2.2 k, show M99 750 k = M0 750 k by rw [hQ101.at (ga_750 _) rfl, e4, mUp_ne (Or.inl (by decide))]]⟩, by rw [← (show v231 = M0 753 p1 by rw [← e232, hQ101.at (ga_753 _) rfl, e4, mUp_ne (Or.inl (by decide))])]; exact (EVW_bs (M0 := M0) q5 (fun a i q => by rcases q with rfl | rfl | rfl | rfl | rfl | rfl | rfl | rfl; (rw [hQ101.at (ga_742 _) rfl, e4, mUp_ne (Or.inl (by decide))]); (rw [hQ101.at (ga_743 _) rfl, e4, mUp_ne (Or.inl (by decide))]); (rw [hQ101.at (ga_744 _) rfl, e4, mUp_ne (Or.inl (by decide))]); (rw [hQ101.at (ga_745 _) rfl, e4, mUp_ne (Or.inl (by decide))]); (rw [hQ101.at (ga_746 _) rfl, e4, mUp_ne (Or.inl (by decide))]); (rw [hQ101.at (ga_748 _) rfl, e4, mUp_ne (Or.inl (by decide))]); (rw [hQ101.at (ga_751 _) rfl, e4, mUp_ne (Or.inl (by decide))]); (rw [hQ101.at (ga_752 _) rfl, e4, mUp_ne (Or.inl (by decide))])) (by rw [hQ101.at g_739_1 rfl, e4, mUp_ne (Or.inr (by decide))]) (by rw [hQ101.at g_739_3 rfl, e4, mUp_ne (Or.inr (by decide))]))⟩), by have := ((hQ242.at g_739_0 rfl).trans ((hQ101.at g_739_0 rfl).trans (mUp_at e4))); omega, pr245, (QW_sm (Sm.fr hQ242 rfl) (QW_sm (Sm.fr hQ101 rfl) (QW_sm (Sm.up e4 g_739_0 rfl) pp_QW)))⟩)
                · intro h249
                  exfalso
                  omega
              · intro h250
                refine wk_al0 r121_118 (wk_getfr r121_119 fd_739_12 (br_739_12 hP100) (wk_al0 r121_122 (wk_getfi r121_123 fd_739_24 ((hQ101.at g_739_24 rfl).trans (mUp_no e4 ex739_24 (Or.inr (by decide)))) (wk_ialdb r121_126 ar_746 ⟨by omega, by omega⟩ (fun q0 q1 => ba_746 hP100 q0 q1) ?_))))
                intro v251 h253 h254 e252
                refine wk_goto r121_127 (wk_is5 r121_141 rfl (wk_il2 r121_143 (wk_c1 r121_144 ?_)))
                refine wk_icne r121_145 ⟨by omega, by omega⟩ (by decide) ?_ ?_
                · intro h255
                  refine wk_al0 r121_179 (wk_al0 r121_180 (wk_getfr r121_181 fd_739_22 (br_739_22 hP100) (wk_il1 r121_184 (wk_ialdb r121_185 ar_753 ⟨by omega, by omega⟩ (fun q0 q1 => ba_753 hP100 q0 q1) ?_))))
                  intro v256 h258 h259 e257
                  refine wk_al0 r121_186 (wk_getfr r121_187 fd_739_23 (br_739_23 hP100) (wk_il1 r121_190 (wk_ialdb r121_191 ar_754 ⟨by omega, by omega⟩ (fun q0 q1 => ba_754 hP100 q0 q1) ?_)))
                  intro v260 h262 h263 e261
                  have h264 : v260 < x739_13 := by have q := (QW_sm (Sm.fr hQ101 rfl) (QW_sm (Sm.up e4 g_739_0 rfl) pp_QW)) p1 (by omega) (by rw [((hQ101.at g_739_21 rfl).trans (mUp_no e4 ex739_21 (Or.inr (by decide))))]; omega); rw [((hQ101.at g_739_13 rfl).trans (mUp_no e4 ex739_13 (Or.inr (by decide)))), e261] at q; exact q
                  refine wk_il5 r121_192 (wk_cv4 r121_194 kc_739_67 rfl (n8067_739 _ M99 v256 v260 v251 x739_13 x739_15 x739_7 x739_1 L hP100 (by first | with_reducible assumption | omega) (by first | with_reducible assumption | omega) (by first | with_reducible assumption | omega) (by first | with_reducible assumption | omega) (by first | with_reducible assumption | omega) (by first | with_reducible assumption | omega) ((hQ101.at g_739_13 rfl).trans (mUp_no e4 ex739_13 (Or.inr (by decide)))) (by first | with_reducible assumption | omega) (by first | with_reducible assumption | omega) ((hQ101.at g_739_15 rfl).trans (mUp_no e4 ex739_15 (Or.inr (by decide)))) (by first | with_reducible assumption | omega) (by first | with_reducible assumption | omega) ((hQ101.at g_739_7 rfl).trans (mUp_no e4 ex739_7 (Or.inr (by decide)))) (by first | with_reducible assumption | omega) (by first | with_reducible assumption | omega) ((hQ101.at g_739_1 rfl).trans (mUp_no e4 ex739_1 (Or.inr (by decide)))) (by first | with_reducible assumption | omega) (by first | with_reducible assumption | omega) (by omega) (by rw [show (fun k => M99 747 k) = (fun k => M0 747 k) from funext fun k => hF102.at (ga_747 k) rfl, show v260 = M0 754 p1 by rw [← e261, hQ101.at (ga_754 _) rfl, e4, mUp_ne (Or.inl (by decide))]]; exact xp0 (by omega) (by omega)) (fun w a b => by rw [show M99 751 w = M0 751 w by rw [hQ101.at (ga_751 _) rfl, e4, mUp_ne (Or.inl (by decide))], show M99 752 w = M0 752 w by rw [hQ101.at (ga_752 _) rfl, e4, mUp_ne (Or.inl (by decide))]]; exact xp1 w a b) (WS_sm (Sm.fr hQ101 rfl) (WS_sm (Sm.up e4 g_739_0 rfl) pp_WS))) (cqI ?_))
                  rintro v271 M265 ⟨hP266, hQ267, h272, h273, xh269, pr270⟩
                  have hF268 : Fr fm_n8121_739 M0 M265 := hF102.tr hQ267 rfl
                  refine wk_popi r121_197 (wk_il5 r121_198 ?_)
                  subst hQ; exact wk_iret r121_200 (⟨rfl, _, rfl, hP266, hF268, by omega, by omega, Or.inr (by rcases xh269 with ⟨q1, -⟩ | ⟨q1, q2, q3, q4, q5⟩; (omega); exact ⟨by omega, by omega, by omega, by omega, fun b hb => Or.inr ⟨by rw [← (show v87 = lyF M0 x739_24 (M0 753 p1) x739_15 by rw [← (show v74 = M0 753 p1 by rw [← e75, e4, mUp_ne (Or.inl (by decide))]), ← evF_20 (M := M0) (so := M0 751 x739_24) (by omega) (by omega), ← (show evF M1 x739_24 x739_15 v95 = evF M0 x739_24 x739_15 (M0 751 x739_24) by rw [← e96, show M1 751 x739_24 = M0 751 x739_24 by rw [e4, mUp_ne (Or.inl (by decide))]]; exact evF_748 (fun a q => by rw [e4, mUp_ne (Or.inl (by omega))]) (fun k q => by rw [e4, mUp_ne (Or.inl (by decide))]) (by rw [e4, mUp_ne (Or.inr (by decide))]) (by rw [e4, mUp_ne (Or.inr (by decide))])), evF_20 (by omega) (by omega)]; exact xh86)]; omega, by have q8 := ((hQ267.at g_739_25 rfl).trans ((hQ101.at g_739_25 rfl).trans (mUp_no e4 ex739_25 (Or.inr (by decide))))); omega, rp_mk (ly := v87) (so := v104) (y := v251) (so2 := (1 - v104)) (by rw [evF_20 (by have := (show v74 = M0 753 p1 by rw [← e75, e4, mUp_ne (Or.inl (by decide))]); omega) (by have := (show v74 = M0 753 p1 by rw [← e75, e4, mUp_ne (Or.inl (by decide))]); omega), ← (show v87 = lyF M0 x739_24 (M0 753 p1) x739_15 by rw [← (show v74 = M0 753 p1 by rw [← e75, e4, mUp_ne (Or.inl (by decide))]), ← evF_20 (M := M0) (so := M0 751 x739_24) (by omega) (by omega), ← (show evF M1 x739_24 x739_15 v95 = evF M0 x739_24 x739_15 (M0 751 x739_24) by rw [← e96, show M1 751 x739_24 = M0 751 x739_24 by rw [e4, mUp_ne (Or.inl (by decide))]]; exact evF_748 (fun a q => by rw [e4, mUp_ne (Or.inl (by omega))]) (fun k q => by rw [e4, mUp_ne (Or.inl (by decide))]) (by rw [e4, mUp_ne (Or.inr (by decide))]) (by rw [e4, mUp_ne (Or.inr (by decide))])), evF_20 (by omega) (by omega)]; exact xh86)]) (by omega) (by rw [evF_12, ← e252, hQ101.at (ga_746 _) rfl, e4, mUp_ne (Or.inl (by decide))]) (by omega) (xh103 b (by rw [(show evF M1 x739_24 x739_15 v95 = evF M0 x739_24 x739_15 (M0 751 x739_24) by rw [← e96, show M1 751 x739_24 = M0 751 x739_24 by rw [e4, mUp_ne (Or.inl (by decide))]]; exact evF_748 (fun a q => by rw [e4, mUp_ne (Or.inl (by omega))]) (fun k q => by rw [e4, mUp_ne (Or.inl (by decide))]) (by rw [e4, mUp_ne (Or.inr (by decide))]) (by rw [e4, mUp_ne (Or.inr (by decide))]))]; exact hb)) (by omega) (by omega)⟩, by omega, by rw [show (x739_15 : Int) + 1 = x739_15 + 1 from rfl]; exact q3, ⟨fun k => by rw [q4.1 k, show M99 748 k = M0 748 k by rw [hQ101.at (ga_748 _) rfl, e4, mUp_ne (Or.inl (by decide))], (show v256 = M0 753 p1 by rw [← e257, hQ101.at (ga_753 _) rfl, e4, mUp_ne (Or.inl (by decide))])], fun k => by rw [q4.2.1 k, show M99 749 k = M0 749 k by rw [hQ101.at (ga_749 _) rfl, e4, mUp_ne (Or.inl (by decide))], (show v260 = M0 754 p1 by rw [← e261, hQ101.at (ga_754 _) rfl, e4, mUp_ne (Or.inl (by decide))])], fun k => by rw [q4.2.2 k, show M99 750 k = M0 750 k by rw [hQ101.at (ga_750 _) rfl, e4, mUp_ne (Or.inl (by decide))]]⟩, by rw [← (show v256 = M0 753 p1 by rw [← e257, hQ101.at (ga_753 _) rfl, e4, mUp_ne (Or.inl (by decide))])]; exact (EVW_bs (M0 := M0) q5 (fun a i q => by rcases q with rfl | rfl | rfl | rfl | rfl | rfl | rfl | rfl; (rw [hQ101.at (ga_742 _) rfl, e4, mUp_ne (Or.inl (by decide))]); (rw [hQ101.at (ga_743 _) rfl, e4, mUp_ne (Or.inl (by decide))]); (rw [hQ101.at (ga_744 _) rfl, e4, mUp_ne (Or.inl (by decide))]); (rw [hQ101.at (ga_745 _) rfl, e4, mUp_ne (Or.inl (by decide))]); (rw [hQ101.at (ga_746 _) rfl, e4, mUp_ne (Or.inl (by decide))]); (rw [hQ101.at (ga_748 _) rfl, e4, mUp_ne (Or.inl (by decide))]); (rw [hQ101.at (ga_751 _) rfl, e4, mUp_ne (Or.inl (by decide))]); (rw [hQ101.at (ga_752 _) rfl, e4, mUp_ne (Or.inl (by decide))])) (by rw [hQ101.at g_739_1 rfl, e4, mUp_ne (Or.inr (by decide))]) (by rw [hQ101.at g_739_3 rfl, e4, mUp_ne (Or.inr (by decide))]))⟩), by have := ((hQ267.at g_739_0 rfl).trans ((hQ101.at g_739_0 rfl).trans (mUp_at e4))); omega, pr270, (QW_sm (Sm.fr hQ267 rfl) (QW_sm (Sm.fr hQ101 rfl) (QW_sm (Sm.up e4 g_739_0 rfl) pp_QW)))⟩)
                · intro h274
                  exfalso
                  omega
          · intro h275
            refine wk_c1 r121_49 ?_
            subst hQ; exact wk_iret r121_50 (⟨rfl, _, rfl, hP2, hF3, by omega, by omega, Or.inl ⟨by omega, fun a i q => by rw [e4, mUp_ne q], by omega⟩, by have := (mUp_at e4); omega, (WS_sm (Sm.up e4 g_739_0 rfl) pp_WS), (QW_sm (Sm.up e4 g_739_0 rfl) pp_QW)⟩)
      · intro h276
        clear h58
        refine wk_c1 r121_30 ?_
        subst hQ; exact wk_iret r121_31 (⟨rfl, _, rfl, hP2, hF3, by omega, by omega, Or.inl ⟨by omega, fun a i q => by rw [e4, mUp_ne q], by omega⟩, by have := (mUp_at e4); omega, (WS_sm (Sm.up e4 g_739_0 rfl) pp_WS), (QW_sm (Sm.up e4 g_739_0 rfl) pp_QW)⟩)
