
def fm_n8090_739 : Nat := 11692013098647223345629478661730264157247460343808
/-- IslandHallModel.isWho -/
theorem n8090_739 {B : eB} (d : Nat) (M0 : Mm) (p1 : Int) (x739_0 : Int) (x739_1 : Int) (hP0 : Pw M0) (l1 : (-2147483648) ≤ p1) (u1 : p1 ≤ 2147483647) (ex739_0 : M0 739 0 = x739_0) (lx739_0 : 0 ≤ x739_0) (ux739_0 : x739_0 ≤ 1) (ex739_1 : M0 739 1 = x739_1) (lx739_1 : 0 ≤ x739_1) (ux739_1 : x739_1 ≤ 7) : Ct B (d + 2) 90 [R 739, I p1] M0 (qI fun z M => Pw M ∧ Fr fm_n8090_739 M0 M ∧ 0 ≤ z ∧ z ≤ 1 ∧ 0 ≤ M 739 0 ∧ (z = 1 → 0 ≤ p1) ∧ (z = 1 → 0 ≤ M 739 1 + (-1) * p1 + (-1)) ∧ ((M0 739 0 = 0 → (z = 1 ∧ 0 ≤ p1 ∧ p1 < x739_1 ∧ M 739 0 = 0) ∨ (z = 0 ∧ (p1 < 0 ∨ x739_1 ≤ p1) ∧ M 739 0 = 1)) ∧ ∀ a i : Int, a ≠ 739 ∨ i ≠ 0 → M a i = M0 a i)) := by
  refine ct_of (d := d + 1) (k := 0) (L := [some (R 739), some (I p1)]) rfl rfl rfl ?_
  have hF0 := Fr.rf fm_n8090_739 M0
  generalize hQ : (qI fun z M => Pw M ∧ Fr fm_n8090_739 M0 M ∧ 0 ≤ z ∧ z ≤ 1 ∧ 0 ≤ M 739 0 ∧ (z = 1 → 0 ≤ p1) ∧ (z = 1 → 0 ≤ M 739 1 + (-1) * p1 + (-1)) ∧ ((M0 739 0 = 0 → (z = 1 ∧ 0 ≤ p1 ∧ p1 < x739_1 ∧ M 739 0 = 0) ∨ (z = 0 ∧ (p1 < 0 ∨ x739_1 ≤ p1) ∧ M 739 0 = 1)) ∧ ∀ a i : Int, a ≠ 739 ∨ i ≠ 0 → M a i = M0 a i)) = Q
  refine wk_al0 r90_0 (wk_il1 r90_1 ?_)
  refine wk_iflt r90_2 ⟨by omega, by omega⟩ ?_ ?_
  · intro h1
    refine wk_c1 r90_17 (wk_c1 r90_18 (wk_cv3 r90_19 kc_739_123 rfl (n8123_739 _ M0 0 1 x739_0 hP0 (by decide) (by decide) (by decide) (by decide) ex739_0 (by first | with_reducible assumption | omega) (by first | with_reducible assumption | omega)) (cqI ?_)))
    rintro v11 M2 ⟨hP3, hQ4, h12, h13, h6, h7, xh8, xh9, xh10⟩
    have hF5 : Fr fm_n8090_739 M0 M2 := hF0.tr hQ4 rfl
    obtain ⟨v14, e15⟩ : ∃ v, M2 739 0 = v := ⟨_, rfl⟩
    have h16 := (bf_739_0 hP3).1; rw [e15] at h16
    have h17 := (bf_739_0 hP3).2; rw [e15] at h17
    have h18 := xh8
    have h19 := xh9
    have h20 := ex739_0
    subst hQ; exact wk_zret r90_22 ⟨by omega, by omega⟩ (⟨rfl, _, rfl, hP3, hF5, by omega, by omega, by have := e15; omega, by omega, by omega, ⟨by intro q9; have := e15; omega, xh10⟩⟩)
  · intro h21
    refine wk_il1 r90_5 (wk_al0 r90_6 (wk_getfi r90_7 fd_739_1 ex739_1 ?_))
    refine wk_icge r90_10 ⟨by omega, by omega⟩ ⟨by omega, by omega⟩ ?_ ?_
    · intro h22
      refine wk_c1 r90_17 (wk_c1 r90_18 (wk_cv3 r90_19 kc_739_123 rfl (n8123_739 _ M0 0 1 x739_0 hP0 (by decide) (by decide) (by decide) (by decide) ex739_0 (by first | with_reducible assumption | omega) (by first | with_reducible assumption | omega)) (cqI ?_)))
      rintro v32 M23 ⟨hP24, hQ25, h33, h34, h27, h28, xh29, xh30, xh31⟩
      have hF26 : Fr fm_n8090_739 M0 M23 := hF0.tr hQ25 rfl
      obtain ⟨v35, e36⟩ : ∃ v, M23 739 0 = v := ⟨_, rfl⟩
      have h37 := (bf_739_0 hP24).1; rw [e36] at h37
      have h38 := (bf_739_0 hP24).2; rw [e36] at h38
      have h39 := xh29
      have h40 := xh30
      have h41 := ex739_0
      subst hQ; exact wk_zret r90_22 ⟨by omega, by omega⟩ (⟨rfl, _, rfl, hP24, hF26, by omega, by omega, by have := e36; omega, by omega, by omega, ⟨by intro q9; have := e36; omega, xh31⟩⟩)
    · intro h42
      refine wk_c1 r90_13 (wk_goto r90_14 (wk_c1 r90_18 (wk_cv3 r90_19 kc_739_123 rfl (n8123_739v1 _ M0 1 1 x739_0 hP0 (by decide) (by decide) (by decide) (by decide) ex739_0 (by first | with_reducible assumption | omega) (by first | with_reducible assumption | omega)) (cqI ?_))))
      rintro v52 M43 ⟨hP44, hQ45, h53, h54, h47, h48, xh49, xh50, xh51⟩
      obtain rfl := Fr.same hQ45
      have e55 := ex739_0
      have h56 := xh49
      have h57 := xh50
      have h58 := ex739_0
      subst hQ; exact wk_zret r90_22 ⟨by omega, by omega⟩ (⟨rfl, _, rfl, hP0, hF0, by omega, by omega, by have := ex739_0; omega, by omega, by have := ex739_1; omega, ⟨by intro q9; have := ex739_0; omega, xh51⟩⟩)
def fm_n8087_739 : Nat := 11692013098647223345629478661730264157247460343808
/-- IslandHallModel.isSentence -/
theorem n8087_739 {B : eB} (d : Nat) (M0 : Mm) (p1 : Int) (x739_0 : Int) (x739_13 : Int) (hP0 : Pw M0) (l1 : (-2147483648) ≤ p1) (u1 : p1 ≤ 2147483647) (ex739_0 : M0 739 0 = x739_0) (lx739_0 : 0 ≤ x739_0) (ux739_0 : x739_0 ≤ 1) (ex739_13 : M0 739 13 = x739_13) (lx739_13 : 0 ≤ x739_13) (ux739_13 : x739_13 ≤ 30) : Ct B (d + 2) 87 [R 739, I p1] M0 (qI fun z M => Pw M ∧ Fr fm_n8087_739 M0 M ∧ 0 ≤ z ∧ z ≤ 1 ∧ 0 ≤ M 739 0 ∧ (z = 1 → 0 ≤ p1) ∧ (z = 1 → 0 ≤ M 739 13 + (-1) * p1 + (-1)) ∧ ((M0 739 0 = 0 → (z = 1 ∧ 0 ≤ p1 ∧ p1 < x739_13 ∧ M 739 0 = 0) ∨ (z = 0 ∧ (p1 < 0 ∨ x739_13 ≤ p1) ∧ M 739 0 = 1)) ∧ ∀ a i : Int, a ≠ 739 ∨ i ≠ 0 → M a i = M0 a i)) := by
  refine ct_of (d := d + 1) (k := 0) (L := [some (R 739), some (I p1)]) rfl rfl rfl ?_
  have hF0 := Fr.rf fm_n8087_739 M0
  generalize hQ : (qI fun z M => Pw M ∧ Fr fm_n8087_739 M0 M ∧ 0 ≤ z ∧ z ≤ 1 ∧ 0 ≤ M 739 0 ∧ (z = 1 → 0 ≤ p1) ∧ (z = 1 → 0 ≤ M 739 13 + (-1) * p1 + (-1)) ∧ ((M0 739 0 = 0 → (z = 1 ∧ 0 ≤ p1 ∧ p1 < x739_13 ∧ M 739 0 = 0) ∨ (z = 0 ∧ (p1 < 0 ∨ x739_13 ≤ p1) ∧ M 739 0 = 1)) ∧ ∀ a i : Int, a ≠ 739 ∨ i ≠ 0 → M a i = M0 a i)) = Q
  refine wk_al0 r87_0 (wk_il1 r87_1 ?_)
  refine wk_iflt r87_2 ⟨by omega, by omega⟩ ?_ ?_
  · intro h1
    refine wk_c1 r87_17 (wk_c1 r87_18 (wk_cv3 r87_19 kc_739_123 rfl (n8123_739 _ M0 0 1 x739_0 hP0 (by decide) (by decide) (by decide) (by decide) ex739_0 (by first | with_reducible assumption | omega) (by first | with_reducible assumption | omega)) (cqI ?_)))
    rintro v11 M2 ⟨hP3, hQ4, h12, h13, h6, h7, xh8, xh9, xh10⟩
    have hF5 : Fr fm_n8087_739 M0 M2 := hF0.tr hQ4 rfl
    obtain ⟨v14, e15⟩ : ∃ v, M2 739 0 = v := ⟨_, rfl⟩
    have h16 := (bf_739_0 hP3).1; rw [e15] at h16
    have h17 := (bf_739_0 hP3).2; rw [e15] at h17
    have h18 := xh8
    have h19 := xh9
    have h20 := ex739_0
    subst hQ; exact wk_zret r87_22 ⟨by omega, by omega⟩ (⟨rfl, _, rfl, hP3, hF5, by omega, by omega, by have := e15; omega, by omega, by omega, ⟨by intro q9; have := e15; omega, xh10⟩⟩)
  · intro h21
    refine wk_il1 r87_5 (wk_al0 r87_6 (wk_getfi r87_7 fd_739_13 ex739_13 ?_))
    refine wk_icge r87_10 ⟨by omega, by omega⟩ ⟨by omega, by omega⟩ ?_ ?_
    · intro h22
      refine wk_c1 r87_17 (wk_c1 r87_18 (wk_cv3 r87_19 kc_739_123 rfl (n8123_739 _ M0 0 1 x739_0 hP0 (by decide) (by decide) (by decide) (by decide) ex739_0 (by first | with_reducible assumption | omega) (by first | with_reducible assumption | omega)) (cqI ?_)))
      rintro v32 M23 ⟨hP24, hQ25, h33, h34, h27, h28, xh29, xh30, xh31⟩
      have hF26 : Fr fm_n8087_739 M0 M23 := hF0.tr hQ25 rfl
      obtain ⟨v35, e36⟩ : ∃ v, M23 739 0 = v := ⟨_, rfl⟩
      have h37 := (bf_739_0 hP24).1; rw [e36] at h37
      have h38 := (bf_739_0 hP24).2; rw [e36] at h38
      have h39 := xh29
      have h40 := xh30
      have h41 := ex739_0
      subst hQ; exact wk_zret r87_22 ⟨by omega, by omega⟩ (⟨rfl, _, rfl, hP24, hF26, by omega, by omega, by have := e36; omega, by omega, by omega, ⟨by intro q9; have := e36; omega, xh31⟩⟩)
    · intro h42
      refine wk_c1 r87_13 (wk_goto r87_14 (wk_c1 r87_18 (wk_cv3 r87_19 kc_739_123 rfl (n8123_739v1 _ M0 1 1 x739_0 hP0 (by decide) (by decide) (by decide) (by decide) ex739_0 (by first | with_reducible assumption | omega) (by first | with_reducible assumption | omega)) (cqI ?_))))
      rintro v52 M43 ⟨hP44, hQ45, h53, h54, h47, h48, xh49, xh50, xh51⟩
      obtain rfl := Fr.same hQ45
      have e55 := ex739_0
      have h56 := xh49
      have h57 := xh50
      have h58 := ex739_0
      subst hQ; exact wk_zret r87_22 ⟨by omega, by omega⟩ (⟨rfl, _, rfl, hP0, hF0, by omega, by omega, by have := ex739_0; omega, by omega, by have := ex739_13; omega, ⟨by intro q9; have := ex739_0; omega, xh51⟩⟩)
def fm_n8124_739 : Nat := 1836637523942442802270778074297411395748152875507367241394127599525995479040
/-- IslandHallModel.says -/
theorem n8124_739 {B : eB} (d : Nat) (M0 : Mm) (p1 : Int) (p2 : Int) (x739_13 : Int) (x739_1 : Int) (x739_15 : Int) (x739_7 : Int) (x739_0 : Int) (L : List Int) (hP0 : Pw M0) (l1 : (-2147483648) ≤ p1) (u1 : p1 ≤ 2147483647) (l2 : (-2147483648) ≤ p2) (u2 : p2 ≤ 2147483647) (ex739_13 : M0 739 13 = x739_13) (lx739_13 : 0 ≤ x739_13) (ux739_13 : x739_13 ≤ 30) (ex739_1 : M0 739 1 = x739_1) (lx739_1 : 0 ≤ x739_1) (ux739_1 : x739_1 ≤ 7) (ex739_15 : M0 739 15 = x739_15) (lx739_15 : 0 ≤ x739_15) (ux739_15 : x739_15 ≤ 12) (ex739_7 : M0 739 7 = x739_7) (lx739_7 : 0 ≤ x739_7) (ux739_7 : x739_7 ≤ 3000) (ex739_0 : M0 739 0 = x739_0) (lx739_0 : 0 ≤ x739_0) (ux739_0 : x739_0 ≤ 1) (xp0 : 0 ≤ p2 → p2 < x739_13 → LST (fun k => M0 747 k) (400 * p2) L) (xp1 : ∀ w : Int, 0 ≤ w → w < x739_7 → (0 ≤ M0 751 w ∧ M0 751 w < pw x739_15) ∧ (0 ≤ M0 752 w ∧ M0 752 w < pw x739_15)) (pp_WS : WS M0) : Ct B (d + 7) 124 [R 739, I p1, I p2] M0 (qI fun z M => Pw M ∧ Fr fm_n8124_739 M0 M ∧ (-1) ≤ z ∧ z ≤ 11 ∧ (((p1 < 0 ∨ x739_1 ≤ p1 ∨ p2 < 0 ∨ x739_13 ≤ p2) ∧ z = 0 ∧ M 739 0 = 1 ∧ ∀ a i : Int, a ≠ 739 ∨ i ≠ 0 → M a i = M0 a i) ∨ (0 ≤ p1 ∧ p1 < x739_1 ∧ 0 ≤ p2 ∧ p2 < x739_13 ∧ M 739 0 = 0 ∧ ((x739_15 = 12 ∧ z = -1 ∧ ∀ a i : Int, a ≠ 739 ∨ i ≠ 0 → M a i = M0 a i) ∨ (x739_15 ≠ 12 ∧ z = x739_15 ∧ M 739 15 = x739_15 + 1 ∧ ((∀ k : Int, M 748 k = if k = x739_15 then p1 else M0 748 k) ∧ (∀ k : Int, M 749 k = if k = x739_15 then p2 else M0 749 k) ∧ (∀ k : Int, M 750 k = if k = x739_15 then (-1) else M0 750 k)) ∧ EVW M0 M L x739_15 p1 (-1) x739_7)))) ∧ (WS M)) := by
  refine ct_of (d := d + 6) (k := 0) (L := [some (R 739), some (I p1), some (I p2)]) rfl rfl rfl ?_
  have hF0 := Fr.rf fm_n8124_739 M0
  generalize hQ : (qI fun z M => Pw M ∧ Fr fm_n8124_739 M0 M ∧ (-1) ≤ z ∧ z ≤ 11 ∧ (((p1 < 0 ∨ x739_1 ≤ p1 ∨ p2 < 0 ∨ x739_13 ≤ p2) ∧ z = 0 ∧ M 739 0 = 1 ∧ ∀ a i : Int, a ≠ 739 ∨ i ≠ 0 → M a i = M0 a i) ∨ (0 ≤ p1 ∧ p1 < x739_1 ∧ 0 ≤ p2 ∧ p2 < x739_13 ∧ M 739 0 = 0 ∧ ((x739_15 = 12 ∧ z = -1 ∧ ∀ a i : Int, a ≠ 739 ∨ i ≠ 0 → M a i = M0 a i) ∨ (x739_15 ≠ 12 ∧ z = x739_15 ∧ M 739 15 = x739_15 + 1 ∧ ((∀ k : Int, M 748 k = if k = x739_15 then p1 else M0 748 k) ∧ (∀ k : Int, M 749 k = if k = x739_15 then p2 else M0 749 k) ∧ (∀ k : Int, M 750 k = if k = x739_15 then (-1) else M0 750 k)) ∧ EVW M0 M L x739_15 p1 (-1) x739_7)))) ∧ (WS M)) = Q
  refine wk_al0 r124_0 (wk_c1 r124_1 (wk_putfi81 r124_2 fd_739_0 (wk_nw g_739_0 rfl hP0 hF0 (uf_739_0 (by decide)) ?_)))
  intro M1 hP2 hF3 e4
  refine wk_al0 r124_5 (wk_il1 r124_6 (wk_cv2 r124_7 kc_739_90 rfl (n8090_739 _ M1 p1 0 x739_1 hP2 (by first | with_reducible assumption | omega) (by first | with_reducible assumption | omega) (mUp_at e4) (by first | with_reducible assumption | omega) (by first | with_reducible assumption | omega) (mUp_no e4 ex739_1 (Or.inr (by decide))) (by first | with_reducible assumption | omega) (by first | with_reducible assumption | omega)) (cqI ?_)))
  rintro v13 M5 ⟨hP6, hQ7, h14, h15, h9, h10, h11, xh12⟩
  have hF8 : Fr fm_n8124_739 M0 M5 := hF3.tr hQ7 rfl
  obtain ⟨v16, e17⟩ : ∃ v, M5 739 0 = v := ⟨_, rfl⟩
  have h18 := (bf_739_0 hP6).1; rw [e17] at h18
  have h19 := (bf_739_0 hP6).2; rw [e17] at h19
  have e20 := ((hQ7.at g_739_1 rfl).trans (mUp_no e4 ex739_1 (Or.inr (by decide))))
  have h21 := xh12.1 (by have := (mUp_at e4); omega)
  have h22 := e17
  refine wk_ifeq r124_10 ⟨by omega, by omega⟩ ?_ ?_
  · intro h23
    clear h10 h11
    refine wk_c1 r124_21 ?_
    subst hQ; exact wk_iret r124_22 (⟨rfl, _, rfl, hP6, hF8, by omega, by omega, Or.inl ⟨by omega, by omega, by have := e17; omega, fun a i q => by rw [xh12.2 a i q, e4, mUp_ne q]⟩, (WS_sm (Sm.fr hQ7 rfl) (WS_sm (Sm.up e4 g_739_0 rfl) pp_WS))⟩)
  · intro h24
    replace h10 := h10 (z1_of h14 h15 h24)
    replace h11 := h11 (z1_of h14 h15 h24)
    refine wk_al0 r124_13 (wk_il2 r124_14 (wk_cv2 r124_15 kc_739_87 rfl (n8087_739 _ M5 p2 v16 x739_13 hP6 (by first | with_reducible assumption | omega) (by first | with_reducible assumption | omega) e17 (by first | with_reducible assumption | omega) (by first | with_reducible assumption | omega) ((hQ7.at g_739_13 rfl).trans (mUp_no e4 ex739_13 (Or.inr (by decide)))) (by first | with_reducible assumption | omega) (by first | with_reducible assumption | omega)) (cqI ?_)))
    rintro v33 M25 ⟨hP26, hQ27, h34, h35, h29, h30, h31, xh32⟩
    have hF28 : Fr fm_n8124_739 M0 M25 := hF8.tr hQ27 rfl
    obtain ⟨v36, e37⟩ : ∃ v, M25 739 0 = v := ⟨_, rfl⟩
    have h38 := (bf_739_0 hP26).1; rw [e37] at h38
    have h39 := (bf_739_0 hP26).2; rw [e37] at h39
    have e40 := ((hQ27.at g_739_13 rfl).trans ((hQ7.at g_739_13 rfl).trans (mUp_no e4 ex739_13 (Or.inr (by decide)))))
    have h41 := xh32.1 (by have := e17; omega)
    have h42 := e37
    refine wk_ifne r124_18 ⟨by omega, by omega⟩ ?_ ?_
    · intro h43
      replace h30 := h30 (z1_of h34 h35 h43)
      replace h31 := h31 (z1_of h34 h35 h43)
      refine wk_al0 r124_23 (wk_il1 r124_24 (wk_il2 r124_25 (wk_c1 r124_26 ?_)))
      have hall : ∀ a i : Int, a ≠ 739 ∨ i ≠ 0 → M25 a i = M0 a i := fun a i q => by rw [xh32.2 a i q, xh12.2 a i q, e4, mUp_ne q]
      refine wk_cv4 r124_27 kc_739_67 rfl (n8067_739 _ M25 p1 p2 (-1) x739_13 x739_15 x739_7 x739_1 L hP26 (by first | with_reducible assumption | omega) (by first | with_reducible assumption | omega) (by first | with_reducible assumption | omega) (by first | with_reducible assumption | omega) (by decide) (by decide) ((hQ27.at g_739_13 rfl).trans ((hQ7.at g_739_13 rfl).trans (mUp_no e4 ex739_13 (Or.inr (by decide))))) (by first | with_reducible assumption | omega) (by first | with_reducible assumption | omega) ((hQ27.at g_739_15 rfl).trans ((hQ7.at g_739_15 rfl).trans (mUp_no e4 ex739_15 (Or.inr (by decide))))) (by first | with_reducible assumption | omega) (by first | with_reducible assumption | omega) ((hQ27.at g_739_7 rfl).trans ((hQ7.at g_739_7 rfl).trans (mUp_no e4 ex739_7 (Or.inr (by decide))))) (by first | with_reducible assumption | omega) (by first | with_reducible assumption | omega) ((hQ27.at g_739_1 rfl).trans ((hQ7.at g_739_1 rfl).trans (mUp_no e4 ex739_1 (Or.inr (by decide))))) (by first | with_reducible assumption | omega) (by first | with_reducible assumption | omega) (by omega) (by rw [show (fun k => M25 747 k) = (fun k => M0 747 k) from funext fun k => hF28.at (ga_747 k) rfl]; exact xp0 (by omega) (by omega)) (fun w a b => by rw [hall 751 w (Or.inl (by decide)), hall 752 w (Or.inl (by decide))]; exact xp1 w a b) (WS_sm (Sm.fr hQ27 rfl) (WS_sm (Sm.fr hQ7 rfl) (WS_sm (Sm.up e4 g_739_0 rfl) pp_WS)))) (cqI ?_)
      rintro v50 M44 ⟨hP45, hQ46, h51, h52, xh48, pr49⟩
      have hF47 : Fr fm_n8124_739 M0 M44 := hF28.tr hQ46 rfl
      subst hQ; exact wk_iret r124_30 (⟨rfl, _, rfl, hP45, hF47, by omega, by omega, Or.inr ⟨by omega, by omega, by omega, by omega, ((hQ46.at g_739_0 rfl).trans e37).trans (by omega), by rcases xh48 with ⟨q1, q2, q3⟩ | ⟨q1, q2, q3, q4, q5⟩; (exact Or.inl ⟨by omega, by omega, fun a i q => (q3 a i).trans (hall a i q)⟩); (exact Or.inr ⟨by omega, by omega, by omega, ⟨fun k => by rw [q4.1 k, hall 748 k (Or.inl (by decide))], fun k => by rw [q4.2.1 k, hall 749 k (Or.inl (by decide))], fun k => by rw [q4.2.2 k, hall 750 k (Or.inl (by decide))]⟩, (EVW_bs (M0 := M0) q5 (fun a i q => hall a i (Or.inl (by omega))) (hall _ _ (Or.inr (by decide))) (hall _ _ (Or.inr (by decide))))⟩)⟩, pr49⟩)
    · intro h53
      clear h30 h31
      refine wk_c1 r124_21 ?_
      subst hQ; exact wk_iret r124_22 (⟨rfl, _, rfl, hP26, hF28, by omega, by omega, Or.inl ⟨by omega, by omega, by have := e37; omega, fun a i q => by rw [xh32.2 a i q, xh12.2 a i q, e4, mUp_ne q]⟩, (WS_sm (Sm.fr hQ27 rfl) (WS_sm (Sm.fr hQ7 rfl) (WS_sm (Sm.up e4 g_739_0 rfl) pp_WS)))⟩)
def fm_n8046_739 : Nat := 1836637523942442802270778074297411395748152875507367241394127599525995479040
/-- IslandHallModel.answers -/
theorem n8046_739 {B : eB} (d : Nat) (M0 : Mm) (p1 : Int) (p2 : Int) (p3 : Int) (x739_13 : Int) (x739_1 : Int) (x739_15 : Int) (x739_7 : Int) (x739_0 : Int) (L : List Int) (hP0 : Pw M0) (l1 : (-2147483648) ≤ p1) (u1 : p1 ≤ 2147483647) (l2 : (-2147483648) ≤ p2) (u2 : p2 ≤ 2147483647) (l3 : (-2147483648) ≤ p3) (u3 : p3 ≤ 2147483647) (ex739_13 : M0 739 13 = x739_13) (lx739_13 : 0 ≤ x739_13) (ux739_13 : x739_13 ≤ 30) (ex739_1 : M0 739 1 = x739_1) (lx739_1 : 0 ≤ x739_1) (ux739_1 : x739_1 ≤ 7) (ex739_15 : M0 739 15 = x739_15) (lx739_15 : 0 ≤ x739_15) (ux739_15 : x739_15 ≤ 12) (ex739_7 : M0 739 7 = x739_7) (lx739_7 : 0 ≤ x739_7) (ux739_7 : x739_7 ≤ 3000) (ex739_0 : M0 739 0 = x739_0) (lx739_0 : 0 ≤ x739_0) (ux739_0 : x739_0 ≤ 1) (xp0 : 0 ≤ p2 → p2 < x739_13 → LST (fun k => M0 747 k) (400 * p2) L) (xp1 : ∀ w : Int, 0 ≤ w → w < x739_7 → (0 ≤ M0 751 w ∧ M0 751 w < pw x739_15) ∧ (0 ≤ M0 752 w ∧ M0 752 w < pw x739_15)) (pp_WS : WS M0) : Ct B (d + 7) 46 [R 739, I p1, I p2, I p3] M0 (qI fun z M => Pw M ∧ Fr fm_n8046_739 M0 M ∧ (-1) ≤ z ∧ z ≤ 11 ∧ (((p1 < 0 ∨ x739_1 ≤ p1 ∨ p2 < 0 ∨ x739_13 ≤ p2 ∨ p3 < 0 ∨ 1 < p3) ∧ z = 0 ∧ M 739 0 = 1 ∧ ∀ a i : Int, a ≠ 739 ∨ i ≠ 0 → M a i = M0 a i) ∨ (0 ≤ p1 ∧ p1 < x739_1 ∧ 0 ≤ p2 ∧ p2 < x739_13 ∧ 0 ≤ p3 ∧ p3 ≤ 1 ∧ M 739 0 = 0 ∧ ((x739_15 = 12 ∧ z = -1 ∧ ∀ a i : Int, a ≠ 739 ∨ i ≠ 0 → M a i = M0 a i) ∨ (x739_15 ≠ 12 ∧ z = x739_15 ∧ M 739 15 = x739_15 + 1 ∧ ((∀ k : Int, M 748 k = if k = x739_15 then p1 else M0 748 k) ∧ (∀ k : Int, M 749 k = if k = x739_15 then p2 else M0 749 k) ∧ (∀ k : Int, M 750 k = if k = x739_15 then p3 else M0 750 k)) ∧ EVW M0 M L x739_15 p1 p3 x739_7)))) ∧ (WS M)) := by
  refine ct_of (d := d + 6) (k := 0) (L := [some (R 739), some (I p1), some (I p2), some (I p3)]) rfl rfl rfl ?_
  have hF0 := Fr.rf fm_n8046_739 M0
  generalize hQ : (qI fun z M => Pw M ∧ Fr fm_n8046_739 M0 M ∧ (-1) ≤ z ∧ z ≤ 11 ∧ (((p1 < 0 ∨ x739_1 ≤ p1 ∨ p2 < 0 ∨ x739_13 ≤ p2 ∨ p3 < 0 ∨ 1 < p3) ∧ z = 0 ∧ M 739 0 = 1 ∧ ∀ a i : Int, a ≠ 739 ∨ i ≠ 0 → M a i = M0 a i) ∨ (0 ≤ p1 ∧ p1 < x739_1 ∧ 0 ≤ p2 ∧ p2 < x739_13 ∧ 0 ≤ p3 ∧ p3 ≤ 1 ∧ M 739 0 = 0 ∧ ((x739_15 = 12 ∧ z = -1 ∧ ∀ a i : Int, a ≠ 739 ∨ i ≠ 0 → M a i = M0 a i) ∨ (x739_15 ≠ 12 ∧ z = x739_15 ∧ M 739 15 = x739_15 + 1 ∧ ((∀ k : Int, M 748 k = if k = x739_15 then p1 else M0 748 k) ∧ (∀ k : Int, M 749 k = if k = x739_15 then p2 else M0 749 k) ∧ (∀ k : Int, M 750 k = if k = x739_15 then p3 else M0 750 k)) ∧ EVW M0 M L x739_15 p1 p3 x739_7)))) ∧ (WS M)) = Q
  refine wk_al0 r46_0 (wk_c1 r46_1 (wk_putfi81 r46_2 fd_739_0 (wk_nw g_739_0 rfl hP0 hF0 (uf_739_0 (by decide)) ?_)))
  intro M1 hP2 hF3 e4
  refine wk_al0 r46_5 (wk_il1 r46_6 (wk_cv2 r46_7 kc_739_90 rfl (n8090_739 _ M1 p1 0 x739_1 hP2 (by first | with_reducible assumption | omega) (by first | with_reducible assumption | omega) (mUp_at e4) (by first | with_reducible assumption | omega) (by first | with_reducible assumption | omega) (mUp_no e4 ex739_1 (Or.inr (by decide))) (by first | with_reducible assumption | omega) (by first | with_reducible assumption | omega)) (cqI ?_)))
  rintro v13 M5 ⟨hP6, hQ7, h14, h15, h9, h10, h11, xh12⟩
  have hF8 : Fr fm_n8046_739 M0 M5 := hF3.tr hQ7 rfl
  obtain ⟨v16, e17⟩ : ∃ v, M5 739 0 = v := ⟨_, rfl⟩
  have h18 := (bf_739_0 hP6).1; rw [e17] at h18
  have h19 := (bf_739_0 hP6).2; rw [e17] at h19
  have e20 := ((hQ7.at g_739_1 rfl).trans (mUp_no e4 ex739_1 (Or.inr (by decide))))
  have h21 := xh12.1 (by have := (mUp_at e4); omega)
  have h22 := e17
  refine wk_ifeq r46_10 ⟨by omega, by omega⟩ ?_ ?_
  · intro h23
    clear h10 h11
    refine wk_c1 r46_43 ?_
    subst hQ; exact wk_iret r46_44 (⟨rfl, _, rfl, hP6, hF8, by omega, by omega, Or.inl ⟨by omega, by omega, by have := e17; omega, fun a i q => by rw [xh12.2 a i q, e4, mUp_ne q]⟩, (WS_sm (Sm.fr hQ7 rfl) (WS_sm (Sm.up e4 g_739_0 rfl) pp_WS))⟩)
  · intro h24
    replace h10 := h10 (z1_of h14 h15 h24)
    replace h11 := h11 (z1_of h14 h15 h24)
    refine wk_al0 r46_13 (wk_il2 r46_14 (wk_cv2 r46_15 kc_739_87 rfl (n8087_739 _ M5 p2 v16 x739_13 hP6 (by first | with_reducible assumption | omega) (by first | with_reducible assumption | omega) e17 (by first | with_reducible assumption | omega) (by first | with_reducible assumption | omega) ((hQ7.at g_739_13 rfl).trans (mUp_no e4 ex739_13 (Or.inr (by decide)))) (by first | with_reducible assumption | omega) (by first | with_reducible assumption | omega)) (cqI ?_)))
    rintro v33 M25 ⟨hP26, hQ27, h34, h35, h29, h30, h31, xh32⟩
    have hF28 : Fr fm_n8046_739 M0 M25 := hF8.tr hQ27 rfl
    obtain ⟨v36, e37⟩ : ∃ v, M25 739 0 = v := ⟨_, rfl⟩
    have h38 := (bf_739_0 hP26).1; rw [e37] at h38
    have h39 := (bf_739_0 hP26).2; rw [e37] at h39
    have e40 := ((hQ27.at g_739_13 rfl).trans ((hQ7.at g_739_13 rfl).trans (mUp_no e4 ex739_13 (Or.inr (by decide)))))
    have h41 := xh32.1 (by have := e17; omega)
    have h42 := e37
    refine wk_ifeq r46_18 ⟨by omega, by omega⟩ ?_ ?_
    · intro h43
      clear h30 h31
      refine wk_c1 r46_43 ?_
      subst hQ; exact wk_iret r46_44 (⟨rfl, _, rfl, hP26, hF28, by omega, by omega, Or.inl ⟨by omega, by omega, by have := e37; omega, fun a i q => by rw [xh32.2 a i q, xh12.2 a i q, e4, mUp_ne q]⟩, (WS_sm (Sm.fr hQ27 rfl) (WS_sm (Sm.fr hQ7 rfl) (WS_sm (Sm.up e4 g_739_0 rfl) pp_WS)))⟩)
    · intro h44
      replace h30 := h30 (z1_of h34 h35 h44)
      replace h31 := h31 (z1_of h34 h35 h44)
      refine wk_al0 r46_21 (wk_il3 r46_22 ?_)
      refine wk_ifeq r46_23 ⟨by omega, by omega⟩ ?_ ?_
      · intro h45
        refine wk_c1 r46_31 (wk_goto r46_32 (wk_c1 r46_36 (wk_cv3 r46_37 kc_739_123 rfl (n8123_739v1 _ M25 1 1 v36 hP26 (by decide) (by decide) (by decide) (by decide) e37 (by first | with_reducible assumption | omega) (by first | with_reducible assumption | omega)) (cqI ?_))))
        rintro v55 M46 ⟨hP47, hQ48, h56, h57, h50, h51, xh52, xh53, xh54⟩
        obtain rfl := Fr.same hQ48
        have e58 := e37
        have h59 := xh52
        have h60 := xh53
        have h61 := e37
        have h62 := e37
        refine wk_ifne r46_40 ⟨by omega, by omega⟩ ?_ ?_
        · intro h63
          replace h51 := h51 (z1_of h56 h57 h63)
          refine wk_al0 r46_45 (wk_il1 r46_46 (wk_il2 r46_47 (wk_il3 r46_48 ?_)))
          have hall : ∀ a i : Int, a ≠ 739 ∨ i ≠ 0 → M25 a i = M0 a i := fun a i q => by rw [xh54 a i q, xh32.2 a i q, xh12.2 a i q, e4, mUp_ne q]
          refine wk_cv4 r46_49 kc_739_67 rfl (n8067_739 _ M25 p1 p2 p3 x739_13 x739_15 x739_7 x739_1 L hP26 (by first | with_reducible assumption | omega) (by first | with_reducible assumption | omega) (by first | with_reducible assumption | omega) (by first | with_reducible assumption | omega) (by first | with_reducible assumption | omega) (by first | with_reducible assumption | omega) ((hQ27.at g_739_13 rfl).trans ((hQ7.at g_739_13 rfl).trans (mUp_no e4 ex739_13 (Or.inr (by decide))))) (by first | with_reducible assumption | omega) (by first | with_reducible assumption | omega) ((hQ27.at g_739_15 rfl).trans ((hQ7.at g_739_15 rfl).trans (mUp_no e4 ex739_15 (Or.inr (by decide))))) (by first | with_reducible assumption | omega) (by first | with_reducible assumption | omega) ((hQ27.at g_739_7 rfl).trans ((hQ7.at g_739_7 rfl).trans (mUp_no e4 ex739_7 (Or.inr (by decide))))) (by first | with_reducible assumption | omega) (by first | with_reducible assumption | omega) ((hQ27.at g_739_1 rfl).trans ((hQ7.at g_739_1 rfl).trans (mUp_no e4 ex739_1 (Or.inr (by decide))))) (by first | with_reducible assumption | omega) (by first | with_reducible assumption | omega) (by omega) (by rw [show (fun k => M25 747 k) = (fun k => M0 747 k) from funext fun k => hF28.at (ga_747 k) rfl]; exact xp0 (by omega) (by omega)) (fun w a b => by rw [hall 751 w (Or.inl (by decide)), hall 752 w (Or.inl (by decide))]; exact xp1 w a b) (WS_sm (Sm.fr hQ27 rfl) (WS_sm (Sm.fr hQ7 rfl) (WS_sm (Sm.up e4 g_739_0 rfl) pp_WS)))) (cqI ?_)
          rintro v70 M64 ⟨hP65, hQ66, h71, h72, xh68, pr69⟩
          have hF67 : Fr fm_n8046_739 M0 M64 := hF28.tr hQ66 rfl
          subst hQ; exact wk_iret r46_52 (⟨rfl, _, rfl, hP65, hF67, by omega, by omega, Or.inr ⟨by omega, by omega, by omega, by omega, by omega, by omega, ((hQ66.at g_739_0 rfl).trans e37).trans (by omega), by rcases xh68 with ⟨q1, q2, q3⟩ | ⟨q1, q2, q3, q4, q5⟩; (exact Or.inl ⟨by omega, by omega, fun a i q => (q3 a i).trans (hall a i q)⟩); (exact Or.inr ⟨by omega, by omega, by omega, ⟨fun k => by rw [q4.1 k, hall 748 k (Or.inl (by decide))], fun k => by rw [q4.2.1 k, hall 749 k (Or.inl (by decide))], fun k => by rw [q4.2.2 k, hall 750 k (Or.inl (by decide))]⟩, (EVW_bs (M0 := M0) q5 (fun a i q => hall a i (Or.inl (by omega))) (hall _ _ (Or.inr (by decide))) (hall _ _ (Or.inr (by decide))))⟩)⟩, pr69⟩)
        · intro h73
          clear h51
          refine wk_c1 r46_43 ?_
          subst hQ; exact wk_iret r46_44 (⟨rfl, _, rfl, hP26, hF28, by omega, by omega, Or.inl ⟨by omega, by omega, by have := e37; omega, fun a i q => by rw [xh54 a i q, xh32.2 a i q, xh12.2 a i q, e4, mUp_ne q]⟩, (WS_sm (Sm.fr hQ27 rfl) (WS_sm (Sm.fr hQ7 rfl) (WS_sm (Sm.up e4 g_739_0 rfl) pp_WS)))⟩)
      · intro h74
        refine wk_il3 r46_26 (wk_c1 r46_27 ?_)
        refine wk_icne r46_28 ⟨by omega, by omega⟩ (by decide) ?_ ?_
        · intro h75
          refine wk_c1 r46_35 (wk_c1 r46_36 (wk_cv3 r46_37 kc_739_123 rfl (n8123_739 _ M25 0 1 v36 hP26 (by decide) (by decide) (by decide) (by decide) e37 (by first | with_reducible assumption | omega) (by first | with_reducible assumption | omega)) (cqI ?_)))
          rintro v85 M76 ⟨hP77, hQ78, h86, h87, h80, h81, xh82, xh83, xh84⟩
          have hF79 : Fr fm_n8046_739 M0 M76 := hF28.tr hQ78 rfl
          obtain ⟨v88, e89⟩ : ∃ v, M76 739 0 = v := ⟨_, rfl⟩
          have h90 := (bf_739_0 hP77).1; rw [e89] at h90
          have h91 := (bf_739_0 hP77).2; rw [e89] at h91
          have h92 := xh82
          have h93 := xh83
          have h94 := e37
          have h95 := e89
          refine wk_ifne r46_40 ⟨by omega, by omega⟩ ?_ ?_
          · intro h96
            exfalso
            omega
          · intro h97
            refine wk_c1 r46_43 ?_
            subst hQ; exact wk_iret r46_44 (⟨rfl, _, rfl, hP77, hF79, by omega, by omega, Or.inl ⟨by omega, by omega, by have := e89; omega, fun a i q => by rw [xh84 a i q, xh32.2 a i q, xh12.2 a i q, e4, mUp_ne q]⟩, (WS_sm (Sm.fr hQ78 rfl) (WS_sm (Sm.fr hQ27 rfl) (WS_sm (Sm.fr hQ7 rfl) (WS_sm (Sm.up e4 g_739_0 rfl) pp_WS))))⟩)
        · intro h98
          refine wk_c1 r46_31 (wk_goto r46_32 (wk_c1 r46_36 (wk_cv3 r46_37 kc_739_123 rfl (n8123_739v1 _ M25 1 1 v36 hP26 (by decide) (by decide) (by decide) (by decide) e37 (by first | with_reducible assumption | omega) (by first | with_reducible assumption | omega)) (cqI ?_))))
          rintro v108 M99 ⟨hP100, hQ101, h109, h110, h103, h104, xh105, xh106, xh107⟩
          obtain rfl := Fr.same hQ101
          have e111 := e37
          have h112 := xh105
          have h113 := xh106
          have h114 := e37
          have h115 := e37
          refine wk_ifne r46_40 ⟨by omega, by omega⟩ ?_ ?_
          · intro h116
            replace h104 := h104 (z1_of h109 h110 h116)
            refine wk_al0 r46_45 (wk_il1 r46_46 (wk_il2 r46_47 (wk_il3 r46_48 ?_)))
            have hall : ∀ a i : Int, a ≠ 739 ∨ i ≠ 0 → M25 a i = M0 a i := fun a i q => by rw [xh107 a i q, xh32.2 a i q, xh12.2 a i q, e4, mUp_ne q]
            refine wk_cv4 r46_49 kc_739_67 rfl (n8067_739 _ M25 p1 p2 p3 x739_13 x739_15 x739_7 x739_1 L hP26 (by first | with_reducible assumption | omega) (by first | with_reducible assumption | omega) (by first | with_reducible assumption | omega) (by first | with_reducible assumption | omega) (by first | with_reducible assumption | omega) (by first | with_reducible assumption | omega) ((hQ27.at g_739_13 rfl).trans ((hQ7.at g_739_13 rfl).trans (mUp_no e4 ex739_13 (Or.inr (by decide))))) (by first | with_reducible assumption | omega) (by first | with_reducible assumption | omega) ((hQ27.at g_739_15 rfl).trans ((hQ7.at g_739_15 rfl).trans (mUp_no e4 ex739_15 (Or.inr (by decide))))) (by first | with_reducible assumption | omega) (by first | with_reducible assumption | omega) ((hQ27.at g_739_7 rfl).trans ((hQ7.at g_739_7 rfl).trans (mUp_no e4 ex739_7 (Or.inr (by decide))))) (by first | with_reducible assumption | omega) (by first | with_reducible assumption | omega) ((hQ27.at g_739_1 rfl).trans ((hQ7.at g_739_1 rfl).trans (mUp_no e4 ex739_1 (Or.inr (by decide))))) (by first | with_reducible assumption | omega) (by first | with_reducible assumption | omega) (by omega) (by rw [show (fun k => M25 747 k) = (fun k => M0 747 k) from funext fun k => hF28.at (ga_747 k) rfl]; exact xp0 (by omega) (by omega)) (fun w a b => by rw [hall 751 w (Or.inl (by decide)), hall 752 w (Or.inl (by decide))]; exact xp1 w a b) (WS_sm (Sm.fr hQ27 rfl) (WS_sm (Sm.fr hQ7 rfl) (WS_sm (Sm.up e4 g_739_0 rfl) pp_WS)))) (cqI ?_)
            rintro v123 M117 ⟨hP118, hQ119, h124, h125, xh121, pr122⟩
            have hF120 : Fr fm_n8046_739 M0 M117 := hF28.tr hQ119 rfl
            subst hQ; exact wk_iret r46_52 (⟨rfl, _, rfl, hP118, hF120, by omega, by omega, Or.inr ⟨by omega, by omega, by omega, by omega, by omega, by omega, ((hQ119.at g_739_0 rfl).trans e37).trans (by omega), by rcases xh121 with ⟨q1, q2, q3⟩ | ⟨q1, q2, q3, q4, q5⟩; (exact Or.inl ⟨by omega, by omega, fun a i q => (q3 a i).trans (hall a i q)⟩); (exact Or.inr ⟨by omega, by omega, by omega, ⟨fun k => by rw [q4.1 k, hall 748 k (Or.inl (by decide))], fun k => by rw [q4.2.1 k, hall 749 k (Or.inl (by decide))], fun k => by rw [q4.2.2 k, hall 750 k (Or.inl (by decide))]⟩, (EVW_bs (M0 := M0) q5 (fun a i q => hall a i (Or.inl (by omega))) (hall _ _ (Or.inr (by decide))) (hall _ _ (Or.inr (by decide))))⟩)⟩, pr122⟩)
          · intro h126
            clear h104
            refine wk_c1 r46_43 ?_
            subst hQ; exact wk_iret r46_44 (⟨rfl, _, rfl, hP26, hF28, by omega, by omega, Or.inl ⟨by omega, by omega, by have := e37; omega, fun a i q => by rw [xh107 a i q, xh32.2 a i q, xh12.2 a i q, e4, mUp_ne q]⟩, (WS_sm (Sm.fr hQ27 rfl) (WS_sm (Sm.fr hQ7 rfl) (WS_sm (Sm.up e4 g_739_0 rfl) pp_WS)))⟩)
def fm_n8118_739 : Nat := 84808659109362447844518220381527409140676125113913318658001080864443727872
/-- IslandHallModel.question -/
theorem n8118_739 {B : eB} (d : Nat) (M0 : Mm) (p1 : Int) (p2 : Int) (x739_13 : Int) (x739_21 : Int) (x739_1 : Int) (hP0 : Pw M0) (l1 : (-2147483648) ≤ p1) (u1 : p1 ≤ 2147483647) (l2 : (-2147483648) ≤ p2) (u2 : p2 ≤ 2147483647) (ex739_13 : M0 739 13 = x739_13) (lx739_13 : 0 ≤ x739_13) (ux739_13 : x739_13 ≤ 30) (ex739_21 : M0 739 21 = x739_21) (lx739_21 : 0 ≤ x739_21) (ux739_21 : x739_21 ≤ 10) (ex739_1 : M0 739 1 = x739_1) (lx739_1 : 0 ≤ x739_1) (ux739_1 : x739_1 ≤ 7) (pp_WS : WS M0) (pp_QW : QW M0) : Ct B (d + 3) 118 [R 739, I p1, I p2] M0 (qI fun z M => Pw M ∧ Fr fm_n8118_739 M0 M ∧ (-1) ≤ z ∧ z ≤ 9 ∧ (QNR p1 p2 x739_1 x739_13 x739_21 (M 739 0) z (M 739 21)) ∧ ((M 739 0 ≠ 0 ∨ z = -1 → (∀ k : Int, M 753 k = M0 753 k) ∧ ∀ k : Int, M 754 k = M0 754 k) ∧ (M 739 0 = 0 → 0 ≤ z → (∀ k : Int, M 753 k = if k = x739_21 then p1 else M0 753 k) ∧ ∀ k : Int, M 754 k = if k = x739_21 then p2 else M0 754 k)) ∧ (WS M) ∧ (QW M)) := by
  refine ct_of (d := d + 2) (k := 0) (L := [some (R 739), some (I p1), some (I p2)]) rfl rfl rfl ?_
  have hF0 := Fr.rf fm_n8118_739 M0
  generalize hQ : (qI fun z M => Pw M ∧ Fr fm_n8118_739 M0 M ∧ (-1) ≤ z ∧ z ≤ 9 ∧ (QNR p1 p2 x739_1 x739_13 x739_21 (M 739 0) z (M 739 21)) ∧ ((M 739 0 ≠ 0 ∨ z = -1 → (∀ k : Int, M 753 k = M0 753 k) ∧ ∀ k : Int, M 754 k = M0 754 k) ∧ (M 739 0 = 0 → 0 ≤ z → (∀ k : Int, M 753 k = if k = x739_21 then p1 else M0 753 k) ∧ ∀ k : Int, M 754 k = if k = x739_21 then p2 else M0 754 k)) ∧ (WS M) ∧ (QW M)) = Q
  refine wk_al0 r118_0 (wk_c1 r118_1 (wk_putfi81 r118_2 fd_739_0 (wk_nw g_739_0 rfl hP0 hF0 (uf_739_0 (by decide)) ?_)))
  intro M1 hP2 hF3 e4
  refine wk_al0 r118_5 (wk_il1 r118_6 (wk_cv2 r118_7 kc_739_90 rfl (n8090_739 _ M1 p1 0 x739_1 hP2 (by first | with_reducible assumption | omega) (by first | with_reducible assumption | omega) (mUp_at e4) (by first | with_reducible assumption | omega) (by first | with_reducible assumption | omega) (mUp_no e4 ex739_1 (Or.inr (by decide))) (by first | with_reducible assumption | omega) (by first | with_reducible assumption | omega)) (cqI ?_)))
  rintro v13 M5 ⟨hP6, hQ7, h14, h15, h9, h10, h11, xh12⟩
  have hF8 : Fr fm_n8118_739 M0 M5 := hF3.tr hQ7 rfl
  obtain ⟨v16, e17⟩ : ∃ v, M5 739 0 = v := ⟨_, rfl⟩
  have h18 := (bf_739_0 hP6).1; rw [e17] at h18
  have h19 := (bf_739_0 hP6).2; rw [e17] at h19
  have e20 := ((hQ7.at g_739_1 rfl).trans (mUp_no e4 ex739_1 (Or.inr (by decide))))
  have h21 := xh12.1 (by have := (mUp_at e4); omega)
  have h22 := e17
  refine wk_ifeq r118_10 ⟨by omega, by omega⟩ ?_ ?_
  · intro h23
    clear h10 h11
    refine wk_c1 r118_21 ?_
    subst hQ; exact wk_iret r118_22 (⟨rfl, _, rfl, hP6, hF8, by omega, by omega, by rw [e17, ((hQ7.at g_739_21 rfl).trans (mUp_no e4 ex739_21 (Or.inr (by decide))))]; unfold QNR; omega, ⟨fun _ => ⟨fun k => by rw [hQ7.at (ga_753 _) rfl, e4, mUp_ne (Or.inl (by decide))], fun k => by rw [hQ7.at (ga_754 _) rfl, e4, mUp_ne (Or.inl (by decide))]⟩, fun q1 q2 => by have := e17; omega⟩, (WS_sm (Sm.fr hQ7 rfl) (WS_sm (Sm.up e4 g_739_0 rfl) pp_WS)), (QW_sm (Sm.fr hQ7 rfl) (QW_sm (Sm.up e4 g_739_0 rfl) pp_QW))⟩)
  · intro h24
    replace h10 := h10 (z1_of h14 h15 h24)
    replace h11 := h11 (z1_of h14 h15 h24)
    refine wk_al0 r118_13 (wk_il2 r118_14 (wk_cv2 r118_15 kc_739_87 rfl (n8087_739 _ M5 p2 v16 x739_13 hP6 (by first | with_reducible assumption | omega) (by first | with_reducible assumption | omega) e17 (by first | with_reducible assumption | omega) (by first | with_reducible assumption | omega) ((hQ7.at g_739_13 rfl).trans (mUp_no e4 ex739_13 (Or.inr (by decide)))) (by first | with_reducible assumption | omega) (by first | with_reducible assumption | omega)) (cqI ?_)))
    rintro v33 M25 ⟨hP26, hQ27, h34, h35, h29, h30, h31, xh32⟩
    have hF28 : Fr fm_n8118_739 M0 M25 := hF8.tr hQ27 rfl
    obtain ⟨v36, e37⟩ : ∃ v, M25 739 0 = v := ⟨_, rfl⟩
    have h38 := (bf_739_0 hP26).1; rw [e37] at h38
    have h39 := (bf_739_0 hP26).2; rw [e37] at h39
    have e40 := ((hQ27.at g_739_13 rfl).trans ((hQ7.at g_739_13 rfl).trans (mUp_no e4 ex739_13 (Or.inr (by decide)))))
    have h41 := xh32.1 (by have := e17; omega)
    have h42 := e37
    refine wk_ifne r118_18 ⟨by omega, by omega⟩ ?_ ?_
    · intro h43
      replace h30 := h30 (z1_of h34 h35 h43)
      replace h31 := h31 (z1_of h34 h35 h43)
      refine wk_al0 r118_23 (wk_getfi r118_24 fd_739_21 ((hQ27.at g_739_21 rfl).trans ((hQ7.at g_739_21 rfl).trans (mUp_no e4 ex739_21 (Or.inr (by decide))))) (wk_c2 r118_27 ?_))
      refine wk_icne r118_29 ⟨by omega, by omega⟩ (by decide) ?_ ?_
      · intro h44
        refine wk_al0 r118_34 (wk_getfr r118_35 fd_739_22 (br_739_22 hP26) (wk_al0 r118_38 (wk_getfi r118_39 fd_739_21 ((hQ27.at g_739_21 rfl).trans ((hQ7.at g_739_21 rfl).trans (mUp_no e4 ex739_21 (Or.inr (by decide))))) (wk_il1 r118_42 (wk_iast r118_43 ar_753 ⟨by omega, by omega⟩ (wk_nw (ga_753 _) rfl hP26 hF28 (ua_753 ⟨by omega, by omega⟩) ?_))))))
        intro M45 hP46 hF47 e48
        have hQa : QW M45 := (QW_sm (Sm.up e48 (ga_753 _) rfl) (QW_sm (Sm.fr hQ27 rfl) (QW_sm (Sm.fr hQ7 rfl) (QW_sm (Sm.up e4 g_739_0 rfl) pp_QW))))
        have hqa : M45 739 21 = x739_21 := (mUp_no e48 ((hQ27.at g_739_21 rfl).trans ((hQ7.at g_739_21 rfl).trans (mUp_no e4 ex739_21 (Or.inr (by decide))))) (Or.inl (by decide)))
        have hsa : M45 739 13 = x739_13 := (mUp_no e48 ((hQ27.at g_739_13 rfl).trans ((hQ7.at g_739_13 rfl).trans (mUp_no e4 ex739_13 (Or.inr (by decide))))) (Or.inl (by decide)))
        refine wk_al0 r118_44 (wk_getfr r118_45 fd_739_23 (br_739_23 hP46) (wk_al0 r118_48 (wk_getfi r118_49 fd_739_21 (mUp_no e48 ((hQ27.at g_739_21 rfl).trans ((hQ7.at g_739_21 rfl).trans (mUp_no e4 ex739_21 (Or.inr (by decide))))) (Or.inl (by decide))) (wk_il2 r118_52 (wk_iast r118_53 ar_754 ⟨by omega, by omega⟩ (wk_nw (ga_754 _) rfl hP46 hF47 (ua_754 ⟨by omega, by omega⟩) ?_))))))
        intro M49 hP50 hF51 e52
        refine wk_al0 r118_54 (wk_dupr r118_55 (wk_getfi r118_56 fd_739_21 (mUp_no e52 (mUp_no e48 ((hQ27.at g_739_21 rfl).trans ((hQ7.at g_739_21 rfl).trans (mUp_no e4 ex739_21 (Or.inr (by decide))))) (Or.inl (by decide))) (Or.inl (by decide))) (wk_c1 r118_59 (wk_iadd r118_60 (wk_putfi81 r118_61 fd_739_21 (wk_nw g_739_21 rfl hP50 hF51 (uf_739_21 ⟨by omega, by omega⟩) ?_))))))
        intro M53 hP54 hF55 e56
        have pr57 : QW M53 := QW_add hQa hqa hsa e52 e56 (by omega)
        refine wk_al0 r118_64 (wk_getfi r118_65 fd_739_21 (mUp_at e56) (wk_c1 r118_68 (wk_isub r118_69 ?_)))
        subst hQ; exact wk_iret r118_70 (⟨rfl, _, rfl, hP54, hF55, by omega, by omega, by rw [(mUp_no e56 (mUp_no e52 (mUp_no e48 e37 (Or.inl (by decide))) (Or.inl (by decide))) (Or.inr (by decide))), (mUp_at e56)]; unfold QNR; omega, ⟨fun q => by have := (mUp_no e56 (mUp_no e52 (mUp_no e48 e37 (Or.inl (by decide))) (Or.inl (by decide))) (Or.inr (by decide))); omega, fun _ _ => ⟨fun k => by rw [e56, mUp_ne (Or.inl (by decide)), e52, mUp_ne (Or.inl (by decide)), e48]; by_cases q : k = x739_21; (rw [if_pos q, q, show x739_21 = x739_21 by omega, mUp_eq]); (rw [if_neg q, mUp_ne (Or.inr (by omega)), hQ27.at (ga_753 _) rfl, hQ7.at (ga_753 _) rfl, e4, mUp_ne (Or.inl (by decide))]), fun k => by rw [e56, mUp_ne (Or.inl (by decide)), e52]; by_cases q : k = x739_21; (rw [if_pos q, q, show x739_21 = x739_21 by omega, mUp_eq]); (rw [if_neg q, mUp_ne (Or.inr (by omega)), e48, mUp_ne (Or.inl (by decide)), hQ27.at (ga_754 _) rfl, hQ7.at (ga_754 _) rfl, e4, mUp_ne (Or.inl (by decide))])⟩⟩, (WS_sm (Sm.up e56 g_739_21 rfl) (WS_sm (Sm.up e52 (ga_754 _) rfl) (WS_sm (Sm.up e48 (ga_753 _) rfl) (WS_sm (Sm.fr hQ27 rfl) (WS_sm (Sm.fr hQ7 rfl) (WS_sm (Sm.up e4 g_739_0 rfl) pp_WS)))))), pr57⟩)
      · intro h58
        refine wk_c1 r118_32 ?_
        subst hQ; exact wk_iret r118_33 (⟨rfl, _, rfl, hP26, hF28, by omega, by omega, by rw [e37, ((hQ27.at g_739_21 rfl).trans ((hQ7.at g_739_21 rfl).trans (mUp_no e4 ex739_21 (Or.inr (by decide)))))]; unfold QNR; omega, ⟨fun _ => ⟨fun k => by rw [hQ27.at (ga_753 _) rfl, hQ7.at (ga_753 _) rfl, e4, mUp_ne (Or.inl (by decide))], fun k => by rw [hQ27.at (ga_754 _) rfl, hQ7.at (ga_754 _) rfl, e4, mUp_ne (Or.inl (by decide))]⟩, fun q1 q2 => by have := e37; omega⟩, (WS_sm (Sm.fr hQ27 rfl) (WS_sm (Sm.fr hQ7 rfl) (WS_sm (Sm.up e4 g_739_0 rfl) pp_WS))), (QW_sm (Sm.fr hQ27 rfl) (QW_sm (Sm.fr hQ7 rfl) (QW_sm (Sm.up e4 g_739_0 rfl) pp_QW)))⟩)
    · intro h59
      clear h30 h31
      refine wk_c1 r118_21 ?_
      subst hQ; exact wk_iret r118_22 (⟨rfl, _, rfl, hP26, hF28, by omega, by omega, by rw [e37, ((hQ27.at g_739_21 rfl).trans ((hQ7.at g_739_21 rfl).trans (mUp_no e4 ex739_21 (Or.inr (by decide)))))]; unfold QNR; omega, ⟨fun _ => ⟨fun k => by rw [hQ27.at (ga_753 _) rfl, hQ7.at (ga_753 _) rfl, e4, mUp_ne (Or.inl (by decide))], fun k => by rw [hQ27.at (ga_754 _) rfl, hQ7.at (ga_754 _) rfl, e4, mUp_ne (Or.inl (by decide))]⟩, fun q1 q2 => by have := e37; omega⟩, (WS_sm (Sm.fr hQ27 rfl) (WS_sm (Sm.fr hQ7 rfl) (WS_sm (Sm.up e4 g_739_0 rfl) pp_WS))), (QW_sm (Sm.fr hQ27 rfl) (QW_sm (Sm.fr hQ7 rfl) (QW_sm (Sm.up e4 g_739_0 rfl) pp_QW)))⟩)
