/-! ===== written by program (wip/layer4) ===== -/
def fm_m8090_739 : Nat := 11692013098647223345629478661730264157247460343808
/-- IslandHallModel.isWho -/
theorem m8090_739 {B : eB} (d : Nat) (M0 : Mm) (p1 : Int) (x739_0 : Int) (x739_1 : Int) (hP0 : Pw M0) (l1 : (-2147483648) ≤ p1) (u1 : p1 ≤ 2147483647) (ex739_0 : M0 739 0 = x739_0) (lx739_0 : 0 ≤ x739_0) (ux739_0 : x739_0 ≤ 1) (ex739_1 : M0 739 1 = x739_1) (lx739_1 : 0 ≤ x739_1) (ux739_1 : x739_1 ≤ 7) : Ct B (d + 2) 90 [R 739, I p1] M0 (qI fun z M => Pw M ∧ Fr fm_m8090_739 M0 M ∧ 0 ≤ z ∧ z ≤ 1 ∧ 0 ≤ M 739 0 ∧ (z = 1 → 0 ≤ p1) ∧ (z = 1 → 0 ≤ M 739 1 + (-1) * p1 + (-1)) ∧ (M0 739 0 = 0 → (z = 1 ∧ 0 ≤ p1 ∧ p1 < x739_1 ∧ M 739 0 = 0) ∨ (z = 0 ∧ (p1 < 0 ∨ x739_1 ≤ p1) ∧ M 739 0 = 1))) := by
  refine ct_of (d := d + 1) (k := 0) (L := [some (R 739), some (I p1)]) rfl rfl rfl ?_
  have hF0 := Fr.rf fm_m8090_739 M0
  generalize hQ : (qI fun z M => Pw M ∧ Fr fm_m8090_739 M0 M ∧ 0 ≤ z ∧ z ≤ 1 ∧ 0 ≤ M 739 0 ∧ (z = 1 → 0 ≤ p1) ∧ (z = 1 → 0 ≤ M 739 1 + (-1) * p1 + (-1)) ∧ (M0 739 0 = 0 → (z = 1 ∧ 0 ≤ p1 ∧ p1 < x739_1 ∧ M 739 0 = 0) ∨ (z = 0 ∧ (p1 < 0 ∨ x739_1 ≤ p1) ∧ M 739 0 = 1))) = Q
  refine wk_al0 r90_0 (wk_il1 r90_1 ?_)
  refine wk_iflt r90_2 ⟨by omega, by omega⟩ ?_ ?_
  · intro h1
    refine wk_c1 r90_17 (wk_c1 r90_18 (wk_cv3 r90_19 kc_739_123 rfl (m8123_739 _ M0 0 1 x739_0 hP0 (by decide) (by decide) (by decide) (by decide) ex739_0 (by first | with_reducible assumption | omega) (by first | with_reducible assumption | omega)) (cqI ?_)))
    rintro v10 M2 ⟨hP3, hQ4, h11, h12, h6, h7, xh8, xh9⟩
    have hF5 : Fr fm_m8090_739 M0 M2 := hF0.tr hQ4 rfl
    obtain ⟨v13, e14⟩ : ∃ v, M2 739 0 = v := ⟨_, rfl⟩
    have h15 := (bf_739_0 hP3).1; rw [e14] at h15
    have h16 := (bf_739_0 hP3).2; rw [e14] at h16
    have h17 := xh9
    have h18 := xh8
    have h19 := ex739_0
    subst hQ; exact wk_zret r90_22 ⟨by omega, by omega⟩ (⟨rfl, _, rfl, hP3, hF5, by omega, by omega, by have := e14; omega, by omega, by omega, by intro q9; have := e14; omega⟩)
  · intro h20
    refine wk_il1 r90_5 (wk_al0 r90_6 (wk_getfi r90_7 fd_739_1 ex739_1 ?_))
    refine wk_icge r90_10 ⟨by omega, by omega⟩ ⟨by omega, by omega⟩ ?_ ?_
    · intro h21
      refine wk_c1 r90_17 (wk_c1 r90_18 (wk_cv3 r90_19 kc_739_123 rfl (m8123_739 _ M0 0 1 x739_0 hP0 (by decide) (by decide) (by decide) (by decide) ex739_0 (by first | with_reducible assumption | omega) (by first | with_reducible assumption | omega)) (cqI ?_)))
      rintro v30 M22 ⟨hP23, hQ24, h31, h32, h26, h27, xh28, xh29⟩
      have hF25 : Fr fm_m8090_739 M0 M22 := hF0.tr hQ24 rfl
      obtain ⟨v33, e34⟩ : ∃ v, M22 739 0 = v := ⟨_, rfl⟩
      have h35 := (bf_739_0 hP23).1; rw [e34] at h35
      have h36 := (bf_739_0 hP23).2; rw [e34] at h36
      have h37 := xh29
      have h38 := xh28
      have h39 := ex739_0
      subst hQ; exact wk_zret r90_22 ⟨by omega, by omega⟩ (⟨rfl, _, rfl, hP23, hF25, by omega, by omega, by have := e34; omega, by omega, by omega, by intro q9; have := e34; omega⟩)
    · intro h40
      refine wk_c1 r90_13 (wk_goto r90_14 (wk_c1 r90_18 (wk_cv3 r90_19 kc_739_123 rfl (m8123_739v1 _ M0 1 1 x739_0 hP0 (by decide) (by decide) (by decide) (by decide) ex739_0 (by first | with_reducible assumption | omega) (by first | with_reducible assumption | omega)) (cqI ?_))))
      rintro v49 M41 ⟨hP42, hQ43, h50, h51, h45, h46, xh47, xh48⟩
      obtain rfl := Fr.same hQ43
      have e52 := ex739_0
      have h53 := xh48
      have h54 := xh47
      have h55 := ex739_0
      subst hQ; exact wk_zret r90_22 ⟨by omega, by omega⟩ (⟨rfl, _, rfl, hP0, hF0, by omega, by omega, by have := ex739_0; omega, by omega, by have := ex739_1; omega, by intro q9; have := ex739_0; omega⟩)
def fm_m8087_739 : Nat := 11692013098647223345629478661730264157247460343808
/-- IslandHallModel.isSentence -/
theorem m8087_739 {B : eB} (d : Nat) (M0 : Mm) (p1 : Int) (x739_0 : Int) (x739_13 : Int) (hP0 : Pw M0) (l1 : (-2147483648) ≤ p1) (u1 : p1 ≤ 2147483647) (ex739_0 : M0 739 0 = x739_0) (lx739_0 : 0 ≤ x739_0) (ux739_0 : x739_0 ≤ 1) (ex739_13 : M0 739 13 = x739_13) (lx739_13 : 0 ≤ x739_13) (ux739_13 : x739_13 ≤ 30) : Ct B (d + 2) 87 [R 739, I p1] M0 (qI fun z M => Pw M ∧ Fr fm_m8087_739 M0 M ∧ 0 ≤ z ∧ z ≤ 1 ∧ 0 ≤ M 739 0 ∧ (z = 1 → 0 ≤ p1) ∧ (z = 1 → 0 ≤ M 739 13 + (-1) * p1 + (-1)) ∧ (M0 739 0 = 0 → (z = 1 ∧ 0 ≤ p1 ∧ p1 < x739_13 ∧ M 739 0 = 0) ∨ (z = 0 ∧ (p1 < 0 ∨ x739_13 ≤ p1) ∧ M 739 0 = 1))) := by
  refine ct_of (d := d + 1) (k := 0) (L := [some (R 739), some (I p1)]) rfl rfl rfl ?_
  have hF0 := Fr.rf fm_m8087_739 M0
  generalize hQ : (qI fun z M => Pw M ∧ Fr fm_m8087_739 M0 M ∧ 0 ≤ z ∧ z ≤ 1 ∧ 0 ≤ M 739 0 ∧ (z = 1 → 0 ≤ p1) ∧ (z = 1 → 0 ≤ M 739 13 + (-1) * p1 + (-1)) ∧ (M0 739 0 = 0 → (z = 1 ∧ 0 ≤ p1 ∧ p1 < x739_13 ∧ M 739 0 = 0) ∨ (z = 0 ∧ (p1 < 0 ∨ x739_13 ≤ p1) ∧ M 739 0 = 1))) = Q
  refine wk_al0 r87_0 (wk_il1 r87_1 ?_)
  refine wk_iflt r87_2 ⟨by omega, by omega⟩ ?_ ?_
  · intro h1
    refine wk_c1 r87_17 (wk_c1 r87_18 (wk_cv3 r87_19 kc_739_123 rfl (m8123_739 _ M0 0 1 x739_0 hP0 (by decide) (by decide) (by decide) (by decide) ex739_0 (by first | with_reducible assumption | omega) (by first | with_reducible assumption | omega)) (cqI ?_)))
    rintro v10 M2 ⟨hP3, hQ4, h11, h12, h6, h7, xh8, xh9⟩
    have hF5 : Fr fm_m8087_739 M0 M2 := hF0.tr hQ4 rfl
    obtain ⟨v13, e14⟩ : ∃ v, M2 739 0 = v := ⟨_, rfl⟩
    have h15 := (bf_739_0 hP3).1; rw [e14] at h15
    have h16 := (bf_739_0 hP3).2; rw [e14] at h16
    have h17 := xh9
    have h18 := xh8
    have h19 := ex739_0
    subst hQ; exact wk_zret r87_22 ⟨by omega, by omega⟩ (⟨rfl, _, rfl, hP3, hF5, by omega, by omega, by have := e14; omega, by omega, by omega, by intro q9; have := e14; omega⟩)
  · intro h20
    refine wk_il1 r87_5 (wk_al0 r87_6 (wk_getfi r87_7 fd_739_13 ex739_13 ?_))
    refine wk_icge r87_10 ⟨by omega, by omega⟩ ⟨by omega, by omega⟩ ?_ ?_
    · intro h21
      refine wk_c1 r87_17 (wk_c1 r87_18 (wk_cv3 r87_19 kc_739_123 rfl (m8123_739 _ M0 0 1 x739_0 hP0 (by decide) (by decide) (by decide) (by decide) ex739_0 (by first | with_reducible assumption | omega) (by first | with_reducible assumption | omega)) (cqI ?_)))
      rintro v30 M22 ⟨hP23, hQ24, h31, h32, h26, h27, xh28, xh29⟩
      have hF25 : Fr fm_m8087_739 M0 M22 := hF0.tr hQ24 rfl
      obtain ⟨v33, e34⟩ : ∃ v, M22 739 0 = v := ⟨_, rfl⟩
      have h35 := (bf_739_0 hP23).1; rw [e34] at h35
      have h36 := (bf_739_0 hP23).2; rw [e34] at h36
      have h37 := xh29
      have h38 := xh28
      have h39 := ex739_0
      subst hQ; exact wk_zret r87_22 ⟨by omega, by omega⟩ (⟨rfl, _, rfl, hP23, hF25, by omega, by omega, by have := e34; omega, by omega, by omega, by intro q9; have := e34; omega⟩)
    · intro h40
      refine wk_c1 r87_13 (wk_goto r87_14 (wk_c1 r87_18 (wk_cv3 r87_19 kc_739_123 rfl (m8123_739v1 _ M0 1 1 x739_0 hP0 (by decide) (by decide) (by decide) (by decide) ex739_0 (by first | with_reducible assumption | omega) (by first | with_reducible assumption | omega)) (cqI ?_))))
      rintro v49 M41 ⟨hP42, hQ43, h50, h51, h45, h46, xh47, xh48⟩
      obtain rfl := Fr.same hQ43
      have e52 := ex739_0
      have h53 := xh48
      have h54 := xh47
      have h55 := ex739_0
      subst hQ; exact wk_zret r87_22 ⟨by omega, by omega⟩ (⟨rfl, _, rfl, hP0, hF0, by omega, by omega, by have := ex739_0; omega, by omega, by have := ex739_13; omega, by intro q9; have := ex739_0; omega⟩)
def fm_m8118_739 : Nat := 84808659109362447844518220381527409140676125113913318658001080864443727872
/-- IslandHallModel.question -/
theorem m8118_739 {B : eB} (d : Nat) (M0 : Mm) (p1 : Int) (p2 : Int) (x739_13 : Int) (x739_21 : Int) (x739_1 : Int) (hP0 : Pw M0) (l1 : (-2147483648) ≤ p1) (u1 : p1 ≤ 2147483647) (l2 : (-2147483648) ≤ p2) (u2 : p2 ≤ 2147483647) (ex739_13 : M0 739 13 = x739_13) (lx739_13 : 0 ≤ x739_13) (ux739_13 : x739_13 ≤ 30) (ex739_21 : M0 739 21 = x739_21) (lx739_21 : 0 ≤ x739_21) (ux739_21 : x739_21 ≤ 10) (ex739_1 : M0 739 1 = x739_1) (lx739_1 : 0 ≤ x739_1) (ux739_1 : x739_1 ≤ 7) (pp_WS : WS M0) (pp_QW : QW M0) : Ct B (d + 3) 118 [R 739, I p1, I p2] M0 (qI fun z M => Pw M ∧ Fr fm_m8118_739 M0 M ∧ (-1) ≤ z ∧ z ≤ 9 ∧ (QNR p1 p2 x739_1 x739_13 x739_21 (M 739 0) z (M 739 21)) ∧ (WS M) ∧ (QW M)) := by
  refine ct_of (d := d + 2) (k := 0) (L := [some (R 739), some (I p1), some (I p2)]) rfl rfl rfl ?_
  have hF0 := Fr.rf fm_m8118_739 M0
  generalize hQ : (qI fun z M => Pw M ∧ Fr fm_m8118_739 M0 M ∧ (-1) ≤ z ∧ z ≤ 9 ∧ (QNR p1 p2 x739_1 x739_13 x739_21 (M 739 0) z (M 739 21)) ∧ (WS M) ∧ (QW M)) = Q
  refine wk_al0 r118_0 (wk_c1 r118_1 (wk_putfi81 r118_2 fd_739_0 (wk_nw g_739_0 rfl hP0 hF0 (uf_739_0 (by decide)) ?_)))
  intro M1 hP2 hF3 e4
  refine wk_al0 r118_5 (wk_il1 r118_6 (wk_cv2 r118_7 kc_739_90 rfl (m8090_739 _ M1 p1 0 x739_1 hP2 (by first | with_reducible assumption | omega) (by first | with_reducible assumption | omega) (mUp_at e4) (by first | with_reducible assumption | omega) (by first | with_reducible assumption | omega) (mUp_no e4 ex739_1 (Or.inr (by decide))) (by first | with_reducible assumption | omega) (by first | with_reducible assumption | omega)) (cqI ?_)))
  rintro v13 M5 ⟨hP6, hQ7, h14, h15, h9, h10, h11, xh12⟩
  have hF8 : Fr fm_m8118_739 M0 M5 := hF3.tr hQ7 rfl
  obtain ⟨v16, e17⟩ : ∃ v, M5 739 0 = v := ⟨_, rfl⟩
  have h18 := (bf_739_0 hP6).1; rw [e17] at h18
  have h19 := (bf_739_0 hP6).2; rw [e17] at h19
  have e20 := ((hQ7.at g_739_1 rfl).trans (mUp_no e4 ex739_1 (Or.inr (by decide))))
  have h21 := xh12 (by have := (mUp_at e4); omega)
  have h22 := e17
  refine wk_ifeq r118_10 ⟨by omega, by omega⟩ ?_ ?_
  · intro h23
    clear h10 h11
    refine wk_c1 r118_21 ?_
    subst hQ; exact wk_iret r118_22 (⟨rfl, _, rfl, hP6, hF8, by omega, by omega, by rw [e17, ((hQ7.at g_739_21 rfl).trans (mUp_no e4 ex739_21 (Or.inr (by decide))))]; unfold QNR; omega, (WS_sm (Sm.fr hQ7 rfl) (WS_sm (Sm.up e4 g_739_0 rfl) pp_WS)), (QW_sm (Sm.fr hQ7 rfl) (QW_sm (Sm.up e4 g_739_0 rfl) pp_QW))⟩)
  · intro h24
    replace h10 := h10 (z1_of h14 h15 h24)
    replace h11 := h11 (z1_of h14 h15 h24)
    refine wk_al0 r118_13 (wk_il2 r118_14 (wk_cv2 r118_15 kc_739_87 rfl (m8087_739 _ M5 p2 v16 x739_13 hP6 (by first | with_reducible assumption | omega) (by first | with_reducible assumption | omega) e17 (by first | with_reducible assumption | omega) (by first | with_reducible assumption | omega) ((hQ7.at g_739_13 rfl).trans (mUp_no e4 ex739_13 (Or.inr (by decide)))) (by first | with_reducible assumption | omega) (by first | with_reducible assumption | omega)) (cqI ?_)))
    rintro v33 M25 ⟨hP26, hQ27, h34, h35, h29, h30, h31, xh32⟩
    have hF28 : Fr fm_m8118_739 M0 M25 := hF8.tr hQ27 rfl
    obtain ⟨v36, e37⟩ : ∃ v, M25 739 0 = v := ⟨_, rfl⟩
    have h38 := (bf_739_0 hP26).1; rw [e37] at h38
    have h39 := (bf_739_0 hP26).2; rw [e37] at h39
    have e40 := ((hQ27.at g_739_13 rfl).trans ((hQ7.at g_739_13 rfl).trans (mUp_no e4 ex739_13 (Or.inr (by decide)))))
    have h41 := xh32 (by have := e17; omega)
    have h42 := e37
    refine wk_ifne r118_18 ⟨by omega, by omega⟩ ?_ ?_
    · intro h43
      replace h30 := h30 (z1_of h34 h35 h43)
      replace h31 := h31 (z1_of h34 h35 h43)
      refine wk_al0 r118_23 (wk_getfi r118_24 fd_739_21 ((hQ27.at g_739_21 rfl).trans ((hQ7.at g_739_21 rfl).trans (mUp_no e4 ex739_21 (Or.inr (by decide))))) (wk_c2 r118_27 ?_))
      refine wk_icne r118_29 ⟨by omega, by omega⟩ (by decide) ?_ ?_
      · intro h44
        refine wk_al0 r118_34 (wk_getfr r118_35 fd_739_22 (br_739_22 hP26) (wk_al0 r118_38 (wk_getfi r118_39 fd_739_21 ((hQ27.at g_739_21 rfl).trans ((hQ7.at g_739_21 rfl).trans (mUp_no e4 ex739_21 (Or.inr (by decide))))) (wk_il1 r118_42 (wk_iast r118_43 ar_753 ⟨by omega, by omega⟩ (wk_nw (ga_753 _) rfl hP26 hF28 (ua_753 ⟨by omega, by omega⟩) ?_))))))
        intro M45 hP46 hF47 e48
        have hQa : QW M45 := (QW_sm (Sm.up e48 (ga_753 _) rfl) (QW_sm (Sm.fr hQ27 rfl) (QW_sm (Sm.fr hQ7 rfl) (QW_sm (Sm.up e4 g_739_0 rfl) pp_QW))))
        have hqa : M45 739 21 = x739_21 := (mUp_no e48 ((hQ27.at g_739_21 rfl).trans ((hQ7.at g_739_21 rfl).trans (mUp_no e4 ex739_21 (Or.inr (by decide))))) (Or.inl (by decide)))
        have hsa : M45 739 13 = x739_13 := (mUp_no e48 ((hQ27.at g_739_13 rfl).trans ((hQ7.at g_739_13 rfl).trans (mUp_no e4 ex739_13 (Or.inr (by decide))))) (Or.inl (by decide)))
        refine wk_al0 r118_44 (wk_getfr r118_45 fd_739_23 (br_739_23 hP46) (wk_al0 r118_48 (wk_getfi r118_49 fd_739_21 (mUp_no e48 ((hQ27.at g_739_21 rfl).trans ((hQ7.at g_739_21 rfl).trans (mUp_no e4 ex739_21 (Or.inr (by decide))))) (Or.inl (by decide))) (wk_il2 r118_52 (wk_iast r118_53 ar_754 ⟨by omega, by omega⟩ (wk_nw (ga_754 _) rfl hP46 hF47 (ua_754 ⟨by omega, by omega⟩) ?_))))))
        intro M49 hP50 hF51 e52
        refine wk_al0 r118_54 (wk_dupr r118_55 (wk_getfi r118_56 fd_739_21 (mUp_no e52 (mUp_no e48 ((hQ27.at g_739_21 rfl).trans ((hQ7.at g_739_21 rfl).trans (mUp_no e4 ex739_21 (Or.inr (by decide))))) (Or.inl (by decide))) (Or.inl (by decide))) (wk_c1 r118_59 (wk_iadd r118_60 (wk_putfi81 r118_61 fd_739_21 (wk_nw g_739_21 rfl hP50 hF51 (uf_739_21 ⟨by omega, by omega⟩) ?_))))))
        intro M53 hP54 hF55 e56
        have pr57 : QW M53 := QW_add hQa hqa hsa e52 e56 (by omega)
        refine wk_al0 r118_64 (wk_getfi r118_65 fd_739_21 (mUp_at e56) (wk_c1 r118_68 (wk_isub r118_69 ?_)))
        subst hQ; exact wk_iret r118_70 (⟨rfl, _, rfl, hP54, hF55, by omega, by omega, by rw [(mUp_no e56 (mUp_no e52 (mUp_no e48 e37 (Or.inl (by decide))) (Or.inl (by decide))) (Or.inr (by decide))), (mUp_at e56)]; unfold QNR; omega, (WS_sm (Sm.up e56 g_739_21 rfl) (WS_sm (Sm.up e52 (ga_754 _) rfl) (WS_sm (Sm.up e48 (ga_753 _) rfl) (WS_sm (Sm.fr hQ27 rfl) (WS_sm (Sm.fr hQ7 rfl) (WS_sm (Sm.up e4 g_739_0 rfl) pp_WS)))))), pr57⟩)
      · intro h58
        refine wk_c1 r118_32 ?_
        subst hQ; exact wk_iret r118_33 (⟨rfl, _, rfl, hP26, hF28, by omega, by omega, by rw [e37, ((hQ27.at g_739_21 rfl).trans ((hQ7.at g_739_21 rfl).trans (mUp_no e4 ex739_21 (Or.inr (by decide)))))]; unfold QNR; omega, (WS_sm (Sm.fr hQ27 rfl) (WS_sm (Sm.fr hQ7 rfl) (WS_sm (Sm.up e4 g_739_0 rfl) pp_WS))), (QW_sm (Sm.fr hQ27 rfl) (QW_sm (Sm.fr hQ7 rfl) (QW_sm (Sm.up e4 g_739_0 rfl) pp_QW)))⟩)
    · intro h59
      clear h30 h31
      refine wk_c1 r118_21 ?_
      subst hQ; exact wk_iret r118_22 (⟨rfl, _, rfl, hP26, hF28, by omega, by omega, by rw [e37, ((hQ27.at g_739_21 rfl).trans ((hQ7.at g_739_21 rfl).trans (mUp_no e4 ex739_21 (Or.inr (by decide)))))]; unfold QNR; omega, (WS_sm (Sm.fr hQ27 rfl) (WS_sm (Sm.fr hQ7 rfl) (WS_sm (Sm.up e4 g_739_0 rfl) pp_WS))), (QW_sm (Sm.fr hQ27 rfl) (QW_sm (Sm.fr hQ7 rfl) (QW_sm (Sm.up e4 g_739_0 rfl) pp_QW)))⟩)
def fm_m8069_739 : Nat := 11692013098647223345629478661730264157247460343808
/-- IslandHallModel.fault -/
theorem m8069_739 {B : eB} (d : Nat) (M0 : Mm) (x739_29 : Int) (hP0 : Pw M0) (ex739_29 : M0 739 29 = x739_29) (lx739_29 : (-1) ≤ x739_29) (ux739_29 : x739_29 ≤ 501) : Ct B (d + 1) 69 [R 739] M0 (qI fun z M => Pw M ∧ Fr fm_m8069_739 M0 M ∧ (-1) ≤ z ∧ z ≤ 501 ∧ (z = x739_29)) := by
  refine ct_of (d := d + 0) (k := 0) (L := [some (R 739)]) rfl rfl rfl ?_
  have hF0 := Fr.rf fm_m8069_739 M0
  generalize hQ : (qI fun z M => Pw M ∧ Fr fm_m8069_739 M0 M ∧ (-1) ≤ z ∧ z ≤ 501 ∧ (z = x739_29)) = Q
  refine wk_al0 r69_0 (wk_c1 r69_1 (wk_putfi81 r69_2 fd_739_0 (wk_nw g_739_0 rfl hP0 hF0 (uf_739_0 (by decide)) ?_)))
  intro M1 hP2 hF3 e4
  refine wk_al0 r69_5 (wk_getfi r69_6 fd_739_29 (mUp_no e4 ex739_29 (Or.inr (by decide))) ?_)
  subst hQ; exact wk_iret r69_9 (⟨rfl, _, rfl, hP2, hF3, by omega, by omega, by omega⟩)
def fm_m8270_739 : Nat := 0
/-- IslandHallModel.thrown -/
theorem m8270_739 {B : eB} (d : Nat) (M0 : Mm) (x739_0 : Int) (hP0 : Pw M0) (ex739_0 : M0 739 0 = x739_0) (lx739_0 : 0 ≤ x739_0) (ux739_0 : x739_0 ≤ 1) : Ct B (d + 1) 270 [R 739] M0 (qI fun z M => Pw M ∧ Fr fm_m8270_739 M0 M ∧ 0 ≤ z ∧ z ≤ 1 ∧ (z = x739_0) ∧ (M = M0)) := by
  refine ct_of (d := d + 0) (k := 0) (L := [some (R 739)]) rfl rfl rfl ?_
  have hF0 := Fr.rf fm_m8270_739 M0
  generalize hQ : (qI fun z M => Pw M ∧ Fr fm_m8270_739 M0 M ∧ 0 ≤ z ∧ z ≤ 1 ∧ (z = x739_0) ∧ (M = M0)) = Q
  refine wk_al0 r270_0 (wk_getfi r270_1 fd_739_0 ex739_0 ?_)
  subst hQ; exact wk_iret r270_4 (⟨rfl, _, rfl, hP0, hF0, by omega, by omega, by omega, rfl⟩)
