set_option maxHeartbeats 20000000 in
/-- IslandHallModel.name -/
theorem n8111_739 {B : eB} (d : Nat) (M0 : Mm) (x739_30 : Int) (x739_31 : Int) (x739_33 : Int) (x739_34 : Int) (x739_32 : Int) (x739_28 : Int) (x739_38 : Int) (x739_36 : Int) (x739_29 : Int) (T : Int → Int) (hP0 : Pw M0) (ex739_30 : M0 739 30 = x739_30) (lx739_30 : 0 ≤ x739_30) (ux739_30 : x739_30 ≤ 500) (ex739_31 : M0 739 31 = x739_31) (lx739_31 : 0 ≤ x739_31) (ux739_31 : x739_31 ≤ 500) (ex739_33 : M0 739 33 = x739_33) (lx739_33 : 0 ≤ x739_33) (ux739_33 : x739_33 ≤ 500) (ex739_34 : M0 739 34 = x739_34) (lx739_34 : 0 ≤ x739_34) (ux739_34 : x739_34 ≤ 500) (ex739_32 : M0 739 32 = x739_32) (lx739_32 : 0 ≤ x739_32) (ux739_32 : x739_32 ≤ 4) (ex739_28 : M0 739 28 = x739_28) (lx739_28 : 0 ≤ x739_28) (ux739_28 : x739_28 ≤ 6) (ex739_38 : M0 739 38 = x739_38) (lx739_38 : 0 ≤ x739_38) (ux739_38 : x739_38 ≤ 999) (ex739_36 : M0 739 36 = x739_36) (lx739_36 : 0 ≤ x739_36) (ux739_36 : x739_36 ≤ 255) (ex739_29 : M0 739 29 = x739_29) (lx739_29 : (-1) ≤ x739_29) (ux739_29 : x739_29 ≤ 501) (rp0 : 0 ≤ x739_30 + (-1) * x739_31) (rp1 : 0 ≤ x739_31 + (-1) * x739_33 + (-1) * x739_34) (rp2 : 0 ≤ (-1) * x739_31 + x739_33 + x739_34) (rp3 : 0 ≤ 4 * x739_34 + (-1) * x739_32) (rp4 : 0 ≤ (-1) * x739_38 + 7 + 3000 * x739_28) (pp_TK : TK M0) (pp_TQ : TXQ T M0) (pp_TT : TTP T M0) : Ct B (d + 3) 111 [R 739] M0 (qI fun z M => Pw M ∧ Fr fm_n8111_739 M0 M ∧ (-97) ≤ z ∧ z ≤ 158 ∧ 0 ≤ M 739 30 + (-1) * (M 739 31) ∧ 0 ≤ M 739 31 + (-1) * (M 739 33) + (-1) * (M 739 34) ∧ 0 ≤ (-1) * (M 739 31) + M 739 33 + M 739 34 ∧ 0 ≤ 4 * (M 739 34) + (-1) * (M 739 32) ∧ 0 ≤ M 739 33 + (-1) * x739_33 ∧ 0 ≤ M 739 28 + (-1) * x739_28 ∧ 0 ≤ M 739 33 + (-1) * x739_33 + M 739 28 + (-1) ∧ 0 ≤ 6 + 152 * (M 739 28) + (-1) * z ∧ 0 ≤ z + 97 * (M 739 28) ∧ 0 ≤ M 739 29 + 1 ∧ 0 ≤ M 739 29 + (-1) * x739_29 + 3000 * (M 739 28) ∧ 0 ≤ (-1) * (M 739 29) + x739_29 + 3000 * (M 739 28) ∧ ((x739_28 = 0 ∧ naE T x739_30 x739_38 x739_33 = 0 ∧ M 739 28 = 0 ∧ M 739 29 = x739_29 ∧ M 739 33 = nx T x739_30 x739_33 ∧ x739_33 + 1 ≤ M 739 33 ∧ z = T x739_33 - 97) ∨ (x739_28 = 0 ∧ naE T x739_30 x739_38 x739_33 ≠ 0 ∧ M 739 28 = naE T x739_30 x739_38 x739_33 ∧ M 739 29 = x739_33) ∨ (x739_28 ≠ 0 ∧ M 739 28 = x739_28 ∧ M 739 29 = x739_29)) ∧ (TK M) ∧ (TXQ T M) ∧ (TTP T M)) := by
  refine ct_of (d := d + 2) (k := 1) (L := [some (R 739), none]) rfl rfl rfl ?_
  have hF0 := Fr.rf fm_n8111_739 M0
  generalize hQ : (qI fun z M => Pw M ∧ Fr fm_n8111_739 M0 M ∧ (-97) ≤ z ∧ z ≤ 158 ∧ 0 ≤ M 739 30 + (-1) * (M 739 31) ∧ 0 ≤ M 739 31 + (-1) * (M 739 33) + (-1) * (M 739 34) ∧ 0 ≤ (-1) * (M 739 31) + M 739 33 + M 739 34 ∧ 0 ≤ 4 * (M 739 34) + (-1) * (M 739 32) ∧ 0 ≤ M 739 33 + (-1) * x739_33 ∧ 0 ≤ M 739 28 + (-1) * x739_28 ∧ 0 ≤ M 739 33 + (-1) * x739_33 + M 739 28 + (-1) ∧ 0 ≤ 6 + 152 * (M 739 28) + (-1) * z ∧ 0 ≤ z + 97 * (M 739 28) ∧ 0 ≤ M 739 29 + 1 ∧ 0 ≤ M 739 29 + (-1) * x739_29 + 3000 * (M 739 28) ∧ 0 ≤ (-1) * (M 739 29) + x739_29 + 3000 * (M 739 28) ∧ ((x739_28 = 0 ∧ naE T x739_30 x739_38 x739_33 = 0 ∧ M 739 28 = 0 ∧ M 739 29 = x739_29 ∧ M 739 33 = nx T x739_30 x739_33 ∧ x739_33 + 1 ≤ M 739 33 ∧ z = T x739_33 - 97) ∨ (x739_28 = 0 ∧ naE T x739_30 x739_38 x739_33 ≠ 0 ∧ M 739 28 = naE T x739_30 x739_38 x739_33 ∧ M 739 29 = x739_33) ∨ (x739_28 ≠ 0 ∧ M 739 28 = x739_28 ∧ M 739 29 = x739_29)) ∧ (TK M) ∧ (TXQ T M) ∧ (TTP T M)) = Q
  have hTT := pp_TT
  unfold TTP at hTT
  rw [ex739_30, ex739_33] at hTT
  have hlt := tt_lt T x739_30 x739_33
  refine wk_al0 r111_0 (wk_cv1 r111_1 kc_739_84 rfl (n8084_739 _ M0 x739_28 hP0 ex739_28 (by first | with_reducible assumption | omega) (by first | with_reducible assumption | omega)) (cqI ?_))
  rintro v7 M1 ⟨hP2, hQ3, h8, h9, h5, h6⟩
  obtain rfl := Fr.same hQ3
  have e10 := ex739_28
  refine wk_ifne r111_4 ⟨by omega, by omega⟩ ?_ ?_
  · intro h11
    refine wk_al0 r111_9 (wk_cv1 r111_10 kc_739_86 rfl (n8086_739 _ M0 x739_32 x739_34 x739_30 x739_33 T hP0 ex739_32 (by first | with_reducible assumption | omega) (by first | with_reducible assumption | omega) ex739_34 (by first | with_reducible assumption | omega) (by first | with_reducible assumption | omega) ex739_30 (by first | with_reducible assumption | omega) (by first | with_reducible assumption | omega) ex739_33 (by first | with_reducible assumption | omega) (by first | with_reducible assumption | omega) pp_TT) (cqI ?_))
    rintro v21 M12 ⟨hP13, hQ14, h22, h23, h16, h17, h18, h19, xh20⟩
    obtain rfl := Fr.same hQ14
    have e24 := ex739_34
    have e25 := ex739_32
    refine wk_ifne r111_13 ⟨by omega, by omega⟩ ?_ ?_
    · intro h26
      replace h16 := h16 (z1_of h22 h23 h26)
      replace h17 := h17 (z1_of h22 h23 h26)
      replace h18 := h18 (z1_of h22 h23 h26)
      replace h19 := h19 (z1_of h22 h23 h26)
      have h27 : 97 ≤ x739_36 := by have q := pp_TK; unfold TK at q; omega
      refine wk_al0 r111_24 (wk_getfi r111_25 fd_739_36 ex739_36 (wk_c2 r111_28 (wk_isub r111_30 (wk_al0 r111_31 (wk_getfi r111_32 fd_739_38 ex739_38 ?_)))))
      refine wk_iclt r111_35 ⟨by omega, by omega⟩ ⟨by omega, by omega⟩ ?_ ?_
      · intro h28
        refine wk_al0 r111_43 (wk_getfi r111_44 fd_739_36 ex739_36 (wk_c2 r111_47 (wk_isub r111_49 (wk_is1 r111_50 rfl (wk_al0 r111_51 (wk_cv1 r111_52 kc_739_84 rfl (n8084_739 _ M0 x739_28 hP0 ex739_28 (by first | with_reducible assumption | omega) (by first | with_reducible assumption | omega)) (cqI ?_)))))))
        rintro v35 M29 ⟨hP30, hQ31, h36, h37, h33, h34⟩
        obtain rfl := Fr.same hQ31
        have e38 := ex739_28
        refine wk_ifeq r111_55 ⟨by omega, by omega⟩ ?_ ?_
        · intro h39
          exfalso
          omega
        · intro h40
          refine wk_al0 r111_58 (wk_cv1 r111_59 kc_739_76 rfl (n8076_739 _ M0 x739_30 x739_31 T hP0 ex739_30 (by first | with_reducible assumption | omega) (by first | with_reducible assumption | omega) ex739_31 (by first | with_reducible assumption | omega) (by first | with_reducible assumption | omega) (by omega) pp_TQ) (cqV ?_))
          rintro M41 ⟨hP42, hQ43, h45, h46, h47, h48, h49, xh50, pr51, pr52, pr53⟩
          have hF44 : Fr fm_n8111_739 M0 M41 := hF0.tr hQ43 rfl
          have e54 := ((hQ43.at g_739_30 rfl).trans ex739_30)
          obtain ⟨v55, e56⟩ : ∃ v, M41 739 31 = v := ⟨_, rfl⟩
          have h57 := (bf_739_31 hP42).1; rw [e56] at h57
          have h58 := (bf_739_31 hP42).2; rw [e56] at h58
          obtain ⟨v59, e60⟩ : ∃ v, M41 739 33 = v := ⟨_, rfl⟩
          have h61 := (bf_739_33 hP42).1; rw [e60] at h61
          have h62 := (bf_739_33 hP42).2; rw [e60] at h62
          obtain ⟨v63, e64⟩ : ∃ v, M41 739 34 = v := ⟨_, rfl⟩
          have h65 := (bf_739_34 hP42).1; rw [e64] at h65
          have h66 := (bf_739_34 hP42).2; rw [e64] at h66
          obtain ⟨v67, e68⟩ : ∃ v, M41 739 32 = v := ⟨_, rfl⟩
          have h69 := (bf_739_32 hP42).1; rw [e68] at h69
          have h70 := (bf_739_32 hP42).2; rw [e68] at h70
          have hn71 := nx_ofm pp_TT ex739_30 ex739_33 ex739_31 xh50
          refine wk_il1 r111_62 ?_
          subst hQ; exact wk_iret r111_63 (⟨rfl, _, rfl, hP42, hF44, by omega, by omega, by have := ((hQ43.at g_739_30 rfl).trans ex739_30); have := e56; omega, by have := e56; have := e60; have := e64; omega, by have := e56; have := e60; have := e64; omega, by have := e64; have := e68; omega, by have := e60; omega, by have := ((hQ43.at g_739_28 rfl).trans ex739_28); omega, by have := e60; have := ((hQ43.at g_739_28 rfl).trans ex739_28); omega, by have := ((hQ43.at g_739_28 rfl).trans ex739_28); omega, by have := ((hQ43.at g_739_28 rfl).trans ex739_28); omega, by have := ((hQ43.at g_739_29 rfl).trans ex739_29); omega, by have := ((hQ43.at g_739_29 rfl).trans ex739_29); have := ((hQ43.at g_739_28 rfl).trans ex739_28); omega, by have := ((hQ43.at g_739_29 rfl).trans ex739_29); have := ((hQ43.at g_739_28 rfl).trans ex739_28); omega, Or.inl ⟨by omega, by have := e60; have := ((hQ43.at g_739_28 rfl).trans ex739_28); have := ((hQ43.at g_739_29 rfl).trans ex739_29); have := naE_c T x739_30 x739_38 x739_33; have := nmI_c T x739_30 x739_33; omega, by have := e60; have := ((hQ43.at g_739_28 rfl).trans ex739_28); have := ((hQ43.at g_739_29 rfl).trans ex739_29); omega, by have := e60; have := ((hQ43.at g_739_28 rfl).trans ex739_28); have := ((hQ43.at g_739_29 rfl).trans ex739_29); omega, by have := e60; have := ((hQ43.at g_739_28 rfl).trans ex739_28); have := ((hQ43.at g_739_29 rfl).trans ex739_29); omega, by have := e60; have := ((hQ43.at g_739_28 rfl).trans ex739_28); have := ((hQ43.at g_739_29 rfl).trans ex739_29); have := naE_c T x739_30 x739_38 x739_33; have := nmI_c T x739_30 x739_33; have := tt_lt T x739_30 x739_33; have := nx_lt (T := T) (n := x739_30) (s := x739_33) (by omega); omega, by have := e60; have := ((hQ43.at g_739_28 rfl).trans ex739_28); have := ((hQ43.at g_739_29 rfl).trans ex739_29); have := naE_c T x739_30 x739_38 x739_33; have := nmI_c T x739_30 x739_33; omega⟩, pr51, pr52, pr53⟩)
      · intro h72
        refine wk_al0 r111_38 (wk_c1 r111_39 (wk_cv2 r111_40 kc_739_137 rfl (n8137_739 _ M0 4 x739_28 x739_33 x739_29 hP0 (by decide) (by decide) ex739_28 (by first | with_reducible assumption | omega) (by first | with_reducible assumption | omega) ex739_33 (by first | with_reducible assumption | omega) (by first | with_reducible assumption | omega) ex739_29 (by first | with_reducible assumption | omega) (by first | with_reducible assumption | omega)) (cqV ?_)))
        rintro M73 ⟨hP74, hQ75, h77, h78, h79, h80, h81, xh82⟩
        have hF76 : Fr fm_n8111_739 M0 M73 := hF0.tr hQ75 rfl
        obtain ⟨v83, e84⟩ : ∃ v, M73 739 28 = v := ⟨_, rfl⟩
        have h85 := (bf_739_28 hP74).1; rw [e84] at h85
        have h86 := (bf_739_28 hP74).2; rw [e84] at h86
        obtain ⟨v87, e88⟩ : ∃ v, M73 739 29 = v := ⟨_, rfl⟩
        have h89 := (bf_739_29 hP74).1; rw [e88] at h89
        have h90 := (bf_739_29 hP74).2; rw [e88] at h90
        refine wk_al0 r111_43 (wk_getfi r111_44 fd_739_36 ((hQ75.at g_739_36 rfl).trans ex739_36) (wk_c2 r111_47 (wk_isub r111_49 (wk_is1 r111_50 rfl (wk_al0 r111_51 (wk_cv1 r111_52 kc_739_84 rfl (n8084_739 _ M73 v83 hP74 e84 (by first | with_reducible assumption | omega) (by first | with_reducible assumption | omega)) (cqI ?_)))))))
        rintro v97 M91 ⟨hP92, hQ93, h98, h99, h95, h96⟩
        obtain rfl := Fr.same hQ93
        have e100 := e84
        refine wk_ifeq r111_55 ⟨by omega, by omega⟩ ?_ ?_
        · intro h101
          refine wk_il1 r111_62 ?_
          subst hQ; exact wk_iret r111_63 (⟨rfl, _, rfl, hP74, hF76, by omega, by omega, by have := ((hQ75.at g_739_30 rfl).trans ex739_30); have := ((hQ75.at g_739_31 rfl).trans ex739_31); omega, by have := ((hQ75.at g_739_31 rfl).trans ex739_31); have := ((hQ75.at g_739_33 rfl).trans ex739_33); have := ((hQ75.at g_739_34 rfl).trans ex739_34); omega, by have := ((hQ75.at g_739_31 rfl).trans ex739_31); have := ((hQ75.at g_739_33 rfl).trans ex739_33); have := ((hQ75.at g_739_34 rfl).trans ex739_34); omega, by have := ((hQ75.at g_739_34 rfl).trans ex739_34); have := ((hQ75.at g_739_32 rfl).trans ex739_32); omega, by have := ((hQ75.at g_739_33 rfl).trans ex739_33); omega, by have := e84; omega, by have := ((hQ75.at g_739_33 rfl).trans ex739_33); have := e84; omega, by have := e84; omega, by have := e84; omega, by have := e88; omega, by have := e88; have := e84; omega, by have := e88; have := e84; omega, Or.inr (Or.inl ⟨by omega, by have := ((hQ75.at g_739_33 rfl).trans ex739_33); have := e84; have := e88; have := naE_c T x739_30 x739_38 x739_33; have := nmI_c T x739_30 x739_33; omega, by have := ((hQ75.at g_739_33 rfl).trans ex739_33); have := e84; have := e88; have := naE_c T x739_30 x739_38 x739_33; have := nmI_c T x739_30 x739_33; omega, by have := ((hQ75.at g_739_33 rfl).trans ex739_33); have := e84; have := e88; omega⟩), (TK_sm (Sm.fr hQ75 rfl) pp_TK), (TXQ_sm (Sm.fr hQ75 rfl) pp_TQ), (TTP_sm (Sm.fr hQ75 rfl) pp_TT)⟩)
        · intro h102
          exfalso
          omega
    · intro h103
      clear h16 h17 h18 h19
      refine wk_al0 r111_16 (wk_c1 r111_17 (wk_cv2 r111_18 kc_739_137 rfl (n8137_739 _ M0 1 x739_28 x739_33 x739_29 hP0 (by decide) (by decide) ex739_28 (by first | with_reducible assumption | omega) (by first | with_reducible assumption | omega) ex739_33 (by first | with_reducible assumption | omega) (by first | with_reducible assumption | omega) ex739_29 (by first | with_reducible assumption | omega) (by first | with_reducible assumption | omega)) (cqV ?_)))
      rintro M104 ⟨hP105, hQ106, h108, h109, h110, h111, h112, xh113⟩
      have hF107 : Fr fm_n8111_739 M0 M104 := hF0.tr hQ106 rfl
      obtain ⟨v114, e115⟩ : ∃ v, M104 739 28 = v := ⟨_, rfl⟩
      have h116 := (bf_739_28 hP105).1; rw [e115] at h116
      have h117 := (bf_739_28 hP105).2; rw [e115] at h117
      obtain ⟨v118, e119⟩ : ∃ v, M104 739 29 = v := ⟨_, rfl⟩
      have h120 := (bf_739_29 hP105).1; rw [e119] at h120
      have h121 := (bf_739_29 hP105).2; rw [e119] at h121
      refine wk_goto r111_21 (wk_al0 r111_43 (wk_getfi r111_44 fd_739_36 ((hQ106.at g_739_36 rfl).trans ex739_36) (wk_c2 r111_47 (wk_isub r111_49 (wk_is1 r111_50 rfl (wk_al0 r111_51 (wk_cv1 r111_52 kc_739_84 rfl (n8084_739 _ M104 v114 hP105 e115 (by first | with_reducible assumption | omega) (by first | with_reducible assumption | omega)) (cqI ?_))))))))
      rintro v128 M122 ⟨hP123, hQ124, h129, h130, h126, h127⟩
      obtain rfl := Fr.same hQ124
      have e131 := e115
      refine wk_ifeq r111_55 ⟨by omega, by omega⟩ ?_ ?_
      · intro h132
        refine wk_il1 r111_62 ?_
        subst hQ; exact wk_iret r111_63 (⟨rfl, _, rfl, hP105, hF107, by omega, by omega, by have := ((hQ106.at g_739_30 rfl).trans ex739_30); have := ((hQ106.at g_739_31 rfl).trans ex739_31); omega, by have := ((hQ106.at g_739_31 rfl).trans ex739_31); have := ((hQ106.at g_739_33 rfl).trans ex739_33); have := ((hQ106.at g_739_34 rfl).trans ex739_34); omega, by have := ((hQ106.at g_739_31 rfl).trans ex739_31); have := ((hQ106.at g_739_33 rfl).trans ex739_33); have := ((hQ106.at g_739_34 rfl).trans ex739_34); omega, by have := ((hQ106.at g_739_34 rfl).trans ex739_34); have := ((hQ106.at g_739_32 rfl).trans ex739_32); omega, by have := ((hQ106.at g_739_33 rfl).trans ex739_33); omega, by have := e115; omega, by have := ((hQ106.at g_739_33 rfl).trans ex739_33); have := e115; omega, by have := e115; omega, by have := e115; omega, by have := e119; omega, by have := e119; have := e115; omega, by have := e119; have := e115; omega, Or.inr (Or.inl ⟨by omega, by have := ((hQ106.at g_739_33 rfl).trans ex739_33); have := e115; have := e119; have := naE_c T x739_30 x739_38 x739_33; have := nmI_c T x739_30 x739_33; omega, by have := ((hQ106.at g_739_33 rfl).trans ex739_33); have := e115; have := e119; have := naE_c T x739_30 x739_38 x739_33; have := nmI_c T x739_30 x739_33; omega, by have := ((hQ106.at g_739_33 rfl).trans ex739_33); have := e115; have := e119; omega⟩), (TK_sm (Sm.fr hQ106 rfl) pp_TK), (TXQ_sm (Sm.fr hQ106 rfl) pp_TQ), (TTP_sm (Sm.fr hQ106 rfl) pp_TT)⟩)
      · intro h133
        exfalso
        omega
  · intro h134
    refine wk_c1 r111_7 ?_
    subst hQ; exact wk_iret r111_8 (⟨rfl, _, rfl, hP0, hF0, by omega, by omega, by have := ex739_30; have := ex739_31; omega, by have := ex739_31; have := ex739_33; have := ex739_34; omega, by have := ex739_31; have := ex739_33; have := ex739_34; omega, by have := ex739_34; have := ex739_32; omega, by have := ex739_33; omega, by have := ex739_28; omega, by have := ex739_33; have := ex739_28; omega, by have := ex739_28; omega, by have := ex739_28; omega, by have := ex739_29; omega, by have := ex739_29; have := ex739_28; omega, by have := ex739_29; have := ex739_28; omega, Or.inr (Or.inr ⟨by omega, by have := ex739_33; have := ex739_28; have := ex739_29; omega, by have := ex739_33; have := ex739_28; have := ex739_29; omega⟩), pp_TK, pp_TQ, pp_TT⟩)
def fm_n8093_739 : Nat := 3198183334179513849174334711124306039004150098954425584320512
set_option maxHeartbeats 20000000 in
/-- IslandHallModel.kind -/
theorem n8093_739 {B : eB} (d : Nat) (M0 : Mm) (x739_30 : Int) (x739_31 : Int) (x739_33 : Int) (x739_34 : Int) (x739_32 : Int) (x739_28 : Int) (x739_29 : Int) (T : Int → Int) (hP0 : Pw M0) (ex739_30 : M0 739 30 = x739_30) (lx739_30 : 0 ≤ x739_30) (ux739_30 : x739_30 ≤ 500) (ex739_31 : M0 739 31 = x739_31) (lx739_31 : 0 ≤ x739_31) (ux739_31 : x739_31 ≤ 500) (ex739_33 : M0 739 33 = x739_33) (lx739_33 : 0 ≤ x739_33) (ux739_33 : x739_33 ≤ 500) (ex739_34 : M0 739 34 = x739_34) (lx739_34 : 0 ≤ x739_34) (ux739_34 : x739_34 ≤ 500) (ex739_32 : M0 739 32 = x739_32) (lx739_32 : 0 ≤ x739_32) (ux739_32 : x739_32 ≤ 4) (ex739_28 : M0 739 28 = x739_28) (lx739_28 : 0 ≤ x739_28) (ux739_28 : x739_28 ≤ 6) (ex739_29 : M0 739 29 = x739_29) (lx739_29 : (-1) ≤ x739_29) (ux739_29 : x739_29 ≤ 501) (rp0 : 0 ≤ x739_30 + (-1) * x739_31) (rp1 : 0 ≤ x739_31 + (-1) * x739_33 + (-1) * x739_34) (rp2 : 0 ≤ (-1) * x739_31 + x739_33 + x739_34) (rp3 : 0 ≤ 4 * x739_34 + (-1) * x739_32) (pp_TK : TK M0) (pp_TQ : TXQ T M0) (pp_TT : TTP T M0) : Ct B (d + 4) 93 [R 739] M0 (qI fun z M => Pw M ∧ Fr fm_n8093_739 M0 M ∧ (-1) ≤ z ∧ z ≤ 21 ∧ 0 ≤ M 739 30 + (-1) * (M 739 31) ∧ 0 ≤ M 739 31 + (-1) * (M 739 33) + (-1) * (M 739 34) ∧ 0 ≤ (-1) * (M 739 31) + M 739 33 + M 739 34 ∧ 0 ≤ 4 * (M 739 34) + (-1) * (M 739 32) ∧ 0 ≤ M 739 33 + (-1) * x739_33 ∧ 0 ≤ M 739 28 + (-1) * x739_28 ∧ 0 ≤ M 739 33 + (-1) * x739_33 + M 739 28 + (-1) ∧ 0 ≤ 4 + 21 * (M 739 28) + (-1) * z ∧ 0 ≤ z + M 739 28 ∧ 0 ≤ M 739 29 + 1 ∧ 0 ≤ M 739 29 + (-1) * x739_29 + 3000 * (M 739 28) ∧ 0 ≤ (-1) * (M 739 29) + x739_29 + 3000 * (M 739 28) ∧ ((x739_28 = 0 ∧ kdE T x739_30 x739_33 = 0 ∧ M 739 28 = 0 ∧ M 739 29 = x739_29 ∧ M 739 33 = nx T x739_30 x739_33 ∧ x739_33 + 1 ≤ M 739 33 ∧ z = kdI T x739_30 x739_33) ∨ (x739_28 = 0 ∧ kdE T x739_30 x739_33 ≠ 0 ∧ M 739 28 = kdE T x739_30 x739_33 ∧ M 739 29 = x739_33) ∨ (x739_28 ≠ 0 ∧ M 739 28 = x739_28 ∧ M 739 29 = x739_29)) ∧ (TK M) ∧ (TXQ T M) ∧ (TTP T M)) := by
  refine ct_of (d := d + 3) (k := 1) (L := [some (R 739), none]) rfl rfl rfl ?_
  have hF0 := Fr.rf fm_n8093_739 M0
  generalize hQ : (qI fun z M => Pw M ∧ Fr fm_n8093_739 M0 M ∧ (-1) ≤ z ∧ z ≤ 21 ∧ 0 ≤ M 739 30 + (-1) * (M 739 31) ∧ 0 ≤ M 739 31 + (-1) * (M 739 33) + (-1) * (M 739 34) ∧ 0 ≤ (-1) * (M 739 31) + M 739 33 + M 739 34 ∧ 0 ≤ 4 * (M 739 34) + (-1) * (M 739 32) ∧ 0 ≤ M 739 33 + (-1) * x739_33 ∧ 0 ≤ M 739 28 + (-1) * x739_28 ∧ 0 ≤ M 739 33 + (-1) * x739_33 + M 739 28 + (-1) ∧ 0 ≤ 4 + 21 * (M 739 28) + (-1) * z ∧ 0 ≤ z + M 739 28 ∧ 0 ≤ M 739 29 + 1 ∧ 0 ≤ M 739 29 + (-1) * x739_29 + 3000 * (M 739 28) ∧ 0 ≤ (-1) * (M 739 29) + x739_29 + 3000 * (M 739 28) ∧ ((x739_28 = 0 ∧ kdE T x739_30 x739_33 = 0 ∧ M 739 28 = 0 ∧ M 739 29 = x739_29 ∧ M 739 33 = nx T x739_30 x739_33 ∧ x739_33 + 1 ≤ M 739 33 ∧ z = kdI T x739_30 x739_33) ∨ (x739_28 = 0 ∧ kdE T x739_30 x739_33 ≠ 0 ∧ M 739 28 = kdE T x739_30 x739_33 ∧ M 739 29 = x739_33) ∨ (x739_28 ≠ 0 ∧ M 739 28 = x739_28 ∧ M 739 29 = x739_29)) ∧ (TK M) ∧ (TXQ T M) ∧ (TTP T M)) = Q
  have hTT := pp_TT
  unfold TTP at hTT
  rw [ex739_30, ex739_33] at hTT
  have hlt := tt_lt T x739_30 x739_33
  refine wk_al0 r93_0 (wk_cv1 r93_1 kc_739_84 rfl (n8084_739 _ M0 x739_28 hP0 ex739_28 (by first | with_reducible assumption | omega) (by first | with_reducible assumption | omega)) (cqI ?_))
  rintro v7 M1 ⟨hP2, hQ3, h8, h9, h5, h6⟩
  obtain rfl := Fr.same hQ3
  have e10 := ex739_28
  refine wk_ifne r93_4 ⟨by omega, by omega⟩ ?_ ?_
  · intro h11
    refine wk_al0 r93_9 (wk_cv1 r93_10 kc_739_97 rfl (n8097_739 _ M0 x739_32 x739_34 x739_30 x739_33 T hP0 ex739_32 (by first | with_reducible assumption | omega) (by first | with_reducible assumption | omega) ex739_34 (by first | with_reducible assumption | omega) (by first | with_reducible assumption | omega) ex739_30 (by first | with_reducible assumption | omega) (by first | with_reducible assumption | omega) ex739_33 (by first | with_reducible assumption | omega) (by first | with_reducible assumption | omega) pp_TK pp_TT) (cqI ?_))
    rintro v18 M12 ⟨hP13, hQ14, h19, h20, h16, xh17⟩
    obtain rfl := Fr.same hQ14
    have e21 := ex739_34
    refine wk_is1 r93_13 rfl (wk_al0 r93_14 (wk_getfi r93_15 fd_739_32 ex739_32 (wk_c1 r93_18 ?_)))
    refine wk_iceq r93_19 ⟨by omega, by omega⟩ (by decide) ?_ ?_
    · intro h22
      refine wk_il1 r93_30 ?_
      refine wk_iflt r93_31 ⟨by omega, by omega⟩ ?_ ?_
      · intro h23
        refine wk_al0 r93_39 (wk_c1 r93_40 (wk_cv2 r93_41 kc_739_137 rfl (n8137_739 _ M0 3 x739_28 x739_33 x739_29 hP0 (by decide) (by decide) ex739_28 (by first | with_reducible assumption | omega) (by first | with_reducible assumption | omega) ex739_33 (by first | with_reducible assumption | omega) (by first | with_reducible assumption | omega) ex739_29 (by first | with_reducible assumption | omega) (by first | with_reducible assumption | omega)) (cqV ?_)))
        rintro M24 ⟨hP25, hQ26, h28, h29, h30, h31, h32, xh33⟩
        have hF27 : Fr fm_n8093_739 M0 M24 := hF0.tr hQ26 rfl
        obtain ⟨v34, e35⟩ : ∃ v, M24 739 28 = v := ⟨_, rfl⟩
        have h36 := (bf_739_28 hP25).1; rw [e35] at h36
        have h37 := (bf_739_28 hP25).2; rw [e35] at h37
        obtain ⟨v38, e39⟩ : ∃ v, M24 739 29 = v := ⟨_, rfl⟩
        have h40 := (bf_739_29 hP25).1; rw [e39] at h40
        have h41 := (bf_739_29 hP25).2; rw [e39] at h41
        refine wk_al0 r93_44 (wk_cv1 r93_45 kc_739_84 rfl (n8084_739 _ M24 v34 hP25 e35 (by first | with_reducible assumption | omega) (by first | with_reducible assumption | omega)) (cqI ?_))
        rintro v48 M42 ⟨hP43, hQ44, h49, h50, h46, h47⟩
        obtain rfl := Fr.same hQ44
        have e51 := e35
        refine wk_ifeq r93_48 ⟨by omega, by omega⟩ ?_ ?_
        · intro h52
          refine wk_il1 r93_55 ?_
          subst hQ; exact wk_iret r93_56 (⟨rfl, _, rfl, hP25, hF27, by omega, by omega, by have := ((hQ26.at g_739_30 rfl).trans ex739_30); have := ((hQ26.at g_739_31 rfl).trans ex739_31); omega, by have := ((hQ26.at g_739_31 rfl).trans ex739_31); have := ((hQ26.at g_739_33 rfl).trans ex739_33); have := ((hQ26.at g_739_34 rfl).trans ex739_34); omega, by have := ((hQ26.at g_739_31 rfl).trans ex739_31); have := ((hQ26.at g_739_33 rfl).trans ex739_33); have := ((hQ26.at g_739_34 rfl).trans ex739_34); omega, by have := ((hQ26.at g_739_34 rfl).trans ex739_34); have := ((hQ26.at g_739_32 rfl).trans ex739_32); omega, by have := ((hQ26.at g_739_33 rfl).trans ex739_33); omega, by have := e35; omega, by have := ((hQ26.at g_739_33 rfl).trans ex739_33); have := e35; omega, by have := e35; omega, by have := e35; omega, by have := e39; omega, by have := e39; have := e35; omega, by have := e39; have := e35; omega, Or.inr (Or.inl ⟨by omega, by have := ((hQ26.at g_739_33 rfl).trans ex739_33); have := e35; have := e39; have := kdI_c T x739_30 x739_33; omega, by have := ((hQ26.at g_739_33 rfl).trans ex739_33); have := e35; have := e39; have := kdI_c T x739_30 x739_33; omega, by have := ((hQ26.at g_739_33 rfl).trans ex739_33); have := e35; have := e39; omega⟩), (TK_sm (Sm.fr hQ26 rfl) pp_TK), (TXQ_sm (Sm.fr hQ26 rfl) pp_TQ), (TTP_sm (Sm.fr hQ26 rfl) pp_TT)⟩)
        · intro h53
          exfalso
          omega
      · intro h54
        refine wk_il1 r93_34 (wk_c1 r93_35 ?_)
        refine wk_icle r93_36 ⟨by omega, by omega⟩ (by decide) ?_ ?_
        · intro h55
          refine wk_al0 r93_44 (wk_cv1 r93_45 kc_739_84 rfl (n8084_739 _ M0 x739_28 hP0 ex739_28 (by first | with_reducible assumption | omega) (by first | with_reducible assumption | omega)) (cqI ?_))
          rintro v62 M56 ⟨hP57, hQ58, h63, h64, h60, h61⟩
          obtain rfl := Fr.same hQ58
          have e65 := ex739_28
          refine wk_ifeq r93_48 ⟨by omega, by omega⟩ ?_ ?_
          · intro h66
            exfalso
            omega
          · intro h67
            refine wk_al0 r93_51 (wk_cv1 r93_52 kc_739_76 rfl (n8076_739 _ M0 x739_30 x739_31 T hP0 ex739_30 (by first | with_reducible assumption | omega) (by first | with_reducible assumption | omega) ex739_31 (by first | with_reducible assumption | omega) (by first | with_reducible assumption | omega) (by omega) pp_TQ) (cqV ?_))
            rintro M68 ⟨hP69, hQ70, h72, h73, h74, h75, h76, xh77, pr78, pr79, pr80⟩
            have hF71 : Fr fm_n8093_739 M0 M68 := hF0.tr hQ70 rfl
            have e81 := ((hQ70.at g_739_30 rfl).trans ex739_30)
            obtain ⟨v82, e83⟩ : ∃ v, M68 739 31 = v := ⟨_, rfl⟩
            have h84 := (bf_739_31 hP69).1; rw [e83] at h84
            have h85 := (bf_739_31 hP69).2; rw [e83] at h85
            obtain ⟨v86, e87⟩ : ∃ v, M68 739 33 = v := ⟨_, rfl⟩
            have h88 := (bf_739_33 hP69).1; rw [e87] at h88
            have h89 := (bf_739_33 hP69).2; rw [e87] at h89
            obtain ⟨v90, e91⟩ : ∃ v, M68 739 34 = v := ⟨_, rfl⟩
            have h92 := (bf_739_34 hP69).1; rw [e91] at h92
            have h93 := (bf_739_34 hP69).2; rw [e91] at h93
            obtain ⟨v94, e95⟩ : ∃ v, M68 739 32 = v := ⟨_, rfl⟩
            have h96 := (bf_739_32 hP69).1; rw [e95] at h96
            have h97 := (bf_739_32 hP69).2; rw [e95] at h97
            have hn98 := nx_ofm pp_TT ex739_30 ex739_33 ex739_31 xh77
            refine wk_il1 r93_55 ?_
            subst hQ; exact wk_iret r93_56 (⟨rfl, _, rfl, hP69, hF71, by omega, by omega, by have := ((hQ70.at g_739_30 rfl).trans ex739_30); have := e83; omega, by have := e83; have := e87; have := e91; omega, by have := e83; have := e87; have := e91; omega, by have := e91; have := e95; omega, by have := e87; omega, by have := ((hQ70.at g_739_28 rfl).trans ex739_28); omega, by have := e87; have := ((hQ70.at g_739_28 rfl).trans ex739_28); omega, by have := ((hQ70.at g_739_28 rfl).trans ex739_28); omega, by have := ((hQ70.at g_739_28 rfl).trans ex739_28); omega, by have := ((hQ70.at g_739_29 rfl).trans ex739_29); omega, by have := ((hQ70.at g_739_29 rfl).trans ex739_29); have := ((hQ70.at g_739_28 rfl).trans ex739_28); omega, by have := ((hQ70.at g_739_29 rfl).trans ex739_29); have := ((hQ70.at g_739_28 rfl).trans ex739_28); omega, Or.inl ⟨by omega, by have := e87; have := ((hQ70.at g_739_28 rfl).trans ex739_28); have := ((hQ70.at g_739_29 rfl).trans ex739_29); have := kdI_c T x739_30 x739_33; omega, by have := e87; have := ((hQ70.at g_739_28 rfl).trans ex739_28); have := ((hQ70.at g_739_29 rfl).trans ex739_29); omega, by have := e87; have := ((hQ70.at g_739_28 rfl).trans ex739_28); have := ((hQ70.at g_739_29 rfl).trans ex739_29); omega, by have := e87; have := ((hQ70.at g_739_28 rfl).trans ex739_28); have := ((hQ70.at g_739_29 rfl).trans ex739_29); omega, by have := e87; have := ((hQ70.at g_739_28 rfl).trans ex739_28); have := ((hQ70.at g_739_29 rfl).trans ex739_29); have := kdI_c T x739_30 x739_33; have := tt_lt T x739_30 x739_33; have := nx_lt (T := T) (n := x739_30) (s := x739_33) (by omega); omega, by have := e87; have := ((hQ70.at g_739_28 rfl).trans ex739_28); have := ((hQ70.at g_739_29 rfl).trans ex739_29); have := kdI_c T x739_30 x739_33; omega⟩, pr78, pr79, pr80⟩)
        · intro h99
          refine wk_al0 r93_39 (wk_c1 r93_40 (wk_cv2 r93_41 kc_739_137 rfl (n8137_739 _ M0 3 x739_28 x739_33 x739_29 hP0 (by decide) (by decide) ex739_28 (by first | with_reducible assumption | omega) (by first | with_reducible assumption | omega) ex739_33 (by first | with_reducible assumption | omega) (by first | with_reducible assumption | omega) ex739_29 (by first | with_reducible assumption | omega) (by first | with_reducible assumption | omega)) (cqV ?_)))
          rintro M100 ⟨hP101, hQ102, h104, h105, h106, h107, h108, xh109⟩
          have hF103 : Fr fm_n8093_739 M0 M100 := hF0.tr hQ102 rfl
          obtain ⟨v110, e111⟩ : ∃ v, M100 739 28 = v := ⟨_, rfl⟩
          have h112 := (bf_739_28 hP101).1; rw [e111] at h112
          have h113 := (bf_739_28 hP101).2; rw [e111] at h113
          obtain ⟨v114, e115⟩ : ∃ v, M100 739 29 = v := ⟨_, rfl⟩
          have h116 := (bf_739_29 hP101).1; rw [e115] at h116
          have h117 := (bf_739_29 hP101).2; rw [e115] at h117
          refine wk_al0 r93_44 (wk_cv1 r93_45 kc_739_84 rfl (n8084_739 _ M100 v110 hP101 e111 (by first | with_reducible assumption | omega) (by first | with_reducible assumption | omega)) (cqI ?_))
          rintro v124 M118 ⟨hP119, hQ120, h125, h126, h122, h123⟩
          obtain rfl := Fr.same hQ120
          have e127 := e111
          refine wk_ifeq r93_48 ⟨by omega, by omega⟩ ?_ ?_
          · intro h128
            refine wk_il1 r93_55 ?_
            subst hQ; exact wk_iret r93_56 (⟨rfl, _, rfl, hP101, hF103, by omega, by omega, by have := ((hQ102.at g_739_30 rfl).trans ex739_30); have := ((hQ102.at g_739_31 rfl).trans ex739_31); omega, by have := ((hQ102.at g_739_31 rfl).trans ex739_31); have := ((hQ102.at g_739_33 rfl).trans ex739_33); have := ((hQ102.at g_739_34 rfl).trans ex739_34); omega, by have := ((hQ102.at g_739_31 rfl).trans ex739_31); have := ((hQ102.at g_739_33 rfl).trans ex739_33); have := ((hQ102.at g_739_34 rfl).trans ex739_34); omega, by have := ((hQ102.at g_739_34 rfl).trans ex739_34); have := ((hQ102.at g_739_32 rfl).trans ex739_32); omega, by have := ((hQ102.at g_739_33 rfl).trans ex739_33); omega, by have := e111; omega, by have := ((hQ102.at g_739_33 rfl).trans ex739_33); have := e111; omega, by have := e111; omega, by have := e111; omega, by have := e115; omega, by have := e115; have := e111; omega, by have := e115; have := e111; omega, Or.inr (Or.inl ⟨by omega, by have := ((hQ102.at g_739_33 rfl).trans ex739_33); have := e111; have := e115; have := kdI_c T x739_30 x739_33; omega, by have := ((hQ102.at g_739_33 rfl).trans ex739_33); have := e111; have := e115; have := kdI_c T x739_30 x739_33; omega, by have := ((hQ102.at g_739_33 rfl).trans ex739_33); have := e111; have := e115; omega⟩), (TK_sm (Sm.fr hQ102 rfl) pp_TK), (TXQ_sm (Sm.fr hQ102 rfl) pp_TQ), (TTP_sm (Sm.fr hQ102 rfl) pp_TT)⟩)
          · intro h129
            exfalso
            omega
    · intro h130
      refine wk_al0 r93_22 (wk_c1 r93_23 (wk_cv2 r93_24 kc_739_137 rfl (n8137_739 _ M0 1 x739_28 x739_33 x739_29 hP0 (by decide) (by decide) ex739_28 (by first | with_reducible assumption | omega) (by first | with_reducible assumption | omega) ex739_33 (by first | with_reducible assumption | omega) (by first | with_reducible assumption | omega) ex739_29 (by first | with_reducible assumption | omega) (by first | with_reducible assumption | omega)) (cqV ?_)))
      rintro M131 ⟨hP132, hQ133, h135, h136, h137, h138, h139, xh140⟩
      have hF134 : Fr fm_n8093_739 M0 M131 := hF0.tr hQ133 rfl
      obtain ⟨v141, e142⟩ : ∃ v, M131 739 28 = v := ⟨_, rfl⟩
      have h143 := (bf_739_28 hP132).1; rw [e142] at h143
      have h144 := (bf_739_28 hP132).2; rw [e142] at h144
      obtain ⟨v145, e146⟩ : ∃ v, M131 739 29 = v := ⟨_, rfl⟩
      have h147 := (bf_739_29 hP132).1; rw [e146] at h147
      have h148 := (bf_739_29 hP132).2; rw [e146] at h148
      refine wk_goto r93_27 (wk_al0 r93_44 (wk_cv1 r93_45 kc_739_84 rfl (n8084_739 _ M131 v141 hP132 e142 (by first | with_reducible assumption | omega) (by first | with_reducible assumption | omega)) (cqI ?_)))
      rintro v155 M149 ⟨hP150, hQ151, h156, h157, h153, h154⟩
      obtain rfl := Fr.same hQ151
      have e158 := e142
      refine wk_ifeq r93_48 ⟨by omega, by omega⟩ ?_ ?_
      · intro h159
        refine wk_il1 r93_55 ?_
        subst hQ; exact wk_iret r93_56 (⟨rfl, _, rfl, hP132, hF134, by omega, by omega, by have := ((hQ133.at g_739_30 rfl).trans ex739_30); have := ((hQ133.at g_739_31 rfl).trans ex739_31); omega, by have := ((hQ133.at g_739_31 rfl).trans ex739_31); have := ((hQ133.at g_739_33 rfl).trans ex739_33); have := ((hQ133.at g_739_34 rfl).trans ex739_34); omega, by have := ((hQ133.at g_739_31 rfl).trans ex739_31); have := ((hQ133.at g_739_33 rfl).trans ex739_33); have := ((hQ133.at g_739_34 rfl).trans ex739_34); omega, by have := ((hQ133.at g_739_34 rfl).trans ex739_34); have := ((hQ133.at g_739_32 rfl).trans ex739_32); omega, by have := ((hQ133.at g_739_33 rfl).trans ex739_33); omega, by have := e142; omega, by have := ((hQ133.at g_739_33 rfl).trans ex739_33); have := e142; omega, by have := e142; omega, by have := e142; omega, by have := e146; omega, by have := e146; have := e142; omega, by have := e146; have := e142; omega, Or.inr (Or.inl ⟨by omega, by have := ((hQ133.at g_739_33 rfl).trans ex739_33); have := e142; have := e146; have := kdI_c T x739_30 x739_33; omega, by have := ((hQ133.at g_739_33 rfl).trans ex739_33); have := e142; have := e146; have := kdI_c T x739_30 x739_33; omega, by have := ((hQ133.at g_739_33 rfl).trans ex739_33); have := e142; have := e146; omega⟩), (TK_sm (Sm.fr hQ133 rfl) pp_TK), (TXQ_sm (Sm.fr hQ133 rfl) pp_TQ), (TTP_sm (Sm.fr hQ133 rfl) pp_TT)⟩)
      · intro h160
        exfalso
        omega
  · intro h161
    refine wk_c1 r93_7 ?_
    subst hQ; exact wk_iret r93_8 (⟨rfl, _, rfl, hP0, hF0, by omega, by omega, by have := ex739_30; have := ex739_31; omega, by have := ex739_31; have := ex739_33; have := ex739_34; omega, by have := ex739_31; have := ex739_33; have := ex739_34; omega, by have := ex739_34; have := ex739_32; omega, by have := ex739_33; omega, by have := ex739_28; omega, by have := ex739_33; have := ex739_28; omega, by have := ex739_28; omega, by have := ex739_28; omega, by have := ex739_29; omega, by have := ex739_29; have := ex739_28; omega, by have := ex739_29; have := ex739_28; omega, Or.inr (Or.inr ⟨by omega, by have := ex739_33; have := ex739_28; have := ex739_29; omega, by have := ex739_33; have := ex739_28; have := ex739_29; omega⟩), pp_TK, pp_TQ, pp_TT⟩)
def fm_n8117_739 : Nat := 452312848583677764512654461700725882347475215226404137245539582496747814912
/-- IslandHallModel.puts -/
theorem n8117_739 {B : eB} (d : Nat) (M0 : Mm) (p1 : Int) (p2 : Int) (p3 : Int) (x739_45 : Int) (hP0 : Pw M0) (l1 : 0 ≤ p1) (u1 : p1 ≤ 15) (l2 : (-97) ≤ p2) (u2 : p2 ≤ 999) (l3 : (-97) ≤ p3) (u3 : p3 ≤ 999) (ex739_45 : M0 739 45 = x739_45) (lx739_45 : 0 ≤ x739_45) (ux739_45 : x739_45 ≤ 999) : Ct B (d + 1) 117 [R 739, I p1, I p2, I p3] M0 (qV fun M => Pw M ∧ Fr fm_n8117_739 M0 M ∧ 0 ≤ M 739 45 + (-1) * x739_45 + (-1) ∧ 0 ≤ (-1) * (M 739 45) + x739_45 + 1 ∧ (PUT M0 M (p1 + 16 * p2 + 2048 * p3))) := by
  refine ct_of (d := d + 0) (k := 0) (L := [some (R 739), some (I p1), some (I p2), some (I p3)]) rfl rfl rfl ?_
  have hF0 := Fr.rf fm_n8117_739 M0
  generalize hQ : (qV fun M => Pw M ∧ Fr fm_n8117_739 M0 M ∧ 0 ≤ M 739 45 + (-1) * x739_45 + (-1) ∧ 0 ≤ (-1) * (M 739 45) + x739_45 + 1 ∧ (PUT M0 M (p1 + 16 * p2 + 2048 * p3))) = Q
  refine wk_al0 r117_0 (wk_getfr r117_1 fd_739_49 (br_739_49 hP0) (wk_al0 r117_4 (wk_getfi r117_5 fd_739_45 ex739_45 (wk_il1 r117_8 (wk_c2 r117_9 (wk_il2 r117_11 (wk_imul r117_12 (wk_iadd r117_13 (wk_c3 r117_14 (wk_il3 r117_17 (wk_imul r117_18 (wk_iadd r117_19 (wk_iast r117_20 ar_757 ⟨by omega, by omega⟩ (wk_nw (ga_757 _) rfl hP0 hF0 (ua_757 ⟨by omega, by omega⟩) ?_))))))))))))))
  intro M1 hP2 hF3 e4
  refine wk_al0 r117_21 (wk_dupr r117_22 (wk_getfi r117_23 fd_739_45 (mUp_no e4 ex739_45 (Or.inl (by decide))) (wk_c1 r117_26 (wk_iadd r117_27 (wk_putfi81 r117_28 fd_739_45 (wk_nw g_739_45 rfl hP2 hF3 (uf_739_45 ⟨by omega, by omega⟩) ?_))))))
  intro M5 hP6 hF7 e8
  subst hQ; exact wk_ret r117_31 (⟨rfl, hP6, hF7, by have := (mUp_at e8); omega, by have := (mUp_at e8); omega, put_mk ex739_45 e4 e8 (by omega)⟩)
def fm_n8112_739 : Nat := 1356938545779010069195758067332661297480611728569957925602488559592754118656
set_option maxHeartbeats 20000000 in
/-- IslandHallModel.namesOne -/
theorem n8112_739 {B : eB} (d : Nat) (M0 : Mm) (x739_30 : Int) (x739_31 : Int) (x739_33 : Int) (x739_34 : Int) (x739_32 : Int) (x739_28 : Int) (x739_45 : Int) (x739_46 : Int) (x739_47 : Int) (x739_38 : Int) (x739_36 : Int) (x739_51 : Int) (x739_29 : Int) (s0 : Int) (u0 : Int → Int) (T : Int → Int) (c0 : Cg) (z0 : Og) (gk : Int) (hP0 : Pw M0) (ex739_30 : M0 739 30 = x739_30) (lx739_30 : 0 ≤ x739_30) (ux739_30 : x739_30 ≤ 500) (ex739_31 : M0 739 31 = x739_31) (lx739_31 : 0 ≤ x739_31) (ux739_31 : x739_31 ≤ 500) (ex739_33 : M0 739 33 = x739_33) (lx739_33 : 0 ≤ x739_33) (ux739_33 : x739_33 ≤ 500) (ex739_34 : M0 739 34 = x739_34) (lx739_34 : 0 ≤ x739_34) (ux739_34 : x739_34 ≤ 500) (ex739_32 : M0 739 32 = x739_32) (lx739_32 : 0 ≤ x739_32) (ux739_32 : x739_32 ≤ 4) (ex739_28 : M0 739 28 = x739_28) (lx739_28 : 0 ≤ x739_28) (ux739_28 : x739_28 ≤ 6) (ex739_45 : M0 739 45 = x739_45) (lx739_45 : 0 ≤ x739_45) (ux739_45 : x739_45 ≤ 1000) (ex739_46 : M0 739 46 = x739_46) (lx739_46 : 0 ≤ x739_46) (ux739_46 : x739_46 ≤ 520) (ex739_47 : M0 739 47 = x739_47) (lx739_47 : 0 ≤ x739_47) (ux739_47 : x739_47 ≤ 500) (ex739_38 : M0 739 38 = x739_38) (lx739_38 : 0 ≤ x739_38) (ux739_38 : x739_38 ≤ 999) (ex739_36 : M0 739 36 = x739_36) (lx739_36 : 0 ≤ x739_36) (ux739_36 : x739_36 ≤ 255) (ex739_51 : M0 739 51 = x739_51) (lx739_51 : 0 ≤ x739_51) (ux739_51 : x739_51 ≤ 0) (ex739_29 : M0 739 29 = x739_29) (lx739_29 : (-1) ≤ x739_29) (ux739_29 : x739_29 ≤ 501) (rp0 : 0 ≤ x739_30 + (-1) * x739_31) (rp1 : 0 ≤ x739_31 + (-1) * x739_33 + (-1) * x739_34) (rp2 : 0 ≤ (-1) * x739_31 + x739_33 + x739_34) (rp3 : 0 ≤ 4 * x739_34 + (-1) * x739_32) (rp4 : 0 ≤ x739_33 + x739_47 + (-2) * x739_45 + (-2) * x739_46 + 3000 * x739_28) (rp5 : 0 ≤ (-2) * x739_45 + (-2) * x739_46 + 520) (rp6 : 0 ≤ (-1) * x739_47 + x739_28 + 6) (rp7 : 0 ≤ (-1) * x739_38 + 7 + 3000 * x739_28) (xp0 : x739_28 = 0) (xp1 : nmI T x739_30 x739_33 = 1) (xp2 : RQ T x739_30 x739_38 (c0, z0) ((1, x739_47, x739_33, gk), OW M0)) (pp_TK : TK M0) (pp_E0 : GE M0 s0 u0 0 0) (pp_TQ : TXQ T M0) (pp_TT : TTP T M0) : Ct B (d + 5) 112 [R 739] M0 (qI fun z M => Pw M ∧ Fr fm_n8112_739 M0 M ∧ 0 ≤ z ∧ z ≤ 1 ∧ 0 ≤ M 739 30 + (-1) * (M 739 31) ∧ 0 ≤ M 739 31 + (-1) * (M 739 33) + (-1) * (M 739 34) ∧ 0 ≤ (-1) * (M 739 31) + M 739 33 + M 739 34 ∧ 0 ≤ 4 * (M 739 34) + (-1) * (M 739 32) ∧ 0 ≤ M 739 33 + (-1) * x739_33 ∧ 0 ≤ M 739 28 + (-1) * x739_28 ∧ 0 ≤ M 739 33 + M 739 47 + (-2) * (M 739 45) + (-2) * (M 739 46) + 3000 * (M 739 28) ∧ 0 ≤ (-2) * (M 739 45) + (-2) * (M 739 46) + 520 ∧ 0 ≤ (-1) * (M 739 47) + M 739 28 + 6 ∧ 0 ≤ M 739 33 + (-1) * x739_33 + M 739 28 + (-1) ∧ 0 ≤ 1 + (-1) * z + (-1) * (M 739 51) ∧ 0 ≤ M 739 29 + 1 ∧ 0 ≤ M 739 29 + (-1) * x739_29 + 3000 * (M 739 28) ∧ 0 ≤ (-1) * (M 739 29) + x739_29 + 3000 * (M 739 28) ∧ 0 ≤ M 739 51 + z + M 739 28 + (-1) ∧ ((z = 1 ∧ RGX T x739_30 x739_38 c0 z0 1 (M 739 47) (M 739 33) 0 (M 739 28) (M 739 29) (OW M)) ∨ (z = 0 ∧ RGX T x739_30 x739_38 c0 z0 2 (M 739 47) (M 739 33) 0 (M 739 28) (M 739 29) (OW M))) ∧ (TK M) ∧ (GH M s0 u0) ∧ (TXQ T M) ∧ (TTP T M)) := by
  refine ct_of (d := d + 4) (k := 2) (L := [some (R 739), none, none]) rfl rfl rfl ?_
  have hF0 := Fr.rf fm_n8112_739 M0
  generalize hQ : (qI fun z M => Pw M ∧ Fr fm_n8112_739 M0 M ∧ 0 ≤ z ∧ z ≤ 1 ∧ 0 ≤ M 739 30 + (-1) * (M 739 31) ∧ 0 ≤ M 739 31 + (-1) * (M 739 33) + (-1) * (M 739 34) ∧ 0 ≤ (-1) * (M 739 31) + M 739 33 + M 739 34 ∧ 0 ≤ 4 * (M 739 34) + (-1) * (M 739 32) ∧ 0 ≤ M 739 33 + (-1) * x739_33 ∧ 0 ≤ M 739 28 + (-1) * x739_28 ∧ 0 ≤ M 739 33 + M 739 47 + (-2) * (M 739 45) + (-2) * (M 739 46) + 3000 * (M 739 28) ∧ 0 ≤ (-2) * (M 739 45) + (-2) * (M 739 46) + 520 ∧ 0 ≤ (-1) * (M 739 47) + M 739 28 + 6 ∧ 0 ≤ M 739 33 + (-1) * x739_33 + M 739 28 + (-1) ∧ 0 ≤ 1 + (-1) * z + (-1) * (M 739 51) ∧ 0 ≤ M 739 29 + 1 ∧ 0 ≤ M 739 29 + (-1) * x739_29 + 3000 * (M 739 28) ∧ 0 ≤ (-1) * (M 739 29) + x739_29 + 3000 * (M 739 28) ∧ 0 ≤ M 739 51 + z + M 739 28 + (-1) ∧ ((z = 1 ∧ RGX T x739_30 x739_38 c0 z0 1 (M 739 47) (M 739 33) 0 (M 739 28) (M 739 29) (OW M)) ∨ (z = 0 ∧ RGX T x739_30 x739_38 c0 z0 2 (M 739 47) (M 739 33) 0 (M 739 28) (M 739 29) (OW M))) ∧ (TK M) ∧ (GH M s0 u0) ∧ (TXQ T M) ∧ (TTP T M)) = Q
  refine wk_al0 r112_0 (wk_cv1 r112_1 kc_739_111 rfl (n8111_739 _ M0 x739_30 x739_31 x739_33 x739_34 x739_32 x739_28 x739_38 x739_36 x739_29 T hP0 ex739_30 (by first | with_reducible assumption | omega) (by first | with_reducible assumption | omega) ex739_31 (by first | with_reducible assumption | omega) (by first | with_reducible assumption | omega) ex739_33 (by first | with_reducible assumption | omega) (by first | with_reducible assumption | omega) ex739_34 (by first | with_reducible assumption | omega) (by first | with_reducible assumption | omega) ex739_32 (by first | with_reducible assumption | omega) (by first | with_reducible assumption | omega) ex739_28 (by first | with_reducible assumption | omega) (by first | with_reducible assumption | omega) ex739_38 (by first | with_reducible assumption | omega) (by first | with_reducible assumption | omega) ex739_36 (by first | with_reducible assumption | omega) (by first | with_reducible assumption | omega) ex739_29 (by first | with_reducible assumption | omega) (by first | with_reducible assumption | omega) (by omega) (by omega) (by omega) (by omega) (by omega) pp_TK pp_TQ pp_TT) (cqI ?_))
  rintro v21 M1 ⟨hP2, hQ3, h22, h23, h5, h6, h7, h8, h9, h10, h11, h12, h13, h14, h15, h16, xh17, pr18, pr19, pr20⟩
  have hF4 : Fr fm_n8112_739 M0 M1 := hF0.tr hQ3 rfl
  have e24 := ((hQ3.at g_739_30 rfl).trans ex739_30)
  obtain ⟨v25, e26⟩ : ∃ v, M1 739 31 = v := ⟨_, rfl⟩
  have h27 := (bf_739_31 hP2).1; rw [e26] at h27
  have h28 := (bf_739_31 hP2).2; rw [e26] at h28
  obtain ⟨v29, e30⟩ : ∃ v, M1 739 33 = v := ⟨_, rfl⟩
  have h31 := (bf_739_33 hP2).1; rw [e30] at h31
  have h32 := (bf_739_33 hP2).2; rw [e30] at h32
  obtain ⟨v33, e34⟩ : ∃ v, M1 739 34 = v := ⟨_, rfl⟩
  have h35 := (bf_739_34 hP2).1; rw [e34] at h35
  have h36 := (bf_739_34 hP2).2; rw [e34] at h36
  obtain ⟨v37, e38⟩ : ∃ v, M1 739 32 = v := ⟨_, rfl⟩
  have h39 := (bf_739_32 hP2).1; rw [e38] at h39
  have h40 := (bf_739_32 hP2).2; rw [e38] at h40
  obtain ⟨v41, e42⟩ : ∃ v, M1 739 28 = v := ⟨_, rfl⟩
  have h43 := (bf_739_28 hP2).1; rw [e42] at h43
  have h44 := (bf_739_28 hP2).2; rw [e42] at h44
  obtain ⟨v45, e46⟩ : ∃ v, M1 739 29 = v := ⟨_, rfl⟩
  have h47 := (bf_739_29 hP2).1; rw [e46] at h47
  have h48 := (bf_739_29 hP2).2; rw [e46] at h48
  have pr49 : GE M1 s0 u0 0 0 := GE_mn (Sm.fr hQ3 rfl) (fun q => by have := ex739_28; have := e42; omega) pp_E0
  refine wk_is1 r112_4 rfl ?_
  refine wk_al0 r112_5 (wk_cv1 r112_6 kc_739_97 rfl (n8097_739 _ M1 v37 v33 x739_30 v29 T hP2 e38 (by first | with_reducible assumption | omega) (by first | with_reducible assumption | omega) e34 (by first | with_reducible assumption | omega) (by first | with_reducible assumption | omega) ((hQ3.at g_739_30 rfl).trans ex739_30) (by first | with_reducible assumption | omega) (by first | with_reducible assumption | omega) e30 (by first | with_reducible assumption | omega) (by first | with_reducible assumption | omega) pr18 pr20) (cqI ?_))
  rintro v56 M50 ⟨hP51, hQ52, h57, h58, h54, xh55⟩
  obtain rfl := Fr.same hQ52
  have e59 := e34
  refine wk_is2 r112_9 rfl (wk_al0 r112_10 (wk_cv1 r112_11 kc_739_84 rfl (n8084_739 _ M1 v41 hP2 e42 (by first | with_reducible assumption | omega) (by first | with_reducible assumption | omega)) (cqI ?_)))
  rintro v66 M60 ⟨hP61, hQ62, h67, h68, h64, h65⟩
  obtain rfl := Fr.same hQ62
  have e69 := e42
  have c69_536 : (v41 ≠ 0 ∨ v56 ≠ 17) → Wp B (d + 4) 112 69 [some (R 739), some (I v21), some (I v56)] [] M1 Q := by
    intro ti254
    refine wk_al0 r112_69 (wk_c1 r112_70 (wk_putfz81 r112_71 fd_739_51 (by decide) (wk_nw g_739_51 rfl hP2 hF4 (uf_739_51 (by decide)) ?_)))
    intro M255 hP256 hF257 e258
    refine wk_al0 r112_74 (wk_cv1 r112_75 kc_739_84 rfl (n8084_739 _ M255 v41 hP256 (mUp_no e258 e42 (Or.inr (by decide))) (by first | with_reducible assumption | omega) (by first | with_reducible assumption | omega)) (cqI ?_))
    rintro v265 M259 ⟨hP260, hQ261, h266, h267, h263, h264⟩
    obtain rfl := Fr.same hQ261
    have e268 := (mUp_no e258 e42 (Or.inr (by decide)))
    refine wk_ifeq r112_78 ⟨by omega, by omega⟩ ?_ ?_
    · intro h269
      refine wk_al0 r112_98 (wk_cv1 r112_99 kc_739_84 rfl (n8084_739 _ M255 v41 hP256 (mUp_no e258 e42 (Or.inr (by decide))) (by first | with_reducible assumption | omega) (by first | with_reducible assumption | omega)) (cqI ?_))
      rintro v276 M270 ⟨hP271, hQ272, h277, h278, h274, h275⟩
      obtain rfl := Fr.same hQ272
      have e279 := (mUp_no e258 e42 (Or.inr (by decide)))
      refine wk_ifne r112_102 ⟨by omega, by omega⟩ ?_ ?_
      · intro h280
        exfalso
        omega
      · intro h281
        refine wk_c1 r112_105 ?_
        subst hQ; exact wk_zret r112_106 (by decide) (⟨rfl, _, rfl, hP256, hF257, by omega, by omega, by have := (mUp_no e258 ((hQ3.at g_739_30 rfl).trans ex739_30) (Or.inr (by decide))); have := (mUp_no e258 e26 (Or.inr (by decide))); omega, by have := (mUp_no e258 e26 (Or.inr (by decide))); have := (mUp_no e258 e30 (Or.inr (by decide))); have := (mUp_no e258 e34 (Or.inr (by decide))); omega, by have := (mUp_no e258 e26 (Or.inr (by decide))); have := (mUp_no e258 e30 (Or.inr (by decide))); have := (mUp_no e258 e34 (Or.inr (by decide))); omega, by have := (mUp_no e258 e34 (Or.inr (by decide))); have := (mUp_no e258 e38 (Or.inr (by decide))); omega, by have := (mUp_no e258 e30 (Or.inr (by decide))); omega, by have := (mUp_no e258 e42 (Or.inr (by decide))); omega, by have := (mUp_no e258 e30 (Or.inr (by decide))); have := (mUp_no e258 ((hQ3.at g_739_47 rfl).trans ex739_47) (Or.inr (by decide))); have := (mUp_no e258 ((hQ3.at g_739_45 rfl).trans ex739_45) (Or.inr (by decide))); have := (mUp_no e258 ((hQ3.at g_739_46 rfl).trans ex739_46) (Or.inr (by decide))); have := (mUp_no e258 e42 (Or.inr (by decide))); omega, by have := (mUp_no e258 ((hQ3.at g_739_45 rfl).trans ex739_45) (Or.inr (by decide))); have := (mUp_no e258 ((hQ3.at g_739_46 rfl).trans ex739_46) (Or.inr (by decide))); omega, by have := (mUp_no e258 ((hQ3.at g_739_47 rfl).trans ex739_47) (Or.inr (by decide))); have := (mUp_no e258 e42 (Or.inr (by decide))); omega, by have := (mUp_no e258 e30 (Or.inr (by decide))); have := (mUp_no e258 e42 (Or.inr (by decide))); omega, by have := (mUp_at e258); omega, by have := (mUp_no e258 e46 (Or.inr (by decide))); omega, by have := (mUp_no e258 e46 (Or.inr (by decide))); have := (mUp_no e258 e42 (Or.inr (by decide))); omega, by have := (mUp_no e258 e46 (Or.inr (by decide))); have := (mUp_no e258 e42 (Or.inr (by decide))); omega, by have := (mUp_at e258); have := (mUp_no e258 e42 (Or.inr (by decide))); omega, Or.inr ⟨by omega, by rw [(mUp_no e258 ((hQ3.at g_739_47 rfl).trans ex739_47) (Or.inr (by decide))), (mUp_no e258 e30 (Or.inr (by decide))), (mUp_no e258 e42 (Or.inr (by decide))), (mUp_no e258 e46 (Or.inr (by decide)))]; exact RGX_f (n106 (v1 := v29) xp2.r xp1 (Or.inl ⟨by omega, by omega, by omega⟩)) (by omega)⟩, (TK_sm (Sm.up e258 g_739_51 rfl) pr18), (GH_vac (mUp_no e258 e42 (Or.inr (by decide))) (by omega)), (TXQ_sm (Sm.up e258 g_739_51 rfl) pr19), (TTP_sm (Sm.up e258 g_739_51 rfl) pr20)⟩)
    · intro h282
      refine wk_il2 r112_81 (wk_c2 r112_82 ?_)
      refine wk_iceq r112_84 ⟨by omega, by omega⟩ (by decide) ?_ ?_
      · intro h283
        refine wk_al0 r112_98 (wk_cv1 r112_99 kc_739_84 rfl (n8084_739 _ M255 v41 hP256 (mUp_no e258 e42 (Or.inr (by decide))) (by first | with_reducible assumption | omega) (by first | with_reducible assumption | omega)) (cqI ?_))
        rintro v290 M284 ⟨hP285, hQ286, h291, h292, h288, h289⟩
        obtain rfl := Fr.same hQ286
        have e293 := (mUp_no e258 e42 (Or.inr (by decide)))
        refine wk_ifne r112_102 ⟨by omega, by omega⟩ ?_ ?_
        · intro h294
          have r1 : RQ T x739_30 x739_38 (c0, z0) (stN T x739_30 x739_38 x739_47 v29, emN T x739_30 v29 (T x739_33 - 97) (OW M0)) := yN1 xp2 xp1 (by omega) (by omega)
          rw [show T x739_33 - 97 = v21 by omega] at r1
          refine wk_al0 r112_107 (wk_cv1 r112_108 kc_739_76 rfl (n8076_739 _ M255 x739_30 v25 T hP256 (mUp_no e258 ((hQ3.at g_739_30 rfl).trans ex739_30) (Or.inr (by decide))) (by first | with_reducible assumption | omega) (by first | with_reducible assumption | omega) (mUp_no e258 e26 (Or.inr (by decide))) (by first | with_reducible assumption | omega) (by first | with_reducible assumption | omega) (by omega) (TXQ_sm (Sm.up e258 g_739_51 rfl) pr19)) (cqV ?_))
          rintro M295 ⟨hP296, hQ297, h299, h300, h301, h302, h303, xh304, pr305, pr306, pr307⟩
          have hF298 : Fr fm_n8112_739 M0 M295 := hF257.tr hQ297 rfl
          have e308 := ((hQ297.at g_739_30 rfl).trans (mUp_no e258 ((hQ3.at g_739_30 rfl).trans ex739_30) (Or.inr (by decide))))
          obtain ⟨v309, e310⟩ : ∃ v, M295 739 31 = v := ⟨_, rfl⟩
          have h311 := (bf_739_31 hP296).1; rw [e310] at h311
          have h312 := (bf_739_31 hP296).2; rw [e310] at h312
          obtain ⟨v313, e314⟩ : ∃ v, M295 739 33 = v := ⟨_, rfl⟩
          have h315 := (bf_739_33 hP296).1; rw [e314] at h315
          have h316 := (bf_739_33 hP296).2; rw [e314] at h316
          obtain ⟨v317, e318⟩ : ∃ v, M295 739 34 = v := ⟨_, rfl⟩
          have h319 := (bf_739_34 hP296).1; rw [e318] at h319
          have h320 := (bf_739_34 hP296).2; rw [e318] at h320
          obtain ⟨v321, e322⟩ : ∃ v, M295 739 32 = v := ⟨_, rfl⟩
          have h323 := (bf_739_32 hP296).1; rw [e322] at h323
          have h324 := (bf_739_32 hP296).2; rw [e322] at h324
          have hn325 := nx_ofm (TTP_sm (Sm.up e258 g_739_51 rfl) pr20) (mUp_no e258 ((hQ3.at g_739_30 rfl).trans ex739_30) (Or.inr (by decide))) (mUp_no e258 e30 (Or.inr (by decide))) (mUp_no e258 e26 (Or.inr (by decide))) xh304
          refine wk_il2 r112_111 (wk_c2 r112_112 ?_)
          refine wk_icne r112_114 ⟨by omega, by omega⟩ (by decide) ?_ ?_
          · intro h326
            exfalso
            omega
          · intro h327
            refine wk_al0 r112_117 (wk_c1 r112_118 (wk_il1 r112_119 (wk_al0 r112_120 (wk_cv1 r112_121 kc_739_93 rfl (n8093_739 _ M295 x739_30 v309 v313 v317 v321 v41 v45 T hP296 ((hQ297.at g_739_30 rfl).trans (mUp_no e258 ((hQ3.at g_739_30 rfl).trans ex739_30) (Or.inr (by decide)))) (by first | with_reducible assumption | omega) (by first | with_reducible assumption | omega) e310 (by first | with_reducible assumption | omega) (by first | with_reducible assumption | omega) e314 (by first | with_reducible assumption | omega) (by first | with_reducible assumption | omega) e318 (by first | with_reducible assumption | omega) (by first | with_reducible assumption | omega) e322 (by first | with_reducible assumption | omega) (by first | with_reducible assumption | omega) ((hQ297.at g_739_28 rfl).trans (mUp_no e258 e42 (Or.inr (by decide)))) (by first | with_reducible assumption | omega) (by first | with_reducible assumption | omega) ((hQ297.at g_739_29 rfl).trans (mUp_no e258 e46 (Or.inr (by decide)))) (by first | with_reducible assumption | omega) (by first | with_reducible assumption | omega) (by omega) (by omega) (by omega) (by omega) pr305 pr306 pr307) (cqI ?_)))))
            rintro v348 M328 ⟨hP329, hQ330, h349, h350, h332, h333, h334, h335, h336, h337, h338, h339, h340, h341, h342, h343, xh344, pr345, pr346, pr347⟩
            have hF331 : Fr fm_n8112_739 M0 M328 := hF298.tr hQ330 rfl
            have e351 := ((hQ330.at g_739_30 rfl).trans ((hQ297.at g_739_30 rfl).trans (mUp_no e258 ((hQ3.at g_739_30 rfl).trans ex739_30) (Or.inr (by decide)))))
            obtain ⟨v352, e353⟩ : ∃ v, M328 739 31 = v := ⟨_, rfl⟩
            have h354 := (bf_739_31 hP329).1; rw [e353] at h354
            have h355 := (bf_739_31 hP329).2; rw [e353] at h355
            obtain ⟨v356, e357⟩ : ∃ v, M328 739 33 = v := ⟨_, rfl⟩
            have h358 := (bf_739_33 hP329).1; rw [e357] at h358
            have h359 := (bf_739_33 hP329).2; rw [e357] at h359
            obtain ⟨v360, e361⟩ : ∃ v, M328 739 34 = v := ⟨_, rfl⟩
            have h362 := (bf_739_34 hP329).1; rw [e361] at h362
            have h363 := (bf_739_34 hP329).2; rw [e361] at h363
            obtain ⟨v364, e365⟩ : ∃ v, M328 739 32 = v := ⟨_, rfl⟩
            have h366 := (bf_739_32 hP329).1; rw [e365] at h366
            have h367 := (bf_739_32 hP329).2; rw [e365] at h367
            obtain ⟨v368, e369⟩ : ∃ v, M328 739 28 = v := ⟨_, rfl⟩
            have h370 := (bf_739_28 hP329).1; rw [e369] at h370
            have h371 := (bf_739_28 hP329).2; rw [e369] at h371
            obtain ⟨v372, e373⟩ : ∃ v, M328 739 29 = v := ⟨_, rfl⟩
            have h374 := (bf_739_29 hP329).1; rw [e373] at h374
            have h375 := (bf_739_29 hP329).2; rw [e373] at h375
            have pr376 : GE M328 s0 u0 0 0 := GE_mn (Sm.fr hQ330 rfl) (fun q => by have := ((hQ297.at g_739_28 rfl).trans (mUp_no e258 e42 (Or.inr (by decide)))); have := e369; omega) (GE_sm (Sm.fr hQ297 rfl) (GE_sm (Sm.up e258 g_739_51 rfl) pr49))
            have gk : M328 739 28 = v368 := e369
            refine wk_cv4 r112_124 kc_739_117 rfl (n8117_739 _ M328 1 v21 v348 x739_45 hP329 (by decide) (by decide) (by first | with_reducible assumption | omega) (by first | with_reducible assumption | omega) (by first | with_reducible assumption | omega) (by first | with_reducible assumption | omega) ((hQ330.at g_739_45 rfl).trans ((hQ297.at g_739_45 rfl).trans (mUp_no e258 ((hQ3.at g_739_45 rfl).trans ex739_45) (Or.inr (by decide))))) (by first | with_reducible assumption | omega) (by first | with_reducible assumption | omega)) (cqV ?_)
            rintro M377 ⟨hP378, hQ379, h381, h382, xh383⟩
            have hF380 : Fr fm_n8112_739 M0 M377 := hF331.tr hQ379 rfl
            obtain ⟨v384, e385⟩ : ∃ v, M377 739 45 = v := ⟨_, rfl⟩
            have h386 := (bf_739_45 hP378).1; rw [e385] at h386
            have h387 := (bf_739_45 hP378).2; rw [e385] at h387
            have pr388 : GE M377 s0 u0 1 0 := GE_atom xh383 pr376 (fun q => by rw [gk] at q; exact ⟨by omega, by unfold refok; omega, by omega, by omega⟩)
            have pr389 : OWe M377 ((OW M0).1 ++ [1 + 16 * v21 + 2048 * v348], (OW M0).2) := OWe_c (OWe_put (OWe_sm (Sm.fr hQ330 rfl) (OWe_sm (Sm.fr hQ297 rfl) (OWe_sm (Sm.up e258 g_739_51 rfl) (OWe_sm (Sm.fr hQ3 rfl) (OWe_rf M0))))) xh383 (bf_739_45 hP329).1) (by show ((OW M0).1 ++ [_], (OW M0).2) = ((OW M0).1 ++ [_], (OW M0).2); congr 3 <;> omega)
            refine wk_goto r112_127 ?_
            refine wk_c1 r112_140 ?_
            subst hQ; exact wk_zret r112_141 (by decide) (⟨rfl, _, rfl, hP378, hF380, by omega, by omega, by have := ((hQ379.at g_739_30 rfl).trans ((hQ330.at g_739_30 rfl).trans ((hQ297.at g_739_30 rfl).trans (mUp_no e258 ((hQ3.at g_739_30 rfl).trans ex739_30) (Or.inr (by decide)))))); have := ((hQ379.at g_739_31 rfl).trans e353); omega, by have := ((hQ379.at g_739_31 rfl).trans e353); have := ((hQ379.at g_739_33 rfl).trans e357); have := ((hQ379.at g_739_34 rfl).trans e361); omega, by have := ((hQ379.at g_739_31 rfl).trans e353); have := ((hQ379.at g_739_33 rfl).trans e357); have := ((hQ379.at g_739_34 rfl).trans e361); omega, by have := ((hQ379.at g_739_34 rfl).trans e361); have := ((hQ379.at g_739_32 rfl).trans e365); omega, by have := ((hQ379.at g_739_33 rfl).trans e357); omega, by have := ((hQ379.at g_739_28 rfl).trans e369); omega, by have := ((hQ379.at g_739_33 rfl).trans e357); have := ((hQ379.at g_739_47 rfl).trans ((hQ330.at g_739_47 rfl).trans ((hQ297.at g_739_47 rfl).trans (mUp_no e258 ((hQ3.at g_739_47 rfl).trans ex739_47) (Or.inr (by decide)))))); have := e385; have := ((hQ379.at g_739_46 rfl).trans ((hQ330.at g_739_46 rfl).trans ((hQ297.at g_739_46 rfl).trans (mUp_no e258 ((hQ3.at g_739_46 rfl).trans ex739_46) (Or.inr (by decide)))))); have := ((hQ379.at g_739_28 rfl).trans e369); omega, by have := e385; have := ((hQ379.at g_739_46 rfl).trans ((hQ330.at g_739_46 rfl).trans ((hQ297.at g_739_46 rfl).trans (mUp_no e258 ((hQ3.at g_739_46 rfl).trans ex739_46) (Or.inr (by decide)))))); omega, by have := ((hQ379.at g_739_47 rfl).trans ((hQ330.at g_739_47 rfl).trans ((hQ297.at g_739_47 rfl).trans (mUp_no e258 ((hQ3.at g_739_47 rfl).trans ex739_47) (Or.inr (by decide)))))); have := ((hQ379.at g_739_28 rfl).trans e369); omega, by have := ((hQ379.at g_739_33 rfl).trans e357); have := ((hQ379.at g_739_28 rfl).trans e369); omega, by have := ((hQ379.at g_739_51 rfl).trans ((hQ330.at g_739_51 rfl).trans ((hQ297.at g_739_51 rfl).trans (mUp_at e258)))); omega, by have := ((hQ379.at g_739_29 rfl).trans e373); omega, by have := ((hQ379.at g_739_29 rfl).trans e373); have := ((hQ379.at g_739_28 rfl).trans e369); omega, by have := ((hQ379.at g_739_29 rfl).trans e373); have := ((hQ379.at g_739_28 rfl).trans e369); omega, by have := ((hQ379.at g_739_51 rfl).trans ((hQ330.at g_739_51 rfl).trans ((hQ297.at g_739_51 rfl).trans (mUp_at e258)))); have := ((hQ379.at g_739_28 rfl).trans e369); omega, Or.inr ⟨by omega, by rw [((hQ379.at g_739_47 rfl).trans ((hQ330.at g_739_47 rfl).trans ((hQ297.at g_739_47 rfl).trans (mUp_no e258 ((hQ3.at g_739_47 rfl).trans ex739_47) (Or.inr (by decide)))))), ((hQ379.at g_739_33 rfl).trans e357), ((hQ379.at g_739_28 rfl).trans e369), ((hQ379.at g_739_29 rfl).trans e373)]; exact n141ix (v2 := v313) (kv := v348) r1 (by omega) (by omega) (by rcases xh344 with q9 | q9 | q9; (exact Or.inl ⟨by omega, by omega, by omega, by omega⟩); (exact Or.inr ⟨by omega, by omega, by omega⟩); (omega)) pr389⟩, (TK_sm (Sm.fr hQ379 rfl) pr345), (GH_of1 ((hQ379.at g_739_51 rfl).trans ((hQ330.at g_739_51 rfl).trans ((hQ297.at g_739_51 rfl).trans (mUp_at e258)))) (by omega) pr388), (TXQ_sm (Sm.fr hQ379 rfl) pr346), (TTP_sm (Sm.fr hQ379 rfl) pr347)⟩)
        · intro h390
          exfalso
          omega
      · intro h391
        refine wk_il2 r112_87 (wk_c2 r112_88 ?_)
        refine wk_iceq r112_90 ⟨by omega, by omega⟩ (by decide) ?_ ?_
        · intro h392
          refine wk_al0 r112_98 (wk_cv1 r112_99 kc_739_84 rfl (n8084_739 _ M255 v41 hP256 (mUp_no e258 e42 (Or.inr (by decide))) (by first | with_reducible assumption | omega) (by first | with_reducible assumption | omega)) (cqI ?_))
          rintro v399 M393 ⟨hP394, hQ395, h400, h401, h397, h398⟩
          obtain rfl := Fr.same hQ395
          have e402 := (mUp_no e258 e42 (Or.inr (by decide)))
          refine wk_ifne r112_102 ⟨by omega, by omega⟩ ?_ ?_
          · intro h403
            have r1 : RQ T x739_30 x739_38 (c0, z0) (stN T x739_30 x739_38 x739_47 v29, emN T x739_30 v29 (T x739_33 - 97) (OW M0)) := yN1 xp2 xp1 (by omega) (by omega)
            rw [show T x739_33 - 97 = v21 by omega] at r1
            refine wk_al0 r112_107 (wk_cv1 r112_108 kc_739_76 rfl (n8076_739 _ M255 x739_30 v25 T hP256 (mUp_no e258 ((hQ3.at g_739_30 rfl).trans ex739_30) (Or.inr (by decide))) (by first | with_reducible assumption | omega) (by first | with_reducible assumption | omega) (mUp_no e258 e26 (Or.inr (by decide))) (by first | with_reducible assumption | omega) (by first | with_reducible assumption | omega) (by omega) (TXQ_sm (Sm.up e258 g_739_51 rfl) pr19)) (cqV ?_))
            rintro M404 ⟨hP405, hQ406, h408, h409, h410, h411, h412, xh413, pr414, pr415, pr416⟩
            have hF407 : Fr fm_n8112_739 M0 M404 := hF257.tr hQ406 rfl
            have e417 := ((hQ406.at g_739_30 rfl).trans (mUp_no e258 ((hQ3.at g_739_30 rfl).trans ex739_30) (Or.inr (by decide))))
            obtain ⟨v418, e419⟩ : ∃ v, M404 739 31 = v := ⟨_, rfl⟩
            have h420 := (bf_739_31 hP405).1; rw [e419] at h420
            have h421 := (bf_739_31 hP405).2; rw [e419] at h421
            obtain ⟨v422, e423⟩ : ∃ v, M404 739 33 = v := ⟨_, rfl⟩
            have h424 := (bf_739_33 hP405).1; rw [e423] at h424
            have h425 := (bf_739_33 hP405).2; rw [e423] at h425
            obtain ⟨v426, e427⟩ : ∃ v, M404 739 34 = v := ⟨_, rfl⟩
            have h428 := (bf_739_34 hP405).1; rw [e427] at h428
            have h429 := (bf_739_34 hP405).2; rw [e427] at h429
            obtain ⟨v430, e431⟩ : ∃ v, M404 739 32 = v := ⟨_, rfl⟩
            have h432 := (bf_739_32 hP405).1; rw [e431] at h432
            have h433 := (bf_739_32 hP405).2; rw [e431] at h433
            have hn434 := nx_ofm (TTP_sm (Sm.up e258 g_739_51 rfl) pr20) (mUp_no e258 ((hQ3.at g_739_30 rfl).trans ex739_30) (Or.inr (by decide))) (mUp_no e258 e30 (Or.inr (by decide))) (mUp_no e258 e26 (Or.inr (by decide))) xh413
            refine wk_il2 r112_111 (wk_c2 r112_112 ?_)
            refine wk_icne r112_114 ⟨by omega, by omega⟩ (by decide) ?_ ?_
            · intro h435
              refine wk_al0 r112_130 (wk_c1 r112_131 (wk_il1 r112_132 (wk_al0 r112_133 ?_)))
              obtain ⟨v436, e437⟩ : ∃ v, M404 739 36 = v := ⟨_, rfl⟩
              have h438 := (bf_739_36 hP405).1; rw [e437] at h438
              have h439 := (bf_739_36 hP405).2; rw [e437] at h439
              refine wk_cv1 r112_134 kc_739_111 rfl (n8111_739 _ M404 x739_30 v418 v422 v426 v430 v41 x739_38 v436 v45 T hP405 ((hQ406.at g_739_30 rfl).trans (mUp_no e258 ((hQ3.at g_739_30 rfl).trans ex739_30) (Or.inr (by decide)))) (by first | with_reducible assumption | omega) (by first | with_reducible assumption | omega) e419 (by first | with_reducible assumption | omega) (by first | with_reducible assumption | omega) e423 (by first | with_reducible assumption | omega) (by first | with_reducible assumption | omega) e427 (by first | with_reducible assumption | omega) (by first | with_reducible assumption | omega) e431 (by first | with_reducible assumption | omega) (by first | with_reducible assumption | omega) ((hQ406.at g_739_28 rfl).trans (mUp_no e258 e42 (Or.inr (by decide)))) (by first | with_reducible assumption | omega) (by first | with_reducible assumption | omega) ((hQ406.at g_739_38 rfl).trans (mUp_no e258 ((hQ3.at g_739_38 rfl).trans ex739_38) (Or.inr (by decide)))) (by first | with_reducible assumption | omega) (by first | with_reducible assumption | omega) e437 (by first | with_reducible assumption | omega) (by first | with_reducible assumption | omega) ((hQ406.at g_739_29 rfl).trans (mUp_no e258 e46 (Or.inr (by decide)))) (by first | with_reducible assumption | omega) (by first | with_reducible assumption | omega) (by omega) (by omega) (by omega) (by omega) (by omega) pr414 pr415 pr416) (cqI ?_)
              rintro v460 M440 ⟨hP441, hQ442, h461, h462, h444, h445, h446, h447, h448, h449, h450, h451, h452, h453, h454, h455, xh456, pr457, pr458, pr459⟩
              have hF443 : Fr fm_n8112_739 M0 M440 := hF407.tr hQ442 rfl
              have e463 := ((hQ442.at g_739_30 rfl).trans ((hQ406.at g_739_30 rfl).trans (mUp_no e258 ((hQ3.at g_739_30 rfl).trans ex739_30) (Or.inr (by decide)))))
              obtain ⟨v464, e465⟩ : ∃ v, M440 739 31 = v := ⟨_, rfl⟩
              have h466 := (bf_739_31 hP441).1; rw [e465] at h466
              have h467 := (bf_739_31 hP441).2; rw [e465] at h467
              obtain ⟨v468, e469⟩ : ∃ v, M440 739 33 = v := ⟨_, rfl⟩
              have h470 := (bf_739_33 hP441).1; rw [e469] at h470
              have h471 := (bf_739_33 hP441).2; rw [e469] at h471
              obtain ⟨v472, e473⟩ : ∃ v, M440 739 34 = v := ⟨_, rfl⟩
              have h474 := (bf_739_34 hP441).1; rw [e473] at h474
              have h475 := (bf_739_34 hP441).2; rw [e473] at h475
              obtain ⟨v476, e477⟩ : ∃ v, M440 739 32 = v := ⟨_, rfl⟩
              have h478 := (bf_739_32 hP441).1; rw [e477] at h478
              have h479 := (bf_739_32 hP441).2; rw [e477] at h479
              obtain ⟨v480, e481⟩ : ∃ v, M440 739 28 = v := ⟨_, rfl⟩
              have h482 := (bf_739_28 hP441).1; rw [e481] at h482
              have h483 := (bf_739_28 hP441).2; rw [e481] at h483
              obtain ⟨v484, e485⟩ : ∃ v, M440 739 29 = v := ⟨_, rfl⟩
              have h486 := (bf_739_29 hP441).1; rw [e485] at h486
              have h487 := (bf_739_29 hP441).2; rw [e485] at h487
              have pr488 : GE M440 s0 u0 0 0 := GE_mn (Sm.fr hQ442 rfl) (fun q => by have := ((hQ406.at g_739_28 rfl).trans (mUp_no e258 e42 (Or.inr (by decide)))); have := e481; omega) (GE_sm (Sm.fr hQ406 rfl) (GE_sm (Sm.up e258 g_739_51 rfl) pr49))
              have gk : M440 739 28 = v480 := e481
              refine wk_cv4 r112_137 kc_739_117 rfl (n8117_739 _ M440 2 v21 v460 x739_45 hP441 (by decide) (by decide) (by first | with_reducible assumption | omega) (by first | with_reducible assumption | omega) (by first | with_reducible assumption | omega) (by first | with_reducible assumption | omega) ((hQ442.at g_739_45 rfl).trans ((hQ406.at g_739_45 rfl).trans (mUp_no e258 ((hQ3.at g_739_45 rfl).trans ex739_45) (Or.inr (by decide))))) (by first | with_reducible assumption | omega) (by first | with_reducible assumption | omega)) (cqV ?_)
              rintro M489 ⟨hP490, hQ491, h493, h494, xh495⟩
              have hF492 : Fr fm_n8112_739 M0 M489 := hF443.tr hQ491 rfl
              obtain ⟨v496, e497⟩ : ∃ v, M489 739 45 = v := ⟨_, rfl⟩
              have h498 := (bf_739_45 hP490).1; rw [e497] at h498
              have h499 := (bf_739_45 hP490).2; rw [e497] at h499
              have pr500 : GE M489 s0 u0 1 0 := GE_atom xh495 pr488 (fun q => by rw [gk] at q; exact ⟨by omega, by unfold refok; omega, by omega, by omega⟩)
              have pr501 : OWe M489 ((OW M0).1 ++ [2 + 16 * v21 + 2048 * v460], (OW M0).2) := OWe_c (OWe_put (OWe_sm (Sm.fr hQ442 rfl) (OWe_sm (Sm.fr hQ406 rfl) (OWe_sm (Sm.up e258 g_739_51 rfl) (OWe_sm (Sm.fr hQ3 rfl) (OWe_rf M0))))) xh495 (bf_739_45 hP441).1) (by show ((OW M0).1 ++ [_], (OW M0).2) = ((OW M0).1 ++ [_], (OW M0).2); congr 3 <;> omega)
              refine wk_c1 r112_140 ?_
              subst hQ; exact wk_zret r112_141 (by decide) (⟨rfl, _, rfl, hP490, hF492, by omega, by omega, by have := ((hQ491.at g_739_30 rfl).trans ((hQ442.at g_739_30 rfl).trans ((hQ406.at g_739_30 rfl).trans (mUp_no e258 ((hQ3.at g_739_30 rfl).trans ex739_30) (Or.inr (by decide)))))); have := ((hQ491.at g_739_31 rfl).trans e465); omega, by have := ((hQ491.at g_739_31 rfl).trans e465); have := ((hQ491.at g_739_33 rfl).trans e469); have := ((hQ491.at g_739_34 rfl).trans e473); omega, by have := ((hQ491.at g_739_31 rfl).trans e465); have := ((hQ491.at g_739_33 rfl).trans e469); have := ((hQ491.at g_739_34 rfl).trans e473); omega, by have := ((hQ491.at g_739_34 rfl).trans e473); have := ((hQ491.at g_739_32 rfl).trans e477); omega, by have := ((hQ491.at g_739_33 rfl).trans e469); omega, by have := ((hQ491.at g_739_28 rfl).trans e481); omega, by have := ((hQ491.at g_739_33 rfl).trans e469); have := ((hQ491.at g_739_47 rfl).trans ((hQ442.at g_739_47 rfl).trans ((hQ406.at g_739_47 rfl).trans (mUp_no e258 ((hQ3.at g_739_47 rfl).trans ex739_47) (Or.inr (by decide)))))); have := e497; have := ((hQ491.at g_739_46 rfl).trans ((hQ442.at g_739_46 rfl).trans ((hQ406.at g_739_46 rfl).trans (mUp_no e258 ((hQ3.at g_739_46 rfl).trans ex739_46) (Or.inr (by decide)))))); have := ((hQ491.at g_739_28 rfl).trans e481); omega, by have := e497; have := ((hQ491.at g_739_46 rfl).trans ((hQ442.at g_739_46 rfl).trans ((hQ406.at g_739_46 rfl).trans (mUp_no e258 ((hQ3.at g_739_46 rfl).trans ex739_46) (Or.inr (by decide)))))); omega, by have := ((hQ491.at g_739_47 rfl).trans ((hQ442.at g_739_47 rfl).trans ((hQ406.at g_739_47 rfl).trans (mUp_no e258 ((hQ3.at g_739_47 rfl).trans ex739_47) (Or.inr (by decide)))))); have := ((hQ491.at g_739_28 rfl).trans e481); omega, by have := ((hQ491.at g_739_33 rfl).trans e469); have := ((hQ491.at g_739_28 rfl).trans e481); omega, by have := ((hQ491.at g_739_51 rfl).trans ((hQ442.at g_739_51 rfl).trans ((hQ406.at g_739_51 rfl).trans (mUp_at e258)))); omega, by have := ((hQ491.at g_739_29 rfl).trans e485); omega, by have := ((hQ491.at g_739_29 rfl).trans e485); have := ((hQ491.at g_739_28 rfl).trans e481); omega, by have := ((hQ491.at g_739_29 rfl).trans e485); have := ((hQ491.at g_739_28 rfl).trans e481); omega, by have := ((hQ491.at g_739_51 rfl).trans ((hQ442.at g_739_51 rfl).trans ((hQ406.at g_739_51 rfl).trans (mUp_at e258)))); have := ((hQ491.at g_739_28 rfl).trans e481); omega, Or.inr ⟨by omega, by rw [((hQ491.at g_739_47 rfl).trans ((hQ442.at g_739_47 rfl).trans ((hQ406.at g_739_47 rfl).trans (mUp_no e258 ((hQ3.at g_739_47 rfl).trans ex739_47) (Or.inr (by decide)))))), ((hQ491.at g_739_33 rfl).trans e469), ((hQ491.at g_739_28 rfl).trans e481), ((hQ491.at g_739_29 rfl).trans e485)]; exact n141ax (v2 := v422) (kv := v460) r1 (by omega) (by omega) (by rcases xh456 with q9 | q9 | q9; (exact Or.inl ⟨by omega, by omega, by omega, by omega⟩); (exact Or.inr ⟨by omega, by omega, by omega⟩); (omega)) pr501⟩, (TK_sm (Sm.fr hQ491 rfl) pr457), (GH_of1 ((hQ491.at g_739_51 rfl).trans ((hQ442.at g_739_51 rfl).trans ((hQ406.at g_739_51 rfl).trans (mUp_at e258)))) (by omega) pr500), (TXQ_sm (Sm.fr hQ491 rfl) pr458), (TTP_sm (Sm.fr hQ491 rfl) pr459)⟩)
            · intro h502
              exfalso
              omega
          · intro h503
            exfalso
            omega
        · intro h504
          refine wk_al0 r112_93 (wk_c1 r112_94 (wk_cv2 r112_95 kc_739_137 rfl (n8137_739 _ M255 1 v41 v29 v45 hP256 (by decide) (by decide) (mUp_no e258 e42 (Or.inr (by decide))) (by first | with_reducible assumption | omega) (by first | with_reducible assumption | omega) (mUp_no e258 e30 (Or.inr (by decide))) (by first | with_reducible assumption | omega) (by first | with_reducible assumption | omega) (mUp_no e258 e46 (Or.inr (by decide))) (by first | with_reducible assumption | omega) (by first | with_reducible assumption | omega)) (cqV ?_)))
          rintro M505 ⟨hP506, hQ507, h509, h510, h511, h512, h513, xh514⟩
          have hF508 : Fr fm_n8112_739 M0 M505 := hF257.tr hQ507 rfl
          obtain ⟨v515, e516⟩ : ∃ v, M505 739 28 = v := ⟨_, rfl⟩
          have h517 := (bf_739_28 hP506).1; rw [e516] at h517
          have h518 := (bf_739_28 hP506).2; rw [e516] at h518
          obtain ⟨v519, e520⟩ : ∃ v, M505 739 29 = v := ⟨_, rfl⟩
          have h521 := (bf_739_29 hP506).1; rw [e520] at h521
          have h522 := (bf_739_29 hP506).2; rw [e520] at h522
          have pr523 : GE M505 s0 u0 0 0 := GE_mn (Sm.fr hQ507 rfl) (fun q => by have := (mUp_no e258 e42 (Or.inr (by decide))); have := e516; omega) (GE_sm (Sm.up e258 g_739_51 rfl) pr49)
          refine wk_al0 r112_98 (wk_cv1 r112_99 kc_739_84 rfl (n8084_739 _ M505 v515 hP506 e516 (by first | with_reducible assumption | omega) (by first | with_reducible assumption | omega)) (cqI ?_))
          rintro v530 M524 ⟨hP525, hQ526, h531, h532, h528, h529⟩
          obtain rfl := Fr.same hQ526
          have e533 := e516
          refine wk_ifne r112_102 ⟨by omega, by omega⟩ ?_ ?_
          · intro h534
            exfalso
            omega
          · intro h535
            refine wk_c1 r112_105 ?_
            subst hQ; exact wk_zret r112_106 (by decide) (⟨rfl, _, rfl, hP506, hF508, by omega, by omega, by have := ((hQ507.at g_739_30 rfl).trans (mUp_no e258 ((hQ3.at g_739_30 rfl).trans ex739_30) (Or.inr (by decide)))); have := ((hQ507.at g_739_31 rfl).trans (mUp_no e258 e26 (Or.inr (by decide)))); omega, by have := ((hQ507.at g_739_31 rfl).trans (mUp_no e258 e26 (Or.inr (by decide)))); have := ((hQ507.at g_739_33 rfl).trans (mUp_no e258 e30 (Or.inr (by decide)))); have := ((hQ507.at g_739_34 rfl).trans (mUp_no e258 e34 (Or.inr (by decide)))); omega, by have := ((hQ507.at g_739_31 rfl).trans (mUp_no e258 e26 (Or.inr (by decide)))); have := ((hQ507.at g_739_33 rfl).trans (mUp_no e258 e30 (Or.inr (by decide)))); have := ((hQ507.at g_739_34 rfl).trans (mUp_no e258 e34 (Or.inr (by decide)))); omega, by have := ((hQ507.at g_739_34 rfl).trans (mUp_no e258 e34 (Or.inr (by decide)))); have := ((hQ507.at g_739_32 rfl).trans (mUp_no e258 e38 (Or.inr (by decide)))); omega, by have := ((hQ507.at g_739_33 rfl).trans (mUp_no e258 e30 (Or.inr (by decide)))); omega, by have := e516; omega, by have := ((hQ507.at g_739_33 rfl).trans (mUp_no e258 e30 (Or.inr (by decide)))); have := ((hQ507.at g_739_47 rfl).trans (mUp_no e258 ((hQ3.at g_739_47 rfl).trans ex739_47) (Or.inr (by decide)))); have := ((hQ507.at g_739_45 rfl).trans (mUp_no e258 ((hQ3.at g_739_45 rfl).trans ex739_45) (Or.inr (by decide)))); have := ((hQ507.at g_739_46 rfl).trans (mUp_no e258 ((hQ3.at g_739_46 rfl).trans ex739_46) (Or.inr (by decide)))); have := e516; omega, by have := ((hQ507.at g_739_45 rfl).trans (mUp_no e258 ((hQ3.at g_739_45 rfl).trans ex739_45) (Or.inr (by decide)))); have := ((hQ507.at g_739_46 rfl).trans (mUp_no e258 ((hQ3.at g_739_46 rfl).trans ex739_46) (Or.inr (by decide)))); omega, by have := ((hQ507.at g_739_47 rfl).trans (mUp_no e258 ((hQ3.at g_739_47 rfl).trans ex739_47) (Or.inr (by decide)))); have := e516; omega, by have := ((hQ507.at g_739_33 rfl).trans (mUp_no e258 e30 (Or.inr (by decide)))); have := e516; omega, by have := ((hQ507.at g_739_51 rfl).trans (mUp_at e258)); omega, by have := e520; omega, by have := e520; have := e516; omega, by have := e520; have := e516; omega, by have := ((hQ507.at g_739_51 rfl).trans (mUp_at e258)); have := e516; omega, Or.inr ⟨by omega, by rw [((hQ507.at g_739_47 rfl).trans (mUp_no e258 ((hQ3.at g_739_47 rfl).trans ex739_47) (Or.inr (by decide)))), ((hQ507.at g_739_33 rfl).trans (mUp_no e258 e30 (Or.inr (by decide)))), e516, e520]; exact RGX_f (n106 (v1 := v29) xp2.r xp1 (Or.inr ⟨by omega, by omega, by omega, by omega, by omega, by omega, by omega⟩)) (by omega)⟩, (TK_sm (Sm.fr hQ507 rfl) (TK_sm (Sm.up e258 g_739_51 rfl) pr18)), (GH_vac e516 (by omega)), (TXQ_sm (Sm.fr hQ507 rfl) (TXQ_sm (Sm.up e258 g_739_51 rfl) pr19)), (TTP_sm (Sm.fr hQ507 rfl) (TTP_sm (Sm.up e258 g_739_51 rfl) pr20))⟩)
  refine wk_ifeq r112_14 ⟨by omega, by omega⟩ ?_ ?_
  · intro h70
    exact wp_fg (le_s (le_s (le_s le_0))) (c69_536 (by omega))
  · intro h71
    refine wk_il2 r112_17 (wk_c2 r112_18 ?_)
    refine wk_icne r112_20 ⟨by omega, by omega⟩ (by decide) ?_ ?_
    · intro h72
      exact wp_fg (le_s (le_s (le_s le_0))) (c69_536 (by omega))
    · intro h73
      have r1 : RQ T x739_30 x739_38 (c0, z0) (stN T x739_30 x739_38 x739_47 v29, emN T x739_30 v29 (T x739_33 - 97) (OW M0)) := yN1 xp2 xp1 (by omega) (by omega)
      rw [show T x739_33 - 97 = v21 by omega] at r1
      refine wk_al0 r112_23 (wk_cv1 r112_24 kc_739_76 rfl (n8076_739 _ M1 x739_30 v25 T hP2 ((hQ3.at g_739_30 rfl).trans ex739_30) (by first | with_reducible assumption | omega) (by first | with_reducible assumption | omega) e26 (by first | with_reducible assumption | omega) (by first | with_reducible assumption | omega) (by omega) pr19) (cqV ?_))
      rintro M74 ⟨hP75, hQ76, h78, h79, h80, h81, h82, xh83, pr84, pr85, pr86⟩
      have hF77 : Fr fm_n8112_739 M0 M74 := hF4.tr hQ76 rfl
      have e87 := ((hQ76.at g_739_30 rfl).trans ((hQ3.at g_739_30 rfl).trans ex739_30))
      obtain ⟨v88, e89⟩ : ∃ v, M74 739 31 = v := ⟨_, rfl⟩
      have h90 := (bf_739_31 hP75).1; rw [e89] at h90
      have h91 := (bf_739_31 hP75).2; rw [e89] at h91
      obtain ⟨v92, e93⟩ : ∃ v, M74 739 33 = v := ⟨_, rfl⟩
      have h94 := (bf_739_33 hP75).1; rw [e93] at h94
      have h95 := (bf_739_33 hP75).2; rw [e93] at h95
      obtain ⟨v96, e97⟩ : ∃ v, M74 739 34 = v := ⟨_, rfl⟩
      have h98 := (bf_739_34 hP75).1; rw [e97] at h98
      have h99 := (bf_739_34 hP75).2; rw [e97] at h99
      obtain ⟨v100, e101⟩ : ∃ v, M74 739 32 = v := ⟨_, rfl⟩
      have h102 := (bf_739_32 hP75).1; rw [e101] at h102
      have h103 := (bf_739_32 hP75).2; rw [e101] at h103
      have hn104 := nx_ofm pr20 ((hQ3.at g_739_30 rfl).trans ex739_30) e30 e26 xh83
      refine wk_al0 r112_27 (wk_c2 r112_28 ?_)
      obtain ⟨v105, e106⟩ : ∃ v, M74 739 36 = v := ⟨_, rfl⟩
      have h107 := (bf_739_36 hP75).1; rw [e106] at h107
      have h108 := (bf_739_36 hP75).2; rw [e106] at h108
      refine wk_cv2 r112_30 kc_739_88 rfl (n8088_739 _ M74 40 v100 v105 x739_30 v92 T hP75 (by decide) (by decide) e101 (by first | with_reducible assumption | omega) (by first | with_reducible assumption | omega) e106 (by first | with_reducible assumption | omega) (by first | with_reducible assumption | omega) ((hQ76.at g_739_30 rfl).trans ((hQ3.at g_739_30 rfl).trans ex739_30)) (by first | with_reducible assumption | omega) (by first | with_reducible assumption | omega) e93 (by first | with_reducible assumption | omega) (by first | with_reducible assumption | omega) pr86) (cqI ?_)
      rintro v117 M109 ⟨hP110, hQ111, h118, h119, h113, h114, h115, xh116⟩
      obtain rfl := Fr.same hQ111
      have e120 := e101
      have e121 := e106
      refine wk_ifne r112_33 ⟨by omega, by omega⟩ ?_ ?_
      · intro h122
        replace h113 := h113 (z1_of h118 h119 h122)
        replace h114 := h114 (z1_of h118 h119 h122)
        replace h115 := h115 (z1_of h118 h119 h122)
        refine wk_al0 r112_41 (wk_cv1 r112_42 kc_739_84 rfl (n8084_739 _ M74 v41 hP75 ((hQ76.at g_739_28 rfl).trans e42) (by first | with_reducible assumption | omega) (by first | with_reducible assumption | omega)) (cqI ?_))
        rintro v129 M123 ⟨hP124, hQ125, h130, h131, h127, h128⟩
        obtain rfl := Fr.same hQ125
        have e132 := ((hQ76.at g_739_28 rfl).trans e42)
        refine wk_ifne r112_45 ⟨by omega, by omega⟩ ?_ ?_
        · intro h133
          refine wk_al0 r112_50 (wk_c2 r112_51 (wk_il1 r112_53 (wk_c1 r112_54 (wk_iadd r112_55 (wk_cv3 r112_56 kc_739_133 rfl (n8133_739 _ M74 14 (v21 + 1) x739_46 hP75 (by decide) (by decide) (by first | with_reducible assumption | omega) (by first | with_reducible assumption | omega) ((hQ76.at g_739_46 rfl).trans ((hQ3.at g_739_46 rfl).trans ex739_46)) (by first | with_reducible assumption | omega) (by first | with_reducible assumption | omega)) (cqV ?_))))))
          rintro M134 ⟨hP135, hQ136, h138, h139, xh140⟩
          have hF137 : Fr fm_n8112_739 M0 M134 := hF77.tr hQ136 rfl
          obtain ⟨v141, e142⟩ : ∃ v, M134 739 46 = v := ⟨_, rfl⟩
          have h143 := (bf_739_46 hP135).1; rw [e142] at h143
          have h144 := (bf_739_46 hP135).2; rw [e142] at h144
          have pr145 : GE M134 s0 u0 0 1 := GE_par xh140 (GE_sm (Sm.fr hQ76 rfl) pr49) (by omega)
          have pr146 : OWe M134 ((OW M0).1, (14 + 16 * (v21 + 1)) :: (OW M0).2) := OWe_c (OWe_wai (OWe_sm (Sm.fr hQ76 rfl) (OWe_sm (Sm.fr hQ3 rfl) (OWe_rf M0))) xh140 (bf_739_46 hP75).1) (by show ((OW M0).1, _ :: (OW M0).2) = ((OW M0).1, _ :: (OW M0).2); congr 2 <;> omega)
          refine wk_al0 r112_59 (wk_cv1 r112_60 kc_739_76 rfl (n8076_739 _ M134 x739_30 v88 T hP135 ((hQ136.at g_739_30 rfl).trans ((hQ76.at g_739_30 rfl).trans ((hQ3.at g_739_30 rfl).trans ex739_30))) (by first | with_reducible assumption | omega) (by first | with_reducible assumption | omega) ((hQ136.at g_739_31 rfl).trans e89) (by first | with_reducible assumption | omega) (by first | with_reducible assumption | omega) (by omega) (TXQ_sm (Sm.fr hQ136 rfl) pr85)) (cqV ?_))
          rintro M147 ⟨hP148, hQ149, h151, h152, h153, h154, h155, xh156, pr157, pr158, pr159⟩
          have hF150 : Fr fm_n8112_739 M0 M147 := hF137.tr hQ149 rfl
          have e160 := ((hQ149.at g_739_30 rfl).trans ((hQ136.at g_739_30 rfl).trans ((hQ76.at g_739_30 rfl).trans ((hQ3.at g_739_30 rfl).trans ex739_30))))
          obtain ⟨v161, e162⟩ : ∃ v, M147 739 31 = v := ⟨_, rfl⟩
          have h163 := (bf_739_31 hP148).1; rw [e162] at h163
          have h164 := (bf_739_31 hP148).2; rw [e162] at h164
          obtain ⟨v165, e166⟩ : ∃ v, M147 739 33 = v := ⟨_, rfl⟩
          have h167 := (bf_739_33 hP148).1; rw [e166] at h167
          have h168 := (bf_739_33 hP148).2; rw [e166] at h168
          obtain ⟨v169, e170⟩ : ∃ v, M147 739 34 = v := ⟨_, rfl⟩
          have h171 := (bf_739_34 hP148).1; rw [e170] at h171
          have h172 := (bf_739_34 hP148).2; rw [e170] at h172
          obtain ⟨v173, e174⟩ : ∃ v, M147 739 32 = v := ⟨_, rfl⟩
          have h175 := (bf_739_32 hP148).1; rw [e174] at h175
          have h176 := (bf_739_32 hP148).2; rw [e174] at h176
          have hn177 := nx_ofm (TTP_sm (Sm.fr hQ136 rfl) pr86) ((hQ136.at g_739_30 rfl).trans ((hQ76.at g_739_30 rfl).trans ((hQ3.at g_739_30 rfl).trans ex739_30))) ((hQ136.at g_739_33 rfl).trans e93) ((hQ136.at g_739_31 rfl).trans e89) xh156
          refine wk_al0 r112_63 (wk_cv1 r112_64 kc_739_62 rfl (n8062_739 _ M147 x739_30 v161 v165 v169 v173 v41 x739_45 v141 x739_47 v45 x739_38 s0 u0 T c0 z0 hP148 ((hQ149.at g_739_30 rfl).trans ((hQ136.at g_739_30 rfl).trans ((hQ76.at g_739_30 rfl).trans ((hQ3.at g_739_30 rfl).trans ex739_30)))) (by first | with_reducible assumption | omega) (by first | with_reducible assumption | omega) e162 (by first | with_reducible assumption | omega) (by first | with_reducible assumption | omega) e166 (by first | with_reducible assumption | omega) (by first | with_reducible assumption | omega) e170 (by first | with_reducible assumption | omega) (by first | with_reducible assumption | omega) e174 (by first | with_reducible assumption | omega) (by first | with_reducible assumption | omega) ((hQ149.at g_739_28 rfl).trans ((hQ136.at g_739_28 rfl).trans ((hQ76.at g_739_28 rfl).trans e42))) (by first | with_reducible assumption | omega) (by first | with_reducible assumption | omega) ((hQ149.at g_739_45 rfl).trans ((hQ136.at g_739_45 rfl).trans ((hQ76.at g_739_45 rfl).trans ((hQ3.at g_739_45 rfl).trans ex739_45)))) (by first | with_reducible assumption | omega) (by first | with_reducible assumption | omega) ((hQ149.at g_739_46 rfl).trans e142) (by first | with_reducible assumption | omega) (by first | with_reducible assumption | omega) ((hQ149.at g_739_47 rfl).trans ((hQ136.at g_739_47 rfl).trans ((hQ76.at g_739_47 rfl).trans ((hQ3.at g_739_47 rfl).trans ex739_47)))) (by first | with_reducible assumption | omega) (by first | with_reducible assumption | omega) ((hQ149.at g_739_29 rfl).trans ((hQ136.at g_739_29 rfl).trans ((hQ76.at g_739_29 rfl).trans e46))) (by first | with_reducible assumption | omega) (by first | with_reducible assumption | omega) ((hQ149.at g_739_38 rfl).trans ((hQ136.at g_739_38 rfl).trans ((hQ76.at g_739_38 rfl).trans ((hQ3.at g_739_38 rfl).trans ex739_38)))) (by first | with_reducible assumption | omega) (by first | with_reducible assumption | omega) (by omega) (by omega) (by omega) (by omega) (by omega) (by omega) (n63x (v2 := v92) r1 (by omega) (by omega) (by omega) (by omega) (by omega) (OWe_sm (Sm.fr hQ149 rfl) pr146)) pr157 (GE_sm (Sm.fr hQ149 rfl) pr145) pr158 pr159) (cqV ?_))
          rintro M178 ⟨hP179, hQ180, h182, h183, h184, h185, h186, h187, h188, h189, h190, h191, h192, h193, h194, h195, h196, xh197, pr198, pr199, pr200, pr201⟩
          have hF181 : Fr fm_n8112_739 M0 M178 := hF150.tr hQ180 rfl
          have e202 := ((hQ180.at g_739_30 rfl).trans ((hQ149.at g_739_30 rfl).trans ((hQ136.at g_739_30 rfl).trans ((hQ76.at g_739_30 rfl).trans ((hQ3.at g_739_30 rfl).trans ex739_30)))))
          have e203 := ((hQ180.at g_739_31 rfl).trans e162)
          have e204 := ((hQ180.at g_739_33 rfl).trans e166)
          have e205 := ((hQ180.at g_739_34 rfl).trans e170)
          have e206 := ((hQ180.at g_739_32 rfl).trans e174)
          obtain ⟨v207, e208⟩ : ∃ v, M178 739 28 = v := ⟨_, rfl⟩
          have h209 := (bf_739_28 hP179).1; rw [e208] at h209
          have h210 := (bf_739_28 hP179).2; rw [e208] at h210
          have e211 := ((hQ180.at g_739_45 rfl).trans ((hQ149.at g_739_45 rfl).trans ((hQ136.at g_739_45 rfl).trans ((hQ76.at g_739_45 rfl).trans ((hQ3.at g_739_45 rfl).trans ex739_45)))))
          have e212 := ((hQ180.at g_739_46 rfl).trans ((hQ149.at g_739_46 rfl).trans e142))
          obtain ⟨v213, e214⟩ : ∃ v, M178 739 47 = v := ⟨_, rfl⟩
          have h215 := (bf_739_47 hP179).1; rw [e214] at h215
          have h216 := (bf_739_47 hP179).2; rw [e214] at h216
          obtain ⟨v217, e218⟩ : ∃ v, M178 739 29 = v := ⟨_, rfl⟩
          have h219 := (bf_739_29 hP179).1; rw [e218] at h219
          have h220 := (bf_739_29 hP179).2; rw [e218] at h220
          refine wk_c1 r112_67 ?_
          subst hQ; exact wk_zret r112_68 (by decide) (⟨rfl, _, rfl, hP179, hF181, by omega, by omega, by have := ((hQ180.at g_739_30 rfl).trans ((hQ149.at g_739_30 rfl).trans ((hQ136.at g_739_30 rfl).trans ((hQ76.at g_739_30 rfl).trans ((hQ3.at g_739_30 rfl).trans ex739_30))))); have := ((hQ180.at g_739_31 rfl).trans e162); omega, by have := ((hQ180.at g_739_31 rfl).trans e162); have := ((hQ180.at g_739_33 rfl).trans e166); have := ((hQ180.at g_739_34 rfl).trans e170); omega, by have := ((hQ180.at g_739_31 rfl).trans e162); have := ((hQ180.at g_739_33 rfl).trans e166); have := ((hQ180.at g_739_34 rfl).trans e170); omega, by have := ((hQ180.at g_739_34 rfl).trans e170); have := ((hQ180.at g_739_32 rfl).trans e174); omega, by have := ((hQ180.at g_739_33 rfl).trans e166); omega, by have := e208; omega, by have := ((hQ180.at g_739_33 rfl).trans e166); have := e214; have := ((hQ180.at g_739_45 rfl).trans ((hQ149.at g_739_45 rfl).trans ((hQ136.at g_739_45 rfl).trans ((hQ76.at g_739_45 rfl).trans ((hQ3.at g_739_45 rfl).trans ex739_45))))); have := ((hQ180.at g_739_46 rfl).trans ((hQ149.at g_739_46 rfl).trans e142)); have := e208; omega, by have := ((hQ180.at g_739_45 rfl).trans ((hQ149.at g_739_45 rfl).trans ((hQ136.at g_739_45 rfl).trans ((hQ76.at g_739_45 rfl).trans ((hQ3.at g_739_45 rfl).trans ex739_45))))); have := ((hQ180.at g_739_46 rfl).trans ((hQ149.at g_739_46 rfl).trans e142)); omega, by have := e214; have := e208; omega, by have := ((hQ180.at g_739_33 rfl).trans e166); have := e208; omega, by have := ((hQ180.at g_739_51 rfl).trans ((hQ149.at g_739_51 rfl).trans ((hQ136.at g_739_51 rfl).trans ((hQ76.at g_739_51 rfl).trans ((hQ3.at g_739_51 rfl).trans ex739_51))))); omega, by have := e218; omega, by have := e218; have := e208; omega, by have := e218; have := e208; omega, by have := ((hQ180.at g_739_51 rfl).trans ((hQ149.at g_739_51 rfl).trans ((hQ136.at g_739_51 rfl).trans ((hQ76.at g_739_51 rfl).trans ((hQ3.at g_739_51 rfl).trans ex739_51))))); have := e208; omega, Or.inl ⟨by omega, by rw [e214, ((hQ180.at g_739_33 rfl).trans e166), e208, e218]; exact RGX_c xh197 (by omega) (by omega) rfl (by omega) (by omega) rfl⟩, pr198, (GH_of0 ((hQ180.at g_739_51 rfl).trans ((hQ149.at g_739_51 rfl).trans ((hQ136.at g_739_51 rfl).trans ((hQ76.at g_739_51 rfl).trans ((hQ3.at g_739_51 rfl).trans ex739_51))))) (by omega) pr199), pr200, pr201⟩)
        · intro h221
          exfalso
          omega
      · intro h222
        clear h113 h114 h115
        refine wk_al0 r112_36 (wk_c1 r112_37 (wk_cv2 r112_38 kc_739_137 rfl (n8137_739 _ M74 1 v41 v92 v45 hP75 (by decide) (by decide) ((hQ76.at g_739_28 rfl).trans e42) (by first | with_reducible assumption | omega) (by first | with_reducible assumption | omega) e93 (by first | with_reducible assumption | omega) (by first | with_reducible assumption | omega) ((hQ76.at g_739_29 rfl).trans e46) (by first | with_reducible assumption | omega) (by first | with_reducible assumption | omega)) (cqV ?_)))
        rintro M223 ⟨hP224, hQ225, h227, h228, h229, h230, h231, xh232⟩
        have hF226 : Fr fm_n8112_739 M0 M223 := hF77.tr hQ225 rfl
        obtain ⟨v233, e234⟩ : ∃ v, M223 739 28 = v := ⟨_, rfl⟩
        have h235 := (bf_739_28 hP224).1; rw [e234] at h235
        have h236 := (bf_739_28 hP224).2; rw [e234] at h236
        obtain ⟨v237, e238⟩ : ∃ v, M223 739 29 = v := ⟨_, rfl⟩
        have h239 := (bf_739_29 hP224).1; rw [e238] at h239
        have h240 := (bf_739_29 hP224).2; rw [e238] at h240
        have pr241 : GE M223 s0 u0 0 0 := GE_mn (Sm.fr hQ225 rfl) (fun q => by have := ((hQ76.at g_739_28 rfl).trans e42); have := e234; omega) (GE_sm (Sm.fr hQ76 rfl) pr49)
        refine wk_al0 r112_41 (wk_cv1 r112_42 kc_739_84 rfl (n8084_739 _ M223 v233 hP224 e234 (by first | with_reducible assumption | omega) (by first | with_reducible assumption | omega)) (cqI ?_))
        rintro v248 M242 ⟨hP243, hQ244, h249, h250, h246, h247⟩
        obtain rfl := Fr.same hQ244
        have e251 := e234
        refine wk_ifne r112_45 ⟨by omega, by omega⟩ ?_ ?_
        · intro h252
          exfalso
          omega
        · intro h253
          refine wk_c1 r112_48 ?_
          subst hQ; exact wk_zret r112_49 (by decide) (⟨rfl, _, rfl, hP224, hF226, by omega, by omega, by have := ((hQ225.at g_739_30 rfl).trans ((hQ76.at g_739_30 rfl).trans ((hQ3.at g_739_30 rfl).trans ex739_30))); have := ((hQ225.at g_739_31 rfl).trans e89); omega, by have := ((hQ225.at g_739_31 rfl).trans e89); have := ((hQ225.at g_739_33 rfl).trans e93); have := ((hQ225.at g_739_34 rfl).trans e97); omega, by have := ((hQ225.at g_739_31 rfl).trans e89); have := ((hQ225.at g_739_33 rfl).trans e93); have := ((hQ225.at g_739_34 rfl).trans e97); omega, by have := ((hQ225.at g_739_34 rfl).trans e97); have := ((hQ225.at g_739_32 rfl).trans e101); omega, by have := ((hQ225.at g_739_33 rfl).trans e93); omega, by have := e234; omega, by have := ((hQ225.at g_739_33 rfl).trans e93); have := ((hQ225.at g_739_47 rfl).trans ((hQ76.at g_739_47 rfl).trans ((hQ3.at g_739_47 rfl).trans ex739_47))); have := ((hQ225.at g_739_45 rfl).trans ((hQ76.at g_739_45 rfl).trans ((hQ3.at g_739_45 rfl).trans ex739_45))); have := ((hQ225.at g_739_46 rfl).trans ((hQ76.at g_739_46 rfl).trans ((hQ3.at g_739_46 rfl).trans ex739_46))); have := e234; omega, by have := ((hQ225.at g_739_45 rfl).trans ((hQ76.at g_739_45 rfl).trans ((hQ3.at g_739_45 rfl).trans ex739_45))); have := ((hQ225.at g_739_46 rfl).trans ((hQ76.at g_739_46 rfl).trans ((hQ3.at g_739_46 rfl).trans ex739_46))); omega, by have := ((hQ225.at g_739_47 rfl).trans ((hQ76.at g_739_47 rfl).trans ((hQ3.at g_739_47 rfl).trans ex739_47))); have := e234; omega, by have := ((hQ225.at g_739_33 rfl).trans e93); have := e234; omega, by have := ((hQ225.at g_739_51 rfl).trans ((hQ76.at g_739_51 rfl).trans ((hQ3.at g_739_51 rfl).trans ex739_51))); omega, by have := e238; omega, by have := e238; have := e234; omega, by have := e238; have := e234; omega, by have := ((hQ225.at g_739_51 rfl).trans ((hQ76.at g_739_51 rfl).trans ((hQ3.at g_739_51 rfl).trans ex739_51))); have := e234; omega, Or.inr ⟨by omega, by rw [((hQ225.at g_739_47 rfl).trans ((hQ76.at g_739_47 rfl).trans ((hQ3.at g_739_47 rfl).trans ex739_47))), ((hQ225.at g_739_33 rfl).trans e93), e234, e238]; exact RGX_f (n49 (v2 := v92) r1.r (by omega) (by omega) (by omega) (by omega) (by omega)) (by omega)⟩, (TK_sm (Sm.fr hQ225 rfl) pr84), (GH_vac e234 (by omega)), (TXQ_sm (Sm.fr hQ225 rfl) pr85), (TTP_sm (Sm.fr hQ225 rfl) pr86)⟩)
def fm_n8114_739 : Nat := 3198183334179513849174334711124306039004150098954425584320512
set_option maxHeartbeats 20000000 in
/-- IslandHallModel.number -/
theorem n8114_739 {B : eB} (d : Nat) (M0 : Mm) (p1 : Int) (p2 : Int) (x739_30 : Int) (x739_31 : Int) (x739_33 : Int) (x739_34 : Int) (x739_32 : Int) (x739_28 : Int) (x739_35 : Int) (x739_29 : Int) (T : Int → Int) (hP0 : Pw M0) (l1 : 0 ≤ p1) (u1 : p1 ≤ 1) (l2 : 1 ≤ p2) (u2 : p2 ≤ 99) (ex739_30 : M0 739 30 = x739_30) (lx739_30 : 0 ≤ x739_30) (ux739_30 : x739_30 ≤ 500) (ex739_31 : M0 739 31 = x739_31) (lx739_31 : 0 ≤ x739_31) (ux739_31 : x739_31 ≤ 500) (ex739_33 : M0 739 33 = x739_33) (lx739_33 : 0 ≤ x739_33) (ux739_33 : x739_33 ≤ 500) (ex739_34 : M0 739 34 = x739_34) (lx739_34 : 0 ≤ x739_34) (ux739_34 : x739_34 ≤ 500) (ex739_32 : M0 739 32 = x739_32) (lx739_32 : 0 ≤ x739_32) (ux739_32 : x739_32 ≤ 4) (ex739_28 : M0 739 28 = x739_28) (lx739_28 : 0 ≤ x739_28) (ux739_28 : x739_28 ≤ 6) (ex739_35 : M0 739 35 = x739_35) (lx739_35 : 0 ≤ x739_35) (ux739_35 : x739_35 ≤ 999) (ex739_29 : M0 739 29 = x739_29) (lx739_29 : (-1) ≤ x739_29) (ux739_29 : x739_29 ≤ 501) (rp0 : 0 ≤ x739_30 + (-1) * x739_31) (rp1 : 0 ≤ x739_31 + (-1) * x739_33 + (-1) * x739_34) (rp2 : 0 ≤ (-1) * x739_31 + x739_33 + x739_34) (rp3 : 0 ≤ 4 * x739_34 + (-1) * x739_32) (pp_TK : TK M0) (pp_TQ : TXQ T M0) (pp_TT : TTP T M0) : Ct B (d + 3) 114 [R 739, I p1, I p2] M0 (qI fun z M => Pw M ∧ Fr fm_n8114_739 M0 M ∧ 0 ≤ z ∧ z ≤ 999 ∧ 0 ≤ M 739 30 + (-1) * (M 739 31) ∧ 0 ≤ M 739 31 + (-1) * (M 739 33) + (-1) * (M 739 34) ∧ 0 ≤ (-1) * (M 739 31) + M 739 33 + M 739 34 ∧ 0 ≤ 4 * (M 739 34) + (-1) * (M 739 32) ∧ 0 ≤ M 739 33 + (-1) * x739_33 ∧ 0 ≤ M 739 28 + (-1) * x739_28 ∧ 0 ≤ M 739 33 + (-1) * x739_33 + M 739 28 + (-1) ∧ 0 ≤ p2 + 999 * (M 739 28) + (-1) * z ∧ 0 ≤ z + (-1) * p1 + 999 * (M 739 28) ∧ 0 ≤ M 739 29 + 1 ∧ 0 ≤ M 739 29 + (-1) * x739_29 + 3000 * (M 739 28) ∧ 0 ≤ (-1) * (M 739 29) + x739_29 + 3000 * (M 739 28) ∧ ((x739_28 = 0 ∧ nuE T x739_30 x739_33 p1 p2 = 0 ∧ M 739 28 = 0 ∧ M 739 29 = x739_29 ∧ M 739 33 = nx T x739_30 x739_33 ∧ x739_33 + 1 ≤ M 739 33 ∧ z = vlI T x739_30 x739_33) ∨ (x739_28 = 0 ∧ nuE T x739_30 x739_33 p1 p2 ≠ 0 ∧ M 739 28 = nuE T x739_30 x739_33 p1 p2 ∧ M 739 29 = x739_33) ∨ (x739_28 ≠ 0 ∧ M 739 28 = x739_28 ∧ M 739 29 = x739_29)) ∧ (TK M) ∧ (TXQ T M) ∧ (TTP T M)) := by
  refine ct_of (d := d + 2) (k := 1) (L := [some (R 739), some (I p1), some (I p2), none]) rfl rfl rfl ?_
  have hF0 := Fr.rf fm_n8114_739 M0
  generalize hQ : (qI fun z M => Pw M ∧ Fr fm_n8114_739 M0 M ∧ 0 ≤ z ∧ z ≤ 999 ∧ 0 ≤ M 739 30 + (-1) * (M 739 31) ∧ 0 ≤ M 739 31 + (-1) * (M 739 33) + (-1) * (M 739 34) ∧ 0 ≤ (-1) * (M 739 31) + M 739 33 + M 739 34 ∧ 0 ≤ 4 * (M 739 34) + (-1) * (M 739 32) ∧ 0 ≤ M 739 33 + (-1) * x739_33 ∧ 0 ≤ M 739 28 + (-1) * x739_28 ∧ 0 ≤ M 739 33 + (-1) * x739_33 + M 739 28 + (-1) ∧ 0 ≤ p2 + 999 * (M 739 28) + (-1) * z ∧ 0 ≤ z + (-1) * p1 + 999 * (M 739 28) ∧ 0 ≤ M 739 29 + 1 ∧ 0 ≤ M 739 29 + (-1) * x739_29 + 3000 * (M 739 28) ∧ 0 ≤ (-1) * (M 739 29) + x739_29 + 3000 * (M 739 28) ∧ ((x739_28 = 0 ∧ nuE T x739_30 x739_33 p1 p2 = 0 ∧ M 739 28 = 0 ∧ M 739 29 = x739_29 ∧ M 739 33 = nx T x739_30 x739_33 ∧ x739_33 + 1 ≤ M 739 33 ∧ z = vlI T x739_30 x739_33) ∨ (x739_28 = 0 ∧ nuE T x739_30 x739_33 p1 p2 ≠ 0 ∧ M 739 28 = nuE T x739_30 x739_33 p1 p2 ∧ M 739 29 = x739_33) ∨ (x739_28 ≠ 0 ∧ M 739 28 = x739_28 ∧ M 739 29 = x739_29)) ∧ (TK M) ∧ (TXQ T M) ∧ (TTP T M)) = Q
  have hTT := pp_TT
  unfold TTP at hTT
  rw [ex739_30, ex739_33] at hTT
  have hlt := tt_lt T x739_30 x739_33
  have hvc := vlI_c T x739_30 x739_33
  have hv9 : M0 739 32 = 2 → M0 739 34 ≤ 3 → M0 739 35 = vlI T x739_30 x739_33 := fun q1 q2 => by have q3 := hTT.2.2.2.2.2.1 q1 q2; rw [show (M0 739 34).toNat = (ee T x739_30 x739_33 - x739_33).toNat by omega] at q3; omega
  refine wk_al0 r114_0 (wk_cv1 r114_1 kc_739_84 rfl (n8084_739 _ M0 x739_28 hP0 ex739_28 (by first | with_reducible assumption | omega) (by first | with_reducible assumption | omega)) (cqI ?_))
  rintro v7 M1 ⟨hP2, hQ3, h8, h9, h5, h6⟩
  obtain rfl := Fr.same hQ3
  have e10 := ex739_28
  refine wk_ifne r114_4 ⟨by omega, by omega⟩ ?_ ?_
  · intro h11
    refine wk_al0 r114_9 (wk_getfi r114_10 fd_739_32 ex739_32 (wk_c1 r114_13 ?_))
    refine wk_iceq r114_14 ⟨by omega, by omega⟩ (by decide) ?_ ?_
    · intro h12
      refine wk_al0 r114_25 (wk_getfi r114_26 fd_739_34 ex739_34 (wk_c1 r114_29 ?_))
      refine wk_icgt r114_30 ⟨by omega, by omega⟩ (by decide) ?_ ?_
      · intro h13
        refine wk_al0 r114_49 (wk_c1 r114_50 (wk_cv2 r114_51 kc_739_137 rfl (n8137_739 _ M0 2 x739_28 x739_33 x739_29 hP0 (by decide) (by decide) ex739_28 (by first | with_reducible assumption | omega) (by first | with_reducible assumption | omega) ex739_33 (by first | with_reducible assumption | omega) (by first | with_reducible assumption | omega) ex739_29 (by first | with_reducible assumption | omega) (by first | with_reducible assumption | omega)) (cqV ?_)))
        rintro M14 ⟨hP15, hQ16, h18, h19, h20, h21, h22, xh23⟩
        have hF17 : Fr fm_n8114_739 M0 M14 := hF0.tr hQ16 rfl
        obtain ⟨v24, e25⟩ : ∃ v, M14 739 28 = v := ⟨_, rfl⟩
        have h26 := (bf_739_28 hP15).1; rw [e25] at h26
        have h27 := (bf_739_28 hP15).2; rw [e25] at h27
        obtain ⟨v28, e29⟩ : ∃ v, M14 739 29 = v := ⟨_, rfl⟩
        have h30 := (bf_739_29 hP15).1; rw [e29] at h30
        have h31 := (bf_739_29 hP15).2; rw [e29] at h31
        refine wk_al0 r114_54 (wk_getfi r114_55 fd_739_35 ((hQ16.at g_739_35 rfl).trans ex739_35) (wk_is3 r114_58 rfl (wk_al0 r114_59 (wk_cv1 r114_60 kc_739_84 rfl (n8084_739 _ M14 v24 hP15 e25 (by first | with_reducible assumption | omega) (by first | with_reducible assumption | omega)) (cqI ?_)))))
        rintro v38 M32 ⟨hP33, hQ34, h39, h40, h36, h37⟩
        obtain rfl := Fr.same hQ34
        have e41 := e25
        refine wk_ifeq r114_63 ⟨by omega, by omega⟩ ?_ ?_
        · intro h42
          refine wk_il3 r114_70 ?_
          subst hQ; exact wk_iret r114_71 (⟨rfl, _, rfl, hP15, hF17, by omega, by omega, by have := ((hQ16.at g_739_30 rfl).trans ex739_30); have := ((hQ16.at g_739_31 rfl).trans ex739_31); omega, by have := ((hQ16.at g_739_31 rfl).trans ex739_31); have := ((hQ16.at g_739_33 rfl).trans ex739_33); have := ((hQ16.at g_739_34 rfl).trans ex739_34); omega, by have := ((hQ16.at g_739_31 rfl).trans ex739_31); have := ((hQ16.at g_739_33 rfl).trans ex739_33); have := ((hQ16.at g_739_34 rfl).trans ex739_34); omega, by have := ((hQ16.at g_739_34 rfl).trans ex739_34); have := ((hQ16.at g_739_32 rfl).trans ex739_32); omega, by have := ((hQ16.at g_739_33 rfl).trans ex739_33); omega, by have := e25; omega, by have := ((hQ16.at g_739_33 rfl).trans ex739_33); have := e25; omega, by have := e25; omega, by have := e25; omega, by have := e29; omega, by have := e29; have := e25; omega, by have := e29; have := e25; omega, Or.inr (Or.inl ⟨by omega, by have := ((hQ16.at g_739_33 rfl).trans ex739_33); have := e25; have := e29; have := nuE_c T x739_30 x739_33 p1 p2; omega, by have := ((hQ16.at g_739_33 rfl).trans ex739_33); have := e25; have := e29; have := nuE_c T x739_30 x739_33 p1 p2; omega, by have := ((hQ16.at g_739_33 rfl).trans ex739_33); have := e25; have := e29; omega⟩), (TK_sm (Sm.fr hQ16 rfl) pp_TK), (TXQ_sm (Sm.fr hQ16 rfl) pp_TQ), (TTP_sm (Sm.fr hQ16 rfl) pp_TT)⟩)
        · intro h43
          exfalso
          omega
      · intro h44
        refine wk_al0 r114_33 (wk_getfi r114_34 fd_739_35 ex739_35 (wk_il1 r114_37 ?_))
        refine wk_iclt r114_38 ⟨by omega, by omega⟩ ⟨by omega, by omega⟩ ?_ ?_
        · intro h45
          refine wk_al0 r114_49 (wk_c1 r114_50 (wk_cv2 r114_51 kc_739_137 rfl (n8137_739 _ M0 2 x739_28 x739_33 x739_29 hP0 (by decide) (by decide) ex739_28 (by first | with_reducible assumption | omega) (by first | with_reducible assumption | omega) ex739_33 (by first | with_reducible assumption | omega) (by first | with_reducible assumption | omega) ex739_29 (by first | with_reducible assumption | omega) (by first | with_reducible assumption | omega)) (cqV ?_)))
          rintro M46 ⟨hP47, hQ48, h50, h51, h52, h53, h54, xh55⟩
          have hF49 : Fr fm_n8114_739 M0 M46 := hF0.tr hQ48 rfl
          obtain ⟨v56, e57⟩ : ∃ v, M46 739 28 = v := ⟨_, rfl⟩
          have h58 := (bf_739_28 hP47).1; rw [e57] at h58
          have h59 := (bf_739_28 hP47).2; rw [e57] at h59
          obtain ⟨v60, e61⟩ : ∃ v, M46 739 29 = v := ⟨_, rfl⟩
          have h62 := (bf_739_29 hP47).1; rw [e61] at h62
          have h63 := (bf_739_29 hP47).2; rw [e61] at h63
          refine wk_al0 r114_54 (wk_getfi r114_55 fd_739_35 ((hQ48.at g_739_35 rfl).trans ex739_35) (wk_is3 r114_58 rfl (wk_al0 r114_59 (wk_cv1 r114_60 kc_739_84 rfl (n8084_739 _ M46 v56 hP47 e57 (by first | with_reducible assumption | omega) (by first | with_reducible assumption | omega)) (cqI ?_)))))
          rintro v70 M64 ⟨hP65, hQ66, h71, h72, h68, h69⟩
          obtain rfl := Fr.same hQ66
          have e73 := e57
          refine wk_ifeq r114_63 ⟨by omega, by omega⟩ ?_ ?_
          · intro h74
            refine wk_il3 r114_70 ?_
            subst hQ; exact wk_iret r114_71 (⟨rfl, _, rfl, hP47, hF49, by omega, by omega, by have := ((hQ48.at g_739_30 rfl).trans ex739_30); have := ((hQ48.at g_739_31 rfl).trans ex739_31); omega, by have := ((hQ48.at g_739_31 rfl).trans ex739_31); have := ((hQ48.at g_739_33 rfl).trans ex739_33); have := ((hQ48.at g_739_34 rfl).trans ex739_34); omega, by have := ((hQ48.at g_739_31 rfl).trans ex739_31); have := ((hQ48.at g_739_33 rfl).trans ex739_33); have := ((hQ48.at g_739_34 rfl).trans ex739_34); omega, by have := ((hQ48.at g_739_34 rfl).trans ex739_34); have := ((hQ48.at g_739_32 rfl).trans ex739_32); omega, by have := ((hQ48.at g_739_33 rfl).trans ex739_33); omega, by have := e57; omega, by have := ((hQ48.at g_739_33 rfl).trans ex739_33); have := e57; omega, by have := e57; omega, by have := e57; omega, by have := e61; omega, by have := e61; have := e57; omega, by have := e61; have := e57; omega, Or.inr (Or.inl ⟨by omega, by have := ((hQ48.at g_739_33 rfl).trans ex739_33); have := e57; have := e61; have := nuE_c T x739_30 x739_33 p1 p2; omega, by have := ((hQ48.at g_739_33 rfl).trans ex739_33); have := e57; have := e61; have := nuE_c T x739_30 x739_33 p1 p2; omega, by have := ((hQ48.at g_739_33 rfl).trans ex739_33); have := e57; have := e61; omega⟩), (TK_sm (Sm.fr hQ48 rfl) pp_TK), (TXQ_sm (Sm.fr hQ48 rfl) pp_TQ), (TTP_sm (Sm.fr hQ48 rfl) pp_TT)⟩)
          · intro h75
            exfalso
            omega
        · intro h76
          refine wk_al0 r114_41 (wk_getfi r114_42 fd_739_35 ex739_35 (wk_il2 r114_45 ?_))
          refine wk_icle r114_46 ⟨by omega, by omega⟩ ⟨by omega, by omega⟩ ?_ ?_
          · intro h77
            refine wk_al0 r114_54 (wk_getfi r114_55 fd_739_35 ex739_35 (wk_is3 r114_58 rfl (wk_al0 r114_59 (wk_cv1 r114_60 kc_739_84 rfl (n8084_739 _ M0 x739_28 hP0 ex739_28 (by first | with_reducible assumption | omega) (by first | with_reducible assumption | omega)) (cqI ?_)))))
            rintro v84 M78 ⟨hP79, hQ80, h85, h86, h82, h83⟩
            obtain rfl := Fr.same hQ80
            have e87 := ex739_28
            refine wk_ifeq r114_63 ⟨by omega, by omega⟩ ?_ ?_
            · intro h88
              exfalso
              omega
            · intro h89
              refine wk_al0 r114_66 (wk_cv1 r114_67 kc_739_76 rfl (n8076_739 _ M0 x739_30 x739_31 T hP0 ex739_30 (by first | with_reducible assumption | omega) (by first | with_reducible assumption | omega) ex739_31 (by first | with_reducible assumption | omega) (by first | with_reducible assumption | omega) (by omega) pp_TQ) (cqV ?_))
              rintro M90 ⟨hP91, hQ92, h94, h95, h96, h97, h98, xh99, pr100, pr101, pr102⟩
              have hF93 : Fr fm_n8114_739 M0 M90 := hF0.tr hQ92 rfl
              have e103 := ((hQ92.at g_739_30 rfl).trans ex739_30)
              obtain ⟨v104, e105⟩ : ∃ v, M90 739 31 = v := ⟨_, rfl⟩
              have h106 := (bf_739_31 hP91).1; rw [e105] at h106
              have h107 := (bf_739_31 hP91).2; rw [e105] at h107
              obtain ⟨v108, e109⟩ : ∃ v, M90 739 33 = v := ⟨_, rfl⟩
              have h110 := (bf_739_33 hP91).1; rw [e109] at h110
              have h111 := (bf_739_33 hP91).2; rw [e109] at h111
              obtain ⟨v112, e113⟩ : ∃ v, M90 739 34 = v := ⟨_, rfl⟩
              have h114 := (bf_739_34 hP91).1; rw [e113] at h114
              have h115 := (bf_739_34 hP91).2; rw [e113] at h115
              obtain ⟨v116, e117⟩ : ∃ v, M90 739 32 = v := ⟨_, rfl⟩
              have h118 := (bf_739_32 hP91).1; rw [e117] at h118
              have h119 := (bf_739_32 hP91).2; rw [e117] at h119
              have hn120 := nx_ofm pp_TT ex739_30 ex739_33 ex739_31 xh99
              refine wk_il3 r114_70 ?_
              subst hQ; exact wk_iret r114_71 (⟨rfl, _, rfl, hP91, hF93, by omega, by omega, by have := ((hQ92.at g_739_30 rfl).trans ex739_30); have := e105; omega, by have := e105; have := e109; have := e113; omega, by have := e105; have := e109; have := e113; omega, by have := e113; have := e117; omega, by have := e109; omega, by have := ((hQ92.at g_739_28 rfl).trans ex739_28); omega, by have := e109; have := ((hQ92.at g_739_28 rfl).trans ex739_28); omega, by have := ((hQ92.at g_739_28 rfl).trans ex739_28); omega, by have := ((hQ92.at g_739_28 rfl).trans ex739_28); omega, by have := ((hQ92.at g_739_29 rfl).trans ex739_29); omega, by have := ((hQ92.at g_739_29 rfl).trans ex739_29); have := ((hQ92.at g_739_28 rfl).trans ex739_28); omega, by have := ((hQ92.at g_739_29 rfl).trans ex739_29); have := ((hQ92.at g_739_28 rfl).trans ex739_28); omega, Or.inl ⟨by omega, by have := e109; have := ((hQ92.at g_739_28 rfl).trans ex739_28); have := ((hQ92.at g_739_29 rfl).trans ex739_29); have := nuE_c T x739_30 x739_33 p1 p2; omega, by have := e109; have := ((hQ92.at g_739_28 rfl).trans ex739_28); have := ((hQ92.at g_739_29 rfl).trans ex739_29); omega, by have := e109; have := ((hQ92.at g_739_28 rfl).trans ex739_28); have := ((hQ92.at g_739_29 rfl).trans ex739_29); omega, by have := e109; have := ((hQ92.at g_739_28 rfl).trans ex739_28); have := ((hQ92.at g_739_29 rfl).trans ex739_29); omega, by have := e109; have := ((hQ92.at g_739_28 rfl).trans ex739_28); have := ((hQ92.at g_739_29 rfl).trans ex739_29); have := nuE_c T x739_30 x739_33 p1 p2; have := tt_lt T x739_30 x739_33; have := nx_lt (T := T) (n := x739_30) (s := x739_33) (by omega); omega, by have := e109; have := ((hQ92.at g_739_28 rfl).trans ex739_28); have := ((hQ92.at g_739_29 rfl).trans ex739_29); have := nuE_c T x739_30 x739_33 p1 p2; omega⟩, pr100, pr101, pr102⟩)
          · intro h121
            refine wk_al0 r114_49 (wk_c1 r114_50 (wk_cv2 r114_51 kc_739_137 rfl (n8137_739 _ M0 2 x739_28 x739_33 x739_29 hP0 (by decide) (by decide) ex739_28 (by first | with_reducible assumption | omega) (by first | with_reducible assumption | omega) ex739_33 (by first | with_reducible assumption | omega) (by first | with_reducible assumption | omega) ex739_29 (by first | with_reducible assumption | omega) (by first | with_reducible assumption | omega)) (cqV ?_)))
            rintro M122 ⟨hP123, hQ124, h126, h127, h128, h129, h130, xh131⟩
            have hF125 : Fr fm_n8114_739 M0 M122 := hF0.tr hQ124 rfl
            obtain ⟨v132, e133⟩ : ∃ v, M122 739 28 = v := ⟨_, rfl⟩
            have h134 := (bf_739_28 hP123).1; rw [e133] at h134
            have h135 := (bf_739_28 hP123).2; rw [e133] at h135
            obtain ⟨v136, e137⟩ : ∃ v, M122 739 29 = v := ⟨_, rfl⟩
            have h138 := (bf_739_29 hP123).1; rw [e137] at h138
            have h139 := (bf_739_29 hP123).2; rw [e137] at h139
            refine wk_al0 r114_54 (wk_getfi r114_55 fd_739_35 ((hQ124.at g_739_35 rfl).trans ex739_35) (wk_is3 r114_58 rfl (wk_al0 r114_59 (wk_cv1 r114_60 kc_739_84 rfl (n8084_739 _ M122 v132 hP123 e133 (by first | with_reducible assumption | omega) (by first | with_reducible assumption | omega)) (cqI ?_)))))
            rintro v146 M140 ⟨hP141, hQ142, h147, h148, h144, h145⟩
            obtain rfl := Fr.same hQ142
            have e149 := e133
            refine wk_ifeq r114_63 ⟨by omega, by omega⟩ ?_ ?_
            · intro h150
              refine wk_il3 r114_70 ?_
              subst hQ; exact wk_iret r114_71 (⟨rfl, _, rfl, hP123, hF125, by omega, by omega, by have := ((hQ124.at g_739_30 rfl).trans ex739_30); have := ((hQ124.at g_739_31 rfl).trans ex739_31); omega, by have := ((hQ124.at g_739_31 rfl).trans ex739_31); have := ((hQ124.at g_739_33 rfl).trans ex739_33); have := ((hQ124.at g_739_34 rfl).trans ex739_34); omega, by have := ((hQ124.at g_739_31 rfl).trans ex739_31); have := ((hQ124.at g_739_33 rfl).trans ex739_33); have := ((hQ124.at g_739_34 rfl).trans ex739_34); omega, by have := ((hQ124.at g_739_34 rfl).trans ex739_34); have := ((hQ124.at g_739_32 rfl).trans ex739_32); omega, by have := ((hQ124.at g_739_33 rfl).trans ex739_33); omega, by have := e133; omega, by have := ((hQ124.at g_739_33 rfl).trans ex739_33); have := e133; omega, by have := e133; omega, by have := e133; omega, by have := e137; omega, by have := e137; have := e133; omega, by have := e137; have := e133; omega, Or.inr (Or.inl ⟨by omega, by have := ((hQ124.at g_739_33 rfl).trans ex739_33); have := e133; have := e137; have := nuE_c T x739_30 x739_33 p1 p2; omega, by have := ((hQ124.at g_739_33 rfl).trans ex739_33); have := e133; have := e137; have := nuE_c T x739_30 x739_33 p1 p2; omega, by have := ((hQ124.at g_739_33 rfl).trans ex739_33); have := e133; have := e137; omega⟩), (TK_sm (Sm.fr hQ124 rfl) pp_TK), (TXQ_sm (Sm.fr hQ124 rfl) pp_TQ), (TTP_sm (Sm.fr hQ124 rfl) pp_TT)⟩)
            · intro h151
              exfalso
              omega
    · intro h152
      refine wk_al0 r114_17 (wk_c1 r114_18 (wk_cv2 r114_19 kc_739_137 rfl (n8137_739 _ M0 1 x739_28 x739_33 x739_29 hP0 (by decide) (by decide) ex739_28 (by first | with_reducible assumption | omega) (by first | with_reducible assumption | omega) ex739_33 (by first | with_reducible assumption | omega) (by first | with_reducible assumption | omega) ex739_29 (by first | with_reducible assumption | omega) (by first | with_reducible assumption | omega)) (cqV ?_)))
      rintro M153 ⟨hP154, hQ155, h157, h158, h159, h160, h161, xh162⟩
      have hF156 : Fr fm_n8114_739 M0 M153 := hF0.tr hQ155 rfl
      obtain ⟨v163, e164⟩ : ∃ v, M153 739 28 = v := ⟨_, rfl⟩
      have h165 := (bf_739_28 hP154).1; rw [e164] at h165
      have h166 := (bf_739_28 hP154).2; rw [e164] at h166
      obtain ⟨v167, e168⟩ : ∃ v, M153 739 29 = v := ⟨_, rfl⟩
      have h169 := (bf_739_29 hP154).1; rw [e168] at h169
      have h170 := (bf_739_29 hP154).2; rw [e168] at h170
      refine wk_goto r114_22 (wk_al0 r114_54 (wk_getfi r114_55 fd_739_35 ((hQ155.at g_739_35 rfl).trans ex739_35) (wk_is3 r114_58 rfl (wk_al0 r114_59 (wk_cv1 r114_60 kc_739_84 rfl (n8084_739 _ M153 v163 hP154 e164 (by first | with_reducible assumption | omega) (by first | with_reducible assumption | omega)) (cqI ?_))))))
      rintro v177 M171 ⟨hP172, hQ173, h178, h179, h175, h176⟩
      obtain rfl := Fr.same hQ173
      have e180 := e164
      refine wk_ifeq r114_63 ⟨by omega, by omega⟩ ?_ ?_
      · intro h181
        refine wk_il3 r114_70 ?_
        subst hQ; exact wk_iret r114_71 (⟨rfl, _, rfl, hP154, hF156, by omega, by omega, by have := ((hQ155.at g_739_30 rfl).trans ex739_30); have := ((hQ155.at g_739_31 rfl).trans ex739_31); omega, by have := ((hQ155.at g_739_31 rfl).trans ex739_31); have := ((hQ155.at g_739_33 rfl).trans ex739_33); have := ((hQ155.at g_739_34 rfl).trans ex739_34); omega, by have := ((hQ155.at g_739_31 rfl).trans ex739_31); have := ((hQ155.at g_739_33 rfl).trans ex739_33); have := ((hQ155.at g_739_34 rfl).trans ex739_34); omega, by have := ((hQ155.at g_739_34 rfl).trans ex739_34); have := ((hQ155.at g_739_32 rfl).trans ex739_32); omega, by have := ((hQ155.at g_739_33 rfl).trans ex739_33); omega, by have := e164; omega, by have := ((hQ155.at g_739_33 rfl).trans ex739_33); have := e164; omega, by have := e164; omega, by have := e164; omega, by have := e168; omega, by have := e168; have := e164; omega, by have := e168; have := e164; omega, Or.inr (Or.inl ⟨by omega, by have := ((hQ155.at g_739_33 rfl).trans ex739_33); have := e164; have := e168; have := nuE_c T x739_30 x739_33 p1 p2; omega, by have := ((hQ155.at g_739_33 rfl).trans ex739_33); have := e164; have := e168; have := nuE_c T x739_30 x739_33 p1 p2; omega, by have := ((hQ155.at g_739_33 rfl).trans ex739_33); have := e164; have := e168; omega⟩), (TK_sm (Sm.fr hQ155 rfl) pp_TK), (TXQ_sm (Sm.fr hQ155 rfl) pp_TQ), (TTP_sm (Sm.fr hQ155 rfl) pp_TT)⟩)
      · intro h182
        exfalso
        omega
  · intro h183
    refine wk_c1 r114_7 ?_
    subst hQ; exact wk_iret r114_8 (⟨rfl, _, rfl, hP0, hF0, by omega, by omega, by have := ex739_30; have := ex739_31; omega, by have := ex739_31; have := ex739_33; have := ex739_34; omega, by have := ex739_31; have := ex739_33; have := ex739_34; omega, by have := ex739_34; have := ex739_32; omega, by have := ex739_33; omega, by have := ex739_28; omega, by have := ex739_33; have := ex739_28; omega, by have := ex739_28; omega, by have := ex739_28; omega, by have := ex739_29; omega, by have := ex739_29; have := ex739_28; omega, by have := ex739_29; have := ex739_28; omega, Or.inr (Or.inr ⟨by omega, by have := ex739_33; have := ex739_28; have := ex739_29; omega, by have := ex739_33; have := ex739_28; have := ex739_29; omega⟩), pp_TK, pp_TQ, pp_TT⟩)
def fm_n8047_739 : Nat := 452312848583680962695988641214575056682186339532443141395638536922332135424
