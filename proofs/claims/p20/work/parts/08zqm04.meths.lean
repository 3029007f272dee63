/-! ===== written by program (wip/layer4) ===== -/
def fm_m8133_739 : Nat := 904625697167355529025308923401451764694950430452808274491079164993495629824
/-- IslandHallModel.waitsFor -/
theorem m8133_739 {B : eB} (d : Nat) (M0 : Mm) (p1 : Int) (p2 : Int) (x739_46 : Int) (hP0 : Pw M0) (l1 : 10 ≤ p1) (u1 : p1 ≤ 14) (l2 : 0 ≤ p2) (u2 : p2 ≤ 7) (ex739_46 : M0 739 46 = x739_46) (lx739_46 : 0 ≤ x739_46) (ux739_46 : x739_46 ≤ 519) : Ct B (d + 1) 133 [R 739, I p1, I p2] M0 (qV fun M => Pw M ∧ Fr fm_m8133_739 M0 M ∧ 0 ≤ M 739 46 + (-1) * x739_46 + (-1) ∧ 0 ≤ (-1) * (M 739 46) + x739_46 + 1 ∧ (WAI M0 M (p1 + 16 * p2))) := by
  refine ct_of (d := d + 0) (k := 0) (L := [some (R 739), some (I p1), some (I p2)]) rfl rfl rfl ?_
  have hF0 := Fr.rf fm_m8133_739 M0
  generalize hQ : (qV fun M => Pw M ∧ Fr fm_m8133_739 M0 M ∧ 0 ≤ M 739 46 + (-1) * x739_46 + (-1) ∧ 0 ≤ (-1) * (M 739 46) + x739_46 + 1 ∧ (WAI M0 M (p1 + 16 * p2))) = Q
  refine wk_al0 r133_0 (wk_getfr r133_1 fd_739_50 (br_739_50 hP0) (wk_al0 r133_4 (wk_getfi r133_5 fd_739_46 ex739_46 (wk_il1 r133_8 (wk_c2 r133_9 (wk_il2 r133_11 (wk_imul r133_12 (wk_iadd r133_13 (wk_iast r133_14 ar_758 ⟨by omega, by omega⟩ (wk_nw (ga_758 _) rfl hP0 hF0 (ua_758 ⟨by omega, by omega⟩) ?_))))))))))
  intro M1 hP2 hF3 e4
  refine wk_al0 r133_15 (wk_dupr r133_16 (wk_getfi r133_17 fd_739_46 (mUp_no e4 ex739_46 (Or.inl (by decide))) (wk_c1 r133_20 (wk_iadd r133_21 (wk_putfi81 r133_22 fd_739_46 (wk_nw g_739_46 rfl hP2 hF3 (uf_739_46 ⟨by omega, by omega⟩) ?_))))))
  intro M5 hP6 hF7 e8
  subst hQ; exact wk_ret r133_25 (⟨rfl, hP6, hF7, by have := (mUp_at e8); omega, by have := (mUp_at e8); omega, wai_mk ex739_46 e4 e8 (by omega)⟩)
def fm_m8111_739 : Nat := 3198183334179513849174334711124306039004150098954425584320512
set_option maxHeartbeats 20000000 in
/-- IslandHallModel.name -/
theorem m8111_739 {B : eB} (d : Nat) (M0 : Mm) (x739_30 : Int) (x739_31 : Int) (x739_33 : Int) (x739_34 : Int) (x739_32 : Int) (x739_28 : Int) (x739_38 : Int) (x739_36 : Int) (x739_29 : Int) (T : Int → Int) (hP0 : Pw M0) (ex739_30 : M0 739 30 = x739_30) (lx739_30 : 0 ≤ x739_30) (ux739_30 : x739_30 ≤ 500) (ex739_31 : M0 739 31 = x739_31) (lx739_31 : 0 ≤ x739_31) (ux739_31 : x739_31 ≤ 500) (ex739_33 : M0 739 33 = x739_33) (lx739_33 : 0 ≤ x739_33) (ux739_33 : x739_33 ≤ 500) (ex739_34 : M0 739 34 = x739_34) (lx739_34 : 0 ≤ x739_34) (ux739_34 : x739_34 ≤ 500) (ex739_32 : M0 739 32 = x739_32) (lx739_32 : 0 ≤ x739_32) (ux739_32 : x739_32 ≤ 4) (ex739_28 : M0 739 28 = x739_28) (lx739_28 : 0 ≤ x739_28) (ux739_28 : x739_28 ≤ 6) (ex739_38 : M0 739 38 = x739_38) (lx739_38 : 0 ≤ x739_38) (ux739_38 : x739_38 ≤ 999) (ex739_36 : M0 739 36 = x739_36) (lx739_36 : 0 ≤ x739_36) (ux739_36 : x739_36 ≤ 255) (ex739_29 : M0 739 29 = x739_29) (lx739_29 : (-1) ≤ x739_29) (ux739_29 : x739_29 ≤ 501) (rp0 : 0 ≤ x739_30 + (-1) * x739_31) (rp1 : 0 ≤ x739_31 + (-1) * x739_33 + (-1) * x739_34) (rp2 : 0 ≤ (-1) * x739_31 + x739_33 + x739_34) (rp3 : 0 ≤ 4 * x739_34 + (-1) * x739_32) (rp4 : 0 ≤ (-1) * x739_38 + 7 + 3000 * x739_28) (pp_TK : TK M0) (pp_TQ : TXQ T M0) (pp_TT : TTP T M0) : Ct B (d + 3) 111 [R 739] M0 (qI fun z M => Pw M ∧ Fr fm_m8111_739 M0 M ∧ (-97) ≤ z ∧ z ≤ 158 ∧ 0 ≤ M 739 30 + (-1) * (M 739 31) ∧ 0 ≤ M 739 31 + (-1) * (M 739 33) + (-1) * (M 739 34) ∧ 0 ≤ (-1) * (M 739 31) + M 739 33 + M 739 34 ∧ 0 ≤ 4 * (M 739 34) + (-1) * (M 739 32) ∧ 0 ≤ M 739 33 + (-1) * x739_33 ∧ 0 ≤ M 739 28 + (-1) * x739_28 ∧ 0 ≤ M 739 33 + (-1) * x739_33 + M 739 28 + (-1) ∧ 0 ≤ 6 + 152 * (M 739 28) + (-1) * z ∧ 0 ≤ z + 97 * (M 739 28) ∧ 0 ≤ M 739 29 + 1 ∧ 0 ≤ M 739 29 + (-1) * x739_29 + 3000 * (M 739 28) ∧ 0 ≤ (-1) * (M 739 29) + x739_29 + 3000 * (M 739 28) ∧ ((x739_28 = 0 ∧ naE T x739_30 x739_38 x739_33 = 0 ∧ M 739 28 = 0 ∧ M 739 29 = x739_29 ∧ M 739 33 = nx T x739_30 x739_33 ∧ x739_33 + 1 ≤ M 739 33 ∧ z = T x739_33 - 97) ∨ (x739_28 = 0 ∧ naE T x739_30 x739_38 x739_33 ≠ 0 ∧ M 739 28 = naE T x739_30 x739_38 x739_33 ∧ M 739 29 = x739_33) ∨ (x739_28 ≠ 0 ∧ M 739 28 = x739_28 ∧ M 739 29 = x739_29)) ∧ (TK M) ∧ (TXQ T M) ∧ (TTP T M)) := by
  refine ct_of (d := d + 2) (k := 1) (L := [some (R 739), none]) rfl rfl rfl ?_
  have hF0 := Fr.rf fm_m8111_739 M0
  generalize hQ : (qI fun z M => Pw M ∧ Fr fm_m8111_739 M0 M ∧ (-97) ≤ z ∧ z ≤ 158 ∧ 0 ≤ M 739 30 + (-1) * (M 739 31) ∧ 0 ≤ M 739 31 + (-1) * (M 739 33) + (-1) * (M 739 34) ∧ 0 ≤ (-1) * (M 739 31) + M 739 33 + M 739 34 ∧ 0 ≤ 4 * (M 739 34) + (-1) * (M 739 32) ∧ 0 ≤ M 739 33 + (-1) * x739_33 ∧ 0 ≤ M 739 28 + (-1) * x739_28 ∧ 0 ≤ M 739 33 + (-1) * x739_33 + M 739 28 + (-1) ∧ 0 ≤ 6 + 152 * (M 739 28) + (-1) * z ∧ 0 ≤ z + 97 * (M 739 28) ∧ 0 ≤ M 739 29 + 1 ∧ 0 ≤ M 739 29 + (-1) * x739_29 + 3000 * (M 739 28) ∧ 0 ≤ (-1) * (M 739 29) + x739_29 + 3000 * (M 739 28) ∧ ((x739_28 = 0 ∧ naE T x739_30 x739_38 x739_33 = 0 ∧ M 739 28 = 0 ∧ M 739 29 = x739_29 ∧ M 739 33 = nx T x739_30 x739_33 ∧ x739_33 + 1 ≤ M 739 33 ∧ z = T x739_33 - 97) ∨ (x739_28 = 0 ∧ naE T x739_30 x739_38 x739_33 ≠ 0 ∧ M 739 28 = naE T x739_30 x739_38 x739_33 ∧ M 739 29 = x739_33) ∨ (x739_28 ≠ 0 ∧ M 739 28 = x739_28 ∧ M 739 29 = x739_29)) ∧ (TK M) ∧ (TXQ T M) ∧ (TTP T M)) = Q
  have hTT := pp_TT
  unfold TTP at hTT
  rw [ex739_30, ex739_33] at hTT
  have hlt := tt_lt T x739_30 x739_33
  refine wk_al0 r111_0 (wk_cv1 r111_1 kc_739_84 rfl (m8084_739 _ M0 x739_28 hP0 ex739_28 (by first | with_reducible assumption | omega) (by first | with_reducible assumption | omega)) (cqI ?_))
  rintro v7 M1 ⟨hP2, hQ3, h8, h9, h5, h6⟩
  obtain rfl := Fr.same hQ3
  have e10 := ex739_28
  refine wk_ifne r111_4 ⟨by omega, by omega⟩ ?_ ?_
  · intro h11
    refine wk_al0 r111_9 (wk_cv1 r111_10 kc_739_86 rfl (m8086_739 _ M0 x739_32 x739_34 x739_30 x739_33 T hP0 ex739_32 (by first | with_reducible assumption | omega) (by first | with_reducible assumption | omega) ex739_34 (by first | with_reducible assumption | omega) (by first | with_reducible assumption | omega) ex739_30 (by first | with_reducible assumption | omega) (by first | with_reducible assumption | omega) ex739_33 (by first | with_reducible assumption | omega) (by first | with_reducible assumption | omega) pp_TT) (cqI ?_))
    rintro v21 M12 ⟨hP13, hQ14, h22, h23, h16, h17, h18, h19, xh20⟩
    obtain rfl := Fr.same hQ14
    have e24 := ex739_34
    have e25 := ex739_32
    refine wk_ifne r111_13 ⟨by omega, by omega⟩ ?_ ?_
    · intro h26
      replace h16 := h16 (z1_of h22 h23 h26)
      replace h17 := h17 (z1_of h22 h23 h26)
      replace h18 := h18 (z1_of h22 h23 h26)
      replace h19 := h19 (z1_of h22 h23 h26)
      have h27 : 97 ≤ x739_36 := by have q := pp_TK; unfold TK at q; omega
      refine wk_al0 r111_24 (wk_getfi r111_25 fd_739_36 ex739_36 (wk_c2 r111_28 (wk_isub r111_30 (wk_al0 r111_31 (wk_getfi r111_32 fd_739_38 ex739_38 ?_)))))
      refine wk_iclt r111_35 ⟨by omega, by omega⟩ ⟨by omega, by omega⟩ ?_ ?_
      · intro h28
        refine wk_al0 r111_43 (wk_getfi r111_44 fd_739_36 ex739_36 (wk_c2 r111_47 (wk_isub r111_49 (wk_is1 r111_50 rfl (wk_al0 r111_51 (wk_cv1 r111_52 kc_739_84 rfl (m8084_739 _ M0 x739_28 hP0 ex739_28 (by first | with_reducible assumption | omega) (by first | with_reducible assumption | omega)) (cqI ?_)))))))
        rintro v35 M29 ⟨hP30, hQ31, h36, h37, h33, h34⟩
        obtain rfl := Fr.same hQ31
        have e38 := ex739_28
        refine wk_ifeq r111_55 ⟨by omega, by omega⟩ ?_ ?_
        · intro h39
          exfalso
          omega
        · intro h40
          refine wk_al0 r111_58 (wk_cv1 r111_59 kc_739_76 rfl (m8076_739 _ M0 x739_30 x739_31 T hP0 ex739_30 (by first | with_reducible assumption | omega) (by first | with_reducible assumption | omega) ex739_31 (by first | with_reducible assumption | omega) (by first | with_reducible assumption | omega) (by omega) pp_TQ) (cqV ?_))
          rintro M41 ⟨hP42, hQ43, h45, h46, h47, h48, h49, xh50, pr51, pr52, pr53⟩
          have hF44 : Fr fm_m8111_739 M0 M41 := hF0.tr hQ43 rfl
          have e54 := ((hQ43.at g_739_30 rfl).trans ex739_30)
          obtain ⟨v55, e56⟩ : ∃ v, M41 739 31 = v := ⟨_, rfl⟩
          have h57 := (bf_739_31 hP42).1; rw [e56] at h57
          have h58 := (bf_739_31 hP42).2; rw [e56] at h58
          obtain ⟨v59, e60⟩ : ∃ v, M41 739 33 = v := ⟨_, rfl⟩
          have h61 := (bf_739_33 hP42).1; rw [e60] at h61
          have h62 := (bf_739_33 hP42).2; rw [e60] at h62
          obtain ⟨v63, e64⟩ : ∃ v, M41 739 34 = v := ⟨_, rfl⟩
          have h65 := (bf_739_34 hP42).1; rw [e64] at h65
          have h66 := (bf_739_34 hP42).2; rw [e64] at h66
          obtain ⟨v67, e68⟩ : ∃ v, M41 739 32 = v := ⟨_, rfl⟩
          have h69 := (bf_739_32 hP42).1; rw [e68] at h69
          have h70 := (bf_739_32 hP42).2; rw [e68] at h70
          have hn71 := nx_ofm pp_TT ex739_30 ex739_33 ex739_31 xh50
          refine wk_il1 r111_62 ?_
          subst hQ; exact wk_iret r111_63 (⟨rfl, _, rfl, hP42, hF44, by omega, by omega, by have := ((hQ43.at g_739_30 rfl).trans ex739_30); have := e56; omega, by have := e56; have := e60; have := e64; omega, by have := e56; have := e60; have := e64; omega, by have := e64; have := e68; omega, by have := e60; omega, by have := ((hQ43.at g_739_28 rfl).trans ex739_28); omega, by have := e60; have := ((hQ43.at g_739_28 rfl).trans ex739_28); omega, by have := ((hQ43.at g_739_28 rfl).trans ex739_28); omega, by have := ((hQ43.at g_739_28 rfl).trans ex739_28); omega, by have := ((hQ43.at g_739_29 rfl).trans ex739_29); omega, by have := ((hQ43.at g_739_29 rfl).trans ex739_29); have := ((hQ43.at g_739_28 rfl).trans ex739_28); omega, by have := ((hQ43.at g_739_29 rfl).trans ex739_29); have := ((hQ43.at g_739_28 rfl).trans ex739_28); omega, Or.inl ⟨by omega, by have := e60; have := ((hQ43.at g_739_28 rfl).trans ex739_28); have := ((hQ43.at g_739_29 rfl).trans ex739_29); have := naE_c T x739_30 x739_38 x739_33; have := nmI_c T x739_30 x739_33; omega, by have := e60; have := ((hQ43.at g_739_28 rfl).trans ex739_28); have := ((hQ43.at g_739_29 rfl).trans ex739_29); omega, by have := e60; have := ((hQ43.at g_739_28 rfl).trans ex739_28); have := ((hQ43.at g_739_29 rfl).trans ex739_29); omega, by have := e60; have := ((hQ43.at g_739_28 rfl).trans ex739_28); have := ((hQ43.at g_739_29 rfl).trans ex739_29); omega, by have := e60; have := ((hQ43.at g_739_28 rfl).trans ex739_28); have := ((hQ43.at g_739_29 rfl).trans ex739_29); have := naE_c T x739_30 x739_38 x739_33; have := nmI_c T x739_30 x739_33; have := tt_lt T x739_30 x739_33; have := nx_lt (T := T) (n := x739_30) (s := x739_33) (by omega); omega, by have := e60; have := ((hQ43.at g_739_28 rfl).trans ex739_28); have := ((hQ43.at g_739_29 rfl).trans ex739_29); have := naE_c T x739_30 x739_38 x739_33; have := nmI_c T x739_30 x739_33; omega⟩, pr51, pr52, pr53⟩)
      · intro h72
        refine wk_al0 r111_38 (wk_c1 r111_39 (wk_cv2 r111_40 kc_739_137 rfl (m8137_739 _ M0 4 x739_28 x739_33 x739_29 hP0 (by decide) (by decide) ex739_28 (by first | with_reducible assumption | omega) (by first | with_reducible assumption | omega) ex739_33 (by first | with_reducible assumption | omega) (by first | with_reducible assumption | omega) ex739_29 (by first | with_reducible assumption | omega) (by first | with_reducible assumption | omega)) (cqV ?_)))
        rintro M73 ⟨hP74, hQ75, h77, h78, h79, h80, h81, xh82⟩
        have hF76 : Fr fm_m8111_739 M0 M73 := hF0.tr hQ75 rfl
        obtain ⟨v83, e84⟩ : ∃ v, M73 739 28 = v := ⟨_, rfl⟩
        have h85 := (bf_739_28 hP74).1; rw [e84] at h85
        have h86 := (bf_739_28 hP74).2; rw [e84] at h86
        obtain ⟨v87, e88⟩ : ∃ v, M73 739 29 = v := ⟨_, rfl⟩
        have h89 := (bf_739_29 hP74).1; rw [e88] at h89
        have h90 := (bf_739_29 hP74).2; rw [e88] at h90
        refine wk_al0 r111_43 (wk_getfi r111_44 fd_739_36 ((hQ75.at g_739_36 rfl).trans ex739_36) (wk_c2 r111_47 (wk_isub r111_49 (wk_is1 r111_50 rfl (wk_al0 r111_51 (wk_cv1 r111_52 kc_739_84 rfl (m8084_739 _ M73 v83 hP74 e84 (by first | with_reducible assumption | omega) (by first | with_reducible assumption | omega)) (cqI ?_)))))))
        rintro v97 M91 ⟨hP92, hQ93, h98, h99, h95, h96⟩
        obtain rfl := Fr.same hQ93
        have e100 := e84
        refine wk_ifeq r111_55 ⟨by omega, by omega⟩ ?_ ?_
        · intro h101
          refine wk_il1 r111_62 ?_
          subst hQ; exact wk_iret r111_63 (⟨rfl, _, rfl, hP74, hF76, by omega, by omega, by have := ((hQ75.at g_739_30 rfl).trans ex739_30); have := ((hQ75.at g_739_31 rfl).trans ex739_31); omega, by have := ((hQ75.at g_739_31 rfl).trans ex739_31); have := ((hQ75.at g_739_33 rfl).trans ex739_33); have := ((hQ75.at g_739_34 rfl).trans ex739_34); omega, by have := ((hQ75.at g_739_31 rfl).trans ex739_31); have := ((hQ75.at g_739_33 rfl).trans ex739_33); have := ((hQ75.at g_739_34 rfl).trans ex739_34); omega, by have := ((hQ75.at g_739_34 rfl).trans ex739_34); have := ((hQ75.at g_739_32 rfl).trans ex739_32); omega, by have := ((hQ75.at g_739_33 rfl).trans ex739_33); omega, by have := e84; omega, by have := ((hQ75.at g_739_33 rfl).trans ex739_33); have := e84; omega, by have := e84; omega, by have := e84; omega, by have := e88; omega, by have := e88; have := e84; omega, by have := e88; have := e84; omega, Or.inr (Or.inl ⟨by omega, by have := ((hQ75.at g_739_33 rfl).trans ex739_33); have := e84; have := e88; have := naE_c T x739_30 x739_38 x739_33; have := nmI_c T x739_30 x739_33; omega, by have := ((hQ75.at g_739_33 rfl).trans ex739_33); have := e84; have := e88; have := naE_c T x739_30 x739_38 x739_33; have := nmI_c T x739_30 x739_33; omega, by have := ((hQ75.at g_739_33 rfl).trans ex739_33); have := e84; have := e88; omega⟩), (TK_sm (Sm.fr hQ75 rfl) pp_TK), (TXQ_sm (Sm.fr hQ75 rfl) pp_TQ), (TTP_sm (Sm.fr hQ75 rfl) pp_TT)⟩)
        · intro h102
          exfalso
          omega
    · intro h103
      clear h16 h17 h18 h19
      refine wk_al0 r111_16 (wk_c1 r111_17 (wk_cv2 r111_18 kc_739_137 rfl (m8137_739 _ M0 1 x739_28 x739_33 x739_29 hP0 (by decide) (by decide) ex739_28 (by first | with_reducible assumption | omega) (by first | with_reducible assumption | omega) ex739_33 (by first | with_reducible assumption | omega) (by first | with_reducible assumption | omega) ex739_29 (by first | with_reducible assumption | omega) (by first | with_reducible assumption | omega)) (cqV ?_)))
      rintro M104 ⟨hP105, hQ106, h108, h109, h110, h111, h112, xh113⟩
      have hF107 : Fr fm_m8111_739 M0 M104 := hF0.tr hQ106 rfl
      obtain ⟨v114, e115⟩ : ∃ v, M104 739 28 = v := ⟨_, rfl⟩
      have h116 := (bf_739_28 hP105).1; rw [e115] at h116
      have h117 := (bf_739_28 hP105).2; rw [e115] at h117
      obtain ⟨v118, e119⟩ : ∃ v, M104 739 29 = v := ⟨_, rfl⟩
      have h120 := (bf_739_29 hP105).1; rw [e119] at h120
      have h121 := (bf_739_29 hP105).2; rw [e119] at h121
      refine wk_goto r111_21 (wk_al0 r111_43 (wk_getfi r111_44 fd_739_36 ((hQ106.at g_739_36 rfl).trans ex739_36) (wk_c2 r111_47 (wk_isub r111_49 (wk_is1 r111_50 rfl (wk_al0 r111_51 (wk_cv1 r111_52 kc_739_84 rfl (m8084_739 _ M104 v114 hP105 e115 (by first | with_reducible assumption | omega) (by first | with_reducible assumption | omega)) (cqI ?_))))))))
      rintro v128 M122 ⟨hP123, hQ124, h129, h130, h126, h127⟩
      obtain rfl := Fr.same hQ124
      have e131 := e115
      refine wk_ifeq r111_55 ⟨by omega, by omega⟩ ?_ ?_
      · intro h132
        refine wk_il1 r111_62 ?_
        subst hQ; exact wk_iret r111_63 (⟨rfl, _, rfl, hP105, hF107, by omega, by omega, by have := ((hQ106.at g_739_30 rfl).trans ex739_30); have := ((hQ106.at g_739_31 rfl).trans ex739_31); omega, by have := ((hQ106.at g_739_31 rfl).trans ex739_31); have := ((hQ106.at g_739_33 rfl).trans ex739_33); have := ((hQ106.at g_739_34 rfl).trans ex739_34); omega, by have := ((hQ106.at g_739_31 rfl).trans ex739_31); have := ((hQ106.at g_739_33 rfl).trans ex739_33); have := ((hQ106.at g_739_34 rfl).trans ex739_34); omega, by have := ((hQ106.at g_739_34 rfl).trans ex739_34); have := ((hQ106.at g_739_32 rfl).trans ex739_32); omega, by have := ((hQ106.at g_739_33 rfl).trans ex739_33); omega, by have := e115; omega, by have := ((hQ106.at g_739_33 rfl).trans ex739_33); have := e115; omega, by have := e115; omega, by have := e115; omega, by have := e119; omega, by have := e119; have := e115; omega, by have := e119; have := e115; omega, Or.inr (Or.inl ⟨by omega, by have := ((hQ106.at g_739_33 rfl).trans ex739_33); have := e115; have := e119; have := naE_c T x739_30 x739_38 x739_33; have := nmI_c T x739_30 x739_33; omega, by have := ((hQ106.at g_739_33 rfl).trans ex739_33); have := e115; have := e119; have := naE_c T x739_30 x739_38 x739_33; have := nmI_c T x739_30 x739_33; omega, by have := ((hQ106.at g_739_33 rfl).trans ex739_33); have := e115; have := e119; omega⟩), (TK_sm (Sm.fr hQ106 rfl) pp_TK), (TXQ_sm (Sm.fr hQ106 rfl) pp_TQ), (TTP_sm (Sm.fr hQ106 rfl) pp_TT)⟩)
      · intro h133
        exfalso
        omega
  · intro h134
    refine wk_c1 r111_7 ?_
    subst hQ; exact wk_iret r111_8 (⟨rfl, _, rfl, hP0, hF0, by omega, by omega, by have := ex739_30; have := ex739_31; omega, by have := ex739_31; have := ex739_33; have := ex739_34; omega, by have := ex739_31; have := ex739_33; have := ex739_34; omega, by have := ex739_34; have := ex739_32; omega, by have := ex739_33; omega, by have := ex739_28; omega, by have := ex739_33; have := ex739_28; omega, by have := ex739_28; omega, by have := ex739_28; omega, by have := ex739_29; omega, by have := ex739_29; have := ex739_28; omega, by have := ex739_29; have := ex739_28; omega, Or.inr (Or.inr ⟨by omega, by have := ex739_33; have := ex739_28; have := ex739_29; omega, by have := ex739_33; have := ex739_28; have := ex739_29; omega⟩), pp_TK, pp_TQ, pp_TT⟩)
def fm_m8093_739 : Nat := 3198183334179513849174334711124306039004150098954425584320512
set_option maxHeartbeats 20000000 in
/-- IslandHallModel.kind -/
theorem m8093_739 {B : eB} (d : Nat) (M0 : Mm) (x739_30 : Int) (x739_31 : Int) (x739_33 : Int) (x739_34 : Int) (x739_32 : Int) (x739_28 : Int) (x739_29 : Int) (T : Int → Int) (hP0 : Pw M0) (ex739_30 : M0 739 30 = x739_30) (lx739_30 : 0 ≤ x739_30) (ux739_30 : x739_30 ≤ 500) (ex739_31 : M0 739 31 = x739_31) (lx739_31 : 0 ≤ x739_31) (ux739_31 : x739_31 ≤ 500) (ex739_33 : M0 739 33 = x739_33) (lx739_33 : 0 ≤ x739_33) (ux739_33 : x739_33 ≤ 500) (ex739_34 : M0 739 34 = x739_34) (lx739_34 : 0 ≤ x739_34) (ux739_34 : x739_34 ≤ 500) (ex739_32 : M0 739 32 = x739_32) (lx739_32 : 0 ≤ x739_32) (ux739_32 : x739_32 ≤ 4) (ex739_28 : M0 739 28 = x739_28) (lx739_28 : 0 ≤ x739_28) (ux739_28 : x739_28 ≤ 6) (ex739_29 : M0 739 29 = x739_29) (lx739_29 : (-1) ≤ x739_29) (ux739_29 : x739_29 ≤ 501) (rp0 : 0 ≤ x739_30 + (-1) * x739_31) (rp1 : 0 ≤ x739_31 + (-1) * x739_33 + (-1) * x739_34) (rp2 : 0 ≤ (-1) * x739_31 + x739_33 + x739_34) (rp3 : 0 ≤ 4 * x739_34 + (-1) * x739_32) (pp_TK : TK M0) (pp_TQ : TXQ T M0) (pp_TT : TTP T M0) : Ct B (d + 4) 93 [R 739] M0 (qI fun z M => Pw M ∧ Fr fm_m8093_739 M0 M ∧ (-1) ≤ z ∧ z ≤ 21 ∧ 0 ≤ M 739 30 + (-1) * (M 739 31) ∧ 0 ≤ M 739 31 + (-1) * (M 739 33) + (-1) * (M 739 34) ∧ 0 ≤ (-1) * (M 739 31) + M 739 33 + M 739 34 ∧ 0 ≤ 4 * (M 739 34) + (-1) * (M 739 32) ∧ 0 ≤ M 739 33 + (-1) * x739_33 ∧ 0 ≤ M 739 28 + (-1) * x739_28 ∧ 0 ≤ M 739 33 + (-1) * x739_33 + M 739 28 + (-1) ∧ 0 ≤ 4 + 21 * (M 739 28) + (-1) * z ∧ 0 ≤ z + M 739 28 ∧ 0 ≤ M 739 29 + 1 ∧ 0 ≤ M 739 29 + (-1) * x739_29 + 3000 * (M 739 28) ∧ 0 ≤ (-1) * (M 739 29) + x739_29 + 3000 * (M 739 28) ∧ ((x739_28 = 0 ∧ kdE T x739_30 x739_33 = 0 ∧ M 739 28 = 0 ∧ M 739 29 = x739_29 ∧ M 739 33 = nx T x739_30 x739_33 ∧ x739_33 + 1 ≤ M 739 33 ∧ z = kdI T x739_30 x739_33) ∨ (x739_28 = 0 ∧ kdE T x739_30 x739_33 ≠ 0 ∧ M 739 28 = kdE T x739_30 x739_33 ∧ M 739 29 = x739_33) ∨ (x739_28 ≠ 0 ∧ M 739 28 = x739_28 ∧ M 739 29 = x739_29)) ∧ (TK M) ∧ (TXQ T M) ∧ (TTP T M)) := by
  refine ct_of (d := d + 3) (k := 1) (L := [some (R 739), none]) rfl rfl rfl ?_
  have hF0 := Fr.rf fm_m8093_739 M0
  generalize hQ : (qI fun z M => Pw M ∧ Fr fm_m8093_739 M0 M ∧ (-1) ≤ z ∧ z ≤ 21 ∧ 0 ≤ M 739 30 + (-1) * (M 739 31) ∧ 0 ≤ M 739 31 + (-1) * (M 739 33) + (-1) * (M 739 34) ∧ 0 ≤ (-1) * (M 739 31) + M 739 33 + M 739 34 ∧ 0 ≤ 4 * (M 739 34) + (-1) * (M 739 32) ∧ 0 ≤ M 739 33 + (-1) * x739_33 ∧ 0 ≤ M 739 28 + (-1) * x739_28 ∧ 0 ≤ M 739 33 + (-1) * x739_33 + M 739 28 + (-1) ∧ 0 ≤ 4 + 21 * (M 739 28) + (-1) * z ∧ 0 ≤ z + M 739 28 ∧ 0 ≤ M 739 29 + 1 ∧ 0 ≤ M 739 29 + (-1) * x739_29 + 3000 * (M 739 28) ∧ 0 ≤ (-1) * (M 739 29) + x739_29 + 3000 * (M 739 28) ∧ ((x739_28 = 0 ∧ kdE T x739_30 x739_33 = 0 ∧ M 739 28 = 0 ∧ M 739 29 = x739_29 ∧ M 739 33 = nx T x739_30 x739_33 ∧ x739_33 + 1 ≤ M 739 33 ∧ z = kdI T x739_30 x739_33) ∨ (x739_28 = 0 ∧ kdE T x739_30 x739_33 ≠ 0 ∧ M 739 28 = kdE T x739_30 x739_33 ∧ M 739 29 = x739_33) ∨ (x739_28 ≠ 0 ∧ M 739 28 = x739_28 ∧ M 739 29 = x739_29)) ∧ (TK M) ∧ (TXQ T M) ∧ (TTP T M)) = Q
  have hTT := pp_TT
  unfold TTP at hTT
  rw [ex739_30, ex739_33] at hTT
  have hlt := tt_lt T x739_30 x739_33
  refine wk_al0 r93_0 (wk_cv1 r93_1 kc_739_84 rfl (m8084_739 _ M0 x739_28 hP0 ex739_28 (by first | with_reducible assumption | omega) (by first | with_reducible assumption | omega)) (cqI ?_))
  rintro v7 M1 ⟨hP2, hQ3, h8, h9, h5, h6⟩
  obtain rfl := Fr.same hQ3
  have e10 := ex739_28
  refine wk_ifne r93_4 ⟨by omega, by omega⟩ ?_ ?_
  · intro h11
    refine wk_al0 r93_9 (wk_cv1 r93_10 kc_739_97 rfl (m8097_739 _ M0 x739_32 x739_34 x739_30 x739_33 T hP0 ex739_32 (by first | with_reducible assumption | omega) (by first | with_reducible assumption | omega) ex739_34 (by first | with_reducible assumption | omega) (by first | with_reducible assumption | omega) ex739_30 (by first | with_reducible assumption | omega) (by first | with_reducible assumption | omega) ex739_33 (by first | with_reducible assumption | omega) (by first | with_reducible assumption | omega) pp_TK pp_TT) (cqI ?_))
    rintro v18 M12 ⟨hP13, hQ14, h19, h20, h16, xh17⟩
    obtain rfl := Fr.same hQ14
    have e21 := ex739_34
    refine wk_is1 r93_13 rfl (wk_al0 r93_14 (wk_getfi r93_15 fd_739_32 ex739_32 (wk_c1 r93_18 ?_)))
    refine wk_iceq r93_19 ⟨by omega, by omega⟩ (by decide) ?_ ?_
    · intro h22
      refine wk_il1 r93_30 ?_
      refine wk_iflt r93_31 ⟨by omega, by omega⟩ ?_ ?_
      · intro h23
        refine wk_al0 r93_39 (wk_c1 r93_40 (wk_cv2 r93_41 kc_739_137 rfl (m8137_739 _ M0 3 x739_28 x739_33 x739_29 hP0 (by decide) (by decide) ex739_28 (by first | with_reducible assumption | omega) (by first | with_reducible assumption | omega) ex739_33 (by first | with_reducible assumption | omega) (by first | with_reducible assumption | omega) ex739_29 (by first | with_reducible assumption | omega) (by first | with_reducible assumption | omega)) (cqV ?_)))
        rintro M24 ⟨hP25, hQ26, h28, h29, h30, h31, h32, xh33⟩
        have hF27 : Fr fm_m8093_739 M0 M24 := hF0.tr hQ26 rfl
        obtain ⟨v34, e35⟩ : ∃ v, M24 739 28 = v := ⟨_, rfl⟩
        have h36 := (bf_739_28 hP25).1; rw [e35] at h36
        have h37 := (bf_739_28 hP25).2; rw [e35] at h37
        obtain ⟨v38, e39⟩ : ∃ v, M24 739 29 = v := ⟨_, rfl⟩
        have h40 := (bf_739_29 hP25).1; rw [e39] at h40
        have h41 := (bf_739_29 hP25).2; rw [e39] at h41
        refine wk_al0 r93_44 (wk_cv1 r93_45 kc_739_84 rfl (m8084_739 _ M24 v34 hP25 e35 (by first | with_reducible assumption | omega) (by first | with_reducible assumption | omega)) (cqI ?_))
        rintro v48 M42 ⟨hP43, hQ44, h49, h50, h46, h47⟩
        obtain rfl := Fr.same hQ44
        have e51 := e35
        refine wk_ifeq r93_48 ⟨by omega, by omega⟩ ?_ ?_
        · intro h52
          refine wk_il1 r93_55 ?_
          subst hQ; exact wk_iret r93_56 (⟨rfl, _, rfl, hP25, hF27, by omega, by omega, by have := ((hQ26.at g_739_30 rfl).trans ex739_30); have := ((hQ26.at g_739_31 rfl).trans ex739_31); omega, by have := ((hQ26.at g_739_31 rfl).trans ex739_31); have := ((hQ26.at g_739_33 rfl).trans ex739_33); have := ((hQ26.at g_739_34 rfl).trans ex739_34); omega, by have := ((hQ26.at g_739_31 rfl).trans ex739_31); have := ((hQ26.at g_739_33 rfl).trans ex739_33); have := ((hQ26.at g_739_34 rfl).trans ex739_34); omega, by have := ((hQ26.at g_739_34 rfl).trans ex739_34); have := ((hQ26.at g_739_32 rfl).trans ex739_32); omega, by have := ((hQ26.at g_739_33 rfl).trans ex739_33); omega, by have := e35; omega, by have := ((hQ26.at g_739_33 rfl).trans ex739_33); have := e35; omega, by have := e35; omega, by have := e35; omega, by have := e39; omega, by have := e39; have := e35; omega, by have := e39; have := e35; omega, Or.inr (Or.inl ⟨by omega, by have := ((hQ26.at g_739_33 rfl).trans ex739_33); have := e35; have := e39; have := kdI_c T x739_30 x739_33; omega, by have := ((hQ26.at g_739_33 rfl).trans ex739_33); have := e35; have := e39; have := kdI_c T x739_30 x739_33; omega, by have := ((hQ26.at g_739_33 rfl).trans ex739_33); have := e35; have := e39; omega⟩), (TK_sm (Sm.fr hQ26 rfl) pp_TK), (TXQ_sm (Sm.fr hQ26 rfl) pp_TQ), (TTP_sm (Sm.fr hQ26 rfl) pp_TT)⟩)
        · intro h53
          exfalso
          omega
      · intro h54
        refine wk_il1 r93_34 (wk_c1 r93_35 ?_)
        refine wk_icle r93_36 ⟨by omega, by omega⟩ (by decide) ?_ ?_
        · intro h55
          refine wk_al0 r93_44 (wk_cv1 r93_45 kc_739_84 rfl (m8084_739 _ M0 x739_28 hP0 ex739_28 (by first | with_reducible assumption | omega) (by first | with_reducible assumption | omega)) (cqI ?_))
          rintro v62 M56 ⟨hP57, hQ58, h63, h64, h60, h61⟩
          obtain rfl := Fr.same hQ58
          have e65 := ex739_28
          refine wk_ifeq r93_48 ⟨by omega, by omega⟩ ?_ ?_
          · intro h66
            exfalso
            omega
          · intro h67
            refine wk_al0 r93_51 (wk_cv1 r93_52 kc_739_76 rfl (m8076_739 _ M0 x739_30 x739_31 T hP0 ex739_30 (by first | with_reducible assumption | omega) (by first | with_reducible assumption | omega) ex739_31 (by first | with_reducible assumption | omega) (by first | with_reducible assumption | omega) (by omega) pp_TQ) (cqV ?_))
            rintro M68 ⟨hP69, hQ70, h72, h73, h74, h75, h76, xh77, pr78, pr79, pr80⟩
            have hF71 : Fr fm_m8093_739 M0 M68 := hF0.tr hQ70 rfl
            have e81 := ((hQ70.at g_739_30 rfl).trans ex739_30)
            obtain ⟨v82, e83⟩ : ∃ v, M68 739 31 = v := ⟨_, rfl⟩
            have h84 := (bf_739_31 hP69).1; rw [e83] at h84
            have h85 := (bf_739_31 hP69).2; rw [e83] at h85
            obtain ⟨v86, e87⟩ : ∃ v, M68 739 33 = v := ⟨_, rfl⟩
            have h88 := (bf_739_33 hP69).1; rw [e87] at h88
            have h89 := (bf_739_33 hP69).2; rw [e87] at h89
            obtain ⟨v90, e91⟩ : ∃ v, M68 739 34 = v := ⟨_, rfl⟩
            have h92 := (bf_739_34 hP69).1; rw [e91] at h92
            have h93 := (bf_739_34 hP69).2; rw [e91] at h93
            obtain ⟨v94, e95⟩ : ∃ v, M68 739 32 = v := ⟨_, rfl⟩
            have h96 := (bf_739_32 hP69).1; rw [e95] at h96
            have h97 := (bf_739_32 hP69).2; rw [e95] at h97
            have hn98 := nx_ofm pp_TT ex739_30 ex739_33 ex739_31 xh77
            refine wk_il1 r93_55 ?_
            subst hQ; exact wk_iret r93_56 (⟨rfl, _, rfl, hP69, hF71, by omega, by omega, by have := ((hQ70.at g_739_30 rfl).trans ex739_30); have := e83; omega, by have := e83; have := e87; have := e91; omega, by have := e83; have := e87; have := e91; omega, by have := e91; have := e95; omega, by have := e87; omega, by have := ((hQ70.at g_739_28 rfl).trans ex739_28); omega, by have := e87; have := ((hQ70.at g_739_28 rfl).trans ex739_28); omega, by have := ((hQ70.at g_739_28 rfl).trans ex739_28); omega, by have := ((hQ70.at g_739_28 rfl).trans ex739_28); omega, by have := ((hQ70.at g_739_29 rfl).trans ex739_29); omega, by have := ((hQ70.at g_739_29 rfl).trans ex739_29); have := ((hQ70.at g_739_28 rfl).trans ex739_28); omega, by have := ((hQ70.at g_739_29 rfl).trans ex739_29); have := ((hQ70.at g_739_28 rfl).trans ex739_28); omega, Or.inl ⟨by omega, by have := e87; have := ((hQ70.at g_739_28 rfl).trans ex739_28); have := ((hQ70.at g_739_29 rfl).trans ex739_29); have := kdI_c T x739_30 x739_33; omega, by have := e87; have := ((hQ70.at g_739_28 rfl).trans ex739_28); have := ((hQ70.at g_739_29 rfl).trans ex739_29); omega, by have := e87; have := ((hQ70.at g_739_28 rfl).trans ex739_28); have := ((hQ70.at g_739_29 rfl).trans ex739_29); omega, by have := e87; have := ((hQ70.at g_739_28 rfl).trans ex739_28); have := ((hQ70.at g_739_29 rfl).trans ex739_29); omega, by have := e87; have := ((hQ70.at g_739_28 rfl).trans ex739_28); have := ((hQ70.at g_739_29 rfl).trans ex739_29); have := kdI_c T x739_30 x739_33; have := tt_lt T x739_30 x739_33; have := nx_lt (T := T) (n := x739_30) (s := x739_33) (by omega); omega, by have := e87; have := ((hQ70.at g_739_28 rfl).trans ex739_28); have := ((hQ70.at g_739_29 rfl).trans ex739_29); have := kdI_c T x739_30 x739_33; omega⟩, pr78, pr79, pr80⟩)
        · intro h99
          refine wk_al0 r93_39 (wk_c1 r93_40 (wk_cv2 r93_41 kc_739_137 rfl (m8137_739 _ M0 3 x739_28 x739_33 x739_29 hP0 (by decide) (by decide) ex739_28 (by first | with_reducible assumption | omega) (by first | with_reducible assumption | omega) ex739_33 (by first | with_reducible assumption | omega) (by first | with_reducible assumption | omega) ex739_29 (by first | with_reducible assumption | omega) (by first | with_reducible assumption | omega)) (cqV ?_)))
          rintro M100 ⟨hP101, hQ102, h104, h105, h106, h107, h108, xh109⟩
          have hF103 : Fr fm_m8093_739 M0 M100 := hF0.tr hQ102 rfl
          obtain ⟨v110, e111⟩ : ∃ v, M100 739 28 = v := ⟨_, rfl⟩
          have h112 := (bf_739_28 hP101).1; rw [e111] at h112
          have h113 := (bf_739_28 hP101).2; rw [e111] at h113
          obtain ⟨v114, e115⟩ : ∃ v, M100 739 29 = v := ⟨_, rfl⟩
          have h116 := (bf_739_29 hP101).1; rw [e115] at h116
          have h117 := (bf_739_29 hP101).2; rw [e115] at h117
          refine wk_al0 r93_44 (wk_cv1 r93_45 kc_739_84 rfl (m8084_739 _ M100 v110 hP101 e111 (by first | with_reducible assumption | omega) (by first | with_reducible assumption | omega)) (cqI ?_))
          rintro v124 M118 ⟨hP119, hQ120, h125, h126, h122, h123⟩
          obtain rfl := Fr.same hQ120
          have e127 := e111
          refine wk_ifeq r93_48 ⟨by omega, by omega⟩ ?_ ?_
          · intro h128
            refine wk_il1 r93_55 ?_
            subst hQ; exact wk_iret r93_56 (⟨rfl, _, rfl, hP101, hF103, by omega, by omega, by have := ((hQ102.at g_739_30 rfl).trans ex739_30); have := ((hQ102.at g_739_31 rfl).trans ex739_31); omega, by have := ((hQ102.at g_739_31 rfl).trans ex739_31); have := ((hQ102.at g_739_33 rfl).trans ex739_33); have := ((hQ102.at g_739_34 rfl).trans ex739_34); omega, by have := ((hQ102.at g_739_31 rfl).trans ex739_31); have := ((hQ102.at g_739_33 rfl).trans ex739_33); have := ((hQ102.at g_739_34 rfl).trans ex739_34); omega, by have := ((hQ102.at g_739_34 rfl).trans ex739_34); have := ((hQ102.at g_739_32 rfl).trans ex739_32); omega, by have := ((hQ102.at g_739_33 rfl).trans ex739_33); omega, by have := e111; omega, by have := ((hQ102.at g_739_33 rfl).trans ex739_33); have := e111; omega, by have := e111; omega, by have := e111; omega, by have := e115; omega, by have := e115; have := e111; omega, by have := e115; have := e111; omega, Or.inr (Or.inl ⟨by omega, by have := ((hQ102.at g_739_33 rfl).trans ex739_33); have := e111; have := e115; have := kdI_c T x739_30 x739_33; omega, by have := ((hQ102.at g_739_33 rfl).trans ex739_33); have := e111; have := e115; have := kdI_c T x739_30 x739_33; omega, by have := ((hQ102.at g_739_33 rfl).trans ex739_33); have := e111; have := e115; omega⟩), (TK_sm (Sm.fr hQ102 rfl) pp_TK), (TXQ_sm (Sm.fr hQ102 rfl) pp_TQ), (TTP_sm (Sm.fr hQ102 rfl) pp_TT)⟩)
          · intro h129
            exfalso
            omega
    · intro h130
      refine wk_al0 r93_22 (wk_c1 r93_23 (wk_cv2 r93_24 kc_739_137 rfl (m8137_739 _ M0 1 x739_28 x739_33 x739_29 hP0 (by decide) (by decide) ex739_28 (by first | with_reducible assumption | omega) (by first | with_reducible assumption | omega) ex739_33 (by first | with_reducible assumption | omega) (by first | with_reducible assumption | omega) ex739_29 (by first | with_reducible assumption | omega) (by first | with_reducible assumption | omega)) (cqV ?_)))
      rintro M131 ⟨hP132, hQ133, h135, h136, h137, h138, h139, xh140⟩
      have hF134 : Fr fm_m8093_739 M0 M131 := hF0.tr hQ133 rfl
      obtain ⟨v141, e142⟩ : ∃ v, M131 739 28 = v := ⟨_, rfl⟩
      have h143 := (bf_739_28 hP132).1; rw [e142] at h143
      have h144 := (bf_739_28 hP132).2; rw [e142] at h144
      obtain ⟨v145, e146⟩ : ∃ v, M131 739 29 = v := ⟨_, rfl⟩
      have h147 := (bf_739_29 hP132).1; rw [e146] at h147
      have h148 := (bf_739_29 hP132).2; rw [e146] at h148
      refine wk_goto r93_27 (wk_al0 r93_44 (wk_cv1 r93_45 kc_739_84 rfl (m8084_739 _ M131 v141 hP132 e142 (by first | with_reducible assumption | omega) (by first | with_reducible assumption | omega)) (cqI ?_)))
      rintro v155 M149 ⟨hP150, hQ151, h156, h157, h153, h154⟩
      obtain rfl := Fr.same hQ151
      have e158 := e142
      refine wk_ifeq r93_48 ⟨by omega, by omega⟩ ?_ ?_
      · intro h159
        refine wk_il1 r93_55 ?_
        subst hQ; exact wk_iret r93_56 (⟨rfl, _, rfl, hP132, hF134, by omega, by omega, by have := ((hQ133.at g_739_30 rfl).trans ex739_30); have := ((hQ133.at g_739_31 rfl).trans ex739_31); omega, by have := ((hQ133.at g_739_31 rfl).trans ex739_31); have := ((hQ133.at g_739_33 rfl).trans ex739_33); have := ((hQ133.at g_739_34 rfl).trans ex739_34); omega, by have := ((hQ133.at g_739_31 rfl).trans ex739_31); have := ((hQ133.at g_739_33 rfl).trans ex739_33); have := ((hQ133.at g_739_34 rfl).trans ex739_34); omega, by have := ((hQ133.at g_739_34 rfl).trans ex739_34); have := ((hQ133.at g_739_32 rfl).trans ex739_32); omega, by have := ((hQ133.at g_739_33 rfl).trans ex739_33); omega, by have := e142; omega, by have := ((hQ133.at g_739_33 rfl).trans ex739_33); have := e142; omega, by have := e142; omega, by have := e142; omega, by have := e146; omega, by have := e146; have := e142; omega, by have := e146; have := e142; omega, Or.inr (Or.inl ⟨by omega, by have := ((hQ133.at g_739_33 rfl).trans ex739_33); have := e142; have := e146; have := kdI_c T x739_30 x739_33; omega, by have := ((hQ133.at g_739_33 rfl).trans ex739_33); have := e142; have := e146; have := kdI_c T x739_30 x739_33; omega, by have := ((hQ133.at g_739_33 rfl).trans ex739_33); have := e142; have := e146; omega⟩), (TK_sm (Sm.fr hQ133 rfl) pp_TK), (TXQ_sm (Sm.fr hQ133 rfl) pp_TQ), (TTP_sm (Sm.fr hQ133 rfl) pp_TT)⟩)
      · intro h160
        exfalso
        omega
  · intro h161
    refine wk_c1 r93_7 ?_
    subst hQ; exact wk_iret r93_8 (⟨rfl, _, rfl, hP0, hF0, by omega, by omega, by have := ex739_30; have := ex739_31; omega, by have := ex739_31; have := ex739_33; have := ex739_34; omega, by have := ex739_31; have := ex739_33; have := ex739_34; omega, by have := ex739_34; have := ex739_32; omega, by have := ex739_33; omega, by have := ex739_28; omega, by have := ex739_33; have := ex739_28; omega, by have := ex739_28; omega, by have := ex739_28; omega, by have := ex739_29; omega, by have := ex739_29; have := ex739_28; omega, by have := ex739_29; have := ex739_28; omega, Or.inr (Or.inr ⟨by omega, by have := ex739_33; have := ex739_28; have := ex739_29; omega, by have := ex739_33; have := ex739_28; have := ex739_29; omega⟩), pp_TK, pp_TQ, pp_TT⟩)
def fm_m8117_739 : Nat := 452312848583677764512654461700725882347475215226404137245539582496747814912
/-- IslandHallModel.puts -/
theorem m8117_739 {B : eB} (d : Nat) (M0 : Mm) (p1 : Int) (p2 : Int) (p3 : Int) (x739_45 : Int) (hP0 : Pw M0) (l1 : 0 ≤ p1) (u1 : p1 ≤ 15) (l2 : (-97) ≤ p2) (u2 : p2 ≤ 999) (l3 : (-97) ≤ p3) (u3 : p3 ≤ 999) (ex739_45 : M0 739 45 = x739_45) (lx739_45 : 0 ≤ x739_45) (ux739_45 : x739_45 ≤ 999) : Ct B (d + 1) 117 [R 739, I p1, I p2, I p3] M0 (qV fun M => Pw M ∧ Fr fm_m8117_739 M0 M ∧ 0 ≤ M 739 45 + (-1) * x739_45 + (-1) ∧ 0 ≤ (-1) * (M 739 45) + x739_45 + 1 ∧ (PUT M0 M (p1 + 16 * p2 + 2048 * p3))) := by
  refine ct_of (d := d + 0) (k := 0) (L := [some (R 739), some (I p1), some (I p2), some (I p3)]) rfl rfl rfl ?_
  have hF0 := Fr.rf fm_m8117_739 M0
  generalize hQ : (qV fun M => Pw M ∧ Fr fm_m8117_739 M0 M ∧ 0 ≤ M 739 45 + (-1) * x739_45 + (-1) ∧ 0 ≤ (-1) * (M 739 45) + x739_45 + 1 ∧ (PUT M0 M (p1 + 16 * p2 + 2048 * p3))) = Q
  refine wk_al0 r117_0 (wk_getfr r117_1 fd_739_49 (br_739_49 hP0) (wk_al0 r117_4 (wk_getfi r117_5 fd_739_45 ex739_45 (wk_il1 r117_8 (wk_c2 r117_9 (wk_il2 r117_11 (wk_imul r117_12 (wk_iadd r117_13 (wk_c3 r117_14 (wk_il3 r117_17 (wk_imul r117_18 (wk_iadd r117_19 (wk_iast r117_20 ar_757 ⟨by omega, by omega⟩ (wk_nw (ga_757 _) rfl hP0 hF0 (ua_757 ⟨by omega, by omega⟩) ?_))))))))))))))
  intro M1 hP2 hF3 e4
  refine wk_al0 r117_21 (wk_dupr r117_22 (wk_getfi r117_23 fd_739_45 (mUp_no e4 ex739_45 (Or.inl (by decide))) (wk_c1 r117_26 (wk_iadd r117_27 (wk_putfi81 r117_28 fd_739_45 (wk_nw g_739_45 rfl hP2 hF3 (uf_739_45 ⟨by omega, by omega⟩) ?_))))))
  intro M5 hP6 hF7 e8
  subst hQ; exact wk_ret r117_31 (⟨rfl, hP6, hF7, by have := (mUp_at e8); omega, by have := (mUp_at e8); omega, put_mk ex739_45 e4 e8 (by omega)⟩)
def fm_m8112_739 : Nat := 1356938545779010069195758067332661297480611728569957925602488559592754118656
set_option maxHeartbeats 20000000 in
/-- IslandHallModel.namesOne -/
theorem m8112_739 {B : eB} (d : Nat) (M0 : Mm) (x739_30 : Int) (x739_31 : Int) (x739_33 : Int) (x739_34 : Int) (x739_32 : Int) (x739_28 : Int) (x739_45 : Int) (x739_46 : Int) (x739_47 : Int) (x739_38 : Int) (x739_36 : Int) (x739_51 : Int) (x739_29 : Int) (s0 : Int) (u0 : Int → Int) (T : Int → Int) (c0 : Cg) (gk : Int) (hP0 : Pw M0) (ex739_30 : M0 739 30 = x739_30) (lx739_30 : 0 ≤ x739_30) (ux739_30 : x739_30 ≤ 500) (ex739_31 : M0 739 31 = x739_31) (lx739_31 : 0 ≤ x739_31) (ux739_31 : x739_31 ≤ 500) (ex739_33 : M0 739 33 = x739_33) (lx739_33 : 0 ≤ x739_33) (ux739_33 : x739_33 ≤ 500) (ex739_34 : M0 739 34 = x739_34) (lx739_34 : 0 ≤ x739_34) (ux739_34 : x739_34 ≤ 500) (ex739_32 : M0 739 32 = x739_32) (lx739_32 : 0 ≤ x739_32) (ux739_32 : x739_32 ≤ 4) (ex739_28 : M0 739 28 = x739_28) (lx739_28 : 0 ≤ x739_28) (ux739_28 : x739_28 ≤ 6) (ex739_45 : M0 739 45 = x739_45) (lx739_45 : 0 ≤ x739_45) (ux739_45 : x739_45 ≤ 1000) (ex739_46 : M0 739 46 = x739_46) (lx739_46 : 0 ≤ x739_46) (ux739_46 : x739_46 ≤ 520) (ex739_47 : M0 739 47 = x739_47) (lx739_47 : 0 ≤ x739_47) (ux739_47 : x739_47 ≤ 500) (ex739_38 : M0 739 38 = x739_38) (lx739_38 : 0 ≤ x739_38) (ux739_38 : x739_38 ≤ 999) (ex739_36 : M0 739 36 = x739_36) (lx739_36 : 0 ≤ x739_36) (ux739_36 : x739_36 ≤ 255) (ex739_51 : M0 739 51 = x739_51) (lx739_51 : 0 ≤ x739_51) (ux739_51 : x739_51 ≤ 0) (ex739_29 : M0 739 29 = x739_29) (lx739_29 : (-1) ≤ x739_29) (ux739_29 : x739_29 ≤ 501) (rp0 : 0 ≤ x739_30 + (-1) * x739_31) (rp1 : 0 ≤ x739_31 + (-1) * x739_33 + (-1) * x739_34) (rp2 : 0 ≤ (-1) * x739_31 + x739_33 + x739_34) (rp3 : 0 ≤ 4 * x739_34 + (-1) * x739_32) (rp4 : 0 ≤ x739_33 + x739_47 + (-2) * x739_45 + (-2) * x739_46 + 3000 * x739_28) (rp5 : 0 ≤ (-2) * x739_45 + (-2) * x739_46 + 520) (rp6 : 0 ≤ (-1) * x739_47 + x739_28 + 6) (rp7 : 0 ≤ (-1) * x739_38 + 7 + 3000 * x739_28) (xp0 : x739_28 = 0) (xp1 : nmI T x739_30 x739_33 = 1) (xp2 : Rch T x739_30 x739_38 c0 (1, x739_47, x739_33, gk)) (pp_TK : TK M0) (pp_E0 : GE M0 s0 u0 0 0) (pp_TQ : TXQ T M0) (pp_TT : TTP T M0) : Ct B (d + 5) 112 [R 739] M0 (qI fun z M => Pw M ∧ Fr fm_m8112_739 M0 M ∧ 0 ≤ z ∧ z ≤ 1 ∧ 0 ≤ M 739 30 + (-1) * (M 739 31) ∧ 0 ≤ M 739 31 + (-1) * (M 739 33) + (-1) * (M 739 34) ∧ 0 ≤ (-1) * (M 739 31) + M 739 33 + M 739 34 ∧ 0 ≤ 4 * (M 739 34) + (-1) * (M 739 32) ∧ 0 ≤ M 739 33 + (-1) * x739_33 ∧ 0 ≤ M 739 28 + (-1) * x739_28 ∧ 0 ≤ M 739 33 + M 739 47 + (-2) * (M 739 45) + (-2) * (M 739 46) + 3000 * (M 739 28) ∧ 0 ≤ (-2) * (M 739 45) + (-2) * (M 739 46) + 520 ∧ 0 ≤ (-1) * (M 739 47) + M 739 28 + 6 ∧ 0 ≤ M 739 33 + (-1) * x739_33 + M 739 28 + (-1) ∧ 0 ≤ 1 + (-1) * z + (-1) * (M 739 51) ∧ 0 ≤ M 739 29 + 1 ∧ 0 ≤ M 739 29 + (-1) * x739_29 + 3000 * (M 739 28) ∧ 0 ≤ (-1) * (M 739 29) + x739_29 + 3000 * (M 739 28) ∧ 0 ≤ M 739 51 + z + M 739 28 + (-1) ∧ ((z = 1 ∧ RG T x739_30 x739_38 c0 1 (M 739 47) (M 739 33) 0 (M 739 28) (M 739 29)) ∨ (z = 0 ∧ RG T x739_30 x739_38 c0 2 (M 739 47) (M 739 33) 0 (M 739 28) (M 739 29))) ∧ (TK M) ∧ (GH M s0 u0) ∧ (TXQ T M) ∧ (TTP T M)) := by
  refine ct_of (d := d + 4) (k := 2) (L := [some (R 739), none, none]) rfl rfl rfl ?_
  have hF0 := Fr.rf fm_m8112_739 M0
  generalize hQ : (qI fun z M => Pw M ∧ Fr fm_m8112_739 M0 M ∧ 0 ≤ z ∧ z ≤ 1 ∧ 0 ≤ M 739 30 + (-1) * (M 739 31) ∧ 0 ≤ M 739 31 + (-1) * (M 739 33) + (-1) * (M 739 34) ∧ 0 ≤ (-1) * (M 739 31) + M 739 33 + M 739 34 ∧ 0 ≤ 4 * (M 739 34) + (-1) * (M 739 32) ∧ 0 ≤ M 739 33 + (-1) * x739_33 ∧ 0 ≤ M 739 28 + (-1) * x739_28 ∧ 0 ≤ M 739 33 + M 739 47 + (-2) * (M 739 45) + (-2) * (M 739 46) + 3000 * (M 739 28) ∧ 0 ≤ (-2) * (M 739 45) + (-2) * (M 739 46) + 520 ∧ 0 ≤ (-1) * (M 739 47) + M 739 28 + 6 ∧ 0 ≤ M 739 33 + (-1) * x739_33 + M 739 28 + (-1) ∧ 0 ≤ 1 + (-1) * z + (-1) * (M 739 51) ∧ 0 ≤ M 739 29 + 1 ∧ 0 ≤ M 739 29 + (-1) * x739_29 + 3000 * (M 739 28) ∧ 0 ≤ (-1) * (M 739 29) + x739_29 + 3000 * (M 739 28) ∧ 0 ≤ M 739 51 + z + M 739 28 + (-1) ∧ ((z = 1 ∧ RG T x739_30 x739_38 c0 1 (M 739 47) (M 739 33) 0 (M 739 28) (M 739 29)) ∨ (z = 0 ∧ RG T x739_30 x739_38 c0 2 (M 739 47) (M 739 33) 0 (M 739 28) (M 739 29))) ∧ (TK M) ∧ (GH M s0 u0) ∧ (TXQ T M) ∧ (TTP T M)) = Q
  refine wk_al0 r112_0 (wk_cv1 r112_1 kc_739_111 rfl (m8111_739 _ M0 x739_30 x739_31 x739_33 x739_34 x739_32 x739_28 x739_38 x739_36 x739_29 T hP0 ex739_30 (by first | with_reducible assumption | omega) (by first | with_reducible assumption | omega) ex739_31 (by first | with_reducible assumption | omega) (by first | with_reducible assumption | omega) ex739_33 (by first | with_reducible assumption | omega) (by first | with_reducible assumption | omega) ex739_34 (by first | with_reducible assumption | omega) (by first | with_reducible assumption | omega) ex739_32 (by first | with_reducible assumption | omega) (by first | with_reducible assumption | omega) ex739_28 (by first | with_reducible assumption | omega) (by first | with_reducible assumption | omega) ex739_38 (by first | with_reducible assumption | omega) (by first | with_reducible assumption | omega) ex739_36 (by first | with_reducible assumption | omega) (by first | with_reducible assumption | omega) ex739_29 (by first | with_reducible assumption | omega) (by first | with_reducible assumption | omega) (by omega) (by omega) (by omega) (by omega) (by omega) pp_TK pp_TQ pp_TT) (cqI ?_))
  rintro v21 M1 ⟨hP2, hQ3, h22, h23, h5, h6, h7, h8, h9, h10, h11, h12, h13, h14, h15, h16, xh17, pr18, pr19, pr20⟩
  have hF4 : Fr fm_m8112_739 M0 M1 := hF0.tr hQ3 rfl
  have e24 := ((hQ3.at g_739_30 rfl).trans ex739_30)
  obtain ⟨v25, e26⟩ : ∃ v, M1 739 31 = v := ⟨_, rfl⟩
  have h27 := (bf_739_31 hP2).1; rw [e26] at h27
  have h28 := (bf_739_31 hP2).2; rw [e26] at h28
  obtain ⟨v29, e30⟩ : ∃ v, M1 739 33 = v := ⟨_, rfl⟩
  have h31 := (bf_739_33 hP2).1; rw [e30] at h31
  have h32 := (bf_739_33 hP2).2; rw [e30] at h32
  obtain ⟨v33, e34⟩ : ∃ v, M1 739 34 = v := ⟨_, rfl⟩
  have h35 := (bf_739_34 hP2).1; rw [e34] at h35
  have h36 := (bf_739_34 hP2).2; rw [e34] at h36
  obtain ⟨v37, e38⟩ : ∃ v, M1 739 32 = v := ⟨_, rfl⟩
  have h39 := (bf_739_32 hP2).1; rw [e38] at h39
  have h40 := (bf_739_32 hP2).2; rw [e38] at h40
  obtain ⟨v41, e42⟩ : ∃ v, M1 739 28 = v := ⟨_, rfl⟩
  have h43 := (bf_739_28 hP2).1; rw [e42] at h43
  have h44 := (bf_739_28 hP2).2; rw [e42] at h44
  obtain ⟨v45, e46⟩ : ∃ v, M1 739 29 = v := ⟨_, rfl⟩
  have h47 := (bf_739_29 hP2).1; rw [e46] at h47
  have h48 := (bf_739_29 hP2).2; rw [e46] at h48
  have pr49 : GE M1 s0 u0 0 0 := GE_mn (Sm.fr hQ3 rfl) (fun q => by have := ex739_28; have := e42; omega) pp_E0
  refine wk_is1 r112_4 rfl ?_
  refine wk_al0 r112_5 (wk_cv1 r112_6 kc_739_97 rfl (m8097_739 _ M1 v37 v33 x739_30 v29 T hP2 e38 (by first | with_reducible assumption | omega) (by first | with_reducible assumption | omega) e34 (by first | with_reducible assumption | omega) (by first | with_reducible assumption | omega) ((hQ3.at g_739_30 rfl).trans ex739_30) (by first | with_reducible assumption | omega) (by first | with_reducible assumption | omega) e30 (by first | with_reducible assumption | omega) (by first | with_reducible assumption | omega) pr18 pr20) (cqI ?_))
  rintro v56 M50 ⟨hP51, hQ52, h57, h58, h54, xh55⟩
  obtain rfl := Fr.same hQ52
  have e59 := e34
  refine wk_is2 r112_9 rfl (wk_al0 r112_10 (wk_cv1 r112_11 kc_739_84 rfl (m8084_739 _ M1 v41 hP2 e42 (by first | with_reducible assumption | omega) (by first | with_reducible assumption | omega)) (cqI ?_)))
  rintro v66 M60 ⟨hP61, hQ62, h67, h68, h64, h65⟩
  obtain rfl := Fr.same hQ62
  have e69 := e42
  have c69_533 : (v41 ≠ 0 ∨ v56 ≠ 17) → Wp B (d + 4) 112 69 [some (R 739), some (I v21), some (I v56)] [] M1 Q := by
    intro ti253
    refine wk_al0 r112_69 (wk_c1 r112_70 (wk_putfz81 r112_71 fd_739_51 (by decide) (wk_nw g_739_51 rfl hP2 hF4 (uf_739_51 (by decide)) ?_)))
    intro M254 hP255 hF256 e257
    refine wk_al0 r112_74 (wk_cv1 r112_75 kc_739_84 rfl (m8084_739 _ M254 v41 hP255 (mUp_no e257 e42 (Or.inr (by decide))) (by first | with_reducible assumption | omega) (by first | with_reducible assumption | omega)) (cqI ?_))
    rintro v264 M258 ⟨hP259, hQ260, h265, h266, h262, h263⟩
    obtain rfl := Fr.same hQ260
    have e267 := (mUp_no e257 e42 (Or.inr (by decide)))
    refine wk_ifeq r112_78 ⟨by omega, by omega⟩ ?_ ?_
    · intro h268
      refine wk_al0 r112_98 (wk_cv1 r112_99 kc_739_84 rfl (m8084_739 _ M254 v41 hP255 (mUp_no e257 e42 (Or.inr (by decide))) (by first | with_reducible assumption | omega) (by first | with_reducible assumption | omega)) (cqI ?_))
      rintro v275 M269 ⟨hP270, hQ271, h276, h277, h273, h274⟩
      obtain rfl := Fr.same hQ271
      have e278 := (mUp_no e257 e42 (Or.inr (by decide)))
      refine wk_ifne r112_102 ⟨by omega, by omega⟩ ?_ ?_
      · intro h279
        exfalso
        omega
      · intro h280
        refine wk_c1 r112_105 ?_
        subst hQ; exact wk_zret r112_106 (by decide) (⟨rfl, _, rfl, hP255, hF256, by omega, by omega, by have := (mUp_no e257 ((hQ3.at g_739_30 rfl).trans ex739_30) (Or.inr (by decide))); have := (mUp_no e257 e26 (Or.inr (by decide))); omega, by have := (mUp_no e257 e26 (Or.inr (by decide))); have := (mUp_no e257 e30 (Or.inr (by decide))); have := (mUp_no e257 e34 (Or.inr (by decide))); omega, by have := (mUp_no e257 e26 (Or.inr (by decide))); have := (mUp_no e257 e30 (Or.inr (by decide))); have := (mUp_no e257 e34 (Or.inr (by decide))); omega, by have := (mUp_no e257 e34 (Or.inr (by decide))); have := (mUp_no e257 e38 (Or.inr (by decide))); omega, by have := (mUp_no e257 e30 (Or.inr (by decide))); omega, by have := (mUp_no e257 e42 (Or.inr (by decide))); omega, by have := (mUp_no e257 e30 (Or.inr (by decide))); have := (mUp_no e257 ((hQ3.at g_739_47 rfl).trans ex739_47) (Or.inr (by decide))); have := (mUp_no e257 ((hQ3.at g_739_45 rfl).trans ex739_45) (Or.inr (by decide))); have := (mUp_no e257 ((hQ3.at g_739_46 rfl).trans ex739_46) (Or.inr (by decide))); have := (mUp_no e257 e42 (Or.inr (by decide))); omega, by have := (mUp_no e257 ((hQ3.at g_739_45 rfl).trans ex739_45) (Or.inr (by decide))); have := (mUp_no e257 ((hQ3.at g_739_46 rfl).trans ex739_46) (Or.inr (by decide))); omega, by have := (mUp_no e257 ((hQ3.at g_739_47 rfl).trans ex739_47) (Or.inr (by decide))); have := (mUp_no e257 e42 (Or.inr (by decide))); omega, by have := (mUp_no e257 e30 (Or.inr (by decide))); have := (mUp_no e257 e42 (Or.inr (by decide))); omega, by have := (mUp_at e257); omega, by have := (mUp_no e257 e46 (Or.inr (by decide))); omega, by have := (mUp_no e257 e46 (Or.inr (by decide))); have := (mUp_no e257 e42 (Or.inr (by decide))); omega, by have := (mUp_no e257 e46 (Or.inr (by decide))); have := (mUp_no e257 e42 (Or.inr (by decide))); omega, by have := (mUp_at e257); have := (mUp_no e257 e42 (Or.inr (by decide))); omega, Or.inr ⟨by omega, by rw [(mUp_no e257 ((hQ3.at g_739_47 rfl).trans ex739_47) (Or.inr (by decide))), (mUp_no e257 e30 (Or.inr (by decide))), (mUp_no e257 e42 (Or.inr (by decide))), (mUp_no e257 e46 (Or.inr (by decide)))]; exact n106 (v1 := v29) xp2 xp1 (Or.inl ⟨by omega, by omega, by omega⟩)⟩, (TK_sm (Sm.up e257 g_739_51 rfl) pr18), (GH_vac (mUp_no e257 e42 (Or.inr (by decide))) (by omega)), (TXQ_sm (Sm.up e257 g_739_51 rfl) pr19), (TTP_sm (Sm.up e257 g_739_51 rfl) pr20)⟩)
    · intro h281
      refine wk_il2 r112_81 (wk_c2 r112_82 ?_)
      refine wk_iceq r112_84 ⟨by omega, by omega⟩ (by decide) ?_ ?_
      · intro h282
        refine wk_al0 r112_98 (wk_cv1 r112_99 kc_739_84 rfl (m8084_739 _ M254 v41 hP255 (mUp_no e257 e42 (Or.inr (by decide))) (by first | with_reducible assumption | omega) (by first | with_reducible assumption | omega)) (cqI ?_))
        rintro v289 M283 ⟨hP284, hQ285, h290, h291, h287, h288⟩
        obtain rfl := Fr.same hQ285
        have e292 := (mUp_no e257 e42 (Or.inr (by decide)))
        refine wk_ifne r112_102 ⟨by omega, by omega⟩ ?_ ?_
        · intro h293
          have r1 : Rch T x739_30 x739_38 c0 (stN T x739_30 x739_38 x739_47 v29) := N1 xp2 xp1 (by omega) (by omega)
          refine wk_al0 r112_107 (wk_cv1 r112_108 kc_739_76 rfl (m8076_739 _ M254 x739_30 v25 T hP255 (mUp_no e257 ((hQ3.at g_739_30 rfl).trans ex739_30) (Or.inr (by decide))) (by first | with_reducible assumption | omega) (by first | with_reducible assumption | omega) (mUp_no e257 e26 (Or.inr (by decide))) (by first | with_reducible assumption | omega) (by first | with_reducible assumption | omega) (by omega) (TXQ_sm (Sm.up e257 g_739_51 rfl) pr19)) (cqV ?_))
          rintro M294 ⟨hP295, hQ296, h298, h299, h300, h301, h302, xh303, pr304, pr305, pr306⟩
          have hF297 : Fr fm_m8112_739 M0 M294 := hF256.tr hQ296 rfl
          have e307 := ((hQ296.at g_739_30 rfl).trans (mUp_no e257 ((hQ3.at g_739_30 rfl).trans ex739_30) (Or.inr (by decide))))
          obtain ⟨v308, e309⟩ : ∃ v, M294 739 31 = v := ⟨_, rfl⟩
          have h310 := (bf_739_31 hP295).1; rw [e309] at h310
          have h311 := (bf_739_31 hP295).2; rw [e309] at h311
          obtain ⟨v312, e313⟩ : ∃ v, M294 739 33 = v := ⟨_, rfl⟩
          have h314 := (bf_739_33 hP295).1; rw [e313] at h314
          have h315 := (bf_739_33 hP295).2; rw [e313] at h315
          obtain ⟨v316, e317⟩ : ∃ v, M294 739 34 = v := ⟨_, rfl⟩
          have h318 := (bf_739_34 hP295).1; rw [e317] at h318
          have h319 := (bf_739_34 hP295).2; rw [e317] at h319
          obtain ⟨v320, e321⟩ : ∃ v, M294 739 32 = v := ⟨_, rfl⟩
          have h322 := (bf_739_32 hP295).1; rw [e321] at h322
          have h323 := (bf_739_32 hP295).2; rw [e321] at h323
          have hn324 := nx_ofm (TTP_sm (Sm.up e257 g_739_51 rfl) pr20) (mUp_no e257 ((hQ3.at g_739_30 rfl).trans ex739_30) (Or.inr (by decide))) (mUp_no e257 e30 (Or.inr (by decide))) (mUp_no e257 e26 (Or.inr (by decide))) xh303
          refine wk_il2 r112_111 (wk_c2 r112_112 ?_)
          refine wk_icne r112_114 ⟨by omega, by omega⟩ (by decide) ?_ ?_
          · intro h325
            exfalso
            omega
          · intro h326
            refine wk_al0 r112_117 (wk_c1 r112_118 (wk_il1 r112_119 (wk_al0 r112_120 (wk_cv1 r112_121 kc_739_93 rfl (m8093_739 _ M294 x739_30 v308 v312 v316 v320 v41 v45 T hP295 ((hQ296.at g_739_30 rfl).trans (mUp_no e257 ((hQ3.at g_739_30 rfl).trans ex739_30) (Or.inr (by decide)))) (by first | with_reducible assumption | omega) (by first | with_reducible assumption | omega) e309 (by first | with_reducible assumption | omega) (by first | with_reducible assumption | omega) e313 (by first | with_reducible assumption | omega) (by first | with_reducible assumption | omega) e317 (by first | with_reducible assumption | omega) (by first | with_reducible assumption | omega) e321 (by first | with_reducible assumption | omega) (by first | with_reducible assumption | omega) ((hQ296.at g_739_28 rfl).trans (mUp_no e257 e42 (Or.inr (by decide)))) (by first | with_reducible assumption | omega) (by first | with_reducible assumption | omega) ((hQ296.at g_739_29 rfl).trans (mUp_no e257 e46 (Or.inr (by decide)))) (by first | with_reducible assumption | omega) (by first | with_reducible assumption | omega) (by omega) (by omega) (by omega) (by omega) pr304 pr305 pr306) (cqI ?_)))))
            rintro v347 M327 ⟨hP328, hQ329, h348, h349, h331, h332, h333, h334, h335, h336, h337, h338, h339, h340, h341, h342, xh343, pr344, pr345, pr346⟩
            have hF330 : Fr fm_m8112_739 M0 M327 := hF297.tr hQ329 rfl
            have e350 := ((hQ329.at g_739_30 rfl).trans ((hQ296.at g_739_30 rfl).trans (mUp_no e257 ((hQ3.at g_739_30 rfl).trans ex739_30) (Or.inr (by decide)))))
            obtain ⟨v351, e352⟩ : ∃ v, M327 739 31 = v := ⟨_, rfl⟩
            have h353 := (bf_739_31 hP328).1; rw [e352] at h353
            have h354 := (bf_739_31 hP328).2; rw [e352] at h354
            obtain ⟨v355, e356⟩ : ∃ v, M327 739 33 = v := ⟨_, rfl⟩
            have h357 := (bf_739_33 hP328).1; rw [e356] at h357
            have h358 := (bf_739_33 hP328).2; rw [e356] at h358
            obtain ⟨v359, e360⟩ : ∃ v, M327 739 34 = v := ⟨_, rfl⟩
            have h361 := (bf_739_34 hP328).1; rw [e360] at h361
            have h362 := (bf_739_34 hP328).2; rw [e360] at h362
            obtain ⟨v363, e364⟩ : ∃ v, M327 739 32 = v := ⟨_, rfl⟩
            have h365 := (bf_739_32 hP328).1; rw [e364] at h365
            have h366 := (bf_739_32 hP328).2; rw [e364] at h366
            obtain ⟨v367, e368⟩ : ∃ v, M327 739 28 = v := ⟨_, rfl⟩
            have h369 := (bf_739_28 hP328).1; rw [e368] at h369
            have h370 := (bf_739_28 hP328).2; rw [e368] at h370
            obtain ⟨v371, e372⟩ : ∃ v, M327 739 29 = v := ⟨_, rfl⟩
            have h373 := (bf_739_29 hP328).1; rw [e372] at h373
            have h374 := (bf_739_29 hP328).2; rw [e372] at h374
            have pr375 : GE M327 s0 u0 0 0 := GE_mn (Sm.fr hQ329 rfl) (fun q => by have := ((hQ296.at g_739_28 rfl).trans (mUp_no e257 e42 (Or.inr (by decide)))); have := e368; omega) (GE_sm (Sm.fr hQ296 rfl) (GE_sm (Sm.up e257 g_739_51 rfl) pr49))
            have gk : M327 739 28 = v367 := e368
            refine wk_cv4 r112_124 kc_739_117 rfl (m8117_739 _ M327 1 v21 v347 x739_45 hP328 (by decide) (by decide) (by first | with_reducible assumption | omega) (by first | with_reducible assumption | omega) (by first | with_reducible assumption | omega) (by first | with_reducible assumption | omega) ((hQ329.at g_739_45 rfl).trans ((hQ296.at g_739_45 rfl).trans (mUp_no e257 ((hQ3.at g_739_45 rfl).trans ex739_45) (Or.inr (by decide))))) (by first | with_reducible assumption | omega) (by first | with_reducible assumption | omega)) (cqV ?_)
            rintro M376 ⟨hP377, hQ378, h380, h381, xh382⟩
            have hF379 : Fr fm_m8112_739 M0 M376 := hF330.tr hQ378 rfl
            obtain ⟨v383, e384⟩ : ∃ v, M376 739 45 = v := ⟨_, rfl⟩
            have h385 := (bf_739_45 hP377).1; rw [e384] at h385
            have h386 := (bf_739_45 hP377).2; rw [e384] at h386
            have pr387 : GE M376 s0 u0 1 0 := GE_atom xh382 pr375 (fun q => by rw [gk] at q; exact ⟨by omega, by unfold refok; omega, by omega, by omega⟩)
            refine wk_goto r112_127 ?_
            refine wk_c1 r112_140 ?_
            subst hQ; exact wk_zret r112_141 (by decide) (⟨rfl, _, rfl, hP377, hF379, by omega, by omega, by have := ((hQ378.at g_739_30 rfl).trans ((hQ329.at g_739_30 rfl).trans ((hQ296.at g_739_30 rfl).trans (mUp_no e257 ((hQ3.at g_739_30 rfl).trans ex739_30) (Or.inr (by decide)))))); have := ((hQ378.at g_739_31 rfl).trans e352); omega, by have := ((hQ378.at g_739_31 rfl).trans e352); have := ((hQ378.at g_739_33 rfl).trans e356); have := ((hQ378.at g_739_34 rfl).trans e360); omega, by have := ((hQ378.at g_739_31 rfl).trans e352); have := ((hQ378.at g_739_33 rfl).trans e356); have := ((hQ378.at g_739_34 rfl).trans e360); omega, by have := ((hQ378.at g_739_34 rfl).trans e360); have := ((hQ378.at g_739_32 rfl).trans e364); omega, by have := ((hQ378.at g_739_33 rfl).trans e356); omega, by have := ((hQ378.at g_739_28 rfl).trans e368); omega, by have := ((hQ378.at g_739_33 rfl).trans e356); have := ((hQ378.at g_739_47 rfl).trans ((hQ329.at g_739_47 rfl).trans ((hQ296.at g_739_47 rfl).trans (mUp_no e257 ((hQ3.at g_739_47 rfl).trans ex739_47) (Or.inr (by decide)))))); have := e384; have := ((hQ378.at g_739_46 rfl).trans ((hQ329.at g_739_46 rfl).trans ((hQ296.at g_739_46 rfl).trans (mUp_no e257 ((hQ3.at g_739_46 rfl).trans ex739_46) (Or.inr (by decide)))))); have := ((hQ378.at g_739_28 rfl).trans e368); omega, by have := e384; have := ((hQ378.at g_739_46 rfl).trans ((hQ329.at g_739_46 rfl).trans ((hQ296.at g_739_46 rfl).trans (mUp_no e257 ((hQ3.at g_739_46 rfl).trans ex739_46) (Or.inr (by decide)))))); omega, by have := ((hQ378.at g_739_47 rfl).trans ((hQ329.at g_739_47 rfl).trans ((hQ296.at g_739_47 rfl).trans (mUp_no e257 ((hQ3.at g_739_47 rfl).trans ex739_47) (Or.inr (by decide)))))); have := ((hQ378.at g_739_28 rfl).trans e368); omega, by have := ((hQ378.at g_739_33 rfl).trans e356); have := ((hQ378.at g_739_28 rfl).trans e368); omega, by have := ((hQ378.at g_739_51 rfl).trans ((hQ329.at g_739_51 rfl).trans ((hQ296.at g_739_51 rfl).trans (mUp_at e257)))); omega, by have := ((hQ378.at g_739_29 rfl).trans e372); omega, by have := ((hQ378.at g_739_29 rfl).trans e372); have := ((hQ378.at g_739_28 rfl).trans e368); omega, by have := ((hQ378.at g_739_29 rfl).trans e372); have := ((hQ378.at g_739_28 rfl).trans e368); omega, by have := ((hQ378.at g_739_51 rfl).trans ((hQ329.at g_739_51 rfl).trans ((hQ296.at g_739_51 rfl).trans (mUp_at e257)))); have := ((hQ378.at g_739_28 rfl).trans e368); omega, Or.inr ⟨by omega, by rw [((hQ378.at g_739_47 rfl).trans ((hQ329.at g_739_47 rfl).trans ((hQ296.at g_739_47 rfl).trans (mUp_no e257 ((hQ3.at g_739_47 rfl).trans ex739_47) (Or.inr (by decide)))))), ((hQ378.at g_739_33 rfl).trans e356), ((hQ378.at g_739_28 rfl).trans e368), ((hQ378.at g_739_29 rfl).trans e372)]; exact n141i (v2 := v312) r1 (by omega) (by omega) (by rcases xh343 with q9 | q9 | q9; (exact Or.inl ⟨by omega, by omega, by omega⟩); (exact Or.inr ⟨by omega, by omega, by omega⟩); (omega))⟩, (TK_sm (Sm.fr hQ378 rfl) pr344), (GH_of1 ((hQ378.at g_739_51 rfl).trans ((hQ329.at g_739_51 rfl).trans ((hQ296.at g_739_51 rfl).trans (mUp_at e257)))) (by omega) pr387), (TXQ_sm (Sm.fr hQ378 rfl) pr345), (TTP_sm (Sm.fr hQ378 rfl) pr346)⟩)
        · intro h388
          exfalso
          omega
      · intro h389
        refine wk_il2 r112_87 (wk_c2 r112_88 ?_)
        refine wk_iceq r112_90 ⟨by omega, by omega⟩ (by decide) ?_ ?_
        · intro h390
          refine wk_al0 r112_98 (wk_cv1 r112_99 kc_739_84 rfl (m8084_739 _ M254 v41 hP255 (mUp_no e257 e42 (Or.inr (by decide))) (by first | with_reducible assumption | omega) (by first | with_reducible assumption | omega)) (cqI ?_))
          rintro v397 M391 ⟨hP392, hQ393, h398, h399, h395, h396⟩
          obtain rfl := Fr.same hQ393
          have e400 := (mUp_no e257 e42 (Or.inr (by decide)))
          refine wk_ifne r112_102 ⟨by omega, by omega⟩ ?_ ?_
          · intro h401
            have r1 : Rch T x739_30 x739_38 c0 (stN T x739_30 x739_38 x739_47 v29) := N1 xp2 xp1 (by omega) (by omega)
            refine wk_al0 r112_107 (wk_cv1 r112_108 kc_739_76 rfl (m8076_739 _ M254 x739_30 v25 T hP255 (mUp_no e257 ((hQ3.at g_739_30 rfl).trans ex739_30) (Or.inr (by decide))) (by first | with_reducible assumption | omega) (by first | with_reducible assumption | omega) (mUp_no e257 e26 (Or.inr (by decide))) (by first | with_reducible assumption | omega) (by first | with_reducible assumption | omega) (by omega) (TXQ_sm (Sm.up e257 g_739_51 rfl) pr19)) (cqV ?_))
            rintro M402 ⟨hP403, hQ404, h406, h407, h408, h409, h410, xh411, pr412, pr413, pr414⟩
            have hF405 : Fr fm_m8112_739 M0 M402 := hF256.tr hQ404 rfl
            have e415 := ((hQ404.at g_739_30 rfl).trans (mUp_no e257 ((hQ3.at g_739_30 rfl).trans ex739_30) (Or.inr (by decide))))
            obtain ⟨v416, e417⟩ : ∃ v, M402 739 31 = v := ⟨_, rfl⟩
            have h418 := (bf_739_31 hP403).1; rw [e417] at h418
            have h419 := (bf_739_31 hP403).2; rw [e417] at h419
            obtain ⟨v420, e421⟩ : ∃ v, M402 739 33 = v := ⟨_, rfl⟩
            have h422 := (bf_739_33 hP403).1; rw [e421] at h422
            have h423 := (bf_739_33 hP403).2; rw [e421] at h423
            obtain ⟨v424, e425⟩ : ∃ v, M402 739 34 = v := ⟨_, rfl⟩
            have h426 := (bf_739_34 hP403).1; rw [e425] at h426
            have h427 := (bf_739_34 hP403).2; rw [e425] at h427
            obtain ⟨v428, e429⟩ : ∃ v, M402 739 32 = v := ⟨_, rfl⟩
            have h430 := (bf_739_32 hP403).1; rw [e429] at h430
            have h431 := (bf_739_32 hP403).2; rw [e429] at h431
            have hn432 := nx_ofm (TTP_sm (Sm.up e257 g_739_51 rfl) pr20) (mUp_no e257 ((hQ3.at g_739_30 rfl).trans ex739_30) (Or.inr (by decide))) (mUp_no e257 e30 (Or.inr (by decide))) (mUp_no e257 e26 (Or.inr (by decide))) xh411
            refine wk_il2 r112_111 (wk_c2 r112_112 ?_)
            refine wk_icne r112_114 ⟨by omega, by omega⟩ (by decide) ?_ ?_
            · intro h433
              refine wk_al0 r112_130 (wk_c1 r112_131 (wk_il1 r112_132 (wk_al0 r112_133 ?_)))
              obtain ⟨v434, e435⟩ : ∃ v, M402 739 36 = v := ⟨_, rfl⟩
              have h436 := (bf_739_36 hP403).1; rw [e435] at h436
              have h437 := (bf_739_36 hP403).2; rw [e435] at h437
              refine wk_cv1 r112_134 kc_739_111 rfl (m8111_739 _ M402 x739_30 v416 v420 v424 v428 v41 x739_38 v434 v45 T hP403 ((hQ404.at g_739_30 rfl).trans (mUp_no e257 ((hQ3.at g_739_30 rfl).trans ex739_30) (Or.inr (by decide)))) (by first | with_reducible assumption | omega) (by first | with_reducible assumption | omega) e417 (by first | with_reducible assumption | omega) (by first | with_reducible assumption | omega) e421 (by first | with_reducible assumption | omega) (by first | with_reducible assumption | omega) e425 (by first | with_reducible assumption | omega) (by first | with_reducible assumption | omega) e429 (by first | with_reducible assumption | omega) (by first | with_reducible assumption | omega) ((hQ404.at g_739_28 rfl).trans (mUp_no e257 e42 (Or.inr (by decide)))) (by first | with_reducible assumption | omega) (by first | with_reducible assumption | omega) ((hQ404.at g_739_38 rfl).trans (mUp_no e257 ((hQ3.at g_739_38 rfl).trans ex739_38) (Or.inr (by decide)))) (by first | with_reducible assumption | omega) (by first | with_reducible assumption | omega) e435 (by first | with_reducible assumption | omega) (by first | with_reducible assumption | omega) ((hQ404.at g_739_29 rfl).trans (mUp_no e257 e46 (Or.inr (by decide)))) (by first | with_reducible assumption | omega) (by first | with_reducible assumption | omega) (by omega) (by omega) (by omega) (by omega) (by omega) pr412 pr413 pr414) (cqI ?_)
              rintro v458 M438 ⟨hP439, hQ440, h459, h460, h442, h443, h444, h445, h446, h447, h448, h449, h450, h451, h452, h453, xh454, pr455, pr456, pr457⟩
              have hF441 : Fr fm_m8112_739 M0 M438 := hF405.tr hQ440 rfl
              have e461 := ((hQ440.at g_739_30 rfl).trans ((hQ404.at g_739_30 rfl).trans (mUp_no e257 ((hQ3.at g_739_30 rfl).trans ex739_30) (Or.inr (by decide)))))
              obtain ⟨v462, e463⟩ : ∃ v, M438 739 31 = v := ⟨_, rfl⟩
              have h464 := (bf_739_31 hP439).1; rw [e463] at h464
              have h465 := (bf_739_31 hP439).2; rw [e463] at h465
              obtain ⟨v466, e467⟩ : ∃ v, M438 739 33 = v := ⟨_, rfl⟩
              have h468 := (bf_739_33 hP439).1; rw [e467] at h468
              have h469 := (bf_739_33 hP439).2; rw [e467] at h469
              obtain ⟨v470, e471⟩ : ∃ v, M438 739 34 = v := ⟨_, rfl⟩
              have h472 := (bf_739_34 hP439).1; rw [e471] at h472
              have h473 := (bf_739_34 hP439).2; rw [e471] at h473
              obtain ⟨v474, e475⟩ : ∃ v, M438 739 32 = v := ⟨_, rfl⟩
              have h476 := (bf_739_32 hP439).1; rw [e475] at h476
              have h477 := (bf_739_32 hP439).2; rw [e475] at h477
              obtain ⟨v478, e479⟩ : ∃ v, M438 739 28 = v := ⟨_, rfl⟩
              have h480 := (bf_739_28 hP439).1; rw [e479] at h480
              have h481 := (bf_739_28 hP439).2; rw [e479] at h481
              obtain ⟨v482, e483⟩ : ∃ v, M438 739 29 = v := ⟨_, rfl⟩
              have h484 := (bf_739_29 hP439).1; rw [e483] at h484
              have h485 := (bf_739_29 hP439).2; rw [e483] at h485
              have pr486 : GE M438 s0 u0 0 0 := GE_mn (Sm.fr hQ440 rfl) (fun q => by have := ((hQ404.at g_739_28 rfl).trans (mUp_no e257 e42 (Or.inr (by decide)))); have := e479; omega) (GE_sm (Sm.fr hQ404 rfl) (GE_sm (Sm.up e257 g_739_51 rfl) pr49))
              have gk : M438 739 28 = v478 := e479
              refine wk_cv4 r112_137 kc_739_117 rfl (m8117_739 _ M438 2 v21 v458 x739_45 hP439 (by decide) (by decide) (by first | with_reducible assumption | omega) (by first | with_reducible assumption | omega) (by first | with_reducible assumption | omega) (by first | with_reducible assumption | omega) ((hQ440.at g_739_45 rfl).trans ((hQ404.at g_739_45 rfl).trans (mUp_no e257 ((hQ3.at g_739_45 rfl).trans ex739_45) (Or.inr (by decide))))) (by first | with_reducible assumption | omega) (by first | with_reducible assumption | omega)) (cqV ?_)
              rintro M487 ⟨hP488, hQ489, h491, h492, xh493⟩
              have hF490 : Fr fm_m8112_739 M0 M487 := hF441.tr hQ489 rfl
              obtain ⟨v494, e495⟩ : ∃ v, M487 739 45 = v := ⟨_, rfl⟩
              have h496 := (bf_739_45 hP488).1; rw [e495] at h496
              have h497 := (bf_739_45 hP488).2; rw [e495] at h497
              have pr498 : GE M487 s0 u0 1 0 := GE_atom xh493 pr486 (fun q => by rw [gk] at q; exact ⟨by omega, by unfold refok; omega, by omega, by omega⟩)
              refine wk_c1 r112_140 ?_
              subst hQ; exact wk_zret r112_141 (by decide) (⟨rfl, _, rfl, hP488, hF490, by omega, by omega, by have := ((hQ489.at g_739_30 rfl).trans ((hQ440.at g_739_30 rfl).trans ((hQ404.at g_739_30 rfl).trans (mUp_no e257 ((hQ3.at g_739_30 rfl).trans ex739_30) (Or.inr (by decide)))))); have := ((hQ489.at g_739_31 rfl).trans e463); omega, by have := ((hQ489.at g_739_31 rfl).trans e463); have := ((hQ489.at g_739_33 rfl).trans e467); have := ((hQ489.at g_739_34 rfl).trans e471); omega, by have := ((hQ489.at g_739_31 rfl).trans e463); have := ((hQ489.at g_739_33 rfl).trans e467); have := ((hQ489.at g_739_34 rfl).trans e471); omega, by have := ((hQ489.at g_739_34 rfl).trans e471); have := ((hQ489.at g_739_32 rfl).trans e475); omega, by have := ((hQ489.at g_739_33 rfl).trans e467); omega, by have := ((hQ489.at g_739_28 rfl).trans e479); omega, by have := ((hQ489.at g_739_33 rfl).trans e467); have := ((hQ489.at g_739_47 rfl).trans ((hQ440.at g_739_47 rfl).trans ((hQ404.at g_739_47 rfl).trans (mUp_no e257 ((hQ3.at g_739_47 rfl).trans ex739_47) (Or.inr (by decide)))))); have := e495; have := ((hQ489.at g_739_46 rfl).trans ((hQ440.at g_739_46 rfl).trans ((hQ404.at g_739_46 rfl).trans (mUp_no e257 ((hQ3.at g_739_46 rfl).trans ex739_46) (Or.inr (by decide)))))); have := ((hQ489.at g_739_28 rfl).trans e479); omega, by have := e495; have := ((hQ489.at g_739_46 rfl).trans ((hQ440.at g_739_46 rfl).trans ((hQ404.at g_739_46 rfl).trans (mUp_no e257 ((hQ3.at g_739_46 rfl).trans ex739_46) (Or.inr (by decide)))))); omega, by have := ((hQ489.at g_739_47 rfl).trans ((hQ440.at g_739_47 rfl).trans ((hQ404.at g_739_47 rfl).trans (mUp_no e257 ((hQ3.at g_739_47 rfl).trans ex739_47) (Or.inr (by decide)))))); have := ((hQ489.at g_739_28 rfl).trans e479); omega, by have := ((hQ489.at g_739_33 rfl).trans e467); have := ((hQ489.at g_739_28 rfl).trans e479); omega, by have := ((hQ489.at g_739_51 rfl).trans ((hQ440.at g_739_51 rfl).trans ((hQ404.at g_739_51 rfl).trans (mUp_at e257)))); omega, by have := ((hQ489.at g_739_29 rfl).trans e483); omega, by have := ((hQ489.at g_739_29 rfl).trans e483); have := ((hQ489.at g_739_28 rfl).trans e479); omega, by have := ((hQ489.at g_739_29 rfl).trans e483); have := ((hQ489.at g_739_28 rfl).trans e479); omega, by have := ((hQ489.at g_739_51 rfl).trans ((hQ440.at g_739_51 rfl).trans ((hQ404.at g_739_51 rfl).trans (mUp_at e257)))); have := ((hQ489.at g_739_28 rfl).trans e479); omega, Or.inr ⟨by omega, by rw [((hQ489.at g_739_47 rfl).trans ((hQ440.at g_739_47 rfl).trans ((hQ404.at g_739_47 rfl).trans (mUp_no e257 ((hQ3.at g_739_47 rfl).trans ex739_47) (Or.inr (by decide)))))), ((hQ489.at g_739_33 rfl).trans e467), ((hQ489.at g_739_28 rfl).trans e479), ((hQ489.at g_739_29 rfl).trans e483)]; exact n141a (v2 := v420) r1 (by omega) (by omega) (by rcases xh454 with q9 | q9 | q9; (exact Or.inl ⟨by omega, by omega, by omega⟩); (exact Or.inr ⟨by omega, by omega, by omega⟩); (omega))⟩, (TK_sm (Sm.fr hQ489 rfl) pr455), (GH_of1 ((hQ489.at g_739_51 rfl).trans ((hQ440.at g_739_51 rfl).trans ((hQ404.at g_739_51 rfl).trans (mUp_at e257)))) (by omega) pr498), (TXQ_sm (Sm.fr hQ489 rfl) pr456), (TTP_sm (Sm.fr hQ489 rfl) pr457)⟩)
            · intro h499
              exfalso
              omega
          · intro h500
            exfalso
            omega
        · intro h501
          refine wk_al0 r112_93 (wk_c1 r112_94 (wk_cv2 r112_95 kc_739_137 rfl (m8137_739 _ M254 1 v41 v29 v45 hP255 (by decide) (by decide) (mUp_no e257 e42 (Or.inr (by decide))) (by first | with_reducible assumption | omega) (by first | with_reducible assumption | omega) (mUp_no e257 e30 (Or.inr (by decide))) (by first | with_reducible assumption | omega) (by first | with_reducible assumption | omega) (mUp_no e257 e46 (Or.inr (by decide))) (by first | with_reducible assumption | omega) (by first | with_reducible assumption | omega)) (cqV ?_)))
          rintro M502 ⟨hP503, hQ504, h506, h507, h508, h509, h510, xh511⟩
          have hF505 : Fr fm_m8112_739 M0 M502 := hF256.tr hQ504 rfl
          obtain ⟨v512, e513⟩ : ∃ v, M502 739 28 = v := ⟨_, rfl⟩
          have h514 := (bf_739_28 hP503).1; rw [e513] at h514
          have h515 := (bf_739_28 hP503).2; rw [e513] at h515
          obtain ⟨v516, e517⟩ : ∃ v, M502 739 29 = v := ⟨_, rfl⟩
          have h518 := (bf_739_29 hP503).1; rw [e517] at h518
          have h519 := (bf_739_29 hP503).2; rw [e517] at h519
          have pr520 : GE M502 s0 u0 0 0 := GE_mn (Sm.fr hQ504 rfl) (fun q => by have := (mUp_no e257 e42 (Or.inr (by decide))); have := e513; omega) (GE_sm (Sm.up e257 g_739_51 rfl) pr49)
          refine wk_al0 r112_98 (wk_cv1 r112_99 kc_739_84 rfl (m8084_739 _ M502 v512 hP503 e513 (by first | with_reducible assumption | omega) (by first | with_reducible assumption | omega)) (cqI ?_))
          rintro v527 M521 ⟨hP522, hQ523, h528, h529, h525, h526⟩
          obtain rfl := Fr.same hQ523
          have e530 := e513
          refine wk_ifne r112_102 ⟨by omega, by omega⟩ ?_ ?_
          · intro h531
            exfalso
            omega
          · intro h532
            refine wk_c1 r112_105 ?_
            subst hQ; exact wk_zret r112_106 (by decide) (⟨rfl, _, rfl, hP503, hF505, by omega, by omega, by have := ((hQ504.at g_739_30 rfl).trans (mUp_no e257 ((hQ3.at g_739_30 rfl).trans ex739_30) (Or.inr (by decide)))); have := ((hQ504.at g_739_31 rfl).trans (mUp_no e257 e26 (Or.inr (by decide)))); omega, by have := ((hQ504.at g_739_31 rfl).trans (mUp_no e257 e26 (Or.inr (by decide)))); have := ((hQ504.at g_739_33 rfl).trans (mUp_no e257 e30 (Or.inr (by decide)))); have := ((hQ504.at g_739_34 rfl).trans (mUp_no e257 e34 (Or.inr (by decide)))); omega, by have := ((hQ504.at g_739_31 rfl).trans (mUp_no e257 e26 (Or.inr (by decide)))); have := ((hQ504.at g_739_33 rfl).trans (mUp_no e257 e30 (Or.inr (by decide)))); have := ((hQ504.at g_739_34 rfl).trans (mUp_no e257 e34 (Or.inr (by decide)))); omega, by have := ((hQ504.at g_739_34 rfl).trans (mUp_no e257 e34 (Or.inr (by decide)))); have := ((hQ504.at g_739_32 rfl).trans (mUp_no e257 e38 (Or.inr (by decide)))); omega, by have := ((hQ504.at g_739_33 rfl).trans (mUp_no e257 e30 (Or.inr (by decide)))); omega, by have := e513; omega, by have := ((hQ504.at g_739_33 rfl).trans (mUp_no e257 e30 (Or.inr (by decide)))); have := ((hQ504.at g_739_47 rfl).trans (mUp_no e257 ((hQ3.at g_739_47 rfl).trans ex739_47) (Or.inr (by decide)))); have := ((hQ504.at g_739_45 rfl).trans (mUp_no e257 ((hQ3.at g_739_45 rfl).trans ex739_45) (Or.inr (by decide)))); have := ((hQ504.at g_739_46 rfl).trans (mUp_no e257 ((hQ3.at g_739_46 rfl).trans ex739_46) (Or.inr (by decide)))); have := e513; omega, by have := ((hQ504.at g_739_45 rfl).trans (mUp_no e257 ((hQ3.at g_739_45 rfl).trans ex739_45) (Or.inr (by decide)))); have := ((hQ504.at g_739_46 rfl).trans (mUp_no e257 ((hQ3.at g_739_46 rfl).trans ex739_46) (Or.inr (by decide)))); omega, by have := ((hQ504.at g_739_47 rfl).trans (mUp_no e257 ((hQ3.at g_739_47 rfl).trans ex739_47) (Or.inr (by decide)))); have := e513; omega, by have := ((hQ504.at g_739_33 rfl).trans (mUp_no e257 e30 (Or.inr (by decide)))); have := e513; omega, by have := ((hQ504.at g_739_51 rfl).trans (mUp_at e257)); omega, by have := e517; omega, by have := e517; have := e513; omega, by have := e517; have := e513; omega, by have := ((hQ504.at g_739_51 rfl).trans (mUp_at e257)); have := e513; omega, Or.inr ⟨by omega, by rw [((hQ504.at g_739_47 rfl).trans (mUp_no e257 ((hQ3.at g_739_47 rfl).trans ex739_47) (Or.inr (by decide)))), ((hQ504.at g_739_33 rfl).trans (mUp_no e257 e30 (Or.inr (by decide)))), e513, e517]; exact n106 (v1 := v29) xp2 xp1 (Or.inr ⟨by omega, by omega, by omega, by omega, by omega, by omega, by omega⟩)⟩, (TK_sm (Sm.fr hQ504 rfl) (TK_sm (Sm.up e257 g_739_51 rfl) pr18)), (GH_vac e513 (by omega)), (TXQ_sm (Sm.fr hQ504 rfl) (TXQ_sm (Sm.up e257 g_739_51 rfl) pr19)), (TTP_sm (Sm.fr hQ504 rfl) (TTP_sm (Sm.up e257 g_739_51 rfl) pr20))⟩)
  refine wk_ifeq r112_14 ⟨by omega, by omega⟩ ?_ ?_
  · intro h70
    exact wp_fg (le_s (le_s (le_s le_0))) (c69_533 (by omega))
  · intro h71
    refine wk_il2 r112_17 (wk_c2 r112_18 ?_)
    refine wk_icne r112_20 ⟨by omega, by omega⟩ (by decide) ?_ ?_
    · intro h72
      exact wp_fg (le_s (le_s (le_s le_0))) (c69_533 (by omega))
    · intro h73
      have r1 : Rch T x739_30 x739_38 c0 (stN T x739_30 x739_38 x739_47 v29) := N1 xp2 xp1 (by omega) (by omega)
      refine wk_al0 r112_23 (wk_cv1 r112_24 kc_739_76 rfl (m8076_739 _ M1 x739_30 v25 T hP2 ((hQ3.at g_739_30 rfl).trans ex739_30) (by first | with_reducible assumption | omega) (by first | with_reducible assumption | omega) e26 (by first | with_reducible assumption | omega) (by first | with_reducible assumption | omega) (by omega) pr19) (cqV ?_))
      rintro M74 ⟨hP75, hQ76, h78, h79, h80, h81, h82, xh83, pr84, pr85, pr86⟩
      have hF77 : Fr fm_m8112_739 M0 M74 := hF4.tr hQ76 rfl
      have e87 := ((hQ76.at g_739_30 rfl).trans ((hQ3.at g_739_30 rfl).trans ex739_30))
      obtain ⟨v88, e89⟩ : ∃ v, M74 739 31 = v := ⟨_, rfl⟩
      have h90 := (bf_739_31 hP75).1; rw [e89] at h90
      have h91 := (bf_739_31 hP75).2; rw [e89] at h91
      obtain ⟨v92, e93⟩ : ∃ v, M74 739 33 = v := ⟨_, rfl⟩
      have h94 := (bf_739_33 hP75).1; rw [e93] at h94
      have h95 := (bf_739_33 hP75).2; rw [e93] at h95
      obtain ⟨v96, e97⟩ : ∃ v, M74 739 34 = v := ⟨_, rfl⟩
      have h98 := (bf_739_34 hP75).1; rw [e97] at h98
      have h99 := (bf_739_34 hP75).2; rw [e97] at h99
      obtain ⟨v100, e101⟩ : ∃ v, M74 739 32 = v := ⟨_, rfl⟩
      have h102 := (bf_739_32 hP75).1; rw [e101] at h102
      have h103 := (bf_739_32 hP75).2; rw [e101] at h103
      have hn104 := nx_ofm pr20 ((hQ3.at g_739_30 rfl).trans ex739_30) e30 e26 xh83
      refine wk_al0 r112_27 (wk_c2 r112_28 ?_)
      obtain ⟨v105, e106⟩ : ∃ v, M74 739 36 = v := ⟨_, rfl⟩
      have h107 := (bf_739_36 hP75).1; rw [e106] at h107
      have h108 := (bf_739_36 hP75).2; rw [e106] at h108
      refine wk_cv2 r112_30 kc_739_88 rfl (m8088_739 _ M74 40 v100 v105 x739_30 v92 T hP75 (by decide) (by decide) e101 (by first | with_reducible assumption | omega) (by first | with_reducible assumption | omega) e106 (by first | with_reducible assumption | omega) (by first | with_reducible assumption | omega) ((hQ76.at g_739_30 rfl).trans ((hQ3.at g_739_30 rfl).trans ex739_30)) (by first | with_reducible assumption | omega) (by first | with_reducible assumption | omega) e93 (by first | with_reducible assumption | omega) (by first | with_reducible assumption | omega) pr86) (cqI ?_)
      rintro v117 M109 ⟨hP110, hQ111, h118, h119, h113, h114, h115, xh116⟩
      obtain rfl := Fr.same hQ111
      have e120 := e101
      have e121 := e106
      refine wk_ifne r112_33 ⟨by omega, by omega⟩ ?_ ?_
      · intro h122
        replace h113 := h113 (z1_of h118 h119 h122)
        replace h114 := h114 (z1_of h118 h119 h122)
        replace h115 := h115 (z1_of h118 h119 h122)
        refine wk_al0 r112_41 (wk_cv1 r112_42 kc_739_84 rfl (m8084_739 _ M74 v41 hP75 ((hQ76.at g_739_28 rfl).trans e42) (by first | with_reducible assumption | omega) (by first | with_reducible assumption | omega)) (cqI ?_))
        rintro v129 M123 ⟨hP124, hQ125, h130, h131, h127, h128⟩
        obtain rfl := Fr.same hQ125
        have e132 := ((hQ76.at g_739_28 rfl).trans e42)
        refine wk_ifne r112_45 ⟨by omega, by omega⟩ ?_ ?_
        · intro h133
          refine wk_al0 r112_50 (wk_c2 r112_51 (wk_il1 r112_53 (wk_c1 r112_54 (wk_iadd r112_55 (wk_cv3 r112_56 kc_739_133 rfl (m8133_739 _ M74 14 (v21 + 1) x739_46 hP75 (by decide) (by decide) (by first | with_reducible assumption | omega) (by first | with_reducible assumption | omega) ((hQ76.at g_739_46 rfl).trans ((hQ3.at g_739_46 rfl).trans ex739_46)) (by first | with_reducible assumption | omega) (by first | with_reducible assumption | omega)) (cqV ?_))))))
          rintro M134 ⟨hP135, hQ136, h138, h139, xh140⟩
          have hF137 : Fr fm_m8112_739 M0 M134 := hF77.tr hQ136 rfl
          obtain ⟨v141, e142⟩ : ∃ v, M134 739 46 = v := ⟨_, rfl⟩
          have h143 := (bf_739_46 hP135).1; rw [e142] at h143
          have h144 := (bf_739_46 hP135).2; rw [e142] at h144
          have pr145 : GE M134 s0 u0 0 1 := GE_par xh140 (GE_sm (Sm.fr hQ76 rfl) pr49) (by omega)
          refine wk_al0 r112_59 (wk_cv1 r112_60 kc_739_76 rfl (m8076_739 _ M134 x739_30 v88 T hP135 ((hQ136.at g_739_30 rfl).trans ((hQ76.at g_739_30 rfl).trans ((hQ3.at g_739_30 rfl).trans ex739_30))) (by first | with_reducible assumption | omega) (by first | with_reducible assumption | omega) ((hQ136.at g_739_31 rfl).trans e89) (by first | with_reducible assumption | omega) (by first | with_reducible assumption | omega) (by omega) (TXQ_sm (Sm.fr hQ136 rfl) pr85)) (cqV ?_))
          rintro M146 ⟨hP147, hQ148, h150, h151, h152, h153, h154, xh155, pr156, pr157, pr158⟩
          have hF149 : Fr fm_m8112_739 M0 M146 := hF137.tr hQ148 rfl
          have e159 := ((hQ148.at g_739_30 rfl).trans ((hQ136.at g_739_30 rfl).trans ((hQ76.at g_739_30 rfl).trans ((hQ3.at g_739_30 rfl).trans ex739_30))))
          obtain ⟨v160, e161⟩ : ∃ v, M146 739 31 = v := ⟨_, rfl⟩
          have h162 := (bf_739_31 hP147).1; rw [e161] at h162
          have h163 := (bf_739_31 hP147).2; rw [e161] at h163
          obtain ⟨v164, e165⟩ : ∃ v, M146 739 33 = v := ⟨_, rfl⟩
          have h166 := (bf_739_33 hP147).1; rw [e165] at h166
          have h167 := (bf_739_33 hP147).2; rw [e165] at h167
          obtain ⟨v168, e169⟩ : ∃ v, M146 739 34 = v := ⟨_, rfl⟩
          have h170 := (bf_739_34 hP147).1; rw [e169] at h170
          have h171 := (bf_739_34 hP147).2; rw [e169] at h171
          obtain ⟨v172, e173⟩ : ∃ v, M146 739 32 = v := ⟨_, rfl⟩
          have h174 := (bf_739_32 hP147).1; rw [e173] at h174
          have h175 := (bf_739_32 hP147).2; rw [e173] at h175
          have hn176 := nx_ofm (TTP_sm (Sm.fr hQ136 rfl) pr86) ((hQ136.at g_739_30 rfl).trans ((hQ76.at g_739_30 rfl).trans ((hQ3.at g_739_30 rfl).trans ex739_30))) ((hQ136.at g_739_33 rfl).trans e93) ((hQ136.at g_739_31 rfl).trans e89) xh155
          refine wk_al0 r112_63 (wk_cv1 r112_64 kc_739_62 rfl (m8062_739 _ M146 x739_30 v160 v164 v168 v172 v41 x739_45 v141 x739_47 v45 x739_38 s0 u0 T c0 hP147 ((hQ148.at g_739_30 rfl).trans ((hQ136.at g_739_30 rfl).trans ((hQ76.at g_739_30 rfl).trans ((hQ3.at g_739_30 rfl).trans ex739_30)))) (by first | with_reducible assumption | omega) (by first | with_reducible assumption | omega) e161 (by first | with_reducible assumption | omega) (by first | with_reducible assumption | omega) e165 (by first | with_reducible assumption | omega) (by first | with_reducible assumption | omega) e169 (by first | with_reducible assumption | omega) (by first | with_reducible assumption | omega) e173 (by first | with_reducible assumption | omega) (by first | with_reducible assumption | omega) ((hQ148.at g_739_28 rfl).trans ((hQ136.at g_739_28 rfl).trans ((hQ76.at g_739_28 rfl).trans e42))) (by first | with_reducible assumption | omega) (by first | with_reducible assumption | omega) ((hQ148.at g_739_45 rfl).trans ((hQ136.at g_739_45 rfl).trans ((hQ76.at g_739_45 rfl).trans ((hQ3.at g_739_45 rfl).trans ex739_45)))) (by first | with_reducible assumption | omega) (by first | with_reducible assumption | omega) ((hQ148.at g_739_46 rfl).trans e142) (by first | with_reducible assumption | omega) (by first | with_reducible assumption | omega) ((hQ148.at g_739_47 rfl).trans ((hQ136.at g_739_47 rfl).trans ((hQ76.at g_739_47 rfl).trans ((hQ3.at g_739_47 rfl).trans ex739_47)))) (by first | with_reducible assumption | omega) (by first | with_reducible assumption | omega) ((hQ148.at g_739_29 rfl).trans ((hQ136.at g_739_29 rfl).trans ((hQ76.at g_739_29 rfl).trans e46))) (by first | with_reducible assumption | omega) (by first | with_reducible assumption | omega) ((hQ148.at g_739_38 rfl).trans ((hQ136.at g_739_38 rfl).trans ((hQ76.at g_739_38 rfl).trans ((hQ3.at g_739_38 rfl).trans ex739_38)))) (by first | with_reducible assumption | omega) (by first | with_reducible assumption | omega) (by omega) (by omega) (by omega) (by omega) (by omega) (by omega) (n63 (v2 := v92) r1 (by omega) (by omega) (by omega) (by omega) (by omega)) pr156 (GE_sm (Sm.fr hQ148 rfl) pr145) pr157 pr158) (cqV ?_))
          rintro M177 ⟨hP178, hQ179, h181, h182, h183, h184, h185, h186, h187, h188, h189, h190, h191, h192, h193, h194, h195, xh196, pr197, pr198, pr199, pr200⟩
          have hF180 : Fr fm_m8112_739 M0 M177 := hF149.tr hQ179 rfl
          have e201 := ((hQ179.at g_739_30 rfl).trans ((hQ148.at g_739_30 rfl).trans ((hQ136.at g_739_30 rfl).trans ((hQ76.at g_739_30 rfl).trans ((hQ3.at g_739_30 rfl).trans ex739_30)))))
          have e202 := ((hQ179.at g_739_31 rfl).trans e161)
          have e203 := ((hQ179.at g_739_33 rfl).trans e165)
          have e204 := ((hQ179.at g_739_34 rfl).trans e169)
          have e205 := ((hQ179.at g_739_32 rfl).trans e173)
          obtain ⟨v206, e207⟩ : ∃ v, M177 739 28 = v := ⟨_, rfl⟩
          have h208 := (bf_739_28 hP178).1; rw [e207] at h208
          have h209 := (bf_739_28 hP178).2; rw [e207] at h209
          have e210 := ((hQ179.at g_739_45 rfl).trans ((hQ148.at g_739_45 rfl).trans ((hQ136.at g_739_45 rfl).trans ((hQ76.at g_739_45 rfl).trans ((hQ3.at g_739_45 rfl).trans ex739_45)))))
          have e211 := ((hQ179.at g_739_46 rfl).trans ((hQ148.at g_739_46 rfl).trans e142))
          obtain ⟨v212, e213⟩ : ∃ v, M177 739 47 = v := ⟨_, rfl⟩
          have h214 := (bf_739_47 hP178).1; rw [e213] at h214
          have h215 := (bf_739_47 hP178).2; rw [e213] at h215
          obtain ⟨v216, e217⟩ : ∃ v, M177 739 29 = v := ⟨_, rfl⟩
          have h218 := (bf_739_29 hP178).1; rw [e217] at h218
          have h219 := (bf_739_29 hP178).2; rw [e217] at h219
          refine wk_c1 r112_67 ?_
          subst hQ; exact wk_zret r112_68 (by decide) (⟨rfl, _, rfl, hP178, hF180, by omega, by omega, by have := ((hQ179.at g_739_30 rfl).trans ((hQ148.at g_739_30 rfl).trans ((hQ136.at g_739_30 rfl).trans ((hQ76.at g_739_30 rfl).trans ((hQ3.at g_739_30 rfl).trans ex739_30))))); have := ((hQ179.at g_739_31 rfl).trans e161); omega, by have := ((hQ179.at g_739_31 rfl).trans e161); have := ((hQ179.at g_739_33 rfl).trans e165); have := ((hQ179.at g_739_34 rfl).trans e169); omega, by have := ((hQ179.at g_739_31 rfl).trans e161); have := ((hQ179.at g_739_33 rfl).trans e165); have := ((hQ179.at g_739_34 rfl).trans e169); omega, by have := ((hQ179.at g_739_34 rfl).trans e169); have := ((hQ179.at g_739_32 rfl).trans e173); omega, by have := ((hQ179.at g_739_33 rfl).trans e165); omega, by have := e207; omega, by have := ((hQ179.at g_739_33 rfl).trans e165); have := e213; have := ((hQ179.at g_739_45 rfl).trans ((hQ148.at g_739_45 rfl).trans ((hQ136.at g_739_45 rfl).trans ((hQ76.at g_739_45 rfl).trans ((hQ3.at g_739_45 rfl).trans ex739_45))))); have := ((hQ179.at g_739_46 rfl).trans ((hQ148.at g_739_46 rfl).trans e142)); have := e207; omega, by have := ((hQ179.at g_739_45 rfl).trans ((hQ148.at g_739_45 rfl).trans ((hQ136.at g_739_45 rfl).trans ((hQ76.at g_739_45 rfl).trans ((hQ3.at g_739_45 rfl).trans ex739_45))))); have := ((hQ179.at g_739_46 rfl).trans ((hQ148.at g_739_46 rfl).trans e142)); omega, by have := e213; have := e207; omega, by have := ((hQ179.at g_739_33 rfl).trans e165); have := e207; omega, by have := ((hQ179.at g_739_51 rfl).trans ((hQ148.at g_739_51 rfl).trans ((hQ136.at g_739_51 rfl).trans ((hQ76.at g_739_51 rfl).trans ((hQ3.at g_739_51 rfl).trans ex739_51))))); omega, by have := e217; omega, by have := e217; have := e207; omega, by have := e217; have := e207; omega, by have := ((hQ179.at g_739_51 rfl).trans ((hQ148.at g_739_51 rfl).trans ((hQ136.at g_739_51 rfl).trans ((hQ76.at g_739_51 rfl).trans ((hQ3.at g_739_51 rfl).trans ex739_51))))); have := e207; omega, Or.inl ⟨by omega, by rw [e213, ((hQ179.at g_739_33 rfl).trans e165), e207, e217]; exact RG_c xh196 (by omega) (by omega) rfl (by omega) (by omega)⟩, pr197, (GH_of0 ((hQ179.at g_739_51 rfl).trans ((hQ148.at g_739_51 rfl).trans ((hQ136.at g_739_51 rfl).trans ((hQ76.at g_739_51 rfl).trans ((hQ3.at g_739_51 rfl).trans ex739_51))))) (by omega) pr198), pr199, pr200⟩)
        · intro h220
          exfalso
          omega
      · intro h221
        clear h113 h114 h115
        refine wk_al0 r112_36 (wk_c1 r112_37 (wk_cv2 r112_38 kc_739_137 rfl (m8137_739 _ M74 1 v41 v92 v45 hP75 (by decide) (by decide) ((hQ76.at g_739_28 rfl).trans e42) (by first | with_reducible assumption | omega) (by first | with_reducible assumption | omega) e93 (by first | with_reducible assumption | omega) (by first | with_reducible assumption | omega) ((hQ76.at g_739_29 rfl).trans e46) (by first | with_reducible assumption | omega) (by first | with_reducible assumption | omega)) (cqV ?_)))
        rintro M222 ⟨hP223, hQ224, h226, h227, h228, h229, h230, xh231⟩
        have hF225 : Fr fm_m8112_739 M0 M222 := hF77.tr hQ224 rfl
        obtain ⟨v232, e233⟩ : ∃ v, M222 739 28 = v := ⟨_, rfl⟩
        have h234 := (bf_739_28 hP223).1; rw [e233] at h234
        have h235 := (bf_739_28 hP223).2; rw [e233] at h235
        obtain ⟨v236, e237⟩ : ∃ v, M222 739 29 = v := ⟨_, rfl⟩
        have h238 := (bf_739_29 hP223).1; rw [e237] at h238
        have h239 := (bf_739_29 hP223).2; rw [e237] at h239
        have pr240 : GE M222 s0 u0 0 0 := GE_mn (Sm.fr hQ224 rfl) (fun q => by have := ((hQ76.at g_739_28 rfl).trans e42); have := e233; omega) (GE_sm (Sm.fr hQ76 rfl) pr49)
        refine wk_al0 r112_41 (wk_cv1 r112_42 kc_739_84 rfl (m8084_739 _ M222 v232 hP223 e233 (by first | with_reducible assumption | omega) (by first | with_reducible assumption | omega)) (cqI ?_))
        rintro v247 M241 ⟨hP242, hQ243, h248, h249, h245, h246⟩
        obtain rfl := Fr.same hQ243
        have e250 := e233
        refine wk_ifne r112_45 ⟨by omega, by omega⟩ ?_ ?_
        · intro h251
          exfalso
          omega
        · intro h252
          refine wk_c1 r112_48 ?_
          subst hQ; exact wk_zret r112_49 (by decide) (⟨rfl, _, rfl, hP223, hF225, by omega, by omega, by have := ((hQ224.at g_739_30 rfl).trans ((hQ76.at g_739_30 rfl).trans ((hQ3.at g_739_30 rfl).trans ex739_30))); have := ((hQ224.at g_739_31 rfl).trans e89); omega, by have := ((hQ224.at g_739_31 rfl).trans e89); have := ((hQ224.at g_739_33 rfl).trans e93); have := ((hQ224.at g_739_34 rfl).trans e97); omega, by have := ((hQ224.at g_739_31 rfl).trans e89); have := ((hQ224.at g_739_33 rfl).trans e93); have := ((hQ224.at g_739_34 rfl).trans e97); omega, by have := ((hQ224.at g_739_34 rfl).trans e97); have := ((hQ224.at g_739_32 rfl).trans e101); omega, by have := ((hQ224.at g_739_33 rfl).trans e93); omega, by have := e233; omega, by have := ((hQ224.at g_739_33 rfl).trans e93); have := ((hQ224.at g_739_47 rfl).trans ((hQ76.at g_739_47 rfl).trans ((hQ3.at g_739_47 rfl).trans ex739_47))); have := ((hQ224.at g_739_45 rfl).trans ((hQ76.at g_739_45 rfl).trans ((hQ3.at g_739_45 rfl).trans ex739_45))); have := ((hQ224.at g_739_46 rfl).trans ((hQ76.at g_739_46 rfl).trans ((hQ3.at g_739_46 rfl).trans ex739_46))); have := e233; omega, by have := ((hQ224.at g_739_45 rfl).trans ((hQ76.at g_739_45 rfl).trans ((hQ3.at g_739_45 rfl).trans ex739_45))); have := ((hQ224.at g_739_46 rfl).trans ((hQ76.at g_739_46 rfl).trans ((hQ3.at g_739_46 rfl).trans ex739_46))); omega, by have := ((hQ224.at g_739_47 rfl).trans ((hQ76.at g_739_47 rfl).trans ((hQ3.at g_739_47 rfl).trans ex739_47))); have := e233; omega, by have := ((hQ224.at g_739_33 rfl).trans e93); have := e233; omega, by have := ((hQ224.at g_739_51 rfl).trans ((hQ76.at g_739_51 rfl).trans ((hQ3.at g_739_51 rfl).trans ex739_51))); omega, by have := e237; omega, by have := e237; have := e233; omega, by have := e237; have := e233; omega, by have := ((hQ224.at g_739_51 rfl).trans ((hQ76.at g_739_51 rfl).trans ((hQ3.at g_739_51 rfl).trans ex739_51))); have := e233; omega, Or.inr ⟨by omega, by rw [((hQ224.at g_739_47 rfl).trans ((hQ76.at g_739_47 rfl).trans ((hQ3.at g_739_47 rfl).trans ex739_47))), ((hQ224.at g_739_33 rfl).trans e93), e233, e237]; exact n49 (v2 := v92) r1 (by omega) (by omega) (by omega) (by omega) (by omega)⟩, (TK_sm (Sm.fr hQ224 rfl) pr84), (GH_vac e233 (by omega)), (TXQ_sm (Sm.fr hQ224 rfl) pr85), (TTP_sm (Sm.fr hQ224 rfl) pr86)⟩)
