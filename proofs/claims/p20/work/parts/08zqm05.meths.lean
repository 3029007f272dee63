/-! ===== written by program (wip/layer4) ===== -/
def fm_m8114_739 : Nat := 3198183334179513849174334711124306039004150098954425584320512
set_option maxHeartbeats 20000000 in
/-- IslandHallModel.number -/
theorem m8114_739 {B : eB} (d : Nat) (M0 : Mm) (p1 : Int) (p2 : Int) (x739_30 : Int) (x739_31 : Int) (x739_33 : Int) (x739_34 : Int) (x739_32 : Int) (x739_28 : Int) (x739_35 : Int) (x739_29 : Int) (T : Int → Int) (hP0 : Pw M0) (l1 : 0 ≤ p1) (u1 : p1 ≤ 1) (l2 : 1 ≤ p2) (u2 : p2 ≤ 99) (ex739_30 : M0 739 30 = x739_30) (lx739_30 : 0 ≤ x739_30) (ux739_30 : x739_30 ≤ 500) (ex739_31 : M0 739 31 = x739_31) (lx739_31 : 0 ≤ x739_31) (ux739_31 : x739_31 ≤ 500) (ex739_33 : M0 739 33 = x739_33) (lx739_33 : 0 ≤ x739_33) (ux739_33 : x739_33 ≤ 500) (ex739_34 : M0 739 34 = x739_34) (lx739_34 : 0 ≤ x739_34) (ux739_34 : x739_34 ≤ 500) (ex739_32 : M0 739 32 = x739_32) (lx739_32 : 0 ≤ x739_32) (ux739_32 : x739_32 ≤ 4) (ex739_28 : M0 739 28 = x739_28) (lx739_28 : 0 ≤ x739_28) (ux739_28 : x739_28 ≤ 6) (ex739_35 : M0 739 35 = x739_35) (lx739_35 : 0 ≤ x739_35) (ux739_35 : x739_35 ≤ 999) (ex739_29 : M0 739 29 = x739_29) (lx739_29 : (-1) ≤ x739_29) (ux739_29 : x739_29 ≤ 501) (rp0 : 0 ≤ x739_30 + (-1) * x739_31) (rp1 : 0 ≤ x739_31 + (-1) * x739_33 + (-1) * x739_34) (rp2 : 0 ≤ (-1) * x739_31 + x739_33 + x739_34) (rp3 : 0 ≤ 4 * x739_34 + (-1) * x739_32) (pp_TK : TK M0) (pp_TQ : TXQ T M0) (pp_TT : TTP T M0) : Ct B (d + 3) 114 [R 739, I p1, I p2] M0 (qI fun z M => Pw M ∧ Fr fm_m8114_739 M0 M ∧ 0 ≤ z ∧ z ≤ 999 ∧ 0 ≤ M 739 30 + (-1) * (M 739 31) ∧ 0 ≤ M 739 31 + (-1) * (M 739 33) + (-1) * (M 739 34) ∧ 0 ≤ (-1) * (M 739 31) + M 739 33 + M 739 34 ∧ 0 ≤ 4 * (M 739 34) + (-1) * (M 739 32) ∧ 0 ≤ M 739 33 + (-1) * x739_33 ∧ 0 ≤ M 739 28 + (-1) * x739_28 ∧ 0 ≤ M 739 33 + (-1) * x739_33 + M 739 28 + (-1) ∧ 0 ≤ p2 + 999 * (M 739 28) + (-1) * z ∧ 0 ≤ z + (-1) * p1 + 999 * (M 739 28) ∧ 0 ≤ M 739 29 + 1 ∧ 0 ≤ M 739 29 + (-1) * x739_29 + 3000 * (M 739 28) ∧ 0 ≤ (-1) * (M 739 29) + x739_29 + 3000 * (M 739 28) ∧ ((x739_28 = 0 ∧ nuE T x739_30 x739_33 p1 p2 = 0 ∧ M 739 28 = 0 ∧ M 739 29 = x739_29 ∧ M 739 33 = nx T x739_30 x739_33 ∧ x739_33 + 1 ≤ M 739 33 ∧ z = vlI T x739_30 x739_33) ∨ (x739_28 = 0 ∧ nuE T x739_30 x739_33 p1 p2 ≠ 0 ∧ M 739 28 = nuE T x739_30 x739_33 p1 p2 ∧ M 739 29 = x739_33) ∨ (x739_28 ≠ 0 ∧ M 739 28 = x739_28 ∧ M 739 29 = x739_29)) ∧ (TK M) ∧ (TXQ T M) ∧ (TTP T M)) := by
  refine ct_of (d := d + 2) (k := 1) (L := [some (R 739), some (I p1), some (I p2), none]) rfl rfl rfl ?_
  have hF0 := Fr.rf fm_m8114_739 M0
  generalize hQ : (qI fun z M => Pw M ∧ Fr fm_m8114_739 M0 M ∧ 0 ≤ z ∧ z ≤ 999 ∧ 0 ≤ M 739 30 + (-1) * (M 739 31) ∧ 0 ≤ M 739 31 + (-1) * (M 739 33) + (-1) * (M 739 34) ∧ 0 ≤ (-1) * (M 739 31) + M 739 33 + M 739 34 ∧ 0 ≤ 4 * (M 739 34) + (-1) * (M 739 32) ∧ 0 ≤ M 739 33 + (-1) * x739_33 ∧ 0 ≤ M 739 28 + (-1) * x739_28 ∧ 0 ≤ M 739 33 + (-1) * x739_33 + M 739 28 + (-1) ∧ 0 ≤ p2 + 999 * (M 739 28) + (-1) * z ∧ 0 ≤ z + (-1) * p1 + 999 * (M 739 28) ∧ 0 ≤ M 739 29 + 1 ∧ 0 ≤ M 739 29 + (-1) * x739_29 + 3000 * (M 739 28) ∧ 0 ≤ (-1) * (M 739 29) + x739_29 + 3000 * (M 739 28) ∧ ((x739_28 = 0 ∧ nuE T x739_30 x739_33 p1 p2 = 0 ∧ M 739 28 = 0 ∧ M 739 29 = x739_29 ∧ M 739 33 = nx T x739_30 x739_33 ∧ x739_33 + 1 ≤ M 739 33 ∧ z = vlI T x739_30 x739_33) ∨ (x739_28 = 0 ∧ nuE T x739_30 x739_33 p1 p2 ≠ 0 ∧ M 739 28 = nuE T x739_30 x739_33 p1 p2 ∧ M 739 29 = x739_33) ∨ (x739_28 ≠ 0 ∧ M 739 28 = x739_28 ∧ M 739 29 = x739_29)) ∧ (TK M) ∧ (TXQ T M) ∧ (TTP T M)) = Q
  have hTT := pp_TT
  unfold TTP at hTT
  rw [ex739_30, ex739_33] at hTT
  have hlt := tt_lt T x739_30 x739_33
  have hvc := vlI_c T x739_30 x739_33
  have hv9 : M0 739 32 = 2 → M0 739 34 ≤ 3 → M0 739 35 = vlI T x739_30 x739_33 := fun q1 q2 => by have q3 := hTT.2.2.2.2.2.1 q1 q2; rw [show (M0 739 34).toNat = (ee T x739_30 x739_33 - x739_33).toNat by omega] at q3; omega
  refine wk_al0 r114_0 (wk_cv1 r114_1 kc_739_84 rfl (m8084_739 _ M0 x739_28 hP0 ex739_28 (by first | with_reducible assumption | omega) (by first | with_reducible assumption | omega)) (cqI ?_))
  rintro v7 M1 ⟨hP2, hQ3, h8, h9, h5, h6⟩
  obtain rfl := Fr.same hQ3
  have e10 := ex739_28
  refine wk_ifne r114_4 ⟨by omega, by omega⟩ ?_ ?_
  · intro h11
    refine wk_al0 r114_9 (wk_getfi r114_10 fd_739_32 ex739_32 (wk_c1 r114_13 ?_))
    refine wk_iceq r114_14 ⟨by omega, by omega⟩ (by decide) ?_ ?_
    · intro h12
      refine wk_al0 r114_25 (wk_getfi r114_26 fd_739_34 ex739_34 (wk_c1 r114_29 ?_))
      refine wk_icgt r114_30 ⟨by omega, by omega⟩ (by decide) ?_ ?_
      · intro h13
        refine wk_al0 r114_49 (wk_c1 r114_50 (wk_cv2 r114_51 kc_739_137 rfl (m8137_739 _ M0 2 x739_28 x739_33 x739_29 hP0 (by decide) (by decide) ex739_28 (by first | with_reducible assumption | omega) (by first | with_reducible assumption | omega) ex739_33 (by first | with_reducible assumption | omega) (by first | with_reducible assumption | omega) ex739_29 (by first | with_reducible assumption | omega) (by first | with_reducible assumption | omega)) (cqV ?_)))
        rintro M14 ⟨hP15, hQ16, h18, h19, h20, h21, h22, xh23⟩
        have hF17 : Fr fm_m8114_739 M0 M14 := hF0.tr hQ16 rfl
        obtain ⟨v24, e25⟩ : ∃ v, M14 739 28 = v := ⟨_, rfl⟩
        have h26 := (bf_739_28 hP15).1; rw [e25] at h26
        have h27 := (bf_739_28 hP15).2; rw [e25] at h27
        obtain ⟨v28, e29⟩ : ∃ v, M14 739 29 = v := ⟨_, rfl⟩
        have h30 := (bf_739_29 hP15).1; rw [e29] at h30
        have h31 := (bf_739_29 hP15).2; rw [e29] at h31
        refine wk_al0 r114_54 (wk_getfi r114_55 fd_739_35 ((hQ16.at g_739_35 rfl).trans ex739_35) (wk_is3 r114_58 rfl (wk_al0 r114_59 (wk_cv1 r114_60 kc_739_84 rfl (m8084_739 _ M14 v24 hP15 e25 (by first | with_reducible assumption | omega) (by first | with_reducible assumption | omega)) (cqI ?_)))))
        rintro v38 M32 ⟨hP33, hQ34, h39, h40, h36, h37⟩
        obtain rfl := Fr.same hQ34
        have e41 := e25
        refine wk_ifeq r114_63 ⟨by omega, by omega⟩ ?_ ?_
        · intro h42
          refine wk_il3 r114_70 ?_
          subst hQ; exact wk_iret r114_71 (⟨rfl, _, rfl, hP15, hF17, by omega, by omega, by have := ((hQ16.at g_739_30 rfl).trans ex739_30); have := ((hQ16.at g_739_31 rfl).trans ex739_31); omega, by have := ((hQ16.at g_739_31 rfl).trans ex739_31); have := ((hQ16.at g_739_33 rfl).trans ex739_33); have := ((hQ16.at g_739_34 rfl).trans ex739_34); omega, by have := ((hQ16.at g_739_31 rfl).trans ex739_31); have := ((hQ16.at g_739_33 rfl).trans ex739_33); have := ((hQ16.at g_739_34 rfl).trans ex739_34); omega, by have := ((hQ16.at g_739_34 rfl).trans ex739_34); have := ((hQ16.at g_739_32 rfl).trans ex739_32); omega, by have := ((hQ16.at g_739_33 rfl).trans ex739_33); omega, by have := e25; omega, by have := ((hQ16.at g_739_33 rfl).trans ex739_33); have := e25; omega, by have := e25; omega, by have := e25; omega, by have := e29; omega, by have := e29; have := e25; omega, by have := e29; have := e25; omega, Or.inr (Or.inl ⟨by omega, by have := ((hQ16.at g_739_33 rfl).trans ex739_33); have := e25; have := e29; have := nuE_c T x739_30 x739_33 p1 p2; omega, by have := ((hQ16.at g_739_33 rfl).trans ex739_33); have := e25; have := e29; have := nuE_c T x739_30 x739_33 p1 p2; omega, by have := ((hQ16.at g_739_33 rfl).trans ex739_33); have := e25; have := e29; omega⟩), (TK_sm (Sm.fr hQ16 rfl) pp_TK), (TXQ_sm (Sm.fr hQ16 rfl) pp_TQ), (TTP_sm (Sm.fr hQ16 rfl) pp_TT)⟩)
        · intro h43
          exfalso
          omega
      · intro h44
        refine wk_al0 r114_33 (wk_getfi r114_34 fd_739_35 ex739_35 (wk_il1 r114_37 ?_))
        refine wk_iclt r114_38 ⟨by omega, by omega⟩ ⟨by omega, by omega⟩ ?_ ?_
        · intro h45
          refine wk_al0 r114_49 (wk_c1 r114_50 (wk_cv2 r114_51 kc_739_137 rfl (m8137_739 _ M0 2 x739_28 x739_33 x739_29 hP0 (by decide) (by decide) ex739_28 (by first | with_reducible assumption | omega) (by first | with_reducible assumption | omega) ex739_33 (by first | with_reducible assumption | omega) (by first | with_reducible assumption | omega) ex739_29 (by first | with_reducible assumption | omega) (by first | with_reducible assumption | omega)) (cqV ?_)))
          rintro M46 ⟨hP47, hQ48, h50, h51, h52, h53, h54, xh55⟩
          have hF49 : Fr fm_m8114_739 M0 M46 := hF0.tr hQ48 rfl
          obtain ⟨v56, e57⟩ : ∃ v, M46 739 28 = v := ⟨_, rfl⟩
          have h58 := (bf_739_28 hP47).1; rw [e57] at h58
          have h59 := (bf_739_28 hP47).2; rw [e57] at h59
          obtain ⟨v60, e61⟩ : ∃ v, M46 739 29 = v := ⟨_, rfl⟩
          have h62 := (bf_739_29 hP47).1; rw [e61] at h62
          have h63 := (bf_739_29 hP47).2; rw [e61] at h63
          refine wk_al0 r114_54 (wk_getfi r114_55 fd_739_35 ((hQ48.at g_739_35 rfl).trans ex739_35) (wk_is3 r114_58 rfl (wk_al0 r114_59 (wk_cv1 r114_60 kc_739_84 rfl (m8084_739 _ M46 v56 hP47 e57 (by first | with_reducible assumption | omega) (by first | with_reducible assumption | omega)) (cqI ?_)))))
          rintro v70 M64 ⟨hP65, hQ66, h71, h72, h68, h69⟩
          obtain rfl := Fr.same hQ66
          have e73 := e57
          refine wk_ifeq r114_63 ⟨by omega, by omega⟩ ?_ ?_
          · intro h74
            refine wk_il3 r114_70 ?_
            subst hQ; exact wk_iret r114_71 (⟨rfl, _, rfl, hP47, hF49, by omega, by omega, by have := ((hQ48.at g_739_30 rfl).trans ex739_30); have := ((hQ48.at g_739_31 rfl).trans ex739_31); omega, by have := ((hQ48.at g_739_31 rfl).trans ex739_31); have := ((hQ48.at g_739_33 rfl).trans ex739_33); have := ((hQ48.at g_739_34 rfl).trans ex739_34); omega, by have := ((hQ48.at g_739_31 rfl).trans ex739_31); have := ((hQ48.at g_739_33 rfl).trans ex739_33); have := ((hQ48.at g_739_34 rfl).trans ex739_34); omega, by have := ((hQ48.at g_739_34 rfl).trans ex739_34); have := ((hQ48.at g_739_32 rfl).trans ex739_32); omega, by have := ((hQ48.at g_739_33 rfl).trans ex739_33); omega, by have := e57; omega, by have := ((hQ48.at g_739_33 rfl).trans ex739_33); have := e57; omega, by have := e57; omega, by have := e57; omega, by have := e61; omega, by have := e61; have := e57; omega, by have := e61; have := e57; omega, Or.inr (Or.inl ⟨by omega, by have := ((hQ48.at g_739_33 rfl).trans ex739_33); have := e57; have := e61; have := nuE_c T x739_30 x739_33 p1 p2; omega, by have := ((hQ48.at g_739_33 rfl).trans ex739_33); have := e57; have := e61; have := nuE_c T x739_30 x739_33 p1 p2; omega, by have := ((hQ48.at g_739_33 rfl).trans ex739_33); have := e57; have := e61; omega⟩), (TK_sm (Sm.fr hQ48 rfl) pp_TK), (TXQ_sm (Sm.fr hQ48 rfl) pp_TQ), (TTP_sm (Sm.fr hQ48 rfl) pp_TT)⟩)
          · intro h75
            exfalso
            omega
        · intro h76
          refine wk_al0 r114_41 (wk_getfi r114_42 fd_739_35 ex739_35 (wk_il2 r114_45 ?_))
          refine wk_icle r114_46 ⟨by omega, by omega⟩ ⟨by omega, by omega⟩ ?_ ?_
          · intro h77
            refine wk_al0 r114_54 (wk_getfi r114_55 fd_739_35 ex739_35 (wk_is3 r114_58 rfl (wk_al0 r114_59 (wk_cv1 r114_60 kc_739_84 rfl (m8084_739 _ M0 x739_28 hP0 ex739_28 (by first | with_reducible assumption | omega) (by first | with_reducible assumption | omega)) (cqI ?_)))))
            rintro v84 M78 ⟨hP79, hQ80, h85, h86, h82, h83⟩
            obtain rfl := Fr.same hQ80
            have e87 := ex739_28
            refine wk_ifeq r114_63 ⟨by omega, by omega⟩ ?_ ?_
            · intro h88
              exfalso
              omega
            · intro h89
              refine wk_al0 r114_66 (wk_cv1 r114_67 kc_739_76 rfl (m8076_739 _ M0 x739_30 x739_31 T hP0 ex739_30 (by first | with_reducible assumption | omega) (by first | with_reducible assumption | omega) ex739_31 (by first | with_reducible assumption | omega) (by first | with_reducible assumption | omega) (by omega) pp_TQ) (cqV ?_))
              rintro M90 ⟨hP91, hQ92, h94, h95, h96, h97, h98, xh99, pr100, pr101, pr102⟩
              have hF93 : Fr fm_m8114_739 M0 M90 := hF0.tr hQ92 rfl
              have e103 := ((hQ92.at g_739_30 rfl).trans ex739_30)
              obtain ⟨v104, e105⟩ : ∃ v, M90 739 31 = v := ⟨_, rfl⟩
              have h106 := (bf_739_31 hP91).1; rw [e105] at h106
              have h107 := (bf_739_31 hP91).2; rw [e105] at h107
              obtain ⟨v108, e109⟩ : ∃ v, M90 739 33 = v := ⟨_, rfl⟩
              have h110 := (bf_739_33 hP91).1; rw [e109] at h110
              have h111 := (bf_739_33 hP91).2; rw [e109] at h111
              obtain ⟨v112, e113⟩ : ∃ v, M90 739 34 = v := ⟨_, rfl⟩
              have h114 := (bf_739_34 hP91).1; rw [e113] at h114
              have h115 := (bf_739_34 hP91).2; rw [e113] at h115
              obtain ⟨v116, e117⟩ : ∃ v, M90 739 32 = v := ⟨_, rfl⟩
              have h118 := (bf_739_32 hP91).1; rw [e117] at h118
              have h119 := (bf_739_32 hP91).2; rw [e117] at h119
              have hn120 := nx_ofm pp_TT ex739_30 ex739_33 ex739_31 xh99
              refine wk_il3 r114_70 ?_
              subst hQ; exact wk_iret r114_71 (⟨rfl, _, rfl, hP91, hF93, by omega, by omega, by have := ((hQ92.at g_739_30 rfl).trans ex739_30); have := e105; omega, by have := e105; have := e109; have := e113; omega, by have := e105; have := e109; have := e113; omega, by have := e113; have := e117; omega, by have := e109; omega, by have := ((hQ92.at g_739_28 rfl).trans ex739_28); omega, by have := e109; have := ((hQ92.at g_739_28 rfl).trans ex739_28); omega, by have := ((hQ92.at g_739_28 rfl).trans ex739_28); omega, by have := ((hQ92.at g_739_28 rfl).trans ex739_28); omega, by have := ((hQ92.at g_739_29 rfl).trans ex739_29); omega, by have := ((hQ92.at g_739_29 rfl).trans ex739_29); have := ((hQ92.at g_739_28 rfl).trans ex739_28); omega, by have := ((hQ92.at g_739_29 rfl).trans ex739_29); have := ((hQ92.at g_739_28 rfl).trans ex739_28); omega, Or.inl ⟨by omega, by have := e109; have := ((hQ92.at g_739_28 rfl).trans ex739_28); have := ((hQ92.at g_739_29 rfl).trans ex739_29); have := nuE_c T x739_30 x739_33 p1 p2; omega, by have := e109; have := ((hQ92.at g_739_28 rfl).trans ex739_28); have := ((hQ92.at g_739_29 rfl).trans ex739_29); omega, by have := e109; have := ((hQ92.at g_739_28 rfl).trans ex739_28); have := ((hQ92.at g_739_29 rfl).trans ex739_29); omega, by have := e109; have := ((hQ92.at g_739_28 rfl).trans ex739_28); have := ((hQ92.at g_739_29 rfl).trans ex739_29); omega, by have := e109; have := ((hQ92.at g_739_28 rfl).trans ex739_28); have := ((hQ92.at g_739_29 rfl).trans ex739_29); have := nuE_c T x739_30 x739_33 p1 p2; have := tt_lt T x739_30 x739_33; have := nx_lt (T := T) (n := x739_30) (s := x739_33) (by omega); omega, by have := e109; have := ((hQ92.at g_739_28 rfl).trans ex739_28); have := ((hQ92.at g_739_29 rfl).trans ex739_29); have := nuE_c T x739_30 x739_33 p1 p2; omega⟩, pr100, pr101, pr102⟩)
          · intro h121
            refine wk_al0 r114_49 (wk_c1 r114_50 (wk_cv2 r114_51 kc_739_137 rfl (m8137_739 _ M0 2 x739_28 x739_33 x739_29 hP0 (by decide) (by decide) ex739_28 (by first | with_reducible assumption | omega) (by first | with_reducible assumption | omega) ex739_33 (by first | with_reducible assumption | omega) (by first | with_reducible assumption | omega) ex739_29 (by first | with_reducible assumption | omega) (by first | with_reducible assumption | omega)) (cqV ?_)))
            rintro M122 ⟨hP123, hQ124, h126, h127, h128, h129, h130, xh131⟩
            have hF125 : Fr fm_m8114_739 M0 M122 := hF0.tr hQ124 rfl
            obtain ⟨v132, e133⟩ : ∃ v, M122 739 28 = v := ⟨_, rfl⟩
            have h134 := (bf_739_28 hP123).1; rw [e133] at h134
            have h135 := (bf_739_28 hP123).2; rw [e133] at h135
            obtain ⟨v136, e137⟩ : ∃ v, M122 739 29 = v := ⟨_, rfl⟩
            have h138 := (bf_739_29 hP123).1; rw [e137] at h138
            have h139 := (bf_739_29 hP123).2; rw [e137] at h139
            refine wk_al0 r114_54 (wk_getfi r114_55 fd_739_35 ((hQ124.at g_739_35 rfl).trans ex739_35) (wk_is3 r114_58 rfl (wk_al0 r114_59 (wk_cv1 r114_60 kc_739_84 rfl (m8084_739 _ M122 v132 hP123 e133 (by first | with_reducible assumption | omega) (by first | with_reducible assumption | omega)) (cqI ?_)))))
            rintro v146 M140 ⟨hP141, hQ142, h147, h148, h144, h145⟩
            obtain rfl := Fr.same hQ142
            have e149 := e133
            refine wk_ifeq r114_63 ⟨by omega, by omega⟩ ?_ ?_
            · intro h150
              refine wk_il3 r114_70 ?_
              subst hQ; exact wk_iret r114_71 (⟨rfl, _, rfl, hP123, hF125, by omega, by omega, by have := ((hQ124.at g_739_30 rfl).trans ex739_30); have := ((hQ124.at g_739_31 rfl).trans ex739_31); omega, by have := ((hQ124.at g_739_31 rfl).trans ex739_31); have := ((hQ124.at g_739_33 rfl).trans ex739_33); have := ((hQ124.at g_739_34 rfl).trans ex739_34); omega, by have := ((hQ124.at g_739_31 rfl).trans ex739_31); have := ((hQ124.at g_739_33 rfl).trans ex739_33); have := ((hQ124.at g_739_34 rfl).trans ex739_34); omega, by have := ((hQ124.at g_739_34 rfl).trans ex739_34); have := ((hQ124.at g_739_32 rfl).trans ex739_32); omega, by have := ((hQ124.at g_739_33 rfl).trans ex739_33); omega, by have := e133; omega, by have := ((hQ124.at g_739_33 rfl).trans ex739_33); have := e133; omega, by have := e133; omega, by have := e133; omega, by have := e137; omega, by have := e137; have := e133; omega, by have := e137; have := e133; omega, Or.inr (Or.inl ⟨by omega, by have := ((hQ124.at g_739_33 rfl).trans ex739_33); have := e133; have := e137; have := nuE_c T x739_30 x739_33 p1 p2; omega, by have := ((hQ124.at g_739_33 rfl).trans ex739_33); have := e133; have := e137; have := nuE_c T x739_30 x739_33 p1 p2; omega, by have := ((hQ124.at g_739_33 rfl).trans ex739_33); have := e133; have := e137; omega⟩), (TK_sm (Sm.fr hQ124 rfl) pp_TK), (TXQ_sm (Sm.fr hQ124 rfl) pp_TQ), (TTP_sm (Sm.fr hQ124 rfl) pp_TT)⟩)
            · intro h151
              exfalso
              omega
    · intro h152
      refine wk_al0 r114_17 (wk_c1 r114_18 (wk_cv2 r114_19 kc_739_137 rfl (m8137_739 _ M0 1 x739_28 x739_33 x739_29 hP0 (by decide) (by decide) ex739_28 (by first | with_reducible assumption | omega) (by first | with_reducible assumption | omega) ex739_33 (by first | with_reducible assumption | omega) (by first | with_reducible assumption | omega) ex739_29 (by first | with_reducible assumption | omega) (by first | with_reducible assumption | omega)) (cqV ?_)))
      rintro M153 ⟨hP154, hQ155, h157, h158, h159, h160, h161, xh162⟩
      have hF156 : Fr fm_m8114_739 M0 M153 := hF0.tr hQ155 rfl
      obtain ⟨v163, e164⟩ : ∃ v, M153 739 28 = v := ⟨_, rfl⟩
      have h165 := (bf_739_28 hP154).1; rw [e164] at h165
      have h166 := (bf_739_28 hP154).2; rw [e164] at h166
      obtain ⟨v167, e168⟩ : ∃ v, M153 739 29 = v := ⟨_, rfl⟩
      have h169 := (bf_739_29 hP154).1; rw [e168] at h169
      have h170 := (bf_739_29 hP154).2; rw [e168] at h170
      refine wk_goto r114_22 (wk_al0 r114_54 (wk_getfi r114_55 fd_739_35 ((hQ155.at g_739_35 rfl).trans ex739_35) (wk_is3 r114_58 rfl (wk_al0 r114_59 (wk_cv1 r114_60 kc_739_84 rfl (m8084_739 _ M153 v163 hP154 e164 (by first | with_reducible assumption | omega) (by first | with_reducible assumption | omega)) (cqI ?_))))))
      rintro v177 M171 ⟨hP172, hQ173, h178, h179, h175, h176⟩
      obtain rfl := Fr.same hQ173
      have e180 := e164
      refine wk_ifeq r114_63 ⟨by omega, by omega⟩ ?_ ?_
      · intro h181
        refine wk_il3 r114_70 ?_
        subst hQ; exact wk_iret r114_71 (⟨rfl, _, rfl, hP154, hF156, by omega, by omega, by have := ((hQ155.at g_739_30 rfl).trans ex739_30); have := ((hQ155.at g_739_31 rfl).trans ex739_31); omega, by have := ((hQ155.at g_739_31 rfl).trans ex739_31); have := ((hQ155.at g_739_33 rfl).trans ex739_33); have := ((hQ155.at g_739_34 rfl).trans ex739_34); omega, by have := ((hQ155.at g_739_31 rfl).trans ex739_31); have := ((hQ155.at g_739_33 rfl).trans ex739_33); have := ((hQ155.at g_739_34 rfl).trans ex739_34); omega, by have := ((hQ155.at g_739_34 rfl).trans ex739_34); have := ((hQ155.at g_739_32 rfl).trans ex739_32); omega, by have := ((hQ155.at g_739_33 rfl).trans ex739_33); omega, by have := e164; omega, by have := ((hQ155.at g_739_33 rfl).trans ex739_33); have := e164; omega, by have := e164; omega, by have := e164; omega, by have := e168; omega, by have := e168; have := e164; omega, by have := e168; have := e164; omega, Or.inr (Or.inl ⟨by omega, by have := ((hQ155.at g_739_33 rfl).trans ex739_33); have := e164; have := e168; have := nuE_c T x739_30 x739_33 p1 p2; omega, by have := ((hQ155.at g_739_33 rfl).trans ex739_33); have := e164; have := e168; have := nuE_c T x739_30 x739_33 p1 p2; omega, by have := ((hQ155.at g_739_33 rfl).trans ex739_33); have := e164; have := e168; omega⟩), (TK_sm (Sm.fr hQ155 rfl) pp_TK), (TXQ_sm (Sm.fr hQ155 rfl) pp_TQ), (TTP_sm (Sm.fr hQ155 rfl) pp_TT)⟩)
      · intro h182
        exfalso
        omega
  · intro h183
    refine wk_c1 r114_7 ?_
    subst hQ; exact wk_iret r114_8 (⟨rfl, _, rfl, hP0, hF0, by omega, by omega, by have := ex739_30; have := ex739_31; omega, by have := ex739_31; have := ex739_33; have := ex739_34; omega, by have := ex739_31; have := ex739_33; have := ex739_34; omega, by have := ex739_34; have := ex739_32; omega, by have := ex739_33; omega, by have := ex739_28; omega, by have := ex739_33; have := ex739_28; omega, by have := ex739_28; omega, by have := ex739_28; omega, by have := ex739_29; omega, by have := ex739_29; have := ex739_28; omega, by have := ex739_29; have := ex739_28; omega, Or.inr (Or.inr ⟨by omega, by have := ex739_33; have := ex739_28; have := ex739_29; omega, by have := ex739_33; have := ex739_28; have := ex739_29; omega⟩), pp_TK, pp_TQ, pp_TT⟩)
def fm_m8047_739 : Nat := 452312848583680962695988641214575056682186339532443141395638536922332135424
set_option maxHeartbeats 20000000 in
/-- IslandHallModel.atom -/
theorem m8047_739 {B : eB} (d : Nat) (M0 : Mm) (x739_30 : Int) (x739_31 : Int) (x739_33 : Int) (x739_34 : Int) (x739_32 : Int) (x739_28 : Int) (x739_45 : Int) (x739_46 : Int) (x739_47 : Int) (x739_35 : Int) (x739_36 : Int) (x739_29 : Int) (x739_38 : Int) (s0 : Int) (u0 : Int → Int) (T : Int → Int) (c0 : Cg) (gk : Int) (hP0 : Pw M0) (ex739_30 : M0 739 30 = x739_30) (lx739_30 : 0 ≤ x739_30) (ux739_30 : x739_30 ≤ 500) (ex739_31 : M0 739 31 = x739_31) (lx739_31 : 0 ≤ x739_31) (ux739_31 : x739_31 ≤ 500) (ex739_33 : M0 739 33 = x739_33) (lx739_33 : 0 ≤ x739_33) (ux739_33 : x739_33 ≤ 500) (ex739_34 : M0 739 34 = x739_34) (lx739_34 : 0 ≤ x739_34) (ux739_34 : x739_34 ≤ 500) (ex739_32 : M0 739 32 = x739_32) (lx739_32 : 0 ≤ x739_32) (ux739_32 : x739_32 ≤ 4) (ex739_28 : M0 739 28 = x739_28) (lx739_28 : 0 ≤ x739_28) (ux739_28 : x739_28 ≤ 6) (ex739_45 : M0 739 45 = x739_45) (lx739_45 : 0 ≤ x739_45) (ux739_45 : x739_45 ≤ 1000) (ex739_46 : M0 739 46 = x739_46) (lx739_46 : 0 ≤ x739_46) (ux739_46 : x739_46 ≤ 520) (ex739_47 : M0 739 47 = x739_47) (lx739_47 : 0 ≤ x739_47) (ux739_47 : x739_47 ≤ 500) (ex739_35 : M0 739 35 = x739_35) (lx739_35 : 0 ≤ x739_35) (ux739_35 : x739_35 ≤ 999) (ex739_36 : M0 739 36 = x739_36) (lx739_36 : 0 ≤ x739_36) (ux739_36 : x739_36 ≤ 255) (ex739_29 : M0 739 29 = x739_29) (lx739_29 : (-1) ≤ x739_29) (ux739_29 : x739_29 ≤ 501) (ex739_38 : M0 739 38 = x739_38) (lx739_38 : 0 ≤ x739_38) (ux739_38 : x739_38 ≤ 999) (rp0 : 0 ≤ x739_30 + (-1) * x739_31) (rp1 : 0 ≤ x739_31 + (-1) * x739_33 + (-1) * x739_34) (rp2 : 0 ≤ (-1) * x739_31 + x739_33 + x739_34) (rp3 : 0 ≤ 4 * x739_34 + (-1) * x739_32) (rp4 : 0 ≤ x739_33 + x739_47 + (-2) * x739_45 + (-2) * x739_46 + 3000 * x739_28) (rp5 : 0 ≤ (-2) * x739_45 + (-2) * x739_46 + 520) (rp6 : 0 ≤ (-1) * x739_47 + x739_28 + 6) (xp0 : x739_28 = 0) (xp1 : Rch T x739_30 x739_38 c0 (1, x739_47, x739_33, gk)) (xp2 : kw T x739_30 x739_33 ≠ 14) (xp3 : sgI T x739_30 x739_33 40 ≠ 1) (xp4 : nmI T x739_30 x739_33 ≠ 1) (pp_TK : TK M0) (pp_E0 : GE M0 s0 u0 0 0) (pp_TQ : TXQ T M0) (pp_TT : TTP T M0) : Ct B (d + 5) 47 [R 739] M0 (qV fun M => Pw M ∧ Fr fm_m8047_739 M0 M ∧ 0 ≤ M 739 30 + (-1) * (M 739 31) ∧ 0 ≤ M 739 31 + (-1) * (M 739 33) + (-1) * (M 739 34) ∧ 0 ≤ (-1) * (M 739 31) + M 739 33 + M 739 34 ∧ 0 ≤ 4 * (M 739 34) + (-1) * (M 739 32) ∧ 0 ≤ M 739 33 + (-1) * x739_33 ∧ 0 ≤ M 739 28 + (-1) * x739_28 ∧ 0 ≤ M 739 33 + M 739 47 + (-2) * (M 739 45) + (-2) * (M 739 46) + 3000 * (M 739 28) ∧ 0 ≤ (-2) * (M 739 45) + (-2) * (M 739 46) + 520 ∧ 0 ≤ (-1) * (M 739 47) + M 739 28 + 6 ∧ 0 ≤ M 739 29 + 1 ∧ 0 ≤ M 739 29 + (-1) * x739_29 + 3000 * (M 739 28) ∧ 0 ≤ (-1) * (M 739 29) + x739_29 + 3000 * (M 739 28) ∧ (RG T x739_30 x739_38 c0 2 (M 739 47) (M 739 33) 0 (M 739 28) (M 739 29)) ∧ (TK M) ∧ (GE M s0 u0 1 0) ∧ (TXQ T M) ∧ (TTP T M)) := by
  refine ct_of (d := d + 4) (k := 3) (L := [some (R 739), none, none, none]) rfl rfl rfl ?_
  have hF0 := Fr.rf fm_m8047_739 M0
  generalize hQ : (qV fun M => Pw M ∧ Fr fm_m8047_739 M0 M ∧ 0 ≤ M 739 30 + (-1) * (M 739 31) ∧ 0 ≤ M 739 31 + (-1) * (M 739 33) + (-1) * (M 739 34) ∧ 0 ≤ (-1) * (M 739 31) + M 739 33 + M 739 34 ∧ 0 ≤ 4 * (M 739 34) + (-1) * (M 739 32) ∧ 0 ≤ M 739 33 + (-1) * x739_33 ∧ 0 ≤ M 739 28 + (-1) * x739_28 ∧ 0 ≤ M 739 33 + M 739 47 + (-2) * (M 739 45) + (-2) * (M 739 46) + 3000 * (M 739 28) ∧ 0 ≤ (-2) * (M 739 45) + (-2) * (M 739 46) + 520 ∧ 0 ≤ (-1) * (M 739 47) + M 739 28 + 6 ∧ 0 ≤ M 739 29 + 1 ∧ 0 ≤ M 739 29 + (-1) * x739_29 + 3000 * (M 739 28) ∧ 0 ≤ (-1) * (M 739 29) + x739_29 + 3000 * (M 739 28) ∧ (RG T x739_30 x739_38 c0 2 (M 739 47) (M 739 33) 0 (M 739 28) (M 739 29)) ∧ (TK M) ∧ (GE M s0 u0 1 0) ∧ (TXQ T M) ∧ (TTP T M)) = Q
  refine wk_al0 r47_0 (wk_cv1 r47_1 kc_739_97 rfl (m8097_739 _ M0 x739_32 x739_34 x739_30 x739_33 T hP0 ex739_32 (by first | with_reducible assumption | omega) (by first | with_reducible assumption | omega) ex739_34 (by first | with_reducible assumption | omega) (by first | with_reducible assumption | omega) ex739_30 (by first | with_reducible assumption | omega) (by first | with_reducible assumption | omega) ex739_33 (by first | with_reducible assumption | omega) (by first | with_reducible assumption | omega) pp_TK pp_TT) (cqI ?_))
  rintro v7 M1 ⟨hP2, hQ3, h8, h9, h5, xh6⟩
  obtain rfl := Fr.same hQ3
  have e10 := ex739_34
  refine wk_is1 r47_4 rfl (wk_il1 r47_5 (wk_c2 r47_6 ?_))
  refine wk_iceq r47_8 ⟨by omega, by omega⟩ (by decide) ?_ ?_
  · intro h11
    refine wk_al0 r47_40 (wk_cv1 r47_41 kc_739_84 rfl (m8084_739 _ M0 x739_28 hP0 ex739_28 (by first | with_reducible assumption | omega) (by first | with_reducible assumption | omega)) (cqI ?_))
    rintro v18 M12 ⟨hP13, hQ14, h19, h20, h16, h17⟩
    obtain rfl := Fr.same hQ14
    have e21 := ex739_28
    refine wk_ifne r47_44 ⟨by omega, by omega⟩ ?_ ?_
    · intro h22
      refine wk_al0 r47_48 (wk_cv1 r47_49 kc_739_76 rfl (m8076_739 _ M0 x739_30 x739_31 T hP0 ex739_30 (by first | with_reducible assumption | omega) (by first | with_reducible assumption | omega) ex739_31 (by first | with_reducible assumption | omega) (by first | with_reducible assumption | omega) (by omega) pp_TQ) (cqV ?_))
      rintro M23 ⟨hP24, hQ25, h27, h28, h29, h30, h31, xh32, pr33, pr34, pr35⟩
      have hF26 : Fr fm_m8047_739 M0 M23 := hF0.tr hQ25 rfl
      have e36 := ((hQ25.at g_739_30 rfl).trans ex739_30)
      obtain ⟨v37, e38⟩ : ∃ v, M23 739 31 = v := ⟨_, rfl⟩
      have h39 := (bf_739_31 hP24).1; rw [e38] at h39
      have h40 := (bf_739_31 hP24).2; rw [e38] at h40
      obtain ⟨v41, e42⟩ : ∃ v, M23 739 33 = v := ⟨_, rfl⟩
      have h43 := (bf_739_33 hP24).1; rw [e42] at h43
      have h44 := (bf_739_33 hP24).2; rw [e42] at h44
      obtain ⟨v45, e46⟩ : ∃ v, M23 739 34 = v := ⟨_, rfl⟩
      have h47 := (bf_739_34 hP24).1; rw [e46] at h47
      have h48 := (bf_739_34 hP24).2; rw [e46] at h48
      obtain ⟨v49, e50⟩ : ∃ v, M23 739 32 = v := ⟨_, rfl⟩
      have h51 := (bf_739_32 hP24).1; rw [e50] at h51
      have h52 := (bf_739_32 hP24).2; rw [e50] at h52
      have hn53 := nx_ofm pp_TT ex739_30 ex739_33 ex739_31 xh32
      refine wk_il1 r47_52 (wk_c2 r47_53 ?_)
      refine wk_icne r47_55 ⟨by omega, by omega⟩ (by decide) ?_ ?_
      · intro h54
        refine wk_il1 r47_157 (wk_c2 r47_158 ?_)
        refine wk_icne r47_160 ⟨by omega, by omega⟩ (by decide) ?_ ?_
        · intro h55
          exfalso
          omega
        · intro h56
          refine wk_c1 r47_163 (wk_goto r47_164 (wk_is2 r47_190 rfl (wk_al0 r47_191 (wk_il1 r47_192 (wk_c2 r47_193 ?_)))))
          refine wk_icne r47_195 ⟨by omega, by omega⟩ (by decide) ?_ ?_
          · intro h57
            exfalso
            omega
          · intro h58
            refine wk_c1 r47_198 (wk_goto r47_199 ?_)
            have r1 : AX T x739_30 x739_38 c0 x739_47 3 v41 := A1 xp1 xp2 xp3 xp4 (by omega) (by omega)
            refine wk_al0 r47_225 (wk_c1 r47_226 (wk_il2 r47_227 ?_))
            obtain ⟨v59, e60⟩ : ∃ v, M23 739 35 = v := ⟨_, rfl⟩
            have h61 := (bf_739_35 hP24).1; rw [e60] at h61
            have h62 := (bf_739_35 hP24).2; rw [e60] at h62
            refine wk_cv3 r47_228 kc_739_114 rfl (m8114_739 _ M23 0 3 x739_30 v37 v41 v45 v49 x739_28 v59 x739_29 T hP24 (by decide) (by decide) (by decide) (by decide) ((hQ25.at g_739_30 rfl).trans ex739_30) (by first | with_reducible assumption | omega) (by first | with_reducible assumption | omega) e38 (by first | with_reducible assumption | omega) (by first | with_reducible assumption | omega) e42 (by first | with_reducible assumption | omega) (by first | with_reducible assumption | omega) e46 (by first | with_reducible assumption | omega) (by first | with_reducible assumption | omega) e50 (by first | with_reducible assumption | omega) (by first | with_reducible assumption | omega) ((hQ25.at g_739_28 rfl).trans ex739_28) (by first | with_reducible assumption | omega) (by first | with_reducible assumption | omega) e60 (by first | with_reducible assumption | omega) (by first | with_reducible assumption | omega) ((hQ25.at g_739_29 rfl).trans ex739_29) (by first | with_reducible assumption | omega) (by first | with_reducible assumption | omega) (by omega) (by omega) (by omega) (by omega) pr33 pr34 pr35) (cqI ?_)
            rintro v83 M63 ⟨hP64, hQ65, h84, h85, h67, h68, h69, h70, h71, h72, h73, h74, h75, h76, h77, h78, xh79, pr80, pr81, pr82⟩
            have hF66 : Fr fm_m8047_739 M0 M63 := hF26.tr hQ65 rfl
            have e86 := ((hQ65.at g_739_30 rfl).trans ((hQ25.at g_739_30 rfl).trans ex739_30))
            obtain ⟨v87, e88⟩ : ∃ v, M63 739 31 = v := ⟨_, rfl⟩
            have h89 := (bf_739_31 hP64).1; rw [e88] at h89
            have h90 := (bf_739_31 hP64).2; rw [e88] at h90
            obtain ⟨v91, e92⟩ : ∃ v, M63 739 33 = v := ⟨_, rfl⟩
            have h93 := (bf_739_33 hP64).1; rw [e92] at h93
            have h94 := (bf_739_33 hP64).2; rw [e92] at h94
            obtain ⟨v95, e96⟩ : ∃ v, M63 739 34 = v := ⟨_, rfl⟩
            have h97 := (bf_739_34 hP64).1; rw [e96] at h97
            have h98 := (bf_739_34 hP64).2; rw [e96] at h98
            obtain ⟨v99, e100⟩ : ∃ v, M63 739 32 = v := ⟨_, rfl⟩
            have h101 := (bf_739_32 hP64).1; rw [e100] at h101
            have h102 := (bf_739_32 hP64).2; rw [e100] at h102
            obtain ⟨v103, e104⟩ : ∃ v, M63 739 28 = v := ⟨_, rfl⟩
            have h105 := (bf_739_28 hP64).1; rw [e104] at h105
            have h106 := (bf_739_28 hP64).2; rw [e104] at h106
            obtain ⟨v107, e108⟩ : ∃ v, M63 739 29 = v := ⟨_, rfl⟩
            have h109 := (bf_739_29 hP64).1; rw [e108] at h109
            have h110 := (bf_739_29 hP64).2; rw [e108] at h110
            have pr111 : GE M63 s0 u0 0 0 := GE_mn (Sm.fr hQ65 rfl) (fun q => by have := ((hQ25.at g_739_28 rfl).trans ex739_28); have := e104; omega) (GE_sm (Sm.fr hQ25 rfl) pp_E0)
            refine wk_c1 r47_231 ?_
            have gk : M63 739 28 = v103 := e104
            refine wk_cv4 r47_232 kc_739_117 rfl (m8117_739 _ M63 3 v83 0 x739_45 hP64 (by decide) (by decide) (by first | with_reducible assumption | omega) (by first | with_reducible assumption | omega) (by decide) (by decide) ((hQ65.at g_739_45 rfl).trans ((hQ25.at g_739_45 rfl).trans ex739_45)) (by first | with_reducible assumption | omega) (by first | with_reducible assumption | omega)) (cqV ?_)
            rintro M112 ⟨hP113, hQ114, h116, h117, xh118⟩
            have hF115 : Fr fm_m8047_739 M0 M112 := hF66.tr hQ114 rfl
            obtain ⟨v119, e120⟩ : ∃ v, M112 739 45 = v := ⟨_, rfl⟩
            have h121 := (bf_739_45 hP113).1; rw [e120] at h121
            have h122 := (bf_739_45 hP113).2; rw [e120] at h122
            have pr123 : GE M112 s0 u0 1 0 := GE_atom xh118 pr111 (fun q => by rw [gk] at q; exact ⟨by omega, by unfold refok; omega, by omega, by omega⟩)
            subst hQ; exact wk_ret r47_235 (⟨rfl, hP113, hF115, by have := ((hQ114.at g_739_30 rfl).trans ((hQ65.at g_739_30 rfl).trans ((hQ25.at g_739_30 rfl).trans ex739_30))); have := ((hQ114.at g_739_31 rfl).trans e88); omega, by have := ((hQ114.at g_739_31 rfl).trans e88); have := ((hQ114.at g_739_33 rfl).trans e92); have := ((hQ114.at g_739_34 rfl).trans e96); omega, by have := ((hQ114.at g_739_31 rfl).trans e88); have := ((hQ114.at g_739_33 rfl).trans e92); have := ((hQ114.at g_739_34 rfl).trans e96); omega, by have := ((hQ114.at g_739_34 rfl).trans e96); have := ((hQ114.at g_739_32 rfl).trans e100); omega, by have := ((hQ114.at g_739_33 rfl).trans e92); omega, by have := ((hQ114.at g_739_28 rfl).trans e104); omega, by have := ((hQ114.at g_739_33 rfl).trans e92); have := ((hQ114.at g_739_47 rfl).trans ((hQ65.at g_739_47 rfl).trans ((hQ25.at g_739_47 rfl).trans ex739_47))); have := e120; have := ((hQ114.at g_739_46 rfl).trans ((hQ65.at g_739_46 rfl).trans ((hQ25.at g_739_46 rfl).trans ex739_46))); have := ((hQ114.at g_739_28 rfl).trans e104); omega, by have := e120; have := ((hQ114.at g_739_46 rfl).trans ((hQ65.at g_739_46 rfl).trans ((hQ25.at g_739_46 rfl).trans ex739_46))); omega, by have := ((hQ114.at g_739_47 rfl).trans ((hQ65.at g_739_47 rfl).trans ((hQ25.at g_739_47 rfl).trans ex739_47))); have := ((hQ114.at g_739_28 rfl).trans e104); omega, by have := ((hQ114.at g_739_29 rfl).trans e108); omega, by have := ((hQ114.at g_739_29 rfl).trans e108); have := ((hQ114.at g_739_28 rfl).trans e104); omega, by have := ((hQ114.at g_739_29 rfl).trans e108); have := ((hQ114.at g_739_28 rfl).trans e104); omega, by rw [((hQ114.at g_739_47 rfl).trans ((hQ65.at g_739_47 rfl).trans ((hQ25.at g_739_47 rfl).trans ex739_47))), ((hQ114.at g_739_33 rfl).trans e92), ((hQ114.at g_739_28 rfl).trans e104), ((hQ114.at g_739_29 rfl).trans e108)]; exact a235n r1 (by rcases xh79 with q9 | q9 | q9; (exact Or.inl ⟨by omega, by omega, by omega⟩); (exact Or.inr ⟨by omega, by omega, by omega⟩); (omega)), (TK_sm (Sm.fr hQ114 rfl) pr80), pr123, (TXQ_sm (Sm.fr hQ114 rfl) pr81), (TTP_sm (Sm.fr hQ114 rfl) pr82)⟩)
      · intro h124
        exfalso
        omega
    · intro h125
      subst hQ; exact wk_ret r47_47 (⟨rfl, hP0, hF0, by have := ex739_30; have := ex739_31; omega, by have := ex739_31; have := ex739_33; have := ex739_34; omega, by have := ex739_31; have := ex739_33; have := ex739_34; omega, by have := ex739_34; have := ex739_32; omega, by have := ex739_33; omega, by have := ex739_28; omega, by have := ex739_33; have := ex739_47; have := ex739_45; have := ex739_46; have := ex739_28; omega, by have := ex739_45; have := ex739_46; omega, by have := ex739_47; have := ex739_28; omega, by have := ex739_29; omega, by have := ex739_29; have := ex739_28; omega, by have := ex739_29; have := ex739_28; omega, by rw [ex739_47, ex739_33, ex739_28, ex739_29]; exact a47 xp1 xp2 xp3 xp4 (by omega) (by omega) (by omega), pp_TK, (GE_vac ex739_28 (by omega)), pp_TQ, pp_TT⟩)
  · intro h126
    refine wk_il1 r47_11 (wk_c2 r47_12 ?_)
    refine wk_iceq r47_14 ⟨by omega, by omega⟩ (by decide) ?_ ?_
    · intro h127
      refine wk_al0 r47_40 (wk_cv1 r47_41 kc_739_84 rfl (m8084_739 _ M0 x739_28 hP0 ex739_28 (by first | with_reducible assumption | omega) (by first | with_reducible assumption | omega)) (cqI ?_))
      rintro v134 M128 ⟨hP129, hQ130, h135, h136, h132, h133⟩
      obtain rfl := Fr.same hQ130
      have e137 := ex739_28
      refine wk_ifne r47_44 ⟨by omega, by omega⟩ ?_ ?_
      · intro h138
        refine wk_al0 r47_48 (wk_cv1 r47_49 kc_739_76 rfl (m8076_739 _ M0 x739_30 x739_31 T hP0 ex739_30 (by first | with_reducible assumption | omega) (by first | with_reducible assumption | omega) ex739_31 (by first | with_reducible assumption | omega) (by first | with_reducible assumption | omega) (by omega) pp_TQ) (cqV ?_))
        rintro M139 ⟨hP140, hQ141, h143, h144, h145, h146, h147, xh148, pr149, pr150, pr151⟩
        have hF142 : Fr fm_m8047_739 M0 M139 := hF0.tr hQ141 rfl
        have e152 := ((hQ141.at g_739_30 rfl).trans ex739_30)
        obtain ⟨v153, e154⟩ : ∃ v, M139 739 31 = v := ⟨_, rfl⟩
        have h155 := (bf_739_31 hP140).1; rw [e154] at h155
        have h156 := (bf_739_31 hP140).2; rw [e154] at h156
        obtain ⟨v157, e158⟩ : ∃ v, M139 739 33 = v := ⟨_, rfl⟩
        have h159 := (bf_739_33 hP140).1; rw [e158] at h159
        have h160 := (bf_739_33 hP140).2; rw [e158] at h160
        obtain ⟨v161, e162⟩ : ∃ v, M139 739 34 = v := ⟨_, rfl⟩
        have h163 := (bf_739_34 hP140).1; rw [e162] at h163
        have h164 := (bf_739_34 hP140).2; rw [e162] at h164
        obtain ⟨v165, e166⟩ : ∃ v, M139 739 32 = v := ⟨_, rfl⟩
        have h167 := (bf_739_32 hP140).1; rw [e166] at h167
        have h168 := (bf_739_32 hP140).2; rw [e166] at h168
        have hn169 := nx_ofm pp_TT ex739_30 ex739_33 ex739_31 xh148
        refine wk_il1 r47_52 (wk_c2 r47_53 ?_)
        refine wk_icne r47_55 ⟨by omega, by omega⟩ (by decide) ?_ ?_
        · intro h170
          refine wk_il1 r47_157 (wk_c2 r47_158 ?_)
          refine wk_icne r47_160 ⟨by omega, by omega⟩ (by decide) ?_ ?_
          · intro h171
            refine wk_il1 r47_167 (wk_c2 r47_168 ?_)
            refine wk_icne r47_170 ⟨by omega, by omega⟩ (by decide) ?_ ?_
            · intro h172
              exfalso
              omega
            · intro h173
              refine wk_c2 r47_173 (wk_goto r47_175 (wk_is2 r47_190 rfl (wk_al0 r47_191 (wk_il1 r47_192 (wk_c2 r47_193 ?_)))))
              refine wk_icne r47_195 ⟨by omega, by omega⟩ (by decide) ?_ ?_
              · intro h174
                refine wk_il1 r47_202 (wk_c2 r47_203 ?_)
                refine wk_icne r47_205 ⟨by omega, by omega⟩ (by decide) ?_ ?_
                · intro h175
                  exfalso
                  omega
                · intro h176
                  refine wk_c1 r47_208 (wk_goto r47_209 ?_)
                  have r1 : AX T x739_30 x739_38 c0 x739_47 6 v157 := A1 xp1 xp2 xp3 xp4 (by omega) (by omega)
                  refine wk_al0 r47_225 (wk_c1 r47_226 (wk_il2 r47_227 ?_))
                  obtain ⟨v177, e178⟩ : ∃ v, M139 739 35 = v := ⟨_, rfl⟩
                  have h179 := (bf_739_35 hP140).1; rw [e178] at h179
                  have h180 := (bf_739_35 hP140).2; rw [e178] at h180
                  refine wk_cv3 r47_228 kc_739_114 rfl (m8114_739 _ M139 0 6 x739_30 v153 v157 v161 v165 x739_28 v177 x739_29 T hP140 (by decide) (by decide) (by decide) (by decide) ((hQ141.at g_739_30 rfl).trans ex739_30) (by first | with_reducible assumption | omega) (by first | with_reducible assumption | omega) e154 (by first | with_reducible assumption | omega) (by first | with_reducible assumption | omega) e158 (by first | with_reducible assumption | omega) (by first | with_reducible assumption | omega) e162 (by first | with_reducible assumption | omega) (by first | with_reducible assumption | omega) e166 (by first | with_reducible assumption | omega) (by first | with_reducible assumption | omega) ((hQ141.at g_739_28 rfl).trans ex739_28) (by first | with_reducible assumption | omega) (by first | with_reducible assumption | omega) e178 (by first | with_reducible assumption | omega) (by first | with_reducible assumption | omega) ((hQ141.at g_739_29 rfl).trans ex739_29) (by first | with_reducible assumption | omega) (by first | with_reducible assumption | omega) (by omega) (by omega) (by omega) (by omega) pr149 pr150 pr151) (cqI ?_)
                  rintro v201 M181 ⟨hP182, hQ183, h202, h203, h185, h186, h187, h188, h189, h190, h191, h192, h193, h194, h195, h196, xh197, pr198, pr199, pr200⟩
                  have hF184 : Fr fm_m8047_739 M0 M181 := hF142.tr hQ183 rfl
                  have e204 := ((hQ183.at g_739_30 rfl).trans ((hQ141.at g_739_30 rfl).trans ex739_30))
                  obtain ⟨v205, e206⟩ : ∃ v, M181 739 31 = v := ⟨_, rfl⟩
                  have h207 := (bf_739_31 hP182).1; rw [e206] at h207
                  have h208 := (bf_739_31 hP182).2; rw [e206] at h208
                  obtain ⟨v209, e210⟩ : ∃ v, M181 739 33 = v := ⟨_, rfl⟩
                  have h211 := (bf_739_33 hP182).1; rw [e210] at h211
                  have h212 := (bf_739_33 hP182).2; rw [e210] at h212
                  obtain ⟨v213, e214⟩ : ∃ v, M181 739 34 = v := ⟨_, rfl⟩
                  have h215 := (bf_739_34 hP182).1; rw [e214] at h215
                  have h216 := (bf_739_34 hP182).2; rw [e214] at h216
                  obtain ⟨v217, e218⟩ : ∃ v, M181 739 32 = v := ⟨_, rfl⟩
                  have h219 := (bf_739_32 hP182).1; rw [e218] at h219
                  have h220 := (bf_739_32 hP182).2; rw [e218] at h220
                  obtain ⟨v221, e222⟩ : ∃ v, M181 739 28 = v := ⟨_, rfl⟩
                  have h223 := (bf_739_28 hP182).1; rw [e222] at h223
                  have h224 := (bf_739_28 hP182).2; rw [e222] at h224
                  obtain ⟨v225, e226⟩ : ∃ v, M181 739 29 = v := ⟨_, rfl⟩
                  have h227 := (bf_739_29 hP182).1; rw [e226] at h227
                  have h228 := (bf_739_29 hP182).2; rw [e226] at h228
                  have pr229 : GE M181 s0 u0 0 0 := GE_mn (Sm.fr hQ183 rfl) (fun q => by have := ((hQ141.at g_739_28 rfl).trans ex739_28); have := e222; omega) (GE_sm (Sm.fr hQ141 rfl) pp_E0)
                  refine wk_c1 r47_231 ?_
                  have gk : M181 739 28 = v221 := e222
                  refine wk_cv4 r47_232 kc_739_117 rfl (m8117_739 _ M181 4 v201 0 x739_45 hP182 (by decide) (by decide) (by first | with_reducible assumption | omega) (by first | with_reducible assumption | omega) (by decide) (by decide) ((hQ183.at g_739_45 rfl).trans ((hQ141.at g_739_45 rfl).trans ex739_45)) (by first | with_reducible assumption | omega) (by first | with_reducible assumption | omega)) (cqV ?_)
                  rintro M230 ⟨hP231, hQ232, h234, h235, xh236⟩
                  have hF233 : Fr fm_m8047_739 M0 M230 := hF184.tr hQ232 rfl
                  obtain ⟨v237, e238⟩ : ∃ v, M230 739 45 = v := ⟨_, rfl⟩
                  have h239 := (bf_739_45 hP231).1; rw [e238] at h239
                  have h240 := (bf_739_45 hP231).2; rw [e238] at h240
                  have pr241 : GE M230 s0 u0 1 0 := GE_atom xh236 pr229 (fun q => by rw [gk] at q; exact ⟨by omega, by unfold refok; omega, by omega, by omega⟩)
                  subst hQ; exact wk_ret r47_235 (⟨rfl, hP231, hF233, by have := ((hQ232.at g_739_30 rfl).trans ((hQ183.at g_739_30 rfl).trans ((hQ141.at g_739_30 rfl).trans ex739_30))); have := ((hQ232.at g_739_31 rfl).trans e206); omega, by have := ((hQ232.at g_739_31 rfl).trans e206); have := ((hQ232.at g_739_33 rfl).trans e210); have := ((hQ232.at g_739_34 rfl).trans e214); omega, by have := ((hQ232.at g_739_31 rfl).trans e206); have := ((hQ232.at g_739_33 rfl).trans e210); have := ((hQ232.at g_739_34 rfl).trans e214); omega, by have := ((hQ232.at g_739_34 rfl).trans e214); have := ((hQ232.at g_739_32 rfl).trans e218); omega, by have := ((hQ232.at g_739_33 rfl).trans e210); omega, by have := ((hQ232.at g_739_28 rfl).trans e222); omega, by have := ((hQ232.at g_739_33 rfl).trans e210); have := ((hQ232.at g_739_47 rfl).trans ((hQ183.at g_739_47 rfl).trans ((hQ141.at g_739_47 rfl).trans ex739_47))); have := e238; have := ((hQ232.at g_739_46 rfl).trans ((hQ183.at g_739_46 rfl).trans ((hQ141.at g_739_46 rfl).trans ex739_46))); have := ((hQ232.at g_739_28 rfl).trans e222); omega, by have := e238; have := ((hQ232.at g_739_46 rfl).trans ((hQ183.at g_739_46 rfl).trans ((hQ141.at g_739_46 rfl).trans ex739_46))); omega, by have := ((hQ232.at g_739_47 rfl).trans ((hQ183.at g_739_47 rfl).trans ((hQ141.at g_739_47 rfl).trans ex739_47))); have := ((hQ232.at g_739_28 rfl).trans e222); omega, by have := ((hQ232.at g_739_29 rfl).trans e226); omega, by have := ((hQ232.at g_739_29 rfl).trans e226); have := ((hQ232.at g_739_28 rfl).trans e222); omega, by have := ((hQ232.at g_739_29 rfl).trans e226); have := ((hQ232.at g_739_28 rfl).trans e222); omega, by rw [((hQ232.at g_739_47 rfl).trans ((hQ183.at g_739_47 rfl).trans ((hQ141.at g_739_47 rfl).trans ex739_47))), ((hQ232.at g_739_33 rfl).trans e210), ((hQ232.at g_739_28 rfl).trans e222), ((hQ232.at g_739_29 rfl).trans e226)]; exact a235n r1 (by rcases xh197 with q9 | q9 | q9; (exact Or.inl ⟨by omega, by omega, by omega⟩); (exact Or.inr ⟨by omega, by omega, by omega⟩); (omega)), (TK_sm (Sm.fr hQ232 rfl) pr198), pr241, (TXQ_sm (Sm.fr hQ232 rfl) pr199), (TTP_sm (Sm.fr hQ232 rfl) pr200)⟩)
              · intro h242
                exfalso
                omega
          · intro h243
            exfalso
            omega
        · intro h244
          exfalso
          omega
      · intro h245
        subst hQ; exact wk_ret r47_47 (⟨rfl, hP0, hF0, by have := ex739_30; have := ex739_31; omega, by have := ex739_31; have := ex739_33; have := ex739_34; omega, by have := ex739_31; have := ex739_33; have := ex739_34; omega, by have := ex739_34; have := ex739_32; omega, by have := ex739_33; omega, by have := ex739_28; omega, by have := ex739_33; have := ex739_47; have := ex739_45; have := ex739_46; have := ex739_28; omega, by have := ex739_45; have := ex739_46; omega, by have := ex739_47; have := ex739_28; omega, by have := ex739_29; omega, by have := ex739_29; have := ex739_28; omega, by have := ex739_29; have := ex739_28; omega, by rw [ex739_47, ex739_33, ex739_28, ex739_29]; exact a47 xp1 xp2 xp3 xp4 (by omega) (by omega) (by omega), pp_TK, (GE_vac ex739_28 (by omega)), pp_TQ, pp_TT⟩)
    · intro h246
      refine wk_il1 r47_17 (wk_c2 r47_18 ?_)
      refine wk_iceq r47_20 ⟨by omega, by omega⟩ (by decide) ?_ ?_
      · intro h247
        refine wk_al0 r47_40 (wk_cv1 r47_41 kc_739_84 rfl (m8084_739 _ M0 x739_28 hP0 ex739_28 (by first | with_reducible assumption | omega) (by first | with_reducible assumption | omega)) (cqI ?_))
        rintro v254 M248 ⟨hP249, hQ250, h255, h256, h252, h253⟩
        obtain rfl := Fr.same hQ250
        have e257 := ex739_28
        refine wk_ifne r47_44 ⟨by omega, by omega⟩ ?_ ?_
        · intro h258
          refine wk_al0 r47_48 (wk_cv1 r47_49 kc_739_76 rfl (m8076_739 _ M0 x739_30 x739_31 T hP0 ex739_30 (by first | with_reducible assumption | omega) (by first | with_reducible assumption | omega) ex739_31 (by first | with_reducible assumption | omega) (by first | with_reducible assumption | omega) (by omega) pp_TQ) (cqV ?_))
          rintro M259 ⟨hP260, hQ261, h263, h264, h265, h266, h267, xh268, pr269, pr270, pr271⟩
          have hF262 : Fr fm_m8047_739 M0 M259 := hF0.tr hQ261 rfl
          have e272 := ((hQ261.at g_739_30 rfl).trans ex739_30)
          obtain ⟨v273, e274⟩ : ∃ v, M259 739 31 = v := ⟨_, rfl⟩
          have h275 := (bf_739_31 hP260).1; rw [e274] at h275
          have h276 := (bf_739_31 hP260).2; rw [e274] at h276
          obtain ⟨v277, e278⟩ : ∃ v, M259 739 33 = v := ⟨_, rfl⟩
          have h279 := (bf_739_33 hP260).1; rw [e278] at h279
          have h280 := (bf_739_33 hP260).2; rw [e278] at h280
          obtain ⟨v281, e282⟩ : ∃ v, M259 739 34 = v := ⟨_, rfl⟩
          have h283 := (bf_739_34 hP260).1; rw [e282] at h283
          have h284 := (bf_739_34 hP260).2; rw [e282] at h284
          obtain ⟨v285, e286⟩ : ∃ v, M259 739 32 = v := ⟨_, rfl⟩
          have h287 := (bf_739_32 hP260).1; rw [e286] at h287
          have h288 := (bf_739_32 hP260).2; rw [e286] at h288
          have hn289 := nx_ofm pp_TT ex739_30 ex739_33 ex739_31 xh268
          refine wk_il1 r47_52 (wk_c2 r47_53 ?_)
          refine wk_icne r47_55 ⟨by omega, by omega⟩ (by decide) ?_ ?_
          · intro h290
            exfalso
            omega
          · intro h291
            have r1 : Rch T x739_30 x739_38 c0 (stM T x739_30 x739_47 v277) := A_m xp1 xp3 xp4 (by omega) (by omega)
            refine wk_al0 r47_58 (wk_cv1 r47_59 kc_739_93 rfl (m8093_739 _ M259 x739_30 v273 v277 v281 v285 x739_28 x739_29 T hP260 ((hQ261.at g_739_30 rfl).trans ex739_30) (by first | with_reducible assumption | omega) (by first | with_reducible assumption | omega) e274 (by first | with_reducible assumption | omega) (by first | with_reducible assumption | omega) e278 (by first | with_reducible assumption | omega) (by first | with_reducible assumption | omega) e282 (by first | with_reducible assumption | omega) (by first | with_reducible assumption | omega) e286 (by first | with_reducible assumption | omega) (by first | with_reducible assumption | omega) ((hQ261.at g_739_28 rfl).trans ex739_28) (by first | with_reducible assumption | omega) (by first | with_reducible assumption | omega) ((hQ261.at g_739_29 rfl).trans ex739_29) (by first | with_reducible assumption | omega) (by first | with_reducible assumption | omega) (by omega) (by omega) (by omega) (by omega) pr269 pr270 pr271) (cqI ?_))
            rintro v312 M292 ⟨hP293, hQ294, h313, h314, h296, h297, h298, h299, h300, h301, h302, h303, h304, h305, h306, h307, xh308, pr309, pr310, pr311⟩
            have hF295 : Fr fm_m8047_739 M0 M292 := hF262.tr hQ294 rfl
            have e315 := ((hQ294.at g_739_30 rfl).trans ((hQ261.at g_739_30 rfl).trans ex739_30))
            obtain ⟨v316, e317⟩ : ∃ v, M292 739 31 = v := ⟨_, rfl⟩
            have h318 := (bf_739_31 hP293).1; rw [e317] at h318
            have h319 := (bf_739_31 hP293).2; rw [e317] at h319
            obtain ⟨v320, e321⟩ : ∃ v, M292 739 33 = v := ⟨_, rfl⟩
            have h322 := (bf_739_33 hP293).1; rw [e321] at h322
            have h323 := (bf_739_33 hP293).2; rw [e321] at h323
            obtain ⟨v324, e325⟩ : ∃ v, M292 739 34 = v := ⟨_, rfl⟩
            have h326 := (bf_739_34 hP293).1; rw [e325] at h326
            have h327 := (bf_739_34 hP293).2; rw [e325] at h327
            obtain ⟨v328, e329⟩ : ∃ v, M292 739 32 = v := ⟨_, rfl⟩
            have h330 := (bf_739_32 hP293).1; rw [e329] at h330
            have h331 := (bf_739_32 hP293).2; rw [e329] at h331
            obtain ⟨v332, e333⟩ : ∃ v, M292 739 28 = v := ⟨_, rfl⟩
            have h334 := (bf_739_28 hP293).1; rw [e333] at h334
            have h335 := (bf_739_28 hP293).2; rw [e333] at h335
            obtain ⟨v336, e337⟩ : ∃ v, M292 739 29 = v := ⟨_, rfl⟩
            have h338 := (bf_739_29 hP293).1; rw [e337] at h338
            have h339 := (bf_739_29 hP293).2; rw [e337] at h339
            have pr340 : GE M292 s0 u0 0 0 := GE_mn (Sm.fr hQ294 rfl) (fun q => by have := ((hQ261.at g_739_28 rfl).trans ex739_28); have := e333; omega) (GE_sm (Sm.fr hQ261 rfl) pp_E0)
            refine wk_is2 r47_62 rfl (wk_al0 r47_63 (wk_getfb r47_64 fd_739_36 (bf_739_36 hP293) ?_))
            intro v341 h343 h344 e342
            refine wk_is3 r47_67 rfl (wk_al0 r47_68 (wk_cv1 r47_69 kc_739_84 rfl (m8084_739 _ M292 v332 hP293 e333 (by first | with_reducible assumption | omega) (by first | with_reducible assumption | omega)) (cqI ?_)))
            rintro v351 M345 ⟨hP346, hQ347, h352, h353, h349, h350⟩
            obtain rfl := Fr.same hQ347
            have e354 := e333
            refine wk_ifeq r47_72 ⟨by omega, by omega⟩ ?_ ?_
            · intro h355
              refine wk_al0 r47_107 (wk_cv1 r47_108 kc_739_84 rfl (m8084_739 _ M292 v332 hP293 e333 (by first | with_reducible assumption | omega) (by first | with_reducible assumption | omega)) (cqI ?_))
              rintro v362 M356 ⟨hP357, hQ358, h363, h364, h360, h361⟩
              obtain rfl := Fr.same hQ358
              have e365 := e333
              refine wk_ifne r47_111 ⟨by omega, by omega⟩ ?_ ?_
              · intro h366
                exfalso
                omega
              · intro h367
                subst hQ; exact wk_ret r47_114 (⟨rfl, hP293, hF295, by have := ((hQ294.at g_739_30 rfl).trans ((hQ261.at g_739_30 rfl).trans ex739_30)); have := e317; omega, by have := e317; have := e321; have := e325; omega, by have := e317; have := e321; have := e325; omega, by have := e325; have := e329; omega, by have := e321; omega, by have := e333; omega, by have := e321; have := ((hQ294.at g_739_47 rfl).trans ((hQ261.at g_739_47 rfl).trans ex739_47)); have := ((hQ294.at g_739_45 rfl).trans ((hQ261.at g_739_45 rfl).trans ex739_45)); have := ((hQ294.at g_739_46 rfl).trans ((hQ261.at g_739_46 rfl).trans ex739_46)); have := e333; omega, by have := ((hQ294.at g_739_45 rfl).trans ((hQ261.at g_739_45 rfl).trans ex739_45)); have := ((hQ294.at g_739_46 rfl).trans ((hQ261.at g_739_46 rfl).trans ex739_46)); omega, by have := ((hQ294.at g_739_47 rfl).trans ((hQ261.at g_739_47 rfl).trans ex739_47)); have := e333; omega, by have := e337; omega, by have := e337; have := e333; omega, by have := e337; have := e333; omega, by rw [((hQ294.at g_739_47 rfl).trans ((hQ261.at g_739_47 rfl).trans ex739_47)), e321, e333, e337]; exact a114 (v2 := v320) r1 (Or.inl ⟨by omega, by omega, by omega⟩), pr309, (GE_vac e333 (by omega)), pr310, pr311⟩)
            · intro h368
              refine wk_al0 r47_75 (wk_c2 r47_76 (wk_cv2 r47_78 kc_739_88 rfl (m8088_739 _ M292 60 v328 v341 x739_30 v320 T hP293 (by decide) (by decide) e329 (by first | with_reducible assumption | omega) (by first | with_reducible assumption | omega) e342 (by first | with_reducible assumption | omega) (by first | with_reducible assumption | omega) ((hQ294.at g_739_30 rfl).trans ((hQ261.at g_739_30 rfl).trans ex739_30)) (by first | with_reducible assumption | omega) (by first | with_reducible assumption | omega) e321 (by first | with_reducible assumption | omega) (by first | with_reducible assumption | omega) pr311) (cqI ?_)))
              rintro v377 M369 ⟨hP370, hQ371, h378, h379, h373, h374, h375, xh376⟩
              obtain rfl := Fr.same hQ371
              have e380 := e329
              have e381 := e342
              refine wk_ifne r47_81 ⟨by omega, by omega⟩ ?_ ?_
              · intro h382
                replace h373 := h373 (z1_of h378 h379 h382)
                replace h374 := h374 (z1_of h378 h379 h382)
                replace h375 := h375 (z1_of h378 h379 h382)
                refine wk_al0 r47_107 (wk_cv1 r47_108 kc_739_84 rfl (m8084_739 _ M292 v332 hP293 e333 (by first | with_reducible assumption | omega) (by first | with_reducible assumption | omega)) (cqI ?_))
                rintro v389 M383 ⟨hP384, hQ385, h390, h391, h387, h388⟩
                obtain rfl := Fr.same hQ385
                have e392 := e333
                refine wk_ifne r47_111 ⟨by omega, by omega⟩ ?_ ?_
                · intro h393
                  refine wk_al0 r47_115 (wk_cv1 r47_116 kc_739_76 rfl (m8076_739 _ M292 x739_30 v316 T hP293 ((hQ294.at g_739_30 rfl).trans ((hQ261.at g_739_30 rfl).trans ex739_30)) (by first | with_reducible assumption | omega) (by first | with_reducible assumption | omega) e317 (by first | with_reducible assumption | omega) (by first | with_reducible assumption | omega) (by omega) pr310) (cqV ?_))
                  rintro M394 ⟨hP395, hQ396, h398, h399, h400, h401, h402, xh403, pr404, pr405, pr406⟩
                  have hF397 : Fr fm_m8047_739 M0 M394 := hF295.tr hQ396 rfl
                  have e407 := ((hQ396.at g_739_30 rfl).trans ((hQ294.at g_739_30 rfl).trans ((hQ261.at g_739_30 rfl).trans ex739_30)))
                  obtain ⟨v408, e409⟩ : ∃ v, M394 739 31 = v := ⟨_, rfl⟩
                  have h410 := (bf_739_31 hP395).1; rw [e409] at h410
                  have h411 := (bf_739_31 hP395).2; rw [e409] at h411
                  obtain ⟨v412, e413⟩ : ∃ v, M394 739 33 = v := ⟨_, rfl⟩
                  have h414 := (bf_739_33 hP395).1; rw [e413] at h414
                  have h415 := (bf_739_33 hP395).2; rw [e413] at h415
                  obtain ⟨v416, e417⟩ : ∃ v, M394 739 34 = v := ⟨_, rfl⟩
                  have h418 := (bf_739_34 hP395).1; rw [e417] at h418
                  have h419 := (bf_739_34 hP395).2; rw [e417] at h419
                  obtain ⟨v420, e421⟩ : ∃ v, M394 739 32 = v := ⟨_, rfl⟩
                  have h422 := (bf_739_32 hP395).1; rw [e421] at h422
                  have h423 := (bf_739_32 hP395).2; rw [e421] at h423
                  have hn424 := nx_ofm pr311 ((hQ294.at g_739_30 rfl).trans ((hQ261.at g_739_30 rfl).trans ex739_30)) e321 e317 xh403
                  refine wk_al0 r47_119 (wk_il3 r47_120 (wk_c2 r47_121 ?_))
                  refine wk_icne r47_123 ⟨by omega, by omega⟩ (by decide) ?_ ?_
                  · intro h425
                    exfalso
                    omega
                  · intro h426
                    refine wk_c1 r47_126 (wk_goto r47_127 (wk_il2 r47_143 (wk_al0 r47_144 (wk_c1 r47_145 (wk_c2 r47_146 ?_)))))
                    obtain ⟨v427, e428⟩ : ∃ v, M394 739 35 = v := ⟨_, rfl⟩
                    have h429 := (bf_739_35 hP395).1; rw [e428] at h429
                    have h430 := (bf_739_35 hP395).2; rw [e428] at h430
                    refine wk_cv3 r47_148 kc_739_114 rfl (m8114_739 _ M394 0 99 x739_30 v408 v412 v416 v420 v332 v427 v336 T hP395 (by decide) (by decide) (by decide) (by decide) ((hQ396.at g_739_30 rfl).trans ((hQ294.at g_739_30 rfl).trans ((hQ261.at g_739_30 rfl).trans ex739_30))) (by first | with_reducible assumption | omega) (by first | with_reducible assumption | omega) e409 (by first | with_reducible assumption | omega) (by first | with_reducible assumption | omega) e413 (by first | with_reducible assumption | omega) (by first | with_reducible assumption | omega) e417 (by first | with_reducible assumption | omega) (by first | with_reducible assumption | omega) e421 (by first | with_reducible assumption | omega) (by first | with_reducible assumption | omega) ((hQ396.at g_739_28 rfl).trans e333) (by first | with_reducible assumption | omega) (by first | with_reducible assumption | omega) e428 (by first | with_reducible assumption | omega) (by first | with_reducible assumption | omega) ((hQ396.at g_739_29 rfl).trans e337) (by first | with_reducible assumption | omega) (by first | with_reducible assumption | omega) (by omega) (by omega) (by omega) (by omega) pr404 pr405 pr406) (cqI ?_)
                    rintro v451 M431 ⟨hP432, hQ433, h452, h453, h435, h436, h437, h438, h439, h440, h441, h442, h443, h444, h445, h446, xh447, pr448, pr449, pr450⟩
                    have hF434 : Fr fm_m8047_739 M0 M431 := hF397.tr hQ433 rfl
                    have e454 := ((hQ433.at g_739_30 rfl).trans ((hQ396.at g_739_30 rfl).trans ((hQ294.at g_739_30 rfl).trans ((hQ261.at g_739_30 rfl).trans ex739_30))))
                    obtain ⟨v455, e456⟩ : ∃ v, M431 739 31 = v := ⟨_, rfl⟩
                    have h457 := (bf_739_31 hP432).1; rw [e456] at h457
                    have h458 := (bf_739_31 hP432).2; rw [e456] at h458
                    obtain ⟨v459, e460⟩ : ∃ v, M431 739 33 = v := ⟨_, rfl⟩
                    have h461 := (bf_739_33 hP432).1; rw [e460] at h461
                    have h462 := (bf_739_33 hP432).2; rw [e460] at h462
                    obtain ⟨v463, e464⟩ : ∃ v, M431 739 34 = v := ⟨_, rfl⟩
                    have h465 := (bf_739_34 hP432).1; rw [e464] at h465
                    have h466 := (bf_739_34 hP432).2; rw [e464] at h466
                    obtain ⟨v467, e468⟩ : ∃ v, M431 739 32 = v := ⟨_, rfl⟩
                    have h469 := (bf_739_32 hP432).1; rw [e468] at h469
                    have h470 := (bf_739_32 hP432).2; rw [e468] at h470
                    obtain ⟨v471, e472⟩ : ∃ v, M431 739 28 = v := ⟨_, rfl⟩
                    have h473 := (bf_739_28 hP432).1; rw [e472] at h473
                    have h474 := (bf_739_28 hP432).2; rw [e472] at h474
                    obtain ⟨v475, e476⟩ : ∃ v, M431 739 29 = v := ⟨_, rfl⟩
                    have h477 := (bf_739_29 hP432).1; rw [e476] at h477
                    have h478 := (bf_739_29 hP432).2; rw [e476] at h478
                    have pr479 : GE M431 s0 u0 0 0 := GE_mn (Sm.fr hQ433 rfl) (fun q => by have := ((hQ396.at g_739_28 rfl).trans e333); have := e472; omega) (GE_sm (Sm.fr hQ396 rfl) pr340)
                    have gk : M431 739 28 = v471 := e472
                    refine wk_cv4 r47_151 kc_739_117 rfl (m8117_739 _ M431 5 v312 v451 x739_45 hP432 (by decide) (by decide) (by first | with_reducible assumption | omega) (by first | with_reducible assumption | omega) (by first | with_reducible assumption | omega) (by first | with_reducible assumption | omega) ((hQ433.at g_739_45 rfl).trans ((hQ396.at g_739_45 rfl).trans ((hQ294.at g_739_45 rfl).trans ((hQ261.at g_739_45 rfl).trans ex739_45)))) (by first | with_reducible assumption | omega) (by first | with_reducible assumption | omega)) (cqV ?_)
                    rintro M480 ⟨hP481, hQ482, h484, h485, xh486⟩
                    have hF483 : Fr fm_m8047_739 M0 M480 := hF434.tr hQ482 rfl
                    obtain ⟨v487, e488⟩ : ∃ v, M480 739 45 = v := ⟨_, rfl⟩
                    have h489 := (bf_739_45 hP481).1; rw [e488] at h489
                    have h490 := (bf_739_45 hP481).2; rw [e488] at h490
                    have pr491 : GE M480 s0 u0 1 0 := GE_atom xh486 pr479 (fun q => by rw [gk] at q; exact ⟨by omega, by unfold refok; omega, by omega, by omega⟩)
                    refine wk_goto r47_154 ?_
                    subst hQ; exact wk_ret r47_235 (⟨rfl, hP481, hF483, by have := ((hQ482.at g_739_30 rfl).trans ((hQ433.at g_739_30 rfl).trans ((hQ396.at g_739_30 rfl).trans ((hQ294.at g_739_30 rfl).trans ((hQ261.at g_739_30 rfl).trans ex739_30))))); have := ((hQ482.at g_739_31 rfl).trans e456); omega, by have := ((hQ482.at g_739_31 rfl).trans e456); have := ((hQ482.at g_739_33 rfl).trans e460); have := ((hQ482.at g_739_34 rfl).trans e464); omega, by have := ((hQ482.at g_739_31 rfl).trans e456); have := ((hQ482.at g_739_33 rfl).trans e460); have := ((hQ482.at g_739_34 rfl).trans e464); omega, by have := ((hQ482.at g_739_34 rfl).trans e464); have := ((hQ482.at g_739_32 rfl).trans e468); omega, by have := ((hQ482.at g_739_33 rfl).trans e460); omega, by have := ((hQ482.at g_739_28 rfl).trans e472); omega, by have := ((hQ482.at g_739_33 rfl).trans e460); have := ((hQ482.at g_739_47 rfl).trans ((hQ433.at g_739_47 rfl).trans ((hQ396.at g_739_47 rfl).trans ((hQ294.at g_739_47 rfl).trans ((hQ261.at g_739_47 rfl).trans ex739_47))))); have := e488; have := ((hQ482.at g_739_46 rfl).trans ((hQ433.at g_739_46 rfl).trans ((hQ396.at g_739_46 rfl).trans ((hQ294.at g_739_46 rfl).trans ((hQ261.at g_739_46 rfl).trans ex739_46))))); have := ((hQ482.at g_739_28 rfl).trans e472); omega, by have := e488; have := ((hQ482.at g_739_46 rfl).trans ((hQ433.at g_739_46 rfl).trans ((hQ396.at g_739_46 rfl).trans ((hQ294.at g_739_46 rfl).trans ((hQ261.at g_739_46 rfl).trans ex739_46))))); omega, by have := ((hQ482.at g_739_47 rfl).trans ((hQ433.at g_739_47 rfl).trans ((hQ396.at g_739_47 rfl).trans ((hQ294.at g_739_47 rfl).trans ((hQ261.at g_739_47 rfl).trans ex739_47))))); have := ((hQ482.at g_739_28 rfl).trans e472); omega, by have := ((hQ482.at g_739_29 rfl).trans e476); omega, by have := ((hQ482.at g_739_29 rfl).trans e476); have := ((hQ482.at g_739_28 rfl).trans e472); omega, by have := ((hQ482.at g_739_29 rfl).trans e476); have := ((hQ482.at g_739_28 rfl).trans e472); omega, by rw [((hQ482.at g_739_47 rfl).trans ((hQ433.at g_739_47 rfl).trans ((hQ396.at g_739_47 rfl).trans ((hQ294.at g_739_47 rfl).trans ((hQ261.at g_739_47 rfl).trans ex739_47))))), ((hQ482.at g_739_33 rfl).trans e460), ((hQ482.at g_739_28 rfl).trans e472), ((hQ482.at g_739_29 rfl).trans e476)]; exact a235m (v2 := v320) (v3 := v412) r1 (by omega) (by omega) (by omega) (by omega) (by rcases xh447 with q9 | q9 | q9; (exact Or.inl ⟨by omega, by omega, by omega⟩); (exact Or.inr ⟨by omega, by omega, by omega⟩); (omega)), (TK_sm (Sm.fr hQ482 rfl) pr448), pr491, (TXQ_sm (Sm.fr hQ482 rfl) pr449), (TTP_sm (Sm.fr hQ482 rfl) pr450)⟩)
                · intro h492
                  exfalso
                  omega
              · intro h493
                clear h373 h374 h375
                refine wk_al0 r47_84 (wk_c2 r47_85 (wk_cv2 r47_87 kc_739_88 rfl (m8088_739 _ M292 61 v328 v341 x739_30 v320 T hP293 (by decide) (by decide) e329 (by first | with_reducible assumption | omega) (by first | with_reducible assumption | omega) e342 (by first | with_reducible assumption | omega) (by first | with_reducible assumption | omega) ((hQ294.at g_739_30 rfl).trans ((hQ261.at g_739_30 rfl).trans ex739_30)) (by first | with_reducible assumption | omega) (by first | with_reducible assumption | omega) e321 (by first | with_reducible assumption | omega) (by first | with_reducible assumption | omega) pr311) (cqI ?_)))
                rintro v502 M494 ⟨hP495, hQ496, h503, h504, h498, h499, h500, xh501⟩
                obtain rfl := Fr.same hQ496
                have e505 := e329
                have e506 := e342
                refine wk_ifne r47_90 ⟨by omega, by omega⟩ ?_ ?_
                · intro h507
                  replace h498 := h498 (z1_of h503 h504 h507)
                  replace h499 := h499 (z1_of h503 h504 h507)
                  replace h500 := h500 (z1_of h503 h504 h507)
                  refine wk_al0 r47_107 (wk_cv1 r47_108 kc_739_84 rfl (m8084_739 _ M292 v332 hP293 e333 (by first | with_reducible assumption | omega) (by first | with_reducible assumption | omega)) (cqI ?_))
                  rintro v514 M508 ⟨hP509, hQ510, h515, h516, h512, h513⟩
                  obtain rfl := Fr.same hQ510
                  have e517 := e333
                  refine wk_ifne r47_111 ⟨by omega, by omega⟩ ?_ ?_
                  · intro h518
                    refine wk_al0 r47_115 (wk_cv1 r47_116 kc_739_76 rfl (m8076_739 _ M292 x739_30 v316 T hP293 ((hQ294.at g_739_30 rfl).trans ((hQ261.at g_739_30 rfl).trans ex739_30)) (by first | with_reducible assumption | omega) (by first | with_reducible assumption | omega) e317 (by first | with_reducible assumption | omega) (by first | with_reducible assumption | omega) (by omega) pr310) (cqV ?_))
                    rintro M519 ⟨hP520, hQ521, h523, h524, h525, h526, h527, xh528, pr529, pr530, pr531⟩
                    have hF522 : Fr fm_m8047_739 M0 M519 := hF295.tr hQ521 rfl
                    have e532 := ((hQ521.at g_739_30 rfl).trans ((hQ294.at g_739_30 rfl).trans ((hQ261.at g_739_30 rfl).trans ex739_30)))
                    obtain ⟨v533, e534⟩ : ∃ v, M519 739 31 = v := ⟨_, rfl⟩
                    have h535 := (bf_739_31 hP520).1; rw [e534] at h535
                    have h536 := (bf_739_31 hP520).2; rw [e534] at h536
                    obtain ⟨v537, e538⟩ : ∃ v, M519 739 33 = v := ⟨_, rfl⟩
                    have h539 := (bf_739_33 hP520).1; rw [e538] at h539
                    have h540 := (bf_739_33 hP520).2; rw [e538] at h540
                    obtain ⟨v541, e542⟩ : ∃ v, M519 739 34 = v := ⟨_, rfl⟩
                    have h543 := (bf_739_34 hP520).1; rw [e542] at h543
                    have h544 := (bf_739_34 hP520).2; rw [e542] at h544
                    obtain ⟨v545, e546⟩ : ∃ v, M519 739 32 = v := ⟨_, rfl⟩
                    have h547 := (bf_739_32 hP520).1; rw [e546] at h547
                    have h548 := (bf_739_32 hP520).2; rw [e546] at h548
                    have hn549 := nx_ofm pr311 ((hQ294.at g_739_30 rfl).trans ((hQ261.at g_739_30 rfl).trans ex739_30)) e321 e317 xh528
                    refine wk_al0 r47_119 (wk_il3 r47_120 (wk_c2 r47_121 ?_))
                    refine wk_icne r47_123 ⟨by omega, by omega⟩ (by decide) ?_ ?_
                    · intro h550
                      refine wk_il3 r47_130 (wk_c2 r47_131 ?_)
                      refine wk_icne r47_133 ⟨by omega, by omega⟩ (by decide) ?_ ?_
                      · intro h551
                        exfalso
                        omega
                      · intro h552
                        refine wk_c2 r47_136 (wk_goto r47_138 (wk_il2 r47_143 (wk_al0 r47_144 (wk_c1 r47_145 (wk_c2 r47_146 ?_)))))
                        obtain ⟨v553, e554⟩ : ∃ v, M519 739 35 = v := ⟨_, rfl⟩
                        have h555 := (bf_739_35 hP520).1; rw [e554] at h555
                        have h556 := (bf_739_35 hP520).2; rw [e554] at h556
                        refine wk_cv3 r47_148 kc_739_114 rfl (m8114_739 _ M519 0 99 x739_30 v533 v537 v541 v545 v332 v553 v336 T hP520 (by decide) (by decide) (by decide) (by decide) ((hQ521.at g_739_30 rfl).trans ((hQ294.at g_739_30 rfl).trans ((hQ261.at g_739_30 rfl).trans ex739_30))) (by first | with_reducible assumption | omega) (by first | with_reducible assumption | omega) e534 (by first | with_reducible assumption | omega) (by first | with_reducible assumption | omega) e538 (by first | with_reducible assumption | omega) (by first | with_reducible assumption | omega) e542 (by first | with_reducible assumption | omega) (by first | with_reducible assumption | omega) e546 (by first | with_reducible assumption | omega) (by first | with_reducible assumption | omega) ((hQ521.at g_739_28 rfl).trans e333) (by first | with_reducible assumption | omega) (by first | with_reducible assumption | omega) e554 (by first | with_reducible assumption | omega) (by first | with_reducible assumption | omega) ((hQ521.at g_739_29 rfl).trans e337) (by first | with_reducible assumption | omega) (by first | with_reducible assumption | omega) (by omega) (by omega) (by omega) (by omega) pr529 pr530 pr531) (cqI ?_)
                        rintro v577 M557 ⟨hP558, hQ559, h578, h579, h561, h562, h563, h564, h565, h566, h567, h568, h569, h570, h571, h572, xh573, pr574, pr575, pr576⟩
                        have hF560 : Fr fm_m8047_739 M0 M557 := hF522.tr hQ559 rfl
                        have e580 := ((hQ559.at g_739_30 rfl).trans ((hQ521.at g_739_30 rfl).trans ((hQ294.at g_739_30 rfl).trans ((hQ261.at g_739_30 rfl).trans ex739_30))))
                        obtain ⟨v581, e582⟩ : ∃ v, M557 739 31 = v := ⟨_, rfl⟩
                        have h583 := (bf_739_31 hP558).1; rw [e582] at h583
                        have h584 := (bf_739_31 hP558).2; rw [e582] at h584
                        obtain ⟨v585, e586⟩ : ∃ v, M557 739 33 = v := ⟨_, rfl⟩
                        have h587 := (bf_739_33 hP558).1; rw [e586] at h587
                        have h588 := (bf_739_33 hP558).2; rw [e586] at h588
                        obtain ⟨v589, e590⟩ : ∃ v, M557 739 34 = v := ⟨_, rfl⟩
                        have h591 := (bf_739_34 hP558).1; rw [e590] at h591
                        have h592 := (bf_739_34 hP558).2; rw [e590] at h592
                        obtain ⟨v593, e594⟩ : ∃ v, M557 739 32 = v := ⟨_, rfl⟩
                        have h595 := (bf_739_32 hP558).1; rw [e594] at h595
                        have h596 := (bf_739_32 hP558).2; rw [e594] at h596
                        obtain ⟨v597, e598⟩ : ∃ v, M557 739 28 = v := ⟨_, rfl⟩
                        have h599 := (bf_739_28 hP558).1; rw [e598] at h599
                        have h600 := (bf_739_28 hP558).2; rw [e598] at h600
                        obtain ⟨v601, e602⟩ : ∃ v, M557 739 29 = v := ⟨_, rfl⟩
                        have h603 := (bf_739_29 hP558).1; rw [e602] at h603
                        have h604 := (bf_739_29 hP558).2; rw [e602] at h604
                        have pr605 : GE M557 s0 u0 0 0 := GE_mn (Sm.fr hQ559 rfl) (fun q => by have := ((hQ521.at g_739_28 rfl).trans e333); have := e598; omega) (GE_sm (Sm.fr hQ521 rfl) pr340)
                        have gk : M557 739 28 = v597 := e598
                        refine wk_cv4 r47_151 kc_739_117 rfl (m8117_739 _ M557 6 v312 v577 x739_45 hP558 (by decide) (by decide) (by first | with_reducible assumption | omega) (by first | with_reducible assumption | omega) (by first | with_reducible assumption | omega) (by first | with_reducible assumption | omega) ((hQ559.at g_739_45 rfl).trans ((hQ521.at g_739_45 rfl).trans ((hQ294.at g_739_45 rfl).trans ((hQ261.at g_739_45 rfl).trans ex739_45)))) (by first | with_reducible assumption | omega) (by first | with_reducible assumption | omega)) (cqV ?_)
                        rintro M606 ⟨hP607, hQ608, h610, h611, xh612⟩
                        have hF609 : Fr fm_m8047_739 M0 M606 := hF560.tr hQ608 rfl
                        obtain ⟨v613, e614⟩ : ∃ v, M606 739 45 = v := ⟨_, rfl⟩
                        have h615 := (bf_739_45 hP607).1; rw [e614] at h615
                        have h616 := (bf_739_45 hP607).2; rw [e614] at h616
                        have pr617 : GE M606 s0 u0 1 0 := GE_atom xh612 pr605 (fun q => by rw [gk] at q; exact ⟨by omega, by unfold refok; omega, by omega, by omega⟩)
                        refine wk_goto r47_154 ?_
                        subst hQ; exact wk_ret r47_235 (⟨rfl, hP607, hF609, by have := ((hQ608.at g_739_30 rfl).trans ((hQ559.at g_739_30 rfl).trans ((hQ521.at g_739_30 rfl).trans ((hQ294.at g_739_30 rfl).trans ((hQ261.at g_739_30 rfl).trans ex739_30))))); have := ((hQ608.at g_739_31 rfl).trans e582); omega, by have := ((hQ608.at g_739_31 rfl).trans e582); have := ((hQ608.at g_739_33 rfl).trans e586); have := ((hQ608.at g_739_34 rfl).trans e590); omega, by have := ((hQ608.at g_739_31 rfl).trans e582); have := ((hQ608.at g_739_33 rfl).trans e586); have := ((hQ608.at g_739_34 rfl).trans e590); omega, by have := ((hQ608.at g_739_34 rfl).trans e590); have := ((hQ608.at g_739_32 rfl).trans e594); omega, by have := ((hQ608.at g_739_33 rfl).trans e586); omega, by have := ((hQ608.at g_739_28 rfl).trans e598); omega, by have := ((hQ608.at g_739_33 rfl).trans e586); have := ((hQ608.at g_739_47 rfl).trans ((hQ559.at g_739_47 rfl).trans ((hQ521.at g_739_47 rfl).trans ((hQ294.at g_739_47 rfl).trans ((hQ261.at g_739_47 rfl).trans ex739_47))))); have := e614; have := ((hQ608.at g_739_46 rfl).trans ((hQ559.at g_739_46 rfl).trans ((hQ521.at g_739_46 rfl).trans ((hQ294.at g_739_46 rfl).trans ((hQ261.at g_739_46 rfl).trans ex739_46))))); have := ((hQ608.at g_739_28 rfl).trans e598); omega, by have := e614; have := ((hQ608.at g_739_46 rfl).trans ((hQ559.at g_739_46 rfl).trans ((hQ521.at g_739_46 rfl).trans ((hQ294.at g_739_46 rfl).trans ((hQ261.at g_739_46 rfl).trans ex739_46))))); omega, by have := ((hQ608.at g_739_47 rfl).trans ((hQ559.at g_739_47 rfl).trans ((hQ521.at g_739_47 rfl).trans ((hQ294.at g_739_47 rfl).trans ((hQ261.at g_739_47 rfl).trans ex739_47))))); have := ((hQ608.at g_739_28 rfl).trans e598); omega, by have := ((hQ608.at g_739_29 rfl).trans e602); omega, by have := ((hQ608.at g_739_29 rfl).trans e602); have := ((hQ608.at g_739_28 rfl).trans e598); omega, by have := ((hQ608.at g_739_29 rfl).trans e602); have := ((hQ608.at g_739_28 rfl).trans e598); omega, by rw [((hQ608.at g_739_47 rfl).trans ((hQ559.at g_739_47 rfl).trans ((hQ521.at g_739_47 rfl).trans ((hQ294.at g_739_47 rfl).trans ((hQ261.at g_739_47 rfl).trans ex739_47))))), ((hQ608.at g_739_33 rfl).trans e586), ((hQ608.at g_739_28 rfl).trans e598), ((hQ608.at g_739_29 rfl).trans e602)]; exact a235m (v2 := v320) (v3 := v537) r1 (by omega) (by omega) (by omega) (by omega) (by rcases xh573 with q9 | q9 | q9; (exact Or.inl ⟨by omega, by omega, by omega⟩); (exact Or.inr ⟨by omega, by omega, by omega⟩); (omega)), (TK_sm (Sm.fr hQ608 rfl) pr574), pr617, (TXQ_sm (Sm.fr hQ608 rfl) pr575), (TTP_sm (Sm.fr hQ608 rfl) pr576)⟩)
                    · intro h618
                      exfalso
                      omega
                  · intro h619
                    exfalso
                    omega
                · intro h620
                  clear h498 h499 h500
                  refine wk_al0 r47_93 (wk_c2 r47_94 (wk_cv2 r47_96 kc_739_88 rfl (m8088_739 _ M292 62 v328 v341 x739_30 v320 T hP293 (by decide) (by decide) e329 (by first | with_reducible assumption | omega) (by first | with_reducible assumption | omega) e342 (by first | with_reducible assumption | omega) (by first | with_reducible assumption | omega) ((hQ294.at g_739_30 rfl).trans ((hQ261.at g_739_30 rfl).trans ex739_30)) (by first | with_reducible assumption | omega) (by first | with_reducible assumption | omega) e321 (by first | with_reducible assumption | omega) (by first | with_reducible assumption | omega) pr311) (cqI ?_)))
                  rintro v629 M621 ⟨hP622, hQ623, h630, h631, h625, h626, h627, xh628⟩
                  obtain rfl := Fr.same hQ623
                  have e632 := e329
                  have e633 := e342
                  refine wk_ifne r47_99 ⟨by omega, by omega⟩ ?_ ?_
                  · intro h634
                    replace h625 := h625 (z1_of h630 h631 h634)
                    replace h626 := h626 (z1_of h630 h631 h634)
                    replace h627 := h627 (z1_of h630 h631 h634)
                    refine wk_al0 r47_107 (wk_cv1 r47_108 kc_739_84 rfl (m8084_739 _ M292 v332 hP293 e333 (by first | with_reducible assumption | omega) (by first | with_reducible assumption | omega)) (cqI ?_))
                    rintro v641 M635 ⟨hP636, hQ637, h642, h643, h639, h640⟩
                    obtain rfl := Fr.same hQ637
                    have e644 := e333
                    refine wk_ifne r47_111 ⟨by omega, by omega⟩ ?_ ?_
                    · intro h645
                      refine wk_al0 r47_115 (wk_cv1 r47_116 kc_739_76 rfl (m8076_739 _ M292 x739_30 v316 T hP293 ((hQ294.at g_739_30 rfl).trans ((hQ261.at g_739_30 rfl).trans ex739_30)) (by first | with_reducible assumption | omega) (by first | with_reducible assumption | omega) e317 (by first | with_reducible assumption | omega) (by first | with_reducible assumption | omega) (by omega) pr310) (cqV ?_))
                      rintro M646 ⟨hP647, hQ648, h650, h651, h652, h653, h654, xh655, pr656, pr657, pr658⟩
                      have hF649 : Fr fm_m8047_739 M0 M646 := hF295.tr hQ648 rfl
                      have e659 := ((hQ648.at g_739_30 rfl).trans ((hQ294.at g_739_30 rfl).trans ((hQ261.at g_739_30 rfl).trans ex739_30)))
                      obtain ⟨v660, e661⟩ : ∃ v, M646 739 31 = v := ⟨_, rfl⟩
                      have h662 := (bf_739_31 hP647).1; rw [e661] at h662
                      have h663 := (bf_739_31 hP647).2; rw [e661] at h663
                      obtain ⟨v664, e665⟩ : ∃ v, M646 739 33 = v := ⟨_, rfl⟩
                      have h666 := (bf_739_33 hP647).1; rw [e665] at h666
                      have h667 := (bf_739_33 hP647).2; rw [e665] at h667
                      obtain ⟨v668, e669⟩ : ∃ v, M646 739 34 = v := ⟨_, rfl⟩
                      have h670 := (bf_739_34 hP647).1; rw [e669] at h670
                      have h671 := (bf_739_34 hP647).2; rw [e669] at h671
                      obtain ⟨v672, e673⟩ : ∃ v, M646 739 32 = v := ⟨_, rfl⟩
                      have h674 := (bf_739_32 hP647).1; rw [e673] at h674
                      have h675 := (bf_739_32 hP647).2; rw [e673] at h675
                      have hn676 := nx_ofm pr311 ((hQ294.at g_739_30 rfl).trans ((hQ261.at g_739_30 rfl).trans ex739_30)) e321 e317 xh655
                      refine wk_al0 r47_119 (wk_il3 r47_120 (wk_c2 r47_121 ?_))
                      refine wk_icne r47_123 ⟨by omega, by omega⟩ (by decide) ?_ ?_
                      · intro h677
                        refine wk_il3 r47_130 (wk_c2 r47_131 ?_)
                        refine wk_icne r47_133 ⟨by omega, by omega⟩ (by decide) ?_ ?_
                        · intro h678
                          refine wk_c2 r47_141 (wk_il2 r47_143 (wk_al0 r47_144 (wk_c1 r47_145 (wk_c2 r47_146 ?_))))
                          obtain ⟨v679, e680⟩ : ∃ v, M646 739 35 = v := ⟨_, rfl⟩
                          have h681 := (bf_739_35 hP647).1; rw [e680] at h681
                          have h682 := (bf_739_35 hP647).2; rw [e680] at h682
                          refine wk_cv3 r47_148 kc_739_114 rfl (m8114_739 _ M646 0 99 x739_30 v660 v664 v668 v672 v332 v679 v336 T hP647 (by decide) (by decide) (by decide) (by decide) ((hQ648.at g_739_30 rfl).trans ((hQ294.at g_739_30 rfl).trans ((hQ261.at g_739_30 rfl).trans ex739_30))) (by first | with_reducible assumption | omega) (by first | with_reducible assumption | omega) e661 (by first | with_reducible assumption | omega) (by first | with_reducible assumption | omega) e665 (by first | with_reducible assumption | omega) (by first | with_reducible assumption | omega) e669 (by first | with_reducible assumption | omega) (by first | with_reducible assumption | omega) e673 (by first | with_reducible assumption | omega) (by first | with_reducible assumption | omega) ((hQ648.at g_739_28 rfl).trans e333) (by first | with_reducible assumption | omega) (by first | with_reducible assumption | omega) e680 (by first | with_reducible assumption | omega) (by first | with_reducible assumption | omega) ((hQ648.at g_739_29 rfl).trans e337) (by first | with_reducible assumption | omega) (by first | with_reducible assumption | omega) (by omega) (by omega) (by omega) (by omega) pr656 pr657 pr658) (cqI ?_)
                          rintro v703 M683 ⟨hP684, hQ685, h704, h705, h687, h688, h689, h690, h691, h692, h693, h694, h695, h696, h697, h698, xh699, pr700, pr701, pr702⟩
                          have hF686 : Fr fm_m8047_739 M0 M683 := hF649.tr hQ685 rfl
                          have e706 := ((hQ685.at g_739_30 rfl).trans ((hQ648.at g_739_30 rfl).trans ((hQ294.at g_739_30 rfl).trans ((hQ261.at g_739_30 rfl).trans ex739_30))))
                          obtain ⟨v707, e708⟩ : ∃ v, M683 739 31 = v := ⟨_, rfl⟩
                          have h709 := (bf_739_31 hP684).1; rw [e708] at h709
                          have h710 := (bf_739_31 hP684).2; rw [e708] at h710
                          obtain ⟨v711, e712⟩ : ∃ v, M683 739 33 = v := ⟨_, rfl⟩
                          have h713 := (bf_739_33 hP684).1; rw [e712] at h713
                          have h714 := (bf_739_33 hP684).2; rw [e712] at h714
                          obtain ⟨v715, e716⟩ : ∃ v, M683 739 34 = v := ⟨_, rfl⟩
                          have h717 := (bf_739_34 hP684).1; rw [e716] at h717
                          have h718 := (bf_739_34 hP684).2; rw [e716] at h718
                          obtain ⟨v719, e720⟩ : ∃ v, M683 739 32 = v := ⟨_, rfl⟩
                          have h721 := (bf_739_32 hP684).1; rw [e720] at h721
                          have h722 := (bf_739_32 hP684).2; rw [e720] at h722
                          obtain ⟨v723, e724⟩ : ∃ v, M683 739 28 = v := ⟨_, rfl⟩
                          have h725 := (bf_739_28 hP684).1; rw [e724] at h725
                          have h726 := (bf_739_28 hP684).2; rw [e724] at h726
                          obtain ⟨v727, e728⟩ : ∃ v, M683 739 29 = v := ⟨_, rfl⟩
                          have h729 := (bf_739_29 hP684).1; rw [e728] at h729
                          have h730 := (bf_739_29 hP684).2; rw [e728] at h730
                          have pr731 : GE M683 s0 u0 0 0 := GE_mn (Sm.fr hQ685 rfl) (fun q => by have := ((hQ648.at g_739_28 rfl).trans e333); have := e724; omega) (GE_sm (Sm.fr hQ648 rfl) pr340)
                          have gk : M683 739 28 = v723 := e724
                          refine wk_cv4 r47_151 kc_739_117 rfl (m8117_739 _ M683 7 v312 v703 x739_45 hP684 (by decide) (by decide) (by first | with_reducible assumption | omega) (by first | with_reducible assumption | omega) (by first | with_reducible assumption | omega) (by first | with_reducible assumption | omega) ((hQ685.at g_739_45 rfl).trans ((hQ648.at g_739_45 rfl).trans ((hQ294.at g_739_45 rfl).trans ((hQ261.at g_739_45 rfl).trans ex739_45)))) (by first | with_reducible assumption | omega) (by first | with_reducible assumption | omega)) (cqV ?_)
                          rintro M732 ⟨hP733, hQ734, h736, h737, xh738⟩
                          have hF735 : Fr fm_m8047_739 M0 M732 := hF686.tr hQ734 rfl
                          obtain ⟨v739, e740⟩ : ∃ v, M732 739 45 = v := ⟨_, rfl⟩
                          have h741 := (bf_739_45 hP733).1; rw [e740] at h741
                          have h742 := (bf_739_45 hP733).2; rw [e740] at h742
                          have pr743 : GE M732 s0 u0 1 0 := GE_atom xh738 pr731 (fun q => by rw [gk] at q; exact ⟨by omega, by unfold refok; omega, by omega, by omega⟩)
                          refine wk_goto r47_154 ?_
                          subst hQ; exact wk_ret r47_235 (⟨rfl, hP733, hF735, by have := ((hQ734.at g_739_30 rfl).trans ((hQ685.at g_739_30 rfl).trans ((hQ648.at g_739_30 rfl).trans ((hQ294.at g_739_30 rfl).trans ((hQ261.at g_739_30 rfl).trans ex739_30))))); have := ((hQ734.at g_739_31 rfl).trans e708); omega, by have := ((hQ734.at g_739_31 rfl).trans e708); have := ((hQ734.at g_739_33 rfl).trans e712); have := ((hQ734.at g_739_34 rfl).trans e716); omega, by have := ((hQ734.at g_739_31 rfl).trans e708); have := ((hQ734.at g_739_33 rfl).trans e712); have := ((hQ734.at g_739_34 rfl).trans e716); omega, by have := ((hQ734.at g_739_34 rfl).trans e716); have := ((hQ734.at g_739_32 rfl).trans e720); omega, by have := ((hQ734.at g_739_33 rfl).trans e712); omega, by have := ((hQ734.at g_739_28 rfl).trans e724); omega, by have := ((hQ734.at g_739_33 rfl).trans e712); have := ((hQ734.at g_739_47 rfl).trans ((hQ685.at g_739_47 rfl).trans ((hQ648.at g_739_47 rfl).trans ((hQ294.at g_739_47 rfl).trans ((hQ261.at g_739_47 rfl).trans ex739_47))))); have := e740; have := ((hQ734.at g_739_46 rfl).trans ((hQ685.at g_739_46 rfl).trans ((hQ648.at g_739_46 rfl).trans ((hQ294.at g_739_46 rfl).trans ((hQ261.at g_739_46 rfl).trans ex739_46))))); have := ((hQ734.at g_739_28 rfl).trans e724); omega, by have := e740; have := ((hQ734.at g_739_46 rfl).trans ((hQ685.at g_739_46 rfl).trans ((hQ648.at g_739_46 rfl).trans ((hQ294.at g_739_46 rfl).trans ((hQ261.at g_739_46 rfl).trans ex739_46))))); omega, by have := ((hQ734.at g_739_47 rfl).trans ((hQ685.at g_739_47 rfl).trans ((hQ648.at g_739_47 rfl).trans ((hQ294.at g_739_47 rfl).trans ((hQ261.at g_739_47 rfl).trans ex739_47))))); have := ((hQ734.at g_739_28 rfl).trans e724); omega, by have := ((hQ734.at g_739_29 rfl).trans e728); omega, by have := ((hQ734.at g_739_29 rfl).trans e728); have := ((hQ734.at g_739_28 rfl).trans e724); omega, by have := ((hQ734.at g_739_29 rfl).trans e728); have := ((hQ734.at g_739_28 rfl).trans e724); omega, by rw [((hQ734.at g_739_47 rfl).trans ((hQ685.at g_739_47 rfl).trans ((hQ648.at g_739_47 rfl).trans ((hQ294.at g_739_47 rfl).trans ((hQ261.at g_739_47 rfl).trans ex739_47))))), ((hQ734.at g_739_33 rfl).trans e712), ((hQ734.at g_739_28 rfl).trans e724), ((hQ734.at g_739_29 rfl).trans e728)]; exact a235m (v2 := v320) (v3 := v664) r1 (by omega) (by omega) (by omega) (by omega) (by rcases xh699 with q9 | q9 | q9; (exact Or.inl ⟨by omega, by omega, by omega⟩); (exact Or.inr ⟨by omega, by omega, by omega⟩); (omega)), (TK_sm (Sm.fr hQ734 rfl) pr700), pr743, (TXQ_sm (Sm.fr hQ734 rfl) pr701), (TTP_sm (Sm.fr hQ734 rfl) pr702)⟩)
                        · intro h744
                          exfalso
                          omega
                      · intro h745
                        exfalso
                        omega
                    · intro h746
                      exfalso
                      omega
                  · intro h747
                    clear h625 h626 h627
                    refine wk_al0 r47_102 (wk_c1 r47_103 (wk_cv2 r47_104 kc_739_137 rfl (m8137_739 _ M292 1 v332 v320 v336 hP293 (by decide) (by decide) e333 (by first | with_reducible assumption | omega) (by first | with_reducible assumption | omega) e321 (by first | with_reducible assumption | omega) (by first | with_reducible assumption | omega) e337 (by first | with_reducible assumption | omega) (by first | with_reducible assumption | omega)) (cqV ?_)))
                    rintro M748 ⟨hP749, hQ750, h752, h753, h754, h755, h756, xh757⟩
                    have hF751 : Fr fm_m8047_739 M0 M748 := hF295.tr hQ750 rfl
                    obtain ⟨v758, e759⟩ : ∃ v, M748 739 28 = v := ⟨_, rfl⟩
                    have h760 := (bf_739_28 hP749).1; rw [e759] at h760
                    have h761 := (bf_739_28 hP749).2; rw [e759] at h761
                    obtain ⟨v762, e763⟩ : ∃ v, M748 739 29 = v := ⟨_, rfl⟩
                    have h764 := (bf_739_29 hP749).1; rw [e763] at h764
                    have h765 := (bf_739_29 hP749).2; rw [e763] at h765
                    have pr766 : GE M748 s0 u0 0 0 := GE_mn (Sm.fr hQ750 rfl) (fun q => by have := e333; have := e759; omega) pr340
                    refine wk_al0 r47_107 (wk_cv1 r47_108 kc_739_84 rfl (m8084_739 _ M748 v758 hP749 e759 (by first | with_reducible assumption | omega) (by first | with_reducible assumption | omega)) (cqI ?_))
                    rintro v773 M767 ⟨hP768, hQ769, h774, h775, h771, h772⟩
                    obtain rfl := Fr.same hQ769
                    have e776 := e759
                    refine wk_ifne r47_111 ⟨by omega, by omega⟩ ?_ ?_
                    · intro h777
                      exfalso
                      omega
                    · intro h778
                      subst hQ; exact wk_ret r47_114 (⟨rfl, hP749, hF751, by have := ((hQ750.at g_739_30 rfl).trans ((hQ294.at g_739_30 rfl).trans ((hQ261.at g_739_30 rfl).trans ex739_30))); have := ((hQ750.at g_739_31 rfl).trans e317); omega, by have := ((hQ750.at g_739_31 rfl).trans e317); have := ((hQ750.at g_739_33 rfl).trans e321); have := ((hQ750.at g_739_34 rfl).trans e325); omega, by have := ((hQ750.at g_739_31 rfl).trans e317); have := ((hQ750.at g_739_33 rfl).trans e321); have := ((hQ750.at g_739_34 rfl).trans e325); omega, by have := ((hQ750.at g_739_34 rfl).trans e325); have := ((hQ750.at g_739_32 rfl).trans e329); omega, by have := ((hQ750.at g_739_33 rfl).trans e321); omega, by have := e759; omega, by have := ((hQ750.at g_739_33 rfl).trans e321); have := ((hQ750.at g_739_47 rfl).trans ((hQ294.at g_739_47 rfl).trans ((hQ261.at g_739_47 rfl).trans ex739_47))); have := ((hQ750.at g_739_45 rfl).trans ((hQ294.at g_739_45 rfl).trans ((hQ261.at g_739_45 rfl).trans ex739_45))); have := ((hQ750.at g_739_46 rfl).trans ((hQ294.at g_739_46 rfl).trans ((hQ261.at g_739_46 rfl).trans ex739_46))); have := e759; omega, by have := ((hQ750.at g_739_45 rfl).trans ((hQ294.at g_739_45 rfl).trans ((hQ261.at g_739_45 rfl).trans ex739_45))); have := ((hQ750.at g_739_46 rfl).trans ((hQ294.at g_739_46 rfl).trans ((hQ261.at g_739_46 rfl).trans ex739_46))); omega, by have := ((hQ750.at g_739_47 rfl).trans ((hQ294.at g_739_47 rfl).trans ((hQ261.at g_739_47 rfl).trans ex739_47))); have := e759; omega, by have := e763; omega, by have := e763; have := e759; omega, by have := e763; have := e759; omega, by rw [((hQ750.at g_739_47 rfl).trans ((hQ294.at g_739_47 rfl).trans ((hQ261.at g_739_47 rfl).trans ex739_47))), ((hQ750.at g_739_33 rfl).trans e321), e759, e763]; exact a114 (v2 := v320) r1 (Or.inr ⟨by omega, by omega, by omega, by omega, by omega, by omega, by omega⟩), (TK_sm (Sm.fr hQ750 rfl) pr309), (GE_vac e759 (by omega)), (TXQ_sm (Sm.fr hQ750 rfl) pr310), (TTP_sm (Sm.fr hQ750 rfl) pr311)⟩)
        · intro h779
          subst hQ; exact wk_ret r47_47 (⟨rfl, hP0, hF0, by have := ex739_30; have := ex739_31; omega, by have := ex739_31; have := ex739_33; have := ex739_34; omega, by have := ex739_31; have := ex739_33; have := ex739_34; omega, by have := ex739_34; have := ex739_32; omega, by have := ex739_33; omega, by have := ex739_28; omega, by have := ex739_33; have := ex739_47; have := ex739_45; have := ex739_46; have := ex739_28; omega, by have := ex739_45; have := ex739_46; omega, by have := ex739_47; have := ex739_28; omega, by have := ex739_29; omega, by have := ex739_29; have := ex739_28; omega, by have := ex739_29; have := ex739_28; omega, by rw [ex739_47, ex739_33, ex739_28, ex739_29]; exact a47 xp1 xp2 xp3 xp4 (by omega) (by omega) (by omega), pp_TK, (GE_vac ex739_28 (by omega)), pp_TQ, pp_TT⟩)
      · intro h780
        refine wk_il1 r47_23 (wk_c2 r47_24 ?_)
        refine wk_iceq r47_26 ⟨by omega, by omega⟩ (by decide) ?_ ?_
        · intro h781
          refine wk_al0 r47_40 (wk_cv1 r47_41 kc_739_84 rfl (m8084_739 _ M0 x739_28 hP0 ex739_28 (by first | with_reducible assumption | omega) (by first | with_reducible assumption | omega)) (cqI ?_))
          rintro v788 M782 ⟨hP783, hQ784, h789, h790, h786, h787⟩
          obtain rfl := Fr.same hQ784
          have e791 := ex739_28
          refine wk_ifne r47_44 ⟨by omega, by omega⟩ ?_ ?_
          · intro h792
            refine wk_al0 r47_48 (wk_cv1 r47_49 kc_739_76 rfl (m8076_739 _ M0 x739_30 x739_31 T hP0 ex739_30 (by first | with_reducible assumption | omega) (by first | with_reducible assumption | omega) ex739_31 (by first | with_reducible assumption | omega) (by first | with_reducible assumption | omega) (by omega) pp_TQ) (cqV ?_))
            rintro M793 ⟨hP794, hQ795, h797, h798, h799, h800, h801, xh802, pr803, pr804, pr805⟩
            have hF796 : Fr fm_m8047_739 M0 M793 := hF0.tr hQ795 rfl
            have e806 := ((hQ795.at g_739_30 rfl).trans ex739_30)
            obtain ⟨v807, e808⟩ : ∃ v, M793 739 31 = v := ⟨_, rfl⟩
            have h809 := (bf_739_31 hP794).1; rw [e808] at h809
            have h810 := (bf_739_31 hP794).2; rw [e808] at h810
            obtain ⟨v811, e812⟩ : ∃ v, M793 739 33 = v := ⟨_, rfl⟩
            have h813 := (bf_739_33 hP794).1; rw [e812] at h813
            have h814 := (bf_739_33 hP794).2; rw [e812] at h814
            obtain ⟨v815, e816⟩ : ∃ v, M793 739 34 = v := ⟨_, rfl⟩
            have h817 := (bf_739_34 hP794).1; rw [e816] at h817
            have h818 := (bf_739_34 hP794).2; rw [e816] at h818
            obtain ⟨v819, e820⟩ : ∃ v, M793 739 32 = v := ⟨_, rfl⟩
            have h821 := (bf_739_32 hP794).1; rw [e820] at h821
            have h822 := (bf_739_32 hP794).2; rw [e820] at h822
            have hn823 := nx_ofm pp_TT ex739_30 ex739_33 ex739_31 xh802
            refine wk_il1 r47_52 (wk_c2 r47_53 ?_)
            refine wk_icne r47_55 ⟨by omega, by omega⟩ (by decide) ?_ ?_
            · intro h824
              refine wk_il1 r47_157 (wk_c2 r47_158 ?_)
              refine wk_icne r47_160 ⟨by omega, by omega⟩ (by decide) ?_ ?_
              · intro h825
                refine wk_il1 r47_167 (wk_c2 r47_168 ?_)
                refine wk_icne r47_170 ⟨by omega, by omega⟩ (by decide) ?_ ?_
                · intro h826
                  refine wk_il1 r47_178 (wk_c2 r47_179 ?_)
                  refine wk_icne r47_181 ⟨by omega, by omega⟩ (by decide) ?_ ?_
                  · intro h827
                    exfalso
                    omega
                  · intro h828
                    refine wk_c1 r47_184 (wk_goto r47_185 (wk_is2 r47_190 rfl (wk_al0 r47_191 (wk_il1 r47_192 (wk_c2 r47_193 ?_)))))
                    refine wk_icne r47_195 ⟨by omega, by omega⟩ (by decide) ?_ ?_
                    · intro h829
                      refine wk_il1 r47_202 (wk_c2 r47_203 ?_)
                      refine wk_icne r47_205 ⟨by omega, by omega⟩ (by decide) ?_ ?_
                      · intro h830
                        refine wk_il1 r47_212 (wk_c2 r47_213 ?_)
                        refine wk_icne r47_215 ⟨by omega, by omega⟩ (by decide) ?_ ?_
                        · intro h831
                          exfalso
                          omega
                        · intro h832
                          refine wk_c2 r47_218 (wk_goto r47_220 ?_)
                          have r1 : AX T x739_30 x739_38 c0 x739_47 1 v811 := A1 xp1 xp2 xp3 xp4 (by omega) (by omega)
                          refine wk_al0 r47_225 (wk_c1 r47_226 (wk_il2 r47_227 ?_))
                          obtain ⟨v833, e834⟩ : ∃ v, M793 739 35 = v := ⟨_, rfl⟩
                          have h835 := (bf_739_35 hP794).1; rw [e834] at h835
                          have h836 := (bf_739_35 hP794).2; rw [e834] at h836
                          refine wk_cv3 r47_228 kc_739_114 rfl (m8114_739 _ M793 0 1 x739_30 v807 v811 v815 v819 x739_28 v833 x739_29 T hP794 (by decide) (by decide) (by decide) (by decide) ((hQ795.at g_739_30 rfl).trans ex739_30) (by first | with_reducible assumption | omega) (by first | with_reducible assumption | omega) e808 (by first | with_reducible assumption | omega) (by first | with_reducible assumption | omega) e812 (by first | with_reducible assumption | omega) (by first | with_reducible assumption | omega) e816 (by first | with_reducible assumption | omega) (by first | with_reducible assumption | omega) e820 (by first | with_reducible assumption | omega) (by first | with_reducible assumption | omega) ((hQ795.at g_739_28 rfl).trans ex739_28) (by first | with_reducible assumption | omega) (by first | with_reducible assumption | omega) e834 (by first | with_reducible assumption | omega) (by first | with_reducible assumption | omega) ((hQ795.at g_739_29 rfl).trans ex739_29) (by first | with_reducible assumption | omega) (by first | with_reducible assumption | omega) (by omega) (by omega) (by omega) (by omega) pr803 pr804 pr805) (cqI ?_)
                          rintro v857 M837 ⟨hP838, hQ839, h858, h859, h841, h842, h843, h844, h845, h846, h847, h848, h849, h850, h851, h852, xh853, pr854, pr855, pr856⟩
                          have hF840 : Fr fm_m8047_739 M0 M837 := hF796.tr hQ839 rfl
                          have e860 := ((hQ839.at g_739_30 rfl).trans ((hQ795.at g_739_30 rfl).trans ex739_30))
                          obtain ⟨v861, e862⟩ : ∃ v, M837 739 31 = v := ⟨_, rfl⟩
                          have h863 := (bf_739_31 hP838).1; rw [e862] at h863
                          have h864 := (bf_739_31 hP838).2; rw [e862] at h864
                          obtain ⟨v865, e866⟩ : ∃ v, M837 739 33 = v := ⟨_, rfl⟩
                          have h867 := (bf_739_33 hP838).1; rw [e866] at h867
                          have h868 := (bf_739_33 hP838).2; rw [e866] at h868
                          obtain ⟨v869, e870⟩ : ∃ v, M837 739 34 = v := ⟨_, rfl⟩
                          have h871 := (bf_739_34 hP838).1; rw [e870] at h871
                          have h872 := (bf_739_34 hP838).2; rw [e870] at h872
                          obtain ⟨v873, e874⟩ : ∃ v, M837 739 32 = v := ⟨_, rfl⟩
                          have h875 := (bf_739_32 hP838).1; rw [e874] at h875
                          have h876 := (bf_739_32 hP838).2; rw [e874] at h876
                          obtain ⟨v877, e878⟩ : ∃ v, M837 739 28 = v := ⟨_, rfl⟩
                          have h879 := (bf_739_28 hP838).1; rw [e878] at h879
                          have h880 := (bf_739_28 hP838).2; rw [e878] at h880
                          obtain ⟨v881, e882⟩ : ∃ v, M837 739 29 = v := ⟨_, rfl⟩
                          have h883 := (bf_739_29 hP838).1; rw [e882] at h883
                          have h884 := (bf_739_29 hP838).2; rw [e882] at h884
                          have pr885 : GE M837 s0 u0 0 0 := GE_mn (Sm.fr hQ839 rfl) (fun q => by have := ((hQ795.at g_739_28 rfl).trans ex739_28); have := e878; omega) (GE_sm (Sm.fr hQ795 rfl) pp_E0)
                          refine wk_c1 r47_231 ?_
                          have gk : M837 739 28 = v877 := e878
                          refine wk_cv4 r47_232 kc_739_117 rfl (m8117_739 _ M837 8 v857 0 x739_45 hP838 (by decide) (by decide) (by first | with_reducible assumption | omega) (by first | with_reducible assumption | omega) (by decide) (by decide) ((hQ839.at g_739_45 rfl).trans ((hQ795.at g_739_45 rfl).trans ex739_45)) (by first | with_reducible assumption | omega) (by first | with_reducible assumption | omega)) (cqV ?_)
                          rintro M886 ⟨hP887, hQ888, h890, h891, xh892⟩
                          have hF889 : Fr fm_m8047_739 M0 M886 := hF840.tr hQ888 rfl
                          obtain ⟨v893, e894⟩ : ∃ v, M886 739 45 = v := ⟨_, rfl⟩
                          have h895 := (bf_739_45 hP887).1; rw [e894] at h895
                          have h896 := (bf_739_45 hP887).2; rw [e894] at h896
                          have pr897 : GE M886 s0 u0 1 0 := GE_atom xh892 pr885 (fun q => by rw [gk] at q; exact ⟨by omega, by unfold refok; omega, by omega, by omega⟩)
                          subst hQ; exact wk_ret r47_235 (⟨rfl, hP887, hF889, by have := ((hQ888.at g_739_30 rfl).trans ((hQ839.at g_739_30 rfl).trans ((hQ795.at g_739_30 rfl).trans ex739_30))); have := ((hQ888.at g_739_31 rfl).trans e862); omega, by have := ((hQ888.at g_739_31 rfl).trans e862); have := ((hQ888.at g_739_33 rfl).trans e866); have := ((hQ888.at g_739_34 rfl).trans e870); omega, by have := ((hQ888.at g_739_31 rfl).trans e862); have := ((hQ888.at g_739_33 rfl).trans e866); have := ((hQ888.at g_739_34 rfl).trans e870); omega, by have := ((hQ888.at g_739_34 rfl).trans e870); have := ((hQ888.at g_739_32 rfl).trans e874); omega, by have := ((hQ888.at g_739_33 rfl).trans e866); omega, by have := ((hQ888.at g_739_28 rfl).trans e878); omega, by have := ((hQ888.at g_739_33 rfl).trans e866); have := ((hQ888.at g_739_47 rfl).trans ((hQ839.at g_739_47 rfl).trans ((hQ795.at g_739_47 rfl).trans ex739_47))); have := e894; have := ((hQ888.at g_739_46 rfl).trans ((hQ839.at g_739_46 rfl).trans ((hQ795.at g_739_46 rfl).trans ex739_46))); have := ((hQ888.at g_739_28 rfl).trans e878); omega, by have := e894; have := ((hQ888.at g_739_46 rfl).trans ((hQ839.at g_739_46 rfl).trans ((hQ795.at g_739_46 rfl).trans ex739_46))); omega, by have := ((hQ888.at g_739_47 rfl).trans ((hQ839.at g_739_47 rfl).trans ((hQ795.at g_739_47 rfl).trans ex739_47))); have := ((hQ888.at g_739_28 rfl).trans e878); omega, by have := ((hQ888.at g_739_29 rfl).trans e882); omega, by have := ((hQ888.at g_739_29 rfl).trans e882); have := ((hQ888.at g_739_28 rfl).trans e878); omega, by have := ((hQ888.at g_739_29 rfl).trans e882); have := ((hQ888.at g_739_28 rfl).trans e878); omega, by rw [((hQ888.at g_739_47 rfl).trans ((hQ839.at g_739_47 rfl).trans ((hQ795.at g_739_47 rfl).trans ex739_47))), ((hQ888.at g_739_33 rfl).trans e866), ((hQ888.at g_739_28 rfl).trans e878), ((hQ888.at g_739_29 rfl).trans e882)]; exact a235n r1 (by rcases xh853 with q9 | q9 | q9; (exact Or.inl ⟨by omega, by omega, by omega⟩); (exact Or.inr ⟨by omega, by omega, by omega⟩); (omega)), (TK_sm (Sm.fr hQ888 rfl) pr854), pr897, (TXQ_sm (Sm.fr hQ888 rfl) pr855), (TTP_sm (Sm.fr hQ888 rfl) pr856)⟩)
                      · intro h898
                        exfalso
                        omega
                    · intro h899
                      exfalso
                      omega
                · intro h900
                  exfalso
                  omega
              · intro h901
                exfalso
                omega
            · intro h902
              exfalso
              omega
          · intro h903
            subst hQ; exact wk_ret r47_47 (⟨rfl, hP0, hF0, by have := ex739_30; have := ex739_31; omega, by have := ex739_31; have := ex739_33; have := ex739_34; omega, by have := ex739_31; have := ex739_33; have := ex739_34; omega, by have := ex739_34; have := ex739_32; omega, by have := ex739_33; omega, by have := ex739_28; omega, by have := ex739_33; have := ex739_47; have := ex739_45; have := ex739_46; have := ex739_28; omega, by have := ex739_45; have := ex739_46; omega, by have := ex739_47; have := ex739_28; omega, by have := ex739_29; omega, by have := ex739_29; have := ex739_28; omega, by have := ex739_29; have := ex739_28; omega, by rw [ex739_47, ex739_33, ex739_28, ex739_29]; exact a47 xp1 xp2 xp3 xp4 (by omega) (by omega) (by omega), pp_TK, (GE_vac ex739_28 (by omega)), pp_TQ, pp_TT⟩)
        · intro h904
          refine wk_il1 r47_29 (wk_c2 r47_30 ?_)
          refine wk_iceq r47_32 ⟨by omega, by omega⟩ (by decide) ?_ ?_
          · intro h905
            refine wk_al0 r47_40 (wk_cv1 r47_41 kc_739_84 rfl (m8084_739 _ M0 x739_28 hP0 ex739_28 (by first | with_reducible assumption | omega) (by first | with_reducible assumption | omega)) (cqI ?_))
            rintro v912 M906 ⟨hP907, hQ908, h913, h914, h910, h911⟩
            obtain rfl := Fr.same hQ908
            have e915 := ex739_28
            refine wk_ifne r47_44 ⟨by omega, by omega⟩ ?_ ?_
            · intro h916
              refine wk_al0 r47_48 (wk_cv1 r47_49 kc_739_76 rfl (m8076_739 _ M0 x739_30 x739_31 T hP0 ex739_30 (by first | with_reducible assumption | omega) (by first | with_reducible assumption | omega) ex739_31 (by first | with_reducible assumption | omega) (by first | with_reducible assumption | omega) (by omega) pp_TQ) (cqV ?_))
              rintro M917 ⟨hP918, hQ919, h921, h922, h923, h924, h925, xh926, pr927, pr928, pr929⟩
              have hF920 : Fr fm_m8047_739 M0 M917 := hF0.tr hQ919 rfl
              have e930 := ((hQ919.at g_739_30 rfl).trans ex739_30)
              obtain ⟨v931, e932⟩ : ∃ v, M917 739 31 = v := ⟨_, rfl⟩
              have h933 := (bf_739_31 hP918).1; rw [e932] at h933
              have h934 := (bf_739_31 hP918).2; rw [e932] at h934
              obtain ⟨v935, e936⟩ : ∃ v, M917 739 33 = v := ⟨_, rfl⟩
              have h937 := (bf_739_33 hP918).1; rw [e936] at h937
              have h938 := (bf_739_33 hP918).2; rw [e936] at h938
              obtain ⟨v939, e940⟩ : ∃ v, M917 739 34 = v := ⟨_, rfl⟩
              have h941 := (bf_739_34 hP918).1; rw [e940] at h941
              have h942 := (bf_739_34 hP918).2; rw [e940] at h942
              obtain ⟨v943, e944⟩ : ∃ v, M917 739 32 = v := ⟨_, rfl⟩
              have h945 := (bf_739_32 hP918).1; rw [e944] at h945
              have h946 := (bf_739_32 hP918).2; rw [e944] at h946
              have hn947 := nx_ofm pp_TT ex739_30 ex739_33 ex739_31 xh926
              refine wk_il1 r47_52 (wk_c2 r47_53 ?_)
              refine wk_icne r47_55 ⟨by omega, by omega⟩ (by decide) ?_ ?_
              · intro h948
                refine wk_il1 r47_157 (wk_c2 r47_158 ?_)
                refine wk_icne r47_160 ⟨by omega, by omega⟩ (by decide) ?_ ?_
                · intro h949
                  refine wk_il1 r47_167 (wk_c2 r47_168 ?_)
                  refine wk_icne r47_170 ⟨by omega, by omega⟩ (by decide) ?_ ?_
                  · intro h950
                    refine wk_il1 r47_178 (wk_c2 r47_179 ?_)
                    refine wk_icne r47_181 ⟨by omega, by omega⟩ (by decide) ?_ ?_
                    · intro h951
                      refine wk_c2 r47_188 (wk_is2 r47_190 rfl (wk_al0 r47_191 (wk_il1 r47_192 (wk_c2 r47_193 ?_))))
                      refine wk_icne r47_195 ⟨by omega, by omega⟩ (by decide) ?_ ?_
                      · intro h952
                        refine wk_il1 r47_202 (wk_c2 r47_203 ?_)
                        refine wk_icne r47_205 ⟨by omega, by omega⟩ (by decide) ?_ ?_
                        · intro h953
                          refine wk_il1 r47_212 (wk_c2 r47_213 ?_)
                          refine wk_icne r47_215 ⟨by omega, by omega⟩ (by decide) ?_ ?_
                          · intro h954
                            refine wk_c2 r47_223 ?_
                            have r1 : AX T x739_30 x739_38 c0 x739_47 99 v935 := A1 xp1 xp2 xp3 xp4 (by omega) (by omega)
                            refine wk_al0 r47_225 (wk_c1 r47_226 (wk_il2 r47_227 ?_))
                            obtain ⟨v955, e956⟩ : ∃ v, M917 739 35 = v := ⟨_, rfl⟩
                            have h957 := (bf_739_35 hP918).1; rw [e956] at h957
                            have h958 := (bf_739_35 hP918).2; rw [e956] at h958
                            refine wk_cv3 r47_228 kc_739_114 rfl (m8114_739 _ M917 0 99 x739_30 v931 v935 v939 v943 x739_28 v955 x739_29 T hP918 (by decide) (by decide) (by decide) (by decide) ((hQ919.at g_739_30 rfl).trans ex739_30) (by first | with_reducible assumption | omega) (by first | with_reducible assumption | omega) e932 (by first | with_reducible assumption | omega) (by first | with_reducible assumption | omega) e936 (by first | with_reducible assumption | omega) (by first | with_reducible assumption | omega) e940 (by first | with_reducible assumption | omega) (by first | with_reducible assumption | omega) e944 (by first | with_reducible assumption | omega) (by first | with_reducible assumption | omega) ((hQ919.at g_739_28 rfl).trans ex739_28) (by first | with_reducible assumption | omega) (by first | with_reducible assumption | omega) e956 (by first | with_reducible assumption | omega) (by first | with_reducible assumption | omega) ((hQ919.at g_739_29 rfl).trans ex739_29) (by first | with_reducible assumption | omega) (by first | with_reducible assumption | omega) (by omega) (by omega) (by omega) (by omega) pr927 pr928 pr929) (cqI ?_)
                            rintro v979 M959 ⟨hP960, hQ961, h980, h981, h963, h964, h965, h966, h967, h968, h969, h970, h971, h972, h973, h974, xh975, pr976, pr977, pr978⟩
                            have hF962 : Fr fm_m8047_739 M0 M959 := hF920.tr hQ961 rfl
                            have e982 := ((hQ961.at g_739_30 rfl).trans ((hQ919.at g_739_30 rfl).trans ex739_30))
                            obtain ⟨v983, e984⟩ : ∃ v, M959 739 31 = v := ⟨_, rfl⟩
                            have h985 := (bf_739_31 hP960).1; rw [e984] at h985
                            have h986 := (bf_739_31 hP960).2; rw [e984] at h986
                            obtain ⟨v987, e988⟩ : ∃ v, M959 739 33 = v := ⟨_, rfl⟩
                            have h989 := (bf_739_33 hP960).1; rw [e988] at h989
                            have h990 := (bf_739_33 hP960).2; rw [e988] at h990
                            obtain ⟨v991, e992⟩ : ∃ v, M959 739 34 = v := ⟨_, rfl⟩
                            have h993 := (bf_739_34 hP960).1; rw [e992] at h993
                            have h994 := (bf_739_34 hP960).2; rw [e992] at h994
                            obtain ⟨v995, e996⟩ : ∃ v, M959 739 32 = v := ⟨_, rfl⟩
                            have h997 := (bf_739_32 hP960).1; rw [e996] at h997
                            have h998 := (bf_739_32 hP960).2; rw [e996] at h998
                            obtain ⟨v999, e1000⟩ : ∃ v, M959 739 28 = v := ⟨_, rfl⟩
                            have h1001 := (bf_739_28 hP960).1; rw [e1000] at h1001
                            have h1002 := (bf_739_28 hP960).2; rw [e1000] at h1002
                            obtain ⟨v1003, e1004⟩ : ∃ v, M959 739 29 = v := ⟨_, rfl⟩
                            have h1005 := (bf_739_29 hP960).1; rw [e1004] at h1005
                            have h1006 := (bf_739_29 hP960).2; rw [e1004] at h1006
                            have pr1007 : GE M959 s0 u0 0 0 := GE_mn (Sm.fr hQ961 rfl) (fun q => by have := ((hQ919.at g_739_28 rfl).trans ex739_28); have := e1000; omega) (GE_sm (Sm.fr hQ919 rfl) pp_E0)
                            refine wk_c1 r47_231 ?_
                            have gk : M959 739 28 = v999 := e1000
                            refine wk_cv4 r47_232 kc_739_117 rfl (m8117_739 _ M959 9 v979 0 x739_45 hP960 (by decide) (by decide) (by first | with_reducible assumption | omega) (by first | with_reducible assumption | omega) (by decide) (by decide) ((hQ961.at g_739_45 rfl).trans ((hQ919.at g_739_45 rfl).trans ex739_45)) (by first | with_reducible assumption | omega) (by first | with_reducible assumption | omega)) (cqV ?_)
                            rintro M1008 ⟨hP1009, hQ1010, h1012, h1013, xh1014⟩
                            have hF1011 : Fr fm_m8047_739 M0 M1008 := hF962.tr hQ1010 rfl
                            obtain ⟨v1015, e1016⟩ : ∃ v, M1008 739 45 = v := ⟨_, rfl⟩
                            have h1017 := (bf_739_45 hP1009).1; rw [e1016] at h1017
                            have h1018 := (bf_739_45 hP1009).2; rw [e1016] at h1018
                            have pr1019 : GE M1008 s0 u0 1 0 := GE_atom xh1014 pr1007 (fun q => by rw [gk] at q; exact ⟨by omega, by unfold refok; omega, by omega, by omega⟩)
                            subst hQ; exact wk_ret r47_235 (⟨rfl, hP1009, hF1011, by have := ((hQ1010.at g_739_30 rfl).trans ((hQ961.at g_739_30 rfl).trans ((hQ919.at g_739_30 rfl).trans ex739_30))); have := ((hQ1010.at g_739_31 rfl).trans e984); omega, by have := ((hQ1010.at g_739_31 rfl).trans e984); have := ((hQ1010.at g_739_33 rfl).trans e988); have := ((hQ1010.at g_739_34 rfl).trans e992); omega, by have := ((hQ1010.at g_739_31 rfl).trans e984); have := ((hQ1010.at g_739_33 rfl).trans e988); have := ((hQ1010.at g_739_34 rfl).trans e992); omega, by have := ((hQ1010.at g_739_34 rfl).trans e992); have := ((hQ1010.at g_739_32 rfl).trans e996); omega, by have := ((hQ1010.at g_739_33 rfl).trans e988); omega, by have := ((hQ1010.at g_739_28 rfl).trans e1000); omega, by have := ((hQ1010.at g_739_33 rfl).trans e988); have := ((hQ1010.at g_739_47 rfl).trans ((hQ961.at g_739_47 rfl).trans ((hQ919.at g_739_47 rfl).trans ex739_47))); have := e1016; have := ((hQ1010.at g_739_46 rfl).trans ((hQ961.at g_739_46 rfl).trans ((hQ919.at g_739_46 rfl).trans ex739_46))); have := ((hQ1010.at g_739_28 rfl).trans e1000); omega, by have := e1016; have := ((hQ1010.at g_739_46 rfl).trans ((hQ961.at g_739_46 rfl).trans ((hQ919.at g_739_46 rfl).trans ex739_46))); omega, by have := ((hQ1010.at g_739_47 rfl).trans ((hQ961.at g_739_47 rfl).trans ((hQ919.at g_739_47 rfl).trans ex739_47))); have := ((hQ1010.at g_739_28 rfl).trans e1000); omega, by have := ((hQ1010.at g_739_29 rfl).trans e1004); omega, by have := ((hQ1010.at g_739_29 rfl).trans e1004); have := ((hQ1010.at g_739_28 rfl).trans e1000); omega, by have := ((hQ1010.at g_739_29 rfl).trans e1004); have := ((hQ1010.at g_739_28 rfl).trans e1000); omega, by rw [((hQ1010.at g_739_47 rfl).trans ((hQ961.at g_739_47 rfl).trans ((hQ919.at g_739_47 rfl).trans ex739_47))), ((hQ1010.at g_739_33 rfl).trans e988), ((hQ1010.at g_739_28 rfl).trans e1000), ((hQ1010.at g_739_29 rfl).trans e1004)]; exact a235n r1 (by rcases xh975 with q9 | q9 | q9; (exact Or.inl ⟨by omega, by omega, by omega⟩); (exact Or.inr ⟨by omega, by omega, by omega⟩); (omega)), (TK_sm (Sm.fr hQ1010 rfl) pr976), pr1019, (TXQ_sm (Sm.fr hQ1010 rfl) pr977), (TTP_sm (Sm.fr hQ1010 rfl) pr978)⟩)
                          · intro h1020
                            exfalso
                            omega
                        · intro h1021
                          exfalso
                          omega
                      · intro h1022
                        exfalso
                        omega
                    · intro h1023
                      exfalso
                      omega
                  · intro h1024
                    exfalso
                    omega
                · intro h1025
                  exfalso
                  omega
              · intro h1026
                exfalso
                omega
            · intro h1027
              subst hQ; exact wk_ret r47_47 (⟨rfl, hP0, hF0, by have := ex739_30; have := ex739_31; omega, by have := ex739_31; have := ex739_33; have := ex739_34; omega, by have := ex739_31; have := ex739_33; have := ex739_34; omega, by have := ex739_34; have := ex739_32; omega, by have := ex739_33; omega, by have := ex739_28; omega, by have := ex739_33; have := ex739_47; have := ex739_45; have := ex739_46; have := ex739_28; omega, by have := ex739_45; have := ex739_46; omega, by have := ex739_47; have := ex739_28; omega, by have := ex739_29; omega, by have := ex739_29; have := ex739_28; omega, by have := ex739_29; have := ex739_28; omega, by rw [ex739_47, ex739_33, ex739_28, ex739_29]; exact a47 xp1 xp2 xp3 xp4 (by omega) (by omega) (by omega), pp_TK, (GE_vac ex739_28 (by omega)), pp_TQ, pp_TT⟩)
          · intro h1028
            refine wk_al0 r47_35 (wk_c1 r47_36 (wk_cv2 r47_37 kc_739_137 rfl (m8137_739 _ M0 1 x739_28 x739_33 x739_29 hP0 (by decide) (by decide) ex739_28 (by first | with_reducible assumption | omega) (by first | with_reducible assumption | omega) ex739_33 (by first | with_reducible assumption | omega) (by first | with_reducible assumption | omega) ex739_29 (by first | with_reducible assumption | omega) (by first | with_reducible assumption | omega)) (cqV ?_)))
            rintro M1029 ⟨hP1030, hQ1031, h1033, h1034, h1035, h1036, h1037, xh1038⟩
            have hF1032 : Fr fm_m8047_739 M0 M1029 := hF0.tr hQ1031 rfl
            obtain ⟨v1039, e1040⟩ : ∃ v, M1029 739 28 = v := ⟨_, rfl⟩
            have h1041 := (bf_739_28 hP1030).1; rw [e1040] at h1041
            have h1042 := (bf_739_28 hP1030).2; rw [e1040] at h1042
            obtain ⟨v1043, e1044⟩ : ∃ v, M1029 739 29 = v := ⟨_, rfl⟩
            have h1045 := (bf_739_29 hP1030).1; rw [e1044] at h1045
            have h1046 := (bf_739_29 hP1030).2; rw [e1044] at h1046
            have pr1047 : GE M1029 s0 u0 0 0 := GE_mn (Sm.fr hQ1031 rfl) (fun q => by have := ex739_28; have := e1040; omega) pp_E0
            refine wk_al0 r47_40 (wk_cv1 r47_41 kc_739_84 rfl (m8084_739 _ M1029 v1039 hP1030 e1040 (by first | with_reducible assumption | omega) (by first | with_reducible assumption | omega)) (cqI ?_))
            rintro v1054 M1048 ⟨hP1049, hQ1050, h1055, h1056, h1052, h1053⟩
            obtain rfl := Fr.same hQ1050
            have e1057 := e1040
            refine wk_ifne r47_44 ⟨by omega, by omega⟩ ?_ ?_
            · intro h1058
              exfalso
              omega
            · intro h1059
              subst hQ; exact wk_ret r47_47 (⟨rfl, hP1030, hF1032, by have := ((hQ1031.at g_739_30 rfl).trans ex739_30); have := ((hQ1031.at g_739_31 rfl).trans ex739_31); omega, by have := ((hQ1031.at g_739_31 rfl).trans ex739_31); have := ((hQ1031.at g_739_33 rfl).trans ex739_33); have := ((hQ1031.at g_739_34 rfl).trans ex739_34); omega, by have := ((hQ1031.at g_739_31 rfl).trans ex739_31); have := ((hQ1031.at g_739_33 rfl).trans ex739_33); have := ((hQ1031.at g_739_34 rfl).trans ex739_34); omega, by have := ((hQ1031.at g_739_34 rfl).trans ex739_34); have := ((hQ1031.at g_739_32 rfl).trans ex739_32); omega, by have := ((hQ1031.at g_739_33 rfl).trans ex739_33); omega, by have := e1040; omega, by have := ((hQ1031.at g_739_33 rfl).trans ex739_33); have := ((hQ1031.at g_739_47 rfl).trans ex739_47); have := ((hQ1031.at g_739_45 rfl).trans ex739_45); have := ((hQ1031.at g_739_46 rfl).trans ex739_46); have := e1040; omega, by have := ((hQ1031.at g_739_45 rfl).trans ex739_45); have := ((hQ1031.at g_739_46 rfl).trans ex739_46); omega, by have := ((hQ1031.at g_739_47 rfl).trans ex739_47); have := e1040; omega, by have := e1044; omega, by have := e1044; have := e1040; omega, by have := e1044; have := e1040; omega, by rw [((hQ1031.at g_739_47 rfl).trans ex739_47), ((hQ1031.at g_739_33 rfl).trans ex739_33), e1040, e1044]; exact a47 xp1 xp2 xp3 xp4 (by omega) (by omega) (by omega), (TK_sm (Sm.fr hQ1031 rfl) pp_TK), (GE_vac e1040 (by omega)), (TXQ_sm (Sm.fr hQ1031 rfl) pp_TQ), (TTP_sm (Sm.fr hQ1031 rfl) pp_TT)⟩)
