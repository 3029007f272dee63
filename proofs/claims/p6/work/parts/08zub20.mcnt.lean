
def fm_n8061_739 : Nat := 11692013098647223345629478661730264157247460343808
/-- IslandHallModel.count -/
theorem n8061_739 {B : eB} (d : Nat) (M0 : Mm) (p1 : Int) (x739_1 : Int) (x739_2 : Int) (x739_13 : Int) (x739_15 : Int) (x739_21 : Int) (x739_27 : Int) (x739_3 : Int) (x739_24 : Int) (x739_0 : Int) (hP0 : Pw M0) (l1 : (-2147483648) ≤ p1) (u1 : p1 ≤ 2147483647) (ex739_1 : M0 739 1 = x739_1) (lx739_1 : 0 ≤ x739_1) (ux739_1 : x739_1 ≤ 7) (ex739_2 : M0 739 2 = x739_2) (lx739_2 : 1 ≤ x739_2) (ux739_2 : x739_2 ≤ 4) (ex739_13 : M0 739 13 = x739_13) (lx739_13 : 0 ≤ x739_13) (ux739_13 : x739_13 ≤ 30) (ex739_15 : M0 739 15 = x739_15) (lx739_15 : 0 ≤ x739_15) (ux739_15 : x739_15 ≤ 12) (ex739_21 : M0 739 21 = x739_21) (lx739_21 : 0 ≤ x739_21) (ux739_21 : x739_21 ≤ 10) (ex739_27 : M0 739 27 = x739_27) (lx739_27 : 0 ≤ x739_27) (ux739_27 : x739_27 ≤ 500) (ex739_3 : M0 739 3 = x739_3) (lx739_3 : 0 ≤ x739_3) (ux739_3 : x739_3 ≤ 127) (ex739_24 : M0 739 24 = x739_24) (lx739_24 : (-1) ≤ x739_24) (ux739_24 : x739_24 ≤ 2999) (ex739_0 : M0 739 0 = x739_0) (lx739_0 : 0 ≤ x739_0) (ux739_0 : x739_0 ≤ 1) : Ct B (d + 2) 61 [R 739, I p1] M0 (qI fun z M => Pw M ∧ Fr fm_n8061_739 M0 M ∧ 0 ≤ z ∧ z ≤ 500 ∧ (((p1 < 0 ∨ 7 < p1) ∧ z = 0 ∧ M 739 0 = 1) ∨ (0 ≤ p1 ∧ p1 ≤ 7 ∧ M 739 0 = 0 ∧ ((p1 = 0 ∧ z = x739_1) ∨ (p1 = 1 ∧ z = x739_2) ∨ (p1 = 2 ∧ z = x739_13) ∨ (p1 = 3 ∧ z = x739_15) ∨ (p1 = 4 ∧ z = x739_21) ∨ (p1 = 5 ∧ z = x739_27) ∨ (p1 = 6 ∧ z = x739_3) ∨ (p1 = 7 ∧ ((x739_24 = -1 ∧ z = 0) ∨ (x739_24 ≠ -1 ∧ z = 1))))))) := by
  refine ct_of (d := d + 1) (k := 0) (L := [some (R 739), some (I p1)]) rfl rfl rfl ?_
  have hF0 := Fr.rf fm_n8061_739 M0
  generalize hQ : (qI fun z M => Pw M ∧ Fr fm_n8061_739 M0 M ∧ 0 ≤ z ∧ z ≤ 500 ∧ (((p1 < 0 ∨ 7 < p1) ∧ z = 0 ∧ M 739 0 = 1) ∨ (0 ≤ p1 ∧ p1 ≤ 7 ∧ M 739 0 = 0 ∧ ((p1 = 0 ∧ z = x739_1) ∨ (p1 = 1 ∧ z = x739_2) ∨ (p1 = 2 ∧ z = x739_13) ∨ (p1 = 3 ∧ z = x739_15) ∨ (p1 = 4 ∧ z = x739_21) ∨ (p1 = 5 ∧ z = x739_27) ∨ (p1 = 6 ∧ z = x739_3) ∨ (p1 = 7 ∧ ((x739_24 = -1 ∧ z = 0) ∨ (x739_24 ≠ -1 ∧ z = 1))))))) = Q
  refine wk_al0 r61_0 (wk_c1 r61_1 (wk_putfi81 r61_2 fd_739_0 (wk_nw g_739_0 rfl hP0 hF0 (uf_739_0 (by decide)) ?_)))
  intro M1 hP2 hF3 e4
  refine wk_al0 r61_5 (wk_il1 r61_6 ?_)
  refine wk_iflt r61_7 ⟨by omega, by omega⟩ ?_ ?_
  · intro h5
    refine wk_c1 r61_20 (wk_c1 r61_21 (wk_cv3 r61_22 kc_739_123 rfl (n8123_739 _ M1 0 1 0 hP2 (by decide) (by decide) (by decide) (by decide) (mUp_at e4) (by first | with_reducible assumption | omega) (by first | with_reducible assumption | omega)) (cqI ?_)))
    rintro v15 M6 ⟨hP7, hQ8, h16, h17, h10, h11, xh12, xh13, xh14⟩
    have hF9 : Fr fm_n8061_739 M0 M6 := hF3.tr hQ8 rfl
    obtain ⟨v18, e19⟩ : ∃ v, M6 739 0 = v := ⟨_, rfl⟩
    have h20 := (bf_739_0 hP7).1; rw [e19] at h20
    have h21 := (bf_739_0 hP7).2; rw [e19] at h21
    have h22 := xh12
    have h23 := xh13
    have h24 := (mUp_at e4)
    have h25 := e19
    refine wk_ifne r61_25 ⟨by omega, by omega⟩ ?_ ?_
    · intro h26
      exfalso
      omega
    · intro h27
      refine wk_c1 r61_28 ?_
      subst hQ; exact wk_iret r61_29 (⟨rfl, _, rfl, hP7, hF9, by omega, by omega, Or.inl ⟨by omega, by omega, by have := e19; omega⟩⟩)
  · intro h28
    refine wk_il1 r61_10 (wk_c2 r61_11 ?_)
    refine wk_icgt r61_13 ⟨by omega, by omega⟩ (by decide) ?_ ?_
    · intro h29
      refine wk_c1 r61_20 (wk_c1 r61_21 (wk_cv3 r61_22 kc_739_123 rfl (n8123_739 _ M1 0 1 0 hP2 (by decide) (by decide) (by decide) (by decide) (mUp_at e4) (by first | with_reducible assumption | omega) (by first | with_reducible assumption | omega)) (cqI ?_)))
      rintro v39 M30 ⟨hP31, hQ32, h40, h41, h34, h35, xh36, xh37, xh38⟩
      have hF33 : Fr fm_n8061_739 M0 M30 := hF3.tr hQ32 rfl
      obtain ⟨v42, e43⟩ : ∃ v, M30 739 0 = v := ⟨_, rfl⟩
      have h44 := (bf_739_0 hP31).1; rw [e43] at h44
      have h45 := (bf_739_0 hP31).2; rw [e43] at h45
      have h46 := xh36
      have h47 := xh37
      have h48 := (mUp_at e4)
      have h49 := e43
      refine wk_ifne r61_25 ⟨by omega, by omega⟩ ?_ ?_
      · intro h50
        exfalso
        omega
      · intro h51
        refine wk_c1 r61_28 ?_
        subst hQ; exact wk_iret r61_29 (⟨rfl, _, rfl, hP31, hF33, by omega, by omega, Or.inl ⟨by omega, by omega, by have := e43; omega⟩⟩)
    · intro h52
      refine wk_c1 r61_16 (wk_goto r61_17 (wk_c1 r61_21 (wk_cv3 r61_22 kc_739_123 rfl (n8123_739v1 _ M1 1 1 0 hP2 (by decide) (by decide) (by decide) (by decide) (mUp_at e4) (by first | with_reducible assumption | omega) (by first | with_reducible assumption | omega)) (cqI ?_))))
      rintro v62 M53 ⟨hP54, hQ55, h63, h64, h57, h58, xh59, xh60, xh61⟩
      obtain rfl := Fr.same hQ55
      have e65 := (mUp_at e4)
      have h66 := xh59
      have h67 := xh60
      have h68 := (mUp_at e4)
      have h69 := (mUp_at e4)
      refine wk_ifne r61_25 ⟨by omega, by omega⟩ ?_ ?_
      · intro h70
        replace h58 := h58 (z1_of h63 h64 h70)
        refine wk_il1 r61_30 ?_
        refine wk_sw5 r61_31 ⟨by omega, by omega⟩ ?_ ?_ ?_ ?_ ?_ ?_ ?_ ?_
        · intro h71
          refine wk_al0 r61_107 (wk_getfi r61_108 fd_739_24 (mUp_no e4 ex739_24 (Or.inr (by decide))) (wk_c1 r61_111 ?_))
          refine wk_iceq r61_112 ⟨by omega, by omega⟩ (by decide) ?_ ?_
          · intro h72
            refine wk_c1 r61_119 (wk_cs102_1 r61_120 rfl (n8115 _ M1 0 hP2 (by decide) (by decide)) (cqI ?_))
            rintro v78 M73 ⟨hP74, hQ75, h79, h80, xh77⟩
            obtain rfl := Fr.same hQ75
            subst hQ; exact wk_iret r61_123 (⟨rfl, _, rfl, hP2, hF3, by omega, by omega, Or.inr ⟨by omega, by omega, by have := (mUp_at e4); omega, Or.inr (Or.inr (Or.inr (Or.inr (Or.inr (Or.inr (Or.inr (⟨by omega, by have := xh77; omega⟩)))))))⟩⟩)
          · intro h81
            refine wk_c1 r61_115 (wk_goto r61_116 (wk_cs102_1 r61_120 rfl (n8115 _ M1 1 hP2 (by decide) (by decide)) (cqI ?_)))
            rintro v87 M82 ⟨hP83, hQ84, h88, h89, xh86⟩
            obtain rfl := Fr.same hQ84
            subst hQ; exact wk_iret r61_123 (⟨rfl, _, rfl, hP2, hF3, by omega, by omega, Or.inr ⟨by omega, by omega, by have := (mUp_at e4); omega, Or.inr (Or.inr (Or.inr (Or.inr (Or.inr (Or.inr (Or.inr (⟨by omega, by have := xh86; omega⟩)))))))⟩⟩)
        · intro h90
          refine wk_al0 r61_72 (wk_getfi r61_73 fd_739_1 (mUp_no e4 ex739_1 (Or.inr (by decide))) ?_)
          subst hQ; exact wk_iret r61_76 (⟨rfl, _, rfl, hP2, hF3, by omega, by omega, Or.inr ⟨by omega, by omega, by have := (mUp_at e4); omega, Or.inl ⟨by omega, by omega⟩⟩⟩)
        · intro h91
          refine wk_al0 r61_77 (wk_getfi r61_78 fd_739_2 (mUp_no e4 ex739_2 (Or.inr (by decide))) ?_)
          subst hQ; exact wk_iret r61_81 (⟨rfl, _, rfl, hP2, hF3, by omega, by omega, Or.inr ⟨by omega, by omega, by have := (mUp_at e4); omega, Or.inr (Or.inl ⟨by omega, by omega⟩)⟩⟩)
        · intro h92
          refine wk_al0 r61_82 (wk_getfi r61_83 fd_739_13 (mUp_no e4 ex739_13 (Or.inr (by decide))) ?_)
          subst hQ; exact wk_iret r61_86 (⟨rfl, _, rfl, hP2, hF3, by omega, by omega, Or.inr ⟨by omega, by omega, by have := (mUp_at e4); omega, Or.inr (Or.inr (Or.inl ⟨by omega, by omega⟩))⟩⟩)
        · intro h93
          refine wk_al0 r61_87 (wk_getfi r61_88 fd_739_15 (mUp_no e4 ex739_15 (Or.inr (by decide))) ?_)
          subst hQ; exact wk_iret r61_91 (⟨rfl, _, rfl, hP2, hF3, by omega, by omega, Or.inr ⟨by omega, by omega, by have := (mUp_at e4); omega, Or.inr (Or.inr (Or.inr (Or.inl ⟨by omega, by omega⟩)))⟩⟩)
        · intro h94
          refine wk_al0 r61_92 (wk_getfi r61_93 fd_739_21 (mUp_no e4 ex739_21 (Or.inr (by decide))) ?_)
          subst hQ; exact wk_iret r61_96 (⟨rfl, _, rfl, hP2, hF3, by omega, by omega, Or.inr ⟨by omega, by omega, by have := (mUp_at e4); omega, Or.inr (Or.inr (Or.inr (Or.inr (Or.inl ⟨by omega, by omega⟩))))⟩⟩)
        · intro h95
          refine wk_al0 r61_97 (wk_getfi r61_98 fd_739_27 (mUp_no e4 ex739_27 (Or.inr (by decide))) ?_)
          subst hQ; exact wk_iret r61_101 (⟨rfl, _, rfl, hP2, hF3, by omega, by omega, Or.inr ⟨by omega, by omega, by have := (mUp_at e4); omega, Or.inr (Or.inr (Or.inr (Or.inr (Or.inr (Or.inl ⟨by omega, by omega⟩)))))⟩⟩)
        · intro h96
          refine wk_al0 r61_102 (wk_getfi r61_103 fd_739_3 (mUp_no e4 ex739_3 (Or.inr (by decide))) ?_)
          subst hQ; exact wk_iret r61_106 (⟨rfl, _, rfl, hP2, hF3, by omega, by omega, Or.inr ⟨by omega, by omega, by have := (mUp_at e4); omega, Or.inr (Or.inr (Or.inr (Or.inr (Or.inr (Or.inr (Or.inl ⟨by omega, by omega⟩))))))⟩⟩)
      · intro h97
        clear h58
        refine wk_c1 r61_28 ?_
        subst hQ; exact wk_iret r61_29 (⟨rfl, _, rfl, hP2, hF3, by omega, by omega, Or.inl ⟨by omega, by omega, by have := (mUp_at e4); omega⟩⟩)
