/-! ===== written by program (wip/layer4) ===== -/
theorem PN_c0 {u u2 v : Int → Int} {t t2 x : Int} (h : PNm u v t x) (hu : ∀ k, u2 k = u k) (e : t2 = t) : PNm u2 v t2 x := by
  rw [e, show u2 = u from funext hu]
  exact h
def fm_m8098_739 : Nat := 113078212145816598662606473894216975971906325201956217345371657998736293888
/-- IslandHallModel.lays -/
theorem m8098_739 {B : eB} (d : Nat) (M0 : Mm) (p1 : Int) (x739_27 : Int) (hP0 : Pw M0) (l1 : (-2147483648) ≤ p1) (u1 : p1 ≤ 2147483647) (ex739_27 : M0 739 27 = x739_27) (lx739_27 : 0 ≤ x739_27) (ux739_27 : x739_27 ≤ 496) : Ct B (d + 1) 98 [R 739, I p1] M0 (qV fun M => Pw M ∧ Fr fm_m8098_739 M0 M ∧ 0 ≤ M 739 27 + (-1) * x739_27 + (-4) ∧ 0 ≤ (-1) * (M 739 27) + x739_27 + 4 ∧ (PNm (fun k => M0 755 k) (fun k => M 755 k) x739_27 p1)) := by
  refine ct_of (d := d + 0) (k := 1) (L := [some (R 739), some (I p1), none]) rfl rfl rfl ?_
  have hF0 := Fr.rf fm_m8098_739 M0
  generalize hQ : (qV fun M => Pw M ∧ Fr fm_m8098_739 M0 M ∧ 0 ≤ M 739 27 + (-1) * x739_27 + (-4) ∧ 0 ≤ (-1) * (M 739 27) + x739_27 + 4 ∧ (PNm (fun k => M0 755 k) (fun k => M 755 k) x739_27 p1)) = Q
  refine wk_c2 r98_0 (wk_is2 r98_2 rfl (wk_il2 r98_3 ?_))
  refine wk_iflt r98_4 (by decide) ?_ ?_
  · intro h1
    exfalso
    omega
  · intro h2
    refine wk_al0 r98_7 (wk_getfr r98_8 fd_739_26 (br_739_26 hP0) (wk_al0 r98_11 (wk_getfi r98_12 fd_739_27 ex739_27 (wk_il1 r98_15 (wk_il2 r98_16 (wk_ishrc r98_17 ⟨by omega, by omega⟩ (by decide) pwl_24 (wk_c3 r98_18 (wk_iandc 8 256 r98_21 ⟨rfl, by decide⟩ rfl (wk_iast r98_22 ar_755 ⟨by omega, by omega⟩ (wk_nw (ga_755 _) rfl hP0 hF0 (ua_755 ⟨by omega, by omega⟩) ?_))))))))))
    intro M5 hP6 hF7 e8
    refine wk_al0 r98_23 (wk_dupr r98_24 (wk_getfi r98_25 fd_739_27 (mUp_no e8 ex739_27 (Or.inl (by decide))) (wk_c1 r98_28 (wk_iadd r98_29 (wk_putfi81 r98_30 fd_739_27 (wk_nw g_739_27 rfl hP6 hF7 (uf_739_27 ⟨by omega, by omega⟩) ?_))))))
    intro M9 hP10 hF11 e12
    refine wk_inc2 r98_33 rfl (wk_goto r98_36 (wk_il2 r98_3 ?_))
    refine wk_iflt r98_4 (by decide) ?_ ?_
    · intro h13
      exfalso
      omega
    · intro h14
      refine wk_al0 r98_7 (wk_getfr r98_8 fd_739_26 (br_739_26 hP10) (wk_al0 r98_11 (wk_getfi r98_12 fd_739_27 (mUp_at e12) (wk_il1 r98_15 (wk_il2 r98_16 (wk_ishrc r98_17 ⟨by omega, by omega⟩ (by decide) pwl_16 (wk_c3 r98_18 (wk_iandc 8 256 r98_21 ⟨rfl, by decide⟩ rfl (wk_iast r98_22 ar_755 ⟨by omega, by omega⟩ (wk_nw (ga_755 _) rfl hP10 hF11 (ua_755 ⟨by omega, by omega⟩) ?_))))))))))
      intro M17 hP18 hF19 e20
      refine wk_al0 r98_23 (wk_dupr r98_24 (wk_getfi r98_25 fd_739_27 (mUp_no e20 (mUp_at e12) (Or.inl (by decide))) (wk_c1 r98_28 (wk_iadd r98_29 (wk_putfi81 r98_30 fd_739_27 (wk_nw g_739_27 rfl hP18 hF19 (uf_739_27 ⟨by omega, by omega⟩) ?_))))))
      intro M21 hP22 hF23 e24
      refine wk_inc2 r98_33 rfl (wk_goto r98_36 (wk_il2 r98_3 ?_))
      refine wk_iflt r98_4 (by decide) ?_ ?_
      · intro h25
        exfalso
        omega
      · intro h26
        refine wk_al0 r98_7 (wk_getfr r98_8 fd_739_26 (br_739_26 hP22) (wk_al0 r98_11 (wk_getfi r98_12 fd_739_27 (mUp_at e24) (wk_il1 r98_15 (wk_il2 r98_16 (wk_ishrc r98_17 ⟨by omega, by omega⟩ (by decide) pwl_8 (wk_c3 r98_18 (wk_iandc 8 256 r98_21 ⟨rfl, by decide⟩ rfl (wk_iast r98_22 ar_755 ⟨by omega, by omega⟩ (wk_nw (ga_755 _) rfl hP22 hF23 (ua_755 ⟨by omega, by omega⟩) ?_))))))))))
        intro M29 hP30 hF31 e32
        refine wk_al0 r98_23 (wk_dupr r98_24 (wk_getfi r98_25 fd_739_27 (mUp_no e32 (mUp_at e24) (Or.inl (by decide))) (wk_c1 r98_28 (wk_iadd r98_29 (wk_putfi81 r98_30 fd_739_27 (wk_nw g_739_27 rfl hP30 hF31 (uf_739_27 ⟨by omega, by omega⟩) ?_))))))
        intro M33 hP34 hF35 e36
        refine wk_inc2 r98_33 rfl (wk_goto r98_36 (wk_il2 r98_3 ?_))
        refine wk_iflt r98_4 (by decide) ?_ ?_
        · intro h37
          exfalso
          omega
        · intro h38
          refine wk_al0 r98_7 (wk_getfr r98_8 fd_739_26 (br_739_26 hP34) (wk_al0 r98_11 (wk_getfi r98_12 fd_739_27 (mUp_at e36) (wk_il1 r98_15 (wk_il2 r98_16 (wk_ishrc r98_17 ⟨by omega, by omega⟩ (by decide) pwl_0 (wk_c3 r98_18 (wk_iandc 8 256 r98_21 ⟨rfl, by decide⟩ rfl (wk_iast r98_22 ar_755 ⟨by omega, by omega⟩ (wk_nw (ga_755 _) rfl hP34 hF35 (ua_755 ⟨by omega, by omega⟩) ?_))))))))))
          intro M41 hP42 hF43 e44
          refine wk_al0 r98_23 (wk_dupr r98_24 (wk_getfi r98_25 fd_739_27 (mUp_no e44 (mUp_at e36) (Or.inl (by decide))) (wk_c1 r98_28 (wk_iadd r98_29 (wk_putfi81 r98_30 fd_739_27 (wk_nw g_739_27 rfl hP42 hF43 (uf_739_27 ⟨by omega, by omega⟩) ?_))))))
          intro M45 hP46 hF47 e48
          refine wk_inc2 r98_33 rfl (wk_goto r98_36 (wk_il2 r98_3 ?_))
          refine wk_iflt r98_4 (by decide) ?_ ?_
          · intro h49
            subst hQ; exact wk_ret r98_39 (⟨rfl, hP46, hF47, by have := (mUp_at e48); omega, by have := (mUp_at e48); omega, ⟨fun k a9 b9 => by show M45 755 k = M0 755 k; rw [e48, mUp_ne (Or.inl (by decide))]; rw [e44, mUp_ne (Or.inr (by omega))]; rw [e36, mUp_ne (Or.inl (by decide))]; rw [e32, mUp_ne (Or.inr (by omega))]; rw [e24, mUp_ne (Or.inl (by decide))]; rw [e20, mUp_ne (Or.inr (by omega))]; rw [e12, mUp_ne (Or.inl (by decide))]; rw [e8, mUp_ne (Or.inr (by omega))], by show M45 755 (x739_27) = _; rw [e48, mUp_ne (Or.inl (by decide))]; rw [e44, mUp_ne (Or.inr (by omega))]; rw [e36, mUp_ne (Or.inl (by decide))]; rw [e32, mUp_ne (Or.inr (by omega))]; rw [e24, mUp_ne (Or.inl (by decide))]; rw [e20, mUp_ne (Or.inr (by omega))]; rw [e12, mUp_ne (Or.inl (by decide))]; rw [e8]; rw [mUp_eq]; all_goals first | rfl | (unfold b8; omega) | omega, by show M45 755 (x739_27 + 1) = _; rw [e48, mUp_ne (Or.inl (by decide))]; rw [e44, mUp_ne (Or.inr (by omega))]; rw [e36, mUp_ne (Or.inl (by decide))]; rw [e32, mUp_ne (Or.inr (by omega))]; rw [e24, mUp_ne (Or.inl (by decide))]; rw [e20]; rw [show x739_27 + 1 = (x739_27 + 1) by omega, mUp_eq]; all_goals first | rfl | (unfold b8; omega) | omega, by show M45 755 (x739_27 + 2) = _; rw [e48, mUp_ne (Or.inl (by decide))]; rw [e44, mUp_ne (Or.inr (by omega))]; rw [e36, mUp_ne (Or.inl (by decide))]; rw [e32]; rw [show x739_27 + 2 = ((x739_27 + 1) + 1) by omega, mUp_eq]; all_goals first | rfl | (unfold b8; omega) | omega, by show M45 755 (x739_27 + 3) = _; rw [e48, mUp_ne (Or.inl (by decide))]; rw [e44]; rw [show x739_27 + 3 = (((x739_27 + 1) + 1) + 1) by omega, mUp_eq]; all_goals first | rfl | (unfold b8; omega) | omega⟩⟩)
          · intro h50
            exfalso
            omega
def fm_m8070_739 : Nat := 113078212145816598662606485586230074619129670831434879075635815246196637696
/-- IslandHallModel.feed -/
theorem m8070_739 {B : eB} (d : Nat) (M0 : Mm) (p1 : Int) (p2 : Int) (p3 : Int) (p4 : Int) (p5 : Int) (x739_27 : Int) (hP0 : Pw M0) (l1 : (-2147483648) ≤ p1) (u1 : p1 ≤ 2147483647) (l2 : (-2147483648) ≤ p2) (u2 : p2 ≤ 2147483647) (l3 : (-2147483648) ≤ p3) (u3 : p3 ≤ 2147483647) (l4 : (-2147483648) ≤ p4) (u4 : p4 ≤ 2147483647) (l5 : (-2147483648) ≤ p5) (u5 : p5 ≤ 2147483647) (ex739_27 : M0 739 27 = x739_27) (lx739_27 : 0 ≤ x739_27) (ux739_27 : x739_27 ≤ 500) : Ct B (d + 2) 70 [R 739, I p1, I p2, I p3, I p4, I p5] M0 (qI fun z M => Pw M ∧ Fr fm_m8070_739 M0 M ∧ (-1) ≤ z ∧ z ≤ 500 ∧ ((x739_27 ≤ 480 ∧ z = x739_27 + 20 ∧ M 739 27 = z) ∨ (481 ≤ x739_27 ∧ z = -1 ∧ M 739 27 = x739_27)) ∧ (x739_27 ≤ 480 → FDm (fun k => M0 755 k) (fun k => M 755 k) x739_27 p1 p2 p3 p4 p5) ∧ (481 ≤ x739_27 → ∀ k : Int, M 755 k = M0 755 k)) := by
  refine ct_of (d := d + 1) (k := 0) (L := [some (R 739), some (I p1), some (I p2), some (I p3), some (I p4), some (I p5)]) rfl rfl rfl ?_
  have hF0 := Fr.rf fm_m8070_739 M0
  generalize hQ : (qI fun z M => Pw M ∧ Fr fm_m8070_739 M0 M ∧ (-1) ≤ z ∧ z ≤ 500 ∧ ((x739_27 ≤ 480 ∧ z = x739_27 + 20 ∧ M 739 27 = z) ∨ (481 ≤ x739_27 ∧ z = -1 ∧ M 739 27 = x739_27)) ∧ (x739_27 ≤ 480 → FDm (fun k => M0 755 k) (fun k => M 755 k) x739_27 p1 p2 p3 p4 p5) ∧ (481 ≤ x739_27 → ∀ k : Int, M 755 k = M0 755 k)) = Q
  refine wk_al0 r70_0 (wk_c1 r70_1 (wk_putfi81 r70_2 fd_739_0 (wk_nw g_739_0 rfl hP0 hF0 (uf_739_0 (by decide)) ?_)))
  intro M1 hP2 hF3 e4
  refine wk_al0 r70_5 (wk_getfi r70_6 fd_739_27 (mUp_no e4 ex739_27 (Or.inr (by decide))) (wk_c2 r70_9 (wk_iadd r70_11 (wk_c3 r70_12 ?_))))
  refine wk_icle r70_15 ⟨by omega, by omega⟩ (by decide) ?_ ?_
  · intro h5
    refine wk_al0 r70_20 (wk_il1 r70_21 (wk_cv2 r70_22 kc_739_98 rfl (m8098_739 _ M1 p1 x739_27 hP2 (by first | with_reducible assumption | omega) (by first | with_reducible assumption | omega) (mUp_no e4 ex739_27 (Or.inr (by decide))) (by first | with_reducible assumption | omega) (by first | with_reducible assumption | omega)) (cqV ?_)))
    rintro M6 ⟨hP7, hQ8, h10, h11, xh12⟩
    have hF9 : Fr fm_m8070_739 M0 M6 := hF3.tr hQ8 rfl
    obtain ⟨v13, e14⟩ : ∃ v, M6 739 27 = v := ⟨_, rfl⟩
    have h15 := (bf_739_27 hP7).1; rw [e14] at h15
    have h16 := (bf_739_27 hP7).2; rw [e14] at h16
    refine wk_al0 r70_25 (wk_il2 r70_26 (wk_cv2 r70_27 kc_739_98 rfl (m8098_739 _ M6 p2 v13 hP7 (by first | with_reducible assumption | omega) (by first | with_reducible assumption | omega) e14 (by first | with_reducible assumption | omega) (by first | with_reducible assumption | omega)) (cqV ?_)))
    rintro M17 ⟨hP18, hQ19, h21, h22, xh23⟩
    have hF20 : Fr fm_m8070_739 M0 M17 := hF9.tr hQ19 rfl
    obtain ⟨v24, e25⟩ : ∃ v, M17 739 27 = v := ⟨_, rfl⟩
    have h26 := (bf_739_27 hP18).1; rw [e25] at h26
    have h27 := (bf_739_27 hP18).2; rw [e25] at h27
    refine wk_al0 r70_30 (wk_il3 r70_31 (wk_cv2 r70_32 kc_739_98 rfl (m8098_739 _ M17 p3 v24 hP18 (by first | with_reducible assumption | omega) (by first | with_reducible assumption | omega) e25 (by first | with_reducible assumption | omega) (by first | with_reducible assumption | omega)) (cqV ?_)))
    rintro M28 ⟨hP29, hQ30, h32, h33, xh34⟩
    have hF31 : Fr fm_m8070_739 M0 M28 := hF20.tr hQ30 rfl
    obtain ⟨v35, e36⟩ : ∃ v, M28 739 27 = v := ⟨_, rfl⟩
    have h37 := (bf_739_27 hP29).1; rw [e36] at h37
    have h38 := (bf_739_27 hP29).2; rw [e36] at h38
    refine wk_al0 r70_35 (wk_il4 r70_36 (wk_cv2 r70_38 kc_739_98 rfl (m8098_739 _ M28 p4 v35 hP29 (by first | with_reducible assumption | omega) (by first | with_reducible assumption | omega) e36 (by first | with_reducible assumption | omega) (by first | with_reducible assumption | omega)) (cqV ?_)))
    rintro M39 ⟨hP40, hQ41, h43, h44, xh45⟩
    have hF42 : Fr fm_m8070_739 M0 M39 := hF31.tr hQ41 rfl
    obtain ⟨v46, e47⟩ : ∃ v, M39 739 27 = v := ⟨_, rfl⟩
    have h48 := (bf_739_27 hP40).1; rw [e47] at h48
    have h49 := (bf_739_27 hP40).2; rw [e47] at h49
    refine wk_al0 r70_41 (wk_il5 r70_42 (wk_cv2 r70_44 kc_739_98 rfl (m8098_739 _ M39 p5 v46 hP40 (by first | with_reducible assumption | omega) (by first | with_reducible assumption | omega) e47 (by first | with_reducible assumption | omega) (by first | with_reducible assumption | omega)) (cqV ?_)))
    rintro M50 ⟨hP51, hQ52, h54, h55, xh56⟩
    have hF53 : Fr fm_m8070_739 M0 M50 := hF42.tr hQ52 rfl
    obtain ⟨v57, e58⟩ : ∃ v, M50 739 27 = v := ⟨_, rfl⟩
    have h59 := (bf_739_27 hP51).1; rw [e58] at h59
    have h60 := (bf_739_27 hP51).2; rw [e58] at h60
    refine wk_al0 r70_47 (wk_getfi r70_48 fd_739_27 e58 ?_)
    subst hQ; exact wk_iret r70_51 (⟨rfl, _, rfl, hP51, hF53, by omega, by omega, by have := e58; omega, fun _ => ⟨_, _, _, _, PN_c0 xh12 (fun k => (mUp_no e4 rfl (Or.inl (by decide))).symm) (by omega), PN_cm xh23 (by omega), PN_cm xh34 (by omega), PN_cm xh45 (by omega), PN_cm xh56 (by omega)⟩, fun q => by omega⟩)
  · intro h61
    refine wk_c1 r70_18 ?_
    subst hQ; exact wk_iret r70_19 (⟨rfl, _, rfl, hP2, hF3, by omega, by omega, by have := (mUp_no e4 ex739_27 (Or.inr (by decide))); omega, fun q => by omega, fun _ k => mUp_no e4 (rfl) (Or.inl (by decide))⟩)
