def fm_m7033_0 : Nat := 524292
theorem pwl_24 : pw 24 = 16777216 := by decide
theorem m7033_0 {B : eB} (d : Nat) (M0 : Mm) (p1 : Int) (x0_1 : Int) (hP0 : Pw M0) (l1 : (-2147483648) ≤ p1) (u1 : p1 ≤ 2147483647) (ex0_1 : M0 0 1 = x0_1) (lx0_1 : 0 ≤ x0_1) (ux0_1 : x0_1 ≤ 496) : Ct B (d + 1) 33 [R 0, I p1] M0 (qV fun M => Pw M ∧ Fr fm_m7033_0 M0 M ∧ 0 ≤ M 0 1 + (-1) * x0_1 + (-4) ∧ 0 ≤ (-1) * (M 0 1) + x0_1 + 4 ∧ (PNc (fun k => M0 1 k) (fun k => M 1 k) x0_1 p1)) := by
  refine ct_of (d := d + 0) (k := 1) (L := [some (R 0), some (I p1), none]) rfl rfl rfl ?_
  have hF0 := Fr.rf fm_m7033_0 M0
  generalize hQ : (qV fun M => Pw M ∧ Fr fm_m7033_0 M0 M ∧ 0 ≤ M 0 1 + (-1) * x0_1 + (-4) ∧ 0 ≤ (-1) * (M 0 1) + x0_1 + 4 ∧ (PNc (fun k => M0 1 k) (fun k => M 1 k) x0_1 p1)) = Q
  refine wk_c2 r33_0 (wk_is2 r33_2 rfl (wk_il2 r33_3 ?_))
  refine wk_iflt r33_4 (by decide) ?_ ?_
  · intro h1
    exfalso
    omega
  · intro h2
    refine wk_al0 r33_7 (wk_getfi r33_8 fd_0_1 ex0_1 (wk_al0 r33_11 (wk_getfr r33_12 fd_0_0 (br_0_0 hP0) (wk_alen r33_15 ar_1 (by decide) ?_))))
    refine wk_icge r33_16 ⟨by omega, by omega⟩ (by decide) ?_ ?_
    · intro h3
      exfalso
      omega
    · intro h4
      refine wk_al0 r33_19 (wk_getfr r33_20 fd_0_0 (br_0_0 hP0) (wk_al0 r33_23 (wk_getfi r33_24 fd_0_1 ex0_1 (wk_il1 r33_27 (wk_il2 r33_28 (wk_ishrc r33_29 ⟨by omega, by omega⟩ (by decide) pwl_24 (wk_i2b r33_30 (wk_bast r33_31 ar_1 ⟨by omega, by omega⟩ ⟨by omega, by omega⟩ (wk_nw (ga_1 _) rfl hP0 hF0 (ua_1 ⟨by omega, by omega⟩) ?_)))))))))
      intro M7 hP8 hF9 e10
      refine wk_al0 r33_32 (wk_dupr r33_33 (wk_getfi r33_34 fd_0_1 (mUp_no e10 ex0_1 (Or.inl (by decide))) (wk_c1 r33_37 (wk_iadd r33_38 (wk_putfi81 r33_39 fd_0_1 (wk_nw g_0_1 rfl hP8 hF9 (uf_0_1 ⟨by omega, by omega⟩) ?_))))))
      intro M11 hP12 hF13 e14
      refine wk_inc2 r33_42 rfl (wk_goto r33_45 (wk_il2 r33_3 ?_))
      refine wk_iflt r33_4 (by decide) ?_ ?_
      · intro h15
        exfalso
        omega
      · intro h16
        refine wk_al0 r33_7 (wk_getfi r33_8 fd_0_1 (mUp_at e14) (wk_al0 r33_11 (wk_getfr r33_12 fd_0_0 (br_0_0 hP12) (wk_alen r33_15 ar_1 (by decide) ?_))))
        refine wk_icge r33_16 ⟨by omega, by omega⟩ (by decide) ?_ ?_
        · intro h17
          exfalso
          omega
        · intro h18
          refine wk_al0 r33_19 (wk_getfr r33_20 fd_0_0 (br_0_0 hP12) (wk_al0 r33_23 (wk_getfi r33_24 fd_0_1 (mUp_at e14) (wk_il1 r33_27 (wk_il2 r33_28 (wk_ishrc r33_29 ⟨by omega, by omega⟩ (by decide) pwl_16 (wk_i2b r33_30 (wk_bast r33_31 ar_1 ⟨by omega, by omega⟩ ⟨by omega, by omega⟩ (wk_nw (ga_1 _) rfl hP12 hF13 (ua_1 ⟨by omega, by omega⟩) ?_)))))))))
          intro M21 hP22 hF23 e24
          refine wk_al0 r33_32 (wk_dupr r33_33 (wk_getfi r33_34 fd_0_1 (mUp_no e24 (mUp_at e14) (Or.inl (by decide))) (wk_c1 r33_37 (wk_iadd r33_38 (wk_putfi81 r33_39 fd_0_1 (wk_nw g_0_1 rfl hP22 hF23 (uf_0_1 ⟨by omega, by omega⟩) ?_))))))
          intro M25 hP26 hF27 e28
          refine wk_inc2 r33_42 rfl (wk_goto r33_45 (wk_il2 r33_3 ?_))
          refine wk_iflt r33_4 (by decide) ?_ ?_
          · intro h29
            exfalso
            omega
          · intro h30
            refine wk_al0 r33_7 (wk_getfi r33_8 fd_0_1 (mUp_at e28) (wk_al0 r33_11 (wk_getfr r33_12 fd_0_0 (br_0_0 hP26) (wk_alen r33_15 ar_1 (by decide) ?_))))
            refine wk_icge r33_16 ⟨by omega, by omega⟩ (by decide) ?_ ?_
            · intro h31
              exfalso
              omega
            · intro h32
              refine wk_al0 r33_19 (wk_getfr r33_20 fd_0_0 (br_0_0 hP26) (wk_al0 r33_23 (wk_getfi r33_24 fd_0_1 (mUp_at e28) (wk_il1 r33_27 (wk_il2 r33_28 (wk_ishrc r33_29 ⟨by omega, by omega⟩ (by decide) pwl_8 (wk_i2b r33_30 (wk_bast r33_31 ar_1 ⟨by omega, by omega⟩ ⟨by omega, by omega⟩ (wk_nw (ga_1 _) rfl hP26 hF27 (ua_1 ⟨by omega, by omega⟩) ?_)))))))))
              intro M35 hP36 hF37 e38
              refine wk_al0 r33_32 (wk_dupr r33_33 (wk_getfi r33_34 fd_0_1 (mUp_no e38 (mUp_at e28) (Or.inl (by decide))) (wk_c1 r33_37 (wk_iadd r33_38 (wk_putfi81 r33_39 fd_0_1 (wk_nw g_0_1 rfl hP36 hF37 (uf_0_1 ⟨by omega, by omega⟩) ?_))))))
              intro M39 hP40 hF41 e42
              refine wk_inc2 r33_42 rfl (wk_goto r33_45 (wk_il2 r33_3 ?_))
              refine wk_iflt r33_4 (by decide) ?_ ?_
              · intro h43
                exfalso
                omega
              · intro h44
                refine wk_al0 r33_7 (wk_getfi r33_8 fd_0_1 (mUp_at e42) (wk_al0 r33_11 (wk_getfr r33_12 fd_0_0 (br_0_0 hP40) (wk_alen r33_15 ar_1 (by decide) ?_))))
                refine wk_icge r33_16 ⟨by omega, by omega⟩ (by decide) ?_ ?_
                · intro h45
                  exfalso
                  omega
                · intro h46
                  refine wk_al0 r33_19 (wk_getfr r33_20 fd_0_0 (br_0_0 hP40) (wk_al0 r33_23 (wk_getfi r33_24 fd_0_1 (mUp_at e42) (wk_il1 r33_27 (wk_il2 r33_28 (wk_ishrc r33_29 ⟨by omega, by omega⟩ (by decide) pwl_0 (wk_i2b r33_30 (wk_bast r33_31 ar_1 ⟨by omega, by omega⟩ ⟨by omega, by omega⟩ (wk_nw (ga_1 _) rfl hP40 hF41 (ua_1 ⟨by omega, by omega⟩) ?_)))))))))
                  intro M49 hP50 hF51 e52
                  refine wk_al0 r33_32 (wk_dupr r33_33 (wk_getfi r33_34 fd_0_1 (mUp_no e52 (mUp_at e42) (Or.inl (by decide))) (wk_c1 r33_37 (wk_iadd r33_38 (wk_putfi81 r33_39 fd_0_1 (wk_nw g_0_1 rfl hP50 hF51 (uf_0_1 ⟨by omega, by omega⟩) ?_))))))
                  intro M53 hP54 hF55 e56
                  refine wk_inc2 r33_42 rfl (wk_goto r33_45 (wk_il2 r33_3 ?_))
                  refine wk_iflt r33_4 (by decide) ?_ ?_
                  · intro h57
                    subst hQ; exact wk_ret r33_48 (⟨rfl, hP54, hF55, by have := (mUp_at e56); omega, by have := (mUp_at e56); omega, ⟨fun k a9 b9 => by show M53 1 k = M0 1 k; rw [e56, mUp_ne (Or.inl (by decide))]; rw [e52, mUp_ne (Or.inr (by omega))]; rw [e42, mUp_ne (Or.inl (by decide))]; rw [e38, mUp_ne (Or.inr (by omega))]; rw [e28, mUp_ne (Or.inl (by decide))]; rw [e24, mUp_ne (Or.inr (by omega))]; rw [e14, mUp_ne (Or.inl (by decide))]; rw [e10, mUp_ne (Or.inr (by omega))], by show M53 1 (x0_1) = _; rw [e56, mUp_ne (Or.inl (by decide))]; rw [e52, mUp_ne (Or.inr (by omega))]; rw [e42, mUp_ne (Or.inl (by decide))]; rw [e38, mUp_ne (Or.inr (by omega))]; rw [e28, mUp_ne (Or.inl (by decide))]; rw [e24, mUp_ne (Or.inr (by omega))]; rw [e14, mUp_ne (Or.inl (by decide))]; rw [e10]; rw [mUp_eq]; first | rfl | (unfold b8; omega) | omega, by show M53 1 (x0_1 + 1) = _; rw [e56, mUp_ne (Or.inl (by decide))]; rw [e52, mUp_ne (Or.inr (by omega))]; rw [e42, mUp_ne (Or.inl (by decide))]; rw [e38, mUp_ne (Or.inr (by omega))]; rw [e28, mUp_ne (Or.inl (by decide))]; rw [e24]; rw [show x0_1 + 1 = (x0_1 + 1) by omega, mUp_eq]; first | rfl | (unfold b8; omega) | omega, by show M53 1 (x0_1 + 2) = _; rw [e56, mUp_ne (Or.inl (by decide))]; rw [e52, mUp_ne (Or.inr (by omega))]; rw [e42, mUp_ne (Or.inl (by decide))]; rw [e38]; rw [show x0_1 + 2 = ((x0_1 + 1) + 1) by omega, mUp_eq]; first | rfl | (unfold b8; omega) | omega, by show M53 1 (x0_1 + 3) = _; rw [e56, mUp_ne (Or.inl (by decide))]; rw [e52]; rw [show x0_1 + 3 = (((x0_1 + 1) + 1) + 1) by omega, mUp_eq]; first | rfl | (unfold b8; omega) | omega⟩⟩)
                  · intro h58
                    exfalso
                    omega
def fm_m7018_0 : Nat := 524292
theorem m7018_0 {B : eB} (d : Nat) (M0 : Mm) (p1 : Int) (p2 : Int) (p3 : Int) (p4 : Int) (p5 : Int) (x0_1 : Int) (hP0 : Pw M0) (l1 : (-2147483648) ≤ p1) (u1 : p1 ≤ 2147483647) (l2 : (-2147483648) ≤ p2) (u2 : p2 ≤ 2147483647) (l3 : (-2147483648) ≤ p3) (u3 : p3 ≤ 2147483647) (l4 : (-2147483648) ≤ p4) (u4 : p4 ≤ 2147483647) (l5 : (-2147483648) ≤ p5) (u5 : p5 ≤ 2147483647) (ex0_1 : M0 0 1 = x0_1) (lx0_1 : 0 ≤ x0_1) (ux0_1 : x0_1 ≤ 500) : Ct B (d + 2) 18 [R 0, I p1, I p2, I p3, I p4, I p5] M0 (qI fun z M => Pw M ∧ Fr fm_m7018_0 M0 M ∧ (-1) ≤ z ∧ z ≤ 500 ∧ ((x0_1 ≤ 480 ∧ z = x0_1 + 20 ∧ M 0 1 = z) ∨ (481 ≤ x0_1 ∧ z = -1 ∧ M 0 1 = x0_1)) ∧ (x0_1 ≤ 480 → FDc (fun k => M0 1 k) (fun k => M 1 k) x0_1 p1 p2 p3 p4 p5) ∧ (481 ≤ x0_1 → ∀ k : Int, M 1 k = M0 1 k)) := by
  refine ct_of (d := d + 1) (k := 0) (L := [some (R 0), some (I p1), some (I p2), some (I p3), some (I p4), some (I p5)]) rfl rfl rfl ?_
  have hF0 := Fr.rf fm_m7018_0 M0
  generalize hQ : (qI fun z M => Pw M ∧ Fr fm_m7018_0 M0 M ∧ (-1) ≤ z ∧ z ≤ 500 ∧ ((x0_1 ≤ 480 ∧ z = x0_1 + 20 ∧ M 0 1 = z) ∨ (481 ≤ x0_1 ∧ z = -1 ∧ M 0 1 = x0_1)) ∧ (x0_1 ≤ 480 → FDc (fun k => M0 1 k) (fun k => M 1 k) x0_1 p1 p2 p3 p4 p5) ∧ (481 ≤ x0_1 → ∀ k : Int, M 1 k = M0 1 k)) = Q
  refine wk_al0 r18_0 (wk_getfi r18_1 fd_0_1 ex0_1 (wk_c2 r18_4 (wk_iadd r18_6 (wk_c3 r18_7 ?_))))
  refine wk_icle r18_10 ⟨by omega, by omega⟩ (by decide) ?_ ?_
  · intro h1
    refine wk_al0 r18_15 (wk_il1 r18_16 (wk_cv2 r18_17 kc_0_33 rfl (m7033_0 _ M0 p1 x0_1 hP0 (by first | with_reducible assumption | omega) (by first | with_reducible assumption | omega) ex0_1 (by first | with_reducible assumption | omega) (by first | with_reducible assumption | omega)) (cqV ?_)))
    rintro M2 ⟨hP3, hQ4, h6, h7, xh8⟩
    have hF5 : Fr fm_m7018_0 M0 M2 := hF0.tr hQ4 rfl
    obtain ⟨v9, e10⟩ : ∃ v, M2 0 1 = v := ⟨_, rfl⟩
    have h11 := (bf_0_1 hP3).1; rw [e10] at h11
    have h12 := (bf_0_1 hP3).2; rw [e10] at h12
    refine wk_al0 r18_20 (wk_il2 r18_21 (wk_cv2 r18_22 kc_0_33 rfl (m7033_0 _ M2 p2 v9 hP3 (by first | with_reducible assumption | omega) (by first | with_reducible assumption | omega) e10 (by first | with_reducible assumption | omega) (by first | with_reducible assumption | omega)) (cqV ?_)))
    rintro M13 ⟨hP14, hQ15, h17, h18, xh19⟩
    have hF16 : Fr fm_m7018_0 M0 M13 := hF5.tr hQ15 rfl
    obtain ⟨v20, e21⟩ : ∃ v, M13 0 1 = v := ⟨_, rfl⟩
    have h22 := (bf_0_1 hP14).1; rw [e21] at h22
    have h23 := (bf_0_1 hP14).2; rw [e21] at h23
    refine wk_al0 r18_25 (wk_il3 r18_26 (wk_cv2 r18_27 kc_0_33 rfl (m7033_0 _ M13 p3 v20 hP14 (by first | with_reducible assumption | omega) (by first | with_reducible assumption | omega) e21 (by first | with_reducible assumption | omega) (by first | with_reducible assumption | omega)) (cqV ?_)))
    rintro M24 ⟨hP25, hQ26, h28, h29, xh30⟩
    have hF27 : Fr fm_m7018_0 M0 M24 := hF16.tr hQ26 rfl
    obtain ⟨v31, e32⟩ : ∃ v, M24 0 1 = v := ⟨_, rfl⟩
    have h33 := (bf_0_1 hP25).1; rw [e32] at h33
    have h34 := (bf_0_1 hP25).2; rw [e32] at h34
    refine wk_al0 r18_30 (wk_il4 r18_31 (wk_cv2 r18_33 kc_0_33 rfl (m7033_0 _ M24 p4 v31 hP25 (by first | with_reducible assumption | omega) (by first | with_reducible assumption | omega) e32 (by first | with_reducible assumption | omega) (by first | with_reducible assumption | omega)) (cqV ?_)))
    rintro M35 ⟨hP36, hQ37, h39, h40, xh41⟩
    have hF38 : Fr fm_m7018_0 M0 M35 := hF27.tr hQ37 rfl
    obtain ⟨v42, e43⟩ : ∃ v, M35 0 1 = v := ⟨_, rfl⟩
    have h44 := (bf_0_1 hP36).1; rw [e43] at h44
    have h45 := (bf_0_1 hP36).2; rw [e43] at h45
    refine wk_al0 r18_36 (wk_il5 r18_37 (wk_cv2 r18_39 kc_0_33 rfl (m7033_0 _ M35 p5 v42 hP36 (by first | with_reducible assumption | omega) (by first | with_reducible assumption | omega) e43 (by first | with_reducible assumption | omega) (by first | with_reducible assumption | omega)) (cqV ?_)))
    rintro M46 ⟨hP47, hQ48, h50, h51, xh52⟩
    have hF49 : Fr fm_m7018_0 M0 M46 := hF38.tr hQ48 rfl
    obtain ⟨v53, e54⟩ : ∃ v, M46 0 1 = v := ⟨_, rfl⟩
    have h55 := (bf_0_1 hP47).1; rw [e54] at h55
    have h56 := (bf_0_1 hP47).2; rw [e54] at h56
    refine wk_al0 r18_42 (wk_getfi r18_43 fd_0_1 e54 ?_)
    subst hQ; exact wk_iret r18_46 (⟨rfl, _, rfl, hP47, hF49, by omega, by omega, by have := e54; omega, fun _ => ⟨_, _, _, _, PN_cc xh8 (by omega), PN_cc xh19 (by omega), PN_cc xh30 (by omega), PN_cc xh41 (by omega), PN_cc xh52 (by omega)⟩, fun q => by omega⟩)
  · intro h57
    refine wk_c1 r18_13 ?_
    subst hQ; exact wk_iret r18_14 (⟨rfl, _, rfl, hP0, hF0, by omega, by omega, by have := ex0_1; omega, fun q => by omega, fun _ k => rfl⟩)
def fm_m7017_0 : Nat := 0
theorem m7017_0 {B : eB} (d : Nat) (M0 : Mm) (x0_5 : Int) (hP0 : Pw M0) (ex0_5 : M0 0 5 = x0_5) (lx0_5 : (-1) ≤ x0_5) (ux0_5 : x0_5 ≤ 500) : Ct B (d + 1) 17 [R 0] M0 (qI fun z M => Pw M ∧ Fr fm_m7017_0 M0 M ∧ (-1) ≤ z ∧ z ≤ 500 ∧ (z = x0_5) ∧ (M = M0)) := by
  refine ct_of (d := d + 0) (k := 0) (L := [some (R 0)]) rfl rfl rfl ?_
  have hF0 := Fr.rf fm_m7017_0 M0
  generalize hQ : (qI fun z M => Pw M ∧ Fr fm_m7017_0 M0 M ∧ (-1) ≤ z ∧ z ≤ 500 ∧ (z = x0_5) ∧ (M = M0)) = Q
  refine wk_al0 r17_0 (wk_getfi r17_1 fd_0_5 ex0_5 ?_)
  subst hQ; exact wk_iret r17_4 (⟨rfl, _, rfl, hP0, hF0, by omega, by omega, by omega, rfl⟩)
