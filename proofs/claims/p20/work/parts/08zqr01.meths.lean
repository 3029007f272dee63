/-! ===== written by program (wip/layer4) ===== -/
def fm_m7040_0 : Nat := 4
/-- IslandHall.takeTape -/
theorem m7040_0 {B : eB} (d : Nat) (M0 : Mm) (p1 : Int) (x0_1 : Int) (hP0 : Pw M0) (l1 : (-2147483648) ≤ p1) (u1 : p1 ≤ 2147483647) (ex0_1 : M0 0 1 = x0_1) (lx0_1 : 0 ≤ x0_1) (ux0_1 : x0_1 ≤ 500) : Ct B (d + 1) 40 [R 0, I p1] M0 (qX 1 (fun M => Pw M ∧ Fr (fm_m7040_0 ||| 1) M0 M ∧ M (-1) 0 = M0 (-1) 0 + 1 ∧ (M 0 1 = x0_1 ∧ (p1 < 0 ∨ x0_1 < p1) ∧ M 0 9 = M0 0 9 ∧ M 0 5 = M0 0 5 ∧ M 2 1 = M0 2 1 ∧ M 0 11 = M0 0 11)) (qV fun M => Pw M ∧ Fr fm_m7040_0 M0 M ∧ 0 ≤ p1 ∧ 0 ≤ x0_1 + (-1) * p1 ∧ 0 ≤ (-1) * (M 0 1))) := by
  refine ct_of (d := d + 0) (k := 0) (L := [some (R 0), some (I p1)]) rfl rfl rfl ?_
  have hF0 := Fr.rf fm_m7040_0 M0
  generalize hQ : (qX 1 (fun M => Pw M ∧ Fr (fm_m7040_0 ||| 1) M0 M ∧ M (-1) 0 = M0 (-1) 0 + 1 ∧ (M 0 1 = x0_1 ∧ (p1 < 0 ∨ x0_1 < p1) ∧ M 0 9 = M0 0 9 ∧ M 0 5 = M0 0 5 ∧ M 2 1 = M0 2 1 ∧ M 0 11 = M0 0 11)) (qV fun M => Pw M ∧ Fr fm_m7040_0 M0 M ∧ 0 ≤ p1 ∧ 0 ≤ x0_1 + (-1) * p1 ∧ 0 ≤ (-1) * (M 0 1))) = Q
  refine wk_il1 r40_0 ?_
  refine wk_iflt r40_1 ⟨by omega, by omega⟩ ?_ ?_
  · intro h1
    subst hQ; exact wk_thr105 r40_12 rfl (Or.inl ⟨rfl, hP0.thr, (Fr.thr hF0), (by rw [mUp_eq, hF0.at g_below rfl]), ⟨by rw [mUp_ne (Or.inl (by decide))]; exact ex0_1, by omega, by rw [mUp_ne (Or.inl (by decide))], by rw [mUp_ne (Or.inl (by decide))], by rw [mUp_ne (Or.inl (by decide))], by rw [mUp_ne (Or.inl (by decide))]⟩⟩)
  · intro h2
    refine wk_il1 r40_4 (wk_al0 r40_5 (wk_getfi r40_6 fd_0_1 ex0_1 ?_))
    refine wk_icle r40_9 ⟨by omega, by omega⟩ ⟨by omega, by omega⟩ ?_ ?_
    · intro h3
      refine wk_al0 r40_22 (wk_c1 r40_23 (wk_putfi81 r40_24 fd_0_1 (wk_nw g_0_1 rfl hP0 hF0 (uf_0_1 (by decide)) ?_)))
      intro M4 hP5 hF6 e7
      subst hQ; exact wk_ret r40_27 (Or.inr ⟨rfl, hP5, hF6, by omega, by omega, by have := (mUp_at e7); omega⟩)
    · intro h8
      subst hQ; exact wk_thr105 r40_12 rfl (Or.inl ⟨rfl, hP0.thr, (Fr.thr hF0), (by rw [mUp_eq, hF0.at g_below rfl]), ⟨by rw [mUp_ne (Or.inl (by decide))]; exact ex0_1, by omega, by rw [mUp_ne (Or.inl (by decide))], by rw [mUp_ne (Or.inl (by decide))], by rw [mUp_ne (Or.inl (by decide))], by rw [mUp_ne (Or.inl (by decide))]⟩⟩)
def fm_m7039_0 : Nat := 4222648099800132
/-- IslandHall.sentence -/
theorem m7039_0 {B : eB} (d : Nat) (M0 : Mm) (p1 : Int) (x0_1 : Int) (x0_9 : Int) (x0_5 : Int) (x2_1 : Int) (T : Int → Int) (hP0 : Pw M0) (l1 : (-2147483648) ≤ p1) (u1 : p1 ≤ 2147483647) (ex0_1 : M0 0 1 = x0_1) (lx0_1 : 0 ≤ x0_1) (ux0_1 : x0_1 ≤ 500) (ex0_9 : M0 0 9 = x0_9) (lx0_9 : 0 ≤ x0_9) (ux0_9 : x0_9 ≤ 30) (ex0_5 : M0 0 5 = x0_5) (lx0_5 : (-1) ≤ x0_5) (ux0_5 : x0_5 ≤ 500) (ex2_1 : M0 2 1 = x2_1) (lx2_1 : 0 ≤ x2_1) (ux2_1 : x2_1 ≤ 7) (xp0 : ∀ k : Int, 0 ≤ k → k < x0_1 → (0 ≤ M0 1 k → T k = M0 1 k) ∧ (M0 1 k < 0 → -128 ≤ M0 1 k ∧ T k = M0 1 k + 256)) : Ct B (d + 42) 39 [R 0, I p1] M0 (qX 1 (fun M => Pw M ∧ Fr (fm_m7039_0 ||| 1) M0 M ∧ M (-1) 0 = M0 (-1) 0 + 1 ∧ (M 0 1 = x0_1 ∧ (p1 < 0 ∨ x0_1 < p1) ∧ M 0 9 = M0 0 9 ∧ M 0 5 = M0 0 5 ∧ M 2 1 = M0 2 1 ∧ M 0 11 = M0 0 11)) (qI fun z M => Pw M ∧ Fr fm_m7039_0 M0 M ∧ (-9) ≤ z ∧ z ≤ 29 ∧ 0 ≤ p1 ∧ 0 ≤ x0_1 + (-1) * p1 ∧ 0 ≤ (-1) * (M 0 1) ∧ (SNR T p1 x0_1 x0_9 x2_1 x0_5 0 z (M 0 9) (M 0 5)))) := by
  refine ct_of (d := d + 41) (k := 1) (L := [some (R 0), some (I p1), none]) rfl rfl rfl ?_
  have hF0 := Fr.rf fm_m7039_0 M0
  generalize hQ : (qX 1 (fun M => Pw M ∧ Fr (fm_m7039_0 ||| 1) M0 M ∧ M (-1) 0 = M0 (-1) 0 + 1 ∧ (M 0 1 = x0_1 ∧ (p1 < 0 ∨ x0_1 < p1) ∧ M 0 9 = M0 0 9 ∧ M 0 5 = M0 0 5 ∧ M 2 1 = M0 2 1 ∧ M 0 11 = M0 0 11)) (qI fun z M => Pw M ∧ Fr fm_m7039_0 M0 M ∧ (-9) ≤ z ∧ z ≤ 29 ∧ 0 ≤ p1 ∧ 0 ≤ x0_1 + (-1) * p1 ∧ 0 ≤ (-1) * (M 0 1) ∧ (SNR T p1 x0_1 x0_9 x2_1 x0_5 0 z (M 0 9) (M 0 5)))) = Q
  refine wk_al0 r39_0 (wk_il1 r39_1 (wk_cv2 r39_2 kc_0_40 rfl (m7040_0 _ M0 p1 x0_1 hP0 (by first | with_reducible assumption | omega) (by first | with_reducible assumption | omega) ex0_1 (by first | with_reducible assumption | omega) (by first | with_reducible assumption | omega)) (cqX (fun _ _ x5 => by subst hQ; exact Or.inl ⟨rfl, x5.1, Fr.trx hF0 x5.2.1 rfl, (by rw [x5.2.2.1, hF0.at g_below rfl]), x5.2.2.2⟩) (cqV ?_))))
  rintro M1 ⟨hP2, hQ3, h8, h9, h10⟩
  have hF4 : Fr fm_m7039_0 M0 M1 := hF0.tr hQ3 rfl
  obtain ⟨v11, e12⟩ : ∃ v, M1 0 1 = v := ⟨_, rfl⟩
  have h13 := (bf_0_1 hP2).1; rw [e12] at h13
  have h14 := (bf_0_1 hP2).2; rw [e12] at h14
  refine wk_al0 r39_5 (wk_getfi r39_6 fd_0_9 ((hQ3.at g_0_9 rfl).trans ex0_9) (wk_c2 r39_9 ?_))
  refine wk_iclt r39_11 ⟨by omega, by omega⟩ (by decide) ?_ ?_
  · intro h15
    refine wk_al0 r39_22 (wk_getfr r39_23 fd_0_4 (br_0_4 hP2) (wk_il1 r39_26 (wk_al0 r39_27 (wk_getfr r39_28 fd_0_2 (br_0_2 hP2) (wk_getfi r39_31 fd_2_1 ((hQ3.at g_2_1 rfl).trans ex2_1) (wk_al0 r39_34 (wk_getfr r39_35 fd_0_8 (br_0_8 hP2) (wk_al0 r39_38 (wk_getfi r39_39 fd_0_9 ((hQ3.at g_0_9 rfl).trans ex0_9) (wk_caldb r39_42 ar_168 ⟨by omega, by omega⟩ (fun q0 q1 => ba_168 hP2 q0 q1) ?_))))))))))
    intro v16 e17
    have hC18 : isC v16 := Or.inr (by omega)
    refine wk_cv4 r39_43 kc_6_170 rfl (m7170_6 _ M1 p1 x2_1 v16 T hP2 (by first | with_reducible assumption | omega) (by first | with_reducible assumption | omega) (by first | with_reducible assumption | omega) (by first | with_reducible assumption | omega) hC18 (fun k a b => by rw [hF4.at (ga_1 k) rfl]; exact xp0 k a (by omega))) (cqI ?_)
    rintro v24 M19 ⟨hP20, hQ21, h25, h26, xh23⟩
    have hF22 : Fr fm_m7039_0 M0 M19 := hF4.tr hQ21 rfl
    refine wk_is2 r39_46 rfl (wk_al0 r39_47 (wk_al0 r39_48 (wk_getfr r39_49 fd_0_4 (br_0_4 hP20) (wk_getfb r39_52 fd_6_5 (bf_6_5 hP20) ?_))))
    intro v27 h29 h30 e28
    have hpl9 : M19 6 5 = v27 := e28
    refine wk_putfi81 r39_55 fd_0_5 (wk_nw g_0_5 rfl hP20 hF22 (uf_0_5 ⟨by omega, by omega⟩) ?_)
    intro M31 hP32 hF33 e34
    refine wk_il2 r39_58 ?_
    refine wk_ifeq r39_59 ⟨by omega, by omega⟩ ?_ ?_
    · intro h35
      refine wk_al0 r39_66 (wk_dupr r39_67 (wk_getfi r39_68 fd_0_9 (mUp_no e34 ((hQ21.at g_0_9 rfl).trans ((hQ3.at g_0_9 rfl).trans ex0_9)) (Or.inr (by decide))) (wk_c1 r39_71 (wk_iadd r39_72 (wk_putfi81 r39_73 fd_0_9 (wk_nw g_0_9 rfl hP32 hF33 (uf_0_9 ⟨by omega, by omega⟩) ?_))))))
      intro M36 hP37 hF38 e39
      refine wk_al0 r39_76 (wk_getfi r39_77 fd_0_9 (mUp_at e39) (wk_c1 r39_80 (wk_isub r39_81 ?_)))
      subst hQ; exact wk_iret r39_82 (Or.inr ⟨rfl, _, rfl, hP37, hF38, by omega, by omega, by omega, by omega, by have := (mUp_no e39 (mUp_no e34 ((hQ21.at g_0_1 rfl).trans e12) (Or.inr (by decide))) (Or.inr (by decide))); omega, by rw [(mUp_at e39), (mUp_no e39 (mUp_at e34) (Or.inr (by decide)))]; exact SNR_r (r := v24) (by have q8 := xh23; rw [hpl9] at q8; exact q8) (by omega)⟩)
    · intro h40
      refine wk_c1 r39_62 (wk_il2 r39_63 (wk_isub r39_64 ?_))
      subst hQ; exact wk_iret r39_65 (Or.inr ⟨rfl, _, rfl, hP32, hF33, by omega, by omega, by omega, by omega, by have := (mUp_no e34 ((hQ21.at g_0_1 rfl).trans e12) (Or.inr (by decide))); omega, by rw [(mUp_no e34 ((hQ21.at g_0_9 rfl).trans ((hQ3.at g_0_9 rfl).trans ex0_9)) (Or.inr (by decide))), (mUp_at e34)]; exact SNR_r (r := v24) (by have q8 := xh23; rw [hpl9] at q8; exact q8) (by omega)⟩)
  · intro h41
    refine wk_al0 r39_14 (wk_c1 r39_15 (wk_putfi81 r39_16 fd_0_5 (wk_nw g_0_5 rfl hP2 hF4 (uf_0_5 (by decide)) ?_)))
    intro M42 hP43 hF44 e45
    refine wk_c2 r39_19 ?_
    subst hQ; exact wk_iret r39_21 (Or.inr ⟨rfl, _, rfl, hP43, hF44, by omega, by omega, by omega, by omega, by have := (mUp_no e45 e12 (Or.inr (by decide))); omega, by rw [(mUp_no e45 ((hQ3.at g_0_9 rfl).trans ex0_9) (Or.inr (by decide))), (mUp_at e45)]; exact SNR_9 (by omega)⟩)
def fm_m7183_7 : Nat := 139637976727552
/-- IslandHall$Plan.reset -/
theorem m7183_7 {B : eB} (d : Nat) (M0 : Mm) (hP0 : Pw M0)  : Ct B (d + 2) 183 [R 7] M0 (qV fun M => Pw M ∧ Fr fm_m7183_7 M0 M ∧ 0 ≤ M 7 2 + (-1) ∧ 0 ≤ M 7 3 + 1 ∧ 0 ≤ M 7 5 + 0 ∧ 0 ≤ M 7 6 + 0 ∧ 0 ≤ (-1) * (M 7 2) + 1 ∧ 0 ≤ (-1) * (M 7 3) + (-1) ∧ 0 ≤ (-1) * (M 7 5) + 0 ∧ 0 ≤ (-1) * (M 7 6) + 0 ∧ (∀ k : Int, M 8 k = 3) ∧ (∀ k : Int, 0 ≤ k → k < 7 → 1 ≤ M 8 k)) := by
  refine ct_of (d := d + 1) (k := 0) (L := [some (R 7)]) rfl rfl rfl ?_
  have hF0 := Fr.rf fm_m7183_7 M0
  generalize hQ : (qV fun M => Pw M ∧ Fr fm_m7183_7 M0 M ∧ 0 ≤ M 7 2 + (-1) ∧ 0 ≤ M 7 3 + 1 ∧ 0 ≤ M 7 5 + 0 ∧ 0 ≤ M 7 6 + 0 ∧ 0 ≤ (-1) * (M 7 2) + 1 ∧ 0 ≤ (-1) * (M 7 3) + (-1) ∧ 0 ≤ (-1) * (M 7 5) + 0 ∧ 0 ≤ (-1) * (M 7 6) + 0 ∧ (∀ k : Int, M 8 k = 3) ∧ (∀ k : Int, 0 ≤ k → k < 7 → 1 ≤ M 8 k)) = Q
  refine wk_al0 r183_0 (wk_getfr r183_1 fd_7_0 (br_7_0 hP0) (wk_c1 r183_4 (wk_cs102_2 r183_5 rfl (ct_fi ar_8) (cqV ?_))))
  intro M1 e2
  have hP3 : Pw M1 := by rw [e2]; exact hP0.fil (fun i => (ua_8 (by decide)))
  have hF4 : Fr fm_m7183_7 M0 M1 := by rw [e2]; exact hF0.fil (fun i => by rw [(ga_8 i)]; rfl)
  obtain ⟨u5, hu6⟩ : ∃ u : Int → Int, ∀ k, M1 8 k = u k := ⟨fun k => M1 8 k, fun k => rfl⟩
  have dm : ∀ k : Int, u5 k = 3 := fun k => by rw [← hu6 k, e2, fil_eq]
  refine wk_al0 r183_8 (wk_c1 r183_9 (wk_putfi81 r183_10 fd_7_1 (wk_nw g_7_1 rfl hP3 hF4 (uf_7_1 (by decide)) ?_)))
  intro M7 hP8 hF9 e10
  refine wk_al0 r183_13 (wk_c1 r183_14 (wk_putfi81 r183_15 fd_7_2 (wk_nw g_7_2 rfl hP8 hF9 (uf_7_2 (by decide)) ?_)))
  intro M11 hP12 hF13 e14
  refine wk_al0 r183_18 (wk_c1 r183_19 (wk_putfi81 r183_20 fd_7_3 (wk_nw g_7_3 rfl hP12 hF13 (uf_7_3 (by decide)) ?_)))
  intro M15 hP16 hF17 e18
  refine wk_al0 r183_23 (wk_c1 r183_24 (wk_putfi81 r183_25 fd_7_4 (wk_nw g_7_4 rfl hP16 hF17 (uf_7_4 (by decide)) ?_)))
  intro M19 hP20 hF21 e22
  refine wk_al0 r183_28 (wk_c1 r183_29 (wk_putfz81 r183_30 fd_7_5 (by decide) (wk_nw g_7_5 rfl hP20 hF21 (uf_7_5 (by decide)) ?_)))
  intro M23 hP24 hF25 e26
  refine wk_al0 r183_33 (wk_c1 r183_34 (wk_putfz81 r183_35 fd_7_6 (by decide) (wk_nw g_7_6 rfl hP24 hF25 (uf_7_6 (by decide)) ?_)))
  intro M27 hP28 hF29 e30
  subst hQ; exact wk_ret r183_38 (⟨rfl, hP28, hF29, by have := (mUp_no e30 (mUp_no e26 (mUp_no e22 (mUp_no e18 (mUp_at e14) (Or.inr (by decide))) (Or.inr (by decide))) (Or.inr (by decide))) (Or.inr (by decide))); omega, by have := (mUp_no e30 (mUp_no e26 (mUp_no e22 (mUp_at e18) (Or.inr (by decide))) (Or.inr (by decide))) (Or.inr (by decide))); omega, by have := (mUp_no e30 (mUp_at e26) (Or.inr (by decide))); omega, by have := (mUp_at e30); omega, by have := (mUp_no e30 (mUp_no e26 (mUp_no e22 (mUp_no e18 (mUp_at e14) (Or.inr (by decide))) (Or.inr (by decide))) (Or.inr (by decide))) (Or.inr (by decide))); omega, by have := (mUp_no e30 (mUp_no e26 (mUp_no e22 (mUp_at e18) (Or.inr (by decide))) (Or.inr (by decide))) (Or.inr (by decide))); omega, by have := (mUp_no e30 (mUp_at e26) (Or.inr (by decide))); omega, by have := (mUp_at e30); omega, fun k => by rw [(fun k => mUp_no e30 ((fun k => mUp_no e26 ((fun k => mUp_no e22 ((fun k => mUp_no e18 ((fun k => mUp_no e14 ((fun k => mUp_no e10 (hu6 k) (Or.inl (by decide))) k) (Or.inl (by decide))) k) (Or.inl (by decide))) k) (Or.inl (by decide))) k) (Or.inl (by decide))) k) (Or.inl (by decide))) k, dm k], fun k a b => by rw [(fun k => mUp_no e30 ((fun k => mUp_no e26 ((fun k => mUp_no e22 ((fun k => mUp_no e18 ((fun k => mUp_no e14 ((fun k => mUp_no e10 (hu6 k) (Or.inl (by decide))) k) (Or.inl (by decide))) k) (Or.inl (by decide))) k) (Or.inl (by decide))) k) (Or.inl (by decide))) k) (Or.inl (by decide))) k, dm k]; decide⟩)
def fm_m7144 : Nat := 8053063680
/-- IslandHall$Code.startFacts -/
theorem m7144 {B : eB} (d : Nat) (M0 : Mm) (c0 : Int) (hP0 : Pw M0) (hC0 : isC c0) : Ct B (d + 2) 144 [R c0] M0 (qV fun M => Pw M ∧ Fr fm_m7144 M0 M) := by
  refine ct_of (d := d + 1) (k := 0) (L := [some (R c0)]) rfl rfl rfl ?_
  have hF0 := Fr.rf fm_m7144 M0
  generalize hQ : (qV fun M => Pw M ∧ Fr fm_m7144 M0 M) = Q
  refine wk_al0 r144_0 (wk_cv1 r144_1 (kcC_141 hC0) rfl (m7141 _ M0 c0 hP0 hC0) (cqV ?_))
  rintro M1 ⟨hP2, hQ3⟩
  have hF4 : Fr fm_m7144 M0 M1 := hF0.tr hQ3 rfl
  refine wk_al0 r144_4 (wk_c1 r144_5 (wk_c2 r144_6 (wk_cv3 r144_8 (kcC_138 hC0) rfl (m7138 _ M1 c0 0 118 hP2 hC0 (by decide) (by decide) (by decide) (by decide) (by first | assumption | omega | (unfold stepok; omega))) (cqV ?_))))
  rintro M5 ⟨hP6, hQ7⟩
  have hF8 : Fr fm_m7144 M0 M5 := hF4.tr hQ7 rfl
  subst hQ; exact wk_ret r144_11 (⟨rfl, hP6, hF8⟩)
def fm_m7160_6 : Nat := 3942230221914112
/-- IslandHall$Parser.head -/
theorem m7160_6 {B : eB} (d : Nat) (M0 : Mm) (x9_1 : Int) (x9_3 : Int) (x9_2 : Int) (x6_4 : Int) (x6_5 : Int) (x6_3 : Int) (T : Int → Int) (hP0 : Pw M0) (ex9_1 : M0 9 1 = x9_1) (lx9_1 : 0 ≤ x9_1) (ux9_1 : x9_1 ≤ 500) (ex9_3 : M0 9 3 = x9_3) (lx9_3 : 0 ≤ x9_3) (ux9_3 : x9_3 ≤ 500) (ex9_2 : M0 9 2 = x9_2) (lx9_2 : 0 ≤ x9_2) (ux9_2 : x9_2 ≤ 500) (ex6_4 : M0 6 4 = x6_4) (lx6_4 : 0 ≤ x6_4) (ux6_4 : x6_4 ≤ 6) (ex6_5 : M0 6 5 = x6_5) (lx6_5 : (-1) ≤ x6_5) (ux6_5 : x6_5 ≤ 500) (ex6_3 : M0 6 3 = x6_3) (lx6_3 : (-1) ≤ x6_3) (ux6_3 : x6_3 ≤ 7) (rp0 : 0 ≤ x9_1 + (-1) * x9_2) (rp1 : 0 ≤ x9_2 + (-1) * x9_3) (rp2 : 0 ≤ x9_1 + (-1) * x9_3) (pp_TX : TXP T M0) (pp_TC : TCP T M0) : Ct B (d + 4) 160 [R 6] M0 (qI fun z M => Pw M ∧ Fr fm_m7160_6 M0 M ∧ 0 ≤ z ∧ z ≤ 1 ∧ 0 ≤ M 9 3 + (-1) * x9_3 ∧ 0 ≤ x9_1 + (-1) * (M 9 3) ∧ 0 ≤ x9_1 + (-1) * (M 9 2) ∧ 0 ≤ M 9 2 + (-1) * (M 9 3) ∧ 0 ≤ M 6 4 ∧ 0 ≤ M 6 5 + 1 ∧ 0 ≤ M 6 3 + 1 ∧ 0 ≤ M 7 1 + 1 ∧ 0 ≤ (-1) * (M 6 5) + x6_5 + (-600) * z + 600 ∧ 0 ≤ (-1) * (M 6 4) + x6_4 + (-10) * z + 10 ∧ (z = 1 → 0 ≤ M 6 4 + (-1) * x6_4) ∧ (z = 1 → 0 ≤ (-1) * (M 6 4) + x6_4) ∧ (z = 1 → 0 ≤ M 6 5 + (-1) * x6_5) ∧ (z = 1 → 0 ≤ (-1) * (M 6 5) + x6_5) ∧ ((z = 1 ∧ HDg T x9_1 x9_3 (M 6 3) (M 9 3) ∧ M 7 1 = M 6 3) ∨ (z = 0 ∧ HDf T x9_1 x9_3 (M 6 4) (M 6 5))) ∧ (TXP T M) ∧ (TCP T M)) := by
  refine ct_of (d := d + 3) (k := 0) (L := [some (R 6)]) rfl rfl rfl ?_
  have hF0 := Fr.rf fm_m7160_6 M0
  generalize hQ : (qI fun z M => Pw M ∧ Fr fm_m7160_6 M0 M ∧ 0 ≤ z ∧ z ≤ 1 ∧ 0 ≤ M 9 3 + (-1) * x9_3 ∧ 0 ≤ x9_1 + (-1) * (M 9 3) ∧ 0 ≤ x9_1 + (-1) * (M 9 2) ∧ 0 ≤ M 9 2 + (-1) * (M 9 3) ∧ 0 ≤ M 6 4 ∧ 0 ≤ M 6 5 + 1 ∧ 0 ≤ M 6 3 + 1 ∧ 0 ≤ M 7 1 + 1 ∧ 0 ≤ (-1) * (M 6 5) + x6_5 + (-600) * z + 600 ∧ 0 ≤ (-1) * (M 6 4) + x6_4 + (-10) * z + 10 ∧ (z = 1 → 0 ≤ M 6 4 + (-1) * x6_4) ∧ (z = 1 → 0 ≤ (-1) * (M 6 4) + x6_4) ∧ (z = 1 → 0 ≤ M 6 5 + (-1) * x6_5) ∧ (z = 1 → 0 ≤ (-1) * (M 6 5) + x6_5) ∧ ((z = 1 ∧ HDg T x9_1 x9_3 (M 6 3) (M 9 3) ∧ M 7 1 = M 6 3) ∨ (z = 0 ∧ HDf T x9_1 x9_3 (M 6 4) (M 6 5))) ∧ (TXP T M) ∧ (TCP T M)) = Q
  refine wk_al0 r160_0 (wk_c8 r160_1 (wk_cv2 r160_3 kc_6_175 rfl (m7175_6 _ M0 4127 x9_1 x9_3 x9_2 T hP0 (by decide) ex9_1 (by first | with_reducible assumption | omega) (by first | with_reducible assumption | omega) ex9_3 (by first | with_reducible assumption | omega) (by first | with_reducible assumption | omega) ex9_2 (by first | with_reducible assumption | omega) (by first | with_reducible assumption | omega) (by omega) (by omega) (by omega) (by first | assumption | omega | (unfold stepok; omega)) pp_TX pp_TC) (cqI ?_)))
  rintro v13 M1 ⟨hP2, hQ3, h14, h15, h5, h6, h7, h8, h9, xh10, pr11, pr12⟩
  have hF4 : Fr fm_m7160_6 M0 M1 := hF0.tr hQ3 rfl
  obtain ⟨v16, e17⟩ : ∃ v, M1 9 3 = v := ⟨_, rfl⟩
  have h18 := (bf_9_3 hP2).1; rw [e17] at h18
  have h19 := (bf_9_3 hP2).2; rw [e17] at h19
  obtain ⟨v20, e21⟩ : ∃ v, M1 9 2 = v := ⟨_, rfl⟩
  have h22 := (bf_9_2 hP2).1; rw [e21] at h22
  have h23 := (bf_9_2 hP2).2; rw [e21] at h23
  rw [show wix 4127 = 5 from rfl] at xh10
  refine wk_ifne r160_6 ⟨by omega, by omega⟩ ?_ ?_
  · intro h24
    replace h9 := h9 (z1_of h14 h15 h24)
    refine wk_al0 r160_15 (wk_al0 r160_16 (wk_c1 r160_17 (wk_c2 r160_18 (wk_cv3 r160_20 kc_6_167 rfl (m7167_6 _ M1 0 7 x9_1 v16 v20 x6_4 x6_5 T hP2 (by decide) (by decide) (by decide) (by decide) ((hQ3.at g_9_1 rfl).trans ex9_1) (by first | with_reducible assumption | omega) (by first | with_reducible assumption | omega) e17 (by first | with_reducible assumption | omega) (by first | with_reducible assumption | omega) e21 (by first | with_reducible assumption | omega) (by first | with_reducible assumption | omega) ((hQ3.at g_6_4 rfl).trans ex6_4) (by first | with_reducible assumption | omega) (by first | with_reducible assumption | omega) ((hQ3.at g_6_5 rfl).trans ex6_5) (by first | with_reducible assumption | omega) (by first | with_reducible assumption | omega) (by omega) (by omega) (by omega) pr11 pr12) (cqI ?_)))))
    rintro v39 M25 ⟨hP26, hQ27, h40, h41, h29, h30, h31, h32, h33, h34, h35, xh36, pr37, pr38⟩
    have hF28 : Fr fm_m7160_6 M0 M25 := hF4.tr hQ27 rfl
    obtain ⟨v42, e43⟩ : ∃ v, M25 9 3 = v := ⟨_, rfl⟩
    have h44 := (bf_9_3 hP26).1; rw [e43] at h44
    have h45 := (bf_9_3 hP26).2; rw [e43] at h45
    obtain ⟨v46, e47⟩ : ∃ v, M25 9 2 = v := ⟨_, rfl⟩
    have h48 := (bf_9_2 hP26).1; rw [e47] at h48
    have h49 := (bf_9_2 hP26).2; rw [e47] at h49
    obtain ⟨v50, e51⟩ : ∃ v, M25 6 4 = v := ⟨_, rfl⟩
    have h52 := (bf_6_4 hP26).1; rw [e51] at h52
    have h53 := (bf_6_4 hP26).2; rw [e51] at h53
    obtain ⟨v54, e55⟩ : ∃ v, M25 6 5 = v := ⟨_, rfl⟩
    have h56 := (bf_6_5 hP26).1; rw [e55] at h56
    have h57 := (bf_6_5 hP26).2; rw [e55] at h57
    refine wk_putfi81 r160_23 fd_6_3 (wk_nw g_6_3 rfl hP26 hF28 (uf_6_3 ⟨by omega, by omega⟩) ?_)
    intro M58 hP59 hF60 e61
    refine wk_al0 r160_26 (wk_getfr r160_27 fd_6_1 (br_6_1 hP59) (wk_al0 r160_30 (wk_getfi r160_31 fd_6_3 (mUp_at e61) (wk_putfi81 r160_34 fd_7_1 (wk_nw g_7_1 rfl hP59 hF60 (uf_7_1 ⟨by omega, by omega⟩) ?_)))))
    intro M62 hP63 hF64 e65
    refine wk_al0 r160_37 (wk_getfi r160_38 fd_6_3 (mUp_no e65 (mUp_at e61) (Or.inl (by decide))) (wk_c1 r160_41 ?_))
    refine wk_iceq r160_42 ⟨by omega, by omega⟩ (by decide) ?_ ?_
    · intro h66
      refine wk_c1 r160_58 ?_
      subst hQ; exact wk_zret r160_59 (by decide) (⟨rfl, _, rfl, hP63, hF64, by omega, by omega, by have := (mUp_no e65 (mUp_no e61 e43 (Or.inl (by decide))) (Or.inl (by decide))); omega, by have := (mUp_no e65 (mUp_no e61 e43 (Or.inl (by decide))) (Or.inl (by decide))); omega, by have := (mUp_no e65 (mUp_no e61 e47 (Or.inl (by decide))) (Or.inl (by decide))); omega, by have := (mUp_no e65 (mUp_no e61 e47 (Or.inl (by decide))) (Or.inl (by decide))); have := (mUp_no e65 (mUp_no e61 e43 (Or.inl (by decide))) (Or.inl (by decide))); omega, by have := (mUp_no e65 (mUp_no e61 e51 (Or.inr (by decide))) (Or.inl (by decide))); omega, by have := (mUp_no e65 (mUp_no e61 e55 (Or.inr (by decide))) (Or.inl (by decide))); omega, by have := (mUp_no e65 (mUp_at e61) (Or.inl (by decide))); omega, by have := (mUp_at e65); omega, by have := (mUp_no e65 (mUp_no e61 e55 (Or.inr (by decide))) (Or.inl (by decide))); omega, by have := (mUp_no e65 (mUp_no e61 e51 (Or.inr (by decide))) (Or.inl (by decide))); omega, by omega, by omega, by omega, by omega, Or.inr ⟨by omega, by rw [(mUp_no e65 (mUp_no e61 e51 (Or.inr (by decide))) (Or.inl (by decide))), (mUp_no e65 (mUp_no e61 e55 (Or.inr (by decide))) (Or.inl (by decide)))]; exact HD_2 (s1 := v16) (by omega) (by omega) (by omega)⟩, (TXP_sm (Sm.up e65 g_7_1 rfl) (TXP_sm (Sm.up e61 g_6_3 rfl) pr37)), (TCP_sm (Sm.up e65 g_7_1 rfl) (TCP_sm (Sm.up e61 g_6_3 rfl) pr38))⟩)
    · intro h67
      have h68 : v50 = x6_4 := by omega
      have h69 : v54 = x6_5 := by omega
      refine wk_al0 r160_45 (wk_c2 r160_46 (wk_cv2 r160_48 kc_6_174 rfl (m7174_6 _ M62 59 x9_1 v42 v46 v50 v54 T hP63 (by decide) (by decide) (mUp_no e65 (mUp_no e61 ((hQ27.at g_9_1 rfl).trans ((hQ3.at g_9_1 rfl).trans ex9_1)) (Or.inl (by decide))) (Or.inl (by decide))) (by first | with_reducible assumption | omega) (by first | with_reducible assumption | omega) (mUp_no e65 (mUp_no e61 e43 (Or.inl (by decide))) (Or.inl (by decide))) (by first | with_reducible assumption | omega) (by first | with_reducible assumption | omega) (mUp_no e65 (mUp_no e61 e47 (Or.inl (by decide))) (Or.inl (by decide))) (by first | with_reducible assumption | omega) (by first | with_reducible assumption | omega) (mUp_no e65 (mUp_no e61 e51 (Or.inr (by decide))) (Or.inl (by decide))) (by first | with_reducible assumption | omega) (by first | with_reducible assumption | omega) (mUp_no e65 (mUp_no e61 e55 (Or.inr (by decide))) (Or.inl (by decide))) (by first | with_reducible assumption | omega) (by first | with_reducible assumption | omega) (by omega) (by omega) (by omega) (TXP_sm (Sm.up e65 g_7_1 rfl) (TXP_sm (Sm.up e61 g_6_3 rfl) pr37)) (TCP_sm (Sm.up e65 g_7_1 rfl) (TCP_sm (Sm.up e61 g_6_3 rfl) pr38))) (cqI ?_)))
      rintro v87 M70 ⟨hP71, hQ72, h88, h89, h74, h75, h76, h77, h78, h79, h80, h81, h82, h83, xh84, pr85, pr86⟩
      have hF73 : Fr fm_m7160_6 M0 M70 := hF64.tr hQ72 rfl
      obtain ⟨v90, e91⟩ : ∃ v, M70 9 3 = v := ⟨_, rfl⟩
      have h92 := (bf_9_3 hP71).1; rw [e91] at h92
      have h93 := (bf_9_3 hP71).2; rw [e91] at h93
      obtain ⟨v94, e95⟩ : ∃ v, M70 9 2 = v := ⟨_, rfl⟩
      have h96 := (bf_9_2 hP71).1; rw [e95] at h96
      have h97 := (bf_9_2 hP71).2; rw [e95] at h97
      obtain ⟨v98, e99⟩ : ∃ v, M70 6 4 = v := ⟨_, rfl⟩
      have h100 := (bf_6_4 hP71).1; rw [e99] at h100
      have h101 := (bf_6_4 hP71).2; rw [e99] at h101
      obtain ⟨v102, e103⟩ : ∃ v, M70 6 5 = v := ⟨_, rfl⟩
      have h104 := (bf_6_5 hP71).1; rw [e103] at h104
      have h105 := (bf_6_5 hP71).2; rw [e103] at h105
      refine wk_ifeq r160_51 ⟨by omega, by omega⟩ ?_ ?_
      · intro h106
        clear h80 h81 h82 h83
        refine wk_c1 r160_58 ?_
        subst hQ; exact wk_zret r160_59 (by decide) (⟨rfl, _, rfl, hP71, hF73, by omega, by omega, by have := e91; omega, by have := e91; omega, by have := e95; omega, by have := e95; have := e91; omega, by have := e99; omega, by have := e103; omega, by have := ((hQ72.at g_6_3 rfl).trans (mUp_no e65 (mUp_at e61) (Or.inl (by decide)))); omega, by have := ((hQ72.at g_7_1 rfl).trans (mUp_at e65)); omega, by have := e103; omega, by have := e99; omega, by omega, by omega, by omega, by omega, Or.inr ⟨by omega, by rw [e99, e103]; exact HD_3 (s1 := v16) (s2 := v42) (by omega) (by omega) (by omega) (by omega)⟩, pr85, pr86⟩)
      · intro h107
        replace h80 := h80 (z1_of h88 h89 h107)
        replace h81 := h81 (z1_of h88 h89 h107)
        replace h82 := h82 (z1_of h88 h89 h107)
        replace h83 := h83 (z1_of h88 h89 h107)
        refine wk_c1 r160_54 (wk_goto r160_55 ?_)
        subst hQ; exact wk_zret r160_59 (by decide) (⟨rfl, _, rfl, hP71, hF73, by omega, by omega, by have := e91; omega, by have := e91; omega, by have := e95; omega, by have := e95; have := e91; omega, by have := e99; omega, by have := e103; omega, by have := ((hQ72.at g_6_3 rfl).trans (mUp_no e65 (mUp_at e61) (Or.inl (by decide)))); omega, by have := ((hQ72.at g_7_1 rfl).trans (mUp_at e65)); omega, by have := e103; omega, by have := e99; omega, by have := e99; omega, by have := e99; omega, by have := e103; omega, by have := e103; omega, Or.inl ⟨by omega, by rw [((hQ72.at g_6_3 rfl).trans (mUp_no e65 (mUp_at e61) (Or.inl (by decide)))), e91]; exact HD_g (s1 := v16) (s2 := v42) (by omega) (by omega) (by omega) (by omega), by rw [((hQ72.at g_7_1 rfl).trans (mUp_at e65)), ((hQ72.at g_6_3 rfl).trans (mUp_no e65 (mUp_at e61) (Or.inl (by decide))))]⟩, pr85, pr86⟩)
  · intro h108
    clear h9
    obtain rfl : x9_3 = v16 := by omega
    obtain rfl : x9_2 = v20 := by omega
    refine wk_al0 r160_9 (wk_c1 r160_10 (wk_cv2 r160_11 kc_6_159 rfl (m7159_6 _ M1 1 x9_3 hP2 (by decide) (by decide) e17 (by first | with_reducible assumption | omega) (by first | with_reducible assumption | omega)) (cqI ?_)))
    rintro v117 M109 ⟨hP110, hQ111, h118, h119, h113, h114, h115, h116⟩
    have hF112 : Fr fm_m7160_6 M0 M109 := hF4.tr hQ111 rfl
    obtain ⟨v120, e121⟩ : ∃ v, M109 6 4 = v := ⟨_, rfl⟩
    have h122 := (bf_6_4 hP110).1; rw [e121] at h122
    have h123 := (bf_6_4 hP110).2; rw [e121] at h123
    obtain ⟨v124, e125⟩ : ∃ v, M109 6 5 = v := ⟨_, rfl⟩
    have h126 := (bf_6_5 hP110).1; rw [e125] at h126
    have h127 := (bf_6_5 hP110).2; rw [e125] at h127
    subst hQ; exact wk_zret r160_14 ⟨by omega, by omega⟩ (⟨rfl, _, rfl, hP110, hF112, by omega, by omega, by have := ((hQ111.at g_9_3 rfl).trans e17); omega, by have := ((hQ111.at g_9_3 rfl).trans e17); omega, by have := ((hQ111.at g_9_2 rfl).trans e21); omega, by have := ((hQ111.at g_9_2 rfl).trans e21); have := ((hQ111.at g_9_3 rfl).trans e17); omega, by have := e121; omega, by have := e125; omega, by have := ((hQ111.at g_6_3 rfl).trans ((hQ3.at g_6_3 rfl).trans ex6_3)); omega, by have := (bf_7_1 hP110); omega, by have := e125; omega, by have := e121; omega, by omega, by omega, by omega, by omega, Or.inr ⟨by omega, by rw [e121, e125]; exact HD_1 (by omega)⟩, (TXP_sm (Sm.fr hQ111 rfl) pr11), (TCP_sm (Sm.fr hQ111 rfl) pr12)⟩)
def fm_m7179_7 : Nat := 0
/-- IslandHall$Plan.earliestDay -/
theorem m7179_7 {B : eB} (d : Nat) (M0 : Mm) (hP0 : Pw M0)  : Ct B (d + 1) 179 [R 7] M0 (qI fun z M => Pw M ∧ Fr fm_m7179_7 M0 M ∧ 0 ≤ z ∧ z ≤ 6 ∧ (z = eD M0 7)) := by
  refine ct_of (d := d + 0) (k := 0) (L := [some (R 7)]) rfl rfl rfl ?_
  have hF0 := Fr.rf fm_m7179_7 M0
  generalize hQ : (qI fun z M => Pw M ∧ Fr fm_m7179_7 M0 M ∧ 0 ≤ z ∧ z ≤ 6 ∧ (z = eD M0 7)) = Q
  refine wk_al0 r179_0 (wk_getfb r179_1 fd_7_3 (bf_7_3 hP0) ?_)
  intro v1 h3 h4 e2
  refine wk_c1 r179_4 ?_
  refine wk_icne r179_5 ⟨by omega, by omega⟩ (by decide) ?_ ?_
  · intro h5
    refine wk_al0 r179_12 (wk_getfi r179_13 fd_7_3 e2 ?_)
    subst hQ; exact wk_iret r179_16 (⟨rfl, _, rfl, hP0, hF0, by omega, by omega, by unfold eD; split <;> omega⟩)
  · intro h6
    refine wk_c1 r179_8 (wk_goto r179_9 ?_)
    subst hQ; exact wk_iret r179_16 (⟨rfl, _, rfl, hP0, hF0, by omega, by omega, by unfold eD; split <;> omega⟩)
def fm_m7181_7 : Nat := 0
/-- IslandHall$Plan.latestDay -/
theorem m7181_7 {B : eB} (d : Nat) (M0 : Mm) (hP0 : Pw M0)  : Ct B (d + 2) 181 [R 7] M0 (qI fun z M => Pw M ∧ Fr fm_m7181_7 M0 M ∧ 0 ≤ z ∧ z ≤ 6 ∧ (z = lD M0 7)) := by
  refine ct_of (d := d + 1) (k := 0) (L := [some (R 7)]) rfl rfl rfl ?_
  have hF0 := Fr.rf fm_m7181_7 M0
  generalize hQ : (qI fun z M => Pw M ∧ Fr fm_m7181_7 M0 M ∧ 0 ≤ z ∧ z ≤ 6 ∧ (z = lD M0 7)) = Q
  refine wk_al0 r181_0 (wk_getfb r181_1 fd_7_3 (bf_7_3 hP0) ?_)
  intro v1 h3 h4 e2
  refine wk_c1 r181_4 ?_
  refine wk_icne r181_5 ⟨by omega, by omega⟩ (by decide) ?_ ?_
  · intro h5
    refine wk_al0 r181_20 (wk_cv1 r181_21 kc_7_179 rfl (m7179_7 _ M0 hP0) (cqI ?_))
    rintro v11 M6 ⟨hP7, hQ8, h12, h13, xh10⟩
    obtain rfl := Fr.same hQ8
    subst hQ; exact wk_iret r181_24 (⟨rfl, _, rfl, hP0, hF0, by omega, by omega, by unfold lD; split <;> omega⟩)
  · intro h14
    refine wk_al0 r181_8 (wk_getfb r181_9 fd_7_5 (bf_7_5 hP0) ?_)
    intro v15 h17 h18 e16
    refine wk_ifeq r181_12 ⟨by omega, by omega⟩ ?_ ?_
    · intro h19
      refine wk_al0 r181_20 (wk_cv1 r181_21 kc_7_179 rfl (m7179_7 _ M0 hP0) (cqI ?_))
      rintro v25 M20 ⟨hP21, hQ22, h26, h27, xh24⟩
      obtain rfl := Fr.same hQ22
      subst hQ; exact wk_iret r181_24 (⟨rfl, _, rfl, hP0, hF0, by omega, by omega, by unfold lD; split <;> omega⟩)
    · intro h28
      refine wk_c2 r181_15 (wk_goto r181_17 ?_)
      subst hQ; exact wk_iret r181_24 (⟨rfl, _, rfl, hP0, hF0, by omega, by omega, by unfold lD; split <;> omega⟩)
def fm_m7182_7 : Nat := 0
/-- IslandHall$Plan.latestWord -/
theorem m7182_7 {B : eB} (d : Nat) (M0 : Mm) (hP0 : Pw M0)  : Ct B (d + 1) 182 [R 7] M0 (qI fun z M => Pw M ∧ Fr fm_m7182_7 M0 M ∧ 0 ≤ z ∧ z ≤ 1 ∧ (z = lW M0 7)) := by
  refine ct_of (d := d + 0) (k := 0) (L := [some (R 7)]) rfl rfl rfl ?_
  have hF0 := Fr.rf fm_m7182_7 M0
  generalize hQ : (qI fun z M => Pw M ∧ Fr fm_m7182_7 M0 M ∧ 0 ≤ z ∧ z ≤ 1 ∧ (z = lW M0 7)) = Q
  refine wk_al0 r182_0 (wk_getfb r182_1 fd_7_6 (bf_7_6 hP0) ?_)
  intro v1 h3 h4 e2
  refine wk_ifeq r182_4 ⟨by omega, by omega⟩ ?_ ?_
  · intro h5
    refine wk_c1 r182_11 ?_
    subst hQ; exact wk_iret r182_12 (⟨rfl, _, rfl, hP0, hF0, by omega, by omega, by unfold lW; split <;> omega⟩)
  · intro h6
    refine wk_c1 r182_7 (wk_goto r182_8 ?_)
    subst hQ; exact wk_iret r182_12 (⟨rfl, _, rfl, hP0, hF0, by omega, by omega, by unfold lW; split <;> omega⟩)
def fm_m7246 : Nat := 0
/-- java/lang/Integer.bitCount -/
theorem m7246 {B : eB} (d : Nat) (M0 : Mm) (p0 : Int) (hP0 : Pw M0) (l0 : 0 ≤ p0) (u0 : p0 ≤ 4095) : Ct B (d + 1) 246 [I p0] M0 (qI fun z M => Pw M ∧ Fr fm_m7246 M0 M ∧ 0 ≤ z ∧ z ≤ 63 ∧ (z = bcF p0)) := by
  refine ct_of (d := d + 0) (k := 0) (L := [some (I p0)]) rfl rfl rfl ?_
  have hF0 := Fr.rf fm_m7246 M0
  generalize hQ : (qI fun z M => Pw M ∧ Fr fm_m7246 M0 M ∧ 0 ≤ z ∧ z ≤ 63 ∧ (z = bcF p0)) = Q
  refine wk_il0 r246_0 (wk_il0 r246_1 (wk_c1 r246_2 (wk_iushrb r246_3 (by decide) ?_)))
  intro v1 h2 h3 h4
  refine wk_c5 r246_4 (wk_iand r246_7 ⟨by omega, by omega⟩ ⟨by omega, by omega⟩ ?_)
  intro v5 h6 h7 h8 h9
  refine wk_isub r246_8 (wk_is0 r246_9 (wk_il0 r246_10 (wk_c5 r246_11 (wk_iandr r246_14 ⟨by omega, by omega⟩ ?_))))
  intro v10 h11 h12 h13
  refine wk_il0 r246_15 (wk_c1 r246_16 (wk_iushrb r246_17 (by decide) ?_))
  intro v14 h15 h16 h17
  refine wk_c5 r246_18 (wk_iand r246_21 ⟨by omega, by omega⟩ ⟨by omega, by omega⟩ ?_)
  intro v18 h19 h20 h21 h22
  refine wk_iadd r246_22 (wk_is0 r246_23 (wk_il0 r246_24 (wk_il0 r246_25 (wk_c1 r246_26 (wk_iushrb r246_27 (by decide) ?_)))))
  intro v23 h24 h25 h26
  refine wk_iadd r246_28 (wk_wrap ?_)
  intro v27 h28 h29 h30
  refine wk_c5 r246_29 (wk_iandr r246_32 ⟨by omega, by omega⟩ ?_)
  intro v31 h32 h33 h34
  refine wk_is0 r246_33 (wk_il0 r246_34 (wk_il0 r246_35 (wk_c2 r246_36 (wk_iushrb r246_38 (by decide) ?_))))
  intro v35 h36 h37 h38
  refine wk_iadd r246_39 (wk_wrap ?_)
  intro v39 h40 h41 h42
  refine wk_is0 r246_40 (wk_il0 r246_41 (wk_il0 r246_42 (wk_c2 r246_43 (wk_iushrb r246_45 (by decide) ?_))))
  intro v43 h44 h45 h46
  refine wk_iadd r246_46 (wk_wrap ?_)
  intro v47 h48 h49 h50
  refine wk_is0 r246_47 (wk_il0 r246_48 (wk_c2 r246_49 (wk_iandc 6 64 r246_51 ⟨rfl, by decide⟩ rfl ?_)))
  subst hQ; exact wk_iret r246_52 (⟨rfl, _, rfl, hP0, hF0, by omega, by omega, by rw [bcF_eq]; subst_vars; rfl⟩)
def fm_m7184_7 : Nat := 0
/-- IslandHall$Plan.size -/
theorem m7184_7 {B : eB} (d : Nat) (M0 : Mm) (hP0 : Pw M0)  : Ct B (d + 3) 184 [R 7] M0 (qI fun z M => Pw M ∧ Fr fm_m7184_7 M0 M ∧ (-1791590400) ≤ z ∧ z ≤ 1791590400 ∧ (z = SZk M0 7 8)) := by
  refine ct_of (d := d + 2) (k := 2) (L := [some (R 7), none, none]) rfl rfl rfl ?_
  have hF0 := Fr.rf fm_m7184_7 M0
  generalize hQ : (qI fun z M => Pw M ∧ Fr fm_m7184_7 M0 M ∧ (-1791590400) ≤ z ∧ z ≤ 1791590400 ∧ (z = SZk M0 7 8)) = Q
  refine wk_al0 r184_0 (wk_getfb r184_1 fd_7_2 (bf_7_2 hP0) ?_)
  intro v1 h3 h4 e2
  refine wk_al0 r184_4 (wk_cv1 r184_5 kc_7_181 rfl (m7181_7 _ M0 hP0) (cqI ?_))
  rintro v10 M5 ⟨hP6, hQ7, h11, h12, xh9⟩
  obtain rfl := Fr.same hQ7
  refine wk_al0 r184_8 (wk_cv1 r184_9 kc_7_179 rfl (m7179_7 _ M0 hP0) (cqI ?_))
  rintro v18 M13 ⟨hP14, hQ15, h19, h20, xh17⟩
  obtain rfl := Fr.same hQ15
  refine wk_isub r184_12 (wk_c1 r184_13 (wk_iadd r184_14 (wk_mula 4 7 r184_15 ⟨by omega, by omega⟩ ⟨by omega, by omega⟩ ?_)))
  intro v21 h22 h23 h24
  refine wk_al0 r184_16 (wk_cv1 r184_17 kc_7_182 rfl (m7182_7 _ M0 hP0) (cqI ?_))
  rintro v30 M25 ⟨hP26, hQ27, h31, h32, xh29⟩
  obtain rfl := Fr.same hQ27
  refine wk_c1 r184_20 (wk_iadd r184_21 (wk_mula 28 2 r184_22 ⟨by omega, by omega⟩ ⟨by omega, by omega⟩ ?_))
  intro v33 h34 h35 h36
  refine wk_is1 r184_23 rfl ?_
  have hRf : v33 = Rf M0 7 := by unfold Rf; rw [← xh9, ← xh17, ← xh29, e2, h36, h24]
  have hRb : -100 ≤ Rf M0 7 ∧ Rf M0 7 ≤ 100 := by rw [← hRf]; omega
  refine wk_c1 r184_24 (wk_is2 r184_25 rfl ?_)
  have c26_268 : ∀ (k268 : Nat) (v235 : Int) (v238 : Int), (7 - v238).toNat = k268 → (-1791590400) ≤ v235 → v235 ≤ 1791590400 → 0 ≤ v238 → v238 ≤ 7 → (v235 = Rf M0 7 * PS (fun k => M0 8 k) (v238).toNat) → (v238 ≤ M0 7 1 ∨ v238 = 0) → Wp B (d + 2) 184 26 [some (R 7), some (I v235), some (I v238)] [] M0 Q := by
    refine lp_ind ?_
    intro k268 ih268 v235 v238 hk268 h236 h237 h239 h240 ti241 ti242
    refine wk_il2 r184_26 (wk_al0 r184_27 (wk_getfb r184_28 fd_7_1 (bf_7_1 hP0) ?_))
    intro v243 h245 h246 e244
    refine wk_icge r184_31 ⟨by omega, by omega⟩ ⟨by omega, by omega⟩ ?_ ?_
    · intro h247
      refine wk_il1 r184_63 ?_
      subst hQ; exact wk_iret r184_64 (⟨rfl, _, rfl, hP0, hF0, by omega, by omega, by unfold SZk; rw [show (M0 7 1).toNat = (v238).toNat by have := ti242; omega]; exact ti241⟩)
    · intro h248
      refine wk_il1 r184_34 (wk_al0 r184_35 (wk_getfr r184_36 fd_7_0 (br_7_0 hP0) (wk_il2 r184_39 (wk_ialdb r184_40 ar_8 ⟨by omega, by omega⟩ (fun q0 q1 => ba_8 hP0 q0 q1) ?_))))
      intro v249 h251 h252 e250
      refine wk_cs102_1 r184_41 rfl (m7246 _ M0 v249 hP0 (by first | with_reducible assumption | omega) (by first | with_reducible assumption | omega)) (cqI ?_)
      rintro v258 M253 ⟨hP254, hQ255, h259, h260, xh257⟩
      obtain rfl := Fr.same hQ255
      refine wk_al0 r184_44 (wk_getfr r184_45 fd_7_0 (br_7_0 hP0) (wk_il2 r184_48 (wk_iald r184_49 ar_8 ⟨by omega, by omega⟩ e250 (wk_c1 r184_50 (wk_ishrc r184_51 ⟨by omega, by omega⟩ (by decide) pwl_2 (wk_c1 r184_52 (wk_iandc 1 2 r184_53 ⟨rfl, by decide⟩ rfl (wk_iadd r184_54 ?_))))))))
      have h263 := sz_rg (u := fun k => M0 8 k) (fun k a b => by have := ba_8 hP0 a b; omega) (R := Rf M0 7) (v := v235) (p := v238) (by omega) (by omega) hRb ti241
      refine wk_mula 27993600 64 r184_55 ⟨by omega, by omega⟩ ⟨by omega, by omega⟩ ?_
      intro v264 h265 h266 h267
      refine wk_is1 r184_56 rfl (wk_inc2 r184_57 rfl (wk_goto r184_60 ?_))
      exact wp_fg (le_s (le_s (le_s le_0))) (ih268 (7 - (v238 + 1)).toNat (by omega) v264 (v238 + 1) rfl (by first | with_reducible assumption | omega) (by first | with_reducible assumption | omega) (by first | with_reducible assumption | omega) (by first | with_reducible assumption | omega) (sz_back (by omega) ti241 (by show _ = bcF (M0 8 v238) + M0 8 v238 / 4 % 2; rw [e250]; omega) h267) (Or.inl (by omega)))
  exact wp_fg (le_s (le_s (le_s le_0))) (c26_268 _ v33 0 rfl (by first | with_reducible assumption | omega) (by first | with_reducible assumption | omega) (by first | with_reducible assumption | omega) (by first | with_reducible assumption | omega) (by rw [hRf]; exact (Int.mul_one _).symm) (Or.inr rfl))
def fm_m7162_6 : Nat := 3967450269876224
set_option maxHeartbeats 20000000 in
/-- IslandHall$Parser.liesClause -/
theorem m7162_6 {B : eB} (d : Nat) (M0 : Mm) (x9_1 : Int) (x9_3 : Int) (x9_2 : Int) (x6_4 : Int) (x6_5 : Int) (x6_3 : Int) (x7_2 : Int) (x7_3 : Int) (x7_5 : Int) (x7_6 : Int) (T : Int → Int) (i0 : Ig) (hP0 : Pw M0) (ex9_1 : M0 9 1 = x9_1) (lx9_1 : 0 ≤ x9_1) (ux9_1 : x9_1 ≤ 500) (ex9_3 : M0 9 3 = x9_3) (lx9_3 : 0 ≤ x9_3) (ux9_3 : x9_3 ≤ 500) (ex9_2 : M0 9 2 = x9_2) (lx9_2 : 0 ≤ x9_2) (ux9_2 : x9_2 ≤ 500) (ex6_4 : M0 6 4 = x6_4) (lx6_4 : 0 ≤ x6_4) (ux6_4 : x6_4 ≤ 6) (ex6_5 : M0 6 5 = x6_5) (lx6_5 : (-1) ≤ x6_5) (ux6_5 : x6_5 ≤ 500) (ex6_3 : M0 6 3 = x6_3) (lx6_3 : (-1) ≤ x6_3) (ux6_3 : x6_3 ≤ 7) (ex7_2 : M0 7 2 = x7_2) (lx7_2 : (-1) ≤ x7_2) (ux7_2 : x7_2 ≤ 4) (ex7_3 : M0 7 3 = x7_3) (lx7_3 : (-1) ≤ x7_3) (ux7_3 : x7_3 ≤ 6) (ex7_5 : M0 7 5 = x7_5) (lx7_5 : 0 ≤ x7_5) (ux7_5 : x7_5 ≤ 1) (ex7_6 : M0 7 6 = x7_6) (lx7_6 : 0 ≤ x7_6) (ux7_6 : x7_6 ≤ 1) (rp0 : 0 ≤ x9_1 + (-1) * x9_2) (rp1 : 0 ≤ x9_2 + (-1) * x9_3) (rp2 : 0 ≤ x9_1 + (-1) * x9_3) (xp0 : CX T x9_1 x6_3 i0 9 x9_3 (x7_2, x7_3, x7_5, x7_6, nrI (fun k => M0 8 k))) (pp_TX : TXP T M0) (pp_TC : TCP T M0) : Ct B (d + 4) 162 [R 6] M0 (qI fun z M => Pw M ∧ Fr fm_m7162_6 M0 M ∧ 0 ≤ z ∧ z ≤ 1 ∧ 0 ≤ M 9 3 + (-1) * x9_3 ∧ 0 ≤ x9_1 + (-1) * (M 9 3) ∧ 0 ≤ x9_1 + (-1) * (M 9 2) ∧ 0 ≤ M 9 2 + (-1) * (M 9 3) ∧ 0 ≤ M 6 4 ∧ 0 ≤ M 6 5 + 1 ∧ (z = 1 → 0 ≤ M 6 4 + (-1) * x6_4) ∧ (z = 1 → 0 ≤ (-1) * (M 6 4) + x6_4) ∧ (z = 1 → 0 ≤ M 6 5 + (-1) * x6_5) ∧ (z = 1 → 0 ≤ (-1) * (M 6 5) + x6_5) ∧ ((z = 1 ∧ Ri T x9_1 x6_3 i0 (5, M 9 3, 0, 0, (M 7 2, M 7 3, M 7 5, M 7 6, nrI (fun k => M 8 k)))) ∨ (z = 0 ∧ Ri T x9_1 x6_3 i0 (fI (M 6 5) (M 6 4)))) ∧ (TXP T M) ∧ (TCP T M)) := by
  refine ct_of (d := d + 3) (k := 3) (L := [some (R 6), none, none, none]) rfl rfl rfl ?_
  have hF0 := Fr.rf fm_m7162_6 M0
  generalize hQ : (qI fun z M => Pw M ∧ Fr fm_m7162_6 M0 M ∧ 0 ≤ z ∧ z ≤ 1 ∧ 0 ≤ M 9 3 + (-1) * x9_3 ∧ 0 ≤ x9_1 + (-1) * (M 9 3) ∧ 0 ≤ x9_1 + (-1) * (M 9 2) ∧ 0 ≤ M 9 2 + (-1) * (M 9 3) ∧ 0 ≤ M 6 4 ∧ 0 ≤ M 6 5 + 1 ∧ (z = 1 → 0 ≤ M 6 4 + (-1) * x6_4) ∧ (z = 1 → 0 ≤ (-1) * (M 6 4) + x6_4) ∧ (z = 1 → 0 ≤ M 6 5 + (-1) * x6_5) ∧ (z = 1 → 0 ≤ (-1) * (M 6 5) + x6_5) ∧ ((z = 1 ∧ Ri T x9_1 x6_3 i0 (5, M 9 3, 0, 0, (M 7 2, M 7 3, M 7 5, M 7 6, nrI (fun k => M 8 k)))) ∨ (z = 0 ∧ Ri T x9_1 x6_3 i0 (fI (M 6 5) (M 6 4)))) ∧ (TXP T M) ∧ (TCP T M)) = Q
  refine wk_c1 r162_0 (wk_is1 r162_1 rfl (wk_c1 r162_2 (wk_is2 r162_3 rfl ?_)))
  have c4_1415 : ∀ (k1415 : Nat) (M1256 : Mm) (v1250 : Int) (v1253 : Int) (v1259 : Int) (v1263 : Int) (v1267 : Int) (v1271 : Int), (500 - v1253).toNat = k1415 → Pw M1256 → Fr fm_m7162_6 M0 M1256 → M1256 9 3 = v1259 → M1256 9 2 = v1263 → M1256 6 4 = v1267 → M1256 6 5 = v1271 → M1256 9 1 = x9_1 → M1256 6 3 = x6_3 → M1256 7 2 = x7_2 → M1256 7 3 = x7_3 → M1256 7 5 = x7_5 → M1256 7 6 = x7_6 → 0 ≤ v1250 → v1250 ≤ 127 → 0 ≤ v1253 → v1253 ≤ 500 → 0 ≤ v1259 → v1259 ≤ 500 → 0 ≤ v1263 → v1263 ≤ 500 → 0 ≤ v1267 → v1267 ≤ 6 → (-1) ≤ v1271 → v1271 ≤ 500 → (TXP T M1256) → (TCP T M1256) → 0 ≤ 1 * v1259 + (-1) * x9_3 → 0 ≤ 1 * x9_1 + (-1) * v1259 → 0 ≤ 1 * x9_1 + (-1) * v1263 → 0 ≤ 1 * v1263 + (-1) * v1259 → 0 ≤ 1 * v1259 + (-1) * v1253 → 0 ≤ 1 * v1267 + (-1) * x6_4 → 0 ≤ (-1) * v1267 + 1 * x6_4 → 0 ≤ 1 * v1271 + (-1) * x6_5 → 0 ≤ (-1) * v1271 + 1 * x6_5 → (LX T x9_1 x6_3 i0 v1253 v1259 (x7_2, x7_3, x7_5, x7_6, nrI (fun k => M0 8 k))) → Wp B (d + 3) 162 4 [some (R 6), some (I v1250), some (I v1253), none] [] M1256 Q := by
    refine lp_ind ?_
    intro k1415 ih1415 M1256 v1250 v1253 v1259 v1263 v1267 v1271 hk1415 hP1257 hF1258 e1262 e1266 e1270 e1274 e1275 e1276 e1277 e1278 e1279 e1280 h1251 h1252 h1254 h1255 h1260 h1261 h1264 h1265 h1268 h1269 h1272 h1273 pr1281 pr1282 h1283 h1284 h1285 h1286 h1287 h1288 h1289 h1290 h1291 ti1292
    refine wk_il2 r162_4 (wk_c3 r162_5 ?_)
    refine wk_icge r162_8 ⟨by omega, by omega⟩ (by decide) ?_ ?_
    · intro h1293
      have htt : tt T x9_1 v1259 ≠ 2 := by have q8 := pr1282; unfold TCP at q8; rw [e1275, e1262] at q8; have := tt_lt T x9_1 v1259; omega
      refine wk_al0 r162_53 (wk_getfr r162_54 fd_6_1 (br_6_1 hP1257) (wk_il1 r162_57 (wk_putfi81 r162_58 fd_7_4 (wk_nw g_7_4 rfl hP1257 hF1258 (uf_7_4 ⟨by omega, by omega⟩) ?_))))
      intro M1294 hP1295 hF1296 e1297
      refine wk_al0 r162_61 (wk_getfr r162_62 fd_6_1 (br_6_1 hP1295) (wk_c1 r162_65 (wk_putfz81 r162_66 fd_7_5 (by decide) (wk_nw g_7_5 rfl hP1295 hF1296 (uf_7_5 (by decide)) ?_))))
      intro M1298 hP1299 hF1300 e1301
      refine wk_c1 r162_69 ?_
      subst hQ; exact wk_zret r162_70 (by decide) (⟨rfl, _, rfl, hP1299, hF1300, by omega, by omega, by have := (mUp_no e1301 (mUp_no e1297 e1262 (Or.inl (by decide))) (Or.inl (by decide))); omega, by have := (mUp_no e1301 (mUp_no e1297 e1262 (Or.inl (by decide))) (Or.inl (by decide))); omega, by have := (mUp_no e1301 (mUp_no e1297 e1266 (Or.inl (by decide))) (Or.inl (by decide))); omega, by have := (mUp_no e1301 (mUp_no e1297 e1266 (Or.inl (by decide))) (Or.inl (by decide))); have := (mUp_no e1301 (mUp_no e1297 e1262 (Or.inl (by decide))) (Or.inl (by decide))); omega, by have := (mUp_no e1301 (mUp_no e1297 e1270 (Or.inl (by decide))) (Or.inl (by decide))); omega, by have := (mUp_no e1301 (mUp_no e1297 e1274 (Or.inl (by decide))) (Or.inl (by decide))); omega, by have := (mUp_no e1301 (mUp_no e1297 e1270 (Or.inl (by decide))) (Or.inl (by decide))); omega, by have := (mUp_no e1301 (mUp_no e1297 e1270 (Or.inl (by decide))) (Or.inl (by decide))); omega, by have := (mUp_no e1301 (mUp_no e1297 e1274 (Or.inl (by decide))) (Or.inl (by decide))); omega, by have := (mUp_no e1301 (mUp_no e1297 e1274 (Or.inl (by decide))) (Or.inl (by decide))); omega, Or.inl ⟨by omega, by rw [(mUp_no e1301 (mUp_no e1297 e1262 (Or.inl (by decide))) (Or.inl (by decide))), (mUp_no e1301 (mUp_no e1297 e1277 (Or.inr (by decide))) (Or.inr (by decide))), (mUp_no e1301 (mUp_no e1297 e1278 (Or.inr (by decide))) (Or.inr (by decide))), (mUp_at e1301), (mUp_no e1301 (mUp_no e1297 e1280 (Or.inr (by decide))) (Or.inr (by decide)))]; exact I_c (LX_e (li2 := 1) ti1292 (by omega) htt rfl) (by omega) rfl rfl (by omega) (by omega) (by omega) (by omega) (nr_eq (fun k _ _ => hF1300.at (ga_8 k) rfl))⟩, (TXP_sm (Sm.up e1301 g_7_5 rfl) (TXP_sm (Sm.up e1297 g_7_4 rfl) pr1281)), (TCP_sm (Sm.up e1301 g_7_5 rfl) (TCP_sm (Sm.up e1297 g_7_4 rfl) pr1282))⟩)
    · intro h1302
      refine wk_il2 r162_11 ?_
      refine wk_ifeq r162_12 ⟨by omega, by omega⟩ ?_ ?_
      · intro h1303
        have hlx : v1253 = 0 ∨ tt T x9_1 v1259 = 2 := by have q8 := pr1282; unfold TCP at q8; rw [e1275, e1262] at q8; omega
        refine wk_al0 r162_26 (wk_c1 r162_27 (wk_c2 r162_28 (wk_cv3 r162_30 kc_6_167 rfl (m7167_6 _ M1256 0 6 x9_1 v1259 v1263 v1267 v1271 T hP1257 (by decide) (by decide) (by decide) (by decide) e1275 (by first | with_reducible assumption | omega) (by first | with_reducible assumption | omega) e1262 (by first | with_reducible assumption | omega) (by first | with_reducible assumption | omega) e1266 (by first | with_reducible assumption | omega) (by first | with_reducible assumption | omega) e1270 (by first | with_reducible assumption | omega) (by first | with_reducible assumption | omega) e1274 (by first | with_reducible assumption | omega) (by first | with_reducible assumption | omega) (by omega) (by omega) (by omega) pr1281 pr1282) (cqI ?_))))
        rintro v1318 M1304 ⟨hP1305, hQ1306, h1319, h1320, h1308, h1309, h1310, h1311, h1312, h1313, h1314, xh1315, pr1316, pr1317⟩
        have hF1307 : Fr fm_m7162_6 M0 M1304 := hF1258.tr hQ1306 rfl
        obtain ⟨v1321, e1322⟩ : ∃ v, M1304 9 3 = v := ⟨_, rfl⟩
        have h1323 := (bf_9_3 hP1305).1; rw [e1322] at h1323
        have h1324 := (bf_9_3 hP1305).2; rw [e1322] at h1324
        obtain ⟨v1325, e1326⟩ : ∃ v, M1304 9 2 = v := ⟨_, rfl⟩
        have h1327 := (bf_9_2 hP1305).1; rw [e1326] at h1327
        have h1328 := (bf_9_2 hP1305).2; rw [e1326] at h1328
        obtain ⟨v1329, e1330⟩ : ∃ v, M1304 6 4 = v := ⟨_, rfl⟩
        have h1331 := (bf_6_4 hP1305).1; rw [e1330] at h1331
        have h1332 := (bf_6_4 hP1305).2; rw [e1330] at h1332
        obtain ⟨v1333, e1334⟩ : ∃ v, M1304 6 5 = v := ⟨_, rfl⟩
        have h1335 := (bf_6_5 hP1305).1; rw [e1334] at h1335
        have h1336 := (bf_6_5 hP1305).2; rw [e1334] at h1336
        refine wk_is3 r162_33 rfl (wk_il3 r162_34 (wk_c1 r162_35 ?_))
        refine wk_icne r162_36 ⟨by omega, by omega⟩ (by decide) ?_ ?_
        · intro h1337
          have h1338 : v1259 + 1 ≤ v1321 := by omega
          have h1339 : v1329 = v1267 := by omega
          have h1340 : v1333 = v1271 := by omega
          refine wk_il1 r162_41 (wk_c1 r162_42 (wk_il3 r162_43 (wk_shl1 6 64 r162_44 ⟨by omega, by omega⟩ ⟨pwl_6, by decide⟩ ?_)))
          intro v1341 h1342 h1343 h1344
          refine wk_ior 7 128 r162_45 (by decide) ⟨by omega, by omega⟩ ⟨by omega, by omega⟩ ?_
          intro v1345 h1346 h1347 h1348 h1349 h1350
          refine wk_is1 r162_46 rfl (wk_inc2 r162_47 rfl (wk_goto r162_50 ?_))
          exact wp_fg (le_s (le_s (le_s (le_n le_0)))) (ih1415 (500 - (v1253 + 1)).toNat (by omega) M1304 v1345 (v1253 + 1) v1321 v1325 v1329 v1333 rfl hP1305 hF1307 e1322 e1326 e1330 e1334 ((hQ1306.at g_9_1 rfl).trans e1275) ((hQ1306.at g_6_3 rfl).trans e1276) ((hQ1306.at g_7_2 rfl).trans e1277) ((hQ1306.at g_7_3 rfl).trans e1278) ((hQ1306.at g_7_5 rfl).trans e1279) ((hQ1306.at g_7_6 rfl).trans e1280) (by first | with_reducible assumption | omega) (by first | with_reducible assumption | omega) (by first | with_reducible assumption | omega) (by first | with_reducible assumption | omega) (by first | with_reducible assumption | omega) (by first | with_reducible assumption | omega) (by first | with_reducible assumption | omega) (by first | with_reducible assumption | omega) (by first | with_reducible assumption | omega) (by first | with_reducible assumption | omega) (by first | with_reducible assumption | omega) (by first | with_reducible assumption | omega) pr1316 pr1317 (by first | with_reducible assumption | omega) (by first | with_reducible assumption | omega) (by first | with_reducible assumption | omega) (by first | with_reducible assumption | omega) (by first | with_reducible assumption | omega) (by first | with_reducible assumption | omega) (by first | with_reducible assumption | omega) (by first | with_reducible assumption | omega) (by first | with_reducible assumption | omega) (LX_n ti1292 hlx (by omega) (by omega) (by omega)))
        · intro h1351
          refine wk_c1 r162_39 ?_
          subst hQ; exact wk_zret r162_40 (by decide) (⟨rfl, _, rfl, hP1305, hF1307, by omega, by omega, by have := e1322; omega, by have := e1322; omega, by have := e1326; omega, by have := e1326; have := e1322; omega, by have := e1330; omega, by have := e1334; omega, by omega, by omega, by omega, by omega, Or.inr ⟨by omega, by rw [e1334, e1330]; exact l_n (LX_r ti1292 hlx) (by omega) (by omega) (by omega)⟩, pr1316, pr1317⟩)
      · intro h1352
        refine wk_al0 r162_15 (wk_getfr r162_16 fd_6_0 (br_6_0 hP1257) (wk_getfb r162_19 fd_9_4 (bf_9_4 hP1257) ?_))
        intro v1353 h1355 h1356 e1354
        refine wk_c1 r162_22 ?_
        refine wk_icne r162_23 ⟨by omega, by omega⟩ (by decide) ?_ ?_
        · intro h1357
          have htt : tt T x9_1 v1259 ≠ 2 := by have q8 := pr1282; unfold TCP at q8; rw [e1275, e1262] at q8; have := tt_lt T x9_1 v1259; omega
          refine wk_al0 r162_53 (wk_getfr r162_54 fd_6_1 (br_6_1 hP1257) (wk_il1 r162_57 (wk_putfi81 r162_58 fd_7_4 (wk_nw g_7_4 rfl hP1257 hF1258 (uf_7_4 ⟨by omega, by omega⟩) ?_))))
          intro M1358 hP1359 hF1360 e1361
          refine wk_al0 r162_61 (wk_getfr r162_62 fd_6_1 (br_6_1 hP1359) (wk_c1 r162_65 (wk_putfz81 r162_66 fd_7_5 (by decide) (wk_nw g_7_5 rfl hP1359 hF1360 (uf_7_5 (by decide)) ?_))))
          intro M1362 hP1363 hF1364 e1365
          refine wk_c1 r162_69 ?_
          subst hQ; exact wk_zret r162_70 (by decide) (⟨rfl, _, rfl, hP1363, hF1364, by omega, by omega, by have := (mUp_no e1365 (mUp_no e1361 e1262 (Or.inl (by decide))) (Or.inl (by decide))); omega, by have := (mUp_no e1365 (mUp_no e1361 e1262 (Or.inl (by decide))) (Or.inl (by decide))); omega, by have := (mUp_no e1365 (mUp_no e1361 e1266 (Or.inl (by decide))) (Or.inl (by decide))); omega, by have := (mUp_no e1365 (mUp_no e1361 e1266 (Or.inl (by decide))) (Or.inl (by decide))); have := (mUp_no e1365 (mUp_no e1361 e1262 (Or.inl (by decide))) (Or.inl (by decide))); omega, by have := (mUp_no e1365 (mUp_no e1361 e1270 (Or.inl (by decide))) (Or.inl (by decide))); omega, by have := (mUp_no e1365 (mUp_no e1361 e1274 (Or.inl (by decide))) (Or.inl (by decide))); omega, by have := (mUp_no e1365 (mUp_no e1361 e1270 (Or.inl (by decide))) (Or.inl (by decide))); omega, by have := (mUp_no e1365 (mUp_no e1361 e1270 (Or.inl (by decide))) (Or.inl (by decide))); omega, by have := (mUp_no e1365 (mUp_no e1361 e1274 (Or.inl (by decide))) (Or.inl (by decide))); omega, by have := (mUp_no e1365 (mUp_no e1361 e1274 (Or.inl (by decide))) (Or.inl (by decide))); omega, Or.inl ⟨by omega, by rw [(mUp_no e1365 (mUp_no e1361 e1262 (Or.inl (by decide))) (Or.inl (by decide))), (mUp_no e1365 (mUp_no e1361 e1277 (Or.inr (by decide))) (Or.inr (by decide))), (mUp_no e1365 (mUp_no e1361 e1278 (Or.inr (by decide))) (Or.inr (by decide))), (mUp_at e1365), (mUp_no e1365 (mUp_no e1361 e1280 (Or.inr (by decide))) (Or.inr (by decide)))]; exact I_c (LX_e (li2 := 1) ti1292 (by omega) htt rfl) (by omega) rfl rfl (by omega) (by omega) (by omega) (by omega) (nr_eq (fun k _ _ => hF1364.at (ga_8 k) rfl))⟩, (TXP_sm (Sm.up e1365 g_7_5 rfl) (TXP_sm (Sm.up e1361 g_7_4 rfl) pr1281)), (TCP_sm (Sm.up e1365 g_7_5 rfl) (TCP_sm (Sm.up e1361 g_7_4 rfl) pr1282))⟩)
        · intro h1366
          have hlx : v1253 = 0 ∨ tt T x9_1 v1259 = 2 := by have q8 := pr1282; unfold TCP at q8; rw [e1275, e1262] at q8; omega
          refine wk_al0 r162_26 (wk_c1 r162_27 (wk_c2 r162_28 (wk_cv3 r162_30 kc_6_167 rfl (m7167_6 _ M1256 0 6 x9_1 v1259 v1263 v1267 v1271 T hP1257 (by decide) (by decide) (by decide) (by decide) e1275 (by first | with_reducible assumption | omega) (by first | with_reducible assumption | omega) e1262 (by first | with_reducible assumption | omega) (by first | with_reducible assumption | omega) e1266 (by first | with_reducible assumption | omega) (by first | with_reducible assumption | omega) e1270 (by first | with_reducible assumption | omega) (by first | with_reducible assumption | omega) e1274 (by first | with_reducible assumption | omega) (by first | with_reducible assumption | omega) (by omega) (by omega) (by omega) pr1281 pr1282) (cqI ?_))))
          rintro v1381 M1367 ⟨hP1368, hQ1369, h1382, h1383, h1371, h1372, h1373, h1374, h1375, h1376, h1377, xh1378, pr1379, pr1380⟩
          have hF1370 : Fr fm_m7162_6 M0 M1367 := hF1258.tr hQ1369 rfl
          obtain ⟨v1384, e1385⟩ : ∃ v, M1367 9 3 = v := ⟨_, rfl⟩
          have h1386 := (bf_9_3 hP1368).1; rw [e1385] at h1386
          have h1387 := (bf_9_3 hP1368).2; rw [e1385] at h1387
          obtain ⟨v1388, e1389⟩ : ∃ v, M1367 9 2 = v := ⟨_, rfl⟩
          have h1390 := (bf_9_2 hP1368).1; rw [e1389] at h1390
          have h1391 := (bf_9_2 hP1368).2; rw [e1389] at h1391
          obtain ⟨v1392, e1393⟩ : ∃ v, M1367 6 4 = v := ⟨_, rfl⟩
          have h1394 := (bf_6_4 hP1368).1; rw [e1393] at h1394
          have h1395 := (bf_6_4 hP1368).2; rw [e1393] at h1395
          obtain ⟨v1396, e1397⟩ : ∃ v, M1367 6 5 = v := ⟨_, rfl⟩
          have h1398 := (bf_6_5 hP1368).1; rw [e1397] at h1398
          have h1399 := (bf_6_5 hP1368).2; rw [e1397] at h1399
          refine wk_is3 r162_33 rfl (wk_il3 r162_34 (wk_c1 r162_35 ?_))
          refine wk_icne r162_36 ⟨by omega, by omega⟩ (by decide) ?_ ?_
          · intro h1400
            have h1401 : v1259 + 1 ≤ v1384 := by omega
            have h1402 : v1392 = v1267 := by omega
            have h1403 : v1396 = v1271 := by omega
            refine wk_il1 r162_41 (wk_c1 r162_42 (wk_il3 r162_43 (wk_shl1 6 64 r162_44 ⟨by omega, by omega⟩ ⟨pwl_6, by decide⟩ ?_)))
            intro v1404 h1405 h1406 h1407
            refine wk_ior 7 128 r162_45 (by decide) ⟨by omega, by omega⟩ ⟨by omega, by omega⟩ ?_
            intro v1408 h1409 h1410 h1411 h1412 h1413
            refine wk_is1 r162_46 rfl (wk_inc2 r162_47 rfl (wk_goto r162_50 ?_))
            exact wp_fg (le_s (le_s (le_s (le_n le_0)))) (ih1415 (500 - (v1253 + 1)).toNat (by omega) M1367 v1408 (v1253 + 1) v1384 v1388 v1392 v1396 rfl hP1368 hF1370 e1385 e1389 e1393 e1397 ((hQ1369.at g_9_1 rfl).trans e1275) ((hQ1369.at g_6_3 rfl).trans e1276) ((hQ1369.at g_7_2 rfl).trans e1277) ((hQ1369.at g_7_3 rfl).trans e1278) ((hQ1369.at g_7_5 rfl).trans e1279) ((hQ1369.at g_7_6 rfl).trans e1280) (by first | with_reducible assumption | omega) (by first | with_reducible assumption | omega) (by first | with_reducible assumption | omega) (by first | with_reducible assumption | omega) (by first | with_reducible assumption | omega) (by first | with_reducible assumption | omega) (by first | with_reducible assumption | omega) (by first | with_reducible assumption | omega) (by first | with_reducible assumption | omega) (by first | with_reducible assumption | omega) (by first | with_reducible assumption | omega) (by first | with_reducible assumption | omega) pr1379 pr1380 (by first | with_reducible assumption | omega) (by first | with_reducible assumption | omega) (by first | with_reducible assumption | omega) (by first | with_reducible assumption | omega) (by first | with_reducible assumption | omega) (by first | with_reducible assumption | omega) (by first | with_reducible assumption | omega) (by first | with_reducible assumption | omega) (by first | with_reducible assumption | omega) (LX_n ti1292 hlx (by omega) (by omega) (by omega)))
          · intro h1414
            refine wk_c1 r162_39 ?_
            subst hQ; exact wk_zret r162_40 (by decide) (⟨rfl, _, rfl, hP1368, hF1370, by omega, by omega, by have := e1385; omega, by have := e1385; omega, by have := e1389; omega, by have := e1389; have := e1385; omega, by have := e1393; omega, by have := e1397; omega, by omega, by omega, by omega, by omega, Or.inr ⟨by omega, by rw [e1397, e1393]; exact l_n (LX_r ti1292 hlx) (by omega) (by omega) (by omega)⟩, pr1379, pr1380⟩)
  exact wp_fg (le_s (le_s (le_s (le_s le_0)))) (c4_1415 _ M0 0 0 x9_3 x9_2 x6_4 x6_5 rfl hP0 hF0 ex9_3 ex9_2 ex6_4 ex6_5 ex9_1 ex6_3 ex7_2 ex7_3 ex7_5 ex7_6 (by first | with_reducible assumption | omega) (by first | with_reducible assumption | omega) (by first | with_reducible assumption | omega) (by first | with_reducible assumption | omega) (by first | with_reducible assumption | omega) (by first | with_reducible assumption | omega) (by first | with_reducible assumption | omega) (by first | with_reducible assumption | omega) (by first | with_reducible assumption | omega) (by first | with_reducible assumption | omega) (by first | with_reducible assumption | omega) (by first | with_reducible assumption | omega) pp_TX pp_TC (by first | with_reducible assumption | omega) (by first | with_reducible assumption | omega) (by first | with_reducible assumption | omega) (by first | with_reducible assumption | omega) (by first | with_reducible assumption | omega) (by first | with_reducible assumption | omega) (by first | with_reducible assumption | omega) (by first | with_reducible assumption | omega) (by first | with_reducible assumption | omega) (LX_0 (CX_lies xp0) (by omega)))
def fm_m7164_6 : Nat := 4011430734987264
set_option maxHeartbeats 20000000 in
/-- IslandHall$Parser.mayClause -/
theorem m7164_6 {B : eB} (d : Nat) (M0 : Mm) (x9_1 : Int) (x9_3 : Int) (x9_2 : Int) (x6_4 : Int) (x6_5 : Int) (x6_3 : Int) (x7_2 : Int) (x7_3 : Int) (x7_5 : Int) (x7_6 : Int) (T : Int → Int) (i0 : Ig) (hP0 : Pw M0) (ex9_1 : M0 9 1 = x9_1) (lx9_1 : 0 ≤ x9_1) (ux9_1 : x9_1 ≤ 500) (ex9_3 : M0 9 3 = x9_3) (lx9_3 : 0 ≤ x9_3) (ux9_3 : x9_3 ≤ 500) (ex9_2 : M0 9 2 = x9_2) (lx9_2 : 0 ≤ x9_2) (ux9_2 : x9_2 ≤ 500) (ex6_4 : M0 6 4 = x6_4) (lx6_4 : 0 ≤ x6_4) (ux6_4 : x6_4 ≤ 6) (ex6_5 : M0 6 5 = x6_5) (lx6_5 : (-1) ≤ x6_5) (ux6_5 : x6_5 ≤ 500) (ex6_3 : M0 6 3 = x6_3) (lx6_3 : (-1) ≤ x6_3) (ux6_3 : x6_3 ≤ 7) (ex7_2 : M0 7 2 = x7_2) (lx7_2 : (-1) ≤ x7_2) (ux7_2 : x7_2 ≤ 4) (ex7_3 : M0 7 3 = x7_3) (lx7_3 : (-1) ≤ x7_3) (ux7_3 : x7_3 ≤ 6) (ex7_5 : M0 7 5 = x7_5) (lx7_5 : 0 ≤ x7_5) (ux7_5 : x7_5 ≤ 1) (ex7_6 : M0 7 6 = x7_6) (lx7_6 : 0 ≤ x7_6) (ux7_6 : x7_6 ≤ 1) (rp0 : 0 ≤ x9_1 + (-1) * x9_2) (rp1 : 0 ≤ x9_2 + (-1) * x9_3) (rp2 : 0 ≤ x9_1 + (-1) * x9_3) (xp0 : CX T x9_1 x6_3 i0 6 x9_3 (x7_2, x7_3, x7_5, x7_6, nrI (fun k => M0 8 k))) (xp1 : ∀ k : Int, 0 ≤ k → k < 7 → 1 ≤ M0 8 k) (pp_TX : TXP T M0) (pp_TC : TCP T M0) : Ct B (d + 5) 164 [R 6] M0 (qI fun z M => Pw M ∧ Fr fm_m7164_6 M0 M ∧ 0 ≤ z ∧ z ≤ 1 ∧ 0 ≤ M 9 3 + (-1) * x9_3 ∧ 0 ≤ x9_1 + (-1) * (M 9 3) ∧ 0 ≤ x9_1 + (-1) * (M 9 2) ∧ 0 ≤ M 9 2 + (-1) * (M 9 3) ∧ 0 ≤ M 6 4 ∧ 0 ≤ M 6 5 + 1 ∧ (z = 1 → 0 ≤ M 6 4 + (-1) * x6_4) ∧ (z = 1 → 0 ≤ (-1) * (M 6 4) + x6_4) ∧ (z = 1 → 0 ≤ M 6 5 + (-1) * x6_5) ∧ (z = 1 → 0 ≤ (-1) * (M 6 5) + x6_5) ∧ (∀ k : Int, 0 ≤ k → k < 7 → 1 ≤ M 8 k) ∧ ((z = 1 ∧ Ri T x9_1 x6_3 i0 (5, M 9 3, 0, 0, (M 7 2, M 7 3, M 7 5, M 7 6, nrI (fun k => M 8 k)))) ∨ (z = 0 ∧ Ri T x9_1 x6_3 i0 (fI (M 6 5) (M 6 4)))) ∧ (TXP T M) ∧ (TCP T M)) := by
  refine ct_of (d := d + 4) (k := 5) (L := [some (R 6), none, none, none, none, none]) rfl rfl rfl ?_
  have hF0 := Fr.rf fm_m7164_6 M0
  generalize hQ : (qI fun z M => Pw M ∧ Fr fm_m7164_6 M0 M ∧ 0 ≤ z ∧ z ≤ 1 ∧ 0 ≤ M 9 3 + (-1) * x9_3 ∧ 0 ≤ x9_1 + (-1) * (M 9 3) ∧ 0 ≤ x9_1 + (-1) * (M 9 2) ∧ 0 ≤ M 9 2 + (-1) * (M 9 3) ∧ 0 ≤ M 6 4 ∧ 0 ≤ M 6 5 + 1 ∧ (z = 1 → 0 ≤ M 6 4 + (-1) * x6_4) ∧ (z = 1 → 0 ≤ (-1) * (M 6 4) + x6_4) ∧ (z = 1 → 0 ≤ M 6 5 + (-1) * x6_5) ∧ (z = 1 → 0 ≤ (-1) * (M 6 5) + x6_5) ∧ (∀ k : Int, 0 ≤ k → k < 7 → 1 ≤ M 8 k) ∧ ((z = 1 ∧ Ri T x9_1 x6_3 i0 (5, M 9 3, 0, 0, (M 7 2, M 7 3, M 7 5, M 7 6, nrI (fun k => M 8 k)))) ∨ (z = 0 ∧ Ri T x9_1 x6_3 i0 (fI (M 6 5) (M 6 4)))) ∧ (TXP T M) ∧ (TCP T M)) = Q
  obtain ⟨u1, hu2⟩ : ∃ u : Int → Int, ∀ k, M0 8 k = u k := ⟨fun k => M0 8 k, fun k => rfl⟩
  have e8 : nrI (fun k => M0 8 k) = nrI u1 := nr_eq (fun k _ _ => hu2 k)
  rw [e8] at xp0
  have dm0 : ∀ k : Int, 0 ≤ k → k < 7 → 1 ≤ u1 k := fun k a b => by rw [← hu2 k]; exact xp1 k a b
  refine wk_al0 r164_0 (wk_cv1 r164_1 kc_6_165 rfl (m7165_6 _ M0 x9_1 x9_3 x9_2 x6_4 x6_5 x6_3 T hP0 ex9_1 (by first | with_reducible assumption | omega) (by first | with_reducible assumption | omega) ex9_3 (by first | with_reducible assumption | omega) (by first | with_reducible assumption | omega) ex9_2 (by first | with_reducible assumption | omega) (by first | with_reducible assumption | omega) ex6_4 (by first | with_reducible assumption | omega) (by first | with_reducible assumption | omega) ex6_5 (by first | with_reducible assumption | omega) (by first | with_reducible assumption | omega) ex6_3 (by first | with_reducible assumption | omega) (by first | with_reducible assumption | omega) (by omega) (by omega) (by omega) pp_TX pp_TC) (cqI ?_))
  rintro v16 M3 ⟨hP4, hQ5, h17, h18, h7, h8, h9, h10, h11, h12, xh13, pr14, pr15⟩
  have hF6 : Fr fm_m7164_6 M0 M3 := hF0.tr hQ5 rfl
  obtain ⟨v19, e20⟩ : ∃ v, M3 9 3 = v := ⟨_, rfl⟩
  have h21 := (bf_9_3 hP4).1; rw [e20] at h21
  have h22 := (bf_9_3 hP4).2; rw [e20] at h22
  obtain ⟨v23, e24⟩ : ∃ v, M3 9 2 = v := ⟨_, rfl⟩
  have h25 := (bf_9_2 hP4).1; rw [e24] at h25
  have h26 := (bf_9_2 hP4).2; rw [e24] at h26
  obtain ⟨v27, e28⟩ : ∃ v, M3 6 4 = v := ⟨_, rfl⟩
  have h29 := (bf_6_4 hP4).1; rw [e28] at h29
  have h30 := (bf_6_4 hP4).2; rw [e28] at h30
  obtain ⟨v31, e32⟩ : ∃ v, M3 6 5 = v := ⟨_, rfl⟩
  have h33 := (bf_6_5 hP4).1; rw [e32] at h33
  have h34 := (bf_6_5 hP4).2; rw [e32] at h34
  refine wk_is1 r164_4 rfl (wk_il1 r164_5 (wk_c1 r164_6 ?_))
  refine wk_icne r164_7 ⟨by omega, by omega⟩ (by decide) ?_ ?_
  · intro h35
    have r1 : Ri T x9_1 x6_3 i0 (1, v19, 0, v16, (x7_2, x7_3, x7_5, x7_6, nrI u1)) := CX_may xp0 (by omega) (by omega) (by omega)
    refine wk_al0 r164_14 (wk_cv1 r164_15 kc_6_173 rfl (m7173_6 _ M3 x9_1 v19 v23 v27 v31 T hP4 ((hQ5.at g_9_1 rfl).trans ex9_1) (by first | with_reducible assumption | omega) (by first | with_reducible assumption | omega) e20 (by first | with_reducible assumption | omega) (by first | with_reducible assumption | omega) e24 (by first | with_reducible assumption | omega) (by first | with_reducible assumption | omega) e28 (by first | with_reducible assumption | omega) (by first | with_reducible assumption | omega) e32 (by first | with_reducible assumption | omega) (by first | with_reducible assumption | omega) (by omega) (by omega) (by omega) pr14 pr15) (cqI ?_))
    rintro v49 M36 ⟨hP37, hQ38, h50, h51, h40, h41, h42, h43, h44, h45, xh46, pr47, pr48⟩
    have hF39 : Fr fm_m7164_6 M0 M36 := hF6.tr hQ38 rfl
    obtain ⟨v52, e53⟩ : ∃ v, M36 9 3 = v := ⟨_, rfl⟩
    have h54 := (bf_9_3 hP37).1; rw [e53] at h54
    have h55 := (bf_9_3 hP37).2; rw [e53] at h55
    obtain ⟨v56, e57⟩ : ∃ v, M36 9 2 = v := ⟨_, rfl⟩
    have h58 := (bf_9_2 hP37).1; rw [e57] at h58
    have h59 := (bf_9_2 hP37).2; rw [e57] at h59
    obtain ⟨v60, e61⟩ : ∃ v, M36 6 4 = v := ⟨_, rfl⟩
    have h62 := (bf_6_4 hP37).1; rw [e61] at h62
    have h63 := (bf_6_4 hP37).2; rw [e61] at h63
    obtain ⟨v64, e65⟩ : ∃ v, M36 6 5 = v := ⟨_, rfl⟩
    have h66 := (bf_6_5 hP37).1; rw [e65] at h66
    have h67 := (bf_6_5 hP37).2; rw [e65] at h67
    refine wk_is2 r164_18 rfl (wk_il2 r164_19 (wk_c1 r164_20 ?_))
    refine wk_icne r164_21 ⟨by omega, by omega⟩ (by decide) ?_ ?_
    · intro h68
      refine wk_c1 r164_26 (wk_il2 r164_27 (wk_shl1 4 16 r164_28 ⟨by omega, by omega⟩ ⟨pwl_4, by decide⟩ ?_))
      intro v69 h70 h71 h72
      refine wk_is3 r164_29 rfl (wk_c1 r164_30 (wk_is4 r164_31 rfl ?_))
      have c33_894 : ∀ (k894 : Nat) (M775 : Mm) (v769 : Int) (v772 : Int) (v778 : Int) (v782 : Int), (5 - v772).toNat = k894 → Pw M775 → Fr fm_m7164_6 M0 M775 → M775 9 3 = v778 → M775 9 2 = v782 → M775 9 1 = x9_1 → M775 6 3 = x6_3 → M775 7 2 = x7_2 → M775 7 3 = x7_3 → M775 7 5 = x7_5 → M775 7 6 = x7_6 → M775 6 4 = v60 → M775 6 5 = v64 → 1 ≤ v769 → v769 ≤ 31 → 0 ≤ v772 → v772 ≤ 5 → 0 ≤ v778 → v778 ≤ 500 → 0 ≤ v782 → v782 ≤ 500 → (∀ k, M775 8 k = u1 k) → (TXP T M775) → (TCP T M775) → 0 ≤ 1 * v778 + (-1) * x9_3 → 0 ≤ 1 * x9_1 + (-1) * v778 → 0 ≤ 1 * x9_1 + (-1) * v782 → 0 ≤ 1 * v782 + (-1) * v778 → 0 ≤ (-1) * v769 + 31 → 0 ≤ (-1) * v778 + v769 + 499 → 0 ≤ (-1) * v778 + v772 + 500 → 0 ≤ (-1) * v778 + v782 + 0 → 0 ≤ (-1) * v782 + v769 + 499 → 0 ≤ (-1) * v782 + v772 + 500 → 0 ≤ (-1) * v782 + v778 + 500 → (MP T x9_1 x6_3 i0 v778 v769 v16 (x7_2, x7_3, x7_5, x7_6, nrI u1) ∧ bT v769 = v772 + 1) → Wp B (d + 4) 164 33 [some (R 6), some (I v16), none, some (I v769), some (I v772), none] [] M775 Q := by
        refine lp_ind ?_
        intro k894 ih894 M775 v769 v772 v778 v782 hk894 hP776 hF777 e781 e785 e787 e788 e789 e790 e791 e792 e793 e794 h770 h771 h773 h774 h779 h780 h783 h784 hu786 pr795 pr796 h797 h798 h799 h800 h801 h802 h803 h804 h805 h806 h807 ti808
        refine wk_il4 r164_33 (wk_c1 r164_35 ?_)
        refine wk_icge r164_36 ⟨by omega, by omega⟩ (by decide) ?_ ?_
        · intro h809
          refine wk_al0 r164_92 (wk_getfr r164_93 fd_6_1 (br_6_1 hP776) (wk_getfr r164_96 fd_7_0 (br_7_0 hP776) (wk_il1 r164_99 (wk_il3 r164_100 ?_))))
          have dm1 : ∀ k : Int, 0 ≤ k → k < 7 → 1 ≤ M775 8 k := fun k a b => by rw [hu786 k]; exact dm0 k a b
          refine wk_iast r164_101 ar_8 ⟨by omega, by omega⟩ (wk_nw (ga_8 _) rfl hP776 hF777 (ua_8 ⟨by omega, by omega⟩) ?_)
          intro M810 hP811 hF812 e813
          refine wk_c1 r164_102 ?_
          subst hQ; exact wk_zret r164_103 (by decide) (⟨rfl, _, rfl, hP811, hF812, by omega, by omega, by have := (mUp_no e813 e781 (Or.inl (by decide))); omega, by have := (mUp_no e813 e781 (Or.inl (by decide))); omega, by have := (mUp_no e813 e785 (Or.inl (by decide))); omega, by have := (mUp_no e813 e785 (Or.inl (by decide))); have := (mUp_no e813 e781 (Or.inl (by decide))); omega, by have := (mUp_no e813 e793 (Or.inl (by decide))); omega, by have := (mUp_no e813 e794 (Or.inl (by decide))); omega, by have := (mUp_no e813 e793 (Or.inl (by decide))); omega, by have := (mUp_no e813 e793 (Or.inl (by decide))); omega, by have := (mUp_no e813 e794 (Or.inl (by decide))); omega, by have := (mUp_no e813 e794 (Or.inl (by decide))); omega, fun k a b => dm_up e813 dm1 (by omega) k a b, Or.inl ⟨by omega, by rw [(mUp_no e813 e781 (Or.inl (by decide))), (mUp_no e813 e789 (Or.inl (by decide))), (mUp_no e813 e790 (Or.inl (by decide))), (mUp_no e813 e791 (Or.inl (by decide))), (mUp_no e813 e792 (Or.inl (by decide)))]; exact may_end (ti808).1 (by have := kdI_c T x9_1 v778; have := bT_5 v769; have := (ti808).2; omega) (nr_eq (fun k _ _ => hu786 k)) e813 (by omega) (by omega)⟩, (TXP_sm (Sm.up e813 (ga_8 _) rfl) pr795), (TCP_sm (Sm.up e813 (ga_8 _) rfl) pr796)⟩)
        · intro h814
          refine wk_al0 r164_39 (wk_getfr r164_40 fd_6_0 (br_6_0 hP776) (wk_cv1 r164_43 kc_9_240 rfl (m7240_9 _ M775 x9_1 v778 T hP776 e787 (by first | with_reducible assumption | omega) (by first | with_reducible assumption | omega) e781 (by first | with_reducible assumption | omega) (by first | with_reducible assumption | omega) pr795 pr796) (cqI ?_)))
          rintro v820 M815 ⟨hP816, hQ817, h821, h822, xh819⟩
          obtain rfl := Fr.same hQ817
          refine wk_c1 r164_46 ?_
          refine wk_iceq r164_47 ⟨by omega, by omega⟩ (by decide) ?_ ?_
          · intro h823
            refine wk_al0 r164_92 (wk_getfr r164_93 fd_6_1 (br_6_1 hP776) (wk_getfr r164_96 fd_7_0 (br_7_0 hP776) (wk_il1 r164_99 (wk_il3 r164_100 ?_))))
            have dm1 : ∀ k : Int, 0 ≤ k → k < 7 → 1 ≤ M775 8 k := fun k a b => by rw [hu786 k]; exact dm0 k a b
            refine wk_iast r164_101 ar_8 ⟨by omega, by omega⟩ (wk_nw (ga_8 _) rfl hP776 hF777 (ua_8 ⟨by omega, by omega⟩) ?_)
            intro M824 hP825 hF826 e827
            refine wk_c1 r164_102 ?_
            subst hQ; exact wk_zret r164_103 (by decide) (⟨rfl, _, rfl, hP825, hF826, by omega, by omega, by have := (mUp_no e827 e781 (Or.inl (by decide))); omega, by have := (mUp_no e827 e781 (Or.inl (by decide))); omega, by have := (mUp_no e827 e785 (Or.inl (by decide))); omega, by have := (mUp_no e827 e785 (Or.inl (by decide))); have := (mUp_no e827 e781 (Or.inl (by decide))); omega, by have := (mUp_no e827 e793 (Or.inl (by decide))); omega, by have := (mUp_no e827 e794 (Or.inl (by decide))); omega, by have := (mUp_no e827 e793 (Or.inl (by decide))); omega, by have := (mUp_no e827 e793 (Or.inl (by decide))); omega, by have := (mUp_no e827 e794 (Or.inl (by decide))); omega, by have := (mUp_no e827 e794 (Or.inl (by decide))); omega, fun k a b => dm_up e827 dm1 (by omega) k a b, Or.inl ⟨by omega, by rw [(mUp_no e827 e781 (Or.inl (by decide))), (mUp_no e827 e789 (Or.inl (by decide))), (mUp_no e827 e790 (Or.inl (by decide))), (mUp_no e827 e791 (Or.inl (by decide))), (mUp_no e827 e792 (Or.inl (by decide)))]; exact may_end (ti808).1 (by have := kdI_c T x9_1 v778; have := bT_5 v769; have := (ti808).2; omega) (nr_eq (fun k _ _ => hu786 k)) e827 (by omega) (by omega)⟩, (TXP_sm (Sm.up e827 (ga_8 _) rfl) pr795), (TCP_sm (Sm.up e827 (ga_8 _) rfl) pr796)⟩)
          · intro h828
            refine wk_c1 r164_50 (wk_al0 r164_51 (wk_getfr r164_52 fd_6_0 (br_6_0 hP776) (wk_cv1 r164_55 kc_9_240 rfl (m7240_9 _ M775 x9_1 v778 T hP776 e787 (by first | with_reducible assumption | omega) (by first | with_reducible assumption | omega) e781 (by first | with_reducible assumption | omega) (by first | with_reducible assumption | omega) pr795 pr796) (cqI ?_))))
            rintro v834 M829 ⟨hP830, hQ831, h835, h836, xh833⟩
            obtain rfl := Fr.same hQ831
            have h837 : 0 ≤ v834 := by omega
            refine wk_shl1 4 16 r164_58 ⟨by omega, by omega⟩ ⟨pwl_4, by decide⟩ ?_
            intro v838 h839 h840 h841
            refine wk_is5 r164_59 rfl ?_
            have hkc9 := kdI_c T x9_1 v778
            refine wk_il3 r164_61 (wk_il5 r164_62 (wk_iand r164_64 ⟨by omega, by omega⟩ ⟨by omega, by omega⟩ ?_))
            intro v842 h843 h844 h845 h846
            have hand9 := bit_and (t := v769) (k := v834) (b := v838) ⟨by omega, by omega⟩ (by omega) (by omega) h841 h846
            refine wk_ifeq r164_65 ⟨by omega, by omega⟩ ?_ ?_
            · intro h847
              refine wk_il3 r164_74 (wk_il5 r164_75 (wk_ior 5 32 r164_77 (by decide) ⟨by omega, by omega⟩ ⟨by omega, by omega⟩ ?_))
              intro v848 h849 h850 h851 h852 h853
              have hor9 := bit_or (t := v769) (k := v834) (b := v838) ⟨by omega, by omega⟩ (by omega) (by omega) h841 h853 (by omega)
              refine wk_is3 r164_78 rfl (wk_al0 r164_79 (wk_getfr r164_80 fd_6_0 (br_6_0 hP776) (wk_cv1 r164_83 kc_9_241 rfl (m7241_9 _ M775 x9_1 v782 T hP776 e787 (by first | with_reducible assumption | omega) (by first | with_reducible assumption | omega) e785 (by first | with_reducible assumption | omega) (by first | with_reducible assumption | omega) (by omega) pr795) (cqV ?_))))
              rintro M854 ⟨hP855, hQ856, h858, h859, h860, h861, xh862, pr863, pr864⟩
              have hF857 : Fr fm_m7164_6 M0 M854 := hF777.tr hQ856 rfl
              obtain ⟨v865, e866⟩ : ∃ v, M854 9 3 = v := ⟨_, rfl⟩
              have h867 := (bf_9_3 hP855).1; rw [e866] at h867
              have h868 := (bf_9_3 hP855).2; rw [e866] at h868
              obtain ⟨v869, e870⟩ : ∃ v, M854 9 2 = v := ⟨_, rfl⟩
              have h871 := (bf_9_2 hP855).1; rw [e870] at h871
              have h872 := (bf_9_2 hP855).2; rw [e870] at h872
              have hn873 := nx_of pr796 e787 e781 e785 xh862
              refine wk_inc4 r164_86 rfl (wk_goto r164_89 ?_)
              exact wp_fg (le_s (le_s (le_s (le_s (le_s (le_n le_0)))))) (ih894 (5 - (v772 + 1)).toNat (by omega) M854 v848 (v772 + 1) v865 v869 rfl hP855 hF857 e866 e870 ((hQ856.at g_9_1 rfl).trans e787) ((hQ856.at g_6_3 rfl).trans e788) ((hQ856.at g_7_2 rfl).trans e789) ((hQ856.at g_7_3 rfl).trans e790) ((hQ856.at g_7_5 rfl).trans e791) ((hQ856.at g_7_6 rfl).trans e792) ((hQ856.at g_6_4 rfl).trans e793) ((hQ856.at g_6_5 rfl).trans e794) (by first | with_reducible assumption | omega) (by first | with_reducible assumption | omega) (by first | with_reducible assumption | omega) (by first | with_reducible assumption | omega) (by first | with_reducible assumption | omega) (by first | with_reducible assumption | omega) (by first | with_reducible assumption | omega) (by first | with_reducible assumption | omega) (fun k => (hQ856.at (ga_8 k) rfl).trans (hu786 k)) pr863 pr864 (by first | with_reducible assumption | omega) (by first | with_reducible assumption | omega) (by first | with_reducible assumption | omega) (by first | with_reducible assumption | omega) (by first | with_reducible assumption | omega) (by first | with_reducible assumption | omega) (by first | with_reducible assumption | omega) (by first | with_reducible assumption | omega) (by first | with_reducible assumption | omega) (by first | with_reducible assumption | omega) (by first | with_reducible assumption | omega) (⟨MP_m (ti808).1 (by omega) (by rw [show kdI T x9_1 v778 = v834 by omega]; omega) (by omega) (by rw [show kdI T x9_1 v778 = v834 by omega]; omega), by rw [hor9.1, bT_add ⟨by omega, by omega⟩ (by omega) (by omega) (by omega)]; have := (ti808).2; omega⟩))
            · intro h874
              refine wk_al0 r164_68 (wk_c1 r164_69 (wk_cv2 r164_70 kc_6_159 rfl (m7159_6 _ M775 5 v778 hP776 (by decide) (by decide) e781 (by first | with_reducible assumption | omega) (by first | with_reducible assumption | omega)) (cqI ?_)))
              rintro v883 M875 ⟨hP876, hQ877, h884, h885, h879, h880, h881, h882⟩
              have hF878 : Fr fm_m7164_6 M0 M875 := hF777.tr hQ877 rfl
              obtain ⟨v886, e887⟩ : ∃ v, M875 6 4 = v := ⟨_, rfl⟩
              have h888 := (bf_6_4 hP876).1; rw [e887] at h888
              have h889 := (bf_6_4 hP876).2; rw [e887] at h889
              obtain ⟨v890, e891⟩ : ∃ v, M875 6 5 = v := ⟨_, rfl⟩
              have h892 := (bf_6_5 hP876).1; rw [e891] at h892
              have h893 := (bf_6_5 hP876).2; rw [e891] at h893
              subst hQ; exact wk_zret r164_73 ⟨by omega, by omega⟩ (⟨rfl, _, rfl, hP876, hF878, by omega, by omega, by have := ((hQ877.at g_9_3 rfl).trans e781); omega, by have := ((hQ877.at g_9_3 rfl).trans e781); omega, by have := ((hQ877.at g_9_2 rfl).trans e785); omega, by have := ((hQ877.at g_9_2 rfl).trans e785); have := ((hQ877.at g_9_3 rfl).trans e781); omega, by have := e887; omega, by have := e891; omega, by omega, by omega, by omega, by omega, fun k a b => by rw [(fun k => (hQ877.at (ga_8 k) rfl).trans (hu786 k)) k]; exact dm0 k a b, Or.inr ⟨by omega, by rw [e891, e887]; exact m_5 (MP_n (ti808).1 (by omega)) (by omega) (by rw [show kdI T x9_1 v778 = v834 by omega]; omega) (by omega) (by omega)⟩, (TXP_sm (Sm.fr hQ877 rfl) pr795), (TCP_sm (Sm.fr hQ877 rfl) pr796)⟩)
      exact wp_fg (le_s (le_s (le_n (le_s (le_s (le_s le_0)))))) (c33_894 _ M36 v69 0 v52 v56 rfl hP37 hF39 e53 e57 ((hQ38.at g_9_1 rfl).trans ((hQ5.at g_9_1 rfl).trans ex9_1)) ((hQ38.at g_6_3 rfl).trans ((hQ5.at g_6_3 rfl).trans ex6_3)) ((hQ38.at g_7_2 rfl).trans ((hQ5.at g_7_2 rfl).trans ex7_2)) ((hQ38.at g_7_3 rfl).trans ((hQ5.at g_7_3 rfl).trans ex7_3)) ((hQ38.at g_7_5 rfl).trans ((hQ5.at g_7_5 rfl).trans ex7_5)) ((hQ38.at g_7_6 rfl).trans ((hQ5.at g_7_6 rfl).trans ex7_6)) e61 e65 (by first | with_reducible assumption | omega) (by first | with_reducible assumption | omega) (by first | with_reducible assumption | omega) (by first | with_reducible assumption | omega) (by first | with_reducible assumption | omega) (by first | with_reducible assumption | omega) (by first | with_reducible assumption | omega) (by first | with_reducible assumption | omega) (fun k => (hQ38.at (ga_8 k) rfl).trans ((fun k => (hQ5.at (ga_8 k) rfl).trans (hu2 k)) k)) pr47 pr48 (by first | with_reducible assumption | omega) (by first | with_reducible assumption | omega) (by first | with_reducible assumption | omega) (by first | with_reducible assumption | omega) (by first | with_reducible assumption | omega) (by first | with_reducible assumption | omega) (by first | with_reducible assumption | omega) (by first | with_reducible assumption | omega) (by first | with_reducible assumption | omega) (by first | with_reducible assumption | omega) (by first | with_reducible assumption | omega) (⟨MP_0 r1 (by omega) (by omega) (by have := h72; have := kdI_c T x9_1 v19; rw [show kdI T x9_1 v19 = v49 by omega]; omega), by have q8 := h72; rw [q8]; exact bT_pw (by omega) (by omega)⟩))
    · intro h895
      refine wk_c1 r164_24 ?_
      subst hQ; exact wk_zret r164_25 (by decide) (⟨rfl, _, rfl, hP37, hF39, by omega, by omega, by have := e53; omega, by have := e53; omega, by have := e57; omega, by have := e57; have := e53; omega, by have := e61; omega, by have := e65; omega, by omega, by omega, by omega, by omega, fun k a b => by rw [(fun k => (hQ38.at (ga_8 k) rfl).trans ((fun k => (hQ5.at (ga_8 k) rfl).trans (hu2 k)) k)) k]; exact dm0 k a b, Or.inr ⟨by omega, by rw [e65, e61]; exact m_k r1 (by omega) (by omega) (by omega)⟩, pr47, pr48⟩)
  · intro h896
    refine wk_c1 r164_10 (wk_goto r164_11 (wk_is2 r164_18 rfl (wk_il2 r164_19 (wk_c1 r164_20 ?_))))
    refine wk_icne r164_21 (by decide) (by decide) ?_ ?_
    · intro h897
      exfalso
      omega
    · intro h898
      refine wk_c1 r164_24 ?_
      subst hQ; exact wk_zret r164_25 (by decide) (⟨rfl, _, rfl, hP4, hF6, by omega, by omega, by have := e20; omega, by have := e20; omega, by have := e24; omega, by have := e24; have := e20; omega, by have := e28; omega, by have := e32; omega, by omega, by omega, by omega, by omega, fun k a b => by rw [(fun k => (hQ5.at (ga_8 k) rfl).trans (hu2 k)) k]; exact dm0 k a b, Or.inr ⟨by omega, by rw [e32, e28]; exact CX_mayn xp0 (by omega) (by omega) (by omega)⟩, pr14, pr15⟩)
