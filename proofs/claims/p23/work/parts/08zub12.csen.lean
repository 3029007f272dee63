
def fm_n7040_0 : Nat := 4
/-- IslandHall.takeTape -/
theorem n7040_0 {B : eB} (d : Nat) (M0 : Mm) (p1 : Int) (x0_1 : Int) (hP0 : Pw M0) (l1 : (-2147483648) ≤ p1) (u1 : p1 ≤ 2147483647) (ex0_1 : M0 0 1 = x0_1) (lx0_1 : 0 ≤ x0_1) (ux0_1 : x0_1 ≤ 500) : Ct B (d + 1) 40 [R 0, I p1] M0 (qX 1 (fun M => Pw M ∧ Fr (fm_n7040_0 ||| 1) M0 M ∧ M (-1) 0 = M0 (-1) 0 + 1 ∧ (M 0 1 = x0_1 ∧ (p1 < 0 ∨ x0_1 < p1) ∧ M 0 9 = M0 0 9 ∧ M 0 5 = M0 0 5 ∧ M 2 1 = M0 2 1 ∧ M 0 11 = M0 0 11) ∧ (∀ a i : Int, 0 ≤ a → M a i = M0 a i)) (qV fun M => Pw M ∧ Fr fm_n7040_0 M0 M ∧ 0 ≤ p1 ∧ 0 ≤ x0_1 + (-1) * p1 ∧ 0 ≤ (-1) * (M 0 1))) := by
  refine ct_of (d := d + 0) (k := 0) (L := [some (R 0), some (I p1)]) rfl rfl rfl ?_
  have hF0 := Fr.rf fm_n7040_0 M0
  generalize hQ : (qX 1 (fun M => Pw M ∧ Fr (fm_n7040_0 ||| 1) M0 M ∧ M (-1) 0 = M0 (-1) 0 + 1 ∧ (M 0 1 = x0_1 ∧ (p1 < 0 ∨ x0_1 < p1) ∧ M 0 9 = M0 0 9 ∧ M 0 5 = M0 0 5 ∧ M 2 1 = M0 2 1 ∧ M 0 11 = M0 0 11) ∧ (∀ a i : Int, 0 ≤ a → M a i = M0 a i)) (qV fun M => Pw M ∧ Fr fm_n7040_0 M0 M ∧ 0 ≤ p1 ∧ 0 ≤ x0_1 + (-1) * p1 ∧ 0 ≤ (-1) * (M 0 1))) = Q
  refine wk_il1 r40_0 ?_
  refine wk_iflt r40_1 ⟨by omega, by omega⟩ ?_ ?_
  · intro h1
    subst hQ; exact wk_thr105 r40_12 rfl (Or.inl ⟨rfl, hP0.thr, (Fr.thr hF0), (by rw [mUp_eq, hF0.at g_below rfl]), ⟨by rw [mUp_ne (Or.inl (by decide))]; exact ex0_1, by omega, by rw [mUp_ne (Or.inl (by decide))], by rw [mUp_ne (Or.inl (by decide))], by rw [mUp_ne (Or.inl (by decide))], by rw [mUp_ne (Or.inl (by decide))]⟩, fun a i q => by rw [mUp_ne (Or.inl (by omega))]⟩)
  · intro h2
    refine wk_il1 r40_4 (wk_al0 r40_5 (wk_getfi r40_6 fd_0_1 ex0_1 ?_))
    refine wk_icle r40_9 ⟨by omega, by omega⟩ ⟨by omega, by omega⟩ ?_ ?_
    · intro h3
      refine wk_al0 r40_22 (wk_c1 r40_23 (wk_putfi81 r40_24 fd_0_1 (wk_nw g_0_1 rfl hP0 hF0 (uf_0_1 (by decide)) ?_)))
      intro M4 hP5 hF6 e7
      subst hQ; exact wk_ret r40_27 (Or.inr ⟨rfl, hP5, hF6, by omega, by omega, by have := (mUp_at e7); omega⟩)
    · intro h8
      subst hQ; exact wk_thr105 r40_12 rfl (Or.inl ⟨rfl, hP0.thr, (Fr.thr hF0), (by rw [mUp_eq, hF0.at g_below rfl]), ⟨by rw [mUp_ne (Or.inl (by decide))]; exact ex0_1, by omega, by rw [mUp_ne (Or.inl (by decide))], by rw [mUp_ne (Or.inl (by decide))], by rw [mUp_ne (Or.inl (by decide))], by rw [mUp_ne (Or.inl (by decide))]⟩, fun a i q => by rw [mUp_ne (Or.inl (by omega))]⟩)
def fm_n7039_0 : Nat := 4222648099800132
/-- IslandHall.sentence -/
theorem n7039_0 {B : eB} (d : Nat) (M0 : Mm) (p1 : Int) (x0_1 : Int) (x0_9 : Int) (x0_5 : Int) (x2_1 : Int) (T : Int → Int) (hP0 : Pw M0) (l1 : (-2147483648) ≤ p1) (u1 : p1 ≤ 2147483647) (ex0_1 : M0 0 1 = x0_1) (lx0_1 : 0 ≤ x0_1) (ux0_1 : x0_1 ≤ 500) (ex0_9 : M0 0 9 = x0_9) (lx0_9 : 0 ≤ x0_9) (ux0_9 : x0_9 ≤ 30) (ex0_5 : M0 0 5 = x0_5) (lx0_5 : (-1) ≤ x0_5) (ux0_5 : x0_5 ≤ 500) (ex2_1 : M0 2 1 = x2_1) (lx2_1 : 0 ≤ x2_1) (ux2_1 : x2_1 ≤ 7) (xp0 : ∀ k : Int, 0 ≤ k → k < x0_1 → (0 ≤ M0 1 k → T k = M0 1 k) ∧ (M0 1 k < 0 → -128 ≤ M0 1 k ∧ T k = M0 1 k + 256)) : Ct B (d + 64) 39 [R 0, I p1] M0 (qX 1 (fun M => Pw M ∧ Fr (fm_n7039_0 ||| 1) M0 M ∧ M (-1) 0 = M0 (-1) 0 + 1 ∧ (M 0 1 = x0_1 ∧ (p1 < 0 ∨ x0_1 < p1) ∧ M 0 9 = M0 0 9 ∧ M 0 5 = M0 0 5 ∧ M 2 1 = M0 2 1 ∧ M 0 11 = M0 0 11) ∧ (∀ a i : Int, 0 ≤ a → M a i = M0 a i)) (qI fun z M => Pw M ∧ Fr fm_n7039_0 M0 M ∧ (-9) ≤ z ∧ z ≤ 29 ∧ 0 ≤ p1 ∧ 0 ≤ x0_1 + (-1) * p1 ∧ 0 ≤ (-1) * (M 0 1) ∧ (SNR T p1 x0_1 x0_9 x2_1 x0_5 0 z (M 0 9) (M 0 5)) ∧ ((0 ≤ z → z = x0_9 ∧ CDX T p1 x2_1 (CL M (679 + 2 * x0_9))) ∧ ∀ s : Int, 0 ≤ s → s < x0_9 → CL M (679 + 2 * s) = CL M0 (679 + 2 * s)))) := by
  refine ct_of (d := d + 63) (k := 1) (L := [some (R 0), some (I p1), none]) rfl rfl rfl ?_
  have hF0 := Fr.rf fm_n7039_0 M0
  generalize hQ : (qX 1 (fun M => Pw M ∧ Fr (fm_n7039_0 ||| 1) M0 M ∧ M (-1) 0 = M0 (-1) 0 + 1 ∧ (M 0 1 = x0_1 ∧ (p1 < 0 ∨ x0_1 < p1) ∧ M 0 9 = M0 0 9 ∧ M 0 5 = M0 0 5 ∧ M 2 1 = M0 2 1 ∧ M 0 11 = M0 0 11) ∧ (∀ a i : Int, 0 ≤ a → M a i = M0 a i)) (qI fun z M => Pw M ∧ Fr fm_n7039_0 M0 M ∧ (-9) ≤ z ∧ z ≤ 29 ∧ 0 ≤ p1 ∧ 0 ≤ x0_1 + (-1) * p1 ∧ 0 ≤ (-1) * (M 0 1) ∧ (SNR T p1 x0_1 x0_9 x2_1 x0_5 0 z (M 0 9) (M 0 5)) ∧ ((0 ≤ z → z = x0_9 ∧ CDX T p1 x2_1 (CL M (679 + 2 * x0_9))) ∧ ∀ s : Int, 0 ≤ s → s < x0_9 → CL M (679 + 2 * s) = CL M0 (679 + 2 * s)))) = Q
  refine wk_al0 r39_0 (wk_il1 r39_1 (wk_cv2 r39_2 kc_0_40 rfl (n7040_0 _ M0 p1 x0_1 hP0 (by first | with_reducible assumption | omega) (by first | with_reducible assumption | omega) ex0_1 (by first | with_reducible assumption | omega) (by first | with_reducible assumption | omega)) (cqX (fun _ _ x5 => by subst hQ; exact Or.inl ⟨rfl, x5.1, Fr.trx hF0 x5.2.1 rfl, (by rw [x5.2.2.1, hF0.at g_below rfl]), x5.2.2.2.1, x5.2.2.2.2⟩) (cqV ?_))))
  rintro M1 ⟨hP2, hQ3, h8, h9, h10⟩
  have hF4 : Fr fm_n7039_0 M0 M1 := hF0.tr hQ3 rfl
  obtain ⟨v11, e12⟩ : ∃ v, M1 0 1 = v := ⟨_, rfl⟩
  have h13 := (bf_0_1 hP2).1; rw [e12] at h13
  have h14 := (bf_0_1 hP2).2; rw [e12] at h14
  refine wk_al0 r39_5 (wk_getfi r39_6 fd_0_9 ((hQ3.at g_0_9 rfl).trans ex0_9) (wk_c2 r39_9 ?_))
  refine wk_iclt r39_11 ⟨by omega, by omega⟩ (by decide) ?_ ?_
  · intro h15
    refine wk_al0 r39_22 (wk_getfr r39_23 fd_0_4 (br_0_4 hP2) (wk_il1 r39_26 (wk_al0 r39_27 (wk_getfr r39_28 fd_0_2 (br_0_2 hP2) (wk_getfi r39_31 fd_2_1 ((hQ3.at g_2_1 rfl).trans ex2_1) (wk_al0 r39_34 (wk_getfr r39_35 fd_0_8 (br_0_8 hP2) (wk_al0 r39_38 (wk_getfi r39_39 fd_0_9 ((hQ3.at g_0_9 rfl).trans ex0_9) (wk_caldb r39_42 ar_168 ⟨by omega, by omega⟩ (fun q0 q1 => ba_168 hP2 q0 q1) ?_))))))))))
    intro v16 e17
    have hC18 : isC v16 := Or.inr (by omega)
    refine wk_cv4 r39_43 kc_6_170 rfl (n7170_6 _ M1 p1 x2_1 v16 T hP2 (by first | with_reducible assumption | omega) (by first | with_reducible assumption | omega) (by first | with_reducible assumption | omega) (by first | with_reducible assumption | omega) hC18 (fun k a b => by rw [hF4.at (ga_1 k) rfl]; exact xp0 k a (by omega))) (cqI ?_)
    rintro v26 M19 ⟨hP20, hQ21, h27, h28, xh23, xh24, xh25⟩
    have hF22 : Fr fm_n7039_0 M0 M19 := hF4.tr hQ21 rfl
    refine wk_is2 r39_46 rfl (wk_al0 r39_47 (wk_al0 r39_48 (wk_getfr r39_49 fd_0_4 (br_0_4 hP20) (wk_getfb r39_52 fd_6_5 (bf_6_5 hP20) ?_))))
    intro v29 h31 h32 e30
    have hpl9 : M19 6 5 = v29 := e30
    refine wk_putfi81 r39_55 fd_0_5 (wk_nw g_0_5 rfl hP20 hF22 (uf_0_5 ⟨by omega, by omega⟩) ?_)
    intro M33 hP34 hF35 e36
    refine wk_il2 r39_58 ?_
    refine wk_ifeq r39_59 ⟨by omega, by omega⟩ ?_ ?_
    · intro h37
      refine wk_al0 r39_66 (wk_dupr r39_67 (wk_getfi r39_68 fd_0_9 (mUp_no e36 ((hQ21.at g_0_9 rfl).trans ((hQ3.at g_0_9 rfl).trans ex0_9)) (Or.inr (by decide))) (wk_c1 r39_71 (wk_iadd r39_72 (wk_putfi81 r39_73 fd_0_9 (wk_nw g_0_9 rfl hP34 hF35 (uf_0_9 ⟨by omega, by omega⟩) ?_))))))
      intro M38 hP39 hF40 e41
      refine wk_al0 r39_76 (wk_getfi r39_77 fd_0_9 (mUp_at e41) (wk_c1 r39_80 (wk_isub r39_81 ?_)))
      subst hQ; exact wk_iret r39_82 (Or.inr ⟨rfl, _, rfl, hP39, hF40, by omega, by omega, by omega, by omega, by have := (mUp_no e41 (mUp_no e36 ((hQ21.at g_0_1 rfl).trans e12) (Or.inr (by decide))) (Or.inr (by decide))); omega, by rw [(mUp_at e41), (mUp_no e41 (mUp_at e36) (Or.inr (by decide)))]; exact SNR_r (r := v26) (by have q8 := xh23; rw [hpl9] at q8; exact q8) (by omega), ⟨fun q => ⟨by omega, by have q9 := xh24 (by omega); rw [show CL M38 (679 + 2 * x0_9) = CL M19 (679 + 2 * x0_9) from CL_cg (by rw [e41, mUp_ne (Or.inl (by omega)), e36, mUp_ne (Or.inl (by omega))]) (fun k => by rw [e41, mUp_ne (Or.inl (by omega)), e36, mUp_ne (Or.inl (by omega))]), show (679 : Int) + 2 * x0_9 = v16 by omega]; exact q9⟩, fun s a b => by have hc : isC (679 + 2 * s) := Or.inr (by omega); exact (CL_cg (by rw [e41, mUp_ne (Or.inl (by omega)), e36, mUp_ne (Or.inl (by omega))]) (fun k => by rw [e41, mUp_ne (Or.inl (by omega)), e36, mUp_ne (Or.inl (by omega))])).trans ((xh25 _ hc (by omega)).trans (CL_cg (hQ3.at (g_c1 hc) rfl) (fun k => hQ3.at (g_cs hc k) rfl)))⟩⟩)
    · intro h42
      refine wk_c1 r39_62 (wk_il2 r39_63 (wk_isub r39_64 ?_))
      subst hQ; exact wk_iret r39_65 (Or.inr ⟨rfl, _, rfl, hP34, hF35, by omega, by omega, by omega, by omega, by have := (mUp_no e36 ((hQ21.at g_0_1 rfl).trans e12) (Or.inr (by decide))); omega, by rw [(mUp_no e36 ((hQ21.at g_0_9 rfl).trans ((hQ3.at g_0_9 rfl).trans ex0_9)) (Or.inr (by decide))), (mUp_at e36)]; exact SNR_r (r := v26) (by have q8 := xh23; rw [hpl9] at q8; exact q8) (by omega), ⟨fun q => by omega, fun s a b => by have hc : isC (679 + 2 * s) := Or.inr (by omega); exact (CL_cg (by rw [e36, mUp_ne (Or.inl (by omega))]) (fun k => by rw [e36, mUp_ne (Or.inl (by omega))])).trans ((xh25 _ hc (by omega)).trans (CL_cg (hQ3.at (g_c1 hc) rfl) (fun k => hQ3.at (g_cs hc k) rfl)))⟩⟩)
  · intro h43
    refine wk_al0 r39_14 (wk_c1 r39_15 (wk_putfi81 r39_16 fd_0_5 (wk_nw g_0_5 rfl hP2 hF4 (uf_0_5 (by decide)) ?_)))
    intro M44 hP45 hF46 e47
    refine wk_c2 r39_19 ?_
    subst hQ; exact wk_iret r39_21 (Or.inr ⟨rfl, _, rfl, hP45, hF46, by omega, by omega, by omega, by omega, by have := (mUp_no e47 e12 (Or.inr (by decide))); omega, by rw [(mUp_no e47 ((hQ3.at g_0_9 rfl).trans ex0_9) (Or.inr (by decide))), (mUp_at e47)]; exact SNR_9 (by omega), ⟨fun q => by omega, fun s a b => by have hc : isC (679 + 2 * s) := Or.inr (by omega); exact (CL_cg (by rw [e47, mUp_ne (Or.inl (by omega))]) (fun k => by rw [e47, mUp_ne (Or.inl (by omega))])).trans (CL_cg (hQ3.at (g_c1 hc) rfl) (fun k => hQ3.at (g_cs hc k) rfl))⟩⟩)
