
def fm_n7015_0 : Nat := 0
/-- IslandHall.count -/
theorem n7015_0 {B : eB} (d : Nat) (M0 : Mm) (p1 : Int) (x2_1 : Int) (x2_2 : Int) (x0_9 : Int) (x138_5 : Int) (x0_11 : Int) (x0_1 : Int) (x2_4 : Int) (x0_13 : Int) (hP0 : Pw M0) (l1 : (-2147483648) ≤ p1) (u1 : p1 ≤ 2147483647) (ex2_1 : M0 2 1 = x2_1) (lx2_1 : (-1) ≤ x2_1) (ux2_1 : x2_1 ≤ 7) (ex2_2 : M0 2 2 = x2_2) (lx2_2 : (-1) ≤ x2_2) (ux2_2 : x2_2 ≤ 4) (ex0_9 : M0 0 9 = x0_9) (lx0_9 : 0 ≤ x0_9) (ux0_9 : x0_9 ≤ 30) (ex138_5 : M0 138 5 = x138_5) (lx138_5 : 0 ≤ x138_5) (ux138_5 : x138_5 ≤ 12) (ex0_11 : M0 0 11 = x0_11) (lx0_11 : 0 ≤ x0_11) (ux0_11 : x0_11 ≤ 10) (ex0_1 : M0 0 1 = x0_1) (lx0_1 : 0 ≤ x0_1) (ux0_1 : x0_1 ≤ 500) (ex2_4 : M0 2 4 = x2_4) (lx2_4 : 0 ≤ x2_4) (ux2_4 : x2_4 ≤ 127) (ex0_13 : M0 0 13 = x0_13) (lx0_13 : (-1) ≤ x0_13) (ux0_13 : x0_13 ≤ 2999) : Ct B (d + 1) 15 [R 0, I p1] M0 (qX 0 (fun M => Pw M ∧ Fr (fm_n7015_0 ||| 1) M0 M ∧ M (-1) 0 = M0 (-1) 0 + 1 ∧ (p1 < 0 ∨ 7 < p1) ∧ (∀ a i : Int, 0 ≤ a → M a i = M0 a i)) (qI fun z M => Pw M ∧ Fr fm_n7015_0 M0 M ∧ (-1) ≤ z ∧ z ≤ 500 ∧ ((p1 = 0 ∧ z = x2_1) ∨ (p1 = 1 ∧ z = x2_2) ∨ (p1 = 2 ∧ z = x0_9) ∨ (p1 = 3 ∧ z = x138_5) ∨ (p1 = 4 ∧ z = x0_11) ∨ (p1 = 5 ∧ z = x0_1) ∨ (p1 = 6 ∧ z = x2_4) ∨ (p1 = 7 ∧ ((x0_13 = -1 ∧ z = 0) ∨ (x0_13 ≠ -1 ∧ z = 1)))))) := by
  refine ct_of (d := d + 0) (k := 0) (L := [some (R 0), some (I p1)]) rfl rfl rfl ?_
  have hF0 := Fr.rf fm_n7015_0 M0
  generalize hQ : (qX 0 (fun M => Pw M ∧ Fr (fm_n7015_0 ||| 1) M0 M ∧ M (-1) 0 = M0 (-1) 0 + 1 ∧ (p1 < 0 ∨ 7 < p1) ∧ (∀ a i : Int, 0 ≤ a → M a i = M0 a i)) (qI fun z M => Pw M ∧ Fr fm_n7015_0 M0 M ∧ (-1) ≤ z ∧ z ≤ 500 ∧ ((p1 = 0 ∧ z = x2_1) ∨ (p1 = 1 ∧ z = x2_2) ∨ (p1 = 2 ∧ z = x0_9) ∨ (p1 = 3 ∧ z = x138_5) ∨ (p1 = 4 ∧ z = x0_11) ∨ (p1 = 5 ∧ z = x0_1) ∨ (p1 = 6 ∧ z = x2_4) ∨ (p1 = 7 ∧ ((x0_13 = -1 ∧ z = 0) ∨ (x0_13 ≠ -1 ∧ z = 1)))))) = Q
  refine wk_il1 r15_0 ?_
  refine wk_sw2 r15_1 ⟨by omega, by omega⟩ ?_ ?_ ?_ ?_ ?_ ?_ ?_ ?_ ?_
  · intro h1
    subst hQ; exact wk_thr105 r15_109 rfl (Or.inl ⟨rfl, hP0.thr, (Fr.thr hF0), (by rw [mUp_eq, hF0.at g_below rfl]), by omega, fun a i q => by rw [mUp_ne (Or.inl (by omega))]⟩)
  · intro h2
    refine wk_al0 r15_48 (wk_getfr r15_49 fd_0_2 (br_0_2 hP0) (wk_getfi r15_52 fd_2_1 ex2_1 ?_))
    subst hQ; exact wk_iret r15_55 (Or.inr ⟨rfl, _, rfl, hP0, hF0, by omega, by omega, by omega⟩)
  · intro h3
    refine wk_al0 r15_56 (wk_getfr r15_57 fd_0_2 (br_0_2 hP0) (wk_getfi r15_60 fd_2_2 ex2_2 ?_))
    subst hQ; exact wk_iret r15_63 (Or.inr ⟨rfl, _, rfl, hP0, hF0, by omega, by omega, by omega⟩)
  · intro h4
    refine wk_al0 r15_64 (wk_getfi r15_65 fd_0_9 ex0_9 ?_)
    subst hQ; exact wk_iret r15_68 (Or.inr ⟨rfl, _, rfl, hP0, hF0, by omega, by omega, by omega⟩)
  · intro h5
    refine wk_al0 r15_69 (wk_getfr r15_70 fd_0_7 (br_0_7 hP0) (wk_getfi r15_73 fd_138_5 ex138_5 ?_))
    subst hQ; exact wk_iret r15_76 (Or.inr ⟨rfl, _, rfl, hP0, hF0, by omega, by omega, by omega⟩)
  · intro h6
    refine wk_al0 r15_77 (wk_getfi r15_78 fd_0_11 ex0_11 ?_)
    subst hQ; exact wk_iret r15_81 (Or.inr ⟨rfl, _, rfl, hP0, hF0, by omega, by omega, by omega⟩)
  · intro h7
    refine wk_al0 r15_82 (wk_getfi r15_83 fd_0_1 ex0_1 ?_)
    subst hQ; exact wk_iret r15_86 (Or.inr ⟨rfl, _, rfl, hP0, hF0, by omega, by omega, by omega⟩)
  · intro h8
    refine wk_al0 r15_87 (wk_getfr r15_88 fd_0_2 (br_0_2 hP0) (wk_getfi r15_91 fd_2_4 ex2_4 ?_))
    subst hQ; exact wk_iret r15_94 (Or.inr ⟨rfl, _, rfl, hP0, hF0, by omega, by omega, by omega⟩)
  · intro h9
    refine wk_al0 r15_95 (wk_getfi r15_96 fd_0_13 ex0_13 (wk_c1 r15_99 ?_))
    refine wk_icne r15_100 ⟨by omega, by omega⟩ (by decide) ?_ ?_
    · intro h10
      refine wk_c1 r15_107 ?_
      subst hQ; exact wk_iret r15_108 (Or.inr ⟨rfl, _, rfl, hP0, hF0, by omega, by omega, by omega⟩)
    · intro h11
      refine wk_c1 r15_103 (wk_goto r15_104 ?_)
      subst hQ; exact wk_iret r15_108 (Or.inr ⟨rfl, _, rfl, hP0, hF0, by omega, by omega, by omega⟩)
