
def fm_n8084_739 : Nat := 0
/-- IslandHallModel.isGood -/
theorem n8084_739 {B : eB} (d : Nat) (M0 : Mm) (x739_28 : Int) (hP0 : Pw M0) (ex739_28 : M0 739 28 = x739_28) (lx739_28 : 0 ≤ x739_28) (ux739_28 : x739_28 ≤ 6) : Ct B (d + 1) 84 [R 739] M0 (qI fun z M => Pw M ∧ Fr fm_n8084_739 M0 M ∧ 0 ≤ z ∧ z ≤ 1 ∧ 0 ≤ 6 + (-6) * z + (-1) * (M 739 28) ∧ 0 ≤ z + M 739 28 + (-1)) := by
  refine ct_of (d := d + 0) (k := 0) (L := [some (R 739)]) rfl rfl rfl ?_
  have hF0 := Fr.rf fm_n8084_739 M0
  generalize hQ : (qI fun z M => Pw M ∧ Fr fm_n8084_739 M0 M ∧ 0 ≤ z ∧ z ≤ 1 ∧ 0 ≤ 6 + (-6) * z + (-1) * (M 739 28) ∧ 0 ≤ z + M 739 28 + (-1)) = Q
  refine wk_al0 r84_0 (wk_getfi r84_1 fd_739_28 ex739_28 ?_)
  refine wk_ifne r84_4 ⟨by omega, by omega⟩ ?_ ?_
  · intro h1
    refine wk_c1 r84_11 ?_
    subst hQ; exact wk_zret r84_12 (by decide) (⟨rfl, _, rfl, hP0, hF0, by omega, by omega, by have := ex739_28; omega, by have := ex739_28; omega⟩)
  · intro h2
    refine wk_c1 r84_7 (wk_goto r84_8 ?_)
    subst hQ; exact wk_zret r84_12 (by decide) (⟨rfl, _, rfl, hP0, hF0, by omega, by omega, by have := ex739_28; omega, by have := ex739_28; omega⟩)
def fm_n8129 : Nat := 0
/-- IslandHallModel.spelled -/
theorem n8129 {B : eB} (d : Nat) (M0 : Mm) (p0 : Int) (p1 : Int) (p2 : Int) (p3 : Int) (p4 : Int) (p5 : Int) (hP0 : Pw M0) (l0 : 104 ≤ p0) (u0 : p0 ≤ 104) (l1 : 111 ≤ p1) (u1 : p1 ≤ 111) (l2 : 110 ≤ p2) (u2 : p2 ≤ 110) (l3 : 101 ≤ p3) (u3 : p3 ≤ 101) (l4 : 115 ≤ p4) (u4 : p4 ≤ 115) (l5 : 116 ≤ p5) (u5 : p5 ≤ 116) : Ct B (d + 1) 129 [I p0, I p1, I p2, I p3, I p4, I p5] M0 (qL fun z M => Pw M ∧ Fr fm_n8129 M0 M ∧ z < 18446744073709551616 ∧ 284628596 ≤ z ∧ z ≤ 284628596) := by
  refine ct_of (d := d + 0) (k := 2) (L := [some (I p0), some (I p1), some (I p2), some (I p3), some (I p4), some (I p5), none, none]) rfl rfl rfl ?_
  have hF0 := Fr.rf fm_n8129 M0
  generalize hQ : (qL fun z M => Pw M ∧ Fr fm_n8129 M0 M ∧ z < 18446744073709551616 ∧ 284628596 ≤ z ∧ z ≤ 284628596) = Q
  refine wk_il0 r129_0 (wk_c2 r129_1 (wk_isub r129_3 (wk_i2lb r129_4 ⟨by omega, by omega⟩ ?_)))
  intro n1 h2 h3
  refine wk_ls6 r129_5 rfl (wk_il1 r129_7 ?_)
  refine wk_ifeq r129_8 ⟨by omega, by omega⟩ ?_ ?_
  · intro h4
    exfalso
    omega
  · intro h5
    refine wk_ll6 r129_11 (wk_c1 r129_13 (wk_lshl5 r129_14 (by omega) ?_))
    intro n6 h7
    refine wk_il1 r129_15 (wk_c2 r129_16 (wk_isub r129_18 (wk_i2lb r129_19 ⟨by omega, by omega⟩ ?_)))
    intro n8 h9 h10
    refine wk_lor5 r129_20 (by omega) (by omega) (by omega) ?_
    intro n11 h12
    refine wk_ls6 r129_21 rfl (wk_il2 r129_23 ?_)
    refine wk_ifeq r129_24 ⟨by omega, by omega⟩ ?_ ?_
    · intro h13
      exfalso
      omega
    · intro h14
      refine wk_ll6 r129_27 (wk_c1 r129_29 (wk_lshl5 r129_30 (by omega) ?_))
      intro n15 h16
      refine wk_il2 r129_31 (wk_c2 r129_32 (wk_isub r129_34 (wk_i2lb r129_35 ⟨by omega, by omega⟩ ?_)))
      intro n17 h18 h19
      refine wk_lor5 r129_36 (by omega) (by omega) (by omega) ?_
      intro n20 h21
      refine wk_ls6 r129_37 rfl (wk_il3 r129_39 ?_)
      refine wk_ifeq r129_40 ⟨by omega, by omega⟩ ?_ ?_
      · intro h22
        exfalso
        omega
      · intro h23
        refine wk_ll6 r129_43 (wk_c1 r129_45 (wk_lshl5 r129_46 (by omega) ?_))
        intro n24 h25
        refine wk_il3 r129_47 (wk_c2 r129_48 (wk_isub r129_50 (wk_i2lb r129_51 ⟨by omega, by omega⟩ ?_)))
        intro n26 h27 h28
        refine wk_lor5 r129_52 (by omega) (by omega) (by omega) ?_
        intro n29 h30
        refine wk_ls6 r129_53 rfl (wk_il4 r129_55 ?_)
        refine wk_ifeq r129_57 ⟨by omega, by omega⟩ ?_ ?_
        · intro h31
          exfalso
          omega
        · intro h32
          refine wk_ll6 r129_60 (wk_c1 r129_62 (wk_lshl5 r129_63 (by omega) ?_))
          intro n33 h34
          refine wk_il4 r129_64 (wk_c2 r129_66 (wk_isub r129_68 (wk_i2lb r129_69 ⟨by omega, by omega⟩ ?_)))
          intro n35 h36 h37
          refine wk_lor5 r129_70 (by omega) (by omega) (by omega) ?_
          intro n38 h39
          refine wk_ls6 r129_71 rfl (wk_il5 r129_73 ?_)
          refine wk_ifeq r129_75 ⟨by omega, by omega⟩ ?_ ?_
          · intro h40
            exfalso
            omega
          · intro h41
            refine wk_ll6 r129_78 (wk_c1 r129_80 (wk_lshl5 r129_81 (by omega) ?_))
            intro n42 h43
            refine wk_il5 r129_82 (wk_c2 r129_84 (wk_isub r129_86 (wk_i2lb r129_87 ⟨by omega, by omega⟩ ?_)))
            intro n44 h45 h46
            refine wk_lor5 r129_88 (by omega) (by omega) (by omega) ?_
            intro n47 h48
            refine wk_ls6 r129_89 rfl (wk_ll6 r129_91 ?_)
            subst hQ; exact wk_lret r129_93 (⟨rfl, _, rfl, hP0, hF0, by omega, by omega, by omega⟩)
def fm_n8129v1 : Nat := 0
/-- IslandHallModel.spelled -/
theorem n8129v1 {B : eB} (d : Nat) (M0 : Mm) (p0 : Int) (p1 : Int) (p2 : Int) (p3 : Int) (p4 : Int) (p5 : Int) (hP0 : Pw M0) (l0 : 108 ≤ p0) (u0 : p0 ≤ 108) (l1 : 105 ≤ p1) (u1 : p1 ≤ 105) (l2 : 97 ≤ p2) (u2 : p2 ≤ 97) (l3 : 114 ≤ p3) (u3 : p3 ≤ 114) (l4 : 0 ≤ p4) (u4 : p4 ≤ 0) (l5 : 0 ≤ p5) (u5 : p5 ≤ 0) : Ct B (d + 1) 129 [I p0, I p1, I p2, I p3, I p4, I p5] M0 (qL fun z M => Pw M ∧ Fr fm_n8129v1 M0 M ∧ z < 18446744073709551616 ∧ 402482 ≤ z ∧ z ≤ 402482) := by
  refine ct_of (d := d + 0) (k := 2) (L := [some (I p0), some (I p1), some (I p2), some (I p3), some (I p4), some (I p5), none, none]) rfl rfl rfl ?_
  have hF0 := Fr.rf fm_n8129v1 M0
  generalize hQ : (qL fun z M => Pw M ∧ Fr fm_n8129v1 M0 M ∧ z < 18446744073709551616 ∧ 402482 ≤ z ∧ z ≤ 402482) = Q
  refine wk_il0 r129_0 (wk_c2 r129_1 (wk_isub r129_3 (wk_i2lb r129_4 ⟨by omega, by omega⟩ ?_)))
  intro n1 h2 h3
  refine wk_ls6 r129_5 rfl (wk_il1 r129_7 ?_)
  refine wk_ifeq r129_8 ⟨by omega, by omega⟩ ?_ ?_
  · intro h4
    exfalso
    omega
  · intro h5
    refine wk_ll6 r129_11 (wk_c1 r129_13 (wk_lshl5 r129_14 (by omega) ?_))
    intro n6 h7
    refine wk_il1 r129_15 (wk_c2 r129_16 (wk_isub r129_18 (wk_i2lb r129_19 ⟨by omega, by omega⟩ ?_)))
    intro n8 h9 h10
    refine wk_lor5 r129_20 (by omega) (by omega) (by omega) ?_
    intro n11 h12
    refine wk_ls6 r129_21 rfl (wk_il2 r129_23 ?_)
    refine wk_ifeq r129_24 ⟨by omega, by omega⟩ ?_ ?_
    · intro h13
      exfalso
      omega
    · intro h14
      refine wk_ll6 r129_27 (wk_c1 r129_29 (wk_lshl5 r129_30 (by omega) ?_))
      intro n15 h16
      refine wk_il2 r129_31 (wk_c2 r129_32 (wk_isub r129_34 (wk_i2lb r129_35 ⟨by omega, by omega⟩ ?_)))
      intro n17 h18 h19
      refine wk_lor5 r129_36 (by omega) (by omega) (by omega) ?_
      intro n20 h21
      refine wk_ls6 r129_37 rfl (wk_il3 r129_39 ?_)
      refine wk_ifeq r129_40 ⟨by omega, by omega⟩ ?_ ?_
      · intro h22
        exfalso
        omega
      · intro h23
        refine wk_ll6 r129_43 (wk_c1 r129_45 (wk_lshl5 r129_46 (by omega) ?_))
        intro n24 h25
        refine wk_il3 r129_47 (wk_c2 r129_48 (wk_isub r129_50 (wk_i2lb r129_51 ⟨by omega, by omega⟩ ?_)))
        intro n26 h27 h28
        refine wk_lor5 r129_52 (by omega) (by omega) (by omega) ?_
        intro n29 h30
        refine wk_ls6 r129_53 rfl (wk_il4 r129_55 ?_)
        refine wk_ifeq r129_57 ⟨by omega, by omega⟩ ?_ ?_
        · intro h31
          refine wk_il5 r129_73 ?_
          refine wk_ifeq r129_75 ⟨by omega, by omega⟩ ?_ ?_
          · intro h32
            refine wk_ll6 r129_91 ?_
            subst hQ; exact wk_lret r129_93 (⟨rfl, _, rfl, hP0, hF0, by omega, by omega, by omega⟩)
          · intro h33
            exfalso
            omega
        · intro h34
          exfalso
          omega
def fm_n8129v2 : Nat := 0
/-- IslandHallModel.spelled -/
theorem n8129v2 {B : eB} (d : Nat) (M0 : Mm) (p0 : Int) (p1 : Int) (p2 : Int) (p3 : Int) (p4 : Int) (p5 : Int) (hP0 : Pw M0) (l0 : 116 ≤ p0) (u0 : p0 ≤ 116) (l1 : 117 ≤ p1) (u1 : p1 ≤ 117) (l2 : 114 ≤ p2) (u2 : p2 ≤ 114) (l3 : 110 ≤ p3) (u3 : p3 ≤ 110) (l4 : 101 ≤ p4) (u4 : p4 ≤ 101) (l5 : 114 ≤ p5) (u5 : p5 ≤ 114) : Ct B (d + 1) 129 [I p0, I p1, I p2, I p3, I p4, I p5] M0 (qL fun z M => Pw M ∧ Fr fm_n8129v2 M0 M ∧ z < 18446744073709551616 ∧ 693713074 ≤ z ∧ z ≤ 693713074) := by
  refine ct_of (d := d + 0) (k := 2) (L := [some (I p0), some (I p1), some (I p2), some (I p3), some (I p4), some (I p5), none, none]) rfl rfl rfl ?_
  have hF0 := Fr.rf fm_n8129v2 M0
  generalize hQ : (qL fun z M => Pw M ∧ Fr fm_n8129v2 M0 M ∧ z < 18446744073709551616 ∧ 693713074 ≤ z ∧ z ≤ 693713074) = Q
  refine wk_il0 r129_0 (wk_c2 r129_1 (wk_isub r129_3 (wk_i2lb r129_4 ⟨by omega, by omega⟩ ?_)))
  intro n1 h2 h3
  refine wk_ls6 r129_5 rfl (wk_il1 r129_7 ?_)
  refine wk_ifeq r129_8 ⟨by omega, by omega⟩ ?_ ?_
  · intro h4
    exfalso
    omega
  · intro h5
    refine wk_ll6 r129_11 (wk_c1 r129_13 (wk_lshl5 r129_14 (by omega) ?_))
    intro n6 h7
    refine wk_il1 r129_15 (wk_c2 r129_16 (wk_isub r129_18 (wk_i2lb r129_19 ⟨by omega, by omega⟩ ?_)))
    intro n8 h9 h10
    refine wk_lor5 r129_20 (by omega) (by omega) (by omega) ?_
    intro n11 h12
    refine wk_ls6 r129_21 rfl (wk_il2 r129_23 ?_)
    refine wk_ifeq r129_24 ⟨by omega, by omega⟩ ?_ ?_
    · intro h13
      exfalso
      omega
    · intro h14
      refine wk_ll6 r129_27 (wk_c1 r129_29 (wk_lshl5 r129_30 (by omega) ?_))
      intro n15 h16
      refine wk_il2 r129_31 (wk_c2 r129_32 (wk_isub r129_34 (wk_i2lb r129_35 ⟨by omega, by omega⟩ ?_)))
      intro n17 h18 h19
      refine wk_lor5 r129_36 (by omega) (by omega) (by omega) ?_
      intro n20 h21
      refine wk_ls6 r129_37 rfl (wk_il3 r129_39 ?_)
      refine wk_ifeq r129_40 ⟨by omega, by omega⟩ ?_ ?_
      · intro h22
        exfalso
        omega
      · intro h23
        refine wk_ll6 r129_43 (wk_c1 r129_45 (wk_lshl5 r129_46 (by omega) ?_))
        intro n24 h25
        refine wk_il3 r129_47 (wk_c2 r129_48 (wk_isub r129_50 (wk_i2lb r129_51 ⟨by omega, by omega⟩ ?_)))
        intro n26 h27 h28
        refine wk_lor5 r129_52 (by omega) (by omega) (by omega) ?_
        intro n29 h30
        refine wk_ls6 r129_53 rfl (wk_il4 r129_55 ?_)
        refine wk_ifeq r129_57 ⟨by omega, by omega⟩ ?_ ?_
        · intro h31
          exfalso
          omega
        · intro h32
          refine wk_ll6 r129_60 (wk_c1 r129_62 (wk_lshl5 r129_63 (by omega) ?_))
          intro n33 h34
          refine wk_il4 r129_64 (wk_c2 r129_66 (wk_isub r129_68 (wk_i2lb r129_69 ⟨by omega, by omega⟩ ?_)))
          intro n35 h36 h37
          refine wk_lor5 r129_70 (by omega) (by omega) (by omega) ?_
          intro n38 h39
          refine wk_ls6 r129_71 rfl (wk_il5 r129_73 ?_)
          refine wk_ifeq r129_75 ⟨by omega, by omega⟩ ?_ ?_
          · intro h40
            exfalso
            omega
          · intro h41
            refine wk_ll6 r129_78 (wk_c1 r129_80 (wk_lshl5 r129_81 (by omega) ?_))
            intro n42 h43
            refine wk_il5 r129_82 (wk_c2 r129_84 (wk_isub r129_86 (wk_i2lb r129_87 ⟨by omega, by omega⟩ ?_)))
            intro n44 h45 h46
            refine wk_lor5 r129_88 (by omega) (by omega) (by omega) ?_
            intro n47 h48
            refine wk_ls6 r129_89 rfl (wk_ll6 r129_91 ?_)
            subst hQ; exact wk_lret r129_93 (⟨rfl, _, rfl, hP0, hF0, by omega, by omega, by omega⟩)
def fm_n8129v3 : Nat := 0
/-- IslandHallModel.spelled -/
theorem n8129v3 {B : eB} (d : Nat) (M0 : Mm) (p0 : Int) (p1 : Int) (p2 : Int) (p3 : Int) (p4 : Int) (p5 : Int) (hP0 : Pw M0) (l0 : 100 ≤ p0) (u0 : p0 ≤ 100) (l1 : 97 ≤ p1) (u1 : p1 ≤ 97) (l2 : 121 ≤ p2) (u2 : p2 ≤ 121) (l3 : 101 ≤ p3) (u3 : p3 ≤ 101) (l4 : 114 ≤ p4) (u4 : p4 ≤ 114) (l5 : 0 ≤ p5) (u5 : p5 ≤ 0) : Ct B (d + 1) 129 [I p0, I p1, I p2, I p3, I p4, I p5] M0 (qL fun z M => Pw M ∧ Fr fm_n8129v3 M0 M ∧ z < 18446744073709551616 ∧ 4252850 ≤ z ∧ z ≤ 4252850) := by
  refine ct_of (d := d + 0) (k := 2) (L := [some (I p0), some (I p1), some (I p2), some (I p3), some (I p4), some (I p5), none, none]) rfl rfl rfl ?_
  have hF0 := Fr.rf fm_n8129v3 M0
  generalize hQ : (qL fun z M => Pw M ∧ Fr fm_n8129v3 M0 M ∧ z < 18446744073709551616 ∧ 4252850 ≤ z ∧ z ≤ 4252850) = Q
  refine wk_il0 r129_0 (wk_c2 r129_1 (wk_isub r129_3 (wk_i2lb r129_4 ⟨by omega, by omega⟩ ?_)))
  intro n1 h2 h3
  refine wk_ls6 r129_5 rfl (wk_il1 r129_7 ?_)
  refine wk_ifeq r129_8 ⟨by omega, by omega⟩ ?_ ?_
  · intro h4
    exfalso
    omega
  · intro h5
    refine wk_ll6 r129_11 (wk_c1 r129_13 (wk_lshl5 r129_14 (by omega) ?_))
    intro n6 h7
    refine wk_il1 r129_15 (wk_c2 r129_16 (wk_isub r129_18 (wk_i2lb r129_19 ⟨by omega, by omega⟩ ?_)))
    intro n8 h9 h10
    refine wk_lor5 r129_20 (by omega) (by omega) (by omega) ?_
    intro n11 h12
    refine wk_ls6 r129_21 rfl (wk_il2 r129_23 ?_)
    refine wk_ifeq r129_24 ⟨by omega, by omega⟩ ?_ ?_
    · intro h13
      exfalso
      omega
    · intro h14
      refine wk_ll6 r129_27 (wk_c1 r129_29 (wk_lshl5 r129_30 (by omega) ?_))
      intro n15 h16
      refine wk_il2 r129_31 (wk_c2 r129_32 (wk_isub r129_34 (wk_i2lb r129_35 ⟨by omega, by omega⟩ ?_)))
      intro n17 h18 h19
      refine wk_lor5 r129_36 (by omega) (by omega) (by omega) ?_
      intro n20 h21
      refine wk_ls6 r129_37 rfl (wk_il3 r129_39 ?_)
      refine wk_ifeq r129_40 ⟨by omega, by omega⟩ ?_ ?_
      · intro h22
        exfalso
        omega
      · intro h23
        refine wk_ll6 r129_43 (wk_c1 r129_45 (wk_lshl5 r129_46 (by omega) ?_))
        intro n24 h25
        refine wk_il3 r129_47 (wk_c2 r129_48 (wk_isub r129_50 (wk_i2lb r129_51 ⟨by omega, by omega⟩ ?_)))
        intro n26 h27 h28
        refine wk_lor5 r129_52 (by omega) (by omega) (by omega) ?_
        intro n29 h30
        refine wk_ls6 r129_53 rfl (wk_il4 r129_55 ?_)
        refine wk_ifeq r129_57 ⟨by omega, by omega⟩ ?_ ?_
        · intro h31
          exfalso
          omega
        · intro h32
          refine wk_ll6 r129_60 (wk_c1 r129_62 (wk_lshl5 r129_63 (by omega) ?_))
          intro n33 h34
          refine wk_il4 r129_64 (wk_c2 r129_66 (wk_isub r129_68 (wk_i2lb r129_69 ⟨by omega, by omega⟩ ?_)))
          intro n35 h36 h37
          refine wk_lor5 r129_70 (by omega) (by omega) (by omega) ?_
          intro n38 h39
          refine wk_ls6 r129_71 rfl (wk_il5 r129_73 ?_)
          refine wk_ifeq r129_75 ⟨by omega, by omega⟩ ?_ ?_
          · intro h40
            refine wk_ll6 r129_91 ?_
            subst hQ; exact wk_lret r129_93 (⟨rfl, _, rfl, hP0, hF0, by omega, by omega, by omega⟩)
          · intro h41
            exfalso
            omega
def fm_n8129v4 : Nat := 0
/-- IslandHallModel.spelled -/
theorem n8129v4 {B : eB} (d : Nat) (M0 : Mm) (p0 : Int) (p1 : Int) (p2 : Int) (p3 : Int) (p4 : Int) (p5 : Int) (hP0 : Pw M0) (l0 : 102 ≤ p0) (u0 : p0 ≤ 102) (l1 : 114 ≤ p1) (u1 : p1 ≤ 114) (l2 : 101 ≤ p2) (u2 : p2 ≤ 101) (l3 : 101 ≤ p3) (u3 : p3 ≤ 101) (l4 : 0 ≤ p4) (u4 : p4 ≤ 0) (l5 : 0 ≤ p5) (u5 : p5 ≤ 0) : Ct B (d + 1) 129 [I p0, I p1, I p2, I p3, I p4, I p5] M0 (qL fun z M => Pw M ∧ Fr fm_n8129v4 M0 M ∧ z < 18446744073709551616 ∧ 215205 ≤ z ∧ z ≤ 215205) := by
  refine ct_of (d := d + 0) (k := 2) (L := [some (I p0), some (I p1), some (I p2), some (I p3), some (I p4), some (I p5), none, none]) rfl rfl rfl ?_
  have hF0 := Fr.rf fm_n8129v4 M0
  generalize hQ : (qL fun z M => Pw M ∧ Fr fm_n8129v4 M0 M ∧ z < 18446744073709551616 ∧ 215205 ≤ z ∧ z ≤ 215205) = Q
  refine wk_il0 r129_0 (wk_c2 r129_1 (wk_isub r129_3 (wk_i2lb r129_4 ⟨by omega, by omega⟩ ?_)))
  intro n1 h2 h3
  refine wk_ls6 r129_5 rfl (wk_il1 r129_7 ?_)
  refine wk_ifeq r129_8 ⟨by omega, by omega⟩ ?_ ?_
  · intro h4
    exfalso
    omega
  · intro h5
    refine wk_ll6 r129_11 (wk_c1 r129_13 (wk_lshl5 r129_14 (by omega) ?_))
    intro n6 h7
    refine wk_il1 r129_15 (wk_c2 r129_16 (wk_isub r129_18 (wk_i2lb r129_19 ⟨by omega, by omega⟩ ?_)))
    intro n8 h9 h10
    refine wk_lor5 r129_20 (by omega) (by omega) (by omega) ?_
    intro n11 h12
    refine wk_ls6 r129_21 rfl (wk_il2 r129_23 ?_)
    refine wk_ifeq r129_24 ⟨by omega, by omega⟩ ?_ ?_
    · intro h13
      exfalso
      omega
    · intro h14
      refine wk_ll6 r129_27 (wk_c1 r129_29 (wk_lshl5 r129_30 (by omega) ?_))
      intro n15 h16
      refine wk_il2 r129_31 (wk_c2 r129_32 (wk_isub r129_34 (wk_i2lb r129_35 ⟨by omega, by omega⟩ ?_)))
      intro n17 h18 h19
      refine wk_lor5 r129_36 (by omega) (by omega) (by omega) ?_
      intro n20 h21
      refine wk_ls6 r129_37 rfl (wk_il3 r129_39 ?_)
      refine wk_ifeq r129_40 ⟨by omega, by omega⟩ ?_ ?_
      · intro h22
        exfalso
        omega
      · intro h23
        refine wk_ll6 r129_43 (wk_c1 r129_45 (wk_lshl5 r129_46 (by omega) ?_))
        intro n24 h25
        refine wk_il3 r129_47 (wk_c2 r129_48 (wk_isub r129_50 (wk_i2lb r129_51 ⟨by omega, by omega⟩ ?_)))
        intro n26 h27 h28
        refine wk_lor5 r129_52 (by omega) (by omega) (by omega) ?_
        intro n29 h30
        refine wk_ls6 r129_53 rfl (wk_il4 r129_55 ?_)
        refine wk_ifeq r129_57 ⟨by omega, by omega⟩ ?_ ?_
        · intro h31
          refine wk_il5 r129_73 ?_
          refine wk_ifeq r129_75 ⟨by omega, by omega⟩ ?_ ?_
          · intro h32
            refine wk_ll6 r129_91 ?_
            subst hQ; exact wk_lret r129_93 (⟨rfl, _, rfl, hP0, hF0, by omega, by omega, by omega⟩)
          · intro h33
            exfalso
            omega
        · intro h34
          exfalso
          omega
def fm_n8129v5 : Nat := 0
/-- IslandHallModel.spelled -/
theorem n8129v5 {B : eB} (d : Nat) (M0 : Mm) (p0 : Int) (p1 : Int) (p2 : Int) (p3 : Int) (p4 : Int) (p5 : Int) (hP0 : Pw M0) (l0 : 112 ≤ p0) (u0 : p0 ≤ 112) (l1 : 101 ≤ p1) (u1 : p1 ≤ 101) (l2 : 111 ≤ p2) (u2 : p2 ≤ 111) (l3 : 112 ≤ p3) (u3 : p3 ≤ 112) (l4 : 108 ≤ p4) (u4 : p4 ≤ 108) (l5 : 101 ≤ p5) (u5 : p5 ≤ 101) : Ct B (d + 1) 129 [I p0, I p1, I p2, I p3, I p4, I p5] M0 (qL fun z M => Pw M ∧ Fr fm_n8129v5 M0 M ∧ z < 18446744073709551616 ∧ 542622085 ≤ z ∧ z ≤ 542622085) := by
  refine ct_of (d := d + 0) (k := 2) (L := [some (I p0), some (I p1), some (I p2), some (I p3), some (I p4), some (I p5), none, none]) rfl rfl rfl ?_
  have hF0 := Fr.rf fm_n8129v5 M0
  generalize hQ : (qL fun z M => Pw M ∧ Fr fm_n8129v5 M0 M ∧ z < 18446744073709551616 ∧ 542622085 ≤ z ∧ z ≤ 542622085) = Q
  refine wk_il0 r129_0 (wk_c2 r129_1 (wk_isub r129_3 (wk_i2lb r129_4 ⟨by omega, by omega⟩ ?_)))
  intro n1 h2 h3
  refine wk_ls6 r129_5 rfl (wk_il1 r129_7 ?_)
  refine wk_ifeq r129_8 ⟨by omega, by omega⟩ ?_ ?_
  · intro h4
    exfalso
    omega
  · intro h5
    refine wk_ll6 r129_11 (wk_c1 r129_13 (wk_lshl5 r129_14 (by omega) ?_))
    intro n6 h7
    refine wk_il1 r129_15 (wk_c2 r129_16 (wk_isub r129_18 (wk_i2lb r129_19 ⟨by omega, by omega⟩ ?_)))
    intro n8 h9 h10
    refine wk_lor5 r129_20 (by omega) (by omega) (by omega) ?_
    intro n11 h12
    refine wk_ls6 r129_21 rfl (wk_il2 r129_23 ?_)
    refine wk_ifeq r129_24 ⟨by omega, by omega⟩ ?_ ?_
    · intro h13
      exfalso
      omega
    · intro h14
      refine wk_ll6 r129_27 (wk_c1 r129_29 (wk_lshl5 r129_30 (by omega) ?_))
      intro n15 h16
      refine wk_il2 r129_31 (wk_c2 r129_32 (wk_isub r129_34 (wk_i2lb r129_35 ⟨by omega, by omega⟩ ?_)))
      intro n17 h18 h19
      refine wk_lor5 r129_36 (by omega) (by omega) (by omega) ?_
      intro n20 h21
      refine wk_ls6 r129_37 rfl (wk_il3 r129_39 ?_)
      refine wk_ifeq r129_40 ⟨by omega, by omega⟩ ?_ ?_
      · intro h22
        exfalso
        omega
      · intro h23
        refine wk_ll6 r129_43 (wk_c1 r129_45 (wk_lshl5 r129_46 (by omega) ?_))
        intro n24 h25
        refine wk_il3 r129_47 (wk_c2 r129_48 (wk_isub r129_50 (wk_i2lb r129_51 ⟨by omega, by omega⟩ ?_)))
        intro n26 h27 h28
        refine wk_lor5 r129_52 (by omega) (by omega) (by omega) ?_
        intro n29 h30
        refine wk_ls6 r129_53 rfl (wk_il4 r129_55 ?_)
        refine wk_ifeq r129_57 ⟨by omega, by omega⟩ ?_ ?_
        · intro h31
          exfalso
          omega
        · intro h32
          refine wk_ll6 r129_60 (wk_c1 r129_62 (wk_lshl5 r129_63 (by omega) ?_))
          intro n33 h34
          refine wk_il4 r129_64 (wk_c2 r129_66 (wk_isub r129_68 (wk_i2lb r129_69 ⟨by omega, by omega⟩ ?_)))
          intro n35 h36 h37
          refine wk_lor5 r129_70 (by omega) (by omega) (by omega) ?_
          intro n38 h39
          refine wk_ls6 r129_71 rfl (wk_il5 r129_73 ?_)
          refine wk_ifeq r129_75 ⟨by omega, by omega⟩ ?_ ?_
          · intro h40
            exfalso
            omega
          · intro h41
            refine wk_ll6 r129_78 (wk_c1 r129_80 (wk_lshl5 r129_81 (by omega) ?_))
            intro n42 h43
            refine wk_il5 r129_82 (wk_c2 r129_84 (wk_isub r129_86 (wk_i2lb r129_87 ⟨by omega, by omega⟩ ?_)))
            intro n44 h45 h46
            refine wk_lor5 r129_88 (by omega) (by omega) (by omega) ?_
            intro n47 h48
            refine wk_ls6 r129_89 rfl (wk_ll6 r129_91 ?_)
            subst hQ; exact wk_lret r129_93 (⟨rfl, _, rfl, hP0, hF0, by omega, by omega, by omega⟩)
def fm_n8129v6 : Nat := 0
/-- IslandHallModel.spelled -/
theorem n8129v6 {B : eB} (d : Nat) (M0 : Mm) (p0 : Int) (p1 : Int) (p2 : Int) (p3 : Int) (p4 : Int) (p5 : Int) (hP0 : Pw M0) (l0 : 109 ≤ p0) (u0 : p0 ≤ 109) (l1 : 97 ≤ p1) (u1 : p1 ≤ 97) (l2 : 121 ≤ p2) (u2 : p2 ≤ 121) (l3 : 0 ≤ p3) (u3 : p3 ≤ 0) (l4 : 0 ≤ p4) (u4 : p4 ≤ 0) (l5 : 0 ≤ p5) (u5 : p5 ≤ 0) : Ct B (d + 1) 129 [I p0, I p1, I p2, I p3, I p4, I p5] M0 (qL fun z M => Pw M ∧ Fr fm_n8129v6 M0 M ∧ z < 18446744073709551616 ∧ 13369 ≤ z ∧ z ≤ 13369) := by
  refine ct_of (d := d + 0) (k := 2) (L := [some (I p0), some (I p1), some (I p2), some (I p3), some (I p4), some (I p5), none, none]) rfl rfl rfl ?_
  have hF0 := Fr.rf fm_n8129v6 M0
  generalize hQ : (qL fun z M => Pw M ∧ Fr fm_n8129v6 M0 M ∧ z < 18446744073709551616 ∧ 13369 ≤ z ∧ z ≤ 13369) = Q
  refine wk_il0 r129_0 (wk_c2 r129_1 (wk_isub r129_3 (wk_i2lb r129_4 ⟨by omega, by omega⟩ ?_)))
  intro n1 h2 h3
  refine wk_ls6 r129_5 rfl (wk_il1 r129_7 ?_)
  refine wk_ifeq r129_8 ⟨by omega, by omega⟩ ?_ ?_
  · intro h4
    exfalso
    omega
  · intro h5
    refine wk_ll6 r129_11 (wk_c1 r129_13 (wk_lshl5 r129_14 (by omega) ?_))
    intro n6 h7
    refine wk_il1 r129_15 (wk_c2 r129_16 (wk_isub r129_18 (wk_i2lb r129_19 ⟨by omega, by omega⟩ ?_)))
    intro n8 h9 h10
    refine wk_lor5 r129_20 (by omega) (by omega) (by omega) ?_
    intro n11 h12
    refine wk_ls6 r129_21 rfl (wk_il2 r129_23 ?_)
    refine wk_ifeq r129_24 ⟨by omega, by omega⟩ ?_ ?_
    · intro h13
      exfalso
      omega
    · intro h14
      refine wk_ll6 r129_27 (wk_c1 r129_29 (wk_lshl5 r129_30 (by omega) ?_))
      intro n15 h16
      refine wk_il2 r129_31 (wk_c2 r129_32 (wk_isub r129_34 (wk_i2lb r129_35 ⟨by omega, by omega⟩ ?_)))
      intro n17 h18 h19
      refine wk_lor5 r129_36 (by omega) (by omega) (by omega) ?_
      intro n20 h21
      refine wk_ls6 r129_37 rfl (wk_il3 r129_39 ?_)
      refine wk_ifeq r129_40 ⟨by omega, by omega⟩ ?_ ?_
      · intro h22
        refine wk_il4 r129_55 ?_
        refine wk_ifeq r129_57 ⟨by omega, by omega⟩ ?_ ?_
        · intro h23
          refine wk_il5 r129_73 ?_
          refine wk_ifeq r129_75 ⟨by omega, by omega⟩ ?_ ?_
          · intro h24
            refine wk_ll6 r129_91 ?_
            subst hQ; exact wk_lret r129_93 (⟨rfl, _, rfl, hP0, hF0, by omega, by omega, by omega⟩)
          · intro h25
            exfalso
            omega
        · intro h26
          exfalso
          omega
      · intro h27
        exfalso
        omega
def fm_n8129v7 : Nat := 0
/-- IslandHallModel.spelled -/
theorem n8129v7 {B : eB} (d : Nat) (M0 : Mm) (p0 : Int) (p1 : Int) (p2 : Int) (p3 : Int) (p4 : Int) (p5 : Int) (hP0 : Pw M0) (l0 : 114 ≤ p0) (u0 : p0 ≤ 114) (l1 : 111 ≤ p1) (u1 : p1 ≤ 111) (l2 : 97 ≤ p2) (u2 : p2 ≤ 97) (l3 : 100 ≤ p3) (u3 : p3 ≤ 100) (l4 : 115 ≤ p4) (u4 : p4 ≤ 115) (l5 : 0 ≤ p5) (u5 : p5 ≤ 0) : Ct B (d + 1) 129 [I p0, I p1, I p2, I p3, I p4, I p5] M0 (qL fun z M => Pw M ∧ Fr fm_n8129v7 M0 M ∧ z < 18446744073709551616 ∧ 19367059 ≤ z ∧ z ≤ 19367059) := by
  refine ct_of (d := d + 0) (k := 2) (L := [some (I p0), some (I p1), some (I p2), some (I p3), some (I p4), some (I p5), none, none]) rfl rfl rfl ?_
  have hF0 := Fr.rf fm_n8129v7 M0
  generalize hQ : (qL fun z M => Pw M ∧ Fr fm_n8129v7 M0 M ∧ z < 18446744073709551616 ∧ 19367059 ≤ z ∧ z ≤ 19367059) = Q
  refine wk_il0 r129_0 (wk_c2 r129_1 (wk_isub r129_3 (wk_i2lb r129_4 ⟨by omega, by omega⟩ ?_)))
  intro n1 h2 h3
  refine wk_ls6 r129_5 rfl (wk_il1 r129_7 ?_)
  refine wk_ifeq r129_8 ⟨by omega, by omega⟩ ?_ ?_
  · intro h4
    exfalso
    omega
  · intro h5
    refine wk_ll6 r129_11 (wk_c1 r129_13 (wk_lshl5 r129_14 (by omega) ?_))
    intro n6 h7
    refine wk_il1 r129_15 (wk_c2 r129_16 (wk_isub r129_18 (wk_i2lb r129_19 ⟨by omega, by omega⟩ ?_)))
    intro n8 h9 h10
    refine wk_lor5 r129_20 (by omega) (by omega) (by omega) ?_
    intro n11 h12
    refine wk_ls6 r129_21 rfl (wk_il2 r129_23 ?_)
    refine wk_ifeq r129_24 ⟨by omega, by omega⟩ ?_ ?_
    · intro h13
      exfalso
      omega
    · intro h14
      refine wk_ll6 r129_27 (wk_c1 r129_29 (wk_lshl5 r129_30 (by omega) ?_))
      intro n15 h16
      refine wk_il2 r129_31 (wk_c2 r129_32 (wk_isub r129_34 (wk_i2lb r129_35 ⟨by omega, by omega⟩ ?_)))
      intro n17 h18 h19
      refine wk_lor5 r129_36 (by omega) (by omega) (by omega) ?_
      intro n20 h21
      refine wk_ls6 r129_37 rfl (wk_il3 r129_39 ?_)
      refine wk_ifeq r129_40 ⟨by omega, by omega⟩ ?_ ?_
      · intro h22
        exfalso
        omega
      · intro h23
        refine wk_ll6 r129_43 (wk_c1 r129_45 (wk_lshl5 r129_46 (by omega) ?_))
        intro n24 h25
        refine wk_il3 r129_47 (wk_c2 r129_48 (wk_isub r129_50 (wk_i2lb r129_51 ⟨by omega, by omega⟩ ?_)))
        intro n26 h27 h28
        refine wk_lor5 r129_52 (by omega) (by omega) (by omega) ?_
        intro n29 h30
        refine wk_ls6 r129_53 rfl (wk_il4 r129_55 ?_)
        refine wk_ifeq r129_57 ⟨by omega, by omega⟩ ?_ ?_
        · intro h31
          exfalso
          omega
        · intro h32
          refine wk_ll6 r129_60 (wk_c1 r129_62 (wk_lshl5 r129_63 (by omega) ?_))
          intro n33 h34
          refine wk_il4 r129_64 (wk_c2 r129_66 (wk_isub r129_68 (wk_i2lb r129_69 ⟨by omega, by omega⟩ ?_)))
          intro n35 h36 h37
          refine wk_lor5 r129_70 (by omega) (by omega) (by omega) ?_
          intro n38 h39
          refine wk_ls6 r129_71 rfl (wk_il5 r129_73 ?_)
          refine wk_ifeq r129_75 ⟨by omega, by omega⟩ ?_ ?_
          · intro h40
            refine wk_ll6 r129_91 ?_
            subst hQ; exact wk_lret r129_93 (⟨rfl, _, rfl, hP0, hF0, by omega, by omega, by omega⟩)
          · intro h41
            exfalso
            omega
def fm_n8129v8 : Nat := 0
/-- IslandHallModel.spelled -/
theorem n8129v8 {B : eB} (d : Nat) (M0 : Mm) (p0 : Int) (p1 : Int) (p2 : Int) (p3 : Int) (p4 : Int) (p5 : Int) (hP0 : Pw M0) (l0 : 116 ≤ p0) (u0 : p0 ≤ 116) (l1 : 111 ≤ p1) (u1 : p1 ≤ 111) (l2 : 108 ≤ p2) (u2 : p2 ≤ 108) (l3 : 100 ≤ p3) (u3 : p3 ≤ 100) (l4 : 0 ≤ p4) (u4 : p4 ≤ 0) (l5 : 0 ≤ p5) (u5 : p5 ≤ 0) : Ct B (d + 1) 129 [I p0, I p1, I p2, I p3, I p4, I p5] M0 (qL fun z M => Pw M ∧ Fr fm_n8129v8 M0 M ∧ z < 18446744073709551616 ∧ 671108 ≤ z ∧ z ≤ 671108) := by
  refine ct_of (d := d + 0) (k := 2) (L := [some (I p0), some (I p1), some (I p2), some (I p3), some (I p4), some (I p5), none, none]) rfl rfl rfl ?_
  have hF0 := Fr.rf fm_n8129v8 M0
  generalize hQ : (qL fun z M => Pw M ∧ Fr fm_n8129v8 M0 M ∧ z < 18446744073709551616 ∧ 671108 ≤ z ∧ z ≤ 671108) = Q
  refine wk_il0 r129_0 (wk_c2 r129_1 (wk_isub r129_3 (wk_i2lb r129_4 ⟨by omega, by omega⟩ ?_)))
  intro n1 h2 h3
  refine wk_ls6 r129_5 rfl (wk_il1 r129_7 ?_)
  refine wk_ifeq r129_8 ⟨by omega, by omega⟩ ?_ ?_
  · intro h4
    exfalso
    omega
  · intro h5
    refine wk_ll6 r129_11 (wk_c1 r129_13 (wk_lshl5 r129_14 (by omega) ?_))
    intro n6 h7
    refine wk_il1 r129_15 (wk_c2 r129_16 (wk_isub r129_18 (wk_i2lb r129_19 ⟨by omega, by omega⟩ ?_)))
    intro n8 h9 h10
    refine wk_lor5 r129_20 (by omega) (by omega) (by omega) ?_
    intro n11 h12
    refine wk_ls6 r129_21 rfl (wk_il2 r129_23 ?_)
    refine wk_ifeq r129_24 ⟨by omega, by omega⟩ ?_ ?_
    · intro h13
      exfalso
      omega
    · intro h14
      refine wk_ll6 r129_27 (wk_c1 r129_29 (wk_lshl5 r129_30 (by omega) ?_))
      intro n15 h16
      refine wk_il2 r129_31 (wk_c2 r129_32 (wk_isub r129_34 (wk_i2lb r129_35 ⟨by omega, by omega⟩ ?_)))
      intro n17 h18 h19
      refine wk_lor5 r129_36 (by omega) (by omega) (by omega) ?_
      intro n20 h21
      refine wk_ls6 r129_37 rfl (wk_il3 r129_39 ?_)
      refine wk_ifeq r129_40 ⟨by omega, by omega⟩ ?_ ?_
      · intro h22
        exfalso
        omega
      · intro h23
        refine wk_ll6 r129_43 (wk_c1 r129_45 (wk_lshl5 r129_46 (by omega) ?_))
        intro n24 h25
        refine wk_il3 r129_47 (wk_c2 r129_48 (wk_isub r129_50 (wk_i2lb r129_51 ⟨by omega, by omega⟩ ?_)))
        intro n26 h27 h28
        refine wk_lor5 r129_52 (by omega) (by omega) (by omega) ?_
        intro n29 h30
        refine wk_ls6 r129_53 rfl (wk_il4 r129_55 ?_)
        refine wk_ifeq r129_57 ⟨by omega, by omega⟩ ?_ ?_
        · intro h31
          refine wk_il5 r129_73 ?_
          refine wk_ifeq r129_75 ⟨by omega, by omega⟩ ?_ ?_
          · intro h32
            refine wk_ll6 r129_91 ?_
            subst hQ; exact wk_lret r129_93 (⟨rfl, _, rfl, hP0, hF0, by omega, by omega, by omega⟩)
          · intro h33
            exfalso
            omega
        · intro h34
          exfalso
          omega
def fm_n8129v9 : Nat := 0
/-- IslandHallModel.spelled -/
theorem n8129v9 {B : eB} (d : Nat) (M0 : Mm) (p0 : Int) (p1 : Int) (p2 : Int) (p3 : Int) (p4 : Int) (p5 : Int) (hP0 : Pw M0) (l0 : 100 ≤ p0) (u0 : p0 ≤ 100) (l1 : 97 ≤ p1) (u1 : p1 ≤ 97) (l2 : 121 ≤ p2) (u2 : p2 ≤ 121) (l3 : 0 ≤ p3) (u3 : p3 ≤ 0) (l4 : 0 ≤ p4) (u4 : p4 ≤ 0) (l5 : 0 ≤ p5) (u5 : p5 ≤ 0) : Ct B (d + 1) 129 [I p0, I p1, I p2, I p3, I p4, I p5] M0 (qL fun z M => Pw M ∧ Fr fm_n8129v9 M0 M ∧ z < 18446744073709551616 ∧ 4153 ≤ z ∧ z ≤ 4153) := by
  refine ct_of (d := d + 0) (k := 2) (L := [some (I p0), some (I p1), some (I p2), some (I p3), some (I p4), some (I p5), none, none]) rfl rfl rfl ?_
  have hF0 := Fr.rf fm_n8129v9 M0
  generalize hQ : (qL fun z M => Pw M ∧ Fr fm_n8129v9 M0 M ∧ z < 18446744073709551616 ∧ 4153 ≤ z ∧ z ≤ 4153) = Q
  refine wk_il0 r129_0 (wk_c2 r129_1 (wk_isub r129_3 (wk_i2lb r129_4 ⟨by omega, by omega⟩ ?_)))
  intro n1 h2 h3
  refine wk_ls6 r129_5 rfl (wk_il1 r129_7 ?_)
  refine wk_ifeq r129_8 ⟨by omega, by omega⟩ ?_ ?_
  · intro h4
    exfalso
    omega
  · intro h5
    refine wk_ll6 r129_11 (wk_c1 r129_13 (wk_lshl5 r129_14 (by omega) ?_))
    intro n6 h7
    refine wk_il1 r129_15 (wk_c2 r129_16 (wk_isub r129_18 (wk_i2lb r129_19 ⟨by omega, by omega⟩ ?_)))
    intro n8 h9 h10
    refine wk_lor5 r129_20 (by omega) (by omega) (by omega) ?_
    intro n11 h12
    refine wk_ls6 r129_21 rfl (wk_il2 r129_23 ?_)
    refine wk_ifeq r129_24 ⟨by omega, by omega⟩ ?_ ?_
    · intro h13
      exfalso
      omega
    · intro h14
      refine wk_ll6 r129_27 (wk_c1 r129_29 (wk_lshl5 r129_30 (by omega) ?_))
      intro n15 h16
      refine wk_il2 r129_31 (wk_c2 r129_32 (wk_isub r129_34 (wk_i2lb r129_35 ⟨by omega, by omega⟩ ?_)))
      intro n17 h18 h19
      refine wk_lor5 r129_36 (by omega) (by omega) (by omega) ?_
      intro n20 h21
      refine wk_ls6 r129_37 rfl (wk_il3 r129_39 ?_)
      refine wk_ifeq r129_40 ⟨by omega, by omega⟩ ?_ ?_
      · intro h22
        refine wk_il4 r129_55 ?_
        refine wk_ifeq r129_57 ⟨by omega, by omega⟩ ?_ ?_
        · intro h23
          refine wk_il5 r129_73 ?_
          refine wk_ifeq r129_75 ⟨by omega, by omega⟩ ?_ ?_
          · intro h24
            refine wk_ll6 r129_91 ?_
            subst hQ; exact wk_lret r129_93 (⟨rfl, _, rfl, hP0, hF0, by omega, by omega, by omega⟩)
          · intro h25
            exfalso
            omega
        · intro h26
          exfalso
          omega
      · intro h27
        exfalso
        omega
def fm_n8129v10 : Nat := 0
/-- IslandHallModel.spelled -/
theorem n8129v10 {B : eB} (d : Nat) (M0 : Mm) (p0 : Int) (p1 : Int) (p2 : Int) (p3 : Int) (p4 : Int) (p5 : Int) (hP0 : Pw M0) (l0 : 108 ≤ p0) (u0 : p0 ≤ 108) (l1 : 105 ≤ p1) (u1 : p1 ≤ 105) (l2 : 101 ≤ p2) (u2 : p2 ≤ 101) (l3 : 115 ≤ p3) (u3 : p3 ≤ 115) (l4 : 0 ≤ p4) (u4 : p4 ≤ 0) (l5 : 0 ≤ p5) (u5 : p5 ≤ 0) : Ct B (d + 1) 129 [I p0, I p1, I p2, I p3, I p4, I p5] M0 (qL fun z M => Pw M ∧ Fr fm_n8129v10 M0 M ∧ z < 18446744073709551616 ∧ 402611 ≤ z ∧ z ≤ 402611) := by
  refine ct_of (d := d + 0) (k := 2) (L := [some (I p0), some (I p1), some (I p2), some (I p3), some (I p4), some (I p5), none, none]) rfl rfl rfl ?_
  have hF0 := Fr.rf fm_n8129v10 M0
  generalize hQ : (qL fun z M => Pw M ∧ Fr fm_n8129v10 M0 M ∧ z < 18446744073709551616 ∧ 402611 ≤ z ∧ z ≤ 402611) = Q
  refine wk_il0 r129_0 (wk_c2 r129_1 (wk_isub r129_3 (wk_i2lb r129_4 ⟨by omega, by omega⟩ ?_)))
  intro n1 h2 h3
  refine wk_ls6 r129_5 rfl (wk_il1 r129_7 ?_)
  refine wk_ifeq r129_8 ⟨by omega, by omega⟩ ?_ ?_
  · intro h4
    exfalso
    omega
  · intro h5
    refine wk_ll6 r129_11 (wk_c1 r129_13 (wk_lshl5 r129_14 (by omega) ?_))
    intro n6 h7
    refine wk_il1 r129_15 (wk_c2 r129_16 (wk_isub r129_18 (wk_i2lb r129_19 ⟨by omega, by omega⟩ ?_)))
    intro n8 h9 h10
    refine wk_lor5 r129_20 (by omega) (by omega) (by omega) ?_
    intro n11 h12
    refine wk_ls6 r129_21 rfl (wk_il2 r129_23 ?_)
    refine wk_ifeq r129_24 ⟨by omega, by omega⟩ ?_ ?_
    · intro h13
      exfalso
      omega
    · intro h14
      refine wk_ll6 r129_27 (wk_c1 r129_29 (wk_lshl5 r129_30 (by omega) ?_))
      intro n15 h16
      refine wk_il2 r129_31 (wk_c2 r129_32 (wk_isub r129_34 (wk_i2lb r129_35 ⟨by omega, by omega⟩ ?_)))
      intro n17 h18 h19
      refine wk_lor5 r129_36 (by omega) (by omega) (by omega) ?_
      intro n20 h21
      refine wk_ls6 r129_37 rfl (wk_il3 r129_39 ?_)
      refine wk_ifeq r129_40 ⟨by omega, by omega⟩ ?_ ?_
      · intro h22
        exfalso
        omega
      · intro h23
        refine wk_ll6 r129_43 (wk_c1 r129_45 (wk_lshl5 r129_46 (by omega) ?_))
        intro n24 h25
        refine wk_il3 r129_47 (wk_c2 r129_48 (wk_isub r129_50 (wk_i2lb r129_51 ⟨by omega, by omega⟩ ?_)))
        intro n26 h27 h28
        refine wk_lor5 r129_52 (by omega) (by omega) (by omega) ?_
        intro n29 h30
        refine wk_ls6 r129_53 rfl (wk_il4 r129_55 ?_)
        refine wk_ifeq r129_57 ⟨by omega, by omega⟩ ?_ ?_
        · intro h31
          refine wk_il5 r129_73 ?_
          refine wk_ifeq r129_75 ⟨by omega, by omega⟩ ?_ ?_
          · intro h32
            refine wk_ll6 r129_91 ?_
            subst hQ; exact wk_lret r129_93 (⟨rfl, _, rfl, hP0, hF0, by omega, by omega, by omega⟩)
          · intro h33
            exfalso
            omega
        · intro h34
          exfalso
          omega
def fm_n8129v11 : Nat := 0
/-- IslandHallModel.spelled -/
theorem n8129v11 {B : eB} (d : Nat) (M0 : Mm) (p0 : Int) (p1 : Int) (p2 : Int) (p3 : Int) (p4 : Int) (p5 : Int) (hP0 : Pw M0) (l0 : 119 ≤ p0) (u0 : p0 ≤ 119) (l1 : 111 ≤ p1) (u1 : p1 ≤ 111) (l2 : 114 ≤ p2) (u2 : p2 ≤ 114) (l3 : 100 ≤ p3) (u3 : p3 ≤ 100) (l4 : 115 ≤ p4) (u4 : p4 ≤ 115) (l5 : 0 ≤ p5) (u5 : p5 ≤ 0) : Ct B (d + 1) 129 [I p0, I p1, I p2, I p3, I p4, I p5] M0 (qL fun z M => Pw M ∧ Fr fm_n8129v11 M0 M ∧ z < 18446744073709551616 ∧ 24627347 ≤ z ∧ z ≤ 24627347) := by
  refine ct_of (d := d + 0) (k := 2) (L := [some (I p0), some (I p1), some (I p2), some (I p3), some (I p4), some (I p5), none, none]) rfl rfl rfl ?_
  have hF0 := Fr.rf fm_n8129v11 M0
  generalize hQ : (qL fun z M => Pw M ∧ Fr fm_n8129v11 M0 M ∧ z < 18446744073709551616 ∧ 24627347 ≤ z ∧ z ≤ 24627347) = Q
  refine wk_il0 r129_0 (wk_c2 r129_1 (wk_isub r129_3 (wk_i2lb r129_4 ⟨by omega, by omega⟩ ?_)))
  intro n1 h2 h3
  refine wk_ls6 r129_5 rfl (wk_il1 r129_7 ?_)
  refine wk_ifeq r129_8 ⟨by omega, by omega⟩ ?_ ?_
  · intro h4
    exfalso
    omega
  · intro h5
    refine wk_ll6 r129_11 (wk_c1 r129_13 (wk_lshl5 r129_14 (by omega) ?_))
    intro n6 h7
    refine wk_il1 r129_15 (wk_c2 r129_16 (wk_isub r129_18 (wk_i2lb r129_19 ⟨by omega, by omega⟩ ?_)))
    intro n8 h9 h10
    refine wk_lor5 r129_20 (by omega) (by omega) (by omega) ?_
    intro n11 h12
    refine wk_ls6 r129_21 rfl (wk_il2 r129_23 ?_)
    refine wk_ifeq r129_24 ⟨by omega, by omega⟩ ?_ ?_
    · intro h13
      exfalso
      omega
    · intro h14
      refine wk_ll6 r129_27 (wk_c1 r129_29 (wk_lshl5 r129_30 (by omega) ?_))
      intro n15 h16
      refine wk_il2 r129_31 (wk_c2 r129_32 (wk_isub r129_34 (wk_i2lb r129_35 ⟨by omega, by omega⟩ ?_)))
      intro n17 h18 h19
      refine wk_lor5 r129_36 (by omega) (by omega) (by omega) ?_
      intro n20 h21
      refine wk_ls6 r129_37 rfl (wk_il3 r129_39 ?_)
      refine wk_ifeq r129_40 ⟨by omega, by omega⟩ ?_ ?_
      · intro h22
        exfalso
        omega
      · intro h23
        refine wk_ll6 r129_43 (wk_c1 r129_45 (wk_lshl5 r129_46 (by omega) ?_))
        intro n24 h25
        refine wk_il3 r129_47 (wk_c2 r129_48 (wk_isub r129_50 (wk_i2lb r129_51 ⟨by omega, by omega⟩ ?_)))
        intro n26 h27 h28
        refine wk_lor5 r129_52 (by omega) (by omega) (by omega) ?_
        intro n29 h30
        refine wk_ls6 r129_53 rfl (wk_il4 r129_55 ?_)
        refine wk_ifeq r129_57 ⟨by omega, by omega⟩ ?_ ?_
        · intro h31
          exfalso
          omega
        · intro h32
          refine wk_ll6 r129_60 (wk_c1 r129_62 (wk_lshl5 r129_63 (by omega) ?_))
          intro n33 h34
          refine wk_il4 r129_64 (wk_c2 r129_66 (wk_isub r129_68 (wk_i2lb r129_69 ⟨by omega, by omega⟩ ?_)))
          intro n35 h36 h37
          refine wk_lor5 r129_70 (by omega) (by omega) (by omega) ?_
          intro n38 h39
          refine wk_ls6 r129_71 rfl (wk_il5 r129_73 ?_)
          refine wk_ifeq r129_75 ⟨by omega, by omega⟩ ?_ ?_
          · intro h40
            refine wk_ll6 r129_91 ?_
            subst hQ; exact wk_lret r129_93 (⟨rfl, _, rfl, hP0, hF0, by omega, by omega, by omega⟩)
          · intro h41
            exfalso
            omega
def fm_n8129v12 : Nat := 0
/-- IslandHallModel.spelled -/
theorem n8129v12 {B : eB} (d : Nat) (M0 : Mm) (p0 : Int) (p1 : Int) (p2 : Int) (p3 : Int) (p4 : Int) (p5 : Int) (hP0 : Pw M0) (l0 : 102 ≤ p0) (u0 : p0 ≤ 102) (l1 : 97 ≤ p1) (u1 : p1 ≤ 97) (l2 : 99 ≤ p2) (u2 : p2 ≤ 99) (l3 : 116 ≤ p3) (u3 : p3 ≤ 116) (l4 : 0 ≤ p4) (u4 : p4 ≤ 0) (l5 : 0 ≤ p5) (u5 : p5 ≤ 0) : Ct B (d + 1) 129 [I p0, I p1, I p2, I p3, I p4, I p5] M0 (qL fun z M => Pw M ∧ Fr fm_n8129v12 M0 M ∧ z < 18446744073709551616 ∧ 197748 ≤ z ∧ z ≤ 197748) := by
  refine ct_of (d := d + 0) (k := 2) (L := [some (I p0), some (I p1), some (I p2), some (I p3), some (I p4), some (I p5), none, none]) rfl rfl rfl ?_
  have hF0 := Fr.rf fm_n8129v12 M0
  generalize hQ : (qL fun z M => Pw M ∧ Fr fm_n8129v12 M0 M ∧ z < 18446744073709551616 ∧ 197748 ≤ z ∧ z ≤ 197748) = Q
  refine wk_il0 r129_0 (wk_c2 r129_1 (wk_isub r129_3 (wk_i2lb r129_4 ⟨by omega, by omega⟩ ?_)))
  intro n1 h2 h3
  refine wk_ls6 r129_5 rfl (wk_il1 r129_7 ?_)
  refine wk_ifeq r129_8 ⟨by omega, by omega⟩ ?_ ?_
  · intro h4
    exfalso
    omega
  · intro h5
    refine wk_ll6 r129_11 (wk_c1 r129_13 (wk_lshl5 r129_14 (by omega) ?_))
    intro n6 h7
    refine wk_il1 r129_15 (wk_c2 r129_16 (wk_isub r129_18 (wk_i2lb r129_19 ⟨by omega, by omega⟩ ?_)))
    intro n8 h9 h10
    refine wk_lor5 r129_20 (by omega) (by omega) (by omega) ?_
    intro n11 h12
    refine wk_ls6 r129_21 rfl (wk_il2 r129_23 ?_)
    refine wk_ifeq r129_24 ⟨by omega, by omega⟩ ?_ ?_
    · intro h13
      exfalso
      omega
    · intro h14
      refine wk_ll6 r129_27 (wk_c1 r129_29 (wk_lshl5 r129_30 (by omega) ?_))
      intro n15 h16
      refine wk_il2 r129_31 (wk_c2 r129_32 (wk_isub r129_34 (wk_i2lb r129_35 ⟨by omega, by omega⟩ ?_)))
      intro n17 h18 h19
      refine wk_lor5 r129_36 (by omega) (by omega) (by omega) ?_
      intro n20 h21
      refine wk_ls6 r129_37 rfl (wk_il3 r129_39 ?_)
      refine wk_ifeq r129_40 ⟨by omega, by omega⟩ ?_ ?_
      · intro h22
        exfalso
        omega
      · intro h23
        refine wk_ll6 r129_43 (wk_c1 r129_45 (wk_lshl5 r129_46 (by omega) ?_))
        intro n24 h25
        refine wk_il3 r129_47 (wk_c2 r129_48 (wk_isub r129_50 (wk_i2lb r129_51 ⟨by omega, by omega⟩ ?_)))
        intro n26 h27 h28
        refine wk_lor5 r129_52 (by omega) (by omega) (by omega) ?_
        intro n29 h30
        refine wk_ls6 r129_53 rfl (wk_il4 r129_55 ?_)
        refine wk_ifeq r129_57 ⟨by omega, by omega⟩ ?_ ?_
        · intro h31
          refine wk_il5 r129_73 ?_
          refine wk_ifeq r129_75 ⟨by omega, by omega⟩ ?_ ?_
          · intro h32
            refine wk_ll6 r129_91 ?_
            subst hQ; exact wk_lret r129_93 (⟨rfl, _, rfl, hP0, hF0, by omega, by omega, by omega⟩)
          · intro h33
            exfalso
            omega
        · intro h34
          exfalso
          omega
def fm_n8129v13 : Nat := 0
/-- IslandHallModel.spelled -/
theorem n8129v13 {B : eB} (d : Nat) (M0 : Mm) (p0 : Int) (p1 : Int) (p2 : Int) (p3 : Int) (p4 : Int) (p5 : Int) (hP0 : Pw M0) (l0 : 97 ≤ p0) (u0 : p0 ≤ 97) (l1 : 110 ≤ p1) (u1 : p1 ≤ 110) (l2 : 100 ≤ p2) (u2 : p2 ≤ 100) (l3 : 0 ≤ p3) (u3 : p3 ≤ 0) (l4 : 0 ≤ p4) (u4 : p4 ≤ 0) (l5 : 0 ≤ p5) (u5 : p5 ≤ 0) : Ct B (d + 1) 129 [I p0, I p1, I p2, I p3, I p4, I p5] M0 (qL fun z M => Pw M ∧ Fr fm_n8129v13 M0 M ∧ z < 18446744073709551616 ∧ 1476 ≤ z ∧ z ≤ 1476) := by
  refine ct_of (d := d + 0) (k := 2) (L := [some (I p0), some (I p1), some (I p2), some (I p3), some (I p4), some (I p5), none, none]) rfl rfl rfl ?_
  have hF0 := Fr.rf fm_n8129v13 M0
  generalize hQ : (qL fun z M => Pw M ∧ Fr fm_n8129v13 M0 M ∧ z < 18446744073709551616 ∧ 1476 ≤ z ∧ z ≤ 1476) = Q
  refine wk_il0 r129_0 (wk_c2 r129_1 (wk_isub r129_3 (wk_i2lb r129_4 ⟨by omega, by omega⟩ ?_)))
  intro n1 h2 h3
  refine wk_ls6 r129_5 rfl (wk_il1 r129_7 ?_)
  refine wk_ifeq r129_8 ⟨by omega, by omega⟩ ?_ ?_
  · intro h4
    exfalso
    omega
  · intro h5
    refine wk_ll6 r129_11 (wk_c1 r129_13 (wk_lshl5 r129_14 (by omega) ?_))
    intro n6 h7
    refine wk_il1 r129_15 (wk_c2 r129_16 (wk_isub r129_18 (wk_i2lb r129_19 ⟨by omega, by omega⟩ ?_)))
    intro n8 h9 h10
    refine wk_lor5 r129_20 (by omega) (by omega) (by omega) ?_
    intro n11 h12
    refine wk_ls6 r129_21 rfl (wk_il2 r129_23 ?_)
    refine wk_ifeq r129_24 ⟨by omega, by omega⟩ ?_ ?_
    · intro h13
      exfalso
      omega
    · intro h14
      refine wk_ll6 r129_27 (wk_c1 r129_29 (wk_lshl5 r129_30 (by omega) ?_))
      intro n15 h16
      refine wk_il2 r129_31 (wk_c2 r129_32 (wk_isub r129_34 (wk_i2lb r129_35 ⟨by omega, by omega⟩ ?_)))
      intro n17 h18 h19
      refine wk_lor5 r129_36 (by omega) (by omega) (by omega) ?_
      intro n20 h21
      refine wk_ls6 r129_37 rfl (wk_il3 r129_39 ?_)
      refine wk_ifeq r129_40 ⟨by omega, by omega⟩ ?_ ?_
      · intro h22
        refine wk_il4 r129_55 ?_
        refine wk_ifeq r129_57 ⟨by omega, by omega⟩ ?_ ?_
        · intro h23
          refine wk_il5 r129_73 ?_
          refine wk_ifeq r129_75 ⟨by omega, by omega⟩ ?_ ?_
          · intro h24
            refine wk_ll6 r129_91 ?_
            subst hQ; exact wk_lret r129_93 (⟨rfl, _, rfl, hP0, hF0, by omega, by omega, by omega⟩)
          · intro h25
            exfalso
            omega
        · intro h26
          exfalso
          omega
      · intro h27
        exfalso
        omega
def fm_n8129v14 : Nat := 0
/-- IslandHallModel.spelled -/
theorem n8129v14 {B : eB} (d : Nat) (M0 : Mm) (p0 : Int) (p1 : Int) (p2 : Int) (p3 : Int) (p4 : Int) (p5 : Int) (hP0 : Pw M0) (l0 : 111 ≤ p0) (u0 : p0 ≤ 111) (l1 : 114 ≤ p1) (u1 : p1 ≤ 114) (l2 : 0 ≤ p2) (u2 : p2 ≤ 0) (l3 : 0 ≤ p3) (u3 : p3 ≤ 0) (l4 : 0 ≤ p4) (u4 : p4 ≤ 0) (l5 : 0 ≤ p5) (u5 : p5 ≤ 0) : Ct B (d + 1) 129 [I p0, I p1, I p2, I p3, I p4, I p5] M0 (qL fun z M => Pw M ∧ Fr fm_n8129v14 M0 M ∧ z < 18446744073709551616 ∧ 498 ≤ z ∧ z ≤ 498) := by
  refine ct_of (d := d + 0) (k := 2) (L := [some (I p0), some (I p1), some (I p2), some (I p3), some (I p4), some (I p5), none, none]) rfl rfl rfl ?_
  have hF0 := Fr.rf fm_n8129v14 M0
  generalize hQ : (qL fun z M => Pw M ∧ Fr fm_n8129v14 M0 M ∧ z < 18446744073709551616 ∧ 498 ≤ z ∧ z ≤ 498) = Q
  refine wk_il0 r129_0 (wk_c2 r129_1 (wk_isub r129_3 (wk_i2lb r129_4 ⟨by omega, by omega⟩ ?_)))
  intro n1 h2 h3
  refine wk_ls6 r129_5 rfl (wk_il1 r129_7 ?_)
  refine wk_ifeq r129_8 ⟨by omega, by omega⟩ ?_ ?_
  · intro h4
    exfalso
    omega
  · intro h5
    refine wk_ll6 r129_11 (wk_c1 r129_13 (wk_lshl5 r129_14 (by omega) ?_))
    intro n6 h7
    refine wk_il1 r129_15 (wk_c2 r129_16 (wk_isub r129_18 (wk_i2lb r129_19 ⟨by omega, by omega⟩ ?_)))
    intro n8 h9 h10
    refine wk_lor5 r129_20 (by omega) (by omega) (by omega) ?_
    intro n11 h12
    refine wk_ls6 r129_21 rfl (wk_il2 r129_23 ?_)
    refine wk_ifeq r129_24 ⟨by omega, by omega⟩ ?_ ?_
    · intro h13
      refine wk_il3 r129_39 ?_
      refine wk_ifeq r129_40 ⟨by omega, by omega⟩ ?_ ?_
      · intro h14
        refine wk_il4 r129_55 ?_
        refine wk_ifeq r129_57 ⟨by omega, by omega⟩ ?_ ?_
        · intro h15
          refine wk_il5 r129_73 ?_
          refine wk_ifeq r129_75 ⟨by omega, by omega⟩ ?_ ?_
          · intro h16
            refine wk_ll6 r129_91 ?_
            subst hQ; exact wk_lret r129_93 (⟨rfl, _, rfl, hP0, hF0, by omega, by omega, by omega⟩)
          · intro h17
            exfalso
            omega
        · intro h18
          exfalso
          omega
      · intro h19
        exfalso
        omega
    · intro h20
      exfalso
      omega
def fm_n8129v15 : Nat := 0
/-- IslandHallModel.spelled -/
theorem n8129v15 {B : eB} (d : Nat) (M0 : Mm) (p0 : Int) (p1 : Int) (p2 : Int) (p3 : Int) (p4 : Int) (p5 : Int) (hP0 : Pw M0) (l0 : 110 ≤ p0) (u0 : p0 ≤ 110) (l1 : 111 ≤ p1) (u1 : p1 ≤ 111) (l2 : 116 ≤ p2) (u2 : p2 ≤ 116) (l3 : 0 ≤ p3) (u3 : p3 ≤ 0) (l4 : 0 ≤ p4) (u4 : p4 ≤ 0) (l5 : 0 ≤ p5) (u5 : p5 ≤ 0) : Ct B (d + 1) 129 [I p0, I p1, I p2, I p3, I p4, I p5] M0 (qL fun z M => Pw M ∧ Fr fm_n8129v15 M0 M ∧ z < 18446744073709551616 ∧ 14836 ≤ z ∧ z ≤ 14836) := by
  refine ct_of (d := d + 0) (k := 2) (L := [some (I p0), some (I p1), some (I p2), some (I p3), some (I p4), some (I p5), none, none]) rfl rfl rfl ?_
  have hF0 := Fr.rf fm_n8129v15 M0
  generalize hQ : (qL fun z M => Pw M ∧ Fr fm_n8129v15 M0 M ∧ z < 18446744073709551616 ∧ 14836 ≤ z ∧ z ≤ 14836) = Q
  refine wk_il0 r129_0 (wk_c2 r129_1 (wk_isub r129_3 (wk_i2lb r129_4 ⟨by omega, by omega⟩ ?_)))
  intro n1 h2 h3
  refine wk_ls6 r129_5 rfl (wk_il1 r129_7 ?_)
  refine wk_ifeq r129_8 ⟨by omega, by omega⟩ ?_ ?_
  · intro h4
    exfalso
    omega
  · intro h5
    refine wk_ll6 r129_11 (wk_c1 r129_13 (wk_lshl5 r129_14 (by omega) ?_))
    intro n6 h7
    refine wk_il1 r129_15 (wk_c2 r129_16 (wk_isub r129_18 (wk_i2lb r129_19 ⟨by omega, by omega⟩ ?_)))
    intro n8 h9 h10
    refine wk_lor5 r129_20 (by omega) (by omega) (by omega) ?_
    intro n11 h12
    refine wk_ls6 r129_21 rfl (wk_il2 r129_23 ?_)
    refine wk_ifeq r129_24 ⟨by omega, by omega⟩ ?_ ?_
    · intro h13
      exfalso
      omega
    · intro h14
      refine wk_ll6 r129_27 (wk_c1 r129_29 (wk_lshl5 r129_30 (by omega) ?_))
      intro n15 h16
      refine wk_il2 r129_31 (wk_c2 r129_32 (wk_isub r129_34 (wk_i2lb r129_35 ⟨by omega, by omega⟩ ?_)))
      intro n17 h18 h19
      refine wk_lor5 r129_36 (by omega) (by omega) (by omega) ?_
      intro n20 h21
      refine wk_ls6 r129_37 rfl (wk_il3 r129_39 ?_)
      refine wk_ifeq r129_40 ⟨by omega, by omega⟩ ?_ ?_
      · intro h22
        refine wk_il4 r129_55 ?_
        refine wk_ifeq r129_57 ⟨by omega, by omega⟩ ?_ ?_
        · intro h23
          refine wk_il5 r129_73 ?_
          refine wk_ifeq r129_75 ⟨by omega, by omega⟩ ?_ ?_
          · intro h24
            refine wk_ll6 r129_91 ?_
            subst hQ; exact wk_lret r129_93 (⟨rfl, _, rfl, hP0, hF0, by omega, by omega, by omega⟩)
          · intro h25
            exfalso
            omega
        · intro h26
          exfalso
          omega
      · intro h27
        exfalso
        omega
def fm_n8129v16 : Nat := 0
/-- IslandHallModel.spelled -/
theorem n8129v16 {B : eB} (d : Nat) (M0 : Mm) (p0 : Int) (p1 : Int) (p2 : Int) (p3 : Int) (p4 : Int) (p5 : Int) (hP0 : Pw M0) (l0 : 105 ≤ p0) (u0 : p0 ≤ 105) (l1 : 115 ≤ p1) (u1 : p1 ≤ 115) (l2 : 0 ≤ p2) (u2 : p2 ≤ 0) (l3 : 0 ≤ p3) (u3 : p3 ≤ 0) (l4 : 0 ≤ p4) (u4 : p4 ≤ 0) (l5 : 0 ≤ p5) (u5 : p5 ≤ 0) : Ct B (d + 1) 129 [I p0, I p1, I p2, I p3, I p4, I p5] M0 (qL fun z M => Pw M ∧ Fr fm_n8129v16 M0 M ∧ z < 18446744073709551616 ∧ 307 ≤ z ∧ z ≤ 307) := by
  refine ct_of (d := d + 0) (k := 2) (L := [some (I p0), some (I p1), some (I p2), some (I p3), some (I p4), some (I p5), none, none]) rfl rfl rfl ?_
  have hF0 := Fr.rf fm_n8129v16 M0
  generalize hQ : (qL fun z M => Pw M ∧ Fr fm_n8129v16 M0 M ∧ z < 18446744073709551616 ∧ 307 ≤ z ∧ z ≤ 307) = Q
  refine wk_il0 r129_0 (wk_c2 r129_1 (wk_isub r129_3 (wk_i2lb r129_4 ⟨by omega, by omega⟩ ?_)))
  intro n1 h2 h3
  refine wk_ls6 r129_5 rfl (wk_il1 r129_7 ?_)
  refine wk_ifeq r129_8 ⟨by omega, by omega⟩ ?_ ?_
  · intro h4
    exfalso
    omega
  · intro h5
    refine wk_ll6 r129_11 (wk_c1 r129_13 (wk_lshl5 r129_14 (by omega) ?_))
    intro n6 h7
    refine wk_il1 r129_15 (wk_c2 r129_16 (wk_isub r129_18 (wk_i2lb r129_19 ⟨by omega, by omega⟩ ?_)))
    intro n8 h9 h10
    refine wk_lor5 r129_20 (by omega) (by omega) (by omega) ?_
    intro n11 h12
    refine wk_ls6 r129_21 rfl (wk_il2 r129_23 ?_)
    refine wk_ifeq r129_24 ⟨by omega, by omega⟩ ?_ ?_
    · intro h13
      refine wk_il3 r129_39 ?_
      refine wk_ifeq r129_40 ⟨by omega, by omega⟩ ?_ ?_
      · intro h14
        refine wk_il4 r129_55 ?_
        refine wk_ifeq r129_57 ⟨by omega, by omega⟩ ?_ ?_
        · intro h15
          refine wk_il5 r129_73 ?_
          refine wk_ifeq r129_75 ⟨by omega, by omega⟩ ?_ ?_
          · intro h16
            refine wk_ll6 r129_91 ?_
            subst hQ; exact wk_lret r129_93 (⟨rfl, _, rfl, hP0, hF0, by omega, by omega, by omega⟩)
          · intro h17
            exfalso
            omega
        · intro h18
          exfalso
          omega
      · intro h19
        exfalso
        omega
    · intro h20
      exfalso
      omega
def fm_n8129v17 : Nat := 0
/-- IslandHallModel.spelled -/
theorem n8129v17 {B : eB} (d : Nat) (M0 : Mm) (p0 : Int) (p1 : Int) (p2 : Int) (p3 : Int) (p4 : Int) (p5 : Int) (hP0 : Pw M0) (l0 : 97 ≤ p0) (u0 : p0 ≤ 97) (l1 : 115 ≤ p1) (u1 : p1 ≤ 115) (l2 : 0 ≤ p2) (u2 : p2 ≤ 0) (l3 : 0 ≤ p3) (u3 : p3 ≤ 0) (l4 : 0 ≤ p4) (u4 : p4 ≤ 0) (l5 : 0 ≤ p5) (u5 : p5 ≤ 0) : Ct B (d + 1) 129 [I p0, I p1, I p2, I p3, I p4, I p5] M0 (qL fun z M => Pw M ∧ Fr fm_n8129v17 M0 M ∧ z < 18446744073709551616 ∧ 51 ≤ z ∧ z ≤ 51) := by
  refine ct_of (d := d + 0) (k := 2) (L := [some (I p0), some (I p1), some (I p2), some (I p3), some (I p4), some (I p5), none, none]) rfl rfl rfl ?_
  have hF0 := Fr.rf fm_n8129v17 M0
  generalize hQ : (qL fun z M => Pw M ∧ Fr fm_n8129v17 M0 M ∧ z < 18446744073709551616 ∧ 51 ≤ z ∧ z ≤ 51) = Q
  refine wk_il0 r129_0 (wk_c2 r129_1 (wk_isub r129_3 (wk_i2lb r129_4 ⟨by omega, by omega⟩ ?_)))
  intro n1 h2 h3
  refine wk_ls6 r129_5 rfl (wk_il1 r129_7 ?_)
  refine wk_ifeq r129_8 ⟨by omega, by omega⟩ ?_ ?_
  · intro h4
    exfalso
    omega
  · intro h5
    refine wk_ll6 r129_11 (wk_c1 r129_13 (wk_lshl5 r129_14 (by omega) ?_))
    intro n6 h7
    refine wk_il1 r129_15 (wk_c2 r129_16 (wk_isub r129_18 (wk_i2lb r129_19 ⟨by omega, by omega⟩ ?_)))
    intro n8 h9 h10
    refine wk_lor5 r129_20 (by omega) (by omega) (by omega) ?_
    intro n11 h12
    refine wk_ls6 r129_21 rfl (wk_il2 r129_23 ?_)
    refine wk_ifeq r129_24 ⟨by omega, by omega⟩ ?_ ?_
    · intro h13
      refine wk_il3 r129_39 ?_
      refine wk_ifeq r129_40 ⟨by omega, by omega⟩ ?_ ?_
      · intro h14
        refine wk_il4 r129_55 ?_
        refine wk_ifeq r129_57 ⟨by omega, by omega⟩ ?_ ?_
        · intro h15
          refine wk_il5 r129_73 ?_
          refine wk_ifeq r129_75 ⟨by omega, by omega⟩ ?_ ?_
          · intro h16
            refine wk_ll6 r129_91 ?_
            subst hQ; exact wk_lret r129_93 (⟨rfl, _, rfl, hP0, hF0, by omega, by omega, by omega⟩)
          · intro h17
            exfalso
            omega
        · intro h18
          exfalso
          omega
      · intro h19
        exfalso
        omega
    · intro h20
      exfalso
      omega
def fm_n8129v18 : Nat := 0
/-- IslandHallModel.spelled -/
theorem n8129v18 {B : eB} (d : Nat) (M0 : Mm) (p0 : Int) (p1 : Int) (p2 : Int) (p3 : Int) (p4 : Int) (p5 : Int) (hP0 : Pw M0) (l0 : 115 ≤ p0) (u0 : p0 ≤ 115) (l1 : 97 ≤ p1) (u1 : p1 ≤ 97) (l2 : 121 ≤ p2) (u2 : p2 ≤ 121) (l3 : 115 ≤ p3) (u3 : p3 ≤ 115) (l4 : 0 ≤ p4) (u4 : p4 ≤ 0) (l5 : 0 ≤ p5) (u5 : p5 ≤ 0) : Ct B (d + 1) 129 [I p0, I p1, I p2, I p3, I p4, I p5] M0 (qL fun z M => Pw M ∧ Fr fm_n8129v18 M0 M ∧ z < 18446744073709551616 ∧ 624435 ≤ z ∧ z ≤ 624435) := by
  refine ct_of (d := d + 0) (k := 2) (L := [some (I p0), some (I p1), some (I p2), some (I p3), some (I p4), some (I p5), none, none]) rfl rfl rfl ?_
  have hF0 := Fr.rf fm_n8129v18 M0
  generalize hQ : (qL fun z M => Pw M ∧ Fr fm_n8129v18 M0 M ∧ z < 18446744073709551616 ∧ 624435 ≤ z ∧ z ≤ 624435) = Q
  refine wk_il0 r129_0 (wk_c2 r129_1 (wk_isub r129_3 (wk_i2lb r129_4 ⟨by omega, by omega⟩ ?_)))
  intro n1 h2 h3
  refine wk_ls6 r129_5 rfl (wk_il1 r129_7 ?_)
  refine wk_ifeq r129_8 ⟨by omega, by omega⟩ ?_ ?_
  · intro h4
    exfalso
    omega
  · intro h5
    refine wk_ll6 r129_11 (wk_c1 r129_13 (wk_lshl5 r129_14 (by omega) ?_))
    intro n6 h7
    refine wk_il1 r129_15 (wk_c2 r129_16 (wk_isub r129_18 (wk_i2lb r129_19 ⟨by omega, by omega⟩ ?_)))
    intro n8 h9 h10
    refine wk_lor5 r129_20 (by omega) (by omega) (by omega) ?_
    intro n11 h12
    refine wk_ls6 r129_21 rfl (wk_il2 r129_23 ?_)
    refine wk_ifeq r129_24 ⟨by omega, by omega⟩ ?_ ?_
    · intro h13
      exfalso
      omega
    · intro h14
      refine wk_ll6 r129_27 (wk_c1 r129_29 (wk_lshl5 r129_30 (by omega) ?_))
      intro n15 h16
      refine wk_il2 r129_31 (wk_c2 r129_32 (wk_isub r129_34 (wk_i2lb r129_35 ⟨by omega, by omega⟩ ?_)))
      intro n17 h18 h19
      refine wk_lor5 r129_36 (by omega) (by omega) (by omega) ?_
      intro n20 h21
      refine wk_ls6 r129_37 rfl (wk_il3 r129_39 ?_)
      refine wk_ifeq r129_40 ⟨by omega, by omega⟩ ?_ ?_
      · intro h22
        exfalso
        omega
      · intro h23
        refine wk_ll6 r129_43 (wk_c1 r129_45 (wk_lshl5 r129_46 (by omega) ?_))
        intro n24 h25
        refine wk_il3 r129_47 (wk_c2 r129_48 (wk_isub r129_50 (wk_i2lb r129_51 ⟨by omega, by omega⟩ ?_)))
        intro n26 h27 h28
        refine wk_lor5 r129_52 (by omega) (by omega) (by omega) ?_
        intro n29 h30
        refine wk_ls6 r129_53 rfl (wk_il4 r129_55 ?_)
        refine wk_ifeq r129_57 ⟨by omega, by omega⟩ ?_ ?_
        · intro h31
          refine wk_il5 r129_73 ?_
          refine wk_ifeq r129_75 ⟨by omega, by omega⟩ ?_ ?_
          · intro h32
            refine wk_ll6 r129_91 ?_
            subst hQ; exact wk_lret r129_93 (⟨rfl, _, rfl, hP0, hF0, by omega, by omega, by omega⟩)
          · intro h33
            exfalso
            omega
        · intro h34
          exfalso
          omega
def fm_n8129v19 : Nat := 0
/-- IslandHallModel.spelled -/
theorem n8129v19 {B : eB} (d : Nat) (M0 : Mm) (p0 : Int) (p1 : Int) (p2 : Int) (p3 : Int) (p4 : Int) (p5 : Int) (hP0 : Pw M0) (l0 : 114 ≤ p0) (u0 : p0 ≤ 114) (l1 : 111 ≤ p1) (u1 : p1 ≤ 111) (l2 : 97 ≤ p2) (u2 : p2 ≤ 97) (l3 : 100 ≤ p3) (u3 : p3 ≤ 100) (l4 : 0 ≤ p4) (u4 : p4 ≤ 0) (l5 : 0 ≤ p5) (u5 : p5 ≤ 0) : Ct B (d + 1) 129 [I p0, I p1, I p2, I p3, I p4, I p5] M0 (qL fun z M => Pw M ∧ Fr fm_n8129v19 M0 M ∧ z < 18446744073709551616 ∧ 605220 ≤ z ∧ z ≤ 605220) := by
  refine ct_of (d := d + 0) (k := 2) (L := [some (I p0), some (I p1), some (I p2), some (I p3), some (I p4), some (I p5), none, none]) rfl rfl rfl ?_
  have hF0 := Fr.rf fm_n8129v19 M0
  generalize hQ : (qL fun z M => Pw M ∧ Fr fm_n8129v19 M0 M ∧ z < 18446744073709551616 ∧ 605220 ≤ z ∧ z ≤ 605220) = Q
  refine wk_il0 r129_0 (wk_c2 r129_1 (wk_isub r129_3 (wk_i2lb r129_4 ⟨by omega, by omega⟩ ?_)))
  intro n1 h2 h3
  refine wk_ls6 r129_5 rfl (wk_il1 r129_7 ?_)
  refine wk_ifeq r129_8 ⟨by omega, by omega⟩ ?_ ?_
  · intro h4
    exfalso
    omega
  · intro h5
    refine wk_ll6 r129_11 (wk_c1 r129_13 (wk_lshl5 r129_14 (by omega) ?_))
    intro n6 h7
    refine wk_il1 r129_15 (wk_c2 r129_16 (wk_isub r129_18 (wk_i2lb r129_19 ⟨by omega, by omega⟩ ?_)))
    intro n8 h9 h10
    refine wk_lor5 r129_20 (by omega) (by omega) (by omega) ?_
    intro n11 h12
    refine wk_ls6 r129_21 rfl (wk_il2 r129_23 ?_)
    refine wk_ifeq r129_24 ⟨by omega, by omega⟩ ?_ ?_
    · intro h13
      exfalso
      omega
    · intro h14
      refine wk_ll6 r129_27 (wk_c1 r129_29 (wk_lshl5 r129_30 (by omega) ?_))
      intro n15 h16
      refine wk_il2 r129_31 (wk_c2 r129_32 (wk_isub r129_34 (wk_i2lb r129_35 ⟨by omega, by omega⟩ ?_)))
      intro n17 h18 h19
      refine wk_lor5 r129_36 (by omega) (by omega) (by omega) ?_
      intro n20 h21
      refine wk_ls6 r129_37 rfl (wk_il3 r129_39 ?_)
      refine wk_ifeq r129_40 ⟨by omega, by omega⟩ ?_ ?_
      · intro h22
        exfalso
        omega
      · intro h23
        refine wk_ll6 r129_43 (wk_c1 r129_45 (wk_lshl5 r129_46 (by omega) ?_))
        intro n24 h25
        refine wk_il3 r129_47 (wk_c2 r129_48 (wk_isub r129_50 (wk_i2lb r129_51 ⟨by omega, by omega⟩ ?_)))
        intro n26 h27 h28
        refine wk_lor5 r129_52 (by omega) (by omega) (by omega) ?_
        intro n29 h30
        refine wk_ls6 r129_53 rfl (wk_il4 r129_55 ?_)
        refine wk_ifeq r129_57 ⟨by omega, by omega⟩ ?_ ?_
        · intro h31
          refine wk_il5 r129_73 ?_
          refine wk_ifeq r129_75 ⟨by omega, by omega⟩ ?_ ?_
          · intro h32
            refine wk_ll6 r129_91 ?_
            subst hQ; exact wk_lret r129_93 (⟨rfl, _, rfl, hP0, hF0, by omega, by omega, by omega⟩)
          · intro h33
            exfalso
            omega
        · intro h34
          exfalso
          omega
def fm_n8129v20 : Nat := 0
/-- IslandHallModel.spelled -/
theorem n8129v20 {B : eB} (d : Nat) (M0 : Mm) (p0 : Int) (p1 : Int) (p2 : Int) (p3 : Int) (p4 : Int) (p5 : Int) (hP0 : Pw M0) (l0 : 109 ≤ p0) (u0 : p0 ≤ 109) (l1 : 97 ≤ p1) (u1 : p1 ≤ 97) (l2 : 110 ≤ p2) (u2 : p2 ≤ 110) (l3 : 121 ≤ p3) (u3 : p3 ≤ 121) (l4 : 0 ≤ p4) (u4 : p4 ≤ 0) (l5 : 0 ≤ p5) (u5 : p5 ≤ 0) : Ct B (d + 1) 129 [I p0, I p1, I p2, I p3, I p4, I p5] M0 (qL fun z M => Pw M ∧ Fr fm_n8129v20 M0 M ∧ z < 18446744073709551616 ∧ 427481 ≤ z ∧ z ≤ 427481) := by
  refine ct_of (d := d + 0) (k := 2) (L := [some (I p0), some (I p1), some (I p2), some (I p3), some (I p4), some (I p5), none, none]) rfl rfl rfl ?_
  have hF0 := Fr.rf fm_n8129v20 M0
  generalize hQ : (qL fun z M => Pw M ∧ Fr fm_n8129v20 M0 M ∧ z < 18446744073709551616 ∧ 427481 ≤ z ∧ z ≤ 427481) = Q
  refine wk_il0 r129_0 (wk_c2 r129_1 (wk_isub r129_3 (wk_i2lb r129_4 ⟨by omega, by omega⟩ ?_)))
  intro n1 h2 h3
  refine wk_ls6 r129_5 rfl (wk_il1 r129_7 ?_)
  refine wk_ifeq r129_8 ⟨by omega, by omega⟩ ?_ ?_
  · intro h4
    exfalso
    omega
  · intro h5
    refine wk_ll6 r129_11 (wk_c1 r129_13 (wk_lshl5 r129_14 (by omega) ?_))
    intro n6 h7
    refine wk_il1 r129_15 (wk_c2 r129_16 (wk_isub r129_18 (wk_i2lb r129_19 ⟨by omega, by omega⟩ ?_)))
    intro n8 h9 h10
    refine wk_lor5 r129_20 (by omega) (by omega) (by omega) ?_
    intro n11 h12
    refine wk_ls6 r129_21 rfl (wk_il2 r129_23 ?_)
    refine wk_ifeq r129_24 ⟨by omega, by omega⟩ ?_ ?_
    · intro h13
      exfalso
      omega
    · intro h14
      refine wk_ll6 r129_27 (wk_c1 r129_29 (wk_lshl5 r129_30 (by omega) ?_))
      intro n15 h16
      refine wk_il2 r129_31 (wk_c2 r129_32 (wk_isub r129_34 (wk_i2lb r129_35 ⟨by omega, by omega⟩ ?_)))
      intro n17 h18 h19
      refine wk_lor5 r129_36 (by omega) (by omega) (by omega) ?_
      intro n20 h21
      refine wk_ls6 r129_37 rfl (wk_il3 r129_39 ?_)
      refine wk_ifeq r129_40 ⟨by omega, by omega⟩ ?_ ?_
      · intro h22
        exfalso
        omega
      · intro h23
        refine wk_ll6 r129_43 (wk_c1 r129_45 (wk_lshl5 r129_46 (by omega) ?_))
        intro n24 h25
        refine wk_il3 r129_47 (wk_c2 r129_48 (wk_isub r129_50 (wk_i2lb r129_51 ⟨by omega, by omega⟩ ?_)))
        intro n26 h27 h28
        refine wk_lor5 r129_52 (by omega) (by omega) (by omega) ?_
        intro n29 h30
        refine wk_ls6 r129_53 rfl (wk_il4 r129_55 ?_)
        refine wk_ifeq r129_57 ⟨by omega, by omega⟩ ?_ ?_
        · intro h31
          refine wk_il5 r129_73 ?_
          refine wk_ifeq r129_75 ⟨by omega, by omega⟩ ?_ ?_
          · intro h32
            refine wk_ll6 r129_91 ?_
            subst hQ; exact wk_lret r129_93 (⟨rfl, _, rfl, hP0, hF0, by omega, by omega, by omega⟩)
          · intro h33
            exfalso
            omega
        · intro h34
          exfalso
          omega
def fm_n8129v21 : Nat := 0
/-- IslandHallModel.spelled -/
theorem n8129v21 {B : eB} (d : Nat) (M0 : Mm) (p0 : Int) (p1 : Int) (p2 : Int) (p3 : Int) (p4 : Int) (p5 : Int) (hP0 : Pw M0) (l0 : 119 ≤ p0) (u0 : p0 ≤ 119) (l1 : 111 ≤ p1) (u1 : p1 ≤ 111) (l2 : 114 ≤ p2) (u2 : p2 ≤ 114) (l3 : 100 ≤ p3) (u3 : p3 ≤ 100) (l4 : 0 ≤ p4) (u4 : p4 ≤ 0) (l5 : 0 ≤ p5) (u5 : p5 ≤ 0) : Ct B (d + 1) 129 [I p0, I p1, I p2, I p3, I p4, I p5] M0 (qL fun z M => Pw M ∧ Fr fm_n8129v21 M0 M ∧ z < 18446744073709551616 ∧ 769604 ≤ z ∧ z ≤ 769604) := by
  refine ct_of (d := d + 0) (k := 2) (L := [some (I p0), some (I p1), some (I p2), some (I p3), some (I p4), some (I p5), none, none]) rfl rfl rfl ?_
  have hF0 := Fr.rf fm_n8129v21 M0
  generalize hQ : (qL fun z M => Pw M ∧ Fr fm_n8129v21 M0 M ∧ z < 18446744073709551616 ∧ 769604 ≤ z ∧ z ≤ 769604) = Q
  refine wk_il0 r129_0 (wk_c2 r129_1 (wk_isub r129_3 (wk_i2lb r129_4 ⟨by omega, by omega⟩ ?_)))
  intro n1 h2 h3
  refine wk_ls6 r129_5 rfl (wk_il1 r129_7 ?_)
  refine wk_ifeq r129_8 ⟨by omega, by omega⟩ ?_ ?_
  · intro h4
    exfalso
    omega
  · intro h5
    refine wk_ll6 r129_11 (wk_c1 r129_13 (wk_lshl5 r129_14 (by omega) ?_))
    intro n6 h7
    refine wk_il1 r129_15 (wk_c2 r129_16 (wk_isub r129_18 (wk_i2lb r129_19 ⟨by omega, by omega⟩ ?_)))
    intro n8 h9 h10
    refine wk_lor5 r129_20 (by omega) (by omega) (by omega) ?_
    intro n11 h12
    refine wk_ls6 r129_21 rfl (wk_il2 r129_23 ?_)
    refine wk_ifeq r129_24 ⟨by omega, by omega⟩ ?_ ?_
    · intro h13
      exfalso
      omega
    · intro h14
      refine wk_ll6 r129_27 (wk_c1 r129_29 (wk_lshl5 r129_30 (by omega) ?_))
      intro n15 h16
      refine wk_il2 r129_31 (wk_c2 r129_32 (wk_isub r129_34 (wk_i2lb r129_35 ⟨by omega, by omega⟩ ?_)))
      intro n17 h18 h19
      refine wk_lor5 r129_36 (by omega) (by omega) (by omega) ?_
      intro n20 h21
      refine wk_ls6 r129_37 rfl (wk_il3 r129_39 ?_)
      refine wk_ifeq r129_40 ⟨by omega, by omega⟩ ?_ ?_
      · intro h22
        exfalso
        omega
      · intro h23
        refine wk_ll6 r129_43 (wk_c1 r129_45 (wk_lshl5 r129_46 (by omega) ?_))
        intro n24 h25
        refine wk_il3 r129_47 (wk_c2 r129_48 (wk_isub r129_50 (wk_i2lb r129_51 ⟨by omega, by omega⟩ ?_)))
        intro n26 h27 h28
        refine wk_lor5 r129_52 (by omega) (by omega) (by omega) ?_
        intro n29 h30
        refine wk_ls6 r129_53 rfl (wk_il4 r129_55 ?_)
        refine wk_ifeq r129_57 ⟨by omega, by omega⟩ ?_ ?_
        · intro h31
          refine wk_il5 r129_73 ?_
          refine wk_ifeq r129_75 ⟨by omega, by omega⟩ ?_ ?_
          · intro h32
            refine wk_ll6 r129_91 ?_
            subst hQ; exact wk_lret r129_93 (⟨rfl, _, rfl, hP0, hF0, by omega, by omega, by omega⟩)
          · intro h33
            exfalso
            omega
        · intro h34
          exfalso
          omega
def fm_n8104v6 : Nat := 0
/-- IslandHallModel.letters -/
theorem n8104v6 {B : eB} (d : Nat) (M0 : Mm) (p0 : Int) (hP0 : Pw M0) (l0 : 0 ≤ p0) (u0 : p0 ≤ 21) : Ct B (d + 2) 104 [I p0] M0 (qL fun z M => Pw M ∧ Fr fm_n8104v6 M0 M ∧ z < 18446744073709551616 ∧ 51 ≤ z ∧ z ≤ 693713074 ∧ (((z : Nat) : Int) = kwL.getD p0.toNat 0)) := by
  refine ct_of (d := d + 1) (k := 0) (L := [some (I p0)]) rfl rfl rfl ?_
  have hF0 := Fr.rf fm_n8104v6 M0
  generalize hQ : (qL fun z M => Pw M ∧ Fr fm_n8104v6 M0 M ∧ z < 18446744073709551616 ∧ 51 ≤ z ∧ z ≤ 693713074 ∧ (((z : Nat) : Int) = kwL.getD p0.toNat 0)) = Q
  refine wk_il0 r104_0 ?_
  refine wk_sw6 r104_1 ⟨by omega, by omega⟩ ?_ ?_ ?_ ?_ ?_ ?_ ?_ ?_ ?_ ?_ ?_ ?_ ?_ ?_ ?_ ?_ ?_ ?_ ?_ ?_ ?_ ?_
  · intro h1
    refine wk_c2 r104_393 (wk_c2 r104_395 (wk_c2 r104_397 (wk_c2 r104_399 (wk_c1 r104_401 (wk_c1 r104_402 (wk_cs102_6 r104_403 rfl (n8129v8 _ M0 116 111 108 100 0 0 hP0 (by decide) (by decide) (by decide) (by decide) (by decide) (by decide) (by decide) (by decide) (by decide) (by decide) (by decide) (by decide)) (cqL ?_)))))))
    rintro n6 M2 ⟨hP3, hQ4, h9, h7, h8⟩
    obtain rfl := Fr.same hQ4
    subst hQ; exact wk_lret r104_406 (⟨rfl, _, rfl, hP0, hF0, by omega, by omega, by omega, by rw [show p0 = 21 by omega]; show _ = (671108 : Int); omega⟩)
  · intro h10
    refine wk_c2 r104_100 (wk_c2 r104_102 (wk_c2 r104_104 (wk_c2 r104_106 (wk_c2 r104_108 (wk_c2 r104_110 (wk_cs102_6 r104_112 rfl (n8129 _ M0 104 111 110 101 115 116 hP0 (by decide) (by decide) (by decide) (by decide) (by decide) (by decide) (by decide) (by decide) (by decide) (by decide) (by decide) (by decide)) (cqL ?_)))))))
    rintro n15 M11 ⟨hP12, hQ13, h18, h16, h17⟩
    obtain rfl := Fr.same hQ13
    subst hQ; exact wk_lret r104_115 (⟨rfl, _, rfl, hP0, hF0, by omega, by omega, by omega, by rw [show p0 = 0 by omega]; show _ = (284628596 : Int); omega⟩)
  · intro h19
    refine wk_c2 r104_116 (wk_c2 r104_118 (wk_c2 r104_120 (wk_c2 r104_122 (wk_c1 r104_124 (wk_c1 r104_125 (wk_cs102_6 r104_126 rfl (n8129v1 _ M0 108 105 97 114 0 0 hP0 (by decide) (by decide) (by decide) (by decide) (by decide) (by decide) (by decide) (by decide) (by decide) (by decide) (by decide) (by decide)) (cqL ?_)))))))
    rintro n24 M20 ⟨hP21, hQ22, h27, h25, h26⟩
    obtain rfl := Fr.same hQ22
    subst hQ; exact wk_lret r104_129 (⟨rfl, _, rfl, hP0, hF0, by omega, by omega, by omega, by rw [show p0 = 1 by omega]; show _ = (402482 : Int); omega⟩)
  · intro h28
    refine wk_c2 r104_130 (wk_c2 r104_132 (wk_c2 r104_134 (wk_c2 r104_136 (wk_c2 r104_138 (wk_c2 r104_140 (wk_cs102_6 r104_142 rfl (n8129v2 _ M0 116 117 114 110 101 114 hP0 (by decide) (by decide) (by decide) (by decide) (by decide) (by decide) (by decide) (by decide) (by decide) (by decide) (by decide) (by decide)) (cqL ?_)))))))
    rintro n33 M29 ⟨hP30, hQ31, h36, h34, h35⟩
    obtain rfl := Fr.same hQ31
    subst hQ; exact wk_lret r104_145 (⟨rfl, _, rfl, hP0, hF0, by omega, by omega, by omega, by rw [show p0 = 2 by omega]; show _ = (693713074 : Int); omega⟩)
  · intro h37
    refine wk_c2 r104_146 (wk_c2 r104_148 (wk_c2 r104_150 (wk_c2 r104_152 (wk_c2 r104_154 (wk_c1 r104_156 (wk_cs102_6 r104_157 rfl (n8129v3 _ M0 100 97 121 101 114 0 hP0 (by decide) (by decide) (by decide) (by decide) (by decide) (by decide) (by decide) (by decide) (by decide) (by decide) (by decide) (by decide)) (cqL ?_)))))))
    rintro n42 M38 ⟨hP39, hQ40, h45, h43, h44⟩
    obtain rfl := Fr.same hQ40
    subst hQ; exact wk_lret r104_160 (⟨rfl, _, rfl, hP0, hF0, by omega, by omega, by omega, by rw [show p0 = 3 by omega]; show _ = (4252850 : Int); omega⟩)
  · intro h46
    refine wk_c2 r104_161 (wk_c2 r104_163 (wk_c2 r104_165 (wk_c2 r104_167 (wk_c1 r104_169 (wk_c1 r104_170 (wk_cs102_6 r104_171 rfl (n8129v4 _ M0 102 114 101 101 0 0 hP0 (by decide) (by decide) (by decide) (by decide) (by decide) (by decide) (by decide) (by decide) (by decide) (by decide) (by decide) (by decide)) (cqL ?_)))))))
    rintro n51 M47 ⟨hP48, hQ49, h54, h52, h53⟩
    obtain rfl := Fr.same hQ49
    subst hQ; exact wk_lret r104_174 (⟨rfl, _, rfl, hP0, hF0, by omega, by omega, by omega, by rw [show p0 = 4 by omega]; show _ = (215205 : Int); omega⟩)
  · intro h55
    refine wk_c2 r104_175 (wk_c2 r104_177 (wk_c2 r104_179 (wk_c2 r104_181 (wk_c2 r104_183 (wk_c2 r104_185 (wk_cs102_6 r104_187 rfl (n8129v5 _ M0 112 101 111 112 108 101 hP0 (by decide) (by decide) (by decide) (by decide) (by decide) (by decide) (by decide) (by decide) (by decide) (by decide) (by decide) (by decide)) (cqL ?_)))))))
    rintro n60 M56 ⟨hP57, hQ58, h63, h61, h62⟩
    obtain rfl := Fr.same hQ58
    subst hQ; exact wk_lret r104_190 (⟨rfl, _, rfl, hP0, hF0, by omega, by omega, by omega, by rw [show p0 = 5 by omega]; show _ = (542622085 : Int); omega⟩)
  · intro h64
    refine wk_c2 r104_191 (wk_c2 r104_193 (wk_c2 r104_195 (wk_c1 r104_197 (wk_c1 r104_198 (wk_c1 r104_199 (wk_cs102_6 r104_200 rfl (n8129v6 _ M0 109 97 121 0 0 0 hP0 (by decide) (by decide) (by decide) (by decide) (by decide) (by decide) (by decide) (by decide) (by decide) (by decide) (by decide) (by decide)) (cqL ?_)))))))
    rintro n69 M65 ⟨hP66, hQ67, h72, h70, h71⟩
    obtain rfl := Fr.same hQ67
    subst hQ; exact wk_lret r104_203 (⟨rfl, _, rfl, hP0, hF0, by omega, by omega, by omega, by rw [show p0 = 6 by omega]; show _ = (13369 : Int); omega⟩)
  · intro h73
    refine wk_c2 r104_204 (wk_c2 r104_206 (wk_c2 r104_208 (wk_c2 r104_210 (wk_c2 r104_212 (wk_c1 r104_214 (wk_cs102_6 r104_215 rfl (n8129v7 _ M0 114 111 97 100 115 0 hP0 (by decide) (by decide) (by decide) (by decide) (by decide) (by decide) (by decide) (by decide) (by decide) (by decide) (by decide) (by decide)) (cqL ?_)))))))
    rintro n78 M74 ⟨hP75, hQ76, h81, h79, h80⟩
    obtain rfl := Fr.same hQ76
    subst hQ; exact wk_lret r104_218 (⟨rfl, _, rfl, hP0, hF0, by omega, by omega, by omega, by rw [show p0 = 7 by omega]; show _ = (19367059 : Int); omega⟩)
  · intro h82
    refine wk_c2 r104_219 (wk_c2 r104_221 (wk_c2 r104_223 (wk_c1 r104_225 (wk_c1 r104_226 (wk_c1 r104_227 (wk_cs102_6 r104_228 rfl (n8129v9 _ M0 100 97 121 0 0 0 hP0 (by decide) (by decide) (by decide) (by decide) (by decide) (by decide) (by decide) (by decide) (by decide) (by decide) (by decide) (by decide)) (cqL ?_)))))))
    rintro n87 M83 ⟨hP84, hQ85, h90, h88, h89⟩
    obtain rfl := Fr.same hQ85
    subst hQ; exact wk_lret r104_231 (⟨rfl, _, rfl, hP0, hF0, by omega, by omega, by omega, by rw [show p0 = 8 by omega]; show _ = (4153 : Int); omega⟩)
  · intro h91
    refine wk_c2 r104_232 (wk_c2 r104_234 (wk_c2 r104_236 (wk_c2 r104_238 (wk_c1 r104_240 (wk_c1 r104_241 (wk_cs102_6 r104_242 rfl (n8129v10 _ M0 108 105 101 115 0 0 hP0 (by decide) (by decide) (by decide) (by decide) (by decide) (by decide) (by decide) (by decide) (by decide) (by decide) (by decide) (by decide)) (cqL ?_)))))))
    rintro n96 M92 ⟨hP93, hQ94, h99, h97, h98⟩
    obtain rfl := Fr.same hQ94
    subst hQ; exact wk_lret r104_245 (⟨rfl, _, rfl, hP0, hF0, by omega, by omega, by omega, by rw [show p0 = 9 by omega]; show _ = (402611 : Int); omega⟩)
  · intro h100
    refine wk_c2 r104_246 (wk_c2 r104_248 (wk_c2 r104_250 (wk_c2 r104_252 (wk_c2 r104_254 (wk_c1 r104_256 (wk_cs102_6 r104_257 rfl (n8129v11 _ M0 119 111 114 100 115 0 hP0 (by decide) (by decide) (by decide) (by decide) (by decide) (by decide) (by decide) (by decide) (by decide) (by decide) (by decide) (by decide)) (cqL ?_)))))))
    rintro n105 M101 ⟨hP102, hQ103, h108, h106, h107⟩
    obtain rfl := Fr.same hQ103
    subst hQ; exact wk_lret r104_260 (⟨rfl, _, rfl, hP0, hF0, by omega, by omega, by omega, by rw [show p0 = 10 by omega]; show _ = (24627347 : Int); omega⟩)
  · intro h109
    refine wk_c2 r104_261 (wk_c2 r104_263 (wk_c2 r104_265 (wk_c2 r104_267 (wk_c1 r104_269 (wk_c1 r104_270 (wk_cs102_6 r104_271 rfl (n8129v12 _ M0 102 97 99 116 0 0 hP0 (by decide) (by decide) (by decide) (by decide) (by decide) (by decide) (by decide) (by decide) (by decide) (by decide) (by decide) (by decide)) (cqL ?_)))))))
    rintro n114 M110 ⟨hP111, hQ112, h117, h115, h116⟩
    obtain rfl := Fr.same hQ112
    subst hQ; exact wk_lret r104_274 (⟨rfl, _, rfl, hP0, hF0, by omega, by omega, by omega, by rw [show p0 = 11 by omega]; show _ = (197748 : Int); omega⟩)
  · intro h118
    refine wk_c2 r104_275 (wk_c2 r104_277 (wk_c2 r104_279 (wk_c1 r104_281 (wk_c1 r104_282 (wk_c1 r104_283 (wk_cs102_6 r104_284 rfl (n8129v13 _ M0 97 110 100 0 0 0 hP0 (by decide) (by decide) (by decide) (by decide) (by decide) (by decide) (by decide) (by decide) (by decide) (by decide) (by decide) (by decide)) (cqL ?_)))))))
    rintro n123 M119 ⟨hP120, hQ121, h126, h124, h125⟩
    obtain rfl := Fr.same hQ121
    subst hQ; exact wk_lret r104_287 (⟨rfl, _, rfl, hP0, hF0, by omega, by omega, by omega, by rw [show p0 = 12 by omega]; show _ = (1476 : Int); omega⟩)
  · intro h127
    refine wk_c2 r104_288 (wk_c2 r104_290 (wk_c1 r104_292 (wk_c1 r104_293 (wk_c1 r104_294 (wk_c1 r104_295 (wk_cs102_6 r104_296 rfl (n8129v14 _ M0 111 114 0 0 0 0 hP0 (by decide) (by decide) (by decide) (by decide) (by decide) (by decide) (by decide) (by decide) (by decide) (by decide) (by decide) (by decide)) (cqL ?_)))))))
    rintro n132 M128 ⟨hP129, hQ130, h135, h133, h134⟩
    obtain rfl := Fr.same hQ130
    subst hQ; exact wk_lret r104_299 (⟨rfl, _, rfl, hP0, hF0, by omega, by omega, by omega, by rw [show p0 = 13 by omega]; show _ = (498 : Int); omega⟩)
  · intro h136
    refine wk_c2 r104_300 (wk_c2 r104_302 (wk_c2 r104_304 (wk_c1 r104_306 (wk_c1 r104_307 (wk_c1 r104_308 (wk_cs102_6 r104_309 rfl (n8129v15 _ M0 110 111 116 0 0 0 hP0 (by decide) (by decide) (by decide) (by decide) (by decide) (by decide) (by decide) (by decide) (by decide) (by decide) (by decide) (by decide)) (cqL ?_)))))))
    rintro n141 M137 ⟨hP138, hQ139, h144, h142, h143⟩
    obtain rfl := Fr.same hQ139
    subst hQ; exact wk_lret r104_312 (⟨rfl, _, rfl, hP0, hF0, by omega, by omega, by omega, by rw [show p0 = 14 by omega]; show _ = (14836 : Int); omega⟩)
  · intro h145
    refine wk_c2 r104_313 (wk_c2 r104_315 (wk_c1 r104_317 (wk_c1 r104_318 (wk_c1 r104_319 (wk_c1 r104_320 (wk_cs102_6 r104_321 rfl (n8129v16 _ M0 105 115 0 0 0 0 hP0 (by decide) (by decide) (by decide) (by decide) (by decide) (by decide) (by decide) (by decide) (by decide) (by decide) (by decide) (by decide)) (cqL ?_)))))))
    rintro n150 M146 ⟨hP147, hQ148, h153, h151, h152⟩
    obtain rfl := Fr.same hQ148
    subst hQ; exact wk_lret r104_324 (⟨rfl, _, rfl, hP0, hF0, by omega, by omega, by omega, by rw [show p0 = 15 by omega]; show _ = (307 : Int); omega⟩)
  · intro h154
    refine wk_c2 r104_325 (wk_c2 r104_327 (wk_c1 r104_329 (wk_c1 r104_330 (wk_c1 r104_331 (wk_c1 r104_332 (wk_cs102_6 r104_333 rfl (n8129v17 _ M0 97 115 0 0 0 0 hP0 (by decide) (by decide) (by decide) (by decide) (by decide) (by decide) (by decide) (by decide) (by decide) (by decide) (by decide) (by decide)) (cqL ?_)))))))
    rintro n159 M155 ⟨hP156, hQ157, h162, h160, h161⟩
    obtain rfl := Fr.same hQ157
    subst hQ; exact wk_lret r104_336 (⟨rfl, _, rfl, hP0, hF0, by omega, by omega, by omega, by rw [show p0 = 16 by omega]; show _ = (51 : Int); omega⟩)
  · intro h163
    refine wk_c2 r104_337 (wk_c2 r104_339 (wk_c2 r104_341 (wk_c2 r104_343 (wk_c1 r104_345 (wk_c1 r104_346 (wk_cs102_6 r104_347 rfl (n8129v18 _ M0 115 97 121 115 0 0 hP0 (by decide) (by decide) (by decide) (by decide) (by decide) (by decide) (by decide) (by decide) (by decide) (by decide) (by decide) (by decide)) (cqL ?_)))))))
    rintro n168 M164 ⟨hP165, hQ166, h171, h169, h170⟩
    obtain rfl := Fr.same hQ166
    subst hQ; exact wk_lret r104_350 (⟨rfl, _, rfl, hP0, hF0, by omega, by omega, by omega, by rw [show p0 = 17 by omega]; show _ = (624435 : Int); omega⟩)
  · intro h172
    refine wk_c2 r104_351 (wk_c2 r104_353 (wk_c2 r104_355 (wk_c2 r104_357 (wk_c1 r104_359 (wk_c1 r104_360 (wk_cs102_6 r104_361 rfl (n8129v19 _ M0 114 111 97 100 0 0 hP0 (by decide) (by decide) (by decide) (by decide) (by decide) (by decide) (by decide) (by decide) (by decide) (by decide) (by decide) (by decide)) (cqL ?_)))))))
    rintro n177 M173 ⟨hP174, hQ175, h180, h178, h179⟩
    obtain rfl := Fr.same hQ175
    subst hQ; exact wk_lret r104_364 (⟨rfl, _, rfl, hP0, hF0, by omega, by omega, by omega, by rw [show p0 = 18 by omega]; show _ = (605220 : Int); omega⟩)
  · intro h181
    refine wk_c2 r104_365 (wk_c2 r104_367 (wk_c2 r104_369 (wk_c2 r104_371 (wk_c1 r104_373 (wk_c1 r104_374 (wk_cs102_6 r104_375 rfl (n8129v20 _ M0 109 97 110 121 0 0 hP0 (by decide) (by decide) (by decide) (by decide) (by decide) (by decide) (by decide) (by decide) (by decide) (by decide) (by decide) (by decide)) (cqL ?_)))))))
    rintro n186 M182 ⟨hP183, hQ184, h189, h187, h188⟩
    obtain rfl := Fr.same hQ184
    subst hQ; exact wk_lret r104_378 (⟨rfl, _, rfl, hP0, hF0, by omega, by omega, by omega, by rw [show p0 = 19 by omega]; show _ = (427481 : Int); omega⟩)
  · intro h190
    refine wk_c2 r104_379 (wk_c2 r104_381 (wk_c2 r104_383 (wk_c2 r104_385 (wk_c1 r104_387 (wk_c1 r104_388 (wk_cs102_6 r104_389 rfl (n8129v21 _ M0 119 111 114 100 0 0 hP0 (by decide) (by decide) (by decide) (by decide) (by decide) (by decide) (by decide) (by decide) (by decide) (by decide) (by decide) (by decide)) (cqL ?_)))))))
    rintro n195 M191 ⟨hP192, hQ193, h198, h196, h197⟩
    obtain rfl := Fr.same hQ193
    subst hQ; exact wk_lret r104_392 (⟨rfl, _, rfl, hP0, hF0, by omega, by omega, by omega, by rw [show p0 = 20 by omega]; show _ = (769604 : Int); omega⟩)
def fm_n8097_739 : Nat := 0
/-- IslandHallModel.knownWord -/
theorem n8097_739 {B : eB} (d : Nat) (M0 : Mm) (x739_32 : Int) (x739_34 : Int) (x739_30 : Int) (x739_33 : Int) (T : Int → Int) (hP0 : Pw M0) (ex739_32 : M0 739 32 = x739_32) (lx739_32 : 0 ≤ x739_32) (ux739_32 : x739_32 ≤ 4) (ex739_34 : M0 739 34 = x739_34) (lx739_34 : 0 ≤ x739_34) (ux739_34 : x739_34 ≤ 500) (ex739_30 : M0 739 30 = x739_30) (lx739_30 : 0 ≤ x739_30) (ux739_30 : x739_30 ≤ 500) (ex739_33 : M0 739 33 = x739_33) (lx739_33 : 0 ≤ x739_33) (ux739_33 : x739_33 ≤ 500) (pp_TK : TK M0) (pp_TT : TTP T M0) : Ct B (d + 3) 97 [R 739] M0 (qI fun z M => Pw M ∧ Fr fm_n8097_739 M0 M ∧ (-1) ≤ z ∧ z ≤ 21 ∧ 0 ≤ 11 * (M 739 34) + (-1) * z + (-1) ∧ (z = kw T x739_30 x739_33)) := by
  refine ct_of (d := d + 2) (k := 1) (L := [some (R 739), none]) rfl rfl rfl ?_
  have hF0 := Fr.rf fm_n8097_739 M0
  generalize hQ : (qI fun z M => Pw M ∧ Fr fm_n8097_739 M0 M ∧ (-1) ≤ z ∧ z ≤ 21 ∧ 0 ≤ 11 * (M 739 34) + (-1) * z + (-1) ∧ (z = kw T x739_30 x739_33)) = Q
  have hTT := pp_TT
  unfold TTP at hTT
  rw [ex739_30, ex739_33] at hTT
  have hlt := tt_lt T x739_30 x739_33
  refine wk_al0 r97_0 (wk_getfi r97_1 fd_739_32 ex739_32 (wk_c1 r97_4 ?_))
  refine wk_icne r97_5 ⟨by omega, by omega⟩ (by decide) ?_ ?_
  · intro h1
    refine wk_c1 r97_17 ?_
    subst hQ; exact wk_iret r97_18 (⟨rfl, _, rfl, hP0, hF0, by omega, by omega, by have := ex739_34; omega, kw_no (by omega)⟩)
  · intro h2
    refine wk_al0 r97_8 (wk_getfi r97_9 fd_739_34 ex739_34 (wk_c2 r97_12 ?_))
    refine wk_icle r97_14 ⟨by omega, by omega⟩ (by decide) ?_ ?_
    · intro h3
      have hw9 := TT_w pp_TT ex739_33 ex739_34 (ex739_32.trans (by omega)) (by omega)
      refine wk_c1 r97_19 (wk_is1 r97_20 rfl ?_)
      have c21_252 : ∀ (k252 : Nat) (v221 : Int), (22 - v221).toNat = k252 → 0 ≤ v221 → v221 ≤ 22 → (∀ j : Nat, (j : Int) < v221 → kwL.getD j 0 ≠ wc T x739_33 (x739_34).toNat) → Wp B (d + 2) 97 21 [some (R 739), some (I v221)] [] M0 Q := by
        refine lp_ind ?_
        intro k252 ih252 v221 hk252 h222 h223 ti224
        refine wk_il1 r97_21 (wk_c2 r97_22 ?_)
        refine wk_icge r97_24 ⟨by omega, by omega⟩ (by decide) ?_ ?_
        · intro h225
          refine wk_c1 r97_47 ?_
          subst hQ; exact wk_iret r97_48 (⟨rfl, _, rfl, hP0, hF0, by omega, by omega, by have := ex739_34; omega, kw_mis (l := x739_34) (by omega) (by omega) (by omega) (fun j q => ti224 j (by omega))⟩)
        · intro h226
          refine wk_il1 r97_27 (wk_cs102_1 r97_28 rfl (n8104v6 _ M0 v221 hP0 (by first | with_reducible assumption | omega) (by first | with_reducible assumption | omega)) (cqL ?_))
          rintro n232 M227 ⟨hP228, hQ229, h235, h233, h234, xh231⟩
          obtain rfl := Fr.same hQ229
          refine wk_al0 r97_31 ?_
          refine wk_getfe r97_32 fd_739_37 (bf_739_37 hP0) ?_ (by decide)
          intro n236 h239 h240 e237
          have e238 : M0 739 37 = (n236 : Int) := by have := (bf_739_37 hP0); omega
          refine wk_lcmp r97_35 (by omega) (by omega) ?_ ?_
          · intro h241
            refine wk_ifne r97_36 (by decide) ?_ ?_
            · intro h247
              exfalso
              omega
            · intro h248
              have h249 : 2 ≤ x739_34 := by have q := pp_TK; unfold TK at q; omega
              refine wk_il1 r97_39 ?_
              subst hQ; exact wk_iret r97_40 (⟨rfl, _, rfl, hP0, hF0, by omega, by omega, by have := ex739_34; omega, kw_hit (l := x739_34) (by omega) (by omega) (by omega) (by omega) (by have := xh231; omega)⟩)
          · intro h242 v246 h243 h244 h245
            refine wk_ifne r97_36 ⟨by omega, by omega⟩ ?_ ?_
            · intro h250
              refine wk_inc1 r97_41 rfl (wk_goto r97_44 ?_)
              exact wp_fg (le_s (le_s le_0)) (ih252 (22 - (v221 + 1)).toNat (by omega) (v221 + 1) rfl (by first | with_reducible assumption | omega) (by first | with_reducible assumption | omega) (fun j q => by by_cases q7 : (j : Int) = v221; (have q6 := xh231; rw [← q7, Int.toNat_natCast] at q6; omega); (exact ti224 j (by omega))))
            · intro h251
              exfalso
              omega
      exact wp_fg (le_s (le_s le_0)) (c21_252 _ 0 rfl (by first | with_reducible assumption | omega) (by first | with_reducible assumption | omega) (fun j q => by omega))
    · intro h253
      refine wk_c1 r97_17 ?_
      subst hQ; exact wk_iret r97_18 (⟨rfl, _, rfl, hP0, hF0, by omega, by omega, by have := ex739_34; omega, kw_no (by omega)⟩)
def fm_n8086_739 : Nat := 0
/-- IslandHallModel.isName -/
theorem n8086_739 {B : eB} (d : Nat) (M0 : Mm) (x739_32 : Int) (x739_34 : Int) (x739_30 : Int) (x739_33 : Int) (T : Int → Int) (hP0 : Pw M0) (ex739_32 : M0 739 32 = x739_32) (lx739_32 : 0 ≤ x739_32) (ux739_32 : x739_32 ≤ 4) (ex739_34 : M0 739 34 = x739_34) (lx739_34 : 0 ≤ x739_34) (ux739_34 : x739_34 ≤ 500) (ex739_30 : M0 739 30 = x739_30) (lx739_30 : 0 ≤ x739_30) (ux739_30 : x739_30 ≤ 500) (ex739_33 : M0 739 33 = x739_33) (lx739_33 : 0 ≤ x739_33) (ux739_33 : x739_33 ≤ 500) (pp_TT : TTP T M0) : Ct B (d + 1) 86 [R 739] M0 (qI fun z M => Pw M ∧ Fr fm_n8086_739 M0 M ∧ 0 ≤ z ∧ z ≤ 1 ∧ (z = 1 → 0 ≤ M 739 34 + (-1)) ∧ (z = 1 → 0 ≤ (-1) * (M 739 34) + 1) ∧ (z = 1 → 0 ≤ M 739 32 + (-1)) ∧ (z = 1 → 0 ≤ (-1) * (M 739 32) + 1) ∧ (z = nmI T x739_30 x739_33)) := by
  refine ct_of (d := d + 0) (k := 0) (L := [some (R 739)]) rfl rfl rfl ?_
  have hF0 := Fr.rf fm_n8086_739 M0
  generalize hQ : (qI fun z M => Pw M ∧ Fr fm_n8086_739 M0 M ∧ 0 ≤ z ∧ z ≤ 1 ∧ (z = 1 → 0 ≤ M 739 34 + (-1)) ∧ (z = 1 → 0 ≤ (-1) * (M 739 34) + 1) ∧ (z = 1 → 0 ≤ M 739 32 + (-1)) ∧ (z = 1 → 0 ≤ (-1) * (M 739 32) + 1) ∧ (z = nmI T x739_30 x739_33)) = Q
  have hTT := pp_TT
  unfold TTP at hTT
  rw [ex739_30, ex739_33] at hTT
  have hlt := tt_lt T x739_30 x739_33
  refine wk_al0 r86_0 (wk_getfi r86_1 fd_739_32 ex739_32 (wk_c1 r86_4 ?_))
  refine wk_icne r86_5 ⟨by omega, by omega⟩ (by decide) ?_ ?_
  · intro h1
    refine wk_c1 r86_20 ?_
    subst hQ; exact wk_zret r86_21 (by decide) (⟨rfl, _, rfl, hP0, hF0, by omega, by omega, by omega, by omega, by omega, by omega, by have := nmI_c T x739_30 x739_33; omega⟩)
  · intro h2
    refine wk_al0 r86_8 (wk_getfi r86_9 fd_739_34 ex739_34 (wk_c1 r86_12 ?_))
    refine wk_icne r86_13 ⟨by omega, by omega⟩ (by decide) ?_ ?_
    · intro h3
      refine wk_c1 r86_20 ?_
      subst hQ; exact wk_zret r86_21 (by decide) (⟨rfl, _, rfl, hP0, hF0, by omega, by omega, by omega, by omega, by omega, by omega, by have := nmI_c T x739_30 x739_33; omega⟩)
    · intro h4
      refine wk_c1 r86_16 (wk_goto r86_17 ?_)
      subst hQ; exact wk_zret r86_21 (by decide) (⟨rfl, _, rfl, hP0, hF0, by omega, by omega, by have := ex739_34; omega, by have := ex739_34; omega, by have := ex739_32; omega, by have := ex739_32; omega, by have := nmI_c T x739_30 x739_33; omega⟩)
def fm_n8137_739 : Nat := 9415652603080021145753684134811499624153533166696051769344
/-- IslandHallModel.wrong -/
theorem n8137_739 {B : eB} (d : Nat) (M0 : Mm) (p1 : Int) (x739_28 : Int) (x739_33 : Int) (x739_29 : Int) (hP0 : Pw M0) (l1 : 1 ≤ p1) (u1 : p1 ≤ 6) (ex739_28 : M0 739 28 = x739_28) (lx739_28 : 0 ≤ x739_28) (ux739_28 : x739_28 ≤ 6) (ex739_33 : M0 739 33 = x739_33) (lx739_33 : 0 ≤ x739_33) (ux739_33 : x739_33 ≤ 500) (ex739_29 : M0 739 29 = x739_29) (lx739_29 : (-1) ≤ x739_29) (ux739_29 : x739_29 ≤ 501) : Ct B (d + 1) 137 [R 739, I p1] M0 (qV fun M => Pw M ∧ Fr fm_n8137_739 M0 M ∧ 0 ≤ M 739 28 + (-1) ∧ 0 ≤ M 739 28 + (-1) * x739_28 ∧ 0 ≤ M 739 29 + 1 ∧ 0 ≤ M 739 29 + (-1) * x739_29 + 3000 * (M 739 28) ∧ 0 ≤ (-1) * (M 739 29) + x739_29 + 3000 * (M 739 28) ∧ ((x739_28 = 0 ∧ M 739 28 = p1 ∧ M 739 29 = x739_33) ∨ (x739_28 ≠ 0 ∧ M 739 28 = x739_28 ∧ M 739 29 = x739_29))) := by
  refine ct_of (d := d + 0) (k := 0) (L := [some (R 739), some (I p1)]) rfl rfl rfl ?_
  have hF0 := Fr.rf fm_n8137_739 M0
  generalize hQ : (qV fun M => Pw M ∧ Fr fm_n8137_739 M0 M ∧ 0 ≤ M 739 28 + (-1) ∧ 0 ≤ M 739 28 + (-1) * x739_28 ∧ 0 ≤ M 739 29 + 1 ∧ 0 ≤ M 739 29 + (-1) * x739_29 + 3000 * (M 739 28) ∧ 0 ≤ (-1) * (M 739 29) + x739_29 + 3000 * (M 739 28) ∧ ((x739_28 = 0 ∧ M 739 28 = p1 ∧ M 739 29 = x739_33) ∨ (x739_28 ≠ 0 ∧ M 739 28 = x739_28 ∧ M 739 29 = x739_29))) = Q
  refine wk_al0 r137_0 (wk_getfi r137_1 fd_739_28 ex739_28 ?_)
  refine wk_ifeq r137_4 ⟨by omega, by omega⟩ ?_ ?_
  · intro h1
    refine wk_al0 r137_8 (wk_il1 r137_9 (wk_putfi81 r137_10 fd_739_28 (wk_nw g_739_28 rfl hP0 hF0 (uf_739_28 ⟨by omega, by omega⟩) ?_)))
    intro M2 hP3 hF4 e5
    refine wk_al0 r137_13 (wk_al0 r137_14 (wk_getfi r137_15 fd_739_33 (mUp_no e5 ex739_33 (Or.inr (by decide))) (wk_putfi81 r137_18 fd_739_29 (wk_nw g_739_29 rfl hP3 hF4 (uf_739_29 ⟨by omega, by omega⟩) ?_))))
    intro M6 hP7 hF8 e9
    subst hQ; exact wk_ret r137_21 (⟨rfl, hP7, hF8, by have := (mUp_no e9 (mUp_at e5) (Or.inr (by decide))); omega, by have := (mUp_no e9 (mUp_at e5) (Or.inr (by decide))); omega, by have := (mUp_at e9); omega, by have := (mUp_at e9); have := (mUp_no e9 (mUp_at e5) (Or.inr (by decide))); omega, by have := (mUp_at e9); have := (mUp_no e9 (mUp_at e5) (Or.inr (by decide))); omega, by have := (mUp_no e9 (mUp_no e5 ex739_33 (Or.inr (by decide))) (Or.inr (by decide))); have := (mUp_no e9 (mUp_at e5) (Or.inr (by decide))); have := (mUp_at e9); omega⟩)
  · intro h10
    subst hQ; exact wk_ret r137_7 (⟨rfl, hP0, hF0, by have := ex739_28; omega, by have := ex739_28; omega, by have := ex739_29; omega, by have := ex739_29; have := ex739_28; omega, by have := ex739_29; have := ex739_28; omega, by have := ex739_33; have := ex739_28; have := ex739_29; omega⟩)
def fm_n8088_739 : Nat := 0
/-- IslandHallModel.isSign -/
theorem n8088_739 {B : eB} (d : Nat) (M0 : Mm) (p1 : Int) (x739_32 : Int) (x739_36 : Int) (x739_30 : Int) (x739_33 : Int) (T : Int → Int) (hP0 : Pw M0) (l1 : 0 ≤ p1) (u1 : p1 ≤ 127) (ex739_32 : M0 739 32 = x739_32) (lx739_32 : 0 ≤ x739_32) (ux739_32 : x739_32 ≤ 4) (ex739_36 : M0 739 36 = x739_36) (lx739_36 : 0 ≤ x739_36) (ux739_36 : x739_36 ≤ 255) (ex739_30 : M0 739 30 = x739_30) (lx739_30 : 0 ≤ x739_30) (ux739_30 : x739_30 ≤ 500) (ex739_33 : M0 739 33 = x739_33) (lx739_33 : 0 ≤ x739_33) (ux739_33 : x739_33 ≤ 500) (pp_TT : TTP T M0) : Ct B (d + 1) 88 [R 739, I p1] M0 (qI fun z M => Pw M ∧ Fr fm_n8088_739 M0 M ∧ 0 ≤ z ∧ z ≤ 1 ∧ (z = 1 → 0 ≤ M 739 32 + (-3)) ∧ (z = 1 → 0 ≤ M 739 36 + (-1) * p1) ∧ (z = 1 → 0 ≤ (-1) * (M 739 36) + p1) ∧ (z = sgI T x739_30 x739_33 p1)) := by
  refine ct_of (d := d + 0) (k := 0) (L := [some (R 739), some (I p1)]) rfl rfl rfl ?_
  have hF0 := Fr.rf fm_n8088_739 M0
  generalize hQ : (qI fun z M => Pw M ∧ Fr fm_n8088_739 M0 M ∧ 0 ≤ z ∧ z ≤ 1 ∧ (z = 1 → 0 ≤ M 739 32 + (-3)) ∧ (z = 1 → 0 ≤ M 739 36 + (-1) * p1) ∧ (z = 1 → 0 ≤ (-1) * (M 739 36) + p1) ∧ (z = sgI T x739_30 x739_33 p1)) = Q
  have hTT := pp_TT
  unfold TTP at hTT
  rw [ex739_30, ex739_33] at hTT
  have hlt := tt_lt T x739_30 x739_33
  refine wk_al0 r88_0 (wk_getfi r88_1 fd_739_32 ex739_32 (wk_c1 r88_4 ?_))
  refine wk_icne r88_5 ⟨by omega, by omega⟩ (by decide) ?_ ?_
  · intro h1
    refine wk_c1 r88_20 ?_
    subst hQ; exact wk_zret r88_21 (by decide) (⟨rfl, _, rfl, hP0, hF0, by omega, by omega, by omega, by omega, by omega, by have := sgI_c T x739_30 x739_33 p1; omega⟩)
  · intro h2
    refine wk_al0 r88_8 (wk_getfi r88_9 fd_739_36 ex739_36 (wk_il1 r88_12 ?_))
    refine wk_icne r88_13 ⟨by omega, by omega⟩ ⟨by omega, by omega⟩ ?_ ?_
    · intro h3
      refine wk_c1 r88_20 ?_
      subst hQ; exact wk_zret r88_21 (by decide) (⟨rfl, _, rfl, hP0, hF0, by omega, by omega, by omega, by omega, by omega, by have := sgI_c T x739_30 x739_33 p1; omega⟩)
    · intro h4
      refine wk_c1 r88_16 (wk_goto r88_17 ?_)
      subst hQ; exact wk_zret r88_21 (by decide) (⟨rfl, _, rfl, hP0, hF0, by omega, by omega, by have := ex739_32; omega, by have := ex739_36; omega, by have := ex739_36; omega, by have := sgI_c T x739_30 x739_33 p1; omega⟩)
def fm_n8062_739 : Nat := 1645513972973809122176114936241485316482360019166746559400378368
