/-! ===== written by program (wip/layer3/model.py): contracts of methods ===== -/
def fm_m9123_739 : Nat := 11692013098647223345629478661730264157247460343808
/-- IslandHallModel.right -/
theorem m9123_739 {B : eB} (d : Nat) (M0 : Mm) (p1 : Int) (p2 : Int) (x739_0 : Int) (hP0 : Pw M0) (l1 : 0 ≤ p1) (u1 : p1 ≤ 0) (l2 : 1 ≤ p2) (u2 : p2 ≤ 1) (ex739_0 : M0 739 0 = x739_0) (lx739_0 : 0 ≤ x739_0) (ux739_0 : x739_0 ≤ 1) : Ct B (d + 1) 123 [R 739, I p1, I p2] M0 (qI fun z M => Pw M ∧ Fr fm_m9123_739 M0 M ∧ 0 ≤ z ∧ z ≤ 0 ∧ (z = 1 → 0 ≤ p1 + (-1)) ∧ (M0 739 0 = 0 → z = p1)) := by
  refine ct_of (d := d + 0) (k := 0) (L := [some (R 739), some (I p1), some (I p2)]) rfl rfl rfl ?_
  have hF0 := Fr.rf fm_m9123_739 M0
  generalize hQ : (qI fun z M => Pw M ∧ Fr fm_m9123_739 M0 M ∧ 0 ≤ z ∧ z ≤ 0 ∧ (z = 1 → 0 ≤ p1 + (-1)) ∧ (M0 739 0 = 0 → z = p1)) = Q
  refine wk_al0 r123_0 (wk_getfi r123_1 fd_739_0 ex739_0 ?_)
  refine wk_ifne r123_4 ⟨by omega, by omega⟩ ?_ ?_
  · intro h1
    refine wk_al0 r123_16 (wk_getfi r123_17 fd_739_0 ex739_0 ?_)
    refine wk_ifne r123_20 ⟨by omega, by omega⟩ ?_ ?_
    · intro h2
      refine wk_c1 r123_27 ?_
      subst hQ; exact wk_zret r123_28 (by decide) (⟨rfl, _, rfl, hP0, hF0, by omega, by omega, by omega, by intro q; omega⟩)
    · intro h3
      exfalso
      omega
  · intro h4
    refine wk_il1 r123_7 ?_
    refine wk_ifne r123_8 ⟨by omega, by omega⟩ ?_ ?_
    · intro h5
      exfalso
      omega
    · intro h6
      refine wk_al0 r123_11 (wk_il2 r123_12 (wk_putfi81 r123_13 fd_739_0 (wk_nw g_739_0 rfl hP0 hF0 (uf_739_0 ⟨by omega, by omega⟩) ?_)))
      intro M7 hP8 hF9 e10
      refine wk_al0 r123_16 (wk_getfi r123_17 fd_739_0 (mUp_at e10) ?_)
      refine wk_ifne r123_20 ⟨by omega, by omega⟩ ?_ ?_
      · intro h11
        refine wk_c1 r123_27 ?_
        subst hQ; exact wk_zret r123_28 (by decide) (⟨rfl, _, rfl, hP8, hF9, by omega, by omega, by omega, by intro q; omega⟩)
      · intro h12
        exfalso
        omega
def fm_m9123_739v1 : Nat := 0
/-- IslandHallModel.right -/
theorem m9123_739v1 {B : eB} (d : Nat) (M0 : Mm) (p1 : Int) (p2 : Int) (x739_0 : Int) (hP0 : Pw M0) (l1 : 1 ≤ p1) (u1 : p1 ≤ 1) (l2 : 1 ≤ p2) (u2 : p2 ≤ 1) (ex739_0 : M0 739 0 = x739_0) (lx739_0 : 0 ≤ x739_0) (ux739_0 : x739_0 ≤ 1) : Ct B (d + 1) 123 [R 739, I p1, I p2] M0 (qI fun z M => Pw M ∧ Fr fm_m9123_739v1 M0 M ∧ 0 ≤ z ∧ z ≤ 1 ∧ (z = 1 → 0 ≤ p1 + (-1)) ∧ (M0 739 0 = 0 → z = p1)) := by
  refine ct_of (d := d + 0) (k := 0) (L := [some (R 739), some (I p1), some (I p2)]) rfl rfl rfl ?_
  have hF0 := Fr.rf fm_m9123_739v1 M0
  generalize hQ : (qI fun z M => Pw M ∧ Fr fm_m9123_739v1 M0 M ∧ 0 ≤ z ∧ z ≤ 1 ∧ (z = 1 → 0 ≤ p1 + (-1)) ∧ (M0 739 0 = 0 → z = p1)) = Q
  refine wk_al0 r123_0 (wk_getfi r123_1 fd_739_0 ex739_0 ?_)
  refine wk_ifne r123_4 ⟨by omega, by omega⟩ ?_ ?_
  · intro h1
    refine wk_al0 r123_16 (wk_getfi r123_17 fd_739_0 ex739_0 ?_)
    refine wk_ifne r123_20 ⟨by omega, by omega⟩ ?_ ?_
    · intro h2
      refine wk_c1 r123_27 ?_
      subst hQ; exact wk_zret r123_28 (by decide) (⟨rfl, _, rfl, hP0, hF0, by omega, by omega, by omega, by intro q; omega⟩)
    · intro h3
      exfalso
      omega
  · intro h4
    refine wk_il1 r123_7 ?_
    refine wk_ifne r123_8 ⟨by omega, by omega⟩ ?_ ?_
    · intro h5
      refine wk_al0 r123_16 (wk_getfi r123_17 fd_739_0 ex739_0 ?_)
      refine wk_ifne r123_20 ⟨by omega, by omega⟩ ?_ ?_
      · intro h6
        exfalso
        omega
      · intro h7
        refine wk_c1 r123_23 (wk_goto r123_24 ?_)
        subst hQ; exact wk_zret r123_28 (by decide) (⟨rfl, _, rfl, hP0, hF0, by omega, by omega, by omega, by intro q; omega⟩)
    · intro h8
      exfalso
      omega
