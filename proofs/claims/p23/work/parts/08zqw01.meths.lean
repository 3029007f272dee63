/-! ===== written by program (wip/layer4) ===== -/
def fm_m8069_739 : Nat := 11692013098647223345629478661730264157247460343808
/-- IslandHallModel.fault -/
theorem m8069_739 {B : eB} (d : Nat) (M0 : Mm) (x739_29 : Int) (hP0 : Pw M0) (ex739_29 : M0 739 29 = x739_29) (lx739_29 : (-1) ≤ x739_29) (ux739_29 : x739_29 ≤ 501) : Ct B (d + 1) 69 [R 739] M0 (qI fun z M => Pw M ∧ Fr fm_m8069_739 M0 M ∧ (-1) ≤ z ∧ z ≤ 501 ∧ (z = x739_29)) := by
  refine ct_of (d := d + 0) (k := 0) (L := [some (R 739)]) rfl rfl rfl ?_
  have hF0 := Fr.rf fm_m8069_739 M0
  generalize hQ : (qI fun z M => Pw M ∧ Fr fm_m8069_739 M0 M ∧ (-1) ≤ z ∧ z ≤ 501 ∧ (z = x739_29)) = Q
  refine wk_al0 r69_0 (wk_c1 r69_1 (wk_putfi81 r69_2 fd_739_0 (wk_nw g_739_0 rfl hP0 hF0 (uf_739_0 (by decide)) ?_)))
  intro M1 hP2 hF3 e4
  refine wk_al0 r69_5 (wk_getfi r69_6 fd_739_29 (mUp_no e4 ex739_29 (Or.inr (by decide))) ?_)
  subst hQ; exact wk_iret r69_9 (⟨rfl, _, rfl, hP2, hF3, by omega, by omega, by omega⟩)
