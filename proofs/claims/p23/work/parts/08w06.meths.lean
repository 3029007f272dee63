/-! ===== written by program (wip/layer2/all.py): contracts of methods ===== -/
def fm_m188_10 : Nat := 0
/-- IslandHall$Realm.codeAt -/
theorem m188_10 {B : eB} (d : Nat) (M0 : Mm) (p1 : Int) (p2 : Int) (hP0 : Pw M0) (l1 : 0 ≤ p1) (u1 : p1 ≤ 2999) (l2 : 0 ≤ p2) (u2 : p2 ≤ 6) : Ct B (d + 1) 188 [R 10, I p1, I p2] M0 (qI fun z M => Pw M ∧ Fr fm_m188_10 M0 M ∧ 0 ≤ z ∧ z ≤ 7) := by
  refine ct_of (d := d + 0) (k := 0) (L := [some (R 10), some (I p1), some (I p2)]) rfl rfl rfl ?_
  have hF0 := Fr.rf fm_m188_10 M0
  generalize hQ : (qI fun z M => Pw M ∧ Fr fm_m188_10 M0 M ∧ 0 ≤ z ∧ z ≤ 7) = Q
  refine wk_al0 r188_0 (wk_getfr r188_1 fd_10_1 (br_10_1 hP0) (wk_il1 r188_4 (wk_ialdb r188_5 ar_136 ⟨by omega, by omega⟩ (fun q0 q1 => ba_136 hP0 q0 q1) ?_)))
  intro v1 h3 h4 e2
  refine wk_c1 r188_6 (wk_il2 r188_7 (wk_imul r188_8 (wk_shrb r188_9 ⟨by omega, by omega⟩ ⟨by omega, by omega⟩ ?_)))
  intro v5 h6 h7 h8
  refine wk_c2 r188_10 (wk_iandc 3 8 r188_12 ⟨rfl, by decide⟩ rfl ?_)
  subst hQ; exact wk_iret r188_13 (⟨rfl, _, rfl, hP0, hF0, by omega, by omega⟩)
def fm_m197_10 : Nat := 0
/-- IslandHall$Realm.kindAt -/
theorem m197_10 {B : eB} (d : Nat) (M0 : Mm) (p1 : Int) (p2 : Int) (hP0 : Pw M0) (l1 : 0 ≤ p1) (u1 : p1 ≤ 2999) (l2 : 0 ≤ p2) (u2 : p2 ≤ 6) : Ct B (d + 2) 197 [R 10, I p1, I p2] M0 (qI fun z M => Pw M ∧ Fr fm_m197_10 M0 M ∧ 0 ≤ z ∧ z ≤ 4) := by
  refine ct_of (d := d + 1) (k := 1) (L := [some (R 10), some (I p1), some (I p2), none]) rfl rfl rfl ?_
  have hF0 := Fr.rf fm_m197_10 M0
  generalize hQ : (qI fun z M => Pw M ∧ Fr fm_m197_10 M0 M ∧ 0 ≤ z ∧ z ≤ 4) = Q
  refine wk_al0 r197_0 (wk_il1 r197_1 (wk_il2 r197_2 (wk_cv3 r197_3 kc_10_188 rfl (m188_10 _ M0 p1 p2 hP0 (by omega) (by omega) (by omega) (by omega)) (cqI ?_))))
  rintro v5 M1 ⟨hP2, hQ3, h6, h7⟩
  obtain rfl := Fr.same hQ3
  refine wk_is3 r197_6 rfl (wk_il3 r197_7 (wk_c2 r197_8 ?_))
  refine wk_icge r197_10 ⟨by omega, by omega⟩ (by decide) ?_ ?_
  · intro h8
    refine wk_c1 r197_21 ?_
    subst hQ; exact wk_iret r197_22 (⟨rfl, _, rfl, hP0, hF0, by omega, by omega⟩)
  · intro h9
    refine wk_kget r197_13 (wk_il3 r197_16 (wk_kald r197_17 ⟨by omega, by omega⟩ ?_))
    intro v10 h11 h12 h13
    refine wk_goto r197_18 ?_
    subst hQ; exact wk_iret r197_22 (⟨rfl, _, rfl, hP0, hF0, by omega, by omega⟩)
