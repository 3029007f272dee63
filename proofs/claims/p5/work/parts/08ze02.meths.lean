/-! ===== written by program (wip/layer3/model.py): contracts of methods ===== -/
def fm_m9097_739 : Nat := 0
/-- IslandHallModel.knownWord -/
theorem m9097_739 {B : eB} (d : Nat) (M0 : Mm) (x739_32 : Int) (x739_34 : Int) (hP0 : Pw M0) (ex739_32 : M0 739 32 = x739_32) (lx739_32 : 0 ≤ x739_32) (ux739_32 : x739_32 ≤ 4) (ex739_34 : M0 739 34 = x739_34) (lx739_34 : 0 ≤ x739_34) (ux739_34 : x739_34 ≤ 500) (pp_TK : TK M0) : Ct B (d + 3) 97 [R 739] M0 (qI fun z M => Pw M ∧ Fr fm_m9097_739 M0 M ∧ (-1) ≤ z ∧ z ≤ 21 ∧ 0 ≤ 11 * (M 739 34) + (-1) * z + (-1)) := by
  refine ct_of (d := d + 2) (k := 1) (L := [some (R 739), none]) rfl rfl rfl ?_
  have hF0 := Fr.rf fm_m9097_739 M0
  generalize hQ : (qI fun z M => Pw M ∧ Fr fm_m9097_739 M0 M ∧ (-1) ≤ z ∧ z ≤ 21 ∧ 0 ≤ 11 * (M 739 34) + (-1) * z + (-1)) = Q
  refine wk_al0 r97_0 (wk_getfi r97_1 fd_739_32 ex739_32 (wk_c1 r97_4 ?_))
  refine wk_icne r97_5 ⟨by omega, by omega⟩ (by decide) ?_ ?_
  · intro h1
    refine wk_c1 r97_17 ?_
    subst hQ; exact wk_iret r97_18 (⟨rfl, _, rfl, hP0, hF0, by omega, by omega, by have := ex739_34; omega⟩)
  · intro h2
    refine wk_al0 r97_8 (wk_getfi r97_9 fd_739_34 ex739_34 (wk_c2 r97_12 ?_))
    refine wk_icle r97_14 ⟨by omega, by omega⟩ (by decide) ?_ ?_
    · intro h3
      refine wk_c1 r97_19 (wk_is1 r97_20 rfl ?_)
      have c21_236 : ∀ (k236 : Nat) (v207 : Int), (22 - v207).toNat = k236 → 0 ≤ v207 → v207 ≤ 22 → Wp B (d + 2) 97 21 [some (R 739), some (I v207)] [] M0 Q := by
        refine lp_ind ?_
        intro k236 ih236 v207 hk236 h208 h209
        refine wk_il1 r97_21 (wk_c2 r97_22 ?_)
        refine wk_icge r97_24 ⟨by omega, by omega⟩ (by decide) ?_ ?_
        · intro h210
          refine wk_c1 r97_47 ?_
          subst hQ; exact wk_iret r97_48 (⟨rfl, _, rfl, hP0, hF0, by omega, by omega, by have := ex739_34; omega⟩)
        · intro h211
          refine wk_il1 r97_27 (wk_cs102_1 r97_28 rfl (m9104v6 _ M0 v207 hP0 (by omega) (by omega)) (cqL ?_))
          rintro n216 M212 ⟨hP213, hQ214, h219, h217, h218⟩
          obtain rfl := Fr.same hQ214
          refine wk_al0 r97_31 ?_
          refine wk_getfe r97_32 fd_739_37 (bf_739_37 hP0) ?_ (by decide)
          intro n220 h223 h224 e221
          have e222 : M0 739 37 = (n220 : Int) := by have := (bf_739_37 hP0); omega
          refine wk_lcmp r97_35 (by omega) (by omega) ?_ ?_
          · intro h225
            refine wk_ifne r97_36 (by decide) ?_ ?_
            · intro h231
              exfalso
              omega
            · intro h232
              have h233 : 2 ≤ x739_34 := by have q := pp_TK; unfold TK at q; omega
              refine wk_il1 r97_39 ?_
              subst hQ; exact wk_iret r97_40 (⟨rfl, _, rfl, hP0, hF0, by omega, by omega, by have := ex739_34; omega⟩)
          · intro h226 v230 h227 h228 h229
            refine wk_ifne r97_36 ⟨by omega, by omega⟩ ?_ ?_
            · intro h234
              refine wk_inc1 r97_41 rfl (wk_goto r97_44 ?_)
              exact wp_fg (le_s (le_s le_0)) (ih236 (22 - (v207 + 1)).toNat (by omega) (v207 + 1) rfl (by first | assumption | omega) (by first | assumption | omega))
            · intro h235
              exfalso
              omega
      exact wp_fg (le_s (le_s le_0)) (c21_236 _ 0 rfl (by first | assumption | omega) (by first | assumption | omega))
    · intro h237
      refine wk_c1 r97_17 ?_
      subst hQ; exact wk_iret r97_18 (⟨rfl, _, rfl, hP0, hF0, by omega, by omega, by have := ex739_34; omega⟩)
def fm_m9084_739 : Nat := 0
/-- IslandHallModel.isGood -/
theorem m9084_739 {B : eB} (d : Nat) (M0 : Mm) (x739_28 : Int) (hP0 : Pw M0) (ex739_28 : M0 739 28 = x739_28) (lx739_28 : 0 ≤ x739_28) (ux739_28 : x739_28 ≤ 6) : Ct B (d + 1) 84 [R 739] M0 (qI fun z M => Pw M ∧ Fr fm_m9084_739 M0 M ∧ 0 ≤ z ∧ z ≤ 1 ∧ 0 ≤ 6 + (-6) * z + (-1) * (M 739 28) ∧ 0 ≤ z + M 739 28 + (-1)) := by
  refine ct_of (d := d + 0) (k := 0) (L := [some (R 739)]) rfl rfl rfl ?_
  have hF0 := Fr.rf fm_m9084_739 M0
  generalize hQ : (qI fun z M => Pw M ∧ Fr fm_m9084_739 M0 M ∧ 0 ≤ z ∧ z ≤ 1 ∧ 0 ≤ 6 + (-6) * z + (-1) * (M 739 28) ∧ 0 ≤ z + M 739 28 + (-1)) = Q
  refine wk_al0 r84_0 (wk_getfi r84_1 fd_739_28 ex739_28 ?_)
  refine wk_ifne r84_4 ⟨by omega, by omega⟩ ?_ ?_
  · intro h1
    refine wk_c1 r84_11 ?_
    subst hQ; exact wk_zret r84_12 (by decide) (⟨rfl, _, rfl, hP0, hF0, by omega, by omega, by have := ex739_28; omega, by have := ex739_28; omega⟩)
  · intro h2
    refine wk_c1 r84_7 (wk_goto r84_8 ?_)
    subst hQ; exact wk_zret r84_12 (by decide) (⟨rfl, _, rfl, hP0, hF0, by omega, by omega, by have := ex739_28; omega, by have := ex739_28; omega⟩)
def fm_m9088_739 : Nat := 0
/-- IslandHallModel.isSign -/
theorem m9088_739 {B : eB} (d : Nat) (M0 : Mm) (p1 : Int) (x739_32 : Int) (x739_36 : Int) (hP0 : Pw M0) (l1 : 0 ≤ p1) (u1 : p1 ≤ 127) (ex739_32 : M0 739 32 = x739_32) (lx739_32 : 0 ≤ x739_32) (ux739_32 : x739_32 ≤ 4) (ex739_36 : M0 739 36 = x739_36) (lx739_36 : 0 ≤ x739_36) (ux739_36 : x739_36 ≤ 255) : Ct B (d + 1) 88 [R 739, I p1] M0 (qI fun z M => Pw M ∧ Fr fm_m9088_739 M0 M ∧ 0 ≤ z ∧ z ≤ 1 ∧ (z = 1 → 0 ≤ M 739 32 + (-3)) ∧ (z = 1 → 0 ≤ M 739 36 + (-1) * p1) ∧ (z = 1 → 0 ≤ (-1) * (M 739 36) + p1)) := by
  refine ct_of (d := d + 0) (k := 0) (L := [some (R 739), some (I p1)]) rfl rfl rfl ?_
  have hF0 := Fr.rf fm_m9088_739 M0
  generalize hQ : (qI fun z M => Pw M ∧ Fr fm_m9088_739 M0 M ∧ 0 ≤ z ∧ z ≤ 1 ∧ (z = 1 → 0 ≤ M 739 32 + (-3)) ∧ (z = 1 → 0 ≤ M 739 36 + (-1) * p1) ∧ (z = 1 → 0 ≤ (-1) * (M 739 36) + p1)) = Q
  refine wk_al0 r88_0 (wk_getfi r88_1 fd_739_32 ex739_32 (wk_c1 r88_4 ?_))
  refine wk_icne r88_5 ⟨by omega, by omega⟩ (by decide) ?_ ?_
  · intro h1
    refine wk_c1 r88_20 ?_
    subst hQ; exact wk_zret r88_21 (by decide) (⟨rfl, _, rfl, hP0, hF0, by omega, by omega, by omega, by omega, by omega⟩)
  · intro h2
    refine wk_al0 r88_8 (wk_getfi r88_9 fd_739_36 ex739_36 (wk_il1 r88_12 ?_))
    refine wk_icne r88_13 ⟨by omega, by omega⟩ ⟨by omega, by omega⟩ ?_ ?_
    · intro h3
      refine wk_c1 r88_20 ?_
      subst hQ; exact wk_zret r88_21 (by decide) (⟨rfl, _, rfl, hP0, hF0, by omega, by omega, by omega, by omega, by omega⟩)
    · intro h4
      refine wk_c1 r88_16 (wk_goto r88_17 ?_)
      subst hQ; exact wk_zret r88_21 (by decide) (⟨rfl, _, rfl, hP0, hF0, by omega, by omega, by have := ex739_32; omega, by have := ex739_36; omega, by have := ex739_36; omega⟩)
def fm_m9137_739 : Nat := 9415652603080021145753684134811499624153533166696051769344
/-- IslandHallModel.wrong -/
theorem m9137_739 {B : eB} (d : Nat) (M0 : Mm) (p1 : Int) (x739_28 : Int) (x739_33 : Int) (hP0 : Pw M0) (l1 : 1 ≤ p1) (u1 : p1 ≤ 6) (ex739_28 : M0 739 28 = x739_28) (lx739_28 : 0 ≤ x739_28) (ux739_28 : x739_28 ≤ 6) (ex739_33 : M0 739 33 = x739_33) (lx739_33 : 0 ≤ x739_33) (ux739_33 : x739_33 ≤ 500) : Ct B (d + 1) 137 [R 739, I p1] M0 (qV fun M => Pw M ∧ Fr fm_m9137_739 M0 M ∧ 0 ≤ M 739 28 + (-1) ∧ 0 ≤ M 739 28 + (-1) * x739_28) := by
  refine ct_of (d := d + 0) (k := 0) (L := [some (R 739), some (I p1)]) rfl rfl rfl ?_
  have hF0 := Fr.rf fm_m9137_739 M0
  generalize hQ : (qV fun M => Pw M ∧ Fr fm_m9137_739 M0 M ∧ 0 ≤ M 739 28 + (-1) ∧ 0 ≤ M 739 28 + (-1) * x739_28) = Q
  refine wk_al0 r137_0 (wk_getfi r137_1 fd_739_28 ex739_28 ?_)
  refine wk_ifeq r137_4 ⟨by omega, by omega⟩ ?_ ?_
  · intro h1
    refine wk_al0 r137_8 (wk_il1 r137_9 (wk_putfi81 r137_10 fd_739_28 (wk_nw g_739_28 rfl hP0 hF0 (uf_739_28 ⟨by omega, by omega⟩) ?_)))
    intro M2 hP3 hF4 e5
    refine wk_al0 r137_13 (wk_al0 r137_14 (wk_getfi r137_15 fd_739_33 (mUp_no e5 ex739_33 (Or.inr (by decide))) (wk_putfi81 r137_18 fd_739_29 (wk_nw g_739_29 rfl hP3 hF4 (uf_739_29 ⟨by omega, by omega⟩) ?_))))
    intro M6 hP7 hF8 e9
    subst hQ; exact wk_ret r137_21 (⟨rfl, hP7, hF8, by have := (mUp_no e9 (mUp_at e5) (Or.inr (by decide))); omega, by have := (mUp_no e9 (mUp_at e5) (Or.inr (by decide))); omega⟩)
  · intro h10
    subst hQ; exact wk_ret r137_7 (⟨rfl, hP0, hF0, by have := ex739_28; omega, by have := ex739_28; omega⟩)
def fm_m9054_739 : Nat := 0
/-- IslandHallModel.byteAt -/
theorem m9054_739 {B : eB} (d : Nat) (M0 : Mm) (p1 : Int) (x739_30 : Int) (hP0 : Pw M0) (l1 : 0 ≤ p1) (u1 : p1 ≤ 500) (ex739_30 : M0 739 30 = x739_30) (lx739_30 : 0 ≤ x739_30) (ux739_30 : x739_30 ≤ 500) (rp0 : 0 ≤ x739_30 + (-1) * p1) : Ct B (d + 1) 54 [R 739, I p1] M0 (qI fun z M => Pw M ∧ Fr fm_m9054_739 M0 M ∧ 0 ≤ z ∧ z ≤ 255 ∧ 0 ≤ 255 * x739_30 + (-255) * p1 + (-1) * z ∧ (z = btF M0 p1)) := by
  refine ct_of (d := d + 0) (k := 0) (L := [some (R 739), some (I p1)]) rfl rfl rfl ?_
  have hF0 := Fr.rf fm_m9054_739 M0
  generalize hQ : (qI fun z M => Pw M ∧ Fr fm_m9054_739 M0 M ∧ 0 ≤ z ∧ z ≤ 255 ∧ 0 ≤ 255 * x739_30 + (-255) * p1 + (-1) * z ∧ (z = btF M0 p1)) = Q
  refine wk_il1 r54_0 (wk_al0 r54_1 (wk_getfi r54_2 fd_739_30 ex739_30 ?_))
  refine wk_icge r54_5 ⟨by omega, by omega⟩ ⟨by omega, by omega⟩ ?_ ?_
  · intro h1
    refine wk_c1 r54_17 ?_
    subst hQ; exact wk_iret r54_18 (⟨rfl, _, rfl, hP0, hF0, by omega, by omega, by omega, by unfold btF; split <;> omega⟩)
  · intro h2
    refine wk_al0 r54_8 (wk_getfr r54_9 fd_739_26 (br_739_26 hP0) (wk_il1 r54_12 (wk_ialdb r54_13 ar_755 ⟨by omega, by omega⟩ (fun q0 q1 => ba_755 hP0 q0 q1) ?_)))
    intro v3 h5 h6 e4
    refine wk_goto r54_14 ?_
    subst hQ; exact wk_iret r54_18 (⟨rfl, _, rfl, hP0, hF0, by omega, by omega, by omega, by unfold btF; split <;> omega⟩)
def fm_m9085 : Nat := 0
/-- IslandHallModel.isLetter -/
theorem m9085 {B : eB} (d : Nat) (M0 : Mm) (p0 : Int) (hP0 : Pw M0) (l0 : 0 ≤ p0) (u0 : p0 ≤ 255) : Ct B (d + 1) 85 [I p0] M0 (qI fun z M => Pw M ∧ Fr fm_m9085 M0 M ∧ 0 ≤ z ∧ z ≤ 1 ∧ (z = 1 → 0 ≤ p0 + (-97)) ∧ (z = 1 → 0 ≤ (-1) * p0 + 122) ∧ ((z = 1 ∧ 97 ≤ p0 ∧ p0 ≤ 122) ∨ (z = 0 ∧ (p0 < 97 ∨ 122 < p0)))) := by
  refine ct_of (d := d + 0) (k := 0) (L := [some (I p0)]) rfl rfl rfl ?_
  have hF0 := Fr.rf fm_m9085 M0
  generalize hQ : (qI fun z M => Pw M ∧ Fr fm_m9085 M0 M ∧ 0 ≤ z ∧ z ≤ 1 ∧ (z = 1 → 0 ≤ p0 + (-97)) ∧ (z = 1 → 0 ≤ (-1) * p0 + 122) ∧ ((z = 1 ∧ 97 ≤ p0 ∧ p0 ≤ 122) ∨ (z = 0 ∧ (p0 < 97 ∨ 122 < p0)))) = Q
  refine wk_il0 r85_0 (wk_c2 r85_1 ?_)
  refine wk_iclt r85_3 ⟨by omega, by omega⟩ (by decide) ?_ ?_
  · intro h1
    refine wk_c1 r85_16 ?_
    subst hQ; exact wk_zret r85_17 (by decide) (⟨rfl, _, rfl, hP0, hF0, by omega, by omega, by omega, by omega, by omega⟩)
  · intro h2
    refine wk_il0 r85_6 (wk_c2 r85_7 ?_)
    refine wk_icgt r85_9 ⟨by omega, by omega⟩ (by decide) ?_ ?_
    · intro h3
      refine wk_c1 r85_16 ?_
      subst hQ; exact wk_zret r85_17 (by decide) (⟨rfl, _, rfl, hP0, hF0, by omega, by omega, by omega, by omega, by omega⟩)
    · intro h4
      refine wk_c1 r85_12 (wk_goto r85_13 ?_)
      subst hQ; exact wk_zret r85_17 (by decide) (⟨rfl, _, rfl, hP0, hF0, by omega, by omega, by omega, by omega, by omega⟩)
def fm_m9082 : Nat := 0
/-- IslandHallModel.isDigit -/
theorem m9082 {B : eB} (d : Nat) (M0 : Mm) (p0 : Int) (hP0 : Pw M0) (l0 : 0 ≤ p0) (u0 : p0 ≤ 255) : Ct B (d + 1) 82 [I p0] M0 (qI fun z M => Pw M ∧ Fr fm_m9082 M0 M ∧ 0 ≤ z ∧ z ≤ 1 ∧ (z = 1 → 0 ≤ p0 + (-48)) ∧ (z = 1 → 0 ≤ (-1) * p0 + 57) ∧ ((z = 1 ∧ 48 ≤ p0 ∧ p0 ≤ 57) ∨ (z = 0 ∧ (p0 < 48 ∨ 57 < p0)))) := by
  refine ct_of (d := d + 0) (k := 0) (L := [some (I p0)]) rfl rfl rfl ?_
  have hF0 := Fr.rf fm_m9082 M0
  generalize hQ : (qI fun z M => Pw M ∧ Fr fm_m9082 M0 M ∧ 0 ≤ z ∧ z ≤ 1 ∧ (z = 1 → 0 ≤ p0 + (-48)) ∧ (z = 1 → 0 ≤ (-1) * p0 + 57) ∧ ((z = 1 ∧ 48 ≤ p0 ∧ p0 ≤ 57) ∨ (z = 0 ∧ (p0 < 48 ∨ 57 < p0)))) = Q
  refine wk_il0 r82_0 (wk_c2 r82_1 ?_)
  refine wk_iclt r82_3 ⟨by omega, by omega⟩ (by decide) ?_ ?_
  · intro h1
    refine wk_c1 r82_16 ?_
    subst hQ; exact wk_zret r82_17 (by decide) (⟨rfl, _, rfl, hP0, hF0, by omega, by omega, by omega, by omega, by omega⟩)
  · intro h2
    refine wk_il0 r82_6 (wk_c2 r82_7 ?_)
    refine wk_icgt r82_9 ⟨by omega, by omega⟩ (by decide) ?_ ?_
    · intro h3
      refine wk_c1 r82_16 ?_
      subst hQ; exact wk_zret r82_17 (by decide) (⟨rfl, _, rfl, hP0, hF0, by omega, by omega, by omega, by omega, by omega⟩)
    · intro h4
      refine wk_c1 r82_12 (wk_goto r82_13 ?_)
      subst hQ; exact wk_zret r82_17 (by decide) (⟨rfl, _, rfl, hP0, hF0, by omega, by omega, by omega, by omega, by omega⟩)
def fm_m9076_739 : Nat := 3188767681576433828028581026989494539379996565787729532551168
/-- IslandHallModel.goes -/
theorem m9076_739 {B : eB} (d : Nat) (M0 : Mm) (x739_30 : Int) (x739_31 : Int) (hP0 : Pw M0) (ex739_30 : M0 739 30 = x739_30) (lx739_30 : 0 ≤ x739_30) (ux739_30 : x739_30 ≤ 500) (ex739_31 : M0 739 31 = x739_31) (lx739_31 : 0 ≤ x739_31) (ux739_31 : x739_31 ≤ 500) (rp0 : 0 ≤ x739_30 + (-1) * x739_31) : Ct B (d + 2) 76 [R 739] M0 (qV fun M => Pw M ∧ Fr fm_m9076_739 M0 M ∧ 0 ≤ M 739 30 + (-1) * (M 739 31) ∧ 0 ≤ M 739 33 + (-1) * x739_31 ∧ 0 ≤ M 739 31 + (-1) * (M 739 33) + (-1) * (M 739 34) ∧ 0 ≤ (-1) * (M 739 31) + M 739 33 + M 739 34 ∧ 0 ≤ 4 * (M 739 34) + (-1) * (M 739 32) ∧ (TK M)) := by
  refine ct_of (d := d + 1) (k := 1) (L := [some (R 739), none]) rfl rfl rfl ?_
  have hF0 := Fr.rf fm_m9076_739 M0
  generalize hQ : (qV fun M => Pw M ∧ Fr fm_m9076_739 M0 M ∧ 0 ≤ M 739 30 + (-1) * (M 739 31) ∧ 0 ≤ M 739 33 + (-1) * x739_31 ∧ 0 ≤ M 739 31 + (-1) * (M 739 33) + (-1) * (M 739 34) ∧ 0 ≤ (-1) * (M 739 31) + M 739 33 + M 739 34 ∧ 0 ≤ 4 * (M 739 34) + (-1) * (M 739 32) ∧ (TK M)) = Q
  have c0_1098 : ∀ (k1098 : Nat) (M766 : Mm) (v769 : Int), (500 - v769).toNat = k1098 → Pw M766 → Fr fm_m9076_739 M0 M766 → M766 739 31 = v769 → M766 739 30 = x739_30 → 0 ≤ v769 → v769 ≤ 500 → 0 ≤ x739_30 + (-1) * v769 → 0 ≤ v769 + (-1) * x739_31 → Wp B (d + 1) 76 0 [some (R 739), none] [] M766 Q := by
    refine lp_ind ?_
    intro k1098 ih1098 M766 v769 hk1098 hP767 hF768 e772 e773 h770 h771 h774 h775
    refine wk_al0 r76_0 (wk_getfi r76_1 fd_739_31 e772 (wk_al0 r76_4 (wk_getfi r76_5 fd_739_30 e773 ?_)))
    have c50_1097 : Wp B (d + 1) 76 50 [some (R 739), none] [] M766 Q := by
      refine wk_al0 r76_50 (wk_al0 r76_51 (wk_getfi r76_52 fd_739_31 e772 (wk_putfi81 r76_55 fd_739_33 (wk_nw g_739_33 rfl hP767 hF768 (uf_739_33 ⟨by omega, by omega⟩) ?_))))
      intro M808 hP809 hF810 e811
      refine wk_al0 r76_58 (wk_c6 r76_59 (wk_putfl81 r76_60 fd_739_37 (wk_nw g_739_37 rfl hP809 hF810 (uf_739_37 ⟨by omega, by omega⟩) ?_)))
      intro M812 hP813 hF814 e815
      refine wk_al0 r76_63 (wk_c1 r76_64 (wk_putfi81 r76_65 fd_739_35 (wk_nw g_739_35 rfl hP813 hF814 (uf_739_35 (by decide)) ?_)))
      intro M816 hP817 hF818 e819
      refine wk_al0 r76_68 (wk_al0 r76_69 (wk_getfi r76_70 fd_739_31 (mUp_no e819 (mUp_no e815 (mUp_no e811 e772 (Or.inr (by decide))) (Or.inr (by decide))) (Or.inr (by decide))) (wk_cv2 r76_73 kc_739_54 rfl (m9054_739 _ M816 v769 x739_30 hP817 (by omega) (by omega) (mUp_no e819 (mUp_no e815 (mUp_no e811 e773 (Or.inr (by decide))) (Or.inr (by decide))) (Or.inr (by decide))) (by first | assumption | omega) (by first | assumption | omega) (by omega)) (cqI ?_))))
      rintro v826 M820 ⟨hP821, hQ822, h827, h828, h824, xh825⟩
      obtain rfl := Fr.same hQ822
      refine wk_is1 r76_76 rfl (wk_al0 r76_77 (wk_il1 r76_78 (wk_putfi81 r76_79 fd_739_36 (wk_nw g_739_36 rfl hP817 hF818 (uf_739_36 ⟨by omega, by omega⟩) ?_))))
      intro M829 hP830 hF831 e832
      refine wk_al0 r76_82 (wk_getfi r76_83 fd_739_31 (mUp_no e832 (mUp_no e819 (mUp_no e815 (mUp_no e811 e772 (Or.inr (by decide))) (Or.inr (by decide))) (Or.inr (by decide))) (Or.inr (by decide))) (wk_al0 r76_86 (wk_getfi r76_87 fd_739_30 (mUp_no e832 (mUp_no e819 (mUp_no e815 (mUp_no e811 e773 (Or.inr (by decide))) (Or.inr (by decide))) (Or.inr (by decide))) (Or.inr (by decide))) ?_)))
      refine wk_iclt r76_90 ⟨by omega, by omega⟩ ⟨by omega, by omega⟩ ?_ ?_
      · intro h833
        refine wk_il1 r76_101 (wk_cs102_1 r76_102 rfl (m9085 _ M829 v826 hP830 (by omega) (by omega)) (cqI ?_))
        rintro v841 M834 ⟨hP835, hQ836, h842, h843, h838, h839, xh840⟩
        obtain rfl := Fr.same hQ836
        refine wk_ifeq r76_105 ⟨by omega, by omega⟩ ?_ ?_
        · intro h844
          refine wk_il1 r76_180 (wk_cs102_1 r76_181 rfl (m9082 _ M829 v826 hP830 (by omega) (by omega)) (cqI ?_))
          rintro v852 M845 ⟨hP846, hQ847, h853, h854, h849, h850, xh851⟩
          obtain rfl := Fr.same hQ847
          refine wk_ifeq r76_184 ⟨by omega, by omega⟩ ?_ ?_
          · intro h855
            refine wk_al0 r76_258 (wk_dupr r76_259 (wk_getfi r76_260 fd_739_31 (mUp_no e832 (mUp_no e819 (mUp_no e815 (mUp_no e811 e772 (Or.inr (by decide))) (Or.inr (by decide))) (Or.inr (by decide))) (Or.inr (by decide))) (wk_c1 r76_263 (wk_iadd r76_264 (wk_putfi81 r76_265 fd_739_31 (wk_nw g_739_31 rfl hP830 hF831 (uf_739_31 ⟨by omega, by omega⟩) ?_))))))
            intro M856 hP857 hF858 e859
            refine wk_al0 r76_268 (wk_il1 r76_269 (wk_c2 r76_270 ?_))
            refine wk_iceq r76_272 ⟨by omega, by omega⟩ (by decide) ?_ ?_
            · intro h860
              refine wk_c1 r76_305 (wk_goto r76_306 (wk_putfi81 r76_310 fd_739_32 (wk_nw g_739_32 rfl hP857 hF858 (uf_739_32 (by decide)) ?_)))
              intro M861 hP862 hF863 e864
              refine wk_al0 r76_313 (wk_al0 r76_314 (wk_getfi r76_315 fd_739_31 (mUp_no e864 (mUp_at e859) (Or.inr (by decide))) (wk_al0 r76_318 (wk_getfi r76_319 fd_739_33 (mUp_no e864 (mUp_no e859 (mUp_no e832 (mUp_no e819 (mUp_no e815 (mUp_at e811) (Or.inr (by decide))) (Or.inr (by decide))) (Or.inr (by decide))) (Or.inr (by decide))) (Or.inr (by decide))) (wk_isub r76_322 (wk_putfi81 r76_323 fd_739_34 (wk_nw g_739_34 rfl hP862 hF863 (uf_739_34 ⟨by omega, by omega⟩) ?_)))))))
              intro M865 hP866 hF867 e868
              subst hQ; exact wk_ret r76_326 (⟨rfl, hP866, hF867, by have := (mUp_no e868 (mUp_no e864 (mUp_no e859 (mUp_no e832 (mUp_no e819 (mUp_no e815 (mUp_no e811 e773 (Or.inr (by decide))) (Or.inr (by decide))) (Or.inr (by decide))) (Or.inr (by decide))) (Or.inr (by decide))) (Or.inr (by decide))) (Or.inr (by decide))); have := (mUp_no e868 (mUp_no e864 (mUp_at e859) (Or.inr (by decide))) (Or.inr (by decide))); omega, by have := (mUp_no e868 (mUp_no e864 (mUp_no e859 (mUp_no e832 (mUp_no e819 (mUp_no e815 (mUp_at e811) (Or.inr (by decide))) (Or.inr (by decide))) (Or.inr (by decide))) (Or.inr (by decide))) (Or.inr (by decide))) (Or.inr (by decide))); omega, by have := (mUp_no e868 (mUp_no e864 (mUp_at e859) (Or.inr (by decide))) (Or.inr (by decide))); have := (mUp_no e868 (mUp_no e864 (mUp_no e859 (mUp_no e832 (mUp_no e819 (mUp_no e815 (mUp_at e811) (Or.inr (by decide))) (Or.inr (by decide))) (Or.inr (by decide))) (Or.inr (by decide))) (Or.inr (by decide))) (Or.inr (by decide))); have := (mUp_at e868); omega, by have := (mUp_no e868 (mUp_no e864 (mUp_at e859) (Or.inr (by decide))) (Or.inr (by decide))); have := (mUp_no e868 (mUp_no e864 (mUp_no e859 (mUp_no e832 (mUp_no e819 (mUp_no e815 (mUp_at e811) (Or.inr (by decide))) (Or.inr (by decide))) (Or.inr (by decide))) (Or.inr (by decide))) (Or.inr (by decide))) (Or.inr (by decide))); have := (mUp_at e868); omega, by have := (mUp_at e868); have := (mUp_no e868 (mUp_at e864) (Or.inr (by decide))); omega, by unfold TK; intro q1; have := (mUp_no e868 (mUp_at e864) (Or.inr (by decide))); have := (mUp_at e868); have := (mUp_no e868 (mUp_no e864 (mUp_no e859 (mUp_at e832) (Or.inr (by decide))) (Or.inr (by decide))) (Or.inr (by decide))); have := (mUp_no e868 (mUp_no e864 (mUp_no e859 (mUp_no e832 (mUp_no e819 (mUp_at e815) (Or.inr (by decide))) (Or.inr (by decide))) (Or.inr (by decide))) (Or.inr (by decide))) (Or.inr (by decide))); omega⟩)
            · intro h869
              refine wk_il1 r76_275 (wk_c2 r76_276 ?_)
              refine wk_iceq r76_278 ⟨by omega, by omega⟩ (by decide) ?_ ?_
              · intro h870
                refine wk_c1 r76_305 (wk_goto r76_306 (wk_putfi81 r76_310 fd_739_32 (wk_nw g_739_32 rfl hP857 hF858 (uf_739_32 (by decide)) ?_)))
                intro M871 hP872 hF873 e874
                refine wk_al0 r76_313 (wk_al0 r76_314 (wk_getfi r76_315 fd_739_31 (mUp_no e874 (mUp_at e859) (Or.inr (by decide))) (wk_al0 r76_318 (wk_getfi r76_319 fd_739_33 (mUp_no e874 (mUp_no e859 (mUp_no e832 (mUp_no e819 (mUp_no e815 (mUp_at e811) (Or.inr (by decide))) (Or.inr (by decide))) (Or.inr (by decide))) (Or.inr (by decide))) (Or.inr (by decide))) (wk_isub r76_322 (wk_putfi81 r76_323 fd_739_34 (wk_nw g_739_34 rfl hP872 hF873 (uf_739_34 ⟨by omega, by omega⟩) ?_)))))))
                intro M875 hP876 hF877 e878
                subst hQ; exact wk_ret r76_326 (⟨rfl, hP876, hF877, by have := (mUp_no e878 (mUp_no e874 (mUp_no e859 (mUp_no e832 (mUp_no e819 (mUp_no e815 (mUp_no e811 e773 (Or.inr (by decide))) (Or.inr (by decide))) (Or.inr (by decide))) (Or.inr (by decide))) (Or.inr (by decide))) (Or.inr (by decide))) (Or.inr (by decide))); have := (mUp_no e878 (mUp_no e874 (mUp_at e859) (Or.inr (by decide))) (Or.inr (by decide))); omega, by have := (mUp_no e878 (mUp_no e874 (mUp_no e859 (mUp_no e832 (mUp_no e819 (mUp_no e815 (mUp_at e811) (Or.inr (by decide))) (Or.inr (by decide))) (Or.inr (by decide))) (Or.inr (by decide))) (Or.inr (by decide))) (Or.inr (by decide))); omega, by have := (mUp_no e878 (mUp_no e874 (mUp_at e859) (Or.inr (by decide))) (Or.inr (by decide))); have := (mUp_no e878 (mUp_no e874 (mUp_no e859 (mUp_no e832 (mUp_no e819 (mUp_no e815 (mUp_at e811) (Or.inr (by decide))) (Or.inr (by decide))) (Or.inr (by decide))) (Or.inr (by decide))) (Or.inr (by decide))) (Or.inr (by decide))); have := (mUp_at e878); omega, by have := (mUp_no e878 (mUp_no e874 (mUp_at e859) (Or.inr (by decide))) (Or.inr (by decide))); have := (mUp_no e878 (mUp_no e874 (mUp_no e859 (mUp_no e832 (mUp_no e819 (mUp_no e815 (mUp_at e811) (Or.inr (by decide))) (Or.inr (by decide))) (Or.inr (by decide))) (Or.inr (by decide))) (Or.inr (by decide))) (Or.inr (by decide))); have := (mUp_at e878); omega, by have := (mUp_at e878); have := (mUp_no e878 (mUp_at e874) (Or.inr (by decide))); omega, by unfold TK; intro q1; have := (mUp_no e878 (mUp_at e874) (Or.inr (by decide))); have := (mUp_at e878); have := (mUp_no e878 (mUp_no e874 (mUp_no e859 (mUp_at e832) (Or.inr (by decide))) (Or.inr (by decide))) (Or.inr (by decide))); have := (mUp_no e878 (mUp_no e874 (mUp_no e859 (mUp_no e832 (mUp_no e819 (mUp_at e815) (Or.inr (by decide))) (Or.inr (by decide))) (Or.inr (by decide))) (Or.inr (by decide))) (Or.inr (by decide))); omega⟩)
              · intro h879
                refine wk_il1 r76_281 (wk_c2 r76_282 ?_)
                refine wk_iceq r76_284 ⟨by omega, by omega⟩ (by decide) ?_ ?_
                · intro h880
                  refine wk_c1 r76_305 (wk_goto r76_306 (wk_putfi81 r76_310 fd_739_32 (wk_nw g_739_32 rfl hP857 hF858 (uf_739_32 (by decide)) ?_)))
                  intro M881 hP882 hF883 e884
                  refine wk_al0 r76_313 (wk_al0 r76_314 (wk_getfi r76_315 fd_739_31 (mUp_no e884 (mUp_at e859) (Or.inr (by decide))) (wk_al0 r76_318 (wk_getfi r76_319 fd_739_33 (mUp_no e884 (mUp_no e859 (mUp_no e832 (mUp_no e819 (mUp_no e815 (mUp_at e811) (Or.inr (by decide))) (Or.inr (by decide))) (Or.inr (by decide))) (Or.inr (by decide))) (Or.inr (by decide))) (wk_isub r76_322 (wk_putfi81 r76_323 fd_739_34 (wk_nw g_739_34 rfl hP882 hF883 (uf_739_34 ⟨by omega, by omega⟩) ?_)))))))
                  intro M885 hP886 hF887 e888
                  subst hQ; exact wk_ret r76_326 (⟨rfl, hP886, hF887, by have := (mUp_no e888 (mUp_no e884 (mUp_no e859 (mUp_no e832 (mUp_no e819 (mUp_no e815 (mUp_no e811 e773 (Or.inr (by decide))) (Or.inr (by decide))) (Or.inr (by decide))) (Or.inr (by decide))) (Or.inr (by decide))) (Or.inr (by decide))) (Or.inr (by decide))); have := (mUp_no e888 (mUp_no e884 (mUp_at e859) (Or.inr (by decide))) (Or.inr (by decide))); omega, by have := (mUp_no e888 (mUp_no e884 (mUp_no e859 (mUp_no e832 (mUp_no e819 (mUp_no e815 (mUp_at e811) (Or.inr (by decide))) (Or.inr (by decide))) (Or.inr (by decide))) (Or.inr (by decide))) (Or.inr (by decide))) (Or.inr (by decide))); omega, by have := (mUp_no e888 (mUp_no e884 (mUp_at e859) (Or.inr (by decide))) (Or.inr (by decide))); have := (mUp_no e888 (mUp_no e884 (mUp_no e859 (mUp_no e832 (mUp_no e819 (mUp_no e815 (mUp_at e811) (Or.inr (by decide))) (Or.inr (by decide))) (Or.inr (by decide))) (Or.inr (by decide))) (Or.inr (by decide))) (Or.inr (by decide))); have := (mUp_at e888); omega, by have := (mUp_no e888 (mUp_no e884 (mUp_at e859) (Or.inr (by decide))) (Or.inr (by decide))); have := (mUp_no e888 (mUp_no e884 (mUp_no e859 (mUp_no e832 (mUp_no e819 (mUp_no e815 (mUp_at e811) (Or.inr (by decide))) (Or.inr (by decide))) (Or.inr (by decide))) (Or.inr (by decide))) (Or.inr (by decide))) (Or.inr (by decide))); have := (mUp_at e888); omega, by have := (mUp_at e888); have := (mUp_no e888 (mUp_at e884) (Or.inr (by decide))); omega, by unfold TK; intro q1; have := (mUp_no e888 (mUp_at e884) (Or.inr (by decide))); have := (mUp_at e888); have := (mUp_no e888 (mUp_no e884 (mUp_no e859 (mUp_at e832) (Or.inr (by decide))) (Or.inr (by decide))) (Or.inr (by decide))); have := (mUp_no e888 (mUp_no e884 (mUp_no e859 (mUp_no e832 (mUp_no e819 (mUp_at e815) (Or.inr (by decide))) (Or.inr (by decide))) (Or.inr (by decide))) (Or.inr (by decide))) (Or.inr (by decide))); omega⟩)
                · intro h889
                  refine wk_il1 r76_287 (wk_c2 r76_288 ?_)
                  refine wk_iceq r76_290 ⟨by omega, by omega⟩ (by decide) ?_ ?_
                  · intro h890
                    refine wk_c1 r76_305 (wk_goto r76_306 (wk_putfi81 r76_310 fd_739_32 (wk_nw g_739_32 rfl hP857 hF858 (uf_739_32 (by decide)) ?_)))
                    intro M891 hP892 hF893 e894
                    refine wk_al0 r76_313 (wk_al0 r76_314 (wk_getfi r76_315 fd_739_31 (mUp_no e894 (mUp_at e859) (Or.inr (by decide))) (wk_al0 r76_318 (wk_getfi r76_319 fd_739_33 (mUp_no e894 (mUp_no e859 (mUp_no e832 (mUp_no e819 (mUp_no e815 (mUp_at e811) (Or.inr (by decide))) (Or.inr (by decide))) (Or.inr (by decide))) (Or.inr (by decide))) (Or.inr (by decide))) (wk_isub r76_322 (wk_putfi81 r76_323 fd_739_34 (wk_nw g_739_34 rfl hP892 hF893 (uf_739_34 ⟨by omega, by omega⟩) ?_)))))))
                    intro M895 hP896 hF897 e898
                    subst hQ; exact wk_ret r76_326 (⟨rfl, hP896, hF897, by have := (mUp_no e898 (mUp_no e894 (mUp_no e859 (mUp_no e832 (mUp_no e819 (mUp_no e815 (mUp_no e811 e773 (Or.inr (by decide))) (Or.inr (by decide))) (Or.inr (by decide))) (Or.inr (by decide))) (Or.inr (by decide))) (Or.inr (by decide))) (Or.inr (by decide))); have := (mUp_no e898 (mUp_no e894 (mUp_at e859) (Or.inr (by decide))) (Or.inr (by decide))); omega, by have := (mUp_no e898 (mUp_no e894 (mUp_no e859 (mUp_no e832 (mUp_no e819 (mUp_no e815 (mUp_at e811) (Or.inr (by decide))) (Or.inr (by decide))) (Or.inr (by decide))) (Or.inr (by decide))) (Or.inr (by decide))) (Or.inr (by decide))); omega, by have := (mUp_no e898 (mUp_no e894 (mUp_at e859) (Or.inr (by decide))) (Or.inr (by decide))); have := (mUp_no e898 (mUp_no e894 (mUp_no e859 (mUp_no e832 (mUp_no e819 (mUp_no e815 (mUp_at e811) (Or.inr (by decide))) (Or.inr (by decide))) (Or.inr (by decide))) (Or.inr (by decide))) (Or.inr (by decide))) (Or.inr (by decide))); have := (mUp_at e898); omega, by have := (mUp_no e898 (mUp_no e894 (mUp_at e859) (Or.inr (by decide))) (Or.inr (by decide))); have := (mUp_no e898 (mUp_no e894 (mUp_no e859 (mUp_no e832 (mUp_no e819 (mUp_no e815 (mUp_at e811) (Or.inr (by decide))) (Or.inr (by decide))) (Or.inr (by decide))) (Or.inr (by decide))) (Or.inr (by decide))) (Or.inr (by decide))); have := (mUp_at e898); omega, by have := (mUp_at e898); have := (mUp_no e898 (mUp_at e894) (Or.inr (by decide))); omega, by unfold TK; intro q1; have := (mUp_no e898 (mUp_at e894) (Or.inr (by decide))); have := (mUp_at e898); have := (mUp_no e898 (mUp_no e894 (mUp_no e859 (mUp_at e832) (Or.inr (by decide))) (Or.inr (by decide))) (Or.inr (by decide))); have := (mUp_no e898 (mUp_no e894 (mUp_no e859 (mUp_no e832 (mUp_no e819 (mUp_at e815) (Or.inr (by decide))) (Or.inr (by decide))) (Or.inr (by decide))) (Or.inr (by decide))) (Or.inr (by decide))); omega⟩)
                  · intro h899
                    refine wk_il1 r76_293 (wk_c2 r76_294 ?_)
                    refine wk_iceq r76_296 ⟨by omega, by omega⟩ (by decide) ?_ ?_
                    · intro h900
                      refine wk_c1 r76_305 (wk_goto r76_306 (wk_putfi81 r76_310 fd_739_32 (wk_nw g_739_32 rfl hP857 hF858 (uf_739_32 (by decide)) ?_)))
                      intro M901 hP902 hF903 e904
                      refine wk_al0 r76_313 (wk_al0 r76_314 (wk_getfi r76_315 fd_739_31 (mUp_no e904 (mUp_at e859) (Or.inr (by decide))) (wk_al0 r76_318 (wk_getfi r76_319 fd_739_33 (mUp_no e904 (mUp_no e859 (mUp_no e832 (mUp_no e819 (mUp_no e815 (mUp_at e811) (Or.inr (by decide))) (Or.inr (by decide))) (Or.inr (by decide))) (Or.inr (by decide))) (Or.inr (by decide))) (wk_isub r76_322 (wk_putfi81 r76_323 fd_739_34 (wk_nw g_739_34 rfl hP902 hF903 (uf_739_34 ⟨by omega, by omega⟩) ?_)))))))
                      intro M905 hP906 hF907 e908
                      subst hQ; exact wk_ret r76_326 (⟨rfl, hP906, hF907, by have := (mUp_no e908 (mUp_no e904 (mUp_no e859 (mUp_no e832 (mUp_no e819 (mUp_no e815 (mUp_no e811 e773 (Or.inr (by decide))) (Or.inr (by decide))) (Or.inr (by decide))) (Or.inr (by decide))) (Or.inr (by decide))) (Or.inr (by decide))) (Or.inr (by decide))); have := (mUp_no e908 (mUp_no e904 (mUp_at e859) (Or.inr (by decide))) (Or.inr (by decide))); omega, by have := (mUp_no e908 (mUp_no e904 (mUp_no e859 (mUp_no e832 (mUp_no e819 (mUp_no e815 (mUp_at e811) (Or.inr (by decide))) (Or.inr (by decide))) (Or.inr (by decide))) (Or.inr (by decide))) (Or.inr (by decide))) (Or.inr (by decide))); omega, by have := (mUp_no e908 (mUp_no e904 (mUp_at e859) (Or.inr (by decide))) (Or.inr (by decide))); have := (mUp_no e908 (mUp_no e904 (mUp_no e859 (mUp_no e832 (mUp_no e819 (mUp_no e815 (mUp_at e811) (Or.inr (by decide))) (Or.inr (by decide))) (Or.inr (by decide))) (Or.inr (by decide))) (Or.inr (by decide))) (Or.inr (by decide))); have := (mUp_at e908); omega, by have := (mUp_no e908 (mUp_no e904 (mUp_at e859) (Or.inr (by decide))) (Or.inr (by decide))); have := (mUp_no e908 (mUp_no e904 (mUp_no e859 (mUp_no e832 (mUp_no e819 (mUp_no e815 (mUp_at e811) (Or.inr (by decide))) (Or.inr (by decide))) (Or.inr (by decide))) (Or.inr (by decide))) (Or.inr (by decide))) (Or.inr (by decide))); have := (mUp_at e908); omega, by have := (mUp_at e908); have := (mUp_no e908 (mUp_at e904) (Or.inr (by decide))); omega, by unfold TK; intro q1; have := (mUp_no e908 (mUp_at e904) (Or.inr (by decide))); have := (mUp_at e908); have := (mUp_no e908 (mUp_no e904 (mUp_no e859 (mUp_at e832) (Or.inr (by decide))) (Or.inr (by decide))) (Or.inr (by decide))); have := (mUp_no e908 (mUp_no e904 (mUp_no e859 (mUp_no e832 (mUp_no e819 (mUp_at e815) (Or.inr (by decide))) (Or.inr (by decide))) (Or.inr (by decide))) (Or.inr (by decide))) (Or.inr (by decide))); omega⟩)
                    · intro h909
                      refine wk_il1 r76_299 (wk_c2 r76_300 ?_)
                      refine wk_icne r76_302 ⟨by omega, by omega⟩ (by decide) ?_ ?_
                      · intro h910
                        refine wk_c1 r76_309 (wk_putfi81 r76_310 fd_739_32 (wk_nw g_739_32 rfl hP857 hF858 (uf_739_32 (by decide)) ?_))
                        intro M911 hP912 hF913 e914
                        refine wk_al0 r76_313 (wk_al0 r76_314 (wk_getfi r76_315 fd_739_31 (mUp_no e914 (mUp_at e859) (Or.inr (by decide))) (wk_al0 r76_318 (wk_getfi r76_319 fd_739_33 (mUp_no e914 (mUp_no e859 (mUp_no e832 (mUp_no e819 (mUp_no e815 (mUp_at e811) (Or.inr (by decide))) (Or.inr (by decide))) (Or.inr (by decide))) (Or.inr (by decide))) (Or.inr (by decide))) (wk_isub r76_322 (wk_putfi81 r76_323 fd_739_34 (wk_nw g_739_34 rfl hP912 hF913 (uf_739_34 ⟨by omega, by omega⟩) ?_)))))))
                        intro M915 hP916 hF917 e918
                        subst hQ; exact wk_ret r76_326 (⟨rfl, hP916, hF917, by have := (mUp_no e918 (mUp_no e914 (mUp_no e859 (mUp_no e832 (mUp_no e819 (mUp_no e815 (mUp_no e811 e773 (Or.inr (by decide))) (Or.inr (by decide))) (Or.inr (by decide))) (Or.inr (by decide))) (Or.inr (by decide))) (Or.inr (by decide))) (Or.inr (by decide))); have := (mUp_no e918 (mUp_no e914 (mUp_at e859) (Or.inr (by decide))) (Or.inr (by decide))); omega, by have := (mUp_no e918 (mUp_no e914 (mUp_no e859 (mUp_no e832 (mUp_no e819 (mUp_no e815 (mUp_at e811) (Or.inr (by decide))) (Or.inr (by decide))) (Or.inr (by decide))) (Or.inr (by decide))) (Or.inr (by decide))) (Or.inr (by decide))); omega, by have := (mUp_no e918 (mUp_no e914 (mUp_at e859) (Or.inr (by decide))) (Or.inr (by decide))); have := (mUp_no e918 (mUp_no e914 (mUp_no e859 (mUp_no e832 (mUp_no e819 (mUp_no e815 (mUp_at e811) (Or.inr (by decide))) (Or.inr (by decide))) (Or.inr (by decide))) (Or.inr (by decide))) (Or.inr (by decide))) (Or.inr (by decide))); have := (mUp_at e918); omega, by have := (mUp_no e918 (mUp_no e914 (mUp_at e859) (Or.inr (by decide))) (Or.inr (by decide))); have := (mUp_no e918 (mUp_no e914 (mUp_no e859 (mUp_no e832 (mUp_no e819 (mUp_no e815 (mUp_at e811) (Or.inr (by decide))) (Or.inr (by decide))) (Or.inr (by decide))) (Or.inr (by decide))) (Or.inr (by decide))) (Or.inr (by decide))); have := (mUp_at e918); omega, by have := (mUp_at e918); have := (mUp_no e918 (mUp_at e914) (Or.inr (by decide))); omega, by unfold TK; intro q1; have := (mUp_no e918 (mUp_at e914) (Or.inr (by decide))); have := (mUp_at e918); have := (mUp_no e918 (mUp_no e914 (mUp_no e859 (mUp_at e832) (Or.inr (by decide))) (Or.inr (by decide))) (Or.inr (by decide))); have := (mUp_no e918 (mUp_no e914 (mUp_no e859 (mUp_no e832 (mUp_no e819 (mUp_at e815) (Or.inr (by decide))) (Or.inr (by decide))) (Or.inr (by decide))) (Or.inr (by decide))) (Or.inr (by decide))); omega⟩)
                      · intro h919
                        refine wk_c1 r76_305 (wk_goto r76_306 (wk_putfi81 r76_310 fd_739_32 (wk_nw g_739_32 rfl hP857 hF858 (uf_739_32 (by decide)) ?_)))
                        intro M920 hP921 hF922 e923
                        refine wk_al0 r76_313 (wk_al0 r76_314 (wk_getfi r76_315 fd_739_31 (mUp_no e923 (mUp_at e859) (Or.inr (by decide))) (wk_al0 r76_318 (wk_getfi r76_319 fd_739_33 (mUp_no e923 (mUp_no e859 (mUp_no e832 (mUp_no e819 (mUp_no e815 (mUp_at e811) (Or.inr (by decide))) (Or.inr (by decide))) (Or.inr (by decide))) (Or.inr (by decide))) (Or.inr (by decide))) (wk_isub r76_322 (wk_putfi81 r76_323 fd_739_34 (wk_nw g_739_34 rfl hP921 hF922 (uf_739_34 ⟨by omega, by omega⟩) ?_)))))))
                        intro M924 hP925 hF926 e927
                        subst hQ; exact wk_ret r76_326 (⟨rfl, hP925, hF926, by have := (mUp_no e927 (mUp_no e923 (mUp_no e859 (mUp_no e832 (mUp_no e819 (mUp_no e815 (mUp_no e811 e773 (Or.inr (by decide))) (Or.inr (by decide))) (Or.inr (by decide))) (Or.inr (by decide))) (Or.inr (by decide))) (Or.inr (by decide))) (Or.inr (by decide))); have := (mUp_no e927 (mUp_no e923 (mUp_at e859) (Or.inr (by decide))) (Or.inr (by decide))); omega, by have := (mUp_no e927 (mUp_no e923 (mUp_no e859 (mUp_no e832 (mUp_no e819 (mUp_no e815 (mUp_at e811) (Or.inr (by decide))) (Or.inr (by decide))) (Or.inr (by decide))) (Or.inr (by decide))) (Or.inr (by decide))) (Or.inr (by decide))); omega, by have := (mUp_no e927 (mUp_no e923 (mUp_at e859) (Or.inr (by decide))) (Or.inr (by decide))); have := (mUp_no e927 (mUp_no e923 (mUp_no e859 (mUp_no e832 (mUp_no e819 (mUp_no e815 (mUp_at e811) (Or.inr (by decide))) (Or.inr (by decide))) (Or.inr (by decide))) (Or.inr (by decide))) (Or.inr (by decide))) (Or.inr (by decide))); have := (mUp_at e927); omega, by have := (mUp_no e927 (mUp_no e923 (mUp_at e859) (Or.inr (by decide))) (Or.inr (by decide))); have := (mUp_no e927 (mUp_no e923 (mUp_no e859 (mUp_no e832 (mUp_no e819 (mUp_no e815 (mUp_at e811) (Or.inr (by decide))) (Or.inr (by decide))) (Or.inr (by decide))) (Or.inr (by decide))) (Or.inr (by decide))) (Or.inr (by decide))); have := (mUp_at e927); omega, by have := (mUp_at e927); have := (mUp_no e927 (mUp_at e923) (Or.inr (by decide))); omega, by unfold TK; intro q1; have := (mUp_no e927 (mUp_at e923) (Or.inr (by decide))); have := (mUp_at e927); have := (mUp_no e927 (mUp_no e923 (mUp_no e859 (mUp_at e832) (Or.inr (by decide))) (Or.inr (by decide))) (Or.inr (by decide))); have := (mUp_no e927 (mUp_no e923 (mUp_no e859 (mUp_no e832 (mUp_no e819 (mUp_at e815) (Or.inr (by decide))) (Or.inr (by decide))) (Or.inr (by decide))) (Or.inr (by decide))) (Or.inr (by decide))); omega⟩)
          · intro h928
            have c187_1002 : ∀ (k1002 : Nat) (M929 : Mm) (v932 : Int) (v936 : Int), (500 - v932).toNat = k1002 → Pw M929 → Fr fm_m9076_739 M0 M929 → M929 739 31 = v932 → M929 739 35 = v936 → M929 739 30 = x739_30 → M929 739 33 = v769 → M929 739 37 = 0 → M929 739 36 = v826 → 0 ≤ v932 → v932 ≤ 500 → 0 ≤ v936 → v936 ≤ 999 → 0 ≤ x739_30 + (-1) * v932 → 0 ≤ v932 + (-1) * v769 → ((v932 - v769 = 0 ∧ v936 = 0) ∨ (v932 - v769 = 1 ∧ v936 ≤ 9) ∨ (v932 - v769 = 2 ∧ v936 ≤ 99) ∨ 3 ≤ v932 - v769) → (v932 = v769 → 48 ≤ btF M929 v932 ∧ btF M929 v932 ≤ 57) → Wp B (d + 1) 76 187 [some (R 739), none] [] M929 Q := by
              refine lp_ind ?_
              intro k1002 ih1002 M929 v932 v936 hk1002 hP930 hF931 e935 e939 e940 e941 e942 e943 h933 h934 h937 h938 h944 h945 ti946 ti947
              refine wk_al0 r76_187 (wk_al0 r76_188 (wk_getfi r76_189 fd_739_31 e935 (wk_cv2 r76_192 kc_739_54 rfl (m9054_739 _ M929 v932 x739_30 hP930 (by omega) (by omega) e940 (by first | assumption | omega) (by first | assumption | omega) (by omega)) (cqI ?_))))
              rintro v954 M948 ⟨hP949, hQ950, h955, h956, h952, xh953⟩
              obtain rfl := Fr.same hQ950
              refine wk_cs102_1 r76_195 rfl (m9082 _ M929 v954 hP930 (by omega) (by omega)) (cqI ?_)
              rintro v964 M957 ⟨hP958, hQ959, h965, h966, h961, h962, xh963⟩
              obtain rfl := Fr.same hQ959
              refine wk_ifeq r76_198 ⟨by omega, by omega⟩ ?_ ?_
              · intro h967
                have h968 : v769 + 1 ≤ v932 := by have := ti947; omega
                refine wk_al0 r76_250 (wk_c1 r76_251 (wk_putfi81 r76_252 fd_739_32 (wk_nw g_739_32 rfl hP930 hF931 (uf_739_32 (by decide)) ?_)))
                intro M969 hP970 hF971 e972
                refine wk_goto r76_255 (wk_al0 r76_313 (wk_al0 r76_314 (wk_getfi r76_315 fd_739_31 (mUp_no e972 e935 (Or.inr (by decide))) (wk_al0 r76_318 (wk_getfi r76_319 fd_739_33 (mUp_no e972 e941 (Or.inr (by decide))) (wk_isub r76_322 (wk_putfi81 r76_323 fd_739_34 (wk_nw g_739_34 rfl hP970 hF971 (uf_739_34 ⟨by omega, by omega⟩) ?_))))))))
                intro M973 hP974 hF975 e976
                subst hQ; exact wk_ret r76_326 (⟨rfl, hP974, hF975, by have := (mUp_no e976 (mUp_no e972 e940 (Or.inr (by decide))) (Or.inr (by decide))); have := (mUp_no e976 (mUp_no e972 e935 (Or.inr (by decide))) (Or.inr (by decide))); omega, by have := (mUp_no e976 (mUp_no e972 e941 (Or.inr (by decide))) (Or.inr (by decide))); omega, by have := (mUp_no e976 (mUp_no e972 e935 (Or.inr (by decide))) (Or.inr (by decide))); have := (mUp_no e976 (mUp_no e972 e941 (Or.inr (by decide))) (Or.inr (by decide))); have := (mUp_at e976); omega, by have := (mUp_no e976 (mUp_no e972 e935 (Or.inr (by decide))) (Or.inr (by decide))); have := (mUp_no e976 (mUp_no e972 e941 (Or.inr (by decide))) (Or.inr (by decide))); have := (mUp_at e976); omega, by have := (mUp_at e976); have := (mUp_no e976 (mUp_at e972) (Or.inr (by decide))); omega, by unfold TK; intro q1; have := (mUp_no e976 (mUp_at e972) (Or.inr (by decide))); have := (mUp_at e976); have := (mUp_no e976 (mUp_no e972 e943 (Or.inr (by decide))) (Or.inr (by decide))); have := (mUp_no e976 (mUp_no e972 e942 (Or.inr (by decide))) (Or.inr (by decide))); omega⟩)
              · intro h977
                refine wk_al0 r76_201 (wk_getfi r76_202 fd_739_31 e935 (wk_al0 r76_205 (wk_getfi r76_206 fd_739_33 e941 (wk_isub r76_209 (wk_c1 r76_210 ?_)))))
                refine wk_icge r76_211 ⟨by omega, by omega⟩ (by decide) ?_ ?_
                · intro h978
                  refine wk_al0 r76_237 (wk_dupr r76_238 (wk_getfi r76_239 fd_739_31 e935 (wk_c1 r76_242 (wk_iadd r76_243 (wk_putfi81 r76_244 fd_739_31 (wk_nw g_739_31 rfl hP930 hF931 (uf_739_31 ⟨by omega, by omega⟩) ?_))))))
                  intro M979 hP980 hF981 e982
                  refine wk_goto r76_247 ?_
                  exact wp_fg (le_s (le_s le_0)) (ih1002 (500 - (v932 + 1)).toNat (by omega) M979 (v932 + 1) v936 rfl hP980 hF981 (mUp_at e982) (mUp_no e982 e939 (Or.inr (by decide))) (mUp_no e982 e940 (Or.inr (by decide))) (mUp_no e982 e941 (Or.inr (by decide))) (mUp_no e982 e942 (Or.inr (by decide))) (mUp_no e982 e943 (Or.inr (by decide))) (by first | assumption | omega) (by first | assumption | omega) (by first | assumption | omega) (by first | assumption | omega) (by first | assumption | omega) (by first | assumption | omega) (by have := ti946; omega) (by intro q; omega))
                · intro h983
                  have h984 : v936 ≤ 99 := by have := ti946; omega
                  refine wk_al0 r76_214 (wk_c2 r76_215 (wk_al0 r76_217 (wk_getfi r76_218 fd_739_35 e939 (wk_imul r76_221 (wk_al0 r76_222 (wk_al0 r76_223 (wk_getfi r76_224 fd_739_31 e935 (wk_cv2 r76_227 kc_739_54 rfl (m9054_739 _ M929 v932 x739_30 hP930 (by omega) (by omega) e940 (by first | assumption | omega) (by first | assumption | omega) (by omega)) (cqI ?_)))))))))
                  rintro v991 M985 ⟨hP986, hQ987, h992, h993, h989, xh990⟩
                  obtain rfl := Fr.same hQ987
                  refine wk_iadd r76_230 (wk_c2 r76_231 (wk_isub r76_233 (wk_putfi81 r76_234 fd_739_35 (wk_nw g_739_35 rfl hP930 hF931 (uf_739_35 ⟨by omega, by omega⟩) ?_))))
                  intro M994 hP995 hF996 e997
                  refine wk_al0 r76_237 (wk_dupr r76_238 (wk_getfi r76_239 fd_739_31 (mUp_no e997 e935 (Or.inr (by decide))) (wk_c1 r76_242 (wk_iadd r76_243 (wk_putfi81 r76_244 fd_739_31 (wk_nw g_739_31 rfl hP995 hF996 (uf_739_31 ⟨by omega, by omega⟩) ?_))))))
                  intro M998 hP999 hF1000 e1001
                  refine wk_goto r76_247 ?_
                  exact wp_fg (le_s (le_s le_0)) (ih1002 (500 - (v932 + 1)).toNat (by omega) M998 (v932 + 1) (((10 * v936) + v991) - 48) rfl hP999 hF1000 (mUp_at e1001) (mUp_no e1001 (mUp_at e997) (Or.inr (by decide))) (mUp_no e1001 (mUp_no e997 e940 (Or.inr (by decide))) (Or.inr (by decide))) (mUp_no e1001 (mUp_no e997 e941 (Or.inr (by decide))) (Or.inr (by decide))) (mUp_no e1001 (mUp_no e997 e942 (Or.inr (by decide))) (Or.inr (by decide))) (mUp_no e1001 (mUp_no e997 e943 (Or.inr (by decide))) (Or.inr (by decide))) (by first | assumption | omega) (by first | assumption | omega) (by first | assumption | omega) (by first | assumption | omega) (by first | assumption | omega) (by first | assumption | omega) (by have := ti946; omega) (by intro q; omega))
            exact wp_fg (le_s (le_n le_0)) (c187_1002 _ M829 v769 0 rfl hP830 hF831 (mUp_no e832 (mUp_no e819 (mUp_no e815 (mUp_no e811 e772 (Or.inr (by decide))) (Or.inr (by decide))) (Or.inr (by decide))) (Or.inr (by decide))) (mUp_no e832 (mUp_at e819) (Or.inr (by decide))) (mUp_no e832 (mUp_no e819 (mUp_no e815 (mUp_no e811 e773 (Or.inr (by decide))) (Or.inr (by decide))) (Or.inr (by decide))) (Or.inr (by decide))) (mUp_no e832 (mUp_no e819 (mUp_no e815 (mUp_at e811) (Or.inr (by decide))) (Or.inr (by decide))) (Or.inr (by decide))) (mUp_no e832 (mUp_no e819 (mUp_at e815) (Or.inr (by decide))) (Or.inr (by decide))) (mUp_at e832) (by first | assumption | omega) (by first | assumption | omega) (by first | assumption | omega) (by first | assumption | omega) (by first | assumption | omega) (by first | assumption | omega) (by omega) (by intro q; rw [btF_up e832 (by decide)]; omega))
        · intro h1003
          have c108_1087 : ∀ (k1087 : Nat) (M1004 : Mm) (v1007 : Int) (n1011 : Nat), (500 - v1007).toNat = k1087 → Pw M1004 → Fr fm_m9076_739 M0 M1004 → M1004 739 31 = v1007 → M1004 739 37 = n1011 → M1004 739 30 = x739_30 → M1004 739 33 = v769 → M1004 739 35 = 0 → M1004 739 36 = v826 → 0 ≤ v1007 → v1007 ≤ 500 → n1011 < 18446744073709551616 → 0 ≤ x739_30 + (-1) * v1007 → 0 ≤ v1007 + (-1) * v769 → ((v1007 - v769 = 0 → n1011 = 0) ∧ (v1007 - v769 = 1 → n1011 ≤ 31)) → (v1007 = v769 → 97 ≤ btF M1004 v1007 ∧ btF M1004 v1007 ≤ 122) → Wp B (d + 1) 76 108 [some (R 739), none] [] M1004 Q := by
            refine lp_ind ?_
            intro k1087 ih1087 M1004 v1007 n1011 hk1087 hP1005 hF1006 e1010 e1013 e1014 e1015 e1016 e1017 h1008 h1009 h1012 h1018 h1019 ti1020 ti1021
            refine wk_al0 r76_108 (wk_al0 r76_109 (wk_getfi r76_110 fd_739_31 e1010 (wk_cv2 r76_113 kc_739_54 rfl (m9054_739 _ M1004 v1007 x739_30 hP1005 (by omega) (by omega) e1014 (by first | assumption | omega) (by first | assumption | omega) (by omega)) (cqI ?_))))
            rintro v1028 M1022 ⟨hP1023, hQ1024, h1029, h1030, h1026, xh1027⟩
            obtain rfl := Fr.same hQ1024
            refine wk_cs102_1 r76_116 rfl (m9085 _ M1004 v1028 hP1005 (by omega) (by omega)) (cqI ?_)
            rintro v1038 M1031 ⟨hP1032, hQ1033, h1039, h1040, h1035, h1036, xh1037⟩
            obtain rfl := Fr.same hQ1033
            refine wk_ifeq r76_119 ⟨by omega, by omega⟩ ?_ ?_
            · intro h1041
              have h1042 : v769 + 1 ≤ v1007 := by have := ti1021; omega
              refine wk_al0 r76_172 (wk_c1 r76_173 (wk_putfi81 r76_174 fd_739_32 (wk_nw g_739_32 rfl hP1005 hF1006 (uf_739_32 (by decide)) ?_)))
              intro M1043 hP1044 hF1045 e1046
              refine wk_goto r76_177 (wk_al0 r76_313 (wk_al0 r76_314 (wk_getfi r76_315 fd_739_31 (mUp_no e1046 e1010 (Or.inr (by decide))) (wk_al0 r76_318 (wk_getfi r76_319 fd_739_33 (mUp_no e1046 e1015 (Or.inr (by decide))) (wk_isub r76_322 (wk_putfi81 r76_323 fd_739_34 (wk_nw g_739_34 rfl hP1044 hF1045 (uf_739_34 ⟨by omega, by omega⟩) ?_))))))))
              intro M1047 hP1048 hF1049 e1050
              subst hQ; exact wk_ret r76_326 (⟨rfl, hP1048, hF1049, by have := (mUp_no e1050 (mUp_no e1046 e1014 (Or.inr (by decide))) (Or.inr (by decide))); have := (mUp_no e1050 (mUp_no e1046 e1010 (Or.inr (by decide))) (Or.inr (by decide))); omega, by have := (mUp_no e1050 (mUp_no e1046 e1015 (Or.inr (by decide))) (Or.inr (by decide))); omega, by have := (mUp_no e1050 (mUp_no e1046 e1010 (Or.inr (by decide))) (Or.inr (by decide))); have := (mUp_no e1050 (mUp_no e1046 e1015 (Or.inr (by decide))) (Or.inr (by decide))); have := (mUp_at e1050); omega, by have := (mUp_no e1050 (mUp_no e1046 e1010 (Or.inr (by decide))) (Or.inr (by decide))); have := (mUp_no e1050 (mUp_no e1046 e1015 (Or.inr (by decide))) (Or.inr (by decide))); have := (mUp_at e1050); omega, by have := (mUp_at e1050); have := (mUp_no e1050 (mUp_at e1046) (Or.inr (by decide))); omega, by unfold TK; intro q1; have := (mUp_no e1050 (mUp_at e1046) (Or.inr (by decide))); have := (mUp_at e1050); have := (mUp_no e1050 (mUp_no e1046 e1017 (Or.inr (by decide))) (Or.inr (by decide))); have := (mUp_no e1050 (mUp_no e1046 e1013 (Or.inr (by decide))) (Or.inr (by decide))); have := ti1020; omega⟩)
            · intro h1051
              refine wk_al0 r76_122 (wk_getfi r76_123 fd_739_31 e1010 (wk_al0 r76_126 (wk_getfi r76_127 fd_739_33 e1015 (wk_isub r76_130 (wk_c2 r76_131 ?_)))))
              refine wk_icge r76_133 ⟨by omega, by omega⟩ (by decide) ?_ ?_
              · intro h1052
                refine wk_al0 r76_159 (wk_dupr r76_160 (wk_getfi r76_161 fd_739_31 e1010 (wk_c1 r76_164 (wk_iadd r76_165 (wk_putfi81 r76_166 fd_739_31 (wk_nw g_739_31 rfl hP1005 hF1006 (uf_739_31 ⟨by omega, by omega⟩) ?_))))))
                intro M1053 hP1054 hF1055 e1056
                refine wk_goto r76_169 ?_
                exact wp_fg (le_s (le_s le_0)) (ih1087 (500 - (v1007 + 1)).toNat (by omega) M1053 (v1007 + 1) n1011 rfl hP1054 hF1055 (mUp_at e1056) (mUp_no e1056 e1013 (Or.inr (by decide))) (mUp_no e1056 e1014 (Or.inr (by decide))) (mUp_no e1056 e1015 (Or.inr (by decide))) (mUp_no e1056 e1016 (Or.inr (by decide))) (mUp_no e1056 e1017 (Or.inr (by decide))) (by first | assumption | omega) (by first | assumption | omega) (by first | assumption | omega) (by first | assumption | omega) (by first | assumption | omega) (by have := ti1020; omega) (by intro q; omega))
              · intro h1057
                refine wk_al0 r76_136 (wk_al0 r76_137 (wk_getfl r76_138 fd_739_37 (lnat e1013) (wk_c1 r76_141 (wk_lshlb r76_142 (by decide) ?_))))
                intro n1058 h1059 h1060 h1061
                refine wk_al0 r76_143 (wk_al0 r76_144 (wk_getfi r76_145 fd_739_31 e1010 (wk_cv2 r76_148 kc_739_54 rfl (m9054_739 _ M1004 v1007 x739_30 hP1005 (by omega) (by omega) e1014 (by first | assumption | omega) (by first | assumption | omega) (by omega)) (cqI ?_))))
                rintro v1068 M1062 ⟨hP1063, hQ1064, h1069, h1070, h1066, xh1067⟩
                obtain rfl := Fr.same hQ1064
                refine wk_c2 r76_151 (wk_isub r76_153 (wk_i2lb r76_154 ⟨by omega, by omega⟩ ?_))
                intro n1071 h1072 h1073
                refine wk_lorb r76_155 ?_
                intro n1074 h1075 h1076 h1077
                have h1078 := w5_first h1060 h1076
                refine wk_putfl81 r76_156 fd_739_37 (wk_nw g_739_37 rfl hP1005 hF1006 (uf_739_37 ⟨by omega, by omega⟩) ?_)
                intro M1079 hP1080 hF1081 e1082
                refine wk_al0 r76_159 (wk_dupr r76_160 (wk_getfi r76_161 fd_739_31 (mUp_no e1082 e1010 (Or.inr (by decide))) (wk_c1 r76_164 (wk_iadd r76_165 (wk_putfi81 r76_166 fd_739_31 (wk_nw g_739_31 rfl hP1080 hF1081 (uf_739_31 ⟨by omega, by omega⟩) ?_))))))
                intro M1083 hP1084 hF1085 e1086
                refine wk_goto r76_169 ?_
                exact wp_fg (le_s (le_s le_0)) (ih1087 (500 - (v1007 + 1)).toNat (by omega) M1083 (v1007 + 1) n1074 rfl hP1084 hF1085 (mUp_at e1086) (mUp_no e1086 (mUp_at e1082) (Or.inr (by decide))) (mUp_no e1086 (mUp_no e1082 e1014 (Or.inr (by decide))) (Or.inr (by decide))) (mUp_no e1086 (mUp_no e1082 e1015 (Or.inr (by decide))) (Or.inr (by decide))) (mUp_no e1086 (mUp_no e1082 e1016 (Or.inr (by decide))) (Or.inr (by decide))) (mUp_no e1086 (mUp_no e1082 e1017 (Or.inr (by decide))) (Or.inr (by decide))) (by first | assumption | omega) (by first | assumption | omega) (by first | assumption | omega) (by first | assumption | omega) (by first | assumption | omega) (by have := ti1020; omega) (by intro q; omega))
          exact wp_fg (le_s (le_n le_0)) (c108_1087 _ M829 v769 0 rfl hP830 hF831 (mUp_no e832 (mUp_no e819 (mUp_no e815 (mUp_no e811 e772 (Or.inr (by decide))) (Or.inr (by decide))) (Or.inr (by decide))) (Or.inr (by decide))) (mUp_no e832 (mUp_no e819 (mUp_at e815) (Or.inr (by decide))) (Or.inr (by decide))) (mUp_no e832 (mUp_no e819 (mUp_no e815 (mUp_no e811 e773 (Or.inr (by decide))) (Or.inr (by decide))) (Or.inr (by decide))) (Or.inr (by decide))) (mUp_no e832 (mUp_no e819 (mUp_no e815 (mUp_at e811) (Or.inr (by decide))) (Or.inr (by decide))) (Or.inr (by decide))) (mUp_no e832 (mUp_at e819) (Or.inr (by decide))) (mUp_at e832) (by first | assumption | omega) (by first | assumption | omega) (by first | assumption | omega) (by first | assumption | omega) (by first | assumption | omega) (⟨fun _ => by omega, fun q => by omega⟩) (by intro q; rw [btF_up e832 (by decide)]; omega))
      · intro h1088
        refine wk_al0 r76_93 (wk_c1 r76_94 (wk_putfi81 r76_95 fd_739_32 (wk_nw g_739_32 rfl hP830 hF831 (uf_739_32 (by decide)) ?_)))
        intro M1089 hP1090 hF1091 e1092
        refine wk_goto r76_98 (wk_al0 r76_313 (wk_al0 r76_314 (wk_getfi r76_315 fd_739_31 (mUp_no e1092 (mUp_no e832 (mUp_no e819 (mUp_no e815 (mUp_no e811 e772 (Or.inr (by decide))) (Or.inr (by decide))) (Or.inr (by decide))) (Or.inr (by decide))) (Or.inr (by decide))) (wk_al0 r76_318 (wk_getfi r76_319 fd_739_33 (mUp_no e1092 (mUp_no e832 (mUp_no e819 (mUp_no e815 (mUp_at e811) (Or.inr (by decide))) (Or.inr (by decide))) (Or.inr (by decide))) (Or.inr (by decide))) (wk_isub r76_322 (wk_putfi81 r76_323 fd_739_34 (wk_nw g_739_34 rfl hP1090 hF1091 (uf_739_34 ⟨by omega, by omega⟩) ?_))))))))
        intro M1093 hP1094 hF1095 e1096
        subst hQ; exact wk_ret r76_326 (⟨rfl, hP1094, hF1095, by have := (mUp_no e1096 (mUp_no e1092 (mUp_no e832 (mUp_no e819 (mUp_no e815 (mUp_no e811 e773 (Or.inr (by decide))) (Or.inr (by decide))) (Or.inr (by decide))) (Or.inr (by decide))) (Or.inr (by decide))) (Or.inr (by decide))); have := (mUp_no e1096 (mUp_no e1092 (mUp_no e832 (mUp_no e819 (mUp_no e815 (mUp_no e811 e772 (Or.inr (by decide))) (Or.inr (by decide))) (Or.inr (by decide))) (Or.inr (by decide))) (Or.inr (by decide))) (Or.inr (by decide))); omega, by have := (mUp_no e1096 (mUp_no e1092 (mUp_no e832 (mUp_no e819 (mUp_no e815 (mUp_at e811) (Or.inr (by decide))) (Or.inr (by decide))) (Or.inr (by decide))) (Or.inr (by decide))) (Or.inr (by decide))); omega, by have := (mUp_no e1096 (mUp_no e1092 (mUp_no e832 (mUp_no e819 (mUp_no e815 (mUp_no e811 e772 (Or.inr (by decide))) (Or.inr (by decide))) (Or.inr (by decide))) (Or.inr (by decide))) (Or.inr (by decide))) (Or.inr (by decide))); have := (mUp_no e1096 (mUp_no e1092 (mUp_no e832 (mUp_no e819 (mUp_no e815 (mUp_at e811) (Or.inr (by decide))) (Or.inr (by decide))) (Or.inr (by decide))) (Or.inr (by decide))) (Or.inr (by decide))); have := (mUp_at e1096); omega, by have := (mUp_no e1096 (mUp_no e1092 (mUp_no e832 (mUp_no e819 (mUp_no e815 (mUp_no e811 e772 (Or.inr (by decide))) (Or.inr (by decide))) (Or.inr (by decide))) (Or.inr (by decide))) (Or.inr (by decide))) (Or.inr (by decide))); have := (mUp_no e1096 (mUp_no e1092 (mUp_no e832 (mUp_no e819 (mUp_no e815 (mUp_at e811) (Or.inr (by decide))) (Or.inr (by decide))) (Or.inr (by decide))) (Or.inr (by decide))) (Or.inr (by decide))); have := (mUp_at e1096); omega, by have := (mUp_at e1096); have := (mUp_no e1096 (mUp_at e1092) (Or.inr (by decide))); omega, by unfold TK; intro q1; have := (mUp_no e1096 (mUp_at e1092) (Or.inr (by decide))); have := (mUp_at e1096); have := (mUp_no e1096 (mUp_no e1092 (mUp_at e832) (Or.inr (by decide))) (Or.inr (by decide))); have := (mUp_no e1096 (mUp_no e1092 (mUp_no e832 (mUp_no e819 (mUp_at e815) (Or.inr (by decide))) (Or.inr (by decide))) (Or.inr (by decide))) (Or.inr (by decide))); omega⟩)
    refine wk_icge r76_8 ⟨by omega, by omega⟩ ⟨by omega, by omega⟩ ?_ ?_
    · intro h776
      exact wp_fg (le_s (le_s le_0)) c50_1097
    · intro h777
      refine wk_al0 r76_11 (wk_al0 r76_12 (wk_getfi r76_13 fd_739_31 e772 (wk_cv2 r76_16 kc_739_54 rfl (m9054_739 _ M766 v769 x739_30 hP767 (by omega) (by omega) e773 (by first | assumption | omega) (by first | assumption | omega) (by omega)) (cqI ?_))))
      rintro v784 M778 ⟨hP779, hQ780, h785, h786, h782, xh783⟩
      obtain rfl := Fr.same hQ780
      refine wk_c2 r76_19 ?_
      refine wk_iceq r76_21 ⟨by omega, by omega⟩ (by decide) ?_ ?_
      · intro h787
        refine wk_al0 r76_37 (wk_dupr r76_38 (wk_getfi r76_39 fd_739_31 e772 (wk_c1 r76_42 (wk_iadd r76_43 (wk_putfi81 r76_44 fd_739_31 (wk_nw g_739_31 rfl hP767 hF768 (uf_739_31 ⟨by omega, by omega⟩) ?_))))))
        intro M788 hP789 hF790 e791
        refine wk_goto r76_47 ?_
        exact wp_fg (le_s (le_s le_0)) (ih1098 (500 - (v769 + 1)).toNat (by omega) M788 (v769 + 1) rfl hP789 hF790 (mUp_at e791) (mUp_no e791 e773 (Or.inr (by decide))) (by first | assumption | omega) (by first | assumption | omega) (by first | assumption | omega) (by first | assumption | omega))
      · intro h792
        refine wk_al0 r76_24 (wk_al0 r76_25 (wk_getfi r76_26 fd_739_31 e772 (wk_cv2 r76_29 kc_739_54 rfl (m9054_739 _ M766 v769 x739_30 hP767 (by omega) (by omega) e773 (by first | assumption | omega) (by first | assumption | omega) (by omega)) (cqI ?_))))
        rintro v799 M793 ⟨hP794, hQ795, h800, h801, h797, xh798⟩
        obtain rfl := Fr.same hQ795
        refine wk_c2 r76_32 ?_
        refine wk_icne r76_34 ⟨by omega, by omega⟩ (by decide) ?_ ?_
        · intro h802
          exact wp_fg (le_s (le_s le_0)) c50_1097
        · intro h803
          refine wk_al0 r76_37 (wk_dupr r76_38 (wk_getfi r76_39 fd_739_31 e772 (wk_c1 r76_42 (wk_iadd r76_43 (wk_putfi81 r76_44 fd_739_31 (wk_nw g_739_31 rfl hP767 hF768 (uf_739_31 ⟨by omega, by omega⟩) ?_))))))
          intro M804 hP805 hF806 e807
          refine wk_goto r76_47 ?_
          exact wp_fg (le_s (le_s le_0)) (ih1098 (500 - (v769 + 1)).toNat (by omega) M804 (v769 + 1) rfl hP805 hF806 (mUp_at e807) (mUp_no e807 e773 (Or.inr (by decide))) (by first | assumption | omega) (by first | assumption | omega) (by first | assumption | omega) (by first | assumption | omega))
  exact wp_fg (le_s (le_s le_0)) (c0_1098 _ M0 x739_31 rfl hP0 hF0 ex739_31 ex739_30 (by first | assumption | omega) (by first | assumption | omega) (by first | assumption | omega) (by first | assumption | omega))
def fm_m9065_739 : Nat := 3198183334179513849174334711124306039004150098954425584320512
/-- IslandHallModel.ends -/
theorem m9065_739 {B : eB} (d : Nat) (M0 : Mm) (x739_30 : Int) (x739_31 : Int) (x739_33 : Int) (x739_34 : Int) (x739_32 : Int) (x739_28 : Int) (hP0 : Pw M0) (ex739_30 : M0 739 30 = x739_30) (lx739_30 : 0 ≤ x739_30) (ux739_30 : x739_30 ≤ 500) (ex739_31 : M0 739 31 = x739_31) (lx739_31 : 0 ≤ x739_31) (ux739_31 : x739_31 ≤ 500) (ex739_33 : M0 739 33 = x739_33) (lx739_33 : 0 ≤ x739_33) (ux739_33 : x739_33 ≤ 500) (ex739_34 : M0 739 34 = x739_34) (lx739_34 : 0 ≤ x739_34) (ux739_34 : x739_34 ≤ 500) (ex739_32 : M0 739 32 = x739_32) (lx739_32 : 0 ≤ x739_32) (ux739_32 : x739_32 ≤ 4) (ex739_28 : M0 739 28 = x739_28) (lx739_28 : 0 ≤ x739_28) (ux739_28 : x739_28 ≤ 6) (rp0 : 0 ≤ x739_30 + (-1) * x739_31) (rp1 : 0 ≤ x739_31 + (-1) * x739_33 + (-1) * x739_34) (rp2 : 0 ≤ (-1) * x739_31 + x739_33 + x739_34) (rp3 : 0 ≤ 4 * x739_34 + (-1) * x739_32) (pp_TK : TK M0) : Ct B (d + 3) 65 [R 739] M0 (qV fun M => Pw M ∧ Fr fm_m9065_739 M0 M ∧ 0 ≤ M 739 30 + (-1) * (M 739 31) ∧ 0 ≤ M 739 31 + (-1) * (M 739 33) + (-1) * (M 739 34) ∧ 0 ≤ (-1) * (M 739 31) + M 739 33 + M 739 34 ∧ 0 ≤ 4 * (M 739 34) + (-1) * (M 739 32) ∧ 0 ≤ M 739 33 + (-1) * x739_33 ∧ 0 ≤ M 739 28 + (-1) * x739_28 ∧ 0 ≤ M 739 33 + (-1) * x739_33 + M 739 28 + (-1) ∧ (TK M)) := by
  refine ct_of (d := d + 2) (k := 0) (L := [some (R 739)]) rfl rfl rfl ?_
  have hF0 := Fr.rf fm_m9065_739 M0
  generalize hQ : (qV fun M => Pw M ∧ Fr fm_m9065_739 M0 M ∧ 0 ≤ M 739 30 + (-1) * (M 739 31) ∧ 0 ≤ M 739 31 + (-1) * (M 739 33) + (-1) * (M 739 34) ∧ 0 ≤ (-1) * (M 739 31) + M 739 33 + M 739 34 ∧ 0 ≤ 4 * (M 739 34) + (-1) * (M 739 32) ∧ 0 ≤ M 739 33 + (-1) * x739_33 ∧ 0 ≤ M 739 28 + (-1) * x739_28 ∧ 0 ≤ M 739 33 + (-1) * x739_33 + M 739 28 + (-1) ∧ (TK M)) = Q
  refine wk_al0 r65_0 (wk_cv1 r65_1 kc_739_84 rfl (m9084_739 _ M0 x739_28 hP0 ex739_28 (by first | assumption | omega) (by first | assumption | omega)) (cqI ?_))
  rintro v7 M1 ⟨hP2, hQ3, h8, h9, h5, h6⟩
  obtain rfl := Fr.same hQ3
  have e10 := ex739_28
  refine wk_ifne r65_4 ⟨by omega, by omega⟩ ?_ ?_
  · intro h11
    refine wk_al0 r65_8 (wk_c2 r65_9 ?_)
    obtain ⟨v12, e13⟩ : ∃ v, M0 739 36 = v := ⟨_, rfl⟩
    have h14 := bf_739_36 hP0; rw [e13] at h14
    refine wk_cv2 r65_11 kc_739_88 rfl (m9088_739 _ M0 59 x739_32 v12 hP0 (by decide) (by decide) ex739_32 (by first | assumption | omega) (by first | assumption | omega) e13 (by first | assumption | omega) (by first | assumption | omega)) (cqI ?_)
    rintro v22 M15 ⟨hP16, hQ17, h23, h24, h19, h20, h21⟩
    obtain rfl := Fr.same hQ17
    have e25 := ex739_32
    have e26 := e13
    refine wk_ifeq r65_14 ⟨by omega, by omega⟩ ?_ ?_
    · intro h27
      refine wk_al0 r65_24 (wk_c1 r65_25 (wk_cv2 r65_26 kc_739_137 rfl (m9137_739 _ M0 1 x739_28 x739_33 hP0 (by decide) (by decide) ex739_28 (by first | assumption | omega) (by first | assumption | omega) ex739_33 (by first | assumption | omega) (by first | assumption | omega)) (cqV ?_)))
      rintro M28 ⟨hP29, hQ30, h32, h33⟩
      have hF31 : Fr fm_m9065_739 M0 M28 := hF0.tr hQ30 rfl
      obtain ⟨v34, e35⟩ : ∃ v, M28 739 28 = v := ⟨_, rfl⟩
      have h36 := bf_739_28 hP29; rw [e35] at h36
      subst hQ; exact wk_ret r65_29 (⟨rfl, hP29, hF31, by have := ((hQ30.at g_739_30 rfl).trans ex739_30); have := ((hQ30.at g_739_31 rfl).trans ex739_31); omega, by have := ((hQ30.at g_739_31 rfl).trans ex739_31); have := ((hQ30.at g_739_33 rfl).trans ex739_33); have := ((hQ30.at g_739_34 rfl).trans ex739_34); omega, by have := ((hQ30.at g_739_31 rfl).trans ex739_31); have := ((hQ30.at g_739_33 rfl).trans ex739_33); have := ((hQ30.at g_739_34 rfl).trans ex739_34); omega, by have := ((hQ30.at g_739_34 rfl).trans ex739_34); have := ((hQ30.at g_739_32 rfl).trans ex739_32); omega, by have := ((hQ30.at g_739_33 rfl).trans ex739_33); omega, by have := e35; omega, by have := ((hQ30.at g_739_33 rfl).trans ex739_33); have := e35; omega, (TK_sm (Sm.fr hQ30 rfl) pp_TK)⟩)
    · intro h37
      refine wk_al0 r65_17 (wk_cv1 r65_18 kc_739_76 rfl (m9076_739 _ M0 x739_30 x739_31 hP0 ex739_30 (by first | assumption | omega) (by first | assumption | omega) ex739_31 (by first | assumption | omega) (by first | assumption | omega) (by omega)) (cqV ?_))
      rintro M38 ⟨hP39, hQ40, h42, h43, h44, h45, h46, pr47⟩
      have hF41 : Fr fm_m9065_739 M0 M38 := hF0.tr hQ40 rfl
      have e48 := ((hQ40.at g_739_30 rfl).trans ex739_30)
      obtain ⟨v49, e50⟩ : ∃ v, M38 739 31 = v := ⟨_, rfl⟩
      have h51 := bf_739_31 hP39; rw [e50] at h51
      obtain ⟨v52, e53⟩ : ∃ v, M38 739 33 = v := ⟨_, rfl⟩
      have h54 := bf_739_33 hP39; rw [e53] at h54
      obtain ⟨v55, e56⟩ : ∃ v, M38 739 34 = v := ⟨_, rfl⟩
      have h57 := bf_739_34 hP39; rw [e56] at h57
      obtain ⟨v58, e59⟩ : ∃ v, M38 739 32 = v := ⟨_, rfl⟩
      have h60 := bf_739_32 hP39; rw [e59] at h60
      refine wk_goto r65_21 ?_
      subst hQ; exact wk_ret r65_29 (⟨rfl, hP39, hF41, by have := ((hQ40.at g_739_30 rfl).trans ex739_30); have := e50; omega, by have := e50; have := e53; have := e56; omega, by have := e50; have := e53; have := e56; omega, by have := e56; have := e59; omega, by have := e53; omega, by have := ((hQ40.at g_739_28 rfl).trans ex739_28); omega, by have := e53; have := ((hQ40.at g_739_28 rfl).trans ex739_28); omega, pr47⟩)
  · intro h61
    subst hQ; exact wk_ret r65_7 (⟨rfl, hP0, hF0, by have := ex739_30; have := ex739_31; omega, by have := ex739_31; have := ex739_33; have := ex739_34; omega, by have := ex739_31; have := ex739_33; have := ex739_34; omega, by have := ex739_34; have := ex739_32; omega, by have := ex739_33; omega, by have := ex739_28; omega, by have := ex739_33; have := ex739_28; omega, pp_TK⟩)
def fm_m9114_739 : Nat := 3198183334179513849174334711124306039004150098954425584320512
/-- IslandHallModel.number -/
theorem m9114_739 {B : eB} (d : Nat) (M0 : Mm) (p1 : Int) (p2 : Int) (x739_30 : Int) (x739_31 : Int) (x739_33 : Int) (x739_34 : Int) (x739_32 : Int) (x739_28 : Int) (x739_35 : Int) (hP0 : Pw M0) (l1 : 0 ≤ p1) (u1 : p1 ≤ 1) (l2 : 1 ≤ p2) (u2 : p2 ≤ 99) (ex739_30 : M0 739 30 = x739_30) (lx739_30 : 0 ≤ x739_30) (ux739_30 : x739_30 ≤ 500) (ex739_31 : M0 739 31 = x739_31) (lx739_31 : 0 ≤ x739_31) (ux739_31 : x739_31 ≤ 500) (ex739_33 : M0 739 33 = x739_33) (lx739_33 : 0 ≤ x739_33) (ux739_33 : x739_33 ≤ 500) (ex739_34 : M0 739 34 = x739_34) (lx739_34 : 0 ≤ x739_34) (ux739_34 : x739_34 ≤ 500) (ex739_32 : M0 739 32 = x739_32) (lx739_32 : 0 ≤ x739_32) (ux739_32 : x739_32 ≤ 4) (ex739_28 : M0 739 28 = x739_28) (lx739_28 : 0 ≤ x739_28) (ux739_28 : x739_28 ≤ 6) (ex739_35 : M0 739 35 = x739_35) (lx739_35 : 0 ≤ x739_35) (ux739_35 : x739_35 ≤ 999) (rp0 : 0 ≤ x739_30 + (-1) * x739_31) (rp1 : 0 ≤ x739_31 + (-1) * x739_33 + (-1) * x739_34) (rp2 : 0 ≤ (-1) * x739_31 + x739_33 + x739_34) (rp3 : 0 ≤ 4 * x739_34 + (-1) * x739_32) (pp_TK : TK M0) : Ct B (d + 3) 114 [R 739, I p1, I p2] M0 (qI fun z M => Pw M ∧ Fr fm_m9114_739 M0 M ∧ 0 ≤ z ∧ z ≤ 999 ∧ 0 ≤ M 739 30 + (-1) * (M 739 31) ∧ 0 ≤ M 739 31 + (-1) * (M 739 33) + (-1) * (M 739 34) ∧ 0 ≤ (-1) * (M 739 31) + M 739 33 + M 739 34 ∧ 0 ≤ 4 * (M 739 34) + (-1) * (M 739 32) ∧ 0 ≤ M 739 33 + (-1) * x739_33 ∧ 0 ≤ M 739 28 + (-1) * x739_28 ∧ 0 ≤ M 739 33 + (-1) * x739_33 + M 739 28 + (-1) ∧ 0 ≤ p2 + 999 * (M 739 28) + (-1) * z ∧ 0 ≤ z + (-1) * p1 + 999 * (M 739 28) ∧ (TK M)) := by
  refine ct_of (d := d + 2) (k := 1) (L := [some (R 739), some (I p1), some (I p2), none]) rfl rfl rfl ?_
  have hF0 := Fr.rf fm_m9114_739 M0
  generalize hQ : (qI fun z M => Pw M ∧ Fr fm_m9114_739 M0 M ∧ 0 ≤ z ∧ z ≤ 999 ∧ 0 ≤ M 739 30 + (-1) * (M 739 31) ∧ 0 ≤ M 739 31 + (-1) * (M 739 33) + (-1) * (M 739 34) ∧ 0 ≤ (-1) * (M 739 31) + M 739 33 + M 739 34 ∧ 0 ≤ 4 * (M 739 34) + (-1) * (M 739 32) ∧ 0 ≤ M 739 33 + (-1) * x739_33 ∧ 0 ≤ M 739 28 + (-1) * x739_28 ∧ 0 ≤ M 739 33 + (-1) * x739_33 + M 739 28 + (-1) ∧ 0 ≤ p2 + 999 * (M 739 28) + (-1) * z ∧ 0 ≤ z + (-1) * p1 + 999 * (M 739 28) ∧ (TK M)) = Q
  refine wk_al0 r114_0 (wk_cv1 r114_1 kc_739_84 rfl (m9084_739 _ M0 x739_28 hP0 ex739_28 (by first | assumption | omega) (by first | assumption | omega)) (cqI ?_))
  rintro v7 M1 ⟨hP2, hQ3, h8, h9, h5, h6⟩
  obtain rfl := Fr.same hQ3
  have e10 := ex739_28
  refine wk_ifne r114_4 ⟨by omega, by omega⟩ ?_ ?_
  · intro h11
    refine wk_al0 r114_9 (wk_getfi r114_10 fd_739_32 ex739_32 (wk_c1 r114_13 ?_))
    refine wk_iceq r114_14 ⟨by omega, by omega⟩ (by decide) ?_ ?_
    · intro h12
      refine wk_al0 r114_25 (wk_getfi r114_26 fd_739_34 ex739_34 (wk_c1 r114_29 ?_))
      refine wk_icgt r114_30 ⟨by omega, by omega⟩ (by decide) ?_ ?_
      · intro h13
        refine wk_al0 r114_49 (wk_c1 r114_50 (wk_cv2 r114_51 kc_739_137 rfl (m9137_739 _ M0 2 x739_28 x739_33 hP0 (by decide) (by decide) ex739_28 (by first | assumption | omega) (by first | assumption | omega) ex739_33 (by first | assumption | omega) (by first | assumption | omega)) (cqV ?_)))
        rintro M14 ⟨hP15, hQ16, h18, h19⟩
        have hF17 : Fr fm_m9114_739 M0 M14 := hF0.tr hQ16 rfl
        obtain ⟨v20, e21⟩ : ∃ v, M14 739 28 = v := ⟨_, rfl⟩
        have h22 := bf_739_28 hP15; rw [e21] at h22
        refine wk_al0 r114_54 (wk_getfi r114_55 fd_739_35 ((hQ16.at g_739_35 rfl).trans ex739_35) (wk_is3 r114_58 rfl (wk_al0 r114_59 (wk_cv1 r114_60 kc_739_84 rfl (m9084_739 _ M14 v20 hP15 e21 (by first | assumption | omega) (by first | assumption | omega)) (cqI ?_)))))
        rintro v29 M23 ⟨hP24, hQ25, h30, h31, h27, h28⟩
        obtain rfl := Fr.same hQ25
        have e32 := e21
        refine wk_ifeq r114_63 ⟨by omega, by omega⟩ ?_ ?_
        · intro h33
          refine wk_il3 r114_70 ?_
          subst hQ; exact wk_iret r114_71 (⟨rfl, _, rfl, hP15, hF17, by omega, by omega, by have := ((hQ16.at g_739_30 rfl).trans ex739_30); have := ((hQ16.at g_739_31 rfl).trans ex739_31); omega, by have := ((hQ16.at g_739_31 rfl).trans ex739_31); have := ((hQ16.at g_739_33 rfl).trans ex739_33); have := ((hQ16.at g_739_34 rfl).trans ex739_34); omega, by have := ((hQ16.at g_739_31 rfl).trans ex739_31); have := ((hQ16.at g_739_33 rfl).trans ex739_33); have := ((hQ16.at g_739_34 rfl).trans ex739_34); omega, by have := ((hQ16.at g_739_34 rfl).trans ex739_34); have := ((hQ16.at g_739_32 rfl).trans ex739_32); omega, by have := ((hQ16.at g_739_33 rfl).trans ex739_33); omega, by have := e21; omega, by have := ((hQ16.at g_739_33 rfl).trans ex739_33); have := e21; omega, by have := e21; omega, by have := e21; omega, (TK_sm (Sm.fr hQ16 rfl) pp_TK)⟩)
        · intro h34
          exfalso
          omega
      · intro h35
        refine wk_al0 r114_33 (wk_getfi r114_34 fd_739_35 ex739_35 (wk_il1 r114_37 ?_))
        refine wk_iclt r114_38 ⟨by omega, by omega⟩ ⟨by omega, by omega⟩ ?_ ?_
        · intro h36
          refine wk_al0 r114_49 (wk_c1 r114_50 (wk_cv2 r114_51 kc_739_137 rfl (m9137_739 _ M0 2 x739_28 x739_33 hP0 (by decide) (by decide) ex739_28 (by first | assumption | omega) (by first | assumption | omega) ex739_33 (by first | assumption | omega) (by first | assumption | omega)) (cqV ?_)))
          rintro M37 ⟨hP38, hQ39, h41, h42⟩
          have hF40 : Fr fm_m9114_739 M0 M37 := hF0.tr hQ39 rfl
          obtain ⟨v43, e44⟩ : ∃ v, M37 739 28 = v := ⟨_, rfl⟩
          have h45 := bf_739_28 hP38; rw [e44] at h45
          refine wk_al0 r114_54 (wk_getfi r114_55 fd_739_35 ((hQ39.at g_739_35 rfl).trans ex739_35) (wk_is3 r114_58 rfl (wk_al0 r114_59 (wk_cv1 r114_60 kc_739_84 rfl (m9084_739 _ M37 v43 hP38 e44 (by first | assumption | omega) (by first | assumption | omega)) (cqI ?_)))))
          rintro v52 M46 ⟨hP47, hQ48, h53, h54, h50, h51⟩
          obtain rfl := Fr.same hQ48
          have e55 := e44
          refine wk_ifeq r114_63 ⟨by omega, by omega⟩ ?_ ?_
          · intro h56
            refine wk_il3 r114_70 ?_
            subst hQ; exact wk_iret r114_71 (⟨rfl, _, rfl, hP38, hF40, by omega, by omega, by have := ((hQ39.at g_739_30 rfl).trans ex739_30); have := ((hQ39.at g_739_31 rfl).trans ex739_31); omega, by have := ((hQ39.at g_739_31 rfl).trans ex739_31); have := ((hQ39.at g_739_33 rfl).trans ex739_33); have := ((hQ39.at g_739_34 rfl).trans ex739_34); omega, by have := ((hQ39.at g_739_31 rfl).trans ex739_31); have := ((hQ39.at g_739_33 rfl).trans ex739_33); have := ((hQ39.at g_739_34 rfl).trans ex739_34); omega, by have := ((hQ39.at g_739_34 rfl).trans ex739_34); have := ((hQ39.at g_739_32 rfl).trans ex739_32); omega, by have := ((hQ39.at g_739_33 rfl).trans ex739_33); omega, by have := e44; omega, by have := ((hQ39.at g_739_33 rfl).trans ex739_33); have := e44; omega, by have := e44; omega, by have := e44; omega, (TK_sm (Sm.fr hQ39 rfl) pp_TK)⟩)
          · intro h57
            exfalso
            omega
        · intro h58
          refine wk_al0 r114_41 (wk_getfi r114_42 fd_739_35 ex739_35 (wk_il2 r114_45 ?_))
          refine wk_icle r114_46 ⟨by omega, by omega⟩ ⟨by omega, by omega⟩ ?_ ?_
          · intro h59
            refine wk_al0 r114_54 (wk_getfi r114_55 fd_739_35 ex739_35 (wk_is3 r114_58 rfl (wk_al0 r114_59 (wk_cv1 r114_60 kc_739_84 rfl (m9084_739 _ M0 x739_28 hP0 ex739_28 (by first | assumption | omega) (by first | assumption | omega)) (cqI ?_)))))
            rintro v66 M60 ⟨hP61, hQ62, h67, h68, h64, h65⟩
            obtain rfl := Fr.same hQ62
            have e69 := ex739_28
            refine wk_ifeq r114_63 ⟨by omega, by omega⟩ ?_ ?_
            · intro h70
              exfalso
              omega
            · intro h71
              refine wk_al0 r114_66 (wk_cv1 r114_67 kc_739_76 rfl (m9076_739 _ M0 x739_30 x739_31 hP0 ex739_30 (by first | assumption | omega) (by first | assumption | omega) ex739_31 (by first | assumption | omega) (by first | assumption | omega) (by omega)) (cqV ?_))
              rintro M72 ⟨hP73, hQ74, h76, h77, h78, h79, h80, pr81⟩
              have hF75 : Fr fm_m9114_739 M0 M72 := hF0.tr hQ74 rfl
              have e82 := ((hQ74.at g_739_30 rfl).trans ex739_30)
              obtain ⟨v83, e84⟩ : ∃ v, M72 739 31 = v := ⟨_, rfl⟩
              have h85 := bf_739_31 hP73; rw [e84] at h85
              obtain ⟨v86, e87⟩ : ∃ v, M72 739 33 = v := ⟨_, rfl⟩
              have h88 := bf_739_33 hP73; rw [e87] at h88
              obtain ⟨v89, e90⟩ : ∃ v, M72 739 34 = v := ⟨_, rfl⟩
              have h91 := bf_739_34 hP73; rw [e90] at h91
              obtain ⟨v92, e93⟩ : ∃ v, M72 739 32 = v := ⟨_, rfl⟩
              have h94 := bf_739_32 hP73; rw [e93] at h94
              refine wk_il3 r114_70 ?_
              subst hQ; exact wk_iret r114_71 (⟨rfl, _, rfl, hP73, hF75, by omega, by omega, by have := ((hQ74.at g_739_30 rfl).trans ex739_30); have := e84; omega, by have := e84; have := e87; have := e90; omega, by have := e84; have := e87; have := e90; omega, by have := e90; have := e93; omega, by have := e87; omega, by have := ((hQ74.at g_739_28 rfl).trans ex739_28); omega, by have := e87; have := ((hQ74.at g_739_28 rfl).trans ex739_28); omega, by have := ((hQ74.at g_739_28 rfl).trans ex739_28); omega, by have := ((hQ74.at g_739_28 rfl).trans ex739_28); omega, pr81⟩)
          · intro h95
            refine wk_al0 r114_49 (wk_c1 r114_50 (wk_cv2 r114_51 kc_739_137 rfl (m9137_739 _ M0 2 x739_28 x739_33 hP0 (by decide) (by decide) ex739_28 (by first | assumption | omega) (by first | assumption | omega) ex739_33 (by first | assumption | omega) (by first | assumption | omega)) (cqV ?_)))
            rintro M96 ⟨hP97, hQ98, h100, h101⟩
            have hF99 : Fr fm_m9114_739 M0 M96 := hF0.tr hQ98 rfl
            obtain ⟨v102, e103⟩ : ∃ v, M96 739 28 = v := ⟨_, rfl⟩
            have h104 := bf_739_28 hP97; rw [e103] at h104
            refine wk_al0 r114_54 (wk_getfi r114_55 fd_739_35 ((hQ98.at g_739_35 rfl).trans ex739_35) (wk_is3 r114_58 rfl (wk_al0 r114_59 (wk_cv1 r114_60 kc_739_84 rfl (m9084_739 _ M96 v102 hP97 e103 (by first | assumption | omega) (by first | assumption | omega)) (cqI ?_)))))
            rintro v111 M105 ⟨hP106, hQ107, h112, h113, h109, h110⟩
            obtain rfl := Fr.same hQ107
            have e114 := e103
            refine wk_ifeq r114_63 ⟨by omega, by omega⟩ ?_ ?_
            · intro h115
              refine wk_il3 r114_70 ?_
              subst hQ; exact wk_iret r114_71 (⟨rfl, _, rfl, hP97, hF99, by omega, by omega, by have := ((hQ98.at g_739_30 rfl).trans ex739_30); have := ((hQ98.at g_739_31 rfl).trans ex739_31); omega, by have := ((hQ98.at g_739_31 rfl).trans ex739_31); have := ((hQ98.at g_739_33 rfl).trans ex739_33); have := ((hQ98.at g_739_34 rfl).trans ex739_34); omega, by have := ((hQ98.at g_739_31 rfl).trans ex739_31); have := ((hQ98.at g_739_33 rfl).trans ex739_33); have := ((hQ98.at g_739_34 rfl).trans ex739_34); omega, by have := ((hQ98.at g_739_34 rfl).trans ex739_34); have := ((hQ98.at g_739_32 rfl).trans ex739_32); omega, by have := ((hQ98.at g_739_33 rfl).trans ex739_33); omega, by have := e103; omega, by have := ((hQ98.at g_739_33 rfl).trans ex739_33); have := e103; omega, by have := e103; omega, by have := e103; omega, (TK_sm (Sm.fr hQ98 rfl) pp_TK)⟩)
            · intro h116
              exfalso
              omega
    · intro h117
      refine wk_al0 r114_17 (wk_c1 r114_18 (wk_cv2 r114_19 kc_739_137 rfl (m9137_739 _ M0 1 x739_28 x739_33 hP0 (by decide) (by decide) ex739_28 (by first | assumption | omega) (by first | assumption | omega) ex739_33 (by first | assumption | omega) (by first | assumption | omega)) (cqV ?_)))
      rintro M118 ⟨hP119, hQ120, h122, h123⟩
      have hF121 : Fr fm_m9114_739 M0 M118 := hF0.tr hQ120 rfl
      obtain ⟨v124, e125⟩ : ∃ v, M118 739 28 = v := ⟨_, rfl⟩
      have h126 := bf_739_28 hP119; rw [e125] at h126
      refine wk_goto r114_22 (wk_al0 r114_54 (wk_getfi r114_55 fd_739_35 ((hQ120.at g_739_35 rfl).trans ex739_35) (wk_is3 r114_58 rfl (wk_al0 r114_59 (wk_cv1 r114_60 kc_739_84 rfl (m9084_739 _ M118 v124 hP119 e125 (by first | assumption | omega) (by first | assumption | omega)) (cqI ?_))))))
      rintro v133 M127 ⟨hP128, hQ129, h134, h135, h131, h132⟩
      obtain rfl := Fr.same hQ129
      have e136 := e125
      refine wk_ifeq r114_63 ⟨by omega, by omega⟩ ?_ ?_
      · intro h137
        refine wk_il3 r114_70 ?_
        subst hQ; exact wk_iret r114_71 (⟨rfl, _, rfl, hP119, hF121, by omega, by omega, by have := ((hQ120.at g_739_30 rfl).trans ex739_30); have := ((hQ120.at g_739_31 rfl).trans ex739_31); omega, by have := ((hQ120.at g_739_31 rfl).trans ex739_31); have := ((hQ120.at g_739_33 rfl).trans ex739_33); have := ((hQ120.at g_739_34 rfl).trans ex739_34); omega, by have := ((hQ120.at g_739_31 rfl).trans ex739_31); have := ((hQ120.at g_739_33 rfl).trans ex739_33); have := ((hQ120.at g_739_34 rfl).trans ex739_34); omega, by have := ((hQ120.at g_739_34 rfl).trans ex739_34); have := ((hQ120.at g_739_32 rfl).trans ex739_32); omega, by have := ((hQ120.at g_739_33 rfl).trans ex739_33); omega, by have := e125; omega, by have := ((hQ120.at g_739_33 rfl).trans ex739_33); have := e125; omega, by have := e125; omega, by have := e125; omega, (TK_sm (Sm.fr hQ120 rfl) pp_TK)⟩)
      · intro h138
        exfalso
        omega
  · intro h139
    refine wk_c1 r114_7 ?_
    subst hQ; exact wk_iret r114_8 (⟨rfl, _, rfl, hP0, hF0, by omega, by omega, by have := ex739_30; have := ex739_31; omega, by have := ex739_31; have := ex739_33; have := ex739_34; omega, by have := ex739_31; have := ex739_33; have := ex739_34; omega, by have := ex739_34; have := ex739_32; omega, by have := ex739_33; omega, by have := ex739_28; omega, by have := ex739_33; have := ex739_28; omega, by have := ex739_28; omega, by have := ex739_28; omega, pp_TK⟩)
