/-! ===== written by program (wip/layer3/model.py): contracts of methods ===== -/
def fm_m9044_739 : Nat := 0
/-- IslandHallModel.all -/
theorem m9044_739 {B : eB} (d : Nat) (M0 : Mm) (hP0 : Pw M0)  : Ct B (d + 1) 44 [R 739] M0 (qI fun z M => Pw M ∧ Fr fm_m9044_739 M0 M ∧ 0 ≤ z ∧ z ≤ 4095 ∧ (z = AL M0)) := by
  refine ct_of (d := d + 0) (k := 0) (L := [some (R 739)]) rfl rfl rfl ?_
  have hF0 := Fr.rf fm_m9044_739 M0
  generalize hQ : (qI fun z M => Pw M ∧ Fr fm_m9044_739 M0 M ∧ 0 ≤ z ∧ z ≤ 4095 ∧ (z = AL M0)) = Q
  refine wk_c1 r44_0 (wk_al0 r44_1 (wk_getfb r44_2 fd_739_15 (bf_739_15 hP0) ?_))
  intro v1 h3 h4 e2
  refine wk_shl1 12 4096 r44_5 ⟨by omega, by omega⟩ ⟨pwl_12, by decide⟩ ?_
  intro v5 h6 h7 h8
  refine wk_c1 r44_6 (wk_isub r44_7 ?_)
  subst hQ; exact wk_iret r44_8 (⟨rfl, _, rfl, hP0, hF0, by omega, by omega, by unfold AL; rw [e2, ← h8]⟩)
def fm_m9083_739 : Nat := 0
/-- IslandHallModel.isFit -/
theorem m9083_739 {B : eB} (d : Nat) (M0 : Mm) (p1 : Int) (hP0 : Pw M0) (l1 : 0 ≤ p1) (u1 : p1 ≤ 2999) : Ct B (d + 2) 83 [R 739, I p1] M0 (qI fun z M => Pw M ∧ Fr fm_m9083_739 M0 M ∧ 0 ≤ z ∧ z ≤ 1 ∧ ((z = 1 ∧ M0 752 p1 = AL M0) ∨ (z = 0 ∧ M0 752 p1 ≠ AL M0))) := by
  refine ct_of (d := d + 1) (k := 0) (L := [some (R 739), some (I p1)]) rfl rfl rfl ?_
  have hF0 := Fr.rf fm_m9083_739 M0
  generalize hQ : (qI fun z M => Pw M ∧ Fr fm_m9083_739 M0 M ∧ 0 ≤ z ∧ z ≤ 1 ∧ ((z = 1 ∧ M0 752 p1 = AL M0) ∨ (z = 0 ∧ M0 752 p1 ≠ AL M0))) = Q
  refine wk_al0 r83_0 (wk_getfr r83_1 fd_739_20 (br_739_20 hP0) (wk_il1 r83_4 (wk_ialdb r83_5 ar_752 ⟨by omega, by omega⟩ (fun q0 q1 => ba_752 hP0 q0 q1) ?_)))
  intro v1 h3 h4 e2
  refine wk_al0 r83_6 (wk_cv1 r83_7 kc_739_44 rfl (m9044_739 _ M0 hP0) (cqI ?_))
  rintro v10 M5 ⟨hP6, hQ7, h11, h12, xh9⟩
  obtain rfl := Fr.same hQ7
  refine wk_icne r83_10 ⟨by omega, by omega⟩ ⟨by omega, by omega⟩ ?_ ?_
  · intro h13
    refine wk_c1 r83_17 ?_
    subst hQ; exact wk_zret r83_18 (by decide) (⟨rfl, _, rfl, hP0, hF0, by omega, by omega, by rw [e2]; omega⟩)
  · intro h14
    refine wk_c1 r83_13 (wk_goto r83_14 ?_)
    subst hQ; exact wk_zret r83_18 (by decide) (⟨rfl, _, rfl, hP0, hF0, by omega, by omega, by rw [e2]; omega⟩)
def fm_m9074_739 : Nat := 0
/-- IslandHallModel.fitting -/
theorem m9074_739 {B : eB} (d : Nat) (M0 : Mm) (x739_7 : Int) (hP0 : Pw M0) (ex739_7 : M0 739 7 = x739_7) (lx739_7 : 0 ≤ x739_7) (ux739_7 : x739_7 ≤ 3000) : Ct B (d + 3) 74 [R 739] M0 (qI fun z M => Pw M ∧ Fr fm_m9074_739 M0 M ∧ 0 ≤ z ∧ z ≤ 3000 ∧ (z = cnF (fun k => M0 752 k) (AL M0) (x739_7).toNat)) := by
  refine ct_of (d := d + 2) (k := 2) (L := [some (R 739), none, none]) rfl rfl rfl ?_
  have hF0 := Fr.rf fm_m9074_739 M0
  generalize hQ : (qI fun z M => Pw M ∧ Fr fm_m9074_739 M0 M ∧ 0 ≤ z ∧ z ≤ 3000 ∧ (z = cnF (fun k => M0 752 k) (AL M0) (x739_7).toNat)) = Q
  refine wk_c1 r74_0 (wk_is1 r74_1 rfl (wk_c1 r74_2 (wk_is2 r74_3 rfl ?_)))
  have c4_222 : ∀ (k222 : Nat) (v200 : Int) (v203 : Int), (3000 - v203).toNat = k222 → 0 ≤ v200 → v200 ≤ 3000 → 0 ≤ v203 → v203 ≤ 3000 → 0 ≤ (-1) * v203 + x739_7 → 0 ≤ v203 + (-1) * v200 → 0 ≤ (-1) * v200 + v203 + 0 → (v200 = cnF (fun k => M0 752 k) (AL M0) (v203).toNat) → Wp B (d + 2) 74 4 [some (R 739), some (I v200), some (I v203)] [] M0 Q := by
    refine lp_ind ?_
    intro k222 ih222 v200 v203 hk222 h201 h202 h204 h205 h206 h207 h208 ti209
    refine wk_il2 r74_4 (wk_al0 r74_5 (wk_getfi r74_6 fd_739_7 ex739_7 ?_))
    refine wk_icge r74_9 ⟨by omega, by omega⟩ ⟨by omega, by omega⟩ ?_ ?_
    · intro h210
      refine wk_il1 r74_29 ?_
      subst hQ; exact wk_iret r74_30 (⟨rfl, _, rfl, hP0, hF0, by omega, by omega, by rw [show x739_7.toNat = (v203).toNat by omega]; exact ti209⟩)
    · intro h211
      refine wk_al0 r74_12 (wk_il2 r74_13 (wk_cv2 r74_14 kc_739_83 rfl (m9083_739 _ M0 v203 hP0 (by omega) (by omega)) (cqI ?_)))
      rintro v217 M212 ⟨hP213, hQ214, h218, h219, xh216⟩
      obtain rfl := Fr.same hQ214
      refine wk_ifeq r74_17 ⟨by omega, by omega⟩ ?_ ?_
      · intro h220
        refine wk_inc2 r74_23 rfl (wk_goto r74_26 ?_)
        exact wp_fg (le_s (le_s (le_s le_0))) (ih222 (3000 - (v203 + 1)).toNat (by omega) v200 (v203 + 1) rfl (by first | assumption | omega) (by first | assumption | omega) (by first | assumption | omega) (by first | assumption | omega) (by first | assumption | omega) (by first | assumption | omega) (by first | assumption | omega) (by rcases xh216 with ⟨q1, q2⟩ | ⟨q1, q2⟩; (rw [cnF_y (u := fun k => M0 752 k) (by omega) q2]; omega); (rw [cnF_n (u := fun k => M0 752 k) (by omega) q2]; omega)))
      · intro h221
        refine wk_inc1 r74_20 rfl (wk_inc2 r74_23 rfl (wk_goto r74_26 ?_))
        exact wp_fg (le_s (le_s (le_s le_0))) (ih222 (3000 - (v203 + 1)).toNat (by omega) (v200 + 1) (v203 + 1) rfl (by first | assumption | omega) (by first | assumption | omega) (by first | assumption | omega) (by first | assumption | omega) (by first | assumption | omega) (by first | assumption | omega) (by first | assumption | omega) (by rcases xh216 with ⟨q1, q2⟩ | ⟨q1, q2⟩; (rw [cnF_y (u := fun k => M0 752 k) (by omega) q2]; omega); (rw [cnF_n (u := fun k => M0 752 k) (by omega) q2]; omega)))
  exact wp_fg (le_s (le_s (le_s le_0))) (c4_222 _ 0 0 rfl (by first | assumption | omega) (by first | assumption | omega) (by first | assumption | omega) (by first | assumption | omega) (by first | assumption | omega) (by first | assumption | omega) (by first | assumption | omega) (rfl))
def fm_m9056_739 : Nat := 0
/-- IslandHallModel.canSay -/
theorem m9056_739 {B : eB} (d : Nat) (M0 : Mm) (p1 : Int) (p2 : Int) (p3 : Int) (p4 : Int) (hP0 : Pw M0) (l1 : 0 ≤ p1) (u1 : p1 ≤ 2) (l2 : 0 ≤ p2) (u2 : p2 ≤ 1) (l3 : (-1) ≤ p3) (u3 : p3 ≤ 1) (l4 : 0 ≤ p4) (u4 : p4 ≤ 2999) : Ct B (d + 2) 56 [R 739, I p1, I p2, I p3, I p4] M0 (qI fun z M => Pw M ∧ Fr fm_m9056_739 M0 M ∧ 0 ≤ z ∧ z ≤ 1) := by
  refine ct_of (d := d + 1) (k := 1) (L := [some (R 739), some (I p1), some (I p2), some (I p3), some (I p4), none]) rfl rfl rfl ?_
  have hF0 := Fr.rf fm_m9056_739 M0
  generalize hQ : (qI fun z M => Pw M ∧ Fr fm_m9056_739 M0 M ∧ 0 ≤ z ∧ z ≤ 1) = Q
  refine wk_il1 r56_0 (wk_c1 r56_1 ?_)
  refine wk_icne r56_2 ⟨by omega, by omega⟩ (by decide) ?_ ?_
  · intro h1
    refine wk_il3 r56_7 (wk_c1 r56_8 ?_)
    have c35_30 : ∀ (v21 : Int), 0 ≤ v21 → v21 ≤ 1 → Wp B (d + 1) 56 35 [none, some (I p1), some (I p2), none, none, none] [I v21] M0 Q := by
      intro v21 h22 h23
      refine wk_is5 r56_35 rfl (wk_il1 r56_37 (wk_c1 r56_38 ?_))
      refine wk_icne r56_39 ⟨by omega, by omega⟩ (by decide) ?_ ?_
      · intro h24
        refine wk_il2 r56_48 (wk_il5 r56_49 ?_)
        refine wk_icne r56_51 ⟨by omega, by omega⟩ ⟨by omega, by omega⟩ ?_ ?_
        · intro h25
          refine wk_c1 r56_58 ?_
          subst hQ; exact wk_zret r56_59 (by decide) (⟨rfl, _, rfl, hP0, hF0, by omega, by omega⟩)
        · intro h26
          refine wk_c1 r56_54 (wk_goto r56_55 ?_)
          subst hQ; exact wk_zret r56_59 (by decide) (⟨rfl, _, rfl, hP0, hF0, by omega, by omega⟩)
      · intro h27
        refine wk_c1 r56_42 (wk_il2 r56_43 (wk_isub r56_44 (wk_goto r56_45 (wk_il5 r56_49 ?_))))
        refine wk_icne r56_51 ⟨by omega, by omega⟩ ⟨by omega, by omega⟩ ?_ ?_
        · intro h28
          refine wk_c1 r56_58 ?_
          subst hQ; exact wk_zret r56_59 (by decide) (⟨rfl, _, rfl, hP0, hF0, by omega, by omega⟩)
        · intro h29
          refine wk_c1 r56_54 (wk_goto r56_55 ?_)
          subst hQ; exact wk_zret r56_59 (by decide) (⟨rfl, _, rfl, hP0, hF0, by omega, by omega⟩)
    refine wk_icne r56_9 ⟨by omega, by omega⟩ (by decide) ?_ ?_
    · intro h2
      refine wk_il3 r56_16 (wk_al0 r56_17 (wk_getfr r56_18 fd_739_12 (br_739_12 hP0) (wk_il4 r56_21 (wk_ialdb r56_23 ar_746 ⟨by omega, by omega⟩ (fun q0 q1 => ba_746 hP0 q0 q1) ?_))))
      intro v3 h5 h6 e4
      have c32_19 : ∀ (v9 : Int), 0 ≤ v9 → v9 ≤ 1 → Wp B (d + 1) 56 32 [none, some (I p1), some (I p2), none, none, none] [I v9] M0 Q := by
        intro v9 h10 h11
        refine wk_cs102_1 r56_32 rfl (m9115v1 _ M0 v9 hP0 (by omega) (by omega)) (cqI ?_)
        rintro v16 M12 ⟨hP13, hQ14, h17, h18⟩
        obtain rfl := Fr.same hQ14
        exact wp_fg (le_s (le_s (le_s (le_s (le_s (le_s le_0)))))) (c35_30 v16 (by first | assumption | omega) (by first | assumption | omega))
      refine wk_icne r56_24 ⟨by omega, by omega⟩ ⟨by omega, by omega⟩ ?_ ?_
      · intro h7
        refine wk_c1 r56_31 ?_
        exact wp_fg (le_n (le_s (le_s (le_n (le_n (le_s le_0)))))) (c32_19 0 (by first | assumption | omega) (by first | assumption | omega))
      · intro h8
        refine wk_c1 r56_27 (wk_goto r56_28 ?_)
        exact wp_fg (le_n (le_s (le_s (le_n (le_n (le_s le_0)))))) (c32_19 1 (by first | assumption | omega) (by first | assumption | omega))
    · intro h20
      refine wk_c1 r56_12 (wk_goto r56_13 ?_)
      exact wp_fg (le_n (le_s (le_s (le_n (le_n (le_s le_0)))))) (c35_30 1 (by first | assumption | omega) (by first | assumption | omega))
  · intro h31
    refine wk_c1 r56_5 ?_
    subst hQ; exact wk_zret r56_6 (by decide) (⟨rfl, _, rfl, hP0, hF0, by omega, by omega⟩)
def fm_m9087_739 : Nat := 11692013098647223345629478661730264157247460343808
/-- IslandHallModel.isSentence -/
theorem m9087_739 {B : eB} (d : Nat) (M0 : Mm) (p1 : Int) (hP0 : Pw M0) (l1 : (-2147483648) ≤ p1) (u1 : p1 ≤ 2147483647) : Ct B (d + 2) 87 [R 739, I p1] M0 (qI fun z M => Pw M ∧ Fr fm_m9087_739 M0 M ∧ 0 ≤ z ∧ z ≤ 1 ∧ (z = 1 → 0 ≤ p1) ∧ (z = 1 → 0 ≤ M 739 13 + (-1) * p1 + (-1))) := by
  refine ct_of (d := d + 1) (k := 0) (L := [some (R 739), some (I p1)]) rfl rfl rfl ?_
  have hF0 := Fr.rf fm_m9087_739 M0
  generalize hQ : (qI fun z M => Pw M ∧ Fr fm_m9087_739 M0 M ∧ 0 ≤ z ∧ z ≤ 1 ∧ (z = 1 → 0 ≤ p1) ∧ (z = 1 → 0 ≤ M 739 13 + (-1) * p1 + (-1))) = Q
  refine wk_al0 r87_0 (wk_il1 r87_1 ?_)
  refine wk_iflt r87_2 ⟨by omega, by omega⟩ ?_ ?_
  · intro h1
    refine wk_c1 r87_17 (wk_c1 r87_18 ?_)
    obtain ⟨v2, e3⟩ : ∃ v, M0 739 0 = v := ⟨_, rfl⟩
    have h4 := bf_739_0 hP0; rw [e3] at h4
    refine wk_cv3 r87_19 kc_739_123 rfl (m9123_739 _ M0 0 1 v2 hP0 (by decide) (by decide) (by decide) (by decide) e3 (by first | assumption | omega) (by first | assumption | omega)) (cqI ?_)
    rintro v11 M5 ⟨hP6, hQ7, h12, h13, h9, xh10⟩
    have hF8 : Fr fm_m9087_739 M0 M5 := hF0.tr hQ7 rfl
    subst hQ; exact wk_zret r87_22 ⟨by omega, by omega⟩ (⟨rfl, _, rfl, hP6, hF8, by omega, by omega, by omega, by omega⟩)
  · intro h14
    refine wk_il1 r87_5 (wk_al0 r87_6 (wk_getfb r87_7 fd_739_13 (bf_739_13 hP0) ?_))
    intro v15 h17 h18 e16
    refine wk_icge r87_10 ⟨by omega, by omega⟩ ⟨by omega, by omega⟩ ?_ ?_
    · intro h19
      refine wk_c1 r87_17 (wk_c1 r87_18 ?_)
      obtain ⟨v20, e21⟩ : ∃ v, M0 739 0 = v := ⟨_, rfl⟩
      have h22 := bf_739_0 hP0; rw [e21] at h22
      refine wk_cv3 r87_19 kc_739_123 rfl (m9123_739 _ M0 0 1 v20 hP0 (by decide) (by decide) (by decide) (by decide) e21 (by first | assumption | omega) (by first | assumption | omega)) (cqI ?_)
      rintro v29 M23 ⟨hP24, hQ25, h30, h31, h27, xh28⟩
      have hF26 : Fr fm_m9087_739 M0 M23 := hF0.tr hQ25 rfl
      subst hQ; exact wk_zret r87_22 ⟨by omega, by omega⟩ (⟨rfl, _, rfl, hP24, hF26, by omega, by omega, by omega, by omega⟩)
    · intro h32
      refine wk_c1 r87_13 (wk_goto r87_14 (wk_c1 r87_18 ?_))
      obtain ⟨v33, e34⟩ : ∃ v, M0 739 0 = v := ⟨_, rfl⟩
      have h35 := bf_739_0 hP0; rw [e34] at h35
      refine wk_cv3 r87_19 kc_739_123 rfl (m9123_739v1 _ M0 1 1 v33 hP0 (by decide) (by decide) (by decide) (by decide) e34 (by first | assumption | omega) (by first | assumption | omega)) (cqI ?_)
      rintro v42 M36 ⟨hP37, hQ38, h43, h44, h40, xh41⟩
      obtain rfl := Fr.same hQ38
      subst hQ; exact wk_zret r87_22 ⟨by omega, by omega⟩ (⟨rfl, _, rfl, hP0, hF0, by omega, by omega, by omega, by have := e16; omega⟩)
def fm_m9060_739 : Nat := 1809251394438377845161853839150679686538237288349007570247338018625413971968
/-- IslandHallModel.could -/
theorem m9060_739 {B : eB} (d : Nat) (M0 : Mm) (p1 : Int) (p2 : Int) (x739_13 : Int) (x739_1 : Int) (hP0 : Pw M0) (l1 : (-2147483648) ≤ p1) (u1 : p1 ≤ 2147483647) (l2 : (-2147483648) ≤ p2) (u2 : p2 ≤ 2147483647) (ex739_13 : M0 739 13 = x739_13) (lx739_13 : 0 ≤ x739_13) (ux739_13 : x739_13 ≤ 30) (ex739_1 : M0 739 1 = x739_1) (lx739_1 : 0 ≤ x739_1) (ux739_1 : x739_1 ≤ 7) (pp_WS : WS M0) : Ct B (d + 6) 60 [R 739, I p1, I p2] M0 (qI fun z M => Pw M ∧ Fr fm_m9060_739 M0 M ∧ 0 ≤ z ∧ z ≤ 3000 ∧ (WS M)) := by
  refine ct_of (d := d + 5) (k := 3) (L := [some (R 739), some (I p1), some (I p2), none, none, none]) rfl rfl rfl ?_
  have hF0 := Fr.rf fm_m9060_739 M0
  generalize hQ : (qI fun z M => Pw M ∧ Fr fm_m9060_739 M0 M ∧ 0 ≤ z ∧ z ≤ 3000 ∧ (WS M)) = Q
  refine wk_al0 r60_0 (wk_c1 r60_1 (wk_putfi81 r60_2 fd_739_0 (wk_nw g_739_0 rfl hP0 hF0 (uf_739_0 (by decide)) ?_)))
  intro M1 hP2 hF3 e4
  refine wk_al0 r60_5 (wk_il1 r60_6 (wk_c1 r60_7 ?_))
  refine wk_iclt r60_8 ⟨by omega, by omega⟩ (by decide) ?_ ?_
  · intro h5
    refine wk_c1 r60_23 (wk_c1 r60_24 (wk_cv3 r60_25 kc_739_123 rfl (m9123_739 _ M1 0 1 0 hP2 (by decide) (by decide) (by decide) (by decide) (mUp_at e4) (by first | assumption | omega) (by first | assumption | omega)) (cqI ?_)))
    rintro v12 M6 ⟨hP7, hQ8, h13, h14, h10, xh11⟩
    have hF9 : Fr fm_m9060_739 M0 M6 := hF3.tr hQ8 rfl
    refine wk_ifeq r60_28 ⟨by omega, by omega⟩ ?_ ?_
    · intro h15
      refine wk_c1 r60_39 ?_
      subst hQ; exact wk_iret r60_40 (⟨rfl, _, rfl, hP7, hF9, by omega, by omega, (WS_sm (Sm.fr hQ8 rfl) (WS_sm (Sm.up e4 g_739_0 rfl) pp_WS))⟩)
    · intro h16
      exfalso
      omega
  · intro h17
    refine wk_il1 r60_11 (wk_al0 r60_12 (wk_getfi r60_13 fd_739_1 (mUp_no e4 ex739_1 (Or.inr (by decide))) ?_))
    refine wk_icge r60_16 ⟨by omega, by omega⟩ ⟨by omega, by omega⟩ ?_ ?_
    · intro h18
      refine wk_c1 r60_23 (wk_c1 r60_24 (wk_cv3 r60_25 kc_739_123 rfl (m9123_739 _ M1 0 1 0 hP2 (by decide) (by decide) (by decide) (by decide) (mUp_at e4) (by first | assumption | omega) (by first | assumption | omega)) (cqI ?_)))
      rintro v25 M19 ⟨hP20, hQ21, h26, h27, h23, xh24⟩
      have hF22 : Fr fm_m9060_739 M0 M19 := hF3.tr hQ21 rfl
      refine wk_ifeq r60_28 ⟨by omega, by omega⟩ ?_ ?_
      · intro h28
        refine wk_c1 r60_39 ?_
        subst hQ; exact wk_iret r60_40 (⟨rfl, _, rfl, hP20, hF22, by omega, by omega, (WS_sm (Sm.fr hQ21 rfl) (WS_sm (Sm.up e4 g_739_0 rfl) pp_WS))⟩)
      · intro h29
        exfalso
        omega
    · intro h30
      refine wk_c1 r60_19 (wk_goto r60_20 (wk_c1 r60_24 (wk_cv3 r60_25 kc_739_123 rfl (m9123_739v1 _ M1 1 1 0 hP2 (by decide) (by decide) (by decide) (by decide) (mUp_at e4) (by first | assumption | omega) (by first | assumption | omega)) (cqI ?_))))
      rintro v37 M31 ⟨hP32, hQ33, h38, h39, h35, xh36⟩
      obtain rfl := Fr.same hQ33
      refine wk_ifeq r60_28 ⟨by omega, by omega⟩ ?_ ?_
      · intro h40
        refine wk_c1 r60_39 ?_
        subst hQ; exact wk_iret r60_40 (⟨rfl, _, rfl, hP2, hF3, by omega, by omega, (WS_sm (Sm.up e4 g_739_0 rfl) pp_WS)⟩)
      · intro h41
        refine wk_al0 r60_31 (wk_il2 r60_32 (wk_cv2 r60_33 kc_739_87 rfl (m9087_739 _ M1 p2 hP2 (by omega) (by omega)) (cqI ?_)))
        rintro v48 M42 ⟨hP43, hQ44, h49, h50, h46, h47⟩
        have hF45 : Fr fm_m9060_739 M0 M42 := hF3.tr hQ44 rfl
        have e51 := ((hQ44.at g_739_13 rfl).trans (mUp_no e4 ex739_13 (Or.inr (by decide))))
        refine wk_ifne r60_36 ⟨by omega, by omega⟩ ?_ ?_
        · intro h52
          refine wk_c1 r60_41 (wk_is3 r60_42 rfl (wk_c1 r60_43 (wk_is4 r60_44 rfl ?_)))
          have c46_689 : ∀ (k689 : Nat) (M631 : Mm) (v625 : Int) (v628 : Int), (3000 - v628).toNat = k689 → Pw M631 → Fr fm_m9060_739 M0 M631 → M631 739 13 = x739_13 → M631 739 1 = x739_1 → 0 ≤ v625 → v625 ≤ 3000 → 0 ≤ v628 → v628 ≤ 3000 → (WS M631) → 0 ≤ (-1) * v625 + v628 + 0 → Wp B (d + 5) 60 46 [some (R 739), some (I p1), some (I p2), some (I v625), some (I v628), none] [] M631 Q := by
            refine lp_ind ?_
            intro k689 ih689 M631 v625 v628 hk689 hP632 hF633 e634 e635 h626 h627 h629 h630 pr636 h637
            refine wk_il4 r60_46 (wk_al0 r60_48 (wk_getfb r60_49 fd_739_7 (bf_739_7 hP632) ?_))
            intro v638 h640 h641 e639
            refine wk_icge r60_52 ⟨by omega, by omega⟩ ⟨by omega, by omega⟩ ?_ ?_
            · intro h642
              refine wk_il3 r60_133 ?_
              subst hQ; exact wk_iret r60_134 (⟨rfl, _, rfl, hP632, hF633, by omega, by omega, pr636⟩)
            · intro h643
              refine wk_al0 r60_55 (wk_il4 r60_56 (wk_cv2 r60_58 kc_739_83 rfl (m9083_739 _ M631 v628 hP632 (by omega) (by omega)) (cqI ?_)))
              rintro v649 M644 ⟨hP645, hQ646, h650, h651, xh648⟩
              obtain rfl := Fr.same hQ646
              refine wk_ifne r60_61 ⟨by omega, by omega⟩ ?_ ?_
              · intro h652
                refine wk_al0 r60_67 (wk_il2 r60_68 (wk_il4 r60_69 (wk_al0 r60_71 (wk_getfb r60_72 fd_739_15 (bf_739_15 hP632) ?_))))
                intro v653 h655 h656 e654
                refine wk_al0 r60_75 (wk_getfr r60_76 fd_739_19 (br_739_19 hP632) (wk_il4 r60_79 (wk_ialdb r60_81 ar_751 ⟨by omega, by omega⟩ (fun q0 q1 => ba_751 hP632 q0 q1) ?_)))
                intro v657 h659 h660 e658
                refine wk_cv5 r60_82 kc_739_128 rfl (m9128_739 _ M631 p2 v628 v653 v657 x739_13 hP632 (by omega) (by omega) (by omega) (by omega) (by omega) (by omega) (by omega) (by omega) e634 (by first | assumption | omega) (by first | assumption | omega) (by omega) pr636) (cqI ?_)
                rintro v665 M661 ⟨hP662, hQ663, h666, h667⟩
                have hF664 : Fr fm_m9060_739 M0 M661 := hF633.tr hQ663 rfl
                refine wk_is5 r60_85 rfl (wk_il1 r60_87 (wk_c1 r60_88 ?_))
                refine wk_icne r60_89 ⟨by omega, by omega⟩ (by decide) ?_ ?_
                · intro h668
                  refine wk_al0 r60_101 (wk_al0 r60_102 (wk_il4 r60_103 (wk_il1 r60_105 (wk_al0 r60_106 (wk_getfi r60_107 fd_739_15 ((hQ663.at g_739_15 rfl).trans e654) (wk_cv4 r60_110 kc_739_107 rfl (m9107_739 _ M661 v628 p1 v653 hP662 (by omega) (by omega) (by omega) (by omega) (by omega) (by omega)) (cqI ?_)))))))
                  rintro v673 M669 ⟨hP670, hQ671, h674, h675⟩
                  obtain rfl := Fr.same hQ671
                  refine wk_il5 r60_113 (wk_c1 r60_115 (wk_il4 r60_116 (wk_cv5 r60_118 kc_739_56 rfl (m9056_739 _ M661 v673 v665 (-1) v628 hP662 (by omega) (by omega) (by omega) (by omega) (by decide) (by decide) (by omega) (by omega)) (cqI ?_))))
                  rintro v680 M676 ⟨hP677, hQ678, h681, h682⟩
                  obtain rfl := Fr.same hQ678
                  refine wk_ifeq r60_121 ⟨by omega, by omega⟩ ?_ ?_
                  · intro h683
                    refine wk_inc4 r60_127 rfl (wk_goto r60_130 ?_)
                    exact wp_fg (le_s (le_s (le_s (le_s (le_s (le_n le_0)))))) (ih689 (3000 - (v628 + 1)).toNat (by omega) M661 v625 (v628 + 1) rfl hP662 hF664 ((hQ663.at g_739_13 rfl).trans e634) ((hQ663.at g_739_1 rfl).trans e635) (by first | assumption | omega) (by first | assumption | omega) (by first | assumption | omega) (by first | assumption | omega) (WS_sm (Sm.fr hQ663 rfl) pr636) (by first | assumption | omega))
                  · intro h684
                    refine wk_inc3 r60_124 rfl (wk_inc4 r60_127 rfl (wk_goto r60_130 ?_))
                    exact wp_fg (le_s (le_s (le_s (le_s (le_s (le_n le_0)))))) (ih689 (3000 - (v628 + 1)).toNat (by omega) M661 (v625 + 1) (v628 + 1) rfl hP662 hF664 ((hQ663.at g_739_13 rfl).trans e634) ((hQ663.at g_739_1 rfl).trans e635) (by first | assumption | omega) (by first | assumption | omega) (by first | assumption | omega) (by first | assumption | omega) (WS_sm (Sm.fr hQ663 rfl) pr636) (by first | assumption | omega))
                · intro h685
                  refine wk_il5 r60_92 (wk_c1 r60_94 ?_)
                  refine wk_icne r60_95 ⟨by omega, by omega⟩ (by decide) ?_ ?_
                  · intro h686
                    refine wk_inc4 r60_127 rfl (wk_goto r60_130 ?_)
                    exact wp_fg (le_s (le_s (le_s (le_s (le_s (le_n le_0)))))) (ih689 (3000 - (v628 + 1)).toNat (by omega) M661 v625 (v628 + 1) rfl hP662 hF664 ((hQ663.at g_739_13 rfl).trans e634) ((hQ663.at g_739_1 rfl).trans e635) (by first | assumption | omega) (by first | assumption | omega) (by first | assumption | omega) (by first | assumption | omega) (WS_sm (Sm.fr hQ663 rfl) pr636) (by first | assumption | omega))
                  · intro h687
                    refine wk_goto r60_98 (wk_inc3 r60_124 rfl (wk_inc4 r60_127 rfl (wk_goto r60_130 ?_)))
                    exact wp_fg (le_s (le_s (le_s (le_s (le_s (le_n le_0)))))) (ih689 (3000 - (v628 + 1)).toNat (by omega) M661 (v625 + 1) (v628 + 1) rfl hP662 hF664 ((hQ663.at g_739_13 rfl).trans e634) ((hQ663.at g_739_1 rfl).trans e635) (by first | assumption | omega) (by first | assumption | omega) (by first | assumption | omega) (by first | assumption | omega) (WS_sm (Sm.fr hQ663 rfl) pr636) (by first | assumption | omega))
              · intro h688
                refine wk_goto r60_64 (wk_inc4 r60_127 rfl (wk_goto r60_130 ?_))
                exact wp_fg (le_s (le_s (le_s (le_s (le_s (le_s le_0)))))) (ih689 (3000 - (v628 + 1)).toNat (by omega) M631 v625 (v628 + 1) rfl hP632 hF633 e634 e635 (by first | assumption | omega) (by first | assumption | omega) (by first | assumption | omega) (by first | assumption | omega) pr636 (by first | assumption | omega))
          exact wp_fg (le_s (le_s (le_s (le_s (le_s (le_s le_0)))))) (c46_689 _ M42 0 0 rfl hP43 hF45 ((hQ44.at g_739_13 rfl).trans (mUp_no e4 ex739_13 (Or.inr (by decide)))) ((hQ44.at g_739_1 rfl).trans (mUp_no e4 ex739_1 (Or.inr (by decide)))) (by first | assumption | omega) (by first | assumption | omega) (by first | assumption | omega) (by first | assumption | omega) (WS_sm (Sm.fr hQ44 rfl) (WS_sm (Sm.up e4 g_739_0 rfl) pp_WS)) (by first | assumption | omega))
        · intro h690
          refine wk_c1 r60_39 ?_
          subst hQ; exact wk_iret r60_40 (⟨rfl, _, rfl, hP43, hF45, by omega, by omega, (WS_sm (Sm.fr hQ44 rfl) (WS_sm (Sm.up e4 g_739_0 rfl) pp_WS))⟩)
def fm_m9045_739 : Nat := 0
/-- IslandHallModel.answer -/
theorem m9045_739 {B : eB} (d : Nat) (M0 : Mm) (p1 : Int) (p2 : Int) (hP0 : Pw M0) (l1 : 0 ≤ p1) (u1 : p1 ≤ 2999) (l2 : 0 ≤ p2) (u2 : p2 ≤ 3) : Ct B (d + 1) 45 [R 739, I p1, I p2] M0 (qI fun z M => Pw M ∧ Fr fm_m9045_739 M0 M ∧ 0 ≤ z ∧ z ≤ 2097151) := by
  refine ct_of (d := d + 0) (k := 0) (L := [some (R 739), some (I p1), some (I p2)]) rfl rfl rfl ?_
  have hF0 := Fr.rf fm_m9045_739 M0
  generalize hQ : (qI fun z M => Pw M ∧ Fr fm_m9045_739 M0 M ∧ 0 ≤ z ∧ z ≤ 2097151) = Q
  refine wk_il2 r45_0 ?_
  refine wk_ifne r45_1 ⟨by omega, by omega⟩ ?_ ?_
  · intro h1
    refine wk_il2 r45_13 (wk_c1 r45_14 ?_)
    refine wk_icne r45_15 ⟨by omega, by omega⟩ (by decide) ?_ ?_
    · intro h2
      refine wk_il2 r45_27 (wk_c1 r45_28 ?_)
      refine wk_icne r45_29 ⟨by omega, by omega⟩ (by decide) ?_ ?_
      · intro h3
        refine wk_al0 r45_41 (wk_getfr r45_42 fd_739_12 (br_739_12 hP0) (wk_il1 r45_45 (wk_ialdb r45_46 ar_746 ⟨by omega, by omega⟩ (fun q0 q1 => ba_746 hP0 q0 q1) ?_)))
        intro v4 h6 h7 e5
        subst hQ; exact wk_iret r45_47 (⟨rfl, _, rfl, hP0, hF0, by omega, by omega⟩)
      · intro h8
        refine wk_al0 r45_32 (wk_getfr r45_33 fd_739_11 (br_739_11 hP0) (wk_il1 r45_36 (wk_ialdb r45_37 ar_745 ⟨by omega, by omega⟩ (fun q0 q1 => ba_745 hP0 q0 q1) ?_)))
        intro v9 h11 h12 e10
        refine wk_goto r45_38 ?_
        subst hQ; exact wk_iret r45_47 (⟨rfl, _, rfl, hP0, hF0, by omega, by omega⟩)
    · intro h13
      refine wk_al0 r45_18 (wk_getfr r45_19 fd_739_10 (br_739_10 hP0) (wk_il1 r45_22 (wk_ialdb r45_23 ar_744 ⟨by omega, by omega⟩ (fun q0 q1 => ba_744 hP0 q0 q1) ?_)))
      intro v14 h16 h17 e15
      refine wk_goto r45_24 ?_
      subst hQ; exact wk_iret r45_47 (⟨rfl, _, rfl, hP0, hF0, by omega, by omega⟩)
  · intro h18
    refine wk_al0 r45_4 (wk_getfr r45_5 fd_739_8 (br_739_8 hP0) (wk_il1 r45_8 (wk_ialdb r45_9 ar_742 ⟨by omega, by omega⟩ (fun q0 q1 => ba_742 hP0 q0 q1) ?_)))
    intro v19 h21 h22 e20
    refine wk_goto r45_10 ?_
    subst hQ; exact wk_iret r45_47 (⟨rfl, _, rfl, hP0, hF0, by omega, by omega⟩)
def fm_m9089_739 : Nat := 0
/-- IslandHallModel.isTold -/
theorem m9089_739 {B : eB} (d : Nat) (M0 : Mm) (p1 : Int) (hP0 : Pw M0) (l1 : 0 ≤ p1) (u1 : p1 ≤ 3) : Ct B (d + 2) 89 [R 739, I p1] M0 (qI fun z M => Pw M ∧ Fr fm_m9089_739 M0 M ∧ 0 ≤ z ∧ z ≤ 1) := by
  refine ct_of (d := d + 1) (k := 2) (L := [some (R 739), some (I p1), none, none]) rfl rfl rfl ?_
  have hF0 := Fr.rf fm_m9089_739 M0
  generalize hQ : (qI fun z M => Pw M ∧ Fr fm_m9089_739 M0 M ∧ 0 ≤ z ∧ z ≤ 1) = Q
  refine wk_c1 r89_0 (wk_is2 r89_1 rfl (wk_c1 r89_2 (wk_is3 r89_3 rfl ?_)))
  have c4_432 : ∀ (k432 : Nat) (v389 : Int) (v392 : Int), (100 - v392).toNat = k432 → 0 ≤ v389 → v389 ≤ 1 → 1 ≤ v392 → v392 ≤ 100 → 0 ≤ (-1) * v389 + v392 + 0 → Wp B (d + 1) 89 4 [some (R 739), some (I p1), some (I v389), some (I v392)] [] M0 Q := by
    refine lp_ind ?_
    intro k432 ih432 v389 v392 hk432 h390 h391 h393 h394 h395
    refine wk_il3 r89_4 (wk_al0 r89_5 (wk_getfr r89_6 fd_739_62 (br_739_62 hP0) (wk_il1 r89_9 (wk_ialdb r89_10 ar_766 ⟨by omega, by omega⟩ (fun q0 q1 => ba_766 hP0 q0 q1) ?_))))
    intro v396 h398 h399 e397
    refine wk_icge r89_11 ⟨by omega, by omega⟩ ⟨by omega, by omega⟩ ?_ ?_
    · intro h400
      refine wk_il2 r89_69 ?_
      subst hQ; exact wk_zret r89_70 ⟨by omega, by omega⟩ (⟨rfl, _, rfl, hP0, hF0, by omega, by omega⟩)
    · intro h401
      refine wk_il2 r89_14 ?_
      refine wk_ifeq r89_15 ⟨by omega, by omega⟩ ?_ ?_
      · intro h402
        refine wk_c1 r89_61 (wk_is2 r89_62 rfl (wk_inc3 r89_63 rfl (wk_goto r89_66 ?_)))
        exact wp_fg (le_s (le_s (le_s (le_s le_0)))) (ih432 (100 - (v392 + 1)).toNat (by omega) 0 (v392 + 1) rfl (by first | assumption | omega) (by first | assumption | omega) (by first | assumption | omega) (by first | assumption | omega) (by first | assumption | omega))
      · intro h403
        refine wk_al0 r89_18 (wk_al0 r89_19 (wk_getfr r89_20 fd_739_60 (br_739_60 hP0) (wk_c2 r89_23 (wk_il1 r89_25 (wk_imul r89_26 (wk_il3 r89_27 (wk_iadd r89_28 (wk_ialdb r89_29 ar_764 ⟨by omega, by omega⟩ (fun q0 q1 => ba_764 hP0 q0 q1) ?_))))))))
        intro v404 h406 h407 e405
        refine wk_al0 r89_30 (wk_getfb r89_31 fd_739_63 (bf_739_63 hP0) ?_)
        intro v408 h410 h411 e409
        refine wk_cv3 r89_34 kc_739_45 rfl (m9045_739 _ M0 v404 v408 hP0 (by omega) (by omega) (by omega) (by omega)) (cqI ?_)
        rintro v416 M412 ⟨hP413, hQ414, h417, h418⟩
        obtain rfl := Fr.same hQ414
        refine wk_al0 r89_37 (wk_al0 r89_38 (wk_getfr r89_39 fd_739_60 (br_739_60 hP0) (wk_c2 r89_42 (wk_il1 r89_44 (wk_imul r89_45 (wk_ialdb r89_46 ar_764 ⟨by omega, by omega⟩ (fun q0 q1 => ba_764 hP0 q0 q1) ?_))))))
        intro v419 h421 h422 e420
        refine wk_al0 r89_47 (wk_getfi r89_48 fd_739_63 e409 (wk_cv3 r89_51 kc_739_45 rfl (m9045_739 _ M0 v419 v408 hP0 (by omega) (by omega) (by omega) (by omega)) (cqI ?_)))
        rintro v427 M423 ⟨hP424, hQ425, h428, h429⟩
        obtain rfl := Fr.same hQ425
        refine wk_icne r89_54 ⟨by omega, by omega⟩ ⟨by omega, by omega⟩ ?_ ?_
        · intro h430
          refine wk_c1 r89_61 (wk_is2 r89_62 rfl (wk_inc3 r89_63 rfl (wk_goto r89_66 ?_)))
          exact wp_fg (le_s (le_s (le_s (le_s le_0)))) (ih432 (100 - (v392 + 1)).toNat (by omega) 0 (v392 + 1) rfl (by first | assumption | omega) (by first | assumption | omega) (by first | assumption | omega) (by first | assumption | omega) (by first | assumption | omega))
        · intro h431
          refine wk_c1 r89_57 (wk_goto r89_58 (wk_is2 r89_62 rfl (wk_inc3 r89_63 rfl (wk_goto r89_66 ?_))))
          exact wp_fg (le_s (le_s (le_s (le_s le_0)))) (ih432 (100 - (v392 + 1)).toNat (by omega) 1 (v392 + 1) rfl (by first | assumption | omega) (by first | assumption | omega) (by first | assumption | omega) (by first | assumption | omega) (by first | assumption | omega))
  exact wp_fg (le_s (le_s (le_s (le_s le_0)))) (c4_432 _ 1 1 rfl (by first | assumption | omega) (by first | assumption | omega) (by first | assumption | omega) (by first | assumption | omega) (by first | assumption | omega))
