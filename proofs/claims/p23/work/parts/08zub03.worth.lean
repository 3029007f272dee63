
def fm_n8094_739 : Nat := 0
/-- IslandHallModel.kindOf -/
theorem n8094_739 {B : eB} (d : Nat) (M0 : Mm) (p1 : Int) (p2 : Int) (hP0 : Pw M0) (l1 : 0 ≤ p1) (u1 : p1 ≤ 2999) (l2 : 0 ≤ p2) (u2 : p2 ≤ 6) : Ct B (d + 1) 94 [R 739, I p1, I p2] M0 (qI fun z M => Pw M ∧ Fr fm_n8094_739 M0 M ∧ 0 ≤ z ∧ z ≤ 7 ∧ (z = kiF M0 p1 p2)) := by
  refine ct_of (d := d + 0) (k := 0) (L := [some (R 739), some (I p1), some (I p2)]) rfl rfl rfl ?_
  have hF0 := Fr.rf fm_n8094_739 M0
  generalize hQ : (qI fun z M => Pw M ∧ Fr fm_n8094_739 M0 M ∧ 0 ≤ z ∧ z ≤ 7 ∧ (z = kiF M0 p1 p2)) = Q
  refine wk_al0 r94_0 (wk_getfr r94_1 fd_739_8 (br_739_8 hP0) (wk_il1 r94_4 (wk_ialdb r94_5 ar_742 ⟨by omega, by omega⟩ (fun q0 q1 => ba_742 hP0 q0 q1) ?_)))
  intro v1 h3 h4 e2
  refine wk_c1 r94_6 (wk_il2 r94_7 (wk_imul r94_8 (wk_shrb r94_9 ⟨by omega, by omega⟩ ⟨by omega, by omega⟩ ?_)))
  intro v5 h6 h7 h8
  refine wk_c2 r94_10 (wk_iandc 3 8 r94_12 ⟨rfl, by decide⟩ rfl ?_)
  subst hQ; exact wk_iret r94_13 (⟨rfl, _, rfl, hP0, hF0, by omega, by omega, by unfold kiF; rw [e2, ← h8]⟩)
def fm_n8107_739 : Nat := 0
/-- IslandHallModel.lying -/
theorem n8107_739 {B : eB} (d : Nat) (M0 : Mm) (p1 : Int) (p2 : Int) (p3 : Int) (x739_3 : Int) (hP0 : Pw M0) (l1 : 0 ≤ p1) (u1 : p1 ≤ 2999) (l2 : 0 ≤ p2) (u2 : p2 ≤ 6) (l3 : 0 ≤ p3) (u3 : p3 ≤ 15) (ex739_3 : M0 739 3 = x739_3) (lx739_3 : 0 ≤ x739_3) (ux739_3 : x739_3 ≤ 127) : Ct B (d + 2) 107 [R 739, I p1, I p2, I p3] M0 (qI fun z M => Pw M ∧ Fr fm_n8107_739 M0 M ∧ 0 ≤ z ∧ z ≤ 2 ∧ (z = lyF M0 p1 p2 p3)) := by
  refine ct_of (d := d + 1) (k := 2) (L := [some (R 739), some (I p1), some (I p2), some (I p3), none, none]) rfl rfl rfl ?_
  have hF0 := Fr.rf fm_n8107_739 M0
  generalize hQ : (qI fun z M => Pw M ∧ Fr fm_n8107_739 M0 M ∧ 0 ≤ z ∧ z ≤ 2 ∧ (z = lyF M0 p1 p2 p3)) = Q
  refine wk_al0 r107_0 (wk_il1 r107_1 (wk_il2 r107_2 (wk_cv3 r107_3 kc_739_94 rfl (n8094_739 _ M0 p1 p2 hP0 (by first | with_reducible assumption | omega) (by first | with_reducible assumption | omega) (by first | with_reducible assumption | omega) (by first | with_reducible assumption | omega)) (cqI ?_))))
  rintro v6 M1 ⟨hP2, hQ3, h7, h8, xh5⟩
  obtain rfl := Fr.same hQ3
  refine wk_sw7 r107_6 ⟨by omega, by omega⟩ ?_ ?_ ?_ ?_ ?_
  · intro h9
    refine wk_c1 r107_101 ?_
    subst hQ; exact wk_iret r107_102 (⟨rfl, _, rfl, hP0, hF0, by omega, by omega, by have q1 := xh5; unfold lyF; rw [if_neg (by omega), if_neg (by omega), if_neg (by omega), if_neg (by omega)]⟩)
  · intro h10
    refine wk_c1 r107_36 ?_
    subst hQ; exact wk_iret r107_37 (⟨rfl, _, rfl, hP0, hF0, by omega, by omega, by have q1 := xh5; unfold lyF; rw [if_pos (by omega)]⟩)
  · intro h11
    refine wk_c1 r107_38 ?_
    subst hQ; exact wk_iret r107_39 (⟨rfl, _, rfl, hP0, hF0, by omega, by omega, by have q1 := xh5; unfold lyF; rw [if_neg (by omega), if_pos (by omega)]⟩)
  · intro h12
    refine wk_al0 r107_40 (wk_getfr r107_41 fd_739_9 (br_739_9 hP0) (wk_il1 r107_44 (wk_ialdb r107_45 ar_743 ⟨by omega, by omega⟩ (fun q0 q1 => ba_743 hP0 q0 q1) ?_)))
    intro v13 h15 h16 e14
    refine wk_il2 r107_46 (wk_shrb r107_47 ⟨by omega, by omega⟩ ⟨by omega, by omega⟩ ?_)
    intro v17 h18 h19 h20
    refine wk_c1 r107_48 (wk_iandc 1 2 r107_49 ⟨rfl, by decide⟩ rfl (wk_is4 r107_50 rfl (wk_c1 r107_52 (wk_is5 r107_53 rfl ?_))))
    have c55_159 : ∀ (k159 : Nat) (v142 : Int) (v145 : Int), (15 - v145).toNat = k159 → 0 ≤ v142 → v142 ≤ 1 → 0 ≤ v145 → v145 ≤ 15 → 0 ≤ (-1) * v145 + p3 → 0 ≤ (-1) * v142 + v145 + 1 → (v142 = tpF (fun k => M0 748 k) p2 (M0 743 p1 / pw p2 % 2) (v145).toNat) → Wp B (d + 1) 107 55 [some (R 739), none, some (I p2), some (I p3), some (I v142), some (I v145)] [] M0 Q := by
      refine lp_ind ?_
      intro k159 ih159 v142 v145 hk159 h143 h144 h146 h147 h148 h149 ti150
      refine wk_il5 r107_55 (wk_il3 r107_57 ?_)
      refine wk_icge r107_58 ⟨by omega, by omega⟩ ⟨by omega, by omega⟩ ?_ ?_
      · intro h151
        refine wk_il4 r107_84 ?_
        subst hQ; exact wk_iret r107_86 (⟨rfl, _, rfl, hP0, hF0, by omega, by omega, by have q1 := xh5; unfold lyF; rw [if_neg (by omega), if_neg (by omega), if_pos (by omega)]; rw [show p3.toNat = (v145).toNat by omega]; exact ti150⟩)
      · intro h152
        refine wk_al0 r107_61 (wk_getfr r107_62 fd_739_16 (br_739_16 hP0) (wk_il5 r107_65 (wk_ialdb r107_67 ar_748 ⟨by omega, by omega⟩ (fun q0 q1 => ba_748 hP0 q0 q1) ?_)))
        intro v153 h155 h156 e154
        refine wk_il2 r107_68 ?_
        refine wk_icne r107_69 ⟨by omega, by omega⟩ ⟨by omega, by omega⟩ ?_ ?_
        · intro h157
          refine wk_inc5 r107_78 rfl (wk_goto r107_81 ?_)
          exact wp_fg (le_s (le_s (le_s (le_s (le_s (le_s le_0)))))) (ih159 (15 - (v145 + 1)).toNat (by omega) v142 (v145 + 1) rfl (by first | with_reducible assumption | omega) (by first | with_reducible assumption | omega) (by first | with_reducible assumption | omega) (by first | with_reducible assumption | omega) (by first | with_reducible assumption | omega) (by first | with_reducible assumption | omega) (by rw [tpF_s (by omega)]; rw [if_neg (fun q7 => by have q6 := (e154).symm.trans q7; omega)]; omega))
        · intro h158
          refine wk_c1 r107_72 (wk_il4 r107_73 (wk_isub r107_75 (wk_is4 r107_76 rfl (wk_inc5 r107_78 rfl (wk_goto r107_81 ?_)))))
          exact wp_fg (le_s (le_s (le_s (le_s (le_s (le_s le_0)))))) (ih159 (15 - (v145 + 1)).toNat (by omega) (1 - v142) (v145 + 1) rfl (by first | with_reducible assumption | omega) (by first | with_reducible assumption | omega) (by first | with_reducible assumption | omega) (by first | with_reducible assumption | omega) (by first | with_reducible assumption | omega) (by first | with_reducible assumption | omega) (by rw [tpF_s (by omega)]; rw [if_pos (show (fun k => M0 748 k) v145 = p2 from e154.trans (by omega))]; omega))
    exact wp_fg (le_s (le_n (le_s (le_s (le_s (le_s le_0)))))) (c55_159 _ (v17 % 2) 0 rfl (by first | with_reducible assumption | omega) (by first | with_reducible assumption | omega) (by first | with_reducible assumption | omega) (by first | with_reducible assumption | omega) (by first | with_reducible assumption | omega) (by first | with_reducible assumption | omega) (by rw [e14, ← h20]; rfl))
  · intro h160
    refine wk_al0 r107_87 (wk_getfi r107_88 fd_739_3 ex739_3 (wk_al0 r107_91 (wk_getfr r107_92 fd_739_11 (br_739_11 hP0) (wk_il1 r107_95 (wk_ialdb r107_96 ar_745 ⟨by omega, by omega⟩ (fun q0 q1 => ba_745 hP0 q0 q1) ?_)))))
    intro v161 h163 h164 e162
    refine wk_shrb r107_97 ⟨by omega, by omega⟩ ⟨by omega, by omega⟩ ?_
    intro v165 h166 h167 h168
    refine wk_c1 r107_98 (wk_iandc 1 2 r107_99 ⟨rfl, by decide⟩ rfl ?_)
    subst hQ; exact wk_iret r107_100 (⟨rfl, _, rfl, hP0, hF0, by omega, by omega, by have q1 := xh5; unfold lyF; rw [if_neg (by omega), if_neg (by omega), if_neg (by omega), if_pos (by omega)]; rw [ex739_3, e162, ← h168]⟩)
def fm_n8115 : Nat := 0
/-- IslandHallModel.one -/
theorem n8115 {B : eB} (d : Nat) (M0 : Mm) (p0 : Int) (hP0 : Pw M0) (l0 : 0 ≤ p0) (u0 : p0 ≤ 1) : Ct B (d + 1) 115 [I p0] M0 (qI fun z M => Pw M ∧ Fr fm_n8115 M0 M ∧ 0 ≤ z ∧ z ≤ 1 ∧ (z = p0)) := by
  refine ct_of (d := d + 0) (k := 0) (L := [some (I p0)]) rfl rfl rfl ?_
  have hF0 := Fr.rf fm_n8115 M0
  generalize hQ : (qI fun z M => Pw M ∧ Fr fm_n8115 M0 M ∧ 0 ≤ z ∧ z ≤ 1 ∧ (z = p0)) = Q
  refine wk_il0 r115_0 ?_
  refine wk_ifeq r115_1 ⟨by omega, by omega⟩ ?_ ?_
  · intro h1
    refine wk_c1 r115_8 ?_
    subst hQ; exact wk_iret r115_9 (⟨rfl, _, rfl, hP0, hF0, by omega, by omega, by omega⟩)
  · intro h2
    refine wk_c1 r115_4 (wk_goto r115_5 ?_)
    subst hQ; exact wk_iret r115_9 (⟨rfl, _, rfl, hP0, hF0, by omega, by omega, by omega⟩)
def fm_n8109_739 : Nat := 0
/-- IslandHallModel.manyOf -/
theorem n8109_739 {B : eB} (d : Nat) (M0 : Mm) (p1 : Int) (p2 : Int) (x739_1 : Int) (hP0 : Pw M0) (l1 : 0 ≤ p1) (u1 : p1 ≤ 2999) (l2 : 0 ≤ p2) (u2 : p2 ≤ 127) (ex739_1 : M0 739 1 = x739_1) (lx739_1 : 0 ≤ x739_1) (ux739_1 : x739_1 ≤ 7) : Ct B (d + 2) 109 [R 739, I p1, I p2] M0 (qI fun z M => Pw M ∧ Fr fm_n8109_739 M0 M ∧ 0 ≤ z ∧ z ≤ 7 ∧ (z = cnK (fun k => kiF M0 p1 k) p2 x739_1.toNat)) := by
  refine ct_of (d := d + 1) (k := 2) (L := [some (R 739), some (I p1), some (I p2), none, none]) rfl rfl rfl ?_
  have hF0 := Fr.rf fm_n8109_739 M0
  generalize hQ : (qI fun z M => Pw M ∧ Fr fm_n8109_739 M0 M ∧ 0 ≤ z ∧ z ≤ 7 ∧ (z = cnK (fun k => kiF M0 p1 k) p2 x739_1.toNat)) = Q
  refine wk_c1 r109_0 (wk_is3 r109_1 rfl (wk_c1 r109_2 (wk_is4 r109_3 rfl ?_)))
  have c5_134 : ∀ (k134 : Nat) (v112 : Int) (v115 : Int), (7 - v115).toNat = k134 → 0 ≤ v112 → v112 ≤ 7 → 0 ≤ v115 → v115 ≤ 7 → 0 ≤ (-1) * v115 + x739_1 → 0 ≤ v115 → 0 ≤ (-1) * v112 + v115 + 0 → (v112 = cnK (fun k => kiF M0 p1 k) p2 (v115).toNat) → Wp B (d + 1) 109 5 [some (R 739), some (I p1), some (I p2), some (I v112), some (I v115)] [] M0 Q := by
    refine lp_ind ?_
    intro k134 ih134 v112 v115 hk134 h113 h114 h116 h117 h118 h119 h120 ti121
    refine wk_il4 r109_5 (wk_al0 r109_7 (wk_getfi r109_8 fd_739_1 ex739_1 ?_))
    refine wk_icge r109_11 ⟨by omega, by omega⟩ ⟨by omega, by omega⟩ ?_ ?_
    · intro h122
      refine wk_il3 r109_39 ?_
      subst hQ; exact wk_iret r109_40 (⟨rfl, _, rfl, hP0, hF0, by omega, by omega, by rw [show x739_1.toNat = (v115).toNat by omega]; exact ti121⟩)
    · intro h123
      refine wk_il3 r109_14 (wk_al0 r109_15 (wk_il1 r109_16 (wk_il4 r109_17 (wk_cv3 r109_19 kc_739_94 rfl (n8094_739 _ M0 p1 v115 hP0 (by first | with_reducible assumption | omega) (by first | with_reducible assumption | omega) (by first | with_reducible assumption | omega) (by first | with_reducible assumption | omega)) (cqI ?_)))))
      rintro v129 M124 ⟨hP125, hQ126, h130, h131, xh128⟩
      obtain rfl := Fr.same hQ126
      refine wk_il2 r109_22 ?_
      refine wk_icne r109_23 ⟨by omega, by omega⟩ ⟨by omega, by omega⟩ ?_ ?_
      · intro h132
        refine wk_c1 r109_30 (wk_iadd r109_31 (wk_is3 r109_32 rfl (wk_inc4 r109_33 rfl (wk_goto r109_36 ?_))))
        exact wp_fg (le_s (le_s (le_s (le_s (le_s le_0))))) (ih134 (7 - (v115 + 1)).toNat (by omega) (v112 + 0) (v115 + 1) rfl (by first | with_reducible assumption | omega) (by first | with_reducible assumption | omega) (by first | with_reducible assumption | omega) (by first | with_reducible assumption | omega) (by first | with_reducible assumption | omega) (by first | with_reducible assumption | omega) (by first | with_reducible assumption | omega) (by rw [cnK_s (by omega)]; rw [if_neg (fun q7 => by have q6 := (xh128).trans q7; omega)]; omega))
      · intro h133
        refine wk_c1 r109_26 (wk_goto r109_27 (wk_iadd r109_31 (wk_is3 r109_32 rfl (wk_inc4 r109_33 rfl (wk_goto r109_36 ?_)))))
        exact wp_fg (le_s (le_s (le_s (le_s (le_s le_0))))) (ih134 (7 - (v115 + 1)).toNat (by omega) (v112 + 1) (v115 + 1) rfl (by first | with_reducible assumption | omega) (by first | with_reducible assumption | omega) (by first | with_reducible assumption | omega) (by first | with_reducible assumption | omega) (by first | with_reducible assumption | omega) (by first | with_reducible assumption | omega) (by first | with_reducible assumption | omega) (by rw [cnK_s (by omega)]; rw [if_pos (xh128.symm.trans (by omega))]; omega))
  exact wp_fg (le_s (le_s (le_s (le_s (le_s le_0))))) (c5_134 _ 0 0 rfl (by first | with_reducible assumption | omega) (by first | with_reducible assumption | omega) (by first | with_reducible assumption | omega) (by first | with_reducible assumption | omega) (by first | with_reducible assumption | omega) (by first | with_reducible assumption | omega) (by first | with_reducible assumption | omega) (rfl))
def fm_n8048_739 : Nat := 0
/-- IslandHallModel.atomOf -/
theorem n8048_739 {B : eB} (d : Nat) (M0 : Mm) (p1 : Int) (p2 : Int) (p3 : Int) (p4 : Int) (p5 : Int) (p6 : Int) (x739_1 : Int) (hP0 : Pw M0) (l1 : 1 ≤ p1) (u1 : p1 ≤ 9) (l2 : 0 ≤ p2) (u2 : p2 ≤ 127) (l3 : 0 ≤ p3) (u3 : p3 ≤ 146) (l4 : 0 ≤ p4) (u4 : p4 ≤ 2999) (l5 : 0 ≤ p5) (u5 : p5 ≤ 15) (l6 : (-2147483648) ≤ p6) (u6 : p6 ≤ 2147483647) (ex739_1 : M0 739 1 = x739_1) (lx739_1 : 0 ≤ x739_1) (ux739_1 : x739_1 ≤ 7) (xp0 : p1 = 1 → p2 ≤ 6) (xp1 : p1 = 2 → p2 ≤ 6 ∧ p3 ≤ 6) : Ct B (d + 3) 48 [R 739, I p1, I p2, I p3, I p4, I p5, I p6] M0 (qI fun z M => Pw M ∧ Fr fm_n8048_739 M0 M ∧ 0 ≤ z ∧ z ≤ 1 ∧ (∀ V : Int, V % 16 = p1 → V / 16 % 128 = p2 → V / 2048 = p3 → z = b2i (atR (evF M0 p4 p5 p6) V))) := by
  refine ct_of (d := d + 2) (k := 0) (L := [some (R 739), some (I p1), some (I p2), some (I p3), some (I p4), some (I p5), some (I p6)]) rfl rfl rfl ?_
  have hF0 := Fr.rf fm_n8048_739 M0
  generalize hQ : (qI fun z M => Pw M ∧ Fr fm_n8048_739 M0 M ∧ 0 ≤ z ∧ z ≤ 1 ∧ (∀ V : Int, V % 16 = p1 → V / 16 % 128 = p2 → V / 2048 = p3 → z = b2i (atR (evF M0 p4 p5 p6) V))) = Q
  refine wk_il1 r48_0 ?_
  refine wk_sw3 r48_1 ⟨by omega, by omega⟩ ?_ ?_ ?_ ?_ ?_ ?_ ?_ ?_ ?_
  · intro h1
    refine wk_il2 r48_214 (wk_il5 r48_215 ?_)
    refine wk_icge r48_217 ⟨by omega, by omega⟩ ⟨by omega, by omega⟩ ?_ ?_
    · intro h2
      refine wk_c1 r48_229 ?_
      subst hQ; exact wk_iret r48_230 (⟨rfl, _, rfl, hP0, hF0, by omega, by omega, fun V a b c => at_9 (by omega) b (by rw [evF_30 (by omega)]; rw [if_neg (by omega)]; omega)⟩)
    · intro h3
      refine wk_il6 r48_220 (wk_il2 r48_222 (wk_shry r48_223 ⟨by omega, by omega⟩ ⟨by omega, by omega⟩ ?_))
      intro v4 h5 h6 h7
      refine wk_c1 r48_224 (wk_iandc 1 2 r48_225 ⟨rfl, by decide⟩ rfl (wk_goto r48_226 ?_))
      subst hQ; exact wk_iret r48_230 (⟨rfl, _, rfl, hP0, hF0, by omega, by omega, fun V a b c => at_9 (by omega) b (by rw [evF_30 (by omega)]; rw [if_pos (by omega), ← h7]; omega)⟩)
  · intro h9
    have h10 : p2 ≤ 6 := xp0 (by omega)
    refine wk_al0 r48_48 (wk_il4 r48_49 (wk_il2 r48_51 (wk_cv3 r48_52 kc_739_94 rfl (n8094_739 _ M0 p4 p2 hP0 (by first | with_reducible assumption | omega) (by first | with_reducible assumption | omega) (by first | with_reducible assumption | omega) (by first | with_reducible assumption | omega)) (cqI ?_))))
    rintro v16 M11 ⟨hP12, hQ13, h17, h18, xh15⟩
    obtain rfl := Fr.same hQ13
    refine wk_il3 r48_55 ?_
    refine wk_icne r48_56 ⟨by omega, by omega⟩ ⟨by omega, by omega⟩ ?_ ?_
    · intro h19
      refine wk_c1 r48_63 (wk_cs102_1 r48_64 rfl (n8115 _ M0 0 hP0 (by decide) (by decide)) (cqI ?_))
      rintro v25 M20 ⟨hP21, hQ22, h26, h27, xh24⟩
      obtain rfl := Fr.same hQ22
      subst hQ; exact wk_iret r48_67 (⟨rfl, _, rfl, hP0, hF0, by omega, by omega, fun V a b c => at_1 (by omega) b c (by rw [(evF_k (by omega) : (evF M0 p4 p5 p6) p2 = kiF M0 p4 p2)]; have := xh15; have := xh24; omega)⟩)
    · intro h28
      refine wk_c1 r48_59 (wk_goto r48_60 (wk_cs102_1 r48_64 rfl (n8115 _ M0 1 hP0 (by decide) (by decide)) (cqI ?_)))
      rintro v34 M29 ⟨hP30, hQ31, h35, h36, xh33⟩
      obtain rfl := Fr.same hQ31
      subst hQ; exact wk_iret r48_67 (⟨rfl, _, rfl, hP0, hF0, by omega, by omega, fun V a b c => at_1 (by omega) b c (by rw [(evF_k (by omega) : (evF M0 p4 p5 p6) p2 = kiF M0 p4 p2)]; have := xh15; have := xh33; omega)⟩)
  · intro h37
    have h38 : p2 ≤ 6 ∧ p3 ≤ 6 := xp1 (by omega)
    refine wk_al0 r48_68 (wk_il4 r48_69 (wk_il2 r48_71 (wk_cv3 r48_72 kc_739_94 rfl (n8094_739 _ M0 p4 p2 hP0 (by first | with_reducible assumption | omega) (by first | with_reducible assumption | omega) (by first | with_reducible assumption | omega) (by first | with_reducible assumption | omega)) (cqI ?_))))
    rintro v44 M39 ⟨hP40, hQ41, h45, h46, xh43⟩
    obtain rfl := Fr.same hQ41
    refine wk_al0 r48_75 (wk_il4 r48_76 (wk_il3 r48_78 (wk_cv3 r48_79 kc_739_94 rfl (n8094_739 _ M0 p4 p3 hP0 (by first | with_reducible assumption | omega) (by first | with_reducible assumption | omega) (by first | with_reducible assumption | omega) (by first | with_reducible assumption | omega)) (cqI ?_))))
    rintro v52 M47 ⟨hP48, hQ49, h53, h54, xh51⟩
    obtain rfl := Fr.same hQ49
    refine wk_icne r48_82 ⟨by omega, by omega⟩ ⟨by omega, by omega⟩ ?_ ?_
    · intro h55
      refine wk_c1 r48_89 (wk_cs102_1 r48_90 rfl (n8115 _ M0 0 hP0 (by decide) (by decide)) (cqI ?_))
      rintro v61 M56 ⟨hP57, hQ58, h62, h63, xh60⟩
      obtain rfl := Fr.same hQ58
      subst hQ; exact wk_iret r48_93 (⟨rfl, _, rfl, hP0, hF0, by omega, by omega, fun V a b c => at_2 (by omega) b c (by rw [(evF_k (by omega) : (evF M0 p4 p5 p6) p2 = kiF M0 p4 p2), (evF_k (by omega) : (evF M0 p4 p5 p6) p3 = kiF M0 p4 p3)]; have := xh43; have := xh51; have := xh60; omega)⟩)
    · intro h64
      refine wk_c1 r48_85 (wk_goto r48_86 (wk_cs102_1 r48_90 rfl (n8115 _ M0 1 hP0 (by decide) (by decide)) (cqI ?_)))
      rintro v70 M65 ⟨hP66, hQ67, h71, h72, xh69⟩
      obtain rfl := Fr.same hQ67
      subst hQ; exact wk_iret r48_93 (⟨rfl, _, rfl, hP0, hF0, by omega, by omega, fun V a b c => at_2 (by omega) b c (by rw [(evF_k (by omega) : (evF M0 p4 p5 p6) p2 = kiF M0 p4 p2), (evF_k (by omega) : (evF M0 p4 p5 p6) p3 = kiF M0 p4 p3)]; have := xh43; have := xh51; have := xh69; omega)⟩)
  · intro h73
    refine wk_al0 r48_94 (wk_getfr r48_95 fd_739_10 (br_739_10 hP0) (wk_il4 r48_98 (wk_ialdb r48_100 ar_744 ⟨by omega, by omega⟩ (fun q0 q1 => ba_744 hP0 q0 q1) ?_)))
    intro v74 h76 h77 e75
    refine wk_il2 r48_101 ?_
    refine wk_icne r48_102 ⟨by omega, by omega⟩ ⟨by omega, by omega⟩ ?_ ?_
    · intro h78
      refine wk_c1 r48_109 (wk_cs102_1 r48_110 rfl (n8115 _ M0 0 hP0 (by decide) (by decide)) (cqI ?_))
      rintro v84 M79 ⟨hP80, hQ81, h85, h86, xh83⟩
      obtain rfl := Fr.same hQ81
      subst hQ; exact wk_iret r48_113 (⟨rfl, _, rfl, hP0, hF0, by omega, by omega, fun V a b c => at_3 (by omega) b (by rw [evF_10, e75]; have := xh83; omega)⟩)
    · intro h87
      refine wk_c1 r48_105 (wk_goto r48_106 (wk_cs102_1 r48_110 rfl (n8115 _ M0 1 hP0 (by decide) (by decide)) (cqI ?_)))
      rintro v93 M88 ⟨hP89, hQ90, h94, h95, xh92⟩
      obtain rfl := Fr.same hQ90
      subst hQ; exact wk_iret r48_113 (⟨rfl, _, rfl, hP0, hF0, by omega, by omega, fun V a b c => at_3 (by omega) b (by rw [evF_10, e75]; have := xh92; omega)⟩)
  · intro h96
    refine wk_al0 r48_114 (wk_getfr r48_115 fd_739_11 (br_739_11 hP0) (wk_il4 r48_118 (wk_ialdb r48_120 ar_745 ⟨by omega, by omega⟩ (fun q0 q1 => ba_745 hP0 q0 q1) ?_)))
    intro v97 h99 h100 e98
    refine wk_il2 r48_121 ?_
    refine wk_icne r48_122 ⟨by omega, by omega⟩ ⟨by omega, by omega⟩ ?_ ?_
    · intro h101
      refine wk_c1 r48_129 (wk_cs102_1 r48_130 rfl (n8115 _ M0 0 hP0 (by decide) (by decide)) (cqI ?_))
      rintro v107 M102 ⟨hP103, hQ104, h108, h109, xh106⟩
      obtain rfl := Fr.same hQ104
      subst hQ; exact wk_iret r48_133 (⟨rfl, _, rfl, hP0, hF0, by omega, by omega, fun V a b c => at_4 (by omega) b (by rw [evF_11, e98]; have := xh106; omega)⟩)
    · intro h110
      refine wk_c1 r48_125 (wk_goto r48_126 (wk_cs102_1 r48_130 rfl (n8115 _ M0 1 hP0 (by decide) (by decide)) (cqI ?_)))
      rintro v116 M111 ⟨hP112, hQ113, h117, h118, xh115⟩
      obtain rfl := Fr.same hQ113
      subst hQ; exact wk_iret r48_133 (⟨rfl, _, rfl, hP0, hF0, by omega, by omega, fun V a b c => at_4 (by omega) b (by rw [evF_11, e98]; have := xh115; omega)⟩)
  · intro h119
    refine wk_al0 r48_134 (wk_il4 r48_135 (wk_il2 r48_137 (wk_cv3 r48_138 kc_739_109 rfl (n8109_739 _ M0 p4 p2 x739_1 hP0 (by first | with_reducible assumption | omega) (by first | with_reducible assumption | omega) (by first | with_reducible assumption | omega) (by first | with_reducible assumption | omega) ex739_1 (by first | with_reducible assumption | omega) (by first | with_reducible assumption | omega)) (cqI ?_))))
    rintro v125 M120 ⟨hP121, hQ122, h126, h127, xh124⟩
    obtain rfl := Fr.same hQ122
    refine wk_il3 r48_141 ?_
    refine wk_icge r48_142 ⟨by omega, by omega⟩ ⟨by omega, by omega⟩ ?_ ?_
    · intro h128
      refine wk_c1 r48_149 (wk_cs102_1 r48_150 rfl (n8115 _ M0 0 hP0 (by decide) (by decide)) (cqI ?_))
      rintro v134 M129 ⟨hP130, hQ131, h135, h136, xh133⟩
      obtain rfl := Fr.same hQ131
      subst hQ; exact wk_iret r48_153 (⟨rfl, _, rfl, hP0, hF0, by omega, by omega, fun V a b c => at_5 (by omega) b c (by rw [cnt_M (by rw [ex739_1]; omega), ex739_1]; have := xh124; have := xh133; omega)⟩)
    · intro h137
      refine wk_c1 r48_145 (wk_goto r48_146 (wk_cs102_1 r48_150 rfl (n8115 _ M0 1 hP0 (by decide) (by decide)) (cqI ?_)))
      rintro v143 M138 ⟨hP139, hQ140, h144, h145, xh142⟩
      obtain rfl := Fr.same hQ140
      subst hQ; exact wk_iret r48_153 (⟨rfl, _, rfl, hP0, hF0, by omega, by omega, fun V a b c => at_5 (by omega) b c (by rw [cnt_M (by rw [ex739_1]; omega), ex739_1]; have := xh124; have := xh142; omega)⟩)
  · intro h146
    refine wk_al0 r48_154 (wk_il4 r48_155 (wk_il2 r48_157 (wk_cv3 r48_158 kc_739_109 rfl (n8109_739 _ M0 p4 p2 x739_1 hP0 (by first | with_reducible assumption | omega) (by first | with_reducible assumption | omega) (by first | with_reducible assumption | omega) (by first | with_reducible assumption | omega) ex739_1 (by first | with_reducible assumption | omega) (by first | with_reducible assumption | omega)) (cqI ?_))))
    rintro v152 M147 ⟨hP148, hQ149, h153, h154, xh151⟩
    obtain rfl := Fr.same hQ149
    refine wk_il3 r48_161 ?_
    refine wk_icne r48_162 ⟨by omega, by omega⟩ ⟨by omega, by omega⟩ ?_ ?_
    · intro h155
      refine wk_c1 r48_169 (wk_cs102_1 r48_170 rfl (n8115 _ M0 0 hP0 (by decide) (by decide)) (cqI ?_))
      rintro v161 M156 ⟨hP157, hQ158, h162, h163, xh160⟩
      obtain rfl := Fr.same hQ158
      subst hQ; exact wk_iret r48_173 (⟨rfl, _, rfl, hP0, hF0, by omega, by omega, fun V a b c => at_6 (by omega) b c (by rw [cnt_M (by rw [ex739_1]; omega), ex739_1]; have := xh151; have := xh160; omega)⟩)
    · intro h164
      refine wk_c1 r48_165 (wk_goto r48_166 (wk_cs102_1 r48_170 rfl (n8115 _ M0 1 hP0 (by decide) (by decide)) (cqI ?_)))
      rintro v170 M165 ⟨hP166, hQ167, h171, h172, xh169⟩
      obtain rfl := Fr.same hQ167
      subst hQ; exact wk_iret r48_173 (⟨rfl, _, rfl, hP0, hF0, by omega, by omega, fun V a b c => at_6 (by omega) b c (by rw [cnt_M (by rw [ex739_1]; omega), ex739_1]; have := xh151; have := xh169; omega)⟩)
  · intro h173
    refine wk_al0 r48_174 (wk_il4 r48_175 (wk_il2 r48_177 (wk_cv3 r48_178 kc_739_109 rfl (n8109_739 _ M0 p4 p2 x739_1 hP0 (by first | with_reducible assumption | omega) (by first | with_reducible assumption | omega) (by first | with_reducible assumption | omega) (by first | with_reducible assumption | omega) ex739_1 (by first | with_reducible assumption | omega) (by first | with_reducible assumption | omega)) (cqI ?_))))
    rintro v179 M174 ⟨hP175, hQ176, h180, h181, xh178⟩
    obtain rfl := Fr.same hQ176
    refine wk_il3 r48_181 ?_
    refine wk_icle r48_182 ⟨by omega, by omega⟩ ⟨by omega, by omega⟩ ?_ ?_
    · intro h182
      refine wk_c1 r48_189 (wk_cs102_1 r48_190 rfl (n8115 _ M0 0 hP0 (by decide) (by decide)) (cqI ?_))
      rintro v188 M183 ⟨hP184, hQ185, h189, h190, xh187⟩
      obtain rfl := Fr.same hQ185
      subst hQ; exact wk_iret r48_193 (⟨rfl, _, rfl, hP0, hF0, by omega, by omega, fun V a b c => at_7 (by omega) b c (by rw [cnt_M (by rw [ex739_1]; omega), ex739_1]; have := xh178; have := xh187; omega)⟩)
    · intro h191
      refine wk_c1 r48_185 (wk_goto r48_186 (wk_cs102_1 r48_190 rfl (n8115 _ M0 1 hP0 (by decide) (by decide)) (cqI ?_)))
      rintro v197 M192 ⟨hP193, hQ194, h198, h199, xh196⟩
      obtain rfl := Fr.same hQ194
      subst hQ; exact wk_iret r48_193 (⟨rfl, _, rfl, hP0, hF0, by omega, by omega, fun V a b c => at_7 (by omega) b c (by rw [cnt_M (by rw [ex739_1]; omega), ex739_1]; have := xh178; have := xh196; omega)⟩)
  · intro h200
    refine wk_al0 r48_194 (wk_getfr r48_195 fd_739_12 (br_739_12 hP0) (wk_il4 r48_198 (wk_ialdb r48_200 ar_746 ⟨by omega, by omega⟩ (fun q0 q1 => ba_746 hP0 q0 q1) ?_)))
    intro v201 h203 h204 e202
    refine wk_il2 r48_201 ?_
    refine wk_icne r48_202 ⟨by omega, by omega⟩ ⟨by omega, by omega⟩ ?_ ?_
    · intro h205
      refine wk_c1 r48_209 (wk_cs102_1 r48_210 rfl (n8115 _ M0 0 hP0 (by decide) (by decide)) (cqI ?_))
      rintro v211 M206 ⟨hP207, hQ208, h212, h213, xh210⟩
      obtain rfl := Fr.same hQ208
      subst hQ; exact wk_iret r48_213 (⟨rfl, _, rfl, hP0, hF0, by omega, by omega, fun V a b c => at_8 (by omega) b (by rw [evF_12, e202]; have := xh210; omega)⟩)
    · intro h214
      refine wk_c1 r48_205 (wk_goto r48_206 (wk_cs102_1 r48_210 rfl (n8115 _ M0 1 hP0 (by decide) (by decide)) (cqI ?_)))
      rintro v220 M215 ⟨hP216, hQ217, h221, h222, xh219⟩
      obtain rfl := Fr.same hQ217
      subst hQ; exact wk_iret r48_213 (⟨rfl, _, rfl, hP0, hF0, by omega, by omega, fun V a b c => at_8 (by omega) b (by rw [evF_12, e202]; have := xh219; omega)⟩)
def fm_n8136_739_747 : Nat := 1809251394438377845161853827458666587891013942719528908517073861377953628160
set_option maxHeartbeats 20000000 in
/-- IslandHallModel.worth -/
theorem n8136_739_747 {B : eB} (d : Nat) (M0 : Mm) (p2 : Int) (p3 : Int) (p4 : Int) (p5 : Int) (en : Int) (L : List Int) (hP0 : Pw M0) (l2 : 0 ≤ p2) (u2 : p2 ≤ 12000) (l3 : 0 ≤ p3) (u3 : p3 ≤ 2999) (l4 : 0 ≤ p4) (u4 : p4 ≤ 15) (l5 : (-2147483648) ≤ p5) (u5 : p5 ≤ 2147483647) (xp0 : SEG (fun k => M0 747 k) p2 en) (xp1 : en ≤ 12000 ∧ en ≤ p2 + 500) (xp2 : LST (fun k => M0 747 k) p2 L) : Ct B (d + 4) 136 [R 739, R 747, I p2, I p3, I p4, I p5] M0 (qI fun z M => Pw M ∧ Fr fm_n8136_739_747 M0 M ∧ 0 ≤ z ∧ z ≤ 1 ∧ (M 739 53 = en) ∧ (∀ b, runR (evF M0 p3 p4 p5) L [] = [b] → z = b2i b)) := by
  refine ct_of (d := d + 3) (k := 6) (L := [some (R 739), some (R 747), some (I p2), some (I p3), some (I p4), some (I p5), none, none, none, none, none, none]) rfl rfl rfl ?_
  have hF0 := Fr.rf fm_n8136_739_747 M0
  generalize hQ : (qI fun z M => Pw M ∧ Fr fm_n8136_739_747 M0 M ∧ 0 ≤ z ∧ z ≤ 1 ∧ (M 739 53 = en) ∧ (∀ b, runR (evF M0 p3 p4 p5) L [] = [b] → z = b2i b)) = Q
  have hs0 := xp0.1
  have hs1 := xp0.2.1
  have hLen := LST_en xp2 xp0
  refine wk_c1 r136_0 (wk_is6 r136_1 rfl (wk_il2 r136_3 (wk_is7 r136_4 rfl ?_)))
  have c6_1441 : ∀ (k1441 : Nat) (M1303 : Mm) (v1297 : Int) (v1300 : Int), (11999 - v1300).toNat = k1441 → Pw M1303 → Fr fm_n8136_739_747 M0 M1303 → 0 ≤ v1297 → v1297 ≤ 499 → 0 ≤ v1300 → v1300 ≤ 11999 → 0 ≤ v1300 + (-1) * p2 → 0 ≤ (-1) * v1300 + en + (-1) → (v1297 = hgt (fun k => M0 747 k) p2 (v1300 - p2).toNat) → (WTI (evF M0 p3 p4 p5) (fun k => M0 747 k) (fun k => M1303 759 k) p2 v1300 v1297) → Wp B (d + 3) 136 6 [some (R 739), some (R 747), none, some (I p3), some (I p4), some (I p5), some (I v1297), some (I v1300), none, none, none, none] [] M1303 Q := by
    refine lp_ind ?_
    intro k1441 ih1441 M1303 v1297 v1300 hk1441 hP1304 hF1305 h1298 h1299 h1301 h1302 h1306 h1307 ti1308 ti1309
    refine wk_al1 r136_6 (wk_il7 r136_7 (wk_ialdb r136_9 ar_747 ⟨by omega, by omega⟩ (fun q0 q1 => ba_747 hP1304 q0 q1) ?_))
    intro v1310 h1312 h1313 e1311
    have h1314 := wr_at xp0 (k := v1300) (m := v1297) (by omega) (by omega) (show (fun k => M0 747 k) v1300 = v1310 from (hF1305.at (ga_747 _) rfl).symm.trans e1311) ti1308
    refine wk_ifeq r136_10 ⟨by omega, by omega⟩ ?_ ?_
    · intro h1315
      refine wk_al0 r136_248 (wk_il7 r136_249 (wk_c1 r136_251 (wk_iadd r136_252 (wk_putfi81 r136_253 fd_739_53 (wk_nw g_739_53 rfl hP1304 hF1305 (uf_739_53 ⟨by omega, by omega⟩) ?_)))))
      intro M1316 hP1317 hF1318 e1319
      refine wk_al0 r136_256 (wk_getfr r136_257 fd_739_52 (br_739_52 hP1317) (wk_c1 r136_260 (wk_ialdb r136_261 ar_759 (by decide) (fun q0 q1 => ba_759 hP1317 q0 q1) ?_)))
      intro v1320 h1322 h1323 e1321
      subst hQ; exact wk_iret r136_262 (⟨rfl, _, rfl, hP1317, hF1318, by omega, by omega, by have := (mUp_at e1319); omega, WTI_x ti1309 xp2 (by omega) (by show _ = _; rw [← e1321, e1319, mUp_ne (Or.inl (by decide))])⟩)
    · intro h1324
      have h1325 : v1300 ≤ en - 2 := by omega
      refine wk_al1 r136_13 (wk_il7 r136_14 (wk_iald r136_16 ar_747 ⟨by omega, by omega⟩ e1311 (wk_c2 r136_17 (wk_irem r136_19 ⟨by omega, by omega⟩ (by decide) (wk_is8 r136_20 rfl (wk_al1 r136_22 (wk_il7 r136_23 (wk_iald r136_25 ar_747 ⟨by omega, by omega⟩ e1311 (wk_c2 r136_26 (wk_idiv r136_28 ⟨by omega, by omega⟩ (by decide) (wk_c3 r136_29 (wk_irem r136_32 ⟨by omega, by omega⟩ (by decide) (wk_is9 r136_33 rfl (wk_al1 r136_35 (wk_il7 r136_36 (wk_iald r136_38 ar_747 ⟨by omega, by omega⟩ e1311 (wk_c3 r136_39 (wk_idiv r136_42 ⟨by omega, by omega⟩ (by decide) (wk_is10 r136_43 rfl (wk_inc7 r136_45 rfl (wk_il8 r136_48 (wk_c2 r136_50 ?_))))))))))))))))))))))
      refine wk_icne r136_52 ⟨by omega, by omega⟩ (by decide) ?_ ?_
      · intro h1329
        refine wk_il8 r136_78 (wk_c2 r136_80 ?_)
        refine wk_icne r136_82 ⟨by omega, by omega⟩ (by decide) ?_ ?_
        · intro h1330
          refine wk_il8 r136_147 (wk_c2 r136_149 ?_)
          refine wk_iceq r136_151 ⟨by omega, by omega⟩ (by decide) ?_ ?_
          · intro h1331
            have h1332 : 2 ≤ v1297 := by omega
            refine wk_inc6 r136_161 rfl (wk_al0 r136_164 (wk_getfr r136_165 fd_739_52 (br_739_52 hP1304) (wk_il6 r136_168 (wk_c1 r136_170 (wk_isub r136_171 (wk_il8 r136_172 (wk_c2 r136_174 ?_)))))))
            refine wk_icne r136_176 ⟨by omega, by omega⟩ (by decide) ?_ ?_
            · intro h1333
              exfalso
              omega
            · intro h1334
              refine wk_al0 r136_179 (wk_getfr r136_180 fd_739_52 (br_739_52 hP1304) (wk_il6 r136_183 (wk_c1 r136_185 (wk_isub r136_186 (wk_ialdb r136_187 ar_759 ⟨by omega, by omega⟩ (fun q0 q1 => ba_759 hP1304 q0 q1) ?_)))))
              intro v1335 h1337 h1338 e1336
              refine wk_al0 r136_188 (wk_getfr r136_189 fd_739_52 (br_739_52 hP1304) (wk_il6 r136_192 (wk_ialdb r136_194 ar_759 ⟨by omega, by omega⟩ (fun q0 q1 => ba_759 hP1304 q0 q1) ?_)))
              intro v1339 h1341 h1342 e1340
              refine wk_iand r136_195 ⟨by omega, by omega⟩ ⟨by omega, by omega⟩ ?_
              intro v1343 h1344 h1345 h1346 h1347
              refine wk_goto r136_196 ?_
              refine wk_iast r136_216 ar_759 ⟨by omega, by omega⟩ (wk_nw (ga_759 _) rfl hP1304 hF1305 (ua_759 ⟨by omega, by omega⟩) ?_)
              intro M1348 hP1349 hF1350 e1351
              refine wk_goto r136_217 (wk_goto r136_245 ?_)
              exact wp_fg (le_s (le_s (le_s (le_s (le_s (le_s (le_s (le_s (le_n (le_n (le_n (le_s le_0)))))))))))) (ih1441 (11999 - (v1300 + 1)).toNat (by omega) M1348 (v1297 + (-1)) (v1300 + 1) rfl hP1349 hF1350 (by first | with_reducible assumption | omega) (by first | with_reducible assumption | omega) (by first | with_reducible assumption | omega) (by first | with_reducible assumption | omega) (by first | with_reducible assumption | omega) (by first | with_reducible assumption | omega) (by have q := hg_up (by omega) (show (fun k => M0 747 k) v1300 = v1310 from (hF1305.at (ga_747 _) rfl).symm.trans e1311) ti1308; rw [q]; split; (omega); (split <;> omega)) (WTI_st ti1309 (by omega) (show (fun k => M0 747 k) v1300 = v1310 from (hF1305.at (ga_747 _) rfl).symm.trans e1311) (fun st hs hm => W_bin (x := v1343) hs hm (by omega) (fun k q7 => by show M1348 759 k = _; rw [e1351, mUp_ne (Or.inr (by omega))]) (by show M1348 759 (v1297 - 1 - 1) = _; rw [show v1297 - 1 - 1 = ((v1297 + (-1)) - 1) by omega]; exact (mUp_at e1351)) (Or.inl ⟨by omega, by show _ = (((M1303 759 (v1297 - 1 - 1)).toNat &&& (M1303 759 (v1297 - 1)).toNat : Nat) : Int); rw [show v1297 - 1 - 1 = ((v1297 + (-1)) - 1) by omega, show v1297 - 1 = (v1297 + (-1)) by omega, e1336, e1340]; exact h1347⟩))))
          · intro h1352
            refine wk_il8 r136_154 (wk_c2 r136_156 ?_)
            refine wk_icne r136_158 ⟨by omega, by omega⟩ (by decide) ?_ ?_
            · intro h1353
              have h1354 : 1 ≤ (v1310 % 16) ∧ (v1310 % 16) ≤ 9 := by omega
              refine wk_al0 r136_220 (wk_getfr r136_221 fd_739_52 (br_739_52 hP1304) (wk_il6 r136_224 (wk_al0 r136_226 (wk_il8 r136_227 (wk_il9 r136_229 (wk_il10 r136_231 (wk_il3 r136_233 (wk_il4 r136_234 (wk_il5 r136_236 ?_)))))))))
              obtain ⟨v1355, e1356⟩ : ∃ v, M1303 739 1 = v := ⟨_, rfl⟩
              have h1357 := (bf_739_1 hP1304).1; rw [e1356] at h1357
              have h1358 := (bf_739_1 hP1304).2; rw [e1356] at h1358
              refine wk_cv7 r136_238 kc_739_48 rfl (n8048_739 _ M1303 (v1310 % 16) ((v1310 / 16) % 128) (v1310 / 2048) p3 p4 p5 v1355 hP1304 (by first | with_reducible assumption | omega) (by first | with_reducible assumption | omega) (by first | with_reducible assumption | omega) (by first | with_reducible assumption | omega) (by first | with_reducible assumption | omega) (by first | with_reducible assumption | omega) (by first | with_reducible assumption | omega) (by first | with_reducible assumption | omega) (by first | with_reducible assumption | omega) (by first | with_reducible assumption | omega) (by first | with_reducible assumption | omega) (by first | with_reducible assumption | omega) e1356 (by first | with_reducible assumption | omega) (by first | with_reducible assumption | omega) (by first | assumption | omega | (unfold stepok; omega)) (by first | assumption | omega | (unfold stepok; omega))) (cqI ?_)
              rintro v1364 M1359 ⟨hP1360, hQ1361, h1365, h1366, xh1363⟩
              obtain rfl := Fr.same hQ1361
              refine wk_iast r136_241 ar_759 ⟨by omega, by omega⟩ (wk_nw (ga_759 _) rfl hP1304 hF1305 (ua_759 ⟨by omega, by omega⟩) ?_)
              intro M1367 hP1368 hF1369 e1370
              refine wk_inc6 r136_242 rfl (wk_goto r136_245 ?_)
              exact wp_fg (le_s (le_s (le_s (le_s (le_s (le_s (le_s (le_s (le_n (le_n (le_n (le_s le_0)))))))))))) (ih1441 (11999 - (v1300 + 1)).toNat (by omega) M1367 (v1297 + 1) (v1300 + 1) rfl hP1368 hF1369 (by first | with_reducible assumption | omega) (by first | with_reducible assumption | omega) (by first | with_reducible assumption | omega) (by first | with_reducible assumption | omega) (by first | with_reducible assumption | omega) (by first | with_reducible assumption | omega) (by have q := hg_up (by omega) (show (fun k => M0 747 k) v1300 = v1310 from (hF1305.at (ga_747 _) rfl).symm.trans e1311) ti1308; rw [q]; split; (omega); (split <;> omega)) (WTI_st ti1309 (by omega) (show (fun k => M0 747 k) v1300 = v1310 from (hF1305.at (ga_747 _) rfl).symm.trans e1311) (fun st hs hm => W_at hs hm (by omega) (fun k q7 => by show M1367 759 k = _; rw [e1370, mUp_ne (Or.inr q7)]) (mUp_at e1370) (by rw [← evF_sm (Sm.fr hF1305 rfl)]; exact xh1363 v1310 (by omega) (by omega) (by omega)))))
            · intro h1371
              have h1372 : 2 ≤ v1297 := by omega
              refine wk_inc6 r136_161 rfl (wk_al0 r136_164 (wk_getfr r136_165 fd_739_52 (br_739_52 hP1304) (wk_il6 r136_168 (wk_c1 r136_170 (wk_isub r136_171 (wk_il8 r136_172 (wk_c2 r136_174 ?_)))))))
              refine wk_icne r136_176 ⟨by omega, by omega⟩ (by decide) ?_ ?_
              · intro h1373
                refine wk_al0 r136_199 (wk_getfr r136_200 fd_739_52 (br_739_52 hP1304) (wk_il6 r136_203 (wk_c1 r136_205 (wk_isub r136_206 (wk_ialdb r136_207 ar_759 ⟨by omega, by omega⟩ (fun q0 q1 => ba_759 hP1304 q0 q1) ?_)))))
                intro v1374 h1376 h1377 e1375
                refine wk_al0 r136_208 (wk_getfr r136_209 fd_739_52 (br_739_52 hP1304) (wk_il6 r136_212 (wk_ialdb r136_214 ar_759 ⟨by omega, by omega⟩ (fun q0 q1 => ba_759 hP1304 q0 q1) ?_)))
                intro v1378 h1380 h1381 e1379
                refine wk_ior 1 2 r136_215 (by decide) ⟨by omega, by omega⟩ ⟨by omega, by omega⟩ ?_
                intro v1382 h1383 h1384 h1385 h1386 h1387
                refine wk_iast r136_216 ar_759 ⟨by omega, by omega⟩ (wk_nw (ga_759 _) rfl hP1304 hF1305 (ua_759 ⟨by omega, by omega⟩) ?_)
                intro M1388 hP1389 hF1390 e1391
                refine wk_goto r136_217 (wk_goto r136_245 ?_)
                exact wp_fg (le_s (le_s (le_s (le_s (le_s (le_s (le_s (le_s (le_n (le_n (le_n (le_s le_0)))))))))))) (ih1441 (11999 - (v1300 + 1)).toNat (by omega) M1388 (v1297 + (-1)) (v1300 + 1) rfl hP1389 hF1390 (by first | with_reducible assumption | omega) (by first | with_reducible assumption | omega) (by first | with_reducible assumption | omega) (by first | with_reducible assumption | omega) (by first | with_reducible assumption | omega) (by first | with_reducible assumption | omega) (by have q := hg_up (by omega) (show (fun k => M0 747 k) v1300 = v1310 from (hF1305.at (ga_747 _) rfl).symm.trans e1311) ti1308; rw [q]; split; (omega); (split <;> omega)) (WTI_st ti1309 (by omega) (show (fun k => M0 747 k) v1300 = v1310 from (hF1305.at (ga_747 _) rfl).symm.trans e1311) (fun st hs hm => W_bin (x := v1382) hs hm (by omega) (fun k q7 => by show M1388 759 k = _; rw [e1391, mUp_ne (Or.inr (by omega))]) (by show M1388 759 (v1297 - 1 - 1) = _; rw [show v1297 - 1 - 1 = ((v1297 + (-1)) - 1) by omega]; exact (mUp_at e1391)) (Or.inr ⟨by omega, by show _ = (((M1303 759 (v1297 - 1 - 1)).toNat ||| (M1303 759 (v1297 - 1)).toNat : Nat) : Int); rw [show v1297 - 1 - 1 = ((v1297 + (-1)) - 1) by omega, show v1297 - 1 = (v1297 + (-1)) by omega, e1375, e1379]; exact h1387⟩))))
              · intro h1392
                exfalso
                omega
        · intro h1393
          have h1394 : 1 ≤ v1297 ∧ ((v1310 / 16) % 128) ≤ 6 := by omega
          refine wk_al0 r136_85 (wk_il3 r136_86 (wk_il9 r136_87 (wk_il4 r136_89 ?_)))
          obtain ⟨v1395, e1396⟩ : ∃ v, M1303 739 3 = v := ⟨_, rfl⟩
          have h1397 := (bf_739_3 hP1304).1; rw [e1396] at h1397
          have h1398 := (bf_739_3 hP1304).2; rw [e1396] at h1398
          refine wk_cv4 r136_91 kc_739_107 rfl (n8107_739 _ M1303 p3 ((v1310 / 16) % 128) p4 v1395 hP1304 (by first | with_reducible assumption | omega) (by first | with_reducible assumption | omega) (by first | with_reducible assumption | omega) (by first | with_reducible assumption | omega) (by first | with_reducible assumption | omega) (by first | with_reducible assumption | omega) e1396 (by first | with_reducible assumption | omega) (by first | with_reducible assumption | omega)) (cqI ?_)
          rintro v1404 M1399 ⟨hP1400, hQ1401, h1405, h1406, xh1403⟩
          obtain rfl := Fr.same hQ1401
          refine wk_is11 r136_94 rfl (wk_al0 r136_96 (wk_getfr r136_97 fd_739_52 (br_739_52 hP1304) (wk_il6 r136_100 (wk_c1 r136_102 (wk_isub r136_103 (wk_il11 r136_104 (wk_c1 r136_106 ?_)))))))
          refine wk_icne r136_107 ⟨by omega, by omega⟩ (by decide) ?_ ?_
          · intro h1407
            refine wk_il11 r136_114 (wk_c1 r136_116 ?_)
            refine wk_icne r136_117 ⟨by omega, by omega⟩ (by decide) ?_ ?_
            · intro h1408
              refine wk_al0 r136_134 (wk_getfr r136_135 fd_739_52 (br_739_52 hP1304) (wk_il6 r136_138 (wk_c1 r136_140 (wk_isub r136_141 (wk_ialdb r136_142 ar_759 ⟨by omega, by omega⟩ (fun q0 q1 => ba_759 hP1304 q0 q1) ?_)))))
              intro v1409 h1411 h1412 e1410
              refine wk_iast r136_143 ar_759 ⟨by omega, by omega⟩ (wk_nw (ga_759 _) rfl hP1304 hF1305 (ua_759 ⟨by omega, by omega⟩) ?_)
              intro M1413 hP1414 hF1415 e1416
              refine wk_goto r136_144 (wk_goto r136_245 ?_)
              exact wp_fg (le_s (le_s (le_s (le_s (le_s (le_s (le_s (le_s (le_n (le_n (le_n (le_n le_0)))))))))))) (ih1441 (11999 - (v1300 + 1)).toNat (by omega) M1413 v1297 (v1300 + 1) rfl hP1414 hF1415 (by first | with_reducible assumption | omega) (by first | with_reducible assumption | omega) (by first | with_reducible assumption | omega) (by first | with_reducible assumption | omega) (by first | with_reducible assumption | omega) (by first | with_reducible assumption | omega) (by have q := hg_up (by omega) (show (fun k => M0 747 k) v1300 = v1310 from (hF1305.at (ga_747 _) rfl).symm.trans e1311) ti1308; rw [q]; split; (omega); (split <;> omega)) (WTI_st ti1309 (by omega) (show (fun k => M0 747 k) v1300 = v1310 from (hF1305.at (ga_747 _) rfl).symm.trans e1311) (fun st hs hm => W_say (l := v1404) hs hm (by omega) (by omega) (by rw [evF_20 (by omega) (by omega), ← lyF_sm (Sm.fr hF1305 rfl) (by omega) (by omega)]; exact (xh1403).trans (by rw [show ((v1310 / 16) % 128) = v1310 / 16 % 128 by omega])) (fun k q7 => by show M1413 759 k = _; rw [e1416, mUp_ne (Or.inr q7)]) (mUp_at e1416) (Or.inr (Or.inr ⟨by omega, by omega, by show _ = M1303 759 (v1297 - 1); rw [e1410]⟩)))))
            · intro h1417
              refine wk_c1 r136_120 (wk_al0 r136_121 (wk_getfr r136_122 fd_739_52 (br_739_52 hP1304) (wk_il6 r136_125 (wk_c1 r136_127 (wk_isub r136_128 (wk_ialdb r136_129 ar_759 ⟨by omega, by omega⟩ (fun q0 q1 => ba_759 hP1304 q0 q1) ?_))))))
              intro v1418 h1420 h1421 e1419
              refine wk_isub r136_130 (wk_goto r136_131 ?_)
              refine wk_iast r136_143 ar_759 ⟨by omega, by omega⟩ (wk_nw (ga_759 _) rfl hP1304 hF1305 (ua_759 ⟨by omega, by omega⟩) ?_)
              intro M1422 hP1423 hF1424 e1425
              refine wk_goto r136_144 (wk_goto r136_245 ?_)
              exact wp_fg (le_s (le_s (le_s (le_s (le_s (le_s (le_s (le_s (le_n (le_n (le_n (le_n le_0)))))))))))) (ih1441 (11999 - (v1300 + 1)).toNat (by omega) M1422 v1297 (v1300 + 1) rfl hP1423 hF1424 (by first | with_reducible assumption | omega) (by first | with_reducible assumption | omega) (by first | with_reducible assumption | omega) (by first | with_reducible assumption | omega) (by first | with_reducible assumption | omega) (by first | with_reducible assumption | omega) (by have q := hg_up (by omega) (show (fun k => M0 747 k) v1300 = v1310 from (hF1305.at (ga_747 _) rfl).symm.trans e1311) ti1308; rw [q]; split; (omega); (split <;> omega)) (WTI_st ti1309 (by omega) (show (fun k => M0 747 k) v1300 = v1310 from (hF1305.at (ga_747 _) rfl).symm.trans e1311) (fun st hs hm => W_say (l := v1404) hs hm (by omega) (by omega) (by rw [evF_20 (by omega) (by omega), ← lyF_sm (Sm.fr hF1305 rfl) (by omega) (by omega)]; exact (xh1403).trans (by rw [show ((v1310 / 16) % 128) = v1310 / 16 % 128 by omega])) (fun k q7 => by show M1422 759 k = _; rw [e1425, mUp_ne (Or.inr q7)]) (mUp_at e1425) (Or.inr (Or.inl ⟨by omega, by omega, by show _ = 1 - M1303 759 (v1297 - 1); rw [e1419]⟩)))))
          · intro h1426
            refine wk_c1 r136_110 (wk_goto r136_111 ?_)
            refine wk_iast r136_143 ar_759 ⟨by omega, by omega⟩ (wk_nw (ga_759 _) rfl hP1304 hF1305 (ua_759 (by decide)) ?_)
            intro M1427 hP1428 hF1429 e1430
            refine wk_goto r136_144 (wk_goto r136_245 ?_)
            exact wp_fg (le_s (le_s (le_s (le_s (le_s (le_s (le_s (le_s (le_n (le_n (le_n (le_n le_0)))))))))))) (ih1441 (11999 - (v1300 + 1)).toNat (by omega) M1427 v1297 (v1300 + 1) rfl hP1428 hF1429 (by first | with_reducible assumption | omega) (by first | with_reducible assumption | omega) (by first | with_reducible assumption | omega) (by first | with_reducible assumption | omega) (by first | with_reducible assumption | omega) (by first | with_reducible assumption | omega) (by have q := hg_up (by omega) (show (fun k => M0 747 k) v1300 = v1310 from (hF1305.at (ga_747 _) rfl).symm.trans e1311) ti1308; rw [q]; split; (omega); (split <;> omega)) (WTI_st ti1309 (by omega) (show (fun k => M0 747 k) v1300 = v1310 from (hF1305.at (ga_747 _) rfl).symm.trans e1311) (fun st hs hm => W_say (l := v1404) hs hm (by omega) (by omega) (by rw [evF_20 (by omega) (by omega), ← lyF_sm (Sm.fr hF1305 rfl) (by omega) (by omega)]; exact (xh1403).trans (by rw [show ((v1310 / 16) % 128) = v1310 / 16 % 128 by omega])) (fun k q7 => by show M1427 759 k = _; rw [e1430, mUp_ne (Or.inr q7)]) (mUp_at e1430) (Or.inl ⟨by omega, rfl⟩))))
      · intro h1431
        have h1432 : 1 ≤ v1297 := by omega
        refine wk_al0 r136_55 (wk_getfr r136_56 fd_739_52 (br_739_52 hP1304) (wk_il6 r136_59 (wk_c1 r136_61 (wk_isub r136_62 (wk_c1 r136_63 (wk_al0 r136_64 (wk_getfr r136_65 fd_739_52 (br_739_52 hP1304) (wk_il6 r136_68 (wk_c1 r136_70 (wk_isub r136_71 (wk_ialdb r136_72 ar_759 ⟨by omega, by omega⟩ (fun q0 q1 => ba_759 hP1304 q0 q1) ?_)))))))))))
        intro v1433 h1435 h1436 e1434
        refine wk_isub r136_73 (wk_iast r136_74 ar_759 ⟨by omega, by omega⟩ (wk_nw (ga_759 _) rfl hP1304 hF1305 (ua_759 ⟨by omega, by omega⟩) ?_))
        intro M1437 hP1438 hF1439 e1440
        refine wk_goto r136_75 (wk_goto r136_245 ?_)
        exact wp_fg (le_s (le_s (le_s (le_s (le_s (le_s (le_s (le_s (le_n (le_n (le_n (le_s le_0)))))))))))) (ih1441 (11999 - (v1300 + 1)).toNat (by omega) M1437 v1297 (v1300 + 1) rfl hP1438 hF1439 (by first | with_reducible assumption | omega) (by first | with_reducible assumption | omega) (by first | with_reducible assumption | omega) (by first | with_reducible assumption | omega) (by first | with_reducible assumption | omega) (by first | with_reducible assumption | omega) (by have q := hg_up (by omega) (show (fun k => M0 747 k) v1300 = v1310 from (hF1305.at (ga_747 _) rfl).symm.trans e1311) ti1308; rw [q]; split; (omega); (split <;> omega)) (WTI_st ti1309 (by omega) (show (fun k => M0 747 k) v1300 = v1310 from (hF1305.at (ga_747 _) rfl).symm.trans e1311) (fun st hs hm => W_not hs hm (by omega) (by omega) (fun k q7 => by show M1437 759 k = _; rw [e1440, mUp_ne (Or.inr q7)]) (mUp_at e1440) (by show _ = 1 - M1303 759 (v1297 - 1); rw [e1434]))))
  exact wp_fg (le_s (le_s (le_n (le_s (le_s (le_s (le_s (le_s (le_s (le_s (le_s (le_s le_0)))))))))))) (c6_1441 _ M0 0 p2 rfl hP0 hF0 (by first | with_reducible assumption | omega) (by first | with_reducible assumption | omega) (by first | with_reducible assumption | omega) (by first | with_reducible assumption | omega) (by first | with_reducible assumption | omega) (by first | with_reducible assumption | omega) (by rw [Int.sub_self]; rfl) (WTI_0 _ _ _ _))
