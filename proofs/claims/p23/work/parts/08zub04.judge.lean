theorem ga_155 (i : Int) : grp 155 i = 86 := gr_155 (by decide) (by decide) i
def fm_n7185_10 : Nat := 0
/-- IslandHall$Realm.alike -/
theorem n7185_10 {B : eB} (d : Nat) (M0 : Mm) (p1 : Int) (p2 : Int) (hP0 : Pw M0) (l1 : 0 ≤ p1) (u1 : p1 ≤ 54) (l2 : 0 ≤ p2) (u2 : p2 ≤ 46) (xp0 : p1 % 8 ≤ 6) : Ct B (d + 1) 185 [R 10, I p1, I p2] M0 (qL fun z M => Pw M ∧ Fr fm_n7185_10 M0 M ∧ z < 18446744073709551616 ∧ (∀ b : Nat, b < 64 → Nat.testBit z b = orK (fun k => tb M0 (17 + (p1 / 8 * 5 + k)) p2 b && tb M0 (17 + (p1 % 8 * 5 + k)) p2 b) 5)) := by
  refine ct_of (d := d + 0) (k := 5) (L := [some (R 10), some (I p1), some (I p2), none, none, none, none, none]) rfl rfl rfl ?_
  have hF0 := Fr.rf fm_n7185_10 M0
  generalize hQ : (qL fun z M => Pw M ∧ Fr fm_n7185_10 M0 M ∧ z < 18446744073709551616 ∧ (∀ b : Nat, b < 64 → Nat.testBit z b = orK (fun k => tb M0 (17 + (p1 / 8 * 5 + k)) p2 b && tb M0 (17 + (p1 % 8 * 5 + k)) p2 b) 5)) = Q
  refine wk_c1 r185_0 (wk_il1 r185_1 (wk_c1 r185_2 (wk_ishrc r185_3 ⟨by omega, by omega⟩ (by decide) pwl_3 (wk_c1 r185_4 (wk_imul r185_5 (wk_iadd r185_6 (wk_is3 r185_7 rfl (wk_c1 r185_8 (wk_il1 r185_9 (wk_c2 r185_10 (wk_iandc 3 8 r185_12 ⟨rfl, by decide⟩ rfl (wk_c1 r185_13 (wk_imul r185_14 (wk_iadd r185_15 (wk_is4 r185_16 rfl (wk_c6 r185_18 (wk_ls5 r185_19 rfl (wk_c1 r185_21 (wk_is7 r185_22 rfl ?_)))))))))))))))))))
  have c24_177 : ∀ (k177 : Nat) (n152 : Nat) (v154 : Int), (5 - v154).toNat = k177 → n152 < 18446744073709551616 → 0 ≤ v154 → v154 ≤ 5 → (∀ b : Nat, b < 64 → Nat.testBit n152 b = orK (fun k => tb M0 (17 + (p1 / 8 * 5 + k)) p2 b && tb M0 (17 + (p1 % 8 * 5 + k)) p2 b) (v154).toNat) → Wp B (d + 0) 185 24 [some (R 10), none, some (I p2), some (I (0 + ((p1 / 8) * 5))), some (I (0 + ((p1 % 8) * 5))), some (J n152), none, some (I v154)] [] M0 Q := by
    refine lp_ind ?_
    intro k177 ih177 n152 v154 hk177 h153 h155 h156 ti157
    refine wk_il7 r185_24 (wk_c1 r185_26 ?_)
    refine wk_icge r185_27 ⟨by omega, by omega⟩ (by decide) ?_ ?_
    · intro h158
      refine wk_ll5 r185_65 ?_
      subst hQ; exact wk_lret r185_67 (⟨rfl, _, rfl, hP0, hF0, by omega, fun b hb => (ti157 b hb).trans (congrArg (fun n => orK _ n) (show (v154).toNat = 5 by omega))⟩)
    · intro h159
      refine wk_ll5 r185_30 (wk_al0 r185_32 (wk_getfr r185_33 fd_10_0 (br_10_0 hP0) (wk_il3 r185_36 (wk_il7 r185_37 (wk_iadd r185_39 (wk_raldb r185_40 ar_16 ⟨by omega, by omega⟩ (fun q0 q1 => ba_16 hP0 q0 q1) (wk_il2 r185_41 (wk_laldb r185_42 (arF_17 (by omega) (by omega)) ⟨by omega, by omega⟩ (fun q0 q1 => baF_17 hP0 (by omega) (by omega) q0 q1) (by decide) ?_))))))))
      intro n160 h162 h163 e161
      refine wk_al0 r185_43 (wk_getfr r185_44 fd_10_0 (br_10_0 hP0) (wk_il4 r185_47 (wk_il7 r185_49 (wk_iadd r185_51 (wk_raldb r185_52 ar_16 ⟨by omega, by omega⟩ (fun q0 q1 => ba_16 hP0 q0 q1) (wk_il2 r185_53 (wk_laldb r185_54 (arF_17 (by omega) (by omega)) ⟨by omega, by omega⟩ (fun q0 q1 => baF_17 hP0 (by omega) (by omega) q0 q1) (by decide) ?_)))))))
      intro n164 h166 h167 e165
      refine wk_land r185_55 ?_
      intro n168 h169 h170 h171 h172
      refine wk_lorb r185_56 ?_
      intro n173 h174 h175 h176
      refine wk_ls5 r185_57 rfl (wk_inc7 r185_59 rfl (wk_goto r185_62 ?_))
      exact wp_fg (le_s (le_s (le_s (le_s (le_s (le_s (le_s (le_s le_0)))))))) (ih177 (5 - (v154 + 1)).toNat (by omega) n173 (v154 + 1) rfl (by first | with_reducible assumption | omega) (by first | with_reducible assumption | omega) (by first | with_reducible assumption | omega) (fun b hb => by rw [orK_s (by omega), tb_or h175 hb, ti157 b hb, tb_and h172 hb]; refine congrArg _ ?_; show _ = (tb M0 (17 + (p1 / 8 * 5 + v154)) p2 b && tb M0 (17 + (p1 % 8 * 5 + v154)) p2 b); rw [show 17 + (p1 / 8 * 5 + v154) = (17 + ((0 + ((p1 / 8) * 5)) + v154)) by omega, show 17 + (p1 % 8 * 5 + v154) = (17 + ((0 + ((p1 % 8) * 5)) + v154)) by omega, tb_el e161, tb_el e165]))
  exact wp_fg (le_s (le_n (le_s (le_s (le_s (le_s (le_s (le_s le_0)))))))) (c24_177 _ 0 0 rfl (by first | with_reducible assumption | omega) (by first | with_reducible assumption | omega) (by first | with_reducible assumption | omega) (fun b _ => Nat.zero_testBit b))
def fm_n7198_10 : Nat := 0
/-- IslandHall$Realm.many -/
theorem n7198_10 {B : eB} (d : Nat) (M0 : Mm) (p1 : Int) (p2 : Int) (hP0 : Pw M0) (l1 : 0 ≤ p1) (u1 : p1 ≤ 1279) (l2 : 0 ≤ p2) (u2 : p2 ≤ 46) : Ct B (d + 1) 198 [R 10, I p1, I p2] M0 (qL fun z M => Pw M ∧ Fr fm_n7198_10 M0 M ∧ z < 18446744073709551616 ∧ (∀ b : Nat, b < 64 → Nat.testBit z b = orK (fun t => decide (p1 / pw t % 2 = 1) && tb M0 (17 + (48 + 8 * (p1 / 256) + t)) p2 b) 8)) := by
  refine ct_of (d := d + 0) (k := 4) (L := [some (R 10), some (I p1), some (I p2), none, none, none, none]) rfl rfl rfl ?_
  have hF0 := Fr.rf fm_n7198_10 M0
  generalize hQ : (qL fun z M => Pw M ∧ Fr fm_n7198_10 M0 M ∧ z < 18446744073709551616 ∧ (∀ b : Nat, b < 64 → Nat.testBit z b = orK (fun t => decide (p1 / pw t % 2 = 1) && tb M0 (17 + (48 + 8 * (p1 / 256) + t)) p2 b) 8)) = Q
  refine wk_c2 r198_0 (wk_il1 r198_2 (wk_c2 r198_3 (wk_ishrc r198_5 ⟨by omega, by omega⟩ (by decide) pwl_8 (wk_c2 r198_6 (wk_imul r198_8 (wk_iadd r198_9 (wk_is3 r198_10 rfl (wk_c6 r198_11 (wk_ls4 r198_12 rfl (wk_c1 r198_14 (wk_is6 r198_15 rfl ?_)))))))))))
  have c17_186 : ∀ (k186 : Nat) (n163 : Nat) (v165 : Int), (8 - v165).toNat = k186 → n163 < 18446744073709551616 → 0 ≤ v165 → v165 ≤ 8 → (∀ b : Nat, b < 64 → Nat.testBit n163 b = orK (fun t => decide (p1 / pw t % 2 = 1) && tb M0 (17 + (48 + 8 * (p1 / 256) + t)) p2 b) (v165).toNat) → Wp B (d + 0) 198 17 [some (R 10), some (I p1), some (I p2), some (I (48 + ((p1 / 256) * 8))), some (J n163), none, some (I v165)] [] M0 Q := by
    refine lp_ind ?_
    intro k186 ih186 n163 v165 hk186 h164 h166 h167 ti168
    refine wk_il6 r198_17 (wk_c2 r198_19 ?_)
    refine wk_icgt r198_21 ⟨by omega, by omega⟩ (by decide) ?_ ?_
    · intro h169
      refine wk_ll4 r198_56 ?_
      subst hQ; exact wk_lret r198_58 (⟨rfl, _, rfl, hP0, hF0, by omega, fun b hb => (ti168 b hb).trans (congrArg (fun n => orK _ n) (show (v165).toNat = 8 by omega))⟩)
    · intro h170
      refine wk_il1 r198_24 (wk_il6 r198_25 (wk_shrb r198_27 ⟨by omega, by omega⟩ ⟨by omega, by omega⟩ ?_))
      intro v171 h172 h173 h174
      refine wk_c1 r198_28 (wk_iandc 1 2 r198_29 ⟨rfl, by decide⟩ rfl (wk_c1 r198_30 ?_))
      refine wk_icne r198_31 ⟨by omega, by omega⟩ (by decide) ?_ ?_
      · intro h176
        refine wk_inc6 r198_50 rfl (wk_goto r198_53 ?_)
        exact wp_fg (le_s (le_s (le_s (le_s (le_s (le_s (le_s le_0))))))) (ih186 (8 - (v165 + 1)).toNat (by omega) n163 (v165 + 1) rfl (by first | with_reducible assumption | omega) (by first | with_reducible assumption | omega) (by first | with_reducible assumption | omega) (fun b hb => by rw [orK_s (by omega), ti168 b hb, decide_eq_false (by rw [← h174] <;> omega), Bool.false_and, Bool.or_false]))
      · intro h177
        refine wk_ll4 r198_34 (wk_al0 r198_36 (wk_getfr r198_37 fd_10_0 (br_10_0 hP0) (wk_il3 r198_40 (wk_il6 r198_41 (wk_iadd r198_43 (wk_raldb r198_44 ar_16 ⟨by omega, by omega⟩ (fun q0 q1 => ba_16 hP0 q0 q1) (wk_il2 r198_45 (wk_laldb r198_46 (arF_17 (by omega) (by omega)) ⟨by omega, by omega⟩ (fun q0 q1 => baF_17 hP0 (by omega) (by omega) q0 q1) (by decide) ?_))))))))
        intro n178 h180 h181 e179
        refine wk_lorb r198_47 ?_
        intro n182 h183 h184 h185
        refine wk_ls4 r198_48 rfl (wk_inc6 r198_50 rfl (wk_goto r198_53 ?_))
        exact wp_fg (le_s (le_s (le_s (le_s (le_s (le_s (le_s le_0))))))) (ih186 (8 - (v165 + 1)).toNat (by omega) n182 (v165 + 1) rfl (by first | with_reducible assumption | omega) (by first | with_reducible assumption | omega) (by first | with_reducible assumption | omega) (fun b hb => by rw [orK_s (by omega), tb_or h184 hb, ti168 b hb]; refine congrArg _ ?_; show _ = (decide (p1 / pw v165 % 2 = 1) && tb M0 (17 + (48 + 8 * (p1 / 256) + v165)) p2 b); rw [decide_eq_true (by rw [← h174] <;> omega), Bool.true_and, show 17 + (48 + 8 * (p1 / 256) + v165) = (17 + ((48 + ((p1 / 256) * 8)) + v165)) by omega, tb_el e179]))
  exact wp_fg (le_s (le_s (le_s (le_s (le_s (le_s (le_s le_0))))))) (c17_186 _ 0 0 rfl (by first | with_reducible assumption | omega) (by first | with_reducible assumption | omega) (by first | with_reducible assumption | omega) (fun b _ => Nat.zero_testBit b))
def fm_n7190_10 : Nat := 0
/-- IslandHall$Realm.freeRow -/
theorem n7190_10 {B : eB} (d : Nat) (M0 : Mm) (p1 : Int) (hP0 : Pw M0) (l1 : 0 ≤ p1) (u1 : p1 ≤ 6) : Ct B (d + 1) 190 [R 10, I p1] M0 (qR fun z M => Pw M ∧ Fr fm_n7190_10 M0 M ∧ 21 ≤ z ∧ z ≤ 51 ∧ (z = 17 + (p1 * 5 + 4))) := by
  refine ct_of (d := d + 0) (k := 0) (L := [some (R 10), some (I p1)]) rfl rfl rfl ?_
  have hF0 := Fr.rf fm_n7190_10 M0
  generalize hQ : (qR fun z M => Pw M ∧ Fr fm_n7190_10 M0 M ∧ 21 ≤ z ∧ z ≤ 51 ∧ (z = 17 + (p1 * 5 + 4))) = Q
  refine wk_al0 r190_0 (wk_getfr r190_1 fd_10_0 (br_10_0 hP0) (wk_c1 r190_4 (wk_il1 r190_5 (wk_c1 r190_6 (wk_imul r190_7 (wk_iadd r190_8 (wk_c1 r190_9 (wk_iadd r190_10 (wk_raldb r190_11 ar_16 ⟨by omega, by omega⟩ (fun q0 q1 => ba_16 hP0 q0 q1) ?_)))))))))
  subst hQ; exact wk_aret r190_12 (⟨rfl, _, rfl, hP0, hF0, by omega, by omega, by omega⟩)
def fm_n7208_10 : Nat := 0
/-- IslandHall$Realm.yesRow -/
theorem n7208_10 {B : eB} (d : Nat) (M0 : Mm) (p1 : Int) (hP0 : Pw M0) (l1 : (-1) ≤ p1) (u1 : p1 ≤ (-1)) : Ct B (d + 1) 208 [R 10, I p1] M0 (qR fun z M => Pw M ∧ Fr fm_n7208_10 M0 M ∧ 135 ≤ z ∧ z ≤ 135 ∧ ((p1 = -1 ∧ z = 17 + 118) ∨ (p1 ≠ -1 ∧ z = 17 + (46 + p1)))) := by
  refine ct_of (d := d + 0) (k := 0) (L := [some (R 10), some (I p1)]) rfl rfl rfl ?_
  have hF0 := Fr.rf fm_n7208_10 M0
  generalize hQ : (qR fun z M => Pw M ∧ Fr fm_n7208_10 M0 M ∧ 135 ≤ z ∧ z ≤ 135 ∧ ((p1 = -1 ∧ z = 17 + 118) ∨ (p1 ≠ -1 ∧ z = 17 + (46 + p1)))) = Q
  refine wk_al0 r208_0 (wk_getfr r208_1 fd_10_0 (br_10_0 hP0) (wk_il1 r208_4 (wk_c1 r208_5 ?_)))
  refine wk_icne r208_6 ⟨by omega, by omega⟩ (by decide) ?_ ?_
  · intro h1
    exfalso
    omega
  · intro h2
    refine wk_c2 r208_9 (wk_goto r208_11 (wk_raldb r208_18 ar_16 (by decide) (fun q0 q1 => ba_16 hP0 q0 q1) ?_))
    subst hQ; exact wk_aret r208_19 (⟨rfl, _, rfl, hP0, hF0, by omega, by omega, by omega⟩)
def fm_n7193_10 : Nat := 0
/-- IslandHall$Realm.honestRow -/
theorem n7193_10 {B : eB} (d : Nat) (M0 : Mm) (p1 : Int) (hP0 : Pw M0) (l1 : 0 ≤ p1) (u1 : p1 ≤ 6) : Ct B (d + 1) 193 [R 10, I p1] M0 (qR fun z M => Pw M ∧ Fr fm_n7193_10 M0 M ∧ 105 ≤ z ∧ z ≤ 118 ∧ (z = 17 + (88 + 2 * p1 + M0 11 p1))) := by
  refine ct_of (d := d + 0) (k := 0) (L := [some (R 10), some (I p1)]) rfl rfl rfl ?_
  have hF0 := Fr.rf fm_n7193_10 M0
  generalize hQ : (qR fun z M => Pw M ∧ Fr fm_n7193_10 M0 M ∧ 105 ≤ z ∧ z ≤ 118 ∧ (z = 17 + (88 + 2 * p1 + M0 11 p1))) = Q
  refine wk_al0 r193_0 (wk_getfr r193_1 fd_10_0 (br_10_0 hP0) (wk_c2 r193_4 (wk_c1 r193_6 (wk_il1 r193_7 (wk_imul r193_8 (wk_iadd r193_9 (wk_al0 r193_10 (wk_getfr r193_11 fd_10_3 (br_10_3 hP0) (wk_il1 r193_14 (wk_ialdb r193_15 ar_11 ⟨by omega, by omega⟩ (fun q0 q1 => ba_11 hP0 q0 q1) ?_))))))))))
  intro v1 h3 h4 e2
  refine wk_iadd r193_16 (wk_raldb r193_17 ar_16 ⟨by omega, by omega⟩ (fun q0 q1 => ba_16 hP0 q0 q1) ?_)
  subst hQ; exact wk_aret r193_18 (⟨rfl, _, rfl, hP0, hF0, by omega, by omega, by rw [e2] <;> omega⟩)
def fm_n7189_10 : Nat := 0
/-- IslandHall$Realm.fits -/
theorem n7189_10 {B : eB} (d : Nat) (M0 : Mm) (p1 : Int) (p2 : Int) (p3 : Nat) (p4 : Int) (hP0 : Pw M0) (l1 : 0 ≤ p1) (u1 : p1 ≤ 6) (l2 : (-1) ≤ p2) (u2 : p2 ≤ (-1)) (l3 : p3 < 18446744073709551616) (l4 : 0 ≤ p4) (u4 : p4 ≤ 46) : Ct B (d + 2) 189 [R 10, I p1, I p2, J p3, I p4] M0 (qL fun z M => Pw M ∧ Fr fm_n7189_10 M0 M ∧ z < 18446744073709551616 ∧ (∀ b : Nat, b < 64 → Nat.testBit z b = (tb M0 (17 + (p1 * 5 + 4)) p4 b || (tb M0 (if p2 = -1 then (17 : Int) + 118 else 17 + (46 + p2)) p4 b ^^ Nat.testBit p3 b ^^ tb M0 (17 + (88 + 2 * p1 + M0 11 p1)) p4 b)))) := by
  refine ct_of (d := d + 1) (k := 0) (L := [some (R 10), some (I p1), some (I p2), some (J p3), none, some (I p4)]) rfl rfl rfl ?_
  have hF0 := Fr.rf fm_n7189_10 M0
  generalize hQ : (qL fun z M => Pw M ∧ Fr fm_n7189_10 M0 M ∧ z < 18446744073709551616 ∧ (∀ b : Nat, b < 64 → Nat.testBit z b = (tb M0 (17 + (p1 * 5 + 4)) p4 b || (tb M0 (if p2 = -1 then (17 : Int) + 118 else 17 + (46 + p2)) p4 b ^^ Nat.testBit p3 b ^^ tb M0 (17 + (88 + 2 * p1 + M0 11 p1)) p4 b)))) = Q
  refine wk_al0 r189_0 (wk_il1 r189_1 (wk_cv2 r189_2 kc_10_190 rfl (n7190_10 _ M0 p1 hP0 (by first | with_reducible assumption | omega) (by first | with_reducible assumption | omega)) (cqR ?_)))
  rintro v6 M1 ⟨hP2, hQ3, h7, h8, xh5⟩
  obtain rfl := Fr.same hQ3
  refine wk_il5 r189_5 (wk_laldb r189_7 (arF_17 (by omega) (by omega)) ⟨by omega, by omega⟩ (fun q0 q1 => baF_17 hP0 (by omega) (by omega) q0 q1) (by decide) ?_)
  intro n9 h11 h12 e10
  refine wk_al0 r189_8 (wk_il2 r189_9 (wk_cv2 r189_10 kc_10_208 rfl (n7208_10 _ M0 p2 hP0 (by first | with_reducible assumption | omega) (by first | with_reducible assumption | omega)) (cqR ?_)))
  rintro v18 M13 ⟨hP14, hQ15, h19, h20, xh17⟩
  obtain rfl : v18 = 135 := by omega
  obtain rfl := Fr.same hQ15
  refine wk_il5 r189_13 (wk_laldb r189_15 ar_135 ⟨by omega, by omega⟩ (fun q0 q1 => ba_135 hP0 q0 q1) (by decide) ?_)
  intro n21 h23 h24 e22
  refine wk_ll3 r189_16 (wk_lxor r189_17 ?_)
  intro n25 h26 h27
  refine wk_al0 r189_18 (wk_il1 r189_19 (wk_cv2 r189_20 kc_10_193 rfl (n7193_10 _ M0 p1 hP0 (by first | with_reducible assumption | omega) (by first | with_reducible assumption | omega)) (cqR ?_)))
  rintro v33 M28 ⟨hP29, hQ30, h34, h35, xh32⟩
  obtain rfl := Fr.same hQ30
  refine wk_il5 r189_23 (wk_laldb r189_25 (arF_17 (by omega) (by omega)) ⟨by omega, by omega⟩ (fun q0 q1 => baF_17 hP0 (by omega) (by omega) q0 q1) (by decide) ?_)
  intro n36 h38 h39 e37
  refine wk_lxor r189_26 ?_
  intro n40 h41 h42
  refine wk_lorb r189_27 ?_
  intro n43 h44 h45 h46
  subst hQ; exact wk_lret r189_28 (⟨rfl, _, rfl, hP0, hF0, by omega, fun b hb => by rw [tb_or h45 hb, tb_xor h42 hb, tb_xor h27 hb, show 17 + (p1 * 5 + 4) = v6 by omega, tb_el e10, show (if p2 = -1 then (17 : Int) + 118 else 17 + (46 + p2)) = 135 by rcases xh17 with ⟨q, q2⟩ | ⟨q, q2⟩ <;> first | rw [if_pos q]; omega | rw [if_neg q]; omega, tb_el e22, show 17 + (88 + 2 * p1 + M0 11 p1) = v33 by omega, tb_el e37]⟩)
def fm_n7207_10 : Nat := 18446744073709551616
set_option maxHeartbeats 20000000 in
/-- IslandHall$Realm.truth -/
theorem n7207_10 {B : eB} (d : Nat) (M0 : Mm) (c1 : Int) (p2 : Int) (hP0 : Pw M0) (hC1 : isC c1) (l2 : 0 ≤ p2) (u2 : p2 ≤ 46) (xp0 : okH 30 (CL M0 c1) 0) : Ct B (d + 3) 207 [R 10, R c1, I p2] M0 (qL fun z M => Pw M ∧ Fr fm_n7207_10 M0 M ∧ z < 18446744073709551616 ∧ (∀ (b : Nat) (x : Bool), b < 64 → runF (stV M0 17 11 p2 b) (CL M0 c1) [] = [x] → Nat.testBit z b = x) ∧ (∀ a i : Int, a ≠ 12 → M a i = M0 a i)) := by
  refine ct_of (d := d + 2) (k := 7) (L := [some (R 10), some (R c1), some (I p2), none, none, none, none, none, none, none]) rfl rfl rfl ?_
  have hF0 := Fr.rf fm_n7207_10 M0
  generalize hQ : (qL fun z M => Pw M ∧ Fr fm_n7207_10 M0 M ∧ z < 18446744073709551616 ∧ (∀ (b : Nat) (x : Bool), b < 64 → runF (stV M0 17 11 p2 b) (CL M0 c1) [] = [x] → Nat.testBit z b = x) ∧ (∀ a i : Int, a ≠ 12 → M a i = M0 a i)) = Q
  refine wk_c1 r207_0 (wk_is3 r207_1 rfl (wk_c1 r207_2 (wk_is4 r207_3 rfl ?_)))
  have c5_1659 : ∀ (k1659 : Nat) (M1487 : Mm) (v1481 : Int) (v1484 : Int), (256 - v1484).toNat = k1659 → Pw M1487 → Fr fm_n7207_10 M0 M1487 → 0 ≤ v1481 → v1481 ≤ 31 → 0 ≤ v1484 → v1484 ≤ 256 → 0 ≤ (-1) * v1481 + v1484 + 0 → (HTI (CL M0 c1) v1484 v1481) → (∀ b : Nat, b < 64 → TWI (stV M0 17 11 p2 b) b (CL M0 c1) (fun k => M1487 12 k) v1484 v1481) → (∀ a i : Int, a ≠ 12 → M1487 a i = M0 a i) → Wp B (d + 2) 207 5 [some (R 10), some (R c1), some (I p2), some (I v1481), some (I v1484), none, none, none, none, none] [] M1487 Q := by
    refine lp_ind ?_
    intro k1659 ih1659 M1487 v1481 v1484 hk1659 hP1488 hF1489 h1482 h1483 h1485 h1486 h1490 ti1491 ti1492 ti1493
    refine wk_il4 r207_5 (wk_al1 r207_7 (wk_getfb r207_8 (fdC_1 hC1) (bC_1 hP1488 hC1) ?_))
    intro v1494 h1496 h1497 e1495
    refine wk_icge r207_11 ⟨by omega, by omega⟩ ⟨by omega, by omega⟩ ?_ ?_
    · intro h1498
      refine wk_al0 r207_255 (wk_getfr r207_256 fd_10_4 (br_10_4 hP1488) (wk_c1 r207_259 (wk_laldb r207_260 ar_12 (by decide) (fun q0 q1 => ba_12 hP1488 q0 q1) (by decide) ?_)))
      intro n1499 h1501 h1502 e1500
      subst hQ; exact wk_lret r207_261 (⟨rfl, _, rfl, hP1488, hF1489, by omega, fun b x hb hx => TWI_x (ti1492 b hb) (by rw [CL_len]; have := (e1495).symm.trans (hF1489.at (g_c1 hC1) rfl); omega) (show (M1487 12 0).toNat = _ from e1500) hx, ti1493⟩)
    · intro h1503
      refine wk_il3 r207_14 (wk_c1 r207_15 (wk_iadd r207_16 ?_))
      refine wk_c2 r207_17 ?_
      refine wk_icge r207_19 ⟨by omega, by omega⟩ (by decide) ?_ ?_
      · intro h1504
        refine wk_al0 r207_255 (wk_getfr r207_256 fd_10_4 (br_10_4 hP1488) (wk_c1 r207_259 (wk_laldb r207_260 ar_12 (by decide) (fun q0 q1 => ba_12 hP1488 q0 q1) (by decide) ?_)))
        intro n1505 h1507 h1508 e1506
        subst hQ; exact wk_lret r207_261 (⟨rfl, _, rfl, hP1488, hF1489, by omega, fun b x hb hx => TWI_x (ti1492 b hb) (absurd (HTI_le ti1491) (by omega)) (show (M1487 12 0).toNat = _ from e1506) hx, ti1493⟩)
      · intro h1509
        refine wk_al1 r207_22 (wk_getfr r207_23 (fdC_0 hC1) (bC_0 hP1488 hC1) (wk_il4 r207_26 (wk_ialdb r207_28 (arC hC1) ⟨by omega, by omega⟩ (fun q0 q1 => baC hP1488 hC1 q0 q1) ?_)))
        intro v1510 h1512 h1513 e1511
        have h1514 := exC hP1488 hC1 (i := v1484) (by omega) (by omega); rw [e1511] at h1514; unfold stepok at h1514
        refine wk_c1 r207_29 (wk_ishrc r207_30 ⟨by omega, by omega⟩ (by decide) pwl_3 (wk_is5 r207_31 rfl (wk_al1 r207_33 (wk_getfr r207_34 (fdC_0 hC1) (bC_0 hP1488 hC1) (wk_il4 r207_37 (wk_iald r207_39 (arC hC1) ⟨by omega, by omega⟩ e1511 (wk_c2 r207_40 (wk_iandc 3 8 r207_42 ⟨rfl, by decide⟩ rfl (wk_is6 r207_43 rfl (wk_il6 r207_45 (wk_c1 r207_47 ?_)))))))))))
        refine wk_iceq r207_48 ⟨by omega, by omega⟩ (by decide) ?_ ?_
        · intro h1517
          refine wk_c1 r207_57 (wk_goto r207_58 (wk_is7 r207_62 rfl (wk_il6 r207_64 ?_)))
          refine wk_ifeq r207_66 ⟨by omega, by omega⟩ ?_ ?_
          · intro h1518
            exfalso
            omega
          · intro h1519
            refine wk_il6 r207_69 (wk_c1 r207_71 ?_)
            refine wk_iceq r207_72 ⟨by omega, by omega⟩ (by decide) ?_ ?_
            · intro h1520
              exfalso
              omega
            · intro h1521
              refine wk_il6 r207_75 (wk_c2 r207_77 ?_)
              refine wk_icne r207_79 ⟨by omega, by omega⟩ (by decide) ?_ ?_
              · intro h1522
                refine wk_il7 r207_134 ?_
                refine wk_ifeq r207_136 (by decide) ?_ ?_
                · intro h1523
                  exfalso
                  omega
                · intro h1524
                  refine wk_il3 r207_139 (wk_c1 r207_140 ?_)
                  refine wk_icle r207_141 ⟨by omega, by omega⟩ (by decide) ?_ ?_
                  · intro h1525
                    refine wk_il7 r207_197 ?_
                    refine wk_ifne r207_199 (by decide) ?_ ?_
                    · intro h1526
                      refine wk_inc4 r207_249 rfl (wk_goto r207_252 ?_)
                      exact wp_fg (le_s (le_s (le_s (le_s (le_s (le_n (le_n (le_n (le_s (le_s le_0)))))))))) (ih1659 (256 - (v1484 + 1)).toNat (by omega) M1487 v1481 (v1484 + 1) rfl hP1488 hF1489 (by first | with_reducible assumption | omega) (by first | with_reducible assumption | omega) (by first | with_reducible assumption | omega) (by first | with_reducible assumption | omega) (by first | with_reducible assumption | omega) (by have q7 := okH_at ti1491 (by omega) (CL_at (by omega) (by have := (e1495).symm.trans (hF1489.at (g_c1 hC1) rfl); omega) ((hF1489.at (g_cs hC1 _) rfl).symm.trans e1511)); have q8 := q7.1; have q9 := q7.2.1; have q10 := q7.2.2.2.1; exfalso; clear q7; omega) (by have q7 := okH_at ti1491 (by omega) (CL_at (by omega) (by have := (e1495).symm.trans (hF1489.at (g_c1 hC1) rfl); omega) ((hF1489.at (g_cs hC1 _) rfl).symm.trans e1511)); have q8 := q7.1; have q9 := q7.2.1; have q10 := q7.2.2.2.1; exfalso; clear q7; omega) (by have q7 := okH_at ti1491 (by omega) (CL_at (by omega) (by have := (e1495).symm.trans (hF1489.at (g_c1 hC1) rfl); omega) ((hF1489.at (g_cs hC1 _) rfl).symm.trans e1511)); have q8 := q7.1; have q9 := q7.2.1; have q10 := q7.2.2.2.1; exfalso; clear q7; omega))
                    · intro h1527
                      exfalso
                      omega
                  · intro h1528
                    refine wk_inc3 r207_144 rfl (wk_al0 r207_147 (wk_getfr r207_148 fd_10_4 (br_10_4 hP1488) (wk_il3 r207_151 (wk_laldb r207_152 ar_12 ⟨by omega, by omega⟩ (fun q0 q1 => ba_12 hP1488 q0 q1) (by decide) ?_))))
                    intro n1529 h1531 h1532 e1530
                    refine wk_ls8 r207_153 rfl (wk_al0 r207_155 (wk_getfr r207_156 fd_10_4 (br_10_4 hP1488) (wk_il3 r207_159 (wk_c1 r207_160 (wk_isub r207_161 (wk_il6 r207_162 (wk_c1 r207_164 ?_)))))))
                    refine wk_icne r207_165 ⟨by omega, by omega⟩ (by decide) ?_ ?_
                    · intro h1533
                      exfalso
                      omega
                    · intro h1534
                      refine wk_al0 r207_168 (wk_getfr r207_169 fd_10_4 (br_10_4 hP1488) (wk_il3 r207_172 (wk_c1 r207_173 (wk_isub r207_174 (wk_laldb r207_175 ar_12 ⟨by omega, by omega⟩ (fun q0 q1 => ba_12 hP1488 q0 q1) (by decide) ?_)))))
                      intro n1535 h1537 h1538 e1536
                      refine wk_ll8 r207_176 (wk_land r207_178 ?_)
                      intro n1539 h1540 h1541 h1542 h1543
                      refine wk_goto r207_179 ?_
                      refine wk_last r207_193 ar_12 ⟨by omega, by omega⟩ (wk_nw (ga_12 _) rfl hP1488 hF1489 (ua_12 ⟨by omega, by omega⟩) ?_)
                      intro M1544 hP1545 hF1546 e1547
                      refine wk_goto r207_194 (wk_inc4 r207_249 rfl (wk_goto r207_252 ?_))
                      exact wp_fg (le_s (le_s (le_s (le_s (le_s (le_n (le_n (le_n (le_n (le_s le_0)))))))))) (ih1659 (256 - (v1484 + 1)).toNat (by omega) M1544 (v1481 + (-1)) (v1484 + 1) rfl hP1545 hF1546 (by first | with_reducible assumption | omega) (by first | with_reducible assumption | omega) (by first | with_reducible assumption | omega) (by first | with_reducible assumption | omega) (by first | with_reducible assumption | omega) (HTI_st ti1491 (by omega) (CL_at (by omega) (by have := (e1495).symm.trans (hF1489.at (g_c1 hC1) rfl); omega) ((hF1489.at (g_cs hC1 _) rfl).symm.trans e1511)) (by have := dlt_m (v := v1510) (by omega); omega)) (fun b hb => TWI_st (ti1492 b hb) (by omega) (CL_at (by omega) (by have := (e1495).symm.trans (hF1489.at (g_c1 hC1) rfl); omega) ((hF1489.at (g_cs hC1 _) rfl).symm.trans e1511)) (fun st hs hm => T_bin (f := fun x y => x && y) hs hm (by omega) (fun x y s2 => stV_2 (by omega)) (fun k q7 => by show M1544 12 k = M1487 12 k; rw [e1547, mUp_ne (Or.inr (by omega))]) (by show M1544 12 (v1481 - 1 - 1) = _; rw [show (v1481 - 1 - 1) = ((v1481 + (-1)) - 1) by omega]; exact mUp_at e1547) (by show (M1487 12 (v1481 - 1 - 1)).toNat = _; rw [show v1481 - 1 - 1 = ((v1481 + (-1)) - 1) by omega]; exact e1536) (by show (M1487 12 (v1481 - 1)).toNat = _; rw [show v1481 - 1 = (v1481 + (-1)) by omega]; exact e1530) (tb_and h1543 hb))) (fun a i q7 => by rw [e1547, mUp_ne (Or.inl q7)]; exact ti1493 a i q7))
              · intro h1548
                exfalso
                omega
        · intro h1549
          refine wk_il6 r207_51 (wk_c1 r207_53 ?_)
          refine wk_icne r207_54 ⟨by omega, by omega⟩ (by decide) ?_ ?_
          · intro h1550
            refine wk_c1 r207_61 (wk_is7 r207_62 rfl (wk_il6 r207_64 ?_))
            refine wk_ifeq r207_66 ⟨by omega, by omega⟩ ?_ ?_
            · intro h1551
              refine wk_al0 r207_82 (wk_getfr r207_83 fd_10_4 (br_10_4 hP1488) (wk_il3 r207_86 (wk_il6 r207_87 ?_)))
              refine wk_ifne r207_89 ⟨by omega, by omega⟩ ?_ ?_
              · intro h1552
                exfalso
                omega
              · intro h1553
                refine wk_al0 r207_92 (wk_getfr r207_93 fd_10_0 (br_10_0 hP1488) (wk_il5 r207_96 (wk_raldb r207_98 ar_16 ⟨by omega, by omega⟩ (fun q0 q1 => ba_16 hP1488 q0 q1) (wk_il2 r207_99 (wk_laldb r207_100 (arF_17 (by omega) (by omega)) ⟨by omega, by omega⟩ (fun q0 q1 => baF_17 hP1488 (by omega) (by omega) q0 q1) (by decide) ?_)))))
                intro n1554 h1556 h1557 e1555
                refine wk_goto r207_101 ?_
                refine wk_last r207_127 ar_12 ⟨by omega, by omega⟩ (wk_nw (ga_12 _) rfl hP1488 hF1489 (ua_12 ⟨by omega, by omega⟩) ?_)
                intro M1558 hP1559 hF1560 e1561
                refine wk_inc3 r207_128 rfl (wk_goto r207_131 (wk_inc4 r207_249 rfl (wk_goto r207_252 ?_)))
                exact wp_fg (le_s (le_s (le_s (le_s (le_s (le_n (le_n (le_n (le_s (le_s le_0)))))))))) (ih1659 (256 - (v1484 + 1)).toNat (by omega) M1558 (v1481 + 1) (v1484 + 1) rfl hP1559 hF1560 (by first | with_reducible assumption | omega) (by first | with_reducible assumption | omega) (by first | with_reducible assumption | omega) (by first | with_reducible assumption | omega) (by first | with_reducible assumption | omega) (HTI_st ti1491 (by omega) (CL_at (by omega) (by have := (e1495).symm.trans (hF1489.at (g_c1 hC1) rfl); omega) ((hF1489.at (g_cs hC1 _) rfl).symm.trans e1511)) (by have := dlt_1 (v := v1510) (by omega); omega)) (fun b hb => TWI_st (ti1492 b hb) (by omega) (CL_at (by omega) (by have := (e1495).symm.trans (hF1489.at (g_c1 hC1) rfl); omega) ((hF1489.at (g_cs hC1 _) rfl).symm.trans e1511)) (fun st hs hm => T_psh hs hm (stV_0 (by omega)) (fun k q7 => by show M1558 12 k = M1487 12 k; rw [e1561, mUp_ne (Or.inr (by omega))]) (by show M1558 12 v1481 = _; rw [show v1481 = v1481 by omega]; exact mUp_at e1561) (tb_rd (r := v1510 / 8) e1555 (by omega) ((show ∀ r : Int, 0 ≤ r → r ≤ 118 → M1487 (17 + r) p2 = M0 (17 + r) p2 from (fun r q0 q1 => hF1489.at (gr_17 (by omega) (by omega) _) rfl)) _ (by omega) (by omega)) b))) (fun a i q7 => by rw [e1561, mUp_ne (Or.inl q7)]; exact ti1493 a i q7))
            · intro h1562
              refine wk_il6 r207_69 (wk_c1 r207_71 ?_)
              refine wk_iceq r207_72 ⟨by omega, by omega⟩ (by decide) ?_ ?_
              · intro h1563
                refine wk_al0 r207_82 (wk_getfr r207_83 fd_10_4 (br_10_4 hP1488) (wk_il3 r207_86 (wk_il6 r207_87 ?_)))
                refine wk_ifne r207_89 ⟨by omega, by omega⟩ ?_ ?_
                · intro h1564
                  refine wk_il6 r207_104 (wk_c1 r207_106 ?_)
                  refine wk_icne r207_107 ⟨by omega, by omega⟩ (by decide) ?_ ?_
                  · intro h1565
                    exfalso
                    omega
                  · intro h1566
                    refine wk_al0 r207_110 (wk_il5 r207_111 (wk_il2 r207_113 (wk_cv3 r207_114 kc_10_185 rfl (n7185_10 _ M1487 (v1510 / 8) p2 hP1488 (by first | with_reducible assumption | omega) (by first | with_reducible assumption | omega) (by first | with_reducible assumption | omega) (by first | with_reducible assumption | omega) (by first | assumption | omega | (unfold stepok; omega))) (cqL ?_))))
                    rintro n1572 M1567 ⟨hP1568, hQ1569, h1573, xh1571⟩
                    obtain rfl := Fr.same hQ1569
                    refine wk_goto r207_117 ?_
                    refine wk_last r207_127 ar_12 ⟨by omega, by omega⟩ (wk_nw (ga_12 _) rfl hP1488 hF1489 (ua_12 ⟨by omega, by omega⟩) ?_)
                    intro M1574 hP1575 hF1576 e1577
                    refine wk_inc3 r207_128 rfl (wk_goto r207_131 (wk_inc4 r207_249 rfl (wk_goto r207_252 ?_)))
                    exact wp_fg (le_s (le_s (le_s (le_s (le_s (le_n (le_n (le_n (le_s (le_s le_0)))))))))) (ih1659 (256 - (v1484 + 1)).toNat (by omega) M1574 (v1481 + 1) (v1484 + 1) rfl hP1575 hF1576 (by first | with_reducible assumption | omega) (by first | with_reducible assumption | omega) (by first | with_reducible assumption | omega) (by first | with_reducible assumption | omega) (by first | with_reducible assumption | omega) (HTI_st ti1491 (by omega) (CL_at (by omega) (by have := (e1495).symm.trans (hF1489.at (g_c1 hC1) rfl); omega) ((hF1489.at (g_cs hC1 _) rfl).symm.trans e1511)) (by have := dlt_1 (v := v1510) (by omega); omega)) (fun b hb => TWI_st (ti1492 b hb) (by omega) (CL_at (by omega) (by have := (e1495).symm.trans (hF1489.at (g_c1 hC1) rfl); omega) ((hF1489.at (g_cs hC1 _) rfl).symm.trans e1511)) (fun st hs hm => T_psh hs hm (stV_5 (by omega)) (fun k q7 => by show M1574 12 k = M1487 12 k; rw [e1577, mUp_ne (Or.inr (by omega))]) (by show M1574 12 v1481 = _; rw [show v1481 = v1481 by omega]; exact mUp_at e1577) (by have q8 := xh1571 b hb; rw [show (v1510 / 8) = v1510 / 8 by omega] at q8; exact q8.trans (al_cg (fun r q0 q1 => hF1489.at (gr_17 (by omega) (by omega) _) rfl) (by omega) (by omega) (by omega) (by omega))))) (fun a i q7 => by rw [e1577, mUp_ne (Or.inl q7)]; exact ti1493 a i q7))
                · intro h1578
                  exfalso
                  omega
              · intro h1579
                refine wk_il6 r207_75 (wk_c2 r207_77 ?_)
                refine wk_icne r207_79 ⟨by omega, by omega⟩ (by decide) ?_ ?_
                · intro h1580
                  refine wk_il7 r207_134 ?_
                  refine wk_ifeq r207_136 (by decide) ?_ ?_
                  · intro h1581
                    refine wk_il7 r207_197 ?_
                    refine wk_ifne r207_199 (by decide) ?_ ?_
                    · intro h1582
                      exfalso
                      omega
                    · intro h1583
                      refine wk_il3 r207_202 ?_
                      refine wk_ifle r207_203 ⟨by omega, by omega⟩ ?_ ?_
                      · intro h1584
                        refine wk_inc4 r207_249 rfl (wk_goto r207_252 ?_)
                        exact wp_fg (le_s (le_s (le_s (le_s (le_s (le_n (le_n (le_n (le_s (le_s le_0)))))))))) (ih1659 (256 - (v1484 + 1)).toNat (by omega) M1487 v1481 (v1484 + 1) rfl hP1488 hF1489 (by first | with_reducible assumption | omega) (by first | with_reducible assumption | omega) (by first | with_reducible assumption | omega) (by first | with_reducible assumption | omega) (by first | with_reducible assumption | omega) (by have q7 := okH_at ti1491 (by omega) (CL_at (by omega) (by have := (e1495).symm.trans (hF1489.at (g_c1 hC1) rfl); omega) ((hF1489.at (g_cs hC1 _) rfl).symm.trans e1511)); have q8 := q7.1; have q9 := q7.2.1; have q10 := q7.2.2.2.1; exfalso; clear q7; omega) (by have q7 := okH_at ti1491 (by omega) (CL_at (by omega) (by have := (e1495).symm.trans (hF1489.at (g_c1 hC1) rfl); omega) ((hF1489.at (g_cs hC1 _) rfl).symm.trans e1511)); have q8 := q7.1; have q9 := q7.2.1; have q10 := q7.2.2.2.1; exfalso; clear q7; omega) (by have q7 := okH_at ti1491 (by omega) (CL_at (by omega) (by have := (e1495).symm.trans (hF1489.at (g_c1 hC1) rfl); omega) ((hF1489.at (g_cs hC1 _) rfl).symm.trans e1511)); have q8 := q7.1; have q9 := q7.2.1; have q10 := q7.2.2.2.1; exfalso; clear q7; omega))
                      · intro h1585
                        refine wk_al0 r207_206 (wk_getfr r207_207 fd_10_4 (br_10_4 hP1488) (wk_il3 r207_210 (wk_c1 r207_211 (wk_isub r207_212 (wk_laldb r207_213 ar_12 ⟨by omega, by omega⟩ (fun q0 q1 => ba_12 hP1488 q0 q1) (by decide) ?_)))))
                        intro n1586 h1588 h1589 e1587
                        refine wk_ls8 r207_214 rfl (wk_al0 r207_216 (wk_getfr r207_217 fd_10_4 (br_10_4 hP1488) (wk_il3 r207_220 (wk_c1 r207_221 (wk_isub r207_222 (wk_il6 r207_223 (wk_c1 r207_225 ?_)))))))
                        refine wk_icne r207_226 ⟨by omega, by omega⟩ (by decide) ?_ ?_
                        · intro h1590
                          have h1591 : (v1510 / 8) ≤ 6 := by omega
                          refine wk_al0 r207_238 (wk_il5 r207_239 (wk_c1 r207_241 (wk_ll8 r207_242 (wk_il2 r207_244 (wk_cv5 r207_245 kc_10_189 rfl (n7189_10 _ M1487 (v1510 / 8) (-1) n1586 p2 hP1488 (by first | with_reducible assumption | omega) (by first | with_reducible assumption | omega) (by decide) (by decide) (by omega) (by first | with_reducible assumption | omega) (by first | with_reducible assumption | omega)) (cqL ?_))))))
                          rintro n1597 M1592 ⟨hP1593, hQ1594, h1598, xh1596⟩
                          obtain rfl := Fr.same hQ1594
                          refine wk_last r207_248 ar_12 ⟨by omega, by omega⟩ (wk_nw (ga_12 _) rfl hP1488 hF1489 (ua_12 ⟨by omega, by omega⟩) ?_)
                          intro M1599 hP1600 hF1601 e1602
                          refine wk_inc4 r207_249 rfl (wk_goto r207_252 ?_)
                          exact wp_fg (le_s (le_s (le_s (le_s (le_s (le_n (le_n (le_n (le_n (le_s le_0)))))))))) (ih1659 (256 - (v1484 + 1)).toNat (by omega) M1599 v1481 (v1484 + 1) rfl hP1600 hF1601 (by first | with_reducible assumption | omega) (by first | with_reducible assumption | omega) (by first | with_reducible assumption | omega) (by first | with_reducible assumption | omega) (by first | with_reducible assumption | omega) (HTI_st ti1491 (by omega) (CL_at (by omega) (by have := (e1495).symm.trans (hF1489.at (g_c1 hC1) rfl); omega) ((hF1489.at (g_cs hC1 _) rfl).symm.trans e1511)) (by have := dlt_0 (v := v1510) (by omega); omega)) (fun b hb => TWI_st (ti1492 b hb) (by omega) (CL_at (by omega) (by have := (e1495).symm.trans (hF1489.at (g_c1 hC1) rfl); omega) ((hF1489.at (g_cs hC1 _) rfl).symm.trans e1511)) (fun st hs hm => T_un (f := fun x => tb M0 (17 + (v1510 / 8 * 5 + 4)) p2 b || (tb M0 (17 + 118) p2 b ^^ x ^^ tb M0 (17 + (88 + 2 * (v1510 / 8) + M0 11 (v1510 / 8))) p2 b)) hs hm (by omega) (fun x s2 => stV_4 (by omega)) (fun k q7 => by show M1599 12 k = M1487 12 k; rw [e1602, mUp_ne (Or.inr (by omega))]) (by show M1599 12 (v1481 - 1) = _; rw [show (v1481 - 1) = (v1481 - 1) by omega]; exact mUp_at e1602) (by show (M1487 12 (v1481 - 1)).toNat = _; exact e1587) (fun x q7 => by have q8 := xh1596 b hb; rw [if_pos rfl, q7, show (v1510 / 8) = v1510 / 8 by omega] at q8; exact q8.trans (sy_cg (fun r q0 q1 => hF1489.at (gr_17 (by omega) (by omega) _) rfl) (by have := hF1489.at (ga_11 (v1510 / 8)) rfl; exact this) (by omega) (by omega) (ba_11 hP0 (by omega) (by omega)))))) (fun a i q7 => by rw [e1602, mUp_ne (Or.inl q7)]; exact ti1493 a i q7))
                        · intro h1603
                          refine wk_ll8 r207_229 (wk_c7 r207_231 (wk_lxor r207_234 ?_))
                          intro n1604 h1605 h1606
                          refine wk_goto r207_235 ?_
                          refine wk_last r207_248 ar_12 ⟨by omega, by omega⟩ (wk_nw (ga_12 _) rfl hP1488 hF1489 (ua_12 ⟨by omega, by omega⟩) ?_)
                          intro M1607 hP1608 hF1609 e1610
                          refine wk_inc4 r207_249 rfl (wk_goto r207_252 ?_)
                          exact wp_fg (le_s (le_s (le_s (le_s (le_s (le_n (le_n (le_n (le_n (le_s le_0)))))))))) (ih1659 (256 - (v1484 + 1)).toNat (by omega) M1607 v1481 (v1484 + 1) rfl hP1608 hF1609 (by first | with_reducible assumption | omega) (by first | with_reducible assumption | omega) (by first | with_reducible assumption | omega) (by first | with_reducible assumption | omega) (by first | with_reducible assumption | omega) (HTI_st ti1491 (by omega) (CL_at (by omega) (by have := (e1495).symm.trans (hF1489.at (g_c1 hC1) rfl); omega) ((hF1489.at (g_cs hC1 _) rfl).symm.trans e1511)) (by have := dlt_0 (v := v1510) (by omega); omega)) (fun b hb => TWI_st (ti1492 b hb) (by omega) (CL_at (by omega) (by have := (e1495).symm.trans (hF1489.at (g_c1 hC1) rfl); omega) ((hF1489.at (g_cs hC1 _) rfl).symm.trans e1511)) (fun st hs hm => T_un (f := fun x => !x) hs hm (by omega) (fun x s2 => stV_1 (by omega)) (fun k q7 => by show M1607 12 k = M1487 12 k; rw [e1610, mUp_ne (Or.inr (by omega))]) (by show M1607 12 (v1481 - 1) = _; rw [show (v1481 - 1) = (v1481 - 1) by omega]; exact mUp_at e1610) (by show (M1487 12 (v1481 - 1)).toNat = _; exact e1587) (fun x q7 => by rw [tb_xor h1606 hb, tb_full hb, q7, Bool.xor_true]))) (fun a i q7 => by rw [e1610, mUp_ne (Or.inl q7)]; exact ti1493 a i q7))
                  · intro h1611
                    exfalso
                    omega
                · intro h1612
                  refine wk_al0 r207_82 (wk_getfr r207_83 fd_10_4 (br_10_4 hP1488) (wk_il3 r207_86 (wk_il6 r207_87 ?_)))
                  refine wk_ifne r207_89 ⟨by omega, by omega⟩ ?_ ?_
                  · intro h1613
                    refine wk_il6 r207_104 (wk_c1 r207_106 ?_)
                    refine wk_icne r207_107 ⟨by omega, by omega⟩ (by decide) ?_ ?_
                    · intro h1614
                      refine wk_al0 r207_120 (wk_il5 r207_121 (wk_il2 r207_123 (wk_cv3 r207_124 kc_10_198 rfl (n7198_10 _ M1487 (v1510 / 8) p2 hP1488 (by first | with_reducible assumption | omega) (by first | with_reducible assumption | omega) (by first | with_reducible assumption | omega) (by first | with_reducible assumption | omega)) (cqL ?_))))
                      rintro n1620 M1615 ⟨hP1616, hQ1617, h1621, xh1619⟩
                      obtain rfl := Fr.same hQ1617
                      refine wk_last r207_127 ar_12 ⟨by omega, by omega⟩ (wk_nw (ga_12 _) rfl hP1488 hF1489 (ua_12 ⟨by omega, by omega⟩) ?_)
                      intro M1622 hP1623 hF1624 e1625
                      refine wk_inc3 r207_128 rfl (wk_goto r207_131 (wk_inc4 r207_249 rfl (wk_goto r207_252 ?_)))
                      exact wp_fg (le_s (le_s (le_s (le_s (le_s (le_n (le_n (le_n (le_s (le_s le_0)))))))))) (ih1659 (256 - (v1484 + 1)).toNat (by omega) M1622 (v1481 + 1) (v1484 + 1) rfl hP1623 hF1624 (by first | with_reducible assumption | omega) (by first | with_reducible assumption | omega) (by first | with_reducible assumption | omega) (by first | with_reducible assumption | omega) (by first | with_reducible assumption | omega) (HTI_st ti1491 (by omega) (CL_at (by omega) (by have := (e1495).symm.trans (hF1489.at (g_c1 hC1) rfl); omega) ((hF1489.at (g_cs hC1 _) rfl).symm.trans e1511)) (by have := dlt_1 (v := v1510) (by omega); omega)) (fun b hb => TWI_st (ti1492 b hb) (by omega) (CL_at (by omega) (by have := (e1495).symm.trans (hF1489.at (g_c1 hC1) rfl); omega) ((hF1489.at (g_cs hC1 _) rfl).symm.trans e1511)) (fun st hs hm => T_psh hs hm (stV_6 (by omega)) (fun k q7 => by show M1622 12 k = M1487 12 k; rw [e1625, mUp_ne (Or.inr (by omega))]) (by show M1622 12 v1481 = _; rw [show v1481 = v1481 by omega]; exact mUp_at e1625) (by have q8 := xh1619 b hb; rw [show (v1510 / 8) = v1510 / 8 by omega] at q8; exact q8.trans (mn_cg (fun r q0 q1 => hF1489.at (gr_17 (by omega) (by omega) _) rfl) (by omega) (by omega))))) (fun a i q7 => by rw [e1625, mUp_ne (Or.inl q7)]; exact ti1493 a i q7))
                    · intro h1626
                      exfalso
                      omega
                  · intro h1627
                    exfalso
                    omega
          · intro h1628
            refine wk_c1 r207_57 (wk_goto r207_58 (wk_is7 r207_62 rfl (wk_il6 r207_64 ?_)))
            refine wk_ifeq r207_66 ⟨by omega, by omega⟩ ?_ ?_
            · intro h1629
              exfalso
              omega
            · intro h1630
              refine wk_il6 r207_69 (wk_c1 r207_71 ?_)
              refine wk_iceq r207_72 ⟨by omega, by omega⟩ (by decide) ?_ ?_
              · intro h1631
                exfalso
                omega
              · intro h1632
                refine wk_il6 r207_75 (wk_c2 r207_77 ?_)
                refine wk_icne r207_79 ⟨by omega, by omega⟩ (by decide) ?_ ?_
                · intro h1633
                  refine wk_il7 r207_134 ?_
                  refine wk_ifeq r207_136 (by decide) ?_ ?_
                  · intro h1634
                    exfalso
                    omega
                  · intro h1635
                    refine wk_il3 r207_139 (wk_c1 r207_140 ?_)
                    refine wk_icle r207_141 ⟨by omega, by omega⟩ (by decide) ?_ ?_
                    · intro h1636
                      refine wk_il7 r207_197 ?_
                      refine wk_ifne r207_199 (by decide) ?_ ?_
                      · intro h1637
                        refine wk_inc4 r207_249 rfl (wk_goto r207_252 ?_)
                        exact wp_fg (le_s (le_s (le_s (le_s (le_s (le_n (le_n (le_n (le_s (le_s le_0)))))))))) (ih1659 (256 - (v1484 + 1)).toNat (by omega) M1487 v1481 (v1484 + 1) rfl hP1488 hF1489 (by first | with_reducible assumption | omega) (by first | with_reducible assumption | omega) (by first | with_reducible assumption | omega) (by first | with_reducible assumption | omega) (by first | with_reducible assumption | omega) (by have q7 := okH_at ti1491 (by omega) (CL_at (by omega) (by have := (e1495).symm.trans (hF1489.at (g_c1 hC1) rfl); omega) ((hF1489.at (g_cs hC1 _) rfl).symm.trans e1511)); have q8 := q7.1; have q9 := q7.2.1; have q10 := q7.2.2.2.1; exfalso; clear q7; omega) (by have q7 := okH_at ti1491 (by omega) (CL_at (by omega) (by have := (e1495).symm.trans (hF1489.at (g_c1 hC1) rfl); omega) ((hF1489.at (g_cs hC1 _) rfl).symm.trans e1511)); have q8 := q7.1; have q9 := q7.2.1; have q10 := q7.2.2.2.1; exfalso; clear q7; omega) (by have q7 := okH_at ti1491 (by omega) (CL_at (by omega) (by have := (e1495).symm.trans (hF1489.at (g_c1 hC1) rfl); omega) ((hF1489.at (g_cs hC1 _) rfl).symm.trans e1511)); have q8 := q7.1; have q9 := q7.2.1; have q10 := q7.2.2.2.1; exfalso; clear q7; omega))
                      · intro h1638
                        exfalso
                        omega
                    · intro h1639
                      refine wk_inc3 r207_144 rfl (wk_al0 r207_147 (wk_getfr r207_148 fd_10_4 (br_10_4 hP1488) (wk_il3 r207_151 (wk_laldb r207_152 ar_12 ⟨by omega, by omega⟩ (fun q0 q1 => ba_12 hP1488 q0 q1) (by decide) ?_))))
                      intro n1640 h1642 h1643 e1641
                      refine wk_ls8 r207_153 rfl (wk_al0 r207_155 (wk_getfr r207_156 fd_10_4 (br_10_4 hP1488) (wk_il3 r207_159 (wk_c1 r207_160 (wk_isub r207_161 (wk_il6 r207_162 (wk_c1 r207_164 ?_)))))))
                      refine wk_icne r207_165 ⟨by omega, by omega⟩ (by decide) ?_ ?_
                      · intro h1644
                        refine wk_al0 r207_182 (wk_getfr r207_183 fd_10_4 (br_10_4 hP1488) (wk_il3 r207_186 (wk_c1 r207_187 (wk_isub r207_188 (wk_laldb r207_189 ar_12 ⟨by omega, by omega⟩ (fun q0 q1 => ba_12 hP1488 q0 q1) (by decide) ?_)))))
                        intro n1645 h1647 h1648 e1646
                        refine wk_ll8 r207_190 (wk_lorb r207_192 ?_)
                        intro n1649 h1650 h1651 h1652
                        refine wk_last r207_193 ar_12 ⟨by omega, by omega⟩ (wk_nw (ga_12 _) rfl hP1488 hF1489 (ua_12 ⟨by omega, by omega⟩) ?_)
                        intro M1653 hP1654 hF1655 e1656
                        refine wk_goto r207_194 (wk_inc4 r207_249 rfl (wk_goto r207_252 ?_))
                        exact wp_fg (le_s (le_s (le_s (le_s (le_s (le_n (le_n (le_n (le_n (le_s le_0)))))))))) (ih1659 (256 - (v1484 + 1)).toNat (by omega) M1653 (v1481 + (-1)) (v1484 + 1) rfl hP1654 hF1655 (by first | with_reducible assumption | omega) (by first | with_reducible assumption | omega) (by first | with_reducible assumption | omega) (by first | with_reducible assumption | omega) (by first | with_reducible assumption | omega) (HTI_st ti1491 (by omega) (CL_at (by omega) (by have := (e1495).symm.trans (hF1489.at (g_c1 hC1) rfl); omega) ((hF1489.at (g_cs hC1 _) rfl).symm.trans e1511)) (by have := dlt_m (v := v1510) (by omega); omega)) (fun b hb => TWI_st (ti1492 b hb) (by omega) (CL_at (by omega) (by have := (e1495).symm.trans (hF1489.at (g_c1 hC1) rfl); omega) ((hF1489.at (g_cs hC1 _) rfl).symm.trans e1511)) (fun st hs hm => T_bin (f := fun x y => x || y) hs hm (by omega) (fun x y s2 => stV_3 (by omega)) (fun k q7 => by show M1653 12 k = M1487 12 k; rw [e1656, mUp_ne (Or.inr (by omega))]) (by show M1653 12 (v1481 - 1 - 1) = _; rw [show (v1481 - 1 - 1) = ((v1481 + (-1)) - 1) by omega]; exact mUp_at e1656) (by show (M1487 12 (v1481 - 1 - 1)).toNat = _; rw [show v1481 - 1 - 1 = ((v1481 + (-1)) - 1) by omega]; exact e1646) (by show (M1487 12 (v1481 - 1)).toNat = _; rw [show v1481 - 1 = (v1481 + (-1)) by omega]; exact e1641) (tb_or h1651 hb))) (fun a i q7 => by rw [e1656, mUp_ne (Or.inl q7)]; exact ti1493 a i q7))
                      · intro h1657
                        exfalso
                        omega
                · intro h1658
                  exfalso
                  omega
  exact wp_fg (le_s (le_s (le_s (le_s (le_s (le_s (le_s (le_s (le_s (le_s le_0)))))))))) (c5_1659 _ M0 0 0 rfl hP0 hF0 (by first | with_reducible assumption | omega) (by first | with_reducible assumption | omega) (by first | with_reducible assumption | omega) (by first | with_reducible assumption | omega) (by first | with_reducible assumption | omega) (HTI_0 xp0) (fun b _ => TWI_0 _ _ _ _) (fun _ _ _ => rfl))
def fm_n7196_10_f17 : Nat := 4740813226943354765312
/-- IslandHall$Realm.judge -/
theorem n7196_10_f17 {B : eB} (d : Nat) (M0 : Mm) (c1 : Int) (a2 : Int) (hP0 : Pw M0) (hC1 : isC c1) (ha2 : 17 ≤ a2) (hb2 : a2 ≤ 135) (xp0 : okH 30 (CL M0 c1) 0) : Ct B (d + 4) 196 [R 10, R c1, R a2] M0 (qV fun M => Pw M ∧ Fr fm_n7196_10_f17 M0 M ∧ (∀ (j : Int) (b : Nat) (x : Bool), 0 ≤ j → j < M0 10 10 → b < 64 → runF (stV M0 17 11 j b) (CL M0 c1) [] = [x] → tb M a2 j b = x) ∧ (∀ a i : Int, a ≠ 12 → (a ≠ a2 ∨ M0 10 10 ≤ i) → M a i = M0 a i)) := by
  refine ct_of (d := d + 3) (k := 1) (L := [some (R 10), some (R c1), some (R a2), none]) rfl rfl rfl ?_
  have hF0 := Fr.rf fm_n7196_10_f17 M0
  generalize hQ : (qV fun M => Pw M ∧ Fr fm_n7196_10_f17 M0 M ∧ (∀ (j : Int) (b : Nat) (x : Bool), 0 ≤ j → j < M0 10 10 → b < 64 → runF (stV M0 17 11 j b) (CL M0 c1) [] = [x] → tb M a2 j b = x) ∧ (∀ a i : Int, a ≠ 12 → (a ≠ a2 ∨ M0 10 10 ≤ i) → M a i = M0 a i)) = Q
  have hst9 : ∀ x ∈ CL M0 c1, stepok x := CL_st hP0 hC1 (bC_1 hP0 hC1).2
  have hcr : c1 = 4 ∨ 679 ≤ c1 := by have := hC1; unfold isC at this; omega
  refine wk_c1 r196_0 (wk_is3 r196_1 rfl ?_)
  have c2_261 : ∀ (k261 : Nat) (M238 : Mm) (v235 : Int), (47 - v235).toNat = k261 → Pw M238 → Fr fm_n7196_10_f17 M0 M238 → 0 ≤ v235 → v235 ≤ 47 → (∀ a i : Int, a ≠ 12 → (a ≠ a2 ∨ M0 10 10 ≤ i ∨ v235 ≤ i) → M238 a i = M0 a i) → (∀ (j : Int) (b : Nat) (x : Bool), 0 ≤ j → j < v235 → b < 64 → runF (stV M0 17 11 j b) (CL M0 c1) [] = [x] → tb M238 a2 j b = x) → Wp B (d + 3) 196 2 [some (R 10), some (R c1), some (R a2), some (I v235)] [] M238 Q := by
    refine lp_ind ?_
    intro k261 ih261 M238 v235 hk261 hP239 hF240 h236 h237 ti241 ti242
    refine wk_il3 r196_2 (wk_al0 r196_3 (wk_getfb r196_4 fd_10_10 (bf_10_10 hP239) ?_))
    intro v243 h245 h246 e244
    refine wk_icge r196_7 ⟨by omega, by omega⟩ ⟨by omega, by omega⟩ ?_ ?_
    · intro h247
      subst hQ; exact wk_ret r196_25 (⟨rfl, hP239, hF240, fun j b x q0 q1 => ti242 j b x q0 (by have hw := (ti241 10 10 (by omega) (Or.inl (by omega))).symm.trans e244; omega), fun a i q0 q1 => ti241 a i q0 (q1.elim Or.inl (fun q => Or.inr (Or.inl q)))⟩)
    · intro h248
      refine wk_al2 r196_10 (wk_il3 r196_11 (wk_al0 r196_12 (wk_al1 r196_13 (wk_il3 r196_14 (wk_cv3 r196_15 kc_10_207 rfl (n7207_10 _ M238 c1 v235 hP239 hC1 (by first | with_reducible assumption | omega) (by first | with_reducible assumption | omega) ((by rw [(CL_cg (ti241 c1 1 (by omega) (Or.inl (by omega))) (fun k => ti241 (c1 + 1) k (by omega) (Or.inl (by omega))))]; exact xp0))) (cqL ?_))))))
      rintro n255 M249 ⟨hP250, hQ251, h256, xh253, xh254⟩
      have hF252 : Fr fm_n7196_10_f17 M0 M249 := hF240.tr hQ251 rfl
      refine wk_last r196_18 (arF_17 (by omega) (by omega)) ⟨by omega, by omega⟩ (wk_nw (gr_17 (by omega) (by omega) _) rfl hP250 hF252 (uaF_17 (by omega) (by omega) ⟨by omega, by omega⟩) ?_)
      intro M257 hP258 hF259 e260
      refine wk_inc3 r196_19 rfl (wk_goto r196_22 ?_)
      exact wp_fg (le_s (le_s (le_s (le_s le_0)))) (ih261 (47 - (v235 + 1)).toNat (by omega) M257 (v235 + 1) rfl hP258 hF259 (by first | with_reducible assumption | omega) (by first | with_reducible assumption | omega) (fun a i q0 q1 => by have hw := (ti241 10 10 (by omega) (Or.inl (by omega))).symm.trans e244; rw [e260, mUp_ne (show a ≠ a2 ∨ i ≠ v235 by omega)]; exact (xh254 a i q0).trans (ti241 a i q0 (by omega))) (fun j b x q0 q1 hb hx => (Int.lt_or_le j v235).elim (fun q => (show tb M257 a2 j b = tb M238 a2 j b by unfold tb; rw [show M257 a2 j = M238 a2 j by rw [e260, mUp_ne (Or.inr (by omega))]; exact xh254 a2 j (by omega)]).trans (ti242 j b x q0 q hb hx)) (fun q => (tb_up (show M257 a2 j = _ by rw [show j = v235 by omega]; exact mUp_at e260) b).trans (xh253 b x hb (by rw [(CL_cg (ti241 c1 1 (by omega) (Or.inl (by omega))) (fun k => ti241 (c1 + 1) k (by omega) (Or.inl (by omega)))), show v235 = j by omega]; exact (run_cg hst9 (fun r q2 q3 => ti241 (17 + r) j (by omega) (Or.inr (Or.inr (by omega)))) (fun i q2 q3 => ti241 11 i (by omega) (Or.inl (by omega))) (fun i q2 q3 => ba_11 hP0 q2 (by omega))).trans hx)))))
  exact wp_fg (le_s (le_s (le_s (le_s le_0)))) (c2_261 _ M0 0 rfl hP0 hF0 (by first | with_reducible assumption | omega) (by first | with_reducible assumption | omega) (fun _ _ _ _ => rfl) (fun j b x q0 q1 => absurd q1 (by omega)))
