
def fm_n7196_10_f155 : Nat := 77371270902080340890746880
/-- IslandHall$Realm.judge -/
theorem n7196_10_f155 {B : eB} (d : Nat) (M0 : Mm) (c1 : Int) (a2 : Int) (hP0 : Pw M0) (hC1 : isC c1) (ha2 : 155 ≤ a2) (hb2 : a2 ≤ 167) (xp0 : okH 30 (CL M0 c1) 0) : Ct B (d + 4) 196 [R 10, R c1, R a2] M0 (qV fun M => Pw M ∧ Fr fm_n7196_10_f155 M0 M ∧ (∀ (j : Int) (b : Nat) (x : Bool), 0 ≤ j → j < M0 10 10 → b < 64 → runF (stV M0 17 11 j b) (CL M0 c1) [] = [x] → tb M a2 j b = x) ∧ (∀ a i : Int, a ≠ 12 → (a ≠ a2 ∨ M0 10 10 ≤ i) → M a i = M0 a i)) := by
  refine ct_of (d := d + 3) (k := 1) (L := [some (R 10), some (R c1), some (R a2), none]) rfl rfl rfl ?_
  have hF0 := Fr.rf fm_n7196_10_f155 M0
  generalize hQ : (qV fun M => Pw M ∧ Fr fm_n7196_10_f155 M0 M ∧ (∀ (j : Int) (b : Nat) (x : Bool), 0 ≤ j → j < M0 10 10 → b < 64 → runF (stV M0 17 11 j b) (CL M0 c1) [] = [x] → tb M a2 j b = x) ∧ (∀ a i : Int, a ≠ 12 → (a ≠ a2 ∨ M0 10 10 ≤ i) → M a i = M0 a i)) = Q
  have hst9 : ∀ x ∈ CL M0 c1, stepok x := CL_st hP0 hC1 (bC_1 hP0 hC1).2
  have hcr : c1 = 4 ∨ 679 ≤ c1 := by have := hC1; unfold isC at this; omega
  refine wk_c1 r196_0 (wk_is3 r196_1 rfl ?_)
  have c2_261 : ∀ (k261 : Nat) (M238 : Mm) (v235 : Int), (47 - v235).toNat = k261 → Pw M238 → Fr fm_n7196_10_f155 M0 M238 → 0 ≤ v235 → v235 ≤ 47 → (∀ a i : Int, a ≠ 12 → (a ≠ a2 ∨ M0 10 10 ≤ i ∨ v235 ≤ i) → M238 a i = M0 a i) → (∀ (j : Int) (b : Nat) (x : Bool), 0 ≤ j → j < v235 → b < 64 → runF (stV M0 17 11 j b) (CL M0 c1) [] = [x] → tb M238 a2 j b = x) → Wp B (d + 3) 196 2 [some (R 10), some (R c1), some (R a2), some (I v235)] [] M238 Q := by
    refine lp_ind ?_
    intro k261 ih261 M238 v235 hk261 hP239 hF240 h236 h237 ti241 ti242
    refine wk_il3 r196_2 (wk_al0 r196_3 (wk_getfb r196_4 fd_10_10 (bf_10_10 hP239) ?_))
    intro v243 h245 h246 e244
    refine wk_icge r196_7 ⟨by omega, by omega⟩ ⟨by omega, by omega⟩ ?_ ?_
    · intro h247
      subst hQ; exact wk_ret r196_25 (⟨rfl, hP239, hF240, fun j b x q0 q1 => ti242 j b x q0 (by have hw := (ti241 10 10 (by omega) (Or.inl (by omega))).symm.trans e244; omega), fun a i q0 q1 => ti241 a i q0 (q1.elim Or.inl (fun q => Or.inr (Or.inl q)))⟩)
    · intro h248
      refine wk_al2 r196_10 (wk_il3 r196_11 (wk_al0 r196_12 (wk_al1 r196_13 (wk_il3 r196_14 (wk_cv3 r196_15 kc_10_207 rfl (n7207_10 _ M238 c1 v235 hP239 hC1 (by first | with_reducible assumption | omega) (by first | with_reducible assumption | omega) ((by rw [(CL_cg (ti241 c1 1 (by omega) (Or.inl (by omega))) (fun k => ti241 (c1 + 1) k (by omega) (Or.inl (by omega))))]; exact xp0))) (cqL ?_))))))
      rintro n255 M249 ⟨hP250, hQ251, h256, xh253, xh254⟩
      have hF252 : Fr fm_n7196_10_f155 M0 M249 := hF240.tr hQ251 rfl
      refine wk_last r196_18 (arF_155 (by omega) (by omega)) ⟨by omega, by omega⟩ (wk_nw (gr_155 (by omega) (by omega) _) rfl hP250 hF252 (uaF_155 (by omega) (by omega) ⟨by omega, by omega⟩) ?_)
      intro M257 hP258 hF259 e260
      refine wk_inc3 r196_19 rfl (wk_goto r196_22 ?_)
      exact wp_fg (le_s (le_s (le_s (le_s le_0)))) (ih261 (47 - (v235 + 1)).toNat (by omega) M257 (v235 + 1) rfl hP258 hF259 (by first | with_reducible assumption | omega) (by first | with_reducible assumption | omega) (fun a i q0 q1 => by have hw := (ti241 10 10 (by omega) (Or.inl (by omega))).symm.trans e244; rw [e260, mUp_ne (show a ≠ a2 ∨ i ≠ v235 by omega)]; exact (xh254 a i q0).trans (ti241 a i q0 (by omega))) (fun j b x q0 q1 hb hx => (Int.lt_or_le j v235).elim (fun q => (show tb M257 a2 j b = tb M238 a2 j b by unfold tb; rw [show M257 a2 j = M238 a2 j by rw [e260, mUp_ne (Or.inr (by omega))]; exact xh254 a2 j (by omega)]).trans (ti242 j b x q0 q hb hx)) (fun q => (tb_up (show M257 a2 j = _ by rw [show j = v235 by omega]; exact mUp_at e260) b).trans (xh253 b x hb (by rw [(CL_cg (ti241 c1 1 (by omega) (Or.inl (by omega))) (fun k => ti241 (c1 + 1) k (by omega) (Or.inl (by omega)))), show v235 = j by omega]; exact (run_cg hst9 (fun r q2 q3 => ti241 (17 + r) j (by omega) (Or.inr (Or.inr (by omega)))) (fun i q2 q3 => ti241 11 i (by omega) (Or.inl (by omega))) (fun i q2 q3 => ba_11 hP0 q2 (by omega))).trans hx)))))
  exact wp_fg (le_s (le_s (le_s (le_s le_0)))) (c2_261 _ M0 0 rfl hP0 hF0 (by first | with_reducible assumption | omega) (by first | with_reducible assumption | omega) (fun _ _ _ _ => rfl) (fun j b x q0 q1 => absurd q1 (by omega)))
def fm_n7200_10 : Nat := 9223372036854775808
/-- IslandHall$Realm.pass -/
theorem n7200_10 {B : eB} (d : Nat) (M0 : Mm) (p1 : Int) (hP0 : Pw M0) (l1 : 0 ≤ p1) (u1 : p1 ≤ 6) : Ct B (d + 1) 200 [R 10, I p1] M0 (qV fun M => Pw M ∧ Fr fm_n7200_10 M0 M ∧ ((∀ k : Int, M 11 k = if k = p1 then 1 - M0 11 k else M0 11 k) ∧ ∀ a i : Int, (a ≠ 11 ∨ i ≠ p1) → M a i = M0 a i)) := by
  refine ct_of (d := d + 0) (k := 0) (L := [some (R 10), some (I p1)]) rfl rfl rfl ?_
  have hF0 := Fr.rf fm_n7200_10 M0
  generalize hQ : (qV fun M => Pw M ∧ Fr fm_n7200_10 M0 M ∧ ((∀ k : Int, M 11 k = if k = p1 then 1 - M0 11 k else M0 11 k) ∧ ∀ a i : Int, (a ≠ 11 ∨ i ≠ p1) → M a i = M0 a i)) = Q
  refine wk_al0 r200_0 (wk_getfr r200_1 fd_10_3 (br_10_3 hP0) (wk_il1 r200_4 (wk_dup2 r200_5 (wk_ialdb r200_6 ar_11 ⟨by omega, by omega⟩ (fun q0 q1 => ba_11 hP0 q0 q1) ?_))))
  intro v1 h3 h4 e2
  refine wk_c1 r200_7 (wk_ixor 1 2 r200_8 (by decide) ⟨by omega, by omega⟩ ⟨by omega, by omega⟩ ?_)
  intro v5 h6 h7 h8
  refine wk_iast r200_9 ar_11 ⟨by omega, by omega⟩ (wk_nw (ga_11 _) rfl hP0 hF0 (ua_11 ⟨by omega, by omega⟩) ?_)
  intro M9 hP10 hF11 e12
  subst hQ; exact wk_ret r200_10 (⟨rfl, hP10, hF11, ⟨fun k => by rw [e12]; by_cases q : k = p1; (rw [if_pos q, q, mUp_eq, e2]; have := h8; have hb := ba_11 hP0 (i := p1) (by omega) (by omega); rw [e2] at hb; exact xor_1 hb this); (rw [if_neg q, mUp_ne (Or.inr q)]), fun a i q => by rw [e12, mUp_ne q]⟩⟩)
def fm_n7208_10v1 : Nat := 0
/-- IslandHall$Realm.yesRow -/
theorem n7208_10v1 {B : eB} (d : Nat) (M0 : Mm) (p1 : Int) (hP0 : Pw M0) (l1 : (-1) ≤ p1) (u1 : p1 ≤ 1) : Ct B (d + 1) 208 [R 10, I p1] M0 (qR fun z M => Pw M ∧ Fr fm_n7208_10v1 M0 M ∧ 63 ≤ z ∧ z ≤ 135 ∧ ((p1 = -1 ∧ z = 17 + 118) ∨ (p1 ≠ -1 ∧ z = 17 + (46 + p1)))) := by
  refine ct_of (d := d + 0) (k := 0) (L := [some (R 10), some (I p1)]) rfl rfl rfl ?_
  have hF0 := Fr.rf fm_n7208_10v1 M0
  generalize hQ : (qR fun z M => Pw M ∧ Fr fm_n7208_10v1 M0 M ∧ 63 ≤ z ∧ z ≤ 135 ∧ ((p1 = -1 ∧ z = 17 + 118) ∨ (p1 ≠ -1 ∧ z = 17 + (46 + p1)))) = Q
  refine wk_al0 r208_0 (wk_getfr r208_1 fd_10_0 (br_10_0 hP0) (wk_il1 r208_4 (wk_c1 r208_5 ?_)))
  refine wk_icne r208_6 ⟨by omega, by omega⟩ (by decide) ?_ ?_
  · intro h1
    refine wk_c2 r208_14 (wk_il1 r208_16 (wk_iadd r208_17 (wk_raldb r208_18 ar_16 ⟨by omega, by omega⟩ (fun q0 q1 => ba_16 hP0 q0 q1) ?_)))
    subst hQ; exact wk_aret r208_19 (⟨rfl, _, rfl, hP0, hF0, by omega, by omega, by omega⟩)
  · intro h2
    refine wk_c2 r208_9 (wk_goto r208_11 (wk_raldb r208_18 ar_16 (by decide) (fun q0 q1 => ba_16 hP0 q0 q1) ?_))
    subst hQ; exact wk_aret r208_19 (⟨rfl, _, rfl, hP0, hF0, by omega, by omega, by omega⟩)
def fm_n7189_10v9 : Nat := 0
/-- IslandHall$Realm.fits -/
theorem n7189_10v9 {B : eB} (d : Nat) (M0 : Mm) (p1 : Int) (p2 : Int) (p3 : Nat) (p4 : Int) (hP0 : Pw M0) (l1 : 0 ≤ p1) (u1 : p1 ≤ 6) (l2 : (-1) ≤ p2) (u2 : p2 ≤ 1) (l3 : p3 < 18446744073709551616) (l4 : 0 ≤ p4) (u4 : p4 ≤ 46) : Ct B (d + 2) 189 [R 10, I p1, I p2, J p3, I p4] M0 (qL fun z M => Pw M ∧ Fr fm_n7189_10v9 M0 M ∧ z < 18446744073709551616 ∧ (∀ b : Nat, b < 64 → Nat.testBit z b = (tb M0 (17 + (p1 * 5 + 4)) p4 b || (tb M0 (if p2 = -1 then (17 : Int) + 118 else 17 + (46 + p2)) p4 b ^^ Nat.testBit p3 b ^^ tb M0 (17 + (88 + 2 * p1 + M0 11 p1)) p4 b)))) := by
  refine ct_of (d := d + 1) (k := 0) (L := [some (R 10), some (I p1), some (I p2), some (J p3), none, some (I p4)]) rfl rfl rfl ?_
  have hF0 := Fr.rf fm_n7189_10v9 M0
  generalize hQ : (qL fun z M => Pw M ∧ Fr fm_n7189_10v9 M0 M ∧ z < 18446744073709551616 ∧ (∀ b : Nat, b < 64 → Nat.testBit z b = (tb M0 (17 + (p1 * 5 + 4)) p4 b || (tb M0 (if p2 = -1 then (17 : Int) + 118 else 17 + (46 + p2)) p4 b ^^ Nat.testBit p3 b ^^ tb M0 (17 + (88 + 2 * p1 + M0 11 p1)) p4 b)))) = Q
  refine wk_al0 r189_0 (wk_il1 r189_1 (wk_cv2 r189_2 kc_10_190 rfl (n7190_10 _ M0 p1 hP0 (by first | with_reducible assumption | omega) (by first | with_reducible assumption | omega)) (cqR ?_)))
  rintro v6 M1 ⟨hP2, hQ3, h7, h8, xh5⟩
  obtain rfl := Fr.same hQ3
  refine wk_il5 r189_5 (wk_laldb r189_7 (arF_17 (by omega) (by omega)) ⟨by omega, by omega⟩ (fun q0 q1 => baF_17 hP0 (by omega) (by omega) q0 q1) (by decide) ?_)
  intro n9 h11 h12 e10
  refine wk_al0 r189_8 (wk_il2 r189_9 (wk_cv2 r189_10 kc_10_208 rfl (n7208_10v1 _ M0 p2 hP0 (by first | with_reducible assumption | omega) (by first | with_reducible assumption | omega)) (cqR ?_)))
  rintro v18 M13 ⟨hP14, hQ15, h19, h20, xh17⟩
  obtain rfl := Fr.same hQ15
  refine wk_il5 r189_13 (wk_laldb r189_15 (arF_17 (by omega) (by omega)) ⟨by omega, by omega⟩ (fun q0 q1 => baF_17 hP0 (by omega) (by omega) q0 q1) (by decide) ?_)
  intro n21 h23 h24 e22
  refine wk_ll3 r189_16 (wk_lxor r189_17 ?_)
  intro n25 h26 h27
  refine wk_al0 r189_18 (wk_il1 r189_19 (wk_cv2 r189_20 kc_10_193 rfl (n7193_10 _ M0 p1 hP0 (by first | with_reducible assumption | omega) (by first | with_reducible assumption | omega)) (cqR ?_)))
  rintro v33 M28 ⟨hP29, hQ30, h34, h35, xh32⟩
  obtain rfl := Fr.same hQ30
  refine wk_il5 r189_23 (wk_laldb r189_25 (arF_17 (by omega) (by omega)) ⟨by omega, by omega⟩ (fun q0 q1 => baF_17 hP0 (by omega) (by omega) q0 q1) (by decide) ?_)
  intro n36 h38 h39 e37
  refine wk_lxor r189_26 ?_
  intro n40 h41 h42
  refine wk_lorb r189_27 ?_
  intro n43 h44 h45 h46
  subst hQ; exact wk_lret r189_28 (⟨rfl, _, rfl, hP0, hF0, by omega, fun b hb => by rw [tb_or h45 hb, tb_xor h42 hb, tb_xor h27 hb, show 17 + (p1 * 5 + 4) = v6 by omega, tb_el e10, show (if p2 = -1 then (17 : Int) + 118 else 17 + (46 + p2)) = v18 by rcases xh17 with ⟨q, q2⟩ | ⟨q, q2⟩ <;> first | rw [if_pos q]; omega | rw [if_neg q]; omega, tb_el e22, show 17 + (88 + 2 * p1 + M0 11 p1) = v33 by omega, tb_el e37]⟩)
def fm_n7224_138 : Nat := 100345593064613201710153728
/-- IslandHall$Tale.add -/
theorem n7224_138 {B : eB} (d : Nat) (M0 : Mm) (p1 : Int) (c2 : Int) (p3 : Int) (x138_5 : Int) (x10_10 : Int) (hP0 : Pw M0) (l1 : 0 ≤ p1) (u1 : p1 ≤ 6) (hC2 : isC c2) (l3 : (-1) ≤ p3) (u3 : p3 ≤ 1) (ex138_5 : M0 138 5 = x138_5) (lx138_5 : 0 ≤ x138_5) (ux138_5 : x138_5 ≤ 11) (ex10_10 : M0 10 10 = x10_10) (lx10_10 : 0 ≤ x10_10) (ux10_10 : x10_10 ≤ 47) (xp0 : okH 30 (CL M0 c2) 0) : Ct B (d + 5) 224 [R 138, I p1, R c2, I p3] M0 (qI fun z M => Pw M ∧ Fr fm_n7224_138 M0 M ∧ 0 ≤ z ∧ z ≤ 11 ∧ (z = x138_5) ∧ (M 138 5 = x138_5 + 1 ∧ (∀ k : Int, M 139 k = if k = x138_5 then p1 else M0 139 k) ∧ (∀ k : Int, M 11 k = if k = p1 then 1 - M0 11 k else M0 11 k) ∧ (∀ (j : Int) (b : Nat) (x : Bool), 0 ≤ j → j < x10_10 → b < 64 → runF (stV M0 17 11 j b) (CL M0 c2) [] = [x] → tb M (119 + x138_5) j b = x ∧ tb M (142 + x138_5) j b = ftV M0 17 11 p1 p3 j x b ∧ tb M (156 + x138_5) j b = (tb M0 (155 + x138_5) j b && ftV M0 17 11 p1 p3 j x b)) ∧ ∀ a i : Int, a ≠ 12 → a ≠ 138 → a ≠ 139 → a ≠ 11 → a ≠ 119 + x138_5 → a ≠ 142 + x138_5 → a ≠ 156 + x138_5 → M a i = M0 a i)) := by
  refine ct_of (d := d + 4) (k := 3) (L := [some (R 138), some (I p1), some (R c2), some (I p3), none, none, none]) rfl rfl rfl ?_
  have hF0 := Fr.rf fm_n7224_138 M0
  generalize hQ : (qI fun z M => Pw M ∧ Fr fm_n7224_138 M0 M ∧ 0 ≤ z ∧ z ≤ 11 ∧ (z = x138_5) ∧ (M 138 5 = x138_5 + 1 ∧ (∀ k : Int, M 139 k = if k = x138_5 then p1 else M0 139 k) ∧ (∀ k : Int, M 11 k = if k = p1 then 1 - M0 11 k else M0 11 k) ∧ (∀ (j : Int) (b : Nat) (x : Bool), 0 ≤ j → j < x10_10 → b < 64 → runF (stV M0 17 11 j b) (CL M0 c2) [] = [x] → tb M (119 + x138_5) j b = x ∧ tb M (142 + x138_5) j b = ftV M0 17 11 p1 p3 j x b ∧ tb M (156 + x138_5) j b = (tb M0 (155 + x138_5) j b && ftV M0 17 11 p1 p3 j x b)) ∧ ∀ a i : Int, a ≠ 12 → a ≠ 138 → a ≠ 139 → a ≠ 11 → a ≠ 119 + x138_5 → a ≠ 142 + x138_5 → a ≠ 156 + x138_5 → M a i = M0 a i)) = Q
  have hcr : c2 = 4 ∨ 679 ≤ c2 := by have := hC2; unfold isC at this; omega
  refine wk_al0 r224_0 (wk_getfi r224_1 fd_138_5 ex138_5 (wk_is4 r224_4 rfl (wk_il4 r224_6 (wk_c2 r224_8 ?_))))
  refine wk_iclt r224_10 ⟨by omega, by omega⟩ (by decide) ?_ ?_
  · intro h1
    refine wk_al0 r224_15 (wk_getfr r224_16 fd_138_0 (br_138_0 hP0) (wk_getfr r224_19 fd_10_0 (br_10_0 hP0) (wk_c2 r224_22 (wk_il4 r224_24 (wk_iadd r224_26 (wk_raldb r224_27 ar_16 ⟨by omega, by omega⟩ (fun q0 q1 => ba_16 hP0 q0 q1) (wk_as5 r224_28 rfl (wk_al0 r224_30 (wk_getfr r224_31 fd_138_0 (br_138_0 hP0) (wk_al2 r224_34 (wk_al5 r224_35 ?_)))))))))))
    refine wk_cv3 r224_37 kc_10_196 rfl (n7196_10_f17 _ M0 c2 (17 + (102 + x138_5)) hP0 hC2 (by omega) (by omega) (by first | assumption | omega | (unfold stepok; omega))) (cqV ?_)
    rintro M2 ⟨hP3, hQ4, xh6, xh7⟩
    have hF5 : Fr fm_n7224_138 M0 M2 := hF0.tr hQ4 rfl
    refine wk_c1 r224_40 (wk_is6 r224_41 rfl ?_)
    have c43_568 : ∀ (k568 : Nat) (M515 : Mm) (v512 : Int), (47 - v512).toNat = k568 → Pw M515 → Fr fm_n7224_138 M0 M515 → M515 138 5 = x138_5 → M515 10 10 = x10_10 → 0 ≤ v512 → v512 ≤ 47 → ((∀ a i : Int, a ≠ 12 → (a ≠ 119 + x138_5 ∨ x10_10 ≤ i) → (a ≠ 142 + x138_5 ∨ v512 ≤ i) → (a ≠ 156 + x138_5 ∨ v512 ≤ i) → M515 a i = M0 a i) ∧ (∀ (j : Int) (b : Nat) (x : Bool), 0 ≤ j → j < x10_10 → b < 64 → runF (stV M0 17 11 j b) (CL M0 c2) [] = [x] → tb M515 (119 + x138_5) j b = x) ∧ ∀ (j : Int) (b : Nat) (x : Bool), 0 ≤ j → j < v512 → b < 64 → runF (stV M0 17 11 j b) (CL M0 c2) [] = [x] → tb M515 (142 + x138_5) j b = ftV M0 17 11 p1 p3 j x b ∧ tb M515 (156 + x138_5) j b = (tb M0 (155 + x138_5) j b && ftV M0 17 11 p1 p3 j x b)) → Wp B (d + 4) 224 43 [some (R 138), some (I p1), none, some (I p3), some (I x138_5), some (R (17 + (102 + x138_5))), some (I v512)] [] M515 Q := by
      refine lp_ind ?_
      intro k568 ih568 M515 v512 hk568 hP516 hF517 e518 e519 h513 h514 ti520
      refine wk_il6 r224_43 (wk_al0 r224_45 (wk_getfr r224_46 fd_138_0 (br_138_0 hP516) (wk_getfi r224_49 fd_10_10 e519 ?_)))
      refine wk_icge r224_52 ⟨by omega, by omega⟩ ⟨by omega, by omega⟩ ?_ ?_
      · intro h521
        refine wk_al0 r224_120 (wk_getfr r224_121 fd_138_1 (br_138_1 hP516) (wk_il4 r224_124 (wk_il1 r224_126 ?_)))
        refine wk_iast r224_127 ar_139 ⟨by omega, by omega⟩ (wk_nw (ga_139 _) rfl hP516 hF517 (ua_139 ⟨by omega, by omega⟩) ?_)
        intro M522 hP523 hF524 e525
        refine wk_al0 r224_128 (wk_getfr r224_129 fd_138_0 (br_138_0 hP523) (wk_il1 r224_132 (wk_cv2 r224_133 kc_10_200 rfl (n7200_10 _ M522 p1 hP523 (by first | with_reducible assumption | omega) (by first | with_reducible assumption | omega)) (cqV ?_))))
        rintro M526 ⟨hP527, hQ528, xh530⟩
        have hF529 : Fr fm_n7224_138 M0 M526 := hF524.tr hQ528 rfl
        refine wk_al0 r224_136 (wk_dupr r224_137 (wk_getfi r224_138 fd_138_5 ((hQ528.at g_138_5 rfl).trans (mUp_no e525 e518 (Or.inl (by decide)))) (wk_c1 r224_141 (wk_iadd r224_142 (wk_putfi81 r224_143 fd_138_5 (wk_nw g_138_5 rfl hP527 hF529 (uf_138_5 ⟨by omega, by omega⟩) ?_))))))
        intro M531 hP532 hF533 e534
        refine wk_il4 r224_146 ?_
        subst hQ; exact wk_iret r224_148 (⟨rfl, _, rfl, hP532, hF533, by omega, by omega, by omega, ⟨by have := (mUp_at e534); omega, fun k => by rw [e534, mUp_ne (Or.inl (by decide)), xh530.2 139 k (Or.inl (by decide)), e525]; by_cases q : k = x138_5; (rw [if_pos q, q]; first | exact mUp_eq _ _ _ _ | (rw [show x138_5 = x138_5 by omega]; exact mUp_eq _ _ _ _)); (rw [if_neg q, mUp_ne (Or.inr (by omega))]; exact ti520.1 139 k (by decide) (by omega) (by omega) (by omega)), fun k => by rw [e534, mUp_ne (Or.inl (by decide)), xh530.1 k, e525, mUp_ne (Or.inl (by decide)), ti520.1 11 k (by decide) (by omega) (by omega) (by omega)], fun j b x q0 q1 hb hx => by rw [tb_eq (show M531 (119 + x138_5) j = M515 (119 + x138_5) j by rw [e534, mUp_ne (Or.inl (by omega)), xh530.2 _ _ (Or.inl (by omega)), e525, mUp_ne (Or.inl (by omega))]), tb_eq (show M531 (142 + x138_5) j = M515 (142 + x138_5) j by rw [e534, mUp_ne (Or.inl (by omega)), xh530.2 _ _ (Or.inl (by omega)), e525, mUp_ne (Or.inl (by omega))]), tb_eq (show M531 (156 + x138_5) j = M515 (156 + x138_5) j by rw [e534, mUp_ne (Or.inl (by omega)), xh530.2 _ _ (Or.inl (by omega)), e525, mUp_ne (Or.inl (by omega))])]; exact ⟨ti520.2.1 j b x q0 q1 hb hx, ti520.2.2 j b x q0 (by omega) hb hx⟩, fun a i q0 q1 q2 q3 q4 q5 q6 => by rw [e534, mUp_ne (Or.inl q1), xh530.2 a i (Or.inl q3), e525, mUp_ne (Or.inl q2)]; exact ti520.1 a i q0 (Or.inl q4) (Or.inl q5) (Or.inl q6)⟩⟩)
      · intro h535
        refine wk_al0 r224_55 (wk_getfr r224_56 fd_138_2 (br_138_2 hP516) (wk_il4 r224_59 (wk_raldb r224_61 ar_141 ⟨by omega, by omega⟩ (fun q0 q1 => ba_141 hP516 q0 q1) (wk_il6 r224_62 (wk_al0 r224_64 (wk_getfr r224_65 fd_138_0 (br_138_0 hP516) (wk_il1 r224_68 (wk_il3 r224_69 (wk_al5 r224_70 (wk_il6 r224_72 (wk_laldb r224_74 (arF_17 (by omega) (by omega)) ⟨by omega, by omega⟩ (fun q0 q1 => baF_17 hP516 (by omega) (by omega) q0 q1) (by decide) ?_)))))))))))
        intro n536 h538 h539 e537
        refine wk_il6 r224_75 (wk_cv5 r224_77 kc_10_189 rfl (n7189_10v9 _ M515 p1 p3 n536 v512 hP516 (by first | with_reducible assumption | omega) (by first | with_reducible assumption | omega) (by first | with_reducible assumption | omega) (by first | with_reducible assumption | omega) (by omega) (by first | with_reducible assumption | omega) (by first | with_reducible assumption | omega)) (cqL ?_))
        rintro n545 M540 ⟨hP541, hQ542, h546, xh544⟩
        obtain rfl := Fr.same hQ542
        refine wk_last r224_80 (arF_142 (by omega) (by omega)) ⟨by omega, by omega⟩ (wk_nw (gr_142 (by omega) (by omega) _) rfl hP516 hF517 (uaF_142 (by omega) (by omega) ⟨by omega, by omega⟩) ?_)
        intro M547 hP548 hF549 e550
        refine wk_al0 r224_81 (wk_getfr r224_82 fd_138_3 (br_138_3 hP548) (wk_il4 r224_85 (wk_c1 r224_87 (wk_iadd r224_88 (wk_raldb r224_89 ar_154 ⟨by omega, by omega⟩ (fun q0 q1 => ba_154 hP548 q0 q1) (wk_il6 r224_90 (wk_al0 r224_92 (wk_getfr r224_93 fd_138_3 (br_138_3 hP548) (wk_il4 r224_96 (wk_raldb r224_98 ar_154 ⟨by omega, by omega⟩ (fun q0 q1 => ba_154 hP548 q0 q1) (wk_il6 r224_99 (wk_laldb r224_101 (arF_155 (by omega) (by omega)) ⟨by omega, by omega⟩ (fun q0 q1 => baF_155 hP548 (by omega) (by omega) q0 q1) (by decide) ?_))))))))))))
        intro n551 h553 h554 e552
        refine wk_al0 r224_102 (wk_getfr r224_103 fd_138_2 (br_138_2 hP548) (wk_il4 r224_106 (wk_raldb r224_108 ar_141 ⟨by omega, by omega⟩ (fun q0 q1 => ba_141 hP548 q0 q1) (wk_il6 r224_109 (wk_laldb r224_111 (arF_142 (by omega) (by omega)) ⟨by omega, by omega⟩ (fun q0 q1 => baF_142 hP548 (by omega) (by omega) q0 q1) (by decide) ?_)))))
        intro n555 h557 h558 e556
        refine wk_land r224_112 ?_
        intro n559 h560 h561 h562 h563
        refine wk_last r224_113 (arF_155 (by omega) (by omega)) ⟨by omega, by omega⟩ (wk_nw (gr_155 (by omega) (by omega) _) rfl hP548 hF549 (uaF_155 (by omega) (by omega) ⟨by omega, by omega⟩) ?_)
        intro M564 hP565 hF566 e567
        refine wk_inc6 r224_114 rfl (wk_goto r224_117 ?_)
        exact wp_fg (le_s (le_s (le_s (le_s (le_s (le_s (le_s le_0))))))) (ih568 (47 - (v512 + 1)).toNat (by omega) M564 (v512 + 1) rfl hP565 hF566 (mUp_no e567 (mUp_no e550 e518 (Or.inl (by omega))) (Or.inl (by omega))) (mUp_no e567 (mUp_no e550 e519 (Or.inl (by omega))) (Or.inl (by omega))) (by first | with_reducible assumption | omega) (by first | with_reducible assumption | omega) (⟨fun a i q0 q1 q2 q3 => by rw [e567, mUp_ne (show a ≠ (155 + (x138_5 + 1)) ∨ i ≠ v512 by omega), e550, mUp_ne (show a ≠ (142 + x138_5) ∨ i ≠ v512 by omega)]; exact ti520.1 a i q0 q1 (by omega) (by omega), fun j b x q0 q1 hb hx => by rw [tb_eq (show M564 (119 + x138_5) j = M515 (119 + x138_5) j by rw [e567, mUp_ne (Or.inl (by omega)), e550, mUp_ne (Or.inl (by omega))])]; exact ti520.2.1 j b x q0 q1 hb hx, fun j b x q0 q1 hb hx => (Int.lt_or_le j v512).elim (fun q => by rw [tb_eq (show M564 (142 + x138_5) j = M515 (142 + x138_5) j by rw [e567, mUp_ne (Or.inl (by omega)), e550, mUp_ne (Or.inr (by omega))]), tb_eq (show M564 (156 + x138_5) j = M515 (156 + x138_5) j by rw [e567, mUp_ne (Or.inr (by omega)), e550, mUp_ne (Or.inl (by omega))])]; exact ti520.2.2 j b x q0 q hb hx) (fun q => by have hf9 : Nat.testBit n545 b = ftV M0 17 11 p1 p3 v512 x b := (by have q8 := xh544 b hb; rw [show Nat.testBit n536 b = x from ((tb_el e537 b).symm.trans (by rw [show (17 + (102 + x138_5)) = 119 + x138_5 by omega]; exact ti520.2.1 v512 b x (by omega) (by omega) hb (by rw [show v512 = j by omega]; exact hx)))] at q8; exact (q8.trans (ft_cg (fun r a b c => ti520.1 (17 + r) _ (by omega) (by omega) (by omega) (by omega)) (ti520.1 11 _ (by decide) (by omega) (by omega) (by omega)) (by omega) (by omega) (ba_11 hP0 (by omega) (by omega)) (by omega)))); rw [show j = v512 by omega]; refine ⟨?_, ?_⟩; (rw [tb_up (show M564 (142 + x138_5) v512 = _ by rw [e567, mUp_ne (Or.inl (by omega)), show (142 : Int) + x138_5 = (142 + x138_5) by omega]; exact mUp_at e550) b]; exact hf9); (rw [tb_up (show M564 (156 + x138_5) v512 = _ by rw [show (156 : Int) + x138_5 = (155 + (x138_5 + 1)) by omega]; exact mUp_at e567) b, tb_and h563 hb, show Nat.testBit n551 b = tb M0 (155 + x138_5) v512 b from (tb_el e552 b).symm.trans (tb_eq (show M547 (155 + x138_5) v512 = M0 (155 + x138_5) v512 by rw [e550, mUp_ne (Or.inl (by omega))]; exact ti520.1 _ _ (by omega) (by omega) (by omega) (by omega)) b), show Nat.testBit n555 b = Nat.testBit n545 b from (tb_el e556 b).symm.trans (tb_up (by rw [e550, show (142 + x138_5) = (142 + x138_5) by omega]; exact mUp_eq _ _ _ _) b), hf9]))⟩))
    exact wp_fg (le_s (le_s (le_n (le_s (le_s (le_s (le_s le_0))))))) (c43_568 _ M2 0 rfl hP3 hF5 ((hQ4.at g_138_5 rfl).trans ex138_5) ((hQ4.at g_10_10 rfl).trans ex10_10) (by first | with_reducible assumption | omega) (by first | with_reducible assumption | omega) (⟨fun a i q0 q1 _ _ => xh7 a i q0 (by omega), fun j b x q0 q1 hb hx => by rw [show (119 : Int) + x138_5 = (17 + (102 + x138_5)) by omega]; exact xh6 j b x q0 (by omega) hb hx, fun j b x q0 q1 => by omega⟩))
  · intro h569
    exfalso
    omega
def fm_n7191_f155 : Nat := 0
/-- IslandHall$Realm.holds -/
theorem n7191_f155 {B : eB} (d : Nat) (M0 : Mm) (a0 : Int) (p1 : Int) (hP0 : Pw M0) (ha0 : 155 ≤ a0) (hb0 : a0 ≤ 167) (l1 : 0 ≤ p1) (u1 : p1 ≤ 2999) : Ct B (d + 1) 191 [R a0, I p1] M0 (qI fun z M => Pw M ∧ Fr fm_n7191_f155 M0 M ∧ 0 ≤ z ∧ z ≤ 1 ∧ (z = b2i (tbI M0 a0 p1))) := by
  refine ct_of (d := d + 0) (k := 0) (L := [some (R a0), some (I p1)]) rfl rfl rfl ?_
  have hF0 := Fr.rf fm_n7191_f155 M0
  generalize hQ : (qI fun z M => Pw M ∧ Fr fm_n7191_f155 M0 M ∧ 0 ≤ z ∧ z ≤ 1 ∧ (z = b2i (tbI M0 a0 p1))) = Q
  refine wk_al0 r191_0 (wk_il1 r191_1 (wk_c2 r191_2 (wk_ishrc r191_4 ⟨by omega, by omega⟩ (by decide) pwl_6 (wk_laldb r191_5 (arF_155 (by omega) (by omega)) ⟨by omega, by omega⟩ (fun q0 q1 => baF_155 hP0 (by omega) (by omega) q0 q1) (by decide) ?_))))
  intro n2 h4 h5 e3
  refine wk_il1 r191_6 (wk_c2 r191_7 (wk_iandc 6 64 r191_9 ⟨rfl, by decide⟩ rfl (wk_lushrb r191_10 (by omega) ⟨by omega, by omega⟩ ?_)))
  intro n6 h7 h8
  refine wk_c6 r191_11 (wk_land r191_12 ?_)
  intro n9 h10 h11 h12 h13
  refine wk_c6 r191_13 ?_
  refine wk_lcmp r191_14 (by omega) (by omega) ?_ ?_
  · intro h14
    refine wk_ifne r191_15 (by decide) ?_ ?_
    · intro h20
      exfalso
      omega
    · intro h21
      refine wk_c1 r191_18 (wk_goto r191_19 ?_)
      subst hQ; exact wk_zret r191_23 (by decide) (⟨rfl, _, rfl, hP0, hF0, by omega, by omega, by unfold tbI; rw [tb_el e3]; rcases hold_1 h8 h13 with ⟨a, b⟩ | ⟨a, b⟩; (rw [b]; show _ = (1 : Int); omega); (rw [b]; show _ = (0 : Int); omega)⟩)
  · intro h15 v19 h16 h17 h18
    refine wk_ifne r191_15 ⟨by omega, by omega⟩ ?_ ?_
    · intro h22
      refine wk_c1 r191_22 ?_
      subst hQ; exact wk_zret r191_23 (by decide) (⟨rfl, _, rfl, hP0, hF0, by omega, by omega, by unfold tbI; rw [tb_el e3]; rcases hold_1 h8 h13 with ⟨a, b⟩ | ⟨a, b⟩; (rw [b]; show _ = (1 : Int); omega); (rw [b]; show _ = (0 : Int); omega)⟩)
    · intro h23
      exfalso
      omega
def fm_n7201_10_f155 : Nat := 0
/-- IslandHall$Realm.pick -/
theorem n7201_10_f155 {B : eB} (d : Nat) (M0 : Mm) (a1 : Int) (p2 : Int) (x10_9 : Int) (hP0 : Pw M0) (ha1 : 155 ≤ a1) (hb1 : a1 ≤ 167) (l2 : (-2147483648) ≤ p2) (u2 : p2 ≤ 2147483647) (ex10_9 : M0 10 9 = x10_9) (lx10_9 : 0 ≤ x10_9) (ux10_9 : x10_9 ≤ 3000) : Ct B (d + 2) 201 [R 10, R a1, I p2] M0 (qI fun z M => Pw M ∧ Fr fm_n7201_10_f155 M0 M ∧ (-1) ≤ z ∧ z ≤ 2999 ∧ (PCK (fun i => tbI M0 a1 i) x10_9 p2 z)) := by
  refine ct_of (d := d + 1) (k := 2) (L := [some (R 10), some (R a1), some (I p2), none, none]) rfl rfl rfl ?_
  have hF0 := Fr.rf fm_n7201_10_f155 M0
  generalize hQ : (qI fun z M => Pw M ∧ Fr fm_n7201_10_f155 M0 M ∧ (-1) ≤ z ∧ z ≤ 2999 ∧ (PCK (fun i => tbI M0 a1 i) x10_9 p2 z)) = Q
  refine wk_il2 r201_0 ?_
  refine wk_ifge r201_1 ⟨by omega, by omega⟩ ?_ ?_
  · intro h1
    refine wk_c1 r201_6 (wk_is3 r201_7 rfl (wk_c1 r201_8 (wk_is4 r201_9 rfl ?_)))
    have c11_243 : ∀ (k243 : Nat) (v219 : Int) (v222 : Int), (3000 - v222).toNat = k243 → 0 ≤ v219 → v219 ≤ 3000 → 0 ≤ v222 → v222 ≤ 3000 → 0 ≤ (-1) * v219 + p2 → 0 ≤ (-1) * v222 + x10_9 → 0 ≤ (-1) * v219 + v222 + 0 → (v219 = cnB (fun i => tbI M0 a1 i) (v222).toNat) → Wp B (d + 1) 201 11 [some (R 10), some (R a1), some (I p2), some (I v219), some (I v222)] [] M0 Q := by
      refine lp_ind ?_
      intro k243 ih243 v219 v222 hk243 h220 h221 h223 h224 h225 h226 h227 ti228
      refine wk_il4 r201_11 (wk_al0 r201_13 (wk_getfi r201_14 fd_10_9 ex10_9 ?_))
      refine wk_icge r201_17 ⟨by omega, by omega⟩ ⟨by omega, by omega⟩ ?_ ?_
      · intro h229
        refine wk_c1 r201_46 ?_
        subst hQ; exact wk_iret r201_47 (⟨rfl, _, rfl, hP0, hF0, by omega, by omega, Or.inl ⟨by omega, Or.inr (by rw [show x10_9 = v222 by omega, ← ti228]; omega)⟩⟩)
      · intro h230
        refine wk_al1 r201_20 (wk_il4 r201_21 (wk_cs102_2 r201_23 rfl (n7191_f155 _ M0 a1 v222 hP0 (by omega) (by omega) (by first | with_reducible assumption | omega) (by first | with_reducible assumption | omega)) (cqI ?_)))
        rintro v236 M231 ⟨hP232, hQ233, h237, h238, xh235⟩
        obtain rfl := Fr.same hQ233
        refine wk_ifeq r201_26 ⟨by omega, by omega⟩ ?_ ?_
        · intro h239
          refine wk_inc4 r201_40 rfl (wk_goto r201_43 ?_)
          exact wp_fg (le_s (le_s (le_s (le_s (le_s le_0))))) (ih243 (3000 - (v222 + 1)).toNat (by omega) v219 (v222 + 1) rfl (by first | with_reducible assumption | omega) (by first | with_reducible assumption | omega) (by first | with_reducible assumption | omega) (by first | with_reducible assumption | omega) (by first | with_reducible assumption | omega) (by first | with_reducible assumption | omega) (by first | with_reducible assumption | omega) (by rw [cnB_s (by omega), ← ti228, ← xh235]; omega))
        · intro h240
          refine wk_il3 r201_29 (wk_il2 r201_30 ?_)
          refine wk_icne r201_31 ⟨by omega, by omega⟩ ⟨by omega, by omega⟩ ?_ ?_
          · intro h241
            refine wk_inc3 r201_37 rfl (wk_inc4 r201_40 rfl (wk_goto r201_43 ?_))
            exact wp_fg (le_s (le_s (le_s (le_s (le_s le_0))))) (ih243 (3000 - (v222 + 1)).toNat (by omega) (v219 + 1) (v222 + 1) rfl (by first | with_reducible assumption | omega) (by first | with_reducible assumption | omega) (by first | with_reducible assumption | omega) (by first | with_reducible assumption | omega) (by first | with_reducible assumption | omega) (by first | with_reducible assumption | omega) (by first | with_reducible assumption | omega) (by rw [cnB_s (by omega), ← ti228, ← xh235]; omega))
          · intro h242
            refine wk_il4 r201_34 ?_
            subst hQ; exact wk_iret r201_36 (⟨rfl, _, rfl, hP0, hF0, by omega, by omega, Or.inr ⟨by omega, by omega, by omega, b2i_1.mp (by have := xh235; show b2i (tbI M0 a1 v222) = 1; omega), by rw [← ti228]; omega⟩⟩)
    exact wp_fg (le_s (le_s (le_s (le_s (le_s le_0))))) (c11_243 _ 0 0 rfl (by first | with_reducible assumption | omega) (by first | with_reducible assumption | omega) (by first | with_reducible assumption | omega) (by first | with_reducible assumption | omega) (by first | with_reducible assumption | omega) (by first | with_reducible assumption | omega) (by first | with_reducible assumption | omega) (rfl))
  · intro h244
    refine wk_c1 r201_4 ?_
    subst hQ; exact wk_iret r201_5 (⟨rfl, _, rfl, hP0, hF0, by omega, by omega, Or.inl ⟨by omega, Or.inl (by omega)⟩⟩)
def fm_n7227_138 : Nat := 1213657409469535674695680
/-- IslandHall$Tale.drop -/
theorem n7227_138 {B : eB} (d : Nat) (M0 : Mm) (x138_5 : Int) (hP0 : Pw M0) (ex138_5 : M0 138 5 = x138_5) (lx138_5 : 0 ≤ x138_5) (ux138_5 : x138_5 ≤ 12) : Ct B (d + 2) 227 [R 138] M0 (qV fun M => Pw M ∧ Fr fm_n7227_138 M0 M ∧ ((x138_5 = 0 ∧ ∀ a i : Int, M a i = M0 a i) ∨ (x138_5 ≠ 0 ∧ M 138 5 = x138_5 - 1 ∧ (∀ k : Int, M 11 k = if k = M0 139 (x138_5 - 1) then 1 - M0 11 k else M0 11 k) ∧ (∀ j : Int, M (118 + x138_5) j = 0) ∧ ∀ a i : Int, a ≠ 138 → a ≠ 11 → a ≠ 118 + x138_5 → M a i = M0 a i))) := by
  refine ct_of (d := d + 1) (k := 0) (L := [some (R 138)]) rfl rfl rfl ?_
  have hF0 := Fr.rf fm_n7227_138 M0
  generalize hQ : (qV fun M => Pw M ∧ Fr fm_n7227_138 M0 M ∧ ((x138_5 = 0 ∧ ∀ a i : Int, M a i = M0 a i) ∨ (x138_5 ≠ 0 ∧ M 138 5 = x138_5 - 1 ∧ (∀ k : Int, M 11 k = if k = M0 139 (x138_5 - 1) then 1 - M0 11 k else M0 11 k) ∧ (∀ j : Int, M (118 + x138_5) j = 0) ∧ ∀ a i : Int, a ≠ 138 → a ≠ 11 → a ≠ 118 + x138_5 → M a i = M0 a i))) = Q
  refine wk_al0 r227_0 (wk_getfi r227_1 fd_138_5 ex138_5 ?_)
  refine wk_ifle r227_4 ⟨by omega, by omega⟩ ?_ ?_
  · intro h1
    subst hQ; exact wk_ret r227_52 (⟨rfl, hP0, hF0, Or.inl ⟨by omega, fun a i => rfl⟩⟩)
  · intro h2
    refine wk_al0 r227_7 (wk_dupr r227_8 (wk_getfi r227_9 fd_138_5 ex138_5 (wk_c1 r227_12 (wk_isub r227_13 (wk_putfi81 r227_14 fd_138_5 (wk_nw g_138_5 rfl hP0 hF0 (uf_138_5 ⟨by omega, by omega⟩) ?_))))))
    intro M3 hP4 hF5 e6
    refine wk_al0 r227_17 (wk_getfr r227_18 fd_138_0 (br_138_0 hP4) (wk_getfr r227_21 fd_10_0 (br_10_0 hP4) (wk_c2 r227_24 (wk_al0 r227_26 (wk_getfi r227_27 fd_138_5 (mUp_at e6) (wk_iadd r227_30 (wk_raldb r227_31 ar_16 ⟨by omega, by omega⟩ (fun q0 q1 => ba_16 hP4 q0 q1) (wk_c6 r227_32 (wk_cs102_2 r227_33 rfl (ct_fl (arF_17 (by omega) (by omega))) (cqV ?_))))))))))
    intro M7 e8
    have hP9 : Pw M7 := by rw [e8]; exact hP4.fil (fun i => (uaF_17 (by omega) (by omega) ⟨by omega, by omega⟩))
    have hF10 : Fr fm_n7227_138 M0 M7 := by rw [e8]; exact hF5.fil (fun i => by rw [(gr_17 (by omega) (by omega) i)]; rfl)
    refine wk_al0 r227_36 (wk_getfr r227_37 fd_138_0 (br_138_0 hP9) (wk_al0 r227_40 (wk_getfr r227_41 fd_138_1 (br_138_1 hP9) (wk_al0 r227_44 (wk_getfi r227_45 fd_138_5 (fil_no e8 (mUp_at e6) (by omega)) (wk_ialdb r227_48 ar_139 ⟨by omega, by omega⟩ (fun q0 q1 => ba_139 hP9 q0 q1) ?_))))))
    intro v11 h13 h14 e12
    refine wk_cv2 r227_49 kc_10_200 rfl (n7200_10 _ M7 v11 hP9 (by first | with_reducible assumption | omega) (by first | with_reducible assumption | omega)) (cqV ?_)
    rintro M15 ⟨hP16, hQ17, xh19⟩
    have hF18 : Fr fm_n7227_138 M0 M15 := hF10.tr hQ17 rfl
    subst hQ; exact wk_ret r227_52 (⟨rfl, hP16, hF18, Or.inr ⟨by omega, by have := ((hQ17.at g_138_5 rfl).trans (fil_no e8 (mUp_at e6) (by omega))); omega, fun k => by rw [xh19.1 k, show v11 = M0 139 (x138_5 - 1) by rw [← e12, e8, fil_ne (by omega), e6, mUp_ne (Or.inl (by decide))], e8, fil_ne (by omega), e6, mUp_ne (Or.inl (by decide))], fun j => by rw [xh19.2 _ j (Or.inl (by omega)), show (118 + x138_5) = (17 + (102 + (x138_5 - 1))) by omega, e8, fil_eq]; rfl, fun a i q0 q1 q2 => by rw [xh19.2 a i (Or.inl q1), e8, fil_ne (by omega), e6, mUp_ne (Or.inl q0)]⟩⟩)
def fm_n7229_138 : Nat := 0
/-- IslandHall$Tale.fitting -/
theorem n7229_138 {B : eB} (d : Nat) (M0 : Mm) (x138_5 : Int) (hP0 : Pw M0) (ex138_5 : M0 138 5 = x138_5) (lx138_5 : 0 ≤ x138_5) (ux138_5 : x138_5 ≤ 12) : Ct B (d + 1) 229 [R 138] M0 (qR fun z M => Pw M ∧ Fr fm_n7229_138 M0 M ∧ 155 ≤ z ∧ z ≤ 167 ∧ (z = 155 + x138_5)) := by
  refine ct_of (d := d + 0) (k := 0) (L := [some (R 138)]) rfl rfl rfl ?_
  have hF0 := Fr.rf fm_n7229_138 M0
  generalize hQ : (qR fun z M => Pw M ∧ Fr fm_n7229_138 M0 M ∧ 155 ≤ z ∧ z ≤ 167 ∧ (z = 155 + x138_5)) = Q
  refine wk_al0 r229_0 (wk_getfr r229_1 fd_138_3 (br_138_3 hP0) (wk_al0 r229_4 (wk_getfi r229_5 fd_138_5 ex138_5 (wk_raldb r229_8 ar_154 ⟨by omega, by omega⟩ (fun q0 q1 => ba_154 hP0 q0 q1) ?_))))
  subst hQ; exact wk_aret r229_9 (⟨rfl, _, rfl, hP0, hF0, by omega, by omega, by omega⟩)
