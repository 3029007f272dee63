theorem pl_fr0 {m : Nat} {M0 M : Mm} (h : Fr m M0 M) (b0 : Nat.testBit m 20 = false) (b1 : Nat.testBit m 21 = false) (b2 : Nat.testBit m 22 = false) (b3 : Nat.testBit m 23 = false) (b4 : Nat.testBit m 24 = false) (b5 : Nat.testBit m 25 = false) (b6 : Nat.testBit m 26 = false) (k : Int) (a : 0 ≤ k) (b : k < 7) : M 2 k = M0 2 k := by
  have : k = 0 ∨ k = 1 ∨ k = 2 ∨ k = 3 ∨ k = 4 ∨ k = 5 ∨ k = 6 := by omega
  rcases this with rfl | rfl | rfl | rfl | rfl | rfl | rfl
  · exact h.at g_2_0 b0
  · exact h.at g_2_1 b1
  · exact h.at g_2_2 b2
  · exact h.at g_2_3 b3
  · exact h.at g_2_4 b4
  · exact h.at g_2_5 b5
  · exact h.at g_2_6 b6
def fm_n7187_10 : Nat := 4740236766191051341824
/-- IslandHall$Realm.clear -/
theorem n7187_10 {B : eB} (d : Nat) (M0 : Mm) (p1 : Int) (p2 : Int) (hP0 : Pw M0) (l1 : 0 ≤ p1) (u1 : p1 ≤ 7) (l2 : 0 ≤ p2) (u2 : p2 ≤ 127) : Ct B (d + 2) 187 [R 10, I p1, I p2] M0 (qV fun M => Pw M ∧ Fr fm_n7187_10 M0 M ∧ 0 ≤ (-1) * (M 10 9) ∧ 0 ≤ (-1) * (M 10 10) ∧ 0 ≤ M 10 7 + (-1) * p1 ∧ 0 ≤ (-1) * (M 10 7) + p1 ∧ 0 ≤ M 10 8 + (-1) * p2 ∧ 0 ≤ (-1) * (M 10 8) + p2 ∧ (∀ r : Int, 0 ≤ r → r ≤ 118 → ∀ j : Int, M (17 + r) j = 0) ∧ (∀ k : Int, M 11 k = 0)) := by
  refine ct_of (d := d + 1) (k := 1) (L := [some (R 10), some (I p1), some (I p2), none]) rfl rfl rfl ?_
  have hF0 := Fr.rf fm_n7187_10 M0
  generalize hQ : (qV fun M => Pw M ∧ Fr fm_n7187_10 M0 M ∧ 0 ≤ (-1) * (M 10 9) ∧ 0 ≤ (-1) * (M 10 10) ∧ 0 ≤ M 10 7 + (-1) * p1 ∧ 0 ≤ (-1) * (M 10 7) + p1 ∧ 0 ≤ M 10 8 + (-1) * p2 ∧ 0 ≤ (-1) * (M 10 8) + p2 ∧ (∀ r : Int, 0 ≤ r → r ≤ 118 → ∀ j : Int, M (17 + r) j = 0) ∧ (∀ k : Int, M 11 k = 0)) = Q
  refine wk_al0 r187_0 (wk_il1 r187_1 (wk_putfi81 r187_2 fd_10_7 (wk_nw g_10_7 rfl hP0 hF0 (uf_10_7 ⟨by omega, by omega⟩) ?_)))
  intro M1 hP2 hF3 e4
  refine wk_al0 r187_5 (wk_il2 r187_6 (wk_putfi81 r187_7 fd_10_8 (wk_nw g_10_8 rfl hP2 hF3 (uf_10_8 ⟨by omega, by omega⟩) ?_)))
  intro M5 hP6 hF7 e8
  refine wk_al0 r187_10 (wk_c1 r187_11 (wk_putfi81 r187_12 fd_10_9 (wk_nw g_10_9 rfl hP6 hF7 (uf_10_9 (by decide)) ?_)))
  intro M9 hP10 hF11 e12
  refine wk_al0 r187_15 (wk_c1 r187_16 (wk_putfi81 r187_17 fd_10_10 (wk_nw g_10_10 rfl hP10 hF11 (uf_10_10 (by decide)) ?_)))
  intro M13 hP14 hF15 e16
  refine wk_c1 r187_20 (wk_is3 r187_21 rfl ?_)
  have c22_195 : ∀ (k195 : Nat) (M177 : Mm) (v174 : Int), (119 - v174).toNat = k195 → Pw M177 → Fr fm_n7187_10 M0 M177 → M177 10 7 = p1 → M177 10 8 = p2 → M177 10 9 = 0 → M177 10 10 = 0 → 0 ≤ v174 → v174 ≤ 119 → (∀ r : Int, 0 ≤ r → r < v174 → ∀ j : Int, M177 (17 + r) j = 0) → Wp B (d + 1) 187 22 [some (R 10), none, none, some (I v174)] [] M177 Q := by
    refine lp_ind ?_
    intro k195 ih195 M177 v174 hk195 hP178 hF179 e180 e181 e182 e183 h175 h176 ti184
    refine wk_il3 r187_22 (wk_c2 r187_23 ?_)
    refine wk_icge r187_25 ⟨by omega, by omega⟩ (by decide) ?_ ?_
    · intro h185
      refine wk_al0 r187_44 (wk_getfr r187_45 fd_10_3 (br_10_3 hP178) (wk_c1 r187_48 (wk_cs102_2 r187_49 rfl (ct_fi ar_11) (cqV ?_))))
      intro M186 e187
      have hP188 : Pw M186 := by rw [e187]; exact hP178.fil (fun i => (ua_11 (by decide)))
      have hF189 : Fr fm_n7187_10 M0 M186 := by rw [e187]; exact hF179.fil (fun i => by rw [(ga_11 i)]; rfl)
      subst hQ; exact wk_ret r187_52 (⟨rfl, hP188, hF189, by have := (fil_no e187 e182 (by decide)); omega, by have := (fil_no e187 e183 (by decide)); omega, by have := (fil_no e187 e180 (by decide)); omega, by have := (fil_no e187 e180 (by decide)); omega, by have := (fil_no e187 e181 (by decide)); omega, by have := (fil_no e187 e181 (by decide)); omega, fun r a b j => by rw [e187, fil_ne (by omega)]; exact ti184 r a (by omega) j, fun k => by rw [e187, fil_eq]⟩)
    · intro h190
      refine wk_al0 r187_28 (wk_getfr r187_29 fd_10_0 (br_10_0 hP178) (wk_il3 r187_32 (wk_raldb r187_33 ar_16 ⟨by omega, by omega⟩ (fun q0 q1 => ba_16 hP178 q0 q1) (wk_c6 r187_34 (wk_cs102_2 r187_35 rfl (ct_fl (arF_17 (by omega) (by omega))) (cqV ?_))))))
      intro M191 e192
      have hP193 : Pw M191 := by rw [e192]; exact hP178.fil (fun i => (uaF_17 (by omega) (by omega) ⟨by omega, by omega⟩))
      have hF194 : Fr fm_n7187_10 M0 M191 := by rw [e192]; exact hF179.fil (fun i => by rw [(gr_17 (by omega) (by omega) i)]; rfl)
      refine wk_inc3 r187_38 rfl (wk_goto r187_41 ?_)
      exact wp_fg (le_s (le_s (le_s (le_s le_0)))) (ih195 (119 - (v174 + 1)).toNat (by omega) M191 (v174 + 1) rfl hP193 hF194 (fil_no e192 e180 (by omega)) (fil_no e192 e181 (by omega)) (fil_no e192 e182 (by omega)) (fil_no e192 e183 (by omega)) (by first | with_reducible assumption | omega) (by first | with_reducible assumption | omega) (fun r a b j => (Int.lt_or_le r v174).elim (fun x => by rw [e192, fil_ne (by omega)]; exact ti184 r a x j) (fun x => by rw [e192, show 17 + r = (17 + v174) by omega, fil_eq]; rfl)))
  exact wp_fg (le_s (le_n (le_n (le_s le_0)))) (c22_195 _ M13 0 rfl hP14 hF15 (mUp_no e16 (mUp_no e12 (mUp_no e8 (mUp_at e4) (Or.inr (by decide))) (Or.inr (by decide))) (Or.inr (by decide))) (mUp_no e16 (mUp_no e12 (mUp_at e8) (Or.inr (by decide))) (Or.inr (by decide))) (mUp_no e16 (mUp_at e12) (Or.inr (by decide))) (mUp_at e16) (by first | with_reducible assumption | omega) (by first | with_reducible assumption | omega) (fun r a b j => by omega))
def fm_n7179_2 : Nat := 0
/-- IslandHall$Plan.earliestDay -/
theorem n7179_2 {B : eB} (d : Nat) (M0 : Mm) (hP0 : Pw M0)  : Ct B (d + 1) 179 [R 2] M0 (qI fun z M => Pw M ∧ Fr fm_n7179_2 M0 M ∧ 0 ≤ z ∧ z ≤ 6 ∧ (z = eD M0 2)) := by
  refine ct_of (d := d + 0) (k := 0) (L := [some (R 2)]) rfl rfl rfl ?_
  have hF0 := Fr.rf fm_n7179_2 M0
  generalize hQ : (qI fun z M => Pw M ∧ Fr fm_n7179_2 M0 M ∧ 0 ≤ z ∧ z ≤ 6 ∧ (z = eD M0 2)) = Q
  refine wk_al0 r179_0 (wk_getfb r179_1 fd_2_3 (bf_2_3 hP0) ?_)
  intro v1 h3 h4 e2
  refine wk_c1 r179_4 ?_
  refine wk_icne r179_5 ⟨by omega, by omega⟩ (by decide) ?_ ?_
  · intro h5
    refine wk_al0 r179_12 (wk_getfi r179_13 fd_2_3 e2 ?_)
    subst hQ; exact wk_iret r179_16 (⟨rfl, _, rfl, hP0, hF0, by omega, by omega, by unfold eD; split <;> omega⟩)
  · intro h6
    refine wk_c1 r179_8 (wk_goto r179_9 ?_)
    subst hQ; exact wk_iret r179_16 (⟨rfl, _, rfl, hP0, hF0, by omega, by omega, by unfold eD; split <;> omega⟩)
def fm_n7177_2v5 : Nat := 0
/-- IslandHall$Plan.codeBehind -/
theorem n7177_2v5 {B : eB} (d : Nat) (M0 : Mm) (p1 : Int) (p2 : Int) (hP0 : Pw M0) (l1 : 0 ≤ p1) (u1 : p1 ≤ 6) (l2 : (-1) ≤ p2) (u2 : p2 ≤ (-1)) : Ct B (d + 1) 177 [R 2, I p1, I p2] M0 (qI fun z M => Pw M ∧ Fr fm_n7177_2v5 M0 M ∧ 0 ≤ z ∧ z ≤ 5 ∧ (0 ≤ z → M0 3 p1 / pw (kf z) % 2 = 1) ∧ (NBQ (M0 3 p1) p2 z)) := by
  refine ct_of (d := d + 0) (k := 1) (L := [some (R 2), some (I p1), some (I p2), none]) rfl rfl rfl ?_
  have hF0 := Fr.rf fm_n7177_2v5 M0
  generalize hQ : (qI fun z M => Pw M ∧ Fr fm_n7177_2v5 M0 M ∧ 0 ≤ z ∧ z ≤ 5 ∧ (0 ≤ z → M0 3 p1 / pw (kf z) % 2 = 1) ∧ (NBQ (M0 3 p1) p2 z)) = Q
  refine wk_il2 r177_0 (wk_c1 r177_1 (wk_iadd r177_2 (wk_is3 r177_3 rfl (wk_il3 r177_4 (wk_c2 r177_5 ?_)))))
  refine wk_icge r177_7 ⟨by omega, by omega⟩ (by decide) ?_ ?_
  · intro h1
    exfalso
    omega
  · intro h2
    refine wk_al0 r177_10 (wk_getfr r177_11 fd_2_0 (br_2_0 hP0) (wk_il1 r177_14 (wk_ialdb r177_15 ar_3 ⟨by omega, by omega⟩ (fun q0 q1 => ba_3 hP0 q0 q1) ?_)))
    intro v3 h5 h6 e4
    refine wk_kget r177_16 (wk_il3 r177_19 (wk_kald r177_20 ⟨by omega, by omega⟩ ?_))
    intro v7 h8 h9 h10
    obtain rfl : v7 = 0 := by rw [h10, show (p2 + 1) = 0 by omega]; decide
    refine wk_ishrc r177_21 ⟨by omega, by omega⟩ (by decide) pwl_0 (wk_c1 r177_22 (wk_iandc 1 2 r177_23 ⟨rfl, by decide⟩ rfl (wk_c1 r177_24 ?_)))
    refine wk_icne r177_25 ⟨by omega, by omega⟩ (by decide) ?_ ?_
    · intro h13
      refine wk_inc3 r177_30 rfl (wk_goto r177_33 (wk_il3 r177_4 (wk_c2 r177_5 ?_)))
      refine wk_icge r177_7 ⟨by omega, by omega⟩ (by decide) ?_ ?_
      · intro h14
        exfalso
        omega
      · intro h15
        refine wk_al0 r177_10 (wk_getfr r177_11 fd_2_0 (br_2_0 hP0) (wk_il1 r177_14 (wk_iald r177_15 ar_3 ⟨by omega, by omega⟩ e4 (wk_kget r177_16 (wk_il3 r177_19 (wk_kald r177_20 ⟨by omega, by omega⟩ ?_))))))
        intro v16 h17 h18 h19
        obtain rfl : v16 = 1 := by rw [h19, show ((p2 + 1) + 1) = 1 by omega]; decide
        refine wk_ishrc r177_21 ⟨by omega, by omega⟩ (by decide) pwl_1 (wk_c1 r177_22 (wk_iandc 1 2 r177_23 ⟨rfl, by decide⟩ rfl (wk_c1 r177_24 ?_)))
        refine wk_icne r177_25 ⟨by omega, by omega⟩ (by decide) ?_ ?_
        · intro h22
          refine wk_inc3 r177_30 rfl (wk_goto r177_33 (wk_il3 r177_4 (wk_c2 r177_5 ?_)))
          refine wk_icge r177_7 ⟨by omega, by omega⟩ (by decide) ?_ ?_
          · intro h23
            exfalso
            omega
          · intro h24
            refine wk_al0 r177_10 (wk_getfr r177_11 fd_2_0 (br_2_0 hP0) (wk_il1 r177_14 (wk_iald r177_15 ar_3 ⟨by omega, by omega⟩ e4 (wk_kget r177_16 (wk_il3 r177_19 (wk_kald r177_20 ⟨by omega, by omega⟩ ?_))))))
            intro v25 h26 h27 h28
            obtain rfl : v25 = 2 := by rw [h28, show (((p2 + 1) + 1) + 1) = 2 by omega]; decide
            refine wk_ishrc r177_21 ⟨by omega, by omega⟩ (by decide) pwl_2 (wk_c1 r177_22 (wk_iandc 1 2 r177_23 ⟨rfl, by decide⟩ rfl (wk_c1 r177_24 ?_)))
            refine wk_icne r177_25 ⟨by omega, by omega⟩ (by decide) ?_ ?_
            · intro h31
              refine wk_inc3 r177_30 rfl (wk_goto r177_33 (wk_il3 r177_4 (wk_c2 r177_5 ?_)))
              refine wk_icge r177_7 ⟨by omega, by omega⟩ (by decide) ?_ ?_
              · intro h32
                exfalso
                omega
              · intro h33
                refine wk_al0 r177_10 (wk_getfr r177_11 fd_2_0 (br_2_0 hP0) (wk_il1 r177_14 (wk_iald r177_15 ar_3 ⟨by omega, by omega⟩ e4 (wk_kget r177_16 (wk_il3 r177_19 (wk_kald r177_20 ⟨by omega, by omega⟩ ?_))))))
                intro v34 h35 h36 h37
                obtain rfl : v34 = 2 := by rw [h37, show ((((p2 + 1) + 1) + 1) + 1) = 3 by omega]; decide
                refine wk_ishrc r177_21 ⟨by omega, by omega⟩ (by decide) pwl_2 (wk_c1 r177_22 (wk_iandc 1 2 r177_23 ⟨rfl, by decide⟩ rfl (wk_c1 r177_24 ?_)))
                refine wk_icne r177_25 ⟨by omega, by omega⟩ (by decide) ?_ ?_
                · intro h38
                  refine wk_inc3 r177_30 rfl (wk_goto r177_33 (wk_il3 r177_4 (wk_c2 r177_5 ?_)))
                  refine wk_icge r177_7 ⟨by omega, by omega⟩ (by decide) ?_ ?_
                  · intro h39
                    exfalso
                    omega
                  · intro h40
                    refine wk_al0 r177_10 (wk_getfr r177_11 fd_2_0 (br_2_0 hP0) (wk_il1 r177_14 (wk_iald r177_15 ar_3 ⟨by omega, by omega⟩ e4 (wk_kget r177_16 (wk_il3 r177_19 (wk_kald r177_20 ⟨by omega, by omega⟩ ?_))))))
                    intro v41 h42 h43 h44
                    obtain rfl : v41 = 3 := by rw [h44, show (((((p2 + 1) + 1) + 1) + 1) + 1) = 4 by omega]; decide
                    refine wk_ishrc r177_21 ⟨by omega, by omega⟩ (by decide) pwl_3 (wk_c1 r177_22 (wk_iandc 1 2 r177_23 ⟨rfl, by decide⟩ rfl (wk_c1 r177_24 ?_)))
                    refine wk_icne r177_25 ⟨by omega, by omega⟩ (by decide) ?_ ?_
                    · intro h47
                      refine wk_inc3 r177_30 rfl (wk_goto r177_33 (wk_il3 r177_4 (wk_c2 r177_5 ?_)))
                      refine wk_icge r177_7 ⟨by omega, by omega⟩ (by decide) ?_ ?_
                      · intro h48
                        exfalso
                        omega
                      · intro h49
                        refine wk_al0 r177_10 (wk_getfr r177_11 fd_2_0 (br_2_0 hP0) (wk_il1 r177_14 (wk_iald r177_15 ar_3 ⟨by omega, by omega⟩ e4 (wk_kget r177_16 (wk_il3 r177_19 (wk_kald r177_20 ⟨by omega, by omega⟩ ?_))))))
                        intro v50 h51 h52 h53
                        obtain rfl : v50 = 4 := by rw [h53, show ((((((p2 + 1) + 1) + 1) + 1) + 1) + 1) = 5 by omega]; decide
                        refine wk_ishrc r177_21 ⟨by omega, by omega⟩ (by decide) pwl_4 (wk_c1 r177_22 (wk_iandc 1 2 r177_23 ⟨rfl, by decide⟩ rfl (wk_c1 r177_24 ?_)))
                        refine wk_icne r177_25 ⟨by omega, by omega⟩ (by decide) ?_ ?_
                        · intro h56
                          refine wk_inc3 r177_30 rfl (wk_goto r177_33 (wk_il3 r177_4 (wk_c2 r177_5 ?_)))
                          refine wk_icge r177_7 ⟨by omega, by omega⟩ (by decide) ?_ ?_
                          · intro h57
                            exfalso
                            omega
                          · intro h58
                            exfalso
                            omega
                        · intro h59
                          refine wk_il3 r177_28 ?_
                          subst hQ; exact wk_iret r177_29 (⟨rfl, _, rfl, hP0, hF0, by omega, by omega, fun _ => by rw [e4, show ((((((p2 + 1) + 1) + 1) + 1) + 1) + 1) = 5 by omega, show pw (kf 5) = 16 by decide]; omega, by rw [e4, show p2 = -1 by omega]; exact NBQ_u (Or.inr (Or.inr (Or.inr (Or.inr (⟨by omega, by omega, by omega, by omega, by omega, by omega⟩)))))⟩)
                    · intro h60
                      refine wk_il3 r177_28 ?_
                      subst hQ; exact wk_iret r177_29 (⟨rfl, _, rfl, hP0, hF0, by omega, by omega, fun _ => by rw [e4, show (((((p2 + 1) + 1) + 1) + 1) + 1) = 4 by omega, show pw (kf 4) = 8 by decide]; omega, by rw [e4, show p2 = -1 by omega]; exact NBQ_u (Or.inr (Or.inr (Or.inr (Or.inl ⟨by omega, by omega, by omega, by omega, by omega⟩))))⟩)
                · intro h61
                  exfalso
                  omega
            · intro h62
              refine wk_il3 r177_28 ?_
              subst hQ; exact wk_iret r177_29 (⟨rfl, _, rfl, hP0, hF0, by omega, by omega, fun _ => by rw [e4, show (((p2 + 1) + 1) + 1) = 2 by omega, show pw (kf 2) = 4 by decide]; omega, by rw [e4, show p2 = -1 by omega]; exact NBQ_u (Or.inr (Or.inr (Or.inl ⟨by omega, by omega, by omega, by omega⟩)))⟩)
        · intro h63
          refine wk_il3 r177_28 ?_
          subst hQ; exact wk_iret r177_29 (⟨rfl, _, rfl, hP0, hF0, by omega, by omega, fun _ => by rw [e4, show ((p2 + 1) + 1) = 1 by omega, show pw (kf 1) = 2 by decide]; omega, by rw [e4, show p2 = -1 by omega]; exact NBQ_u (Or.inr (Or.inl ⟨by omega, by omega, by omega⟩))⟩)
    · intro h64
      refine wk_il3 r177_28 ?_
      subst hQ; exact wk_iret r177_29 (⟨rfl, _, rfl, hP0, hF0, by omega, by omega, fun _ => by rw [e4, show (p2 + 1) = 0 by omega, show pw (kf 0) = 1 by decide]; omega, by rw [e4, show p2 = -1 by omega]; exact NBQ_u (Or.inl ⟨by omega, by omega⟩)⟩)
def fm_n7005_14_2 : Nat := 2213609288845146193920
/-- IslandHall$Walk.begin -/
theorem n7005_14_2 {B : eB} (d : Nat) (M0 : Mm) (x2_1 : Int) (hP0 : Pw M0) (ex2_1 : M0 2 1 = x2_1) (lx2_1 : 0 ≤ x2_1) (ux2_1 : x2_1 ≤ 7) : Ct B (d + 2) 5 [R 14, R 2] M0 (qV fun M => Pw M ∧ Fr fm_n7005_14_2 M0 M ∧ (WC M) ∧ (1 ≤ M0 2 2 → WKI M0 M 0)) := by
  refine ct_of (d := d + 1) (k := 1) (L := [some (R 14), some (R 2), none]) rfl rfl rfl ?_
  have hF0 := Fr.rf fm_n7005_14_2 M0
  generalize hQ : (qV fun M => Pw M ∧ Fr fm_n7005_14_2 M0 M ∧ (WC M) ∧ (1 ≤ M0 2 2 → WKI M0 M 0)) = Q
  refine wk_c1 r5_0 (wk_is2 r5_1 rfl ?_)
  have c2_203 : ∀ (k203 : Nat) (M154 : Mm) (v151 : Int), (7 - v151).toNat = k203 → Pw M154 → Fr fm_n7005_14_2 M0 M154 → M154 2 1 = x2_1 → 0 ≤ v151 → v151 ≤ 7 → (∀ q : Int, 0 ≤ q → q < v151 → q < M154 2 1 → M154 3 q / pw (kf (M154 15 q)) % 2 = 1) → (∀ q : Int, 0 ≤ q → q < v151 → (q < x2_1 → alQ (M0 3 q) (M154 15 q) ∧ rkQ (M0 3 q) (M154 15 q).toNat = 0) ∧ (x2_1 ≤ q → M154 15 q = 0)) → Wp B (d + 1) 5 2 [some (R 14), some (R 2), some (I v151)] [] M154 Q := by
    refine lp_ind ?_
    intro k203 ih203 M154 v151 hk203 hP155 hF156 e157 h152 h153 ti158 ti159
    refine wk_il2 r5_2 (wk_c2 r5_3 ?_)
    refine wk_icge r5_5 ⟨by omega, by omega⟩ (by decide) ?_ ?_
    · intro h160
      have wc0 : WC M154 := fun q a b => ti158 q a (by have := bf_2_1 hP155; omega) b
      obtain ⟨u161, hu162⟩ : ∃ u : Int → Int, ∀ k, M154 15 k = u k := ⟨fun k => M154 15 k, fun k => rfl⟩
      have hw9 : ∀ q : Int, 0 ≤ q → q < 7 → (q < x2_1 → alQ (M0 3 q) (u161 q) ∧ rkQ (M0 3 q) (u161 q).toNat = 0) ∧ (x2_1 ≤ q → u161 q = 0) := fun q a b => by rw [← hu162 q]; exact ti159 q a (by omega)
      refine wk_al0 r5_38 (wk_c1 r5_39 (wk_putfi81 r5_40 fd_14_1 (wk_nw g_14_1 rfl hP155 hF156 (uf_14_1 (by decide)) ?_)))
      intro M163 hP164 hF165 e166
      refine wk_al0 r5_43 ?_
      refine wk_al1 r5_44 (wk_cv1 r5_45 kc_2_179 rfl (n7179_2 _ M163 hP164) (cqI ?_))
      rintro v172 M167 ⟨hP168, hQ169, h173, h174, xh171⟩
      obtain rfl := Fr.same hQ169
      refine wk_putfi81 r5_48 fd_14_2 (wk_nw g_14_2 rfl hP164 hF165 (uf_14_2 ⟨by omega, by omega⟩) ?_)
      intro M175 hP176 hF177 e178
      refine wk_al0 r5_51 (wk_c1 r5_52 (wk_putfi81 r5_53 fd_14_3 (wk_nw g_14_3 rfl hP176 hF177 (uf_14_3 (by decide)) ?_)))
      intro M179 hP180 hF181 e182
      subst hQ; exact wk_ret r5_56 (⟨rfl, hP180, hF181, (WC_eq (by rw [e182, mUp_ne (Or.inl (by decide))]) (fun k => by rw [e182, mUp_ne (Or.inl (by decide))]) (fun k => by rw [e182, mUp_ne (Or.inl (by decide))]) (WC_eq (by rw [e178, mUp_ne (Or.inl (by decide))]) (fun k => by rw [e178, mUp_ne (Or.inl (by decide))]) (fun k => by rw [e178, mUp_ne (Or.inl (by decide))]) (WC_eq (by rw [e166, mUp_ne (Or.inl (by decide))]) (fun k => by rw [e166, mUp_ne (Or.inl (by decide))]) (fun k => by rw [e166, mUp_ne (Or.inl (by decide))]) wc0))), fun hR => by unfold WKI; rw [show (fun k => M179 15 k) = u161 from funext (fun k => mUp_no e182 ((fun k => mUp_no e178 ((fun k => mUp_no e166 (hu162 k) (Or.inl (by decide))) k) (Or.inl (by decide))) k) (Or.inl (by decide))), (mUp_no e182 (mUp_no e178 (mUp_at e166) (Or.inr (by decide))) (Or.inr (by decide))), (mUp_no e182 (mUp_at e178) (Or.inr (by decide))), (mUp_at e182), ex2_1]; exact wb_0 (d := v172) hR (lDW M0).1 (lDW M0).2 (fun p a b => (hw9 p a (by omega)).1 b) (fun p a b => (hw9 p (by omega) b).2 a) (by have q7 := xh171; have q6 : eD M163 2 = eD M0 2 := (by unfold eD; rw [hF165.at g_2_3 rfl]); omega)⟩)
    · intro h183
      refine wk_al0 r5_8 (wk_getfr r5_9 fd_14_0 (br_14_0 hP155) (wk_il2 r5_12 (wk_il2 r5_13 (wk_al1 r5_14 (wk_getfi r5_15 fd_2_1 e157 ?_)))))
      refine wk_icge r5_18 ⟨by omega, by omega⟩ ⟨by omega, by omega⟩ ?_ ?_
      · intro h184
        refine wk_c1 r5_30 (wk_iast r5_31 ar_15 ⟨by omega, by omega⟩ (wk_nw (ga_15 _) rfl hP155 hF156 (ua_15 (by decide)) ?_))
        intro M185 hP186 hF187 e188
        refine wk_inc2 r5_32 rfl (wk_goto r5_35 ?_)
        exact wp_fg (le_s (le_s (le_s le_0))) (ih203 (7 - (v151 + 1)).toNat (by omega) M185 (v151 + 1) rfl hP186 hF187 (mUp_no e188 e157 (Or.inl (by decide))) (by first | with_reducible assumption | omega) (by first | with_reducible assumption | omega) (wc_step e188 ti158 (fun h => by first | omega | exact _ (by omega))) (fun q a b => (Int.lt_or_le q v151).elim (fun x => by rw [e188, mUp_ne (Or.inr (by omega))]; exact ti159 q a x) (fun x => by rw [show q = v151 by omega, e188, mUp_eq]; exact ⟨fun h9 => absurd h9 (by omega), fun _ => rfl⟩)))
      · intro h189
        refine wk_al1 r5_21 (wk_il2 r5_22 (wk_c1 r5_23 (wk_cv3 r5_24 kc_2_177 rfl (n7177_2v5 _ M154 v151 (-1) hP155 (by first | with_reducible assumption | omega) (by first | with_reducible assumption | omega) (by decide) (by decide)) (cqI ?_))))
        rintro v196 M190 ⟨hP191, hQ192, h197, h198, xh194, xh195⟩
        obtain rfl := Fr.same hQ192
        refine wk_goto r5_27 (wk_iast r5_31 ar_15 ⟨by omega, by omega⟩ (wk_nw (ga_15 _) rfl hP155 hF156 (ua_15 ⟨by omega, by omega⟩) ?_))
        intro M199 hP200 hF201 e202
        refine wk_inc2 r5_32 rfl (wk_goto r5_35 ?_)
        exact wp_fg (le_s (le_s (le_s le_0))) (ih203 (7 - (v151 + 1)).toNat (by omega) M199 (v151 + 1) rfl hP200 hF201 (mUp_no e202 e157 (Or.inl (by decide))) (by first | with_reducible assumption | omega) (by first | with_reducible assumption | omega) (wc_step e202 ti158 (fun h => by first | omega | exact xh194 (by omega))) (fun q a b => (Int.lt_or_le q v151).elim (fun x => by rw [e202, mUp_ne (Or.inr (by omega))]; exact ti159 q a x) (fun x => by rw [show q = v151 by omega, e202, mUp_eq]; exact ⟨fun _ => by have q8 := xh195; rw [hF156.at (ga_3 _) rfl] at q8; exact NBQ_0 q8 (by have := ba_3 hP0 (i := v151) (by omega) (by omega); omega) (by have := ba_3 hP0 (i := v151) (by omega) (by omega); omega) (by have := ba_3 hP0 (i := v151) (by omega) (by omega); omega), fun h9 => absurd h9 (by omega)⟩)))
  exact wp_fg (le_s (le_s (le_s le_0))) (c2_203 _ M0 0 rfl hP0 hF0 ex2_1 (by first | with_reducible assumption | omega) (by first | with_reducible assumption | omega) (fun q a b => by omega) (fun q a b => by omega))
def fm_n7181_2 : Nat := 0
/-- IslandHall$Plan.latestDay -/
theorem n7181_2 {B : eB} (d : Nat) (M0 : Mm) (hP0 : Pw M0)  : Ct B (d + 2) 181 [R 2] M0 (qI fun z M => Pw M ∧ Fr fm_n7181_2 M0 M ∧ 0 ≤ z ∧ z ≤ 6 ∧ (z = lD M0 2)) := by
  refine ct_of (d := d + 1) (k := 0) (L := [some (R 2)]) rfl rfl rfl ?_
  have hF0 := Fr.rf fm_n7181_2 M0
  generalize hQ : (qI fun z M => Pw M ∧ Fr fm_n7181_2 M0 M ∧ 0 ≤ z ∧ z ≤ 6 ∧ (z = lD M0 2)) = Q
  refine wk_al0 r181_0 (wk_getfb r181_1 fd_2_3 (bf_2_3 hP0) ?_)
  intro v1 h3 h4 e2
  refine wk_c1 r181_4 ?_
  refine wk_icne r181_5 ⟨by omega, by omega⟩ (by decide) ?_ ?_
  · intro h5
    refine wk_al0 r181_20 (wk_cv1 r181_21 kc_2_179 rfl (n7179_2 _ M0 hP0) (cqI ?_))
    rintro v11 M6 ⟨hP7, hQ8, h12, h13, xh10⟩
    obtain rfl := Fr.same hQ8
    subst hQ; exact wk_iret r181_24 (⟨rfl, _, rfl, hP0, hF0, by omega, by omega, by unfold lD; split <;> omega⟩)
  · intro h14
    refine wk_al0 r181_8 (wk_getfb r181_9 fd_2_5 (bf_2_5 hP0) ?_)
    intro v15 h17 h18 e16
    refine wk_ifeq r181_12 ⟨by omega, by omega⟩ ?_ ?_
    · intro h19
      refine wk_al0 r181_20 (wk_cv1 r181_21 kc_2_179 rfl (n7179_2 _ M0 hP0) (cqI ?_))
      rintro v25 M20 ⟨hP21, hQ22, h26, h27, xh24⟩
      obtain rfl := Fr.same hQ22
      subst hQ; exact wk_iret r181_24 (⟨rfl, _, rfl, hP0, hF0, by omega, by omega, by unfold lD; split <;> omega⟩)
    · intro h28
      refine wk_c2 r181_15 (wk_goto r181_17 ?_)
      subst hQ; exact wk_iret r181_24 (⟨rfl, _, rfl, hP0, hF0, by omega, by omega, by unfold lD; split <;> omega⟩)
def fm_n7182_2 : Nat := 0
/-- IslandHall$Plan.latestWord -/
theorem n7182_2 {B : eB} (d : Nat) (M0 : Mm) (hP0 : Pw M0)  : Ct B (d + 1) 182 [R 2] M0 (qI fun z M => Pw M ∧ Fr fm_n7182_2 M0 M ∧ 0 ≤ z ∧ z ≤ 1 ∧ (z = lW M0 2)) := by
  refine ct_of (d := d + 0) (k := 0) (L := [some (R 2)]) rfl rfl rfl ?_
  have hF0 := Fr.rf fm_n7182_2 M0
  generalize hQ : (qI fun z M => Pw M ∧ Fr fm_n7182_2 M0 M ∧ 0 ≤ z ∧ z ≤ 1 ∧ (z = lW M0 2)) = Q
  refine wk_al0 r182_0 (wk_getfb r182_1 fd_2_6 (bf_2_6 hP0) ?_)
  intro v1 h3 h4 e2
  refine wk_ifeq r182_4 ⟨by omega, by omega⟩ ?_ ?_
  · intro h5
    refine wk_c1 r182_11 ?_
    subst hQ; exact wk_iret r182_12 (⟨rfl, _, rfl, hP0, hF0, by omega, by omega, by unfold lW; split <;> omega⟩)
  · intro h6
    refine wk_c1 r182_7 (wk_goto r182_8 ?_)
    subst hQ; exact wk_iret r182_12 (⟨rfl, _, rfl, hP0, hF0, by omega, by omega, by unfold lW; split <;> omega⟩)
def fm_n7246 : Nat := 0
/-- java/lang/Integer.bitCount -/
theorem n7246 {B : eB} (d : Nat) (M0 : Mm) (p0 : Int) (hP0 : Pw M0) (l0 : 0 ≤ p0) (u0 : p0 ≤ 4095) : Ct B (d + 1) 246 [I p0] M0 (qI fun z M => Pw M ∧ Fr fm_n7246 M0 M ∧ 0 ≤ z ∧ z ≤ 63 ∧ (z = bcF p0)) := by
  refine ct_of (d := d + 0) (k := 0) (L := [some (I p0)]) rfl rfl rfl ?_
  have hF0 := Fr.rf fm_n7246 M0
  generalize hQ : (qI fun z M => Pw M ∧ Fr fm_n7246 M0 M ∧ 0 ≤ z ∧ z ≤ 63 ∧ (z = bcF p0)) = Q
  refine wk_il0 r246_0 (wk_il0 r246_1 (wk_c1 r246_2 (wk_iushrb r246_3 (by decide) ?_)))
  intro v1 h2 h3 h4
  refine wk_c5 r246_4 (wk_iand r246_7 ⟨by omega, by omega⟩ ⟨by omega, by omega⟩ ?_)
  intro v5 h6 h7 h8 h9
  refine wk_isub r246_8 (wk_is0 r246_9 (wk_il0 r246_10 (wk_c5 r246_11 (wk_iandr r246_14 ⟨by omega, by omega⟩ ?_))))
  intro v10 h11 h12 h13
  refine wk_il0 r246_15 (wk_c1 r246_16 (wk_iushrb r246_17 (by decide) ?_))
  intro v14 h15 h16 h17
  refine wk_c5 r246_18 (wk_iand r246_21 ⟨by omega, by omega⟩ ⟨by omega, by omega⟩ ?_)
  intro v18 h19 h20 h21 h22
  refine wk_iadd r246_22 (wk_is0 r246_23 (wk_il0 r246_24 (wk_il0 r246_25 (wk_c1 r246_26 (wk_iushrb r246_27 (by decide) ?_)))))
  intro v23 h24 h25 h26
  refine wk_iadd r246_28 (wk_wrap ?_)
  intro v27 h28 h29 h30
  refine wk_c5 r246_29 (wk_iandr r246_32 ⟨by omega, by omega⟩ ?_)
  intro v31 h32 h33 h34
  refine wk_is0 r246_33 (wk_il0 r246_34 (wk_il0 r246_35 (wk_c2 r246_36 (wk_iushrb r246_38 (by decide) ?_))))
  intro v35 h36 h37 h38
  refine wk_iadd r246_39 (wk_wrap ?_)
  intro v39 h40 h41 h42
  refine wk_is0 r246_40 (wk_il0 r246_41 (wk_il0 r246_42 (wk_c2 r246_43 (wk_iushrb r246_45 (by decide) ?_))))
  intro v43 h44 h45 h46
  refine wk_iadd r246_46 (wk_wrap ?_)
  intro v47 h48 h49 h50
  refine wk_is0 r246_47 (wk_il0 r246_48 (wk_c2 r246_49 (wk_iandc 6 64 r246_51 ⟨rfl, by decide⟩ rfl ?_)))
  subst hQ; exact wk_iret r246_52 (⟨rfl, _, rfl, hP0, hF0, by omega, by omega, by rw [bcF_eq]; subst_vars; rfl⟩)
def fm_n7184_2 : Nat := 0
/-- IslandHall$Plan.size -/
theorem n7184_2 {B : eB} (d : Nat) (M0 : Mm) (hP0 : Pw M0)  : Ct B (d + 3) 184 [R 2] M0 (qI fun z M => Pw M ∧ Fr fm_n7184_2 M0 M ∧ (-1791590400) ≤ z ∧ z ≤ 1791590400 ∧ (z = SZk M0 2 3)) := by
  refine ct_of (d := d + 2) (k := 2) (L := [some (R 2), none, none]) rfl rfl rfl ?_
  have hF0 := Fr.rf fm_n7184_2 M0
  generalize hQ : (qI fun z M => Pw M ∧ Fr fm_n7184_2 M0 M ∧ (-1791590400) ≤ z ∧ z ≤ 1791590400 ∧ (z = SZk M0 2 3)) = Q
  refine wk_al0 r184_0 (wk_getfb r184_1 fd_2_2 (bf_2_2 hP0) ?_)
  intro v1 h3 h4 e2
  refine wk_al0 r184_4 (wk_cv1 r184_5 kc_2_181 rfl (n7181_2 _ M0 hP0) (cqI ?_))
  rintro v10 M5 ⟨hP6, hQ7, h11, h12, xh9⟩
  obtain rfl := Fr.same hQ7
  refine wk_al0 r184_8 (wk_cv1 r184_9 kc_2_179 rfl (n7179_2 _ M0 hP0) (cqI ?_))
  rintro v18 M13 ⟨hP14, hQ15, h19, h20, xh17⟩
  obtain rfl := Fr.same hQ15
  refine wk_isub r184_12 (wk_c1 r184_13 (wk_iadd r184_14 (wk_mula 4 7 r184_15 ⟨by omega, by omega⟩ ⟨by omega, by omega⟩ ?_)))
  intro v21 h22 h23 h24
  refine wk_al0 r184_16 (wk_cv1 r184_17 kc_2_182 rfl (n7182_2 _ M0 hP0) (cqI ?_))
  rintro v30 M25 ⟨hP26, hQ27, h31, h32, xh29⟩
  obtain rfl := Fr.same hQ27
  refine wk_c1 r184_20 (wk_iadd r184_21 (wk_mula 28 2 r184_22 ⟨by omega, by omega⟩ ⟨by omega, by omega⟩ ?_))
  intro v33 h34 h35 h36
  refine wk_is1 r184_23 rfl ?_
  have hRf : v33 = Rf M0 2 := by unfold Rf; rw [← xh9, ← xh17, ← xh29, e2, h36, h24]
  have hRb : -100 ≤ Rf M0 2 ∧ Rf M0 2 ≤ 100 := by rw [← hRf]; omega
  refine wk_c1 r184_24 (wk_is2 r184_25 rfl ?_)
  have c26_268 : ∀ (k268 : Nat) (v235 : Int) (v238 : Int), (7 - v238).toNat = k268 → (-1791590400) ≤ v235 → v235 ≤ 1791590400 → 0 ≤ v238 → v238 ≤ 7 → (v235 = Rf M0 2 * PS (fun k => M0 3 k) (v238).toNat) → (v238 ≤ M0 2 1 ∨ v238 = 0) → Wp B (d + 2) 184 26 [some (R 2), some (I v235), some (I v238)] [] M0 Q := by
    refine lp_ind ?_
    intro k268 ih268 v235 v238 hk268 h236 h237 h239 h240 ti241 ti242
    refine wk_il2 r184_26 (wk_al0 r184_27 (wk_getfb r184_28 fd_2_1 (bf_2_1 hP0) ?_))
    intro v243 h245 h246 e244
    refine wk_icge r184_31 ⟨by omega, by omega⟩ ⟨by omega, by omega⟩ ?_ ?_
    · intro h247
      refine wk_il1 r184_63 ?_
      subst hQ; exact wk_iret r184_64 (⟨rfl, _, rfl, hP0, hF0, by omega, by omega, by unfold SZk; rw [show (M0 2 1).toNat = (v238).toNat by have := ti242; omega]; exact ti241⟩)
    · intro h248
      refine wk_il1 r184_34 (wk_al0 r184_35 (wk_getfr r184_36 fd_2_0 (br_2_0 hP0) (wk_il2 r184_39 (wk_ialdb r184_40 ar_3 ⟨by omega, by omega⟩ (fun q0 q1 => ba_3 hP0 q0 q1) ?_))))
      intro v249 h251 h252 e250
      refine wk_cs102_1 r184_41 rfl (n7246 _ M0 v249 hP0 (by first | with_reducible assumption | omega) (by first | with_reducible assumption | omega)) (cqI ?_)
      rintro v258 M253 ⟨hP254, hQ255, h259, h260, xh257⟩
      obtain rfl := Fr.same hQ255
      refine wk_al0 r184_44 (wk_getfr r184_45 fd_2_0 (br_2_0 hP0) (wk_il2 r184_48 (wk_iald r184_49 ar_3 ⟨by omega, by omega⟩ e250 (wk_c1 r184_50 (wk_ishrc r184_51 ⟨by omega, by omega⟩ (by decide) pwl_2 (wk_c1 r184_52 (wk_iandc 1 2 r184_53 ⟨rfl, by decide⟩ rfl (wk_iadd r184_54 ?_))))))))
      have h263 := sz_rg (u := fun k => M0 3 k) (fun k a b => by have := ba_3 hP0 a b; omega) (R := Rf M0 2) (v := v235) (p := v238) (by omega) (by omega) hRb ti241
      refine wk_mula 27993600 64 r184_55 ⟨by omega, by omega⟩ ⟨by omega, by omega⟩ ?_
      intro v264 h265 h266 h267
      refine wk_is1 r184_56 rfl (wk_inc2 r184_57 rfl (wk_goto r184_60 ?_))
      exact wp_fg (le_s (le_s (le_s le_0))) (ih268 (7 - (v238 + 1)).toNat (by omega) v264 (v238 + 1) rfl (by first | with_reducible assumption | omega) (by first | with_reducible assumption | omega) (by first | with_reducible assumption | omega) (by first | with_reducible assumption | omega) (sz_back (by omega) ti241 (by show _ = bcF (M0 3 v238) + M0 3 v238 / 4 % 2; rw [e250]; omega) h267) (Or.inl (by omega)))
  exact wp_fg (le_s (le_s (le_s le_0))) (c26_268 _ v33 0 rfl (by first | with_reducible assumption | omega) (by first | with_reducible assumption | omega) (by first | with_reducible assumption | omega) (by first | with_reducible assumption | omega) (by rw [hRf]; exact (Int.mul_one _).symm) (Or.inr rfl))
def fm_n7007_14 : Nat := 0
/-- IslandHall$Walk.packed -/
theorem n7007_14 {B : eB} (d : Nat) (M0 : Mm) (x14_1 : Int) (x14_2 : Int) (x14_3 : Int) (hP0 : Pw M0) (ex14_1 : M0 14 1 = x14_1) (lx14_1 : 0 ≤ x14_1) (ux14_1 : x14_1 ≤ 3) (ex14_2 : M0 14 2 = x14_2) (lx14_2 : 0 ≤ x14_2) (ux14_2 : x14_2 ≤ 6) (ex14_3 : M0 14 3 = x14_3) (lx14_3 : 0 ≤ x14_3) (ux14_3 : x14_3 ≤ 1) : Ct B (d + 1) 7 [R 14] M0 (qI fun z M => Pw M ∧ Fr fm_n7007_14 M0 M ∧ 0 ≤ z ∧ z ≤ 134217727 ∧ ((∀ p : Int, 0 ≤ p → p < 7 → z / pw (3 * p) % 8 = M0 15 p) ∧ z / 2097152 % 4 = x14_1 ∧ z / 8388608 % 8 = x14_2 ∧ z / 67108864 % 2 = x14_3)) := by
  refine ct_of (d := d + 0) (k := 2) (L := [some (R 14), none, none]) rfl rfl rfl ?_
  have hF0 := Fr.rf fm_n7007_14 M0
  generalize hQ : (qI fun z M => Pw M ∧ Fr fm_n7007_14 M0 M ∧ 0 ≤ z ∧ z ≤ 134217727 ∧ ((∀ p : Int, 0 ≤ p → p < 7 → z / pw (3 * p) % 8 = M0 15 p) ∧ z / 2097152 % 4 = x14_1 ∧ z / 8388608 % 8 = x14_2 ∧ z / 67108864 % 2 = x14_3)) = Q
  have hu15 : ∀ k : Int, 0 ≤ k → k < 7 → 0 ≤ (fun k => M0 15 k) k ∧ (fun k => M0 15 k) k ≤ 7 := fun k a b => ⟨(ba_15 hP0 a b).1, by have := (ba_15 hP0 a b).2; show M0 15 k ≤ 7; omega⟩
  refine wk_al0 r7_0 (wk_getfi r7_1 fd_14_3 ex14_3 (wk_c2 r7_4 (wk_ishlc r7_6 (by decide) pwl_26 (wk_al0 r7_7 (wk_getfi r7_8 fd_14_2 ex14_2 (wk_c2 r7_11 (wk_ishlc r7_13 (by decide) pwl_23 (wk_iord2 26 67108864 r7_14 (by decide) ⟨by omega, by omega⟩ ⟨by omega, by omega, by omega⟩ (wk_al0 r7_15 (wk_getfi r7_16 fd_14_1 ex14_1 (wk_c2 r7_19 (wk_ishlc r7_21 (by decide) pwl_21 (wk_iord2 23 8388608 r7_22 (by decide) ⟨by omega, by omega⟩ ⟨by omega, by omega, by omega⟩ (wk_is1 r7_23 rfl (wk_c1 r7_24 (wk_is2 r7_25 rfl ?_))))))))))))))))
  have c26_140 : ∀ (k140 : Nat) (v117 : Int) (v120 : Int), (7 - v120).toNat = k140 → 0 ≤ v117 → v117 ≤ 134217727 → 0 ≤ v120 → v120 ≤ 7 → (v117 = 2097152 * (x14_1 + 4 * x14_2 + 32 * x14_3) + SC (fun k => M0 15 k) (v120).toNat) → Wp B (d + 0) 7 26 [some (R 14), some (I v117), some (I v120)] [] M0 Q := by
    refine lp_ind ?_
    intro k140 ih140 v117 v120 hk140 h118 h119 h121 h122 ti123
    refine wk_il2 r7_26 (wk_c2 r7_27 ?_)
    refine wk_icge r7_29 ⟨by omega, by omega⟩ (by decide) ?_ ?_
    · intro h124
      refine wk_il1 r7_51 ?_
      subst hQ; exact wk_iret r7_52 (⟨rfl, _, rfl, hP0, hF0, by omega, by omega, ⟨fun p a b => (pk_at (x := v117) (H := (x14_1 + 4 * x14_2 + 32 * x14_3)) hu15 (by have q8 := ti123; rw [show (v120).toNat = 7 by omega] at q8; exact q8)).1 p a b, by have q7 := (pk_at (x := v117) (H := (x14_1 + 4 * x14_2 + 32 * x14_3)) hu15 (by have q8 := ti123; rw [show (v120).toNat = 7 by omega] at q8; exact q8)).2; omega, by have q7 := (pk_at (x := v117) (H := (x14_1 + 4 * x14_2 + 32 * x14_3)) hu15 (by have q8 := ti123; rw [show (v120).toNat = 7 by omega] at q8; exact q8)).2; omega, by have q7 := (pk_at (x := v117) (H := (x14_1 + 4 * x14_2 + 32 * x14_3)) hu15 (by have q8 := ti123; rw [show (v120).toNat = 7 by omega] at q8; exact q8)).2; omega⟩⟩)
    · intro h125
      refine wk_il1 r7_32 (wk_al0 r7_33 (wk_getfr r7_34 fd_14_0 (br_14_0 hP0) (wk_il2 r7_37 (wk_ialdb r7_38 ar_15 ⟨by omega, by omega⟩ (fun q0 q1 => ba_15 hP0 q0 q1) ?_))))
      intro v126 h128 h129 e127
      refine wk_c1 r7_39 (wk_il2 r7_40 (wk_imul r7_41 ?_))
      refine wk_shlb 18 262144 5 r7_42 ⟨by omega, by omega⟩ ⟨by omega, by omega⟩ ⟨pwl_18, by decide⟩ ?_
      intro v130 h131 h132 h133
      refine wk_ior 27 134217728 r7_43 (by decide) ⟨by omega, by omega⟩ ⟨by omega, by omega⟩ ?_
      intro v134 h135 h136 h137 h138 h139
      refine wk_is1 r7_44 rfl (wk_inc2 r7_45 rfl (wk_goto r7_48 ?_))
      exact wp_fg (le_s (le_s (le_s le_0))) (ih140 (7 - (v120 + 1)).toNat (by omega) v134 (v120 + 1) rfl (by first | with_reducible assumption | omega) (by first | with_reducible assumption | omega) (by first | with_reducible assumption | omega) (by first | with_reducible assumption | omega) (pk_step hu15 (by omega) ti123 (by omega) (by omega) (by rw [h133, show 3 * v120 = (3 * v120) by omega]) e127 h139))
  exact wp_fg (le_s (le_s (le_s le_0))) (c26_140 _ (((x14_3 * 67108864) + (x14_2 * 8388608)) + (x14_1 * 2097152)) 0 rfl (by first | with_reducible assumption | omega) (by first | with_reducible assumption | omega) (by first | with_reducible assumption | omega) (by first | with_reducible assumption | omega) (by rw [show (0 : Int).toNat = 0 by omega]; show _ = _ + (0 : Int); omega))
def fm_n7008_14_2 : Nat := 0
/-- IslandHall$Walk.rowOfKinds -/
theorem n7008_14_2 {B : eB} (d : Nat) (M0 : Mm) (x2_1 : Int) (hP0 : Pw M0) (ex2_1 : M0 2 1 = x2_1) (lx2_1 : 0 ≤ x2_1) (ux2_1 : x2_1 ≤ 7) (xp0 : WC M0) (xp1 : PBok M0) : Ct B (d + 2) 8 [R 14, R 2] M0 (qI fun z M => Pw M ∧ Fr fm_n7008_14_2 M0 M ∧ 0 ≤ z ∧ z ≤ 2999 ∧ (z = HK (fun k => M0 3 k) (fun k => M0 15 k) x2_1.toNat)) := by
  refine ct_of (d := d + 1) (k := 3) (L := [some (R 14), some (R 2), none, none, none]) rfl rfl rfl ?_
  have hF0 := Fr.rf fm_n7008_14_2 M0
  generalize hQ : (qI fun z M => Pw M ∧ Fr fm_n7008_14_2 M0 M ∧ 0 ≤ z ∧ z ≤ 2999 ∧ (z = HK (fun k => M0 3 k) (fun k => M0 15 k) x2_1.toNat)) = Q
  refine wk_c1 r8_0 (wk_is2 r8_1 rfl (wk_c1 r8_2 (wk_is3 r8_3 rfl ?_)))
  have c4_379 : ∀ (k379 : Nat) (v325 : Int) (v328 : Int), (7 - v328).toNat = k379 → 0 ≤ v325 → v325 ≤ 189000 → 0 ≤ v328 → v328 ≤ 7 → (0 ≤ v325 ∧ v325 + 1 ≤ PB (fun k => M0 3 k) (v328).toNat) → (v328 ≤ M0 2 1 ∨ v328 = 0) → (v325 = HK (fun k => M0 3 k) (fun k => M0 15 k) (v328).toNat) → Wp B (d + 1) 8 4 [some (R 14), some (R 2), some (I v325), some (I v328), none] [] M0 Q := by
    refine lp_ind ?_
    intro k379 ih379 v325 v328 hk379 h326 h327 h329 h330 ti331 ti332 ti333
    have h334 := pb_mono (u := fun k => M0 3 k) (fun k a b => ba_3 hP0 a b) (p := v328) (n := M0 2 1) (by have := ti332; omega) (bf_2_1 hP0).2
    have h335 : v325 ≤ 2999 := by have h1 := xp1; unfold PBok at h1; have h2 := ti331; omega
    refine wk_il3 r8_4 (wk_al1 r8_5 (wk_getfi r8_6 fd_2_1 ex2_1 ?_))
    refine wk_icge r8_9 ⟨by omega, by omega⟩ ⟨by omega, by omega⟩ ?_ ?_
    · intro h336
      refine wk_il2 r8_59 ?_
      subst hQ; exact wk_iret r8_60 (⟨rfl, _, rfl, hP0, hF0, by omega, by omega, by rw [show x2_1.toNat = (v328).toNat by have := ti332; omega]; exact ti333⟩)
    · intro h337
      refine wk_al1 r8_12 (wk_getfr r8_13 fd_2_0 (br_2_0 hP0) (wk_il3 r8_16 (wk_ialdb r8_17 ar_3 ⟨by omega, by omega⟩ (fun q0 q1 => ba_3 hP0 q0 q1) ?_)))
      intro v338 h340 h341 e339
      refine wk_c1 r8_18 (wk_kget r8_19 (wk_al0 r8_22 (wk_getfr r8_23 fd_14_0 (br_14_0 hP0) (wk_il3 r8_26 (wk_ialdb r8_27 ar_15 ⟨by omega, by omega⟩ (fun q0 q1 => ba_15 hP0 q0 q1) ?_)))))
      intro v342 h344 h345 e343
      refine wk_kald r8_28 ⟨by omega, by omega⟩ ?_
      intro v346 h347 h348 h349
      refine wk_shl1 4 16 r8_29 ⟨by omega, by omega⟩ ⟨pwl_4, by decide⟩ ?_
      intro v350 h351 h352 h353
      refine wk_c1 r8_30 (wk_isub r8_31 (wk_iand r8_32 ⟨by omega, by omega⟩ ⟨by omega, by omega⟩ ?_))
      intro v354 h355 h356 h357 h358
      refine wk_is4 r8_33 rfl (wk_il2 r8_35 (wk_al1 r8_36 (wk_getfr r8_37 fd_2_0 (br_2_0 hP0) (wk_il3 r8_40 (wk_iald r8_41 ar_3 ⟨by omega, by omega⟩ e339 (wk_cs102_1 r8_42 rfl (n7246 _ M0 v338 hP0 (by first | with_reducible assumption | omega) (by first | with_reducible assumption | omega)) (cqI ?_)))))))
      rintro v364 M359 ⟨hP360, hQ361, h365, h366, xh363⟩
      obtain rfl := Fr.same hQ361
      refine wk_mulb 2999 63 r8_45 ⟨by omega, by omega⟩ ⟨by omega, by omega⟩ ?_
      intro v367 h368 h369 h370
      refine wk_il4 r8_46 (wk_cs102_1 r8_48 rfl (n7246 _ M0 v354 hP0 (by first | with_reducible assumption | omega) (by first | with_reducible assumption | omega)) (cqI ?_))
      rintro v376 M371 ⟨hP372, hQ373, h377, h378, xh375⟩
      obtain rfl := Fr.same hQ373
      refine wk_iadd r8_51 (wk_is2 r8_52 rfl (wk_inc3 r8_53 rfl (wk_goto r8_56 ?_)))
      exact wp_fg (le_s (le_s (le_s (le_s (le_n le_0))))) (ih379 (7 - (v328 + 1)).toNat (by omega) (v367 + v376) (v328 + 1) rfl (by first | with_reducible assumption | omega) (by first | with_reducible assumption | omega) (by first | with_reducible assumption | omega) (by first | with_reducible assumption | omega) (rk_back xp0 (by omega) (by omega) e339 e343 h349 h353 h358 xh363 xh375 h370 ⟨by omega, by omega⟩ ⟨by omega, by omega⟩ ti331) (Or.inl (by omega)) (by rw [HK_s (by omega), ← ti333]; show _ = _ * bT (M0 3 v328) + krK (M0 3 v328) (kdQ (M0 15 v328)).toNat; rw [e339, e343, ← bc_bT (m := v338) (by omega) (by omega), ← bc_kr (m := v338) (k := kdQ v342) (a := v354) (by omega) (by omega) (kdQ_b (by omega) (by omega)).1 (kdQ_b (by omega) (by omega)).2 (h353.trans (congrArg pw h349)) h358]; have := xh375; have q5 := h370; rw [xh363] at q5; omega))
  exact wp_fg (le_s (le_s (le_s (le_s (le_s le_0))))) (c4_379 _ 0 0 rfl (by first | with_reducible assumption | omega) (by first | with_reducible assumption | omega) (by first | with_reducible assumption | omega) (by first | with_reducible assumption | omega) (⟨by decide, Int.le_refl 1⟩) (Or.inr rfl) (rfl))
def fm_n7186_10 : Nat := 0
/-- IslandHall$Realm.answerAt -/
theorem n7186_10 {B : eB} (d : Nat) (M0 : Mm) (p1 : Int) (p2 : Int) (hP0 : Pw M0) (l1 : 0 ≤ p1) (u1 : p1 ≤ 2999) (l2 : 1 ≤ p2) (u2 : p2 ≤ 1) : Ct B (d + 1) 186 [R 10, I p1, I p2] M0 (qI fun z M => Pw M ∧ Fr fm_n7186_10 M0 M ∧ 0 ≤ z ∧ z ≤ 3 ∧ ((p2 = 1 ∧ z = rdX (M0 136 p1)) ∨ (p2 = 2 ∧ z = dyX (M0 136 p1)) ∨ (p2 = 3 ∧ z = wdX (M0 136 p1)) ∨ ((p2 < 1 ∨ 3 < p2) ∧ z = M0 137 p1))) := by
  refine ct_of (d := d + 0) (k := 0) (L := [some (R 10), some (I p1), some (I p2)]) rfl rfl rfl ?_
  have hF0 := Fr.rf fm_n7186_10 M0
  generalize hQ : (qI fun z M => Pw M ∧ Fr fm_n7186_10 M0 M ∧ 0 ≤ z ∧ z ≤ 3 ∧ ((p2 = 1 ∧ z = rdX (M0 136 p1)) ∨ (p2 = 2 ∧ z = dyX (M0 136 p1)) ∨ (p2 = 3 ∧ z = wdX (M0 136 p1)) ∨ ((p2 < 1 ∨ 3 < p2) ∧ z = M0 137 p1))) = Q
  refine wk_il2 r186_0 ?_
  refine wk_sw8 r186_1 ⟨by omega, by omega⟩ ?_ ?_ ?_ ?_
  · intro h1
    exfalso
    omega
  · intro h2
    refine wk_al0 r186_28 (wk_getfr r186_29 fd_10_1 (br_10_1 hP0) (wk_il1 r186_32 (wk_ialdb r186_33 ar_136 ⟨by omega, by omega⟩ (fun q0 q1 => ba_136 hP0 q0 q1) ?_)))
    intro v3 h5 h6 e4
    refine wk_c2 r186_34 (wk_ishrc r186_36 ⟨by omega, by omega⟩ (by decide) pwl_21 (wk_c1 r186_37 (wk_iandc 2 4 r186_38 ⟨rfl, by decide⟩ rfl ?_)))
    subst hQ; exact wk_iret r186_39 (⟨rfl, _, rfl, hP0, hF0, by omega, by omega, Or.inl ⟨by omega, by unfold rdX; rw [e4]⟩⟩)
  · intro h9
    exfalso
    omega
  · intro h10
    exfalso
    omega
def fm_n7204_10v4 : Nat := 4722366482869645213696
/-- IslandHall$Realm.set -/
theorem n7204_10v4 {B : eB} (d : Nat) (M0 : Mm) (p1 : Int) (p2 : Int) (hP0 : Pw M0) (l1 : 35 ≤ p1) (u1 : p1 ≤ 38) (l2 : 0 ≤ p2) (u2 : p2 ≤ 2999) : Ct B (d + 1) 204 [R 10, I p1, I p2] M0 (qV fun M => Pw M ∧ Fr fm_n7204_10v4 M0 M ∧ ((∀ (a j : Int) (b : Nat), b < 64 → tb M a j b = (tb M0 a j b || decide (a = 17 + p1 ∧ j = p2 / 64 ∧ (b : Int) = p2 % 64))) ∧ ∀ a j : Int, (a ≠ 17 + p1 ∨ j ≠ p2 / 64) → M a j = M0 a j)) := by
  refine ct_of (d := d + 0) (k := 0) (L := [some (R 10), some (I p1), some (I p2)]) rfl rfl rfl ?_
  have hF0 := Fr.rf fm_n7204_10v4 M0
  generalize hQ : (qV fun M => Pw M ∧ Fr fm_n7204_10v4 M0 M ∧ ((∀ (a j : Int) (b : Nat), b < 64 → tb M a j b = (tb M0 a j b || decide (a = 17 + p1 ∧ j = p2 / 64 ∧ (b : Int) = p2 % 64))) ∧ ∀ a j : Int, (a ≠ 17 + p1 ∨ j ≠ p2 / 64) → M a j = M0 a j)) = Q
  refine wk_al0 r204_0 (wk_getfr r204_1 fd_10_0 (br_10_0 hP0) (wk_il1 r204_4 (wk_raldb r204_5 ar_16 ⟨by omega, by omega⟩ (fun q0 q1 => ba_16 hP0 q0 q1) (wk_il2 r204_6 (wk_c2 r204_7 (wk_ishrc r204_9 ⟨by omega, by omega⟩ (by decide) pwl_6 (wk_dup2 r204_10 (wk_laldb r204_11 (arF_17 (by omega) (by omega)) ⟨by omega, by omega⟩ (fun q0 q1 => baF_17 hP0 (by omega) (by omega) q0 q1) (by decide) ?_))))))))
  intro n2 h4 h5 e3
  refine wk_c6 r204_12 (wk_il2 r204_13 (wk_c2 r204_14 (wk_iandc 6 64 r204_16 ⟨rfl, by decide⟩ rfl (wk_lshlb r204_17 ⟨by omega, by omega⟩ ?_))))
  intro n6 h7 h8 h9
  refine wk_lorb r204_18 ?_
  intro n10 h11 h12 h13
  refine wk_last r204_19 (arF_17 (by omega) (by omega)) ⟨by omega, by omega⟩ (wk_nw (gr_17 (by omega) (by omega) _) rfl hP0 hF0 (uaF_17 (by omega) (by omega) ⟨by omega, by omega⟩) ?_)
  intro M14 hP15 hF16 e17
  subst hQ; exact wk_ret r204_20 (⟨rfl, hP15, hF16, ⟨fun a j b hb => by by_cases q : a = 17 + p1 ∧ j = p2 / 64; (rw [show tb M14 a j b = Nat.testBit n10 b from tb_up (by rw [q.1, q.2, e17, show 17 + p1 = (17 + p1) by omega]; first | exact mUp_eq _ _ _ _ | (rw [show p2 / 64 = (p2 / 64) by omega]; exact mUp_eq _ _ _ _)) b, tb_or h12 hb, tb_sh h8 hb ⟨by omega, by omega⟩, show tb M0 a j b = Nat.testBit n2 b from tb_el (by rw [q.1, q.2, show 17 + p1 = (17 + p1) by omega]; first | exact e3 | (rw [show p2 / 64 = (p2 / 64) by omega]; exact e3)) b]; congr 1; exact decide_eq_decide.mpr ⟨fun x => ⟨q.1, q.2, by omega⟩, fun x => by have := x.2.2; omega⟩); (rw [tb_eq (show M14 a j = M0 a j by rw [e17, mUp_ne (by rcases Decidable.em (a = 17 + p1) with x | x; (exact Or.inr (fun y => q ⟨x, by omega⟩)); (exact Or.inl (fun y => x (by omega))))]), decide_eq_false (fun x => q ⟨x.1, x.2.1⟩), Bool.or_false]), fun a j q => by rw [e17, mUp_ne (by omega)]⟩⟩)
def fm_n7186_10v1 : Nat := 0
/-- IslandHall$Realm.answerAt -/
theorem n7186_10v1 {B : eB} (d : Nat) (M0 : Mm) (p1 : Int) (p2 : Int) (hP0 : Pw M0) (l1 : 0 ≤ p1) (u1 : p1 ≤ 2999) (l2 : 2 ≤ p2) (u2 : p2 ≤ 2) : Ct B (d + 1) 186 [R 10, I p1, I p2] M0 (qI fun z M => Pw M ∧ Fr fm_n7186_10v1 M0 M ∧ 0 ≤ z ∧ z ≤ 7 ∧ ((p2 = 1 ∧ z = rdX (M0 136 p1)) ∨ (p2 = 2 ∧ z = dyX (M0 136 p1)) ∨ (p2 = 3 ∧ z = wdX (M0 136 p1)) ∨ ((p2 < 1 ∨ 3 < p2) ∧ z = M0 137 p1))) := by
  refine ct_of (d := d + 0) (k := 0) (L := [some (R 10), some (I p1), some (I p2)]) rfl rfl rfl ?_
  have hF0 := Fr.rf fm_n7186_10v1 M0
  generalize hQ : (qI fun z M => Pw M ∧ Fr fm_n7186_10v1 M0 M ∧ 0 ≤ z ∧ z ≤ 7 ∧ ((p2 = 1 ∧ z = rdX (M0 136 p1)) ∨ (p2 = 2 ∧ z = dyX (M0 136 p1)) ∨ (p2 = 3 ∧ z = wdX (M0 136 p1)) ∨ ((p2 < 1 ∨ 3 < p2) ∧ z = M0 137 p1))) = Q
  refine wk_il2 r186_0 ?_
  refine wk_sw8 r186_1 ⟨by omega, by omega⟩ ?_ ?_ ?_ ?_
  · intro h1
    exfalso
    omega
  · intro h2
    exfalso
    omega
  · intro h3
    refine wk_al0 r186_40 (wk_getfr r186_41 fd_10_1 (br_10_1 hP0) (wk_il1 r186_44 (wk_ialdb r186_45 ar_136 ⟨by omega, by omega⟩ (fun q0 q1 => ba_136 hP0 q0 q1) ?_)))
    intro v4 h6 h7 e5
    refine wk_c2 r186_46 (wk_ishrc r186_48 ⟨by omega, by omega⟩ (by decide) pwl_23 (wk_c2 r186_49 (wk_iandc 3 8 r186_51 ⟨rfl, by decide⟩ rfl ?_)))
    subst hQ; exact wk_iret r186_52 (⟨rfl, _, rfl, hP0, hF0, by omega, by omega, Or.inr (Or.inl ⟨by omega, by unfold dyX; rw [e5]⟩)⟩)
  · intro h10
    exfalso
    omega
def fm_n7204_10v5 : Nat := 4722366482869645213696
/-- IslandHall$Realm.set -/
theorem n7204_10v5 {B : eB} (d : Nat) (M0 : Mm) (p1 : Int) (p2 : Int) (hP0 : Pw M0) (l1 : 39 ≤ p1) (u1 : p1 ≤ 46) (l2 : 0 ≤ p2) (u2 : p2 ≤ 2999) : Ct B (d + 1) 204 [R 10, I p1, I p2] M0 (qV fun M => Pw M ∧ Fr fm_n7204_10v5 M0 M ∧ ((∀ (a j : Int) (b : Nat), b < 64 → tb M a j b = (tb M0 a j b || decide (a = 17 + p1 ∧ j = p2 / 64 ∧ (b : Int) = p2 % 64))) ∧ ∀ a j : Int, (a ≠ 17 + p1 ∨ j ≠ p2 / 64) → M a j = M0 a j)) := by
  refine ct_of (d := d + 0) (k := 0) (L := [some (R 10), some (I p1), some (I p2)]) rfl rfl rfl ?_
  have hF0 := Fr.rf fm_n7204_10v5 M0
  generalize hQ : (qV fun M => Pw M ∧ Fr fm_n7204_10v5 M0 M ∧ ((∀ (a j : Int) (b : Nat), b < 64 → tb M a j b = (tb M0 a j b || decide (a = 17 + p1 ∧ j = p2 / 64 ∧ (b : Int) = p2 % 64))) ∧ ∀ a j : Int, (a ≠ 17 + p1 ∨ j ≠ p2 / 64) → M a j = M0 a j)) = Q
  refine wk_al0 r204_0 (wk_getfr r204_1 fd_10_0 (br_10_0 hP0) (wk_il1 r204_4 (wk_raldb r204_5 ar_16 ⟨by omega, by omega⟩ (fun q0 q1 => ba_16 hP0 q0 q1) (wk_il2 r204_6 (wk_c2 r204_7 (wk_ishrc r204_9 ⟨by omega, by omega⟩ (by decide) pwl_6 (wk_dup2 r204_10 (wk_laldb r204_11 (arF_17 (by omega) (by omega)) ⟨by omega, by omega⟩ (fun q0 q1 => baF_17 hP0 (by omega) (by omega) q0 q1) (by decide) ?_))))))))
  intro n2 h4 h5 e3
  refine wk_c6 r204_12 (wk_il2 r204_13 (wk_c2 r204_14 (wk_iandc 6 64 r204_16 ⟨rfl, by decide⟩ rfl (wk_lshlb r204_17 ⟨by omega, by omega⟩ ?_))))
  intro n6 h7 h8 h9
  refine wk_lorb r204_18 ?_
  intro n10 h11 h12 h13
  refine wk_last r204_19 (arF_17 (by omega) (by omega)) ⟨by omega, by omega⟩ (wk_nw (gr_17 (by omega) (by omega) _) rfl hP0 hF0 (uaF_17 (by omega) (by omega) ⟨by omega, by omega⟩) ?_)
  intro M14 hP15 hF16 e17
  subst hQ; exact wk_ret r204_20 (⟨rfl, hP15, hF16, ⟨fun a j b hb => by by_cases q : a = 17 + p1 ∧ j = p2 / 64; (rw [show tb M14 a j b = Nat.testBit n10 b from tb_up (by rw [q.1, q.2, e17, show 17 + p1 = (17 + p1) by omega]; first | exact mUp_eq _ _ _ _ | (rw [show p2 / 64 = (p2 / 64) by omega]; exact mUp_eq _ _ _ _)) b, tb_or h12 hb, tb_sh h8 hb ⟨by omega, by omega⟩, show tb M0 a j b = Nat.testBit n2 b from tb_el (by rw [q.1, q.2, show 17 + p1 = (17 + p1) by omega]; first | exact e3 | (rw [show p2 / 64 = (p2 / 64) by omega]; exact e3)) b]; congr 1; exact decide_eq_decide.mpr ⟨fun x => ⟨q.1, q.2, by omega⟩, fun x => by have := x.2.2; omega⟩); (rw [tb_eq (show M14 a j = M0 a j by rw [e17, mUp_ne (by rcases Decidable.em (a = 17 + p1) with x | x; (exact Or.inr (fun y => q ⟨x, by omega⟩)); (exact Or.inl (fun y => x (by omega))))]), decide_eq_false (fun x => q ⟨x.1, x.2.1⟩), Bool.or_false]), fun a j q => by rw [e17, mUp_ne (by omega)]⟩⟩)
def fm_n7186_10v2 : Nat := 0
/-- IslandHall$Realm.answerAt -/
theorem n7186_10v2 {B : eB} (d : Nat) (M0 : Mm) (p1 : Int) (p2 : Int) (hP0 : Pw M0) (l1 : 0 ≤ p1) (u1 : p1 ≤ 2999) (l2 : 3 ≤ p2) (u2 : p2 ≤ 3) : Ct B (d + 1) 186 [R 10, I p1, I p2] M0 (qI fun z M => Pw M ∧ Fr fm_n7186_10v2 M0 M ∧ 0 ≤ z ∧ z ≤ 1 ∧ ((p2 = 1 ∧ z = rdX (M0 136 p1)) ∨ (p2 = 2 ∧ z = dyX (M0 136 p1)) ∨ (p2 = 3 ∧ z = wdX (M0 136 p1)) ∨ ((p2 < 1 ∨ 3 < p2) ∧ z = M0 137 p1))) := by
  refine ct_of (d := d + 0) (k := 0) (L := [some (R 10), some (I p1), some (I p2)]) rfl rfl rfl ?_
  have hF0 := Fr.rf fm_n7186_10v2 M0
  generalize hQ : (qI fun z M => Pw M ∧ Fr fm_n7186_10v2 M0 M ∧ 0 ≤ z ∧ z ≤ 1 ∧ ((p2 = 1 ∧ z = rdX (M0 136 p1)) ∨ (p2 = 2 ∧ z = dyX (M0 136 p1)) ∨ (p2 = 3 ∧ z = wdX (M0 136 p1)) ∨ ((p2 < 1 ∨ 3 < p2) ∧ z = M0 137 p1))) = Q
  refine wk_il2 r186_0 ?_
  refine wk_sw8 r186_1 ⟨by omega, by omega⟩ ?_ ?_ ?_ ?_
  · intro h1
    exfalso
    omega
  · intro h2
    exfalso
    omega
  · intro h3
    exfalso
    omega
  · intro h4
    refine wk_al0 r186_53 (wk_getfr r186_54 fd_10_1 (br_10_1 hP0) (wk_il1 r186_57 (wk_ialdb r186_58 ar_136 ⟨by omega, by omega⟩ (fun q0 q1 => ba_136 hP0 q0 q1) ?_)))
    intro v5 h7 h8 e6
    refine wk_c2 r186_59 (wk_ishrc r186_61 ⟨by omega, by omega⟩ (by decide) pwl_26 (wk_c1 r186_62 (wk_iandc 1 2 r186_63 ⟨rfl, by decide⟩ rfl ?_)))
    subst hQ; exact wk_iret r186_64 (⟨rfl, _, rfl, hP0, hF0, by omega, by omega, Or.inr (Or.inr (Or.inl ⟨by omega, by unfold wdX; rw [e6]⟩))⟩)
def fm_n7204_10v6 : Nat := 4722366482869645213696
/-- IslandHall$Realm.set -/
theorem n7204_10v6 {B : eB} (d : Nat) (M0 : Mm) (p1 : Int) (p2 : Int) (hP0 : Pw M0) (l1 : 46 ≤ p1) (u1 : p1 ≤ 47) (l2 : 0 ≤ p2) (u2 : p2 ≤ 2999) : Ct B (d + 1) 204 [R 10, I p1, I p2] M0 (qV fun M => Pw M ∧ Fr fm_n7204_10v6 M0 M ∧ ((∀ (a j : Int) (b : Nat), b < 64 → tb M a j b = (tb M0 a j b || decide (a = 17 + p1 ∧ j = p2 / 64 ∧ (b : Int) = p2 % 64))) ∧ ∀ a j : Int, (a ≠ 17 + p1 ∨ j ≠ p2 / 64) → M a j = M0 a j)) := by
  refine ct_of (d := d + 0) (k := 0) (L := [some (R 10), some (I p1), some (I p2)]) rfl rfl rfl ?_
  have hF0 := Fr.rf fm_n7204_10v6 M0
  generalize hQ : (qV fun M => Pw M ∧ Fr fm_n7204_10v6 M0 M ∧ ((∀ (a j : Int) (b : Nat), b < 64 → tb M a j b = (tb M0 a j b || decide (a = 17 + p1 ∧ j = p2 / 64 ∧ (b : Int) = p2 % 64))) ∧ ∀ a j : Int, (a ≠ 17 + p1 ∨ j ≠ p2 / 64) → M a j = M0 a j)) = Q
  refine wk_al0 r204_0 (wk_getfr r204_1 fd_10_0 (br_10_0 hP0) (wk_il1 r204_4 (wk_raldb r204_5 ar_16 ⟨by omega, by omega⟩ (fun q0 q1 => ba_16 hP0 q0 q1) (wk_il2 r204_6 (wk_c2 r204_7 (wk_ishrc r204_9 ⟨by omega, by omega⟩ (by decide) pwl_6 (wk_dup2 r204_10 (wk_laldb r204_11 (arF_17 (by omega) (by omega)) ⟨by omega, by omega⟩ (fun q0 q1 => baF_17 hP0 (by omega) (by omega) q0 q1) (by decide) ?_))))))))
  intro n2 h4 h5 e3
  refine wk_c6 r204_12 (wk_il2 r204_13 (wk_c2 r204_14 (wk_iandc 6 64 r204_16 ⟨rfl, by decide⟩ rfl (wk_lshlb r204_17 ⟨by omega, by omega⟩ ?_))))
  intro n6 h7 h8 h9
  refine wk_lorb r204_18 ?_
  intro n10 h11 h12 h13
  refine wk_last r204_19 (arF_17 (by omega) (by omega)) ⟨by omega, by omega⟩ (wk_nw (gr_17 (by omega) (by omega) _) rfl hP0 hF0 (uaF_17 (by omega) (by omega) ⟨by omega, by omega⟩) ?_)
  intro M14 hP15 hF16 e17
  subst hQ; exact wk_ret r204_20 (⟨rfl, hP15, hF16, ⟨fun a j b hb => by by_cases q : a = 17 + p1 ∧ j = p2 / 64; (rw [show tb M14 a j b = Nat.testBit n10 b from tb_up (by rw [q.1, q.2, e17, show 17 + p1 = (17 + p1) by omega]; first | exact mUp_eq _ _ _ _ | (rw [show p2 / 64 = (p2 / 64) by omega]; exact mUp_eq _ _ _ _)) b, tb_or h12 hb, tb_sh h8 hb ⟨by omega, by omega⟩, show tb M0 a j b = Nat.testBit n2 b from tb_el (by rw [q.1, q.2, show 17 + p1 = (17 + p1) by omega]; first | exact e3 | (rw [show p2 / 64 = (p2 / 64) by omega]; exact e3)) b]; congr 1; exact decide_eq_decide.mpr ⟨fun x => ⟨q.1, q.2, by omega⟩, fun x => by have := x.2.2; omega⟩); (rw [tb_eq (show M14 a j = M0 a j by rw [e17, mUp_ne (by rcases Decidable.em (a = 17 + p1) with x | x; (exact Or.inr (fun y => q ⟨x, by omega⟩)); (exact Or.inl (fun y => x (by omega))))]), decide_eq_false (fun x => q ⟨x.1, x.2.1⟩), Bool.or_false]), fun a j q => by rw [e17, mUp_ne (by omega)]⟩⟩)
def fm_n7204_10v7 : Nat := 4722366482869645213696
/-- IslandHall$Realm.set -/
theorem n7204_10v7 {B : eB} (d : Nat) (M0 : Mm) (p1 : Int) (p2 : Int) (hP0 : Pw M0) (l1 : 118 ≤ p1) (u1 : p1 ≤ 118) (l2 : 0 ≤ p2) (u2 : p2 ≤ 2999) : Ct B (d + 1) 204 [R 10, I p1, I p2] M0 (qV fun M => Pw M ∧ Fr fm_n7204_10v7 M0 M ∧ ((∀ (a j : Int) (b : Nat), b < 64 → tb M a j b = (tb M0 a j b || decide (a = 17 + p1 ∧ j = p2 / 64 ∧ (b : Int) = p2 % 64))) ∧ ∀ a j : Int, (a ≠ 17 + p1 ∨ j ≠ p2 / 64) → M a j = M0 a j)) := by
  refine ct_of (d := d + 0) (k := 0) (L := [some (R 10), some (I p1), some (I p2)]) rfl rfl rfl ?_
  have hF0 := Fr.rf fm_n7204_10v7 M0
  generalize hQ : (qV fun M => Pw M ∧ Fr fm_n7204_10v7 M0 M ∧ ((∀ (a j : Int) (b : Nat), b < 64 → tb M a j b = (tb M0 a j b || decide (a = 17 + p1 ∧ j = p2 / 64 ∧ (b : Int) = p2 % 64))) ∧ ∀ a j : Int, (a ≠ 17 + p1 ∨ j ≠ p2 / 64) → M a j = M0 a j)) = Q
  refine wk_al0 r204_0 (wk_getfr r204_1 fd_10_0 (br_10_0 hP0) (wk_il1 r204_4 (wk_raldb r204_5 ar_16 ⟨by omega, by omega⟩ (fun q0 q1 => ba_16 hP0 q0 q1) (wk_il2 r204_6 (wk_c2 r204_7 (wk_ishrc r204_9 ⟨by omega, by omega⟩ (by decide) pwl_6 (wk_dup2 r204_10 (wk_laldb r204_11 (arF_17 (by omega) (by omega)) ⟨by omega, by omega⟩ (fun q0 q1 => baF_17 hP0 (by omega) (by omega) q0 q1) (by decide) ?_))))))))
  intro n2 h4 h5 e3
  refine wk_c6 r204_12 (wk_il2 r204_13 (wk_c2 r204_14 (wk_iandc 6 64 r204_16 ⟨rfl, by decide⟩ rfl (wk_lshlb r204_17 ⟨by omega, by omega⟩ ?_))))
  intro n6 h7 h8 h9
  refine wk_lorb r204_18 ?_
  intro n10 h11 h12 h13
  refine wk_last r204_19 (arF_17 (by omega) (by omega)) ⟨by omega, by omega⟩ (wk_nw (gr_17 (by omega) (by omega) _) rfl hP0 hF0 (uaF_17 (by omega) (by omega) ⟨by omega, by omega⟩) ?_)
  intro M14 hP15 hF16 e17
  subst hQ; exact wk_ret r204_20 (⟨rfl, hP15, hF16, ⟨fun a j b hb => by by_cases q : a = 17 + p1 ∧ j = p2 / 64; (rw [show tb M14 a j b = Nat.testBit n10 b from tb_up (by rw [q.1, q.2, e17, show 17 + p1 = (17 + p1) by omega]; first | exact mUp_eq _ _ _ _ | (rw [show p2 / 64 = (p2 / 64) by omega]; exact mUp_eq _ _ _ _)) b, tb_or h12 hb, tb_sh h8 hb ⟨by omega, by omega⟩, show tb M0 a j b = Nat.testBit n2 b from tb_el (by rw [q.1, q.2, show 17 + p1 = (17 + p1) by omega]; first | exact e3 | (rw [show p2 / 64 = (p2 / 64) by omega]; exact e3)) b]; congr 1; exact decide_eq_decide.mpr ⟨fun x => ⟨q.1, q.2, by omega⟩, fun x => by have := x.2.2; omega⟩); (rw [tb_eq (show M14 a j = M0 a j by rw [e17, mUp_ne (by rcases Decidable.em (a = 17 + p1) with x | x; (exact Or.inr (fun y => q ⟨x, by omega⟩)); (exact Or.inl (fun y => x (by omega))))]), decide_eq_false (fun x => q ⟨x.1, x.2.1⟩), Bool.or_false]), fun a j q => by rw [e17, mUp_ne (by omega)]⟩⟩)
def fm_n7204_10v8 : Nat := 4722366482869645213696
/-- IslandHall$Realm.set -/
theorem n7204_10v8 {B : eB} (d : Nat) (M0 : Mm) (p1 : Int) (p2 : Int) (hP0 : Pw M0) (l1 : 48 ≤ p1) (u1 : p1 ≤ 87) (l2 : 0 ≤ p2) (u2 : p2 ≤ 2999) : Ct B (d + 1) 204 [R 10, I p1, I p2] M0 (qV fun M => Pw M ∧ Fr fm_n7204_10v8 M0 M ∧ ((∀ (a j : Int) (b : Nat), b < 64 → tb M a j b = (tb M0 a j b || decide (a = 17 + p1 ∧ j = p2 / 64 ∧ (b : Int) = p2 % 64))) ∧ ∀ a j : Int, (a ≠ 17 + p1 ∨ j ≠ p2 / 64) → M a j = M0 a j)) := by
  refine ct_of (d := d + 0) (k := 0) (L := [some (R 10), some (I p1), some (I p2)]) rfl rfl rfl ?_
  have hF0 := Fr.rf fm_n7204_10v8 M0
  generalize hQ : (qV fun M => Pw M ∧ Fr fm_n7204_10v8 M0 M ∧ ((∀ (a j : Int) (b : Nat), b < 64 → tb M a j b = (tb M0 a j b || decide (a = 17 + p1 ∧ j = p2 / 64 ∧ (b : Int) = p2 % 64))) ∧ ∀ a j : Int, (a ≠ 17 + p1 ∨ j ≠ p2 / 64) → M a j = M0 a j)) = Q
  refine wk_al0 r204_0 (wk_getfr r204_1 fd_10_0 (br_10_0 hP0) (wk_il1 r204_4 (wk_raldb r204_5 ar_16 ⟨by omega, by omega⟩ (fun q0 q1 => ba_16 hP0 q0 q1) (wk_il2 r204_6 (wk_c2 r204_7 (wk_ishrc r204_9 ⟨by omega, by omega⟩ (by decide) pwl_6 (wk_dup2 r204_10 (wk_laldb r204_11 (arF_17 (by omega) (by omega)) ⟨by omega, by omega⟩ (fun q0 q1 => baF_17 hP0 (by omega) (by omega) q0 q1) (by decide) ?_))))))))
  intro n2 h4 h5 e3
  refine wk_c6 r204_12 (wk_il2 r204_13 (wk_c2 r204_14 (wk_iandc 6 64 r204_16 ⟨rfl, by decide⟩ rfl (wk_lshlb r204_17 ⟨by omega, by omega⟩ ?_))))
  intro n6 h7 h8 h9
  refine wk_lorb r204_18 ?_
  intro n10 h11 h12 h13
  refine wk_last r204_19 (arF_17 (by omega) (by omega)) ⟨by omega, by omega⟩ (wk_nw (gr_17 (by omega) (by omega) _) rfl hP0 hF0 (uaF_17 (by omega) (by omega) ⟨by omega, by omega⟩) ?_)
  intro M14 hP15 hF16 e17
  subst hQ; exact wk_ret r204_20 (⟨rfl, hP15, hF16, ⟨fun a j b hb => by by_cases q : a = 17 + p1 ∧ j = p2 / 64; (rw [show tb M14 a j b = Nat.testBit n10 b from tb_up (by rw [q.1, q.2, e17, show 17 + p1 = (17 + p1) by omega]; first | exact mUp_eq _ _ _ _ | (rw [show p2 / 64 = (p2 / 64) by omega]; exact mUp_eq _ _ _ _)) b, tb_or h12 hb, tb_sh h8 hb ⟨by omega, by omega⟩, show tb M0 a j b = Nat.testBit n2 b from tb_el (by rw [q.1, q.2, show 17 + p1 = (17 + p1) by omega]; first | exact e3 | (rw [show p2 / 64 = (p2 / 64) by omega]; exact e3)) b]; congr 1; exact decide_eq_decide.mpr ⟨fun x => ⟨q.1, q.2, by omega⟩, fun x => by have := x.2.2; omega⟩); (rw [tb_eq (show M14 a j = M0 a j by rw [e17, mUp_ne (by rcases Decidable.em (a = 17 + p1) with x | x; (exact Or.inr (fun y => q ⟨x, by omega⟩)); (exact Or.inl (fun y => x (by omega))))]), decide_eq_false (fun x => q ⟨x.1, x.2.1⟩), Bool.or_false]), fun a j q => by rw [e17, mUp_ne (by omega)]⟩⟩)
def fm_n7188_10 : Nat := 0
/-- IslandHall$Realm.codeAt -/
theorem n7188_10 {B : eB} (d : Nat) (M0 : Mm) (p1 : Int) (p2 : Int) (hP0 : Pw M0) (l1 : 0 ≤ p1) (u1 : p1 ≤ 2999) (l2 : 0 ≤ p2) (u2 : p2 ≤ 6) : Ct B (d + 1) 188 [R 10, I p1, I p2] M0 (qI fun z M => Pw M ∧ Fr fm_n7188_10 M0 M ∧ 0 ≤ z ∧ z ≤ 7 ∧ (z = cdX (M0 136 p1) p2)) := by
  refine ct_of (d := d + 0) (k := 0) (L := [some (R 10), some (I p1), some (I p2)]) rfl rfl rfl ?_
  have hF0 := Fr.rf fm_n7188_10 M0
  generalize hQ : (qI fun z M => Pw M ∧ Fr fm_n7188_10 M0 M ∧ 0 ≤ z ∧ z ≤ 7 ∧ (z = cdX (M0 136 p1) p2)) = Q
  refine wk_al0 r188_0 (wk_getfr r188_1 fd_10_1 (br_10_1 hP0) (wk_il1 r188_4 (wk_ialdb r188_5 ar_136 ⟨by omega, by omega⟩ (fun q0 q1 => ba_136 hP0 q0 q1) ?_)))
  intro v1 h3 h4 e2
  refine wk_c1 r188_6 (wk_il2 r188_7 (wk_imul r188_8 (wk_shrb r188_9 ⟨by omega, by omega⟩ ⟨by omega, by omega⟩ ?_)))
  intro v5 h6 h7 h8
  refine wk_c2 r188_10 (wk_iandc 3 8 r188_12 ⟨rfl, by decide⟩ rfl ?_)
  subst hQ; exact wk_iret r188_13 (⟨rfl, _, rfl, hP0, hF0, by omega, by omega, by unfold cdX; rw [e2, ← h8]⟩)
def fm_n7197_10 : Nat := 0
/-- IslandHall$Realm.kindAt -/
theorem n7197_10 {B : eB} (d : Nat) (M0 : Mm) (p1 : Int) (p2 : Int) (hP0 : Pw M0) (l1 : 0 ≤ p1) (u1 : p1 ≤ 2999) (l2 : 0 ≤ p2) (u2 : p2 ≤ 6) : Ct B (d + 2) 197 [R 10, I p1, I p2] M0 (qI fun z M => Pw M ∧ Fr fm_n7197_10 M0 M ∧ 0 ≤ z ∧ z ≤ 4 ∧ (z = kdC (cdX (M0 136 p1) p2))) := by
  refine ct_of (d := d + 1) (k := 1) (L := [some (R 10), some (I p1), some (I p2), none]) rfl rfl rfl ?_
  have hF0 := Fr.rf fm_n7197_10 M0
  generalize hQ : (qI fun z M => Pw M ∧ Fr fm_n7197_10 M0 M ∧ 0 ≤ z ∧ z ≤ 4 ∧ (z = kdC (cdX (M0 136 p1) p2))) = Q
  refine wk_al0 r197_0 (wk_il1 r197_1 (wk_il2 r197_2 (wk_cv3 r197_3 kc_10_188 rfl (n7188_10 _ M0 p1 p2 hP0 (by first | with_reducible assumption | omega) (by first | with_reducible assumption | omega) (by first | with_reducible assumption | omega) (by first | with_reducible assumption | omega)) (cqI ?_))))
  rintro v6 M1 ⟨hP2, hQ3, h7, h8, xh5⟩
  obtain rfl := Fr.same hQ3
  refine wk_is3 r197_6 rfl (wk_il3 r197_7 (wk_c2 r197_8 ?_))
  refine wk_icge r197_10 ⟨by omega, by omega⟩ (by decide) ?_ ?_
  · intro h9
    refine wk_c1 r197_21 ?_
    subst hQ; exact wk_iret r197_22 (⟨rfl, _, rfl, hP0, hF0, by omega, by omega, by rw [← xh5]; unfold kdC; rw [if_neg (by omega)]⟩)
  · intro h10
    refine wk_kget r197_13 (wk_il3 r197_16 (wk_kald r197_17 ⟨by omega, by omega⟩ ?_))
    intro v11 h12 h13 h14
    refine wk_goto r197_18 ?_
    subst hQ; exact wk_iret r197_22 (⟨rfl, _, rfl, hP0, hF0, by omega, by omega, by rw [← xh5]; unfold kdC; rw [if_pos (by omega)]; exact h14⟩)
def fm_n7204_10v9 : Nat := 4722366482869645213696
/-- IslandHall$Realm.set -/
theorem n7204_10v9 {B : eB} (d : Nat) (M0 : Mm) (p1 : Int) (p2 : Int) (hP0 : Pw M0) (l1 : 0 ≤ p1) (u1 : p1 ≤ 34) (l2 : 0 ≤ p2) (u2 : p2 ≤ 2999) : Ct B (d + 1) 204 [R 10, I p1, I p2] M0 (qV fun M => Pw M ∧ Fr fm_n7204_10v9 M0 M ∧ ((∀ (a j : Int) (b : Nat), b < 64 → tb M a j b = (tb M0 a j b || decide (a = 17 + p1 ∧ j = p2 / 64 ∧ (b : Int) = p2 % 64))) ∧ ∀ a j : Int, (a ≠ 17 + p1 ∨ j ≠ p2 / 64) → M a j = M0 a j)) := by
  refine ct_of (d := d + 0) (k := 0) (L := [some (R 10), some (I p1), some (I p2)]) rfl rfl rfl ?_
  have hF0 := Fr.rf fm_n7204_10v9 M0
  generalize hQ : (qV fun M => Pw M ∧ Fr fm_n7204_10v9 M0 M ∧ ((∀ (a j : Int) (b : Nat), b < 64 → tb M a j b = (tb M0 a j b || decide (a = 17 + p1 ∧ j = p2 / 64 ∧ (b : Int) = p2 % 64))) ∧ ∀ a j : Int, (a ≠ 17 + p1 ∨ j ≠ p2 / 64) → M a j = M0 a j)) = Q
  refine wk_al0 r204_0 (wk_getfr r204_1 fd_10_0 (br_10_0 hP0) (wk_il1 r204_4 (wk_raldb r204_5 ar_16 ⟨by omega, by omega⟩ (fun q0 q1 => ba_16 hP0 q0 q1) (wk_il2 r204_6 (wk_c2 r204_7 (wk_ishrc r204_9 ⟨by omega, by omega⟩ (by decide) pwl_6 (wk_dup2 r204_10 (wk_laldb r204_11 (arF_17 (by omega) (by omega)) ⟨by omega, by omega⟩ (fun q0 q1 => baF_17 hP0 (by omega) (by omega) q0 q1) (by decide) ?_))))))))
  intro n2 h4 h5 e3
  refine wk_c6 r204_12 (wk_il2 r204_13 (wk_c2 r204_14 (wk_iandc 6 64 r204_16 ⟨rfl, by decide⟩ rfl (wk_lshlb r204_17 ⟨by omega, by omega⟩ ?_))))
  intro n6 h7 h8 h9
  refine wk_lorb r204_18 ?_
  intro n10 h11 h12 h13
  refine wk_last r204_19 (arF_17 (by omega) (by omega)) ⟨by omega, by omega⟩ (wk_nw (gr_17 (by omega) (by omega) _) rfl hP0 hF0 (uaF_17 (by omega) (by omega) ⟨by omega, by omega⟩) ?_)
  intro M14 hP15 hF16 e17
  subst hQ; exact wk_ret r204_20 (⟨rfl, hP15, hF16, ⟨fun a j b hb => by by_cases q : a = 17 + p1 ∧ j = p2 / 64; (rw [show tb M14 a j b = Nat.testBit n10 b from tb_up (by rw [q.1, q.2, e17, show 17 + p1 = (17 + p1) by omega]; first | exact mUp_eq _ _ _ _ | (rw [show p2 / 64 = (p2 / 64) by omega]; exact mUp_eq _ _ _ _)) b, tb_or h12 hb, tb_sh h8 hb ⟨by omega, by omega⟩, show tb M0 a j b = Nat.testBit n2 b from tb_el (by rw [q.1, q.2, show 17 + p1 = (17 + p1) by omega]; first | exact e3 | (rw [show p2 / 64 = (p2 / 64) by omega]; exact e3)) b]; congr 1; exact decide_eq_decide.mpr ⟨fun x => ⟨q.1, q.2, by omega⟩, fun x => by have := x.2.2; omega⟩); (rw [tb_eq (show M14 a j = M0 a j by rw [e17, mUp_ne (by rcases Decidable.em (a = 17 + p1) with x | x; (exact Or.inr (fun y => q ⟨x, by omega⟩)); (exact Or.inl (fun y => x (by omega))))]), decide_eq_false (fun x => q ⟨x.1, x.2.1⟩), Bool.or_false]), fun a j q => by rw [e17, mUp_ne (by omega)]⟩⟩)
def fm_n7192_10 : Nat := 0
/-- IslandHall$Realm.honestAt -/
theorem n7192_10 {B : eB} (d : Nat) (M0 : Mm) (p1 : Int) (p2 : Int) (p3 : Int) (x10_8 : Int) (hP0 : Pw M0) (l1 : 0 ≤ p1) (u1 : p1 ≤ 2999) (l2 : 0 ≤ p2) (u2 : p2 ≤ 6) (l3 : 0 ≤ p3) (u3 : p3 ≤ 0) (ex10_8 : M0 10 8 = x10_8) (lx10_8 : 0 ≤ x10_8) (ux10_8 : x10_8 ≤ 127) : Ct B (d + 3) 192 [R 10, I p1, I p2, I p3] M0 (qI fun z M => Pw M ∧ Fr fm_n7192_10 M0 M ∧ 0 ≤ z ∧ z ≤ 1 ∧ ((z = 1 ∧ lyT (M0 10 8) (cdX (M0 136 p1) p2) (dyX (M0 136 p1)) p3 = 0) ∨ (z = 0 ∧ lyT (M0 10 8) (cdX (M0 136 p1) p2) (dyX (M0 136 p1)) p3 ≠ 0))) := by
  refine ct_of (d := d + 2) (k := 0) (L := [some (R 10), some (I p1), some (I p2), some (I p3)]) rfl rfl rfl ?_
  have hF0 := Fr.rf fm_n7192_10 M0
  generalize hQ : (qI fun z M => Pw M ∧ Fr fm_n7192_10 M0 M ∧ 0 ≤ z ∧ z ≤ 1 ∧ ((z = 1 ∧ lyT (M0 10 8) (cdX (M0 136 p1) p2) (dyX (M0 136 p1)) p3 = 0) ∨ (z = 0 ∧ lyT (M0 10 8) (cdX (M0 136 p1) p2) (dyX (M0 136 p1)) p3 ≠ 0))) = Q
  refine wk_al0 r192_0 (wk_il1 r192_1 (wk_il2 r192_2 (wk_cv3 r192_3 kc_10_197 rfl (n7197_10 _ M0 p1 p2 hP0 (by first | with_reducible assumption | omega) (by first | with_reducible assumption | omega) (by first | with_reducible assumption | omega) (by first | with_reducible assumption | omega)) (cqI ?_))))
  rintro v6 M1 ⟨hP2, hQ3, h7, h8, xh5⟩
  obtain rfl := Fr.same hQ3
  refine wk_sw9 r192_6 ⟨by omega, by omega⟩ ?_ ?_ ?_ ?_ ?_
  · intro h9
    refine wk_c1 r192_94 ?_
    subst hQ; exact wk_zret r192_95 (by decide) (⟨rfl, _, rfl, hP0, hF0, by omega, by omega, by have k1 := xh5; have q := ly_hon (ls := M0 10 8) (day := dyX (M0 136 p1)) (cdX_b (M0 136 p1) p2).1 (cdX_b (M0 136 p1) p2).2 (t := p3) (by omega) (by omega); omega⟩)
  · intro h10
    refine wk_c1 r192_36 ?_
    subst hQ; exact wk_zret r192_37 (by decide) (⟨rfl, _, rfl, hP0, hF0, by omega, by omega, by have k1 := xh5; have q := ly_hon (ls := M0 10 8) (day := dyX (M0 136 p1)) (cdX_b (M0 136 p1) p2).1 (cdX_b (M0 136 p1) p2).2 (t := p3) (by omega) (by omega); omega⟩)
  · intro h11
    refine wk_c1 r192_94 ?_
    subst hQ; exact wk_zret r192_95 (by decide) (⟨rfl, _, rfl, hP0, hF0, by omega, by omega, by have k1 := xh5; have q := ly_hon (ls := M0 10 8) (day := dyX (M0 136 p1)) (cdX_b (M0 136 p1) p2).1 (cdX_b (M0 136 p1) p2).2 (t := p3) (by omega) (by omega); omega⟩)
  · intro h12
    refine wk_al0 r192_38 (wk_il1 r192_39 (wk_il2 r192_40 (wk_cv3 r192_41 kc_10_188 rfl (n7188_10 _ M0 p1 p2 hP0 (by first | with_reducible assumption | omega) (by first | with_reducible assumption | omega) (by first | with_reducible assumption | omega) (by first | with_reducible assumption | omega)) (cqI ?_))))
    rintro v18 M13 ⟨hP14, hQ15, h19, h20, xh17⟩
    obtain rfl := Fr.same hQ15
    refine wk_c1 r192_44 ?_
    refine wk_icne r192_45 ⟨by omega, by omega⟩ (by decide) ?_ ?_
    · intro h21
      refine wk_c1 r192_52 (wk_il3 r192_53 (wk_c1 r192_54 ?_))
      refine wk_icne r192_55 ⟨by omega, by omega⟩ (by decide) ?_ ?_
      · intro h22
        refine wk_c1 r192_62 ?_
        refine wk_icne r192_63 (by decide) (by decide) ?_ ?_
        · intro h23
          exfalso
          omega
        · intro h24
          refine wk_c1 r192_66 (wk_goto r192_67 ?_)
          subst hQ; exact wk_zret r192_71 (by decide) (⟨rfl, _, rfl, hP0, hF0, by omega, by omega, by have k1 := xh5; have k2 := xh17; have q := ly_hon (ls := M0 10 8) (day := dyX (M0 136 p1)) (cdX_b (M0 136 p1) p2).1 (cdX_b (M0 136 p1) p2).2 (t := p3) (by omega) (by omega); omega⟩)
      · intro h25
        exfalso
        omega
    · intro h26
      refine wk_c1 r192_48 (wk_goto r192_49 (wk_il3 r192_53 (wk_c1 r192_54 ?_)))
      refine wk_icne r192_55 ⟨by omega, by omega⟩ (by decide) ?_ ?_
      · intro h27
        refine wk_c1 r192_62 ?_
        refine wk_icne r192_63 (by decide) (by decide) ?_ ?_
        · intro h28
          refine wk_c1 r192_70 ?_
          subst hQ; exact wk_zret r192_71 (by decide) (⟨rfl, _, rfl, hP0, hF0, by omega, by omega, by have k1 := xh5; have k2 := xh17; have q := ly_hon (ls := M0 10 8) (day := dyX (M0 136 p1)) (cdX_b (M0 136 p1) p2).1 (cdX_b (M0 136 p1) p2).2 (t := p3) (by omega) (by omega); omega⟩)
        · intro h29
          exfalso
          omega
      · intro h30
        exfalso
        omega
  · intro h31
    refine wk_al0 r192_72 (wk_getfi r192_73 fd_10_8 ex10_8 (wk_al0 r192_76 (wk_il1 r192_77 (wk_c1 r192_78 (wk_cv3 r192_79 kc_10_186 rfl (n7186_10v1 _ M0 p1 2 hP0 (by first | with_reducible assumption | omega) (by first | with_reducible assumption | omega) (by decide) (by decide)) (cqI ?_))))))
    rintro v37 M32 ⟨hP33, hQ34, h38, h39, xh36⟩
    obtain rfl := Fr.same hQ34
    refine wk_shrb r192_82 ⟨by omega, by omega⟩ ⟨by omega, by omega⟩ ?_
    intro v40 h41 h42 h43
    refine wk_c1 r192_83 (wk_iandc 1 2 r192_84 ⟨rfl, by decide⟩ rfl ?_)
    refine wk_ifne r192_85 ⟨by omega, by omega⟩ ?_ ?_
    · intro h45
      refine wk_c1 r192_92 ?_
      subst hQ; exact wk_zret r192_93 (by decide) (⟨rfl, _, rfl, hP0, hF0, by omega, by omega, by have k1 := xh5; have k3 := (xh36).resolve_left (fun q => by omega); have k4 := k3.elim (fun q => q.2) (fun q => by omega); have k5 : M0 10 8 / pw (dyX (M0 136 p1)) % 2 = v40 % 2 := (by rw [← k4, ex10_8, ← h43]); have q := ly_hon (ls := M0 10 8) (day := dyX (M0 136 p1)) (cdX_b (M0 136 p1) p2).1 (cdX_b (M0 136 p1) p2).2 (t := p3) (by omega) (by omega); omega⟩)
    · intro h46
      refine wk_c1 r192_88 (wk_goto r192_89 ?_)
      subst hQ; exact wk_zret r192_93 (by decide) (⟨rfl, _, rfl, hP0, hF0, by omega, by omega, by have k1 := xh5; have k3 := (xh36).resolve_left (fun q => by omega); have k4 := k3.elim (fun q => q.2) (fun q => by omega); have k5 : M0 10 8 / pw (dyX (M0 136 p1)) % 2 = v40 % 2 := (by rw [← k4, ex10_8, ← h43]); have q := ly_hon (ls := M0 10 8) (day := dyX (M0 136 p1)) (cdX_b (M0 136 p1) p2).1 (cdX_b (M0 136 p1) p2).2 (t := p3) (by omega) (by omega); omega⟩)
def fm_n7192_10v1 : Nat := 0
/-- IslandHall$Realm.honestAt -/
theorem n7192_10v1 {B : eB} (d : Nat) (M0 : Mm) (p1 : Int) (p2 : Int) (p3 : Int) (x10_8 : Int) (hP0 : Pw M0) (l1 : 0 ≤ p1) (u1 : p1 ≤ 2999) (l2 : 0 ≤ p2) (u2 : p2 ≤ 6) (l3 : 0 ≤ p3) (u3 : p3 ≤ 1) (ex10_8 : M0 10 8 = x10_8) (lx10_8 : 0 ≤ x10_8) (ux10_8 : x10_8 ≤ 127) : Ct B (d + 3) 192 [R 10, I p1, I p2, I p3] M0 (qI fun z M => Pw M ∧ Fr fm_n7192_10v1 M0 M ∧ 0 ≤ z ∧ z ≤ 1 ∧ ((z = 1 ∧ lyT (M0 10 8) (cdX (M0 136 p1) p2) (dyX (M0 136 p1)) p3 = 0) ∨ (z = 0 ∧ lyT (M0 10 8) (cdX (M0 136 p1) p2) (dyX (M0 136 p1)) p3 ≠ 0))) := by
  refine ct_of (d := d + 2) (k := 0) (L := [some (R 10), some (I p1), some (I p2), some (I p3)]) rfl rfl rfl ?_
  have hF0 := Fr.rf fm_n7192_10v1 M0
  generalize hQ : (qI fun z M => Pw M ∧ Fr fm_n7192_10v1 M0 M ∧ 0 ≤ z ∧ z ≤ 1 ∧ ((z = 1 ∧ lyT (M0 10 8) (cdX (M0 136 p1) p2) (dyX (M0 136 p1)) p3 = 0) ∨ (z = 0 ∧ lyT (M0 10 8) (cdX (M0 136 p1) p2) (dyX (M0 136 p1)) p3 ≠ 0))) = Q
  refine wk_al0 r192_0 (wk_il1 r192_1 (wk_il2 r192_2 (wk_cv3 r192_3 kc_10_197 rfl (n7197_10 _ M0 p1 p2 hP0 (by first | with_reducible assumption | omega) (by first | with_reducible assumption | omega) (by first | with_reducible assumption | omega) (by first | with_reducible assumption | omega)) (cqI ?_))))
  rintro v6 M1 ⟨hP2, hQ3, h7, h8, xh5⟩
  obtain rfl := Fr.same hQ3
  refine wk_sw9 r192_6 ⟨by omega, by omega⟩ ?_ ?_ ?_ ?_ ?_
  · intro h9
    refine wk_c1 r192_94 ?_
    subst hQ; exact wk_zret r192_95 (by decide) (⟨rfl, _, rfl, hP0, hF0, by omega, by omega, by have k1 := xh5; have q := ly_hon (ls := M0 10 8) (day := dyX (M0 136 p1)) (cdX_b (M0 136 p1) p2).1 (cdX_b (M0 136 p1) p2).2 (t := p3) (by omega) (by omega); omega⟩)
  · intro h10
    refine wk_c1 r192_36 ?_
    subst hQ; exact wk_zret r192_37 (by decide) (⟨rfl, _, rfl, hP0, hF0, by omega, by omega, by have k1 := xh5; have q := ly_hon (ls := M0 10 8) (day := dyX (M0 136 p1)) (cdX_b (M0 136 p1) p2).1 (cdX_b (M0 136 p1) p2).2 (t := p3) (by omega) (by omega); omega⟩)
  · intro h11
    refine wk_c1 r192_94 ?_
    subst hQ; exact wk_zret r192_95 (by decide) (⟨rfl, _, rfl, hP0, hF0, by omega, by omega, by have k1 := xh5; have q := ly_hon (ls := M0 10 8) (day := dyX (M0 136 p1)) (cdX_b (M0 136 p1) p2).1 (cdX_b (M0 136 p1) p2).2 (t := p3) (by omega) (by omega); omega⟩)
  · intro h12
    refine wk_al0 r192_38 (wk_il1 r192_39 (wk_il2 r192_40 (wk_cv3 r192_41 kc_10_188 rfl (n7188_10 _ M0 p1 p2 hP0 (by first | with_reducible assumption | omega) (by first | with_reducible assumption | omega) (by first | with_reducible assumption | omega) (by first | with_reducible assumption | omega)) (cqI ?_))))
    rintro v18 M13 ⟨hP14, hQ15, h19, h20, xh17⟩
    obtain rfl := Fr.same hQ15
    refine wk_c1 r192_44 ?_
    refine wk_icne r192_45 ⟨by omega, by omega⟩ (by decide) ?_ ?_
    · intro h21
      refine wk_c1 r192_52 (wk_il3 r192_53 (wk_c1 r192_54 ?_))
      refine wk_icne r192_55 ⟨by omega, by omega⟩ (by decide) ?_ ?_
      · intro h22
        refine wk_c1 r192_62 ?_
        refine wk_icne r192_63 (by decide) (by decide) ?_ ?_
        · intro h23
          exfalso
          omega
        · intro h24
          refine wk_c1 r192_66 (wk_goto r192_67 ?_)
          subst hQ; exact wk_zret r192_71 (by decide) (⟨rfl, _, rfl, hP0, hF0, by omega, by omega, by have k1 := xh5; have k2 := xh17; have q := ly_hon (ls := M0 10 8) (day := dyX (M0 136 p1)) (cdX_b (M0 136 p1) p2).1 (cdX_b (M0 136 p1) p2).2 (t := p3) (by omega) (by omega); omega⟩)
      · intro h25
        refine wk_c1 r192_58 (wk_goto r192_59 ?_)
        refine wk_icne r192_63 (by decide) (by decide) ?_ ?_
        · intro h26
          refine wk_c1 r192_70 ?_
          subst hQ; exact wk_zret r192_71 (by decide) (⟨rfl, _, rfl, hP0, hF0, by omega, by omega, by have k1 := xh5; have k2 := xh17; have q := ly_hon (ls := M0 10 8) (day := dyX (M0 136 p1)) (cdX_b (M0 136 p1) p2).1 (cdX_b (M0 136 p1) p2).2 (t := p3) (by omega) (by omega); omega⟩)
        · intro h27
          exfalso
          omega
    · intro h28
      refine wk_c1 r192_48 (wk_goto r192_49 (wk_il3 r192_53 (wk_c1 r192_54 ?_)))
      refine wk_icne r192_55 ⟨by omega, by omega⟩ (by decide) ?_ ?_
      · intro h29
        refine wk_c1 r192_62 ?_
        refine wk_icne r192_63 (by decide) (by decide) ?_ ?_
        · intro h30
          refine wk_c1 r192_70 ?_
          subst hQ; exact wk_zret r192_71 (by decide) (⟨rfl, _, rfl, hP0, hF0, by omega, by omega, by have k1 := xh5; have k2 := xh17; have q := ly_hon (ls := M0 10 8) (day := dyX (M0 136 p1)) (cdX_b (M0 136 p1) p2).1 (cdX_b (M0 136 p1) p2).2 (t := p3) (by omega) (by omega); omega⟩)
        · intro h31
          exfalso
          omega
      · intro h32
        refine wk_c1 r192_58 (wk_goto r192_59 ?_)
        refine wk_icne r192_63 (by decide) (by decide) ?_ ?_
        · intro h33
          exfalso
          omega
        · intro h34
          refine wk_c1 r192_66 (wk_goto r192_67 ?_)
          subst hQ; exact wk_zret r192_71 (by decide) (⟨rfl, _, rfl, hP0, hF0, by omega, by omega, by have k1 := xh5; have k2 := xh17; have q := ly_hon (ls := M0 10 8) (day := dyX (M0 136 p1)) (cdX_b (M0 136 p1) p2).1 (cdX_b (M0 136 p1) p2).2 (t := p3) (by omega) (by omega); omega⟩)
  · intro h35
    refine wk_al0 r192_72 (wk_getfi r192_73 fd_10_8 ex10_8 (wk_al0 r192_76 (wk_il1 r192_77 (wk_c1 r192_78 (wk_cv3 r192_79 kc_10_186 rfl (n7186_10v1 _ M0 p1 2 hP0 (by first | with_reducible assumption | omega) (by first | with_reducible assumption | omega) (by decide) (by decide)) (cqI ?_))))))
    rintro v41 M36 ⟨hP37, hQ38, h42, h43, xh40⟩
    obtain rfl := Fr.same hQ38
    refine wk_shrb r192_82 ⟨by omega, by omega⟩ ⟨by omega, by omega⟩ ?_
    intro v44 h45 h46 h47
    refine wk_c1 r192_83 (wk_iandc 1 2 r192_84 ⟨rfl, by decide⟩ rfl ?_)
    refine wk_ifne r192_85 ⟨by omega, by omega⟩ ?_ ?_
    · intro h49
      refine wk_c1 r192_92 ?_
      subst hQ; exact wk_zret r192_93 (by decide) (⟨rfl, _, rfl, hP0, hF0, by omega, by omega, by have k1 := xh5; have k3 := (xh40).resolve_left (fun q => by omega); have k4 := k3.elim (fun q => q.2) (fun q => by omega); have k5 : M0 10 8 / pw (dyX (M0 136 p1)) % 2 = v44 % 2 := (by rw [← k4, ex10_8, ← h47]); have q := ly_hon (ls := M0 10 8) (day := dyX (M0 136 p1)) (cdX_b (M0 136 p1) p2).1 (cdX_b (M0 136 p1) p2).2 (t := p3) (by omega) (by omega); omega⟩)
    · intro h50
      refine wk_c1 r192_88 (wk_goto r192_89 ?_)
      subst hQ; exact wk_zret r192_93 (by decide) (⟨rfl, _, rfl, hP0, hF0, by omega, by omega, by have k1 := xh5; have k3 := (xh40).resolve_left (fun q => by omega); have k4 := k3.elim (fun q => q.2) (fun q => by omega); have k5 : M0 10 8 / pw (dyX (M0 136 p1)) % 2 = v44 % 2 := (by rw [← k4, ex10_8, ← h47]); have q := ly_hon (ls := M0 10 8) (day := dyX (M0 136 p1)) (cdX_b (M0 136 p1) p2).1 (cdX_b (M0 136 p1) p2).2 (t := p3) (by omega) (by omega); omega⟩)
def fm_n7204_10v10 : Nat := 4722366482869645213696
/-- IslandHall$Realm.set -/
theorem n7204_10v10 {B : eB} (d : Nat) (M0 : Mm) (p1 : Int) (p2 : Int) (hP0 : Pw M0) (l1 : 89 ≤ p1) (u1 : p1 ≤ 101) (l2 : 0 ≤ p2) (u2 : p2 ≤ 2999) : Ct B (d + 1) 204 [R 10, I p1, I p2] M0 (qV fun M => Pw M ∧ Fr fm_n7204_10v10 M0 M ∧ ((∀ (a j : Int) (b : Nat), b < 64 → tb M a j b = (tb M0 a j b || decide (a = 17 + p1 ∧ j = p2 / 64 ∧ (b : Int) = p2 % 64))) ∧ ∀ a j : Int, (a ≠ 17 + p1 ∨ j ≠ p2 / 64) → M a j = M0 a j)) := by
  refine ct_of (d := d + 0) (k := 0) (L := [some (R 10), some (I p1), some (I p2)]) rfl rfl rfl ?_
  have hF0 := Fr.rf fm_n7204_10v10 M0
  generalize hQ : (qV fun M => Pw M ∧ Fr fm_n7204_10v10 M0 M ∧ ((∀ (a j : Int) (b : Nat), b < 64 → tb M a j b = (tb M0 a j b || decide (a = 17 + p1 ∧ j = p2 / 64 ∧ (b : Int) = p2 % 64))) ∧ ∀ a j : Int, (a ≠ 17 + p1 ∨ j ≠ p2 / 64) → M a j = M0 a j)) = Q
  refine wk_al0 r204_0 (wk_getfr r204_1 fd_10_0 (br_10_0 hP0) (wk_il1 r204_4 (wk_raldb r204_5 ar_16 ⟨by omega, by omega⟩ (fun q0 q1 => ba_16 hP0 q0 q1) (wk_il2 r204_6 (wk_c2 r204_7 (wk_ishrc r204_9 ⟨by omega, by omega⟩ (by decide) pwl_6 (wk_dup2 r204_10 (wk_laldb r204_11 (arF_17 (by omega) (by omega)) ⟨by omega, by omega⟩ (fun q0 q1 => baF_17 hP0 (by omega) (by omega) q0 q1) (by decide) ?_))))))))
  intro n2 h4 h5 e3
  refine wk_c6 r204_12 (wk_il2 r204_13 (wk_c2 r204_14 (wk_iandc 6 64 r204_16 ⟨rfl, by decide⟩ rfl (wk_lshlb r204_17 ⟨by omega, by omega⟩ ?_))))
  intro n6 h7 h8 h9
  refine wk_lorb r204_18 ?_
  intro n10 h11 h12 h13
  refine wk_last r204_19 (arF_17 (by omega) (by omega)) ⟨by omega, by omega⟩ (wk_nw (gr_17 (by omega) (by omega) _) rfl hP0 hF0 (uaF_17 (by omega) (by omega) ⟨by omega, by omega⟩) ?_)
  intro M14 hP15 hF16 e17
  subst hQ; exact wk_ret r204_20 (⟨rfl, hP15, hF16, ⟨fun a j b hb => by by_cases q : a = 17 + p1 ∧ j = p2 / 64; (rw [show tb M14 a j b = Nat.testBit n10 b from tb_up (by rw [q.1, q.2, e17, show 17 + p1 = (17 + p1) by omega]; first | exact mUp_eq _ _ _ _ | (rw [show p2 / 64 = (p2 / 64) by omega]; exact mUp_eq _ _ _ _)) b, tb_or h12 hb, tb_sh h8 hb ⟨by omega, by omega⟩, show tb M0 a j b = Nat.testBit n2 b from tb_el (by rw [q.1, q.2, show 17 + p1 = (17 + p1) by omega]; first | exact e3 | (rw [show p2 / 64 = (p2 / 64) by omega]; exact e3)) b]; congr 1; exact decide_eq_decide.mpr ⟨fun x => ⟨q.1, q.2, by omega⟩, fun x => by have := x.2.2; omega⟩); (rw [tb_eq (show M14 a j = M0 a j by rw [e17, mUp_ne (by rcases Decidable.em (a = 17 + p1) with x | x; (exact Or.inr (fun y => q ⟨x, by omega⟩)); (exact Or.inl (fun y => x (by omega))))]), decide_eq_false (fun x => q ⟨x.1, x.2.1⟩), Bool.or_false]), fun a j q => by rw [e17, mUp_ne (by omega)]⟩⟩)
def fm_n7204_10v11 : Nat := 4722366482869645213696
/-- IslandHall$Realm.set -/
theorem n7204_10v11 {B : eB} (d : Nat) (M0 : Mm) (p1 : Int) (p2 : Int) (hP0 : Pw M0) (l1 : 88 ≤ p1) (u1 : p1 ≤ 100) (l2 : 0 ≤ p2) (u2 : p2 ≤ 2999) : Ct B (d + 1) 204 [R 10, I p1, I p2] M0 (qV fun M => Pw M ∧ Fr fm_n7204_10v11 M0 M ∧ ((∀ (a j : Int) (b : Nat), b < 64 → tb M a j b = (tb M0 a j b || decide (a = 17 + p1 ∧ j = p2 / 64 ∧ (b : Int) = p2 % 64))) ∧ ∀ a j : Int, (a ≠ 17 + p1 ∨ j ≠ p2 / 64) → M a j = M0 a j)) := by
  refine ct_of (d := d + 0) (k := 0) (L := [some (R 10), some (I p1), some (I p2)]) rfl rfl rfl ?_
  have hF0 := Fr.rf fm_n7204_10v11 M0
  generalize hQ : (qV fun M => Pw M ∧ Fr fm_n7204_10v11 M0 M ∧ ((∀ (a j : Int) (b : Nat), b < 64 → tb M a j b = (tb M0 a j b || decide (a = 17 + p1 ∧ j = p2 / 64 ∧ (b : Int) = p2 % 64))) ∧ ∀ a j : Int, (a ≠ 17 + p1 ∨ j ≠ p2 / 64) → M a j = M0 a j)) = Q
  refine wk_al0 r204_0 (wk_getfr r204_1 fd_10_0 (br_10_0 hP0) (wk_il1 r204_4 (wk_raldb r204_5 ar_16 ⟨by omega, by omega⟩ (fun q0 q1 => ba_16 hP0 q0 q1) (wk_il2 r204_6 (wk_c2 r204_7 (wk_ishrc r204_9 ⟨by omega, by omega⟩ (by decide) pwl_6 (wk_dup2 r204_10 (wk_laldb r204_11 (arF_17 (by omega) (by omega)) ⟨by omega, by omega⟩ (fun q0 q1 => baF_17 hP0 (by omega) (by omega) q0 q1) (by decide) ?_))))))))
  intro n2 h4 h5 e3
  refine wk_c6 r204_12 (wk_il2 r204_13 (wk_c2 r204_14 (wk_iandc 6 64 r204_16 ⟨rfl, by decide⟩ rfl (wk_lshlb r204_17 ⟨by omega, by omega⟩ ?_))))
  intro n6 h7 h8 h9
  refine wk_lorb r204_18 ?_
  intro n10 h11 h12 h13
  refine wk_last r204_19 (arF_17 (by omega) (by omega)) ⟨by omega, by omega⟩ (wk_nw (gr_17 (by omega) (by omega) _) rfl hP0 hF0 (uaF_17 (by omega) (by omega) ⟨by omega, by omega⟩) ?_)
  intro M14 hP15 hF16 e17
  subst hQ; exact wk_ret r204_20 (⟨rfl, hP15, hF16, ⟨fun a j b hb => by by_cases q : a = 17 + p1 ∧ j = p2 / 64; (rw [show tb M14 a j b = Nat.testBit n10 b from tb_up (by rw [q.1, q.2, e17, show 17 + p1 = (17 + p1) by omega]; first | exact mUp_eq _ _ _ _ | (rw [show p2 / 64 = (p2 / 64) by omega]; exact mUp_eq _ _ _ _)) b, tb_or h12 hb, tb_sh h8 hb ⟨by omega, by omega⟩, show tb M0 a j b = Nat.testBit n2 b from tb_el (by rw [q.1, q.2, show 17 + p1 = (17 + p1) by omega]; first | exact e3 | (rw [show p2 / 64 = (p2 / 64) by omega]; exact e3)) b]; congr 1; exact decide_eq_decide.mpr ⟨fun x => ⟨q.1, q.2, by omega⟩, fun x => by have := x.2.2; omega⟩); (rw [tb_eq (show M14 a j = M0 a j by rw [e17, mUp_ne (by rcases Decidable.em (a = 17 + p1) with x | x; (exact Or.inr (fun y => q ⟨x, by omega⟩)); (exact Or.inl (fun y => x (by omega))))]), decide_eq_false (fun x => q ⟨x.1, x.2.1⟩), Bool.or_false]), fun a j q => by rw [e17, mUp_ne (by omega)]⟩⟩)
def fm_n7203_10 : Nat := 4759259971017064316928
/-- IslandHall$Realm.placePerson -/
theorem n7203_10 {B : eB} (d : Nat) (M0 : Mm) (p1 : Int) (p2 : Int) (x10_8 : Int) (hP0 : Pw M0) (l1 : 0 ≤ p1) (u1 : p1 ≤ 2999) (l2 : 0 ≤ p2) (u2 : p2 ≤ 6) (ex10_8 : M0 10 8 = x10_8) (lx10_8 : 0 ≤ x10_8) (ux10_8 : x10_8 ≤ 127) (xp0 : ∀ k : Int, 0 ≤ k → k < 5 → M0 13 k ≤ p2) : Ct B (d + 4) 203 [R 10, I p1, I p2] M0 (qV fun M => Pw M ∧ Fr fm_n7203_10 M0 M ∧ (∀ k : Int, 0 ≤ k → k < 5 → M 13 k ≤ p2 + 1) ∧ (BU M0 M 17 p1 (prX (cdX (M0 136 p1) p2) (dyX (M0 136 p1)) (M0 10 8) p2)) ∧ (∀ k : Int, M 13 k = M0 13 k + (if k = kdC (cdX (M0 136 p1) p2) then 1 else 0))) := by
  refine ct_of (d := d + 3) (k := 2) (L := [some (R 10), some (I p1), some (I p2), none, none]) rfl rfl rfl ?_
  have hF0 := Fr.rf fm_n7203_10 M0
  generalize hQ : (qV fun M => Pw M ∧ Fr fm_n7203_10 M0 M ∧ (∀ k : Int, 0 ≤ k → k < 5 → M 13 k ≤ p2 + 1) ∧ (BU M0 M 17 p1 (prX (cdX (M0 136 p1) p2) (dyX (M0 136 p1)) (M0 10 8) p2)) ∧ (∀ k : Int, M 13 k = M0 13 k + (if k = kdC (cdX (M0 136 p1) p2) then 1 else 0))) = Q
  refine wk_al0 r203_0 (wk_il1 r203_1 (wk_il2 r203_2 (wk_cv3 r203_3 kc_10_197 rfl (n7197_10 _ M0 p1 p2 hP0 (by first | with_reducible assumption | omega) (by first | with_reducible assumption | omega) (by first | with_reducible assumption | omega) (by first | with_reducible assumption | omega)) (cqI ?_))))
  rintro v6 M1 ⟨hP2, hQ3, h7, h8, xh5⟩
  obtain rfl := Fr.same hQ3
  refine wk_is3 r203_6 rfl (wk_al0 r203_7 (wk_getfr r203_8 fd_10_5 (br_10_5 hP0) (wk_il3 r203_11 (wk_dup2 r203_12 (wk_ialdb r203_13 ar_13 ⟨by omega, by omega⟩ (fun q0 q1 => ba_13 hP0 q0 q1) ?_)))))
  intro v9 h11 h12 e10
  have h13 : v9 ≤ p2 := by have q := xp0 v6 (by omega) (by omega); rw [e10] at q; omega
  refine wk_c1 r203_14 (wk_iadd r203_15 (wk_iast r203_16 ar_13 ⟨by omega, by omega⟩ (wk_nw (ga_13 _) rfl hP0 hF0 (ua_13 ⟨by omega, by omega⟩) ?_)))
  intro M14 hP15 hF16 e17
  obtain ⟨u18, hu19⟩ : ∃ u : Int → Int, ∀ k, M14 13 k = u k := ⟨fun k => M14 13 k, fun k => rfl⟩
  have tal : ∀ k : Int, 0 ≤ k → k < 5 → u18 k ≤ p2 + 1 := fun k q0 q1 => by rw [← hu19 k]; exact tally_up e17 (by omega) xp0 k q0 q1
  refine wk_al0 r203_17 (wk_c1 r203_18 (wk_il2 r203_19 (wk_c1 r203_20 (wk_imul r203_21 (wk_iadd r203_22 (wk_il3 r203_23 (wk_iadd r203_24 (wk_il1 r203_25 (wk_cv3 r203_26 kc_10_204 rfl (n7204_10v9 _ M14 ((0 + (p2 * 5)) + v6) p1 hP15 (by first | with_reducible assumption | omega) (by first | with_reducible assumption | omega) (by first | with_reducible assumption | omega) (by first | with_reducible assumption | omega)) (cqV ?_))))))))))
  rintro M20 ⟨hP21, hQ22, xh24⟩
  have hF23 : Fr fm_n7203_10 M0 M20 := hF16.tr hQ22 rfl
  have hB0 : BU M0 M20 17 p1 (fun r => r = 5 * p2 + kdC (cdX (M0 136 p1) p2)) := BU_cg (BU_f0 (BU_set xh24.1) (fun r j q0 q1 => by rw [e17, mUp_ne (Or.inl (by omega))])) (fun r _ _ => by have := xh5; omega)
  refine wk_c1 r203_29 (wk_is4 r203_30 rfl (wk_il4 r203_32 (wk_c1 r203_34 ?_)))
  refine wk_icge r203_35 (by decide) (by decide) ?_ ?_
  · intro h25
    exfalso
    omega
  · intro h26
    refine wk_al0 r203_38 (wk_il1 r203_39 (wk_il2 r203_40 (wk_il4 r203_41 (wk_cv4 r203_43 kc_10_192 rfl (n7192_10 _ M20 p1 p2 0 x10_8 hP21 (by first | with_reducible assumption | omega) (by first | with_reducible assumption | omega) (by first | with_reducible assumption | omega) (by first | with_reducible assumption | omega) (by decide) (by decide) ((hQ22.at g_10_8 rfl).trans (mUp_no e17 ex10_8 (Or.inl (by decide)))) (by first | with_reducible assumption | omega) (by first | with_reducible assumption | omega)) (cqI ?_)))))
    rintro v32 M27 ⟨hP28, hQ29, h33, h34, xh31⟩
    obtain rfl := Fr.same hQ29
    have hh0 : (v32 = 1 ∧ lyT (M0 10 8) (cdX (M0 136 p1) p2) (dyX (M0 136 p1)) 0 = 0) ∨ (v32 = 0 ∧ lyT (M0 10 8) (cdX (M0 136 p1) p2) (dyX (M0 136 p1)) 0 ≠ 0) := by have q8 := xh31; rw [hF23.at (ga_136 _) rfl, hF23.at (g_10_8) rfl] at q8; exact q8
    refine wk_ifeq r203_46 ⟨by omega, by omega⟩ ?_ ?_
    · intro h35
      refine wk_inc4 r203_63 rfl (wk_goto r203_66 (wk_il4 r203_32 (wk_c1 r203_34 ?_)))
      refine wk_icge r203_35 (by decide) (by decide) ?_ ?_
      · intro h36
        exfalso
        omega
      · intro h37
        refine wk_al0 r203_38 (wk_il1 r203_39 (wk_il2 r203_40 (wk_il4 r203_41 (wk_cv4 r203_43 kc_10_192 rfl (n7192_10v1 _ M20 p1 p2 (0 + 1) x10_8 hP21 (by first | with_reducible assumption | omega) (by first | with_reducible assumption | omega) (by first | with_reducible assumption | omega) (by first | with_reducible assumption | omega) (by decide) (by decide) ((hQ22.at g_10_8 rfl).trans (mUp_no e17 ex10_8 (Or.inl (by decide)))) (by first | with_reducible assumption | omega) (by first | with_reducible assumption | omega)) (cqI ?_)))))
        rintro v43 M38 ⟨hP39, hQ40, h44, h45, xh42⟩
        obtain rfl := Fr.same hQ40
        have hh1 : (v43 = 1 ∧ lyT (M0 10 8) (cdX (M0 136 p1) p2) (dyX (M0 136 p1)) 1 = 0) ∨ (v43 = 0 ∧ lyT (M0 10 8) (cdX (M0 136 p1) p2) (dyX (M0 136 p1)) 1 ≠ 0) := by have q8 := xh42; rw [hF23.at (ga_136 _) rfl, hF23.at (g_10_8) rfl] at q8; exact q8
        refine wk_ifeq r203_46 ⟨by omega, by omega⟩ ?_ ?_
        · intro h46
          refine wk_inc4 r203_63 rfl (wk_goto r203_66 (wk_il4 r203_32 (wk_c1 r203_34 ?_)))
          refine wk_icge r203_35 (by decide) (by decide) ?_ ?_
          · intro h47
            subst hQ; exact wk_ret r203_69 (⟨rfl, hP21, hF23, fun k q0 q1 => by rw [(fun k => (hQ22.at (ga_13 k) rfl).trans (hu19 k)) k]; exact tal k q0 q1, BU_cg hB0 (fun r _ _ => by unfold prX; (try dsimp only); (first | omega | (constructor <;> intro q <;> omega))), fun k => by rw [show M20 13 k = M14 13 k from ((hQ22.at (ga_13 k) rfl).trans rfl), e17]; by_cases q : k = kdC (cdX (M0 136 p1) p2); (rw [if_pos q, show k = v6 by have := xh5; omega, mUp_eq]; show _ = M0 13 v6 + 1; rw [e10]); (rw [if_neg q, mUp_ne (Or.inr (by have := xh5; omega)), Int.add_zero])⟩)
          · intro h48
            exfalso
            omega
        · intro h49
          refine wk_al0 r203_49 (wk_c2 r203_50 (wk_c1 r203_52 (wk_il2 r203_53 (wk_imul r203_54 (wk_iadd r203_55 (wk_il4 r203_56 (wk_iadd r203_58 ?_)))))))
          refine wk_il1 r203_59 (wk_cv3 r203_60 kc_10_204 rfl (n7204_10v10 _ M20 ((88 + (2 * p2)) + (0 + 1)) p1 hP21 (by first | with_reducible assumption | omega) (by first | with_reducible assumption | omega) (by first | with_reducible assumption | omega) (by first | with_reducible assumption | omega)) (cqV ?_))
          rintro M50 ⟨hP51, hQ52, xh54⟩
          have hF53 : Fr fm_n7203_10 M0 M50 := hF23.tr hQ52 rfl
          have hBM50 := BU_tr hB0 (BU_set xh54.1)
          refine wk_inc4 r203_63 rfl (wk_goto r203_66 (wk_il4 r203_32 (wk_c1 r203_34 ?_)))
          refine wk_icge r203_35 (by decide) (by decide) ?_ ?_
          · intro h55
            subst hQ; exact wk_ret r203_69 (⟨rfl, hP51, hF53, fun k q0 q1 => by rw [(fun k => (hQ52.at (ga_13 k) rfl).trans ((fun k => (hQ22.at (ga_13 k) rfl).trans (hu19 k)) k)) k]; exact tal k q0 q1, BU_cg hBM50 (fun r _ _ => by unfold prX; (try dsimp only); (first | omega | (constructor <;> intro q <;> omega))), fun k => by rw [show M50 13 k = M14 13 k from ((hQ52.at (ga_13 k) rfl).trans ((hQ22.at (ga_13 k) rfl).trans rfl)), e17]; by_cases q : k = kdC (cdX (M0 136 p1) p2); (rw [if_pos q, show k = v6 by have := xh5; omega, mUp_eq]; show _ = M0 13 v6 + 1; rw [e10]); (rw [if_neg q, mUp_ne (Or.inr (by have := xh5; omega)), Int.add_zero])⟩)
          · intro h56
            exfalso
            omega
    · intro h57
      refine wk_al0 r203_49 (wk_c2 r203_50 (wk_c1 r203_52 (wk_il2 r203_53 (wk_imul r203_54 (wk_iadd r203_55 (wk_il4 r203_56 (wk_iadd r203_58 ?_)))))))
      refine wk_il1 r203_59 (wk_cv3 r203_60 kc_10_204 rfl (n7204_10v11 _ M20 ((88 + (2 * p2)) + 0) p1 hP21 (by first | with_reducible assumption | omega) (by first | with_reducible assumption | omega) (by first | with_reducible assumption | omega) (by first | with_reducible assumption | omega)) (cqV ?_))
      rintro M58 ⟨hP59, hQ60, xh62⟩
      have hF61 : Fr fm_n7203_10 M0 M58 := hF23.tr hQ60 rfl
      have hBM58 := BU_tr hB0 (BU_set xh62.1)
      refine wk_inc4 r203_63 rfl (wk_goto r203_66 (wk_il4 r203_32 (wk_c1 r203_34 ?_)))
      refine wk_icge r203_35 (by decide) (by decide) ?_ ?_
      · intro h63
        exfalso
        omega
      · intro h64
        refine wk_al0 r203_38 (wk_il1 r203_39 (wk_il2 r203_40 (wk_il4 r203_41 (wk_cv4 r203_43 kc_10_192 rfl (n7192_10v1 _ M58 p1 p2 (0 + 1) x10_8 hP59 (by first | with_reducible assumption | omega) (by first | with_reducible assumption | omega) (by first | with_reducible assumption | omega) (by first | with_reducible assumption | omega) (by decide) (by decide) ((hQ60.at g_10_8 rfl).trans ((hQ22.at g_10_8 rfl).trans (mUp_no e17 ex10_8 (Or.inl (by decide))))) (by first | with_reducible assumption | omega) (by first | with_reducible assumption | omega)) (cqI ?_)))))
        rintro v70 M65 ⟨hP66, hQ67, h71, h72, xh69⟩
        obtain rfl := Fr.same hQ67
        have hh1 : (v70 = 1 ∧ lyT (M0 10 8) (cdX (M0 136 p1) p2) (dyX (M0 136 p1)) 1 = 0) ∨ (v70 = 0 ∧ lyT (M0 10 8) (cdX (M0 136 p1) p2) (dyX (M0 136 p1)) 1 ≠ 0) := by have q8 := xh69; rw [hF61.at (ga_136 _) rfl, hF61.at (g_10_8) rfl] at q8; exact q8
        refine wk_ifeq r203_46 ⟨by omega, by omega⟩ ?_ ?_
        · intro h73
          refine wk_inc4 r203_63 rfl (wk_goto r203_66 (wk_il4 r203_32 (wk_c1 r203_34 ?_)))
          refine wk_icge r203_35 (by decide) (by decide) ?_ ?_
          · intro h74
            subst hQ; exact wk_ret r203_69 (⟨rfl, hP59, hF61, fun k q0 q1 => by rw [(fun k => (hQ60.at (ga_13 k) rfl).trans ((fun k => (hQ22.at (ga_13 k) rfl).trans (hu19 k)) k)) k]; exact tal k q0 q1, BU_cg hBM58 (fun r _ _ => by unfold prX; (try dsimp only); (first | omega | (constructor <;> intro q <;> omega))), fun k => by rw [show M58 13 k = M14 13 k from ((hQ60.at (ga_13 k) rfl).trans ((hQ22.at (ga_13 k) rfl).trans rfl)), e17]; by_cases q : k = kdC (cdX (M0 136 p1) p2); (rw [if_pos q, show k = v6 by have := xh5; omega, mUp_eq]; show _ = M0 13 v6 + 1; rw [e10]); (rw [if_neg q, mUp_ne (Or.inr (by have := xh5; omega)), Int.add_zero])⟩)
          · intro h75
            exfalso
            omega
        · intro h76
          refine wk_al0 r203_49 (wk_c2 r203_50 (wk_c1 r203_52 (wk_il2 r203_53 (wk_imul r203_54 (wk_iadd r203_55 (wk_il4 r203_56 (wk_iadd r203_58 ?_)))))))
          refine wk_il1 r203_59 (wk_cv3 r203_60 kc_10_204 rfl (n7204_10v10 _ M58 ((88 + (2 * p2)) + (0 + 1)) p1 hP59 (by first | with_reducible assumption | omega) (by first | with_reducible assumption | omega) (by first | with_reducible assumption | omega) (by first | with_reducible assumption | omega)) (cqV ?_))
          rintro M77 ⟨hP78, hQ79, xh81⟩
          have hF80 : Fr fm_n7203_10 M0 M77 := hF61.tr hQ79 rfl
          have hBM77 := BU_tr hBM58 (BU_set xh81.1)
          refine wk_inc4 r203_63 rfl (wk_goto r203_66 (wk_il4 r203_32 (wk_c1 r203_34 ?_)))
          refine wk_icge r203_35 (by decide) (by decide) ?_ ?_
          · intro h82
            subst hQ; exact wk_ret r203_69 (⟨rfl, hP78, hF80, fun k q0 q1 => by rw [(fun k => (hQ79.at (ga_13 k) rfl).trans ((fun k => (hQ60.at (ga_13 k) rfl).trans ((fun k => (hQ22.at (ga_13 k) rfl).trans (hu19 k)) k)) k)) k]; exact tal k q0 q1, BU_cg hBM77 (fun r _ _ => by unfold prX; (try dsimp only); (first | omega | (constructor <;> intro q <;> omega))), fun k => by rw [show M77 13 k = M14 13 k from ((hQ79.at (ga_13 k) rfl).trans ((hQ60.at (ga_13 k) rfl).trans ((hQ22.at (ga_13 k) rfl).trans rfl))), e17]; by_cases q : k = kdC (cdX (M0 136 p1) p2); (rw [if_pos q, show k = v6 by have := xh5; omega, mUp_eq]; show _ = M0 13 v6 + 1; rw [e10]); (rw [if_neg q, mUp_ne (Or.inr (by have := xh5; omega)), Int.add_zero])⟩)
          · intro h83
            exfalso
            omega
def fm_n7202_10 : Nat := 33100376397262576680960
/-- IslandHall$Realm.place -/
theorem n7202_10 {B : eB} (d : Nat) (M0 : Mm) (p1 : Int) (p2 : Int) (x10_9 : Int) (x10_7 : Int) (x10_8 : Int) (hP0 : Pw M0) (l1 : 0 ≤ p1) (u1 : p1 ≤ 134217727) (l2 : 0 ≤ p2) (u2 : p2 ≤ 2999) (ex10_9 : M0 10 9 = x10_9) (lx10_9 : 0 ≤ x10_9) (ux10_9 : x10_9 ≤ 2999) (ex10_7 : M0 10 7 = x10_7) (lx10_7 : 0 ≤ x10_7) (ux10_7 : x10_7 ≤ 7) (ex10_8 : M0 10 8 = x10_8) (lx10_8 : 0 ≤ x10_8) (ux10_8 : x10_8 ≤ 127) : Ct B (d + 5) 202 [R 10, I p1, I p2] M0 (qV fun M => Pw M ∧ Fr fm_n7202_10 M0 M ∧ 0 ≤ M 10 9 + (-1) * x10_9 + (-1) ∧ 0 ≤ (-1) * (M 10 9) + x10_9 + 1 ∧ 0 ≤ 64 * (M 10 10) + (-1) * x10_9 + (-1) ∧ 0 ≤ (-64) * (M 10 10) + x10_9 + 64 ∧ (BU M0 M 17 x10_9 (plX p1 x10_7 x10_8)) ∧ (PKx M0 M 136 137 x10_9 p1 p2)) := by
  refine ct_of (d := d + 4) (k := 2) (L := [some (R 10), some (I p1), some (I p2), none, none]) rfl rfl rfl ?_
  have hF0 := Fr.rf fm_n7202_10 M0
  generalize hQ : (qV fun M => Pw M ∧ Fr fm_n7202_10 M0 M ∧ 0 ≤ M 10 9 + (-1) * x10_9 + (-1) ∧ 0 ≤ (-1) * (M 10 9) + x10_9 + 1 ∧ 0 ≤ 64 * (M 10 10) + (-1) * x10_9 + (-1) ∧ 0 ≤ (-64) * (M 10 10) + x10_9 + 64 ∧ (BU M0 M 17 x10_9 (plX p1 x10_7 x10_8)) ∧ (PKx M0 M 136 137 x10_9 p1 p2)) = Q
  refine wk_al0 r202_0 (wk_getfi r202_1 fd_10_9 ex10_9 (wk_is3 r202_4 rfl (wk_al0 r202_5 (wk_getfr r202_6 fd_10_1 (br_10_1 hP0) (wk_il3 r202_9 (wk_il1 r202_10 (wk_iast r202_11 ar_136 ⟨by omega, by omega⟩ (wk_nw (ga_136 _) rfl hP0 hF0 (ua_136 ⟨by omega, by omega⟩) ?_))))))))
  intro M1 hP2 hF3 e4
  refine wk_al0 r202_12 (wk_getfr r202_13 fd_10_2 (br_10_2 hP2) (wk_il3 r202_16 (wk_il2 r202_17 (wk_iast r202_18 ar_137 ⟨by omega, by omega⟩ (wk_nw (ga_137 _) rfl hP2 hF3 (ua_137 ⟨by omega, by omega⟩) ?_)))))
  intro M5 hP6 hF7 e8
  refine wk_al0 r202_19 (wk_dupr r202_20 (wk_getfi r202_21 fd_10_9 (mUp_no e8 (mUp_no e4 ex10_9 (Or.inl (by decide))) (Or.inl (by decide))) (wk_c1 r202_24 (wk_iadd r202_25 (wk_putfi81 r202_26 fd_10_9 (wk_nw g_10_9 rfl hP6 hF7 (uf_10_9 ⟨by omega, by omega⟩) ?_))))))
  intro M9 hP10 hF11 e12
  refine wk_al0 r202_29 (wk_al0 r202_30 (wk_getfi r202_31 fd_10_9 (mUp_at e12) (wk_c2 r202_34 (wk_iadd r202_36 (wk_c2 r202_37 (wk_ishrc r202_39 ⟨by omega, by omega⟩ (by decide) pwl_6 (wk_putfi81 r202_40 fd_10_10 (wk_nw g_10_10 rfl hP10 hF11 (uf_10_10 ⟨by omega, by omega⟩) ?_))))))))
  intro M14 hP15 hF16 e17
  refine wk_al0 r202_43 (wk_getfr r202_44 fd_10_5 (br_10_5 hP15) (wk_c1 r202_47 (wk_cs102_2 r202_48 rfl (ct_fi ar_13) (cqV ?_))))
  intro M18 e19
  have hP20 : Pw M18 := by rw [e19]; exact hP15.fil (fun i => (ua_13 (by decide)))
  have hF21 : Fr fm_n7202_10 M0 M18 := by rw [e19]; exact hF16.fil (fun i => by rw [(ga_13 i)]; rfl)
  refine wk_c1 r202_51 (wk_is4 r202_52 rfl ?_)
  have c54_718 : ∀ (k718 : Nat) (M632 : Mm) (v629 : Int), (7 - v629).toNat = k718 → Pw M632 → Fr fm_n7202_10 M0 M632 → M632 10 9 = (x10_9 + 1) → M632 10 7 = x10_7 → M632 10 8 = x10_8 → M632 10 10 = (((x10_9 + 1) + 63) / 64) → 0 ≤ v629 → v629 ≤ 7 → 0 ≤ (-1) * v629 + x10_7 → (∀ k : Int, 0 ≤ k → k < 5 → M632 13 k ≤ v629) → (BU M0 M632 17 x10_9 (fun r => ∃ p : Int, 0 ≤ p ∧ p < v629 ∧ prX (cdX p1 p) (dyX p1) x10_8 p r) ∧ (∀ k : Int, M632 13 k = cnX p1 k (v629).toNat) ∧ PKx M0 M632 136 137 x10_9 p1 p2) → Wp B (d + 4) 202 54 [some (R 10), none, none, some (I x10_9), some (I v629)] [] M632 Q := by
    refine lp_ind ?_
    intro k718 ih718 M632 v629 hk718 hP633 hF634 e635 e636 e637 e638 h630 h631 h639 ti640 ti641
    refine wk_il4 r202_54 (wk_al0 r202_56 (wk_getfi r202_57 fd_10_7 e636 ?_))
    refine wk_icge r202_60 ⟨by omega, by omega⟩ ⟨by omega, by omega⟩ ?_ ?_
    · intro h642
      refine wk_c1 r202_76 (wk_is4 r202_77 rfl ?_)
      have c79_709 : ∀ (k709 : Nat) (M646 : Mm) (v643 : Int), (5 - v643).toNat = k709 → Pw M646 → Fr fm_n7202_10 M0 M646 → M646 10 9 = (x10_9 + 1) → M646 10 7 = x10_7 → M646 10 8 = x10_8 → M646 10 10 = (((x10_9 + 1) + 63) / 64) → 0 ≤ v643 → v643 ≤ 5 → (BU M0 M646 17 x10_9 (fun r => (∃ p : Int, 0 ≤ p ∧ p < x10_7 ∧ prX (cdX p1 p) (dyX p1) x10_8 p r) ∨ ∃ k : Int, 0 ≤ k ∧ k < v643 ∧ r = 48 + 8 * k + cnX p1 k (x10_7).toNat) ∧ (∀ k : Int, M646 13 k = cnX p1 k (x10_7).toNat) ∧ PKx M0 M646 136 137 x10_9 p1 p2) → Wp B (d + 4) 202 79 [some (R 10), none, none, some (I x10_9), some (I v643)] [] M646 Q := by
        refine lp_ind ?_
        intro k709 ih709 M646 v643 hk709 hP647 hF648 e649 e650 e651 e652 h644 h645 ti653
        refine wk_il4 r202_79 (wk_c1 r202_81 ?_)
        refine wk_icge r202_82 ⟨by omega, by omega⟩ (by decide) ?_ ?_
        · intro h654
          have hB9 := ti653.1; rw [show v643 = 5 by omega] at hB9
          have hK9 := ti653.2.2
          refine wk_al0 r202_112 (wk_c2 r202_113 (wk_al0 r202_115 (wk_il3 r202_116 (wk_c1 r202_117 (wk_cv3 r202_118 kc_10_186 rfl (n7186_10 _ M646 x10_9 1 hP647 (by first | with_reducible assumption | omega) (by first | with_reducible assumption | omega) (by decide) (by decide)) (cqI ?_))))))
          rintro v660 M655 ⟨hP656, hQ657, h661, h662, xh659⟩
          obtain rfl := Fr.same hQ657
          have hr9a : v660 = rdX p1 := by have q8 := xh659; rw [hK9.1] at q8; omega
          refine wk_iadd r202_121 (wk_il3 r202_122 (wk_cv3 r202_123 kc_10_204 rfl (n7204_10v4 _ M646 (35 + v660) x10_9 hP647 (by first | with_reducible assumption | omega) (by first | with_reducible assumption | omega) (by first | with_reducible assumption | omega) (by first | with_reducible assumption | omega)) (cqV ?_)))
          rintro M663 ⟨hP664, hQ665, xh667⟩
          have hF666 : Fr fm_n7202_10 M0 M663 := hF648.tr hQ665 rfl
          have hB9a := BU_tr hB9 (BU_set xh667.1)
          have hK9a := PKx_fr hK9 (M2 := M663) (fun i => xh667.2 136 i (Or.inl (by omega))) (fun i => xh667.2 137 i (Or.inl (by omega)))
          refine wk_al0 r202_126 (wk_c2 r202_127 (wk_al0 r202_129 (wk_il3 r202_130 (wk_c1 r202_131 (wk_cv3 r202_132 kc_10_186 rfl (n7186_10v1 _ M663 x10_9 2 hP664 (by first | with_reducible assumption | omega) (by first | with_reducible assumption | omega) (by decide) (by decide)) (cqI ?_))))))
          rintro v673 M668 ⟨hP669, hQ670, h674, h675, xh672⟩
          obtain rfl := Fr.same hQ670
          have hr9b : v673 = dyX p1 := by have q8 := xh672; rw [hK9a.1] at q8; omega
          refine wk_iadd r202_135 (wk_il3 r202_136 (wk_cv3 r202_137 kc_10_204 rfl (n7204_10v5 _ M663 (39 + v673) x10_9 hP664 (by first | with_reducible assumption | omega) (by first | with_reducible assumption | omega) (by first | with_reducible assumption | omega) (by first | with_reducible assumption | omega)) (cqV ?_)))
          rintro M676 ⟨hP677, hQ678, xh680⟩
          have hF679 : Fr fm_n7202_10 M0 M676 := hF666.tr hQ678 rfl
          have hB9b := BU_tr hB9a (BU_set xh680.1)
          have hK9b := PKx_fr hK9a (M2 := M676) (fun i => xh680.2 136 i (Or.inl (by omega))) (fun i => xh680.2 137 i (Or.inl (by omega)))
          refine wk_al0 r202_140 (wk_c2 r202_141 (wk_al0 r202_143 (wk_il3 r202_144 (wk_c1 r202_145 (wk_cv3 r202_146 kc_10_186 rfl (n7186_10v2 _ M676 x10_9 3 hP677 (by first | with_reducible assumption | omega) (by first | with_reducible assumption | omega) (by decide) (by decide)) (cqI ?_))))))
          rintro v686 M681 ⟨hP682, hQ683, h687, h688, xh685⟩
          obtain rfl := Fr.same hQ683
          have hr9c : v686 = wdX p1 := by have q8 := xh685; rw [hK9b.1] at q8; omega
          refine wk_iadd r202_149 (wk_il3 r202_150 (wk_cv3 r202_151 kc_10_204 rfl (n7204_10v6 _ M676 (46 + v686) x10_9 hP677 (by first | with_reducible assumption | omega) (by first | with_reducible assumption | omega) (by first | with_reducible assumption | omega) (by first | with_reducible assumption | omega)) (cqV ?_)))
          rintro M689 ⟨hP690, hQ691, xh693⟩
          have hF692 : Fr fm_n7202_10 M0 M689 := hF679.tr hQ691 rfl
          have hB9c := BU_tr hB9b (BU_set xh693.1)
          have hK9c := PKx_fr hK9b (M2 := M689) (fun i => xh693.2 136 i (Or.inl (by omega))) (fun i => xh693.2 137 i (Or.inl (by omega)))
          refine wk_al0 r202_154 (wk_c2 r202_155 (wk_il3 r202_157 (wk_cv3 r202_158 kc_10_204 rfl (n7204_10v7 _ M689 118 x10_9 hP690 (by decide) (by decide) (by first | with_reducible assumption | omega) (by first | with_reducible assumption | omega)) (cqV ?_))))
          rintro M694 ⟨hP695, hQ696, xh698⟩
          have hF697 : Fr fm_n7202_10 M0 M694 := hF692.tr hQ696 rfl
          have hB9d := BU_tr hB9c (BU_set xh698.1)
          have hK9d := PKx_fr hK9c (M2 := M694) (fun i => xh698.2 136 i (Or.inl (by omega))) (fun i => xh698.2 137 i (Or.inl (by omega)))
          subst hQ; exact wk_ret r202_161 (⟨rfl, hP695, hF697, by have := ((hQ696.at g_10_9 rfl).trans ((hQ691.at g_10_9 rfl).trans ((hQ678.at g_10_9 rfl).trans ((hQ665.at g_10_9 rfl).trans e649)))); omega, by have := ((hQ696.at g_10_9 rfl).trans ((hQ691.at g_10_9 rfl).trans ((hQ678.at g_10_9 rfl).trans ((hQ665.at g_10_9 rfl).trans e649)))); omega, by have := ((hQ696.at g_10_10 rfl).trans ((hQ691.at g_10_10 rfl).trans ((hQ678.at g_10_10 rfl).trans ((hQ665.at g_10_10 rfl).trans e652)))); omega, by have := ((hQ696.at g_10_10 rfl).trans ((hQ691.at g_10_10 rfl).trans ((hQ678.at g_10_10 rfl).trans ((hQ665.at g_10_10 rfl).trans e652)))); omega, BU_cg hB9d (fun r _ _ => by unfold plX; (try dsimp only); constructor; (rintro (((((a | ⟨k, a1, a2, a3⟩) | a) | a) | a) | a); (exact Or.inl a); (exact Or.inr (Or.inl ⟨k, a1, by omega, a3⟩)); (exact Or.inr (Or.inr (by omega))); (exact Or.inr (Or.inr (by omega))); (exact Or.inr (Or.inr (by omega))); (exact Or.inr (Or.inr (by omega)))); (rintro (a | ⟨k, a1, a2, a3⟩ | a); (exact Or.inl (Or.inl (Or.inl (Or.inl (Or.inl a))))); (exact Or.inl (Or.inl (Or.inl (Or.inl (Or.inr ⟨k, a1, by omega, a3⟩))))); (rcases a with a | a | a | a; (exact Or.inl (Or.inl (Or.inl (Or.inr (by omega))))); (exact Or.inl (Or.inl (Or.inr (by omega)))); (exact Or.inl (Or.inr (by omega))); (exact Or.inr (by omega))))), hK9d⟩)
        · intro h699
          refine wk_al0 r202_85 (wk_c2 r202_86 (wk_il4 r202_88 (wk_c2 r202_90 (wk_imul r202_92 (wk_iadd r202_93 (wk_al0 r202_94 (wk_getfr r202_95 fd_10_5 (br_10_5 hP647) (wk_il4 r202_98 (wk_ialdb r202_100 ar_13 ⟨by omega, by omega⟩ (fun q0 q1 => ba_13 hP647 q0 q1) ?_)))))))))
          intro v700 h702 h703 e701
          refine wk_iadd r202_101 ?_
          refine wk_il3 r202_102 (wk_cv3 r202_103 kc_10_204 rfl (n7204_10v8 _ M646 ((48 + (v643 * 8)) + v700) x10_9 hP647 (by first | with_reducible assumption | omega) (by first | with_reducible assumption | omega) (by first | with_reducible assumption | omega) (by first | with_reducible assumption | omega)) (cqV ?_))
          rintro M704 ⟨hP705, hQ706, xh708⟩
          have hF707 : Fr fm_n7202_10 M0 M704 := hF648.tr hQ706 rfl
          refine wk_inc4 r202_106 rfl (wk_goto r202_109 ?_)
          exact wp_fg (le_s (le_s (le_s (le_s (le_s le_0))))) (ih709 (5 - (v643 + 1)).toNat (by omega) M704 (v643 + 1) rfl hP705 hF707 ((hQ706.at g_10_9 rfl).trans e649) ((hQ706.at g_10_7 rfl).trans e650) ((hQ706.at g_10_8 rfl).trans e651) ((hQ706.at g_10_10 rfl).trans e652) (by first | with_reducible assumption | omega) (by first | with_reducible assumption | omega) (⟨BU_cg (BU_tr ti653.1 (BU_set xh708.1)) (fun r _ _ => by rw [show ((48 + (v643 * 8)) + v700) = 48 + 8 * v643 + cnX p1 v643 (x10_7).toNat by have := ti653.2.1 v643; rw [e701] at this; omega, or_assoc, ex_s (P := fun k => r = 48 + 8 * k + cnX p1 k (x10_7).toNat) (by omega)]), fun k => ((xh708.2 13 k (Or.inl (by omega))).trans (ti653.2.1 k)), PKx_fr ti653.2.2 (fun i => xh708.2 136 i (Or.inl (by omega))) (fun i => xh708.2 137 i (Or.inl (by omega)))⟩))
      exact wp_fg (le_s (le_s (le_s (le_s (le_s le_0))))) (c79_709 _ M632 0 rfl hP633 hF634 e635 e636 e637 e638 (by first | with_reducible assumption | omega) (by first | with_reducible assumption | omega) (⟨BU_cg (by have q8 := ti641.1; rw [show v629 = x10_7 by omega] at q8; exact q8) (fun r _ _ => by constructor; (exact Or.inl); (rintro (a | ⟨k, a, b, -⟩); (exact a); (exfalso; omega))), fun k => by have q8 := ti641.2.1 k; rw [show v629 = x10_7 by omega] at q8; exact q8, ti641.2.2⟩))
    · intro h710
      refine wk_al0 r202_63 (wk_il3 r202_64 (wk_il4 r202_65 (wk_cv3 r202_67 kc_10_203 rfl (n7203_10 _ M632 x10_9 v629 x10_8 hP633 (by first | with_reducible assumption | omega) (by first | with_reducible assumption | omega) (by first | with_reducible assumption | omega) (by first | with_reducible assumption | omega) e637 (by first | with_reducible assumption | omega) (by first | with_reducible assumption | omega) (by first | assumption | omega | (unfold stepok; omega))) (cqV ?_))))
      rintro M711 ⟨hP712, hQ713, xh715, xh716, xh717⟩
      have hF714 : Fr fm_n7202_10 M0 M711 := hF634.tr hQ713 rfl
      refine wk_inc4 r202_70 rfl (wk_goto r202_73 ?_)
      exact wp_fg (le_s (le_s (le_s (le_s (le_s le_0))))) (ih718 (7 - (v629 + 1)).toNat (by omega) M711 (v629 + 1) rfl hP712 hF714 ((hQ713.at g_10_9 rfl).trans e635) ((hQ713.at g_10_7 rfl).trans e636) ((hQ713.at g_10_8 rfl).trans e637) ((hQ713.at g_10_10 rfl).trans e638) (by first | with_reducible assumption | omega) (by first | with_reducible assumption | omega) (by first | with_reducible assumption | omega) (xh715) (⟨BU_cg (BU_tr ti641.1 (by have q8 := xh716; rw [(show M632 136 x10_9 = p1 from ti641.2.2.1), (show M632 10 8 = x10_8 from e637)] at q8; exact q8)) (fun r _ _ => ex_s (by omega)), fun k => by rw [xh717 k, (show M632 136 x10_9 = p1 from ti641.2.2.1), ti641.2.1 k, cnX_s (by omega)], PKx_fr ti641.2.2 (fun i => hQ713.at (ga_136 i) rfl) (fun i => hQ713.at (ga_137 i) rfl)⟩))
  exact wp_fg (le_s (le_n (le_n (le_s (le_s le_0))))) (c54_718 _ M18 0 rfl hP20 hF21 (fil_no e19 (mUp_no e17 (mUp_at e12) (Or.inr (by decide))) (by decide)) (fil_no e19 (mUp_no e17 (mUp_no e12 (mUp_no e8 (mUp_no e4 ex10_7 (Or.inl (by decide))) (Or.inl (by decide))) (Or.inr (by decide))) (Or.inr (by decide))) (by decide)) (fil_no e19 (mUp_no e17 (mUp_no e12 (mUp_no e8 (mUp_no e4 ex10_8 (Or.inl (by decide))) (Or.inl (by decide))) (Or.inr (by decide))) (Or.inr (by decide))) (by decide)) (fil_no e19 (mUp_at e17) (by decide)) (by first | with_reducible assumption | omega) (by first | with_reducible assumption | omega) (by first | with_reducible assumption | omega) (fun k q0 q1 => by rw [e19, fil_eq]; omega) (⟨BU_cg (BU_fr (BU_rf M0 17 x10_9) (fun r j q0 q1 => by rw [e19, fil_ne (by omega), e17, mUp_ne (Or.inl (by omega)), e12, mUp_ne (Or.inl (by omega)), e8, mUp_ne (Or.inl (by omega)), e4, mUp_ne (Or.inl (by omega))])) (fun r _ _ => ex_0), fun k => by rw [e19, fil_eq]; rfl, PKx_fr (PKx_mk e4 e8 (by decide)) (fun i => by rw [e19, fil_ne (by omega), e17, mUp_ne (Or.inl (by omega)), e12, mUp_ne (Or.inl (by omega))]) (fun i => by rw [e19, fil_ne (by omega), e17, mUp_ne (Or.inl (by omega)), e12, mUp_ne (Or.inl (by omega))])⟩))
def fm_n7177_2v6 : Nat := 0
/-- IslandHall$Plan.codeBehind -/
theorem n7177_2v6 {B : eB} (d : Nat) (M0 : Mm) (p1 : Int) (p2 : Int) (hP0 : Pw M0) (l1 : 0 ≤ p1) (u1 : p1 ≤ 6) (l2 : 0 ≤ p2) (u2 : p2 ≤ 5) : Ct B (d + 1) 177 [R 2, I p1, I p2] M0 (qI fun z M => Pw M ∧ Fr fm_n7177_2v6 M0 M ∧ (-1) ≤ z ∧ z ≤ 5 ∧ (0 ≤ z → M0 3 p1 / pw (kf z) % 2 = 1) ∧ (NBQ (M0 3 p1) p2 z)) := by
  refine ct_of (d := d + 0) (k := 1) (L := [some (R 2), some (I p1), some (I p2), none]) rfl rfl rfl ?_
  have hF0 := Fr.rf fm_n7177_2v6 M0
  generalize hQ : (qI fun z M => Pw M ∧ Fr fm_n7177_2v6 M0 M ∧ (-1) ≤ z ∧ z ≤ 5 ∧ (0 ≤ z → M0 3 p1 / pw (kf z) % 2 = 1) ∧ (NBQ (M0 3 p1) p2 z)) = Q
  refine wk_il2 r177_0 (wk_c1 r177_1 (wk_iadd r177_2 (wk_is3 r177_3 rfl ?_)))
  have c4_23 : ∀ (k23 : Nat) (v1 : Int), (6 - v1).toNat = k23 → 1 ≤ v1 → v1 ≤ 6 → 0 ≤ v1 + (-1) * p2 + (-1) → (∀ q : Int, p2 < q → q < v1 → M0 3 p1 / pw (kdQ q) % 2 ≠ 1) → Wp B (d + 0) 177 4 [some (R 2), some (I p1), none, some (I v1)] [] M0 Q := by
    refine lp_ind ?_
    intro k23 ih23 v1 hk23 h2 h3 h4 ti5
    refine wk_il3 r177_4 (wk_c2 r177_5 ?_)
    refine wk_icge r177_7 ⟨by omega, by omega⟩ (by decide) ?_ ?_
    · intro h6
      refine wk_c1 r177_36 ?_
      subst hQ; exact wk_iret r177_37 (⟨rfl, _, rfl, hP0, hF0, by omega, by omega, fun h => absurd h (by decide), Or.inl ⟨rfl, fun q a b => ti5 q a (by omega)⟩⟩)
    · intro h7
      refine wk_al0 r177_10 (wk_getfr r177_11 fd_2_0 (br_2_0 hP0) (wk_il1 r177_14 (wk_ialdb r177_15 ar_3 ⟨by omega, by omega⟩ (fun q0 q1 => ba_3 hP0 q0 q1) ?_)))
      intro v8 h10 h11 e9
      refine wk_kget r177_16 (wk_il3 r177_19 (wk_kald r177_20 ⟨by omega, by omega⟩ ?_))
      intro v12 h13 h14 h15
      refine wk_shrb r177_21 ⟨by omega, by omega⟩ ⟨by omega, by omega⟩ ?_
      intro v16 h17 h18 h19
      refine wk_c1 r177_22 (wk_iandc 1 2 r177_23 ⟨rfl, by decide⟩ rfl (wk_c1 r177_24 ?_))
      refine wk_icne r177_25 ⟨by omega, by omega⟩ (by decide) ?_ ?_
      · intro h21
        refine wk_inc3 r177_30 rfl (wk_goto r177_33 ?_)
        exact wp_fg (le_s (le_s (le_s (le_s le_0)))) (ih23 (6 - (v1 + 1)).toNat (by omega) (v1 + 1) rfl (by first | with_reducible assumption | omega) (by first | with_reducible assumption | omega) (by first | with_reducible assumption | omega) (fun q a b => (Int.lt_or_le q v1).elim (fun x => ti5 q a x) (fun x => by rw [show q = v1 by omega, e9, show kdQ v1 = _ from h15.symm, ← h19]; omega)))
      · intro h22
        refine wk_il3 r177_28 ?_
        subst hQ; exact wk_iret r177_29 (⟨rfl, _, rfl, hP0, hF0, by omega, by omega, fun _ => by unfold kf; rw [e9, ← h15, ← h19]; omega, Or.inr ⟨by omega, ⟨by omega, by omega, by rw [e9, show kdQ v1 = _ from h15.symm, ← h19]; omega⟩, fun q a b => ti5 q a b⟩⟩)
  exact wp_fg (le_s (le_s (le_n (le_s le_0)))) (c4_23 _ (p2 + 1) rfl (by first | with_reducible assumption | omega) (by first | with_reducible assumption | omega) (by first | with_reducible assumption | omega) (fun q a b => by omega))
def fm_n7010_14_2 : Nat := 1180591620717411303424
/-- IslandHall$Walk.stepPeople -/
theorem n7010_14_2 {B : eB} (d : Nat) (M0 : Mm) (x2_1 : Int) (hP0 : Pw M0) (ex2_1 : M0 2 1 = x2_1) (lx2_1 : 0 ≤ x2_1) (ux2_1 : x2_1 ≤ 7) (xp0 : WC M0) (xp1 : ∀ p : Int, 0 ≤ p → p < x2_1 → alQ (M0 3 p) (M0 15 p)) : Ct B (d + 2) 10 [R 14, R 2] M0 (qV fun M => Pw M ∧ Fr fm_n7010_14_2 M0 M ∧ (WC M) ∧ (SPP (fun k => M0 3 k) (fun k => M0 15 k) (fun k => M 15 k) x2_1 ∧ ∀ k : Int, x2_1 ≤ k → k < 7 → M 15 k = M0 15 k)) := by
  refine ct_of (d := d + 1) (k := 2) (L := [some (R 14), some (R 2), none, none]) rfl rfl rfl ?_
  have hF0 := Fr.rf fm_n7010_14_2 M0
  generalize hQ : (qV fun M => Pw M ∧ Fr fm_n7010_14_2 M0 M ∧ (WC M) ∧ (SPP (fun k => M0 3 k) (fun k => M0 15 k) (fun k => M 15 k) x2_1 ∧ ∀ k : Int, x2_1 ≤ k → k < 7 → M 15 k = M0 15 k)) = Q
  refine wk_al1 r10_0 (wk_getfi r10_1 fd_2_1 ex2_1 (wk_c1 r10_4 (wk_isub r10_5 (wk_is2 r10_6 rfl ?_))))
  have c7_45 : ∀ (k45 : Nat) (M4 : Mm) (v1 : Int), (v1 - (-1)).toNat = k45 → Pw M4 → Fr fm_n7010_14_2 M0 M4 → M4 2 1 = x2_1 → (-1) ≤ v1 → v1 ≤ 6 → 0 ≤ (-1) * v1 + x2_1 + (-1) → (WC M4) → (DCQ (fun k => M0 3 k) (fun k => M4 15 k) x2_1 v1 (hq (fun k => M0 3 k) (fun k => M0 15 k) x2_1) ∧ (∀ p : Int, 0 ≤ p → p < x2_1 → alQ (M0 3 p) (M4 15 p)) ∧ ∀ k : Int, x2_1 ≤ k → k < 7 → M4 15 k = M0 15 k) → Wp B (d + 1) 10 7 [some (R 14), some (R 2), some (I v1), none] [] M4 Q := by
    refine lp_ind ?_
    intro k45 ih45 M4 v1 hk45 hP5 hF6 e7 h2 h3 h8 ti9 ti10
    refine wk_il2 r10_7 ?_
    refine wk_iflt r10_8 ⟨by omega, by omega⟩ ?_ ?_
    · intro h11
      subst hQ; exact wk_ret r10_54 (⟨rfl, hP5, hF6, ti9, ⟨Or.inr (DCQ_all (by have q8 := ti10.1; rw [show v1 = -1 by omega] at q8; exact q8)), fun k a b => ti10.2.2 k a b⟩⟩)
    · intro h12
      refine wk_al1 r10_11 (wk_il2 r10_12 (wk_al0 r10_13 (wk_getfr r10_14 fd_14_0 (br_14_0 hP5) (wk_il2 r10_17 (wk_ialdb r10_18 ar_15 ⟨by omega, by omega⟩ (fun q0 q1 => ba_15 hP5 q0 q1) ?_)))))
      intro v13 h15 h16 e14
      refine wk_cv3 r10_19 kc_2_177 rfl (n7177_2v6 _ M4 v1 v13 hP5 (by first | with_reducible assumption | omega) (by first | with_reducible assumption | omega) (by first | with_reducible assumption | omega) (by first | with_reducible assumption | omega)) (cqI ?_)
      rintro v23 M17 ⟨hP18, hQ19, h24, h25, xh21, xh22⟩
      obtain rfl := Fr.same hQ19
      have hnb9 : NBQ (M0 3 v1) (M4 15 v1) v23 := by have q8 := xh22; rw [hF6.at (ga_3 _) rfl] at q8; rw [e14]; exact q8
      refine wk_is3 r10_22 rfl (wk_il3 r10_23 (wk_c1 r10_24 ?_))
      refine wk_iceq r10_25 ⟨by omega, by omega⟩ (by decide) ?_ ?_
      · intro h26
        refine wk_al0 r10_36 (wk_getfr r10_37 fd_14_0 (br_14_0 hP5) (wk_il2 r10_40 (wk_al1 r10_41 (wk_il2 r10_42 (wk_c1 r10_43 ?_)))))
        refine wk_cv3 r10_44 kc_2_177 rfl (n7177_2v5 _ M4 v1 (-1) hP5 (by first | with_reducible assumption | omega) (by first | with_reducible assumption | omega) (by decide) (by decide)) (cqI ?_)
        rintro v33 M27 ⟨hP28, hQ29, h34, h35, xh31, xh32⟩
        obtain rfl := Fr.same hQ29
        refine wk_iast r10_47 ar_15 ⟨by omega, by omega⟩ (wk_nw (ga_15 _) rfl hP5 hF6 (ua_15 ⟨by omega, by omega⟩) ?_)
        intro M36 hP37 hF38 e39
        refine wk_inc2 r10_48 rfl (wk_goto r10_51 ?_)
        exact wp_fg (le_s (le_s (le_s (le_n le_0)))) (ih45 ((v1 + (-1)) - (-1)).toNat (by omega) M36 (v1 + (-1)) rfl hP37 hF38 (mUp_no e39 e7 (Or.inl (by decide))) (by first | with_reducible assumption | omega) (by first | with_reducible assumption | omega) (by first | with_reducible assumption | omega) (WC_up e39 ti9 (xh31 (by omega))) (⟨DCQ_st ti10.1 (by omega) (by omega) (NBQ_max hnb9 (by omega) (ti10.2.1 v1 (by omega) (by omega)) (by have := ba_3 hP0 (i := v1) (by omega) (by omega); omega) (by have := ba_3 hP0 (i := v1) (by omega) (by omega); omega)) (NBQ_0 (by have q8 := xh32; rw [hF6.at (ga_3 _) rfl] at q8; exact q8) (by have := ba_3 hP0 (i := v1) (by omega) (by omega); omega) (by have := ba_3 hP0 (i := v1) (by omega) (by omega); omega) (by have := ba_3 hP0 (i := v1) (by omega) (by omega); omega)) (fun k => show M36 15 k = if k = v1 then v33 else M4 15 k by rw [e39]; by_cases q : k = v1; (rw [q, mUp_eq, if_pos rfl]); (rw [mUp_ne (Or.inr q), if_neg q])), fun p a b => by rw [e39]; by_cases q : p = v1; (rw [q, mUp_eq]; exact (NBQ_0 (by have q8 := xh32; rw [hF6.at (ga_3 _) rfl] at q8; exact q8) (by have := ba_3 hP0 (i := v1) (by omega) (by omega); omega) (by have := ba_3 hP0 (i := v1) (by omega) (by omega); omega) (by have := ba_3 hP0 (i := v1) (by omega) (by omega); omega)).1); (rw [mUp_ne (Or.inr q)]; exact ti10.2.1 p a b), fun k a b => by rw [e39, mUp_ne (Or.inr (by omega))]; exact ti10.2.2 k a b⟩))
      · intro h40
        refine wk_al0 r10_28 (wk_getfr r10_29 fd_14_0 (br_14_0 hP5) (wk_il2 r10_32 (wk_il3 r10_33 (wk_iast r10_34 ar_15 ⟨by omega, by omega⟩ (wk_nw (ga_15 _) rfl hP5 hF6 (ua_15 ⟨by omega, by omega⟩) ?_)))))
        intro M41 hP42 hF43 e44
        subst hQ; exact wk_ret r10_35 (⟨rfl, hP42, hF43, WC_up e44 ti9 (xh21 (by omega)), ⟨Or.inl ⟨fun p a b => by show alQ (M0 3 p) (M41 15 p); rw [e44]; by_cases q : p = v1; (rw [q, mUp_eq]; exact (NBQ_rk hnb9 (by omega) (ti10.2.1 v1 (by omega) (by omega))).1); (rw [mUp_ne (Or.inr q)]; exact ti10.2.1 p a b), DCQ_inc ti10.1 (by omega) (by omega) (NBQ_rk hnb9 (by omega) (ti10.2.1 v1 (by omega) (by omega))).2 (fun k => show M41 15 k = if k = v1 then v23 else M4 15 k by rw [e44]; by_cases q : k = v1; (rw [q, mUp_eq, if_pos rfl]); (rw [mUp_ne (Or.inr q), if_neg q]))⟩, fun k a b => by rw [e44, mUp_ne (Or.inr (by omega))]; exact ti10.2.2 k a b⟩⟩)
  exact wp_fg (le_s (le_s (le_s (le_s le_0)))) (c7_45 _ M0 (x2_1 - 1) rfl hP0 hF0 ex2_1 (by first | with_reducible assumption | omega) (by first | with_reducible assumption | omega) (by first | with_reducible assumption | omega) (xp0) (⟨by have q8 := DCQ_in (u := fun k => M0 3 k) (q := fun k => M0 15 k) (N := x2_1) (p := (x2_1 - 1)) (by omega); exact q8, xp1, fun _ _ _ => rfl⟩))
def fm_n7009_14_2 : Nat := 2213609288845146193920
/-- IslandHall$Walk.step -/
theorem n7009_14_2 {B : eB} (d : Nat) (M0 : Mm) (x2_1 : Int) (x14_1 : Int) (x14_2 : Int) (x14_3 : Int) (x2_2 : Int) (hP0 : Pw M0) (ex2_1 : M0 2 1 = x2_1) (lx2_1 : 0 ≤ x2_1) (ux2_1 : x2_1 ≤ 7) (ex14_1 : M0 14 1 = x14_1) (lx14_1 : 0 ≤ x14_1) (ux14_1 : x14_1 ≤ 3) (ex14_2 : M0 14 2 = x14_2) (lx14_2 : 0 ≤ x14_2) (ux14_2 : x14_2 ≤ 6) (ex14_3 : M0 14 3 = x14_3) (lx14_3 : 0 ≤ x14_3) (ux14_3 : x14_3 ≤ 1) (ex2_2 : M0 2 2 = x2_2) (lx2_2 : 1 ≤ x2_2) (ux2_2 : x2_2 ≤ 4) (xp0 : WC M0) (xp1 : ∀ p : Int, 0 ≤ p → p < x2_1 → alQ (M0 3 p) (M0 15 p)) : Ct B (d + 3) 9 [R 14, R 2] M0 (qV fun M => Pw M ∧ Fr fm_n7009_14_2 M0 M ∧ (WC M) ∧ (∀ i : Int, WKI M0 M0 i → i + 1 < TOT M0 → WKI M0 M (i + 1))) := by
  refine ct_of (d := d + 2) (k := 0) (L := [some (R 14), some (R 2)]) rfl rfl rfl ?_
  have hF0 := Fr.rf fm_n7009_14_2 M0
  generalize hQ : (qV fun M => Pw M ∧ Fr fm_n7009_14_2 M0 M ∧ (WC M) ∧ (∀ i : Int, WKI M0 M0 i → i + 1 < TOT M0 → WKI M0 M (i + 1))) = Q
  refine wk_al0 r9_0 (wk_getfi r9_1 fd_14_3 ex14_3 (wk_al1 r9_4 (wk_cv1 r9_5 kc_2_182 rfl (n7182_2 _ M0 hP0) (cqI ?_))))
  rintro v6 M1 ⟨hP2, hQ3, h7, h8, xh5⟩
  obtain rfl := Fr.same hQ3
  refine wk_icge r9_8 ⟨by omega, by omega⟩ ⟨by omega, by omega⟩ ?_ ?_
  · intro h9
    refine wk_al0 r9_22 (wk_c1 r9_23 (wk_putfi81 r9_24 fd_14_3 (wk_nw g_14_3 rfl hP0 hF0 (uf_14_3 (by decide)) ?_)))
    intro M10 hP11 hF12 e13
    refine wk_al0 r9_27 (wk_getfi r9_28 fd_14_2 (mUp_no e13 ex14_2 (Or.inr (by decide))) (wk_al1 r9_31 ?_))
    refine wk_cv1 r9_32 kc_2_181 rfl (n7181_2 _ M10 hP11) (cqI ?_)
    rintro v19 M14 ⟨hP15, hQ16, h20, h21, xh18⟩
    obtain rfl := Fr.same hQ16
    refine wk_icge r9_35 ⟨by omega, by omega⟩ ⟨by omega, by omega⟩ ?_ ?_
    · intro h22
      refine wk_al0 r9_49 (wk_al1 r9_50 ?_)
      refine wk_cv1 r9_51 kc_2_179 rfl (n7179_2 _ M10 hP11) (cqI ?_)
      rintro v28 M23 ⟨hP24, hQ25, h29, h30, xh27⟩
      obtain rfl := Fr.same hQ25
      refine wk_putfi81 r9_54 fd_14_2 (wk_nw g_14_2 rfl hP11 hF12 (uf_14_2 ⟨by omega, by omega⟩) ?_)
      intro M31 hP32 hF33 e34
      refine wk_al0 r9_57 (wk_getfi r9_58 fd_14_1 (mUp_no e34 (mUp_no e13 ex14_1 (Or.inr (by decide))) (Or.inr (by decide))) (wk_c1 r9_61 (wk_iadd r9_62 (wk_al1 r9_63 (wk_getfi r9_64 fd_2_2 (mUp_no e34 (mUp_no e13 ex2_2 (Or.inl (by decide))) (Or.inl (by decide))) ?_)))))
      refine wk_icge r9_67 ⟨by omega, by omega⟩ ⟨by omega, by omega⟩ ?_ ?_
      · intro h35
        refine wk_al0 r9_81 (wk_c1 r9_82 (wk_putfi81 r9_83 fd_14_1 (wk_nw g_14_1 rfl hP32 hF33 (uf_14_1 (by decide)) ?_)))
        intro M36 hP37 hF38 e39
        refine wk_al0 r9_86 (wk_al1 r9_87 ?_)
        have hr39 : (fun k => M36 3 k) = (fun k => M0 3 k) := funext fun k => (mUp_no e39 (mUp_no e34 (mUp_no e13 rfl (Or.inl (by decide))) (Or.inl (by decide))) (Or.inl (by decide)))
        have hr159 : (fun k => M36 15 k) = (fun k => M0 15 k) := funext fun k => (mUp_no e39 (mUp_no e34 (mUp_no e13 rfl (Or.inl (by decide))) (Or.inl (by decide))) (Or.inl (by decide)))
        refine wk_cv2 r9_88 kc_14_10 rfl (n7010_14_2 _ M36 x2_1 hP37 (mUp_no e39 (mUp_no e34 (mUp_no e13 ex2_1 (Or.inl (by decide))) (Or.inl (by decide))) (Or.inl (by decide))) (by first | with_reducible assumption | omega) (by first | with_reducible assumption | omega) ((WC_eq (by rw [e39, mUp_ne (Or.inl (by decide))]) (fun k => by rw [e39, mUp_ne (Or.inl (by decide))]) (fun k => by rw [e39, mUp_ne (Or.inl (by decide))]) (WC_eq (by rw [e34, mUp_ne (Or.inl (by decide))]) (fun k => by rw [e34, mUp_ne (Or.inl (by decide))]) (fun k => by rw [e34, mUp_ne (Or.inl (by decide))]) (WC_eq (by rw [e13, mUp_ne (Or.inl (by decide))]) (fun k => by rw [e13, mUp_ne (Or.inl (by decide))]) (fun k => by rw [e13, mUp_ne (Or.inl (by decide))]) xp0)))) (fun p a b => by rw [show M36 3 p = M0 3 p from congrFun hr39 p, show M36 15 p = M0 15 p from congrFun hr159 p]; exact xp1 p a b)) (cqV ?_)
        rintro M40 ⟨hP41, hQ42, xh44, xh45⟩
        have hF43 : Fr fm_n7009_14_2 M0 M40 := hF38.tr hQ42 rfl
        subst hQ; exact wk_ret r9_91 (⟨rfl, hP41, hF43, xh44, fun i h9 hlt => WK_p h9 hlt (by have q7 := xh5; have q6 := ex14_3; omega) (by have q7 := xh18; have q6 := ex14_2; have q5 : lD M10 2 = lD M0 2 := (by unfold lD eD; rw [(show M10 2 3 = M0 2 3 from hF12.at g_2_3 rfl), (show M10 2 5 = M0 2 5 from hF12.at g_2_5 rfl)]); omega) (by have q6 := ex14_1; have q5 := ex2_2; omega) (by have q7 := ((hQ42.at g_14_1 rfl).trans (mUp_at e39)); have q6 := ex14_1; omega) (by have q7 := ((hQ42.at g_14_2 rfl).trans (mUp_no e39 (mUp_at e34) (Or.inr (by decide)))); have q6 := xh27; have q5 : eD M10 2 = eD M0 2 := (by unfold eD; rw [(show M10 2 3 = M0 2 3 from hF12.at g_2_3 rfl)]); omega) (by have q7 := ((hQ42.at g_14_3 rfl).trans (mUp_no e39 (mUp_no e34 (mUp_at e13) (Or.inr (by decide))) (Or.inr (by decide)))); have q6 := ex14_3; omega) (by have q8 := xh45.1; rw [hr39, hr159] at q8; rw [ex2_1]; exact q8) (fun q a b => by have q8 := xh45.2 q (by have := ex2_1; omega) b; rw [show M36 15 q = M0 15 q from congrFun hr159 q] at q8; exact q8)⟩)
      · intro h46
        refine wk_al0 r9_70 (wk_dupr r9_71 (wk_getfi r9_72 fd_14_1 (mUp_no e34 (mUp_no e13 ex14_1 (Or.inr (by decide))) (Or.inr (by decide))) (wk_c1 r9_75 (wk_iadd r9_76 (wk_putfi81 r9_77 fd_14_1 (wk_nw g_14_1 rfl hP32 hF33 (uf_14_1 ⟨by omega, by omega⟩) ?_))))))
        intro M47 hP48 hF49 e50
        subst hQ; exact wk_ret r9_80 (⟨rfl, hP48, hF49, (WC_eq (by rw [e50, mUp_ne (Or.inl (by decide))]) (fun k => by rw [e50, mUp_ne (Or.inl (by decide))]) (fun k => by rw [e50, mUp_ne (Or.inl (by decide))]) (WC_eq (by rw [e34, mUp_ne (Or.inl (by decide))]) (fun k => by rw [e34, mUp_ne (Or.inl (by decide))]) (fun k => by rw [e34, mUp_ne (Or.inl (by decide))]) (WC_eq (by rw [e13, mUp_ne (Or.inl (by decide))]) (fun k => by rw [e13, mUp_ne (Or.inl (by decide))]) (fun k => by rw [e13, mUp_ne (Or.inl (by decide))]) xp0))), fun i h9 hlt => WK_r h9 (by have q7 := xh5; have q6 := ex14_3; omega) (by have q7 := xh18; have q6 := ex14_2; have q5 : lD M10 2 = lD M0 2 := (by unfold lD eD; rw [(show M10 2 3 = M0 2 3 from hF12.at g_2_3 rfl), (show M10 2 5 = M0 2 5 from hF12.at g_2_5 rfl)]); omega) (by have q6 := ex14_1; have q5 := ex2_2; omega) (by have q7 := (mUp_at e50); have q6 := ex14_1; omega) (by have q7 := (mUp_no e50 (mUp_at e34) (Or.inr (by decide))); have q6 := xh27; have q5 : eD M10 2 = eD M0 2 := (by unfold eD; rw [(show M10 2 3 = M0 2 3 from hF12.at g_2_3 rfl)]); omega) (by have q7 := (mUp_no e50 (mUp_no e34 (mUp_at e13) (Or.inr (by decide))) (Or.inr (by decide))); have q6 := ex14_3; omega) (fun k => (mUp_no e50 (mUp_no e34 (mUp_no e13 rfl (Or.inl (by decide))) (Or.inl (by decide))) (Or.inl (by decide))))⟩)
    · intro h51
      refine wk_al0 r9_38 (wk_dupr r9_39 (wk_getfi r9_40 fd_14_2 (mUp_no e13 ex14_2 (Or.inr (by decide))) (wk_c1 r9_43 (wk_iadd r9_44 (wk_putfi81 r9_45 fd_14_2 (wk_nw g_14_2 rfl hP11 hF12 (uf_14_2 ⟨by omega, by omega⟩) ?_))))))
      intro M52 hP53 hF54 e55
      subst hQ; exact wk_ret r9_48 (⟨rfl, hP53, hF54, (WC_eq (by rw [e55, mUp_ne (Or.inl (by decide))]) (fun k => by rw [e55, mUp_ne (Or.inl (by decide))]) (fun k => by rw [e55, mUp_ne (Or.inl (by decide))]) (WC_eq (by rw [e13, mUp_ne (Or.inl (by decide))]) (fun k => by rw [e13, mUp_ne (Or.inl (by decide))]) (fun k => by rw [e13, mUp_ne (Or.inl (by decide))]) xp0)), fun i h9 hlt => WK_d h9 (by have q7 := xh5; have q6 := ex14_3; omega) (by have q7 := xh18; have q6 := ex14_2; have q5 : lD M10 2 = lD M0 2 := (by unfold lD eD; rw [(show M10 2 3 = M0 2 3 from hF12.at g_2_3 rfl), (show M10 2 5 = M0 2 5 from hF12.at g_2_5 rfl)]); omega) (by have q7 := (mUp_no e55 (mUp_no e13 ex14_1 (Or.inr (by decide))) (Or.inr (by decide))); have q6 := ex14_1; omega) (by have q7 := (mUp_at e55); have q6 := ex14_2; omega) (by have q7 := (mUp_no e55 (mUp_at e13) (Or.inr (by decide))); have q6 := ex14_3; omega) (fun k => (mUp_no e55 (mUp_no e13 rfl (Or.inl (by decide))) (Or.inl (by decide))))⟩)
  · intro h56
    refine wk_al0 r9_11 (wk_dupr r9_12 (wk_getfi r9_13 fd_14_3 ex14_3 (wk_c1 r9_16 (wk_iadd r9_17 (wk_putfi81 r9_18 fd_14_3 (wk_nw g_14_3 rfl hP0 hF0 (uf_14_3 ⟨by omega, by omega⟩) ?_))))))
    intro M57 hP58 hF59 e60
    subst hQ; exact wk_ret r9_21 (⟨rfl, hP58, hF59, (WC_eq (by rw [e60, mUp_ne (Or.inl (by decide))]) (fun k => by rw [e60, mUp_ne (Or.inl (by decide))]) (fun k => by rw [e60, mUp_ne (Or.inl (by decide))]) xp0), fun i h9 hlt => WK_y h9 (by have q7 := xh5; have q6 := ex14_3; omega) (by have q7 := (mUp_no e60 ex14_1 (Or.inr (by decide))); have q6 := ex14_1; omega) (by have q7 := (mUp_no e60 ex14_2 (Or.inr (by decide))); have q6 := ex14_2; omega) (by have q7 := (mUp_at e60); have q6 := ex14_3; omega) (fun k => (mUp_no e60 rfl (Or.inl (by decide))))⟩)
def fm_n7205_10_2 : Nat := 35324938440401487921152
/-- IslandHall$Realm.settle -/
theorem n7205_10_2 {B : eB} (d : Nat) (M0 : Mm) (x2_1 : Int) (x2_2 : Int) (x2_4 : Int) (hP0 : Pw M0) (ex2_1 : M0 2 1 = x2_1) (lx2_1 : 0 ≤ x2_1) (ux2_1 : x2_1 ≤ 7) (ex2_2 : M0 2 2 = x2_2) (lx2_2 : 1 ≤ x2_2) (ux2_2 : x2_2 ≤ 4) (ex2_4 : M0 2 4 = x2_4) (lx2_4 : 0 ≤ x2_4) (ux2_4 : x2_4 ≤ 127) (xp0 : SZk M0 2 3 ≤ 3000) : Ct B (d + 6) 205 [R 10, R 2] M0 (qV fun M => Pw M ∧ Fr fm_n7205_10_2 M0 M ∧ 0 ≤ 64 * (M 10 10) + (-1) * (M 10 9) ∧ 0 ≤ (-64) * (M 10 10) + M 10 9 + 63 ∧ (M 10 9 = TOT M0 ∧ RWS M 17 136 x2_1 x2_4 (TOT M0) ∧ ∀ i : Int, 0 ≤ i → i < TOT M0 → WKP M0 (M 136 i) (M 137 i) i) ∧ (∀ k : Int, M 11 k = 0)) := by
  refine ct_of (d := d + 5) (k := 2) (L := [some (R 10), some (R 2), none, none]) rfl rfl rfl ?_
  have hF0 := Fr.rf fm_n7205_10_2 M0
  generalize hQ : (qV fun M => Pw M ∧ Fr fm_n7205_10_2 M0 M ∧ 0 ≤ 64 * (M 10 10) + (-1) * (M 10 9) ∧ 0 ≤ (-64) * (M 10 10) + M 10 9 + 63 ∧ (M 10 9 = TOT M0 ∧ RWS M 17 136 x2_1 x2_4 (TOT M0) ∧ ∀ i : Int, 0 ≤ i → i < TOT M0 → WKP M0 (M 136 i) (M 137 i) i) ∧ (∀ k : Int, M 11 k = 0)) = Q
  refine wk_al0 r205_0 (wk_al1 r205_1 (wk_getfi r205_2 fd_2_1 ex2_1 (wk_al1 r205_5 (wk_getfi r205_6 fd_2_4 ex2_4 (wk_cv3 r205_9 kc_10_187 rfl (n7187_10 _ M0 x2_1 x2_4 hP0 (by first | with_reducible assumption | omega) (by first | with_reducible assumption | omega) (by first | with_reducible assumption | omega) (by first | with_reducible assumption | omega)) (cqV ?_))))))
  rintro M1 ⟨hP2, hQ3, h5, h6, h7, h8, h9, h10, xh11, xh12⟩
  have hF4 : Fr fm_n7205_10_2 M0 M1 := hF0.tr hQ3 rfl
  obtain ⟨v13, e14⟩ : ∃ v, M1 10 9 = v := ⟨_, rfl⟩
  have h15 := (bf_10_9 hP2).1; rw [e14] at h15
  have h16 := (bf_10_9 hP2).2; rw [e14] at h16
  obtain ⟨v17, e18⟩ : ∃ v, M1 10 10 = v := ⟨_, rfl⟩
  have h19 := (bf_10_10 hP2).1; rw [e18] at h19
  have h20 := (bf_10_10 hP2).2; rw [e18] at h20
  obtain ⟨v21, e22⟩ : ∃ v, M1 10 7 = v := ⟨_, rfl⟩
  have h23 := (bf_10_7 hP2).1; rw [e22] at h23
  have h24 := (bf_10_7 hP2).2; rw [e22] at h24
  obtain ⟨v25, e26⟩ : ∃ v, M1 10 8 = v := ⟨_, rfl⟩
  have h27 := (bf_10_8 hP2).1; rw [e26] at h27
  have h28 := (bf_10_8 hP2).2; rw [e26] at h28
  refine wk_al0 r205_12 (wk_getfr r205_13 fd_10_6 (br_10_6 hP2) (wk_al1 r205_16 (wk_cv2 r205_17 kc_14_5 rfl (n7005_14_2 _ M1 x2_1 hP2 ((hQ3.at g_2_1 rfl).trans ex2_1) (by first | with_reducible assumption | omega) (by first | with_reducible assumption | omega)) (cqV ?_))))
  rintro M29 ⟨hP30, hQ31, xh33, xh34⟩
  have hF32 : Fr fm_n7205_10_2 M0 M29 := hF4.tr hQ31 rfl
  have wc0 := xh33
  refine wk_al1 r205_20 (wk_cv1 r205_21 kc_2_184 rfl (n7184_2 _ M29 hP30) (cqI ?_))
  rintro v40 M35 ⟨hP36, hQ37, h41, h42, xh39⟩
  obtain rfl := Fr.same hQ37
  have pbk : 1 ≤ v40 → PBok M29 := fun h => PBok_of (fun k a b => ba_3 hP30 a b) (bf_2_1 hP30).2 xh39 h (by rw [xh39, SZk_eq (M := M0) (pl_fr hF32 rfl rfl rfl rfl rfl rfl) (fun k _ _ => hF32.at (ga_3 k) rfl) (bf_2_1 hP0).2]; exact xp0)
  refine wk_al0 r205_24 (wk_getfr r205_25 fd_10_1 (br_10_1 hP30) (wk_alen r205_28 ar_136 (by decide) (wk_min r205_29 ⟨by omega, by omega⟩ (by decide) rfl ?_)))
  intro v43 h44 h45 h46
  have hTOT : v43 = TOT M0 := by have q9 := TOT_SZ (M := M0) (fun k a b => ba_3 hP0 a b) (bf_2_1 hP0).2; have q8 := xh39; rw [SZk_eq (M := M0) (pl_fr hF32 rfl rfl rfl rfl rfl rfl) (fun k _ _ => hF32.at (ga_3 k) rfl) (bf_2_1 hP0).2] at q8; omega
  have hT0 : 0 ≤ v43 := by rw [hTOT]; exact TOT_nn (by rw [ex2_2]; omega)
  refine wk_is2 r205_32 rfl (wk_c1 r205_33 (wk_is3 r205_34 rfl ?_))
  have c35_967 : ∀ (k967 : Nat) (M884 : Mm) (v881 : Int) (v887 : Int) (v891 : Int), (3000 - v881).toNat = k967 → Pw M884 → Fr fm_n7205_10_2 M0 M884 → M884 10 9 = v887 → M884 10 10 = v891 → M884 2 1 = x2_1 → M884 2 2 = x2_2 → M884 2 4 = x2_4 → M884 10 7 = v21 → M884 10 8 = v25 → 0 ≤ v881 → v881 ≤ 3000 → 0 ≤ v887 → v887 ≤ 3000 → 0 ≤ v891 → v891 ≤ 47 → 0 ≤ (-1) * v881 + v43 → 0 ≤ v887 + (-1) * v881 → 0 ≤ (-1) * v887 + v881 → 0 ≤ 64 * v891 + (-1) * v881 → 0 ≤ (-64) * v891 + v881 + 63 → 0 ≤ (-1) * v881 + v887 + 0 → 0 ≤ (-1) * v887 + v881 + 0 → 0 ≤ (-1) * v891 + v881 + 0 → 0 ≤ (-1) * v891 + v887 + 0 → (WC M884) → (1 ≤ v43 → PBok M884) → ((v881 < v43 → WKI M0 M884 v881) ∧ RWS M884 17 136 x2_1 x2_4 v881 ∧ ∀ i : Int, 0 ≤ i → i < v881 → WKP M0 (M884 136 i) (M884 137 i) i) → (∀ k : Int, M884 11 k = 0) → Wp B (d + 5) 205 35 [some (R 10), some (R 2), some (I v43), some (I v881)] [] M884 Q := by
    refine lp_ind ?_
    intro k967 ih967 M884 v881 v887 v891 hk967 hP885 hF886 e890 e894 e895 e896 e897 e898 e899 h882 h883 h888 h889 h892 h893 h900 h901 h902 h903 h904 h905 h906 h907 h908 ti909 ti910 ti911 ti912
    refine wk_il3 r205_35 (wk_il2 r205_36 ?_)
    refine wk_icge r205_37 ⟨by omega, by omega⟩ ⟨by omega, by omega⟩ ?_ ?_
    · intro h913
      subst hQ; exact wk_ret r205_73 (⟨rfl, hP885, hF886, by have := e894; have := e890; omega, by have := e894; have := e890; omega, ⟨(e890).trans (by rw [← hTOT]; omega), by have q8 := ti911.2.1; rw [show v881 = TOT M0 by rw [← hTOT]; omega] at q8; exact q8, fun i a b => ti911.2.2 i a (by rw [← hTOT] at b; omega)⟩, ti912⟩)
    · intro h914
      refine wk_al0 r205_40 (wk_al0 r205_41 (wk_getfr r205_42 fd_10_6 (br_10_6 hP885) ?_))
      obtain ⟨v915, e916⟩ : ∃ v, M884 14 1 = v := ⟨_, rfl⟩
      have h917 := (bf_14_1 hP885).1; rw [e916] at h917
      have h918 := (bf_14_1 hP885).2; rw [e916] at h918
      obtain ⟨v919, e920⟩ : ∃ v, M884 14 2 = v := ⟨_, rfl⟩
      have h921 := (bf_14_2 hP885).1; rw [e920] at h921
      have h922 := (bf_14_2 hP885).2; rw [e920] at h922
      obtain ⟨v923, e924⟩ : ∃ v, M884 14 3 = v := ⟨_, rfl⟩
      have h925 := (bf_14_3 hP885).1; rw [e924] at h925
      have h926 := (bf_14_3 hP885).2; rw [e924] at h926
      refine wk_cv1 r205_45 kc_14_7 rfl (n7007_14 _ M884 v915 v919 v923 hP885 e916 (by first | with_reducible assumption | omega) (by first | with_reducible assumption | omega) e920 (by first | with_reducible assumption | omega) (by first | with_reducible assumption | omega) e924 (by first | with_reducible assumption | omega) (by first | with_reducible assumption | omega)) (cqI ?_)
      rintro v932 M927 ⟨hP928, hQ929, h933, h934, xh931⟩
      obtain rfl := Fr.same hQ929
      refine wk_al0 r205_48 (wk_getfr r205_49 fd_10_6 (br_10_6 hP885) (wk_al1 r205_52 (wk_cv2 r205_53 kc_14_8 rfl (n7008_14_2 _ M884 x2_1 hP885 e895 (by first | with_reducible assumption | omega) (by first | with_reducible assumption | omega) (ti909) (ti910 (by omega))) (cqI ?_))))
      rintro v940 M935 ⟨hP936, hQ937, h941, h942, xh939⟩
      obtain rfl := Fr.same hQ937
      refine wk_cv3 r205_56 kc_10_202 rfl (n7202_10 _ M884 v932 v940 v887 v21 v25 hP885 (by first | with_reducible assumption | omega) (by first | with_reducible assumption | omega) (by first | with_reducible assumption | omega) (by first | with_reducible assumption | omega) e890 (by first | with_reducible assumption | omega) (by first | with_reducible assumption | omega) e898 (by first | with_reducible assumption | omega) (by first | with_reducible assumption | omega) e899 (by first | with_reducible assumption | omega) (by first | with_reducible assumption | omega)) (cqV ?_)
      rintro M943 ⟨hP944, hQ945, h947, h948, h949, h950, xh951, xh952⟩
      have hF946 : Fr fm_n7205_10_2 M0 M943 := hF886.tr hQ945 rfl
      obtain ⟨v953, e954⟩ : ∃ v, M943 10 9 = v := ⟨_, rfl⟩
      have h955 := (bf_10_9 hP944).1; rw [e954] at h955
      have h956 := (bf_10_9 hP944).2; rw [e954] at h956
      obtain ⟨v957, e958⟩ : ∃ v, M943 10 10 = v := ⟨_, rfl⟩
      have h959 := (bf_10_10 hP944).1; rw [e958] at h959
      have h960 := (bf_10_10 hP944).2; rw [e958] at h960
      refine wk_al0 r205_59 (wk_getfr r205_60 fd_10_6 (br_10_6 hP944) (wk_al1 r205_63 (wk_cv2 r205_64 kc_14_9 rfl (n7009_14_2 _ M943 x2_1 v915 v919 v923 x2_2 hP944 ((hQ945.at g_2_1 rfl).trans e895) (by first | with_reducible assumption | omega) (by first | with_reducible assumption | omega) ((hQ945.at g_14_1 rfl).trans e916) (by first | with_reducible assumption | omega) (by first | with_reducible assumption | omega) ((hQ945.at g_14_2 rfl).trans e920) (by first | with_reducible assumption | omega) (by first | with_reducible assumption | omega) ((hQ945.at g_14_3 rfl).trans e924) (by first | with_reducible assumption | omega) (by first | with_reducible assumption | omega) ((hQ945.at g_2_2 rfl).trans e896) (by first | with_reducible assumption | omega) (by first | with_reducible assumption | omega) ((WC_eq (hQ945.at g_2_1 rfl) (fun k => hQ945.at (ga_3 k) rfl) (fun k => hQ945.at (ga_15 k) rfl) ti909)) (fun p a b => by have q8 := (show WKI M0 M884 v881 from ti911.1 (by omega)).1 p a (by rw [ex2_1]; exact b); rw [show M943 3 p = M0 3 p from hF946.at (ga_3 _) rfl, show M943 15 p = M884 15 p from hQ945.at (ga_15 _) rfl]; exact q8)) (cqV ?_))))
      rintro M961 ⟨hP962, hQ963, xh965, xh966⟩
      have hF964 : Fr fm_n7205_10_2 M0 M961 := hF946.tr hQ963 rfl
      refine wk_inc3 r205_67 rfl (wk_goto r205_70 ?_)
      exact wp_fg (le_s (le_s (le_s (le_s le_0)))) (ih967 (3000 - (v881 + 1)).toNat (by omega) M961 (v881 + 1) v953 v957 rfl hP962 hF964 ((hQ963.at g_10_9 rfl).trans e954) ((hQ963.at g_10_10 rfl).trans e958) ((hQ963.at g_2_1 rfl).trans ((hQ945.at g_2_1 rfl).trans e895)) ((hQ963.at g_2_2 rfl).trans ((hQ945.at g_2_2 rfl).trans e896)) ((hQ963.at g_2_4 rfl).trans ((hQ945.at g_2_4 rfl).trans e897)) ((hQ963.at g_10_7 rfl).trans ((hQ945.at g_10_7 rfl).trans e898)) ((hQ963.at g_10_8 rfl).trans ((hQ945.at g_10_8 rfl).trans e899)) (by first | with_reducible assumption | omega) (by first | with_reducible assumption | omega) (by first | with_reducible assumption | omega) (by first | with_reducible assumption | omega) (by first | with_reducible assumption | omega) (by first | with_reducible assumption | omega) (by first | with_reducible assumption | omega) (by first | with_reducible assumption | omega) (by first | with_reducible assumption | omega) (by first | with_reducible assumption | omega) (by first | with_reducible assumption | omega) (by first | with_reducible assumption | omega) (by first | with_reducible assumption | omega) (by first | with_reducible assumption | omega) (by first | with_reducible assumption | omega) (xh965) (fun h => (PBok_eq (hQ963.at g_2_1 rfl) (fun k => hQ963.at (ga_3 k) rfl) (PBok_eq (hQ945.at g_2_1 rfl) (fun k => hQ945.at (ga_3 k) rfl) (ti910 h)))) (⟨fun q => by have q8 := xh966 v881; rw [WK_fr (Mp := M0) (Mp2 := M943) (fun k a b => pl_fr0 hF946 rfl rfl rfl rfl rfl rfl rfl k a b) (fun k => hF946.at (ga_3 k) rfl), TOT_fr (Mp := M0) (Mp2 := M943) (fun k a b => pl_fr0 hF946 rfl rfl rfl rfl rfl rfl rfl k a b) (fun k => hF946.at (ga_3 k) rfl)] at q8; rw [WK_fr (Mp := M0) (Mp2 := M943) (fun k a b => pl_fr0 hF946 rfl rfl rfl rfl rfl rfl rfl k a b) (fun k => hF946.at (ga_3 k) rfl)] at q8; exact q8 (WK_m (ti911.1 (by omega)) (fun k => hQ945.at (ga_15 k) rfl) (hQ945.at g_14_1 rfl) (hQ945.at g_14_2 rfl) (hQ945.at g_14_3 rfl)) (by rw [← hTOT]; omega), RWS_fr (RWS_st ti911.2.1 (by have q8 := xh951; rw [show v21 = x2_1 by omega, show v25 = x2_4 by omega] at q8; exact q8) xh952 (by omega) (by omega)) (fun r j q0 q1 => hQ963.at (gr_17 (by omega) (by omega) _) rfl) (fun i => hQ963.at (ga_136 i) rfl), fun i a b => by rw [hQ963.at (ga_136 i) rfl, hQ963.at (ga_137 i) rfl]; exact WKP_st ti911.2.2 xh952 (by omega) (WKP_mk (ti911.1 (by omega)) ⟨by rw [ex2_1]; omega, by rw [ex2_1]; omega⟩ xh931 e916 e920 e924 (by have q8 := xh939; rw [show (fun k => M884 3 k) = (fun k => M0 3 k) from funext fun k => hF886.at (ga_3 k) rfl] at q8; rw [ex2_1]; exact q8)) i a b⟩) (fun k => (hQ963.at (ga_11 k) rfl).trans ((hQ945.at (ga_11 k) rfl).trans (ti912 k))))
  exact wp_fg (le_s (le_s (le_s (le_s le_0)))) (c35_967 _ M29 0 v13 v17 rfl hP30 hF32 ((hQ31.at g_10_9 rfl).trans e14) ((hQ31.at g_10_10 rfl).trans e18) ((hQ31.at g_2_1 rfl).trans ((hQ3.at g_2_1 rfl).trans ex2_1)) ((hQ31.at g_2_2 rfl).trans ((hQ3.at g_2_2 rfl).trans ex2_2)) ((hQ31.at g_2_4 rfl).trans ((hQ3.at g_2_4 rfl).trans ex2_4)) ((hQ31.at g_10_7 rfl).trans e22) ((hQ31.at g_10_8 rfl).trans e26) (by first | with_reducible assumption | omega) (by first | with_reducible assumption | omega) (by first | with_reducible assumption | omega) (by first | with_reducible assumption | omega) (by first | with_reducible assumption | omega) (by first | with_reducible assumption | omega) (by first | with_reducible assumption | omega) (by first | with_reducible assumption | omega) (by first | with_reducible assumption | omega) (by first | with_reducible assumption | omega) (by first | with_reducible assumption | omega) (by first | with_reducible assumption | omega) (by first | with_reducible assumption | omega) (by first | with_reducible assumption | omega) (by first | with_reducible assumption | omega) (wc0) (fun h => pbk (by omega)) (⟨fun _ => by have q8 := xh34 (by rw [hF4.at g_2_2 rfl, ex2_2]; omega); rw [WK_fr (Mp := M0) (Mp2 := M1) (fun k a b => pl_fr0 hF4 rfl rfl rfl rfl rfl rfl rfl k a b) (fun k => hF4.at (ga_3 k) rfl)] at q8; exact q8, RWS_0 (fun r j q0 q1 => (hQ31.at (gr_17 (by omega) (by omega) _) rfl).trans (xh11 r q0 q1 j)) (by omega), fun i a b => by omega⟩) (fun k => (hQ31.at (ga_11 k) rfl).trans (xh12 k)))
