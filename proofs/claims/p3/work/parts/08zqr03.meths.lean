/-! ===== written by program (wip/layer4) ===== -/
def fm_m7178_2_7 : Nat := 266338304
/-- IslandHall$Plan.copy -/
theorem m7178_2_7 {B : eB} (d : Nat) (M0 : Mm) (hP0 : Pw M0) (xp0 : ∀ k : Int, 0 ≤ k → k < 7 → 1 ≤ M0 8 k) : Ct B (d + 1) 178 [R 2, R 7] M0 (qV fun M => Pw M ∧ Fr fm_m7178_2_7 M0 M ∧ 0 ≤ M 2 1 + (-1) * (M 7 1) ∧ 0 ≤ (-1) * (M 2 1) + M 7 1 ∧ (SZk M 2 3 = SZk M0 7 8)) := by
  refine ct_of (d := d + 0) (k := 0) (L := [some (R 2), some (R 7)]) rfl rfl rfl ?_
  have hF0 := Fr.rf fm_m7178_2_7 M0
  generalize hQ : (qV fun M => Pw M ∧ Fr fm_m7178_2_7 M0 M ∧ 0 ≤ M 2 1 + (-1) * (M 7 1) ∧ 0 ≤ (-1) * (M 2 1) + M 7 1 ∧ (SZk M 2 3 = SZk M0 7 8)) = Q
  refine wk_al1 r178_0 (wk_getfr r178_1 fd_7_0 (br_7_0 hP0) (wk_c1 r178_4 (wk_al0 r178_5 (wk_getfr r178_6 fd_2_0 (br_2_0 hP0) (wk_c1 r178_9 (wk_c2 r178_10 (wk_copy109 r178_12 ar_8 ar_3 ⟨by decide, by decide, by decide, by omega, by omega, by omega⟩ rfl (wk_nc (fun i => by rw [(ga_3 i)]; rfl) hP0 hF0 (fun i h0 h1 => by have := ba_8 hP0 h0 (by omega); have q9 := xp0 i h0 (by omega); exact (ua_3 ⟨by omega, by omega⟩)) ?_))))))))
  intro M1 hP2 hF3 e4
  obtain ⟨u5, hu6⟩ : ∃ u : Int → Int, ∀ k, M1 3 k = u k := ⟨fun k => M1 3 k, fun k => rfl⟩
  have cq : ∀ k : Int, 0 ≤ k → k < 7 → u5 k = M0 8 k := fun k a b => by rw [← hu6 k]; exact cpy_at e4 a b
  refine wk_al0 r178_15 (wk_al1 r178_16 (wk_getfb r178_17 fd_7_1 (bf_7_1 hP2) ?_))
  intro v7 h9 h10 e8
  refine wk_putfi81 r178_20 fd_2_1 (wk_nw g_2_1 rfl hP2 hF3 (uf_2_1 ⟨by omega, by omega⟩) ?_)
  intro M11 hP12 hF13 e14
  refine wk_al0 r178_23 (wk_al1 r178_24 (wk_getfb r178_25 fd_7_2 (bf_7_2 hP12) ?_))
  intro v15 h17 h18 e16
  refine wk_putfi81 r178_28 fd_2_2 (wk_nw g_2_2 rfl hP12 hF13 (uf_2_2 ⟨by omega, by omega⟩) ?_)
  intro M19 hP20 hF21 e22
  refine wk_al0 r178_31 (wk_al1 r178_32 (wk_getfb r178_33 fd_7_3 (bf_7_3 hP20) ?_))
  intro v23 h25 h26 e24
  refine wk_putfi81 r178_36 fd_2_3 (wk_nw g_2_3 rfl hP20 hF21 (uf_2_3 ⟨by omega, by omega⟩) ?_)
  intro M27 hP28 hF29 e30
  refine wk_al0 r178_39 (wk_al1 r178_40 (wk_getfb r178_41 fd_7_4 (bf_7_4 hP28) ?_))
  intro v31 h33 h34 e32
  refine wk_putfi81 r178_44 fd_2_4 (wk_nw g_2_4 rfl hP28 hF29 (uf_2_4 ⟨by omega, by omega⟩) ?_)
  intro M35 hP36 hF37 e38
  refine wk_al0 r178_47 (wk_al1 r178_48 (wk_getfb r178_49 fd_7_5 (bf_7_5 hP36) ?_))
  intro v39 h41 h42 e40
  refine wk_putfz81 r178_52 fd_2_5 ⟨by omega, by omega⟩ (wk_nw g_2_5 rfl hP36 hF37 (uf_2_5 ⟨by omega, by omega⟩) ?_)
  intro M43 hP44 hF45 e46
  refine wk_al0 r178_55 (wk_al1 r178_56 (wk_getfb r178_57 fd_7_6 (bf_7_6 hP44) ?_))
  intro v47 h49 h50 e48
  refine wk_putfz81 r178_60 fd_2_6 ⟨by omega, by omega⟩ (wk_nw g_2_6 rfl hP44 hF45 (uf_2_6 ⟨by omega, by omega⟩) ?_)
  intro M51 hP52 hF53 e54
  subst hQ; exact wk_ret r178_63 (⟨rfl, hP52, hF53, by have := (mUp_no e54 (mUp_no e46 (mUp_no e38 (mUp_no e30 (mUp_no e22 (mUp_at e14) (Or.inr (by decide))) (Or.inr (by decide))) (Or.inr (by decide))) (Or.inr (by decide))) (Or.inr (by decide))); have := (mUp_no e54 (mUp_no e46 (mUp_no e38 (mUp_no e30 (mUp_no e22 (mUp_no e14 e8 (Or.inl (by decide))) (Or.inl (by decide))) (Or.inl (by decide))) (Or.inl (by decide))) (Or.inl (by decide))) (Or.inl (by decide))); omega, by have := (mUp_no e54 (mUp_no e46 (mUp_no e38 (mUp_no e30 (mUp_no e22 (mUp_at e14) (Or.inr (by decide))) (Or.inr (by decide))) (Or.inr (by decide))) (Or.inr (by decide))) (Or.inr (by decide))); have := (mUp_no e54 (mUp_no e46 (mUp_no e38 (mUp_no e30 (mUp_no e22 (mUp_no e14 e8 (Or.inl (by decide))) (Or.inl (by decide))) (Or.inl (by decide))) (Or.inl (by decide))) (Or.inl (by decide))) (Or.inl (by decide))); omega, SZk_eq (six (P := fun i => M51 2 i = M0 7 i) ((mUp_no e54 (mUp_no e46 (mUp_no e38 (mUp_no e30 (mUp_no e22 (mUp_at e14) (Or.inr (by decide))) (Or.inr (by decide))) (Or.inr (by decide))) (Or.inr (by decide))) (Or.inr (by decide))).trans ((hF53.at g_7_1 rfl).symm.trans (mUp_no e54 (mUp_no e46 (mUp_no e38 (mUp_no e30 (mUp_no e22 (mUp_no e14 e8 (Or.inl (by decide))) (Or.inl (by decide))) (Or.inl (by decide))) (Or.inl (by decide))) (Or.inl (by decide))) (Or.inl (by decide)))).symm) ((mUp_no e54 (mUp_no e46 (mUp_no e38 (mUp_no e30 (mUp_at e22) (Or.inr (by decide))) (Or.inr (by decide))) (Or.inr (by decide))) (Or.inr (by decide))).trans ((hF53.at g_7_2 rfl).symm.trans (mUp_no e54 (mUp_no e46 (mUp_no e38 (mUp_no e30 (mUp_no e22 e16 (Or.inl (by decide))) (Or.inl (by decide))) (Or.inl (by decide))) (Or.inl (by decide))) (Or.inl (by decide)))).symm) ((mUp_no e54 (mUp_no e46 (mUp_no e38 (mUp_at e30) (Or.inr (by decide))) (Or.inr (by decide))) (Or.inr (by decide))).trans ((hF53.at g_7_3 rfl).symm.trans (mUp_no e54 (mUp_no e46 (mUp_no e38 (mUp_no e30 e24 (Or.inl (by decide))) (Or.inl (by decide))) (Or.inl (by decide))) (Or.inl (by decide)))).symm) ((mUp_no e54 (mUp_no e46 (mUp_at e38) (Or.inr (by decide))) (Or.inr (by decide))).trans ((hF53.at g_7_4 rfl).symm.trans (mUp_no e54 (mUp_no e46 (mUp_no e38 e32 (Or.inl (by decide))) (Or.inl (by decide))) (Or.inl (by decide)))).symm) ((mUp_no e54 (mUp_at e46) (Or.inr (by decide))).trans ((hF53.at g_7_5 rfl).symm.trans (mUp_no e54 (mUp_no e46 e40 (Or.inl (by decide))) (Or.inl (by decide)))).symm) ((mUp_at e54).trans ((hF53.at g_7_6 rfl).symm.trans (mUp_no e54 e48 (Or.inl (by decide)))).symm)) (fun k a b => by rw [(fun k => mUp_no e54 ((fun k => mUp_no e46 ((fun k => mUp_no e38 ((fun k => mUp_no e30 ((fun k => mUp_no e22 ((fun k => mUp_no e14 (hu6 k) (Or.inl (by decide))) k) (Or.inl (by decide))) k) (Or.inl (by decide))) k) (Or.inl (by decide))) k) (Or.inl (by decide))) k) (Or.inl (by decide))) k]; exact cq k a b) (bf_7_1 hP0).2⟩)
def fm_m7187_10 : Nat := 4740236766191051341824
/-- IslandHall$Realm.clear -/
theorem m7187_10 {B : eB} (d : Nat) (M0 : Mm) (p1 : Int) (p2 : Int) (hP0 : Pw M0) (l1 : (-1) ≤ p1) (u1 : p1 ≤ 7) (l2 : 0 ≤ p2) (u2 : p2 ≤ 127) : Ct B (d + 2) 187 [R 10, I p1, I p2] M0 (qV fun M => Pw M ∧ Fr fm_m7187_10 M0 M ∧ 0 ≤ (-1) * (M 10 9)) := by
  refine ct_of (d := d + 1) (k := 1) (L := [some (R 10), some (I p1), some (I p2), none]) rfl rfl rfl ?_
  have hF0 := Fr.rf fm_m7187_10 M0
  generalize hQ : (qV fun M => Pw M ∧ Fr fm_m7187_10 M0 M ∧ 0 ≤ (-1) * (M 10 9)) = Q
  refine wk_al0 r187_0 (wk_il1 r187_1 (wk_putfi81 r187_2 fd_10_7 (wk_nw g_10_7 rfl hP0 hF0 (uf_10_7 ⟨by omega, by omega⟩) ?_)))
  intro M1 hP2 hF3 e4
  refine wk_al0 r187_5 (wk_il2 r187_6 (wk_putfi81 r187_7 fd_10_8 (wk_nw g_10_8 rfl hP2 hF3 (uf_10_8 ⟨by omega, by omega⟩) ?_)))
  intro M5 hP6 hF7 e8
  refine wk_al0 r187_10 (wk_c1 r187_11 (wk_putfi81 r187_12 fd_10_9 (wk_nw g_10_9 rfl hP6 hF7 (uf_10_9 (by decide)) ?_)))
  intro M9 hP10 hF11 e12
  refine wk_al0 r187_15 (wk_c1 r187_16 (wk_putfi81 r187_17 fd_10_10 (wk_nw g_10_10 rfl hP10 hF11 (uf_10_10 (by decide)) ?_)))
  intro M13 hP14 hF15 e16
  refine wk_c1 r187_20 (wk_is3 r187_21 rfl ?_)
  have c22_185 : ∀ (k185 : Nat) (M168 : Mm) (v165 : Int), (119 - v165).toNat = k185 → Pw M168 → Fr fm_m7187_10 M0 M168 → M168 10 7 = p1 → M168 10 8 = p2 → M168 10 9 = 0 → M168 10 10 = 0 → 0 ≤ v165 → v165 ≤ 119 → Wp B (d + 1) 187 22 [some (R 10), none, none, some (I v165)] [] M168 Q := by
    refine lp_ind ?_
    intro k185 ih185 M168 v165 hk185 hP169 hF170 e171 e172 e173 e174 h166 h167
    refine wk_il3 r187_22 (wk_c2 r187_23 ?_)
    refine wk_icge r187_25 ⟨by omega, by omega⟩ (by decide) ?_ ?_
    · intro h175
      refine wk_al0 r187_44 (wk_getfr r187_45 fd_10_3 (br_10_3 hP169) (wk_c1 r187_48 (wk_cs102_2 r187_49 rfl (ct_fi ar_11) (cqV ?_))))
      intro M176 e177
      have hP178 : Pw M176 := by rw [e177]; exact hP169.fil (fun i => (ua_11 (by decide)))
      have hF179 : Fr fm_m7187_10 M0 M176 := by rw [e177]; exact hF170.fil (fun i => by rw [(ga_11 i)]; rfl)
      subst hQ; exact wk_ret r187_52 (⟨rfl, hP178, hF179, by have := (fil_no e177 e173 (by decide)); omega⟩)
    · intro h180
      refine wk_al0 r187_28 (wk_getfr r187_29 fd_10_0 (br_10_0 hP169) (wk_il3 r187_32 (wk_raldb r187_33 ar_16 ⟨by omega, by omega⟩ (fun q0 q1 => ba_16 hP169 q0 q1) (wk_c6 r187_34 (wk_cs102_2 r187_35 rfl (ct_fl (arF_17 (by omega) (by omega))) (cqV ?_))))))
      intro M181 e182
      have hP183 : Pw M181 := by rw [e182]; exact hP169.fil (fun i => (uaF_17 (by omega) (by omega) ⟨by omega, by omega⟩))
      have hF184 : Fr fm_m7187_10 M0 M181 := by rw [e182]; exact hF170.fil (fun i => by rw [(gr_17 (by omega) (by omega) i)]; rfl)
      refine wk_inc3 r187_38 rfl (wk_goto r187_41 ?_)
      exact wp_fg (le_s (le_s (le_s (le_s le_0)))) (ih185 (119 - (v165 + 1)).toNat (by omega) M181 (v165 + 1) rfl hP183 hF184 (fil_no e182 e171 (by omega)) (fil_no e182 e172 (by omega)) (fil_no e182 e173 (by omega)) (fil_no e182 e174 (by omega)) (by first | with_reducible assumption | omega) (by first | with_reducible assumption | omega))
  exact wp_fg (le_s (le_n (le_n (le_s le_0)))) (c22_185 _ M13 0 rfl hP14 hF15 (mUp_no e16 (mUp_no e12 (mUp_no e8 (mUp_at e4) (Or.inr (by decide))) (Or.inr (by decide))) (Or.inr (by decide))) (mUp_no e16 (mUp_no e12 (mUp_at e8) (Or.inr (by decide))) (Or.inr (by decide))) (mUp_no e16 (mUp_at e12) (Or.inr (by decide))) (mUp_at e16) (by first | with_reducible assumption | omega) (by first | with_reducible assumption | omega))
def fm_m7179_2 : Nat := 0
/-- IslandHall$Plan.earliestDay -/
theorem m7179_2 {B : eB} (d : Nat) (M0 : Mm) (hP0 : Pw M0)  : Ct B (d + 1) 179 [R 2] M0 (qI fun z M => Pw M ∧ Fr fm_m7179_2 M0 M ∧ 0 ≤ z ∧ z ≤ 6 ∧ (z = eD M0 2)) := by
  refine ct_of (d := d + 0) (k := 0) (L := [some (R 2)]) rfl rfl rfl ?_
  have hF0 := Fr.rf fm_m7179_2 M0
  generalize hQ : (qI fun z M => Pw M ∧ Fr fm_m7179_2 M0 M ∧ 0 ≤ z ∧ z ≤ 6 ∧ (z = eD M0 2)) = Q
  refine wk_al0 r179_0 (wk_getfb r179_1 fd_2_3 (bf_2_3 hP0) ?_)
  intro v1 h3 h4 e2
  refine wk_c1 r179_4 ?_
  refine wk_icne r179_5 ⟨by omega, by omega⟩ (by decide) ?_ ?_
  · intro h5
    refine wk_al0 r179_12 (wk_getfi r179_13 fd_2_3 e2 ?_)
    subst hQ; exact wk_iret r179_16 (⟨rfl, _, rfl, hP0, hF0, by omega, by omega, by unfold eD; split <;> omega⟩)
  · intro h6
    refine wk_c1 r179_8 (wk_goto r179_9 ?_)
    subst hQ; exact wk_iret r179_16 (⟨rfl, _, rfl, hP0, hF0, by omega, by omega, by unfold eD; split <;> omega⟩)
def fm_m7177_2v5 : Nat := 0
/-- IslandHall$Plan.codeBehind -/
theorem m7177_2v5 {B : eB} (d : Nat) (M0 : Mm) (p1 : Int) (p2 : Int) (hP0 : Pw M0) (l1 : 0 ≤ p1) (u1 : p1 ≤ 6) (l2 : (-1) ≤ p2) (u2 : p2 ≤ (-1)) : Ct B (d + 1) 177 [R 2, I p1, I p2] M0 (qI fun z M => Pw M ∧ Fr fm_m7177_2v5 M0 M ∧ 0 ≤ z ∧ z ≤ 5 ∧ (0 ≤ z → M0 3 p1 / pw (kf z) % 2 = 1)) := by
  refine ct_of (d := d + 0) (k := 1) (L := [some (R 2), some (I p1), some (I p2), none]) rfl rfl rfl ?_
  have hF0 := Fr.rf fm_m7177_2v5 M0
  generalize hQ : (qI fun z M => Pw M ∧ Fr fm_m7177_2v5 M0 M ∧ 0 ≤ z ∧ z ≤ 5 ∧ (0 ≤ z → M0 3 p1 / pw (kf z) % 2 = 1)) = Q
  refine wk_il2 r177_0 (wk_c1 r177_1 (wk_iadd r177_2 (wk_is3 r177_3 rfl (wk_il3 r177_4 (wk_c2 r177_5 ?_)))))
  refine wk_icge r177_7 ⟨by omega, by omega⟩ (by decide) ?_ ?_
  · intro h1
    exfalso
    omega
  · intro h2
    refine wk_al0 r177_10 (wk_getfr r177_11 fd_2_0 (br_2_0 hP0) (wk_il1 r177_14 (wk_ialdb r177_15 ar_3 ⟨by omega, by omega⟩ (fun q0 q1 => ba_3 hP0 q0 q1) ?_)))
    intro v3 h5 h6 e4
    refine wk_kget r177_16 (wk_il3 r177_19 (wk_kald r177_20 ⟨by omega, by omega⟩ ?_))
    intro v7 h8 h9 h10
    obtain rfl : v7 = 0 := by rw [h10, show (p2 + 1) = 0 by omega]; decide
    refine wk_ishrc r177_21 ⟨by omega, by omega⟩ (by decide) pwl_0 (wk_c1 r177_22 (wk_iandc 1 2 r177_23 ⟨rfl, by decide⟩ rfl (wk_c1 r177_24 ?_)))
    refine wk_icne r177_25 ⟨by omega, by omega⟩ (by decide) ?_ ?_
    · intro h13
      refine wk_inc3 r177_30 rfl (wk_goto r177_33 (wk_il3 r177_4 (wk_c2 r177_5 ?_)))
      refine wk_icge r177_7 ⟨by omega, by omega⟩ (by decide) ?_ ?_
      · intro h14
        exfalso
        omega
      · intro h15
        refine wk_al0 r177_10 (wk_getfr r177_11 fd_2_0 (br_2_0 hP0) (wk_il1 r177_14 (wk_iald r177_15 ar_3 ⟨by omega, by omega⟩ e4 (wk_kget r177_16 (wk_il3 r177_19 (wk_kald r177_20 ⟨by omega, by omega⟩ ?_))))))
        intro v16 h17 h18 h19
        obtain rfl : v16 = 1 := by rw [h19, show ((p2 + 1) + 1) = 1 by omega]; decide
        refine wk_ishrc r177_21 ⟨by omega, by omega⟩ (by decide) pwl_1 (wk_c1 r177_22 (wk_iandc 1 2 r177_23 ⟨rfl, by decide⟩ rfl (wk_c1 r177_24 ?_)))
        refine wk_icne r177_25 ⟨by omega, by omega⟩ (by decide) ?_ ?_
        · intro h22
          refine wk_inc3 r177_30 rfl (wk_goto r177_33 (wk_il3 r177_4 (wk_c2 r177_5 ?_)))
          refine wk_icge r177_7 ⟨by omega, by omega⟩ (by decide) ?_ ?_
          · intro h23
            exfalso
            omega
          · intro h24
            refine wk_al0 r177_10 (wk_getfr r177_11 fd_2_0 (br_2_0 hP0) (wk_il1 r177_14 (wk_iald r177_15 ar_3 ⟨by omega, by omega⟩ e4 (wk_kget r177_16 (wk_il3 r177_19 (wk_kald r177_20 ⟨by omega, by omega⟩ ?_))))))
            intro v25 h26 h27 h28
            obtain rfl : v25 = 2 := by rw [h28, show (((p2 + 1) + 1) + 1) = 2 by omega]; decide
            refine wk_ishrc r177_21 ⟨by omega, by omega⟩ (by decide) pwl_2 (wk_c1 r177_22 (wk_iandc 1 2 r177_23 ⟨rfl, by decide⟩ rfl (wk_c1 r177_24 ?_)))
            refine wk_icne r177_25 ⟨by omega, by omega⟩ (by decide) ?_ ?_
            · intro h31
              refine wk_inc3 r177_30 rfl (wk_goto r177_33 (wk_il3 r177_4 (wk_c2 r177_5 ?_)))
              refine wk_icge r177_7 ⟨by omega, by omega⟩ (by decide) ?_ ?_
              · intro h32
                exfalso
                omega
              · intro h33
                refine wk_al0 r177_10 (wk_getfr r177_11 fd_2_0 (br_2_0 hP0) (wk_il1 r177_14 (wk_iald r177_15 ar_3 ⟨by omega, by omega⟩ e4 (wk_kget r177_16 (wk_il3 r177_19 (wk_kald r177_20 ⟨by omega, by omega⟩ ?_))))))
                intro v34 h35 h36 h37
                obtain rfl : v34 = 2 := by rw [h37, show ((((p2 + 1) + 1) + 1) + 1) = 3 by omega]; decide
                refine wk_ishrc r177_21 ⟨by omega, by omega⟩ (by decide) pwl_2 (wk_c1 r177_22 (wk_iandc 1 2 r177_23 ⟨rfl, by decide⟩ rfl (wk_c1 r177_24 ?_)))
                refine wk_icne r177_25 ⟨by omega, by omega⟩ (by decide) ?_ ?_
                · intro h38
                  refine wk_inc3 r177_30 rfl (wk_goto r177_33 (wk_il3 r177_4 (wk_c2 r177_5 ?_)))
                  refine wk_icge r177_7 ⟨by omega, by omega⟩ (by decide) ?_ ?_
                  · intro h39
                    exfalso
                    omega
                  · intro h40
                    refine wk_al0 r177_10 (wk_getfr r177_11 fd_2_0 (br_2_0 hP0) (wk_il1 r177_14 (wk_iald r177_15 ar_3 ⟨by omega, by omega⟩ e4 (wk_kget r177_16 (wk_il3 r177_19 (wk_kald r177_20 ⟨by omega, by omega⟩ ?_))))))
                    intro v41 h42 h43 h44
                    obtain rfl : v41 = 3 := by rw [h44, show (((((p2 + 1) + 1) + 1) + 1) + 1) = 4 by omega]; decide
                    refine wk_ishrc r177_21 ⟨by omega, by omega⟩ (by decide) pwl_3 (wk_c1 r177_22 (wk_iandc 1 2 r177_23 ⟨rfl, by decide⟩ rfl (wk_c1 r177_24 ?_)))
                    refine wk_icne r177_25 ⟨by omega, by omega⟩ (by decide) ?_ ?_
                    · intro h47
                      refine wk_inc3 r177_30 rfl (wk_goto r177_33 (wk_il3 r177_4 (wk_c2 r177_5 ?_)))
                      refine wk_icge r177_7 ⟨by omega, by omega⟩ (by decide) ?_ ?_
                      · intro h48
                        exfalso
                        omega
                      · intro h49
                        refine wk_al0 r177_10 (wk_getfr r177_11 fd_2_0 (br_2_0 hP0) (wk_il1 r177_14 (wk_iald r177_15 ar_3 ⟨by omega, by omega⟩ e4 (wk_kget r177_16 (wk_il3 r177_19 (wk_kald r177_20 ⟨by omega, by omega⟩ ?_))))))
                        intro v50 h51 h52 h53
                        obtain rfl : v50 = 4 := by rw [h53, show ((((((p2 + 1) + 1) + 1) + 1) + 1) + 1) = 5 by omega]; decide
                        refine wk_ishrc r177_21 ⟨by omega, by omega⟩ (by decide) pwl_4 (wk_c1 r177_22 (wk_iandc 1 2 r177_23 ⟨rfl, by decide⟩ rfl (wk_c1 r177_24 ?_)))
                        refine wk_icne r177_25 ⟨by omega, by omega⟩ (by decide) ?_ ?_
                        · intro h56
                          refine wk_inc3 r177_30 rfl (wk_goto r177_33 (wk_il3 r177_4 (wk_c2 r177_5 ?_)))
                          refine wk_icge r177_7 ⟨by omega, by omega⟩ (by decide) ?_ ?_
                          · intro h57
                            exfalso
                            omega
                          · intro h58
                            exfalso
                            omega
                        · intro h59
                          refine wk_il3 r177_28 ?_
                          subst hQ; exact wk_iret r177_29 (⟨rfl, _, rfl, hP0, hF0, by omega, by omega, fun _ => by rw [e4, show ((((((p2 + 1) + 1) + 1) + 1) + 1) + 1) = 5 by omega, show pw (kf 5) = 16 by decide]; omega⟩)
                    · intro h60
                      refine wk_il3 r177_28 ?_
                      subst hQ; exact wk_iret r177_29 (⟨rfl, _, rfl, hP0, hF0, by omega, by omega, fun _ => by rw [e4, show (((((p2 + 1) + 1) + 1) + 1) + 1) = 4 by omega, show pw (kf 4) = 8 by decide]; omega⟩)
                · intro h61
                  exfalso
                  omega
            · intro h62
              refine wk_il3 r177_28 ?_
              subst hQ; exact wk_iret r177_29 (⟨rfl, _, rfl, hP0, hF0, by omega, by omega, fun _ => by rw [e4, show (((p2 + 1) + 1) + 1) = 2 by omega, show pw (kf 2) = 4 by decide]; omega⟩)
        · intro h63
          refine wk_il3 r177_28 ?_
          subst hQ; exact wk_iret r177_29 (⟨rfl, _, rfl, hP0, hF0, by omega, by omega, fun _ => by rw [e4, show ((p2 + 1) + 1) = 1 by omega, show pw (kf 1) = 2 by decide]; omega⟩)
    · intro h64
      refine wk_il3 r177_28 ?_
      subst hQ; exact wk_iret r177_29 (⟨rfl, _, rfl, hP0, hF0, by omega, by omega, fun _ => by rw [e4, show (p2 + 1) = 0 by omega, show pw (kf 0) = 1 by decide]; omega⟩)
def fm_m7005_14_2 : Nat := 2213609288845146193920
/-- IslandHall$Walk.begin -/
theorem m7005_14_2 {B : eB} (d : Nat) (M0 : Mm) (hP0 : Pw M0)  : Ct B (d + 2) 5 [R 14, R 2] M0 (qV fun M => Pw M ∧ Fr fm_m7005_14_2 M0 M ∧ (WC M)) := by
  refine ct_of (d := d + 1) (k := 1) (L := [some (R 14), some (R 2), none]) rfl rfl rfl ?_
  have hF0 := Fr.rf fm_m7005_14_2 M0
  generalize hQ : (qV fun M => Pw M ∧ Fr fm_m7005_14_2 M0 M ∧ (WC M)) = Q
  refine wk_c1 r5_0 (wk_is2 r5_1 rfl ?_)
  have c2_207 : ∀ (k207 : Nat) (M159 : Mm) (v156 : Int), (7 - v156).toNat = k207 → Pw M159 → Fr fm_m7005_14_2 M0 M159 → 0 ≤ v156 → v156 ≤ 7 → (∀ q : Int, 0 ≤ q → q < v156 → q < M159 2 1 → M159 3 q / pw (kf (M159 15 q)) % 2 = 1) → Wp B (d + 1) 5 2 [some (R 14), some (R 2), some (I v156)] [] M159 Q := by
    refine lp_ind ?_
    intro k207 ih207 M159 v156 hk207 hP160 hF161 h157 h158 ti162
    refine wk_il2 r5_2 (wk_c2 r5_3 ?_)
    refine wk_icge r5_5 ⟨by omega, by omega⟩ (by decide) ?_ ?_
    · intro h163
      have wc0 : WC M159 := fun q a b => ti162 q a (by have := bf_2_1 hP160; omega) b
      refine wk_al0 r5_38 (wk_c1 r5_39 (wk_putfi81 r5_40 fd_14_1 (wk_nw g_14_1 rfl hP160 hF161 (uf_14_1 (by decide)) ?_)))
      intro M164 hP165 hF166 e167
      refine wk_al0 r5_43 (wk_al1 r5_44 (wk_cv1 r5_45 kc_2_179 rfl (m7179_2 _ M164 hP165) (cqI ?_)))
      rintro v173 M168 ⟨hP169, hQ170, h174, h175, xh172⟩
      obtain rfl := Fr.same hQ170
      refine wk_putfi81 r5_48 fd_14_2 (wk_nw g_14_2 rfl hP165 hF166 (uf_14_2 ⟨by omega, by omega⟩) ?_)
      intro M176 hP177 hF178 e179
      refine wk_al0 r5_51 (wk_c1 r5_52 (wk_putfi81 r5_53 fd_14_3 (wk_nw g_14_3 rfl hP177 hF178 (uf_14_3 (by decide)) ?_)))
      intro M180 hP181 hF182 e183
      subst hQ; exact wk_ret r5_56 (⟨rfl, hP181, hF182, (WC_eq (by rw [e183, mUp_ne (Or.inl (by decide))]) (fun k => by rw [e183, mUp_ne (Or.inl (by decide))]) (fun k => by rw [e183, mUp_ne (Or.inl (by decide))]) (WC_eq (by rw [e179, mUp_ne (Or.inl (by decide))]) (fun k => by rw [e179, mUp_ne (Or.inl (by decide))]) (fun k => by rw [e179, mUp_ne (Or.inl (by decide))]) (WC_eq (by rw [e167, mUp_ne (Or.inl (by decide))]) (fun k => by rw [e167, mUp_ne (Or.inl (by decide))]) (fun k => by rw [e167, mUp_ne (Or.inl (by decide))]) wc0)))⟩)
    · intro h184
      refine wk_al0 r5_8 (wk_getfr r5_9 fd_14_0 (br_14_0 hP160) (wk_il2 r5_12 (wk_il2 r5_13 (wk_al1 r5_14 (wk_getfb r5_15 fd_2_1 (bf_2_1 hP160) ?_)))))
      intro v185 h187 h188 e186
      refine wk_icge r5_18 ⟨by omega, by omega⟩ ⟨by omega, by omega⟩ ?_ ?_
      · intro h189
        refine wk_c1 r5_30 (wk_iast r5_31 ar_15 ⟨by omega, by omega⟩ (wk_nw (ga_15 _) rfl hP160 hF161 (ua_15 (by decide)) ?_))
        intro M190 hP191 hF192 e193
        refine wk_inc2 r5_32 rfl (wk_goto r5_35 ?_)
        exact wp_fg (le_s (le_s (le_s le_0))) (ih207 (7 - (v156 + 1)).toNat (by omega) M190 (v156 + 1) rfl hP191 hF192 (by first | with_reducible assumption | omega) (by first | with_reducible assumption | omega) (wc_step e193 ti162 (fun h => by first | omega | exact _ (by omega))))
      · intro h194
        refine wk_al1 r5_21 (wk_il2 r5_22 (wk_c1 r5_23 (wk_cv3 r5_24 kc_2_177 rfl (m7177_2v5 _ M159 v156 (-1) hP160 (by first | with_reducible assumption | omega) (by first | with_reducible assumption | omega) (by decide) (by decide)) (cqI ?_))))
        rintro v200 M195 ⟨hP196, hQ197, h201, h202, xh199⟩
        obtain rfl := Fr.same hQ197
        refine wk_goto r5_27 (wk_iast r5_31 ar_15 ⟨by omega, by omega⟩ (wk_nw (ga_15 _) rfl hP160 hF161 (ua_15 ⟨by omega, by omega⟩) ?_))
        intro M203 hP204 hF205 e206
        refine wk_inc2 r5_32 rfl (wk_goto r5_35 ?_)
        exact wp_fg (le_s (le_s (le_s le_0))) (ih207 (7 - (v156 + 1)).toNat (by omega) M203 (v156 + 1) rfl hP204 hF205 (by first | with_reducible assumption | omega) (by first | with_reducible assumption | omega) (wc_step e206 ti162 (fun h => by first | omega | exact xh199 (by omega))))
  exact wp_fg (le_s (le_s (le_s le_0))) (c2_207 _ M0 0 rfl hP0 hF0 (by first | with_reducible assumption | omega) (by first | with_reducible assumption | omega) (fun q a b => by omega))
def fm_m7181_2 : Nat := 0
/-- IslandHall$Plan.latestDay -/
theorem m7181_2 {B : eB} (d : Nat) (M0 : Mm) (hP0 : Pw M0)  : Ct B (d + 2) 181 [R 2] M0 (qI fun z M => Pw M ∧ Fr fm_m7181_2 M0 M ∧ 0 ≤ z ∧ z ≤ 6 ∧ (z = lD M0 2)) := by
  refine ct_of (d := d + 1) (k := 0) (L := [some (R 2)]) rfl rfl rfl ?_
  have hF0 := Fr.rf fm_m7181_2 M0
  generalize hQ : (qI fun z M => Pw M ∧ Fr fm_m7181_2 M0 M ∧ 0 ≤ z ∧ z ≤ 6 ∧ (z = lD M0 2)) = Q
  refine wk_al0 r181_0 (wk_getfb r181_1 fd_2_3 (bf_2_3 hP0) ?_)
  intro v1 h3 h4 e2
  refine wk_c1 r181_4 ?_
  refine wk_icne r181_5 ⟨by omega, by omega⟩ (by decide) ?_ ?_
  · intro h5
    refine wk_al0 r181_20 (wk_cv1 r181_21 kc_2_179 rfl (m7179_2 _ M0 hP0) (cqI ?_))
    rintro v11 M6 ⟨hP7, hQ8, h12, h13, xh10⟩
    obtain rfl := Fr.same hQ8
    subst hQ; exact wk_iret r181_24 (⟨rfl, _, rfl, hP0, hF0, by omega, by omega, by unfold lD; split <;> omega⟩)
  · intro h14
    refine wk_al0 r181_8 (wk_getfb r181_9 fd_2_5 (bf_2_5 hP0) ?_)
    intro v15 h17 h18 e16
    refine wk_ifeq r181_12 ⟨by omega, by omega⟩ ?_ ?_
    · intro h19
      refine wk_al0 r181_20 (wk_cv1 r181_21 kc_2_179 rfl (m7179_2 _ M0 hP0) (cqI ?_))
      rintro v25 M20 ⟨hP21, hQ22, h26, h27, xh24⟩
      obtain rfl := Fr.same hQ22
      subst hQ; exact wk_iret r181_24 (⟨rfl, _, rfl, hP0, hF0, by omega, by omega, by unfold lD; split <;> omega⟩)
    · intro h28
      refine wk_c2 r181_15 (wk_goto r181_17 ?_)
      subst hQ; exact wk_iret r181_24 (⟨rfl, _, rfl, hP0, hF0, by omega, by omega, by unfold lD; split <;> omega⟩)
def fm_m7182_2 : Nat := 0
/-- IslandHall$Plan.latestWord -/
theorem m7182_2 {B : eB} (d : Nat) (M0 : Mm) (hP0 : Pw M0)  : Ct B (d + 1) 182 [R 2] M0 (qI fun z M => Pw M ∧ Fr fm_m7182_2 M0 M ∧ 0 ≤ z ∧ z ≤ 1 ∧ (z = lW M0 2)) := by
  refine ct_of (d := d + 0) (k := 0) (L := [some (R 2)]) rfl rfl rfl ?_
  have hF0 := Fr.rf fm_m7182_2 M0
  generalize hQ : (qI fun z M => Pw M ∧ Fr fm_m7182_2 M0 M ∧ 0 ≤ z ∧ z ≤ 1 ∧ (z = lW M0 2)) = Q
  refine wk_al0 r182_0 (wk_getfb r182_1 fd_2_6 (bf_2_6 hP0) ?_)
  intro v1 h3 h4 e2
  refine wk_ifeq r182_4 ⟨by omega, by omega⟩ ?_ ?_
  · intro h5
    refine wk_c1 r182_11 ?_
    subst hQ; exact wk_iret r182_12 (⟨rfl, _, rfl, hP0, hF0, by omega, by omega, by unfold lW; split <;> omega⟩)
  · intro h6
    refine wk_c1 r182_7 (wk_goto r182_8 ?_)
    subst hQ; exact wk_iret r182_12 (⟨rfl, _, rfl, hP0, hF0, by omega, by omega, by unfold lW; split <;> omega⟩)
def fm_m7184_2 : Nat := 0
/-- IslandHall$Plan.size -/
theorem m7184_2 {B : eB} (d : Nat) (M0 : Mm) (hP0 : Pw M0)  : Ct B (d + 3) 184 [R 2] M0 (qI fun z M => Pw M ∧ Fr fm_m7184_2 M0 M ∧ (-1791590400) ≤ z ∧ z ≤ 1791590400 ∧ (z = SZk M0 2 3)) := by
  refine ct_of (d := d + 2) (k := 2) (L := [some (R 2), none, none]) rfl rfl rfl ?_
  have hF0 := Fr.rf fm_m7184_2 M0
  generalize hQ : (qI fun z M => Pw M ∧ Fr fm_m7184_2 M0 M ∧ (-1791590400) ≤ z ∧ z ≤ 1791590400 ∧ (z = SZk M0 2 3)) = Q
  refine wk_al0 r184_0 (wk_getfb r184_1 fd_2_2 (bf_2_2 hP0) ?_)
  intro v1 h3 h4 e2
  refine wk_al0 r184_4 (wk_cv1 r184_5 kc_2_181 rfl (m7181_2 _ M0 hP0) (cqI ?_))
  rintro v10 M5 ⟨hP6, hQ7, h11, h12, xh9⟩
  obtain rfl := Fr.same hQ7
  refine wk_al0 r184_8 (wk_cv1 r184_9 kc_2_179 rfl (m7179_2 _ M0 hP0) (cqI ?_))
  rintro v18 M13 ⟨hP14, hQ15, h19, h20, xh17⟩
  obtain rfl := Fr.same hQ15
  refine wk_isub r184_12 (wk_c1 r184_13 (wk_iadd r184_14 (wk_mula 4 7 r184_15 ⟨by omega, by omega⟩ ⟨by omega, by omega⟩ ?_)))
  intro v21 h22 h23 h24
  refine wk_al0 r184_16 (wk_cv1 r184_17 kc_2_182 rfl (m7182_2 _ M0 hP0) (cqI ?_))
  rintro v30 M25 ⟨hP26, hQ27, h31, h32, xh29⟩
  obtain rfl := Fr.same hQ27
  refine wk_c1 r184_20 (wk_iadd r184_21 (wk_mula 28 2 r184_22 ⟨by omega, by omega⟩ ⟨by omega, by omega⟩ ?_))
  intro v33 h34 h35 h36
  refine wk_is1 r184_23 rfl ?_
  have hRf : v33 = Rf M0 2 := by unfold Rf; rw [← xh9, ← xh17, ← xh29, e2, h36, h24]
  have hRb : -100 ≤ Rf M0 2 ∧ Rf M0 2 ≤ 100 := by rw [← hRf]; omega
  refine wk_c1 r184_24 (wk_is2 r184_25 rfl ?_)
  have c26_268 : ∀ (k268 : Nat) (v235 : Int) (v238 : Int), (7 - v238).toNat = k268 → (-1791590400) ≤ v235 → v235 ≤ 1791590400 → 0 ≤ v238 → v238 ≤ 7 → (v235 = Rf M0 2 * PS (fun k => M0 3 k) (v238).toNat) → (v238 ≤ M0 2 1 ∨ v238 = 0) → Wp B (d + 2) 184 26 [some (R 2), some (I v235), some (I v238)] [] M0 Q := by
    refine lp_ind ?_
    intro k268 ih268 v235 v238 hk268 h236 h237 h239 h240 ti241 ti242
    refine wk_il2 r184_26 (wk_al0 r184_27 (wk_getfb r184_28 fd_2_1 (bf_2_1 hP0) ?_))
    intro v243 h245 h246 e244
    refine wk_icge r184_31 ⟨by omega, by omega⟩ ⟨by omega, by omega⟩ ?_ ?_
    · intro h247
      refine wk_il1 r184_63 ?_
      subst hQ; exact wk_iret r184_64 (⟨rfl, _, rfl, hP0, hF0, by omega, by omega, by unfold SZk; rw [show (M0 2 1).toNat = (v238).toNat by have := ti242; omega]; exact ti241⟩)
    · intro h248
      refine wk_il1 r184_34 (wk_al0 r184_35 (wk_getfr r184_36 fd_2_0 (br_2_0 hP0) (wk_il2 r184_39 (wk_ialdb r184_40 ar_3 ⟨by omega, by omega⟩ (fun q0 q1 => ba_3 hP0 q0 q1) ?_))))
      intro v249 h251 h252 e250
      refine wk_cs102_1 r184_41 rfl (m7246 _ M0 v249 hP0 (by first | with_reducible assumption | omega) (by first | with_reducible assumption | omega)) (cqI ?_)
      rintro v258 M253 ⟨hP254, hQ255, h259, h260, xh257⟩
      obtain rfl := Fr.same hQ255
      refine wk_al0 r184_44 (wk_getfr r184_45 fd_2_0 (br_2_0 hP0) (wk_il2 r184_48 (wk_iald r184_49 ar_3 ⟨by omega, by omega⟩ e250 (wk_c1 r184_50 (wk_ishrc r184_51 ⟨by omega, by omega⟩ (by decide) pwl_2 (wk_c1 r184_52 (wk_iandc 1 2 r184_53 ⟨rfl, by decide⟩ rfl (wk_iadd r184_54 ?_))))))))
      have h263 := sz_rg (u := fun k => M0 3 k) (fun k a b => by have := ba_3 hP0 a b; omega) (R := Rf M0 2) (v := v235) (p := v238) (by omega) (by omega) hRb ti241
      refine wk_mula 27993600 64 r184_55 ⟨by omega, by omega⟩ ⟨by omega, by omega⟩ ?_
      intro v264 h265 h266 h267
      refine wk_is1 r184_56 rfl (wk_inc2 r184_57 rfl (wk_goto r184_60 ?_))
      exact wp_fg (le_s (le_s (le_s le_0))) (ih268 (7 - (v238 + 1)).toNat (by omega) v264 (v238 + 1) rfl (by first | with_reducible assumption | omega) (by first | with_reducible assumption | omega) (by first | with_reducible assumption | omega) (by first | with_reducible assumption | omega) (sz_back (by omega) ti241 (by show _ = bcF (M0 3 v238) + M0 3 v238 / 4 % 2; rw [e250]; omega) h267) (Or.inl (by omega)))
  exact wp_fg (le_s (le_s (le_s le_0))) (c26_268 _ v33 0 rfl (by first | with_reducible assumption | omega) (by first | with_reducible assumption | omega) (by first | with_reducible assumption | omega) (by first | with_reducible assumption | omega) (by rw [hRf]; exact (Int.mul_one _).symm) (Or.inr rfl))
def fm_m7007_14 : Nat := 0
/-- IslandHall$Walk.packed -/
theorem m7007_14 {B : eB} (d : Nat) (M0 : Mm) (hP0 : Pw M0)  : Ct B (d + 1) 7 [R 14] M0 (qI fun z M => Pw M ∧ Fr fm_m7007_14 M0 M ∧ 0 ≤ z ∧ z ≤ 134217727) := by
  refine ct_of (d := d + 0) (k := 2) (L := [some (R 14), none, none]) rfl rfl rfl ?_
  have hF0 := Fr.rf fm_m7007_14 M0
  generalize hQ : (qI fun z M => Pw M ∧ Fr fm_m7007_14 M0 M ∧ 0 ≤ z ∧ z ≤ 134217727) = Q
  refine wk_al0 r7_0 (wk_getfb r7_1 fd_14_3 (bf_14_3 hP0) ?_)
  intro v1 h3 h4 e2
  refine wk_c2 r7_4 (wk_ishlc r7_6 (by decide) pwl_26 (wk_al0 r7_7 (wk_getfb r7_8 fd_14_2 (bf_14_2 hP0) ?_)))
  intro v5 h7 h8 e6
  refine wk_c2 r7_11 (wk_ishlc r7_13 (by decide) pwl_23 (wk_iord2 26 67108864 r7_14 (by decide) ⟨by omega, by omega⟩ ⟨by omega, by omega, by omega⟩ (wk_al0 r7_15 (wk_getfb r7_16 fd_14_1 (bf_14_1 hP0) ?_))))
  intro v9 h11 h12 e10
  refine wk_c2 r7_19 (wk_ishlc r7_21 (by decide) pwl_21 (wk_iord2 23 8388608 r7_22 (by decide) ⟨by omega, by omega⟩ ⟨by omega, by omega, by omega⟩ (wk_is1 r7_23 rfl (wk_c1 r7_24 (wk_is2 r7_25 rfl ?_)))))
  have c26_146 : ∀ (k146 : Nat) (v124 : Int) (v127 : Int), (7 - v127).toNat = k146 → 0 ≤ v124 → v124 ≤ 134217727 → 0 ≤ v127 → v127 ≤ 7 → Wp B (d + 0) 7 26 [some (R 14), some (I v124), some (I v127)] [] M0 Q := by
    refine lp_ind ?_
    intro k146 ih146 v124 v127 hk146 h125 h126 h128 h129
    refine wk_il2 r7_26 (wk_c2 r7_27 ?_)
    refine wk_icge r7_29 ⟨by omega, by omega⟩ (by decide) ?_ ?_
    · intro h130
      refine wk_il1 r7_51 ?_
      subst hQ; exact wk_iret r7_52 (⟨rfl, _, rfl, hP0, hF0, by omega, by omega⟩)
    · intro h131
      refine wk_il1 r7_32 (wk_al0 r7_33 (wk_getfr r7_34 fd_14_0 (br_14_0 hP0) (wk_il2 r7_37 (wk_ialdb r7_38 ar_15 ⟨by omega, by omega⟩ (fun q0 q1 => ba_15 hP0 q0 q1) ?_))))
      intro v132 h134 h135 e133
      refine wk_c1 r7_39 (wk_il2 r7_40 (wk_imul r7_41 (wk_shlb 18 262144 5 r7_42 ⟨by omega, by omega⟩ ⟨by omega, by omega⟩ ⟨pwl_18, by decide⟩ ?_)))
      intro v136 h137 h138 h139
      refine wk_ior 27 134217728 r7_43 (by decide) ⟨by omega, by omega⟩ ⟨by omega, by omega⟩ ?_
      intro v140 h141 h142 h143 h144 h145
      refine wk_is1 r7_44 rfl (wk_inc2 r7_45 rfl (wk_goto r7_48 ?_))
      exact wp_fg (le_s (le_s (le_s le_0))) (ih146 (7 - (v127 + 1)).toNat (by omega) v140 (v127 + 1) rfl (by first | with_reducible assumption | omega) (by first | with_reducible assumption | omega) (by first | with_reducible assumption | omega) (by first | with_reducible assumption | omega))
  exact wp_fg (le_s (le_s (le_s le_0))) (c26_146 _ (((v1 * 67108864) + (v5 * 8388608)) + (v9 * 2097152)) 0 rfl (by first | with_reducible assumption | omega) (by first | with_reducible assumption | omega) (by first | with_reducible assumption | omega) (by first | with_reducible assumption | omega))
def fm_m7008_14_2 : Nat := 0
/-- IslandHall$Walk.rowOfKinds -/
theorem m7008_14_2 {B : eB} (d : Nat) (M0 : Mm) (hP0 : Pw M0) (xp0 : WC M0) (xp1 : PBok M0) : Ct B (d + 2) 8 [R 14, R 2] M0 (qI fun z M => Pw M ∧ Fr fm_m7008_14_2 M0 M ∧ 0 ≤ z ∧ z ≤ 2999) := by
  refine ct_of (d := d + 1) (k := 3) (L := [some (R 14), some (R 2), none, none, none]) rfl rfl rfl ?_
  have hF0 := Fr.rf fm_m7008_14_2 M0
  generalize hQ : (qI fun z M => Pw M ∧ Fr fm_m7008_14_2 M0 M ∧ 0 ≤ z ∧ z ≤ 2999) = Q
  refine wk_c1 r8_0 (wk_is2 r8_1 rfl (wk_c1 r8_2 (wk_is3 r8_3 rfl ?_)))
  have c4_400 : ∀ (k400 : Nat) (v343 : Int) (v346 : Int), (7 - v346).toNat = k400 → 0 ≤ v343 → v343 ≤ 189000 → 0 ≤ v346 → v346 ≤ 7 → (0 ≤ v343 ∧ v343 + 1 ≤ PB (fun k => M0 3 k) (v346).toNat) → (v346 ≤ M0 2 1 ∨ v346 = 0) → Wp B (d + 1) 8 4 [some (R 14), some (R 2), some (I v343), some (I v346), none] [] M0 Q := by
    refine lp_ind ?_
    intro k400 ih400 v343 v346 hk400 h344 h345 h347 h348 ti349 ti350
    have h351 := pb_mono (u := fun k => M0 3 k) (fun k a b => ba_3 hP0 a b) (p := v346) (n := M0 2 1) (by have := ti350; omega) (bf_2_1 hP0).2
    have h352 : v343 ≤ 2999 := by have h1 := xp1; unfold PBok at h1; have h2 := ti349; omega
    refine wk_il3 r8_4 (wk_al1 r8_5 (wk_getfb r8_6 fd_2_1 (bf_2_1 hP0) ?_))
    intro v353 h355 h356 e354
    refine wk_icge r8_9 ⟨by omega, by omega⟩ ⟨by omega, by omega⟩ ?_ ?_
    · intro h357
      refine wk_il2 r8_59 ?_
      subst hQ; exact wk_iret r8_60 (⟨rfl, _, rfl, hP0, hF0, by omega, by omega⟩)
    · intro h358
      refine wk_al1 r8_12 (wk_getfr r8_13 fd_2_0 (br_2_0 hP0) (wk_il3 r8_16 (wk_ialdb r8_17 ar_3 ⟨by omega, by omega⟩ (fun q0 q1 => ba_3 hP0 q0 q1) ?_)))
      intro v359 h361 h362 e360
      refine wk_c1 r8_18 (wk_kget r8_19 (wk_al0 r8_22 (wk_getfr r8_23 fd_14_0 (br_14_0 hP0) (wk_il3 r8_26 (wk_ialdb r8_27 ar_15 ⟨by omega, by omega⟩ (fun q0 q1 => ba_15 hP0 q0 q1) ?_)))))
      intro v363 h365 h366 e364
      refine wk_kald r8_28 ⟨by omega, by omega⟩ ?_
      intro v367 h368 h369 h370
      refine wk_shl1 4 16 r8_29 ⟨by omega, by omega⟩ ⟨pwl_4, by decide⟩ ?_
      intro v371 h372 h373 h374
      refine wk_c1 r8_30 (wk_isub r8_31 (wk_iand r8_32 ⟨by omega, by omega⟩ ⟨by omega, by omega⟩ ?_))
      intro v375 h376 h377 h378 h379
      refine wk_is4 r8_33 rfl (wk_il2 r8_35 (wk_al1 r8_36 (wk_getfr r8_37 fd_2_0 (br_2_0 hP0) (wk_il3 r8_40 (wk_iald r8_41 ar_3 ⟨by omega, by omega⟩ e360 (wk_cs102_1 r8_42 rfl (m7246 _ M0 v359 hP0 (by first | with_reducible assumption | omega) (by first | with_reducible assumption | omega)) (cqI ?_)))))))
      rintro v385 M380 ⟨hP381, hQ382, h386, h387, xh384⟩
      obtain rfl := Fr.same hQ382
      refine wk_mulb 2999 63 r8_45 ⟨by omega, by omega⟩ ⟨by omega, by omega⟩ ?_
      intro v388 h389 h390 h391
      refine wk_il4 r8_46 (wk_cs102_1 r8_48 rfl (m7246 _ M0 v375 hP0 (by first | with_reducible assumption | omega) (by first | with_reducible assumption | omega)) (cqI ?_))
      rintro v397 M392 ⟨hP393, hQ394, h398, h399, xh396⟩
      obtain rfl := Fr.same hQ394
      refine wk_iadd r8_51 (wk_is2 r8_52 rfl (wk_inc3 r8_53 rfl (wk_goto r8_56 ?_)))
      exact wp_fg (le_s (le_s (le_s (le_s (le_n le_0))))) (ih400 (7 - (v346 + 1)).toNat (by omega) (v388 + v397) (v346 + 1) rfl (by first | with_reducible assumption | omega) (by first | with_reducible assumption | omega) (by first | with_reducible assumption | omega) (by first | with_reducible assumption | omega) (rk_back xp0 (by omega) (by omega) e360 e364 h370 h374 h379 xh384 xh396 h391 ⟨by omega, by omega⟩ ⟨by omega, by omega⟩ ti349) (Or.inl (by omega)))
  exact wp_fg (le_s (le_s (le_s (le_s (le_s le_0))))) (c4_400 _ 0 0 rfl (by first | with_reducible assumption | omega) (by first | with_reducible assumption | omega) (by first | with_reducible assumption | omega) (by first | with_reducible assumption | omega) (⟨by decide, Int.le_refl 1⟩) (Or.inr rfl))
def fm_m7186_10 : Nat := 0
/-- IslandHall$Realm.answerAt -/
theorem m7186_10 {B : eB} (d : Nat) (M0 : Mm) (p1 : Int) (p2 : Int) (hP0 : Pw M0) (l1 : 0 ≤ p1) (u1 : p1 ≤ 2999) (l2 : 1 ≤ p2) (u2 : p2 ≤ 1) : Ct B (d + 1) 186 [R 10, I p1, I p2] M0 (qI fun z M => Pw M ∧ Fr fm_m7186_10 M0 M ∧ 0 ≤ z ∧ z ≤ 3) := by
  refine ct_of (d := d + 0) (k := 0) (L := [some (R 10), some (I p1), some (I p2)]) rfl rfl rfl ?_
  have hF0 := Fr.rf fm_m7186_10 M0
  generalize hQ : (qI fun z M => Pw M ∧ Fr fm_m7186_10 M0 M ∧ 0 ≤ z ∧ z ≤ 3) = Q
  refine wk_il2 r186_0 ?_
  refine wk_sw8 r186_1 ⟨by omega, by omega⟩ ?_ ?_ ?_ ?_
  · intro h1
    exfalso
    omega
  · intro h2
    refine wk_al0 r186_28 (wk_getfr r186_29 fd_10_1 (br_10_1 hP0) (wk_il1 r186_32 (wk_ialdb r186_33 ar_136 ⟨by omega, by omega⟩ (fun q0 q1 => ba_136 hP0 q0 q1) ?_)))
    intro v3 h5 h6 e4
    refine wk_c2 r186_34 (wk_ishrc r186_36 ⟨by omega, by omega⟩ (by decide) pwl_21 (wk_c1 r186_37 (wk_iandc 2 4 r186_38 ⟨rfl, by decide⟩ rfl ?_)))
    subst hQ; exact wk_iret r186_39 (⟨rfl, _, rfl, hP0, hF0, by omega, by omega⟩)
  · intro h9
    exfalso
    omega
  · intro h10
    exfalso
    omega
def fm_m7204_10v4 : Nat := 4722366482869645213696
/-- IslandHall$Realm.set -/
theorem m7204_10v4 {B : eB} (d : Nat) (M0 : Mm) (p1 : Int) (p2 : Int) (hP0 : Pw M0) (l1 : 35 ≤ p1) (u1 : p1 ≤ 38) (l2 : 0 ≤ p2) (u2 : p2 ≤ 2999) : Ct B (d + 1) 204 [R 10, I p1, I p2] M0 (qV fun M => Pw M ∧ Fr fm_m7204_10v4 M0 M) := by
  refine ct_of (d := d + 0) (k := 0) (L := [some (R 10), some (I p1), some (I p2)]) rfl rfl rfl ?_
  have hF0 := Fr.rf fm_m7204_10v4 M0
  generalize hQ : (qV fun M => Pw M ∧ Fr fm_m7204_10v4 M0 M) = Q
  refine wk_al0 r204_0 (wk_getfr r204_1 fd_10_0 (br_10_0 hP0) (wk_il1 r204_4 (wk_raldb r204_5 ar_16 ⟨by omega, by omega⟩ (fun q0 q1 => ba_16 hP0 q0 q1) (wk_il2 r204_6 (wk_c2 r204_7 (wk_ishrc r204_9 ⟨by omega, by omega⟩ (by decide) pwl_6 (wk_dup2 r204_10 (wk_laldb r204_11 (arF_17 (by omega) (by omega)) ⟨by omega, by omega⟩ (fun q0 q1 => baF_17 hP0 (by omega) (by omega) q0 q1) (by decide) ?_))))))))
  intro n2 h4 h5 e3
  refine wk_c6 r204_12 (wk_il2 r204_13 (wk_c2 r204_14 (wk_iandc 6 64 r204_16 ⟨rfl, by decide⟩ rfl (wk_lshlb r204_17 ⟨by omega, by omega⟩ ?_))))
  intro n6 h7 h8 h9
  refine wk_lorb r204_18 ?_
  intro n10 h11 h12 h13
  refine wk_last r204_19 (arF_17 (by omega) (by omega)) ⟨by omega, by omega⟩ (wk_nw (gr_17 (by omega) (by omega) _) rfl hP0 hF0 (uaF_17 (by omega) (by omega) ⟨by omega, by omega⟩) ?_)
  intro M14 hP15 hF16 e17
  subst hQ; exact wk_ret r204_20 (⟨rfl, hP15, hF16⟩)
def fm_m7186_10v1 : Nat := 0
/-- IslandHall$Realm.answerAt -/
theorem m7186_10v1 {B : eB} (d : Nat) (M0 : Mm) (p1 : Int) (p2 : Int) (hP0 : Pw M0) (l1 : 0 ≤ p1) (u1 : p1 ≤ 2999) (l2 : 2 ≤ p2) (u2 : p2 ≤ 2) : Ct B (d + 1) 186 [R 10, I p1, I p2] M0 (qI fun z M => Pw M ∧ Fr fm_m7186_10v1 M0 M ∧ 0 ≤ z ∧ z ≤ 7) := by
  refine ct_of (d := d + 0) (k := 0) (L := [some (R 10), some (I p1), some (I p2)]) rfl rfl rfl ?_
  have hF0 := Fr.rf fm_m7186_10v1 M0
  generalize hQ : (qI fun z M => Pw M ∧ Fr fm_m7186_10v1 M0 M ∧ 0 ≤ z ∧ z ≤ 7) = Q
  refine wk_il2 r186_0 ?_
  refine wk_sw8 r186_1 ⟨by omega, by omega⟩ ?_ ?_ ?_ ?_
  · intro h1
    exfalso
    omega
  · intro h2
    exfalso
    omega
  · intro h3
    refine wk_al0 r186_40 (wk_getfr r186_41 fd_10_1 (br_10_1 hP0) (wk_il1 r186_44 (wk_ialdb r186_45 ar_136 ⟨by omega, by omega⟩ (fun q0 q1 => ba_136 hP0 q0 q1) ?_)))
    intro v4 h6 h7 e5
    refine wk_c2 r186_46 (wk_ishrc r186_48 ⟨by omega, by omega⟩ (by decide) pwl_23 (wk_c2 r186_49 (wk_iandc 3 8 r186_51 ⟨rfl, by decide⟩ rfl ?_)))
    subst hQ; exact wk_iret r186_52 (⟨rfl, _, rfl, hP0, hF0, by omega, by omega⟩)
  · intro h10
    exfalso
    omega
def fm_m7204_10v5 : Nat := 4722366482869645213696
/-- IslandHall$Realm.set -/
theorem m7204_10v5 {B : eB} (d : Nat) (M0 : Mm) (p1 : Int) (p2 : Int) (hP0 : Pw M0) (l1 : 39 ≤ p1) (u1 : p1 ≤ 46) (l2 : 0 ≤ p2) (u2 : p2 ≤ 2999) : Ct B (d + 1) 204 [R 10, I p1, I p2] M0 (qV fun M => Pw M ∧ Fr fm_m7204_10v5 M0 M) := by
  refine ct_of (d := d + 0) (k := 0) (L := [some (R 10), some (I p1), some (I p2)]) rfl rfl rfl ?_
  have hF0 := Fr.rf fm_m7204_10v5 M0
  generalize hQ : (qV fun M => Pw M ∧ Fr fm_m7204_10v5 M0 M) = Q
  refine wk_al0 r204_0 (wk_getfr r204_1 fd_10_0 (br_10_0 hP0) (wk_il1 r204_4 (wk_raldb r204_5 ar_16 ⟨by omega, by omega⟩ (fun q0 q1 => ba_16 hP0 q0 q1) (wk_il2 r204_6 (wk_c2 r204_7 (wk_ishrc r204_9 ⟨by omega, by omega⟩ (by decide) pwl_6 (wk_dup2 r204_10 (wk_laldb r204_11 (arF_17 (by omega) (by omega)) ⟨by omega, by omega⟩ (fun q0 q1 => baF_17 hP0 (by omega) (by omega) q0 q1) (by decide) ?_))))))))
  intro n2 h4 h5 e3
  refine wk_c6 r204_12 (wk_il2 r204_13 (wk_c2 r204_14 (wk_iandc 6 64 r204_16 ⟨rfl, by decide⟩ rfl (wk_lshlb r204_17 ⟨by omega, by omega⟩ ?_))))
  intro n6 h7 h8 h9
  refine wk_lorb r204_18 ?_
  intro n10 h11 h12 h13
  refine wk_last r204_19 (arF_17 (by omega) (by omega)) ⟨by omega, by omega⟩ (wk_nw (gr_17 (by omega) (by omega) _) rfl hP0 hF0 (uaF_17 (by omega) (by omega) ⟨by omega, by omega⟩) ?_)
  intro M14 hP15 hF16 e17
  subst hQ; exact wk_ret r204_20 (⟨rfl, hP15, hF16⟩)
def fm_m7186_10v2 : Nat := 0
/-- IslandHall$Realm.answerAt -/
theorem m7186_10v2 {B : eB} (d : Nat) (M0 : Mm) (p1 : Int) (p2 : Int) (hP0 : Pw M0) (l1 : 0 ≤ p1) (u1 : p1 ≤ 2999) (l2 : 3 ≤ p2) (u2 : p2 ≤ 3) : Ct B (d + 1) 186 [R 10, I p1, I p2] M0 (qI fun z M => Pw M ∧ Fr fm_m7186_10v2 M0 M ∧ 0 ≤ z ∧ z ≤ 1) := by
  refine ct_of (d := d + 0) (k := 0) (L := [some (R 10), some (I p1), some (I p2)]) rfl rfl rfl ?_
  have hF0 := Fr.rf fm_m7186_10v2 M0
  generalize hQ : (qI fun z M => Pw M ∧ Fr fm_m7186_10v2 M0 M ∧ 0 ≤ z ∧ z ≤ 1) = Q
  refine wk_il2 r186_0 ?_
  refine wk_sw8 r186_1 ⟨by omega, by omega⟩ ?_ ?_ ?_ ?_
  · intro h1
    exfalso
    omega
  · intro h2
    exfalso
    omega
  · intro h3
    exfalso
    omega
  · intro h4
    refine wk_al0 r186_53 (wk_getfr r186_54 fd_10_1 (br_10_1 hP0) (wk_il1 r186_57 (wk_ialdb r186_58 ar_136 ⟨by omega, by omega⟩ (fun q0 q1 => ba_136 hP0 q0 q1) ?_)))
    intro v5 h7 h8 e6
    refine wk_c2 r186_59 (wk_ishrc r186_61 ⟨by omega, by omega⟩ (by decide) pwl_26 (wk_c1 r186_62 (wk_iandc 1 2 r186_63 ⟨rfl, by decide⟩ rfl ?_)))
    subst hQ; exact wk_iret r186_64 (⟨rfl, _, rfl, hP0, hF0, by omega, by omega⟩)
def fm_m7204_10v6 : Nat := 4722366482869645213696
/-- IslandHall$Realm.set -/
theorem m7204_10v6 {B : eB} (d : Nat) (M0 : Mm) (p1 : Int) (p2 : Int) (hP0 : Pw M0) (l1 : 46 ≤ p1) (u1 : p1 ≤ 47) (l2 : 0 ≤ p2) (u2 : p2 ≤ 2999) : Ct B (d + 1) 204 [R 10, I p1, I p2] M0 (qV fun M => Pw M ∧ Fr fm_m7204_10v6 M0 M) := by
  refine ct_of (d := d + 0) (k := 0) (L := [some (R 10), some (I p1), some (I p2)]) rfl rfl rfl ?_
  have hF0 := Fr.rf fm_m7204_10v6 M0
  generalize hQ : (qV fun M => Pw M ∧ Fr fm_m7204_10v6 M0 M) = Q
  refine wk_al0 r204_0 (wk_getfr r204_1 fd_10_0 (br_10_0 hP0) (wk_il1 r204_4 (wk_raldb r204_5 ar_16 ⟨by omega, by omega⟩ (fun q0 q1 => ba_16 hP0 q0 q1) (wk_il2 r204_6 (wk_c2 r204_7 (wk_ishrc r204_9 ⟨by omega, by omega⟩ (by decide) pwl_6 (wk_dup2 r204_10 (wk_laldb r204_11 (arF_17 (by omega) (by omega)) ⟨by omega, by omega⟩ (fun q0 q1 => baF_17 hP0 (by omega) (by omega) q0 q1) (by decide) ?_))))))))
  intro n2 h4 h5 e3
  refine wk_c6 r204_12 (wk_il2 r204_13 (wk_c2 r204_14 (wk_iandc 6 64 r204_16 ⟨rfl, by decide⟩ rfl (wk_lshlb r204_17 ⟨by omega, by omega⟩ ?_))))
  intro n6 h7 h8 h9
  refine wk_lorb r204_18 ?_
  intro n10 h11 h12 h13
  refine wk_last r204_19 (arF_17 (by omega) (by omega)) ⟨by omega, by omega⟩ (wk_nw (gr_17 (by omega) (by omega) _) rfl hP0 hF0 (uaF_17 (by omega) (by omega) ⟨by omega, by omega⟩) ?_)
  intro M14 hP15 hF16 e17
  subst hQ; exact wk_ret r204_20 (⟨rfl, hP15, hF16⟩)
def fm_m7204_10v7 : Nat := 4722366482869645213696
/-- IslandHall$Realm.set -/
theorem m7204_10v7 {B : eB} (d : Nat) (M0 : Mm) (p1 : Int) (p2 : Int) (hP0 : Pw M0) (l1 : 118 ≤ p1) (u1 : p1 ≤ 118) (l2 : 0 ≤ p2) (u2 : p2 ≤ 2999) : Ct B (d + 1) 204 [R 10, I p1, I p2] M0 (qV fun M => Pw M ∧ Fr fm_m7204_10v7 M0 M) := by
  refine ct_of (d := d + 0) (k := 0) (L := [some (R 10), some (I p1), some (I p2)]) rfl rfl rfl ?_
  have hF0 := Fr.rf fm_m7204_10v7 M0
  generalize hQ : (qV fun M => Pw M ∧ Fr fm_m7204_10v7 M0 M) = Q
  refine wk_al0 r204_0 (wk_getfr r204_1 fd_10_0 (br_10_0 hP0) (wk_il1 r204_4 (wk_raldb r204_5 ar_16 ⟨by omega, by omega⟩ (fun q0 q1 => ba_16 hP0 q0 q1) (wk_il2 r204_6 (wk_c2 r204_7 (wk_ishrc r204_9 ⟨by omega, by omega⟩ (by decide) pwl_6 (wk_dup2 r204_10 (wk_laldb r204_11 (arF_17 (by omega) (by omega)) ⟨by omega, by omega⟩ (fun q0 q1 => baF_17 hP0 (by omega) (by omega) q0 q1) (by decide) ?_))))))))
  intro n2 h4 h5 e3
  refine wk_c6 r204_12 (wk_il2 r204_13 (wk_c2 r204_14 (wk_iandc 6 64 r204_16 ⟨rfl, by decide⟩ rfl (wk_lshlb r204_17 ⟨by omega, by omega⟩ ?_))))
  intro n6 h7 h8 h9
  refine wk_lorb r204_18 ?_
  intro n10 h11 h12 h13
  refine wk_last r204_19 (arF_17 (by omega) (by omega)) ⟨by omega, by omega⟩ (wk_nw (gr_17 (by omega) (by omega) _) rfl hP0 hF0 (uaF_17 (by omega) (by omega) ⟨by omega, by omega⟩) ?_)
  intro M14 hP15 hF16 e17
  subst hQ; exact wk_ret r204_20 (⟨rfl, hP15, hF16⟩)
def fm_m7204_10v8 : Nat := 4722366482869645213696
/-- IslandHall$Realm.set -/
theorem m7204_10v8 {B : eB} (d : Nat) (M0 : Mm) (p1 : Int) (p2 : Int) (hP0 : Pw M0) (l1 : 48 ≤ p1) (u1 : p1 ≤ 87) (l2 : 0 ≤ p2) (u2 : p2 ≤ 2999) : Ct B (d + 1) 204 [R 10, I p1, I p2] M0 (qV fun M => Pw M ∧ Fr fm_m7204_10v8 M0 M) := by
  refine ct_of (d := d + 0) (k := 0) (L := [some (R 10), some (I p1), some (I p2)]) rfl rfl rfl ?_
  have hF0 := Fr.rf fm_m7204_10v8 M0
  generalize hQ : (qV fun M => Pw M ∧ Fr fm_m7204_10v8 M0 M) = Q
  refine wk_al0 r204_0 (wk_getfr r204_1 fd_10_0 (br_10_0 hP0) (wk_il1 r204_4 (wk_raldb r204_5 ar_16 ⟨by omega, by omega⟩ (fun q0 q1 => ba_16 hP0 q0 q1) (wk_il2 r204_6 (wk_c2 r204_7 (wk_ishrc r204_9 ⟨by omega, by omega⟩ (by decide) pwl_6 (wk_dup2 r204_10 (wk_laldb r204_11 (arF_17 (by omega) (by omega)) ⟨by omega, by omega⟩ (fun q0 q1 => baF_17 hP0 (by omega) (by omega) q0 q1) (by decide) ?_))))))))
  intro n2 h4 h5 e3
  refine wk_c6 r204_12 (wk_il2 r204_13 (wk_c2 r204_14 (wk_iandc 6 64 r204_16 ⟨rfl, by decide⟩ rfl (wk_lshlb r204_17 ⟨by omega, by omega⟩ ?_))))
  intro n6 h7 h8 h9
  refine wk_lorb r204_18 ?_
  intro n10 h11 h12 h13
  refine wk_last r204_19 (arF_17 (by omega) (by omega)) ⟨by omega, by omega⟩ (wk_nw (gr_17 (by omega) (by omega) _) rfl hP0 hF0 (uaF_17 (by omega) (by omega) ⟨by omega, by omega⟩) ?_)
  intro M14 hP15 hF16 e17
  subst hQ; exact wk_ret r204_20 (⟨rfl, hP15, hF16⟩)
def fm_m7188_10 : Nat := 0
/-- IslandHall$Realm.codeAt -/
theorem m7188_10 {B : eB} (d : Nat) (M0 : Mm) (p1 : Int) (p2 : Int) (hP0 : Pw M0) (l1 : 0 ≤ p1) (u1 : p1 ≤ 2999) (l2 : 0 ≤ p2) (u2 : p2 ≤ 6) : Ct B (d + 1) 188 [R 10, I p1, I p2] M0 (qI fun z M => Pw M ∧ Fr fm_m7188_10 M0 M ∧ 0 ≤ z ∧ z ≤ 7) := by
  refine ct_of (d := d + 0) (k := 0) (L := [some (R 10), some (I p1), some (I p2)]) rfl rfl rfl ?_
  have hF0 := Fr.rf fm_m7188_10 M0
  generalize hQ : (qI fun z M => Pw M ∧ Fr fm_m7188_10 M0 M ∧ 0 ≤ z ∧ z ≤ 7) = Q
  refine wk_al0 r188_0 (wk_getfr r188_1 fd_10_1 (br_10_1 hP0) (wk_il1 r188_4 (wk_ialdb r188_5 ar_136 ⟨by omega, by omega⟩ (fun q0 q1 => ba_136 hP0 q0 q1) ?_)))
  intro v1 h3 h4 e2
  refine wk_c1 r188_6 (wk_il2 r188_7 (wk_imul r188_8 (wk_shrb r188_9 ⟨by omega, by omega⟩ ⟨by omega, by omega⟩ ?_)))
  intro v5 h6 h7 h8
  refine wk_c2 r188_10 (wk_iandc 3 8 r188_12 ⟨rfl, by decide⟩ rfl ?_)
  subst hQ; exact wk_iret r188_13 (⟨rfl, _, rfl, hP0, hF0, by omega, by omega⟩)
def fm_m7197_10 : Nat := 0
/-- IslandHall$Realm.kindAt -/
theorem m7197_10 {B : eB} (d : Nat) (M0 : Mm) (p1 : Int) (p2 : Int) (hP0 : Pw M0) (l1 : 0 ≤ p1) (u1 : p1 ≤ 2999) (l2 : 0 ≤ p2) (u2 : p2 ≤ 6) : Ct B (d + 2) 197 [R 10, I p1, I p2] M0 (qI fun z M => Pw M ∧ Fr fm_m7197_10 M0 M ∧ 0 ≤ z ∧ z ≤ 4) := by
  refine ct_of (d := d + 1) (k := 1) (L := [some (R 10), some (I p1), some (I p2), none]) rfl rfl rfl ?_
  have hF0 := Fr.rf fm_m7197_10 M0
  generalize hQ : (qI fun z M => Pw M ∧ Fr fm_m7197_10 M0 M ∧ 0 ≤ z ∧ z ≤ 4) = Q
  refine wk_al0 r197_0 (wk_il1 r197_1 (wk_il2 r197_2 (wk_cv3 r197_3 kc_10_188 rfl (m7188_10 _ M0 p1 p2 hP0 (by first | with_reducible assumption | omega) (by first | with_reducible assumption | omega) (by first | with_reducible assumption | omega) (by first | with_reducible assumption | omega)) (cqI ?_))))
  rintro v5 M1 ⟨hP2, hQ3, h6, h7⟩
  obtain rfl := Fr.same hQ3
  refine wk_is3 r197_6 rfl (wk_il3 r197_7 (wk_c2 r197_8 ?_))
  refine wk_icge r197_10 ⟨by omega, by omega⟩ (by decide) ?_ ?_
  · intro h8
    refine wk_c1 r197_21 ?_
    subst hQ; exact wk_iret r197_22 (⟨rfl, _, rfl, hP0, hF0, by omega, by omega⟩)
  · intro h9
    refine wk_kget r197_13 (wk_il3 r197_16 (wk_kald r197_17 ⟨by omega, by omega⟩ ?_))
    intro v10 h11 h12 h13
    refine wk_goto r197_18 ?_
    subst hQ; exact wk_iret r197_22 (⟨rfl, _, rfl, hP0, hF0, by omega, by omega⟩)
def fm_m7204_10v9 : Nat := 4722366482869645213696
/-- IslandHall$Realm.set -/
theorem m7204_10v9 {B : eB} (d : Nat) (M0 : Mm) (p1 : Int) (p2 : Int) (hP0 : Pw M0) (l1 : 0 ≤ p1) (u1 : p1 ≤ 34) (l2 : 0 ≤ p2) (u2 : p2 ≤ 2999) : Ct B (d + 1) 204 [R 10, I p1, I p2] M0 (qV fun M => Pw M ∧ Fr fm_m7204_10v9 M0 M) := by
  refine ct_of (d := d + 0) (k := 0) (L := [some (R 10), some (I p1), some (I p2)]) rfl rfl rfl ?_
  have hF0 := Fr.rf fm_m7204_10v9 M0
  generalize hQ : (qV fun M => Pw M ∧ Fr fm_m7204_10v9 M0 M) = Q
  refine wk_al0 r204_0 (wk_getfr r204_1 fd_10_0 (br_10_0 hP0) (wk_il1 r204_4 (wk_raldb r204_5 ar_16 ⟨by omega, by omega⟩ (fun q0 q1 => ba_16 hP0 q0 q1) (wk_il2 r204_6 (wk_c2 r204_7 (wk_ishrc r204_9 ⟨by omega, by omega⟩ (by decide) pwl_6 (wk_dup2 r204_10 (wk_laldb r204_11 (arF_17 (by omega) (by omega)) ⟨by omega, by omega⟩ (fun q0 q1 => baF_17 hP0 (by omega) (by omega) q0 q1) (by decide) ?_))))))))
  intro n2 h4 h5 e3
  refine wk_c6 r204_12 (wk_il2 r204_13 (wk_c2 r204_14 (wk_iandc 6 64 r204_16 ⟨rfl, by decide⟩ rfl (wk_lshlb r204_17 ⟨by omega, by omega⟩ ?_))))
  intro n6 h7 h8 h9
  refine wk_lorb r204_18 ?_
  intro n10 h11 h12 h13
  refine wk_last r204_19 (arF_17 (by omega) (by omega)) ⟨by omega, by omega⟩ (wk_nw (gr_17 (by omega) (by omega) _) rfl hP0 hF0 (uaF_17 (by omega) (by omega) ⟨by omega, by omega⟩) ?_)
  intro M14 hP15 hF16 e17
  subst hQ; exact wk_ret r204_20 (⟨rfl, hP15, hF16⟩)
def fm_m7192_10v1 : Nat := 0
/-- IslandHall$Realm.honestAt -/
theorem m7192_10v1 {B : eB} (d : Nat) (M0 : Mm) (p1 : Int) (p2 : Int) (p3 : Int) (hP0 : Pw M0) (l1 : 0 ≤ p1) (u1 : p1 ≤ 2999) (l2 : 0 ≤ p2) (u2 : p2 ≤ 6) (l3 : 0 ≤ p3) (u3 : p3 ≤ 1) : Ct B (d + 3) 192 [R 10, I p1, I p2, I p3] M0 (qI fun z M => Pw M ∧ Fr fm_m7192_10v1 M0 M ∧ 0 ≤ z ∧ z ≤ 1) := by
  refine ct_of (d := d + 2) (k := 0) (L := [some (R 10), some (I p1), some (I p2), some (I p3)]) rfl rfl rfl ?_
  have hF0 := Fr.rf fm_m7192_10v1 M0
  generalize hQ : (qI fun z M => Pw M ∧ Fr fm_m7192_10v1 M0 M ∧ 0 ≤ z ∧ z ≤ 1) = Q
  refine wk_al0 r192_0 (wk_il1 r192_1 (wk_il2 r192_2 (wk_cv3 r192_3 kc_10_197 rfl (m7197_10 _ M0 p1 p2 hP0 (by first | with_reducible assumption | omega) (by first | with_reducible assumption | omega) (by first | with_reducible assumption | omega) (by first | with_reducible assumption | omega)) (cqI ?_))))
  rintro v5 M1 ⟨hP2, hQ3, h6, h7⟩
  obtain rfl := Fr.same hQ3
  refine wk_sw9 r192_6 ⟨by omega, by omega⟩ ?_ ?_ ?_ ?_ ?_
  · intro h8
    refine wk_c1 r192_94 ?_
    subst hQ; exact wk_zret r192_95 (by decide) (⟨rfl, _, rfl, hP0, hF0, by omega, by omega⟩)
  · intro h9
    refine wk_c1 r192_36 ?_
    subst hQ; exact wk_zret r192_37 (by decide) (⟨rfl, _, rfl, hP0, hF0, by omega, by omega⟩)
  · intro h10
    refine wk_c1 r192_94 ?_
    subst hQ; exact wk_zret r192_95 (by decide) (⟨rfl, _, rfl, hP0, hF0, by omega, by omega⟩)
  · intro h11
    refine wk_al0 r192_38 (wk_il1 r192_39 (wk_il2 r192_40 (wk_cv3 r192_41 kc_10_188 rfl (m7188_10 _ M0 p1 p2 hP0 (by first | with_reducible assumption | omega) (by first | with_reducible assumption | omega) (by first | with_reducible assumption | omega) (by first | with_reducible assumption | omega)) (cqI ?_))))
    rintro v16 M12 ⟨hP13, hQ14, h17, h18⟩
    obtain rfl := Fr.same hQ14
    refine wk_c1 r192_44 ?_
    refine wk_icne r192_45 ⟨by omega, by omega⟩ (by decide) ?_ ?_
    · intro h19
      refine wk_c1 r192_52 (wk_il3 r192_53 (wk_c1 r192_54 ?_))
      refine wk_icne r192_55 ⟨by omega, by omega⟩ (by decide) ?_ ?_
      · intro h20
        refine wk_c1 r192_62 ?_
        refine wk_icne r192_63 (by decide) (by decide) ?_ ?_
        · intro h21
          exfalso
          omega
        · intro h22
          refine wk_c1 r192_66 (wk_goto r192_67 ?_)
          subst hQ; exact wk_zret r192_71 (by decide) (⟨rfl, _, rfl, hP0, hF0, by omega, by omega⟩)
      · intro h23
        refine wk_c1 r192_58 (wk_goto r192_59 ?_)
        refine wk_icne r192_63 (by decide) (by decide) ?_ ?_
        · intro h24
          refine wk_c1 r192_70 ?_
          subst hQ; exact wk_zret r192_71 (by decide) (⟨rfl, _, rfl, hP0, hF0, by omega, by omega⟩)
        · intro h25
          exfalso
          omega
    · intro h26
      refine wk_c1 r192_48 (wk_goto r192_49 (wk_il3 r192_53 (wk_c1 r192_54 ?_)))
      refine wk_icne r192_55 ⟨by omega, by omega⟩ (by decide) ?_ ?_
      · intro h27
        refine wk_c1 r192_62 ?_
        refine wk_icne r192_63 (by decide) (by decide) ?_ ?_
        · intro h28
          refine wk_c1 r192_70 ?_
          subst hQ; exact wk_zret r192_71 (by decide) (⟨rfl, _, rfl, hP0, hF0, by omega, by omega⟩)
        · intro h29
          exfalso
          omega
      · intro h30
        refine wk_c1 r192_58 (wk_goto r192_59 ?_)
        refine wk_icne r192_63 (by decide) (by decide) ?_ ?_
        · intro h31
          exfalso
          omega
        · intro h32
          refine wk_c1 r192_66 (wk_goto r192_67 ?_)
          subst hQ; exact wk_zret r192_71 (by decide) (⟨rfl, _, rfl, hP0, hF0, by omega, by omega⟩)
  · intro h33
    refine wk_al0 r192_72 (wk_getfb r192_73 fd_10_8 (bf_10_8 hP0) ?_)
    intro v34 h36 h37 e35
    refine wk_al0 r192_76 (wk_il1 r192_77 (wk_c1 r192_78 (wk_cv3 r192_79 kc_10_186 rfl (m7186_10v1 _ M0 p1 2 hP0 (by first | with_reducible assumption | omega) (by first | with_reducible assumption | omega) (by decide) (by decide)) (cqI ?_))))
    rintro v42 M38 ⟨hP39, hQ40, h43, h44⟩
    obtain rfl := Fr.same hQ40
    refine wk_shrb r192_82 ⟨by omega, by omega⟩ ⟨by omega, by omega⟩ ?_
    intro v45 h46 h47 h48
    refine wk_c1 r192_83 (wk_iandc 1 2 r192_84 ⟨rfl, by decide⟩ rfl ?_)
    refine wk_ifne r192_85 ⟨by omega, by omega⟩ ?_ ?_
    · intro h50
      refine wk_c1 r192_92 ?_
      subst hQ; exact wk_zret r192_93 (by decide) (⟨rfl, _, rfl, hP0, hF0, by omega, by omega⟩)
    · intro h51
      refine wk_c1 r192_88 (wk_goto r192_89 ?_)
      subst hQ; exact wk_zret r192_93 (by decide) (⟨rfl, _, rfl, hP0, hF0, by omega, by omega⟩)
def fm_m7204_10v11 : Nat := 4722366482869645213696
/-- IslandHall$Realm.set -/
theorem m7204_10v11 {B : eB} (d : Nat) (M0 : Mm) (p1 : Int) (p2 : Int) (hP0 : Pw M0) (l1 : 88 ≤ p1) (u1 : p1 ≤ 101) (l2 : 0 ≤ p2) (u2 : p2 ≤ 2999) : Ct B (d + 1) 204 [R 10, I p1, I p2] M0 (qV fun M => Pw M ∧ Fr fm_m7204_10v11 M0 M) := by
  refine ct_of (d := d + 0) (k := 0) (L := [some (R 10), some (I p1), some (I p2)]) rfl rfl rfl ?_
  have hF0 := Fr.rf fm_m7204_10v11 M0
  generalize hQ : (qV fun M => Pw M ∧ Fr fm_m7204_10v11 M0 M) = Q
  refine wk_al0 r204_0 (wk_getfr r204_1 fd_10_0 (br_10_0 hP0) (wk_il1 r204_4 (wk_raldb r204_5 ar_16 ⟨by omega, by omega⟩ (fun q0 q1 => ba_16 hP0 q0 q1) (wk_il2 r204_6 (wk_c2 r204_7 (wk_ishrc r204_9 ⟨by omega, by omega⟩ (by decide) pwl_6 (wk_dup2 r204_10 (wk_laldb r204_11 (arF_17 (by omega) (by omega)) ⟨by omega, by omega⟩ (fun q0 q1 => baF_17 hP0 (by omega) (by omega) q0 q1) (by decide) ?_))))))))
  intro n2 h4 h5 e3
  refine wk_c6 r204_12 (wk_il2 r204_13 (wk_c2 r204_14 (wk_iandc 6 64 r204_16 ⟨rfl, by decide⟩ rfl (wk_lshlb r204_17 ⟨by omega, by omega⟩ ?_))))
  intro n6 h7 h8 h9
  refine wk_lorb r204_18 ?_
  intro n10 h11 h12 h13
  refine wk_last r204_19 (arF_17 (by omega) (by omega)) ⟨by omega, by omega⟩ (wk_nw (gr_17 (by omega) (by omega) _) rfl hP0 hF0 (uaF_17 (by omega) (by omega) ⟨by omega, by omega⟩) ?_)
  intro M14 hP15 hF16 e17
  subst hQ; exact wk_ret r204_20 (⟨rfl, hP15, hF16⟩)
def fm_m7203_10 : Nat := 4759259971017064316928
/-- IslandHall$Realm.placePerson -/
theorem m7203_10 {B : eB} (d : Nat) (M0 : Mm) (p1 : Int) (p2 : Int) (hP0 : Pw M0) (l1 : 0 ≤ p1) (u1 : p1 ≤ 2999) (l2 : 0 ≤ p2) (u2 : p2 ≤ 6) (xp0 : ∀ k : Int, 0 ≤ k → k < 5 → M0 13 k ≤ p2) : Ct B (d + 4) 203 [R 10, I p1, I p2] M0 (qV fun M => Pw M ∧ Fr fm_m7203_10 M0 M ∧ (∀ k : Int, 0 ≤ k → k < 5 → M 13 k ≤ p2 + 1)) := by
  refine ct_of (d := d + 3) (k := 2) (L := [some (R 10), some (I p1), some (I p2), none, none]) rfl rfl rfl ?_
  have hF0 := Fr.rf fm_m7203_10 M0
  generalize hQ : (qV fun M => Pw M ∧ Fr fm_m7203_10 M0 M ∧ (∀ k : Int, 0 ≤ k → k < 5 → M 13 k ≤ p2 + 1)) = Q
  refine wk_al0 r203_0 (wk_il1 r203_1 (wk_il2 r203_2 (wk_cv3 r203_3 kc_10_197 rfl (m7197_10 _ M0 p1 p2 hP0 (by first | with_reducible assumption | omega) (by first | with_reducible assumption | omega) (by first | with_reducible assumption | omega) (by first | with_reducible assumption | omega)) (cqI ?_))))
  rintro v5 M1 ⟨hP2, hQ3, h6, h7⟩
  obtain rfl := Fr.same hQ3
  refine wk_is3 r203_6 rfl (wk_al0 r203_7 (wk_getfr r203_8 fd_10_5 (br_10_5 hP0) (wk_il3 r203_11 (wk_dup2 r203_12 (wk_ialdb r203_13 ar_13 ⟨by omega, by omega⟩ (fun q0 q1 => ba_13 hP0 q0 q1) ?_)))))
  intro v8 h10 h11 e9
  have h12 : v8 ≤ p2 := by have q := xp0 v5 (by omega) (by omega); rw [e9] at q; omega
  refine wk_c1 r203_14 (wk_iadd r203_15 (wk_iast r203_16 ar_13 ⟨by omega, by omega⟩ (wk_nw (ga_13 _) rfl hP0 hF0 (ua_13 ⟨by omega, by omega⟩) ?_)))
  intro M13 hP14 hF15 e16
  obtain ⟨u17, hu18⟩ : ∃ u : Int → Int, ∀ k, M13 13 k = u k := ⟨fun k => M13 13 k, fun k => rfl⟩
  have tal : ∀ k : Int, 0 ≤ k → k < 5 → u17 k ≤ p2 + 1 := fun k q0 q1 => by rw [← hu18 k]; exact tally_up e16 (by omega) xp0 k q0 q1
  refine wk_al0 r203_17 (wk_c1 r203_18 (wk_il2 r203_19 (wk_c1 r203_20 (wk_imul r203_21 (wk_iadd r203_22 (wk_il3 r203_23 (wk_iadd r203_24 (wk_il1 r203_25 (wk_cv3 r203_26 kc_10_204 rfl (m7204_10v9 _ M13 ((0 + (p2 * 5)) + v5) p1 hP14 (by first | with_reducible assumption | omega) (by first | with_reducible assumption | omega) (by first | with_reducible assumption | omega) (by first | with_reducible assumption | omega)) (cqV ?_))))))))))
  rintro M19 ⟨hP20, hQ21⟩
  have hF22 : Fr fm_m7203_10 M0 M19 := hF15.tr hQ21 rfl
  refine wk_c1 r203_29 (wk_is4 r203_30 rfl ?_)
  have c32_107 : ∀ (k107 : Nat) (M88 : Mm) (v85 : Int), (2 - v85).toNat = k107 → Pw M88 → Fr fm_m7203_10 M0 M88 → 0 ≤ v85 → v85 ≤ 2 → (∀ k, M88 13 k = u17 k) → Wp B (d + 3) 203 32 [some (R 10), some (I p1), some (I p2), none, some (I v85)] [] M88 Q := by
    refine lp_ind ?_
    intro k107 ih107 M88 v85 hk107 hP89 hF90 h86 h87 hu91
    refine wk_il4 r203_32 (wk_c1 r203_34 ?_)
    refine wk_icge r203_35 ⟨by omega, by omega⟩ (by decide) ?_ ?_
    · intro h92
      subst hQ; exact wk_ret r203_69 (⟨rfl, hP89, hF90, fun k q0 q1 => by rw [hu91 k]; exact tal k q0 q1⟩)
    · intro h93
      refine wk_al0 r203_38 (wk_il1 r203_39 (wk_il2 r203_40 (wk_il4 r203_41 (wk_cv4 r203_43 kc_10_192 rfl (m7192_10v1 _ M88 p1 p2 v85 hP89 (by first | with_reducible assumption | omega) (by first | with_reducible assumption | omega) (by first | with_reducible assumption | omega) (by first | with_reducible assumption | omega) (by first | with_reducible assumption | omega) (by first | with_reducible assumption | omega)) (cqI ?_)))))
      rintro v98 M94 ⟨hP95, hQ96, h99, h100⟩
      obtain rfl := Fr.same hQ96
      refine wk_ifeq r203_46 ⟨by omega, by omega⟩ ?_ ?_
      · intro h101
        refine wk_inc4 r203_63 rfl (wk_goto r203_66 ?_)
        exact wp_fg (le_s (le_s (le_s (le_s (le_s le_0))))) (ih107 (2 - (v85 + 1)).toNat (by omega) M88 (v85 + 1) rfl hP89 hF90 (by first | with_reducible assumption | omega) (by first | with_reducible assumption | omega) hu91)
      · intro h102
        refine wk_al0 r203_49 (wk_c2 r203_50 (wk_c1 r203_52 (wk_il2 r203_53 (wk_imul r203_54 (wk_iadd r203_55 (wk_il4 r203_56 (wk_iadd r203_58 (wk_il1 r203_59 (wk_cv3 r203_60 kc_10_204 rfl (m7204_10v11 _ M88 ((88 + (2 * p2)) + v85) p1 hP89 (by first | with_reducible assumption | omega) (by first | with_reducible assumption | omega) (by first | with_reducible assumption | omega) (by first | with_reducible assumption | omega)) (cqV ?_))))))))))
        rintro M103 ⟨hP104, hQ105⟩
        have hF106 : Fr fm_m7203_10 M0 M103 := hF90.tr hQ105 rfl
        refine wk_inc4 r203_63 rfl (wk_goto r203_66 ?_)
        exact wp_fg (le_s (le_s (le_s (le_s (le_s le_0))))) (ih107 (2 - (v85 + 1)).toNat (by omega) M103 (v85 + 1) rfl hP104 hF106 (by first | with_reducible assumption | omega) (by first | with_reducible assumption | omega) (fun k => (hQ105.at (ga_13 k) rfl).trans (hu91 k)))
  exact wp_fg (le_s (le_s (le_s (le_n (le_s le_0))))) (c32_107 _ M19 0 rfl hP20 hF22 (by first | with_reducible assumption | omega) (by first | with_reducible assumption | omega) (fun k => (hQ21.at (ga_13 k) rfl).trans (hu18 k)))
def fm_m7202_10 : Nat := 33100376397262576680960
/-- IslandHall$Realm.place -/
theorem m7202_10 {B : eB} (d : Nat) (M0 : Mm) (p1 : Int) (p2 : Int) (x10_9 : Int) (hP0 : Pw M0) (l1 : 0 ≤ p1) (u1 : p1 ≤ 134217727) (l2 : 0 ≤ p2) (u2 : p2 ≤ 2999) (ex10_9 : M0 10 9 = x10_9) (lx10_9 : 0 ≤ x10_9) (ux10_9 : x10_9 ≤ 2999) : Ct B (d + 5) 202 [R 10, I p1, I p2] M0 (qV fun M => Pw M ∧ Fr fm_m7202_10 M0 M ∧ 0 ≤ M 10 9 + (-1) * x10_9 + (-1) ∧ 0 ≤ (-1) * (M 10 9) + x10_9 + 1) := by
  refine ct_of (d := d + 4) (k := 2) (L := [some (R 10), some (I p1), some (I p2), none, none]) rfl rfl rfl ?_
  have hF0 := Fr.rf fm_m7202_10 M0
  generalize hQ : (qV fun M => Pw M ∧ Fr fm_m7202_10 M0 M ∧ 0 ≤ M 10 9 + (-1) * x10_9 + (-1) ∧ 0 ≤ (-1) * (M 10 9) + x10_9 + 1) = Q
  refine wk_al0 r202_0 (wk_getfi r202_1 fd_10_9 ex10_9 (wk_is3 r202_4 rfl (wk_al0 r202_5 (wk_getfr r202_6 fd_10_1 (br_10_1 hP0) (wk_il3 r202_9 (wk_il1 r202_10 (wk_iast r202_11 ar_136 ⟨by omega, by omega⟩ (wk_nw (ga_136 _) rfl hP0 hF0 (ua_136 ⟨by omega, by omega⟩) ?_))))))))
  intro M1 hP2 hF3 e4
  refine wk_al0 r202_12 (wk_getfr r202_13 fd_10_2 (br_10_2 hP2) (wk_il3 r202_16 (wk_il2 r202_17 (wk_iast r202_18 ar_137 ⟨by omega, by omega⟩ (wk_nw (ga_137 _) rfl hP2 hF3 (ua_137 ⟨by omega, by omega⟩) ?_)))))
  intro M5 hP6 hF7 e8
  refine wk_al0 r202_19 (wk_dupr r202_20 (wk_getfi r202_21 fd_10_9 (mUp_no e8 (mUp_no e4 ex10_9 (Or.inl (by decide))) (Or.inl (by decide))) (wk_c1 r202_24 (wk_iadd r202_25 (wk_putfi81 r202_26 fd_10_9 (wk_nw g_10_9 rfl hP6 hF7 (uf_10_9 ⟨by omega, by omega⟩) ?_))))))
  intro M9 hP10 hF11 e12
  refine wk_al0 r202_29 (wk_al0 r202_30 (wk_getfi r202_31 fd_10_9 (mUp_at e12) (wk_c2 r202_34 (wk_iadd r202_36 (wk_c2 r202_37 (wk_ishrc r202_39 ⟨by omega, by omega⟩ (by decide) pwl_6 (wk_putfi81 r202_40 fd_10_10 (wk_nw g_10_10 rfl hP10 hF11 (uf_10_10 ⟨by omega, by omega⟩) ?_))))))))
  intro M14 hP15 hF16 e17
  refine wk_al0 r202_43 (wk_getfr r202_44 fd_10_5 (br_10_5 hP15) (wk_c1 r202_47 (wk_cs102_2 r202_48 rfl (ct_fi ar_13) (cqV ?_))))
  intro M18 e19
  have hP20 : Pw M18 := by rw [e19]; exact hP15.fil (fun i => (ua_13 (by decide)))
  have hF21 : Fr fm_m7202_10 M0 M18 := by rw [e19]; exact hF16.fil (fun i => by rw [(ga_13 i)]; rfl)
  refine wk_c1 r202_51 (wk_is4 r202_52 rfl ?_)
  have c54_624 : ∀ (k624 : Nat) (M550 : Mm) (v547 : Int), (7 - v547).toNat = k624 → Pw M550 → Fr fm_m7202_10 M0 M550 → M550 10 9 = (x10_9 + 1) → M550 10 10 = (((x10_9 + 1) + 63) / 64) → 0 ≤ v547 → v547 ≤ 7 → (∀ k : Int, 0 ≤ k → k < 5 → M550 13 k ≤ v547) → Wp B (d + 4) 202 54 [some (R 10), none, none, some (I x10_9), some (I v547)] [] M550 Q := by
    refine lp_ind ?_
    intro k624 ih624 M550 v547 hk624 hP551 hF552 e553 e554 h548 h549 ti555
    refine wk_il4 r202_54 (wk_al0 r202_56 (wk_getfb r202_57 fd_10_7 (bf_10_7 hP551) ?_))
    intro v556 h558 h559 e557
    refine wk_icge r202_60 ⟨by omega, by omega⟩ ⟨by omega, by omega⟩ ?_ ?_
    · intro h560
      refine wk_c1 r202_76 (wk_is4 r202_77 rfl ?_)
      have c79_617 : ∀ (k617 : Nat) (M564 : Mm) (v561 : Int), (5 - v561).toNat = k617 → Pw M564 → Fr fm_m7202_10 M0 M564 → M564 10 9 = (x10_9 + 1) → M564 10 10 = (((x10_9 + 1) + 63) / 64) → M564 10 7 = v556 → 0 ≤ v561 → v561 ≤ 5 → Wp B (d + 4) 202 79 [some (R 10), none, none, some (I x10_9), some (I v561)] [] M564 Q := by
        refine lp_ind ?_
        intro k617 ih617 M564 v561 hk617 hP565 hF566 e567 e568 e569 h562 h563
        refine wk_il4 r202_79 (wk_c1 r202_81 ?_)
        refine wk_icge r202_82 ⟨by omega, by omega⟩ (by decide) ?_ ?_
        · intro h570
          refine wk_al0 r202_112 (wk_c2 r202_113 (wk_al0 r202_115 (wk_il3 r202_116 (wk_c1 r202_117 (wk_cv3 r202_118 kc_10_186 rfl (m7186_10 _ M564 x10_9 1 hP565 (by first | with_reducible assumption | omega) (by first | with_reducible assumption | omega) (by decide) (by decide)) (cqI ?_))))))
          rintro v575 M571 ⟨hP572, hQ573, h576, h577⟩
          obtain rfl := Fr.same hQ573
          refine wk_iadd r202_121 (wk_il3 r202_122 (wk_cv3 r202_123 kc_10_204 rfl (m7204_10v4 _ M564 (35 + v575) x10_9 hP565 (by first | with_reducible assumption | omega) (by first | with_reducible assumption | omega) (by first | with_reducible assumption | omega) (by first | with_reducible assumption | omega)) (cqV ?_)))
          rintro M578 ⟨hP579, hQ580⟩
          have hF581 : Fr fm_m7202_10 M0 M578 := hF566.tr hQ580 rfl
          refine wk_al0 r202_126 (wk_c2 r202_127 (wk_al0 r202_129 (wk_il3 r202_130 (wk_c1 r202_131 (wk_cv3 r202_132 kc_10_186 rfl (m7186_10v1 _ M578 x10_9 2 hP579 (by first | with_reducible assumption | omega) (by first | with_reducible assumption | omega) (by decide) (by decide)) (cqI ?_))))))
          rintro v586 M582 ⟨hP583, hQ584, h587, h588⟩
          obtain rfl := Fr.same hQ584
          refine wk_iadd r202_135 (wk_il3 r202_136 (wk_cv3 r202_137 kc_10_204 rfl (m7204_10v5 _ M578 (39 + v586) x10_9 hP579 (by first | with_reducible assumption | omega) (by first | with_reducible assumption | omega) (by first | with_reducible assumption | omega) (by first | with_reducible assumption | omega)) (cqV ?_)))
          rintro M589 ⟨hP590, hQ591⟩
          have hF592 : Fr fm_m7202_10 M0 M589 := hF581.tr hQ591 rfl
          refine wk_al0 r202_140 (wk_c2 r202_141 (wk_al0 r202_143 (wk_il3 r202_144 (wk_c1 r202_145 (wk_cv3 r202_146 kc_10_186 rfl (m7186_10v2 _ M589 x10_9 3 hP590 (by first | with_reducible assumption | omega) (by first | with_reducible assumption | omega) (by decide) (by decide)) (cqI ?_))))))
          rintro v597 M593 ⟨hP594, hQ595, h598, h599⟩
          obtain rfl := Fr.same hQ595
          refine wk_iadd r202_149 (wk_il3 r202_150 (wk_cv3 r202_151 kc_10_204 rfl (m7204_10v6 _ M589 (46 + v597) x10_9 hP590 (by first | with_reducible assumption | omega) (by first | with_reducible assumption | omega) (by first | with_reducible assumption | omega) (by first | with_reducible assumption | omega)) (cqV ?_)))
          rintro M600 ⟨hP601, hQ602⟩
          have hF603 : Fr fm_m7202_10 M0 M600 := hF592.tr hQ602 rfl
          refine wk_al0 r202_154 (wk_c2 r202_155 (wk_il3 r202_157 (wk_cv3 r202_158 kc_10_204 rfl (m7204_10v7 _ M600 118 x10_9 hP601 (by decide) (by decide) (by first | with_reducible assumption | omega) (by first | with_reducible assumption | omega)) (cqV ?_))))
          rintro M604 ⟨hP605, hQ606⟩
          have hF607 : Fr fm_m7202_10 M0 M604 := hF603.tr hQ606 rfl
          subst hQ; exact wk_ret r202_161 (⟨rfl, hP605, hF607, by have := ((hQ606.at g_10_9 rfl).trans ((hQ602.at g_10_9 rfl).trans ((hQ591.at g_10_9 rfl).trans ((hQ580.at g_10_9 rfl).trans e567)))); omega, by have := ((hQ606.at g_10_9 rfl).trans ((hQ602.at g_10_9 rfl).trans ((hQ591.at g_10_9 rfl).trans ((hQ580.at g_10_9 rfl).trans e567)))); omega⟩)
        · intro h608
          refine wk_al0 r202_85 (wk_c2 r202_86 (wk_il4 r202_88 (wk_c2 r202_90 (wk_imul r202_92 (wk_iadd r202_93 (wk_al0 r202_94 (wk_getfr r202_95 fd_10_5 (br_10_5 hP565) (wk_il4 r202_98 (wk_ialdb r202_100 ar_13 ⟨by omega, by omega⟩ (fun q0 q1 => ba_13 hP565 q0 q1) ?_)))))))))
          intro v609 h611 h612 e610
          refine wk_iadd r202_101 (wk_il3 r202_102 (wk_cv3 r202_103 kc_10_204 rfl (m7204_10v8 _ M564 ((48 + (v561 * 8)) + v609) x10_9 hP565 (by first | with_reducible assumption | omega) (by first | with_reducible assumption | omega) (by first | with_reducible assumption | omega) (by first | with_reducible assumption | omega)) (cqV ?_)))
          rintro M613 ⟨hP614, hQ615⟩
          have hF616 : Fr fm_m7202_10 M0 M613 := hF566.tr hQ615 rfl
          refine wk_inc4 r202_106 rfl (wk_goto r202_109 ?_)
          exact wp_fg (le_s (le_s (le_s (le_s (le_s le_0))))) (ih617 (5 - (v561 + 1)).toNat (by omega) M613 (v561 + 1) rfl hP614 hF616 ((hQ615.at g_10_9 rfl).trans e567) ((hQ615.at g_10_10 rfl).trans e568) ((hQ615.at g_10_7 rfl).trans e569) (by first | with_reducible assumption | omega) (by first | with_reducible assumption | omega))
      exact wp_fg (le_s (le_s (le_s (le_s (le_s le_0))))) (c79_617 _ M550 0 rfl hP551 hF552 e553 e554 e557 (by first | with_reducible assumption | omega) (by first | with_reducible assumption | omega))
    · intro h618
      refine wk_al0 r202_63 (wk_il3 r202_64 (wk_il4 r202_65 (wk_cv3 r202_67 kc_10_203 rfl (m7203_10 _ M550 x10_9 v547 hP551 (by first | with_reducible assumption | omega) (by first | with_reducible assumption | omega) (by first | with_reducible assumption | omega) (by first | with_reducible assumption | omega) (by first | assumption | omega | (unfold stepok; omega))) (cqV ?_))))
      rintro M619 ⟨hP620, hQ621, xh623⟩
      have hF622 : Fr fm_m7202_10 M0 M619 := hF552.tr hQ621 rfl
      refine wk_inc4 r202_70 rfl (wk_goto r202_73 ?_)
      exact wp_fg (le_s (le_s (le_s (le_s (le_s le_0))))) (ih624 (7 - (v547 + 1)).toNat (by omega) M619 (v547 + 1) rfl hP620 hF622 ((hQ621.at g_10_9 rfl).trans e553) ((hQ621.at g_10_10 rfl).trans e554) (by first | with_reducible assumption | omega) (by first | with_reducible assumption | omega) (xh623))
  exact wp_fg (le_s (le_n (le_n (le_s (le_s le_0))))) (c54_624 _ M18 0 rfl hP20 hF21 (fil_no e19 (mUp_no e17 (mUp_at e12) (Or.inr (by decide))) (by decide)) (fil_no e19 (mUp_at e17) (by decide)) (by first | with_reducible assumption | omega) (by first | with_reducible assumption | omega) (fun k q0 q1 => by rw [e19, fil_eq]; omega))
def fm_m7177_2v6 : Nat := 0
/-- IslandHall$Plan.codeBehind -/
theorem m7177_2v6 {B : eB} (d : Nat) (M0 : Mm) (p1 : Int) (p2 : Int) (hP0 : Pw M0) (l1 : 0 ≤ p1) (u1 : p1 ≤ 6) (l2 : 0 ≤ p2) (u2 : p2 ≤ 5) : Ct B (d + 1) 177 [R 2, I p1, I p2] M0 (qI fun z M => Pw M ∧ Fr fm_m7177_2v6 M0 M ∧ (-1) ≤ z ∧ z ≤ 5 ∧ (0 ≤ z → M0 3 p1 / pw (kf z) % 2 = 1)) := by
  refine ct_of (d := d + 0) (k := 1) (L := [some (R 2), some (I p1), some (I p2), none]) rfl rfl rfl ?_
  have hF0 := Fr.rf fm_m7177_2v6 M0
  generalize hQ : (qI fun z M => Pw M ∧ Fr fm_m7177_2v6 M0 M ∧ (-1) ≤ z ∧ z ≤ 5 ∧ (0 ≤ z → M0 3 p1 / pw (kf z) % 2 = 1)) = Q
  refine wk_il2 r177_0 (wk_c1 r177_1 (wk_iadd r177_2 (wk_is3 r177_3 rfl ?_)))
  have c4_21 : ∀ (k21 : Nat) (v1 : Int), (6 - v1).toNat = k21 → 1 ≤ v1 → v1 ≤ 6 → Wp B (d + 0) 177 4 [some (R 2), some (I p1), none, some (I v1)] [] M0 Q := by
    refine lp_ind ?_
    intro k21 ih21 v1 hk21 h2 h3
    refine wk_il3 r177_4 (wk_c2 r177_5 ?_)
    refine wk_icge r177_7 ⟨by omega, by omega⟩ (by decide) ?_ ?_
    · intro h4
      refine wk_c1 r177_36 ?_
      subst hQ; exact wk_iret r177_37 (⟨rfl, _, rfl, hP0, hF0, by omega, by omega, fun h => absurd h (by decide)⟩)
    · intro h5
      refine wk_al0 r177_10 (wk_getfr r177_11 fd_2_0 (br_2_0 hP0) (wk_il1 r177_14 (wk_ialdb r177_15 ar_3 ⟨by omega, by omega⟩ (fun q0 q1 => ba_3 hP0 q0 q1) ?_)))
      intro v6 h8 h9 e7
      refine wk_kget r177_16 (wk_il3 r177_19 (wk_kald r177_20 ⟨by omega, by omega⟩ ?_))
      intro v10 h11 h12 h13
      refine wk_shrb r177_21 ⟨by omega, by omega⟩ ⟨by omega, by omega⟩ ?_
      intro v14 h15 h16 h17
      refine wk_c1 r177_22 (wk_iandc 1 2 r177_23 ⟨rfl, by decide⟩ rfl (wk_c1 r177_24 ?_))
      refine wk_icne r177_25 ⟨by omega, by omega⟩ (by decide) ?_ ?_
      · intro h19
        refine wk_inc3 r177_30 rfl (wk_goto r177_33 ?_)
        exact wp_fg (le_s (le_s (le_s (le_s le_0)))) (ih21 (6 - (v1 + 1)).toNat (by omega) (v1 + 1) rfl (by first | with_reducible assumption | omega) (by first | with_reducible assumption | omega))
      · intro h20
        refine wk_il3 r177_28 ?_
        subst hQ; exact wk_iret r177_29 (⟨rfl, _, rfl, hP0, hF0, by omega, by omega, fun _ => by unfold kf; rw [e7, ← h13, ← h17]; omega⟩)
  exact wp_fg (le_s (le_s (le_n (le_s le_0)))) (c4_21 _ (p2 + 1) rfl (by first | with_reducible assumption | omega) (by first | with_reducible assumption | omega))
