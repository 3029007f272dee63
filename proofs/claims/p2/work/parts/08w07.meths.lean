/-! ===== written by program (wip/layer2/all.py): contracts of methods ===== -/
def fm_m204_176v4 : Nat := 21267647932558653966460912964485513216
/-- IslandHall$Realm.set -/
theorem m204_176v4 {B : eB} (d : Nat) (M0 : Mm) (p1 : Int) (p2 : Int) (hP0 : Pw M0) (l1 : 48 ≤ p1) (u1 : p1 ≤ 87) (l2 : 0 ≤ p2) (u2 : p2 ≤ 299) : Ct B (d + 1) 204 [R 176, I p1, I p2] M0 (qV fun M => Pw M ∧ Fr fm_m204_176v4 M0 M) := by
  refine ct_of (d := d + 0) (k := 0) (L := [some (R 176), some (I p1), some (I p2)]) rfl rfl rfl ?_
  have hF0 := Fr.rf fm_m204_176v4 M0
  generalize hQ : (qV fun M => Pw M ∧ Fr fm_m204_176v4 M0 M) = Q
  refine wk_al0 r204_0 (wk_getfr r204_1 fd_176_0 (br_176_0 hP0) (wk_il1 r204_4 (wk_raldb r204_5 ar_182 ⟨by omega, by omega⟩ (fun q0 q1 => ba_182 hP0 q0 q1) (wk_il2 r204_6 (wk_c2 r204_7 (wk_ishrc r204_9 ⟨by omega, by omega⟩ (by decide) pwl_6 (wk_dup2 r204_10 (wk_laldb r204_11 (arF_183 (by omega) (by omega)) ⟨by omega, by omega⟩ (fun q0 q1 => baF_183 hP0 (by omega) (by omega) q0 q1) (by decide) ?_))))))))
  intro n2 h4 h5 e3
  refine wk_c6 r204_12 (wk_il2 r204_13 (wk_c2 r204_14 (wk_iandc 6 64 r204_16 ⟨rfl, by decide⟩ rfl (wk_lshlb r204_17 ⟨by omega, by omega⟩ ?_))))
  intro n6 h7 h8 h9
  refine wk_lorb r204_18 ?_
  intro n10 h11 h12 h13
  refine wk_last r204_19 (arF_183 (by omega) (by omega)) ⟨by omega, by omega⟩ (wk_nw (gr_183 (by omega) (by omega) _) rfl hP0 hF0 (uaF_183 (by omega) (by omega) ⟨by omega, by omega⟩) ?_)
  intro M14 hP15 hF16 e17
  subst hQ; exact wk_ret r204_20 (⟨rfl, hP15, hF16⟩)
def fm_m186_176 : Nat := 0
/-- IslandHall$Realm.answerAt -/
theorem m186_176 {B : eB} (d : Nat) (M0 : Mm) (p1 : Int) (p2 : Int) (hP0 : Pw M0) (l1 : 0 ≤ p1) (u1 : p1 ≤ 299) (l2 : 1 ≤ p2) (u2 : p2 ≤ 1) : Ct B (d + 1) 186 [R 176, I p1, I p2] M0 (qI fun z M => Pw M ∧ Fr fm_m186_176 M0 M ∧ 0 ≤ z ∧ z ≤ 3) := by
  refine ct_of (d := d + 0) (k := 0) (L := [some (R 176), some (I p1), some (I p2)]) rfl rfl rfl ?_
  have hF0 := Fr.rf fm_m186_176 M0
  generalize hQ : (qI fun z M => Pw M ∧ Fr fm_m186_176 M0 M ∧ 0 ≤ z ∧ z ≤ 3) = Q
  refine wk_il2 r186_0 ?_
  refine wk_sw8 r186_1 ⟨by omega, by omega⟩ ?_ ?_ ?_ ?_
  · intro h1
    exfalso
    omega
  · intro h2
    refine wk_al0 r186_28 (wk_getfr r186_29 fd_176_1 (br_176_1 hP0) (wk_il1 r186_32 (wk_ialdb r186_33 ar_302 ⟨by omega, by omega⟩ (fun q0 q1 => ba_302 hP0 q0 q1) ?_)))
    intro v3 h5 h6 e4
    refine wk_c2 r186_34 (wk_ishrc r186_36 ⟨by omega, by omega⟩ (by decide) pwl_21 (wk_c1 r186_37 (wk_iandc 2 4 r186_38 ⟨rfl, by decide⟩ rfl ?_)))
    subst hQ; exact wk_iret r186_39 (⟨rfl, _, rfl, hP0, hF0, by omega, by omega⟩)
  · intro h9
    exfalso
    omega
  · intro h10
    exfalso
    omega
def fm_m204_176v5 : Nat := 21267647932558653966460912964485513216
/-- IslandHall$Realm.set -/
theorem m204_176v5 {B : eB} (d : Nat) (M0 : Mm) (p1 : Int) (p2 : Int) (hP0 : Pw M0) (l1 : 35 ≤ p1) (u1 : p1 ≤ 38) (l2 : 0 ≤ p2) (u2 : p2 ≤ 299) : Ct B (d + 1) 204 [R 176, I p1, I p2] M0 (qV fun M => Pw M ∧ Fr fm_m204_176v5 M0 M) := by
  refine ct_of (d := d + 0) (k := 0) (L := [some (R 176), some (I p1), some (I p2)]) rfl rfl rfl ?_
  have hF0 := Fr.rf fm_m204_176v5 M0
  generalize hQ : (qV fun M => Pw M ∧ Fr fm_m204_176v5 M0 M) = Q
  refine wk_al0 r204_0 (wk_getfr r204_1 fd_176_0 (br_176_0 hP0) (wk_il1 r204_4 (wk_raldb r204_5 ar_182 ⟨by omega, by omega⟩ (fun q0 q1 => ba_182 hP0 q0 q1) (wk_il2 r204_6 (wk_c2 r204_7 (wk_ishrc r204_9 ⟨by omega, by omega⟩ (by decide) pwl_6 (wk_dup2 r204_10 (wk_laldb r204_11 (arF_183 (by omega) (by omega)) ⟨by omega, by omega⟩ (fun q0 q1 => baF_183 hP0 (by omega) (by omega) q0 q1) (by decide) ?_))))))))
  intro n2 h4 h5 e3
  refine wk_c6 r204_12 (wk_il2 r204_13 (wk_c2 r204_14 (wk_iandc 6 64 r204_16 ⟨rfl, by decide⟩ rfl (wk_lshlb r204_17 ⟨by omega, by omega⟩ ?_))))
  intro n6 h7 h8 h9
  refine wk_lorb r204_18 ?_
  intro n10 h11 h12 h13
  refine wk_last r204_19 (arF_183 (by omega) (by omega)) ⟨by omega, by omega⟩ (wk_nw (gr_183 (by omega) (by omega) _) rfl hP0 hF0 (uaF_183 (by omega) (by omega) ⟨by omega, by omega⟩) ?_)
  intro M14 hP15 hF16 e17
  subst hQ; exact wk_ret r204_20 (⟨rfl, hP15, hF16⟩)
def fm_m186_176v1 : Nat := 0
/-- IslandHall$Realm.answerAt -/
theorem m186_176v1 {B : eB} (d : Nat) (M0 : Mm) (p1 : Int) (p2 : Int) (hP0 : Pw M0) (l1 : 0 ≤ p1) (u1 : p1 ≤ 299) (l2 : 2 ≤ p2) (u2 : p2 ≤ 2) : Ct B (d + 1) 186 [R 176, I p1, I p2] M0 (qI fun z M => Pw M ∧ Fr fm_m186_176v1 M0 M ∧ 0 ≤ z ∧ z ≤ 7) := by
  refine ct_of (d := d + 0) (k := 0) (L := [some (R 176), some (I p1), some (I p2)]) rfl rfl rfl ?_
  have hF0 := Fr.rf fm_m186_176v1 M0
  generalize hQ : (qI fun z M => Pw M ∧ Fr fm_m186_176v1 M0 M ∧ 0 ≤ z ∧ z ≤ 7) = Q
  refine wk_il2 r186_0 ?_
  refine wk_sw8 r186_1 ⟨by omega, by omega⟩ ?_ ?_ ?_ ?_
  · intro h1
    exfalso
    omega
  · intro h2
    exfalso
    omega
  · intro h3
    refine wk_al0 r186_40 (wk_getfr r186_41 fd_176_1 (br_176_1 hP0) (wk_il1 r186_44 (wk_ialdb r186_45 ar_302 ⟨by omega, by omega⟩ (fun q0 q1 => ba_302 hP0 q0 q1) ?_)))
    intro v4 h6 h7 e5
    refine wk_c2 r186_46 (wk_ishrc r186_48 ⟨by omega, by omega⟩ (by decide) pwl_23 (wk_c2 r186_49 (wk_iandc 3 8 r186_51 ⟨rfl, by decide⟩ rfl ?_)))
    subst hQ; exact wk_iret r186_52 (⟨rfl, _, rfl, hP0, hF0, by omega, by omega⟩)
  · intro h10
    exfalso
    omega
def fm_m204_176v6 : Nat := 21267647932558653966460912964485513216
/-- IslandHall$Realm.set -/
theorem m204_176v6 {B : eB} (d : Nat) (M0 : Mm) (p1 : Int) (p2 : Int) (hP0 : Pw M0) (l1 : 39 ≤ p1) (u1 : p1 ≤ 46) (l2 : 0 ≤ p2) (u2 : p2 ≤ 299) : Ct B (d + 1) 204 [R 176, I p1, I p2] M0 (qV fun M => Pw M ∧ Fr fm_m204_176v6 M0 M) := by
  refine ct_of (d := d + 0) (k := 0) (L := [some (R 176), some (I p1), some (I p2)]) rfl rfl rfl ?_
  have hF0 := Fr.rf fm_m204_176v6 M0
  generalize hQ : (qV fun M => Pw M ∧ Fr fm_m204_176v6 M0 M) = Q
  refine wk_al0 r204_0 (wk_getfr r204_1 fd_176_0 (br_176_0 hP0) (wk_il1 r204_4 (wk_raldb r204_5 ar_182 ⟨by omega, by omega⟩ (fun q0 q1 => ba_182 hP0 q0 q1) (wk_il2 r204_6 (wk_c2 r204_7 (wk_ishrc r204_9 ⟨by omega, by omega⟩ (by decide) pwl_6 (wk_dup2 r204_10 (wk_laldb r204_11 (arF_183 (by omega) (by omega)) ⟨by omega, by omega⟩ (fun q0 q1 => baF_183 hP0 (by omega) (by omega) q0 q1) (by decide) ?_))))))))
  intro n2 h4 h5 e3
  refine wk_c6 r204_12 (wk_il2 r204_13 (wk_c2 r204_14 (wk_iandc 6 64 r204_16 ⟨rfl, by decide⟩ rfl (wk_lshlb r204_17 ⟨by omega, by omega⟩ ?_))))
  intro n6 h7 h8 h9
  refine wk_lorb r204_18 ?_
  intro n10 h11 h12 h13
  refine wk_last r204_19 (arF_183 (by omega) (by omega)) ⟨by omega, by omega⟩ (wk_nw (gr_183 (by omega) (by omega) _) rfl hP0 hF0 (uaF_183 (by omega) (by omega) ⟨by omega, by omega⟩) ?_)
  intro M14 hP15 hF16 e17
  subst hQ; exact wk_ret r204_20 (⟨rfl, hP15, hF16⟩)
def fm_m186_176v2 : Nat := 0
/-- IslandHall$Realm.answerAt -/
theorem m186_176v2 {B : eB} (d : Nat) (M0 : Mm) (p1 : Int) (p2 : Int) (hP0 : Pw M0) (l1 : 0 ≤ p1) (u1 : p1 ≤ 299) (l2 : 3 ≤ p2) (u2 : p2 ≤ 3) : Ct B (d + 1) 186 [R 176, I p1, I p2] M0 (qI fun z M => Pw M ∧ Fr fm_m186_176v2 M0 M ∧ 0 ≤ z ∧ z ≤ 1) := by
  refine ct_of (d := d + 0) (k := 0) (L := [some (R 176), some (I p1), some (I p2)]) rfl rfl rfl ?_
  have hF0 := Fr.rf fm_m186_176v2 M0
  generalize hQ : (qI fun z M => Pw M ∧ Fr fm_m186_176v2 M0 M ∧ 0 ≤ z ∧ z ≤ 1) = Q
  refine wk_il2 r186_0 ?_
  refine wk_sw8 r186_1 ⟨by omega, by omega⟩ ?_ ?_ ?_ ?_
  · intro h1
    exfalso
    omega
  · intro h2
    exfalso
    omega
  · intro h3
    exfalso
    omega
  · intro h4
    refine wk_al0 r186_53 (wk_getfr r186_54 fd_176_1 (br_176_1 hP0) (wk_il1 r186_57 (wk_ialdb r186_58 ar_302 ⟨by omega, by omega⟩ (fun q0 q1 => ba_302 hP0 q0 q1) ?_)))
    intro v5 h7 h8 e6
    refine wk_c2 r186_59 (wk_ishrc r186_61 ⟨by omega, by omega⟩ (by decide) pwl_26 (wk_c1 r186_62 (wk_iandc 1 2 r186_63 ⟨rfl, by decide⟩ rfl ?_)))
    subst hQ; exact wk_iret r186_64 (⟨rfl, _, rfl, hP0, hF0, by omega, by omega⟩)
def fm_m204_176v7 : Nat := 21267647932558653966460912964485513216
/-- IslandHall$Realm.set -/
theorem m204_176v7 {B : eB} (d : Nat) (M0 : Mm) (p1 : Int) (p2 : Int) (hP0 : Pw M0) (l1 : 46 ≤ p1) (u1 : p1 ≤ 47) (l2 : 0 ≤ p2) (u2 : p2 ≤ 299) : Ct B (d + 1) 204 [R 176, I p1, I p2] M0 (qV fun M => Pw M ∧ Fr fm_m204_176v7 M0 M) := by
  refine ct_of (d := d + 0) (k := 0) (L := [some (R 176), some (I p1), some (I p2)]) rfl rfl rfl ?_
  have hF0 := Fr.rf fm_m204_176v7 M0
  generalize hQ : (qV fun M => Pw M ∧ Fr fm_m204_176v7 M0 M) = Q
  refine wk_al0 r204_0 (wk_getfr r204_1 fd_176_0 (br_176_0 hP0) (wk_il1 r204_4 (wk_raldb r204_5 ar_182 ⟨by omega, by omega⟩ (fun q0 q1 => ba_182 hP0 q0 q1) (wk_il2 r204_6 (wk_c2 r204_7 (wk_ishrc r204_9 ⟨by omega, by omega⟩ (by decide) pwl_6 (wk_dup2 r204_10 (wk_laldb r204_11 (arF_183 (by omega) (by omega)) ⟨by omega, by omega⟩ (fun q0 q1 => baF_183 hP0 (by omega) (by omega) q0 q1) (by decide) ?_))))))))
  intro n2 h4 h5 e3
  refine wk_c6 r204_12 (wk_il2 r204_13 (wk_c2 r204_14 (wk_iandc 6 64 r204_16 ⟨rfl, by decide⟩ rfl (wk_lshlb r204_17 ⟨by omega, by omega⟩ ?_))))
  intro n6 h7 h8 h9
  refine wk_lorb r204_18 ?_
  intro n10 h11 h12 h13
  refine wk_last r204_19 (arF_183 (by omega) (by omega)) ⟨by omega, by omega⟩ (wk_nw (gr_183 (by omega) (by omega) _) rfl hP0 hF0 (uaF_183 (by omega) (by omega) ⟨by omega, by omega⟩) ?_)
  intro M14 hP15 hF16 e17
  subst hQ; exact wk_ret r204_20 (⟨rfl, hP15, hF16⟩)
def fm_m204_176v8 : Nat := 127605887595351923798765477786913079296
/-- IslandHall$Realm.set -/
theorem m204_176v8 {B : eB} (d : Nat) (M0 : Mm) (p1 : Int) (p2 : Int) (hP0 : Pw M0) (l1 : 118 ≤ p1) (u1 : p1 ≤ 118) (l2 : 0 ≤ p2) (u2 : p2 ≤ 299) : Ct B (d + 1) 204 [R 176, I p1, I p2] M0 (qV fun M => Pw M ∧ Fr fm_m204_176v8 M0 M) := by
  refine ct_of (d := d + 0) (k := 0) (L := [some (R 176), some (I p1), some (I p2)]) rfl rfl rfl ?_
  have hF0 := Fr.rf fm_m204_176v8 M0
  generalize hQ : (qV fun M => Pw M ∧ Fr fm_m204_176v8 M0 M) = Q
  refine wk_al0 r204_0 (wk_getfr r204_1 fd_176_0 (br_176_0 hP0) (wk_il1 r204_4 (wk_raldb r204_5 ar_182 ⟨by omega, by omega⟩ (fun q0 q1 => ba_182 hP0 q0 q1) (wk_il2 r204_6 (wk_c2 r204_7 (wk_ishrc r204_9 ⟨by omega, by omega⟩ (by decide) pwl_6 (wk_dup2 r204_10 (wk_laldb r204_11 (arF_301 (by omega) (by omega)) ⟨by omega, by omega⟩ (fun q0 q1 => ⟨(b4_301 hP0 (by omega) (by omega) q0 q1).1, (b4_301 hP0 (by omega) (by omega) q0 q1).2.1⟩) (by decide) ?_))))))))
  intro n2 h4 h5 e3
  have h6 : (p2 / 64) = 4 → n2 ≤ 17592186044415 := by have := b4_301 hP0 (a := (183 + p1)) (i := (p2 / 64)) (by omega) (by omega) (by omega) (by omega); omega
  refine wk_c6 r204_12 (wk_il2 r204_13 (wk_c2 r204_14 (wk_iandc 6 64 r204_16 ⟨rfl, by decide⟩ rfl (wk_lshlb r204_17 ⟨by omega, by omega⟩ ?_))))
  intro n7 h8 h9 h10
  refine wk_lorb r204_18 ?_
  intro n11 h12 h13 h14
  refine wk_last r204_19 (arF_301 (by omega) (by omega)) ⟨by omega, by omega⟩ (wk_nwt (t4_301 rfl rfl (by omega) (by omega) _) hP0 hF0 (u4_301 (by omega) (by omega) ⟨by omega, by omega, by omega⟩) ?_)
  intro M15 hP16 hF17 e18
  subst hQ; exact wk_ret r204_20 (⟨rfl, hP16, hF17⟩)
def fm_m188_176 : Nat := 0
/-- IslandHall$Realm.codeAt -/
theorem m188_176 {B : eB} (d : Nat) (M0 : Mm) (p1 : Int) (p2 : Int) (hP0 : Pw M0) (l1 : 0 ≤ p1) (u1 : p1 ≤ 299) (l2 : 0 ≤ p2) (u2 : p2 ≤ 6) : Ct B (d + 1) 188 [R 176, I p1, I p2] M0 (qI fun z M => Pw M ∧ Fr fm_m188_176 M0 M ∧ 0 ≤ z ∧ z ≤ 7) := by
  refine ct_of (d := d + 0) (k := 0) (L := [some (R 176), some (I p1), some (I p2)]) rfl rfl rfl ?_
  have hF0 := Fr.rf fm_m188_176 M0
  generalize hQ : (qI fun z M => Pw M ∧ Fr fm_m188_176 M0 M ∧ 0 ≤ z ∧ z ≤ 7) = Q
  refine wk_al0 r188_0 (wk_getfr r188_1 fd_176_1 (br_176_1 hP0) (wk_il1 r188_4 (wk_ialdb r188_5 ar_302 ⟨by omega, by omega⟩ (fun q0 q1 => ba_302 hP0 q0 q1) ?_)))
  intro v1 h3 h4 e2
  refine wk_c1 r188_6 (wk_il2 r188_7 (wk_imul r188_8 (wk_shrb r188_9 ⟨by omega, by omega⟩ ⟨by omega, by omega⟩ ?_)))
  intro v5 h6 h7 h8
  refine wk_c2 r188_10 (wk_iandc 3 8 r188_12 ⟨rfl, by decide⟩ rfl ?_)
  subst hQ; exact wk_iret r188_13 (⟨rfl, _, rfl, hP0, hF0, by omega, by omega⟩)
def fm_m197_176 : Nat := 0
/-- IslandHall$Realm.kindAt -/
theorem m197_176 {B : eB} (d : Nat) (M0 : Mm) (p1 : Int) (p2 : Int) (hP0 : Pw M0) (l1 : 0 ≤ p1) (u1 : p1 ≤ 299) (l2 : 0 ≤ p2) (u2 : p2 ≤ 6) : Ct B (d + 2) 197 [R 176, I p1, I p2] M0 (qI fun z M => Pw M ∧ Fr fm_m197_176 M0 M ∧ 0 ≤ z ∧ z ≤ 4) := by
  refine ct_of (d := d + 1) (k := 1) (L := [some (R 176), some (I p1), some (I p2), none]) rfl rfl rfl ?_
  have hF0 := Fr.rf fm_m197_176 M0
  generalize hQ : (qI fun z M => Pw M ∧ Fr fm_m197_176 M0 M ∧ 0 ≤ z ∧ z ≤ 4) = Q
  refine wk_al0 r197_0 (wk_il1 r197_1 (wk_il2 r197_2 (wk_cv3 r197_3 kc_176_188 rfl (m188_176 _ M0 p1 p2 hP0 (by omega) (by omega) (by omega) (by omega)) (cqI ?_))))
  rintro v5 M1 ⟨hP2, hQ3, h6, h7⟩
  obtain rfl := Fr.same hQ3
  refine wk_is3 r197_6 rfl (wk_il3 r197_7 (wk_c2 r197_8 ?_))
  refine wk_icge r197_10 ⟨by omega, by omega⟩ (by decide) ?_ ?_
  · intro h8
    refine wk_c1 r197_21 ?_
    subst hQ; exact wk_iret r197_22 (⟨rfl, _, rfl, hP0, hF0, by omega, by omega⟩)
  · intro h9
    refine wk_kget r197_13 (wk_il3 r197_16 (wk_kald r197_17 ⟨by omega, by omega⟩ ?_))
    intro v10 h11 h12 h13
    refine wk_goto r197_18 ?_
    subst hQ; exact wk_iret r197_22 (⟨rfl, _, rfl, hP0, hF0, by omega, by omega⟩)
def fm_m204_176v9 : Nat := 21267647932558653966460912964485513216
/-- IslandHall$Realm.set -/
theorem m204_176v9 {B : eB} (d : Nat) (M0 : Mm) (p1 : Int) (p2 : Int) (hP0 : Pw M0) (l1 : 0 ≤ p1) (u1 : p1 ≤ 34) (l2 : 0 ≤ p2) (u2 : p2 ≤ 299) : Ct B (d + 1) 204 [R 176, I p1, I p2] M0 (qV fun M => Pw M ∧ Fr fm_m204_176v9 M0 M) := by
  refine ct_of (d := d + 0) (k := 0) (L := [some (R 176), some (I p1), some (I p2)]) rfl rfl rfl ?_
  have hF0 := Fr.rf fm_m204_176v9 M0
  generalize hQ : (qV fun M => Pw M ∧ Fr fm_m204_176v9 M0 M) = Q
  refine wk_al0 r204_0 (wk_getfr r204_1 fd_176_0 (br_176_0 hP0) (wk_il1 r204_4 (wk_raldb r204_5 ar_182 ⟨by omega, by omega⟩ (fun q0 q1 => ba_182 hP0 q0 q1) (wk_il2 r204_6 (wk_c2 r204_7 (wk_ishrc r204_9 ⟨by omega, by omega⟩ (by decide) pwl_6 (wk_dup2 r204_10 (wk_laldb r204_11 (arF_183 (by omega) (by omega)) ⟨by omega, by omega⟩ (fun q0 q1 => baF_183 hP0 (by omega) (by omega) q0 q1) (by decide) ?_))))))))
  intro n2 h4 h5 e3
  refine wk_c6 r204_12 (wk_il2 r204_13 (wk_c2 r204_14 (wk_iandc 6 64 r204_16 ⟨rfl, by decide⟩ rfl (wk_lshlb r204_17 ⟨by omega, by omega⟩ ?_))))
  intro n6 h7 h8 h9
  refine wk_lorb r204_18 ?_
  intro n10 h11 h12 h13
  refine wk_last r204_19 (arF_183 (by omega) (by omega)) ⟨by omega, by omega⟩ (wk_nw (gr_183 (by omega) (by omega) _) rfl hP0 hF0 (uaF_183 (by omega) (by omega) ⟨by omega, by omega⟩) ?_)
  intro M14 hP15 hF16 e17
  subst hQ; exact wk_ret r204_20 (⟨rfl, hP15, hF16⟩)
def fm_m192_176v1 : Nat := 0
/-- IslandHall$Realm.honestAt -/
theorem m192_176v1 {B : eB} (d : Nat) (M0 : Mm) (p1 : Int) (p2 : Int) (p3 : Int) (hP0 : Pw M0) (l1 : 0 ≤ p1) (u1 : p1 ≤ 299) (l2 : 0 ≤ p2) (u2 : p2 ≤ 6) (l3 : 0 ≤ p3) (u3 : p3 ≤ 1) : Ct B (d + 3) 192 [R 176, I p1, I p2, I p3] M0 (qI fun z M => Pw M ∧ Fr fm_m192_176v1 M0 M ∧ 0 ≤ z ∧ z ≤ 1) := by
  refine ct_of (d := d + 2) (k := 0) (L := [some (R 176), some (I p1), some (I p2), some (I p3)]) rfl rfl rfl ?_
  have hF0 := Fr.rf fm_m192_176v1 M0
  generalize hQ : (qI fun z M => Pw M ∧ Fr fm_m192_176v1 M0 M ∧ 0 ≤ z ∧ z ≤ 1) = Q
  refine wk_al0 r192_0 (wk_il1 r192_1 (wk_il2 r192_2 (wk_cv3 r192_3 kc_176_197 rfl (m197_176 _ M0 p1 p2 hP0 (by omega) (by omega) (by omega) (by omega)) (cqI ?_))))
  rintro v5 M1 ⟨hP2, hQ3, h6, h7⟩
  obtain rfl := Fr.same hQ3
  refine wk_sw9 r192_6 ⟨by omega, by omega⟩ ?_ ?_ ?_ ?_ ?_
  · intro h8
    refine wk_c1 r192_94 ?_
    subst hQ; exact wk_zret r192_95 (by decide) (⟨rfl, _, rfl, hP0, hF0, by omega, by omega⟩)
  · intro h9
    refine wk_c1 r192_36 ?_
    subst hQ; exact wk_zret r192_37 (by decide) (⟨rfl, _, rfl, hP0, hF0, by omega, by omega⟩)
  · intro h10
    refine wk_c1 r192_94 ?_
    subst hQ; exact wk_zret r192_95 (by decide) (⟨rfl, _, rfl, hP0, hF0, by omega, by omega⟩)
  · intro h11
    refine wk_al0 r192_38 (wk_il1 r192_39 (wk_il2 r192_40 (wk_cv3 r192_41 kc_176_188 rfl (m188_176 _ M0 p1 p2 hP0 (by omega) (by omega) (by omega) (by omega)) (cqI ?_))))
    rintro v16 M12 ⟨hP13, hQ14, h17, h18⟩
    obtain rfl := Fr.same hQ14
    refine wk_c1 r192_44 ?_
    refine wk_icne r192_45 ⟨by omega, by omega⟩ (by decide) ?_ ?_
    · intro h19
      refine wk_c1 r192_52 (wk_il3 r192_53 (wk_c1 r192_54 ?_))
      refine wk_icne r192_55 ⟨by omega, by omega⟩ (by decide) ?_ ?_
      · intro h20
        refine wk_c1 r192_62 ?_
        refine wk_icne r192_63 (by decide) (by decide) ?_ ?_
        · intro h21
          exfalso
          omega
        · intro h22
          refine wk_c1 r192_66 (wk_goto r192_67 ?_)
          subst hQ; exact wk_zret r192_71 (by decide) (⟨rfl, _, rfl, hP0, hF0, by omega, by omega⟩)
      · intro h23
        refine wk_c1 r192_58 (wk_goto r192_59 ?_)
        refine wk_icne r192_63 (by decide) (by decide) ?_ ?_
        · intro h24
          refine wk_c1 r192_70 ?_
          subst hQ; exact wk_zret r192_71 (by decide) (⟨rfl, _, rfl, hP0, hF0, by omega, by omega⟩)
        · intro h25
          refine wk_c1 r192_66 (wk_goto r192_67 ?_)
          subst hQ; exact wk_zret r192_71 (by decide) (⟨rfl, _, rfl, hP0, hF0, by omega, by omega⟩)
    · intro h26
      refine wk_c1 r192_48 (wk_goto r192_49 (wk_il3 r192_53 (wk_c1 r192_54 ?_)))
      refine wk_icne r192_55 ⟨by omega, by omega⟩ (by decide) ?_ ?_
      · intro h27
        refine wk_c1 r192_62 ?_
        refine wk_icne r192_63 (by decide) (by decide) ?_ ?_
        · intro h28
          refine wk_c1 r192_70 ?_
          subst hQ; exact wk_zret r192_71 (by decide) (⟨rfl, _, rfl, hP0, hF0, by omega, by omega⟩)
        · intro h29
          refine wk_c1 r192_66 (wk_goto r192_67 ?_)
          subst hQ; exact wk_zret r192_71 (by decide) (⟨rfl, _, rfl, hP0, hF0, by omega, by omega⟩)
      · intro h30
        refine wk_c1 r192_58 (wk_goto r192_59 ?_)
        refine wk_icne r192_63 (by decide) (by decide) ?_ ?_
        · intro h31
          exfalso
          omega
        · intro h32
          refine wk_c1 r192_66 (wk_goto r192_67 ?_)
          subst hQ; exact wk_zret r192_71 (by decide) (⟨rfl, _, rfl, hP0, hF0, by omega, by omega⟩)
  · intro h33
    refine wk_al0 r192_72 (wk_getfb r192_73 fd_176_8 (bf_176_8 hP0) ?_)
    intro v34 h36 h37 e35
    refine wk_al0 r192_76 (wk_il1 r192_77 (wk_c1 r192_78 (wk_cv3 r192_79 kc_176_186 rfl (m186_176v1 _ M0 p1 2 hP0 (by omega) (by omega) (by decide) (by decide)) (cqI ?_))))
    rintro v42 M38 ⟨hP39, hQ40, h43, h44⟩
    obtain rfl := Fr.same hQ40
    refine wk_shrb r192_82 ⟨by omega, by omega⟩ ⟨by omega, by omega⟩ ?_
    intro v45 h46 h47 h48
    refine wk_c1 r192_83 (wk_iandc 1 2 r192_84 ⟨rfl, by decide⟩ rfl ?_)
    refine wk_ifne r192_85 ⟨by omega, by omega⟩ ?_ ?_
    · intro h50
      refine wk_c1 r192_92 ?_
      subst hQ; exact wk_zret r192_93 (by decide) (⟨rfl, _, rfl, hP0, hF0, by omega, by omega⟩)
    · intro h51
      refine wk_c1 r192_88 (wk_goto r192_89 ?_)
      subst hQ; exact wk_zret r192_93 (by decide) (⟨rfl, _, rfl, hP0, hF0, by omega, by omega⟩)
def fm_m204_176v11 : Nat := 21267647932558653966460912964485513216
/-- IslandHall$Realm.set -/
theorem m204_176v11 {B : eB} (d : Nat) (M0 : Mm) (p1 : Int) (p2 : Int) (hP0 : Pw M0) (l1 : 88 ≤ p1) (u1 : p1 ≤ 101) (l2 : 0 ≤ p2) (u2 : p2 ≤ 299) : Ct B (d + 1) 204 [R 176, I p1, I p2] M0 (qV fun M => Pw M ∧ Fr fm_m204_176v11 M0 M) := by
  refine ct_of (d := d + 0) (k := 0) (L := [some (R 176), some (I p1), some (I p2)]) rfl rfl rfl ?_
  have hF0 := Fr.rf fm_m204_176v11 M0
  generalize hQ : (qV fun M => Pw M ∧ Fr fm_m204_176v11 M0 M) = Q
  refine wk_al0 r204_0 (wk_getfr r204_1 fd_176_0 (br_176_0 hP0) (wk_il1 r204_4 (wk_raldb r204_5 ar_182 ⟨by omega, by omega⟩ (fun q0 q1 => ba_182 hP0 q0 q1) (wk_il2 r204_6 (wk_c2 r204_7 (wk_ishrc r204_9 ⟨by omega, by omega⟩ (by decide) pwl_6 (wk_dup2 r204_10 (wk_laldb r204_11 (arF_183 (by omega) (by omega)) ⟨by omega, by omega⟩ (fun q0 q1 => baF_183 hP0 (by omega) (by omega) q0 q1) (by decide) ?_))))))))
  intro n2 h4 h5 e3
  refine wk_c6 r204_12 (wk_il2 r204_13 (wk_c2 r204_14 (wk_iandc 6 64 r204_16 ⟨rfl, by decide⟩ rfl (wk_lshlb r204_17 ⟨by omega, by omega⟩ ?_))))
  intro n6 h7 h8 h9
  refine wk_lorb r204_18 ?_
  intro n10 h11 h12 h13
  refine wk_last r204_19 (arF_183 (by omega) (by omega)) ⟨by omega, by omega⟩ (wk_nw (gr_183 (by omega) (by omega) _) rfl hP0 hF0 (uaF_183 (by omega) (by omega) ⟨by omega, by omega⟩) ?_)
  intro M14 hP15 hF16 e17
  subst hQ; exact wk_ret r204_20 (⟨rfl, hP15, hF16⟩)
def fm_m203_176 : Nat := 21433801432031768450573888847020556288
/-- IslandHall$Realm.placePerson -/
theorem m203_176 {B : eB} (d : Nat) (M0 : Mm) (p1 : Int) (p2 : Int) (hP0 : Pw M0) (l1 : 0 ≤ p1) (u1 : p1 ≤ 299) (l2 : 0 ≤ p2) (u2 : p2 ≤ 6) (xp0 : ∀ k : Int, 0 ≤ k → k < 5 → M0 179 k ≤ p2) : Ct B (d + 4) 203 [R 176, I p1, I p2] M0 (qV fun M => Pw M ∧ Fr fm_m203_176 M0 M ∧ (∀ k : Int, 0 ≤ k → k < 5 → M 179 k ≤ p2 + 1)) := by
  refine ct_of (d := d + 3) (k := 2) (L := [some (R 176), some (I p1), some (I p2), none, none]) rfl rfl rfl ?_
  have hF0 := Fr.rf fm_m203_176 M0
  generalize hQ : (qV fun M => Pw M ∧ Fr fm_m203_176 M0 M ∧ (∀ k : Int, 0 ≤ k → k < 5 → M 179 k ≤ p2 + 1)) = Q
  refine wk_al0 r203_0 (wk_il1 r203_1 (wk_il2 r203_2 (wk_cv3 r203_3 kc_176_197 rfl (m197_176 _ M0 p1 p2 hP0 (by omega) (by omega) (by omega) (by omega)) (cqI ?_))))
  rintro v5 M1 ⟨hP2, hQ3, h6, h7⟩
  obtain rfl := Fr.same hQ3
  refine wk_is3 r203_6 rfl (wk_al0 r203_7 (wk_getfr r203_8 fd_176_5 (br_176_5 hP0) (wk_il3 r203_11 (wk_dup2 r203_12 (wk_ialdb r203_13 ar_179 ⟨by omega, by omega⟩ (fun q0 q1 => ba_179 hP0 q0 q1) ?_)))))
  intro v8 h10 h11 e9
  have h12 : v8 ≤ p2 := by have q := xp0 v5 (by omega) (by omega); rw [e9] at q; omega
  refine wk_c1 r203_14 (wk_iadd r203_15 (wk_iast r203_16 ar_179 ⟨by omega, by omega⟩ (wk_nw (ga_179 _) rfl hP0 hF0 (ua_179 ⟨by omega, by omega⟩) ?_)))
  intro M13 hP14 hF15 e16
  obtain ⟨u17, hu18⟩ : ∃ u : Int → Int, ∀ k, M13 179 k = u k := ⟨fun k => M13 179 k, fun k => rfl⟩
  have tal : ∀ k : Int, 0 ≤ k → k < 5 → u17 k ≤ p2 + 1 := fun k q0 q1 => by rw [← hu18 k]; exact tally_up e16 (by omega) xp0 k q0 q1
  refine wk_al0 r203_17 (wk_c1 r203_18 (wk_il2 r203_19 (wk_c1 r203_20 (wk_imul r203_21 (wk_iadd r203_22 (wk_il3 r203_23 (wk_iadd r203_24 (wk_il1 r203_25 (wk_cv3 r203_26 kc_176_204 rfl (m204_176v9 _ M13 ((0 + (p2 * 5)) + v5) p1 hP14 (by omega) (by omega) (by omega) (by omega)) (cqV ?_))))))))))
  rintro M19 ⟨hP20, hQ21⟩
  have hF22 : Fr fm_m203_176 M0 M19 := hF15.tr hQ21 rfl
  refine wk_c1 r203_29 (wk_is4 r203_30 rfl ?_)
  have c32_89 : ∀ (k89 : Nat) (M70 : Mm) (v67 : Int), (2 - v67).toNat = k89 → Pw M70 → Fr fm_m203_176 M0 M70 → 0 ≤ v67 → v67 ≤ 2 → (∀ k, M70 179 k = u17 k) → Wp B (d + 3) 203 32 [some (R 176), some (I p1), some (I p2), none, some (I v67)] [] M70 Q := by
    refine lp_ind ?_
    intro k89 ih89 M70 v67 hk89 hP71 hF72 h68 h69 hu73
    refine wk_il4 r203_32 (wk_c1 r203_34 ?_)
    refine wk_icge r203_35 ⟨by omega, by omega⟩ (by decide) ?_ ?_
    · intro h74
      subst hQ; exact wk_ret r203_69 (⟨rfl, hP71, hF72, fun k q0 q1 => by rw [hu73 k]; exact tal k q0 q1⟩)
    · intro h75
      refine wk_al0 r203_38 (wk_il1 r203_39 (wk_il2 r203_40 (wk_il4 r203_41 (wk_cv4 r203_43 kc_176_192 rfl (m192_176v1 _ M70 p1 p2 v67 hP71 (by omega) (by omega) (by omega) (by omega) (by omega) (by omega)) (cqI ?_)))))
      rintro v80 M76 ⟨hP77, hQ78, h81, h82⟩
      obtain rfl := Fr.same hQ78
      refine wk_ifeq r203_46 ⟨by omega, by omega⟩ ?_ ?_
      · intro h83
        refine wk_inc4 r203_63 rfl (wk_goto r203_66 ?_)
        exact wp_fg (le_s (le_s (le_s (le_s (le_s le_0))))) (ih89 (2 - (v67 + 1)).toNat (by omega) M70 (v67 + 1) rfl hP71 hF72 (by omega) (by omega) hu73)
      · intro h84
        refine wk_al0 r203_49 (wk_c2 r203_50 (wk_c1 r203_52 (wk_il2 r203_53 (wk_imul r203_54 (wk_iadd r203_55 (wk_il4 r203_56 (wk_iadd r203_58 (wk_il1 r203_59 (wk_cv3 r203_60 kc_176_204 rfl (m204_176v11 _ M70 ((88 + (2 * p2)) + v67) p1 hP71 (by omega) (by omega) (by omega) (by omega)) (cqV ?_))))))))))
        rintro M85 ⟨hP86, hQ87⟩
        have hF88 : Fr fm_m203_176 M0 M85 := hF72.tr hQ87 rfl
        refine wk_inc4 r203_63 rfl (wk_goto r203_66 ?_)
        exact wp_fg (le_s (le_s (le_s (le_s (le_s le_0))))) (ih89 (2 - (v67 + 1)).toNat (by omega) M85 (v67 + 1) rfl hP86 hF88 (by omega) (by omega) (fun k => (hQ87.at (ga_179 k) rfl).trans (hu73 k)))
  exact wp_fg (le_s (le_s (le_s (le_n (le_s le_0))))) (c32_89 _ M19 0 rfl hP20 hF22 (by omega) (by omega) (fun k => (hQ21.at (ga_179 k) rfl).trans (hu18 k)))
def fm_m202_176 : Nat := 659494393189942596410172460759561273344
/-- IslandHall$Realm.place -/
theorem m202_176 {B : eB} (d : Nat) (M0 : Mm) (p1 : Int) (p2 : Int) (x176_9 : Int) (hP0 : Pw M0) (l1 : 0 ≤ p1) (u1 : p1 ≤ 134217727) (l2 : 0 ≤ p2) (u2 : p2 ≤ 2999) (ex176_9 : M0 176 9 = x176_9) (lx176_9 : 0 ≤ x176_9) (ux176_9 : x176_9 ≤ 299) : Ct B (d + 5) 202 [R 176, I p1, I p2] M0 (qV fun M => Pw M ∧ Fr fm_m202_176 M0 M ∧ 0 ≤ M 176 9 + (-1) * x176_9 + (-1) ∧ 0 ≤ (-1) * (M 176 9) + x176_9 + 1) := by
  refine ct_of (d := d + 4) (k := 2) (L := [some (R 176), some (I p1), some (I p2), none, none]) rfl rfl rfl ?_
  have hF0 := Fr.rf fm_m202_176 M0
  generalize hQ : (qV fun M => Pw M ∧ Fr fm_m202_176 M0 M ∧ 0 ≤ M 176 9 + (-1) * x176_9 + (-1) ∧ 0 ≤ (-1) * (M 176 9) + x176_9 + 1) = Q
  refine wk_al0 r202_0 (wk_getfi r202_1 fd_176_9 ex176_9 (wk_is3 r202_4 rfl (wk_al0 r202_5 (wk_getfr r202_6 fd_176_1 (br_176_1 hP0) (wk_il3 r202_9 (wk_il1 r202_10 (wk_iast r202_11 ar_302 ⟨by omega, by omega⟩ (wk_nw (ga_302 _) rfl hP0 hF0 (ua_302 ⟨by omega, by omega⟩) ?_))))))))
  intro M1 hP2 hF3 e4
  refine wk_al0 r202_12 (wk_getfr r202_13 fd_176_2 (br_176_2 hP2) (wk_il3 r202_16 (wk_il2 r202_17 (wk_iast r202_18 ar_303 ⟨by omega, by omega⟩ (wk_nw (ga_303 _) rfl hP2 hF3 (ua_303 ⟨by omega, by omega⟩) ?_)))))
  intro M5 hP6 hF7 e8
  refine wk_al0 r202_19 (wk_dupr r202_20 (wk_getfi r202_21 fd_176_9 (mUp_no e8 (mUp_no e4 ex176_9 (Or.inl (by decide))) (Or.inl (by decide))) (wk_c1 r202_24 (wk_iadd r202_25 (wk_putfi81 r202_26 fd_176_9 (wk_nw g_176_9 rfl hP6 hF7 (uf_176_9 ⟨by omega, by omega⟩) ?_))))))
  intro M9 hP10 hF11 e12
  refine wk_al0 r202_29 (wk_al0 r202_30 (wk_getfi r202_31 fd_176_9 (mUp_at e12) (wk_c2 r202_34 (wk_iadd r202_36 (wk_c2 r202_37 (wk_ishrc r202_39 ⟨by omega, by omega⟩ (by decide) pwl_6 (wk_putfi81 r202_40 fd_176_10 (wk_nw g_176_10 rfl hP10 hF11 (uf_176_10 ⟨by omega, by omega⟩) ?_))))))))
  intro M14 hP15 hF16 e17
  refine wk_al0 r202_43 (wk_getfr r202_44 fd_176_5 (br_176_5 hP15) (wk_c1 r202_47 (wk_cs102_2 r202_48 rfl (ct_fi ar_179) (cqV ?_))))
  intro M18 e19
  have hP20 : Pw M18 := by rw [e19]; exact hP15.fil (fun i => (ua_179 (by decide)))
  have hF21 : Fr fm_m202_176 M0 M18 := by rw [e19]; exact hF16.fil (fun i => by rw [(ga_179 i)]; rfl)
  refine wk_c1 r202_51 (wk_is4 r202_52 rfl ?_)
  have c54_635 : ∀ (k635 : Nat) (M561 : Mm) (v558 : Int), (7 - v558).toNat = k635 → Pw M561 → Fr fm_m202_176 M0 M561 → M561 176 9 = (x176_9 + 1) → M561 176 10 = (((x176_9 + 1) + 63) / 64) → 0 ≤ v558 → v558 ≤ 7 → (∀ k : Int, 0 ≤ k → k < 5 → M561 179 k ≤ v558) → Wp B (d + 4) 202 54 [some (R 176), none, none, some (I x176_9), some (I v558)] [] M561 Q := by
    refine lp_ind ?_
    intro k635 ih635 M561 v558 hk635 hP562 hF563 e564 e565 h559 h560 ti566
    refine wk_il4 r202_54 (wk_al0 r202_56 (wk_getfb r202_57 fd_176_7 (bf_176_7 hP562) ?_))
    intro v567 h569 h570 e568
    refine wk_icge r202_60 ⟨by omega, by omega⟩ ⟨by omega, by omega⟩ ?_ ?_
    · intro h571
      refine wk_c1 r202_76 (wk_is4 r202_77 rfl ?_)
      have c79_628 : ∀ (k628 : Nat) (M575 : Mm) (v572 : Int), (5 - v572).toNat = k628 → Pw M575 → Fr fm_m202_176 M0 M575 → M575 176 9 = (x176_9 + 1) → M575 176 10 = (((x176_9 + 1) + 63) / 64) → M575 176 7 = v567 → 0 ≤ v572 → v572 ≤ 5 → Wp B (d + 4) 202 79 [some (R 176), none, none, some (I x176_9), some (I v572)] [] M575 Q := by
        refine lp_ind ?_
        intro k628 ih628 M575 v572 hk628 hP576 hF577 e578 e579 e580 h573 h574
        refine wk_il4 r202_79 (wk_c1 r202_81 ?_)
        refine wk_icge r202_82 ⟨by omega, by omega⟩ (by decide) ?_ ?_
        · intro h581
          refine wk_al0 r202_112 (wk_c2 r202_113 (wk_al0 r202_115 (wk_il3 r202_116 (wk_c1 r202_117 (wk_cv3 r202_118 kc_176_186 rfl (m186_176 _ M575 x176_9 1 hP576 (by omega) (by omega) (by decide) (by decide)) (cqI ?_))))))
          rintro v586 M582 ⟨hP583, hQ584, h587, h588⟩
          obtain rfl := Fr.same hQ584
          refine wk_iadd r202_121 (wk_il3 r202_122 (wk_cv3 r202_123 kc_176_204 rfl (m204_176v5 _ M575 (35 + v586) x176_9 hP576 (by omega) (by omega) (by omega) (by omega)) (cqV ?_)))
          rintro M589 ⟨hP590, hQ591⟩
          have hF592 : Fr fm_m202_176 M0 M589 := hF577.tr hQ591 rfl
          refine wk_al0 r202_126 (wk_c2 r202_127 (wk_al0 r202_129 (wk_il3 r202_130 (wk_c1 r202_131 (wk_cv3 r202_132 kc_176_186 rfl (m186_176v1 _ M589 x176_9 2 hP590 (by omega) (by omega) (by decide) (by decide)) (cqI ?_))))))
          rintro v597 M593 ⟨hP594, hQ595, h598, h599⟩
          obtain rfl := Fr.same hQ595
          refine wk_iadd r202_135 (wk_il3 r202_136 (wk_cv3 r202_137 kc_176_204 rfl (m204_176v6 _ M589 (39 + v597) x176_9 hP590 (by omega) (by omega) (by omega) (by omega)) (cqV ?_)))
          rintro M600 ⟨hP601, hQ602⟩
          have hF603 : Fr fm_m202_176 M0 M600 := hF592.tr hQ602 rfl
          refine wk_al0 r202_140 (wk_c2 r202_141 (wk_al0 r202_143 (wk_il3 r202_144 (wk_c1 r202_145 (wk_cv3 r202_146 kc_176_186 rfl (m186_176v2 _ M600 x176_9 3 hP601 (by omega) (by omega) (by decide) (by decide)) (cqI ?_))))))
          rintro v608 M604 ⟨hP605, hQ606, h609, h610⟩
          obtain rfl := Fr.same hQ606
          refine wk_iadd r202_149 (wk_il3 r202_150 (wk_cv3 r202_151 kc_176_204 rfl (m204_176v7 _ M600 (46 + v608) x176_9 hP601 (by omega) (by omega) (by omega) (by omega)) (cqV ?_)))
          rintro M611 ⟨hP612, hQ613⟩
          have hF614 : Fr fm_m202_176 M0 M611 := hF603.tr hQ613 rfl
          refine wk_al0 r202_154 (wk_c2 r202_155 (wk_il3 r202_157 (wk_cv3 r202_158 kc_176_204 rfl (m204_176v8 _ M611 118 x176_9 hP612 (by decide) (by decide) (by omega) (by omega)) (cqV ?_))))
          rintro M615 ⟨hP616, hQ617⟩
          have hF618 : Fr fm_m202_176 M0 M615 := hF614.tr hQ617 rfl
          subst hQ; exact wk_ret r202_161 (⟨rfl, hP616, hF618, by have := ((hQ617.at g_176_9 rfl).trans ((hQ613.at g_176_9 rfl).trans ((hQ602.at g_176_9 rfl).trans ((hQ591.at g_176_9 rfl).trans e578)))); omega, by have := ((hQ617.at g_176_9 rfl).trans ((hQ613.at g_176_9 rfl).trans ((hQ602.at g_176_9 rfl).trans ((hQ591.at g_176_9 rfl).trans e578)))); omega⟩)
        · intro h619
          refine wk_al0 r202_85 (wk_c2 r202_86 (wk_il4 r202_88 (wk_c2 r202_90 (wk_imul r202_92 (wk_iadd r202_93 (wk_al0 r202_94 (wk_getfr r202_95 fd_176_5 (br_176_5 hP576) (wk_il4 r202_98 (wk_ialdb r202_100 ar_179 ⟨by omega, by omega⟩ (fun q0 q1 => ba_179 hP576 q0 q1) ?_)))))))))
          intro v620 h622 h623 e621
          refine wk_iadd r202_101 (wk_il3 r202_102 (wk_cv3 r202_103 kc_176_204 rfl (m204_176v4 _ M575 ((48 + (v572 * 8)) + v620) x176_9 hP576 (by omega) (by omega) (by omega) (by omega)) (cqV ?_)))
          rintro M624 ⟨hP625, hQ626⟩
          have hF627 : Fr fm_m202_176 M0 M624 := hF577.tr hQ626 rfl
          refine wk_inc4 r202_106 rfl (wk_goto r202_109 ?_)
          exact wp_fg (le_s (le_s (le_s (le_s (le_s le_0))))) (ih628 (5 - (v572 + 1)).toNat (by omega) M624 (v572 + 1) rfl hP625 hF627 ((hQ626.at g_176_9 rfl).trans e578) ((hQ626.at g_176_10 rfl).trans e579) ((hQ626.at g_176_7 rfl).trans e580) (by omega) (by omega))
      exact wp_fg (le_s (le_s (le_s (le_s (le_s le_0))))) (c79_628 _ M561 0 rfl hP562 hF563 e564 e565 e568 (by omega) (by omega))
    · intro h629
      refine wk_al0 r202_63 (wk_il3 r202_64 (wk_il4 r202_65 (wk_cv3 r202_67 kc_176_203 rfl (m203_176 _ M561 x176_9 v558 hP562 (by omega) (by omega) (by omega) (by omega) (by first | assumption | omega | (unfold stepok; omega))) (cqV ?_))))
      rintro M630 ⟨hP631, hQ632, xh634⟩
      have hF633 : Fr fm_m202_176 M0 M630 := hF563.tr hQ632 rfl
      refine wk_inc4 r202_70 rfl (wk_goto r202_73 ?_)
      exact wp_fg (le_s (le_s (le_s (le_s (le_s le_0))))) (ih635 (7 - (v558 + 1)).toNat (by omega) M630 (v558 + 1) rfl hP631 hF633 ((hQ632.at g_176_9 rfl).trans e564) ((hQ632.at g_176_10 rfl).trans e565) (by omega) (by omega) (xh634))
  exact wp_fg (le_s (le_n (le_n (le_s (le_s le_0))))) (c54_635 _ M18 0 rfl hP20 hF21 (fil_no e19 (mUp_no e17 (mUp_at e12) (Or.inr (by decide))) (by decide)) (fil_no e19 (mUp_at e17) (by decide)) (by omega) (by omega) (fun k q0 q1 => by rw [e19, fil_eq]; omega))
def fm_m191_f17v8 : Nat := 0
/-- IslandHall$Realm.holds -/
theorem m191_f17v8 {B : eB} (d : Nat) (M0 : Mm) (a0 : Int) (p1 : Int) (hP0 : Pw M0) (ha0 : 17 ≤ a0) (hb0 : a0 ≤ 135) (l1 : 0 ≤ p1) (u1 : p1 ≤ 2999) : Ct B (d + 1) 191 [R a0, I p1] M0 (qI fun z M => Pw M ∧ Fr fm_m191_f17v8 M0 M ∧ 0 ≤ z ∧ z ≤ 1) := by
  refine ct_of (d := d + 0) (k := 0) (L := [some (R a0), some (I p1)]) rfl rfl rfl ?_
  have hF0 := Fr.rf fm_m191_f17v8 M0
  generalize hQ : (qI fun z M => Pw M ∧ Fr fm_m191_f17v8 M0 M ∧ 0 ≤ z ∧ z ≤ 1) = Q
  refine wk_al0 r191_0 (wk_il1 r191_1 (wk_c2 r191_2 (wk_ishrc r191_4 ⟨by omega, by omega⟩ (by decide) pwl_6 (wk_laldb r191_5 (arF_17 (by omega) (by omega)) ⟨by omega, by omega⟩ (fun q0 q1 => baF_17 hP0 (by omega) (by omega) q0 q1) (by decide) ?_))))
  intro n2 h4 h5 e3
  refine wk_il1 r191_6 (wk_c2 r191_7 (wk_iandc 6 64 r191_9 ⟨rfl, by decide⟩ rfl (wk_lushrb r191_10 (by omega) ⟨by omega, by omega⟩ ?_)))
  intro n6 h7 h8
  refine wk_c6 r191_11 (wk_land r191_12 ?_)
  intro n9 h10 h11 h12 h13
  refine wk_c6 r191_13 ?_
  refine wk_lcmp r191_14 (by omega) (by omega) ?_ ?_
  · intro h14
    refine wk_ifne r191_15 (by decide) ?_ ?_
    · intro h20
      exfalso
      omega
    · intro h21
      refine wk_c1 r191_18 (wk_goto r191_19 ?_)
      subst hQ; exact wk_zret r191_23 (by decide) (⟨rfl, _, rfl, hP0, hF0, by omega, by omega⟩)
  · intro h15 v19 h16 h17 h18
    refine wk_ifne r191_15 ⟨by omega, by omega⟩ ?_ ?_
    · intro h22
      refine wk_c1 r191_22 ?_
      subst hQ; exact wk_zret r191_23 (by decide) (⟨rfl, _, rfl, hP0, hF0, by omega, by omega⟩)
    · intro h23
      exfalso
      omega
def fm_m204_176v25 : Nat := 21267647932558653966460912964485513216
/-- IslandHall$Realm.set -/
theorem m204_176v25 {B : eB} (d : Nat) (M0 : Mm) (p1 : Int) (p2 : Int) (hP0 : Pw M0) (l1 : 102 ≤ p1) (u1 : p1 ≤ 113) (l2 : 0 ≤ p2) (u2 : p2 ≤ 299) : Ct B (d + 1) 204 [R 176, I p1, I p2] M0 (qV fun M => Pw M ∧ Fr fm_m204_176v25 M0 M) := by
  refine ct_of (d := d + 0) (k := 0) (L := [some (R 176), some (I p1), some (I p2)]) rfl rfl rfl ?_
  have hF0 := Fr.rf fm_m204_176v25 M0
  generalize hQ : (qV fun M => Pw M ∧ Fr fm_m204_176v25 M0 M) = Q
  refine wk_al0 r204_0 (wk_getfr r204_1 fd_176_0 (br_176_0 hP0) (wk_il1 r204_4 (wk_raldb r204_5 ar_182 ⟨by omega, by omega⟩ (fun q0 q1 => ba_182 hP0 q0 q1) (wk_il2 r204_6 (wk_c2 r204_7 (wk_ishrc r204_9 ⟨by omega, by omega⟩ (by decide) pwl_6 (wk_dup2 r204_10 (wk_laldb r204_11 (arF_183 (by omega) (by omega)) ⟨by omega, by omega⟩ (fun q0 q1 => baF_183 hP0 (by omega) (by omega) q0 q1) (by decide) ?_))))))))
  intro n2 h4 h5 e3
  refine wk_c6 r204_12 (wk_il2 r204_13 (wk_c2 r204_14 (wk_iandc 6 64 r204_16 ⟨rfl, by decide⟩ rfl (wk_lshlb r204_17 ⟨by omega, by omega⟩ ?_))))
  intro n6 h7 h8 h9
  refine wk_lorb r204_18 ?_
  intro n10 h11 h12 h13
  refine wk_last r204_19 (arF_183 (by omega) (by omega)) ⟨by omega, by omega⟩ (wk_nw (gr_183 (by omega) (by omega) _) rfl hP0 hF0 (uaF_183 (by omega) (by omega) ⟨by omega, by omega⟩) ?_)
  intro M14 hP15 hF16 e17
  subst hQ; exact wk_ret r204_20 (⟨rfl, hP15, hF16⟩)
def fm_m206_176_10_f155 : Nat := 659543720010098677272643500474688864256
/-- IslandHall$Realm.take -/
theorem m206_176_10_f155 {B : eB} (d : Nat) (M0 : Mm) (a2 : Int) (p3 : Int) (hP0 : Pw M0) (ha2 : 155 ≤ a2) (hb2 : a2 ≤ 167) (l3 : 0 ≤ p3) (u3 : p3 ≤ 12) : Ct B (d + 6) 206 [R 176, R 10, R a2, I p3] M0 (qV fun M => Pw M ∧ Fr fm_m206_176_10_f155 M0 M) := by
  refine ct_of (d := d + 5) (k := 2) (L := [some (R 176), some (R 10), some (R a2), some (I p3), none, none]) rfl rfl rfl ?_
  have hF0 := Fr.rf fm_m206_176_10_f155 M0
  generalize hQ : (qV fun M => Pw M ∧ Fr fm_m206_176_10_f155 M0 M) = Q
  refine wk_al0 r206_0 (wk_al1 r206_1 (wk_getfb r206_2 fd_10_7 (bf_10_7 hP0) ?_))
  intro v1 h3 h4 e2
  refine wk_al1 r206_5 (wk_getfb r206_6 fd_10_8 (bf_10_8 hP0) ?_)
  intro v5 h7 h8 e6
  refine wk_cv3 r206_9 kc_176_187 rfl (m187_176 _ M0 v1 v5 hP0 (by omega) (by omega) (by omega) (by omega)) (cqV ?_)
  rintro M9 ⟨hP10, hQ11, h13⟩
  have hF12 : Fr fm_m206_176_10_f155 M0 M9 := hF0.tr hQ11 rfl
  obtain ⟨v14, e15⟩ : ∃ v, M9 176 9 = v := ⟨_, rfl⟩
  have h16 := bf_176_9 hP10; rw [e15] at h16
  refine wk_al1 r206_12 (wk_getfr r206_13 fd_10_3 (br_10_3 hP10) (wk_c1 r206_16 (wk_al0 r206_17 (wk_getfr r206_18 fd_176_3 (br_176_3 hP10) (wk_c1 r206_21 (wk_c2 r206_22 (wk_copy109 r206_24 ar_11 ar_177 ⟨by decide, by decide, by decide, by omega, by omega, by omega⟩ rfl (wk_nc (fun i => by rw [(ga_177 i)]; rfl) hP10 hF12 (fun i h0 h1 => by have := ba_11 hP10 h0 (by omega); exact (ua_177 ⟨by omega, by omega⟩)) ?_))))))))
  intro M17 hP18 hF19 e20
  refine wk_c1 r206_27 (wk_is4 r206_28 rfl ?_)
  have c30_1032 : ∀ (k1032 : Nat) (M963 : Mm) (v960 : Int) (v966 : Int), (3000 - v960).toNat = k1032 → Pw M963 → Fr fm_m206_176_10_f155 M0 M963 → M963 176 9 = v966 → M963 10 7 = v1 → M963 10 8 = v5 → 0 ≤ v960 → v960 ≤ 3000 → 0 ≤ v966 → v966 ≤ 300 → Wp B (d + 5) 206 30 [some (R 176), some (R 10), some (R a2), some (I p3), some (I v960), none] [] M963 Q := by
    refine lp_ind ?_
    intro k1032 ih1032 M963 v960 v966 hk1032 hP964 hF965 e969 e970 e971 h961 h962 h967 h968
    refine wk_il4 r206_30 (wk_al1 r206_32 (wk_getfb r206_33 fd_10_9 (bf_10_9 hP964) ?_))
    intro v972 h974 h975 e973
    refine wk_icge r206_36 ⟨by omega, by omega⟩ ⟨by omega, by omega⟩ ?_ ?_
    · intro h976
      subst hQ; exact wk_ret r206_130 (⟨rfl, hP964, hF965⟩)
    · intro h977
      refine wk_al0 r206_39 (wk_getfi r206_40 fd_176_9 e969 (wk_al0 r206_43 (wk_getfr r206_44 fd_176_1 (br_176_1 hP964) (wk_alen r206_47 ar_302 (by decide) ?_))))
      refine wk_icge r206_48 ⟨by omega, by omega⟩ (by decide) ?_ ?_
      · intro h978
        subst hQ; exact wk_ret r206_130 (⟨rfl, hP964, hF965⟩)
      · intro h979
        refine wk_al2 r206_51 (wk_il4 r206_52 (wk_cs102_2 r206_54 rfl (m191_f155v8 _ M963 a2 v960 hP964 (by omega) (by omega) (by omega) (by omega)) (cqI ?_)))
        rintro v984 M980 ⟨hP981, hQ982, h985, h986⟩
        obtain rfl := Fr.same hQ982
        refine wk_ifeq r206_57 ⟨by omega, by omega⟩ ?_ ?_
        · intro h987
          refine wk_inc4 r206_124 rfl (wk_goto r206_127 ?_)
          exact wp_fg (le_s (le_s (le_s (le_s (le_s (le_s le_0)))))) (ih1032 (3000 - (v960 + 1)).toNat (by omega) M963 (v960 + 1) v966 rfl hP964 hF965 e969 e970 e971 (by omega) (by omega) (by omega) (by omega))
        · intro h988
          refine wk_c1 r206_60 (wk_is5 r206_61 rfl ?_)
          have c63_1031 : ∀ (k1031 : Nat) (M992 : Mm) (v989 : Int), (12 - v989).toNat = k1031 → Pw M992 → Fr fm_m206_176_10_f155 M0 M992 → M992 176 9 = v966 → M992 10 7 = v1 → M992 10 8 = v5 → M992 10 9 = v972 → 0 ≤ v989 → v989 ≤ 12 → Wp B (d + 5) 206 63 [some (R 176), some (R 10), some (R a2), some (I p3), some (I v960), some (I v989)] [] M992 Q := by
            refine lp_ind ?_
            intro k1031 ih1031 M992 v989 hk1031 hP993 hF994 e995 e996 e997 e998 h990 h991
            refine wk_il5 r206_63 (wk_il3 r206_65 ?_)
            refine wk_icge r206_66 ⟨by omega, by omega⟩ ⟨by omega, by omega⟩ ?_ ?_
            · intro h999
              refine wk_al0 r206_106 (wk_al1 r206_107 (wk_getfr r206_108 fd_10_1 (br_10_1 hP993) (wk_il4 r206_111 (wk_ialdb r206_113 ar_136 ⟨by omega, by omega⟩ (fun q0 q1 => ba_136 hP993 q0 q1) ?_))))
              intro v1000 h1002 h1003 e1001
              refine wk_al1 r206_114 (wk_getfr r206_115 fd_10_2 (br_10_2 hP993) (wk_il4 r206_118 (wk_ialdb r206_120 ar_137 ⟨by omega, by omega⟩ (fun q0 q1 => ba_137 hP993 q0 q1) ?_)))
              intro v1004 h1006 h1007 e1005
              refine wk_cv3 r206_121 kc_176_202 rfl (m202_176 _ M992 v1000 v1004 v966 hP993 (by omega) (by omega) (by omega) (by omega) e995 (by omega) (by omega)) (cqV ?_)
              rintro M1008 ⟨hP1009, hQ1010, h1012, h1013⟩
              have hF1011 : Fr fm_m206_176_10_f155 M0 M1008 := hF994.tr hQ1010 rfl
              obtain ⟨v1014, e1015⟩ : ∃ v, M1008 176 9 = v := ⟨_, rfl⟩
              have h1016 := bf_176_9 hP1009; rw [e1015] at h1016
              refine wk_inc4 r206_124 rfl (wk_goto r206_127 ?_)
              exact wp_fg (le_s (le_s (le_s (le_s (le_s (le_n le_0)))))) (ih1032 (3000 - (v960 + 1)).toNat (by omega) M1008 (v960 + 1) v1014 rfl hP1009 hF1011 e1015 ((hQ1010.at g_10_7 rfl).trans e996) ((hQ1010.at g_10_8 rfl).trans e997) (by omega) (by omega) (by omega) (by omega))
            · intro h1017
              refine wk_al1 r206_69 (wk_getfr r206_70 fd_10_0 (br_10_0 hP993) (wk_c2 r206_73 (wk_il5 r206_75 (wk_iadd r206_77 (wk_raldb r206_78 ar_16 ⟨by omega, by omega⟩ (fun q0 q1 => ba_16 hP993 q0 q1) (wk_il4 r206_79 (wk_cs102_2 r206_81 rfl (m191_f17v8 _ M992 (17 + (102 + v989)) v960 hP993 (by omega) (by omega) (by omega) (by omega)) (cqI ?_))))))))
              rintro v1022 M1018 ⟨hP1019, hQ1020, h1023, h1024⟩
              obtain rfl := Fr.same hQ1020
              refine wk_ifeq r206_84 ⟨by omega, by omega⟩ ?_ ?_
              · intro h1025
                refine wk_inc5 r206_100 rfl (wk_goto r206_103 ?_)
                exact wp_fg (le_s (le_s (le_s (le_s (le_s (le_s le_0)))))) (ih1031 (12 - (v989 + 1)).toNat (by omega) M992 (v989 + 1) rfl hP993 hF994 e995 e996 e997 e998 (by omega) (by omega))
              · intro h1026
                refine wk_al0 r206_87 (wk_c2 r206_88 (wk_il5 r206_90 (wk_iadd r206_92 (wk_al0 r206_93 (wk_getfi r206_94 fd_176_9 e995 (wk_cv3 r206_97 kc_176_204 rfl (m204_176v25 _ M992 (102 + v989) v966 hP993 (by omega) (by omega) (by omega) (by omega)) (cqV ?_)))))))
                rintro M1027 ⟨hP1028, hQ1029⟩
                have hF1030 : Fr fm_m206_176_10_f155 M0 M1027 := hF994.tr hQ1029 rfl
                refine wk_inc5 r206_100 rfl (wk_goto r206_103 ?_)
                exact wp_fg (le_s (le_s (le_s (le_s (le_s (le_s le_0)))))) (ih1031 (12 - (v989 + 1)).toNat (by omega) M1027 (v989 + 1) rfl hP1028 hF1030 ((hQ1029.at g_176_9 rfl).trans e995) ((hQ1029.at g_10_7 rfl).trans e996) ((hQ1029.at g_10_8 rfl).trans e997) ((hQ1029.at g_10_9 rfl).trans e998) (by omega) (by omega))
          exact wp_fg (le_s (le_s (le_s (le_s (le_s (le_s le_0)))))) (c63_1031 _ M963 0 rfl hP964 hF965 e969 e970 e971 e973 (by omega) (by omega))
  exact wp_fg (le_s (le_s (le_s (le_s (le_s (le_s le_0)))))) (c30_1032 _ M17 0 v14 rfl hP18 hF19 (cpy_no e20 e15 (by decide)) (cpy_no e20 ((hQ11.at g_10_7 rfl).trans e2) (by decide)) (cpy_no e20 ((hQ11.at g_10_8 rfl).trans e6) (by decide)) (by omega) (by omega) (by omega) (by omega))
def fm_m186_176v11 : Nat := 0
/-- IslandHall$Realm.answerAt -/
theorem m186_176v11 {B : eB} (d : Nat) (M0 : Mm) (p1 : Int) (p2 : Int) (hP0 : Pw M0) (l1 : 0 ≤ p1) (u1 : p1 ≤ 299) (l2 : 0 ≤ p2) (u2 : p2 ≤ 3) : Ct B (d + 1) 186 [R 176, I p1, I p2] M0 (qI fun z M => Pw M ∧ Fr fm_m186_176v11 M0 M ∧ 0 ≤ z ∧ z ≤ 2999) := by
  refine ct_of (d := d + 0) (k := 0) (L := [some (R 176), some (I p1), some (I p2)]) rfl rfl rfl ?_
  have hF0 := Fr.rf fm_m186_176v11 M0
  generalize hQ : (qI fun z M => Pw M ∧ Fr fm_m186_176v11 M0 M ∧ 0 ≤ z ∧ z ≤ 2999) = Q
  refine wk_il2 r186_0 ?_
  refine wk_sw8 r186_1 ⟨by omega, by omega⟩ ?_ ?_ ?_ ?_
  · intro h1
    refine wk_al0 r186_65 (wk_getfr r186_66 fd_176_2 (br_176_2 hP0) (wk_il1 r186_69 (wk_ialdb r186_70 ar_303 ⟨by omega, by omega⟩ (fun q0 q1 => ba_303 hP0 q0 q1) ?_)))
    intro v2 h4 h5 e3
    subst hQ; exact wk_iret r186_71 (⟨rfl, _, rfl, hP0, hF0, by omega, by omega⟩)
  · intro h6
    refine wk_al0 r186_28 (wk_getfr r186_29 fd_176_1 (br_176_1 hP0) (wk_il1 r186_32 (wk_ialdb r186_33 ar_302 ⟨by omega, by omega⟩ (fun q0 q1 => ba_302 hP0 q0 q1) ?_)))
    intro v7 h9 h10 e8
    refine wk_c2 r186_34 (wk_ishrc r186_36 ⟨by omega, by omega⟩ (by decide) pwl_21 (wk_c1 r186_37 (wk_iandc 2 4 r186_38 ⟨rfl, by decide⟩ rfl ?_)))
    subst hQ; exact wk_iret r186_39 (⟨rfl, _, rfl, hP0, hF0, by omega, by omega⟩)
  · intro h13
    refine wk_al0 r186_40 (wk_getfr r186_41 fd_176_1 (br_176_1 hP0) (wk_il1 r186_44 (wk_ialdb r186_45 ar_302 ⟨by omega, by omega⟩ (fun q0 q1 => ba_302 hP0 q0 q1) ?_)))
    intro v14 h16 h17 e15
    refine wk_c2 r186_46 (wk_ishrc r186_48 ⟨by omega, by omega⟩ (by decide) pwl_23 (wk_c2 r186_49 (wk_iandc 3 8 r186_51 ⟨rfl, by decide⟩ rfl ?_)))
    subst hQ; exact wk_iret r186_52 (⟨rfl, _, rfl, hP0, hF0, by omega, by omega⟩)
  · intro h20
    refine wk_al0 r186_53 (wk_getfr r186_54 fd_176_1 (br_176_1 hP0) (wk_il1 r186_57 (wk_ialdb r186_58 ar_302 ⟨by omega, by omega⟩ (fun q0 q1 => ba_302 hP0 q0 q1) ?_)))
    intro v21 h23 h24 e22
    refine wk_c2 r186_59 (wk_ishrc r186_61 ⟨by omega, by omega⟩ (by decide) pwl_26 (wk_c1 r186_62 (wk_iandc 1 2 r186_63 ⟨rfl, by decide⟩ rfl ?_)))
    subst hQ; exact wk_iret r186_64 (⟨rfl, _, rfl, hP0, hF0, by omega, by omega⟩)
def fm_m146_174_138 : Nat := 4062367399360688113732224786765996621824
/-- IslandHall$Crowd.gather -/
theorem m146_174_138 {B : eB} (d : Nat) (M0 : Mm) (p2 : Int) (hP0 : Pw M0) (l2 : 0 ≤ p2) (u2 : p2 ≤ 3) : Ct B (d + 7) 146 [R 174, R 138, I p2] M0 (qV fun M => Pw M ∧ Fr fm_m146_174_138 M0 M) := by
  refine ct_of (d := d + 6) (k := 2) (L := [some (R 174), some (R 138), some (I p2), none, none]) rfl rfl rfl ?_
  have hF0 := Fr.rf fm_m146_174_138 M0
  generalize hQ : (qV fun M => Pw M ∧ Fr fm_m146_174_138 M0 M) = Q
  refine wk_al0 r146_0 (wk_getfr r146_1 fd_174_0 (br_174_0 hP0) (wk_al1 r146_4 (wk_getfr r146_5 fd_138_0 (br_138_0 hP0) (wk_al1 r146_8 (wk_cv1 r146_9 kc_138_229 rfl (m229_138 _ M0 hP0) (cqR ?_))))))
  rintro v5 M1 ⟨hP2, hQ3, h6, h7⟩
  obtain rfl := Fr.same hQ3
  refine wk_al1 r146_12 (wk_getfb r146_13 fd_138_5 (bf_138_5 hP0) ?_)
  intro v8 h10 h11 e9
  refine wk_cv4 r146_16 kc_176_206 rfl (m206_176_10_f155 _ M0 v5 v8 hP0 (by omega) (by omega) (by omega) (by omega)) (cqV ?_)
  rintro M12 ⟨hP13, hQ14⟩
  have hF15 : Fr fm_m146_174_138 M0 M12 := hF0.tr hQ14 rfl
  refine wk_al0 r146_19 (wk_getfr r146_20 fd_174_4 (br_174_4 hP13) (wk_c1 r146_23 (wk_cs102_2 r146_24 rfl (ct_fi ar_175) (cqV ?_))))
  intro M16 e17
  have hP18 : Pw M16 := by rw [e17]; exact hP13.fil (fun i => (ua_175 (by decide)))
  have hF19 : Fr fm_m146_174_138 M0 M16 := by rw [e17]; exact hF15.fil (fun i => by rw [(ga_175 i)]; rfl)
  refine wk_c1 r146_27 (wk_is3 r146_28 rfl ?_)
  have c29_780 : ∀ (k780 : Nat) (M707 : Mm) (v704 : Int), (300 - v704).toNat = k780 → Pw M707 → Fr fm_m146_174_138 M0 M707 → M707 138 5 = v8 → 0 ≤ v704 → v704 ≤ 300 → Wp B (d + 6) 146 29 [some (R 174), none, some (I p2), some (I v704), none] [] M707 Q := by
    refine lp_ind ?_
    intro k780 ih780 M707 v704 hk780 hP708 hF709 e710 h705 h706
    refine wk_il3 r146_29 (wk_al0 r146_30 (wk_getfr r146_31 fd_174_0 (br_174_0 hP708) (wk_getfb r146_34 fd_176_9 (bf_176_9 hP708) ?_)))
    intro v711 h713 h714 e712
    refine wk_icge r146_37 ⟨by omega, by omega⟩ ⟨by omega, by omega⟩ ?_ ?_
    · intro h715
      subst hQ; exact wk_ret r146_124 (⟨rfl, hP708, hF709⟩)
    · intro h716
      refine wk_al0 r146_40 (wk_getfr r146_41 fd_174_0 (br_174_0 hP708) (wk_il3 r146_44 (wk_il2 r146_45 (wk_cv3 r146_46 kc_176_186 rfl (m186_176v11 _ M707 v704 p2 hP708 (by omega) (by omega) (by omega) (by omega)) (cqI ?_)))))
      rintro v721 M717 ⟨hP718, hQ719, h722, h723⟩
      obtain rfl := Fr.same hQ719
      refine wk_is4 r146_49 rfl (wk_al0 r146_51 (wk_getfr r146_52 fd_174_4 (br_174_4 hP708) (wk_il4 r146_55 (wk_ialdb r146_57 ar_175 ⟨by omega, by omega⟩ (fun q0 q1 => ba_175 hP708 q0 q1) ?_))))
      intro v724 h726 h727 e725
      refine wk_c1 r146_58 ?_
      refine wk_icne r146_59 ⟨by omega, by omega⟩ (by decide) ?_ ?_
      · intro h728
        refine wk_al0 r146_80 (wk_getfr r146_81 fd_174_2 (br_174_2 hP708) (wk_il3 r146_84 (wk_al0 r146_85 (wk_getfr r146_86 fd_174_4 (br_174_4 hP708) (wk_il4 r146_89 (wk_iald r146_91 ar_175 ⟨by omega, by omega⟩ e725 (wk_iast r146_92 ar_304 ⟨by omega, by omega⟩ (wk_nw (ga_304 _) rfl hP708 hF709 (ua_304 ⟨by omega, by omega⟩) ?_))))))))
        intro M729 hP730 hF731 e732
        refine wk_al0 r146_93 (wk_getfr r146_94 fd_174_3 (br_174_3 hP730) (wk_al0 r146_97 (wk_getfr r146_98 fd_174_2 (br_174_2 hP730) (wk_il3 r146_101 (wk_iald r146_102 ar_304 ⟨by omega, by omega⟩ (mUp_at e732) (wk_raldb r146_103 ar_305 ⟨by omega, by omega⟩ (fun q0 q1 => ba_305 hP730 q0 q1) (wk_il3 r146_104 (wk_c2 r146_105 (wk_ishrc r146_107 ⟨by omega, by omega⟩ (by decide) pwl_6 (wk_dup2 r146_108 (wk_laldb r146_109 (arF_306 (by omega) (by omega)) ⟨by omega, by omega⟩ (fun q0 q1 => baF_306 hP730 (by omega) (by omega) q0 q1) (by decide) ?_)))))))))))
        intro n734 h736 h737 e735
        refine wk_c6 r146_110 (wk_il3 r146_111 (wk_c2 r146_112 (wk_iandc 6 64 r146_114 ⟨rfl, by decide⟩ rfl (wk_lshlb r146_115 ⟨by omega, by omega⟩ ?_))))
        intro n738 h739 h740 h741
        refine wk_lorb r146_116 ?_
        intro n742 h743 h744 h745
        refine wk_last r146_117 (arF_306 (by omega) (by omega)) ⟨by omega, by omega⟩ (wk_nw (gr_306 (by omega) (by omega) _) rfl hP730 hF731 (uaF_306 (by omega) (by omega) ⟨by omega, by omega⟩) ?_)
        intro M746 hP747 hF748 e749
        refine wk_inc3 r146_118 rfl (wk_goto r146_121 ?_)
        exact wp_fg (le_s (le_s (le_s (le_s (le_n le_0))))) (ih780 (300 - (v704 + 1)).toNat (by omega) M746 (v704 + 1) rfl hP747 hF748 (mUp_no e749 (mUp_no e732 e710 (Or.inl (by decide))) (Or.inl (by omega))) (by omega) (by omega))
      · intro h750
        refine wk_al0 r146_62 (wk_getfr r146_63 fd_174_4 (br_174_4 hP708) (wk_il4 r146_66 (wk_il3 r146_68 (wk_iast r146_69 ar_175 ⟨by omega, by omega⟩ (wk_nw (ga_175 _) rfl hP708 hF709 (ua_175 ⟨by omega, by omega⟩) ?_)))))
        intro M751 hP752 hF753 e754
        refine wk_al0 r146_70 (wk_getfr r146_71 fd_174_3 (br_174_3 hP752) (wk_il3 r146_74 (wk_raldb r146_75 ar_305 ⟨by omega, by omega⟩ (fun q0 q1 => ba_305 hP752 q0 q1) (wk_c6 r146_76 (wk_cs102_2 r146_77 rfl (ct_fl (arF_306 (by omega) (by omega))) (cqV ?_))))))
        intro M755 e756
        have hP757 : Pw M755 := by rw [e756]; exact hP752.fil (fun i => (uaF_306 (by omega) (by omega) ⟨by omega, by omega⟩))
        have hF758 : Fr fm_m146_174_138 M0 M755 := by rw [e756]; exact hF753.fil (fun i => by rw [(gr_306 (by omega) (by omega) i)]; rfl)
        refine wk_al0 r146_80 (wk_getfr r146_81 fd_174_2 (br_174_2 hP757) (wk_il3 r146_84 (wk_al0 r146_85 (wk_getfr r146_86 fd_174_4 (br_174_4 hP757) (wk_il4 r146_89 (wk_iald r146_91 ar_175 ⟨by omega, by omega⟩ (fil_no e756 (mUp_at e754) (by omega)) (wk_iast r146_92 ar_304 ⟨by omega, by omega⟩ (wk_nw (ga_304 _) rfl hP757 hF758 (ua_304 ⟨by omega, by omega⟩) ?_))))))))
        intro M759 hP760 hF761 e762
        refine wk_al0 r146_93 (wk_getfr r146_94 fd_174_3 (br_174_3 hP760) (wk_al0 r146_97 (wk_getfr r146_98 fd_174_2 (br_174_2 hP760) (wk_il3 r146_101 (wk_iald r146_102 ar_304 ⟨by omega, by omega⟩ (mUp_at e762) (wk_raldb r146_103 ar_305 ⟨by omega, by omega⟩ (fun q0 q1 => ba_305 hP760 q0 q1) (wk_il3 r146_104 (wk_c2 r146_105 (wk_ishrc r146_107 ⟨by omega, by omega⟩ (by decide) pwl_6 (wk_dup2 r146_108 (wk_laldb r146_109 (arF_306 (by omega) (by omega)) ⟨by omega, by omega⟩ (fun q0 q1 => baF_306 hP760 (by omega) (by omega) q0 q1) (by decide) ?_)))))))))))
        intro n764 h766 h767 e765
        refine wk_c6 r146_110 (wk_il3 r146_111 (wk_c2 r146_112 (wk_iandc 6 64 r146_114 ⟨rfl, by decide⟩ rfl (wk_lshlb r146_115 ⟨by omega, by omega⟩ ?_))))
        intro n768 h769 h770 h771
        refine wk_lorb r146_116 ?_
        intro n772 h773 h774 h775
        refine wk_last r146_117 (arF_306 (by omega) (by omega)) ⟨by omega, by omega⟩ (wk_nw (gr_306 (by omega) (by omega) _) rfl hP760 hF761 (uaF_306 (by omega) (by omega) ⟨by omega, by omega⟩) ?_)
        intro M776 hP777 hF778 e779
        refine wk_inc3 r146_118 rfl (wk_goto r146_121 ?_)
        exact wp_fg (le_s (le_s (le_s (le_s (le_n le_0))))) (ih780 (300 - (v704 + 1)).toNat (by omega) M776 (v704 + 1) rfl hP777 hF778 (mUp_no e779 (mUp_no e762 (fil_no e756 (mUp_no e754 e710 (Or.inl (by decide))) (by omega)) (Or.inl (by decide))) (Or.inl (by omega))) (by omega) (by omega))
  exact wp_fg (le_s (le_n (le_s (le_s (le_s le_0))))) (c29_780 _ M16 0 rfl hP18 hF19 (fil_no e17 ((hQ14.at g_138_5 rfl).trans e9) (by decide)) (by omega) (by omega))
def fm_m145_174 : Nat := 0
/-- IslandHall$Crowd.everyone -/
theorem m145_174 {B : eB} (d : Nat) (M0 : Mm) (hP0 : Pw M0)  : Ct B (d + 1) 145 [R 174] M0 (qR fun z M => Pw M ∧ Fr fm_m145_174 M0 M ∧ 301 ≤ z ∧ z ≤ 301) := by
  refine ct_of (d := d + 0) (k := 0) (L := [some (R 174)]) rfl rfl rfl ?_
  have hF0 := Fr.rf fm_m145_174 M0
  generalize hQ : (qR fun z M => Pw M ∧ Fr fm_m145_174 M0 M ∧ 301 ≤ z ∧ z ≤ 301) = Q
  refine wk_al0 r145_0 (wk_getfr r145_1 fd_174_0 (br_174_0 hP0) (wk_getfr r145_4 fd_176_0 (br_176_0 hP0) (wk_c2 r145_7 (wk_raldb r145_9 ar_182 (by decide) (fun q0 q1 => ba_182 hP0 q0 q1) ?_))))
  subst hQ; exact wk_aret r145_10 (⟨rfl, _, rfl, hP0, hF0, by omega, by omega⟩)
def fm_m149_174_606 : Nat := 0
/-- IslandHall$Crowd.someOf -/
theorem m149_174_606 {B : eB} (d : Nat) (M0 : Mm) (hP0 : Pw M0)  : Ct B (d + 2) 149 [R 174, R 606] M0 (qI fun z M => Pw M ∧ Fr fm_m149_174_606 M0 M ∧ (-1) ≤ z ∧ z ≤ 299) := by
  refine ct_of (d := d + 1) (k := 1) (L := [some (R 174), some (R 606), none]) rfl rfl rfl ?_
  have hF0 := Fr.rf fm_m149_174_606 M0
  generalize hQ : (qI fun z M => Pw M ∧ Fr fm_m149_174_606 M0 M ∧ (-1) ≤ z ∧ z ≤ 299) = Q
  refine wk_c1 r149_0 (wk_is2 r149_1 rfl ?_)
  have c2_330 : ∀ (k330 : Nat) (v283 : Int), (5 - v283).toNat = k330 → 0 ≤ v283 → v283 ≤ 5 → Wp B (d + 1) 149 2 [some (R 174), some (R 606), some (I v283)] [] M0 Q := by
    refine lp_ind ?_
    intro k330 ih330 v283 hk330 h284 h285
    refine wk_il2 r149_2 (wk_al0 r149_3 (wk_getfr r149_4 fd_174_0 (br_174_0 hP0) (wk_getfb r149_7 fd_176_10 (bf_176_10 hP0) ?_)))
    intro v286 h288 h289 e287
    refine wk_icge r149_10 ⟨by omega, by omega⟩ ⟨by omega, by omega⟩ ?_ ?_
    · intro h290
      refine wk_c1 r149_49 ?_
      subst hQ; exact wk_iret r149_50 (⟨rfl, _, rfl, hP0, hF0, by omega, by omega⟩)
    · intro h291
      refine wk_al1 r149_13 (wk_il2 r149_14 (wk_laldb r149_15 (arF_606 (by omega) (by omega)) ⟨by omega, by omega⟩ (fun q0 q1 => ⟨(b4_606 hP0 (by omega) (by omega) q0 q1).1, (b4_606 hP0 (by omega) (by omega) q0 q1).2.1⟩) (by decide) ?_))
      intro n292 h294 h295 e293
      have h296 : v283 = 4 → n292 ≤ 17592186044415 := by have := b4_606 hP0 (a := 606) (i := v283) (by omega) (by omega) (by omega) (by omega); omega
      refine wk_c6 r149_16 ?_
      refine wk_lcmp r149_17 (by omega) (by omega) ?_ ?_
      · intro h297
        refine wk_ifeq r149_18 (by decide) ?_ ?_
        · intro h303
          refine wk_inc2 r149_43 rfl (wk_goto r149_46 ?_)
          exact wp_fg (le_s (le_s (le_s le_0))) (ih330 (5 - (v283 + 1)).toNat (by omega) (v283 + 1) rfl (by omega) (by omega))
        · intro h304
          exfalso
          omega
      · intro h298 v302 h299 h300 h301
        refine wk_ifeq r149_18 ⟨by omega, by omega⟩ ?_ ?_
        · intro h305
          exfalso
          omega
        · intro h306
          refine wk_c2 r149_21 (wk_il2 r149_23 (wk_imul r149_24 (wk_al1 r149_25 (wk_il2 r149_26 (wk_lald r149_27 (arF_606 (by omega) (by omega)) ⟨by omega, by omega⟩ e293 (wk_c7 r149_28 (wk_lxor r149_31 ?_)))))))
          intro n308 h309 h310
          refine wk_al1 r149_32 (wk_il2 r149_33 (wk_lald r149_34 (arF_606 (by omega) (by omega)) ⟨by omega, by omega⟩ e293 (wk_c6 r149_35 (wk_lsubb r149_36 (by omega) ?_))))
          intro n312 h314 h313
          refine wk_land r149_37 ?_
          intro n315 h316 h317 h318 h319
          refine wk_cs102_1 r149_38 rfl (m245 _ M0 n315 hP0 (by omega)) (cqI ?_)
          rintro v325 M320 ⟨hP321, hQ322, h326, h327, xh324⟩
          obtain rfl := Fr.same hQ322
          have h328 := tz_b (by omega) (by omega) h310 h313 h319
          have h329 : 64 * v283 + v325 ≤ 299 := by omega
          refine wk_iadd r149_41 ?_
          subst hQ; exact wk_iret r149_42 (⟨rfl, _, rfl, hP0, hF0, by omega, by omega⟩)
  exact wp_fg (le_s (le_s (le_s le_0))) (c2_330 _ 0 rfl (by omega) (by omega))
def fm_m150_174_f609 : Nat := 16333553612205046246241981156724874149888
/-- IslandHall$Crowd.tellsAtMost -/
theorem m150_174_f609 {B : eB} (d : Nat) (M0 : Mm) (a1 : Int) (p2 : Int) (hP0 : Pw M0) (ha1 : 609 ≤ a1) (hb1 : a1 ≤ 612) (l2 : 1 ≤ p2) (u2 : p2 ≤ 1) : Ct B (d + 3) 150 [R 174, R a1, I p2] M0 (qI fun z M => Pw M ∧ Fr fm_m150_174_f609 M0 M ∧ 0 ≤ z ∧ z ≤ 1) := by
  refine ct_of (d := d + 2) (k := 4) (L := [some (R 174), some (R a1), some (I p2), none, none, none, none]) rfl rfl rfl ?_
  have hF0 := Fr.rf fm_m150_174_f609 M0
  generalize hQ : (qI fun z M => Pw M ∧ Fr fm_m150_174_f609 M0 M ∧ 0 ≤ z ∧ z ≤ 1) = Q
  refine wk_al1 r150_0 (wk_c1 r150_1 (wk_al0 r150_2 (wk_getfr r150_3 fd_174_5 (br_174_5 hP0) (wk_c1 r150_6 (wk_al0 r150_7 (wk_getfi r150_8 fd_174_1 (br_174_1 hP0) (wk_copy110 r150_11 (arF_609 (by omega) (by omega)) (arF_606 (by omega) (by omega)) ⟨by decide, by decide, by decide, by omega, by omega, by omega⟩ rfl (wk_nc (fun i => t4_606 rfl rfl (by omega) (by omega) i) hP0 hF0 (fun i h0 h1 => by have := b4_609 hP0 (a := a1) (by omega) (by omega) h0 (by omega); exact (u4_606 (by omega) (by omega) ⟨by omega, by omega, by omega⟩)) ?_))))))))
  intro M1 hP2 hF3 e4
  refine wk_c1 r150_14 (wk_is3 r150_15 rfl ?_)
  have c16_322 : ∀ (k322 : Nat) (M261 : Mm) (v258 : Int), (1 - v258).toNat = k322 → Pw M261 → Fr fm_m150_174_f609 M0 M261 → 0 ≤ v258 → v258 ≤ 1 → Wp B (d + 2) 150 16 [some (R 174), none, some (I p2), some (I v258), none, none, none] [] M261 Q := by
    refine lp_ind ?_
    intro k322 ih322 M261 v258 hk322 hP262 hF263 h259 h260
    refine wk_il3 r150_16 (wk_il2 r150_17 ?_)
    refine wk_icge r150_18 ⟨by omega, by omega⟩ ⟨by omega, by omega⟩ ?_ ?_
    · intro h264
      refine wk_al0 r150_99 (wk_al0 r150_100 (wk_getfr r150_101 fd_174_5 (br_174_5 hP262) (wk_cv2 r150_104 kc_174_149 rfl (m149_174_606 _ M261 hP262) (cqI ?_))))
      rintro v269 M265 ⟨hP266, hQ267, h270, h271⟩
      obtain rfl := Fr.same hQ267
      refine wk_c1 r150_107 ?_
      refine wk_icne r150_108 ⟨by omega, by omega⟩ (by decide) ?_ ?_
      · intro h272
        refine wk_c1 r150_115 ?_
        subst hQ; exact wk_zret r150_116 (by decide) (⟨rfl, _, rfl, hP262, hF263, by omega, by omega⟩)
      · intro h273
        refine wk_c1 r150_111 (wk_goto r150_112 ?_)
        subst hQ; exact wk_zret r150_116 (by decide) (⟨rfl, _, rfl, hP262, hF263, by omega, by omega⟩)
    · intro h274
      refine wk_al0 r150_21 (wk_al0 r150_22 (wk_getfr r150_23 fd_174_5 (br_174_5 hP262) (wk_cv2 r150_26 kc_174_149 rfl (m149_174_606 _ M261 hP262) (cqI ?_))))
      rintro v279 M275 ⟨hP276, hQ277, h280, h281⟩
      obtain rfl := Fr.same hQ277
      refine wk_is4 r150_29 rfl (wk_il4 r150_31 (wk_c1 r150_33 ?_))
      refine wk_icne r150_34 ⟨by omega, by omega⟩ (by decide) ?_ ?_
      · intro h282
        refine wk_al0 r150_39 (wk_getfr r150_40 fd_174_3 (br_174_3 hP262) (wk_al0 r150_43 (wk_getfr r150_44 fd_174_2 (br_174_2 hP262) (wk_il4 r150_47 (wk_ialdb r150_49 ar_304 ⟨by omega, by omega⟩ (fun q0 q1 => ba_304 hP262 q0 q1) ?_)))))
        intro v283 h285 h286 e284
        refine wk_raldb r150_50 ar_305 ⟨by omega, by omega⟩ (fun q0 q1 => ba_305 hP262 q0 q1) (wk_as5 r150_51 rfl (wk_c1 r150_53 (wk_is6 r150_54 rfl ?_)))
        have c56_320 : ∀ (k320 : Nat) (M290 : Mm) (v287 : Int), (5 - v287).toNat = k320 → Pw M290 → Fr fm_m150_174_f609 M0 M290 → 0 ≤ v287 → v287 ≤ 5 → Wp B (d + 2) 150 56 [some (R 174), none, some (I p2), some (I v258), none, some (R (306 + v283)), some (I v287)] [] M290 Q := by
          refine lp_ind ?_
          intro k320 ih320 M290 v287 hk320 hP291 hF292 h288 h289
          refine wk_il6 r150_56 (wk_al0 r150_58 (wk_getfr r150_59 fd_174_0 (br_174_0 hP291) (wk_getfb r150_62 fd_176_10 (bf_176_10 hP291) ?_)))
          intro v293 h295 h296 e294
          refine wk_icge r150_65 ⟨by omega, by omega⟩ ⟨by omega, by omega⟩ ?_ ?_
          · intro h297
            refine wk_inc3 r150_93 rfl (wk_goto r150_96 ?_)
            exact wp_fg (le_s (le_s (le_s (le_s (le_s (le_n (le_n le_0))))))) (ih322 (1 - (v258 + 1)).toNat (by omega) M290 (v258 + 1) rfl hP291 hF292 (by omega) (by omega))
          · intro h298
            refine wk_al0 r150_68 (wk_getfr r150_69 fd_174_5 (br_174_5 hP291) (wk_il6 r150_72 (wk_dup2 r150_74 (wk_laldb r150_75 (arF_606 (by omega) (by omega)) ⟨by omega, by omega⟩ (fun q0 q1 => ⟨(b4_606 hP291 (by omega) (by omega) q0 q1).1, (b4_606 hP291 (by omega) (by omega) q0 q1).2.1⟩) (by decide) ?_))))
            intro n299 h301 h302 e300
            have h303 : v287 = 4 → n299 ≤ 17592186044415 := by have := b4_606 hP291 (a := 606) (i := v287) (by omega) (by omega) (by omega) (by omega); omega
            refine wk_al5 r150_76 (wk_il6 r150_78 (wk_laldb r150_80 (arF_306 (by omega) (by omega)) ⟨by omega, by omega⟩ (fun q0 q1 => baF_306 hP291 (by omega) (by omega) q0 q1) (by decide) ?_))
            intro n304 h306 h307 e305
            refine wk_c7 r150_81 (wk_lxor r150_84 ?_)
            intro n308 h309 h310
            refine wk_land r150_85 ?_
            intro n311 h312 h313 h314 h315
            refine wk_last r150_86 (arF_606 (by omega) (by omega)) ⟨by omega, by omega⟩ (wk_nwt (t4_606 rfl rfl (by omega) (by omega) _) hP291 hF292 (u4_606 (by omega) (by omega) ⟨by omega, by omega, by omega⟩) ?_)
            intro M316 hP317 hF318 e319
            refine wk_inc6 r150_87 rfl (wk_goto r150_90 ?_)
            exact wp_fg (le_s (le_s (le_s (le_s (le_s (le_s (le_s le_0))))))) (ih320 (5 - (v287 + 1)).toNat (by omega) M316 (v287 + 1) rfl hP317 hF318 (by omega) (by omega))
        exact wp_fg (le_s (le_s (le_s (le_s (le_n (le_s (le_s le_0))))))) (c56_320 _ M261 0 rfl hP262 hF263 (by omega) (by omega))
      · intro h321
        refine wk_c1 r150_37 ?_
        subst hQ; exact wk_zret r150_38 (by decide) (⟨rfl, _, rfl, hP262, hF263, by omega, by omega⟩)
  exact wp_fg (le_s (le_n (le_s (le_s (le_s (le_s (le_s le_0))))))) (c16_322 _ M1 0 rfl hP2 hF3 (by omega) (by omega))
def fm_m150_174_f609v1 : Nat := 16333553612205046246241981156724874149888
/-- IslandHall$Crowd.tellsAtMost -/
theorem m150_174_f609v1 {B : eB} (d : Nat) (M0 : Mm) (a1 : Int) (p2 : Int) (hP0 : Pw M0) (ha1 : 609 ≤ a1) (hb1 : a1 ≤ 612) (l2 : 1 ≤ p2) (u2 : p2 ≤ 2) : Ct B (d + 3) 150 [R 174, R a1, I p2] M0 (qI fun z M => Pw M ∧ Fr fm_m150_174_f609v1 M0 M ∧ 0 ≤ z ∧ z ≤ 1) := by
  refine ct_of (d := d + 2) (k := 4) (L := [some (R 174), some (R a1), some (I p2), none, none, none, none]) rfl rfl rfl ?_
  have hF0 := Fr.rf fm_m150_174_f609v1 M0
  generalize hQ : (qI fun z M => Pw M ∧ Fr fm_m150_174_f609v1 M0 M ∧ 0 ≤ z ∧ z ≤ 1) = Q
  refine wk_al1 r150_0 (wk_c1 r150_1 (wk_al0 r150_2 (wk_getfr r150_3 fd_174_5 (br_174_5 hP0) (wk_c1 r150_6 (wk_al0 r150_7 (wk_getfi r150_8 fd_174_1 (br_174_1 hP0) (wk_copy110 r150_11 (arF_609 (by omega) (by omega)) (arF_606 (by omega) (by omega)) ⟨by decide, by decide, by decide, by omega, by omega, by omega⟩ rfl (wk_nc (fun i => t4_606 rfl rfl (by omega) (by omega) i) hP0 hF0 (fun i h0 h1 => by have := b4_609 hP0 (a := a1) (by omega) (by omega) h0 (by omega); exact (u4_606 (by omega) (by omega) ⟨by omega, by omega, by omega⟩)) ?_))))))))
  intro M1 hP2 hF3 e4
  refine wk_c1 r150_14 (wk_is3 r150_15 rfl ?_)
  have c16_386 : ∀ (k386 : Nat) (M325 : Mm) (v322 : Int), (2 - v322).toNat = k386 → Pw M325 → Fr fm_m150_174_f609v1 M0 M325 → 0 ≤ v322 → v322 ≤ 2 → Wp B (d + 2) 150 16 [some (R 174), none, some (I p2), some (I v322), none, none, none] [] M325 Q := by
    refine lp_ind ?_
    intro k386 ih386 M325 v322 hk386 hP326 hF327 h323 h324
    refine wk_il3 r150_16 (wk_il2 r150_17 ?_)
    refine wk_icge r150_18 ⟨by omega, by omega⟩ ⟨by omega, by omega⟩ ?_ ?_
    · intro h328
      refine wk_al0 r150_99 (wk_al0 r150_100 (wk_getfr r150_101 fd_174_5 (br_174_5 hP326) (wk_cv2 r150_104 kc_174_149 rfl (m149_174_606 _ M325 hP326) (cqI ?_))))
      rintro v333 M329 ⟨hP330, hQ331, h334, h335⟩
      obtain rfl := Fr.same hQ331
      refine wk_c1 r150_107 ?_
      refine wk_icne r150_108 ⟨by omega, by omega⟩ (by decide) ?_ ?_
      · intro h336
        refine wk_c1 r150_115 ?_
        subst hQ; exact wk_zret r150_116 (by decide) (⟨rfl, _, rfl, hP326, hF327, by omega, by omega⟩)
      · intro h337
        refine wk_c1 r150_111 (wk_goto r150_112 ?_)
        subst hQ; exact wk_zret r150_116 (by decide) (⟨rfl, _, rfl, hP326, hF327, by omega, by omega⟩)
    · intro h338
      refine wk_al0 r150_21 (wk_al0 r150_22 (wk_getfr r150_23 fd_174_5 (br_174_5 hP326) (wk_cv2 r150_26 kc_174_149 rfl (m149_174_606 _ M325 hP326) (cqI ?_))))
      rintro v343 M339 ⟨hP340, hQ341, h344, h345⟩
      obtain rfl := Fr.same hQ341
      refine wk_is4 r150_29 rfl (wk_il4 r150_31 (wk_c1 r150_33 ?_))
      refine wk_icne r150_34 ⟨by omega, by omega⟩ (by decide) ?_ ?_
      · intro h346
        refine wk_al0 r150_39 (wk_getfr r150_40 fd_174_3 (br_174_3 hP326) (wk_al0 r150_43 (wk_getfr r150_44 fd_174_2 (br_174_2 hP326) (wk_il4 r150_47 (wk_ialdb r150_49 ar_304 ⟨by omega, by omega⟩ (fun q0 q1 => ba_304 hP326 q0 q1) ?_)))))
        intro v347 h349 h350 e348
        refine wk_raldb r150_50 ar_305 ⟨by omega, by omega⟩ (fun q0 q1 => ba_305 hP326 q0 q1) (wk_as5 r150_51 rfl (wk_c1 r150_53 (wk_is6 r150_54 rfl ?_)))
        have c56_384 : ∀ (k384 : Nat) (M354 : Mm) (v351 : Int), (5 - v351).toNat = k384 → Pw M354 → Fr fm_m150_174_f609v1 M0 M354 → 0 ≤ v351 → v351 ≤ 5 → Wp B (d + 2) 150 56 [some (R 174), none, some (I p2), some (I v322), none, some (R (306 + v347)), some (I v351)] [] M354 Q := by
          refine lp_ind ?_
          intro k384 ih384 M354 v351 hk384 hP355 hF356 h352 h353
          refine wk_il6 r150_56 (wk_al0 r150_58 (wk_getfr r150_59 fd_174_0 (br_174_0 hP355) (wk_getfb r150_62 fd_176_10 (bf_176_10 hP355) ?_)))
          intro v357 h359 h360 e358
          refine wk_icge r150_65 ⟨by omega, by omega⟩ ⟨by omega, by omega⟩ ?_ ?_
          · intro h361
            refine wk_inc3 r150_93 rfl (wk_goto r150_96 ?_)
            exact wp_fg (le_s (le_s (le_s (le_s (le_s (le_n (le_n le_0))))))) (ih386 (2 - (v322 + 1)).toNat (by omega) M354 (v322 + 1) rfl hP355 hF356 (by omega) (by omega))
          · intro h362
            refine wk_al0 r150_68 (wk_getfr r150_69 fd_174_5 (br_174_5 hP355) (wk_il6 r150_72 (wk_dup2 r150_74 (wk_laldb r150_75 (arF_606 (by omega) (by omega)) ⟨by omega, by omega⟩ (fun q0 q1 => ⟨(b4_606 hP355 (by omega) (by omega) q0 q1).1, (b4_606 hP355 (by omega) (by omega) q0 q1).2.1⟩) (by decide) ?_))))
            intro n363 h365 h366 e364
            have h367 : v351 = 4 → n363 ≤ 17592186044415 := by have := b4_606 hP355 (a := 606) (i := v351) (by omega) (by omega) (by omega) (by omega); omega
            refine wk_al5 r150_76 (wk_il6 r150_78 (wk_laldb r150_80 (arF_306 (by omega) (by omega)) ⟨by omega, by omega⟩ (fun q0 q1 => baF_306 hP355 (by omega) (by omega) q0 q1) (by decide) ?_))
            intro n368 h370 h371 e369
            refine wk_c7 r150_81 (wk_lxor r150_84 ?_)
            intro n372 h373 h374
            refine wk_land r150_85 ?_
            intro n375 h376 h377 h378 h379
            refine wk_last r150_86 (arF_606 (by omega) (by omega)) ⟨by omega, by omega⟩ (wk_nwt (t4_606 rfl rfl (by omega) (by omega) _) hP355 hF356 (u4_606 (by omega) (by omega) ⟨by omega, by omega, by omega⟩) ?_)
            intro M380 hP381 hF382 e383
            refine wk_inc6 r150_87 rfl (wk_goto r150_90 ?_)
            exact wp_fg (le_s (le_s (le_s (le_s (le_s (le_s (le_s le_0))))))) (ih384 (5 - (v351 + 1)).toNat (by omega) M380 (v351 + 1) rfl hP381 hF382 (by omega) (by omega))
        exact wp_fg (le_s (le_s (le_s (le_s (le_n (le_s (le_s le_0))))))) (c56_384 _ M325 0 rfl hP326 hF327 (by omega) (by omega))
      · intro h385
        refine wk_c1 r150_37 ?_
        subst hQ; exact wk_zret r150_38 (by decide) (⟨rfl, _, rfl, hP326, hF327, by omega, by omega⟩)
  exact wp_fg (le_s (le_n (le_s (le_s (le_s (le_s (le_s le_0))))))) (c16_386 _ M1 0 rfl hP2 hF3 (by omega) (by omega))
def fm_m190_176 : Nat := 0
/-- IslandHall$Realm.freeRow -/
theorem m190_176 {B : eB} (d : Nat) (M0 : Mm) (p1 : Int) (hP0 : Pw M0) (l1 : 0 ≤ p1) (u1 : p1 ≤ 6) : Ct B (d + 1) 190 [R 176, I p1] M0 (qR fun z M => Pw M ∧ Fr fm_m190_176 M0 M ∧ 187 ≤ z ∧ z ≤ 217) := by
  refine ct_of (d := d + 0) (k := 0) (L := [some (R 176), some (I p1)]) rfl rfl rfl ?_
  have hF0 := Fr.rf fm_m190_176 M0
  generalize hQ : (qR fun z M => Pw M ∧ Fr fm_m190_176 M0 M ∧ 187 ≤ z ∧ z ≤ 217) = Q
  refine wk_al0 r190_0 (wk_getfr r190_1 fd_176_0 (br_176_0 hP0) (wk_c1 r190_4 (wk_il1 r190_5 (wk_c1 r190_6 (wk_imul r190_7 (wk_iadd r190_8 (wk_c1 r190_9 (wk_iadd r190_10 (wk_raldb r190_11 ar_182 ⟨by omega, by omega⟩ (fun q0 q1 => ba_182 hP0 q0 q1) ?_)))))))))
  subst hQ; exact wk_aret r190_12 (⟨rfl, _, rfl, hP0, hF0, by omega, by omega⟩)
def fm_m208_176 : Nat := 0
/-- IslandHall$Realm.yesRow -/
theorem m208_176 {B : eB} (d : Nat) (M0 : Mm) (p1 : Int) (hP0 : Pw M0) (l1 : (-1) ≤ p1) (u1 : p1 ≤ (-1)) : Ct B (d + 1) 208 [R 176, I p1] M0 (qR fun z M => Pw M ∧ Fr fm_m208_176 M0 M ∧ 301 ≤ z ∧ z ≤ 301) := by
  refine ct_of (d := d + 0) (k := 0) (L := [some (R 176), some (I p1)]) rfl rfl rfl ?_
  have hF0 := Fr.rf fm_m208_176 M0
  generalize hQ : (qR fun z M => Pw M ∧ Fr fm_m208_176 M0 M ∧ 301 ≤ z ∧ z ≤ 301) = Q
  refine wk_al0 r208_0 (wk_getfr r208_1 fd_176_0 (br_176_0 hP0) (wk_il1 r208_4 (wk_c1 r208_5 ?_)))
  refine wk_icne r208_6 ⟨by omega, by omega⟩ (by decide) ?_ ?_
  · intro h1
    exfalso
    omega
  · intro h2
    refine wk_c2 r208_9 (wk_goto r208_11 (wk_raldb r208_18 ar_182 (by decide) (fun q0 q1 => ba_182 hP0 q0 q1) ?_))
    subst hQ; exact wk_aret r208_19 (⟨rfl, _, rfl, hP0, hF0, by omega, by omega⟩)
def fm_m193_176 : Nat := 0
/-- IslandHall$Realm.honestRow -/
theorem m193_176 {B : eB} (d : Nat) (M0 : Mm) (p1 : Int) (hP0 : Pw M0) (l1 : 0 ≤ p1) (u1 : p1 ≤ 6) : Ct B (d + 1) 193 [R 176, I p1] M0 (qR fun z M => Pw M ∧ Fr fm_m193_176 M0 M ∧ 271 ≤ z ∧ z ≤ 284) := by
  refine ct_of (d := d + 0) (k := 0) (L := [some (R 176), some (I p1)]) rfl rfl rfl ?_
  have hF0 := Fr.rf fm_m193_176 M0
  generalize hQ : (qR fun z M => Pw M ∧ Fr fm_m193_176 M0 M ∧ 271 ≤ z ∧ z ≤ 284) = Q
  refine wk_al0 r193_0 (wk_getfr r193_1 fd_176_0 (br_176_0 hP0) (wk_c2 r193_4 (wk_c1 r193_6 (wk_il1 r193_7 (wk_imul r193_8 (wk_iadd r193_9 (wk_al0 r193_10 (wk_getfr r193_11 fd_176_3 (br_176_3 hP0) (wk_il1 r193_14 (wk_ialdb r193_15 ar_177 ⟨by omega, by omega⟩ (fun q0 q1 => ba_177 hP0 q0 q1) ?_))))))))))
  intro v1 h3 h4 e2
  refine wk_iadd r193_16 (wk_raldb r193_17 ar_182 ⟨by omega, by omega⟩ (fun q0 q1 => ba_182 hP0 q0 q1) ?_)
  subst hQ; exact wk_aret r193_18 (⟨rfl, _, rfl, hP0, hF0, by omega, by omega⟩)
