/-! ===== written by program (wip/layer4) ===== -/
def fm_m8050_739 : Nat := 414588446143397336432733908100009779012786077071256682959470592
/-- IslandHallModel.begins -/
theorem m8050_739 {B : eB} (d : Nat) (M0 : Mm) (p1 : Int) (x739_27 : Int) (x739_29 : Int) (T : Int → Int) (hP0 : Pw M0) (l1 : (-2147483648) ≤ p1) (u1 : p1 ≤ 2147483647) (ex739_27 : M0 739 27 = x739_27) (lx739_27 : 0 ≤ x739_27) (ux739_27 : x739_27 ≤ 500) (ex739_29 : M0 739 29 = x739_29) (lx739_29 : (-1) ≤ x739_29) (ux739_29 : x739_29 ≤ 501) (xp0 : ∀ k : Int, 0 ≤ k → k < p1 → M0 755 k = T k) : Ct B (d + 3) 50 [R 739, I p1] M0 (qI fun z M => Pw M ∧ Fr fm_m8050_739 M0 M ∧ 0 ≤ z ∧ z ≤ 1 ∧ 0 ≤ x739_27 + (-1) * (M 739 27) ∧ 0 ≤ M 739 29 + 1 ∧ 0 ≤ M 739 0 ∧ (z = 1 → 0 ≤ (-1) * (M 739 28)) ∧ (z = 1 → 0 ≤ (-1) * (M 739 45)) ∧ (z = 1 → 0 ≤ M 739 30 + (-1) * (M 739 31)) ∧ (z = 1 → 0 ≤ M 739 31 + (-1) * (M 739 33) + (-1) * (M 739 34)) ∧ (z = 1 → 0 ≤ (-1) * (M 739 31) + M 739 33 + M 739 34) ∧ (z = 1 → 0 ≤ 4 * (M 739 34) + (-1) * (M 739 32)) ∧ ((z = 1 ∧ 0 ≤ p1 ∧ p1 ≤ x739_27 ∧ M 739 27 = 0) ∨ (z = 0 ∧ (p1 < 0 ∨ x739_27 < p1) ∧ M 739 27 = x739_27)) ∧ (z = 1 → TK M) ∧ ((z = 1 ∧ TXQ T M ∧ TTP T M ∧ M 739 33 = sk T p1 0 ∧ M 739 30 = p1 ∧ M 739 29 = -1 ∧ M 739 28 = 0 ∧ M 739 0 = 0) ∨ (z = 0 ∧ (p1 < 0 ∨ x739_27 < p1) ∧ M 739 0 = 1 ∧ M 739 29 = x739_29))) := by
  refine ct_of (d := d + 2) (k := 0) (L := [some (R 739), some (I p1)]) rfl rfl rfl ?_
  have hF0 := Fr.rf fm_m8050_739 M0
  generalize hQ : (qI fun z M => Pw M ∧ Fr fm_m8050_739 M0 M ∧ 0 ≤ z ∧ z ≤ 1 ∧ 0 ≤ x739_27 + (-1) * (M 739 27) ∧ 0 ≤ M 739 29 + 1 ∧ 0 ≤ M 739 0 ∧ (z = 1 → 0 ≤ (-1) * (M 739 28)) ∧ (z = 1 → 0 ≤ (-1) * (M 739 45)) ∧ (z = 1 → 0 ≤ M 739 30 + (-1) * (M 739 31)) ∧ (z = 1 → 0 ≤ M 739 31 + (-1) * (M 739 33) + (-1) * (M 739 34)) ∧ (z = 1 → 0 ≤ (-1) * (M 739 31) + M 739 33 + M 739 34) ∧ (z = 1 → 0 ≤ 4 * (M 739 34) + (-1) * (M 739 32)) ∧ ((z = 1 ∧ 0 ≤ p1 ∧ p1 ≤ x739_27 ∧ M 739 27 = 0) ∨ (z = 0 ∧ (p1 < 0 ∨ x739_27 < p1) ∧ M 739 27 = x739_27)) ∧ (z = 1 → TK M) ∧ ((z = 1 ∧ TXQ T M ∧ TTP T M ∧ M 739 33 = sk T p1 0 ∧ M 739 30 = p1 ∧ M 739 29 = -1 ∧ M 739 28 = 0 ∧ M 739 0 = 0) ∨ (z = 0 ∧ (p1 < 0 ∨ x739_27 < p1) ∧ M 739 0 = 1 ∧ M 739 29 = x739_29))) = Q
  refine wk_al0 r50_0 (wk_c1 r50_1 (wk_putfi81 r50_2 fd_739_0 (wk_nw g_739_0 rfl hP0 hF0 (uf_739_0 (by decide)) ?_)))
  intro M1 hP2 hF3 e4
  refine wk_al0 r50_5 (wk_il1 r50_6 ?_)
  refine wk_iflt r50_7 ⟨by omega, by omega⟩ ?_ ?_
  · intro h5
    refine wk_c1 r50_22 (wk_c1 r50_23 (wk_cv3 r50_24 kc_739_123 rfl (m8123_739 _ M1 0 1 0 hP2 (by decide) (by decide) (by decide) (by decide) (mUp_at e4) (by first | with_reducible assumption | omega) (by first | with_reducible assumption | omega)) (cqI ?_)))
    rintro v14 M6 ⟨hP7, hQ8, h15, h16, h10, h11, xh12, xh13⟩
    have hF9 : Fr fm_m8050_739 M0 M6 := hF3.tr hQ8 rfl
    obtain ⟨v17, e18⟩ : ∃ v, M6 739 0 = v := ⟨_, rfl⟩
    have h19 := (bf_739_0 hP7).1; rw [e18] at h19
    have h20 := (bf_739_0 hP7).2; rw [e18] at h20
    have h21 := xh12 (mUp_at e4)
    have h22 := (mUp_at e4)
    refine wk_ifne r50_27 ⟨by omega, by omega⟩ ?_ ?_
    · intro h23
      exfalso
      omega
    · intro h24
      refine wk_c1 r50_30 ?_
      subst hQ; exact wk_zret r50_31 (by decide) (⟨rfl, _, rfl, hP7, hF9, by omega, by omega, by have := ((hQ8.at g_739_27 rfl).trans (mUp_no e4 ex739_27 (Or.inr (by decide)))); omega, by have := ((hQ8.at g_739_29 rfl).trans (mUp_no e4 ex739_29 (Or.inr (by decide)))); omega, by have := e18; omega, by omega, by omega, by omega, by omega, by omega, by omega, by have := ((hQ8.at g_739_27 rfl).trans (mUp_no e4 ex739_27 (Or.inr (by decide)))); omega, fun q => absurd q (by decide), Or.inr ⟨by omega, by omega, by have := e18; omega, ((hQ8.at g_739_29 rfl).trans (mUp_no e4 ex739_29 (Or.inr (by decide))))⟩⟩)
  · intro h25
    refine wk_il1 r50_10 (wk_al0 r50_11 (wk_getfi r50_12 fd_739_27 (mUp_no e4 ex739_27 (Or.inr (by decide))) ?_))
    refine wk_icgt r50_15 ⟨by omega, by omega⟩ ⟨by omega, by omega⟩ ?_ ?_
    · intro h26
      refine wk_c1 r50_22 (wk_c1 r50_23 (wk_cv3 r50_24 kc_739_123 rfl (m8123_739 _ M1 0 1 0 hP2 (by decide) (by decide) (by decide) (by decide) (mUp_at e4) (by first | with_reducible assumption | omega) (by first | with_reducible assumption | omega)) (cqI ?_)))
      rintro v35 M27 ⟨hP28, hQ29, h36, h37, h31, h32, xh33, xh34⟩
      have hF30 : Fr fm_m8050_739 M0 M27 := hF3.tr hQ29 rfl
      obtain ⟨v38, e39⟩ : ∃ v, M27 739 0 = v := ⟨_, rfl⟩
      have h40 := (bf_739_0 hP28).1; rw [e39] at h40
      have h41 := (bf_739_0 hP28).2; rw [e39] at h41
      have h42 := xh33 (mUp_at e4)
      have h43 := (mUp_at e4)
      refine wk_ifne r50_27 ⟨by omega, by omega⟩ ?_ ?_
      · intro h44
        exfalso
        omega
      · intro h45
        refine wk_c1 r50_30 ?_
        subst hQ; exact wk_zret r50_31 (by decide) (⟨rfl, _, rfl, hP28, hF30, by omega, by omega, by have := ((hQ29.at g_739_27 rfl).trans (mUp_no e4 ex739_27 (Or.inr (by decide)))); omega, by have := ((hQ29.at g_739_29 rfl).trans (mUp_no e4 ex739_29 (Or.inr (by decide)))); omega, by have := e39; omega, by omega, by omega, by omega, by omega, by omega, by omega, by have := ((hQ29.at g_739_27 rfl).trans (mUp_no e4 ex739_27 (Or.inr (by decide)))); omega, fun q => absurd q (by decide), Or.inr ⟨by omega, by omega, by have := e39; omega, ((hQ29.at g_739_29 rfl).trans (mUp_no e4 ex739_29 (Or.inr (by decide))))⟩⟩)
    · intro h46
      refine wk_c1 r50_18 (wk_goto r50_19 (wk_c1 r50_23 (wk_cv3 r50_24 kc_739_123 rfl (m8123_739v1 _ M1 1 1 0 hP2 (by decide) (by decide) (by decide) (by decide) (mUp_at e4) (by first | with_reducible assumption | omega) (by first | with_reducible assumption | omega)) (cqI ?_))))
      rintro v55 M47 ⟨hP48, hQ49, h56, h57, h51, h52, xh53, xh54⟩
      obtain rfl := Fr.same hQ49
      have e58 := (mUp_at e4)
      have h59 := xh53 (mUp_at e4)
      have h60 := (mUp_at e4)
      refine wk_ifne r50_27 ⟨by omega, by omega⟩ ?_ ?_
      · intro h61
        replace h52 := h52 (z1_of h56 h57 h61)
        refine wk_al0 r50_32 (wk_c1 r50_33 (wk_putfi81 r50_34 fd_739_27 (wk_nw g_739_27 rfl hP2 hF3 (uf_739_27 (by decide)) ?_)))
        intro M62 hP63 hF64 e65
        refine wk_al0 r50_37 (wk_c1 r50_38 (wk_putfi81 r50_39 fd_739_29 (wk_nw g_739_29 rfl hP63 hF64 (uf_739_29 (by decide)) ?_)))
        intro M66 hP67 hF68 e69
        refine wk_al0 r50_42 (wk_c1 r50_43 (wk_putfi81 r50_44 fd_739_28 (wk_nw g_739_28 rfl hP67 hF68 (uf_739_28 (by decide)) ?_)))
        intro M70 hP71 hF72 e73
        refine wk_al0 r50_47 (wk_il1 r50_48 (wk_putfi81 r50_49 fd_739_30 (wk_nw g_739_30 rfl hP71 hF72 (uf_739_30 ⟨by omega, by omega⟩) ?_)))
        intro M74 hP75 hF76 e77
        refine wk_al0 r50_52 (wk_c1 r50_53 (wk_putfi81 r50_54 fd_739_31 (wk_nw g_739_31 rfl hP75 hF76 (uf_739_31 (by decide)) ?_)))
        intro M78 hP79 hF80 e81
        refine wk_al0 r50_57 (wk_c1 r50_58 (wk_putfi81 r50_59 fd_739_45 (wk_nw g_739_45 rfl hP79 hF80 (uf_739_45 (by decide)) ?_)))
        intro M82 hP83 hF84 e85
        have pr86 : TXQ T M82 := fun k a b => by rw [(mUp_no e85 (mUp_no e81 (mUp_at e77) (Or.inr (by decide))) (Or.inr (by decide)))] at b; rw [hF84.at (ga_755 k) rfl]; exact xp0 k a b
        refine wk_al0 r50_62 (wk_cv1 r50_63 kc_739_76 rfl (m8076_739 _ M82 p1 0 T hP83 (mUp_no e85 (mUp_no e81 (mUp_at e77) (Or.inr (by decide))) (Or.inr (by decide))) (by first | with_reducible assumption | omega) (by first | with_reducible assumption | omega) (mUp_no e85 (mUp_at e81) (Or.inr (by decide))) (by first | with_reducible assumption | omega) (by first | with_reducible assumption | omega) (by omega) pr86) (cqV ?_))
        rintro M87 ⟨hP88, hQ89, h91, h92, h93, h94, h95, xh96, pr97, pr98, pr99⟩
        have hF90 : Fr fm_m8050_739 M0 M87 := hF84.tr hQ89 rfl
        have e100 := ((hQ89.at g_739_30 rfl).trans (mUp_no e85 (mUp_no e81 (mUp_at e77) (Or.inr (by decide))) (Or.inr (by decide))))
        obtain ⟨v101, e102⟩ : ∃ v, M87 739 31 = v := ⟨_, rfl⟩
        have h103 := (bf_739_31 hP88).1; rw [e102] at h103
        have h104 := (bf_739_31 hP88).2; rw [e102] at h104
        obtain ⟨v105, e106⟩ : ∃ v, M87 739 33 = v := ⟨_, rfl⟩
        have h107 := (bf_739_33 hP88).1; rw [e106] at h107
        have h108 := (bf_739_33 hP88).2; rw [e106] at h108
        obtain ⟨v109, e110⟩ : ∃ v, M87 739 34 = v := ⟨_, rfl⟩
        have h111 := (bf_739_34 hP88).1; rw [e110] at h111
        have h112 := (bf_739_34 hP88).2; rw [e110] at h112
        obtain ⟨v113, e114⟩ : ∃ v, M87 739 32 = v := ⟨_, rfl⟩
        have h115 := (bf_739_32 hP88).1; rw [e114] at h115
        have h116 := (bf_739_32 hP88).2; rw [e114] at h116
        refine wk_c1 r50_66 ?_
        subst hQ; exact wk_zret r50_67 (by decide) (⟨rfl, _, rfl, hP88, hF90, by omega, by omega, by have := ((hQ89.at g_739_27 rfl).trans (mUp_no e85 (mUp_no e81 (mUp_no e77 (mUp_no e73 (mUp_no e69 (mUp_at e65) (Or.inr (by decide))) (Or.inr (by decide))) (Or.inr (by decide))) (Or.inr (by decide))) (Or.inr (by decide)))); omega, by have := ((hQ89.at g_739_29 rfl).trans (mUp_no e85 (mUp_no e81 (mUp_no e77 (mUp_no e73 (mUp_at e69) (Or.inr (by decide))) (Or.inr (by decide))) (Or.inr (by decide))) (Or.inr (by decide)))); omega, by have := ((hQ89.at g_739_0 rfl).trans (mUp_no e85 (mUp_no e81 (mUp_no e77 (mUp_no e73 (mUp_no e69 (mUp_no e65 (mUp_at e4) (Or.inr (by decide))) (Or.inr (by decide))) (Or.inr (by decide))) (Or.inr (by decide))) (Or.inr (by decide))) (Or.inr (by decide)))); omega, by have := ((hQ89.at g_739_28 rfl).trans (mUp_no e85 (mUp_no e81 (mUp_no e77 (mUp_at e73) (Or.inr (by decide))) (Or.inr (by decide))) (Or.inr (by decide)))); omega, by have := ((hQ89.at g_739_45 rfl).trans (mUp_at e85)); omega, by have := ((hQ89.at g_739_30 rfl).trans (mUp_no e85 (mUp_no e81 (mUp_at e77) (Or.inr (by decide))) (Or.inr (by decide)))); have := e102; omega, by have := e102; have := e106; have := e110; omega, by have := e102; have := e106; have := e110; omega, by have := e110; have := e114; omega, by have := ((hQ89.at g_739_27 rfl).trans (mUp_no e85 (mUp_no e81 (mUp_no e77 (mUp_no e73 (mUp_no e69 (mUp_at e65) (Or.inr (by decide))) (Or.inr (by decide))) (Or.inr (by decide))) (Or.inr (by decide))) (Or.inr (by decide)))); omega, fun _ => pr97, Or.inl ⟨by omega, pr98, pr99, by have q9 := xh96; rw [show p1 = p1 by omega] at q9; exact q9, ((hQ89.at g_739_30 rfl).trans (mUp_no e85 (mUp_no e81 (mUp_at e77) (Or.inr (by decide))) (Or.inr (by decide)))), ((hQ89.at g_739_29 rfl).trans (mUp_no e85 (mUp_no e81 (mUp_no e77 (mUp_no e73 (mUp_at e69) (Or.inr (by decide))) (Or.inr (by decide))) (Or.inr (by decide))) (Or.inr (by decide)))), ((hQ89.at g_739_28 rfl).trans (mUp_no e85 (mUp_no e81 (mUp_no e77 (mUp_at e73) (Or.inr (by decide))) (Or.inr (by decide))) (Or.inr (by decide)))), (((hQ89.at g_739_0 rfl).trans (mUp_no e85 (mUp_no e81 (mUp_no e77 (mUp_no e73 (mUp_no e69 (mUp_no e65 (mUp_at e4) (Or.inr (by decide))) (Or.inr (by decide))) (Or.inr (by decide))) (Or.inr (by decide))) (Or.inr (by decide))) (Or.inr (by decide))))).trans (by omega)⟩⟩)
      · intro h117
        clear h52
        refine wk_c1 r50_30 ?_
        subst hQ; exact wk_zret r50_31 (by decide) (⟨rfl, _, rfl, hP2, hF3, by omega, by omega, by have := (mUp_no e4 ex739_27 (Or.inr (by decide))); omega, by have := (mUp_no e4 ex739_29 (Or.inr (by decide))); omega, by have := (mUp_at e4); omega, by omega, by omega, by omega, by omega, by omega, by omega, by have := (mUp_no e4 ex739_27 (Or.inr (by decide))); omega, fun q => absurd q (by decide), Or.inr ⟨by omega, by omega, by have := (mUp_at e4); omega, (mUp_no e4 ex739_29 (Or.inr (by decide)))⟩⟩)
def fm_m8084_739 : Nat := 0
/-- IslandHallModel.isGood -/
theorem m8084_739 {B : eB} (d : Nat) (M0 : Mm) (x739_28 : Int) (hP0 : Pw M0) (ex739_28 : M0 739 28 = x739_28) (lx739_28 : 0 ≤ x739_28) (ux739_28 : x739_28 ≤ 6) : Ct B (d + 1) 84 [R 739] M0 (qI fun z M => Pw M ∧ Fr fm_m8084_739 M0 M ∧ 0 ≤ z ∧ z ≤ 1 ∧ 0 ≤ 6 + (-6) * z + (-1) * (M 739 28) ∧ 0 ≤ z + M 739 28 + (-1)) := by
  refine ct_of (d := d + 0) (k := 0) (L := [some (R 739)]) rfl rfl rfl ?_
  have hF0 := Fr.rf fm_m8084_739 M0
  generalize hQ : (qI fun z M => Pw M ∧ Fr fm_m8084_739 M0 M ∧ 0 ≤ z ∧ z ≤ 1 ∧ 0 ≤ 6 + (-6) * z + (-1) * (M 739 28) ∧ 0 ≤ z + M 739 28 + (-1)) = Q
  refine wk_al0 r84_0 (wk_getfi r84_1 fd_739_28 ex739_28 ?_)
  refine wk_ifne r84_4 ⟨by omega, by omega⟩ ?_ ?_
  · intro h1
    refine wk_c1 r84_11 ?_
    subst hQ; exact wk_zret r84_12 (by decide) (⟨rfl, _, rfl, hP0, hF0, by omega, by omega, by have := ex739_28; omega, by have := ex739_28; omega⟩)
  · intro h2
    refine wk_c1 r84_7 (wk_goto r84_8 ?_)
    subst hQ; exact wk_zret r84_12 (by decide) (⟨rfl, _, rfl, hP0, hF0, by omega, by omega, by have := ex739_28; omega, by have := ex739_28; omega⟩)
def fm_m8129 : Nat := 0
/-- IslandHallModel.spelled -/
theorem m8129 {B : eB} (d : Nat) (M0 : Mm) (p0 : Int) (p1 : Int) (p2 : Int) (p3 : Int) (p4 : Int) (p5 : Int) (hP0 : Pw M0) (l0 : 104 ≤ p0) (u0 : p0 ≤ 104) (l1 : 111 ≤ p1) (u1 : p1 ≤ 111) (l2 : 110 ≤ p2) (u2 : p2 ≤ 110) (l3 : 101 ≤ p3) (u3 : p3 ≤ 101) (l4 : 115 ≤ p4) (u4 : p4 ≤ 115) (l5 : 116 ≤ p5) (u5 : p5 ≤ 116) : Ct B (d + 1) 129 [I p0, I p1, I p2, I p3, I p4, I p5] M0 (qL fun z M => Pw M ∧ Fr fm_m8129 M0 M ∧ z < 18446744073709551616 ∧ 284628596 ≤ z ∧ z ≤ 284628596) := by
  refine ct_of (d := d + 0) (k := 2) (L := [some (I p0), some (I p1), some (I p2), some (I p3), some (I p4), some (I p5), none, none]) rfl rfl rfl ?_
  have hF0 := Fr.rf fm_m8129 M0
  generalize hQ : (qL fun z M => Pw M ∧ Fr fm_m8129 M0 M ∧ z < 18446744073709551616 ∧ 284628596 ≤ z ∧ z ≤ 284628596) = Q
  refine wk_il0 r129_0 (wk_c2 r129_1 (wk_isub r129_3 (wk_i2lb r129_4 ⟨by omega, by omega⟩ ?_)))
  intro n1 h2 h3
  refine wk_ls6 r129_5 rfl (wk_il1 r129_7 ?_)
  refine wk_ifeq r129_8 ⟨by omega, by omega⟩ ?_ ?_
  · intro h4
    exfalso
    omega
  · intro h5
    refine wk_ll6 r129_11 (wk_c1 r129_13 (wk_lshl5 r129_14 (by omega) ?_))
    intro n6 h7
    refine wk_il1 r129_15 (wk_c2 r129_16 (wk_isub r129_18 (wk_i2lb r129_19 ⟨by omega, by omega⟩ ?_)))
    intro n8 h9 h10
    refine wk_lor5 r129_20 (by omega) (by omega) (by omega) ?_
    intro n11 h12
    refine wk_ls6 r129_21 rfl (wk_il2 r129_23 ?_)
    refine wk_ifeq r129_24 ⟨by omega, by omega⟩ ?_ ?_
    · intro h13
      exfalso
      omega
    · intro h14
      refine wk_ll6 r129_27 (wk_c1 r129_29 (wk_lshl5 r129_30 (by omega) ?_))
      intro n15 h16
      refine wk_il2 r129_31 (wk_c2 r129_32 (wk_isub r129_34 (wk_i2lb r129_35 ⟨by omega, by omega⟩ ?_)))
      intro n17 h18 h19
      refine wk_lor5 r129_36 (by omega) (by omega) (by omega) ?_
      intro n20 h21
      refine wk_ls6 r129_37 rfl (wk_il3 r129_39 ?_)
      refine wk_ifeq r129_40 ⟨by omega, by omega⟩ ?_ ?_
      · intro h22
        exfalso
        omega
      · intro h23
        refine wk_ll6 r129_43 (wk_c1 r129_45 (wk_lshl5 r129_46 (by omega) ?_))
        intro n24 h25
        refine wk_il3 r129_47 (wk_c2 r129_48 (wk_isub r129_50 (wk_i2lb r129_51 ⟨by omega, by omega⟩ ?_)))
        intro n26 h27 h28
        refine wk_lor5 r129_52 (by omega) (by omega) (by omega) ?_
        intro n29 h30
        refine wk_ls6 r129_53 rfl (wk_il4 r129_55 ?_)
        refine wk_ifeq r129_57 ⟨by omega, by omega⟩ ?_ ?_
        · intro h31
          exfalso
          omega
        · intro h32
          refine wk_ll6 r129_60 (wk_c1 r129_62 (wk_lshl5 r129_63 (by omega) ?_))
          intro n33 h34
          refine wk_il4 r129_64 (wk_c2 r129_66 (wk_isub r129_68 (wk_i2lb r129_69 ⟨by omega, by omega⟩ ?_)))
          intro n35 h36 h37
          refine wk_lor5 r129_70 (by omega) (by omega) (by omega) ?_
          intro n38 h39
          refine wk_ls6 r129_71 rfl (wk_il5 r129_73 ?_)
          refine wk_ifeq r129_75 ⟨by omega, by omega⟩ ?_ ?_
          · intro h40
            exfalso
            omega
          · intro h41
            refine wk_ll6 r129_78 (wk_c1 r129_80 (wk_lshl5 r129_81 (by omega) ?_))
            intro n42 h43
            refine wk_il5 r129_82 (wk_c2 r129_84 (wk_isub r129_86 (wk_i2lb r129_87 ⟨by omega, by omega⟩ ?_)))
            intro n44 h45 h46
            refine wk_lor5 r129_88 (by omega) (by omega) (by omega) ?_
            intro n47 h48
            refine wk_ls6 r129_89 rfl (wk_ll6 r129_91 ?_)
            subst hQ; exact wk_lret r129_93 (⟨rfl, _, rfl, hP0, hF0, by omega, by omega, by omega⟩)
def fm_m8129v1 : Nat := 0
/-- IslandHallModel.spelled -/
theorem m8129v1 {B : eB} (d : Nat) (M0 : Mm) (p0 : Int) (p1 : Int) (p2 : Int) (p3 : Int) (p4 : Int) (p5 : Int) (hP0 : Pw M0) (l0 : 108 ≤ p0) (u0 : p0 ≤ 108) (l1 : 105 ≤ p1) (u1 : p1 ≤ 105) (l2 : 97 ≤ p2) (u2 : p2 ≤ 97) (l3 : 114 ≤ p3) (u3 : p3 ≤ 114) (l4 : 0 ≤ p4) (u4 : p4 ≤ 0) (l5 : 0 ≤ p5) (u5 : p5 ≤ 0) : Ct B (d + 1) 129 [I p0, I p1, I p2, I p3, I p4, I p5] M0 (qL fun z M => Pw M ∧ Fr fm_m8129v1 M0 M ∧ z < 18446744073709551616 ∧ 402482 ≤ z ∧ z ≤ 402482) := by
  refine ct_of (d := d + 0) (k := 2) (L := [some (I p0), some (I p1), some (I p2), some (I p3), some (I p4), some (I p5), none, none]) rfl rfl rfl ?_
  have hF0 := Fr.rf fm_m8129v1 M0
  generalize hQ : (qL fun z M => Pw M ∧ Fr fm_m8129v1 M0 M ∧ z < 18446744073709551616 ∧ 402482 ≤ z ∧ z ≤ 402482) = Q
  refine wk_il0 r129_0 (wk_c2 r129_1 (wk_isub r129_3 (wk_i2lb r129_4 ⟨by omega, by omega⟩ ?_)))
  intro n1 h2 h3
  refine wk_ls6 r129_5 rfl (wk_il1 r129_7 ?_)
  refine wk_ifeq r129_8 ⟨by omega, by omega⟩ ?_ ?_
  · intro h4
    exfalso
    omega
  · intro h5
    refine wk_ll6 r129_11 (wk_c1 r129_13 (wk_lshl5 r129_14 (by omega) ?_))
    intro n6 h7
    refine wk_il1 r129_15 (wk_c2 r129_16 (wk_isub r129_18 (wk_i2lb r129_19 ⟨by omega, by omega⟩ ?_)))
    intro n8 h9 h10
    refine wk_lor5 r129_20 (by omega) (by omega) (by omega) ?_
    intro n11 h12
    refine wk_ls6 r129_21 rfl (wk_il2 r129_23 ?_)
    refine wk_ifeq r129_24 ⟨by omega, by omega⟩ ?_ ?_
    · intro h13
      exfalso
      omega
    · intro h14
      refine wk_ll6 r129_27 (wk_c1 r129_29 (wk_lshl5 r129_30 (by omega) ?_))
      intro n15 h16
      refine wk_il2 r129_31 (wk_c2 r129_32 (wk_isub r129_34 (wk_i2lb r129_35 ⟨by omega, by omega⟩ ?_)))
      intro n17 h18 h19
      refine wk_lor5 r129_36 (by omega) (by omega) (by omega) ?_
      intro n20 h21
      refine wk_ls6 r129_37 rfl (wk_il3 r129_39 ?_)
      refine wk_ifeq r129_40 ⟨by omega, by omega⟩ ?_ ?_
      · intro h22
        exfalso
        omega
      · intro h23
        refine wk_ll6 r129_43 (wk_c1 r129_45 (wk_lshl5 r129_46 (by omega) ?_))
        intro n24 h25
        refine wk_il3 r129_47 (wk_c2 r129_48 (wk_isub r129_50 (wk_i2lb r129_51 ⟨by omega, by omega⟩ ?_)))
        intro n26 h27 h28
        refine wk_lor5 r129_52 (by omega) (by omega) (by omega) ?_
        intro n29 h30
        refine wk_ls6 r129_53 rfl (wk_il4 r129_55 ?_)
        refine wk_ifeq r129_57 ⟨by omega, by omega⟩ ?_ ?_
        · intro h31
          refine wk_il5 r129_73 ?_
          refine wk_ifeq r129_75 ⟨by omega, by omega⟩ ?_ ?_
          · intro h32
            refine wk_ll6 r129_91 ?_
            subst hQ; exact wk_lret r129_93 (⟨rfl, _, rfl, hP0, hF0, by omega, by omega, by omega⟩)
          · intro h33
            exfalso
            omega
        · intro h34
          exfalso
          omega
def fm_m8129v2 : Nat := 0
/-- IslandHallModel.spelled -/
theorem m8129v2 {B : eB} (d : Nat) (M0 : Mm) (p0 : Int) (p1 : Int) (p2 : Int) (p3 : Int) (p4 : Int) (p5 : Int) (hP0 : Pw M0) (l0 : 116 ≤ p0) (u0 : p0 ≤ 116) (l1 : 117 ≤ p1) (u1 : p1 ≤ 117) (l2 : 114 ≤ p2) (u2 : p2 ≤ 114) (l3 : 110 ≤ p3) (u3 : p3 ≤ 110) (l4 : 101 ≤ p4) (u4 : p4 ≤ 101) (l5 : 114 ≤ p5) (u5 : p5 ≤ 114) : Ct B (d + 1) 129 [I p0, I p1, I p2, I p3, I p4, I p5] M0 (qL fun z M => Pw M ∧ Fr fm_m8129v2 M0 M ∧ z < 18446744073709551616 ∧ 693713074 ≤ z ∧ z ≤ 693713074) := by
  refine ct_of (d := d + 0) (k := 2) (L := [some (I p0), some (I p1), some (I p2), some (I p3), some (I p4), some (I p5), none, none]) rfl rfl rfl ?_
  have hF0 := Fr.rf fm_m8129v2 M0
  generalize hQ : (qL fun z M => Pw M ∧ Fr fm_m8129v2 M0 M ∧ z < 18446744073709551616 ∧ 693713074 ≤ z ∧ z ≤ 693713074) = Q
  refine wk_il0 r129_0 (wk_c2 r129_1 (wk_isub r129_3 (wk_i2lb r129_4 ⟨by omega, by omega⟩ ?_)))
  intro n1 h2 h3
  refine wk_ls6 r129_5 rfl (wk_il1 r129_7 ?_)
  refine wk_ifeq r129_8 ⟨by omega, by omega⟩ ?_ ?_
  · intro h4
    exfalso
    omega
  · intro h5
    refine wk_ll6 r129_11 (wk_c1 r129_13 (wk_lshl5 r129_14 (by omega) ?_))
    intro n6 h7
    refine wk_il1 r129_15 (wk_c2 r129_16 (wk_isub r129_18 (wk_i2lb r129_19 ⟨by omega, by omega⟩ ?_)))
    intro n8 h9 h10
    refine wk_lor5 r129_20 (by omega) (by omega) (by omega) ?_
    intro n11 h12
    refine wk_ls6 r129_21 rfl (wk_il2 r129_23 ?_)
    refine wk_ifeq r129_24 ⟨by omega, by omega⟩ ?_ ?_
    · intro h13
      exfalso
      omega
    · intro h14
      refine wk_ll6 r129_27 (wk_c1 r129_29 (wk_lshl5 r129_30 (by omega) ?_))
      intro n15 h16
      refine wk_il2 r129_31 (wk_c2 r129_32 (wk_isub r129_34 (wk_i2lb r129_35 ⟨by omega, by omega⟩ ?_)))
      intro n17 h18 h19
      refine wk_lor5 r129_36 (by omega) (by omega) (by omega) ?_
      intro n20 h21
      refine wk_ls6 r129_37 rfl (wk_il3 r129_39 ?_)
      refine wk_ifeq r129_40 ⟨by omega, by omega⟩ ?_ ?_
      · intro h22
        exfalso
        omega
      · intro h23
        refine wk_ll6 r129_43 (wk_c1 r129_45 (wk_lshl5 r129_46 (by omega) ?_))
        intro n24 h25
        refine wk_il3 r129_47 (wk_c2 r129_48 (wk_isub r129_50 (wk_i2lb r129_51 ⟨by omega, by omega⟩ ?_)))
        intro n26 h27 h28
        refine wk_lor5 r129_52 (by omega) (by omega) (by omega) ?_
        intro n29 h30
        refine wk_ls6 r129_53 rfl (wk_il4 r129_55 ?_)
        refine wk_ifeq r129_57 ⟨by omega, by omega⟩ ?_ ?_
        · intro h31
          exfalso
          omega
        · intro h32
          refine wk_ll6 r129_60 (wk_c1 r129_62 (wk_lshl5 r129_63 (by omega) ?_))
          intro n33 h34
          refine wk_il4 r129_64 (wk_c2 r129_66 (wk_isub r129_68 (wk_i2lb r129_69 ⟨by omega, by omega⟩ ?_)))
          intro n35 h36 h37
          refine wk_lor5 r129_70 (by omega) (by omega) (by omega) ?_
          intro n38 h39
          refine wk_ls6 r129_71 rfl (wk_il5 r129_73 ?_)
          refine wk_ifeq r129_75 ⟨by omega, by omega⟩ ?_ ?_
          · intro h40
            exfalso
            omega
          · intro h41
            refine wk_ll6 r129_78 (wk_c1 r129_80 (wk_lshl5 r129_81 (by omega) ?_))
            intro n42 h43
            refine wk_il5 r129_82 (wk_c2 r129_84 (wk_isub r129_86 (wk_i2lb r129_87 ⟨by omega, by omega⟩ ?_)))
            intro n44 h45 h46
            refine wk_lor5 r129_88 (by omega) (by omega) (by omega) ?_
            intro n47 h48
            refine wk_ls6 r129_89 rfl (wk_ll6 r129_91 ?_)
            subst hQ; exact wk_lret r129_93 (⟨rfl, _, rfl, hP0, hF0, by omega, by omega, by omega⟩)
def fm_m8129v3 : Nat := 0
/-- IslandHallModel.spelled -/
theorem m8129v3 {B : eB} (d : Nat) (M0 : Mm) (p0 : Int) (p1 : Int) (p2 : Int) (p3 : Int) (p4 : Int) (p5 : Int) (hP0 : Pw M0) (l0 : 100 ≤ p0) (u0 : p0 ≤ 100) (l1 : 97 ≤ p1) (u1 : p1 ≤ 97) (l2 : 121 ≤ p2) (u2 : p2 ≤ 121) (l3 : 101 ≤ p3) (u3 : p3 ≤ 101) (l4 : 114 ≤ p4) (u4 : p4 ≤ 114) (l5 : 0 ≤ p5) (u5 : p5 ≤ 0) : Ct B (d + 1) 129 [I p0, I p1, I p2, I p3, I p4, I p5] M0 (qL fun z M => Pw M ∧ Fr fm_m8129v3 M0 M ∧ z < 18446744073709551616 ∧ 4252850 ≤ z ∧ z ≤ 4252850) := by
  refine ct_of (d := d + 0) (k := 2) (L := [some (I p0), some (I p1), some (I p2), some (I p3), some (I p4), some (I p5), none, none]) rfl rfl rfl ?_
  have hF0 := Fr.rf fm_m8129v3 M0
  generalize hQ : (qL fun z M => Pw M ∧ Fr fm_m8129v3 M0 M ∧ z < 18446744073709551616 ∧ 4252850 ≤ z ∧ z ≤ 4252850) = Q
  refine wk_il0 r129_0 (wk_c2 r129_1 (wk_isub r129_3 (wk_i2lb r129_4 ⟨by omega, by omega⟩ ?_)))
  intro n1 h2 h3
  refine wk_ls6 r129_5 rfl (wk_il1 r129_7 ?_)
  refine wk_ifeq r129_8 ⟨by omega, by omega⟩ ?_ ?_
  · intro h4
    exfalso
    omega
  · intro h5
    refine wk_ll6 r129_11 (wk_c1 r129_13 (wk_lshl5 r129_14 (by omega) ?_))
    intro n6 h7
    refine wk_il1 r129_15 (wk_c2 r129_16 (wk_isub r129_18 (wk_i2lb r129_19 ⟨by omega, by omega⟩ ?_)))
    intro n8 h9 h10
    refine wk_lor5 r129_20 (by omega) (by omega) (by omega) ?_
    intro n11 h12
    refine wk_ls6 r129_21 rfl (wk_il2 r129_23 ?_)
    refine wk_ifeq r129_24 ⟨by omega, by omega⟩ ?_ ?_
    · intro h13
      exfalso
      omega
    · intro h14
      refine wk_ll6 r129_27 (wk_c1 r129_29 (wk_lshl5 r129_30 (by omega) ?_))
      intro n15 h16
      refine wk_il2 r129_31 (wk_c2 r129_32 (wk_isub r129_34 (wk_i2lb r129_35 ⟨by omega, by omega⟩ ?_)))
      intro n17 h18 h19
      refine wk_lor5 r129_36 (by omega) (by omega) (by omega) ?_
      intro n20 h21
      refine wk_ls6 r129_37 rfl (wk_il3 r129_39 ?_)
      refine wk_ifeq r129_40 ⟨by omega, by omega⟩ ?_ ?_
      · intro h22
        exfalso
        omega
      · intro h23
        refine wk_ll6 r129_43 (wk_c1 r129_45 (wk_lshl5 r129_46 (by omega) ?_))
        intro n24 h25
        refine wk_il3 r129_47 (wk_c2 r129_48 (wk_isub r129_50 (wk_i2lb r129_51 ⟨by omega, by omega⟩ ?_)))
        intro n26 h27 h28
        refine wk_lor5 r129_52 (by omega) (by omega) (by omega) ?_
        intro n29 h30
        refine wk_ls6 r129_53 rfl (wk_il4 r129_55 ?_)
        refine wk_ifeq r129_57 ⟨by omega, by omega⟩ ?_ ?_
        · intro h31
          exfalso
          omega
        · intro h32
          refine wk_ll6 r129_60 (wk_c1 r129_62 (wk_lshl5 r129_63 (by omega) ?_))
          intro n33 h34
          refine wk_il4 r129_64 (wk_c2 r129_66 (wk_isub r129_68 (wk_i2lb r129_69 ⟨by omega, by omega⟩ ?_)))
          intro n35 h36 h37
          refine wk_lor5 r129_70 (by omega) (by omega) (by omega) ?_
          intro n38 h39
          refine wk_ls6 r129_71 rfl (wk_il5 r129_73 ?_)
          refine wk_ifeq r129_75 ⟨by omega, by omega⟩ ?_ ?_
          · intro h40
            refine wk_ll6 r129_91 ?_
            subst hQ; exact wk_lret r129_93 (⟨rfl, _, rfl, hP0, hF0, by omega, by omega, by omega⟩)
          · intro h41
            exfalso
            omega
def fm_m8129v4 : Nat := 0
/-- IslandHallModel.spelled -/
theorem m8129v4 {B : eB} (d : Nat) (M0 : Mm) (p0 : Int) (p1 : Int) (p2 : Int) (p3 : Int) (p4 : Int) (p5 : Int) (hP0 : Pw M0) (l0 : 102 ≤ p0) (u0 : p0 ≤ 102) (l1 : 114 ≤ p1) (u1 : p1 ≤ 114) (l2 : 101 ≤ p2) (u2 : p2 ≤ 101) (l3 : 101 ≤ p3) (u3 : p3 ≤ 101) (l4 : 0 ≤ p4) (u4 : p4 ≤ 0) (l5 : 0 ≤ p5) (u5 : p5 ≤ 0) : Ct B (d + 1) 129 [I p0, I p1, I p2, I p3, I p4, I p5] M0 (qL fun z M => Pw M ∧ Fr fm_m8129v4 M0 M ∧ z < 18446744073709551616 ∧ 215205 ≤ z ∧ z ≤ 215205) := by
  refine ct_of (d := d + 0) (k := 2) (L := [some (I p0), some (I p1), some (I p2), some (I p3), some (I p4), some (I p5), none, none]) rfl rfl rfl ?_
  have hF0 := Fr.rf fm_m8129v4 M0
  generalize hQ : (qL fun z M => Pw M ∧ Fr fm_m8129v4 M0 M ∧ z < 18446744073709551616 ∧ 215205 ≤ z ∧ z ≤ 215205) = Q
  refine wk_il0 r129_0 (wk_c2 r129_1 (wk_isub r129_3 (wk_i2lb r129_4 ⟨by omega, by omega⟩ ?_)))
  intro n1 h2 h3
  refine wk_ls6 r129_5 rfl (wk_il1 r129_7 ?_)
  refine wk_ifeq r129_8 ⟨by omega, by omega⟩ ?_ ?_
  · intro h4
    exfalso
    omega
  · intro h5
    refine wk_ll6 r129_11 (wk_c1 r129_13 (wk_lshl5 r129_14 (by omega) ?_))
    intro n6 h7
    refine wk_il1 r129_15 (wk_c2 r129_16 (wk_isub r129_18 (wk_i2lb r129_19 ⟨by omega, by omega⟩ ?_)))
    intro n8 h9 h10
    refine wk_lor5 r129_20 (by omega) (by omega) (by omega) ?_
    intro n11 h12
    refine wk_ls6 r129_21 rfl (wk_il2 r129_23 ?_)
    refine wk_ifeq r129_24 ⟨by omega, by omega⟩ ?_ ?_
    · intro h13
      exfalso
      omega
    · intro h14
      refine wk_ll6 r129_27 (wk_c1 r129_29 (wk_lshl5 r129_30 (by omega) ?_))
      intro n15 h16
      refine wk_il2 r129_31 (wk_c2 r129_32 (wk_isub r129_34 (wk_i2lb r129_35 ⟨by omega, by omega⟩ ?_)))
      intro n17 h18 h19
      refine wk_lor5 r129_36 (by omega) (by omega) (by omega) ?_
      intro n20 h21
      refine wk_ls6 r129_37 rfl (wk_il3 r129_39 ?_)
      refine wk_ifeq r129_40 ⟨by omega, by omega⟩ ?_ ?_
      · intro h22
        exfalso
        omega
      · intro h23
        refine wk_ll6 r129_43 (wk_c1 r129_45 (wk_lshl5 r129_46 (by omega) ?_))
        intro n24 h25
        refine wk_il3 r129_47 (wk_c2 r129_48 (wk_isub r129_50 (wk_i2lb r129_51 ⟨by omega, by omega⟩ ?_)))
        intro n26 h27 h28
        refine wk_lor5 r129_52 (by omega) (by omega) (by omega) ?_
        intro n29 h30
        refine wk_ls6 r129_53 rfl (wk_il4 r129_55 ?_)
        refine wk_ifeq r129_57 ⟨by omega, by omega⟩ ?_ ?_
        · intro h31
          refine wk_il5 r129_73 ?_
          refine wk_ifeq r129_75 ⟨by omega, by omega⟩ ?_ ?_
          · intro h32
            refine wk_ll6 r129_91 ?_
            subst hQ; exact wk_lret r129_93 (⟨rfl, _, rfl, hP0, hF0, by omega, by omega, by omega⟩)
          · intro h33
            exfalso
            omega
        · intro h34
          exfalso
          omega
def fm_m8129v5 : Nat := 0
/-- IslandHallModel.spelled -/
theorem m8129v5 {B : eB} (d : Nat) (M0 : Mm) (p0 : Int) (p1 : Int) (p2 : Int) (p3 : Int) (p4 : Int) (p5 : Int) (hP0 : Pw M0) (l0 : 112 ≤ p0) (u0 : p0 ≤ 112) (l1 : 101 ≤ p1) (u1 : p1 ≤ 101) (l2 : 111 ≤ p2) (u2 : p2 ≤ 111) (l3 : 112 ≤ p3) (u3 : p3 ≤ 112) (l4 : 108 ≤ p4) (u4 : p4 ≤ 108) (l5 : 101 ≤ p5) (u5 : p5 ≤ 101) : Ct B (d + 1) 129 [I p0, I p1, I p2, I p3, I p4, I p5] M0 (qL fun z M => Pw M ∧ Fr fm_m8129v5 M0 M ∧ z < 18446744073709551616 ∧ 542622085 ≤ z ∧ z ≤ 542622085) := by
  refine ct_of (d := d + 0) (k := 2) (L := [some (I p0), some (I p1), some (I p2), some (I p3), some (I p4), some (I p5), none, none]) rfl rfl rfl ?_
  have hF0 := Fr.rf fm_m8129v5 M0
  generalize hQ : (qL fun z M => Pw M ∧ Fr fm_m8129v5 M0 M ∧ z < 18446744073709551616 ∧ 542622085 ≤ z ∧ z ≤ 542622085) = Q
  refine wk_il0 r129_0 (wk_c2 r129_1 (wk_isub r129_3 (wk_i2lb r129_4 ⟨by omega, by omega⟩ ?_)))
  intro n1 h2 h3
  refine wk_ls6 r129_5 rfl (wk_il1 r129_7 ?_)
  refine wk_ifeq r129_8 ⟨by omega, by omega⟩ ?_ ?_
  · intro h4
    exfalso
    omega
  · intro h5
    refine wk_ll6 r129_11 (wk_c1 r129_13 (wk_lshl5 r129_14 (by omega) ?_))
    intro n6 h7
    refine wk_il1 r129_15 (wk_c2 r129_16 (wk_isub r129_18 (wk_i2lb r129_19 ⟨by omega, by omega⟩ ?_)))
    intro n8 h9 h10
    refine wk_lor5 r129_20 (by omega) (by omega) (by omega) ?_
    intro n11 h12
    refine wk_ls6 r129_21 rfl (wk_il2 r129_23 ?_)
    refine wk_ifeq r129_24 ⟨by omega, by omega⟩ ?_ ?_
    · intro h13
      exfalso
      omega
    · intro h14
      refine wk_ll6 r129_27 (wk_c1 r129_29 (wk_lshl5 r129_30 (by omega) ?_))
      intro n15 h16
      refine wk_il2 r129_31 (wk_c2 r129_32 (wk_isub r129_34 (wk_i2lb r129_35 ⟨by omega, by omega⟩ ?_)))
      intro n17 h18 h19
      refine wk_lor5 r129_36 (by omega) (by omega) (by omega) ?_
      intro n20 h21
      refine wk_ls6 r129_37 rfl (wk_il3 r129_39 ?_)
      refine wk_ifeq r129_40 ⟨by omega, by omega⟩ ?_ ?_
      · intro h22
        exfalso
        omega
      · intro h23
        refine wk_ll6 r129_43 (wk_c1 r129_45 (wk_lshl5 r129_46 (by omega) ?_))
        intro n24 h25
        refine wk_il3 r129_47 (wk_c2 r129_48 (wk_isub r129_50 (wk_i2lb r129_51 ⟨by omega, by omega⟩ ?_)))
        intro n26 h27 h28
        refine wk_lor5 r129_52 (by omega) (by omega) (by omega) ?_
        intro n29 h30
        refine wk_ls6 r129_53 rfl (wk_il4 r129_55 ?_)
        refine wk_ifeq r129_57 ⟨by omega, by omega⟩ ?_ ?_
        · intro h31
          exfalso
          omega
        · intro h32
          refine wk_ll6 r129_60 (wk_c1 r129_62 (wk_lshl5 r129_63 (by omega) ?_))
          intro n33 h34
          refine wk_il4 r129_64 (wk_c2 r129_66 (wk_isub r129_68 (wk_i2lb r129_69 ⟨by omega, by omega⟩ ?_)))
          intro n35 h36 h37
          refine wk_lor5 r129_70 (by omega) (by omega) (by omega) ?_
          intro n38 h39
          refine wk_ls6 r129_71 rfl (wk_il5 r129_73 ?_)
          refine wk_ifeq r129_75 ⟨by omega, by omega⟩ ?_ ?_
          · intro h40
            exfalso
            omega
          · intro h41
            refine wk_ll6 r129_78 (wk_c1 r129_80 (wk_lshl5 r129_81 (by omega) ?_))
            intro n42 h43
            refine wk_il5 r129_82 (wk_c2 r129_84 (wk_isub r129_86 (wk_i2lb r129_87 ⟨by omega, by omega⟩ ?_)))
            intro n44 h45 h46
            refine wk_lor5 r129_88 (by omega) (by omega) (by omega) ?_
            intro n47 h48
            refine wk_ls6 r129_89 rfl (wk_ll6 r129_91 ?_)
            subst hQ; exact wk_lret r129_93 (⟨rfl, _, rfl, hP0, hF0, by omega, by omega, by omega⟩)
def fm_m8129v6 : Nat := 0
/-- IslandHallModel.spelled -/
theorem m8129v6 {B : eB} (d : Nat) (M0 : Mm) (p0 : Int) (p1 : Int) (p2 : Int) (p3 : Int) (p4 : Int) (p5 : Int) (hP0 : Pw M0) (l0 : 109 ≤ p0) (u0 : p0 ≤ 109) (l1 : 97 ≤ p1) (u1 : p1 ≤ 97) (l2 : 121 ≤ p2) (u2 : p2 ≤ 121) (l3 : 0 ≤ p3) (u3 : p3 ≤ 0) (l4 : 0 ≤ p4) (u4 : p4 ≤ 0) (l5 : 0 ≤ p5) (u5 : p5 ≤ 0) : Ct B (d + 1) 129 [I p0, I p1, I p2, I p3, I p4, I p5] M0 (qL fun z M => Pw M ∧ Fr fm_m8129v6 M0 M ∧ z < 18446744073709551616 ∧ 13369 ≤ z ∧ z ≤ 13369) := by
  refine ct_of (d := d + 0) (k := 2) (L := [some (I p0), some (I p1), some (I p2), some (I p3), some (I p4), some (I p5), none, none]) rfl rfl rfl ?_
  have hF0 := Fr.rf fm_m8129v6 M0
  generalize hQ : (qL fun z M => Pw M ∧ Fr fm_m8129v6 M0 M ∧ z < 18446744073709551616 ∧ 13369 ≤ z ∧ z ≤ 13369) = Q
  refine wk_il0 r129_0 (wk_c2 r129_1 (wk_isub r129_3 (wk_i2lb r129_4 ⟨by omega, by omega⟩ ?_)))
  intro n1 h2 h3
  refine wk_ls6 r129_5 rfl (wk_il1 r129_7 ?_)
  refine wk_ifeq r129_8 ⟨by omega, by omega⟩ ?_ ?_
  · intro h4
    exfalso
    omega
  · intro h5
    refine wk_ll6 r129_11 (wk_c1 r129_13 (wk_lshl5 r129_14 (by omega) ?_))
    intro n6 h7
    refine wk_il1 r129_15 (wk_c2 r129_16 (wk_isub r129_18 (wk_i2lb r129_19 ⟨by omega, by omega⟩ ?_)))
    intro n8 h9 h10
    refine wk_lor5 r129_20 (by omega) (by omega) (by omega) ?_
    intro n11 h12
    refine wk_ls6 r129_21 rfl (wk_il2 r129_23 ?_)
    refine wk_ifeq r129_24 ⟨by omega, by omega⟩ ?_ ?_
    · intro h13
      exfalso
      omega
    · intro h14
      refine wk_ll6 r129_27 (wk_c1 r129_29 (wk_lshl5 r129_30 (by omega) ?_))
      intro n15 h16
      refine wk_il2 r129_31 (wk_c2 r129_32 (wk_isub r129_34 (wk_i2lb r129_35 ⟨by omega, by omega⟩ ?_)))
      intro n17 h18 h19
      refine wk_lor5 r129_36 (by omega) (by omega) (by omega) ?_
      intro n20 h21
      refine wk_ls6 r129_37 rfl (wk_il3 r129_39 ?_)
      refine wk_ifeq r129_40 ⟨by omega, by omega⟩ ?_ ?_
      · intro h22
        refine wk_il4 r129_55 ?_
        refine wk_ifeq r129_57 ⟨by omega, by omega⟩ ?_ ?_
        · intro h23
          refine wk_il5 r129_73 ?_
          refine wk_ifeq r129_75 ⟨by omega, by omega⟩ ?_ ?_
          · intro h24
            refine wk_ll6 r129_91 ?_
            subst hQ; exact wk_lret r129_93 (⟨rfl, _, rfl, hP0, hF0, by omega, by omega, by omega⟩)
          · intro h25
            exfalso
            omega
        · intro h26
          exfalso
          omega
      · intro h27
        exfalso
        omega
def fm_m8129v7 : Nat := 0
/-- IslandHallModel.spelled -/
theorem m8129v7 {B : eB} (d : Nat) (M0 : Mm) (p0 : Int) (p1 : Int) (p2 : Int) (p3 : Int) (p4 : Int) (p5 : Int) (hP0 : Pw M0) (l0 : 114 ≤ p0) (u0 : p0 ≤ 114) (l1 : 111 ≤ p1) (u1 : p1 ≤ 111) (l2 : 97 ≤ p2) (u2 : p2 ≤ 97) (l3 : 100 ≤ p3) (u3 : p3 ≤ 100) (l4 : 115 ≤ p4) (u4 : p4 ≤ 115) (l5 : 0 ≤ p5) (u5 : p5 ≤ 0) : Ct B (d + 1) 129 [I p0, I p1, I p2, I p3, I p4, I p5] M0 (qL fun z M => Pw M ∧ Fr fm_m8129v7 M0 M ∧ z < 18446744073709551616 ∧ 19367059 ≤ z ∧ z ≤ 19367059) := by
  refine ct_of (d := d + 0) (k := 2) (L := [some (I p0), some (I p1), some (I p2), some (I p3), some (I p4), some (I p5), none, none]) rfl rfl rfl ?_
  have hF0 := Fr.rf fm_m8129v7 M0
  generalize hQ : (qL fun z M => Pw M ∧ Fr fm_m8129v7 M0 M ∧ z < 18446744073709551616 ∧ 19367059 ≤ z ∧ z ≤ 19367059) = Q
  refine wk_il0 r129_0 (wk_c2 r129_1 (wk_isub r129_3 (wk_i2lb r129_4 ⟨by omega, by omega⟩ ?_)))
  intro n1 h2 h3
  refine wk_ls6 r129_5 rfl (wk_il1 r129_7 ?_)
  refine wk_ifeq r129_8 ⟨by omega, by omega⟩ ?_ ?_
  · intro h4
    exfalso
    omega
  · intro h5
    refine wk_ll6 r129_11 (wk_c1 r129_13 (wk_lshl5 r129_14 (by omega) ?_))
    intro n6 h7
    refine wk_il1 r129_15 (wk_c2 r129_16 (wk_isub r129_18 (wk_i2lb r129_19 ⟨by omega, by omega⟩ ?_)))
    intro n8 h9 h10
    refine wk_lor5 r129_20 (by omega) (by omega) (by omega) ?_
    intro n11 h12
    refine wk_ls6 r129_21 rfl (wk_il2 r129_23 ?_)
    refine wk_ifeq r129_24 ⟨by omega, by omega⟩ ?_ ?_
    · intro h13
      exfalso
      omega
    · intro h14
      refine wk_ll6 r129_27 (wk_c1 r129_29 (wk_lshl5 r129_30 (by omega) ?_))
      intro n15 h16
      refine wk_il2 r129_31 (wk_c2 r129_32 (wk_isub r129_34 (wk_i2lb r129_35 ⟨by omega, by omega⟩ ?_)))
      intro n17 h18 h19
      refine wk_lor5 r129_36 (by omega) (by omega) (by omega) ?_
      intro n20 h21
      refine wk_ls6 r129_37 rfl (wk_il3 r129_39 ?_)
      refine wk_ifeq r129_40 ⟨by omega, by omega⟩ ?_ ?_
      · intro h22
        exfalso
        omega
      · intro h23
        refine wk_ll6 r129_43 (wk_c1 r129_45 (wk_lshl5 r129_46 (by omega) ?_))
        intro n24 h25
        refine wk_il3 r129_47 (wk_c2 r129_48 (wk_isub r129_50 (wk_i2lb r129_51 ⟨by omega, by omega⟩ ?_)))
        intro n26 h27 h28
        refine wk_lor5 r129_52 (by omega) (by omega) (by omega) ?_
        intro n29 h30
        refine wk_ls6 r129_53 rfl (wk_il4 r129_55 ?_)
        refine wk_ifeq r129_57 ⟨by omega, by omega⟩ ?_ ?_
        · intro h31
          exfalso
          omega
        · intro h32
          refine wk_ll6 r129_60 (wk_c1 r129_62 (wk_lshl5 r129_63 (by omega) ?_))
          intro n33 h34
          refine wk_il4 r129_64 (wk_c2 r129_66 (wk_isub r129_68 (wk_i2lb r129_69 ⟨by omega, by omega⟩ ?_)))
          intro n35 h36 h37
          refine wk_lor5 r129_70 (by omega) (by omega) (by omega) ?_
          intro n38 h39
          refine wk_ls6 r129_71 rfl (wk_il5 r129_73 ?_)
          refine wk_ifeq r129_75 ⟨by omega, by omega⟩ ?_ ?_
          · intro h40
            refine wk_ll6 r129_91 ?_
            subst hQ; exact wk_lret r129_93 (⟨rfl, _, rfl, hP0, hF0, by omega, by omega, by omega⟩)
          · intro h41
            exfalso
            omega
def fm_m8129v8 : Nat := 0
/-- IslandHallModel.spelled -/
theorem m8129v8 {B : eB} (d : Nat) (M0 : Mm) (p0 : Int) (p1 : Int) (p2 : Int) (p3 : Int) (p4 : Int) (p5 : Int) (hP0 : Pw M0) (l0 : 116 ≤ p0) (u0 : p0 ≤ 116) (l1 : 111 ≤ p1) (u1 : p1 ≤ 111) (l2 : 108 ≤ p2) (u2 : p2 ≤ 108) (l3 : 100 ≤ p3) (u3 : p3 ≤ 100) (l4 : 0 ≤ p4) (u4 : p4 ≤ 0) (l5 : 0 ≤ p5) (u5 : p5 ≤ 0) : Ct B (d + 1) 129 [I p0, I p1, I p2, I p3, I p4, I p5] M0 (qL fun z M => Pw M ∧ Fr fm_m8129v8 M0 M ∧ z < 18446744073709551616 ∧ 671108 ≤ z ∧ z ≤ 671108) := by
  refine ct_of (d := d + 0) (k := 2) (L := [some (I p0), some (I p1), some (I p2), some (I p3), some (I p4), some (I p5), none, none]) rfl rfl rfl ?_
  have hF0 := Fr.rf fm_m8129v8 M0
  generalize hQ : (qL fun z M => Pw M ∧ Fr fm_m8129v8 M0 M ∧ z < 18446744073709551616 ∧ 671108 ≤ z ∧ z ≤ 671108) = Q
  refine wk_il0 r129_0 (wk_c2 r129_1 (wk_isub r129_3 (wk_i2lb r129_4 ⟨by omega, by omega⟩ ?_)))
  intro n1 h2 h3
  refine wk_ls6 r129_5 rfl (wk_il1 r129_7 ?_)
  refine wk_ifeq r129_8 ⟨by omega, by omega⟩ ?_ ?_
  · intro h4
    exfalso
    omega
  · intro h5
    refine wk_ll6 r129_11 (wk_c1 r129_13 (wk_lshl5 r129_14 (by omega) ?_))
    intro n6 h7
    refine wk_il1 r129_15 (wk_c2 r129_16 (wk_isub r129_18 (wk_i2lb r129_19 ⟨by omega, by omega⟩ ?_)))
    intro n8 h9 h10
    refine wk_lor5 r129_20 (by omega) (by omega) (by omega) ?_
    intro n11 h12
    refine wk_ls6 r129_21 rfl (wk_il2 r129_23 ?_)
    refine wk_ifeq r129_24 ⟨by omega, by omega⟩ ?_ ?_
    · intro h13
      exfalso
      omega
    · intro h14
      refine wk_ll6 r129_27 (wk_c1 r129_29 (wk_lshl5 r129_30 (by omega) ?_))
      intro n15 h16
      refine wk_il2 r129_31 (wk_c2 r129_32 (wk_isub r129_34 (wk_i2lb r129_35 ⟨by omega, by omega⟩ ?_)))
      intro n17 h18 h19
      refine wk_lor5 r129_36 (by omega) (by omega) (by omega) ?_
      intro n20 h21
      refine wk_ls6 r129_37 rfl (wk_il3 r129_39 ?_)
      refine wk_ifeq r129_40 ⟨by omega, by omega⟩ ?_ ?_
      · intro h22
        exfalso
        omega
      · intro h23
        refine wk_ll6 r129_43 (wk_c1 r129_45 (wk_lshl5 r129_46 (by omega) ?_))
        intro n24 h25
        refine wk_il3 r129_47 (wk_c2 r129_48 (wk_isub r129_50 (wk_i2lb r129_51 ⟨by omega, by omega⟩ ?_)))
        intro n26 h27 h28
        refine wk_lor5 r129_52 (by omega) (by omega) (by omega) ?_
        intro n29 h30
        refine wk_ls6 r129_53 rfl (wk_il4 r129_55 ?_)
        refine wk_ifeq r129_57 ⟨by omega, by omega⟩ ?_ ?_
        · intro h31
          refine wk_il5 r129_73 ?_
          refine wk_ifeq r129_75 ⟨by omega, by omega⟩ ?_ ?_
          · intro h32
            refine wk_ll6 r129_91 ?_
            subst hQ; exact wk_lret r129_93 (⟨rfl, _, rfl, hP0, hF0, by omega, by omega, by omega⟩)
          · intro h33
            exfalso
            omega
        · intro h34
          exfalso
          omega
def fm_m8129v9 : Nat := 0
/-- IslandHallModel.spelled -/
theorem m8129v9 {B : eB} (d : Nat) (M0 : Mm) (p0 : Int) (p1 : Int) (p2 : Int) (p3 : Int) (p4 : Int) (p5 : Int) (hP0 : Pw M0) (l0 : 100 ≤ p0) (u0 : p0 ≤ 100) (l1 : 97 ≤ p1) (u1 : p1 ≤ 97) (l2 : 121 ≤ p2) (u2 : p2 ≤ 121) (l3 : 0 ≤ p3) (u3 : p3 ≤ 0) (l4 : 0 ≤ p4) (u4 : p4 ≤ 0) (l5 : 0 ≤ p5) (u5 : p5 ≤ 0) : Ct B (d + 1) 129 [I p0, I p1, I p2, I p3, I p4, I p5] M0 (qL fun z M => Pw M ∧ Fr fm_m8129v9 M0 M ∧ z < 18446744073709551616 ∧ 4153 ≤ z ∧ z ≤ 4153) := by
  refine ct_of (d := d + 0) (k := 2) (L := [some (I p0), some (I p1), some (I p2), some (I p3), some (I p4), some (I p5), none, none]) rfl rfl rfl ?_
  have hF0 := Fr.rf fm_m8129v9 M0
  generalize hQ : (qL fun z M => Pw M ∧ Fr fm_m8129v9 M0 M ∧ z < 18446744073709551616 ∧ 4153 ≤ z ∧ z ≤ 4153) = Q
  refine wk_il0 r129_0 (wk_c2 r129_1 (wk_isub r129_3 (wk_i2lb r129_4 ⟨by omega, by omega⟩ ?_)))
  intro n1 h2 h3
  refine wk_ls6 r129_5 rfl (wk_il1 r129_7 ?_)
  refine wk_ifeq r129_8 ⟨by omega, by omega⟩ ?_ ?_
  · intro h4
    exfalso
    omega
  · intro h5
    refine wk_ll6 r129_11 (wk_c1 r129_13 (wk_lshl5 r129_14 (by omega) ?_))
    intro n6 h7
    refine wk_il1 r129_15 (wk_c2 r129_16 (wk_isub r129_18 (wk_i2lb r129_19 ⟨by omega, by omega⟩ ?_)))
    intro n8 h9 h10
    refine wk_lor5 r129_20 (by omega) (by omega) (by omega) ?_
    intro n11 h12
    refine wk_ls6 r129_21 rfl (wk_il2 r129_23 ?_)
    refine wk_ifeq r129_24 ⟨by omega, by omega⟩ ?_ ?_
    · intro h13
      exfalso
      omega
    · intro h14
      refine wk_ll6 r129_27 (wk_c1 r129_29 (wk_lshl5 r129_30 (by omega) ?_))
      intro n15 h16
      refine wk_il2 r129_31 (wk_c2 r129_32 (wk_isub r129_34 (wk_i2lb r129_35 ⟨by omega, by omega⟩ ?_)))
      intro n17 h18 h19
      refine wk_lor5 r129_36 (by omega) (by omega) (by omega) ?_
      intro n20 h21
      refine wk_ls6 r129_37 rfl (wk_il3 r129_39 ?_)
      refine wk_ifeq r129_40 ⟨by omega, by omega⟩ ?_ ?_
      · intro h22
        refine wk_il4 r129_55 ?_
        refine wk_ifeq r129_57 ⟨by omega, by omega⟩ ?_ ?_
        · intro h23
          refine wk_il5 r129_73 ?_
          refine wk_ifeq r129_75 ⟨by omega, by omega⟩ ?_ ?_
          · intro h24
            refine wk_ll6 r129_91 ?_
            subst hQ; exact wk_lret r129_93 (⟨rfl, _, rfl, hP0, hF0, by omega, by omega, by omega⟩)
          · intro h25
            exfalso
            omega
        · intro h26
          exfalso
          omega
      · intro h27
        exfalso
        omega
def fm_m8129v10 : Nat := 0
/-- IslandHallModel.spelled -/
theorem m8129v10 {B : eB} (d : Nat) (M0 : Mm) (p0 : Int) (p1 : Int) (p2 : Int) (p3 : Int) (p4 : Int) (p5 : Int) (hP0 : Pw M0) (l0 : 108 ≤ p0) (u0 : p0 ≤ 108) (l1 : 105 ≤ p1) (u1 : p1 ≤ 105) (l2 : 101 ≤ p2) (u2 : p2 ≤ 101) (l3 : 115 ≤ p3) (u3 : p3 ≤ 115) (l4 : 0 ≤ p4) (u4 : p4 ≤ 0) (l5 : 0 ≤ p5) (u5 : p5 ≤ 0) : Ct B (d + 1) 129 [I p0, I p1, I p2, I p3, I p4, I p5] M0 (qL fun z M => Pw M ∧ Fr fm_m8129v10 M0 M ∧ z < 18446744073709551616 ∧ 402611 ≤ z ∧ z ≤ 402611) := by
  refine ct_of (d := d + 0) (k := 2) (L := [some (I p0), some (I p1), some (I p2), some (I p3), some (I p4), some (I p5), none, none]) rfl rfl rfl ?_
  have hF0 := Fr.rf fm_m8129v10 M0
  generalize hQ : (qL fun z M => Pw M ∧ Fr fm_m8129v10 M0 M ∧ z < 18446744073709551616 ∧ 402611 ≤ z ∧ z ≤ 402611) = Q
  refine wk_il0 r129_0 (wk_c2 r129_1 (wk_isub r129_3 (wk_i2lb r129_4 ⟨by omega, by omega⟩ ?_)))
  intro n1 h2 h3
  refine wk_ls6 r129_5 rfl (wk_il1 r129_7 ?_)
  refine wk_ifeq r129_8 ⟨by omega, by omega⟩ ?_ ?_
  · intro h4
    exfalso
    omega
  · intro h5
    refine wk_ll6 r129_11 (wk_c1 r129_13 (wk_lshl5 r129_14 (by omega) ?_))
    intro n6 h7
    refine wk_il1 r129_15 (wk_c2 r129_16 (wk_isub r129_18 (wk_i2lb r129_19 ⟨by omega, by omega⟩ ?_)))
    intro n8 h9 h10
    refine wk_lor5 r129_20 (by omega) (by omega) (by omega) ?_
    intro n11 h12
    refine wk_ls6 r129_21 rfl (wk_il2 r129_23 ?_)
    refine wk_ifeq r129_24 ⟨by omega, by omega⟩ ?_ ?_
    · intro h13
      exfalso
      omega
    · intro h14
      refine wk_ll6 r129_27 (wk_c1 r129_29 (wk_lshl5 r129_30 (by omega) ?_))
      intro n15 h16
      refine wk_il2 r129_31 (wk_c2 r129_32 (wk_isub r129_34 (wk_i2lb r129_35 ⟨by omega, by omega⟩ ?_)))
      intro n17 h18 h19
      refine wk_lor5 r129_36 (by omega) (by omega) (by omega) ?_
      intro n20 h21
      refine wk_ls6 r129_37 rfl (wk_il3 r129_39 ?_)
      refine wk_ifeq r129_40 ⟨by omega, by omega⟩ ?_ ?_
      · intro h22
        exfalso
        omega
      · intro h23
        refine wk_ll6 r129_43 (wk_c1 r129_45 (wk_lshl5 r129_46 (by omega) ?_))
        intro n24 h25
        refine wk_il3 r129_47 (wk_c2 r129_48 (wk_isub r129_50 (wk_i2lb r129_51 ⟨by omega, by omega⟩ ?_)))
        intro n26 h27 h28
        refine wk_lor5 r129_52 (by omega) (by omega) (by omega) ?_
        intro n29 h30
        refine wk_ls6 r129_53 rfl (wk_il4 r129_55 ?_)
        refine wk_ifeq r129_57 ⟨by omega, by omega⟩ ?_ ?_
        · intro h31
          refine wk_il5 r129_73 ?_
          refine wk_ifeq r129_75 ⟨by omega, by omega⟩ ?_ ?_
          · intro h32
            refine wk_ll6 r129_91 ?_
            subst hQ; exact wk_lret r129_93 (⟨rfl, _, rfl, hP0, hF0, by omega, by omega, by omega⟩)
          · intro h33
            exfalso
            omega
        · intro h34
          exfalso
          omega
def fm_m8129v11 : Nat := 0
/-- IslandHallModel.spelled -/
theorem m8129v11 {B : eB} (d : Nat) (M0 : Mm) (p0 : Int) (p1 : Int) (p2 : Int) (p3 : Int) (p4 : Int) (p5 : Int) (hP0 : Pw M0) (l0 : 119 ≤ p0) (u0 : p0 ≤ 119) (l1 : 111 ≤ p1) (u1 : p1 ≤ 111) (l2 : 114 ≤ p2) (u2 : p2 ≤ 114) (l3 : 100 ≤ p3) (u3 : p3 ≤ 100) (l4 : 115 ≤ p4) (u4 : p4 ≤ 115) (l5 : 0 ≤ p5) (u5 : p5 ≤ 0) : Ct B (d + 1) 129 [I p0, I p1, I p2, I p3, I p4, I p5] M0 (qL fun z M => Pw M ∧ Fr fm_m8129v11 M0 M ∧ z < 18446744073709551616 ∧ 24627347 ≤ z ∧ z ≤ 24627347) := by
  refine ct_of (d := d + 0) (k := 2) (L := [some (I p0), some (I p1), some (I p2), some (I p3), some (I p4), some (I p5), none, none]) rfl rfl rfl ?_
  have hF0 := Fr.rf fm_m8129v11 M0
  generalize hQ : (qL fun z M => Pw M ∧ Fr fm_m8129v11 M0 M ∧ z < 18446744073709551616 ∧ 24627347 ≤ z ∧ z ≤ 24627347) = Q
  refine wk_il0 r129_0 (wk_c2 r129_1 (wk_isub r129_3 (wk_i2lb r129_4 ⟨by omega, by omega⟩ ?_)))
  intro n1 h2 h3
  refine wk_ls6 r129_5 rfl (wk_il1 r129_7 ?_)
  refine wk_ifeq r129_8 ⟨by omega, by omega⟩ ?_ ?_
  · intro h4
    exfalso
    omega
  · intro h5
    refine wk_ll6 r129_11 (wk_c1 r129_13 (wk_lshl5 r129_14 (by omega) ?_))
    intro n6 h7
    refine wk_il1 r129_15 (wk_c2 r129_16 (wk_isub r129_18 (wk_i2lb r129_19 ⟨by omega, by omega⟩ ?_)))
    intro n8 h9 h10
    refine wk_lor5 r129_20 (by omega) (by omega) (by omega) ?_
    intro n11 h12
    refine wk_ls6 r129_21 rfl (wk_il2 r129_23 ?_)
    refine wk_ifeq r129_24 ⟨by omega, by omega⟩ ?_ ?_
    · intro h13
      exfalso
      omega
    · intro h14
      refine wk_ll6 r129_27 (wk_c1 r129_29 (wk_lshl5 r129_30 (by omega) ?_))
      intro n15 h16
      refine wk_il2 r129_31 (wk_c2 r129_32 (wk_isub r129_34 (wk_i2lb r129_35 ⟨by omega, by omega⟩ ?_)))
      intro n17 h18 h19
      refine wk_lor5 r129_36 (by omega) (by omega) (by omega) ?_
      intro n20 h21
      refine wk_ls6 r129_37 rfl (wk_il3 r129_39 ?_)
      refine wk_ifeq r129_40 ⟨by omega, by omega⟩ ?_ ?_
      · intro h22
        exfalso
        omega
      · intro h23
        refine wk_ll6 r129_43 (wk_c1 r129_45 (wk_lshl5 r129_46 (by omega) ?_))
        intro n24 h25
        refine wk_il3 r129_47 (wk_c2 r129_48 (wk_isub r129_50 (wk_i2lb r129_51 ⟨by omega, by omega⟩ ?_)))
        intro n26 h27 h28
        refine wk_lor5 r129_52 (by omega) (by omega) (by omega) ?_
        intro n29 h30
        refine wk_ls6 r129_53 rfl (wk_il4 r129_55 ?_)
        refine wk_ifeq r129_57 ⟨by omega, by omega⟩ ?_ ?_
        · intro h31
          exfalso
          omega
        · intro h32
          refine wk_ll6 r129_60 (wk_c1 r129_62 (wk_lshl5 r129_63 (by omega) ?_))
          intro n33 h34
          refine wk_il4 r129_64 (wk_c2 r129_66 (wk_isub r129_68 (wk_i2lb r129_69 ⟨by omega, by omega⟩ ?_)))
          intro n35 h36 h37
          refine wk_lor5 r129_70 (by omega) (by omega) (by omega) ?_
          intro n38 h39
          refine wk_ls6 r129_71 rfl (wk_il5 r129_73 ?_)
          refine wk_ifeq r129_75 ⟨by omega, by omega⟩ ?_ ?_
          · intro h40
            refine wk_ll6 r129_91 ?_
            subst hQ; exact wk_lret r129_93 (⟨rfl, _, rfl, hP0, hF0, by omega, by omega, by omega⟩)
          · intro h41
            exfalso
            omega
def fm_m8129v12 : Nat := 0
/-- IslandHallModel.spelled -/
theorem m8129v12 {B : eB} (d : Nat) (M0 : Mm) (p0 : Int) (p1 : Int) (p2 : Int) (p3 : Int) (p4 : Int) (p5 : Int) (hP0 : Pw M0) (l0 : 102 ≤ p0) (u0 : p0 ≤ 102) (l1 : 97 ≤ p1) (u1 : p1 ≤ 97) (l2 : 99 ≤ p2) (u2 : p2 ≤ 99) (l3 : 116 ≤ p3) (u3 : p3 ≤ 116) (l4 : 0 ≤ p4) (u4 : p4 ≤ 0) (l5 : 0 ≤ p5) (u5 : p5 ≤ 0) : Ct B (d + 1) 129 [I p0, I p1, I p2, I p3, I p4, I p5] M0 (qL fun z M => Pw M ∧ Fr fm_m8129v12 M0 M ∧ z < 18446744073709551616 ∧ 197748 ≤ z ∧ z ≤ 197748) := by
  refine ct_of (d := d + 0) (k := 2) (L := [some (I p0), some (I p1), some (I p2), some (I p3), some (I p4), some (I p5), none, none]) rfl rfl rfl ?_
  have hF0 := Fr.rf fm_m8129v12 M0
  generalize hQ : (qL fun z M => Pw M ∧ Fr fm_m8129v12 M0 M ∧ z < 18446744073709551616 ∧ 197748 ≤ z ∧ z ≤ 197748) = Q
  refine wk_il0 r129_0 (wk_c2 r129_1 (wk_isub r129_3 (wk_i2lb r129_4 ⟨by omega, by omega⟩ ?_)))
  intro n1 h2 h3
  refine wk_ls6 r129_5 rfl (wk_il1 r129_7 ?_)
  refine wk_ifeq r129_8 ⟨by omega, by omega⟩ ?_ ?_
  · intro h4
    exfalso
    omega
  · intro h5
    refine wk_ll6 r129_11 (wk_c1 r129_13 (wk_lshl5 r129_14 (by omega) ?_))
    intro n6 h7
    refine wk_il1 r129_15 (wk_c2 r129_16 (wk_isub r129_18 (wk_i2lb r129_19 ⟨by omega, by omega⟩ ?_)))
    intro n8 h9 h10
    refine wk_lor5 r129_20 (by omega) (by omega) (by omega) ?_
    intro n11 h12
    refine wk_ls6 r129_21 rfl (wk_il2 r129_23 ?_)
    refine wk_ifeq r129_24 ⟨by omega, by omega⟩ ?_ ?_
    · intro h13
      exfalso
      omega
    · intro h14
      refine wk_ll6 r129_27 (wk_c1 r129_29 (wk_lshl5 r129_30 (by omega) ?_))
      intro n15 h16
      refine wk_il2 r129_31 (wk_c2 r129_32 (wk_isub r129_34 (wk_i2lb r129_35 ⟨by omega, by omega⟩ ?_)))
      intro n17 h18 h19
      refine wk_lor5 r129_36 (by omega) (by omega) (by omega) ?_
      intro n20 h21
      refine wk_ls6 r129_37 rfl (wk_il3 r129_39 ?_)
      refine wk_ifeq r129_40 ⟨by omega, by omega⟩ ?_ ?_
      · intro h22
        exfalso
        omega
      · intro h23
        refine wk_ll6 r129_43 (wk_c1 r129_45 (wk_lshl5 r129_46 (by omega) ?_))
        intro n24 h25
        refine wk_il3 r129_47 (wk_c2 r129_48 (wk_isub r129_50 (wk_i2lb r129_51 ⟨by omega, by omega⟩ ?_)))
        intro n26 h27 h28
        refine wk_lor5 r129_52 (by omega) (by omega) (by omega) ?_
        intro n29 h30
        refine wk_ls6 r129_53 rfl (wk_il4 r129_55 ?_)
        refine wk_ifeq r129_57 ⟨by omega, by omega⟩ ?_ ?_
        · intro h31
          refine wk_il5 r129_73 ?_
          refine wk_ifeq r129_75 ⟨by omega, by omega⟩ ?_ ?_
          · intro h32
            refine wk_ll6 r129_91 ?_
            subst hQ; exact wk_lret r129_93 (⟨rfl, _, rfl, hP0, hF0, by omega, by omega, by omega⟩)
          · intro h33
            exfalso
            omega
        · intro h34
          exfalso
          omega
def fm_m8129v13 : Nat := 0
/-- IslandHallModel.spelled -/
theorem m8129v13 {B : eB} (d : Nat) (M0 : Mm) (p0 : Int) (p1 : Int) (p2 : Int) (p3 : Int) (p4 : Int) (p5 : Int) (hP0 : Pw M0) (l0 : 97 ≤ p0) (u0 : p0 ≤ 97) (l1 : 110 ≤ p1) (u1 : p1 ≤ 110) (l2 : 100 ≤ p2) (u2 : p2 ≤ 100) (l3 : 0 ≤ p3) (u3 : p3 ≤ 0) (l4 : 0 ≤ p4) (u4 : p4 ≤ 0) (l5 : 0 ≤ p5) (u5 : p5 ≤ 0) : Ct B (d + 1) 129 [I p0, I p1, I p2, I p3, I p4, I p5] M0 (qL fun z M => Pw M ∧ Fr fm_m8129v13 M0 M ∧ z < 18446744073709551616 ∧ 1476 ≤ z ∧ z ≤ 1476) := by
  refine ct_of (d := d + 0) (k := 2) (L := [some (I p0), some (I p1), some (I p2), some (I p3), some (I p4), some (I p5), none, none]) rfl rfl rfl ?_
  have hF0 := Fr.rf fm_m8129v13 M0
  generalize hQ : (qL fun z M => Pw M ∧ Fr fm_m8129v13 M0 M ∧ z < 18446744073709551616 ∧ 1476 ≤ z ∧ z ≤ 1476) = Q
  refine wk_il0 r129_0 (wk_c2 r129_1 (wk_isub r129_3 (wk_i2lb r129_4 ⟨by omega, by omega⟩ ?_)))
  intro n1 h2 h3
  refine wk_ls6 r129_5 rfl (wk_il1 r129_7 ?_)
  refine wk_ifeq r129_8 ⟨by omega, by omega⟩ ?_ ?_
  · intro h4
    exfalso
    omega
  · intro h5
    refine wk_ll6 r129_11 (wk_c1 r129_13 (wk_lshl5 r129_14 (by omega) ?_))
    intro n6 h7
    refine wk_il1 r129_15 (wk_c2 r129_16 (wk_isub r129_18 (wk_i2lb r129_19 ⟨by omega, by omega⟩ ?_)))
    intro n8 h9 h10
    refine wk_lor5 r129_20 (by omega) (by omega) (by omega) ?_
    intro n11 h12
    refine wk_ls6 r129_21 rfl (wk_il2 r129_23 ?_)
    refine wk_ifeq r129_24 ⟨by omega, by omega⟩ ?_ ?_
    · intro h13
      exfalso
      omega
    · intro h14
      refine wk_ll6 r129_27 (wk_c1 r129_29 (wk_lshl5 r129_30 (by omega) ?_))
      intro n15 h16
      refine wk_il2 r129_31 (wk_c2 r129_32 (wk_isub r129_34 (wk_i2lb r129_35 ⟨by omega, by omega⟩ ?_)))
      intro n17 h18 h19
      refine wk_lor5 r129_36 (by omega) (by omega) (by omega) ?_
      intro n20 h21
      refine wk_ls6 r129_37 rfl (wk_il3 r129_39 ?_)
      refine wk_ifeq r129_40 ⟨by omega, by omega⟩ ?_ ?_
      · intro h22
        refine wk_il4 r129_55 ?_
        refine wk_ifeq r129_57 ⟨by omega, by omega⟩ ?_ ?_
        · intro h23
          refine wk_il5 r129_73 ?_
          refine wk_ifeq r129_75 ⟨by omega, by omega⟩ ?_ ?_
          · intro h24
            refine wk_ll6 r129_91 ?_
            subst hQ; exact wk_lret r129_93 (⟨rfl, _, rfl, hP0, hF0, by omega, by omega, by omega⟩)
          · intro h25
            exfalso
            omega
        · intro h26
          exfalso
          omega
      · intro h27
        exfalso
        omega
def fm_m8129v14 : Nat := 0
/-- IslandHallModel.spelled -/
theorem m8129v14 {B : eB} (d : Nat) (M0 : Mm) (p0 : Int) (p1 : Int) (p2 : Int) (p3 : Int) (p4 : Int) (p5 : Int) (hP0 : Pw M0) (l0 : 111 ≤ p0) (u0 : p0 ≤ 111) (l1 : 114 ≤ p1) (u1 : p1 ≤ 114) (l2 : 0 ≤ p2) (u2 : p2 ≤ 0) (l3 : 0 ≤ p3) (u3 : p3 ≤ 0) (l4 : 0 ≤ p4) (u4 : p4 ≤ 0) (l5 : 0 ≤ p5) (u5 : p5 ≤ 0) : Ct B (d + 1) 129 [I p0, I p1, I p2, I p3, I p4, I p5] M0 (qL fun z M => Pw M ∧ Fr fm_m8129v14 M0 M ∧ z < 18446744073709551616 ∧ 498 ≤ z ∧ z ≤ 498) := by
  refine ct_of (d := d + 0) (k := 2) (L := [some (I p0), some (I p1), some (I p2), some (I p3), some (I p4), some (I p5), none, none]) rfl rfl rfl ?_
  have hF0 := Fr.rf fm_m8129v14 M0
  generalize hQ : (qL fun z M => Pw M ∧ Fr fm_m8129v14 M0 M ∧ z < 18446744073709551616 ∧ 498 ≤ z ∧ z ≤ 498) = Q
  refine wk_il0 r129_0 (wk_c2 r129_1 (wk_isub r129_3 (wk_i2lb r129_4 ⟨by omega, by omega⟩ ?_)))
  intro n1 h2 h3
  refine wk_ls6 r129_5 rfl (wk_il1 r129_7 ?_)
  refine wk_ifeq r129_8 ⟨by omega, by omega⟩ ?_ ?_
  · intro h4
    exfalso
    omega
  · intro h5
    refine wk_ll6 r129_11 (wk_c1 r129_13 (wk_lshl5 r129_14 (by omega) ?_))
    intro n6 h7
    refine wk_il1 r129_15 (wk_c2 r129_16 (wk_isub r129_18 (wk_i2lb r129_19 ⟨by omega, by omega⟩ ?_)))
    intro n8 h9 h10
    refine wk_lor5 r129_20 (by omega) (by omega) (by omega) ?_
    intro n11 h12
    refine wk_ls6 r129_21 rfl (wk_il2 r129_23 ?_)
    refine wk_ifeq r129_24 ⟨by omega, by omega⟩ ?_ ?_
    · intro h13
      refine wk_il3 r129_39 ?_
      refine wk_ifeq r129_40 ⟨by omega, by omega⟩ ?_ ?_
      · intro h14
        refine wk_il4 r129_55 ?_
        refine wk_ifeq r129_57 ⟨by omega, by omega⟩ ?_ ?_
        · intro h15
          refine wk_il5 r129_73 ?_
          refine wk_ifeq r129_75 ⟨by omega, by omega⟩ ?_ ?_
          · intro h16
            refine wk_ll6 r129_91 ?_
            subst hQ; exact wk_lret r129_93 (⟨rfl, _, rfl, hP0, hF0, by omega, by omega, by omega⟩)
          · intro h17
            exfalso
            omega
        · intro h18
          exfalso
          omega
      · intro h19
        exfalso
        omega
    · intro h20
      exfalso
      omega
def fm_m8129v15 : Nat := 0
/-- IslandHallModel.spelled -/
theorem m8129v15 {B : eB} (d : Nat) (M0 : Mm) (p0 : Int) (p1 : Int) (p2 : Int) (p3 : Int) (p4 : Int) (p5 : Int) (hP0 : Pw M0) (l0 : 110 ≤ p0) (u0 : p0 ≤ 110) (l1 : 111 ≤ p1) (u1 : p1 ≤ 111) (l2 : 116 ≤ p2) (u2 : p2 ≤ 116) (l3 : 0 ≤ p3) (u3 : p3 ≤ 0) (l4 : 0 ≤ p4) (u4 : p4 ≤ 0) (l5 : 0 ≤ p5) (u5 : p5 ≤ 0) : Ct B (d + 1) 129 [I p0, I p1, I p2, I p3, I p4, I p5] M0 (qL fun z M => Pw M ∧ Fr fm_m8129v15 M0 M ∧ z < 18446744073709551616 ∧ 14836 ≤ z ∧ z ≤ 14836) := by
  refine ct_of (d := d + 0) (k := 2) (L := [some (I p0), some (I p1), some (I p2), some (I p3), some (I p4), some (I p5), none, none]) rfl rfl rfl ?_
  have hF0 := Fr.rf fm_m8129v15 M0
  generalize hQ : (qL fun z M => Pw M ∧ Fr fm_m8129v15 M0 M ∧ z < 18446744073709551616 ∧ 14836 ≤ z ∧ z ≤ 14836) = Q
  refine wk_il0 r129_0 (wk_c2 r129_1 (wk_isub r129_3 (wk_i2lb r129_4 ⟨by omega, by omega⟩ ?_)))
  intro n1 h2 h3
  refine wk_ls6 r129_5 rfl (wk_il1 r129_7 ?_)
  refine wk_ifeq r129_8 ⟨by omega, by omega⟩ ?_ ?_
  · intro h4
    exfalso
    omega
  · intro h5
    refine wk_ll6 r129_11 (wk_c1 r129_13 (wk_lshl5 r129_14 (by omega) ?_))
    intro n6 h7
    refine wk_il1 r129_15 (wk_c2 r129_16 (wk_isub r129_18 (wk_i2lb r129_19 ⟨by omega, by omega⟩ ?_)))
    intro n8 h9 h10
    refine wk_lor5 r129_20 (by omega) (by omega) (by omega) ?_
    intro n11 h12
    refine wk_ls6 r129_21 rfl (wk_il2 r129_23 ?_)
    refine wk_ifeq r129_24 ⟨by omega, by omega⟩ ?_ ?_
    · intro h13
      exfalso
      omega
    · intro h14
      refine wk_ll6 r129_27 (wk_c1 r129_29 (wk_lshl5 r129_30 (by omega) ?_))
      intro n15 h16
      refine wk_il2 r129_31 (wk_c2 r129_32 (wk_isub r129_34 (wk_i2lb r129_35 ⟨by omega, by omega⟩ ?_)))
      intro n17 h18 h19
      refine wk_lor5 r129_36 (by omega) (by omega) (by omega) ?_
      intro n20 h21
      refine wk_ls6 r129_37 rfl (wk_il3 r129_39 ?_)
      refine wk_ifeq r129_40 ⟨by omega, by omega⟩ ?_ ?_
      · intro h22
        refine wk_il4 r129_55 ?_
        refine wk_ifeq r129_57 ⟨by omega, by omega⟩ ?_ ?_
        · intro h23
          refine wk_il5 r129_73 ?_
          refine wk_ifeq r129_75 ⟨by omega, by omega⟩ ?_ ?_
          · intro h24
            refine wk_ll6 r129_91 ?_
            subst hQ; exact wk_lret r129_93 (⟨rfl, _, rfl, hP0, hF0, by omega, by omega, by omega⟩)
          · intro h25
            exfalso
            omega
        · intro h26
          exfalso
          omega
      · intro h27
        exfalso
        omega
def fm_m8129v16 : Nat := 0
/-- IslandHallModel.spelled -/
theorem m8129v16 {B : eB} (d : Nat) (M0 : Mm) (p0 : Int) (p1 : Int) (p2 : Int) (p3 : Int) (p4 : Int) (p5 : Int) (hP0 : Pw M0) (l0 : 105 ≤ p0) (u0 : p0 ≤ 105) (l1 : 115 ≤ p1) (u1 : p1 ≤ 115) (l2 : 0 ≤ p2) (u2 : p2 ≤ 0) (l3 : 0 ≤ p3) (u3 : p3 ≤ 0) (l4 : 0 ≤ p4) (u4 : p4 ≤ 0) (l5 : 0 ≤ p5) (u5 : p5 ≤ 0) : Ct B (d + 1) 129 [I p0, I p1, I p2, I p3, I p4, I p5] M0 (qL fun z M => Pw M ∧ Fr fm_m8129v16 M0 M ∧ z < 18446744073709551616 ∧ 307 ≤ z ∧ z ≤ 307) := by
  refine ct_of (d := d + 0) (k := 2) (L := [some (I p0), some (I p1), some (I p2), some (I p3), some (I p4), some (I p5), none, none]) rfl rfl rfl ?_
  have hF0 := Fr.rf fm_m8129v16 M0
  generalize hQ : (qL fun z M => Pw M ∧ Fr fm_m8129v16 M0 M ∧ z < 18446744073709551616 ∧ 307 ≤ z ∧ z ≤ 307) = Q
  refine wk_il0 r129_0 (wk_c2 r129_1 (wk_isub r129_3 (wk_i2lb r129_4 ⟨by omega, by omega⟩ ?_)))
  intro n1 h2 h3
  refine wk_ls6 r129_5 rfl (wk_il1 r129_7 ?_)
  refine wk_ifeq r129_8 ⟨by omega, by omega⟩ ?_ ?_
  · intro h4
    exfalso
    omega
  · intro h5
    refine wk_ll6 r129_11 (wk_c1 r129_13 (wk_lshl5 r129_14 (by omega) ?_))
    intro n6 h7
    refine wk_il1 r129_15 (wk_c2 r129_16 (wk_isub r129_18 (wk_i2lb r129_19 ⟨by omega, by omega⟩ ?_)))
    intro n8 h9 h10
    refine wk_lor5 r129_20 (by omega) (by omega) (by omega) ?_
    intro n11 h12
    refine wk_ls6 r129_21 rfl (wk_il2 r129_23 ?_)
    refine wk_ifeq r129_24 ⟨by omega, by omega⟩ ?_ ?_
    · intro h13
      refine wk_il3 r129_39 ?_
      refine wk_ifeq r129_40 ⟨by omega, by omega⟩ ?_ ?_
      · intro h14
        refine wk_il4 r129_55 ?_
        refine wk_ifeq r129_57 ⟨by omega, by omega⟩ ?_ ?_
        · intro h15
          refine wk_il5 r129_73 ?_
          refine wk_ifeq r129_75 ⟨by omega, by omega⟩ ?_ ?_
          · intro h16
            refine wk_ll6 r129_91 ?_
            subst hQ; exact wk_lret r129_93 (⟨rfl, _, rfl, hP0, hF0, by omega, by omega, by omega⟩)
          · intro h17
            exfalso
            omega
        · intro h18
          exfalso
          omega
      · intro h19
        exfalso
        omega
    · intro h20
      exfalso
      omega
def fm_m8129v17 : Nat := 0
/-- IslandHallModel.spelled -/
theorem m8129v17 {B : eB} (d : Nat) (M0 : Mm) (p0 : Int) (p1 : Int) (p2 : Int) (p3 : Int) (p4 : Int) (p5 : Int) (hP0 : Pw M0) (l0 : 97 ≤ p0) (u0 : p0 ≤ 97) (l1 : 115 ≤ p1) (u1 : p1 ≤ 115) (l2 : 0 ≤ p2) (u2 : p2 ≤ 0) (l3 : 0 ≤ p3) (u3 : p3 ≤ 0) (l4 : 0 ≤ p4) (u4 : p4 ≤ 0) (l5 : 0 ≤ p5) (u5 : p5 ≤ 0) : Ct B (d + 1) 129 [I p0, I p1, I p2, I p3, I p4, I p5] M0 (qL fun z M => Pw M ∧ Fr fm_m8129v17 M0 M ∧ z < 18446744073709551616 ∧ 51 ≤ z ∧ z ≤ 51) := by
  refine ct_of (d := d + 0) (k := 2) (L := [some (I p0), some (I p1), some (I p2), some (I p3), some (I p4), some (I p5), none, none]) rfl rfl rfl ?_
  have hF0 := Fr.rf fm_m8129v17 M0
  generalize hQ : (qL fun z M => Pw M ∧ Fr fm_m8129v17 M0 M ∧ z < 18446744073709551616 ∧ 51 ≤ z ∧ z ≤ 51) = Q
  refine wk_il0 r129_0 (wk_c2 r129_1 (wk_isub r129_3 (wk_i2lb r129_4 ⟨by omega, by omega⟩ ?_)))
  intro n1 h2 h3
  refine wk_ls6 r129_5 rfl (wk_il1 r129_7 ?_)
  refine wk_ifeq r129_8 ⟨by omega, by omega⟩ ?_ ?_
  · intro h4
    exfalso
    omega
  · intro h5
    refine wk_ll6 r129_11 (wk_c1 r129_13 (wk_lshl5 r129_14 (by omega) ?_))
    intro n6 h7
    refine wk_il1 r129_15 (wk_c2 r129_16 (wk_isub r129_18 (wk_i2lb r129_19 ⟨by omega, by omega⟩ ?_)))
    intro n8 h9 h10
    refine wk_lor5 r129_20 (by omega) (by omega) (by omega) ?_
    intro n11 h12
    refine wk_ls6 r129_21 rfl (wk_il2 r129_23 ?_)
    refine wk_ifeq r129_24 ⟨by omega, by omega⟩ ?_ ?_
    · intro h13
      refine wk_il3 r129_39 ?_
      refine wk_ifeq r129_40 ⟨by omega, by omega⟩ ?_ ?_
      · intro h14
        refine wk_il4 r129_55 ?_
        refine wk_ifeq r129_57 ⟨by omega, by omega⟩ ?_ ?_
        · intro h15
          refine wk_il5 r129_73 ?_
          refine wk_ifeq r129_75 ⟨by omega, by omega⟩ ?_ ?_
          · intro h16
            refine wk_ll6 r129_91 ?_
            subst hQ; exact wk_lret r129_93 (⟨rfl, _, rfl, hP0, hF0, by omega, by omega, by omega⟩)
          · intro h17
            exfalso
            omega
        · intro h18
          exfalso
          omega
      · intro h19
        exfalso
        omega
    · intro h20
      exfalso
      omega
def fm_m8129v18 : Nat := 0
/-- IslandHallModel.spelled -/
theorem m8129v18 {B : eB} (d : Nat) (M0 : Mm) (p0 : Int) (p1 : Int) (p2 : Int) (p3 : Int) (p4 : Int) (p5 : Int) (hP0 : Pw M0) (l0 : 115 ≤ p0) (u0 : p0 ≤ 115) (l1 : 97 ≤ p1) (u1 : p1 ≤ 97) (l2 : 121 ≤ p2) (u2 : p2 ≤ 121) (l3 : 115 ≤ p3) (u3 : p3 ≤ 115) (l4 : 0 ≤ p4) (u4 : p4 ≤ 0) (l5 : 0 ≤ p5) (u5 : p5 ≤ 0) : Ct B (d + 1) 129 [I p0, I p1, I p2, I p3, I p4, I p5] M0 (qL fun z M => Pw M ∧ Fr fm_m8129v18 M0 M ∧ z < 18446744073709551616 ∧ 624435 ≤ z ∧ z ≤ 624435) := by
  refine ct_of (d := d + 0) (k := 2) (L := [some (I p0), some (I p1), some (I p2), some (I p3), some (I p4), some (I p5), none, none]) rfl rfl rfl ?_
  have hF0 := Fr.rf fm_m8129v18 M0
  generalize hQ : (qL fun z M => Pw M ∧ Fr fm_m8129v18 M0 M ∧ z < 18446744073709551616 ∧ 624435 ≤ z ∧ z ≤ 624435) = Q
  refine wk_il0 r129_0 (wk_c2 r129_1 (wk_isub r129_3 (wk_i2lb r129_4 ⟨by omega, by omega⟩ ?_)))
  intro n1 h2 h3
  refine wk_ls6 r129_5 rfl (wk_il1 r129_7 ?_)
  refine wk_ifeq r129_8 ⟨by omega, by omega⟩ ?_ ?_
  · intro h4
    exfalso
    omega
  · intro h5
    refine wk_ll6 r129_11 (wk_c1 r129_13 (wk_lshl5 r129_14 (by omega) ?_))
    intro n6 h7
    refine wk_il1 r129_15 (wk_c2 r129_16 (wk_isub r129_18 (wk_i2lb r129_19 ⟨by omega, by omega⟩ ?_)))
    intro n8 h9 h10
    refine wk_lor5 r129_20 (by omega) (by omega) (by omega) ?_
    intro n11 h12
    refine wk_ls6 r129_21 rfl (wk_il2 r129_23 ?_)
    refine wk_ifeq r129_24 ⟨by omega, by omega⟩ ?_ ?_
    · intro h13
      exfalso
      omega
    · intro h14
      refine wk_ll6 r129_27 (wk_c1 r129_29 (wk_lshl5 r129_30 (by omega) ?_))
      intro n15 h16
      refine wk_il2 r129_31 (wk_c2 r129_32 (wk_isub r129_34 (wk_i2lb r129_35 ⟨by omega, by omega⟩ ?_)))
      intro n17 h18 h19
      refine wk_lor5 r129_36 (by omega) (by omega) (by omega) ?_
      intro n20 h21
      refine wk_ls6 r129_37 rfl (wk_il3 r129_39 ?_)
      refine wk_ifeq r129_40 ⟨by omega, by omega⟩ ?_ ?_
      · intro h22
        exfalso
        omega
      · intro h23
        refine wk_ll6 r129_43 (wk_c1 r129_45 (wk_lshl5 r129_46 (by omega) ?_))
        intro n24 h25
        refine wk_il3 r129_47 (wk_c2 r129_48 (wk_isub r129_50 (wk_i2lb r129_51 ⟨by omega, by omega⟩ ?_)))
        intro n26 h27 h28
        refine wk_lor5 r129_52 (by omega) (by omega) (by omega) ?_
        intro n29 h30
        refine wk_ls6 r129_53 rfl (wk_il4 r129_55 ?_)
        refine wk_ifeq r129_57 ⟨by omega, by omega⟩ ?_ ?_
        · intro h31
          refine wk_il5 r129_73 ?_
          refine wk_ifeq r129_75 ⟨by omega, by omega⟩ ?_ ?_
          · intro h32
            refine wk_ll6 r129_91 ?_
            subst hQ; exact wk_lret r129_93 (⟨rfl, _, rfl, hP0, hF0, by omega, by omega, by omega⟩)
          · intro h33
            exfalso
            omega
        · intro h34
          exfalso
          omega
def fm_m8129v19 : Nat := 0
/-- IslandHallModel.spelled -/
theorem m8129v19 {B : eB} (d : Nat) (M0 : Mm) (p0 : Int) (p1 : Int) (p2 : Int) (p3 : Int) (p4 : Int) (p5 : Int) (hP0 : Pw M0) (l0 : 114 ≤ p0) (u0 : p0 ≤ 114) (l1 : 111 ≤ p1) (u1 : p1 ≤ 111) (l2 : 97 ≤ p2) (u2 : p2 ≤ 97) (l3 : 100 ≤ p3) (u3 : p3 ≤ 100) (l4 : 0 ≤ p4) (u4 : p4 ≤ 0) (l5 : 0 ≤ p5) (u5 : p5 ≤ 0) : Ct B (d + 1) 129 [I p0, I p1, I p2, I p3, I p4, I p5] M0 (qL fun z M => Pw M ∧ Fr fm_m8129v19 M0 M ∧ z < 18446744073709551616 ∧ 605220 ≤ z ∧ z ≤ 605220) := by
  refine ct_of (d := d + 0) (k := 2) (L := [some (I p0), some (I p1), some (I p2), some (I p3), some (I p4), some (I p5), none, none]) rfl rfl rfl ?_
  have hF0 := Fr.rf fm_m8129v19 M0
  generalize hQ : (qL fun z M => Pw M ∧ Fr fm_m8129v19 M0 M ∧ z < 18446744073709551616 ∧ 605220 ≤ z ∧ z ≤ 605220) = Q
  refine wk_il0 r129_0 (wk_c2 r129_1 (wk_isub r129_3 (wk_i2lb r129_4 ⟨by omega, by omega⟩ ?_)))
  intro n1 h2 h3
  refine wk_ls6 r129_5 rfl (wk_il1 r129_7 ?_)
  refine wk_ifeq r129_8 ⟨by omega, by omega⟩ ?_ ?_
  · intro h4
    exfalso
    omega
  · intro h5
    refine wk_ll6 r129_11 (wk_c1 r129_13 (wk_lshl5 r129_14 (by omega) ?_))
    intro n6 h7
    refine wk_il1 r129_15 (wk_c2 r129_16 (wk_isub r129_18 (wk_i2lb r129_19 ⟨by omega, by omega⟩ ?_)))
    intro n8 h9 h10
    refine wk_lor5 r129_20 (by omega) (by omega) (by omega) ?_
    intro n11 h12
    refine wk_ls6 r129_21 rfl (wk_il2 r129_23 ?_)
    refine wk_ifeq r129_24 ⟨by omega, by omega⟩ ?_ ?_
    · intro h13
      exfalso
      omega
    · intro h14
      refine wk_ll6 r129_27 (wk_c1 r129_29 (wk_lshl5 r129_30 (by omega) ?_))
      intro n15 h16
      refine wk_il2 r129_31 (wk_c2 r129_32 (wk_isub r129_34 (wk_i2lb r129_35 ⟨by omega, by omega⟩ ?_)))
      intro n17 h18 h19
      refine wk_lor5 r129_36 (by omega) (by omega) (by omega) ?_
      intro n20 h21
      refine wk_ls6 r129_37 rfl (wk_il3 r129_39 ?_)
      refine wk_ifeq r129_40 ⟨by omega, by omega⟩ ?_ ?_
      · intro h22
        exfalso
        omega
      · intro h23
        refine wk_ll6 r129_43 (wk_c1 r129_45 (wk_lshl5 r129_46 (by omega) ?_))
        intro n24 h25
        refine wk_il3 r129_47 (wk_c2 r129_48 (wk_isub r129_50 (wk_i2lb r129_51 ⟨by omega, by omega⟩ ?_)))
        intro n26 h27 h28
        refine wk_lor5 r129_52 (by omega) (by omega) (by omega) ?_
        intro n29 h30
        refine wk_ls6 r129_53 rfl (wk_il4 r129_55 ?_)
        refine wk_ifeq r129_57 ⟨by omega, by omega⟩ ?_ ?_
        · intro h31
          refine wk_il5 r129_73 ?_
          refine wk_ifeq r129_75 ⟨by omega, by omega⟩ ?_ ?_
          · intro h32
            refine wk_ll6 r129_91 ?_
            subst hQ; exact wk_lret r129_93 (⟨rfl, _, rfl, hP0, hF0, by omega, by omega, by omega⟩)
          · intro h33
            exfalso
            omega
        · intro h34
          exfalso
          omega
def fm_m8129v20 : Nat := 0
/-- IslandHallModel.spelled -/
theorem m8129v20 {B : eB} (d : Nat) (M0 : Mm) (p0 : Int) (p1 : Int) (p2 : Int) (p3 : Int) (p4 : Int) (p5 : Int) (hP0 : Pw M0) (l0 : 109 ≤ p0) (u0 : p0 ≤ 109) (l1 : 97 ≤ p1) (u1 : p1 ≤ 97) (l2 : 110 ≤ p2) (u2 : p2 ≤ 110) (l3 : 121 ≤ p3) (u3 : p3 ≤ 121) (l4 : 0 ≤ p4) (u4 : p4 ≤ 0) (l5 : 0 ≤ p5) (u5 : p5 ≤ 0) : Ct B (d + 1) 129 [I p0, I p1, I p2, I p3, I p4, I p5] M0 (qL fun z M => Pw M ∧ Fr fm_m8129v20 M0 M ∧ z < 18446744073709551616 ∧ 427481 ≤ z ∧ z ≤ 427481) := by
  refine ct_of (d := d + 0) (k := 2) (L := [some (I p0), some (I p1), some (I p2), some (I p3), some (I p4), some (I p5), none, none]) rfl rfl rfl ?_
  have hF0 := Fr.rf fm_m8129v20 M0
  generalize hQ : (qL fun z M => Pw M ∧ Fr fm_m8129v20 M0 M ∧ z < 18446744073709551616 ∧ 427481 ≤ z ∧ z ≤ 427481) = Q
  refine wk_il0 r129_0 (wk_c2 r129_1 (wk_isub r129_3 (wk_i2lb r129_4 ⟨by omega, by omega⟩ ?_)))
  intro n1 h2 h3
  refine wk_ls6 r129_5 rfl (wk_il1 r129_7 ?_)
  refine wk_ifeq r129_8 ⟨by omega, by omega⟩ ?_ ?_
  · intro h4
    exfalso
    omega
  · intro h5
    refine wk_ll6 r129_11 (wk_c1 r129_13 (wk_lshl5 r129_14 (by omega) ?_))
    intro n6 h7
    refine wk_il1 r129_15 (wk_c2 r129_16 (wk_isub r129_18 (wk_i2lb r129_19 ⟨by omega, by omega⟩ ?_)))
    intro n8 h9 h10
    refine wk_lor5 r129_20 (by omega) (by omega) (by omega) ?_
    intro n11 h12
    refine wk_ls6 r129_21 rfl (wk_il2 r129_23 ?_)
    refine wk_ifeq r129_24 ⟨by omega, by omega⟩ ?_ ?_
    · intro h13
      exfalso
      omega
    · intro h14
      refine wk_ll6 r129_27 (wk_c1 r129_29 (wk_lshl5 r129_30 (by omega) ?_))
      intro n15 h16
      refine wk_il2 r129_31 (wk_c2 r129_32 (wk_isub r129_34 (wk_i2lb r129_35 ⟨by omega, by omega⟩ ?_)))
      intro n17 h18 h19
      refine wk_lor5 r129_36 (by omega) (by omega) (by omega) ?_
      intro n20 h21
      refine wk_ls6 r129_37 rfl (wk_il3 r129_39 ?_)
      refine wk_ifeq r129_40 ⟨by omega, by omega⟩ ?_ ?_
      · intro h22
        exfalso
        omega
      · intro h23
        refine wk_ll6 r129_43 (wk_c1 r129_45 (wk_lshl5 r129_46 (by omega) ?_))
        intro n24 h25
        refine wk_il3 r129_47 (wk_c2 r129_48 (wk_isub r129_50 (wk_i2lb r129_51 ⟨by omega, by omega⟩ ?_)))
        intro n26 h27 h28
        refine wk_lor5 r129_52 (by omega) (by omega) (by omega) ?_
        intro n29 h30
        refine wk_ls6 r129_53 rfl (wk_il4 r129_55 ?_)
        refine wk_ifeq r129_57 ⟨by omega, by omega⟩ ?_ ?_
        · intro h31
          refine wk_il5 r129_73 ?_
          refine wk_ifeq r129_75 ⟨by omega, by omega⟩ ?_ ?_
          · intro h32
            refine wk_ll6 r129_91 ?_
            subst hQ; exact wk_lret r129_93 (⟨rfl, _, rfl, hP0, hF0, by omega, by omega, by omega⟩)
          · intro h33
            exfalso
            omega
        · intro h34
          exfalso
          omega
