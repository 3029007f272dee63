
def fm_n8050_739 : Nat := 414588446143397336432733908100009779012786077071256682959470592
/-- IslandHallModel.begins -/
theorem n8050_739 {B : eB} (d : Nat) (M0 : Mm) (p1 : Int) (x739_27 : Int) (x739_29 : Int) (T : Int → Int) (hP0 : Pw M0) (l1 : (-2147483648) ≤ p1) (u1 : p1 ≤ 2147483647) (ex739_27 : M0 739 27 = x739_27) (lx739_27 : 0 ≤ x739_27) (ux739_27 : x739_27 ≤ 500) (ex739_29 : M0 739 29 = x739_29) (lx739_29 : (-1) ≤ x739_29) (ux739_29 : x739_29 ≤ 501) (xp0 : ∀ k : Int, 0 ≤ k → k < p1 → M0 755 k = T k) : Ct B (d + 3) 50 [R 739, I p1] M0 (qI fun z M => Pw M ∧ Fr fm_n8050_739 M0 M ∧ 0 ≤ z ∧ z ≤ 1 ∧ 0 ≤ x739_27 + (-1) * (M 739 27) ∧ 0 ≤ M 739 29 + 1 ∧ 0 ≤ M 739 0 ∧ (z = 1 → 0 ≤ (-1) * (M 739 28)) ∧ (z = 1 → 0 ≤ (-1) * (M 739 45)) ∧ (z = 1 → 0 ≤ M 739 30 + (-1) * (M 739 31)) ∧ (z = 1 → 0 ≤ M 739 31 + (-1) * (M 739 33) + (-1) * (M 739 34)) ∧ (z = 1 → 0 ≤ (-1) * (M 739 31) + M 739 33 + M 739 34) ∧ (z = 1 → 0 ≤ 4 * (M 739 34) + (-1) * (M 739 32)) ∧ ((z = 1 ∧ 0 ≤ p1 ∧ p1 ≤ x739_27 ∧ M 739 27 = 0) ∨ (z = 0 ∧ (p1 < 0 ∨ x739_27 < p1) ∧ M 739 27 = x739_27)) ∧ (z = 1 → TK M) ∧ ((z = 1 ∧ TXQ T M ∧ TTP T M ∧ M 739 33 = sk T p1 0 ∧ M 739 30 = p1 ∧ M 739 29 = -1 ∧ M 739 28 = 0 ∧ M 739 0 = 0) ∨ (z = 0 ∧ (p1 < 0 ∨ x739_27 < p1) ∧ M 739 0 = 1 ∧ M 739 29 = x739_29))) := by
  refine ct_of (d := d + 2) (k := 0) (L := [some (R 739), some (I p1)]) rfl rfl rfl ?_
  have hF0 := Fr.rf fm_n8050_739 M0
  generalize hQ : (qI fun z M => Pw M ∧ Fr fm_n8050_739 M0 M ∧ 0 ≤ z ∧ z ≤ 1 ∧ 0 ≤ x739_27 + (-1) * (M 739 27) ∧ 0 ≤ M 739 29 + 1 ∧ 0 ≤ M 739 0 ∧ (z = 1 → 0 ≤ (-1) * (M 739 28)) ∧ (z = 1 → 0 ≤ (-1) * (M 739 45)) ∧ (z = 1 → 0 ≤ M 739 30 + (-1) * (M 739 31)) ∧ (z = 1 → 0 ≤ M 739 31 + (-1) * (M 739 33) + (-1) * (M 739 34)) ∧ (z = 1 → 0 ≤ (-1) * (M 739 31) + M 739 33 + M 739 34) ∧ (z = 1 → 0 ≤ 4 * (M 739 34) + (-1) * (M 739 32)) ∧ ((z = 1 ∧ 0 ≤ p1 ∧ p1 ≤ x739_27 ∧ M 739 27 = 0) ∨ (z = 0 ∧ (p1 < 0 ∨ x739_27 < p1) ∧ M 739 27 = x739_27)) ∧ (z = 1 → TK M) ∧ ((z = 1 ∧ TXQ T M ∧ TTP T M ∧ M 739 33 = sk T p1 0 ∧ M 739 30 = p1 ∧ M 739 29 = -1 ∧ M 739 28 = 0 ∧ M 739 0 = 0) ∨ (z = 0 ∧ (p1 < 0 ∨ x739_27 < p1) ∧ M 739 0 = 1 ∧ M 739 29 = x739_29))) = Q
  refine wk_al0 r50_0 (wk_c1 r50_1 (wk_putfi81 r50_2 fd_739_0 (wk_nw g_739_0 rfl hP0 hF0 (uf_739_0 (by decide)) ?_)))
  intro M1 hP2 hF3 e4
  refine wk_al0 r50_5 (wk_il1 r50_6 ?_)
  refine wk_iflt r50_7 ⟨by omega, by omega⟩ ?_ ?_
  · intro h5
    refine wk_c1 r50_22 (wk_c1 r50_23 (wk_cv3 r50_24 kc_739_123 rfl (n8123_739 _ M1 0 1 0 hP2 (by decide) (by decide) (by decide) (by decide) (mUp_at e4) (by first | with_reducible assumption | omega) (by first | with_reducible assumption | omega)) (cqI ?_)))
    rintro v15 M6 ⟨hP7, hQ8, h16, h17, h10, h11, xh12, xh13, xh14⟩
    have hF9 : Fr fm_n8050_739 M0 M6 := hF3.tr hQ8 rfl
    obtain ⟨v18, e19⟩ : ∃ v, M6 739 0 = v := ⟨_, rfl⟩
    have h20 := (bf_739_0 hP7).1; rw [e19] at h20
    have h21 := (bf_739_0 hP7).2; rw [e19] at h21
    have h22 := xh12 (mUp_at e4)
    have h23 := (mUp_at e4)
    refine wk_ifne r50_27 ⟨by omega, by omega⟩ ?_ ?_
    · intro h24
      exfalso
      omega
    · intro h25
      refine wk_c1 r50_30 ?_
      subst hQ; exact wk_zret r50_31 (by decide) (⟨rfl, _, rfl, hP7, hF9, by omega, by omega, by have := ((hQ8.at g_739_27 rfl).trans (mUp_no e4 ex739_27 (Or.inr (by decide)))); omega, by have := ((hQ8.at g_739_29 rfl).trans (mUp_no e4 ex739_29 (Or.inr (by decide)))); omega, by have := e19; omega, by omega, by omega, by omega, by omega, by omega, by omega, by have := ((hQ8.at g_739_27 rfl).trans (mUp_no e4 ex739_27 (Or.inr (by decide)))); omega, fun q => absurd q (by decide), Or.inr ⟨by omega, by omega, by have := e19; omega, ((hQ8.at g_739_29 rfl).trans (mUp_no e4 ex739_29 (Or.inr (by decide))))⟩⟩)
  · intro h26
    refine wk_il1 r50_10 (wk_al0 r50_11 (wk_getfi r50_12 fd_739_27 (mUp_no e4 ex739_27 (Or.inr (by decide))) ?_))
    refine wk_icgt r50_15 ⟨by omega, by omega⟩ ⟨by omega, by omega⟩ ?_ ?_
    · intro h27
      refine wk_c1 r50_22 (wk_c1 r50_23 (wk_cv3 r50_24 kc_739_123 rfl (n8123_739 _ M1 0 1 0 hP2 (by decide) (by decide) (by decide) (by decide) (mUp_at e4) (by first | with_reducible assumption | omega) (by first | with_reducible assumption | omega)) (cqI ?_)))
      rintro v37 M28 ⟨hP29, hQ30, h38, h39, h32, h33, xh34, xh35, xh36⟩
      have hF31 : Fr fm_n8050_739 M0 M28 := hF3.tr hQ30 rfl
      obtain ⟨v40, e41⟩ : ∃ v, M28 739 0 = v := ⟨_, rfl⟩
      have h42 := (bf_739_0 hP29).1; rw [e41] at h42
      have h43 := (bf_739_0 hP29).2; rw [e41] at h43
      have h44 := xh34 (mUp_at e4)
      have h45 := (mUp_at e4)
      refine wk_ifne r50_27 ⟨by omega, by omega⟩ ?_ ?_
      · intro h46
        exfalso
        omega
      · intro h47
        refine wk_c1 r50_30 ?_
        subst hQ; exact wk_zret r50_31 (by decide) (⟨rfl, _, rfl, hP29, hF31, by omega, by omega, by have := ((hQ30.at g_739_27 rfl).trans (mUp_no e4 ex739_27 (Or.inr (by decide)))); omega, by have := ((hQ30.at g_739_29 rfl).trans (mUp_no e4 ex739_29 (Or.inr (by decide)))); omega, by have := e41; omega, by omega, by omega, by omega, by omega, by omega, by omega, by have := ((hQ30.at g_739_27 rfl).trans (mUp_no e4 ex739_27 (Or.inr (by decide)))); omega, fun q => absurd q (by decide), Or.inr ⟨by omega, by omega, by have := e41; omega, ((hQ30.at g_739_29 rfl).trans (mUp_no e4 ex739_29 (Or.inr (by decide))))⟩⟩)
    · intro h48
      refine wk_c1 r50_18 (wk_goto r50_19 (wk_c1 r50_23 (wk_cv3 r50_24 kc_739_123 rfl (n8123_739v1 _ M1 1 1 0 hP2 (by decide) (by decide) (by decide) (by decide) (mUp_at e4) (by first | with_reducible assumption | omega) (by first | with_reducible assumption | omega)) (cqI ?_))))
      rintro v58 M49 ⟨hP50, hQ51, h59, h60, h53, h54, xh55, xh56, xh57⟩
      obtain rfl := Fr.same hQ51
      have e61 := (mUp_at e4)
      have h62 := xh55 (mUp_at e4)
      have h63 := (mUp_at e4)
      refine wk_ifne r50_27 ⟨by omega, by omega⟩ ?_ ?_
      · intro h64
        replace h54 := h54 (z1_of h59 h60 h64)
        refine wk_al0 r50_32 (wk_c1 r50_33 (wk_putfi81 r50_34 fd_739_27 (wk_nw g_739_27 rfl hP2 hF3 (uf_739_27 (by decide)) ?_)))
        intro M65 hP66 hF67 e68
        refine wk_al0 r50_37 (wk_c1 r50_38 (wk_putfi81 r50_39 fd_739_29 (wk_nw g_739_29 rfl hP66 hF67 (uf_739_29 (by decide)) ?_)))
        intro M69 hP70 hF71 e72
        refine wk_al0 r50_42 (wk_c1 r50_43 (wk_putfi81 r50_44 fd_739_28 (wk_nw g_739_28 rfl hP70 hF71 (uf_739_28 (by decide)) ?_)))
        intro M73 hP74 hF75 e76
        refine wk_al0 r50_47 (wk_il1 r50_48 (wk_putfi81 r50_49 fd_739_30 (wk_nw g_739_30 rfl hP74 hF75 (uf_739_30 ⟨by omega, by omega⟩) ?_)))
        intro M77 hP78 hF79 e80
        refine wk_al0 r50_52 (wk_c1 r50_53 (wk_putfi81 r50_54 fd_739_31 (wk_nw g_739_31 rfl hP78 hF79 (uf_739_31 (by decide)) ?_)))
        intro M81 hP82 hF83 e84
        refine wk_al0 r50_57 (wk_c1 r50_58 (wk_putfi81 r50_59 fd_739_45 (wk_nw g_739_45 rfl hP82 hF83 (uf_739_45 (by decide)) ?_)))
        intro M85 hP86 hF87 e88
        have pr89 : TXQ T M85 := fun k a b => by rw [(mUp_no e88 (mUp_no e84 (mUp_at e80) (Or.inr (by decide))) (Or.inr (by decide)))] at b; rw [hF87.at (ga_755 k) rfl]; exact xp0 k a b
        refine wk_al0 r50_62 (wk_cv1 r50_63 kc_739_76 rfl (n8076_739 _ M85 p1 0 T hP86 (mUp_no e88 (mUp_no e84 (mUp_at e80) (Or.inr (by decide))) (Or.inr (by decide))) (by first | with_reducible assumption | omega) (by first | with_reducible assumption | omega) (mUp_no e88 (mUp_at e84) (Or.inr (by decide))) (by first | with_reducible assumption | omega) (by first | with_reducible assumption | omega) (by omega) pr89) (cqV ?_))
        rintro M90 ⟨hP91, hQ92, h94, h95, h96, h97, h98, xh99, pr100, pr101, pr102⟩
        have hF93 : Fr fm_n8050_739 M0 M90 := hF87.tr hQ92 rfl
        have e103 := ((hQ92.at g_739_30 rfl).trans (mUp_no e88 (mUp_no e84 (mUp_at e80) (Or.inr (by decide))) (Or.inr (by decide))))
        obtain ⟨v104, e105⟩ : ∃ v, M90 739 31 = v := ⟨_, rfl⟩
        have h106 := (bf_739_31 hP91).1; rw [e105] at h106
        have h107 := (bf_739_31 hP91).2; rw [e105] at h107
        obtain ⟨v108, e109⟩ : ∃ v, M90 739 33 = v := ⟨_, rfl⟩
        have h110 := (bf_739_33 hP91).1; rw [e109] at h110
        have h111 := (bf_739_33 hP91).2; rw [e109] at h111
        obtain ⟨v112, e113⟩ : ∃ v, M90 739 34 = v := ⟨_, rfl⟩
        have h114 := (bf_739_34 hP91).1; rw [e113] at h114
        have h115 := (bf_739_34 hP91).2; rw [e113] at h115
        obtain ⟨v116, e117⟩ : ∃ v, M90 739 32 = v := ⟨_, rfl⟩
        have h118 := (bf_739_32 hP91).1; rw [e117] at h118
        have h119 := (bf_739_32 hP91).2; rw [e117] at h119
        refine wk_c1 r50_66 ?_
        subst hQ; exact wk_zret r50_67 (by decide) (⟨rfl, _, rfl, hP91, hF93, by omega, by omega, by have := ((hQ92.at g_739_27 rfl).trans (mUp_no e88 (mUp_no e84 (mUp_no e80 (mUp_no e76 (mUp_no e72 (mUp_at e68) (Or.inr (by decide))) (Or.inr (by decide))) (Or.inr (by decide))) (Or.inr (by decide))) (Or.inr (by decide)))); omega, by have := ((hQ92.at g_739_29 rfl).trans (mUp_no e88 (mUp_no e84 (mUp_no e80 (mUp_no e76 (mUp_at e72) (Or.inr (by decide))) (Or.inr (by decide))) (Or.inr (by decide))) (Or.inr (by decide)))); omega, by have := ((hQ92.at g_739_0 rfl).trans (mUp_no e88 (mUp_no e84 (mUp_no e80 (mUp_no e76 (mUp_no e72 (mUp_no e68 (mUp_at e4) (Or.inr (by decide))) (Or.inr (by decide))) (Or.inr (by decide))) (Or.inr (by decide))) (Or.inr (by decide))) (Or.inr (by decide)))); omega, by have := ((hQ92.at g_739_28 rfl).trans (mUp_no e88 (mUp_no e84 (mUp_no e80 (mUp_at e76) (Or.inr (by decide))) (Or.inr (by decide))) (Or.inr (by decide)))); omega, by have := ((hQ92.at g_739_45 rfl).trans (mUp_at e88)); omega, by have := ((hQ92.at g_739_30 rfl).trans (mUp_no e88 (mUp_no e84 (mUp_at e80) (Or.inr (by decide))) (Or.inr (by decide)))); have := e105; omega, by have := e105; have := e109; have := e113; omega, by have := e105; have := e109; have := e113; omega, by have := e113; have := e117; omega, by have := ((hQ92.at g_739_27 rfl).trans (mUp_no e88 (mUp_no e84 (mUp_no e80 (mUp_no e76 (mUp_no e72 (mUp_at e68) (Or.inr (by decide))) (Or.inr (by decide))) (Or.inr (by decide))) (Or.inr (by decide))) (Or.inr (by decide)))); omega, fun _ => pr100, Or.inl ⟨by omega, pr101, pr102, by have q9 := xh99; rw [show p1 = p1 by omega] at q9; exact q9, ((hQ92.at g_739_30 rfl).trans (mUp_no e88 (mUp_no e84 (mUp_at e80) (Or.inr (by decide))) (Or.inr (by decide)))), ((hQ92.at g_739_29 rfl).trans (mUp_no e88 (mUp_no e84 (mUp_no e80 (mUp_no e76 (mUp_at e72) (Or.inr (by decide))) (Or.inr (by decide))) (Or.inr (by decide))) (Or.inr (by decide)))), ((hQ92.at g_739_28 rfl).trans (mUp_no e88 (mUp_no e84 (mUp_no e80 (mUp_at e76) (Or.inr (by decide))) (Or.inr (by decide))) (Or.inr (by decide)))), (((hQ92.at g_739_0 rfl).trans (mUp_no e88 (mUp_no e84 (mUp_no e80 (mUp_no e76 (mUp_no e72 (mUp_no e68 (mUp_at e4) (Or.inr (by decide))) (Or.inr (by decide))) (Or.inr (by decide))) (Or.inr (by decide))) (Or.inr (by decide))) (Or.inr (by decide))))).trans (by omega)⟩⟩)
      · intro h120
        clear h54
        refine wk_c1 r50_30 ?_
        subst hQ; exact wk_zret r50_31 (by decide) (⟨rfl, _, rfl, hP2, hF3, by omega, by omega, by have := (mUp_no e4 ex739_27 (Or.inr (by decide))); omega, by have := (mUp_no e4 ex739_29 (Or.inr (by decide))); omega, by have := (mUp_at e4); omega, by omega, by omega, by omega, by omega, by omega, by omega, by have := (mUp_no e4 ex739_27 (Or.inr (by decide))); omega, fun q => absurd q (by decide), Or.inr ⟨by omega, by omega, by have := (mUp_at e4); omega, (mUp_no e4 ex739_29 (Or.inr (by decide)))⟩⟩)
def fm_n8065_739 : Nat := 3198183334179513849174334711124306039004150098954425584320512
/-- IslandHallModel.ends -/
theorem n8065_739 {B : eB} (d : Nat) (M0 : Mm) (x739_30 : Int) (x739_31 : Int) (x739_33 : Int) (x739_34 : Int) (x739_32 : Int) (x739_28 : Int) (x739_29 : Int) (T : Int → Int) (hP0 : Pw M0) (ex739_30 : M0 739 30 = x739_30) (lx739_30 : 0 ≤ x739_30) (ux739_30 : x739_30 ≤ 500) (ex739_31 : M0 739 31 = x739_31) (lx739_31 : 0 ≤ x739_31) (ux739_31 : x739_31 ≤ 500) (ex739_33 : M0 739 33 = x739_33) (lx739_33 : 0 ≤ x739_33) (ux739_33 : x739_33 ≤ 500) (ex739_34 : M0 739 34 = x739_34) (lx739_34 : 0 ≤ x739_34) (ux739_34 : x739_34 ≤ 500) (ex739_32 : M0 739 32 = x739_32) (lx739_32 : 0 ≤ x739_32) (ux739_32 : x739_32 ≤ 4) (ex739_28 : M0 739 28 = x739_28) (lx739_28 : 0 ≤ x739_28) (ux739_28 : x739_28 ≤ 6) (ex739_29 : M0 739 29 = x739_29) (lx739_29 : (-1) ≤ x739_29) (ux739_29 : x739_29 ≤ 501) (rp0 : 0 ≤ x739_30 + (-1) * x739_31) (rp1 : 0 ≤ x739_31 + (-1) * x739_33 + (-1) * x739_34) (rp2 : 0 ≤ (-1) * x739_31 + x739_33 + x739_34) (rp3 : 0 ≤ 4 * x739_34 + (-1) * x739_32) (pp_TK : TK M0) (pp_TQ : TXQ T M0) (pp_TT : TTP T M0) : Ct B (d + 3) 65 [R 739] M0 (qV fun M => Pw M ∧ Fr fm_n8065_739 M0 M ∧ 0 ≤ M 739 30 + (-1) * (M 739 31) ∧ 0 ≤ M 739 31 + (-1) * (M 739 33) + (-1) * (M 739 34) ∧ 0 ≤ (-1) * (M 739 31) + M 739 33 + M 739 34 ∧ 0 ≤ 4 * (M 739 34) + (-1) * (M 739 32) ∧ 0 ≤ M 739 33 + (-1) * x739_33 ∧ 0 ≤ M 739 28 + (-1) * x739_28 ∧ 0 ≤ M 739 33 + (-1) * x739_33 + M 739 28 + (-1) ∧ 0 ≤ M 739 29 + 1 ∧ 0 ≤ M 739 29 + (-1) * x739_29 + 3000 * (M 739 28) ∧ 0 ≤ (-1) * (M 739 29) + x739_29 + 3000 * (M 739 28) ∧ ((x739_28 = 0 ∧ sgI T x739_30 x739_33 59 = 1 ∧ M 739 28 = 0 ∧ M 739 29 = x739_29 ∧ M 739 33 = nx T x739_30 x739_33 ∧ x739_33 + 1 ≤ M 739 33) ∨ (x739_28 = 0 ∧ sgI T x739_30 x739_33 59 = 0 ∧ M 739 28 = 1 ∧ M 739 29 = x739_33) ∨ (x739_28 ≠ 0 ∧ M 739 28 = x739_28 ∧ M 739 29 = x739_29)) ∧ (TK M) ∧ (TXQ T M) ∧ (TTP T M)) := by
  refine ct_of (d := d + 2) (k := 0) (L := [some (R 739)]) rfl rfl rfl ?_
  have hF0 := Fr.rf fm_n8065_739 M0
  generalize hQ : (qV fun M => Pw M ∧ Fr fm_n8065_739 M0 M ∧ 0 ≤ M 739 30 + (-1) * (M 739 31) ∧ 0 ≤ M 739 31 + (-1) * (M 739 33) + (-1) * (M 739 34) ∧ 0 ≤ (-1) * (M 739 31) + M 739 33 + M 739 34 ∧ 0 ≤ 4 * (M 739 34) + (-1) * (M 739 32) ∧ 0 ≤ M 739 33 + (-1) * x739_33 ∧ 0 ≤ M 739 28 + (-1) * x739_28 ∧ 0 ≤ M 739 33 + (-1) * x739_33 + M 739 28 + (-1) ∧ 0 ≤ M 739 29 + 1 ∧ 0 ≤ M 739 29 + (-1) * x739_29 + 3000 * (M 739 28) ∧ 0 ≤ (-1) * (M 739 29) + x739_29 + 3000 * (M 739 28) ∧ ((x739_28 = 0 ∧ sgI T x739_30 x739_33 59 = 1 ∧ M 739 28 = 0 ∧ M 739 29 = x739_29 ∧ M 739 33 = nx T x739_30 x739_33 ∧ x739_33 + 1 ≤ M 739 33) ∨ (x739_28 = 0 ∧ sgI T x739_30 x739_33 59 = 0 ∧ M 739 28 = 1 ∧ M 739 29 = x739_33) ∨ (x739_28 ≠ 0 ∧ M 739 28 = x739_28 ∧ M 739 29 = x739_29)) ∧ (TK M) ∧ (TXQ T M) ∧ (TTP T M)) = Q
  refine wk_al0 r65_0 (wk_cv1 r65_1 kc_739_84 rfl (n8084_739 _ M0 x739_28 hP0 ex739_28 (by first | with_reducible assumption | omega) (by first | with_reducible assumption | omega)) (cqI ?_))
  rintro v7 M1 ⟨hP2, hQ3, h8, h9, h5, h6⟩
  obtain rfl := Fr.same hQ3
  have e10 := ex739_28
  refine wk_ifne r65_4 ⟨by omega, by omega⟩ ?_ ?_
  · intro h11
    refine wk_al0 r65_8 (wk_c2 r65_9 ?_)
    obtain ⟨v12, e13⟩ : ∃ v, M0 739 36 = v := ⟨_, rfl⟩
    have h14 := (bf_739_36 hP0).1; rw [e13] at h14
    have h15 := (bf_739_36 hP0).2; rw [e13] at h15
    refine wk_cv2 r65_11 kc_739_88 rfl (n8088_739 _ M0 59 x739_32 v12 x739_30 x739_33 T hP0 (by decide) (by decide) ex739_32 (by first | with_reducible assumption | omega) (by first | with_reducible assumption | omega) e13 (by first | with_reducible assumption | omega) (by first | with_reducible assumption | omega) ex739_30 (by first | with_reducible assumption | omega) (by first | with_reducible assumption | omega) ex739_33 (by first | with_reducible assumption | omega) (by first | with_reducible assumption | omega) pp_TT) (cqI ?_)
    rintro v24 M16 ⟨hP17, hQ18, h25, h26, h20, h21, h22, xh23⟩
    obtain rfl := Fr.same hQ18
    have e27 := ex739_32
    have e28 := e13
    refine wk_ifeq r65_14 ⟨by omega, by omega⟩ ?_ ?_
    · intro h29
      clear h20 h21 h22
      refine wk_al0 r65_24 (wk_c1 r65_25 (wk_cv2 r65_26 kc_739_137 rfl (n8137_739 _ M0 1 x739_28 x739_33 x739_29 hP0 (by decide) (by decide) ex739_28 (by first | with_reducible assumption | omega) (by first | with_reducible assumption | omega) ex739_33 (by first | with_reducible assumption | omega) (by first | with_reducible assumption | omega) ex739_29 (by first | with_reducible assumption | omega) (by first | with_reducible assumption | omega)) (cqV ?_)))
      rintro M30 ⟨hP31, hQ32, h34, h35, h36, h37, h38, xh39⟩
      have hF33 : Fr fm_n8065_739 M0 M30 := hF0.tr hQ32 rfl
      obtain ⟨v40, e41⟩ : ∃ v, M30 739 28 = v := ⟨_, rfl⟩
      have h42 := (bf_739_28 hP31).1; rw [e41] at h42
      have h43 := (bf_739_28 hP31).2; rw [e41] at h43
      obtain ⟨v44, e45⟩ : ∃ v, M30 739 29 = v := ⟨_, rfl⟩
      have h46 := (bf_739_29 hP31).1; rw [e45] at h46
      have h47 := (bf_739_29 hP31).2; rw [e45] at h47
      subst hQ; exact wk_ret r65_29 (⟨rfl, hP31, hF33, by have := ((hQ32.at g_739_30 rfl).trans ex739_30); have := ((hQ32.at g_739_31 rfl).trans ex739_31); omega, by have := ((hQ32.at g_739_31 rfl).trans ex739_31); have := ((hQ32.at g_739_33 rfl).trans ex739_33); have := ((hQ32.at g_739_34 rfl).trans ex739_34); omega, by have := ((hQ32.at g_739_31 rfl).trans ex739_31); have := ((hQ32.at g_739_33 rfl).trans ex739_33); have := ((hQ32.at g_739_34 rfl).trans ex739_34); omega, by have := ((hQ32.at g_739_34 rfl).trans ex739_34); have := ((hQ32.at g_739_32 rfl).trans ex739_32); omega, by have := ((hQ32.at g_739_33 rfl).trans ex739_33); omega, by have := e41; omega, by have := ((hQ32.at g_739_33 rfl).trans ex739_33); have := e41; omega, by have := e45; omega, by have := e45; have := e41; omega, by have := e45; have := e41; omega, Or.inr (Or.inl ⟨by omega, by have := ((hQ32.at g_739_33 rfl).trans ex739_33); have := e41; have := e45; have := sgI_c T x739_30 x739_33 59; omega, by have := ((hQ32.at g_739_33 rfl).trans ex739_33); have := e41; have := e45; omega, by have := ((hQ32.at g_739_33 rfl).trans ex739_33); have := e41; have := e45; omega⟩), (TK_sm (Sm.fr hQ32 rfl) pp_TK), (TXQ_sm (Sm.fr hQ32 rfl) pp_TQ), (TTP_sm (Sm.fr hQ32 rfl) pp_TT)⟩)
    · intro h48
      replace h20 := h20 (z1_of h25 h26 h48)
      replace h21 := h21 (z1_of h25 h26 h48)
      replace h22 := h22 (z1_of h25 h26 h48)
      refine wk_al0 r65_17 (wk_cv1 r65_18 kc_739_76 rfl (n8076_739 _ M0 x739_30 x739_31 T hP0 ex739_30 (by first | with_reducible assumption | omega) (by first | with_reducible assumption | omega) ex739_31 (by first | with_reducible assumption | omega) (by first | with_reducible assumption | omega) (by omega) pp_TQ) (cqV ?_))
      rintro M49 ⟨hP50, hQ51, h53, h54, h55, h56, h57, xh58, pr59, pr60, pr61⟩
      have hF52 : Fr fm_n8065_739 M0 M49 := hF0.tr hQ51 rfl
      have e62 := ((hQ51.at g_739_30 rfl).trans ex739_30)
      obtain ⟨v63, e64⟩ : ∃ v, M49 739 31 = v := ⟨_, rfl⟩
      have h65 := (bf_739_31 hP50).1; rw [e64] at h65
      have h66 := (bf_739_31 hP50).2; rw [e64] at h66
      obtain ⟨v67, e68⟩ : ∃ v, M49 739 33 = v := ⟨_, rfl⟩
      have h69 := (bf_739_33 hP50).1; rw [e68] at h69
      have h70 := (bf_739_33 hP50).2; rw [e68] at h70
      obtain ⟨v71, e72⟩ : ∃ v, M49 739 34 = v := ⟨_, rfl⟩
      have h73 := (bf_739_34 hP50).1; rw [e72] at h73
      have h74 := (bf_739_34 hP50).2; rw [e72] at h74
      obtain ⟨v75, e76⟩ : ∃ v, M49 739 32 = v := ⟨_, rfl⟩
      have h77 := (bf_739_32 hP50).1; rw [e76] at h77
      have h78 := (bf_739_32 hP50).2; rw [e76] at h78
      have hn79 := nx_ofm pp_TT ex739_30 ex739_33 ex739_31 xh58
      refine wk_goto r65_21 ?_
      subst hQ; exact wk_ret r65_29 (⟨rfl, hP50, hF52, by have := ((hQ51.at g_739_30 rfl).trans ex739_30); have := e64; omega, by have := e64; have := e68; have := e72; omega, by have := e64; have := e68; have := e72; omega, by have := e72; have := e76; omega, by have := e68; omega, by have := ((hQ51.at g_739_28 rfl).trans ex739_28); omega, by have := e68; have := ((hQ51.at g_739_28 rfl).trans ex739_28); omega, by have := ((hQ51.at g_739_29 rfl).trans ex739_29); omega, by have := ((hQ51.at g_739_29 rfl).trans ex739_29); have := ((hQ51.at g_739_28 rfl).trans ex739_28); omega, by have := ((hQ51.at g_739_29 rfl).trans ex739_29); have := ((hQ51.at g_739_28 rfl).trans ex739_28); omega, Or.inl ⟨by omega, by have := e68; have := ((hQ51.at g_739_28 rfl).trans ex739_28); have := ((hQ51.at g_739_29 rfl).trans ex739_29); have := sgI_c T x739_30 x739_33 59; omega, by have := e68; have := ((hQ51.at g_739_28 rfl).trans ex739_28); have := ((hQ51.at g_739_29 rfl).trans ex739_29); omega, by have := e68; have := ((hQ51.at g_739_28 rfl).trans ex739_28); have := ((hQ51.at g_739_29 rfl).trans ex739_29); omega, by have := e68; have := ((hQ51.at g_739_28 rfl).trans ex739_28); have := ((hQ51.at g_739_29 rfl).trans ex739_29); omega, by have := e68; have := ((hQ51.at g_739_28 rfl).trans ex739_28); have := ((hQ51.at g_739_29 rfl).trans ex739_29); have := sgI_c T x739_30 x739_33 59; have := tt_lt T x739_30 x739_33; have := nx_lt (T := T) (n := x739_30) (s := x739_33) (by omega); omega⟩, pr59, pr60, pr61⟩)
  · intro h80
    subst hQ; exact wk_ret r65_7 (⟨rfl, hP0, hF0, by have := ex739_30; have := ex739_31; omega, by have := ex739_31; have := ex739_33; have := ex739_34; omega, by have := ex739_31; have := ex739_33; have := ex739_34; omega, by have := ex739_34; have := ex739_32; omega, by have := ex739_33; omega, by have := ex739_28; omega, by have := ex739_33; have := ex739_28; omega, by have := ex739_29; omega, by have := ex739_29; have := ex739_28; omega, by have := ex739_29; have := ex739_28; omega, Or.inr (Or.inr ⟨by omega, by have := ex739_33; have := ex739_28; have := ex739_29; omega, by have := ex739_33; have := ex739_28; have := ex739_29; omega⟩), pp_TK, pp_TQ, pp_TT⟩)
def fm_n8126_739 : Nat := 1357380257545207893277817106971747046365150226405306867032546605215422349312
set_option maxHeartbeats 20000000 in
/-- IslandHallModel.sentence -/
theorem n8126_739 {B : eB} (d : Nat) (M0 : Mm) (p1 : Int) (x739_27 : Int) (x739_29 : Int) (x739_13 : Int) (x739_1 : Int) (T : Int → Int) (hP0 : Pw M0) (l1 : (-2147483648) ≤ p1) (u1 : p1 ≤ 2147483647) (ex739_27 : M0 739 27 = x739_27) (lx739_27 : 0 ≤ x739_27) (ux739_27 : x739_27 ≤ 500) (ex739_29 : M0 739 29 = x739_29) (lx739_29 : (-1) ≤ x739_29) (ux739_29 : x739_29 ≤ 501) (ex739_13 : M0 739 13 = x739_13) (lx739_13 : 0 ≤ x739_13) (ux739_13 : x739_13 ≤ 30) (ex739_1 : M0 739 1 = x739_1) (lx739_1 : 0 ≤ x739_1) (ux739_1 : x739_1 ≤ 7) (xp0 : ∀ k : Int, 0 ≤ k → k < p1 → M0 755 k = T k) (pp_WS : WS M0) (pp_QW : QW M0) : Ct B (d + 8) 126 [R 739, I p1] M0 (qI fun z M => Pw M ∧ Fr fm_n8126_739 M0 M ∧ (-9) ≤ z ∧ z ≤ 29 ∧ ((0 ≤ p1 ∧ p1 ≤ x739_27 ∧ M 739 27 = 0) ∨ ((p1 < 0 ∨ x739_27 < p1) ∧ M 739 27 = x739_27)) ∧ (SNR T p1 x739_27 x739_13 x739_1 x739_29 (M 739 0) z (M 739 13) (M 739 29)) ∧ (M 739 0 = 0 → 0 ≤ z → z = x739_13 ∧ ∃ O : List Int, LST (fun k => M 747 k) (400 * x739_13) O ∧ CDM T p1 x739_1 (sk T p1 0) O) ∧ (∀ k : Int, k < 400 * x739_13 → M 747 k = M0 747 k) ∧ (WS M) ∧ (QW M)) := by
  refine ct_of (d := d + 7) (k := 1) (L := [some (R 739), some (I p1), none]) rfl rfl rfl ?_
  have hF0 := Fr.rf fm_n8126_739 M0
  generalize hQ : (qI fun z M => Pw M ∧ Fr fm_n8126_739 M0 M ∧ (-9) ≤ z ∧ z ≤ 29 ∧ ((0 ≤ p1 ∧ p1 ≤ x739_27 ∧ M 739 27 = 0) ∨ ((p1 < 0 ∨ x739_27 < p1) ∧ M 739 27 = x739_27)) ∧ (SNR T p1 x739_27 x739_13 x739_1 x739_29 (M 739 0) z (M 739 13) (M 739 29)) ∧ (M 739 0 = 0 → 0 ≤ z → z = x739_13 ∧ ∃ O : List Int, LST (fun k => M 747 k) (400 * x739_13) O ∧ CDM T p1 x739_1 (sk T p1 0) O) ∧ (∀ k : Int, k < 400 * x739_13 → M 747 k = M0 747 k) ∧ (WS M) ∧ (QW M)) = Q
  refine wk_al0 r126_0 (wk_il1 r126_1 (wk_cv2 r126_2 kc_739_50 rfl (n8050_739 _ M0 p1 x739_27 x739_29 T hP0 (by first | with_reducible assumption | omega) (by first | with_reducible assumption | omega) ex739_27 (by first | with_reducible assumption | omega) (by first | with_reducible assumption | omega) ex739_29 (by first | with_reducible assumption | omega) (by first | with_reducible assumption | omega) (xp0)) (cqI ?_)))
  rintro v17 M1 ⟨hP2, hQ3, h18, h19, h5, h6, h7, h8, h9, h10, h11, h12, h13, xh14, xh15, xh16⟩
  have hF4 : Fr fm_n8126_739 M0 M1 := hF0.tr hQ3 rfl
  obtain ⟨v20, e21⟩ : ∃ v, M1 739 27 = v := ⟨_, rfl⟩
  have h22 := (bf_739_27 hP2).1; rw [e21] at h22
  have h23 := (bf_739_27 hP2).2; rw [e21] at h23
  obtain ⟨v24, e25⟩ : ∃ v, M1 739 29 = v := ⟨_, rfl⟩
  have h26 := (bf_739_29 hP2).1; rw [e25] at h26
  have h27 := (bf_739_29 hP2).2; rw [e25] at h27
  obtain ⟨v28, e29⟩ : ∃ v, M1 739 0 = v := ⟨_, rfl⟩
  have h30 := (bf_739_0 hP2).1; rw [e29] at h30
  have h31 := (bf_739_0 hP2).2; rw [e29] at h31
  obtain ⟨v32, e33⟩ : ∃ v, M1 739 28 = v := ⟨_, rfl⟩
  have h34 := (bf_739_28 hP2).1; rw [e33] at h34
  have h35 := (bf_739_28 hP2).2; rw [e33] at h35
  obtain ⟨v36, e37⟩ : ∃ v, M1 739 45 = v := ⟨_, rfl⟩
  have h38 := (bf_739_45 hP2).1; rw [e37] at h38
  have h39 := (bf_739_45 hP2).2; rw [e37] at h39
  obtain ⟨v40, e41⟩ : ∃ v, M1 739 30 = v := ⟨_, rfl⟩
  have h42 := (bf_739_30 hP2).1; rw [e41] at h42
  have h43 := (bf_739_30 hP2).2; rw [e41] at h43
  obtain ⟨v44, e45⟩ : ∃ v, M1 739 31 = v := ⟨_, rfl⟩
  have h46 := (bf_739_31 hP2).1; rw [e45] at h46
  have h47 := (bf_739_31 hP2).2; rw [e45] at h47
  obtain ⟨v48, e49⟩ : ∃ v, M1 739 33 = v := ⟨_, rfl⟩
  have h50 := (bf_739_33 hP2).1; rw [e49] at h50
  have h51 := (bf_739_33 hP2).2; rw [e49] at h51
  obtain ⟨v52, e53⟩ : ∃ v, M1 739 34 = v := ⟨_, rfl⟩
  have h54 := (bf_739_34 hP2).1; rw [e53] at h54
  have h55 := (bf_739_34 hP2).2; rw [e53] at h55
  obtain ⟨v56, e57⟩ : ∃ v, M1 739 32 = v := ⟨_, rfl⟩
  have h58 := (bf_739_32 hP2).1; rw [e57] at h58
  have h59 := (bf_739_32 hP2).2; rw [e57] at h59
  refine wk_ifne r126_5 ⟨by omega, by omega⟩ ?_ ?_
  · intro h60
    replace h8 := h8 (z1_of h18 h19 h60)
    replace h9 := h9 (z1_of h18 h19 h60)
    replace h10 := h10 (z1_of h18 h19 h60)
    replace h11 := h11 (z1_of h18 h19 h60)
    replace h12 := h12 (z1_of h18 h19 h60)
    replace h13 := h13 (z1_of h18 h19 h60)
    have h61 := or_l xh16 (by omega)
    have pr63 : TXQ T M1 := h61.1
    have pr62 : TTP T M1 := h61.2.1
    have h64 := h61.2.2
    have he9 : v40 = p1 := by have := e41; omega
    have he0 : v48 = sk T p1 0 := by have := e49; omega
    have pr65 : TK M1 := xh15 (by omega)
    refine wk_al0 r126_10 (wk_getfi r126_11 fd_739_13 ((hQ3.at g_739_13 rfl).trans ex739_13) (wk_c2 r126_14 ?_))
    refine wk_icne r126_16 ⟨by omega, by omega⟩ (by decide) ?_ ?_
    · intro h66
      refine wk_al0 r126_22 (wk_al0 r126_23 (wk_getfi r126_24 fd_739_1 ((hQ3.at g_739_1 rfl).trans ex739_1) (wk_putfi81 r126_27 fd_739_38 (wk_nw g_739_38 rfl hP2 hF4 (uf_739_38 ⟨by omega, by omega⟩) ?_))))
      intro M67 hP68 hF69 e70
      refine wk_al0 r126_30 ?_
      obtain ⟨v71, e72⟩ : ∃ v, M67 739 46 = v := ⟨_, rfl⟩
      have h73 := (bf_739_46 hP68).1; rw [e72] at h73
      have h74 := (bf_739_46 hP68).2; rw [e72] at h74
      obtain ⟨v75, e76⟩ : ∃ v, M67 739 47 = v := ⟨_, rfl⟩
      have h77 := (bf_739_47 hP68).1; rw [e76] at h77
      have h78 := (bf_739_47 hP68).2; rw [e76] at h78
      obtain ⟨v79, e80⟩ : ∃ v, M67 739 36 = v := ⟨_, rfl⟩
      have h81 := (bf_739_36 hP68).1; rw [e80] at h81
      have h82 := (bf_739_36 hP68).2; rw [e80] at h82
      obtain ⟨v83, e84⟩ : ∃ v, M67 739 51 = v := ⟨_, rfl⟩
      have h85 := (bf_739_51 hP68).1; rw [e84] at h85
      have h86 := (bf_739_51 hP68).2; rw [e84] at h86
      obtain ⟨v87, e88⟩ : ∃ v, M67 739 35 = v := ⟨_, rfl⟩
      have h89 := (bf_739_35 hP68).1; rw [e88] at h89
      have h90 := (bf_739_35 hP68).2; rw [e88] at h90
      refine wk_cv1 r126_31 kc_739_68 rfl (n8068_739 _ M67 v40 v44 v48 v52 v56 v32 v36 v71 v75 x739_1 v79 v83 v87 v24 T hP68 (mUp_no e70 e41 (Or.inr (by decide))) (by first | with_reducible assumption | omega) (by first | with_reducible assumption | omega) (mUp_no e70 e45 (Or.inr (by decide))) (by first | with_reducible assumption | omega) (by first | with_reducible assumption | omega) (mUp_no e70 e49 (Or.inr (by decide))) (by first | with_reducible assumption | omega) (by first | with_reducible assumption | omega) (mUp_no e70 e53 (Or.inr (by decide))) (by first | with_reducible assumption | omega) (by first | with_reducible assumption | omega) (mUp_no e70 e57 (Or.inr (by decide))) (by first | with_reducible assumption | omega) (by first | with_reducible assumption | omega) (mUp_no e70 e33 (Or.inr (by decide))) (by first | with_reducible assumption | omega) (by first | with_reducible assumption | omega) (mUp_no e70 e37 (Or.inr (by decide))) (by first | with_reducible assumption | omega) (by first | with_reducible assumption | omega) e72 (by first | with_reducible assumption | omega) (by first | with_reducible assumption | omega) e76 (by first | with_reducible assumption | omega) (by first | with_reducible assumption | omega) (mUp_at e70) (by first | with_reducible assumption | omega) (by first | with_reducible assumption | omega) e80 (by first | with_reducible assumption | omega) (by first | with_reducible assumption | omega) e84 (by first | with_reducible assumption | omega) (by first | with_reducible assumption | omega) e88 (by first | with_reducible assumption | omega) (by first | with_reducible assumption | omega) (mUp_no e70 e25 (Or.inr (by decide))) (by first | with_reducible assumption | omega) (by first | with_reducible assumption | omega) (by omega) (by omega) (by omega) (by omega) (by omega) (by omega) (by omega) (TK_sm (Sm.up e70 g_739_38 rfl) pr65) (TXQ_sm (Sm.up e70 g_739_38 rfl) pr63) (TTP_sm (Sm.up e70 g_739_38 rfl) pr62)) (cqV ?_)
      rintro M91 ⟨hP92, hQ93, h95, h96, h97, h98, h99, h100, h101, h102, h103, h104, h105, xh106, xh107, pr108, pr109, pr110⟩
      have hF94 : Fr fm_n8126_739 M0 M91 := hF69.tr hQ93 rfl
      have e111 := ((hQ93.at g_739_30 rfl).trans (mUp_no e70 e41 (Or.inr (by decide))))
      obtain ⟨v112, e113⟩ : ∃ v, M91 739 31 = v := ⟨_, rfl⟩
      have h114 := (bf_739_31 hP92).1; rw [e113] at h114
      have h115 := (bf_739_31 hP92).2; rw [e113] at h115
      obtain ⟨v116, e117⟩ : ∃ v, M91 739 33 = v := ⟨_, rfl⟩
      have h118 := (bf_739_33 hP92).1; rw [e117] at h118
      have h119 := (bf_739_33 hP92).2; rw [e117] at h119
      obtain ⟨v120, e121⟩ : ∃ v, M91 739 34 = v := ⟨_, rfl⟩
      have h122 := (bf_739_34 hP92).1; rw [e121] at h122
      have h123 := (bf_739_34 hP92).2; rw [e121] at h123
      obtain ⟨v124, e125⟩ : ∃ v, M91 739 32 = v := ⟨_, rfl⟩
      have h126 := (bf_739_32 hP92).1; rw [e125] at h126
      have h127 := (bf_739_32 hP92).2; rw [e125] at h127
      obtain ⟨v128, e129⟩ : ∃ v, M91 739 28 = v := ⟨_, rfl⟩
      have h130 := (bf_739_28 hP92).1; rw [e129] at h130
      have h131 := (bf_739_28 hP92).2; rw [e129] at h131
      obtain ⟨v132, e133⟩ : ∃ v, M91 739 45 = v := ⟨_, rfl⟩
      have h134 := (bf_739_45 hP92).1; rw [e133] at h134
      have h135 := (bf_739_45 hP92).2; rw [e133] at h135
      obtain ⟨v136, e137⟩ : ∃ v, M91 739 29 = v := ⟨_, rfl⟩
      have h138 := (bf_739_29 hP92).1; rw [e137] at h138
      have h139 := (bf_739_29 hP92).2; rw [e137] at h139
      have pr140 : SGP M91 := SG_of xh106 (by omega)
      have hRX := ((xh107).resolve_left (fun q => q.1 (by omega))).2
      have hRG := RGX_r hRX; rw [e117, e129, e137] at hRG
      rw [e129] at hRX
      refine wk_al0 r126_34 (wk_cv1 r126_35 kc_739_65 rfl (n8065_739 _ M91 v40 v112 v116 v120 v124 v128 v136 T hP92 ((hQ93.at g_739_30 rfl).trans (mUp_no e70 e41 (Or.inr (by decide)))) (by first | with_reducible assumption | omega) (by first | with_reducible assumption | omega) e113 (by first | with_reducible assumption | omega) (by first | with_reducible assumption | omega) e117 (by first | with_reducible assumption | omega) (by first | with_reducible assumption | omega) e121 (by first | with_reducible assumption | omega) (by first | with_reducible assumption | omega) e125 (by first | with_reducible assumption | omega) (by first | with_reducible assumption | omega) e129 (by first | with_reducible assumption | omega) (by first | with_reducible assumption | omega) e137 (by first | with_reducible assumption | omega) (by first | with_reducible assumption | omega) (by omega) (by omega) (by omega) (by omega) pr108 pr109 pr110) (cqV ?_))
      rintro M141 ⟨hP142, hQ143, h145, h146, h147, h148, h149, h150, h151, h152, h153, h154, xh155, pr156, pr157, pr158⟩
      have hF144 : Fr fm_n8126_739 M0 M141 := hF94.tr hQ143 rfl
      have e159 := ((hQ143.at g_739_30 rfl).trans ((hQ93.at g_739_30 rfl).trans (mUp_no e70 e41 (Or.inr (by decide)))))
      obtain ⟨v160, e161⟩ : ∃ v, M141 739 31 = v := ⟨_, rfl⟩
      have h162 := (bf_739_31 hP142).1; rw [e161] at h162
      have h163 := (bf_739_31 hP142).2; rw [e161] at h163
      obtain ⟨v164, e165⟩ : ∃ v, M141 739 33 = v := ⟨_, rfl⟩
      have h166 := (bf_739_33 hP142).1; rw [e165] at h166
      have h167 := (bf_739_33 hP142).2; rw [e165] at h167
      obtain ⟨v168, e169⟩ : ∃ v, M141 739 34 = v := ⟨_, rfl⟩
      have h170 := (bf_739_34 hP142).1; rw [e169] at h170
      have h171 := (bf_739_34 hP142).2; rw [e169] at h171
      obtain ⟨v172, e173⟩ : ∃ v, M141 739 32 = v := ⟨_, rfl⟩
      have h174 := (bf_739_32 hP142).1; rw [e173] at h174
      have h175 := (bf_739_32 hP142).2; rw [e173] at h175
      obtain ⟨v176, e177⟩ : ∃ v, M141 739 28 = v := ⟨_, rfl⟩
      have h178 := (bf_739_28 hP142).1; rw [e177] at h178
      have h179 := (bf_739_28 hP142).2; rw [e177] at h179
      obtain ⟨v180, e181⟩ : ∃ v, M141 739 29 = v := ⟨_, rfl⟩
      have h182 := (bf_739_29 hP142).1; rw [e181] at h182
      have h183 := (bf_739_29 hP142).2; rw [e181] at h183
      have pr184 : SGP M141 := SGP_mn (Sm.fr hQ143 rfl) (fun q => by have := e129; have := e177; omega) pr140
      refine wk_al0 r126_38 (wk_cv1 r126_39 kc_739_84 rfl (n8084_739 _ M141 v176 hP142 e177 (by first | with_reducible assumption | omega) (by first | with_reducible assumption | omega)) (cqI ?_))
      rintro v191 M185 ⟨hP186, hQ187, h192, h193, h189, h190⟩
      obtain rfl := Fr.same hQ187
      have e194 := e177
      refine wk_ifeq r126_42 ⟨by omega, by omega⟩ ?_ ?_
      · intro h195
        have hso : SO T p1 x739_1 v176 v180 := SO_m (s2 := v164) hRG he9 he0 (by rcases xh155 with q9 | q9 | q9; (omega); (exact Or.inr (Or.inl ⟨by omega, by omega, by omega, by omega⟩)); (exact Or.inl ⟨by omega, by omega, by omega⟩))
        refine wk_al0 r126_57 (wk_cv1 r126_58 kc_739_84 rfl (n8084_739 _ M141 v176 hP142 e177 (by first | with_reducible assumption | omega) (by first | with_reducible assumption | omega)) (cqI ?_))
        rintro v202 M196 ⟨hP197, hQ198, h203, h204, h200, h201⟩
        obtain rfl := Fr.same hQ198
        have e205 := e177
        refine wk_ifne r126_61 ⟨by omega, by omega⟩ ?_ ?_
        · intro h206
          exfalso
          omega
        · intro h207
          refine wk_c1 r126_64 (wk_al0 r126_65 (wk_getfi r126_66 fd_739_28 e177 (wk_isub r126_69 ?_)))
          subst hQ; exact wk_iret r126_70 (⟨rfl, _, rfl, hP142, hF144, by omega, by omega, by have := ((hQ143.at g_739_27 rfl).trans ((hQ93.at g_739_27 rfl).trans (mUp_no e70 e21 (Or.inr (by decide))))); omega, by rw [((hQ143.at g_739_0 rfl).trans ((hQ93.at g_739_0 rfl).trans (mUp_no e70 e29 (Or.inr (by decide))))), ((hQ143.at g_739_13 rfl).trans ((hQ93.at g_739_13 rfl).trans (mUp_no e70 ((hQ3.at g_739_13 rfl).trans ex739_13) (Or.inr (by decide))))), e181]; exact SNR_r (r := v176) hso (by omega), fun _ q => absurd q (by omega), fun k _ => by rw [hQ143.at (ga_747 _) rfl, hQ93.at (ga_747 _) rfl, e70, mUp_ne (Or.inl (by decide)), hQ3.at (ga_747 _) rfl], (WS_sm (Sm.fr hQ143 rfl) (WS_sm (Sm.fr hQ93 rfl) (WS_sm (Sm.up e70 g_739_38 rfl) (WS_sm (Sm.fr hQ3 rfl) pp_WS)))), (QW_sm (Sm.fr hQ143 rfl) (QW_sm (Sm.fr hQ93 rfl) (QW_sm (Sm.up e70 g_739_38 rfl) (QW_sm (Sm.fr hQ3 rfl) pp_QW))))⟩)
      · intro h208
        refine wk_al0 r126_45 (wk_getfi r126_46 fd_739_32 e173 ?_)
        refine wk_ifeq r126_49 ⟨by omega, by omega⟩ ?_ ?_
        · intro h209
          have hso : SO T p1 x739_1 v176 v180 := SO_m (s2 := v164) hRG he9 he0 (Or.inr (Or.inr (Or.inr ⟨by omega, by omega, by omega, by have q8 := pr158; unfold TTP at q8; rw [((hQ143.at g_739_30 rfl).trans ((hQ93.at g_739_30 rfl).trans (mUp_no e70 e41 (Or.inr (by decide))))), e165] at q8; have := e173; omega, by omega, by omega⟩)))
          refine wk_al0 r126_57 (wk_cv1 r126_58 kc_739_84 rfl (n8084_739 _ M141 v176 hP142 e177 (by first | with_reducible assumption | omega) (by first | with_reducible assumption | omega)) (cqI ?_))
          rintro v216 M210 ⟨hP211, hQ212, h217, h218, h214, h215⟩
          obtain rfl := Fr.same hQ212
          have e219 := e177
          refine wk_ifne r126_61 ⟨by omega, by omega⟩ ?_ ?_
          · intro h220
            obtain ⟨u221, hu222⟩ : ∃ u : Int → Int, ∀ k, M141 757 k = u k := ⟨fun k => M141 757 k, fun k => rfl⟩
            have hsg : SEG u221 0 v132 := SGP_get pr184 e177 (by omega) hu222 ((hQ143.at g_739_45 rfl).trans e133)
            obtain ⟨Ma, hMa⟩ : ∃ m : Mm, m = M141 := ⟨_, rfl⟩
            have hS0 : M141 739 13 = x739_13 := ((hQ143.at g_739_13 rfl).trans ((hQ93.at g_739_13 rfl).trans (mUp_no e70 ((hQ3.at g_739_13 rfl).trans ex739_13) (Or.inr (by decide)))))
            have hWa : WS Ma := by rw [hMa]; exact (WS_sm (Sm.fr hQ143 rfl) (WS_sm (Sm.fr hQ93 rfl) (WS_sm (Sm.up e70 g_739_38 rfl) (WS_sm (Sm.fr hQ3 rfl) pp_WS))))
            have hSa : Ma 739 13 = x739_13 := by rw [hMa]; exact hS0
            have hfk0 : v128 = 0 := by omega
            obtain ⟨O9, eO9, cO9⟩ := CDM_of hRX hfk0
            have cO8 : CDM T p1 x739_1 (sk T p1 0) O9 := by rw [← he9, show sk T v40 0 = v48 by rw [he9]; omega]; exact cO9
            have eO8 : RLt (fun k => M141 757 k) (M141 739 45) = O9 ++ [0] := by have q : (OW M141).1 = (OW M91).1 := congrArg Prod.fst (OWe_sm (Sm.fr hQ143 rfl) (OWe_rf M91)); rw [OW_10 (M := M67) ((mUp_no e70 e37 (Or.inr (by decide))).trans (by omega)), List.nil_append] at eO9; exact q.trans eO9
            rw [((hQ143.at g_739_45 rfl).trans e133)] at eO8
            refine wk_c1 r126_71 (wk_is2 r126_72 rfl ?_)
            have c73_694 : ∀ (k694 : Nat) (M650 : Mm) (v647 : Int), (251 - v647).toNat = k694 → Pw M650 → Fr fm_n8126_739 M0 M650 → M650 739 13 = x739_13 → M650 739 1 = x739_1 → M650 739 27 = v20 → M650 739 0 = v28 → M650 739 30 = v40 → M650 739 38 = x739_1 → M650 739 45 = v132 → M650 739 31 = v160 → M650 739 33 = v164 → M650 739 34 = v168 → M650 739 32 = v172 → M650 739 28 = v176 → M650 739 29 = v180 → 0 ≤ v647 → v647 ≤ 251 → (∀ k, M650 757 k = u221 k) → (TK M650) → (SGP M650) → (QW M650) → (TXQ T M650) → (TTP T M650) → 0 ≤ 1 * v40 + (-1) * v160 → 0 ≤ 1 * v160 + (-1) * v164 + (-1) * v168 → 0 ≤ (-1) * v160 + 1 * v164 + 1 * v168 → 0 ≤ 4 * v168 + (-1) * v172 → (∀ k : Int, 0 ≤ k → k < v647 → M650 747 (400 * x739_13 + k) = u221 k) → (∀ k : Int, k < 400 * x739_13 → M650 747 k = Ma 747 k) → Wp B (d + 7) 126 73 [some (R 739), none, some (I v647)] [] M650 Q := by
              refine lp_ind ?_
              intro k694 ih694 M650 v647 hk694 hP651 hF652 e654 e655 e656 e657 e658 e659 e660 e661 e662 e663 e664 e665 e666 h648 h649 hu653 pr667 pr668 pr669 pr670 pr671 h672 h673 h674 h675 ti676 ti677
              refine wk_il2 r126_73 (wk_al0 r126_74 (wk_getfi r126_75 fd_739_45 e660 ?_))
              refine wk_icge r126_78 ⟨by omega, by omega⟩ ⟨by omega, by omega⟩ ?_ ?_
              · intro h678
                refine wk_al0 r126_108 (wk_dupr r126_109 (wk_getfi r126_110 fd_739_13 e654 (wk_c1 r126_113 (wk_iadd r126_114 (wk_putfi81 r126_115 fd_739_13 (wk_nw g_739_13 rfl hP651 hF652 (uf_739_13 ⟨by omega, by omega⟩) ?_))))))
                intro M679 hP680 hF681 e682
                have pr683 : WS M679 := WS_new hWa hSa (by omega) ti677 hsg (fun k a b => ti676 k a (by omega)) (by omega) e682
                have pr684 : QW M679 := QW_new pr669 e654 e682
                refine wk_al0 r126_118 (wk_getfi r126_119 fd_739_13 (mUp_at e682) (wk_c1 r126_122 (wk_isub r126_123 ?_)))
                subst hQ; exact wk_iret r126_124 (⟨rfl, _, rfl, hP680, hF681, by omega, by omega, by have := (mUp_no e682 e656 (Or.inr (by decide))); omega, by rw [(mUp_no e682 e657 (Or.inr (by decide))), (mUp_at e682), (mUp_no e682 e666 (Or.inr (by decide)))]; exact SNR_r (r := v176) hso (by omega), fun _ _ => ⟨by omega, O9, LST_RL eO8 (CDM_nz cO8) (fun k a b => (show (fun k => M679 747 k) (400 * x739_13 + k) = _ by show M679 747 (400 * x739_13 + k) = _; rw [e682, mUp_ne (Or.inl (by decide))]; have q := ti676 k a (by omega); rw [show (x739_13 : Int) = x739_13 by omega] at q; exact q.trans (hu222 k).symm)), cO8⟩, fun k q => by rw [e682, mUp_ne (Or.inl (by decide)), ti677 k (by omega), hMa, hQ143.at (ga_747 _) rfl, hQ93.at (ga_747 _) rfl, e70, mUp_ne (Or.inl (by decide)), hQ3.at (ga_747 _) rfl], pr683, pr684⟩)
              · intro h685
                refine wk_al0 r126_81 (wk_getfr r126_82 fd_739_14 (br_739_14 hP651) (wk_c3 r126_85 (wk_al0 r126_88 (wk_getfi r126_89 fd_739_13 e654 (wk_imul r126_92 (wk_il2 r126_93 (wk_iadd r126_94 (wk_al0 r126_95 (wk_getfr r126_96 fd_739_49 (br_739_49 hP651) (wk_il2 r126_99 (wk_ialdb r126_100 ar_757 ⟨by omega, by omega⟩ (fun q0 q1 => ba_757 hP651 q0 q1) ?_)))))))))))
                intro v686 h688 h689 e687
                refine wk_iast r126_101 ar_747 ⟨by omega, by omega⟩ (wk_nw (ga_747 _) rfl hP651 hF652 (uaR_747 (by rw [← e687, hu653]; exact SEG_ok hsg _ (by omega) (by omega))) ?_)
                intro M690 hP691 hF692 e693
                refine wk_inc2 r126_102 rfl (wk_goto r126_105 ?_)
                exact wp_fg (le_s (le_s (le_s le_0))) (ih694 (251 - (v647 + 1)).toNat (by omega) M690 (v647 + 1) rfl hP691 hF692 (mUp_no e693 e654 (Or.inl (by decide))) (mUp_no e693 e655 (Or.inl (by decide))) (mUp_no e693 e656 (Or.inl (by decide))) (mUp_no e693 e657 (Or.inl (by decide))) (mUp_no e693 e658 (Or.inl (by decide))) (mUp_no e693 e659 (Or.inl (by decide))) (mUp_no e693 e660 (Or.inl (by decide))) (mUp_no e693 e661 (Or.inl (by decide))) (mUp_no e693 e662 (Or.inl (by decide))) (mUp_no e693 e663 (Or.inl (by decide))) (mUp_no e693 e664 (Or.inl (by decide))) (mUp_no e693 e665 (Or.inl (by decide))) (mUp_no e693 e666 (Or.inl (by decide))) (by first | with_reducible assumption | omega) (by first | with_reducible assumption | omega) (fun k => mUp_no e693 (hu653 k) (Or.inl (by decide))) (TK_sm (Sm.up e693 (ga_747 _) rfl) pr667) (SGP_sm (Sm.up e693 (ga_747 _) rfl) pr668) (QW_sm (Sm.up e693 (ga_747 _) rfl) pr669) (TXQ_sm (Sm.up e693 (ga_747 _) rfl) pr670) (TTP_sm (Sm.up e693 (ga_747 _) rfl) pr671) (by first | with_reducible assumption | omega) (by first | with_reducible assumption | omega) (by first | with_reducible assumption | omega) (by first | with_reducible assumption | omega) (cp_step e693 ti676 e687 hu653) (fun k hk => by rw [e693, mUp_ne (Or.inr (by omega))]; exact ti677 k hk))
            exact wp_fg (le_s (le_n (le_s le_0))) (c73_694 _ M141 0 rfl hP142 hF144 ((hQ143.at g_739_13 rfl).trans ((hQ93.at g_739_13 rfl).trans (mUp_no e70 ((hQ3.at g_739_13 rfl).trans ex739_13) (Or.inr (by decide))))) ((hQ143.at g_739_1 rfl).trans ((hQ93.at g_739_1 rfl).trans (mUp_no e70 ((hQ3.at g_739_1 rfl).trans ex739_1) (Or.inr (by decide))))) ((hQ143.at g_739_27 rfl).trans ((hQ93.at g_739_27 rfl).trans (mUp_no e70 e21 (Or.inr (by decide))))) ((hQ143.at g_739_0 rfl).trans ((hQ93.at g_739_0 rfl).trans (mUp_no e70 e29 (Or.inr (by decide))))) ((hQ143.at g_739_30 rfl).trans ((hQ93.at g_739_30 rfl).trans (mUp_no e70 e41 (Or.inr (by decide))))) ((hQ143.at g_739_38 rfl).trans ((hQ93.at g_739_38 rfl).trans (mUp_at e70))) ((hQ143.at g_739_45 rfl).trans e133) e161 e165 e169 e173 e177 e181 (by first | with_reducible assumption | omega) (by first | with_reducible assumption | omega) hu222 pr156 pr184 (QW_sm (Sm.fr hQ143 rfl) (QW_sm (Sm.fr hQ93 rfl) (QW_sm (Sm.up e70 g_739_38 rfl) (QW_sm (Sm.fr hQ3 rfl) pp_QW)))) pr157 pr158 (by first | with_reducible assumption | omega) (by first | with_reducible assumption | omega) (by first | with_reducible assumption | omega) (by first | with_reducible assumption | omega) (fun k a b => by omega) (fun k _ => by rw [hMa]))
          · intro h695
            exfalso
            omega
        · intro h696
          refine wk_al0 r126_52 (wk_c1 r126_53 (wk_cv2 r126_54 kc_739_137 rfl (n8137_739 _ M141 1 v176 v164 v180 hP142 (by decide) (by decide) e177 (by first | with_reducible assumption | omega) (by first | with_reducible assumption | omega) e165 (by first | with_reducible assumption | omega) (by first | with_reducible assumption | omega) e181 (by first | with_reducible assumption | omega) (by first | with_reducible assumption | omega)) (cqV ?_)))
          rintro M697 ⟨hP698, hQ699, h701, h702, h703, h704, h705, xh706⟩
          have hF700 : Fr fm_n8126_739 M0 M697 := hF144.tr hQ699 rfl
          obtain ⟨v707, e708⟩ : ∃ v, M697 739 28 = v := ⟨_, rfl⟩
          have h709 := (bf_739_28 hP698).1; rw [e708] at h709
          have h710 := (bf_739_28 hP698).2; rw [e708] at h710
          obtain ⟨v711, e712⟩ : ∃ v, M697 739 29 = v := ⟨_, rfl⟩
          have h713 := (bf_739_29 hP698).1; rw [e712] at h713
          have h714 := (bf_739_29 hP698).2; rw [e712] at h714
          have pr715 : SGP M697 := SGP_mn (Sm.fr hQ699 rfl) (fun q => by have := e177; have := e708; omega) pr184
          have hso : SO T p1 x739_1 v707 v711 := SO_m (s2 := v164) hRG he9 he0 (Or.inr (Or.inr (Or.inl ⟨by omega, by omega, by omega, by have q8 := (TTP_sm (Sm.fr hQ699 rfl) pr158); unfold TTP at q8; rw [((hQ699.at g_739_30 rfl).trans ((hQ143.at g_739_30 rfl).trans ((hQ93.at g_739_30 rfl).trans (mUp_no e70 e41 (Or.inr (by decide)))))), ((hQ699.at g_739_33 rfl).trans e165)] at q8; have := ((hQ699.at g_739_32 rfl).trans e173); omega, by omega, by omega⟩)))
          refine wk_al0 r126_57 (wk_cv1 r126_58 kc_739_84 rfl (n8084_739 _ M697 v707 hP698 e708 (by first | with_reducible assumption | omega) (by first | with_reducible assumption | omega)) (cqI ?_))
          rintro v722 M716 ⟨hP717, hQ718, h723, h724, h720, h721⟩
          obtain rfl := Fr.same hQ718
          have e725 := e708
          refine wk_ifne r126_61 ⟨by omega, by omega⟩ ?_ ?_
          · intro h726
            exfalso
            omega
          · intro h727
            refine wk_c1 r126_64 (wk_al0 r126_65 (wk_getfi r126_66 fd_739_28 e708 (wk_isub r126_69 ?_)))
            subst hQ; exact wk_iret r126_70 (⟨rfl, _, rfl, hP698, hF700, by omega, by omega, by have := ((hQ699.at g_739_27 rfl).trans ((hQ143.at g_739_27 rfl).trans ((hQ93.at g_739_27 rfl).trans (mUp_no e70 e21 (Or.inr (by decide)))))); omega, by rw [((hQ699.at g_739_0 rfl).trans ((hQ143.at g_739_0 rfl).trans ((hQ93.at g_739_0 rfl).trans (mUp_no e70 e29 (Or.inr (by decide)))))), ((hQ699.at g_739_13 rfl).trans ((hQ143.at g_739_13 rfl).trans ((hQ93.at g_739_13 rfl).trans (mUp_no e70 ((hQ3.at g_739_13 rfl).trans ex739_13) (Or.inr (by decide)))))), e712]; exact SNR_r (r := v707) hso (by omega), fun _ q => absurd q (by omega), fun k _ => by rw [hQ699.at (ga_747 _) rfl, hQ143.at (ga_747 _) rfl, hQ93.at (ga_747 _) rfl, e70, mUp_ne (Or.inl (by decide)), hQ3.at (ga_747 _) rfl], (WS_sm (Sm.fr hQ699 rfl) (WS_sm (Sm.fr hQ143 rfl) (WS_sm (Sm.fr hQ93 rfl) (WS_sm (Sm.up e70 g_739_38 rfl) (WS_sm (Sm.fr hQ3 rfl) pp_WS))))), (QW_sm (Sm.fr hQ699 rfl) (QW_sm (Sm.fr hQ143 rfl) (QW_sm (Sm.fr hQ93 rfl) (QW_sm (Sm.up e70 g_739_38 rfl) (QW_sm (Sm.fr hQ3 rfl) pp_QW)))))⟩)
    · intro h728
      refine wk_c2 r126_19 ?_
      subst hQ; exact wk_iret r126_21 (⟨rfl, _, rfl, hP2, hF4, by omega, by omega, by have := e21; omega, by rw [e29, ((hQ3.at g_739_13 rfl).trans ex739_13), e25]; exact SNR_9 (by omega), fun _ q => absurd q (by omega), fun k _ => by rw [hQ3.at (ga_747 _) rfl], (WS_sm (Sm.fr hQ3 rfl) pp_WS), (QW_sm (Sm.fr hQ3 rfl) pp_QW)⟩)
  · intro h729
    clear h8 h9 h10 h11 h12 h13
    refine wk_c1 r126_8 ?_
    subst hQ; exact wk_iret r126_9 (⟨rfl, _, rfl, hP2, hF4, by omega, by omega, by have := e21; omega, by rw [e29, ((hQ3.at g_739_13 rfl).trans ex739_13), e25]; exact SNR_t (by omega), fun q => absurd q (by have := e29; omega), fun k _ => by rw [hQ3.at (ga_747 _) rfl], (WS_sm (Sm.fr hQ3 rfl) pp_WS), (QW_sm (Sm.fr hQ3 rfl) pp_QW)⟩)
