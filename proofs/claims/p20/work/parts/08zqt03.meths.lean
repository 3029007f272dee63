/-! ===== written by program (wip/layer4) ===== -/
def fm_m8059_739 : Nat := 1830881467489219472071675848908719412503583958811579601454765339970264629248
/-- IslandHallModel.comes -/
theorem m8059_739 {B : eB} (d : Nat) (M0 : Mm) (p1 : Int) (p2 : Int) (p3 : Int) (x739_7 : Int) (x739_1 : Int) (fe : Int) (hP0 : Pw M0) (l1 : 0 ≤ p1) (u1 : p1 ≤ 3) (l2 : 0 ≤ p2) (u2 : p2 ≤ 6) (l3 : 0 ≤ p3) (u3 : p3 ≤ 1) (ex739_7 : M0 739 7 = x739_7) (lx739_7 : 0 ≤ x739_7) (ux739_7 : x739_7 ≤ 2999) (ex739_1 : M0 739 1 = x739_1) (lx739_1 : 0 ≤ x739_1) (ux739_1 : x739_1 ≤ 7) (pp_FF : FFP M0 fe) (pp_CH : CHP M0) : Ct B (d + 6) 59 [R 739, I p1, I p2, I p3] M0 (qV fun M => Pw M ∧ Fr fm_m8059_739 M0 M ∧ 0 ≤ M 739 7 + (-1) * x739_7 ∧ 0 ≤ (-1) * (M 739 7) + x739_7 + 1 ∧ (FFP M fe) ∧ (CHP M)) := by
  refine ct_of (d := d + 5) (k := 3) (L := [some (R 739), some (I p1), some (I p2), some (I p3), none, none, none]) rfl rfl rfl ?_
  have hF0 := Fr.rf fm_m8059_739 M0
  generalize hQ : (qV fun M => Pw M ∧ Fr fm_m8059_739 M0 M ∧ 0 ≤ M 739 7 + (-1) * x739_7 ∧ 0 ≤ (-1) * (M 739 7) + x739_7 + 1 ∧ (FFP M fe) ∧ (CHP M)) = Q
  refine wk_al0 r59_0 (wk_getfi r59_1 fd_739_7 ex739_7 (wk_is4 r59_4 rfl (wk_al0 r59_6 (wk_getfr r59_7 fd_739_8 (br_739_8 hP0) (wk_il4 r59_10 (wk_c1 r59_12 (wk_iast r59_13 ar_742 ⟨by omega, by omega⟩ (wk_nw (ga_742 _) rfl hP0 hF0 (ua_742 (by decide)) ?_))))))))
  intro M1 hP2 hF3 e4
  refine wk_al0 r59_14 (wk_getfr r59_15 fd_739_9 (br_739_9 hP2) (wk_il4 r59_18 (wk_c1 r59_20 (wk_iast r59_21 ar_743 ⟨by omega, by omega⟩ (wk_nw (ga_743 _) rfl hP2 hF3 (ua_743 (by decide)) ?_)))))
  intro M5 hP6 hF7 e8
  refine wk_c1 r59_22 (wk_is5 r59_23 rfl ?_)
  have c25_603 : ∀ (k603 : Nat) (M507 : Mm) (v504 : Int), (7 - v504).toNat = k603 → Pw M507 → Fr fm_m8059_739 M0 M507 → M507 739 7 = x739_7 → M507 739 1 = x739_1 → 0 ≤ v504 → v504 ≤ 7 → (FFP M507 fe) → (CHP M507) → Wp B (d + 5) 59 25 [some (R 739), some (I p1), some (I p2), some (I p3), some (I x739_7), some (I v504), none] [] M507 Q := by
    refine lp_ind ?_
    intro k603 ih603 M507 v504 hk603 hP508 hF509 e510 e511 h505 h506 pr512 pr513
    refine wk_il5 r59_25 (wk_al0 r59_27 (wk_getfi r59_28 fd_739_1 e511 ?_))
    refine wk_icge r59_31 ⟨by omega, by omega⟩ ⟨by omega, by omega⟩ ?_ ?_
    · intro h514
      refine wk_al0 r59_92 (wk_getfr r59_93 fd_739_10 (br_739_10 hP508) (wk_il4 r59_96 (wk_il1 r59_98 (wk_iast r59_99 ar_744 ⟨by omega, by omega⟩ (wk_nw (ga_744 _) rfl hP508 hF509 (ua_744 ⟨by omega, by omega⟩) ?_)))))
      intro M515 hP516 hF517 e518
      refine wk_al0 r59_100 (wk_getfr r59_101 fd_739_11 (br_739_11 hP516) (wk_il4 r59_104 (wk_il2 r59_106 (wk_iast r59_107 ar_745 ⟨by omega, by omega⟩ (wk_nw (ga_745 _) rfl hP516 hF517 (ua_745 ⟨by omega, by omega⟩) ?_)))))
      intro M519 hP520 hF521 e522
      refine wk_al0 r59_108 (wk_getfr r59_109 fd_739_12 (br_739_12 hP520) (wk_il4 r59_112 (wk_il3 r59_114 (wk_iast r59_115 ar_746 ⟨by omega, by omega⟩ (wk_nw (ga_746 _) rfl hP520 hF521 (ua_746 ⟨by omega, by omega⟩) ?_)))))
      intro M523 hP524 hF525 e526
      refine wk_al0 r59_116 (wk_getfr r59_117 fd_739_19 (br_739_19 hP524) (wk_il4 r59_120 (wk_c1 r59_122 (wk_iast r59_123 ar_751 ⟨by omega, by omega⟩ (wk_nw (ga_751 _) rfl hP524 hF525 (ua_751 (by decide)) ?_)))))
      intro M527 hP528 hF529 e530
      refine wk_al0 r59_124 (wk_getfr r59_125 fd_739_20 (br_739_20 hP528) (wk_il4 r59_128 (wk_c1 r59_130 (wk_iast r59_131 ar_752 ⟨by omega, by omega⟩ (wk_nw (ga_752 _) rfl hP528 hF529 (ua_752 (by decide)) ?_)))))
      intro M531 hP532 hF533 e534
      refine wk_al0 r59_132 (wk_il4 r59_133 ?_)
      obtain ⟨v535, e536⟩ : ∃ v, M531 739 4 = v := ⟨_, rfl⟩
      have h537 := (bf_739_4 hP532).1; rw [e536] at h537
      have h538 := (bf_739_4 hP532).2; rw [e536] at h538
      refine wk_cv2 r59_135 kc_739_92 rfl (m8092_739 _ M531 x739_7 v535 fe hP532 (by first | with_reducible assumption | omega) (by first | with_reducible assumption | omega) e536 (by first | with_reducible assumption | omega) (by first | with_reducible assumption | omega) (FFP_sm (Sm.up e534 (ga_752 _) rfl) (FFP_sm (Sm.up e530 (ga_751 _) rfl) (FFP_sm (Sm.up e526 (ga_746 _) rfl) (FFP_sm (Sm.up e522 (ga_745 _) rfl) (FFP_sm (Sm.up e518 (ga_744 _) rfl) pr512)))))) (cqI ?_)
      rintro v543 M539 ⟨hP540, hQ541, h544, h545⟩
      have hF542 : Fr fm_m8059_739 M0 M539 := hF533.tr hQ541 rfl
      refine wk_ifeq r59_138 ⟨by omega, by omega⟩ ?_ ?_
      · intro h546
        subst hQ; exact wk_ret r59_151 (⟨rfl, hP540, hF542, by have := ((hQ541.at g_739_7 rfl).trans (mUp_no e534 (mUp_no e530 (mUp_no e526 (mUp_no e522 (mUp_no e518 e510 (Or.inl (by decide))) (Or.inl (by decide))) (Or.inl (by decide))) (Or.inl (by decide))) (Or.inl (by decide)))); omega, by have := ((hQ541.at g_739_7 rfl).trans (mUp_no e534 (mUp_no e530 (mUp_no e526 (mUp_no e522 (mUp_no e518 e510 (Or.inl (by decide))) (Or.inl (by decide))) (Or.inl (by decide))) (Or.inl (by decide))) (Or.inl (by decide)))); omega, (FFP_sm (Sm.fr hQ541 rfl) (FFP_sm (Sm.up e534 (ga_752 _) rfl) (FFP_sm (Sm.up e530 (ga_751 _) rfl) (FFP_sm (Sm.up e526 (ga_746 _) rfl) (FFP_sm (Sm.up e522 (ga_745 _) rfl) (FFP_sm (Sm.up e518 (ga_744 _) rfl) pr512)))))), (CHP_sm (Sm.fr hQ541 rfl) (CHP_sm (Sm.up e534 (ga_752 _) rfl) (CHP_sm (Sm.up e530 (ga_751 _) rfl) (CHP_sm (Sm.up e526 (ga_746 _) rfl) (CHP_sm (Sm.up e522 (ga_745 _) rfl) (CHP_sm (Sm.up e518 (ga_744 _) rfl) pr513))))))⟩)
      · intro h547
        refine wk_al0 r59_141 (wk_dupr r59_142 (wk_getfi r59_143 fd_739_7 ((hQ541.at g_739_7 rfl).trans (mUp_no e534 (mUp_no e530 (mUp_no e526 (mUp_no e522 (mUp_no e518 e510 (Or.inl (by decide))) (Or.inl (by decide))) (Or.inl (by decide))) (Or.inl (by decide))) (Or.inl (by decide)))) (wk_c1 r59_146 (wk_iadd r59_147 (wk_putfi81 r59_148 fd_739_7 (wk_nw g_739_7 rfl hP540 hF542 (uf_739_7 ⟨by omega, by omega⟩) ?_))))))
        intro M548 hP549 hF550 e551
        subst hQ; exact wk_ret r59_151 (⟨rfl, hP549, hF550, by have := (mUp_at e551); omega, by have := (mUp_at e551); omega, (FFP_sm (Sm.up e551 g_739_7 rfl) (FFP_sm (Sm.fr hQ541 rfl) (FFP_sm (Sm.up e534 (ga_752 _) rfl) (FFP_sm (Sm.up e530 (ga_751 _) rfl) (FFP_sm (Sm.up e526 (ga_746 _) rfl) (FFP_sm (Sm.up e522 (ga_745 _) rfl) (FFP_sm (Sm.up e518 (ga_744 _) rfl) pr512))))))), (CHP_sm (Sm.up e551 g_739_7 rfl) (CHP_sm (Sm.fr hQ541 rfl) (CHP_sm (Sm.up e534 (ga_752 _) rfl) (CHP_sm (Sm.up e530 (ga_751 _) rfl) (CHP_sm (Sm.up e526 (ga_746 _) rfl) (CHP_sm (Sm.up e522 (ga_745 _) rfl) (CHP_sm (Sm.up e518 (ga_744 _) rfl) pr513)))))))⟩)
    · intro h552
      refine wk_al0 r59_34 (wk_il5 r59_35 (wk_al0 r59_37 (wk_getfr r59_38 fd_739_54 (br_739_54 hP508) (wk_il5 r59_41 (wk_ialdb r59_43 ar_760 ⟨by omega, by omega⟩ (fun q0 q1 => ba_760 hP508 q0 q1) ?_)))))
      intro v553 h555 h556 e554
      refine wk_cv3 r59_44 kc_739_57 rfl (m8057_739 _ M507 v504 v553 hP508 (by first | with_reducible assumption | omega) (by first | with_reducible assumption | omega) (by first | with_reducible assumption | omega) (by first | with_reducible assumption | omega)) (cqI ?_)
      rintro v562 M557 ⟨hP558, hQ559, h563, h564, xh561⟩
      obtain rfl := Fr.same hQ559
      refine wk_is6 r59_47 rfl ?_
      have h565 : 0 ≤ v562 := by have q1 := (xh561).1; have q2 := pr513 v504 (by omega) (by rw [e511]; omega); rw [e554] at q2; omega
      refine wk_al0 r59_49 (wk_getfr r59_50 fd_739_8 (br_739_8 hP508) (wk_il4 r59_53 (wk_dup2 r59_55 (wk_ialdb r59_56 ar_742 ⟨by omega, by omega⟩ (fun q0 q1 => ba_742 hP508 q0 q1) ?_))))
      intro v566 h568 h569 e567
      refine wk_il6 r59_57 (wk_c2 r59_59 (wk_iandc 3 8 r59_61 ⟨rfl, by decide⟩ rfl (wk_c1 r59_62 (wk_il5 r59_63 (wk_imul r59_65 (wk_shlb 18 262144 7 r59_66 ⟨by omega, by omega⟩ ⟨by omega, by omega⟩ ⟨pwl_18, by decide⟩ ?_))))))
      intro v571 h572 h573 h574
      refine wk_ior 21 2097152 r59_67 (by decide) ⟨by omega, by omega⟩ ⟨by omega, by omega⟩ ?_
      intro v575 h576 h577 h578 h579 h580
      refine wk_iast r59_68 ar_742 ⟨by omega, by omega⟩ (wk_nw (ga_742 _) rfl hP508 hF509 (ua_742 ⟨by omega, by omega⟩) ?_)
      intro M581 hP582 hF583 e584
      refine wk_al0 r59_69 (wk_getfr r59_70 fd_739_9 (br_739_9 hP582) (wk_il4 r59_73 (wk_dup2 r59_75 (wk_ialdb r59_76 ar_743 ⟨by omega, by omega⟩ (fun q0 q1 => ba_743 hP582 q0 q1) ?_))))
      intro v585 h587 h588 e586
      refine wk_il6 r59_77 (wk_c1 r59_79 (wk_ishrc r59_80 ⟨by omega, by omega⟩ (by decide) pwl_3 (wk_il5 r59_81 (wk_shlb 6 64 1 r59_83 ⟨by omega, by omega⟩ ⟨by omega, by omega⟩ ⟨pwl_6, by decide⟩ ?_))))
      intro v589 h590 h591 h592
      refine wk_ior 7 128 r59_84 (by decide) ⟨by omega, by omega⟩ ⟨by omega, by omega⟩ ?_
      intro v593 h594 h595 h596 h597 h598
      refine wk_iast r59_85 ar_743 ⟨by omega, by omega⟩ (wk_nw (ga_743 _) rfl hP582 hF583 (ua_743 ⟨by omega, by omega⟩) ?_)
      intro M599 hP600 hF601 e602
      refine wk_inc5 r59_86 rfl (wk_goto r59_89 ?_)
      exact wp_fg (le_s (le_s (le_s (le_s (le_s (le_s (le_n le_0))))))) (ih603 (7 - (v504 + 1)).toNat (by omega) M599 (v504 + 1) rfl hP600 hF601 (mUp_no e602 (mUp_no e584 e510 (Or.inl (by decide))) (Or.inl (by decide))) (mUp_no e602 (mUp_no e584 e511 (Or.inl (by decide))) (Or.inl (by decide))) (by first | with_reducible assumption | omega) (by first | with_reducible assumption | omega) (FFP_sm (Sm.up e602 (ga_743 _) rfl) (FFP_sm (Sm.up e584 (ga_742 _) rfl) pr512)) (CHP_sm (Sm.up e602 (ga_743 _) rfl) (CHP_sm (Sm.up e584 (ga_742 _) rfl) pr513)))
  exact wp_fg (le_s (le_s (le_s (le_s (le_s (le_s (le_s le_0))))))) (c25_603 _ M5 0 rfl hP6 hF7 (mUp_no e8 (mUp_no e4 ex739_7 (Or.inl (by decide))) (Or.inl (by decide))) (mUp_no e8 (mUp_no e4 ex739_1 (Or.inl (by decide))) (Or.inl (by decide))) (by first | with_reducible assumption | omega) (by first | with_reducible assumption | omega) (FFP_sm (Sm.up e8 (ga_743 _) rfl) (FFP_sm (Sm.up e4 (ga_742 _) rfl) pp_FF)) (CHP_sm (Sm.up e8 (ga_743 _) rfl) (CHP_sm (Sm.up e4 (ga_742 _) rfl) pp_CH)))
def fm_m8108_739 : Nat := 5449384903194070590894782465179787207261246102259942362722533676274317000704
set_option maxHeartbeats 20000000 in
/-- IslandHallModel.makes -/
theorem m8108_739 {B : eB} (d : Nat) (M0 : Mm) (x739_1 : Int) (x739_2 : Int) (x739_41 : Int) (x739_43 : Int) (x739_40 : Int) (fe : Int) (Rr : Int) (hP0 : Pw M0) (ex739_1 : M0 739 1 = x739_1) (lx739_1 : 0 ≤ x739_1) (ux739_1 : x739_1 ≤ 7) (ex739_2 : M0 739 2 = x739_2) (lx739_2 : 1 ≤ x739_2) (ux739_2 : x739_2 ≤ 4) (ex739_41 : M0 739 41 = x739_41) (lx739_41 : 1 ≤ x739_41) (ux739_41 : x739_41 ≤ 7) (ex739_43 : M0 739 43 = x739_43) (lx739_43 : 1 ≤ x739_43) (ux739_43 : x739_43 ≤ 2) (ex739_40 : M0 739 40 = x739_40) (lx739_40 : (-1) ≤ x739_40) (ux739_40 : x739_40 ≤ 6) (xp0 : x739_41 = 1 ∨ x739_41 = 7) (xp1 : Rr = x739_2 * x739_41 * x739_43) (xp2 : Rr * PRD (fun k => M0 740 k) 0 x739_1.toNat ≤ 3000) (xp3 : ∀ k : Int, 0 ≤ k → k < 7 → 1 ≤ M0 740 k) (pp_FF : FFP M0 fe) : Ct B (d + 7) 108 [R 739] M0 (qV fun M => Pw M ∧ Fr fm_m8108_739 M0 M ∧ 0 ≤ (-1) * (M 739 13) ∧ 0 ≤ (-1) * (M 739 21) ∧ (WS M) ∧ (QW M)) := by
  refine ct_of (d := d + 6) (k := 4) (L := [some (R 739), none, none, none, none]) rfl rfl rfl ?_
  have hF0 := Fr.rf fm_m8108_739 M0
  generalize hQ : (qV fun M => Pw M ∧ Fr fm_m8108_739 M0 M ∧ 0 ≤ (-1) * (M 739 13) ∧ 0 ≤ (-1) * (M 739 21) ∧ (WS M) ∧ (QW M)) = Q
  rcases (show x739_41 = 1 ∨ x739_41 = 7 by omega) with h1 | h2
  · rcases (show x739_43 = 1 ∨ x739_43 = 2 by omega) with h3 | h4
    · have hRr : Rr = 1 * x739_2 := by rw [xp1, show x739_41 = 1 by omega, show x739_43 = 1 by omega]; omega
      have hmb : ∀ k : Int, 0 ≤ k → k < 7 → 1 ≤ M0 740 k ∧ M0 740 k ≤ 31 := fun k a b => ⟨xp3 k a b, (ba_740 hP0 a b).2⟩
      refine wk_al0 r108_0 (wk_c1 r108_1 (wk_putfi81 r108_2 fd_739_13 (wk_nw g_739_13 rfl hP0 hF0 (uf_739_13 (by decide)) ?_)))
      intro M5 hP6 hF7 e8
      refine wk_al0 r108_5 (wk_c1 r108_6 (wk_putfi81 r108_7 fd_739_15 (wk_nw g_739_15 rfl hP6 hF7 (uf_739_15 (by decide)) ?_)))
      intro M9 hP10 hF11 e12
      refine wk_al0 r108_10 (wk_c1 r108_11 (wk_putfi81 r108_12 fd_739_21 (wk_nw g_739_21 rfl hP10 hF11 (uf_739_21 (by decide)) ?_)))
      intro M13 hP14 hF15 e16
      refine wk_al0 r108_15 (wk_c1 r108_16 (wk_putfi81 r108_17 fd_739_24 (wk_nw g_739_24 rfl hP14 hF15 (uf_739_24 (by decide)) ?_)))
      intro M17 hP18 hF19 e20
      refine wk_al0 r108_20 (wk_c1 r108_21 (wk_putfi81 r108_22 fd_739_64 (wk_nw g_739_64 rfl hP18 hF19 (uf_739_64 (by decide)) ?_)))
      intro M21 hP22 hF23 e24
      refine wk_al0 r108_25 (wk_c1 r108_26 (wk_putfi81 r108_27 fd_739_65 (wk_nw g_739_65 rfl hP22 hF23 (uf_739_65 (by decide)) ?_)))
      intro M25 hP26 hF27 e28
      refine wk_al0 r108_30 (wk_c1 r108_31 (wk_putfi81 r108_32 fd_739_7 (wk_nw g_739_7 rfl hP26 hF27 (uf_739_7 (by decide)) ?_)))
      intro M29 hP30 hF31 e32
      refine wk_c1 r108_35 (wk_is1 r108_36 rfl ?_)
      have c37_3811 : ∀ (k3811 : Nat) (M3573 : Mm) (v3570 : Int), (7 - v3570).toNat = k3811 → Pw M3573 → Fr fm_m8108_739 M0 M3573 → M3573 739 1 = x739_1 → M3573 739 2 = x739_2 → M3573 739 41 = x739_41 → M3573 739 43 = x739_43 → M3573 739 40 = x739_40 → M3573 739 13 = 0 → M3573 739 15 = 0 → M3573 739 21 = 0 → M3573 739 24 = (-1) → M3573 739 64 = (-1) → M3573 739 65 = 0 → M3573 739 7 = 0 → 0 ≤ v3570 → v3570 ≤ 7 → (FFP M3573 fe) → (∀ k : Int, 0 ≤ k → k < v3570 → M3573 760 k = 0) → Wp B (d + 6) 108 37 [some (R 739), some (I v3570), none, none, none] [] M3573 Q := by
        refine lp_ind ?_
        intro k3811 ih3811 M3573 v3570 hk3811 hP3574 hF3575 e3576 e3577 e3578 e3579 e3580 e3581 e3582 e3583 e3584 e3585 e3586 e3587 h3571 h3572 pr3588 ti3589
        refine wk_il1 r108_37 (wk_al0 r108_38 (wk_getfi r108_39 fd_739_1 e3576 ?_))
        refine wk_icge r108_42 ⟨by omega, by omega⟩ ⟨by omega, by omega⟩ ?_ ?_
        · intro h3590
          have hCA := CH_all (M := M3573) (fun k a b => ti3589 k a (by have := e3576; omega)) (fun k a b => by rw [hF3575.at (ga_740 k) rfl]; exact hmb k a b) (by have := e3576; omega)
          have pr3591 : CHP M3573 := hCA.1
          refine wk_c1 r108_58 (wk_is1 r108_59 rfl ?_)
          have c60_3805 : ∀ (k3805 : Nat) (M3595 : Mm) (v3592 : Int) (v3598 : Int), (4000 * v3592 - VC M3595).toNat = k3805 → Pw M3595 → Fr fm_m8108_739 M0 M3595 → M3595 739 7 = v3598 → M3595 739 1 = x739_1 → M3595 739 2 = x739_2 → M3595 739 41 = x739_41 → M3595 739 43 = x739_43 → M3595 739 40 = x739_40 → M3595 739 13 = 0 → M3595 739 15 = 0 → M3595 739 21 = 0 → M3595 739 24 = (-1) → M3595 739 64 = (-1) → M3595 739 65 = 0 → 0 ≤ v3592 → v3592 ≤ 1 → 0 ≤ v3598 → v3598 ≤ 3000 → (FFP M3595 fe) → (CHP M3595) → 0 ≤ (-1) * v3592 + v3598 + 1 → (v3592 = 1 → v3598 ≤ Rr * VC M3595) → Wp B (d + 6) 108 60 [some (R 739), some (I v3592), none, none, none] [] M3595 Q := by
            refine lp_ind ?_
            intro k3805 ih3805 M3595 v3592 v3598 hk3805 hP3596 hF3597 e3601 e3602 e3603 e3604 e3605 e3606 e3607 e3608 e3609 e3610 e3611 e3612 h3593 h3594 h3599 h3600 pr3613 pr3614 h3615 ti3616
            refine wk_il1 r108_60 ?_
            refine wk_ifeq r108_61 ⟨by omega, by omega⟩ ?_ ?_
            · intro h3617
              subst hQ; exact wk_ret r108_218 (⟨rfl, hP3596, hF3597, by have := e3607; omega, by have := e3609; omega, (WS_0 e3607), (QW_0 e3609)⟩)
            · intro h3618
              obtain ⟨cv, hcv⟩ : ∃ x, VC M3595 = x := ⟨_, rfl⟩
              obtain ⟨xq, hxq⟩ : ∃ x, Rr * cv = x := ⟨_, rfl⟩
              have hw0 : v3598 ≤ xq := by rw [← hxq, ← hcv]; exact ti3616 (by omega)
              have hw1 : xq + Rr ≤ 3000 := by rw [← hxq, ← hcv]; exact VC_lt pr3614 (by omega) (by rw [e3602, PRD_M (fun k => hF3597.at (ga_740 k) rfl)]; exact xp2)
              have hcv0 : 0 ≤ cv := by rw [← hcv]; exact VC_nn hP3596 (by have := e3602; omega) (fun i a b => (ba_760 hP3596 a b).1)
              have hcv1 : cv ≤ 2999 := cv_ub (by omega) hcv0 hxq hw1
              refine wk_c1 r108_64 (wk_is2 r108_65 rfl ?_)
              have c66_3804 : ∀ (k3804 : Nat) (M3622 : Mm) (v3619 : Int) (v3625 : Int), (4 - v3619).toNat = k3804 → Pw M3622 → Fr fm_m8108_739 M0 M3622 → M3622 739 7 = v3625 → M3622 739 1 = x739_1 → M3622 739 2 = x739_2 → M3622 739 41 = x739_41 → M3622 739 43 = x739_43 → M3622 739 40 = x739_40 → M3622 739 13 = 0 → M3622 739 15 = 0 → M3622 739 21 = 0 → M3622 739 24 = (-1) → M3622 739 64 = (-1) → M3622 739 65 = 0 → 0 ≤ v3619 → v3619 ≤ 4 → 0 ≤ v3625 → v3625 ≤ 3000 → (FFP M3622 fe) → (CHP M3622) → (VC M3622 = cv) → 0 ≤ (-1) * v3625 + 1 * xq + 1 * v3619 → 0 ≤ (-1) * v3625 + 1 * xq + 2 * v3619 → 0 ≤ (-1) * v3625 + 1 * xq + 7 * v3619 → 0 ≤ (-1) * v3625 + 1 * xq + 14 * v3619 → 0 ≤ (-1) * v3619 + 1 * x739_2 → Wp B (d + 6) 108 66 [some (R 739), none, some (I v3619), none, none] [] M3622 Q := by
                refine lp_ind ?_
                intro k3804 ih3804 M3622 v3619 v3625 hk3804 hP3623 hF3624 e3628 e3629 e3630 e3631 e3632 e3633 e3634 e3635 e3636 e3637 e3638 e3639 h3620 h3621 h3626 h3627 pr3640 pr3641 pr3642 h3643 h3644 h3645 h3646 h3647
                refine wk_il2 r108_66 (wk_al0 r108_67 (wk_getfi r108_68 fd_739_2 e3630 ?_))
                refine wk_icge r108_71 ⟨by omega, by omega⟩ ⟨by omega, by omega⟩ ?_ ?_
                · intro h3648
                  have hCE : VC M3622 = cv := pr3642
                  have hw2 : v3625 ≤ xq + Rr := by omega
                  refine wk_al0 r108_150 (wk_getfi r108_151 fd_739_1 e3629 (wk_c1 r108_154 (wk_isub r108_155 (wk_is2 r108_156 rfl ?_))))
                  have c157_3707 : ∀ (k3707 : Nat) (M3652 : Mm) (v3649 : Int), (v3649 - (-1)).toNat = k3707 → Pw M3652 → Fr fm_m8108_739 M0 M3652 → M3652 739 7 = v3625 → M3652 739 1 = x739_1 → M3652 739 2 = x739_2 → M3652 739 41 = x739_41 → M3652 739 43 = x739_43 → M3652 739 40 = x739_40 → M3652 739 13 = 0 → M3652 739 15 = 0 → M3652 739 21 = 0 → M3652 739 24 = (-1) → M3652 739 64 = (-1) → M3652 739 65 = 0 → (-1) ≤ v3649 → v3649 ≤ 6 → (FFP M3652 fe) → (CHP M3652) → 0 ≤ (-1) * v3649 + 1 * x739_1 + (-1) → (DCI M3652 x739_1 v3649 cv) → Wp B (d + 6) 108 157 [some (R 739), none, some (I v3649), none, none] [] M3652 Q := by
                    refine lp_ind ?_
                    intro k3707 ih3707 M3652 v3649 hk3707 hP3653 hF3654 e3655 e3656 e3657 e3658 e3659 e3660 e3661 e3662 e3663 e3664 e3665 e3666 h3650 h3651 pr3667 pr3668 h3669 ti3670
                    refine wk_il2 r108_157 ?_
                    refine wk_iflt r108_158 ⟨by omega, by omega⟩ ?_ ?_
                    · intro h3671
                      refine wk_il2 r108_191 ?_
                      refine wk_iflt r108_192 ⟨by omega, by omega⟩ ?_ ?_
                      · intro h3672
                        refine wk_c1 r108_199 (wk_is1 r108_200 rfl (wk_il1 r108_201 ?_))
                        refine wk_ifeq r108_202 (by decide) ?_ ?_
                        · intro h3673
                          have h3674 := VC_nn hP3653 (by have := e3656; omega) (fun i a b => (ba_760 hP3653 a b).1)
                          refine wk_goto r108_215 ?_
                          exact wp_fg (le_s (le_s (le_n (le_s (le_s le_0))))) (ih3805 (4000 * 0 - VC M3652).toNat (by omega) M3652 0 v3625 rfl hP3653 hF3654 e3655 e3656 e3657 e3658 e3659 e3660 e3661 e3662 e3663 e3664 e3665 e3666 (by first | with_reducible assumption | omega) (by first | with_reducible assumption | omega) (by first | with_reducible assumption | omega) (by first | with_reducible assumption | omega) pr3667 pr3668 (by first | with_reducible assumption | omega) (fun q => by omega))
                        · intro h3675
                          exfalso
                          omega
                      · intro h3676
                        exfalso
                        omega
                    · intro h3677
                      refine wk_al0 r108_161 (wk_il2 r108_162 (wk_al0 r108_163 (wk_getfr r108_164 fd_739_54 (br_739_54 hP3653) (wk_il2 r108_167 (wk_ialdb r108_168 ar_760 ⟨by omega, by omega⟩ (fun q0 q1 => ba_760 hP3653 q0 q1) ?_)))))
                      intro v3678 h3680 h3681 e3679
                      refine wk_c1 r108_169 (wk_iadd r108_170 (wk_cv3 r108_171 kc_739_57 rfl (m8057_739 _ M3652 v3649 (v3678 + 1) hP3653 (by first | with_reducible assumption | omega) (by first | with_reducible assumption | omega) (by first | with_reducible assumption | omega) (by first | with_reducible assumption | omega)) (cqI ?_)))
                      rintro v3687 M3682 ⟨hP3683, hQ3684, h3688, h3689, xh3686⟩
                      obtain rfl := Fr.same hQ3684
                      refine wk_c1 r108_174 ?_
                      refine wk_icne r108_175 ⟨by omega, by omega⟩ (by decide) ?_ ?_
                      · intro h3690
                        refine wk_il2 r108_191 ?_
                        refine wk_iflt r108_192 ⟨by omega, by omega⟩ ?_ ?_
                        · intro h3691
                          exfalso
                          omega
                        · intro h3692
                          refine wk_c1 r108_195 (wk_goto r108_196 (wk_is1 r108_200 rfl (wk_il1 r108_201 ?_)))
                          refine wk_ifeq r108_202 (by decide) ?_ ?_
                          · intro h3693
                            exfalso
                            omega
                          · intro h3694
                            refine wk_al0 r108_205 (wk_getfr r108_206 fd_739_54 (br_739_54 hP3653) (wk_il2 r108_209 (wk_dup2 r108_210 (wk_iald r108_211 ar_760 ⟨by omega, by omega⟩ e3679 (wk_c1 r108_212 (wk_iadd r108_213 ?_))))))
                            have h3695 : (v3678 + 1) ≤ 9 := by have := cT_lt ((xh3686).2 (by omega)); omega
                            refine wk_iast r108_214 ar_760 ⟨by omega, by omega⟩ (wk_nw (ga_760 _) rfl hP3653 hF3654 (ua_760 ⟨by omega, by omega⟩) ?_)
                            intro M3696 hP3697 hF3698 e3699
                            have hVC : VC M3696 = cv + 1 := DC_inc ti3670 e3656 (by omega) (by omega) e3679 e3699
                            have pr3700 : CHP M3696 := CH_inc pr3668 (by have := (xh3686).2 (by omega); omega) e3699
                            refine wk_goto r108_215 ?_
                            exact wp_fg (le_s (le_s (le_n (le_s (le_s le_0))))) (ih3805 (4000 * 1 - VC M3696).toNat (by omega) M3696 1 v3625 rfl hP3697 hF3698 (mUp_no e3699 e3655 (Or.inl (by decide))) (mUp_no e3699 e3656 (Or.inl (by decide))) (mUp_no e3699 e3657 (Or.inl (by decide))) (mUp_no e3699 e3658 (Or.inl (by decide))) (mUp_no e3699 e3659 (Or.inl (by decide))) (mUp_no e3699 e3660 (Or.inl (by decide))) (mUp_no e3699 e3661 (Or.inl (by decide))) (mUp_no e3699 e3662 (Or.inl (by decide))) (mUp_no e3699 e3663 (Or.inl (by decide))) (mUp_no e3699 e3664 (Or.inl (by decide))) (mUp_no e3699 e3665 (Or.inl (by decide))) (mUp_no e3699 e3666 (Or.inl (by decide))) (by first | with_reducible assumption | omega) (by first | with_reducible assumption | omega) (by first | with_reducible assumption | omega) (by first | with_reducible assumption | omega) (FFP_sm (Sm.up e3699 (ga_760 _) rfl) pr3667) pr3700 (by first | with_reducible assumption | omega) (fun _ => by rw [mul_ub hVC hxq]; omega))
                      · intro h3701
                        refine wk_al0 r108_178 (wk_getfr r108_179 fd_739_54 (br_739_54 hP3653) (wk_il2 r108_182 (wk_c1 r108_183 (wk_iast r108_184 ar_760 ⟨by omega, by omega⟩ (wk_nw (ga_760 _) rfl hP3653 hF3654 (ua_760 (by decide)) ?_)))))
                        intro M3702 hP3703 hF3704 e3705
                        have pr3706 : CHP M3702 := CH_zero pr3668 (by rw [hF3654.at (ga_740 _) rfl]; exact cT_pos (hmb v3649 (by omega) (by omega))) e3705
                        refine wk_inc2 r108_185 rfl (wk_goto r108_188 ?_)
                        exact wp_fg (le_s (le_s (le_s (le_s (le_s le_0))))) (ih3707 ((v3649 + (-1)) - (-1)).toNat (by omega) M3702 (v3649 + (-1)) rfl hP3703 hF3704 (mUp_no e3705 e3655 (Or.inl (by decide))) (mUp_no e3705 e3656 (Or.inl (by decide))) (mUp_no e3705 e3657 (Or.inl (by decide))) (mUp_no e3705 e3658 (Or.inl (by decide))) (mUp_no e3705 e3659 (Or.inl (by decide))) (mUp_no e3705 e3660 (Or.inl (by decide))) (mUp_no e3705 e3661 (Or.inl (by decide))) (mUp_no e3705 e3662 (Or.inl (by decide))) (mUp_no e3705 e3663 (Or.inl (by decide))) (mUp_no e3705 e3664 (Or.inl (by decide))) (mUp_no e3705 e3665 (Or.inl (by decide))) (mUp_no e3705 e3666 (Or.inl (by decide))) (by first | with_reducible assumption | omega) (by first | with_reducible assumption | omega) (FFP_sm (Sm.up e3705 (ga_760 _) rfl) pr3667) pr3706 (by first | with_reducible assumption | omega) (DC_st ti3670 (by omega) (by omega) (by have := (xh3686).1 (by omega); rw [e3679]; omega) (by have := pr3668 v3649 (by omega) (by rw [e3656]; omega); exact this) e3705))
                  exact wp_fg (le_s (le_s (le_s (le_s (le_s le_0))))) (c157_3707 _ M3622 (x739_1 - 1) rfl hP3623 hF3624 e3628 e3629 e3630 e3631 e3632 e3633 e3634 e3635 e3636 e3637 e3638 e3639 (by first | with_reducible assumption | omega) (by first | with_reducible assumption | omega) pr3640 pr3641 (by first | with_reducible assumption | omega) (DC_in e3629 (by omega) hCE))
                · intro h3708
                  refine wk_c1 r108_74 (wk_is3 r108_75 rfl ?_)
                  have c76_3803 : ∀ (k3803 : Nat) (M3712 : Mm) (v3709 : Int) (v3715 : Int), (1 - v3709).toNat = k3803 → Pw M3712 → Fr fm_m8108_739 M0 M3712 → M3712 739 7 = v3715 → M3712 739 1 = x739_1 → M3712 739 2 = x739_2 → M3712 739 41 = x739_41 → M3712 739 43 = x739_43 → M3712 739 40 = x739_40 → M3712 739 13 = 0 → M3712 739 15 = 0 → M3712 739 21 = 0 → M3712 739 24 = (-1) → M3712 739 64 = (-1) → M3712 739 65 = 0 → 0 ≤ v3709 → v3709 ≤ 1 → 0 ≤ v3715 → v3715 ≤ 3000 → (FFP M3712 fe) → (CHP M3712) → (VC M3712 = cv) → 0 ≤ (-1) * v3715 + 1 * xq + 1 * v3619 + 1 * v3709 → 0 ≤ (-1) * v3715 + 1 * xq + 2 * v3619 + 2 * v3709 → 0 ≤ (-1) * v3715 + 1 * xq + 7 * v3619 + 1 * v3709 → 0 ≤ (-1) * v3715 + 1 * xq + 14 * v3619 + 2 * v3709 → 0 ≤ (-1) * v3619 + 1 * x739_2 → 0 ≤ (-1) * v3709 + 1 * x739_41 → Wp B (d + 6) 108 76 [some (R 739), none, some (I v3619), some (I v3709), none] [] M3712 Q := by
                    refine lp_ind ?_
                    intro k3803 ih3803 M3712 v3709 v3715 hk3803 hP3713 hF3714 e3718 e3719 e3720 e3721 e3722 e3723 e3724 e3725 e3726 e3727 e3728 e3729 h3710 h3711 h3716 h3717 pr3730 pr3731 pr3732 h3733 h3734 h3735 h3736 h3737 h3738
                    refine wk_il3 r108_76 (wk_al0 r108_77 (wk_getfi r108_78 fd_739_41 e3721 ?_))
                    refine wk_icge r108_81 ⟨by omega, by omega⟩ ⟨by omega, by omega⟩ ?_ ?_
                    · intro h3739
                      refine wk_inc2 r108_144 rfl (wk_goto r108_147 ?_)
                      exact wp_fg (le_s (le_s (le_s (le_n (le_s le_0))))) (ih3804 (4 - (v3619 + 1)).toNat (by omega) M3712 (v3619 + 1) v3715 rfl hP3713 hF3714 e3718 e3719 e3720 e3721 e3722 e3723 e3724 e3725 e3726 e3727 e3728 e3729 (by first | with_reducible assumption | omega) (by first | with_reducible assumption | omega) (by first | with_reducible assumption | omega) (by first | with_reducible assumption | omega) pr3730 pr3731 pr3732 (by first | with_reducible assumption | omega) (by first | with_reducible assumption | omega) (by first | with_reducible assumption | omega) (by first | with_reducible assumption | omega) (by first | with_reducible assumption | omega))
                    · intro h3740
                      refine wk_c1 r108_84 (wk_is4 r108_85 rfl ?_)
                      have c87_3802 : ∀ (k3802 : Nat) (M3744 : Mm) (v3741 : Int) (v3747 : Int), (1 - v3741).toNat = k3802 → Pw M3744 → Fr fm_m8108_739 M0 M3744 → M3744 739 7 = v3747 → M3744 739 1 = x739_1 → M3744 739 2 = x739_2 → M3744 739 41 = x739_41 → M3744 739 43 = x739_43 → M3744 739 40 = x739_40 → M3744 739 13 = 0 → M3744 739 15 = 0 → M3744 739 21 = 0 → M3744 739 24 = (-1) → M3744 739 64 = (-1) → M3744 739 65 = 0 → 0 ≤ v3741 → v3741 ≤ 1 → 0 ≤ v3747 → v3747 ≤ 3000 → (FFP M3744 fe) → (CHP M3744) → (VC M3744 = cv) → 0 ≤ (-1) * v3747 + 1 * xq + 1 * v3619 + 1 * v3709 + 1 * v3741 → 0 ≤ (-1) * v3747 + 1 * xq + 2 * v3619 + 2 * v3709 + 1 * v3741 → 0 ≤ (-1) * v3747 + 1 * xq + 7 * v3619 + 1 * v3709 + 1 * v3741 → 0 ≤ (-1) * v3747 + 1 * xq + 14 * v3619 + 2 * v3709 + 1 * v3741 → 0 ≤ (-1) * v3619 + 1 * x739_2 → 0 ≤ (-1) * v3709 + 1 * x739_41 → 0 ≤ (-1) * v3741 + 1 * x739_43 → Wp B (d + 6) 108 87 [some (R 739), none, some (I v3619), some (I v3709), some (I v3741)] [] M3744 Q := by
                        refine lp_ind ?_
                        intro k3802 ih3802 M3744 v3741 v3747 hk3802 hP3745 hF3746 e3750 e3751 e3752 e3753 e3754 e3755 e3756 e3757 e3758 e3759 e3760 e3761 h3742 h3743 h3748 h3749 pr3762 pr3763 pr3764 h3765 h3766 h3767 h3768 h3769 h3770 h3771
                        refine wk_il4 r108_87 (wk_al0 r108_89 (wk_getfi r108_90 fd_739_43 e3754 ?_))
                        refine wk_icge r108_93 ⟨by omega, by omega⟩ ⟨by omega, by omega⟩ ?_ ?_
                        · intro h3772
                          refine wk_inc3 r108_138 rfl (wk_goto r108_141 ?_)
                          exact wp_fg (le_s (le_s (le_s (le_s (le_n le_0))))) (ih3803 (1 - (v3709 + 1)).toNat (by omega) M3744 (v3709 + 1) v3747 rfl hP3745 hF3746 e3750 e3751 e3752 e3753 e3754 e3755 e3756 e3757 e3758 e3759 e3760 e3761 (by first | with_reducible assumption | omega) (by first | with_reducible assumption | omega) (by first | with_reducible assumption | omega) (by first | with_reducible assumption | omega) pr3762 pr3763 pr3764 (by first | with_reducible assumption | omega) (by first | with_reducible assumption | omega) (by first | with_reducible assumption | omega) (by first | with_reducible assumption | omega) (by first | with_reducible assumption | omega) (by first | with_reducible assumption | omega))
                        · intro h3773
                          refine wk_al0 r108_96 (wk_il2 r108_97 (wk_al0 r108_98 (wk_getfi r108_99 fd_739_41 e3753 (wk_c2 r108_102 ?_))))
                          refine wk_icne r108_104 ⟨by omega, by omega⟩ (by decide) ?_ ?_
                          · intro h3774
                            refine wk_al0 r108_111 (wk_getfi r108_112 fd_739_40 e3755 (wk_c1 r108_115 ?_))
                            refine wk_icne r108_116 ⟨by omega, by omega⟩ (by decide) ?_ ?_
                            · intro h3775
                              refine wk_al0 r108_123 (wk_getfi r108_124 fd_739_40 e3755 (wk_il4 r108_127 (wk_cv4 r108_129 kc_739_59 rfl (m8059_739 _ M3744 v3619 x739_40 v3741 v3747 x739_1 fe hP3745 (by first | with_reducible assumption | omega) (by first | with_reducible assumption | omega) (by first | with_reducible assumption | omega) (by first | with_reducible assumption | omega) (by first | with_reducible assumption | omega) (by first | with_reducible assumption | omega) e3750 (by first | with_reducible assumption | omega) (by first | with_reducible assumption | omega) e3751 (by first | with_reducible assumption | omega) (by first | with_reducible assumption | omega) pr3762 pr3763) (cqV ?_))))
                              rintro M3776 ⟨hP3777, hQ3778, h3780, h3781, pr3782, pr3783⟩
                              have hF3779 : Fr fm_m8108_739 M0 M3776 := hF3746.tr hQ3778 rfl
                              obtain ⟨v3784, e3785⟩ : ∃ v, M3776 739 7 = v := ⟨_, rfl⟩
                              have h3786 := (bf_739_7 hP3777).1; rw [e3785] at h3786
                              have h3787 := (bf_739_7 hP3777).2; rw [e3785] at h3787
                              refine wk_inc4 r108_132 rfl (wk_goto r108_135 ?_)
                              exact wp_fg (le_s (le_s (le_s (le_s (le_s le_0))))) (ih3802 (1 - (v3741 + 1)).toNat (by omega) M3776 (v3741 + 1) v3784 rfl hP3777 hF3779 e3785 ((hQ3778.at g_739_1 rfl).trans e3751) ((hQ3778.at g_739_2 rfl).trans e3752) ((hQ3778.at g_739_41 rfl).trans e3753) ((hQ3778.at g_739_43 rfl).trans e3754) ((hQ3778.at g_739_40 rfl).trans e3755) ((hQ3778.at g_739_13 rfl).trans e3756) ((hQ3778.at g_739_15 rfl).trans e3757) ((hQ3778.at g_739_21 rfl).trans e3758) ((hQ3778.at g_739_24 rfl).trans e3759) ((hQ3778.at g_739_64 rfl).trans e3760) ((hQ3778.at g_739_65 rfl).trans e3761) (by first | with_reducible assumption | omega) (by first | with_reducible assumption | omega) (by first | with_reducible assumption | omega) (by first | with_reducible assumption | omega) pr3782 pr3783 (VCE_sm (Sm.fr hQ3778 rfl) pr3764) (by first | with_reducible assumption | omega) (by first | with_reducible assumption | omega) (by first | with_reducible assumption | omega) (by first | with_reducible assumption | omega) (by first | with_reducible assumption | omega) (by first | with_reducible assumption | omega) (by first | with_reducible assumption | omega))
                            · intro h3788
                              refine wk_c1 r108_119 (wk_goto r108_120 (wk_il4 r108_127 (wk_cv4 r108_129 kc_739_59 rfl (m8059_739 _ M3744 v3619 0 v3741 v3747 x739_1 fe hP3745 (by first | with_reducible assumption | omega) (by first | with_reducible assumption | omega) (by decide) (by decide) (by first | with_reducible assumption | omega) (by first | with_reducible assumption | omega) e3750 (by first | with_reducible assumption | omega) (by first | with_reducible assumption | omega) e3751 (by first | with_reducible assumption | omega) (by first | with_reducible assumption | omega) pr3762 pr3763) (cqV ?_))))
                              rintro M3789 ⟨hP3790, hQ3791, h3793, h3794, pr3795, pr3796⟩
                              have hF3792 : Fr fm_m8108_739 M0 M3789 := hF3746.tr hQ3791 rfl
                              obtain ⟨v3797, e3798⟩ : ∃ v, M3789 739 7 = v := ⟨_, rfl⟩
                              have h3799 := (bf_739_7 hP3790).1; rw [e3798] at h3799
                              have h3800 := (bf_739_7 hP3790).2; rw [e3798] at h3800
                              refine wk_inc4 r108_132 rfl (wk_goto r108_135 ?_)
                              exact wp_fg (le_s (le_s (le_s (le_s (le_s le_0))))) (ih3802 (1 - (v3741 + 1)).toNat (by omega) M3789 (v3741 + 1) v3797 rfl hP3790 hF3792 e3798 ((hQ3791.at g_739_1 rfl).trans e3751) ((hQ3791.at g_739_2 rfl).trans e3752) ((hQ3791.at g_739_41 rfl).trans e3753) ((hQ3791.at g_739_43 rfl).trans e3754) ((hQ3791.at g_739_40 rfl).trans e3755) ((hQ3791.at g_739_13 rfl).trans e3756) ((hQ3791.at g_739_15 rfl).trans e3757) ((hQ3791.at g_739_21 rfl).trans e3758) ((hQ3791.at g_739_24 rfl).trans e3759) ((hQ3791.at g_739_64 rfl).trans e3760) ((hQ3791.at g_739_65 rfl).trans e3761) (by first | with_reducible assumption | omega) (by first | with_reducible assumption | omega) (by first | with_reducible assumption | omega) (by first | with_reducible assumption | omega) pr3795 pr3796 (VCE_sm (Sm.fr hQ3791 rfl) pr3764) (by first | with_reducible assumption | omega) (by first | with_reducible assumption | omega) (by first | with_reducible assumption | omega) (by first | with_reducible assumption | omega) (by first | with_reducible assumption | omega) (by first | with_reducible assumption | omega) (by first | with_reducible assumption | omega))
                          · intro h3801
                            exfalso
                            omega
                      exact wp_fg (le_s (le_s (le_s (le_s (le_s le_0))))) (c87_3802 _ M3712 0 v3715 rfl hP3713 hF3714 e3718 e3719 e3720 e3721 e3722 e3723 e3724 e3725 e3726 e3727 e3728 e3729 (by first | with_reducible assumption | omega) (by first | with_reducible assumption | omega) (by first | with_reducible assumption | omega) (by first | with_reducible assumption | omega) pr3730 pr3731 pr3732 (by first | with_reducible assumption | omega) (by first | with_reducible assumption | omega) (by first | with_reducible assumption | omega) (by first | with_reducible assumption | omega) (by first | with_reducible assumption | omega) (by first | with_reducible assumption | omega) (by first | with_reducible assumption | omega))
                  exact wp_fg (le_s (le_s (le_s (le_s (le_s le_0))))) (c76_3803 _ M3622 0 v3625 rfl hP3623 hF3624 e3628 e3629 e3630 e3631 e3632 e3633 e3634 e3635 e3636 e3637 e3638 e3639 (by first | with_reducible assumption | omega) (by first | with_reducible assumption | omega) (by first | with_reducible assumption | omega) (by first | with_reducible assumption | omega) pr3640 pr3641 pr3642 (by first | with_reducible assumption | omega) (by first | with_reducible assumption | omega) (by first | with_reducible assumption | omega) (by first | with_reducible assumption | omega) (by first | with_reducible assumption | omega) (by first | with_reducible assumption | omega))
              exact wp_fg (le_s (le_n (le_s (le_s (le_s le_0))))) (c66_3804 _ M3595 0 v3598 rfl hP3596 hF3597 e3601 e3602 e3603 e3604 e3605 e3606 e3607 e3608 e3609 e3610 e3611 e3612 (by first | with_reducible assumption | omega) (by first | with_reducible assumption | omega) (by first | with_reducible assumption | omega) (by first | with_reducible assumption | omega) pr3613 pr3614 hcv (by first | with_reducible assumption | omega) (by first | with_reducible assumption | omega) (by first | with_reducible assumption | omega) (by first | with_reducible assumption | omega) (by first | with_reducible assumption | omega))
          exact wp_fg (le_s (le_s (le_s (le_s (le_s le_0))))) (c60_3805 _ M3573 1 0 rfl hP3574 hF3575 e3587 e3576 e3577 e3578 e3579 e3580 e3581 e3582 e3583 e3584 e3585 e3586 (by first | with_reducible assumption | omega) (by first | with_reducible assumption | omega) (by first | with_reducible assumption | omega) (by first | with_reducible assumption | omega) pr3588 pr3591 (by first | with_reducible assumption | omega) (fun _ => by rw [hCA.2, Int.mul_zero]; omega))
        · intro h3806
          refine wk_al0 r108_45 (wk_getfr r108_46 fd_739_54 (br_739_54 hP3574) (wk_il1 r108_49 (wk_c1 r108_50 (wk_iast r108_51 ar_760 ⟨by omega, by omega⟩ (wk_nw (ga_760 _) rfl hP3574 hF3575 (ua_760 (by decide)) ?_)))))
          intro M3807 hP3808 hF3809 e3810
          refine wk_inc1 r108_52 rfl (wk_goto r108_55 ?_)
          exact wp_fg (le_s (le_s (le_s (le_s (le_s le_0))))) (ih3811 (7 - (v3570 + 1)).toNat (by omega) M3807 (v3570 + 1) rfl hP3808 hF3809 (mUp_no e3810 e3576 (Or.inl (by decide))) (mUp_no e3810 e3577 (Or.inl (by decide))) (mUp_no e3810 e3578 (Or.inl (by decide))) (mUp_no e3810 e3579 (Or.inl (by decide))) (mUp_no e3810 e3580 (Or.inl (by decide))) (mUp_no e3810 e3581 (Or.inl (by decide))) (mUp_no e3810 e3582 (Or.inl (by decide))) (mUp_no e3810 e3583 (Or.inl (by decide))) (mUp_no e3810 e3584 (Or.inl (by decide))) (mUp_no e3810 e3585 (Or.inl (by decide))) (mUp_no e3810 e3586 (Or.inl (by decide))) (mUp_no e3810 e3587 (Or.inl (by decide))) (by first | with_reducible assumption | omega) (by first | with_reducible assumption | omega) (FFP_sm (Sm.up e3810 (ga_760 _) rfl) pr3588) (fun k a b => by rw [e3810]; (by_cases q : k = v3570); (rw [q, mUp_eq]); (rw [mUp_ne (Or.inr q)]; exact ti3589 k a (by omega))))
      exact wp_fg (le_s (le_s (le_s (le_s (le_s le_0))))) (c37_3811 _ M29 0 rfl hP30 hF31 (mUp_no e32 (mUp_no e28 (mUp_no e24 (mUp_no e20 (mUp_no e16 (mUp_no e12 (mUp_no e8 ex739_1 (Or.inr (by decide))) (Or.inr (by decide))) (Or.inr (by decide))) (Or.inr (by decide))) (Or.inr (by decide))) (Or.inr (by decide))) (Or.inr (by decide))) (mUp_no e32 (mUp_no e28 (mUp_no e24 (mUp_no e20 (mUp_no e16 (mUp_no e12 (mUp_no e8 ex739_2 (Or.inr (by decide))) (Or.inr (by decide))) (Or.inr (by decide))) (Or.inr (by decide))) (Or.inr (by decide))) (Or.inr (by decide))) (Or.inr (by decide))) (mUp_no e32 (mUp_no e28 (mUp_no e24 (mUp_no e20 (mUp_no e16 (mUp_no e12 (mUp_no e8 ex739_41 (Or.inr (by decide))) (Or.inr (by decide))) (Or.inr (by decide))) (Or.inr (by decide))) (Or.inr (by decide))) (Or.inr (by decide))) (Or.inr (by decide))) (mUp_no e32 (mUp_no e28 (mUp_no e24 (mUp_no e20 (mUp_no e16 (mUp_no e12 (mUp_no e8 ex739_43 (Or.inr (by decide))) (Or.inr (by decide))) (Or.inr (by decide))) (Or.inr (by decide))) (Or.inr (by decide))) (Or.inr (by decide))) (Or.inr (by decide))) (mUp_no e32 (mUp_no e28 (mUp_no e24 (mUp_no e20 (mUp_no e16 (mUp_no e12 (mUp_no e8 ex739_40 (Or.inr (by decide))) (Or.inr (by decide))) (Or.inr (by decide))) (Or.inr (by decide))) (Or.inr (by decide))) (Or.inr (by decide))) (Or.inr (by decide))) (mUp_no e32 (mUp_no e28 (mUp_no e24 (mUp_no e20 (mUp_no e16 (mUp_no e12 (mUp_at e8) (Or.inr (by decide))) (Or.inr (by decide))) (Or.inr (by decide))) (Or.inr (by decide))) (Or.inr (by decide))) (Or.inr (by decide))) (mUp_no e32 (mUp_no e28 (mUp_no e24 (mUp_no e20 (mUp_no e16 (mUp_at e12) (Or.inr (by decide))) (Or.inr (by decide))) (Or.inr (by decide))) (Or.inr (by decide))) (Or.inr (by decide))) (mUp_no e32 (mUp_no e28 (mUp_no e24 (mUp_no e20 (mUp_at e16) (Or.inr (by decide))) (Or.inr (by decide))) (Or.inr (by decide))) (Or.inr (by decide))) (mUp_no e32 (mUp_no e28 (mUp_no e24 (mUp_at e20) (Or.inr (by decide))) (Or.inr (by decide))) (Or.inr (by decide))) (mUp_no e32 (mUp_no e28 (mUp_at e24) (Or.inr (by decide))) (Or.inr (by decide))) (mUp_no e32 (mUp_at e28) (Or.inr (by decide))) (mUp_at e32) (by first | with_reducible assumption | omega) (by first | with_reducible assumption | omega) (FFP_sm (Sm.up e32 g_739_7 rfl) (FFP_sm (Sm.up e28 g_739_65 rfl) (FFP_sm (Sm.up e24 g_739_64 rfl) (FFP_sm (Sm.up e20 g_739_24 rfl) (FFP_sm (Sm.up e16 g_739_21 rfl) (FFP_sm (Sm.up e12 g_739_15 rfl) (FFP_sm (Sm.up e8 g_739_13 rfl) pp_FF))))))) (fun k a b => by omega))
    · have hRr : Rr = 2 * x739_2 := by rw [xp1, show x739_41 = 1 by omega, show x739_43 = 2 by omega]; omega
      have hmb : ∀ k : Int, 0 ≤ k → k < 7 → 1 ≤ M0 740 k ∧ M0 740 k ≤ 31 := fun k a b => ⟨xp3 k a b, (ba_740 hP0 a b).2⟩
      refine wk_al0 r108_0 (wk_c1 r108_1 (wk_putfi81 r108_2 fd_739_13 (wk_nw g_739_13 rfl hP0 hF0 (uf_739_13 (by decide)) ?_)))
      intro M3812 hP3813 hF3814 e3815
      refine wk_al0 r108_5 (wk_c1 r108_6 (wk_putfi81 r108_7 fd_739_15 (wk_nw g_739_15 rfl hP3813 hF3814 (uf_739_15 (by decide)) ?_)))
      intro M3816 hP3817 hF3818 e3819
      refine wk_al0 r108_10 (wk_c1 r108_11 (wk_putfi81 r108_12 fd_739_21 (wk_nw g_739_21 rfl hP3817 hF3818 (uf_739_21 (by decide)) ?_)))
      intro M3820 hP3821 hF3822 e3823
      refine wk_al0 r108_15 (wk_c1 r108_16 (wk_putfi81 r108_17 fd_739_24 (wk_nw g_739_24 rfl hP3821 hF3822 (uf_739_24 (by decide)) ?_)))
      intro M3824 hP3825 hF3826 e3827
      refine wk_al0 r108_20 (wk_c1 r108_21 (wk_putfi81 r108_22 fd_739_64 (wk_nw g_739_64 rfl hP3825 hF3826 (uf_739_64 (by decide)) ?_)))
      intro M3828 hP3829 hF3830 e3831
      refine wk_al0 r108_25 (wk_c1 r108_26 (wk_putfi81 r108_27 fd_739_65 (wk_nw g_739_65 rfl hP3829 hF3830 (uf_739_65 (by decide)) ?_)))
      intro M3832 hP3833 hF3834 e3835
      refine wk_al0 r108_30 (wk_c1 r108_31 (wk_putfi81 r108_32 fd_739_7 (wk_nw g_739_7 rfl hP3833 hF3834 (uf_739_7 (by decide)) ?_)))
      intro M3836 hP3837 hF3838 e3839
      refine wk_c1 r108_35 (wk_is1 r108_36 rfl ?_)
      have c37_7618 : ∀ (k7618 : Nat) (M7384 : Mm) (v7381 : Int), (7 - v7381).toNat = k7618 → Pw M7384 → Fr fm_m8108_739 M0 M7384 → M7384 739 1 = x739_1 → M7384 739 2 = x739_2 → M7384 739 41 = x739_41 → M7384 739 43 = x739_43 → M7384 739 40 = x739_40 → M7384 739 13 = 0 → M7384 739 15 = 0 → M7384 739 21 = 0 → M7384 739 24 = (-1) → M7384 739 64 = (-1) → M7384 739 65 = 0 → M7384 739 7 = 0 → 0 ≤ v7381 → v7381 ≤ 7 → (FFP M7384 fe) → (∀ k : Int, 0 ≤ k → k < v7381 → M7384 760 k = 0) → Wp B (d + 6) 108 37 [some (R 739), some (I v7381), none, none, none] [] M7384 Q := by
        refine lp_ind ?_
        intro k7618 ih7618 M7384 v7381 hk7618 hP7385 hF7386 e7387 e7388 e7389 e7390 e7391 e7392 e7393 e7394 e7395 e7396 e7397 e7398 h7382 h7383 pr7399 ti7400
        refine wk_il1 r108_37 (wk_al0 r108_38 (wk_getfi r108_39 fd_739_1 e7387 ?_))
        refine wk_icge r108_42 ⟨by omega, by omega⟩ ⟨by omega, by omega⟩ ?_ ?_
        · intro h7401
          have hCA := CH_all (M := M7384) (fun k a b => ti7400 k a (by have := e7387; omega)) (fun k a b => by rw [hF7386.at (ga_740 k) rfl]; exact hmb k a b) (by have := e7387; omega)
          have pr7402 : CHP M7384 := hCA.1
          refine wk_c1 r108_58 (wk_is1 r108_59 rfl ?_)
          have c60_7612 : ∀ (k7612 : Nat) (M7406 : Mm) (v7403 : Int) (v7409 : Int), (4000 * v7403 - VC M7406).toNat = k7612 → Pw M7406 → Fr fm_m8108_739 M0 M7406 → M7406 739 7 = v7409 → M7406 739 1 = x739_1 → M7406 739 2 = x739_2 → M7406 739 41 = x739_41 → M7406 739 43 = x739_43 → M7406 739 40 = x739_40 → M7406 739 13 = 0 → M7406 739 15 = 0 → M7406 739 21 = 0 → M7406 739 24 = (-1) → M7406 739 64 = (-1) → M7406 739 65 = 0 → 0 ≤ v7403 → v7403 ≤ 1 → 0 ≤ v7409 → v7409 ≤ 3000 → (FFP M7406 fe) → (CHP M7406) → 0 ≤ (-1) * v7403 + v7409 + 1 → (v7403 = 1 → v7409 ≤ Rr * VC M7406) → Wp B (d + 6) 108 60 [some (R 739), some (I v7403), none, none, none] [] M7406 Q := by
            refine lp_ind ?_
            intro k7612 ih7612 M7406 v7403 v7409 hk7612 hP7407 hF7408 e7412 e7413 e7414 e7415 e7416 e7417 e7418 e7419 e7420 e7421 e7422 e7423 h7404 h7405 h7410 h7411 pr7424 pr7425 h7426 ti7427
            refine wk_il1 r108_60 ?_
            refine wk_ifeq r108_61 ⟨by omega, by omega⟩ ?_ ?_
            · intro h7428
              subst hQ; exact wk_ret r108_218 (⟨rfl, hP7407, hF7408, by have := e7418; omega, by have := e7420; omega, (WS_0 e7418), (QW_0 e7420)⟩)
            · intro h7429
              obtain ⟨cv, hcv⟩ : ∃ x, VC M7406 = x := ⟨_, rfl⟩
              obtain ⟨xq, hxq⟩ : ∃ x, Rr * cv = x := ⟨_, rfl⟩
              have hw0 : v7409 ≤ xq := by rw [← hxq, ← hcv]; exact ti7427 (by omega)
              have hw1 : xq + Rr ≤ 3000 := by rw [← hxq, ← hcv]; exact VC_lt pr7425 (by omega) (by rw [e7413, PRD_M (fun k => hF7408.at (ga_740 k) rfl)]; exact xp2)
              have hcv0 : 0 ≤ cv := by rw [← hcv]; exact VC_nn hP7407 (by have := e7413; omega) (fun i a b => (ba_760 hP7407 a b).1)
              have hcv1 : cv ≤ 2999 := cv_ub (by omega) hcv0 hxq hw1
              refine wk_c1 r108_64 (wk_is2 r108_65 rfl ?_)
              have c66_7611 : ∀ (k7611 : Nat) (M7433 : Mm) (v7430 : Int) (v7436 : Int), (4 - v7430).toNat = k7611 → Pw M7433 → Fr fm_m8108_739 M0 M7433 → M7433 739 7 = v7436 → M7433 739 1 = x739_1 → M7433 739 2 = x739_2 → M7433 739 41 = x739_41 → M7433 739 43 = x739_43 → M7433 739 40 = x739_40 → M7433 739 13 = 0 → M7433 739 15 = 0 → M7433 739 21 = 0 → M7433 739 24 = (-1) → M7433 739 64 = (-1) → M7433 739 65 = 0 → 0 ≤ v7430 → v7430 ≤ 4 → 0 ≤ v7436 → v7436 ≤ 3000 → (FFP M7433 fe) → (CHP M7433) → (VC M7433 = cv) → 0 ≤ (-1) * v7436 + 1 * xq + 2 * v7430 → 0 ≤ (-1) * v7436 + 1 * xq + 7 * v7430 → 0 ≤ (-1) * v7436 + 1 * xq + 14 * v7430 → 0 ≤ (-1) * v7430 + 1 * x739_2 → Wp B (d + 6) 108 66 [some (R 739), none, some (I v7430), none, none] [] M7433 Q := by
                refine lp_ind ?_
                intro k7611 ih7611 M7433 v7430 v7436 hk7611 hP7434 hF7435 e7439 e7440 e7441 e7442 e7443 e7444 e7445 e7446 e7447 e7448 e7449 e7450 h7431 h7432 h7437 h7438 pr7451 pr7452 pr7453 h7454 h7455 h7456 h7457
                refine wk_il2 r108_66 (wk_al0 r108_67 (wk_getfi r108_68 fd_739_2 e7441 ?_))
                refine wk_icge r108_71 ⟨by omega, by omega⟩ ⟨by omega, by omega⟩ ?_ ?_
                · intro h7458
                  have hCE : VC M7433 = cv := pr7453
                  have hw2 : v7436 ≤ xq + Rr := by omega
                  refine wk_al0 r108_150 (wk_getfi r108_151 fd_739_1 e7440 (wk_c1 r108_154 (wk_isub r108_155 (wk_is2 r108_156 rfl ?_))))
                  have c157_7517 : ∀ (k7517 : Nat) (M7462 : Mm) (v7459 : Int), (v7459 - (-1)).toNat = k7517 → Pw M7462 → Fr fm_m8108_739 M0 M7462 → M7462 739 7 = v7436 → M7462 739 1 = x739_1 → M7462 739 2 = x739_2 → M7462 739 41 = x739_41 → M7462 739 43 = x739_43 → M7462 739 40 = x739_40 → M7462 739 13 = 0 → M7462 739 15 = 0 → M7462 739 21 = 0 → M7462 739 24 = (-1) → M7462 739 64 = (-1) → M7462 739 65 = 0 → (-1) ≤ v7459 → v7459 ≤ 6 → (FFP M7462 fe) → (CHP M7462) → 0 ≤ (-1) * v7459 + 1 * x739_1 + (-1) → (DCI M7462 x739_1 v7459 cv) → Wp B (d + 6) 108 157 [some (R 739), none, some (I v7459), none, none] [] M7462 Q := by
                    refine lp_ind ?_
                    intro k7517 ih7517 M7462 v7459 hk7517 hP7463 hF7464 e7465 e7466 e7467 e7468 e7469 e7470 e7471 e7472 e7473 e7474 e7475 e7476 h7460 h7461 pr7477 pr7478 h7479 ti7480
                    refine wk_il2 r108_157 ?_
                    refine wk_iflt r108_158 ⟨by omega, by omega⟩ ?_ ?_
                    · intro h7481
                      refine wk_il2 r108_191 ?_
                      refine wk_iflt r108_192 ⟨by omega, by omega⟩ ?_ ?_
                      · intro h7482
                        refine wk_c1 r108_199 (wk_is1 r108_200 rfl (wk_il1 r108_201 ?_))
                        refine wk_ifeq r108_202 (by decide) ?_ ?_
                        · intro h7483
                          have h7484 := VC_nn hP7463 (by have := e7466; omega) (fun i a b => (ba_760 hP7463 a b).1)
                          refine wk_goto r108_215 ?_
                          exact wp_fg (le_s (le_s (le_n (le_s (le_s le_0))))) (ih7612 (4000 * 0 - VC M7462).toNat (by omega) M7462 0 v7436 rfl hP7463 hF7464 e7465 e7466 e7467 e7468 e7469 e7470 e7471 e7472 e7473 e7474 e7475 e7476 (by first | with_reducible assumption | omega) (by first | with_reducible assumption | omega) (by first | with_reducible assumption | omega) (by first | with_reducible assumption | omega) pr7477 pr7478 (by first | with_reducible assumption | omega) (fun q => by omega))
                        · intro h7485
                          exfalso
                          omega
                      · intro h7486
                        exfalso
                        omega
                    · intro h7487
                      refine wk_al0 r108_161 (wk_il2 r108_162 (wk_al0 r108_163 (wk_getfr r108_164 fd_739_54 (br_739_54 hP7463) (wk_il2 r108_167 (wk_ialdb r108_168 ar_760 ⟨by omega, by omega⟩ (fun q0 q1 => ba_760 hP7463 q0 q1) ?_)))))
                      intro v7488 h7490 h7491 e7489
                      refine wk_c1 r108_169 (wk_iadd r108_170 (wk_cv3 r108_171 kc_739_57 rfl (m8057_739 _ M7462 v7459 (v7488 + 1) hP7463 (by first | with_reducible assumption | omega) (by first | with_reducible assumption | omega) (by first | with_reducible assumption | omega) (by first | with_reducible assumption | omega)) (cqI ?_)))
                      rintro v7497 M7492 ⟨hP7493, hQ7494, h7498, h7499, xh7496⟩
                      obtain rfl := Fr.same hQ7494
                      refine wk_c1 r108_174 ?_
                      refine wk_icne r108_175 ⟨by omega, by omega⟩ (by decide) ?_ ?_
                      · intro h7500
                        refine wk_il2 r108_191 ?_
                        refine wk_iflt r108_192 ⟨by omega, by omega⟩ ?_ ?_
                        · intro h7501
                          exfalso
                          omega
                        · intro h7502
                          refine wk_c1 r108_195 (wk_goto r108_196 (wk_is1 r108_200 rfl (wk_il1 r108_201 ?_)))
                          refine wk_ifeq r108_202 (by decide) ?_ ?_
                          · intro h7503
                            exfalso
                            omega
                          · intro h7504
                            refine wk_al0 r108_205 (wk_getfr r108_206 fd_739_54 (br_739_54 hP7463) (wk_il2 r108_209 (wk_dup2 r108_210 (wk_iald r108_211 ar_760 ⟨by omega, by omega⟩ e7489 (wk_c1 r108_212 (wk_iadd r108_213 ?_))))))
                            have h7505 : (v7488 + 1) ≤ 9 := by have := cT_lt ((xh7496).2 (by omega)); omega
                            refine wk_iast r108_214 ar_760 ⟨by omega, by omega⟩ (wk_nw (ga_760 _) rfl hP7463 hF7464 (ua_760 ⟨by omega, by omega⟩) ?_)
                            intro M7506 hP7507 hF7508 e7509
                            have hVC : VC M7506 = cv + 1 := DC_inc ti7480 e7466 (by omega) (by omega) e7489 e7509
                            have pr7510 : CHP M7506 := CH_inc pr7478 (by have := (xh7496).2 (by omega); omega) e7509
                            refine wk_goto r108_215 ?_
                            exact wp_fg (le_s (le_s (le_n (le_s (le_s le_0))))) (ih7612 (4000 * 1 - VC M7506).toNat (by omega) M7506 1 v7436 rfl hP7507 hF7508 (mUp_no e7509 e7465 (Or.inl (by decide))) (mUp_no e7509 e7466 (Or.inl (by decide))) (mUp_no e7509 e7467 (Or.inl (by decide))) (mUp_no e7509 e7468 (Or.inl (by decide))) (mUp_no e7509 e7469 (Or.inl (by decide))) (mUp_no e7509 e7470 (Or.inl (by decide))) (mUp_no e7509 e7471 (Or.inl (by decide))) (mUp_no e7509 e7472 (Or.inl (by decide))) (mUp_no e7509 e7473 (Or.inl (by decide))) (mUp_no e7509 e7474 (Or.inl (by decide))) (mUp_no e7509 e7475 (Or.inl (by decide))) (mUp_no e7509 e7476 (Or.inl (by decide))) (by first | with_reducible assumption | omega) (by first | with_reducible assumption | omega) (by first | with_reducible assumption | omega) (by first | with_reducible assumption | omega) (FFP_sm (Sm.up e7509 (ga_760 _) rfl) pr7477) pr7510 (by first | with_reducible assumption | omega) (fun _ => by rw [mul_ub hVC hxq]; omega))
                      · intro h7511
                        refine wk_al0 r108_178 (wk_getfr r108_179 fd_739_54 (br_739_54 hP7463) (wk_il2 r108_182 (wk_c1 r108_183 (wk_iast r108_184 ar_760 ⟨by omega, by omega⟩ (wk_nw (ga_760 _) rfl hP7463 hF7464 (ua_760 (by decide)) ?_)))))
                        intro M7512 hP7513 hF7514 e7515
                        have pr7516 : CHP M7512 := CH_zero pr7478 (by rw [hF7464.at (ga_740 _) rfl]; exact cT_pos (hmb v7459 (by omega) (by omega))) e7515
                        refine wk_inc2 r108_185 rfl (wk_goto r108_188 ?_)
                        exact wp_fg (le_s (le_s (le_s (le_s (le_s le_0))))) (ih7517 ((v7459 + (-1)) - (-1)).toNat (by omega) M7512 (v7459 + (-1)) rfl hP7513 hF7514 (mUp_no e7515 e7465 (Or.inl (by decide))) (mUp_no e7515 e7466 (Or.inl (by decide))) (mUp_no e7515 e7467 (Or.inl (by decide))) (mUp_no e7515 e7468 (Or.inl (by decide))) (mUp_no e7515 e7469 (Or.inl (by decide))) (mUp_no e7515 e7470 (Or.inl (by decide))) (mUp_no e7515 e7471 (Or.inl (by decide))) (mUp_no e7515 e7472 (Or.inl (by decide))) (mUp_no e7515 e7473 (Or.inl (by decide))) (mUp_no e7515 e7474 (Or.inl (by decide))) (mUp_no e7515 e7475 (Or.inl (by decide))) (mUp_no e7515 e7476 (Or.inl (by decide))) (by first | with_reducible assumption | omega) (by first | with_reducible assumption | omega) (FFP_sm (Sm.up e7515 (ga_760 _) rfl) pr7477) pr7516 (by first | with_reducible assumption | omega) (DC_st ti7480 (by omega) (by omega) (by have := (xh7496).1 (by omega); rw [e7489]; omega) (by have := pr7478 v7459 (by omega) (by rw [e7466]; omega); exact this) e7515))
                  exact wp_fg (le_s (le_s (le_s (le_s (le_s le_0))))) (c157_7517 _ M7433 (x739_1 - 1) rfl hP7434 hF7435 e7439 e7440 e7441 e7442 e7443 e7444 e7445 e7446 e7447 e7448 e7449 e7450 (by first | with_reducible assumption | omega) (by first | with_reducible assumption | omega) pr7451 pr7452 (by first | with_reducible assumption | omega) (DC_in e7440 (by omega) hCE))
                · intro h7518
                  refine wk_c1 r108_74 (wk_is3 r108_75 rfl ?_)
                  have c76_7610 : ∀ (k7610 : Nat) (M7522 : Mm) (v7519 : Int) (v7525 : Int), (1 - v7519).toNat = k7610 → Pw M7522 → Fr fm_m8108_739 M0 M7522 → M7522 739 7 = v7525 → M7522 739 1 = x739_1 → M7522 739 2 = x739_2 → M7522 739 41 = x739_41 → M7522 739 43 = x739_43 → M7522 739 40 = x739_40 → M7522 739 13 = 0 → M7522 739 15 = 0 → M7522 739 21 = 0 → M7522 739 24 = (-1) → M7522 739 64 = (-1) → M7522 739 65 = 0 → 0 ≤ v7519 → v7519 ≤ 1 → 0 ≤ v7525 → v7525 ≤ 3000 → (FFP M7522 fe) → (CHP M7522) → (VC M7522 = cv) → 0 ≤ (-1) * v7525 + 1 * xq + 2 * v7430 + 2 * v7519 → 0 ≤ (-1) * v7525 + 1 * xq + 14 * v7430 + 2 * v7519 → 0 ≤ (-1) * v7430 + 1 * x739_2 → 0 ≤ (-1) * v7519 + 1 * x739_41 → Wp B (d + 6) 108 76 [some (R 739), none, some (I v7430), some (I v7519), none] [] M7522 Q := by
                    refine lp_ind ?_
                    intro k7610 ih7610 M7522 v7519 v7525 hk7610 hP7523 hF7524 e7528 e7529 e7530 e7531 e7532 e7533 e7534 e7535 e7536 e7537 e7538 e7539 h7520 h7521 h7526 h7527 pr7540 pr7541 pr7542 h7543 h7544 h7545 h7546
                    refine wk_il3 r108_76 (wk_al0 r108_77 (wk_getfi r108_78 fd_739_41 e7531 ?_))
                    refine wk_icge r108_81 ⟨by omega, by omega⟩ ⟨by omega, by omega⟩ ?_ ?_
                    · intro h7547
                      refine wk_inc2 r108_144 rfl (wk_goto r108_147 ?_)
                      exact wp_fg (le_s (le_s (le_s (le_n (le_s le_0))))) (ih7611 (4 - (v7430 + 1)).toNat (by omega) M7522 (v7430 + 1) v7525 rfl hP7523 hF7524 e7528 e7529 e7530 e7531 e7532 e7533 e7534 e7535 e7536 e7537 e7538 e7539 (by first | with_reducible assumption | omega) (by first | with_reducible assumption | omega) (by first | with_reducible assumption | omega) (by first | with_reducible assumption | omega) pr7540 pr7541 pr7542 (by first | with_reducible assumption | omega) (by first | with_reducible assumption | omega) (by first | with_reducible assumption | omega) (by first | with_reducible assumption | omega))
                    · intro h7548
                      refine wk_c1 r108_84 (wk_is4 r108_85 rfl ?_)
                      have c87_7609 : ∀ (k7609 : Nat) (M7552 : Mm) (v7549 : Int) (v7555 : Int), (2 - v7549).toNat = k7609 → Pw M7552 → Fr fm_m8108_739 M0 M7552 → M7552 739 7 = v7555 → M7552 739 1 = x739_1 → M7552 739 2 = x739_2 → M7552 739 41 = x739_41 → M7552 739 43 = x739_43 → M7552 739 40 = x739_40 → M7552 739 13 = 0 → M7552 739 15 = 0 → M7552 739 21 = 0 → M7552 739 24 = (-1) → M7552 739 64 = (-1) → M7552 739 65 = 0 → 0 ≤ v7549 → v7549 ≤ 2 → 0 ≤ v7555 → v7555 ≤ 3000 → (FFP M7552 fe) → (CHP M7552) → (VC M7552 = cv) → 0 ≤ (-1) * v7555 + 1 * xq + 2 * v7430 + 2 * v7519 + 1 * v7549 → 0 ≤ (-1) * v7555 + 1 * xq + 7 * v7430 + 1 * v7519 + 1 * v7549 → 0 ≤ (-1) * v7555 + 1 * xq + 14 * v7430 + 2 * v7519 + 1 * v7549 → 0 ≤ (-1) * v7430 + 1 * x739_2 → 0 ≤ (-1) * v7519 + 1 * x739_41 → 0 ≤ (-1) * v7549 + 1 * x739_43 → Wp B (d + 6) 108 87 [some (R 739), none, some (I v7430), some (I v7519), some (I v7549)] [] M7552 Q := by
                        refine lp_ind ?_
                        intro k7609 ih7609 M7552 v7549 v7555 hk7609 hP7553 hF7554 e7558 e7559 e7560 e7561 e7562 e7563 e7564 e7565 e7566 e7567 e7568 e7569 h7550 h7551 h7556 h7557 pr7570 pr7571 pr7572 h7573 h7574 h7575 h7576 h7577 h7578
                        refine wk_il4 r108_87 (wk_al0 r108_89 (wk_getfi r108_90 fd_739_43 e7562 ?_))
                        refine wk_icge r108_93 ⟨by omega, by omega⟩ ⟨by omega, by omega⟩ ?_ ?_
                        · intro h7579
                          refine wk_inc3 r108_138 rfl (wk_goto r108_141 ?_)
                          exact wp_fg (le_s (le_s (le_s (le_s (le_n le_0))))) (ih7610 (1 - (v7519 + 1)).toNat (by omega) M7552 (v7519 + 1) v7555 rfl hP7553 hF7554 e7558 e7559 e7560 e7561 e7562 e7563 e7564 e7565 e7566 e7567 e7568 e7569 (by first | with_reducible assumption | omega) (by first | with_reducible assumption | omega) (by first | with_reducible assumption | omega) (by first | with_reducible assumption | omega) pr7570 pr7571 pr7572 (by first | with_reducible assumption | omega) (by first | with_reducible assumption | omega) (by first | with_reducible assumption | omega) (by first | with_reducible assumption | omega))
                        · intro h7580
                          refine wk_al0 r108_96 (wk_il2 r108_97 (wk_al0 r108_98 (wk_getfi r108_99 fd_739_41 e7561 (wk_c2 r108_102 ?_))))
                          refine wk_icne r108_104 ⟨by omega, by omega⟩ (by decide) ?_ ?_
                          · intro h7581
                            refine wk_al0 r108_111 (wk_getfi r108_112 fd_739_40 e7563 (wk_c1 r108_115 ?_))
                            refine wk_icne r108_116 ⟨by omega, by omega⟩ (by decide) ?_ ?_
                            · intro h7582
                              refine wk_al0 r108_123 (wk_getfi r108_124 fd_739_40 e7563 (wk_il4 r108_127 (wk_cv4 r108_129 kc_739_59 rfl (m8059_739 _ M7552 v7430 x739_40 v7549 v7555 x739_1 fe hP7553 (by first | with_reducible assumption | omega) (by first | with_reducible assumption | omega) (by first | with_reducible assumption | omega) (by first | with_reducible assumption | omega) (by first | with_reducible assumption | omega) (by first | with_reducible assumption | omega) e7558 (by first | with_reducible assumption | omega) (by first | with_reducible assumption | omega) e7559 (by first | with_reducible assumption | omega) (by first | with_reducible assumption | omega) pr7570 pr7571) (cqV ?_))))
                              rintro M7583 ⟨hP7584, hQ7585, h7587, h7588, pr7589, pr7590⟩
                              have hF7586 : Fr fm_m8108_739 M0 M7583 := hF7554.tr hQ7585 rfl
                              obtain ⟨v7591, e7592⟩ : ∃ v, M7583 739 7 = v := ⟨_, rfl⟩
                              have h7593 := (bf_739_7 hP7584).1; rw [e7592] at h7593
                              have h7594 := (bf_739_7 hP7584).2; rw [e7592] at h7594
                              refine wk_inc4 r108_132 rfl (wk_goto r108_135 ?_)
                              exact wp_fg (le_s (le_s (le_s (le_s (le_s le_0))))) (ih7609 (2 - (v7549 + 1)).toNat (by omega) M7583 (v7549 + 1) v7591 rfl hP7584 hF7586 e7592 ((hQ7585.at g_739_1 rfl).trans e7559) ((hQ7585.at g_739_2 rfl).trans e7560) ((hQ7585.at g_739_41 rfl).trans e7561) ((hQ7585.at g_739_43 rfl).trans e7562) ((hQ7585.at g_739_40 rfl).trans e7563) ((hQ7585.at g_739_13 rfl).trans e7564) ((hQ7585.at g_739_15 rfl).trans e7565) ((hQ7585.at g_739_21 rfl).trans e7566) ((hQ7585.at g_739_24 rfl).trans e7567) ((hQ7585.at g_739_64 rfl).trans e7568) ((hQ7585.at g_739_65 rfl).trans e7569) (by first | with_reducible assumption | omega) (by first | with_reducible assumption | omega) (by first | with_reducible assumption | omega) (by first | with_reducible assumption | omega) pr7589 pr7590 (VCE_sm (Sm.fr hQ7585 rfl) pr7572) (by first | with_reducible assumption | omega) (by first | with_reducible assumption | omega) (by first | with_reducible assumption | omega) (by first | with_reducible assumption | omega) (by first | with_reducible assumption | omega) (by first | with_reducible assumption | omega))
                            · intro h7595
                              refine wk_c1 r108_119 (wk_goto r108_120 (wk_il4 r108_127 (wk_cv4 r108_129 kc_739_59 rfl (m8059_739 _ M7552 v7430 0 v7549 v7555 x739_1 fe hP7553 (by first | with_reducible assumption | omega) (by first | with_reducible assumption | omega) (by decide) (by decide) (by first | with_reducible assumption | omega) (by first | with_reducible assumption | omega) e7558 (by first | with_reducible assumption | omega) (by first | with_reducible assumption | omega) e7559 (by first | with_reducible assumption | omega) (by first | with_reducible assumption | omega) pr7570 pr7571) (cqV ?_))))
                              rintro M7596 ⟨hP7597, hQ7598, h7600, h7601, pr7602, pr7603⟩
                              have hF7599 : Fr fm_m8108_739 M0 M7596 := hF7554.tr hQ7598 rfl
                              obtain ⟨v7604, e7605⟩ : ∃ v, M7596 739 7 = v := ⟨_, rfl⟩
                              have h7606 := (bf_739_7 hP7597).1; rw [e7605] at h7606
                              have h7607 := (bf_739_7 hP7597).2; rw [e7605] at h7607
                              refine wk_inc4 r108_132 rfl (wk_goto r108_135 ?_)
                              exact wp_fg (le_s (le_s (le_s (le_s (le_s le_0))))) (ih7609 (2 - (v7549 + 1)).toNat (by omega) M7596 (v7549 + 1) v7604 rfl hP7597 hF7599 e7605 ((hQ7598.at g_739_1 rfl).trans e7559) ((hQ7598.at g_739_2 rfl).trans e7560) ((hQ7598.at g_739_41 rfl).trans e7561) ((hQ7598.at g_739_43 rfl).trans e7562) ((hQ7598.at g_739_40 rfl).trans e7563) ((hQ7598.at g_739_13 rfl).trans e7564) ((hQ7598.at g_739_15 rfl).trans e7565) ((hQ7598.at g_739_21 rfl).trans e7566) ((hQ7598.at g_739_24 rfl).trans e7567) ((hQ7598.at g_739_64 rfl).trans e7568) ((hQ7598.at g_739_65 rfl).trans e7569) (by first | with_reducible assumption | omega) (by first | with_reducible assumption | omega) (by first | with_reducible assumption | omega) (by first | with_reducible assumption | omega) pr7602 pr7603 (VCE_sm (Sm.fr hQ7598 rfl) pr7572) (by first | with_reducible assumption | omega) (by first | with_reducible assumption | omega) (by first | with_reducible assumption | omega) (by first | with_reducible assumption | omega) (by first | with_reducible assumption | omega) (by first | with_reducible assumption | omega))
                          · intro h7608
                            exfalso
                            omega
                      exact wp_fg (le_s (le_s (le_s (le_s (le_s le_0))))) (c87_7609 _ M7522 0 v7525 rfl hP7523 hF7524 e7528 e7529 e7530 e7531 e7532 e7533 e7534 e7535 e7536 e7537 e7538 e7539 (by first | with_reducible assumption | omega) (by first | with_reducible assumption | omega) (by first | with_reducible assumption | omega) (by first | with_reducible assumption | omega) pr7540 pr7541 pr7542 (by first | with_reducible assumption | omega) (by first | with_reducible assumption | omega) (by first | with_reducible assumption | omega) (by first | with_reducible assumption | omega) (by first | with_reducible assumption | omega) (by first | with_reducible assumption | omega))
                  exact wp_fg (le_s (le_s (le_s (le_s (le_s le_0))))) (c76_7610 _ M7433 0 v7436 rfl hP7434 hF7435 e7439 e7440 e7441 e7442 e7443 e7444 e7445 e7446 e7447 e7448 e7449 e7450 (by first | with_reducible assumption | omega) (by first | with_reducible assumption | omega) (by first | with_reducible assumption | omega) (by first | with_reducible assumption | omega) pr7451 pr7452 pr7453 (by first | with_reducible assumption | omega) (by first | with_reducible assumption | omega) (by first | with_reducible assumption | omega) (by first | with_reducible assumption | omega))
              exact wp_fg (le_s (le_n (le_s (le_s (le_s le_0))))) (c66_7611 _ M7406 0 v7409 rfl hP7407 hF7408 e7412 e7413 e7414 e7415 e7416 e7417 e7418 e7419 e7420 e7421 e7422 e7423 (by first | with_reducible assumption | omega) (by first | with_reducible assumption | omega) (by first | with_reducible assumption | omega) (by first | with_reducible assumption | omega) pr7424 pr7425 hcv (by first | with_reducible assumption | omega) (by first | with_reducible assumption | omega) (by first | with_reducible assumption | omega) (by first | with_reducible assumption | omega))
          exact wp_fg (le_s (le_s (le_s (le_s (le_s le_0))))) (c60_7612 _ M7384 1 0 rfl hP7385 hF7386 e7398 e7387 e7388 e7389 e7390 e7391 e7392 e7393 e7394 e7395 e7396 e7397 (by first | with_reducible assumption | omega) (by first | with_reducible assumption | omega) (by first | with_reducible assumption | omega) (by first | with_reducible assumption | omega) pr7399 pr7402 (by first | with_reducible assumption | omega) (fun _ => by rw [hCA.2, Int.mul_zero]; omega))
        · intro h7613
          refine wk_al0 r108_45 (wk_getfr r108_46 fd_739_54 (br_739_54 hP7385) (wk_il1 r108_49 (wk_c1 r108_50 (wk_iast r108_51 ar_760 ⟨by omega, by omega⟩ (wk_nw (ga_760 _) rfl hP7385 hF7386 (ua_760 (by decide)) ?_)))))
          intro M7614 hP7615 hF7616 e7617
          refine wk_inc1 r108_52 rfl (wk_goto r108_55 ?_)
          exact wp_fg (le_s (le_s (le_s (le_s (le_s le_0))))) (ih7618 (7 - (v7381 + 1)).toNat (by omega) M7614 (v7381 + 1) rfl hP7615 hF7616 (mUp_no e7617 e7387 (Or.inl (by decide))) (mUp_no e7617 e7388 (Or.inl (by decide))) (mUp_no e7617 e7389 (Or.inl (by decide))) (mUp_no e7617 e7390 (Or.inl (by decide))) (mUp_no e7617 e7391 (Or.inl (by decide))) (mUp_no e7617 e7392 (Or.inl (by decide))) (mUp_no e7617 e7393 (Or.inl (by decide))) (mUp_no e7617 e7394 (Or.inl (by decide))) (mUp_no e7617 e7395 (Or.inl (by decide))) (mUp_no e7617 e7396 (Or.inl (by decide))) (mUp_no e7617 e7397 (Or.inl (by decide))) (mUp_no e7617 e7398 (Or.inl (by decide))) (by first | with_reducible assumption | omega) (by first | with_reducible assumption | omega) (FFP_sm (Sm.up e7617 (ga_760 _) rfl) pr7399) (fun k a b => by rw [e7617]; (by_cases q : k = v7381); (rw [q, mUp_eq]); (rw [mUp_ne (Or.inr q)]; exact ti7400 k a (by omega))))
      exact wp_fg (le_s (le_s (le_s (le_s (le_s le_0))))) (c37_7618 _ M3836 0 rfl hP3837 hF3838 (mUp_no e3839 (mUp_no e3835 (mUp_no e3831 (mUp_no e3827 (mUp_no e3823 (mUp_no e3819 (mUp_no e3815 ex739_1 (Or.inr (by decide))) (Or.inr (by decide))) (Or.inr (by decide))) (Or.inr (by decide))) (Or.inr (by decide))) (Or.inr (by decide))) (Or.inr (by decide))) (mUp_no e3839 (mUp_no e3835 (mUp_no e3831 (mUp_no e3827 (mUp_no e3823 (mUp_no e3819 (mUp_no e3815 ex739_2 (Or.inr (by decide))) (Or.inr (by decide))) (Or.inr (by decide))) (Or.inr (by decide))) (Or.inr (by decide))) (Or.inr (by decide))) (Or.inr (by decide))) (mUp_no e3839 (mUp_no e3835 (mUp_no e3831 (mUp_no e3827 (mUp_no e3823 (mUp_no e3819 (mUp_no e3815 ex739_41 (Or.inr (by decide))) (Or.inr (by decide))) (Or.inr (by decide))) (Or.inr (by decide))) (Or.inr (by decide))) (Or.inr (by decide))) (Or.inr (by decide))) (mUp_no e3839 (mUp_no e3835 (mUp_no e3831 (mUp_no e3827 (mUp_no e3823 (mUp_no e3819 (mUp_no e3815 ex739_43 (Or.inr (by decide))) (Or.inr (by decide))) (Or.inr (by decide))) (Or.inr (by decide))) (Or.inr (by decide))) (Or.inr (by decide))) (Or.inr (by decide))) (mUp_no e3839 (mUp_no e3835 (mUp_no e3831 (mUp_no e3827 (mUp_no e3823 (mUp_no e3819 (mUp_no e3815 ex739_40 (Or.inr (by decide))) (Or.inr (by decide))) (Or.inr (by decide))) (Or.inr (by decide))) (Or.inr (by decide))) (Or.inr (by decide))) (Or.inr (by decide))) (mUp_no e3839 (mUp_no e3835 (mUp_no e3831 (mUp_no e3827 (mUp_no e3823 (mUp_no e3819 (mUp_at e3815) (Or.inr (by decide))) (Or.inr (by decide))) (Or.inr (by decide))) (Or.inr (by decide))) (Or.inr (by decide))) (Or.inr (by decide))) (mUp_no e3839 (mUp_no e3835 (mUp_no e3831 (mUp_no e3827 (mUp_no e3823 (mUp_at e3819) (Or.inr (by decide))) (Or.inr (by decide))) (Or.inr (by decide))) (Or.inr (by decide))) (Or.inr (by decide))) (mUp_no e3839 (mUp_no e3835 (mUp_no e3831 (mUp_no e3827 (mUp_at e3823) (Or.inr (by decide))) (Or.inr (by decide))) (Or.inr (by decide))) (Or.inr (by decide))) (mUp_no e3839 (mUp_no e3835 (mUp_no e3831 (mUp_at e3827) (Or.inr (by decide))) (Or.inr (by decide))) (Or.inr (by decide))) (mUp_no e3839 (mUp_no e3835 (mUp_at e3831) (Or.inr (by decide))) (Or.inr (by decide))) (mUp_no e3839 (mUp_at e3835) (Or.inr (by decide))) (mUp_at e3839) (by first | with_reducible assumption | omega) (by first | with_reducible assumption | omega) (FFP_sm (Sm.up e3839 g_739_7 rfl) (FFP_sm (Sm.up e3835 g_739_65 rfl) (FFP_sm (Sm.up e3831 g_739_64 rfl) (FFP_sm (Sm.up e3827 g_739_24 rfl) (FFP_sm (Sm.up e3823 g_739_21 rfl) (FFP_sm (Sm.up e3819 g_739_15 rfl) (FFP_sm (Sm.up e3815 g_739_13 rfl) pp_FF))))))) (fun k a b => by omega))
  · rcases (show x739_43 = 1 ∨ x739_43 = 2 by omega) with h7619 | h7620
    · have hRr : Rr = 7 * x739_2 := by rw [xp1, show x739_41 = 7 by omega, show x739_43 = 1 by omega]; omega
      have hmb : ∀ k : Int, 0 ≤ k → k < 7 → 1 ≤ M0 740 k ∧ M0 740 k ≤ 31 := fun k a b => ⟨xp3 k a b, (ba_740 hP0 a b).2⟩
      refine wk_al0 r108_0 (wk_c1 r108_1 (wk_putfi81 r108_2 fd_739_13 (wk_nw g_739_13 rfl hP0 hF0 (uf_739_13 (by decide)) ?_)))
      intro M7621 hP7622 hF7623 e7624
      refine wk_al0 r108_5 (wk_c1 r108_6 (wk_putfi81 r108_7 fd_739_15 (wk_nw g_739_15 rfl hP7622 hF7623 (uf_739_15 (by decide)) ?_)))
      intro M7625 hP7626 hF7627 e7628
      refine wk_al0 r108_10 (wk_c1 r108_11 (wk_putfi81 r108_12 fd_739_21 (wk_nw g_739_21 rfl hP7626 hF7627 (uf_739_21 (by decide)) ?_)))
      intro M7629 hP7630 hF7631 e7632
      refine wk_al0 r108_15 (wk_c1 r108_16 (wk_putfi81 r108_17 fd_739_24 (wk_nw g_739_24 rfl hP7630 hF7631 (uf_739_24 (by decide)) ?_)))
      intro M7633 hP7634 hF7635 e7636
      refine wk_al0 r108_20 (wk_c1 r108_21 (wk_putfi81 r108_22 fd_739_64 (wk_nw g_739_64 rfl hP7634 hF7635 (uf_739_64 (by decide)) ?_)))
      intro M7637 hP7638 hF7639 e7640
      refine wk_al0 r108_25 (wk_c1 r108_26 (wk_putfi81 r108_27 fd_739_65 (wk_nw g_739_65 rfl hP7638 hF7639 (uf_739_65 (by decide)) ?_)))
      intro M7641 hP7642 hF7643 e7644
      refine wk_al0 r108_30 (wk_c1 r108_31 (wk_putfi81 r108_32 fd_739_7 (wk_nw g_739_7 rfl hP7642 hF7643 (uf_739_7 (by decide)) ?_)))
      intro M7645 hP7646 hF7647 e7648
      refine wk_c1 r108_35 (wk_is1 r108_36 rfl ?_)
      have c37_11187 : ∀ (k11187 : Nat) (M10969 : Mm) (v10966 : Int), (7 - v10966).toNat = k11187 → Pw M10969 → Fr fm_m8108_739 M0 M10969 → M10969 739 1 = x739_1 → M10969 739 2 = x739_2 → M10969 739 41 = x739_41 → M10969 739 43 = x739_43 → M10969 739 40 = x739_40 → M10969 739 13 = 0 → M10969 739 15 = 0 → M10969 739 21 = 0 → M10969 739 24 = (-1) → M10969 739 64 = (-1) → M10969 739 65 = 0 → M10969 739 7 = 0 → 0 ≤ v10966 → v10966 ≤ 7 → (FFP M10969 fe) → (∀ k : Int, 0 ≤ k → k < v10966 → M10969 760 k = 0) → Wp B (d + 6) 108 37 [some (R 739), some (I v10966), none, none, none] [] M10969 Q := by
        refine lp_ind ?_
        intro k11187 ih11187 M10969 v10966 hk11187 hP10970 hF10971 e10972 e10973 e10974 e10975 e10976 e10977 e10978 e10979 e10980 e10981 e10982 e10983 h10967 h10968 pr10984 ti10985
        refine wk_il1 r108_37 (wk_al0 r108_38 (wk_getfi r108_39 fd_739_1 e10972 ?_))
        refine wk_icge r108_42 ⟨by omega, by omega⟩ ⟨by omega, by omega⟩ ?_ ?_
        · intro h10986
          have hCA := CH_all (M := M10969) (fun k a b => ti10985 k a (by have := e10972; omega)) (fun k a b => by rw [hF10971.at (ga_740 k) rfl]; exact hmb k a b) (by have := e10972; omega)
          have pr10987 : CHP M10969 := hCA.1
          refine wk_c1 r108_58 (wk_is1 r108_59 rfl ?_)
          have c60_11181 : ∀ (k11181 : Nat) (M10991 : Mm) (v10988 : Int) (v10994 : Int), (4000 * v10988 - VC M10991).toNat = k11181 → Pw M10991 → Fr fm_m8108_739 M0 M10991 → M10991 739 7 = v10994 → M10991 739 1 = x739_1 → M10991 739 2 = x739_2 → M10991 739 41 = x739_41 → M10991 739 43 = x739_43 → M10991 739 40 = x739_40 → M10991 739 13 = 0 → M10991 739 15 = 0 → M10991 739 21 = 0 → M10991 739 24 = (-1) → M10991 739 64 = (-1) → M10991 739 65 = 0 → 0 ≤ v10988 → v10988 ≤ 1 → 0 ≤ v10994 → v10994 ≤ 3000 → (FFP M10991 fe) → (CHP M10991) → 0 ≤ (-1) * v10988 + v10994 + 1 → (v10988 = 1 → v10994 ≤ Rr * VC M10991) → Wp B (d + 6) 108 60 [some (R 739), some (I v10988), none, none, none] [] M10991 Q := by
            refine lp_ind ?_
            intro k11181 ih11181 M10991 v10988 v10994 hk11181 hP10992 hF10993 e10997 e10998 e10999 e11000 e11001 e11002 e11003 e11004 e11005 e11006 e11007 e11008 h10989 h10990 h10995 h10996 pr11009 pr11010 h11011 ti11012
            refine wk_il1 r108_60 ?_
            refine wk_ifeq r108_61 ⟨by omega, by omega⟩ ?_ ?_
            · intro h11013
              subst hQ; exact wk_ret r108_218 (⟨rfl, hP10992, hF10993, by have := e11003; omega, by have := e11005; omega, (WS_0 e11003), (QW_0 e11005)⟩)
            · intro h11014
              obtain ⟨cv, hcv⟩ : ∃ x, VC M10991 = x := ⟨_, rfl⟩
              obtain ⟨xq, hxq⟩ : ∃ x, Rr * cv = x := ⟨_, rfl⟩
              have hw0 : v10994 ≤ xq := by rw [← hxq, ← hcv]; exact ti11012 (by omega)
              have hw1 : xq + Rr ≤ 3000 := by rw [← hxq, ← hcv]; exact VC_lt pr11010 (by omega) (by rw [e10998, PRD_M (fun k => hF10993.at (ga_740 k) rfl)]; exact xp2)
              have hcv0 : 0 ≤ cv := by rw [← hcv]; exact VC_nn hP10992 (by have := e10998; omega) (fun i a b => (ba_760 hP10992 a b).1)
              have hcv1 : cv ≤ 2999 := cv_ub (by omega) hcv0 hxq hw1
              refine wk_c1 r108_64 (wk_is2 r108_65 rfl ?_)
              have c66_11180 : ∀ (k11180 : Nat) (M11018 : Mm) (v11015 : Int) (v11021 : Int), (4 - v11015).toNat = k11180 → Pw M11018 → Fr fm_m8108_739 M0 M11018 → M11018 739 7 = v11021 → M11018 739 1 = x739_1 → M11018 739 2 = x739_2 → M11018 739 41 = x739_41 → M11018 739 43 = x739_43 → M11018 739 40 = x739_40 → M11018 739 13 = 0 → M11018 739 15 = 0 → M11018 739 21 = 0 → M11018 739 24 = (-1) → M11018 739 64 = (-1) → M11018 739 65 = 0 → 0 ≤ v11015 → v11015 ≤ 4 → 0 ≤ v11021 → v11021 ≤ 3000 → (FFP M11018 fe) → (CHP M11018) → (VC M11018 = cv) → 0 ≤ (-1) * v11021 + 1 * xq + 7 * v11015 → 0 ≤ (-1) * v11021 + 1 * xq + 14 * v11015 → 0 ≤ (-1) * v11015 + 1 * x739_2 → Wp B (d + 6) 108 66 [some (R 739), none, some (I v11015), none, none] [] M11018 Q := by
                refine lp_ind ?_
                intro k11180 ih11180 M11018 v11015 v11021 hk11180 hP11019 hF11020 e11024 e11025 e11026 e11027 e11028 e11029 e11030 e11031 e11032 e11033 e11034 e11035 h11016 h11017 h11022 h11023 pr11036 pr11037 pr11038 h11039 h11040 h11041
                refine wk_il2 r108_66 (wk_al0 r108_67 (wk_getfi r108_68 fd_739_2 e11026 ?_))
                refine wk_icge r108_71 ⟨by omega, by omega⟩ ⟨by omega, by omega⟩ ?_ ?_
                · intro h11042
                  have hCE : VC M11018 = cv := pr11038
                  have hw2 : v11021 ≤ xq + Rr := by omega
                  refine wk_al0 r108_150 (wk_getfi r108_151 fd_739_1 e11025 (wk_c1 r108_154 (wk_isub r108_155 (wk_is2 r108_156 rfl ?_))))
                  have c157_11101 : ∀ (k11101 : Nat) (M11046 : Mm) (v11043 : Int), (v11043 - (-1)).toNat = k11101 → Pw M11046 → Fr fm_m8108_739 M0 M11046 → M11046 739 7 = v11021 → M11046 739 1 = x739_1 → M11046 739 2 = x739_2 → M11046 739 41 = x739_41 → M11046 739 43 = x739_43 → M11046 739 40 = x739_40 → M11046 739 13 = 0 → M11046 739 15 = 0 → M11046 739 21 = 0 → M11046 739 24 = (-1) → M11046 739 64 = (-1) → M11046 739 65 = 0 → (-1) ≤ v11043 → v11043 ≤ 6 → (FFP M11046 fe) → (CHP M11046) → 0 ≤ (-1) * v11043 + 1 * x739_1 + (-1) → (DCI M11046 x739_1 v11043 cv) → Wp B (d + 6) 108 157 [some (R 739), none, some (I v11043), none, none] [] M11046 Q := by
                    refine lp_ind ?_
                    intro k11101 ih11101 M11046 v11043 hk11101 hP11047 hF11048 e11049 e11050 e11051 e11052 e11053 e11054 e11055 e11056 e11057 e11058 e11059 e11060 h11044 h11045 pr11061 pr11062 h11063 ti11064
                    refine wk_il2 r108_157 ?_
                    refine wk_iflt r108_158 ⟨by omega, by omega⟩ ?_ ?_
                    · intro h11065
                      refine wk_il2 r108_191 ?_
                      refine wk_iflt r108_192 ⟨by omega, by omega⟩ ?_ ?_
                      · intro h11066
                        refine wk_c1 r108_199 (wk_is1 r108_200 rfl (wk_il1 r108_201 ?_))
                        refine wk_ifeq r108_202 (by decide) ?_ ?_
                        · intro h11067
                          have h11068 := VC_nn hP11047 (by have := e11050; omega) (fun i a b => (ba_760 hP11047 a b).1)
                          refine wk_goto r108_215 ?_
                          exact wp_fg (le_s (le_s (le_n (le_s (le_s le_0))))) (ih11181 (4000 * 0 - VC M11046).toNat (by omega) M11046 0 v11021 rfl hP11047 hF11048 e11049 e11050 e11051 e11052 e11053 e11054 e11055 e11056 e11057 e11058 e11059 e11060 (by first | with_reducible assumption | omega) (by first | with_reducible assumption | omega) (by first | with_reducible assumption | omega) (by first | with_reducible assumption | omega) pr11061 pr11062 (by first | with_reducible assumption | omega) (fun q => by omega))
                        · intro h11069
                          exfalso
                          omega
                      · intro h11070
                        exfalso
                        omega
                    · intro h11071
                      refine wk_al0 r108_161 (wk_il2 r108_162 (wk_al0 r108_163 (wk_getfr r108_164 fd_739_54 (br_739_54 hP11047) (wk_il2 r108_167 (wk_ialdb r108_168 ar_760 ⟨by omega, by omega⟩ (fun q0 q1 => ba_760 hP11047 q0 q1) ?_)))))
                      intro v11072 h11074 h11075 e11073
                      refine wk_c1 r108_169 (wk_iadd r108_170 (wk_cv3 r108_171 kc_739_57 rfl (m8057_739 _ M11046 v11043 (v11072 + 1) hP11047 (by first | with_reducible assumption | omega) (by first | with_reducible assumption | omega) (by first | with_reducible assumption | omega) (by first | with_reducible assumption | omega)) (cqI ?_)))
                      rintro v11081 M11076 ⟨hP11077, hQ11078, h11082, h11083, xh11080⟩
                      obtain rfl := Fr.same hQ11078
                      refine wk_c1 r108_174 ?_
                      refine wk_icne r108_175 ⟨by omega, by omega⟩ (by decide) ?_ ?_
                      · intro h11084
                        refine wk_il2 r108_191 ?_
                        refine wk_iflt r108_192 ⟨by omega, by omega⟩ ?_ ?_
                        · intro h11085
                          exfalso
                          omega
                        · intro h11086
                          refine wk_c1 r108_195 (wk_goto r108_196 (wk_is1 r108_200 rfl (wk_il1 r108_201 ?_)))
                          refine wk_ifeq r108_202 (by decide) ?_ ?_
                          · intro h11087
                            exfalso
                            omega
                          · intro h11088
                            refine wk_al0 r108_205 (wk_getfr r108_206 fd_739_54 (br_739_54 hP11047) (wk_il2 r108_209 (wk_dup2 r108_210 (wk_iald r108_211 ar_760 ⟨by omega, by omega⟩ e11073 (wk_c1 r108_212 (wk_iadd r108_213 ?_))))))
                            have h11089 : (v11072 + 1) ≤ 9 := by have := cT_lt ((xh11080).2 (by omega)); omega
                            refine wk_iast r108_214 ar_760 ⟨by omega, by omega⟩ (wk_nw (ga_760 _) rfl hP11047 hF11048 (ua_760 ⟨by omega, by omega⟩) ?_)
                            intro M11090 hP11091 hF11092 e11093
                            have hVC : VC M11090 = cv + 1 := DC_inc ti11064 e11050 (by omega) (by omega) e11073 e11093
                            have pr11094 : CHP M11090 := CH_inc pr11062 (by have := (xh11080).2 (by omega); omega) e11093
                            refine wk_goto r108_215 ?_
                            exact wp_fg (le_s (le_s (le_n (le_s (le_s le_0))))) (ih11181 (4000 * 1 - VC M11090).toNat (by omega) M11090 1 v11021 rfl hP11091 hF11092 (mUp_no e11093 e11049 (Or.inl (by decide))) (mUp_no e11093 e11050 (Or.inl (by decide))) (mUp_no e11093 e11051 (Or.inl (by decide))) (mUp_no e11093 e11052 (Or.inl (by decide))) (mUp_no e11093 e11053 (Or.inl (by decide))) (mUp_no e11093 e11054 (Or.inl (by decide))) (mUp_no e11093 e11055 (Or.inl (by decide))) (mUp_no e11093 e11056 (Or.inl (by decide))) (mUp_no e11093 e11057 (Or.inl (by decide))) (mUp_no e11093 e11058 (Or.inl (by decide))) (mUp_no e11093 e11059 (Or.inl (by decide))) (mUp_no e11093 e11060 (Or.inl (by decide))) (by first | with_reducible assumption | omega) (by first | with_reducible assumption | omega) (by first | with_reducible assumption | omega) (by first | with_reducible assumption | omega) (FFP_sm (Sm.up e11093 (ga_760 _) rfl) pr11061) pr11094 (by first | with_reducible assumption | omega) (fun _ => by rw [mul_ub hVC hxq]; omega))
                      · intro h11095
                        refine wk_al0 r108_178 (wk_getfr r108_179 fd_739_54 (br_739_54 hP11047) (wk_il2 r108_182 (wk_c1 r108_183 (wk_iast r108_184 ar_760 ⟨by omega, by omega⟩ (wk_nw (ga_760 _) rfl hP11047 hF11048 (ua_760 (by decide)) ?_)))))
                        intro M11096 hP11097 hF11098 e11099
                        have pr11100 : CHP M11096 := CH_zero pr11062 (by rw [hF11048.at (ga_740 _) rfl]; exact cT_pos (hmb v11043 (by omega) (by omega))) e11099
                        refine wk_inc2 r108_185 rfl (wk_goto r108_188 ?_)
                        exact wp_fg (le_s (le_s (le_s (le_s (le_s le_0))))) (ih11101 ((v11043 + (-1)) - (-1)).toNat (by omega) M11096 (v11043 + (-1)) rfl hP11097 hF11098 (mUp_no e11099 e11049 (Or.inl (by decide))) (mUp_no e11099 e11050 (Or.inl (by decide))) (mUp_no e11099 e11051 (Or.inl (by decide))) (mUp_no e11099 e11052 (Or.inl (by decide))) (mUp_no e11099 e11053 (Or.inl (by decide))) (mUp_no e11099 e11054 (Or.inl (by decide))) (mUp_no e11099 e11055 (Or.inl (by decide))) (mUp_no e11099 e11056 (Or.inl (by decide))) (mUp_no e11099 e11057 (Or.inl (by decide))) (mUp_no e11099 e11058 (Or.inl (by decide))) (mUp_no e11099 e11059 (Or.inl (by decide))) (mUp_no e11099 e11060 (Or.inl (by decide))) (by first | with_reducible assumption | omega) (by first | with_reducible assumption | omega) (FFP_sm (Sm.up e11099 (ga_760 _) rfl) pr11061) pr11100 (by first | with_reducible assumption | omega) (DC_st ti11064 (by omega) (by omega) (by have := (xh11080).1 (by omega); rw [e11073]; omega) (by have := pr11062 v11043 (by omega) (by rw [e11050]; omega); exact this) e11099))
                  exact wp_fg (le_s (le_s (le_s (le_s (le_s le_0))))) (c157_11101 _ M11018 (x739_1 - 1) rfl hP11019 hF11020 e11024 e11025 e11026 e11027 e11028 e11029 e11030 e11031 e11032 e11033 e11034 e11035 (by first | with_reducible assumption | omega) (by first | with_reducible assumption | omega) pr11036 pr11037 (by first | with_reducible assumption | omega) (DC_in e11025 (by omega) hCE))
                · intro h11102
                  refine wk_c1 r108_74 (wk_is3 r108_75 rfl ?_)
                  have c76_11179 : ∀ (k11179 : Nat) (M11106 : Mm) (v11103 : Int) (v11109 : Int), (7 - v11103).toNat = k11179 → Pw M11106 → Fr fm_m8108_739 M0 M11106 → M11106 739 7 = v11109 → M11106 739 1 = x739_1 → M11106 739 2 = x739_2 → M11106 739 41 = x739_41 → M11106 739 43 = x739_43 → M11106 739 40 = x739_40 → M11106 739 13 = 0 → M11106 739 15 = 0 → M11106 739 21 = 0 → M11106 739 24 = (-1) → M11106 739 64 = (-1) → M11106 739 65 = 0 → 0 ≤ v11103 → v11103 ≤ 7 → 0 ≤ v11109 → v11109 ≤ 3000 → (FFP M11106 fe) → (CHP M11106) → (VC M11106 = cv) → 0 ≤ (-1) * v11109 + 1 * xq + 7 * v11015 + 1 * v11103 → 0 ≤ (-1) * v11109 + 1 * xq + 14 * v11015 + 2 * v11103 → 0 ≤ (-1) * v11015 + 1 * x739_2 → 0 ≤ (-1) * v11103 + 1 * x739_41 → Wp B (d + 6) 108 76 [some (R 739), none, some (I v11015), some (I v11103), none] [] M11106 Q := by
                    refine lp_ind ?_
                    intro k11179 ih11179 M11106 v11103 v11109 hk11179 hP11107 hF11108 e11112 e11113 e11114 e11115 e11116 e11117 e11118 e11119 e11120 e11121 e11122 e11123 h11104 h11105 h11110 h11111 pr11124 pr11125 pr11126 h11127 h11128 h11129 h11130
                    refine wk_il3 r108_76 (wk_al0 r108_77 (wk_getfi r108_78 fd_739_41 e11115 ?_))
                    refine wk_icge r108_81 ⟨by omega, by omega⟩ ⟨by omega, by omega⟩ ?_ ?_
                    · intro h11131
                      refine wk_inc2 r108_144 rfl (wk_goto r108_147 ?_)
                      exact wp_fg (le_s (le_s (le_s (le_n (le_s le_0))))) (ih11180 (4 - (v11015 + 1)).toNat (by omega) M11106 (v11015 + 1) v11109 rfl hP11107 hF11108 e11112 e11113 e11114 e11115 e11116 e11117 e11118 e11119 e11120 e11121 e11122 e11123 (by first | with_reducible assumption | omega) (by first | with_reducible assumption | omega) (by first | with_reducible assumption | omega) (by first | with_reducible assumption | omega) pr11124 pr11125 pr11126 (by first | with_reducible assumption | omega) (by first | with_reducible assumption | omega) (by first | with_reducible assumption | omega))
                    · intro h11132
                      refine wk_c1 r108_84 (wk_is4 r108_85 rfl ?_)
                      have c87_11178 : ∀ (k11178 : Nat) (M11136 : Mm) (v11133 : Int) (v11139 : Int), (1 - v11133).toNat = k11178 → Pw M11136 → Fr fm_m8108_739 M0 M11136 → M11136 739 7 = v11139 → M11136 739 1 = x739_1 → M11136 739 2 = x739_2 → M11136 739 41 = x739_41 → M11136 739 43 = x739_43 → M11136 739 40 = x739_40 → M11136 739 13 = 0 → M11136 739 15 = 0 → M11136 739 21 = 0 → M11136 739 24 = (-1) → M11136 739 64 = (-1) → M11136 739 65 = 0 → 0 ≤ v11133 → v11133 ≤ 1 → 0 ≤ v11139 → v11139 ≤ 3000 → (FFP M11136 fe) → (CHP M11136) → (VC M11136 = cv) → 0 ≤ (-1) * v11139 + 1 * xq + 7 * v11015 + 1 * v11103 + 1 * v11133 → 0 ≤ (-1) * v11139 + 1 * xq + 14 * v11015 + 2 * v11103 + 1 * v11133 → 0 ≤ (-1) * v11015 + 1 * x739_2 → 0 ≤ (-1) * v11103 + 1 * x739_41 → 0 ≤ (-1) * v11133 + 1 * x739_43 → Wp B (d + 6) 108 87 [some (R 739), none, some (I v11015), some (I v11103), some (I v11133)] [] M11136 Q := by
                        refine lp_ind ?_
                        intro k11178 ih11178 M11136 v11133 v11139 hk11178 hP11137 hF11138 e11142 e11143 e11144 e11145 e11146 e11147 e11148 e11149 e11150 e11151 e11152 e11153 h11134 h11135 h11140 h11141 pr11154 pr11155 pr11156 h11157 h11158 h11159 h11160 h11161
                        refine wk_il4 r108_87 (wk_al0 r108_89 (wk_getfi r108_90 fd_739_43 e11146 ?_))
                        refine wk_icge r108_93 ⟨by omega, by omega⟩ ⟨by omega, by omega⟩ ?_ ?_
                        · intro h11162
                          refine wk_inc3 r108_138 rfl (wk_goto r108_141 ?_)
                          exact wp_fg (le_s (le_s (le_s (le_s (le_n le_0))))) (ih11179 (7 - (v11103 + 1)).toNat (by omega) M11136 (v11103 + 1) v11139 rfl hP11137 hF11138 e11142 e11143 e11144 e11145 e11146 e11147 e11148 e11149 e11150 e11151 e11152 e11153 (by first | with_reducible assumption | omega) (by first | with_reducible assumption | omega) (by first | with_reducible assumption | omega) (by first | with_reducible assumption | omega) pr11154 pr11155 pr11156 (by first | with_reducible assumption | omega) (by first | with_reducible assumption | omega) (by first | with_reducible assumption | omega) (by first | with_reducible assumption | omega))
                        · intro h11163
                          refine wk_al0 r108_96 (wk_il2 r108_97 (wk_al0 r108_98 (wk_getfi r108_99 fd_739_41 e11145 (wk_c2 r108_102 ?_))))
                          refine wk_icne r108_104 ⟨by omega, by omega⟩ (by decide) ?_ ?_
                          · intro h11164
                            exfalso
                            omega
                          · intro h11165
                            refine wk_il3 r108_107 (wk_goto r108_108 (wk_il4 r108_127 (wk_cv4 r108_129 kc_739_59 rfl (m8059_739 _ M11136 v11015 v11103 v11133 v11139 x739_1 fe hP11137 (by first | with_reducible assumption | omega) (by first | with_reducible assumption | omega) (by first | with_reducible assumption | omega) (by first | with_reducible assumption | omega) (by first | with_reducible assumption | omega) (by first | with_reducible assumption | omega) e11142 (by first | with_reducible assumption | omega) (by first | with_reducible assumption | omega) e11143 (by first | with_reducible assumption | omega) (by first | with_reducible assumption | omega) pr11154 pr11155) (cqV ?_))))
                            rintro M11166 ⟨hP11167, hQ11168, h11170, h11171, pr11172, pr11173⟩
                            have hF11169 : Fr fm_m8108_739 M0 M11166 := hF11138.tr hQ11168 rfl
                            obtain ⟨v11174, e11175⟩ : ∃ v, M11166 739 7 = v := ⟨_, rfl⟩
                            have h11176 := (bf_739_7 hP11167).1; rw [e11175] at h11176
                            have h11177 := (bf_739_7 hP11167).2; rw [e11175] at h11177
                            refine wk_inc4 r108_132 rfl (wk_goto r108_135 ?_)
                            exact wp_fg (le_s (le_s (le_s (le_s (le_s le_0))))) (ih11178 (1 - (v11133 + 1)).toNat (by omega) M11166 (v11133 + 1) v11174 rfl hP11167 hF11169 e11175 ((hQ11168.at g_739_1 rfl).trans e11143) ((hQ11168.at g_739_2 rfl).trans e11144) ((hQ11168.at g_739_41 rfl).trans e11145) ((hQ11168.at g_739_43 rfl).trans e11146) ((hQ11168.at g_739_40 rfl).trans e11147) ((hQ11168.at g_739_13 rfl).trans e11148) ((hQ11168.at g_739_15 rfl).trans e11149) ((hQ11168.at g_739_21 rfl).trans e11150) ((hQ11168.at g_739_24 rfl).trans e11151) ((hQ11168.at g_739_64 rfl).trans e11152) ((hQ11168.at g_739_65 rfl).trans e11153) (by first | with_reducible assumption | omega) (by first | with_reducible assumption | omega) (by first | with_reducible assumption | omega) (by first | with_reducible assumption | omega) pr11172 pr11173 (VCE_sm (Sm.fr hQ11168 rfl) pr11156) (by first | with_reducible assumption | omega) (by first | with_reducible assumption | omega) (by first | with_reducible assumption | omega) (by first | with_reducible assumption | omega) (by first | with_reducible assumption | omega))
                      exact wp_fg (le_s (le_s (le_s (le_s (le_s le_0))))) (c87_11178 _ M11106 0 v11109 rfl hP11107 hF11108 e11112 e11113 e11114 e11115 e11116 e11117 e11118 e11119 e11120 e11121 e11122 e11123 (by first | with_reducible assumption | omega) (by first | with_reducible assumption | omega) (by first | with_reducible assumption | omega) (by first | with_reducible assumption | omega) pr11124 pr11125 pr11126 (by first | with_reducible assumption | omega) (by first | with_reducible assumption | omega) (by first | with_reducible assumption | omega) (by first | with_reducible assumption | omega) (by first | with_reducible assumption | omega))
                  exact wp_fg (le_s (le_s (le_s (le_s (le_s le_0))))) (c76_11179 _ M11018 0 v11021 rfl hP11019 hF11020 e11024 e11025 e11026 e11027 e11028 e11029 e11030 e11031 e11032 e11033 e11034 e11035 (by first | with_reducible assumption | omega) (by first | with_reducible assumption | omega) (by first | with_reducible assumption | omega) (by first | with_reducible assumption | omega) pr11036 pr11037 pr11038 (by first | with_reducible assumption | omega) (by first | with_reducible assumption | omega) (by first | with_reducible assumption | omega) (by first | with_reducible assumption | omega))
              exact wp_fg (le_s (le_n (le_s (le_s (le_s le_0))))) (c66_11180 _ M10991 0 v10994 rfl hP10992 hF10993 e10997 e10998 e10999 e11000 e11001 e11002 e11003 e11004 e11005 e11006 e11007 e11008 (by first | with_reducible assumption | omega) (by first | with_reducible assumption | omega) (by first | with_reducible assumption | omega) (by first | with_reducible assumption | omega) pr11009 pr11010 hcv (by first | with_reducible assumption | omega) (by first | with_reducible assumption | omega) (by first | with_reducible assumption | omega))
          exact wp_fg (le_s (le_s (le_s (le_s (le_s le_0))))) (c60_11181 _ M10969 1 0 rfl hP10970 hF10971 e10983 e10972 e10973 e10974 e10975 e10976 e10977 e10978 e10979 e10980 e10981 e10982 (by first | with_reducible assumption | omega) (by first | with_reducible assumption | omega) (by first | with_reducible assumption | omega) (by first | with_reducible assumption | omega) pr10984 pr10987 (by first | with_reducible assumption | omega) (fun _ => by rw [hCA.2, Int.mul_zero]; omega))
        · intro h11182
          refine wk_al0 r108_45 (wk_getfr r108_46 fd_739_54 (br_739_54 hP10970) (wk_il1 r108_49 (wk_c1 r108_50 (wk_iast r108_51 ar_760 ⟨by omega, by omega⟩ (wk_nw (ga_760 _) rfl hP10970 hF10971 (ua_760 (by decide)) ?_)))))
          intro M11183 hP11184 hF11185 e11186
          refine wk_inc1 r108_52 rfl (wk_goto r108_55 ?_)
          exact wp_fg (le_s (le_s (le_s (le_s (le_s le_0))))) (ih11187 (7 - (v10966 + 1)).toNat (by omega) M11183 (v10966 + 1) rfl hP11184 hF11185 (mUp_no e11186 e10972 (Or.inl (by decide))) (mUp_no e11186 e10973 (Or.inl (by decide))) (mUp_no e11186 e10974 (Or.inl (by decide))) (mUp_no e11186 e10975 (Or.inl (by decide))) (mUp_no e11186 e10976 (Or.inl (by decide))) (mUp_no e11186 e10977 (Or.inl (by decide))) (mUp_no e11186 e10978 (Or.inl (by decide))) (mUp_no e11186 e10979 (Or.inl (by decide))) (mUp_no e11186 e10980 (Or.inl (by decide))) (mUp_no e11186 e10981 (Or.inl (by decide))) (mUp_no e11186 e10982 (Or.inl (by decide))) (mUp_no e11186 e10983 (Or.inl (by decide))) (by first | with_reducible assumption | omega) (by first | with_reducible assumption | omega) (FFP_sm (Sm.up e11186 (ga_760 _) rfl) pr10984) (fun k a b => by rw [e11186]; (by_cases q : k = v10966); (rw [q, mUp_eq]); (rw [mUp_ne (Or.inr q)]; exact ti10985 k a (by omega))))
      exact wp_fg (le_s (le_s (le_s (le_s (le_s le_0))))) (c37_11187 _ M7645 0 rfl hP7646 hF7647 (mUp_no e7648 (mUp_no e7644 (mUp_no e7640 (mUp_no e7636 (mUp_no e7632 (mUp_no e7628 (mUp_no e7624 ex739_1 (Or.inr (by decide))) (Or.inr (by decide))) (Or.inr (by decide))) (Or.inr (by decide))) (Or.inr (by decide))) (Or.inr (by decide))) (Or.inr (by decide))) (mUp_no e7648 (mUp_no e7644 (mUp_no e7640 (mUp_no e7636 (mUp_no e7632 (mUp_no e7628 (mUp_no e7624 ex739_2 (Or.inr (by decide))) (Or.inr (by decide))) (Or.inr (by decide))) (Or.inr (by decide))) (Or.inr (by decide))) (Or.inr (by decide))) (Or.inr (by decide))) (mUp_no e7648 (mUp_no e7644 (mUp_no e7640 (mUp_no e7636 (mUp_no e7632 (mUp_no e7628 (mUp_no e7624 ex739_41 (Or.inr (by decide))) (Or.inr (by decide))) (Or.inr (by decide))) (Or.inr (by decide))) (Or.inr (by decide))) (Or.inr (by decide))) (Or.inr (by decide))) (mUp_no e7648 (mUp_no e7644 (mUp_no e7640 (mUp_no e7636 (mUp_no e7632 (mUp_no e7628 (mUp_no e7624 ex739_43 (Or.inr (by decide))) (Or.inr (by decide))) (Or.inr (by decide))) (Or.inr (by decide))) (Or.inr (by decide))) (Or.inr (by decide))) (Or.inr (by decide))) (mUp_no e7648 (mUp_no e7644 (mUp_no e7640 (mUp_no e7636 (mUp_no e7632 (mUp_no e7628 (mUp_no e7624 ex739_40 (Or.inr (by decide))) (Or.inr (by decide))) (Or.inr (by decide))) (Or.inr (by decide))) (Or.inr (by decide))) (Or.inr (by decide))) (Or.inr (by decide))) (mUp_no e7648 (mUp_no e7644 (mUp_no e7640 (mUp_no e7636 (mUp_no e7632 (mUp_no e7628 (mUp_at e7624) (Or.inr (by decide))) (Or.inr (by decide))) (Or.inr (by decide))) (Or.inr (by decide))) (Or.inr (by decide))) (Or.inr (by decide))) (mUp_no e7648 (mUp_no e7644 (mUp_no e7640 (mUp_no e7636 (mUp_no e7632 (mUp_at e7628) (Or.inr (by decide))) (Or.inr (by decide))) (Or.inr (by decide))) (Or.inr (by decide))) (Or.inr (by decide))) (mUp_no e7648 (mUp_no e7644 (mUp_no e7640 (mUp_no e7636 (mUp_at e7632) (Or.inr (by decide))) (Or.inr (by decide))) (Or.inr (by decide))) (Or.inr (by decide))) (mUp_no e7648 (mUp_no e7644 (mUp_no e7640 (mUp_at e7636) (Or.inr (by decide))) (Or.inr (by decide))) (Or.inr (by decide))) (mUp_no e7648 (mUp_no e7644 (mUp_at e7640) (Or.inr (by decide))) (Or.inr (by decide))) (mUp_no e7648 (mUp_at e7644) (Or.inr (by decide))) (mUp_at e7648) (by first | with_reducible assumption | omega) (by first | with_reducible assumption | omega) (FFP_sm (Sm.up e7648 g_739_7 rfl) (FFP_sm (Sm.up e7644 g_739_65 rfl) (FFP_sm (Sm.up e7640 g_739_64 rfl) (FFP_sm (Sm.up e7636 g_739_24 rfl) (FFP_sm (Sm.up e7632 g_739_21 rfl) (FFP_sm (Sm.up e7628 g_739_15 rfl) (FFP_sm (Sm.up e7624 g_739_13 rfl) pp_FF))))))) (fun k a b => by omega))
    · have hRr : Rr = 14 * x739_2 := by rw [xp1, show x739_41 = 7 by omega, show x739_43 = 2 by omega]; omega
      have hmb : ∀ k : Int, 0 ≤ k → k < 7 → 1 ≤ M0 740 k ∧ M0 740 k ≤ 31 := fun k a b => ⟨xp3 k a b, (ba_740 hP0 a b).2⟩
      refine wk_al0 r108_0 (wk_c1 r108_1 (wk_putfi81 r108_2 fd_739_13 (wk_nw g_739_13 rfl hP0 hF0 (uf_739_13 (by decide)) ?_)))
      intro M11188 hP11189 hF11190 e11191
      refine wk_al0 r108_5 (wk_c1 r108_6 (wk_putfi81 r108_7 fd_739_15 (wk_nw g_739_15 rfl hP11189 hF11190 (uf_739_15 (by decide)) ?_)))
      intro M11192 hP11193 hF11194 e11195
      refine wk_al0 r108_10 (wk_c1 r108_11 (wk_putfi81 r108_12 fd_739_21 (wk_nw g_739_21 rfl hP11193 hF11194 (uf_739_21 (by decide)) ?_)))
      intro M11196 hP11197 hF11198 e11199
      refine wk_al0 r108_15 (wk_c1 r108_16 (wk_putfi81 r108_17 fd_739_24 (wk_nw g_739_24 rfl hP11197 hF11198 (uf_739_24 (by decide)) ?_)))
      intro M11200 hP11201 hF11202 e11203
      refine wk_al0 r108_20 (wk_c1 r108_21 (wk_putfi81 r108_22 fd_739_64 (wk_nw g_739_64 rfl hP11201 hF11202 (uf_739_64 (by decide)) ?_)))
      intro M11204 hP11205 hF11206 e11207
      refine wk_al0 r108_25 (wk_c1 r108_26 (wk_putfi81 r108_27 fd_739_65 (wk_nw g_739_65 rfl hP11205 hF11206 (uf_739_65 (by decide)) ?_)))
      intro M11208 hP11209 hF11210 e11211
      refine wk_al0 r108_30 (wk_c1 r108_31 (wk_putfi81 r108_32 fd_739_7 (wk_nw g_739_7 rfl hP11209 hF11210 (uf_739_7 (by decide)) ?_)))
      intro M11212 hP11213 hF11214 e11215
      refine wk_c1 r108_35 (wk_is1 r108_36 rfl ?_)
      have c37_14854 : ∀ (k14854 : Nat) (M14639 : Mm) (v14636 : Int), (7 - v14636).toNat = k14854 → Pw M14639 → Fr fm_m8108_739 M0 M14639 → M14639 739 1 = x739_1 → M14639 739 2 = x739_2 → M14639 739 41 = x739_41 → M14639 739 43 = x739_43 → M14639 739 40 = x739_40 → M14639 739 13 = 0 → M14639 739 15 = 0 → M14639 739 21 = 0 → M14639 739 24 = (-1) → M14639 739 64 = (-1) → M14639 739 65 = 0 → M14639 739 7 = 0 → 0 ≤ v14636 → v14636 ≤ 7 → (FFP M14639 fe) → (∀ k : Int, 0 ≤ k → k < v14636 → M14639 760 k = 0) → Wp B (d + 6) 108 37 [some (R 739), some (I v14636), none, none, none] [] M14639 Q := by
        refine lp_ind ?_
        intro k14854 ih14854 M14639 v14636 hk14854 hP14640 hF14641 e14642 e14643 e14644 e14645 e14646 e14647 e14648 e14649 e14650 e14651 e14652 e14653 h14637 h14638 pr14654 ti14655
        refine wk_il1 r108_37 (wk_al0 r108_38 (wk_getfi r108_39 fd_739_1 e14642 ?_))
        refine wk_icge r108_42 ⟨by omega, by omega⟩ ⟨by omega, by omega⟩ ?_ ?_
        · intro h14656
          have hCA := CH_all (M := M14639) (fun k a b => ti14655 k a (by have := e14642; omega)) (fun k a b => by rw [hF14641.at (ga_740 k) rfl]; exact hmb k a b) (by have := e14642; omega)
          have pr14657 : CHP M14639 := hCA.1
          refine wk_c1 r108_58 (wk_is1 r108_59 rfl ?_)
          have c60_14848 : ∀ (k14848 : Nat) (M14661 : Mm) (v14658 : Int) (v14664 : Int), (4000 * v14658 - VC M14661).toNat = k14848 → Pw M14661 → Fr fm_m8108_739 M0 M14661 → M14661 739 7 = v14664 → M14661 739 1 = x739_1 → M14661 739 2 = x739_2 → M14661 739 41 = x739_41 → M14661 739 43 = x739_43 → M14661 739 40 = x739_40 → M14661 739 13 = 0 → M14661 739 15 = 0 → M14661 739 21 = 0 → M14661 739 24 = (-1) → M14661 739 64 = (-1) → M14661 739 65 = 0 → 0 ≤ v14658 → v14658 ≤ 1 → 0 ≤ v14664 → v14664 ≤ 3000 → (FFP M14661 fe) → (CHP M14661) → 0 ≤ (-1) * v14658 + v14664 + 1 → (v14658 = 1 → v14664 ≤ Rr * VC M14661) → Wp B (d + 6) 108 60 [some (R 739), some (I v14658), none, none, none] [] M14661 Q := by
            refine lp_ind ?_
            intro k14848 ih14848 M14661 v14658 v14664 hk14848 hP14662 hF14663 e14667 e14668 e14669 e14670 e14671 e14672 e14673 e14674 e14675 e14676 e14677 e14678 h14659 h14660 h14665 h14666 pr14679 pr14680 h14681 ti14682
            refine wk_il1 r108_60 ?_
            refine wk_ifeq r108_61 ⟨by omega, by omega⟩ ?_ ?_
            · intro h14683
              subst hQ; exact wk_ret r108_218 (⟨rfl, hP14662, hF14663, by have := e14673; omega, by have := e14675; omega, (WS_0 e14673), (QW_0 e14675)⟩)
            · intro h14684
              obtain ⟨cv, hcv⟩ : ∃ x, VC M14661 = x := ⟨_, rfl⟩
              obtain ⟨xq, hxq⟩ : ∃ x, Rr * cv = x := ⟨_, rfl⟩
              have hw0 : v14664 ≤ xq := by rw [← hxq, ← hcv]; exact ti14682 (by omega)
              have hw1 : xq + Rr ≤ 3000 := by rw [← hxq, ← hcv]; exact VC_lt pr14680 (by omega) (by rw [e14668, PRD_M (fun k => hF14663.at (ga_740 k) rfl)]; exact xp2)
              have hcv0 : 0 ≤ cv := by rw [← hcv]; exact VC_nn hP14662 (by have := e14668; omega) (fun i a b => (ba_760 hP14662 a b).1)
              have hcv1 : cv ≤ 2999 := cv_ub (by omega) hcv0 hxq hw1
              refine wk_c1 r108_64 (wk_is2 r108_65 rfl ?_)
              have c66_14847 : ∀ (k14847 : Nat) (M14688 : Mm) (v14685 : Int) (v14691 : Int), (4 - v14685).toNat = k14847 → Pw M14688 → Fr fm_m8108_739 M0 M14688 → M14688 739 7 = v14691 → M14688 739 1 = x739_1 → M14688 739 2 = x739_2 → M14688 739 41 = x739_41 → M14688 739 43 = x739_43 → M14688 739 40 = x739_40 → M14688 739 13 = 0 → M14688 739 15 = 0 → M14688 739 21 = 0 → M14688 739 24 = (-1) → M14688 739 64 = (-1) → M14688 739 65 = 0 → 0 ≤ v14685 → v14685 ≤ 4 → 0 ≤ v14691 → v14691 ≤ 3000 → (FFP M14688 fe) → (CHP M14688) → (VC M14688 = cv) → 0 ≤ (-1) * v14691 + 1 * xq + 14 * v14685 → 0 ≤ (-1) * v14685 + 1 * x739_2 → Wp B (d + 6) 108 66 [some (R 739), none, some (I v14685), none, none] [] M14688 Q := by
                refine lp_ind ?_
                intro k14847 ih14847 M14688 v14685 v14691 hk14847 hP14689 hF14690 e14694 e14695 e14696 e14697 e14698 e14699 e14700 e14701 e14702 e14703 e14704 e14705 h14686 h14687 h14692 h14693 pr14706 pr14707 pr14708 h14709 h14710
                refine wk_il2 r108_66 (wk_al0 r108_67 (wk_getfi r108_68 fd_739_2 e14696 ?_))
                refine wk_icge r108_71 ⟨by omega, by omega⟩ ⟨by omega, by omega⟩ ?_ ?_
                · intro h14711
                  have hCE : VC M14688 = cv := pr14708
                  have hw2 : v14691 ≤ xq + Rr := by omega
                  refine wk_al0 r108_150 (wk_getfi r108_151 fd_739_1 e14695 (wk_c1 r108_154 (wk_isub r108_155 (wk_is2 r108_156 rfl ?_))))
                  have c157_14770 : ∀ (k14770 : Nat) (M14715 : Mm) (v14712 : Int), (v14712 - (-1)).toNat = k14770 → Pw M14715 → Fr fm_m8108_739 M0 M14715 → M14715 739 7 = v14691 → M14715 739 1 = x739_1 → M14715 739 2 = x739_2 → M14715 739 41 = x739_41 → M14715 739 43 = x739_43 → M14715 739 40 = x739_40 → M14715 739 13 = 0 → M14715 739 15 = 0 → M14715 739 21 = 0 → M14715 739 24 = (-1) → M14715 739 64 = (-1) → M14715 739 65 = 0 → (-1) ≤ v14712 → v14712 ≤ 6 → (FFP M14715 fe) → (CHP M14715) → 0 ≤ (-1) * v14712 + 1 * x739_1 + (-1) → (DCI M14715 x739_1 v14712 cv) → Wp B (d + 6) 108 157 [some (R 739), none, some (I v14712), none, none] [] M14715 Q := by
                    refine lp_ind ?_
                    intro k14770 ih14770 M14715 v14712 hk14770 hP14716 hF14717 e14718 e14719 e14720 e14721 e14722 e14723 e14724 e14725 e14726 e14727 e14728 e14729 h14713 h14714 pr14730 pr14731 h14732 ti14733
                    refine wk_il2 r108_157 ?_
                    refine wk_iflt r108_158 ⟨by omega, by omega⟩ ?_ ?_
                    · intro h14734
                      refine wk_il2 r108_191 ?_
                      refine wk_iflt r108_192 ⟨by omega, by omega⟩ ?_ ?_
                      · intro h14735
                        refine wk_c1 r108_199 (wk_is1 r108_200 rfl (wk_il1 r108_201 ?_))
                        refine wk_ifeq r108_202 (by decide) ?_ ?_
                        · intro h14736
                          have h14737 := VC_nn hP14716 (by have := e14719; omega) (fun i a b => (ba_760 hP14716 a b).1)
                          refine wk_goto r108_215 ?_
                          exact wp_fg (le_s (le_s (le_n (le_s (le_s le_0))))) (ih14848 (4000 * 0 - VC M14715).toNat (by omega) M14715 0 v14691 rfl hP14716 hF14717 e14718 e14719 e14720 e14721 e14722 e14723 e14724 e14725 e14726 e14727 e14728 e14729 (by first | with_reducible assumption | omega) (by first | with_reducible assumption | omega) (by first | with_reducible assumption | omega) (by first | with_reducible assumption | omega) pr14730 pr14731 (by first | with_reducible assumption | omega) (fun q => by omega))
                        · intro h14738
                          exfalso
                          omega
                      · intro h14739
                        exfalso
                        omega
                    · intro h14740
                      refine wk_al0 r108_161 (wk_il2 r108_162 (wk_al0 r108_163 (wk_getfr r108_164 fd_739_54 (br_739_54 hP14716) (wk_il2 r108_167 (wk_ialdb r108_168 ar_760 ⟨by omega, by omega⟩ (fun q0 q1 => ba_760 hP14716 q0 q1) ?_)))))
                      intro v14741 h14743 h14744 e14742
                      refine wk_c1 r108_169 (wk_iadd r108_170 (wk_cv3 r108_171 kc_739_57 rfl (m8057_739 _ M14715 v14712 (v14741 + 1) hP14716 (by first | with_reducible assumption | omega) (by first | with_reducible assumption | omega) (by first | with_reducible assumption | omega) (by first | with_reducible assumption | omega)) (cqI ?_)))
                      rintro v14750 M14745 ⟨hP14746, hQ14747, h14751, h14752, xh14749⟩
                      obtain rfl := Fr.same hQ14747
                      refine wk_c1 r108_174 ?_
                      refine wk_icne r108_175 ⟨by omega, by omega⟩ (by decide) ?_ ?_
                      · intro h14753
                        refine wk_il2 r108_191 ?_
                        refine wk_iflt r108_192 ⟨by omega, by omega⟩ ?_ ?_
                        · intro h14754
                          exfalso
                          omega
                        · intro h14755
                          refine wk_c1 r108_195 (wk_goto r108_196 (wk_is1 r108_200 rfl (wk_il1 r108_201 ?_)))
                          refine wk_ifeq r108_202 (by decide) ?_ ?_
                          · intro h14756
                            exfalso
                            omega
                          · intro h14757
                            refine wk_al0 r108_205 (wk_getfr r108_206 fd_739_54 (br_739_54 hP14716) (wk_il2 r108_209 (wk_dup2 r108_210 (wk_iald r108_211 ar_760 ⟨by omega, by omega⟩ e14742 (wk_c1 r108_212 (wk_iadd r108_213 ?_))))))
                            have h14758 : (v14741 + 1) ≤ 9 := by have := cT_lt ((xh14749).2 (by omega)); omega
                            refine wk_iast r108_214 ar_760 ⟨by omega, by omega⟩ (wk_nw (ga_760 _) rfl hP14716 hF14717 (ua_760 ⟨by omega, by omega⟩) ?_)
                            intro M14759 hP14760 hF14761 e14762
                            have hVC : VC M14759 = cv + 1 := DC_inc ti14733 e14719 (by omega) (by omega) e14742 e14762
                            have pr14763 : CHP M14759 := CH_inc pr14731 (by have := (xh14749).2 (by omega); omega) e14762
                            refine wk_goto r108_215 ?_
                            exact wp_fg (le_s (le_s (le_n (le_s (le_s le_0))))) (ih14848 (4000 * 1 - VC M14759).toNat (by omega) M14759 1 v14691 rfl hP14760 hF14761 (mUp_no e14762 e14718 (Or.inl (by decide))) (mUp_no e14762 e14719 (Or.inl (by decide))) (mUp_no e14762 e14720 (Or.inl (by decide))) (mUp_no e14762 e14721 (Or.inl (by decide))) (mUp_no e14762 e14722 (Or.inl (by decide))) (mUp_no e14762 e14723 (Or.inl (by decide))) (mUp_no e14762 e14724 (Or.inl (by decide))) (mUp_no e14762 e14725 (Or.inl (by decide))) (mUp_no e14762 e14726 (Or.inl (by decide))) (mUp_no e14762 e14727 (Or.inl (by decide))) (mUp_no e14762 e14728 (Or.inl (by decide))) (mUp_no e14762 e14729 (Or.inl (by decide))) (by first | with_reducible assumption | omega) (by first | with_reducible assumption | omega) (by first | with_reducible assumption | omega) (by first | with_reducible assumption | omega) (FFP_sm (Sm.up e14762 (ga_760 _) rfl) pr14730) pr14763 (by first | with_reducible assumption | omega) (fun _ => by rw [mul_ub hVC hxq]; omega))
                      · intro h14764
                        refine wk_al0 r108_178 (wk_getfr r108_179 fd_739_54 (br_739_54 hP14716) (wk_il2 r108_182 (wk_c1 r108_183 (wk_iast r108_184 ar_760 ⟨by omega, by omega⟩ (wk_nw (ga_760 _) rfl hP14716 hF14717 (ua_760 (by decide)) ?_)))))
                        intro M14765 hP14766 hF14767 e14768
                        have pr14769 : CHP M14765 := CH_zero pr14731 (by rw [hF14717.at (ga_740 _) rfl]; exact cT_pos (hmb v14712 (by omega) (by omega))) e14768
                        refine wk_inc2 r108_185 rfl (wk_goto r108_188 ?_)
                        exact wp_fg (le_s (le_s (le_s (le_s (le_s le_0))))) (ih14770 ((v14712 + (-1)) - (-1)).toNat (by omega) M14765 (v14712 + (-1)) rfl hP14766 hF14767 (mUp_no e14768 e14718 (Or.inl (by decide))) (mUp_no e14768 e14719 (Or.inl (by decide))) (mUp_no e14768 e14720 (Or.inl (by decide))) (mUp_no e14768 e14721 (Or.inl (by decide))) (mUp_no e14768 e14722 (Or.inl (by decide))) (mUp_no e14768 e14723 (Or.inl (by decide))) (mUp_no e14768 e14724 (Or.inl (by decide))) (mUp_no e14768 e14725 (Or.inl (by decide))) (mUp_no e14768 e14726 (Or.inl (by decide))) (mUp_no e14768 e14727 (Or.inl (by decide))) (mUp_no e14768 e14728 (Or.inl (by decide))) (mUp_no e14768 e14729 (Or.inl (by decide))) (by first | with_reducible assumption | omega) (by first | with_reducible assumption | omega) (FFP_sm (Sm.up e14768 (ga_760 _) rfl) pr14730) pr14769 (by first | with_reducible assumption | omega) (DC_st ti14733 (by omega) (by omega) (by have := (xh14749).1 (by omega); rw [e14742]; omega) (by have := pr14731 v14712 (by omega) (by rw [e14719]; omega); exact this) e14768))
                  exact wp_fg (le_s (le_s (le_s (le_s (le_s le_0))))) (c157_14770 _ M14688 (x739_1 - 1) rfl hP14689 hF14690 e14694 e14695 e14696 e14697 e14698 e14699 e14700 e14701 e14702 e14703 e14704 e14705 (by first | with_reducible assumption | omega) (by first | with_reducible assumption | omega) pr14706 pr14707 (by first | with_reducible assumption | omega) (DC_in e14695 (by omega) hCE))
                · intro h14771
                  refine wk_c1 r108_74 (wk_is3 r108_75 rfl ?_)
                  have c76_14846 : ∀ (k14846 : Nat) (M14775 : Mm) (v14772 : Int) (v14778 : Int), (7 - v14772).toNat = k14846 → Pw M14775 → Fr fm_m8108_739 M0 M14775 → M14775 739 7 = v14778 → M14775 739 1 = x739_1 → M14775 739 2 = x739_2 → M14775 739 41 = x739_41 → M14775 739 43 = x739_43 → M14775 739 40 = x739_40 → M14775 739 13 = 0 → M14775 739 15 = 0 → M14775 739 21 = 0 → M14775 739 24 = (-1) → M14775 739 64 = (-1) → M14775 739 65 = 0 → 0 ≤ v14772 → v14772 ≤ 7 → 0 ≤ v14778 → v14778 ≤ 3000 → (FFP M14775 fe) → (CHP M14775) → (VC M14775 = cv) → 0 ≤ (-1) * v14778 + 1 * xq + 14 * v14685 + 2 * v14772 → 0 ≤ (-1) * v14685 + 1 * x739_2 → 0 ≤ (-1) * v14772 + 1 * x739_41 → Wp B (d + 6) 108 76 [some (R 739), none, some (I v14685), some (I v14772), none] [] M14775 Q := by
                    refine lp_ind ?_
                    intro k14846 ih14846 M14775 v14772 v14778 hk14846 hP14776 hF14777 e14781 e14782 e14783 e14784 e14785 e14786 e14787 e14788 e14789 e14790 e14791 e14792 h14773 h14774 h14779 h14780 pr14793 pr14794 pr14795 h14796 h14797 h14798
                    refine wk_il3 r108_76 (wk_al0 r108_77 (wk_getfi r108_78 fd_739_41 e14784 ?_))
                    refine wk_icge r108_81 ⟨by omega, by omega⟩ ⟨by omega, by omega⟩ ?_ ?_
                    · intro h14799
                      refine wk_inc2 r108_144 rfl (wk_goto r108_147 ?_)
                      exact wp_fg (le_s (le_s (le_s (le_n (le_s le_0))))) (ih14847 (4 - (v14685 + 1)).toNat (by omega) M14775 (v14685 + 1) v14778 rfl hP14776 hF14777 e14781 e14782 e14783 e14784 e14785 e14786 e14787 e14788 e14789 e14790 e14791 e14792 (by first | with_reducible assumption | omega) (by first | with_reducible assumption | omega) (by first | with_reducible assumption | omega) (by first | with_reducible assumption | omega) pr14793 pr14794 pr14795 (by first | with_reducible assumption | omega) (by first | with_reducible assumption | omega))
                    · intro h14800
                      refine wk_c1 r108_84 (wk_is4 r108_85 rfl ?_)
                      have c87_14845 : ∀ (k14845 : Nat) (M14804 : Mm) (v14801 : Int) (v14807 : Int), (2 - v14801).toNat = k14845 → Pw M14804 → Fr fm_m8108_739 M0 M14804 → M14804 739 7 = v14807 → M14804 739 1 = x739_1 → M14804 739 2 = x739_2 → M14804 739 41 = x739_41 → M14804 739 43 = x739_43 → M14804 739 40 = x739_40 → M14804 739 13 = 0 → M14804 739 15 = 0 → M14804 739 21 = 0 → M14804 739 24 = (-1) → M14804 739 64 = (-1) → M14804 739 65 = 0 → 0 ≤ v14801 → v14801 ≤ 2 → 0 ≤ v14807 → v14807 ≤ 3000 → (FFP M14804 fe) → (CHP M14804) → (VC M14804 = cv) → 0 ≤ (-1) * v14807 + 1 * xq + 14 * v14685 + 2 * v14772 + 1 * v14801 → 0 ≤ (-1) * v14685 + 1 * x739_2 → 0 ≤ (-1) * v14772 + 1 * x739_41 → 0 ≤ (-1) * v14801 + 1 * x739_43 → Wp B (d + 6) 108 87 [some (R 739), none, some (I v14685), some (I v14772), some (I v14801)] [] M14804 Q := by
                        refine lp_ind ?_
                        intro k14845 ih14845 M14804 v14801 v14807 hk14845 hP14805 hF14806 e14810 e14811 e14812 e14813 e14814 e14815 e14816 e14817 e14818 e14819 e14820 e14821 h14802 h14803 h14808 h14809 pr14822 pr14823 pr14824 h14825 h14826 h14827 h14828
                        refine wk_il4 r108_87 (wk_al0 r108_89 (wk_getfi r108_90 fd_739_43 e14814 ?_))
                        refine wk_icge r108_93 ⟨by omega, by omega⟩ ⟨by omega, by omega⟩ ?_ ?_
                        · intro h14829
                          refine wk_inc3 r108_138 rfl (wk_goto r108_141 ?_)
                          exact wp_fg (le_s (le_s (le_s (le_s (le_n le_0))))) (ih14846 (7 - (v14772 + 1)).toNat (by omega) M14804 (v14772 + 1) v14807 rfl hP14805 hF14806 e14810 e14811 e14812 e14813 e14814 e14815 e14816 e14817 e14818 e14819 e14820 e14821 (by first | with_reducible assumption | omega) (by first | with_reducible assumption | omega) (by first | with_reducible assumption | omega) (by first | with_reducible assumption | omega) pr14822 pr14823 pr14824 (by first | with_reducible assumption | omega) (by first | with_reducible assumption | omega) (by first | with_reducible assumption | omega))
                        · intro h14830
                          refine wk_al0 r108_96 (wk_il2 r108_97 (wk_al0 r108_98 (wk_getfi r108_99 fd_739_41 e14813 (wk_c2 r108_102 ?_))))
                          refine wk_icne r108_104 ⟨by omega, by omega⟩ (by decide) ?_ ?_
                          · intro h14831
                            exfalso
                            omega
                          · intro h14832
                            refine wk_il3 r108_107 (wk_goto r108_108 (wk_il4 r108_127 (wk_cv4 r108_129 kc_739_59 rfl (m8059_739 _ M14804 v14685 v14772 v14801 v14807 x739_1 fe hP14805 (by first | with_reducible assumption | omega) (by first | with_reducible assumption | omega) (by first | with_reducible assumption | omega) (by first | with_reducible assumption | omega) (by first | with_reducible assumption | omega) (by first | with_reducible assumption | omega) e14810 (by first | with_reducible assumption | omega) (by first | with_reducible assumption | omega) e14811 (by first | with_reducible assumption | omega) (by first | with_reducible assumption | omega) pr14822 pr14823) (cqV ?_))))
                            rintro M14833 ⟨hP14834, hQ14835, h14837, h14838, pr14839, pr14840⟩
                            have hF14836 : Fr fm_m8108_739 M0 M14833 := hF14806.tr hQ14835 rfl
                            obtain ⟨v14841, e14842⟩ : ∃ v, M14833 739 7 = v := ⟨_, rfl⟩
                            have h14843 := (bf_739_7 hP14834).1; rw [e14842] at h14843
                            have h14844 := (bf_739_7 hP14834).2; rw [e14842] at h14844
                            refine wk_inc4 r108_132 rfl (wk_goto r108_135 ?_)
                            exact wp_fg (le_s (le_s (le_s (le_s (le_s le_0))))) (ih14845 (2 - (v14801 + 1)).toNat (by omega) M14833 (v14801 + 1) v14841 rfl hP14834 hF14836 e14842 ((hQ14835.at g_739_1 rfl).trans e14811) ((hQ14835.at g_739_2 rfl).trans e14812) ((hQ14835.at g_739_41 rfl).trans e14813) ((hQ14835.at g_739_43 rfl).trans e14814) ((hQ14835.at g_739_40 rfl).trans e14815) ((hQ14835.at g_739_13 rfl).trans e14816) ((hQ14835.at g_739_15 rfl).trans e14817) ((hQ14835.at g_739_21 rfl).trans e14818) ((hQ14835.at g_739_24 rfl).trans e14819) ((hQ14835.at g_739_64 rfl).trans e14820) ((hQ14835.at g_739_65 rfl).trans e14821) (by first | with_reducible assumption | omega) (by first | with_reducible assumption | omega) (by first | with_reducible assumption | omega) (by first | with_reducible assumption | omega) pr14839 pr14840 (VCE_sm (Sm.fr hQ14835 rfl) pr14824) (by first | with_reducible assumption | omega) (by first | with_reducible assumption | omega) (by first | with_reducible assumption | omega) (by first | with_reducible assumption | omega))
                      exact wp_fg (le_s (le_s (le_s (le_s (le_s le_0))))) (c87_14845 _ M14775 0 v14778 rfl hP14776 hF14777 e14781 e14782 e14783 e14784 e14785 e14786 e14787 e14788 e14789 e14790 e14791 e14792 (by first | with_reducible assumption | omega) (by first | with_reducible assumption | omega) (by first | with_reducible assumption | omega) (by first | with_reducible assumption | omega) pr14793 pr14794 pr14795 (by first | with_reducible assumption | omega) (by first | with_reducible assumption | omega) (by first | with_reducible assumption | omega) (by first | with_reducible assumption | omega))
                  exact wp_fg (le_s (le_s (le_s (le_s (le_s le_0))))) (c76_14846 _ M14688 0 v14691 rfl hP14689 hF14690 e14694 e14695 e14696 e14697 e14698 e14699 e14700 e14701 e14702 e14703 e14704 e14705 (by first | with_reducible assumption | omega) (by first | with_reducible assumption | omega) (by first | with_reducible assumption | omega) (by first | with_reducible assumption | omega) pr14706 pr14707 pr14708 (by first | with_reducible assumption | omega) (by first | with_reducible assumption | omega) (by first | with_reducible assumption | omega))
              exact wp_fg (le_s (le_n (le_s (le_s (le_s le_0))))) (c66_14847 _ M14661 0 v14664 rfl hP14662 hF14663 e14667 e14668 e14669 e14670 e14671 e14672 e14673 e14674 e14675 e14676 e14677 e14678 (by first | with_reducible assumption | omega) (by first | with_reducible assumption | omega) (by first | with_reducible assumption | omega) (by first | with_reducible assumption | omega) pr14679 pr14680 hcv (by first | with_reducible assumption | omega) (by first | with_reducible assumption | omega))
          exact wp_fg (le_s (le_s (le_s (le_s (le_s le_0))))) (c60_14848 _ M14639 1 0 rfl hP14640 hF14641 e14653 e14642 e14643 e14644 e14645 e14646 e14647 e14648 e14649 e14650 e14651 e14652 (by first | with_reducible assumption | omega) (by first | with_reducible assumption | omega) (by first | with_reducible assumption | omega) (by first | with_reducible assumption | omega) pr14654 pr14657 (by first | with_reducible assumption | omega) (fun _ => by rw [hCA.2, Int.mul_zero]; omega))
        · intro h14849
          refine wk_al0 r108_45 (wk_getfr r108_46 fd_739_54 (br_739_54 hP14640) (wk_il1 r108_49 (wk_c1 r108_50 (wk_iast r108_51 ar_760 ⟨by omega, by omega⟩ (wk_nw (ga_760 _) rfl hP14640 hF14641 (ua_760 (by decide)) ?_)))))
          intro M14850 hP14851 hF14852 e14853
          refine wk_inc1 r108_52 rfl (wk_goto r108_55 ?_)
          exact wp_fg (le_s (le_s (le_s (le_s (le_s le_0))))) (ih14854 (7 - (v14636 + 1)).toNat (by omega) M14850 (v14636 + 1) rfl hP14851 hF14852 (mUp_no e14853 e14642 (Or.inl (by decide))) (mUp_no e14853 e14643 (Or.inl (by decide))) (mUp_no e14853 e14644 (Or.inl (by decide))) (mUp_no e14853 e14645 (Or.inl (by decide))) (mUp_no e14853 e14646 (Or.inl (by decide))) (mUp_no e14853 e14647 (Or.inl (by decide))) (mUp_no e14853 e14648 (Or.inl (by decide))) (mUp_no e14853 e14649 (Or.inl (by decide))) (mUp_no e14853 e14650 (Or.inl (by decide))) (mUp_no e14853 e14651 (Or.inl (by decide))) (mUp_no e14853 e14652 (Or.inl (by decide))) (mUp_no e14853 e14653 (Or.inl (by decide))) (by first | with_reducible assumption | omega) (by first | with_reducible assumption | omega) (FFP_sm (Sm.up e14853 (ga_760 _) rfl) pr14654) (fun k a b => by rw [e14853]; (by_cases q : k = v14636); (rw [q, mUp_eq]); (rw [mUp_ne (Or.inr q)]; exact ti14655 k a (by omega))))
      exact wp_fg (le_s (le_s (le_s (le_s (le_s le_0))))) (c37_14854 _ M11212 0 rfl hP11213 hF11214 (mUp_no e11215 (mUp_no e11211 (mUp_no e11207 (mUp_no e11203 (mUp_no e11199 (mUp_no e11195 (mUp_no e11191 ex739_1 (Or.inr (by decide))) (Or.inr (by decide))) (Or.inr (by decide))) (Or.inr (by decide))) (Or.inr (by decide))) (Or.inr (by decide))) (Or.inr (by decide))) (mUp_no e11215 (mUp_no e11211 (mUp_no e11207 (mUp_no e11203 (mUp_no e11199 (mUp_no e11195 (mUp_no e11191 ex739_2 (Or.inr (by decide))) (Or.inr (by decide))) (Or.inr (by decide))) (Or.inr (by decide))) (Or.inr (by decide))) (Or.inr (by decide))) (Or.inr (by decide))) (mUp_no e11215 (mUp_no e11211 (mUp_no e11207 (mUp_no e11203 (mUp_no e11199 (mUp_no e11195 (mUp_no e11191 ex739_41 (Or.inr (by decide))) (Or.inr (by decide))) (Or.inr (by decide))) (Or.inr (by decide))) (Or.inr (by decide))) (Or.inr (by decide))) (Or.inr (by decide))) (mUp_no e11215 (mUp_no e11211 (mUp_no e11207 (mUp_no e11203 (mUp_no e11199 (mUp_no e11195 (mUp_no e11191 ex739_43 (Or.inr (by decide))) (Or.inr (by decide))) (Or.inr (by decide))) (Or.inr (by decide))) (Or.inr (by decide))) (Or.inr (by decide))) (Or.inr (by decide))) (mUp_no e11215 (mUp_no e11211 (mUp_no e11207 (mUp_no e11203 (mUp_no e11199 (mUp_no e11195 (mUp_no e11191 ex739_40 (Or.inr (by decide))) (Or.inr (by decide))) (Or.inr (by decide))) (Or.inr (by decide))) (Or.inr (by decide))) (Or.inr (by decide))) (Or.inr (by decide))) (mUp_no e11215 (mUp_no e11211 (mUp_no e11207 (mUp_no e11203 (mUp_no e11199 (mUp_no e11195 (mUp_at e11191) (Or.inr (by decide))) (Or.inr (by decide))) (Or.inr (by decide))) (Or.inr (by decide))) (Or.inr (by decide))) (Or.inr (by decide))) (mUp_no e11215 (mUp_no e11211 (mUp_no e11207 (mUp_no e11203 (mUp_no e11199 (mUp_at e11195) (Or.inr (by decide))) (Or.inr (by decide))) (Or.inr (by decide))) (Or.inr (by decide))) (Or.inr (by decide))) (mUp_no e11215 (mUp_no e11211 (mUp_no e11207 (mUp_no e11203 (mUp_at e11199) (Or.inr (by decide))) (Or.inr (by decide))) (Or.inr (by decide))) (Or.inr (by decide))) (mUp_no e11215 (mUp_no e11211 (mUp_no e11207 (mUp_at e11203) (Or.inr (by decide))) (Or.inr (by decide))) (Or.inr (by decide))) (mUp_no e11215 (mUp_no e11211 (mUp_at e11207) (Or.inr (by decide))) (Or.inr (by decide))) (mUp_no e11215 (mUp_at e11211) (Or.inr (by decide))) (mUp_at e11215) (by first | with_reducible assumption | omega) (by first | with_reducible assumption | omega) (FFP_sm (Sm.up e11215 g_739_7 rfl) (FFP_sm (Sm.up e11211 g_739_65 rfl) (FFP_sm (Sm.up e11207 g_739_64 rfl) (FFP_sm (Sm.up e11203 g_739_24 rfl) (FFP_sm (Sm.up e11199 g_739_21 rfl) (FFP_sm (Sm.up e11195 g_739_15 rfl) (FFP_sm (Sm.up e11191 g_739_13 rfl) pp_FF))))))) (fun k a b => by omega))
