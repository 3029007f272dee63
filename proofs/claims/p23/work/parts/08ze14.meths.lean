/-! ===== written by program (wip/layer3/model.py): contracts of methods ===== -/
def fm_m9055_739 : Nat := 11692013098647223345629478661730264157247460343808
/-- IslandHallModel.can -/
theorem m9055_739 {B : eB} (d : Nat) (M0 : Mm) (p1 : Int) (hP0 : Pw M0) (l1 : (-2147483648) ≤ p1) (u1 : p1 ≤ 2147483647) : Ct B (d + 3) 55 [R 739, I p1] M0 (qI fun z M => Pw M ∧ Fr fm_m9055_739 M0 M ∧ (-2147483648) ≤ z ∧ z ≤ 2147483647) := by
  refine ct_of (d := d + 2) (k := 2) (L := [some (R 739), some (I p1), none, none]) rfl rfl rfl ?_
  have hF0 := Fr.rf fm_m9055_739 M0
  generalize hQ : (qI fun z M => Pw M ∧ Fr fm_m9055_739 M0 M ∧ (-2147483648) ≤ z ∧ z ≤ 2147483647) = Q
  refine wk_al0 r55_0 (wk_c1 r55_1 (wk_putfi81 r55_2 fd_739_0 (wk_nw g_739_0 rfl hP0 hF0 (uf_739_0 (by decide)) ?_)))
  intro M1 hP2 hF3 e4
  refine wk_al0 r55_5 (wk_il1 r55_6 (wk_c1 r55_7 ?_))
  refine wk_iclt r55_8 ⟨by omega, by omega⟩ (by decide) ?_ ?_
  · intro h5
    refine wk_c1 r55_20 (wk_c1 r55_21 (wk_cv3 r55_22 kc_739_123 rfl (m9123_739 _ M1 0 1 0 hP2 (by decide) (by decide) (by decide) (by decide) (mUp_at e4) (by first | assumption | omega) (by first | assumption | omega)) (cqI ?_)))
    rintro v12 M6 ⟨hP7, hQ8, h13, h14, h10, xh11⟩
    have hF9 : Fr fm_m9055_739 M0 M6 := hF3.tr hQ8 rfl
    refine wk_ifne r55_25 ⟨by omega, by omega⟩ ?_ ?_
    · intro h15
      exfalso
      omega
    · intro h16
      refine wk_c1 r55_28 ?_
      subst hQ; exact wk_iret r55_29 (⟨rfl, _, rfl, hP7, hF9, by omega, by omega⟩)
  · intro h17
    refine wk_il1 r55_11 (wk_c1 r55_12 ?_)
    refine wk_icgt r55_13 ⟨by omega, by omega⟩ (by decide) ?_ ?_
    · intro h18
      refine wk_c1 r55_20 (wk_c1 r55_21 (wk_cv3 r55_22 kc_739_123 rfl (m9123_739 _ M1 0 1 0 hP2 (by decide) (by decide) (by decide) (by decide) (mUp_at e4) (by first | assumption | omega) (by first | assumption | omega)) (cqI ?_)))
      rintro v25 M19 ⟨hP20, hQ21, h26, h27, h23, xh24⟩
      have hF22 : Fr fm_m9055_739 M0 M19 := hF3.tr hQ21 rfl
      refine wk_ifne r55_25 ⟨by omega, by omega⟩ ?_ ?_
      · intro h28
        exfalso
        omega
      · intro h29
        refine wk_c1 r55_28 ?_
        subst hQ; exact wk_iret r55_29 (⟨rfl, _, rfl, hP20, hF22, by omega, by omega⟩)
    · intro h30
      refine wk_c1 r55_16 (wk_goto r55_17 (wk_c1 r55_21 (wk_cv3 r55_22 kc_739_123 rfl (m9123_739v1 _ M1 1 1 0 hP2 (by decide) (by decide) (by decide) (by decide) (mUp_at e4) (by first | assumption | omega) (by first | assumption | omega)) (cqI ?_))))
      rintro v37 M31 ⟨hP32, hQ33, h38, h39, h35, xh36⟩
      obtain rfl := Fr.same hQ33
      refine wk_ifne r55_25 ⟨by omega, by omega⟩ ?_ ?_
      · intro h40
        refine wk_c1 r55_30 (wk_is2 r55_31 rfl (wk_c1 r55_32 (wk_is3 r55_33 rfl ?_)))
        have c34_393 : ∀ (k393 : Nat) (v358 : Int) (v361 : Int), (3000 - v361).toNat = k393 → (-2147483648) ≤ v358 → v358 ≤ 2147483647 → 0 ≤ v361 → v361 ≤ 3000 → Wp B (d + 2) 55 34 [some (R 739), some (I p1), some (I v358), some (I v361)] [] M1 Q := by
          refine lp_ind ?_
          intro k393 ih393 v358 v361 hk393 h359 h360 h362 h363
          refine wk_il3 r55_34 (wk_al0 r55_35 (wk_getfb r55_36 fd_739_7 (bf_739_7 hP2) ?_))
          intro v364 h366 h367 e365
          refine wk_icge r55_39 ⟨by omega, by omega⟩ ⟨by omega, by omega⟩ ?_ ?_
          · intro h368
            refine wk_il2 r55_67 ?_
            subst hQ; exact wk_iret r55_68 (⟨rfl, _, rfl, hP2, hF3, by omega, by omega⟩)
          · intro h369
            refine wk_al0 r55_42 (wk_il3 r55_43 (wk_cv2 r55_44 kc_739_83 rfl (m9083_739 _ M1 v361 hP2 (by omega) (by omega)) (cqI ?_)))
            rintro v375 M370 ⟨hP371, hQ372, h376, h377, xh374⟩
            obtain rfl := Fr.same hQ372
            refine wk_ifeq r55_47 ⟨by omega, by omega⟩ ?_ ?_
            · intro h378
              refine wk_inc3 r55_61 rfl (wk_goto r55_64 ?_)
              exact wp_fg (le_s (le_s (le_s (le_s le_0)))) (ih393 (3000 - (v361 + 1)).toNat (by omega) v358 (v361 + 1) rfl (by first | assumption | omega) (by first | assumption | omega) (by first | assumption | omega) (by first | assumption | omega))
            · intro h379
              refine wk_il2 r55_50 (wk_c1 r55_51 (wk_al0 r55_52 (wk_il3 r55_53 (wk_il1 r55_54 (wk_cv3 r55_55 kc_739_45 rfl (m9045_739 _ M1 v361 p1 hP2 (by omega) (by omega) (by omega) (by omega)) (cqI ?_))))))
              rintro v384 M380 ⟨hP381, hQ382, h385, h386⟩
              obtain rfl := Fr.same hQ382
              refine wk_shlx r55_58 ?_
              intro v387 h388 h389
              refine wk_iorx r55_59 ?_
              intro v390 h391 h392
              refine wk_is2 r55_60 rfl (wk_inc3 r55_61 rfl (wk_goto r55_64 ?_))
              exact wp_fg (le_s (le_s (le_s (le_s le_0)))) (ih393 (3000 - (v361 + 1)).toNat (by omega) v390 (v361 + 1) rfl (by first | assumption | omega) (by first | assumption | omega) (by first | assumption | omega) (by first | assumption | omega))
        exact wp_fg (le_s (le_s (le_s (le_s le_0)))) (c34_393 _ 0 0 rfl (by first | assumption | omega) (by first | assumption | omega) (by first | assumption | omega) (by first | assumption | omega))
      · intro h394
        refine wk_c1 r55_28 ?_
        subst hQ; exact wk_iret r55_29 (⟨rfl, _, rfl, hP2, hF3, by omega, by omega⟩)
