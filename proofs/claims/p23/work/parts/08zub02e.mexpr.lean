set_option maxHeartbeats 20000000 in
/-- IslandHallModel.operand -/
theorem n8116_739 {B : eB} (d : Nat) (M0 : Mm) (x739_30 : Int) (x739_31 : Int) (x739_33 : Int) (x739_34 : Int) (x739_32 : Int) (x739_28 : Int) (x739_45 : Int) (x739_46 : Int) (x739_47 : Int) (x739_38 : Int) (x739_36 : Int) (x739_51 : Int) (x739_35 : Int) (x739_29 : Int) (s0 : Int) (u0 : Int → Int) (T : Int → Int) (c0 : Cg) (z0 : Og) (hP0 : Pw M0) (ex739_30 : M0 739 30 = x739_30) (lx739_30 : 0 ≤ x739_30) (ux739_30 : x739_30 ≤ 500) (ex739_31 : M0 739 31 = x739_31) (lx739_31 : 0 ≤ x739_31) (ux739_31 : x739_31 ≤ 500) (ex739_33 : M0 739 33 = x739_33) (lx739_33 : 0 ≤ x739_33) (ux739_33 : x739_33 ≤ 500) (ex739_34 : M0 739 34 = x739_34) (lx739_34 : 0 ≤ x739_34) (ux739_34 : x739_34 ≤ 500) (ex739_32 : M0 739 32 = x739_32) (lx739_32 : 0 ≤ x739_32) (ux739_32 : x739_32 ≤ 4) (ex739_28 : M0 739 28 = x739_28) (lx739_28 : 0 ≤ x739_28) (ux739_28 : x739_28 ≤ 6) (ex739_45 : M0 739 45 = x739_45) (lx739_45 : 0 ≤ x739_45) (ux739_45 : x739_45 ≤ 1000) (ex739_46 : M0 739 46 = x739_46) (lx739_46 : 0 ≤ x739_46) (ux739_46 : x739_46 ≤ 520) (ex739_47 : M0 739 47 = x739_47) (lx739_47 : 0 ≤ x739_47) (ux739_47 : x739_47 ≤ 500) (ex739_38 : M0 739 38 = x739_38) (lx739_38 : 0 ≤ x739_38) (ux739_38 : x739_38 ≤ 999) (ex739_36 : M0 739 36 = x739_36) (lx739_36 : 0 ≤ x739_36) (ux739_36 : x739_36 ≤ 255) (ex739_51 : M0 739 51 = x739_51) (lx739_51 : 0 ≤ x739_51) (ux739_51 : x739_51 ≤ 0) (ex739_35 : M0 739 35 = x739_35) (lx739_35 : 0 ≤ x739_35) (ux739_35 : x739_35 ≤ 999) (ex739_29 : M0 739 29 = x739_29) (lx739_29 : (-1) ≤ x739_29) (ux739_29 : x739_29 ≤ 501) (rp0 : 0 ≤ x739_30 + (-1) * x739_31) (rp1 : 0 ≤ x739_31 + (-1) * x739_33 + (-1) * x739_34) (rp2 : 0 ≤ (-1) * x739_31 + x739_33 + x739_34) (rp3 : 0 ≤ 4 * x739_34 + (-1) * x739_32) (rp4 : 0 ≤ x739_33 + x739_47 + (-2) * x739_45 + (-2) * x739_46 + 3000 * x739_28) (rp5 : 0 ≤ (-2) * x739_45 + (-2) * x739_46 + 520) (rp6 : 0 ≤ (-1) * x739_47 + x739_28 + 6) (rp7 : 0 ≤ (-1) * x739_38 + 7 + 3000 * x739_28) (xp0 : RGX T x739_30 x739_38 c0 z0 1 x739_47 x739_33 0 x739_28 x739_29 (OW M0)) (pp_TK : TK M0) (pp_E0 : GE M0 s0 u0 0 0) (pp_TQ : TXQ T M0) (pp_TT : TTP T M0) : Ct B (d + 6) 116 [R 739] M0 (qV fun M => Pw M ∧ Fr fm_n8116_739 M0 M ∧ 0 ≤ M 739 30 + (-1) * (M 739 31) ∧ 0 ≤ M 739 31 + (-1) * (M 739 33) + (-1) * (M 739 34) ∧ 0 ≤ (-1) * (M 739 31) + M 739 33 + M 739 34 ∧ 0 ≤ 4 * (M 739 34) + (-1) * (M 739 32) ∧ 0 ≤ M 739 33 + (-1) * x739_33 ∧ 0 ≤ M 739 28 + (-1) * x739_28 ∧ 0 ≤ M 739 33 + M 739 47 + (-2) * (M 739 45) + (-2) * (M 739 46) + 3000 * (M 739 28) ∧ 0 ≤ (-2) * (M 739 45) + (-2) * (M 739 46) + 520 ∧ 0 ≤ (-1) * (M 739 47) + M 739 28 + 6 ∧ 0 ≤ (-1) * (M 739 51) ∧ 0 ≤ M 739 29 + 1 ∧ 0 ≤ M 739 29 + (-1) * x739_29 + 3000 * (M 739 28) ∧ 0 ≤ (-1) * (M 739 29) + x739_29 + 3000 * (M 739 28) ∧ (RGX T x739_30 x739_38 c0 z0 2 (M 739 47) (M 739 33) 0 (M 739 28) (M 739 29) (OW M)) ∧ (TK M) ∧ (GE M s0 u0 1 0) ∧ (TXQ T M) ∧ (TTP T M)) := by
  refine ct_of (d := d + 5) (k := 2) (L := [some (R 739), none, none]) rfl rfl rfl ?_
  have hF0 := Fr.rf fm_n8116_739 M0
  generalize hQ : (qV fun M => Pw M ∧ Fr fm_n8116_739 M0 M ∧ 0 ≤ M 739 30 + (-1) * (M 739 31) ∧ 0 ≤ M 739 31 + (-1) * (M 739 33) + (-1) * (M 739 34) ∧ 0 ≤ (-1) * (M 739 31) + M 739 33 + M 739 34 ∧ 0 ≤ 4 * (M 739 34) + (-1) * (M 739 32) ∧ 0 ≤ M 739 33 + (-1) * x739_33 ∧ 0 ≤ M 739 28 + (-1) * x739_28 ∧ 0 ≤ M 739 33 + M 739 47 + (-2) * (M 739 45) + (-2) * (M 739 46) + 3000 * (M 739 28) ∧ 0 ≤ (-2) * (M 739 45) + (-2) * (M 739 46) + 520 ∧ 0 ≤ (-1) * (M 739 47) + M 739 28 + 6 ∧ 0 ≤ (-1) * (M 739 51) ∧ 0 ≤ M 739 29 + 1 ∧ 0 ≤ M 739 29 + (-1) * x739_29 + 3000 * (M 739 28) ∧ 0 ≤ (-1) * (M 739 29) + x739_29 + 3000 * (M 739 28) ∧ (RGX T x739_30 x739_38 c0 z0 2 (M 739 47) (M 739 33) 0 (M 739 28) (M 739 29) (OW M)) ∧ (TK M) ∧ (GE M s0 u0 1 0) ∧ (TXQ T M) ∧ (TTP T M)) = Q
  refine wk_c1 r116_0 (wk_is1 r116_1 rfl ?_)
  have c2_5007 : ∀ (k5007 : Nat) (M4414 : Mm) (v4411 : Int) (v4417 : Int) (v4421 : Int) (v4425 : Int) (v4429 : Int) (v4433 : Int) (v4437 : Int) (v4441 : Int) (v4445 : Int) (v4449 : Int) (v4453 : Int), (10 * (501 - v4421) + v4411 + (6 - v4433)).toNat = k5007 → Pw M4414 → Fr fm_n8116_739 M0 M4414 → M4414 739 31 = v4417 → M4414 739 33 = v4421 → M4414 739 34 = v4425 → M4414 739 32 = v4429 → M4414 739 28 = v4433 → M4414 739 45 = v4437 → M4414 739 46 = v4441 → M4414 739 47 = v4445 → M4414 739 51 = v4449 → M4414 739 29 = v4453 → M4414 739 30 = x739_30 → M4414 739 38 = x739_38 → 0 ≤ v4411 → v4411 ≤ 1 → 0 ≤ v4417 → v4417 ≤ 500 → 0 ≤ v4421 → v4421 ≤ 500 → 0 ≤ v4425 → v4425 ≤ 500 → 0 ≤ v4429 → v4429 ≤ 4 → 0 ≤ v4433 → v4433 ≤ 6 → 0 ≤ v4437 → v4437 ≤ 260 → 0 ≤ v4441 → v4441 ≤ 260 → 0 ≤ v4445 → v4445 ≤ 12 → 0 ≤ v4449 → v4449 ≤ 1 → (-1) ≤ v4453 → v4453 ≤ 501 → (TK M4414) → (GH M4414 s0 u0) → (TXQ T M4414) → (TTP T M4414) → 0 ≤ 1 * x739_30 + (-1) * v4417 → 0 ≤ 1 * v4417 + (-1) * v4421 + (-1) * v4425 → 0 ≤ (-1) * v4417 + 1 * v4421 + 1 * v4425 → 0 ≤ 4 * v4425 + (-1) * v4429 → 0 ≤ 1 * v4421 + 1 * v4445 + (-2) * v4437 + (-2) * v4441 + 3000 * v4433 → 0 ≤ (-2) * v4437 + (-2) * v4441 + 520 → 0 ≤ (-1) * v4445 + 1 * v4433 + 6 → 0 ≤ 1 * v4421 + (-1) * x739_33 → 0 ≤ 1 * v4433 + (-1) * x739_28 → 0 ≤ (-1) * v4411 + (-1) * v4449 + 1 → 0 ≤ (-1) * x739_38 + 7 + 3000 * v4433 → 0 ≤ 1 * v4453 + (-1) * x739_29 + 3000 * v4433 → 0 ≤ (-1) * v4453 + 1 * x739_29 + 3000 * v4433 → 0 ≤ v4421 - x739_33 → 0 ≤ v4433 - x739_28 → (OPX T x739_30 x739_38 c0 z0 v4411 v4449 v4445 v4421 v4433 v4453 (OW M4414)) → Wp B (d + 5) 116 2 [some (R 739), some (I v4411), none] [] M4414 Q := by
    refine lp_ind ?_
    intro k5007 ih5007 M4414 v4411 v4417 v4421 v4425 v4429 v4433 v4437 v4441 v4445 v4449 v4453 hk5007 hP4415 hF4416 e4420 e4424 e4428 e4432 e4436 e4440 e4444 e4448 e4452 e4456 e4457 e4458 h4412 h4413 h4418 h4419 h4422 h4423 h4426 h4427 h4430 h4431 h4434 h4435 h4438 h4439 h4442 h4443 h4446 h4447 h4450 h4451 h4454 h4455 pr4459 pr4460 pr4461 pr4462 h4463 h4464 h4465 h4466 h4467 h4468 h4469 h4470 h4471 h4472 h4473 h4474 h4475 h4476 h4477 ti4478
    refine wk_il1 r116_2 ?_
    refine wk_ifeq r116_3 ⟨by omega, by omega⟩ ?_ ?_
    · intro h4479
      refine wk_al0 r116_143 (wk_cv1 r116_144 kc_739_84 rfl (n8084_739 _ M4414 v4433 hP4415 e4436 (by first | with_reducible assumption | omega) (by first | with_reducible assumption | omega)) (cqI ?_))
      rintro v4486 M4480 ⟨hP4481, hQ4482, h4487, h4488, h4484, h4485⟩
      obtain rfl := Fr.same hQ4482
      have e4489 := e4436
      refine wk_ifeq r116_147 ⟨by omega, by omega⟩ ?_ ?_
      · intro h4490
        have pr4491 : GE M4414 s0 u0 1 0 := (GE_vac e4436 (by omega))
        refine wk_al0 r116_161 (wk_c1 r116_162 (wk_putfz81 r116_163 fd_739_51 (by decide) (wk_nw g_739_51 rfl hP4415 hF4416 (uf_739_51 (by decide)) ?_)))
        intro M4492 hP4493 hF4494 e4495
        subst hQ; exact wk_ret r116_166 (⟨rfl, hP4493, hF4494, by have := (mUp_no e4495 e4457 (Or.inr (by decide))); have := (mUp_no e4495 e4420 (Or.inr (by decide))); omega, by have := (mUp_no e4495 e4420 (Or.inr (by decide))); have := (mUp_no e4495 e4424 (Or.inr (by decide))); have := (mUp_no e4495 e4428 (Or.inr (by decide))); omega, by have := (mUp_no e4495 e4420 (Or.inr (by decide))); have := (mUp_no e4495 e4424 (Or.inr (by decide))); have := (mUp_no e4495 e4428 (Or.inr (by decide))); omega, by have := (mUp_no e4495 e4428 (Or.inr (by decide))); have := (mUp_no e4495 e4432 (Or.inr (by decide))); omega, by have := (mUp_no e4495 e4424 (Or.inr (by decide))); omega, by have := (mUp_no e4495 e4436 (Or.inr (by decide))); omega, by have := (mUp_no e4495 e4424 (Or.inr (by decide))); have := (mUp_no e4495 e4448 (Or.inr (by decide))); have := (mUp_no e4495 e4440 (Or.inr (by decide))); have := (mUp_no e4495 e4444 (Or.inr (by decide))); have := (mUp_no e4495 e4436 (Or.inr (by decide))); omega, by have := (mUp_no e4495 e4440 (Or.inr (by decide))); have := (mUp_no e4495 e4444 (Or.inr (by decide))); omega, by have := (mUp_no e4495 e4448 (Or.inr (by decide))); have := (mUp_no e4495 e4436 (Or.inr (by decide))); omega, by have := (mUp_at e4495); omega, by have := (mUp_no e4495 e4456 (Or.inr (by decide))); omega, by have := (mUp_no e4495 e4456 (Or.inr (by decide))); have := (mUp_no e4495 e4436 (Or.inr (by decide))); omega, by have := (mUp_no e4495 e4456 (Or.inr (by decide))); have := (mUp_no e4495 e4436 (Or.inr (by decide))); omega, by rw [(mUp_no e4495 e4448 (Or.inr (by decide))), (mUp_no e4495 e4424 (Or.inr (by decide))), (mUp_no e4495 e4436 (Or.inr (by decide))), (mUp_no e4495 e4456 (Or.inr (by decide)))]; exact OPX_f ti4478 (by omega), (TK_sm (Sm.up e4495 g_739_51 rfl) pr4459), (GE_sm (Sm.up e4495 g_739_51 rfl) pr4491), (TXQ_sm (Sm.up e4495 g_739_51 rfl) pr4461), (TTP_sm (Sm.up e4495 g_739_51 rfl) pr4462)⟩)
      · intro h4496
        refine wk_al0 r116_150 (wk_getfi r116_151 fd_739_51 e4452 ?_)
        refine wk_ifne r116_154 ⟨by omega, by omega⟩ ?_ ?_
        · intro h4497
          have pr4498 : GE M4414 s0 u0 1 0 := (GE_of1 e4452 (by omega) pr4460)
          refine wk_al0 r116_161 (wk_c1 r116_162 (wk_putfz81 r116_163 fd_739_51 (by decide) (wk_nw g_739_51 rfl hP4415 hF4416 (uf_739_51 (by decide)) ?_)))
          intro M4499 hP4500 hF4501 e4502
          subst hQ; exact wk_ret r116_166 (⟨rfl, hP4500, hF4501, by have := (mUp_no e4502 e4457 (Or.inr (by decide))); have := (mUp_no e4502 e4420 (Or.inr (by decide))); omega, by have := (mUp_no e4502 e4420 (Or.inr (by decide))); have := (mUp_no e4502 e4424 (Or.inr (by decide))); have := (mUp_no e4502 e4428 (Or.inr (by decide))); omega, by have := (mUp_no e4502 e4420 (Or.inr (by decide))); have := (mUp_no e4502 e4424 (Or.inr (by decide))); have := (mUp_no e4502 e4428 (Or.inr (by decide))); omega, by have := (mUp_no e4502 e4428 (Or.inr (by decide))); have := (mUp_no e4502 e4432 (Or.inr (by decide))); omega, by have := (mUp_no e4502 e4424 (Or.inr (by decide))); omega, by have := (mUp_no e4502 e4436 (Or.inr (by decide))); omega, by have := (mUp_no e4502 e4424 (Or.inr (by decide))); have := (mUp_no e4502 e4448 (Or.inr (by decide))); have := (mUp_no e4502 e4440 (Or.inr (by decide))); have := (mUp_no e4502 e4444 (Or.inr (by decide))); have := (mUp_no e4502 e4436 (Or.inr (by decide))); omega, by have := (mUp_no e4502 e4440 (Or.inr (by decide))); have := (mUp_no e4502 e4444 (Or.inr (by decide))); omega, by have := (mUp_no e4502 e4448 (Or.inr (by decide))); have := (mUp_no e4502 e4436 (Or.inr (by decide))); omega, by have := (mUp_at e4502); omega, by have := (mUp_no e4502 e4456 (Or.inr (by decide))); omega, by have := (mUp_no e4502 e4456 (Or.inr (by decide))); have := (mUp_no e4502 e4436 (Or.inr (by decide))); omega, by have := (mUp_no e4502 e4456 (Or.inr (by decide))); have := (mUp_no e4502 e4436 (Or.inr (by decide))); omega, by rw [(mUp_no e4502 e4448 (Or.inr (by decide))), (mUp_no e4502 e4424 (Or.inr (by decide))), (mUp_no e4502 e4436 (Or.inr (by decide))), (mUp_no e4502 e4456 (Or.inr (by decide)))]; exact RGX_c (OPX_2 ti4478 (by omega) (by omega)) rfl rfl rfl rfl rfl (OWe_sm (Sm.up e4502 g_739_51 rfl) (OWe_rf M4414)), (TK_sm (Sm.up e4502 g_739_51 rfl) pr4459), (GE_sm (Sm.up e4502 g_739_51 rfl) pr4498), (TXQ_sm (Sm.up e4502 g_739_51 rfl) pr4461), (TTP_sm (Sm.up e4502 g_739_51 rfl) pr4462)⟩)
        · intro h4503
          obtain ⟨k9, r9, r91, r92, r93⟩ := OPX_3 ti4478 (by omega) (by omega) (by omega)
          refine wk_al0 r116_157 ?_
          obtain ⟨v4504, e4505⟩ : ∃ v, M4414 739 35 = v := ⟨_, rfl⟩
          have h4506 := (bf_739_35 hP4415).1; rw [e4505] at h4506
          have h4507 := (bf_739_35 hP4415).2; rw [e4505] at h4507
          obtain ⟨v4508, e4509⟩ : ∃ v, M4414 739 36 = v := ⟨_, rfl⟩
          have h4510 := (bf_739_36 hP4415).1; rw [e4509] at h4510
          have h4511 := (bf_739_36 hP4415).2; rw [e4509] at h4511
          refine wk_cv1 r116_158 kc_739_47 rfl (n8047_739 _ M4414 x739_30 v4417 v4421 v4425 v4429 v4433 v4437 v4441 v4445 v4504 v4508 v4453 x739_38 s0 u0 T c0 z0 k9 hP4415 e4457 (by first | with_reducible assumption | omega) (by first | with_reducible assumption | omega) e4420 (by first | with_reducible assumption | omega) (by first | with_reducible assumption | omega) e4424 (by first | with_reducible assumption | omega) (by first | with_reducible assumption | omega) e4428 (by first | with_reducible assumption | omega) (by first | with_reducible assumption | omega) e4432 (by first | with_reducible assumption | omega) (by first | with_reducible assumption | omega) e4436 (by first | with_reducible assumption | omega) (by first | with_reducible assumption | omega) e4440 (by first | with_reducible assumption | omega) (by first | with_reducible assumption | omega) e4444 (by first | with_reducible assumption | omega) (by first | with_reducible assumption | omega) e4448 (by first | with_reducible assumption | omega) (by first | with_reducible assumption | omega) e4505 (by first | with_reducible assumption | omega) (by first | with_reducible assumption | omega) e4509 (by first | with_reducible assumption | omega) (by first | with_reducible assumption | omega) e4456 (by first | with_reducible assumption | omega) (by first | with_reducible assumption | omega) e4458 (by first | with_reducible assumption | omega) (by first | with_reducible assumption | omega) (by omega) (by omega) (by omega) (by omega) (by omega) (by omega) (by omega) (by omega) (r9) (r91) (r92) (r93) pr4459 (GE_of0 e4452 (by omega) pr4460) pr4461 pr4462) (cqV ?_)
          rintro M4512 ⟨hP4513, hQ4514, h4516, h4517, h4518, h4519, h4520, h4521, h4522, h4523, h4524, h4525, h4526, h4527, xh4528, pr4529, pr4530, pr4531, pr4532⟩
          have hF4515 : Fr fm_n8116_739 M0 M4512 := hF4416.tr hQ4514 rfl
          have e4533 := ((hQ4514.at g_739_30 rfl).trans e4457)
          obtain ⟨v4534, e4535⟩ : ∃ v, M4512 739 31 = v := ⟨_, rfl⟩
          have h4536 := (bf_739_31 hP4513).1; rw [e4535] at h4536
          have h4537 := (bf_739_31 hP4513).2; rw [e4535] at h4537
          obtain ⟨v4538, e4539⟩ : ∃ v, M4512 739 33 = v := ⟨_, rfl⟩
          have h4540 := (bf_739_33 hP4513).1; rw [e4539] at h4540
          have h4541 := (bf_739_33 hP4513).2; rw [e4539] at h4541
          obtain ⟨v4542, e4543⟩ : ∃ v, M4512 739 34 = v := ⟨_, rfl⟩
          have h4544 := (bf_739_34 hP4513).1; rw [e4543] at h4544
          have h4545 := (bf_739_34 hP4513).2; rw [e4543] at h4545
          obtain ⟨v4546, e4547⟩ : ∃ v, M4512 739 32 = v := ⟨_, rfl⟩
          have h4548 := (bf_739_32 hP4513).1; rw [e4547] at h4548
          have h4549 := (bf_739_32 hP4513).2; rw [e4547] at h4549
          obtain ⟨v4550, e4551⟩ : ∃ v, M4512 739 28 = v := ⟨_, rfl⟩
          have h4552 := (bf_739_28 hP4513).1; rw [e4551] at h4552
          have h4553 := (bf_739_28 hP4513).2; rw [e4551] at h4553
          have e4554 := ((hQ4514.at g_739_47 rfl).trans e4448)
          obtain ⟨v4555, e4556⟩ : ∃ v, M4512 739 45 = v := ⟨_, rfl⟩
          have h4557 := (bf_739_45 hP4513).1; rw [e4556] at h4557
          have h4558 := (bf_739_45 hP4513).2; rw [e4556] at h4558
          have e4559 := ((hQ4514.at g_739_46 rfl).trans e4444)
          obtain ⟨v4560, e4561⟩ : ∃ v, M4512 739 29 = v := ⟨_, rfl⟩
          have h4562 := (bf_739_29 hP4513).1; rw [e4561] at h4562
          have h4563 := (bf_739_29 hP4513).2; rw [e4561] at h4563
          refine wk_al0 r116_161 (wk_c1 r116_162 (wk_putfz81 r116_163 fd_739_51 (by decide) (wk_nw g_739_51 rfl hP4513 hF4515 (uf_739_51 (by decide)) ?_)))
          intro M4564 hP4565 hF4566 e4567
          subst hQ; exact wk_ret r116_166 (⟨rfl, hP4565, hF4566, by have := (mUp_no e4567 ((hQ4514.at g_739_30 rfl).trans e4457) (Or.inr (by decide))); have := (mUp_no e4567 e4535 (Or.inr (by decide))); omega, by have := (mUp_no e4567 e4535 (Or.inr (by decide))); have := (mUp_no e4567 e4539 (Or.inr (by decide))); have := (mUp_no e4567 e4543 (Or.inr (by decide))); omega, by have := (mUp_no e4567 e4535 (Or.inr (by decide))); have := (mUp_no e4567 e4539 (Or.inr (by decide))); have := (mUp_no e4567 e4543 (Or.inr (by decide))); omega, by have := (mUp_no e4567 e4543 (Or.inr (by decide))); have := (mUp_no e4567 e4547 (Or.inr (by decide))); omega, by have := (mUp_no e4567 e4539 (Or.inr (by decide))); omega, by have := (mUp_no e4567 e4551 (Or.inr (by decide))); omega, by have := (mUp_no e4567 e4539 (Or.inr (by decide))); have := (mUp_no e4567 ((hQ4514.at g_739_47 rfl).trans e4448) (Or.inr (by decide))); have := (mUp_no e4567 e4556 (Or.inr (by decide))); have := (mUp_no e4567 ((hQ4514.at g_739_46 rfl).trans e4444) (Or.inr (by decide))); have := (mUp_no e4567 e4551 (Or.inr (by decide))); omega, by have := (mUp_no e4567 e4556 (Or.inr (by decide))); have := (mUp_no e4567 ((hQ4514.at g_739_46 rfl).trans e4444) (Or.inr (by decide))); omega, by have := (mUp_no e4567 ((hQ4514.at g_739_47 rfl).trans e4448) (Or.inr (by decide))); have := (mUp_no e4567 e4551 (Or.inr (by decide))); omega, by have := (mUp_at e4567); omega, by have := (mUp_no e4567 e4561 (Or.inr (by decide))); omega, by have := (mUp_no e4567 e4561 (Or.inr (by decide))); have := (mUp_no e4567 e4551 (Or.inr (by decide))); omega, by have := (mUp_no e4567 e4561 (Or.inr (by decide))); have := (mUp_no e4567 e4551 (Or.inr (by decide))); omega, by rw [(mUp_no e4567 ((hQ4514.at g_739_47 rfl).trans e4448) (Or.inr (by decide))), (mUp_no e4567 e4539 (Or.inr (by decide))), (mUp_no e4567 e4551 (Or.inr (by decide))), (mUp_no e4567 e4561 (Or.inr (by decide)))]; exact RGX_c xh4528 (by omega) (by omega) rfl (by omega) (by omega) (OWe_sm (Sm.up e4567 g_739_51 rfl) (OWe_rf M4512)), (TK_sm (Sm.up e4567 g_739_51 rfl) pr4529), (GE_sm (Sm.up e4567 g_739_51 rfl) pr4530), (TXQ_sm (Sm.up e4567 g_739_51 rfl) pr4531), (TTP_sm (Sm.up e4567 g_739_51 rfl) pr4532)⟩)
    · intro h4568
      refine wk_al0 r116_6 (wk_cv1 r116_7 kc_739_84 rfl (n8084_739 _ M4414 v4433 hP4415 e4436 (by first | with_reducible assumption | omega) (by first | with_reducible assumption | omega)) (cqI ?_))
      rintro v4575 M4569 ⟨hP4570, hQ4571, h4576, h4577, h4573, h4574⟩
      obtain rfl := Fr.same hQ4571
      have e4578 := e4436
      refine wk_ifeq r116_10 ⟨by omega, by omega⟩ ?_ ?_
      · intro h4579
        refine wk_al0 r116_143 (wk_cv1 r116_144 kc_739_84 rfl (n8084_739 _ M4414 v4433 hP4415 e4436 (by first | with_reducible assumption | omega) (by first | with_reducible assumption | omega)) (cqI ?_))
        rintro v4586 M4580 ⟨hP4581, hQ4582, h4587, h4588, h4584, h4585⟩
        obtain rfl := Fr.same hQ4582
        have e4589 := e4436
        refine wk_ifeq r116_147 ⟨by omega, by omega⟩ ?_ ?_
        · intro h4590
          have pr4591 : GE M4414 s0 u0 1 0 := (GE_vac e4436 (by omega))
          refine wk_al0 r116_161 (wk_c1 r116_162 (wk_putfz81 r116_163 fd_739_51 (by decide) (wk_nw g_739_51 rfl hP4415 hF4416 (uf_739_51 (by decide)) ?_)))
          intro M4592 hP4593 hF4594 e4595
          subst hQ; exact wk_ret r116_166 (⟨rfl, hP4593, hF4594, by have := (mUp_no e4595 e4457 (Or.inr (by decide))); have := (mUp_no e4595 e4420 (Or.inr (by decide))); omega, by have := (mUp_no e4595 e4420 (Or.inr (by decide))); have := (mUp_no e4595 e4424 (Or.inr (by decide))); have := (mUp_no e4595 e4428 (Or.inr (by decide))); omega, by have := (mUp_no e4595 e4420 (Or.inr (by decide))); have := (mUp_no e4595 e4424 (Or.inr (by decide))); have := (mUp_no e4595 e4428 (Or.inr (by decide))); omega, by have := (mUp_no e4595 e4428 (Or.inr (by decide))); have := (mUp_no e4595 e4432 (Or.inr (by decide))); omega, by have := (mUp_no e4595 e4424 (Or.inr (by decide))); omega, by have := (mUp_no e4595 e4436 (Or.inr (by decide))); omega, by have := (mUp_no e4595 e4424 (Or.inr (by decide))); have := (mUp_no e4595 e4448 (Or.inr (by decide))); have := (mUp_no e4595 e4440 (Or.inr (by decide))); have := (mUp_no e4595 e4444 (Or.inr (by decide))); have := (mUp_no e4595 e4436 (Or.inr (by decide))); omega, by have := (mUp_no e4595 e4440 (Or.inr (by decide))); have := (mUp_no e4595 e4444 (Or.inr (by decide))); omega, by have := (mUp_no e4595 e4448 (Or.inr (by decide))); have := (mUp_no e4595 e4436 (Or.inr (by decide))); omega, by have := (mUp_at e4595); omega, by have := (mUp_no e4595 e4456 (Or.inr (by decide))); omega, by have := (mUp_no e4595 e4456 (Or.inr (by decide))); have := (mUp_no e4595 e4436 (Or.inr (by decide))); omega, by have := (mUp_no e4595 e4456 (Or.inr (by decide))); have := (mUp_no e4595 e4436 (Or.inr (by decide))); omega, by rw [(mUp_no e4595 e4448 (Or.inr (by decide))), (mUp_no e4595 e4424 (Or.inr (by decide))), (mUp_no e4595 e4436 (Or.inr (by decide))), (mUp_no e4595 e4456 (Or.inr (by decide)))]; exact OPX_f ti4478 (by omega), (TK_sm (Sm.up e4595 g_739_51 rfl) pr4459), (GE_sm (Sm.up e4595 g_739_51 rfl) pr4591), (TXQ_sm (Sm.up e4595 g_739_51 rfl) pr4461), (TTP_sm (Sm.up e4595 g_739_51 rfl) pr4462)⟩)
        · intro h4596
          exfalso
          omega
      · intro h4597
        refine wk_c1 r116_13 (wk_is2 r116_14 rfl ?_)
        have c15_5006 : ∀ (k5006 : Nat) (M4601 : Mm) (v4598 : Int) (v4604 : Int) (v4608 : Int) (v4612 : Int) (v4616 : Int) (v4620 : Int) (v4624 : Int) (v4628 : Int), (10 * (501 - v4608) + (6 - v4620)).toNat = k5006 → Pw M4601 → Fr fm_n8116_739 M0 M4601 → M4601 739 31 = v4604 → M4601 739 33 = v4608 → M4601 739 34 = v4612 → M4601 739 32 = v4616 → M4601 739 28 = v4620 → M4601 739 46 = v4624 → M4601 739 29 = v4628 → M4601 739 45 = v4437 → M4601 739 47 = v4445 → M4601 739 51 = v4449 → M4601 739 30 = x739_30 → M4601 739 38 = x739_38 → 0 ≤ v4598 → v4598 ≤ 7 → 0 ≤ v4604 → v4604 ≤ 500 → 0 ≤ v4608 → v4608 ≤ 500 → 0 ≤ v4612 → v4612 ≤ 500 → 0 ≤ v4616 → v4616 ≤ 4 → 0 ≤ v4620 → v4620 ≤ 6 → 0 ≤ v4624 → v4624 ≤ 253 → (-1) ≤ v4628 → v4628 ≤ 501 → (TK M4601) → (GH M4601 s0 u0) → (TXQ T M4601) → (TTP T M4601) → 0 ≤ 1 * x739_30 + (-1) * v4604 → 0 ≤ 1 * v4604 + (-1) * v4608 + (-1) * v4612 → 0 ≤ (-1) * v4604 + 1 * v4608 + 1 * v4612 → 0 ≤ 4 * v4612 + (-1) * v4616 → 0 ≤ 1 * v4608 + 1 * v4445 + (-2) * v4437 + (-2) * v4624 + 3000 * v4620 → 0 ≤ (-2) * v4437 + (-2) * v4624 + 520 → 0 ≤ (-1) * v4445 + 1 * v4620 + 6 → 0 ≤ 1 * v4608 + (-1) * x739_33 → 0 ≤ 1 * v4620 + (-1) * x739_28 → 0 ≤ (-1) * v4598 + 1 * v4620 + 6 → 0 ≤ (-1) * x739_38 + 7 + 3000 * v4620 → 0 ≤ 1 * v4628 + (-1) * x739_29 + 3000 * v4620 → 0 ≤ (-1) * v4628 + 1 * x739_29 + 3000 * v4620 → 0 ≤ v4608 - v4421 → 0 ≤ v4620 - v4433 → (RGX T x739_30 x739_38 c0 z0 1 v4445 v4608 v4598 v4620 v4628 (OW M4601)) → Wp B (d + 5) 116 15 [some (R 739), none, some (I v4598)] [] M4601 Q := by
          refine lp_ind ?_
          intro k5006 ih5006 M4601 v4598 v4604 v4608 v4612 v4616 v4620 v4624 v4628 hk5006 hP4602 hF4603 e4607 e4611 e4615 e4619 e4623 e4627 e4631 e4632 e4633 e4634 e4635 e4636 h4599 h4600 h4605 h4606 h4609 h4610 h4613 h4614 h4617 h4618 h4621 h4622 h4625 h4626 h4629 h4630 pr4637 pr4638 pr4639 pr4640 h4641 h4642 h4643 h4644 h4645 h4646 h4647 h4648 h4649 h4650 h4651 h4652 h4653 h4654 h4655 ti4656
          refine wk_al0 r116_15 (wk_cv1 r116_16 kc_739_84 rfl (n8084_739 _ M4601 v4620 hP4602 e4623 (by first | with_reducible assumption | omega) (by first | with_reducible assumption | omega)) (cqI ?_))
          rintro v4663 M4657 ⟨hP4658, hQ4659, h4664, h4665, h4661, h4662⟩
          obtain rfl := Fr.same hQ4659
          have e4666 := e4623
          have c69_5005 : (v4620 ≠ 0 ∨ kw T x739_30 v4608 ≠ 14) → Wp B (d + 5) 116 69 [some (R 739), none, none] [] M4601 Q := by
            intro ti4770
            refine wk_al0 r116_69 (wk_cv1 r116_70 kc_739_84 rfl (n8084_739 _ M4601 v4620 hP4602 e4623 (by first | with_reducible assumption | omega) (by first | with_reducible assumption | omega)) (cqI ?_))
            rintro v4777 M4771 ⟨hP4772, hQ4773, h4778, h4779, h4775, h4776⟩
            obtain rfl := Fr.same hQ4773
            have e4780 := e4623
            refine wk_ifeq r116_73 ⟨by omega, by omega⟩ ?_ ?_
            · intro h4781
              refine wk_c1 r116_89 (wk_is1 r116_90 rfl (wk_il1 r116_91 ?_))
              refine wk_ifeq r116_92 (by decide) ?_ ?_
              · intro h4782
                refine wk_al0 r116_113 (wk_cv1 r116_114 kc_739_84 rfl (n8084_739 _ M4601 v4620 hP4602 e4623 (by first | with_reducible assumption | omega) (by first | with_reducible assumption | omega)) (cqI ?_))
                rintro v4789 M4783 ⟨hP4784, hQ4785, h4790, h4791, h4787, h4788⟩
                obtain rfl := Fr.same hQ4785
                have e4792 := e4623
                refine wk_ifeq r116_117 ⟨by omega, by omega⟩ ?_ ?_
                · intro h4793
                  refine wk_c1 r116_138 (wk_is1 r116_139 rfl (wk_goto r116_140 ?_))
                  exact wp_fg (le_s (le_s (le_s le_0))) (ih5007 (10 * (501 - v4608) + 0 + (6 - v4620)).toNat (by omega) M4601 0 v4604 v4608 v4612 v4616 v4620 v4437 v4624 v4445 v4449 v4628 rfl hP4602 hF4603 e4607 e4611 e4615 e4619 e4623 e4632 e4627 e4633 e4634 e4631 e4635 e4636 (by first | with_reducible assumption | omega) (by first | with_reducible assumption | omega) (by first | with_reducible assumption | omega) (by first | with_reducible assumption | omega) (by first | with_reducible assumption | omega) (by first | with_reducible assumption | omega) (by first | with_reducible assumption | omega) (by first | with_reducible assumption | omega) (by first | with_reducible assumption | omega) (by first | with_reducible assumption | omega) (by first | with_reducible assumption | omega) (by first | with_reducible assumption | omega) (by first | with_reducible assumption | omega) (by first | with_reducible assumption | omega) (by first | with_reducible assumption | omega) (by first | with_reducible assumption | omega) (by first | with_reducible assumption | omega) (by first | with_reducible assumption | omega) (by first | with_reducible assumption | omega) (by first | with_reducible assumption | omega) (by first | with_reducible assumption | omega) (by first | with_reducible assumption | omega) pr4637 pr4638 pr4639 pr4640 (by first | with_reducible assumption | omega) (by first | with_reducible assumption | omega) (by first | with_reducible assumption | omega) (by first | with_reducible assumption | omega) (by first | with_reducible assumption | omega) (by first | with_reducible assumption | omega) (by first | with_reducible assumption | omega) (by first | with_reducible assumption | omega) (by first | with_reducible assumption | omega) (by first | with_reducible assumption | omega) (by first | with_reducible assumption | omega) (by first | with_reducible assumption | omega) (by first | with_reducible assumption | omega) (by first | with_reducible assumption | omega) (by first | with_reducible assumption | omega) (OPX_c ti4656 (by omega) (Or.inl (by omega)) (OWe_rf M4601)))
                · intro h4794
                  exfalso
                  omega
              · intro h4795
                exfalso
                omega
            · intro h4796
              refine wk_al0 r116_76 (wk_c2 r116_77 ?_)
              obtain ⟨v4797, e4798⟩ : ∃ v, M4601 739 36 = v := ⟨_, rfl⟩
              have h4799 := (bf_739_36 hP4602).1; rw [e4798] at h4799
              have h4800 := (bf_739_36 hP4602).2; rw [e4798] at h4800
              refine wk_cv2 r116_79 kc_739_88 rfl (n8088_739 _ M4601 40 v4616 v4797 x739_30 v4608 T hP4602 (by decide) (by decide) e4619 (by first | with_reducible assumption | omega) (by first | with_reducible assumption | omega) e4798 (by first | with_reducible assumption | omega) (by first | with_reducible assumption | omega) e4635 (by first | with_reducible assumption | omega) (by first | with_reducible assumption | omega) e4611 (by first | with_reducible assumption | omega) (by first | with_reducible assumption | omega) pr4640) (cqI ?_)
              rintro v4809 M4801 ⟨hP4802, hQ4803, h4810, h4811, h4805, h4806, h4807, xh4808⟩
              obtain rfl := Fr.same hQ4803
              have e4812 := e4619
              have e4813 := e4798
              refine wk_ifeq r116_82 ⟨by omega, by omega⟩ ?_ ?_
              · intro h4814
                clear h4805 h4806 h4807
                refine wk_c1 r116_89 (wk_is1 r116_90 rfl (wk_il1 r116_91 ?_))
                refine wk_ifeq r116_92 (by decide) ?_ ?_
                · intro h4815
                  refine wk_al0 r116_113 (wk_cv1 r116_114 kc_739_84 rfl (n8084_739 _ M4601 v4620 hP4602 e4623 (by first | with_reducible assumption | omega) (by first | with_reducible assumption | omega)) (cqI ?_))
                  rintro v4822 M4816 ⟨hP4817, hQ4818, h4823, h4824, h4820, h4821⟩
                  obtain rfl := Fr.same hQ4818
                  have e4825 := e4623
                  refine wk_ifeq r116_117 ⟨by omega, by omega⟩ ?_ ?_
                  · intro h4826
                    exfalso
                    omega
                  · intro h4827
                    refine wk_al0 r116_120 (wk_cv1 r116_121 kc_739_86 rfl (n8086_739 _ M4601 v4616 v4612 x739_30 v4608 T hP4602 e4619 (by first | with_reducible assumption | omega) (by first | with_reducible assumption | omega) e4615 (by first | with_reducible assumption | omega) (by first | with_reducible assumption | omega) e4635 (by first | with_reducible assumption | omega) (by first | with_reducible assumption | omega) e4611 (by first | with_reducible assumption | omega) (by first | with_reducible assumption | omega) pr4640) (cqI ?_))
                    rintro v4837 M4828 ⟨hP4829, hQ4830, h4838, h4839, h4832, h4833, h4834, h4835, xh4836⟩
                    obtain rfl := Fr.same hQ4830
                    have e4840 := e4615
                    have e4841 := e4619
                    refine wk_ifeq r116_124 ⟨by omega, by omega⟩ ?_ ?_
                    · intro h4842
                      clear h4832 h4833 h4834 h4835
                      refine wk_c1 r116_138 (wk_is1 r116_139 rfl (wk_goto r116_140 ?_))
                      exact wp_fg (le_s (le_s (le_s le_0))) (ih5007 (10 * (501 - v4608) + 0 + (6 - v4620)).toNat (by omega) M4601 0 v4604 v4608 v4612 v4616 v4620 v4437 v4624 v4445 v4449 v4628 rfl hP4602 hF4603 e4607 e4611 e4615 e4619 e4623 e4632 e4627 e4633 e4634 e4631 e4635 e4636 (by first | with_reducible assumption | omega) (by first | with_reducible assumption | omega) (by first | with_reducible assumption | omega) (by first | with_reducible assumption | omega) (by first | with_reducible assumption | omega) (by first | with_reducible assumption | omega) (by first | with_reducible assumption | omega) (by first | with_reducible assumption | omega) (by first | with_reducible assumption | omega) (by first | with_reducible assumption | omega) (by first | with_reducible assumption | omega) (by first | with_reducible assumption | omega) (by first | with_reducible assumption | omega) (by first | with_reducible assumption | omega) (by first | with_reducible assumption | omega) (by first | with_reducible assumption | omega) (by first | with_reducible assumption | omega) (by first | with_reducible assumption | omega) (by first | with_reducible assumption | omega) (by first | with_reducible assumption | omega) (by first | with_reducible assumption | omega) (by first | with_reducible assumption | omega) pr4637 pr4638 pr4639 pr4640 (by first | with_reducible assumption | omega) (by first | with_reducible assumption | omega) (by first | with_reducible assumption | omega) (by first | with_reducible assumption | omega) (by first | with_reducible assumption | omega) (by first | with_reducible assumption | omega) (by first | with_reducible assumption | omega) (by first | with_reducible assumption | omega) (by first | with_reducible assumption | omega) (by first | with_reducible assumption | omega) (by first | with_reducible assumption | omega) (by first | with_reducible assumption | omega) (by first | with_reducible assumption | omega) (by first | with_reducible assumption | omega) (by first | with_reducible assumption | omega) (OPX_c ti4656 (by omega) (Or.inr ⟨by omega, by omega, by omega, by omega, by omega⟩) (OWe_rf M4601)))
                    · intro h4843
                      replace h4832 := h4832 (z1_of h4838 h4839 h4843)
                      replace h4833 := h4833 (z1_of h4838 h4839 h4843)
                      replace h4834 := h4834 (z1_of h4838 h4839 h4843)
                      replace h4835 := h4835 (z1_of h4838 h4839 h4843)
                      refine wk_al0 r116_127 (wk_cv1 r116_128 kc_739_112 rfl (n8112_739 _ M4601 x739_30 v4604 v4608 v4612 v4616 v4620 v4437 v4624 v4445 x739_38 v4797 v4449 v4628 s0 u0 T c0 z0 v4598 hP4602 e4635 (by first | with_reducible assumption | omega) (by first | with_reducible assumption | omega) e4607 (by first | with_reducible assumption | omega) (by first | with_reducible assumption | omega) e4611 (by first | with_reducible assumption | omega) (by first | with_reducible assumption | omega) e4615 (by first | with_reducible assumption | omega) (by first | with_reducible assumption | omega) e4619 (by first | with_reducible assumption | omega) (by first | with_reducible assumption | omega) e4623 (by first | with_reducible assumption | omega) (by first | with_reducible assumption | omega) e4632 (by first | with_reducible assumption | omega) (by first | with_reducible assumption | omega) e4627 (by first | with_reducible assumption | omega) (by first | with_reducible assumption | omega) e4633 (by first | with_reducible assumption | omega) (by first | with_reducible assumption | omega) e4636 (by first | with_reducible assumption | omega) (by first | with_reducible assumption | omega) e4798 (by first | with_reducible assumption | omega) (by first | with_reducible assumption | omega) e4634 (by first | with_reducible assumption | omega) (by first | with_reducible assumption | omega) e4631 (by first | with_reducible assumption | omega) (by first | with_reducible assumption | omega) (by omega) (by omega) (by omega) (by omega) (by omega) (by omega) (by omega) (by omega) (by omega) (by omega) (RGX_g ti4656 (by omega)) pr4637 (GE_of0 e4634 (by omega) pr4638) pr4639 pr4640) (cqI ?_))
                      rintro v4868 M4844 ⟨hP4845, hQ4846, h4869, h4870, h4848, h4849, h4850, h4851, h4852, h4853, h4854, h4855, h4856, h4857, h4858, h4859, h4860, h4861, h4862, xh4863, pr4864, pr4865, pr4866, pr4867⟩
                      have hF4847 : Fr fm_n8116_739 M0 M4844 := hF4603.tr hQ4846 rfl
                      have e4871 := ((hQ4846.at g_739_30 rfl).trans e4635)
                      obtain ⟨v4872, e4873⟩ : ∃ v, M4844 739 31 = v := ⟨_, rfl⟩
                      have h4874 := (bf_739_31 hP4845).1; rw [e4873] at h4874
                      have h4875 := (bf_739_31 hP4845).2; rw [e4873] at h4875
                      obtain ⟨v4876, e4877⟩ : ∃ v, M4844 739 33 = v := ⟨_, rfl⟩
                      have h4878 := (bf_739_33 hP4845).1; rw [e4877] at h4878
                      have h4879 := (bf_739_33 hP4845).2; rw [e4877] at h4879
                      obtain ⟨v4880, e4881⟩ : ∃ v, M4844 739 34 = v := ⟨_, rfl⟩
                      have h4882 := (bf_739_34 hP4845).1; rw [e4881] at h4882
                      have h4883 := (bf_739_34 hP4845).2; rw [e4881] at h4883
                      obtain ⟨v4884, e4885⟩ : ∃ v, M4844 739 32 = v := ⟨_, rfl⟩
                      have h4886 := (bf_739_32 hP4845).1; rw [e4885] at h4886
                      have h4887 := (bf_739_32 hP4845).2; rw [e4885] at h4887
                      obtain ⟨v4888, e4889⟩ : ∃ v, M4844 739 28 = v := ⟨_, rfl⟩
                      have h4890 := (bf_739_28 hP4845).1; rw [e4889] at h4890
                      have h4891 := (bf_739_28 hP4845).2; rw [e4889] at h4891
                      obtain ⟨v4892, e4893⟩ : ∃ v, M4844 739 47 = v := ⟨_, rfl⟩
                      have h4894 := (bf_739_47 hP4845).1; rw [e4893] at h4894
                      have h4895 := (bf_739_47 hP4845).2; rw [e4893] at h4895
                      obtain ⟨v4896, e4897⟩ : ∃ v, M4844 739 45 = v := ⟨_, rfl⟩
                      have h4898 := (bf_739_45 hP4845).1; rw [e4897] at h4898
                      have h4899 := (bf_739_45 hP4845).2; rw [e4897] at h4899
                      obtain ⟨v4900, e4901⟩ : ∃ v, M4844 739 46 = v := ⟨_, rfl⟩
                      have h4902 := (bf_739_46 hP4845).1; rw [e4901] at h4902
                      have h4903 := (bf_739_46 hP4845).2; rw [e4901] at h4903
                      obtain ⟨v4904, e4905⟩ : ∃ v, M4844 739 51 = v := ⟨_, rfl⟩
                      have h4906 := (bf_739_51 hP4845).1; rw [e4905] at h4906
                      have h4907 := (bf_739_51 hP4845).2; rw [e4905] at h4907
                      obtain ⟨v4908, e4909⟩ : ∃ v, M4844 739 29 = v := ⟨_, rfl⟩
                      have h4910 := (bf_739_29 hP4845).1; rw [e4909] at h4910
                      have h4911 := (bf_739_29 hP4845).2; rw [e4909] at h4911
                      refine wk_ifeq r116_131 ⟨by omega, by omega⟩ ?_ ?_
                      · intro h4912
                        refine wk_c1 r116_138 (wk_is1 r116_139 rfl (wk_goto r116_140 ?_))
                        exact wp_fg (le_s (le_s (le_s le_0))) (ih5007 (10 * (501 - v4876) + 0 + (6 - v4888)).toNat (by omega) M4844 0 v4872 v4876 v4880 v4884 v4888 v4896 v4900 v4892 v4904 v4908 rfl hP4845 hF4847 e4873 e4877 e4881 e4885 e4889 e4897 e4901 e4893 e4905 e4909 ((hQ4846.at g_739_30 rfl).trans e4635) ((hQ4846.at g_739_38 rfl).trans e4636) (by first | with_reducible assumption | omega) (by first | with_reducible assumption | omega) (by first | with_reducible assumption | omega) (by first | with_reducible assumption | omega) (by first | with_reducible assumption | omega) (by first | with_reducible assumption | omega) (by first | with_reducible assumption | omega) (by first | with_reducible assumption | omega) (by first | with_reducible assumption | omega) (by first | with_reducible assumption | omega) (by first | with_reducible assumption | omega) (by first | with_reducible assumption | omega) (by first | with_reducible assumption | omega) (by first | with_reducible assumption | omega) (by first | with_reducible assumption | omega) (by first | with_reducible assumption | omega) (by first | with_reducible assumption | omega) (by first | with_reducible assumption | omega) (by first | with_reducible assumption | omega) (by first | with_reducible assumption | omega) (by first | with_reducible assumption | omega) (by first | with_reducible assumption | omega) pr4864 pr4865 pr4866 pr4867 (by first | with_reducible assumption | omega) (by first | with_reducible assumption | omega) (by first | with_reducible assumption | omega) (by first | with_reducible assumption | omega) (by first | with_reducible assumption | omega) (by first | with_reducible assumption | omega) (by first | with_reducible assumption | omega) (by first | with_reducible assumption | omega) (by first | with_reducible assumption | omega) (by first | with_reducible assumption | omega) (by first | with_reducible assumption | omega) (by first | with_reducible assumption | omega) (by first | with_reducible assumption | omega) (by first | with_reducible assumption | omega) (by first | with_reducible assumption | omega) (OPX_b (RGX_c (or_r xh4863 (by omega)) (by omega) (by omega) rfl (by omega) (by omega) rfl) (by omega) (by omega)))
                      · intro h4913
                        refine wk_c1 r116_134 (wk_goto r116_135 (wk_is1 r116_139 rfl (wk_goto r116_140 ?_)))
                        exact wp_fg (le_s (le_s (le_s le_0))) (ih5007 (10 * (501 - v4876) + 1 + (6 - v4888)).toNat (by omega) M4844 1 v4872 v4876 v4880 v4884 v4888 v4896 v4900 v4892 v4904 v4908 rfl hP4845 hF4847 e4873 e4877 e4881 e4885 e4889 e4897 e4901 e4893 e4905 e4909 ((hQ4846.at g_739_30 rfl).trans e4635) ((hQ4846.at g_739_38 rfl).trans e4636) (by first | with_reducible assumption | omega) (by first | with_reducible assumption | omega) (by first | with_reducible assumption | omega) (by first | with_reducible assumption | omega) (by first | with_reducible assumption | omega) (by first | with_reducible assumption | omega) (by first | with_reducible assumption | omega) (by first | with_reducible assumption | omega) (by first | with_reducible assumption | omega) (by first | with_reducible assumption | omega) (by first | with_reducible assumption | omega) (by first | with_reducible assumption | omega) (by first | with_reducible assumption | omega) (by first | with_reducible assumption | omega) (by first | with_reducible assumption | omega) (by first | with_reducible assumption | omega) (by first | with_reducible assumption | omega) (by first | with_reducible assumption | omega) (by first | with_reducible assumption | omega) (by first | with_reducible assumption | omega) (by first | with_reducible assumption | omega) (by first | with_reducible assumption | omega) pr4864 pr4865 pr4866 pr4867 (by first | with_reducible assumption | omega) (by first | with_reducible assumption | omega) (by first | with_reducible assumption | omega) (by first | with_reducible assumption | omega) (by first | with_reducible assumption | omega) (by first | with_reducible assumption | omega) (by first | with_reducible assumption | omega) (by first | with_reducible assumption | omega) (by first | with_reducible assumption | omega) (by first | with_reducible assumption | omega) (by first | with_reducible assumption | omega) (by first | with_reducible assumption | omega) (by first | with_reducible assumption | omega) (by first | with_reducible assumption | omega) (by first | with_reducible assumption | omega) (OPX_a (RGX_c (or_l xh4863 (by omega)) (by omega) (by omega) rfl (by omega) (by omega) rfl) (by omega)))
                · intro h4914
                  exfalso
                  omega
              · intro h4915
                replace h4805 := h4805 (z1_of h4810 h4811 h4915)
                replace h4806 := h4806 (z1_of h4810 h4811 h4915)
                replace h4807 := h4807 (z1_of h4810 h4811 h4915)
                refine wk_c1 r116_85 (wk_goto r116_86 (wk_is1 r116_90 rfl (wk_il1 r116_91 ?_)))
                refine wk_ifeq r116_92 (by decide) ?_ ?_
                · intro h4916
                  exfalso
                  omega
                · intro h4917
                  refine wk_al0 r116_95 (wk_c2 r116_96 (wk_c1 r116_98 (wk_cv3 r116_99 kc_739_133 rfl (n8133_739 _ M4601 14 0 v4624 hP4602 (by decide) (by decide) (by decide) (by decide) e4627 (by first | with_reducible assumption | omega) (by first | with_reducible assumption | omega)) (cqV ?_))))
                  rintro M4918 ⟨hP4919, hQ4920, h4922, h4923, xh4924⟩
                  have hF4921 : Fr fm_n8116_739 M0 M4918 := hF4603.tr hQ4920 rfl
                  obtain ⟨v4925, e4926⟩ : ∃ v, M4918 739 46 = v := ⟨_, rfl⟩
                  have h4927 := (bf_739_46 hP4919).1; rw [e4926] at h4927
                  have h4928 := (bf_739_46 hP4919).2; rw [e4926] at h4928
                  have pr4929 : GE M4918 s0 u0 0 1 := GE_par xh4924 (GE_of0 e4634 (by omega) pr4638) (by omega)
                  have pr4930 : OWe M4918 ((OW M4601).1, (14) :: (OW M4601).2) := OWe_c (OWe_wai (OWe_rf M4601) xh4924 (bf_739_46 hP4602).1) (by show ((OW M4601).1, _ :: (OW M4601).2) = ((OW M4601).1, _ :: (OW M4601).2); congr 2 <;> omega)
                  refine wk_al0 r116_102 (wk_cv1 r116_103 kc_739_76 rfl (n8076_739 _ M4918 x739_30 v4604 T hP4919 ((hQ4920.at g_739_30 rfl).trans e4635) (by first | with_reducible assumption | omega) (by first | with_reducible assumption | omega) ((hQ4920.at g_739_31 rfl).trans e4607) (by first | with_reducible assumption | omega) (by first | with_reducible assumption | omega) (by omega) (TXQ_sm (Sm.fr hQ4920 rfl) pr4639)) (cqV ?_))
                  rintro M4931 ⟨hP4932, hQ4933, h4935, h4936, h4937, h4938, h4939, xh4940, pr4941, pr4942, pr4943⟩
                  have hF4934 : Fr fm_n8116_739 M0 M4931 := hF4921.tr hQ4933 rfl
                  have e4944 := ((hQ4933.at g_739_30 rfl).trans ((hQ4920.at g_739_30 rfl).trans e4635))
                  obtain ⟨v4945, e4946⟩ : ∃ v, M4931 739 31 = v := ⟨_, rfl⟩
                  have h4947 := (bf_739_31 hP4932).1; rw [e4946] at h4947
                  have h4948 := (bf_739_31 hP4932).2; rw [e4946] at h4948
                  obtain ⟨v4949, e4950⟩ : ∃ v, M4931 739 33 = v := ⟨_, rfl⟩
                  have h4951 := (bf_739_33 hP4932).1; rw [e4950] at h4951
                  have h4952 := (bf_739_33 hP4932).2; rw [e4950] at h4952
                  obtain ⟨v4953, e4954⟩ : ∃ v, M4931 739 34 = v := ⟨_, rfl⟩
                  have h4955 := (bf_739_34 hP4932).1; rw [e4954] at h4955
                  have h4956 := (bf_739_34 hP4932).2; rw [e4954] at h4956
                  obtain ⟨v4957, e4958⟩ : ∃ v, M4931 739 32 = v := ⟨_, rfl⟩
                  have h4959 := (bf_739_32 hP4932).1; rw [e4958] at h4959
                  have h4960 := (bf_739_32 hP4932).2; rw [e4958] at h4960
                  have hn4961 := nx_ofm (TTP_sm (Sm.fr hQ4920 rfl) pr4640) ((hQ4920.at g_739_30 rfl).trans e4635) ((hQ4920.at g_739_33 rfl).trans e4611) ((hQ4920.at g_739_31 rfl).trans e4607) xh4940
                  refine wk_al0 r116_106 (wk_cv1 r116_107 kc_739_62 rfl (n8062_739 _ M4931 x739_30 v4945 v4949 v4953 v4957 v4620 v4437 v4925 v4445 v4628 x739_38 s0 u0 T c0 z0 hP4932 ((hQ4933.at g_739_30 rfl).trans ((hQ4920.at g_739_30 rfl).trans e4635)) (by first | with_reducible assumption | omega) (by first | with_reducible assumption | omega) e4946 (by first | with_reducible assumption | omega) (by first | with_reducible assumption | omega) e4950 (by first | with_reducible assumption | omega) (by first | with_reducible assumption | omega) e4954 (by first | with_reducible assumption | omega) (by first | with_reducible assumption | omega) e4958 (by first | with_reducible assumption | omega) (by first | with_reducible assumption | omega) ((hQ4933.at g_739_28 rfl).trans ((hQ4920.at g_739_28 rfl).trans e4623)) (by first | with_reducible assumption | omega) (by first | with_reducible assumption | omega) ((hQ4933.at g_739_45 rfl).trans ((hQ4920.at g_739_45 rfl).trans e4632)) (by first | with_reducible assumption | omega) (by first | with_reducible assumption | omega) ((hQ4933.at g_739_46 rfl).trans e4926) (by first | with_reducible assumption | omega) (by first | with_reducible assumption | omega) ((hQ4933.at g_739_47 rfl).trans ((hQ4920.at g_739_47 rfl).trans e4633)) (by first | with_reducible assumption | omega) (by first | with_reducible assumption | omega) ((hQ4933.at g_739_29 rfl).trans ((hQ4920.at g_739_29 rfl).trans e4631)) (by first | with_reducible assumption | omega) (by first | with_reducible assumption | omega) ((hQ4933.at g_739_38 rfl).trans ((hQ4920.at g_739_38 rfl).trans e4636)) (by first | with_reducible assumption | omega) (by first | with_reducible assumption | omega) (by omega) (by omega) (by omega) (by omega) (by omega) (by omega) (o95x ti4656 (by omega) (by omega) (by omega) (by omega) (OWe_sm (Sm.fr hQ4933 rfl) pr4930)) pr4941 (GE_sm (Sm.fr hQ4933 rfl) pr4929) pr4942 pr4943) (cqV ?_))
                  rintro M4962 ⟨hP4963, hQ4964, h4966, h4967, h4968, h4969, h4970, h4971, h4972, h4973, h4974, h4975, h4976, h4977, h4978, h4979, h4980, xh4981, pr4982, pr4983, pr4984, pr4985⟩
                  have hF4965 : Fr fm_n8116_739 M0 M4962 := hF4934.tr hQ4964 rfl
                  have e4986 := ((hQ4964.at g_739_30 rfl).trans ((hQ4933.at g_739_30 rfl).trans ((hQ4920.at g_739_30 rfl).trans e4635)))
                  have e4987 := ((hQ4964.at g_739_31 rfl).trans e4946)
                  have e4988 := ((hQ4964.at g_739_33 rfl).trans e4950)
                  have e4989 := ((hQ4964.at g_739_34 rfl).trans e4954)
                  have e4990 := ((hQ4964.at g_739_32 rfl).trans e4958)
                  obtain ⟨v4991, e4992⟩ : ∃ v, M4962 739 28 = v := ⟨_, rfl⟩
                  have h4993 := (bf_739_28 hP4963).1; rw [e4992] at h4993
                  have h4994 := (bf_739_28 hP4963).2; rw [e4992] at h4994
                  have e4995 := ((hQ4964.at g_739_45 rfl).trans ((hQ4933.at g_739_45 rfl).trans ((hQ4920.at g_739_45 rfl).trans e4632)))
                  have e4996 := ((hQ4964.at g_739_46 rfl).trans ((hQ4933.at g_739_46 rfl).trans e4926))
                  obtain ⟨v4997, e4998⟩ : ∃ v, M4962 739 47 = v := ⟨_, rfl⟩
                  have h4999 := (bf_739_47 hP4963).1; rw [e4998] at h4999
                  have h5000 := (bf_739_47 hP4963).2; rw [e4998] at h5000
                  obtain ⟨v5001, e5002⟩ : ∃ v, M4962 739 29 = v := ⟨_, rfl⟩
                  have h5003 := (bf_739_29 hP4963).1; rw [e5002] at h5003
                  have h5004 := (bf_739_29 hP4963).2; rw [e5002] at h5004
                  refine wk_goto r116_110 ?_
                  exact wp_fg (le_s (le_s (le_s le_0))) (ih5007 (10 * (501 - v4949) + 1 + (6 - v4991)).toNat (by omega) M4962 1 v4945 v4949 v4953 v4957 v4991 v4437 v4925 v4997 v4449 v5001 rfl hP4963 hF4965 ((hQ4964.at g_739_31 rfl).trans e4946) ((hQ4964.at g_739_33 rfl).trans e4950) ((hQ4964.at g_739_34 rfl).trans e4954) ((hQ4964.at g_739_32 rfl).trans e4958) e4992 ((hQ4964.at g_739_45 rfl).trans ((hQ4933.at g_739_45 rfl).trans ((hQ4920.at g_739_45 rfl).trans e4632))) ((hQ4964.at g_739_46 rfl).trans ((hQ4933.at g_739_46 rfl).trans e4926)) e4998 ((hQ4964.at g_739_51 rfl).trans ((hQ4933.at g_739_51 rfl).trans ((hQ4920.at g_739_51 rfl).trans e4634))) e5002 ((hQ4964.at g_739_30 rfl).trans ((hQ4933.at g_739_30 rfl).trans ((hQ4920.at g_739_30 rfl).trans e4635))) ((hQ4964.at g_739_38 rfl).trans ((hQ4933.at g_739_38 rfl).trans ((hQ4920.at g_739_38 rfl).trans e4636))) (by first | with_reducible assumption | omega) (by first | with_reducible assumption | omega) (by first | with_reducible assumption | omega) (by first | with_reducible assumption | omega) (by first | with_reducible assumption | omega) (by first | with_reducible assumption | omega) (by first | with_reducible assumption | omega) (by first | with_reducible assumption | omega) (by first | with_reducible assumption | omega) (by first | with_reducible assumption | omega) (by first | with_reducible assumption | omega) (by first | with_reducible assumption | omega) (by first | with_reducible assumption | omega) (by first | with_reducible assumption | omega) (by first | with_reducible assumption | omega) (by first | with_reducible assumption | omega) (by first | with_reducible assumption | omega) (by first | with_reducible assumption | omega) (by first | with_reducible assumption | omega) (by first | with_reducible assumption | omega) (by first | with_reducible assumption | omega) (by first | with_reducible assumption | omega) pr4982 (GH_of0 ((hQ4964.at g_739_51 rfl).trans ((hQ4933.at g_739_51 rfl).trans ((hQ4920.at g_739_51 rfl).trans e4634))) (by omega) pr4983) pr4984 pr4985 (by first | with_reducible assumption | omega) (by first | with_reducible assumption | omega) (by first | with_reducible assumption | omega) (by first | with_reducible assumption | omega) (by first | with_reducible assumption | omega) (by first | with_reducible assumption | omega) (by first | with_reducible assumption | omega) (by first | with_reducible assumption | omega) (by first | with_reducible assumption | omega) (by first | with_reducible assumption | omega) (by first | with_reducible assumption | omega) (by first | with_reducible assumption | omega) (by first | with_reducible assumption | omega) (by first | with_reducible assumption | omega) (by first | with_reducible assumption | omega) (OPX_a (RGX_c xh4981 (by omega) (by omega) rfl (by omega) (by omega) rfl) (by omega)))
          refine wk_ifeq r116_19 ⟨by omega, by omega⟩ ?_ ?_
          · intro h4667
            exact wp_fg (le_s (le_s (le_n le_0))) (c69_5005 (by omega))
          · intro h4668
            refine wk_al0 r116_22 (wk_cv1 r116_23 kc_739_97 rfl (n8097_739 _ M4601 v4616 v4612 x739_30 v4608 T hP4602 e4619 (by first | with_reducible assumption | omega) (by first | with_reducible assumption | omega) e4615 (by first | with_reducible assumption | omega) (by first | with_reducible assumption | omega) e4635 (by first | with_reducible assumption | omega) (by first | with_reducible assumption | omega) e4611 (by first | with_reducible assumption | omega) (by first | with_reducible assumption | omega) pr4637 pr4640) (cqI ?_))
            rintro v4675 M4669 ⟨hP4670, hQ4671, h4676, h4677, h4673, xh4674⟩
            obtain rfl := Fr.same hQ4671
            have e4678 := e4615
            refine wk_c2 r116_26 ?_
            refine wk_icne r116_28 ⟨by omega, by omega⟩ (by decide) ?_ ?_
            · intro h4679
              exact wp_fg (le_s (le_s (le_n le_0))) (c69_5005 (by omega))
            · intro h4680
              refine wk_il2 r116_31 (wk_c2 r116_32 ?_)
              refine wk_icne r116_34 ⟨by omega, by omega⟩ (by decide) ?_ ?_
              · intro h4681
                refine wk_inc2 r116_42 rfl (wk_al0 r116_45 (wk_cv1 r116_46 kc_739_84 rfl (n8084_739 _ M4601 v4620 hP4602 e4623 (by first | with_reducible assumption | omega) (by first | with_reducible assumption | omega)) (cqI ?_)))
                rintro v4688 M4682 ⟨hP4683, hQ4684, h4689, h4690, h4686, h4687⟩
                obtain rfl := Fr.same hQ4684
                have e4691 := e4623
                refine wk_ifne r116_49 ⟨by omega, by omega⟩ ?_ ?_
                · intro h4692
                  refine wk_al0 r116_55 (wk_c2 r116_56 (wk_c1 r116_58 (wk_cv3 r116_59 kc_739_133 rfl (n8133_739 _ M4601 10 0 v4624 hP4602 (by decide) (by decide) (by decide) (by decide) e4627 (by first | with_reducible assumption | omega) (by first | with_reducible assumption | omega)) (cqV ?_))))
                  rintro M4693 ⟨hP4694, hQ4695, h4697, h4698, xh4699⟩
                  have hF4696 : Fr fm_n8116_739 M0 M4693 := hF4603.tr hQ4695 rfl
                  obtain ⟨v4700, e4701⟩ : ∃ v, M4693 739 46 = v := ⟨_, rfl⟩
                  have h4702 := (bf_739_46 hP4694).1; rw [e4701] at h4702
                  have h4703 := (bf_739_46 hP4694).2; rw [e4701] at h4703
                  have pr4704 : GH M4693 s0 u0 := GH_no xh4699 pr4638 (by omega)
                  have pr4705 : OWe M4693 ((OW M4601).1, (10) :: (OW M4601).2) := OWe_c (OWe_wai (OWe_rf M4601) xh4699 (bf_739_46 hP4602).1) (by show ((OW M4601).1, _ :: (OW M4601).2) = ((OW M4601).1, _ :: (OW M4601).2); congr 2 <;> omega)
                  refine wk_al0 r116_62 (wk_cv1 r116_63 kc_739_76 rfl (n8076_739 _ M4693 x739_30 v4604 T hP4694 ((hQ4695.at g_739_30 rfl).trans e4635) (by first | with_reducible assumption | omega) (by first | with_reducible assumption | omega) ((hQ4695.at g_739_31 rfl).trans e4607) (by first | with_reducible assumption | omega) (by first | with_reducible assumption | omega) (by omega) (TXQ_sm (Sm.fr hQ4695 rfl) pr4639)) (cqV ?_))
                  rintro M4706 ⟨hP4707, hQ4708, h4710, h4711, h4712, h4713, h4714, xh4715, pr4716, pr4717, pr4718⟩
                  have hF4709 : Fr fm_n8116_739 M0 M4706 := hF4696.tr hQ4708 rfl
                  have e4719 := ((hQ4708.at g_739_30 rfl).trans ((hQ4695.at g_739_30 rfl).trans e4635))
                  obtain ⟨v4720, e4721⟩ : ∃ v, M4706 739 31 = v := ⟨_, rfl⟩
                  have h4722 := (bf_739_31 hP4707).1; rw [e4721] at h4722
                  have h4723 := (bf_739_31 hP4707).2; rw [e4721] at h4723
                  obtain ⟨v4724, e4725⟩ : ∃ v, M4706 739 33 = v := ⟨_, rfl⟩
                  have h4726 := (bf_739_33 hP4707).1; rw [e4725] at h4726
                  have h4727 := (bf_739_33 hP4707).2; rw [e4725] at h4727
                  obtain ⟨v4728, e4729⟩ : ∃ v, M4706 739 34 = v := ⟨_, rfl⟩
                  have h4730 := (bf_739_34 hP4707).1; rw [e4729] at h4730
                  have h4731 := (bf_739_34 hP4707).2; rw [e4729] at h4731
                  obtain ⟨v4732, e4733⟩ : ∃ v, M4706 739 32 = v := ⟨_, rfl⟩
                  have h4734 := (bf_739_32 hP4707).1; rw [e4733] at h4734
                  have h4735 := (bf_739_32 hP4707).2; rw [e4733] at h4735
                  have hn4736 := nx_ofm (TTP_sm (Sm.fr hQ4695 rfl) pr4640) ((hQ4695.at g_739_30 rfl).trans e4635) ((hQ4695.at g_739_33 rfl).trans e4611) ((hQ4695.at g_739_31 rfl).trans e4607) xh4715
                  refine wk_goto r116_66 ?_
                  exact wp_fg (le_s (le_s (le_s le_0))) (ih5006 (10 * (501 - v4724) + (6 - v4620)).toNat (by omega) M4706 (v4598 + 1) v4720 v4724 v4728 v4732 v4620 v4700 v4628 rfl hP4707 hF4709 e4721 e4725 e4729 e4733 ((hQ4708.at g_739_28 rfl).trans ((hQ4695.at g_739_28 rfl).trans e4623)) ((hQ4708.at g_739_46 rfl).trans e4701) ((hQ4708.at g_739_29 rfl).trans ((hQ4695.at g_739_29 rfl).trans e4631)) ((hQ4708.at g_739_45 rfl).trans ((hQ4695.at g_739_45 rfl).trans e4632)) ((hQ4708.at g_739_47 rfl).trans ((hQ4695.at g_739_47 rfl).trans e4633)) ((hQ4708.at g_739_51 rfl).trans ((hQ4695.at g_739_51 rfl).trans e4634)) ((hQ4708.at g_739_30 rfl).trans ((hQ4695.at g_739_30 rfl).trans e4635)) ((hQ4708.at g_739_38 rfl).trans ((hQ4695.at g_739_38 rfl).trans e4636)) (by first | with_reducible assumption | omega) (by first | with_reducible assumption | omega) (by first | with_reducible assumption | omega) (by first | with_reducible assumption | omega) (by first | with_reducible assumption | omega) (by first | with_reducible assumption | omega) (by first | with_reducible assumption | omega) (by first | with_reducible assumption | omega) (by first | with_reducible assumption | omega) (by first | with_reducible assumption | omega) (by first | with_reducible assumption | omega) (by first | with_reducible assumption | omega) (by first | with_reducible assumption | omega) (by first | with_reducible assumption | omega) (by first | with_reducible assumption | omega) (by first | with_reducible assumption | omega) pr4716 (GH_sm (Sm.fr hQ4708 rfl) pr4704) pr4717 pr4718 (by first | with_reducible assumption | omega) (by first | with_reducible assumption | omega) (by first | with_reducible assumption | omega) (by first | with_reducible assumption | omega) (by first | with_reducible assumption | omega) (by first | with_reducible assumption | omega) (by first | with_reducible assumption | omega) (by first | with_reducible assumption | omega) (by first | with_reducible assumption | omega) (by first | with_reducible assumption | omega) (by first | with_reducible assumption | omega) (by first | with_reducible assumption | omega) (by first | with_reducible assumption | omega) (by first | with_reducible assumption | omega) (by first | with_reducible assumption | omega) (o15x ti4656 (by omega) (by omega) (Or.inr ⟨by omega, by omega, by omega, by omega, (OWe_sm (Sm.fr hQ4708 rfl) pr4705)⟩)))
                · intro h4737
                  exfalso
                  omega
              · intro h4738
                refine wk_al0 r116_37 (wk_c1 r116_38 (wk_cv2 r116_39 kc_739_137 rfl (n8137_739 _ M4601 2 v4620 v4608 v4628 hP4602 (by decide) (by decide) e4623 (by first | with_reducible assumption | omega) (by first | with_reducible assumption | omega) e4611 (by first | with_reducible assumption | omega) (by first | with_reducible assumption | omega) e4631 (by first | with_reducible assumption | omega) (by first | with_reducible assumption | omega)) (cqV ?_)))
                rintro M4739 ⟨hP4740, hQ4741, h4743, h4744, h4745, h4746, h4747, xh4748⟩
                have hF4742 : Fr fm_n8116_739 M0 M4739 := hF4603.tr hQ4741 rfl
                obtain ⟨v4749, e4750⟩ : ∃ v, M4739 739 28 = v := ⟨_, rfl⟩
                have h4751 := (bf_739_28 hP4740).1; rw [e4750] at h4751
                have h4752 := (bf_739_28 hP4740).2; rw [e4750] at h4752
                obtain ⟨v4753, e4754⟩ : ∃ v, M4739 739 29 = v := ⟨_, rfl⟩
                have h4755 := (bf_739_29 hP4740).1; rw [e4754] at h4755
                have h4756 := (bf_739_29 hP4740).2; rw [e4754] at h4756
                have pr4757 : GH M4739 s0 u0 := GH_mn (Sm.fr hQ4741 rfl) (fun q => by have := e4623; have := e4750; omega) pr4638
                refine wk_inc2 r116_42 rfl (wk_al0 r116_45 (wk_cv1 r116_46 kc_739_84 rfl (n8084_739 _ M4739 v4749 hP4740 e4750 (by first | with_reducible assumption | omega) (by first | with_reducible assumption | omega)) (cqI ?_)))
                rintro v4764 M4758 ⟨hP4759, hQ4760, h4765, h4766, h4762, h4763⟩
                obtain rfl := Fr.same hQ4760
                have e4767 := e4750
                refine wk_ifne r116_49 ⟨by omega, by omega⟩ ?_ ?_
                · intro h4768
                  exfalso
                  omega
                · intro h4769
                  refine wk_goto r116_52 ?_
                  exact wp_fg (le_s (le_s (le_s le_0))) (ih5006 (10 * (501 - v4608) + (6 - v4749)).toNat (by omega) M4739 (v4598 + 1) v4604 v4608 v4612 v4616 v4749 v4624 v4753 rfl hP4740 hF4742 ((hQ4741.at g_739_31 rfl).trans e4607) ((hQ4741.at g_739_33 rfl).trans e4611) ((hQ4741.at g_739_34 rfl).trans e4615) ((hQ4741.at g_739_32 rfl).trans e4619) e4750 ((hQ4741.at g_739_46 rfl).trans e4627) e4754 ((hQ4741.at g_739_45 rfl).trans e4632) ((hQ4741.at g_739_47 rfl).trans e4633) ((hQ4741.at g_739_51 rfl).trans e4634) ((hQ4741.at g_739_30 rfl).trans e4635) ((hQ4741.at g_739_38 rfl).trans e4636) (by first | with_reducible assumption | omega) (by first | with_reducible assumption | omega) (by first | with_reducible assumption | omega) (by first | with_reducible assumption | omega) (by first | with_reducible assumption | omega) (by first | with_reducible assumption | omega) (by first | with_reducible assumption | omega) (by first | with_reducible assumption | omega) (by first | with_reducible assumption | omega) (by first | with_reducible assumption | omega) (by first | with_reducible assumption | omega) (by first | with_reducible assumption | omega) (by first | with_reducible assumption | omega) (by first | with_reducible assumption | omega) (by first | with_reducible assumption | omega) (by first | with_reducible assumption | omega) (TK_sm (Sm.fr hQ4741 rfl) pr4637) pr4757 (TXQ_sm (Sm.fr hQ4741 rfl) pr4639) (TTP_sm (Sm.fr hQ4741 rfl) pr4640) (by first | with_reducible assumption | omega) (by first | with_reducible assumption | omega) (by first | with_reducible assumption | omega) (by first | with_reducible assumption | omega) (by first | with_reducible assumption | omega) (by first | with_reducible assumption | omega) (by first | with_reducible assumption | omega) (by first | with_reducible assumption | omega) (by first | with_reducible assumption | omega) (by first | with_reducible assumption | omega) (by first | with_reducible assumption | omega) (by first | with_reducible assumption | omega) (by first | with_reducible assumption | omega) (by first | with_reducible assumption | omega) (by first | with_reducible assumption | omega) (o15x ti4656 (by omega) (by omega) (Or.inl ⟨by omega, by omega, by omega⟩)))
        exact wp_fg (le_s (le_n (le_s le_0))) (c15_5006 _ M4414 0 v4417 v4421 v4425 v4429 v4433 v4441 v4453 rfl hP4415 hF4416 e4420 e4424 e4428 e4432 e4436 e4444 e4456 e4440 e4448 e4452 e4457 e4458 (by first | with_reducible assumption | omega) (by first | with_reducible assumption | omega) (by first | with_reducible assumption | omega) (by first | with_reducible assumption | omega) (by first | with_reducible assumption | omega) (by first | with_reducible assumption | omega) (by first | with_reducible assumption | omega) (by first | with_reducible assumption | omega) (by first | with_reducible assumption | omega) (by first | with_reducible assumption | omega) (by first | with_reducible assumption | omega) (by first | with_reducible assumption | omega) (by first | with_reducible assumption | omega) (by first | with_reducible assumption | omega) (by first | with_reducible assumption | omega) (by first | with_reducible assumption | omega) pr4459 pr4460 pr4461 pr4462 (by first | with_reducible assumption | omega) (by first | with_reducible assumption | omega) (by first | with_reducible assumption | omega) (by first | with_reducible assumption | omega) (by first | with_reducible assumption | omega) (by first | with_reducible assumption | omega) (by first | with_reducible assumption | omega) (by first | with_reducible assumption | omega) (by first | with_reducible assumption | omega) (by first | with_reducible assumption | omega) (by first | with_reducible assumption | omega) (by first | with_reducible assumption | omega) (by first | with_reducible assumption | omega) (by first | with_reducible assumption | omega) (by first | with_reducible assumption | omega) (OPX_1 ti4478 (by omega)))
  exact wp_fg (le_s (le_s (le_s le_0))) (c2_5007 _ M0 1 x739_31 x739_33 x739_34 x739_32 x739_28 x739_45 x739_46 x739_47 x739_51 x739_29 rfl hP0 hF0 ex739_31 ex739_33 ex739_34 ex739_32 ex739_28 ex739_45 ex739_46 ex739_47 ex739_51 ex739_29 ex739_30 ex739_38 (by first | with_reducible assumption | omega) (by first | with_reducible assumption | omega) (by first | with_reducible assumption | omega) (by first | with_reducible assumption | omega) (by first | with_reducible assumption | omega) (by first | with_reducible assumption | omega) (by first | with_reducible assumption | omega) (by first | with_reducible assumption | omega) (by first | with_reducible assumption | omega) (by first | with_reducible assumption | omega) (by first | with_reducible assumption | omega) (by first | with_reducible assumption | omega) (by first | with_reducible assumption | omega) (by first | with_reducible assumption | omega) (by first | with_reducible assumption | omega) (by first | with_reducible assumption | omega) (by first | with_reducible assumption | omega) (by first | with_reducible assumption | omega) (by first | with_reducible assumption | omega) (by first | with_reducible assumption | omega) (by first | with_reducible assumption | omega) (by first | with_reducible assumption | omega) pp_TK (GH_of0 ex739_51 (by omega) pp_E0) pp_TQ pp_TT (by first | with_reducible assumption | omega) (by first | with_reducible assumption | omega) (by first | with_reducible assumption | omega) (by first | with_reducible assumption | omega) (by first | with_reducible assumption | omega) (by first | with_reducible assumption | omega) (by first | with_reducible assumption | omega) (by first | with_reducible assumption | omega) (by first | with_reducible assumption | omega) (by first | with_reducible assumption | omega) (by first | with_reducible assumption | omega) (by first | with_reducible assumption | omega) (by first | with_reducible assumption | omega) (by first | with_reducible assumption | omega) (by first | with_reducible assumption | omega) (OPX_a xp0 (by omega)))
def fm_n8130 : Nat := 0
/-- IslandHallModel.strength -/
theorem n8130 {B : eB} (d : Nat) (M0 : Mm) (p0 : Int) (hP0 : Pw M0) (l0 : 0 ≤ p0) (u0 : p0 ≤ 15) : Ct B (d + 1) 130 [I p0] M0 (qI fun z M => Pw M ∧ Fr fm_n8130 M0 M ∧ 0 ≤ z ∧ z ≤ 3 ∧ (z = 0 → p0 = 14) ∧ (z = strw p0)) := by
  refine ct_of (d := d + 0) (k := 0) (L := [some (I p0)]) rfl rfl rfl ?_
  have hF0 := Fr.rf fm_n8130 M0
  generalize hQ : (qI fun z M => Pw M ∧ Fr fm_n8130 M0 M ∧ 0 ≤ z ∧ z ≤ 3 ∧ (z = 0 → p0 = 14) ∧ (z = strw p0)) = Q
  refine wk_il0 r130_0 (wk_c2 r130_1 ?_)
  refine wk_icne r130_3 ⟨by omega, by omega⟩ (by decide) ?_ ?_
  · intro h1
    refine wk_il0 r130_10 (wk_c2 r130_11 ?_)
    refine wk_icne r130_13 ⟨by omega, by omega⟩ (by decide) ?_ ?_
    · intro h2
      refine wk_il0 r130_20 (wk_c2 r130_21 ?_)
      refine wk_icne r130_23 ⟨by omega, by omega⟩ (by decide) ?_ ?_
      · intro h3
        refine wk_c1 r130_30 ?_
        subst hQ; exact wk_iret r130_31 (⟨rfl, _, rfl, hP0, hF0, by omega, by omega, by intro q; omega, by unfold strw; rw [show p0 % 16 = p0 by omega]; rw [if_neg (by omega), if_neg (by omega), if_neg (by omega)]⟩)
      · intro h4
        refine wk_c1 r130_26 (wk_goto r130_27 ?_)
        subst hQ; exact wk_iret r130_31 (⟨rfl, _, rfl, hP0, hF0, by omega, by omega, by intro q; omega, by unfold strw; rw [show p0 % 16 = p0 by omega]; rw [if_neg (by omega), if_neg (by omega), if_pos (by omega)]⟩)
    · intro h5
      refine wk_c1 r130_16 (wk_goto r130_17 ?_)
      subst hQ; exact wk_iret r130_31 (⟨rfl, _, rfl, hP0, hF0, by omega, by omega, by intro q; omega, by unfold strw; rw [show p0 % 16 = p0 by omega]; rw [if_neg (by omega), if_pos (by omega)]⟩)
  · intro h6
    refine wk_c1 r130_6 (wk_goto r130_7 ?_)
    subst hQ; exact wk_iret r130_31 (⟨rfl, _, rfl, hP0, hF0, by omega, by omega, by intro q; omega, by unfold strw; rw [show p0 % 16 = p0 by omega]; rw [if_pos (by omega)]⟩)
def fm_n8063_739 : Nat := 452312848584500516791315064721803366938753890478895505178356372428422119424
/-- IslandHallModel.drops -/
theorem n8063_739 {B : eB} (d : Nat) (M0 : Mm) (p1 : Int) (x739_45 : Int) (x739_46 : Int) (x739_47 : Int) (s0 : Int) (u0 : Int → Int) (hP0 : Pw M0) (l1 : 1 ≤ p1) (u1 : p1 ≤ 2) (ex739_45 : M0 739 45 = x739_45) (lx739_45 : 0 ≤ x739_45) (ux739_45 : x739_45 ≤ 1000) (ex739_46 : M0 739 46 = x739_46) (lx739_46 : 0 ≤ x739_46) (ux739_46 : x739_46 ≤ 520) (ex739_47 : M0 739 47 = x739_47) (lx739_47 : 0 ≤ x739_47) (ux739_47 : x739_47 ≤ 500) (rp0 : 0 ≤ (-2) * x739_45 + (-2) * x739_46 + 520) (pp_E1 : GE M0 s0 u0 1 0) : Ct B (d + 2) 63 [R 739, I p1] M0 (qV fun M => Pw M ∧ Fr fm_n8063_739 M0 M ∧ 0 ≤ M 739 45 + M 739 46 + (-1) * x739_45 + (-1) * x739_46 ∧ 0 ≤ (-1) * (M 739 45) + (-1) * (M 739 46) + x739_45 + x739_46 ∧ 0 ≤ x739_46 + (-1) * (M 739 46) ∧ (p1 = 1 → M 739 46 = 0 ∨ M 758 (M 739 46 - 1) % 16 = 14) ∧ (OW M = drp p1 (OW M0).2 (OW M0).1) ∧ (GE M s0 u0 1 0)) := by
  refine ct_of (d := d + 1) (k := 0) (L := [some (R 739), some (I p1)]) rfl rfl rfl ?_
  have hF0 := Fr.rf fm_n8063_739 M0
  generalize hQ : (qV fun M => Pw M ∧ Fr fm_n8063_739 M0 M ∧ 0 ≤ M 739 45 + M 739 46 + (-1) * x739_45 + (-1) * x739_46 ∧ 0 ≤ (-1) * (M 739 45) + (-1) * (M 739 46) + x739_45 + x739_46 ∧ 0 ≤ x739_46 + (-1) * (M 739 46) ∧ (p1 = 1 → M 739 46 = 0 ∨ M 758 (M 739 46 - 1) % 16 = 14) ∧ (OW M = drp p1 (OW M0).2 (OW M0).1) ∧ (GE M s0 u0 1 0)) = Q
  have c0_115 : ∀ (k115 : Nat) (M54 : Mm) (v57 : Int) (v61 : Int), (260 - v57).toNat = k115 → Pw M54 → Fr fm_n8063_739 M0 M54 → M54 739 45 = v57 → M54 739 46 = v61 → M54 739 47 = x739_47 → 0 ≤ v57 → v57 ≤ 260 → 0 ≤ v61 → v61 ≤ 260 → (GE M54 s0 u0 1 0) → 0 ≤ v57 + v61 + (-1) * x739_45 + (-1) * x739_46 → 0 ≤ (-1) * v57 + (-1) * v61 + x739_45 + x739_46 → 0 ≤ x739_46 + (-1) * v61 → 0 ≤ (-1) * v57 + v61 + 260 → 0 ≤ (-1) * v61 + v57 + 260 → (drp p1 (OW M54).2 (OW M54).1 = drp p1 (OW M0).2 (OW M0).1) → Wp B (d + 1) 63 0 [some (R 739), some (I p1)] [] M54 Q := by
    refine lp_ind ?_
    intro k115 ih115 M54 v57 v61 hk115 hP55 hF56 e60 e64 e65 h58 h59 h62 h63 pr66 h67 h68 h69 h70 h71 ti72
    refine wk_al0 r63_0 (wk_getfi r63_1 fd_739_46 e64 ?_)
    refine wk_ifle r63_4 ⟨by omega, by omega⟩ ?_ ?_
    · intro h73
      subst hQ; exact wk_ret r63_78 (⟨rfl, hP55, hF56, by have := e60; have := e64; omega, by have := e60; have := e64; omega, by have := e64; omega, fun _ => Or.inl (by have := e64; omega), drp_e ti72 (Or.inl (OWe_w0 (OWe_rf _) (by rw [e64]; omega))), pr66⟩)
    · intro h74
      refine wk_al0 r63_7 (wk_getfr r63_8 fd_739_50 (br_739_50 hP55) (wk_al0 r63_11 (wk_getfi r63_12 fd_739_46 e64 (wk_c1 r63_15 (wk_isub r63_16 (wk_ialdb r63_17 ar_758 ⟨by omega, by omega⟩ (fun q0 q1 => ba_758 hP55 q0 q1) ?_))))))
      intro v75 h77 h78 e76
      refine wk_c2 r63_18 (wk_irem r63_20 ⟨by omega, by omega⟩ (by decide) (wk_cs102_1 r63_21 rfl (n8130 _ M54 (v75 % 16) hP55 (by first | with_reducible assumption | omega) (by first | with_reducible assumption | omega)) (cqI ?_)))
      rintro v86 M80 ⟨hP81, hQ82, h87, h88, xh84, xh85⟩
      obtain rfl := Fr.same hQ82
      refine wk_il1 r63_24 ?_
      refine wk_iclt r63_25 ⟨by omega, by omega⟩ ⟨by omega, by omega⟩ ?_ ?_
      · intro h89
        subst hQ; exact wk_ret r63_78 (⟨rfl, hP55, hF56, by have := e60; have := e64; omega, by have := e60; have := e64; omega, by have := e64; omega, fun q => Or.inr (by rw [e64, e76]; omega), by obtain ⟨ws, e⟩ := OWe_top (OWe_rf M54) e64 (by omega) e76; exact drp_e ti72 (Or.inr ⟨_, ws, e, Or.inr (by have q7 := xh85; rw [strw_16 rfl] at q7; omega)⟩), pr66⟩)
      · intro h90
        refine wk_al0 r63_28 (wk_getfr r63_29 fd_739_50 (br_739_50 hP55) (wk_al0 r63_32 (wk_getfi r63_33 fd_739_46 e64 (wk_c1 r63_36 (wk_isub r63_37 (wk_iald r63_38 ar_758 ⟨by omega, by omega⟩ e76 (wk_c2 r63_39 (wk_irem r63_41 ⟨by omega, by omega⟩ (by decide) (wk_c2 r63_42 ?_)))))))))
        refine wk_iceq r63_44 ⟨by omega, by omega⟩ (by decide) ?_ ?_
        · intro h91
          subst hQ; exact wk_ret r63_78 (⟨rfl, hP55, hF56, by have := e60; have := e64; omega, by have := e60; have := e64; omega, by have := e64; omega, fun q => Or.inr (by rw [e64, e76]; omega), by obtain ⟨ws, e⟩ := OWe_top (OWe_rf M54) e64 (by omega) e76; exact drp_e ti72 (Or.inr ⟨_, ws, e, Or.inl (by omega)⟩), pr66⟩)
        · intro h92
          have dE : GE M54 s0 u0 1 0 := pr66
          have dW : M54 739 46 = v61 := e64
          refine wk_al0 r63_47 (wk_dupr r63_48 (wk_getfi r63_49 fd_739_46 e64 (wk_c1 r63_52 (wk_isub r63_53 (wk_putfi81 r63_54 fd_739_46 (wk_nw g_739_46 rfl hP55 hF56 (uf_739_46 ⟨by omega, by omega⟩) ?_))))))
          intro M93 hP94 hF95 e96
          obtain ⟨ws9, ew9, hp9⟩ := OWe_pop (OWe_rf M54) e64 (by omega) e96 e76
          refine wk_al0 r63_57 (wk_al0 r63_58 (wk_getfr r63_59 fd_739_50 (br_739_50 hP94) (wk_al0 r63_62 (wk_getfi r63_63 fd_739_46 (mUp_at e96) (wk_ialdb r63_66 ar_758 ⟨by omega, by omega⟩ (fun q0 q1 => ba_758 hP94 q0 q1) ?_)))))
          intro v97 h99 h100 e98
          have dV : M93 758 (v61 - 1) = v97 := e98
          have dq : v97 = v75 := dV.symm.trans (mUp_no e96 e76 (Or.inl (by decide)))
          refine wk_c2 r63_67 (wk_irem r63_69 ⟨by omega, by omega⟩ (by decide) (wk_c1 r63_70 (wk_c1 r63_71 (wk_cv4 r63_72 kc_739_117 rfl (n8117_739 _ M93 (v97 % 16) 0 0 v57 hP94 (by first | with_reducible assumption | omega) (by first | with_reducible assumption | omega) (by decide) (by decide) (by decide) (by decide) (mUp_no e96 e60 (Or.inr (by decide))) (by first | with_reducible assumption | omega) (by first | with_reducible assumption | omega)) (cqV ?_)))))
          rintro M102 ⟨hP103, hQ104, h106, h107, xh108⟩
          have hF105 : Fr fm_n8063_739 M0 M102 := hF95.tr hQ104 rfl
          obtain ⟨v109, e110⟩ : ∃ v, M102 739 45 = v := ⟨_, rfl⟩
          have h111 := (bf_739_45 hP103).1; rw [e110] at h111
          have h112 := (bf_739_45 hP103).2; rw [e110] at h112
          have pr113 : GE M102 s0 u0 1 0 := GE_drop dE dW (by omega) e96 dV (by omega) xh108 (by omega)
          have pr114 : OWe M102 (((OW M54).1, ws9).1 ++ [v75 % 16], ((OW M54).1, ws9).2) := OWe_c (OWe_put hp9 xh108 (bf_739_45 hP94).1) (by show (((OW M54).1, ws9).1 ++ [_], ((OW M54).1, ws9).2) = (((OW M54).1, ws9).1 ++ [_], ((OW M54).1, ws9).2); congr 3 <;> omega)
          refine wk_goto r63_75 ?_
          exact wp_fg (le_s (le_s le_0)) (ih115 (260 - v109).toNat (by omega) M102 v109 (v61 - 1) rfl hP103 hF105 e110 ((hQ104.at g_739_46 rfl).trans (mUp_at e96)) ((hQ104.at g_739_47 rfl).trans (mUp_no e96 e65 (Or.inr (by decide)))) (by first | with_reducible assumption | omega) (by first | with_reducible assumption | omega) (by first | with_reducible assumption | omega) (by first | with_reducible assumption | omega) pr113 (by first | with_reducible assumption | omega) (by first | with_reducible assumption | omega) (by first | with_reducible assumption | omega) (by first | with_reducible assumption | omega) (by first | with_reducible assumption | omega) (by rw [show OW M102 = _ from pr114]; exact drp_s ti72 ew9 rfl (by omega) (by have q7 := xh85; rw [strw_16 rfl] at q7; omega) (by omega)))
  exact wp_fg (le_s (le_s le_0)) (c0_115 _ M0 x739_45 x739_46 rfl hP0 hF0 ex739_45 ex739_46 ex739_47 (by first | with_reducible assumption | omega) (by first | with_reducible assumption | omega) (by first | with_reducible assumption | omega) (by first | with_reducible assumption | omega) pp_E1 (by first | with_reducible assumption | omega) (by first | with_reducible assumption | omega) (by first | with_reducible assumption | omega) (by first | with_reducible assumption | omega) (by first | with_reducible assumption | omega) (rfl))
def fm_n8068_739 : Nat := 1356938545779010069195758067332661297480611728569957925602488559592754118656
