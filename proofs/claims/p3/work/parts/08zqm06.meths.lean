/-! ===== written by program (wip/layer4) ===== -/
def fm_m8116_739 : Nat := 1356938545779010069195758067332661297480611728569957925602488559592754118656
set_option maxHeartbeats 20000000 in
/-- IslandHallModel.operand -/
theorem m8116_739 {B : eB} (d : Nat) (M0 : Mm) (x739_30 : Int) (x739_31 : Int) (x739_33 : Int) (x739_34 : Int) (x739_32 : Int) (x739_28 : Int) (x739_45 : Int) (x739_46 : Int) (x739_47 : Int) (x739_38 : Int) (x739_36 : Int) (x739_51 : Int) (x739_35 : Int) (x739_29 : Int) (s0 : Int) (u0 : Int → Int) (T : Int → Int) (c0 : Cg) (hP0 : Pw M0) (ex739_30 : M0 739 30 = x739_30) (lx739_30 : 0 ≤ x739_30) (ux739_30 : x739_30 ≤ 500) (ex739_31 : M0 739 31 = x739_31) (lx739_31 : 0 ≤ x739_31) (ux739_31 : x739_31 ≤ 500) (ex739_33 : M0 739 33 = x739_33) (lx739_33 : 0 ≤ x739_33) (ux739_33 : x739_33 ≤ 500) (ex739_34 : M0 739 34 = x739_34) (lx739_34 : 0 ≤ x739_34) (ux739_34 : x739_34 ≤ 500) (ex739_32 : M0 739 32 = x739_32) (lx739_32 : 0 ≤ x739_32) (ux739_32 : x739_32 ≤ 4) (ex739_28 : M0 739 28 = x739_28) (lx739_28 : 0 ≤ x739_28) (ux739_28 : x739_28 ≤ 6) (ex739_45 : M0 739 45 = x739_45) (lx739_45 : 0 ≤ x739_45) (ux739_45 : x739_45 ≤ 1000) (ex739_46 : M0 739 46 = x739_46) (lx739_46 : 0 ≤ x739_46) (ux739_46 : x739_46 ≤ 520) (ex739_47 : M0 739 47 = x739_47) (lx739_47 : 0 ≤ x739_47) (ux739_47 : x739_47 ≤ 500) (ex739_38 : M0 739 38 = x739_38) (lx739_38 : 0 ≤ x739_38) (ux739_38 : x739_38 ≤ 999) (ex739_36 : M0 739 36 = x739_36) (lx739_36 : 0 ≤ x739_36) (ux739_36 : x739_36 ≤ 255) (ex739_51 : M0 739 51 = x739_51) (lx739_51 : 0 ≤ x739_51) (ux739_51 : x739_51 ≤ 0) (ex739_35 : M0 739 35 = x739_35) (lx739_35 : 0 ≤ x739_35) (ux739_35 : x739_35 ≤ 999) (ex739_29 : M0 739 29 = x739_29) (lx739_29 : (-1) ≤ x739_29) (ux739_29 : x739_29 ≤ 501) (rp0 : 0 ≤ x739_30 + (-1) * x739_31) (rp1 : 0 ≤ x739_31 + (-1) * x739_33 + (-1) * x739_34) (rp2 : 0 ≤ (-1) * x739_31 + x739_33 + x739_34) (rp3 : 0 ≤ 4 * x739_34 + (-1) * x739_32) (rp4 : 0 ≤ x739_33 + x739_47 + (-2) * x739_45 + (-2) * x739_46 + 3000 * x739_28) (rp5 : 0 ≤ (-2) * x739_45 + (-2) * x739_46 + 520) (rp6 : 0 ≤ (-1) * x739_47 + x739_28 + 6) (rp7 : 0 ≤ (-1) * x739_38 + 7 + 3000 * x739_28) (xp0 : RG T x739_30 x739_38 c0 1 x739_47 x739_33 0 x739_28 x739_29) (pp_TK : TK M0) (pp_E0 : GE M0 s0 u0 0 0) (pp_TQ : TXQ T M0) (pp_TT : TTP T M0) : Ct B (d + 6) 116 [R 739] M0 (qV fun M => Pw M ∧ Fr fm_m8116_739 M0 M ∧ 0 ≤ M 739 30 + (-1) * (M 739 31) ∧ 0 ≤ M 739 31 + (-1) * (M 739 33) + (-1) * (M 739 34) ∧ 0 ≤ (-1) * (M 739 31) + M 739 33 + M 739 34 ∧ 0 ≤ 4 * (M 739 34) + (-1) * (M 739 32) ∧ 0 ≤ M 739 33 + (-1) * x739_33 ∧ 0 ≤ M 739 28 + (-1) * x739_28 ∧ 0 ≤ M 739 33 + M 739 47 + (-2) * (M 739 45) + (-2) * (M 739 46) + 3000 * (M 739 28) ∧ 0 ≤ (-2) * (M 739 45) + (-2) * (M 739 46) + 520 ∧ 0 ≤ (-1) * (M 739 47) + M 739 28 + 6 ∧ 0 ≤ (-1) * (M 739 51) ∧ 0 ≤ M 739 29 + 1 ∧ 0 ≤ M 739 29 + (-1) * x739_29 + 3000 * (M 739 28) ∧ 0 ≤ (-1) * (M 739 29) + x739_29 + 3000 * (M 739 28) ∧ (RG T x739_30 x739_38 c0 2 (M 739 47) (M 739 33) 0 (M 739 28) (M 739 29)) ∧ (TK M) ∧ (GE M s0 u0 1 0) ∧ (TXQ T M) ∧ (TTP T M)) := by
  refine ct_of (d := d + 5) (k := 2) (L := [some (R 739), none, none]) rfl rfl rfl ?_
  have hF0 := Fr.rf fm_m8116_739 M0
  generalize hQ : (qV fun M => Pw M ∧ Fr fm_m8116_739 M0 M ∧ 0 ≤ M 739 30 + (-1) * (M 739 31) ∧ 0 ≤ M 739 31 + (-1) * (M 739 33) + (-1) * (M 739 34) ∧ 0 ≤ (-1) * (M 739 31) + M 739 33 + M 739 34 ∧ 0 ≤ 4 * (M 739 34) + (-1) * (M 739 32) ∧ 0 ≤ M 739 33 + (-1) * x739_33 ∧ 0 ≤ M 739 28 + (-1) * x739_28 ∧ 0 ≤ M 739 33 + M 739 47 + (-2) * (M 739 45) + (-2) * (M 739 46) + 3000 * (M 739 28) ∧ 0 ≤ (-2) * (M 739 45) + (-2) * (M 739 46) + 520 ∧ 0 ≤ (-1) * (M 739 47) + M 739 28 + 6 ∧ 0 ≤ (-1) * (M 739 51) ∧ 0 ≤ M 739 29 + 1 ∧ 0 ≤ M 739 29 + (-1) * x739_29 + 3000 * (M 739 28) ∧ 0 ≤ (-1) * (M 739 29) + x739_29 + 3000 * (M 739 28) ∧ (RG T x739_30 x739_38 c0 2 (M 739 47) (M 739 33) 0 (M 739 28) (M 739 29)) ∧ (TK M) ∧ (GE M s0 u0 1 0) ∧ (TXQ T M) ∧ (TTP T M)) = Q
  refine wk_c1 r116_0 (wk_is1 r116_1 rfl ?_)
  have c2_4983 : ∀ (k4983 : Nat) (M4392 : Mm) (v4389 : Int) (v4395 : Int) (v4399 : Int) (v4403 : Int) (v4407 : Int) (v4411 : Int) (v4415 : Int) (v4419 : Int) (v4423 : Int) (v4427 : Int) (v4431 : Int), (10 * (501 - v4399) + v4389 + (6 - v4411)).toNat = k4983 → Pw M4392 → Fr fm_m8116_739 M0 M4392 → M4392 739 31 = v4395 → M4392 739 33 = v4399 → M4392 739 34 = v4403 → M4392 739 32 = v4407 → M4392 739 28 = v4411 → M4392 739 45 = v4415 → M4392 739 46 = v4419 → M4392 739 47 = v4423 → M4392 739 51 = v4427 → M4392 739 29 = v4431 → M4392 739 30 = x739_30 → M4392 739 38 = x739_38 → 0 ≤ v4389 → v4389 ≤ 1 → 0 ≤ v4395 → v4395 ≤ 500 → 0 ≤ v4399 → v4399 ≤ 500 → 0 ≤ v4403 → v4403 ≤ 500 → 0 ≤ v4407 → v4407 ≤ 4 → 0 ≤ v4411 → v4411 ≤ 6 → 0 ≤ v4415 → v4415 ≤ 260 → 0 ≤ v4419 → v4419 ≤ 260 → 0 ≤ v4423 → v4423 ≤ 12 → 0 ≤ v4427 → v4427 ≤ 1 → (-1) ≤ v4431 → v4431 ≤ 501 → (TK M4392) → (GH M4392 s0 u0) → (TXQ T M4392) → (TTP T M4392) → 0 ≤ 1 * x739_30 + (-1) * v4395 → 0 ≤ 1 * v4395 + (-1) * v4399 + (-1) * v4403 → 0 ≤ (-1) * v4395 + 1 * v4399 + 1 * v4403 → 0 ≤ 4 * v4403 + (-1) * v4407 → 0 ≤ 1 * v4399 + 1 * v4423 + (-2) * v4415 + (-2) * v4419 + 3000 * v4411 → 0 ≤ (-2) * v4415 + (-2) * v4419 + 520 → 0 ≤ (-1) * v4423 + 1 * v4411 + 6 → 0 ≤ 1 * v4399 + (-1) * x739_33 → 0 ≤ 1 * v4411 + (-1) * x739_28 → 0 ≤ (-1) * v4389 + (-1) * v4427 + 1 → 0 ≤ (-1) * x739_38 + 7 + 3000 * v4411 → 0 ≤ 1 * v4431 + (-1) * x739_29 + 3000 * v4411 → 0 ≤ (-1) * v4431 + 1 * x739_29 + 3000 * v4411 → 0 ≤ v4399 - x739_33 → 0 ≤ v4411 - x739_28 → (OPI T x739_30 x739_38 c0 v4389 v4427 v4423 v4399 v4411 v4431) → Wp B (d + 5) 116 2 [some (R 739), some (I v4389), none] [] M4392 Q := by
    refine lp_ind ?_
    intro k4983 ih4983 M4392 v4389 v4395 v4399 v4403 v4407 v4411 v4415 v4419 v4423 v4427 v4431 hk4983 hP4393 hF4394 e4398 e4402 e4406 e4410 e4414 e4418 e4422 e4426 e4430 e4434 e4435 e4436 h4390 h4391 h4396 h4397 h4400 h4401 h4404 h4405 h4408 h4409 h4412 h4413 h4416 h4417 h4420 h4421 h4424 h4425 h4428 h4429 h4432 h4433 pr4437 pr4438 pr4439 pr4440 h4441 h4442 h4443 h4444 h4445 h4446 h4447 h4448 h4449 h4450 h4451 h4452 h4453 h4454 h4455 ti4456
    refine wk_il1 r116_2 ?_
    refine wk_ifeq r116_3 ⟨by omega, by omega⟩ ?_ ?_
    · intro h4457
      refine wk_al0 r116_143 (wk_cv1 r116_144 kc_739_84 rfl (m8084_739 _ M4392 v4411 hP4393 e4414 (by first | with_reducible assumption | omega) (by first | with_reducible assumption | omega)) (cqI ?_))
      rintro v4464 M4458 ⟨hP4459, hQ4460, h4465, h4466, h4462, h4463⟩
      obtain rfl := Fr.same hQ4460
      have e4467 := e4414
      refine wk_ifeq r116_147 ⟨by omega, by omega⟩ ?_ ?_
      · intro h4468
        have pr4469 : GE M4392 s0 u0 1 0 := (GE_vac e4414 (by omega))
        refine wk_al0 r116_161 (wk_c1 r116_162 (wk_putfz81 r116_163 fd_739_51 (by decide) (wk_nw g_739_51 rfl hP4393 hF4394 (uf_739_51 (by decide)) ?_)))
        intro M4470 hP4471 hF4472 e4473
        subst hQ; exact wk_ret r116_166 (⟨rfl, hP4471, hF4472, by have := (mUp_no e4473 e4435 (Or.inr (by decide))); have := (mUp_no e4473 e4398 (Or.inr (by decide))); omega, by have := (mUp_no e4473 e4398 (Or.inr (by decide))); have := (mUp_no e4473 e4402 (Or.inr (by decide))); have := (mUp_no e4473 e4406 (Or.inr (by decide))); omega, by have := (mUp_no e4473 e4398 (Or.inr (by decide))); have := (mUp_no e4473 e4402 (Or.inr (by decide))); have := (mUp_no e4473 e4406 (Or.inr (by decide))); omega, by have := (mUp_no e4473 e4406 (Or.inr (by decide))); have := (mUp_no e4473 e4410 (Or.inr (by decide))); omega, by have := (mUp_no e4473 e4402 (Or.inr (by decide))); omega, by have := (mUp_no e4473 e4414 (Or.inr (by decide))); omega, by have := (mUp_no e4473 e4402 (Or.inr (by decide))); have := (mUp_no e4473 e4426 (Or.inr (by decide))); have := (mUp_no e4473 e4418 (Or.inr (by decide))); have := (mUp_no e4473 e4422 (Or.inr (by decide))); have := (mUp_no e4473 e4414 (Or.inr (by decide))); omega, by have := (mUp_no e4473 e4418 (Or.inr (by decide))); have := (mUp_no e4473 e4422 (Or.inr (by decide))); omega, by have := (mUp_no e4473 e4426 (Or.inr (by decide))); have := (mUp_no e4473 e4414 (Or.inr (by decide))); omega, by have := (mUp_at e4473); omega, by have := (mUp_no e4473 e4434 (Or.inr (by decide))); omega, by have := (mUp_no e4473 e4434 (Or.inr (by decide))); have := (mUp_no e4473 e4414 (Or.inr (by decide))); omega, by have := (mUp_no e4473 e4434 (Or.inr (by decide))); have := (mUp_no e4473 e4414 (Or.inr (by decide))); omega, by rw [(mUp_no e4473 e4426 (Or.inr (by decide))), (mUp_no e4473 e4402 (Or.inr (by decide))), (mUp_no e4473 e4414 (Or.inr (by decide))), (mUp_no e4473 e4434 (Or.inr (by decide)))]; exact OPI_f ti4456 (by omega), (TK_sm (Sm.up e4473 g_739_51 rfl) pr4437), (GE_sm (Sm.up e4473 g_739_51 rfl) pr4469), (TXQ_sm (Sm.up e4473 g_739_51 rfl) pr4439), (TTP_sm (Sm.up e4473 g_739_51 rfl) pr4440)⟩)
      · intro h4474
        refine wk_al0 r116_150 (wk_getfi r116_151 fd_739_51 e4430 ?_)
        refine wk_ifne r116_154 ⟨by omega, by omega⟩ ?_ ?_
        · intro h4475
          have pr4476 : GE M4392 s0 u0 1 0 := (GE_of1 e4430 (by omega) pr4438)
          refine wk_al0 r116_161 (wk_c1 r116_162 (wk_putfz81 r116_163 fd_739_51 (by decide) (wk_nw g_739_51 rfl hP4393 hF4394 (uf_739_51 (by decide)) ?_)))
          intro M4477 hP4478 hF4479 e4480
          subst hQ; exact wk_ret r116_166 (⟨rfl, hP4478, hF4479, by have := (mUp_no e4480 e4435 (Or.inr (by decide))); have := (mUp_no e4480 e4398 (Or.inr (by decide))); omega, by have := (mUp_no e4480 e4398 (Or.inr (by decide))); have := (mUp_no e4480 e4402 (Or.inr (by decide))); have := (mUp_no e4480 e4406 (Or.inr (by decide))); omega, by have := (mUp_no e4480 e4398 (Or.inr (by decide))); have := (mUp_no e4480 e4402 (Or.inr (by decide))); have := (mUp_no e4480 e4406 (Or.inr (by decide))); omega, by have := (mUp_no e4480 e4406 (Or.inr (by decide))); have := (mUp_no e4480 e4410 (Or.inr (by decide))); omega, by have := (mUp_no e4480 e4402 (Or.inr (by decide))); omega, by have := (mUp_no e4480 e4414 (Or.inr (by decide))); omega, by have := (mUp_no e4480 e4402 (Or.inr (by decide))); have := (mUp_no e4480 e4426 (Or.inr (by decide))); have := (mUp_no e4480 e4418 (Or.inr (by decide))); have := (mUp_no e4480 e4422 (Or.inr (by decide))); have := (mUp_no e4480 e4414 (Or.inr (by decide))); omega, by have := (mUp_no e4480 e4418 (Or.inr (by decide))); have := (mUp_no e4480 e4422 (Or.inr (by decide))); omega, by have := (mUp_no e4480 e4426 (Or.inr (by decide))); have := (mUp_no e4480 e4414 (Or.inr (by decide))); omega, by have := (mUp_at e4480); omega, by have := (mUp_no e4480 e4434 (Or.inr (by decide))); omega, by have := (mUp_no e4480 e4434 (Or.inr (by decide))); have := (mUp_no e4480 e4414 (Or.inr (by decide))); omega, by have := (mUp_no e4480 e4434 (Or.inr (by decide))); have := (mUp_no e4480 e4414 (Or.inr (by decide))); omega, by rw [(mUp_no e4480 e4426 (Or.inr (by decide))), (mUp_no e4480 e4402 (Or.inr (by decide))), (mUp_no e4480 e4414 (Or.inr (by decide))), (mUp_no e4480 e4434 (Or.inr (by decide)))]; exact OPI_2 ti4456 (by omega) (by omega), (TK_sm (Sm.up e4480 g_739_51 rfl) pr4437), (GE_sm (Sm.up e4480 g_739_51 rfl) pr4476), (TXQ_sm (Sm.up e4480 g_739_51 rfl) pr4439), (TTP_sm (Sm.up e4480 g_739_51 rfl) pr4440)⟩)
        · intro h4481
          obtain ⟨k9, r9, r91, r92, r93⟩ := OPI_3 ti4456 (by omega) (by omega) (by omega)
          refine wk_al0 r116_157 ?_
          obtain ⟨v4482, e4483⟩ : ∃ v, M4392 739 35 = v := ⟨_, rfl⟩
          have h4484 := (bf_739_35 hP4393).1; rw [e4483] at h4484
          have h4485 := (bf_739_35 hP4393).2; rw [e4483] at h4485
          obtain ⟨v4486, e4487⟩ : ∃ v, M4392 739 36 = v := ⟨_, rfl⟩
          have h4488 := (bf_739_36 hP4393).1; rw [e4487] at h4488
          have h4489 := (bf_739_36 hP4393).2; rw [e4487] at h4489
          refine wk_cv1 r116_158 kc_739_47 rfl (m8047_739 _ M4392 x739_30 v4395 v4399 v4403 v4407 v4411 v4415 v4419 v4423 v4482 v4486 v4431 x739_38 s0 u0 T c0 k9 hP4393 e4435 (by first | with_reducible assumption | omega) (by first | with_reducible assumption | omega) e4398 (by first | with_reducible assumption | omega) (by first | with_reducible assumption | omega) e4402 (by first | with_reducible assumption | omega) (by first | with_reducible assumption | omega) e4406 (by first | with_reducible assumption | omega) (by first | with_reducible assumption | omega) e4410 (by first | with_reducible assumption | omega) (by first | with_reducible assumption | omega) e4414 (by first | with_reducible assumption | omega) (by first | with_reducible assumption | omega) e4418 (by first | with_reducible assumption | omega) (by first | with_reducible assumption | omega) e4422 (by first | with_reducible assumption | omega) (by first | with_reducible assumption | omega) e4426 (by first | with_reducible assumption | omega) (by first | with_reducible assumption | omega) e4483 (by first | with_reducible assumption | omega) (by first | with_reducible assumption | omega) e4487 (by first | with_reducible assumption | omega) (by first | with_reducible assumption | omega) e4434 (by first | with_reducible assumption | omega) (by first | with_reducible assumption | omega) e4436 (by first | with_reducible assumption | omega) (by first | with_reducible assumption | omega) (by omega) (by omega) (by omega) (by omega) (by omega) (by omega) (by omega) (by omega) (r9) (r91) (r92) (r93) pr4437 (GE_of0 e4430 (by omega) pr4438) pr4439 pr4440) (cqV ?_)
          rintro M4490 ⟨hP4491, hQ4492, h4494, h4495, h4496, h4497, h4498, h4499, h4500, h4501, h4502, h4503, h4504, h4505, xh4506, pr4507, pr4508, pr4509, pr4510⟩
          have hF4493 : Fr fm_m8116_739 M0 M4490 := hF4394.tr hQ4492 rfl
          have e4511 := ((hQ4492.at g_739_30 rfl).trans e4435)
          obtain ⟨v4512, e4513⟩ : ∃ v, M4490 739 31 = v := ⟨_, rfl⟩
          have h4514 := (bf_739_31 hP4491).1; rw [e4513] at h4514
          have h4515 := (bf_739_31 hP4491).2; rw [e4513] at h4515
          obtain ⟨v4516, e4517⟩ : ∃ v, M4490 739 33 = v := ⟨_, rfl⟩
          have h4518 := (bf_739_33 hP4491).1; rw [e4517] at h4518
          have h4519 := (bf_739_33 hP4491).2; rw [e4517] at h4519
          obtain ⟨v4520, e4521⟩ : ∃ v, M4490 739 34 = v := ⟨_, rfl⟩
          have h4522 := (bf_739_34 hP4491).1; rw [e4521] at h4522
          have h4523 := (bf_739_34 hP4491).2; rw [e4521] at h4523
          obtain ⟨v4524, e4525⟩ : ∃ v, M4490 739 32 = v := ⟨_, rfl⟩
          have h4526 := (bf_739_32 hP4491).1; rw [e4525] at h4526
          have h4527 := (bf_739_32 hP4491).2; rw [e4525] at h4527
          obtain ⟨v4528, e4529⟩ : ∃ v, M4490 739 28 = v := ⟨_, rfl⟩
          have h4530 := (bf_739_28 hP4491).1; rw [e4529] at h4530
          have h4531 := (bf_739_28 hP4491).2; rw [e4529] at h4531
          have e4532 := ((hQ4492.at g_739_47 rfl).trans e4426)
          obtain ⟨v4533, e4534⟩ : ∃ v, M4490 739 45 = v := ⟨_, rfl⟩
          have h4535 := (bf_739_45 hP4491).1; rw [e4534] at h4535
          have h4536 := (bf_739_45 hP4491).2; rw [e4534] at h4536
          have e4537 := ((hQ4492.at g_739_46 rfl).trans e4422)
          obtain ⟨v4538, e4539⟩ : ∃ v, M4490 739 29 = v := ⟨_, rfl⟩
          have h4540 := (bf_739_29 hP4491).1; rw [e4539] at h4540
          have h4541 := (bf_739_29 hP4491).2; rw [e4539] at h4541
          refine wk_al0 r116_161 (wk_c1 r116_162 (wk_putfz81 r116_163 fd_739_51 (by decide) (wk_nw g_739_51 rfl hP4491 hF4493 (uf_739_51 (by decide)) ?_)))
          intro M4542 hP4543 hF4544 e4545
          subst hQ; exact wk_ret r116_166 (⟨rfl, hP4543, hF4544, by have := (mUp_no e4545 ((hQ4492.at g_739_30 rfl).trans e4435) (Or.inr (by decide))); have := (mUp_no e4545 e4513 (Or.inr (by decide))); omega, by have := (mUp_no e4545 e4513 (Or.inr (by decide))); have := (mUp_no e4545 e4517 (Or.inr (by decide))); have := (mUp_no e4545 e4521 (Or.inr (by decide))); omega, by have := (mUp_no e4545 e4513 (Or.inr (by decide))); have := (mUp_no e4545 e4517 (Or.inr (by decide))); have := (mUp_no e4545 e4521 (Or.inr (by decide))); omega, by have := (mUp_no e4545 e4521 (Or.inr (by decide))); have := (mUp_no e4545 e4525 (Or.inr (by decide))); omega, by have := (mUp_no e4545 e4517 (Or.inr (by decide))); omega, by have := (mUp_no e4545 e4529 (Or.inr (by decide))); omega, by have := (mUp_no e4545 e4517 (Or.inr (by decide))); have := (mUp_no e4545 ((hQ4492.at g_739_47 rfl).trans e4426) (Or.inr (by decide))); have := (mUp_no e4545 e4534 (Or.inr (by decide))); have := (mUp_no e4545 ((hQ4492.at g_739_46 rfl).trans e4422) (Or.inr (by decide))); have := (mUp_no e4545 e4529 (Or.inr (by decide))); omega, by have := (mUp_no e4545 e4534 (Or.inr (by decide))); have := (mUp_no e4545 ((hQ4492.at g_739_46 rfl).trans e4422) (Or.inr (by decide))); omega, by have := (mUp_no e4545 ((hQ4492.at g_739_47 rfl).trans e4426) (Or.inr (by decide))); have := (mUp_no e4545 e4529 (Or.inr (by decide))); omega, by have := (mUp_at e4545); omega, by have := (mUp_no e4545 e4539 (Or.inr (by decide))); omega, by have := (mUp_no e4545 e4539 (Or.inr (by decide))); have := (mUp_no e4545 e4529 (Or.inr (by decide))); omega, by have := (mUp_no e4545 e4539 (Or.inr (by decide))); have := (mUp_no e4545 e4529 (Or.inr (by decide))); omega, by rw [(mUp_no e4545 ((hQ4492.at g_739_47 rfl).trans e4426) (Or.inr (by decide))), (mUp_no e4545 e4517 (Or.inr (by decide))), (mUp_no e4545 e4529 (Or.inr (by decide))), (mUp_no e4545 e4539 (Or.inr (by decide)))]; exact RG_c xh4506 (by omega) (by omega) rfl (by omega) (by omega), (TK_sm (Sm.up e4545 g_739_51 rfl) pr4507), (GE_sm (Sm.up e4545 g_739_51 rfl) pr4508), (TXQ_sm (Sm.up e4545 g_739_51 rfl) pr4509), (TTP_sm (Sm.up e4545 g_739_51 rfl) pr4510)⟩)
    · intro h4546
      refine wk_al0 r116_6 (wk_cv1 r116_7 kc_739_84 rfl (m8084_739 _ M4392 v4411 hP4393 e4414 (by first | with_reducible assumption | omega) (by first | with_reducible assumption | omega)) (cqI ?_))
      rintro v4553 M4547 ⟨hP4548, hQ4549, h4554, h4555, h4551, h4552⟩
      obtain rfl := Fr.same hQ4549
      have e4556 := e4414
      refine wk_ifeq r116_10 ⟨by omega, by omega⟩ ?_ ?_
      · intro h4557
        refine wk_al0 r116_143 (wk_cv1 r116_144 kc_739_84 rfl (m8084_739 _ M4392 v4411 hP4393 e4414 (by first | with_reducible assumption | omega) (by first | with_reducible assumption | omega)) (cqI ?_))
        rintro v4564 M4558 ⟨hP4559, hQ4560, h4565, h4566, h4562, h4563⟩
        obtain rfl := Fr.same hQ4560
        have e4567 := e4414
        refine wk_ifeq r116_147 ⟨by omega, by omega⟩ ?_ ?_
        · intro h4568
          have pr4569 : GE M4392 s0 u0 1 0 := (GE_vac e4414 (by omega))
          refine wk_al0 r116_161 (wk_c1 r116_162 (wk_putfz81 r116_163 fd_739_51 (by decide) (wk_nw g_739_51 rfl hP4393 hF4394 (uf_739_51 (by decide)) ?_)))
          intro M4570 hP4571 hF4572 e4573
          subst hQ; exact wk_ret r116_166 (⟨rfl, hP4571, hF4572, by have := (mUp_no e4573 e4435 (Or.inr (by decide))); have := (mUp_no e4573 e4398 (Or.inr (by decide))); omega, by have := (mUp_no e4573 e4398 (Or.inr (by decide))); have := (mUp_no e4573 e4402 (Or.inr (by decide))); have := (mUp_no e4573 e4406 (Or.inr (by decide))); omega, by have := (mUp_no e4573 e4398 (Or.inr (by decide))); have := (mUp_no e4573 e4402 (Or.inr (by decide))); have := (mUp_no e4573 e4406 (Or.inr (by decide))); omega, by have := (mUp_no e4573 e4406 (Or.inr (by decide))); have := (mUp_no e4573 e4410 (Or.inr (by decide))); omega, by have := (mUp_no e4573 e4402 (Or.inr (by decide))); omega, by have := (mUp_no e4573 e4414 (Or.inr (by decide))); omega, by have := (mUp_no e4573 e4402 (Or.inr (by decide))); have := (mUp_no e4573 e4426 (Or.inr (by decide))); have := (mUp_no e4573 e4418 (Or.inr (by decide))); have := (mUp_no e4573 e4422 (Or.inr (by decide))); have := (mUp_no e4573 e4414 (Or.inr (by decide))); omega, by have := (mUp_no e4573 e4418 (Or.inr (by decide))); have := (mUp_no e4573 e4422 (Or.inr (by decide))); omega, by have := (mUp_no e4573 e4426 (Or.inr (by decide))); have := (mUp_no e4573 e4414 (Or.inr (by decide))); omega, by have := (mUp_at e4573); omega, by have := (mUp_no e4573 e4434 (Or.inr (by decide))); omega, by have := (mUp_no e4573 e4434 (Or.inr (by decide))); have := (mUp_no e4573 e4414 (Or.inr (by decide))); omega, by have := (mUp_no e4573 e4434 (Or.inr (by decide))); have := (mUp_no e4573 e4414 (Or.inr (by decide))); omega, by rw [(mUp_no e4573 e4426 (Or.inr (by decide))), (mUp_no e4573 e4402 (Or.inr (by decide))), (mUp_no e4573 e4414 (Or.inr (by decide))), (mUp_no e4573 e4434 (Or.inr (by decide)))]; exact OPI_f ti4456 (by omega), (TK_sm (Sm.up e4573 g_739_51 rfl) pr4437), (GE_sm (Sm.up e4573 g_739_51 rfl) pr4569), (TXQ_sm (Sm.up e4573 g_739_51 rfl) pr4439), (TTP_sm (Sm.up e4573 g_739_51 rfl) pr4440)⟩)
        · intro h4574
          exfalso
          omega
      · intro h4575
        refine wk_c1 r116_13 (wk_is2 r116_14 rfl ?_)
        have c15_4982 : ∀ (k4982 : Nat) (M4579 : Mm) (v4576 : Int) (v4582 : Int) (v4586 : Int) (v4590 : Int) (v4594 : Int) (v4598 : Int) (v4602 : Int) (v4606 : Int), (10 * (501 - v4586) + (6 - v4598)).toNat = k4982 → Pw M4579 → Fr fm_m8116_739 M0 M4579 → M4579 739 31 = v4582 → M4579 739 33 = v4586 → M4579 739 34 = v4590 → M4579 739 32 = v4594 → M4579 739 28 = v4598 → M4579 739 46 = v4602 → M4579 739 29 = v4606 → M4579 739 45 = v4415 → M4579 739 47 = v4423 → M4579 739 51 = v4427 → M4579 739 30 = x739_30 → M4579 739 38 = x739_38 → 0 ≤ v4576 → v4576 ≤ 7 → 0 ≤ v4582 → v4582 ≤ 500 → 0 ≤ v4586 → v4586 ≤ 500 → 0 ≤ v4590 → v4590 ≤ 500 → 0 ≤ v4594 → v4594 ≤ 4 → 0 ≤ v4598 → v4598 ≤ 6 → 0 ≤ v4602 → v4602 ≤ 253 → (-1) ≤ v4606 → v4606 ≤ 501 → (TK M4579) → (GH M4579 s0 u0) → (TXQ T M4579) → (TTP T M4579) → 0 ≤ 1 * x739_30 + (-1) * v4582 → 0 ≤ 1 * v4582 + (-1) * v4586 + (-1) * v4590 → 0 ≤ (-1) * v4582 + 1 * v4586 + 1 * v4590 → 0 ≤ 4 * v4590 + (-1) * v4594 → 0 ≤ 1 * v4586 + 1 * v4423 + (-2) * v4415 + (-2) * v4602 + 3000 * v4598 → 0 ≤ (-2) * v4415 + (-2) * v4602 + 520 → 0 ≤ (-1) * v4423 + 1 * v4598 + 6 → 0 ≤ 1 * v4586 + (-1) * x739_33 → 0 ≤ 1 * v4598 + (-1) * x739_28 → 0 ≤ (-1) * v4576 + 1 * v4598 + 6 → 0 ≤ (-1) * x739_38 + 7 + 3000 * v4598 → 0 ≤ 1 * v4606 + (-1) * x739_29 + 3000 * v4598 → 0 ≤ (-1) * v4606 + 1 * x739_29 + 3000 * v4598 → 0 ≤ v4586 - v4399 → 0 ≤ v4598 - v4411 → (RG T x739_30 x739_38 c0 1 v4423 v4586 v4576 v4598 v4606) → Wp B (d + 5) 116 15 [some (R 739), none, some (I v4576)] [] M4579 Q := by
          refine lp_ind ?_
          intro k4982 ih4982 M4579 v4576 v4582 v4586 v4590 v4594 v4598 v4602 v4606 hk4982 hP4580 hF4581 e4585 e4589 e4593 e4597 e4601 e4605 e4609 e4610 e4611 e4612 e4613 e4614 h4577 h4578 h4583 h4584 h4587 h4588 h4591 h4592 h4595 h4596 h4599 h4600 h4603 h4604 h4607 h4608 pr4615 pr4616 pr4617 pr4618 h4619 h4620 h4621 h4622 h4623 h4624 h4625 h4626 h4627 h4628 h4629 h4630 h4631 h4632 h4633 ti4634
          refine wk_al0 r116_15 (wk_cv1 r116_16 kc_739_84 rfl (m8084_739 _ M4579 v4598 hP4580 e4601 (by first | with_reducible assumption | omega) (by first | with_reducible assumption | omega)) (cqI ?_))
          rintro v4641 M4635 ⟨hP4636, hQ4637, h4642, h4643, h4639, h4640⟩
          obtain rfl := Fr.same hQ4637
          have e4644 := e4601
          have c69_4981 : (v4598 ≠ 0 ∨ kw T x739_30 v4586 ≠ 14) → Wp B (d + 5) 116 69 [some (R 739), none, none] [] M4579 Q := by
            intro ti4747
            refine wk_al0 r116_69 (wk_cv1 r116_70 kc_739_84 rfl (m8084_739 _ M4579 v4598 hP4580 e4601 (by first | with_reducible assumption | omega) (by first | with_reducible assumption | omega)) (cqI ?_))
            rintro v4754 M4748 ⟨hP4749, hQ4750, h4755, h4756, h4752, h4753⟩
            obtain rfl := Fr.same hQ4750
            have e4757 := e4601
            refine wk_ifeq r116_73 ⟨by omega, by omega⟩ ?_ ?_
            · intro h4758
              refine wk_c1 r116_89 (wk_is1 r116_90 rfl (wk_il1 r116_91 ?_))
              refine wk_ifeq r116_92 (by decide) ?_ ?_
              · intro h4759
                refine wk_al0 r116_113 (wk_cv1 r116_114 kc_739_84 rfl (m8084_739 _ M4579 v4598 hP4580 e4601 (by first | with_reducible assumption | omega) (by first | with_reducible assumption | omega)) (cqI ?_))
                rintro v4766 M4760 ⟨hP4761, hQ4762, h4767, h4768, h4764, h4765⟩
                obtain rfl := Fr.same hQ4762
                have e4769 := e4601
                refine wk_ifeq r116_117 ⟨by omega, by omega⟩ ?_ ?_
                · intro h4770
                  refine wk_c1 r116_138 (wk_is1 r116_139 rfl (wk_goto r116_140 ?_))
                  exact wp_fg (le_s (le_s (le_s le_0))) (ih4983 (10 * (501 - v4586) + 0 + (6 - v4598)).toNat (by omega) M4579 0 v4582 v4586 v4590 v4594 v4598 v4415 v4602 v4423 v4427 v4606 rfl hP4580 hF4581 e4585 e4589 e4593 e4597 e4601 e4610 e4605 e4611 e4612 e4609 e4613 e4614 (by first | with_reducible assumption | omega) (by first | with_reducible assumption | omega) (by first | with_reducible assumption | omega) (by first | with_reducible assumption | omega) (by first | with_reducible assumption | omega) (by first | with_reducible assumption | omega) (by first | with_reducible assumption | omega) (by first | with_reducible assumption | omega) (by first | with_reducible assumption | omega) (by first | with_reducible assumption | omega) (by first | with_reducible assumption | omega) (by first | with_reducible assumption | omega) (by first | with_reducible assumption | omega) (by first | with_reducible assumption | omega) (by first | with_reducible assumption | omega) (by first | with_reducible assumption | omega) (by first | with_reducible assumption | omega) (by first | with_reducible assumption | omega) (by first | with_reducible assumption | omega) (by first | with_reducible assumption | omega) (by first | with_reducible assumption | omega) (by first | with_reducible assumption | omega) pr4615 pr4616 pr4617 pr4618 (by first | with_reducible assumption | omega) (by first | with_reducible assumption | omega) (by first | with_reducible assumption | omega) (by first | with_reducible assumption | omega) (by first | with_reducible assumption | omega) (by first | with_reducible assumption | omega) (by first | with_reducible assumption | omega) (by first | with_reducible assumption | omega) (by first | with_reducible assumption | omega) (by first | with_reducible assumption | omega) (by first | with_reducible assumption | omega) (by first | with_reducible assumption | omega) (by first | with_reducible assumption | omega) (by first | with_reducible assumption | omega) (by first | with_reducible assumption | omega) (OPI_c ti4634 (by omega) (Or.inl (by omega))))
                · intro h4771
                  exfalso
                  omega
              · intro h4772
                exfalso
                omega
            · intro h4773
              refine wk_al0 r116_76 (wk_c2 r116_77 ?_)
              obtain ⟨v4774, e4775⟩ : ∃ v, M4579 739 36 = v := ⟨_, rfl⟩
              have h4776 := (bf_739_36 hP4580).1; rw [e4775] at h4776
              have h4777 := (bf_739_36 hP4580).2; rw [e4775] at h4777
              refine wk_cv2 r116_79 kc_739_88 rfl (m8088_739 _ M4579 40 v4594 v4774 x739_30 v4586 T hP4580 (by decide) (by decide) e4597 (by first | with_reducible assumption | omega) (by first | with_reducible assumption | omega) e4775 (by first | with_reducible assumption | omega) (by first | with_reducible assumption | omega) e4613 (by first | with_reducible assumption | omega) (by first | with_reducible assumption | omega) e4589 (by first | with_reducible assumption | omega) (by first | with_reducible assumption | omega) pr4618) (cqI ?_)
              rintro v4786 M4778 ⟨hP4779, hQ4780, h4787, h4788, h4782, h4783, h4784, xh4785⟩
              obtain rfl := Fr.same hQ4780
              have e4789 := e4597
              have e4790 := e4775
              refine wk_ifeq r116_82 ⟨by omega, by omega⟩ ?_ ?_
              · intro h4791
                clear h4782 h4783 h4784
                refine wk_c1 r116_89 (wk_is1 r116_90 rfl (wk_il1 r116_91 ?_))
                refine wk_ifeq r116_92 (by decide) ?_ ?_
                · intro h4792
                  refine wk_al0 r116_113 (wk_cv1 r116_114 kc_739_84 rfl (m8084_739 _ M4579 v4598 hP4580 e4601 (by first | with_reducible assumption | omega) (by first | with_reducible assumption | omega)) (cqI ?_))
                  rintro v4799 M4793 ⟨hP4794, hQ4795, h4800, h4801, h4797, h4798⟩
                  obtain rfl := Fr.same hQ4795
                  have e4802 := e4601
                  refine wk_ifeq r116_117 ⟨by omega, by omega⟩ ?_ ?_
                  · intro h4803
                    exfalso
                    omega
                  · intro h4804
                    refine wk_al0 r116_120 (wk_cv1 r116_121 kc_739_86 rfl (m8086_739 _ M4579 v4594 v4590 x739_30 v4586 T hP4580 e4597 (by first | with_reducible assumption | omega) (by first | with_reducible assumption | omega) e4593 (by first | with_reducible assumption | omega) (by first | with_reducible assumption | omega) e4613 (by first | with_reducible assumption | omega) (by first | with_reducible assumption | omega) e4589 (by first | with_reducible assumption | omega) (by first | with_reducible assumption | omega) pr4618) (cqI ?_))
                    rintro v4814 M4805 ⟨hP4806, hQ4807, h4815, h4816, h4809, h4810, h4811, h4812, xh4813⟩
                    obtain rfl := Fr.same hQ4807
                    have e4817 := e4593
                    have e4818 := e4597
                    refine wk_ifeq r116_124 ⟨by omega, by omega⟩ ?_ ?_
                    · intro h4819
                      clear h4809 h4810 h4811 h4812
                      refine wk_c1 r116_138 (wk_is1 r116_139 rfl (wk_goto r116_140 ?_))
                      exact wp_fg (le_s (le_s (le_s le_0))) (ih4983 (10 * (501 - v4586) + 0 + (6 - v4598)).toNat (by omega) M4579 0 v4582 v4586 v4590 v4594 v4598 v4415 v4602 v4423 v4427 v4606 rfl hP4580 hF4581 e4585 e4589 e4593 e4597 e4601 e4610 e4605 e4611 e4612 e4609 e4613 e4614 (by first | with_reducible assumption | omega) (by first | with_reducible assumption | omega) (by first | with_reducible assumption | omega) (by first | with_reducible assumption | omega) (by first | with_reducible assumption | omega) (by first | with_reducible assumption | omega) (by first | with_reducible assumption | omega) (by first | with_reducible assumption | omega) (by first | with_reducible assumption | omega) (by first | with_reducible assumption | omega) (by first | with_reducible assumption | omega) (by first | with_reducible assumption | omega) (by first | with_reducible assumption | omega) (by first | with_reducible assumption | omega) (by first | with_reducible assumption | omega) (by first | with_reducible assumption | omega) (by first | with_reducible assumption | omega) (by first | with_reducible assumption | omega) (by first | with_reducible assumption | omega) (by first | with_reducible assumption | omega) (by first | with_reducible assumption | omega) (by first | with_reducible assumption | omega) pr4615 pr4616 pr4617 pr4618 (by first | with_reducible assumption | omega) (by first | with_reducible assumption | omega) (by first | with_reducible assumption | omega) (by first | with_reducible assumption | omega) (by first | with_reducible assumption | omega) (by first | with_reducible assumption | omega) (by first | with_reducible assumption | omega) (by first | with_reducible assumption | omega) (by first | with_reducible assumption | omega) (by first | with_reducible assumption | omega) (by first | with_reducible assumption | omega) (by first | with_reducible assumption | omega) (by first | with_reducible assumption | omega) (by first | with_reducible assumption | omega) (by first | with_reducible assumption | omega) (OPI_c ti4634 (by omega) (Or.inr ⟨by omega, by omega, by omega, by omega, by omega⟩)))
                    · intro h4820
                      replace h4809 := h4809 (z1_of h4815 h4816 h4820)
                      replace h4810 := h4810 (z1_of h4815 h4816 h4820)
                      replace h4811 := h4811 (z1_of h4815 h4816 h4820)
                      replace h4812 := h4812 (z1_of h4815 h4816 h4820)
                      refine wk_al0 r116_127 (wk_cv1 r116_128 kc_739_112 rfl (m8112_739 _ M4579 x739_30 v4582 v4586 v4590 v4594 v4598 v4415 v4602 v4423 x739_38 v4774 v4427 v4606 s0 u0 T c0 v4576 hP4580 e4613 (by first | with_reducible assumption | omega) (by first | with_reducible assumption | omega) e4585 (by first | with_reducible assumption | omega) (by first | with_reducible assumption | omega) e4589 (by first | with_reducible assumption | omega) (by first | with_reducible assumption | omega) e4593 (by first | with_reducible assumption | omega) (by first | with_reducible assumption | omega) e4597 (by first | with_reducible assumption | omega) (by first | with_reducible assumption | omega) e4601 (by first | with_reducible assumption | omega) (by first | with_reducible assumption | omega) e4610 (by first | with_reducible assumption | omega) (by first | with_reducible assumption | omega) e4605 (by first | with_reducible assumption | omega) (by first | with_reducible assumption | omega) e4611 (by first | with_reducible assumption | omega) (by first | with_reducible assumption | omega) e4614 (by first | with_reducible assumption | omega) (by first | with_reducible assumption | omega) e4775 (by first | with_reducible assumption | omega) (by first | with_reducible assumption | omega) e4612 (by first | with_reducible assumption | omega) (by first | with_reducible assumption | omega) e4609 (by first | with_reducible assumption | omega) (by first | with_reducible assumption | omega) (by omega) (by omega) (by omega) (by omega) (by omega) (by omega) (by omega) (by omega) (by omega) (by omega) (RG_g ti4634 (by omega)) pr4615 (GE_of0 e4612 (by omega) pr4616) pr4617 pr4618) (cqI ?_))
                      rintro v4845 M4821 ⟨hP4822, hQ4823, h4846, h4847, h4825, h4826, h4827, h4828, h4829, h4830, h4831, h4832, h4833, h4834, h4835, h4836, h4837, h4838, h4839, xh4840, pr4841, pr4842, pr4843, pr4844⟩
                      have hF4824 : Fr fm_m8116_739 M0 M4821 := hF4581.tr hQ4823 rfl
                      have e4848 := ((hQ4823.at g_739_30 rfl).trans e4613)
                      obtain ⟨v4849, e4850⟩ : ∃ v, M4821 739 31 = v := ⟨_, rfl⟩
                      have h4851 := (bf_739_31 hP4822).1; rw [e4850] at h4851
                      have h4852 := (bf_739_31 hP4822).2; rw [e4850] at h4852
                      obtain ⟨v4853, e4854⟩ : ∃ v, M4821 739 33 = v := ⟨_, rfl⟩
                      have h4855 := (bf_739_33 hP4822).1; rw [e4854] at h4855
                      have h4856 := (bf_739_33 hP4822).2; rw [e4854] at h4856
                      obtain ⟨v4857, e4858⟩ : ∃ v, M4821 739 34 = v := ⟨_, rfl⟩
                      have h4859 := (bf_739_34 hP4822).1; rw [e4858] at h4859
                      have h4860 := (bf_739_34 hP4822).2; rw [e4858] at h4860
                      obtain ⟨v4861, e4862⟩ : ∃ v, M4821 739 32 = v := ⟨_, rfl⟩
                      have h4863 := (bf_739_32 hP4822).1; rw [e4862] at h4863
                      have h4864 := (bf_739_32 hP4822).2; rw [e4862] at h4864
                      obtain ⟨v4865, e4866⟩ : ∃ v, M4821 739 28 = v := ⟨_, rfl⟩
                      have h4867 := (bf_739_28 hP4822).1; rw [e4866] at h4867
                      have h4868 := (bf_739_28 hP4822).2; rw [e4866] at h4868
                      obtain ⟨v4869, e4870⟩ : ∃ v, M4821 739 47 = v := ⟨_, rfl⟩
                      have h4871 := (bf_739_47 hP4822).1; rw [e4870] at h4871
                      have h4872 := (bf_739_47 hP4822).2; rw [e4870] at h4872
                      obtain ⟨v4873, e4874⟩ : ∃ v, M4821 739 45 = v := ⟨_, rfl⟩
                      have h4875 := (bf_739_45 hP4822).1; rw [e4874] at h4875
                      have h4876 := (bf_739_45 hP4822).2; rw [e4874] at h4876
                      obtain ⟨v4877, e4878⟩ : ∃ v, M4821 739 46 = v := ⟨_, rfl⟩
                      have h4879 := (bf_739_46 hP4822).1; rw [e4878] at h4879
                      have h4880 := (bf_739_46 hP4822).2; rw [e4878] at h4880
                      obtain ⟨v4881, e4882⟩ : ∃ v, M4821 739 51 = v := ⟨_, rfl⟩
                      have h4883 := (bf_739_51 hP4822).1; rw [e4882] at h4883
                      have h4884 := (bf_739_51 hP4822).2; rw [e4882] at h4884
                      obtain ⟨v4885, e4886⟩ : ∃ v, M4821 739 29 = v := ⟨_, rfl⟩
                      have h4887 := (bf_739_29 hP4822).1; rw [e4886] at h4887
                      have h4888 := (bf_739_29 hP4822).2; rw [e4886] at h4888
                      refine wk_ifeq r116_131 ⟨by omega, by omega⟩ ?_ ?_
                      · intro h4889
                        refine wk_c1 r116_138 (wk_is1 r116_139 rfl (wk_goto r116_140 ?_))
                        exact wp_fg (le_s (le_s (le_s le_0))) (ih4983 (10 * (501 - v4853) + 0 + (6 - v4865)).toNat (by omega) M4821 0 v4849 v4853 v4857 v4861 v4865 v4873 v4877 v4869 v4881 v4885 rfl hP4822 hF4824 e4850 e4854 e4858 e4862 e4866 e4874 e4878 e4870 e4882 e4886 ((hQ4823.at g_739_30 rfl).trans e4613) ((hQ4823.at g_739_38 rfl).trans e4614) (by first | with_reducible assumption | omega) (by first | with_reducible assumption | omega) (by first | with_reducible assumption | omega) (by first | with_reducible assumption | omega) (by first | with_reducible assumption | omega) (by first | with_reducible assumption | omega) (by first | with_reducible assumption | omega) (by first | with_reducible assumption | omega) (by first | with_reducible assumption | omega) (by first | with_reducible assumption | omega) (by first | with_reducible assumption | omega) (by first | with_reducible assumption | omega) (by first | with_reducible assumption | omega) (by first | with_reducible assumption | omega) (by first | with_reducible assumption | omega) (by first | with_reducible assumption | omega) (by first | with_reducible assumption | omega) (by first | with_reducible assumption | omega) (by first | with_reducible assumption | omega) (by first | with_reducible assumption | omega) (by first | with_reducible assumption | omega) (by first | with_reducible assumption | omega) pr4841 pr4842 pr4843 pr4844 (by first | with_reducible assumption | omega) (by first | with_reducible assumption | omega) (by first | with_reducible assumption | omega) (by first | with_reducible assumption | omega) (by first | with_reducible assumption | omega) (by first | with_reducible assumption | omega) (by first | with_reducible assumption | omega) (by first | with_reducible assumption | omega) (by first | with_reducible assumption | omega) (by first | with_reducible assumption | omega) (by first | with_reducible assumption | omega) (by first | with_reducible assumption | omega) (by first | with_reducible assumption | omega) (by first | with_reducible assumption | omega) (by first | with_reducible assumption | omega) (OPI_b (RG_c (or_r xh4840 (by omega)) (by omega) (by omega) rfl (by omega) (by omega)) (by omega) (by omega)))
                      · intro h4890
                        refine wk_c1 r116_134 (wk_goto r116_135 (wk_is1 r116_139 rfl (wk_goto r116_140 ?_)))
                        exact wp_fg (le_s (le_s (le_s le_0))) (ih4983 (10 * (501 - v4853) + 1 + (6 - v4865)).toNat (by omega) M4821 1 v4849 v4853 v4857 v4861 v4865 v4873 v4877 v4869 v4881 v4885 rfl hP4822 hF4824 e4850 e4854 e4858 e4862 e4866 e4874 e4878 e4870 e4882 e4886 ((hQ4823.at g_739_30 rfl).trans e4613) ((hQ4823.at g_739_38 rfl).trans e4614) (by first | with_reducible assumption | omega) (by first | with_reducible assumption | omega) (by first | with_reducible assumption | omega) (by first | with_reducible assumption | omega) (by first | with_reducible assumption | omega) (by first | with_reducible assumption | omega) (by first | with_reducible assumption | omega) (by first | with_reducible assumption | omega) (by first | with_reducible assumption | omega) (by first | with_reducible assumption | omega) (by first | with_reducible assumption | omega) (by first | with_reducible assumption | omega) (by first | with_reducible assumption | omega) (by first | with_reducible assumption | omega) (by first | with_reducible assumption | omega) (by first | with_reducible assumption | omega) (by first | with_reducible assumption | omega) (by first | with_reducible assumption | omega) (by first | with_reducible assumption | omega) (by first | with_reducible assumption | omega) (by first | with_reducible assumption | omega) (by first | with_reducible assumption | omega) pr4841 pr4842 pr4843 pr4844 (by first | with_reducible assumption | omega) (by first | with_reducible assumption | omega) (by first | with_reducible assumption | omega) (by first | with_reducible assumption | omega) (by first | with_reducible assumption | omega) (by first | with_reducible assumption | omega) (by first | with_reducible assumption | omega) (by first | with_reducible assumption | omega) (by first | with_reducible assumption | omega) (by first | with_reducible assumption | omega) (by first | with_reducible assumption | omega) (by first | with_reducible assumption | omega) (by first | with_reducible assumption | omega) (by first | with_reducible assumption | omega) (by first | with_reducible assumption | omega) (OPI_a (RG_c (or_l xh4840 (by omega)) (by omega) (by omega) rfl (by omega) (by omega)) (by omega)))
                · intro h4891
                  exfalso
                  omega
              · intro h4892
                replace h4782 := h4782 (z1_of h4787 h4788 h4892)
                replace h4783 := h4783 (z1_of h4787 h4788 h4892)
                replace h4784 := h4784 (z1_of h4787 h4788 h4892)
                refine wk_c1 r116_85 (wk_goto r116_86 (wk_is1 r116_90 rfl (wk_il1 r116_91 ?_)))
                refine wk_ifeq r116_92 (by decide) ?_ ?_
                · intro h4893
                  exfalso
                  omega
                · intro h4894
                  refine wk_al0 r116_95 (wk_c2 r116_96 (wk_c1 r116_98 (wk_cv3 r116_99 kc_739_133 rfl (m8133_739 _ M4579 14 0 v4602 hP4580 (by decide) (by decide) (by decide) (by decide) e4605 (by first | with_reducible assumption | omega) (by first | with_reducible assumption | omega)) (cqV ?_))))
                  rintro M4895 ⟨hP4896, hQ4897, h4899, h4900, xh4901⟩
                  have hF4898 : Fr fm_m8116_739 M0 M4895 := hF4581.tr hQ4897 rfl
                  obtain ⟨v4902, e4903⟩ : ∃ v, M4895 739 46 = v := ⟨_, rfl⟩
                  have h4904 := (bf_739_46 hP4896).1; rw [e4903] at h4904
                  have h4905 := (bf_739_46 hP4896).2; rw [e4903] at h4905
                  have pr4906 : GE M4895 s0 u0 0 1 := GE_par xh4901 (GE_of0 e4612 (by omega) pr4616) (by omega)
                  refine wk_al0 r116_102 (wk_cv1 r116_103 kc_739_76 rfl (m8076_739 _ M4895 x739_30 v4582 T hP4896 ((hQ4897.at g_739_30 rfl).trans e4613) (by first | with_reducible assumption | omega) (by first | with_reducible assumption | omega) ((hQ4897.at g_739_31 rfl).trans e4585) (by first | with_reducible assumption | omega) (by first | with_reducible assumption | omega) (by omega) (TXQ_sm (Sm.fr hQ4897 rfl) pr4617)) (cqV ?_))
                  rintro M4907 ⟨hP4908, hQ4909, h4911, h4912, h4913, h4914, h4915, xh4916, pr4917, pr4918, pr4919⟩
                  have hF4910 : Fr fm_m8116_739 M0 M4907 := hF4898.tr hQ4909 rfl
                  have e4920 := ((hQ4909.at g_739_30 rfl).trans ((hQ4897.at g_739_30 rfl).trans e4613))
                  obtain ⟨v4921, e4922⟩ : ∃ v, M4907 739 31 = v := ⟨_, rfl⟩
                  have h4923 := (bf_739_31 hP4908).1; rw [e4922] at h4923
                  have h4924 := (bf_739_31 hP4908).2; rw [e4922] at h4924
                  obtain ⟨v4925, e4926⟩ : ∃ v, M4907 739 33 = v := ⟨_, rfl⟩
                  have h4927 := (bf_739_33 hP4908).1; rw [e4926] at h4927
                  have h4928 := (bf_739_33 hP4908).2; rw [e4926] at h4928
                  obtain ⟨v4929, e4930⟩ : ∃ v, M4907 739 34 = v := ⟨_, rfl⟩
                  have h4931 := (bf_739_34 hP4908).1; rw [e4930] at h4931
                  have h4932 := (bf_739_34 hP4908).2; rw [e4930] at h4932
                  obtain ⟨v4933, e4934⟩ : ∃ v, M4907 739 32 = v := ⟨_, rfl⟩
                  have h4935 := (bf_739_32 hP4908).1; rw [e4934] at h4935
                  have h4936 := (bf_739_32 hP4908).2; rw [e4934] at h4936
                  have hn4937 := nx_ofm (TTP_sm (Sm.fr hQ4897 rfl) pr4618) ((hQ4897.at g_739_30 rfl).trans e4613) ((hQ4897.at g_739_33 rfl).trans e4589) ((hQ4897.at g_739_31 rfl).trans e4585) xh4916
                  refine wk_al0 r116_106 (wk_cv1 r116_107 kc_739_62 rfl (m8062_739 _ M4907 x739_30 v4921 v4925 v4929 v4933 v4598 v4415 v4902 v4423 v4606 x739_38 s0 u0 T c0 hP4908 ((hQ4909.at g_739_30 rfl).trans ((hQ4897.at g_739_30 rfl).trans e4613)) (by first | with_reducible assumption | omega) (by first | with_reducible assumption | omega) e4922 (by first | with_reducible assumption | omega) (by first | with_reducible assumption | omega) e4926 (by first | with_reducible assumption | omega) (by first | with_reducible assumption | omega) e4930 (by first | with_reducible assumption | omega) (by first | with_reducible assumption | omega) e4934 (by first | with_reducible assumption | omega) (by first | with_reducible assumption | omega) ((hQ4909.at g_739_28 rfl).trans ((hQ4897.at g_739_28 rfl).trans e4601)) (by first | with_reducible assumption | omega) (by first | with_reducible assumption | omega) ((hQ4909.at g_739_45 rfl).trans ((hQ4897.at g_739_45 rfl).trans e4610)) (by first | with_reducible assumption | omega) (by first | with_reducible assumption | omega) ((hQ4909.at g_739_46 rfl).trans e4903) (by first | with_reducible assumption | omega) (by first | with_reducible assumption | omega) ((hQ4909.at g_739_47 rfl).trans ((hQ4897.at g_739_47 rfl).trans e4611)) (by first | with_reducible assumption | omega) (by first | with_reducible assumption | omega) ((hQ4909.at g_739_29 rfl).trans ((hQ4897.at g_739_29 rfl).trans e4609)) (by first | with_reducible assumption | omega) (by first | with_reducible assumption | omega) ((hQ4909.at g_739_38 rfl).trans ((hQ4897.at g_739_38 rfl).trans e4614)) (by first | with_reducible assumption | omega) (by first | with_reducible assumption | omega) (by omega) (by omega) (by omega) (by omega) (by omega) (by omega) (o95 ti4634 (by omega) (by omega) (by omega) (by omega)) pr4917 (GE_sm (Sm.fr hQ4909 rfl) pr4906) pr4918 pr4919) (cqV ?_))
                  rintro M4938 ⟨hP4939, hQ4940, h4942, h4943, h4944, h4945, h4946, h4947, h4948, h4949, h4950, h4951, h4952, h4953, h4954, h4955, h4956, xh4957, pr4958, pr4959, pr4960, pr4961⟩
                  have hF4941 : Fr fm_m8116_739 M0 M4938 := hF4910.tr hQ4940 rfl
                  have e4962 := ((hQ4940.at g_739_30 rfl).trans ((hQ4909.at g_739_30 rfl).trans ((hQ4897.at g_739_30 rfl).trans e4613)))
                  have e4963 := ((hQ4940.at g_739_31 rfl).trans e4922)
                  have e4964 := ((hQ4940.at g_739_33 rfl).trans e4926)
                  have e4965 := ((hQ4940.at g_739_34 rfl).trans e4930)
                  have e4966 := ((hQ4940.at g_739_32 rfl).trans e4934)
                  obtain ⟨v4967, e4968⟩ : ∃ v, M4938 739 28 = v := ⟨_, rfl⟩
                  have h4969 := (bf_739_28 hP4939).1; rw [e4968] at h4969
                  have h4970 := (bf_739_28 hP4939).2; rw [e4968] at h4970
                  have e4971 := ((hQ4940.at g_739_45 rfl).trans ((hQ4909.at g_739_45 rfl).trans ((hQ4897.at g_739_45 rfl).trans e4610)))
                  have e4972 := ((hQ4940.at g_739_46 rfl).trans ((hQ4909.at g_739_46 rfl).trans e4903))
                  obtain ⟨v4973, e4974⟩ : ∃ v, M4938 739 47 = v := ⟨_, rfl⟩
                  have h4975 := (bf_739_47 hP4939).1; rw [e4974] at h4975
                  have h4976 := (bf_739_47 hP4939).2; rw [e4974] at h4976
                  obtain ⟨v4977, e4978⟩ : ∃ v, M4938 739 29 = v := ⟨_, rfl⟩
                  have h4979 := (bf_739_29 hP4939).1; rw [e4978] at h4979
                  have h4980 := (bf_739_29 hP4939).2; rw [e4978] at h4980
                  refine wk_goto r116_110 ?_
                  exact wp_fg (le_s (le_s (le_s le_0))) (ih4983 (10 * (501 - v4925) + 1 + (6 - v4967)).toNat (by omega) M4938 1 v4921 v4925 v4929 v4933 v4967 v4415 v4902 v4973 v4427 v4977 rfl hP4939 hF4941 ((hQ4940.at g_739_31 rfl).trans e4922) ((hQ4940.at g_739_33 rfl).trans e4926) ((hQ4940.at g_739_34 rfl).trans e4930) ((hQ4940.at g_739_32 rfl).trans e4934) e4968 ((hQ4940.at g_739_45 rfl).trans ((hQ4909.at g_739_45 rfl).trans ((hQ4897.at g_739_45 rfl).trans e4610))) ((hQ4940.at g_739_46 rfl).trans ((hQ4909.at g_739_46 rfl).trans e4903)) e4974 ((hQ4940.at g_739_51 rfl).trans ((hQ4909.at g_739_51 rfl).trans ((hQ4897.at g_739_51 rfl).trans e4612))) e4978 ((hQ4940.at g_739_30 rfl).trans ((hQ4909.at g_739_30 rfl).trans ((hQ4897.at g_739_30 rfl).trans e4613))) ((hQ4940.at g_739_38 rfl).trans ((hQ4909.at g_739_38 rfl).trans ((hQ4897.at g_739_38 rfl).trans e4614))) (by first | with_reducible assumption | omega) (by first | with_reducible assumption | omega) (by first | with_reducible assumption | omega) (by first | with_reducible assumption | omega) (by first | with_reducible assumption | omega) (by first | with_reducible assumption | omega) (by first | with_reducible assumption | omega) (by first | with_reducible assumption | omega) (by first | with_reducible assumption | omega) (by first | with_reducible assumption | omega) (by first | with_reducible assumption | omega) (by first | with_reducible assumption | omega) (by first | with_reducible assumption | omega) (by first | with_reducible assumption | omega) (by first | with_reducible assumption | omega) (by first | with_reducible assumption | omega) (by first | with_reducible assumption | omega) (by first | with_reducible assumption | omega) (by first | with_reducible assumption | omega) (by first | with_reducible assumption | omega) (by first | with_reducible assumption | omega) (by first | with_reducible assumption | omega) pr4958 (GH_of0 ((hQ4940.at g_739_51 rfl).trans ((hQ4909.at g_739_51 rfl).trans ((hQ4897.at g_739_51 rfl).trans e4612))) (by omega) pr4959) pr4960 pr4961 (by first | with_reducible assumption | omega) (by first | with_reducible assumption | omega) (by first | with_reducible assumption | omega) (by first | with_reducible assumption | omega) (by first | with_reducible assumption | omega) (by first | with_reducible assumption | omega) (by first | with_reducible assumption | omega) (by first | with_reducible assumption | omega) (by first | with_reducible assumption | omega) (by first | with_reducible assumption | omega) (by first | with_reducible assumption | omega) (by first | with_reducible assumption | omega) (by first | with_reducible assumption | omega) (by first | with_reducible assumption | omega) (by first | with_reducible assumption | omega) (OPI_a (RG_c xh4957 (by omega) (by omega) rfl (by omega) (by omega)) (by omega)))
          refine wk_ifeq r116_19 ⟨by omega, by omega⟩ ?_ ?_
          · intro h4645
            exact wp_fg (le_s (le_s (le_n le_0))) (c69_4981 (by omega))
          · intro h4646
            refine wk_al0 r116_22 (wk_cv1 r116_23 kc_739_97 rfl (m8097_739 _ M4579 v4594 v4590 x739_30 v4586 T hP4580 e4597 (by first | with_reducible assumption | omega) (by first | with_reducible assumption | omega) e4593 (by first | with_reducible assumption | omega) (by first | with_reducible assumption | omega) e4613 (by first | with_reducible assumption | omega) (by first | with_reducible assumption | omega) e4589 (by first | with_reducible assumption | omega) (by first | with_reducible assumption | omega) pr4615 pr4618) (cqI ?_))
            rintro v4653 M4647 ⟨hP4648, hQ4649, h4654, h4655, h4651, xh4652⟩
            obtain rfl := Fr.same hQ4649
            have e4656 := e4593
            refine wk_c2 r116_26 ?_
            refine wk_icne r116_28 ⟨by omega, by omega⟩ (by decide) ?_ ?_
            · intro h4657
              exact wp_fg (le_s (le_s (le_n le_0))) (c69_4981 (by omega))
            · intro h4658
              refine wk_il2 r116_31 (wk_c2 r116_32 ?_)
              refine wk_icne r116_34 ⟨by omega, by omega⟩ (by decide) ?_ ?_
              · intro h4659
                refine wk_inc2 r116_42 rfl (wk_al0 r116_45 (wk_cv1 r116_46 kc_739_84 rfl (m8084_739 _ M4579 v4598 hP4580 e4601 (by first | with_reducible assumption | omega) (by first | with_reducible assumption | omega)) (cqI ?_)))
                rintro v4666 M4660 ⟨hP4661, hQ4662, h4667, h4668, h4664, h4665⟩
                obtain rfl := Fr.same hQ4662
                have e4669 := e4601
                refine wk_ifne r116_49 ⟨by omega, by omega⟩ ?_ ?_
                · intro h4670
                  refine wk_al0 r116_55 (wk_c2 r116_56 (wk_c1 r116_58 (wk_cv3 r116_59 kc_739_133 rfl (m8133_739 _ M4579 10 0 v4602 hP4580 (by decide) (by decide) (by decide) (by decide) e4605 (by first | with_reducible assumption | omega) (by first | with_reducible assumption | omega)) (cqV ?_))))
                  rintro M4671 ⟨hP4672, hQ4673, h4675, h4676, xh4677⟩
                  have hF4674 : Fr fm_m8116_739 M0 M4671 := hF4581.tr hQ4673 rfl
                  obtain ⟨v4678, e4679⟩ : ∃ v, M4671 739 46 = v := ⟨_, rfl⟩
                  have h4680 := (bf_739_46 hP4672).1; rw [e4679] at h4680
                  have h4681 := (bf_739_46 hP4672).2; rw [e4679] at h4681
                  have pr4682 : GH M4671 s0 u0 := GH_no xh4677 pr4616 (by omega)
                  refine wk_al0 r116_62 (wk_cv1 r116_63 kc_739_76 rfl (m8076_739 _ M4671 x739_30 v4582 T hP4672 ((hQ4673.at g_739_30 rfl).trans e4613) (by first | with_reducible assumption | omega) (by first | with_reducible assumption | omega) ((hQ4673.at g_739_31 rfl).trans e4585) (by first | with_reducible assumption | omega) (by first | with_reducible assumption | omega) (by omega) (TXQ_sm (Sm.fr hQ4673 rfl) pr4617)) (cqV ?_))
                  rintro M4683 ⟨hP4684, hQ4685, h4687, h4688, h4689, h4690, h4691, xh4692, pr4693, pr4694, pr4695⟩
                  have hF4686 : Fr fm_m8116_739 M0 M4683 := hF4674.tr hQ4685 rfl
                  have e4696 := ((hQ4685.at g_739_30 rfl).trans ((hQ4673.at g_739_30 rfl).trans e4613))
                  obtain ⟨v4697, e4698⟩ : ∃ v, M4683 739 31 = v := ⟨_, rfl⟩
                  have h4699 := (bf_739_31 hP4684).1; rw [e4698] at h4699
                  have h4700 := (bf_739_31 hP4684).2; rw [e4698] at h4700
                  obtain ⟨v4701, e4702⟩ : ∃ v, M4683 739 33 = v := ⟨_, rfl⟩
                  have h4703 := (bf_739_33 hP4684).1; rw [e4702] at h4703
                  have h4704 := (bf_739_33 hP4684).2; rw [e4702] at h4704
                  obtain ⟨v4705, e4706⟩ : ∃ v, M4683 739 34 = v := ⟨_, rfl⟩
                  have h4707 := (bf_739_34 hP4684).1; rw [e4706] at h4707
                  have h4708 := (bf_739_34 hP4684).2; rw [e4706] at h4708
                  obtain ⟨v4709, e4710⟩ : ∃ v, M4683 739 32 = v := ⟨_, rfl⟩
                  have h4711 := (bf_739_32 hP4684).1; rw [e4710] at h4711
                  have h4712 := (bf_739_32 hP4684).2; rw [e4710] at h4712
                  have hn4713 := nx_ofm (TTP_sm (Sm.fr hQ4673 rfl) pr4618) ((hQ4673.at g_739_30 rfl).trans e4613) ((hQ4673.at g_739_33 rfl).trans e4589) ((hQ4673.at g_739_31 rfl).trans e4585) xh4692
                  refine wk_goto r116_66 ?_
                  exact wp_fg (le_s (le_s (le_s le_0))) (ih4982 (10 * (501 - v4701) + (6 - v4598)).toNat (by omega) M4683 (v4576 + 1) v4697 v4701 v4705 v4709 v4598 v4678 v4606 rfl hP4684 hF4686 e4698 e4702 e4706 e4710 ((hQ4685.at g_739_28 rfl).trans ((hQ4673.at g_739_28 rfl).trans e4601)) ((hQ4685.at g_739_46 rfl).trans e4679) ((hQ4685.at g_739_29 rfl).trans ((hQ4673.at g_739_29 rfl).trans e4609)) ((hQ4685.at g_739_45 rfl).trans ((hQ4673.at g_739_45 rfl).trans e4610)) ((hQ4685.at g_739_47 rfl).trans ((hQ4673.at g_739_47 rfl).trans e4611)) ((hQ4685.at g_739_51 rfl).trans ((hQ4673.at g_739_51 rfl).trans e4612)) ((hQ4685.at g_739_30 rfl).trans ((hQ4673.at g_739_30 rfl).trans e4613)) ((hQ4685.at g_739_38 rfl).trans ((hQ4673.at g_739_38 rfl).trans e4614)) (by first | with_reducible assumption | omega) (by first | with_reducible assumption | omega) (by first | with_reducible assumption | omega) (by first | with_reducible assumption | omega) (by first | with_reducible assumption | omega) (by first | with_reducible assumption | omega) (by first | with_reducible assumption | omega) (by first | with_reducible assumption | omega) (by first | with_reducible assumption | omega) (by first | with_reducible assumption | omega) (by first | with_reducible assumption | omega) (by first | with_reducible assumption | omega) (by first | with_reducible assumption | omega) (by first | with_reducible assumption | omega) (by first | with_reducible assumption | omega) (by first | with_reducible assumption | omega) pr4693 (GH_sm (Sm.fr hQ4685 rfl) pr4682) pr4694 pr4695 (by first | with_reducible assumption | omega) (by first | with_reducible assumption | omega) (by first | with_reducible assumption | omega) (by first | with_reducible assumption | omega) (by first | with_reducible assumption | omega) (by first | with_reducible assumption | omega) (by first | with_reducible assumption | omega) (by first | with_reducible assumption | omega) (by first | with_reducible assumption | omega) (by first | with_reducible assumption | omega) (by first | with_reducible assumption | omega) (by first | with_reducible assumption | omega) (by first | with_reducible assumption | omega) (by first | with_reducible assumption | omega) (by first | with_reducible assumption | omega) (o15 ti4634 (by omega) (by omega) (Or.inr ⟨by omega, by omega, by omega, by omega⟩)))
                · intro h4714
                  exfalso
                  omega
              · intro h4715
                refine wk_al0 r116_37 (wk_c1 r116_38 (wk_cv2 r116_39 kc_739_137 rfl (m8137_739 _ M4579 2 v4598 v4586 v4606 hP4580 (by decide) (by decide) e4601 (by first | with_reducible assumption | omega) (by first | with_reducible assumption | omega) e4589 (by first | with_reducible assumption | omega) (by first | with_reducible assumption | omega) e4609 (by first | with_reducible assumption | omega) (by first | with_reducible assumption | omega)) (cqV ?_)))
                rintro M4716 ⟨hP4717, hQ4718, h4720, h4721, h4722, h4723, h4724, xh4725⟩
                have hF4719 : Fr fm_m8116_739 M0 M4716 := hF4581.tr hQ4718 rfl
                obtain ⟨v4726, e4727⟩ : ∃ v, M4716 739 28 = v := ⟨_, rfl⟩
                have h4728 := (bf_739_28 hP4717).1; rw [e4727] at h4728
                have h4729 := (bf_739_28 hP4717).2; rw [e4727] at h4729
                obtain ⟨v4730, e4731⟩ : ∃ v, M4716 739 29 = v := ⟨_, rfl⟩
                have h4732 := (bf_739_29 hP4717).1; rw [e4731] at h4732
                have h4733 := (bf_739_29 hP4717).2; rw [e4731] at h4733
                have pr4734 : GH M4716 s0 u0 := GH_mn (Sm.fr hQ4718 rfl) (fun q => by have := e4601; have := e4727; omega) pr4616
                refine wk_inc2 r116_42 rfl (wk_al0 r116_45 (wk_cv1 r116_46 kc_739_84 rfl (m8084_739 _ M4716 v4726 hP4717 e4727 (by first | with_reducible assumption | omega) (by first | with_reducible assumption | omega)) (cqI ?_)))
                rintro v4741 M4735 ⟨hP4736, hQ4737, h4742, h4743, h4739, h4740⟩
                obtain rfl := Fr.same hQ4737
                have e4744 := e4727
                refine wk_ifne r116_49 ⟨by omega, by omega⟩ ?_ ?_
                · intro h4745
                  exfalso
                  omega
                · intro h4746
                  refine wk_goto r116_52 ?_
                  exact wp_fg (le_s (le_s (le_s le_0))) (ih4982 (10 * (501 - v4586) + (6 - v4726)).toNat (by omega) M4716 (v4576 + 1) v4582 v4586 v4590 v4594 v4726 v4602 v4730 rfl hP4717 hF4719 ((hQ4718.at g_739_31 rfl).trans e4585) ((hQ4718.at g_739_33 rfl).trans e4589) ((hQ4718.at g_739_34 rfl).trans e4593) ((hQ4718.at g_739_32 rfl).trans e4597) e4727 ((hQ4718.at g_739_46 rfl).trans e4605) e4731 ((hQ4718.at g_739_45 rfl).trans e4610) ((hQ4718.at g_739_47 rfl).trans e4611) ((hQ4718.at g_739_51 rfl).trans e4612) ((hQ4718.at g_739_30 rfl).trans e4613) ((hQ4718.at g_739_38 rfl).trans e4614) (by first | with_reducible assumption | omega) (by first | with_reducible assumption | omega) (by first | with_reducible assumption | omega) (by first | with_reducible assumption | omega) (by first | with_reducible assumption | omega) (by first | with_reducible assumption | omega) (by first | with_reducible assumption | omega) (by first | with_reducible assumption | omega) (by first | with_reducible assumption | omega) (by first | with_reducible assumption | omega) (by first | with_reducible assumption | omega) (by first | with_reducible assumption | omega) (by first | with_reducible assumption | omega) (by first | with_reducible assumption | omega) (by first | with_reducible assumption | omega) (by first | with_reducible assumption | omega) (TK_sm (Sm.fr hQ4718 rfl) pr4615) pr4734 (TXQ_sm (Sm.fr hQ4718 rfl) pr4617) (TTP_sm (Sm.fr hQ4718 rfl) pr4618) (by first | with_reducible assumption | omega) (by first | with_reducible assumption | omega) (by first | with_reducible assumption | omega) (by first | with_reducible assumption | omega) (by first | with_reducible assumption | omega) (by first | with_reducible assumption | omega) (by first | with_reducible assumption | omega) (by first | with_reducible assumption | omega) (by first | with_reducible assumption | omega) (by first | with_reducible assumption | omega) (by first | with_reducible assumption | omega) (by first | with_reducible assumption | omega) (by first | with_reducible assumption | omega) (by first | with_reducible assumption | omega) (by first | with_reducible assumption | omega) (o15 ti4634 (by omega) (by omega) (Or.inl ⟨by omega, by omega, by omega⟩)))
        exact wp_fg (le_s (le_n (le_s le_0))) (c15_4982 _ M4392 0 v4395 v4399 v4403 v4407 v4411 v4419 v4431 rfl hP4393 hF4394 e4398 e4402 e4406 e4410 e4414 e4422 e4434 e4418 e4426 e4430 e4435 e4436 (by first | with_reducible assumption | omega) (by first | with_reducible assumption | omega) (by first | with_reducible assumption | omega) (by first | with_reducible assumption | omega) (by first | with_reducible assumption | omega) (by first | with_reducible assumption | omega) (by first | with_reducible assumption | omega) (by first | with_reducible assumption | omega) (by first | with_reducible assumption | omega) (by first | with_reducible assumption | omega) (by first | with_reducible assumption | omega) (by first | with_reducible assumption | omega) (by first | with_reducible assumption | omega) (by first | with_reducible assumption | omega) (by first | with_reducible assumption | omega) (by first | with_reducible assumption | omega) pr4437 pr4438 pr4439 pr4440 (by first | with_reducible assumption | omega) (by first | with_reducible assumption | omega) (by first | with_reducible assumption | omega) (by first | with_reducible assumption | omega) (by first | with_reducible assumption | omega) (by first | with_reducible assumption | omega) (by first | with_reducible assumption | omega) (by first | with_reducible assumption | omega) (by first | with_reducible assumption | omega) (by first | with_reducible assumption | omega) (by first | with_reducible assumption | omega) (by first | with_reducible assumption | omega) (by first | with_reducible assumption | omega) (by first | with_reducible assumption | omega) (by first | with_reducible assumption | omega) (OPI_1 ti4456 (by omega)))
  exact wp_fg (le_s (le_s (le_s le_0))) (c2_4983 _ M0 1 x739_31 x739_33 x739_34 x739_32 x739_28 x739_45 x739_46 x739_47 x739_51 x739_29 rfl hP0 hF0 ex739_31 ex739_33 ex739_34 ex739_32 ex739_28 ex739_45 ex739_46 ex739_47 ex739_51 ex739_29 ex739_30 ex739_38 (by first | with_reducible assumption | omega) (by first | with_reducible assumption | omega) (by first | with_reducible assumption | omega) (by first | with_reducible assumption | omega) (by first | with_reducible assumption | omega) (by first | with_reducible assumption | omega) (by first | with_reducible assumption | omega) (by first | with_reducible assumption | omega) (by first | with_reducible assumption | omega) (by first | with_reducible assumption | omega) (by first | with_reducible assumption | omega) (by first | with_reducible assumption | omega) (by first | with_reducible assumption | omega) (by first | with_reducible assumption | omega) (by first | with_reducible assumption | omega) (by first | with_reducible assumption | omega) (by first | with_reducible assumption | omega) (by first | with_reducible assumption | omega) (by first | with_reducible assumption | omega) (by first | with_reducible assumption | omega) (by first | with_reducible assumption | omega) (by first | with_reducible assumption | omega) pp_TK (GH_of0 ex739_51 (by omega) pp_E0) pp_TQ pp_TT (by first | with_reducible assumption | omega) (by first | with_reducible assumption | omega) (by first | with_reducible assumption | omega) (by first | with_reducible assumption | omega) (by first | with_reducible assumption | omega) (by first | with_reducible assumption | omega) (by first | with_reducible assumption | omega) (by first | with_reducible assumption | omega) (by first | with_reducible assumption | omega) (by first | with_reducible assumption | omega) (by first | with_reducible assumption | omega) (by first | with_reducible assumption | omega) (by first | with_reducible assumption | omega) (by first | with_reducible assumption | omega) (by first | with_reducible assumption | omega) (OPI_a xp0 (by omega)))
def fm_m8130 : Nat := 0
/-- IslandHallModel.strength -/
theorem m8130 {B : eB} (d : Nat) (M0 : Mm) (p0 : Int) (hP0 : Pw M0) (l0 : 0 ≤ p0) (u0 : p0 ≤ 15) : Ct B (d + 1) 130 [I p0] M0 (qI fun z M => Pw M ∧ Fr fm_m8130 M0 M ∧ 0 ≤ z ∧ z ≤ 3 ∧ (z = 0 → p0 = 14)) := by
  refine ct_of (d := d + 0) (k := 0) (L := [some (I p0)]) rfl rfl rfl ?_
  have hF0 := Fr.rf fm_m8130 M0
  generalize hQ : (qI fun z M => Pw M ∧ Fr fm_m8130 M0 M ∧ 0 ≤ z ∧ z ≤ 3 ∧ (z = 0 → p0 = 14)) = Q
  refine wk_il0 r130_0 (wk_c2 r130_1 ?_)
  refine wk_icne r130_3 ⟨by omega, by omega⟩ (by decide) ?_ ?_
  · intro h1
    refine wk_il0 r130_10 (wk_c2 r130_11 ?_)
    refine wk_icne r130_13 ⟨by omega, by omega⟩ (by decide) ?_ ?_
    · intro h2
      refine wk_il0 r130_20 (wk_c2 r130_21 ?_)
      refine wk_icne r130_23 ⟨by omega, by omega⟩ (by decide) ?_ ?_
      · intro h3
        refine wk_c1 r130_30 ?_
        subst hQ; exact wk_iret r130_31 (⟨rfl, _, rfl, hP0, hF0, by omega, by omega, by intro q; omega⟩)
      · intro h4
        refine wk_c1 r130_26 (wk_goto r130_27 ?_)
        subst hQ; exact wk_iret r130_31 (⟨rfl, _, rfl, hP0, hF0, by omega, by omega, by intro q; omega⟩)
    · intro h5
      refine wk_c1 r130_16 (wk_goto r130_17 ?_)
      subst hQ; exact wk_iret r130_31 (⟨rfl, _, rfl, hP0, hF0, by omega, by omega, by intro q; omega⟩)
  · intro h6
    refine wk_c1 r130_6 (wk_goto r130_7 ?_)
    subst hQ; exact wk_iret r130_31 (⟨rfl, _, rfl, hP0, hF0, by omega, by omega, by intro q; omega⟩)
def fm_m8063_739 : Nat := 452312848584500516791315064721803366938753890478895505178356372428422119424
/-- IslandHallModel.drops -/
theorem m8063_739 {B : eB} (d : Nat) (M0 : Mm) (p1 : Int) (x739_45 : Int) (x739_46 : Int) (x739_47 : Int) (s0 : Int) (u0 : Int → Int) (hP0 : Pw M0) (l1 : 1 ≤ p1) (u1 : p1 ≤ 2) (ex739_45 : M0 739 45 = x739_45) (lx739_45 : 0 ≤ x739_45) (ux739_45 : x739_45 ≤ 1000) (ex739_46 : M0 739 46 = x739_46) (lx739_46 : 0 ≤ x739_46) (ux739_46 : x739_46 ≤ 520) (ex739_47 : M0 739 47 = x739_47) (lx739_47 : 0 ≤ x739_47) (ux739_47 : x739_47 ≤ 500) (rp0 : 0 ≤ (-2) * x739_45 + (-2) * x739_46 + 520) (pp_E1 : GE M0 s0 u0 1 0) : Ct B (d + 2) 63 [R 739, I p1] M0 (qV fun M => Pw M ∧ Fr fm_m8063_739 M0 M ∧ 0 ≤ M 739 45 + M 739 46 + (-1) * x739_45 + (-1) * x739_46 ∧ 0 ≤ (-1) * (M 739 45) + (-1) * (M 739 46) + x739_45 + x739_46 ∧ 0 ≤ x739_46 + (-1) * (M 739 46) ∧ (p1 = 1 → M 739 46 = 0 ∨ M 758 (M 739 46 - 1) % 16 = 14) ∧ (GE M s0 u0 1 0)) := by
  refine ct_of (d := d + 1) (k := 0) (L := [some (R 739), some (I p1)]) rfl rfl rfl ?_
  have hF0 := Fr.rf fm_m8063_739 M0
  generalize hQ : (qV fun M => Pw M ∧ Fr fm_m8063_739 M0 M ∧ 0 ≤ M 739 45 + M 739 46 + (-1) * x739_45 + (-1) * x739_46 ∧ 0 ≤ (-1) * (M 739 45) + (-1) * (M 739 46) + x739_45 + x739_46 ∧ 0 ≤ x739_46 + (-1) * (M 739 46) ∧ (p1 = 1 → M 739 46 = 0 ∨ M 758 (M 739 46 - 1) % 16 = 14) ∧ (GE M s0 u0 1 0)) = Q
  have c0_109 : ∀ (k109 : Nat) (M51 : Mm) (v54 : Int) (v58 : Int), (260 - v54).toNat = k109 → Pw M51 → Fr fm_m8063_739 M0 M51 → M51 739 45 = v54 → M51 739 46 = v58 → M51 739 47 = x739_47 → 0 ≤ v54 → v54 ≤ 260 → 0 ≤ v58 → v58 ≤ 260 → (GE M51 s0 u0 1 0) → 0 ≤ v54 + v58 + (-1) * x739_45 + (-1) * x739_46 → 0 ≤ (-1) * v54 + (-1) * v58 + x739_45 + x739_46 → 0 ≤ x739_46 + (-1) * v58 → 0 ≤ (-1) * v54 + v58 + 260 → 0 ≤ (-1) * v58 + v54 + 260 → Wp B (d + 1) 63 0 [some (R 739), some (I p1)] [] M51 Q := by
    refine lp_ind ?_
    intro k109 ih109 M51 v54 v58 hk109 hP52 hF53 e57 e61 e62 h55 h56 h59 h60 pr63 h64 h65 h66 h67 h68
    refine wk_al0 r63_0 (wk_getfi r63_1 fd_739_46 e61 ?_)
    refine wk_ifle r63_4 ⟨by omega, by omega⟩ ?_ ?_
    · intro h69
      subst hQ; exact wk_ret r63_78 (⟨rfl, hP52, hF53, by have := e57; have := e61; omega, by have := e57; have := e61; omega, by have := e61; omega, fun _ => Or.inl (by have := e61; omega), pr63⟩)
    · intro h70
      refine wk_al0 r63_7 (wk_getfr r63_8 fd_739_50 (br_739_50 hP52) (wk_al0 r63_11 (wk_getfi r63_12 fd_739_46 e61 (wk_c1 r63_15 (wk_isub r63_16 (wk_ialdb r63_17 ar_758 ⟨by omega, by omega⟩ (fun q0 q1 => ba_758 hP52 q0 q1) ?_))))))
      intro v71 h73 h74 e72
      refine wk_c2 r63_18 (wk_irem r63_20 ⟨by omega, by omega⟩ (by decide) (wk_cs102_1 r63_21 rfl (m8130 _ M51 (v71 % 16) hP52 (by first | with_reducible assumption | omega) (by first | with_reducible assumption | omega)) (cqI ?_)))
      rintro v81 M76 ⟨hP77, hQ78, h82, h83, xh80⟩
      obtain rfl := Fr.same hQ78
      refine wk_il1 r63_24 ?_
      refine wk_iclt r63_25 ⟨by omega, by omega⟩ ⟨by omega, by omega⟩ ?_ ?_
      · intro h84
        subst hQ; exact wk_ret r63_78 (⟨rfl, hP52, hF53, by have := e57; have := e61; omega, by have := e57; have := e61; omega, by have := e61; omega, fun q => Or.inr (by rw [e61, e72]; omega), pr63⟩)
      · intro h85
        refine wk_al0 r63_28 (wk_getfr r63_29 fd_739_50 (br_739_50 hP52) (wk_al0 r63_32 (wk_getfi r63_33 fd_739_46 e61 (wk_c1 r63_36 (wk_isub r63_37 (wk_iald r63_38 ar_758 ⟨by omega, by omega⟩ e72 (wk_c2 r63_39 (wk_irem r63_41 ⟨by omega, by omega⟩ (by decide) (wk_c2 r63_42 ?_)))))))))
        refine wk_iceq r63_44 ⟨by omega, by omega⟩ (by decide) ?_ ?_
        · intro h86
          subst hQ; exact wk_ret r63_78 (⟨rfl, hP52, hF53, by have := e57; have := e61; omega, by have := e57; have := e61; omega, by have := e61; omega, fun q => Or.inr (by rw [e61, e72]; omega), pr63⟩)
        · intro h87
          have dE : GE M51 s0 u0 1 0 := pr63
          have dW : M51 739 46 = v58 := e61
          refine wk_al0 r63_47 (wk_dupr r63_48 (wk_getfi r63_49 fd_739_46 e61 (wk_c1 r63_52 (wk_isub r63_53 (wk_putfi81 r63_54 fd_739_46 (wk_nw g_739_46 rfl hP52 hF53 (uf_739_46 ⟨by omega, by omega⟩) ?_))))))
          intro M88 hP89 hF90 e91
          refine wk_al0 r63_57 (wk_al0 r63_58 (wk_getfr r63_59 fd_739_50 (br_739_50 hP89) (wk_al0 r63_62 (wk_getfi r63_63 fd_739_46 (mUp_at e91) (wk_ialdb r63_66 ar_758 ⟨by omega, by omega⟩ (fun q0 q1 => ba_758 hP89 q0 q1) ?_)))))
          intro v92 h94 h95 e93
          have dV : M88 758 (v58 - 1) = v92 := e93
          have dq : v92 = v71 := dV.symm.trans (mUp_no e91 e72 (Or.inl (by decide)))
          refine wk_c2 r63_67 (wk_irem r63_69 ⟨by omega, by omega⟩ (by decide) (wk_c1 r63_70 (wk_c1 r63_71 (wk_cv4 r63_72 kc_739_117 rfl (m8117_739 _ M88 (v92 % 16) 0 0 v54 hP89 (by first | with_reducible assumption | omega) (by first | with_reducible assumption | omega) (by decide) (by decide) (by decide) (by decide) (mUp_no e91 e57 (Or.inr (by decide))) (by first | with_reducible assumption | omega) (by first | with_reducible assumption | omega)) (cqV ?_)))))
          rintro M97 ⟨hP98, hQ99, h101, h102, xh103⟩
          have hF100 : Fr fm_m8063_739 M0 M97 := hF90.tr hQ99 rfl
          obtain ⟨v104, e105⟩ : ∃ v, M97 739 45 = v := ⟨_, rfl⟩
          have h106 := (bf_739_45 hP98).1; rw [e105] at h106
          have h107 := (bf_739_45 hP98).2; rw [e105] at h107
          have pr108 : GE M97 s0 u0 1 0 := GE_drop dE dW (by omega) e91 dV (by omega) xh103 (by omega)
          refine wk_goto r63_75 ?_
          exact wp_fg (le_s (le_s le_0)) (ih109 (260 - v104).toNat (by omega) M97 v104 (v58 - 1) rfl hP98 hF100 e105 ((hQ99.at g_739_46 rfl).trans (mUp_at e91)) ((hQ99.at g_739_47 rfl).trans (mUp_no e91 e62 (Or.inr (by decide)))) (by first | with_reducible assumption | omega) (by first | with_reducible assumption | omega) (by first | with_reducible assumption | omega) (by first | with_reducible assumption | omega) pr108 (by first | with_reducible assumption | omega) (by first | with_reducible assumption | omega) (by first | with_reducible assumption | omega) (by first | with_reducible assumption | omega) (by first | with_reducible assumption | omega))
  exact wp_fg (le_s (le_s le_0)) (c0_109 _ M0 x739_45 x739_46 rfl hP0 hF0 ex739_45 ex739_46 ex739_47 (by first | with_reducible assumption | omega) (by first | with_reducible assumption | omega) (by first | with_reducible assumption | omega) (by first | with_reducible assumption | omega) pp_E1 (by first | with_reducible assumption | omega) (by first | with_reducible assumption | omega) (by first | with_reducible assumption | omega) (by first | with_reducible assumption | omega) (by first | with_reducible assumption | omega))
