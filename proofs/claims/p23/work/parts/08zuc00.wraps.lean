/-! ===== written by program (wip/layer5/wraps5.py): the calls that may throw, and all that they answer ===== -/
theorem lw5_sentence {B : eB} (d : Nat) (M0 : Mm) (p1 : Int) (x0_1 : Int) (x0_9 : Int) (x0_5 : Int) (x2_1 : Int) (T : Int → Int) (hP0 : Pw M0) (l1 : (-2147483648) ≤ p1) (u1 : p1 ≤ 2147483647) (ex0_1 : M0 0 1 = x0_1) (lx0_1 : 0 ≤ x0_1) (ux0_1 : x0_1 ≤ 500) (ex0_9 : M0 0 9 = x0_9) (lx0_9 : 0 ≤ x0_9) (ux0_9 : x0_9 ≤ 30) (ex0_5 : M0 0 5 = x0_5) (lx0_5 : (-1) ≤ x0_5) (ux0_5 : x0_5 ≤ 500) (ex2_1 : M0 2 1 = x2_1) (lx2_1 : 0 ≤ x2_1) (ux2_1 : x2_1 ≤ 7) (xp0 : ∀ k : Int, 0 ≤ k → k < x0_1 → (0 ≤ M0 1 k → T k = M0 1 k) ∧ (M0 1 k < 0 → -128 ≤ M0 1 k ∧ T k = M0 1 k + 256)) : Ct B (d + 65) 261 [R 0, I p1, R 769] M0 (qI fun k M => Pw M ∧ Fr (fm_n7039_0 ||| 1852673427797059126777135760139006525652319754650249024631321344126610074238977) M0 M ∧ 0 ≤ k ∧ k ≤ 1 ∧ M0 (-1) 0 ≤ M (-1) 0 ∧ M (-1) 0 ≤ M0 (-1) 0 + 1 ∧ ((k = 1 ∧ (M 0 1 = x0_1 ∧ (p1 < 0 ∨ x0_1 < p1) ∧ M 0 9 = M0 0 9 ∧ M 0 5 = M0 0 5 ∧ M 2 1 = M0 2 1 ∧ M 0 11 = M0 0 11) ∧ (∀ a i : Int, 0 ≤ a → M a i = M0 a i)) ∨ (k = 0 ∧ ∃ (z : Int) (Mp : Mm), M = mUp Mp 769 0 ((z % 18446744073709551616).toNat : Int) ∧ Pw Mp ∧ Fr fm_n7039_0 M0 Mp ∧ (-9) ≤ z ∧ z ≤ 29 ∧ 0 ≤ p1 ∧ 0 ≤ x0_1 + (-1) * p1 ∧ 0 ≤ (-1) * (Mp 0 1) ∧ (SNR T p1 x0_1 x0_9 x2_1 x0_5 0 z (Mp 0 9) (Mp 0 5)) ∧ ((0 ≤ z → z = x0_9 ∧ CDX T p1 x2_1 (CL Mp (679 + 2 * x0_9))) ∧ ∀ s : Int, 0 ≤ s → s < x0_9 → CL Mp (679 + 2 * s) = CL M0 (679 + 2 * s))))) := by
  refine ct_of (d := d + 64) (k := 1) (L := [some (R 0), some (I p1), some (R 769), none]) rfl rfl rfl ?_
  generalize hQ : (qI fun k M => Pw M ∧ Fr (fm_n7039_0 ||| 1852673427797059126777135760139006525652319754650249024631321344126610074238977) M0 M ∧ 0 ≤ k ∧ k ≤ 1 ∧ M0 (-1) 0 ≤ M (-1) 0 ∧ M (-1) 0 ≤ M0 (-1) 0 + 1 ∧ ((k = 1 ∧ (M 0 1 = x0_1 ∧ (p1 < 0 ∨ x0_1 < p1) ∧ M 0 9 = M0 0 9 ∧ M 0 5 = M0 0 5 ∧ M 2 1 = M0 2 1 ∧ M 0 11 = M0 0 11) ∧ (∀ a i : Int, 0 ≤ a → M a i = M0 a i)) ∨ (k = 0 ∧ ∃ (z : Int) (Mp : Mm), M = mUp Mp 769 0 ((z % 18446744073709551616).toNat : Int) ∧ Pw Mp ∧ Fr fm_n7039_0 M0 Mp ∧ (-9) ≤ z ∧ z ≤ 29 ∧ 0 ≤ p1 ∧ 0 ≤ x0_1 + (-1) * p1 ∧ 0 ≤ (-1) * (Mp 0 1) ∧ (SNR T p1 x0_1 x0_9 x2_1 x0_5 0 z (Mp 0 9) (Mp 0 5)) ∧ ((0 ≤ z → z = x0_9 ∧ CDX T p1 x2_1 (CL Mp (679 + 2 * x0_9))) ∧ ∀ s : Int, 0 ≤ s → s < x0_9 → CL Mp (679 + 2 * s) = CL M0 (679 + 2 * s))))) = Q
  refine wk_al2 r261_0 (wk_c1 r261_1 (wk_al0 r261_2 (wk_il1 r261_3 (wk_cc2 r261_4 kc_0_39 rfl (n7039_0 _ M0 p1 x0_1 x0_9 x0_5 x2_1 T hP0 l1 u1 ex0_1 lx0_1 ux0_1 ex0_9 lx0_9 ux0_9 ex0_5 lx0_5 ux0_5 ex2_1 lx2_1 ux2_1 xp0) (ccI (by decide) ?_ ?_)))))
  · rintro M ⟨h1, h2, h3, h5⟩
    subst hQ
    exact ⟨rfl, 1, rfl, h1, (Fr.rf (fm_n7039_0 ||| 1852673427797059126777135760139006525652319754650249024631321344126610074238977) M0).tr h2 rfl, by decide, by decide, by omega, by omega, Or.inl ⟨rfl, h5⟩⟩
  · rintro z M hh
    have h1 := hh.1
    have h2 := hh.2.1
    have h3 := hh.2.2.1
    have h4 := hh.2.2.2.1
    have hF := (Fr.rf (fm_n7039_0 ||| 1852673427797059126777135760139006525652319754650249024631321344126610074238977) M0).tr h2 rfl
    have hg : M (-1) 0 = M0 (-1) 0 := h2.at g_below rfl
    refine wk_i2l r261_7 ⟨by omega, by omega⟩ ?_
    refine wk_last r261_8 ar_769 (by decide) (wk_nw (gr_769 (by decide) (by decide) _) rfl h1 hF (ua_769 ⟨by omega, by omega⟩) ?_)
    intro M5 hP5 hF5 e5
    have hg5 : M5 (-1) 0 = M0 (-1) 0 := mUp_no e5 hg (Or.inl (by decide))
    refine wk_goto r261_9 (wk_c1 r261_15 ?_)
    subst hQ
    exact wk_iret r261_16 ⟨rfl, _, rfl, hP5, hF5, by decide, by decide, by omega, by omega, Or.inr ⟨rfl, z, M, e5, hh⟩⟩
theorem lw5_island {B : eB} (d : Nat) (M0 : Mm) (p1 : Int) (x0_1 : Int) (x0_9 : Int) (x0_5 : Int) (x2_1 : Int) (x0_11 : Int) (T : Int → Int) (hP0 : Pw M0) (l1 : (-2147483648) ≤ p1) (u1 : p1 ≤ 2147483647) (ex0_1 : M0 0 1 = x0_1) (lx0_1 : 0 ≤ x0_1) (ux0_1 : x0_1 ≤ 500) (ex0_9 : M0 0 9 = x0_9) (lx0_9 : 0 ≤ x0_9) (ux0_9 : x0_9 ≤ 30) (ex0_5 : M0 0 5 = x0_5) (lx0_5 : (-1) ≤ x0_5) (ux0_5 : x0_5 ≤ 500) (ex2_1 : M0 2 1 = x2_1) (lx2_1 : 0 ≤ x2_1) (ux2_1 : x2_1 ≤ 7) (ex0_11 : M0 0 11 = x0_11) (lx0_11 : 0 ≤ x0_11) (ux0_11 : x0_11 ≤ 10) (xp0 : ∀ k : Int, 0 ≤ k → k < x0_1 → (0 ≤ M0 1 k → T k = M0 1 k) ∧ (M0 1 k < 0 → -128 ≤ M0 1 k ∧ T k = M0 1 k + 256)) : Ct B (d + 66) 253 [R 0, I p1, R 769] M0 (qI fun k M => Pw M ∧ Fr (fm_n7024_0 ||| 1852673427797059126777135760139006525652319754650249024631321344126610074238977) M0 M ∧ 0 ≤ k ∧ k ≤ 1 ∧ M0 (-1) 0 ≤ M (-1) 0 ∧ M (-1) 0 ≤ M0 (-1) 0 + 1 ∧ ((k = 1 ∧ (M 0 1 = x0_1 ∧ (p1 < 0 ∨ x0_1 < p1) ∧ M 0 9 = M0 0 9 ∧ M 0 5 = M0 0 5 ∧ M 2 1 = M0 2 1 ∧ M 0 11 = M0 0 11) ∧ (∀ a i : Int, 0 ≤ a → M a i = M0 a i)) ∨ (k = 0 ∧ ∃ (z : Int) (Mp : Mm), M = mUp Mp 769 0 ((z % 18446744073709551616).toNat : Int) ∧ Pw Mp ∧ Fr fm_n7024_0 M0 Mp ∧ 0 ≤ z ∧ z ≤ 6 ∧ 0 ≤ p1 ∧ 0 ≤ x0_1 + (-1) * p1 ∧ 0 ≤ (-1) * (Mp 0 1) ∧ (INR T p1 x0_1 x2_1 x0_9 x0_11 x0_5 0 z (Mp 2 1) (Mp 0 9) (Mp 0 11) (Mp 0 5)) ∧ (z = 0 → (∃ F : List Int, ISD T p1 (Mp 2 1) (Mp 2 2, Mp 2 3, Mp 2 5, Mp 2 6, nrF (fun k => Mp 3 k) (Mp 2 4) F) ∧ FLc T p1 (Mp 2 1) F (CL Mp 4)) ∧ Mp 10 9 = TOT Mp ∧ RWS Mp 17 136 (Mp 2 1) (Mp 2 4) (TOT Mp) ∧ (∀ i : Int, 0 ≤ i → i < TOT Mp → WKP Mp (Mp 136 i) (Mp 137 i) i) ∧ (∀ k : Int, Mp 11 k = 0) ∧ (∀ (j : Int) (b : Nat) (x : Bool), 0 ≤ j → j < Mp 10 10 → b < 64 → runF (stV Mp 17 11 j b) (CL Mp 4) [] = [x] → tb Mp 155 j b = x) ∧ TOT Mp ≤ 64 * Mp 10 10 ∧ Mp 0 9 = 0 ∧ Mp 0 11 = 0 ∧ Mp 0 13 = -1 ∧ Mp 138 5 = 0 ∧ Mp 607 6 = -1 ∧ Mp 613 9 = 0) ∧ (z ≠ 0 → Sm fg_RC M0 Mp ∧ ∀ c : Int, isC c → c ≠ 4 → CL Mp c = CL M0 c)))) := by
  refine ct_of (d := d + 65) (k := 1) (L := [some (R 0), some (I p1), some (R 769), none]) rfl rfl rfl ?_
  generalize hQ : (qI fun k M => Pw M ∧ Fr (fm_n7024_0 ||| 1852673427797059126777135760139006525652319754650249024631321344126610074238977) M0 M ∧ 0 ≤ k ∧ k ≤ 1 ∧ M0 (-1) 0 ≤ M (-1) 0 ∧ M (-1) 0 ≤ M0 (-1) 0 + 1 ∧ ((k = 1 ∧ (M 0 1 = x0_1 ∧ (p1 < 0 ∨ x0_1 < p1) ∧ M 0 9 = M0 0 9 ∧ M 0 5 = M0 0 5 ∧ M 2 1 = M0 2 1 ∧ M 0 11 = M0 0 11) ∧ (∀ a i : Int, 0 ≤ a → M a i = M0 a i)) ∨ (k = 0 ∧ ∃ (z : Int) (Mp : Mm), M = mUp Mp 769 0 ((z % 18446744073709551616).toNat : Int) ∧ Pw Mp ∧ Fr fm_n7024_0 M0 Mp ∧ 0 ≤ z ∧ z ≤ 6 ∧ 0 ≤ p1 ∧ 0 ≤ x0_1 + (-1) * p1 ∧ 0 ≤ (-1) * (Mp 0 1) ∧ (INR T p1 x0_1 x2_1 x0_9 x0_11 x0_5 0 z (Mp 2 1) (Mp 0 9) (Mp 0 11) (Mp 0 5)) ∧ (z = 0 → (∃ F : List Int, ISD T p1 (Mp 2 1) (Mp 2 2, Mp 2 3, Mp 2 5, Mp 2 6, nrF (fun k => Mp 3 k) (Mp 2 4) F) ∧ FLc T p1 (Mp 2 1) F (CL Mp 4)) ∧ Mp 10 9 = TOT Mp ∧ RWS Mp 17 136 (Mp 2 1) (Mp 2 4) (TOT Mp) ∧ (∀ i : Int, 0 ≤ i → i < TOT Mp → WKP Mp (Mp 136 i) (Mp 137 i) i) ∧ (∀ k : Int, Mp 11 k = 0) ∧ (∀ (j : Int) (b : Nat) (x : Bool), 0 ≤ j → j < Mp 10 10 → b < 64 → runF (stV Mp 17 11 j b) (CL Mp 4) [] = [x] → tb Mp 155 j b = x) ∧ TOT Mp ≤ 64 * Mp 10 10 ∧ Mp 0 9 = 0 ∧ Mp 0 11 = 0 ∧ Mp 0 13 = -1 ∧ Mp 138 5 = 0 ∧ Mp 607 6 = -1 ∧ Mp 613 9 = 0) ∧ (z ≠ 0 → Sm fg_RC M0 Mp ∧ ∀ c : Int, isC c → c ≠ 4 → CL Mp c = CL M0 c)))) = Q
  refine wk_al2 r253_0 (wk_c1 r253_1 (wk_al0 r253_2 (wk_il1 r253_3 (wk_cc2 r253_4 kc_0_24 rfl (n7024_0 _ M0 p1 x0_1 x0_9 x0_5 x2_1 x0_11 T hP0 l1 u1 ex0_1 lx0_1 ux0_1 ex0_9 lx0_9 ux0_9 ex0_5 lx0_5 ux0_5 ex2_1 lx2_1 ux2_1 ex0_11 lx0_11 ux0_11 xp0) (ccI (by decide) ?_ ?_)))))
  · rintro M ⟨h1, h2, h3, h5⟩
    subst hQ
    exact ⟨rfl, 1, rfl, h1, (Fr.rf (fm_n7024_0 ||| 1852673427797059126777135760139006525652319754650249024631321344126610074238977) M0).tr h2 rfl, by decide, by decide, by omega, by omega, Or.inl ⟨rfl, h5⟩⟩
  · rintro z M hh
    have h1 := hh.1
    have h2 := hh.2.1
    have h3 := hh.2.2.1
    have h4 := hh.2.2.2.1
    have hF := (Fr.rf (fm_n7024_0 ||| 1852673427797059126777135760139006525652319754650249024631321344126610074238977) M0).tr h2 rfl
    have hg : M (-1) 0 = M0 (-1) 0 := h2.at g_below rfl
    refine wk_i2l r253_7 ⟨by omega, by omega⟩ ?_
    refine wk_last r253_8 ar_769 (by decide) (wk_nw (gr_769 (by decide) (by decide) _) rfl h1 hF (ua_769 ⟨by omega, by omega⟩) ?_)
    intro M5 hP5 hF5 e5
    have hg5 : M5 (-1) 0 = M0 (-1) 0 := mUp_no e5 hg (Or.inl (by decide))
    refine wk_goto r253_9 (wk_c1 r253_15 ?_)
    subst hQ
    exact wk_iret r253_16 ⟨rfl, _, rfl, hP5, hF5, by decide, by decide, by omega, by omega, Or.inr ⟨rfl, z, M, e5, hh⟩⟩
theorem lw5_question {B : eB} (d : Nat) (M0 : Mm) (p1 : Int) (p2 : Int) (x2_1 : Int) (x0_9 : Int) (x0_11 : Int) (hP0 : Pw M0) (l1 : (-2147483648) ≤ p1) (u1 : p1 ≤ 2147483647) (l2 : (-2147483648) ≤ p2) (u2 : p2 ≤ 2147483647) (ex2_1 : M0 2 1 = x2_1) (lx2_1 : 0 ≤ x2_1) (ux2_1 : x2_1 ≤ 7) (ex0_9 : M0 0 9 = x0_9) (lx0_9 : 0 ≤ x0_9) (ux0_9 : x0_9 ≤ 30) (ex0_11 : M0 0 11 = x0_11) (lx0_11 : 0 ≤ x0_11) (ux0_11 : x0_11 ≤ 10) : Ct B (d + 3) 257 [R 0, I p1, I p2, R 769] M0 (qI fun k M => Pw M ∧ Fr (fm_n7034_0 ||| 1852673427797059126777135760139006525652319754650249024631321344126610074238977) M0 M ∧ 0 ≤ k ∧ k ≤ 1 ∧ M0 (-1) 0 ≤ M (-1) 0 ∧ M (-1) 0 ≤ M0 (-1) 0 + 1 ∧ ((k = 1 ∧ (p1 < 0 ∨ x2_1 ≤ p1 ∨ p2 < 0 ∨ x0_9 ≤ p2) ∧ (∀ a i : Int, 0 ≤ a → M a i = M0 a i)) ∨ (k = 0 ∧ ∃ (z : Int) (Mp : Mm), M = mUp Mp 769 0 ((z % 18446744073709551616).toNat : Int) ∧ Pw Mp ∧ Fr fm_n7034_0 M0 Mp ∧ (-1) ≤ z ∧ z ≤ 9 ∧ (QNR p1 p2 x2_1 x0_9 x0_11 0 z (Mp 0 11)) ∧ ((z = -1 → ∀ a i : Int, Mp a i = M0 a i) ∧ (0 ≤ z → (∀ k : Int, Mp 169 k = if k = x0_11 then 30 * p1 + p2 else M0 169 k) ∧ ∀ a i : Int, a ≠ 169 → (a ≠ 0 ∨ i ≠ 11) → Mp a i = M0 a i))))) := by
  refine ct_of (d := d + 2) (k := 1) (L := [some (R 0), some (I p1), some (I p2), some (R 769), none]) rfl rfl rfl ?_
  generalize hQ : (qI fun k M => Pw M ∧ Fr (fm_n7034_0 ||| 1852673427797059126777135760139006525652319754650249024631321344126610074238977) M0 M ∧ 0 ≤ k ∧ k ≤ 1 ∧ M0 (-1) 0 ≤ M (-1) 0 ∧ M (-1) 0 ≤ M0 (-1) 0 + 1 ∧ ((k = 1 ∧ (p1 < 0 ∨ x2_1 ≤ p1 ∨ p2 < 0 ∨ x0_9 ≤ p2) ∧ (∀ a i : Int, 0 ≤ a → M a i = M0 a i)) ∨ (k = 0 ∧ ∃ (z : Int) (Mp : Mm), M = mUp Mp 769 0 ((z % 18446744073709551616).toNat : Int) ∧ Pw Mp ∧ Fr fm_n7034_0 M0 Mp ∧ (-1) ≤ z ∧ z ≤ 9 ∧ (QNR p1 p2 x2_1 x0_9 x0_11 0 z (Mp 0 11)) ∧ ((z = -1 → ∀ a i : Int, Mp a i = M0 a i) ∧ (0 ≤ z → (∀ k : Int, Mp 169 k = if k = x0_11 then 30 * p1 + p2 else M0 169 k) ∧ ∀ a i : Int, a ≠ 169 → (a ≠ 0 ∨ i ≠ 11) → Mp a i = M0 a i))))) = Q
  refine wk_al3 r257_0 (wk_c1 r257_1 (wk_al0 r257_2 (wk_il1 r257_3 (wk_il2 r257_4 (wk_cc3 r257_5 kc_0_34 rfl (n7034_0 _ M0 p1 p2 x2_1 x0_9 x0_11 hP0 l1 u1 l2 u2 ex2_1 lx2_1 ux2_1 ex0_9 lx0_9 ux0_9 ex0_11 lx0_11 ux0_11) (ccI (by decide) ?_ ?_))))))
  · rintro M ⟨h1, h2, h3, h5⟩
    subst hQ
    exact ⟨rfl, 1, rfl, h1, (Fr.rf (fm_n7034_0 ||| 1852673427797059126777135760139006525652319754650249024631321344126610074238977) M0).tr h2 rfl, by decide, by decide, by omega, by omega, Or.inl ⟨rfl, h5⟩⟩
  · rintro z M hh
    have h1 := hh.1
    have h2 := hh.2.1
    have h3 := hh.2.2.1
    have h4 := hh.2.2.2.1
    have hF := (Fr.rf (fm_n7034_0 ||| 1852673427797059126777135760139006525652319754650249024631321344126610074238977) M0).tr h2 rfl
    have hg : M (-1) 0 = M0 (-1) 0 := h2.at g_below rfl
    refine wk_i2l r257_8 ⟨by omega, by omega⟩ ?_
    refine wk_last r257_9 ar_769 (by decide) (wk_nw (gr_769 (by decide) (by decide) _) rfl h1 hF (ua_769 ⟨by omega, by omega⟩) ?_)
    intro M5 hP5 hF5 e5
    have hg5 : M5 (-1) 0 = M0 (-1) 0 := mUp_no e5 hg (Or.inl (by decide))
    refine wk_goto r257_10 (wk_c1 r257_17 ?_)
    subst hQ
    exact wk_iret r257_18 ⟨rfl, _, rfl, hP5, hF5, by decide, by decide, by omega, by omega, Or.inr ⟨rfl, z, M, e5, hh⟩⟩
theorem lw5_says {B : eB} (d : Nat) (M0 : Mm) (p1 : Int) (p2 : Int) (x138_5 : Int) (x10_10 : Int) (x0_9 : Int) (x2_1 : Int) (hP0 : Pw M0) (l1 : (-2147483648) ≤ p1) (u1 : p1 ≤ 2147483647) (l2 : (-2147483648) ≤ p2) (u2 : p2 ≤ 2147483647) (ex138_5 : M0 138 5 = x138_5) (lx138_5 : 0 ≤ x138_5) (ux138_5 : x138_5 ≤ 12) (ex10_10 : M0 10 10 = x10_10) (lx10_10 : 0 ≤ x10_10) (ux10_10 : x10_10 ≤ 47) (ex0_9 : M0 0 9 = x0_9) (lx0_9 : 0 ≤ x0_9) (ux0_9 : x0_9 ≤ 30) (ex2_1 : M0 2 1 = x2_1) (lx2_1 : 0 ≤ x2_1) (ux2_1 : x2_1 ≤ 7) (xp0 : p2 < x0_9 → 0 ≤ p2 → okH 30 (CL M0 (679 + 2 * p2)) 0) : Ct B (d + 8) 260 [R 0, I p1, I p2, R 769] M0 (qI fun k M => Pw M ∧ Fr (fm_n7038_0 ||| 1852673427797059126777135760139006525652319754650249024631321344126610074238977) M0 M ∧ 0 ≤ k ∧ k ≤ 1 ∧ M0 (-1) 0 ≤ M (-1) 0 ∧ M (-1) 0 ≤ M0 (-1) 0 + 1 ∧ ((k = 1 ∧ (p1 < 0 ∨ x2_1 ≤ p1 ∨ p2 < 0 ∨ x0_9 ≤ p2) ∧ (∀ a i : Int, 0 ≤ a → M a i = M0 a i)) ∨ (k = 0 ∧ ∃ (z : Int) (Mp : Mm), M = mUp Mp 769 0 ((z % 18446744073709551616).toNat : Int) ∧ Pw Mp ∧ Fr fm_n7038_0 M0 Mp ∧ (-1) ≤ z ∧ z ≤ 11 ∧ (0 ≤ p1 ∧ p1 < x2_1 ∧ 0 ≤ p2 ∧ p2 < x0_9) ∧ ((x138_5 = 12 ∧ z = -1 ∧ ∀ a i : Int, Mp a i = M0 a i) ∨ (x138_5 < 12 ∧ z = x138_5 ∧ RECP M0 Mp p1 (679 + 2 * p2) (-1) x138_5 x10_10))))) := by
  refine ct_of (d := d + 7) (k := 1) (L := [some (R 0), some (I p1), some (I p2), some (R 769), none]) rfl rfl rfl ?_
  generalize hQ : (qI fun k M => Pw M ∧ Fr (fm_n7038_0 ||| 1852673427797059126777135760139006525652319754650249024631321344126610074238977) M0 M ∧ 0 ≤ k ∧ k ≤ 1 ∧ M0 (-1) 0 ≤ M (-1) 0 ∧ M (-1) 0 ≤ M0 (-1) 0 + 1 ∧ ((k = 1 ∧ (p1 < 0 ∨ x2_1 ≤ p1 ∨ p2 < 0 ∨ x0_9 ≤ p2) ∧ (∀ a i : Int, 0 ≤ a → M a i = M0 a i)) ∨ (k = 0 ∧ ∃ (z : Int) (Mp : Mm), M = mUp Mp 769 0 ((z % 18446744073709551616).toNat : Int) ∧ Pw Mp ∧ Fr fm_n7038_0 M0 Mp ∧ (-1) ≤ z ∧ z ≤ 11 ∧ (0 ≤ p1 ∧ p1 < x2_1 ∧ 0 ≤ p2 ∧ p2 < x0_9) ∧ ((x138_5 = 12 ∧ z = -1 ∧ ∀ a i : Int, Mp a i = M0 a i) ∨ (x138_5 < 12 ∧ z = x138_5 ∧ RECP M0 Mp p1 (679 + 2 * p2) (-1) x138_5 x10_10))))) = Q
  refine wk_al3 r260_0 (wk_c1 r260_1 (wk_al0 r260_2 (wk_il1 r260_3 (wk_il2 r260_4 (wk_cc3 r260_5 kc_0_38 rfl (n7038_0 _ M0 p1 p2 x138_5 x10_10 x0_9 x2_1 hP0 l1 u1 l2 u2 ex138_5 lx138_5 ux138_5 ex10_10 lx10_10 ux10_10 ex0_9 lx0_9 ux0_9 ex2_1 lx2_1 ux2_1 xp0) (ccI (by decide) ?_ ?_))))))
  · rintro M ⟨h1, h2, h3, h5⟩
    subst hQ
    exact ⟨rfl, 1, rfl, h1, (Fr.rf (fm_n7038_0 ||| 1852673427797059126777135760139006525652319754650249024631321344126610074238977) M0).tr h2 rfl, by decide, by decide, by omega, by omega, Or.inl ⟨rfl, h5⟩⟩
  · rintro z M hh
    have h1 := hh.1
    have h2 := hh.2.1
    have h3 := hh.2.2.1
    have h4 := hh.2.2.2.1
    have hF := (Fr.rf (fm_n7038_0 ||| 1852673427797059126777135760139006525652319754650249024631321344126610074238977) M0).tr h2 rfl
    have hg : M (-1) 0 = M0 (-1) 0 := h2.at g_below rfl
    refine wk_i2l r260_8 ⟨by omega, by omega⟩ ?_
    refine wk_last r260_9 ar_769 (by decide) (wk_nw (gr_769 (by decide) (by decide) _) rfl h1 hF (ua_769 ⟨by omega, by omega⟩) ?_)
    intro M5 hP5 hF5 e5
    have hg5 : M5 (-1) 0 = M0 (-1) 0 := mUp_no e5 hg (Or.inl (by decide))
    refine wk_goto r260_10 (wk_c1 r260_17 ?_)
    subst hQ
    exact wk_iret r260_18 ⟨rfl, _, rfl, hP5, hF5, by decide, by decide, by omega, by omega, Or.inr ⟨rfl, z, M, e5, hh⟩⟩
theorem lw5_answers {B : eB} (d : Nat) (M0 : Mm) (p1 : Int) (p2 : Int) (p3 : Int) (x138_5 : Int) (x10_10 : Int) (x0_9 : Int) (x2_1 : Int) (hP0 : Pw M0) (l1 : (-2147483648) ≤ p1) (u1 : p1 ≤ 2147483647) (l2 : (-2147483648) ≤ p2) (u2 : p2 ≤ 2147483647) (l3 : (-2147483648) ≤ p3) (u3 : p3 ≤ 2147483647) (ex138_5 : M0 138 5 = x138_5) (lx138_5 : 0 ≤ x138_5) (ux138_5 : x138_5 ≤ 12) (ex10_10 : M0 10 10 = x10_10) (lx10_10 : 0 ≤ x10_10) (ux10_10 : x10_10 ≤ 47) (ex0_9 : M0 0 9 = x0_9) (lx0_9 : 0 ≤ x0_9) (ux0_9 : x0_9 ≤ 30) (ex2_1 : M0 2 1 = x2_1) (lx2_1 : 0 ≤ x2_1) (ux2_1 : x2_1 ≤ 7) (xp0 : p2 < x0_9 → 0 ≤ p2 → okH 30 (CL M0 (679 + 2 * p2)) 0) : Ct B (d + 8) 247 [R 0, I p1, I p2, I p3, R 769] M0 (qI fun k M => Pw M ∧ Fr (fm_n7011_0 ||| 1852673427797059126777135760139006525652319754650249024631321344126610074238977) M0 M ∧ 0 ≤ k ∧ k ≤ 1 ∧ M0 (-1) 0 ≤ M (-1) 0 ∧ M (-1) 0 ≤ M0 (-1) 0 + 1 ∧ ((k = 1 ∧ (p1 < 0 ∨ x2_1 ≤ p1 ∨ p2 < 0 ∨ x0_9 ≤ p2 ∨ p3 < 0 ∨ 1 < p3) ∧ (∀ a i : Int, 0 ≤ a → M a i = M0 a i)) ∨ (k = 0 ∧ ∃ (z : Int) (Mp : Mm), M = mUp Mp 769 0 ((z % 18446744073709551616).toNat : Int) ∧ Pw Mp ∧ Fr fm_n7011_0 M0 Mp ∧ (-1) ≤ z ∧ z ≤ 11 ∧ (0 ≤ p1 ∧ p1 < x2_1 ∧ 0 ≤ p2 ∧ p2 < x0_9 ∧ 0 ≤ p3 ∧ p3 ≤ 1) ∧ ((x138_5 = 12 ∧ z = -1 ∧ ∀ a i : Int, Mp a i = M0 a i) ∨ (x138_5 < 12 ∧ z = x138_5 ∧ RECP M0 Mp p1 (679 + 2 * p2) p3 x138_5 x10_10))))) := by
  refine ct_of (d := d + 7) (k := 1) (L := [some (R 0), some (I p1), some (I p2), some (I p3), some (R 769), none]) rfl rfl rfl ?_
  generalize hQ : (qI fun k M => Pw M ∧ Fr (fm_n7011_0 ||| 1852673427797059126777135760139006525652319754650249024631321344126610074238977) M0 M ∧ 0 ≤ k ∧ k ≤ 1 ∧ M0 (-1) 0 ≤ M (-1) 0 ∧ M (-1) 0 ≤ M0 (-1) 0 + 1 ∧ ((k = 1 ∧ (p1 < 0 ∨ x2_1 ≤ p1 ∨ p2 < 0 ∨ x0_9 ≤ p2 ∨ p3 < 0 ∨ 1 < p3) ∧ (∀ a i : Int, 0 ≤ a → M a i = M0 a i)) ∨ (k = 0 ∧ ∃ (z : Int) (Mp : Mm), M = mUp Mp 769 0 ((z % 18446744073709551616).toNat : Int) ∧ Pw Mp ∧ Fr fm_n7011_0 M0 Mp ∧ (-1) ≤ z ∧ z ≤ 11 ∧ (0 ≤ p1 ∧ p1 < x2_1 ∧ 0 ≤ p2 ∧ p2 < x0_9 ∧ 0 ≤ p3 ∧ p3 ≤ 1) ∧ ((x138_5 = 12 ∧ z = -1 ∧ ∀ a i : Int, Mp a i = M0 a i) ∨ (x138_5 < 12 ∧ z = x138_5 ∧ RECP M0 Mp p1 (679 + 2 * p2) p3 x138_5 x10_10))))) = Q
  refine wk_al4 r247_0 (wk_c1 r247_2 (wk_al0 r247_3 (wk_il1 r247_4 (wk_il2 r247_5 (wk_il3 r247_6 (wk_cc4 r247_7 kc_0_11 rfl (n7011_0 _ M0 p1 p2 p3 x138_5 x10_10 x0_9 x2_1 hP0 l1 u1 l2 u2 l3 u3 ex138_5 lx138_5 ux138_5 ex10_10 lx10_10 ux10_10 ex0_9 lx0_9 ux0_9 ex2_1 lx2_1 ux2_1 xp0) (ccI (by decide) ?_ ?_)))))))
  · rintro M ⟨h1, h2, h3, h5⟩
    subst hQ
    exact ⟨rfl, 1, rfl, h1, (Fr.rf (fm_n7011_0 ||| 1852673427797059126777135760139006525652319754650249024631321344126610074238977) M0).tr h2 rfl, by decide, by decide, by omega, by omega, Or.inl ⟨rfl, h5⟩⟩
  · rintro z M hh
    have h1 := hh.1
    have h2 := hh.2.1
    have h3 := hh.2.2.1
    have h4 := hh.2.2.2.1
    have hF := (Fr.rf (fm_n7011_0 ||| 1852673427797059126777135760139006525652319754650249024631321344126610074238977) M0).tr h2 rfl
    have hg : M (-1) 0 = M0 (-1) 0 := h2.at g_below rfl
    refine wk_i2l r247_10 ⟨by omega, by omega⟩ ?_
    refine wk_last r247_11 ar_769 (by decide) (wk_nw (gr_769 (by decide) (by decide) _) rfl h1 hF (ua_769 ⟨by omega, by omega⟩) ?_)
    intro M5 hP5 hF5 e5
    have hg5 : M5 (-1) 0 = M0 (-1) 0 := mUp_no e5 hg (Or.inl (by decide))
    refine wk_goto r247_12 (wk_c1 r247_19 ?_)
    subst hQ
    exact wk_iret r247_20 ⟨rfl, _, rfl, hP5, hF5, by decide, by decide, by omega, by omega, Or.inr ⟨rfl, z, M, e5, hh⟩⟩
theorem lw5_reply {B : eB} (d : Nat) (M0 : Mm) (p1 : Int) (x138_5 : Int) (x10_10 : Int) (x0_11 : Int) (x0_13 : Int) (x0_14 : Int) (hP0 : Pw M0) (l1 : (-2147483648) ≤ p1) (u1 : p1 ≤ 2147483647) (ex138_5 : M0 138 5 = x138_5) (lx138_5 : 0 ≤ x138_5) (ux138_5 : x138_5 ≤ 12) (ex10_10 : M0 10 10 = x10_10) (lx10_10 : 0 ≤ x10_10) (ux10_10 : x10_10 ≤ 47) (ex0_11 : M0 0 11 = x0_11) (lx0_11 : 0 ≤ x0_11) (ux0_11 : x0_11 ≤ 10) (ex0_13 : M0 0 13 = x0_13) (lx0_13 : (-1) ≤ x0_13) (ux0_13 : x0_13 ≤ 2999) (ex0_14 : M0 0 14 = x0_14) (lx0_14 : (-2147483648) ≤ x0_14) (ux0_14 : x0_14 ≤ 2147483647) (xp0 : 0 ≤ p1 → p1 < x0_11 → okH 30 (CL M0 (679 + 2 * (M0 169 p1 % 30))) 0) : Ct B (d + 8) 258 [R 0, I p1, R 769] M0 (qI fun k M => Pw M ∧ Fr (fm_n7036_0 ||| 1852673427797059126777135760139006525652319754650249024631321344126610074238977) M0 M ∧ 0 ≤ k ∧ k ≤ 1 ∧ M0 (-1) 0 ≤ M (-1) 0 ∧ M (-1) 0 ≤ M0 (-1) 0 + 1 ∧ ((k = 1 ∧ (p1 < 0 ∨ x0_11 ≤ p1) ∧ (∀ a i : Int, 0 ≤ a → M a i = M0 a i)) ∨ (k = 0 ∧ ∃ (z : Int) (Mp : Mm), M = mUp Mp 769 0 ((z % 18446744073709551616).toNat : Int) ∧ Pw Mp ∧ Fr fm_n7036_0 M0 Mp ∧ (-1) ≤ z ∧ z ≤ 1 ∧ (0 ≤ p1 ∧ p1 < x0_11) ∧ (((x0_13 = -1 ∨ x138_5 = 12) ∧ z = -1 ∧ ∀ a i : Int, Mp a i = M0 a i) ∨ (x0_13 ≠ -1 ∧ x138_5 < 12 ∧ ((kdC (cdX (M0 136 x0_13) (M0 169 p1 / 30)) = 4 ∧ Mp 0 14 = SDN x0_14 ∧ z = Mp 0 14 / 65536 % 2) ∨ (kdC (cdX (M0 136 x0_13) (M0 169 p1 / 30)) ≠ 4 ∧ Mp 0 14 = x0_14 ∧ ∀ x : Bool, runF (stV M0 17 11 (x0_13 / 64) (x0_13 % 64).toNat) (CL M0 (679 + 2 * (M0 169 p1 % 30))) [] = [x] → z = 1 - b2i (ftV M0 17 11 (M0 169 p1 / 30) 0 (x0_13 / 64) x (x0_13 % 64).toNat))) ∧ 0 ≤ z ∧ RECP M0 Mp (M0 169 p1 / 30) (679 + 2 * (M0 169 p1 % 30)) z x138_5 x10_10))))) := by
  refine ct_of (d := d + 7) (k := 1) (L := [some (R 0), some (I p1), some (R 769), none]) rfl rfl rfl ?_
  generalize hQ : (qI fun k M => Pw M ∧ Fr (fm_n7036_0 ||| 1852673427797059126777135760139006525652319754650249024631321344126610074238977) M0 M ∧ 0 ≤ k ∧ k ≤ 1 ∧ M0 (-1) 0 ≤ M (-1) 0 ∧ M (-1) 0 ≤ M0 (-1) 0 + 1 ∧ ((k = 1 ∧ (p1 < 0 ∨ x0_11 ≤ p1) ∧ (∀ a i : Int, 0 ≤ a → M a i = M0 a i)) ∨ (k = 0 ∧ ∃ (z : Int) (Mp : Mm), M = mUp Mp 769 0 ((z % 18446744073709551616).toNat : Int) ∧ Pw Mp ∧ Fr fm_n7036_0 M0 Mp ∧ (-1) ≤ z ∧ z ≤ 1 ∧ (0 ≤ p1 ∧ p1 < x0_11) ∧ (((x0_13 = -1 ∨ x138_5 = 12) ∧ z = -1 ∧ ∀ a i : Int, Mp a i = M0 a i) ∨ (x0_13 ≠ -1 ∧ x138_5 < 12 ∧ ((kdC (cdX (M0 136 x0_13) (M0 169 p1 / 30)) = 4 ∧ Mp 0 14 = SDN x0_14 ∧ z = Mp 0 14 / 65536 % 2) ∨ (kdC (cdX (M0 136 x0_13) (M0 169 p1 / 30)) ≠ 4 ∧ Mp 0 14 = x0_14 ∧ ∀ x : Bool, runF (stV M0 17 11 (x0_13 / 64) (x0_13 % 64).toNat) (CL M0 (679 + 2 * (M0 169 p1 % 30))) [] = [x] → z = 1 - b2i (ftV M0 17 11 (M0 169 p1 / 30) 0 (x0_13 / 64) x (x0_13 % 64).toNat))) ∧ 0 ≤ z ∧ RECP M0 Mp (M0 169 p1 / 30) (679 + 2 * (M0 169 p1 % 30)) z x138_5 x10_10))))) = Q
  refine wk_al2 r258_0 (wk_c1 r258_1 (wk_al0 r258_2 (wk_il1 r258_3 (wk_cc2 r258_4 kc_0_36 rfl (n7036_0 _ M0 p1 x138_5 x10_10 x0_11 x0_13 x0_14 hP0 l1 u1 ex138_5 lx138_5 ux138_5 ex10_10 lx10_10 ux10_10 ex0_11 lx0_11 ux0_11 ex0_13 lx0_13 ux0_13 ex0_14 lx0_14 ux0_14 xp0) (ccI (by decide) ?_ ?_)))))
  · rintro M ⟨h1, h2, h3, h5⟩
    subst hQ
    exact ⟨rfl, 1, rfl, h1, (Fr.rf (fm_n7036_0 ||| 1852673427797059126777135760139006525652319754650249024631321344126610074238977) M0).tr h2 rfl, by decide, by decide, by omega, by omega, Or.inl ⟨rfl, h5⟩⟩
  · rintro z M hh
    have h1 := hh.1
    have h2 := hh.2.1
    have h3 := hh.2.2.1
    have h4 := hh.2.2.2.1
    have hF := (Fr.rf (fm_n7036_0 ||| 1852673427797059126777135760139006525652319754650249024631321344126610074238977) M0).tr h2 rfl
    have hg : M (-1) 0 = M0 (-1) 0 := h2.at g_below rfl
    refine wk_i2l r258_7 ⟨by omega, by omega⟩ ?_
    refine wk_last r258_8 ar_769 (by decide) (wk_nw (gr_769 (by decide) (by decide) _) rfl h1 hF (ua_769 ⟨by omega, by omega⟩) ?_)
    intro M5 hP5 hF5 e5
    have hg5 : M5 (-1) 0 = M0 (-1) 0 := mUp_no e5 hg (Or.inl (by decide))
    refine wk_goto r258_9 (wk_c1 r258_15 ?_)
    subst hQ
    exact wk_iret r258_16 ⟨rfl, _, rfl, hP5, hF5, by decide, by decide, by omega, by omega, Or.inr ⟨rfl, z, M, e5, hh⟩⟩
