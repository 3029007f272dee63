/-! ===== written by program (wip/layer4/wraps4.py): the calls of sentence, island, question, and what they answer ===== -/
theorem lw4_sentence {B : eB} (d : Nat) (M0 : Mm) (p1 : Int) (x0_1 : Int) (x0_9 : Int) (x0_5 : Int) (x2_1 : Int) (T : Int → Int) (hP0 : Pw M0) (l1 : (-2147483648) ≤ p1) (u1 : p1 ≤ 2147483647) (ex0_1 : M0 0 1 = x0_1) (lx0_1 : 0 ≤ x0_1) (ux0_1 : x0_1 ≤ 500) (ex0_9 : M0 0 9 = x0_9) (lx0_9 : 0 ≤ x0_9) (ux0_9 : x0_9 ≤ 30) (ex0_5 : M0 0 5 = x0_5) (lx0_5 : (-1) ≤ x0_5) (ux0_5 : x0_5 ≤ 500) (ex2_1 : M0 2 1 = x2_1) (lx2_1 : 0 ≤ x2_1) (ux2_1 : x2_1 ≤ 7) (xp0 : ∀ k : Int, 0 ≤ k → k < x0_1 → (0 ≤ M0 1 k → T k = M0 1 k) ∧ (M0 1 k < 0 → -128 ≤ M0 1 k ∧ T k = M0 1 k + 256)) : Ct B (d + 43) 261 [R 0, I p1, R 769] M0 (qI fun k M => Pw M ∧ Fr (fm_m7039_0 ||| 1852673427797059126777135760139006525652319754650249024631321344126610074238977) M0 M ∧ 0 ≤ k ∧ k ≤ 1 ∧ M0 (-1) 0 ≤ M (-1) 0 ∧ M (-1) 0 ≤ M0 (-1) 0 + 1 ∧ ((0 ≤ p1 ∧ p1 ≤ x0_1 ∧ M 0 1 = 0) ∨ ((p1 < 0 ∨ x0_1 < p1) ∧ M 0 1 = x0_1)) ∧ (∃ z : Int, (-9) ≤ z ∧ z ≤ 29 ∧ SNR T p1 x0_1 x0_9 x2_1 x0_5 k z (M 0 9) (M 0 5) ∧ (k = 0 → M 769 0 = ((z % 18446744073709551616).toNat : Int)))) := by
  refine ct_of (d := d + 42) (k := 1) (L := [some (R 0), some (I p1), some (R 769), none]) rfl rfl rfl ?_
  generalize hQ : (qI fun k M => Pw M ∧ Fr (fm_m7039_0 ||| 1852673427797059126777135760139006525652319754650249024631321344126610074238977) M0 M ∧ 0 ≤ k ∧ k ≤ 1 ∧ M0 (-1) 0 ≤ M (-1) 0 ∧ M (-1) 0 ≤ M0 (-1) 0 + 1 ∧ ((0 ≤ p1 ∧ p1 ≤ x0_1 ∧ M 0 1 = 0) ∨ ((p1 < 0 ∨ x0_1 < p1) ∧ M 0 1 = x0_1)) ∧ (∃ z : Int, (-9) ≤ z ∧ z ≤ 29 ∧ SNR T p1 x0_1 x0_9 x2_1 x0_5 k z (M 0 9) (M 0 5) ∧ (k = 0 → M 769 0 = ((z % 18446744073709551616).toNat : Int)))) = Q
  refine wk_al2 r261_0 (wk_c1 r261_1 (wk_al0 r261_2 (wk_il1 r261_3 (wk_cc2 r261_4 kc_0_39 rfl (m7039_0 _ M0 p1 x0_1 x0_9 x0_5 x2_1 T hP0 l1 u1 ex0_1 lx0_1 ux0_1 ex0_9 lx0_9 ux0_9 ex0_5 lx0_5 ux0_5 ex2_1 lx2_1 ux2_1 xp0) (ccI (by decide) ?_ ?_)))))
  · rintro M ⟨h1, h2, h3, h5⟩
    subst hQ
    exact ⟨rfl, 1, rfl, h1, (Fr.rf (fm_m7039_0 ||| 1852673427797059126777135760139006525652319754650249024631321344126610074238977) M0).tr h2 rfl, by decide, by decide, by omega, by omega, Or.inr ⟨h5.2.1, h5.1⟩, 0, by decide, by decide, SNR_t ⟨h5.2.1, rfl, h5.2.2.1.trans ex0_9, h5.2.2.2.1.trans ex0_5⟩, fun q => absurd q (by decide)⟩
  · rintro z M ⟨h1, h2, h3, h4, h6, h7, h8, h9⟩
    have hF := (Fr.rf (fm_m7039_0 ||| 1852673427797059126777135760139006525652319754650249024631321344126610074238977) M0).tr h2 rfl
    have hg : M (-1) 0 = M0 (-1) 0 := h2.at g_below rfl
    refine wk_i2l r261_7 ⟨by omega, by omega⟩ ?_
    refine wk_last r261_8 ar_769 (by decide) (wk_nw (gr_769 (by decide) (by decide) _) rfl h1 hF (ua_769 ⟨by omega, by omega⟩) ?_)
    intro M5 hP5 hF5 e5
    have hg5 : M5 (-1) 0 = M0 (-1) 0 := mUp_no e5 hg (Or.inl (by decide))
    have ht5 : M5 0 1 = M 0 1 := mUp_no e5 rfl (Or.inl (by decide))
    have hb5 := bf_0_1 h1
    have e7 := mUp_at e5
    have q0 : M5 0 9 = M 0 9 := mUp_no e5 rfl (Or.inl (by decide))
    have q1 : M5 0 5 = M 0 5 := mUp_no e5 rfl (Or.inl (by decide))
    rw [← q0, ← q1] at h9
    refine wk_goto r261_9 (wk_c1 r261_15 ?_)
    subst hQ
    exact wk_iret r261_16 ⟨rfl, _, rfl, hP5, hF5, by decide, by decide, by omega, by omega, by omega, z, h3, h4, h9, fun _ => e7⟩
theorem lw4_island {B : eB} (d : Nat) (M0 : Mm) (p1 : Int) (x0_1 : Int) (x0_9 : Int) (x0_5 : Int) (x2_1 : Int) (x0_11 : Int) (T : Int → Int) (hP0 : Pw M0) (l1 : (-2147483648) ≤ p1) (u1 : p1 ≤ 2147483647) (ex0_1 : M0 0 1 = x0_1) (lx0_1 : 0 ≤ x0_1) (ux0_1 : x0_1 ≤ 500) (ex0_9 : M0 0 9 = x0_9) (lx0_9 : 0 ≤ x0_9) (ux0_9 : x0_9 ≤ 30) (ex0_5 : M0 0 5 = x0_5) (lx0_5 : (-1) ≤ x0_5) (ux0_5 : x0_5 ≤ 500) (ex2_1 : M0 2 1 = x2_1) (lx2_1 : 0 ≤ x2_1) (ux2_1 : x2_1 ≤ 7) (ex0_11 : M0 0 11 = x0_11) (lx0_11 : 0 ≤ x0_11) (ux0_11 : x0_11 ≤ 10) (xp0 : ∀ k : Int, 0 ≤ k → k < x0_1 → (0 ≤ M0 1 k → T k = M0 1 k) ∧ (M0 1 k < 0 → -128 ≤ M0 1 k ∧ T k = M0 1 k + 256)) : Ct B (d + 44) 253 [R 0, I p1, R 769] M0 (qI fun k M => Pw M ∧ Fr (fm_m7024_0 ||| 1852673427797059126777135760139006525652319754650249024631321344126610074238977) M0 M ∧ 0 ≤ k ∧ k ≤ 1 ∧ M0 (-1) 0 ≤ M (-1) 0 ∧ M (-1) 0 ≤ M0 (-1) 0 + 1 ∧ ((0 ≤ p1 ∧ p1 ≤ x0_1 ∧ M 0 1 = 0) ∨ ((p1 < 0 ∨ x0_1 < p1) ∧ M 0 1 = x0_1)) ∧ (∃ z : Int, 0 ≤ z ∧ z ≤ 6 ∧ INR T p1 x0_1 x2_1 x0_9 x0_11 x0_5 k z (M 2 1) (M 0 9) (M 0 11) (M 0 5) ∧ (k = 0 → M 769 0 = ((z % 18446744073709551616).toNat : Int)))) := by
  refine ct_of (d := d + 43) (k := 1) (L := [some (R 0), some (I p1), some (R 769), none]) rfl rfl rfl ?_
  generalize hQ : (qI fun k M => Pw M ∧ Fr (fm_m7024_0 ||| 1852673427797059126777135760139006525652319754650249024631321344126610074238977) M0 M ∧ 0 ≤ k ∧ k ≤ 1 ∧ M0 (-1) 0 ≤ M (-1) 0 ∧ M (-1) 0 ≤ M0 (-1) 0 + 1 ∧ ((0 ≤ p1 ∧ p1 ≤ x0_1 ∧ M 0 1 = 0) ∨ ((p1 < 0 ∨ x0_1 < p1) ∧ M 0 1 = x0_1)) ∧ (∃ z : Int, 0 ≤ z ∧ z ≤ 6 ∧ INR T p1 x0_1 x2_1 x0_9 x0_11 x0_5 k z (M 2 1) (M 0 9) (M 0 11) (M 0 5) ∧ (k = 0 → M 769 0 = ((z % 18446744073709551616).toNat : Int)))) = Q
  refine wk_al2 r253_0 (wk_c1 r253_1 (wk_al0 r253_2 (wk_il1 r253_3 (wk_cc2 r253_4 kc_0_24 rfl (m7024_0 _ M0 p1 x0_1 x0_9 x0_5 x2_1 x0_11 T hP0 l1 u1 ex0_1 lx0_1 ux0_1 ex0_9 lx0_9 ux0_9 ex0_5 lx0_5 ux0_5 ex2_1 lx2_1 ux2_1 ex0_11 lx0_11 ux0_11 xp0) (ccI (by decide) ?_ ?_)))))
  · rintro M ⟨h1, h2, h3, h5⟩
    subst hQ
    exact ⟨rfl, 1, rfl, h1, (Fr.rf (fm_m7024_0 ||| 1852673427797059126777135760139006525652319754650249024631321344126610074238977) M0).tr h2 rfl, by decide, by decide, by omega, by omega, Or.inr ⟨h5.2.1, h5.1⟩, 0, by decide, by decide, INR_t ⟨h5.2.1, rfl, h5.2.2.2.2.1.trans ex2_1, h5.2.2.1.trans ex0_9, h5.2.2.2.2.2.trans ex0_11, h5.2.2.2.1.trans ex0_5⟩, fun q => absurd q (by decide)⟩
  · rintro z M ⟨h1, h2, h3, h4, h6, h7, h8, h9⟩
    have hF := (Fr.rf (fm_m7024_0 ||| 1852673427797059126777135760139006525652319754650249024631321344126610074238977) M0).tr h2 rfl
    have hg : M (-1) 0 = M0 (-1) 0 := h2.at g_below rfl
    refine wk_i2l r253_7 ⟨by omega, by omega⟩ ?_
    refine wk_last r253_8 ar_769 (by decide) (wk_nw (gr_769 (by decide) (by decide) _) rfl h1 hF (ua_769 ⟨by omega, by omega⟩) ?_)
    intro M5 hP5 hF5 e5
    have hg5 : M5 (-1) 0 = M0 (-1) 0 := mUp_no e5 hg (Or.inl (by decide))
    have ht5 : M5 0 1 = M 0 1 := mUp_no e5 rfl (Or.inl (by decide))
    have hb5 := bf_0_1 h1
    have e7 := mUp_at e5
    have q0 : M5 2 1 = M 2 1 := mUp_no e5 rfl (Or.inl (by decide))
    have q1 : M5 0 9 = M 0 9 := mUp_no e5 rfl (Or.inl (by decide))
    have q2 : M5 0 11 = M 0 11 := mUp_no e5 rfl (Or.inl (by decide))
    have q3 : M5 0 5 = M 0 5 := mUp_no e5 rfl (Or.inl (by decide))
    rw [← q0, ← q1, ← q2, ← q3] at h9
    refine wk_goto r253_9 (wk_c1 r253_15 ?_)
    subst hQ
    exact wk_iret r253_16 ⟨rfl, _, rfl, hP5, hF5, by decide, by decide, by omega, by omega, by omega, z, h3, h4, h9, fun _ => e7⟩
theorem lw4_question {B : eB} (d : Nat) (M0 : Mm) (p1 : Int) (p2 : Int) (x2_1 : Int) (x0_9 : Int) (x0_11 : Int) (hP0 : Pw M0) (l1 : (-2147483648) ≤ p1) (u1 : p1 ≤ 2147483647) (l2 : (-2147483648) ≤ p2) (u2 : p2 ≤ 2147483647) (ex2_1 : M0 2 1 = x2_1) (lx2_1 : 0 ≤ x2_1) (ux2_1 : x2_1 ≤ 7) (ex0_9 : M0 0 9 = x0_9) (lx0_9 : 0 ≤ x0_9) (ux0_9 : x0_9 ≤ 30) (ex0_11 : M0 0 11 = x0_11) (lx0_11 : 0 ≤ x0_11) (ux0_11 : x0_11 ≤ 10) : Ct B (d + 3) 257 [R 0, I p1, I p2, R 769] M0 (qI fun k M => Pw M ∧ Fr (fm_m7034_0 ||| 1852673427797059126777135760139006525652319754650249024631321344126610074238977) M0 M ∧ 0 ≤ k ∧ k ≤ 1 ∧ M0 (-1) 0 ≤ M (-1) 0 ∧ M (-1) 0 ≤ M0 (-1) 0 + 1 ∧ (∃ z : Int, (-1) ≤ z ∧ z ≤ 9 ∧ QNR p1 p2 x2_1 x0_9 x0_11 k z (M 0 11) ∧ (k = 0 → M 769 0 = ((z % 18446744073709551616).toNat : Int)))) := by
  refine ct_of (d := d + 2) (k := 1) (L := [some (R 0), some (I p1), some (I p2), some (R 769), none]) rfl rfl rfl ?_
  generalize hQ : (qI fun k M => Pw M ∧ Fr (fm_m7034_0 ||| 1852673427797059126777135760139006525652319754650249024631321344126610074238977) M0 M ∧ 0 ≤ k ∧ k ≤ 1 ∧ M0 (-1) 0 ≤ M (-1) 0 ∧ M (-1) 0 ≤ M0 (-1) 0 + 1 ∧ (∃ z : Int, (-1) ≤ z ∧ z ≤ 9 ∧ QNR p1 p2 x2_1 x0_9 x0_11 k z (M 0 11) ∧ (k = 0 → M 769 0 = ((z % 18446744073709551616).toNat : Int)))) = Q
  refine wk_al3 r257_0 (wk_c1 r257_1 (wk_al0 r257_2 (wk_il1 r257_3 (wk_il2 r257_4 (wk_cc3 r257_5 kc_0_34 rfl (m7034_0 _ M0 p1 p2 x2_1 x0_9 x0_11 hP0 l1 u1 l2 u2 ex2_1 lx2_1 ux2_1 ex0_9 lx0_9 ux0_9 ex0_11 lx0_11 ux0_11) (ccI (by decide) ?_ ?_))))))
  · rintro M ⟨h1, h2, h3, h5⟩
    subst hQ
    exact ⟨rfl, 1, rfl, h1, (Fr.rf (fm_m7034_0 ||| 1852673427797059126777135760139006525652319754650249024631321344126610074238977) M0).tr h2 rfl, by decide, by decide, by omega, by omega, 0, by decide, by decide, Or.inl ⟨h5.2, rfl, h5.1⟩, fun q => absurd q (by decide)⟩
  · rintro z M ⟨h1, h2, h3, h4, h9⟩
    have hF := (Fr.rf (fm_m7034_0 ||| 1852673427797059126777135760139006525652319754650249024631321344126610074238977) M0).tr h2 rfl
    have hg : M (-1) 0 = M0 (-1) 0 := h2.at g_below rfl
    refine wk_i2l r257_8 ⟨by omega, by omega⟩ ?_
    refine wk_last r257_9 ar_769 (by decide) (wk_nw (gr_769 (by decide) (by decide) _) rfl h1 hF (ua_769 ⟨by omega, by omega⟩) ?_)
    intro M5 hP5 hF5 e5
    have hg5 : M5 (-1) 0 = M0 (-1) 0 := mUp_no e5 hg (Or.inl (by decide))
    have e7 := mUp_at e5
    have q0 : M5 0 11 = M 0 11 := mUp_no e5 rfl (Or.inl (by decide))
    rw [← q0] at h9
    refine wk_goto r257_10 (wk_c1 r257_17 ?_)
    subst hQ
    exact wk_iret r257_18 ⟨rfl, _, rfl, hP5, hF5, by decide, by decide, by omega, by omega, z, h3, h4, h9, fun _ => e7⟩
