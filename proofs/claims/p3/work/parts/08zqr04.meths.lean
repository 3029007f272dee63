/-! ===== written by program (wip/layer4) ===== -/
def fm_m7010_14_2 : Nat := 1180591620717411303424
/-- IslandHall$Walk.stepPeople -/
theorem m7010_14_2 {B : eB} (d : Nat) (M0 : Mm) (hP0 : Pw M0) (xp0 : WC M0) : Ct B (d + 2) 10 [R 14, R 2] M0 (qV fun M => Pw M ∧ Fr fm_m7010_14_2 M0 M ∧ (WC M)) := by
  refine ct_of (d := d + 1) (k := 2) (L := [some (R 14), some (R 2), none, none]) rfl rfl rfl ?_
  have hF0 := Fr.rf fm_m7010_14_2 M0
  generalize hQ : (qV fun M => Pw M ∧ Fr fm_m7010_14_2 M0 M ∧ (WC M)) = Q
  refine wk_al1 r10_0 (wk_getfb r10_1 fd_2_1 (bf_2_1 hP0) ?_)
  intro v1 h3 h4 e2
  refine wk_c1 r10_4 (wk_isub r10_5 (wk_is2 r10_6 rfl ?_))
  have c7_45 : ∀ (k45 : Nat) (M8 : Mm) (v5 : Int), (v5 - (-2)).toNat = k45 → Pw M8 → Fr fm_m7010_14_2 M0 M8 → M8 2 1 = v1 → (-2) ≤ v5 → v5 ≤ 6 → (WC M8) → Wp B (d + 1) 10 7 [some (R 14), some (R 2), some (I v5), none] [] M8 Q := by
    refine lp_ind ?_
    intro k45 ih45 M8 v5 hk45 hP9 hF10 e11 h6 h7 ti12
    refine wk_il2 r10_7 ?_
    refine wk_iflt r10_8 ⟨by omega, by omega⟩ ?_ ?_
    · intro h13
      subst hQ; exact wk_ret r10_54 (⟨rfl, hP9, hF10, ti12⟩)
    · intro h14
      refine wk_al1 r10_11 (wk_il2 r10_12 (wk_al0 r10_13 (wk_getfr r10_14 fd_14_0 (br_14_0 hP9) (wk_il2 r10_17 (wk_ialdb r10_18 ar_15 ⟨by omega, by omega⟩ (fun q0 q1 => ba_15 hP9 q0 q1) ?_)))))
      intro v15 h17 h18 e16
      refine wk_cv3 r10_19 kc_2_177 rfl (m7177_2v6 _ M8 v5 v15 hP9 (by first | with_reducible assumption | omega) (by first | with_reducible assumption | omega) (by first | with_reducible assumption | omega) (by first | with_reducible assumption | omega)) (cqI ?_)
      rintro v24 M19 ⟨hP20, hQ21, h25, h26, xh23⟩
      obtain rfl := Fr.same hQ21
      refine wk_is3 r10_22 rfl (wk_il3 r10_23 (wk_c1 r10_24 ?_))
      refine wk_iceq r10_25 ⟨by omega, by omega⟩ (by decide) ?_ ?_
      · intro h27
        refine wk_al0 r10_36 (wk_getfr r10_37 fd_14_0 (br_14_0 hP9) (wk_il2 r10_40 (wk_al1 r10_41 (wk_il2 r10_42 (wk_c1 r10_43 (wk_cv3 r10_44 kc_2_177 rfl (m7177_2v5 _ M8 v5 (-1) hP9 (by first | with_reducible assumption | omega) (by first | with_reducible assumption | omega) (by decide) (by decide)) (cqI ?_)))))))
        rintro v33 M28 ⟨hP29, hQ30, h34, h35, xh32⟩
        obtain rfl := Fr.same hQ30
        refine wk_iast r10_47 ar_15 ⟨by omega, by omega⟩ (wk_nw (ga_15 _) rfl hP9 hF10 (ua_15 ⟨by omega, by omega⟩) ?_)
        intro M36 hP37 hF38 e39
        refine wk_inc2 r10_48 rfl (wk_goto r10_51 ?_)
        exact wp_fg (le_s (le_s (le_s (le_n le_0)))) (ih45 ((v5 + (-1)) - (-2)).toNat (by omega) M36 (v5 + (-1)) rfl hP37 hF38 (mUp_no e39 e11 (Or.inl (by decide))) (by first | with_reducible assumption | omega) (by first | with_reducible assumption | omega) (WC_up e39 ti12 (xh32 (by omega))))
      · intro h40
        refine wk_al0 r10_28 (wk_getfr r10_29 fd_14_0 (br_14_0 hP9) (wk_il2 r10_32 (wk_il3 r10_33 (wk_iast r10_34 ar_15 ⟨by omega, by omega⟩ (wk_nw (ga_15 _) rfl hP9 hF10 (ua_15 ⟨by omega, by omega⟩) ?_)))))
        intro M41 hP42 hF43 e44
        subst hQ; exact wk_ret r10_35 (⟨rfl, hP42, hF43, WC_up e44 ti12 (xh23 (by omega))⟩)
  exact wp_fg (le_s (le_s (le_s (le_s le_0)))) (c7_45 _ M0 (v1 - 1) rfl hP0 hF0 e2 (by first | with_reducible assumption | omega) (by first | with_reducible assumption | omega) (xp0))
def fm_m7009_14_2 : Nat := 2213609288845146193920
/-- IslandHall$Walk.step -/
theorem m7009_14_2 {B : eB} (d : Nat) (M0 : Mm) (hP0 : Pw M0) (xp0 : WC M0) : Ct B (d + 3) 9 [R 14, R 2] M0 (qV fun M => Pw M ∧ Fr fm_m7009_14_2 M0 M ∧ (WC M)) := by
  refine ct_of (d := d + 2) (k := 0) (L := [some (R 14), some (R 2)]) rfl rfl rfl ?_
  have hF0 := Fr.rf fm_m7009_14_2 M0
  generalize hQ : (qV fun M => Pw M ∧ Fr fm_m7009_14_2 M0 M ∧ (WC M)) = Q
  refine wk_al0 r9_0 (wk_getfb r9_1 fd_14_3 (bf_14_3 hP0) ?_)
  intro v1 h3 h4 e2
  refine wk_al1 r9_4 (wk_cv1 r9_5 kc_2_182 rfl (m7182_2 _ M0 hP0) (cqI ?_))
  rintro v10 M5 ⟨hP6, hQ7, h11, h12, xh9⟩
  obtain rfl := Fr.same hQ7
  refine wk_icge r9_8 ⟨by omega, by omega⟩ ⟨by omega, by omega⟩ ?_ ?_
  · intro h13
    refine wk_al0 r9_22 (wk_c1 r9_23 (wk_putfi81 r9_24 fd_14_3 (wk_nw g_14_3 rfl hP0 hF0 (uf_14_3 (by decide)) ?_)))
    intro M14 hP15 hF16 e17
    refine wk_al0 r9_27 (wk_getfb r9_28 fd_14_2 (bf_14_2 hP15) ?_)
    intro v18 h20 h21 e19
    refine wk_al1 r9_31 (wk_cv1 r9_32 kc_2_181 rfl (m7181_2 _ M14 hP15) (cqI ?_))
    rintro v27 M22 ⟨hP23, hQ24, h28, h29, xh26⟩
    obtain rfl := Fr.same hQ24
    refine wk_icge r9_35 ⟨by omega, by omega⟩ ⟨by omega, by omega⟩ ?_ ?_
    · intro h30
      refine wk_al0 r9_49 (wk_al1 r9_50 (wk_cv1 r9_51 kc_2_179 rfl (m7179_2 _ M14 hP15) (cqI ?_)))
      rintro v36 M31 ⟨hP32, hQ33, h37, h38, xh35⟩
      obtain rfl := Fr.same hQ33
      refine wk_putfi81 r9_54 fd_14_2 (wk_nw g_14_2 rfl hP15 hF16 (uf_14_2 ⟨by omega, by omega⟩) ?_)
      intro M39 hP40 hF41 e42
      refine wk_al0 r9_57 (wk_getfb r9_58 fd_14_1 (bf_14_1 hP40) ?_)
      intro v43 h45 h46 e44
      refine wk_c1 r9_61 (wk_iadd r9_62 (wk_al1 r9_63 (wk_getfb r9_64 fd_2_2 (bf_2_2 hP40) ?_)))
      intro v47 h49 h50 e48
      refine wk_icge r9_67 ⟨by omega, by omega⟩ ⟨by omega, by omega⟩ ?_ ?_
      · intro h51
        refine wk_al0 r9_81 (wk_c1 r9_82 (wk_putfi81 r9_83 fd_14_1 (wk_nw g_14_1 rfl hP40 hF41 (uf_14_1 (by decide)) ?_)))
        intro M52 hP53 hF54 e55
        refine wk_al0 r9_86 (wk_al1 r9_87 (wk_cv2 r9_88 kc_14_10 rfl (m7010_14_2 _ M52 hP53 ((WC_eq (by rw [e55, mUp_ne (Or.inl (by decide))]) (fun k => by rw [e55, mUp_ne (Or.inl (by decide))]) (fun k => by rw [e55, mUp_ne (Or.inl (by decide))]) (WC_eq (by rw [e42, mUp_ne (Or.inl (by decide))]) (fun k => by rw [e42, mUp_ne (Or.inl (by decide))]) (fun k => by rw [e42, mUp_ne (Or.inl (by decide))]) (WC_eq (by rw [e17, mUp_ne (Or.inl (by decide))]) (fun k => by rw [e17, mUp_ne (Or.inl (by decide))]) (fun k => by rw [e17, mUp_ne (Or.inl (by decide))]) xp0))))) (cqV ?_)))
        rintro M56 ⟨hP57, hQ58, xh60⟩
        have hF59 : Fr fm_m7009_14_2 M0 M56 := hF54.tr hQ58 rfl
        subst hQ; exact wk_ret r9_91 (⟨rfl, hP57, hF59, xh60⟩)
      · intro h61
        refine wk_al0 r9_70 (wk_dupr r9_71 (wk_getfi r9_72 fd_14_1 e44 (wk_c1 r9_75 (wk_iadd r9_76 (wk_putfi81 r9_77 fd_14_1 (wk_nw g_14_1 rfl hP40 hF41 (uf_14_1 ⟨by omega, by omega⟩) ?_))))))
        intro M62 hP63 hF64 e65
        subst hQ; exact wk_ret r9_80 (⟨rfl, hP63, hF64, (WC_eq (by rw [e65, mUp_ne (Or.inl (by decide))]) (fun k => by rw [e65, mUp_ne (Or.inl (by decide))]) (fun k => by rw [e65, mUp_ne (Or.inl (by decide))]) (WC_eq (by rw [e42, mUp_ne (Or.inl (by decide))]) (fun k => by rw [e42, mUp_ne (Or.inl (by decide))]) (fun k => by rw [e42, mUp_ne (Or.inl (by decide))]) (WC_eq (by rw [e17, mUp_ne (Or.inl (by decide))]) (fun k => by rw [e17, mUp_ne (Or.inl (by decide))]) (fun k => by rw [e17, mUp_ne (Or.inl (by decide))]) xp0)))⟩)
    · intro h66
      refine wk_al0 r9_38 (wk_dupr r9_39 (wk_getfi r9_40 fd_14_2 e19 (wk_c1 r9_43 (wk_iadd r9_44 (wk_putfi81 r9_45 fd_14_2 (wk_nw g_14_2 rfl hP15 hF16 (uf_14_2 ⟨by omega, by omega⟩) ?_))))))
      intro M67 hP68 hF69 e70
      subst hQ; exact wk_ret r9_48 (⟨rfl, hP68, hF69, (WC_eq (by rw [e70, mUp_ne (Or.inl (by decide))]) (fun k => by rw [e70, mUp_ne (Or.inl (by decide))]) (fun k => by rw [e70, mUp_ne (Or.inl (by decide))]) (WC_eq (by rw [e17, mUp_ne (Or.inl (by decide))]) (fun k => by rw [e17, mUp_ne (Or.inl (by decide))]) (fun k => by rw [e17, mUp_ne (Or.inl (by decide))]) xp0))⟩)
  · intro h71
    refine wk_al0 r9_11 (wk_dupr r9_12 (wk_getfi r9_13 fd_14_3 e2 (wk_c1 r9_16 (wk_iadd r9_17 (wk_putfi81 r9_18 fd_14_3 (wk_nw g_14_3 rfl hP0 hF0 (uf_14_3 ⟨by omega, by omega⟩) ?_))))))
    intro M72 hP73 hF74 e75
    subst hQ; exact wk_ret r9_21 (⟨rfl, hP73, hF74, (WC_eq (by rw [e75, mUp_ne (Or.inl (by decide))]) (fun k => by rw [e75, mUp_ne (Or.inl (by decide))]) (fun k => by rw [e75, mUp_ne (Or.inl (by decide))]) xp0)⟩)
def fm_m7205_10_2 : Nat := 35324938440401487921152
/-- IslandHall$Realm.settle -/
theorem m7205_10_2 {B : eB} (d : Nat) (M0 : Mm) (hP0 : Pw M0) (xp0 : SZk M0 2 3 ≤ 3000) : Ct B (d + 6) 205 [R 10, R 2] M0 (qV fun M => Pw M ∧ Fr fm_m7205_10_2 M0 M) := by
  refine ct_of (d := d + 5) (k := 2) (L := [some (R 10), some (R 2), none, none]) rfl rfl rfl ?_
  have hF0 := Fr.rf fm_m7205_10_2 M0
  generalize hQ : (qV fun M => Pw M ∧ Fr fm_m7205_10_2 M0 M) = Q
  refine wk_al0 r205_0 (wk_al1 r205_1 (wk_getfb r205_2 fd_2_1 (bf_2_1 hP0) ?_))
  intro v1 h3 h4 e2
  refine wk_al1 r205_5 (wk_getfb r205_6 fd_2_4 (bf_2_4 hP0) ?_)
  intro v5 h7 h8 e6
  refine wk_cv3 r205_9 kc_10_187 rfl (m7187_10 _ M0 v1 v5 hP0 (by first | with_reducible assumption | omega) (by first | with_reducible assumption | omega) (by first | with_reducible assumption | omega) (by first | with_reducible assumption | omega)) (cqV ?_)
  rintro M9 ⟨hP10, hQ11, h13⟩
  have hF12 : Fr fm_m7205_10_2 M0 M9 := hF0.tr hQ11 rfl
  obtain ⟨v14, e15⟩ : ∃ v, M9 10 9 = v := ⟨_, rfl⟩
  have h16 := (bf_10_9 hP10).1; rw [e15] at h16
  have h17 := (bf_10_9 hP10).2; rw [e15] at h17
  refine wk_al0 r205_12 (wk_getfr r205_13 fd_10_6 (br_10_6 hP10) (wk_al1 r205_16 (wk_cv2 r205_17 kc_14_5 rfl (m7005_14_2 _ M9 hP10) (cqV ?_))))
  rintro M18 ⟨hP19, hQ20, xh22⟩
  have hF21 : Fr fm_m7205_10_2 M0 M18 := hF12.tr hQ20 rfl
  have wc0 := xh22
  refine wk_al1 r205_20 (wk_cv1 r205_21 kc_2_184 rfl (m7184_2 _ M18 hP19) (cqI ?_))
  rintro v28 M23 ⟨hP24, hQ25, h29, h30, xh27⟩
  obtain rfl := Fr.same hQ25
  have pbk : 1 ≤ v28 → PBok M18 := fun h => PBok_of (fun k a b => ba_3 hP19 a b) (bf_2_1 hP19).2 xh27 h (by rw [xh27, SZk_eq (M := M0) (pl_fr hF21 rfl rfl rfl rfl rfl rfl) (fun k _ _ => hF21.at (ga_3 k) rfl) (bf_2_1 hP0).2]; exact xp0)
  refine wk_al0 r205_24 (wk_getfr r205_25 fd_10_1 (br_10_1 hP19) (wk_alen r205_28 ar_136 (by decide) (wk_min r205_29 ⟨by omega, by omega⟩ (by decide) rfl ?_)))
  intro v31 h32 h33 h34
  refine wk_is2 r205_32 rfl (wk_c1 r205_33 (wk_is3 r205_34 rfl ?_))
  have c35_489 : ∀ (k489 : Nat) (M445 : Mm) (v442 : Int) (v448 : Int), (3000 - v442).toNat = k489 → Pw M445 → Fr fm_m7205_10_2 M0 M445 → M445 10 9 = v448 → M445 2 1 = v1 → M445 2 4 = v5 → 0 ≤ v442 → v442 ≤ 3000 → 0 ≤ v448 → v448 ≤ 3000 → 0 ≤ (-1) * v442 + v448 + 0 → 0 ≤ (-1) * v448 + v442 + 0 → (WC M445) → (1 ≤ v31 → PBok M445) → Wp B (d + 5) 205 35 [some (R 10), some (R 2), some (I v31), some (I v442)] [] M445 Q := by
    refine lp_ind ?_
    intro k489 ih489 M445 v442 v448 hk489 hP446 hF447 e451 e452 e453 h443 h444 h449 h450 h454 h455 ti456 ti457
    refine wk_il3 r205_35 (wk_il2 r205_36 ?_)
    refine wk_icge r205_37 ⟨by omega, by omega⟩ ⟨by omega, by omega⟩ ?_ ?_
    · intro h458
      subst hQ; exact wk_ret r205_73 (⟨rfl, hP446, hF447⟩)
    · intro h459
      refine wk_al0 r205_40 (wk_al0 r205_41 (wk_getfr r205_42 fd_10_6 (br_10_6 hP446) (wk_cv1 r205_45 kc_14_7 rfl (m7007_14 _ M445 hP446) (cqI ?_))))
      rintro v464 M460 ⟨hP461, hQ462, h465, h466⟩
      obtain rfl := Fr.same hQ462
      refine wk_al0 r205_48 (wk_getfr r205_49 fd_10_6 (br_10_6 hP446) (wk_al1 r205_52 (wk_cv2 r205_53 kc_14_8 rfl (m7008_14_2 _ M445 hP446 (ti456) (ti457 (by omega))) (cqI ?_))))
      rintro v471 M467 ⟨hP468, hQ469, h472, h473⟩
      obtain rfl := Fr.same hQ469
      refine wk_cv3 r205_56 kc_10_202 rfl (m7202_10 _ M445 v464 v471 v448 hP446 (by first | with_reducible assumption | omega) (by first | with_reducible assumption | omega) (by first | with_reducible assumption | omega) (by first | with_reducible assumption | omega) e451 (by first | with_reducible assumption | omega) (by first | with_reducible assumption | omega)) (cqV ?_)
      rintro M474 ⟨hP475, hQ476, h478, h479⟩
      have hF477 : Fr fm_m7205_10_2 M0 M474 := hF447.tr hQ476 rfl
      obtain ⟨v480, e481⟩ : ∃ v, M474 10 9 = v := ⟨_, rfl⟩
      have h482 := (bf_10_9 hP475).1; rw [e481] at h482
      have h483 := (bf_10_9 hP475).2; rw [e481] at h483
      refine wk_al0 r205_59 (wk_getfr r205_60 fd_10_6 (br_10_6 hP475) (wk_al1 r205_63 (wk_cv2 r205_64 kc_14_9 rfl (m7009_14_2 _ M474 hP475 ((WC_eq (hQ476.at g_2_1 rfl) (fun k => hQ476.at (ga_3 k) rfl) (fun k => hQ476.at (ga_15 k) rfl) ti456))) (cqV ?_))))
      rintro M484 ⟨hP485, hQ486, xh488⟩
      have hF487 : Fr fm_m7205_10_2 M0 M484 := hF477.tr hQ486 rfl
      refine wk_inc3 r205_67 rfl (wk_goto r205_70 ?_)
      exact wp_fg (le_s (le_s (le_s (le_s le_0)))) (ih489 (3000 - (v442 + 1)).toNat (by omega) M484 (v442 + 1) v480 rfl hP485 hF487 ((hQ486.at g_10_9 rfl).trans e481) ((hQ486.at g_2_1 rfl).trans ((hQ476.at g_2_1 rfl).trans e452)) ((hQ486.at g_2_4 rfl).trans ((hQ476.at g_2_4 rfl).trans e453)) (by first | with_reducible assumption | omega) (by first | with_reducible assumption | omega) (by first | with_reducible assumption | omega) (by first | with_reducible assumption | omega) (by first | with_reducible assumption | omega) (by first | with_reducible assumption | omega) (xh488) (fun h => (PBok_eq (hQ486.at g_2_1 rfl) (fun k => hQ486.at (ga_3 k) rfl) (PBok_eq (hQ476.at g_2_1 rfl) (fun k => hQ476.at (ga_3 k) rfl) (ti457 h)))))
  exact wp_fg (le_s (le_s (le_s (le_s le_0)))) (c35_489 _ M18 0 v14 rfl hP19 hF21 ((hQ20.at g_10_9 rfl).trans e15) ((hQ20.at g_2_1 rfl).trans ((hQ11.at g_2_1 rfl).trans e2)) ((hQ20.at g_2_4 rfl).trans ((hQ11.at g_2_4 rfl).trans e6)) (by first | with_reducible assumption | omega) (by first | with_reducible assumption | omega) (by first | with_reducible assumption | omega) (by first | with_reducible assumption | omega) (by first | with_reducible assumption | omega) (by first | with_reducible assumption | omega) (wc0) (fun h => pbk (by omega)))
def fm_m7190_10 : Nat := 0
/-- IslandHall$Realm.freeRow -/
theorem m7190_10 {B : eB} (d : Nat) (M0 : Mm) (p1 : Int) (hP0 : Pw M0) (l1 : 0 ≤ p1) (u1 : p1 ≤ 6) : Ct B (d + 1) 190 [R 10, I p1] M0 (qR fun z M => Pw M ∧ Fr fm_m7190_10 M0 M ∧ 21 ≤ z ∧ z ≤ 51) := by
  refine ct_of (d := d + 0) (k := 0) (L := [some (R 10), some (I p1)]) rfl rfl rfl ?_
  have hF0 := Fr.rf fm_m7190_10 M0
  generalize hQ : (qR fun z M => Pw M ∧ Fr fm_m7190_10 M0 M ∧ 21 ≤ z ∧ z ≤ 51) = Q
  refine wk_al0 r190_0 (wk_getfr r190_1 fd_10_0 (br_10_0 hP0) (wk_c1 r190_4 (wk_il1 r190_5 (wk_c1 r190_6 (wk_imul r190_7 (wk_iadd r190_8 (wk_c1 r190_9 (wk_iadd r190_10 (wk_raldb r190_11 ar_16 ⟨by omega, by omega⟩ (fun q0 q1 => ba_16 hP0 q0 q1) ?_)))))))))
  subst hQ; exact wk_aret r190_12 (⟨rfl, _, rfl, hP0, hF0, by omega, by omega⟩)
def fm_m7208_10 : Nat := 0
/-- IslandHall$Realm.yesRow -/
theorem m7208_10 {B : eB} (d : Nat) (M0 : Mm) (p1 : Int) (hP0 : Pw M0) (l1 : (-1) ≤ p1) (u1 : p1 ≤ (-1)) : Ct B (d + 1) 208 [R 10, I p1] M0 (qR fun z M => Pw M ∧ Fr fm_m7208_10 M0 M ∧ 135 ≤ z ∧ z ≤ 135) := by
  refine ct_of (d := d + 0) (k := 0) (L := [some (R 10), some (I p1)]) rfl rfl rfl ?_
  have hF0 := Fr.rf fm_m7208_10 M0
  generalize hQ : (qR fun z M => Pw M ∧ Fr fm_m7208_10 M0 M ∧ 135 ≤ z ∧ z ≤ 135) = Q
  refine wk_al0 r208_0 (wk_getfr r208_1 fd_10_0 (br_10_0 hP0) (wk_il1 r208_4 (wk_c1 r208_5 ?_)))
  refine wk_icne r208_6 ⟨by omega, by omega⟩ (by decide) ?_ ?_
  · intro h1
    exfalso
    omega
  · intro h2
    refine wk_c2 r208_9 (wk_goto r208_11 (wk_raldb r208_18 ar_16 (by decide) (fun q0 q1 => ba_16 hP0 q0 q1) ?_))
    subst hQ; exact wk_aret r208_19 (⟨rfl, _, rfl, hP0, hF0, by omega, by omega⟩)
def fm_m7193_10 : Nat := 0
/-- IslandHall$Realm.honestRow -/
theorem m7193_10 {B : eB} (d : Nat) (M0 : Mm) (p1 : Int) (hP0 : Pw M0) (l1 : 0 ≤ p1) (u1 : p1 ≤ 6) : Ct B (d + 1) 193 [R 10, I p1] M0 (qR fun z M => Pw M ∧ Fr fm_m7193_10 M0 M ∧ 105 ≤ z ∧ z ≤ 118) := by
  refine ct_of (d := d + 0) (k := 0) (L := [some (R 10), some (I p1)]) rfl rfl rfl ?_
  have hF0 := Fr.rf fm_m7193_10 M0
  generalize hQ : (qR fun z M => Pw M ∧ Fr fm_m7193_10 M0 M ∧ 105 ≤ z ∧ z ≤ 118) = Q
  refine wk_al0 r193_0 (wk_getfr r193_1 fd_10_0 (br_10_0 hP0) (wk_c2 r193_4 (wk_c1 r193_6 (wk_il1 r193_7 (wk_imul r193_8 (wk_iadd r193_9 (wk_al0 r193_10 (wk_getfr r193_11 fd_10_3 (br_10_3 hP0) (wk_il1 r193_14 (wk_ialdb r193_15 ar_11 ⟨by omega, by omega⟩ (fun q0 q1 => ba_11 hP0 q0 q1) ?_))))))))))
  intro v1 h3 h4 e2
  refine wk_iadd r193_16 (wk_raldb r193_17 ar_16 ⟨by omega, by omega⟩ (fun q0 q1 => ba_16 hP0 q0 q1) ?_)
  subst hQ; exact wk_aret r193_18 (⟨rfl, _, rfl, hP0, hF0, by omega, by omega⟩)
def fm_m7185_10v8 : Nat := 0
/-- IslandHall$Realm.alike -/
theorem m7185_10v8 {B : eB} (d : Nat) (M0 : Mm) (p1 : Int) (p2 : Int) (hP0 : Pw M0) (l1 : 0 ≤ p1) (u1 : p1 ≤ 54) (l2 : 0 ≤ p2) (u2 : p2 ≤ 46) (xp0 : p1 % 8 ≤ 6) : Ct B (d + 1) 185 [R 10, I p1, I p2] M0 (qL fun z M => Pw M ∧ Fr fm_m7185_10v8 M0 M ∧ z < 18446744073709551616) := by
  refine ct_of (d := d + 0) (k := 5) (L := [some (R 10), some (I p1), some (I p2), none, none, none, none, none]) rfl rfl rfl ?_
  have hF0 := Fr.rf fm_m7185_10v8 M0
  generalize hQ : (qL fun z M => Pw M ∧ Fr fm_m7185_10v8 M0 M ∧ z < 18446744073709551616) = Q
  refine wk_c1 r185_0 (wk_il1 r185_1 (wk_c1 r185_2 (wk_ishrc r185_3 ⟨by omega, by omega⟩ (by decide) pwl_3 (wk_c1 r185_4 (wk_imul r185_5 (wk_iadd r185_6 (wk_is3 r185_7 rfl (wk_c1 r185_8 (wk_il1 r185_9 (wk_c2 r185_10 (wk_iandc 3 8 r185_12 ⟨rfl, by decide⟩ rfl (wk_c1 r185_13 (wk_imul r185_14 (wk_iadd r185_15 (wk_is4 r185_16 rfl (wk_c6 r185_18 (wk_ls5 r185_19 rfl (wk_c1 r185_21 (wk_is7 r185_22 rfl ?_)))))))))))))))))))
  have c24_170 : ∀ (k170 : Nat) (n146 : Nat) (v148 : Int), (5 - v148).toNat = k170 → n146 < 18446744073709551616 → 0 ≤ v148 → v148 ≤ 5 → Wp B (d + 0) 185 24 [some (R 10), none, some (I p2), some (I (0 + ((p1 / 8) * 5))), some (I (0 + ((p1 % 8) * 5))), some (J n146), none, some (I v148)] [] M0 Q := by
    refine lp_ind ?_
    intro k170 ih170 n146 v148 hk170 h147 h149 h150
    refine wk_il7 r185_24 (wk_c1 r185_26 ?_)
    refine wk_icge r185_27 ⟨by omega, by omega⟩ (by decide) ?_ ?_
    · intro h151
      refine wk_ll5 r185_65 ?_
      subst hQ; exact wk_lret r185_67 (⟨rfl, _, rfl, hP0, hF0, by omega⟩)
    · intro h152
      refine wk_ll5 r185_30 (wk_al0 r185_32 (wk_getfr r185_33 fd_10_0 (br_10_0 hP0) (wk_il3 r185_36 (wk_il7 r185_37 (wk_iadd r185_39 (wk_raldb r185_40 ar_16 ⟨by omega, by omega⟩ (fun q0 q1 => ba_16 hP0 q0 q1) (wk_il2 r185_41 (wk_laldb r185_42 (arF_17 (by omega) (by omega)) ⟨by omega, by omega⟩ (fun q0 q1 => baF_17 hP0 (by omega) (by omega) q0 q1) (by decide) ?_))))))))
      intro n153 h155 h156 e154
      refine wk_al0 r185_43 (wk_getfr r185_44 fd_10_0 (br_10_0 hP0) (wk_il4 r185_47 (wk_il7 r185_49 (wk_iadd r185_51 (wk_raldb r185_52 ar_16 ⟨by omega, by omega⟩ (fun q0 q1 => ba_16 hP0 q0 q1) (wk_il2 r185_53 (wk_laldb r185_54 (arF_17 (by omega) (by omega)) ⟨by omega, by omega⟩ (fun q0 q1 => baF_17 hP0 (by omega) (by omega) q0 q1) (by decide) ?_)))))))
      intro n157 h159 h160 e158
      refine wk_land r185_55 ?_
      intro n161 h162 h163 h164 h165
      refine wk_lorb r185_56 ?_
      intro n166 h167 h168 h169
      refine wk_ls5 r185_57 rfl (wk_inc7 r185_59 rfl (wk_goto r185_62 ?_))
      exact wp_fg (le_s (le_s (le_s (le_s (le_s (le_s (le_s (le_s le_0)))))))) (ih170 (5 - (v148 + 1)).toNat (by omega) n166 (v148 + 1) rfl (by first | with_reducible assumption | omega) (by first | with_reducible assumption | omega) (by first | with_reducible assumption | omega))
  exact wp_fg (le_s (le_n (le_s (le_s (le_s (le_s (le_s (le_s le_0)))))))) (c24_170 _ 0 0 rfl (by first | with_reducible assumption | omega) (by first | with_reducible assumption | omega) (by first | with_reducible assumption | omega))
def fm_m7198_10v8 : Nat := 0
/-- IslandHall$Realm.many -/
theorem m7198_10v8 {B : eB} (d : Nat) (M0 : Mm) (p1 : Int) (p2 : Int) (hP0 : Pw M0) (l1 : 0 ≤ p1) (u1 : p1 ≤ 1279) (l2 : 0 ≤ p2) (u2 : p2 ≤ 46) : Ct B (d + 1) 198 [R 10, I p1, I p2] M0 (qL fun z M => Pw M ∧ Fr fm_m7198_10v8 M0 M ∧ z < 18446744073709551616) := by
  refine ct_of (d := d + 0) (k := 4) (L := [some (R 10), some (I p1), some (I p2), none, none, none, none]) rfl rfl rfl ?_
  have hF0 := Fr.rf fm_m7198_10v8 M0
  generalize hQ : (qL fun z M => Pw M ∧ Fr fm_m7198_10v8 M0 M ∧ z < 18446744073709551616) = Q
  refine wk_c2 r198_0 (wk_il1 r198_2 (wk_c2 r198_3 (wk_ishrc r198_5 ⟨by omega, by omega⟩ (by decide) pwl_8 (wk_c2 r198_6 (wk_imul r198_8 (wk_iadd r198_9 (wk_is3 r198_10 rfl (wk_c6 r198_11 (wk_ls4 r198_12 rfl (wk_c1 r198_14 (wk_is6 r198_15 rfl ?_)))))))))))
  have c17_178 : ∀ (k178 : Nat) (n156 : Nat) (v158 : Int), (8 - v158).toNat = k178 → n156 < 18446744073709551616 → 0 ≤ v158 → v158 ≤ 8 → Wp B (d + 0) 198 17 [some (R 10), some (I p1), some (I p2), some (I (48 + ((p1 / 256) * 8))), some (J n156), none, some (I v158)] [] M0 Q := by
    refine lp_ind ?_
    intro k178 ih178 n156 v158 hk178 h157 h159 h160
    refine wk_il6 r198_17 (wk_c2 r198_19 ?_)
    refine wk_icgt r198_21 ⟨by omega, by omega⟩ (by decide) ?_ ?_
    · intro h161
      refine wk_ll4 r198_56 ?_
      subst hQ; exact wk_lret r198_58 (⟨rfl, _, rfl, hP0, hF0, by omega⟩)
    · intro h162
      refine wk_il1 r198_24 (wk_il6 r198_25 (wk_shrb r198_27 ⟨by omega, by omega⟩ ⟨by omega, by omega⟩ ?_))
      intro v163 h164 h165 h166
      refine wk_c1 r198_28 (wk_iandc 1 2 r198_29 ⟨rfl, by decide⟩ rfl (wk_c1 r198_30 ?_))
      refine wk_icne r198_31 ⟨by omega, by omega⟩ (by decide) ?_ ?_
      · intro h168
        refine wk_inc6 r198_50 rfl (wk_goto r198_53 ?_)
        exact wp_fg (le_s (le_s (le_s (le_s (le_s (le_s (le_s le_0))))))) (ih178 (8 - (v158 + 1)).toNat (by omega) n156 (v158 + 1) rfl (by first | with_reducible assumption | omega) (by first | with_reducible assumption | omega) (by first | with_reducible assumption | omega))
      · intro h169
        refine wk_ll4 r198_34 (wk_al0 r198_36 (wk_getfr r198_37 fd_10_0 (br_10_0 hP0) (wk_il3 r198_40 (wk_il6 r198_41 (wk_iadd r198_43 (wk_raldb r198_44 ar_16 ⟨by omega, by omega⟩ (fun q0 q1 => ba_16 hP0 q0 q1) (wk_il2 r198_45 (wk_laldb r198_46 (arF_17 (by omega) (by omega)) ⟨by omega, by omega⟩ (fun q0 q1 => baF_17 hP0 (by omega) (by omega) q0 q1) (by decide) ?_))))))))
        intro n170 h172 h173 e171
        refine wk_lorb r198_47 ?_
        intro n174 h175 h176 h177
        refine wk_ls4 r198_48 rfl (wk_inc6 r198_50 rfl (wk_goto r198_53 ?_))
        exact wp_fg (le_s (le_s (le_s (le_s (le_s (le_s (le_s le_0))))))) (ih178 (8 - (v158 + 1)).toNat (by omega) n174 (v158 + 1) rfl (by first | with_reducible assumption | omega) (by first | with_reducible assumption | omega) (by first | with_reducible assumption | omega))
  exact wp_fg (le_s (le_s (le_s (le_s (le_s (le_s (le_s le_0))))))) (c17_178 _ 0 0 rfl (by first | with_reducible assumption | omega) (by first | with_reducible assumption | omega) (by first | with_reducible assumption | omega))
def fm_m7189_10v8 : Nat := 0
/-- IslandHall$Realm.fits -/
theorem m7189_10v8 {B : eB} (d : Nat) (M0 : Mm) (p1 : Int) (p2 : Int) (p3 : Nat) (p4 : Int) (hP0 : Pw M0) (l1 : 0 ≤ p1) (u1 : p1 ≤ 6) (l2 : (-1) ≤ p2) (u2 : p2 ≤ (-1)) (l3 : p3 < 18446744073709551616) (l4 : 0 ≤ p4) (u4 : p4 ≤ 46) : Ct B (d + 2) 189 [R 10, I p1, I p2, J p3, I p4] M0 (qL fun z M => Pw M ∧ Fr fm_m7189_10v8 M0 M ∧ z < 18446744073709551616) := by
  refine ct_of (d := d + 1) (k := 0) (L := [some (R 10), some (I p1), some (I p2), some (J p3), none, some (I p4)]) rfl rfl rfl ?_
  have hF0 := Fr.rf fm_m7189_10v8 M0
  generalize hQ : (qL fun z M => Pw M ∧ Fr fm_m7189_10v8 M0 M ∧ z < 18446744073709551616) = Q
  refine wk_al0 r189_0 (wk_il1 r189_1 (wk_cv2 r189_2 kc_10_190 rfl (m7190_10 _ M0 p1 hP0 (by first | with_reducible assumption | omega) (by first | with_reducible assumption | omega)) (cqR ?_)))
  rintro v5 M1 ⟨hP2, hQ3, h6, h7⟩
  obtain rfl := Fr.same hQ3
  refine wk_il5 r189_5 (wk_laldb r189_7 (arF_17 (by omega) (by omega)) ⟨by omega, by omega⟩ (fun q0 q1 => baF_17 hP0 (by omega) (by omega) q0 q1) (by decide) ?_)
  intro n8 h10 h11 e9
  refine wk_al0 r189_8 (wk_il2 r189_9 (wk_cv2 r189_10 kc_10_208 rfl (m7208_10 _ M0 p2 hP0 (by first | with_reducible assumption | omega) (by first | with_reducible assumption | omega)) (cqR ?_)))
  rintro v16 M12 ⟨hP13, hQ14, h17, h18⟩
  obtain rfl : v16 = 135 := by omega
  obtain rfl := Fr.same hQ14
  refine wk_il5 r189_13 (wk_laldb r189_15 ar_135 ⟨by omega, by omega⟩ (fun q0 q1 => ba_135 hP0 q0 q1) (by decide) ?_)
  intro n19 h21 h22 e20
  refine wk_ll3 r189_16 (wk_lxor r189_17 ?_)
  intro n23 h24 h25
  refine wk_al0 r189_18 (wk_il1 r189_19 (wk_cv2 r189_20 kc_10_193 rfl (m7193_10 _ M0 p1 hP0 (by first | with_reducible assumption | omega) (by first | with_reducible assumption | omega)) (cqR ?_)))
  rintro v30 M26 ⟨hP27, hQ28, h31, h32⟩
  obtain rfl := Fr.same hQ28
  refine wk_il5 r189_23 (wk_laldb r189_25 (arF_17 (by omega) (by omega)) ⟨by omega, by omega⟩ (fun q0 q1 => baF_17 hP0 (by omega) (by omega) q0 q1) (by decide) ?_)
  intro n33 h35 h36 e34
  refine wk_lxor r189_26 ?_
  intro n37 h38 h39
  refine wk_lorb r189_27 ?_
  intro n40 h41 h42 h43
  subst hQ; exact wk_lret r189_28 (⟨rfl, _, rfl, hP0, hF0, by omega⟩)
def fm_m7207_10v8 : Nat := 18446744073709551616
set_option maxHeartbeats 20000000 in
/-- IslandHall$Realm.truth -/
theorem m7207_10v8 {B : eB} (d : Nat) (M0 : Mm) (c1 : Int) (p2 : Int) (hP0 : Pw M0) (hC1 : isC c1) (l2 : 0 ≤ p2) (u2 : p2 ≤ 46) : Ct B (d + 3) 207 [R 10, R c1, I p2] M0 (qL fun z M => Pw M ∧ Fr fm_m7207_10v8 M0 M ∧ z < 18446744073709551616) := by
  refine ct_of (d := d + 2) (k := 7) (L := [some (R 10), some (R c1), some (I p2), none, none, none, none, none, none, none]) rfl rfl rfl ?_
  have hF0 := Fr.rf fm_m7207_10v8 M0
  generalize hQ : (qL fun z M => Pw M ∧ Fr fm_m7207_10v8 M0 M ∧ z < 18446744073709551616) = Q
  refine wk_c1 r207_0 (wk_is3 r207_1 rfl (wk_c1 r207_2 (wk_is4 r207_3 rfl ?_)))
  have c5_1600 : ∀ (k1600 : Nat) (M1434 : Mm) (v1428 : Int) (v1431 : Int), (256 - v1431).toNat = k1600 → Pw M1434 → Fr fm_m7207_10v8 M0 M1434 → 0 ≤ v1428 → v1428 ≤ 31 → 0 ≤ v1431 → v1431 ≤ 256 → 0 ≤ (-1) * v1428 + v1431 + 0 → Wp B (d + 2) 207 5 [some (R 10), some (R c1), some (I p2), some (I v1428), some (I v1431), none, none, none, none, none] [] M1434 Q := by
    refine lp_ind ?_
    intro k1600 ih1600 M1434 v1428 v1431 hk1600 hP1435 hF1436 h1429 h1430 h1432 h1433 h1437
    refine wk_il4 r207_5 (wk_al1 r207_7 (wk_getfb r207_8 (fdC_1 hC1) (bC_1 hP1435 hC1) ?_))
    intro v1438 h1440 h1441 e1439
    refine wk_icge r207_11 ⟨by omega, by omega⟩ ⟨by omega, by omega⟩ ?_ ?_
    · intro h1442
      refine wk_al0 r207_255 (wk_getfr r207_256 fd_10_4 (br_10_4 hP1435) (wk_c1 r207_259 (wk_laldb r207_260 ar_12 (by decide) (fun q0 q1 => ba_12 hP1435 q0 q1) (by decide) ?_)))
      intro n1443 h1445 h1446 e1444
      subst hQ; exact wk_lret r207_261 (⟨rfl, _, rfl, hP1435, hF1436, by omega⟩)
    · intro h1447
      refine wk_il3 r207_14 (wk_c1 r207_15 (wk_iadd r207_16 (wk_c2 r207_17 ?_)))
      refine wk_icge r207_19 ⟨by omega, by omega⟩ (by decide) ?_ ?_
      · intro h1448
        refine wk_al0 r207_255 (wk_getfr r207_256 fd_10_4 (br_10_4 hP1435) (wk_c1 r207_259 (wk_laldb r207_260 ar_12 (by decide) (fun q0 q1 => ba_12 hP1435 q0 q1) (by decide) ?_)))
        intro n1449 h1451 h1452 e1450
        subst hQ; exact wk_lret r207_261 (⟨rfl, _, rfl, hP1435, hF1436, by omega⟩)
      · intro h1453
        refine wk_al1 r207_22 (wk_getfr r207_23 (fdC_0 hC1) (bC_0 hP1435 hC1) (wk_il4 r207_26 (wk_ialdb r207_28 (arC hC1) ⟨by omega, by omega⟩ (fun q0 q1 => baC hP1435 hC1 q0 q1) ?_)))
        intro v1454 h1456 h1457 e1455
        have h1458 := exC hP1435 hC1 (i := v1431) (by omega) (by omega); rw [e1455] at h1458; unfold stepok at h1458
        refine wk_c1 r207_29 (wk_ishrc r207_30 ⟨by omega, by omega⟩ (by decide) pwl_3 (wk_is5 r207_31 rfl (wk_al1 r207_33 (wk_getfr r207_34 (fdC_0 hC1) (bC_0 hP1435 hC1) (wk_il4 r207_37 (wk_iald r207_39 (arC hC1) ⟨by omega, by omega⟩ e1455 (wk_c2 r207_40 (wk_iandc 3 8 r207_42 ⟨rfl, by decide⟩ rfl (wk_is6 r207_43 rfl (wk_il6 r207_45 (wk_c1 r207_47 ?_)))))))))))
        refine wk_iceq r207_48 ⟨by omega, by omega⟩ (by decide) ?_ ?_
        · intro h1461
          refine wk_c1 r207_57 (wk_goto r207_58 (wk_is7 r207_62 rfl (wk_il6 r207_64 ?_)))
          refine wk_ifeq r207_66 ⟨by omega, by omega⟩ ?_ ?_
          · intro h1462
            exfalso
            omega
          · intro h1463
            refine wk_il6 r207_69 (wk_c1 r207_71 ?_)
            refine wk_iceq r207_72 ⟨by omega, by omega⟩ (by decide) ?_ ?_
            · intro h1464
              exfalso
              omega
            · intro h1465
              refine wk_il6 r207_75 (wk_c2 r207_77 ?_)
              refine wk_icne r207_79 ⟨by omega, by omega⟩ (by decide) ?_ ?_
              · intro h1466
                refine wk_il7 r207_134 ?_
                refine wk_ifeq r207_136 (by decide) ?_ ?_
                · intro h1467
                  exfalso
                  omega
                · intro h1468
                  refine wk_il3 r207_139 (wk_c1 r207_140 ?_)
                  refine wk_icle r207_141 ⟨by omega, by omega⟩ (by decide) ?_ ?_
                  · intro h1469
                    refine wk_il7 r207_197 ?_
                    refine wk_ifne r207_199 (by decide) ?_ ?_
                    · intro h1470
                      refine wk_inc4 r207_249 rfl (wk_goto r207_252 ?_)
                      exact wp_fg (le_s (le_s (le_s (le_s (le_s (le_n (le_n (le_n (le_s (le_s le_0)))))))))) (ih1600 (256 - (v1431 + 1)).toNat (by omega) M1434 v1428 (v1431 + 1) rfl hP1435 hF1436 (by first | with_reducible assumption | omega) (by first | with_reducible assumption | omega) (by first | with_reducible assumption | omega) (by first | with_reducible assumption | omega) (by first | with_reducible assumption | omega))
                    · intro h1471
                      exfalso
                      omega
                  · intro h1472
                    refine wk_inc3 r207_144 rfl (wk_al0 r207_147 (wk_getfr r207_148 fd_10_4 (br_10_4 hP1435) (wk_il3 r207_151 (wk_laldb r207_152 ar_12 ⟨by omega, by omega⟩ (fun q0 q1 => ba_12 hP1435 q0 q1) (by decide) ?_))))
                    intro n1473 h1475 h1476 e1474
                    refine wk_ls8 r207_153 rfl (wk_al0 r207_155 (wk_getfr r207_156 fd_10_4 (br_10_4 hP1435) (wk_il3 r207_159 (wk_c1 r207_160 (wk_isub r207_161 (wk_il6 r207_162 (wk_c1 r207_164 ?_)))))))
                    refine wk_icne r207_165 ⟨by omega, by omega⟩ (by decide) ?_ ?_
                    · intro h1477
                      exfalso
                      omega
                    · intro h1478
                      refine wk_al0 r207_168 (wk_getfr r207_169 fd_10_4 (br_10_4 hP1435) (wk_il3 r207_172 (wk_c1 r207_173 (wk_isub r207_174 (wk_laldb r207_175 ar_12 ⟨by omega, by omega⟩ (fun q0 q1 => ba_12 hP1435 q0 q1) (by decide) ?_)))))
                      intro n1479 h1481 h1482 e1480
                      refine wk_ll8 r207_176 (wk_land r207_178 ?_)
                      intro n1483 h1484 h1485 h1486 h1487
                      refine wk_goto r207_179 (wk_last r207_193 ar_12 ⟨by omega, by omega⟩ (wk_nw (ga_12 _) rfl hP1435 hF1436 (ua_12 ⟨by omega, by omega⟩) ?_))
                      intro M1488 hP1489 hF1490 e1491
                      refine wk_goto r207_194 (wk_inc4 r207_249 rfl (wk_goto r207_252 ?_))
                      exact wp_fg (le_s (le_s (le_s (le_s (le_s (le_n (le_n (le_n (le_n (le_s le_0)))))))))) (ih1600 (256 - (v1431 + 1)).toNat (by omega) M1488 (v1428 + (-1)) (v1431 + 1) rfl hP1489 hF1490 (by first | with_reducible assumption | omega) (by first | with_reducible assumption | omega) (by first | with_reducible assumption | omega) (by first | with_reducible assumption | omega) (by first | with_reducible assumption | omega))
              · intro h1492
                exfalso
                omega
        · intro h1493
          refine wk_il6 r207_51 (wk_c1 r207_53 ?_)
          refine wk_icne r207_54 ⟨by omega, by omega⟩ (by decide) ?_ ?_
          · intro h1494
            refine wk_c1 r207_61 (wk_is7 r207_62 rfl (wk_il6 r207_64 ?_))
            refine wk_ifeq r207_66 ⟨by omega, by omega⟩ ?_ ?_
            · intro h1495
              refine wk_al0 r207_82 (wk_getfr r207_83 fd_10_4 (br_10_4 hP1435) (wk_il3 r207_86 (wk_il6 r207_87 ?_)))
              refine wk_ifne r207_89 ⟨by omega, by omega⟩ ?_ ?_
              · intro h1496
                exfalso
                omega
              · intro h1497
                refine wk_al0 r207_92 (wk_getfr r207_93 fd_10_0 (br_10_0 hP1435) (wk_il5 r207_96 (wk_raldb r207_98 ar_16 ⟨by omega, by omega⟩ (fun q0 q1 => ba_16 hP1435 q0 q1) (wk_il2 r207_99 (wk_laldb r207_100 (arF_17 (by omega) (by omega)) ⟨by omega, by omega⟩ (fun q0 q1 => baF_17 hP1435 (by omega) (by omega) q0 q1) (by decide) ?_)))))
                intro n1498 h1500 h1501 e1499
                refine wk_goto r207_101 (wk_last r207_127 ar_12 ⟨by omega, by omega⟩ (wk_nw (ga_12 _) rfl hP1435 hF1436 (ua_12 ⟨by omega, by omega⟩) ?_))
                intro M1502 hP1503 hF1504 e1505
                refine wk_inc3 r207_128 rfl (wk_goto r207_131 (wk_inc4 r207_249 rfl (wk_goto r207_252 ?_)))
                exact wp_fg (le_s (le_s (le_s (le_s (le_s (le_n (le_n (le_n (le_s (le_s le_0)))))))))) (ih1600 (256 - (v1431 + 1)).toNat (by omega) M1502 (v1428 + 1) (v1431 + 1) rfl hP1503 hF1504 (by first | with_reducible assumption | omega) (by first | with_reducible assumption | omega) (by first | with_reducible assumption | omega) (by first | with_reducible assumption | omega) (by first | with_reducible assumption | omega))
            · intro h1506
              refine wk_il6 r207_69 (wk_c1 r207_71 ?_)
              refine wk_iceq r207_72 ⟨by omega, by omega⟩ (by decide) ?_ ?_
              · intro h1507
                refine wk_al0 r207_82 (wk_getfr r207_83 fd_10_4 (br_10_4 hP1435) (wk_il3 r207_86 (wk_il6 r207_87 ?_)))
                refine wk_ifne r207_89 ⟨by omega, by omega⟩ ?_ ?_
                · intro h1508
                  refine wk_il6 r207_104 (wk_c1 r207_106 ?_)
                  refine wk_icne r207_107 ⟨by omega, by omega⟩ (by decide) ?_ ?_
                  · intro h1509
                    exfalso
                    omega
                  · intro h1510
                    refine wk_al0 r207_110 (wk_il5 r207_111 (wk_il2 r207_113 (wk_cv3 r207_114 kc_10_185 rfl (m7185_10v8 _ M1434 (v1454 / 8) p2 hP1435 (by first | with_reducible assumption | omega) (by first | with_reducible assumption | omega) (by first | with_reducible assumption | omega) (by first | with_reducible assumption | omega) (by first | assumption | omega | (unfold stepok; omega))) (cqL ?_))))
                    rintro n1515 M1511 ⟨hP1512, hQ1513, h1516⟩
                    obtain rfl := Fr.same hQ1513
                    refine wk_goto r207_117 (wk_last r207_127 ar_12 ⟨by omega, by omega⟩ (wk_nw (ga_12 _) rfl hP1435 hF1436 (ua_12 ⟨by omega, by omega⟩) ?_))
                    intro M1517 hP1518 hF1519 e1520
                    refine wk_inc3 r207_128 rfl (wk_goto r207_131 (wk_inc4 r207_249 rfl (wk_goto r207_252 ?_)))
                    exact wp_fg (le_s (le_s (le_s (le_s (le_s (le_n (le_n (le_n (le_s (le_s le_0)))))))))) (ih1600 (256 - (v1431 + 1)).toNat (by omega) M1517 (v1428 + 1) (v1431 + 1) rfl hP1518 hF1519 (by first | with_reducible assumption | omega) (by first | with_reducible assumption | omega) (by first | with_reducible assumption | omega) (by first | with_reducible assumption | omega) (by first | with_reducible assumption | omega))
                · intro h1521
                  exfalso
                  omega
              · intro h1522
                refine wk_il6 r207_75 (wk_c2 r207_77 ?_)
                refine wk_icne r207_79 ⟨by omega, by omega⟩ (by decide) ?_ ?_
                · intro h1523
                  refine wk_il7 r207_134 ?_
                  refine wk_ifeq r207_136 (by decide) ?_ ?_
                  · intro h1524
                    refine wk_il7 r207_197 ?_
                    refine wk_ifne r207_199 (by decide) ?_ ?_
                    · intro h1525
                      exfalso
                      omega
                    · intro h1526
                      refine wk_il3 r207_202 ?_
                      refine wk_ifle r207_203 ⟨by omega, by omega⟩ ?_ ?_
                      · intro h1527
                        refine wk_inc4 r207_249 rfl (wk_goto r207_252 ?_)
                        exact wp_fg (le_s (le_s (le_s (le_s (le_s (le_n (le_n (le_n (le_s (le_s le_0)))))))))) (ih1600 (256 - (v1431 + 1)).toNat (by omega) M1434 v1428 (v1431 + 1) rfl hP1435 hF1436 (by first | with_reducible assumption | omega) (by first | with_reducible assumption | omega) (by first | with_reducible assumption | omega) (by first | with_reducible assumption | omega) (by first | with_reducible assumption | omega))
                      · intro h1528
                        refine wk_al0 r207_206 (wk_getfr r207_207 fd_10_4 (br_10_4 hP1435) (wk_il3 r207_210 (wk_c1 r207_211 (wk_isub r207_212 (wk_laldb r207_213 ar_12 ⟨by omega, by omega⟩ (fun q0 q1 => ba_12 hP1435 q0 q1) (by decide) ?_)))))
                        intro n1529 h1531 h1532 e1530
                        refine wk_ls8 r207_214 rfl (wk_al0 r207_216 (wk_getfr r207_217 fd_10_4 (br_10_4 hP1435) (wk_il3 r207_220 (wk_c1 r207_221 (wk_isub r207_222 (wk_il6 r207_223 (wk_c1 r207_225 ?_)))))))
                        refine wk_icne r207_226 ⟨by omega, by omega⟩ (by decide) ?_ ?_
                        · intro h1533
                          have h1534 : (v1454 / 8) ≤ 6 := by omega
                          refine wk_al0 r207_238 (wk_il5 r207_239 (wk_c1 r207_241 (wk_ll8 r207_242 (wk_il2 r207_244 (wk_cv5 r207_245 kc_10_189 rfl (m7189_10v8 _ M1434 (v1454 / 8) (-1) n1529 p2 hP1435 (by first | with_reducible assumption | omega) (by first | with_reducible assumption | omega) (by decide) (by decide) (by omega) (by first | with_reducible assumption | omega) (by first | with_reducible assumption | omega)) (cqL ?_))))))
                          rintro n1539 M1535 ⟨hP1536, hQ1537, h1540⟩
                          obtain rfl := Fr.same hQ1537
                          refine wk_last r207_248 ar_12 ⟨by omega, by omega⟩ (wk_nw (ga_12 _) rfl hP1435 hF1436 (ua_12 ⟨by omega, by omega⟩) ?_)
                          intro M1541 hP1542 hF1543 e1544
                          refine wk_inc4 r207_249 rfl (wk_goto r207_252 ?_)
                          exact wp_fg (le_s (le_s (le_s (le_s (le_s (le_n (le_n (le_n (le_n (le_s le_0)))))))))) (ih1600 (256 - (v1431 + 1)).toNat (by omega) M1541 v1428 (v1431 + 1) rfl hP1542 hF1543 (by first | with_reducible assumption | omega) (by first | with_reducible assumption | omega) (by first | with_reducible assumption | omega) (by first | with_reducible assumption | omega) (by first | with_reducible assumption | omega))
                        · intro h1545
                          refine wk_ll8 r207_229 (wk_c7 r207_231 (wk_lxor r207_234 ?_))
                          intro n1546 h1547 h1548
                          refine wk_goto r207_235 (wk_last r207_248 ar_12 ⟨by omega, by omega⟩ (wk_nw (ga_12 _) rfl hP1435 hF1436 (ua_12 ⟨by omega, by omega⟩) ?_))
                          intro M1549 hP1550 hF1551 e1552
                          refine wk_inc4 r207_249 rfl (wk_goto r207_252 ?_)
                          exact wp_fg (le_s (le_s (le_s (le_s (le_s (le_n (le_n (le_n (le_n (le_s le_0)))))))))) (ih1600 (256 - (v1431 + 1)).toNat (by omega) M1549 v1428 (v1431 + 1) rfl hP1550 hF1551 (by first | with_reducible assumption | omega) (by first | with_reducible assumption | omega) (by first | with_reducible assumption | omega) (by first | with_reducible assumption | omega) (by first | with_reducible assumption | omega))
                  · intro h1553
                    exfalso
                    omega
                · intro h1554
                  refine wk_al0 r207_82 (wk_getfr r207_83 fd_10_4 (br_10_4 hP1435) (wk_il3 r207_86 (wk_il6 r207_87 ?_)))
                  refine wk_ifne r207_89 ⟨by omega, by omega⟩ ?_ ?_
                  · intro h1555
                    refine wk_il6 r207_104 (wk_c1 r207_106 ?_)
                    refine wk_icne r207_107 ⟨by omega, by omega⟩ (by decide) ?_ ?_
                    · intro h1556
                      refine wk_al0 r207_120 (wk_il5 r207_121 (wk_il2 r207_123 (wk_cv3 r207_124 kc_10_198 rfl (m7198_10v8 _ M1434 (v1454 / 8) p2 hP1435 (by first | with_reducible assumption | omega) (by first | with_reducible assumption | omega) (by first | with_reducible assumption | omega) (by first | with_reducible assumption | omega)) (cqL ?_))))
                      rintro n1561 M1557 ⟨hP1558, hQ1559, h1562⟩
                      obtain rfl := Fr.same hQ1559
                      refine wk_last r207_127 ar_12 ⟨by omega, by omega⟩ (wk_nw (ga_12 _) rfl hP1435 hF1436 (ua_12 ⟨by omega, by omega⟩) ?_)
                      intro M1563 hP1564 hF1565 e1566
                      refine wk_inc3 r207_128 rfl (wk_goto r207_131 (wk_inc4 r207_249 rfl (wk_goto r207_252 ?_)))
                      exact wp_fg (le_s (le_s (le_s (le_s (le_s (le_n (le_n (le_n (le_s (le_s le_0)))))))))) (ih1600 (256 - (v1431 + 1)).toNat (by omega) M1563 (v1428 + 1) (v1431 + 1) rfl hP1564 hF1565 (by first | with_reducible assumption | omega) (by first | with_reducible assumption | omega) (by first | with_reducible assumption | omega) (by first | with_reducible assumption | omega) (by first | with_reducible assumption | omega))
                    · intro h1567
                      exfalso
                      omega
                  · intro h1568
                    exfalso
                    omega
          · intro h1569
            refine wk_c1 r207_57 (wk_goto r207_58 (wk_is7 r207_62 rfl (wk_il6 r207_64 ?_)))
            refine wk_ifeq r207_66 ⟨by omega, by omega⟩ ?_ ?_
            · intro h1570
              exfalso
              omega
            · intro h1571
              refine wk_il6 r207_69 (wk_c1 r207_71 ?_)
              refine wk_iceq r207_72 ⟨by omega, by omega⟩ (by decide) ?_ ?_
              · intro h1572
                exfalso
                omega
              · intro h1573
                refine wk_il6 r207_75 (wk_c2 r207_77 ?_)
                refine wk_icne r207_79 ⟨by omega, by omega⟩ (by decide) ?_ ?_
                · intro h1574
                  refine wk_il7 r207_134 ?_
                  refine wk_ifeq r207_136 (by decide) ?_ ?_
                  · intro h1575
                    exfalso
                    omega
                  · intro h1576
                    refine wk_il3 r207_139 (wk_c1 r207_140 ?_)
                    refine wk_icle r207_141 ⟨by omega, by omega⟩ (by decide) ?_ ?_
                    · intro h1577
                      refine wk_il7 r207_197 ?_
                      refine wk_ifne r207_199 (by decide) ?_ ?_
                      · intro h1578
                        refine wk_inc4 r207_249 rfl (wk_goto r207_252 ?_)
                        exact wp_fg (le_s (le_s (le_s (le_s (le_s (le_n (le_n (le_n (le_s (le_s le_0)))))))))) (ih1600 (256 - (v1431 + 1)).toNat (by omega) M1434 v1428 (v1431 + 1) rfl hP1435 hF1436 (by first | with_reducible assumption | omega) (by first | with_reducible assumption | omega) (by first | with_reducible assumption | omega) (by first | with_reducible assumption | omega) (by first | with_reducible assumption | omega))
                      · intro h1579
                        exfalso
                        omega
                    · intro h1580
                      refine wk_inc3 r207_144 rfl (wk_al0 r207_147 (wk_getfr r207_148 fd_10_4 (br_10_4 hP1435) (wk_il3 r207_151 (wk_laldb r207_152 ar_12 ⟨by omega, by omega⟩ (fun q0 q1 => ba_12 hP1435 q0 q1) (by decide) ?_))))
                      intro n1581 h1583 h1584 e1582
                      refine wk_ls8 r207_153 rfl (wk_al0 r207_155 (wk_getfr r207_156 fd_10_4 (br_10_4 hP1435) (wk_il3 r207_159 (wk_c1 r207_160 (wk_isub r207_161 (wk_il6 r207_162 (wk_c1 r207_164 ?_)))))))
                      refine wk_icne r207_165 ⟨by omega, by omega⟩ (by decide) ?_ ?_
                      · intro h1585
                        refine wk_al0 r207_182 (wk_getfr r207_183 fd_10_4 (br_10_4 hP1435) (wk_il3 r207_186 (wk_c1 r207_187 (wk_isub r207_188 (wk_laldb r207_189 ar_12 ⟨by omega, by omega⟩ (fun q0 q1 => ba_12 hP1435 q0 q1) (by decide) ?_)))))
                        intro n1586 h1588 h1589 e1587
                        refine wk_ll8 r207_190 (wk_lorb r207_192 ?_)
                        intro n1590 h1591 h1592 h1593
                        refine wk_last r207_193 ar_12 ⟨by omega, by omega⟩ (wk_nw (ga_12 _) rfl hP1435 hF1436 (ua_12 ⟨by omega, by omega⟩) ?_)
                        intro M1594 hP1595 hF1596 e1597
                        refine wk_goto r207_194 (wk_inc4 r207_249 rfl (wk_goto r207_252 ?_))
                        exact wp_fg (le_s (le_s (le_s (le_s (le_s (le_n (le_n (le_n (le_n (le_s le_0)))))))))) (ih1600 (256 - (v1431 + 1)).toNat (by omega) M1594 (v1428 + (-1)) (v1431 + 1) rfl hP1595 hF1596 (by first | with_reducible assumption | omega) (by first | with_reducible assumption | omega) (by first | with_reducible assumption | omega) (by first | with_reducible assumption | omega) (by first | with_reducible assumption | omega))
                      · intro h1598
                        exfalso
                        omega
                · intro h1599
                  exfalso
                  omega
  exact wp_fg (le_s (le_s (le_s (le_s (le_s (le_s (le_s (le_s (le_s (le_s le_0)))))))))) (c5_1600 _ M0 0 0 rfl hP0 hF0 (by first | with_reducible assumption | omega) (by first | with_reducible assumption | omega) (by first | with_reducible assumption | omega) (by first | with_reducible assumption | omega) (by first | with_reducible assumption | omega))
def fm_m7196_10_f155 : Nat := 77371270902080340890746880
/-- IslandHall$Realm.judge -/
theorem m7196_10_f155 {B : eB} (d : Nat) (M0 : Mm) (c1 : Int) (a2 : Int) (hP0 : Pw M0) (hC1 : isC c1) (ha2 : 155 ≤ a2) (hb2 : a2 ≤ 167) : Ct B (d + 4) 196 [R 10, R c1, R a2] M0 (qV fun M => Pw M ∧ Fr fm_m7196_10_f155 M0 M) := by
  refine ct_of (d := d + 3) (k := 1) (L := [some (R 10), some (R c1), some (R a2), none]) rfl rfl rfl ?_
  have hF0 := Fr.rf fm_m7196_10_f155 M0
  generalize hQ : (qV fun M => Pw M ∧ Fr fm_m7196_10_f155 M0 M) = Q
  refine wk_c1 r196_0 (wk_is3 r196_1 rfl ?_)
  have c2_221 : ∀ (k221 : Nat) (M202 : Mm) (v199 : Int), (47 - v199).toNat = k221 → Pw M202 → Fr fm_m7196_10_f155 M0 M202 → 0 ≤ v199 → v199 ≤ 47 → Wp B (d + 3) 196 2 [some (R 10), some (R c1), some (R a2), some (I v199)] [] M202 Q := by
    refine lp_ind ?_
    intro k221 ih221 M202 v199 hk221 hP203 hF204 h200 h201
    refine wk_il3 r196_2 (wk_al0 r196_3 (wk_getfb r196_4 fd_10_10 (bf_10_10 hP203) ?_))
    intro v205 h207 h208 e206
    refine wk_icge r196_7 ⟨by omega, by omega⟩ ⟨by omega, by omega⟩ ?_ ?_
    · intro h209
      subst hQ; exact wk_ret r196_25 (⟨rfl, hP203, hF204⟩)
    · intro h210
      refine wk_al2 r196_10 (wk_il3 r196_11 (wk_al0 r196_12 (wk_al1 r196_13 (wk_il3 r196_14 (wk_cv3 r196_15 kc_10_207 rfl (m7207_10v8 _ M202 c1 v199 hP203 hC1 (by first | with_reducible assumption | omega) (by first | with_reducible assumption | omega)) (cqL ?_))))))
      rintro n215 M211 ⟨hP212, hQ213, h216⟩
      have hF214 : Fr fm_m7196_10_f155 M0 M211 := hF204.tr hQ213 rfl
      refine wk_last r196_18 (arF_155 (by omega) (by omega)) ⟨by omega, by omega⟩ (wk_nw (gr_155 (by omega) (by omega) _) rfl hP212 hF214 (uaF_155 (by omega) (by omega) ⟨by omega, by omega⟩) ?_)
      intro M217 hP218 hF219 e220
      refine wk_inc3 r196_19 rfl (wk_goto r196_22 ?_)
      exact wp_fg (le_s (le_s (le_s (le_s le_0)))) (ih221 (47 - (v199 + 1)).toNat (by omega) M217 (v199 + 1) rfl hP218 hF219 (by first | with_reducible assumption | omega) (by first | with_reducible assumption | omega))
  exact wp_fg (le_s (le_s (le_s (le_s le_0)))) (c2_221 _ M0 0 rfl hP0 hF0 (by first | with_reducible assumption | omega) (by first | with_reducible assumption | omega))
def fm_m7226_138 : Nat := 78580196721694970065453056
/-- IslandHall$Tale.begin -/
theorem m7226_138 {B : eB} (d : Nat) (M0 : Mm) (c1 : Int) (hP0 : Pw M0) (hC1 : isC c1) : Ct B (d + 5) 226 [R 138, R c1] M0 (qV fun M => Pw M ∧ Fr fm_m7226_138 M0 M) := by
  refine ct_of (d := d + 4) (k := 0) (L := [some (R 138), some (R c1)]) rfl rfl rfl ?_
  have hF0 := Fr.rf fm_m7226_138 M0
  generalize hQ : (qV fun M => Pw M ∧ Fr fm_m7226_138 M0 M) = Q
  refine wk_al0 r226_0 (wk_c1 r226_1 (wk_putfi81 r226_2 fd_138_5 (wk_nw g_138_5 rfl hP0 hF0 (uf_138_5 (by decide)) ?_)))
  intro M1 hP2 hF3 e4
  refine wk_al0 r226_5 (wk_getfr r226_6 fd_138_0 (br_138_0 hP2) (wk_al1 r226_9 (wk_al0 r226_10 (wk_getfr r226_11 fd_138_3 (br_138_3 hP2) (wk_c1 r226_14 (wk_raldb r226_15 ar_154 (by decide) (fun q0 q1 => ba_154 hP2 q0 q1) (wk_cv3 r226_16 kc_10_196 rfl (m7196_10_f155 _ M1 c1 (155 + 0) hP2 hC1 (by omega) (by omega)) (cqV ?_))))))))
  rintro M5 ⟨hP6, hQ7⟩
  have hF8 : Fr fm_m7226_138 M0 M5 := hF3.tr hQ7 rfl
  subst hQ; exact wk_ret r226_19 (⟨rfl, hP6, hF8⟩)
def fm_m7217_170 : Nat := 9903520314283042199192993792
/-- IslandHall$Subsets.forget -/
theorem m7217_170 {B : eB} (d : Nat) (M0 : Mm) (hP0 : Pw M0)  : Ct B (d + 1) 217 [R 170] M0 (qV fun M => Pw M ∧ Fr fm_m7217_170 M0 M) := by
  refine ct_of (d := d + 0) (k := 0) (L := [some (R 170)]) rfl rfl rfl ?_
  have hF0 := Fr.rf fm_m7217_170 M0
  generalize hQ : (qV fun M => Pw M ∧ Fr fm_m7217_170 M0 M) = Q
  refine wk_al0 r217_0 (wk_c1 r217_1 (wk_putfz81 r217_2 fd_170_4 (by decide) (wk_nw g_170_4 rfl hP0 hF0 (uf_170_4 (by decide)) ?_)))
  intro M1 hP2 hF3 e4
  subst hQ; exact wk_ret r217_5 (⟨rfl, hP2, hF3⟩)
def fm_m7024_0 : Nat := 11419375338222587222394769573935541470745351236
/-- IslandHall.island -/
theorem m7024_0 {B : eB} (d : Nat) (M0 : Mm) (p1 : Int) (x0_1 : Int) (x0_9 : Int) (x0_5 : Int) (x2_1 : Int) (x0_11 : Int) (T : Int → Int) (hP0 : Pw M0) (l1 : (-2147483648) ≤ p1) (u1 : p1 ≤ 2147483647) (ex0_1 : M0 0 1 = x0_1) (lx0_1 : 0 ≤ x0_1) (ux0_1 : x0_1 ≤ 500) (ex0_9 : M0 0 9 = x0_9) (lx0_9 : 0 ≤ x0_9) (ux0_9 : x0_9 ≤ 30) (ex0_5 : M0 0 5 = x0_5) (lx0_5 : (-1) ≤ x0_5) (ux0_5 : x0_5 ≤ 500) (ex2_1 : M0 2 1 = x2_1) (lx2_1 : 0 ≤ x2_1) (ux2_1 : x2_1 ≤ 7) (ex0_11 : M0 0 11 = x0_11) (lx0_11 : 0 ≤ x0_11) (ux0_11 : x0_11 ≤ 10) (xp0 : ∀ k : Int, 0 ≤ k → k < x0_1 → (0 ≤ M0 1 k → T k = M0 1 k) ∧ (M0 1 k < 0 → -128 ≤ M0 1 k ∧ T k = M0 1 k + 256)) : Ct B (d + 43) 24 [R 0, I p1] M0 (qX 1 (fun M => Pw M ∧ Fr (fm_m7024_0 ||| 1) M0 M ∧ M (-1) 0 = M0 (-1) 0 + 1 ∧ (M 0 1 = x0_1 ∧ (p1 < 0 ∨ x0_1 < p1) ∧ M 0 9 = M0 0 9 ∧ M 0 5 = M0 0 5 ∧ M 2 1 = M0 2 1 ∧ M 0 11 = M0 0 11)) (qI fun z M => Pw M ∧ Fr fm_m7024_0 M0 M ∧ 0 ≤ z ∧ z ≤ 6 ∧ 0 ≤ p1 ∧ 0 ≤ x0_1 + (-1) * p1 ∧ 0 ≤ (-1) * (M 0 1) ∧ (INR T p1 x0_1 x2_1 x0_9 x0_11 x0_5 0 z (M 2 1) (M 0 9) (M 0 11) (M 0 5)))) := by
  refine ct_of (d := d + 42) (k := 1) (L := [some (R 0), some (I p1), none]) rfl rfl rfl ?_
  have hF0 := Fr.rf fm_m7024_0 M0
  generalize hQ : (qX 1 (fun M => Pw M ∧ Fr (fm_m7024_0 ||| 1) M0 M ∧ M (-1) 0 = M0 (-1) 0 + 1 ∧ (M 0 1 = x0_1 ∧ (p1 < 0 ∨ x0_1 < p1) ∧ M 0 9 = M0 0 9 ∧ M 0 5 = M0 0 5 ∧ M 2 1 = M0 2 1 ∧ M 0 11 = M0 0 11)) (qI fun z M => Pw M ∧ Fr fm_m7024_0 M0 M ∧ 0 ≤ z ∧ z ≤ 6 ∧ 0 ≤ p1 ∧ 0 ≤ x0_1 + (-1) * p1 ∧ 0 ≤ (-1) * (M 0 1) ∧ (INR T p1 x0_1 x2_1 x0_9 x0_11 x0_5 0 z (M 2 1) (M 0 9) (M 0 11) (M 0 5)))) = Q
  refine wk_al0 r24_0 (wk_il1 r24_1 (wk_cv2 r24_2 kc_0_40 rfl (m7040_0 _ M0 p1 x0_1 hP0 (by first | with_reducible assumption | omega) (by first | with_reducible assumption | omega) ex0_1 (by first | with_reducible assumption | omega) (by first | with_reducible assumption | omega)) (cqX (fun _ _ x5 => by subst hQ; exact Or.inl ⟨rfl, x5.1, Fr.trx hF0 x5.2.1 rfl, (by rw [x5.2.2.1, hF0.at g_below rfl]), x5.2.2.2⟩) (cqV ?_))))
  rintro M1 ⟨hP2, hQ3, h8, h9, h10⟩
  have hF4 : Fr fm_m7024_0 M0 M1 := hF0.tr hQ3 rfl
  obtain ⟨v11, e12⟩ : ∃ v, M1 0 1 = v := ⟨_, rfl⟩
  have h13 := (bf_0_1 hP2).1; rw [e12] at h13
  have h14 := (bf_0_1 hP2).2; rw [e12] at h14
  refine wk_al0 r24_5 (wk_getfr r24_6 fd_0_4 (br_0_4 hP2) (wk_il1 r24_9 (wk_al0 r24_10 (wk_getfr r24_11 fd_0_3 (br_0_3 hP2) (wk_cv3 r24_14 kc_6_169 rfl (m7169_6 _ M1 p1 4 T hP2 (by first | with_reducible assumption | omega) (by first | with_reducible assumption | omega) (Or.inl rfl) (fun k a b => by rw [hF4.at (ga_1 k) rfl]; exact xp0 k a (by omega))) (cqI ?_))))))
  rintro v23 M15 ⟨hP16, hQ17, h24, h25, xh19, xh20, xh21, xh22⟩
  have hF18 : Fr fm_m7024_0 M0 M15 := hF4.tr hQ17 rfl
  obtain ⟨v26, e27⟩ : ∃ v, M15 6 3 = v := ⟨_, rfl⟩
  have h28 := (bf_6_3 hP16).1; rw [e27] at h28
  have h29 := (bf_6_3 hP16).2; rw [e27] at h29
  obtain ⟨v30, e31⟩ : ∃ v, M15 7 1 = v := ⟨_, rfl⟩
  have h32 := (bf_7_1 hP16).1; rw [e31] at h32
  have h33 := (bf_7_1 hP16).2; rw [e31] at h33
  have hio9 := xh21; rw [e27] at hio9
  have hpe9 := xh22; rw [e31, e27] at hpe9
  refine wk_is2 r24_17 rfl (wk_al0 r24_18 (wk_al0 r24_19 (wk_getfr r24_20 fd_0_4 (br_0_4 hP16) (wk_getfb r24_23 fd_6_5 (bf_6_5 hP16) ?_))))
  intro v34 h36 h37 e35
  have hpl9 : M15 6 5 = v34 := e35
  rw [hpl9] at hio9
  refine wk_putfi81 r24_26 fd_0_5 (wk_nw g_0_5 rfl hP16 hF18 (uf_0_5 ⟨by omega, by omega⟩) ?_)
  intro M38 hP39 hF40 e41
  refine wk_il2 r24_29 ?_
  refine wk_ifeq r24_30 ⟨by omega, by omega⟩ ?_ ?_
  · intro h42
    refine wk_al0 r24_35 (wk_getfr r24_36 fd_0_2 (br_0_2 hP39) (wk_al0 r24_39 (wk_getfr r24_40 fd_0_4 (br_0_4 hP39) (wk_getfr r24_43 fd_6_1 (br_6_1 hP39) (wk_cv2 r24_46 kc_2_178 rfl (m7178_2_7 _ M38 hP39 (fun k a b => by rw [e41, mUp_ne (Or.inl (by decide))]; exact xh20 k a b)) (cqV ?_))))))
    rintro M43 ⟨hP44, hQ45, h47, h48, xh49⟩
    have hF46 : Fr fm_m7024_0 M0 M43 := hF40.tr hQ45 rfl
    obtain ⟨v50, e51⟩ : ∃ v, M43 2 1 = v := ⟨_, rfl⟩
    have h52 := (bf_2_1 hP44).1; rw [e51] at h52
    have h53 := (bf_2_1 hP44).2; rw [e51] at h53
    have e54 := ((hQ45.at g_7_1 rfl).trans (mUp_no e41 e31 (Or.inl (by decide))))
    refine wk_al0 r24_49 (wk_getfr r24_50 fd_0_6 (br_0_6 hP44) (wk_al0 r24_53 (wk_getfr r24_54 fd_0_2 (br_0_2 hP44) (wk_cv2 r24_57 kc_10_205 rfl (m7205_10_2 _ M43 hP44 (by rw [xh49, SZk_eq (fun i _ _ => by rw [e41, mUp_ne (Or.inl (by decide))]) (fun k _ _ => by rw [e41, mUp_ne (Or.inl (by decide))]) (bf_7_1 hP16).2]; exact xh19 (by omega))) (cqV ?_)))))
    rintro M55 ⟨hP56, hQ57⟩
    have hF58 : Fr fm_m7024_0 M0 M55 := hF46.tr hQ57 rfl
    refine wk_al0 r24_60 (wk_getfr r24_61 fd_0_7 (br_0_7 hP56) (wk_al0 r24_64 (wk_getfr r24_65 fd_0_3 (br_0_3 hP56) (wk_cv2 r24_68 kc_138_226 rfl (m7226_138 _ M55 4 hP56 (Or.inl rfl)) (cqV ?_)))))
    rintro M59 ⟨hP60, hQ61⟩
    have hF62 : Fr fm_m7024_0 M0 M59 := hF58.tr hQ61 rfl
    refine wk_al0 r24_71 (wk_getfr r24_72 fd_0_12 (br_0_12 hP60) (wk_cv1 r24_75 kc_170_217 rfl (m7217_170 _ M59 hP60) (cqV ?_)))
    rintro M63 ⟨hP64, hQ65⟩
    have hF66 : Fr fm_m7024_0 M0 M63 := hF62.tr hQ65 rfl
    refine wk_al0 r24_78 (wk_c1 r24_79 (wk_putfi81 r24_80 fd_0_9 (wk_nw g_0_9 rfl hP64 hF66 (uf_0_9 (by decide)) ?_)))
    intro M67 hP68 hF69 e70
    refine wk_al0 r24_83 (wk_c1 r24_84 (wk_putfi81 r24_85 fd_0_11 (wk_nw g_0_11 rfl hP68 hF69 (uf_0_11 (by decide)) ?_)))
    intro M71 hP72 hF73 e74
    refine wk_al0 r24_88 (wk_c1 r24_89 (wk_putfi81 r24_90 fd_0_13 (wk_nw g_0_13 rfl hP72 hF73 (uf_0_13 (by decide)) ?_)))
    intro M75 hP76 hF77 e78
    refine wk_al0 r24_93 (wk_getfr r24_94 fd_0_16 (br_0_16 hP76) (wk_c1 r24_97 (wk_putfi81 r24_98 fd_607_6 (wk_nw g_607_6 rfl hP76 hF77 (uf_607_6 (by decide)) ?_))))
    intro M79 hP80 hF81 e82
    refine wk_al0 r24_101 (wk_getfr r24_102 fd_0_17 (br_0_17 hP80) (wk_c1 r24_105 (wk_putfi81 r24_106 fd_613_9 (wk_nw g_613_9 rfl hP80 hF81 (uf_613_9 (by decide)) ?_))))
    intro M83 hP84 hF85 e86
    refine wk_c1 r24_109 ?_
    subst hQ; exact wk_iret r24_110 (Or.inr ⟨rfl, _, rfl, hP84, hF85, by omega, by omega, by omega, by omega, by have := (mUp_no e86 (mUp_no e82 (mUp_no e78 (mUp_no e74 (mUp_no e70 ((hQ65.at g_0_1 rfl).trans ((hQ61.at g_0_1 rfl).trans ((hQ57.at g_0_1 rfl).trans ((hQ45.at g_0_1 rfl).trans (mUp_no e41 ((hQ17.at g_0_1 rfl).trans e12) (Or.inr (by decide))))))) (Or.inr (by decide))) (Or.inr (by decide))) (Or.inr (by decide))) (Or.inl (by decide))) (Or.inl (by decide))); omega, by rw [(mUp_no e86 (mUp_no e82 (mUp_no e78 (mUp_no e74 (mUp_no e70 ((hQ65.at g_2_1 rfl).trans ((hQ61.at g_2_1 rfl).trans ((hQ57.at g_2_1 rfl).trans e51))) (Or.inl (by decide))) (Or.inl (by decide))) (Or.inl (by decide))) (Or.inl (by decide))) (Or.inl (by decide))), (mUp_no e86 (mUp_no e82 (mUp_no e78 (mUp_no e74 (mUp_at e70) (Or.inr (by decide))) (Or.inr (by decide))) (Or.inl (by decide))) (Or.inl (by decide))), (mUp_no e86 (mUp_no e82 (mUp_no e78 (mUp_at e74) (Or.inr (by decide))) (Or.inl (by decide))) (Or.inl (by decide))), (mUp_no e86 (mUp_no e82 (mUp_no e78 (mUp_no e74 (mUp_no e70 ((hQ65.at g_0_5 rfl).trans ((hQ61.at g_0_5 rfl).trans ((hQ57.at g_0_5 rfl).trans ((hQ45.at g_0_5 rfl).trans (mUp_at e41))))) (Or.inr (by decide))) (Or.inr (by decide))) (Or.inr (by decide))) (Or.inl (by decide))) (Or.inl (by decide)))]; exact INR_r (by rw [show (0 : Int) = v23 by omega]; exact hio9) (by omega) (by omega) rfl (Or.inl ⟨rfl, by have := hpe9 (by omega); omega, by omega, by omega⟩)⟩)
  · intro h87
    refine wk_il2 r24_33 ?_
    subst hQ; exact wk_iret r24_34 (Or.inr ⟨rfl, _, rfl, hP39, hF40, by omega, by omega, by omega, by omega, by have := (mUp_no e41 ((hQ17.at g_0_1 rfl).trans e12) (Or.inr (by decide))); omega, by rw [(mUp_no e41 ((hQ17.at g_2_1 rfl).trans ((hQ3.at g_2_1 rfl).trans ex2_1)) (Or.inl (by decide))), (mUp_no e41 ((hQ17.at g_0_9 rfl).trans ((hQ3.at g_0_9 rfl).trans ex0_9)) (Or.inr (by decide))), (mUp_no e41 ((hQ17.at g_0_11 rfl).trans ((hQ3.at g_0_11 rfl).trans ex0_11)) (Or.inr (by decide))), (mUp_at e41)]; exact INR_r hio9 (by omega) (by omega) rfl (by omega)⟩)
def fm_m7033_0 : Nat := 524292
/-- IslandHall.putNumber -/
theorem m7033_0 {B : eB} (d : Nat) (M0 : Mm) (p1 : Int) (x0_1 : Int) (hP0 : Pw M0) (l1 : (-2147483648) ≤ p1) (u1 : p1 ≤ 2147483647) (ex0_1 : M0 0 1 = x0_1) (lx0_1 : 0 ≤ x0_1) (ux0_1 : x0_1 ≤ 496) : Ct B (d + 1) 33 [R 0, I p1] M0 (qV fun M => Pw M ∧ Fr fm_m7033_0 M0 M ∧ 0 ≤ M 0 1 + (-1) * x0_1 + (-4) ∧ 0 ≤ (-1) * (M 0 1) + x0_1 + 4 ∧ (PNc (fun k => M0 1 k) (fun k => M 1 k) x0_1 p1)) := by
  refine ct_of (d := d + 0) (k := 1) (L := [some (R 0), some (I p1), none]) rfl rfl rfl ?_
  have hF0 := Fr.rf fm_m7033_0 M0
  generalize hQ : (qV fun M => Pw M ∧ Fr fm_m7033_0 M0 M ∧ 0 ≤ M 0 1 + (-1) * x0_1 + (-4) ∧ 0 ≤ (-1) * (M 0 1) + x0_1 + 4 ∧ (PNc (fun k => M0 1 k) (fun k => M 1 k) x0_1 p1)) = Q
  refine wk_c2 r33_0 (wk_is2 r33_2 rfl (wk_il2 r33_3 ?_))
  refine wk_iflt r33_4 (by decide) ?_ ?_
  · intro h1
    exfalso
    omega
  · intro h2
    refine wk_al0 r33_7 (wk_getfi r33_8 fd_0_1 ex0_1 (wk_al0 r33_11 (wk_getfr r33_12 fd_0_0 (br_0_0 hP0) (wk_alen r33_15 ar_1 (by decide) ?_))))
    refine wk_icge r33_16 ⟨by omega, by omega⟩ (by decide) ?_ ?_
    · intro h3
      exfalso
      omega
    · intro h4
      refine wk_al0 r33_19 (wk_getfr r33_20 fd_0_0 (br_0_0 hP0) (wk_al0 r33_23 (wk_getfi r33_24 fd_0_1 ex0_1 (wk_il1 r33_27 (wk_il2 r33_28 (wk_ishrc r33_29 ⟨by omega, by omega⟩ (by decide) pwl_24 (wk_i2b r33_30 (wk_bast r33_31 ar_1 ⟨by omega, by omega⟩ ⟨by omega, by omega⟩ (wk_nw (ga_1 _) rfl hP0 hF0 (ua_1 ⟨by omega, by omega⟩) ?_)))))))))
      intro M7 hP8 hF9 e10
      refine wk_al0 r33_32 (wk_dupr r33_33 (wk_getfi r33_34 fd_0_1 (mUp_no e10 ex0_1 (Or.inl (by decide))) (wk_c1 r33_37 (wk_iadd r33_38 (wk_putfi81 r33_39 fd_0_1 (wk_nw g_0_1 rfl hP8 hF9 (uf_0_1 ⟨by omega, by omega⟩) ?_))))))
      intro M11 hP12 hF13 e14
      refine wk_inc2 r33_42 rfl (wk_goto r33_45 (wk_il2 r33_3 ?_))
      refine wk_iflt r33_4 (by decide) ?_ ?_
      · intro h15
        exfalso
        omega
      · intro h16
        refine wk_al0 r33_7 (wk_getfi r33_8 fd_0_1 (mUp_at e14) (wk_al0 r33_11 (wk_getfr r33_12 fd_0_0 (br_0_0 hP12) (wk_alen r33_15 ar_1 (by decide) ?_))))
        refine wk_icge r33_16 ⟨by omega, by omega⟩ (by decide) ?_ ?_
        · intro h17
          exfalso
          omega
        · intro h18
          refine wk_al0 r33_19 (wk_getfr r33_20 fd_0_0 (br_0_0 hP12) (wk_al0 r33_23 (wk_getfi r33_24 fd_0_1 (mUp_at e14) (wk_il1 r33_27 (wk_il2 r33_28 (wk_ishrc r33_29 ⟨by omega, by omega⟩ (by decide) pwl_16 (wk_i2b r33_30 (wk_bast r33_31 ar_1 ⟨by omega, by omega⟩ ⟨by omega, by omega⟩ (wk_nw (ga_1 _) rfl hP12 hF13 (ua_1 ⟨by omega, by omega⟩) ?_)))))))))
          intro M21 hP22 hF23 e24
          refine wk_al0 r33_32 (wk_dupr r33_33 (wk_getfi r33_34 fd_0_1 (mUp_no e24 (mUp_at e14) (Or.inl (by decide))) (wk_c1 r33_37 (wk_iadd r33_38 (wk_putfi81 r33_39 fd_0_1 (wk_nw g_0_1 rfl hP22 hF23 (uf_0_1 ⟨by omega, by omega⟩) ?_))))))
          intro M25 hP26 hF27 e28
          refine wk_inc2 r33_42 rfl (wk_goto r33_45 (wk_il2 r33_3 ?_))
          refine wk_iflt r33_4 (by decide) ?_ ?_
          · intro h29
            exfalso
            omega
          · intro h30
            refine wk_al0 r33_7 (wk_getfi r33_8 fd_0_1 (mUp_at e28) (wk_al0 r33_11 (wk_getfr r33_12 fd_0_0 (br_0_0 hP26) (wk_alen r33_15 ar_1 (by decide) ?_))))
            refine wk_icge r33_16 ⟨by omega, by omega⟩ (by decide) ?_ ?_
            · intro h31
              exfalso
              omega
            · intro h32
              refine wk_al0 r33_19 (wk_getfr r33_20 fd_0_0 (br_0_0 hP26) (wk_al0 r33_23 (wk_getfi r33_24 fd_0_1 (mUp_at e28) (wk_il1 r33_27 (wk_il2 r33_28 (wk_ishrc r33_29 ⟨by omega, by omega⟩ (by decide) pwl_8 (wk_i2b r33_30 (wk_bast r33_31 ar_1 ⟨by omega, by omega⟩ ⟨by omega, by omega⟩ (wk_nw (ga_1 _) rfl hP26 hF27 (ua_1 ⟨by omega, by omega⟩) ?_)))))))))
              intro M35 hP36 hF37 e38
              refine wk_al0 r33_32 (wk_dupr r33_33 (wk_getfi r33_34 fd_0_1 (mUp_no e38 (mUp_at e28) (Or.inl (by decide))) (wk_c1 r33_37 (wk_iadd r33_38 (wk_putfi81 r33_39 fd_0_1 (wk_nw g_0_1 rfl hP36 hF37 (uf_0_1 ⟨by omega, by omega⟩) ?_))))))
              intro M39 hP40 hF41 e42
              refine wk_inc2 r33_42 rfl (wk_goto r33_45 (wk_il2 r33_3 ?_))
              refine wk_iflt r33_4 (by decide) ?_ ?_
              · intro h43
                exfalso
                omega
              · intro h44
                refine wk_al0 r33_7 (wk_getfi r33_8 fd_0_1 (mUp_at e42) (wk_al0 r33_11 (wk_getfr r33_12 fd_0_0 (br_0_0 hP40) (wk_alen r33_15 ar_1 (by decide) ?_))))
                refine wk_icge r33_16 ⟨by omega, by omega⟩ (by decide) ?_ ?_
                · intro h45
                  exfalso
                  omega
                · intro h46
                  refine wk_al0 r33_19 (wk_getfr r33_20 fd_0_0 (br_0_0 hP40) (wk_al0 r33_23 (wk_getfi r33_24 fd_0_1 (mUp_at e42) (wk_il1 r33_27 (wk_il2 r33_28 (wk_ishrc r33_29 ⟨by omega, by omega⟩ (by decide) pwl_0 (wk_i2b r33_30 (wk_bast r33_31 ar_1 ⟨by omega, by omega⟩ ⟨by omega, by omega⟩ (wk_nw (ga_1 _) rfl hP40 hF41 (ua_1 ⟨by omega, by omega⟩) ?_)))))))))
                  intro M49 hP50 hF51 e52
                  refine wk_al0 r33_32 (wk_dupr r33_33 (wk_getfi r33_34 fd_0_1 (mUp_no e52 (mUp_at e42) (Or.inl (by decide))) (wk_c1 r33_37 (wk_iadd r33_38 (wk_putfi81 r33_39 fd_0_1 (wk_nw g_0_1 rfl hP50 hF51 (uf_0_1 ⟨by omega, by omega⟩) ?_))))))
                  intro M53 hP54 hF55 e56
                  refine wk_inc2 r33_42 rfl (wk_goto r33_45 (wk_il2 r33_3 ?_))
                  refine wk_iflt r33_4 (by decide) ?_ ?_
                  · intro h57
                    subst hQ; exact wk_ret r33_48 (⟨rfl, hP54, hF55, by have := (mUp_at e56); omega, by have := (mUp_at e56); omega, ⟨fun k a9 b9 => by show M53 1 k = M0 1 k; rw [e56, mUp_ne (Or.inl (by decide))]; rw [e52, mUp_ne (Or.inr (by omega))]; rw [e42, mUp_ne (Or.inl (by decide))]; rw [e38, mUp_ne (Or.inr (by omega))]; rw [e28, mUp_ne (Or.inl (by decide))]; rw [e24, mUp_ne (Or.inr (by omega))]; rw [e14, mUp_ne (Or.inl (by decide))]; rw [e10, mUp_ne (Or.inr (by omega))], by show M53 1 (x0_1) = _; rw [e56, mUp_ne (Or.inl (by decide))]; rw [e52, mUp_ne (Or.inr (by omega))]; rw [e42, mUp_ne (Or.inl (by decide))]; rw [e38, mUp_ne (Or.inr (by omega))]; rw [e28, mUp_ne (Or.inl (by decide))]; rw [e24, mUp_ne (Or.inr (by omega))]; rw [e14, mUp_ne (Or.inl (by decide))]; rw [e10]; rw [mUp_eq]; first | rfl | (unfold b8; omega) | omega, by show M53 1 (x0_1 + 1) = _; rw [e56, mUp_ne (Or.inl (by decide))]; rw [e52, mUp_ne (Or.inr (by omega))]; rw [e42, mUp_ne (Or.inl (by decide))]; rw [e38, mUp_ne (Or.inr (by omega))]; rw [e28, mUp_ne (Or.inl (by decide))]; rw [e24]; rw [show x0_1 + 1 = (x0_1 + 1) by omega, mUp_eq]; first | rfl | (unfold b8; omega) | omega, by show M53 1 (x0_1 + 2) = _; rw [e56, mUp_ne (Or.inl (by decide))]; rw [e52, mUp_ne (Or.inr (by omega))]; rw [e42, mUp_ne (Or.inl (by decide))]; rw [e38]; rw [show x0_1 + 2 = ((x0_1 + 1) + 1) by omega, mUp_eq]; first | rfl | (unfold b8; omega) | omega, by show M53 1 (x0_1 + 3) = _; rw [e56, mUp_ne (Or.inl (by decide))]; rw [e52]; rw [show x0_1 + 3 = (((x0_1 + 1) + 1) + 1) by omega, mUp_eq]; first | rfl | (unfold b8; omega) | omega⟩⟩)
                  · intro h58
                    exfalso
                    omega
def fm_m7018_0 : Nat := 524292
/-- IslandHall.feed -/
theorem m7018_0 {B : eB} (d : Nat) (M0 : Mm) (p1 : Int) (p2 : Int) (p3 : Int) (p4 : Int) (p5 : Int) (x0_1 : Int) (hP0 : Pw M0) (l1 : (-2147483648) ≤ p1) (u1 : p1 ≤ 2147483647) (l2 : (-2147483648) ≤ p2) (u2 : p2 ≤ 2147483647) (l3 : (-2147483648) ≤ p3) (u3 : p3 ≤ 2147483647) (l4 : (-2147483648) ≤ p4) (u4 : p4 ≤ 2147483647) (l5 : (-2147483648) ≤ p5) (u5 : p5 ≤ 2147483647) (ex0_1 : M0 0 1 = x0_1) (lx0_1 : 0 ≤ x0_1) (ux0_1 : x0_1 ≤ 500) : Ct B (d + 2) 18 [R 0, I p1, I p2, I p3, I p4, I p5] M0 (qI fun z M => Pw M ∧ Fr fm_m7018_0 M0 M ∧ (-1) ≤ z ∧ z ≤ 500 ∧ ((x0_1 ≤ 480 ∧ z = x0_1 + 20 ∧ M 0 1 = z) ∨ (481 ≤ x0_1 ∧ z = -1 ∧ M 0 1 = x0_1)) ∧ (x0_1 ≤ 480 → FDc (fun k => M0 1 k) (fun k => M 1 k) x0_1 p1 p2 p3 p4 p5) ∧ (481 ≤ x0_1 → ∀ k : Int, M 1 k = M0 1 k)) := by
  refine ct_of (d := d + 1) (k := 0) (L := [some (R 0), some (I p1), some (I p2), some (I p3), some (I p4), some (I p5)]) rfl rfl rfl ?_
  have hF0 := Fr.rf fm_m7018_0 M0
  generalize hQ : (qI fun z M => Pw M ∧ Fr fm_m7018_0 M0 M ∧ (-1) ≤ z ∧ z ≤ 500 ∧ ((x0_1 ≤ 480 ∧ z = x0_1 + 20 ∧ M 0 1 = z) ∨ (481 ≤ x0_1 ∧ z = -1 ∧ M 0 1 = x0_1)) ∧ (x0_1 ≤ 480 → FDc (fun k => M0 1 k) (fun k => M 1 k) x0_1 p1 p2 p3 p4 p5) ∧ (481 ≤ x0_1 → ∀ k : Int, M 1 k = M0 1 k)) = Q
  refine wk_al0 r18_0 (wk_getfi r18_1 fd_0_1 ex0_1 (wk_c2 r18_4 (wk_iadd r18_6 (wk_c3 r18_7 ?_))))
  refine wk_icle r18_10 ⟨by omega, by omega⟩ (by decide) ?_ ?_
  · intro h1
    refine wk_al0 r18_15 (wk_il1 r18_16 (wk_cv2 r18_17 kc_0_33 rfl (m7033_0 _ M0 p1 x0_1 hP0 (by first | with_reducible assumption | omega) (by first | with_reducible assumption | omega) ex0_1 (by first | with_reducible assumption | omega) (by first | with_reducible assumption | omega)) (cqV ?_)))
    rintro M2 ⟨hP3, hQ4, h6, h7, xh8⟩
    have hF5 : Fr fm_m7018_0 M0 M2 := hF0.tr hQ4 rfl
    obtain ⟨v9, e10⟩ : ∃ v, M2 0 1 = v := ⟨_, rfl⟩
    have h11 := (bf_0_1 hP3).1; rw [e10] at h11
    have h12 := (bf_0_1 hP3).2; rw [e10] at h12
    refine wk_al0 r18_20 (wk_il2 r18_21 (wk_cv2 r18_22 kc_0_33 rfl (m7033_0 _ M2 p2 v9 hP3 (by first | with_reducible assumption | omega) (by first | with_reducible assumption | omega) e10 (by first | with_reducible assumption | omega) (by first | with_reducible assumption | omega)) (cqV ?_)))
    rintro M13 ⟨hP14, hQ15, h17, h18, xh19⟩
    have hF16 : Fr fm_m7018_0 M0 M13 := hF5.tr hQ15 rfl
    obtain ⟨v20, e21⟩ : ∃ v, M13 0 1 = v := ⟨_, rfl⟩
    have h22 := (bf_0_1 hP14).1; rw [e21] at h22
    have h23 := (bf_0_1 hP14).2; rw [e21] at h23
    refine wk_al0 r18_25 (wk_il3 r18_26 (wk_cv2 r18_27 kc_0_33 rfl (m7033_0 _ M13 p3 v20 hP14 (by first | with_reducible assumption | omega) (by first | with_reducible assumption | omega) e21 (by first | with_reducible assumption | omega) (by first | with_reducible assumption | omega)) (cqV ?_)))
    rintro M24 ⟨hP25, hQ26, h28, h29, xh30⟩
    have hF27 : Fr fm_m7018_0 M0 M24 := hF16.tr hQ26 rfl
    obtain ⟨v31, e32⟩ : ∃ v, M24 0 1 = v := ⟨_, rfl⟩
    have h33 := (bf_0_1 hP25).1; rw [e32] at h33
    have h34 := (bf_0_1 hP25).2; rw [e32] at h34
    refine wk_al0 r18_30 (wk_il4 r18_31 (wk_cv2 r18_33 kc_0_33 rfl (m7033_0 _ M24 p4 v31 hP25 (by first | with_reducible assumption | omega) (by first | with_reducible assumption | omega) e32 (by first | with_reducible assumption | omega) (by first | with_reducible assumption | omega)) (cqV ?_)))
    rintro M35 ⟨hP36, hQ37, h39, h40, xh41⟩
    have hF38 : Fr fm_m7018_0 M0 M35 := hF27.tr hQ37 rfl
    obtain ⟨v42, e43⟩ : ∃ v, M35 0 1 = v := ⟨_, rfl⟩
    have h44 := (bf_0_1 hP36).1; rw [e43] at h44
    have h45 := (bf_0_1 hP36).2; rw [e43] at h45
    refine wk_al0 r18_36 (wk_il5 r18_37 (wk_cv2 r18_39 kc_0_33 rfl (m7033_0 _ M35 p5 v42 hP36 (by first | with_reducible assumption | omega) (by first | with_reducible assumption | omega) e43 (by first | with_reducible assumption | omega) (by first | with_reducible assumption | omega)) (cqV ?_)))
    rintro M46 ⟨hP47, hQ48, h50, h51, xh52⟩
    have hF49 : Fr fm_m7018_0 M0 M46 := hF38.tr hQ48 rfl
    obtain ⟨v53, e54⟩ : ∃ v, M46 0 1 = v := ⟨_, rfl⟩
    have h55 := (bf_0_1 hP47).1; rw [e54] at h55
    have h56 := (bf_0_1 hP47).2; rw [e54] at h56
    refine wk_al0 r18_42 (wk_getfi r18_43 fd_0_1 e54 ?_)
    subst hQ; exact wk_iret r18_46 (⟨rfl, _, rfl, hP47, hF49, by omega, by omega, by have := e54; omega, fun _ => ⟨_, _, _, _, PN_cc xh8 (by omega), PN_cc xh19 (by omega), PN_cc xh30 (by omega), PN_cc xh41 (by omega), PN_cc xh52 (by omega)⟩, fun q => by omega⟩)
  · intro h57
    refine wk_c1 r18_13 ?_
    subst hQ; exact wk_iret r18_14 (⟨rfl, _, rfl, hP0, hF0, by omega, by omega, by have := ex0_1; omega, fun q => by omega, fun _ k => rfl⟩)
