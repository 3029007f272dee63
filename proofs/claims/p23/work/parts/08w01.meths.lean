/-! ===== written by program (wip/layer2/all.py): contracts of methods ===== -/
def fm_m15_0 : Nat := 0
/-- IslandHall.count -/
theorem m15_0 {B : eB} (d : Nat) (M0 : Mm) (p1 : Int) (hP0 : Pw M0) (l1 : (-2147483648) ≤ p1) (u1 : p1 ≤ 2147483647) : Ct B (d + 1) 15 [R 0, I p1] M0 (qX 0 (fun M => Pw M ∧ Fr (fm_m15_0 ||| 1) M0 M ∧ M (-1) 0 = M0 (-1) 0 + 1) (qI fun z M => Pw M ∧ Fr fm_m15_0 M0 M ∧ (-1) ≤ z ∧ z ≤ 500)) := by
  refine ct_of (d := d + 0) (k := 0) (L := [some (R 0), some (I p1)]) rfl rfl rfl ?_
  have hF0 := Fr.rf fm_m15_0 M0
  generalize hQ : (qX 0 (fun M => Pw M ∧ Fr (fm_m15_0 ||| 1) M0 M ∧ M (-1) 0 = M0 (-1) 0 + 1) (qI fun z M => Pw M ∧ Fr fm_m15_0 M0 M ∧ (-1) ≤ z ∧ z ≤ 500)) = Q
  refine wk_il1 r15_0 ?_
  refine wk_sw2 r15_1 ⟨by omega, by omega⟩ ?_ ?_ ?_ ?_ ?_ ?_ ?_ ?_ ?_
  · intro h1
    subst hQ; exact wk_thr105 r15_109 rfl (Or.inl ⟨rfl, hP0.thr, (Fr.thr hF0), (by rw [mUp_eq, hF0.at g_below rfl])⟩)
  · intro h2
    refine wk_al0 r15_48 (wk_getfr r15_49 fd_0_2 (br_0_2 hP0) (wk_getfb r15_52 fd_2_1 (bf_2_1 hP0) ?_))
    intro v3 h5 h6 e4
    subst hQ; exact wk_iret r15_55 (Or.inr ⟨rfl, _, rfl, hP0, hF0, by omega, by omega⟩)
  · intro h7
    refine wk_al0 r15_56 (wk_getfr r15_57 fd_0_2 (br_0_2 hP0) (wk_getfb r15_60 fd_2_2 (bf_2_2 hP0) ?_))
    intro v8 h10 h11 e9
    subst hQ; exact wk_iret r15_63 (Or.inr ⟨rfl, _, rfl, hP0, hF0, by omega, by omega⟩)
  · intro h12
    refine wk_al0 r15_64 (wk_getfb r15_65 fd_0_9 (bf_0_9 hP0) ?_)
    intro v13 h15 h16 e14
    subst hQ; exact wk_iret r15_68 (Or.inr ⟨rfl, _, rfl, hP0, hF0, by omega, by omega⟩)
  · intro h17
    refine wk_al0 r15_69 (wk_getfr r15_70 fd_0_7 (br_0_7 hP0) (wk_getfb r15_73 fd_138_5 (bf_138_5 hP0) ?_))
    intro v18 h20 h21 e19
    subst hQ; exact wk_iret r15_76 (Or.inr ⟨rfl, _, rfl, hP0, hF0, by omega, by omega⟩)
  · intro h22
    refine wk_al0 r15_77 (wk_getfb r15_78 fd_0_11 (bf_0_11 hP0) ?_)
    intro v23 h25 h26 e24
    subst hQ; exact wk_iret r15_81 (Or.inr ⟨rfl, _, rfl, hP0, hF0, by omega, by omega⟩)
  · intro h27
    refine wk_al0 r15_82 (wk_getfb r15_83 fd_0_1 (bf_0_1 hP0) ?_)
    intro v28 h30 h31 e29
    subst hQ; exact wk_iret r15_86 (Or.inr ⟨rfl, _, rfl, hP0, hF0, by omega, by omega⟩)
  · intro h32
    refine wk_al0 r15_87 (wk_getfr r15_88 fd_0_2 (br_0_2 hP0) (wk_getfb r15_91 fd_2_4 (bf_2_4 hP0) ?_))
    intro v33 h35 h36 e34
    subst hQ; exact wk_iret r15_94 (Or.inr ⟨rfl, _, rfl, hP0, hF0, by omega, by omega⟩)
  · intro h37
    refine wk_al0 r15_95 (wk_getfb r15_96 fd_0_13 (bf_0_13 hP0) ?_)
    intro v38 h40 h41 e39
    refine wk_c1 r15_99 ?_
    refine wk_icne r15_100 ⟨by omega, by omega⟩ (by decide) ?_ ?_
    · intro h42
      refine wk_c1 r15_107 ?_
      subst hQ; exact wk_iret r15_108 (Or.inr ⟨rfl, _, rfl, hP0, hF0, by omega, by omega⟩)
    · intro h43
      refine wk_c1 r15_103 (wk_goto r15_104 ?_)
      subst hQ; exact wk_iret r15_108 (Or.inr ⟨rfl, _, rfl, hP0, hF0, by omega, by omega⟩)
def fm_m30_0 : Nat := 0
/-- IslandHall.needPerson -/
theorem m30_0 {B : eB} (d : Nat) (M0 : Mm) (p1 : Int) (hP0 : Pw M0) (l1 : (-2147483648) ≤ p1) (u1 : p1 ≤ 2147483647) : Ct B (d + 1) 30 [R 0, I p1] M0 (qX 0 (fun M => Pw M ∧ Fr (fm_m30_0 ||| 1) M0 M ∧ M (-1) 0 = M0 (-1) 0 + 1) (qV fun M => Pw M ∧ Fr fm_m30_0 M0 M ∧ 0 ≤ p1 ∧ 0 ≤ M 2 1 + (-1) * p1 + (-1))) := by
  refine ct_of (d := d + 0) (k := 0) (L := [some (R 0), some (I p1)]) rfl rfl rfl ?_
  have hF0 := Fr.rf fm_m30_0 M0
  generalize hQ : (qX 0 (fun M => Pw M ∧ Fr (fm_m30_0 ||| 1) M0 M ∧ M (-1) 0 = M0 (-1) 0 + 1) (qV fun M => Pw M ∧ Fr fm_m30_0 M0 M ∧ 0 ≤ p1 ∧ 0 ≤ M 2 1 + (-1) * p1 + (-1))) = Q
  refine wk_il1 r30_0 ?_
  refine wk_iflt r30_1 ⟨by omega, by omega⟩ ?_ ?_
  · intro h1
    subst hQ; exact wk_thr112 r30_15 rfl (Or.inl ⟨rfl, hP0.thr, (Fr.thr hF0), (by rw [mUp_eq, hF0.at g_below rfl])⟩)
  · intro h2
    refine wk_il1 r30_4 (wk_al0 r30_5 (wk_getfr r30_6 fd_0_2 (br_0_2 hP0) (wk_getfb r30_9 fd_2_1 (bf_2_1 hP0) ?_)))
    intro v3 h5 h6 e4
    refine wk_iclt r30_12 ⟨by omega, by omega⟩ ⟨by omega, by omega⟩ ?_ ?_
    · intro h7
      subst hQ; exact wk_ret r30_26 (Or.inr ⟨rfl, hP0, hF0, by omega, by have := e4; omega⟩)
    · intro h8
      subst hQ; exact wk_thr112 r30_15 rfl (Or.inl ⟨rfl, hP0.thr, (Fr.thr hF0), (by rw [mUp_eq, hF0.at g_below rfl])⟩)
def fm_m229_138 : Nat := 0
/-- IslandHall$Tale.fitting -/
theorem m229_138 {B : eB} (d : Nat) (M0 : Mm) (hP0 : Pw M0)  : Ct B (d + 1) 229 [R 138] M0 (qR fun z M => Pw M ∧ Fr fm_m229_138 M0 M ∧ 155 ≤ z ∧ z ≤ 167) := by
  refine ct_of (d := d + 0) (k := 0) (L := [some (R 138)]) rfl rfl rfl ?_
  have hF0 := Fr.rf fm_m229_138 M0
  generalize hQ : (qR fun z M => Pw M ∧ Fr fm_m229_138 M0 M ∧ 155 ≤ z ∧ z ≤ 167) = Q
  refine wk_al0 r229_0 (wk_getfr r229_1 fd_138_3 (br_138_3 hP0) (wk_al0 r229_4 (wk_getfb r229_5 fd_138_5 (bf_138_5 hP0) ?_)))
  intro v1 h3 h4 e2
  refine wk_raldb r229_8 ar_154 ⟨by omega, by omega⟩ (fun q0 q1 => ba_154 hP0 q0 q1) ?_
  subst hQ; exact wk_aret r229_9 (⟨rfl, _, rfl, hP0, hF0, by omega, by omega⟩)
def fm_m199_10_f155 : Nat := 0
/-- IslandHall$Realm.meetings -/
theorem m199_10_f155 {B : eB} (d : Nat) (M0 : Mm) (a1 : Int) (p2 : Int) (p3 : Int) (hP0 : Pw M0) (ha1 : 155 ≤ a1) (hb1 : a1 ≤ 167) (l2 : 0 ≤ p2) (u2 : p2 ≤ 30) (l3 : 5 ≤ p3) (u3 : p3 ≤ 5) : Ct B (d + 1) 199 [R 10, R a1, I p2, I p3] M0 (qI fun z M => Pw M ∧ Fr fm_m199_10_f155 M0 M ∧ 0 ≤ z ∧ z ≤ 31) := by
  refine ct_of (d := d + 0) (k := 3) (L := [some (R 10), some (R a1), some (I p2), some (I p3), none, none, none]) rfl rfl rfl ?_
  have hF0 := Fr.rf fm_m199_10_f155 M0
  generalize hQ : (qI fun z M => Pw M ∧ Fr fm_m199_10_f155 M0 M ∧ 0 ≤ z ∧ z ≤ 31) = Q
  refine wk_c1 r199_0 (wk_is4 r199_1 rfl (wk_c1 r199_3 (wk_is5 r199_4 rfl ?_)))
  have c6_978 : ∀ (k978 : Nat) (v924 : Int) (v927 : Int), (5 - v927).toNat = k978 → 0 ≤ v924 → v924 ≤ 31 → 0 ≤ v927 → v927 ≤ 5 → Wp B (d + 0) 199 6 [some (R 10), some (R a1), some (I p2), some (I p3), some (I v924), some (I v927), none] [] M0 Q := by
    refine lp_ind ?_
    intro k978 ih978 v924 v927 hk978 h925 h926 h928 h929
    refine wk_il5 r199_6 (wk_il3 r199_8 ?_)
    refine wk_icge r199_9 ⟨by omega, by omega⟩ ⟨by omega, by omega⟩ ?_ ?_
    · intro h930
      refine wk_il4 r199_67 ?_
      subst hQ; exact wk_iret r199_69 (⟨rfl, _, rfl, hP0, hF0, by omega, by omega⟩)
    · intro h931
      refine wk_c1 r199_12 (wk_is6 r199_13 rfl ?_)
      have c15_977 : ∀ (k977 : Nat) (v932 : Int) (v935 : Int), (47 - v935).toNat = k977 → 0 ≤ v932 → v932 ≤ 31 → 0 ≤ v935 → v935 ≤ 47 → Wp B (d + 0) 199 15 [some (R 10), some (R a1), some (I p2), some (I p3), some (I v932), some (I v927), some (I v935)] [] M0 Q := by
        refine lp_ind ?_
        intro k977 ih977 v932 v935 hk977 h933 h934 h936 h937
        refine wk_il6 r199_15 (wk_al0 r199_17 (wk_getfb r199_18 fd_10_10 (bf_10_10 hP0) ?_))
        intro v938 h940 h941 e939
        refine wk_icge r199_21 ⟨by omega, by omega⟩ ⟨by omega, by omega⟩ ?_ ?_
        · intro h942
          refine wk_inc5 r199_61 rfl (wk_goto r199_64 ?_)
          exact wp_fg (le_s (le_s (le_s (le_s (le_s (le_s (le_n le_0))))))) (ih978 (5 - (v927 + 1)).toNat (by omega) v932 (v927 + 1) rfl (by omega) (by omega) (by omega) (by omega))
        · intro h943
          refine wk_al1 r199_24 (wk_il6 r199_25 (wk_laldb r199_27 (arF_155 (by omega) (by omega)) ⟨by omega, by omega⟩ (fun q0 q1 => baF_155 hP0 (by omega) (by omega) q0 q1) (by decide) ?_))
          intro n944 h946 h947 e945
          refine wk_al0 r199_28 (wk_getfr r199_29 fd_10_0 (br_10_0 hP0) (wk_il2 r199_32 (wk_il5 r199_33 (wk_iadd r199_35 (wk_raldb r199_36 ar_16 ⟨by omega, by omega⟩ (fun q0 q1 => ba_16 hP0 q0 q1) (wk_il6 r199_37 (wk_laldb r199_39 (arF_17 (by omega) (by omega)) ⟨by omega, by omega⟩ (fun q0 q1 => baF_17 hP0 (by omega) (by omega) q0 q1) (by decide) ?_)))))))
          intro n948 h950 h951 e949
          refine wk_land r199_40 ?_
          intro n952 h953 h954 h955 h956
          refine wk_c6 r199_41 ?_
          refine wk_lcmp r199_42 (by omega) (by omega) ?_ ?_
          · intro h957
            refine wk_ifeq r199_43 (by decide) ?_ ?_
            · intro h963
              refine wk_inc6 r199_55 rfl (wk_goto r199_58 ?_)
              exact wp_fg (le_s (le_s (le_s (le_s (le_s (le_s (le_s le_0))))))) (ih977 (47 - (v935 + 1)).toNat (by omega) v932 (v935 + 1) rfl (by omega) (by omega) (by omega) (by omega))
            · intro h964
              exfalso
              omega
          · intro h958 v962 h959 h960 h961
            refine wk_ifeq r199_43 ⟨by omega, by omega⟩ ?_ ?_
            · intro h965
              exfalso
              omega
            · intro h966
              refine wk_il4 r199_46 (wk_c1 r199_48 (wk_il5 r199_49 (wk_shl1 4 16 r199_51 ⟨by omega, by omega⟩ ⟨pwl_4, by decide⟩ ?_)))
              intro v967 h968 h969 h970
              refine wk_ior 5 32 r199_52 (by decide) ⟨by omega, by omega⟩ ⟨by omega, by omega⟩ ?_
              intro v971 h972 h973 h974 h975 h976
              refine wk_is4 r199_53 rfl (wk_inc6 r199_55 rfl (wk_goto r199_58 ?_))
              exact wp_fg (le_s (le_s (le_s (le_s (le_s (le_s (le_s le_0))))))) (ih977 (47 - (v935 + 1)).toNat (by omega) v971 (v935 + 1) rfl (by omega) (by omega) (by omega) (by omega))
      exact wp_fg (le_s (le_s (le_s (le_s (le_s (le_s (le_s le_0))))))) (c15_977 _ v924 0 rfl (by omega) (by omega) (by omega) (by omega))
  exact wp_fg (le_s (le_s (le_s (le_s (le_s (le_s (le_s le_0))))))) (c6_978 _ 0 0 rfl (by omega) (by omega) (by omega) (by omega))
def fm_m28_0 : Nat := 0
/-- IslandHall.may -/
theorem m28_0 {B : eB} (d : Nat) (M0 : Mm) (p1 : Int) (p2 : Int) (hP0 : Pw M0) (l1 : (-2147483648) ≤ p1) (u1 : p1 ≤ 2147483647) (l2 : (-2147483648) ≤ p2) (u2 : p2 ≤ 2147483647) : Ct B (d + 2) 28 [R 0, I p1, I p2] M0 (qX 0 (fun M => Pw M ∧ Fr (fm_m28_0 ||| 1) M0 M ∧ M (-1) 0 = M0 (-1) 0 + 1) (qI fun z M => Pw M ∧ Fr fm_m28_0 M0 M ∧ 0 ≤ z ∧ z ≤ 31)) := by
  refine ct_of (d := d + 1) (k := 0) (L := [some (R 0), some (I p1), some (I p2)]) rfl rfl rfl ?_
  have hF0 := Fr.rf fm_m28_0 M0
  generalize hQ : (qX 0 (fun M => Pw M ∧ Fr (fm_m28_0 ||| 1) M0 M ∧ M (-1) 0 = M0 (-1) 0 + 1) (qI fun z M => Pw M ∧ Fr fm_m28_0 M0 M ∧ 0 ≤ z ∧ z ≤ 31)) = Q
  refine wk_al0 r28_0 (wk_il1 r28_1 (wk_cv2 r28_2 kc_0_30 rfl (m30_0 _ M0 p1 hP0 (by omega) (by omega)) (cqX (fun _ _ x5 => by subst hQ; exact Or.inl ⟨rfl, x5.1, Fr.trx hF0 x5.2.1 rfl, (by rw [x5.2.2, hF0.at g_below rfl])⟩) (cqV ?_))))
  rintro M1 ⟨hP2, hQ3, h8, h9⟩
  obtain rfl := Fr.same hQ3
  obtain ⟨v10, e11⟩ : ∃ v, M0 2 1 = v := ⟨_, rfl⟩
  have h12 := bf_2_1 hP0; rw [e11] at h12
  refine wk_il2 r28_5 ?_
  refine wk_ifne r28_6 ⟨by omega, by omega⟩ ?_ ?_
  · intro h13
    refine wk_il2 r28_19 (wk_c1 r28_20 ?_)
    refine wk_iceq r28_21 ⟨by omega, by omega⟩ (by decide) ?_ ?_
    · intro h14
      refine wk_al0 r28_34 (wk_getfr r28_35 fd_0_6 (br_0_6 hP0) (wk_al0 r28_38 (wk_getfr r28_39 fd_0_7 (br_0_7 hP0) (wk_cv1 r28_42 kc_138_229 rfl (m229_138 _ M0 hP0) (cqR ?_)))))
      rintro v19 M15 ⟨hP16, hQ17, h20, h21⟩
      obtain rfl := Fr.same hQ17
      refine wk_c1 r28_45 (wk_il1 r28_46 (wk_c1 r28_47 (wk_imul r28_48 (wk_iadd r28_49 (wk_c1 r28_50 (wk_cv4 r28_51 kc_10_199 rfl (m199_10_f155 _ M0 v19 (0 + (p1 * 5)) 5 hP0 (by omega) (by omega) (by omega) (by omega) (by decide) (by decide)) (cqI ?_)))))))
      rintro v26 M22 ⟨hP23, hQ24, h27, h28⟩
      obtain rfl := Fr.same hQ24
      subst hQ; exact wk_iret r28_54 (Or.inr ⟨rfl, _, rfl, hP0, hF0, by omega, by omega⟩)
    · intro h29
      subst hQ; exact wk_thr105 r28_24 rfl (Or.inl ⟨rfl, hP0.thr, (Fr.thr hF0), (by rw [mUp_eq, hF0.at g_below rfl])⟩)
  · intro h30
    refine wk_al0 r28_9 (wk_getfr r28_10 fd_0_2 (br_0_2 hP0) (wk_getfr r28_13 fd_2_0 (br_2_0 hP0) (wk_il1 r28_16 (wk_ialdb r28_17 ar_3 ⟨by omega, by omega⟩ (fun q0 q1 => ba_3 hP0 q0 q1) ?_))))
    intro v31 h33 h34 e32
    subst hQ; exact wk_iret r28_18 (Or.inr ⟨rfl, _, rfl, hP0, hF0, by omega, by omega⟩)
