/-! ===== written by program (wip/layer2/all.py): contracts of methods ===== -/
def fm_m191_f17v6 : Nat := 0
/-- IslandHall$Realm.holds -/
theorem m191_f17v6 {B : eB} (d : Nat) (M0 : Mm) (a0 : Int) (p1 : Int) (hP0 : Pw M0) (ha0 : 17 ≤ a0) (hb0 : a0 ≤ 135) (l1 : 0 ≤ p1) (u1 : p1 ≤ 2999) : Ct B (d + 1) 191 [R a0, I p1] M0 (qI fun z M => Pw M ∧ Fr fm_m191_f17v6 M0 M ∧ 0 ≤ z ∧ z ≤ 1) := by
  refine ct_of (d := d + 0) (k := 0) (L := [some (R a0), some (I p1)]) rfl rfl rfl ?_
  have hF0 := Fr.rf fm_m191_f17v6 M0
  generalize hQ : (qI fun z M => Pw M ∧ Fr fm_m191_f17v6 M0 M ∧ 0 ≤ z ∧ z ≤ 1) = Q
  refine wk_al0 r191_0 (wk_il1 r191_1 (wk_c2 r191_2 (wk_ishrc r191_4 ⟨by omega, by omega⟩ (by decide) pwl_6 (wk_laldb r191_5 (arF_17 (by omega) (by omega)) ⟨by omega, by omega⟩ (fun q0 q1 => baF_17 hP0 (by omega) (by omega) q0 q1) (by decide) ?_))))
  intro n2 h4 h5 e3
  refine wk_il1 r191_6 (wk_c2 r191_7 (wk_iandc 6 64 r191_9 ⟨rfl, by decide⟩ rfl (wk_lushrb r191_10 (by omega) ⟨by omega, by omega⟩ ?_)))
  intro n6 h7 h8
  refine wk_c6 r191_11 (wk_land r191_12 ?_)
  intro n9 h10 h11 h12 h13
  refine wk_c6 r191_13 ?_
  refine wk_lcmp r191_14 (by omega) (by omega) ?_ ?_
  · intro h14
    refine wk_ifne r191_15 (by decide) ?_ ?_
    · intro h20
      exfalso
      omega
    · intro h21
      refine wk_c1 r191_18 (wk_goto r191_19 ?_)
      subst hQ; exact wk_zret r191_23 (by decide) (⟨rfl, _, rfl, hP0, hF0, by omega, by omega⟩)
  · intro h15 v19 h16 h17 h18
    refine wk_ifne r191_15 ⟨by omega, by omega⟩ ?_ ?_
    · intro h22
      refine wk_c1 r191_22 ?_
      subst hQ; exact wk_zret r191_23 (by decide) (⟨rfl, _, rfl, hP0, hF0, by omega, by omega⟩)
    · intro h23
      exfalso
      omega
def fm_m204_176v23 : Nat := 21267647932558653966460912964485513216
/-- IslandHall$Realm.set -/
theorem m204_176v23 {B : eB} (d : Nat) (M0 : Mm) (p1 : Int) (p2 : Int) (hP0 : Pw M0) (l1 : 102 ≤ p1) (u1 : p1 ≤ 113) (l2 : 0 ≤ p2) (u2 : p2 ≤ 299) : Ct B (d + 1) 204 [R 176, I p1, I p2] M0 (qV fun M => Pw M ∧ Fr fm_m204_176v23 M0 M) := by
  refine ct_of (d := d + 0) (k := 0) (L := [some (R 176), some (I p1), some (I p2)]) rfl rfl rfl ?_
  have hF0 := Fr.rf fm_m204_176v23 M0
  generalize hQ : (qV fun M => Pw M ∧ Fr fm_m204_176v23 M0 M) = Q
  refine wk_al0 r204_0 (wk_getfr r204_1 fd_176_0 (br_176_0 hP0) (wk_il1 r204_4 (wk_raldb r204_5 ar_182 ⟨by omega, by omega⟩ (fun q0 q1 => ba_182 hP0 q0 q1) (wk_il2 r204_6 (wk_c2 r204_7 (wk_ishrc r204_9 ⟨by omega, by omega⟩ (by decide) pwl_6 (wk_dup2 r204_10 (wk_laldb r204_11 (arF_183 (by omega) (by omega)) ⟨by omega, by omega⟩ (fun q0 q1 => baF_183 hP0 (by omega) (by omega) q0 q1) (by decide) ?_))))))))
  intro n2 h4 h5 e3
  refine wk_c6 r204_12 (wk_il2 r204_13 (wk_c2 r204_14 (wk_iandc 6 64 r204_16 ⟨rfl, by decide⟩ rfl (wk_lshlb r204_17 ⟨by omega, by omega⟩ ?_))))
  intro n6 h7 h8 h9
  refine wk_lorb r204_18 ?_
  intro n10 h11 h12 h13
  refine wk_last r204_19 (arF_183 (by omega) (by omega)) ⟨by omega, by omega⟩ (wk_nw (gr_183 (by omega) (by omega) _) rfl hP0 hF0 (uaF_183 (by omega) (by omega) ⟨by omega, by omega⟩) ?_)
  intro M14 hP15 hF16 e17
  subst hQ; exact wk_ret r204_20 (⟨rfl, hP15, hF16⟩)
def fm_m206_176_10_f155 : Nat := 659543720010098677272643500474688864256
/-- IslandHall$Realm.take -/
theorem m206_176_10_f155 {B : eB} (d : Nat) (M0 : Mm) (a2 : Int) (p3 : Int) (hP0 : Pw M0) (ha2 : 155 ≤ a2) (hb2 : a2 ≤ 167) (l3 : 0 ≤ p3) (u3 : p3 ≤ 12) : Ct B (d + 6) 206 [R 176, R 10, R a2, I p3] M0 (qV fun M => Pw M ∧ Fr fm_m206_176_10_f155 M0 M) := by
  refine ct_of (d := d + 5) (k := 2) (L := [some (R 176), some (R 10), some (R a2), some (I p3), none, none]) rfl rfl rfl ?_
  have hF0 := Fr.rf fm_m206_176_10_f155 M0
  generalize hQ : (qV fun M => Pw M ∧ Fr fm_m206_176_10_f155 M0 M) = Q
  refine wk_al0 r206_0 (wk_al1 r206_1 (wk_getfb r206_2 fd_10_7 (bf_10_7 hP0) ?_))
  intro v1 h3 h4 e2
  refine wk_al1 r206_5 (wk_getfb r206_6 fd_10_8 (bf_10_8 hP0) ?_)
  intro v5 h7 h8 e6
  refine wk_cv3 r206_9 kc_176_187 rfl (m187_176 _ M0 v1 v5 hP0 (by omega) (by omega) (by omega) (by omega)) (cqV ?_)
  rintro M9 ⟨hP10, hQ11, h13⟩
  have hF12 : Fr fm_m206_176_10_f155 M0 M9 := hF0.tr hQ11 rfl
  obtain ⟨v14, e15⟩ : ∃ v, M9 176 9 = v := ⟨_, rfl⟩
  have h16 := bf_176_9 hP10; rw [e15] at h16
  refine wk_al1 r206_12 (wk_getfr r206_13 fd_10_3 (br_10_3 hP10) (wk_c1 r206_16 (wk_al0 r206_17 (wk_getfr r206_18 fd_176_3 (br_176_3 hP10) (wk_c1 r206_21 (wk_c2 r206_22 (wk_copy109 r206_24 ar_11 ar_177 ⟨by decide, by decide, by decide, by omega, by omega, by omega⟩ rfl (wk_nc (fun i => by rw [(ga_177 i)]; rfl) hP10 hF12 (fun i h0 h1 => by have := ba_11 hP10 h0 (by omega); exact (ua_177 ⟨by omega, by omega⟩)) ?_))))))))
  intro M17 hP18 hF19 e20
  refine wk_c1 r206_27 (wk_is4 r206_28 rfl ?_)
  have c30_1025 : ∀ (k1025 : Nat) (M955 : Mm) (v952 : Int) (v958 : Int), (3000 - v952).toNat = k1025 → Pw M955 → Fr fm_m206_176_10_f155 M0 M955 → M955 176 9 = v958 → M955 10 7 = v1 → M955 10 8 = v5 → 0 ≤ v952 → v952 ≤ 3000 → 0 ≤ v958 → v958 ≤ 300 → 0 ≤ (-1) * v958 + v952 + 0 → Wp B (d + 5) 206 30 [some (R 176), some (R 10), some (R a2), some (I p3), some (I v952), none] [] M955 Q := by
    refine lp_ind ?_
    intro k1025 ih1025 M955 v952 v958 hk1025 hP956 hF957 e961 e962 e963 h953 h954 h959 h960 h964
    refine wk_il4 r206_30 (wk_al1 r206_32 (wk_getfb r206_33 fd_10_9 (bf_10_9 hP956) ?_))
    intro v965 h967 h968 e966
    refine wk_icge r206_36 ⟨by omega, by omega⟩ ⟨by omega, by omega⟩ ?_ ?_
    · intro h969
      subst hQ; exact wk_ret r206_130 (⟨rfl, hP956, hF957⟩)
    · intro h970
      refine wk_al0 r206_39 (wk_getfi r206_40 fd_176_9 e961 (wk_al0 r206_43 (wk_getfr r206_44 fd_176_1 (br_176_1 hP956) (wk_alen r206_47 ar_302 (by decide) ?_))))
      refine wk_icge r206_48 ⟨by omega, by omega⟩ (by decide) ?_ ?_
      · intro h971
        subst hQ; exact wk_ret r206_130 (⟨rfl, hP956, hF957⟩)
      · intro h972
        refine wk_al2 r206_51 (wk_il4 r206_52 (wk_cs102_2 r206_54 rfl (m191_f155v8 _ M955 a2 v952 hP956 (by omega) (by omega) (by omega) (by omega)) (cqI ?_)))
        rintro v977 M973 ⟨hP974, hQ975, h978, h979⟩
        obtain rfl := Fr.same hQ975
        refine wk_ifeq r206_57 ⟨by omega, by omega⟩ ?_ ?_
        · intro h980
          refine wk_inc4 r206_124 rfl (wk_goto r206_127 ?_)
          exact wp_fg (le_s (le_s (le_s (le_s (le_s (le_s le_0)))))) (ih1025 (3000 - (v952 + 1)).toNat (by omega) M955 (v952 + 1) v958 rfl hP956 hF957 e961 e962 e963 (by omega) (by omega) (by omega) (by omega) (by omega))
        · intro h981
          refine wk_c1 r206_60 (wk_is5 r206_61 rfl ?_)
          have c63_1024 : ∀ (k1024 : Nat) (M985 : Mm) (v982 : Int), (12 - v982).toNat = k1024 → Pw M985 → Fr fm_m206_176_10_f155 M0 M985 → M985 176 9 = v958 → M985 10 7 = v1 → M985 10 8 = v5 → M985 10 9 = v965 → 0 ≤ v982 → v982 ≤ 12 → Wp B (d + 5) 206 63 [some (R 176), some (R 10), some (R a2), some (I p3), some (I v952), some (I v982)] [] M985 Q := by
            refine lp_ind ?_
            intro k1024 ih1024 M985 v982 hk1024 hP986 hF987 e988 e989 e990 e991 h983 h984
            refine wk_il5 r206_63 (wk_il3 r206_65 ?_)
            refine wk_icge r206_66 ⟨by omega, by omega⟩ ⟨by omega, by omega⟩ ?_ ?_
            · intro h992
              refine wk_al0 r206_106 (wk_al1 r206_107 (wk_getfr r206_108 fd_10_1 (br_10_1 hP986) (wk_il4 r206_111 (wk_ialdb r206_113 ar_136 ⟨by omega, by omega⟩ (fun q0 q1 => ba_136 hP986 q0 q1) ?_))))
              intro v993 h995 h996 e994
              refine wk_al1 r206_114 (wk_getfr r206_115 fd_10_2 (br_10_2 hP986) (wk_il4 r206_118 (wk_ialdb r206_120 ar_137 ⟨by omega, by omega⟩ (fun q0 q1 => ba_137 hP986 q0 q1) ?_)))
              intro v997 h999 h1000 e998
              refine wk_cv3 r206_121 kc_176_202 rfl (m202_176 _ M985 v993 v997 v958 hP986 (by omega) (by omega) (by omega) (by omega) e988 (by omega) (by omega)) (cqV ?_)
              rintro M1001 ⟨hP1002, hQ1003, h1005, h1006⟩
              have hF1004 : Fr fm_m206_176_10_f155 M0 M1001 := hF987.tr hQ1003 rfl
              obtain ⟨v1007, e1008⟩ : ∃ v, M1001 176 9 = v := ⟨_, rfl⟩
              have h1009 := bf_176_9 hP1002; rw [e1008] at h1009
              refine wk_inc4 r206_124 rfl (wk_goto r206_127 ?_)
              exact wp_fg (le_s (le_s (le_s (le_s (le_s (le_n le_0)))))) (ih1025 (3000 - (v952 + 1)).toNat (by omega) M1001 (v952 + 1) v1007 rfl hP1002 hF1004 e1008 ((hQ1003.at g_10_7 rfl).trans e989) ((hQ1003.at g_10_8 rfl).trans e990) (by omega) (by omega) (by omega) (by omega) (by omega))
            · intro h1010
              refine wk_al1 r206_69 (wk_getfr r206_70 fd_10_0 (br_10_0 hP986) (wk_c2 r206_73 (wk_il5 r206_75 (wk_iadd r206_77 (wk_raldb r206_78 ar_16 ⟨by omega, by omega⟩ (fun q0 q1 => ba_16 hP986 q0 q1) (wk_il4 r206_79 (wk_cs102_2 r206_81 rfl (m191_f17v6 _ M985 (17 + (102 + v982)) v952 hP986 (by omega) (by omega) (by omega) (by omega)) (cqI ?_))))))))
              rintro v1015 M1011 ⟨hP1012, hQ1013, h1016, h1017⟩
              obtain rfl := Fr.same hQ1013
              refine wk_ifeq r206_84 ⟨by omega, by omega⟩ ?_ ?_
              · intro h1018
                refine wk_inc5 r206_100 rfl (wk_goto r206_103 ?_)
                exact wp_fg (le_s (le_s (le_s (le_s (le_s (le_s le_0)))))) (ih1024 (12 - (v982 + 1)).toNat (by omega) M985 (v982 + 1) rfl hP986 hF987 e988 e989 e990 e991 (by omega) (by omega))
              · intro h1019
                refine wk_al0 r206_87 (wk_c2 r206_88 (wk_il5 r206_90 (wk_iadd r206_92 (wk_al0 r206_93 (wk_getfi r206_94 fd_176_9 e988 (wk_cv3 r206_97 kc_176_204 rfl (m204_176v23 _ M985 (102 + v982) v958 hP986 (by omega) (by omega) (by omega) (by omega)) (cqV ?_)))))))
                rintro M1020 ⟨hP1021, hQ1022⟩
                have hF1023 : Fr fm_m206_176_10_f155 M0 M1020 := hF987.tr hQ1022 rfl
                refine wk_inc5 r206_100 rfl (wk_goto r206_103 ?_)
                exact wp_fg (le_s (le_s (le_s (le_s (le_s (le_s le_0)))))) (ih1024 (12 - (v982 + 1)).toNat (by omega) M1020 (v982 + 1) rfl hP1021 hF1023 ((hQ1022.at g_176_9 rfl).trans e988) ((hQ1022.at g_10_7 rfl).trans e989) ((hQ1022.at g_10_8 rfl).trans e990) ((hQ1022.at g_10_9 rfl).trans e991) (by omega) (by omega))
          exact wp_fg (le_s (le_s (le_s (le_s (le_s (le_s le_0)))))) (c63_1024 _ M955 0 rfl hP956 hF957 e961 e962 e963 e966 (by omega) (by omega))
  exact wp_fg (le_s (le_s (le_s (le_s (le_s (le_s le_0)))))) (c30_1025 _ M17 0 v14 rfl hP18 hF19 (cpy_no e20 e15 (by decide)) (cpy_no e20 ((hQ11.at g_10_7 rfl).trans e2) (by decide)) (cpy_no e20 ((hQ11.at g_10_8 rfl).trans e6) (by decide)) (by omega) (by omega) (by omega) (by omega) (by omega))
def fm_m186_176v11 : Nat := 0
/-- IslandHall$Realm.answerAt -/
theorem m186_176v11 {B : eB} (d : Nat) (M0 : Mm) (p1 : Int) (p2 : Int) (hP0 : Pw M0) (l1 : 0 ≤ p1) (u1 : p1 ≤ 299) (l2 : 0 ≤ p2) (u2 : p2 ≤ 3) : Ct B (d + 1) 186 [R 176, I p1, I p2] M0 (qI fun z M => Pw M ∧ Fr fm_m186_176v11 M0 M ∧ 0 ≤ z ∧ z ≤ 2999) := by
  refine ct_of (d := d + 0) (k := 0) (L := [some (R 176), some (I p1), some (I p2)]) rfl rfl rfl ?_
  have hF0 := Fr.rf fm_m186_176v11 M0
  generalize hQ : (qI fun z M => Pw M ∧ Fr fm_m186_176v11 M0 M ∧ 0 ≤ z ∧ z ≤ 2999) = Q
  refine wk_il2 r186_0 ?_
  refine wk_sw8 r186_1 ⟨by omega, by omega⟩ ?_ ?_ ?_ ?_
  · intro h1
    refine wk_al0 r186_65 (wk_getfr r186_66 fd_176_2 (br_176_2 hP0) (wk_il1 r186_69 (wk_ialdb r186_70 ar_303 ⟨by omega, by omega⟩ (fun q0 q1 => ba_303 hP0 q0 q1) ?_)))
    intro v2 h4 h5 e3
    subst hQ; exact wk_iret r186_71 (⟨rfl, _, rfl, hP0, hF0, by omega, by omega⟩)
  · intro h6
    refine wk_al0 r186_28 (wk_getfr r186_29 fd_176_1 (br_176_1 hP0) (wk_il1 r186_32 (wk_ialdb r186_33 ar_302 ⟨by omega, by omega⟩ (fun q0 q1 => ba_302 hP0 q0 q1) ?_)))
    intro v7 h9 h10 e8
    refine wk_c2 r186_34 (wk_ishrc r186_36 ⟨by omega, by omega⟩ (by decide) pwl_21 (wk_c1 r186_37 (wk_iandc 2 4 r186_38 ⟨rfl, by decide⟩ rfl ?_)))
    subst hQ; exact wk_iret r186_39 (⟨rfl, _, rfl, hP0, hF0, by omega, by omega⟩)
  · intro h13
    refine wk_al0 r186_40 (wk_getfr r186_41 fd_176_1 (br_176_1 hP0) (wk_il1 r186_44 (wk_ialdb r186_45 ar_302 ⟨by omega, by omega⟩ (fun q0 q1 => ba_302 hP0 q0 q1) ?_)))
    intro v14 h16 h17 e15
    refine wk_c2 r186_46 (wk_ishrc r186_48 ⟨by omega, by omega⟩ (by decide) pwl_23 (wk_c2 r186_49 (wk_iandc 3 8 r186_51 ⟨rfl, by decide⟩ rfl ?_)))
    subst hQ; exact wk_iret r186_52 (⟨rfl, _, rfl, hP0, hF0, by omega, by omega⟩)
  · intro h20
    refine wk_al0 r186_53 (wk_getfr r186_54 fd_176_1 (br_176_1 hP0) (wk_il1 r186_57 (wk_ialdb r186_58 ar_302 ⟨by omega, by omega⟩ (fun q0 q1 => ba_302 hP0 q0 q1) ?_)))
    intro v21 h23 h24 e22
    refine wk_c2 r186_59 (wk_ishrc r186_61 ⟨by omega, by omega⟩ (by decide) pwl_26 (wk_c1 r186_62 (wk_iandc 1 2 r186_63 ⟨rfl, by decide⟩ rfl ?_)))
    subst hQ; exact wk_iret r186_64 (⟨rfl, _, rfl, hP0, hF0, by omega, by omega⟩)
def fm_m146_174_138 : Nat := 4062367399360688113732224786765996621824
/-- IslandHall$Crowd.gather -/
theorem m146_174_138 {B : eB} (d : Nat) (M0 : Mm) (p2 : Int) (hP0 : Pw M0) (l2 : 0 ≤ p2) (u2 : p2 ≤ 3) : Ct B (d + 7) 146 [R 174, R 138, I p2] M0 (qV fun M => Pw M ∧ Fr fm_m146_174_138 M0 M) := by
  refine ct_of (d := d + 6) (k := 2) (L := [some (R 174), some (R 138), some (I p2), none, none]) rfl rfl rfl ?_
  have hF0 := Fr.rf fm_m146_174_138 M0
  generalize hQ : (qV fun M => Pw M ∧ Fr fm_m146_174_138 M0 M) = Q
  refine wk_al0 r146_0 (wk_getfr r146_1 fd_174_0 (br_174_0 hP0) (wk_al1 r146_4 (wk_getfr r146_5 fd_138_0 (br_138_0 hP0) (wk_al1 r146_8 (wk_cv1 r146_9 kc_138_229 rfl (m229_138 _ M0 hP0) (cqR ?_))))))
  rintro v5 M1 ⟨hP2, hQ3, h6, h7⟩
  obtain rfl := Fr.same hQ3
  refine wk_al1 r146_12 (wk_getfb r146_13 fd_138_5 (bf_138_5 hP0) ?_)
  intro v8 h10 h11 e9
  refine wk_cv4 r146_16 kc_176_206 rfl (m206_176_10_f155 _ M0 v5 v8 hP0 (by omega) (by omega) (by omega) (by omega)) (cqV ?_)
  rintro M12 ⟨hP13, hQ14⟩
  have hF15 : Fr fm_m146_174_138 M0 M12 := hF0.tr hQ14 rfl
  refine wk_al0 r146_19 (wk_getfr r146_20 fd_174_4 (br_174_4 hP13) (wk_c1 r146_23 (wk_cs102_2 r146_24 rfl (ct_fi ar_175) (cqV ?_))))
  intro M16 e17
  have hP18 : Pw M16 := by rw [e17]; exact hP13.fil (fun i => (ua_175 (by decide)))
  have hF19 : Fr fm_m146_174_138 M0 M16 := by rw [e17]; exact hF15.fil (fun i => by rw [(ga_175 i)]; rfl)
  refine wk_c1 r146_27 (wk_is3 r146_28 rfl ?_)
  have c29_780 : ∀ (k780 : Nat) (M707 : Mm) (v704 : Int), (300 - v704).toNat = k780 → Pw M707 → Fr fm_m146_174_138 M0 M707 → M707 138 5 = v8 → 0 ≤ v704 → v704 ≤ 300 → Wp B (d + 6) 146 29 [some (R 174), none, some (I p2), some (I v704), none] [] M707 Q := by
    refine lp_ind ?_
    intro k780 ih780 M707 v704 hk780 hP708 hF709 e710 h705 h706
    refine wk_il3 r146_29 (wk_al0 r146_30 (wk_getfr r146_31 fd_174_0 (br_174_0 hP708) (wk_getfb r146_34 fd_176_9 (bf_176_9 hP708) ?_)))
    intro v711 h713 h714 e712
    refine wk_icge r146_37 ⟨by omega, by omega⟩ ⟨by omega, by omega⟩ ?_ ?_
    · intro h715
      subst hQ; exact wk_ret r146_124 (⟨rfl, hP708, hF709⟩)
    · intro h716
      refine wk_al0 r146_40 (wk_getfr r146_41 fd_174_0 (br_174_0 hP708) (wk_il3 r146_44 (wk_il2 r146_45 (wk_cv3 r146_46 kc_176_186 rfl (m186_176v11 _ M707 v704 p2 hP708 (by omega) (by omega) (by omega) (by omega)) (cqI ?_)))))
      rintro v721 M717 ⟨hP718, hQ719, h722, h723⟩
      obtain rfl := Fr.same hQ719
      refine wk_is4 r146_49 rfl (wk_al0 r146_51 (wk_getfr r146_52 fd_174_4 (br_174_4 hP708) (wk_il4 r146_55 (wk_ialdb r146_57 ar_175 ⟨by omega, by omega⟩ (fun q0 q1 => ba_175 hP708 q0 q1) ?_))))
      intro v724 h726 h727 e725
      refine wk_c1 r146_58 ?_
      refine wk_icne r146_59 ⟨by omega, by omega⟩ (by decide) ?_ ?_
      · intro h728
        refine wk_al0 r146_80 (wk_getfr r146_81 fd_174_2 (br_174_2 hP708) (wk_il3 r146_84 (wk_al0 r146_85 (wk_getfr r146_86 fd_174_4 (br_174_4 hP708) (wk_il4 r146_89 (wk_iald r146_91 ar_175 ⟨by omega, by omega⟩ e725 (wk_iast r146_92 ar_304 ⟨by omega, by omega⟩ (wk_nw (ga_304 _) rfl hP708 hF709 (ua_304 ⟨by omega, by omega⟩) ?_))))))))
        intro M729 hP730 hF731 e732
        refine wk_al0 r146_93 (wk_getfr r146_94 fd_174_3 (br_174_3 hP730) (wk_al0 r146_97 (wk_getfr r146_98 fd_174_2 (br_174_2 hP730) (wk_il3 r146_101 (wk_iald r146_102 ar_304 ⟨by omega, by omega⟩ (mUp_at e732) (wk_raldb r146_103 ar_305 ⟨by omega, by omega⟩ (fun q0 q1 => ba_305 hP730 q0 q1) (wk_il3 r146_104 (wk_c2 r146_105 (wk_ishrc r146_107 ⟨by omega, by omega⟩ (by decide) pwl_6 (wk_dup2 r146_108 (wk_laldb r146_109 (arF_306 (by omega) (by omega)) ⟨by omega, by omega⟩ (fun q0 q1 => baF_306 hP730 (by omega) (by omega) q0 q1) (by decide) ?_)))))))))))
        intro n734 h736 h737 e735
        refine wk_c6 r146_110 (wk_il3 r146_111 (wk_c2 r146_112 (wk_iandc 6 64 r146_114 ⟨rfl, by decide⟩ rfl (wk_lshlb r146_115 ⟨by omega, by omega⟩ ?_))))
        intro n738 h739 h740 h741
        refine wk_lorb r146_116 ?_
        intro n742 h743 h744 h745
        refine wk_last r146_117 (arF_306 (by omega) (by omega)) ⟨by omega, by omega⟩ (wk_nw (gr_306 (by omega) (by omega) _) rfl hP730 hF731 (uaF_306 (by omega) (by omega) ⟨by omega, by omega⟩) ?_)
        intro M746 hP747 hF748 e749
        refine wk_inc3 r146_118 rfl (wk_goto r146_121 ?_)
        exact wp_fg (le_s (le_s (le_s (le_s (le_n le_0))))) (ih780 (300 - (v704 + 1)).toNat (by omega) M746 (v704 + 1) rfl hP747 hF748 (mUp_no e749 (mUp_no e732 e710 (Or.inl (by decide))) (Or.inl (by omega))) (by omega) (by omega))
      · intro h750
        refine wk_al0 r146_62 (wk_getfr r146_63 fd_174_4 (br_174_4 hP708) (wk_il4 r146_66 (wk_il3 r146_68 (wk_iast r146_69 ar_175 ⟨by omega, by omega⟩ (wk_nw (ga_175 _) rfl hP708 hF709 (ua_175 ⟨by omega, by omega⟩) ?_)))))
        intro M751 hP752 hF753 e754
        refine wk_al0 r146_70 (wk_getfr r146_71 fd_174_3 (br_174_3 hP752) (wk_il3 r146_74 (wk_raldb r146_75 ar_305 ⟨by omega, by omega⟩ (fun q0 q1 => ba_305 hP752 q0 q1) (wk_c6 r146_76 (wk_cs102_2 r146_77 rfl (ct_fl (arF_306 (by omega) (by omega))) (cqV ?_))))))
        intro M755 e756
        have hP757 : Pw M755 := by rw [e756]; exact hP752.fil (fun i => (uaF_306 (by omega) (by omega) ⟨by omega, by omega⟩))
        have hF758 : Fr fm_m146_174_138 M0 M755 := by rw [e756]; exact hF753.fil (fun i => by rw [(gr_306 (by omega) (by omega) i)]; rfl)
        refine wk_al0 r146_80 (wk_getfr r146_81 fd_174_2 (br_174_2 hP757) (wk_il3 r146_84 (wk_al0 r146_85 (wk_getfr r146_86 fd_174_4 (br_174_4 hP757) (wk_il4 r146_89 (wk_iald r146_91 ar_175 ⟨by omega, by omega⟩ (fil_no e756 (mUp_at e754) (by omega)) (wk_iast r146_92 ar_304 ⟨by omega, by omega⟩ (wk_nw (ga_304 _) rfl hP757 hF758 (ua_304 ⟨by omega, by omega⟩) ?_))))))))
        intro M759 hP760 hF761 e762
        refine wk_al0 r146_93 (wk_getfr r146_94 fd_174_3 (br_174_3 hP760) (wk_al0 r146_97 (wk_getfr r146_98 fd_174_2 (br_174_2 hP760) (wk_il3 r146_101 (wk_iald r146_102 ar_304 ⟨by omega, by omega⟩ (mUp_at e762) (wk_raldb r146_103 ar_305 ⟨by omega, by omega⟩ (fun q0 q1 => ba_305 hP760 q0 q1) (wk_il3 r146_104 (wk_c2 r146_105 (wk_ishrc r146_107 ⟨by omega, by omega⟩ (by decide) pwl_6 (wk_dup2 r146_108 (wk_laldb r146_109 (arF_306 (by omega) (by omega)) ⟨by omega, by omega⟩ (fun q0 q1 => baF_306 hP760 (by omega) (by omega) q0 q1) (by decide) ?_)))))))))))
        intro n764 h766 h767 e765
        refine wk_c6 r146_110 (wk_il3 r146_111 (wk_c2 r146_112 (wk_iandc 6 64 r146_114 ⟨rfl, by decide⟩ rfl (wk_lshlb r146_115 ⟨by omega, by omega⟩ ?_))))
        intro n768 h769 h770 h771
        refine wk_lorb r146_116 ?_
        intro n772 h773 h774 h775
        refine wk_last r146_117 (arF_306 (by omega) (by omega)) ⟨by omega, by omega⟩ (wk_nw (gr_306 (by omega) (by omega) _) rfl hP760 hF761 (uaF_306 (by omega) (by omega) ⟨by omega, by omega⟩) ?_)
        intro M776 hP777 hF778 e779
        refine wk_inc3 r146_118 rfl (wk_goto r146_121 ?_)
        exact wp_fg (le_s (le_s (le_s (le_s (le_n le_0))))) (ih780 (300 - (v704 + 1)).toNat (by omega) M776 (v704 + 1) rfl hP777 hF778 (mUp_no e779 (mUp_no e762 (fil_no e756 (mUp_no e754 e710 (Or.inl (by decide))) (by omega)) (Or.inl (by decide))) (Or.inl (by omega))) (by omega) (by omega))
  exact wp_fg (le_s (le_n (le_s (le_s (le_s le_0))))) (c29_780 _ M16 0 rfl hP18 hF19 (fil_no e17 ((hQ14.at g_138_5 rfl).trans e9) (by decide)) (by omega) (by omega))
def fm_m145_174 : Nat := 0
/-- IslandHall$Crowd.everyone -/
theorem m145_174 {B : eB} (d : Nat) (M0 : Mm) (hP0 : Pw M0)  : Ct B (d + 1) 145 [R 174] M0 (qR fun z M => Pw M ∧ Fr fm_m145_174 M0 M ∧ 301 ≤ z ∧ z ≤ 301) := by
  refine ct_of (d := d + 0) (k := 0) (L := [some (R 174)]) rfl rfl rfl ?_
  have hF0 := Fr.rf fm_m145_174 M0
  generalize hQ : (qR fun z M => Pw M ∧ Fr fm_m145_174 M0 M ∧ 301 ≤ z ∧ z ≤ 301) = Q
  refine wk_al0 r145_0 (wk_getfr r145_1 fd_174_0 (br_174_0 hP0) (wk_getfr r145_4 fd_176_0 (br_176_0 hP0) (wk_c2 r145_7 (wk_raldb r145_9 ar_182 (by decide) (fun q0 q1 => ba_182 hP0 q0 q1) ?_))))
  subst hQ; exact wk_aret r145_10 (⟨rfl, _, rfl, hP0, hF0, by omega, by omega⟩)
def fm_m149_174_606 : Nat := 0
/-- IslandHall$Crowd.someOf -/
theorem m149_174_606 {B : eB} (d : Nat) (M0 : Mm) (hP0 : Pw M0)  : Ct B (d + 2) 149 [R 174, R 606] M0 (qI fun z M => Pw M ∧ Fr fm_m149_174_606 M0 M ∧ (-1) ≤ z ∧ z ≤ 299) := by
  refine ct_of (d := d + 1) (k := 1) (L := [some (R 174), some (R 606), none]) rfl rfl rfl ?_
  have hF0 := Fr.rf fm_m149_174_606 M0
  generalize hQ : (qI fun z M => Pw M ∧ Fr fm_m149_174_606 M0 M ∧ (-1) ≤ z ∧ z ≤ 299) = Q
  refine wk_c1 r149_0 (wk_is2 r149_1 rfl ?_)
  have c2_330 : ∀ (k330 : Nat) (v283 : Int), (5 - v283).toNat = k330 → 0 ≤ v283 → v283 ≤ 5 → Wp B (d + 1) 149 2 [some (R 174), some (R 606), some (I v283)] [] M0 Q := by
    refine lp_ind ?_
    intro k330 ih330 v283 hk330 h284 h285
    refine wk_il2 r149_2 (wk_al0 r149_3 (wk_getfr r149_4 fd_174_0 (br_174_0 hP0) (wk_getfb r149_7 fd_176_10 (bf_176_10 hP0) ?_)))
    intro v286 h288 h289 e287
    refine wk_icge r149_10 ⟨by omega, by omega⟩ ⟨by omega, by omega⟩ ?_ ?_
    · intro h290
      refine wk_c1 r149_49 ?_
      subst hQ; exact wk_iret r149_50 (⟨rfl, _, rfl, hP0, hF0, by omega, by omega⟩)
    · intro h291
      refine wk_al1 r149_13 (wk_il2 r149_14 (wk_laldb r149_15 (arF_606 (by omega) (by omega)) ⟨by omega, by omega⟩ (fun q0 q1 => ⟨(b4_606 hP0 (by omega) (by omega) q0 q1).1, (b4_606 hP0 (by omega) (by omega) q0 q1).2.1⟩) (by decide) ?_))
      intro n292 h294 h295 e293
      have h296 : v283 = 4 → n292 ≤ 17592186044415 := by have := b4_606 hP0 (a := 606) (i := v283) (by omega) (by omega) (by omega) (by omega); omega
      refine wk_c6 r149_16 ?_
      refine wk_lcmp r149_17 (by omega) (by omega) ?_ ?_
      · intro h297
        refine wk_ifeq r149_18 (by decide) ?_ ?_
        · intro h303
          refine wk_inc2 r149_43 rfl (wk_goto r149_46 ?_)
          exact wp_fg (le_s (le_s (le_s le_0))) (ih330 (5 - (v283 + 1)).toNat (by omega) (v283 + 1) rfl (by omega) (by omega))
        · intro h304
          exfalso
          omega
      · intro h298 v302 h299 h300 h301
        refine wk_ifeq r149_18 ⟨by omega, by omega⟩ ?_ ?_
        · intro h305
          exfalso
          omega
        · intro h306
          refine wk_c2 r149_21 (wk_il2 r149_23 (wk_imul r149_24 (wk_al1 r149_25 (wk_il2 r149_26 (wk_lald r149_27 (arF_606 (by omega) (by omega)) ⟨by omega, by omega⟩ e293 (wk_c7 r149_28 (wk_lxor r149_31 ?_)))))))
          intro n308 h309 h310
          refine wk_al1 r149_32 (wk_il2 r149_33 (wk_lald r149_34 (arF_606 (by omega) (by omega)) ⟨by omega, by omega⟩ e293 (wk_c6 r149_35 (wk_lsubb r149_36 (by omega) ?_))))
          intro n312 h314 h313
          refine wk_land r149_37 ?_
          intro n315 h316 h317 h318 h319
          refine wk_cs102_1 r149_38 rfl (m245 _ M0 n315 hP0 (by omega)) (cqI ?_)
          rintro v325 M320 ⟨hP321, hQ322, h326, h327, xh324⟩
          obtain rfl := Fr.same hQ322
          have h328 := tz_b (by omega) (by omega) h310 h313 h319
          have h329 : 64 * v283 + v325 ≤ 299 := by omega
          refine wk_iadd r149_41 ?_
          subst hQ; exact wk_iret r149_42 (⟨rfl, _, rfl, hP0, hF0, by omega, by omega⟩)
  exact wp_fg (le_s (le_s (le_s le_0))) (c2_330 _ 0 rfl (by omega) (by omega))
def fm_m150_174_f609 : Nat := 16333553612205046246241981156724874149888
/-- IslandHall$Crowd.tellsAtMost -/
theorem m150_174_f609 {B : eB} (d : Nat) (M0 : Mm) (a1 : Int) (p2 : Int) (hP0 : Pw M0) (ha1 : 609 ≤ a1) (hb1 : a1 ≤ 612) (l2 : 1 ≤ p2) (u2 : p2 ≤ 1) : Ct B (d + 3) 150 [R 174, R a1, I p2] M0 (qI fun z M => Pw M ∧ Fr fm_m150_174_f609 M0 M ∧ 0 ≤ z ∧ z ≤ 1) := by
  refine ct_of (d := d + 2) (k := 4) (L := [some (R 174), some (R a1), some (I p2), none, none, none, none]) rfl rfl rfl ?_
  have hF0 := Fr.rf fm_m150_174_f609 M0
  generalize hQ : (qI fun z M => Pw M ∧ Fr fm_m150_174_f609 M0 M ∧ 0 ≤ z ∧ z ≤ 1) = Q
  refine wk_al1 r150_0 (wk_c1 r150_1 (wk_al0 r150_2 (wk_getfr r150_3 fd_174_5 (br_174_5 hP0) (wk_c1 r150_6 (wk_al0 r150_7 (wk_getfi r150_8 fd_174_1 (br_174_1 hP0) (wk_copy110 r150_11 (arF_609 (by omega) (by omega)) (arF_606 (by omega) (by omega)) ⟨by decide, by decide, by decide, by omega, by omega, by omega⟩ rfl (wk_nc (fun i => t4_606 rfl rfl (by omega) (by omega) i) hP0 hF0 (fun i h0 h1 => by have := b4_609 hP0 (a := a1) (by omega) (by omega) h0 (by omega); exact (u4_606 (by omega) (by omega) ⟨by omega, by omega, by omega⟩)) ?_))))))))
  intro M1 hP2 hF3 e4
  refine wk_c1 r150_14 (wk_is3 r150_15 rfl ?_)
  have c16_322 : ∀ (k322 : Nat) (M261 : Mm) (v258 : Int), (1 - v258).toNat = k322 → Pw M261 → Fr fm_m150_174_f609 M0 M261 → 0 ≤ v258 → v258 ≤ 1 → Wp B (d + 2) 150 16 [some (R 174), none, some (I p2), some (I v258), none, none, none] [] M261 Q := by
    refine lp_ind ?_
    intro k322 ih322 M261 v258 hk322 hP262 hF263 h259 h260
    refine wk_il3 r150_16 (wk_il2 r150_17 ?_)
    refine wk_icge r150_18 ⟨by omega, by omega⟩ ⟨by omega, by omega⟩ ?_ ?_
    · intro h264
      refine wk_al0 r150_99 (wk_al0 r150_100 (wk_getfr r150_101 fd_174_5 (br_174_5 hP262) (wk_cv2 r150_104 kc_174_149 rfl (m149_174_606 _ M261 hP262) (cqI ?_))))
      rintro v269 M265 ⟨hP266, hQ267, h270, h271⟩
      obtain rfl := Fr.same hQ267
      refine wk_c1 r150_107 ?_
      refine wk_icne r150_108 ⟨by omega, by omega⟩ (by decide) ?_ ?_
      · intro h272
        refine wk_c1 r150_115 ?_
        subst hQ; exact wk_zret r150_116 (by decide) (⟨rfl, _, rfl, hP262, hF263, by omega, by omega⟩)
      · intro h273
        refine wk_c1 r150_111 (wk_goto r150_112 ?_)
        subst hQ; exact wk_zret r150_116 (by decide) (⟨rfl, _, rfl, hP262, hF263, by omega, by omega⟩)
    · intro h274
      refine wk_al0 r150_21 (wk_al0 r150_22 (wk_getfr r150_23 fd_174_5 (br_174_5 hP262) (wk_cv2 r150_26 kc_174_149 rfl (m149_174_606 _ M261 hP262) (cqI ?_))))
      rintro v279 M275 ⟨hP276, hQ277, h280, h281⟩
      obtain rfl := Fr.same hQ277
      refine wk_is4 r150_29 rfl (wk_il4 r150_31 (wk_c1 r150_33 ?_))
      refine wk_icne r150_34 ⟨by omega, by omega⟩ (by decide) ?_ ?_
      · intro h282
        refine wk_al0 r150_39 (wk_getfr r150_40 fd_174_3 (br_174_3 hP262) (wk_al0 r150_43 (wk_getfr r150_44 fd_174_2 (br_174_2 hP262) (wk_il4 r150_47 (wk_ialdb r150_49 ar_304 ⟨by omega, by omega⟩ (fun q0 q1 => ba_304 hP262 q0 q1) ?_)))))
        intro v283 h285 h286 e284
        refine wk_raldb r150_50 ar_305 ⟨by omega, by omega⟩ (fun q0 q1 => ba_305 hP262 q0 q1) (wk_as5 r150_51 rfl (wk_c1 r150_53 (wk_is6 r150_54 rfl ?_)))
        have c56_320 : ∀ (k320 : Nat) (M290 : Mm) (v287 : Int), (5 - v287).toNat = k320 → Pw M290 → Fr fm_m150_174_f609 M0 M290 → 0 ≤ v287 → v287 ≤ 5 → Wp B (d + 2) 150 56 [some (R 174), none, some (I p2), some (I v258), none, some (R (306 + v283)), some (I v287)] [] M290 Q := by
          refine lp_ind ?_
          intro k320 ih320 M290 v287 hk320 hP291 hF292 h288 h289
          refine wk_il6 r150_56 (wk_al0 r150_58 (wk_getfr r150_59 fd_174_0 (br_174_0 hP291) (wk_getfb r150_62 fd_176_10 (bf_176_10 hP291) ?_)))
          intro v293 h295 h296 e294
          refine wk_icge r150_65 ⟨by omega, by omega⟩ ⟨by omega, by omega⟩ ?_ ?_
          · intro h297
            refine wk_inc3 r150_93 rfl (wk_goto r150_96 ?_)
            exact wp_fg (le_s (le_s (le_s (le_s (le_s (le_n (le_n le_0))))))) (ih322 (1 - (v258 + 1)).toNat (by omega) M290 (v258 + 1) rfl hP291 hF292 (by omega) (by omega))
          · intro h298
            refine wk_al0 r150_68 (wk_getfr r150_69 fd_174_5 (br_174_5 hP291) (wk_il6 r150_72 (wk_dup2 r150_74 (wk_laldb r150_75 (arF_606 (by omega) (by omega)) ⟨by omega, by omega⟩ (fun q0 q1 => ⟨(b4_606 hP291 (by omega) (by omega) q0 q1).1, (b4_606 hP291 (by omega) (by omega) q0 q1).2.1⟩) (by decide) ?_))))
            intro n299 h301 h302 e300
            have h303 : v287 = 4 → n299 ≤ 17592186044415 := by have := b4_606 hP291 (a := 606) (i := v287) (by omega) (by omega) (by omega) (by omega); omega
            refine wk_al5 r150_76 (wk_il6 r150_78 (wk_laldb r150_80 (arF_306 (by omega) (by omega)) ⟨by omega, by omega⟩ (fun q0 q1 => baF_306 hP291 (by omega) (by omega) q0 q1) (by decide) ?_))
            intro n304 h306 h307 e305
            refine wk_c7 r150_81 (wk_lxor r150_84 ?_)
            intro n308 h309 h310
            refine wk_land r150_85 ?_
            intro n311 h312 h313 h314 h315
            refine wk_last r150_86 (arF_606 (by omega) (by omega)) ⟨by omega, by omega⟩ (wk_nwt (t4_606 rfl rfl (by omega) (by omega) _) hP291 hF292 (u4_606 (by omega) (by omega) ⟨by omega, by omega, by omega⟩) ?_)
            intro M316 hP317 hF318 e319
            refine wk_inc6 r150_87 rfl (wk_goto r150_90 ?_)
            exact wp_fg (le_s (le_s (le_s (le_s (le_s (le_s (le_s le_0))))))) (ih320 (5 - (v287 + 1)).toNat (by omega) M316 (v287 + 1) rfl hP317 hF318 (by omega) (by omega))
        exact wp_fg (le_s (le_s (le_s (le_s (le_n (le_s (le_s le_0))))))) (c56_320 _ M261 0 rfl hP262 hF263 (by omega) (by omega))
      · intro h321
        refine wk_c1 r150_37 ?_
        subst hQ; exact wk_zret r150_38 (by decide) (⟨rfl, _, rfl, hP262, hF263, by omega, by omega⟩)
  exact wp_fg (le_s (le_n (le_s (le_s (le_s (le_s (le_s le_0))))))) (c16_322 _ M1 0 rfl hP2 hF3 (by omega) (by omega))
def fm_m150_174_f609v1 : Nat := 16333553612205046246241981156724874149888
/-- IslandHall$Crowd.tellsAtMost -/
theorem m150_174_f609v1 {B : eB} (d : Nat) (M0 : Mm) (a1 : Int) (p2 : Int) (hP0 : Pw M0) (ha1 : 609 ≤ a1) (hb1 : a1 ≤ 612) (l2 : 1 ≤ p2) (u2 : p2 ≤ 2) : Ct B (d + 3) 150 [R 174, R a1, I p2] M0 (qI fun z M => Pw M ∧ Fr fm_m150_174_f609v1 M0 M ∧ 0 ≤ z ∧ z ≤ 1) := by
  refine ct_of (d := d + 2) (k := 4) (L := [some (R 174), some (R a1), some (I p2), none, none, none, none]) rfl rfl rfl ?_
  have hF0 := Fr.rf fm_m150_174_f609v1 M0
  generalize hQ : (qI fun z M => Pw M ∧ Fr fm_m150_174_f609v1 M0 M ∧ 0 ≤ z ∧ z ≤ 1) = Q
  refine wk_al1 r150_0 (wk_c1 r150_1 (wk_al0 r150_2 (wk_getfr r150_3 fd_174_5 (br_174_5 hP0) (wk_c1 r150_6 (wk_al0 r150_7 (wk_getfi r150_8 fd_174_1 (br_174_1 hP0) (wk_copy110 r150_11 (arF_609 (by omega) (by omega)) (arF_606 (by omega) (by omega)) ⟨by decide, by decide, by decide, by omega, by omega, by omega⟩ rfl (wk_nc (fun i => t4_606 rfl rfl (by omega) (by omega) i) hP0 hF0 (fun i h0 h1 => by have := b4_609 hP0 (a := a1) (by omega) (by omega) h0 (by omega); exact (u4_606 (by omega) (by omega) ⟨by omega, by omega, by omega⟩)) ?_))))))))
  intro M1 hP2 hF3 e4
  refine wk_c1 r150_14 (wk_is3 r150_15 rfl ?_)
  have c16_386 : ∀ (k386 : Nat) (M325 : Mm) (v322 : Int), (2 - v322).toNat = k386 → Pw M325 → Fr fm_m150_174_f609v1 M0 M325 → 0 ≤ v322 → v322 ≤ 2 → Wp B (d + 2) 150 16 [some (R 174), none, some (I p2), some (I v322), none, none, none] [] M325 Q := by
    refine lp_ind ?_
    intro k386 ih386 M325 v322 hk386 hP326 hF327 h323 h324
    refine wk_il3 r150_16 (wk_il2 r150_17 ?_)
    refine wk_icge r150_18 ⟨by omega, by omega⟩ ⟨by omega, by omega⟩ ?_ ?_
    · intro h328
      refine wk_al0 r150_99 (wk_al0 r150_100 (wk_getfr r150_101 fd_174_5 (br_174_5 hP326) (wk_cv2 r150_104 kc_174_149 rfl (m149_174_606 _ M325 hP326) (cqI ?_))))
      rintro v333 M329 ⟨hP330, hQ331, h334, h335⟩
      obtain rfl := Fr.same hQ331
      refine wk_c1 r150_107 ?_
      refine wk_icne r150_108 ⟨by omega, by omega⟩ (by decide) ?_ ?_
      · intro h336
        refine wk_c1 r150_115 ?_
        subst hQ; exact wk_zret r150_116 (by decide) (⟨rfl, _, rfl, hP326, hF327, by omega, by omega⟩)
      · intro h337
        refine wk_c1 r150_111 (wk_goto r150_112 ?_)
        subst hQ; exact wk_zret r150_116 (by decide) (⟨rfl, _, rfl, hP326, hF327, by omega, by omega⟩)
    · intro h338
      refine wk_al0 r150_21 (wk_al0 r150_22 (wk_getfr r150_23 fd_174_5 (br_174_5 hP326) (wk_cv2 r150_26 kc_174_149 rfl (m149_174_606 _ M325 hP326) (cqI ?_))))
      rintro v343 M339 ⟨hP340, hQ341, h344, h345⟩
      obtain rfl := Fr.same hQ341
      refine wk_is4 r150_29 rfl (wk_il4 r150_31 (wk_c1 r150_33 ?_))
      refine wk_icne r150_34 ⟨by omega, by omega⟩ (by decide) ?_ ?_
      · intro h346
        refine wk_al0 r150_39 (wk_getfr r150_40 fd_174_3 (br_174_3 hP326) (wk_al0 r150_43 (wk_getfr r150_44 fd_174_2 (br_174_2 hP326) (wk_il4 r150_47 (wk_ialdb r150_49 ar_304 ⟨by omega, by omega⟩ (fun q0 q1 => ba_304 hP326 q0 q1) ?_)))))
        intro v347 h349 h350 e348
        refine wk_raldb r150_50 ar_305 ⟨by omega, by omega⟩ (fun q0 q1 => ba_305 hP326 q0 q1) (wk_as5 r150_51 rfl (wk_c1 r150_53 (wk_is6 r150_54 rfl ?_)))
        have c56_384 : ∀ (k384 : Nat) (M354 : Mm) (v351 : Int), (5 - v351).toNat = k384 → Pw M354 → Fr fm_m150_174_f609v1 M0 M354 → 0 ≤ v351 → v351 ≤ 5 → Wp B (d + 2) 150 56 [some (R 174), none, some (I p2), some (I v322), none, some (R (306 + v347)), some (I v351)] [] M354 Q := by
          refine lp_ind ?_
          intro k384 ih384 M354 v351 hk384 hP355 hF356 h352 h353
          refine wk_il6 r150_56 (wk_al0 r150_58 (wk_getfr r150_59 fd_174_0 (br_174_0 hP355) (wk_getfb r150_62 fd_176_10 (bf_176_10 hP355) ?_)))
          intro v357 h359 h360 e358
          refine wk_icge r150_65 ⟨by omega, by omega⟩ ⟨by omega, by omega⟩ ?_ ?_
          · intro h361
            refine wk_inc3 r150_93 rfl (wk_goto r150_96 ?_)
            exact wp_fg (le_s (le_s (le_s (le_s (le_s (le_n (le_n le_0))))))) (ih386 (2 - (v322 + 1)).toNat (by omega) M354 (v322 + 1) rfl hP355 hF356 (by omega) (by omega))
          · intro h362
            refine wk_al0 r150_68 (wk_getfr r150_69 fd_174_5 (br_174_5 hP355) (wk_il6 r150_72 (wk_dup2 r150_74 (wk_laldb r150_75 (arF_606 (by omega) (by omega)) ⟨by omega, by omega⟩ (fun q0 q1 => ⟨(b4_606 hP355 (by omega) (by omega) q0 q1).1, (b4_606 hP355 (by omega) (by omega) q0 q1).2.1⟩) (by decide) ?_))))
            intro n363 h365 h366 e364
            have h367 : v351 = 4 → n363 ≤ 17592186044415 := by have := b4_606 hP355 (a := 606) (i := v351) (by omega) (by omega) (by omega) (by omega); omega
            refine wk_al5 r150_76 (wk_il6 r150_78 (wk_laldb r150_80 (arF_306 (by omega) (by omega)) ⟨by omega, by omega⟩ (fun q0 q1 => baF_306 hP355 (by omega) (by omega) q0 q1) (by decide) ?_))
            intro n368 h370 h371 e369
            refine wk_c7 r150_81 (wk_lxor r150_84 ?_)
            intro n372 h373 h374
            refine wk_land r150_85 ?_
            intro n375 h376 h377 h378 h379
            refine wk_last r150_86 (arF_606 (by omega) (by omega)) ⟨by omega, by omega⟩ (wk_nwt (t4_606 rfl rfl (by omega) (by omega) _) hP355 hF356 (u4_606 (by omega) (by omega) ⟨by omega, by omega, by omega⟩) ?_)
            intro M380 hP381 hF382 e383
            refine wk_inc6 r150_87 rfl (wk_goto r150_90 ?_)
            exact wp_fg (le_s (le_s (le_s (le_s (le_s (le_s (le_s le_0))))))) (ih384 (5 - (v351 + 1)).toNat (by omega) M380 (v351 + 1) rfl hP381 hF382 (by omega) (by omega))
        exact wp_fg (le_s (le_s (le_s (le_s (le_n (le_s (le_s le_0))))))) (c56_384 _ M325 0 rfl hP326 hF327 (by omega) (by omega))
      · intro h385
        refine wk_c1 r150_37 ?_
        subst hQ; exact wk_zret r150_38 (by decide) (⟨rfl, _, rfl, hP326, hF327, by omega, by omega⟩)
  exact wp_fg (le_s (le_n (le_s (le_s (le_s (le_s (le_s le_0))))))) (c16_386 _ M1 0 rfl hP2 hF3 (by omega) (by omega))
def fm_m190_176 : Nat := 0
/-- IslandHall$Realm.freeRow -/
theorem m190_176 {B : eB} (d : Nat) (M0 : Mm) (p1 : Int) (hP0 : Pw M0) (l1 : 0 ≤ p1) (u1 : p1 ≤ 6) : Ct B (d + 1) 190 [R 176, I p1] M0 (qR fun z M => Pw M ∧ Fr fm_m190_176 M0 M ∧ 187 ≤ z ∧ z ≤ 217) := by
  refine ct_of (d := d + 0) (k := 0) (L := [some (R 176), some (I p1)]) rfl rfl rfl ?_
  have hF0 := Fr.rf fm_m190_176 M0
  generalize hQ : (qR fun z M => Pw M ∧ Fr fm_m190_176 M0 M ∧ 187 ≤ z ∧ z ≤ 217) = Q
  refine wk_al0 r190_0 (wk_getfr r190_1 fd_176_0 (br_176_0 hP0) (wk_c1 r190_4 (wk_il1 r190_5 (wk_c1 r190_6 (wk_imul r190_7 (wk_iadd r190_8 (wk_c1 r190_9 (wk_iadd r190_10 (wk_raldb r190_11 ar_182 ⟨by omega, by omega⟩ (fun q0 q1 => ba_182 hP0 q0 q1) ?_)))))))))
  subst hQ; exact wk_aret r190_12 (⟨rfl, _, rfl, hP0, hF0, by omega, by omega⟩)
def fm_m208_176 : Nat := 0
/-- IslandHall$Realm.yesRow -/
theorem m208_176 {B : eB} (d : Nat) (M0 : Mm) (p1 : Int) (hP0 : Pw M0) (l1 : (-1) ≤ p1) (u1 : p1 ≤ (-1)) : Ct B (d + 1) 208 [R 176, I p1] M0 (qR fun z M => Pw M ∧ Fr fm_m208_176 M0 M ∧ 301 ≤ z ∧ z ≤ 301) := by
  refine ct_of (d := d + 0) (k := 0) (L := [some (R 176), some (I p1)]) rfl rfl rfl ?_
  have hF0 := Fr.rf fm_m208_176 M0
  generalize hQ : (qR fun z M => Pw M ∧ Fr fm_m208_176 M0 M ∧ 301 ≤ z ∧ z ≤ 301) = Q
  refine wk_al0 r208_0 (wk_getfr r208_1 fd_176_0 (br_176_0 hP0) (wk_il1 r208_4 (wk_c1 r208_5 ?_)))
  refine wk_icne r208_6 ⟨by omega, by omega⟩ (by decide) ?_ ?_
  · intro h1
    exfalso
    omega
  · intro h2
    refine wk_c2 r208_9 (wk_goto r208_11 (wk_raldb r208_18 ar_182 (by decide) (fun q0 q1 => ba_182 hP0 q0 q1) ?_))
    subst hQ; exact wk_aret r208_19 (⟨rfl, _, rfl, hP0, hF0, by omega, by omega⟩)
def fm_m193_176 : Nat := 0
/-- IslandHall$Realm.honestRow -/
theorem m193_176 {B : eB} (d : Nat) (M0 : Mm) (p1 : Int) (hP0 : Pw M0) (l1 : 0 ≤ p1) (u1 : p1 ≤ 6) : Ct B (d + 1) 193 [R 176, I p1] M0 (qR fun z M => Pw M ∧ Fr fm_m193_176 M0 M ∧ 271 ≤ z ∧ z ≤ 284) := by
  refine ct_of (d := d + 0) (k := 0) (L := [some (R 176), some (I p1)]) rfl rfl rfl ?_
  have hF0 := Fr.rf fm_m193_176 M0
  generalize hQ : (qR fun z M => Pw M ∧ Fr fm_m193_176 M0 M ∧ 271 ≤ z ∧ z ≤ 284) = Q
  refine wk_al0 r193_0 (wk_getfr r193_1 fd_176_0 (br_176_0 hP0) (wk_c2 r193_4 (wk_c1 r193_6 (wk_il1 r193_7 (wk_imul r193_8 (wk_iadd r193_9 (wk_al0 r193_10 (wk_getfr r193_11 fd_176_3 (br_176_3 hP0) (wk_il1 r193_14 (wk_ialdb r193_15 ar_177 ⟨by omega, by omega⟩ (fun q0 q1 => ba_177 hP0 q0 q1) ?_))))))))))
  intro v1 h3 h4 e2
  refine wk_iadd r193_16 (wk_raldb r193_17 ar_182 ⟨by omega, by omega⟩ (fun q0 q1 => ba_182 hP0 q0 q1) ?_)
  subst hQ; exact wk_aret r193_18 (⟨rfl, _, rfl, hP0, hF0, by omega, by omega⟩)
def fm_m185_176v4 : Nat := 0
/-- IslandHall$Realm.alike -/
theorem m185_176v4 {B : eB} (d : Nat) (M0 : Mm) (p1 : Int) (p2 : Int) (hP0 : Pw M0) (l1 : 0 ≤ p1) (u1 : p1 ≤ 54) (l2 : 0 ≤ p2) (u2 : p2 ≤ 4) (xp0 : p1 % 8 ≤ 6) : Ct B (d + 1) 185 [R 176, I p1, I p2] M0 (qL fun z M => Pw M ∧ Fr fm_m185_176v4 M0 M ∧ z < 18446744073709551616) := by
  refine ct_of (d := d + 0) (k := 5) (L := [some (R 176), some (I p1), some (I p2), none, none, none, none, none]) rfl rfl rfl ?_
  have hF0 := Fr.rf fm_m185_176v4 M0
  generalize hQ : (qL fun z M => Pw M ∧ Fr fm_m185_176v4 M0 M ∧ z < 18446744073709551616) = Q
  refine wk_c1 r185_0 (wk_il1 r185_1 (wk_c1 r185_2 (wk_ishrc r185_3 ⟨by omega, by omega⟩ (by decide) pwl_3 (wk_c1 r185_4 (wk_imul r185_5 (wk_iadd r185_6 (wk_is3 r185_7 rfl (wk_c1 r185_8 (wk_il1 r185_9 (wk_c2 r185_10 (wk_iandc 3 8 r185_12 ⟨rfl, by decide⟩ rfl (wk_c1 r185_13 (wk_imul r185_14 (wk_iadd r185_15 (wk_is4 r185_16 rfl (wk_c6 r185_18 (wk_ls5 r185_19 rfl (wk_c1 r185_21 (wk_is7 r185_22 rfl ?_)))))))))))))))))))
  have c24_170 : ∀ (k170 : Nat) (n146 : Nat) (v148 : Int), (5 - v148).toNat = k170 → n146 < 18446744073709551616 → 0 ≤ v148 → v148 ≤ 5 → Wp B (d + 0) 185 24 [some (R 176), none, some (I p2), some (I (0 + ((p1 / 8) * 5))), some (I (0 + ((p1 % 8) * 5))), some (J n146), none, some (I v148)] [] M0 Q := by
    refine lp_ind ?_
    intro k170 ih170 n146 v148 hk170 h147 h149 h150
    refine wk_il7 r185_24 (wk_c1 r185_26 ?_)
    refine wk_icge r185_27 ⟨by omega, by omega⟩ (by decide) ?_ ?_
    · intro h151
      refine wk_ll5 r185_65 ?_
      subst hQ; exact wk_lret r185_67 (⟨rfl, _, rfl, hP0, hF0, by omega⟩)
    · intro h152
      refine wk_ll5 r185_30 (wk_al0 r185_32 (wk_getfr r185_33 fd_176_0 (br_176_0 hP0) (wk_il3 r185_36 (wk_il7 r185_37 (wk_iadd r185_39 (wk_raldb r185_40 ar_182 ⟨by omega, by omega⟩ (fun q0 q1 => ba_182 hP0 q0 q1) (wk_il2 r185_41 (wk_laldb r185_42 (arF_183 (by omega) (by omega)) ⟨by omega, by omega⟩ (fun q0 q1 => baF_183 hP0 (by omega) (by omega) q0 q1) (by decide) ?_))))))))
      intro n153 h155 h156 e154
      refine wk_al0 r185_43 (wk_getfr r185_44 fd_176_0 (br_176_0 hP0) (wk_il4 r185_47 (wk_il7 r185_49 (wk_iadd r185_51 (wk_raldb r185_52 ar_182 ⟨by omega, by omega⟩ (fun q0 q1 => ba_182 hP0 q0 q1) (wk_il2 r185_53 (wk_laldb r185_54 (arF_183 (by omega) (by omega)) ⟨by omega, by omega⟩ (fun q0 q1 => baF_183 hP0 (by omega) (by omega) q0 q1) (by decide) ?_)))))))
      intro n157 h159 h160 e158
      refine wk_land r185_55 ?_
      intro n161 h162 h163 h164 h165
      refine wk_lorb r185_56 ?_
      intro n166 h167 h168 h169
      refine wk_ls5 r185_57 rfl (wk_inc7 r185_59 rfl (wk_goto r185_62 ?_))
      exact wp_fg (le_s (le_s (le_s (le_s (le_s (le_s (le_s (le_s le_0)))))))) (ih170 (5 - (v148 + 1)).toNat (by omega) n166 (v148 + 1) rfl (by omega) (by omega) (by omega))
  exact wp_fg (le_s (le_n (le_s (le_s (le_s (le_s (le_s (le_s le_0)))))))) (c24_170 _ 0 0 rfl (by omega) (by omega) (by omega))
def fm_m198_176v4 : Nat := 0
/-- IslandHall$Realm.many -/
theorem m198_176v4 {B : eB} (d : Nat) (M0 : Mm) (p1 : Int) (p2 : Int) (hP0 : Pw M0) (l1 : 0 ≤ p1) (u1 : p1 ≤ 1279) (l2 : 0 ≤ p2) (u2 : p2 ≤ 4) : Ct B (d + 1) 198 [R 176, I p1, I p2] M0 (qL fun z M => Pw M ∧ Fr fm_m198_176v4 M0 M ∧ z < 18446744073709551616) := by
  refine ct_of (d := d + 0) (k := 4) (L := [some (R 176), some (I p1), some (I p2), none, none, none, none]) rfl rfl rfl ?_
  have hF0 := Fr.rf fm_m198_176v4 M0
  generalize hQ : (qL fun z M => Pw M ∧ Fr fm_m198_176v4 M0 M ∧ z < 18446744073709551616) = Q
  refine wk_c2 r198_0 (wk_il1 r198_2 (wk_c2 r198_3 (wk_ishrc r198_5 ⟨by omega, by omega⟩ (by decide) pwl_8 (wk_c2 r198_6 (wk_imul r198_8 (wk_iadd r198_9 (wk_is3 r198_10 rfl (wk_c6 r198_11 (wk_ls4 r198_12 rfl (wk_c1 r198_14 (wk_is6 r198_15 rfl ?_)))))))))))
  have c17_178 : ∀ (k178 : Nat) (n156 : Nat) (v158 : Int), (8 - v158).toNat = k178 → n156 < 18446744073709551616 → 0 ≤ v158 → v158 ≤ 8 → Wp B (d + 0) 198 17 [some (R 176), some (I p1), some (I p2), some (I (48 + ((p1 / 256) * 8))), some (J n156), none, some (I v158)] [] M0 Q := by
    refine lp_ind ?_
    intro k178 ih178 n156 v158 hk178 h157 h159 h160
    refine wk_il6 r198_17 (wk_c2 r198_19 ?_)
    refine wk_icgt r198_21 ⟨by omega, by omega⟩ (by decide) ?_ ?_
    · intro h161
      refine wk_ll4 r198_56 ?_
      subst hQ; exact wk_lret r198_58 (⟨rfl, _, rfl, hP0, hF0, by omega⟩)
    · intro h162
      refine wk_il1 r198_24 (wk_il6 r198_25 (wk_shrb r198_27 ⟨by omega, by omega⟩ ⟨by omega, by omega⟩ ?_))
      intro v163 h164 h165 h166
      refine wk_c1 r198_28 (wk_iandc 1 2 r198_29 ⟨rfl, by decide⟩ rfl (wk_c1 r198_30 ?_))
      refine wk_icne r198_31 ⟨by omega, by omega⟩ (by decide) ?_ ?_
      · intro h168
        refine wk_inc6 r198_50 rfl (wk_goto r198_53 ?_)
        exact wp_fg (le_s (le_s (le_s (le_s (le_s (le_s (le_s le_0))))))) (ih178 (8 - (v158 + 1)).toNat (by omega) n156 (v158 + 1) rfl (by omega) (by omega) (by omega))
      · intro h169
        refine wk_ll4 r198_34 (wk_al0 r198_36 (wk_getfr r198_37 fd_176_0 (br_176_0 hP0) (wk_il3 r198_40 (wk_il6 r198_41 (wk_iadd r198_43 (wk_raldb r198_44 ar_182 ⟨by omega, by omega⟩ (fun q0 q1 => ba_182 hP0 q0 q1) (wk_il2 r198_45 (wk_laldb r198_46 (arF_183 (by omega) (by omega)) ⟨by omega, by omega⟩ (fun q0 q1 => baF_183 hP0 (by omega) (by omega) q0 q1) (by decide) ?_))))))))
        intro n170 h172 h173 e171
        refine wk_lorb r198_47 ?_
        intro n174 h175 h176 h177
        refine wk_ls4 r198_48 rfl (wk_inc6 r198_50 rfl (wk_goto r198_53 ?_))
        exact wp_fg (le_s (le_s (le_s (le_s (le_s (le_s (le_s le_0))))))) (ih178 (8 - (v158 + 1)).toNat (by omega) n174 (v158 + 1) rfl (by omega) (by omega) (by omega))
  exact wp_fg (le_s (le_s (le_s (le_s (le_s (le_s (le_s le_0))))))) (c17_178 _ 0 0 rfl (by omega) (by omega) (by omega))
def fm_m189_176v4 : Nat := 0
/-- IslandHall$Realm.fits -/
theorem m189_176v4 {B : eB} (d : Nat) (M0 : Mm) (p1 : Int) (p2 : Int) (p3 : Nat) (p4 : Int) (hP0 : Pw M0) (l1 : 0 ≤ p1) (u1 : p1 ≤ 6) (l2 : (-1) ≤ p2) (u2 : p2 ≤ (-1)) (l3 : p3 < 18446744073709551616) (l4 : 0 ≤ p4) (u4 : p4 ≤ 4) : Ct B (d + 2) 189 [R 176, I p1, I p2, J p3, I p4] M0 (qL fun z M => Pw M ∧ Fr fm_m189_176v4 M0 M ∧ z < 18446744073709551616) := by
  refine ct_of (d := d + 1) (k := 0) (L := [some (R 176), some (I p1), some (I p2), some (J p3), none, some (I p4)]) rfl rfl rfl ?_
  have hF0 := Fr.rf fm_m189_176v4 M0
  generalize hQ : (qL fun z M => Pw M ∧ Fr fm_m189_176v4 M0 M ∧ z < 18446744073709551616) = Q
  refine wk_al0 r189_0 (wk_il1 r189_1 (wk_cv2 r189_2 kc_176_190 rfl (m190_176 _ M0 p1 hP0 (by omega) (by omega)) (cqR ?_)))
  rintro v5 M1 ⟨hP2, hQ3, h6, h7⟩
  obtain rfl := Fr.same hQ3
  refine wk_il5 r189_5 (wk_laldb r189_7 (arF_183 (by omega) (by omega)) ⟨by omega, by omega⟩ (fun q0 q1 => baF_183 hP0 (by omega) (by omega) q0 q1) (by decide) ?_)
  intro n8 h10 h11 e9
  refine wk_al0 r189_8 (wk_il2 r189_9 (wk_cv2 r189_10 kc_176_208 rfl (m208_176 _ M0 p2 hP0 (by omega) (by omega)) (cqR ?_)))
  rintro v16 M12 ⟨hP13, hQ14, h17, h18⟩
  obtain rfl : v16 = 301 := by omega
  obtain rfl := Fr.same hQ14
  refine wk_il5 r189_13 (wk_laldb r189_15 (arF_301 (by omega) (by omega)) ⟨by omega, by omega⟩ (fun q0 q1 => ⟨(b4_301 hP0 (by omega) (by omega) q0 q1).1, (b4_301 hP0 (by omega) (by omega) q0 q1).2.1⟩) (by decide) ?_)
  intro n19 h21 h22 e20
  have h23 : p4 = 4 → n19 ≤ 17592186044415 := by have := b4_301 hP0 (a := 301) (i := p4) (by omega) (by omega) (by omega) (by omega); omega
  refine wk_ll3 r189_16 (wk_lxor r189_17 ?_)
  intro n24 h25 h26
  refine wk_al0 r189_18 (wk_il1 r189_19 (wk_cv2 r189_20 kc_176_193 rfl (m193_176 _ M0 p1 hP0 (by omega) (by omega)) (cqR ?_)))
  rintro v31 M27 ⟨hP28, hQ29, h32, h33⟩
  obtain rfl := Fr.same hQ29
  refine wk_il5 r189_23 (wk_laldb r189_25 (arF_183 (by omega) (by omega)) ⟨by omega, by omega⟩ (fun q0 q1 => baF_183 hP0 (by omega) (by omega) q0 q1) (by decide) ?_)
  intro n34 h36 h37 e35
  refine wk_lxor r189_26 ?_
  intro n38 h39 h40
  refine wk_lorb r189_27 ?_
  intro n41 h42 h43 h44
  subst hQ; exact wk_lret r189_28 (⟨rfl, _, rfl, hP0, hF0, by omega⟩)
def fm_m207_176v4 : Nat := 83076749736557242056487941267521536
/-- IslandHall$Realm.truth -/
theorem m207_176v4 {B : eB} (d : Nat) (M0 : Mm) (c1 : Int) (p2 : Int) (hP0 : Pw M0) (hC1 : isC c1) (l2 : 0 ≤ p2) (u2 : p2 ≤ 4) : Ct B (d + 3) 207 [R 176, R c1, I p2] M0 (qL fun z M => Pw M ∧ Fr fm_m207_176v4 M0 M ∧ z < 18446744073709551616) := by
  refine ct_of (d := d + 2) (k := 7) (L := [some (R 176), some (R c1), some (I p2), none, none, none, none, none, none, none]) rfl rfl rfl ?_
  have hF0 := Fr.rf fm_m207_176v4 M0
  generalize hQ : (qL fun z M => Pw M ∧ Fr fm_m207_176v4 M0 M ∧ z < 18446744073709551616) = Q
  refine wk_c1 r207_0 (wk_is3 r207_1 rfl (wk_c1 r207_2 (wk_is4 r207_3 rfl ?_)))
  have c5_1700 : ∀ (k1700 : Nat) (M1524 : Mm) (v1518 : Int) (v1521 : Int), (256 - v1521).toNat = k1700 → Pw M1524 → Fr fm_m207_176v4 M0 M1524 → 0 ≤ v1518 → v1518 ≤ 31 → 0 ≤ v1521 → v1521 ≤ 256 → 0 ≤ (-1) * v1518 + v1521 + 0 → Wp B (d + 2) 207 5 [some (R 176), some (R c1), some (I p2), some (I v1518), some (I v1521), none, none, none, none, none] [] M1524 Q := by
    refine lp_ind ?_
    intro k1700 ih1700 M1524 v1518 v1521 hk1700 hP1525 hF1526 h1519 h1520 h1522 h1523 h1527
    refine wk_il4 r207_5 (wk_al1 r207_7 (wk_getfb r207_8 (fdC_1 hC1) (bC_1 hP1525 hC1) ?_))
    intro v1528 h1530 h1531 e1529
    refine wk_icge r207_11 ⟨by omega, by omega⟩ ⟨by omega, by omega⟩ ?_ ?_
    · intro h1532
      refine wk_al0 r207_255 (wk_getfr r207_256 fd_176_4 (br_176_4 hP1525) (wk_c1 r207_259 (wk_laldb r207_260 ar_178 (by decide) (fun q0 q1 => ba_178 hP1525 q0 q1) (by decide) ?_)))
      intro n1533 h1535 h1536 e1534
      subst hQ; exact wk_lret r207_261 (⟨rfl, _, rfl, hP1525, hF1526, by omega⟩)
    · intro h1537
      refine wk_il3 r207_14 (wk_c1 r207_15 (wk_iadd r207_16 (wk_c2 r207_17 ?_)))
      refine wk_icge r207_19 ⟨by omega, by omega⟩ (by decide) ?_ ?_
      · intro h1538
        refine wk_al0 r207_255 (wk_getfr r207_256 fd_176_4 (br_176_4 hP1525) (wk_c1 r207_259 (wk_laldb r207_260 ar_178 (by decide) (fun q0 q1 => ba_178 hP1525 q0 q1) (by decide) ?_)))
        intro n1539 h1541 h1542 e1540
        subst hQ; exact wk_lret r207_261 (⟨rfl, _, rfl, hP1525, hF1526, by omega⟩)
      · intro h1543
        refine wk_al1 r207_22 (wk_getfr r207_23 (fdC_0 hC1) (bC_0 hP1525 hC1) (wk_il4 r207_26 (wk_ialdb r207_28 (arC hC1) ⟨by omega, by omega⟩ (fun q0 q1 => baC hP1525 hC1 q0 q1) ?_)))
        intro v1544 h1546 h1547 e1545
        have h1548 := exC hP1525 hC1 (i := v1521) (by omega) (by omega); rw [e1545] at h1548; unfold stepok at h1548
        refine wk_c1 r207_29 (wk_ishrc r207_30 ⟨by omega, by omega⟩ (by decide) pwl_3 (wk_is5 r207_31 rfl (wk_al1 r207_33 (wk_getfr r207_34 (fdC_0 hC1) (bC_0 hP1525 hC1) (wk_il4 r207_37 (wk_iald r207_39 (arC hC1) ⟨by omega, by omega⟩ e1545 (wk_c2 r207_40 (wk_iandc 3 8 r207_42 ⟨rfl, by decide⟩ rfl (wk_is6 r207_43 rfl (wk_il6 r207_45 (wk_c1 r207_47 ?_)))))))))))
        refine wk_iceq r207_48 ⟨by omega, by omega⟩ (by decide) ?_ ?_
        · intro h1551
          refine wk_c1 r207_57 (wk_goto r207_58 (wk_is7 r207_62 rfl (wk_il6 r207_64 ?_)))
          refine wk_ifeq r207_66 ⟨by omega, by omega⟩ ?_ ?_
          · intro h1552
            exfalso
            omega
          · intro h1553
            refine wk_il6 r207_69 (wk_c1 r207_71 ?_)
            refine wk_iceq r207_72 ⟨by omega, by omega⟩ (by decide) ?_ ?_
            · intro h1554
              exfalso
              omega
            · intro h1555
              refine wk_il6 r207_75 (wk_c2 r207_77 ?_)
              refine wk_icne r207_79 ⟨by omega, by omega⟩ (by decide) ?_ ?_
              · intro h1556
                refine wk_il7 r207_134 ?_
                refine wk_ifeq r207_136 (by decide) ?_ ?_
                · intro h1557
                  exfalso
                  omega
                · intro h1558
                  refine wk_il3 r207_139 (wk_c1 r207_140 ?_)
                  refine wk_icle r207_141 ⟨by omega, by omega⟩ (by decide) ?_ ?_
                  · intro h1559
                    refine wk_il7 r207_197 ?_
                    refine wk_ifne r207_199 (by decide) ?_ ?_
                    · intro h1560
                      refine wk_inc4 r207_249 rfl (wk_goto r207_252 ?_)
                      exact wp_fg (le_s (le_s (le_s (le_s (le_s (le_n (le_n (le_n (le_s (le_s le_0)))))))))) (ih1700 (256 - (v1521 + 1)).toNat (by omega) M1524 v1518 (v1521 + 1) rfl hP1525 hF1526 (by omega) (by omega) (by omega) (by omega) (by omega))
                    · intro h1561
                      exfalso
                      omega
                  · intro h1562
                    refine wk_inc3 r207_144 rfl (wk_al0 r207_147 (wk_getfr r207_148 fd_176_4 (br_176_4 hP1525) (wk_il3 r207_151 (wk_laldb r207_152 ar_178 ⟨by omega, by omega⟩ (fun q0 q1 => ba_178 hP1525 q0 q1) (by decide) ?_))))
                    intro n1563 h1565 h1566 e1564
                    refine wk_ls8 r207_153 rfl (wk_al0 r207_155 (wk_getfr r207_156 fd_176_4 (br_176_4 hP1525) (wk_il3 r207_159 (wk_c1 r207_160 (wk_isub r207_161 (wk_il6 r207_162 (wk_c1 r207_164 ?_)))))))
                    refine wk_icne r207_165 ⟨by omega, by omega⟩ (by decide) ?_ ?_
                    · intro h1567
                      exfalso
                      omega
                    · intro h1568
                      refine wk_al0 r207_168 (wk_getfr r207_169 fd_176_4 (br_176_4 hP1525) (wk_il3 r207_172 (wk_c1 r207_173 (wk_isub r207_174 (wk_laldb r207_175 ar_178 ⟨by omega, by omega⟩ (fun q0 q1 => ba_178 hP1525 q0 q1) (by decide) ?_)))))
                      intro n1569 h1571 h1572 e1570
                      refine wk_ll8 r207_176 (wk_land r207_178 ?_)
                      intro n1573 h1574 h1575 h1576 h1577
                      refine wk_goto r207_179 (wk_last r207_193 ar_178 ⟨by omega, by omega⟩ (wk_nw (ga_178 _) rfl hP1525 hF1526 (ua_178 ⟨by omega, by omega⟩) ?_))
                      intro M1578 hP1579 hF1580 e1581
                      refine wk_goto r207_194 (wk_inc4 r207_249 rfl (wk_goto r207_252 ?_))
                      exact wp_fg (le_s (le_s (le_s (le_s (le_s (le_n (le_n (le_n (le_n (le_s le_0)))))))))) (ih1700 (256 - (v1521 + 1)).toNat (by omega) M1578 (v1518 + (-1)) (v1521 + 1) rfl hP1579 hF1580 (by omega) (by omega) (by omega) (by omega) (by omega))
              · intro h1582
                exfalso
                omega
        · intro h1583
          refine wk_il6 r207_51 (wk_c1 r207_53 ?_)
          refine wk_icne r207_54 ⟨by omega, by omega⟩ (by decide) ?_ ?_
          · intro h1584
            refine wk_c1 r207_61 (wk_is7 r207_62 rfl (wk_il6 r207_64 ?_))
            refine wk_ifeq r207_66 ⟨by omega, by omega⟩ ?_ ?_
            · intro h1585
              refine wk_al0 r207_82 (wk_getfr r207_83 fd_176_4 (br_176_4 hP1525) (wk_il3 r207_86 (wk_il6 r207_87 ?_)))
              refine wk_ifne r207_89 ⟨by omega, by omega⟩ ?_ ?_
              · intro h1586
                exfalso
                omega
              · intro h1587
                refine wk_al0 r207_92 (wk_getfr r207_93 fd_176_0 (br_176_0 hP1525) (wk_il5 r207_96 ?_))
                rcases Int.lt_or_le (v1544 / 8) 118 with h1588 | h1588
                · refine wk_raldb r207_98 ar_182 ⟨by omega, by omega⟩ (fun q0 q1 => ba_182 hP1525 q0 q1) (wk_il2 r207_99 (wk_laldb r207_100 (arF_183 (by omega) (by omega)) ⟨by omega, by omega⟩ (fun q0 q1 => baF_183 hP1525 (by omega) (by omega) q0 q1) (by decide) ?_))
                  intro n1589 h1591 h1592 e1590
                  refine wk_goto r207_101 (wk_last r207_127 ar_178 ⟨by omega, by omega⟩ (wk_nw (ga_178 _) rfl hP1525 hF1526 (ua_178 ⟨by omega, by omega⟩) ?_))
                  intro M1593 hP1594 hF1595 e1596
                  refine wk_inc3 r207_128 rfl (wk_goto r207_131 (wk_inc4 r207_249 rfl (wk_goto r207_252 ?_)))
                  exact wp_fg (le_s (le_s (le_s (le_s (le_s (le_n (le_n (le_n (le_s (le_s le_0)))))))))) (ih1700 (256 - (v1521 + 1)).toNat (by omega) M1593 (v1518 + 1) (v1521 + 1) rfl hP1594 hF1595 (by omega) (by omega) (by omega) (by omega) (by omega))
                · refine wk_raldb r207_98 ar_182 ⟨by omega, by omega⟩ (fun q0 q1 => ba_182 hP1525 q0 q1) (wk_il2 r207_99 (wk_laldb r207_100 (arF_301 (by omega) (by omega)) ⟨by omega, by omega⟩ (fun q0 q1 => ⟨(b4_301 hP1525 (by omega) (by omega) q0 q1).1, (b4_301 hP1525 (by omega) (by omega) q0 q1).2.1⟩) (by decide) ?_))
                  intro n1597 h1599 h1600 e1598
                  have h1601 : p2 = 4 → n1597 ≤ 17592186044415 := by have := b4_301 hP1525 (a := (183 + (v1544 / 8))) (i := p2) (by omega) (by omega) (by omega) (by omega); omega
                  refine wk_goto r207_101 (wk_last r207_127 ar_178 ⟨by omega, by omega⟩ (wk_nw (ga_178 _) rfl hP1525 hF1526 (ua_178 ⟨by omega, by omega⟩) ?_))
                  intro M1602 hP1603 hF1604 e1605
                  refine wk_inc3 r207_128 rfl (wk_goto r207_131 (wk_inc4 r207_249 rfl (wk_goto r207_252 ?_)))
                  exact wp_fg (le_s (le_s (le_s (le_s (le_s (le_n (le_n (le_n (le_s (le_s le_0)))))))))) (ih1700 (256 - (v1521 + 1)).toNat (by omega) M1602 (v1518 + 1) (v1521 + 1) rfl hP1603 hF1604 (by omega) (by omega) (by omega) (by omega) (by omega))
            · intro h1606
              refine wk_il6 r207_69 (wk_c1 r207_71 ?_)
              refine wk_iceq r207_72 ⟨by omega, by omega⟩ (by decide) ?_ ?_
              · intro h1607
                refine wk_al0 r207_82 (wk_getfr r207_83 fd_176_4 (br_176_4 hP1525) (wk_il3 r207_86 (wk_il6 r207_87 ?_)))
                refine wk_ifne r207_89 ⟨by omega, by omega⟩ ?_ ?_
                · intro h1608
                  refine wk_il6 r207_104 (wk_c1 r207_106 ?_)
                  refine wk_icne r207_107 ⟨by omega, by omega⟩ (by decide) ?_ ?_
                  · intro h1609
                    exfalso
                    omega
                  · intro h1610
                    refine wk_al0 r207_110 (wk_il5 r207_111 (wk_il2 r207_113 (wk_cv3 r207_114 kc_176_185 rfl (m185_176v4 _ M1524 (v1544 / 8) p2 hP1525 (by omega) (by omega) (by omega) (by omega) (by first | assumption | omega | (unfold stepok; omega))) (cqL ?_))))
                    rintro n1615 M1611 ⟨hP1612, hQ1613, h1616⟩
                    obtain rfl := Fr.same hQ1613
                    refine wk_goto r207_117 (wk_last r207_127 ar_178 ⟨by omega, by omega⟩ (wk_nw (ga_178 _) rfl hP1525 hF1526 (ua_178 ⟨by omega, by omega⟩) ?_))
                    intro M1617 hP1618 hF1619 e1620
                    refine wk_inc3 r207_128 rfl (wk_goto r207_131 (wk_inc4 r207_249 rfl (wk_goto r207_252 ?_)))
                    exact wp_fg (le_s (le_s (le_s (le_s (le_s (le_n (le_n (le_n (le_s (le_s le_0)))))))))) (ih1700 (256 - (v1521 + 1)).toNat (by omega) M1617 (v1518 + 1) (v1521 + 1) rfl hP1618 hF1619 (by omega) (by omega) (by omega) (by omega) (by omega))
                · intro h1621
                  exfalso
                  omega
              · intro h1622
                refine wk_il6 r207_75 (wk_c2 r207_77 ?_)
                refine wk_icne r207_79 ⟨by omega, by omega⟩ (by decide) ?_ ?_
                · intro h1623
                  refine wk_il7 r207_134 ?_
                  refine wk_ifeq r207_136 (by decide) ?_ ?_
                  · intro h1624
                    refine wk_il7 r207_197 ?_
                    refine wk_ifne r207_199 (by decide) ?_ ?_
                    · intro h1625
                      exfalso
                      omega
                    · intro h1626
                      refine wk_il3 r207_202 ?_
                      refine wk_ifle r207_203 ⟨by omega, by omega⟩ ?_ ?_
                      · intro h1627
                        refine wk_inc4 r207_249 rfl (wk_goto r207_252 ?_)
                        exact wp_fg (le_s (le_s (le_s (le_s (le_s (le_n (le_n (le_n (le_s (le_s le_0)))))))))) (ih1700 (256 - (v1521 + 1)).toNat (by omega) M1524 v1518 (v1521 + 1) rfl hP1525 hF1526 (by omega) (by omega) (by omega) (by omega) (by omega))
                      · intro h1628
                        refine wk_al0 r207_206 (wk_getfr r207_207 fd_176_4 (br_176_4 hP1525) (wk_il3 r207_210 (wk_c1 r207_211 (wk_isub r207_212 (wk_laldb r207_213 ar_178 ⟨by omega, by omega⟩ (fun q0 q1 => ba_178 hP1525 q0 q1) (by decide) ?_)))))
                        intro n1629 h1631 h1632 e1630
                        refine wk_ls8 r207_214 rfl (wk_al0 r207_216 (wk_getfr r207_217 fd_176_4 (br_176_4 hP1525) (wk_il3 r207_220 (wk_c1 r207_221 (wk_isub r207_222 (wk_il6 r207_223 (wk_c1 r207_225 ?_)))))))
                        refine wk_icne r207_226 ⟨by omega, by omega⟩ (by decide) ?_ ?_
                        · intro h1633
                          have h1634 : (v1544 / 8) ≤ 6 := by omega
                          refine wk_al0 r207_238 (wk_il5 r207_239 (wk_c1 r207_241 (wk_ll8 r207_242 (wk_il2 r207_244 (wk_cv5 r207_245 kc_176_189 rfl (m189_176v4 _ M1524 (v1544 / 8) (-1) n1629 p2 hP1525 (by omega) (by omega) (by decide) (by decide) (by omega) (by omega) (by omega)) (cqL ?_))))))
                          rintro n1639 M1635 ⟨hP1636, hQ1637, h1640⟩
                          obtain rfl := Fr.same hQ1637
                          refine wk_last r207_248 ar_178 ⟨by omega, by omega⟩ (wk_nw (ga_178 _) rfl hP1525 hF1526 (ua_178 ⟨by omega, by omega⟩) ?_)
                          intro M1641 hP1642 hF1643 e1644
                          refine wk_inc4 r207_249 rfl (wk_goto r207_252 ?_)
                          exact wp_fg (le_s (le_s (le_s (le_s (le_s (le_n (le_n (le_n (le_n (le_s le_0)))))))))) (ih1700 (256 - (v1521 + 1)).toNat (by omega) M1641 v1518 (v1521 + 1) rfl hP1642 hF1643 (by omega) (by omega) (by omega) (by omega) (by omega))
                        · intro h1645
                          refine wk_ll8 r207_229 (wk_c7 r207_231 (wk_lxor r207_234 ?_))
                          intro n1646 h1647 h1648
                          refine wk_goto r207_235 (wk_last r207_248 ar_178 ⟨by omega, by omega⟩ (wk_nw (ga_178 _) rfl hP1525 hF1526 (ua_178 ⟨by omega, by omega⟩) ?_))
                          intro M1649 hP1650 hF1651 e1652
                          refine wk_inc4 r207_249 rfl (wk_goto r207_252 ?_)
                          exact wp_fg (le_s (le_s (le_s (le_s (le_s (le_n (le_n (le_n (le_n (le_s le_0)))))))))) (ih1700 (256 - (v1521 + 1)).toNat (by omega) M1649 v1518 (v1521 + 1) rfl hP1650 hF1651 (by omega) (by omega) (by omega) (by omega) (by omega))
                  · intro h1653
                    exfalso
                    omega
                · intro h1654
                  refine wk_al0 r207_82 (wk_getfr r207_83 fd_176_4 (br_176_4 hP1525) (wk_il3 r207_86 (wk_il6 r207_87 ?_)))
                  refine wk_ifne r207_89 ⟨by omega, by omega⟩ ?_ ?_
                  · intro h1655
                    refine wk_il6 r207_104 (wk_c1 r207_106 ?_)
                    refine wk_icne r207_107 ⟨by omega, by omega⟩ (by decide) ?_ ?_
                    · intro h1656
                      refine wk_al0 r207_120 (wk_il5 r207_121 (wk_il2 r207_123 (wk_cv3 r207_124 kc_176_198 rfl (m198_176v4 _ M1524 (v1544 / 8) p2 hP1525 (by omega) (by omega) (by omega) (by omega)) (cqL ?_))))
                      rintro n1661 M1657 ⟨hP1658, hQ1659, h1662⟩
                      obtain rfl := Fr.same hQ1659
                      refine wk_last r207_127 ar_178 ⟨by omega, by omega⟩ (wk_nw (ga_178 _) rfl hP1525 hF1526 (ua_178 ⟨by omega, by omega⟩) ?_)
                      intro M1663 hP1664 hF1665 e1666
                      refine wk_inc3 r207_128 rfl (wk_goto r207_131 (wk_inc4 r207_249 rfl (wk_goto r207_252 ?_)))
                      exact wp_fg (le_s (le_s (le_s (le_s (le_s (le_n (le_n (le_n (le_s (le_s le_0)))))))))) (ih1700 (256 - (v1521 + 1)).toNat (by omega) M1663 (v1518 + 1) (v1521 + 1) rfl hP1664 hF1665 (by omega) (by omega) (by omega) (by omega) (by omega))
                    · intro h1667
                      exfalso
                      omega
                  · intro h1668
                    exfalso
                    omega
          · intro h1669
            refine wk_c1 r207_57 (wk_goto r207_58 (wk_is7 r207_62 rfl (wk_il6 r207_64 ?_)))
            refine wk_ifeq r207_66 ⟨by omega, by omega⟩ ?_ ?_
            · intro h1670
              exfalso
              omega
            · intro h1671
              refine wk_il6 r207_69 (wk_c1 r207_71 ?_)
              refine wk_iceq r207_72 ⟨by omega, by omega⟩ (by decide) ?_ ?_
              · intro h1672
                exfalso
                omega
              · intro h1673
                refine wk_il6 r207_75 (wk_c2 r207_77 ?_)
                refine wk_icne r207_79 ⟨by omega, by omega⟩ (by decide) ?_ ?_
                · intro h1674
                  refine wk_il7 r207_134 ?_
                  refine wk_ifeq r207_136 (by decide) ?_ ?_
                  · intro h1675
                    exfalso
                    omega
                  · intro h1676
                    refine wk_il3 r207_139 (wk_c1 r207_140 ?_)
                    refine wk_icle r207_141 ⟨by omega, by omega⟩ (by decide) ?_ ?_
                    · intro h1677
                      refine wk_il7 r207_197 ?_
                      refine wk_ifne r207_199 (by decide) ?_ ?_
                      · intro h1678
                        refine wk_inc4 r207_249 rfl (wk_goto r207_252 ?_)
                        exact wp_fg (le_s (le_s (le_s (le_s (le_s (le_n (le_n (le_n (le_s (le_s le_0)))))))))) (ih1700 (256 - (v1521 + 1)).toNat (by omega) M1524 v1518 (v1521 + 1) rfl hP1525 hF1526 (by omega) (by omega) (by omega) (by omega) (by omega))
                      · intro h1679
                        exfalso
                        omega
                    · intro h1680
                      refine wk_inc3 r207_144 rfl (wk_al0 r207_147 (wk_getfr r207_148 fd_176_4 (br_176_4 hP1525) (wk_il3 r207_151 (wk_laldb r207_152 ar_178 ⟨by omega, by omega⟩ (fun q0 q1 => ba_178 hP1525 q0 q1) (by decide) ?_))))
                      intro n1681 h1683 h1684 e1682
                      refine wk_ls8 r207_153 rfl (wk_al0 r207_155 (wk_getfr r207_156 fd_176_4 (br_176_4 hP1525) (wk_il3 r207_159 (wk_c1 r207_160 (wk_isub r207_161 (wk_il6 r207_162 (wk_c1 r207_164 ?_)))))))
                      refine wk_icne r207_165 ⟨by omega, by omega⟩ (by decide) ?_ ?_
                      · intro h1685
                        refine wk_al0 r207_182 (wk_getfr r207_183 fd_176_4 (br_176_4 hP1525) (wk_il3 r207_186 (wk_c1 r207_187 (wk_isub r207_188 (wk_laldb r207_189 ar_178 ⟨by omega, by omega⟩ (fun q0 q1 => ba_178 hP1525 q0 q1) (by decide) ?_)))))
                        intro n1686 h1688 h1689 e1687
                        refine wk_ll8 r207_190 (wk_lorb r207_192 ?_)
                        intro n1690 h1691 h1692 h1693
                        refine wk_last r207_193 ar_178 ⟨by omega, by omega⟩ (wk_nw (ga_178 _) rfl hP1525 hF1526 (ua_178 ⟨by omega, by omega⟩) ?_)
                        intro M1694 hP1695 hF1696 e1697
                        refine wk_goto r207_194 (wk_inc4 r207_249 rfl (wk_goto r207_252 ?_))
                        exact wp_fg (le_s (le_s (le_s (le_s (le_s (le_n (le_n (le_n (le_n (le_s le_0)))))))))) (ih1700 (256 - (v1521 + 1)).toNat (by omega) M1694 (v1518 + (-1)) (v1521 + 1) rfl hP1695 hF1696 (by omega) (by omega) (by omega) (by omega) (by omega))
                      · intro h1698
                        exfalso
                        omega
                · intro h1699
                  exfalso
                  omega
  exact wp_fg (le_s (le_s (le_s (le_s (le_s (le_s (le_s (le_s (le_s (le_s le_0)))))))))) (c5_1700 _ M0 0 0 rfl hP0 hF0 (by omega) (by omega) (by omega) (by omega) (by omega))
def fm_m196_176_f183 : Nat := 21350724682295211208517400905753034752
/-- IslandHall$Realm.judge -/
theorem m196_176_f183 {B : eB} (d : Nat) (M0 : Mm) (c1 : Int) (a2 : Int) (hP0 : Pw M0) (hC1 : isC c1) (ha2 : 183 ≤ a2) (hb2 : a2 ≤ 300) : Ct B (d + 4) 196 [R 176, R c1, R a2] M0 (qV fun M => Pw M ∧ Fr fm_m196_176_f183 M0 M) := by
  refine ct_of (d := d + 3) (k := 1) (L := [some (R 176), some (R c1), some (R a2), none]) rfl rfl rfl ?_
  have hF0 := Fr.rf fm_m196_176_f183 M0
  generalize hQ : (qV fun M => Pw M ∧ Fr fm_m196_176_f183 M0 M) = Q
  refine wk_c1 r196_0 (wk_is3 r196_1 rfl ?_)
  have c2_155 : ∀ (k155 : Nat) (M136 : Mm) (v133 : Int), (5 - v133).toNat = k155 → Pw M136 → Fr fm_m196_176_f183 M0 M136 → 0 ≤ v133 → v133 ≤ 5 → Wp B (d + 3) 196 2 [some (R 176), some (R c1), some (R a2), some (I v133)] [] M136 Q := by
    refine lp_ind ?_
    intro k155 ih155 M136 v133 hk155 hP137 hF138 h134 h135
    refine wk_il3 r196_2 (wk_al0 r196_3 (wk_getfb r196_4 fd_176_10 (bf_176_10 hP137) ?_))
    intro v139 h141 h142 e140
    refine wk_icge r196_7 ⟨by omega, by omega⟩ ⟨by omega, by omega⟩ ?_ ?_
    · intro h143
      subst hQ; exact wk_ret r196_25 (⟨rfl, hP137, hF138⟩)
    · intro h144
      refine wk_al2 r196_10 (wk_il3 r196_11 (wk_al0 r196_12 (wk_al1 r196_13 (wk_il3 r196_14 (wk_cv3 r196_15 kc_176_207 rfl (m207_176v4 _ M136 c1 v133 hP137 hC1 (by omega) (by omega)) (cqL ?_))))))
      rintro n149 M145 ⟨hP146, hQ147, h150⟩
      have hF148 : Fr fm_m196_176_f183 M0 M145 := hF138.tr hQ147 rfl
      refine wk_last r196_18 (arF_183 (by omega) (by omega)) ⟨by omega, by omega⟩ (wk_nw (gr_183 (by omega) (by omega) _) rfl hP146 hF148 (uaF_183 (by omega) (by omega) ⟨by omega, by omega⟩) ?_)
      intro M151 hP152 hF153 e154
      refine wk_inc3 r196_19 rfl (wk_goto r196_22 ?_)
      exact wp_fg (le_s (le_s (le_s (le_s le_0)))) (ih155 (5 - (v133 + 1)).toNat (by omega) M151 (v133 + 1) rfl hP152 hF153 (by omega) (by omega))
  exact wp_fg (le_s (le_s (le_s (le_s le_0)))) (c2_155 _ M0 0 rfl hP0 hF0 (by omega) (by omega))
def fm_m200_176 : Nat := 41538374868278621028243970633760768
/-- IslandHall$Realm.pass -/
theorem m200_176 {B : eB} (d : Nat) (M0 : Mm) (p1 : Int) (hP0 : Pw M0) (l1 : 0 ≤ p1) (u1 : p1 ≤ 6) : Ct B (d + 1) 200 [R 176, I p1] M0 (qV fun M => Pw M ∧ Fr fm_m200_176 M0 M) := by
  refine ct_of (d := d + 0) (k := 0) (L := [some (R 176), some (I p1)]) rfl rfl rfl ?_
  have hF0 := Fr.rf fm_m200_176 M0
  generalize hQ : (qV fun M => Pw M ∧ Fr fm_m200_176 M0 M) = Q
  refine wk_al0 r200_0 (wk_getfr r200_1 fd_176_3 (br_176_3 hP0) (wk_il1 r200_4 (wk_dup2 r200_5 (wk_ialdb r200_6 ar_177 ⟨by omega, by omega⟩ (fun q0 q1 => ba_177 hP0 q0 q1) ?_))))
  intro v1 h3 h4 e2
  refine wk_c1 r200_7 (wk_ixor 1 2 r200_8 (by decide) ⟨by omega, by omega⟩ ⟨by omega, by omega⟩ ?_)
  intro v5 h6 h7 h8
  refine wk_iast r200_9 ar_177 ⟨by omega, by omega⟩ (wk_nw (ga_177 _) rfl hP0 hF0 (ua_177 ⟨by omega, by omega⟩) ?_)
  intro M9 hP10 hF11 e12
  subst hQ; exact wk_ret r200_10 (⟨rfl, hP10, hF11⟩)
def fm_m208_176v2 : Nat := 0
/-- IslandHall$Realm.yesRow -/
theorem m208_176v2 {B : eB} (d : Nat) (M0 : Mm) (p1 : Int) (hP0 : Pw M0) (l1 : 0 ≤ p1) (u1 : p1 ≤ 1) : Ct B (d + 1) 208 [R 176, I p1] M0 (qR fun z M => Pw M ∧ Fr fm_m208_176v2 M0 M ∧ 229 ≤ z ∧ z ≤ 230) := by
  refine ct_of (d := d + 0) (k := 0) (L := [some (R 176), some (I p1)]) rfl rfl rfl ?_
  have hF0 := Fr.rf fm_m208_176v2 M0
  generalize hQ : (qR fun z M => Pw M ∧ Fr fm_m208_176v2 M0 M ∧ 229 ≤ z ∧ z ≤ 230) = Q
  refine wk_al0 r208_0 (wk_getfr r208_1 fd_176_0 (br_176_0 hP0) (wk_il1 r208_4 (wk_c1 r208_5 ?_)))
  refine wk_icne r208_6 ⟨by omega, by omega⟩ (by decide) ?_ ?_
  · intro h1
    refine wk_c2 r208_14 (wk_il1 r208_16 (wk_iadd r208_17 (wk_raldb r208_18 ar_182 ⟨by omega, by omega⟩ (fun q0 q1 => ba_182 hP0 q0 q1) ?_)))
    subst hQ; exact wk_aret r208_19 (⟨rfl, _, rfl, hP0, hF0, by omega, by omega⟩)
  · intro h2
    exfalso
    omega
def fm_m148_174_f609_f183_f609v1 : Nat := 16725558898897967356151788704486271129485312
/-- IslandHall$Crowd.narrow -/
theorem m148_174_f609_f183_f609v1 {B : eB} (d : Nat) (M0 : Mm) (a1 : Int) (p2 : Int) (p3 : Int) (a4 : Int) (a5 : Int) (hP0 : Pw M0) (ha1 : 609 ≤ a1) (hb1 : a1 ≤ 612) (l2 : 0 ≤ p2) (u2 : p2 ≤ 6) (l3 : 0 ≤ p3) (u3 : p3 ≤ 1) (ha4 : 183 ≤ a4) (hb4 : a4 ≤ 300) (ha5 : 609 ≤ a5) (hb5 : a5 ≤ 612) : Ct B (d + 2) 148 [R 174, R a1, I p2, I p3, R a4, R a5] M0 (qV fun M => Pw M ∧ Fr fm_m148_174_f609_f183_f609v1 M0 M) := by
  refine ct_of (d := d + 1) (k := 4) (L := [some (R 174), some (R a1), some (I p2), some (I p3), some (R a4), some (R a5), none, none, none, none]) rfl rfl rfl ?_
  have hF0 := Fr.rf fm_m148_174_f609_f183_f609v1 M0
  generalize hQ : (qV fun M => Pw M ∧ Fr fm_m148_174_f609_f183_f609v1 M0 M) = Q
  refine wk_al0 r148_0 (wk_getfr r148_1 fd_174_0 (br_174_0 hP0) (wk_il2 r148_4 (wk_cv2 r148_5 kc_176_190 rfl (m190_176 _ M0 p2 hP0 (by omega) (by omega)) (cqR ?_))))
  rintro v5 M1 ⟨hP2, hQ3, h6, h7⟩
  obtain rfl := Fr.same hQ3
  refine wk_as6 r148_8 rfl (wk_al0 r148_10 (wk_getfr r148_11 fd_174_0 (br_174_0 hP0) (wk_il2 r148_14 (wk_cv2 r148_15 kc_176_193 rfl (m193_176 _ M0 p2 hP0 (by omega) (by omega)) (cqR ?_)))))
  rintro v12 M8 ⟨hP9, hQ10, h13, h14⟩
  obtain rfl := Fr.same hQ10
  refine wk_as7 r148_18 rfl (wk_al0 r148_20 (wk_getfr r148_21 fd_174_0 (br_174_0 hP0) (wk_il3 r148_24 (wk_cv2 r148_25 kc_176_208 rfl (m208_176v2 _ M0 p3 hP0 (by omega) (by omega)) (cqR ?_)))))
  rintro v19 M15 ⟨hP16, hQ17, h20, h21⟩
  obtain rfl := Fr.same hQ17
  refine wk_as8 r148_28 rfl (wk_c1 r148_30 (wk_is9 r148_31 rfl ?_))
  have c33_386 : ∀ (k386 : Nat) (M337 : Mm) (v334 : Int), (5 - v334).toNat = k386 → Pw M337 → Fr fm_m148_174_f609_f183_f609v1 M0 M337 → 0 ≤ v334 → v334 ≤ 5 → Wp B (d + 1) 148 33 [some (R 174), some (R a1), none, none, some (R a4), some (R a5), some (R v5), some (R v12), some (R v19), some (I v334)] [] M337 Q := by
    refine lp_ind ?_
    intro k386 ih386 M337 v334 hk386 hP338 hF339 h335 h336
    refine wk_il9 r148_33 (wk_al0 r148_35 (wk_getfr r148_36 fd_174_0 (br_174_0 hP338) (wk_getfb r148_39 fd_176_10 (bf_176_10 hP338) ?_)))
    intro v340 h342 h343 e341
    refine wk_icge r148_42 ⟨by omega, by omega⟩ ⟨by omega, by omega⟩ ?_ ?_
    · intro h344
      subst hQ; exact wk_ret r148_84 (⟨rfl, hP338, hF339⟩)
    · intro h345
      refine wk_al5 r148_45 (wk_il9 r148_47 (wk_al1 r148_49 (wk_il9 r148_50 (wk_laldb r148_52 (arF_609 (by omega) (by omega)) ⟨by omega, by omega⟩ (fun q0 q1 => ⟨(b4_609 hP338 (by omega) (by omega) q0 q1).1, (b4_609 hP338 (by omega) (by omega) q0 q1).2.1⟩) (by decide) ?_))))
      intro n346 h348 h349 e347
      have h350 : v334 = 4 → n346 ≤ 17592186044415 := by have := b4_609 hP338 (a := a1) (i := v334) (by omega) (by omega) (by omega) (by omega); omega
      refine wk_al6 r148_53 (wk_il9 r148_55 (wk_laldb r148_57 (arF_183 (by omega) (by omega)) ⟨by omega, by omega⟩ (fun q0 q1 => baF_183 hP338 (by omega) (by omega) q0 q1) (by decide) ?_))
      intro n351 h353 h354 e352
      refine wk_al8 r148_58 (wk_il9 r148_60 (wk_laldb r148_62 (arF_183 (by omega) (by omega)) ⟨by omega, by omega⟩ (fun q0 q1 => baF_183 hP338 (by omega) (by omega) q0 q1) (by decide) ?_))
      intro n355 h357 h358 e356
      refine wk_al4 r148_63 (wk_il9 r148_65 (wk_laldb r148_67 (arF_183 (by omega) (by omega)) ⟨by omega, by omega⟩ (fun q0 q1 => baF_183 hP338 (by omega) (by omega) q0 q1) (by decide) ?_))
      intro n359 h361 h362 e360
      refine wk_lxor r148_68 ?_
      intro n363 h364 h365
      refine wk_al7 r148_69 (wk_il9 r148_71 (wk_laldb r148_73 (arF_183 (by omega) (by omega)) ⟨by omega, by omega⟩ (fun q0 q1 => baF_183 hP338 (by omega) (by omega) q0 q1) (by decide) ?_))
      intro n366 h368 h369 e367
      refine wk_lxor r148_74 ?_
      intro n370 h371 h372
      refine wk_lorb r148_75 ?_
      intro n373 h374 h375 h376
      refine wk_land r148_76 ?_
      intro n377 h378 h379 h380 h381
      refine wk_last r148_77 (arF_609 (by omega) (by omega)) ⟨by omega, by omega⟩ (wk_nwt (t4_609 rfl rfl (by omega) (by omega) _) hP338 hF339 (u4_609 (by omega) (by omega) ⟨by omega, by omega, by omega⟩) ?_)
      intro M382 hP383 hF384 e385
      refine wk_inc9 r148_78 rfl (wk_goto r148_81 ?_)
      exact wp_fg (le_s (le_s (le_s (le_s (le_s (le_s (le_s (le_s (le_s (le_s le_0)))))))))) (ih386 (5 - (v334 + 1)).toNat (by omega) M382 (v334 + 1) rfl hP383 hF384 (by omega) (by omega))
  exact wp_fg (le_s (le_s (le_n (le_n (le_s (le_s (le_s (le_s (le_s (le_s le_0)))))))))) (c33_386 _ M0 0 rfl hP0 hF0 (by omega) (by omega))
