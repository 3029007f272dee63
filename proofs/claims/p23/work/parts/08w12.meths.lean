/-! ===== written by program (wip/layer2/all.py): contracts of methods ===== -/
def fm_m214_613 : Nat := 2226506400621297414450926112341212412757084733440
/-- IslandHall$Riddler.tellsAlone -/
theorem m214_613 {B : eB} (d : Nat) (M0 : Mm) (hP0 : Pw M0)  : Ct B (d + 4) 214 [R 613] M0 (qI fun z M => Pw M ∧ Fr fm_m214_613 M0 M ∧ 0 ≤ z ∧ z ≤ 1) := by
  refine ct_of (d := d + 3) (k := 2) (L := [some (R 613), none, none]) rfl rfl rfl ?_
  have hF0 := Fr.rf fm_m214_613 M0
  generalize hQ : (qI fun z M => Pw M ∧ Fr fm_m214_613 M0 M ∧ 0 ≤ z ∧ z ≤ 1) = Q
  refine wk_c1 r214_0 (wk_is1 r214_1 rfl ?_)
  have c2_605 : ∀ (k605 : Nat) (M554 : Mm) (v551 : Int), (7 - v551).toNat = k605 → Pw M554 → Fr fm_m214_613 M0 M554 → 0 ≤ v551 → v551 ≤ 7 → Wp B (d + 3) 214 2 [some (R 613), some (I v551), none] [] M554 Q := by
    refine lp_ind ?_
    intro k605 ih605 M554 v551 hk605 hP555 hF556 h552 h553
    refine wk_il1 r214_2 (wk_al0 r214_3 (wk_getfr r214_4 fd_613_0 (br_613_0 hP555) (wk_getfr r214_7 fd_174_0 (br_174_0 hP555) (wk_getfb r214_10 fd_176_7 (bf_176_7 hP555) ?_))))
    intro v557 h559 h560 e558
    refine wk_icge r214_13 ⟨by omega, by omega⟩ ⟨by omega, by omega⟩ ?_ ?_
    · intro h561
      refine wk_c1 r214_97 ?_
      subst hQ; exact wk_zret r214_98 (by decide) (⟨rfl, _, rfl, hP555, hF556, by omega, by omega⟩)
    · intro h562
      refine wk_c1 r214_16 (wk_is2 r214_17 rfl ?_)
      have c18_604 : ∀ (k604 : Nat) (M566 : Mm) (v563 : Int), (30 - v563).toNat = k604 → Pw M566 → Fr fm_m214_613 M0 M566 → M566 176 7 = v557 → 0 ≤ v563 → v563 ≤ 30 → Wp B (d + 3) 214 18 [some (R 613), some (I v551), some (I v563)] [] M566 Q := by
        refine lp_ind ?_
        intro k604 ih604 M566 v563 hk604 hP567 hF568 e569 h564 h565
        refine wk_il2 r214_18 (wk_al0 r214_19 (wk_getfb r214_20 fd_613_6 (bf_613_6 hP567) ?_))
        intro v570 h572 h573 e571
        refine wk_icge r214_23 ⟨by omega, by omega⟩ ⟨by omega, by omega⟩ ?_ ?_
        · intro h574
          refine wk_inc1 r214_91 rfl (wk_goto r214_94 ?_)
          exact wp_fg (le_s (le_s (le_n le_0))) (ih605 (7 - (v551 + 1)).toNat (by omega) M566 (v551 + 1) rfl hP567 hF568 (by omega) (by omega))
        · intro h575
          refine wk_al0 r214_26 (wk_getfr r214_27 fd_613_0 (br_613_0 hP567) (wk_al0 r214_30 (wk_getfr r214_31 fd_613_0 (br_613_0 hP567) (wk_cv1 r214_34 kc_174_145 rfl (m145_174 _ M566 hP567) (cqR ?_)))))
          rintro v580 M576 ⟨hP577, hQ578, h581, h582⟩
          obtain rfl : v580 = 301 := by omega
          obtain rfl := Fr.same hQ578
          refine wk_il1 r214_37 (wk_c1 r214_38 (wk_al0 r214_39 (wk_getfr r214_40 fd_613_2 (br_613_2 hP567) (wk_il2 r214_43 (wk_raldb r214_44 ar_615 ⟨by omega, by omega⟩ (fun q0 q1 => ba_615 hP567 q0 q1) (wk_al0 r214_45 (wk_getfr r214_46 fd_613_4 (br_613_4 hP567) (wk_cv6 r214_49 kc_174_148 rfl (m148_174_301_f616_677v4 _ M566 v551 (-1) (616 + v563) hP567 (by omega) (by omega) (by decide) (by decide) (by omega) (by omega)) (cqV ?_)))))))))
          rintro M583 ⟨hP584, hQ585⟩
          have hF586 : Fr fm_m214_613 M0 M583 := hF568.tr hQ585 rfl
          refine wk_al0 r214_52 (wk_getfr r214_53 fd_613_0 (br_613_0 hP584) (wk_al0 r214_56 (wk_getfr r214_57 fd_613_4 (br_613_4 hP584) (wk_cv2 r214_60 kc_174_151 rfl (m151_174_677 _ M583 hP584) (cqI ?_)))))
          rintro v591 M587 ⟨hP588, hQ589, h592, h593⟩
          obtain rfl := Fr.same hQ589
          refine wk_ifeq r214_63 ⟨by omega, by omega⟩ ?_ ?_
          · intro h594
            refine wk_inc2 r214_85 rfl (wk_goto r214_88 ?_)
            exact wp_fg (le_s (le_s (le_s le_0))) (ih604 (30 - (v563 + 1)).toNat (by omega) M583 (v563 + 1) rfl hP584 hF586 ((hQ585.at g_176_7 rfl).trans e569) (by omega) (by omega))
          · intro h595
            refine wk_al0 r214_66 (wk_getfr r214_67 fd_613_8 (br_613_8 hP584) (wk_c1 r214_70 (wk_c2 r214_71 (wk_il1 r214_73 (wk_imul r214_74 (wk_il2 r214_75 (wk_iadd r214_76 (wk_iast r214_77 ar_614 (by decide) (wk_nw (ga_614 _) rfl hP584 hF586 (ua_614 ⟨by omega, by omega⟩) ?_)))))))))
            intro M596 hP597 hF598 e599
            refine wk_al0 r214_78 (wk_c1 r214_79 (wk_putfi81 r214_80 fd_613_9 (wk_nw g_613_9 rfl hP597 hF598 (uf_613_9 (by decide)) ?_)))
            intro M600 hP601 hF602 e603
            refine wk_c1 r214_83 ?_
            subst hQ; exact wk_zret r214_84 (by decide) (⟨rfl, _, rfl, hP601, hF602, by omega, by omega⟩)
      exact wp_fg (le_s (le_s (le_s le_0))) (c18_604 _ M554 0 rfl hP555 hF556 e558 (by omega) (by omega))
  exact wp_fg (le_s (le_s (le_s le_0))) (c2_605 _ M0 0 rfl hP0 hF0 (by omega) (by omega))
def fm_m196_176_f616 : Nat := 91343852333264509137466859286824176669763305472
/-- IslandHall$Realm.judge -/
theorem m196_176_f616 {B : eB} (d : Nat) (M0 : Mm) (c1 : Int) (a2 : Int) (hP0 : Pw M0) (hC1 : isC c1) (ha2 : 616 ≤ a2) (hb2 : a2 ≤ 645) : Ct B (d + 4) 196 [R 176, R c1, R a2] M0 (qV fun M => Pw M ∧ Fr fm_m196_176_f616 M0 M) := by
  refine ct_of (d := d + 3) (k := 1) (L := [some (R 176), some (R c1), some (R a2), none]) rfl rfl rfl ?_
  have hF0 := Fr.rf fm_m196_176_f616 M0
  generalize hQ : (qV fun M => Pw M ∧ Fr fm_m196_176_f616 M0 M) = Q
  refine wk_c1 r196_0 (wk_is3 r196_1 rfl ?_)
  have c2_155 : ∀ (k155 : Nat) (M136 : Mm) (v133 : Int), (5 - v133).toNat = k155 → Pw M136 → Fr fm_m196_176_f616 M0 M136 → 0 ≤ v133 → v133 ≤ 5 → Wp B (d + 3) 196 2 [some (R 176), some (R c1), some (R a2), some (I v133)] [] M136 Q := by
    refine lp_ind ?_
    intro k155 ih155 M136 v133 hk155 hP137 hF138 h134 h135
    refine wk_il3 r196_2 (wk_al0 r196_3 (wk_getfb r196_4 fd_176_10 (bf_176_10 hP137) ?_))
    intro v139 h141 h142 e140
    refine wk_icge r196_7 ⟨by omega, by omega⟩ ⟨by omega, by omega⟩ ?_ ?_
    · intro h143
      subst hQ; exact wk_ret r196_25 (⟨rfl, hP137, hF138⟩)
    · intro h144
      refine wk_al2 r196_10 (wk_il3 r196_11 (wk_al0 r196_12 (wk_al1 r196_13 (wk_il3 r196_14 (wk_cv3 r196_15 kc_176_207 rfl (m207_176v4 _ M136 c1 v133 hP137 hC1 (by omega) (by omega)) (cqL ?_))))))
      rintro n149 M145 ⟨hP146, hQ147, h150⟩
      have hF148 : Fr fm_m196_176_f616 M0 M145 := hF138.tr hQ147 rfl
      refine wk_last r196_18 (arF_616 (by omega) (by omega)) ⟨by omega, by omega⟩ (wk_nw (gr_616 (by omega) (by omega) _) rfl hP146 hF148 (uaF_616 (by omega) (by omega) ⟨by omega, by omega⟩) ?_)
      intro M151 hP152 hF153 e154
      refine wk_inc3 r196_19 rfl (wk_goto r196_22 ?_)
      exact wp_fg (le_s (le_s (le_s (le_s le_0)))) (ih155 (5 - (v133 + 1)).toNat (by omega) M151 (v133 + 1) rfl hP152 hF153 (by omega) (by omega))
  exact wp_fg (le_s (le_s (le_s (le_s le_0)))) (c2_155 _ M0 0 rfl hP0 hF0 (by omega) (by omega))
def fm_m142 : Nat := 0
/-- IslandHall$Code.hangsOn -/
theorem m142 {B : eB} (d : Nat) (M0 : Mm) (c0 : Int) (p1 : Int) (p2 : Int) (hP0 : Pw M0) (hC0 : isC c0) (l1 : 0 ≤ p1) (u1 : p1 ≤ 6) (l2 : 0 ≤ p2) (u2 : p2 ≤ 12) : Ct B (d + 1) 142 [R c0, I p1, I p2] M0 (qI fun z M => Pw M ∧ Fr fm_m142 M0 M ∧ 0 ≤ z ∧ z ≤ 1) := by
  refine ct_of (d := d + 0) (k := 0) (L := [some (R c0), some (I p1), some (I p2)]) rfl rfl rfl ?_
  have hF0 := Fr.rf fm_m142 M0
  generalize hQ : (qI fun z M => Pw M ∧ Fr fm_m142 M0 M ∧ 0 ≤ z ∧ z ≤ 1) = Q
  refine wk_al0 r142_0 (wk_getfb r142_1 (fdC_2 hC0) (bC_2 hP0 hC0) ?_)
  intro v1 h3 h4 e2
  refine wk_il1 r142_4 (wk_shrb r142_5 ⟨by omega, by omega⟩ ⟨by omega, by omega⟩ ?_)
  intro v5 h6 h7 h8
  refine wk_c1 r142_6 (wk_iandc 1 2 r142_7 ⟨rfl, by decide⟩ rfl (wk_c1 r142_8 ?_))
  refine wk_iceq r142_9 ⟨by omega, by omega⟩ (by decide) ?_ ?_
  · intro h10
    refine wk_c1 r142_24 (wk_goto r142_25 ?_)
    subst hQ; exact wk_zret r142_29 (by decide) (⟨rfl, _, rfl, hP0, hF0, by omega, by omega⟩)
  · intro h11
    refine wk_al0 r142_12 (wk_getfb r142_13 (fdC_3 hC0) (bC_3 hP0 hC0) ?_)
    intro v12 h14 h15 e13
    refine wk_il2 r142_16 (wk_shrb r142_17 ⟨by omega, by omega⟩ ⟨by omega, by omega⟩ ?_)
    intro v16 h17 h18 h19
    refine wk_c1 r142_18 (wk_iandc 1 2 r142_19 ⟨rfl, by decide⟩ rfl (wk_c1 r142_20 ?_))
    refine wk_icne r142_21 ⟨by omega, by omega⟩ (by decide) ?_ ?_
    · intro h21
      refine wk_c1 r142_28 ?_
      subst hQ; exact wk_zret r142_29 (by decide) (⟨rfl, _, rfl, hP0, hF0, by omega, by omega⟩)
    · intro h22
      refine wk_c1 r142_24 (wk_goto r142_25 ?_)
      subst hQ; exact wk_zret r142_29 (by decide) (⟨rfl, _, rfl, hP0, hF0, by omega, by omega⟩)
def fm_m196_176_f647 : Nat := 365375409332808806300657765421127242855250657280
/-- IslandHall$Realm.judge -/
theorem m196_176_f647 {B : eB} (d : Nat) (M0 : Mm) (c1 : Int) (a2 : Int) (hP0 : Pw M0) (hC1 : isC c1) (ha2 : 647 ≤ a2) (hb2 : a2 ≤ 676) : Ct B (d + 4) 196 [R 176, R c1, R a2] M0 (qV fun M => Pw M ∧ Fr fm_m196_176_f647 M0 M) := by
  refine ct_of (d := d + 3) (k := 1) (L := [some (R 176), some (R c1), some (R a2), none]) rfl rfl rfl ?_
  have hF0 := Fr.rf fm_m196_176_f647 M0
  generalize hQ : (qV fun M => Pw M ∧ Fr fm_m196_176_f647 M0 M) = Q
  refine wk_c1 r196_0 (wk_is3 r196_1 rfl ?_)
  have c2_155 : ∀ (k155 : Nat) (M136 : Mm) (v133 : Int), (5 - v133).toNat = k155 → Pw M136 → Fr fm_m196_176_f647 M0 M136 → 0 ≤ v133 → v133 ≤ 5 → Wp B (d + 3) 196 2 [some (R 176), some (R c1), some (R a2), some (I v133)] [] M136 Q := by
    refine lp_ind ?_
    intro k155 ih155 M136 v133 hk155 hP137 hF138 h134 h135
    refine wk_il3 r196_2 (wk_al0 r196_3 (wk_getfb r196_4 fd_176_10 (bf_176_10 hP137) ?_))
    intro v139 h141 h142 e140
    refine wk_icge r196_7 ⟨by omega, by omega⟩ ⟨by omega, by omega⟩ ?_ ?_
    · intro h143
      subst hQ; exact wk_ret r196_25 (⟨rfl, hP137, hF138⟩)
    · intro h144
      refine wk_al2 r196_10 (wk_il3 r196_11 (wk_al0 r196_12 (wk_al1 r196_13 (wk_il3 r196_14 (wk_cv3 r196_15 kc_176_207 rfl (m207_176v4 _ M136 c1 v133 hP137 hC1 (by omega) (by omega)) (cqL ?_))))))
      rintro n149 M145 ⟨hP146, hQ147, h150⟩
      have hF148 : Fr fm_m196_176_f647 M0 M145 := hF138.tr hQ147 rfl
      refine wk_last r196_18 (arF_647 (by omega) (by omega)) ⟨by omega, by omega⟩ (wk_nw (gr_647 (by omega) (by omega) _) rfl hP146 hF148 (uaF_647 (by omega) (by omega) ⟨by omega, by omega⟩) ?_)
      intro M151 hP152 hF153 e154
      refine wk_inc3 r196_19 rfl (wk_goto r196_22 ?_)
      exact wp_fg (le_s (le_s (le_s (le_s le_0)))) (ih155 (5 - (v133 + 1)).toNat (by omega) M151 (v133 + 1) rfl hP152 hF153 (by omega) (by omega))
  exact wp_fg (le_s (le_s (le_s (le_s le_0)))) (c2_155 _ M0 0 rfl hP0 hF0 (by omega) (by omega))
def fm_m210_613 : Nat := 365375409332808806300657765421127242855250657280
/-- IslandHall$Riddler.judgeAgain -/
theorem m210_613 {B : eB} (d : Nat) (M0 : Mm) (p1 : Int) (hP0 : Pw M0) (l1 : 0 ≤ p1) (u1 : p1 ≤ 6) : Ct B (d + 5) 210 [R 613, I p1] M0 (qV fun M => Pw M ∧ Fr fm_m210_613 M0 M) := by
  refine ct_of (d := d + 4) (k := 1) (L := [some (R 613), some (I p1), none]) rfl rfl rfl ?_
  have hF0 := Fr.rf fm_m210_613 M0
  generalize hQ : (qV fun M => Pw M ∧ Fr fm_m210_613 M0 M) = Q
  refine wk_c1 r210_0 (wk_is2 r210_1 rfl ?_)
  have c2_313 : ∀ (k313 : Nat) (M277 : Mm) (v274 : Int), (30 - v274).toNat = k313 → Pw M277 → Fr fm_m210_613 M0 M277 → 0 ≤ v274 → v274 ≤ 30 → Wp B (d + 4) 210 2 [some (R 613), some (I p1), some (I v274)] [] M277 Q := by
    refine lp_ind ?_
    intro k313 ih313 M277 v274 hk313 hP278 hF279 h275 h276
    refine wk_il2 r210_2 (wk_al0 r210_3 (wk_getfb r210_4 fd_613_6 (bf_613_6 hP278) ?_))
    intro v280 h282 h283 e281
    refine wk_icge r210_7 ⟨by omega, by omega⟩ ⟨by omega, by omega⟩ ?_ ?_
    · intro h284
      subst hQ; exact wk_ret r210_82 (⟨rfl, hP278, hF279⟩)
    · intro h285
      refine wk_al0 r210_10 (wk_getfr r210_11 fd_613_1 (br_613_1 hP278) (wk_il2 r210_14 (wk_caldb r210_15 ar_168 ⟨by omega, by omega⟩ (fun q0 q1 => ba_168 hP278 q0 q1) ?_)))
      intro v286 e287
      have hC288 : isC v286 := Or.inr (by omega)
      refine wk_il1 r210_16 (wk_al0 r210_17 (wk_getfb r210_18 fd_613_7 (bf_613_7 hP278) ?_))
      intro v289 h291 h292 e290
      refine wk_cv3 r210_21 (kcC_142 hC288) rfl (m142 _ M277 v286 p1 v289 hP278 hC288 (by omega) (by omega) (by omega) (by omega)) (cqI ?_)
      rintro v297 M293 ⟨hP294, hQ295, h298, h299⟩
      obtain rfl := Fr.same hQ295
      refine wk_ifeq r210_24 ⟨by omega, by omega⟩ ?_ ?_
      · intro h300
        refine wk_al0 r210_52 (wk_getfr r210_53 fd_613_2 (br_613_2 hP278) (wk_il2 r210_56 (wk_raldb r210_57 ar_615 ⟨by omega, by omega⟩ (fun q0 q1 => ba_615 hP278 q0 q1) (wk_c1 r210_58 (wk_al0 r210_59 (wk_getfr r210_60 fd_613_3 (br_613_3 hP278) (wk_il2 r210_63 (wk_raldb r210_64 ar_646 ⟨by omega, by omega⟩ (fun q0 q1 => ba_646 hP278 q0 q1) (wk_c1 r210_65 (wk_al0 r210_66 (wk_getfr r210_67 fd_613_0 (br_613_0 hP278) (wk_getfi r210_70 fd_174_1 (br_174_1 hP278) (wk_copy110 r210_73 (arF_616 (by omega) (by omega)) (arF_647 (by omega) (by omega)) ⟨by decide, by decide, by decide, by omega, by omega, by omega⟩ rfl (wk_nc (fun i => by rw [(gr_647 (by omega) (by omega) i)]; rfl) hP278 hF279 (fun i h0 h1 => by have := baF_616 hP278 (a := (616 + v274)) (by omega) (by omega) h0 (by omega); exact (uaF_647 (by omega) (by omega) ⟨by omega, by omega⟩)) ?_))))))))))))))
        intro M301 hP302 hF303 e304
        refine wk_inc2 r210_76 rfl (wk_goto r210_79 ?_)
        exact wp_fg (le_s (le_s (le_s le_0))) (ih313 (30 - (v274 + 1)).toNat (by omega) M301 (v274 + 1) rfl hP302 hF303 (by omega) (by omega))
      · intro h305
        refine wk_al0 r210_27 (wk_getfr r210_28 fd_613_0 (br_613_0 hP278) (wk_getfr r210_31 fd_174_0 (br_174_0 hP278) (wk_al0 r210_34 (wk_getfr r210_35 fd_613_1 (br_613_1 hP278) (wk_il2 r210_38 (wk_caldb r210_39 ar_168 ⟨by omega, by omega⟩ (fun q0 q1 => ba_168 hP278 q0 q1) ?_))))))
        intro v306 e307
        have hC308 : isC v306 := Or.inr (by omega)
        refine wk_al0 r210_40 (wk_getfr r210_41 fd_613_3 (br_613_3 hP278) (wk_il2 r210_44 (wk_raldb r210_45 ar_646 ⟨by omega, by omega⟩ (fun q0 q1 => ba_646 hP278 q0 q1) (wk_cv3 r210_46 kc_176_196 rfl (m196_176_f647 _ M277 v306 (647 + v274) hP278 hC308 (by omega) (by omega)) (cqV ?_)))))
        rintro M309 ⟨hP310, hQ311⟩
        have hF312 : Fr fm_m210_613 M0 M309 := hF279.tr hQ311 rfl
        refine wk_goto r210_49 (wk_inc2 r210_76 rfl (wk_goto r210_79 ?_))
        exact wp_fg (le_s (le_s (le_s le_0))) (ih313 (30 - (v274 + 1)).toNat (by omega) M309 (v274 + 1) rfl hP310 hF312 (by omega) (by omega))
  exact wp_fg (le_s (le_s (le_s le_0))) (c2_313 _ M0 0 rfl hP0 hF0 (by omega) (by omega))
def fm_m148_174_677_f647_678 : Nat := 8769009823985417509222108996297698117935595257856
/-- IslandHall$Crowd.narrow -/
theorem m148_174_677_f647_678 {B : eB} (d : Nat) (M0 : Mm) (p2 : Int) (p3 : Int) (a4 : Int) (hP0 : Pw M0) (l2 : 0 ≤ p2) (u2 : p2 ≤ 6) (l3 : (-1) ≤ p3) (u3 : p3 ≤ (-1)) (ha4 : 647 ≤ a4) (hb4 : a4 ≤ 676) : Ct B (d + 2) 148 [R 174, R 677, I p2, I p3, R a4, R 678] M0 (qV fun M => Pw M ∧ Fr fm_m148_174_677_f647_678 M0 M) := by
  refine ct_of (d := d + 1) (k := 4) (L := [some (R 174), some (R 677), some (I p2), some (I p3), some (R a4), some (R 678), none, none, none, none]) rfl rfl rfl ?_
  have hF0 := Fr.rf fm_m148_174_677_f647_678 M0
  generalize hQ : (qV fun M => Pw M ∧ Fr fm_m148_174_677_f647_678 M0 M) = Q
  refine wk_al0 r148_0 (wk_getfr r148_1 fd_174_0 (br_174_0 hP0) (wk_il2 r148_4 (wk_cv2 r148_5 kc_176_190 rfl (m190_176 _ M0 p2 hP0 (by omega) (by omega)) (cqR ?_))))
  rintro v5 M1 ⟨hP2, hQ3, h6, h7⟩
  obtain rfl := Fr.same hQ3
  refine wk_as6 r148_8 rfl (wk_al0 r148_10 (wk_getfr r148_11 fd_174_0 (br_174_0 hP0) (wk_il2 r148_14 (wk_cv2 r148_15 kc_176_193 rfl (m193_176 _ M0 p2 hP0 (by omega) (by omega)) (cqR ?_)))))
  rintro v12 M8 ⟨hP9, hQ10, h13, h14⟩
  obtain rfl := Fr.same hQ10
  refine wk_as7 r148_18 rfl (wk_al0 r148_20 (wk_getfr r148_21 fd_174_0 (br_174_0 hP0) (wk_il3 r148_24 (wk_cv2 r148_25 kc_176_208 rfl (m208_176 _ M0 p3 hP0 (by omega) (by omega)) (cqR ?_)))))
  rintro v19 M15 ⟨hP16, hQ17, h20, h21⟩
  obtain rfl : v19 = 301 := by omega
  obtain rfl := Fr.same hQ17
  refine wk_as8 r148_28 rfl (wk_c1 r148_30 (wk_is9 r148_31 rfl ?_))
  have c33_393 : ∀ (k393 : Nat) (M343 : Mm) (v340 : Int), (5 - v340).toNat = k393 → Pw M343 → Fr fm_m148_174_677_f647_678 M0 M343 → 0 ≤ v340 → v340 ≤ 5 → Wp B (d + 1) 148 33 [some (R 174), some (R 677), none, none, some (R a4), some (R 678), some (R v5), some (R v12), some (R 301), some (I v340)] [] M343 Q := by
    refine lp_ind ?_
    intro k393 ih393 M343 v340 hk393 hP344 hF345 h341 h342
    refine wk_il9 r148_33 (wk_al0 r148_35 (wk_getfr r148_36 fd_174_0 (br_174_0 hP344) (wk_getfb r148_39 fd_176_10 (bf_176_10 hP344) ?_)))
    intro v346 h348 h349 e347
    refine wk_icge r148_42 ⟨by omega, by omega⟩ ⟨by omega, by omega⟩ ?_ ?_
    · intro h350
      subst hQ; exact wk_ret r148_84 (⟨rfl, hP344, hF345⟩)
    · intro h351
      refine wk_al5 r148_45 (wk_il9 r148_47 (wk_al1 r148_49 (wk_il9 r148_50 (wk_laldb r148_52 (arF_677 (by omega) (by omega)) ⟨by omega, by omega⟩ (fun q0 q1 => ⟨(b4_677 hP344 (by omega) (by omega) q0 q1).1, (b4_677 hP344 (by omega) (by omega) q0 q1).2.1⟩) (by decide) ?_))))
      intro n352 h354 h355 e353
      have h356 : v340 = 4 → n352 ≤ 17592186044415 := by have := b4_677 hP344 (a := 677) (i := v340) (by omega) (by omega) (by omega) (by omega); omega
      refine wk_al6 r148_53 (wk_il9 r148_55 (wk_laldb r148_57 (arF_183 (by omega) (by omega)) ⟨by omega, by omega⟩ (fun q0 q1 => baF_183 hP344 (by omega) (by omega) q0 q1) (by decide) ?_))
      intro n357 h359 h360 e358
      refine wk_al8 r148_58 (wk_il9 r148_60 (wk_laldb r148_62 (arF_301 (by omega) (by omega)) ⟨by omega, by omega⟩ (fun q0 q1 => ⟨(b4_301 hP344 (by omega) (by omega) q0 q1).1, (b4_301 hP344 (by omega) (by omega) q0 q1).2.1⟩) (by decide) ?_))
      intro n361 h363 h364 e362
      have h365 : v340 = 4 → n361 ≤ 17592186044415 := by have := b4_301 hP344 (a := 301) (i := v340) (by omega) (by omega) (by omega) (by omega); omega
      refine wk_al4 r148_63 (wk_il9 r148_65 (wk_laldb r148_67 (arF_647 (by omega) (by omega)) ⟨by omega, by omega⟩ (fun q0 q1 => baF_647 hP344 (by omega) (by omega) q0 q1) (by decide) ?_))
      intro n366 h368 h369 e367
      refine wk_lxor r148_68 ?_
      intro n370 h371 h372
      refine wk_al7 r148_69 (wk_il9 r148_71 (wk_laldb r148_73 (arF_183 (by omega) (by omega)) ⟨by omega, by omega⟩ (fun q0 q1 => baF_183 hP344 (by omega) (by omega) q0 q1) (by decide) ?_))
      intro n373 h375 h376 e374
      refine wk_lxor r148_74 ?_
      intro n377 h378 h379
      refine wk_lorb r148_75 ?_
      intro n380 h381 h382 h383
      refine wk_land r148_76 ?_
      intro n384 h385 h386 h387 h388
      refine wk_last r148_77 (arF_678 (by omega) (by omega)) ⟨by omega, by omega⟩ (wk_nwt (t4_678 rfl rfl (by omega) (by omega) _) hP344 hF345 (u4_678 (by omega) (by omega) ⟨by omega, by omega, by omega⟩) ?_)
      intro M389 hP390 hF391 e392
      refine wk_inc9 r148_78 rfl (wk_goto r148_81 ?_)
      exact wp_fg (le_s (le_s (le_s (le_s (le_s (le_s (le_s (le_s (le_s (le_s le_0)))))))))) (ih393 (5 - (v340 + 1)).toNat (by omega) M389 (v340 + 1) rfl hP390 hF391 (by omega) (by omega))
  exact wp_fg (le_s (le_s (le_n (le_n (le_s (le_s (le_s (le_s (le_s (le_s le_0)))))))))) (c33_393 _ M0 0 rfl hP0 hF0 (by omega) (by omega))
def fm_m149_174_678 : Nat := 0
/-- IslandHall$Crowd.someOf -/
theorem m149_174_678 {B : eB} (d : Nat) (M0 : Mm) (hP0 : Pw M0)  : Ct B (d + 2) 149 [R 174, R 678] M0 (qI fun z M => Pw M ∧ Fr fm_m149_174_678 M0 M ∧ (-1) ≤ z ∧ z ≤ 299) := by
  refine ct_of (d := d + 1) (k := 1) (L := [some (R 174), some (R 678), none]) rfl rfl rfl ?_
  have hF0 := Fr.rf fm_m149_174_678 M0
  generalize hQ : (qI fun z M => Pw M ∧ Fr fm_m149_174_678 M0 M ∧ (-1) ≤ z ∧ z ≤ 299) = Q
  refine wk_c1 r149_0 (wk_is2 r149_1 rfl ?_)
  have c2_330 : ∀ (k330 : Nat) (v283 : Int), (5 - v283).toNat = k330 → 0 ≤ v283 → v283 ≤ 5 → Wp B (d + 1) 149 2 [some (R 174), some (R 678), some (I v283)] [] M0 Q := by
    refine lp_ind ?_
    intro k330 ih330 v283 hk330 h284 h285
    refine wk_il2 r149_2 (wk_al0 r149_3 (wk_getfr r149_4 fd_174_0 (br_174_0 hP0) (wk_getfb r149_7 fd_176_10 (bf_176_10 hP0) ?_)))
    intro v286 h288 h289 e287
    refine wk_icge r149_10 ⟨by omega, by omega⟩ ⟨by omega, by omega⟩ ?_ ?_
    · intro h290
      refine wk_c1 r149_49 ?_
      subst hQ; exact wk_iret r149_50 (⟨rfl, _, rfl, hP0, hF0, by omega, by omega⟩)
    · intro h291
      refine wk_al1 r149_13 (wk_il2 r149_14 (wk_laldb r149_15 (arF_678 (by omega) (by omega)) ⟨by omega, by omega⟩ (fun q0 q1 => ⟨(b4_678 hP0 (by omega) (by omega) q0 q1).1, (b4_678 hP0 (by omega) (by omega) q0 q1).2.1⟩) (by decide) ?_))
      intro n292 h294 h295 e293
      have h296 : v283 = 4 → n292 ≤ 17592186044415 := by have := b4_678 hP0 (a := 678) (i := v283) (by omega) (by omega) (by omega) (by omega); omega
      refine wk_c6 r149_16 ?_
      refine wk_lcmp r149_17 (by omega) (by omega) ?_ ?_
      · intro h297
        refine wk_ifeq r149_18 (by decide) ?_ ?_
        · intro h303
          refine wk_inc2 r149_43 rfl (wk_goto r149_46 ?_)
          exact wp_fg (le_s (le_s (le_s le_0))) (ih330 (5 - (v283 + 1)).toNat (by omega) (v283 + 1) rfl (by omega) (by omega))
        · intro h304
          exfalso
          omega
      · intro h298 v302 h299 h300 h301
        refine wk_ifeq r149_18 ⟨by omega, by omega⟩ ?_ ?_
        · intro h305
          exfalso
          omega
        · intro h306
          refine wk_c2 r149_21 (wk_il2 r149_23 (wk_imul r149_24 (wk_al1 r149_25 (wk_il2 r149_26 (wk_lald r149_27 (arF_678 (by omega) (by omega)) ⟨by omega, by omega⟩ e293 (wk_c7 r149_28 (wk_lxor r149_31 ?_)))))))
          intro n308 h309 h310
          refine wk_al1 r149_32 (wk_il2 r149_33 (wk_lald r149_34 (arF_678 (by omega) (by omega)) ⟨by omega, by omega⟩ e293 (wk_c6 r149_35 (wk_lsubb r149_36 (by omega) ?_))))
          intro n312 h314 h313
          refine wk_land r149_37 ?_
          intro n315 h316 h317 h318 h319
          refine wk_cs102_1 r149_38 rfl (m245 _ M0 n315 hP0 (by omega)) (cqI ?_)
          rintro v325 M320 ⟨hP321, hQ322, h326, h327, xh324⟩
          obtain rfl := Fr.same hQ322
          have h328 := tz_b (by omega) (by omega) h310 h313 h319
          have h329 : 64 * v283 + v325 ≤ 299 := by omega
          refine wk_iadd r149_41 ?_
          subst hQ; exact wk_iret r149_42 (⟨rfl, _, rfl, hP0, hF0, by omega, by omega⟩)
  exact wp_fg (le_s (le_s (le_s le_0))) (c2_330 _ 0 rfl (by omega) (by omega))
def fm_m151_174_678 : Nat := 0
/-- IslandHall$Crowd.tellsOne -/
theorem m151_174_678 {B : eB} (d : Nat) (M0 : Mm) (hP0 : Pw M0)  : Ct B (d + 3) 151 [R 174, R 678] M0 (qI fun z M => Pw M ∧ Fr fm_m151_174_678 M0 M ∧ 0 ≤ z ∧ z ≤ 1) := by
  refine ct_of (d := d + 2) (k := 3) (L := [some (R 174), some (R 678), none, none, none]) rfl rfl rfl ?_
  have hF0 := Fr.rf fm_m151_174_678 M0
  generalize hQ : (qI fun z M => Pw M ∧ Fr fm_m151_174_678 M0 M ∧ 0 ≤ z ∧ z ≤ 1) = Q
  refine wk_al0 r151_0 (wk_al1 r151_1 (wk_cv2 r151_2 kc_174_149 rfl (m149_174_678 _ M0 hP0) (cqI ?_)))
  rintro v5 M1 ⟨hP2, hQ3, h6, h7⟩
  obtain rfl := Fr.same hQ3
  refine wk_is2 r151_5 rfl (wk_il2 r151_6 (wk_c1 r151_7 ?_))
  refine wk_icne r151_8 ⟨by omega, by omega⟩ (by decide) ?_ ?_
  · intro h8
    refine wk_al0 r151_13 (wk_getfr r151_14 fd_174_3 (br_174_3 hP0) (wk_al0 r151_17 (wk_getfr r151_18 fd_174_2 (br_174_2 hP0) (wk_il2 r151_21 (wk_ialdb r151_22 ar_304 ⟨by omega, by omega⟩ (fun q0 q1 => ba_304 hP0 q0 q1) ?_)))))
    intro v9 h11 h12 e10
    refine wk_raldb r151_23 ar_305 ⟨by omega, by omega⟩ (fun q0 q1 => ba_305 hP0 q0 q1) (wk_as3 r151_24 rfl (wk_c1 r151_25 (wk_is4 r151_26 rfl ?_)))
    have c28_265 : ∀ (k265 : Nat) (v229 : Int), (5 - v229).toNat = k265 → 0 ≤ v229 → v229 ≤ 5 → Wp B (d + 2) 151 28 [some (R 174), some (R 678), none, some (R (306 + v9)), some (I v229)] [] M0 Q := by
      refine lp_ind ?_
      intro k265 ih265 v229 hk265 h230 h231
      refine wk_il4 r151_28 (wk_al0 r151_30 (wk_getfr r151_31 fd_174_0 (br_174_0 hP0) (wk_getfb r151_34 fd_176_10 (bf_176_10 hP0) ?_)))
      intro v232 h234 h235 e233
      refine wk_icge r151_37 ⟨by omega, by omega⟩ ⟨by omega, by omega⟩ ?_ ?_
      · intro h236
        refine wk_c1 r151_66 ?_
        subst hQ; exact wk_zret r151_67 (by decide) (⟨rfl, _, rfl, hP0, hF0, by omega, by omega⟩)
      · intro h237
        refine wk_al1 r151_40 (wk_il4 r151_41 (wk_laldb r151_43 (arF_678 (by omega) (by omega)) ⟨by omega, by omega⟩ (fun q0 q1 => ⟨(b4_678 hP0 (by omega) (by omega) q0 q1).1, (b4_678 hP0 (by omega) (by omega) q0 q1).2.1⟩) (by decide) ?_))
        intro n238 h240 h241 e239
        have h242 : v229 = 4 → n238 ≤ 17592186044415 := by have := b4_678 hP0 (a := 678) (i := v229) (by omega) (by omega) (by omega) (by omega); omega
        refine wk_al3 r151_44 (wk_il4 r151_45 (wk_laldb r151_47 (arF_306 (by omega) (by omega)) ⟨by omega, by omega⟩ (fun q0 q1 => baF_306 hP0 (by omega) (by omega) q0 q1) (by decide) ?_))
        intro n243 h245 h246 e244
        refine wk_c7 r151_48 (wk_lxor r151_51 ?_)
        intro n247 h248 h249
        refine wk_land r151_52 ?_
        intro n250 h251 h252 h253 h254
        refine wk_c6 r151_53 ?_
        refine wk_lcmp r151_54 (by omega) (by omega) ?_ ?_
        · intro h255
          refine wk_ifeq r151_55 (by decide) ?_ ?_
          · intro h261
            refine wk_inc4 r151_60 rfl (wk_goto r151_63 ?_)
            exact wp_fg (le_s (le_s (le_s (le_s (le_s le_0))))) (ih265 (5 - (v229 + 1)).toNat (by omega) (v229 + 1) rfl (by omega) (by omega))
          · intro h262
            exfalso
            omega
        · intro h256 v260 h257 h258 h259
          refine wk_ifeq r151_55 ⟨by omega, by omega⟩ ?_ ?_
          · intro h263
            exfalso
            omega
          · intro h264
            refine wk_c1 r151_58 ?_
            subst hQ; exact wk_zret r151_59 (by decide) (⟨rfl, _, rfl, hP0, hF0, by omega, by omega⟩)
    exact wp_fg (le_s (le_s (le_n (le_s (le_s le_0))))) (c28_265 _ 0 rfl (by omega) (by omega))
  · intro h266
    refine wk_c1 r151_11 ?_
    subst hQ; exact wk_zret r151_12 (by decide) (⟨rfl, _, rfl, hP0, hF0, by omega, by omega⟩)
def fm_m211_613v12 : Nat := 8769009823985417509222108996297698117935595257856
/-- IslandHall$Riddler.leastFrom -/
theorem m211_613v12 {B : eB} (d : Nat) (M0 : Mm) (p1 : Int) (p2 : Int) (hP0 : Pw M0) (l1 : 0 ≤ p1) (u1 : p1 ≤ 6) (l2 : 0 ≤ p2) (u2 : p2 ≤ 29) : Ct B (d + 4) 211 [R 613, I p1, I p2] M0 (qI fun z M => Pw M ∧ Fr fm_m211_613v12 M0 M ∧ (-1) ≤ z ∧ z ≤ 209) := by
  refine ct_of (d := d + 3) (k := 2) (L := [some (R 613), some (I p1), some (I p2), none, none]) rfl rfl rfl ?_
  have hF0 := Fr.rf fm_m211_613v12 M0
  generalize hQ : (qI fun z M => Pw M ∧ Fr fm_m211_613v12 M0 M ∧ (-1) ≤ z ∧ z ≤ 209) = Q
  refine wk_il1 r211_0 (wk_is3 r211_1 rfl ?_)
  have c2_181 : ∀ (k181 : Nat) (M139 : Mm) (v136 : Int), (7 - v136).toNat = k181 → Pw M139 → Fr fm_m211_613v12 M0 M139 → 0 ≤ v136 → v136 ≤ 7 → Wp B (d + 3) 211 2 [some (R 613), some (I p1), some (I p2), some (I v136), none] [] M139 Q := by
    refine lp_ind ?_
    intro k181 ih181 M139 v136 hk181 hP140 hF141 h137 h138
    refine wk_il3 r211_2 (wk_al0 r211_3 (wk_getfr r211_4 fd_613_0 (br_613_0 hP140) (wk_getfr r211_7 fd_174_0 (br_174_0 hP140) (wk_getfb r211_10 fd_176_7 (bf_176_7 hP140) ?_))))
    intro v142 h144 h145 e143
    refine wk_icge r211_13 ⟨by omega, by omega⟩ ⟨by omega, by omega⟩ ?_ ?_
    · intro h146
      refine wk_c1 r211_95 ?_
      subst hQ; exact wk_iret r211_96 (⟨rfl, _, rfl, hP140, hF141, by omega, by omega⟩)
    · intro h147
      refine wk_il3 r211_16 (wk_il1 r211_17 ?_)
      have c26_180 : ∀ (v150 : Int), 0 ≤ v150 → v150 ≤ 29 → Wp B (d + 3) 211 26 [some (R 613), some (I p1), some (I p2), some (I v136), none] [I v150] M139 Q := by
        intro v150 h151 h152
        refine wk_is4 r211_26 rfl ?_
        have c28_179 : ∀ (k179 : Nat) (M156 : Mm) (v153 : Int), (30 - v153).toNat = k179 → Pw M156 → Fr fm_m211_613v12 M0 M156 → M156 176 7 = v142 → 0 ≤ v153 → v153 ≤ 30 → Wp B (d + 3) 211 28 [some (R 613), some (I p1), some (I p2), some (I v136), some (I v153)] [] M156 Q := by
          refine lp_ind ?_
          intro k179 ih179 M156 v153 hk179 hP157 hF158 e159 h154 h155
          refine wk_il4 r211_28 (wk_al0 r211_30 (wk_getfb r211_31 fd_613_6 (bf_613_6 hP157) ?_))
          intro v160 h162 h163 e161
          refine wk_icge r211_34 ⟨by omega, by omega⟩ ⟨by omega, by omega⟩ ?_ ?_
          · intro h164
            refine wk_inc3 r211_89 rfl (wk_goto r211_92 ?_)
            exact wp_fg (le_s (le_s (le_s (le_s (le_n le_0))))) (ih181 (7 - (v136 + 1)).toNat (by omega) M156 (v136 + 1) rfl hP157 hF158 (by omega) (by omega))
          · intro h165
            refine wk_al0 r211_37 (wk_getfr r211_38 fd_613_0 (br_613_0 hP157) (wk_al0 r211_41 (wk_getfr r211_42 fd_613_4 (br_613_4 hP157) (wk_il3 r211_45 (wk_c1 r211_46 (wk_al0 r211_47 (wk_getfr r211_48 fd_613_3 (br_613_3 hP157) (wk_il4 r211_51 (wk_raldb r211_53 ar_646 ⟨by omega, by omega⟩ (fun q0 q1 => ba_646 hP157 q0 q1) (wk_al0 r211_54 (wk_getfr r211_55 fd_613_5 (br_613_5 hP157) (wk_cv6 r211_58 kc_174_148 rfl (m148_174_677_f647_678 _ M156 v136 (-1) (647 + v153) hP157 (by omega) (by omega) (by decide) (by decide) (by omega) (by omega)) (cqV ?_)))))))))))))
            rintro M166 ⟨hP167, hQ168⟩
            have hF169 : Fr fm_m211_613v12 M0 M166 := hF158.tr hQ168 rfl
            refine wk_al0 r211_61 (wk_getfr r211_62 fd_613_0 (br_613_0 hP167) (wk_al0 r211_65 (wk_getfr r211_66 fd_613_5 (br_613_5 hP167) (wk_cv2 r211_69 kc_174_151 rfl (m151_174_678 _ M166 hP167) (cqI ?_)))))
            rintro v174 M170 ⟨hP171, hQ172, h175, h176⟩
            obtain rfl := Fr.same hQ172
            refine wk_ifeq r211_72 ⟨by omega, by omega⟩ ?_ ?_
            · intro h177
              refine wk_inc4 r211_83 rfl (wk_goto r211_86 ?_)
              exact wp_fg (le_s (le_s (le_s (le_s (le_s le_0))))) (ih179 (30 - (v153 + 1)).toNat (by omega) M166 (v153 + 1) rfl hP167 hF169 ((hQ168.at g_176_7 rfl).trans e159) (by omega) (by omega))
            · intro h178
              refine wk_c2 r211_75 (wk_il3 r211_77 (wk_imul r211_78 (wk_il4 r211_79 (wk_iadd r211_81 ?_))))
              subst hQ; exact wk_iret r211_82 (⟨rfl, _, rfl, hP167, hF169, by omega, by omega⟩)
        exact wp_fg (le_s (le_s (le_s (le_s (le_s le_0))))) (c28_179 _ M139 v150 rfl hP140 hF141 e143 (by omega) (by omega))
      refine wk_icne r211_18 ⟨by omega, by omega⟩ ⟨by omega, by omega⟩ ?_ ?_
      · intro h148
        refine wk_c1 r211_25 ?_
        exact wp_fg (le_s (le_s (le_s (le_s (le_s le_0))))) (c26_180 0 (by omega) (by omega))
      · intro h149
        refine wk_il2 r211_21 (wk_goto r211_22 ?_)
        exact wp_fg (le_s (le_s (le_s (le_s (le_s le_0))))) (c26_180 p2 (by omega) (by omega))
  exact wp_fg (le_s (le_s (le_s (le_s (le_s le_0))))) (c2_181 _ M0 p1 rfl hP0 hF0 (by omega) (by omega))
def fm_m213_613v12 : Nat := 9134385233339535501830193694306314517725965189120
/-- IslandHall$Riddler.secondBehind -/
theorem m213_613v12 {B : eB} (d : Nat) (M0 : Mm) (p1 : Int) (p2 : Int) (hP0 : Pw M0) (l1 : 0 ≤ p1) (u1 : p1 ≤ 6) (l2 : 0 ≤ p2) (u2 : p2 ≤ 29) : Ct B (d + 6) 213 [R 613, I p1, I p2] M0 (qI fun z M => Pw M ∧ Fr fm_m213_613v12 M0 M ∧ (-1) ≤ z ∧ z ≤ 209) := by
  refine ct_of (d := d + 5) (k := 3) (L := [some (R 613), some (I p1), some (I p2), none, none, none]) rfl rfl rfl ?_
  have hF0 := Fr.rf fm_m213_613v12 M0
  generalize hQ : (qI fun z M => Pw M ∧ Fr fm_m213_613v12 M0 M ∧ (-1) ≤ z ∧ z ≤ 209) = Q
  refine wk_al0 r213_0 (wk_getfr r213_1 fd_613_0 (br_613_0 hP0) (wk_getfr r213_4 fd_174_0 (br_174_0 hP0) (wk_as3 r213_7 rfl (wk_al3 r213_8 (wk_getfr r213_9 fd_176_0 (br_176_0 hP0) (wk_c2 r213_12 (wk_al0 r213_14 (wk_getfb r213_15 fd_613_7 (bf_613_7 hP0) ?_))))))))
  intro v1 h3 h4 e2
  refine wk_iadd r213_18 (wk_raldb r213_19 ar_182 ⟨by omega, by omega⟩ (fun q0 q1 => ba_182 hP0 q0 q1) (wk_as4 r213_20 rfl (wk_al0 r213_22 (wk_getfr r213_23 fd_613_2 (br_613_2 hP0) (wk_il2 r213_26 (wk_raldb r213_27 ar_615 ⟨by omega, by omega⟩ (fun q0 q1 => ba_615 hP0 q0 q1) (wk_c1 r213_28 (wk_al4 r213_29 (wk_c1 r213_31 (wk_al0 r213_32 (wk_getfr r213_33 fd_613_0 (br_613_0 hP0) (wk_getfi r213_36 fd_174_1 (br_174_1 hP0) (wk_copy110 r213_39 (arF_616 (by omega) (by omega)) (arF_183 (by omega) (by omega)) ⟨by decide, by decide, by decide, by omega, by omega, by omega⟩ rfl (wk_nc (fun i => by rw [(gr_183 (by omega) (by omega) i)]; rfl) hP0 hF0 (fun i h0 h1 => by have := baF_616 hP0 (a := (616 + p2)) (by omega) (by omega) h0 (by omega); exact (uaF_183 (by omega) (by omega) ⟨by omega, by omega⟩)) ?_))))))))))))))
  intro M5 hP6 hF7 e8
  refine wk_al3 r213_42 (wk_il1 r213_43 (wk_cv2 r213_44 kc_176_200 rfl (m200_176 _ M5 p1 hP6 (by omega) (by omega)) (cqV ?_)))
  rintro M9 ⟨hP10, hQ11⟩
  have hF12 : Fr fm_m213_613v12 M0 M9 := hF7.tr hQ11 rfl
  refine wk_al0 r213_47 (wk_il1 r213_48 (wk_cv2 r213_49 kc_613_210 rfl (m210_613 _ M9 p1 hP10 (by omega) (by omega)) (cqV ?_)))
  rintro M13 ⟨hP14, hQ15⟩
  have hF16 : Fr fm_m213_613v12 M0 M13 := hF12.tr hQ15 rfl
  refine wk_al0 r213_52 (wk_il1 r213_53 (wk_il2 r213_54 (wk_cv3 r213_55 kc_613_211 rfl (m211_613v12 _ M13 p1 p2 hP14 (by omega) (by omega) (by omega) (by omega)) (cqI ?_))))
  rintro v21 M17 ⟨hP18, hQ19, h22, h23⟩
  have hF20 : Fr fm_m213_613v12 M0 M17 := hF16.tr hQ19 rfl
  refine wk_is5 r213_58 rfl (wk_al3 r213_60 (wk_il1 r213_61 (wk_cv2 r213_62 kc_176_200 rfl (m200_176 _ M17 p1 hP18 (by omega) (by omega)) (cqV ?_))))
  rintro M24 ⟨hP25, hQ26⟩
  have hF27 : Fr fm_m213_613v12 M0 M24 := hF20.tr hQ26 rfl
  refine wk_al4 r213_65 (wk_c6 r213_67 (wk_cs102_2 r213_68 rfl (ct_fl (arF_183 (by omega) (by omega))) (cqV ?_)))
  intro M28 e29
  have hP30 : Pw M28 := by rw [e29]; exact hP25.fil (fun i => (uaF_183 (by omega) (by omega) ⟨by omega, by omega⟩))
  have hF31 : Fr fm_m213_613v12 M0 M28 := by rw [e29]; exact hF27.fil (fun i => by rw [(gr_183 (by omega) (by omega) i)]; rfl)
  refine wk_il5 r213_71 ?_
  subst hQ; exact wk_iret r213_73 (⟨rfl, _, rfl, hP30, hF31, by omega, by omega⟩)
def fm_m212_613 : Nat := 11456517229372132228312024966600643104620693946368
/-- IslandHall$Riddler.search -/
theorem m212_613 {B : eB} (d : Nat) (M0 : Mm) (p1 : Int) (p2 : Int) (hP0 : Pw M0) (l1 : 0 ≤ p1) (u1 : p1 ≤ 30) (l2 : 0 ≤ p2) (u2 : p2 ≤ 10) : Ct B (d + 7) 212 [R 613, I p1, I p2] M0 (qI fun z M => Pw M ∧ Fr fm_m212_613 M0 M ∧ (-1) ≤ z ∧ z ≤ 2) := by
  refine ct_of (d := d + 6) (k := 3) (L := [some (R 613), some (I p1), some (I p2), none, none, none]) rfl rfl rfl ?_
  have hF0 := Fr.rf fm_m212_613 M0
  generalize hQ : (qI fun z M => Pw M ∧ Fr fm_m212_613 M0 M ∧ (-1) ≤ z ∧ z ≤ 2) = Q
  refine wk_al0 r212_0 (wk_il1 r212_1 (wk_putfi81 r212_2 fd_613_6 (wk_nw g_613_6 rfl hP0 hF0 (uf_613_6 ⟨by omega, by omega⟩) ?_)))
  intro M1 hP2 hF3 e4
  refine wk_al0 r212_5 (wk_il2 r212_6 (wk_putfi81 r212_7 fd_613_7 (wk_nw g_613_7 rfl hP2 hF3 (uf_613_7 ⟨by omega, by omega⟩) ?_)))
  intro M5 hP6 hF7 e8
  refine wk_c1 r212_10 (wk_is3 r212_11 rfl ?_)
  have c12_1753 : ∀ (k1753 : Nat) (M1648 : Mm) (v1645 : Int), (30 - v1645).toNat = k1753 → Pw M1648 → Fr fm_m212_613 M0 M1648 → M1648 613 6 = p1 → M1648 613 7 = p2 → 0 ≤ v1645 → v1645 ≤ 30 → Wp B (d + 6) 212 12 [some (R 613), none, none, some (I v1645), none, none] [] M1648 Q := by
    refine lp_ind ?_
    intro k1753 ih1753 M1648 v1645 hk1753 hP1649 hF1650 e1651 e1652 h1646 h1647
    refine wk_il3 r212_12 (wk_al0 r212_13 (wk_getfi r212_14 fd_613_6 e1651 ?_))
    refine wk_icge r212_17 ⟨by omega, by omega⟩ ⟨by omega, by omega⟩ ?_ ?_
    · intro h1653
      refine wk_al0 r212_48 (wk_cv1 r212_49 kc_613_214 rfl (m214_613 _ M1648 hP1649) (cqI ?_))
      rintro v1658 M1654 ⟨hP1655, hQ1656, h1659, h1660⟩
      have hF1657 : Fr fm_m212_613 M0 M1654 := hF1650.tr hQ1656 rfl
      refine wk_ifeq r212_52 ⟨by omega, by omega⟩ ?_ ?_
      · intro h1661
        refine wk_c1 r212_60 (wk_is3 r212_61 rfl ?_)
        have c62_1739 : ∀ (k1739 : Nat) (M1665 : Mm) (v1662 : Int), (7 - v1662).toNat = k1739 → Pw M1665 → Fr fm_m212_613 M0 M1665 → M1665 613 6 = p1 → M1665 613 7 = p2 → 0 ≤ v1662 → v1662 ≤ 7 → Wp B (d + 6) 212 62 [some (R 613), none, none, some (I v1662), none, none] [] M1665 Q := by
          refine lp_ind ?_
          intro k1739 ih1739 M1665 v1662 hk1739 hP1666 hF1667 e1668 e1669 h1663 h1664
          refine wk_il3 r212_62 (wk_al0 r212_63 (wk_getfr r212_64 fd_613_0 (br_613_0 hP1666) (wk_getfr r212_67 fd_174_0 (br_174_0 hP1666) (wk_getfb r212_70 fd_176_7 (bf_176_7 hP1666) ?_))))
          intro v1670 h1672 h1673 e1671
          refine wk_icge r212_73 ⟨by omega, by omega⟩ ⟨by omega, by omega⟩ ?_ ?_
          · intro h1674
            refine wk_c1 r212_192 ?_
            subst hQ; exact wk_iret r212_193 (⟨rfl, _, rfl, hP1666, hF1667, by omega, by omega⟩)
          · intro h1675
            refine wk_c1 r212_76 (wk_is4 r212_77 rfl ?_)
            have c79_1738 : ∀ (k1738 : Nat) (M1679 : Mm) (v1676 : Int), (30 - v1676).toNat = k1738 → Pw M1679 → Fr fm_m212_613 M0 M1679 → M1679 613 6 = p1 → M1679 613 7 = p2 → M1679 176 7 = v1670 → 0 ≤ v1676 → v1676 ≤ 30 → Wp B (d + 6) 212 79 [some (R 613), none, none, some (I v1662), some (I v1676), none] [] M1679 Q := by
              refine lp_ind ?_
              intro k1738 ih1738 M1679 v1676 hk1738 hP1680 hF1681 e1682 e1683 e1684 h1677 h1678
              refine wk_il4 r212_79 (wk_al0 r212_81 (wk_getfi r212_82 fd_613_6 e1682 ?_))
              refine wk_icge r212_85 ⟨by omega, by omega⟩ ⟨by omega, by omega⟩ ?_ ?_
              · intro h1685
                refine wk_inc3 r212_186 rfl (wk_goto r212_189 ?_)
                exact wp_fg (le_s (le_s (le_s (le_s (le_n (le_s le_0)))))) (ih1739 (7 - (v1662 + 1)).toNat (by omega) M1679 (v1662 + 1) rfl hP1680 hF1681 e1682 e1683 (by omega) (by omega))
              · intro h1686
                refine wk_al0 r212_88 (wk_getfr r212_89 fd_613_0 (br_613_0 hP1680) (wk_al0 r212_92 (wk_getfr r212_93 fd_613_0 (br_613_0 hP1680) (wk_cv1 r212_96 kc_174_145 rfl (m145_174 _ M1679 hP1680) (cqR ?_)))))
                rintro v1691 M1687 ⟨hP1688, hQ1689, h1692, h1693⟩
                obtain rfl : v1691 = 301 := by omega
                obtain rfl := Fr.same hQ1689
                refine wk_il3 r212_99 (wk_c1 r212_100 (wk_al0 r212_101 (wk_getfr r212_102 fd_613_2 (br_613_2 hP1680) (wk_il4 r212_105 (wk_raldb r212_107 ar_615 ⟨by omega, by omega⟩ (fun q0 q1 => ba_615 hP1680 q0 q1) (wk_al0 r212_108 (wk_getfr r212_109 fd_613_4 (br_613_4 hP1680) (wk_cv6 r212_112 kc_174_148 rfl (m148_174_301_f616_677v4 _ M1679 v1662 (-1) (616 + v1676) hP1680 (by omega) (by omega) (by decide) (by decide) (by omega) (by omega)) (cqV ?_)))))))))
                rintro M1694 ⟨hP1695, hQ1696⟩
                have hF1697 : Fr fm_m212_613 M0 M1694 := hF1681.tr hQ1696 rfl
                refine wk_al0 r212_115 (wk_getfr r212_116 fd_613_0 (br_613_0 hP1695) (wk_al0 r212_119 (wk_getfr r212_120 fd_613_4 (br_613_4 hP1695) (wk_cv2 r212_123 kc_174_149 rfl (m149_174_677 _ M1694 hP1695) (cqI ?_)))))
                rintro v1702 M1698 ⟨hP1699, hQ1700, h1703, h1704⟩
                obtain rfl := Fr.same hQ1700
                refine wk_c1 r212_126 ?_
                have c141_1737 : ∀ (M1717 : Mm) (v1714 : Int), Pw M1717 → Fr fm_m212_613 M0 M1717 → M1717 613 6 = p1 → M1717 613 7 = p2 → M1717 176 7 = v1670 → (-1) ≤ v1714 → v1714 ≤ 209 → Wp B (d + 6) 212 141 [some (R 613), none, none, some (I v1662), some (I v1676), none] [I v1714] M1717 Q := by
                  intro M1717 v1714 hP1718 hF1719 e1720 e1721 e1722 h1715 h1716
                  refine wk_is5 r212_141 rfl (wk_il5 r212_143 (wk_c1 r212_145 ?_))
                  refine wk_iceq r212_146 ⟨by omega, by omega⟩ (by decide) ?_ ?_
                  · intro h1723
                    refine wk_inc4 r212_180 rfl (wk_goto r212_183 ?_)
                    exact wp_fg (le_s (le_s (le_s (le_s (le_s (le_n le_0)))))) (ih1738 (30 - (v1676 + 1)).toNat (by omega) M1717 (v1676 + 1) rfl hP1718 hF1719 e1720 e1721 e1722 (by omega) (by omega))
                  · intro h1724
                    refine wk_al0 r212_149 (wk_getfr r212_150 fd_613_8 (br_613_8 hP1718) (wk_c1 r212_153 (wk_c2 r212_154 (wk_il3 r212_156 (wk_imul r212_157 (wk_il4 r212_158 (wk_iadd r212_160 (wk_iast r212_161 ar_614 (by decide) (wk_nw (ga_614 _) rfl hP1718 hF1719 (ua_614 ⟨by omega, by omega⟩) ?_)))))))))
                    intro M1725 hP1726 hF1727 e1728
                    refine wk_al0 r212_162 (wk_getfr r212_163 fd_613_8 (br_613_8 hP1726) (wk_c1 r212_166 (wk_il5 r212_167 (wk_iast r212_169 ar_614 (by decide) (wk_nw (ga_614 _) rfl hP1726 hF1727 (ua_614 ⟨by omega, by omega⟩) ?_)))))
                    intro M1729 hP1730 hF1731 e1732
                    refine wk_al0 r212_170 (wk_c1 r212_171 (wk_putfi81 r212_172 fd_613_9 (wk_nw g_613_9 rfl hP1730 hF1731 (uf_613_9 (by decide)) ?_)))
                    intro M1733 hP1734 hF1735 e1736
                    refine wk_al0 r212_175 (wk_getfi r212_176 fd_613_9 (mUp_at e1736) ?_)
                    subst hQ; exact wk_iret r212_179 (⟨rfl, _, rfl, hP1734, hF1735, by omega, by omega⟩)
                refine wk_icne r212_127 ⟨by omega, by omega⟩ (by decide) ?_ ?_
                · intro h1705
                  refine wk_al0 r212_134 (wk_il3 r212_135 (wk_il4 r212_136 (wk_cv3 r212_138 kc_613_213 rfl (m213_613v12 _ M1694 v1662 v1676 hP1695 (by omega) (by omega) (by omega) (by omega)) (cqI ?_))))
                  rintro v1710 M1706 ⟨hP1707, hQ1708, h1711, h1712⟩
                  have hF1709 : Fr fm_m212_613 M0 M1706 := hF1697.tr hQ1708 rfl
                  exact wp_fg (le_s (le_s (le_s (le_s (le_s (le_s le_0)))))) (c141_1737 M1706 v1710 hP1707 hF1709 ((hQ1708.at g_613_6 rfl).trans ((hQ1696.at g_613_6 rfl).trans e1682)) ((hQ1708.at g_613_7 rfl).trans ((hQ1696.at g_613_7 rfl).trans e1683)) ((hQ1708.at g_176_7 rfl).trans ((hQ1696.at g_176_7 rfl).trans e1684)) (by omega) (by omega))
                · intro h1713
                  refine wk_c1 r212_130 (wk_goto r212_131 ?_)
                  exact wp_fg (le_s (le_s (le_s (le_s (le_s (le_s le_0)))))) (c141_1737 M1694 (-1) hP1695 hF1697 ((hQ1696.at g_613_6 rfl).trans e1682) ((hQ1696.at g_613_7 rfl).trans e1683) ((hQ1696.at g_176_7 rfl).trans e1684) (by omega) (by omega))
            exact wp_fg (le_s (le_s (le_s (le_s (le_s (le_s le_0)))))) (c79_1738 _ M1665 0 rfl hP1666 hF1667 e1668 e1669 e1671 (by omega) (by omega))
        exact wp_fg (le_s (le_s (le_s (le_s (le_s (le_s le_0)))))) (c62_1739 _ M1654 0 rfl hP1655 hF1657 ((hQ1656.at g_613_6 rfl).trans e1651) ((hQ1656.at g_613_7 rfl).trans e1652) (by omega) (by omega))
      · intro h1740
        refine wk_al0 r212_55 (wk_getfb r212_56 fd_613_9 (bf_613_9 hP1655) ?_)
        intro v1741 h1743 h1744 e1742
        subst hQ; exact wk_iret r212_59 (⟨rfl, _, rfl, hP1655, hF1657, by omega, by omega⟩)
    · intro h1745
      refine wk_al0 r212_20 (wk_getfr r212_21 fd_613_0 (br_613_0 hP1649) (wk_getfr r212_24 fd_174_0 (br_174_0 hP1649) (wk_al0 r212_27 (wk_getfr r212_28 fd_613_1 (br_613_1 hP1649) (wk_il3 r212_31 (wk_caldb r212_32 ar_168 ⟨by omega, by omega⟩ (fun q0 q1 => ba_168 hP1649 q0 q1) ?_))))))
      intro v1746 e1747
      have hC1748 : isC v1746 := Or.inr (by omega)
      refine wk_al0 r212_33 (wk_getfr r212_34 fd_613_2 (br_613_2 hP1649) (wk_il3 r212_37 (wk_raldb r212_38 ar_615 ⟨by omega, by omega⟩ (fun q0 q1 => ba_615 hP1649 q0 q1) (wk_cv3 r212_39 kc_176_196 rfl (m196_176_f616 _ M1648 v1746 (616 + v1645) hP1649 hC1748 (by omega) (by omega)) (cqV ?_)))))
      rintro M1749 ⟨hP1750, hQ1751⟩
      have hF1752 : Fr fm_m212_613 M0 M1749 := hF1650.tr hQ1751 rfl
      refine wk_inc3 r212_42 rfl (wk_goto r212_45 ?_)
      exact wp_fg (le_s (le_s (le_s (le_s (le_s (le_s le_0)))))) (ih1753 (30 - (v1645 + 1)).toNat (by omega) M1749 (v1645 + 1) rfl hP1750 hF1752 ((hQ1751.at g_613_6 rfl).trans e1651) ((hQ1751.at g_613_7 rfl).trans e1652) (by omega) (by omega))
  exact wp_fg (le_s (le_n (le_n (le_s (le_s (le_s le_0)))))) (c12_1753 _ M5 0 rfl hP6 hF7 (mUp_no e8 (mUp_at e4) (Or.inr (by decide))) (mUp_at e8) (by omega) (by omega))
def fm_m37_0 : Nat := 11456517233413190441365286147745378734451571294208
/-- IslandHall.riddle -/
theorem m37_0 {B : eB} (d : Nat) (M0 : Mm) (p1 : Int) (hP0 : Pw M0) (l1 : (-2147483648) ≤ p1) (u1 : p1 ≤ 2147483647) : Ct B (d + 8) 37 [R 0, I p1] M0 (qX 0 (fun M => Pw M ∧ Fr (fm_m37_0 ||| 1) M0 M ∧ M (-1) 0 = M0 (-1) 0 + 1) (qI fun z M => Pw M ∧ Fr fm_m37_0 M0 M ∧ (-2) ≤ z ∧ z ≤ 2)) := by
  refine ct_of (d := d + 7) (k := 0) (L := [some (R 0), some (I p1)]) rfl rfl rfl ?_
  have hF0 := Fr.rf fm_m37_0 M0
  generalize hQ : (qX 0 (fun M => Pw M ∧ Fr (fm_m37_0 ||| 1) M0 M ∧ M (-1) 0 = M0 (-1) 0 + 1) (qI fun z M => Pw M ∧ Fr fm_m37_0 M0 M ∧ (-2) ≤ z ∧ z ≤ 2)) = Q
  refine wk_il1 r37_0 (wk_cs102_1 r37_1 rfl (m29 _ M0 p1 hP0 (by omega) (by omega)) (cqX (fun _ _ x5 => by subst hQ; exact Or.inl ⟨rfl, x5.1, Fr.trx hF0 x5.2.1 rfl, (by rw [x5.2.2, hF0.at g_below rfl])⟩) (cqV ?_)))
  rintro M1 ⟨hP2, hQ3, h8, h9⟩
  obtain rfl := Fr.same hQ3
  refine wk_al0 r37_4 (wk_getfr r37_5 fd_0_7 (br_0_7 hP0) (wk_getfb r37_8 fd_138_5 (bf_138_5 hP0) ?_))
  intro v10 h12 h13 e11
  refine wk_c1 r37_11 (wk_iadd r37_12 (wk_c2 r37_13 ?_))
  refine wk_icle r37_15 ⟨by omega, by omega⟩ (by decide) ?_ ?_
  · intro h14
    refine wk_al0 r37_20 (wk_getfr r37_21 fd_0_6 (br_0_6 hP0) (wk_al0 r37_24 (wk_getfr r37_25 fd_0_7 (br_0_7 hP0) (wk_cv1 r37_28 kc_138_229 rfl (m229_138 _ M0 hP0) (cqR ?_)))))
    rintro v19 M15 ⟨hP16, hQ17, h20, h21⟩
    obtain rfl := Fr.same hQ17
    refine wk_cv2 r37_31 kc_10_194 rfl (m194_10_f155 _ M0 v19 hP0 (by omega) (by omega)) (cqI ?_)
    rintro v26 M22 ⟨hP23, hQ24, h27, h28⟩
    obtain rfl := Fr.same hQ24
    refine wk_c3 r37_34 ?_
    refine wk_icle r37_37 ⟨by omega, by omega⟩ (by decide) ?_ ?_
    · intro h29
      refine wk_al0 r37_43 (wk_getfr r37_44 fd_0_15 (br_0_15 hP0) (wk_al0 r37_47 (wk_getfr r37_48 fd_0_7 (br_0_7 hP0) (wk_il1 r37_51 (wk_cv3 r37_52 kc_174_146 rfl (m146_174_138 _ M0 p1 hP0 (by omega) (by omega)) (cqV ?_))))))
      rintro M30 ⟨hP31, hQ32⟩
      have hF33 : Fr fm_m37_0 M0 M30 := hF0.tr hQ32 rfl
      refine wk_al0 r37_55 (wk_getfr r37_56 fd_0_17 (br_0_17 hP31) (wk_al0 r37_59 (wk_getfb r37_60 fd_0_9 (bf_0_9 hP31) ?_)))
      intro v34 h36 h37 e35
      refine wk_al0 r37_63 (wk_getfr r37_64 fd_0_7 (br_0_7 hP31) (wk_getfi r37_67 fd_138_5 ((hQ32.at g_138_5 rfl).trans e11) (wk_cv3 r37_70 kc_613_212 rfl (m212_613 _ M30 v34 v10 hP31 (by omega) (by omega) (by omega) (by omega)) (cqI ?_))))
      rintro v42 M38 ⟨hP39, hQ40, h43, h44⟩
      have hF41 : Fr fm_m37_0 M0 M38 := hF33.tr hQ40 rfl
      subst hQ; exact wk_iret r37_73 (Or.inr ⟨rfl, _, rfl, hP39, hF41, by omega, by omega⟩)
    · intro h45
      refine wk_c2 r37_40 ?_
      subst hQ; exact wk_iret r37_42 (Or.inr ⟨rfl, _, rfl, hP0, hF0, by omega, by omega⟩)
  · intro h46
    refine wk_c1 r37_18 ?_
    subst hQ; exact wk_iret r37_19 (Or.inr ⟨rfl, _, rfl, hP0, hF0, by omega, by omega⟩)
def fm_m27_0 : Nat := 0
/-- IslandHall.line -/
theorem m27_0 {B : eB} (d : Nat) (M0 : Mm) (p1 : Int) (hP0 : Pw M0) (l1 : (-2147483648) ≤ p1) (u1 : p1 ≤ 2147483647) : Ct B (d + 1) 27 [R 0, I p1] M0 (qX 0 (fun M => Pw M ∧ Fr (fm_m27_0 ||| 1) M0 M ∧ M (-1) 0 = M0 (-1) 0 + 1) (qI fun z M => Pw M ∧ Fr fm_m27_0 M0 M ∧ 0 ≤ z ∧ z ≤ 209)) := by
  refine ct_of (d := d + 0) (k := 0) (L := [some (R 0), some (I p1)]) rfl rfl rfl ?_
  have hF0 := Fr.rf fm_m27_0 M0
  generalize hQ : (qX 0 (fun M => Pw M ∧ Fr (fm_m27_0 ||| 1) M0 M ∧ M (-1) 0 = M0 (-1) 0 + 1) (qI fun z M => Pw M ∧ Fr fm_m27_0 M0 M ∧ 0 ≤ z ∧ z ≤ 209)) = Q
  refine wk_il1 r27_0 ?_
  refine wk_iflt r27_1 ⟨by omega, by omega⟩ ?_ ?_
  · intro h1
    subst hQ; exact wk_thr112 r27_15 rfl (Or.inl ⟨rfl, hP0.thr, (Fr.thr hF0), (by rw [mUp_eq, hF0.at g_below rfl])⟩)
  · intro h2
    refine wk_il1 r27_4 (wk_al0 r27_5 (wk_getfr r27_6 fd_0_17 (br_0_17 hP0) (wk_getfb r27_9 fd_613_9 (bf_613_9 hP0) ?_)))
    intro v3 h5 h6 e4
    refine wk_iclt r27_12 ⟨by omega, by omega⟩ ⟨by omega, by omega⟩ ?_ ?_
    · intro h7
      refine wk_al0 r27_26 (wk_getfr r27_27 fd_0_17 (br_0_17 hP0) (wk_getfr r27_30 fd_613_8 (br_613_8 hP0) (wk_il1 r27_33 (wk_ialdb r27_34 ar_614 ⟨by omega, by omega⟩ (fun q0 q1 => ba_614 hP0 q0 q1) ?_))))
      intro v8 h10 h11 e9
      subst hQ; exact wk_iret r27_35 (Or.inr ⟨rfl, _, rfl, hP0, hF0, by omega, by omega⟩)
    · intro h12
      subst hQ; exact wk_thr112 r27_15 rfl (Or.inl ⟨rfl, hP0.thr, (Fr.thr hF0), (by rw [mUp_eq, hF0.at g_below rfl])⟩)
def fm_m123_739 : Nat := 11692013098647223345629478661730264157247460343808
/-- IslandHallModel.right -/
theorem m123_739 {B : eB} (d : Nat) (M0 : Mm) (p1 : Int) (p2 : Int) (hP0 : Pw M0) (l1 : 0 ≤ p1) (u1 : p1 ≤ 1) (l2 : 1 ≤ p2) (u2 : p2 ≤ 1) : Ct B (d + 1) 123 [R 739, I p1, I p2] M0 (qI fun z M => Pw M ∧ Fr fm_m123_739 M0 M ∧ 0 ≤ z ∧ z ≤ 1 ∧ (z = 1 → 0 ≤ p1 + (-1))) := by
  refine ct_of (d := d + 0) (k := 0) (L := [some (R 739), some (I p1), some (I p2)]) rfl rfl rfl ?_
  have hF0 := Fr.rf fm_m123_739 M0
  generalize hQ : (qI fun z M => Pw M ∧ Fr fm_m123_739 M0 M ∧ 0 ≤ z ∧ z ≤ 1 ∧ (z = 1 → 0 ≤ p1 + (-1))) = Q
  refine wk_al0 r123_0 (wk_getfb r123_1 fd_739_0 (bf_739_0 hP0) ?_)
  intro v1 h3 h4 e2
  refine wk_ifne r123_4 ⟨by omega, by omega⟩ ?_ ?_
  · intro h5
    refine wk_al0 r123_16 (wk_getfi r123_17 fd_739_0 e2 ?_)
    refine wk_ifne r123_20 ⟨by omega, by omega⟩ ?_ ?_
    · intro h6
      refine wk_c1 r123_27 ?_
      subst hQ; exact wk_zret r123_28 (by decide) (⟨rfl, _, rfl, hP0, hF0, by omega, by omega, by omega⟩)
    · intro h7
      exfalso
      omega
  · intro h8
    refine wk_il1 r123_7 ?_
    refine wk_ifne r123_8 ⟨by omega, by omega⟩ ?_ ?_
    · intro h9
      refine wk_al0 r123_16 (wk_getfi r123_17 fd_739_0 e2 ?_)
      refine wk_ifne r123_20 ⟨by omega, by omega⟩ ?_ ?_
      · intro h10
        exfalso
        omega
      · intro h11
        refine wk_c1 r123_23 (wk_goto r123_24 ?_)
        subst hQ; exact wk_zret r123_28 (by decide) (⟨rfl, _, rfl, hP0, hF0, by omega, by omega, by omega⟩)
    · intro h12
      refine wk_al0 r123_11 (wk_il2 r123_12 (wk_putfi81 r123_13 fd_739_0 (wk_nw g_739_0 rfl hP0 hF0 (uf_739_0 ⟨by omega, by omega⟩) ?_)))
      intro M13 hP14 hF15 e16
      refine wk_al0 r123_16 (wk_getfi r123_17 fd_739_0 (mUp_at e16) ?_)
      refine wk_ifne r123_20 ⟨by omega, by omega⟩ ?_ ?_
      · intro h17
        refine wk_c1 r123_27 ?_
        subst hQ; exact wk_zret r123_28 (by decide) (⟨rfl, _, rfl, hP14, hF15, by omega, by omega, by omega⟩)
      · intro h18
        exfalso
        omega
def fm_m115 : Nat := 0
/-- IslandHallModel.one -/
theorem m115 {B : eB} (d : Nat) (M0 : Mm) (p0 : Int) (hP0 : Pw M0) (l0 : 0 ≤ p0) (u0 : p0 ≤ 0) : Ct B (d + 1) 115 [I p0] M0 (qI fun z M => Pw M ∧ Fr fm_m115 M0 M ∧ 0 ≤ z ∧ z ≤ 0) := by
  refine ct_of (d := d + 0) (k := 0) (L := [some (I p0)]) rfl rfl rfl ?_
  have hF0 := Fr.rf fm_m115 M0
  generalize hQ : (qI fun z M => Pw M ∧ Fr fm_m115 M0 M ∧ 0 ≤ z ∧ z ≤ 0) = Q
  refine wk_il0 r115_0 ?_
  refine wk_ifeq r115_1 ⟨by omega, by omega⟩ ?_ ?_
  · intro h1
    refine wk_c1 r115_8 ?_
    subst hQ; exact wk_iret r115_9 (⟨rfl, _, rfl, hP0, hF0, by omega, by omega⟩)
  · intro h2
    exfalso
    omega
def fm_m115v1 : Nat := 0
/-- IslandHallModel.one -/
theorem m115v1 {B : eB} (d : Nat) (M0 : Mm) (p0 : Int) (hP0 : Pw M0) (l0 : 0 ≤ p0) (u0 : p0 ≤ 1) : Ct B (d + 1) 115 [I p0] M0 (qI fun z M => Pw M ∧ Fr fm_m115v1 M0 M ∧ 0 ≤ z ∧ z ≤ 1) := by
  refine ct_of (d := d + 0) (k := 0) (L := [some (I p0)]) rfl rfl rfl ?_
  have hF0 := Fr.rf fm_m115v1 M0
  generalize hQ : (qI fun z M => Pw M ∧ Fr fm_m115v1 M0 M ∧ 0 ≤ z ∧ z ≤ 1) = Q
  refine wk_il0 r115_0 ?_
  refine wk_ifeq r115_1 ⟨by omega, by omega⟩ ?_ ?_
  · intro h1
    refine wk_c1 r115_8 ?_
    subst hQ; exact wk_iret r115_9 (⟨rfl, _, rfl, hP0, hF0, by omega, by omega⟩)
  · intro h2
    refine wk_c1 r115_4 (wk_goto r115_5 ?_)
    subst hQ; exact wk_iret r115_9 (⟨rfl, _, rfl, hP0, hF0, by omega, by omega⟩)
def fm_m61_739 : Nat := 11692013098647223345629478661730264157247460343808
/-- IslandHallModel.count -/
theorem m61_739 {B : eB} (d : Nat) (M0 : Mm) (p1 : Int) (hP0 : Pw M0) (l1 : (-2147483648) ≤ p1) (u1 : p1 ≤ 2147483647) : Ct B (d + 2) 61 [R 739, I p1] M0 (qI fun z M => Pw M ∧ Fr fm_m61_739 M0 M ∧ 0 ≤ z ∧ z ≤ 500) := by
  refine ct_of (d := d + 1) (k := 0) (L := [some (R 739), some (I p1)]) rfl rfl rfl ?_
  have hF0 := Fr.rf fm_m61_739 M0
  generalize hQ : (qI fun z M => Pw M ∧ Fr fm_m61_739 M0 M ∧ 0 ≤ z ∧ z ≤ 500) = Q
  refine wk_al0 r61_0 (wk_c1 r61_1 (wk_putfi81 r61_2 fd_739_0 (wk_nw g_739_0 rfl hP0 hF0 (uf_739_0 (by decide)) ?_)))
  intro M1 hP2 hF3 e4
  refine wk_al0 r61_5 (wk_il1 r61_6 ?_)
  have c21_79 : ∀ (v10 : Int), 0 ≤ v10 → v10 ≤ 1 → Wp B (d + 1) 61 21 [some (R 739), some (I p1)] [I v10, R 739] M1 Q := by
    intro v10 h11 h12
    refine wk_c1 r61_21 (wk_cv3 r61_22 kc_739_123 rfl (m123_739 _ M1 v10 1 hP2 (by omega) (by omega) (by decide) (by decide)) (cqI ?_))
    rintro v18 M13 ⟨hP14, hQ15, h19, h20, h17⟩
    have hF16 : Fr fm_m61_739 M0 M13 := hF3.tr hQ15 rfl
    refine wk_ifne r61_25 ⟨by omega, by omega⟩ ?_ ?_
    · intro h21
      refine wk_il1 r61_30 ?_
      refine wk_sw5 r61_31 ⟨by omega, by omega⟩ ?_ ?_ ?_ ?_ ?_ ?_ ?_ ?_
      · intro h22
        refine wk_al0 r61_107 (wk_getfb r61_108 fd_739_24 (bf_739_24 hP14) ?_)
        intro v23 h25 h26 e24
        refine wk_c1 r61_111 ?_
        refine wk_iceq r61_112 ⟨by omega, by omega⟩ (by decide) ?_ ?_
        · intro h27
          refine wk_c1 r61_119 (wk_cs102_1 r61_120 rfl (m115 _ M13 0 hP14 (by decide) (by decide)) (cqI ?_))
          rintro v32 M28 ⟨hP29, hQ30, h33, h34⟩
          obtain rfl := Fr.same hQ30
          subst hQ; exact wk_iret r61_123 (⟨rfl, _, rfl, hP14, hF16, by omega, by omega⟩)
        · intro h35
          refine wk_c1 r61_115 (wk_goto r61_116 (wk_cs102_1 r61_120 rfl (m115v1 _ M13 1 hP14 (by decide) (by decide)) (cqI ?_)))
          rintro v40 M36 ⟨hP37, hQ38, h41, h42⟩
          obtain rfl := Fr.same hQ38
          subst hQ; exact wk_iret r61_123 (⟨rfl, _, rfl, hP14, hF16, by omega, by omega⟩)
      · intro h43
        refine wk_al0 r61_72 (wk_getfb r61_73 fd_739_1 (bf_739_1 hP14) ?_)
        intro v44 h46 h47 e45
        subst hQ; exact wk_iret r61_76 (⟨rfl, _, rfl, hP14, hF16, by omega, by omega⟩)
      · intro h48
        refine wk_al0 r61_77 (wk_getfb r61_78 fd_739_2 (bf_739_2 hP14) ?_)
        intro v49 h51 h52 e50
        subst hQ; exact wk_iret r61_81 (⟨rfl, _, rfl, hP14, hF16, by omega, by omega⟩)
      · intro h53
        refine wk_al0 r61_82 (wk_getfb r61_83 fd_739_13 (bf_739_13 hP14) ?_)
        intro v54 h56 h57 e55
        subst hQ; exact wk_iret r61_86 (⟨rfl, _, rfl, hP14, hF16, by omega, by omega⟩)
      · intro h58
        refine wk_al0 r61_87 (wk_getfb r61_88 fd_739_15 (bf_739_15 hP14) ?_)
        intro v59 h61 h62 e60
        subst hQ; exact wk_iret r61_91 (⟨rfl, _, rfl, hP14, hF16, by omega, by omega⟩)
      · intro h63
        refine wk_al0 r61_92 (wk_getfb r61_93 fd_739_21 (bf_739_21 hP14) ?_)
        intro v64 h66 h67 e65
        subst hQ; exact wk_iret r61_96 (⟨rfl, _, rfl, hP14, hF16, by omega, by omega⟩)
      · intro h68
        refine wk_al0 r61_97 (wk_getfb r61_98 fd_739_27 (bf_739_27 hP14) ?_)
        intro v69 h71 h72 e70
        subst hQ; exact wk_iret r61_101 (⟨rfl, _, rfl, hP14, hF16, by omega, by omega⟩)
      · intro h73
        refine wk_al0 r61_102 (wk_getfb r61_103 fd_739_3 (bf_739_3 hP14) ?_)
        intro v74 h76 h77 e75
        subst hQ; exact wk_iret r61_106 (⟨rfl, _, rfl, hP14, hF16, by omega, by omega⟩)
    · intro h78
      refine wk_c1 r61_28 ?_
      subst hQ; exact wk_iret r61_29 (⟨rfl, _, rfl, hP14, hF16, by omega, by omega⟩)
  have c20_9 : Wp B (d + 1) 61 20 [some (R 739), some (I p1)] [R 739] M1 Q := by
    refine wk_c1 r61_20 ?_
    exact wp_fg (le_s (le_s le_0)) (c21_79 0 (by omega) (by omega))
  refine wk_iflt r61_7 ⟨by omega, by omega⟩ ?_ ?_
  · intro h5
    exact wp_fg (le_s (le_s le_0)) c20_9
  · intro h6
    refine wk_il1 r61_10 (wk_c2 r61_11 ?_)
    refine wk_icgt r61_13 ⟨by omega, by omega⟩ (by decide) ?_ ?_
    · intro h7
      exact wp_fg (le_s (le_s le_0)) c20_9
    · intro h8
      refine wk_c1 r61_16 (wk_goto r61_17 ?_)
      exact wp_fg (le_s (le_s le_0)) (c21_79 1 (by omega) (by omega))
def fm_m90_739 : Nat := 11692013098647223345629478661730264157247460343808
/-- IslandHallModel.isWho -/
theorem m90_739 {B : eB} (d : Nat) (M0 : Mm) (p1 : Int) (hP0 : Pw M0) (l1 : (-2147483648) ≤ p1) (u1 : p1 ≤ 2147483647) : Ct B (d + 2) 90 [R 739, I p1] M0 (qI fun z M => Pw M ∧ Fr fm_m90_739 M0 M ∧ 0 ≤ z ∧ z ≤ 1 ∧ (z = 1 → 0 ≤ p1) ∧ (z = 1 → 0 ≤ M 739 1 + (-1) * p1 + (-1))) := by
  refine ct_of (d := d + 1) (k := 0) (L := [some (R 739), some (I p1)]) rfl rfl rfl ?_
  have hF0 := Fr.rf fm_m90_739 M0
  generalize hQ : (qI fun z M => Pw M ∧ Fr fm_m90_739 M0 M ∧ 0 ≤ z ∧ z ≤ 1 ∧ (z = 1 → 0 ≤ p1) ∧ (z = 1 → 0 ≤ M 739 1 + (-1) * p1 + (-1))) = Q
  refine wk_al0 r90_0 (wk_il1 r90_1 ?_)
  refine wk_iflt r90_2 ⟨by omega, by omega⟩ ?_ ?_
  · intro h1
    refine wk_c1 r90_17 (wk_c1 r90_18 (wk_cv3 r90_19 kc_739_123 rfl (m123_739 _ M0 0 1 hP0 (by decide) (by decide) (by decide) (by decide)) (cqI ?_)))
    rintro v7 M2 ⟨hP3, hQ4, h8, h9, h6⟩
    have hF5 : Fr fm_m90_739 M0 M2 := hF0.tr hQ4 rfl
    subst hQ; exact wk_zret r90_22 ⟨by omega, by omega⟩ (⟨rfl, _, rfl, hP3, hF5, by omega, by omega, by omega, by omega⟩)
  · intro h10
    refine wk_il1 r90_5 (wk_al0 r90_6 (wk_getfb r90_7 fd_739_1 (bf_739_1 hP0) ?_))
    intro v11 h13 h14 e12
    refine wk_icge r90_10 ⟨by omega, by omega⟩ ⟨by omega, by omega⟩ ?_ ?_
    · intro h15
      refine wk_c1 r90_17 (wk_c1 r90_18 (wk_cv3 r90_19 kc_739_123 rfl (m123_739 _ M0 0 1 hP0 (by decide) (by decide) (by decide) (by decide)) (cqI ?_)))
      rintro v21 M16 ⟨hP17, hQ18, h22, h23, h20⟩
      have hF19 : Fr fm_m90_739 M0 M16 := hF0.tr hQ18 rfl
      subst hQ; exact wk_zret r90_22 ⟨by omega, by omega⟩ (⟨rfl, _, rfl, hP17, hF19, by omega, by omega, by omega, by omega⟩)
    · intro h24
      refine wk_c1 r90_13 (wk_goto r90_14 (wk_c1 r90_18 (wk_cv3 r90_19 kc_739_123 rfl (m123_739 _ M0 1 1 hP0 (by decide) (by decide) (by decide) (by decide)) (cqI ?_))))
      rintro v30 M25 ⟨hP26, hQ27, h31, h32, h29⟩
      have hF28 : Fr fm_m90_739 M0 M25 := hF0.tr hQ27 rfl
      subst hQ; exact wk_zret r90_22 ⟨by omega, by omega⟩ (⟨rfl, _, rfl, hP26, hF28, by omega, by omega, by omega, by have := ((hQ27.at g_739_1 rfl).trans e12); omega⟩)
def fm_m44_739 : Nat := 0
/-- IslandHallModel.all -/
theorem m44_739 {B : eB} (d : Nat) (M0 : Mm) (hP0 : Pw M0)  : Ct B (d + 1) 44 [R 739] M0 (qI fun z M => Pw M ∧ Fr fm_m44_739 M0 M ∧ 0 ≤ z ∧ z ≤ 4095) := by
  refine ct_of (d := d + 0) (k := 0) (L := [some (R 739)]) rfl rfl rfl ?_
  have hF0 := Fr.rf fm_m44_739 M0
  generalize hQ : (qI fun z M => Pw M ∧ Fr fm_m44_739 M0 M ∧ 0 ≤ z ∧ z ≤ 4095) = Q
  refine wk_c1 r44_0 (wk_al0 r44_1 (wk_getfb r44_2 fd_739_15 (bf_739_15 hP0) ?_))
  intro v1 h3 h4 e2
  refine wk_shl1 12 4096 r44_5 ⟨by omega, by omega⟩ ⟨pwl_12, by decide⟩ ?_
  intro v5 h6 h7 h8
  refine wk_c1 r44_6 (wk_isub r44_7 ?_)
  subst hQ; exact wk_iret r44_8 (⟨rfl, _, rfl, hP0, hF0, by omega, by omega⟩)
def fm_m83_739v8 : Nat := 0
/-- IslandHallModel.isFit -/
theorem m83_739v8 {B : eB} (d : Nat) (M0 : Mm) (p1 : Int) (hP0 : Pw M0) (l1 : 0 ≤ p1) (u1 : p1 ≤ 2999) : Ct B (d + 2) 83 [R 739, I p1] M0 (qI fun z M => Pw M ∧ Fr fm_m83_739v8 M0 M ∧ 0 ≤ z ∧ z ≤ 1) := by
  refine ct_of (d := d + 1) (k := 0) (L := [some (R 739), some (I p1)]) rfl rfl rfl ?_
  have hF0 := Fr.rf fm_m83_739v8 M0
  generalize hQ : (qI fun z M => Pw M ∧ Fr fm_m83_739v8 M0 M ∧ 0 ≤ z ∧ z ≤ 1) = Q
  refine wk_al0 r83_0 (wk_getfr r83_1 fd_739_20 (br_739_20 hP0) (wk_il1 r83_4 (wk_ialdb r83_5 ar_752 ⟨by omega, by omega⟩ (fun q0 q1 => ba_752 hP0 q0 q1) ?_)))
  intro v1 h3 h4 e2
  refine wk_al0 r83_6 (wk_cv1 r83_7 kc_739_44 rfl (m44_739 _ M0 hP0) (cqI ?_))
  rintro v9 M5 ⟨hP6, hQ7, h10, h11⟩
  obtain rfl := Fr.same hQ7
  refine wk_icne r83_10 ⟨by omega, by omega⟩ ⟨by omega, by omega⟩ ?_ ?_
  · intro h12
    refine wk_c1 r83_17 ?_
    subst hQ; exact wk_zret r83_18 (by decide) (⟨rfl, _, rfl, hP0, hF0, by omega, by omega⟩)
  · intro h13
    refine wk_c1 r83_13 (wk_goto r83_14 ?_)
    subst hQ; exact wk_zret r83_18 (by decide) (⟨rfl, _, rfl, hP0, hF0, by omega, by omega⟩)
def fm_m94_739v8 : Nat := 0
/-- IslandHallModel.kindOf -/
theorem m94_739v8 {B : eB} (d : Nat) (M0 : Mm) (p1 : Int) (p2 : Int) (hP0 : Pw M0) (l1 : 0 ≤ p1) (u1 : p1 ≤ 2999) (l2 : 0 ≤ p2) (u2 : p2 ≤ 6) : Ct B (d + 1) 94 [R 739, I p1, I p2] M0 (qI fun z M => Pw M ∧ Fr fm_m94_739v8 M0 M ∧ 0 ≤ z ∧ z ≤ 7) := by
  refine ct_of (d := d + 0) (k := 0) (L := [some (R 739), some (I p1), some (I p2)]) rfl rfl rfl ?_
  have hF0 := Fr.rf fm_m94_739v8 M0
  generalize hQ : (qI fun z M => Pw M ∧ Fr fm_m94_739v8 M0 M ∧ 0 ≤ z ∧ z ≤ 7) = Q
  refine wk_al0 r94_0 (wk_getfr r94_1 fd_739_8 (br_739_8 hP0) (wk_il1 r94_4 (wk_ialdb r94_5 ar_742 ⟨by omega, by omega⟩ (fun q0 q1 => ba_742 hP0 q0 q1) ?_)))
  intro v1 h3 h4 e2
  refine wk_c1 r94_6 (wk_il2 r94_7 (wk_imul r94_8 (wk_shrb r94_9 ⟨by omega, by omega⟩ ⟨by omega, by omega⟩ ?_)))
  intro v5 h6 h7 h8
  refine wk_c2 r94_10 (wk_iandc 3 8 r94_12 ⟨rfl, by decide⟩ rfl ?_)
  subst hQ; exact wk_iret r94_13 (⟨rfl, _, rfl, hP0, hF0, by omega, by omega⟩)
def fm_m110_739 : Nat := 11692013098647223345629478661730264157247460343808
/-- IslandHallModel.may -/
theorem m110_739 {B : eB} (d : Nat) (M0 : Mm) (p1 : Int) (p2 : Int) (hP0 : Pw M0) (l1 : (-2147483648) ≤ p1) (u1 : p1 ≤ 2147483647) (l2 : (-2147483648) ≤ p2) (u2 : p2 ≤ 2147483647) : Ct B (d + 3) 110 [R 739, I p1, I p2] M0 (qI fun z M => Pw M ∧ Fr fm_m110_739 M0 M ∧ 0 ≤ z ∧ z ≤ 255) := by
  refine ct_of (d := d + 2) (k := 2) (L := [some (R 739), some (I p1), some (I p2), none, none]) rfl rfl rfl ?_
  have hF0 := Fr.rf fm_m110_739 M0
  generalize hQ : (qI fun z M => Pw M ∧ Fr fm_m110_739 M0 M ∧ 0 ≤ z ∧ z ≤ 255) = Q
  refine wk_al0 r110_0 (wk_c1 r110_1 (wk_putfi81 r110_2 fd_739_0 (wk_nw g_739_0 rfl hP0 hF0 (uf_739_0 (by decide)) ?_)))
  intro M1 hP2 hF3 e4
  refine wk_al0 r110_5 (wk_il1 r110_6 (wk_cv2 r110_7 kc_739_90 rfl (m90_739 _ M1 p1 hP2 (by omega) (by omega)) (cqI ?_)))
  rintro v11 M5 ⟨hP6, hQ7, h12, h13, h9, h10⟩
  have hF8 : Fr fm_m110_739 M0 M5 := hF3.tr hQ7 rfl
  obtain ⟨v14, e15⟩ : ∃ v, M5 739 1 = v := ⟨_, rfl⟩
  have h16 := bf_739_1 hP6; rw [e15] at h16
  refine wk_ifeq r110_10 ⟨by omega, by omega⟩ ?_ ?_
  · intro h17
    refine wk_c1 r110_35 ?_
    subst hQ; exact wk_iret r110_36 (⟨rfl, _, rfl, hP6, hF8, by omega, by omega⟩)
  · intro h18
    refine wk_al0 r110_13 (wk_il2 r110_14 ?_)
    have c28_428 : ∀ (v26 : Int), 0 ≤ v26 → v26 ≤ 1 → Wp B (d + 2) 110 28 [some (R 739), some (I p1), some (I p2), none, none] [I v26, R 739] M5 Q := by
      intro v26 h27 h28
      refine wk_c1 r110_28 (wk_cv3 r110_29 kc_739_123 rfl (m123_739 _ M5 v26 1 hP6 (by omega) (by omega) (by decide) (by decide)) (cqI ?_))
      rintro v34 M29 ⟨hP30, hQ31, h35, h36, h33⟩
      have hF32 : Fr fm_m110_739 M0 M29 := hF8.tr hQ31 rfl
      refine wk_ifne r110_32 ⟨by omega, by omega⟩ ?_ ?_
      · intro h37
        refine wk_il2 r110_37 ?_
        refine wk_ifne r110_38 ⟨by omega, by omega⟩ ?_ ?_
        · intro h38
          refine wk_c1 r110_48 (wk_is3 r110_49 rfl (wk_c1 r110_50 (wk_is4 r110_51 rfl ?_)))
          have c53_421 : ∀ (k421 : Nat) (v383 : Int) (v386 : Int), (3000 - v386).toNat = k421 → 0 ≤ v383 → v383 ≤ 255 → 0 ≤ v386 → v386 ≤ 3000 → Wp B (d + 2) 110 53 [some (R 739), some (I p1), none, some (I v383), some (I v386)] [] M29 Q := by
            refine lp_ind ?_
            intro k421 ih421 v383 v386 hk421 h384 h385 h387 h388
            refine wk_il4 r110_53 (wk_al0 r110_55 (wk_getfb r110_56 fd_739_7 (bf_739_7 hP30) ?_))
            intro v389 h391 h392 e390
            refine wk_icge r110_59 ⟨by omega, by omega⟩ ⟨by omega, by omega⟩ ?_ ?_
            · intro h393
              refine wk_il3 r110_89 ?_
              subst hQ; exact wk_iret r110_90 (⟨rfl, _, rfl, hP30, hF32, by omega, by omega⟩)
            · intro h394
              refine wk_al0 r110_62 (wk_il4 r110_63 (wk_cv2 r110_65 kc_739_83 rfl (m83_739v8 _ M29 v386 hP30 (by omega) (by omega)) (cqI ?_)))
              rintro v399 M395 ⟨hP396, hQ397, h400, h401⟩
              obtain rfl := Fr.same hQ397
              refine wk_ifeq r110_68 ⟨by omega, by omega⟩ ?_ ?_
              · intro h402
                refine wk_inc4 r110_83 rfl (wk_goto r110_86 ?_)
                exact wp_fg (le_s (le_s (le_s (le_s (le_s le_0))))) (ih421 (3000 - (v386 + 1)).toNat (by omega) v383 (v386 + 1) rfl (by omega) (by omega) (by omega) (by omega))
              · intro h403
                refine wk_il3 r110_71 (wk_c1 r110_72 (wk_al0 r110_73 (wk_il4 r110_74 (wk_il1 r110_76 (wk_cv3 r110_77 kc_739_94 rfl (m94_739v8 _ M29 v386 p1 hP30 (by omega) (by omega) (by omega) (by omega)) (cqI ?_))))))
                rintro v408 M404 ⟨hP405, hQ406, h409, h410⟩
                obtain rfl := Fr.same hQ406
                refine wk_shl1 7 128 r110_80 ⟨by omega, by omega⟩ ⟨pwl_7, by decide⟩ ?_
                intro v411 h412 h413 h414
                refine wk_ior 8 256 r110_81 (by decide) ⟨by omega, by omega⟩ ⟨by omega, by omega⟩ ?_
                intro v415 h416 h417 h418 h419 h420
                refine wk_is3 r110_82 rfl (wk_inc4 r110_83 rfl (wk_goto r110_86 ?_))
                exact wp_fg (le_s (le_s (le_s (le_s (le_s le_0))))) (ih421 (3000 - (v386 + 1)).toNat (by omega) v415 (v386 + 1) rfl (by omega) (by omega) (by omega) (by omega))
          exact wp_fg (le_s (le_s (le_n (le_s (le_s le_0))))) (c53_421 _ 0 0 rfl (by omega) (by omega) (by omega) (by omega))
        · intro h422
          refine wk_al0 r110_41 (wk_getfr r110_42 fd_739_5 (br_739_5 hP30) (wk_il1 r110_45 (wk_ialdb r110_46 ar_740 ⟨by omega, by omega⟩ (fun q0 q1 => ba_740 hP30 q0 q1) ?_)))
          intro v423 h425 h426 e424
          subst hQ; exact wk_iret r110_47 (⟨rfl, _, rfl, hP30, hF32, by omega, by omega⟩)
      · intro h427
        refine wk_c1 r110_35 ?_
        subst hQ; exact wk_iret r110_36 (⟨rfl, _, rfl, hP30, hF32, by omega, by omega⟩)
    have c23_25 : 0 ≤ p2 → p2 ≤ 1 → Wp B (d + 2) 110 23 [some (R 739), some (I p1), some (I p2), none, none] [R 739] M5 Q := by
      intro h23 h24
      refine wk_c1 r110_23 (wk_goto r110_24 ?_)
      exact wp_fg (le_s (le_s (le_s (le_s (le_s le_0))))) (c28_428 1 (by omega) (by omega))
    refine wk_ifeq r110_15 ⟨by omega, by omega⟩ ?_ ?_
    · intro h19
      exact wp_fg (le_s (le_s (le_s (le_s (le_s le_0))))) (c23_25 (by omega) (by omega))
    · intro h20
      refine wk_il2 r110_18 (wk_c1 r110_19 ?_)
      refine wk_icne r110_20 ⟨by omega, by omega⟩ (by decide) ?_ ?_
      · intro h21
        refine wk_c1 r110_27 ?_
        exact wp_fg (le_s (le_s (le_s (le_s (le_s le_0))))) (c28_428 0 (by omega) (by omega))
      · intro h22
        exact wp_fg (le_s (le_s (le_s (le_s (le_s le_0))))) (c23_25 (by omega) (by omega))
