/-! ===== written by program (wip/layer3/model.py): contracts of methods ===== -/
def fm_m9063_739 : Nat := 452312848584500516791315064721803366938753890478895505178356372428422119424
/-- IslandHallModel.drops -/
theorem m9063_739 {B : eB} (d : Nat) (M0 : Mm) (p1 : Int) (x739_45 : Int) (x739_46 : Int) (x739_47 : Int) (s0 : Int) (u0 : Int → Int) (hP0 : Pw M0) (l1 : 1 ≤ p1) (u1 : p1 ≤ 2) (ex739_45 : M0 739 45 = x739_45) (lx739_45 : 0 ≤ x739_45) (ux739_45 : x739_45 ≤ 1000) (ex739_46 : M0 739 46 = x739_46) (lx739_46 : 0 ≤ x739_46) (ux739_46 : x739_46 ≤ 520) (ex739_47 : M0 739 47 = x739_47) (lx739_47 : 0 ≤ x739_47) (ux739_47 : x739_47 ≤ 500) (rp0 : 0 ≤ (-2) * x739_45 + (-2) * x739_46 + 520) (pp_E1 : GE M0 s0 u0 1 0) : Ct B (d + 2) 63 [R 739, I p1] M0 (qV fun M => Pw M ∧ Fr fm_m9063_739 M0 M ∧ 0 ≤ M 739 45 + M 739 46 + (-1) * x739_45 + (-1) * x739_46 ∧ 0 ≤ (-1) * (M 739 45) + (-1) * (M 739 46) + x739_45 + x739_46 ∧ 0 ≤ x739_46 + (-1) * (M 739 46) ∧ (p1 = 1 → M 739 46 = 0 ∨ M 758 (M 739 46 - 1) % 16 = 14) ∧ (GE M s0 u0 1 0)) := by
  refine ct_of (d := d + 1) (k := 0) (L := [some (R 739), some (I p1)]) rfl rfl rfl ?_
  have hF0 := Fr.rf fm_m9063_739 M0
  generalize hQ : (qV fun M => Pw M ∧ Fr fm_m9063_739 M0 M ∧ 0 ≤ M 739 45 + M 739 46 + (-1) * x739_45 + (-1) * x739_46 ∧ 0 ≤ (-1) * (M 739 45) + (-1) * (M 739 46) + x739_45 + x739_46 ∧ 0 ≤ x739_46 + (-1) * (M 739 46) ∧ (p1 = 1 → M 739 46 = 0 ∨ M 758 (M 739 46 - 1) % 16 = 14) ∧ (GE M s0 u0 1 0)) = Q
  have c0_107 : ∀ (k107 : Nat) (M50 : Mm) (v53 : Int) (v57 : Int), (260 - v53).toNat = k107 → Pw M50 → Fr fm_m9063_739 M0 M50 → M50 739 45 = v53 → M50 739 46 = v57 → M50 739 47 = x739_47 → 0 ≤ v53 → v53 ≤ 260 → 0 ≤ v57 → v57 ≤ 260 → (GE M50 s0 u0 1 0) → 0 ≤ v53 + v57 + (-1) * x739_45 + (-1) * x739_46 → 0 ≤ (-1) * v53 + (-1) * v57 + x739_45 + x739_46 → 0 ≤ x739_46 + (-1) * v57 → 0 ≤ (-1) * v53 + v57 + 260 → 0 ≤ (-1) * v57 + v53 + 260 → Wp B (d + 1) 63 0 [some (R 739), some (I p1)] [] M50 Q := by
    refine lp_ind ?_
    intro k107 ih107 M50 v53 v57 hk107 hP51 hF52 e56 e60 e61 h54 h55 h58 h59 pr62 h63 h64 h65 h66 h67
    refine wk_al0 r63_0 (wk_getfi r63_1 fd_739_46 e60 ?_)
    refine wk_ifle r63_4 ⟨by omega, by omega⟩ ?_ ?_
    · intro h68
      subst hQ; exact wk_ret r63_78 (⟨rfl, hP51, hF52, by have := e56; have := e60; omega, by have := e56; have := e60; omega, by have := e60; omega, fun _ => Or.inl (by have := e60; omega), pr62⟩)
    · intro h69
      refine wk_al0 r63_7 (wk_getfr r63_8 fd_739_50 (br_739_50 hP51) (wk_al0 r63_11 (wk_getfi r63_12 fd_739_46 e60 (wk_c1 r63_15 (wk_isub r63_16 (wk_ialdb r63_17 ar_758 ⟨by omega, by omega⟩ (fun q0 q1 => ba_758 hP51 q0 q1) ?_))))))
      intro v70 h72 h73 e71
      refine wk_c2 r63_18 (wk_irem r63_20 ⟨by omega, by omega⟩ (by decide) (wk_cs102_1 r63_21 rfl (m9130 _ M50 (v70 % 16) hP51 (by omega) (by omega)) (cqI ?_)))
      rintro v80 M75 ⟨hP76, hQ77, h81, h82, xh79⟩
      obtain rfl := Fr.same hQ77
      refine wk_il1 r63_24 ?_
      refine wk_iclt r63_25 ⟨by omega, by omega⟩ ⟨by omega, by omega⟩ ?_ ?_
      · intro h83
        subst hQ; exact wk_ret r63_78 (⟨rfl, hP51, hF52, by have := e56; have := e60; omega, by have := e56; have := e60; omega, by have := e60; omega, fun q => Or.inr (by rw [e60, e71]; omega), pr62⟩)
      · intro h84
        refine wk_al0 r63_28 (wk_getfr r63_29 fd_739_50 (br_739_50 hP51) (wk_al0 r63_32 (wk_getfi r63_33 fd_739_46 e60 (wk_c1 r63_36 (wk_isub r63_37 (wk_iald r63_38 ar_758 ⟨by omega, by omega⟩ e71 (wk_c2 r63_39 (wk_irem r63_41 ⟨by omega, by omega⟩ (by decide) (wk_c2 r63_42 ?_)))))))))
        refine wk_iceq r63_44 ⟨by omega, by omega⟩ (by decide) ?_ ?_
        · intro h85
          subst hQ; exact wk_ret r63_78 (⟨rfl, hP51, hF52, by have := e56; have := e60; omega, by have := e56; have := e60; omega, by have := e60; omega, fun q => Or.inr (by rw [e60, e71]; omega), pr62⟩)
        · intro h86
          have dE : GE M50 s0 u0 1 0 := pr62
          have dW : M50 739 46 = v57 := e60
          refine wk_al0 r63_47 (wk_dupr r63_48 (wk_getfi r63_49 fd_739_46 e60 (wk_c1 r63_52 (wk_isub r63_53 (wk_putfi81 r63_54 fd_739_46 (wk_nw g_739_46 rfl hP51 hF52 (uf_739_46 ⟨by omega, by omega⟩) ?_))))))
          intro M87 hP88 hF89 e90
          refine wk_al0 r63_57 (wk_al0 r63_58 (wk_getfr r63_59 fd_739_50 (br_739_50 hP88) (wk_al0 r63_62 (wk_getfi r63_63 fd_739_46 (mUp_at e90) (wk_ialdb r63_66 ar_758 ⟨by omega, by omega⟩ (fun q0 q1 => ba_758 hP88 q0 q1) ?_)))))
          intro v91 h93 h94 e92
          have dV : M87 758 (v57 - 1) = v91 := e92
          have dq : v91 = v70 := dV.symm.trans (mUp_no e90 e71 (Or.inl (by decide)))
          refine wk_c2 r63_67 (wk_irem r63_69 ⟨by omega, by omega⟩ (by decide) (wk_c1 r63_70 (wk_c1 r63_71 (wk_cv4 r63_72 kc_739_117 rfl (m9117_739 _ M87 (v91 % 16) 0 0 v53 hP88 (by omega) (by omega) (by decide) (by decide) (by decide) (by decide) (mUp_no e90 e56 (Or.inr (by decide))) (by first | assumption | omega) (by first | assumption | omega)) (cqV ?_)))))
          rintro M96 ⟨hP97, hQ98, h100, h101, xh102⟩
          have hF99 : Fr fm_m9063_739 M0 M96 := hF89.tr hQ98 rfl
          obtain ⟨v103, e104⟩ : ∃ v, M96 739 45 = v := ⟨_, rfl⟩
          have h105 := bf_739_45 hP97; rw [e104] at h105
          have pr106 : GE M96 s0 u0 1 0 := GE_drop dE dW (by omega) e90 dV (by omega) xh102 (by omega)
          refine wk_goto r63_75 ?_
          exact wp_fg (le_s (le_s le_0)) (ih107 (260 - v103).toNat (by omega) M96 v103 (v57 - 1) rfl hP97 hF99 e104 ((hQ98.at g_739_46 rfl).trans (mUp_at e90)) ((hQ98.at g_739_47 rfl).trans (mUp_no e90 e61 (Or.inr (by decide)))) (by first | assumption | omega) (by first | assumption | omega) (by first | assumption | omega) (by first | assumption | omega) pr106 (by first | assumption | omega) (by first | assumption | omega) (by first | assumption | omega) (by first | assumption | omega) (by first | assumption | omega))
  exact wp_fg (le_s (le_s le_0)) (c0_107 _ M0 x739_45 x739_46 rfl hP0 hF0 ex739_45 ex739_46 ex739_47 (by first | assumption | omega) (by first | assumption | omega) (by first | assumption | omega) (by first | assumption | omega) pp_E1 (by first | assumption | omega) (by first | assumption | omega) (by first | assumption | omega) (by first | assumption | omega) (by first | assumption | omega))
def fm_m9047_739 : Nat := 452312848583680962695988641214575056682186339532443141395638536922332135424
set_option maxHeartbeats 20000000 in
/-- IslandHallModel.atom -/
theorem m9047_739 {B : eB} (d : Nat) (M0 : Mm) (x739_30 : Int) (x739_31 : Int) (x739_33 : Int) (x739_34 : Int) (x739_32 : Int) (x739_28 : Int) (x739_45 : Int) (x739_46 : Int) (x739_47 : Int) (x739_35 : Int) (x739_36 : Int) (s0 : Int) (u0 : Int → Int) (hP0 : Pw M0) (ex739_30 : M0 739 30 = x739_30) (lx739_30 : 0 ≤ x739_30) (ux739_30 : x739_30 ≤ 500) (ex739_31 : M0 739 31 = x739_31) (lx739_31 : 0 ≤ x739_31) (ux739_31 : x739_31 ≤ 500) (ex739_33 : M0 739 33 = x739_33) (lx739_33 : 0 ≤ x739_33) (ux739_33 : x739_33 ≤ 500) (ex739_34 : M0 739 34 = x739_34) (lx739_34 : 0 ≤ x739_34) (ux739_34 : x739_34 ≤ 500) (ex739_32 : M0 739 32 = x739_32) (lx739_32 : 0 ≤ x739_32) (ux739_32 : x739_32 ≤ 4) (ex739_28 : M0 739 28 = x739_28) (lx739_28 : 0 ≤ x739_28) (ux739_28 : x739_28 ≤ 6) (ex739_45 : M0 739 45 = x739_45) (lx739_45 : 0 ≤ x739_45) (ux739_45 : x739_45 ≤ 1000) (ex739_46 : M0 739 46 = x739_46) (lx739_46 : 0 ≤ x739_46) (ux739_46 : x739_46 ≤ 520) (ex739_47 : M0 739 47 = x739_47) (lx739_47 : 0 ≤ x739_47) (ux739_47 : x739_47 ≤ 500) (ex739_35 : M0 739 35 = x739_35) (lx739_35 : 0 ≤ x739_35) (ux739_35 : x739_35 ≤ 999) (ex739_36 : M0 739 36 = x739_36) (lx739_36 : 0 ≤ x739_36) (ux739_36 : x739_36 ≤ 255) (rp0 : 0 ≤ x739_30 + (-1) * x739_31) (rp1 : 0 ≤ x739_31 + (-1) * x739_33 + (-1) * x739_34) (rp2 : 0 ≤ (-1) * x739_31 + x739_33 + x739_34) (rp3 : 0 ≤ 4 * x739_34 + (-1) * x739_32) (rp4 : 0 ≤ x739_33 + x739_47 + (-2) * x739_45 + (-2) * x739_46 + 3000 * x739_28) (rp5 : 0 ≤ (-2) * x739_45 + (-2) * x739_46 + 520) (rp6 : 0 ≤ (-1) * x739_47 + x739_28 + 6) (pp_TK : TK M0) (pp_E0 : GE M0 s0 u0 0 0) : Ct B (d + 5) 47 [R 739] M0 (qV fun M => Pw M ∧ Fr fm_m9047_739 M0 M ∧ 0 ≤ M 739 30 + (-1) * (M 739 31) ∧ 0 ≤ M 739 31 + (-1) * (M 739 33) + (-1) * (M 739 34) ∧ 0 ≤ (-1) * (M 739 31) + M 739 33 + M 739 34 ∧ 0 ≤ 4 * (M 739 34) + (-1) * (M 739 32) ∧ 0 ≤ M 739 33 + (-1) * x739_33 ∧ 0 ≤ M 739 28 + (-1) * x739_28 ∧ 0 ≤ M 739 33 + M 739 47 + (-2) * (M 739 45) + (-2) * (M 739 46) + 3000 * (M 739 28) ∧ 0 ≤ (-2) * (M 739 45) + (-2) * (M 739 46) + 520 ∧ 0 ≤ (-1) * (M 739 47) + M 739 28 + 6 ∧ (TK M) ∧ (GE M s0 u0 1 0)) := by
  refine ct_of (d := d + 4) (k := 3) (L := [some (R 739), none, none, none]) rfl rfl rfl ?_
  have hF0 := Fr.rf fm_m9047_739 M0
  generalize hQ : (qV fun M => Pw M ∧ Fr fm_m9047_739 M0 M ∧ 0 ≤ M 739 30 + (-1) * (M 739 31) ∧ 0 ≤ M 739 31 + (-1) * (M 739 33) + (-1) * (M 739 34) ∧ 0 ≤ (-1) * (M 739 31) + M 739 33 + M 739 34 ∧ 0 ≤ 4 * (M 739 34) + (-1) * (M 739 32) ∧ 0 ≤ M 739 33 + (-1) * x739_33 ∧ 0 ≤ M 739 28 + (-1) * x739_28 ∧ 0 ≤ M 739 33 + M 739 47 + (-2) * (M 739 45) + (-2) * (M 739 46) + 3000 * (M 739 28) ∧ 0 ≤ (-2) * (M 739 45) + (-2) * (M 739 46) + 520 ∧ 0 ≤ (-1) * (M 739 47) + M 739 28 + 6 ∧ (TK M) ∧ (GE M s0 u0 1 0)) = Q
  refine wk_al0 r47_0 (wk_cv1 r47_1 kc_739_97 rfl (m9097_739 _ M0 x739_32 x739_34 hP0 ex739_32 (by first | assumption | omega) (by first | assumption | omega) ex739_34 (by first | assumption | omega) (by first | assumption | omega) pp_TK) (cqI ?_))
  rintro v6 M1 ⟨hP2, hQ3, h7, h8, h5⟩
  obtain rfl := Fr.same hQ3
  have e9 := ex739_34
  refine wk_is1 r47_4 rfl (wk_il1 r47_5 (wk_c2 r47_6 ?_))
  refine wk_iceq r47_8 ⟨by omega, by omega⟩ (by decide) ?_ ?_
  · intro h10
    refine wk_al0 r47_40 (wk_cv1 r47_41 kc_739_84 rfl (m9084_739 _ M0 x739_28 hP0 ex739_28 (by first | assumption | omega) (by first | assumption | omega)) (cqI ?_))
    rintro v17 M11 ⟨hP12, hQ13, h18, h19, h15, h16⟩
    obtain rfl := Fr.same hQ13
    have e20 := ex739_28
    refine wk_ifne r47_44 ⟨by omega, by omega⟩ ?_ ?_
    · intro h21
      refine wk_al0 r47_48 (wk_cv1 r47_49 kc_739_76 rfl (m9076_739 _ M0 x739_30 x739_31 hP0 ex739_30 (by first | assumption | omega) (by first | assumption | omega) ex739_31 (by first | assumption | omega) (by first | assumption | omega) (by omega)) (cqV ?_))
      rintro M22 ⟨hP23, hQ24, h26, h27, h28, h29, h30, pr31⟩
      have hF25 : Fr fm_m9047_739 M0 M22 := hF0.tr hQ24 rfl
      have e32 := ((hQ24.at g_739_30 rfl).trans ex739_30)
      obtain ⟨v33, e34⟩ : ∃ v, M22 739 31 = v := ⟨_, rfl⟩
      have h35 := bf_739_31 hP23; rw [e34] at h35
      obtain ⟨v36, e37⟩ : ∃ v, M22 739 33 = v := ⟨_, rfl⟩
      have h38 := bf_739_33 hP23; rw [e37] at h38
      obtain ⟨v39, e40⟩ : ∃ v, M22 739 34 = v := ⟨_, rfl⟩
      have h41 := bf_739_34 hP23; rw [e40] at h41
      obtain ⟨v42, e43⟩ : ∃ v, M22 739 32 = v := ⟨_, rfl⟩
      have h44 := bf_739_32 hP23; rw [e43] at h44
      refine wk_il1 r47_52 (wk_c2 r47_53 ?_)
      refine wk_icne r47_55 ⟨by omega, by omega⟩ (by decide) ?_ ?_
      · intro h45
        refine wk_il1 r47_157 (wk_c2 r47_158 ?_)
        refine wk_icne r47_160 ⟨by omega, by omega⟩ (by decide) ?_ ?_
        · intro h46
          exfalso
          omega
        · intro h47
          refine wk_c1 r47_163 (wk_goto r47_164 (wk_is2 r47_190 rfl (wk_al0 r47_191 (wk_il1 r47_192 (wk_c2 r47_193 ?_)))))
          refine wk_icne r47_195 ⟨by omega, by omega⟩ (by decide) ?_ ?_
          · intro h48
            exfalso
            omega
          · intro h49
            refine wk_c1 r47_198 (wk_goto r47_199 (wk_al0 r47_225 (wk_c1 r47_226 (wk_il2 r47_227 ?_))))
            obtain ⟨v50, e51⟩ : ∃ v, M22 739 35 = v := ⟨_, rfl⟩
            have h52 := bf_739_35 hP23; rw [e51] at h52
            refine wk_cv3 r47_228 kc_739_114 rfl (m9114_739 _ M22 0 3 x739_30 v33 v36 v39 v42 x739_28 v50 hP23 (by decide) (by decide) (by decide) (by decide) ((hQ24.at g_739_30 rfl).trans ex739_30) (by first | assumption | omega) (by first | assumption | omega) e34 (by first | assumption | omega) (by first | assumption | omega) e37 (by first | assumption | omega) (by first | assumption | omega) e40 (by first | assumption | omega) (by first | assumption | omega) e43 (by first | assumption | omega) (by first | assumption | omega) ((hQ24.at g_739_28 rfl).trans ex739_28) (by first | assumption | omega) (by first | assumption | omega) e51 (by first | assumption | omega) (by first | assumption | omega) (by omega) (by omega) (by omega) (by omega) pr31) (cqI ?_)
            rintro v67 M53 ⟨hP54, hQ55, h68, h69, h57, h58, h59, h60, h61, h62, h63, h64, h65, pr66⟩
            have hF56 : Fr fm_m9047_739 M0 M53 := hF25.tr hQ55 rfl
            have e70 := ((hQ55.at g_739_30 rfl).trans ((hQ24.at g_739_30 rfl).trans ex739_30))
            obtain ⟨v71, e72⟩ : ∃ v, M53 739 31 = v := ⟨_, rfl⟩
            have h73 := bf_739_31 hP54; rw [e72] at h73
            obtain ⟨v74, e75⟩ : ∃ v, M53 739 33 = v := ⟨_, rfl⟩
            have h76 := bf_739_33 hP54; rw [e75] at h76
            obtain ⟨v77, e78⟩ : ∃ v, M53 739 34 = v := ⟨_, rfl⟩
            have h79 := bf_739_34 hP54; rw [e78] at h79
            obtain ⟨v80, e81⟩ : ∃ v, M53 739 32 = v := ⟨_, rfl⟩
            have h82 := bf_739_32 hP54; rw [e81] at h82
            obtain ⟨v83, e84⟩ : ∃ v, M53 739 28 = v := ⟨_, rfl⟩
            have h85 := bf_739_28 hP54; rw [e84] at h85
            have pr86 : GE M53 s0 u0 0 0 := GE_mn (Sm.fr hQ55 rfl) (fun q => by have := ((hQ24.at g_739_28 rfl).trans ex739_28); have := e84; omega) (GE_sm (Sm.fr hQ24 rfl) pp_E0)
            refine wk_c1 r47_231 ?_
            have gk : M53 739 28 = v83 := e84
            refine wk_cv4 r47_232 kc_739_117 rfl (m9117_739 _ M53 3 v67 0 x739_45 hP54 (by decide) (by decide) (by omega) (by omega) (by decide) (by decide) ((hQ55.at g_739_45 rfl).trans ((hQ24.at g_739_45 rfl).trans ex739_45)) (by first | assumption | omega) (by first | assumption | omega)) (cqV ?_)
            rintro M87 ⟨hP88, hQ89, h91, h92, xh93⟩
            have hF90 : Fr fm_m9047_739 M0 M87 := hF56.tr hQ89 rfl
            obtain ⟨v94, e95⟩ : ∃ v, M87 739 45 = v := ⟨_, rfl⟩
            have h96 := bf_739_45 hP88; rw [e95] at h96
            have pr97 : GE M87 s0 u0 1 0 := GE_atom xh93 pr86 (fun q => by rw [gk] at q; exact ⟨by omega, by unfold refok; omega, by omega, by omega⟩)
            subst hQ; exact wk_ret r47_235 (⟨rfl, hP88, hF90, by have := ((hQ89.at g_739_30 rfl).trans ((hQ55.at g_739_30 rfl).trans ((hQ24.at g_739_30 rfl).trans ex739_30))); have := ((hQ89.at g_739_31 rfl).trans e72); omega, by have := ((hQ89.at g_739_31 rfl).trans e72); have := ((hQ89.at g_739_33 rfl).trans e75); have := ((hQ89.at g_739_34 rfl).trans e78); omega, by have := ((hQ89.at g_739_31 rfl).trans e72); have := ((hQ89.at g_739_33 rfl).trans e75); have := ((hQ89.at g_739_34 rfl).trans e78); omega, by have := ((hQ89.at g_739_34 rfl).trans e78); have := ((hQ89.at g_739_32 rfl).trans e81); omega, by have := ((hQ89.at g_739_33 rfl).trans e75); omega, by have := ((hQ89.at g_739_28 rfl).trans e84); omega, by have := ((hQ89.at g_739_33 rfl).trans e75); have := ((hQ89.at g_739_47 rfl).trans ((hQ55.at g_739_47 rfl).trans ((hQ24.at g_739_47 rfl).trans ex739_47))); have := e95; have := ((hQ89.at g_739_46 rfl).trans ((hQ55.at g_739_46 rfl).trans ((hQ24.at g_739_46 rfl).trans ex739_46))); have := ((hQ89.at g_739_28 rfl).trans e84); omega, by have := e95; have := ((hQ89.at g_739_46 rfl).trans ((hQ55.at g_739_46 rfl).trans ((hQ24.at g_739_46 rfl).trans ex739_46))); omega, by have := ((hQ89.at g_739_47 rfl).trans ((hQ55.at g_739_47 rfl).trans ((hQ24.at g_739_47 rfl).trans ex739_47))); have := ((hQ89.at g_739_28 rfl).trans e84); omega, (TK_sm (Sm.fr hQ89 rfl) pr66), pr97⟩)
      · intro h98
        exfalso
        omega
    · intro h99
      subst hQ; exact wk_ret r47_47 (⟨rfl, hP0, hF0, by have := ex739_30; have := ex739_31; omega, by have := ex739_31; have := ex739_33; have := ex739_34; omega, by have := ex739_31; have := ex739_33; have := ex739_34; omega, by have := ex739_34; have := ex739_32; omega, by have := ex739_33; omega, by have := ex739_28; omega, by have := ex739_33; have := ex739_47; have := ex739_45; have := ex739_46; have := ex739_28; omega, by have := ex739_45; have := ex739_46; omega, by have := ex739_47; have := ex739_28; omega, pp_TK, (GE_vac ex739_28 (by omega))⟩)
  · intro h100
    refine wk_il1 r47_11 (wk_c2 r47_12 ?_)
    refine wk_iceq r47_14 ⟨by omega, by omega⟩ (by decide) ?_ ?_
    · intro h101
      refine wk_al0 r47_40 (wk_cv1 r47_41 kc_739_84 rfl (m9084_739 _ M0 x739_28 hP0 ex739_28 (by first | assumption | omega) (by first | assumption | omega)) (cqI ?_))
      rintro v108 M102 ⟨hP103, hQ104, h109, h110, h106, h107⟩
      obtain rfl := Fr.same hQ104
      have e111 := ex739_28
      refine wk_ifne r47_44 ⟨by omega, by omega⟩ ?_ ?_
      · intro h112
        refine wk_al0 r47_48 (wk_cv1 r47_49 kc_739_76 rfl (m9076_739 _ M0 x739_30 x739_31 hP0 ex739_30 (by first | assumption | omega) (by first | assumption | omega) ex739_31 (by first | assumption | omega) (by first | assumption | omega) (by omega)) (cqV ?_))
        rintro M113 ⟨hP114, hQ115, h117, h118, h119, h120, h121, pr122⟩
        have hF116 : Fr fm_m9047_739 M0 M113 := hF0.tr hQ115 rfl
        have e123 := ((hQ115.at g_739_30 rfl).trans ex739_30)
        obtain ⟨v124, e125⟩ : ∃ v, M113 739 31 = v := ⟨_, rfl⟩
        have h126 := bf_739_31 hP114; rw [e125] at h126
        obtain ⟨v127, e128⟩ : ∃ v, M113 739 33 = v := ⟨_, rfl⟩
        have h129 := bf_739_33 hP114; rw [e128] at h129
        obtain ⟨v130, e131⟩ : ∃ v, M113 739 34 = v := ⟨_, rfl⟩
        have h132 := bf_739_34 hP114; rw [e131] at h132
        obtain ⟨v133, e134⟩ : ∃ v, M113 739 32 = v := ⟨_, rfl⟩
        have h135 := bf_739_32 hP114; rw [e134] at h135
        refine wk_il1 r47_52 (wk_c2 r47_53 ?_)
        refine wk_icne r47_55 ⟨by omega, by omega⟩ (by decide) ?_ ?_
        · intro h136
          refine wk_il1 r47_157 (wk_c2 r47_158 ?_)
          refine wk_icne r47_160 ⟨by omega, by omega⟩ (by decide) ?_ ?_
          · intro h137
            refine wk_il1 r47_167 (wk_c2 r47_168 ?_)
            refine wk_icne r47_170 ⟨by omega, by omega⟩ (by decide) ?_ ?_
            · intro h138
              exfalso
              omega
            · intro h139
              refine wk_c2 r47_173 (wk_goto r47_175 (wk_is2 r47_190 rfl (wk_al0 r47_191 (wk_il1 r47_192 (wk_c2 r47_193 ?_)))))
              refine wk_icne r47_195 ⟨by omega, by omega⟩ (by decide) ?_ ?_
              · intro h140
                refine wk_il1 r47_202 (wk_c2 r47_203 ?_)
                refine wk_icne r47_205 ⟨by omega, by omega⟩ (by decide) ?_ ?_
                · intro h141
                  exfalso
                  omega
                · intro h142
                  refine wk_c1 r47_208 (wk_goto r47_209 (wk_al0 r47_225 (wk_c1 r47_226 (wk_il2 r47_227 ?_))))
                  obtain ⟨v143, e144⟩ : ∃ v, M113 739 35 = v := ⟨_, rfl⟩
                  have h145 := bf_739_35 hP114; rw [e144] at h145
                  refine wk_cv3 r47_228 kc_739_114 rfl (m9114_739 _ M113 0 6 x739_30 v124 v127 v130 v133 x739_28 v143 hP114 (by decide) (by decide) (by decide) (by decide) ((hQ115.at g_739_30 rfl).trans ex739_30) (by first | assumption | omega) (by first | assumption | omega) e125 (by first | assumption | omega) (by first | assumption | omega) e128 (by first | assumption | omega) (by first | assumption | omega) e131 (by first | assumption | omega) (by first | assumption | omega) e134 (by first | assumption | omega) (by first | assumption | omega) ((hQ115.at g_739_28 rfl).trans ex739_28) (by first | assumption | omega) (by first | assumption | omega) e144 (by first | assumption | omega) (by first | assumption | omega) (by omega) (by omega) (by omega) (by omega) pr122) (cqI ?_)
                  rintro v160 M146 ⟨hP147, hQ148, h161, h162, h150, h151, h152, h153, h154, h155, h156, h157, h158, pr159⟩
                  have hF149 : Fr fm_m9047_739 M0 M146 := hF116.tr hQ148 rfl
                  have e163 := ((hQ148.at g_739_30 rfl).trans ((hQ115.at g_739_30 rfl).trans ex739_30))
                  obtain ⟨v164, e165⟩ : ∃ v, M146 739 31 = v := ⟨_, rfl⟩
                  have h166 := bf_739_31 hP147; rw [e165] at h166
                  obtain ⟨v167, e168⟩ : ∃ v, M146 739 33 = v := ⟨_, rfl⟩
                  have h169 := bf_739_33 hP147; rw [e168] at h169
                  obtain ⟨v170, e171⟩ : ∃ v, M146 739 34 = v := ⟨_, rfl⟩
                  have h172 := bf_739_34 hP147; rw [e171] at h172
                  obtain ⟨v173, e174⟩ : ∃ v, M146 739 32 = v := ⟨_, rfl⟩
                  have h175 := bf_739_32 hP147; rw [e174] at h175
                  obtain ⟨v176, e177⟩ : ∃ v, M146 739 28 = v := ⟨_, rfl⟩
                  have h178 := bf_739_28 hP147; rw [e177] at h178
                  have pr179 : GE M146 s0 u0 0 0 := GE_mn (Sm.fr hQ148 rfl) (fun q => by have := ((hQ115.at g_739_28 rfl).trans ex739_28); have := e177; omega) (GE_sm (Sm.fr hQ115 rfl) pp_E0)
                  refine wk_c1 r47_231 ?_
                  have gk : M146 739 28 = v176 := e177
                  refine wk_cv4 r47_232 kc_739_117 rfl (m9117_739 _ M146 4 v160 0 x739_45 hP147 (by decide) (by decide) (by omega) (by omega) (by decide) (by decide) ((hQ148.at g_739_45 rfl).trans ((hQ115.at g_739_45 rfl).trans ex739_45)) (by first | assumption | omega) (by first | assumption | omega)) (cqV ?_)
                  rintro M180 ⟨hP181, hQ182, h184, h185, xh186⟩
                  have hF183 : Fr fm_m9047_739 M0 M180 := hF149.tr hQ182 rfl
                  obtain ⟨v187, e188⟩ : ∃ v, M180 739 45 = v := ⟨_, rfl⟩
                  have h189 := bf_739_45 hP181; rw [e188] at h189
                  have pr190 : GE M180 s0 u0 1 0 := GE_atom xh186 pr179 (fun q => by rw [gk] at q; exact ⟨by omega, by unfold refok; omega, by omega, by omega⟩)
                  subst hQ; exact wk_ret r47_235 (⟨rfl, hP181, hF183, by have := ((hQ182.at g_739_30 rfl).trans ((hQ148.at g_739_30 rfl).trans ((hQ115.at g_739_30 rfl).trans ex739_30))); have := ((hQ182.at g_739_31 rfl).trans e165); omega, by have := ((hQ182.at g_739_31 rfl).trans e165); have := ((hQ182.at g_739_33 rfl).trans e168); have := ((hQ182.at g_739_34 rfl).trans e171); omega, by have := ((hQ182.at g_739_31 rfl).trans e165); have := ((hQ182.at g_739_33 rfl).trans e168); have := ((hQ182.at g_739_34 rfl).trans e171); omega, by have := ((hQ182.at g_739_34 rfl).trans e171); have := ((hQ182.at g_739_32 rfl).trans e174); omega, by have := ((hQ182.at g_739_33 rfl).trans e168); omega, by have := ((hQ182.at g_739_28 rfl).trans e177); omega, by have := ((hQ182.at g_739_33 rfl).trans e168); have := ((hQ182.at g_739_47 rfl).trans ((hQ148.at g_739_47 rfl).trans ((hQ115.at g_739_47 rfl).trans ex739_47))); have := e188; have := ((hQ182.at g_739_46 rfl).trans ((hQ148.at g_739_46 rfl).trans ((hQ115.at g_739_46 rfl).trans ex739_46))); have := ((hQ182.at g_739_28 rfl).trans e177); omega, by have := e188; have := ((hQ182.at g_739_46 rfl).trans ((hQ148.at g_739_46 rfl).trans ((hQ115.at g_739_46 rfl).trans ex739_46))); omega, by have := ((hQ182.at g_739_47 rfl).trans ((hQ148.at g_739_47 rfl).trans ((hQ115.at g_739_47 rfl).trans ex739_47))); have := ((hQ182.at g_739_28 rfl).trans e177); omega, (TK_sm (Sm.fr hQ182 rfl) pr159), pr190⟩)
              · intro h191
                exfalso
                omega
          · intro h192
            exfalso
            omega
        · intro h193
          exfalso
          omega
      · intro h194
        subst hQ; exact wk_ret r47_47 (⟨rfl, hP0, hF0, by have := ex739_30; have := ex739_31; omega, by have := ex739_31; have := ex739_33; have := ex739_34; omega, by have := ex739_31; have := ex739_33; have := ex739_34; omega, by have := ex739_34; have := ex739_32; omega, by have := ex739_33; omega, by have := ex739_28; omega, by have := ex739_33; have := ex739_47; have := ex739_45; have := ex739_46; have := ex739_28; omega, by have := ex739_45; have := ex739_46; omega, by have := ex739_47; have := ex739_28; omega, pp_TK, (GE_vac ex739_28 (by omega))⟩)
    · intro h195
      refine wk_il1 r47_17 (wk_c2 r47_18 ?_)
      refine wk_iceq r47_20 ⟨by omega, by omega⟩ (by decide) ?_ ?_
      · intro h196
        refine wk_al0 r47_40 (wk_cv1 r47_41 kc_739_84 rfl (m9084_739 _ M0 x739_28 hP0 ex739_28 (by first | assumption | omega) (by first | assumption | omega)) (cqI ?_))
        rintro v203 M197 ⟨hP198, hQ199, h204, h205, h201, h202⟩
        obtain rfl := Fr.same hQ199
        have e206 := ex739_28
        refine wk_ifne r47_44 ⟨by omega, by omega⟩ ?_ ?_
        · intro h207
          refine wk_al0 r47_48 (wk_cv1 r47_49 kc_739_76 rfl (m9076_739 _ M0 x739_30 x739_31 hP0 ex739_30 (by first | assumption | omega) (by first | assumption | omega) ex739_31 (by first | assumption | omega) (by first | assumption | omega) (by omega)) (cqV ?_))
          rintro M208 ⟨hP209, hQ210, h212, h213, h214, h215, h216, pr217⟩
          have hF211 : Fr fm_m9047_739 M0 M208 := hF0.tr hQ210 rfl
          have e218 := ((hQ210.at g_739_30 rfl).trans ex739_30)
          obtain ⟨v219, e220⟩ : ∃ v, M208 739 31 = v := ⟨_, rfl⟩
          have h221 := bf_739_31 hP209; rw [e220] at h221
          obtain ⟨v222, e223⟩ : ∃ v, M208 739 33 = v := ⟨_, rfl⟩
          have h224 := bf_739_33 hP209; rw [e223] at h224
          obtain ⟨v225, e226⟩ : ∃ v, M208 739 34 = v := ⟨_, rfl⟩
          have h227 := bf_739_34 hP209; rw [e226] at h227
          obtain ⟨v228, e229⟩ : ∃ v, M208 739 32 = v := ⟨_, rfl⟩
          have h230 := bf_739_32 hP209; rw [e229] at h230
          refine wk_il1 r47_52 (wk_c2 r47_53 ?_)
          refine wk_icne r47_55 ⟨by omega, by omega⟩ (by decide) ?_ ?_
          · intro h231
            exfalso
            omega
          · intro h232
            refine wk_al0 r47_58 (wk_cv1 r47_59 kc_739_93 rfl (m9093_739 _ M208 x739_30 v219 v222 v225 v228 x739_28 hP209 ((hQ210.at g_739_30 rfl).trans ex739_30) (by first | assumption | omega) (by first | assumption | omega) e220 (by first | assumption | omega) (by first | assumption | omega) e223 (by first | assumption | omega) (by first | assumption | omega) e226 (by first | assumption | omega) (by first | assumption | omega) e229 (by first | assumption | omega) (by first | assumption | omega) ((hQ210.at g_739_28 rfl).trans ex739_28) (by first | assumption | omega) (by first | assumption | omega) (by omega) (by omega) (by omega) (by omega) pr217) (cqI ?_))
            rintro v247 M233 ⟨hP234, hQ235, h248, h249, h237, h238, h239, h240, h241, h242, h243, h244, h245, pr246⟩
            have hF236 : Fr fm_m9047_739 M0 M233 := hF211.tr hQ235 rfl
            have e250 := ((hQ235.at g_739_30 rfl).trans ((hQ210.at g_739_30 rfl).trans ex739_30))
            obtain ⟨v251, e252⟩ : ∃ v, M233 739 31 = v := ⟨_, rfl⟩
            have h253 := bf_739_31 hP234; rw [e252] at h253
            obtain ⟨v254, e255⟩ : ∃ v, M233 739 33 = v := ⟨_, rfl⟩
            have h256 := bf_739_33 hP234; rw [e255] at h256
            obtain ⟨v257, e258⟩ : ∃ v, M233 739 34 = v := ⟨_, rfl⟩
            have h259 := bf_739_34 hP234; rw [e258] at h259
            obtain ⟨v260, e261⟩ : ∃ v, M233 739 32 = v := ⟨_, rfl⟩
            have h262 := bf_739_32 hP234; rw [e261] at h262
            obtain ⟨v263, e264⟩ : ∃ v, M233 739 28 = v := ⟨_, rfl⟩
            have h265 := bf_739_28 hP234; rw [e264] at h265
            have pr266 : GE M233 s0 u0 0 0 := GE_mn (Sm.fr hQ235 rfl) (fun q => by have := ((hQ210.at g_739_28 rfl).trans ex739_28); have := e264; omega) (GE_sm (Sm.fr hQ210 rfl) pp_E0)
            refine wk_is2 r47_62 rfl (wk_al0 r47_63 (wk_getfb r47_64 fd_739_36 (bf_739_36 hP234) ?_))
            intro v267 h269 h270 e268
            refine wk_is3 r47_67 rfl (wk_al0 r47_68 (wk_cv1 r47_69 kc_739_84 rfl (m9084_739 _ M233 v263 hP234 e264 (by first | assumption | omega) (by first | assumption | omega)) (cqI ?_)))
            rintro v277 M271 ⟨hP272, hQ273, h278, h279, h275, h276⟩
            obtain rfl := Fr.same hQ273
            have e280 := e264
            refine wk_ifeq r47_72 ⟨by omega, by omega⟩ ?_ ?_
            · intro h281
              refine wk_al0 r47_107 (wk_cv1 r47_108 kc_739_84 rfl (m9084_739 _ M233 v263 hP234 e264 (by first | assumption | omega) (by first | assumption | omega)) (cqI ?_))
              rintro v288 M282 ⟨hP283, hQ284, h289, h290, h286, h287⟩
              obtain rfl := Fr.same hQ284
              have e291 := e264
              refine wk_ifne r47_111 ⟨by omega, by omega⟩ ?_ ?_
              · intro h292
                exfalso
                omega
              · intro h293
                subst hQ; exact wk_ret r47_114 (⟨rfl, hP234, hF236, by have := ((hQ235.at g_739_30 rfl).trans ((hQ210.at g_739_30 rfl).trans ex739_30)); have := e252; omega, by have := e252; have := e255; have := e258; omega, by have := e252; have := e255; have := e258; omega, by have := e258; have := e261; omega, by have := e255; omega, by have := e264; omega, by have := e255; have := ((hQ235.at g_739_47 rfl).trans ((hQ210.at g_739_47 rfl).trans ex739_47)); have := ((hQ235.at g_739_45 rfl).trans ((hQ210.at g_739_45 rfl).trans ex739_45)); have := ((hQ235.at g_739_46 rfl).trans ((hQ210.at g_739_46 rfl).trans ex739_46)); have := e264; omega, by have := ((hQ235.at g_739_45 rfl).trans ((hQ210.at g_739_45 rfl).trans ex739_45)); have := ((hQ235.at g_739_46 rfl).trans ((hQ210.at g_739_46 rfl).trans ex739_46)); omega, by have := ((hQ235.at g_739_47 rfl).trans ((hQ210.at g_739_47 rfl).trans ex739_47)); have := e264; omega, pr246, (GE_vac e264 (by omega))⟩)
            · intro h294
              refine wk_al0 r47_75 (wk_c2 r47_76 (wk_cv2 r47_78 kc_739_88 rfl (m9088_739 _ M233 60 v260 v267 hP234 (by decide) (by decide) e261 (by first | assumption | omega) (by first | assumption | omega) e268 (by first | assumption | omega) (by first | assumption | omega)) (cqI ?_)))
              rintro v302 M295 ⟨hP296, hQ297, h303, h304, h299, h300, h301⟩
              obtain rfl := Fr.same hQ297
              have e305 := e261
              have e306 := e268
              refine wk_ifne r47_81 ⟨by omega, by omega⟩ ?_ ?_
              · intro h307
                refine wk_al0 r47_107 (wk_cv1 r47_108 kc_739_84 rfl (m9084_739 _ M233 v263 hP234 e264 (by first | assumption | omega) (by first | assumption | omega)) (cqI ?_))
                rintro v314 M308 ⟨hP309, hQ310, h315, h316, h312, h313⟩
                obtain rfl := Fr.same hQ310
                have e317 := e264
                refine wk_ifne r47_111 ⟨by omega, by omega⟩ ?_ ?_
                · intro h318
                  refine wk_al0 r47_115 (wk_cv1 r47_116 kc_739_76 rfl (m9076_739 _ M233 x739_30 v251 hP234 ((hQ235.at g_739_30 rfl).trans ((hQ210.at g_739_30 rfl).trans ex739_30)) (by first | assumption | omega) (by first | assumption | omega) e252 (by first | assumption | omega) (by first | assumption | omega) (by omega)) (cqV ?_))
                  rintro M319 ⟨hP320, hQ321, h323, h324, h325, h326, h327, pr328⟩
                  have hF322 : Fr fm_m9047_739 M0 M319 := hF236.tr hQ321 rfl
                  have e329 := ((hQ321.at g_739_30 rfl).trans ((hQ235.at g_739_30 rfl).trans ((hQ210.at g_739_30 rfl).trans ex739_30)))
                  obtain ⟨v330, e331⟩ : ∃ v, M319 739 31 = v := ⟨_, rfl⟩
                  have h332 := bf_739_31 hP320; rw [e331] at h332
                  obtain ⟨v333, e334⟩ : ∃ v, M319 739 33 = v := ⟨_, rfl⟩
                  have h335 := bf_739_33 hP320; rw [e334] at h335
                  obtain ⟨v336, e337⟩ : ∃ v, M319 739 34 = v := ⟨_, rfl⟩
                  have h338 := bf_739_34 hP320; rw [e337] at h338
                  obtain ⟨v339, e340⟩ : ∃ v, M319 739 32 = v := ⟨_, rfl⟩
                  have h341 := bf_739_32 hP320; rw [e340] at h341
                  refine wk_al0 r47_119 (wk_il3 r47_120 (wk_c2 r47_121 ?_))
                  refine wk_icne r47_123 ⟨by omega, by omega⟩ (by decide) ?_ ?_
                  · intro h342
                    exfalso
                    omega
                  · intro h343
                    refine wk_c1 r47_126 (wk_goto r47_127 (wk_il2 r47_143 (wk_al0 r47_144 (wk_c1 r47_145 (wk_c2 r47_146 ?_)))))
                    obtain ⟨v344, e345⟩ : ∃ v, M319 739 35 = v := ⟨_, rfl⟩
                    have h346 := bf_739_35 hP320; rw [e345] at h346
                    refine wk_cv3 r47_148 kc_739_114 rfl (m9114_739 _ M319 0 99 x739_30 v330 v333 v336 v339 v263 v344 hP320 (by decide) (by decide) (by decide) (by decide) ((hQ321.at g_739_30 rfl).trans ((hQ235.at g_739_30 rfl).trans ((hQ210.at g_739_30 rfl).trans ex739_30))) (by first | assumption | omega) (by first | assumption | omega) e331 (by first | assumption | omega) (by first | assumption | omega) e334 (by first | assumption | omega) (by first | assumption | omega) e337 (by first | assumption | omega) (by first | assumption | omega) e340 (by first | assumption | omega) (by first | assumption | omega) ((hQ321.at g_739_28 rfl).trans e264) (by first | assumption | omega) (by first | assumption | omega) e345 (by first | assumption | omega) (by first | assumption | omega) (by omega) (by omega) (by omega) (by omega) pr328) (cqI ?_)
                    rintro v361 M347 ⟨hP348, hQ349, h362, h363, h351, h352, h353, h354, h355, h356, h357, h358, h359, pr360⟩
                    have hF350 : Fr fm_m9047_739 M0 M347 := hF322.tr hQ349 rfl
                    have e364 := ((hQ349.at g_739_30 rfl).trans ((hQ321.at g_739_30 rfl).trans ((hQ235.at g_739_30 rfl).trans ((hQ210.at g_739_30 rfl).trans ex739_30))))
                    obtain ⟨v365, e366⟩ : ∃ v, M347 739 31 = v := ⟨_, rfl⟩
                    have h367 := bf_739_31 hP348; rw [e366] at h367
                    obtain ⟨v368, e369⟩ : ∃ v, M347 739 33 = v := ⟨_, rfl⟩
                    have h370 := bf_739_33 hP348; rw [e369] at h370
                    obtain ⟨v371, e372⟩ : ∃ v, M347 739 34 = v := ⟨_, rfl⟩
                    have h373 := bf_739_34 hP348; rw [e372] at h373
                    obtain ⟨v374, e375⟩ : ∃ v, M347 739 32 = v := ⟨_, rfl⟩
                    have h376 := bf_739_32 hP348; rw [e375] at h376
                    obtain ⟨v377, e378⟩ : ∃ v, M347 739 28 = v := ⟨_, rfl⟩
                    have h379 := bf_739_28 hP348; rw [e378] at h379
                    have pr380 : GE M347 s0 u0 0 0 := GE_mn (Sm.fr hQ349 rfl) (fun q => by have := ((hQ321.at g_739_28 rfl).trans e264); have := e378; omega) (GE_sm (Sm.fr hQ321 rfl) pr266)
                    have gk : M347 739 28 = v377 := e378
                    refine wk_cv4 r47_151 kc_739_117 rfl (m9117_739 _ M347 5 v247 v361 x739_45 hP348 (by decide) (by decide) (by omega) (by omega) (by omega) (by omega) ((hQ349.at g_739_45 rfl).trans ((hQ321.at g_739_45 rfl).trans ((hQ235.at g_739_45 rfl).trans ((hQ210.at g_739_45 rfl).trans ex739_45)))) (by first | assumption | omega) (by first | assumption | omega)) (cqV ?_)
                    rintro M381 ⟨hP382, hQ383, h385, h386, xh387⟩
                    have hF384 : Fr fm_m9047_739 M0 M381 := hF350.tr hQ383 rfl
                    obtain ⟨v388, e389⟩ : ∃ v, M381 739 45 = v := ⟨_, rfl⟩
                    have h390 := bf_739_45 hP382; rw [e389] at h390
                    have pr391 : GE M381 s0 u0 1 0 := GE_atom xh387 pr380 (fun q => by rw [gk] at q; exact ⟨by omega, by unfold refok; omega, by omega, by omega⟩)
                    refine wk_goto r47_154 ?_
                    subst hQ; exact wk_ret r47_235 (⟨rfl, hP382, hF384, by have := ((hQ383.at g_739_30 rfl).trans ((hQ349.at g_739_30 rfl).trans ((hQ321.at g_739_30 rfl).trans ((hQ235.at g_739_30 rfl).trans ((hQ210.at g_739_30 rfl).trans ex739_30))))); have := ((hQ383.at g_739_31 rfl).trans e366); omega, by have := ((hQ383.at g_739_31 rfl).trans e366); have := ((hQ383.at g_739_33 rfl).trans e369); have := ((hQ383.at g_739_34 rfl).trans e372); omega, by have := ((hQ383.at g_739_31 rfl).trans e366); have := ((hQ383.at g_739_33 rfl).trans e369); have := ((hQ383.at g_739_34 rfl).trans e372); omega, by have := ((hQ383.at g_739_34 rfl).trans e372); have := ((hQ383.at g_739_32 rfl).trans e375); omega, by have := ((hQ383.at g_739_33 rfl).trans e369); omega, by have := ((hQ383.at g_739_28 rfl).trans e378); omega, by have := ((hQ383.at g_739_33 rfl).trans e369); have := ((hQ383.at g_739_47 rfl).trans ((hQ349.at g_739_47 rfl).trans ((hQ321.at g_739_47 rfl).trans ((hQ235.at g_739_47 rfl).trans ((hQ210.at g_739_47 rfl).trans ex739_47))))); have := e389; have := ((hQ383.at g_739_46 rfl).trans ((hQ349.at g_739_46 rfl).trans ((hQ321.at g_739_46 rfl).trans ((hQ235.at g_739_46 rfl).trans ((hQ210.at g_739_46 rfl).trans ex739_46))))); have := ((hQ383.at g_739_28 rfl).trans e378); omega, by have := e389; have := ((hQ383.at g_739_46 rfl).trans ((hQ349.at g_739_46 rfl).trans ((hQ321.at g_739_46 rfl).trans ((hQ235.at g_739_46 rfl).trans ((hQ210.at g_739_46 rfl).trans ex739_46))))); omega, by have := ((hQ383.at g_739_47 rfl).trans ((hQ349.at g_739_47 rfl).trans ((hQ321.at g_739_47 rfl).trans ((hQ235.at g_739_47 rfl).trans ((hQ210.at g_739_47 rfl).trans ex739_47))))); have := ((hQ383.at g_739_28 rfl).trans e378); omega, (TK_sm (Sm.fr hQ383 rfl) pr360), pr391⟩)
                · intro h392
                  exfalso
                  omega
              · intro h393
                refine wk_al0 r47_84 (wk_c2 r47_85 (wk_cv2 r47_87 kc_739_88 rfl (m9088_739 _ M233 61 v260 v267 hP234 (by decide) (by decide) e261 (by first | assumption | omega) (by first | assumption | omega) e268 (by first | assumption | omega) (by first | assumption | omega)) (cqI ?_)))
                rintro v401 M394 ⟨hP395, hQ396, h402, h403, h398, h399, h400⟩
                obtain rfl := Fr.same hQ396
                have e404 := e261
                have e405 := e268
                refine wk_ifne r47_90 ⟨by omega, by omega⟩ ?_ ?_
                · intro h406
                  refine wk_al0 r47_107 (wk_cv1 r47_108 kc_739_84 rfl (m9084_739 _ M233 v263 hP234 e264 (by first | assumption | omega) (by first | assumption | omega)) (cqI ?_))
                  rintro v413 M407 ⟨hP408, hQ409, h414, h415, h411, h412⟩
                  obtain rfl := Fr.same hQ409
                  have e416 := e264
                  refine wk_ifne r47_111 ⟨by omega, by omega⟩ ?_ ?_
                  · intro h417
                    refine wk_al0 r47_115 (wk_cv1 r47_116 kc_739_76 rfl (m9076_739 _ M233 x739_30 v251 hP234 ((hQ235.at g_739_30 rfl).trans ((hQ210.at g_739_30 rfl).trans ex739_30)) (by first | assumption | omega) (by first | assumption | omega) e252 (by first | assumption | omega) (by first | assumption | omega) (by omega)) (cqV ?_))
                    rintro M418 ⟨hP419, hQ420, h422, h423, h424, h425, h426, pr427⟩
                    have hF421 : Fr fm_m9047_739 M0 M418 := hF236.tr hQ420 rfl
                    have e428 := ((hQ420.at g_739_30 rfl).trans ((hQ235.at g_739_30 rfl).trans ((hQ210.at g_739_30 rfl).trans ex739_30)))
                    obtain ⟨v429, e430⟩ : ∃ v, M418 739 31 = v := ⟨_, rfl⟩
                    have h431 := bf_739_31 hP419; rw [e430] at h431
                    obtain ⟨v432, e433⟩ : ∃ v, M418 739 33 = v := ⟨_, rfl⟩
                    have h434 := bf_739_33 hP419; rw [e433] at h434
                    obtain ⟨v435, e436⟩ : ∃ v, M418 739 34 = v := ⟨_, rfl⟩
                    have h437 := bf_739_34 hP419; rw [e436] at h437
                    obtain ⟨v438, e439⟩ : ∃ v, M418 739 32 = v := ⟨_, rfl⟩
                    have h440 := bf_739_32 hP419; rw [e439] at h440
                    refine wk_al0 r47_119 (wk_il3 r47_120 (wk_c2 r47_121 ?_))
                    refine wk_icne r47_123 ⟨by omega, by omega⟩ (by decide) ?_ ?_
                    · intro h441
                      refine wk_il3 r47_130 (wk_c2 r47_131 ?_)
                      refine wk_icne r47_133 ⟨by omega, by omega⟩ (by decide) ?_ ?_
                      · intro h442
                        exfalso
                        omega
                      · intro h443
                        refine wk_c2 r47_136 (wk_goto r47_138 (wk_il2 r47_143 (wk_al0 r47_144 (wk_c1 r47_145 (wk_c2 r47_146 ?_)))))
                        obtain ⟨v444, e445⟩ : ∃ v, M418 739 35 = v := ⟨_, rfl⟩
                        have h446 := bf_739_35 hP419; rw [e445] at h446
                        refine wk_cv3 r47_148 kc_739_114 rfl (m9114_739 _ M418 0 99 x739_30 v429 v432 v435 v438 v263 v444 hP419 (by decide) (by decide) (by decide) (by decide) ((hQ420.at g_739_30 rfl).trans ((hQ235.at g_739_30 rfl).trans ((hQ210.at g_739_30 rfl).trans ex739_30))) (by first | assumption | omega) (by first | assumption | omega) e430 (by first | assumption | omega) (by first | assumption | omega) e433 (by first | assumption | omega) (by first | assumption | omega) e436 (by first | assumption | omega) (by first | assumption | omega) e439 (by first | assumption | omega) (by first | assumption | omega) ((hQ420.at g_739_28 rfl).trans e264) (by first | assumption | omega) (by first | assumption | omega) e445 (by first | assumption | omega) (by first | assumption | omega) (by omega) (by omega) (by omega) (by omega) pr427) (cqI ?_)
                        rintro v461 M447 ⟨hP448, hQ449, h462, h463, h451, h452, h453, h454, h455, h456, h457, h458, h459, pr460⟩
                        have hF450 : Fr fm_m9047_739 M0 M447 := hF421.tr hQ449 rfl
                        have e464 := ((hQ449.at g_739_30 rfl).trans ((hQ420.at g_739_30 rfl).trans ((hQ235.at g_739_30 rfl).trans ((hQ210.at g_739_30 rfl).trans ex739_30))))
                        obtain ⟨v465, e466⟩ : ∃ v, M447 739 31 = v := ⟨_, rfl⟩
                        have h467 := bf_739_31 hP448; rw [e466] at h467
                        obtain ⟨v468, e469⟩ : ∃ v, M447 739 33 = v := ⟨_, rfl⟩
                        have h470 := bf_739_33 hP448; rw [e469] at h470
                        obtain ⟨v471, e472⟩ : ∃ v, M447 739 34 = v := ⟨_, rfl⟩
                        have h473 := bf_739_34 hP448; rw [e472] at h473
                        obtain ⟨v474, e475⟩ : ∃ v, M447 739 32 = v := ⟨_, rfl⟩
                        have h476 := bf_739_32 hP448; rw [e475] at h476
                        obtain ⟨v477, e478⟩ : ∃ v, M447 739 28 = v := ⟨_, rfl⟩
                        have h479 := bf_739_28 hP448; rw [e478] at h479
                        have pr480 : GE M447 s0 u0 0 0 := GE_mn (Sm.fr hQ449 rfl) (fun q => by have := ((hQ420.at g_739_28 rfl).trans e264); have := e478; omega) (GE_sm (Sm.fr hQ420 rfl) pr266)
                        have gk : M447 739 28 = v477 := e478
                        refine wk_cv4 r47_151 kc_739_117 rfl (m9117_739 _ M447 6 v247 v461 x739_45 hP448 (by decide) (by decide) (by omega) (by omega) (by omega) (by omega) ((hQ449.at g_739_45 rfl).trans ((hQ420.at g_739_45 rfl).trans ((hQ235.at g_739_45 rfl).trans ((hQ210.at g_739_45 rfl).trans ex739_45)))) (by first | assumption | omega) (by first | assumption | omega)) (cqV ?_)
                        rintro M481 ⟨hP482, hQ483, h485, h486, xh487⟩
                        have hF484 : Fr fm_m9047_739 M0 M481 := hF450.tr hQ483 rfl
                        obtain ⟨v488, e489⟩ : ∃ v, M481 739 45 = v := ⟨_, rfl⟩
                        have h490 := bf_739_45 hP482; rw [e489] at h490
                        have pr491 : GE M481 s0 u0 1 0 := GE_atom xh487 pr480 (fun q => by rw [gk] at q; exact ⟨by omega, by unfold refok; omega, by omega, by omega⟩)
                        refine wk_goto r47_154 ?_
                        subst hQ; exact wk_ret r47_235 (⟨rfl, hP482, hF484, by have := ((hQ483.at g_739_30 rfl).trans ((hQ449.at g_739_30 rfl).trans ((hQ420.at g_739_30 rfl).trans ((hQ235.at g_739_30 rfl).trans ((hQ210.at g_739_30 rfl).trans ex739_30))))); have := ((hQ483.at g_739_31 rfl).trans e466); omega, by have := ((hQ483.at g_739_31 rfl).trans e466); have := ((hQ483.at g_739_33 rfl).trans e469); have := ((hQ483.at g_739_34 rfl).trans e472); omega, by have := ((hQ483.at g_739_31 rfl).trans e466); have := ((hQ483.at g_739_33 rfl).trans e469); have := ((hQ483.at g_739_34 rfl).trans e472); omega, by have := ((hQ483.at g_739_34 rfl).trans e472); have := ((hQ483.at g_739_32 rfl).trans e475); omega, by have := ((hQ483.at g_739_33 rfl).trans e469); omega, by have := ((hQ483.at g_739_28 rfl).trans e478); omega, by have := ((hQ483.at g_739_33 rfl).trans e469); have := ((hQ483.at g_739_47 rfl).trans ((hQ449.at g_739_47 rfl).trans ((hQ420.at g_739_47 rfl).trans ((hQ235.at g_739_47 rfl).trans ((hQ210.at g_739_47 rfl).trans ex739_47))))); have := e489; have := ((hQ483.at g_739_46 rfl).trans ((hQ449.at g_739_46 rfl).trans ((hQ420.at g_739_46 rfl).trans ((hQ235.at g_739_46 rfl).trans ((hQ210.at g_739_46 rfl).trans ex739_46))))); have := ((hQ483.at g_739_28 rfl).trans e478); omega, by have := e489; have := ((hQ483.at g_739_46 rfl).trans ((hQ449.at g_739_46 rfl).trans ((hQ420.at g_739_46 rfl).trans ((hQ235.at g_739_46 rfl).trans ((hQ210.at g_739_46 rfl).trans ex739_46))))); omega, by have := ((hQ483.at g_739_47 rfl).trans ((hQ449.at g_739_47 rfl).trans ((hQ420.at g_739_47 rfl).trans ((hQ235.at g_739_47 rfl).trans ((hQ210.at g_739_47 rfl).trans ex739_47))))); have := ((hQ483.at g_739_28 rfl).trans e478); omega, (TK_sm (Sm.fr hQ483 rfl) pr460), pr491⟩)
                    · intro h492
                      exfalso
                      omega
                  · intro h493
                    exfalso
                    omega
                · intro h494
                  refine wk_al0 r47_93 (wk_c2 r47_94 (wk_cv2 r47_96 kc_739_88 rfl (m9088_739 _ M233 62 v260 v267 hP234 (by decide) (by decide) e261 (by first | assumption | omega) (by first | assumption | omega) e268 (by first | assumption | omega) (by first | assumption | omega)) (cqI ?_)))
                  rintro v502 M495 ⟨hP496, hQ497, h503, h504, h499, h500, h501⟩
                  obtain rfl := Fr.same hQ497
                  have e505 := e261
                  have e506 := e268
                  refine wk_ifne r47_99 ⟨by omega, by omega⟩ ?_ ?_
                  · intro h507
                    refine wk_al0 r47_107 (wk_cv1 r47_108 kc_739_84 rfl (m9084_739 _ M233 v263 hP234 e264 (by first | assumption | omega) (by first | assumption | omega)) (cqI ?_))
                    rintro v514 M508 ⟨hP509, hQ510, h515, h516, h512, h513⟩
                    obtain rfl := Fr.same hQ510
                    have e517 := e264
                    refine wk_ifne r47_111 ⟨by omega, by omega⟩ ?_ ?_
                    · intro h518
                      refine wk_al0 r47_115 (wk_cv1 r47_116 kc_739_76 rfl (m9076_739 _ M233 x739_30 v251 hP234 ((hQ235.at g_739_30 rfl).trans ((hQ210.at g_739_30 rfl).trans ex739_30)) (by first | assumption | omega) (by first | assumption | omega) e252 (by first | assumption | omega) (by first | assumption | omega) (by omega)) (cqV ?_))
                      rintro M519 ⟨hP520, hQ521, h523, h524, h525, h526, h527, pr528⟩
                      have hF522 : Fr fm_m9047_739 M0 M519 := hF236.tr hQ521 rfl
                      have e529 := ((hQ521.at g_739_30 rfl).trans ((hQ235.at g_739_30 rfl).trans ((hQ210.at g_739_30 rfl).trans ex739_30)))
                      obtain ⟨v530, e531⟩ : ∃ v, M519 739 31 = v := ⟨_, rfl⟩
                      have h532 := bf_739_31 hP520; rw [e531] at h532
                      obtain ⟨v533, e534⟩ : ∃ v, M519 739 33 = v := ⟨_, rfl⟩
                      have h535 := bf_739_33 hP520; rw [e534] at h535
                      obtain ⟨v536, e537⟩ : ∃ v, M519 739 34 = v := ⟨_, rfl⟩
                      have h538 := bf_739_34 hP520; rw [e537] at h538
                      obtain ⟨v539, e540⟩ : ∃ v, M519 739 32 = v := ⟨_, rfl⟩
                      have h541 := bf_739_32 hP520; rw [e540] at h541
                      refine wk_al0 r47_119 (wk_il3 r47_120 (wk_c2 r47_121 ?_))
                      refine wk_icne r47_123 ⟨by omega, by omega⟩ (by decide) ?_ ?_
                      · intro h542
                        refine wk_il3 r47_130 (wk_c2 r47_131 ?_)
                        refine wk_icne r47_133 ⟨by omega, by omega⟩ (by decide) ?_ ?_
                        · intro h543
                          refine wk_c2 r47_141 (wk_il2 r47_143 (wk_al0 r47_144 (wk_c1 r47_145 (wk_c2 r47_146 ?_))))
                          obtain ⟨v544, e545⟩ : ∃ v, M519 739 35 = v := ⟨_, rfl⟩
                          have h546 := bf_739_35 hP520; rw [e545] at h546
                          refine wk_cv3 r47_148 kc_739_114 rfl (m9114_739 _ M519 0 99 x739_30 v530 v533 v536 v539 v263 v544 hP520 (by decide) (by decide) (by decide) (by decide) ((hQ521.at g_739_30 rfl).trans ((hQ235.at g_739_30 rfl).trans ((hQ210.at g_739_30 rfl).trans ex739_30))) (by first | assumption | omega) (by first | assumption | omega) e531 (by first | assumption | omega) (by first | assumption | omega) e534 (by first | assumption | omega) (by first | assumption | omega) e537 (by first | assumption | omega) (by first | assumption | omega) e540 (by first | assumption | omega) (by first | assumption | omega) ((hQ521.at g_739_28 rfl).trans e264) (by first | assumption | omega) (by first | assumption | omega) e545 (by first | assumption | omega) (by first | assumption | omega) (by omega) (by omega) (by omega) (by omega) pr528) (cqI ?_)
                          rintro v561 M547 ⟨hP548, hQ549, h562, h563, h551, h552, h553, h554, h555, h556, h557, h558, h559, pr560⟩
                          have hF550 : Fr fm_m9047_739 M0 M547 := hF522.tr hQ549 rfl
                          have e564 := ((hQ549.at g_739_30 rfl).trans ((hQ521.at g_739_30 rfl).trans ((hQ235.at g_739_30 rfl).trans ((hQ210.at g_739_30 rfl).trans ex739_30))))
                          obtain ⟨v565, e566⟩ : ∃ v, M547 739 31 = v := ⟨_, rfl⟩
                          have h567 := bf_739_31 hP548; rw [e566] at h567
                          obtain ⟨v568, e569⟩ : ∃ v, M547 739 33 = v := ⟨_, rfl⟩
                          have h570 := bf_739_33 hP548; rw [e569] at h570
                          obtain ⟨v571, e572⟩ : ∃ v, M547 739 34 = v := ⟨_, rfl⟩
                          have h573 := bf_739_34 hP548; rw [e572] at h573
                          obtain ⟨v574, e575⟩ : ∃ v, M547 739 32 = v := ⟨_, rfl⟩
                          have h576 := bf_739_32 hP548; rw [e575] at h576
                          obtain ⟨v577, e578⟩ : ∃ v, M547 739 28 = v := ⟨_, rfl⟩
                          have h579 := bf_739_28 hP548; rw [e578] at h579
                          have pr580 : GE M547 s0 u0 0 0 := GE_mn (Sm.fr hQ549 rfl) (fun q => by have := ((hQ521.at g_739_28 rfl).trans e264); have := e578; omega) (GE_sm (Sm.fr hQ521 rfl) pr266)
                          have gk : M547 739 28 = v577 := e578
                          refine wk_cv4 r47_151 kc_739_117 rfl (m9117_739 _ M547 7 v247 v561 x739_45 hP548 (by decide) (by decide) (by omega) (by omega) (by omega) (by omega) ((hQ549.at g_739_45 rfl).trans ((hQ521.at g_739_45 rfl).trans ((hQ235.at g_739_45 rfl).trans ((hQ210.at g_739_45 rfl).trans ex739_45)))) (by first | assumption | omega) (by first | assumption | omega)) (cqV ?_)
                          rintro M581 ⟨hP582, hQ583, h585, h586, xh587⟩
                          have hF584 : Fr fm_m9047_739 M0 M581 := hF550.tr hQ583 rfl
                          obtain ⟨v588, e589⟩ : ∃ v, M581 739 45 = v := ⟨_, rfl⟩
                          have h590 := bf_739_45 hP582; rw [e589] at h590
                          have pr591 : GE M581 s0 u0 1 0 := GE_atom xh587 pr580 (fun q => by rw [gk] at q; exact ⟨by omega, by unfold refok; omega, by omega, by omega⟩)
                          refine wk_goto r47_154 ?_
                          subst hQ; exact wk_ret r47_235 (⟨rfl, hP582, hF584, by have := ((hQ583.at g_739_30 rfl).trans ((hQ549.at g_739_30 rfl).trans ((hQ521.at g_739_30 rfl).trans ((hQ235.at g_739_30 rfl).trans ((hQ210.at g_739_30 rfl).trans ex739_30))))); have := ((hQ583.at g_739_31 rfl).trans e566); omega, by have := ((hQ583.at g_739_31 rfl).trans e566); have := ((hQ583.at g_739_33 rfl).trans e569); have := ((hQ583.at g_739_34 rfl).trans e572); omega, by have := ((hQ583.at g_739_31 rfl).trans e566); have := ((hQ583.at g_739_33 rfl).trans e569); have := ((hQ583.at g_739_34 rfl).trans e572); omega, by have := ((hQ583.at g_739_34 rfl).trans e572); have := ((hQ583.at g_739_32 rfl).trans e575); omega, by have := ((hQ583.at g_739_33 rfl).trans e569); omega, by have := ((hQ583.at g_739_28 rfl).trans e578); omega, by have := ((hQ583.at g_739_33 rfl).trans e569); have := ((hQ583.at g_739_47 rfl).trans ((hQ549.at g_739_47 rfl).trans ((hQ521.at g_739_47 rfl).trans ((hQ235.at g_739_47 rfl).trans ((hQ210.at g_739_47 rfl).trans ex739_47))))); have := e589; have := ((hQ583.at g_739_46 rfl).trans ((hQ549.at g_739_46 rfl).trans ((hQ521.at g_739_46 rfl).trans ((hQ235.at g_739_46 rfl).trans ((hQ210.at g_739_46 rfl).trans ex739_46))))); have := ((hQ583.at g_739_28 rfl).trans e578); omega, by have := e589; have := ((hQ583.at g_739_46 rfl).trans ((hQ549.at g_739_46 rfl).trans ((hQ521.at g_739_46 rfl).trans ((hQ235.at g_739_46 rfl).trans ((hQ210.at g_739_46 rfl).trans ex739_46))))); omega, by have := ((hQ583.at g_739_47 rfl).trans ((hQ549.at g_739_47 rfl).trans ((hQ521.at g_739_47 rfl).trans ((hQ235.at g_739_47 rfl).trans ((hQ210.at g_739_47 rfl).trans ex739_47))))); have := ((hQ583.at g_739_28 rfl).trans e578); omega, (TK_sm (Sm.fr hQ583 rfl) pr560), pr591⟩)
                        · intro h592
                          exfalso
                          omega
                      · intro h593
                        exfalso
                        omega
                    · intro h594
                      exfalso
                      omega
                  · intro h595
                    refine wk_al0 r47_102 (wk_c1 r47_103 (wk_cv2 r47_104 kc_739_137 rfl (m9137_739 _ M233 1 v263 v254 hP234 (by decide) (by decide) e264 (by first | assumption | omega) (by first | assumption | omega) e255 (by first | assumption | omega) (by first | assumption | omega)) (cqV ?_)))
                    rintro M596 ⟨hP597, hQ598, h600, h601⟩
                    have hF599 : Fr fm_m9047_739 M0 M596 := hF236.tr hQ598 rfl
                    obtain ⟨v602, e603⟩ : ∃ v, M596 739 28 = v := ⟨_, rfl⟩
                    have h604 := bf_739_28 hP597; rw [e603] at h604
                    have pr605 : GE M596 s0 u0 0 0 := GE_mn (Sm.fr hQ598 rfl) (fun q => by have := e264; have := e603; omega) pr266
                    refine wk_al0 r47_107 (wk_cv1 r47_108 kc_739_84 rfl (m9084_739 _ M596 v602 hP597 e603 (by first | assumption | omega) (by first | assumption | omega)) (cqI ?_))
                    rintro v612 M606 ⟨hP607, hQ608, h613, h614, h610, h611⟩
                    obtain rfl := Fr.same hQ608
                    have e615 := e603
                    refine wk_ifne r47_111 ⟨by omega, by omega⟩ ?_ ?_
                    · intro h616
                      exfalso
                      omega
                    · intro h617
                      subst hQ; exact wk_ret r47_114 (⟨rfl, hP597, hF599, by have := ((hQ598.at g_739_30 rfl).trans ((hQ235.at g_739_30 rfl).trans ((hQ210.at g_739_30 rfl).trans ex739_30))); have := ((hQ598.at g_739_31 rfl).trans e252); omega, by have := ((hQ598.at g_739_31 rfl).trans e252); have := ((hQ598.at g_739_33 rfl).trans e255); have := ((hQ598.at g_739_34 rfl).trans e258); omega, by have := ((hQ598.at g_739_31 rfl).trans e252); have := ((hQ598.at g_739_33 rfl).trans e255); have := ((hQ598.at g_739_34 rfl).trans e258); omega, by have := ((hQ598.at g_739_34 rfl).trans e258); have := ((hQ598.at g_739_32 rfl).trans e261); omega, by have := ((hQ598.at g_739_33 rfl).trans e255); omega, by have := e603; omega, by have := ((hQ598.at g_739_33 rfl).trans e255); have := ((hQ598.at g_739_47 rfl).trans ((hQ235.at g_739_47 rfl).trans ((hQ210.at g_739_47 rfl).trans ex739_47))); have := ((hQ598.at g_739_45 rfl).trans ((hQ235.at g_739_45 rfl).trans ((hQ210.at g_739_45 rfl).trans ex739_45))); have := ((hQ598.at g_739_46 rfl).trans ((hQ235.at g_739_46 rfl).trans ((hQ210.at g_739_46 rfl).trans ex739_46))); have := e603; omega, by have := ((hQ598.at g_739_45 rfl).trans ((hQ235.at g_739_45 rfl).trans ((hQ210.at g_739_45 rfl).trans ex739_45))); have := ((hQ598.at g_739_46 rfl).trans ((hQ235.at g_739_46 rfl).trans ((hQ210.at g_739_46 rfl).trans ex739_46))); omega, by have := ((hQ598.at g_739_47 rfl).trans ((hQ235.at g_739_47 rfl).trans ((hQ210.at g_739_47 rfl).trans ex739_47))); have := e603; omega, (TK_sm (Sm.fr hQ598 rfl) pr246), (GE_vac e603 (by omega))⟩)
        · intro h618
          subst hQ; exact wk_ret r47_47 (⟨rfl, hP0, hF0, by have := ex739_30; have := ex739_31; omega, by have := ex739_31; have := ex739_33; have := ex739_34; omega, by have := ex739_31; have := ex739_33; have := ex739_34; omega, by have := ex739_34; have := ex739_32; omega, by have := ex739_33; omega, by have := ex739_28; omega, by have := ex739_33; have := ex739_47; have := ex739_45; have := ex739_46; have := ex739_28; omega, by have := ex739_45; have := ex739_46; omega, by have := ex739_47; have := ex739_28; omega, pp_TK, (GE_vac ex739_28 (by omega))⟩)
      · intro h619
        refine wk_il1 r47_23 (wk_c2 r47_24 ?_)
        refine wk_iceq r47_26 ⟨by omega, by omega⟩ (by decide) ?_ ?_
        · intro h620
          refine wk_al0 r47_40 (wk_cv1 r47_41 kc_739_84 rfl (m9084_739 _ M0 x739_28 hP0 ex739_28 (by first | assumption | omega) (by first | assumption | omega)) (cqI ?_))
          rintro v627 M621 ⟨hP622, hQ623, h628, h629, h625, h626⟩
          obtain rfl := Fr.same hQ623
          have e630 := ex739_28
          refine wk_ifne r47_44 ⟨by omega, by omega⟩ ?_ ?_
          · intro h631
            refine wk_al0 r47_48 (wk_cv1 r47_49 kc_739_76 rfl (m9076_739 _ M0 x739_30 x739_31 hP0 ex739_30 (by first | assumption | omega) (by first | assumption | omega) ex739_31 (by first | assumption | omega) (by first | assumption | omega) (by omega)) (cqV ?_))
            rintro M632 ⟨hP633, hQ634, h636, h637, h638, h639, h640, pr641⟩
            have hF635 : Fr fm_m9047_739 M0 M632 := hF0.tr hQ634 rfl
            have e642 := ((hQ634.at g_739_30 rfl).trans ex739_30)
            obtain ⟨v643, e644⟩ : ∃ v, M632 739 31 = v := ⟨_, rfl⟩
            have h645 := bf_739_31 hP633; rw [e644] at h645
            obtain ⟨v646, e647⟩ : ∃ v, M632 739 33 = v := ⟨_, rfl⟩
            have h648 := bf_739_33 hP633; rw [e647] at h648
            obtain ⟨v649, e650⟩ : ∃ v, M632 739 34 = v := ⟨_, rfl⟩
            have h651 := bf_739_34 hP633; rw [e650] at h651
            obtain ⟨v652, e653⟩ : ∃ v, M632 739 32 = v := ⟨_, rfl⟩
            have h654 := bf_739_32 hP633; rw [e653] at h654
            refine wk_il1 r47_52 (wk_c2 r47_53 ?_)
            refine wk_icne r47_55 ⟨by omega, by omega⟩ (by decide) ?_ ?_
            · intro h655
              refine wk_il1 r47_157 (wk_c2 r47_158 ?_)
              refine wk_icne r47_160 ⟨by omega, by omega⟩ (by decide) ?_ ?_
              · intro h656
                refine wk_il1 r47_167 (wk_c2 r47_168 ?_)
                refine wk_icne r47_170 ⟨by omega, by omega⟩ (by decide) ?_ ?_
                · intro h657
                  refine wk_il1 r47_178 (wk_c2 r47_179 ?_)
                  refine wk_icne r47_181 ⟨by omega, by omega⟩ (by decide) ?_ ?_
                  · intro h658
                    exfalso
                    omega
                  · intro h659
                    refine wk_c1 r47_184 (wk_goto r47_185 (wk_is2 r47_190 rfl (wk_al0 r47_191 (wk_il1 r47_192 (wk_c2 r47_193 ?_)))))
                    refine wk_icne r47_195 ⟨by omega, by omega⟩ (by decide) ?_ ?_
                    · intro h660
                      refine wk_il1 r47_202 (wk_c2 r47_203 ?_)
                      refine wk_icne r47_205 ⟨by omega, by omega⟩ (by decide) ?_ ?_
                      · intro h661
                        refine wk_il1 r47_212 (wk_c2 r47_213 ?_)
                        refine wk_icne r47_215 ⟨by omega, by omega⟩ (by decide) ?_ ?_
                        · intro h662
                          exfalso
                          omega
                        · intro h663
                          refine wk_c2 r47_218 (wk_goto r47_220 (wk_al0 r47_225 (wk_c1 r47_226 (wk_il2 r47_227 ?_))))
                          obtain ⟨v664, e665⟩ : ∃ v, M632 739 35 = v := ⟨_, rfl⟩
                          have h666 := bf_739_35 hP633; rw [e665] at h666
                          refine wk_cv3 r47_228 kc_739_114 rfl (m9114_739 _ M632 0 1 x739_30 v643 v646 v649 v652 x739_28 v664 hP633 (by decide) (by decide) (by decide) (by decide) ((hQ634.at g_739_30 rfl).trans ex739_30) (by first | assumption | omega) (by first | assumption | omega) e644 (by first | assumption | omega) (by first | assumption | omega) e647 (by first | assumption | omega) (by first | assumption | omega) e650 (by first | assumption | omega) (by first | assumption | omega) e653 (by first | assumption | omega) (by first | assumption | omega) ((hQ634.at g_739_28 rfl).trans ex739_28) (by first | assumption | omega) (by first | assumption | omega) e665 (by first | assumption | omega) (by first | assumption | omega) (by omega) (by omega) (by omega) (by omega) pr641) (cqI ?_)
                          rintro v681 M667 ⟨hP668, hQ669, h682, h683, h671, h672, h673, h674, h675, h676, h677, h678, h679, pr680⟩
                          have hF670 : Fr fm_m9047_739 M0 M667 := hF635.tr hQ669 rfl
                          have e684 := ((hQ669.at g_739_30 rfl).trans ((hQ634.at g_739_30 rfl).trans ex739_30))
                          obtain ⟨v685, e686⟩ : ∃ v, M667 739 31 = v := ⟨_, rfl⟩
                          have h687 := bf_739_31 hP668; rw [e686] at h687
                          obtain ⟨v688, e689⟩ : ∃ v, M667 739 33 = v := ⟨_, rfl⟩
                          have h690 := bf_739_33 hP668; rw [e689] at h690
                          obtain ⟨v691, e692⟩ : ∃ v, M667 739 34 = v := ⟨_, rfl⟩
                          have h693 := bf_739_34 hP668; rw [e692] at h693
                          obtain ⟨v694, e695⟩ : ∃ v, M667 739 32 = v := ⟨_, rfl⟩
                          have h696 := bf_739_32 hP668; rw [e695] at h696
                          obtain ⟨v697, e698⟩ : ∃ v, M667 739 28 = v := ⟨_, rfl⟩
                          have h699 := bf_739_28 hP668; rw [e698] at h699
                          have pr700 : GE M667 s0 u0 0 0 := GE_mn (Sm.fr hQ669 rfl) (fun q => by have := ((hQ634.at g_739_28 rfl).trans ex739_28); have := e698; omega) (GE_sm (Sm.fr hQ634 rfl) pp_E0)
                          refine wk_c1 r47_231 ?_
                          have gk : M667 739 28 = v697 := e698
                          refine wk_cv4 r47_232 kc_739_117 rfl (m9117_739 _ M667 8 v681 0 x739_45 hP668 (by decide) (by decide) (by omega) (by omega) (by decide) (by decide) ((hQ669.at g_739_45 rfl).trans ((hQ634.at g_739_45 rfl).trans ex739_45)) (by first | assumption | omega) (by first | assumption | omega)) (cqV ?_)
                          rintro M701 ⟨hP702, hQ703, h705, h706, xh707⟩
                          have hF704 : Fr fm_m9047_739 M0 M701 := hF670.tr hQ703 rfl
                          obtain ⟨v708, e709⟩ : ∃ v, M701 739 45 = v := ⟨_, rfl⟩
                          have h710 := bf_739_45 hP702; rw [e709] at h710
                          have pr711 : GE M701 s0 u0 1 0 := GE_atom xh707 pr700 (fun q => by rw [gk] at q; exact ⟨by omega, by unfold refok; omega, by omega, by omega⟩)
                          subst hQ; exact wk_ret r47_235 (⟨rfl, hP702, hF704, by have := ((hQ703.at g_739_30 rfl).trans ((hQ669.at g_739_30 rfl).trans ((hQ634.at g_739_30 rfl).trans ex739_30))); have := ((hQ703.at g_739_31 rfl).trans e686); omega, by have := ((hQ703.at g_739_31 rfl).trans e686); have := ((hQ703.at g_739_33 rfl).trans e689); have := ((hQ703.at g_739_34 rfl).trans e692); omega, by have := ((hQ703.at g_739_31 rfl).trans e686); have := ((hQ703.at g_739_33 rfl).trans e689); have := ((hQ703.at g_739_34 rfl).trans e692); omega, by have := ((hQ703.at g_739_34 rfl).trans e692); have := ((hQ703.at g_739_32 rfl).trans e695); omega, by have := ((hQ703.at g_739_33 rfl).trans e689); omega, by have := ((hQ703.at g_739_28 rfl).trans e698); omega, by have := ((hQ703.at g_739_33 rfl).trans e689); have := ((hQ703.at g_739_47 rfl).trans ((hQ669.at g_739_47 rfl).trans ((hQ634.at g_739_47 rfl).trans ex739_47))); have := e709; have := ((hQ703.at g_739_46 rfl).trans ((hQ669.at g_739_46 rfl).trans ((hQ634.at g_739_46 rfl).trans ex739_46))); have := ((hQ703.at g_739_28 rfl).trans e698); omega, by have := e709; have := ((hQ703.at g_739_46 rfl).trans ((hQ669.at g_739_46 rfl).trans ((hQ634.at g_739_46 rfl).trans ex739_46))); omega, by have := ((hQ703.at g_739_47 rfl).trans ((hQ669.at g_739_47 rfl).trans ((hQ634.at g_739_47 rfl).trans ex739_47))); have := ((hQ703.at g_739_28 rfl).trans e698); omega, (TK_sm (Sm.fr hQ703 rfl) pr680), pr711⟩)
                      · intro h712
                        exfalso
                        omega
                    · intro h713
                      exfalso
                      omega
                · intro h714
                  exfalso
                  omega
              · intro h715
                exfalso
                omega
            · intro h716
              exfalso
              omega
          · intro h717
            subst hQ; exact wk_ret r47_47 (⟨rfl, hP0, hF0, by have := ex739_30; have := ex739_31; omega, by have := ex739_31; have := ex739_33; have := ex739_34; omega, by have := ex739_31; have := ex739_33; have := ex739_34; omega, by have := ex739_34; have := ex739_32; omega, by have := ex739_33; omega, by have := ex739_28; omega, by have := ex739_33; have := ex739_47; have := ex739_45; have := ex739_46; have := ex739_28; omega, by have := ex739_45; have := ex739_46; omega, by have := ex739_47; have := ex739_28; omega, pp_TK, (GE_vac ex739_28 (by omega))⟩)
        · intro h718
          refine wk_il1 r47_29 (wk_c2 r47_30 ?_)
          refine wk_iceq r47_32 ⟨by omega, by omega⟩ (by decide) ?_ ?_
          · intro h719
            refine wk_al0 r47_40 (wk_cv1 r47_41 kc_739_84 rfl (m9084_739 _ M0 x739_28 hP0 ex739_28 (by first | assumption | omega) (by first | assumption | omega)) (cqI ?_))
            rintro v726 M720 ⟨hP721, hQ722, h727, h728, h724, h725⟩
            obtain rfl := Fr.same hQ722
            have e729 := ex739_28
            refine wk_ifne r47_44 ⟨by omega, by omega⟩ ?_ ?_
            · intro h730
              refine wk_al0 r47_48 (wk_cv1 r47_49 kc_739_76 rfl (m9076_739 _ M0 x739_30 x739_31 hP0 ex739_30 (by first | assumption | omega) (by first | assumption | omega) ex739_31 (by first | assumption | omega) (by first | assumption | omega) (by omega)) (cqV ?_))
              rintro M731 ⟨hP732, hQ733, h735, h736, h737, h738, h739, pr740⟩
              have hF734 : Fr fm_m9047_739 M0 M731 := hF0.tr hQ733 rfl
              have e741 := ((hQ733.at g_739_30 rfl).trans ex739_30)
              obtain ⟨v742, e743⟩ : ∃ v, M731 739 31 = v := ⟨_, rfl⟩
              have h744 := bf_739_31 hP732; rw [e743] at h744
              obtain ⟨v745, e746⟩ : ∃ v, M731 739 33 = v := ⟨_, rfl⟩
              have h747 := bf_739_33 hP732; rw [e746] at h747
              obtain ⟨v748, e749⟩ : ∃ v, M731 739 34 = v := ⟨_, rfl⟩
              have h750 := bf_739_34 hP732; rw [e749] at h750
              obtain ⟨v751, e752⟩ : ∃ v, M731 739 32 = v := ⟨_, rfl⟩
              have h753 := bf_739_32 hP732; rw [e752] at h753
              refine wk_il1 r47_52 (wk_c2 r47_53 ?_)
              refine wk_icne r47_55 ⟨by omega, by omega⟩ (by decide) ?_ ?_
              · intro h754
                refine wk_il1 r47_157 (wk_c2 r47_158 ?_)
                refine wk_icne r47_160 ⟨by omega, by omega⟩ (by decide) ?_ ?_
                · intro h755
                  refine wk_il1 r47_167 (wk_c2 r47_168 ?_)
                  refine wk_icne r47_170 ⟨by omega, by omega⟩ (by decide) ?_ ?_
                  · intro h756
                    refine wk_il1 r47_178 (wk_c2 r47_179 ?_)
                    refine wk_icne r47_181 ⟨by omega, by omega⟩ (by decide) ?_ ?_
                    · intro h757
                      refine wk_c2 r47_188 (wk_is2 r47_190 rfl (wk_al0 r47_191 (wk_il1 r47_192 (wk_c2 r47_193 ?_))))
                      refine wk_icne r47_195 ⟨by omega, by omega⟩ (by decide) ?_ ?_
                      · intro h758
                        refine wk_il1 r47_202 (wk_c2 r47_203 ?_)
                        refine wk_icne r47_205 ⟨by omega, by omega⟩ (by decide) ?_ ?_
                        · intro h759
                          refine wk_il1 r47_212 (wk_c2 r47_213 ?_)
                          refine wk_icne r47_215 ⟨by omega, by omega⟩ (by decide) ?_ ?_
                          · intro h760
                            refine wk_c2 r47_223 (wk_al0 r47_225 (wk_c1 r47_226 (wk_il2 r47_227 ?_)))
                            obtain ⟨v761, e762⟩ : ∃ v, M731 739 35 = v := ⟨_, rfl⟩
                            have h763 := bf_739_35 hP732; rw [e762] at h763
                            refine wk_cv3 r47_228 kc_739_114 rfl (m9114_739 _ M731 0 99 x739_30 v742 v745 v748 v751 x739_28 v761 hP732 (by decide) (by decide) (by decide) (by decide) ((hQ733.at g_739_30 rfl).trans ex739_30) (by first | assumption | omega) (by first | assumption | omega) e743 (by first | assumption | omega) (by first | assumption | omega) e746 (by first | assumption | omega) (by first | assumption | omega) e749 (by first | assumption | omega) (by first | assumption | omega) e752 (by first | assumption | omega) (by first | assumption | omega) ((hQ733.at g_739_28 rfl).trans ex739_28) (by first | assumption | omega) (by first | assumption | omega) e762 (by first | assumption | omega) (by first | assumption | omega) (by omega) (by omega) (by omega) (by omega) pr740) (cqI ?_)
                            rintro v778 M764 ⟨hP765, hQ766, h779, h780, h768, h769, h770, h771, h772, h773, h774, h775, h776, pr777⟩
                            have hF767 : Fr fm_m9047_739 M0 M764 := hF734.tr hQ766 rfl
                            have e781 := ((hQ766.at g_739_30 rfl).trans ((hQ733.at g_739_30 rfl).trans ex739_30))
                            obtain ⟨v782, e783⟩ : ∃ v, M764 739 31 = v := ⟨_, rfl⟩
                            have h784 := bf_739_31 hP765; rw [e783] at h784
                            obtain ⟨v785, e786⟩ : ∃ v, M764 739 33 = v := ⟨_, rfl⟩
                            have h787 := bf_739_33 hP765; rw [e786] at h787
                            obtain ⟨v788, e789⟩ : ∃ v, M764 739 34 = v := ⟨_, rfl⟩
                            have h790 := bf_739_34 hP765; rw [e789] at h790
                            obtain ⟨v791, e792⟩ : ∃ v, M764 739 32 = v := ⟨_, rfl⟩
                            have h793 := bf_739_32 hP765; rw [e792] at h793
                            obtain ⟨v794, e795⟩ : ∃ v, M764 739 28 = v := ⟨_, rfl⟩
                            have h796 := bf_739_28 hP765; rw [e795] at h796
                            have pr797 : GE M764 s0 u0 0 0 := GE_mn (Sm.fr hQ766 rfl) (fun q => by have := ((hQ733.at g_739_28 rfl).trans ex739_28); have := e795; omega) (GE_sm (Sm.fr hQ733 rfl) pp_E0)
                            refine wk_c1 r47_231 ?_
                            have gk : M764 739 28 = v794 := e795
                            refine wk_cv4 r47_232 kc_739_117 rfl (m9117_739 _ M764 9 v778 0 x739_45 hP765 (by decide) (by decide) (by omega) (by omega) (by decide) (by decide) ((hQ766.at g_739_45 rfl).trans ((hQ733.at g_739_45 rfl).trans ex739_45)) (by first | assumption | omega) (by first | assumption | omega)) (cqV ?_)
                            rintro M798 ⟨hP799, hQ800, h802, h803, xh804⟩
                            have hF801 : Fr fm_m9047_739 M0 M798 := hF767.tr hQ800 rfl
                            obtain ⟨v805, e806⟩ : ∃ v, M798 739 45 = v := ⟨_, rfl⟩
                            have h807 := bf_739_45 hP799; rw [e806] at h807
                            have pr808 : GE M798 s0 u0 1 0 := GE_atom xh804 pr797 (fun q => by rw [gk] at q; exact ⟨by omega, by unfold refok; omega, by omega, by omega⟩)
                            subst hQ; exact wk_ret r47_235 (⟨rfl, hP799, hF801, by have := ((hQ800.at g_739_30 rfl).trans ((hQ766.at g_739_30 rfl).trans ((hQ733.at g_739_30 rfl).trans ex739_30))); have := ((hQ800.at g_739_31 rfl).trans e783); omega, by have := ((hQ800.at g_739_31 rfl).trans e783); have := ((hQ800.at g_739_33 rfl).trans e786); have := ((hQ800.at g_739_34 rfl).trans e789); omega, by have := ((hQ800.at g_739_31 rfl).trans e783); have := ((hQ800.at g_739_33 rfl).trans e786); have := ((hQ800.at g_739_34 rfl).trans e789); omega, by have := ((hQ800.at g_739_34 rfl).trans e789); have := ((hQ800.at g_739_32 rfl).trans e792); omega, by have := ((hQ800.at g_739_33 rfl).trans e786); omega, by have := ((hQ800.at g_739_28 rfl).trans e795); omega, by have := ((hQ800.at g_739_33 rfl).trans e786); have := ((hQ800.at g_739_47 rfl).trans ((hQ766.at g_739_47 rfl).trans ((hQ733.at g_739_47 rfl).trans ex739_47))); have := e806; have := ((hQ800.at g_739_46 rfl).trans ((hQ766.at g_739_46 rfl).trans ((hQ733.at g_739_46 rfl).trans ex739_46))); have := ((hQ800.at g_739_28 rfl).trans e795); omega, by have := e806; have := ((hQ800.at g_739_46 rfl).trans ((hQ766.at g_739_46 rfl).trans ((hQ733.at g_739_46 rfl).trans ex739_46))); omega, by have := ((hQ800.at g_739_47 rfl).trans ((hQ766.at g_739_47 rfl).trans ((hQ733.at g_739_47 rfl).trans ex739_47))); have := ((hQ800.at g_739_28 rfl).trans e795); omega, (TK_sm (Sm.fr hQ800 rfl) pr777), pr808⟩)
                          · intro h809
                            exfalso
                            omega
                        · intro h810
                          exfalso
                          omega
                      · intro h811
                        exfalso
                        omega
                    · intro h812
                      exfalso
                      omega
                  · intro h813
                    exfalso
                    omega
                · intro h814
                  exfalso
                  omega
              · intro h815
                exfalso
                omega
            · intro h816
              subst hQ; exact wk_ret r47_47 (⟨rfl, hP0, hF0, by have := ex739_30; have := ex739_31; omega, by have := ex739_31; have := ex739_33; have := ex739_34; omega, by have := ex739_31; have := ex739_33; have := ex739_34; omega, by have := ex739_34; have := ex739_32; omega, by have := ex739_33; omega, by have := ex739_28; omega, by have := ex739_33; have := ex739_47; have := ex739_45; have := ex739_46; have := ex739_28; omega, by have := ex739_45; have := ex739_46; omega, by have := ex739_47; have := ex739_28; omega, pp_TK, (GE_vac ex739_28 (by omega))⟩)
          · intro h817
            refine wk_al0 r47_35 (wk_c1 r47_36 (wk_cv2 r47_37 kc_739_137 rfl (m9137_739 _ M0 1 x739_28 x739_33 hP0 (by decide) (by decide) ex739_28 (by first | assumption | omega) (by first | assumption | omega) ex739_33 (by first | assumption | omega) (by first | assumption | omega)) (cqV ?_)))
            rintro M818 ⟨hP819, hQ820, h822, h823⟩
            have hF821 : Fr fm_m9047_739 M0 M818 := hF0.tr hQ820 rfl
            obtain ⟨v824, e825⟩ : ∃ v, M818 739 28 = v := ⟨_, rfl⟩
            have h826 := bf_739_28 hP819; rw [e825] at h826
            have pr827 : GE M818 s0 u0 0 0 := GE_mn (Sm.fr hQ820 rfl) (fun q => by have := ex739_28; have := e825; omega) pp_E0
            refine wk_al0 r47_40 (wk_cv1 r47_41 kc_739_84 rfl (m9084_739 _ M818 v824 hP819 e825 (by first | assumption | omega) (by first | assumption | omega)) (cqI ?_))
            rintro v834 M828 ⟨hP829, hQ830, h835, h836, h832, h833⟩
            obtain rfl := Fr.same hQ830
            have e837 := e825
            refine wk_ifne r47_44 ⟨by omega, by omega⟩ ?_ ?_
            · intro h838
              exfalso
              omega
            · intro h839
              subst hQ; exact wk_ret r47_47 (⟨rfl, hP819, hF821, by have := ((hQ820.at g_739_30 rfl).trans ex739_30); have := ((hQ820.at g_739_31 rfl).trans ex739_31); omega, by have := ((hQ820.at g_739_31 rfl).trans ex739_31); have := ((hQ820.at g_739_33 rfl).trans ex739_33); have := ((hQ820.at g_739_34 rfl).trans ex739_34); omega, by have := ((hQ820.at g_739_31 rfl).trans ex739_31); have := ((hQ820.at g_739_33 rfl).trans ex739_33); have := ((hQ820.at g_739_34 rfl).trans ex739_34); omega, by have := ((hQ820.at g_739_34 rfl).trans ex739_34); have := ((hQ820.at g_739_32 rfl).trans ex739_32); omega, by have := ((hQ820.at g_739_33 rfl).trans ex739_33); omega, by have := e825; omega, by have := ((hQ820.at g_739_33 rfl).trans ex739_33); have := ((hQ820.at g_739_47 rfl).trans ex739_47); have := ((hQ820.at g_739_45 rfl).trans ex739_45); have := ((hQ820.at g_739_46 rfl).trans ex739_46); have := e825; omega, by have := ((hQ820.at g_739_45 rfl).trans ex739_45); have := ((hQ820.at g_739_46 rfl).trans ex739_46); omega, by have := ((hQ820.at g_739_47 rfl).trans ex739_47); have := e825; omega, (TK_sm (Sm.fr hQ820 rfl) pp_TK), (GE_vac e825 (by omega))⟩)
