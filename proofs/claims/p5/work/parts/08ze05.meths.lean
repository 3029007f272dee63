/-! ===== written by program (wip/layer3/model.py): contracts of methods ===== -/
def fm_m9112_739 : Nat := 1356938545779010069195758067332661297480611728569957925602488559592754118656
/-- IslandHallModel.namesOne -/
theorem m9112_739 {B : eB} (d : Nat) (M0 : Mm) (x739_30 : Int) (x739_31 : Int) (x739_33 : Int) (x739_34 : Int) (x739_32 : Int) (x739_28 : Int) (x739_45 : Int) (x739_46 : Int) (x739_47 : Int) (x739_38 : Int) (x739_36 : Int) (x739_51 : Int) (s0 : Int) (u0 : Int → Int) (hP0 : Pw M0) (ex739_30 : M0 739 30 = x739_30) (lx739_30 : 0 ≤ x739_30) (ux739_30 : x739_30 ≤ 500) (ex739_31 : M0 739 31 = x739_31) (lx739_31 : 0 ≤ x739_31) (ux739_31 : x739_31 ≤ 500) (ex739_33 : M0 739 33 = x739_33) (lx739_33 : 0 ≤ x739_33) (ux739_33 : x739_33 ≤ 500) (ex739_34 : M0 739 34 = x739_34) (lx739_34 : 0 ≤ x739_34) (ux739_34 : x739_34 ≤ 500) (ex739_32 : M0 739 32 = x739_32) (lx739_32 : 0 ≤ x739_32) (ux739_32 : x739_32 ≤ 4) (ex739_28 : M0 739 28 = x739_28) (lx739_28 : 0 ≤ x739_28) (ux739_28 : x739_28 ≤ 6) (ex739_45 : M0 739 45 = x739_45) (lx739_45 : 0 ≤ x739_45) (ux739_45 : x739_45 ≤ 1000) (ex739_46 : M0 739 46 = x739_46) (lx739_46 : 0 ≤ x739_46) (ux739_46 : x739_46 ≤ 520) (ex739_47 : M0 739 47 = x739_47) (lx739_47 : 0 ≤ x739_47) (ux739_47 : x739_47 ≤ 500) (ex739_38 : M0 739 38 = x739_38) (lx739_38 : 0 ≤ x739_38) (ux739_38 : x739_38 ≤ 999) (ex739_36 : M0 739 36 = x739_36) (lx739_36 : 0 ≤ x739_36) (ux739_36 : x739_36 ≤ 255) (ex739_51 : M0 739 51 = x739_51) (lx739_51 : 0 ≤ x739_51) (ux739_51 : x739_51 ≤ 0) (rp0 : 0 ≤ x739_30 + (-1) * x739_31) (rp1 : 0 ≤ x739_31 + (-1) * x739_33 + (-1) * x739_34) (rp2 : 0 ≤ (-1) * x739_31 + x739_33 + x739_34) (rp3 : 0 ≤ 4 * x739_34 + (-1) * x739_32) (rp4 : 0 ≤ x739_33 + x739_47 + (-2) * x739_45 + (-2) * x739_46 + 3000 * x739_28) (rp5 : 0 ≤ (-2) * x739_45 + (-2) * x739_46 + 520) (rp6 : 0 ≤ (-1) * x739_47 + x739_28 + 6) (rp7 : 0 ≤ (-1) * x739_38 + 7 + 3000 * x739_28) (pp_TK : TK M0) (pp_E0 : GE M0 s0 u0 0 0) : Ct B (d + 5) 112 [R 739] M0 (qI fun z M => Pw M ∧ Fr fm_m9112_739 M0 M ∧ 0 ≤ z ∧ z ≤ 1 ∧ 0 ≤ M 739 30 + (-1) * (M 739 31) ∧ 0 ≤ M 739 31 + (-1) * (M 739 33) + (-1) * (M 739 34) ∧ 0 ≤ (-1) * (M 739 31) + M 739 33 + M 739 34 ∧ 0 ≤ 4 * (M 739 34) + (-1) * (M 739 32) ∧ 0 ≤ M 739 33 + (-1) * x739_33 ∧ 0 ≤ M 739 28 + (-1) * x739_28 ∧ 0 ≤ M 739 33 + M 739 47 + (-2) * (M 739 45) + (-2) * (M 739 46) + 3000 * (M 739 28) ∧ 0 ≤ (-2) * (M 739 45) + (-2) * (M 739 46) + 520 ∧ 0 ≤ (-1) * (M 739 47) + M 739 28 + 6 ∧ 0 ≤ M 739 33 + (-1) * x739_33 + M 739 28 + (-1) ∧ 0 ≤ 1 + (-1) * z + (-1) * (M 739 51) ∧ (TK M) ∧ (GH M s0 u0)) := by
  refine ct_of (d := d + 4) (k := 2) (L := [some (R 739), none, none]) rfl rfl rfl ?_
  have hF0 := Fr.rf fm_m9112_739 M0
  generalize hQ : (qI fun z M => Pw M ∧ Fr fm_m9112_739 M0 M ∧ 0 ≤ z ∧ z ≤ 1 ∧ 0 ≤ M 739 30 + (-1) * (M 739 31) ∧ 0 ≤ M 739 31 + (-1) * (M 739 33) + (-1) * (M 739 34) ∧ 0 ≤ (-1) * (M 739 31) + M 739 33 + M 739 34 ∧ 0 ≤ 4 * (M 739 34) + (-1) * (M 739 32) ∧ 0 ≤ M 739 33 + (-1) * x739_33 ∧ 0 ≤ M 739 28 + (-1) * x739_28 ∧ 0 ≤ M 739 33 + M 739 47 + (-2) * (M 739 45) + (-2) * (M 739 46) + 3000 * (M 739 28) ∧ 0 ≤ (-2) * (M 739 45) + (-2) * (M 739 46) + 520 ∧ 0 ≤ (-1) * (M 739 47) + M 739 28 + 6 ∧ 0 ≤ M 739 33 + (-1) * x739_33 + M 739 28 + (-1) ∧ 0 ≤ 1 + (-1) * z + (-1) * (M 739 51) ∧ (TK M) ∧ (GH M s0 u0)) = Q
  refine wk_al0 r112_0 (wk_cv1 r112_1 kc_739_111 rfl (m9111_739 _ M0 x739_30 x739_31 x739_33 x739_34 x739_32 x739_28 x739_38 x739_36 hP0 ex739_30 (by first | assumption | omega) (by first | assumption | omega) ex739_31 (by first | assumption | omega) (by first | assumption | omega) ex739_33 (by first | assumption | omega) (by first | assumption | omega) ex739_34 (by first | assumption | omega) (by first | assumption | omega) ex739_32 (by first | assumption | omega) (by first | assumption | omega) ex739_28 (by first | assumption | omega) (by first | assumption | omega) ex739_38 (by first | assumption | omega) (by first | assumption | omega) ex739_36 (by first | assumption | omega) (by first | assumption | omega) (by omega) (by omega) (by omega) (by omega) (by omega) pp_TK) (cqI ?_))
  rintro v15 M1 ⟨hP2, hQ3, h16, h17, h5, h6, h7, h8, h9, h10, h11, h12, h13, pr14⟩
  have hF4 : Fr fm_m9112_739 M0 M1 := hF0.tr hQ3 rfl
  have e18 := ((hQ3.at g_739_30 rfl).trans ex739_30)
  obtain ⟨v19, e20⟩ : ∃ v, M1 739 31 = v := ⟨_, rfl⟩
  have h21 := bf_739_31 hP2; rw [e20] at h21
  obtain ⟨v22, e23⟩ : ∃ v, M1 739 33 = v := ⟨_, rfl⟩
  have h24 := bf_739_33 hP2; rw [e23] at h24
  obtain ⟨v25, e26⟩ : ∃ v, M1 739 34 = v := ⟨_, rfl⟩
  have h27 := bf_739_34 hP2; rw [e26] at h27
  obtain ⟨v28, e29⟩ : ∃ v, M1 739 32 = v := ⟨_, rfl⟩
  have h30 := bf_739_32 hP2; rw [e29] at h30
  obtain ⟨v31, e32⟩ : ∃ v, M1 739 28 = v := ⟨_, rfl⟩
  have h33 := bf_739_28 hP2; rw [e32] at h33
  have pr34 : GE M1 s0 u0 0 0 := GE_mn (Sm.fr hQ3 rfl) (fun q => by have := ex739_28; have := e32; omega) pp_E0
  refine wk_is1 r112_4 rfl (wk_al0 r112_5 (wk_cv1 r112_6 kc_739_97 rfl (m9097_739 _ M1 v28 v25 hP2 e29 (by first | assumption | omega) (by first | assumption | omega) e26 (by first | assumption | omega) (by first | assumption | omega) pr14) (cqI ?_)))
  rintro v40 M35 ⟨hP36, hQ37, h41, h42, h39⟩
  obtain rfl := Fr.same hQ37
  have e43 := e26
  refine wk_is2 r112_9 rfl (wk_al0 r112_10 (wk_cv1 r112_11 kc_739_84 rfl (m9084_739 _ M1 v31 hP2 e32 (by first | assumption | omega) (by first | assumption | omega)) (cqI ?_)))
  rintro v50 M44 ⟨hP45, hQ46, h51, h52, h48, h49⟩
  obtain rfl := Fr.same hQ46
  have e53 := e32
  have c69_418 : Wp B (d + 4) 112 69 [some (R 739), some (I v15), some (I v40)] [] M1 Q := by
    refine wk_al0 r112_69 (wk_c1 r112_70 (wk_putfz81 r112_71 fd_739_51 (by decide) (wk_nw g_739_51 rfl hP2 hF4 (uf_739_51 (by decide)) ?_)))
    intro M197 hP198 hF199 e200
    refine wk_al0 r112_74 (wk_cv1 r112_75 kc_739_84 rfl (m9084_739 _ M197 v31 hP198 (mUp_no e200 e32 (Or.inr (by decide))) (by first | assumption | omega) (by first | assumption | omega)) (cqI ?_))
    rintro v207 M201 ⟨hP202, hQ203, h208, h209, h205, h206⟩
    obtain rfl := Fr.same hQ203
    have e210 := (mUp_no e200 e32 (Or.inr (by decide)))
    refine wk_ifeq r112_78 ⟨by omega, by omega⟩ ?_ ?_
    · intro h211
      refine wk_al0 r112_98 (wk_cv1 r112_99 kc_739_84 rfl (m9084_739 _ M197 v31 hP198 (mUp_no e200 e32 (Or.inr (by decide))) (by first | assumption | omega) (by first | assumption | omega)) (cqI ?_))
      rintro v218 M212 ⟨hP213, hQ214, h219, h220, h216, h217⟩
      obtain rfl := Fr.same hQ214
      have e221 := (mUp_no e200 e32 (Or.inr (by decide)))
      refine wk_ifne r112_102 ⟨by omega, by omega⟩ ?_ ?_
      · intro h222
        exfalso
        omega
      · intro h223
        refine wk_c1 r112_105 ?_
        subst hQ; exact wk_zret r112_106 (by decide) (⟨rfl, _, rfl, hP198, hF199, by omega, by omega, by have := (mUp_no e200 ((hQ3.at g_739_30 rfl).trans ex739_30) (Or.inr (by decide))); have := (mUp_no e200 e20 (Or.inr (by decide))); omega, by have := (mUp_no e200 e20 (Or.inr (by decide))); have := (mUp_no e200 e23 (Or.inr (by decide))); have := (mUp_no e200 e26 (Or.inr (by decide))); omega, by have := (mUp_no e200 e20 (Or.inr (by decide))); have := (mUp_no e200 e23 (Or.inr (by decide))); have := (mUp_no e200 e26 (Or.inr (by decide))); omega, by have := (mUp_no e200 e26 (Or.inr (by decide))); have := (mUp_no e200 e29 (Or.inr (by decide))); omega, by have := (mUp_no e200 e23 (Or.inr (by decide))); omega, by have := (mUp_no e200 e32 (Or.inr (by decide))); omega, by have := (mUp_no e200 e23 (Or.inr (by decide))); have := (mUp_no e200 ((hQ3.at g_739_47 rfl).trans ex739_47) (Or.inr (by decide))); have := (mUp_no e200 ((hQ3.at g_739_45 rfl).trans ex739_45) (Or.inr (by decide))); have := (mUp_no e200 ((hQ3.at g_739_46 rfl).trans ex739_46) (Or.inr (by decide))); have := (mUp_no e200 e32 (Or.inr (by decide))); omega, by have := (mUp_no e200 ((hQ3.at g_739_45 rfl).trans ex739_45) (Or.inr (by decide))); have := (mUp_no e200 ((hQ3.at g_739_46 rfl).trans ex739_46) (Or.inr (by decide))); omega, by have := (mUp_no e200 ((hQ3.at g_739_47 rfl).trans ex739_47) (Or.inr (by decide))); have := (mUp_no e200 e32 (Or.inr (by decide))); omega, by have := (mUp_no e200 e23 (Or.inr (by decide))); have := (mUp_no e200 e32 (Or.inr (by decide))); omega, by have := (mUp_at e200); omega, (TK_sm (Sm.up e200 g_739_51 rfl) pr14), (GH_vac (mUp_no e200 e32 (Or.inr (by decide))) (by omega))⟩)
    · intro h224
      refine wk_il2 r112_81 (wk_c2 r112_82 ?_)
      refine wk_iceq r112_84 ⟨by omega, by omega⟩ (by decide) ?_ ?_
      · intro h225
        refine wk_al0 r112_98 (wk_cv1 r112_99 kc_739_84 rfl (m9084_739 _ M197 v31 hP198 (mUp_no e200 e32 (Or.inr (by decide))) (by first | assumption | omega) (by first | assumption | omega)) (cqI ?_))
        rintro v232 M226 ⟨hP227, hQ228, h233, h234, h230, h231⟩
        obtain rfl := Fr.same hQ228
        have e235 := (mUp_no e200 e32 (Or.inr (by decide)))
        refine wk_ifne r112_102 ⟨by omega, by omega⟩ ?_ ?_
        · intro h236
          refine wk_al0 r112_107 (wk_cv1 r112_108 kc_739_76 rfl (m9076_739 _ M197 x739_30 v19 hP198 (mUp_no e200 ((hQ3.at g_739_30 rfl).trans ex739_30) (Or.inr (by decide))) (by first | assumption | omega) (by first | assumption | omega) (mUp_no e200 e20 (Or.inr (by decide))) (by first | assumption | omega) (by first | assumption | omega) (by omega)) (cqV ?_))
          rintro M237 ⟨hP238, hQ239, h241, h242, h243, h244, h245, pr246⟩
          have hF240 : Fr fm_m9112_739 M0 M237 := hF199.tr hQ239 rfl
          have e247 := ((hQ239.at g_739_30 rfl).trans (mUp_no e200 ((hQ3.at g_739_30 rfl).trans ex739_30) (Or.inr (by decide))))
          obtain ⟨v248, e249⟩ : ∃ v, M237 739 31 = v := ⟨_, rfl⟩
          have h250 := bf_739_31 hP238; rw [e249] at h250
          obtain ⟨v251, e252⟩ : ∃ v, M237 739 33 = v := ⟨_, rfl⟩
          have h253 := bf_739_33 hP238; rw [e252] at h253
          obtain ⟨v254, e255⟩ : ∃ v, M237 739 34 = v := ⟨_, rfl⟩
          have h256 := bf_739_34 hP238; rw [e255] at h256
          obtain ⟨v257, e258⟩ : ∃ v, M237 739 32 = v := ⟨_, rfl⟩
          have h259 := bf_739_32 hP238; rw [e258] at h259
          refine wk_il2 r112_111 (wk_c2 r112_112 ?_)
          refine wk_icne r112_114 ⟨by omega, by omega⟩ (by decide) ?_ ?_
          · intro h260
            exfalso
            omega
          · intro h261
            refine wk_al0 r112_117 (wk_c1 r112_118 (wk_il1 r112_119 (wk_al0 r112_120 (wk_cv1 r112_121 kc_739_93 rfl (m9093_739 _ M237 x739_30 v248 v251 v254 v257 v31 hP238 ((hQ239.at g_739_30 rfl).trans (mUp_no e200 ((hQ3.at g_739_30 rfl).trans ex739_30) (Or.inr (by decide)))) (by first | assumption | omega) (by first | assumption | omega) e249 (by first | assumption | omega) (by first | assumption | omega) e252 (by first | assumption | omega) (by first | assumption | omega) e255 (by first | assumption | omega) (by first | assumption | omega) e258 (by first | assumption | omega) (by first | assumption | omega) ((hQ239.at g_739_28 rfl).trans (mUp_no e200 e32 (Or.inr (by decide)))) (by first | assumption | omega) (by first | assumption | omega) (by omega) (by omega) (by omega) (by omega) pr246) (cqI ?_)))))
            rintro v276 M262 ⟨hP263, hQ264, h277, h278, h266, h267, h268, h269, h270, h271, h272, h273, h274, pr275⟩
            have hF265 : Fr fm_m9112_739 M0 M262 := hF240.tr hQ264 rfl
            have e279 := ((hQ264.at g_739_30 rfl).trans ((hQ239.at g_739_30 rfl).trans (mUp_no e200 ((hQ3.at g_739_30 rfl).trans ex739_30) (Or.inr (by decide)))))
            obtain ⟨v280, e281⟩ : ∃ v, M262 739 31 = v := ⟨_, rfl⟩
            have h282 := bf_739_31 hP263; rw [e281] at h282
            obtain ⟨v283, e284⟩ : ∃ v, M262 739 33 = v := ⟨_, rfl⟩
            have h285 := bf_739_33 hP263; rw [e284] at h285
            obtain ⟨v286, e287⟩ : ∃ v, M262 739 34 = v := ⟨_, rfl⟩
            have h288 := bf_739_34 hP263; rw [e287] at h288
            obtain ⟨v289, e290⟩ : ∃ v, M262 739 32 = v := ⟨_, rfl⟩
            have h291 := bf_739_32 hP263; rw [e290] at h291
            obtain ⟨v292, e293⟩ : ∃ v, M262 739 28 = v := ⟨_, rfl⟩
            have h294 := bf_739_28 hP263; rw [e293] at h294
            have pr295 : GE M262 s0 u0 0 0 := GE_mn (Sm.fr hQ264 rfl) (fun q => by have := ((hQ239.at g_739_28 rfl).trans (mUp_no e200 e32 (Or.inr (by decide)))); have := e293; omega) (GE_sm (Sm.fr hQ239 rfl) (GE_sm (Sm.up e200 g_739_51 rfl) pr34))
            have gk : M262 739 28 = v292 := e293
            refine wk_cv4 r112_124 kc_739_117 rfl (m9117_739 _ M262 1 v15 v276 x739_45 hP263 (by decide) (by decide) (by omega) (by omega) (by omega) (by omega) ((hQ264.at g_739_45 rfl).trans ((hQ239.at g_739_45 rfl).trans (mUp_no e200 ((hQ3.at g_739_45 rfl).trans ex739_45) (Or.inr (by decide))))) (by first | assumption | omega) (by first | assumption | omega)) (cqV ?_)
            rintro M296 ⟨hP297, hQ298, h300, h301, xh302⟩
            have hF299 : Fr fm_m9112_739 M0 M296 := hF265.tr hQ298 rfl
            obtain ⟨v303, e304⟩ : ∃ v, M296 739 45 = v := ⟨_, rfl⟩
            have h305 := bf_739_45 hP297; rw [e304] at h305
            have pr306 : GE M296 s0 u0 1 0 := GE_atom xh302 pr295 (fun q => by rw [gk] at q; exact ⟨by omega, by unfold refok; omega, by omega, by omega⟩)
            refine wk_goto r112_127 ?_
            refine wk_c1 r112_140 ?_
            subst hQ; exact wk_zret r112_141 (by decide) (⟨rfl, _, rfl, hP297, hF299, by omega, by omega, by have := ((hQ298.at g_739_30 rfl).trans ((hQ264.at g_739_30 rfl).trans ((hQ239.at g_739_30 rfl).trans (mUp_no e200 ((hQ3.at g_739_30 rfl).trans ex739_30) (Or.inr (by decide)))))); have := ((hQ298.at g_739_31 rfl).trans e281); omega, by have := ((hQ298.at g_739_31 rfl).trans e281); have := ((hQ298.at g_739_33 rfl).trans e284); have := ((hQ298.at g_739_34 rfl).trans e287); omega, by have := ((hQ298.at g_739_31 rfl).trans e281); have := ((hQ298.at g_739_33 rfl).trans e284); have := ((hQ298.at g_739_34 rfl).trans e287); omega, by have := ((hQ298.at g_739_34 rfl).trans e287); have := ((hQ298.at g_739_32 rfl).trans e290); omega, by have := ((hQ298.at g_739_33 rfl).trans e284); omega, by have := ((hQ298.at g_739_28 rfl).trans e293); omega, by have := ((hQ298.at g_739_33 rfl).trans e284); have := ((hQ298.at g_739_47 rfl).trans ((hQ264.at g_739_47 rfl).trans ((hQ239.at g_739_47 rfl).trans (mUp_no e200 ((hQ3.at g_739_47 rfl).trans ex739_47) (Or.inr (by decide)))))); have := e304; have := ((hQ298.at g_739_46 rfl).trans ((hQ264.at g_739_46 rfl).trans ((hQ239.at g_739_46 rfl).trans (mUp_no e200 ((hQ3.at g_739_46 rfl).trans ex739_46) (Or.inr (by decide)))))); have := ((hQ298.at g_739_28 rfl).trans e293); omega, by have := e304; have := ((hQ298.at g_739_46 rfl).trans ((hQ264.at g_739_46 rfl).trans ((hQ239.at g_739_46 rfl).trans (mUp_no e200 ((hQ3.at g_739_46 rfl).trans ex739_46) (Or.inr (by decide)))))); omega, by have := ((hQ298.at g_739_47 rfl).trans ((hQ264.at g_739_47 rfl).trans ((hQ239.at g_739_47 rfl).trans (mUp_no e200 ((hQ3.at g_739_47 rfl).trans ex739_47) (Or.inr (by decide)))))); have := ((hQ298.at g_739_28 rfl).trans e293); omega, by have := ((hQ298.at g_739_33 rfl).trans e284); have := ((hQ298.at g_739_28 rfl).trans e293); omega, by have := ((hQ298.at g_739_51 rfl).trans ((hQ264.at g_739_51 rfl).trans ((hQ239.at g_739_51 rfl).trans (mUp_at e200)))); omega, (TK_sm (Sm.fr hQ298 rfl) pr275), (GH_of1 ((hQ298.at g_739_51 rfl).trans ((hQ264.at g_739_51 rfl).trans ((hQ239.at g_739_51 rfl).trans (mUp_at e200)))) (by omega) pr306)⟩)
        · intro h307
          exfalso
          omega
      · intro h308
        refine wk_il2 r112_87 (wk_c2 r112_88 ?_)
        refine wk_iceq r112_90 ⟨by omega, by omega⟩ (by decide) ?_ ?_
        · intro h309
          refine wk_al0 r112_98 (wk_cv1 r112_99 kc_739_84 rfl (m9084_739 _ M197 v31 hP198 (mUp_no e200 e32 (Or.inr (by decide))) (by first | assumption | omega) (by first | assumption | omega)) (cqI ?_))
          rintro v316 M310 ⟨hP311, hQ312, h317, h318, h314, h315⟩
          obtain rfl := Fr.same hQ312
          have e319 := (mUp_no e200 e32 (Or.inr (by decide)))
          refine wk_ifne r112_102 ⟨by omega, by omega⟩ ?_ ?_
          · intro h320
            refine wk_al0 r112_107 (wk_cv1 r112_108 kc_739_76 rfl (m9076_739 _ M197 x739_30 v19 hP198 (mUp_no e200 ((hQ3.at g_739_30 rfl).trans ex739_30) (Or.inr (by decide))) (by first | assumption | omega) (by first | assumption | omega) (mUp_no e200 e20 (Or.inr (by decide))) (by first | assumption | omega) (by first | assumption | omega) (by omega)) (cqV ?_))
            rintro M321 ⟨hP322, hQ323, h325, h326, h327, h328, h329, pr330⟩
            have hF324 : Fr fm_m9112_739 M0 M321 := hF199.tr hQ323 rfl
            have e331 := ((hQ323.at g_739_30 rfl).trans (mUp_no e200 ((hQ3.at g_739_30 rfl).trans ex739_30) (Or.inr (by decide))))
            obtain ⟨v332, e333⟩ : ∃ v, M321 739 31 = v := ⟨_, rfl⟩
            have h334 := bf_739_31 hP322; rw [e333] at h334
            obtain ⟨v335, e336⟩ : ∃ v, M321 739 33 = v := ⟨_, rfl⟩
            have h337 := bf_739_33 hP322; rw [e336] at h337
            obtain ⟨v338, e339⟩ : ∃ v, M321 739 34 = v := ⟨_, rfl⟩
            have h340 := bf_739_34 hP322; rw [e339] at h340
            obtain ⟨v341, e342⟩ : ∃ v, M321 739 32 = v := ⟨_, rfl⟩
            have h343 := bf_739_32 hP322; rw [e342] at h343
            refine wk_il2 r112_111 (wk_c2 r112_112 ?_)
            refine wk_icne r112_114 ⟨by omega, by omega⟩ (by decide) ?_ ?_
            · intro h344
              refine wk_al0 r112_130 (wk_c1 r112_131 (wk_il1 r112_132 (wk_al0 r112_133 ?_)))
              obtain ⟨v345, e346⟩ : ∃ v, M321 739 36 = v := ⟨_, rfl⟩
              have h347 := bf_739_36 hP322; rw [e346] at h347
              refine wk_cv1 r112_134 kc_739_111 rfl (m9111_739 _ M321 x739_30 v332 v335 v338 v341 v31 x739_38 v345 hP322 ((hQ323.at g_739_30 rfl).trans (mUp_no e200 ((hQ3.at g_739_30 rfl).trans ex739_30) (Or.inr (by decide)))) (by first | assumption | omega) (by first | assumption | omega) e333 (by first | assumption | omega) (by first | assumption | omega) e336 (by first | assumption | omega) (by first | assumption | omega) e339 (by first | assumption | omega) (by first | assumption | omega) e342 (by first | assumption | omega) (by first | assumption | omega) ((hQ323.at g_739_28 rfl).trans (mUp_no e200 e32 (Or.inr (by decide)))) (by first | assumption | omega) (by first | assumption | omega) ((hQ323.at g_739_38 rfl).trans (mUp_no e200 ((hQ3.at g_739_38 rfl).trans ex739_38) (Or.inr (by decide)))) (by first | assumption | omega) (by first | assumption | omega) e346 (by first | assumption | omega) (by first | assumption | omega) (by omega) (by omega) (by omega) (by omega) (by omega) pr330) (cqI ?_)
              rintro v362 M348 ⟨hP349, hQ350, h363, h364, h352, h353, h354, h355, h356, h357, h358, h359, h360, pr361⟩
              have hF351 : Fr fm_m9112_739 M0 M348 := hF324.tr hQ350 rfl
              have e365 := ((hQ350.at g_739_30 rfl).trans ((hQ323.at g_739_30 rfl).trans (mUp_no e200 ((hQ3.at g_739_30 rfl).trans ex739_30) (Or.inr (by decide)))))
              obtain ⟨v366, e367⟩ : ∃ v, M348 739 31 = v := ⟨_, rfl⟩
              have h368 := bf_739_31 hP349; rw [e367] at h368
              obtain ⟨v369, e370⟩ : ∃ v, M348 739 33 = v := ⟨_, rfl⟩
              have h371 := bf_739_33 hP349; rw [e370] at h371
              obtain ⟨v372, e373⟩ : ∃ v, M348 739 34 = v := ⟨_, rfl⟩
              have h374 := bf_739_34 hP349; rw [e373] at h374
              obtain ⟨v375, e376⟩ : ∃ v, M348 739 32 = v := ⟨_, rfl⟩
              have h377 := bf_739_32 hP349; rw [e376] at h377
              obtain ⟨v378, e379⟩ : ∃ v, M348 739 28 = v := ⟨_, rfl⟩
              have h380 := bf_739_28 hP349; rw [e379] at h380
              have pr381 : GE M348 s0 u0 0 0 := GE_mn (Sm.fr hQ350 rfl) (fun q => by have := ((hQ323.at g_739_28 rfl).trans (mUp_no e200 e32 (Or.inr (by decide)))); have := e379; omega) (GE_sm (Sm.fr hQ323 rfl) (GE_sm (Sm.up e200 g_739_51 rfl) pr34))
              have gk : M348 739 28 = v378 := e379
              refine wk_cv4 r112_137 kc_739_117 rfl (m9117_739 _ M348 2 v15 v362 x739_45 hP349 (by decide) (by decide) (by omega) (by omega) (by omega) (by omega) ((hQ350.at g_739_45 rfl).trans ((hQ323.at g_739_45 rfl).trans (mUp_no e200 ((hQ3.at g_739_45 rfl).trans ex739_45) (Or.inr (by decide))))) (by first | assumption | omega) (by first | assumption | omega)) (cqV ?_)
              rintro M382 ⟨hP383, hQ384, h386, h387, xh388⟩
              have hF385 : Fr fm_m9112_739 M0 M382 := hF351.tr hQ384 rfl
              obtain ⟨v389, e390⟩ : ∃ v, M382 739 45 = v := ⟨_, rfl⟩
              have h391 := bf_739_45 hP383; rw [e390] at h391
              have pr392 : GE M382 s0 u0 1 0 := GE_atom xh388 pr381 (fun q => by rw [gk] at q; exact ⟨by omega, by unfold refok; omega, by omega, by omega⟩)
              refine wk_c1 r112_140 ?_
              subst hQ; exact wk_zret r112_141 (by decide) (⟨rfl, _, rfl, hP383, hF385, by omega, by omega, by have := ((hQ384.at g_739_30 rfl).trans ((hQ350.at g_739_30 rfl).trans ((hQ323.at g_739_30 rfl).trans (mUp_no e200 ((hQ3.at g_739_30 rfl).trans ex739_30) (Or.inr (by decide)))))); have := ((hQ384.at g_739_31 rfl).trans e367); omega, by have := ((hQ384.at g_739_31 rfl).trans e367); have := ((hQ384.at g_739_33 rfl).trans e370); have := ((hQ384.at g_739_34 rfl).trans e373); omega, by have := ((hQ384.at g_739_31 rfl).trans e367); have := ((hQ384.at g_739_33 rfl).trans e370); have := ((hQ384.at g_739_34 rfl).trans e373); omega, by have := ((hQ384.at g_739_34 rfl).trans e373); have := ((hQ384.at g_739_32 rfl).trans e376); omega, by have := ((hQ384.at g_739_33 rfl).trans e370); omega, by have := ((hQ384.at g_739_28 rfl).trans e379); omega, by have := ((hQ384.at g_739_33 rfl).trans e370); have := ((hQ384.at g_739_47 rfl).trans ((hQ350.at g_739_47 rfl).trans ((hQ323.at g_739_47 rfl).trans (mUp_no e200 ((hQ3.at g_739_47 rfl).trans ex739_47) (Or.inr (by decide)))))); have := e390; have := ((hQ384.at g_739_46 rfl).trans ((hQ350.at g_739_46 rfl).trans ((hQ323.at g_739_46 rfl).trans (mUp_no e200 ((hQ3.at g_739_46 rfl).trans ex739_46) (Or.inr (by decide)))))); have := ((hQ384.at g_739_28 rfl).trans e379); omega, by have := e390; have := ((hQ384.at g_739_46 rfl).trans ((hQ350.at g_739_46 rfl).trans ((hQ323.at g_739_46 rfl).trans (mUp_no e200 ((hQ3.at g_739_46 rfl).trans ex739_46) (Or.inr (by decide)))))); omega, by have := ((hQ384.at g_739_47 rfl).trans ((hQ350.at g_739_47 rfl).trans ((hQ323.at g_739_47 rfl).trans (mUp_no e200 ((hQ3.at g_739_47 rfl).trans ex739_47) (Or.inr (by decide)))))); have := ((hQ384.at g_739_28 rfl).trans e379); omega, by have := ((hQ384.at g_739_33 rfl).trans e370); have := ((hQ384.at g_739_28 rfl).trans e379); omega, by have := ((hQ384.at g_739_51 rfl).trans ((hQ350.at g_739_51 rfl).trans ((hQ323.at g_739_51 rfl).trans (mUp_at e200)))); omega, (TK_sm (Sm.fr hQ384 rfl) pr361), (GH_of1 ((hQ384.at g_739_51 rfl).trans ((hQ350.at g_739_51 rfl).trans ((hQ323.at g_739_51 rfl).trans (mUp_at e200)))) (by omega) pr392)⟩)
            · intro h393
              exfalso
              omega
          · intro h394
            exfalso
            omega
        · intro h395
          refine wk_al0 r112_93 (wk_c1 r112_94 (wk_cv2 r112_95 kc_739_137 rfl (m9137_739 _ M197 1 v31 v22 hP198 (by decide) (by decide) (mUp_no e200 e32 (Or.inr (by decide))) (by first | assumption | omega) (by first | assumption | omega) (mUp_no e200 e23 (Or.inr (by decide))) (by first | assumption | omega) (by first | assumption | omega)) (cqV ?_)))
          rintro M396 ⟨hP397, hQ398, h400, h401⟩
          have hF399 : Fr fm_m9112_739 M0 M396 := hF199.tr hQ398 rfl
          obtain ⟨v402, e403⟩ : ∃ v, M396 739 28 = v := ⟨_, rfl⟩
          have h404 := bf_739_28 hP397; rw [e403] at h404
          have pr405 : GE M396 s0 u0 0 0 := GE_mn (Sm.fr hQ398 rfl) (fun q => by have := (mUp_no e200 e32 (Or.inr (by decide))); have := e403; omega) (GE_sm (Sm.up e200 g_739_51 rfl) pr34)
          refine wk_al0 r112_98 (wk_cv1 r112_99 kc_739_84 rfl (m9084_739 _ M396 v402 hP397 e403 (by first | assumption | omega) (by first | assumption | omega)) (cqI ?_))
          rintro v412 M406 ⟨hP407, hQ408, h413, h414, h410, h411⟩
          obtain rfl := Fr.same hQ408
          have e415 := e403
          refine wk_ifne r112_102 ⟨by omega, by omega⟩ ?_ ?_
          · intro h416
            exfalso
            omega
          · intro h417
            refine wk_c1 r112_105 ?_
            subst hQ; exact wk_zret r112_106 (by decide) (⟨rfl, _, rfl, hP397, hF399, by omega, by omega, by have := ((hQ398.at g_739_30 rfl).trans (mUp_no e200 ((hQ3.at g_739_30 rfl).trans ex739_30) (Or.inr (by decide)))); have := ((hQ398.at g_739_31 rfl).trans (mUp_no e200 e20 (Or.inr (by decide)))); omega, by have := ((hQ398.at g_739_31 rfl).trans (mUp_no e200 e20 (Or.inr (by decide)))); have := ((hQ398.at g_739_33 rfl).trans (mUp_no e200 e23 (Or.inr (by decide)))); have := ((hQ398.at g_739_34 rfl).trans (mUp_no e200 e26 (Or.inr (by decide)))); omega, by have := ((hQ398.at g_739_31 rfl).trans (mUp_no e200 e20 (Or.inr (by decide)))); have := ((hQ398.at g_739_33 rfl).trans (mUp_no e200 e23 (Or.inr (by decide)))); have := ((hQ398.at g_739_34 rfl).trans (mUp_no e200 e26 (Or.inr (by decide)))); omega, by have := ((hQ398.at g_739_34 rfl).trans (mUp_no e200 e26 (Or.inr (by decide)))); have := ((hQ398.at g_739_32 rfl).trans (mUp_no e200 e29 (Or.inr (by decide)))); omega, by have := ((hQ398.at g_739_33 rfl).trans (mUp_no e200 e23 (Or.inr (by decide)))); omega, by have := e403; omega, by have := ((hQ398.at g_739_33 rfl).trans (mUp_no e200 e23 (Or.inr (by decide)))); have := ((hQ398.at g_739_47 rfl).trans (mUp_no e200 ((hQ3.at g_739_47 rfl).trans ex739_47) (Or.inr (by decide)))); have := ((hQ398.at g_739_45 rfl).trans (mUp_no e200 ((hQ3.at g_739_45 rfl).trans ex739_45) (Or.inr (by decide)))); have := ((hQ398.at g_739_46 rfl).trans (mUp_no e200 ((hQ3.at g_739_46 rfl).trans ex739_46) (Or.inr (by decide)))); have := e403; omega, by have := ((hQ398.at g_739_45 rfl).trans (mUp_no e200 ((hQ3.at g_739_45 rfl).trans ex739_45) (Or.inr (by decide)))); have := ((hQ398.at g_739_46 rfl).trans (mUp_no e200 ((hQ3.at g_739_46 rfl).trans ex739_46) (Or.inr (by decide)))); omega, by have := ((hQ398.at g_739_47 rfl).trans (mUp_no e200 ((hQ3.at g_739_47 rfl).trans ex739_47) (Or.inr (by decide)))); have := e403; omega, by have := ((hQ398.at g_739_33 rfl).trans (mUp_no e200 e23 (Or.inr (by decide)))); have := e403; omega, by have := ((hQ398.at g_739_51 rfl).trans (mUp_at e200)); omega, (TK_sm (Sm.fr hQ398 rfl) (TK_sm (Sm.up e200 g_739_51 rfl) pr14)), (GH_vac e403 (by omega))⟩)
  refine wk_ifeq r112_14 ⟨by omega, by omega⟩ ?_ ?_
  · intro h54
    exact wp_fg (le_s (le_s (le_s le_0))) c69_418
  · intro h55
    refine wk_il2 r112_17 (wk_c2 r112_18 ?_)
    refine wk_icne r112_20 ⟨by omega, by omega⟩ (by decide) ?_ ?_
    · intro h56
      exact wp_fg (le_s (le_s (le_s le_0))) c69_418
    · intro h57
      refine wk_al0 r112_23 (wk_cv1 r112_24 kc_739_76 rfl (m9076_739 _ M1 x739_30 v19 hP2 ((hQ3.at g_739_30 rfl).trans ex739_30) (by first | assumption | omega) (by first | assumption | omega) e20 (by first | assumption | omega) (by first | assumption | omega) (by omega)) (cqV ?_))
      rintro M58 ⟨hP59, hQ60, h62, h63, h64, h65, h66, pr67⟩
      have hF61 : Fr fm_m9112_739 M0 M58 := hF4.tr hQ60 rfl
      have e68 := ((hQ60.at g_739_30 rfl).trans ((hQ3.at g_739_30 rfl).trans ex739_30))
      obtain ⟨v69, e70⟩ : ∃ v, M58 739 31 = v := ⟨_, rfl⟩
      have h71 := bf_739_31 hP59; rw [e70] at h71
      obtain ⟨v72, e73⟩ : ∃ v, M58 739 33 = v := ⟨_, rfl⟩
      have h74 := bf_739_33 hP59; rw [e73] at h74
      obtain ⟨v75, e76⟩ : ∃ v, M58 739 34 = v := ⟨_, rfl⟩
      have h77 := bf_739_34 hP59; rw [e76] at h77
      obtain ⟨v78, e79⟩ : ∃ v, M58 739 32 = v := ⟨_, rfl⟩
      have h80 := bf_739_32 hP59; rw [e79] at h80
      refine wk_al0 r112_27 (wk_c2 r112_28 ?_)
      obtain ⟨v81, e82⟩ : ∃ v, M58 739 36 = v := ⟨_, rfl⟩
      have h83 := bf_739_36 hP59; rw [e82] at h83
      refine wk_cv2 r112_30 kc_739_88 rfl (m9088_739 _ M58 40 v78 v81 hP59 (by decide) (by decide) e79 (by first | assumption | omega) (by first | assumption | omega) e82 (by first | assumption | omega) (by first | assumption | omega)) (cqI ?_)
      rintro v91 M84 ⟨hP85, hQ86, h92, h93, h88, h89, h90⟩
      obtain rfl := Fr.same hQ86
      have e94 := e79
      have e95 := e82
      refine wk_ifne r112_33 ⟨by omega, by omega⟩ ?_ ?_
      · intro h96
        refine wk_al0 r112_41 (wk_cv1 r112_42 kc_739_84 rfl (m9084_739 _ M58 v31 hP59 ((hQ60.at g_739_28 rfl).trans e32) (by first | assumption | omega) (by first | assumption | omega)) (cqI ?_))
        rintro v103 M97 ⟨hP98, hQ99, h104, h105, h101, h102⟩
        obtain rfl := Fr.same hQ99
        have e106 := ((hQ60.at g_739_28 rfl).trans e32)
        refine wk_ifne r112_45 ⟨by omega, by omega⟩ ?_ ?_
        · intro h107
          refine wk_al0 r112_50 (wk_c2 r112_51 (wk_il1 r112_53 (wk_c1 r112_54 (wk_iadd r112_55 (wk_cv3 r112_56 kc_739_133 rfl (m9133_739 _ M58 14 (v15 + 1) x739_46 hP59 (by decide) (by decide) (by omega) (by omega) ((hQ60.at g_739_46 rfl).trans ((hQ3.at g_739_46 rfl).trans ex739_46)) (by first | assumption | omega) (by first | assumption | omega)) (cqV ?_))))))
          rintro M108 ⟨hP109, hQ110, h112, h113, xh114⟩
          have hF111 : Fr fm_m9112_739 M0 M108 := hF61.tr hQ110 rfl
          obtain ⟨v115, e116⟩ : ∃ v, M108 739 46 = v := ⟨_, rfl⟩
          have h117 := bf_739_46 hP109; rw [e116] at h117
          have pr118 : GE M108 s0 u0 0 1 := GE_par xh114 (GE_sm (Sm.fr hQ60 rfl) pr34) (by omega)
          refine wk_al0 r112_59 (wk_cv1 r112_60 kc_739_76 rfl (m9076_739 _ M108 x739_30 v69 hP109 ((hQ110.at g_739_30 rfl).trans ((hQ60.at g_739_30 rfl).trans ((hQ3.at g_739_30 rfl).trans ex739_30))) (by first | assumption | omega) (by first | assumption | omega) ((hQ110.at g_739_31 rfl).trans e70) (by first | assumption | omega) (by first | assumption | omega) (by omega)) (cqV ?_))
          rintro M119 ⟨hP120, hQ121, h123, h124, h125, h126, h127, pr128⟩
          have hF122 : Fr fm_m9112_739 M0 M119 := hF111.tr hQ121 rfl
          have e129 := ((hQ121.at g_739_30 rfl).trans ((hQ110.at g_739_30 rfl).trans ((hQ60.at g_739_30 rfl).trans ((hQ3.at g_739_30 rfl).trans ex739_30))))
          obtain ⟨v130, e131⟩ : ∃ v, M119 739 31 = v := ⟨_, rfl⟩
          have h132 := bf_739_31 hP120; rw [e131] at h132
          obtain ⟨v133, e134⟩ : ∃ v, M119 739 33 = v := ⟨_, rfl⟩
          have h135 := bf_739_33 hP120; rw [e134] at h135
          obtain ⟨v136, e137⟩ : ∃ v, M119 739 34 = v := ⟨_, rfl⟩
          have h138 := bf_739_34 hP120; rw [e137] at h138
          obtain ⟨v139, e140⟩ : ∃ v, M119 739 32 = v := ⟨_, rfl⟩
          have h141 := bf_739_32 hP120; rw [e140] at h141
          refine wk_al0 r112_63 (wk_cv1 r112_64 kc_739_62 rfl (m9062_739 _ M119 x739_30 v130 v133 v136 v139 v31 x739_45 v115 x739_47 s0 u0 hP120 ((hQ121.at g_739_30 rfl).trans ((hQ110.at g_739_30 rfl).trans ((hQ60.at g_739_30 rfl).trans ((hQ3.at g_739_30 rfl).trans ex739_30)))) (by first | assumption | omega) (by first | assumption | omega) e131 (by first | assumption | omega) (by first | assumption | omega) e134 (by first | assumption | omega) (by first | assumption | omega) e137 (by first | assumption | omega) (by first | assumption | omega) e140 (by first | assumption | omega) (by first | assumption | omega) ((hQ121.at g_739_28 rfl).trans ((hQ110.at g_739_28 rfl).trans ((hQ60.at g_739_28 rfl).trans e32))) (by first | assumption | omega) (by first | assumption | omega) ((hQ121.at g_739_45 rfl).trans ((hQ110.at g_739_45 rfl).trans ((hQ60.at g_739_45 rfl).trans ((hQ3.at g_739_45 rfl).trans ex739_45)))) (by first | assumption | omega) (by first | assumption | omega) ((hQ121.at g_739_46 rfl).trans e116) (by first | assumption | omega) (by first | assumption | omega) ((hQ121.at g_739_47 rfl).trans ((hQ110.at g_739_47 rfl).trans ((hQ60.at g_739_47 rfl).trans ((hQ3.at g_739_47 rfl).trans ex739_47)))) (by first | assumption | omega) (by first | assumption | omega) (by omega) (by omega) (by omega) (by omega) (by omega) (by omega) pr128 (GE_sm (Sm.fr hQ121 rfl) pr118)) (cqV ?_))
          rintro M142 ⟨hP143, hQ144, h146, h147, h148, h149, h150, h151, h152, h153, h154, h155, h156, h157, pr158, pr159⟩
          have hF145 : Fr fm_m9112_739 M0 M142 := hF122.tr hQ144 rfl
          have e160 := ((hQ144.at g_739_30 rfl).trans ((hQ121.at g_739_30 rfl).trans ((hQ110.at g_739_30 rfl).trans ((hQ60.at g_739_30 rfl).trans ((hQ3.at g_739_30 rfl).trans ex739_30)))))
          have e161 := ((hQ144.at g_739_31 rfl).trans e131)
          have e162 := ((hQ144.at g_739_33 rfl).trans e134)
          have e163 := ((hQ144.at g_739_34 rfl).trans e137)
          have e164 := ((hQ144.at g_739_32 rfl).trans e140)
          obtain ⟨v165, e166⟩ : ∃ v, M142 739 28 = v := ⟨_, rfl⟩
          have h167 := bf_739_28 hP143; rw [e166] at h167
          have e168 := ((hQ144.at g_739_45 rfl).trans ((hQ121.at g_739_45 rfl).trans ((hQ110.at g_739_45 rfl).trans ((hQ60.at g_739_45 rfl).trans ((hQ3.at g_739_45 rfl).trans ex739_45)))))
          have e169 := ((hQ144.at g_739_46 rfl).trans ((hQ121.at g_739_46 rfl).trans e116))
          obtain ⟨v170, e171⟩ : ∃ v, M142 739 47 = v := ⟨_, rfl⟩
          have h172 := bf_739_47 hP143; rw [e171] at h172
          refine wk_c1 r112_67 ?_
          subst hQ; exact wk_zret r112_68 (by decide) (⟨rfl, _, rfl, hP143, hF145, by omega, by omega, by have := ((hQ144.at g_739_30 rfl).trans ((hQ121.at g_739_30 rfl).trans ((hQ110.at g_739_30 rfl).trans ((hQ60.at g_739_30 rfl).trans ((hQ3.at g_739_30 rfl).trans ex739_30))))); have := ((hQ144.at g_739_31 rfl).trans e131); omega, by have := ((hQ144.at g_739_31 rfl).trans e131); have := ((hQ144.at g_739_33 rfl).trans e134); have := ((hQ144.at g_739_34 rfl).trans e137); omega, by have := ((hQ144.at g_739_31 rfl).trans e131); have := ((hQ144.at g_739_33 rfl).trans e134); have := ((hQ144.at g_739_34 rfl).trans e137); omega, by have := ((hQ144.at g_739_34 rfl).trans e137); have := ((hQ144.at g_739_32 rfl).trans e140); omega, by have := ((hQ144.at g_739_33 rfl).trans e134); omega, by have := e166; omega, by have := ((hQ144.at g_739_33 rfl).trans e134); have := e171; have := ((hQ144.at g_739_45 rfl).trans ((hQ121.at g_739_45 rfl).trans ((hQ110.at g_739_45 rfl).trans ((hQ60.at g_739_45 rfl).trans ((hQ3.at g_739_45 rfl).trans ex739_45))))); have := ((hQ144.at g_739_46 rfl).trans ((hQ121.at g_739_46 rfl).trans e116)); have := e166; omega, by have := ((hQ144.at g_739_45 rfl).trans ((hQ121.at g_739_45 rfl).trans ((hQ110.at g_739_45 rfl).trans ((hQ60.at g_739_45 rfl).trans ((hQ3.at g_739_45 rfl).trans ex739_45))))); have := ((hQ144.at g_739_46 rfl).trans ((hQ121.at g_739_46 rfl).trans e116)); omega, by have := e171; have := e166; omega, by have := ((hQ144.at g_739_33 rfl).trans e134); have := e166; omega, by have := ((hQ144.at g_739_51 rfl).trans ((hQ121.at g_739_51 rfl).trans ((hQ110.at g_739_51 rfl).trans ((hQ60.at g_739_51 rfl).trans ((hQ3.at g_739_51 rfl).trans ex739_51))))); omega, pr158, (GH_of0 ((hQ144.at g_739_51 rfl).trans ((hQ121.at g_739_51 rfl).trans ((hQ110.at g_739_51 rfl).trans ((hQ60.at g_739_51 rfl).trans ((hQ3.at g_739_51 rfl).trans ex739_51))))) (by omega) pr159)⟩)
        · intro h173
          exfalso
          omega
      · intro h174
        refine wk_al0 r112_36 (wk_c1 r112_37 (wk_cv2 r112_38 kc_739_137 rfl (m9137_739 _ M58 1 v31 v72 hP59 (by decide) (by decide) ((hQ60.at g_739_28 rfl).trans e32) (by first | assumption | omega) (by first | assumption | omega) e73 (by first | assumption | omega) (by first | assumption | omega)) (cqV ?_)))
        rintro M175 ⟨hP176, hQ177, h179, h180⟩
        have hF178 : Fr fm_m9112_739 M0 M175 := hF61.tr hQ177 rfl
        obtain ⟨v181, e182⟩ : ∃ v, M175 739 28 = v := ⟨_, rfl⟩
        have h183 := bf_739_28 hP176; rw [e182] at h183
        have pr184 : GE M175 s0 u0 0 0 := GE_mn (Sm.fr hQ177 rfl) (fun q => by have := ((hQ60.at g_739_28 rfl).trans e32); have := e182; omega) (GE_sm (Sm.fr hQ60 rfl) pr34)
        refine wk_al0 r112_41 (wk_cv1 r112_42 kc_739_84 rfl (m9084_739 _ M175 v181 hP176 e182 (by first | assumption | omega) (by first | assumption | omega)) (cqI ?_))
        rintro v191 M185 ⟨hP186, hQ187, h192, h193, h189, h190⟩
        obtain rfl := Fr.same hQ187
        have e194 := e182
        refine wk_ifne r112_45 ⟨by omega, by omega⟩ ?_ ?_
        · intro h195
          exfalso
          omega
        · intro h196
          refine wk_c1 r112_48 ?_
          subst hQ; exact wk_zret r112_49 (by decide) (⟨rfl, _, rfl, hP176, hF178, by omega, by omega, by have := ((hQ177.at g_739_30 rfl).trans ((hQ60.at g_739_30 rfl).trans ((hQ3.at g_739_30 rfl).trans ex739_30))); have := ((hQ177.at g_739_31 rfl).trans e70); omega, by have := ((hQ177.at g_739_31 rfl).trans e70); have := ((hQ177.at g_739_33 rfl).trans e73); have := ((hQ177.at g_739_34 rfl).trans e76); omega, by have := ((hQ177.at g_739_31 rfl).trans e70); have := ((hQ177.at g_739_33 rfl).trans e73); have := ((hQ177.at g_739_34 rfl).trans e76); omega, by have := ((hQ177.at g_739_34 rfl).trans e76); have := ((hQ177.at g_739_32 rfl).trans e79); omega, by have := ((hQ177.at g_739_33 rfl).trans e73); omega, by have := e182; omega, by have := ((hQ177.at g_739_33 rfl).trans e73); have := ((hQ177.at g_739_47 rfl).trans ((hQ60.at g_739_47 rfl).trans ((hQ3.at g_739_47 rfl).trans ex739_47))); have := ((hQ177.at g_739_45 rfl).trans ((hQ60.at g_739_45 rfl).trans ((hQ3.at g_739_45 rfl).trans ex739_45))); have := ((hQ177.at g_739_46 rfl).trans ((hQ60.at g_739_46 rfl).trans ((hQ3.at g_739_46 rfl).trans ex739_46))); have := e182; omega, by have := ((hQ177.at g_739_45 rfl).trans ((hQ60.at g_739_45 rfl).trans ((hQ3.at g_739_45 rfl).trans ex739_45))); have := ((hQ177.at g_739_46 rfl).trans ((hQ60.at g_739_46 rfl).trans ((hQ3.at g_739_46 rfl).trans ex739_46))); omega, by have := ((hQ177.at g_739_47 rfl).trans ((hQ60.at g_739_47 rfl).trans ((hQ3.at g_739_47 rfl).trans ex739_47))); have := e182; omega, by have := ((hQ177.at g_739_33 rfl).trans e73); have := e182; omega, by have := ((hQ177.at g_739_51 rfl).trans ((hQ60.at g_739_51 rfl).trans ((hQ3.at g_739_51 rfl).trans ex739_51))); omega, (TK_sm (Sm.fr hQ177 rfl) pr67), (GH_vac e182 (by omega))⟩)
def fm_m9116_739 : Nat := 1356938545779010069195758067332661297480611728569957925602488559592754118656
set_option maxHeartbeats 20000000 in
/-- IslandHallModel.operand -/
theorem m9116_739 {B : eB} (d : Nat) (M0 : Mm) (x739_30 : Int) (x739_31 : Int) (x739_33 : Int) (x739_34 : Int) (x739_32 : Int) (x739_28 : Int) (x739_45 : Int) (x739_46 : Int) (x739_47 : Int) (x739_38 : Int) (x739_36 : Int) (x739_51 : Int) (x739_35 : Int) (s0 : Int) (u0 : Int → Int) (hP0 : Pw M0) (ex739_30 : M0 739 30 = x739_30) (lx739_30 : 0 ≤ x739_30) (ux739_30 : x739_30 ≤ 500) (ex739_31 : M0 739 31 = x739_31) (lx739_31 : 0 ≤ x739_31) (ux739_31 : x739_31 ≤ 500) (ex739_33 : M0 739 33 = x739_33) (lx739_33 : 0 ≤ x739_33) (ux739_33 : x739_33 ≤ 500) (ex739_34 : M0 739 34 = x739_34) (lx739_34 : 0 ≤ x739_34) (ux739_34 : x739_34 ≤ 500) (ex739_32 : M0 739 32 = x739_32) (lx739_32 : 0 ≤ x739_32) (ux739_32 : x739_32 ≤ 4) (ex739_28 : M0 739 28 = x739_28) (lx739_28 : 0 ≤ x739_28) (ux739_28 : x739_28 ≤ 6) (ex739_45 : M0 739 45 = x739_45) (lx739_45 : 0 ≤ x739_45) (ux739_45 : x739_45 ≤ 1000) (ex739_46 : M0 739 46 = x739_46) (lx739_46 : 0 ≤ x739_46) (ux739_46 : x739_46 ≤ 520) (ex739_47 : M0 739 47 = x739_47) (lx739_47 : 0 ≤ x739_47) (ux739_47 : x739_47 ≤ 500) (ex739_38 : M0 739 38 = x739_38) (lx739_38 : 0 ≤ x739_38) (ux739_38 : x739_38 ≤ 999) (ex739_36 : M0 739 36 = x739_36) (lx739_36 : 0 ≤ x739_36) (ux739_36 : x739_36 ≤ 255) (ex739_51 : M0 739 51 = x739_51) (lx739_51 : 0 ≤ x739_51) (ux739_51 : x739_51 ≤ 0) (ex739_35 : M0 739 35 = x739_35) (lx739_35 : 0 ≤ x739_35) (ux739_35 : x739_35 ≤ 999) (rp0 : 0 ≤ x739_30 + (-1) * x739_31) (rp1 : 0 ≤ x739_31 + (-1) * x739_33 + (-1) * x739_34) (rp2 : 0 ≤ (-1) * x739_31 + x739_33 + x739_34) (rp3 : 0 ≤ 4 * x739_34 + (-1) * x739_32) (rp4 : 0 ≤ x739_33 + x739_47 + (-2) * x739_45 + (-2) * x739_46 + 3000 * x739_28) (rp5 : 0 ≤ (-2) * x739_45 + (-2) * x739_46 + 520) (rp6 : 0 ≤ (-1) * x739_47 + x739_28 + 6) (rp7 : 0 ≤ (-1) * x739_38 + 7 + 3000 * x739_28) (pp_TK : TK M0) (pp_E0 : GE M0 s0 u0 0 0) : Ct B (d + 6) 116 [R 739] M0 (qV fun M => Pw M ∧ Fr fm_m9116_739 M0 M ∧ 0 ≤ M 739 30 + (-1) * (M 739 31) ∧ 0 ≤ M 739 31 + (-1) * (M 739 33) + (-1) * (M 739 34) ∧ 0 ≤ (-1) * (M 739 31) + M 739 33 + M 739 34 ∧ 0 ≤ 4 * (M 739 34) + (-1) * (M 739 32) ∧ 0 ≤ M 739 33 + (-1) * x739_33 ∧ 0 ≤ M 739 28 + (-1) * x739_28 ∧ 0 ≤ M 739 33 + M 739 47 + (-2) * (M 739 45) + (-2) * (M 739 46) + 3000 * (M 739 28) ∧ 0 ≤ (-2) * (M 739 45) + (-2) * (M 739 46) + 520 ∧ 0 ≤ (-1) * (M 739 47) + M 739 28 + 6 ∧ 0 ≤ (-1) * (M 739 51) ∧ (TK M) ∧ (GE M s0 u0 1 0)) := by
  refine ct_of (d := d + 5) (k := 2) (L := [some (R 739), none, none]) rfl rfl rfl ?_
  have hF0 := Fr.rf fm_m9116_739 M0
  generalize hQ : (qV fun M => Pw M ∧ Fr fm_m9116_739 M0 M ∧ 0 ≤ M 739 30 + (-1) * (M 739 31) ∧ 0 ≤ M 739 31 + (-1) * (M 739 33) + (-1) * (M 739 34) ∧ 0 ≤ (-1) * (M 739 31) + M 739 33 + M 739 34 ∧ 0 ≤ 4 * (M 739 34) + (-1) * (M 739 32) ∧ 0 ≤ M 739 33 + (-1) * x739_33 ∧ 0 ≤ M 739 28 + (-1) * x739_28 ∧ 0 ≤ M 739 33 + M 739 47 + (-2) * (M 739 45) + (-2) * (M 739 46) + 3000 * (M 739 28) ∧ 0 ≤ (-2) * (M 739 45) + (-2) * (M 739 46) + 520 ∧ 0 ≤ (-1) * (M 739 47) + M 739 28 + 6 ∧ 0 ≤ (-1) * (M 739 51) ∧ (TK M) ∧ (GE M s0 u0 1 0)) = Q
  refine wk_c1 r116_0 (wk_is1 r116_1 rfl ?_)
  have c2_4119 : ∀ (k4119 : Nat) (M3628 : Mm) (v3625 : Int) (v3631 : Int) (v3635 : Int) (v3639 : Int) (v3643 : Int) (v3647 : Int) (v3651 : Int) (v3655 : Int) (v3659 : Int) (v3663 : Int), (10 * (501 - v3635) + v3625 + (6 - v3647)).toNat = k4119 → Pw M3628 → Fr fm_m9116_739 M0 M3628 → M3628 739 31 = v3631 → M3628 739 33 = v3635 → M3628 739 34 = v3639 → M3628 739 32 = v3643 → M3628 739 28 = v3647 → M3628 739 45 = v3651 → M3628 739 46 = v3655 → M3628 739 47 = v3659 → M3628 739 51 = v3663 → M3628 739 30 = x739_30 → M3628 739 38 = x739_38 → 0 ≤ v3625 → v3625 ≤ 1 → 0 ≤ v3631 → v3631 ≤ 500 → 0 ≤ v3635 → v3635 ≤ 500 → 0 ≤ v3639 → v3639 ≤ 500 → 0 ≤ v3643 → v3643 ≤ 4 → 0 ≤ v3647 → v3647 ≤ 6 → 0 ≤ v3651 → v3651 ≤ 260 → 0 ≤ v3655 → v3655 ≤ 260 → 0 ≤ v3659 → v3659 ≤ 12 → 0 ≤ v3663 → v3663 ≤ 1 → (TK M3628) → (GH M3628 s0 u0) → 0 ≤ 1 * x739_30 + (-1) * v3631 → 0 ≤ 1 * v3631 + (-1) * v3635 + (-1) * v3639 → 0 ≤ (-1) * v3631 + 1 * v3635 + 1 * v3639 → 0 ≤ 4 * v3639 + (-1) * v3643 → 0 ≤ 1 * v3635 + 1 * v3659 + (-2) * v3651 + (-2) * v3655 + 3000 * v3647 → 0 ≤ (-2) * v3651 + (-2) * v3655 + 520 → 0 ≤ (-1) * v3659 + 1 * v3647 + 6 → 0 ≤ 1 * v3635 + (-1) * x739_33 → 0 ≤ 1 * v3647 + (-1) * x739_28 → 0 ≤ (-1) * v3625 + (-1) * v3663 + 1 → 0 ≤ (-1) * x739_38 + 7 + 3000 * v3647 → 0 ≤ v3635 - x739_33 → 0 ≤ v3647 - x739_28 → Wp B (d + 5) 116 2 [some (R 739), some (I v3625), none] [] M3628 Q := by
    refine lp_ind ?_
    intro k4119 ih4119 M3628 v3625 v3631 v3635 v3639 v3643 v3647 v3651 v3655 v3659 v3663 hk4119 hP3629 hF3630 e3634 e3638 e3642 e3646 e3650 e3654 e3658 e3662 e3666 e3667 e3668 h3626 h3627 h3632 h3633 h3636 h3637 h3640 h3641 h3644 h3645 h3648 h3649 h3652 h3653 h3656 h3657 h3660 h3661 h3664 h3665 pr3669 pr3670 h3671 h3672 h3673 h3674 h3675 h3676 h3677 h3678 h3679 h3680 h3681 h3682 h3683
    refine wk_il1 r116_2 ?_
    refine wk_ifeq r116_3 ⟨by omega, by omega⟩ ?_ ?_
    · intro h3684
      refine wk_al0 r116_143 (wk_cv1 r116_144 kc_739_84 rfl (m9084_739 _ M3628 v3647 hP3629 e3650 (by first | assumption | omega) (by first | assumption | omega)) (cqI ?_))
      rintro v3691 M3685 ⟨hP3686, hQ3687, h3692, h3693, h3689, h3690⟩
      obtain rfl := Fr.same hQ3687
      have e3694 := e3650
      refine wk_ifeq r116_147 ⟨by omega, by omega⟩ ?_ ?_
      · intro h3695
        have pr3696 : GE M3628 s0 u0 1 0 := (GE_vac e3650 (by omega))
        refine wk_al0 r116_161 (wk_c1 r116_162 (wk_putfz81 r116_163 fd_739_51 (by decide) (wk_nw g_739_51 rfl hP3629 hF3630 (uf_739_51 (by decide)) ?_)))
        intro M3697 hP3698 hF3699 e3700
        subst hQ; exact wk_ret r116_166 (⟨rfl, hP3698, hF3699, by have := (mUp_no e3700 e3667 (Or.inr (by decide))); have := (mUp_no e3700 e3634 (Or.inr (by decide))); omega, by have := (mUp_no e3700 e3634 (Or.inr (by decide))); have := (mUp_no e3700 e3638 (Or.inr (by decide))); have := (mUp_no e3700 e3642 (Or.inr (by decide))); omega, by have := (mUp_no e3700 e3634 (Or.inr (by decide))); have := (mUp_no e3700 e3638 (Or.inr (by decide))); have := (mUp_no e3700 e3642 (Or.inr (by decide))); omega, by have := (mUp_no e3700 e3642 (Or.inr (by decide))); have := (mUp_no e3700 e3646 (Or.inr (by decide))); omega, by have := (mUp_no e3700 e3638 (Or.inr (by decide))); omega, by have := (mUp_no e3700 e3650 (Or.inr (by decide))); omega, by have := (mUp_no e3700 e3638 (Or.inr (by decide))); have := (mUp_no e3700 e3662 (Or.inr (by decide))); have := (mUp_no e3700 e3654 (Or.inr (by decide))); have := (mUp_no e3700 e3658 (Or.inr (by decide))); have := (mUp_no e3700 e3650 (Or.inr (by decide))); omega, by have := (mUp_no e3700 e3654 (Or.inr (by decide))); have := (mUp_no e3700 e3658 (Or.inr (by decide))); omega, by have := (mUp_no e3700 e3662 (Or.inr (by decide))); have := (mUp_no e3700 e3650 (Or.inr (by decide))); omega, by have := (mUp_at e3700); omega, (TK_sm (Sm.up e3700 g_739_51 rfl) pr3669), (GE_sm (Sm.up e3700 g_739_51 rfl) pr3696)⟩)
      · intro h3701
        refine wk_al0 r116_150 (wk_getfi r116_151 fd_739_51 e3666 ?_)
        refine wk_ifne r116_154 ⟨by omega, by omega⟩ ?_ ?_
        · intro h3702
          have pr3703 : GE M3628 s0 u0 1 0 := (GE_of1 e3666 (by omega) pr3670)
          refine wk_al0 r116_161 (wk_c1 r116_162 (wk_putfz81 r116_163 fd_739_51 (by decide) (wk_nw g_739_51 rfl hP3629 hF3630 (uf_739_51 (by decide)) ?_)))
          intro M3704 hP3705 hF3706 e3707
          subst hQ; exact wk_ret r116_166 (⟨rfl, hP3705, hF3706, by have := (mUp_no e3707 e3667 (Or.inr (by decide))); have := (mUp_no e3707 e3634 (Or.inr (by decide))); omega, by have := (mUp_no e3707 e3634 (Or.inr (by decide))); have := (mUp_no e3707 e3638 (Or.inr (by decide))); have := (mUp_no e3707 e3642 (Or.inr (by decide))); omega, by have := (mUp_no e3707 e3634 (Or.inr (by decide))); have := (mUp_no e3707 e3638 (Or.inr (by decide))); have := (mUp_no e3707 e3642 (Or.inr (by decide))); omega, by have := (mUp_no e3707 e3642 (Or.inr (by decide))); have := (mUp_no e3707 e3646 (Or.inr (by decide))); omega, by have := (mUp_no e3707 e3638 (Or.inr (by decide))); omega, by have := (mUp_no e3707 e3650 (Or.inr (by decide))); omega, by have := (mUp_no e3707 e3638 (Or.inr (by decide))); have := (mUp_no e3707 e3662 (Or.inr (by decide))); have := (mUp_no e3707 e3654 (Or.inr (by decide))); have := (mUp_no e3707 e3658 (Or.inr (by decide))); have := (mUp_no e3707 e3650 (Or.inr (by decide))); omega, by have := (mUp_no e3707 e3654 (Or.inr (by decide))); have := (mUp_no e3707 e3658 (Or.inr (by decide))); omega, by have := (mUp_no e3707 e3662 (Or.inr (by decide))); have := (mUp_no e3707 e3650 (Or.inr (by decide))); omega, by have := (mUp_at e3707); omega, (TK_sm (Sm.up e3707 g_739_51 rfl) pr3669), (GE_sm (Sm.up e3707 g_739_51 rfl) pr3703)⟩)
        · intro h3708
          refine wk_al0 r116_157 ?_
          obtain ⟨v3709, e3710⟩ : ∃ v, M3628 739 35 = v := ⟨_, rfl⟩
          have h3711 := bf_739_35 hP3629; rw [e3710] at h3711
          obtain ⟨v3712, e3713⟩ : ∃ v, M3628 739 36 = v := ⟨_, rfl⟩
          have h3714 := bf_739_36 hP3629; rw [e3713] at h3714
          refine wk_cv1 r116_158 kc_739_47 rfl (m9047_739 _ M3628 x739_30 v3631 v3635 v3639 v3643 v3647 v3651 v3655 v3659 v3709 v3712 s0 u0 hP3629 e3667 (by first | assumption | omega) (by first | assumption | omega) e3634 (by first | assumption | omega) (by first | assumption | omega) e3638 (by first | assumption | omega) (by first | assumption | omega) e3642 (by first | assumption | omega) (by first | assumption | omega) e3646 (by first | assumption | omega) (by first | assumption | omega) e3650 (by first | assumption | omega) (by first | assumption | omega) e3654 (by first | assumption | omega) (by first | assumption | omega) e3658 (by first | assumption | omega) (by first | assumption | omega) e3662 (by first | assumption | omega) (by first | assumption | omega) e3710 (by first | assumption | omega) (by first | assumption | omega) e3713 (by first | assumption | omega) (by first | assumption | omega) (by omega) (by omega) (by omega) (by omega) (by omega) (by omega) (by omega) pr3669 (GE_of0 e3666 (by omega) pr3670)) (cqV ?_)
          rintro M3715 ⟨hP3716, hQ3717, h3719, h3720, h3721, h3722, h3723, h3724, h3725, h3726, h3727, pr3728, pr3729⟩
          have hF3718 : Fr fm_m9116_739 M0 M3715 := hF3630.tr hQ3717 rfl
          have e3730 := ((hQ3717.at g_739_30 rfl).trans e3667)
          obtain ⟨v3731, e3732⟩ : ∃ v, M3715 739 31 = v := ⟨_, rfl⟩
          have h3733 := bf_739_31 hP3716; rw [e3732] at h3733
          obtain ⟨v3734, e3735⟩ : ∃ v, M3715 739 33 = v := ⟨_, rfl⟩
          have h3736 := bf_739_33 hP3716; rw [e3735] at h3736
          obtain ⟨v3737, e3738⟩ : ∃ v, M3715 739 34 = v := ⟨_, rfl⟩
          have h3739 := bf_739_34 hP3716; rw [e3738] at h3739
          obtain ⟨v3740, e3741⟩ : ∃ v, M3715 739 32 = v := ⟨_, rfl⟩
          have h3742 := bf_739_32 hP3716; rw [e3741] at h3742
          obtain ⟨v3743, e3744⟩ : ∃ v, M3715 739 28 = v := ⟨_, rfl⟩
          have h3745 := bf_739_28 hP3716; rw [e3744] at h3745
          have e3746 := ((hQ3717.at g_739_47 rfl).trans e3662)
          obtain ⟨v3747, e3748⟩ : ∃ v, M3715 739 45 = v := ⟨_, rfl⟩
          have h3749 := bf_739_45 hP3716; rw [e3748] at h3749
          have e3750 := ((hQ3717.at g_739_46 rfl).trans e3658)
          refine wk_al0 r116_161 (wk_c1 r116_162 (wk_putfz81 r116_163 fd_739_51 (by decide) (wk_nw g_739_51 rfl hP3716 hF3718 (uf_739_51 (by decide)) ?_)))
          intro M3751 hP3752 hF3753 e3754
          subst hQ; exact wk_ret r116_166 (⟨rfl, hP3752, hF3753, by have := (mUp_no e3754 ((hQ3717.at g_739_30 rfl).trans e3667) (Or.inr (by decide))); have := (mUp_no e3754 e3732 (Or.inr (by decide))); omega, by have := (mUp_no e3754 e3732 (Or.inr (by decide))); have := (mUp_no e3754 e3735 (Or.inr (by decide))); have := (mUp_no e3754 e3738 (Or.inr (by decide))); omega, by have := (mUp_no e3754 e3732 (Or.inr (by decide))); have := (mUp_no e3754 e3735 (Or.inr (by decide))); have := (mUp_no e3754 e3738 (Or.inr (by decide))); omega, by have := (mUp_no e3754 e3738 (Or.inr (by decide))); have := (mUp_no e3754 e3741 (Or.inr (by decide))); omega, by have := (mUp_no e3754 e3735 (Or.inr (by decide))); omega, by have := (mUp_no e3754 e3744 (Or.inr (by decide))); omega, by have := (mUp_no e3754 e3735 (Or.inr (by decide))); have := (mUp_no e3754 ((hQ3717.at g_739_47 rfl).trans e3662) (Or.inr (by decide))); have := (mUp_no e3754 e3748 (Or.inr (by decide))); have := (mUp_no e3754 ((hQ3717.at g_739_46 rfl).trans e3658) (Or.inr (by decide))); have := (mUp_no e3754 e3744 (Or.inr (by decide))); omega, by have := (mUp_no e3754 e3748 (Or.inr (by decide))); have := (mUp_no e3754 ((hQ3717.at g_739_46 rfl).trans e3658) (Or.inr (by decide))); omega, by have := (mUp_no e3754 ((hQ3717.at g_739_47 rfl).trans e3662) (Or.inr (by decide))); have := (mUp_no e3754 e3744 (Or.inr (by decide))); omega, by have := (mUp_at e3754); omega, (TK_sm (Sm.up e3754 g_739_51 rfl) pr3728), (GE_sm (Sm.up e3754 g_739_51 rfl) pr3729)⟩)
    · intro h3755
      refine wk_al0 r116_6 (wk_cv1 r116_7 kc_739_84 rfl (m9084_739 _ M3628 v3647 hP3629 e3650 (by first | assumption | omega) (by first | assumption | omega)) (cqI ?_))
      rintro v3762 M3756 ⟨hP3757, hQ3758, h3763, h3764, h3760, h3761⟩
      obtain rfl := Fr.same hQ3758
      have e3765 := e3650
      refine wk_ifeq r116_10 ⟨by omega, by omega⟩ ?_ ?_
      · intro h3766
        refine wk_al0 r116_143 (wk_cv1 r116_144 kc_739_84 rfl (m9084_739 _ M3628 v3647 hP3629 e3650 (by first | assumption | omega) (by first | assumption | omega)) (cqI ?_))
        rintro v3773 M3767 ⟨hP3768, hQ3769, h3774, h3775, h3771, h3772⟩
        obtain rfl := Fr.same hQ3769
        have e3776 := e3650
        refine wk_ifeq r116_147 ⟨by omega, by omega⟩ ?_ ?_
        · intro h3777
          have pr3778 : GE M3628 s0 u0 1 0 := (GE_vac e3650 (by omega))
          refine wk_al0 r116_161 (wk_c1 r116_162 (wk_putfz81 r116_163 fd_739_51 (by decide) (wk_nw g_739_51 rfl hP3629 hF3630 (uf_739_51 (by decide)) ?_)))
          intro M3779 hP3780 hF3781 e3782
          subst hQ; exact wk_ret r116_166 (⟨rfl, hP3780, hF3781, by have := (mUp_no e3782 e3667 (Or.inr (by decide))); have := (mUp_no e3782 e3634 (Or.inr (by decide))); omega, by have := (mUp_no e3782 e3634 (Or.inr (by decide))); have := (mUp_no e3782 e3638 (Or.inr (by decide))); have := (mUp_no e3782 e3642 (Or.inr (by decide))); omega, by have := (mUp_no e3782 e3634 (Or.inr (by decide))); have := (mUp_no e3782 e3638 (Or.inr (by decide))); have := (mUp_no e3782 e3642 (Or.inr (by decide))); omega, by have := (mUp_no e3782 e3642 (Or.inr (by decide))); have := (mUp_no e3782 e3646 (Or.inr (by decide))); omega, by have := (mUp_no e3782 e3638 (Or.inr (by decide))); omega, by have := (mUp_no e3782 e3650 (Or.inr (by decide))); omega, by have := (mUp_no e3782 e3638 (Or.inr (by decide))); have := (mUp_no e3782 e3662 (Or.inr (by decide))); have := (mUp_no e3782 e3654 (Or.inr (by decide))); have := (mUp_no e3782 e3658 (Or.inr (by decide))); have := (mUp_no e3782 e3650 (Or.inr (by decide))); omega, by have := (mUp_no e3782 e3654 (Or.inr (by decide))); have := (mUp_no e3782 e3658 (Or.inr (by decide))); omega, by have := (mUp_no e3782 e3662 (Or.inr (by decide))); have := (mUp_no e3782 e3650 (Or.inr (by decide))); omega, by have := (mUp_at e3782); omega, (TK_sm (Sm.up e3782 g_739_51 rfl) pr3669), (GE_sm (Sm.up e3782 g_739_51 rfl) pr3778)⟩)
        · intro h3783
          exfalso
          omega
      · intro h3784
        refine wk_c1 r116_13 (wk_is2 r116_14 rfl ?_)
        have c15_4118 : ∀ (k4118 : Nat) (M3788 : Mm) (v3785 : Int) (v3791 : Int) (v3795 : Int) (v3799 : Int) (v3803 : Int) (v3807 : Int) (v3811 : Int), (10 * (501 - v3795) + (6 - v3807)).toNat = k4118 → Pw M3788 → Fr fm_m9116_739 M0 M3788 → M3788 739 31 = v3791 → M3788 739 33 = v3795 → M3788 739 34 = v3799 → M3788 739 32 = v3803 → M3788 739 28 = v3807 → M3788 739 46 = v3811 → M3788 739 45 = v3651 → M3788 739 47 = v3659 → M3788 739 51 = v3663 → M3788 739 30 = x739_30 → M3788 739 38 = x739_38 → 0 ≤ v3785 → v3785 ≤ 7 → 0 ≤ v3791 → v3791 ≤ 500 → 0 ≤ v3795 → v3795 ≤ 500 → 0 ≤ v3799 → v3799 ≤ 500 → 0 ≤ v3803 → v3803 ≤ 4 → 0 ≤ v3807 → v3807 ≤ 6 → 0 ≤ v3811 → v3811 ≤ 253 → (TK M3788) → (GH M3788 s0 u0) → 0 ≤ 1 * x739_30 + (-1) * v3791 → 0 ≤ 1 * v3791 + (-1) * v3795 + (-1) * v3799 → 0 ≤ (-1) * v3791 + 1 * v3795 + 1 * v3799 → 0 ≤ 4 * v3799 + (-1) * v3803 → 0 ≤ 1 * v3795 + 1 * v3659 + (-2) * v3651 + (-2) * v3811 + 3000 * v3807 → 0 ≤ (-2) * v3651 + (-2) * v3811 + 520 → 0 ≤ (-1) * v3659 + 1 * v3807 + 6 → 0 ≤ 1 * v3795 + (-1) * x739_33 → 0 ≤ 1 * v3807 + (-1) * x739_28 → 0 ≤ (-1) * v3785 + 1 * v3807 + 6 → 0 ≤ (-1) * x739_38 + 7 + 3000 * v3807 → 0 ≤ v3795 - v3635 → 0 ≤ v3807 - v3647 → Wp B (d + 5) 116 15 [some (R 739), none, some (I v3785)] [] M3788 Q := by
          refine lp_ind ?_
          intro k4118 ih4118 M3788 v3785 v3791 v3795 v3799 v3803 v3807 v3811 hk4118 hP3789 hF3790 e3794 e3798 e3802 e3806 e3810 e3814 e3815 e3816 e3817 e3818 e3819 h3786 h3787 h3792 h3793 h3796 h3797 h3800 h3801 h3804 h3805 h3808 h3809 h3812 h3813 pr3820 pr3821 h3822 h3823 h3824 h3825 h3826 h3827 h3828 h3829 h3830 h3831 h3832 h3833 h3834
          refine wk_al0 r116_15 (wk_cv1 r116_16 kc_739_84 rfl (m9084_739 _ M3788 v3807 hP3789 e3810 (by first | assumption | omega) (by first | assumption | omega)) (cqI ?_))
          rintro v3841 M3835 ⟨hP3836, hQ3837, h3842, h3843, h3839, h3840⟩
          obtain rfl := Fr.same hQ3837
          have e3844 := e3810
          have c69_4117 : Wp B (d + 5) 116 69 [some (R 739), none, none] [] M3788 Q := by
            refine wk_al0 r116_69 (wk_cv1 r116_70 kc_739_84 rfl (m9084_739 _ M3788 v3807 hP3789 e3810 (by first | assumption | omega) (by first | assumption | omega)) (cqI ?_))
            rintro v3934 M3928 ⟨hP3929, hQ3930, h3935, h3936, h3932, h3933⟩
            obtain rfl := Fr.same hQ3930
            have e3937 := e3810
            refine wk_ifeq r116_73 ⟨by omega, by omega⟩ ?_ ?_
            · intro h3938
              refine wk_c1 r116_89 (wk_is1 r116_90 rfl (wk_il1 r116_91 ?_))
              refine wk_ifeq r116_92 (by decide) ?_ ?_
              · intro h3939
                refine wk_al0 r116_113 (wk_cv1 r116_114 kc_739_84 rfl (m9084_739 _ M3788 v3807 hP3789 e3810 (by first | assumption | omega) (by first | assumption | omega)) (cqI ?_))
                rintro v3946 M3940 ⟨hP3941, hQ3942, h3947, h3948, h3944, h3945⟩
                obtain rfl := Fr.same hQ3942
                have e3949 := e3810
                refine wk_ifeq r116_117 ⟨by omega, by omega⟩ ?_ ?_
                · intro h3950
                  refine wk_c1 r116_138 (wk_is1 r116_139 rfl (wk_goto r116_140 ?_))
                  exact wp_fg (le_s (le_s (le_s le_0))) (ih4119 (10 * (501 - v3795) + 0 + (6 - v3807)).toNat (by omega) M3788 0 v3791 v3795 v3799 v3803 v3807 v3651 v3811 v3659 v3663 rfl hP3789 hF3790 e3794 e3798 e3802 e3806 e3810 e3815 e3814 e3816 e3817 e3818 e3819 (by first | assumption | omega) (by first | assumption | omega) (by first | assumption | omega) (by first | assumption | omega) (by first | assumption | omega) (by first | assumption | omega) (by first | assumption | omega) (by first | assumption | omega) (by first | assumption | omega) (by first | assumption | omega) (by first | assumption | omega) (by first | assumption | omega) (by first | assumption | omega) (by first | assumption | omega) (by first | assumption | omega) (by first | assumption | omega) (by first | assumption | omega) (by first | assumption | omega) (by first | assumption | omega) (by first | assumption | omega) pr3820 pr3821 (by first | assumption | omega) (by first | assumption | omega) (by first | assumption | omega) (by first | assumption | omega) (by first | assumption | omega) (by first | assumption | omega) (by first | assumption | omega) (by first | assumption | omega) (by first | assumption | omega) (by first | assumption | omega) (by first | assumption | omega) (by first | assumption | omega) (by first | assumption | omega))
                · intro h3951
                  exfalso
                  omega
              · intro h3952
                exfalso
                omega
            · intro h3953
              refine wk_al0 r116_76 (wk_c2 r116_77 ?_)
              obtain ⟨v3954, e3955⟩ : ∃ v, M3788 739 36 = v := ⟨_, rfl⟩
              have h3956 := bf_739_36 hP3789; rw [e3955] at h3956
              refine wk_cv2 r116_79 kc_739_88 rfl (m9088_739 _ M3788 40 v3803 v3954 hP3789 (by decide) (by decide) e3806 (by first | assumption | omega) (by first | assumption | omega) e3955 (by first | assumption | omega) (by first | assumption | omega)) (cqI ?_)
              rintro v3964 M3957 ⟨hP3958, hQ3959, h3965, h3966, h3961, h3962, h3963⟩
              obtain rfl := Fr.same hQ3959
              have e3967 := e3806
              have e3968 := e3955
              refine wk_ifeq r116_82 ⟨by omega, by omega⟩ ?_ ?_
              · intro h3969
                refine wk_c1 r116_89 (wk_is1 r116_90 rfl (wk_il1 r116_91 ?_))
                refine wk_ifeq r116_92 (by decide) ?_ ?_
                · intro h3970
                  refine wk_al0 r116_113 (wk_cv1 r116_114 kc_739_84 rfl (m9084_739 _ M3788 v3807 hP3789 e3810 (by first | assumption | omega) (by first | assumption | omega)) (cqI ?_))
                  rintro v3977 M3971 ⟨hP3972, hQ3973, h3978, h3979, h3975, h3976⟩
                  obtain rfl := Fr.same hQ3973
                  have e3980 := e3810
                  refine wk_ifeq r116_117 ⟨by omega, by omega⟩ ?_ ?_
                  · intro h3981
                    exfalso
                    omega
                  · intro h3982
                    refine wk_al0 r116_120 (wk_cv1 r116_121 kc_739_86 rfl (m9086_739 _ M3788 v3803 v3799 hP3789 e3806 (by first | assumption | omega) (by first | assumption | omega) e3802 (by first | assumption | omega) (by first | assumption | omega)) (cqI ?_))
                    rintro v3991 M3983 ⟨hP3984, hQ3985, h3992, h3993, h3987, h3988, h3989, h3990⟩
                    obtain rfl := Fr.same hQ3985
                    have e3994 := e3802
                    have e3995 := e3806
                    refine wk_ifeq r116_124 ⟨by omega, by omega⟩ ?_ ?_
                    · intro h3996
                      refine wk_c1 r116_138 (wk_is1 r116_139 rfl (wk_goto r116_140 ?_))
                      exact wp_fg (le_s (le_s (le_s le_0))) (ih4119 (10 * (501 - v3795) + 0 + (6 - v3807)).toNat (by omega) M3788 0 v3791 v3795 v3799 v3803 v3807 v3651 v3811 v3659 v3663 rfl hP3789 hF3790 e3794 e3798 e3802 e3806 e3810 e3815 e3814 e3816 e3817 e3818 e3819 (by first | assumption | omega) (by first | assumption | omega) (by first | assumption | omega) (by first | assumption | omega) (by first | assumption | omega) (by first | assumption | omega) (by first | assumption | omega) (by first | assumption | omega) (by first | assumption | omega) (by first | assumption | omega) (by first | assumption | omega) (by first | assumption | omega) (by first | assumption | omega) (by first | assumption | omega) (by first | assumption | omega) (by first | assumption | omega) (by first | assumption | omega) (by first | assumption | omega) (by first | assumption | omega) (by first | assumption | omega) pr3820 pr3821 (by first | assumption | omega) (by first | assumption | omega) (by first | assumption | omega) (by first | assumption | omega) (by first | assumption | omega) (by first | assumption | omega) (by first | assumption | omega) (by first | assumption | omega) (by first | assumption | omega) (by first | assumption | omega) (by first | assumption | omega) (by first | assumption | omega) (by first | assumption | omega))
                    · intro h3997
                      refine wk_al0 r116_127 (wk_cv1 r116_128 kc_739_112 rfl (m9112_739 _ M3788 x739_30 v3791 v3795 v3799 v3803 v3807 v3651 v3811 v3659 x739_38 v3954 v3663 s0 u0 hP3789 e3818 (by first | assumption | omega) (by first | assumption | omega) e3794 (by first | assumption | omega) (by first | assumption | omega) e3798 (by first | assumption | omega) (by first | assumption | omega) e3802 (by first | assumption | omega) (by first | assumption | omega) e3806 (by first | assumption | omega) (by first | assumption | omega) e3810 (by first | assumption | omega) (by first | assumption | omega) e3815 (by first | assumption | omega) (by first | assumption | omega) e3814 (by first | assumption | omega) (by first | assumption | omega) e3816 (by first | assumption | omega) (by first | assumption | omega) e3819 (by first | assumption | omega) (by first | assumption | omega) e3955 (by first | assumption | omega) (by first | assumption | omega) e3817 (by first | assumption | omega) (by first | assumption | omega) (by omega) (by omega) (by omega) (by omega) (by omega) (by omega) (by omega) (by omega) pr3820 (GE_of0 e3817 (by omega) pr3821)) (cqI ?_))
                      rintro v4015 M3998 ⟨hP3999, hQ4000, h4016, h4017, h4002, h4003, h4004, h4005, h4006, h4007, h4008, h4009, h4010, h4011, h4012, pr4013, pr4014⟩
                      have hF4001 : Fr fm_m9116_739 M0 M3998 := hF3790.tr hQ4000 rfl
                      have e4018 := ((hQ4000.at g_739_30 rfl).trans e3818)
                      obtain ⟨v4019, e4020⟩ : ∃ v, M3998 739 31 = v := ⟨_, rfl⟩
                      have h4021 := bf_739_31 hP3999; rw [e4020] at h4021
                      obtain ⟨v4022, e4023⟩ : ∃ v, M3998 739 33 = v := ⟨_, rfl⟩
                      have h4024 := bf_739_33 hP3999; rw [e4023] at h4024
                      obtain ⟨v4025, e4026⟩ : ∃ v, M3998 739 34 = v := ⟨_, rfl⟩
                      have h4027 := bf_739_34 hP3999; rw [e4026] at h4027
                      obtain ⟨v4028, e4029⟩ : ∃ v, M3998 739 32 = v := ⟨_, rfl⟩
                      have h4030 := bf_739_32 hP3999; rw [e4029] at h4030
                      obtain ⟨v4031, e4032⟩ : ∃ v, M3998 739 28 = v := ⟨_, rfl⟩
                      have h4033 := bf_739_28 hP3999; rw [e4032] at h4033
                      obtain ⟨v4034, e4035⟩ : ∃ v, M3998 739 47 = v := ⟨_, rfl⟩
                      have h4036 := bf_739_47 hP3999; rw [e4035] at h4036
                      obtain ⟨v4037, e4038⟩ : ∃ v, M3998 739 45 = v := ⟨_, rfl⟩
                      have h4039 := bf_739_45 hP3999; rw [e4038] at h4039
                      obtain ⟨v4040, e4041⟩ : ∃ v, M3998 739 46 = v := ⟨_, rfl⟩
                      have h4042 := bf_739_46 hP3999; rw [e4041] at h4042
                      obtain ⟨v4043, e4044⟩ : ∃ v, M3998 739 51 = v := ⟨_, rfl⟩
                      have h4045 := bf_739_51 hP3999; rw [e4044] at h4045
                      refine wk_ifeq r116_131 ⟨by omega, by omega⟩ ?_ ?_
                      · intro h4046
                        refine wk_c1 r116_138 (wk_is1 r116_139 rfl (wk_goto r116_140 ?_))
                        exact wp_fg (le_s (le_s (le_s le_0))) (ih4119 (10 * (501 - v4022) + 0 + (6 - v4031)).toNat (by omega) M3998 0 v4019 v4022 v4025 v4028 v4031 v4037 v4040 v4034 v4043 rfl hP3999 hF4001 e4020 e4023 e4026 e4029 e4032 e4038 e4041 e4035 e4044 ((hQ4000.at g_739_30 rfl).trans e3818) ((hQ4000.at g_739_38 rfl).trans e3819) (by first | assumption | omega) (by first | assumption | omega) (by first | assumption | omega) (by first | assumption | omega) (by first | assumption | omega) (by first | assumption | omega) (by first | assumption | omega) (by first | assumption | omega) (by first | assumption | omega) (by first | assumption | omega) (by first | assumption | omega) (by first | assumption | omega) (by first | assumption | omega) (by first | assumption | omega) (by first | assumption | omega) (by first | assumption | omega) (by first | assumption | omega) (by first | assumption | omega) (by first | assumption | omega) (by first | assumption | omega) pr4013 pr4014 (by first | assumption | omega) (by first | assumption | omega) (by first | assumption | omega) (by first | assumption | omega) (by first | assumption | omega) (by first | assumption | omega) (by first | assumption | omega) (by first | assumption | omega) (by first | assumption | omega) (by first | assumption | omega) (by first | assumption | omega) (by first | assumption | omega) (by first | assumption | omega))
                      · intro h4047
                        refine wk_c1 r116_134 (wk_goto r116_135 (wk_is1 r116_139 rfl (wk_goto r116_140 ?_)))
                        exact wp_fg (le_s (le_s (le_s le_0))) (ih4119 (10 * (501 - v4022) + 1 + (6 - v4031)).toNat (by omega) M3998 1 v4019 v4022 v4025 v4028 v4031 v4037 v4040 v4034 v4043 rfl hP3999 hF4001 e4020 e4023 e4026 e4029 e4032 e4038 e4041 e4035 e4044 ((hQ4000.at g_739_30 rfl).trans e3818) ((hQ4000.at g_739_38 rfl).trans e3819) (by first | assumption | omega) (by first | assumption | omega) (by first | assumption | omega) (by first | assumption | omega) (by first | assumption | omega) (by first | assumption | omega) (by first | assumption | omega) (by first | assumption | omega) (by first | assumption | omega) (by first | assumption | omega) (by first | assumption | omega) (by first | assumption | omega) (by first | assumption | omega) (by first | assumption | omega) (by first | assumption | omega) (by first | assumption | omega) (by first | assumption | omega) (by first | assumption | omega) (by first | assumption | omega) (by first | assumption | omega) pr4013 pr4014 (by first | assumption | omega) (by first | assumption | omega) (by first | assumption | omega) (by first | assumption | omega) (by first | assumption | omega) (by first | assumption | omega) (by first | assumption | omega) (by first | assumption | omega) (by first | assumption | omega) (by first | assumption | omega) (by first | assumption | omega) (by first | assumption | omega) (by first | assumption | omega))
                · intro h4048
                  exfalso
                  omega
              · intro h4049
                refine wk_c1 r116_85 (wk_goto r116_86 (wk_is1 r116_90 rfl (wk_il1 r116_91 ?_)))
                refine wk_ifeq r116_92 (by decide) ?_ ?_
                · intro h4050
                  exfalso
                  omega
                · intro h4051
                  refine wk_al0 r116_95 (wk_c2 r116_96 (wk_c1 r116_98 (wk_cv3 r116_99 kc_739_133 rfl (m9133_739 _ M3788 14 0 v3811 hP3789 (by decide) (by decide) (by decide) (by decide) e3814 (by first | assumption | omega) (by first | assumption | omega)) (cqV ?_))))
                  rintro M4052 ⟨hP4053, hQ4054, h4056, h4057, xh4058⟩
                  have hF4055 : Fr fm_m9116_739 M0 M4052 := hF3790.tr hQ4054 rfl
                  obtain ⟨v4059, e4060⟩ : ∃ v, M4052 739 46 = v := ⟨_, rfl⟩
                  have h4061 := bf_739_46 hP4053; rw [e4060] at h4061
                  have pr4062 : GE M4052 s0 u0 0 1 := GE_par xh4058 (GE_of0 e3817 (by omega) pr3821) (by omega)
                  refine wk_al0 r116_102 (wk_cv1 r116_103 kc_739_76 rfl (m9076_739 _ M4052 x739_30 v3791 hP4053 ((hQ4054.at g_739_30 rfl).trans e3818) (by first | assumption | omega) (by first | assumption | omega) ((hQ4054.at g_739_31 rfl).trans e3794) (by first | assumption | omega) (by first | assumption | omega) (by omega)) (cqV ?_))
                  rintro M4063 ⟨hP4064, hQ4065, h4067, h4068, h4069, h4070, h4071, pr4072⟩
                  have hF4066 : Fr fm_m9116_739 M0 M4063 := hF4055.tr hQ4065 rfl
                  have e4073 := ((hQ4065.at g_739_30 rfl).trans ((hQ4054.at g_739_30 rfl).trans e3818))
                  obtain ⟨v4074, e4075⟩ : ∃ v, M4063 739 31 = v := ⟨_, rfl⟩
                  have h4076 := bf_739_31 hP4064; rw [e4075] at h4076
                  obtain ⟨v4077, e4078⟩ : ∃ v, M4063 739 33 = v := ⟨_, rfl⟩
                  have h4079 := bf_739_33 hP4064; rw [e4078] at h4079
                  obtain ⟨v4080, e4081⟩ : ∃ v, M4063 739 34 = v := ⟨_, rfl⟩
                  have h4082 := bf_739_34 hP4064; rw [e4081] at h4082
                  obtain ⟨v4083, e4084⟩ : ∃ v, M4063 739 32 = v := ⟨_, rfl⟩
                  have h4085 := bf_739_32 hP4064; rw [e4084] at h4085
                  refine wk_al0 r116_106 (wk_cv1 r116_107 kc_739_62 rfl (m9062_739 _ M4063 x739_30 v4074 v4077 v4080 v4083 v3807 v3651 v4059 v3659 s0 u0 hP4064 ((hQ4065.at g_739_30 rfl).trans ((hQ4054.at g_739_30 rfl).trans e3818)) (by first | assumption | omega) (by first | assumption | omega) e4075 (by first | assumption | omega) (by first | assumption | omega) e4078 (by first | assumption | omega) (by first | assumption | omega) e4081 (by first | assumption | omega) (by first | assumption | omega) e4084 (by first | assumption | omega) (by first | assumption | omega) ((hQ4065.at g_739_28 rfl).trans ((hQ4054.at g_739_28 rfl).trans e3810)) (by first | assumption | omega) (by first | assumption | omega) ((hQ4065.at g_739_45 rfl).trans ((hQ4054.at g_739_45 rfl).trans e3815)) (by first | assumption | omega) (by first | assumption | omega) ((hQ4065.at g_739_46 rfl).trans e4060) (by first | assumption | omega) (by first | assumption | omega) ((hQ4065.at g_739_47 rfl).trans ((hQ4054.at g_739_47 rfl).trans e3816)) (by first | assumption | omega) (by first | assumption | omega) (by omega) (by omega) (by omega) (by omega) (by omega) (by omega) pr4072 (GE_sm (Sm.fr hQ4065 rfl) pr4062)) (cqV ?_))
                  rintro M4086 ⟨hP4087, hQ4088, h4090, h4091, h4092, h4093, h4094, h4095, h4096, h4097, h4098, h4099, h4100, h4101, pr4102, pr4103⟩
                  have hF4089 : Fr fm_m9116_739 M0 M4086 := hF4066.tr hQ4088 rfl
                  have e4104 := ((hQ4088.at g_739_30 rfl).trans ((hQ4065.at g_739_30 rfl).trans ((hQ4054.at g_739_30 rfl).trans e3818)))
                  have e4105 := ((hQ4088.at g_739_31 rfl).trans e4075)
                  have e4106 := ((hQ4088.at g_739_33 rfl).trans e4078)
                  have e4107 := ((hQ4088.at g_739_34 rfl).trans e4081)
                  have e4108 := ((hQ4088.at g_739_32 rfl).trans e4084)
                  obtain ⟨v4109, e4110⟩ : ∃ v, M4086 739 28 = v := ⟨_, rfl⟩
                  have h4111 := bf_739_28 hP4087; rw [e4110] at h4111
                  have e4112 := ((hQ4088.at g_739_45 rfl).trans ((hQ4065.at g_739_45 rfl).trans ((hQ4054.at g_739_45 rfl).trans e3815)))
                  have e4113 := ((hQ4088.at g_739_46 rfl).trans ((hQ4065.at g_739_46 rfl).trans e4060))
                  obtain ⟨v4114, e4115⟩ : ∃ v, M4086 739 47 = v := ⟨_, rfl⟩
                  have h4116 := bf_739_47 hP4087; rw [e4115] at h4116
                  refine wk_goto r116_110 ?_
                  exact wp_fg (le_s (le_s (le_s le_0))) (ih4119 (10 * (501 - v4077) + 1 + (6 - v4109)).toNat (by omega) M4086 1 v4074 v4077 v4080 v4083 v4109 v3651 v4059 v4114 v3663 rfl hP4087 hF4089 ((hQ4088.at g_739_31 rfl).trans e4075) ((hQ4088.at g_739_33 rfl).trans e4078) ((hQ4088.at g_739_34 rfl).trans e4081) ((hQ4088.at g_739_32 rfl).trans e4084) e4110 ((hQ4088.at g_739_45 rfl).trans ((hQ4065.at g_739_45 rfl).trans ((hQ4054.at g_739_45 rfl).trans e3815))) ((hQ4088.at g_739_46 rfl).trans ((hQ4065.at g_739_46 rfl).trans e4060)) e4115 ((hQ4088.at g_739_51 rfl).trans ((hQ4065.at g_739_51 rfl).trans ((hQ4054.at g_739_51 rfl).trans e3817))) ((hQ4088.at g_739_30 rfl).trans ((hQ4065.at g_739_30 rfl).trans ((hQ4054.at g_739_30 rfl).trans e3818))) ((hQ4088.at g_739_38 rfl).trans ((hQ4065.at g_739_38 rfl).trans ((hQ4054.at g_739_38 rfl).trans e3819))) (by first | assumption | omega) (by first | assumption | omega) (by first | assumption | omega) (by first | assumption | omega) (by first | assumption | omega) (by first | assumption | omega) (by first | assumption | omega) (by first | assumption | omega) (by first | assumption | omega) (by first | assumption | omega) (by first | assumption | omega) (by first | assumption | omega) (by first | assumption | omega) (by first | assumption | omega) (by first | assumption | omega) (by first | assumption | omega) (by first | assumption | omega) (by first | assumption | omega) (by first | assumption | omega) (by first | assumption | omega) pr4102 (GH_of0 ((hQ4088.at g_739_51 rfl).trans ((hQ4065.at g_739_51 rfl).trans ((hQ4054.at g_739_51 rfl).trans e3817))) (by omega) pr4103) (by first | assumption | omega) (by first | assumption | omega) (by first | assumption | omega) (by first | assumption | omega) (by first | assumption | omega) (by first | assumption | omega) (by first | assumption | omega) (by first | assumption | omega) (by first | assumption | omega) (by first | assumption | omega) (by first | assumption | omega) (by first | assumption | omega) (by first | assumption | omega))
          refine wk_ifeq r116_19 ⟨by omega, by omega⟩ ?_ ?_
          · intro h3845
            exact wp_fg (le_s (le_s (le_n le_0))) c69_4117
          · intro h3846
            refine wk_al0 r116_22 (wk_cv1 r116_23 kc_739_97 rfl (m9097_739 _ M3788 v3803 v3799 hP3789 e3806 (by first | assumption | omega) (by first | assumption | omega) e3802 (by first | assumption | omega) (by first | assumption | omega) pr3820) (cqI ?_))
            rintro v3852 M3847 ⟨hP3848, hQ3849, h3853, h3854, h3851⟩
            obtain rfl := Fr.same hQ3849
            have e3855 := e3802
            refine wk_c2 r116_26 ?_
            refine wk_icne r116_28 ⟨by omega, by omega⟩ (by decide) ?_ ?_
            · intro h3856
              exact wp_fg (le_s (le_s (le_n le_0))) c69_4117
            · intro h3857
              refine wk_il2 r116_31 (wk_c2 r116_32 ?_)
              refine wk_icne r116_34 ⟨by omega, by omega⟩ (by decide) ?_ ?_
              · intro h3858
                refine wk_inc2 r116_42 rfl (wk_al0 r116_45 (wk_cv1 r116_46 kc_739_84 rfl (m9084_739 _ M3788 v3807 hP3789 e3810 (by first | assumption | omega) (by first | assumption | omega)) (cqI ?_)))
                rintro v3865 M3859 ⟨hP3860, hQ3861, h3866, h3867, h3863, h3864⟩
                obtain rfl := Fr.same hQ3861
                have e3868 := e3810
                refine wk_ifne r116_49 ⟨by omega, by omega⟩ ?_ ?_
                · intro h3869
                  refine wk_al0 r116_55 (wk_c2 r116_56 (wk_c1 r116_58 (wk_cv3 r116_59 kc_739_133 rfl (m9133_739 _ M3788 10 0 v3811 hP3789 (by decide) (by decide) (by decide) (by decide) e3814 (by first | assumption | omega) (by first | assumption | omega)) (cqV ?_))))
                  rintro M3870 ⟨hP3871, hQ3872, h3874, h3875, xh3876⟩
                  have hF3873 : Fr fm_m9116_739 M0 M3870 := hF3790.tr hQ3872 rfl
                  obtain ⟨v3877, e3878⟩ : ∃ v, M3870 739 46 = v := ⟨_, rfl⟩
                  have h3879 := bf_739_46 hP3871; rw [e3878] at h3879
                  have pr3880 : GH M3870 s0 u0 := GH_no xh3876 pr3821 (by omega)
                  refine wk_al0 r116_62 (wk_cv1 r116_63 kc_739_76 rfl (m9076_739 _ M3870 x739_30 v3791 hP3871 ((hQ3872.at g_739_30 rfl).trans e3818) (by first | assumption | omega) (by first | assumption | omega) ((hQ3872.at g_739_31 rfl).trans e3794) (by first | assumption | omega) (by first | assumption | omega) (by omega)) (cqV ?_))
                  rintro M3881 ⟨hP3882, hQ3883, h3885, h3886, h3887, h3888, h3889, pr3890⟩
                  have hF3884 : Fr fm_m9116_739 M0 M3881 := hF3873.tr hQ3883 rfl
                  have e3891 := ((hQ3883.at g_739_30 rfl).trans ((hQ3872.at g_739_30 rfl).trans e3818))
                  obtain ⟨v3892, e3893⟩ : ∃ v, M3881 739 31 = v := ⟨_, rfl⟩
                  have h3894 := bf_739_31 hP3882; rw [e3893] at h3894
                  obtain ⟨v3895, e3896⟩ : ∃ v, M3881 739 33 = v := ⟨_, rfl⟩
                  have h3897 := bf_739_33 hP3882; rw [e3896] at h3897
                  obtain ⟨v3898, e3899⟩ : ∃ v, M3881 739 34 = v := ⟨_, rfl⟩
                  have h3900 := bf_739_34 hP3882; rw [e3899] at h3900
                  obtain ⟨v3901, e3902⟩ : ∃ v, M3881 739 32 = v := ⟨_, rfl⟩
                  have h3903 := bf_739_32 hP3882; rw [e3902] at h3903
                  refine wk_goto r116_66 ?_
                  exact wp_fg (le_s (le_s (le_s le_0))) (ih4118 (10 * (501 - v3895) + (6 - v3807)).toNat (by omega) M3881 (v3785 + 1) v3892 v3895 v3898 v3901 v3807 v3877 rfl hP3882 hF3884 e3893 e3896 e3899 e3902 ((hQ3883.at g_739_28 rfl).trans ((hQ3872.at g_739_28 rfl).trans e3810)) ((hQ3883.at g_739_46 rfl).trans e3878) ((hQ3883.at g_739_45 rfl).trans ((hQ3872.at g_739_45 rfl).trans e3815)) ((hQ3883.at g_739_47 rfl).trans ((hQ3872.at g_739_47 rfl).trans e3816)) ((hQ3883.at g_739_51 rfl).trans ((hQ3872.at g_739_51 rfl).trans e3817)) ((hQ3883.at g_739_30 rfl).trans ((hQ3872.at g_739_30 rfl).trans e3818)) ((hQ3883.at g_739_38 rfl).trans ((hQ3872.at g_739_38 rfl).trans e3819)) (by first | assumption | omega) (by first | assumption | omega) (by first | assumption | omega) (by first | assumption | omega) (by first | assumption | omega) (by first | assumption | omega) (by first | assumption | omega) (by first | assumption | omega) (by first | assumption | omega) (by first | assumption | omega) (by first | assumption | omega) (by first | assumption | omega) (by first | assumption | omega) (by first | assumption | omega) pr3890 (GH_sm (Sm.fr hQ3883 rfl) pr3880) (by first | assumption | omega) (by first | assumption | omega) (by first | assumption | omega) (by first | assumption | omega) (by first | assumption | omega) (by first | assumption | omega) (by first | assumption | omega) (by first | assumption | omega) (by first | assumption | omega) (by first | assumption | omega) (by first | assumption | omega) (by first | assumption | omega) (by first | assumption | omega))
                · intro h3904
                  exfalso
                  omega
              · intro h3905
                refine wk_al0 r116_37 (wk_c1 r116_38 (wk_cv2 r116_39 kc_739_137 rfl (m9137_739 _ M3788 2 v3807 v3795 hP3789 (by decide) (by decide) e3810 (by first | assumption | omega) (by first | assumption | omega) e3798 (by first | assumption | omega) (by first | assumption | omega)) (cqV ?_)))
                rintro M3906 ⟨hP3907, hQ3908, h3910, h3911⟩
                have hF3909 : Fr fm_m9116_739 M0 M3906 := hF3790.tr hQ3908 rfl
                obtain ⟨v3912, e3913⟩ : ∃ v, M3906 739 28 = v := ⟨_, rfl⟩
                have h3914 := bf_739_28 hP3907; rw [e3913] at h3914
                have pr3915 : GH M3906 s0 u0 := GH_mn (Sm.fr hQ3908 rfl) (fun q => by have := e3810; have := e3913; omega) pr3821
                refine wk_inc2 r116_42 rfl (wk_al0 r116_45 (wk_cv1 r116_46 kc_739_84 rfl (m9084_739 _ M3906 v3912 hP3907 e3913 (by first | assumption | omega) (by first | assumption | omega)) (cqI ?_)))
                rintro v3922 M3916 ⟨hP3917, hQ3918, h3923, h3924, h3920, h3921⟩
                obtain rfl := Fr.same hQ3918
                have e3925 := e3913
                refine wk_ifne r116_49 ⟨by omega, by omega⟩ ?_ ?_
                · intro h3926
                  exfalso
                  omega
                · intro h3927
                  refine wk_goto r116_52 ?_
                  exact wp_fg (le_s (le_s (le_s le_0))) (ih4118 (10 * (501 - v3795) + (6 - v3912)).toNat (by omega) M3906 (v3785 + 1) v3791 v3795 v3799 v3803 v3912 v3811 rfl hP3907 hF3909 ((hQ3908.at g_739_31 rfl).trans e3794) ((hQ3908.at g_739_33 rfl).trans e3798) ((hQ3908.at g_739_34 rfl).trans e3802) ((hQ3908.at g_739_32 rfl).trans e3806) e3913 ((hQ3908.at g_739_46 rfl).trans e3814) ((hQ3908.at g_739_45 rfl).trans e3815) ((hQ3908.at g_739_47 rfl).trans e3816) ((hQ3908.at g_739_51 rfl).trans e3817) ((hQ3908.at g_739_30 rfl).trans e3818) ((hQ3908.at g_739_38 rfl).trans e3819) (by first | assumption | omega) (by first | assumption | omega) (by first | assumption | omega) (by first | assumption | omega) (by first | assumption | omega) (by first | assumption | omega) (by first | assumption | omega) (by first | assumption | omega) (by first | assumption | omega) (by first | assumption | omega) (by first | assumption | omega) (by first | assumption | omega) (by first | assumption | omega) (by first | assumption | omega) (TK_sm (Sm.fr hQ3908 rfl) pr3820) pr3915 (by first | assumption | omega) (by first | assumption | omega) (by first | assumption | omega) (by first | assumption | omega) (by first | assumption | omega) (by first | assumption | omega) (by first | assumption | omega) (by first | assumption | omega) (by first | assumption | omega) (by first | assumption | omega) (by first | assumption | omega) (by first | assumption | omega) (by first | assumption | omega))
        exact wp_fg (le_s (le_n (le_s le_0))) (c15_4118 _ M3628 0 v3631 v3635 v3639 v3643 v3647 v3655 rfl hP3629 hF3630 e3634 e3638 e3642 e3646 e3650 e3658 e3654 e3662 e3666 e3667 e3668 (by first | assumption | omega) (by first | assumption | omega) (by first | assumption | omega) (by first | assumption | omega) (by first | assumption | omega) (by first | assumption | omega) (by first | assumption | omega) (by first | assumption | omega) (by first | assumption | omega) (by first | assumption | omega) (by first | assumption | omega) (by first | assumption | omega) (by first | assumption | omega) (by first | assumption | omega) pr3669 pr3670 (by first | assumption | omega) (by first | assumption | omega) (by first | assumption | omega) (by first | assumption | omega) (by first | assumption | omega) (by first | assumption | omega) (by first | assumption | omega) (by first | assumption | omega) (by first | assumption | omega) (by first | assumption | omega) (by first | assumption | omega) (by first | assumption | omega) (by first | assumption | omega))
  exact wp_fg (le_s (le_s (le_s le_0))) (c2_4119 _ M0 1 x739_31 x739_33 x739_34 x739_32 x739_28 x739_45 x739_46 x739_47 x739_51 rfl hP0 hF0 ex739_31 ex739_33 ex739_34 ex739_32 ex739_28 ex739_45 ex739_46 ex739_47 ex739_51 ex739_30 ex739_38 (by first | assumption | omega) (by first | assumption | omega) (by first | assumption | omega) (by first | assumption | omega) (by first | assumption | omega) (by first | assumption | omega) (by first | assumption | omega) (by first | assumption | omega) (by first | assumption | omega) (by first | assumption | omega) (by first | assumption | omega) (by first | assumption | omega) (by first | assumption | omega) (by first | assumption | omega) (by first | assumption | omega) (by first | assumption | omega) (by first | assumption | omega) (by first | assumption | omega) (by first | assumption | omega) (by first | assumption | omega) pp_TK (GH_of0 ex739_51 (by omega) pp_E0) (by first | assumption | omega) (by first | assumption | omega) (by first | assumption | omega) (by first | assumption | omega) (by first | assumption | omega) (by first | assumption | omega) (by first | assumption | omega) (by first | assumption | omega) (by first | assumption | omega) (by first | assumption | omega) (by first | assumption | omega) (by first | assumption | omega) (by first | assumption | omega))
