/-! ===== written by program (wip/layer3/model.py): contracts of methods ===== -/
def fm_m9120_739 : Nat := 226156424291636392369996259608942744360629063106118230789664548191039651840
/-- IslandHallModel.readsMay -/
theorem m9120_739 {B : eB} (d : Nat) (M0 : Mm) (x739_30 : Int) (x739_31 : Int) (x739_33 : Int) (x739_34 : Int) (x739_32 : Int) (x739_28 : Int) (x739_35 : Int) (x739_38 : Int) (x739_36 : Int) (hP0 : Pw M0) (ex739_30 : M0 739 30 = x739_30) (lx739_30 : 0 ≤ x739_30) (ux739_30 : x739_30 ≤ 500) (ex739_31 : M0 739 31 = x739_31) (lx739_31 : 0 ≤ x739_31) (ux739_31 : x739_31 ≤ 500) (ex739_33 : M0 739 33 = x739_33) (lx739_33 : 0 ≤ x739_33) (ux739_33 : x739_33 ≤ 500) (ex739_34 : M0 739 34 = x739_34) (lx739_34 : 0 ≤ x739_34) (ux739_34 : x739_34 ≤ 500) (ex739_32 : M0 739 32 = x739_32) (lx739_32 : 0 ≤ x739_32) (ux739_32 : x739_32 ≤ 4) (ex739_28 : M0 739 28 = x739_28) (lx739_28 : 0 ≤ x739_28) (ux739_28 : x739_28 ≤ 6) (ex739_35 : M0 739 35 = x739_35) (lx739_35 : 0 ≤ x739_35) (ux739_35 : x739_35 ≤ 999) (ex739_38 : M0 739 38 = x739_38) (lx739_38 : 0 ≤ x739_38) (ux739_38 : x739_38 ≤ 999) (ex739_36 : M0 739 36 = x739_36) (lx739_36 : 0 ≤ x739_36) (ux739_36 : x739_36 ≤ 255) (rp0 : 0 ≤ x739_30 + (-1) * x739_31) (rp1 : 0 ≤ x739_31 + (-1) * x739_33 + (-1) * x739_34) (rp2 : 0 ≤ (-1) * x739_31 + x739_33 + x739_34) (rp3 : 0 ≤ 4 * x739_34 + (-1) * x739_32) (rp4 : 0 ≤ (-1) * x739_38 + 7 + 3000 * x739_28) (pp_TK : TK M0) (pp_MR : MRP M0) : Ct B (d + 5) 120 [R 739] M0 (qV fun M => Pw M ∧ Fr fm_m9120_739 M0 M ∧ 0 ≤ M 739 30 + (-1) * (M 739 31) ∧ 0 ≤ M 739 31 + (-1) * (M 739 33) + (-1) * (M 739 34) ∧ 0 ≤ (-1) * (M 739 31) + M 739 33 + M 739 34 ∧ 0 ≤ 4 * (M 739 34) + (-1) * (M 739 32) ∧ 0 ≤ M 739 33 + (-1) * x739_33 ∧ 0 ≤ M 739 28 + (-1) * x739_28 ∧ (TK M) ∧ (MRP M)) := by
  refine ct_of (d := d + 4) (k := 6) (L := [some (R 739), none, none, none, none, none, none]) rfl rfl rfl ?_
  have hF0 := Fr.rf fm_m9120_739 M0
  generalize hQ : (qV fun M => Pw M ∧ Fr fm_m9120_739 M0 M ∧ 0 ≤ M 739 30 + (-1) * (M 739 31) ∧ 0 ≤ M 739 31 + (-1) * (M 739 33) + (-1) * (M 739 34) ∧ 0 ≤ (-1) * (M 739 31) + M 739 33 + M 739 34 ∧ 0 ≤ 4 * (M 739 34) + (-1) * (M 739 32) ∧ 0 ≤ M 739 33 + (-1) * x739_33 ∧ 0 ≤ M 739 28 + (-1) * x739_28 ∧ (TK M) ∧ (MRP M)) = Q
  refine wk_al0 r120_0 (wk_cv1 r120_1 kc_739_111 rfl (m9111_739 _ M0 x739_30 x739_31 x739_33 x739_34 x739_32 x739_28 x739_38 x739_36 hP0 ex739_30 (by first | assumption | omega) (by first | assumption | omega) ex739_31 (by first | assumption | omega) (by first | assumption | omega) ex739_33 (by first | assumption | omega) (by first | assumption | omega) ex739_34 (by first | assumption | omega) (by first | assumption | omega) ex739_32 (by first | assumption | omega) (by first | assumption | omega) ex739_28 (by first | assumption | omega) (by first | assumption | omega) ex739_38 (by first | assumption | omega) (by first | assumption | omega) ex739_36 (by first | assumption | omega) (by first | assumption | omega) (by omega) (by omega) (by omega) (by omega) (by omega) pp_TK) (cqI ?_))
  rintro v15 M1 ⟨hP2, hQ3, h16, h17, h5, h6, h7, h8, h9, h10, h11, h12, h13, pr14⟩
  have hF4 : Fr fm_m9120_739 M0 M1 := hF0.tr hQ3 rfl
  have e18 := ((hQ3.at g_739_30 rfl).trans ex739_30)
  obtain ⟨v19, e20⟩ : ∃ v, M1 739 31 = v := ⟨_, rfl⟩
  have h21 := bf_739_31 hP2; rw [e20] at h21
  obtain ⟨v22, e23⟩ : ∃ v, M1 739 33 = v := ⟨_, rfl⟩
  have h24 := bf_739_33 hP2; rw [e23] at h24
  obtain ⟨v25, e26⟩ : ∃ v, M1 739 34 = v := ⟨_, rfl⟩
  have h27 := bf_739_34 hP2; rw [e26] at h27
  obtain ⟨v28, e29⟩ : ∃ v, M1 739 32 = v := ⟨_, rfl⟩
  have h30 := bf_739_32 hP2; rw [e29] at h30
  obtain ⟨v31, e32⟩ : ∃ v, M1 739 28 = v := ⟨_, rfl⟩
  have h33 := bf_739_28 hP2; rw [e32] at h33
  refine wk_is1 r120_4 rfl (wk_c1 r120_5 (wk_is2 r120_6 rfl (wk_al0 r120_7 (wk_cv1 r120_8 kc_739_84 rfl (m9084_739 _ M1 v31 hP2 e32 (by first | assumption | omega) (by first | assumption | omega)) (cqI ?_)))))
  rintro v40 M34 ⟨hP35, hQ36, h41, h42, h38, h39⟩
  obtain rfl := Fr.same hQ36
  have e43 := e32
  refine wk_is3 r120_11 rfl ?_
  have c12_473 : ∀ (k473 : Nat) (M232 : Mm) (v226 : Int) (v229 : Int) (v235 : Int) (v239 : Int) (v243 : Int) (v247 : Int) (v251 : Int), (10 * (501 - v239) + v229).toNat = k473 → Pw M232 → Fr fm_m9120_739 M0 M232 → M232 739 31 = v235 → M232 739 33 = v239 → M232 739 34 = v243 → M232 739 32 = v247 → M232 739 28 = v251 → M232 739 30 = x739_30 → M232 739 38 = x739_38 → 0 ≤ v226 → v226 ≤ 31 → 0 ≤ v229 → v229 ≤ 1 → 0 ≤ v235 → v235 ≤ 500 → 0 ≤ v239 → v239 ≤ 500 → 0 ≤ v243 → v243 ≤ 500 → 0 ≤ v247 → v247 ≤ 4 → 0 ≤ v251 → v251 ≤ 6 → (TK M232) → (MRP M232) → 0 ≤ 1 * x739_30 + (-1) * v235 → 0 ≤ 1 * v235 + (-1) * v239 + (-1) * v243 → 0 ≤ (-1) * v235 + 1 * v239 + 1 * v243 → 0 ≤ 4 * v243 + (-1) * v247 → 0 ≤ 1 * v239 + (-1) * x739_33 → 0 ≤ 1 * v251 + (-1) * x739_28 → 0 ≤ (-1) * v15 + 3000 * v251 + 6 → 0 ≤ 1 * v15 + 3000 * v251 → 0 ≤ (-6) * v229 + (-1) * v251 + 6 → 0 ≤ 1 * v226 + (-1) + 3000 * v251 + 1 * v229 → Wp B (d + 4) 120 12 [some (R 739), some (I v15), some (I v226), some (I v229), none, none, none] [] M232 Q := by
    refine lp_ind ?_
    intro k473 ih473 M232 v226 v229 v235 v239 v243 v247 v251 hk473 hP233 hF234 e238 e242 e246 e250 e254 e255 e256 h227 h228 h230 h231 h236 h237 h240 h241 h244 h245 h248 h249 h252 h253 pr257 pr258 h259 h260 h261 h262 h263 h264 h265 h266 h267 h268
    refine wk_il3 r120_12 ?_
    refine wk_ifeq r120_13 ⟨by omega, by omega⟩ ?_ ?_
    · intro h269
      refine wk_al0 r120_107 (wk_cv1 r120_108 kc_739_84 rfl (m9084_739 _ M232 v251 hP233 e254 (by first | assumption | omega) (by first | assumption | omega)) (cqI ?_))
      rintro v276 M270 ⟨hP271, hQ272, h277, h278, h274, h275⟩
      obtain rfl := Fr.same hQ272
      have e279 := e254
      refine wk_ifeq r120_111 ⟨by omega, by omega⟩ ?_ ?_
      · intro h280
        subst hQ; exact wk_ret r120_121 (⟨rfl, hP233, hF234, by have := e255; have := e238; omega, by have := e238; have := e242; have := e246; omega, by have := e238; have := e242; have := e246; omega, by have := e246; have := e250; omega, by have := e242; omega, by have := e254; omega, pr257, pr258⟩)
      · intro h281
        refine wk_al0 r120_114 (wk_getfr r120_115 fd_739_48 (br_739_48 hP233) (wk_il1 r120_118 (wk_il2 r120_119 (wk_iast r120_120 ar_756 ⟨by omega, by omega⟩ (wk_nw (ga_756 _) rfl hP233 hF234 (ua_756 ⟨by omega, by omega⟩) ?_)))))
        intro M282 hP283 hF284 e285
        have pr286 : MRP M282 := MRP_up pr258 (by omega) e285
        subst hQ; exact wk_ret r120_121 (⟨rfl, hP283, hF284, by have := (mUp_no e285 e255 (Or.inl (by decide))); have := (mUp_no e285 e238 (Or.inl (by decide))); omega, by have := (mUp_no e285 e238 (Or.inl (by decide))); have := (mUp_no e285 e242 (Or.inl (by decide))); have := (mUp_no e285 e246 (Or.inl (by decide))); omega, by have := (mUp_no e285 e238 (Or.inl (by decide))); have := (mUp_no e285 e242 (Or.inl (by decide))); have := (mUp_no e285 e246 (Or.inl (by decide))); omega, by have := (mUp_no e285 e246 (Or.inl (by decide))); have := (mUp_no e285 e250 (Or.inl (by decide))); omega, by have := (mUp_no e285 e242 (Or.inl (by decide))); omega, by have := (mUp_no e285 e254 (Or.inl (by decide))); omega, (TK_sm (Sm.up e285 (ga_756 _) rfl) pr257), pr286⟩)
    · intro h287
      refine wk_al0 r120_16 (wk_getfi r120_17 fd_739_33 e242 (wk_is4 r120_20 rfl (wk_al0 r120_22 (wk_cv1 r120_23 kc_739_93 rfl (m9093_739 _ M232 x739_30 v235 v239 v243 v247 v251 hP233 e255 (by first | assumption | omega) (by first | assumption | omega) e238 (by first | assumption | omega) (by first | assumption | omega) e242 (by first | assumption | omega) (by first | assumption | omega) e246 (by first | assumption | omega) (by first | assumption | omega) e250 (by first | assumption | omega) (by first | assumption | omega) e254 (by first | assumption | omega) (by first | assumption | omega) (by omega) (by omega) (by omega) (by omega) pr257) (cqI ?_)))))
      rintro v302 M288 ⟨hP289, hQ290, h303, h304, h292, h293, h294, h295, h296, h297, h298, h299, h300, pr301⟩
      have hF291 : Fr fm_m9120_739 M0 M288 := hF234.tr hQ290 rfl
      have e305 := ((hQ290.at g_739_30 rfl).trans e255)
      obtain ⟨v306, e307⟩ : ∃ v, M288 739 31 = v := ⟨_, rfl⟩
      have h308 := bf_739_31 hP289; rw [e307] at h308
      obtain ⟨v309, e310⟩ : ∃ v, M288 739 33 = v := ⟨_, rfl⟩
      have h311 := bf_739_33 hP289; rw [e310] at h311
      obtain ⟨v312, e313⟩ : ∃ v, M288 739 34 = v := ⟨_, rfl⟩
      have h314 := bf_739_34 hP289; rw [e313] at h314
      obtain ⟨v315, e316⟩ : ∃ v, M288 739 32 = v := ⟨_, rfl⟩
      have h317 := bf_739_32 hP289; rw [e316] at h317
      obtain ⟨v318, e319⟩ : ∃ v, M288 739 28 = v := ⟨_, rfl⟩
      have h320 := bf_739_28 hP289; rw [e319] at h320
      refine wk_is5 r120_26 rfl (wk_al0 r120_28 (wk_cv1 r120_29 kc_739_84 rfl (m9084_739 _ M288 v318 hP289 e319 (by first | assumption | omega) (by first | assumption | omega)) (cqI ?_)))
      rintro v327 M321 ⟨hP322, hQ323, h328, h329, h325, h326⟩
      obtain rfl := Fr.same hQ323
      have e330 := e319
      refine wk_ifeq r120_32 ⟨by omega, by omega⟩ ?_ ?_
      · intro h331
        refine wk_il2 r120_56 (wk_al0 r120_57 (wk_cv1 r120_58 kc_739_84 rfl (m9084_739 _ M288 v318 hP289 e319 (by first | assumption | omega) (by first | assumption | omega)) (cqI ?_)))
        rintro v338 M332 ⟨hP333, hQ334, h339, h340, h336, h337⟩
        obtain rfl := Fr.same hQ334
        have e341 := e319
        refine wk_ifeq r120_61 ⟨by omega, by omega⟩ ?_ ?_
        · intro h342
          refine wk_c1 r120_71 (wk_ior 5 32 r120_72 (by decide) ⟨by omega, by omega⟩ ⟨by omega, by omega⟩ ?_)
          intro v343 h344 h345 h346 h347 h348
          refine wk_is2 r120_73 rfl (wk_al0 r120_74 (wk_cv1 r120_75 kc_739_97 rfl (m9097_739 _ M288 v315 v312 hP289 e316 (by first | assumption | omega) (by first | assumption | omega) e313 (by first | assumption | omega) (by first | assumption | omega) pr301) (cqI ?_)))
          rintro v354 M349 ⟨hP350, hQ351, h355, h356, h353⟩
          obtain rfl := Fr.same hQ351
          have e357 := e313
          refine wk_is6 r120_78 rfl (wk_al0 r120_80 (wk_cv1 r120_81 kc_739_84 rfl (m9084_739 _ M288 v318 hP289 e319 (by first | assumption | omega) (by first | assumption | omega)) (cqI ?_)))
          rintro v364 M358 ⟨hP359, hQ360, h365, h366, h362, h363⟩
          obtain rfl := Fr.same hQ360
          have e367 := e319
          refine wk_ifeq r120_84 ⟨by omega, by omega⟩ ?_ ?_
          · intro h368
            refine wk_c1 r120_102 (wk_is3 r120_103 rfl (wk_goto r120_104 ?_))
            exact wp_fg (le_s (le_s (le_s (le_s (le_n (le_n (le_n le_0))))))) (ih473 (10 * (501 - v309) + 0).toNat (by omega) M288 v343 0 v306 v309 v312 v315 v318 rfl hP289 hF291 e307 e310 e313 e316 e319 ((hQ290.at g_739_30 rfl).trans e255) ((hQ290.at g_739_38 rfl).trans e256) (by first | assumption | omega) (by first | assumption | omega) (by first | assumption | omega) (by first | assumption | omega) (by first | assumption | omega) (by first | assumption | omega) (by first | assumption | omega) (by first | assumption | omega) (by first | assumption | omega) (by first | assumption | omega) (by first | assumption | omega) (by first | assumption | omega) (by first | assumption | omega) (by first | assumption | omega) pr301 (MRP_sm (Sm.fr hQ290 rfl) pr258) (by first | assumption | omega) (by first | assumption | omega) (by first | assumption | omega) (by first | assumption | omega) (by first | assumption | omega) (by first | assumption | omega) (by first | assumption | omega) (by first | assumption | omega) (by first | assumption | omega) (by first | assumption | omega))
          · intro h369
            exfalso
            omega
        · intro h370
          exfalso
          omega
      · intro h371
        refine wk_il2 r120_35 (wk_il5 r120_36 (wk_shrb r120_38 ⟨by omega, by omega⟩ ⟨by omega, by omega⟩ ?_))
        intro v372 h373 h374 h375
        refine wk_c1 r120_39 (wk_iandc 1 2 r120_40 ⟨rfl, by decide⟩ rfl (wk_c1 r120_41 ?_))
        refine wk_icne r120_42 ⟨by omega, by omega⟩ (by decide) ?_ ?_
        · intro h377
          refine wk_il2 r120_56 (wk_al0 r120_57 (wk_cv1 r120_58 kc_739_84 rfl (m9084_739 _ M288 v318 hP289 e319 (by first | assumption | omega) (by first | assumption | omega)) (cqI ?_)))
          rintro v384 M378 ⟨hP379, hQ380, h385, h386, h382, h383⟩
          obtain rfl := Fr.same hQ380
          have e387 := e319
          refine wk_ifeq r120_61 ⟨by omega, by omega⟩ ?_ ?_
          · intro h388
            exfalso
            omega
          · intro h389
            refine wk_c1 r120_64 (wk_il5 r120_65 (wk_shl1 4 16 r120_67 ⟨by omega, by omega⟩ ⟨pwl_4, by decide⟩ ?_))
            intro v390 h391 h392 h393
            refine wk_goto r120_68 (wk_ior 5 32 r120_72 (by decide) ⟨by omega, by omega⟩ ⟨by omega, by omega⟩ ?_)
            intro v394 h395 h396 h397 h398 h399
            refine wk_is2 r120_73 rfl (wk_al0 r120_74 (wk_cv1 r120_75 kc_739_97 rfl (m9097_739 _ M288 v315 v312 hP289 e316 (by first | assumption | omega) (by first | assumption | omega) e313 (by first | assumption | omega) (by first | assumption | omega) pr301) (cqI ?_)))
            rintro v405 M400 ⟨hP401, hQ402, h406, h407, h404⟩
            obtain rfl := Fr.same hQ402
            have e408 := e313
            refine wk_is6 r120_78 rfl (wk_al0 r120_80 (wk_cv1 r120_81 kc_739_84 rfl (m9084_739 _ M288 v318 hP289 e319 (by first | assumption | omega) (by first | assumption | omega)) (cqI ?_)))
            rintro v415 M409 ⟨hP410, hQ411, h416, h417, h413, h414⟩
            obtain rfl := Fr.same hQ411
            have e418 := e319
            refine wk_ifeq r120_84 ⟨by omega, by omega⟩ ?_ ?_
            · intro h419
              exfalso
              omega
            · intro h420
              refine wk_il6 r120_87 ?_
              refine wk_iflt r120_89 ⟨by omega, by omega⟩ ?_ ?_
              · intro h421
                refine wk_c1 r120_102 (wk_is3 r120_103 rfl (wk_goto r120_104 ?_))
                exact wp_fg (le_s (le_s (le_s (le_s (le_n (le_n (le_n le_0))))))) (ih473 (10 * (501 - v309) + 0).toNat (by omega) M288 v394 0 v306 v309 v312 v315 v318 rfl hP289 hF291 e307 e310 e313 e316 e319 ((hQ290.at g_739_30 rfl).trans e255) ((hQ290.at g_739_38 rfl).trans e256) (by first | assumption | omega) (by first | assumption | omega) (by first | assumption | omega) (by first | assumption | omega) (by first | assumption | omega) (by first | assumption | omega) (by first | assumption | omega) (by first | assumption | omega) (by first | assumption | omega) (by first | assumption | omega) (by first | assumption | omega) (by first | assumption | omega) (by first | assumption | omega) (by first | assumption | omega) pr301 (MRP_sm (Sm.fr hQ290 rfl) pr258) (by first | assumption | omega) (by first | assumption | omega) (by first | assumption | omega) (by first | assumption | omega) (by first | assumption | omega) (by first | assumption | omega) (by first | assumption | omega) (by first | assumption | omega) (by first | assumption | omega) (by first | assumption | omega))
              · intro h422
                refine wk_il6 r120_92 (wk_c1 r120_94 ?_)
                refine wk_icgt r120_95 ⟨by omega, by omega⟩ (by decide) ?_ ?_
                · intro h423
                  refine wk_c1 r120_102 (wk_is3 r120_103 rfl (wk_goto r120_104 ?_))
                  exact wp_fg (le_s (le_s (le_s (le_s (le_n (le_n (le_n le_0))))))) (ih473 (10 * (501 - v309) + 0).toNat (by omega) M288 v394 0 v306 v309 v312 v315 v318 rfl hP289 hF291 e307 e310 e313 e316 e319 ((hQ290.at g_739_30 rfl).trans e255) ((hQ290.at g_739_38 rfl).trans e256) (by first | assumption | omega) (by first | assumption | omega) (by first | assumption | omega) (by first | assumption | omega) (by first | assumption | omega) (by first | assumption | omega) (by first | assumption | omega) (by first | assumption | omega) (by first | assumption | omega) (by first | assumption | omega) (by first | assumption | omega) (by first | assumption | omega) (by first | assumption | omega) (by first | assumption | omega) pr301 (MRP_sm (Sm.fr hQ290 rfl) pr258) (by first | assumption | omega) (by first | assumption | omega) (by first | assumption | omega) (by first | assumption | omega) (by first | assumption | omega) (by first | assumption | omega) (by first | assumption | omega) (by first | assumption | omega) (by first | assumption | omega) (by first | assumption | omega))
                · intro h424
                  refine wk_c1 r120_98 (wk_goto r120_99 (wk_is3 r120_103 rfl (wk_goto r120_104 ?_)))
                  exact wp_fg (le_s (le_s (le_s (le_s (le_n (le_n (le_n le_0))))))) (ih473 (10 * (501 - v309) + 1).toNat (by omega) M288 v394 1 v306 v309 v312 v315 v318 rfl hP289 hF291 e307 e310 e313 e316 e319 ((hQ290.at g_739_30 rfl).trans e255) ((hQ290.at g_739_38 rfl).trans e256) (by first | assumption | omega) (by first | assumption | omega) (by first | assumption | omega) (by first | assumption | omega) (by first | assumption | omega) (by first | assumption | omega) (by first | assumption | omega) (by first | assumption | omega) (by first | assumption | omega) (by first | assumption | omega) (by first | assumption | omega) (by first | assumption | omega) (by first | assumption | omega) (by first | assumption | omega) pr301 (MRP_sm (Sm.fr hQ290 rfl) pr258) (by first | assumption | omega) (by first | assumption | omega) (by first | assumption | omega) (by first | assumption | omega) (by first | assumption | omega) (by first | assumption | omega) (by first | assumption | omega) (by first | assumption | omega) (by first | assumption | omega) (by first | assumption | omega))
        · intro h425
          refine wk_al0 r120_45 (wk_c1 r120_46 (wk_putfi81 r120_47 fd_739_28 (wk_nw g_739_28 rfl hP289 hF291 (uf_739_28 (by decide)) ?_)))
          intro M426 hP427 hF428 e429
          refine wk_al0 r120_50 (wk_il4 r120_51 (wk_putfi81 r120_53 fd_739_29 (wk_nw g_739_29 rfl hP427 hF428 (uf_739_29 ⟨by omega, by omega⟩) ?_)))
          intro M430 hP431 hF432 e433
          refine wk_il2 r120_56 (wk_al0 r120_57 (wk_cv1 r120_58 kc_739_84 rfl (m9084_739 _ M430 5 hP431 (mUp_no e433 (mUp_at e429) (Or.inr (by decide))) (by first | assumption | omega) (by first | assumption | omega)) (cqI ?_)))
          rintro v440 M434 ⟨hP435, hQ436, h441, h442, h438, h439⟩
          obtain rfl := Fr.same hQ436
          have e443 := (mUp_no e433 (mUp_at e429) (Or.inr (by decide)))
          refine wk_ifeq r120_61 ⟨by omega, by omega⟩ ?_ ?_
          · intro h444
            refine wk_c1 r120_71 (wk_ior 5 32 r120_72 (by decide) ⟨by omega, by omega⟩ ⟨by omega, by omega⟩ ?_)
            intro v445 h446 h447 h448 h449 h450
            refine wk_is2 r120_73 rfl (wk_al0 r120_74 (wk_cv1 r120_75 kc_739_97 rfl (m9097_739 _ M430 v315 v312 hP431 (mUp_no e433 (mUp_no e429 e316 (Or.inr (by decide))) (Or.inr (by decide))) (by first | assumption | omega) (by first | assumption | omega) (mUp_no e433 (mUp_no e429 e313 (Or.inr (by decide))) (Or.inr (by decide))) (by first | assumption | omega) (by first | assumption | omega) (TK_sm (Sm.up e433 g_739_29 rfl) (TK_sm (Sm.up e429 g_739_28 rfl) pr301))) (cqI ?_)))
            rintro v456 M451 ⟨hP452, hQ453, h457, h458, h455⟩
            obtain rfl := Fr.same hQ453
            have e459 := (mUp_no e433 (mUp_no e429 e313 (Or.inr (by decide))) (Or.inr (by decide)))
            refine wk_is6 r120_78 rfl (wk_al0 r120_80 (wk_cv1 r120_81 kc_739_84 rfl (m9084_739 _ M430 5 hP431 (mUp_no e433 (mUp_at e429) (Or.inr (by decide))) (by first | assumption | omega) (by first | assumption | omega)) (cqI ?_)))
            rintro v466 M460 ⟨hP461, hQ462, h467, h468, h464, h465⟩
            obtain rfl := Fr.same hQ462
            have e469 := (mUp_no e433 (mUp_at e429) (Or.inr (by decide)))
            refine wk_ifeq r120_84 ⟨by omega, by omega⟩ ?_ ?_
            · intro h470
              refine wk_c1 r120_102 (wk_is3 r120_103 rfl (wk_goto r120_104 ?_))
              exact wp_fg (le_s (le_s (le_s (le_s (le_n (le_n (le_n le_0))))))) (ih473 (10 * (501 - v309) + 0).toNat (by omega) M430 v445 0 v306 v309 v312 v315 5 rfl hP431 hF432 (mUp_no e433 (mUp_no e429 e307 (Or.inr (by decide))) (Or.inr (by decide))) (mUp_no e433 (mUp_no e429 e310 (Or.inr (by decide))) (Or.inr (by decide))) (mUp_no e433 (mUp_no e429 e313 (Or.inr (by decide))) (Or.inr (by decide))) (mUp_no e433 (mUp_no e429 e316 (Or.inr (by decide))) (Or.inr (by decide))) (mUp_no e433 (mUp_at e429) (Or.inr (by decide))) (mUp_no e433 (mUp_no e429 ((hQ290.at g_739_30 rfl).trans e255) (Or.inr (by decide))) (Or.inr (by decide))) (mUp_no e433 (mUp_no e429 ((hQ290.at g_739_38 rfl).trans e256) (Or.inr (by decide))) (Or.inr (by decide))) (by first | assumption | omega) (by first | assumption | omega) (by first | assumption | omega) (by first | assumption | omega) (by first | assumption | omega) (by first | assumption | omega) (by first | assumption | omega) (by first | assumption | omega) (by first | assumption | omega) (by first | assumption | omega) (by first | assumption | omega) (by first | assumption | omega) (by first | assumption | omega) (by first | assumption | omega) (TK_sm (Sm.up e433 g_739_29 rfl) (TK_sm (Sm.up e429 g_739_28 rfl) pr301)) (MRP_sm (Sm.up e433 g_739_29 rfl) (MRP_sm (Sm.up e429 g_739_28 rfl) (MRP_sm (Sm.fr hQ290 rfl) pr258))) (by first | assumption | omega) (by first | assumption | omega) (by first | assumption | omega) (by first | assumption | omega) (by first | assumption | omega) (by first | assumption | omega) (by first | assumption | omega) (by first | assumption | omega) (by first | assumption | omega) (by first | assumption | omega))
            · intro h471
              exfalso
              omega
          · intro h472
            exfalso
            omega
  exact wp_fg (le_s (le_s (le_s (le_s (le_s (le_s (le_s le_0))))))) (c12_473 _ M1 0 v40 v19 v22 v25 v28 v31 rfl hP2 hF4 e20 e23 e26 e29 e32 ((hQ3.at g_739_30 rfl).trans ex739_30) ((hQ3.at g_739_38 rfl).trans ex739_38) (by first | assumption | omega) (by first | assumption | omega) (by first | assumption | omega) (by first | assumption | omega) (by first | assumption | omega) (by first | assumption | omega) (by first | assumption | omega) (by first | assumption | omega) (by first | assumption | omega) (by first | assumption | omega) (by first | assumption | omega) (by first | assumption | omega) (by first | assumption | omega) (by first | assumption | omega) pr14 (MRP_sm (Sm.fr hQ3 rfl) pp_MR) (by first | assumption | omega) (by first | assumption | omega) (by first | assumption | omega) (by first | assumption | omega) (by first | assumption | omega) (by first | assumption | omega) (by first | assumption | omega) (by first | assumption | omega) (by first | assumption | omega) (by first | assumption | omega))
def fm_m9058_739 : Nat := 1583094970071022500760865269132782770560322181744232392148586892467340574720
/-- IslandHallModel.clause -/
theorem m9058_739 {B : eB} (d : Nat) (M0 : Mm) (x739_30 : Int) (x739_31 : Int) (x739_33 : Int) (x739_34 : Int) (x739_32 : Int) (x739_28 : Int) (x739_45 : Int) (x739_46 : Int) (x739_47 : Int) (x739_38 : Int) (x739_36 : Int) (x739_51 : Int) (x739_35 : Int) (x739_44 : Int) (x739_39 : Int) (x739_40 : Int) (hP0 : Pw M0) (ex739_30 : M0 739 30 = x739_30) (lx739_30 : 0 ≤ x739_30) (ux739_30 : x739_30 ≤ 500) (ex739_31 : M0 739 31 = x739_31) (lx739_31 : 0 ≤ x739_31) (ux739_31 : x739_31 ≤ 500) (ex739_33 : M0 739 33 = x739_33) (lx739_33 : 0 ≤ x739_33) (ux739_33 : x739_33 ≤ 500) (ex739_34 : M0 739 34 = x739_34) (lx739_34 : 0 ≤ x739_34) (ux739_34 : x739_34 ≤ 500) (ex739_32 : M0 739 32 = x739_32) (lx739_32 : 0 ≤ x739_32) (ux739_32 : x739_32 ≤ 4) (ex739_28 : M0 739 28 = x739_28) (lx739_28 : 0 ≤ x739_28) (ux739_28 : x739_28 ≤ 6) (ex739_45 : M0 739 45 = x739_45) (lx739_45 : 0 ≤ x739_45) (ux739_45 : x739_45 ≤ 1000) (ex739_46 : M0 739 46 = x739_46) (lx739_46 : 0 ≤ x739_46) (ux739_46 : x739_46 ≤ 520) (ex739_47 : M0 739 47 = x739_47) (lx739_47 : 0 ≤ x739_47) (ux739_47 : x739_47 ≤ 500) (ex739_38 : M0 739 38 = x739_38) (lx739_38 : 0 ≤ x739_38) (ux739_38 : x739_38 ≤ 999) (ex739_36 : M0 739 36 = x739_36) (lx739_36 : 0 ≤ x739_36) (ux739_36 : x739_36 ≤ 255) (ex739_51 : M0 739 51 = x739_51) (lx739_51 : 0 ≤ x739_51) (ux739_51 : x739_51 ≤ 1) (ex739_35 : M0 739 35 = x739_35) (lx739_35 : 0 ≤ x739_35) (ux739_35 : x739_35 ≤ 999) (ex739_44 : M0 739 44 = x739_44) (lx739_44 : 0 ≤ x739_44) (ux739_44 : x739_44 ≤ 500) (ex739_39 : M0 739 39 = x739_39) (lx739_39 : 0 ≤ x739_39) (ux739_39 : x739_39 ≤ 999) (ex739_40 : M0 739 40 = x739_40) (lx739_40 : (-1) ≤ x739_40) (ux739_40 : x739_40 ≤ 999) (rp0 : 0 ≤ x739_30 + (-1) * x739_31) (rp1 : 0 ≤ x739_31 + (-1) * x739_33 + (-1) * x739_34) (rp2 : 0 ≤ (-1) * x739_31 + x739_33 + x739_34) (rp3 : 0 ≤ 4 * x739_34 + (-1) * x739_32) (rp4 : 0 ≤ x739_33 + (-2) * x739_45 + 3000 * x739_28 + 2) (rp5 : 0 ≤ (-1) * x739_38 + 7 + 3000 * x739_28) (rp6 : 0 ≤ (-1) * x739_45 + 260) (rp7 : 0 ≤ (-1) * x739_44 + x739_33 + 3000 * x739_28) (rp8 : 0 ≤ (-1) * x739_39 + 4 + 3000 * x739_28) (rp9 : 0 ≤ x739_39 + (-1) + 3000 * x739_28) (rp10 : 0 ≤ (-1) * x739_40 + 6 + 3000 * x739_28) (pp_TK : TK M0) (pp_FP : FP M0) (pp_MR : MRP M0) (pp_LP : LRP M0) : Ct B (d + 8) 58 [R 739] M0 (qV fun M => Pw M ∧ Fr fm_m9058_739 M0 M ∧ 0 ≤ M 739 30 + (-1) * (M 739 31) ∧ 0 ≤ M 739 31 + (-1) * (M 739 33) + (-1) * (M 739 34) ∧ 0 ≤ (-1) * (M 739 31) + M 739 33 + M 739 34 ∧ 0 ≤ 4 * (M 739 34) + (-1) * (M 739 32) ∧ 0 ≤ M 739 33 + (-1) * x739_33 ∧ 0 ≤ M 739 28 + (-1) * x739_28 ∧ 0 ≤ M 739 33 + (-1) * x739_33 + M 739 28 + (-1) ∧ 0 ≤ M 739 33 + (-2) * (M 739 45) + 3000 * (M 739 28) + 2 ∧ 0 ≤ (-1) * (M 739 45) + 262 ∧ 0 ≤ (-1) * (M 739 44) + M 739 33 + 3000 * (M 739 28) ∧ 0 ≤ (-1) * (M 739 44) + 502 ∧ 0 ≤ (-1) * (M 739 39) + 4 + 3000 * (M 739 28) ∧ 0 ≤ M 739 39 + (-1) + 3000 * (M 739 28) ∧ 0 ≤ (-1) * (M 739 40) + 6 + 3000 * (M 739 28) ∧ (TK M) ∧ (FP M) ∧ (MRP M) ∧ (LRP M)) := by
  refine ct_of (d := d + 7) (k := 1) (L := [some (R 739), none]) rfl rfl rfl ?_
  have hF0 := Fr.rf fm_m9058_739 M0
  generalize hQ : (qV fun M => Pw M ∧ Fr fm_m9058_739 M0 M ∧ 0 ≤ M 739 30 + (-1) * (M 739 31) ∧ 0 ≤ M 739 31 + (-1) * (M 739 33) + (-1) * (M 739 34) ∧ 0 ≤ (-1) * (M 739 31) + M 739 33 + M 739 34 ∧ 0 ≤ 4 * (M 739 34) + (-1) * (M 739 32) ∧ 0 ≤ M 739 33 + (-1) * x739_33 ∧ 0 ≤ M 739 28 + (-1) * x739_28 ∧ 0 ≤ M 739 33 + (-1) * x739_33 + M 739 28 + (-1) ∧ 0 ≤ M 739 33 + (-2) * (M 739 45) + 3000 * (M 739 28) + 2 ∧ 0 ≤ (-1) * (M 739 45) + 262 ∧ 0 ≤ (-1) * (M 739 44) + M 739 33 + 3000 * (M 739 28) ∧ 0 ≤ (-1) * (M 739 44) + 502 ∧ 0 ≤ (-1) * (M 739 39) + 4 + 3000 * (M 739 28) ∧ 0 ≤ M 739 39 + (-1) + 3000 * (M 739 28) ∧ 0 ≤ (-1) * (M 739 40) + 6 + 3000 * (M 739 28) ∧ (TK M) ∧ (FP M) ∧ (MRP M) ∧ (LRP M)) = Q
  refine wk_al0 r58_0 (wk_cv1 r58_1 kc_739_97 rfl (m9097_739 _ M0 x739_32 x739_34 hP0 ex739_32 (by first | assumption | omega) (by first | assumption | omega) ex739_34 (by first | assumption | omega) (by first | assumption | omega) pp_TK) (cqI ?_))
  rintro v6 M1 ⟨hP2, hQ3, h7, h8, h5⟩
  obtain rfl := Fr.same hQ3
  have e9 := ex739_34
  refine wk_is1 r58_4 rfl (wk_il1 r58_5 (wk_c2 r58_6 ?_))
  have c17_459 : Wp B (d + 7) 58 17 [some (R 739), some (I v6)] [] M0 Q := by
    refine wk_al0 r58_17 (wk_c1 r58_18 (wk_cv2 r58_19 kc_739_137 rfl (m9137_739 _ M0 1 x739_28 x739_33 hP0 (by decide) (by decide) ex739_28 (by first | assumption | omega) (by first | assumption | omega) ex739_33 (by first | assumption | omega) (by first | assumption | omega)) (cqV ?_)))
    rintro M436 ⟨hP437, hQ438, h440, h441⟩
    have hF439 : Fr fm_m9058_739 M0 M436 := hF0.tr hQ438 rfl
    obtain ⟨v442, e443⟩ : ∃ v, M436 739 28 = v := ⟨_, rfl⟩
    have h444 := bf_739_28 hP437; rw [e443] at h444
    have pr445 : FP M436 := FP_mn (Sm.fr hQ438 rfl) (fun q => by have := ex739_28; have := e443; omega) pp_FP
    have pr446 : LRP M436 := LRP_mn (Sm.fr hQ438 rfl) (fun q => by have := ex739_28; have := e443; omega) pp_LP
    refine wk_al0 r58_22 (wk_cv1 r58_23 kc_739_84 rfl (m9084_739 _ M436 v442 hP437 e443 (by first | assumption | omega) (by first | assumption | omega)) (cqI ?_))
    rintro v453 M447 ⟨hP448, hQ449, h454, h455, h451, h452⟩
    obtain rfl := Fr.same hQ449
    have e456 := e443
    refine wk_ifne r58_26 ⟨by omega, by omega⟩ ?_ ?_
    · intro h457
      exfalso
      omega
    · intro h458
      subst hQ; exact wk_ret r58_29 (⟨rfl, hP437, hF439, by have := ((hQ438.at g_739_30 rfl).trans ex739_30); have := ((hQ438.at g_739_31 rfl).trans ex739_31); omega, by have := ((hQ438.at g_739_31 rfl).trans ex739_31); have := ((hQ438.at g_739_33 rfl).trans ex739_33); have := ((hQ438.at g_739_34 rfl).trans ex739_34); omega, by have := ((hQ438.at g_739_31 rfl).trans ex739_31); have := ((hQ438.at g_739_33 rfl).trans ex739_33); have := ((hQ438.at g_739_34 rfl).trans ex739_34); omega, by have := ((hQ438.at g_739_34 rfl).trans ex739_34); have := ((hQ438.at g_739_32 rfl).trans ex739_32); omega, by have := ((hQ438.at g_739_33 rfl).trans ex739_33); omega, by have := e443; omega, by have := ((hQ438.at g_739_33 rfl).trans ex739_33); have := e443; omega, by have := ((hQ438.at g_739_33 rfl).trans ex739_33); have := ((hQ438.at g_739_45 rfl).trans ex739_45); have := e443; omega, by have := ((hQ438.at g_739_45 rfl).trans ex739_45); omega, by have := ((hQ438.at g_739_44 rfl).trans ex739_44); have := ((hQ438.at g_739_33 rfl).trans ex739_33); have := e443; omega, by have := ((hQ438.at g_739_44 rfl).trans ex739_44); omega, by have := ((hQ438.at g_739_39 rfl).trans ex739_39); have := e443; omega, by have := ((hQ438.at g_739_39 rfl).trans ex739_39); have := e443; omega, by have := ((hQ438.at g_739_40 rfl).trans ex739_40); have := e443; omega, (TK_sm (Sm.fr hQ438 rfl) pp_TK), pr445, (MRP_sm (Sm.fr hQ438 rfl) pp_MR), pr446⟩)
  refine wk_iclt r58_8 ⟨by omega, by omega⟩ (by decide) ?_ ?_
  · intro h10
    exact wp_fg (le_s (le_s le_0)) c17_459
  · intro h11
    refine wk_il1 r58_11 (wk_c2 r58_12 ?_)
    refine wk_icle r58_14 ⟨by omega, by omega⟩ (by decide) ?_ ?_
    · intro h12
      refine wk_al0 r58_22 (wk_cv1 r58_23 kc_739_84 rfl (m9084_739 _ M0 x739_28 hP0 ex739_28 (by first | assumption | omega) (by first | assumption | omega)) (cqI ?_))
      rintro v19 M13 ⟨hP14, hQ15, h20, h21, h17, h18⟩
      obtain rfl := Fr.same hQ15
      have e22 := ex739_28
      refine wk_ifne r58_26 ⟨by omega, by omega⟩ ?_ ?_
      · intro h23
        refine wk_al0 r58_30 (wk_cv1 r58_31 kc_739_76 rfl (m9076_739 _ M0 x739_30 x739_31 hP0 ex739_30 (by first | assumption | omega) (by first | assumption | omega) ex739_31 (by first | assumption | omega) (by first | assumption | omega) (by omega)) (cqV ?_))
        rintro M24 ⟨hP25, hQ26, h28, h29, h30, h31, h32, pr33⟩
        have hF27 : Fr fm_m9058_739 M0 M24 := hF0.tr hQ26 rfl
        have e34 := ((hQ26.at g_739_30 rfl).trans ex739_30)
        obtain ⟨v35, e36⟩ : ∃ v, M24 739 31 = v := ⟨_, rfl⟩
        have h37 := bf_739_31 hP25; rw [e36] at h37
        obtain ⟨v38, e39⟩ : ∃ v, M24 739 33 = v := ⟨_, rfl⟩
        have h40 := bf_739_33 hP25; rw [e39] at h40
        obtain ⟨v41, e42⟩ : ∃ v, M24 739 34 = v := ⟨_, rfl⟩
        have h43 := bf_739_34 hP25; rw [e42] at h43
        obtain ⟨v44, e45⟩ : ∃ v, M24 739 32 = v := ⟨_, rfl⟩
        have h46 := bf_739_32 hP25; rw [e45] at h46
        refine wk_il1 r58_34 ?_
        refine wk_sw4 r58_35 ⟨by omega, by omega⟩ ?_ ?_ ?_ ?_ ?_ ?_
        · intro h47
          have dF : FP M24 := (FP_sm (Sm.fr hQ26 rfl) pp_FP)
          have dT : M24 739 45 = x739_45 := ((hQ26.at g_739_45 rfl).trans ex739_45)
          have dK : M24 739 28 = x739_28 := ((hQ26.at g_739_28 rfl).trans ex739_28)
          have dN : M24 739 44 = x739_44 := ((hQ26.at g_739_44 rfl).trans ex739_44)
          refine wk_al0 r58_117 ?_
          obtain ⟨v48, e49⟩ : ∃ v, M24 739 36 = v := ⟨_, rfl⟩
          have h50 := bf_739_36 hP25; rw [e49] at h50
          obtain ⟨v51, e52⟩ : ∃ v, M24 739 35 = v := ⟨_, rfl⟩
          have h53 := bf_739_35 hP25; rw [e52] at h53
          refine wk_cv1 r58_118 kc_739_68 rfl (m9068_739 _ M24 x739_30 v35 v38 v41 v44 x739_28 x739_45 x739_46 x739_47 x739_38 v48 x739_51 v51 hP25 ((hQ26.at g_739_30 rfl).trans ex739_30) (by first | assumption | omega) (by first | assumption | omega) e36 (by first | assumption | omega) (by first | assumption | omega) e39 (by first | assumption | omega) (by first | assumption | omega) e42 (by first | assumption | omega) (by first | assumption | omega) e45 (by first | assumption | omega) (by first | assumption | omega) ((hQ26.at g_739_28 rfl).trans ex739_28) (by first | assumption | omega) (by first | assumption | omega) ((hQ26.at g_739_45 rfl).trans ex739_45) (by first | assumption | omega) (by first | assumption | omega) ((hQ26.at g_739_46 rfl).trans ex739_46) (by first | assumption | omega) (by first | assumption | omega) ((hQ26.at g_739_47 rfl).trans ex739_47) (by first | assumption | omega) (by first | assumption | omega) ((hQ26.at g_739_38 rfl).trans ex739_38) (by first | assumption | omega) (by first | assumption | omega) e49 (by first | assumption | omega) (by first | assumption | omega) ((hQ26.at g_739_51 rfl).trans ex739_51) (by first | assumption | omega) (by first | assumption | omega) e52 (by first | assumption | omega) (by first | assumption | omega) (by omega) (by omega) (by omega) (by omega) (by omega) (by omega) (by omega) pr33) (cqV ?_)
          rintro M54 ⟨hP55, hQ56, h58, h59, h60, h61, h62, h63, h64, h65, xh66, pr67⟩
          have hF57 : Fr fm_m9058_739 M0 M54 := hF27.tr hQ56 rfl
          have e68 := ((hQ56.at g_739_30 rfl).trans ((hQ26.at g_739_30 rfl).trans ex739_30))
          obtain ⟨v69, e70⟩ : ∃ v, M54 739 31 = v := ⟨_, rfl⟩
          have h71 := bf_739_31 hP55; rw [e70] at h71
          obtain ⟨v72, e73⟩ : ∃ v, M54 739 33 = v := ⟨_, rfl⟩
          have h74 := bf_739_33 hP55; rw [e73] at h74
          obtain ⟨v75, e76⟩ : ∃ v, M54 739 34 = v := ⟨_, rfl⟩
          have h77 := bf_739_34 hP55; rw [e76] at h77
          obtain ⟨v78, e79⟩ : ∃ v, M54 739 32 = v := ⟨_, rfl⟩
          have h80 := bf_739_32 hP55; rw [e79] at h80
          obtain ⟨v81, e82⟩ : ∃ v, M54 739 28 = v := ⟨_, rfl⟩
          have h83 := bf_739_28 hP55; rw [e82] at h83
          obtain ⟨v84, e85⟩ : ∃ v, M54 739 45 = v := ⟨_, rfl⟩
          have h86 := bf_739_45 hP55; rw [e85] at h86
          have pr87 : LRP M54 := LRP_mn (Sm.fr hQ56 rfl) (fun q => by have := ((hQ26.at g_739_28 rfl).trans ex739_28); have := e82; omega) (LRP_sm (Sm.fr hQ26 rfl) pp_LP)
          have dS := xh66
          refine wk_al0 r58_121 (wk_dupr r58_122 (wk_getfi r58_123 fd_739_44 ((hQ56.at g_739_44 rfl).trans ((hQ26.at g_739_44 rfl).trans ex739_44)) (wk_c1 r58_126 (wk_iadd r58_127 (wk_putfi81 r58_128 fd_739_44 (wk_nw g_739_44 rfl hP55 hF57 (uf_739_44 ⟨by omega, by omega⟩) ?_))))))
          intro M88 hP89 hF90 e91
          have pr92 : FP M88 := FP_step dF dT (dK.trans (by omega)) dS (hQ56.at g_739_44 rfl) e91 (by rw [hQ56.at g_739_44 rfl, dN])
          refine wk_al0 r58_131 (wk_cv1 r58_132 kc_739_65 rfl (m9065_739 _ M88 x739_30 v69 v72 v75 v78 v81 hP89 (mUp_no e91 ((hQ56.at g_739_30 rfl).trans ((hQ26.at g_739_30 rfl).trans ex739_30)) (Or.inr (by decide))) (by first | assumption | omega) (by first | assumption | omega) (mUp_no e91 e70 (Or.inr (by decide))) (by first | assumption | omega) (by first | assumption | omega) (mUp_no e91 e73 (Or.inr (by decide))) (by first | assumption | omega) (by first | assumption | omega) (mUp_no e91 e76 (Or.inr (by decide))) (by first | assumption | omega) (by first | assumption | omega) (mUp_no e91 e79 (Or.inr (by decide))) (by first | assumption | omega) (by first | assumption | omega) (mUp_no e91 e82 (Or.inr (by decide))) (by first | assumption | omega) (by first | assumption | omega) (by omega) (by omega) (by omega) (by omega) (TK_sm (Sm.up e91 g_739_44 rfl) pr67)) (cqV ?_))
          rintro M93 ⟨hP94, hQ95, h97, h98, h99, h100, h101, h102, h103, pr104⟩
          have hF96 : Fr fm_m9058_739 M0 M93 := hF90.tr hQ95 rfl
          have e105 := ((hQ95.at g_739_30 rfl).trans (mUp_no e91 ((hQ56.at g_739_30 rfl).trans ((hQ26.at g_739_30 rfl).trans ex739_30)) (Or.inr (by decide))))
          obtain ⟨v106, e107⟩ : ∃ v, M93 739 31 = v := ⟨_, rfl⟩
          have h108 := bf_739_31 hP94; rw [e107] at h108
          obtain ⟨v109, e110⟩ : ∃ v, M93 739 33 = v := ⟨_, rfl⟩
          have h111 := bf_739_33 hP94; rw [e110] at h111
          obtain ⟨v112, e113⟩ : ∃ v, M93 739 34 = v := ⟨_, rfl⟩
          have h114 := bf_739_34 hP94; rw [e113] at h114
          obtain ⟨v115, e116⟩ : ∃ v, M93 739 32 = v := ⟨_, rfl⟩
          have h117 := bf_739_32 hP94; rw [e116] at h117
          obtain ⟨v118, e119⟩ : ∃ v, M93 739 28 = v := ⟨_, rfl⟩
          have h120 := bf_739_28 hP94; rw [e119] at h120
          have pr121 : LRP M93 := LRP_mn (Sm.fr hQ95 rfl) (fun q => by have := (mUp_no e91 e82 (Or.inr (by decide))); have := e119; omega) (LRP_sm (Sm.up e91 g_739_44 rfl) pr87)
          have pr122 : FP M93 := FP_mn (Sm.fr hQ95 rfl) (fun q => by have := (mUp_no e91 e82 (Or.inr (by decide))); have := e119; omega) pr92
          subst hQ; exact wk_ret r58_135 (⟨rfl, hP94, hF96, by have := ((hQ95.at g_739_30 rfl).trans (mUp_no e91 ((hQ56.at g_739_30 rfl).trans ((hQ26.at g_739_30 rfl).trans ex739_30)) (Or.inr (by decide)))); have := e107; omega, by have := e107; have := e110; have := e113; omega, by have := e107; have := e110; have := e113; omega, by have := e113; have := e116; omega, by have := e110; omega, by have := e119; omega, by have := e110; have := e119; omega, by have := e110; have := ((hQ95.at g_739_45 rfl).trans (mUp_no e91 e85 (Or.inr (by decide)))); have := e119; omega, by have := ((hQ95.at g_739_45 rfl).trans (mUp_no e91 e85 (Or.inr (by decide)))); omega, by have := ((hQ95.at g_739_44 rfl).trans (mUp_at e91)); have := e110; have := e119; omega, by have := ((hQ95.at g_739_44 rfl).trans (mUp_at e91)); omega, by have := ((hQ95.at g_739_39 rfl).trans (mUp_no e91 ((hQ56.at g_739_39 rfl).trans ((hQ26.at g_739_39 rfl).trans ex739_39)) (Or.inr (by decide)))); have := e119; omega, by have := ((hQ95.at g_739_39 rfl).trans (mUp_no e91 ((hQ56.at g_739_39 rfl).trans ((hQ26.at g_739_39 rfl).trans ex739_39)) (Or.inr (by decide)))); have := e119; omega, by have := ((hQ95.at g_739_40 rfl).trans (mUp_no e91 ((hQ56.at g_739_40 rfl).trans ((hQ26.at g_739_40 rfl).trans ex739_40)) (Or.inr (by decide)))); have := e119; omega, pr104, pr122, (MRP_sm (Sm.fr hQ95 rfl) (MRP_sm (Sm.up e91 g_739_44 rfl) (MRP_sm (Sm.fr hQ56 rfl) (MRP_sm (Sm.fr hQ26 rfl) pp_MR)))), pr121⟩)
        · intro h123
          refine wk_al0 r58_68 ?_
          obtain ⟨v124, e125⟩ : ∃ v, M24 739 35 = v := ⟨_, rfl⟩
          have h126 := bf_739_35 hP25; rw [e125] at h126
          obtain ⟨v127, e128⟩ : ∃ v, M24 739 36 = v := ⟨_, rfl⟩
          have h129 := bf_739_36 hP25; rw [e128] at h129
          refine wk_cv1 r58_69 kc_739_120 rfl (m9120_739 _ M24 x739_30 v35 v38 v41 v44 x739_28 v124 x739_38 v127 hP25 ((hQ26.at g_739_30 rfl).trans ex739_30) (by first | assumption | omega) (by first | assumption | omega) e36 (by first | assumption | omega) (by first | assumption | omega) e39 (by first | assumption | omega) (by first | assumption | omega) e42 (by first | assumption | omega) (by first | assumption | omega) e45 (by first | assumption | omega) (by first | assumption | omega) ((hQ26.at g_739_28 rfl).trans ex739_28) (by first | assumption | omega) (by first | assumption | omega) e125 (by first | assumption | omega) (by first | assumption | omega) ((hQ26.at g_739_38 rfl).trans ex739_38) (by first | assumption | omega) (by first | assumption | omega) e128 (by first | assumption | omega) (by first | assumption | omega) (by omega) (by omega) (by omega) (by omega) (by omega) pr33 (MRP_sm (Sm.fr hQ26 rfl) pp_MR)) (cqV ?_)
          rintro M130 ⟨hP131, hQ132, h134, h135, h136, h137, h138, h139, pr140, pr141⟩
          have hF133 : Fr fm_m9058_739 M0 M130 := hF27.tr hQ132 rfl
          have e142 := ((hQ132.at g_739_30 rfl).trans ((hQ26.at g_739_30 rfl).trans ex739_30))
          obtain ⟨v143, e144⟩ : ∃ v, M130 739 31 = v := ⟨_, rfl⟩
          have h145 := bf_739_31 hP131; rw [e144] at h145
          obtain ⟨v146, e147⟩ : ∃ v, M130 739 33 = v := ⟨_, rfl⟩
          have h148 := bf_739_33 hP131; rw [e147] at h148
          obtain ⟨v149, e150⟩ : ∃ v, M130 739 34 = v := ⟨_, rfl⟩
          have h151 := bf_739_34 hP131; rw [e150] at h151
          obtain ⟨v152, e153⟩ : ∃ v, M130 739 32 = v := ⟨_, rfl⟩
          have h154 := bf_739_32 hP131; rw [e153] at h154
          obtain ⟨v155, e156⟩ : ∃ v, M130 739 28 = v := ⟨_, rfl⟩
          have h157 := bf_739_28 hP131; rw [e156] at h157
          have pr158 : FP M130 := FP_mn (Sm.fr hQ132 rfl) (fun q => by have := ((hQ26.at g_739_28 rfl).trans ex739_28); have := e156; omega) (FP_sm (Sm.fr hQ26 rfl) pp_FP)
          have pr159 : LRP M130 := LRP_mn (Sm.fr hQ132 rfl) (fun q => by have := ((hQ26.at g_739_28 rfl).trans ex739_28); have := e156; omega) (LRP_sm (Sm.fr hQ26 rfl) pp_LP)
          refine wk_goto r58_72 ?_
          refine wk_al0 r58_131 (wk_cv1 r58_132 kc_739_65 rfl (m9065_739 _ M130 x739_30 v143 v146 v149 v152 v155 hP131 ((hQ132.at g_739_30 rfl).trans ((hQ26.at g_739_30 rfl).trans ex739_30)) (by first | assumption | omega) (by first | assumption | omega) e144 (by first | assumption | omega) (by first | assumption | omega) e147 (by first | assumption | omega) (by first | assumption | omega) e150 (by first | assumption | omega) (by first | assumption | omega) e153 (by first | assumption | omega) (by first | assumption | omega) e156 (by first | assumption | omega) (by first | assumption | omega) (by omega) (by omega) (by omega) (by omega) pr140) (cqV ?_))
          rintro M160 ⟨hP161, hQ162, h164, h165, h166, h167, h168, h169, h170, pr171⟩
          have hF163 : Fr fm_m9058_739 M0 M160 := hF133.tr hQ162 rfl
          have e172 := ((hQ162.at g_739_30 rfl).trans ((hQ132.at g_739_30 rfl).trans ((hQ26.at g_739_30 rfl).trans ex739_30)))
          obtain ⟨v173, e174⟩ : ∃ v, M160 739 31 = v := ⟨_, rfl⟩
          have h175 := bf_739_31 hP161; rw [e174] at h175
          obtain ⟨v176, e177⟩ : ∃ v, M160 739 33 = v := ⟨_, rfl⟩
          have h178 := bf_739_33 hP161; rw [e177] at h178
          obtain ⟨v179, e180⟩ : ∃ v, M160 739 34 = v := ⟨_, rfl⟩
          have h181 := bf_739_34 hP161; rw [e180] at h181
          obtain ⟨v182, e183⟩ : ∃ v, M160 739 32 = v := ⟨_, rfl⟩
          have h184 := bf_739_32 hP161; rw [e183] at h184
          obtain ⟨v185, e186⟩ : ∃ v, M160 739 28 = v := ⟨_, rfl⟩
          have h187 := bf_739_28 hP161; rw [e186] at h187
          have pr188 : FP M160 := FP_mn (Sm.fr hQ162 rfl) (fun q => by have := e156; have := e186; omega) pr158
          have pr189 : LRP M160 := LRP_mn (Sm.fr hQ162 rfl) (fun q => by have := e156; have := e186; omega) pr159
          subst hQ; exact wk_ret r58_135 (⟨rfl, hP161, hF163, by have := ((hQ162.at g_739_30 rfl).trans ((hQ132.at g_739_30 rfl).trans ((hQ26.at g_739_30 rfl).trans ex739_30))); have := e174; omega, by have := e174; have := e177; have := e180; omega, by have := e174; have := e177; have := e180; omega, by have := e180; have := e183; omega, by have := e177; omega, by have := e186; omega, by have := e177; have := e186; omega, by have := e177; have := ((hQ162.at g_739_45 rfl).trans ((hQ132.at g_739_45 rfl).trans ((hQ26.at g_739_45 rfl).trans ex739_45))); have := e186; omega, by have := ((hQ162.at g_739_45 rfl).trans ((hQ132.at g_739_45 rfl).trans ((hQ26.at g_739_45 rfl).trans ex739_45))); omega, by have := ((hQ162.at g_739_44 rfl).trans ((hQ132.at g_739_44 rfl).trans ((hQ26.at g_739_44 rfl).trans ex739_44))); have := e177; have := e186; omega, by have := ((hQ162.at g_739_44 rfl).trans ((hQ132.at g_739_44 rfl).trans ((hQ26.at g_739_44 rfl).trans ex739_44))); omega, by have := ((hQ162.at g_739_39 rfl).trans ((hQ132.at g_739_39 rfl).trans ((hQ26.at g_739_39 rfl).trans ex739_39))); have := e186; omega, by have := ((hQ162.at g_739_39 rfl).trans ((hQ132.at g_739_39 rfl).trans ((hQ26.at g_739_39 rfl).trans ex739_39))); have := e186; omega, by have := ((hQ162.at g_739_40 rfl).trans ((hQ132.at g_739_40 rfl).trans ((hQ26.at g_739_40 rfl).trans ex739_40))); have := e186; omega, pr171, pr188, (MRP_sm (Sm.fr hQ162 rfl) pr141), pr189⟩)
        · intro h190
          refine wk_al0 r58_75 (wk_al0 r58_76 (wk_c1 r58_77 (wk_c1 r58_78 ?_)))
          obtain ⟨v191, e192⟩ : ∃ v, M24 739 35 = v := ⟨_, rfl⟩
          have h193 := bf_739_35 hP25; rw [e192] at h193
          refine wk_cv3 r58_79 kc_739_114 rfl (m9114_739 _ M24 1 4 x739_30 v35 v38 v41 v44 x739_28 v191 hP25 (by decide) (by decide) (by decide) (by decide) ((hQ26.at g_739_30 rfl).trans ex739_30) (by first | assumption | omega) (by first | assumption | omega) e36 (by first | assumption | omega) (by first | assumption | omega) e39 (by first | assumption | omega) (by first | assumption | omega) e42 (by first | assumption | omega) (by first | assumption | omega) e45 (by first | assumption | omega) (by first | assumption | omega) ((hQ26.at g_739_28 rfl).trans ex739_28) (by first | assumption | omega) (by first | assumption | omega) e192 (by first | assumption | omega) (by first | assumption | omega) (by omega) (by omega) (by omega) (by omega) pr33) (cqI ?_)
          rintro v208 M194 ⟨hP195, hQ196, h209, h210, h198, h199, h200, h201, h202, h203, h204, h205, h206, pr207⟩
          have hF197 : Fr fm_m9058_739 M0 M194 := hF27.tr hQ196 rfl
          have e211 := ((hQ196.at g_739_30 rfl).trans ((hQ26.at g_739_30 rfl).trans ex739_30))
          obtain ⟨v212, e213⟩ : ∃ v, M194 739 31 = v := ⟨_, rfl⟩
          have h214 := bf_739_31 hP195; rw [e213] at h214
          obtain ⟨v215, e216⟩ : ∃ v, M194 739 33 = v := ⟨_, rfl⟩
          have h217 := bf_739_33 hP195; rw [e216] at h217
          obtain ⟨v218, e219⟩ : ∃ v, M194 739 34 = v := ⟨_, rfl⟩
          have h220 := bf_739_34 hP195; rw [e219] at h220
          obtain ⟨v221, e222⟩ : ∃ v, M194 739 32 = v := ⟨_, rfl⟩
          have h223 := bf_739_32 hP195; rw [e222] at h223
          obtain ⟨v224, e225⟩ : ∃ v, M194 739 28 = v := ⟨_, rfl⟩
          have h226 := bf_739_28 hP195; rw [e225] at h226
          have pr227 : FP M194 := FP_mn (Sm.fr hQ196 rfl) (fun q => by have := ((hQ26.at g_739_28 rfl).trans ex739_28); have := e225; omega) (FP_sm (Sm.fr hQ26 rfl) pp_FP)
          have pr228 : LRP M194 := LRP_mn (Sm.fr hQ196 rfl) (fun q => by have := ((hQ26.at g_739_28 rfl).trans ex739_28); have := e225; omega) (LRP_sm (Sm.fr hQ26 rfl) pp_LP)
          refine wk_putfi81 r58_82 fd_739_39 (wk_nw g_739_39 rfl hP195 hF197 (uf_739_39 ⟨by omega, by omega⟩) ?_)
          intro M229 hP230 hF231 e232
          refine wk_goto r58_85 ?_
          refine wk_al0 r58_131 (wk_cv1 r58_132 kc_739_65 rfl (m9065_739 _ M229 x739_30 v212 v215 v218 v221 v224 hP230 (mUp_no e232 ((hQ196.at g_739_30 rfl).trans ((hQ26.at g_739_30 rfl).trans ex739_30)) (Or.inr (by decide))) (by first | assumption | omega) (by first | assumption | omega) (mUp_no e232 e213 (Or.inr (by decide))) (by first | assumption | omega) (by first | assumption | omega) (mUp_no e232 e216 (Or.inr (by decide))) (by first | assumption | omega) (by first | assumption | omega) (mUp_no e232 e219 (Or.inr (by decide))) (by first | assumption | omega) (by first | assumption | omega) (mUp_no e232 e222 (Or.inr (by decide))) (by first | assumption | omega) (by first | assumption | omega) (mUp_no e232 e225 (Or.inr (by decide))) (by first | assumption | omega) (by first | assumption | omega) (by omega) (by omega) (by omega) (by omega) (TK_sm (Sm.up e232 g_739_39 rfl) pr207)) (cqV ?_))
          rintro M233 ⟨hP234, hQ235, h237, h238, h239, h240, h241, h242, h243, pr244⟩
          have hF236 : Fr fm_m9058_739 M0 M233 := hF231.tr hQ235 rfl
          have e245 := ((hQ235.at g_739_30 rfl).trans (mUp_no e232 ((hQ196.at g_739_30 rfl).trans ((hQ26.at g_739_30 rfl).trans ex739_30)) (Or.inr (by decide))))
          obtain ⟨v246, e247⟩ : ∃ v, M233 739 31 = v := ⟨_, rfl⟩
          have h248 := bf_739_31 hP234; rw [e247] at h248
          obtain ⟨v249, e250⟩ : ∃ v, M233 739 33 = v := ⟨_, rfl⟩
          have h251 := bf_739_33 hP234; rw [e250] at h251
          obtain ⟨v252, e253⟩ : ∃ v, M233 739 34 = v := ⟨_, rfl⟩
          have h254 := bf_739_34 hP234; rw [e253] at h254
          obtain ⟨v255, e256⟩ : ∃ v, M233 739 32 = v := ⟨_, rfl⟩
          have h257 := bf_739_32 hP234; rw [e256] at h257
          obtain ⟨v258, e259⟩ : ∃ v, M233 739 28 = v := ⟨_, rfl⟩
          have h260 := bf_739_28 hP234; rw [e259] at h260
          have pr261 : FP M233 := FP_mn (Sm.fr hQ235 rfl) (fun q => by have := (mUp_no e232 e225 (Or.inr (by decide))); have := e259; omega) (FP_sm (Sm.up e232 g_739_39 rfl) pr227)
          have pr262 : LRP M233 := LRP_mn (Sm.fr hQ235 rfl) (fun q => by have := (mUp_no e232 e225 (Or.inr (by decide))); have := e259; omega) (LRP_sm (Sm.up e232 g_739_39 rfl) pr228)
          subst hQ; exact wk_ret r58_135 (⟨rfl, hP234, hF236, by have := ((hQ235.at g_739_30 rfl).trans (mUp_no e232 ((hQ196.at g_739_30 rfl).trans ((hQ26.at g_739_30 rfl).trans ex739_30)) (Or.inr (by decide)))); have := e247; omega, by have := e247; have := e250; have := e253; omega, by have := e247; have := e250; have := e253; omega, by have := e253; have := e256; omega, by have := e250; omega, by have := e259; omega, by have := e250; have := e259; omega, by have := e250; have := ((hQ235.at g_739_45 rfl).trans (mUp_no e232 ((hQ196.at g_739_45 rfl).trans ((hQ26.at g_739_45 rfl).trans ex739_45)) (Or.inr (by decide)))); have := e259; omega, by have := ((hQ235.at g_739_45 rfl).trans (mUp_no e232 ((hQ196.at g_739_45 rfl).trans ((hQ26.at g_739_45 rfl).trans ex739_45)) (Or.inr (by decide)))); omega, by have := ((hQ235.at g_739_44 rfl).trans (mUp_no e232 ((hQ196.at g_739_44 rfl).trans ((hQ26.at g_739_44 rfl).trans ex739_44)) (Or.inr (by decide)))); have := e250; have := e259; omega, by have := ((hQ235.at g_739_44 rfl).trans (mUp_no e232 ((hQ196.at g_739_44 rfl).trans ((hQ26.at g_739_44 rfl).trans ex739_44)) (Or.inr (by decide)))); omega, by have := ((hQ235.at g_739_39 rfl).trans (mUp_at e232)); have := e259; omega, by have := ((hQ235.at g_739_39 rfl).trans (mUp_at e232)); have := e259; omega, by have := ((hQ235.at g_739_40 rfl).trans (mUp_no e232 ((hQ196.at g_739_40 rfl).trans ((hQ26.at g_739_40 rfl).trans ex739_40)) (Or.inr (by decide)))); have := e259; omega, pr244, pr261, (MRP_sm (Sm.fr hQ235 rfl) (MRP_sm (Sm.up e232 g_739_39 rfl) (MRP_sm (Sm.fr hQ196 rfl) (MRP_sm (Sm.fr hQ26 rfl) pp_MR)))), pr262⟩)
        · intro h263
          refine wk_al0 r58_88 (wk_al0 r58_89 (wk_c1 r58_90 (wk_c2 r58_91 ?_)))
          obtain ⟨v264, e265⟩ : ∃ v, M24 739 35 = v := ⟨_, rfl⟩
          have h266 := bf_739_35 hP25; rw [e265] at h266
          refine wk_cv3 r58_93 kc_739_114 rfl (m9114_739 _ M24 0 6 x739_30 v35 v38 v41 v44 x739_28 v264 hP25 (by decide) (by decide) (by decide) (by decide) ((hQ26.at g_739_30 rfl).trans ex739_30) (by first | assumption | omega) (by first | assumption | omega) e36 (by first | assumption | omega) (by first | assumption | omega) e39 (by first | assumption | omega) (by first | assumption | omega) e42 (by first | assumption | omega) (by first | assumption | omega) e45 (by first | assumption | omega) (by first | assumption | omega) ((hQ26.at g_739_28 rfl).trans ex739_28) (by first | assumption | omega) (by first | assumption | omega) e265 (by first | assumption | omega) (by first | assumption | omega) (by omega) (by omega) (by omega) (by omega) pr33) (cqI ?_)
          rintro v281 M267 ⟨hP268, hQ269, h282, h283, h271, h272, h273, h274, h275, h276, h277, h278, h279, pr280⟩
          have hF270 : Fr fm_m9058_739 M0 M267 := hF27.tr hQ269 rfl
          have e284 := ((hQ269.at g_739_30 rfl).trans ((hQ26.at g_739_30 rfl).trans ex739_30))
          obtain ⟨v285, e286⟩ : ∃ v, M267 739 31 = v := ⟨_, rfl⟩
          have h287 := bf_739_31 hP268; rw [e286] at h287
          obtain ⟨v288, e289⟩ : ∃ v, M267 739 33 = v := ⟨_, rfl⟩
          have h290 := bf_739_33 hP268; rw [e289] at h290
          obtain ⟨v291, e292⟩ : ∃ v, M267 739 34 = v := ⟨_, rfl⟩
          have h293 := bf_739_34 hP268; rw [e292] at h293
          obtain ⟨v294, e295⟩ : ∃ v, M267 739 32 = v := ⟨_, rfl⟩
          have h296 := bf_739_32 hP268; rw [e295] at h296
          obtain ⟨v297, e298⟩ : ∃ v, M267 739 28 = v := ⟨_, rfl⟩
          have h299 := bf_739_28 hP268; rw [e298] at h299
          have pr300 : FP M267 := FP_mn (Sm.fr hQ269 rfl) (fun q => by have := ((hQ26.at g_739_28 rfl).trans ex739_28); have := e298; omega) (FP_sm (Sm.fr hQ26 rfl) pp_FP)
          have pr301 : LRP M267 := LRP_mn (Sm.fr hQ269 rfl) (fun q => by have := ((hQ26.at g_739_28 rfl).trans ex739_28); have := e298; omega) (LRP_sm (Sm.fr hQ26 rfl) pp_LP)
          refine wk_putfi81 r58_96 fd_739_40 (wk_nw g_739_40 rfl hP268 hF270 (uf_739_40 ⟨by omega, by omega⟩) ?_)
          intro M302 hP303 hF304 e305
          refine wk_goto r58_99 ?_
          refine wk_al0 r58_131 (wk_cv1 r58_132 kc_739_65 rfl (m9065_739 _ M302 x739_30 v285 v288 v291 v294 v297 hP303 (mUp_no e305 ((hQ269.at g_739_30 rfl).trans ((hQ26.at g_739_30 rfl).trans ex739_30)) (Or.inr (by decide))) (by first | assumption | omega) (by first | assumption | omega) (mUp_no e305 e286 (Or.inr (by decide))) (by first | assumption | omega) (by first | assumption | omega) (mUp_no e305 e289 (Or.inr (by decide))) (by first | assumption | omega) (by first | assumption | omega) (mUp_no e305 e292 (Or.inr (by decide))) (by first | assumption | omega) (by first | assumption | omega) (mUp_no e305 e295 (Or.inr (by decide))) (by first | assumption | omega) (by first | assumption | omega) (mUp_no e305 e298 (Or.inr (by decide))) (by first | assumption | omega) (by first | assumption | omega) (by omega) (by omega) (by omega) (by omega) (TK_sm (Sm.up e305 g_739_40 rfl) pr280)) (cqV ?_))
          rintro M306 ⟨hP307, hQ308, h310, h311, h312, h313, h314, h315, h316, pr317⟩
          have hF309 : Fr fm_m9058_739 M0 M306 := hF304.tr hQ308 rfl
          have e318 := ((hQ308.at g_739_30 rfl).trans (mUp_no e305 ((hQ269.at g_739_30 rfl).trans ((hQ26.at g_739_30 rfl).trans ex739_30)) (Or.inr (by decide))))
          obtain ⟨v319, e320⟩ : ∃ v, M306 739 31 = v := ⟨_, rfl⟩
          have h321 := bf_739_31 hP307; rw [e320] at h321
          obtain ⟨v322, e323⟩ : ∃ v, M306 739 33 = v := ⟨_, rfl⟩
          have h324 := bf_739_33 hP307; rw [e323] at h324
          obtain ⟨v325, e326⟩ : ∃ v, M306 739 34 = v := ⟨_, rfl⟩
          have h327 := bf_739_34 hP307; rw [e326] at h327
          obtain ⟨v328, e329⟩ : ∃ v, M306 739 32 = v := ⟨_, rfl⟩
          have h330 := bf_739_32 hP307; rw [e329] at h330
          obtain ⟨v331, e332⟩ : ∃ v, M306 739 28 = v := ⟨_, rfl⟩
          have h333 := bf_739_28 hP307; rw [e332] at h333
          have pr334 : FP M306 := FP_mn (Sm.fr hQ308 rfl) (fun q => by have := (mUp_no e305 e298 (Or.inr (by decide))); have := e332; omega) (FP_sm (Sm.up e305 g_739_40 rfl) pr300)
          have pr335 : LRP M306 := LRP_mn (Sm.fr hQ308 rfl) (fun q => by have := (mUp_no e305 e298 (Or.inr (by decide))); have := e332; omega) (LRP_sm (Sm.up e305 g_739_40 rfl) pr301)
          subst hQ; exact wk_ret r58_135 (⟨rfl, hP307, hF309, by have := ((hQ308.at g_739_30 rfl).trans (mUp_no e305 ((hQ269.at g_739_30 rfl).trans ((hQ26.at g_739_30 rfl).trans ex739_30)) (Or.inr (by decide)))); have := e320; omega, by have := e320; have := e323; have := e326; omega, by have := e320; have := e323; have := e326; omega, by have := e326; have := e329; omega, by have := e323; omega, by have := e332; omega, by have := e323; have := e332; omega, by have := e323; have := ((hQ308.at g_739_45 rfl).trans (mUp_no e305 ((hQ269.at g_739_45 rfl).trans ((hQ26.at g_739_45 rfl).trans ex739_45)) (Or.inr (by decide)))); have := e332; omega, by have := ((hQ308.at g_739_45 rfl).trans (mUp_no e305 ((hQ269.at g_739_45 rfl).trans ((hQ26.at g_739_45 rfl).trans ex739_45)) (Or.inr (by decide)))); omega, by have := ((hQ308.at g_739_44 rfl).trans (mUp_no e305 ((hQ269.at g_739_44 rfl).trans ((hQ26.at g_739_44 rfl).trans ex739_44)) (Or.inr (by decide)))); have := e323; have := e332; omega, by have := ((hQ308.at g_739_44 rfl).trans (mUp_no e305 ((hQ269.at g_739_44 rfl).trans ((hQ26.at g_739_44 rfl).trans ex739_44)) (Or.inr (by decide)))); omega, by have := ((hQ308.at g_739_39 rfl).trans (mUp_no e305 ((hQ269.at g_739_39 rfl).trans ((hQ26.at g_739_39 rfl).trans ex739_39)) (Or.inr (by decide)))); have := e332; omega, by have := ((hQ308.at g_739_39 rfl).trans (mUp_no e305 ((hQ269.at g_739_39 rfl).trans ((hQ26.at g_739_39 rfl).trans ex739_39)) (Or.inr (by decide)))); have := e332; omega, by have := ((hQ308.at g_739_40 rfl).trans (mUp_at e305)); have := e332; omega, pr317, pr334, (MRP_sm (Sm.fr hQ308 rfl) (MRP_sm (Sm.up e305 g_739_40 rfl) (MRP_sm (Sm.fr hQ269 rfl) (MRP_sm (Sm.fr hQ26 rfl) pp_MR)))), pr335⟩)
        · intro h336
          refine wk_al0 r58_102 ?_
          obtain ⟨v337, e338⟩ : ∃ v, M24 739 35 = v := ⟨_, rfl⟩
          have h339 := bf_739_35 hP25; rw [e338] at h339
          refine wk_cv1 r58_103 kc_739_119 rfl (m9119_739 _ M24 x739_30 v35 v38 v41 v44 x739_28 v337 hP25 ((hQ26.at g_739_30 rfl).trans ex739_30) (by first | assumption | omega) (by first | assumption | omega) e36 (by first | assumption | omega) (by first | assumption | omega) e39 (by first | assumption | omega) (by first | assumption | omega) e42 (by first | assumption | omega) (by first | assumption | omega) e45 (by first | assumption | omega) (by first | assumption | omega) ((hQ26.at g_739_28 rfl).trans ex739_28) (by first | assumption | omega) (by first | assumption | omega) e338 (by first | assumption | omega) (by first | assumption | omega) (by omega) (by omega) (by omega) (by omega) pr33) (cqV ?_)
          rintro M340 ⟨hP341, hQ342, h344, h345, h346, h347, h348, h349, pr350, pr351⟩
          have hF343 : Fr fm_m9058_739 M0 M340 := hF27.tr hQ342 rfl
          have e352 := ((hQ342.at g_739_30 rfl).trans ((hQ26.at g_739_30 rfl).trans ex739_30))
          obtain ⟨v353, e354⟩ : ∃ v, M340 739 31 = v := ⟨_, rfl⟩
          have h355 := bf_739_31 hP341; rw [e354] at h355
          obtain ⟨v356, e357⟩ : ∃ v, M340 739 33 = v := ⟨_, rfl⟩
          have h358 := bf_739_33 hP341; rw [e357] at h358
          obtain ⟨v359, e360⟩ : ∃ v, M340 739 34 = v := ⟨_, rfl⟩
          have h361 := bf_739_34 hP341; rw [e360] at h361
          obtain ⟨v362, e363⟩ : ∃ v, M340 739 32 = v := ⟨_, rfl⟩
          have h364 := bf_739_32 hP341; rw [e363] at h364
          obtain ⟨v365, e366⟩ : ∃ v, M340 739 28 = v := ⟨_, rfl⟩
          have h367 := bf_739_28 hP341; rw [e366] at h367
          have pr368 : FP M340 := FP_mn (Sm.fr hQ342 rfl) (fun q => by have := ((hQ26.at g_739_28 rfl).trans ex739_28); have := e366; omega) (FP_sm (Sm.fr hQ26 rfl) pp_FP)
          refine wk_goto r58_106 ?_
          refine wk_al0 r58_131 (wk_cv1 r58_132 kc_739_65 rfl (m9065_739 _ M340 x739_30 v353 v356 v359 v362 v365 hP341 ((hQ342.at g_739_30 rfl).trans ((hQ26.at g_739_30 rfl).trans ex739_30)) (by first | assumption | omega) (by first | assumption | omega) e354 (by first | assumption | omega) (by first | assumption | omega) e357 (by first | assumption | omega) (by first | assumption | omega) e360 (by first | assumption | omega) (by first | assumption | omega) e363 (by first | assumption | omega) (by first | assumption | omega) e366 (by first | assumption | omega) (by first | assumption | omega) (by omega) (by omega) (by omega) (by omega) pr350) (cqV ?_))
          rintro M369 ⟨hP370, hQ371, h373, h374, h375, h376, h377, h378, h379, pr380⟩
          have hF372 : Fr fm_m9058_739 M0 M369 := hF343.tr hQ371 rfl
          have e381 := ((hQ371.at g_739_30 rfl).trans ((hQ342.at g_739_30 rfl).trans ((hQ26.at g_739_30 rfl).trans ex739_30)))
          obtain ⟨v382, e383⟩ : ∃ v, M369 739 31 = v := ⟨_, rfl⟩
          have h384 := bf_739_31 hP370; rw [e383] at h384
          obtain ⟨v385, e386⟩ : ∃ v, M369 739 33 = v := ⟨_, rfl⟩
          have h387 := bf_739_33 hP370; rw [e386] at h387
          obtain ⟨v388, e389⟩ : ∃ v, M369 739 34 = v := ⟨_, rfl⟩
          have h390 := bf_739_34 hP370; rw [e389] at h390
          obtain ⟨v391, e392⟩ : ∃ v, M369 739 32 = v := ⟨_, rfl⟩
          have h393 := bf_739_32 hP370; rw [e392] at h393
          obtain ⟨v394, e395⟩ : ∃ v, M369 739 28 = v := ⟨_, rfl⟩
          have h396 := bf_739_28 hP370; rw [e395] at h396
          have pr397 : LRP M369 := LRP_mn (Sm.fr hQ371 rfl) (fun q => by have := e366; have := e395; omega) pr351
          have pr398 : FP M369 := FP_mn (Sm.fr hQ371 rfl) (fun q => by have := e366; have := e395; omega) pr368
          subst hQ; exact wk_ret r58_135 (⟨rfl, hP370, hF372, by have := ((hQ371.at g_739_30 rfl).trans ((hQ342.at g_739_30 rfl).trans ((hQ26.at g_739_30 rfl).trans ex739_30))); have := e383; omega, by have := e383; have := e386; have := e389; omega, by have := e383; have := e386; have := e389; omega, by have := e389; have := e392; omega, by have := e386; omega, by have := e395; omega, by have := e386; have := e395; omega, by have := e386; have := ((hQ371.at g_739_45 rfl).trans ((hQ342.at g_739_45 rfl).trans ((hQ26.at g_739_45 rfl).trans ex739_45))); have := e395; omega, by have := ((hQ371.at g_739_45 rfl).trans ((hQ342.at g_739_45 rfl).trans ((hQ26.at g_739_45 rfl).trans ex739_45))); omega, by have := ((hQ371.at g_739_44 rfl).trans ((hQ342.at g_739_44 rfl).trans ((hQ26.at g_739_44 rfl).trans ex739_44))); have := e386; have := e395; omega, by have := ((hQ371.at g_739_44 rfl).trans ((hQ342.at g_739_44 rfl).trans ((hQ26.at g_739_44 rfl).trans ex739_44))); omega, by have := ((hQ371.at g_739_39 rfl).trans ((hQ342.at g_739_39 rfl).trans ((hQ26.at g_739_39 rfl).trans ex739_39))); have := e395; omega, by have := ((hQ371.at g_739_39 rfl).trans ((hQ342.at g_739_39 rfl).trans ((hQ26.at g_739_39 rfl).trans ex739_39))); have := e395; omega, by have := ((hQ371.at g_739_40 rfl).trans ((hQ342.at g_739_40 rfl).trans ((hQ26.at g_739_40 rfl).trans ex739_40))); have := e395; omega, pr380, pr398, (MRP_sm (Sm.fr hQ371 rfl) (MRP_sm (Sm.fr hQ342 rfl) (MRP_sm (Sm.fr hQ26 rfl) pp_MR))), pr397⟩)
        · intro h399
          refine wk_al0 r58_109 (wk_c1 r58_110 (wk_putfi81 r58_111 fd_739_43 (wk_nw g_739_43 rfl hP25 hF27 (uf_739_43 (by decide)) ?_)))
          intro M400 hP401 hF402 e403
          refine wk_goto r58_114 ?_
          refine wk_al0 r58_131 (wk_cv1 r58_132 kc_739_65 rfl (m9065_739 _ M400 x739_30 v35 v38 v41 v44 x739_28 hP401 (mUp_no e403 ((hQ26.at g_739_30 rfl).trans ex739_30) (Or.inr (by decide))) (by first | assumption | omega) (by first | assumption | omega) (mUp_no e403 e36 (Or.inr (by decide))) (by first | assumption | omega) (by first | assumption | omega) (mUp_no e403 e39 (Or.inr (by decide))) (by first | assumption | omega) (by first | assumption | omega) (mUp_no e403 e42 (Or.inr (by decide))) (by first | assumption | omega) (by first | assumption | omega) (mUp_no e403 e45 (Or.inr (by decide))) (by first | assumption | omega) (by first | assumption | omega) (mUp_no e403 ((hQ26.at g_739_28 rfl).trans ex739_28) (Or.inr (by decide))) (by first | assumption | omega) (by first | assumption | omega) (by omega) (by omega) (by omega) (by omega) (TK_sm (Sm.up e403 g_739_43 rfl) pr33)) (cqV ?_))
          rintro M404 ⟨hP405, hQ406, h408, h409, h410, h411, h412, h413, h414, pr415⟩
          have hF407 : Fr fm_m9058_739 M0 M404 := hF402.tr hQ406 rfl
          have e416 := ((hQ406.at g_739_30 rfl).trans (mUp_no e403 ((hQ26.at g_739_30 rfl).trans ex739_30) (Or.inr (by decide))))
          obtain ⟨v417, e418⟩ : ∃ v, M404 739 31 = v := ⟨_, rfl⟩
          have h419 := bf_739_31 hP405; rw [e418] at h419
          obtain ⟨v420, e421⟩ : ∃ v, M404 739 33 = v := ⟨_, rfl⟩
          have h422 := bf_739_33 hP405; rw [e421] at h422
          obtain ⟨v423, e424⟩ : ∃ v, M404 739 34 = v := ⟨_, rfl⟩
          have h425 := bf_739_34 hP405; rw [e424] at h425
          obtain ⟨v426, e427⟩ : ∃ v, M404 739 32 = v := ⟨_, rfl⟩
          have h428 := bf_739_32 hP405; rw [e427] at h428
          obtain ⟨v429, e430⟩ : ∃ v, M404 739 28 = v := ⟨_, rfl⟩
          have h431 := bf_739_28 hP405; rw [e430] at h431
          have pr432 : FP M404 := FP_mn (Sm.fr hQ406 rfl) (fun q => by have := (mUp_no e403 ((hQ26.at g_739_28 rfl).trans ex739_28) (Or.inr (by decide))); have := e430; omega) (FP_sm (Sm.up e403 g_739_43 rfl) (FP_sm (Sm.fr hQ26 rfl) pp_FP))
          have pr433 : LRP M404 := LRP_mn (Sm.fr hQ406 rfl) (fun q => by have := (mUp_no e403 ((hQ26.at g_739_28 rfl).trans ex739_28) (Or.inr (by decide))); have := e430; omega) (LRP_sm (Sm.up e403 g_739_43 rfl) (LRP_sm (Sm.fr hQ26 rfl) pp_LP))
          subst hQ; exact wk_ret r58_135 (⟨rfl, hP405, hF407, by have := ((hQ406.at g_739_30 rfl).trans (mUp_no e403 ((hQ26.at g_739_30 rfl).trans ex739_30) (Or.inr (by decide)))); have := e418; omega, by have := e418; have := e421; have := e424; omega, by have := e418; have := e421; have := e424; omega, by have := e424; have := e427; omega, by have := e421; omega, by have := e430; omega, by have := e421; have := e430; omega, by have := e421; have := ((hQ406.at g_739_45 rfl).trans (mUp_no e403 ((hQ26.at g_739_45 rfl).trans ex739_45) (Or.inr (by decide)))); have := e430; omega, by have := ((hQ406.at g_739_45 rfl).trans (mUp_no e403 ((hQ26.at g_739_45 rfl).trans ex739_45) (Or.inr (by decide)))); omega, by have := ((hQ406.at g_739_44 rfl).trans (mUp_no e403 ((hQ26.at g_739_44 rfl).trans ex739_44) (Or.inr (by decide)))); have := e421; have := e430; omega, by have := ((hQ406.at g_739_44 rfl).trans (mUp_no e403 ((hQ26.at g_739_44 rfl).trans ex739_44) (Or.inr (by decide)))); omega, by have := ((hQ406.at g_739_39 rfl).trans (mUp_no e403 ((hQ26.at g_739_39 rfl).trans ex739_39) (Or.inr (by decide)))); have := e430; omega, by have := ((hQ406.at g_739_39 rfl).trans (mUp_no e403 ((hQ26.at g_739_39 rfl).trans ex739_39) (Or.inr (by decide)))); have := e430; omega, by have := ((hQ406.at g_739_40 rfl).trans (mUp_no e403 ((hQ26.at g_739_40 rfl).trans ex739_40) (Or.inr (by decide)))); have := e430; omega, pr415, pr432, (MRP_sm (Sm.fr hQ406 rfl) (MRP_sm (Sm.up e403 g_739_43 rfl) (MRP_sm (Sm.fr hQ26 rfl) pp_MR))), pr433⟩)
      · intro h434
        subst hQ; exact wk_ret r58_29 (⟨rfl, hP0, hF0, by have := ex739_30; have := ex739_31; omega, by have := ex739_31; have := ex739_33; have := ex739_34; omega, by have := ex739_31; have := ex739_33; have := ex739_34; omega, by have := ex739_34; have := ex739_32; omega, by have := ex739_33; omega, by have := ex739_28; omega, by have := ex739_33; have := ex739_28; omega, by have := ex739_33; have := ex739_45; have := ex739_28; omega, by have := ex739_45; omega, by have := ex739_44; have := ex739_33; have := ex739_28; omega, by have := ex739_44; omega, by have := ex739_39; have := ex739_28; omega, by have := ex739_39; have := ex739_28; omega, by have := ex739_40; have := ex739_28; omega, pp_TK, pp_FP, pp_MR, pp_LP⟩)
    · intro h435
      exact wp_fg (le_s (le_s le_0)) c17_459
def fm_m9123_739 : Nat := 11692013098647223345629478661730264157247460343808
/-- IslandHallModel.right -/
theorem m9123_739 {B : eB} (d : Nat) (M0 : Mm) (p1 : Int) (p2 : Int) (x739_0 : Int) (hP0 : Pw M0) (l1 : 0 ≤ p1) (u1 : p1 ≤ 0) (l2 : 1 ≤ p2) (u2 : p2 ≤ 1) (ex739_0 : M0 739 0 = x739_0) (lx739_0 : 0 ≤ x739_0) (ux739_0 : x739_0 ≤ 1) : Ct B (d + 1) 123 [R 739, I p1, I p2] M0 (qI fun z M => Pw M ∧ Fr fm_m9123_739 M0 M ∧ 0 ≤ z ∧ z ≤ 0 ∧ (z = 1 → 0 ≤ p1 + (-1)) ∧ (M0 739 0 = 0 → z = p1)) := by
  refine ct_of (d := d + 0) (k := 0) (L := [some (R 739), some (I p1), some (I p2)]) rfl rfl rfl ?_
  have hF0 := Fr.rf fm_m9123_739 M0
  generalize hQ : (qI fun z M => Pw M ∧ Fr fm_m9123_739 M0 M ∧ 0 ≤ z ∧ z ≤ 0 ∧ (z = 1 → 0 ≤ p1 + (-1)) ∧ (M0 739 0 = 0 → z = p1)) = Q
  refine wk_al0 r123_0 (wk_getfi r123_1 fd_739_0 ex739_0 ?_)
  refine wk_ifne r123_4 ⟨by omega, by omega⟩ ?_ ?_
  · intro h1
    refine wk_al0 r123_16 (wk_getfi r123_17 fd_739_0 ex739_0 ?_)
    refine wk_ifne r123_20 ⟨by omega, by omega⟩ ?_ ?_
    · intro h2
      refine wk_c1 r123_27 ?_
      subst hQ; exact wk_zret r123_28 (by decide) (⟨rfl, _, rfl, hP0, hF0, by omega, by omega, by omega, by intro q; omega⟩)
    · intro h3
      exfalso
      omega
  · intro h4
    refine wk_il1 r123_7 ?_
    refine wk_ifne r123_8 ⟨by omega, by omega⟩ ?_ ?_
    · intro h5
      exfalso
      omega
    · intro h6
      refine wk_al0 r123_11 (wk_il2 r123_12 (wk_putfi81 r123_13 fd_739_0 (wk_nw g_739_0 rfl hP0 hF0 (uf_739_0 ⟨by omega, by omega⟩) ?_)))
      intro M7 hP8 hF9 e10
      refine wk_al0 r123_16 (wk_getfi r123_17 fd_739_0 (mUp_at e10) ?_)
      refine wk_ifne r123_20 ⟨by omega, by omega⟩ ?_ ?_
      · intro h11
        refine wk_c1 r123_27 ?_
        subst hQ; exact wk_zret r123_28 (by decide) (⟨rfl, _, rfl, hP8, hF9, by omega, by omega, by omega, by intro q; omega⟩)
      · intro h12
        exfalso
        omega
def fm_m9123_739v1 : Nat := 0
/-- IslandHallModel.right -/
theorem m9123_739v1 {B : eB} (d : Nat) (M0 : Mm) (p1 : Int) (p2 : Int) (x739_0 : Int) (hP0 : Pw M0) (l1 : 1 ≤ p1) (u1 : p1 ≤ 1) (l2 : 1 ≤ p2) (u2 : p2 ≤ 1) (ex739_0 : M0 739 0 = x739_0) (lx739_0 : 0 ≤ x739_0) (ux739_0 : x739_0 ≤ 1) : Ct B (d + 1) 123 [R 739, I p1, I p2] M0 (qI fun z M => Pw M ∧ Fr fm_m9123_739v1 M0 M ∧ 0 ≤ z ∧ z ≤ 1 ∧ (z = 1 → 0 ≤ p1 + (-1)) ∧ (M0 739 0 = 0 → z = p1)) := by
  refine ct_of (d := d + 0) (k := 0) (L := [some (R 739), some (I p1), some (I p2)]) rfl rfl rfl ?_
  have hF0 := Fr.rf fm_m9123_739v1 M0
  generalize hQ : (qI fun z M => Pw M ∧ Fr fm_m9123_739v1 M0 M ∧ 0 ≤ z ∧ z ≤ 1 ∧ (z = 1 → 0 ≤ p1 + (-1)) ∧ (M0 739 0 = 0 → z = p1)) = Q
  refine wk_al0 r123_0 (wk_getfi r123_1 fd_739_0 ex739_0 ?_)
  refine wk_ifne r123_4 ⟨by omega, by omega⟩ ?_ ?_
  · intro h1
    refine wk_al0 r123_16 (wk_getfi r123_17 fd_739_0 ex739_0 ?_)
    refine wk_ifne r123_20 ⟨by omega, by omega⟩ ?_ ?_
    · intro h2
      refine wk_c1 r123_27 ?_
      subst hQ; exact wk_zret r123_28 (by decide) (⟨rfl, _, rfl, hP0, hF0, by omega, by omega, by omega, by intro q; omega⟩)
    · intro h3
      exfalso
      omega
  · intro h4
    refine wk_il1 r123_7 ?_
    refine wk_ifne r123_8 ⟨by omega, by omega⟩ ?_ ?_
    · intro h5
      refine wk_al0 r123_16 (wk_getfi r123_17 fd_739_0 ex739_0 ?_)
      refine wk_ifne r123_20 ⟨by omega, by omega⟩ ?_ ?_
      · intro h6
        exfalso
        omega
      · intro h7
        refine wk_c1 r123_23 (wk_goto r123_24 ?_)
        subst hQ; exact wk_zret r123_28 (by decide) (⟨rfl, _, rfl, hP0, hF0, by omega, by omega, by omega, by intro q; omega⟩)
    · intro h8
      exfalso
      omega
