
def fm_n8120_739 : Nat := 226156424291636392369996259608942744360629063106118230789664548191039651840
set_option maxHeartbeats 20000000 in
/-- IslandHallModel.readsMay -/
theorem n8120_739 {B : eB} (d : Nat) (M0 : Mm) (x739_30 : Int) (x739_31 : Int) (x739_33 : Int) (x739_34 : Int) (x739_32 : Int) (x739_28 : Int) (x739_35 : Int) (x739_38 : Int) (x739_36 : Int) (x739_29 : Int) (T : Int → Int) (i0 : Ig) (gr : Int) (gd : Int) (gl : Int) (gw : Int) (gv : Int) (F : List Int) (hP0 : Pw M0) (ex739_30 : M0 739 30 = x739_30) (lx739_30 : 0 ≤ x739_30) (ux739_30 : x739_30 ≤ 500) (ex739_31 : M0 739 31 = x739_31) (lx739_31 : 0 ≤ x739_31) (ux739_31 : x739_31 ≤ 500) (ex739_33 : M0 739 33 = x739_33) (lx739_33 : 0 ≤ x739_33) (ux739_33 : x739_33 ≤ 500) (ex739_34 : M0 739 34 = x739_34) (lx739_34 : 0 ≤ x739_34) (ux739_34 : x739_34 ≤ 500) (ex739_32 : M0 739 32 = x739_32) (lx739_32 : 0 ≤ x739_32) (ux739_32 : x739_32 ≤ 4) (ex739_28 : M0 739 28 = x739_28) (lx739_28 : 0 ≤ x739_28) (ux739_28 : x739_28 ≤ 6) (ex739_35 : M0 739 35 = x739_35) (lx739_35 : 0 ≤ x739_35) (ux739_35 : x739_35 ≤ 999) (ex739_38 : M0 739 38 = x739_38) (lx739_38 : 0 ≤ x739_38) (ux739_38 : x739_38 ≤ 999) (ex739_36 : M0 739 36 = x739_36) (lx739_36 : 0 ≤ x739_36) (ux739_36 : x739_36 ≤ 255) (ex739_29 : M0 739 29 = x739_29) (lx739_29 : (-1) ≤ x739_29) (ux739_29 : x739_29 ≤ 501) (rp0 : 0 ≤ x739_30 + (-1) * x739_31) (rp1 : 0 ≤ x739_31 + (-1) * x739_33 + (-1) * x739_34) (rp2 : 0 ≤ (-1) * x739_31 + x739_33 + x739_34) (rp3 : 0 ≤ 4 * x739_34 + (-1) * x739_32) (rp4 : 0 ≤ (-1) * x739_38 + 7 + 3000 * x739_28) (xp0 : x739_28 = 0) (xp1 : CX T x739_30 x739_38 i0 6 x739_33 (gr, gd, gl, gw, nrF (fun k => M0 756 k) gv F)) (pp_TK : TK M0) (pp_MR : MRP M0) (pp_TQ : TXQ T M0) (pp_TT : TTP T M0) : Ct B (d + 5) 120 [R 739] M0 (qV fun M => Pw M ∧ Fr fm_n8120_739 M0 M ∧ 0 ≤ M 739 30 + (-1) * (M 739 31) ∧ 0 ≤ M 739 31 + (-1) * (M 739 33) + (-1) * (M 739 34) ∧ 0 ≤ (-1) * (M 739 31) + M 739 33 + M 739 34 ∧ 0 ≤ 4 * (M 739 34) + (-1) * (M 739 32) ∧ 0 ≤ M 739 33 + (-1) * x739_33 ∧ 0 ≤ M 739 28 + (-1) * x739_28 ∧ 0 ≤ M 739 29 + 1 ∧ 0 ≤ M 739 29 + (-1) * x739_29 + 3000 * (M 739 28) ∧ 0 ≤ (-1) * (M 739 29) + x739_29 + 3000 * (M 739 28) ∧ (RH T x739_30 x739_38 i0 5 (M 739 33) (gr, gd, gl, gw, nrF (fun k => M 756 k) gv F) (M 739 28) (M 739 29)) ∧ (TK M) ∧ (MRP M) ∧ (TXQ T M) ∧ (TTP T M)) := by
  refine ct_of (d := d + 4) (k := 6) (L := [some (R 739), none, none, none, none, none, none]) rfl rfl rfl ?_
  have hF0 := Fr.rf fm_n8120_739 M0
  generalize hQ : (qV fun M => Pw M ∧ Fr fm_n8120_739 M0 M ∧ 0 ≤ M 739 30 + (-1) * (M 739 31) ∧ 0 ≤ M 739 31 + (-1) * (M 739 33) + (-1) * (M 739 34) ∧ 0 ≤ (-1) * (M 739 31) + M 739 33 + M 739 34 ∧ 0 ≤ 4 * (M 739 34) + (-1) * (M 739 32) ∧ 0 ≤ M 739 33 + (-1) * x739_33 ∧ 0 ≤ M 739 28 + (-1) * x739_28 ∧ 0 ≤ M 739 29 + 1 ∧ 0 ≤ M 739 29 + (-1) * x739_29 + 3000 * (M 739 28) ∧ 0 ≤ (-1) * (M 739 29) + x739_29 + 3000 * (M 739 28) ∧ (RH T x739_30 x739_38 i0 5 (M 739 33) (gr, gd, gl, gw, nrF (fun k => M 756 k) gv F) (M 739 28) (M 739 29)) ∧ (TK M) ∧ (MRP M) ∧ (TXQ T M) ∧ (TTP T M)) = Q
  obtain ⟨u1, hu2⟩ : ∃ u : Int → Int, ∀ k, M0 756 k = u k := ⟨fun k => M0 756 k, fun k => rfl⟩
  have e8 : ∀ (lv : Int) (F : List Int), nrF (fun k => M0 756 k) lv F = nrF u1 lv F := fun lv F => nr_eq (fun k _ _ => hu2 k) rfl rfl
  rw [e8] at xp1
  refine wk_al0 r120_0 (wk_cv1 r120_1 kc_739_111 rfl (n8111_739 _ M0 x739_30 x739_31 x739_33 x739_34 x739_32 x739_28 x739_38 x739_36 x739_29 T hP0 ex739_30 (by first | with_reducible assumption | omega) (by first | with_reducible assumption | omega) ex739_31 (by first | with_reducible assumption | omega) (by first | with_reducible assumption | omega) ex739_33 (by first | with_reducible assumption | omega) (by first | with_reducible assumption | omega) ex739_34 (by first | with_reducible assumption | omega) (by first | with_reducible assumption | omega) ex739_32 (by first | with_reducible assumption | omega) (by first | with_reducible assumption | omega) ex739_28 (by first | with_reducible assumption | omega) (by first | with_reducible assumption | omega) ex739_38 (by first | with_reducible assumption | omega) (by first | with_reducible assumption | omega) ex739_36 (by first | with_reducible assumption | omega) (by first | with_reducible assumption | omega) ex739_29 (by first | with_reducible assumption | omega) (by first | with_reducible assumption | omega) (by omega) (by omega) (by omega) (by omega) (by omega) pp_TK pp_TQ pp_TT) (cqI ?_))
  rintro v23 M3 ⟨hP4, hQ5, h24, h25, h7, h8, h9, h10, h11, h12, h13, h14, h15, h16, h17, h18, xh19, pr20, pr21, pr22⟩
  have hF6 : Fr fm_n8120_739 M0 M3 := hF0.tr hQ5 rfl
  have e26 := ((hQ5.at g_739_30 rfl).trans ex739_30)
  obtain ⟨v27, e28⟩ : ∃ v, M3 739 31 = v := ⟨_, rfl⟩
  have h29 := (bf_739_31 hP4).1; rw [e28] at h29
  have h30 := (bf_739_31 hP4).2; rw [e28] at h30
  obtain ⟨v31, e32⟩ : ∃ v, M3 739 33 = v := ⟨_, rfl⟩
  have h33 := (bf_739_33 hP4).1; rw [e32] at h33
  have h34 := (bf_739_33 hP4).2; rw [e32] at h34
  obtain ⟨v35, e36⟩ : ∃ v, M3 739 34 = v := ⟨_, rfl⟩
  have h37 := (bf_739_34 hP4).1; rw [e36] at h37
  have h38 := (bf_739_34 hP4).2; rw [e36] at h38
  obtain ⟨v39, e40⟩ : ∃ v, M3 739 32 = v := ⟨_, rfl⟩
  have h41 := (bf_739_32 hP4).1; rw [e40] at h41
  have h42 := (bf_739_32 hP4).2; rw [e40] at h42
  obtain ⟨v43, e44⟩ : ∃ v, M3 739 28 = v := ⟨_, rfl⟩
  have h45 := (bf_739_28 hP4).1; rw [e44] at h45
  have h46 := (bf_739_28 hP4).2; rw [e44] at h46
  obtain ⟨v47, e48⟩ : ∃ v, M3 739 29 = v := ⟨_, rfl⟩
  have h49 := (bf_739_29 hP4).1; rw [e48] at h49
  have h50 := (bf_739_29 hP4).2; rw [e48] at h50
  refine wk_is1 r120_4 rfl (wk_c1 r120_5 (wk_is2 r120_6 rfl (wk_al0 r120_7 (wk_cv1 r120_8 kc_739_84 rfl (n8084_739 _ M3 v43 hP4 e44 (by first | with_reducible assumption | omega) (by first | with_reducible assumption | omega)) (cqI ?_)))))
  rintro v57 M51 ⟨hP52, hQ53, h58, h59, h55, h56⟩
  obtain rfl := Fr.same hQ53
  have e60 := e44
  refine wk_is3 r120_11 rfl ?_
  have c12_542 : ∀ (k542 : Nat) (M273 : Mm) (v267 : Int) (v270 : Int) (v276 : Int) (v280 : Int) (v284 : Int) (v288 : Int) (v292 : Int) (v296 : Int), (10 * (501 - v280) + v270).toNat = k542 → Pw M273 → Fr fm_n8120_739 M0 M273 → M273 739 31 = v276 → M273 739 33 = v280 → M273 739 34 = v284 → M273 739 32 = v288 → M273 739 28 = v292 → M273 739 29 = v296 → M273 739 30 = x739_30 → M273 739 38 = x739_38 → 0 ≤ v267 → v267 ≤ 31 → 0 ≤ v270 → v270 ≤ 1 → 0 ≤ v276 → v276 ≤ 500 → 0 ≤ v280 → v280 ≤ 500 → 0 ≤ v284 → v284 ≤ 500 → 0 ≤ v288 → v288 ≤ 4 → 0 ≤ v292 → v292 ≤ 6 → (-1) ≤ v296 → v296 ≤ 501 → (∀ k, M273 756 k = u1 k) → (TK M273) → (MRP M273) → (TXQ T M273) → (TTP T M273) → 0 ≤ 1 * x739_30 + (-1) * v276 → 0 ≤ 1 * v276 + (-1) * v280 + (-1) * v284 → 0 ≤ (-1) * v276 + 1 * v280 + 1 * v284 → 0 ≤ 4 * v284 + (-1) * v288 → 0 ≤ 1 * v280 + (-1) * x739_33 → 0 ≤ 1 * v292 + (-1) * x739_28 → 0 ≤ (-1) * v23 + 3000 * v292 + 6 → 0 ≤ 1 * v23 + 3000 * v292 → 0 ≤ (-6) * v270 + (-1) * v292 + 6 → 0 ≤ 1 * v267 + (-1) + 3000 * v292 + 1 * v270 → 0 ≤ 1 * v296 + (-1) * x739_29 + 3000 * v292 → 0 ≤ (-1) * v296 + 1 * x739_29 + 3000 * v292 → (MYI T x739_30 x739_38 i0 v270 v280 v267 v23 (gr, gd, gl, gw, nrF u1 gv F) v292 v296) → Wp B (d + 4) 120 12 [some (R 739), some (I v23), some (I v267), some (I v270), none, none, none] [] M273 Q := by
    refine lp_ind ?_
    intro k542 ih542 M273 v267 v270 v276 v280 v284 v288 v292 v296 hk542 hP274 hF275 e279 e283 e287 e291 e295 e299 e301 e302 h268 h269 h271 h272 h277 h278 h281 h282 h285 h286 h289 h290 h293 h294 h297 h298 hu300 pr303 pr304 pr305 pr306 h307 h308 h309 h310 h311 h312 h313 h314 h315 h316 h317 h318 ti319
    refine wk_il3 r120_12 ?_
    refine wk_ifeq r120_13 ⟨by omega, by omega⟩ ?_ ?_
    · intro h320
      refine wk_al0 r120_107 (wk_cv1 r120_108 kc_739_84 rfl (n8084_739 _ M273 v292 hP274 e295 (by first | with_reducible assumption | omega) (by first | with_reducible assumption | omega)) (cqI ?_))
      rintro v327 M321 ⟨hP322, hQ323, h328, h329, h325, h326⟩
      obtain rfl := Fr.same hQ323
      have e330 := e295
      refine wk_ifeq r120_111 ⟨by omega, by omega⟩ ?_ ?_
      · intro h331
        subst hQ; exact wk_ret r120_121 (⟨rfl, hP274, hF275, by have := e301; have := e279; omega, by have := e279; have := e283; have := e287; omega, by have := e279; have := e283; have := e287; omega, by have := e287; have := e291; omega, by have := e283; omega, by have := e295; omega, by have := e299; omega, by have := e299; have := e295; omega, by have := e299; have := e295; omega, by rw [e283, e295, e299]; exact RH_mb (MYI_b ti319 (by omega)) (by omega), pr303, pr304, pr305, pr306⟩)
      · intro h332
        refine wk_al0 r120_114 (wk_getfr r120_115 fd_739_48 (br_739_48 hP274) (wk_il1 r120_118 (wk_il2 r120_119 (wk_iast r120_120 ar_756 ⟨by omega, by omega⟩ (wk_nw (ga_756 _) rfl hP274 hF275 (ua_756 ⟨by omega, by omega⟩) ?_)))))
        intro M333 hP334 hF335 e336
        have pr337 : MRP M333 := MRP_up pr304 (by omega) e336
        subst hQ; exact wk_ret r120_121 (⟨rfl, hP334, hF335, by have := (mUp_no e336 e301 (Or.inl (by decide))); have := (mUp_no e336 e279 (Or.inl (by decide))); omega, by have := (mUp_no e336 e279 (Or.inl (by decide))); have := (mUp_no e336 e283 (Or.inl (by decide))); have := (mUp_no e336 e287 (Or.inl (by decide))); omega, by have := (mUp_no e336 e279 (Or.inl (by decide))); have := (mUp_no e336 e283 (Or.inl (by decide))); have := (mUp_no e336 e287 (Or.inl (by decide))); omega, by have := (mUp_no e336 e287 (Or.inl (by decide))); have := (mUp_no e336 e291 (Or.inl (by decide))); omega, by have := (mUp_no e336 e283 (Or.inl (by decide))); omega, by have := (mUp_no e336 e295 (Or.inl (by decide))); omega, by have := (mUp_no e336 e299 (Or.inl (by decide))); omega, by have := (mUp_no e336 e299 (Or.inl (by decide))); have := (mUp_no e336 e295 (Or.inl (by decide))); omega, by have := (mUp_no e336 e299 (Or.inl (by decide))); have := (mUp_no e336 e295 (Or.inl (by decide))); omega, by rw [(mUp_no e336 e283 (Or.inl (by decide))), (mUp_no e336 e295 (Or.inl (by decide))), (mUp_no e336 e299 (Or.inl (by decide)))]; exact RH_mg (may_er (MYI_g ti319 (by omega) (by omega)).1 (MYI_g ti319 (by omega) (by omega)).2 (nr_eq (fun k _ _ => hu300 k) rfl rfl) e336 (by omega) (by omega)) (by omega), (TK_sm (Sm.up e336 (ga_756 _) rfl) pr303), pr337, (TXQ_sm (Sm.up e336 (ga_756 _) rfl) pr305), (TTP_sm (Sm.up e336 (ga_756 _) rfl) pr306)⟩)
    · intro h338
      refine wk_al0 r120_16 (wk_getfi r120_17 fd_739_33 e283 (wk_is4 r120_20 rfl (wk_al0 r120_22 (wk_cv1 r120_23 kc_739_93 rfl (n8093_739 _ M273 x739_30 v276 v280 v284 v288 v292 v296 T hP274 e301 (by first | with_reducible assumption | omega) (by first | with_reducible assumption | omega) e279 (by first | with_reducible assumption | omega) (by first | with_reducible assumption | omega) e283 (by first | with_reducible assumption | omega) (by first | with_reducible assumption | omega) e287 (by first | with_reducible assumption | omega) (by first | with_reducible assumption | omega) e291 (by first | with_reducible assumption | omega) (by first | with_reducible assumption | omega) e295 (by first | with_reducible assumption | omega) (by first | with_reducible assumption | omega) e299 (by first | with_reducible assumption | omega) (by first | with_reducible assumption | omega) (by omega) (by omega) (by omega) (by omega) pr303 pr305 pr306) (cqI ?_)))))
      rintro v359 M339 ⟨hP340, hQ341, h360, h361, h343, h344, h345, h346, h347, h348, h349, h350, h351, h352, h353, h354, xh355, pr356, pr357, pr358⟩
      have hF342 : Fr fm_n8120_739 M0 M339 := hF275.tr hQ341 rfl
      have e362 := ((hQ341.at g_739_30 rfl).trans e301)
      obtain ⟨v363, e364⟩ : ∃ v, M339 739 31 = v := ⟨_, rfl⟩
      have h365 := (bf_739_31 hP340).1; rw [e364] at h365
      have h366 := (bf_739_31 hP340).2; rw [e364] at h366
      obtain ⟨v367, e368⟩ : ∃ v, M339 739 33 = v := ⟨_, rfl⟩
      have h369 := (bf_739_33 hP340).1; rw [e368] at h369
      have h370 := (bf_739_33 hP340).2; rw [e368] at h370
      obtain ⟨v371, e372⟩ : ∃ v, M339 739 34 = v := ⟨_, rfl⟩
      have h373 := (bf_739_34 hP340).1; rw [e372] at h373
      have h374 := (bf_739_34 hP340).2; rw [e372] at h374
      obtain ⟨v375, e376⟩ : ∃ v, M339 739 32 = v := ⟨_, rfl⟩
      have h377 := (bf_739_32 hP340).1; rw [e376] at h377
      have h378 := (bf_739_32 hP340).2; rw [e376] at h378
      obtain ⟨v379, e380⟩ : ∃ v, M339 739 28 = v := ⟨_, rfl⟩
      have h381 := (bf_739_28 hP340).1; rw [e380] at h381
      have h382 := (bf_739_28 hP340).2; rw [e380] at h382
      obtain ⟨v383, e384⟩ : ∃ v, M339 739 29 = v := ⟨_, rfl⟩
      have h385 := (bf_739_29 hP340).1; rw [e384] at h385
      have h386 := (bf_739_29 hP340).2; rw [e384] at h386
      refine wk_is5 r120_26 rfl ?_
      refine wk_al0 r120_28 (wk_cv1 r120_29 kc_739_84 rfl (n8084_739 _ M339 v379 hP340 e380 (by first | with_reducible assumption | omega) (by first | with_reducible assumption | omega)) (cqI ?_))
      rintro v393 M387 ⟨hP388, hQ389, h394, h395, h391, h392⟩
      obtain rfl := Fr.same hQ389
      have e396 := e380
      refine wk_ifeq r120_32 ⟨by omega, by omega⟩ ?_ ?_
      · intro h397
        refine wk_il2 r120_56 (wk_al0 r120_57 (wk_cv1 r120_58 kc_739_84 rfl (n8084_739 _ M339 v379 hP340 e380 (by first | with_reducible assumption | omega) (by first | with_reducible assumption | omega)) (cqI ?_)))
        rintro v404 M398 ⟨hP399, hQ400, h405, h406, h402, h403⟩
        obtain rfl := Fr.same hQ400
        have e407 := e380
        refine wk_ifeq r120_61 ⟨by omega, by omega⟩ ?_ ?_
        · intro h408
          refine wk_c1 r120_71 (wk_ior 5 32 r120_72 (by decide) ⟨by omega, by omega⟩ ⟨by omega, by omega⟩ ?_)
          intro v409 h410 h411 h412 h413 h414
          refine wk_is2 r120_73 rfl (wk_al0 r120_74 (wk_cv1 r120_75 kc_739_97 rfl (n8097_739 _ M339 v375 v371 x739_30 v367 T hP340 e376 (by first | with_reducible assumption | omega) (by first | with_reducible assumption | omega) e372 (by first | with_reducible assumption | omega) (by first | with_reducible assumption | omega) ((hQ341.at g_739_30 rfl).trans e301) (by first | with_reducible assumption | omega) (by first | with_reducible assumption | omega) e368 (by first | with_reducible assumption | omega) (by first | with_reducible assumption | omega) pr356 pr358) (cqI ?_)))
          rintro v421 M415 ⟨hP416, hQ417, h422, h423, h419, xh420⟩
          obtain rfl := Fr.same hQ417
          have e424 := e372
          refine wk_is6 r120_78 rfl (wk_al0 r120_80 (wk_cv1 r120_81 kc_739_84 rfl (n8084_739 _ M339 v379 hP340 e380 (by first | with_reducible assumption | omega) (by first | with_reducible assumption | omega)) (cqI ?_)))
          rintro v431 M425 ⟨hP426, hQ427, h432, h433, h429, h430⟩
          obtain rfl := Fr.same hQ427
          have e434 := e380
          refine wk_ifeq r120_84 ⟨by omega, by omega⟩ ?_ ?_
          · intro h435
            refine wk_c1 r120_102 (wk_is3 r120_103 rfl (wk_goto r120_104 ?_))
            exact wp_fg (le_s (le_s (le_s (le_s (le_n (le_n (le_n le_0))))))) (ih542 (10 * (501 - v367) + 0).toNat (by omega) M339 v409 0 v363 v367 v371 v375 v379 v383 rfl hP340 hF342 e364 e368 e372 e376 e380 e384 ((hQ341.at g_739_30 rfl).trans e301) ((hQ341.at g_739_38 rfl).trans e302) (by first | with_reducible assumption | omega) (by first | with_reducible assumption | omega) (by first | with_reducible assumption | omega) (by first | with_reducible assumption | omega) (by first | with_reducible assumption | omega) (by first | with_reducible assumption | omega) (by first | with_reducible assumption | omega) (by first | with_reducible assumption | omega) (by first | with_reducible assumption | omega) (by first | with_reducible assumption | omega) (by first | with_reducible assumption | omega) (by first | with_reducible assumption | omega) (by first | with_reducible assumption | omega) (by first | with_reducible assumption | omega) (by first | with_reducible assumption | omega) (by first | with_reducible assumption | omega) (fun k => (hQ341.at (ga_756 k) rfl).trans (hu300 k)) pr356 (MRP_sm (Sm.fr hQ341 rfl) pr304) pr357 pr358 (by first | with_reducible assumption | omega) (by first | with_reducible assumption | omega) (by first | with_reducible assumption | omega) (by first | with_reducible assumption | omega) (by first | with_reducible assumption | omega) (by first | with_reducible assumption | omega) (by first | with_reducible assumption | omega) (by first | with_reducible assumption | omega) (by first | with_reducible assumption | omega) (by first | with_reducible assumption | omega) (by first | with_reducible assumption | omega) (by first | with_reducible assumption | omega) (MYI_n (k := v359) ti319 (by omega) (Or.inl ⟨by omega, by omega, by omega, by omega⟩)))
          · intro h436
            exfalso
            omega
        · intro h437
          exfalso
          omega
      · intro h438
        refine wk_il2 r120_35 (wk_il5 r120_36 (wk_shrb r120_38 ⟨by omega, by omega⟩ ⟨by omega, by omega⟩ ?_))
        intro v439 h440 h441 h442
        refine wk_c1 r120_39 (wk_iandc 1 2 r120_40 ⟨rfl, by decide⟩ rfl (wk_c1 r120_41 ?_))
        refine wk_icne r120_42 ⟨by omega, by omega⟩ (by decide) ?_ ?_
        · intro h444
          refine wk_il2 r120_56 (wk_al0 r120_57 (wk_cv1 r120_58 kc_739_84 rfl (n8084_739 _ M339 v379 hP340 e380 (by first | with_reducible assumption | omega) (by first | with_reducible assumption | omega)) (cqI ?_)))
          rintro v451 M445 ⟨hP446, hQ447, h452, h453, h449, h450⟩
          obtain rfl := Fr.same hQ447
          have e454 := e380
          refine wk_ifeq r120_61 ⟨by omega, by omega⟩ ?_ ?_
          · intro h455
            exfalso
            omega
          · intro h456
            refine wk_c1 r120_64 (wk_il5 r120_65 (wk_shl1 4 16 r120_67 ⟨by omega, by omega⟩ ⟨pwl_4, by decide⟩ ?_))
            intro v457 h458 h459 h460
            refine wk_goto r120_68 (wk_ior 5 32 r120_72 (by decide) ⟨by omega, by omega⟩ ⟨by omega, by omega⟩ ?_)
            intro v461 h462 h463 h464 h465 h466
            have hor9 := bit_or (t := v267) (k := v359) (b := v457) ⟨by omega, by omega⟩ (by omega) (by omega) h460 h466 (by omega)
            refine wk_is2 r120_73 rfl (wk_al0 r120_74 (wk_cv1 r120_75 kc_739_97 rfl (n8097_739 _ M339 v375 v371 x739_30 v367 T hP340 e376 (by first | with_reducible assumption | omega) (by first | with_reducible assumption | omega) e372 (by first | with_reducible assumption | omega) (by first | with_reducible assumption | omega) ((hQ341.at g_739_30 rfl).trans e301) (by first | with_reducible assumption | omega) (by first | with_reducible assumption | omega) e368 (by first | with_reducible assumption | omega) (by first | with_reducible assumption | omega) pr356 pr358) (cqI ?_)))
            rintro v473 M467 ⟨hP468, hQ469, h474, h475, h471, xh472⟩
            obtain rfl := Fr.same hQ469
            have e476 := e372
            refine wk_is6 r120_78 rfl (wk_al0 r120_80 (wk_cv1 r120_81 kc_739_84 rfl (n8084_739 _ M339 v379 hP340 e380 (by first | with_reducible assumption | omega) (by first | with_reducible assumption | omega)) (cqI ?_)))
            rintro v483 M477 ⟨hP478, hQ479, h484, h485, h481, h482⟩
            obtain rfl := Fr.same hQ479
            have e486 := e380
            refine wk_ifeq r120_84 ⟨by omega, by omega⟩ ?_ ?_
            · intro h487
              exfalso
              omega
            · intro h488
              refine wk_il6 r120_87 ?_
              refine wk_iflt r120_89 ⟨by omega, by omega⟩ ?_ ?_
              · intro h489
                refine wk_c1 r120_102 (wk_is3 r120_103 rfl (wk_goto r120_104 ?_))
                exact wp_fg (le_s (le_s (le_s (le_s (le_n (le_n (le_n le_0))))))) (ih542 (10 * (501 - v367) + 0).toNat (by omega) M339 v461 0 v363 v367 v371 v375 v379 v383 rfl hP340 hF342 e364 e368 e372 e376 e380 e384 ((hQ341.at g_739_30 rfl).trans e301) ((hQ341.at g_739_38 rfl).trans e302) (by first | with_reducible assumption | omega) (by first | with_reducible assumption | omega) (by first | with_reducible assumption | omega) (by first | with_reducible assumption | omega) (by first | with_reducible assumption | omega) (by first | with_reducible assumption | omega) (by first | with_reducible assumption | omega) (by first | with_reducible assumption | omega) (by first | with_reducible assumption | omega) (by first | with_reducible assumption | omega) (by first | with_reducible assumption | omega) (by first | with_reducible assumption | omega) (by first | with_reducible assumption | omega) (by first | with_reducible assumption | omega) (by first | with_reducible assumption | omega) (by first | with_reducible assumption | omega) (fun k => (hQ341.at (ga_756 k) rfl).trans (hu300 k)) pr356 (MRP_sm (Sm.fr hQ341 rfl) pr304) pr357 pr358 (by first | with_reducible assumption | omega) (by first | with_reducible assumption | omega) (by first | with_reducible assumption | omega) (by first | with_reducible assumption | omega) (by first | with_reducible assumption | omega) (by first | with_reducible assumption | omega) (by first | with_reducible assumption | omega) (by first | with_reducible assumption | omega) (by first | with_reducible assumption | omega) (by first | with_reducible assumption | omega) (by first | with_reducible assumption | omega) (by first | with_reducible assumption | omega) (MYI_n (k := v359) ti319 (by omega) (Or.inr (Or.inr ⟨by omega, by have := kdI_c T x739_30 v280; omega, by have := h442; omega, by omega, by omega, by omega, Or.inr ⟨by have := kdI_c T x739_30 v367; omega, by omega⟩⟩))))
              · intro h490
                refine wk_il6 r120_92 (wk_c1 r120_94 ?_)
                refine wk_icgt r120_95 ⟨by omega, by omega⟩ (by decide) ?_ ?_
                · intro h491
                  refine wk_c1 r120_102 (wk_is3 r120_103 rfl (wk_goto r120_104 ?_))
                  exact wp_fg (le_s (le_s (le_s (le_s (le_n (le_n (le_n le_0))))))) (ih542 (10 * (501 - v367) + 0).toNat (by omega) M339 v461 0 v363 v367 v371 v375 v379 v383 rfl hP340 hF342 e364 e368 e372 e376 e380 e384 ((hQ341.at g_739_30 rfl).trans e301) ((hQ341.at g_739_38 rfl).trans e302) (by first | with_reducible assumption | omega) (by first | with_reducible assumption | omega) (by first | with_reducible assumption | omega) (by first | with_reducible assumption | omega) (by first | with_reducible assumption | omega) (by first | with_reducible assumption | omega) (by first | with_reducible assumption | omega) (by first | with_reducible assumption | omega) (by first | with_reducible assumption | omega) (by first | with_reducible assumption | omega) (by first | with_reducible assumption | omega) (by first | with_reducible assumption | omega) (by first | with_reducible assumption | omega) (by first | with_reducible assumption | omega) (by first | with_reducible assumption | omega) (by first | with_reducible assumption | omega) (fun k => (hQ341.at (ga_756 k) rfl).trans (hu300 k)) pr356 (MRP_sm (Sm.fr hQ341 rfl) pr304) pr357 pr358 (by first | with_reducible assumption | omega) (by first | with_reducible assumption | omega) (by first | with_reducible assumption | omega) (by first | with_reducible assumption | omega) (by first | with_reducible assumption | omega) (by first | with_reducible assumption | omega) (by first | with_reducible assumption | omega) (by first | with_reducible assumption | omega) (by first | with_reducible assumption | omega) (by first | with_reducible assumption | omega) (by first | with_reducible assumption | omega) (by first | with_reducible assumption | omega) (MYI_n (k := v359) ti319 (by omega) (Or.inr (Or.inr ⟨by omega, by have := kdI_c T x739_30 v280; omega, by have := h442; omega, by omega, by omega, by omega, Or.inr ⟨by have := kdI_c T x739_30 v367; omega, by omega⟩⟩))))
                · intro h492
                  refine wk_c1 r120_98 (wk_goto r120_99 (wk_is3 r120_103 rfl (wk_goto r120_104 ?_)))
                  exact wp_fg (le_s (le_s (le_s (le_s (le_n (le_n (le_n le_0))))))) (ih542 (10 * (501 - v367) + 1).toNat (by omega) M339 v461 1 v363 v367 v371 v375 v379 v383 rfl hP340 hF342 e364 e368 e372 e376 e380 e384 ((hQ341.at g_739_30 rfl).trans e301) ((hQ341.at g_739_38 rfl).trans e302) (by first | with_reducible assumption | omega) (by first | with_reducible assumption | omega) (by first | with_reducible assumption | omega) (by first | with_reducible assumption | omega) (by first | with_reducible assumption | omega) (by first | with_reducible assumption | omega) (by first | with_reducible assumption | omega) (by first | with_reducible assumption | omega) (by first | with_reducible assumption | omega) (by first | with_reducible assumption | omega) (by first | with_reducible assumption | omega) (by first | with_reducible assumption | omega) (by first | with_reducible assumption | omega) (by first | with_reducible assumption | omega) (by first | with_reducible assumption | omega) (by first | with_reducible assumption | omega) (fun k => (hQ341.at (ga_756 k) rfl).trans (hu300 k)) pr356 (MRP_sm (Sm.fr hQ341 rfl) pr304) pr357 pr358 (by first | with_reducible assumption | omega) (by first | with_reducible assumption | omega) (by first | with_reducible assumption | omega) (by first | with_reducible assumption | omega) (by first | with_reducible assumption | omega) (by first | with_reducible assumption | omega) (by first | with_reducible assumption | omega) (by first | with_reducible assumption | omega) (by first | with_reducible assumption | omega) (by first | with_reducible assumption | omega) (by first | with_reducible assumption | omega) (by first | with_reducible assumption | omega) (MYI_n (k := v359) ti319 (by omega) (Or.inr (Or.inr ⟨by omega, by have := kdI_c T x739_30 v280; omega, by have := h442; omega, by omega, by omega, by omega, Or.inl ⟨by have := kdI_c T x739_30 v367; omega, by omega⟩⟩))))
        · intro h493
          refine wk_al0 r120_45 (wk_c1 r120_46 (wk_putfi81 r120_47 fd_739_28 (wk_nw g_739_28 rfl hP340 hF342 (uf_739_28 (by decide)) ?_)))
          intro M494 hP495 hF496 e497
          refine wk_al0 r120_50 (wk_il4 r120_51 (wk_putfi81 r120_53 fd_739_29 (wk_nw g_739_29 rfl hP495 hF496 (uf_739_29 ⟨by omega, by omega⟩) ?_)))
          intro M498 hP499 hF500 e501
          refine wk_il2 r120_56 (wk_al0 r120_57 (wk_cv1 r120_58 kc_739_84 rfl (n8084_739 _ M498 5 hP499 (mUp_no e501 (mUp_at e497) (Or.inr (by decide))) (by first | with_reducible assumption | omega) (by first | with_reducible assumption | omega)) (cqI ?_)))
          rintro v508 M502 ⟨hP503, hQ504, h509, h510, h506, h507⟩
          obtain rfl := Fr.same hQ504
          have e511 := (mUp_no e501 (mUp_at e497) (Or.inr (by decide)))
          refine wk_ifeq r120_61 ⟨by omega, by omega⟩ ?_ ?_
          · intro h512
            refine wk_c1 r120_71 (wk_ior 5 32 r120_72 (by decide) ⟨by omega, by omega⟩ ⟨by omega, by omega⟩ ?_)
            intro v513 h514 h515 h516 h517 h518
            refine wk_is2 r120_73 rfl (wk_al0 r120_74 (wk_cv1 r120_75 kc_739_97 rfl (n8097_739 _ M498 v375 v371 x739_30 v367 T hP499 (mUp_no e501 (mUp_no e497 e376 (Or.inr (by decide))) (Or.inr (by decide))) (by first | with_reducible assumption | omega) (by first | with_reducible assumption | omega) (mUp_no e501 (mUp_no e497 e372 (Or.inr (by decide))) (Or.inr (by decide))) (by first | with_reducible assumption | omega) (by first | with_reducible assumption | omega) (mUp_no e501 (mUp_no e497 ((hQ341.at g_739_30 rfl).trans e301) (Or.inr (by decide))) (Or.inr (by decide))) (by first | with_reducible assumption | omega) (by first | with_reducible assumption | omega) (mUp_no e501 (mUp_no e497 e368 (Or.inr (by decide))) (Or.inr (by decide))) (by first | with_reducible assumption | omega) (by first | with_reducible assumption | omega) (TK_sm (Sm.up e501 g_739_29 rfl) (TK_sm (Sm.up e497 g_739_28 rfl) pr356)) (TTP_sm (Sm.up e501 g_739_29 rfl) (TTP_sm (Sm.up e497 g_739_28 rfl) pr358))) (cqI ?_)))
            rintro v525 M519 ⟨hP520, hQ521, h526, h527, h523, xh524⟩
            obtain rfl := Fr.same hQ521
            have e528 := (mUp_no e501 (mUp_no e497 e372 (Or.inr (by decide))) (Or.inr (by decide)))
            refine wk_is6 r120_78 rfl (wk_al0 r120_80 (wk_cv1 r120_81 kc_739_84 rfl (n8084_739 _ M498 5 hP499 (mUp_no e501 (mUp_at e497) (Or.inr (by decide))) (by first | with_reducible assumption | omega) (by first | with_reducible assumption | omega)) (cqI ?_)))
            rintro v535 M529 ⟨hP530, hQ531, h536, h537, h533, h534⟩
            obtain rfl := Fr.same hQ531
            have e538 := (mUp_no e501 (mUp_at e497) (Or.inr (by decide)))
            refine wk_ifeq r120_84 ⟨by omega, by omega⟩ ?_ ?_
            · intro h539
              refine wk_c1 r120_102 (wk_is3 r120_103 rfl (wk_goto r120_104 ?_))
              exact wp_fg (le_s (le_s (le_s (le_s (le_n (le_n (le_n le_0))))))) (ih542 (10 * (501 - v367) + 0).toNat (by omega) M498 v513 0 v363 v367 v371 v375 5 v280 rfl hP499 hF500 (mUp_no e501 (mUp_no e497 e364 (Or.inr (by decide))) (Or.inr (by decide))) (mUp_no e501 (mUp_no e497 e368 (Or.inr (by decide))) (Or.inr (by decide))) (mUp_no e501 (mUp_no e497 e372 (Or.inr (by decide))) (Or.inr (by decide))) (mUp_no e501 (mUp_no e497 e376 (Or.inr (by decide))) (Or.inr (by decide))) (mUp_no e501 (mUp_at e497) (Or.inr (by decide))) (mUp_at e501) (mUp_no e501 (mUp_no e497 ((hQ341.at g_739_30 rfl).trans e301) (Or.inr (by decide))) (Or.inr (by decide))) (mUp_no e501 (mUp_no e497 ((hQ341.at g_739_38 rfl).trans e302) (Or.inr (by decide))) (Or.inr (by decide))) (by first | with_reducible assumption | omega) (by first | with_reducible assumption | omega) (by first | with_reducible assumption | omega) (by first | with_reducible assumption | omega) (by first | with_reducible assumption | omega) (by first | with_reducible assumption | omega) (by first | with_reducible assumption | omega) (by first | with_reducible assumption | omega) (by first | with_reducible assumption | omega) (by first | with_reducible assumption | omega) (by first | with_reducible assumption | omega) (by first | with_reducible assumption | omega) (by first | with_reducible assumption | omega) (by first | with_reducible assumption | omega) (by first | with_reducible assumption | omega) (by first | with_reducible assumption | omega) (fun k => mUp_no e501 ((fun k => mUp_no e497 ((fun k => (hQ341.at (ga_756 k) rfl).trans (hu300 k)) k) (Or.inl (by decide))) k) (Or.inl (by decide))) (TK_sm (Sm.up e501 g_739_29 rfl) (TK_sm (Sm.up e497 g_739_28 rfl) pr356)) (MRP_sm (Sm.up e501 g_739_29 rfl) (MRP_sm (Sm.up e497 g_739_28 rfl) (MRP_sm (Sm.fr hQ341 rfl) pr304))) (TXQ_sm (Sm.up e501 g_739_29 rfl) (TXQ_sm (Sm.up e497 g_739_28 rfl) pr357)) (TTP_sm (Sm.up e501 g_739_29 rfl) (TTP_sm (Sm.up e497 g_739_28 rfl) pr358)) (by first | with_reducible assumption | omega) (by first | with_reducible assumption | omega) (by first | with_reducible assumption | omega) (by first | with_reducible assumption | omega) (by first | with_reducible assumption | omega) (by first | with_reducible assumption | omega) (by first | with_reducible assumption | omega) (by first | with_reducible assumption | omega) (by first | with_reducible assumption | omega) (by first | with_reducible assumption | omega) (by first | with_reducible assumption | omega) (by first | with_reducible assumption | omega) (MYI_n (k := v359) ti319 (by omega) (Or.inr (Or.inl ⟨by omega, by have := kdI_c T x739_30 v280; omega, by have := h442; omega, by omega, by omega, by omega⟩))))
            · intro h540
              exfalso
              omega
          · intro h541
            exfalso
            omega
  exact wp_fg (le_s (le_s (le_s (le_s (le_s (le_s (le_s le_0))))))) (c12_542 _ M3 0 v57 v27 v31 v35 v39 v43 v47 rfl hP4 hF6 e28 e32 e36 e40 e44 e48 ((hQ5.at g_739_30 rfl).trans ex739_30) ((hQ5.at g_739_38 rfl).trans ex739_38) (by first | with_reducible assumption | omega) (by first | with_reducible assumption | omega) (by first | with_reducible assumption | omega) (by first | with_reducible assumption | omega) (by first | with_reducible assumption | omega) (by first | with_reducible assumption | omega) (by first | with_reducible assumption | omega) (by first | with_reducible assumption | omega) (by first | with_reducible assumption | omega) (by first | with_reducible assumption | omega) (by first | with_reducible assumption | omega) (by first | with_reducible assumption | omega) (by first | with_reducible assumption | omega) (by first | with_reducible assumption | omega) (by first | with_reducible assumption | omega) (by first | with_reducible assumption | omega) (fun k => (hQ5.at (ga_756 k) rfl).trans (hu2 k)) pr20 (MRP_sm (Sm.fr hQ5 rfl) pp_MR) pr21 pr22 (by first | with_reducible assumption | omega) (by first | with_reducible assumption | omega) (by first | with_reducible assumption | omega) (by first | with_reducible assumption | omega) (by first | with_reducible assumption | omega) (by first | with_reducible assumption | omega) (by first | with_reducible assumption | omega) (by first | with_reducible assumption | omega) (by first | with_reducible assumption | omega) (by first | with_reducible assumption | omega) (by first | with_reducible assumption | omega) (by first | with_reducible assumption | omega) (MYI_i xp1 (by rcases xh19 with q9 | q9 | q9; (exact Or.inl ⟨by omega, by omega, by omega, by omega, by omega⟩); (exact Or.inr ⟨by omega, by omega, by omega, by omega⟩); (omega)) (by omega)))
def fm_n8119_739 : Nat := 54620200750467202666517121666041509319714645900003796313964544
set_option maxHeartbeats 20000000 in
/-- IslandHallModel.readsLies -/
theorem n8119_739 {B : eB} (d : Nat) (M0 : Mm) (x739_30 : Int) (x739_31 : Int) (x739_33 : Int) (x739_34 : Int) (x739_32 : Int) (x739_28 : Int) (x739_35 : Int) (x739_29 : Int) (x739_38 : Int) (T : Int → Int) (i0 : Ig) (gr : Int) (gd : Int) (gl : Int) (gw : Int) (gv : Int) (F : List Int) (hP0 : Pw M0) (ex739_30 : M0 739 30 = x739_30) (lx739_30 : 0 ≤ x739_30) (ux739_30 : x739_30 ≤ 500) (ex739_31 : M0 739 31 = x739_31) (lx739_31 : 0 ≤ x739_31) (ux739_31 : x739_31 ≤ 500) (ex739_33 : M0 739 33 = x739_33) (lx739_33 : 0 ≤ x739_33) (ux739_33 : x739_33 ≤ 500) (ex739_34 : M0 739 34 = x739_34) (lx739_34 : 0 ≤ x739_34) (ux739_34 : x739_34 ≤ 500) (ex739_32 : M0 739 32 = x739_32) (lx739_32 : 0 ≤ x739_32) (ux739_32 : x739_32 ≤ 4) (ex739_28 : M0 739 28 = x739_28) (lx739_28 : 0 ≤ x739_28) (ux739_28 : x739_28 ≤ 6) (ex739_35 : M0 739 35 = x739_35) (lx739_35 : 0 ≤ x739_35) (ux739_35 : x739_35 ≤ 999) (ex739_29 : M0 739 29 = x739_29) (lx739_29 : (-1) ≤ x739_29) (ux739_29 : x739_29 ≤ 501) (ex739_38 : M0 739 38 = x739_38) (lx739_38 : 0 ≤ x739_38) (ux739_38 : x739_38 ≤ 999) (rp0 : 0 ≤ x739_30 + (-1) * x739_31) (rp1 : 0 ≤ x739_31 + (-1) * x739_33 + (-1) * x739_34) (rp2 : 0 ≤ (-1) * x739_31 + x739_33 + x739_34) (rp3 : 0 ≤ 4 * x739_34 + (-1) * x739_32) (xp0 : x739_28 = 0) (xp1 : CX T x739_30 x739_38 i0 9 x739_33 (gr, gd, gl, gw, nrF (fun k => M0 756 k) gv F)) (pp_TK : TK M0) (pp_TQ : TXQ T M0) (pp_TT : TTP T M0) : Ct B (d + 4) 119 [R 739] M0 (qV fun M => Pw M ∧ Fr fm_n8119_739 M0 M ∧ 0 ≤ M 739 30 + (-1) * (M 739 31) ∧ 0 ≤ M 739 31 + (-1) * (M 739 33) + (-1) * (M 739 34) ∧ 0 ≤ (-1) * (M 739 31) + M 739 33 + M 739 34 ∧ 0 ≤ 4 * (M 739 34) + (-1) * (M 739 32) ∧ 0 ≤ M 739 33 + (-1) * x739_33 ∧ 0 ≤ M 739 28 + (-1) * x739_28 ∧ 0 ≤ M 739 29 + 1 ∧ 0 ≤ M 739 29 + (-1) * x739_29 + 3000 * (M 739 28) ∧ 0 ≤ (-1) * (M 739 29) + x739_29 + 3000 * (M 739 28) ∧ 0 ≤ M 739 42 + 2147483648 ∧ (M 739 28 = 0 → 1 ≤ M 739 42) ∧ (RH T x739_30 x739_38 i0 5 (M 739 33) (gr, gd, 1, gw, nrF (fun k => M 756 k) (M 739 42) F) (M 739 28) (M 739 29)) ∧ (TK M) ∧ (LRP M) ∧ (TXQ T M) ∧ (TTP T M)) := by
  refine ct_of (d := d + 3) (k := 0) (L := [some (R 739)]) rfl rfl rfl ?_
  have hF0 := Fr.rf fm_n8119_739 M0
  generalize hQ : (qV fun M => Pw M ∧ Fr fm_n8119_739 M0 M ∧ 0 ≤ M 739 30 + (-1) * (M 739 31) ∧ 0 ≤ M 739 31 + (-1) * (M 739 33) + (-1) * (M 739 34) ∧ 0 ≤ (-1) * (M 739 31) + M 739 33 + M 739 34 ∧ 0 ≤ 4 * (M 739 34) + (-1) * (M 739 32) ∧ 0 ≤ M 739 33 + (-1) * x739_33 ∧ 0 ≤ M 739 28 + (-1) * x739_28 ∧ 0 ≤ M 739 29 + 1 ∧ 0 ≤ M 739 29 + (-1) * x739_29 + 3000 * (M 739 28) ∧ 0 ≤ (-1) * (M 739 29) + x739_29 + 3000 * (M 739 28) ∧ 0 ≤ M 739 42 + 2147483648 ∧ (M 739 28 = 0 → 1 ≤ M 739 42) ∧ (RH T x739_30 x739_38 i0 5 (M 739 33) (gr, gd, 1, gw, nrF (fun k => M 756 k) (M 739 42) F) (M 739 28) (M 739 29)) ∧ (TK M) ∧ (LRP M) ∧ (TXQ T M) ∧ (TTP T M)) = Q
  refine wk_al0 r119_0 (wk_c1 r119_1 (wk_al0 r119_2 (wk_c1 r119_3 (wk_c2 r119_4 (wk_cv3 r119_6 kc_739_114 rfl (n8114_739 _ M0 0 6 x739_30 x739_31 x739_33 x739_34 x739_32 x739_28 x739_35 x739_29 T hP0 (by decide) (by decide) (by decide) (by decide) ex739_30 (by first | with_reducible assumption | omega) (by first | with_reducible assumption | omega) ex739_31 (by first | with_reducible assumption | omega) (by first | with_reducible assumption | omega) ex739_33 (by first | with_reducible assumption | omega) (by first | with_reducible assumption | omega) ex739_34 (by first | with_reducible assumption | omega) (by first | with_reducible assumption | omega) ex739_32 (by first | with_reducible assumption | omega) (by first | with_reducible assumption | omega) ex739_28 (by first | with_reducible assumption | omega) (by first | with_reducible assumption | omega) ex739_35 (by first | with_reducible assumption | omega) (by first | with_reducible assumption | omega) ex739_29 (by first | with_reducible assumption | omega) (by first | with_reducible assumption | omega) (by omega) (by omega) (by omega) (by omega) pp_TK pp_TQ pp_TT) (cqI ?_))))))
  rintro v21 M1 ⟨hP2, hQ3, h22, h23, h5, h6, h7, h8, h9, h10, h11, h12, h13, h14, h15, h16, xh17, pr18, pr19, pr20⟩
  have hF4 : Fr fm_n8119_739 M0 M1 := hF0.tr hQ3 rfl
  have e24 := ((hQ3.at g_739_30 rfl).trans ex739_30)
  obtain ⟨v25, e26⟩ : ∃ v, M1 739 31 = v := ⟨_, rfl⟩
  have h27 := (bf_739_31 hP2).1; rw [e26] at h27
  have h28 := (bf_739_31 hP2).2; rw [e26] at h28
  obtain ⟨v29, e30⟩ : ∃ v, M1 739 33 = v := ⟨_, rfl⟩
  have h31 := (bf_739_33 hP2).1; rw [e30] at h31
  have h32 := (bf_739_33 hP2).2; rw [e30] at h32
  obtain ⟨v33, e34⟩ : ∃ v, M1 739 34 = v := ⟨_, rfl⟩
  have h35 := (bf_739_34 hP2).1; rw [e34] at h35
  have h36 := (bf_739_34 hP2).2; rw [e34] at h36
  obtain ⟨v37, e38⟩ : ∃ v, M1 739 32 = v := ⟨_, rfl⟩
  have h39 := (bf_739_32 hP2).1; rw [e38] at h39
  have h40 := (bf_739_32 hP2).2; rw [e38] at h40
  obtain ⟨v41, e42⟩ : ∃ v, M1 739 28 = v := ⟨_, rfl⟩
  have h43 := (bf_739_28 hP2).1; rw [e42] at h43
  have h44 := (bf_739_28 hP2).2; rw [e42] at h44
  obtain ⟨v45, e46⟩ : ∃ v, M1 739 29 = v := ⟨_, rfl⟩
  have h47 := (bf_739_29 hP2).1; rw [e46] at h47
  have h48 := (bf_739_29 hP2).2; rw [e46] at h48
  rcases (show v41 = 0 ∨ 1 ≤ v41 by omega) with h49 | h50
  · refine wk_shl1 6 64 r119_9 ⟨by omega, by omega⟩ ⟨pwl_6, by decide⟩ ?_
    intro v51 h52 h53 h54
    refine wk_putfi81 r119_10 fd_739_42 (wk_nw g_739_42 rfl hP2 hF4 (uf_739_42 ⟨by omega, by omega⟩) ?_)
    intro M55 hP56 hF57 e58
    have pr59 : LRP M55 := fun _ => by have := (mUp_at e58); omega
    have c13_468 : ∀ (k468 : Nat) (M325 : Mm) (v328 : Int) (v332 : Int) (v336 : Int) (v340 : Int) (v344 : Int) (v348 : Int) (v352 : Int), (10 * (501 - v332) + (6 - v344)).toNat = k468 → Pw M325 → Fr fm_n8119_739 M0 M325 → M325 739 31 = v328 → M325 739 33 = v332 → M325 739 34 = v336 → M325 739 32 = v340 → M325 739 28 = v344 → M325 739 29 = v348 → M325 739 42 = v352 → M325 739 30 = x739_30 → M325 739 38 = x739_38 → 1 ≤ v328 → v328 ≤ 500 → 1 ≤ v332 → v332 ≤ 500 → 0 ≤ v336 → v336 ≤ 499 → 0 ≤ v340 → v340 ≤ 4 → 0 ≤ v344 → v344 ≤ 6 → (-1) ≤ v348 → v348 ≤ 501 → (-2147483648) ≤ v352 → v352 ≤ 2147483647 → (TK M325) → (LRP M325) → (TXQ T M325) → (TTP T M325) → 0 ≤ 1 * x739_30 + (-1) * v328 → 0 ≤ 1 * v328 + (-1) * v332 + (-1) * v336 → 0 ≤ (-1) * v328 + 1 * v332 + 1 * v336 → 0 ≤ 4 * v336 + (-1) * v340 → 0 ≤ 1 * v332 + (-1) * x739_33 → 0 ≤ 1 * v344 + (-1) * x739_28 → 0 ≤ 1 * v348 + (-1) * x739_29 + 3000 * v344 → 0 ≤ (-1) * v348 + 1 * x739_29 + 3000 * v344 → (v344 = 0 → 1 ≤ v352) → (LYI T x739_30 x739_38 i0 v332 v352 (gr, gd, gl, gw, nrF (fun k => M0 756 k) gv F) v344 v348) → Wp B (d + 3) 119 13 [some (R 739)] [] M325 Q := by
      refine lp_ind ?_
      intro k468 ih468 M325 v328 v332 v336 v340 v344 v348 v352 hk468 hP326 hF327 e331 e335 e339 e343 e347 e351 e355 e356 e357 h329 h330 h333 h334 h337 h338 h341 h342 h345 h346 h349 h350 h353 h354 pr358 pr359 pr360 pr361 h362 h363 h364 h365 h366 h367 h368 h369 ti370 ti371
      refine wk_al0 r119_13 (wk_cv1 r119_14 kc_739_84 rfl (n8084_739 _ M325 v344 hP326 e347 (by first | with_reducible assumption | omega) (by first | with_reducible assumption | omega)) (cqI ?_))
      rintro v378 M372 ⟨hP373, hQ374, h379, h380, h376, h377⟩
      obtain rfl := Fr.same hQ374
      have e381 := e347
      refine wk_ifeq r119_17 ⟨by omega, by omega⟩ ?_ ?_
      · intro h382
        subst hQ; exact wk_ret r119_49 (⟨rfl, hP326, hF327, by have := e356; have := e331; omega, by have := e331; have := e335; have := e339; omega, by have := e331; have := e335; have := e339; omega, by have := e339; have := e343; omega, by have := e335; omega, by have := e347; omega, by have := e351; omega, by have := e351; have := e347; omega, by have := e351; have := e347; omega, by have := e355; omega, by have := e347; have := e355; have := ti370; omega, by rw [e335, e347, e351, e355]; exact RH_c (LYI_e (li2 := 1) (ma2 := nrF (fun k => M0 756 k) v352 F) ti371 (by first | exact Or.inl (by omega) | exact Or.inr ⟨by have q8 := pr361; unfold TTP at q8; rw [e356, e335] at q8; omega, rfl, (nr_setL _ _ _ _).symm⟩)) rfl rfl rfl rfl rfl (nr_eq (fun k _ _ => hF327.at (ga_756 k) rfl) rfl rfl) rfl rfl, pr358, pr359, pr360, pr361⟩)
      · intro h383
        refine wk_al0 r119_20 (wk_getfi r119_21 fd_739_32 e343 (wk_c1 r119_24 ?_))
        refine wk_icne r119_25 ⟨by omega, by omega⟩ (by decide) ?_ ?_
        · intro h384
          subst hQ; exact wk_ret r119_49 (⟨rfl, hP326, hF327, by have := e356; have := e331; omega, by have := e331; have := e335; have := e339; omega, by have := e331; have := e335; have := e339; omega, by have := e339; have := e343; omega, by have := e335; omega, by have := e347; omega, by have := e351; omega, by have := e351; have := e347; omega, by have := e351; have := e347; omega, by have := e355; omega, by have := e347; have := e355; have := ti370; omega, by rw [e335, e347, e351, e355]; exact RH_c (LYI_e (li2 := 1) (ma2 := nrF (fun k => M0 756 k) v352 F) ti371 (by first | exact Or.inl (by omega) | exact Or.inr ⟨by have q8 := pr361; unfold TTP at q8; rw [e356, e335] at q8; omega, rfl, (nr_setL _ _ _ _).symm⟩)) rfl rfl rfl rfl rfl (nr_eq (fun k _ _ => hF327.at (ga_756 k) rfl) rfl rfl) rfl rfl, pr358, pr359, pr360, pr361⟩)
        · intro h385
          refine wk_al0 r119_28 (wk_dupr r119_29 (wk_getfi r119_30 fd_739_42 e355 ?_))
          have h386 : 0 ≤ v352 ∧ v352 ≤ 127 := by have q := pr359 (by have := e347; omega); have := e355; omega
          refine wk_c1 r119_33 (wk_al0 r119_34 (wk_c1 r119_35 (wk_c2 r119_36 ?_)))
          obtain ⟨v387, e388⟩ : ∃ v, M325 739 35 = v := ⟨_, rfl⟩
          have h389 := (bf_739_35 hP326).1; rw [e388] at h389
          have h390 := (bf_739_35 hP326).2; rw [e388] at h390
          refine wk_cv3 r119_38 kc_739_114 rfl (n8114_739 _ M325 0 6 x739_30 v328 v332 v336 v340 v344 v387 v348 T hP326 (by decide) (by decide) (by decide) (by decide) e356 (by first | with_reducible assumption | omega) (by first | with_reducible assumption | omega) e331 (by first | with_reducible assumption | omega) (by first | with_reducible assumption | omega) e335 (by first | with_reducible assumption | omega) (by first | with_reducible assumption | omega) e339 (by first | with_reducible assumption | omega) (by first | with_reducible assumption | omega) e343 (by first | with_reducible assumption | omega) (by first | with_reducible assumption | omega) e347 (by first | with_reducible assumption | omega) (by first | with_reducible assumption | omega) e388 (by first | with_reducible assumption | omega) (by first | with_reducible assumption | omega) e351 (by first | with_reducible assumption | omega) (by first | with_reducible assumption | omega) (by omega) (by omega) (by omega) (by omega) pr358 pr360 pr361) (cqI ?_)
          rintro v411 M391 ⟨hP392, hQ393, h412, h413, h395, h396, h397, h398, h399, h400, h401, h402, h403, h404, h405, h406, xh407, pr408, pr409, pr410⟩
          have hF394 : Fr fm_n8119_739 M0 M391 := hF327.tr hQ393 rfl
          have e414 := ((hQ393.at g_739_30 rfl).trans e356)
          obtain ⟨v415, e416⟩ : ∃ v, M391 739 31 = v := ⟨_, rfl⟩
          have h417 := (bf_739_31 hP392).1; rw [e416] at h417
          have h418 := (bf_739_31 hP392).2; rw [e416] at h418
          obtain ⟨v419, e420⟩ : ∃ v, M391 739 33 = v := ⟨_, rfl⟩
          have h421 := (bf_739_33 hP392).1; rw [e420] at h421
          have h422 := (bf_739_33 hP392).2; rw [e420] at h422
          obtain ⟨v423, e424⟩ : ∃ v, M391 739 34 = v := ⟨_, rfl⟩
          have h425 := (bf_739_34 hP392).1; rw [e424] at h425
          have h426 := (bf_739_34 hP392).2; rw [e424] at h426
          obtain ⟨v427, e428⟩ : ∃ v, M391 739 32 = v := ⟨_, rfl⟩
          have h429 := (bf_739_32 hP392).1; rw [e428] at h429
          have h430 := (bf_739_32 hP392).2; rw [e428] at h430
          obtain ⟨v431, e432⟩ : ∃ v, M391 739 28 = v := ⟨_, rfl⟩
          have h433 := (bf_739_28 hP392).1; rw [e432] at h433
          have h434 := (bf_739_28 hP392).2; rw [e432] at h434
          obtain ⟨v435, e436⟩ : ∃ v, M391 739 29 = v := ⟨_, rfl⟩
          have h437 := (bf_739_29 hP392).1; rw [e436] at h437
          have h438 := (bf_739_29 hP392).2; rw [e436] at h438
          have pr439 : LRP M391 := LRP_mn (Sm.fr hQ393 rfl) (fun q => by have := e347; have := e432; omega) pr359
          rcases (show v431 = 0 ∨ 1 ≤ v431 by omega) with h440 | h441
          · refine wk_shl1 6 64 r119_41 ⟨by omega, by omega⟩ ⟨pwl_6, by decide⟩ ?_
            intro v442 h443 h444 h445
            refine wk_ior 7 128 r119_42 (by decide) ⟨by omega, by omega⟩ ⟨by omega, by omega⟩ ?_
            intro v446 h447 h448 h449 h450 h451
            refine wk_putfi81 r119_43 fd_739_42 (wk_nw g_739_42 rfl hP392 hF394 (uf_739_42 ⟨by omega, by omega⟩) ?_)
            intro M452 hP453 hF454 e455
            have pr456 : LRP M452 := fun _ => by have := (mUp_at e455); omega
            refine wk_goto r119_46 ?_
            have pr457 : LRP M452 := fun _ => by have := (mUp_at e455); omega
            exact wp_fg (le_s le_0) (ih468 (10 * (501 - v419) + (6 - v431)).toNat (by omega) M452 v415 v419 v423 v427 v431 v435 v446 rfl hP453 hF454 (mUp_no e455 e416 (Or.inr (by decide))) (mUp_no e455 e420 (Or.inr (by decide))) (mUp_no e455 e424 (Or.inr (by decide))) (mUp_no e455 e428 (Or.inr (by decide))) (mUp_no e455 e432 (Or.inr (by decide))) (mUp_no e455 e436 (Or.inr (by decide))) (mUp_at e455) (mUp_no e455 ((hQ393.at g_739_30 rfl).trans e356) (Or.inr (by decide))) (mUp_no e455 ((hQ393.at g_739_38 rfl).trans e357) (Or.inr (by decide))) (by first | with_reducible assumption | omega) (by first | with_reducible assumption | omega) (by first | with_reducible assumption | omega) (by first | with_reducible assumption | omega) (by first | with_reducible assumption | omega) (by first | with_reducible assumption | omega) (by first | with_reducible assumption | omega) (by first | with_reducible assumption | omega) (by first | with_reducible assumption | omega) (by first | with_reducible assumption | omega) (by first | with_reducible assumption | omega) (by first | with_reducible assumption | omega) (by first | with_reducible assumption | omega) (by first | with_reducible assumption | omega) (TK_sm (Sm.up e455 g_739_42 rfl) pr408) pr457 (TXQ_sm (Sm.up e455 g_739_42 rfl) pr409) (TTP_sm (Sm.up e455 g_739_42 rfl) pr410) (by first | with_reducible assumption | omega) (by first | with_reducible assumption | omega) (by first | with_reducible assumption | omega) (by first | with_reducible assumption | omega) (by first | with_reducible assumption | omega) (by first | with_reducible assumption | omega) (by first | with_reducible assumption | omega) (by first | with_reducible assumption | omega) (by omega) (LYI_n ti371 (by omega) (by have q8 := pr361; unfold TTP at q8; rw [e356, e335] at q8; omega) (by rcases xh407 with q9 | q9 | q9; (exact Or.inl ⟨by omega, by omega, by omega, by have q8 := bor_or (t := v352) (k := v411) ⟨by omega, by omega⟩ (by omega) (by omega) h445 h451; rw [show vlI T x739_30 v332 = v411 by omega]; exact q8.1⟩); (omega); (omega))))
          · refine wk_shlx r119_41 ?_
            intro v458 h459 h460
            refine wk_iorx r119_42 ?_
            intro v461 h462 h463
            refine wk_putfi81 r119_43 fd_739_42 (wk_nw g_739_42 rfl hP392 hF394 (uf_739_42 ⟨by omega, by omega⟩) ?_)
            intro M464 hP465 hF466 e467
            refine wk_goto r119_46 ?_
            exact wp_fg (le_s le_0) (ih468 (10 * (501 - v419) + (6 - v431)).toNat (by omega) M464 v415 v419 v423 v427 v431 v435 v461 rfl hP465 hF466 (mUp_no e467 e416 (Or.inr (by decide))) (mUp_no e467 e420 (Or.inr (by decide))) (mUp_no e467 e424 (Or.inr (by decide))) (mUp_no e467 e428 (Or.inr (by decide))) (mUp_no e467 e432 (Or.inr (by decide))) (mUp_no e467 e436 (Or.inr (by decide))) (mUp_at e467) (mUp_no e467 ((hQ393.at g_739_30 rfl).trans e356) (Or.inr (by decide))) (mUp_no e467 ((hQ393.at g_739_38 rfl).trans e357) (Or.inr (by decide))) (by first | with_reducible assumption | omega) (by first | with_reducible assumption | omega) (by first | with_reducible assumption | omega) (by first | with_reducible assumption | omega) (by first | with_reducible assumption | omega) (by first | with_reducible assumption | omega) (by first | with_reducible assumption | omega) (by first | with_reducible assumption | omega) (by first | with_reducible assumption | omega) (by first | with_reducible assumption | omega) (by first | with_reducible assumption | omega) (by first | with_reducible assumption | omega) (by first | with_reducible assumption | omega) (by first | with_reducible assumption | omega) (TK_sm (Sm.up e467 g_739_42 rfl) pr408) (LRP_vac (mUp_no e467 e432 (Or.inr (by decide))) (by omega)) (TXQ_sm (Sm.up e467 g_739_42 rfl) pr409) (TTP_sm (Sm.up e467 g_739_42 rfl) pr410) (by first | with_reducible assumption | omega) (by first | with_reducible assumption | omega) (by first | with_reducible assumption | omega) (by first | with_reducible assumption | omega) (by first | with_reducible assumption | omega) (by first | with_reducible assumption | omega) (by first | with_reducible assumption | omega) (by first | with_reducible assumption | omega) (by omega) (LYI_n ti371 (by omega) (by have q8 := pr361; unfold TTP at q8; rw [e356, e335] at q8; omega) (by rcases xh407 with q9 | q9 | q9; (omega); (exact Or.inr ⟨by omega, by omega, by omega⟩); (omega))))
    exact wp_fg (le_s le_0) (c13_468 _ M55 v25 v29 v33 v37 v41 v45 v51 rfl hP56 hF57 (mUp_no e58 e26 (Or.inr (by decide))) (mUp_no e58 e30 (Or.inr (by decide))) (mUp_no e58 e34 (Or.inr (by decide))) (mUp_no e58 e38 (Or.inr (by decide))) (mUp_no e58 e42 (Or.inr (by decide))) (mUp_no e58 e46 (Or.inr (by decide))) (mUp_at e58) (mUp_no e58 ((hQ3.at g_739_30 rfl).trans ex739_30) (Or.inr (by decide))) (mUp_no e58 ((hQ3.at g_739_38 rfl).trans ex739_38) (Or.inr (by decide))) (by first | with_reducible assumption | omega) (by first | with_reducible assumption | omega) (by first | with_reducible assumption | omega) (by first | with_reducible assumption | omega) (by first | with_reducible assumption | omega) (by first | with_reducible assumption | omega) (by first | with_reducible assumption | omega) (by first | with_reducible assumption | omega) (by first | with_reducible assumption | omega) (by first | with_reducible assumption | omega) (by first | with_reducible assumption | omega) (by first | with_reducible assumption | omega) (by first | with_reducible assumption | omega) (by first | with_reducible assumption | omega) (TK_sm (Sm.up e58 g_739_42 rfl) pr18) pr59 (TXQ_sm (Sm.up e58 g_739_42 rfl) pr19) (TTP_sm (Sm.up e58 g_739_42 rfl) pr20) (by first | with_reducible assumption | omega) (by first | with_reducible assumption | omega) (by first | with_reducible assumption | omega) (by first | with_reducible assumption | omega) (by first | with_reducible assumption | omega) (by first | with_reducible assumption | omega) (by first | with_reducible assumption | omega) (by first | with_reducible assumption | omega) (by omega) (LYI_i xp1 (by rcases xh17 with q9 | q9 | q9; (exact Or.inl ⟨by omega, by omega, by omega, by have q8 := bor_0 (k := v21) (by omega) (by omega) h54; rw [show vlI T x739_30 x739_33 = v21 by omega]; exact q8.1⟩); (omega); (omega))))
  · refine wk_shlx r119_9 ?_
    intro v469 h470 h471
    refine wk_putfi81 r119_10 fd_739_42 (wk_nw g_739_42 rfl hP2 hF4 (uf_739_42 ⟨by omega, by omega⟩) ?_)
    intro M472 hP473 hF474 e475
    have c13_619 : ∀ (k619 : Nat) (M476 : Mm) (v479 : Int) (v483 : Int) (v487 : Int) (v491 : Int) (v495 : Int) (v499 : Int) (v503 : Int), (10 * (501 - v483) + (6 - v495)).toNat = k619 → Pw M476 → Fr fm_n8119_739 M0 M476 → M476 739 31 = v479 → M476 739 33 = v483 → M476 739 34 = v487 → M476 739 32 = v491 → M476 739 28 = v495 → M476 739 29 = v499 → M476 739 42 = v503 → M476 739 30 = x739_30 → M476 739 38 = x739_38 → 0 ≤ v479 → v479 ≤ 500 → 0 ≤ v483 → v483 ≤ 500 → 0 ≤ v487 → v487 ≤ 500 → 0 ≤ v491 → v491 ≤ 4 → 0 ≤ v495 → v495 ≤ 6 → (-1) ≤ v499 → v499 ≤ 501 → (-2147483648) ≤ v503 → v503 ≤ 2147483647 → (TK M476) → (LRP M476) → (TXQ T M476) → (TTP T M476) → 0 ≤ 1 * x739_30 + (-1) * v479 → 0 ≤ 1 * v479 + (-1) * v483 + (-1) * v487 → 0 ≤ (-1) * v479 + 1 * v483 + 1 * v487 → 0 ≤ 4 * v487 + (-1) * v491 → 0 ≤ 1 * v483 + (-1) * x739_33 → 0 ≤ 1 * v495 + (-1) * x739_28 → 0 ≤ 1 * v499 + (-1) * x739_29 + 3000 * v495 → 0 ≤ (-1) * v499 + 1 * x739_29 + 3000 * v495 → (v495 = 0 → 1 ≤ v503) → (LYI T x739_30 x739_38 i0 v483 v503 (gr, gd, gl, gw, nrF (fun k => M0 756 k) gv F) v495 v499) → Wp B (d + 3) 119 13 [some (R 739)] [] M476 Q := by
      refine lp_ind ?_
      intro k619 ih619 M476 v479 v483 v487 v491 v495 v499 v503 hk619 hP477 hF478 e482 e486 e490 e494 e498 e502 e506 e507 e508 h480 h481 h484 h485 h488 h489 h492 h493 h496 h497 h500 h501 h504 h505 pr509 pr510 pr511 pr512 h513 h514 h515 h516 h517 h518 h519 h520 ti521 ti522
      refine wk_al0 r119_13 (wk_cv1 r119_14 kc_739_84 rfl (n8084_739 _ M476 v495 hP477 e498 (by first | with_reducible assumption | omega) (by first | with_reducible assumption | omega)) (cqI ?_))
      rintro v529 M523 ⟨hP524, hQ525, h530, h531, h527, h528⟩
      obtain rfl := Fr.same hQ525
      have e532 := e498
      refine wk_ifeq r119_17 ⟨by omega, by omega⟩ ?_ ?_
      · intro h533
        subst hQ; exact wk_ret r119_49 (⟨rfl, hP477, hF478, by have := e507; have := e482; omega, by have := e482; have := e486; have := e490; omega, by have := e482; have := e486; have := e490; omega, by have := e490; have := e494; omega, by have := e486; omega, by have := e498; omega, by have := e502; omega, by have := e502; have := e498; omega, by have := e502; have := e498; omega, by have := e506; omega, by have := e498; have := e506; have := ti521; omega, by rw [e486, e498, e502, e506]; exact RH_c (LYI_e (li2 := 1) (ma2 := nrF (fun k => M0 756 k) v503 F) ti522 (by first | exact Or.inl (by omega) | exact Or.inr ⟨by have q8 := pr512; unfold TTP at q8; rw [e507, e486] at q8; omega, rfl, (nr_setL _ _ _ _).symm⟩)) rfl rfl rfl rfl rfl (nr_eq (fun k _ _ => hF478.at (ga_756 k) rfl) rfl rfl) rfl rfl, pr509, pr510, pr511, pr512⟩)
      · intro h534
        refine wk_al0 r119_20 (wk_getfi r119_21 fd_739_32 e494 (wk_c1 r119_24 ?_))
        refine wk_icne r119_25 ⟨by omega, by omega⟩ (by decide) ?_ ?_
        · intro h535
          subst hQ; exact wk_ret r119_49 (⟨rfl, hP477, hF478, by have := e507; have := e482; omega, by have := e482; have := e486; have := e490; omega, by have := e482; have := e486; have := e490; omega, by have := e490; have := e494; omega, by have := e486; omega, by have := e498; omega, by have := e502; omega, by have := e502; have := e498; omega, by have := e502; have := e498; omega, by have := e506; omega, by have := e498; have := e506; have := ti521; omega, by rw [e486, e498, e502, e506]; exact RH_c (LYI_e (li2 := 1) (ma2 := nrF (fun k => M0 756 k) v503 F) ti522 (by first | exact Or.inl (by omega) | exact Or.inr ⟨by have q8 := pr512; unfold TTP at q8; rw [e507, e486] at q8; omega, rfl, (nr_setL _ _ _ _).symm⟩)) rfl rfl rfl rfl rfl (nr_eq (fun k _ _ => hF478.at (ga_756 k) rfl) rfl rfl) rfl rfl, pr509, pr510, pr511, pr512⟩)
        · intro h536
          refine wk_al0 r119_28 (wk_dupr r119_29 (wk_getfi r119_30 fd_739_42 e506 ?_))
          have h537 : 0 ≤ v503 ∧ v503 ≤ 127 := by have q := pr510 (by have := e498; omega); have := e506; omega
          refine wk_c1 r119_33 (wk_al0 r119_34 (wk_c1 r119_35 (wk_c2 r119_36 ?_)))
          obtain ⟨v538, e539⟩ : ∃ v, M476 739 35 = v := ⟨_, rfl⟩
          have h540 := (bf_739_35 hP477).1; rw [e539] at h540
          have h541 := (bf_739_35 hP477).2; rw [e539] at h541
          refine wk_cv3 r119_38 kc_739_114 rfl (n8114_739 _ M476 0 6 x739_30 v479 v483 v487 v491 v495 v538 v499 T hP477 (by decide) (by decide) (by decide) (by decide) e507 (by first | with_reducible assumption | omega) (by first | with_reducible assumption | omega) e482 (by first | with_reducible assumption | omega) (by first | with_reducible assumption | omega) e486 (by first | with_reducible assumption | omega) (by first | with_reducible assumption | omega) e490 (by first | with_reducible assumption | omega) (by first | with_reducible assumption | omega) e494 (by first | with_reducible assumption | omega) (by first | with_reducible assumption | omega) e498 (by first | with_reducible assumption | omega) (by first | with_reducible assumption | omega) e539 (by first | with_reducible assumption | omega) (by first | with_reducible assumption | omega) e502 (by first | with_reducible assumption | omega) (by first | with_reducible assumption | omega) (by omega) (by omega) (by omega) (by omega) pr509 pr511 pr512) (cqI ?_)
          rintro v562 M542 ⟨hP543, hQ544, h563, h564, h546, h547, h548, h549, h550, h551, h552, h553, h554, h555, h556, h557, xh558, pr559, pr560, pr561⟩
          have hF545 : Fr fm_n8119_739 M0 M542 := hF478.tr hQ544 rfl
          have e565 := ((hQ544.at g_739_30 rfl).trans e507)
          obtain ⟨v566, e567⟩ : ∃ v, M542 739 31 = v := ⟨_, rfl⟩
          have h568 := (bf_739_31 hP543).1; rw [e567] at h568
          have h569 := (bf_739_31 hP543).2; rw [e567] at h569
          obtain ⟨v570, e571⟩ : ∃ v, M542 739 33 = v := ⟨_, rfl⟩
          have h572 := (bf_739_33 hP543).1; rw [e571] at h572
          have h573 := (bf_739_33 hP543).2; rw [e571] at h573
          obtain ⟨v574, e575⟩ : ∃ v, M542 739 34 = v := ⟨_, rfl⟩
          have h576 := (bf_739_34 hP543).1; rw [e575] at h576
          have h577 := (bf_739_34 hP543).2; rw [e575] at h577
          obtain ⟨v578, e579⟩ : ∃ v, M542 739 32 = v := ⟨_, rfl⟩
          have h580 := (bf_739_32 hP543).1; rw [e579] at h580
          have h581 := (bf_739_32 hP543).2; rw [e579] at h581
          obtain ⟨v582, e583⟩ : ∃ v, M542 739 28 = v := ⟨_, rfl⟩
          have h584 := (bf_739_28 hP543).1; rw [e583] at h584
          have h585 := (bf_739_28 hP543).2; rw [e583] at h585
          obtain ⟨v586, e587⟩ : ∃ v, M542 739 29 = v := ⟨_, rfl⟩
          have h588 := (bf_739_29 hP543).1; rw [e587] at h588
          have h589 := (bf_739_29 hP543).2; rw [e587] at h589
          have pr590 : LRP M542 := LRP_mn (Sm.fr hQ544 rfl) (fun q => by have := e498; have := e583; omega) pr510
          rcases (show v582 = 0 ∨ 1 ≤ v582 by omega) with h591 | h592
          · refine wk_shl1 6 64 r119_41 ⟨by omega, by omega⟩ ⟨pwl_6, by decide⟩ ?_
            intro v593 h594 h595 h596
            refine wk_ior 7 128 r119_42 (by decide) ⟨by omega, by omega⟩ ⟨by omega, by omega⟩ ?_
            intro v597 h598 h599 h600 h601 h602
            refine wk_putfi81 r119_43 fd_739_42 (wk_nw g_739_42 rfl hP543 hF545 (uf_739_42 ⟨by omega, by omega⟩) ?_)
            intro M603 hP604 hF605 e606
            have pr607 : LRP M603 := fun _ => by have := (mUp_at e606); omega
            refine wk_goto r119_46 ?_
            have pr608 : LRP M603 := fun _ => by have := (mUp_at e606); omega
            exact wp_fg (le_s le_0) (ih619 (10 * (501 - v570) + (6 - v582)).toNat (by omega) M603 v566 v570 v574 v578 v582 v586 v597 rfl hP604 hF605 (mUp_no e606 e567 (Or.inr (by decide))) (mUp_no e606 e571 (Or.inr (by decide))) (mUp_no e606 e575 (Or.inr (by decide))) (mUp_no e606 e579 (Or.inr (by decide))) (mUp_no e606 e583 (Or.inr (by decide))) (mUp_no e606 e587 (Or.inr (by decide))) (mUp_at e606) (mUp_no e606 ((hQ544.at g_739_30 rfl).trans e507) (Or.inr (by decide))) (mUp_no e606 ((hQ544.at g_739_38 rfl).trans e508) (Or.inr (by decide))) (by first | with_reducible assumption | omega) (by first | with_reducible assumption | omega) (by first | with_reducible assumption | omega) (by first | with_reducible assumption | omega) (by first | with_reducible assumption | omega) (by first | with_reducible assumption | omega) (by first | with_reducible assumption | omega) (by first | with_reducible assumption | omega) (by first | with_reducible assumption | omega) (by first | with_reducible assumption | omega) (by first | with_reducible assumption | omega) (by first | with_reducible assumption | omega) (by first | with_reducible assumption | omega) (by first | with_reducible assumption | omega) (TK_sm (Sm.up e606 g_739_42 rfl) pr559) pr608 (TXQ_sm (Sm.up e606 g_739_42 rfl) pr560) (TTP_sm (Sm.up e606 g_739_42 rfl) pr561) (by first | with_reducible assumption | omega) (by first | with_reducible assumption | omega) (by first | with_reducible assumption | omega) (by first | with_reducible assumption | omega) (by first | with_reducible assumption | omega) (by first | with_reducible assumption | omega) (by first | with_reducible assumption | omega) (by first | with_reducible assumption | omega) (by omega) (LYI_n ti522 (by omega) (by have q8 := pr512; unfold TTP at q8; rw [e507, e486] at q8; omega) (by rcases xh558 with q9 | q9 | q9; (exact Or.inl ⟨by omega, by omega, by omega, by have q8 := bor_or (t := v503) (k := v562) ⟨by omega, by omega⟩ (by omega) (by omega) h596 h602; rw [show vlI T x739_30 v483 = v562 by omega]; exact q8.1⟩); (omega); (omega))))
          · refine wk_shlx r119_41 ?_
            intro v609 h610 h611
            refine wk_iorx r119_42 ?_
            intro v612 h613 h614
            refine wk_putfi81 r119_43 fd_739_42 (wk_nw g_739_42 rfl hP543 hF545 (uf_739_42 ⟨by omega, by omega⟩) ?_)
            intro M615 hP616 hF617 e618
            refine wk_goto r119_46 ?_
            exact wp_fg (le_s le_0) (ih619 (10 * (501 - v570) + (6 - v582)).toNat (by omega) M615 v566 v570 v574 v578 v582 v586 v612 rfl hP616 hF617 (mUp_no e618 e567 (Or.inr (by decide))) (mUp_no e618 e571 (Or.inr (by decide))) (mUp_no e618 e575 (Or.inr (by decide))) (mUp_no e618 e579 (Or.inr (by decide))) (mUp_no e618 e583 (Or.inr (by decide))) (mUp_no e618 e587 (Or.inr (by decide))) (mUp_at e618) (mUp_no e618 ((hQ544.at g_739_30 rfl).trans e507) (Or.inr (by decide))) (mUp_no e618 ((hQ544.at g_739_38 rfl).trans e508) (Or.inr (by decide))) (by first | with_reducible assumption | omega) (by first | with_reducible assumption | omega) (by first | with_reducible assumption | omega) (by first | with_reducible assumption | omega) (by first | with_reducible assumption | omega) (by first | with_reducible assumption | omega) (by first | with_reducible assumption | omega) (by first | with_reducible assumption | omega) (by first | with_reducible assumption | omega) (by first | with_reducible assumption | omega) (by first | with_reducible assumption | omega) (by first | with_reducible assumption | omega) (by first | with_reducible assumption | omega) (by first | with_reducible assumption | omega) (TK_sm (Sm.up e618 g_739_42 rfl) pr559) (LRP_vac (mUp_no e618 e583 (Or.inr (by decide))) (by omega)) (TXQ_sm (Sm.up e618 g_739_42 rfl) pr560) (TTP_sm (Sm.up e618 g_739_42 rfl) pr561) (by first | with_reducible assumption | omega) (by first | with_reducible assumption | omega) (by first | with_reducible assumption | omega) (by first | with_reducible assumption | omega) (by first | with_reducible assumption | omega) (by first | with_reducible assumption | omega) (by first | with_reducible assumption | omega) (by first | with_reducible assumption | omega) (by omega) (LYI_n ti522 (by omega) (by have q8 := pr512; unfold TTP at q8; rw [e507, e486] at q8; omega) (by rcases xh558 with q9 | q9 | q9; (omega); (exact Or.inr ⟨by omega, by omega, by omega⟩); (omega))))
    exact wp_fg (le_s le_0) (c13_619 _ M472 v25 v29 v33 v37 v41 v45 v469 rfl hP473 hF474 (mUp_no e475 e26 (Or.inr (by decide))) (mUp_no e475 e30 (Or.inr (by decide))) (mUp_no e475 e34 (Or.inr (by decide))) (mUp_no e475 e38 (Or.inr (by decide))) (mUp_no e475 e42 (Or.inr (by decide))) (mUp_no e475 e46 (Or.inr (by decide))) (mUp_at e475) (mUp_no e475 ((hQ3.at g_739_30 rfl).trans ex739_30) (Or.inr (by decide))) (mUp_no e475 ((hQ3.at g_739_38 rfl).trans ex739_38) (Or.inr (by decide))) (by first | with_reducible assumption | omega) (by first | with_reducible assumption | omega) (by first | with_reducible assumption | omega) (by first | with_reducible assumption | omega) (by first | with_reducible assumption | omega) (by first | with_reducible assumption | omega) (by first | with_reducible assumption | omega) (by first | with_reducible assumption | omega) (by first | with_reducible assumption | omega) (by first | with_reducible assumption | omega) (by first | with_reducible assumption | omega) (by first | with_reducible assumption | omega) (by first | with_reducible assumption | omega) (by first | with_reducible assumption | omega) (TK_sm (Sm.up e475 g_739_42 rfl) pr18) (LRP_vac (mUp_no e475 e42 (Or.inr (by decide))) (by omega)) (TXQ_sm (Sm.up e475 g_739_42 rfl) pr19) (TTP_sm (Sm.up e475 g_739_42 rfl) pr20) (by first | with_reducible assumption | omega) (by first | with_reducible assumption | omega) (by first | with_reducible assumption | omega) (by first | with_reducible assumption | omega) (by first | with_reducible assumption | omega) (by first | with_reducible assumption | omega) (by first | with_reducible assumption | omega) (by first | with_reducible assumption | omega) (by omega) (LYI_i xp1 (by rcases xh17 with q9 | q9 | q9; (omega); (exact Or.inr ⟨by omega, by omega, by omega⟩); (omega))))
def fm_n8058_739 : Nat := 1583094970071022500760865269132782770560322181744232392148586892467340574720
set_option maxHeartbeats 20000000 in
/-- IslandHallModel.clause -/
theorem n8058_739 {B : eB} (d : Nat) (M0 : Mm) (x739_30 : Int) (x739_31 : Int) (x739_33 : Int) (x739_34 : Int) (x739_32 : Int) (x739_28 : Int) (x739_45 : Int) (x739_46 : Int) (x739_47 : Int) (x739_38 : Int) (x739_36 : Int) (x739_51 : Int) (x739_35 : Int) (x739_44 : Int) (x739_39 : Int) (x739_40 : Int) (x739_29 : Int) (x739_42 : Int) (x739_43 : Int) (T : Int → Int) (i0 : Ig) (F : List Int) (hP0 : Pw M0) (ex739_30 : M0 739 30 = x739_30) (lx739_30 : 0 ≤ x739_30) (ux739_30 : x739_30 ≤ 500) (ex739_31 : M0 739 31 = x739_31) (lx739_31 : 0 ≤ x739_31) (ux739_31 : x739_31 ≤ 500) (ex739_33 : M0 739 33 = x739_33) (lx739_33 : 0 ≤ x739_33) (ux739_33 : x739_33 ≤ 500) (ex739_34 : M0 739 34 = x739_34) (lx739_34 : 0 ≤ x739_34) (ux739_34 : x739_34 ≤ 500) (ex739_32 : M0 739 32 = x739_32) (lx739_32 : 0 ≤ x739_32) (ux739_32 : x739_32 ≤ 4) (ex739_28 : M0 739 28 = x739_28) (lx739_28 : 0 ≤ x739_28) (ux739_28 : x739_28 ≤ 6) (ex739_45 : M0 739 45 = x739_45) (lx739_45 : 0 ≤ x739_45) (ux739_45 : x739_45 ≤ 1000) (ex739_46 : M0 739 46 = x739_46) (lx739_46 : 0 ≤ x739_46) (ux739_46 : x739_46 ≤ 520) (ex739_47 : M0 739 47 = x739_47) (lx739_47 : 0 ≤ x739_47) (ux739_47 : x739_47 ≤ 500) (ex739_38 : M0 739 38 = x739_38) (lx739_38 : 0 ≤ x739_38) (ux739_38 : x739_38 ≤ 999) (ex739_36 : M0 739 36 = x739_36) (lx739_36 : 0 ≤ x739_36) (ux739_36 : x739_36 ≤ 255) (ex739_51 : M0 739 51 = x739_51) (lx739_51 : 0 ≤ x739_51) (ux739_51 : x739_51 ≤ 1) (ex739_35 : M0 739 35 = x739_35) (lx739_35 : 0 ≤ x739_35) (ux739_35 : x739_35 ≤ 999) (ex739_44 : M0 739 44 = x739_44) (lx739_44 : 0 ≤ x739_44) (ux739_44 : x739_44 ≤ 500) (ex739_39 : M0 739 39 = x739_39) (lx739_39 : 0 ≤ x739_39) (ux739_39 : x739_39 ≤ 999) (ex739_40 : M0 739 40 = x739_40) (lx739_40 : (-1) ≤ x739_40) (ux739_40 : x739_40 ≤ 999) (ex739_29 : M0 739 29 = x739_29) (lx739_29 : (-1) ≤ x739_29) (ux739_29 : x739_29 ≤ 501) (ex739_42 : M0 739 42 = x739_42) (lx739_42 : (-2147483648) ≤ x739_42) (ux739_42 : x739_42 ≤ 2147483647) (ex739_43 : M0 739 43 = x739_43) (lx739_43 : 1 ≤ x739_43) (ux739_43 : x739_43 ≤ 2) (rp0 : 0 ≤ x739_30 + (-1) * x739_31) (rp1 : 0 ≤ x739_31 + (-1) * x739_33 + (-1) * x739_34) (rp2 : 0 ≤ (-1) * x739_31 + x739_33 + x739_34) (rp3 : 0 ≤ 4 * x739_34 + (-1) * x739_32) (rp4 : 0 ≤ x739_33 + (-2) * x739_45 + 3000 * x739_28 + 2) (rp5 : 0 ≤ (-1) * x739_38 + 7 + 3000 * x739_28) (rp6 : 0 ≤ (-1) * x739_45 + 260) (rp7 : 0 ≤ (-1) * x739_44 + x739_33 + 3000 * x739_28) (rp8 : 0 ≤ (-1) * x739_39 + 4 + 3000 * x739_28) (rp9 : 0 ≤ x739_39 + (-1) + 3000 * x739_28) (rp10 : 0 ≤ (-1) * x739_40 + 6 + 3000 * x739_28) (xp0 : x739_28 = 0) (xp1 : tt T x739_30 x739_33 ≠ 0) (xp2 : Ri T x739_30 x739_38 i0 (0, x739_33, 0, 0, (x739_39, x739_40, ltI x739_42, x739_43 - 1, nrF (fun k => M0 756 k) x739_42 F))) (xp3 : FLm T x739_30 x739_38 F (OW M0).1 ∧ (x739_44 : Int) = F.length) (pp_TK : TK M0) (pp_FP : FP M0) (pp_MR : MRP M0) (pp_LP : LRP M0) (pp_TQ : TXQ T M0) (pp_TT : TTP T M0) : Ct B (d + 8) 58 [R 739] M0 (qV fun M => Pw M ∧ Fr fm_n8058_739 M0 M ∧ 0 ≤ M 739 30 + (-1) * (M 739 31) ∧ 0 ≤ M 739 31 + (-1) * (M 739 33) + (-1) * (M 739 34) ∧ 0 ≤ (-1) * (M 739 31) + M 739 33 + M 739 34 ∧ 0 ≤ 4 * (M 739 34) + (-1) * (M 739 32) ∧ 0 ≤ M 739 33 + (-1) * x739_33 ∧ 0 ≤ M 739 28 + (-1) * x739_28 ∧ 0 ≤ M 739 33 + (-1) * x739_33 + M 739 28 + (-1) ∧ 0 ≤ M 739 33 + (-2) * (M 739 45) + 3000 * (M 739 28) + 2 ∧ 0 ≤ (-1) * (M 739 45) + 262 ∧ 0 ≤ (-1) * (M 739 44) + M 739 33 + 3000 * (M 739 28) ∧ 0 ≤ (-1) * (M 739 44) + 502 ∧ 0 ≤ (-1) * (M 739 39) + 4 + 3000 * (M 739 28) ∧ 0 ≤ M 739 39 + (-1) + 3000 * (M 739 28) ∧ 0 ≤ (-1) * (M 739 40) + 6 + 3000 * (M 739 28) ∧ 0 ≤ M 739 29 + 1 ∧ 0 ≤ M 739 42 + 2147483648 ∧ 0 ≤ M 739 43 + (-1) ∧ 0 ≤ (-1) * (M 739 43) + 2 ∧ 0 ≤ M 739 29 + (-1) * x739_29 + 20000 * (M 739 28) ∧ 0 ≤ (-1) * (M 739 29) + x739_29 + 20000 * (M 739 28) ∧ (∃ F : List Int, RH T x739_30 x739_38 i0 0 (M 739 33) (M 739 39, M 739 40, ltI (M 739 42), M 739 43 - 1, nrF (fun k => M 756 k) (M 739 42) F) (M 739 28) (M 739 29) ∧ (M 739 28 = 0 → FLm T x739_30 x739_38 F (OW M).1 ∧ (M 739 44 : Int) = F.length)) ∧ (TK M) ∧ (FP M) ∧ (MRP M) ∧ (LRP M) ∧ (TXQ T M) ∧ (TTP T M)) := by
  refine ct_of (d := d + 7) (k := 1) (L := [some (R 739), none]) rfl rfl rfl ?_
  have hF0 := Fr.rf fm_n8058_739 M0
  generalize hQ : (qV fun M => Pw M ∧ Fr fm_n8058_739 M0 M ∧ 0 ≤ M 739 30 + (-1) * (M 739 31) ∧ 0 ≤ M 739 31 + (-1) * (M 739 33) + (-1) * (M 739 34) ∧ 0 ≤ (-1) * (M 739 31) + M 739 33 + M 739 34 ∧ 0 ≤ 4 * (M 739 34) + (-1) * (M 739 32) ∧ 0 ≤ M 739 33 + (-1) * x739_33 ∧ 0 ≤ M 739 28 + (-1) * x739_28 ∧ 0 ≤ M 739 33 + (-1) * x739_33 + M 739 28 + (-1) ∧ 0 ≤ M 739 33 + (-2) * (M 739 45) + 3000 * (M 739 28) + 2 ∧ 0 ≤ (-1) * (M 739 45) + 262 ∧ 0 ≤ (-1) * (M 739 44) + M 739 33 + 3000 * (M 739 28) ∧ 0 ≤ (-1) * (M 739 44) + 502 ∧ 0 ≤ (-1) * (M 739 39) + 4 + 3000 * (M 739 28) ∧ 0 ≤ M 739 39 + (-1) + 3000 * (M 739 28) ∧ 0 ≤ (-1) * (M 739 40) + 6 + 3000 * (M 739 28) ∧ 0 ≤ M 739 29 + 1 ∧ 0 ≤ M 739 42 + 2147483648 ∧ 0 ≤ M 739 43 + (-1) ∧ 0 ≤ (-1) * (M 739 43) + 2 ∧ 0 ≤ M 739 29 + (-1) * x739_29 + 20000 * (M 739 28) ∧ 0 ≤ (-1) * (M 739 29) + x739_29 + 20000 * (M 739 28) ∧ (∃ F : List Int, RH T x739_30 x739_38 i0 0 (M 739 33) (M 739 39, M 739 40, ltI (M 739 42), M 739 43 - 1, nrF (fun k => M 756 k) (M 739 42) F) (M 739 28) (M 739 29) ∧ (M 739 28 = 0 → FLm T x739_30 x739_38 F (OW M).1 ∧ (M 739 44 : Int) = F.length)) ∧ (TK M) ∧ (FP M) ∧ (MRP M) ∧ (LRP M) ∧ (TXQ T M) ∧ (TTP T M)) = Q
  obtain ⟨u1, hu2⟩ : ∃ u : Int → Int, ∀ k, M0 756 k = u k := ⟨fun k => M0 756 k, fun k => rfl⟩
  refine wk_al0 r58_0 (wk_cv1 r58_1 kc_739_97 rfl (n8097_739 _ M0 x739_32 x739_34 x739_30 x739_33 T hP0 ex739_32 (by first | with_reducible assumption | omega) (by first | with_reducible assumption | omega) ex739_34 (by first | with_reducible assumption | omega) (by first | with_reducible assumption | omega) ex739_30 (by first | with_reducible assumption | omega) (by first | with_reducible assumption | omega) ex739_33 (by first | with_reducible assumption | omega) (by first | with_reducible assumption | omega) pp_TK pp_TT) (cqI ?_))
  rintro v9 M3 ⟨hP4, hQ5, h10, h11, h7, xh8⟩
  obtain rfl := Fr.same hQ5
  have e12 := ex739_34
  refine wk_is1 r58_4 rfl (wk_il1 r58_5 (wk_c2 r58_6 ?_))
  have c17_671 : (v9 < 6 ∨ 11 < v9) → Wp B (d + 7) 58 17 [some (R 739), some (I v9)] [] M0 Q := by
    intro ti638
    refine wk_al0 r58_17 (wk_c1 r58_18 (wk_cv2 r58_19 kc_739_137 rfl (n8137_739 _ M0 1 x739_28 x739_33 x739_29 hP0 (by decide) (by decide) ex739_28 (by first | with_reducible assumption | omega) (by first | with_reducible assumption | omega) ex739_33 (by first | with_reducible assumption | omega) (by first | with_reducible assumption | omega) ex739_29 (by first | with_reducible assumption | omega) (by first | with_reducible assumption | omega)) (cqV ?_)))
    rintro M639 ⟨hP640, hQ641, h643, h644, h645, h646, h647, xh648⟩
    have hF642 : Fr fm_n8058_739 M0 M639 := hF0.tr hQ641 rfl
    obtain ⟨v649, e650⟩ : ∃ v, M639 739 28 = v := ⟨_, rfl⟩
    have h651 := (bf_739_28 hP640).1; rw [e650] at h651
    have h652 := (bf_739_28 hP640).2; rw [e650] at h652
    obtain ⟨v653, e654⟩ : ∃ v, M639 739 29 = v := ⟨_, rfl⟩
    have h655 := (bf_739_29 hP640).1; rw [e654] at h655
    have h656 := (bf_739_29 hP640).2; rw [e654] at h656
    have pr657 : FP M639 := FP_mn (Sm.fr hQ641 rfl) (fun q => by have := ex739_28; have := e650; omega) pp_FP
    have pr658 : LRP M639 := LRP_mn (Sm.fr hQ641 rfl) (fun q => by have := ex739_28; have := e650; omega) pp_LP
    refine wk_al0 r58_22 (wk_cv1 r58_23 kc_739_84 rfl (n8084_739 _ M639 v649 hP640 e650 (by first | with_reducible assumption | omega) (by first | with_reducible assumption | omega)) (cqI ?_))
    rintro v665 M659 ⟨hP660, hQ661, h666, h667, h663, h664⟩
    obtain rfl := Fr.same hQ661
    have e668 := e650
    refine wk_ifne r58_26 ⟨by omega, by omega⟩ ?_ ?_
    · intro h669
      exfalso
      omega
    · intro h670
      subst hQ; exact wk_ret r58_29 (⟨rfl, hP640, hF642, by have := ((hQ641.at g_739_30 rfl).trans ex739_30); have := ((hQ641.at g_739_31 rfl).trans ex739_31); omega, by have := ((hQ641.at g_739_31 rfl).trans ex739_31); have := ((hQ641.at g_739_33 rfl).trans ex739_33); have := ((hQ641.at g_739_34 rfl).trans ex739_34); omega, by have := ((hQ641.at g_739_31 rfl).trans ex739_31); have := ((hQ641.at g_739_33 rfl).trans ex739_33); have := ((hQ641.at g_739_34 rfl).trans ex739_34); omega, by have := ((hQ641.at g_739_34 rfl).trans ex739_34); have := ((hQ641.at g_739_32 rfl).trans ex739_32); omega, by have := ((hQ641.at g_739_33 rfl).trans ex739_33); omega, by have := e650; omega, by have := ((hQ641.at g_739_33 rfl).trans ex739_33); have := e650; omega, by have := ((hQ641.at g_739_33 rfl).trans ex739_33); have := ((hQ641.at g_739_45 rfl).trans ex739_45); have := e650; omega, by have := ((hQ641.at g_739_45 rfl).trans ex739_45); omega, by have := ((hQ641.at g_739_44 rfl).trans ex739_44); have := ((hQ641.at g_739_33 rfl).trans ex739_33); have := e650; omega, by have := ((hQ641.at g_739_44 rfl).trans ex739_44); omega, by have := ((hQ641.at g_739_39 rfl).trans ex739_39); have := e650; omega, by have := ((hQ641.at g_739_39 rfl).trans ex739_39); have := e650; omega, by have := ((hQ641.at g_739_40 rfl).trans ex739_40); have := e650; omega, by have := e654; omega, by have := ((hQ641.at g_739_42 rfl).trans ex739_42); omega, by have := ((hQ641.at g_739_43 rfl).trans ex739_43); omega, by have := ((hQ641.at g_739_43 rfl).trans ex739_43); omega, by have := e654; have := e650; omega, by have := e654; have := e650; omega, by rw [((hQ641.at g_739_33 rfl).trans ex739_33), ((hQ641.at g_739_39 rfl).trans ex739_39), ((hQ641.at g_739_40 rfl).trans ex739_40), ((hQ641.at g_739_42 rfl).trans ex739_42), ((hQ641.at g_739_43 rfl).trans ex739_43), e650, e654]; exact ⟨F, RH_mb (c_bad xp2 xp1 (by omega) (by omega) (by omega) (by omega) (by omega) (by omega) (by omega) (by omega)) (by omega), fun q => absurd q (by omega)⟩, (TK_sm (Sm.fr hQ641 rfl) pp_TK), pr657, (MRP_sm (Sm.fr hQ641 rfl) pp_MR), pr658, (TXQ_sm (Sm.fr hQ641 rfl) pp_TQ), (TTP_sm (Sm.fr hQ641 rfl) pp_TT)⟩)
  refine wk_iclt r58_8 ⟨by omega, by omega⟩ (by decide) ?_ ?_
  · intro h13
    exact wp_fg (le_s (le_s le_0)) (c17_671 (by omega))
  · intro h14
    refine wk_il1 r58_11 (wk_c2 r58_12 ?_)
    refine wk_icle r58_14 ⟨by omega, by omega⟩ (by decide) ?_ ?_
    · intro h15
      refine wk_al0 r58_22 (wk_cv1 r58_23 kc_739_84 rfl (n8084_739 _ M0 x739_28 hP0 ex739_28 (by first | with_reducible assumption | omega) (by first | with_reducible assumption | omega)) (cqI ?_))
      rintro v22 M16 ⟨hP17, hQ18, h23, h24, h20, h21⟩
      obtain rfl := Fr.same hQ18
      have e25 := ex739_28
      refine wk_ifne r58_26 ⟨by omega, by omega⟩ ?_ ?_
      · intro h26
        refine wk_al0 r58_30 (wk_cv1 r58_31 kc_739_76 rfl (n8076_739 _ M0 x739_30 x739_31 T hP0 ex739_30 (by first | with_reducible assumption | omega) (by first | with_reducible assumption | omega) ex739_31 (by first | with_reducible assumption | omega) (by first | with_reducible assumption | omega) (by omega) pp_TQ) (cqV ?_))
        rintro M27 ⟨hP28, hQ29, h31, h32, h33, h34, h35, xh36, pr37, pr38, pr39⟩
        have hF30 : Fr fm_n8058_739 M0 M27 := hF0.tr hQ29 rfl
        have e40 := ((hQ29.at g_739_30 rfl).trans ex739_30)
        obtain ⟨v41, e42⟩ : ∃ v, M27 739 31 = v := ⟨_, rfl⟩
        have h43 := (bf_739_31 hP28).1; rw [e42] at h43
        have h44 := (bf_739_31 hP28).2; rw [e42] at h44
        obtain ⟨v45, e46⟩ : ∃ v, M27 739 33 = v := ⟨_, rfl⟩
        have h47 := (bf_739_33 hP28).1; rw [e46] at h47
        have h48 := (bf_739_33 hP28).2; rw [e46] at h48
        obtain ⟨v49, e50⟩ : ∃ v, M27 739 34 = v := ⟨_, rfl⟩
        have h51 := (bf_739_34 hP28).1; rw [e50] at h51
        have h52 := (bf_739_34 hP28).2; rw [e50] at h52
        obtain ⟨v53, e54⟩ : ∃ v, M27 739 32 = v := ⟨_, rfl⟩
        have h55 := (bf_739_32 hP28).1; rw [e54] at h55
        have h56 := (bf_739_32 hP28).2; rw [e54] at h56
        have hn57 := nx_ofm pp_TT ex739_30 ex739_33 ex739_31 xh36
        refine wk_il1 r58_34 ?_
        refine wk_sw4 r58_35 ⟨by omega, by omega⟩ ?_ ?_ ?_ ?_ ?_ ?_
        · intro h58
          have dF : FP M27 := (FP_sm (Sm.fr hQ29 rfl) pp_FP)
          have dT : M27 739 45 = x739_45 := ((hQ29.at g_739_45 rfl).trans ex739_45)
          have dK : M27 739 28 = x739_28 := ((hQ29.at g_739_28 rfl).trans ex739_28)
          have dN : M27 739 44 = x739_44 := ((hQ29.at g_739_44 rfl).trans ex739_44)
          refine wk_al0 r58_117 ?_
          obtain ⟨v59, e60⟩ : ∃ v, M27 739 36 = v := ⟨_, rfl⟩
          have h61 := (bf_739_36 hP28).1; rw [e60] at h61
          have h62 := (bf_739_36 hP28).2; rw [e60] at h62
          obtain ⟨v63, e64⟩ : ∃ v, M27 739 35 = v := ⟨_, rfl⟩
          have h65 := (bf_739_35 hP28).1; rw [e64] at h65
          have h66 := (bf_739_35 hP28).2; rw [e64] at h66
          refine wk_cv1 r58_118 kc_739_68 rfl (n8068_739 _ M27 x739_30 v41 v45 v49 v53 x739_28 x739_45 x739_46 x739_47 x739_38 v59 x739_51 v63 x739_29 T hP28 ((hQ29.at g_739_30 rfl).trans ex739_30) (by first | with_reducible assumption | omega) (by first | with_reducible assumption | omega) e42 (by first | with_reducible assumption | omega) (by first | with_reducible assumption | omega) e46 (by first | with_reducible assumption | omega) (by first | with_reducible assumption | omega) e50 (by first | with_reducible assumption | omega) (by first | with_reducible assumption | omega) e54 (by first | with_reducible assumption | omega) (by first | with_reducible assumption | omega) ((hQ29.at g_739_28 rfl).trans ex739_28) (by first | with_reducible assumption | omega) (by first | with_reducible assumption | omega) ((hQ29.at g_739_45 rfl).trans ex739_45) (by first | with_reducible assumption | omega) (by first | with_reducible assumption | omega) ((hQ29.at g_739_46 rfl).trans ex739_46) (by first | with_reducible assumption | omega) (by first | with_reducible assumption | omega) ((hQ29.at g_739_47 rfl).trans ex739_47) (by first | with_reducible assumption | omega) (by first | with_reducible assumption | omega) ((hQ29.at g_739_38 rfl).trans ex739_38) (by first | with_reducible assumption | omega) (by first | with_reducible assumption | omega) e60 (by first | with_reducible assumption | omega) (by first | with_reducible assumption | omega) ((hQ29.at g_739_51 rfl).trans ex739_51) (by first | with_reducible assumption | omega) (by first | with_reducible assumption | omega) e64 (by first | with_reducible assumption | omega) (by first | with_reducible assumption | omega) ((hQ29.at g_739_29 rfl).trans ex739_29) (by first | with_reducible assumption | omega) (by first | with_reducible assumption | omega) (by omega) (by omega) (by omega) (by omega) (by omega) (by omega) (by omega) pr37 pr38 pr39) (cqV ?_)
          rintro M67 ⟨hP68, hQ69, h71, h72, h73, h74, h75, h76, h77, h78, h79, h80, h81, xh82, xh83, pr84, pr85, pr86⟩
          have hF70 : Fr fm_n8058_739 M0 M67 := hF30.tr hQ69 rfl
          have e87 := ((hQ69.at g_739_30 rfl).trans ((hQ29.at g_739_30 rfl).trans ex739_30))
          obtain ⟨v88, e89⟩ : ∃ v, M67 739 31 = v := ⟨_, rfl⟩
          have h90 := (bf_739_31 hP68).1; rw [e89] at h90
          have h91 := (bf_739_31 hP68).2; rw [e89] at h91
          obtain ⟨v92, e93⟩ : ∃ v, M67 739 33 = v := ⟨_, rfl⟩
          have h94 := (bf_739_33 hP68).1; rw [e93] at h94
          have h95 := (bf_739_33 hP68).2; rw [e93] at h95
          obtain ⟨v96, e97⟩ : ∃ v, M67 739 34 = v := ⟨_, rfl⟩
          have h98 := (bf_739_34 hP68).1; rw [e97] at h98
          have h99 := (bf_739_34 hP68).2; rw [e97] at h99
          obtain ⟨v100, e101⟩ : ∃ v, M67 739 32 = v := ⟨_, rfl⟩
          have h102 := (bf_739_32 hP68).1; rw [e101] at h102
          have h103 := (bf_739_32 hP68).2; rw [e101] at h103
          obtain ⟨v104, e105⟩ : ∃ v, M67 739 28 = v := ⟨_, rfl⟩
          have h106 := (bf_739_28 hP68).1; rw [e105] at h106
          have h107 := (bf_739_28 hP68).2; rw [e105] at h107
          obtain ⟨v108, e109⟩ : ∃ v, M67 739 45 = v := ⟨_, rfl⟩
          have h110 := (bf_739_45 hP68).1; rw [e109] at h110
          have h111 := (bf_739_45 hP68).2; rw [e109] at h111
          obtain ⟨v112, e113⟩ : ∃ v, M67 739 29 = v := ⟨_, rfl⟩
          have h114 := (bf_739_29 hP68).1; rw [e113] at h114
          have h115 := (bf_739_29 hP68).2; rw [e113] at h115
          have pr116 : LRP M67 := LRP_mn (Sm.fr hQ69 rfl) (fun q => by have := ((hQ29.at g_739_28 rfl).trans ex739_28); have := e105; omega) (LRP_sm (Sm.fr hQ29 rfl) pp_LP)
          have dS := xh82
          refine wk_al0 r58_121 (wk_dupr r58_122 (wk_getfi r58_123 fd_739_44 ((hQ69.at g_739_44 rfl).trans ((hQ29.at g_739_44 rfl).trans ex739_44)) (wk_c1 r58_126 (wk_iadd r58_127 (wk_putfi81 r58_128 fd_739_44 (wk_nw g_739_44 rfl hP68 hF70 (uf_739_44 ⟨by omega, by omega⟩) ?_))))))
          intro M117 hP118 hF119 e120
          have pr121 : FP M117 := FP_step dF dT (dK.trans (by omega)) dS (((hQ69.at g_739_44 rfl).trans ((hQ29.at g_739_44 rfl).trans ex739_44)).trans dN.symm) e120 (by rw [((hQ69.at g_739_44 rfl).trans ((hQ29.at g_739_44 rfl).trans ex739_44))])
          have hrg := ((xh83).resolve_left (fun q => q.1 (by omega))).2; rw [e93, e105, e113, show OW M27 = OW M0 from (OWe_sm (Sm.fr hQ29 rfl) (OWe_rf M0))] at hrg
          have hfm : v104 = 0 → FLm T x739_30 x739_38 (F ++ [v45]) (OW M67).1 ∧ ((x739_44 + 1) : Int) = (F ++ [v45]).length := fun q => by obtain ⟨Ox, e, c⟩ := CDM_of hrg q; rw [len1]; exact ⟨FLm_add xp3.1 c e, by omega⟩
          have hr5 : RH T x739_30 x739_38 i0 5 v92 (x739_39, x739_40, ltI x739_42, x739_43 - 1, nrF (fun k => M117 756 k) x739_42 (F ++ [v45])) v104 v112 := RH_c (q_fact (s1 := v45) xp2 (by omega) (by omega) (RGX_r hrg) (fun _ => (nr_addM _ _ _ _).symm)) rfl rfl rfl rfl rfl (nr_eq (fun k _ _ => ((fun k => mUp_no e120 ((fun k => (hQ69.at (ga_756 k) rfl).trans ((fun k => (hQ29.at (ga_756 k) rfl).trans (hu2 k)) k)) k) (Or.inl (by decide))) k).trans (hu2 k).symm) rfl rfl) rfl rfl
          obtain ⟨u122, hu123⟩ : ∃ u : Int → Int, ∀ k, M117 756 k = u k := ⟨fun k => M117 756 k, fun k => rfl⟩
          refine wk_al0 r58_131 (wk_cv1 r58_132 kc_739_65 rfl (n8065_739 _ M117 x739_30 v88 v92 v96 v100 v104 v112 T hP118 (mUp_no e120 ((hQ69.at g_739_30 rfl).trans ((hQ29.at g_739_30 rfl).trans ex739_30)) (Or.inr (by decide))) (by first | with_reducible assumption | omega) (by first | with_reducible assumption | omega) (mUp_no e120 e89 (Or.inr (by decide))) (by first | with_reducible assumption | omega) (by first | with_reducible assumption | omega) (mUp_no e120 e93 (Or.inr (by decide))) (by first | with_reducible assumption | omega) (by first | with_reducible assumption | omega) (mUp_no e120 e97 (Or.inr (by decide))) (by first | with_reducible assumption | omega) (by first | with_reducible assumption | omega) (mUp_no e120 e101 (Or.inr (by decide))) (by first | with_reducible assumption | omega) (by first | with_reducible assumption | omega) (mUp_no e120 e105 (Or.inr (by decide))) (by first | with_reducible assumption | omega) (by first | with_reducible assumption | omega) (mUp_no e120 e113 (Or.inr (by decide))) (by first | with_reducible assumption | omega) (by first | with_reducible assumption | omega) (by omega) (by omega) (by omega) (by omega) (TK_sm (Sm.up e120 g_739_44 rfl) pr84) (TXQ_sm (Sm.up e120 g_739_44 rfl) pr85) (TTP_sm (Sm.up e120 g_739_44 rfl) pr86)) (cqV ?_))
          rintro M124 ⟨hP125, hQ126, h128, h129, h130, h131, h132, h133, h134, h135, h136, h137, xh138, pr139, pr140, pr141⟩
          have hF127 : Fr fm_n8058_739 M0 M124 := hF119.tr hQ126 rfl
          have e142 := ((hQ126.at g_739_30 rfl).trans (mUp_no e120 ((hQ69.at g_739_30 rfl).trans ((hQ29.at g_739_30 rfl).trans ex739_30)) (Or.inr (by decide))))
          obtain ⟨v143, e144⟩ : ∃ v, M124 739 31 = v := ⟨_, rfl⟩
          have h145 := (bf_739_31 hP125).1; rw [e144] at h145
          have h146 := (bf_739_31 hP125).2; rw [e144] at h146
          obtain ⟨v147, e148⟩ : ∃ v, M124 739 33 = v := ⟨_, rfl⟩
          have h149 := (bf_739_33 hP125).1; rw [e148] at h149
          have h150 := (bf_739_33 hP125).2; rw [e148] at h150
          obtain ⟨v151, e152⟩ : ∃ v, M124 739 34 = v := ⟨_, rfl⟩
          have h153 := (bf_739_34 hP125).1; rw [e152] at h153
          have h154 := (bf_739_34 hP125).2; rw [e152] at h154
          obtain ⟨v155, e156⟩ : ∃ v, M124 739 32 = v := ⟨_, rfl⟩
          have h157 := (bf_739_32 hP125).1; rw [e156] at h157
          have h158 := (bf_739_32 hP125).2; rw [e156] at h158
          obtain ⟨v159, e160⟩ : ∃ v, M124 739 28 = v := ⟨_, rfl⟩
          have h161 := (bf_739_28 hP125).1; rw [e160] at h161
          have h162 := (bf_739_28 hP125).2; rw [e160] at h162
          obtain ⟨v163, e164⟩ : ∃ v, M124 739 29 = v := ⟨_, rfl⟩
          have h165 := (bf_739_29 hP125).1; rw [e164] at h165
          have h166 := (bf_739_29 hP125).2; rw [e164] at h166
          have pr167 : LRP M124 := LRP_mn (Sm.fr hQ126 rfl) (fun q => by have := (mUp_no e120 e105 (Or.inr (by decide))); have := e160; omega) (LRP_sm (Sm.up e120 g_739_44 rfl) pr116)
          have pr168 : FP M124 := FP_mn (Sm.fr hQ126 rfl) (fun q => by have := (mUp_no e120 e105 (Or.inr (by decide))); have := e160; omega) pr121
          subst hQ; exact wk_ret r58_135 (⟨rfl, hP125, hF127, by have := ((hQ126.at g_739_30 rfl).trans (mUp_no e120 ((hQ69.at g_739_30 rfl).trans ((hQ29.at g_739_30 rfl).trans ex739_30)) (Or.inr (by decide)))); have := e144; omega, by have := e144; have := e148; have := e152; omega, by have := e144; have := e148; have := e152; omega, by have := e152; have := e156; omega, by have := e148; omega, by have := e160; omega, by have := e148; have := e160; omega, by have := e148; have := ((hQ126.at g_739_45 rfl).trans (mUp_no e120 e109 (Or.inr (by decide)))); have := e160; omega, by have := ((hQ126.at g_739_45 rfl).trans (mUp_no e120 e109 (Or.inr (by decide)))); omega, by have := ((hQ126.at g_739_44 rfl).trans (mUp_at e120)); have := e148; have := e160; omega, by have := ((hQ126.at g_739_44 rfl).trans (mUp_at e120)); omega, by have := ((hQ126.at g_739_39 rfl).trans (mUp_no e120 ((hQ69.at g_739_39 rfl).trans ((hQ29.at g_739_39 rfl).trans ex739_39)) (Or.inr (by decide)))); have := e160; omega, by have := ((hQ126.at g_739_39 rfl).trans (mUp_no e120 ((hQ69.at g_739_39 rfl).trans ((hQ29.at g_739_39 rfl).trans ex739_39)) (Or.inr (by decide)))); have := e160; omega, by have := ((hQ126.at g_739_40 rfl).trans (mUp_no e120 ((hQ69.at g_739_40 rfl).trans ((hQ29.at g_739_40 rfl).trans ex739_40)) (Or.inr (by decide)))); have := e160; omega, by have := e164; omega, by have := ((hQ126.at g_739_42 rfl).trans (mUp_no e120 ((hQ69.at g_739_42 rfl).trans ((hQ29.at g_739_42 rfl).trans ex739_42)) (Or.inr (by decide)))); omega, by have := ((hQ126.at g_739_43 rfl).trans (mUp_no e120 ((hQ69.at g_739_43 rfl).trans ((hQ29.at g_739_43 rfl).trans ex739_43)) (Or.inr (by decide)))); omega, by have := ((hQ126.at g_739_43 rfl).trans (mUp_no e120 ((hQ69.at g_739_43 rfl).trans ((hQ29.at g_739_43 rfl).trans ex739_43)) (Or.inr (by decide)))); omega, by have := e164; have := e160; omega, by have := e164; have := e160; omega, by rw [e148, ((hQ126.at g_739_39 rfl).trans (mUp_no e120 ((hQ69.at g_739_39 rfl).trans ((hQ29.at g_739_39 rfl).trans ex739_39)) (Or.inr (by decide)))), ((hQ126.at g_739_40 rfl).trans (mUp_no e120 ((hQ69.at g_739_40 rfl).trans ((hQ29.at g_739_40 rfl).trans ex739_40)) (Or.inr (by decide)))), ((hQ126.at g_739_42 rfl).trans (mUp_no e120 ((hQ69.at g_739_42 rfl).trans ((hQ29.at g_739_42 rfl).trans ex739_42)) (Or.inr (by decide)))), ((hQ126.at g_739_43 rfl).trans (mUp_no e120 ((hQ69.at g_739_43 rfl).trans ((hQ29.at g_739_43 rfl).trans ex739_43)) (Or.inr (by decide)))), e160, e164]; exact ⟨(F ++ [v45]), RH_c (RH_s hr5 (by omega)) rfl rfl rfl rfl rfl (nr_eq (fun k _ _ => ((fun k => (hQ126.at (ga_756 k) rfl).trans (hu123 k)) k).trans (hu123 k).symm) rfl rfl) rfl rfl, fun q => by rw [show (OW M124).1 = (OW M67).1 from congrArg Prod.fst (OWe_sm (Sm.fr hQ126 rfl) (OWe_sm (Sm.up e120 g_739_44 rfl) (OWe_rf M67))), ((hQ126.at g_739_44 rfl).trans (mUp_at e120))]; exact hfm (by omega)⟩, pr139, pr168, (MRP_sm (Sm.fr hQ126 rfl) (MRP_sm (Sm.up e120 g_739_44 rfl) (MRP_sm (Sm.fr hQ69 rfl) (MRP_sm (Sm.fr hQ29 rfl) pp_MR)))), pr167, pr140, pr141⟩)
        · intro h169
          refine wk_al0 r58_68 ?_
          obtain ⟨v170, e171⟩ : ∃ v, M27 739 35 = v := ⟨_, rfl⟩
          have h172 := (bf_739_35 hP28).1; rw [e171] at h172
          have h173 := (bf_739_35 hP28).2; rw [e171] at h173
          obtain ⟨v174, e175⟩ : ∃ v, M27 739 36 = v := ⟨_, rfl⟩
          have h176 := (bf_739_36 hP28).1; rw [e175] at h176
          have h177 := (bf_739_36 hP28).2; rw [e175] at h177
          refine wk_cv1 r58_69 kc_739_120 rfl (n8120_739 _ M27 x739_30 v41 v45 v49 v53 x739_28 v170 x739_38 v174 x739_29 T i0 x739_39 x739_40 ((ltI x739_42)) ((x739_43 - 1)) x739_42 F hP28 ((hQ29.at g_739_30 rfl).trans ex739_30) (by first | with_reducible assumption | omega) (by first | with_reducible assumption | omega) e42 (by first | with_reducible assumption | omega) (by first | with_reducible assumption | omega) e46 (by first | with_reducible assumption | omega) (by first | with_reducible assumption | omega) e50 (by first | with_reducible assumption | omega) (by first | with_reducible assumption | omega) e54 (by first | with_reducible assumption | omega) (by first | with_reducible assumption | omega) ((hQ29.at g_739_28 rfl).trans ex739_28) (by first | with_reducible assumption | omega) (by first | with_reducible assumption | omega) e171 (by first | with_reducible assumption | omega) (by first | with_reducible assumption | omega) ((hQ29.at g_739_38 rfl).trans ex739_38) (by first | with_reducible assumption | omega) (by first | with_reducible assumption | omega) e175 (by first | with_reducible assumption | omega) (by first | with_reducible assumption | omega) ((hQ29.at g_739_29 rfl).trans ex739_29) (by first | with_reducible assumption | omega) (by first | with_reducible assumption | omega) (by omega) (by omega) (by omega) (by omega) (by omega) (by omega) (CX_m2 xp2 (by omega) (by omega) (nr_eq (fun k _ _ => ((fun k => (hQ29.at (ga_756 k) rfl).trans (hu2 k)) k).trans (hu2 k).symm) rfl rfl)) pr37 (MRP_sm (Sm.fr hQ29 rfl) pp_MR) pr38 pr39) (cqV ?_)
          rintro M178 ⟨hP179, hQ180, h182, h183, h184, h185, h186, h187, h188, h189, h190, xh191, pr192, pr193, pr194, pr195⟩
          have hF181 : Fr fm_n8058_739 M0 M178 := hF30.tr hQ180 rfl
          have e196 := ((hQ180.at g_739_30 rfl).trans ((hQ29.at g_739_30 rfl).trans ex739_30))
          obtain ⟨v197, e198⟩ : ∃ v, M178 739 31 = v := ⟨_, rfl⟩
          have h199 := (bf_739_31 hP179).1; rw [e198] at h199
          have h200 := (bf_739_31 hP179).2; rw [e198] at h200
          obtain ⟨v201, e202⟩ : ∃ v, M178 739 33 = v := ⟨_, rfl⟩
          have h203 := (bf_739_33 hP179).1; rw [e202] at h203
          have h204 := (bf_739_33 hP179).2; rw [e202] at h204
          obtain ⟨v205, e206⟩ : ∃ v, M178 739 34 = v := ⟨_, rfl⟩
          have h207 := (bf_739_34 hP179).1; rw [e206] at h207
          have h208 := (bf_739_34 hP179).2; rw [e206] at h208
          obtain ⟨v209, e210⟩ : ∃ v, M178 739 32 = v := ⟨_, rfl⟩
          have h211 := (bf_739_32 hP179).1; rw [e210] at h211
          have h212 := (bf_739_32 hP179).2; rw [e210] at h212
          obtain ⟨v213, e214⟩ : ∃ v, M178 739 28 = v := ⟨_, rfl⟩
          have h215 := (bf_739_28 hP179).1; rw [e214] at h215
          have h216 := (bf_739_28 hP179).2; rw [e214] at h216
          obtain ⟨v217, e218⟩ : ∃ v, M178 739 29 = v := ⟨_, rfl⟩
          have h219 := (bf_739_29 hP179).1; rw [e218] at h219
          have h220 := (bf_739_29 hP179).2; rw [e218] at h220
          have pr221 : FP M178 := FP_mn (Sm.fr hQ180 rfl) (fun q => by have := ((hQ29.at g_739_28 rfl).trans ex739_28); have := e214; omega) (FP_sm (Sm.fr hQ29 rfl) pp_FP)
          have pr222 : LRP M178 := LRP_mn (Sm.fr hQ180 rfl) (fun q => by have := ((hQ29.at g_739_28 rfl).trans ex739_28); have := e214; omega) (LRP_sm (Sm.fr hQ29 rfl) pp_LP)
          refine wk_goto r58_72 ?_
          have hr5 : RH T x739_30 x739_38 i0 5 v201 (x739_39, x739_40, ltI x739_42, x739_43 - 1, nrF (fun k => M178 756 k) x739_42 F) v213 v217 := by have q8 := xh191; rw [e202, e214, e218] at q8; exact q8
          obtain ⟨u223, hu224⟩ : ∃ u : Int → Int, ∀ k, M178 756 k = u k := ⟨fun k => M178 756 k, fun k => rfl⟩
          refine wk_al0 r58_131 (wk_cv1 r58_132 kc_739_65 rfl (n8065_739 _ M178 x739_30 v197 v201 v205 v209 v213 v217 T hP179 ((hQ180.at g_739_30 rfl).trans ((hQ29.at g_739_30 rfl).trans ex739_30)) (by first | with_reducible assumption | omega) (by first | with_reducible assumption | omega) e198 (by first | with_reducible assumption | omega) (by first | with_reducible assumption | omega) e202 (by first | with_reducible assumption | omega) (by first | with_reducible assumption | omega) e206 (by first | with_reducible assumption | omega) (by first | with_reducible assumption | omega) e210 (by first | with_reducible assumption | omega) (by first | with_reducible assumption | omega) e214 (by first | with_reducible assumption | omega) (by first | with_reducible assumption | omega) e218 (by first | with_reducible assumption | omega) (by first | with_reducible assumption | omega) (by omega) (by omega) (by omega) (by omega) pr192 pr194 pr195) (cqV ?_))
          rintro M225 ⟨hP226, hQ227, h229, h230, h231, h232, h233, h234, h235, h236, h237, h238, xh239, pr240, pr241, pr242⟩
          have hF228 : Fr fm_n8058_739 M0 M225 := hF181.tr hQ227 rfl
          have e243 := ((hQ227.at g_739_30 rfl).trans ((hQ180.at g_739_30 rfl).trans ((hQ29.at g_739_30 rfl).trans ex739_30)))
          obtain ⟨v244, e245⟩ : ∃ v, M225 739 31 = v := ⟨_, rfl⟩
          have h246 := (bf_739_31 hP226).1; rw [e245] at h246
          have h247 := (bf_739_31 hP226).2; rw [e245] at h247
          obtain ⟨v248, e249⟩ : ∃ v, M225 739 33 = v := ⟨_, rfl⟩
          have h250 := (bf_739_33 hP226).1; rw [e249] at h250
          have h251 := (bf_739_33 hP226).2; rw [e249] at h251
          obtain ⟨v252, e253⟩ : ∃ v, M225 739 34 = v := ⟨_, rfl⟩
          have h254 := (bf_739_34 hP226).1; rw [e253] at h254
          have h255 := (bf_739_34 hP226).2; rw [e253] at h255
          obtain ⟨v256, e257⟩ : ∃ v, M225 739 32 = v := ⟨_, rfl⟩
          have h258 := (bf_739_32 hP226).1; rw [e257] at h258
          have h259 := (bf_739_32 hP226).2; rw [e257] at h259
          obtain ⟨v260, e261⟩ : ∃ v, M225 739 28 = v := ⟨_, rfl⟩
          have h262 := (bf_739_28 hP226).1; rw [e261] at h262
          have h263 := (bf_739_28 hP226).2; rw [e261] at h263
          obtain ⟨v264, e265⟩ : ∃ v, M225 739 29 = v := ⟨_, rfl⟩
          have h266 := (bf_739_29 hP226).1; rw [e265] at h266
          have h267 := (bf_739_29 hP226).2; rw [e265] at h267
          have pr268 : FP M225 := FP_mn (Sm.fr hQ227 rfl) (fun q => by have := e214; have := e261; omega) pr221
          have pr269 : LRP M225 := LRP_mn (Sm.fr hQ227 rfl) (fun q => by have := e214; have := e261; omega) pr222
          subst hQ; exact wk_ret r58_135 (⟨rfl, hP226, hF228, by have := ((hQ227.at g_739_30 rfl).trans ((hQ180.at g_739_30 rfl).trans ((hQ29.at g_739_30 rfl).trans ex739_30))); have := e245; omega, by have := e245; have := e249; have := e253; omega, by have := e245; have := e249; have := e253; omega, by have := e253; have := e257; omega, by have := e249; omega, by have := e261; omega, by have := e249; have := e261; omega, by have := e249; have := ((hQ227.at g_739_45 rfl).trans ((hQ180.at g_739_45 rfl).trans ((hQ29.at g_739_45 rfl).trans ex739_45))); have := e261; omega, by have := ((hQ227.at g_739_45 rfl).trans ((hQ180.at g_739_45 rfl).trans ((hQ29.at g_739_45 rfl).trans ex739_45))); omega, by have := ((hQ227.at g_739_44 rfl).trans ((hQ180.at g_739_44 rfl).trans ((hQ29.at g_739_44 rfl).trans ex739_44))); have := e249; have := e261; omega, by have := ((hQ227.at g_739_44 rfl).trans ((hQ180.at g_739_44 rfl).trans ((hQ29.at g_739_44 rfl).trans ex739_44))); omega, by have := ((hQ227.at g_739_39 rfl).trans ((hQ180.at g_739_39 rfl).trans ((hQ29.at g_739_39 rfl).trans ex739_39))); have := e261; omega, by have := ((hQ227.at g_739_39 rfl).trans ((hQ180.at g_739_39 rfl).trans ((hQ29.at g_739_39 rfl).trans ex739_39))); have := e261; omega, by have := ((hQ227.at g_739_40 rfl).trans ((hQ180.at g_739_40 rfl).trans ((hQ29.at g_739_40 rfl).trans ex739_40))); have := e261; omega, by have := e265; omega, by have := ((hQ227.at g_739_42 rfl).trans ((hQ180.at g_739_42 rfl).trans ((hQ29.at g_739_42 rfl).trans ex739_42))); omega, by have := ((hQ227.at g_739_43 rfl).trans ((hQ180.at g_739_43 rfl).trans ((hQ29.at g_739_43 rfl).trans ex739_43))); omega, by have := ((hQ227.at g_739_43 rfl).trans ((hQ180.at g_739_43 rfl).trans ((hQ29.at g_739_43 rfl).trans ex739_43))); omega, by have := e265; have := e261; omega, by have := e265; have := e261; omega, by rw [e249, ((hQ227.at g_739_39 rfl).trans ((hQ180.at g_739_39 rfl).trans ((hQ29.at g_739_39 rfl).trans ex739_39))), ((hQ227.at g_739_40 rfl).trans ((hQ180.at g_739_40 rfl).trans ((hQ29.at g_739_40 rfl).trans ex739_40))), ((hQ227.at g_739_42 rfl).trans ((hQ180.at g_739_42 rfl).trans ((hQ29.at g_739_42 rfl).trans ex739_42))), ((hQ227.at g_739_43 rfl).trans ((hQ180.at g_739_43 rfl).trans ((hQ29.at g_739_43 rfl).trans ex739_43))), e261, e265]; exact ⟨F, RH_c (RH_s hr5 (by omega)) rfl rfl rfl rfl rfl (nr_eq (fun k _ _ => ((fun k => (hQ227.at (ga_756 k) rfl).trans (hu224 k)) k).trans (hu224 k).symm) rfl rfl) rfl rfl, fun q => by rw [show (OW M225).1 = (OW M0).1 from congrArg Prod.fst (OWe_sm (Sm.fr hQ227 rfl) (OWe_sm (Sm.fr hQ180 rfl) (OWe_sm (Sm.fr hQ29 rfl) (OWe_rf M0)))), ((hQ227.at g_739_44 rfl).trans ((hQ180.at g_739_44 rfl).trans ((hQ29.at g_739_44 rfl).trans ex739_44)))]; exact ⟨xp3.1, by omega⟩⟩, pr240, pr268, (MRP_sm (Sm.fr hQ227 rfl) pr193), pr269, pr241, pr242⟩)
        · intro h270
          refine wk_al0 r58_75 (wk_al0 r58_76 (wk_c1 r58_77 (wk_c1 r58_78 ?_)))
          obtain ⟨v271, e272⟩ : ∃ v, M27 739 35 = v := ⟨_, rfl⟩
          have h273 := (bf_739_35 hP28).1; rw [e272] at h273
          have h274 := (bf_739_35 hP28).2; rw [e272] at h274
          refine wk_cv3 r58_79 kc_739_114 rfl (n8114_739 _ M27 1 4 x739_30 v41 v45 v49 v53 x739_28 v271 x739_29 T hP28 (by decide) (by decide) (by decide) (by decide) ((hQ29.at g_739_30 rfl).trans ex739_30) (by first | with_reducible assumption | omega) (by first | with_reducible assumption | omega) e42 (by first | with_reducible assumption | omega) (by first | with_reducible assumption | omega) e46 (by first | with_reducible assumption | omega) (by first | with_reducible assumption | omega) e50 (by first | with_reducible assumption | omega) (by first | with_reducible assumption | omega) e54 (by first | with_reducible assumption | omega) (by first | with_reducible assumption | omega) ((hQ29.at g_739_28 rfl).trans ex739_28) (by first | with_reducible assumption | omega) (by first | with_reducible assumption | omega) e272 (by first | with_reducible assumption | omega) (by first | with_reducible assumption | omega) ((hQ29.at g_739_29 rfl).trans ex739_29) (by first | with_reducible assumption | omega) (by first | with_reducible assumption | omega) (by omega) (by omega) (by omega) (by omega) pr37 pr38 pr39) (cqI ?_)
          rintro v295 M275 ⟨hP276, hQ277, h296, h297, h279, h280, h281, h282, h283, h284, h285, h286, h287, h288, h289, h290, xh291, pr292, pr293, pr294⟩
          have hF278 : Fr fm_n8058_739 M0 M275 := hF30.tr hQ277 rfl
          have e298 := ((hQ277.at g_739_30 rfl).trans ((hQ29.at g_739_30 rfl).trans ex739_30))
          obtain ⟨v299, e300⟩ : ∃ v, M275 739 31 = v := ⟨_, rfl⟩
          have h301 := (bf_739_31 hP276).1; rw [e300] at h301
          have h302 := (bf_739_31 hP276).2; rw [e300] at h302
          obtain ⟨v303, e304⟩ : ∃ v, M275 739 33 = v := ⟨_, rfl⟩
          have h305 := (bf_739_33 hP276).1; rw [e304] at h305
          have h306 := (bf_739_33 hP276).2; rw [e304] at h306
          obtain ⟨v307, e308⟩ : ∃ v, M275 739 34 = v := ⟨_, rfl⟩
          have h309 := (bf_739_34 hP276).1; rw [e308] at h309
          have h310 := (bf_739_34 hP276).2; rw [e308] at h310
          obtain ⟨v311, e312⟩ : ∃ v, M275 739 32 = v := ⟨_, rfl⟩
          have h313 := (bf_739_32 hP276).1; rw [e312] at h313
          have h314 := (bf_739_32 hP276).2; rw [e312] at h314
          obtain ⟨v315, e316⟩ : ∃ v, M275 739 28 = v := ⟨_, rfl⟩
          have h317 := (bf_739_28 hP276).1; rw [e316] at h317
          have h318 := (bf_739_28 hP276).2; rw [e316] at h318
          obtain ⟨v319, e320⟩ : ∃ v, M275 739 29 = v := ⟨_, rfl⟩
          have h321 := (bf_739_29 hP276).1; rw [e320] at h321
          have h322 := (bf_739_29 hP276).2; rw [e320] at h322
          have pr323 : FP M275 := FP_mn (Sm.fr hQ277 rfl) (fun q => by have := ((hQ29.at g_739_28 rfl).trans ex739_28); have := e316; omega) (FP_sm (Sm.fr hQ29 rfl) pp_FP)
          have pr324 : LRP M275 := LRP_mn (Sm.fr hQ277 rfl) (fun q => by have := ((hQ29.at g_739_28 rfl).trans ex739_28); have := e316; omega) (LRP_sm (Sm.fr hQ29 rfl) pp_LP)
          refine wk_putfi81 r58_82 fd_739_39 (wk_nw g_739_39 rfl hP276 hF278 (uf_739_39 ⟨by omega, by omega⟩) ?_)
          intro M325 hP326 hF327 e328
          refine wk_goto r58_85 ?_
          have hr5 : RH T x739_30 x739_38 i0 5 v303 (v295, x739_40, ltI x739_42, x739_43 - 1, nrF (fun k => M325 756 k) x739_42 F) v315 v319 := RH_c (q_roads (ro2 := v295) (s1 := v45) (s := v303) xp2 (by omega) (by omega) (by omega)) rfl rfl rfl rfl rfl (nr_eq (fun k _ _ => ((fun k => mUp_no e328 ((fun k => (hQ277.at (ga_756 k) rfl).trans ((fun k => (hQ29.at (ga_756 k) rfl).trans (hu2 k)) k)) k) (Or.inl (by decide))) k).trans (hu2 k).symm) rfl rfl) rfl rfl
          obtain ⟨u329, hu330⟩ : ∃ u : Int → Int, ∀ k, M325 756 k = u k := ⟨fun k => M325 756 k, fun k => rfl⟩
          refine wk_al0 r58_131 (wk_cv1 r58_132 kc_739_65 rfl (n8065_739 _ M325 x739_30 v299 v303 v307 v311 v315 v319 T hP326 (mUp_no e328 ((hQ277.at g_739_30 rfl).trans ((hQ29.at g_739_30 rfl).trans ex739_30)) (Or.inr (by decide))) (by first | with_reducible assumption | omega) (by first | with_reducible assumption | omega) (mUp_no e328 e300 (Or.inr (by decide))) (by first | with_reducible assumption | omega) (by first | with_reducible assumption | omega) (mUp_no e328 e304 (Or.inr (by decide))) (by first | with_reducible assumption | omega) (by first | with_reducible assumption | omega) (mUp_no e328 e308 (Or.inr (by decide))) (by first | with_reducible assumption | omega) (by first | with_reducible assumption | omega) (mUp_no e328 e312 (Or.inr (by decide))) (by first | with_reducible assumption | omega) (by first | with_reducible assumption | omega) (mUp_no e328 e316 (Or.inr (by decide))) (by first | with_reducible assumption | omega) (by first | with_reducible assumption | omega) (mUp_no e328 e320 (Or.inr (by decide))) (by first | with_reducible assumption | omega) (by first | with_reducible assumption | omega) (by omega) (by omega) (by omega) (by omega) (TK_sm (Sm.up e328 g_739_39 rfl) pr292) (TXQ_sm (Sm.up e328 g_739_39 rfl) pr293) (TTP_sm (Sm.up e328 g_739_39 rfl) pr294)) (cqV ?_))
          rintro M331 ⟨hP332, hQ333, h335, h336, h337, h338, h339, h340, h341, h342, h343, h344, xh345, pr346, pr347, pr348⟩
          have hF334 : Fr fm_n8058_739 M0 M331 := hF327.tr hQ333 rfl
          have e349 := ((hQ333.at g_739_30 rfl).trans (mUp_no e328 ((hQ277.at g_739_30 rfl).trans ((hQ29.at g_739_30 rfl).trans ex739_30)) (Or.inr (by decide))))
          obtain ⟨v350, e351⟩ : ∃ v, M331 739 31 = v := ⟨_, rfl⟩
          have h352 := (bf_739_31 hP332).1; rw [e351] at h352
          have h353 := (bf_739_31 hP332).2; rw [e351] at h353
          obtain ⟨v354, e355⟩ : ∃ v, M331 739 33 = v := ⟨_, rfl⟩
          have h356 := (bf_739_33 hP332).1; rw [e355] at h356
          have h357 := (bf_739_33 hP332).2; rw [e355] at h357
          obtain ⟨v358, e359⟩ : ∃ v, M331 739 34 = v := ⟨_, rfl⟩
          have h360 := (bf_739_34 hP332).1; rw [e359] at h360
          have h361 := (bf_739_34 hP332).2; rw [e359] at h361
          obtain ⟨v362, e363⟩ : ∃ v, M331 739 32 = v := ⟨_, rfl⟩
          have h364 := (bf_739_32 hP332).1; rw [e363] at h364
          have h365 := (bf_739_32 hP332).2; rw [e363] at h365
          obtain ⟨v366, e367⟩ : ∃ v, M331 739 28 = v := ⟨_, rfl⟩
          have h368 := (bf_739_28 hP332).1; rw [e367] at h368
          have h369 := (bf_739_28 hP332).2; rw [e367] at h369
          obtain ⟨v370, e371⟩ : ∃ v, M331 739 29 = v := ⟨_, rfl⟩
          have h372 := (bf_739_29 hP332).1; rw [e371] at h372
          have h373 := (bf_739_29 hP332).2; rw [e371] at h373
          have pr374 : FP M331 := FP_mn (Sm.fr hQ333 rfl) (fun q => by have := (mUp_no e328 e316 (Or.inr (by decide))); have := e367; omega) (FP_sm (Sm.up e328 g_739_39 rfl) pr323)
          have pr375 : LRP M331 := LRP_mn (Sm.fr hQ333 rfl) (fun q => by have := (mUp_no e328 e316 (Or.inr (by decide))); have := e367; omega) (LRP_sm (Sm.up e328 g_739_39 rfl) pr324)
          subst hQ; exact wk_ret r58_135 (⟨rfl, hP332, hF334, by have := ((hQ333.at g_739_30 rfl).trans (mUp_no e328 ((hQ277.at g_739_30 rfl).trans ((hQ29.at g_739_30 rfl).trans ex739_30)) (Or.inr (by decide)))); have := e351; omega, by have := e351; have := e355; have := e359; omega, by have := e351; have := e355; have := e359; omega, by have := e359; have := e363; omega, by have := e355; omega, by have := e367; omega, by have := e355; have := e367; omega, by have := e355; have := ((hQ333.at g_739_45 rfl).trans (mUp_no e328 ((hQ277.at g_739_45 rfl).trans ((hQ29.at g_739_45 rfl).trans ex739_45)) (Or.inr (by decide)))); have := e367; omega, by have := ((hQ333.at g_739_45 rfl).trans (mUp_no e328 ((hQ277.at g_739_45 rfl).trans ((hQ29.at g_739_45 rfl).trans ex739_45)) (Or.inr (by decide)))); omega, by have := ((hQ333.at g_739_44 rfl).trans (mUp_no e328 ((hQ277.at g_739_44 rfl).trans ((hQ29.at g_739_44 rfl).trans ex739_44)) (Or.inr (by decide)))); have := e355; have := e367; omega, by have := ((hQ333.at g_739_44 rfl).trans (mUp_no e328 ((hQ277.at g_739_44 rfl).trans ((hQ29.at g_739_44 rfl).trans ex739_44)) (Or.inr (by decide)))); omega, by have := ((hQ333.at g_739_39 rfl).trans (mUp_at e328)); have := e367; omega, by have := ((hQ333.at g_739_39 rfl).trans (mUp_at e328)); have := e367; omega, by have := ((hQ333.at g_739_40 rfl).trans (mUp_no e328 ((hQ277.at g_739_40 rfl).trans ((hQ29.at g_739_40 rfl).trans ex739_40)) (Or.inr (by decide)))); have := e367; omega, by have := e371; omega, by have := ((hQ333.at g_739_42 rfl).trans (mUp_no e328 ((hQ277.at g_739_42 rfl).trans ((hQ29.at g_739_42 rfl).trans ex739_42)) (Or.inr (by decide)))); omega, by have := ((hQ333.at g_739_43 rfl).trans (mUp_no e328 ((hQ277.at g_739_43 rfl).trans ((hQ29.at g_739_43 rfl).trans ex739_43)) (Or.inr (by decide)))); omega, by have := ((hQ333.at g_739_43 rfl).trans (mUp_no e328 ((hQ277.at g_739_43 rfl).trans ((hQ29.at g_739_43 rfl).trans ex739_43)) (Or.inr (by decide)))); omega, by have := e371; have := e367; omega, by have := e371; have := e367; omega, by rw [e355, ((hQ333.at g_739_39 rfl).trans (mUp_at e328)), ((hQ333.at g_739_40 rfl).trans (mUp_no e328 ((hQ277.at g_739_40 rfl).trans ((hQ29.at g_739_40 rfl).trans ex739_40)) (Or.inr (by decide)))), ((hQ333.at g_739_42 rfl).trans (mUp_no e328 ((hQ277.at g_739_42 rfl).trans ((hQ29.at g_739_42 rfl).trans ex739_42)) (Or.inr (by decide)))), ((hQ333.at g_739_43 rfl).trans (mUp_no e328 ((hQ277.at g_739_43 rfl).trans ((hQ29.at g_739_43 rfl).trans ex739_43)) (Or.inr (by decide)))), e367, e371]; exact ⟨F, RH_c (RH_s hr5 (by omega)) rfl rfl rfl rfl rfl (nr_eq (fun k _ _ => ((fun k => (hQ333.at (ga_756 k) rfl).trans (hu330 k)) k).trans (hu330 k).symm) rfl rfl) rfl rfl, fun q => by rw [show (OW M331).1 = (OW M0).1 from congrArg Prod.fst (OWe_sm (Sm.fr hQ333 rfl) (OWe_sm (Sm.up e328 g_739_39 rfl) (OWe_sm (Sm.fr hQ277 rfl) (OWe_sm (Sm.fr hQ29 rfl) (OWe_rf M0))))), ((hQ333.at g_739_44 rfl).trans (mUp_no e328 ((hQ277.at g_739_44 rfl).trans ((hQ29.at g_739_44 rfl).trans ex739_44)) (Or.inr (by decide))))]; exact ⟨xp3.1, by omega⟩⟩, pr346, pr374, (MRP_sm (Sm.fr hQ333 rfl) (MRP_sm (Sm.up e328 g_739_39 rfl) (MRP_sm (Sm.fr hQ277 rfl) (MRP_sm (Sm.fr hQ29 rfl) pp_MR)))), pr375, pr347, pr348⟩)
        · intro h376
          refine wk_al0 r58_88 (wk_al0 r58_89 (wk_c1 r58_90 (wk_c2 r58_91 ?_)))
          obtain ⟨v377, e378⟩ : ∃ v, M27 739 35 = v := ⟨_, rfl⟩
          have h379 := (bf_739_35 hP28).1; rw [e378] at h379
          have h380 := (bf_739_35 hP28).2; rw [e378] at h380
          refine wk_cv3 r58_93 kc_739_114 rfl (n8114_739 _ M27 0 6 x739_30 v41 v45 v49 v53 x739_28 v377 x739_29 T hP28 (by decide) (by decide) (by decide) (by decide) ((hQ29.at g_739_30 rfl).trans ex739_30) (by first | with_reducible assumption | omega) (by first | with_reducible assumption | omega) e42 (by first | with_reducible assumption | omega) (by first | with_reducible assumption | omega) e46 (by first | with_reducible assumption | omega) (by first | with_reducible assumption | omega) e50 (by first | with_reducible assumption | omega) (by first | with_reducible assumption | omega) e54 (by first | with_reducible assumption | omega) (by first | with_reducible assumption | omega) ((hQ29.at g_739_28 rfl).trans ex739_28) (by first | with_reducible assumption | omega) (by first | with_reducible assumption | omega) e378 (by first | with_reducible assumption | omega) (by first | with_reducible assumption | omega) ((hQ29.at g_739_29 rfl).trans ex739_29) (by first | with_reducible assumption | omega) (by first | with_reducible assumption | omega) (by omega) (by omega) (by omega) (by omega) pr37 pr38 pr39) (cqI ?_)
          rintro v401 M381 ⟨hP382, hQ383, h402, h403, h385, h386, h387, h388, h389, h390, h391, h392, h393, h394, h395, h396, xh397, pr398, pr399, pr400⟩
          have hF384 : Fr fm_n8058_739 M0 M381 := hF30.tr hQ383 rfl
          have e404 := ((hQ383.at g_739_30 rfl).trans ((hQ29.at g_739_30 rfl).trans ex739_30))
          obtain ⟨v405, e406⟩ : ∃ v, M381 739 31 = v := ⟨_, rfl⟩
          have h407 := (bf_739_31 hP382).1; rw [e406] at h407
          have h408 := (bf_739_31 hP382).2; rw [e406] at h408
          obtain ⟨v409, e410⟩ : ∃ v, M381 739 33 = v := ⟨_, rfl⟩
          have h411 := (bf_739_33 hP382).1; rw [e410] at h411
          have h412 := (bf_739_33 hP382).2; rw [e410] at h412
          obtain ⟨v413, e414⟩ : ∃ v, M381 739 34 = v := ⟨_, rfl⟩
          have h415 := (bf_739_34 hP382).1; rw [e414] at h415
          have h416 := (bf_739_34 hP382).2; rw [e414] at h416
          obtain ⟨v417, e418⟩ : ∃ v, M381 739 32 = v := ⟨_, rfl⟩
          have h419 := (bf_739_32 hP382).1; rw [e418] at h419
          have h420 := (bf_739_32 hP382).2; rw [e418] at h420
          obtain ⟨v421, e422⟩ : ∃ v, M381 739 28 = v := ⟨_, rfl⟩
          have h423 := (bf_739_28 hP382).1; rw [e422] at h423
          have h424 := (bf_739_28 hP382).2; rw [e422] at h424
          obtain ⟨v425, e426⟩ : ∃ v, M381 739 29 = v := ⟨_, rfl⟩
          have h427 := (bf_739_29 hP382).1; rw [e426] at h427
          have h428 := (bf_739_29 hP382).2; rw [e426] at h428
          have pr429 : FP M381 := FP_mn (Sm.fr hQ383 rfl) (fun q => by have := ((hQ29.at g_739_28 rfl).trans ex739_28); have := e422; omega) (FP_sm (Sm.fr hQ29 rfl) pp_FP)
          have pr430 : LRP M381 := LRP_mn (Sm.fr hQ383 rfl) (fun q => by have := ((hQ29.at g_739_28 rfl).trans ex739_28); have := e422; omega) (LRP_sm (Sm.fr hQ29 rfl) pp_LP)
          refine wk_putfi81 r58_96 fd_739_40 (wk_nw g_739_40 rfl hP382 hF384 (uf_739_40 ⟨by omega, by omega⟩) ?_)
          intro M431 hP432 hF433 e434
          refine wk_goto r58_99 ?_
          have hr5 : RH T x739_30 x739_38 i0 5 v409 (x739_39, v401, ltI x739_42, x739_43 - 1, nrF (fun k => M431 756 k) x739_42 F) v421 v425 := RH_c (q_day (da2 := v401) (s1 := v45) (s := v409) xp2 (by omega) (by omega) (by omega)) rfl rfl rfl rfl rfl (nr_eq (fun k _ _ => ((fun k => mUp_no e434 ((fun k => (hQ383.at (ga_756 k) rfl).trans ((fun k => (hQ29.at (ga_756 k) rfl).trans (hu2 k)) k)) k) (Or.inl (by decide))) k).trans (hu2 k).symm) rfl rfl) rfl rfl
          obtain ⟨u435, hu436⟩ : ∃ u : Int → Int, ∀ k, M431 756 k = u k := ⟨fun k => M431 756 k, fun k => rfl⟩
          refine wk_al0 r58_131 (wk_cv1 r58_132 kc_739_65 rfl (n8065_739 _ M431 x739_30 v405 v409 v413 v417 v421 v425 T hP432 (mUp_no e434 ((hQ383.at g_739_30 rfl).trans ((hQ29.at g_739_30 rfl).trans ex739_30)) (Or.inr (by decide))) (by first | with_reducible assumption | omega) (by first | with_reducible assumption | omega) (mUp_no e434 e406 (Or.inr (by decide))) (by first | with_reducible assumption | omega) (by first | with_reducible assumption | omega) (mUp_no e434 e410 (Or.inr (by decide))) (by first | with_reducible assumption | omega) (by first | with_reducible assumption | omega) (mUp_no e434 e414 (Or.inr (by decide))) (by first | with_reducible assumption | omega) (by first | with_reducible assumption | omega) (mUp_no e434 e418 (Or.inr (by decide))) (by first | with_reducible assumption | omega) (by first | with_reducible assumption | omega) (mUp_no e434 e422 (Or.inr (by decide))) (by first | with_reducible assumption | omega) (by first | with_reducible assumption | omega) (mUp_no e434 e426 (Or.inr (by decide))) (by first | with_reducible assumption | omega) (by first | with_reducible assumption | omega) (by omega) (by omega) (by omega) (by omega) (TK_sm (Sm.up e434 g_739_40 rfl) pr398) (TXQ_sm (Sm.up e434 g_739_40 rfl) pr399) (TTP_sm (Sm.up e434 g_739_40 rfl) pr400)) (cqV ?_))
          rintro M437 ⟨hP438, hQ439, h441, h442, h443, h444, h445, h446, h447, h448, h449, h450, xh451, pr452, pr453, pr454⟩
          have hF440 : Fr fm_n8058_739 M0 M437 := hF433.tr hQ439 rfl
          have e455 := ((hQ439.at g_739_30 rfl).trans (mUp_no e434 ((hQ383.at g_739_30 rfl).trans ((hQ29.at g_739_30 rfl).trans ex739_30)) (Or.inr (by decide))))
          obtain ⟨v456, e457⟩ : ∃ v, M437 739 31 = v := ⟨_, rfl⟩
          have h458 := (bf_739_31 hP438).1; rw [e457] at h458
          have h459 := (bf_739_31 hP438).2; rw [e457] at h459
          obtain ⟨v460, e461⟩ : ∃ v, M437 739 33 = v := ⟨_, rfl⟩
          have h462 := (bf_739_33 hP438).1; rw [e461] at h462
          have h463 := (bf_739_33 hP438).2; rw [e461] at h463
          obtain ⟨v464, e465⟩ : ∃ v, M437 739 34 = v := ⟨_, rfl⟩
          have h466 := (bf_739_34 hP438).1; rw [e465] at h466
          have h467 := (bf_739_34 hP438).2; rw [e465] at h467
          obtain ⟨v468, e469⟩ : ∃ v, M437 739 32 = v := ⟨_, rfl⟩
          have h470 := (bf_739_32 hP438).1; rw [e469] at h470
          have h471 := (bf_739_32 hP438).2; rw [e469] at h471
          obtain ⟨v472, e473⟩ : ∃ v, M437 739 28 = v := ⟨_, rfl⟩
          have h474 := (bf_739_28 hP438).1; rw [e473] at h474
          have h475 := (bf_739_28 hP438).2; rw [e473] at h475
          obtain ⟨v476, e477⟩ : ∃ v, M437 739 29 = v := ⟨_, rfl⟩
          have h478 := (bf_739_29 hP438).1; rw [e477] at h478
          have h479 := (bf_739_29 hP438).2; rw [e477] at h479
          have pr480 : FP M437 := FP_mn (Sm.fr hQ439 rfl) (fun q => by have := (mUp_no e434 e422 (Or.inr (by decide))); have := e473; omega) (FP_sm (Sm.up e434 g_739_40 rfl) pr429)
          have pr481 : LRP M437 := LRP_mn (Sm.fr hQ439 rfl) (fun q => by have := (mUp_no e434 e422 (Or.inr (by decide))); have := e473; omega) (LRP_sm (Sm.up e434 g_739_40 rfl) pr430)
          subst hQ; exact wk_ret r58_135 (⟨rfl, hP438, hF440, by have := ((hQ439.at g_739_30 rfl).trans (mUp_no e434 ((hQ383.at g_739_30 rfl).trans ((hQ29.at g_739_30 rfl).trans ex739_30)) (Or.inr (by decide)))); have := e457; omega, by have := e457; have := e461; have := e465; omega, by have := e457; have := e461; have := e465; omega, by have := e465; have := e469; omega, by have := e461; omega, by have := e473; omega, by have := e461; have := e473; omega, by have := e461; have := ((hQ439.at g_739_45 rfl).trans (mUp_no e434 ((hQ383.at g_739_45 rfl).trans ((hQ29.at g_739_45 rfl).trans ex739_45)) (Or.inr (by decide)))); have := e473; omega, by have := ((hQ439.at g_739_45 rfl).trans (mUp_no e434 ((hQ383.at g_739_45 rfl).trans ((hQ29.at g_739_45 rfl).trans ex739_45)) (Or.inr (by decide)))); omega, by have := ((hQ439.at g_739_44 rfl).trans (mUp_no e434 ((hQ383.at g_739_44 rfl).trans ((hQ29.at g_739_44 rfl).trans ex739_44)) (Or.inr (by decide)))); have := e461; have := e473; omega, by have := ((hQ439.at g_739_44 rfl).trans (mUp_no e434 ((hQ383.at g_739_44 rfl).trans ((hQ29.at g_739_44 rfl).trans ex739_44)) (Or.inr (by decide)))); omega, by have := ((hQ439.at g_739_39 rfl).trans (mUp_no e434 ((hQ383.at g_739_39 rfl).trans ((hQ29.at g_739_39 rfl).trans ex739_39)) (Or.inr (by decide)))); have := e473; omega, by have := ((hQ439.at g_739_39 rfl).trans (mUp_no e434 ((hQ383.at g_739_39 rfl).trans ((hQ29.at g_739_39 rfl).trans ex739_39)) (Or.inr (by decide)))); have := e473; omega, by have := ((hQ439.at g_739_40 rfl).trans (mUp_at e434)); have := e473; omega, by have := e477; omega, by have := ((hQ439.at g_739_42 rfl).trans (mUp_no e434 ((hQ383.at g_739_42 rfl).trans ((hQ29.at g_739_42 rfl).trans ex739_42)) (Or.inr (by decide)))); omega, by have := ((hQ439.at g_739_43 rfl).trans (mUp_no e434 ((hQ383.at g_739_43 rfl).trans ((hQ29.at g_739_43 rfl).trans ex739_43)) (Or.inr (by decide)))); omega, by have := ((hQ439.at g_739_43 rfl).trans (mUp_no e434 ((hQ383.at g_739_43 rfl).trans ((hQ29.at g_739_43 rfl).trans ex739_43)) (Or.inr (by decide)))); omega, by have := e477; have := e473; omega, by have := e477; have := e473; omega, by rw [e461, ((hQ439.at g_739_39 rfl).trans (mUp_no e434 ((hQ383.at g_739_39 rfl).trans ((hQ29.at g_739_39 rfl).trans ex739_39)) (Or.inr (by decide)))), ((hQ439.at g_739_40 rfl).trans (mUp_at e434)), ((hQ439.at g_739_42 rfl).trans (mUp_no e434 ((hQ383.at g_739_42 rfl).trans ((hQ29.at g_739_42 rfl).trans ex739_42)) (Or.inr (by decide)))), ((hQ439.at g_739_43 rfl).trans (mUp_no e434 ((hQ383.at g_739_43 rfl).trans ((hQ29.at g_739_43 rfl).trans ex739_43)) (Or.inr (by decide)))), e473, e477]; exact ⟨F, RH_c (RH_s hr5 (by omega)) rfl rfl rfl rfl rfl (nr_eq (fun k _ _ => ((fun k => (hQ439.at (ga_756 k) rfl).trans (hu436 k)) k).trans (hu436 k).symm) rfl rfl) rfl rfl, fun q => by rw [show (OW M437).1 = (OW M0).1 from congrArg Prod.fst (OWe_sm (Sm.fr hQ439 rfl) (OWe_sm (Sm.up e434 g_739_40 rfl) (OWe_sm (Sm.fr hQ383 rfl) (OWe_sm (Sm.fr hQ29 rfl) (OWe_rf M0))))), ((hQ439.at g_739_44 rfl).trans (mUp_no e434 ((hQ383.at g_739_44 rfl).trans ((hQ29.at g_739_44 rfl).trans ex739_44)) (Or.inr (by decide))))]; exact ⟨xp3.1, by omega⟩⟩, pr452, pr480, (MRP_sm (Sm.fr hQ439 rfl) (MRP_sm (Sm.up e434 g_739_40 rfl) (MRP_sm (Sm.fr hQ383 rfl) (MRP_sm (Sm.fr hQ29 rfl) pp_MR)))), pr481, pr453, pr454⟩)
        · intro h482
          refine wk_al0 r58_102 ?_
          obtain ⟨v483, e484⟩ : ∃ v, M27 739 35 = v := ⟨_, rfl⟩
          have h485 := (bf_739_35 hP28).1; rw [e484] at h485
          have h486 := (bf_739_35 hP28).2; rw [e484] at h486
          refine wk_cv1 r58_103 kc_739_119 rfl (n8119_739 _ M27 x739_30 v41 v45 v49 v53 x739_28 v483 x739_29 x739_38 T i0 x739_39 x739_40 ((ltI x739_42)) ((x739_43 - 1)) x739_42 F hP28 ((hQ29.at g_739_30 rfl).trans ex739_30) (by first | with_reducible assumption | omega) (by first | with_reducible assumption | omega) e42 (by first | with_reducible assumption | omega) (by first | with_reducible assumption | omega) e46 (by first | with_reducible assumption | omega) (by first | with_reducible assumption | omega) e50 (by first | with_reducible assumption | omega) (by first | with_reducible assumption | omega) e54 (by first | with_reducible assumption | omega) (by first | with_reducible assumption | omega) ((hQ29.at g_739_28 rfl).trans ex739_28) (by first | with_reducible assumption | omega) (by first | with_reducible assumption | omega) e484 (by first | with_reducible assumption | omega) (by first | with_reducible assumption | omega) ((hQ29.at g_739_29 rfl).trans ex739_29) (by first | with_reducible assumption | omega) (by first | with_reducible assumption | omega) ((hQ29.at g_739_38 rfl).trans ex739_38) (by first | with_reducible assumption | omega) (by first | with_reducible assumption | omega) (by omega) (by omega) (by omega) (by omega) (by omega) (CX_m2 xp2 (by omega) (by omega) (nr_eq (fun k _ _ => ((fun k => (hQ29.at (ga_756 k) rfl).trans (hu2 k)) k).trans (hu2 k).symm) rfl rfl)) pr37 pr38 pr39) (cqV ?_)
          rintro M487 ⟨hP488, hQ489, h491, h492, h493, h494, h495, h496, h497, h498, h499, h500, xh501, xh502, pr503, pr504, pr505, pr506⟩
          have hF490 : Fr fm_n8058_739 M0 M487 := hF30.tr hQ489 rfl
          have e507 := ((hQ489.at g_739_30 rfl).trans ((hQ29.at g_739_30 rfl).trans ex739_30))
          obtain ⟨v508, e509⟩ : ∃ v, M487 739 31 = v := ⟨_, rfl⟩
          have h510 := (bf_739_31 hP488).1; rw [e509] at h510
          have h511 := (bf_739_31 hP488).2; rw [e509] at h511
          obtain ⟨v512, e513⟩ : ∃ v, M487 739 33 = v := ⟨_, rfl⟩
          have h514 := (bf_739_33 hP488).1; rw [e513] at h514
          have h515 := (bf_739_33 hP488).2; rw [e513] at h515
          obtain ⟨v516, e517⟩ : ∃ v, M487 739 34 = v := ⟨_, rfl⟩
          have h518 := (bf_739_34 hP488).1; rw [e517] at h518
          have h519 := (bf_739_34 hP488).2; rw [e517] at h519
          obtain ⟨v520, e521⟩ : ∃ v, M487 739 32 = v := ⟨_, rfl⟩
          have h522 := (bf_739_32 hP488).1; rw [e521] at h522
          have h523 := (bf_739_32 hP488).2; rw [e521] at h523
          obtain ⟨v524, e525⟩ : ∃ v, M487 739 28 = v := ⟨_, rfl⟩
          have h526 := (bf_739_28 hP488).1; rw [e525] at h526
          have h527 := (bf_739_28 hP488).2; rw [e525] at h527
          obtain ⟨v528, e529⟩ : ∃ v, M487 739 29 = v := ⟨_, rfl⟩
          have h530 := (bf_739_29 hP488).1; rw [e529] at h530
          have h531 := (bf_739_29 hP488).2; rw [e529] at h531
          obtain ⟨v532, e533⟩ : ∃ v, M487 739 42 = v := ⟨_, rfl⟩
          have h534 := (bf_739_42 hP488).1; rw [e533] at h534
          have h535 := (bf_739_42 hP488).2; rw [e533] at h535
          have pr536 : FP M487 := FP_mn (Sm.fr hQ489 rfl) (fun q => by have := ((hQ29.at g_739_28 rfl).trans ex739_28); have := e525; omega) (FP_sm (Sm.fr hQ29 rfl) pp_FP)
          refine wk_goto r58_106 ?_
          have hr5 : RH T x739_30 x739_38 i0 5 v512 (x739_39, x739_40, ltI v532, x739_43 - 1, nrF (fun k => M487 756 k) v532 F) v524 v528 := by have q8 := xh502; rw [e513, e525, e529, e533] at q8; exact RH_cl q8 (by omega)
          obtain ⟨u537, hu538⟩ : ∃ u : Int → Int, ∀ k, M487 756 k = u k := ⟨fun k => M487 756 k, fun k => rfl⟩
          refine wk_al0 r58_131 (wk_cv1 r58_132 kc_739_65 rfl (n8065_739 _ M487 x739_30 v508 v512 v516 v520 v524 v528 T hP488 ((hQ489.at g_739_30 rfl).trans ((hQ29.at g_739_30 rfl).trans ex739_30)) (by first | with_reducible assumption | omega) (by first | with_reducible assumption | omega) e509 (by first | with_reducible assumption | omega) (by first | with_reducible assumption | omega) e513 (by first | with_reducible assumption | omega) (by first | with_reducible assumption | omega) e517 (by first | with_reducible assumption | omega) (by first | with_reducible assumption | omega) e521 (by first | with_reducible assumption | omega) (by first | with_reducible assumption | omega) e525 (by first | with_reducible assumption | omega) (by first | with_reducible assumption | omega) e529 (by first | with_reducible assumption | omega) (by first | with_reducible assumption | omega) (by omega) (by omega) (by omega) (by omega) pr503 pr505 pr506) (cqV ?_))
          rintro M539 ⟨hP540, hQ541, h543, h544, h545, h546, h547, h548, h549, h550, h551, h552, xh553, pr554, pr555, pr556⟩
          have hF542 : Fr fm_n8058_739 M0 M539 := hF490.tr hQ541 rfl
          have e557 := ((hQ541.at g_739_30 rfl).trans ((hQ489.at g_739_30 rfl).trans ((hQ29.at g_739_30 rfl).trans ex739_30)))
          obtain ⟨v558, e559⟩ : ∃ v, M539 739 31 = v := ⟨_, rfl⟩
          have h560 := (bf_739_31 hP540).1; rw [e559] at h560
          have h561 := (bf_739_31 hP540).2; rw [e559] at h561
          obtain ⟨v562, e563⟩ : ∃ v, M539 739 33 = v := ⟨_, rfl⟩
          have h564 := (bf_739_33 hP540).1; rw [e563] at h564
          have h565 := (bf_739_33 hP540).2; rw [e563] at h565
          obtain ⟨v566, e567⟩ : ∃ v, M539 739 34 = v := ⟨_, rfl⟩
          have h568 := (bf_739_34 hP540).1; rw [e567] at h568
          have h569 := (bf_739_34 hP540).2; rw [e567] at h569
          obtain ⟨v570, e571⟩ : ∃ v, M539 739 32 = v := ⟨_, rfl⟩
          have h572 := (bf_739_32 hP540).1; rw [e571] at h572
          have h573 := (bf_739_32 hP540).2; rw [e571] at h573
          obtain ⟨v574, e575⟩ : ∃ v, M539 739 28 = v := ⟨_, rfl⟩
          have h576 := (bf_739_28 hP540).1; rw [e575] at h576
          have h577 := (bf_739_28 hP540).2; rw [e575] at h577
          obtain ⟨v578, e579⟩ : ∃ v, M539 739 29 = v := ⟨_, rfl⟩
          have h580 := (bf_739_29 hP540).1; rw [e579] at h580
          have h581 := (bf_739_29 hP540).2; rw [e579] at h581
          have pr582 : LRP M539 := LRP_mn (Sm.fr hQ541 rfl) (fun q => by have := e525; have := e575; omega) pr504
          have pr583 : FP M539 := FP_mn (Sm.fr hQ541 rfl) (fun q => by have := e525; have := e575; omega) pr536
          subst hQ; exact wk_ret r58_135 (⟨rfl, hP540, hF542, by have := ((hQ541.at g_739_30 rfl).trans ((hQ489.at g_739_30 rfl).trans ((hQ29.at g_739_30 rfl).trans ex739_30))); have := e559; omega, by have := e559; have := e563; have := e567; omega, by have := e559; have := e563; have := e567; omega, by have := e567; have := e571; omega, by have := e563; omega, by have := e575; omega, by have := e563; have := e575; omega, by have := e563; have := ((hQ541.at g_739_45 rfl).trans ((hQ489.at g_739_45 rfl).trans ((hQ29.at g_739_45 rfl).trans ex739_45))); have := e575; omega, by have := ((hQ541.at g_739_45 rfl).trans ((hQ489.at g_739_45 rfl).trans ((hQ29.at g_739_45 rfl).trans ex739_45))); omega, by have := ((hQ541.at g_739_44 rfl).trans ((hQ489.at g_739_44 rfl).trans ((hQ29.at g_739_44 rfl).trans ex739_44))); have := e563; have := e575; omega, by have := ((hQ541.at g_739_44 rfl).trans ((hQ489.at g_739_44 rfl).trans ((hQ29.at g_739_44 rfl).trans ex739_44))); omega, by have := ((hQ541.at g_739_39 rfl).trans ((hQ489.at g_739_39 rfl).trans ((hQ29.at g_739_39 rfl).trans ex739_39))); have := e575; omega, by have := ((hQ541.at g_739_39 rfl).trans ((hQ489.at g_739_39 rfl).trans ((hQ29.at g_739_39 rfl).trans ex739_39))); have := e575; omega, by have := ((hQ541.at g_739_40 rfl).trans ((hQ489.at g_739_40 rfl).trans ((hQ29.at g_739_40 rfl).trans ex739_40))); have := e575; omega, by have := e579; omega, by have := ((hQ541.at g_739_42 rfl).trans e533); omega, by have := ((hQ541.at g_739_43 rfl).trans ((hQ489.at g_739_43 rfl).trans ((hQ29.at g_739_43 rfl).trans ex739_43))); omega, by have := ((hQ541.at g_739_43 rfl).trans ((hQ489.at g_739_43 rfl).trans ((hQ29.at g_739_43 rfl).trans ex739_43))); omega, by have := e579; have := e575; omega, by have := e579; have := e575; omega, by rw [e563, ((hQ541.at g_739_39 rfl).trans ((hQ489.at g_739_39 rfl).trans ((hQ29.at g_739_39 rfl).trans ex739_39))), ((hQ541.at g_739_40 rfl).trans ((hQ489.at g_739_40 rfl).trans ((hQ29.at g_739_40 rfl).trans ex739_40))), ((hQ541.at g_739_42 rfl).trans e533), ((hQ541.at g_739_43 rfl).trans ((hQ489.at g_739_43 rfl).trans ((hQ29.at g_739_43 rfl).trans ex739_43))), e575, e579]; exact ⟨F, RH_c (RH_s hr5 (by omega)) rfl rfl rfl rfl rfl (nr_eq (fun k _ _ => ((fun k => (hQ541.at (ga_756 k) rfl).trans (hu538 k)) k).trans (hu538 k).symm) rfl rfl) rfl rfl, fun q => by rw [show (OW M539).1 = (OW M0).1 from congrArg Prod.fst (OWe_sm (Sm.fr hQ541 rfl) (OWe_sm (Sm.fr hQ489 rfl) (OWe_sm (Sm.fr hQ29 rfl) (OWe_rf M0)))), ((hQ541.at g_739_44 rfl).trans ((hQ489.at g_739_44 rfl).trans ((hQ29.at g_739_44 rfl).trans ex739_44)))]; exact ⟨xp3.1, by omega⟩⟩, pr554, pr583, (MRP_sm (Sm.fr hQ541 rfl) (MRP_sm (Sm.fr hQ489 rfl) (MRP_sm (Sm.fr hQ29 rfl) pp_MR))), pr582, pr555, pr556⟩)
        · intro h584
          refine wk_al0 r58_109 (wk_c1 r58_110 (wk_putfi81 r58_111 fd_739_43 (wk_nw g_739_43 rfl hP28 hF30 (uf_739_43 (by decide)) ?_)))
          intro M585 hP586 hF587 e588
          refine wk_goto r58_114 ?_
          have hr5 : RH T x739_30 x739_38 i0 5 v45 (x739_39, x739_40, ltI x739_42, 2 - 1, nrF (fun k => M585 756 k) x739_42 F) x739_28 x739_29 := RH_c (RH_mg (c_words (wo2 := 1) (s1 := v45) xp2 (by omega) (by omega) rfl) (show x739_28 = 0 by omega)) rfl rfl rfl rfl rfl (nr_eq (fun k _ _ => ((fun k => mUp_no e588 ((fun k => (hQ29.at (ga_756 k) rfl).trans (hu2 k)) k) (Or.inl (by decide))) k).trans (hu2 k).symm) rfl rfl) rfl rfl
          obtain ⟨u589, hu590⟩ : ∃ u : Int → Int, ∀ k, M585 756 k = u k := ⟨fun k => M585 756 k, fun k => rfl⟩
          refine wk_al0 r58_131 (wk_cv1 r58_132 kc_739_65 rfl (n8065_739 _ M585 x739_30 v41 v45 v49 v53 x739_28 x739_29 T hP586 (mUp_no e588 ((hQ29.at g_739_30 rfl).trans ex739_30) (Or.inr (by decide))) (by first | with_reducible assumption | omega) (by first | with_reducible assumption | omega) (mUp_no e588 e42 (Or.inr (by decide))) (by first | with_reducible assumption | omega) (by first | with_reducible assumption | omega) (mUp_no e588 e46 (Or.inr (by decide))) (by first | with_reducible assumption | omega) (by first | with_reducible assumption | omega) (mUp_no e588 e50 (Or.inr (by decide))) (by first | with_reducible assumption | omega) (by first | with_reducible assumption | omega) (mUp_no e588 e54 (Or.inr (by decide))) (by first | with_reducible assumption | omega) (by first | with_reducible assumption | omega) (mUp_no e588 ((hQ29.at g_739_28 rfl).trans ex739_28) (Or.inr (by decide))) (by first | with_reducible assumption | omega) (by first | with_reducible assumption | omega) (mUp_no e588 ((hQ29.at g_739_29 rfl).trans ex739_29) (Or.inr (by decide))) (by first | with_reducible assumption | omega) (by first | with_reducible assumption | omega) (by omega) (by omega) (by omega) (by omega) (TK_sm (Sm.up e588 g_739_43 rfl) pr37) (TXQ_sm (Sm.up e588 g_739_43 rfl) pr38) (TTP_sm (Sm.up e588 g_739_43 rfl) pr39)) (cqV ?_))
          rintro M591 ⟨hP592, hQ593, h595, h596, h597, h598, h599, h600, h601, h602, h603, h604, xh605, pr606, pr607, pr608⟩
          have hF594 : Fr fm_n8058_739 M0 M591 := hF587.tr hQ593 rfl
          have e609 := ((hQ593.at g_739_30 rfl).trans (mUp_no e588 ((hQ29.at g_739_30 rfl).trans ex739_30) (Or.inr (by decide))))
          obtain ⟨v610, e611⟩ : ∃ v, M591 739 31 = v := ⟨_, rfl⟩
          have h612 := (bf_739_31 hP592).1; rw [e611] at h612
          have h613 := (bf_739_31 hP592).2; rw [e611] at h613
          obtain ⟨v614, e615⟩ : ∃ v, M591 739 33 = v := ⟨_, rfl⟩
          have h616 := (bf_739_33 hP592).1; rw [e615] at h616
          have h617 := (bf_739_33 hP592).2; rw [e615] at h617
          obtain ⟨v618, e619⟩ : ∃ v, M591 739 34 = v := ⟨_, rfl⟩
          have h620 := (bf_739_34 hP592).1; rw [e619] at h620
          have h621 := (bf_739_34 hP592).2; rw [e619] at h621
          obtain ⟨v622, e623⟩ : ∃ v, M591 739 32 = v := ⟨_, rfl⟩
          have h624 := (bf_739_32 hP592).1; rw [e623] at h624
          have h625 := (bf_739_32 hP592).2; rw [e623] at h625
          obtain ⟨v626, e627⟩ : ∃ v, M591 739 28 = v := ⟨_, rfl⟩
          have h628 := (bf_739_28 hP592).1; rw [e627] at h628
          have h629 := (bf_739_28 hP592).2; rw [e627] at h629
          obtain ⟨v630, e631⟩ : ∃ v, M591 739 29 = v := ⟨_, rfl⟩
          have h632 := (bf_739_29 hP592).1; rw [e631] at h632
          have h633 := (bf_739_29 hP592).2; rw [e631] at h633
          have pr634 : FP M591 := FP_mn (Sm.fr hQ593 rfl) (fun q => by have := (mUp_no e588 ((hQ29.at g_739_28 rfl).trans ex739_28) (Or.inr (by decide))); have := e627; omega) (FP_sm (Sm.up e588 g_739_43 rfl) (FP_sm (Sm.fr hQ29 rfl) pp_FP))
          have pr635 : LRP M591 := LRP_mn (Sm.fr hQ593 rfl) (fun q => by have := (mUp_no e588 ((hQ29.at g_739_28 rfl).trans ex739_28) (Or.inr (by decide))); have := e627; omega) (LRP_sm (Sm.up e588 g_739_43 rfl) (LRP_sm (Sm.fr hQ29 rfl) pp_LP))
          subst hQ; exact wk_ret r58_135 (⟨rfl, hP592, hF594, by have := ((hQ593.at g_739_30 rfl).trans (mUp_no e588 ((hQ29.at g_739_30 rfl).trans ex739_30) (Or.inr (by decide)))); have := e611; omega, by have := e611; have := e615; have := e619; omega, by have := e611; have := e615; have := e619; omega, by have := e619; have := e623; omega, by have := e615; omega, by have := e627; omega, by have := e615; have := e627; omega, by have := e615; have := ((hQ593.at g_739_45 rfl).trans (mUp_no e588 ((hQ29.at g_739_45 rfl).trans ex739_45) (Or.inr (by decide)))); have := e627; omega, by have := ((hQ593.at g_739_45 rfl).trans (mUp_no e588 ((hQ29.at g_739_45 rfl).trans ex739_45) (Or.inr (by decide)))); omega, by have := ((hQ593.at g_739_44 rfl).trans (mUp_no e588 ((hQ29.at g_739_44 rfl).trans ex739_44) (Or.inr (by decide)))); have := e615; have := e627; omega, by have := ((hQ593.at g_739_44 rfl).trans (mUp_no e588 ((hQ29.at g_739_44 rfl).trans ex739_44) (Or.inr (by decide)))); omega, by have := ((hQ593.at g_739_39 rfl).trans (mUp_no e588 ((hQ29.at g_739_39 rfl).trans ex739_39) (Or.inr (by decide)))); have := e627; omega, by have := ((hQ593.at g_739_39 rfl).trans (mUp_no e588 ((hQ29.at g_739_39 rfl).trans ex739_39) (Or.inr (by decide)))); have := e627; omega, by have := ((hQ593.at g_739_40 rfl).trans (mUp_no e588 ((hQ29.at g_739_40 rfl).trans ex739_40) (Or.inr (by decide)))); have := e627; omega, by have := e631; omega, by have := ((hQ593.at g_739_42 rfl).trans (mUp_no e588 ((hQ29.at g_739_42 rfl).trans ex739_42) (Or.inr (by decide)))); omega, by have := ((hQ593.at g_739_43 rfl).trans (mUp_at e588)); omega, by have := ((hQ593.at g_739_43 rfl).trans (mUp_at e588)); omega, by have := e631; have := e627; omega, by have := e631; have := e627; omega, by rw [e615, ((hQ593.at g_739_39 rfl).trans (mUp_no e588 ((hQ29.at g_739_39 rfl).trans ex739_39) (Or.inr (by decide)))), ((hQ593.at g_739_40 rfl).trans (mUp_no e588 ((hQ29.at g_739_40 rfl).trans ex739_40) (Or.inr (by decide)))), ((hQ593.at g_739_42 rfl).trans (mUp_no e588 ((hQ29.at g_739_42 rfl).trans ex739_42) (Or.inr (by decide)))), ((hQ593.at g_739_43 rfl).trans (mUp_at e588)), e627, e631]; exact ⟨F, RH_c (RH_s hr5 (by omega)) rfl rfl rfl rfl rfl (nr_eq (fun k _ _ => ((fun k => (hQ593.at (ga_756 k) rfl).trans (hu590 k)) k).trans (hu590 k).symm) rfl rfl) rfl rfl, fun q => by rw [show (OW M591).1 = (OW M0).1 from congrArg Prod.fst (OWe_sm (Sm.fr hQ593 rfl) (OWe_sm (Sm.up e588 g_739_43 rfl) (OWe_sm (Sm.fr hQ29 rfl) (OWe_rf M0)))), ((hQ593.at g_739_44 rfl).trans (mUp_no e588 ((hQ29.at g_739_44 rfl).trans ex739_44) (Or.inr (by decide))))]; exact ⟨xp3.1, by omega⟩⟩, pr606, pr634, (MRP_sm (Sm.fr hQ593 rfl) (MRP_sm (Sm.up e588 g_739_43 rfl) (MRP_sm (Sm.fr hQ29 rfl) pp_MR))), pr635, pr607, pr608⟩)
      · intro h636
        subst hQ; exact wk_ret r58_29 (⟨rfl, hP0, hF0, by have := ex739_30; have := ex739_31; omega, by have := ex739_31; have := ex739_33; have := ex739_34; omega, by have := ex739_31; have := ex739_33; have := ex739_34; omega, by have := ex739_34; have := ex739_32; omega, by have := ex739_33; omega, by have := ex739_28; omega, by have := ex739_33; have := ex739_28; omega, by have := ex739_33; have := ex739_45; have := ex739_28; omega, by have := ex739_45; omega, by have := ex739_44; have := ex739_33; have := ex739_28; omega, by have := ex739_44; omega, by have := ex739_39; have := ex739_28; omega, by have := ex739_39; have := ex739_28; omega, by have := ex739_40; have := ex739_28; omega, by have := ex739_29; omega, by have := ex739_42; omega, by have := ex739_43; omega, by have := ex739_43; omega, by have := ex739_29; have := ex739_28; omega, by have := ex739_29; have := ex739_28; omega, by rw [ex739_33, ex739_39, ex739_40, ex739_42, ex739_43, ex739_28, ex739_29]; exact ⟨F, RH_mb (c_bad xp2 xp1 (by omega) (by omega) (by omega) (by omega) (by omega) (by omega) (by omega) (by omega)) (by omega), fun q => absurd q (by omega)⟩, pp_TK, pp_FP, pp_MR, pp_LP, pp_TQ, pp_TT⟩)
    · intro h637
      exact wp_fg (le_s (le_s le_0)) (c17_671 (by omega))
def fm_n8051 : Nat := 0
/-- IslandHallModel.bits -/
theorem n8051 {B : eB} (d : Nat) (M0 : Mm) (p0 : Int) (hP0 : Pw M0) (l0 : 0 ≤ p0) (u0 : p0 ≤ 31) : Ct B (d + 1) 51 [I p0] M0 (qI fun z M => Pw M ∧ Fr fm_n8051 M0 M ∧ 0 ≤ z ∧ z ≤ 31 ∧ (z = bT p0)) := by
  refine ct_of (d := d + 0) (k := 2) (L := [some (I p0), none, none]) rfl rfl rfl ?_
  have hF0 := Fr.rf fm_n8051 M0
  generalize hQ : (qI fun z M => Pw M ∧ Fr fm_n8051 M0 M ∧ 0 ≤ z ∧ z ≤ 31 ∧ (z = bT p0)) = Q
  refine wk_c1 r51_0 (wk_is1 r51_1 rfl (wk_il0 r51_2 (wk_is2 r51_3 rfl ?_)))
  have c4_114 : ∀ (k114 : Nat) (v98 : Int) (v101 : Int), (v101).toNat = k114 → 0 ≤ v98 → v98 ≤ 31 → 0 ≤ v101 → v101 ≤ 31 → 0 ≤ p0 + (-1) * v98 + (-1) * v101 → 0 ≤ (-1) * v101 + v98 + 31 → (v98 + bT v101 = bT p0) → Wp B (d + 0) 51 4 [none, some (I v98), some (I v101)] [] M0 Q := by
    refine lp_ind ?_
    intro k114 ih114 v98 v101 hk114 h99 h100 h102 h103 h104 h105 ti106
    refine wk_il2 r51_4 ?_
    refine wk_ifeq r51_5 ⟨by omega, by omega⟩ ?_ ?_
    · intro h107
      refine wk_il1 r51_20 ?_
      subst hQ; exact wk_iret r51_21 (⟨rfl, _, rfl, hP0, hF0, by omega, by omega, by have h := ti106; rw [show v101 = 0 by omega] at h; have : bT 0 = 0 := rfl; omega⟩)
    · intro h108
      refine wk_inc1 r51_8 rfl (wk_il2 r51_11 (wk_il2 r51_12 (wk_c1 r51_13 (wk_isub r51_14 (wk_iand r51_15 ⟨by omega, by omega⟩ ⟨by omega, by omega⟩ ?_)))))
      intro v109 h110 h111 h112 h113
      refine wk_is2 r51_16 rfl (wk_goto r51_17 ?_)
      exact wp_fg (le_s (le_s (le_s le_0))) (ih114 (v109).toNat (by omega) (v98 + 1) v109 rfl (by first | with_reducible assumption | omega) (by first | with_reducible assumption | omega) (by first | with_reducible assumption | omega) (by first | with_reducible assumption | omega) (by first | with_reducible assumption | omega) (by first | with_reducible assumption | omega) (bits_back ti106 ⟨by omega, by omega⟩ (by omega) h113))
  exact wp_fg (le_n (le_s (le_s le_0))) (c4_114 _ 0 p0 rfl (by first | with_reducible assumption | omega) (by first | with_reducible assumption | omega) (by first | with_reducible assumption | omega) (by first | with_reducible assumption | omega) (by first | with_reducible assumption | omega) (by first | with_reducible assumption | omega) (by omega))
def fm_n8127_739 : Nat := 0
/-- IslandHallModel.size0 -/
theorem n8127_739 {B : eB} (d : Nat) (M0 : Mm) (x739_39 : Int) (x739_41 : Int) (x739_43 : Int) (x739_38 : Int) (hP0 : Pw M0) (ex739_39 : M0 739 39 = x739_39) (lx739_39 : 1 ≤ x739_39) (ux739_39 : x739_39 ≤ 4) (ex739_41 : M0 739 41 = x739_41) (lx739_41 : 1 ≤ x739_41) (ux739_41 : x739_41 ≤ 7) (ex739_43 : M0 739 43 = x739_43) (lx739_43 : 1 ≤ x739_43) (ux739_43 : x739_43 ≤ 2) (ex739_38 : M0 739 38 = x739_38) (lx739_38 : 0 ≤ x739_38) (ux739_38 : x739_38 ≤ 7) (pp_MR : MRP M0) : Ct B (d + 2) 127 [R 739] M0 (qI fun z M => Pw M ∧ Fr fm_n8127_739 M0 M ∧ 0 ≤ z ∧ z ≤ 3001 ∧ (z ≤ 3000 → x739_39 * x739_41 * x739_43 * PRD (fun k => M0 756 k) 0 x739_38.toNat ≤ 3000) ∧ ((z ≤ 3000 ∧ x739_39 * x739_41 * x739_43 * PRD (fun k => M0 756 k) 0 x739_38.toNat ≤ 3000) ∨ (3000 < z ∧ 3000 < x739_39 * x739_41 * x739_43 * PRD (fun k => M0 756 k) 0 x739_38.toNat))) := by
  refine ct_of (d := d + 1) (k := 2) (L := [some (R 739), none, none]) rfl rfl rfl ?_
  have hF0 := Fr.rf fm_n8127_739 M0
  generalize hQ : (qI fun z M => Pw M ∧ Fr fm_n8127_739 M0 M ∧ 0 ≤ z ∧ z ≤ 3001 ∧ (z ≤ 3000 → x739_39 * x739_41 * x739_43 * PRD (fun k => M0 756 k) 0 x739_38.toNat ≤ 3000) ∧ ((z ≤ 3000 ∧ x739_39 * x739_41 * x739_43 * PRD (fun k => M0 756 k) 0 x739_38.toNat ≤ 3000) ∨ (3000 < z ∧ 3000 < x739_39 * x739_41 * x739_43 * PRD (fun k => M0 756 k) 0 x739_38.toNat))) = Q
  refine wk_al0 r127_0 (wk_getfi r127_1 fd_739_39 ex739_39 (wk_al0 r127_4 (wk_getfi r127_5 fd_739_41 ex739_41 (wk_mulb 4 7 r127_8 ⟨by omega, by omega⟩ ⟨by omega, by omega⟩ ?_))))
  intro v1 h2 h3 h4
  refine wk_al0 r127_9 (wk_getfi r127_10 fd_739_43 ex739_43 (wk_mulb 28 2 r127_13 ⟨by omega, by omega⟩ ⟨by omega, by omega⟩ ?_))
  intro v5 h6 h7 h8
  refine wk_is1 r127_14 rfl (wk_c1 r127_15 (wk_is2 r127_16 rfl ?_))
  have c17_201 : ∀ (k201 : Nat) (v169 : Int) (v172 : Int), (7 - v172).toNat = k201 → 0 ≤ v169 → v169 ≤ 3001 → 0 ≤ v172 → v172 ≤ 7 → 0 ≤ (-1) * v172 + x739_38 → 0 ≤ v172 → (SZI (fun k => M0 756 k) (x739_39 * x739_41 * x739_43) v169 v172) → (SZJ (fun k => M0 756 k) (x739_39 * x739_41 * x739_43) v169 v172) → Wp B (d + 1) 127 17 [some (R 739), some (I v169), some (I v172)] [] M0 Q := by
    refine lp_ind ?_
    intro k201 ih201 v169 v172 hk201 h170 h171 h173 h174 h175 h176 ti177 ti178
    refine wk_il2 r127_17 (wk_al0 r127_18 (wk_getfi r127_19 fd_739_38 ex739_38 ?_))
    refine wk_icge r127_22 ⟨by omega, by omega⟩ ⟨by omega, by omega⟩ ?_ ?_
    · intro h179
      refine wk_il1 r127_69 ?_
      subst hQ; exact wk_iret r127_70 (⟨rfl, _, rfl, hP0, hF0, by omega, by omega, by intro q; rcases ti177 with h | h; (rw [show x739_38.toNat = (v172).toNat by omega, ← h]; exact q); (omega), by have h := ti178; unfold SZJ at h; rw [show (v172).toNat = x739_38.toNat by omega] at h; omega⟩)
    · intro h180
      refine wk_il1 r127_25 (wk_al0 r127_26 (wk_getfr r127_27 fd_739_48 (br_739_48 hP0) (wk_il2 r127_30 (wk_ialdb r127_31 ar_756 ⟨by omega, by omega⟩ (fun q0 q1 => ba_756 hP0 q0 q1) ?_))))
      intro v181 h183 h184 e182
      refine wk_cs102_1 r127_32 rfl (n8051 _ M0 v181 hP0 (by first | with_reducible assumption | omega) (by first | with_reducible assumption | omega)) (cqI ?_)
      rintro v190 M185 ⟨hP186, hQ187, h191, h192, xh189⟩
      obtain rfl := Fr.same hQ187
      refine wk_al0 r127_35 (wk_getfr r127_36 fd_739_48 (br_739_48 hP0) (wk_il2 r127_39 (wk_iald r127_40 ar_756 ⟨by omega, by omega⟩ e182 (wk_c1 r127_41 (wk_ishrc r127_42 ⟨by omega, by omega⟩ (by decide) pwl_2 (wk_c1 r127_43 (wk_iandc 1 2 r127_44 ⟨rfl, by decide⟩ rfl (wk_iadd r127_45 (wk_mulb 3001 32 r127_46 ⟨by omega, by omega⟩ ⟨by omega, by omega⟩ ?_)))))))))
      intro v195 h196 h197 h198
      refine wk_is1 r127_47 rfl (wk_il1 r127_48 (wk_c3 r127_49 ?_))
      refine wk_icle r127_52 ⟨by omega, by omega⟩ (by decide) ?_ ?_
      · intro h199
        refine wk_il1 r127_61 (wk_is1 r127_62 rfl (wk_inc2 r127_63 rfl (wk_goto r127_66 ?_)))
        exact wp_fg (le_s (le_s (le_s le_0))) (ih201 (7 - (v172 + 1)).toNat (by omega) v195 (v172 + 1) rfl (by first | with_reducible assumption | omega) (by first | with_reducible assumption | omega) (by first | with_reducible assumption | omega) (by first | with_reducible assumption | omega) (by first | with_reducible assumption | omega) (by first | with_reducible assumption | omega) (SZ_st ti177 (by omega) (show (fun k => M0 756 k) v172 = _ from e182) ⟨by have := pp_MR v172 (by omega) (by omega); omega, by omega⟩ (by omega) h198 (by omega)) (SZJ_st ti178 (by omega) (by omega) (show (fun k => M0 756 k) v172 = _ from e182) ⟨by have := pp_MR v172 (by omega) (by omega); omega, by omega⟩ (by omega) h198 (by omega)))
      · intro h200
        refine wk_c3 r127_55 (wk_goto r127_58 (wk_is1 r127_62 rfl (wk_inc2 r127_63 rfl (wk_goto r127_66 ?_))))
        exact wp_fg (le_s (le_s (le_s le_0))) (ih201 (7 - (v172 + 1)).toNat (by omega) 3001 (v172 + 1) rfl (by first | with_reducible assumption | omega) (by first | with_reducible assumption | omega) (by first | with_reducible assumption | omega) (by first | with_reducible assumption | omega) (by first | with_reducible assumption | omega) (by first | with_reducible assumption | omega) (SZ_st ti177 (by omega) (show (fun k => M0 756 k) v172 = _ from e182) ⟨by have := pp_MR v172 (by omega) (by omega); omega, by omega⟩ (by omega) h198 (by omega)) (SZJ_st ti178 (by omega) (by omega) (show (fun k => M0 756 k) v172 = _ from e182) ⟨by have := pp_MR v172 (by omega) (by omega); omega, by omega⟩ (by omega) h198 (by omega)))
  exact wp_fg (le_s (le_s (le_s le_0))) (c17_201 _ v5 0 rfl (by first | with_reducible assumption | omega) (by first | with_reducible assumption | omega) (by first | with_reducible assumption | omega) (by first | with_reducible assumption | omega) (by first | with_reducible assumption | omega) (by first | with_reducible assumption | omega) (Or.inl (by rw [h8, h4]; exact (Int.mul_one _).symm)) (Or.inl ⟨by omega, by rw [h8, h4]; exact (Int.mul_one _).symm⟩))
def fm_n8091_739 : Nat := 7032490225884642216509604815343760925371859018325566359973330027514377011200
