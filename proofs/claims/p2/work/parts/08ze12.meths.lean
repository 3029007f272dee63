/-! ===== written by program (wip/layer3/model.py): contracts of methods ===== -/
def fm_m9091_739 : Nat := 7032490225884642216509604815343760925371859018325566359973330027514377011200
set_option maxHeartbeats 20000000 in
/-- IslandHallModel.island -/
theorem m9091_739 {B : eB} (d : Nat) (M0 : Mm) (p1 : Int) (x739_27 : Int) (hP0 : Pw M0) (l1 : (-2147483648) ≤ p1) (u1 : p1 ≤ 2147483647) (ex739_27 : M0 739 27 = x739_27) (lx739_27 : 0 ≤ x739_27) (ux739_27 : x739_27 ≤ 500) (pp_WS : WS M0) (pp_QW : QW M0) : Ct B (d + 9) 91 [R 739, I p1] M0 (qI fun z M => Pw M ∧ Fr fm_m9091_739 M0 M ∧ 0 ≤ z ∧ z ≤ 6 ∧ ((0 ≤ p1 ∧ p1 ≤ x739_27 ∧ M 739 27 = 0) ∨ ((p1 < 0 ∨ x739_27 < p1) ∧ M 739 27 = x739_27)) ∧ (WS M) ∧ (QW M)) := by
  refine ct_of (d := d + 8) (k := 1) (L := [some (R 739), some (I p1), none]) rfl rfl rfl ?_
  have hF0 := Fr.rf fm_m9091_739 M0
  generalize hQ : (qI fun z M => Pw M ∧ Fr fm_m9091_739 M0 M ∧ 0 ≤ z ∧ z ≤ 6 ∧ ((0 ≤ p1 ∧ p1 ≤ x739_27 ∧ M 739 27 = 0) ∨ ((p1 < 0 ∨ x739_27 < p1) ∧ M 739 27 = x739_27)) ∧ (WS M) ∧ (QW M)) = Q
  refine wk_al0 r91_0 (wk_il1 r91_1 (wk_cv2 r91_2 kc_739_50 rfl (m9050_739 _ M0 p1 x739_27 hP0 (by omega) (by omega) ex739_27 (by omega) (by omega)) (cqI ?_)))
  rintro v14 M1 ⟨hP2, hQ3, h15, h16, h5, h6, h7, h8, h9, h10, h11, xh12, xh13⟩
  have hF4 : Fr fm_m9091_739 M0 M1 := hF0.tr hQ3 rfl
  obtain ⟨v17, e18⟩ : ∃ v, M1 739 27 = v := ⟨_, rfl⟩
  have h19 := bf_739_27 hP2; rw [e18] at h19
  obtain ⟨v20, e21⟩ : ∃ v, M1 739 28 = v := ⟨_, rfl⟩
  have h22 := bf_739_28 hP2; rw [e21] at h22
  obtain ⟨v23, e24⟩ : ∃ v, M1 739 45 = v := ⟨_, rfl⟩
  have h25 := bf_739_45 hP2; rw [e24] at h25
  obtain ⟨v26, e27⟩ : ∃ v, M1 739 30 = v := ⟨_, rfl⟩
  have h28 := bf_739_30 hP2; rw [e27] at h28
  obtain ⟨v29, e30⟩ : ∃ v, M1 739 31 = v := ⟨_, rfl⟩
  have h31 := bf_739_31 hP2; rw [e30] at h31
  obtain ⟨v32, e33⟩ : ∃ v, M1 739 33 = v := ⟨_, rfl⟩
  have h34 := bf_739_33 hP2; rw [e33] at h34
  obtain ⟨v35, e36⟩ : ∃ v, M1 739 34 = v := ⟨_, rfl⟩
  have h37 := bf_739_34 hP2; rw [e36] at h37
  obtain ⟨v38, e39⟩ : ∃ v, M1 739 32 = v := ⟨_, rfl⟩
  have h40 := bf_739_32 hP2; rw [e39] at h40
  refine wk_ifne r91_5 ⟨by omega, by omega⟩ ?_ ?_
  · intro h41
    have pr42 : TK M1 := xh13 (by omega)
    refine wk_al0 r91_10 (wk_c1 r91_11 (wk_putfi81 r91_12 fd_739_39 (wk_nw g_739_39 rfl hP2 hF4 (uf_739_39 (by decide)) ?_)))
    intro M43 hP44 hF45 e46
    refine wk_al0 r91_15 (wk_c1 r91_16 (wk_putfi81 r91_17 fd_739_40 (wk_nw g_739_40 rfl hP44 hF45 (uf_739_40 (by decide)) ?_)))
    intro M47 hP48 hF49 e50
    refine wk_al0 r91_20 (wk_c1 r91_21 (wk_putfi81 r91_22 fd_739_42 (wk_nw g_739_42 rfl hP48 hF49 (uf_739_42 (by decide)) ?_)))
    intro M51 hP52 hF53 e54
    refine wk_al0 r91_25 (wk_c1 r91_26 (wk_putfi81 r91_27 fd_739_43 (wk_nw g_739_43 rfl hP52 hF53 (uf_739_43 (by decide)) ?_)))
    intro M55 hP56 hF57 e58
    refine wk_al0 r91_30 (wk_c1 r91_31 (wk_putfi81 r91_32 fd_739_44 (wk_nw g_739_44 rfl hP56 hF57 (uf_739_44 (by decide)) ?_)))
    intro M59 hP60 hF61 e62
    refine wk_al0 r91_35 (wk_c1 r91_36 (wk_putfi81 r91_37 fd_739_38 (wk_nw g_739_38 rfl hP60 hF61 (uf_739_38 (by decide)) ?_)))
    intro M63 hP64 hF65 e66
    have pr67 : FP M63 := FP_0 (mUp_no e66 (mUp_at e62) (Or.inr (by decide))) ((mUp_no e66 (mUp_no e62 (mUp_no e58 (mUp_no e54 (mUp_no e50 (mUp_no e46 e24 (Or.inr (by decide))) (Or.inr (by decide))) (Or.inr (by decide))) (Or.inr (by decide))) (Or.inr (by decide))) (Or.inr (by decide))).trans (by omega))
    have pr68 : LRP M63 := fun _ => by have := (mUp_no e66 (mUp_no e62 (mUp_no e58 (mUp_at e54) (Or.inr (by decide))) (Or.inr (by decide))) (Or.inr (by decide))); omega
    refine wk_al0 r91_40 (wk_cv1 r91_41 kc_739_97 rfl (m9097_739 _ M63 v38 v35 hP64 (mUp_no e66 (mUp_no e62 (mUp_no e58 (mUp_no e54 (mUp_no e50 (mUp_no e46 e39 (Or.inr (by decide))) (Or.inr (by decide))) (Or.inr (by decide))) (Or.inr (by decide))) (Or.inr (by decide))) (Or.inr (by decide))) (by omega) (by omega) (mUp_no e66 (mUp_no e62 (mUp_no e58 (mUp_no e54 (mUp_no e50 (mUp_no e46 e36 (Or.inr (by decide))) (Or.inr (by decide))) (Or.inr (by decide))) (Or.inr (by decide))) (Or.inr (by decide))) (Or.inr (by decide))) (by omega) (by omega) (TK_sm (Sm.up e66 g_739_38 rfl) (TK_sm (Sm.up e62 g_739_44 rfl) (TK_sm (Sm.up e58 g_739_43 rfl) (TK_sm (Sm.up e54 g_739_42 rfl) (TK_sm (Sm.up e50 g_739_40 rfl) (TK_sm (Sm.up e46 g_739_39 rfl) pr42))))))) (cqI ?_))
    rintro v74 M69 ⟨hP70, hQ71, h75, h76, h73⟩
    obtain rfl := Fr.same hQ71
    have e77 := (mUp_no e66 (mUp_no e62 (mUp_no e58 (mUp_no e54 (mUp_no e50 (mUp_no e46 e36 (Or.inr (by decide))) (Or.inr (by decide))) (Or.inr (by decide))) (Or.inr (by decide))) (Or.inr (by decide))) (Or.inr (by decide)))
    refine wk_c1 r91_44 ?_
    refine wk_iceq r91_45 ⟨by omega, by omega⟩ (by decide) ?_ ?_
    · intro h78
      refine wk_al0 r91_53 (wk_cv1 r91_54 kc_739_84 rfl (m9084_739 _ M63 v20 hP64 (mUp_no e66 (mUp_no e62 (mUp_no e58 (mUp_no e54 (mUp_no e50 (mUp_no e46 e21 (Or.inr (by decide))) (Or.inr (by decide))) (Or.inr (by decide))) (Or.inr (by decide))) (Or.inr (by decide))) (Or.inr (by decide))) (by omega) (by omega)) (cqI ?_))
      rintro v85 M79 ⟨hP80, hQ81, h86, h87, h83, h84⟩
      obtain rfl := Fr.same hQ81
      have e88 := (mUp_no e66 (mUp_no e62 (mUp_no e58 (mUp_no e54 (mUp_no e50 (mUp_no e46 e21 (Or.inr (by decide))) (Or.inr (by decide))) (Or.inr (by decide))) (Or.inr (by decide))) (Or.inr (by decide))) (Or.inr (by decide)))
      refine wk_ifeq r91_57 ⟨by omega, by omega⟩ ?_ ?_
      · intro h89
        exfalso
        omega
      · intro h90
        refine wk_al0 r91_60 (wk_cv1 r91_61 kc_739_76 rfl (m9076_739 _ M63 v26 v29 hP64 (mUp_no e66 (mUp_no e62 (mUp_no e58 (mUp_no e54 (mUp_no e50 (mUp_no e46 e27 (Or.inr (by decide))) (Or.inr (by decide))) (Or.inr (by decide))) (Or.inr (by decide))) (Or.inr (by decide))) (Or.inr (by decide))) (by omega) (by omega) (mUp_no e66 (mUp_no e62 (mUp_no e58 (mUp_no e54 (mUp_no e50 (mUp_no e46 e30 (Or.inr (by decide))) (Or.inr (by decide))) (Or.inr (by decide))) (Or.inr (by decide))) (Or.inr (by decide))) (Or.inr (by decide))) (by omega) (by omega) (by omega)) (cqV ?_))
        rintro M91 ⟨hP92, hQ93, h95, h96, h97, h98, h99, pr100⟩
        have hF94 : Fr fm_m9091_739 M0 M91 := hF65.tr hQ93 rfl
        have e101 := ((hQ93.at g_739_30 rfl).trans (mUp_no e66 (mUp_no e62 (mUp_no e58 (mUp_no e54 (mUp_no e50 (mUp_no e46 e27 (Or.inr (by decide))) (Or.inr (by decide))) (Or.inr (by decide))) (Or.inr (by decide))) (Or.inr (by decide))) (Or.inr (by decide))))
        obtain ⟨v102, e103⟩ : ∃ v, M91 739 31 = v := ⟨_, rfl⟩
        have h104 := bf_739_31 hP92; rw [e103] at h104
        obtain ⟨v105, e106⟩ : ∃ v, M91 739 33 = v := ⟨_, rfl⟩
        have h107 := bf_739_33 hP92; rw [e106] at h107
        obtain ⟨v108, e109⟩ : ∃ v, M91 739 34 = v := ⟨_, rfl⟩
        have h110 := bf_739_34 hP92; rw [e109] at h110
        obtain ⟨v111, e112⟩ : ∃ v, M91 739 32 = v := ⟨_, rfl⟩
        have h113 := bf_739_32 hP92; rw [e112] at h113
        refine wk_al0 r91_64 (wk_al0 r91_65 (wk_c1 r91_66 (wk_c2 r91_67 ?_)))
        obtain ⟨v114, e115⟩ : ∃ v, M91 739 35 = v := ⟨_, rfl⟩
        have h116 := bf_739_35 hP92; rw [e115] at h116
        refine wk_cv3 r91_69 kc_739_114 rfl (m9114_739 _ M91 0 7 v26 v102 v105 v108 v111 v20 v114 hP92 (by decide) (by decide) (by decide) (by decide) ((hQ93.at g_739_30 rfl).trans (mUp_no e66 (mUp_no e62 (mUp_no e58 (mUp_no e54 (mUp_no e50 (mUp_no e46 e27 (Or.inr (by decide))) (Or.inr (by decide))) (Or.inr (by decide))) (Or.inr (by decide))) (Or.inr (by decide))) (Or.inr (by decide)))) (by omega) (by omega) e103 (by omega) (by omega) e106 (by omega) (by omega) e109 (by omega) (by omega) e112 (by omega) (by omega) ((hQ93.at g_739_28 rfl).trans (mUp_no e66 (mUp_no e62 (mUp_no e58 (mUp_no e54 (mUp_no e50 (mUp_no e46 e21 (Or.inr (by decide))) (Or.inr (by decide))) (Or.inr (by decide))) (Or.inr (by decide))) (Or.inr (by decide))) (Or.inr (by decide)))) (by omega) (by omega) e115 (by omega) (by omega) (by omega) (by omega) (by omega) (by omega) pr100) (cqI ?_)
        rintro v131 M117 ⟨hP118, hQ119, h132, h133, h121, h122, h123, h124, h125, h126, h127, h128, h129, pr130⟩
        have hF120 : Fr fm_m9091_739 M0 M117 := hF94.tr hQ119 rfl
        have e134 := ((hQ119.at g_739_30 rfl).trans ((hQ93.at g_739_30 rfl).trans (mUp_no e66 (mUp_no e62 (mUp_no e58 (mUp_no e54 (mUp_no e50 (mUp_no e46 e27 (Or.inr (by decide))) (Or.inr (by decide))) (Or.inr (by decide))) (Or.inr (by decide))) (Or.inr (by decide))) (Or.inr (by decide)))))
        obtain ⟨v135, e136⟩ : ∃ v, M117 739 31 = v := ⟨_, rfl⟩
        have h137 := bf_739_31 hP118; rw [e136] at h137
        obtain ⟨v138, e139⟩ : ∃ v, M117 739 33 = v := ⟨_, rfl⟩
        have h140 := bf_739_33 hP118; rw [e139] at h140
        obtain ⟨v141, e142⟩ : ∃ v, M117 739 34 = v := ⟨_, rfl⟩
        have h143 := bf_739_34 hP118; rw [e142] at h143
        obtain ⟨v144, e145⟩ : ∃ v, M117 739 32 = v := ⟨_, rfl⟩
        have h146 := bf_739_32 hP118; rw [e145] at h146
        obtain ⟨v147, e148⟩ : ∃ v, M117 739 28 = v := ⟨_, rfl⟩
        have h149 := bf_739_28 hP118; rw [e148] at h149
        have pr150 : FP M117 := FP_mn (Sm.fr hQ119 rfl) (fun q => by have := ((hQ93.at g_739_28 rfl).trans (mUp_no e66 (mUp_no e62 (mUp_no e58 (mUp_no e54 (mUp_no e50 (mUp_no e46 e21 (Or.inr (by decide))) (Or.inr (by decide))) (Or.inr (by decide))) (Or.inr (by decide))) (Or.inr (by decide))) (Or.inr (by decide)))); have := e148; omega) (FP_sm (Sm.fr hQ93 rfl) pr67)
        have pr151 : LRP M117 := LRP_mn (Sm.fr hQ119 rfl) (fun q => by have := ((hQ93.at g_739_28 rfl).trans (mUp_no e66 (mUp_no e62 (mUp_no e58 (mUp_no e54 (mUp_no e50 (mUp_no e46 e21 (Or.inr (by decide))) (Or.inr (by decide))) (Or.inr (by decide))) (Or.inr (by decide))) (Or.inr (by decide))) (Or.inr (by decide)))); have := e148; omega) (LRP_sm (Sm.fr hQ93 rfl) pr68)
        refine wk_putfi81 r91_72 fd_739_38 (wk_nw g_739_38 rfl hP118 hF120 (uf_739_38 ⟨by omega, by omega⟩) ?_)
        intro M152 hP153 hF154 e155
        refine wk_c1 r91_75 (wk_is2 r91_76 rfl ?_)
        have c77_3887 : ∀ (k3887 : Nat) (M374 : Mm) (v371 : Int), (7 - v371).toNat = k3887 → Pw M374 → Fr fm_m9091_739 M0 M374 → M374 739 27 = v17 → M374 739 45 = v23 → M374 739 30 = v26 → M374 739 39 = 1 → M374 739 40 = (-1) → M374 739 42 = 0 → M374 739 43 = 1 → M374 739 44 = 0 → M374 739 38 = v131 → M374 739 31 = v135 → M374 739 33 = v138 → M374 739 34 = v141 → M374 739 32 = v144 → M374 739 28 = v147 → 0 ≤ v371 → v371 ≤ 7 → (TK M374) → (FP M374) → (WS M374) → (QW M374) → (LRP M374) → 0 ≤ 1 * v26 + (-1) * v135 → 0 ≤ 1 * v135 + (-1) * v138 + (-1) * v141 → 0 ≤ (-1) * v135 + 1 * v138 + 1 * v141 → 0 ≤ 4 * v141 + (-1) * v144 → 0 ≤ 1 * v138 + (-2) * v23 + 3000 * v147 + 2 → 0 ≤ (-1) * v23 + 262 → 0 ≤ (-1) * 0 + 1 * v138 + 3000 * v147 → 0 ≤ (-1) * 1 + 4 + 3000 * v147 → 0 ≤ 1 * 1 + (-1) + 3000 * v147 → 0 ≤ (-1) * (-1) + 6 + 3000 * v147 → 0 ≤ (-1) * v131 + 7 + 3000 * v147 → (∀ k : Int, 0 ≤ k → k < v371 → M374 756 k = 3) → Wp B (d + 8) 91 77 [some (R 739), none, some (I v371)] [] M374 Q := by
          refine lp_ind ?_
          intro k3887 ih3887 M374 v371 hk3887 hP375 hF376 e377 e378 e379 e380 e381 e382 e383 e384 e385 e386 e387 e388 e389 e390 h372 h373 pr391 pr392 pr393 pr394 pr395 h396 h397 h398 h399 h400 h401 h402 h403 h404 h405 h406 ti407
          refine wk_il2 r91_77 (wk_c2 r91_78 ?_)
          refine wk_icge r91_80 ⟨by omega, by omega⟩ (by decide) ?_ ?_
          · intro h408
            have pr409 : MRP M374 := fun k a b => by rw [ti407 k a (by omega)]; decide
            refine wk_al0 r91_96 (wk_cv1 r91_97 kc_739_65 rfl (m9065_739 _ M374 v26 v135 v138 v141 v144 v147 hP375 e379 (by omega) (by omega) e386 (by omega) (by omega) e387 (by omega) (by omega) e388 (by omega) (by omega) e389 (by omega) (by omega) e390 (by omega) (by omega) (by omega) (by omega) (by omega) (by omega) pr391) (cqV ?_))
            rintro M410 ⟨hP411, hQ412, h414, h415, h416, h417, h418, h419, h420, pr421⟩
            have hF413 : Fr fm_m9091_739 M0 M410 := hF376.tr hQ412 rfl
            have e422 := ((hQ412.at g_739_30 rfl).trans e379)
            obtain ⟨v423, e424⟩ : ∃ v, M410 739 31 = v := ⟨_, rfl⟩
            have h425 := bf_739_31 hP411; rw [e424] at h425
            obtain ⟨v426, e427⟩ : ∃ v, M410 739 33 = v := ⟨_, rfl⟩
            have h428 := bf_739_33 hP411; rw [e427] at h428
            obtain ⟨v429, e430⟩ : ∃ v, M410 739 34 = v := ⟨_, rfl⟩
            have h431 := bf_739_34 hP411; rw [e430] at h431
            obtain ⟨v432, e433⟩ : ∃ v, M410 739 32 = v := ⟨_, rfl⟩
            have h434 := bf_739_32 hP411; rw [e433] at h434
            obtain ⟨v435, e436⟩ : ∃ v, M410 739 28 = v := ⟨_, rfl⟩
            have h437 := bf_739_28 hP411; rw [e436] at h437
            have pr438 : FP M410 := FP_mn (Sm.fr hQ412 rfl) (fun q => by have := e390; have := e436; omega) pr392
            have pr439 : LRP M410 := LRP_mn (Sm.fr hQ412 rfl) (fun q => by have := e390; have := e436; omega) pr395
            have c100_3881 : ∀ (k3881 : Nat) (M3073 : Mm) (v3076 : Int) (v3080 : Int) (v3084 : Int) (v3088 : Int) (v3092 : Int) (v3096 : Int) (v3100 : Int) (v3104 : Int) (v3108 : Int), (10 * (501 - v3096) + (6 - v3108)).toNat = k3881 → Pw M3073 → Fr fm_m9091_739 M0 M3073 → M3073 739 45 = v3076 → M3073 739 39 = v3080 → M3073 739 40 = v3084 → M3073 739 44 = v3088 → M3073 739 31 = v3092 → M3073 739 33 = v3096 → M3073 739 34 = v3100 → M3073 739 32 = v3104 → M3073 739 28 = v3108 → M3073 739 27 = v17 → M3073 739 30 = v26 → M3073 739 38 = v131 → 0 ≤ v3076 → v3076 ≤ 262 → 0 ≤ v3080 → v3080 ≤ 999 → (-1) ≤ v3084 → v3084 ≤ 999 → 0 ≤ v3088 → v3088 ≤ 500 → 1 ≤ v3092 → v3092 ≤ 500 → 1 ≤ v3096 → v3096 ≤ 500 → 0 ≤ v3100 → v3100 ≤ 499 → 0 ≤ v3104 → v3104 ≤ 4 → 0 ≤ v3108 → v3108 ≤ 6 → (TK M3073) → (FP M3073) → (WS M3073) → (QW M3073) → (MRP M3073) → (LRP M3073) → 0 ≤ 1 * v26 + (-1) * v3092 → 0 ≤ 1 * v3092 + (-1) * v3096 + (-1) * v3100 → 0 ≤ (-1) * v3092 + 1 * v3096 + 1 * v3100 → 0 ≤ 4 * v3100 + (-1) * v3104 → 0 ≤ 1 * v3096 + (-2) * v3076 + 3000 * v3108 + 2 → 0 ≤ (-1) * v3076 + 262 → 0 ≤ (-1) * v3088 + 1 * v3096 + 3000 * v3108 → 0 ≤ (-1) * v3088 + 502 → 0 ≤ (-1) * v3080 + 4 + 3000 * v3108 → 0 ≤ 1 * v3080 + (-1) + 3000 * v3108 → 0 ≤ (-1) * v3084 + 6 + 3000 * v3108 → 0 ≤ (-1) * v131 + 7 + 3000 * v3108 → Wp B (d + 8) 91 100 [some (R 739), none, none] [] M3073 Q := by
              refine lp_ind ?_
              intro k3881 ih3881 M3073 v3076 v3080 v3084 v3088 v3092 v3096 v3100 v3104 v3108 hk3881 hP3074 hF3075 e3079 e3083 e3087 e3091 e3095 e3099 e3103 e3107 e3111 e3112 e3113 e3114 h3077 h3078 h3081 h3082 h3085 h3086 h3089 h3090 h3093 h3094 h3097 h3098 h3101 h3102 h3105 h3106 h3109 h3110 pr3115 pr3116 pr3117 pr3118 pr3119 pr3120 h3121 h3122 h3123 h3124 h3125 h3126 h3127 h3128 h3129 h3130 h3131 h3132
              refine wk_al0 r91_100 (wk_cv1 r91_101 kc_739_84 rfl (m9084_739 _ M3073 v3108 hP3074 e3111 (by omega) (by omega)) (cqI ?_))
              rintro v3139 M3133 ⟨hP3134, hQ3135, h3140, h3141, h3137, h3138⟩
              obtain rfl := Fr.same hQ3135
              have e3142 := e3111
              have c121_3880 : Wp B (d + 8) 91 121 [some (R 739), none, none] [] M3073 Q := by
                refine wk_al0 r91_121 (wk_al0 r91_122 (wk_getfi r91_123 fd_739_40 e3087 (wk_c1 r91_126 ?_)))
                refine wk_icne r91_127 ⟨by omega, by omega⟩ (by decide) ?_ ?_
                · intro h3212
                  refine wk_c1 r91_142 (wk_putfi81 r91_143 fd_739_41 (wk_nw g_739_41 rfl hP3074 hF3075 (uf_739_41 (by decide)) ?_))
                  intro M3213 hP3214 hF3215 e3216
                  refine wk_al0 r91_146 (wk_cv1 r91_147 kc_739_84 rfl (m9084_739 _ M3213 v3108 hP3214 (mUp_no e3216 e3111 (Or.inr (by decide))) (by omega) (by omega)) (cqI ?_))
                  rintro v3223 M3217 ⟨hP3218, hQ3219, h3224, h3225, h3221, h3222⟩
                  obtain rfl := Fr.same hQ3219
                  have e3226 := (mUp_no e3216 e3111 (Or.inr (by decide)))
                  refine wk_ifeq r91_150 ⟨by omega, by omega⟩ ?_ ?_
                  · intro h3227
                    refine wk_al0 r91_169 (wk_cv1 r91_170 kc_739_84 rfl (m9084_739 _ M3213 v3108 hP3214 (mUp_no e3216 e3111 (Or.inr (by decide))) (by omega) (by omega)) (cqI ?_))
                    rintro v3234 M3228 ⟨hP3229, hQ3230, h3235, h3236, h3232, h3233⟩
                    obtain rfl := Fr.same hQ3230
                    have e3237 := (mUp_no e3216 e3111 (Or.inr (by decide)))
                    refine wk_ifne r91_173 ⟨by omega, by omega⟩ ?_ ?_
                    · intro h3238
                      exfalso
                      omega
                    · intro h3239
                      refine wk_al0 r91_176 (wk_getfi r91_177 fd_739_28 (mUp_no e3216 e3111 (Or.inr (by decide))) ?_)
                      subst hQ; exact wk_iret r91_180 (⟨rfl, _, rfl, hP3214, hF3215, by omega, by omega, by have := (mUp_no e3216 e3112 (Or.inr (by decide))); omega, (WS_sm (Sm.up e3216 g_739_41 rfl) pr3117), (QW_sm (Sm.up e3216 g_739_41 rfl) pr3118)⟩)
                  · intro h3240
                    refine wk_al0 r91_153 ?_
                    obtain ⟨v3241, e3242⟩ : ∃ v, M3213 739 43 = v := ⟨_, rfl⟩
                    have h3243 := bf_739_43 hP3214; rw [e3242] at h3243
                    refine wk_cv1 r91_154 kc_739_127 rfl (m9127_739 _ M3213 v3080 1 v3241 v131 hP3214 (mUp_no e3216 e3083 (Or.inr (by decide))) (by omega) (by omega) (mUp_at e3216) (by omega) (by omega) e3242 (by omega) (by omega) (mUp_no e3216 e3114 (Or.inr (by decide))) (by omega) (by omega) (MRP_sm (Sm.up e3216 g_739_41 rfl) pr3119)) (cqI ?_)
                    rintro v3249 M3244 ⟨hP3245, hQ3246, h3250, h3251, xh3248⟩
                    obtain rfl := Fr.same hQ3246
                    refine wk_c3 r91_157 ?_
                    refine wk_icle r91_160 ⟨by omega, by omega⟩ (by decide) ?_ ?_
                    · intro h3252
                      refine wk_al0 r91_169 (wk_cv1 r91_170 kc_739_84 rfl (m9084_739 _ M3213 v3108 hP3214 (mUp_no e3216 e3111 (Or.inr (by decide))) (by omega) (by omega)) (cqI ?_))
                      rintro v3259 M3253 ⟨hP3254, hQ3255, h3260, h3261, h3257, h3258⟩
                      obtain rfl := Fr.same hQ3255
                      have e3262 := (mUp_no e3216 e3111 (Or.inr (by decide)))
                      refine wk_ifne r91_173 ⟨by omega, by omega⟩ ?_ ?_
                      · intro h3263
                        have hsz := xh3248 (by omega)
                        have hMR : MRP M3213 := (MRP_sm (Sm.up e3216 g_739_41 rfl) pr3119)
                        obtain ⟨u3264, hu3265⟩ : ∃ u : Int → Int, ∀ k, M3213 757 k = u k := ⟨fun k => M3213 757 k, fun k => rfl⟩
                        obtain ⟨u3266, hu3267⟩ : ∃ u : Int → Int, ∀ k, M3213 756 k = u k := ⟨fun k => M3213 756 k, fun k => rfl⟩
                        have hu6 : ∀ k : Int, M3213 756 k = u3266 k := hu3267
                        obtain ⟨Mz, hMz⟩ : ∃ m : Mm, m = M3213 := ⟨_, rfl⟩
                        have hFD := FP_get (FP_sm (Sm.up e3216 g_739_41 rfl) pr3116) (mUp_no e3216 e3111 (Or.inr (by decide))) (by omega) (mUp_no e3216 e3091 (Or.inr (by decide))) (mUp_no e3216 e3079 (Or.inr (by decide))) hu3265
                        have hgk : M3213 739 28 = v3108 := (mUp_no e3216 e3111 (Or.inr (by decide)))
                        have hLP : LRP M3213 := (LRP_sm (Sm.up e3216 g_739_41 rfl) pr3120)
                        obtain ⟨v3268, e3269⟩ : ∃ v, M3213 739 42 = v := ⟨_, rfl⟩
                        have h3270 := bf_739_42 hP3214; rw [e3269] at h3270
                        have hlr : M3213 739 42 = v3268 := e3269
                        refine wk_al0 r91_181 (wk_al0 r91_182 (wk_getfi r91_183 fd_739_38 (mUp_no e3216 e3114 (Or.inr (by decide))) (wk_putfi81 r91_186 fd_739_1 (wk_nw g_739_1 rfl hP3214 hF3215 (uf_739_1 ⟨by omega, by omega⟩) ?_))))
                        intro M3271 hP3272 hF3273 e3274
                        refine wk_al0 r91_189 (wk_al0 r91_190 (wk_getfi r91_191 fd_739_39 (mUp_no e3274 (mUp_no e3216 e3083 (Or.inr (by decide))) (Or.inr (by decide))) (wk_putfi81 r91_194 fd_739_2 (wk_nw g_739_2 rfl hP3272 hF3273 (uf_739_2 ⟨by omega, by omega⟩) ?_))))
                        intro M3275 hP3276 hF3277 e3278
                        refine wk_al0 r91_197 (wk_al0 r91_198 (wk_getfi r91_199 fd_739_42 (mUp_no e3278 (mUp_no e3274 e3269 (Or.inr (by decide))) (Or.inr (by decide))) ?_))
                        have h3279 : 0 ≤ v3268 ∧ v3268 ≤ 127 := by have q := hLP (by omega); have := hlr; omega
                        refine wk_putfi81 r91_202 fd_739_3 (wk_nw g_739_3 rfl hP3276 hF3277 (uf_739_3 ⟨by omega, by omega⟩) ?_)
                        intro M3280 hP3281 hF3282 e3283
                        refine wk_al0 r91_205 (wk_al0 r91_206 (wk_getfi r91_207 fd_739_44 (mUp_no e3283 (mUp_no e3278 (mUp_no e3274 (mUp_no e3216 e3091 (Or.inr (by decide))) (Or.inr (by decide))) (Or.inr (by decide))) (Or.inr (by decide))) (wk_putfi81 r91_210 fd_739_4 (wk_nw g_739_4 rfl hP3281 hF3282 (uf_739_4 ⟨by omega, by omega⟩) ?_))))
                        intro M3284 hP3285 hF3286 e3287
                        refine wk_c1 r91_213 (wk_is2 r91_214 rfl ?_)
                        have c215_3409 : ∀ (k3409 : Nat) (M3291 : Mm) (v3288 : Int), (7 - v3288).toNat = k3409 → Pw M3291 → Fr fm_m9091_739 M0 M3291 → M3291 739 45 = v3076 → M3291 739 39 = v3080 → M3291 739 40 = v3084 → M3291 739 44 = v3088 → M3291 739 31 = v3092 → M3291 739 33 = v3096 → M3291 739 34 = v3100 → M3291 739 32 = v3104 → M3291 739 28 = v3108 → M3291 739 27 = v17 → M3291 739 30 = v26 → M3291 739 38 = v131 → M3291 739 41 = 1 → M3291 739 43 = v3241 → M3291 739 42 = v3268 → M3291 739 1 = v131 → M3291 739 2 = v3080 → M3291 739 3 = v3268 → M3291 739 4 = v3088 → 0 ≤ v3288 → v3288 ≤ 7 → (∀ k, M3291 757 k = u3264 k) → (∀ k, M3291 756 k = u3266 k) → (TK M3291) → (FP M3291) → (WS M3291) → (QW M3291) → (MRP M3291) → (LRP M3291) → 0 ≤ 1 * v26 + (-1) * v3092 → 0 ≤ 1 * v3092 + (-1) * v3096 + (-1) * v3100 → 0 ≤ (-1) * v3092 + 1 * v3096 + 1 * v3100 → 0 ≤ 4 * v3100 + (-1) * v3104 → 0 ≤ 1 * v3096 + (-2) * v3076 + 3000 * v3108 + 2 → 0 ≤ (-1) * v3076 + 262 → 0 ≤ (-1) * v3088 + 1 * v3096 + 3000 * v3108 → 0 ≤ (-1) * v3088 + 502 → 0 ≤ (-1) * v3080 + 4 + 3000 * v3108 → 0 ≤ 1 * v3080 + (-1) + 3000 * v3108 → 0 ≤ (-1) * v3084 + 6 + 3000 * v3108 → 0 ≤ (-1) * v131 + 7 + 3000 * v3108 → (∀ k : Int, 0 ≤ k → k < v3288 → M3291 740 k = u3266 k) → Wp B (d + 8) 91 215 [some (R 739), none, some (I v3288)] [] M3291 Q := by
                          refine lp_ind ?_
                          intro k3409 ih3409 M3291 v3288 hk3409 hP3292 hF3293 e3296 e3297 e3298 e3299 e3300 e3301 e3302 e3303 e3304 e3305 e3306 e3307 e3308 e3309 e3310 e3311 e3312 e3313 e3314 h3289 h3290 hu3294 hu3295 pr3315 pr3316 pr3317 pr3318 pr3319 pr3320 h3321 h3322 h3323 h3324 h3325 h3326 h3327 h3328 h3329 h3330 h3331 h3332 ti3333
                          refine wk_il2 r91_215 (wk_c2 r91_216 ?_)
                          refine wk_icge r91_218 ⟨by omega, by omega⟩ (by decide) ?_ ?_
                          · intro h3334
                            obtain ⟨Mb, hMb⟩ : ∃ m : Mm, m = M3291 := ⟨_, rfl⟩
                            have hA6 : ∀ k : Int, 0 ≤ k → k < 7 → Mb 740 k = u3266 k := fun k a b => by rw [hMb]; exact ti3333 k a (by omega)
                            refine wk_c1 r91_239 (wk_is2 r91_240 rfl ?_)
                            have c241_3399 : ∀ (k3399 : Nat) (M3338 : Mm) (v3335 : Int), (251 - v3335).toNat = k3399 → Pw M3338 → Fr fm_m9091_739 M0 M3338 → M3338 739 45 = v3076 → M3338 739 39 = v3080 → M3338 739 40 = v3084 → M3338 739 44 = v3088 → M3338 739 31 = v3092 → M3338 739 33 = v3096 → M3338 739 34 = v3100 → M3338 739 32 = v3104 → M3338 739 28 = v3108 → M3338 739 27 = v17 → M3338 739 30 = v26 → M3338 739 38 = v131 → M3338 739 41 = 1 → M3338 739 43 = v3241 → M3338 739 42 = v3268 → M3338 739 1 = v131 → M3338 739 2 = v3080 → M3338 739 3 = v3268 → M3338 739 4 = v3088 → 0 ≤ v3335 → v3335 ≤ 251 → (∀ k, M3338 757 k = u3264 k) → (∀ k, M3338 756 k = u3266 k) → (TK M3338) → (FP M3338) → (WS M3338) → (QW M3338) → (MRP M3338) → (LRP M3338) → 0 ≤ 1 * v26 + (-1) * v3092 → 0 ≤ 1 * v3092 + (-1) * v3096 + (-1) * v3100 → 0 ≤ (-1) * v3092 + 1 * v3096 + 1 * v3100 → 0 ≤ 4 * v3100 + (-1) * v3104 → 0 ≤ 1 * v3096 + (-2) * v3076 + 3000 * v3108 + 2 → 0 ≤ (-1) * v3076 + 262 → 0 ≤ (-1) * v3088 + 1 * v3096 + 3000 * v3108 → 0 ≤ (-1) * v3088 + 502 → 0 ≤ (-1) * v3080 + 4 + 3000 * v3108 → 0 ≤ 1 * v3080 + (-1) + 3000 * v3108 → 0 ≤ (-1) * v3084 + 6 + 3000 * v3108 → 0 ≤ (-1) * v131 + 7 + 3000 * v3108 → (∀ k : Int, 0 ≤ k → k < v3335 → M3338 741 (0 + k) = u3264 k) → (∀ k : Int, M3338 740 k = Mb 740 k) → Wp B (d + 8) 91 241 [some (R 739), none, some (I v3335)] [] M3338 Q := by
                              refine lp_ind ?_
                              intro k3399 ih3399 M3338 v3335 hk3399 hP3339 hF3340 e3343 e3344 e3345 e3346 e3347 e3348 e3349 e3350 e3351 e3352 e3353 e3354 e3355 e3356 e3357 e3358 e3359 e3360 e3361 h3336 h3337 hu3341 hu3342 pr3362 pr3363 pr3364 pr3365 pr3366 pr3367 h3368 h3369 h3370 h3371 h3372 h3373 h3374 h3375 h3376 h3377 h3378 h3379 ti3380 ti3381
                              refine wk_il2 r91_241 (wk_al0 r91_242 (wk_getfi r91_243 fd_739_45 e3343 ?_))
                              refine wk_icge r91_246 ⟨by omega, by omega⟩ ⟨by omega, by omega⟩ ?_ ?_
                              · intro h3382
                                have pr3383 : FFP M3338 v3076 := FFP_mk hFD e3361 (fun k a b => ti3380 k a (by omega)) (by omega)
                                have hA7 : ∀ k : Int, 0 ≤ k → k < 7 → M3338 740 k = u3266 k := fun k a b => (ti3381 k).trans (hA6 k a b)
                                refine wk_al0 r91_267 (wk_cv1 r91_268 kc_739_108 rfl (m9108_739 _ M3338 v131 v3080 1 v3241 v3084 v3076 (v3080 * 1 * v3241) hP3339 e3358 (by omega) (by omega) e3359 (by omega) (by omega) e3355 (by omega) (by omega) e3356 (by omega) (by omega) e3345 (by omega) (by omega) (by first | assumption | omega | (unfold stepok; omega)) (rfl) (isl_sz hsz hu6 hA7 (by omega)) (fun k a b => by rw [hA7 k a b, ← hu6 k]; exact hMR k a b) pr3383) (cqV ?_))
                                rintro M3384 ⟨hP3385, hQ3386, pr3388, pr3389⟩
                                have hF3387 : Fr fm_m9091_739 M0 M3384 := hF3340.tr hQ3386 rfl
                                refine wk_c1 r91_271 ?_
                                subst hQ; exact wk_iret r91_272 (⟨rfl, _, rfl, hP3385, hF3387, by omega, by omega, by have := ((hQ3386.at g_739_27 rfl).trans e3352); omega, pr3388, pr3389⟩)
                              · intro h3390
                                refine wk_al0 r91_249 (wk_getfr r91_250 fd_739_6 (br_739_6 hP3339) (wk_il2 r91_253 (wk_al0 r91_254 (wk_getfr r91_255 fd_739_49 (br_739_49 hP3339) (wk_il2 r91_258 (wk_ialdb r91_259 ar_757 ⟨by omega, by omega⟩ (fun q0 q1 => ba_757 hP3339 q0 q1) ?_))))))
                                intro v3391 h3393 h3394 e3392
                                refine wk_iast r91_260 ar_741 ⟨by omega, by omega⟩ (wk_nw (ga_741 _) rfl hP3339 hF3340 (uaR_741 (by rw [← e3392, hu3341]; exact FD_ok _ _ _ hFD.2 _ (by omega) (by omega))) ?_)
                                intro M3395 hP3396 hF3397 e3398
                                refine wk_inc2 r91_261 rfl (wk_goto r91_264 ?_)
                                exact wp_fg (le_s (le_s (le_s le_0))) (ih3399 (251 - (v3335 + 1)).toNat (by omega) M3395 (v3335 + 1) rfl hP3396 hF3397 (mUp_no e3398 e3343 (Or.inl (by decide))) (mUp_no e3398 e3344 (Or.inl (by decide))) (mUp_no e3398 e3345 (Or.inl (by decide))) (mUp_no e3398 e3346 (Or.inl (by decide))) (mUp_no e3398 e3347 (Or.inl (by decide))) (mUp_no e3398 e3348 (Or.inl (by decide))) (mUp_no e3398 e3349 (Or.inl (by decide))) (mUp_no e3398 e3350 (Or.inl (by decide))) (mUp_no e3398 e3351 (Or.inl (by decide))) (mUp_no e3398 e3352 (Or.inl (by decide))) (mUp_no e3398 e3353 (Or.inl (by decide))) (mUp_no e3398 e3354 (Or.inl (by decide))) (mUp_no e3398 e3355 (Or.inl (by decide))) (mUp_no e3398 e3356 (Or.inl (by decide))) (mUp_no e3398 e3357 (Or.inl (by decide))) (mUp_no e3398 e3358 (Or.inl (by decide))) (mUp_no e3398 e3359 (Or.inl (by decide))) (mUp_no e3398 e3360 (Or.inl (by decide))) (mUp_no e3398 e3361 (Or.inl (by decide))) (by omega) (by omega) (fun k => mUp_no e3398 (hu3341 k) (Or.inl (by decide))) (fun k => mUp_no e3398 (hu3342 k) (Or.inl (by decide))) (TK_sm (Sm.up e3398 (ga_741 _) rfl) pr3362) (FP_sm (Sm.up e3398 (ga_741 _) rfl) pr3363) (WS_sm (Sm.up e3398 (ga_741 _) rfl) pr3364) (QW_sm (Sm.up e3398 (ga_741 _) rfl) pr3365) (MRP_sm (Sm.up e3398 (ga_741 _) rfl) pr3366) (LRP_sm (Sm.up e3398 (ga_741 _) rfl) pr3367) (by omega) (by omega) (by omega) (by omega) (by omega) (by omega) (by omega) (by omega) (by omega) (by omega) (by omega) (by omega) (cp_step (S := 0) (e0z e3398) ti3380 e3392 hu3341) (fun k => by rw [e3398, mUp_ne (Or.inl (by decide))]; exact ti3381 k))
                            exact wp_fg (le_s (le_s (le_s le_0))) (c241_3399 _ M3291 0 rfl hP3292 hF3293 e3296 e3297 e3298 e3299 e3300 e3301 e3302 e3303 e3304 e3305 e3306 e3307 e3308 e3309 e3310 e3311 e3312 e3313 e3314 (by omega) (by omega) hu3294 hu3295 pr3315 pr3316 pr3317 pr3318 pr3319 pr3320 (by omega) (by omega) (by omega) (by omega) (by omega) (by omega) (by omega) (by omega) (by omega) (by omega) (by omega) (by omega) (fun k a b => by omega) (fun k => by rw [hMb]))
                          · intro h3400
                            refine wk_al0 r91_221 (wk_getfr r91_222 fd_739_5 (br_739_5 hP3292) (wk_il2 r91_225 (wk_al0 r91_226 (wk_getfr r91_227 fd_739_48 (br_739_48 hP3292) (wk_il2 r91_230 (wk_ialdb r91_231 ar_756 ⟨by omega, by omega⟩ (fun q0 q1 => ba_756 hP3292 q0 q1) ?_))))))
                            intro v3401 h3403 h3404 e3402
                            refine wk_iast r91_232 ar_740 ⟨by omega, by omega⟩ (wk_nw (ga_740 _) rfl hP3292 hF3293 (ua_740 ⟨by omega, by omega⟩) ?_)
                            intro M3405 hP3406 hF3407 e3408
                            refine wk_inc2 r91_233 rfl (wk_goto r91_236 ?_)
                            exact wp_fg (le_s (le_s (le_s le_0))) (ih3409 (7 - (v3288 + 1)).toNat (by omega) M3405 (v3288 + 1) rfl hP3406 hF3407 (mUp_no e3408 e3296 (Or.inl (by decide))) (mUp_no e3408 e3297 (Or.inl (by decide))) (mUp_no e3408 e3298 (Or.inl (by decide))) (mUp_no e3408 e3299 (Or.inl (by decide))) (mUp_no e3408 e3300 (Or.inl (by decide))) (mUp_no e3408 e3301 (Or.inl (by decide))) (mUp_no e3408 e3302 (Or.inl (by decide))) (mUp_no e3408 e3303 (Or.inl (by decide))) (mUp_no e3408 e3304 (Or.inl (by decide))) (mUp_no e3408 e3305 (Or.inl (by decide))) (mUp_no e3408 e3306 (Or.inl (by decide))) (mUp_no e3408 e3307 (Or.inl (by decide))) (mUp_no e3408 e3308 (Or.inl (by decide))) (mUp_no e3408 e3309 (Or.inl (by decide))) (mUp_no e3408 e3310 (Or.inl (by decide))) (mUp_no e3408 e3311 (Or.inl (by decide))) (mUp_no e3408 e3312 (Or.inl (by decide))) (mUp_no e3408 e3313 (Or.inl (by decide))) (mUp_no e3408 e3314 (Or.inl (by decide))) (by omega) (by omega) (fun k => mUp_no e3408 (hu3294 k) (Or.inl (by decide))) (fun k => mUp_no e3408 (hu3295 k) (Or.inl (by decide))) (TK_sm (Sm.up e3408 (ga_740 _) rfl) pr3315) (FP_sm (Sm.up e3408 (ga_740 _) rfl) pr3316) (WS_sm (Sm.up e3408 (ga_740 _) rfl) pr3317) (QW_sm (Sm.up e3408 (ga_740 _) rfl) pr3318) (MRP_sm (Sm.up e3408 (ga_740 _) rfl) pr3319) (LRP_sm (Sm.up e3408 (ga_740 _) rfl) pr3320) (by omega) (by omega) (by omega) (by omega) (by omega) (by omega) (by omega) (by omega) (by omega) (by omega) (by omega) (by omega) (fun k a b => by rw [e3408]; (by_cases q : k = v3288); (rw [q, mUp_eq, ← e3402, hu3295]); (rw [mUp_ne (Or.inr q)]; exact ti3333 k a (by omega))))
                        exact wp_fg (le_s (le_s (le_s le_0))) (c215_3409 _ M3284 0 rfl hP3285 hF3286 (mUp_no e3287 (mUp_no e3283 (mUp_no e3278 (mUp_no e3274 (mUp_no e3216 e3079 (Or.inr (by decide))) (Or.inr (by decide))) (Or.inr (by decide))) (Or.inr (by decide))) (Or.inr (by decide))) (mUp_no e3287 (mUp_no e3283 (mUp_no e3278 (mUp_no e3274 (mUp_no e3216 e3083 (Or.inr (by decide))) (Or.inr (by decide))) (Or.inr (by decide))) (Or.inr (by decide))) (Or.inr (by decide))) (mUp_no e3287 (mUp_no e3283 (mUp_no e3278 (mUp_no e3274 (mUp_no e3216 e3087 (Or.inr (by decide))) (Or.inr (by decide))) (Or.inr (by decide))) (Or.inr (by decide))) (Or.inr (by decide))) (mUp_no e3287 (mUp_no e3283 (mUp_no e3278 (mUp_no e3274 (mUp_no e3216 e3091 (Or.inr (by decide))) (Or.inr (by decide))) (Or.inr (by decide))) (Or.inr (by decide))) (Or.inr (by decide))) (mUp_no e3287 (mUp_no e3283 (mUp_no e3278 (mUp_no e3274 (mUp_no e3216 e3095 (Or.inr (by decide))) (Or.inr (by decide))) (Or.inr (by decide))) (Or.inr (by decide))) (Or.inr (by decide))) (mUp_no e3287 (mUp_no e3283 (mUp_no e3278 (mUp_no e3274 (mUp_no e3216 e3099 (Or.inr (by decide))) (Or.inr (by decide))) (Or.inr (by decide))) (Or.inr (by decide))) (Or.inr (by decide))) (mUp_no e3287 (mUp_no e3283 (mUp_no e3278 (mUp_no e3274 (mUp_no e3216 e3103 (Or.inr (by decide))) (Or.inr (by decide))) (Or.inr (by decide))) (Or.inr (by decide))) (Or.inr (by decide))) (mUp_no e3287 (mUp_no e3283 (mUp_no e3278 (mUp_no e3274 (mUp_no e3216 e3107 (Or.inr (by decide))) (Or.inr (by decide))) (Or.inr (by decide))) (Or.inr (by decide))) (Or.inr (by decide))) (mUp_no e3287 (mUp_no e3283 (mUp_no e3278 (mUp_no e3274 (mUp_no e3216 e3111 (Or.inr (by decide))) (Or.inr (by decide))) (Or.inr (by decide))) (Or.inr (by decide))) (Or.inr (by decide))) (mUp_no e3287 (mUp_no e3283 (mUp_no e3278 (mUp_no e3274 (mUp_no e3216 e3112 (Or.inr (by decide))) (Or.inr (by decide))) (Or.inr (by decide))) (Or.inr (by decide))) (Or.inr (by decide))) (mUp_no e3287 (mUp_no e3283 (mUp_no e3278 (mUp_no e3274 (mUp_no e3216 e3113 (Or.inr (by decide))) (Or.inr (by decide))) (Or.inr (by decide))) (Or.inr (by decide))) (Or.inr (by decide))) (mUp_no e3287 (mUp_no e3283 (mUp_no e3278 (mUp_no e3274 (mUp_no e3216 e3114 (Or.inr (by decide))) (Or.inr (by decide))) (Or.inr (by decide))) (Or.inr (by decide))) (Or.inr (by decide))) (mUp_no e3287 (mUp_no e3283 (mUp_no e3278 (mUp_no e3274 (mUp_at e3216) (Or.inr (by decide))) (Or.inr (by decide))) (Or.inr (by decide))) (Or.inr (by decide))) (mUp_no e3287 (mUp_no e3283 (mUp_no e3278 (mUp_no e3274 e3242 (Or.inr (by decide))) (Or.inr (by decide))) (Or.inr (by decide))) (Or.inr (by decide))) (mUp_no e3287 (mUp_no e3283 (mUp_no e3278 (mUp_no e3274 e3269 (Or.inr (by decide))) (Or.inr (by decide))) (Or.inr (by decide))) (Or.inr (by decide))) (mUp_no e3287 (mUp_no e3283 (mUp_no e3278 (mUp_at e3274) (Or.inr (by decide))) (Or.inr (by decide))) (Or.inr (by decide))) (mUp_no e3287 (mUp_no e3283 (mUp_at e3278) (Or.inr (by decide))) (Or.inr (by decide))) (mUp_no e3287 (mUp_at e3283) (Or.inr (by decide))) (mUp_at e3287) (by omega) (by omega) (fun k => mUp_no e3287 ((fun k => mUp_no e3283 ((fun k => mUp_no e3278 ((fun k => mUp_no e3274 (hu3265 k) (Or.inl (by decide))) k) (Or.inl (by decide))) k) (Or.inl (by decide))) k) (Or.inl (by decide))) (fun k => mUp_no e3287 ((fun k => mUp_no e3283 ((fun k => mUp_no e3278 ((fun k => mUp_no e3274 (hu3267 k) (Or.inl (by decide))) k) (Or.inl (by decide))) k) (Or.inl (by decide))) k) (Or.inl (by decide))) (TK_sm (Sm.up e3287 g_739_4 rfl) (TK_sm (Sm.up e3283 g_739_3 rfl) (TK_sm (Sm.up e3278 g_739_2 rfl) (TK_sm (Sm.up e3274 g_739_1 rfl) (TK_sm (Sm.up e3216 g_739_41 rfl) pr3115))))) (FP_sm (Sm.up e3287 g_739_4 rfl) (FP_sm (Sm.up e3283 g_739_3 rfl) (FP_sm (Sm.up e3278 g_739_2 rfl) (FP_sm (Sm.up e3274 g_739_1 rfl) (FP_sm (Sm.up e3216 g_739_41 rfl) pr3116))))) (WS_sm (Sm.up e3287 g_739_4 rfl) (WS_sm (Sm.up e3283 g_739_3 rfl) (WS_sm (Sm.up e3278 g_739_2 rfl) (WS_sm (Sm.up e3274 g_739_1 rfl) (WS_sm (Sm.up e3216 g_739_41 rfl) pr3117))))) (QW_sm (Sm.up e3287 g_739_4 rfl) (QW_sm (Sm.up e3283 g_739_3 rfl) (QW_sm (Sm.up e3278 g_739_2 rfl) (QW_sm (Sm.up e3274 g_739_1 rfl) (QW_sm (Sm.up e3216 g_739_41 rfl) pr3118))))) (MRP_sm (Sm.up e3287 g_739_4 rfl) (MRP_sm (Sm.up e3283 g_739_3 rfl) (MRP_sm (Sm.up e3278 g_739_2 rfl) (MRP_sm (Sm.up e3274 g_739_1 rfl) (MRP_sm (Sm.up e3216 g_739_41 rfl) pr3119))))) (LRP_sm (Sm.up e3287 g_739_4 rfl) (LRP_sm (Sm.up e3283 g_739_3 rfl) (LRP_sm (Sm.up e3278 g_739_2 rfl) (LRP_sm (Sm.up e3274 g_739_1 rfl) (LRP_sm (Sm.up e3216 g_739_41 rfl) pr3120))))) (by omega) (by omega) (by omega) (by omega) (by omega) (by omega) (by omega) (by omega) (by omega) (by omega) (by omega) (by omega) (fun k a b => by omega))
                      · intro h3410
                        exfalso
                        omega
                    · intro h3411
                      refine wk_al0 r91_163 (wk_c2 r91_164 (wk_cv2 r91_166 kc_739_137 rfl (m9137_739 _ M3213 6 v3108 v3096 hP3214 (by decide) (by decide) (mUp_no e3216 e3111 (Or.inr (by decide))) (by omega) (by omega) (mUp_no e3216 e3099 (Or.inr (by decide))) (by omega) (by omega)) (cqV ?_)))
                      rintro M3412 ⟨hP3413, hQ3414, h3416, h3417⟩
                      have hF3415 : Fr fm_m9091_739 M0 M3412 := hF3215.tr hQ3414 rfl
                      obtain ⟨v3418, e3419⟩ : ∃ v, M3412 739 28 = v := ⟨_, rfl⟩
                      have h3420 := bf_739_28 hP3413; rw [e3419] at h3420
                      have pr3421 : FP M3412 := FP_mn (Sm.fr hQ3414 rfl) (fun q => by have := (mUp_no e3216 e3111 (Or.inr (by decide))); have := e3419; omega) (FP_sm (Sm.up e3216 g_739_41 rfl) pr3116)
                      have pr3422 : LRP M3412 := LRP_mn (Sm.fr hQ3414 rfl) (fun q => by have := (mUp_no e3216 e3111 (Or.inr (by decide))); have := e3419; omega) (LRP_sm (Sm.up e3216 g_739_41 rfl) pr3120)
                      refine wk_al0 r91_169 (wk_cv1 r91_170 kc_739_84 rfl (m9084_739 _ M3412 v3418 hP3413 e3419 (by omega) (by omega)) (cqI ?_))
                      rintro v3429 M3423 ⟨hP3424, hQ3425, h3430, h3431, h3427, h3428⟩
                      obtain rfl := Fr.same hQ3425
                      have e3432 := e3419
                      refine wk_ifne r91_173 ⟨by omega, by omega⟩ ?_ ?_
                      · intro h3433
                        exfalso
                        omega
                      · intro h3434
                        refine wk_al0 r91_176 (wk_getfi r91_177 fd_739_28 e3419 ?_)
                        subst hQ; exact wk_iret r91_180 (⟨rfl, _, rfl, hP3413, hF3415, by omega, by omega, by have := ((hQ3414.at g_739_27 rfl).trans (mUp_no e3216 e3112 (Or.inr (by decide)))); omega, (WS_sm (Sm.fr hQ3414 rfl) (WS_sm (Sm.up e3216 g_739_41 rfl) pr3117)), (QW_sm (Sm.fr hQ3414 rfl) (QW_sm (Sm.up e3216 g_739_41 rfl) pr3118))⟩)
                · intro h3435
                  refine wk_al0 r91_130 (wk_getfb r91_131 fd_739_42 (bf_739_42 hP3074) ?_)
                  intro v3436 h3438 h3439 e3437
                  refine wk_ifeq r91_134 ⟨by omega, by omega⟩ ?_ ?_
                  · intro h3440
                    refine wk_c1 r91_142 (wk_putfi81 r91_143 fd_739_41 (wk_nw g_739_41 rfl hP3074 hF3075 (uf_739_41 (by decide)) ?_))
                    intro M3441 hP3442 hF3443 e3444
                    refine wk_al0 r91_146 (wk_cv1 r91_147 kc_739_84 rfl (m9084_739 _ M3441 v3108 hP3442 (mUp_no e3444 e3111 (Or.inr (by decide))) (by omega) (by omega)) (cqI ?_))
                    rintro v3451 M3445 ⟨hP3446, hQ3447, h3452, h3453, h3449, h3450⟩
                    obtain rfl := Fr.same hQ3447
                    have e3454 := (mUp_no e3444 e3111 (Or.inr (by decide)))
                    refine wk_ifeq r91_150 ⟨by omega, by omega⟩ ?_ ?_
                    · intro h3455
                      refine wk_al0 r91_169 (wk_cv1 r91_170 kc_739_84 rfl (m9084_739 _ M3441 v3108 hP3442 (mUp_no e3444 e3111 (Or.inr (by decide))) (by omega) (by omega)) (cqI ?_))
                      rintro v3462 M3456 ⟨hP3457, hQ3458, h3463, h3464, h3460, h3461⟩
                      obtain rfl := Fr.same hQ3458
                      have e3465 := (mUp_no e3444 e3111 (Or.inr (by decide)))
                      refine wk_ifne r91_173 ⟨by omega, by omega⟩ ?_ ?_
                      · intro h3466
                        exfalso
                        omega
                      · intro h3467
                        refine wk_al0 r91_176 (wk_getfi r91_177 fd_739_28 (mUp_no e3444 e3111 (Or.inr (by decide))) ?_)
                        subst hQ; exact wk_iret r91_180 (⟨rfl, _, rfl, hP3442, hF3443, by omega, by omega, by have := (mUp_no e3444 e3112 (Or.inr (by decide))); omega, (WS_sm (Sm.up e3444 g_739_41 rfl) pr3117), (QW_sm (Sm.up e3444 g_739_41 rfl) pr3118)⟩)
                    · intro h3468
                      refine wk_al0 r91_153 ?_
                      obtain ⟨v3469, e3470⟩ : ∃ v, M3441 739 43 = v := ⟨_, rfl⟩
                      have h3471 := bf_739_43 hP3442; rw [e3470] at h3471
                      refine wk_cv1 r91_154 kc_739_127 rfl (m9127_739 _ M3441 v3080 1 v3469 v131 hP3442 (mUp_no e3444 e3083 (Or.inr (by decide))) (by omega) (by omega) (mUp_at e3444) (by omega) (by omega) e3470 (by omega) (by omega) (mUp_no e3444 e3114 (Or.inr (by decide))) (by omega) (by omega) (MRP_sm (Sm.up e3444 g_739_41 rfl) pr3119)) (cqI ?_)
                      rintro v3477 M3472 ⟨hP3473, hQ3474, h3478, h3479, xh3476⟩
                      obtain rfl := Fr.same hQ3474
                      refine wk_c3 r91_157 ?_
                      refine wk_icle r91_160 ⟨by omega, by omega⟩ (by decide) ?_ ?_
                      · intro h3480
                        refine wk_al0 r91_169 (wk_cv1 r91_170 kc_739_84 rfl (m9084_739 _ M3441 v3108 hP3442 (mUp_no e3444 e3111 (Or.inr (by decide))) (by omega) (by omega)) (cqI ?_))
                        rintro v3487 M3481 ⟨hP3482, hQ3483, h3488, h3489, h3485, h3486⟩
                        obtain rfl := Fr.same hQ3483
                        have e3490 := (mUp_no e3444 e3111 (Or.inr (by decide)))
                        refine wk_ifne r91_173 ⟨by omega, by omega⟩ ?_ ?_
                        · intro h3491
                          have hsz := xh3476 (by omega)
                          have hMR : MRP M3441 := (MRP_sm (Sm.up e3444 g_739_41 rfl) pr3119)
                          obtain ⟨u3492, hu3493⟩ : ∃ u : Int → Int, ∀ k, M3441 757 k = u k := ⟨fun k => M3441 757 k, fun k => rfl⟩
                          obtain ⟨u3494, hu3495⟩ : ∃ u : Int → Int, ∀ k, M3441 756 k = u k := ⟨fun k => M3441 756 k, fun k => rfl⟩
                          have hu6 : ∀ k : Int, M3441 756 k = u3494 k := hu3495
                          obtain ⟨Mz, hMz⟩ : ∃ m : Mm, m = M3441 := ⟨_, rfl⟩
                          have hFD := FP_get (FP_sm (Sm.up e3444 g_739_41 rfl) pr3116) (mUp_no e3444 e3111 (Or.inr (by decide))) (by omega) (mUp_no e3444 e3091 (Or.inr (by decide))) (mUp_no e3444 e3079 (Or.inr (by decide))) hu3493
                          have hgk : M3441 739 28 = v3108 := (mUp_no e3444 e3111 (Or.inr (by decide)))
                          have hLP : LRP M3441 := (LRP_sm (Sm.up e3444 g_739_41 rfl) pr3120)
                          have hlr : M3441 739 42 = v3436 := (mUp_no e3444 e3437 (Or.inr (by decide)))
                          refine wk_al0 r91_181 (wk_al0 r91_182 (wk_getfi r91_183 fd_739_38 (mUp_no e3444 e3114 (Or.inr (by decide))) (wk_putfi81 r91_186 fd_739_1 (wk_nw g_739_1 rfl hP3442 hF3443 (uf_739_1 ⟨by omega, by omega⟩) ?_))))
                          intro M3496 hP3497 hF3498 e3499
                          refine wk_al0 r91_189 (wk_al0 r91_190 (wk_getfi r91_191 fd_739_39 (mUp_no e3499 (mUp_no e3444 e3083 (Or.inr (by decide))) (Or.inr (by decide))) (wk_putfi81 r91_194 fd_739_2 (wk_nw g_739_2 rfl hP3497 hF3498 (uf_739_2 ⟨by omega, by omega⟩) ?_))))
                          intro M3500 hP3501 hF3502 e3503
                          refine wk_al0 r91_197 (wk_al0 r91_198 (wk_getfi r91_199 fd_739_42 (mUp_no e3503 (mUp_no e3499 (mUp_no e3444 e3437 (Or.inr (by decide))) (Or.inr (by decide))) (Or.inr (by decide))) ?_))
                          have h3504 : 0 ≤ v3436 ∧ v3436 ≤ 127 := by have q := hLP (by omega); have := hlr; omega
                          refine wk_putfi81 r91_202 fd_739_3 (wk_nw g_739_3 rfl hP3501 hF3502 (uf_739_3 ⟨by omega, by omega⟩) ?_)
                          intro M3505 hP3506 hF3507 e3508
                          refine wk_al0 r91_205 (wk_al0 r91_206 (wk_getfi r91_207 fd_739_44 (mUp_no e3508 (mUp_no e3503 (mUp_no e3499 (mUp_no e3444 e3091 (Or.inr (by decide))) (Or.inr (by decide))) (Or.inr (by decide))) (Or.inr (by decide))) (wk_putfi81 r91_210 fd_739_4 (wk_nw g_739_4 rfl hP3506 hF3507 (uf_739_4 ⟨by omega, by omega⟩) ?_))))
                          intro M3509 hP3510 hF3511 e3512
                          refine wk_c1 r91_213 (wk_is2 r91_214 rfl ?_)
                          have c215_3634 : ∀ (k3634 : Nat) (M3516 : Mm) (v3513 : Int), (7 - v3513).toNat = k3634 → Pw M3516 → Fr fm_m9091_739 M0 M3516 → M3516 739 45 = v3076 → M3516 739 39 = v3080 → M3516 739 40 = v3084 → M3516 739 44 = v3088 → M3516 739 31 = v3092 → M3516 739 33 = v3096 → M3516 739 34 = v3100 → M3516 739 32 = v3104 → M3516 739 28 = v3108 → M3516 739 27 = v17 → M3516 739 30 = v26 → M3516 739 38 = v131 → M3516 739 42 = v3436 → M3516 739 41 = 1 → M3516 739 43 = v3469 → M3516 739 1 = v131 → M3516 739 2 = v3080 → M3516 739 3 = v3436 → M3516 739 4 = v3088 → 0 ≤ v3513 → v3513 ≤ 7 → (∀ k, M3516 757 k = u3492 k) → (∀ k, M3516 756 k = u3494 k) → (TK M3516) → (FP M3516) → (WS M3516) → (QW M3516) → (MRP M3516) → (LRP M3516) → 0 ≤ 1 * v26 + (-1) * v3092 → 0 ≤ 1 * v3092 + (-1) * v3096 + (-1) * v3100 → 0 ≤ (-1) * v3092 + 1 * v3096 + 1 * v3100 → 0 ≤ 4 * v3100 + (-1) * v3104 → 0 ≤ 1 * v3096 + (-2) * v3076 + 3000 * v3108 + 2 → 0 ≤ (-1) * v3076 + 262 → 0 ≤ (-1) * v3088 + 1 * v3096 + 3000 * v3108 → 0 ≤ (-1) * v3088 + 502 → 0 ≤ (-1) * v3080 + 4 + 3000 * v3108 → 0 ≤ 1 * v3080 + (-1) + 3000 * v3108 → 0 ≤ (-1) * v3084 + 6 + 3000 * v3108 → 0 ≤ (-1) * v131 + 7 + 3000 * v3108 → (∀ k : Int, 0 ≤ k → k < v3513 → M3516 740 k = u3494 k) → Wp B (d + 8) 91 215 [some (R 739), none, some (I v3513)] [] M3516 Q := by
                            refine lp_ind ?_
                            intro k3634 ih3634 M3516 v3513 hk3634 hP3517 hF3518 e3521 e3522 e3523 e3524 e3525 e3526 e3527 e3528 e3529 e3530 e3531 e3532 e3533 e3534 e3535 e3536 e3537 e3538 e3539 h3514 h3515 hu3519 hu3520 pr3540 pr3541 pr3542 pr3543 pr3544 pr3545 h3546 h3547 h3548 h3549 h3550 h3551 h3552 h3553 h3554 h3555 h3556 h3557 ti3558
                            refine wk_il2 r91_215 (wk_c2 r91_216 ?_)
                            refine wk_icge r91_218 ⟨by omega, by omega⟩ (by decide) ?_ ?_
                            · intro h3559
                              obtain ⟨Mb, hMb⟩ : ∃ m : Mm, m = M3516 := ⟨_, rfl⟩
                              have hA6 : ∀ k : Int, 0 ≤ k → k < 7 → Mb 740 k = u3494 k := fun k a b => by rw [hMb]; exact ti3558 k a (by omega)
                              refine wk_c1 r91_239 (wk_is2 r91_240 rfl ?_)
                              have c241_3624 : ∀ (k3624 : Nat) (M3563 : Mm) (v3560 : Int), (251 - v3560).toNat = k3624 → Pw M3563 → Fr fm_m9091_739 M0 M3563 → M3563 739 45 = v3076 → M3563 739 39 = v3080 → M3563 739 40 = v3084 → M3563 739 44 = v3088 → M3563 739 31 = v3092 → M3563 739 33 = v3096 → M3563 739 34 = v3100 → M3563 739 32 = v3104 → M3563 739 28 = v3108 → M3563 739 27 = v17 → M3563 739 30 = v26 → M3563 739 38 = v131 → M3563 739 42 = v3436 → M3563 739 41 = 1 → M3563 739 43 = v3469 → M3563 739 1 = v131 → M3563 739 2 = v3080 → M3563 739 3 = v3436 → M3563 739 4 = v3088 → 0 ≤ v3560 → v3560 ≤ 251 → (∀ k, M3563 757 k = u3492 k) → (∀ k, M3563 756 k = u3494 k) → (TK M3563) → (FP M3563) → (WS M3563) → (QW M3563) → (MRP M3563) → (LRP M3563) → 0 ≤ 1 * v26 + (-1) * v3092 → 0 ≤ 1 * v3092 + (-1) * v3096 + (-1) * v3100 → 0 ≤ (-1) * v3092 + 1 * v3096 + 1 * v3100 → 0 ≤ 4 * v3100 + (-1) * v3104 → 0 ≤ 1 * v3096 + (-2) * v3076 + 3000 * v3108 + 2 → 0 ≤ (-1) * v3076 + 262 → 0 ≤ (-1) * v3088 + 1 * v3096 + 3000 * v3108 → 0 ≤ (-1) * v3088 + 502 → 0 ≤ (-1) * v3080 + 4 + 3000 * v3108 → 0 ≤ 1 * v3080 + (-1) + 3000 * v3108 → 0 ≤ (-1) * v3084 + 6 + 3000 * v3108 → 0 ≤ (-1) * v131 + 7 + 3000 * v3108 → (∀ k : Int, 0 ≤ k → k < v3560 → M3563 741 (0 + k) = u3492 k) → (∀ k : Int, M3563 740 k = Mb 740 k) → Wp B (d + 8) 91 241 [some (R 739), none, some (I v3560)] [] M3563 Q := by
                                refine lp_ind ?_
                                intro k3624 ih3624 M3563 v3560 hk3624 hP3564 hF3565 e3568 e3569 e3570 e3571 e3572 e3573 e3574 e3575 e3576 e3577 e3578 e3579 e3580 e3581 e3582 e3583 e3584 e3585 e3586 h3561 h3562 hu3566 hu3567 pr3587 pr3588 pr3589 pr3590 pr3591 pr3592 h3593 h3594 h3595 h3596 h3597 h3598 h3599 h3600 h3601 h3602 h3603 h3604 ti3605 ti3606
                                refine wk_il2 r91_241 (wk_al0 r91_242 (wk_getfi r91_243 fd_739_45 e3568 ?_))
                                refine wk_icge r91_246 ⟨by omega, by omega⟩ ⟨by omega, by omega⟩ ?_ ?_
                                · intro h3607
                                  have pr3608 : FFP M3563 v3076 := FFP_mk hFD e3586 (fun k a b => ti3605 k a (by omega)) (by omega)
                                  have hA7 : ∀ k : Int, 0 ≤ k → k < 7 → M3563 740 k = u3494 k := fun k a b => (ti3606 k).trans (hA6 k a b)
                                  refine wk_al0 r91_267 (wk_cv1 r91_268 kc_739_108 rfl (m9108_739 _ M3563 v131 v3080 1 v3469 v3084 v3076 (v3080 * 1 * v3469) hP3564 e3583 (by omega) (by omega) e3584 (by omega) (by omega) e3581 (by omega) (by omega) e3582 (by omega) (by omega) e3570 (by omega) (by omega) (by first | assumption | omega | (unfold stepok; omega)) (rfl) (isl_sz hsz hu6 hA7 (by omega)) (fun k a b => by rw [hA7 k a b, ← hu6 k]; exact hMR k a b) pr3608) (cqV ?_))
                                  rintro M3609 ⟨hP3610, hQ3611, pr3613, pr3614⟩
                                  have hF3612 : Fr fm_m9091_739 M0 M3609 := hF3565.tr hQ3611 rfl
                                  refine wk_c1 r91_271 ?_
                                  subst hQ; exact wk_iret r91_272 (⟨rfl, _, rfl, hP3610, hF3612, by omega, by omega, by have := ((hQ3611.at g_739_27 rfl).trans e3577); omega, pr3613, pr3614⟩)
                                · intro h3615
                                  refine wk_al0 r91_249 (wk_getfr r91_250 fd_739_6 (br_739_6 hP3564) (wk_il2 r91_253 (wk_al0 r91_254 (wk_getfr r91_255 fd_739_49 (br_739_49 hP3564) (wk_il2 r91_258 (wk_ialdb r91_259 ar_757 ⟨by omega, by omega⟩ (fun q0 q1 => ba_757 hP3564 q0 q1) ?_))))))
                                  intro v3616 h3618 h3619 e3617
                                  refine wk_iast r91_260 ar_741 ⟨by omega, by omega⟩ (wk_nw (ga_741 _) rfl hP3564 hF3565 (uaR_741 (by rw [← e3617, hu3566]; exact FD_ok _ _ _ hFD.2 _ (by omega) (by omega))) ?_)
                                  intro M3620 hP3621 hF3622 e3623
                                  refine wk_inc2 r91_261 rfl (wk_goto r91_264 ?_)
                                  exact wp_fg (le_s (le_s (le_s le_0))) (ih3624 (251 - (v3560 + 1)).toNat (by omega) M3620 (v3560 + 1) rfl hP3621 hF3622 (mUp_no e3623 e3568 (Or.inl (by decide))) (mUp_no e3623 e3569 (Or.inl (by decide))) (mUp_no e3623 e3570 (Or.inl (by decide))) (mUp_no e3623 e3571 (Or.inl (by decide))) (mUp_no e3623 e3572 (Or.inl (by decide))) (mUp_no e3623 e3573 (Or.inl (by decide))) (mUp_no e3623 e3574 (Or.inl (by decide))) (mUp_no e3623 e3575 (Or.inl (by decide))) (mUp_no e3623 e3576 (Or.inl (by decide))) (mUp_no e3623 e3577 (Or.inl (by decide))) (mUp_no e3623 e3578 (Or.inl (by decide))) (mUp_no e3623 e3579 (Or.inl (by decide))) (mUp_no e3623 e3580 (Or.inl (by decide))) (mUp_no e3623 e3581 (Or.inl (by decide))) (mUp_no e3623 e3582 (Or.inl (by decide))) (mUp_no e3623 e3583 (Or.inl (by decide))) (mUp_no e3623 e3584 (Or.inl (by decide))) (mUp_no e3623 e3585 (Or.inl (by decide))) (mUp_no e3623 e3586 (Or.inl (by decide))) (by omega) (by omega) (fun k => mUp_no e3623 (hu3566 k) (Or.inl (by decide))) (fun k => mUp_no e3623 (hu3567 k) (Or.inl (by decide))) (TK_sm (Sm.up e3623 (ga_741 _) rfl) pr3587) (FP_sm (Sm.up e3623 (ga_741 _) rfl) pr3588) (WS_sm (Sm.up e3623 (ga_741 _) rfl) pr3589) (QW_sm (Sm.up e3623 (ga_741 _) rfl) pr3590) (MRP_sm (Sm.up e3623 (ga_741 _) rfl) pr3591) (LRP_sm (Sm.up e3623 (ga_741 _) rfl) pr3592) (by omega) (by omega) (by omega) (by omega) (by omega) (by omega) (by omega) (by omega) (by omega) (by omega) (by omega) (by omega) (cp_step (S := 0) (e0z e3623) ti3605 e3617 hu3566) (fun k => by rw [e3623, mUp_ne (Or.inl (by decide))]; exact ti3606 k))
                              exact wp_fg (le_s (le_s (le_s le_0))) (c241_3624 _ M3516 0 rfl hP3517 hF3518 e3521 e3522 e3523 e3524 e3525 e3526 e3527 e3528 e3529 e3530 e3531 e3532 e3533 e3534 e3535 e3536 e3537 e3538 e3539 (by omega) (by omega) hu3519 hu3520 pr3540 pr3541 pr3542 pr3543 pr3544 pr3545 (by omega) (by omega) (by omega) (by omega) (by omega) (by omega) (by omega) (by omega) (by omega) (by omega) (by omega) (by omega) (fun k a b => by omega) (fun k => by rw [hMb]))
                            · intro h3625
                              refine wk_al0 r91_221 (wk_getfr r91_222 fd_739_5 (br_739_5 hP3517) (wk_il2 r91_225 (wk_al0 r91_226 (wk_getfr r91_227 fd_739_48 (br_739_48 hP3517) (wk_il2 r91_230 (wk_ialdb r91_231 ar_756 ⟨by omega, by omega⟩ (fun q0 q1 => ba_756 hP3517 q0 q1) ?_))))))
                              intro v3626 h3628 h3629 e3627
                              refine wk_iast r91_232 ar_740 ⟨by omega, by omega⟩ (wk_nw (ga_740 _) rfl hP3517 hF3518 (ua_740 ⟨by omega, by omega⟩) ?_)
                              intro M3630 hP3631 hF3632 e3633
                              refine wk_inc2 r91_233 rfl (wk_goto r91_236 ?_)
                              exact wp_fg (le_s (le_s (le_s le_0))) (ih3634 (7 - (v3513 + 1)).toNat (by omega) M3630 (v3513 + 1) rfl hP3631 hF3632 (mUp_no e3633 e3521 (Or.inl (by decide))) (mUp_no e3633 e3522 (Or.inl (by decide))) (mUp_no e3633 e3523 (Or.inl (by decide))) (mUp_no e3633 e3524 (Or.inl (by decide))) (mUp_no e3633 e3525 (Or.inl (by decide))) (mUp_no e3633 e3526 (Or.inl (by decide))) (mUp_no e3633 e3527 (Or.inl (by decide))) (mUp_no e3633 e3528 (Or.inl (by decide))) (mUp_no e3633 e3529 (Or.inl (by decide))) (mUp_no e3633 e3530 (Or.inl (by decide))) (mUp_no e3633 e3531 (Or.inl (by decide))) (mUp_no e3633 e3532 (Or.inl (by decide))) (mUp_no e3633 e3533 (Or.inl (by decide))) (mUp_no e3633 e3534 (Or.inl (by decide))) (mUp_no e3633 e3535 (Or.inl (by decide))) (mUp_no e3633 e3536 (Or.inl (by decide))) (mUp_no e3633 e3537 (Or.inl (by decide))) (mUp_no e3633 e3538 (Or.inl (by decide))) (mUp_no e3633 e3539 (Or.inl (by decide))) (by omega) (by omega) (fun k => mUp_no e3633 (hu3519 k) (Or.inl (by decide))) (fun k => mUp_no e3633 (hu3520 k) (Or.inl (by decide))) (TK_sm (Sm.up e3633 (ga_740 _) rfl) pr3540) (FP_sm (Sm.up e3633 (ga_740 _) rfl) pr3541) (WS_sm (Sm.up e3633 (ga_740 _) rfl) pr3542) (QW_sm (Sm.up e3633 (ga_740 _) rfl) pr3543) (MRP_sm (Sm.up e3633 (ga_740 _) rfl) pr3544) (LRP_sm (Sm.up e3633 (ga_740 _) rfl) pr3545) (by omega) (by omega) (by omega) (by omega) (by omega) (by omega) (by omega) (by omega) (by omega) (by omega) (by omega) (by omega) (fun k a b => by rw [e3633]; (by_cases q : k = v3513); (rw [q, mUp_eq, ← e3627, hu3520]); (rw [mUp_ne (Or.inr q)]; exact ti3558 k a (by omega))))
                          exact wp_fg (le_s (le_s (le_s le_0))) (c215_3634 _ M3509 0 rfl hP3510 hF3511 (mUp_no e3512 (mUp_no e3508 (mUp_no e3503 (mUp_no e3499 (mUp_no e3444 e3079 (Or.inr (by decide))) (Or.inr (by decide))) (Or.inr (by decide))) (Or.inr (by decide))) (Or.inr (by decide))) (mUp_no e3512 (mUp_no e3508 (mUp_no e3503 (mUp_no e3499 (mUp_no e3444 e3083 (Or.inr (by decide))) (Or.inr (by decide))) (Or.inr (by decide))) (Or.inr (by decide))) (Or.inr (by decide))) (mUp_no e3512 (mUp_no e3508 (mUp_no e3503 (mUp_no e3499 (mUp_no e3444 e3087 (Or.inr (by decide))) (Or.inr (by decide))) (Or.inr (by decide))) (Or.inr (by decide))) (Or.inr (by decide))) (mUp_no e3512 (mUp_no e3508 (mUp_no e3503 (mUp_no e3499 (mUp_no e3444 e3091 (Or.inr (by decide))) (Or.inr (by decide))) (Or.inr (by decide))) (Or.inr (by decide))) (Or.inr (by decide))) (mUp_no e3512 (mUp_no e3508 (mUp_no e3503 (mUp_no e3499 (mUp_no e3444 e3095 (Or.inr (by decide))) (Or.inr (by decide))) (Or.inr (by decide))) (Or.inr (by decide))) (Or.inr (by decide))) (mUp_no e3512 (mUp_no e3508 (mUp_no e3503 (mUp_no e3499 (mUp_no e3444 e3099 (Or.inr (by decide))) (Or.inr (by decide))) (Or.inr (by decide))) (Or.inr (by decide))) (Or.inr (by decide))) (mUp_no e3512 (mUp_no e3508 (mUp_no e3503 (mUp_no e3499 (mUp_no e3444 e3103 (Or.inr (by decide))) (Or.inr (by decide))) (Or.inr (by decide))) (Or.inr (by decide))) (Or.inr (by decide))) (mUp_no e3512 (mUp_no e3508 (mUp_no e3503 (mUp_no e3499 (mUp_no e3444 e3107 (Or.inr (by decide))) (Or.inr (by decide))) (Or.inr (by decide))) (Or.inr (by decide))) (Or.inr (by decide))) (mUp_no e3512 (mUp_no e3508 (mUp_no e3503 (mUp_no e3499 (mUp_no e3444 e3111 (Or.inr (by decide))) (Or.inr (by decide))) (Or.inr (by decide))) (Or.inr (by decide))) (Or.inr (by decide))) (mUp_no e3512 (mUp_no e3508 (mUp_no e3503 (mUp_no e3499 (mUp_no e3444 e3112 (Or.inr (by decide))) (Or.inr (by decide))) (Or.inr (by decide))) (Or.inr (by decide))) (Or.inr (by decide))) (mUp_no e3512 (mUp_no e3508 (mUp_no e3503 (mUp_no e3499 (mUp_no e3444 e3113 (Or.inr (by decide))) (Or.inr (by decide))) (Or.inr (by decide))) (Or.inr (by decide))) (Or.inr (by decide))) (mUp_no e3512 (mUp_no e3508 (mUp_no e3503 (mUp_no e3499 (mUp_no e3444 e3114 (Or.inr (by decide))) (Or.inr (by decide))) (Or.inr (by decide))) (Or.inr (by decide))) (Or.inr (by decide))) (mUp_no e3512 (mUp_no e3508 (mUp_no e3503 (mUp_no e3499 (mUp_no e3444 e3437 (Or.inr (by decide))) (Or.inr (by decide))) (Or.inr (by decide))) (Or.inr (by decide))) (Or.inr (by decide))) (mUp_no e3512 (mUp_no e3508 (mUp_no e3503 (mUp_no e3499 (mUp_at e3444) (Or.inr (by decide))) (Or.inr (by decide))) (Or.inr (by decide))) (Or.inr (by decide))) (mUp_no e3512 (mUp_no e3508 (mUp_no e3503 (mUp_no e3499 e3470 (Or.inr (by decide))) (Or.inr (by decide))) (Or.inr (by decide))) (Or.inr (by decide))) (mUp_no e3512 (mUp_no e3508 (mUp_no e3503 (mUp_at e3499) (Or.inr (by decide))) (Or.inr (by decide))) (Or.inr (by decide))) (mUp_no e3512 (mUp_no e3508 (mUp_at e3503) (Or.inr (by decide))) (Or.inr (by decide))) (mUp_no e3512 (mUp_at e3508) (Or.inr (by decide))) (mUp_at e3512) (by omega) (by omega) (fun k => mUp_no e3512 ((fun k => mUp_no e3508 ((fun k => mUp_no e3503 ((fun k => mUp_no e3499 (hu3493 k) (Or.inl (by decide))) k) (Or.inl (by decide))) k) (Or.inl (by decide))) k) (Or.inl (by decide))) (fun k => mUp_no e3512 ((fun k => mUp_no e3508 ((fun k => mUp_no e3503 ((fun k => mUp_no e3499 (hu3495 k) (Or.inl (by decide))) k) (Or.inl (by decide))) k) (Or.inl (by decide))) k) (Or.inl (by decide))) (TK_sm (Sm.up e3512 g_739_4 rfl) (TK_sm (Sm.up e3508 g_739_3 rfl) (TK_sm (Sm.up e3503 g_739_2 rfl) (TK_sm (Sm.up e3499 g_739_1 rfl) (TK_sm (Sm.up e3444 g_739_41 rfl) pr3115))))) (FP_sm (Sm.up e3512 g_739_4 rfl) (FP_sm (Sm.up e3508 g_739_3 rfl) (FP_sm (Sm.up e3503 g_739_2 rfl) (FP_sm (Sm.up e3499 g_739_1 rfl) (FP_sm (Sm.up e3444 g_739_41 rfl) pr3116))))) (WS_sm (Sm.up e3512 g_739_4 rfl) (WS_sm (Sm.up e3508 g_739_3 rfl) (WS_sm (Sm.up e3503 g_739_2 rfl) (WS_sm (Sm.up e3499 g_739_1 rfl) (WS_sm (Sm.up e3444 g_739_41 rfl) pr3117))))) (QW_sm (Sm.up e3512 g_739_4 rfl) (QW_sm (Sm.up e3508 g_739_3 rfl) (QW_sm (Sm.up e3503 g_739_2 rfl) (QW_sm (Sm.up e3499 g_739_1 rfl) (QW_sm (Sm.up e3444 g_739_41 rfl) pr3118))))) (MRP_sm (Sm.up e3512 g_739_4 rfl) (MRP_sm (Sm.up e3508 g_739_3 rfl) (MRP_sm (Sm.up e3503 g_739_2 rfl) (MRP_sm (Sm.up e3499 g_739_1 rfl) (MRP_sm (Sm.up e3444 g_739_41 rfl) pr3119))))) (LRP_sm (Sm.up e3512 g_739_4 rfl) (LRP_sm (Sm.up e3508 g_739_3 rfl) (LRP_sm (Sm.up e3503 g_739_2 rfl) (LRP_sm (Sm.up e3499 g_739_1 rfl) (LRP_sm (Sm.up e3444 g_739_41 rfl) pr3120))))) (by omega) (by omega) (by omega) (by omega) (by omega) (by omega) (by omega) (by omega) (by omega) (by omega) (by omega) (by omega) (fun k a b => by omega))
                        · intro h3635
                          exfalso
                          omega
                      · intro h3636
                        refine wk_al0 r91_163 (wk_c2 r91_164 (wk_cv2 r91_166 kc_739_137 rfl (m9137_739 _ M3441 6 v3108 v3096 hP3442 (by decide) (by decide) (mUp_no e3444 e3111 (Or.inr (by decide))) (by omega) (by omega) (mUp_no e3444 e3099 (Or.inr (by decide))) (by omega) (by omega)) (cqV ?_)))
                        rintro M3637 ⟨hP3638, hQ3639, h3641, h3642⟩
                        have hF3640 : Fr fm_m9091_739 M0 M3637 := hF3443.tr hQ3639 rfl
                        obtain ⟨v3643, e3644⟩ : ∃ v, M3637 739 28 = v := ⟨_, rfl⟩
                        have h3645 := bf_739_28 hP3638; rw [e3644] at h3645
                        have pr3646 : FP M3637 := FP_mn (Sm.fr hQ3639 rfl) (fun q => by have := (mUp_no e3444 e3111 (Or.inr (by decide))); have := e3644; omega) (FP_sm (Sm.up e3444 g_739_41 rfl) pr3116)
                        have pr3647 : LRP M3637 := LRP_mn (Sm.fr hQ3639 rfl) (fun q => by have := (mUp_no e3444 e3111 (Or.inr (by decide))); have := e3644; omega) (LRP_sm (Sm.up e3444 g_739_41 rfl) pr3120)
                        refine wk_al0 r91_169 (wk_cv1 r91_170 kc_739_84 rfl (m9084_739 _ M3637 v3643 hP3638 e3644 (by omega) (by omega)) (cqI ?_))
                        rintro v3654 M3648 ⟨hP3649, hQ3650, h3655, h3656, h3652, h3653⟩
                        obtain rfl := Fr.same hQ3650
                        have e3657 := e3644
                        refine wk_ifne r91_173 ⟨by omega, by omega⟩ ?_ ?_
                        · intro h3658
                          exfalso
                          omega
                        · intro h3659
                          refine wk_al0 r91_176 (wk_getfi r91_177 fd_739_28 e3644 ?_)
                          subst hQ; exact wk_iret r91_180 (⟨rfl, _, rfl, hP3638, hF3640, by omega, by omega, by have := ((hQ3639.at g_739_27 rfl).trans (mUp_no e3444 e3112 (Or.inr (by decide)))); omega, (WS_sm (Sm.fr hQ3639 rfl) (WS_sm (Sm.up e3444 g_739_41 rfl) pr3117)), (QW_sm (Sm.fr hQ3639 rfl) (QW_sm (Sm.up e3444 g_739_41 rfl) pr3118))⟩)
                  · intro h3660
                    refine wk_c2 r91_137 (wk_goto r91_139 (wk_putfi81 r91_143 fd_739_41 (wk_nw g_739_41 rfl hP3074 hF3075 (uf_739_41 (by decide)) ?_)))
                    intro M3661 hP3662 hF3663 e3664
                    refine wk_al0 r91_146 (wk_cv1 r91_147 kc_739_84 rfl (m9084_739 _ M3661 v3108 hP3662 (mUp_no e3664 e3111 (Or.inr (by decide))) (by omega) (by omega)) (cqI ?_))
                    rintro v3671 M3665 ⟨hP3666, hQ3667, h3672, h3673, h3669, h3670⟩
                    obtain rfl := Fr.same hQ3667
                    have e3674 := (mUp_no e3664 e3111 (Or.inr (by decide)))
                    refine wk_ifeq r91_150 ⟨by omega, by omega⟩ ?_ ?_
                    · intro h3675
                      refine wk_al0 r91_169 (wk_cv1 r91_170 kc_739_84 rfl (m9084_739 _ M3661 v3108 hP3662 (mUp_no e3664 e3111 (Or.inr (by decide))) (by omega) (by omega)) (cqI ?_))
                      rintro v3682 M3676 ⟨hP3677, hQ3678, h3683, h3684, h3680, h3681⟩
                      obtain rfl := Fr.same hQ3678
                      have e3685 := (mUp_no e3664 e3111 (Or.inr (by decide)))
                      refine wk_ifne r91_173 ⟨by omega, by omega⟩ ?_ ?_
                      · intro h3686
                        exfalso
                        omega
                      · intro h3687
                        refine wk_al0 r91_176 (wk_getfi r91_177 fd_739_28 (mUp_no e3664 e3111 (Or.inr (by decide))) ?_)
                        subst hQ; exact wk_iret r91_180 (⟨rfl, _, rfl, hP3662, hF3663, by omega, by omega, by have := (mUp_no e3664 e3112 (Or.inr (by decide))); omega, (WS_sm (Sm.up e3664 g_739_41 rfl) pr3117), (QW_sm (Sm.up e3664 g_739_41 rfl) pr3118)⟩)
                    · intro h3688
                      refine wk_al0 r91_153 ?_
                      obtain ⟨v3689, e3690⟩ : ∃ v, M3661 739 43 = v := ⟨_, rfl⟩
                      have h3691 := bf_739_43 hP3662; rw [e3690] at h3691
                      refine wk_cv1 r91_154 kc_739_127 rfl (m9127_739 _ M3661 v3080 7 v3689 v131 hP3662 (mUp_no e3664 e3083 (Or.inr (by decide))) (by omega) (by omega) (mUp_at e3664) (by omega) (by omega) e3690 (by omega) (by omega) (mUp_no e3664 e3114 (Or.inr (by decide))) (by omega) (by omega) (MRP_sm (Sm.up e3664 g_739_41 rfl) pr3119)) (cqI ?_)
                      rintro v3697 M3692 ⟨hP3693, hQ3694, h3698, h3699, xh3696⟩
                      obtain rfl := Fr.same hQ3694
                      refine wk_c3 r91_157 ?_
                      refine wk_icle r91_160 ⟨by omega, by omega⟩ (by decide) ?_ ?_
                      · intro h3700
                        refine wk_al0 r91_169 (wk_cv1 r91_170 kc_739_84 rfl (m9084_739 _ M3661 v3108 hP3662 (mUp_no e3664 e3111 (Or.inr (by decide))) (by omega) (by omega)) (cqI ?_))
                        rintro v3707 M3701 ⟨hP3702, hQ3703, h3708, h3709, h3705, h3706⟩
                        obtain rfl := Fr.same hQ3703
                        have e3710 := (mUp_no e3664 e3111 (Or.inr (by decide)))
                        refine wk_ifne r91_173 ⟨by omega, by omega⟩ ?_ ?_
                        · intro h3711
                          have hsz := xh3696 (by omega)
                          have hMR : MRP M3661 := (MRP_sm (Sm.up e3664 g_739_41 rfl) pr3119)
                          obtain ⟨u3712, hu3713⟩ : ∃ u : Int → Int, ∀ k, M3661 757 k = u k := ⟨fun k => M3661 757 k, fun k => rfl⟩
                          obtain ⟨u3714, hu3715⟩ : ∃ u : Int → Int, ∀ k, M3661 756 k = u k := ⟨fun k => M3661 756 k, fun k => rfl⟩
                          have hu6 : ∀ k : Int, M3661 756 k = u3714 k := hu3715
                          obtain ⟨Mz, hMz⟩ : ∃ m : Mm, m = M3661 := ⟨_, rfl⟩
                          have hFD := FP_get (FP_sm (Sm.up e3664 g_739_41 rfl) pr3116) (mUp_no e3664 e3111 (Or.inr (by decide))) (by omega) (mUp_no e3664 e3091 (Or.inr (by decide))) (mUp_no e3664 e3079 (Or.inr (by decide))) hu3713
                          have hgk : M3661 739 28 = v3108 := (mUp_no e3664 e3111 (Or.inr (by decide)))
                          have hLP : LRP M3661 := (LRP_sm (Sm.up e3664 g_739_41 rfl) pr3120)
                          have hlr : M3661 739 42 = v3436 := (mUp_no e3664 e3437 (Or.inr (by decide)))
                          refine wk_al0 r91_181 (wk_al0 r91_182 (wk_getfi r91_183 fd_739_38 (mUp_no e3664 e3114 (Or.inr (by decide))) (wk_putfi81 r91_186 fd_739_1 (wk_nw g_739_1 rfl hP3662 hF3663 (uf_739_1 ⟨by omega, by omega⟩) ?_))))
                          intro M3716 hP3717 hF3718 e3719
                          refine wk_al0 r91_189 (wk_al0 r91_190 (wk_getfi r91_191 fd_739_39 (mUp_no e3719 (mUp_no e3664 e3083 (Or.inr (by decide))) (Or.inr (by decide))) (wk_putfi81 r91_194 fd_739_2 (wk_nw g_739_2 rfl hP3717 hF3718 (uf_739_2 ⟨by omega, by omega⟩) ?_))))
                          intro M3720 hP3721 hF3722 e3723
                          refine wk_al0 r91_197 (wk_al0 r91_198 (wk_getfi r91_199 fd_739_42 (mUp_no e3723 (mUp_no e3719 (mUp_no e3664 e3437 (Or.inr (by decide))) (Or.inr (by decide))) (Or.inr (by decide))) ?_))
                          have h3724 : 0 ≤ v3436 ∧ v3436 ≤ 127 := by have q := hLP (by omega); have := hlr; omega
                          refine wk_putfi81 r91_202 fd_739_3 (wk_nw g_739_3 rfl hP3721 hF3722 (uf_739_3 ⟨by omega, by omega⟩) ?_)
                          intro M3725 hP3726 hF3727 e3728
                          refine wk_al0 r91_205 (wk_al0 r91_206 (wk_getfi r91_207 fd_739_44 (mUp_no e3728 (mUp_no e3723 (mUp_no e3719 (mUp_no e3664 e3091 (Or.inr (by decide))) (Or.inr (by decide))) (Or.inr (by decide))) (Or.inr (by decide))) (wk_putfi81 r91_210 fd_739_4 (wk_nw g_739_4 rfl hP3726 hF3727 (uf_739_4 ⟨by omega, by omega⟩) ?_))))
                          intro M3729 hP3730 hF3731 e3732
                          refine wk_c1 r91_213 (wk_is2 r91_214 rfl ?_)
                          have c215_3854 : ∀ (k3854 : Nat) (M3736 : Mm) (v3733 : Int), (7 - v3733).toNat = k3854 → Pw M3736 → Fr fm_m9091_739 M0 M3736 → M3736 739 45 = v3076 → M3736 739 39 = v3080 → M3736 739 40 = v3084 → M3736 739 44 = v3088 → M3736 739 31 = v3092 → M3736 739 33 = v3096 → M3736 739 34 = v3100 → M3736 739 32 = v3104 → M3736 739 28 = v3108 → M3736 739 27 = v17 → M3736 739 30 = v26 → M3736 739 38 = v131 → M3736 739 42 = v3436 → M3736 739 41 = 7 → M3736 739 43 = v3689 → M3736 739 1 = v131 → M3736 739 2 = v3080 → M3736 739 3 = v3436 → M3736 739 4 = v3088 → 0 ≤ v3733 → v3733 ≤ 7 → (∀ k, M3736 757 k = u3712 k) → (∀ k, M3736 756 k = u3714 k) → (TK M3736) → (FP M3736) → (WS M3736) → (QW M3736) → (MRP M3736) → (LRP M3736) → 0 ≤ 1 * v26 + (-1) * v3092 → 0 ≤ 1 * v3092 + (-1) * v3096 + (-1) * v3100 → 0 ≤ (-1) * v3092 + 1 * v3096 + 1 * v3100 → 0 ≤ 4 * v3100 + (-1) * v3104 → 0 ≤ 1 * v3096 + (-2) * v3076 + 3000 * v3108 + 2 → 0 ≤ (-1) * v3076 + 262 → 0 ≤ (-1) * v3088 + 1 * v3096 + 3000 * v3108 → 0 ≤ (-1) * v3088 + 502 → 0 ≤ (-1) * v3080 + 4 + 3000 * v3108 → 0 ≤ 1 * v3080 + (-1) + 3000 * v3108 → 0 ≤ (-1) * v3084 + 6 + 3000 * v3108 → 0 ≤ (-1) * v131 + 7 + 3000 * v3108 → (∀ k : Int, 0 ≤ k → k < v3733 → M3736 740 k = u3714 k) → Wp B (d + 8) 91 215 [some (R 739), none, some (I v3733)] [] M3736 Q := by
                            refine lp_ind ?_
                            intro k3854 ih3854 M3736 v3733 hk3854 hP3737 hF3738 e3741 e3742 e3743 e3744 e3745 e3746 e3747 e3748 e3749 e3750 e3751 e3752 e3753 e3754 e3755 e3756 e3757 e3758 e3759 h3734 h3735 hu3739 hu3740 pr3760 pr3761 pr3762 pr3763 pr3764 pr3765 h3766 h3767 h3768 h3769 h3770 h3771 h3772 h3773 h3774 h3775 h3776 h3777 ti3778
                            refine wk_il2 r91_215 (wk_c2 r91_216 ?_)
                            refine wk_icge r91_218 ⟨by omega, by omega⟩ (by decide) ?_ ?_
                            · intro h3779
                              obtain ⟨Mb, hMb⟩ : ∃ m : Mm, m = M3736 := ⟨_, rfl⟩
                              have hA6 : ∀ k : Int, 0 ≤ k → k < 7 → Mb 740 k = u3714 k := fun k a b => by rw [hMb]; exact ti3778 k a (by omega)
                              refine wk_c1 r91_239 (wk_is2 r91_240 rfl ?_)
                              have c241_3844 : ∀ (k3844 : Nat) (M3783 : Mm) (v3780 : Int), (251 - v3780).toNat = k3844 → Pw M3783 → Fr fm_m9091_739 M0 M3783 → M3783 739 45 = v3076 → M3783 739 39 = v3080 → M3783 739 40 = v3084 → M3783 739 44 = v3088 → M3783 739 31 = v3092 → M3783 739 33 = v3096 → M3783 739 34 = v3100 → M3783 739 32 = v3104 → M3783 739 28 = v3108 → M3783 739 27 = v17 → M3783 739 30 = v26 → M3783 739 38 = v131 → M3783 739 42 = v3436 → M3783 739 41 = 7 → M3783 739 43 = v3689 → M3783 739 1 = v131 → M3783 739 2 = v3080 → M3783 739 3 = v3436 → M3783 739 4 = v3088 → 0 ≤ v3780 → v3780 ≤ 251 → (∀ k, M3783 757 k = u3712 k) → (∀ k, M3783 756 k = u3714 k) → (TK M3783) → (FP M3783) → (WS M3783) → (QW M3783) → (MRP M3783) → (LRP M3783) → 0 ≤ 1 * v26 + (-1) * v3092 → 0 ≤ 1 * v3092 + (-1) * v3096 + (-1) * v3100 → 0 ≤ (-1) * v3092 + 1 * v3096 + 1 * v3100 → 0 ≤ 4 * v3100 + (-1) * v3104 → 0 ≤ 1 * v3096 + (-2) * v3076 + 3000 * v3108 + 2 → 0 ≤ (-1) * v3076 + 262 → 0 ≤ (-1) * v3088 + 1 * v3096 + 3000 * v3108 → 0 ≤ (-1) * v3088 + 502 → 0 ≤ (-1) * v3080 + 4 + 3000 * v3108 → 0 ≤ 1 * v3080 + (-1) + 3000 * v3108 → 0 ≤ (-1) * v3084 + 6 + 3000 * v3108 → 0 ≤ (-1) * v131 + 7 + 3000 * v3108 → (∀ k : Int, 0 ≤ k → k < v3780 → M3783 741 (0 + k) = u3712 k) → (∀ k : Int, M3783 740 k = Mb 740 k) → Wp B (d + 8) 91 241 [some (R 739), none, some (I v3780)] [] M3783 Q := by
                                refine lp_ind ?_
                                intro k3844 ih3844 M3783 v3780 hk3844 hP3784 hF3785 e3788 e3789 e3790 e3791 e3792 e3793 e3794 e3795 e3796 e3797 e3798 e3799 e3800 e3801 e3802 e3803 e3804 e3805 e3806 h3781 h3782 hu3786 hu3787 pr3807 pr3808 pr3809 pr3810 pr3811 pr3812 h3813 h3814 h3815 h3816 h3817 h3818 h3819 h3820 h3821 h3822 h3823 h3824 ti3825 ti3826
                                refine wk_il2 r91_241 (wk_al0 r91_242 (wk_getfi r91_243 fd_739_45 e3788 ?_))
                                refine wk_icge r91_246 ⟨by omega, by omega⟩ ⟨by omega, by omega⟩ ?_ ?_
                                · intro h3827
                                  have pr3828 : FFP M3783 v3076 := FFP_mk hFD e3806 (fun k a b => ti3825 k a (by omega)) (by omega)
                                  have hA7 : ∀ k : Int, 0 ≤ k → k < 7 → M3783 740 k = u3714 k := fun k a b => (ti3826 k).trans (hA6 k a b)
                                  refine wk_al0 r91_267 (wk_cv1 r91_268 kc_739_108 rfl (m9108_739 _ M3783 v131 v3080 7 v3689 v3084 v3076 (v3080 * 7 * v3689) hP3784 e3803 (by omega) (by omega) e3804 (by omega) (by omega) e3801 (by omega) (by omega) e3802 (by omega) (by omega) e3790 (by omega) (by omega) (by first | assumption | omega | (unfold stepok; omega)) (rfl) (isl_sz hsz hu6 hA7 (by omega)) (fun k a b => by rw [hA7 k a b, ← hu6 k]; exact hMR k a b) pr3828) (cqV ?_))
                                  rintro M3829 ⟨hP3830, hQ3831, pr3833, pr3834⟩
                                  have hF3832 : Fr fm_m9091_739 M0 M3829 := hF3785.tr hQ3831 rfl
                                  refine wk_c1 r91_271 ?_
                                  subst hQ; exact wk_iret r91_272 (⟨rfl, _, rfl, hP3830, hF3832, by omega, by omega, by have := ((hQ3831.at g_739_27 rfl).trans e3797); omega, pr3833, pr3834⟩)
                                · intro h3835
                                  refine wk_al0 r91_249 (wk_getfr r91_250 fd_739_6 (br_739_6 hP3784) (wk_il2 r91_253 (wk_al0 r91_254 (wk_getfr r91_255 fd_739_49 (br_739_49 hP3784) (wk_il2 r91_258 (wk_ialdb r91_259 ar_757 ⟨by omega, by omega⟩ (fun q0 q1 => ba_757 hP3784 q0 q1) ?_))))))
                                  intro v3836 h3838 h3839 e3837
                                  refine wk_iast r91_260 ar_741 ⟨by omega, by omega⟩ (wk_nw (ga_741 _) rfl hP3784 hF3785 (uaR_741 (by rw [← e3837, hu3786]; exact FD_ok _ _ _ hFD.2 _ (by omega) (by omega))) ?_)
                                  intro M3840 hP3841 hF3842 e3843
                                  refine wk_inc2 r91_261 rfl (wk_goto r91_264 ?_)
                                  exact wp_fg (le_s (le_s (le_s le_0))) (ih3844 (251 - (v3780 + 1)).toNat (by omega) M3840 (v3780 + 1) rfl hP3841 hF3842 (mUp_no e3843 e3788 (Or.inl (by decide))) (mUp_no e3843 e3789 (Or.inl (by decide))) (mUp_no e3843 e3790 (Or.inl (by decide))) (mUp_no e3843 e3791 (Or.inl (by decide))) (mUp_no e3843 e3792 (Or.inl (by decide))) (mUp_no e3843 e3793 (Or.inl (by decide))) (mUp_no e3843 e3794 (Or.inl (by decide))) (mUp_no e3843 e3795 (Or.inl (by decide))) (mUp_no e3843 e3796 (Or.inl (by decide))) (mUp_no e3843 e3797 (Or.inl (by decide))) (mUp_no e3843 e3798 (Or.inl (by decide))) (mUp_no e3843 e3799 (Or.inl (by decide))) (mUp_no e3843 e3800 (Or.inl (by decide))) (mUp_no e3843 e3801 (Or.inl (by decide))) (mUp_no e3843 e3802 (Or.inl (by decide))) (mUp_no e3843 e3803 (Or.inl (by decide))) (mUp_no e3843 e3804 (Or.inl (by decide))) (mUp_no e3843 e3805 (Or.inl (by decide))) (mUp_no e3843 e3806 (Or.inl (by decide))) (by omega) (by omega) (fun k => mUp_no e3843 (hu3786 k) (Or.inl (by decide))) (fun k => mUp_no e3843 (hu3787 k) (Or.inl (by decide))) (TK_sm (Sm.up e3843 (ga_741 _) rfl) pr3807) (FP_sm (Sm.up e3843 (ga_741 _) rfl) pr3808) (WS_sm (Sm.up e3843 (ga_741 _) rfl) pr3809) (QW_sm (Sm.up e3843 (ga_741 _) rfl) pr3810) (MRP_sm (Sm.up e3843 (ga_741 _) rfl) pr3811) (LRP_sm (Sm.up e3843 (ga_741 _) rfl) pr3812) (by omega) (by omega) (by omega) (by omega) (by omega) (by omega) (by omega) (by omega) (by omega) (by omega) (by omega) (by omega) (cp_step (S := 0) (e0z e3843) ti3825 e3837 hu3786) (fun k => by rw [e3843, mUp_ne (Or.inl (by decide))]; exact ti3826 k))
                              exact wp_fg (le_s (le_s (le_s le_0))) (c241_3844 _ M3736 0 rfl hP3737 hF3738 e3741 e3742 e3743 e3744 e3745 e3746 e3747 e3748 e3749 e3750 e3751 e3752 e3753 e3754 e3755 e3756 e3757 e3758 e3759 (by omega) (by omega) hu3739 hu3740 pr3760 pr3761 pr3762 pr3763 pr3764 pr3765 (by omega) (by omega) (by omega) (by omega) (by omega) (by omega) (by omega) (by omega) (by omega) (by omega) (by omega) (by omega) (fun k a b => by omega) (fun k => by rw [hMb]))
                            · intro h3845
                              refine wk_al0 r91_221 (wk_getfr r91_222 fd_739_5 (br_739_5 hP3737) (wk_il2 r91_225 (wk_al0 r91_226 (wk_getfr r91_227 fd_739_48 (br_739_48 hP3737) (wk_il2 r91_230 (wk_ialdb r91_231 ar_756 ⟨by omega, by omega⟩ (fun q0 q1 => ba_756 hP3737 q0 q1) ?_))))))
                              intro v3846 h3848 h3849 e3847
                              refine wk_iast r91_232 ar_740 ⟨by omega, by omega⟩ (wk_nw (ga_740 _) rfl hP3737 hF3738 (ua_740 ⟨by omega, by omega⟩) ?_)
                              intro M3850 hP3851 hF3852 e3853
                              refine wk_inc2 r91_233 rfl (wk_goto r91_236 ?_)
                              exact wp_fg (le_s (le_s (le_s le_0))) (ih3854 (7 - (v3733 + 1)).toNat (by omega) M3850 (v3733 + 1) rfl hP3851 hF3852 (mUp_no e3853 e3741 (Or.inl (by decide))) (mUp_no e3853 e3742 (Or.inl (by decide))) (mUp_no e3853 e3743 (Or.inl (by decide))) (mUp_no e3853 e3744 (Or.inl (by decide))) (mUp_no e3853 e3745 (Or.inl (by decide))) (mUp_no e3853 e3746 (Or.inl (by decide))) (mUp_no e3853 e3747 (Or.inl (by decide))) (mUp_no e3853 e3748 (Or.inl (by decide))) (mUp_no e3853 e3749 (Or.inl (by decide))) (mUp_no e3853 e3750 (Or.inl (by decide))) (mUp_no e3853 e3751 (Or.inl (by decide))) (mUp_no e3853 e3752 (Or.inl (by decide))) (mUp_no e3853 e3753 (Or.inl (by decide))) (mUp_no e3853 e3754 (Or.inl (by decide))) (mUp_no e3853 e3755 (Or.inl (by decide))) (mUp_no e3853 e3756 (Or.inl (by decide))) (mUp_no e3853 e3757 (Or.inl (by decide))) (mUp_no e3853 e3758 (Or.inl (by decide))) (mUp_no e3853 e3759 (Or.inl (by decide))) (by omega) (by omega) (fun k => mUp_no e3853 (hu3739 k) (Or.inl (by decide))) (fun k => mUp_no e3853 (hu3740 k) (Or.inl (by decide))) (TK_sm (Sm.up e3853 (ga_740 _) rfl) pr3760) (FP_sm (Sm.up e3853 (ga_740 _) rfl) pr3761) (WS_sm (Sm.up e3853 (ga_740 _) rfl) pr3762) (QW_sm (Sm.up e3853 (ga_740 _) rfl) pr3763) (MRP_sm (Sm.up e3853 (ga_740 _) rfl) pr3764) (LRP_sm (Sm.up e3853 (ga_740 _) rfl) pr3765) (by omega) (by omega) (by omega) (by omega) (by omega) (by omega) (by omega) (by omega) (by omega) (by omega) (by omega) (by omega) (fun k a b => by rw [e3853]; (by_cases q : k = v3733); (rw [q, mUp_eq, ← e3847, hu3740]); (rw [mUp_ne (Or.inr q)]; exact ti3778 k a (by omega))))
                          exact wp_fg (le_s (le_s (le_s le_0))) (c215_3854 _ M3729 0 rfl hP3730 hF3731 (mUp_no e3732 (mUp_no e3728 (mUp_no e3723 (mUp_no e3719 (mUp_no e3664 e3079 (Or.inr (by decide))) (Or.inr (by decide))) (Or.inr (by decide))) (Or.inr (by decide))) (Or.inr (by decide))) (mUp_no e3732 (mUp_no e3728 (mUp_no e3723 (mUp_no e3719 (mUp_no e3664 e3083 (Or.inr (by decide))) (Or.inr (by decide))) (Or.inr (by decide))) (Or.inr (by decide))) (Or.inr (by decide))) (mUp_no e3732 (mUp_no e3728 (mUp_no e3723 (mUp_no e3719 (mUp_no e3664 e3087 (Or.inr (by decide))) (Or.inr (by decide))) (Or.inr (by decide))) (Or.inr (by decide))) (Or.inr (by decide))) (mUp_no e3732 (mUp_no e3728 (mUp_no e3723 (mUp_no e3719 (mUp_no e3664 e3091 (Or.inr (by decide))) (Or.inr (by decide))) (Or.inr (by decide))) (Or.inr (by decide))) (Or.inr (by decide))) (mUp_no e3732 (mUp_no e3728 (mUp_no e3723 (mUp_no e3719 (mUp_no e3664 e3095 (Or.inr (by decide))) (Or.inr (by decide))) (Or.inr (by decide))) (Or.inr (by decide))) (Or.inr (by decide))) (mUp_no e3732 (mUp_no e3728 (mUp_no e3723 (mUp_no e3719 (mUp_no e3664 e3099 (Or.inr (by decide))) (Or.inr (by decide))) (Or.inr (by decide))) (Or.inr (by decide))) (Or.inr (by decide))) (mUp_no e3732 (mUp_no e3728 (mUp_no e3723 (mUp_no e3719 (mUp_no e3664 e3103 (Or.inr (by decide))) (Or.inr (by decide))) (Or.inr (by decide))) (Or.inr (by decide))) (Or.inr (by decide))) (mUp_no e3732 (mUp_no e3728 (mUp_no e3723 (mUp_no e3719 (mUp_no e3664 e3107 (Or.inr (by decide))) (Or.inr (by decide))) (Or.inr (by decide))) (Or.inr (by decide))) (Or.inr (by decide))) (mUp_no e3732 (mUp_no e3728 (mUp_no e3723 (mUp_no e3719 (mUp_no e3664 e3111 (Or.inr (by decide))) (Or.inr (by decide))) (Or.inr (by decide))) (Or.inr (by decide))) (Or.inr (by decide))) (mUp_no e3732 (mUp_no e3728 (mUp_no e3723 (mUp_no e3719 (mUp_no e3664 e3112 (Or.inr (by decide))) (Or.inr (by decide))) (Or.inr (by decide))) (Or.inr (by decide))) (Or.inr (by decide))) (mUp_no e3732 (mUp_no e3728 (mUp_no e3723 (mUp_no e3719 (mUp_no e3664 e3113 (Or.inr (by decide))) (Or.inr (by decide))) (Or.inr (by decide))) (Or.inr (by decide))) (Or.inr (by decide))) (mUp_no e3732 (mUp_no e3728 (mUp_no e3723 (mUp_no e3719 (mUp_no e3664 e3114 (Or.inr (by decide))) (Or.inr (by decide))) (Or.inr (by decide))) (Or.inr (by decide))) (Or.inr (by decide))) (mUp_no e3732 (mUp_no e3728 (mUp_no e3723 (mUp_no e3719 (mUp_no e3664 e3437 (Or.inr (by decide))) (Or.inr (by decide))) (Or.inr (by decide))) (Or.inr (by decide))) (Or.inr (by decide))) (mUp_no e3732 (mUp_no e3728 (mUp_no e3723 (mUp_no e3719 (mUp_at e3664) (Or.inr (by decide))) (Or.inr (by decide))) (Or.inr (by decide))) (Or.inr (by decide))) (mUp_no e3732 (mUp_no e3728 (mUp_no e3723 (mUp_no e3719 e3690 (Or.inr (by decide))) (Or.inr (by decide))) (Or.inr (by decide))) (Or.inr (by decide))) (mUp_no e3732 (mUp_no e3728 (mUp_no e3723 (mUp_at e3719) (Or.inr (by decide))) (Or.inr (by decide))) (Or.inr (by decide))) (mUp_no e3732 (mUp_no e3728 (mUp_at e3723) (Or.inr (by decide))) (Or.inr (by decide))) (mUp_no e3732 (mUp_at e3728) (Or.inr (by decide))) (mUp_at e3732) (by omega) (by omega) (fun k => mUp_no e3732 ((fun k => mUp_no e3728 ((fun k => mUp_no e3723 ((fun k => mUp_no e3719 (hu3713 k) (Or.inl (by decide))) k) (Or.inl (by decide))) k) (Or.inl (by decide))) k) (Or.inl (by decide))) (fun k => mUp_no e3732 ((fun k => mUp_no e3728 ((fun k => mUp_no e3723 ((fun k => mUp_no e3719 (hu3715 k) (Or.inl (by decide))) k) (Or.inl (by decide))) k) (Or.inl (by decide))) k) (Or.inl (by decide))) (TK_sm (Sm.up e3732 g_739_4 rfl) (TK_sm (Sm.up e3728 g_739_3 rfl) (TK_sm (Sm.up e3723 g_739_2 rfl) (TK_sm (Sm.up e3719 g_739_1 rfl) (TK_sm (Sm.up e3664 g_739_41 rfl) pr3115))))) (FP_sm (Sm.up e3732 g_739_4 rfl) (FP_sm (Sm.up e3728 g_739_3 rfl) (FP_sm (Sm.up e3723 g_739_2 rfl) (FP_sm (Sm.up e3719 g_739_1 rfl) (FP_sm (Sm.up e3664 g_739_41 rfl) pr3116))))) (WS_sm (Sm.up e3732 g_739_4 rfl) (WS_sm (Sm.up e3728 g_739_3 rfl) (WS_sm (Sm.up e3723 g_739_2 rfl) (WS_sm (Sm.up e3719 g_739_1 rfl) (WS_sm (Sm.up e3664 g_739_41 rfl) pr3117))))) (QW_sm (Sm.up e3732 g_739_4 rfl) (QW_sm (Sm.up e3728 g_739_3 rfl) (QW_sm (Sm.up e3723 g_739_2 rfl) (QW_sm (Sm.up e3719 g_739_1 rfl) (QW_sm (Sm.up e3664 g_739_41 rfl) pr3118))))) (MRP_sm (Sm.up e3732 g_739_4 rfl) (MRP_sm (Sm.up e3728 g_739_3 rfl) (MRP_sm (Sm.up e3723 g_739_2 rfl) (MRP_sm (Sm.up e3719 g_739_1 rfl) (MRP_sm (Sm.up e3664 g_739_41 rfl) pr3119))))) (LRP_sm (Sm.up e3732 g_739_4 rfl) (LRP_sm (Sm.up e3728 g_739_3 rfl) (LRP_sm (Sm.up e3723 g_739_2 rfl) (LRP_sm (Sm.up e3719 g_739_1 rfl) (LRP_sm (Sm.up e3664 g_739_41 rfl) pr3120))))) (by omega) (by omega) (by omega) (by omega) (by omega) (by omega) (by omega) (by omega) (by omega) (by omega) (by omega) (by omega) (fun k a b => by omega))
                        · intro h3855
                          exfalso
                          omega
                      · intro h3856
                        refine wk_al0 r91_163 (wk_c2 r91_164 (wk_cv2 r91_166 kc_739_137 rfl (m9137_739 _ M3661 6 v3108 v3096 hP3662 (by decide) (by decide) (mUp_no e3664 e3111 (Or.inr (by decide))) (by omega) (by omega) (mUp_no e3664 e3099 (Or.inr (by decide))) (by omega) (by omega)) (cqV ?_)))
                        rintro M3857 ⟨hP3858, hQ3859, h3861, h3862⟩
                        have hF3860 : Fr fm_m9091_739 M0 M3857 := hF3663.tr hQ3859 rfl
                        obtain ⟨v3863, e3864⟩ : ∃ v, M3857 739 28 = v := ⟨_, rfl⟩
                        have h3865 := bf_739_28 hP3858; rw [e3864] at h3865
                        have pr3866 : FP M3857 := FP_mn (Sm.fr hQ3859 rfl) (fun q => by have := (mUp_no e3664 e3111 (Or.inr (by decide))); have := e3864; omega) (FP_sm (Sm.up e3664 g_739_41 rfl) pr3116)
                        have pr3867 : LRP M3857 := LRP_mn (Sm.fr hQ3859 rfl) (fun q => by have := (mUp_no e3664 e3111 (Or.inr (by decide))); have := e3864; omega) (LRP_sm (Sm.up e3664 g_739_41 rfl) pr3120)
                        refine wk_al0 r91_169 (wk_cv1 r91_170 kc_739_84 rfl (m9084_739 _ M3857 v3863 hP3858 e3864 (by omega) (by omega)) (cqI ?_))
                        rintro v3874 M3868 ⟨hP3869, hQ3870, h3875, h3876, h3872, h3873⟩
                        obtain rfl := Fr.same hQ3870
                        have e3877 := e3864
                        refine wk_ifne r91_173 ⟨by omega, by omega⟩ ?_ ?_
                        · intro h3878
                          exfalso
                          omega
                        · intro h3879
                          refine wk_al0 r91_176 (wk_getfi r91_177 fd_739_28 e3864 ?_)
                          subst hQ; exact wk_iret r91_180 (⟨rfl, _, rfl, hP3858, hF3860, by omega, by omega, by have := ((hQ3859.at g_739_27 rfl).trans (mUp_no e3664 e3112 (Or.inr (by decide)))); omega, (WS_sm (Sm.fr hQ3859 rfl) (WS_sm (Sm.up e3664 g_739_41 rfl) pr3117)), (QW_sm (Sm.fr hQ3859 rfl) (QW_sm (Sm.up e3664 g_739_41 rfl) pr3118))⟩)
              refine wk_ifeq r91_104 ⟨by omega, by omega⟩ ?_ ?_
              · intro h3143
                exact wp_fg (le_s (le_s (le_s le_0))) c121_3880
              · intro h3144
                refine wk_al0 r91_107 (wk_getfi r91_108 fd_739_32 e3107 ?_)
                refine wk_ifeq r91_111 ⟨by omega, by omega⟩ ?_ ?_
                · intro h3145
                  exact wp_fg (le_s (le_s (le_s le_0))) c121_3880
                · intro h3146
                  refine wk_al0 r91_114 ?_
                  obtain ⟨v3147, e3148⟩ : ∃ v, M3073 739 46 = v := ⟨_, rfl⟩
                  have h3149 := bf_739_46 hP3074; rw [e3148] at h3149
                  obtain ⟨v3150, e3151⟩ : ∃ v, M3073 739 47 = v := ⟨_, rfl⟩
                  have h3152 := bf_739_47 hP3074; rw [e3151] at h3152
                  obtain ⟨v3153, e3154⟩ : ∃ v, M3073 739 36 = v := ⟨_, rfl⟩
                  have h3155 := bf_739_36 hP3074; rw [e3154] at h3155
                  obtain ⟨v3156, e3157⟩ : ∃ v, M3073 739 51 = v := ⟨_, rfl⟩
                  have h3158 := bf_739_51 hP3074; rw [e3157] at h3158
                  obtain ⟨v3159, e3160⟩ : ∃ v, M3073 739 35 = v := ⟨_, rfl⟩
                  have h3161 := bf_739_35 hP3074; rw [e3160] at h3161
                  refine wk_cv1 r91_115 kc_739_58 rfl (m9058_739 _ M3073 v26 v3092 v3096 v3100 v3104 v3108 v3076 v3147 v3150 v131 v3153 v3156 v3159 v3088 v3080 v3084 hP3074 e3113 (by omega) (by omega) e3095 (by omega) (by omega) e3099 (by omega) (by omega) e3103 (by omega) (by omega) e3107 (by omega) (by omega) e3111 (by omega) (by omega) e3079 (by omega) (by omega) e3148 (by omega) (by omega) e3151 (by omega) (by omega) e3114 (by omega) (by omega) e3154 (by omega) (by omega) e3157 (by omega) (by omega) e3160 (by omega) (by omega) e3091 (by omega) (by omega) e3083 (by omega) (by omega) e3087 (by omega) (by omega) (by omega) (by omega) (by omega) (by omega) (by omega) (by omega) (by omega) (by omega) (by omega) (by omega) (by omega) pr3115 pr3116 pr3119 pr3120) (cqV ?_)
                  rintro M3162 ⟨hP3163, hQ3164, h3166, h3167, h3168, h3169, h3170, h3171, h3172, h3173, h3174, h3175, h3176, h3177, h3178, h3179, pr3180, pr3181, pr3182, pr3183⟩
                  have hF3165 : Fr fm_m9091_739 M0 M3162 := hF3075.tr hQ3164 rfl
                  have e3184 := ((hQ3164.at g_739_30 rfl).trans e3113)
                  obtain ⟨v3185, e3186⟩ : ∃ v, M3162 739 31 = v := ⟨_, rfl⟩
                  have h3187 := bf_739_31 hP3163; rw [e3186] at h3187
                  obtain ⟨v3188, e3189⟩ : ∃ v, M3162 739 33 = v := ⟨_, rfl⟩
                  have h3190 := bf_739_33 hP3163; rw [e3189] at h3190
                  obtain ⟨v3191, e3192⟩ : ∃ v, M3162 739 34 = v := ⟨_, rfl⟩
                  have h3193 := bf_739_34 hP3163; rw [e3192] at h3193
                  obtain ⟨v3194, e3195⟩ : ∃ v, M3162 739 32 = v := ⟨_, rfl⟩
                  have h3196 := bf_739_32 hP3163; rw [e3195] at h3196
                  obtain ⟨v3197, e3198⟩ : ∃ v, M3162 739 28 = v := ⟨_, rfl⟩
                  have h3199 := bf_739_28 hP3163; rw [e3198] at h3199
                  obtain ⟨v3200, e3201⟩ : ∃ v, M3162 739 45 = v := ⟨_, rfl⟩
                  have h3202 := bf_739_45 hP3163; rw [e3201] at h3202
                  obtain ⟨v3203, e3204⟩ : ∃ v, M3162 739 44 = v := ⟨_, rfl⟩
                  have h3205 := bf_739_44 hP3163; rw [e3204] at h3205
                  obtain ⟨v3206, e3207⟩ : ∃ v, M3162 739 39 = v := ⟨_, rfl⟩
                  have h3208 := bf_739_39 hP3163; rw [e3207] at h3208
                  obtain ⟨v3209, e3210⟩ : ∃ v, M3162 739 40 = v := ⟨_, rfl⟩
                  have h3211 := bf_739_40 hP3163; rw [e3210] at h3211
                  refine wk_goto r91_118 ?_
                  exact wp_fg (le_s (le_s (le_s le_0))) (ih3881 (10 * (501 - v3188) + (6 - v3197)).toNat (by omega) M3162 v3200 v3206 v3209 v3203 v3185 v3188 v3191 v3194 v3197 rfl hP3163 hF3165 e3201 e3207 e3210 e3204 e3186 e3189 e3192 e3195 e3198 ((hQ3164.at g_739_27 rfl).trans e3112) ((hQ3164.at g_739_30 rfl).trans e3113) ((hQ3164.at g_739_38 rfl).trans e3114) (by omega) (by omega) (by omega) (by omega) (by omega) (by omega) (by omega) (by omega) (by omega) (by omega) (by omega) (by omega) (by omega) (by omega) (by omega) (by omega) (by omega) (by omega) pr3180 pr3181 (WS_sm (Sm.fr hQ3164 rfl) pr3117) (QW_sm (Sm.fr hQ3164 rfl) pr3118) pr3182 pr3183 (by omega) (by omega) (by omega) (by omega) (by omega) (by omega) (by omega) (by omega) (by omega) (by omega) (by omega) (by omega))
            exact wp_fg (le_s (le_s (le_n le_0))) (c100_3881 _ M410 v23 1 (-1) 0 v423 v426 v429 v432 v435 rfl hP411 hF413 ((hQ412.at g_739_45 rfl).trans e378) ((hQ412.at g_739_39 rfl).trans e380) ((hQ412.at g_739_40 rfl).trans e381) ((hQ412.at g_739_44 rfl).trans e384) e424 e427 e430 e433 e436 ((hQ412.at g_739_27 rfl).trans e377) ((hQ412.at g_739_30 rfl).trans e379) ((hQ412.at g_739_38 rfl).trans e385) (by omega) (by omega) (by omega) (by omega) (by omega) (by omega) (by omega) (by omega) (by omega) (by omega) (by omega) (by omega) (by omega) (by omega) (by omega) (by omega) (by omega) (by omega) pr421 pr438 (WS_sm (Sm.fr hQ412 rfl) pr393) (QW_sm (Sm.fr hQ412 rfl) pr394) (MRP_sm (Sm.fr hQ412 rfl) pr409) pr439 (by omega) (by omega) (by omega) (by omega) (by omega) (by omega) (by omega) (by omega) (by omega) (by omega) (by omega) (by omega))
          · intro h3882
            refine wk_al0 r91_83 (wk_getfr r91_84 fd_739_48 (br_739_48 hP375) (wk_il2 r91_87 (wk_c1 r91_88 (wk_iast r91_89 ar_756 ⟨by omega, by omega⟩ (wk_nw (ga_756 _) rfl hP375 hF376 (ua_756 (by decide)) ?_)))))
            intro M3883 hP3884 hF3885 e3886
            refine wk_inc2 r91_90 rfl (wk_goto r91_93 ?_)
            exact wp_fg (le_s (le_s (le_s le_0))) (ih3887 (7 - (v371 + 1)).toNat (by omega) M3883 (v371 + 1) rfl hP3884 hF3885 (mUp_no e3886 e377 (Or.inl (by decide))) (mUp_no e3886 e378 (Or.inl (by decide))) (mUp_no e3886 e379 (Or.inl (by decide))) (mUp_no e3886 e380 (Or.inl (by decide))) (mUp_no e3886 e381 (Or.inl (by decide))) (mUp_no e3886 e382 (Or.inl (by decide))) (mUp_no e3886 e383 (Or.inl (by decide))) (mUp_no e3886 e384 (Or.inl (by decide))) (mUp_no e3886 e385 (Or.inl (by decide))) (mUp_no e3886 e386 (Or.inl (by decide))) (mUp_no e3886 e387 (Or.inl (by decide))) (mUp_no e3886 e388 (Or.inl (by decide))) (mUp_no e3886 e389 (Or.inl (by decide))) (mUp_no e3886 e390 (Or.inl (by decide))) (by omega) (by omega) (TK_sm (Sm.up e3886 (ga_756 _) rfl) pr391) (FP_sm (Sm.up e3886 (ga_756 _) rfl) pr392) (WS_sm (Sm.up e3886 (ga_756 _) rfl) pr393) (QW_sm (Sm.up e3886 (ga_756 _) rfl) pr394) (LRP_sm (Sm.up e3886 (ga_756 _) rfl) pr395) (by omega) (by omega) (by omega) (by omega) (by omega) (by omega) (by omega) (by omega) (by omega) (by omega) (by omega) (fun k a b => by rw [e3886]; (by_cases q : k = v371); (rw [q, mUp_eq]); (rw [mUp_ne (Or.inr q)]; exact ti407 k a (by omega))))
        exact wp_fg (le_s (le_n (le_s le_0))) (c77_3887 _ M152 0 rfl hP153 hF154 (mUp_no e155 ((hQ119.at g_739_27 rfl).trans ((hQ93.at g_739_27 rfl).trans (mUp_no e66 (mUp_no e62 (mUp_no e58 (mUp_no e54 (mUp_no e50 (mUp_no e46 e18 (Or.inr (by decide))) (Or.inr (by decide))) (Or.inr (by decide))) (Or.inr (by decide))) (Or.inr (by decide))) (Or.inr (by decide))))) (Or.inr (by decide))) (mUp_no e155 ((hQ119.at g_739_45 rfl).trans ((hQ93.at g_739_45 rfl).trans (mUp_no e66 (mUp_no e62 (mUp_no e58 (mUp_no e54 (mUp_no e50 (mUp_no e46 e24 (Or.inr (by decide))) (Or.inr (by decide))) (Or.inr (by decide))) (Or.inr (by decide))) (Or.inr (by decide))) (Or.inr (by decide))))) (Or.inr (by decide))) (mUp_no e155 ((hQ119.at g_739_30 rfl).trans ((hQ93.at g_739_30 rfl).trans (mUp_no e66 (mUp_no e62 (mUp_no e58 (mUp_no e54 (mUp_no e50 (mUp_no e46 e27 (Or.inr (by decide))) (Or.inr (by decide))) (Or.inr (by decide))) (Or.inr (by decide))) (Or.inr (by decide))) (Or.inr (by decide))))) (Or.inr (by decide))) (mUp_no e155 ((hQ119.at g_739_39 rfl).trans ((hQ93.at g_739_39 rfl).trans (mUp_no e66 (mUp_no e62 (mUp_no e58 (mUp_no e54 (mUp_no e50 (mUp_at e46) (Or.inr (by decide))) (Or.inr (by decide))) (Or.inr (by decide))) (Or.inr (by decide))) (Or.inr (by decide))))) (Or.inr (by decide))) (mUp_no e155 ((hQ119.at g_739_40 rfl).trans ((hQ93.at g_739_40 rfl).trans (mUp_no e66 (mUp_no e62 (mUp_no e58 (mUp_no e54 (mUp_at e50) (Or.inr (by decide))) (Or.inr (by decide))) (Or.inr (by decide))) (Or.inr (by decide))))) (Or.inr (by decide))) (mUp_no e155 ((hQ119.at g_739_42 rfl).trans ((hQ93.at g_739_42 rfl).trans (mUp_no e66 (mUp_no e62 (mUp_no e58 (mUp_at e54) (Or.inr (by decide))) (Or.inr (by decide))) (Or.inr (by decide))))) (Or.inr (by decide))) (mUp_no e155 ((hQ119.at g_739_43 rfl).trans ((hQ93.at g_739_43 rfl).trans (mUp_no e66 (mUp_no e62 (mUp_at e58) (Or.inr (by decide))) (Or.inr (by decide))))) (Or.inr (by decide))) (mUp_no e155 ((hQ119.at g_739_44 rfl).trans ((hQ93.at g_739_44 rfl).trans (mUp_no e66 (mUp_at e62) (Or.inr (by decide))))) (Or.inr (by decide))) (mUp_at e155) (mUp_no e155 e136 (Or.inr (by decide))) (mUp_no e155 e139 (Or.inr (by decide))) (mUp_no e155 e142 (Or.inr (by decide))) (mUp_no e155 e145 (Or.inr (by decide))) (mUp_no e155 e148 (Or.inr (by decide))) (by omega) (by omega) (TK_sm (Sm.up e155 g_739_38 rfl) pr130) (FP_sm (Sm.up e155 g_739_38 rfl) pr150) (WS_sm (Sm.up e155 g_739_38 rfl) (WS_sm (Sm.fr hQ119 rfl) (WS_sm (Sm.fr hQ93 rfl) (WS_sm (Sm.up e66 g_739_38 rfl) (WS_sm (Sm.up e62 g_739_44 rfl) (WS_sm (Sm.up e58 g_739_43 rfl) (WS_sm (Sm.up e54 g_739_42 rfl) (WS_sm (Sm.up e50 g_739_40 rfl) (WS_sm (Sm.up e46 g_739_39 rfl) (WS_sm (Sm.fr hQ3 rfl) pp_WS)))))))))) (QW_sm (Sm.up e155 g_739_38 rfl) (QW_sm (Sm.fr hQ119 rfl) (QW_sm (Sm.fr hQ93 rfl) (QW_sm (Sm.up e66 g_739_38 rfl) (QW_sm (Sm.up e62 g_739_44 rfl) (QW_sm (Sm.up e58 g_739_43 rfl) (QW_sm (Sm.up e54 g_739_42 rfl) (QW_sm (Sm.up e50 g_739_40 rfl) (QW_sm (Sm.up e46 g_739_39 rfl) (QW_sm (Sm.fr hQ3 rfl) pp_QW)))))))))) (LRP_sm (Sm.up e155 g_739_38 rfl) pr151) (by omega) (by omega) (by omega) (by omega) (by omega) (by omega) (by omega) (by omega) (by omega) (by omega) (by omega) (fun k a b => by omega))
    · intro h3888
      refine wk_al0 r91_48 (wk_c1 r91_49 (wk_cv2 r91_50 kc_739_137 rfl (m9137_739 _ M63 1 v20 v32 hP64 (by decide) (by decide) (mUp_no e66 (mUp_no e62 (mUp_no e58 (mUp_no e54 (mUp_no e50 (mUp_no e46 e21 (Or.inr (by decide))) (Or.inr (by decide))) (Or.inr (by decide))) (Or.inr (by decide))) (Or.inr (by decide))) (Or.inr (by decide))) (by omega) (by omega) (mUp_no e66 (mUp_no e62 (mUp_no e58 (mUp_no e54 (mUp_no e50 (mUp_no e46 e33 (Or.inr (by decide))) (Or.inr (by decide))) (Or.inr (by decide))) (Or.inr (by decide))) (Or.inr (by decide))) (Or.inr (by decide))) (by omega) (by omega)) (cqV ?_)))
      rintro M3889 ⟨hP3890, hQ3891, h3893, h3894⟩
      have hF3892 : Fr fm_m9091_739 M0 M3889 := hF65.tr hQ3891 rfl
      obtain ⟨v3895, e3896⟩ : ∃ v, M3889 739 28 = v := ⟨_, rfl⟩
      have h3897 := bf_739_28 hP3890; rw [e3896] at h3897
      have pr3898 : FP M3889 := FP_mn (Sm.fr hQ3891 rfl) (fun q => by have := (mUp_no e66 (mUp_no e62 (mUp_no e58 (mUp_no e54 (mUp_no e50 (mUp_no e46 e21 (Or.inr (by decide))) (Or.inr (by decide))) (Or.inr (by decide))) (Or.inr (by decide))) (Or.inr (by decide))) (Or.inr (by decide))); have := e3896; omega) pr67
      have pr3899 : LRP M3889 := LRP_mn (Sm.fr hQ3891 rfl) (fun q => by have := (mUp_no e66 (mUp_no e62 (mUp_no e58 (mUp_no e54 (mUp_no e50 (mUp_no e46 e21 (Or.inr (by decide))) (Or.inr (by decide))) (Or.inr (by decide))) (Or.inr (by decide))) (Or.inr (by decide))) (Or.inr (by decide))); have := e3896; omega) pr68
      refine wk_al0 r91_53 (wk_cv1 r91_54 kc_739_84 rfl (m9084_739 _ M3889 v3895 hP3890 e3896 (by omega) (by omega)) (cqI ?_))
      rintro v3906 M3900 ⟨hP3901, hQ3902, h3907, h3908, h3904, h3905⟩
      obtain rfl := Fr.same hQ3902
      have e3909 := e3896
      refine wk_ifeq r91_57 ⟨by omega, by omega⟩ ?_ ?_
      · intro h3910
        refine wk_al0 r91_64 (wk_al0 r91_65 (wk_c1 r91_66 (wk_c2 r91_67 ?_)))
        obtain ⟨v3911, e3912⟩ : ∃ v, M3889 739 35 = v := ⟨_, rfl⟩
        have h3913 := bf_739_35 hP3890; rw [e3912] at h3913
        refine wk_cv3 r91_69 kc_739_114 rfl (m9114_739 _ M3889 0 7 v26 v29 v32 v35 v38 v3895 v3911 hP3890 (by decide) (by decide) (by decide) (by decide) ((hQ3891.at g_739_30 rfl).trans (mUp_no e66 (mUp_no e62 (mUp_no e58 (mUp_no e54 (mUp_no e50 (mUp_no e46 e27 (Or.inr (by decide))) (Or.inr (by decide))) (Or.inr (by decide))) (Or.inr (by decide))) (Or.inr (by decide))) (Or.inr (by decide)))) (by omega) (by omega) ((hQ3891.at g_739_31 rfl).trans (mUp_no e66 (mUp_no e62 (mUp_no e58 (mUp_no e54 (mUp_no e50 (mUp_no e46 e30 (Or.inr (by decide))) (Or.inr (by decide))) (Or.inr (by decide))) (Or.inr (by decide))) (Or.inr (by decide))) (Or.inr (by decide)))) (by omega) (by omega) ((hQ3891.at g_739_33 rfl).trans (mUp_no e66 (mUp_no e62 (mUp_no e58 (mUp_no e54 (mUp_no e50 (mUp_no e46 e33 (Or.inr (by decide))) (Or.inr (by decide))) (Or.inr (by decide))) (Or.inr (by decide))) (Or.inr (by decide))) (Or.inr (by decide)))) (by omega) (by omega) ((hQ3891.at g_739_34 rfl).trans (mUp_no e66 (mUp_no e62 (mUp_no e58 (mUp_no e54 (mUp_no e50 (mUp_no e46 e36 (Or.inr (by decide))) (Or.inr (by decide))) (Or.inr (by decide))) (Or.inr (by decide))) (Or.inr (by decide))) (Or.inr (by decide)))) (by omega) (by omega) ((hQ3891.at g_739_32 rfl).trans (mUp_no e66 (mUp_no e62 (mUp_no e58 (mUp_no e54 (mUp_no e50 (mUp_no e46 e39 (Or.inr (by decide))) (Or.inr (by decide))) (Or.inr (by decide))) (Or.inr (by decide))) (Or.inr (by decide))) (Or.inr (by decide)))) (by omega) (by omega) e3896 (by omega) (by omega) e3912 (by omega) (by omega) (by omega) (by omega) (by omega) (by omega) (TK_sm (Sm.fr hQ3891 rfl) (TK_sm (Sm.up e66 g_739_38 rfl) (TK_sm (Sm.up e62 g_739_44 rfl) (TK_sm (Sm.up e58 g_739_43 rfl) (TK_sm (Sm.up e54 g_739_42 rfl) (TK_sm (Sm.up e50 g_739_40 rfl) (TK_sm (Sm.up e46 g_739_39 rfl) pr42)))))))) (cqI ?_)
        rintro v3928 M3914 ⟨hP3915, hQ3916, h3929, h3930, h3918, h3919, h3920, h3921, h3922, h3923, h3924, h3925, h3926, pr3927⟩
        have hF3917 : Fr fm_m9091_739 M0 M3914 := hF3892.tr hQ3916 rfl
        have e3931 := ((hQ3916.at g_739_30 rfl).trans ((hQ3891.at g_739_30 rfl).trans (mUp_no e66 (mUp_no e62 (mUp_no e58 (mUp_no e54 (mUp_no e50 (mUp_no e46 e27 (Or.inr (by decide))) (Or.inr (by decide))) (Or.inr (by decide))) (Or.inr (by decide))) (Or.inr (by decide))) (Or.inr (by decide)))))
        obtain ⟨v3932, e3933⟩ : ∃ v, M3914 739 31 = v := ⟨_, rfl⟩
        have h3934 := bf_739_31 hP3915; rw [e3933] at h3934
        obtain ⟨v3935, e3936⟩ : ∃ v, M3914 739 33 = v := ⟨_, rfl⟩
        have h3937 := bf_739_33 hP3915; rw [e3936] at h3937
        obtain ⟨v3938, e3939⟩ : ∃ v, M3914 739 34 = v := ⟨_, rfl⟩
        have h3940 := bf_739_34 hP3915; rw [e3939] at h3940
        obtain ⟨v3941, e3942⟩ : ∃ v, M3914 739 32 = v := ⟨_, rfl⟩
        have h3943 := bf_739_32 hP3915; rw [e3942] at h3943
        obtain ⟨v3944, e3945⟩ : ∃ v, M3914 739 28 = v := ⟨_, rfl⟩
        have h3946 := bf_739_28 hP3915; rw [e3945] at h3946
        have pr3947 : FP M3914 := FP_mn (Sm.fr hQ3916 rfl) (fun q => by have := e3896; have := e3945; omega) pr3898
        have pr3948 : LRP M3914 := LRP_mn (Sm.fr hQ3916 rfl) (fun q => by have := e3896; have := e3945; omega) pr3899
        refine wk_putfi81 r91_72 fd_739_38 (wk_nw g_739_38 rfl hP3915 hF3917 (uf_739_38 ⟨by omega, by omega⟩) ?_)
        intro M3949 hP3950 hF3951 e3952
        refine wk_c1 r91_75 (wk_is2 r91_76 rfl ?_)
        have c77_5704 : ∀ (k5704 : Nat) (M3956 : Mm) (v3953 : Int), (7 - v3953).toNat = k5704 → Pw M3956 → Fr fm_m9091_739 M0 M3956 → M3956 739 27 = v17 → M3956 739 45 = v23 → M3956 739 30 = v26 → M3956 739 39 = 1 → M3956 739 40 = (-1) → M3956 739 42 = 0 → M3956 739 43 = 1 → M3956 739 44 = 0 → M3956 739 38 = v3928 → M3956 739 31 = v3932 → M3956 739 33 = v3935 → M3956 739 34 = v3938 → M3956 739 32 = v3941 → M3956 739 28 = v3944 → 0 ≤ v3953 → v3953 ≤ 7 → (TK M3956) → (GE M3956 s0 u0 0 0) → (GE M3956 s0 u0 1 0) → (GE M3956 s0 u0 0 1) → (GH M3956 s0 u0) → (FP M3956) → (SGP M3956) → (WS M3956) → (QW M3956) → (LRP M3956) → 0 ≤ 1 * v26 + (-1) * v3932 → 0 ≤ 1 * v3932 + (-1) * v3935 + (-1) * v3938 → 0 ≤ (-1) * v3932 + 1 * v3935 + 1 * v3938 → 0 ≤ 4 * v3938 + (-1) * v3941 → 0 ≤ 1 * v3935 + (-2) * v23 + 3000 * v3944 + 2 → 0 ≤ (-1) * v23 + 262 → 0 ≤ (-1) * 0 + 1 * v3935 + 3000 * v3944 → 0 ≤ (-1) * 1 + 4 + 3000 * v3944 → 0 ≤ 1 * 1 + (-1) + 3000 * v3944 → 0 ≤ (-1) * (-1) + 6 + 3000 * v3944 → 0 ≤ (-1) * v3928 + 7 + 3000 * v3944 → (∀ k : Int, 0 ≤ k → k < v3953 → M3956 756 k = 3) → Wp B (d + 8) 91 77 [some (R 739), none, some (I v3953)] [] M3956 Q := by
          refine lp_ind ?_
          intro k5704 ih5704 M3956 v3953 hk5704 hP3957 hF3958 e3959 e3960 e3961 e3962 e3963 e3964 e3965 e3966 e3967 e3968 e3969 e3970 e3971 e3972 h3954 h3955 pr3973 pr3974 pr3975 pr3976 pr3977 pr3978 pr3979 pr3980 pr3981 pr3982 h3983 h3984 h3985 h3986 h3987 h3988 h3989 h3990 h3991 h3992 h3993 ti3994
          refine wk_il2 r91_77 (wk_c2 r91_78 ?_)
          refine wk_icge r91_80 ⟨by omega, by omega⟩ (by decide) ?_ ?_
          · intro h3995
            have pr3996 : MRP M3956 := fun k a b => by rw [ti3994 k a (by omega)]; decide
            refine wk_al0 r91_96 (wk_cv1 r91_97 kc_739_65 rfl (m9065_739 _ M3956 v26 v3932 v3935 v3938 v3941 v3944 hP3957 e3961 (by omega) (by omega) e3968 (by omega) (by omega) e3969 (by omega) (by omega) e3970 (by omega) (by omega) e3971 (by omega) (by omega) e3972 (by omega) (by omega) (by omega) (by omega) (by omega) (by omega) pr3973) (cqV ?_))
            rintro M3997 ⟨hP3998, hQ3999, h4001, h4002, h4003, h4004, h4005, h4006, h4007, pr4008⟩
            have hF4000 : Fr fm_m9091_739 M0 M3997 := hF3958.tr hQ3999 rfl
            have e4009 := ((hQ3999.at g_739_30 rfl).trans e3961)
            obtain ⟨v4010, e4011⟩ : ∃ v, M3997 739 31 = v := ⟨_, rfl⟩
            have h4012 := bf_739_31 hP3998; rw [e4011] at h4012
            obtain ⟨v4013, e4014⟩ : ∃ v, M3997 739 33 = v := ⟨_, rfl⟩
            have h4015 := bf_739_33 hP3998; rw [e4014] at h4015
            obtain ⟨v4016, e4017⟩ : ∃ v, M3997 739 34 = v := ⟨_, rfl⟩
            have h4018 := bf_739_34 hP3998; rw [e4017] at h4018
            obtain ⟨v4019, e4020⟩ : ∃ v, M3997 739 32 = v := ⟨_, rfl⟩
            have h4021 := bf_739_32 hP3998; rw [e4020] at h4021
            obtain ⟨v4022, e4023⟩ : ∃ v, M3997 739 28 = v := ⟨_, rfl⟩
            have h4024 := bf_739_28 hP3998; rw [e4023] at h4024
            have pr4025 : GE M3997 s0 u0 0 0 := GE_mn (Sm.fr hQ3999 rfl) (fun q => by have := e3972; have := e4023; omega) pr3974
            have pr4026 : GE M3997 s0 u0 1 0 := GE_mn (Sm.fr hQ3999 rfl) (fun q => by have := e3972; have := e4023; omega) pr3975
            have pr4027 : GE M3997 s0 u0 0 1 := GE_mn (Sm.fr hQ3999 rfl) (fun q => by have := e3972; have := e4023; omega) pr3976
            have pr4028 : GH M3997 s0 u0 := GH_mn (Sm.fr hQ3999 rfl) (fun q => by have := e3972; have := e4023; omega) pr3977
            have pr4029 : FP M3997 := FP_mn (Sm.fr hQ3999 rfl) (fun q => by have := e3972; have := e4023; omega) pr3978
            have pr4030 : SGP M3997 := SGP_mn (Sm.fr hQ3999 rfl) (fun q => by have := e3972; have := e4023; omega) pr3979
            have pr4031 : LRP M3997 := LRP_mn (Sm.fr hQ3999 rfl) (fun q => by have := e3972; have := e4023; omega) pr3982
            have c100_5698 : ∀ (k5698 : Nat) (M4890 : Mm) (v4893 : Int) (v4897 : Int) (v4901 : Int) (v4905 : Int) (v4909 : Int) (v4913 : Int) (v4917 : Int) (v4921 : Int) (v4925 : Int), (10 * (501 - v4913) + (6 - v4925)).toNat = k5698 → Pw M4890 → Fr fm_m9091_739 M0 M4890 → M4890 739 45 = v4893 → M4890 739 39 = v4897 → M4890 739 40 = v4901 → M4890 739 44 = v4905 → M4890 739 31 = v4909 → M4890 739 33 = v4913 → M4890 739 34 = v4917 → M4890 739 32 = v4921 → M4890 739 28 = v4925 → M4890 739 27 = v17 → M4890 739 30 = v26 → M4890 739 38 = v3928 → 0 ≤ v4893 → v4893 ≤ 262 → 0 ≤ v4897 → v4897 ≤ 999 → (-1) ≤ v4901 → v4901 ≤ 999 → 0 ≤ v4905 → v4905 ≤ 500 → 0 ≤ v4909 → v4909 ≤ 500 → 0 ≤ v4913 → v4913 ≤ 500 → 0 ≤ v4917 → v4917 ≤ 500 → 0 ≤ v4921 → v4921 ≤ 4 → 0 ≤ v4925 → v4925 ≤ 6 → (TK M4890) → (FP M4890) → (WS M4890) → (QW M4890) → (MRP M4890) → (LRP M4890) → 0 ≤ 1 * v26 + (-1) * v4909 → 0 ≤ 1 * v4909 + (-1) * v4913 + (-1) * v4917 → 0 ≤ (-1) * v4909 + 1 * v4913 + 1 * v4917 → 0 ≤ 4 * v4917 + (-1) * v4921 → 0 ≤ 1 * v4913 + (-2) * v4893 + 3000 * v4925 + 2 → 0 ≤ (-1) * v4893 + 262 → 0 ≤ (-1) * v4905 + 1 * v4913 + 3000 * v4925 → 0 ≤ (-1) * v4905 + 502 → 0 ≤ (-1) * v4897 + 4 + 3000 * v4925 → 0 ≤ 1 * v4897 + (-1) + 3000 * v4925 → 0 ≤ (-1) * v4901 + 6 + 3000 * v4925 → 0 ≤ (-1) * v3928 + 7 + 3000 * v4925 → Wp B (d + 8) 91 100 [some (R 739), none, none] [] M4890 Q := by
              refine lp_ind ?_
              intro k5698 ih5698 M4890 v4893 v4897 v4901 v4905 v4909 v4913 v4917 v4921 v4925 hk5698 hP4891 hF4892 e4896 e4900 e4904 e4908 e4912 e4916 e4920 e4924 e4928 e4929 e4930 e4931 h4894 h4895 h4898 h4899 h4902 h4903 h4906 h4907 h4910 h4911 h4914 h4915 h4918 h4919 h4922 h4923 h4926 h4927 pr4932 pr4933 pr4934 pr4935 pr4936 pr4937 h4938 h4939 h4940 h4941 h4942 h4943 h4944 h4945 h4946 h4947 h4948 h4949
              refine wk_al0 r91_100 (wk_cv1 r91_101 kc_739_84 rfl (m9084_739 _ M4890 v4925 hP4891 e4928 (by omega) (by omega)) (cqI ?_))
              rintro v4956 M4950 ⟨hP4951, hQ4952, h4957, h4958, h4954, h4955⟩
              obtain rfl := Fr.same hQ4952
              have e4959 := e4928
              have c121_5697 : Wp B (d + 8) 91 121 [some (R 739), none, none] [] M4890 Q := by
                refine wk_al0 r91_121 (wk_al0 r91_122 (wk_getfi r91_123 fd_739_40 e4904 (wk_c1 r91_126 ?_)))
                refine wk_icne r91_127 ⟨by omega, by omega⟩ (by decide) ?_ ?_
                · intro h5029
                  refine wk_c1 r91_142 (wk_putfi81 r91_143 fd_739_41 (wk_nw g_739_41 rfl hP4891 hF4892 (uf_739_41 (by decide)) ?_))
                  intro M5030 hP5031 hF5032 e5033
                  refine wk_al0 r91_146 (wk_cv1 r91_147 kc_739_84 rfl (m9084_739 _ M5030 v4925 hP5031 (mUp_no e5033 e4928 (Or.inr (by decide))) (by omega) (by omega)) (cqI ?_))
                  rintro v5040 M5034 ⟨hP5035, hQ5036, h5041, h5042, h5038, h5039⟩
                  obtain rfl := Fr.same hQ5036
                  have e5043 := (mUp_no e5033 e4928 (Or.inr (by decide)))
                  refine wk_ifeq r91_150 ⟨by omega, by omega⟩ ?_ ?_
                  · intro h5044
                    refine wk_al0 r91_169 (wk_cv1 r91_170 kc_739_84 rfl (m9084_739 _ M5030 v4925 hP5031 (mUp_no e5033 e4928 (Or.inr (by decide))) (by omega) (by omega)) (cqI ?_))
                    rintro v5051 M5045 ⟨hP5046, hQ5047, h5052, h5053, h5049, h5050⟩
                    obtain rfl := Fr.same hQ5047
                    have e5054 := (mUp_no e5033 e4928 (Or.inr (by decide)))
                    refine wk_ifne r91_173 ⟨by omega, by omega⟩ ?_ ?_
                    · intro h5055
                      exfalso
                      omega
                    · intro h5056
                      refine wk_al0 r91_176 (wk_getfi r91_177 fd_739_28 (mUp_no e5033 e4928 (Or.inr (by decide))) ?_)
                      subst hQ; exact wk_iret r91_180 (⟨rfl, _, rfl, hP5031, hF5032, by omega, by omega, by have := (mUp_no e5033 e4929 (Or.inr (by decide))); omega, (WS_sm (Sm.up e5033 g_739_41 rfl) pr4934), (QW_sm (Sm.up e5033 g_739_41 rfl) pr4935)⟩)
                  · intro h5057
                    refine wk_al0 r91_153 ?_
                    obtain ⟨v5058, e5059⟩ : ∃ v, M5030 739 43 = v := ⟨_, rfl⟩
                    have h5060 := bf_739_43 hP5031; rw [e5059] at h5060
                    refine wk_cv1 r91_154 kc_739_127 rfl (m9127_739 _ M5030 v4897 1 v5058 v3928 hP5031 (mUp_no e5033 e4900 (Or.inr (by decide))) (by omega) (by omega) (mUp_at e5033) (by omega) (by omega) e5059 (by omega) (by omega) (mUp_no e5033 e4931 (Or.inr (by decide))) (by omega) (by omega) (MRP_sm (Sm.up e5033 g_739_41 rfl) pr4936)) (cqI ?_)
                    rintro v5066 M5061 ⟨hP5062, hQ5063, h5067, h5068, xh5065⟩
                    obtain rfl := Fr.same hQ5063
                    refine wk_c3 r91_157 ?_
                    refine wk_icle r91_160 ⟨by omega, by omega⟩ (by decide) ?_ ?_
                    · intro h5069
                      refine wk_al0 r91_169 (wk_cv1 r91_170 kc_739_84 rfl (m9084_739 _ M5030 v4925 hP5031 (mUp_no e5033 e4928 (Or.inr (by decide))) (by omega) (by omega)) (cqI ?_))
                      rintro v5076 M5070 ⟨hP5071, hQ5072, h5077, h5078, h5074, h5075⟩
                      obtain rfl := Fr.same hQ5072
                      have e5079 := (mUp_no e5033 e4928 (Or.inr (by decide)))
                      refine wk_ifne r91_173 ⟨by omega, by omega⟩ ?_ ?_
                      · intro h5080
                        have hsz := xh5065 (by omega)
                        have hMR : MRP M5030 := (MRP_sm (Sm.up e5033 g_739_41 rfl) pr4936)
                        obtain ⟨u5081, hu5082⟩ : ∃ u : Int → Int, ∀ k, M5030 757 k = u k := ⟨fun k => M5030 757 k, fun k => rfl⟩
                        obtain ⟨u5083, hu5084⟩ : ∃ u : Int → Int, ∀ k, M5030 756 k = u k := ⟨fun k => M5030 756 k, fun k => rfl⟩
                        have hu6 : ∀ k : Int, M5030 756 k = u5083 k := hu5084
                        obtain ⟨Mz, hMz⟩ : ∃ m : Mm, m = M5030 := ⟨_, rfl⟩
                        have hFD := FP_get (FP_sm (Sm.up e5033 g_739_41 rfl) pr4933) (mUp_no e5033 e4928 (Or.inr (by decide))) (by omega) (mUp_no e5033 e4908 (Or.inr (by decide))) (mUp_no e5033 e4896 (Or.inr (by decide))) hu5082
                        have hgk : M5030 739 28 = v4925 := (mUp_no e5033 e4928 (Or.inr (by decide)))
                        have hLP : LRP M5030 := (LRP_sm (Sm.up e5033 g_739_41 rfl) pr4937)
                        obtain ⟨v5085, e5086⟩ : ∃ v, M5030 739 42 = v := ⟨_, rfl⟩
                        have h5087 := bf_739_42 hP5031; rw [e5086] at h5087
                        have hlr : M5030 739 42 = v5085 := e5086
                        refine wk_al0 r91_181 (wk_al0 r91_182 (wk_getfi r91_183 fd_739_38 (mUp_no e5033 e4931 (Or.inr (by decide))) (wk_putfi81 r91_186 fd_739_1 (wk_nw g_739_1 rfl hP5031 hF5032 (uf_739_1 ⟨by omega, by omega⟩) ?_))))
                        intro M5088 hP5089 hF5090 e5091
                        refine wk_al0 r91_189 (wk_al0 r91_190 (wk_getfi r91_191 fd_739_39 (mUp_no e5091 (mUp_no e5033 e4900 (Or.inr (by decide))) (Or.inr (by decide))) (wk_putfi81 r91_194 fd_739_2 (wk_nw g_739_2 rfl hP5089 hF5090 (uf_739_2 ⟨by omega, by omega⟩) ?_))))
                        intro M5092 hP5093 hF5094 e5095
                        refine wk_al0 r91_197 (wk_al0 r91_198 (wk_getfi r91_199 fd_739_42 (mUp_no e5095 (mUp_no e5091 e5086 (Or.inr (by decide))) (Or.inr (by decide))) ?_))
                        have h5096 : 0 ≤ v5085 ∧ v5085 ≤ 127 := by have q := hLP (by omega); have := hlr; omega
                        refine wk_putfi81 r91_202 fd_739_3 (wk_nw g_739_3 rfl hP5093 hF5094 (uf_739_3 ⟨by omega, by omega⟩) ?_)
                        intro M5097 hP5098 hF5099 e5100
                        refine wk_al0 r91_205 (wk_al0 r91_206 (wk_getfi r91_207 fd_739_44 (mUp_no e5100 (mUp_no e5095 (mUp_no e5091 (mUp_no e5033 e4908 (Or.inr (by decide))) (Or.inr (by decide))) (Or.inr (by decide))) (Or.inr (by decide))) (wk_putfi81 r91_210 fd_739_4 (wk_nw g_739_4 rfl hP5098 hF5099 (uf_739_4 ⟨by omega, by omega⟩) ?_))))
                        intro M5101 hP5102 hF5103 e5104
                        refine wk_c1 r91_213 (wk_is2 r91_214 rfl ?_)
                        have c215_5226 : ∀ (k5226 : Nat) (M5108 : Mm) (v5105 : Int), (7 - v5105).toNat = k5226 → Pw M5108 → Fr fm_m9091_739 M0 M5108 → M5108 739 45 = v4893 → M5108 739 39 = v4897 → M5108 739 40 = v4901 → M5108 739 44 = v4905 → M5108 739 31 = v4909 → M5108 739 33 = v4913 → M5108 739 34 = v4917 → M5108 739 32 = v4921 → M5108 739 28 = v4925 → M5108 739 27 = v17 → M5108 739 30 = v26 → M5108 739 38 = v3928 → M5108 739 41 = 1 → M5108 739 43 = v5058 → M5108 739 42 = v5085 → M5108 739 1 = v3928 → M5108 739 2 = v4897 → M5108 739 3 = v5085 → M5108 739 4 = v4905 → 0 ≤ v5105 → v5105 ≤ 7 → (∀ k, M5108 757 k = u5081 k) → (∀ k, M5108 756 k = u5083 k) → (TK M5108) → (FP M5108) → (WS M5108) → (QW M5108) → (MRP M5108) → (LRP M5108) → 0 ≤ 1 * v26 + (-1) * v4909 → 0 ≤ 1 * v4909 + (-1) * v4913 + (-1) * v4917 → 0 ≤ (-1) * v4909 + 1 * v4913 + 1 * v4917 → 0 ≤ 4 * v4917 + (-1) * v4921 → 0 ≤ 1 * v4913 + (-2) * v4893 + 3000 * v4925 + 2 → 0 ≤ (-1) * v4893 + 262 → 0 ≤ (-1) * v4905 + 1 * v4913 + 3000 * v4925 → 0 ≤ (-1) * v4905 + 502 → 0 ≤ (-1) * v4897 + 4 + 3000 * v4925 → 0 ≤ 1 * v4897 + (-1) + 3000 * v4925 → 0 ≤ (-1) * v4901 + 6 + 3000 * v4925 → 0 ≤ (-1) * v3928 + 7 + 3000 * v4925 → (∀ k : Int, 0 ≤ k → k < v5105 → M5108 740 k = u5083 k) → Wp B (d + 8) 91 215 [some (R 739), none, some (I v5105)] [] M5108 Q := by
                          refine lp_ind ?_
                          intro k5226 ih5226 M5108 v5105 hk5226 hP5109 hF5110 e5113 e5114 e5115 e5116 e5117 e5118 e5119 e5120 e5121 e5122 e5123 e5124 e5125 e5126 e5127 e5128 e5129 e5130 e5131 h5106 h5107 hu5111 hu5112 pr5132 pr5133 pr5134 pr5135 pr5136 pr5137 h5138 h5139 h5140 h5141 h5142 h5143 h5144 h5145 h5146 h5147 h5148 h5149 ti5150
                          refine wk_il2 r91_215 (wk_c2 r91_216 ?_)
                          refine wk_icge r91_218 ⟨by omega, by omega⟩ (by decide) ?_ ?_
                          · intro h5151
                            obtain ⟨Mb, hMb⟩ : ∃ m : Mm, m = M5108 := ⟨_, rfl⟩
                            have hA6 : ∀ k : Int, 0 ≤ k → k < 7 → Mb 740 k = u5083 k := fun k a b => by rw [hMb]; exact ti5150 k a (by omega)
                            refine wk_c1 r91_239 (wk_is2 r91_240 rfl ?_)
                            have c241_5216 : ∀ (k5216 : Nat) (M5155 : Mm) (v5152 : Int), (251 - v5152).toNat = k5216 → Pw M5155 → Fr fm_m9091_739 M0 M5155 → M5155 739 45 = v4893 → M5155 739 39 = v4897 → M5155 739 40 = v4901 → M5155 739 44 = v4905 → M5155 739 31 = v4909 → M5155 739 33 = v4913 → M5155 739 34 = v4917 → M5155 739 32 = v4921 → M5155 739 28 = v4925 → M5155 739 27 = v17 → M5155 739 30 = v26 → M5155 739 38 = v3928 → M5155 739 41 = 1 → M5155 739 43 = v5058 → M5155 739 42 = v5085 → M5155 739 1 = v3928 → M5155 739 2 = v4897 → M5155 739 3 = v5085 → M5155 739 4 = v4905 → 0 ≤ v5152 → v5152 ≤ 251 → (∀ k, M5155 757 k = u5081 k) → (∀ k, M5155 756 k = u5083 k) → (TK M5155) → (FP M5155) → (WS M5155) → (QW M5155) → (MRP M5155) → (LRP M5155) → 0 ≤ 1 * v26 + (-1) * v4909 → 0 ≤ 1 * v4909 + (-1) * v4913 + (-1) * v4917 → 0 ≤ (-1) * v4909 + 1 * v4913 + 1 * v4917 → 0 ≤ 4 * v4917 + (-1) * v4921 → 0 ≤ 1 * v4913 + (-2) * v4893 + 3000 * v4925 + 2 → 0 ≤ (-1) * v4893 + 262 → 0 ≤ (-1) * v4905 + 1 * v4913 + 3000 * v4925 → 0 ≤ (-1) * v4905 + 502 → 0 ≤ (-1) * v4897 + 4 + 3000 * v4925 → 0 ≤ 1 * v4897 + (-1) + 3000 * v4925 → 0 ≤ (-1) * v4901 + 6 + 3000 * v4925 → 0 ≤ (-1) * v3928 + 7 + 3000 * v4925 → (∀ k : Int, 0 ≤ k → k < v5152 → M5155 741 (0 + k) = u5081 k) → (∀ k : Int, M5155 740 k = Mb 740 k) → Wp B (d + 8) 91 241 [some (R 739), none, some (I v5152)] [] M5155 Q := by
                              refine lp_ind ?_
                              intro k5216 ih5216 M5155 v5152 hk5216 hP5156 hF5157 e5160 e5161 e5162 e5163 e5164 e5165 e5166 e5167 e5168 e5169 e5170 e5171 e5172 e5173 e5174 e5175 e5176 e5177 e5178 h5153 h5154 hu5158 hu5159 pr5179 pr5180 pr5181 pr5182 pr5183 pr5184 h5185 h5186 h5187 h5188 h5189 h5190 h5191 h5192 h5193 h5194 h5195 h5196 ti5197 ti5198
                              refine wk_il2 r91_241 (wk_al0 r91_242 (wk_getfi r91_243 fd_739_45 e5160 ?_))
                              refine wk_icge r91_246 ⟨by omega, by omega⟩ ⟨by omega, by omega⟩ ?_ ?_
                              · intro h5199
                                have pr5200 : FFP M5155 v4893 := FFP_mk hFD e5178 (fun k a b => ti5197 k a (by omega)) (by omega)
                                have hA7 : ∀ k : Int, 0 ≤ k → k < 7 → M5155 740 k = u5083 k := fun k a b => (ti5198 k).trans (hA6 k a b)
                                refine wk_al0 r91_267 (wk_cv1 r91_268 kc_739_108 rfl (m9108_739 _ M5155 v3928 v4897 1 v5058 v4901 v4893 (v4897 * 1 * v5058) hP5156 e5175 (by omega) (by omega) e5176 (by omega) (by omega) e5172 (by omega) (by omega) e5173 (by omega) (by omega) e5162 (by omega) (by omega) (by first | assumption | omega | (unfold stepok; omega)) (rfl) (isl_sz hsz hu6 hA7 (by omega)) (fun k a b => by rw [hA7 k a b, ← hu6 k]; exact hMR k a b) pr5200) (cqV ?_))
                                rintro M5201 ⟨hP5202, hQ5203, pr5205, pr5206⟩
                                have hF5204 : Fr fm_m9091_739 M0 M5201 := hF5157.tr hQ5203 rfl
                                refine wk_c1 r91_271 ?_
                                subst hQ; exact wk_iret r91_272 (⟨rfl, _, rfl, hP5202, hF5204, by omega, by omega, by have := ((hQ5203.at g_739_27 rfl).trans e5169); omega, pr5205, pr5206⟩)
                              · intro h5207
                                refine wk_al0 r91_249 (wk_getfr r91_250 fd_739_6 (br_739_6 hP5156) (wk_il2 r91_253 (wk_al0 r91_254 (wk_getfr r91_255 fd_739_49 (br_739_49 hP5156) (wk_il2 r91_258 (wk_ialdb r91_259 ar_757 ⟨by omega, by omega⟩ (fun q0 q1 => ba_757 hP5156 q0 q1) ?_))))))
                                intro v5208 h5210 h5211 e5209
                                refine wk_iast r91_260 ar_741 ⟨by omega, by omega⟩ (wk_nw (ga_741 _) rfl hP5156 hF5157 (uaR_741 (by rw [← e5209, hu5158]; exact FD_ok _ _ _ hFD.2 _ (by omega) (by omega))) ?_)
                                intro M5212 hP5213 hF5214 e5215
                                refine wk_inc2 r91_261 rfl (wk_goto r91_264 ?_)
                                exact wp_fg (le_s (le_s (le_s le_0))) (ih5216 (251 - (v5152 + 1)).toNat (by omega) M5212 (v5152 + 1) rfl hP5213 hF5214 (mUp_no e5215 e5160 (Or.inl (by decide))) (mUp_no e5215 e5161 (Or.inl (by decide))) (mUp_no e5215 e5162 (Or.inl (by decide))) (mUp_no e5215 e5163 (Or.inl (by decide))) (mUp_no e5215 e5164 (Or.inl (by decide))) (mUp_no e5215 e5165 (Or.inl (by decide))) (mUp_no e5215 e5166 (Or.inl (by decide))) (mUp_no e5215 e5167 (Or.inl (by decide))) (mUp_no e5215 e5168 (Or.inl (by decide))) (mUp_no e5215 e5169 (Or.inl (by decide))) (mUp_no e5215 e5170 (Or.inl (by decide))) (mUp_no e5215 e5171 (Or.inl (by decide))) (mUp_no e5215 e5172 (Or.inl (by decide))) (mUp_no e5215 e5173 (Or.inl (by decide))) (mUp_no e5215 e5174 (Or.inl (by decide))) (mUp_no e5215 e5175 (Or.inl (by decide))) (mUp_no e5215 e5176 (Or.inl (by decide))) (mUp_no e5215 e5177 (Or.inl (by decide))) (mUp_no e5215 e5178 (Or.inl (by decide))) (by omega) (by omega) (fun k => mUp_no e5215 (hu5158 k) (Or.inl (by decide))) (fun k => mUp_no e5215 (hu5159 k) (Or.inl (by decide))) (TK_sm (Sm.up e5215 (ga_741 _) rfl) pr5179) (FP_sm (Sm.up e5215 (ga_741 _) rfl) pr5180) (WS_sm (Sm.up e5215 (ga_741 _) rfl) pr5181) (QW_sm (Sm.up e5215 (ga_741 _) rfl) pr5182) (MRP_sm (Sm.up e5215 (ga_741 _) rfl) pr5183) (LRP_sm (Sm.up e5215 (ga_741 _) rfl) pr5184) (by omega) (by omega) (by omega) (by omega) (by omega) (by omega) (by omega) (by omega) (by omega) (by omega) (by omega) (by omega) (cp_step (S := 0) (e0z e5215) ti5197 e5209 hu5158) (fun k => by rw [e5215, mUp_ne (Or.inl (by decide))]; exact ti5198 k))
                            exact wp_fg (le_s (le_s (le_s le_0))) (c241_5216 _ M5108 0 rfl hP5109 hF5110 e5113 e5114 e5115 e5116 e5117 e5118 e5119 e5120 e5121 e5122 e5123 e5124 e5125 e5126 e5127 e5128 e5129 e5130 e5131 (by omega) (by omega) hu5111 hu5112 pr5132 pr5133 pr5134 pr5135 pr5136 pr5137 (by omega) (by omega) (by omega) (by omega) (by omega) (by omega) (by omega) (by omega) (by omega) (by omega) (by omega) (by omega) (fun k a b => by omega) (fun k => by rw [hMb]))
                          · intro h5217
                            refine wk_al0 r91_221 (wk_getfr r91_222 fd_739_5 (br_739_5 hP5109) (wk_il2 r91_225 (wk_al0 r91_226 (wk_getfr r91_227 fd_739_48 (br_739_48 hP5109) (wk_il2 r91_230 (wk_ialdb r91_231 ar_756 ⟨by omega, by omega⟩ (fun q0 q1 => ba_756 hP5109 q0 q1) ?_))))))
                            intro v5218 h5220 h5221 e5219
                            refine wk_iast r91_232 ar_740 ⟨by omega, by omega⟩ (wk_nw (ga_740 _) rfl hP5109 hF5110 (ua_740 ⟨by omega, by omega⟩) ?_)
                            intro M5222 hP5223 hF5224 e5225
                            refine wk_inc2 r91_233 rfl (wk_goto r91_236 ?_)
                            exact wp_fg (le_s (le_s (le_s le_0))) (ih5226 (7 - (v5105 + 1)).toNat (by omega) M5222 (v5105 + 1) rfl hP5223 hF5224 (mUp_no e5225 e5113 (Or.inl (by decide))) (mUp_no e5225 e5114 (Or.inl (by decide))) (mUp_no e5225 e5115 (Or.inl (by decide))) (mUp_no e5225 e5116 (Or.inl (by decide))) (mUp_no e5225 e5117 (Or.inl (by decide))) (mUp_no e5225 e5118 (Or.inl (by decide))) (mUp_no e5225 e5119 (Or.inl (by decide))) (mUp_no e5225 e5120 (Or.inl (by decide))) (mUp_no e5225 e5121 (Or.inl (by decide))) (mUp_no e5225 e5122 (Or.inl (by decide))) (mUp_no e5225 e5123 (Or.inl (by decide))) (mUp_no e5225 e5124 (Or.inl (by decide))) (mUp_no e5225 e5125 (Or.inl (by decide))) (mUp_no e5225 e5126 (Or.inl (by decide))) (mUp_no e5225 e5127 (Or.inl (by decide))) (mUp_no e5225 e5128 (Or.inl (by decide))) (mUp_no e5225 e5129 (Or.inl (by decide))) (mUp_no e5225 e5130 (Or.inl (by decide))) (mUp_no e5225 e5131 (Or.inl (by decide))) (by omega) (by omega) (fun k => mUp_no e5225 (hu5111 k) (Or.inl (by decide))) (fun k => mUp_no e5225 (hu5112 k) (Or.inl (by decide))) (TK_sm (Sm.up e5225 (ga_740 _) rfl) pr5132) (FP_sm (Sm.up e5225 (ga_740 _) rfl) pr5133) (WS_sm (Sm.up e5225 (ga_740 _) rfl) pr5134) (QW_sm (Sm.up e5225 (ga_740 _) rfl) pr5135) (MRP_sm (Sm.up e5225 (ga_740 _) rfl) pr5136) (LRP_sm (Sm.up e5225 (ga_740 _) rfl) pr5137) (by omega) (by omega) (by omega) (by omega) (by omega) (by omega) (by omega) (by omega) (by omega) (by omega) (by omega) (by omega) (fun k a b => by rw [e5225]; (by_cases q : k = v5105); (rw [q, mUp_eq, ← e5219, hu5112]); (rw [mUp_ne (Or.inr q)]; exact ti5150 k a (by omega))))
                        exact wp_fg (le_s (le_s (le_s le_0))) (c215_5226 _ M5101 0 rfl hP5102 hF5103 (mUp_no e5104 (mUp_no e5100 (mUp_no e5095 (mUp_no e5091 (mUp_no e5033 e4896 (Or.inr (by decide))) (Or.inr (by decide))) (Or.inr (by decide))) (Or.inr (by decide))) (Or.inr (by decide))) (mUp_no e5104 (mUp_no e5100 (mUp_no e5095 (mUp_no e5091 (mUp_no e5033 e4900 (Or.inr (by decide))) (Or.inr (by decide))) (Or.inr (by decide))) (Or.inr (by decide))) (Or.inr (by decide))) (mUp_no e5104 (mUp_no e5100 (mUp_no e5095 (mUp_no e5091 (mUp_no e5033 e4904 (Or.inr (by decide))) (Or.inr (by decide))) (Or.inr (by decide))) (Or.inr (by decide))) (Or.inr (by decide))) (mUp_no e5104 (mUp_no e5100 (mUp_no e5095 (mUp_no e5091 (mUp_no e5033 e4908 (Or.inr (by decide))) (Or.inr (by decide))) (Or.inr (by decide))) (Or.inr (by decide))) (Or.inr (by decide))) (mUp_no e5104 (mUp_no e5100 (mUp_no e5095 (mUp_no e5091 (mUp_no e5033 e4912 (Or.inr (by decide))) (Or.inr (by decide))) (Or.inr (by decide))) (Or.inr (by decide))) (Or.inr (by decide))) (mUp_no e5104 (mUp_no e5100 (mUp_no e5095 (mUp_no e5091 (mUp_no e5033 e4916 (Or.inr (by decide))) (Or.inr (by decide))) (Or.inr (by decide))) (Or.inr (by decide))) (Or.inr (by decide))) (mUp_no e5104 (mUp_no e5100 (mUp_no e5095 (mUp_no e5091 (mUp_no e5033 e4920 (Or.inr (by decide))) (Or.inr (by decide))) (Or.inr (by decide))) (Or.inr (by decide))) (Or.inr (by decide))) (mUp_no e5104 (mUp_no e5100 (mUp_no e5095 (mUp_no e5091 (mUp_no e5033 e4924 (Or.inr (by decide))) (Or.inr (by decide))) (Or.inr (by decide))) (Or.inr (by decide))) (Or.inr (by decide))) (mUp_no e5104 (mUp_no e5100 (mUp_no e5095 (mUp_no e5091 (mUp_no e5033 e4928 (Or.inr (by decide))) (Or.inr (by decide))) (Or.inr (by decide))) (Or.inr (by decide))) (Or.inr (by decide))) (mUp_no e5104 (mUp_no e5100 (mUp_no e5095 (mUp_no e5091 (mUp_no e5033 e4929 (Or.inr (by decide))) (Or.inr (by decide))) (Or.inr (by decide))) (Or.inr (by decide))) (Or.inr (by decide))) (mUp_no e5104 (mUp_no e5100 (mUp_no e5095 (mUp_no e5091 (mUp_no e5033 e4930 (Or.inr (by decide))) (Or.inr (by decide))) (Or.inr (by decide))) (Or.inr (by decide))) (Or.inr (by decide))) (mUp_no e5104 (mUp_no e5100 (mUp_no e5095 (mUp_no e5091 (mUp_no e5033 e4931 (Or.inr (by decide))) (Or.inr (by decide))) (Or.inr (by decide))) (Or.inr (by decide))) (Or.inr (by decide))) (mUp_no e5104 (mUp_no e5100 (mUp_no e5095 (mUp_no e5091 (mUp_at e5033) (Or.inr (by decide))) (Or.inr (by decide))) (Or.inr (by decide))) (Or.inr (by decide))) (mUp_no e5104 (mUp_no e5100 (mUp_no e5095 (mUp_no e5091 e5059 (Or.inr (by decide))) (Or.inr (by decide))) (Or.inr (by decide))) (Or.inr (by decide))) (mUp_no e5104 (mUp_no e5100 (mUp_no e5095 (mUp_no e5091 e5086 (Or.inr (by decide))) (Or.inr (by decide))) (Or.inr (by decide))) (Or.inr (by decide))) (mUp_no e5104 (mUp_no e5100 (mUp_no e5095 (mUp_at e5091) (Or.inr (by decide))) (Or.inr (by decide))) (Or.inr (by decide))) (mUp_no e5104 (mUp_no e5100 (mUp_at e5095) (Or.inr (by decide))) (Or.inr (by decide))) (mUp_no e5104 (mUp_at e5100) (Or.inr (by decide))) (mUp_at e5104) (by omega) (by omega) (fun k => mUp_no e5104 ((fun k => mUp_no e5100 ((fun k => mUp_no e5095 ((fun k => mUp_no e5091 (hu5082 k) (Or.inl (by decide))) k) (Or.inl (by decide))) k) (Or.inl (by decide))) k) (Or.inl (by decide))) (fun k => mUp_no e5104 ((fun k => mUp_no e5100 ((fun k => mUp_no e5095 ((fun k => mUp_no e5091 (hu5084 k) (Or.inl (by decide))) k) (Or.inl (by decide))) k) (Or.inl (by decide))) k) (Or.inl (by decide))) (TK_sm (Sm.up e5104 g_739_4 rfl) (TK_sm (Sm.up e5100 g_739_3 rfl) (TK_sm (Sm.up e5095 g_739_2 rfl) (TK_sm (Sm.up e5091 g_739_1 rfl) (TK_sm (Sm.up e5033 g_739_41 rfl) pr4932))))) (FP_sm (Sm.up e5104 g_739_4 rfl) (FP_sm (Sm.up e5100 g_739_3 rfl) (FP_sm (Sm.up e5095 g_739_2 rfl) (FP_sm (Sm.up e5091 g_739_1 rfl) (FP_sm (Sm.up e5033 g_739_41 rfl) pr4933))))) (WS_sm (Sm.up e5104 g_739_4 rfl) (WS_sm (Sm.up e5100 g_739_3 rfl) (WS_sm (Sm.up e5095 g_739_2 rfl) (WS_sm (Sm.up e5091 g_739_1 rfl) (WS_sm (Sm.up e5033 g_739_41 rfl) pr4934))))) (QW_sm (Sm.up e5104 g_739_4 rfl) (QW_sm (Sm.up e5100 g_739_3 rfl) (QW_sm (Sm.up e5095 g_739_2 rfl) (QW_sm (Sm.up e5091 g_739_1 rfl) (QW_sm (Sm.up e5033 g_739_41 rfl) pr4935))))) (MRP_sm (Sm.up e5104 g_739_4 rfl) (MRP_sm (Sm.up e5100 g_739_3 rfl) (MRP_sm (Sm.up e5095 g_739_2 rfl) (MRP_sm (Sm.up e5091 g_739_1 rfl) (MRP_sm (Sm.up e5033 g_739_41 rfl) pr4936))))) (LRP_sm (Sm.up e5104 g_739_4 rfl) (LRP_sm (Sm.up e5100 g_739_3 rfl) (LRP_sm (Sm.up e5095 g_739_2 rfl) (LRP_sm (Sm.up e5091 g_739_1 rfl) (LRP_sm (Sm.up e5033 g_739_41 rfl) pr4937))))) (by omega) (by omega) (by omega) (by omega) (by omega) (by omega) (by omega) (by omega) (by omega) (by omega) (by omega) (by omega) (fun k a b => by omega))
                      · intro h5227
                        exfalso
                        omega
                    · intro h5228
                      refine wk_al0 r91_163 (wk_c2 r91_164 (wk_cv2 r91_166 kc_739_137 rfl (m9137_739 _ M5030 6 v4925 v4913 hP5031 (by decide) (by decide) (mUp_no e5033 e4928 (Or.inr (by decide))) (by omega) (by omega) (mUp_no e5033 e4916 (Or.inr (by decide))) (by omega) (by omega)) (cqV ?_)))
                      rintro M5229 ⟨hP5230, hQ5231, h5233, h5234⟩
                      have hF5232 : Fr fm_m9091_739 M0 M5229 := hF5032.tr hQ5231 rfl
                      obtain ⟨v5235, e5236⟩ : ∃ v, M5229 739 28 = v := ⟨_, rfl⟩
                      have h5237 := bf_739_28 hP5230; rw [e5236] at h5237
                      have pr5238 : FP M5229 := FP_mn (Sm.fr hQ5231 rfl) (fun q => by have := (mUp_no e5033 e4928 (Or.inr (by decide))); have := e5236; omega) (FP_sm (Sm.up e5033 g_739_41 rfl) pr4933)
                      have pr5239 : LRP M5229 := LRP_mn (Sm.fr hQ5231 rfl) (fun q => by have := (mUp_no e5033 e4928 (Or.inr (by decide))); have := e5236; omega) (LRP_sm (Sm.up e5033 g_739_41 rfl) pr4937)
                      refine wk_al0 r91_169 (wk_cv1 r91_170 kc_739_84 rfl (m9084_739 _ M5229 v5235 hP5230 e5236 (by omega) (by omega)) (cqI ?_))
                      rintro v5246 M5240 ⟨hP5241, hQ5242, h5247, h5248, h5244, h5245⟩
                      obtain rfl := Fr.same hQ5242
                      have e5249 := e5236
                      refine wk_ifne r91_173 ⟨by omega, by omega⟩ ?_ ?_
                      · intro h5250
                        exfalso
                        omega
                      · intro h5251
                        refine wk_al0 r91_176 (wk_getfi r91_177 fd_739_28 e5236 ?_)
                        subst hQ; exact wk_iret r91_180 (⟨rfl, _, rfl, hP5230, hF5232, by omega, by omega, by have := ((hQ5231.at g_739_27 rfl).trans (mUp_no e5033 e4929 (Or.inr (by decide)))); omega, (WS_sm (Sm.fr hQ5231 rfl) (WS_sm (Sm.up e5033 g_739_41 rfl) pr4934)), (QW_sm (Sm.fr hQ5231 rfl) (QW_sm (Sm.up e5033 g_739_41 rfl) pr4935))⟩)
                · intro h5252
                  refine wk_al0 r91_130 (wk_getfb r91_131 fd_739_42 (bf_739_42 hP4891) ?_)
                  intro v5253 h5255 h5256 e5254
                  refine wk_ifeq r91_134 ⟨by omega, by omega⟩ ?_ ?_
                  · intro h5257
                    refine wk_c1 r91_142 (wk_putfi81 r91_143 fd_739_41 (wk_nw g_739_41 rfl hP4891 hF4892 (uf_739_41 (by decide)) ?_))
                    intro M5258 hP5259 hF5260 e5261
                    refine wk_al0 r91_146 (wk_cv1 r91_147 kc_739_84 rfl (m9084_739 _ M5258 v4925 hP5259 (mUp_no e5261 e4928 (Or.inr (by decide))) (by omega) (by omega)) (cqI ?_))
                    rintro v5268 M5262 ⟨hP5263, hQ5264, h5269, h5270, h5266, h5267⟩
                    obtain rfl := Fr.same hQ5264
                    have e5271 := (mUp_no e5261 e4928 (Or.inr (by decide)))
                    refine wk_ifeq r91_150 ⟨by omega, by omega⟩ ?_ ?_
                    · intro h5272
                      refine wk_al0 r91_169 (wk_cv1 r91_170 kc_739_84 rfl (m9084_739 _ M5258 v4925 hP5259 (mUp_no e5261 e4928 (Or.inr (by decide))) (by omega) (by omega)) (cqI ?_))
                      rintro v5279 M5273 ⟨hP5274, hQ5275, h5280, h5281, h5277, h5278⟩
                      obtain rfl := Fr.same hQ5275
                      have e5282 := (mUp_no e5261 e4928 (Or.inr (by decide)))
                      refine wk_ifne r91_173 ⟨by omega, by omega⟩ ?_ ?_
                      · intro h5283
                        exfalso
                        omega
                      · intro h5284
                        refine wk_al0 r91_176 (wk_getfi r91_177 fd_739_28 (mUp_no e5261 e4928 (Or.inr (by decide))) ?_)
                        subst hQ; exact wk_iret r91_180 (⟨rfl, _, rfl, hP5259, hF5260, by omega, by omega, by have := (mUp_no e5261 e4929 (Or.inr (by decide))); omega, (WS_sm (Sm.up e5261 g_739_41 rfl) pr4934), (QW_sm (Sm.up e5261 g_739_41 rfl) pr4935)⟩)
                    · intro h5285
                      refine wk_al0 r91_153 ?_
                      obtain ⟨v5286, e5287⟩ : ∃ v, M5258 739 43 = v := ⟨_, rfl⟩
                      have h5288 := bf_739_43 hP5259; rw [e5287] at h5288
                      refine wk_cv1 r91_154 kc_739_127 rfl (m9127_739 _ M5258 v4897 1 v5286 v3928 hP5259 (mUp_no e5261 e4900 (Or.inr (by decide))) (by omega) (by omega) (mUp_at e5261) (by omega) (by omega) e5287 (by omega) (by omega) (mUp_no e5261 e4931 (Or.inr (by decide))) (by omega) (by omega) (MRP_sm (Sm.up e5261 g_739_41 rfl) pr4936)) (cqI ?_)
                      rintro v5294 M5289 ⟨hP5290, hQ5291, h5295, h5296, xh5293⟩
                      obtain rfl := Fr.same hQ5291
                      refine wk_c3 r91_157 ?_
                      refine wk_icle r91_160 ⟨by omega, by omega⟩ (by decide) ?_ ?_
                      · intro h5297
                        refine wk_al0 r91_169 (wk_cv1 r91_170 kc_739_84 rfl (m9084_739 _ M5258 v4925 hP5259 (mUp_no e5261 e4928 (Or.inr (by decide))) (by omega) (by omega)) (cqI ?_))
                        rintro v5304 M5298 ⟨hP5299, hQ5300, h5305, h5306, h5302, h5303⟩
                        obtain rfl := Fr.same hQ5300
                        have e5307 := (mUp_no e5261 e4928 (Or.inr (by decide)))
                        refine wk_ifne r91_173 ⟨by omega, by omega⟩ ?_ ?_
                        · intro h5308
                          have hsz := xh5293 (by omega)
                          have hMR : MRP M5258 := (MRP_sm (Sm.up e5261 g_739_41 rfl) pr4936)
                          obtain ⟨u5309, hu5310⟩ : ∃ u : Int → Int, ∀ k, M5258 757 k = u k := ⟨fun k => M5258 757 k, fun k => rfl⟩
                          obtain ⟨u5311, hu5312⟩ : ∃ u : Int → Int, ∀ k, M5258 756 k = u k := ⟨fun k => M5258 756 k, fun k => rfl⟩
                          have hu6 : ∀ k : Int, M5258 756 k = u5311 k := hu5312
                          obtain ⟨Mz, hMz⟩ : ∃ m : Mm, m = M5258 := ⟨_, rfl⟩
                          have hFD := FP_get (FP_sm (Sm.up e5261 g_739_41 rfl) pr4933) (mUp_no e5261 e4928 (Or.inr (by decide))) (by omega) (mUp_no e5261 e4908 (Or.inr (by decide))) (mUp_no e5261 e4896 (Or.inr (by decide))) hu5310
                          have hgk : M5258 739 28 = v4925 := (mUp_no e5261 e4928 (Or.inr (by decide)))
                          have hLP : LRP M5258 := (LRP_sm (Sm.up e5261 g_739_41 rfl) pr4937)
                          have hlr : M5258 739 42 = v5253 := (mUp_no e5261 e5254 (Or.inr (by decide)))
                          refine wk_al0 r91_181 (wk_al0 r91_182 (wk_getfi r91_183 fd_739_38 (mUp_no e5261 e4931 (Or.inr (by decide))) (wk_putfi81 r91_186 fd_739_1 (wk_nw g_739_1 rfl hP5259 hF5260 (uf_739_1 ⟨by omega, by omega⟩) ?_))))
                          intro M5313 hP5314 hF5315 e5316
                          refine wk_al0 r91_189 (wk_al0 r91_190 (wk_getfi r91_191 fd_739_39 (mUp_no e5316 (mUp_no e5261 e4900 (Or.inr (by decide))) (Or.inr (by decide))) (wk_putfi81 r91_194 fd_739_2 (wk_nw g_739_2 rfl hP5314 hF5315 (uf_739_2 ⟨by omega, by omega⟩) ?_))))
                          intro M5317 hP5318 hF5319 e5320
                          refine wk_al0 r91_197 (wk_al0 r91_198 (wk_getfi r91_199 fd_739_42 (mUp_no e5320 (mUp_no e5316 (mUp_no e5261 e5254 (Or.inr (by decide))) (Or.inr (by decide))) (Or.inr (by decide))) ?_))
                          have h5321 : 0 ≤ v5253 ∧ v5253 ≤ 127 := by have q := hLP (by omega); have := hlr; omega
                          refine wk_putfi81 r91_202 fd_739_3 (wk_nw g_739_3 rfl hP5318 hF5319 (uf_739_3 ⟨by omega, by omega⟩) ?_)
                          intro M5322 hP5323 hF5324 e5325
                          refine wk_al0 r91_205 (wk_al0 r91_206 (wk_getfi r91_207 fd_739_44 (mUp_no e5325 (mUp_no e5320 (mUp_no e5316 (mUp_no e5261 e4908 (Or.inr (by decide))) (Or.inr (by decide))) (Or.inr (by decide))) (Or.inr (by decide))) (wk_putfi81 r91_210 fd_739_4 (wk_nw g_739_4 rfl hP5323 hF5324 (uf_739_4 ⟨by omega, by omega⟩) ?_))))
                          intro M5326 hP5327 hF5328 e5329
                          refine wk_c1 r91_213 (wk_is2 r91_214 rfl ?_)
                          have c215_5451 : ∀ (k5451 : Nat) (M5333 : Mm) (v5330 : Int), (7 - v5330).toNat = k5451 → Pw M5333 → Fr fm_m9091_739 M0 M5333 → M5333 739 45 = v4893 → M5333 739 39 = v4897 → M5333 739 40 = v4901 → M5333 739 44 = v4905 → M5333 739 31 = v4909 → M5333 739 33 = v4913 → M5333 739 34 = v4917 → M5333 739 32 = v4921 → M5333 739 28 = v4925 → M5333 739 27 = v17 → M5333 739 30 = v26 → M5333 739 38 = v3928 → M5333 739 42 = v5253 → M5333 739 41 = 1 → M5333 739 43 = v5286 → M5333 739 1 = v3928 → M5333 739 2 = v4897 → M5333 739 3 = v5253 → M5333 739 4 = v4905 → 0 ≤ v5330 → v5330 ≤ 7 → (∀ k, M5333 757 k = u5309 k) → (∀ k, M5333 756 k = u5311 k) → (TK M5333) → (FP M5333) → (WS M5333) → (QW M5333) → (MRP M5333) → (LRP M5333) → 0 ≤ 1 * v26 + (-1) * v4909 → 0 ≤ 1 * v4909 + (-1) * v4913 + (-1) * v4917 → 0 ≤ (-1) * v4909 + 1 * v4913 + 1 * v4917 → 0 ≤ 4 * v4917 + (-1) * v4921 → 0 ≤ 1 * v4913 + (-2) * v4893 + 3000 * v4925 + 2 → 0 ≤ (-1) * v4893 + 262 → 0 ≤ (-1) * v4905 + 1 * v4913 + 3000 * v4925 → 0 ≤ (-1) * v4905 + 502 → 0 ≤ (-1) * v4897 + 4 + 3000 * v4925 → 0 ≤ 1 * v4897 + (-1) + 3000 * v4925 → 0 ≤ (-1) * v4901 + 6 + 3000 * v4925 → 0 ≤ (-1) * v3928 + 7 + 3000 * v4925 → (∀ k : Int, 0 ≤ k → k < v5330 → M5333 740 k = u5311 k) → Wp B (d + 8) 91 215 [some (R 739), none, some (I v5330)] [] M5333 Q := by
                            refine lp_ind ?_
                            intro k5451 ih5451 M5333 v5330 hk5451 hP5334 hF5335 e5338 e5339 e5340 e5341 e5342 e5343 e5344 e5345 e5346 e5347 e5348 e5349 e5350 e5351 e5352 e5353 e5354 e5355 e5356 h5331 h5332 hu5336 hu5337 pr5357 pr5358 pr5359 pr5360 pr5361 pr5362 h5363 h5364 h5365 h5366 h5367 h5368 h5369 h5370 h5371 h5372 h5373 h5374 ti5375
                            refine wk_il2 r91_215 (wk_c2 r91_216 ?_)
                            refine wk_icge r91_218 ⟨by omega, by omega⟩ (by decide) ?_ ?_
                            · intro h5376
                              obtain ⟨Mb, hMb⟩ : ∃ m : Mm, m = M5333 := ⟨_, rfl⟩
                              have hA6 : ∀ k : Int, 0 ≤ k → k < 7 → Mb 740 k = u5311 k := fun k a b => by rw [hMb]; exact ti5375 k a (by omega)
                              refine wk_c1 r91_239 (wk_is2 r91_240 rfl ?_)
                              have c241_5441 : ∀ (k5441 : Nat) (M5380 : Mm) (v5377 : Int), (251 - v5377).toNat = k5441 → Pw M5380 → Fr fm_m9091_739 M0 M5380 → M5380 739 45 = v4893 → M5380 739 39 = v4897 → M5380 739 40 = v4901 → M5380 739 44 = v4905 → M5380 739 31 = v4909 → M5380 739 33 = v4913 → M5380 739 34 = v4917 → M5380 739 32 = v4921 → M5380 739 28 = v4925 → M5380 739 27 = v17 → M5380 739 30 = v26 → M5380 739 38 = v3928 → M5380 739 42 = v5253 → M5380 739 41 = 1 → M5380 739 43 = v5286 → M5380 739 1 = v3928 → M5380 739 2 = v4897 → M5380 739 3 = v5253 → M5380 739 4 = v4905 → 0 ≤ v5377 → v5377 ≤ 251 → (∀ k, M5380 757 k = u5309 k) → (∀ k, M5380 756 k = u5311 k) → (TK M5380) → (FP M5380) → (WS M5380) → (QW M5380) → (MRP M5380) → (LRP M5380) → 0 ≤ 1 * v26 + (-1) * v4909 → 0 ≤ 1 * v4909 + (-1) * v4913 + (-1) * v4917 → 0 ≤ (-1) * v4909 + 1 * v4913 + 1 * v4917 → 0 ≤ 4 * v4917 + (-1) * v4921 → 0 ≤ 1 * v4913 + (-2) * v4893 + 3000 * v4925 + 2 → 0 ≤ (-1) * v4893 + 262 → 0 ≤ (-1) * v4905 + 1 * v4913 + 3000 * v4925 → 0 ≤ (-1) * v4905 + 502 → 0 ≤ (-1) * v4897 + 4 + 3000 * v4925 → 0 ≤ 1 * v4897 + (-1) + 3000 * v4925 → 0 ≤ (-1) * v4901 + 6 + 3000 * v4925 → 0 ≤ (-1) * v3928 + 7 + 3000 * v4925 → (∀ k : Int, 0 ≤ k → k < v5377 → M5380 741 (0 + k) = u5309 k) → (∀ k : Int, M5380 740 k = Mb 740 k) → Wp B (d + 8) 91 241 [some (R 739), none, some (I v5377)] [] M5380 Q := by
                                refine lp_ind ?_
                                intro k5441 ih5441 M5380 v5377 hk5441 hP5381 hF5382 e5385 e5386 e5387 e5388 e5389 e5390 e5391 e5392 e5393 e5394 e5395 e5396 e5397 e5398 e5399 e5400 e5401 e5402 e5403 h5378 h5379 hu5383 hu5384 pr5404 pr5405 pr5406 pr5407 pr5408 pr5409 h5410 h5411 h5412 h5413 h5414 h5415 h5416 h5417 h5418 h5419 h5420 h5421 ti5422 ti5423
                                refine wk_il2 r91_241 (wk_al0 r91_242 (wk_getfi r91_243 fd_739_45 e5385 ?_))
                                refine wk_icge r91_246 ⟨by omega, by omega⟩ ⟨by omega, by omega⟩ ?_ ?_
                                · intro h5424
                                  have pr5425 : FFP M5380 v4893 := FFP_mk hFD e5403 (fun k a b => ti5422 k a (by omega)) (by omega)
                                  have hA7 : ∀ k : Int, 0 ≤ k → k < 7 → M5380 740 k = u5311 k := fun k a b => (ti5423 k).trans (hA6 k a b)
                                  refine wk_al0 r91_267 (wk_cv1 r91_268 kc_739_108 rfl (m9108_739 _ M5380 v3928 v4897 1 v5286 v4901 v4893 (v4897 * 1 * v5286) hP5381 e5400 (by omega) (by omega) e5401 (by omega) (by omega) e5398 (by omega) (by omega) e5399 (by omega) (by omega) e5387 (by omega) (by omega) (by first | assumption | omega | (unfold stepok; omega)) (rfl) (isl_sz hsz hu6 hA7 (by omega)) (fun k a b => by rw [hA7 k a b, ← hu6 k]; exact hMR k a b) pr5425) (cqV ?_))
                                  rintro M5426 ⟨hP5427, hQ5428, pr5430, pr5431⟩
                                  have hF5429 : Fr fm_m9091_739 M0 M5426 := hF5382.tr hQ5428 rfl
                                  refine wk_c1 r91_271 ?_
                                  subst hQ; exact wk_iret r91_272 (⟨rfl, _, rfl, hP5427, hF5429, by omega, by omega, by have := ((hQ5428.at g_739_27 rfl).trans e5394); omega, pr5430, pr5431⟩)
                                · intro h5432
                                  refine wk_al0 r91_249 (wk_getfr r91_250 fd_739_6 (br_739_6 hP5381) (wk_il2 r91_253 (wk_al0 r91_254 (wk_getfr r91_255 fd_739_49 (br_739_49 hP5381) (wk_il2 r91_258 (wk_ialdb r91_259 ar_757 ⟨by omega, by omega⟩ (fun q0 q1 => ba_757 hP5381 q0 q1) ?_))))))
                                  intro v5433 h5435 h5436 e5434
                                  refine wk_iast r91_260 ar_741 ⟨by omega, by omega⟩ (wk_nw (ga_741 _) rfl hP5381 hF5382 (uaR_741 (by rw [← e5434, hu5383]; exact FD_ok _ _ _ hFD.2 _ (by omega) (by omega))) ?_)
                                  intro M5437 hP5438 hF5439 e5440
                                  refine wk_inc2 r91_261 rfl (wk_goto r91_264 ?_)
                                  exact wp_fg (le_s (le_s (le_s le_0))) (ih5441 (251 - (v5377 + 1)).toNat (by omega) M5437 (v5377 + 1) rfl hP5438 hF5439 (mUp_no e5440 e5385 (Or.inl (by decide))) (mUp_no e5440 e5386 (Or.inl (by decide))) (mUp_no e5440 e5387 (Or.inl (by decide))) (mUp_no e5440 e5388 (Or.inl (by decide))) (mUp_no e5440 e5389 (Or.inl (by decide))) (mUp_no e5440 e5390 (Or.inl (by decide))) (mUp_no e5440 e5391 (Or.inl (by decide))) (mUp_no e5440 e5392 (Or.inl (by decide))) (mUp_no e5440 e5393 (Or.inl (by decide))) (mUp_no e5440 e5394 (Or.inl (by decide))) (mUp_no e5440 e5395 (Or.inl (by decide))) (mUp_no e5440 e5396 (Or.inl (by decide))) (mUp_no e5440 e5397 (Or.inl (by decide))) (mUp_no e5440 e5398 (Or.inl (by decide))) (mUp_no e5440 e5399 (Or.inl (by decide))) (mUp_no e5440 e5400 (Or.inl (by decide))) (mUp_no e5440 e5401 (Or.inl (by decide))) (mUp_no e5440 e5402 (Or.inl (by decide))) (mUp_no e5440 e5403 (Or.inl (by decide))) (by omega) (by omega) (fun k => mUp_no e5440 (hu5383 k) (Or.inl (by decide))) (fun k => mUp_no e5440 (hu5384 k) (Or.inl (by decide))) (TK_sm (Sm.up e5440 (ga_741 _) rfl) pr5404) (FP_sm (Sm.up e5440 (ga_741 _) rfl) pr5405) (WS_sm (Sm.up e5440 (ga_741 _) rfl) pr5406) (QW_sm (Sm.up e5440 (ga_741 _) rfl) pr5407) (MRP_sm (Sm.up e5440 (ga_741 _) rfl) pr5408) (LRP_sm (Sm.up e5440 (ga_741 _) rfl) pr5409) (by omega) (by omega) (by omega) (by omega) (by omega) (by omega) (by omega) (by omega) (by omega) (by omega) (by omega) (by omega) (cp_step (S := 0) (e0z e5440) ti5422 e5434 hu5383) (fun k => by rw [e5440, mUp_ne (Or.inl (by decide))]; exact ti5423 k))
                              exact wp_fg (le_s (le_s (le_s le_0))) (c241_5441 _ M5333 0 rfl hP5334 hF5335 e5338 e5339 e5340 e5341 e5342 e5343 e5344 e5345 e5346 e5347 e5348 e5349 e5350 e5351 e5352 e5353 e5354 e5355 e5356 (by omega) (by omega) hu5336 hu5337 pr5357 pr5358 pr5359 pr5360 pr5361 pr5362 (by omega) (by omega) (by omega) (by omega) (by omega) (by omega) (by omega) (by omega) (by omega) (by omega) (by omega) (by omega) (fun k a b => by omega) (fun k => by rw [hMb]))
                            · intro h5442
                              refine wk_al0 r91_221 (wk_getfr r91_222 fd_739_5 (br_739_5 hP5334) (wk_il2 r91_225 (wk_al0 r91_226 (wk_getfr r91_227 fd_739_48 (br_739_48 hP5334) (wk_il2 r91_230 (wk_ialdb r91_231 ar_756 ⟨by omega, by omega⟩ (fun q0 q1 => ba_756 hP5334 q0 q1) ?_))))))
                              intro v5443 h5445 h5446 e5444
                              refine wk_iast r91_232 ar_740 ⟨by omega, by omega⟩ (wk_nw (ga_740 _) rfl hP5334 hF5335 (ua_740 ⟨by omega, by omega⟩) ?_)
                              intro M5447 hP5448 hF5449 e5450
                              refine wk_inc2 r91_233 rfl (wk_goto r91_236 ?_)
                              exact wp_fg (le_s (le_s (le_s le_0))) (ih5451 (7 - (v5330 + 1)).toNat (by omega) M5447 (v5330 + 1) rfl hP5448 hF5449 (mUp_no e5450 e5338 (Or.inl (by decide))) (mUp_no e5450 e5339 (Or.inl (by decide))) (mUp_no e5450 e5340 (Or.inl (by decide))) (mUp_no e5450 e5341 (Or.inl (by decide))) (mUp_no e5450 e5342 (Or.inl (by decide))) (mUp_no e5450 e5343 (Or.inl (by decide))) (mUp_no e5450 e5344 (Or.inl (by decide))) (mUp_no e5450 e5345 (Or.inl (by decide))) (mUp_no e5450 e5346 (Or.inl (by decide))) (mUp_no e5450 e5347 (Or.inl (by decide))) (mUp_no e5450 e5348 (Or.inl (by decide))) (mUp_no e5450 e5349 (Or.inl (by decide))) (mUp_no e5450 e5350 (Or.inl (by decide))) (mUp_no e5450 e5351 (Or.inl (by decide))) (mUp_no e5450 e5352 (Or.inl (by decide))) (mUp_no e5450 e5353 (Or.inl (by decide))) (mUp_no e5450 e5354 (Or.inl (by decide))) (mUp_no e5450 e5355 (Or.inl (by decide))) (mUp_no e5450 e5356 (Or.inl (by decide))) (by omega) (by omega) (fun k => mUp_no e5450 (hu5336 k) (Or.inl (by decide))) (fun k => mUp_no e5450 (hu5337 k) (Or.inl (by decide))) (TK_sm (Sm.up e5450 (ga_740 _) rfl) pr5357) (FP_sm (Sm.up e5450 (ga_740 _) rfl) pr5358) (WS_sm (Sm.up e5450 (ga_740 _) rfl) pr5359) (QW_sm (Sm.up e5450 (ga_740 _) rfl) pr5360) (MRP_sm (Sm.up e5450 (ga_740 _) rfl) pr5361) (LRP_sm (Sm.up e5450 (ga_740 _) rfl) pr5362) (by omega) (by omega) (by omega) (by omega) (by omega) (by omega) (by omega) (by omega) (by omega) (by omega) (by omega) (by omega) (fun k a b => by rw [e5450]; (by_cases q : k = v5330); (rw [q, mUp_eq, ← e5444, hu5337]); (rw [mUp_ne (Or.inr q)]; exact ti5375 k a (by omega))))
                          exact wp_fg (le_s (le_s (le_s le_0))) (c215_5451 _ M5326 0 rfl hP5327 hF5328 (mUp_no e5329 (mUp_no e5325 (mUp_no e5320 (mUp_no e5316 (mUp_no e5261 e4896 (Or.inr (by decide))) (Or.inr (by decide))) (Or.inr (by decide))) (Or.inr (by decide))) (Or.inr (by decide))) (mUp_no e5329 (mUp_no e5325 (mUp_no e5320 (mUp_no e5316 (mUp_no e5261 e4900 (Or.inr (by decide))) (Or.inr (by decide))) (Or.inr (by decide))) (Or.inr (by decide))) (Or.inr (by decide))) (mUp_no e5329 (mUp_no e5325 (mUp_no e5320 (mUp_no e5316 (mUp_no e5261 e4904 (Or.inr (by decide))) (Or.inr (by decide))) (Or.inr (by decide))) (Or.inr (by decide))) (Or.inr (by decide))) (mUp_no e5329 (mUp_no e5325 (mUp_no e5320 (mUp_no e5316 (mUp_no e5261 e4908 (Or.inr (by decide))) (Or.inr (by decide))) (Or.inr (by decide))) (Or.inr (by decide))) (Or.inr (by decide))) (mUp_no e5329 (mUp_no e5325 (mUp_no e5320 (mUp_no e5316 (mUp_no e5261 e4912 (Or.inr (by decide))) (Or.inr (by decide))) (Or.inr (by decide))) (Or.inr (by decide))) (Or.inr (by decide))) (mUp_no e5329 (mUp_no e5325 (mUp_no e5320 (mUp_no e5316 (mUp_no e5261 e4916 (Or.inr (by decide))) (Or.inr (by decide))) (Or.inr (by decide))) (Or.inr (by decide))) (Or.inr (by decide))) (mUp_no e5329 (mUp_no e5325 (mUp_no e5320 (mUp_no e5316 (mUp_no e5261 e4920 (Or.inr (by decide))) (Or.inr (by decide))) (Or.inr (by decide))) (Or.inr (by decide))) (Or.inr (by decide))) (mUp_no e5329 (mUp_no e5325 (mUp_no e5320 (mUp_no e5316 (mUp_no e5261 e4924 (Or.inr (by decide))) (Or.inr (by decide))) (Or.inr (by decide))) (Or.inr (by decide))) (Or.inr (by decide))) (mUp_no e5329 (mUp_no e5325 (mUp_no e5320 (mUp_no e5316 (mUp_no e5261 e4928 (Or.inr (by decide))) (Or.inr (by decide))) (Or.inr (by decide))) (Or.inr (by decide))) (Or.inr (by decide))) (mUp_no e5329 (mUp_no e5325 (mUp_no e5320 (mUp_no e5316 (mUp_no e5261 e4929 (Or.inr (by decide))) (Or.inr (by decide))) (Or.inr (by decide))) (Or.inr (by decide))) (Or.inr (by decide))) (mUp_no e5329 (mUp_no e5325 (mUp_no e5320 (mUp_no e5316 (mUp_no e5261 e4930 (Or.inr (by decide))) (Or.inr (by decide))) (Or.inr (by decide))) (Or.inr (by decide))) (Or.inr (by decide))) (mUp_no e5329 (mUp_no e5325 (mUp_no e5320 (mUp_no e5316 (mUp_no e5261 e4931 (Or.inr (by decide))) (Or.inr (by decide))) (Or.inr (by decide))) (Or.inr (by decide))) (Or.inr (by decide))) (mUp_no e5329 (mUp_no e5325 (mUp_no e5320 (mUp_no e5316 (mUp_no e5261 e5254 (Or.inr (by decide))) (Or.inr (by decide))) (Or.inr (by decide))) (Or.inr (by decide))) (Or.inr (by decide))) (mUp_no e5329 (mUp_no e5325 (mUp_no e5320 (mUp_no e5316 (mUp_at e5261) (Or.inr (by decide))) (Or.inr (by decide))) (Or.inr (by decide))) (Or.inr (by decide))) (mUp_no e5329 (mUp_no e5325 (mUp_no e5320 (mUp_no e5316 e5287 (Or.inr (by decide))) (Or.inr (by decide))) (Or.inr (by decide))) (Or.inr (by decide))) (mUp_no e5329 (mUp_no e5325 (mUp_no e5320 (mUp_at e5316) (Or.inr (by decide))) (Or.inr (by decide))) (Or.inr (by decide))) (mUp_no e5329 (mUp_no e5325 (mUp_at e5320) (Or.inr (by decide))) (Or.inr (by decide))) (mUp_no e5329 (mUp_at e5325) (Or.inr (by decide))) (mUp_at e5329) (by omega) (by omega) (fun k => mUp_no e5329 ((fun k => mUp_no e5325 ((fun k => mUp_no e5320 ((fun k => mUp_no e5316 (hu5310 k) (Or.inl (by decide))) k) (Or.inl (by decide))) k) (Or.inl (by decide))) k) (Or.inl (by decide))) (fun k => mUp_no e5329 ((fun k => mUp_no e5325 ((fun k => mUp_no e5320 ((fun k => mUp_no e5316 (hu5312 k) (Or.inl (by decide))) k) (Or.inl (by decide))) k) (Or.inl (by decide))) k) (Or.inl (by decide))) (TK_sm (Sm.up e5329 g_739_4 rfl) (TK_sm (Sm.up e5325 g_739_3 rfl) (TK_sm (Sm.up e5320 g_739_2 rfl) (TK_sm (Sm.up e5316 g_739_1 rfl) (TK_sm (Sm.up e5261 g_739_41 rfl) pr4932))))) (FP_sm (Sm.up e5329 g_739_4 rfl) (FP_sm (Sm.up e5325 g_739_3 rfl) (FP_sm (Sm.up e5320 g_739_2 rfl) (FP_sm (Sm.up e5316 g_739_1 rfl) (FP_sm (Sm.up e5261 g_739_41 rfl) pr4933))))) (WS_sm (Sm.up e5329 g_739_4 rfl) (WS_sm (Sm.up e5325 g_739_3 rfl) (WS_sm (Sm.up e5320 g_739_2 rfl) (WS_sm (Sm.up e5316 g_739_1 rfl) (WS_sm (Sm.up e5261 g_739_41 rfl) pr4934))))) (QW_sm (Sm.up e5329 g_739_4 rfl) (QW_sm (Sm.up e5325 g_739_3 rfl) (QW_sm (Sm.up e5320 g_739_2 rfl) (QW_sm (Sm.up e5316 g_739_1 rfl) (QW_sm (Sm.up e5261 g_739_41 rfl) pr4935))))) (MRP_sm (Sm.up e5329 g_739_4 rfl) (MRP_sm (Sm.up e5325 g_739_3 rfl) (MRP_sm (Sm.up e5320 g_739_2 rfl) (MRP_sm (Sm.up e5316 g_739_1 rfl) (MRP_sm (Sm.up e5261 g_739_41 rfl) pr4936))))) (LRP_sm (Sm.up e5329 g_739_4 rfl) (LRP_sm (Sm.up e5325 g_739_3 rfl) (LRP_sm (Sm.up e5320 g_739_2 rfl) (LRP_sm (Sm.up e5316 g_739_1 rfl) (LRP_sm (Sm.up e5261 g_739_41 rfl) pr4937))))) (by omega) (by omega) (by omega) (by omega) (by omega) (by omega) (by omega) (by omega) (by omega) (by omega) (by omega) (by omega) (fun k a b => by omega))
                        · intro h5452
                          exfalso
                          omega
                      · intro h5453
                        refine wk_al0 r91_163 (wk_c2 r91_164 (wk_cv2 r91_166 kc_739_137 rfl (m9137_739 _ M5258 6 v4925 v4913 hP5259 (by decide) (by decide) (mUp_no e5261 e4928 (Or.inr (by decide))) (by omega) (by omega) (mUp_no e5261 e4916 (Or.inr (by decide))) (by omega) (by omega)) (cqV ?_)))
                        rintro M5454 ⟨hP5455, hQ5456, h5458, h5459⟩
                        have hF5457 : Fr fm_m9091_739 M0 M5454 := hF5260.tr hQ5456 rfl
                        obtain ⟨v5460, e5461⟩ : ∃ v, M5454 739 28 = v := ⟨_, rfl⟩
                        have h5462 := bf_739_28 hP5455; rw [e5461] at h5462
                        have pr5463 : FP M5454 := FP_mn (Sm.fr hQ5456 rfl) (fun q => by have := (mUp_no e5261 e4928 (Or.inr (by decide))); have := e5461; omega) (FP_sm (Sm.up e5261 g_739_41 rfl) pr4933)
                        have pr5464 : LRP M5454 := LRP_mn (Sm.fr hQ5456 rfl) (fun q => by have := (mUp_no e5261 e4928 (Or.inr (by decide))); have := e5461; omega) (LRP_sm (Sm.up e5261 g_739_41 rfl) pr4937)
                        refine wk_al0 r91_169 (wk_cv1 r91_170 kc_739_84 rfl (m9084_739 _ M5454 v5460 hP5455 e5461 (by omega) (by omega)) (cqI ?_))
                        rintro v5471 M5465 ⟨hP5466, hQ5467, h5472, h5473, h5469, h5470⟩
                        obtain rfl := Fr.same hQ5467
                        have e5474 := e5461
                        refine wk_ifne r91_173 ⟨by omega, by omega⟩ ?_ ?_
                        · intro h5475
                          exfalso
                          omega
                        · intro h5476
                          refine wk_al0 r91_176 (wk_getfi r91_177 fd_739_28 e5461 ?_)
                          subst hQ; exact wk_iret r91_180 (⟨rfl, _, rfl, hP5455, hF5457, by omega, by omega, by have := ((hQ5456.at g_739_27 rfl).trans (mUp_no e5261 e4929 (Or.inr (by decide)))); omega, (WS_sm (Sm.fr hQ5456 rfl) (WS_sm (Sm.up e5261 g_739_41 rfl) pr4934)), (QW_sm (Sm.fr hQ5456 rfl) (QW_sm (Sm.up e5261 g_739_41 rfl) pr4935))⟩)
                  · intro h5477
                    refine wk_c2 r91_137 (wk_goto r91_139 (wk_putfi81 r91_143 fd_739_41 (wk_nw g_739_41 rfl hP4891 hF4892 (uf_739_41 (by decide)) ?_)))
                    intro M5478 hP5479 hF5480 e5481
                    refine wk_al0 r91_146 (wk_cv1 r91_147 kc_739_84 rfl (m9084_739 _ M5478 v4925 hP5479 (mUp_no e5481 e4928 (Or.inr (by decide))) (by omega) (by omega)) (cqI ?_))
                    rintro v5488 M5482 ⟨hP5483, hQ5484, h5489, h5490, h5486, h5487⟩
                    obtain rfl := Fr.same hQ5484
                    have e5491 := (mUp_no e5481 e4928 (Or.inr (by decide)))
                    refine wk_ifeq r91_150 ⟨by omega, by omega⟩ ?_ ?_
                    · intro h5492
                      refine wk_al0 r91_169 (wk_cv1 r91_170 kc_739_84 rfl (m9084_739 _ M5478 v4925 hP5479 (mUp_no e5481 e4928 (Or.inr (by decide))) (by omega) (by omega)) (cqI ?_))
                      rintro v5499 M5493 ⟨hP5494, hQ5495, h5500, h5501, h5497, h5498⟩
                      obtain rfl := Fr.same hQ5495
                      have e5502 := (mUp_no e5481 e4928 (Or.inr (by decide)))
                      refine wk_ifne r91_173 ⟨by omega, by omega⟩ ?_ ?_
                      · intro h5503
                        exfalso
                        omega
                      · intro h5504
                        refine wk_al0 r91_176 (wk_getfi r91_177 fd_739_28 (mUp_no e5481 e4928 (Or.inr (by decide))) ?_)
                        subst hQ; exact wk_iret r91_180 (⟨rfl, _, rfl, hP5479, hF5480, by omega, by omega, by have := (mUp_no e5481 e4929 (Or.inr (by decide))); omega, (WS_sm (Sm.up e5481 g_739_41 rfl) pr4934), (QW_sm (Sm.up e5481 g_739_41 rfl) pr4935)⟩)
                    · intro h5505
                      refine wk_al0 r91_153 ?_
                      obtain ⟨v5506, e5507⟩ : ∃ v, M5478 739 43 = v := ⟨_, rfl⟩
                      have h5508 := bf_739_43 hP5479; rw [e5507] at h5508
                      refine wk_cv1 r91_154 kc_739_127 rfl (m9127_739 _ M5478 v4897 7 v5506 v3928 hP5479 (mUp_no e5481 e4900 (Or.inr (by decide))) (by omega) (by omega) (mUp_at e5481) (by omega) (by omega) e5507 (by omega) (by omega) (mUp_no e5481 e4931 (Or.inr (by decide))) (by omega) (by omega) (MRP_sm (Sm.up e5481 g_739_41 rfl) pr4936)) (cqI ?_)
                      rintro v5514 M5509 ⟨hP5510, hQ5511, h5515, h5516, xh5513⟩
                      obtain rfl := Fr.same hQ5511
                      refine wk_c3 r91_157 ?_
                      refine wk_icle r91_160 ⟨by omega, by omega⟩ (by decide) ?_ ?_
                      · intro h5517
                        refine wk_al0 r91_169 (wk_cv1 r91_170 kc_739_84 rfl (m9084_739 _ M5478 v4925 hP5479 (mUp_no e5481 e4928 (Or.inr (by decide))) (by omega) (by omega)) (cqI ?_))
                        rintro v5524 M5518 ⟨hP5519, hQ5520, h5525, h5526, h5522, h5523⟩
                        obtain rfl := Fr.same hQ5520
                        have e5527 := (mUp_no e5481 e4928 (Or.inr (by decide)))
                        refine wk_ifne r91_173 ⟨by omega, by omega⟩ ?_ ?_
                        · intro h5528
                          have hsz := xh5513 (by omega)
                          have hMR : MRP M5478 := (MRP_sm (Sm.up e5481 g_739_41 rfl) pr4936)
                          obtain ⟨u5529, hu5530⟩ : ∃ u : Int → Int, ∀ k, M5478 757 k = u k := ⟨fun k => M5478 757 k, fun k => rfl⟩
                          obtain ⟨u5531, hu5532⟩ : ∃ u : Int → Int, ∀ k, M5478 756 k = u k := ⟨fun k => M5478 756 k, fun k => rfl⟩
                          have hu6 : ∀ k : Int, M5478 756 k = u5531 k := hu5532
                          obtain ⟨Mz, hMz⟩ : ∃ m : Mm, m = M5478 := ⟨_, rfl⟩
                          have hFD := FP_get (FP_sm (Sm.up e5481 g_739_41 rfl) pr4933) (mUp_no e5481 e4928 (Or.inr (by decide))) (by omega) (mUp_no e5481 e4908 (Or.inr (by decide))) (mUp_no e5481 e4896 (Or.inr (by decide))) hu5530
                          have hgk : M5478 739 28 = v4925 := (mUp_no e5481 e4928 (Or.inr (by decide)))
                          have hLP : LRP M5478 := (LRP_sm (Sm.up e5481 g_739_41 rfl) pr4937)
                          have hlr : M5478 739 42 = v5253 := (mUp_no e5481 e5254 (Or.inr (by decide)))
                          refine wk_al0 r91_181 (wk_al0 r91_182 (wk_getfi r91_183 fd_739_38 (mUp_no e5481 e4931 (Or.inr (by decide))) (wk_putfi81 r91_186 fd_739_1 (wk_nw g_739_1 rfl hP5479 hF5480 (uf_739_1 ⟨by omega, by omega⟩) ?_))))
                          intro M5533 hP5534 hF5535 e5536
                          refine wk_al0 r91_189 (wk_al0 r91_190 (wk_getfi r91_191 fd_739_39 (mUp_no e5536 (mUp_no e5481 e4900 (Or.inr (by decide))) (Or.inr (by decide))) (wk_putfi81 r91_194 fd_739_2 (wk_nw g_739_2 rfl hP5534 hF5535 (uf_739_2 ⟨by omega, by omega⟩) ?_))))
                          intro M5537 hP5538 hF5539 e5540
                          refine wk_al0 r91_197 (wk_al0 r91_198 (wk_getfi r91_199 fd_739_42 (mUp_no e5540 (mUp_no e5536 (mUp_no e5481 e5254 (Or.inr (by decide))) (Or.inr (by decide))) (Or.inr (by decide))) ?_))
                          have h5541 : 0 ≤ v5253 ∧ v5253 ≤ 127 := by have q := hLP (by omega); have := hlr; omega
                          refine wk_putfi81 r91_202 fd_739_3 (wk_nw g_739_3 rfl hP5538 hF5539 (uf_739_3 ⟨by omega, by omega⟩) ?_)
                          intro M5542 hP5543 hF5544 e5545
                          refine wk_al0 r91_205 (wk_al0 r91_206 (wk_getfi r91_207 fd_739_44 (mUp_no e5545 (mUp_no e5540 (mUp_no e5536 (mUp_no e5481 e4908 (Or.inr (by decide))) (Or.inr (by decide))) (Or.inr (by decide))) (Or.inr (by decide))) (wk_putfi81 r91_210 fd_739_4 (wk_nw g_739_4 rfl hP5543 hF5544 (uf_739_4 ⟨by omega, by omega⟩) ?_))))
                          intro M5546 hP5547 hF5548 e5549
                          refine wk_c1 r91_213 (wk_is2 r91_214 rfl ?_)
                          have c215_5671 : ∀ (k5671 : Nat) (M5553 : Mm) (v5550 : Int), (7 - v5550).toNat = k5671 → Pw M5553 → Fr fm_m9091_739 M0 M5553 → M5553 739 45 = v4893 → M5553 739 39 = v4897 → M5553 739 40 = v4901 → M5553 739 44 = v4905 → M5553 739 31 = v4909 → M5553 739 33 = v4913 → M5553 739 34 = v4917 → M5553 739 32 = v4921 → M5553 739 28 = v4925 → M5553 739 27 = v17 → M5553 739 30 = v26 → M5553 739 38 = v3928 → M5553 739 42 = v5253 → M5553 739 41 = 7 → M5553 739 43 = v5506 → M5553 739 1 = v3928 → M5553 739 2 = v4897 → M5553 739 3 = v5253 → M5553 739 4 = v4905 → 0 ≤ v5550 → v5550 ≤ 7 → (∀ k, M5553 757 k = u5529 k) → (∀ k, M5553 756 k = u5531 k) → (TK M5553) → (FP M5553) → (WS M5553) → (QW M5553) → (MRP M5553) → (LRP M5553) → 0 ≤ 1 * v26 + (-1) * v4909 → 0 ≤ 1 * v4909 + (-1) * v4913 + (-1) * v4917 → 0 ≤ (-1) * v4909 + 1 * v4913 + 1 * v4917 → 0 ≤ 4 * v4917 + (-1) * v4921 → 0 ≤ 1 * v4913 + (-2) * v4893 + 3000 * v4925 + 2 → 0 ≤ (-1) * v4893 + 262 → 0 ≤ (-1) * v4905 + 1 * v4913 + 3000 * v4925 → 0 ≤ (-1) * v4905 + 502 → 0 ≤ (-1) * v4897 + 4 + 3000 * v4925 → 0 ≤ 1 * v4897 + (-1) + 3000 * v4925 → 0 ≤ (-1) * v4901 + 6 + 3000 * v4925 → 0 ≤ (-1) * v3928 + 7 + 3000 * v4925 → (∀ k : Int, 0 ≤ k → k < v5550 → M5553 740 k = u5531 k) → Wp B (d + 8) 91 215 [some (R 739), none, some (I v5550)] [] M5553 Q := by
                            refine lp_ind ?_
                            intro k5671 ih5671 M5553 v5550 hk5671 hP5554 hF5555 e5558 e5559 e5560 e5561 e5562 e5563 e5564 e5565 e5566 e5567 e5568 e5569 e5570 e5571 e5572 e5573 e5574 e5575 e5576 h5551 h5552 hu5556 hu5557 pr5577 pr5578 pr5579 pr5580 pr5581 pr5582 h5583 h5584 h5585 h5586 h5587 h5588 h5589 h5590 h5591 h5592 h5593 h5594 ti5595
                            refine wk_il2 r91_215 (wk_c2 r91_216 ?_)
                            refine wk_icge r91_218 ⟨by omega, by omega⟩ (by decide) ?_ ?_
                            · intro h5596
                              obtain ⟨Mb, hMb⟩ : ∃ m : Mm, m = M5553 := ⟨_, rfl⟩
                              have hA6 : ∀ k : Int, 0 ≤ k → k < 7 → Mb 740 k = u5531 k := fun k a b => by rw [hMb]; exact ti5595 k a (by omega)
                              refine wk_c1 r91_239 (wk_is2 r91_240 rfl ?_)
                              have c241_5661 : ∀ (k5661 : Nat) (M5600 : Mm) (v5597 : Int), (251 - v5597).toNat = k5661 → Pw M5600 → Fr fm_m9091_739 M0 M5600 → M5600 739 45 = v4893 → M5600 739 39 = v4897 → M5600 739 40 = v4901 → M5600 739 44 = v4905 → M5600 739 31 = v4909 → M5600 739 33 = v4913 → M5600 739 34 = v4917 → M5600 739 32 = v4921 → M5600 739 28 = v4925 → M5600 739 27 = v17 → M5600 739 30 = v26 → M5600 739 38 = v3928 → M5600 739 42 = v5253 → M5600 739 41 = 7 → M5600 739 43 = v5506 → M5600 739 1 = v3928 → M5600 739 2 = v4897 → M5600 739 3 = v5253 → M5600 739 4 = v4905 → 0 ≤ v5597 → v5597 ≤ 251 → (∀ k, M5600 757 k = u5529 k) → (∀ k, M5600 756 k = u5531 k) → (TK M5600) → (FP M5600) → (WS M5600) → (QW M5600) → (MRP M5600) → (LRP M5600) → 0 ≤ 1 * v26 + (-1) * v4909 → 0 ≤ 1 * v4909 + (-1) * v4913 + (-1) * v4917 → 0 ≤ (-1) * v4909 + 1 * v4913 + 1 * v4917 → 0 ≤ 4 * v4917 + (-1) * v4921 → 0 ≤ 1 * v4913 + (-2) * v4893 + 3000 * v4925 + 2 → 0 ≤ (-1) * v4893 + 262 → 0 ≤ (-1) * v4905 + 1 * v4913 + 3000 * v4925 → 0 ≤ (-1) * v4905 + 502 → 0 ≤ (-1) * v4897 + 4 + 3000 * v4925 → 0 ≤ 1 * v4897 + (-1) + 3000 * v4925 → 0 ≤ (-1) * v4901 + 6 + 3000 * v4925 → 0 ≤ (-1) * v3928 + 7 + 3000 * v4925 → (∀ k : Int, 0 ≤ k → k < v5597 → M5600 741 (0 + k) = u5529 k) → (∀ k : Int, M5600 740 k = Mb 740 k) → Wp B (d + 8) 91 241 [some (R 739), none, some (I v5597)] [] M5600 Q := by
                                refine lp_ind ?_
                                intro k5661 ih5661 M5600 v5597 hk5661 hP5601 hF5602 e5605 e5606 e5607 e5608 e5609 e5610 e5611 e5612 e5613 e5614 e5615 e5616 e5617 e5618 e5619 e5620 e5621 e5622 e5623 h5598 h5599 hu5603 hu5604 pr5624 pr5625 pr5626 pr5627 pr5628 pr5629 h5630 h5631 h5632 h5633 h5634 h5635 h5636 h5637 h5638 h5639 h5640 h5641 ti5642 ti5643
                                refine wk_il2 r91_241 (wk_al0 r91_242 (wk_getfi r91_243 fd_739_45 e5605 ?_))
                                refine wk_icge r91_246 ⟨by omega, by omega⟩ ⟨by omega, by omega⟩ ?_ ?_
                                · intro h5644
                                  have pr5645 : FFP M5600 v4893 := FFP_mk hFD e5623 (fun k a b => ti5642 k a (by omega)) (by omega)
                                  have hA7 : ∀ k : Int, 0 ≤ k → k < 7 → M5600 740 k = u5531 k := fun k a b => (ti5643 k).trans (hA6 k a b)
                                  refine wk_al0 r91_267 (wk_cv1 r91_268 kc_739_108 rfl (m9108_739 _ M5600 v3928 v4897 7 v5506 v4901 v4893 (v4897 * 7 * v5506) hP5601 e5620 (by omega) (by omega) e5621 (by omega) (by omega) e5618 (by omega) (by omega) e5619 (by omega) (by omega) e5607 (by omega) (by omega) (by first | assumption | omega | (unfold stepok; omega)) (rfl) (isl_sz hsz hu6 hA7 (by omega)) (fun k a b => by rw [hA7 k a b, ← hu6 k]; exact hMR k a b) pr5645) (cqV ?_))
                                  rintro M5646 ⟨hP5647, hQ5648, pr5650, pr5651⟩
                                  have hF5649 : Fr fm_m9091_739 M0 M5646 := hF5602.tr hQ5648 rfl
                                  refine wk_c1 r91_271 ?_
                                  subst hQ; exact wk_iret r91_272 (⟨rfl, _, rfl, hP5647, hF5649, by omega, by omega, by have := ((hQ5648.at g_739_27 rfl).trans e5614); omega, pr5650, pr5651⟩)
                                · intro h5652
                                  refine wk_al0 r91_249 (wk_getfr r91_250 fd_739_6 (br_739_6 hP5601) (wk_il2 r91_253 (wk_al0 r91_254 (wk_getfr r91_255 fd_739_49 (br_739_49 hP5601) (wk_il2 r91_258 (wk_ialdb r91_259 ar_757 ⟨by omega, by omega⟩ (fun q0 q1 => ba_757 hP5601 q0 q1) ?_))))))
                                  intro v5653 h5655 h5656 e5654
                                  refine wk_iast r91_260 ar_741 ⟨by omega, by omega⟩ (wk_nw (ga_741 _) rfl hP5601 hF5602 (uaR_741 (by rw [← e5654, hu5603]; exact FD_ok _ _ _ hFD.2 _ (by omega) (by omega))) ?_)
                                  intro M5657 hP5658 hF5659 e5660
                                  refine wk_inc2 r91_261 rfl (wk_goto r91_264 ?_)
                                  exact wp_fg (le_s (le_s (le_s le_0))) (ih5661 (251 - (v5597 + 1)).toNat (by omega) M5657 (v5597 + 1) rfl hP5658 hF5659 (mUp_no e5660 e5605 (Or.inl (by decide))) (mUp_no e5660 e5606 (Or.inl (by decide))) (mUp_no e5660 e5607 (Or.inl (by decide))) (mUp_no e5660 e5608 (Or.inl (by decide))) (mUp_no e5660 e5609 (Or.inl (by decide))) (mUp_no e5660 e5610 (Or.inl (by decide))) (mUp_no e5660 e5611 (Or.inl (by decide))) (mUp_no e5660 e5612 (Or.inl (by decide))) (mUp_no e5660 e5613 (Or.inl (by decide))) (mUp_no e5660 e5614 (Or.inl (by decide))) (mUp_no e5660 e5615 (Or.inl (by decide))) (mUp_no e5660 e5616 (Or.inl (by decide))) (mUp_no e5660 e5617 (Or.inl (by decide))) (mUp_no e5660 e5618 (Or.inl (by decide))) (mUp_no e5660 e5619 (Or.inl (by decide))) (mUp_no e5660 e5620 (Or.inl (by decide))) (mUp_no e5660 e5621 (Or.inl (by decide))) (mUp_no e5660 e5622 (Or.inl (by decide))) (mUp_no e5660 e5623 (Or.inl (by decide))) (by omega) (by omega) (fun k => mUp_no e5660 (hu5603 k) (Or.inl (by decide))) (fun k => mUp_no e5660 (hu5604 k) (Or.inl (by decide))) (TK_sm (Sm.up e5660 (ga_741 _) rfl) pr5624) (FP_sm (Sm.up e5660 (ga_741 _) rfl) pr5625) (WS_sm (Sm.up e5660 (ga_741 _) rfl) pr5626) (QW_sm (Sm.up e5660 (ga_741 _) rfl) pr5627) (MRP_sm (Sm.up e5660 (ga_741 _) rfl) pr5628) (LRP_sm (Sm.up e5660 (ga_741 _) rfl) pr5629) (by omega) (by omega) (by omega) (by omega) (by omega) (by omega) (by omega) (by omega) (by omega) (by omega) (by omega) (by omega) (cp_step (S := 0) (e0z e5660) ti5642 e5654 hu5603) (fun k => by rw [e5660, mUp_ne (Or.inl (by decide))]; exact ti5643 k))
                              exact wp_fg (le_s (le_s (le_s le_0))) (c241_5661 _ M5553 0 rfl hP5554 hF5555 e5558 e5559 e5560 e5561 e5562 e5563 e5564 e5565 e5566 e5567 e5568 e5569 e5570 e5571 e5572 e5573 e5574 e5575 e5576 (by omega) (by omega) hu5556 hu5557 pr5577 pr5578 pr5579 pr5580 pr5581 pr5582 (by omega) (by omega) (by omega) (by omega) (by omega) (by omega) (by omega) (by omega) (by omega) (by omega) (by omega) (by omega) (fun k a b => by omega) (fun k => by rw [hMb]))
                            · intro h5662
                              refine wk_al0 r91_221 (wk_getfr r91_222 fd_739_5 (br_739_5 hP5554) (wk_il2 r91_225 (wk_al0 r91_226 (wk_getfr r91_227 fd_739_48 (br_739_48 hP5554) (wk_il2 r91_230 (wk_ialdb r91_231 ar_756 ⟨by omega, by omega⟩ (fun q0 q1 => ba_756 hP5554 q0 q1) ?_))))))
                              intro v5663 h5665 h5666 e5664
                              refine wk_iast r91_232 ar_740 ⟨by omega, by omega⟩ (wk_nw (ga_740 _) rfl hP5554 hF5555 (ua_740 ⟨by omega, by omega⟩) ?_)
                              intro M5667 hP5668 hF5669 e5670
                              refine wk_inc2 r91_233 rfl (wk_goto r91_236 ?_)
                              exact wp_fg (le_s (le_s (le_s le_0))) (ih5671 (7 - (v5550 + 1)).toNat (by omega) M5667 (v5550 + 1) rfl hP5668 hF5669 (mUp_no e5670 e5558 (Or.inl (by decide))) (mUp_no e5670 e5559 (Or.inl (by decide))) (mUp_no e5670 e5560 (Or.inl (by decide))) (mUp_no e5670 e5561 (Or.inl (by decide))) (mUp_no e5670 e5562 (Or.inl (by decide))) (mUp_no e5670 e5563 (Or.inl (by decide))) (mUp_no e5670 e5564 (Or.inl (by decide))) (mUp_no e5670 e5565 (Or.inl (by decide))) (mUp_no e5670 e5566 (Or.inl (by decide))) (mUp_no e5670 e5567 (Or.inl (by decide))) (mUp_no e5670 e5568 (Or.inl (by decide))) (mUp_no e5670 e5569 (Or.inl (by decide))) (mUp_no e5670 e5570 (Or.inl (by decide))) (mUp_no e5670 e5571 (Or.inl (by decide))) (mUp_no e5670 e5572 (Or.inl (by decide))) (mUp_no e5670 e5573 (Or.inl (by decide))) (mUp_no e5670 e5574 (Or.inl (by decide))) (mUp_no e5670 e5575 (Or.inl (by decide))) (mUp_no e5670 e5576 (Or.inl (by decide))) (by omega) (by omega) (fun k => mUp_no e5670 (hu5556 k) (Or.inl (by decide))) (fun k => mUp_no e5670 (hu5557 k) (Or.inl (by decide))) (TK_sm (Sm.up e5670 (ga_740 _) rfl) pr5577) (FP_sm (Sm.up e5670 (ga_740 _) rfl) pr5578) (WS_sm (Sm.up e5670 (ga_740 _) rfl) pr5579) (QW_sm (Sm.up e5670 (ga_740 _) rfl) pr5580) (MRP_sm (Sm.up e5670 (ga_740 _) rfl) pr5581) (LRP_sm (Sm.up e5670 (ga_740 _) rfl) pr5582) (by omega) (by omega) (by omega) (by omega) (by omega) (by omega) (by omega) (by omega) (by omega) (by omega) (by omega) (by omega) (fun k a b => by rw [e5670]; (by_cases q : k = v5550); (rw [q, mUp_eq, ← e5664, hu5557]); (rw [mUp_ne (Or.inr q)]; exact ti5595 k a (by omega))))
                          exact wp_fg (le_s (le_s (le_s le_0))) (c215_5671 _ M5546 0 rfl hP5547 hF5548 (mUp_no e5549 (mUp_no e5545 (mUp_no e5540 (mUp_no e5536 (mUp_no e5481 e4896 (Or.inr (by decide))) (Or.inr (by decide))) (Or.inr (by decide))) (Or.inr (by decide))) (Or.inr (by decide))) (mUp_no e5549 (mUp_no e5545 (mUp_no e5540 (mUp_no e5536 (mUp_no e5481 e4900 (Or.inr (by decide))) (Or.inr (by decide))) (Or.inr (by decide))) (Or.inr (by decide))) (Or.inr (by decide))) (mUp_no e5549 (mUp_no e5545 (mUp_no e5540 (mUp_no e5536 (mUp_no e5481 e4904 (Or.inr (by decide))) (Or.inr (by decide))) (Or.inr (by decide))) (Or.inr (by decide))) (Or.inr (by decide))) (mUp_no e5549 (mUp_no e5545 (mUp_no e5540 (mUp_no e5536 (mUp_no e5481 e4908 (Or.inr (by decide))) (Or.inr (by decide))) (Or.inr (by decide))) (Or.inr (by decide))) (Or.inr (by decide))) (mUp_no e5549 (mUp_no e5545 (mUp_no e5540 (mUp_no e5536 (mUp_no e5481 e4912 (Or.inr (by decide))) (Or.inr (by decide))) (Or.inr (by decide))) (Or.inr (by decide))) (Or.inr (by decide))) (mUp_no e5549 (mUp_no e5545 (mUp_no e5540 (mUp_no e5536 (mUp_no e5481 e4916 (Or.inr (by decide))) (Or.inr (by decide))) (Or.inr (by decide))) (Or.inr (by decide))) (Or.inr (by decide))) (mUp_no e5549 (mUp_no e5545 (mUp_no e5540 (mUp_no e5536 (mUp_no e5481 e4920 (Or.inr (by decide))) (Or.inr (by decide))) (Or.inr (by decide))) (Or.inr (by decide))) (Or.inr (by decide))) (mUp_no e5549 (mUp_no e5545 (mUp_no e5540 (mUp_no e5536 (mUp_no e5481 e4924 (Or.inr (by decide))) (Or.inr (by decide))) (Or.inr (by decide))) (Or.inr (by decide))) (Or.inr (by decide))) (mUp_no e5549 (mUp_no e5545 (mUp_no e5540 (mUp_no e5536 (mUp_no e5481 e4928 (Or.inr (by decide))) (Or.inr (by decide))) (Or.inr (by decide))) (Or.inr (by decide))) (Or.inr (by decide))) (mUp_no e5549 (mUp_no e5545 (mUp_no e5540 (mUp_no e5536 (mUp_no e5481 e4929 (Or.inr (by decide))) (Or.inr (by decide))) (Or.inr (by decide))) (Or.inr (by decide))) (Or.inr (by decide))) (mUp_no e5549 (mUp_no e5545 (mUp_no e5540 (mUp_no e5536 (mUp_no e5481 e4930 (Or.inr (by decide))) (Or.inr (by decide))) (Or.inr (by decide))) (Or.inr (by decide))) (Or.inr (by decide))) (mUp_no e5549 (mUp_no e5545 (mUp_no e5540 (mUp_no e5536 (mUp_no e5481 e4931 (Or.inr (by decide))) (Or.inr (by decide))) (Or.inr (by decide))) (Or.inr (by decide))) (Or.inr (by decide))) (mUp_no e5549 (mUp_no e5545 (mUp_no e5540 (mUp_no e5536 (mUp_no e5481 e5254 (Or.inr (by decide))) (Or.inr (by decide))) (Or.inr (by decide))) (Or.inr (by decide))) (Or.inr (by decide))) (mUp_no e5549 (mUp_no e5545 (mUp_no e5540 (mUp_no e5536 (mUp_at e5481) (Or.inr (by decide))) (Or.inr (by decide))) (Or.inr (by decide))) (Or.inr (by decide))) (mUp_no e5549 (mUp_no e5545 (mUp_no e5540 (mUp_no e5536 e5507 (Or.inr (by decide))) (Or.inr (by decide))) (Or.inr (by decide))) (Or.inr (by decide))) (mUp_no e5549 (mUp_no e5545 (mUp_no e5540 (mUp_at e5536) (Or.inr (by decide))) (Or.inr (by decide))) (Or.inr (by decide))) (mUp_no e5549 (mUp_no e5545 (mUp_at e5540) (Or.inr (by decide))) (Or.inr (by decide))) (mUp_no e5549 (mUp_at e5545) (Or.inr (by decide))) (mUp_at e5549) (by omega) (by omega) (fun k => mUp_no e5549 ((fun k => mUp_no e5545 ((fun k => mUp_no e5540 ((fun k => mUp_no e5536 (hu5530 k) (Or.inl (by decide))) k) (Or.inl (by decide))) k) (Or.inl (by decide))) k) (Or.inl (by decide))) (fun k => mUp_no e5549 ((fun k => mUp_no e5545 ((fun k => mUp_no e5540 ((fun k => mUp_no e5536 (hu5532 k) (Or.inl (by decide))) k) (Or.inl (by decide))) k) (Or.inl (by decide))) k) (Or.inl (by decide))) (TK_sm (Sm.up e5549 g_739_4 rfl) (TK_sm (Sm.up e5545 g_739_3 rfl) (TK_sm (Sm.up e5540 g_739_2 rfl) (TK_sm (Sm.up e5536 g_739_1 rfl) (TK_sm (Sm.up e5481 g_739_41 rfl) pr4932))))) (FP_sm (Sm.up e5549 g_739_4 rfl) (FP_sm (Sm.up e5545 g_739_3 rfl) (FP_sm (Sm.up e5540 g_739_2 rfl) (FP_sm (Sm.up e5536 g_739_1 rfl) (FP_sm (Sm.up e5481 g_739_41 rfl) pr4933))))) (WS_sm (Sm.up e5549 g_739_4 rfl) (WS_sm (Sm.up e5545 g_739_3 rfl) (WS_sm (Sm.up e5540 g_739_2 rfl) (WS_sm (Sm.up e5536 g_739_1 rfl) (WS_sm (Sm.up e5481 g_739_41 rfl) pr4934))))) (QW_sm (Sm.up e5549 g_739_4 rfl) (QW_sm (Sm.up e5545 g_739_3 rfl) (QW_sm (Sm.up e5540 g_739_2 rfl) (QW_sm (Sm.up e5536 g_739_1 rfl) (QW_sm (Sm.up e5481 g_739_41 rfl) pr4935))))) (MRP_sm (Sm.up e5549 g_739_4 rfl) (MRP_sm (Sm.up e5545 g_739_3 rfl) (MRP_sm (Sm.up e5540 g_739_2 rfl) (MRP_sm (Sm.up e5536 g_739_1 rfl) (MRP_sm (Sm.up e5481 g_739_41 rfl) pr4936))))) (LRP_sm (Sm.up e5549 g_739_4 rfl) (LRP_sm (Sm.up e5545 g_739_3 rfl) (LRP_sm (Sm.up e5540 g_739_2 rfl) (LRP_sm (Sm.up e5536 g_739_1 rfl) (LRP_sm (Sm.up e5481 g_739_41 rfl) pr4937))))) (by omega) (by omega) (by omega) (by omega) (by omega) (by omega) (by omega) (by omega) (by omega) (by omega) (by omega) (by omega) (fun k a b => by omega))
                        · intro h5672
                          exfalso
                          omega
                      · intro h5673
                        refine wk_al0 r91_163 (wk_c2 r91_164 (wk_cv2 r91_166 kc_739_137 rfl (m9137_739 _ M5478 6 v4925 v4913 hP5479 (by decide) (by decide) (mUp_no e5481 e4928 (Or.inr (by decide))) (by omega) (by omega) (mUp_no e5481 e4916 (Or.inr (by decide))) (by omega) (by omega)) (cqV ?_)))
                        rintro M5674 ⟨hP5675, hQ5676, h5678, h5679⟩
                        have hF5677 : Fr fm_m9091_739 M0 M5674 := hF5480.tr hQ5676 rfl
                        obtain ⟨v5680, e5681⟩ : ∃ v, M5674 739 28 = v := ⟨_, rfl⟩
                        have h5682 := bf_739_28 hP5675; rw [e5681] at h5682
                        have pr5683 : FP M5674 := FP_mn (Sm.fr hQ5676 rfl) (fun q => by have := (mUp_no e5481 e4928 (Or.inr (by decide))); have := e5681; omega) (FP_sm (Sm.up e5481 g_739_41 rfl) pr4933)
                        have pr5684 : LRP M5674 := LRP_mn (Sm.fr hQ5676 rfl) (fun q => by have := (mUp_no e5481 e4928 (Or.inr (by decide))); have := e5681; omega) (LRP_sm (Sm.up e5481 g_739_41 rfl) pr4937)
                        refine wk_al0 r91_169 (wk_cv1 r91_170 kc_739_84 rfl (m9084_739 _ M5674 v5680 hP5675 e5681 (by omega) (by omega)) (cqI ?_))
                        rintro v5691 M5685 ⟨hP5686, hQ5687, h5692, h5693, h5689, h5690⟩
                        obtain rfl := Fr.same hQ5687
                        have e5694 := e5681
                        refine wk_ifne r91_173 ⟨by omega, by omega⟩ ?_ ?_
                        · intro h5695
                          exfalso
                          omega
                        · intro h5696
                          refine wk_al0 r91_176 (wk_getfi r91_177 fd_739_28 e5681 ?_)
                          subst hQ; exact wk_iret r91_180 (⟨rfl, _, rfl, hP5675, hF5677, by omega, by omega, by have := ((hQ5676.at g_739_27 rfl).trans (mUp_no e5481 e4929 (Or.inr (by decide)))); omega, (WS_sm (Sm.fr hQ5676 rfl) (WS_sm (Sm.up e5481 g_739_41 rfl) pr4934)), (QW_sm (Sm.fr hQ5676 rfl) (QW_sm (Sm.up e5481 g_739_41 rfl) pr4935))⟩)
              refine wk_ifeq r91_104 ⟨by omega, by omega⟩ ?_ ?_
              · intro h4960
                exact wp_fg (le_s (le_s (le_s le_0))) c121_5697
              · intro h4961
                refine wk_al0 r91_107 (wk_getfi r91_108 fd_739_32 e4924 ?_)
                refine wk_ifeq r91_111 ⟨by omega, by omega⟩ ?_ ?_
                · intro h4962
                  exact wp_fg (le_s (le_s (le_s le_0))) c121_5697
                · intro h4963
                  refine wk_al0 r91_114 ?_
                  obtain ⟨v4964, e4965⟩ : ∃ v, M4890 739 46 = v := ⟨_, rfl⟩
                  have h4966 := bf_739_46 hP4891; rw [e4965] at h4966
                  obtain ⟨v4967, e4968⟩ : ∃ v, M4890 739 47 = v := ⟨_, rfl⟩
                  have h4969 := bf_739_47 hP4891; rw [e4968] at h4969
                  obtain ⟨v4970, e4971⟩ : ∃ v, M4890 739 36 = v := ⟨_, rfl⟩
                  have h4972 := bf_739_36 hP4891; rw [e4971] at h4972
                  obtain ⟨v4973, e4974⟩ : ∃ v, M4890 739 51 = v := ⟨_, rfl⟩
                  have h4975 := bf_739_51 hP4891; rw [e4974] at h4975
                  obtain ⟨v4976, e4977⟩ : ∃ v, M4890 739 35 = v := ⟨_, rfl⟩
                  have h4978 := bf_739_35 hP4891; rw [e4977] at h4978
                  refine wk_cv1 r91_115 kc_739_58 rfl (m9058_739 _ M4890 v26 v4909 v4913 v4917 v4921 v4925 v4893 v4964 v4967 v3928 v4970 v4973 v4976 v4905 v4897 v4901 hP4891 e4930 (by omega) (by omega) e4912 (by omega) (by omega) e4916 (by omega) (by omega) e4920 (by omega) (by omega) e4924 (by omega) (by omega) e4928 (by omega) (by omega) e4896 (by omega) (by omega) e4965 (by omega) (by omega) e4968 (by omega) (by omega) e4931 (by omega) (by omega) e4971 (by omega) (by omega) e4974 (by omega) (by omega) e4977 (by omega) (by omega) e4908 (by omega) (by omega) e4900 (by omega) (by omega) e4904 (by omega) (by omega) (by omega) (by omega) (by omega) (by omega) (by omega) (by omega) (by omega) (by omega) (by omega) (by omega) (by omega) pr4932 pr4933 pr4936 pr4937) (cqV ?_)
                  rintro M4979 ⟨hP4980, hQ4981, h4983, h4984, h4985, h4986, h4987, h4988, h4989, h4990, h4991, h4992, h4993, h4994, h4995, h4996, pr4997, pr4998, pr4999, pr5000⟩
                  have hF4982 : Fr fm_m9091_739 M0 M4979 := hF4892.tr hQ4981 rfl
                  have e5001 := ((hQ4981.at g_739_30 rfl).trans e4930)
                  obtain ⟨v5002, e5003⟩ : ∃ v, M4979 739 31 = v := ⟨_, rfl⟩
                  have h5004 := bf_739_31 hP4980; rw [e5003] at h5004
                  obtain ⟨v5005, e5006⟩ : ∃ v, M4979 739 33 = v := ⟨_, rfl⟩
                  have h5007 := bf_739_33 hP4980; rw [e5006] at h5007
                  obtain ⟨v5008, e5009⟩ : ∃ v, M4979 739 34 = v := ⟨_, rfl⟩
                  have h5010 := bf_739_34 hP4980; rw [e5009] at h5010
                  obtain ⟨v5011, e5012⟩ : ∃ v, M4979 739 32 = v := ⟨_, rfl⟩
                  have h5013 := bf_739_32 hP4980; rw [e5012] at h5013
                  obtain ⟨v5014, e5015⟩ : ∃ v, M4979 739 28 = v := ⟨_, rfl⟩
                  have h5016 := bf_739_28 hP4980; rw [e5015] at h5016
                  obtain ⟨v5017, e5018⟩ : ∃ v, M4979 739 45 = v := ⟨_, rfl⟩
                  have h5019 := bf_739_45 hP4980; rw [e5018] at h5019
                  obtain ⟨v5020, e5021⟩ : ∃ v, M4979 739 44 = v := ⟨_, rfl⟩
                  have h5022 := bf_739_44 hP4980; rw [e5021] at h5022
                  obtain ⟨v5023, e5024⟩ : ∃ v, M4979 739 39 = v := ⟨_, rfl⟩
                  have h5025 := bf_739_39 hP4980; rw [e5024] at h5025
                  obtain ⟨v5026, e5027⟩ : ∃ v, M4979 739 40 = v := ⟨_, rfl⟩
                  have h5028 := bf_739_40 hP4980; rw [e5027] at h5028
                  refine wk_goto r91_118 ?_
                  exact wp_fg (le_s (le_s (le_s le_0))) (ih5698 (10 * (501 - v5005) + (6 - v5014)).toNat (by omega) M4979 v5017 v5023 v5026 v5020 v5002 v5005 v5008 v5011 v5014 rfl hP4980 hF4982 e5018 e5024 e5027 e5021 e5003 e5006 e5009 e5012 e5015 ((hQ4981.at g_739_27 rfl).trans e4929) ((hQ4981.at g_739_30 rfl).trans e4930) ((hQ4981.at g_739_38 rfl).trans e4931) (by omega) (by omega) (by omega) (by omega) (by omega) (by omega) (by omega) (by omega) (by omega) (by omega) (by omega) (by omega) (by omega) (by omega) (by omega) (by omega) (by omega) (by omega) pr4997 pr4998 (WS_sm (Sm.fr hQ4981 rfl) pr4934) (QW_sm (Sm.fr hQ4981 rfl) pr4935) pr4999 pr5000 (by omega) (by omega) (by omega) (by omega) (by omega) (by omega) (by omega) (by omega) (by omega) (by omega) (by omega) (by omega))
            exact wp_fg (le_s (le_s (le_n le_0))) (c100_5698 _ M3997 v23 1 (-1) 0 v4010 v4013 v4016 v4019 v4022 rfl hP3998 hF4000 ((hQ3999.at g_739_45 rfl).trans e3960) ((hQ3999.at g_739_39 rfl).trans e3962) ((hQ3999.at g_739_40 rfl).trans e3963) ((hQ3999.at g_739_44 rfl).trans e3966) e4011 e4014 e4017 e4020 e4023 ((hQ3999.at g_739_27 rfl).trans e3959) ((hQ3999.at g_739_30 rfl).trans e3961) ((hQ3999.at g_739_38 rfl).trans e3967) (by omega) (by omega) (by omega) (by omega) (by omega) (by omega) (by omega) (by omega) (by omega) (by omega) (by omega) (by omega) (by omega) (by omega) (by omega) (by omega) (by omega) (by omega) pr4008 pr4029 (WS_sm (Sm.fr hQ3999 rfl) pr3980) (QW_sm (Sm.fr hQ3999 rfl) pr3981) (MRP_sm (Sm.fr hQ3999 rfl) pr3996) pr4031 (by omega) (by omega) (by omega) (by omega) (by omega) (by omega) (by omega) (by omega) (by omega) (by omega) (by omega) (by omega))
          · intro h5699
            refine wk_al0 r91_83 (wk_getfr r91_84 fd_739_48 (br_739_48 hP3957) (wk_il2 r91_87 (wk_c1 r91_88 (wk_iast r91_89 ar_756 ⟨by omega, by omega⟩ (wk_nw (ga_756 _) rfl hP3957 hF3958 (ua_756 (by decide)) ?_)))))
            intro M5700 hP5701 hF5702 e5703
            refine wk_inc2 r91_90 rfl (wk_goto r91_93 ?_)
            exact wp_fg (le_s (le_s (le_s le_0))) (ih5704 (7 - (v3953 + 1)).toNat (by omega) M5700 (v3953 + 1) rfl hP5701 hF5702 (mUp_no e5703 e3959 (Or.inl (by decide))) (mUp_no e5703 e3960 (Or.inl (by decide))) (mUp_no e5703 e3961 (Or.inl (by decide))) (mUp_no e5703 e3962 (Or.inl (by decide))) (mUp_no e5703 e3963 (Or.inl (by decide))) (mUp_no e5703 e3964 (Or.inl (by decide))) (mUp_no e5703 e3965 (Or.inl (by decide))) (mUp_no e5703 e3966 (Or.inl (by decide))) (mUp_no e5703 e3967 (Or.inl (by decide))) (mUp_no e5703 e3968 (Or.inl (by decide))) (mUp_no e5703 e3969 (Or.inl (by decide))) (mUp_no e5703 e3970 (Or.inl (by decide))) (mUp_no e5703 e3971 (Or.inl (by decide))) (mUp_no e5703 e3972 (Or.inl (by decide))) (by omega) (by omega) (TK_sm (Sm.up e5703 (ga_756 _) rfl) pr3973) (GE_sm (Sm.up e5703 (ga_756 _) rfl) pr3974) (GE_sm (Sm.up e5703 (ga_756 _) rfl) pr3975) (GE_sm (Sm.up e5703 (ga_756 _) rfl) pr3976) (GH_sm (Sm.up e5703 (ga_756 _) rfl) pr3977) (FP_sm (Sm.up e5703 (ga_756 _) rfl) pr3978) (SGP_sm (Sm.up e5703 (ga_756 _) rfl) pr3979) (WS_sm (Sm.up e5703 (ga_756 _) rfl) pr3980) (QW_sm (Sm.up e5703 (ga_756 _) rfl) pr3981) (LRP_sm (Sm.up e5703 (ga_756 _) rfl) pr3982) (by omega) (by omega) (by omega) (by omega) (by omega) (by omega) (by omega) (by omega) (by omega) (by omega) (by omega) (fun k a b => by rw [e5703]; (by_cases q : k = v3953); (rw [q, mUp_eq]); (rw [mUp_ne (Or.inr q)]; exact ti3994 k a (by omega))))
        exact wp_fg (le_s (le_n (le_s le_0))) (c77_5704 _ M3949 0 rfl hP3950 hF3951 (mUp_no e3952 ((hQ3916.at g_739_27 rfl).trans ((hQ3891.at g_739_27 rfl).trans (mUp_no e66 (mUp_no e62 (mUp_no e58 (mUp_no e54 (mUp_no e50 (mUp_no e46 e18 (Or.inr (by decide))) (Or.inr (by decide))) (Or.inr (by decide))) (Or.inr (by decide))) (Or.inr (by decide))) (Or.inr (by decide))))) (Or.inr (by decide))) (mUp_no e3952 ((hQ3916.at g_739_45 rfl).trans ((hQ3891.at g_739_45 rfl).trans (mUp_no e66 (mUp_no e62 (mUp_no e58 (mUp_no e54 (mUp_no e50 (mUp_no e46 e24 (Or.inr (by decide))) (Or.inr (by decide))) (Or.inr (by decide))) (Or.inr (by decide))) (Or.inr (by decide))) (Or.inr (by decide))))) (Or.inr (by decide))) (mUp_no e3952 ((hQ3916.at g_739_30 rfl).trans ((hQ3891.at g_739_30 rfl).trans (mUp_no e66 (mUp_no e62 (mUp_no e58 (mUp_no e54 (mUp_no e50 (mUp_no e46 e27 (Or.inr (by decide))) (Or.inr (by decide))) (Or.inr (by decide))) (Or.inr (by decide))) (Or.inr (by decide))) (Or.inr (by decide))))) (Or.inr (by decide))) (mUp_no e3952 ((hQ3916.at g_739_39 rfl).trans ((hQ3891.at g_739_39 rfl).trans (mUp_no e66 (mUp_no e62 (mUp_no e58 (mUp_no e54 (mUp_no e50 (mUp_at e46) (Or.inr (by decide))) (Or.inr (by decide))) (Or.inr (by decide))) (Or.inr (by decide))) (Or.inr (by decide))))) (Or.inr (by decide))) (mUp_no e3952 ((hQ3916.at g_739_40 rfl).trans ((hQ3891.at g_739_40 rfl).trans (mUp_no e66 (mUp_no e62 (mUp_no e58 (mUp_no e54 (mUp_at e50) (Or.inr (by decide))) (Or.inr (by decide))) (Or.inr (by decide))) (Or.inr (by decide))))) (Or.inr (by decide))) (mUp_no e3952 ((hQ3916.at g_739_42 rfl).trans ((hQ3891.at g_739_42 rfl).trans (mUp_no e66 (mUp_no e62 (mUp_no e58 (mUp_at e54) (Or.inr (by decide))) (Or.inr (by decide))) (Or.inr (by decide))))) (Or.inr (by decide))) (mUp_no e3952 ((hQ3916.at g_739_43 rfl).trans ((hQ3891.at g_739_43 rfl).trans (mUp_no e66 (mUp_no e62 (mUp_at e58) (Or.inr (by decide))) (Or.inr (by decide))))) (Or.inr (by decide))) (mUp_no e3952 ((hQ3916.at g_739_44 rfl).trans ((hQ3891.at g_739_44 rfl).trans (mUp_no e66 (mUp_at e62) (Or.inr (by decide))))) (Or.inr (by decide))) (mUp_at e3952) (mUp_no e3952 e3933 (Or.inr (by decide))) (mUp_no e3952 e3936 (Or.inr (by decide))) (mUp_no e3952 e3939 (Or.inr (by decide))) (mUp_no e3952 e3942 (Or.inr (by decide))) (mUp_no e3952 e3945 (Or.inr (by decide))) (by omega) (by omega) (TK_sm (Sm.up e3952 g_739_38 rfl) pr3927) (GE_vac (mUp_no e3952 e3945 (Or.inr (by decide))) (by omega)) (GE_vac (mUp_no e3952 e3945 (Or.inr (by decide))) (by omega)) (GE_vac (mUp_no e3952 e3945 (Or.inr (by decide))) (by omega)) (GH_vac (mUp_no e3952 e3945 (Or.inr (by decide))) (by omega)) (FP_sm (Sm.up e3952 g_739_38 rfl) pr3947) (SGP_vac (mUp_no e3952 e3945 (Or.inr (by decide))) (by omega)) (WS_sm (Sm.up e3952 g_739_38 rfl) (WS_sm (Sm.fr hQ3916 rfl) (WS_sm (Sm.fr hQ3891 rfl) (WS_sm (Sm.up e66 g_739_38 rfl) (WS_sm (Sm.up e62 g_739_44 rfl) (WS_sm (Sm.up e58 g_739_43 rfl) (WS_sm (Sm.up e54 g_739_42 rfl) (WS_sm (Sm.up e50 g_739_40 rfl) (WS_sm (Sm.up e46 g_739_39 rfl) (WS_sm (Sm.fr hQ3 rfl) pp_WS)))))))))) (QW_sm (Sm.up e3952 g_739_38 rfl) (QW_sm (Sm.fr hQ3916 rfl) (QW_sm (Sm.fr hQ3891 rfl) (QW_sm (Sm.up e66 g_739_38 rfl) (QW_sm (Sm.up e62 g_739_44 rfl) (QW_sm (Sm.up e58 g_739_43 rfl) (QW_sm (Sm.up e54 g_739_42 rfl) (QW_sm (Sm.up e50 g_739_40 rfl) (QW_sm (Sm.up e46 g_739_39 rfl) (QW_sm (Sm.fr hQ3 rfl) pp_QW)))))))))) (LRP_sm (Sm.up e3952 g_739_38 rfl) pr3948) (by omega) (by omega) (by omega) (by omega) (by omega) (by omega) (by omega) (by omega) (by omega) (by omega) (by omega) (fun k a b => by omega))
      · intro h5705
        exfalso
        omega
  · intro h5706
    refine wk_c1 r91_8 ?_
    subst hQ; exact wk_iret r91_9 (⟨rfl, _, rfl, hP2, hF4, by omega, by omega, by have := e18; omega, (WS_sm (Sm.fr hQ3 rfl) pp_WS), (QW_sm (Sm.fr hQ3 rfl) pp_QW)⟩)
