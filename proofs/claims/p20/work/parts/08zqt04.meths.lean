/-! ===== written by program (wip/layer4) ===== -/
set_option maxHeartbeats 20000000 in
/-- IslandHallModel.island -/
theorem m8091_739 {B : eB} (d : Nat) (M0 : Mm) (p1 : Int) (x739_27 : Int) (x739_29 : Int) (x739_13 : Int) (x739_1 : Int) (x739_21 : Int) (T : Int → Int) (hP0 : Pw M0) (l1 : (-2147483648) ≤ p1) (u1 : p1 ≤ 2147483647) (ex739_27 : M0 739 27 = x739_27) (lx739_27 : 0 ≤ x739_27) (ux739_27 : x739_27 ≤ 500) (ex739_29 : M0 739 29 = x739_29) (lx739_29 : (-1) ≤ x739_29) (ux739_29 : x739_29 ≤ 501) (ex739_13 : M0 739 13 = x739_13) (lx739_13 : 0 ≤ x739_13) (ux739_13 : x739_13 ≤ 30) (ex739_1 : M0 739 1 = x739_1) (lx739_1 : 0 ≤ x739_1) (ux739_1 : x739_1 ≤ 7) (ex739_21 : M0 739 21 = x739_21) (lx739_21 : 0 ≤ x739_21) (ux739_21 : x739_21 ≤ 10) (xp0 : ∀ k : Int, 0 ≤ k → k < p1 → M0 755 k = T k) (pp_WS : WS M0) (pp_QW : QW M0) : Ct B (d + 9) 91 [R 739, I p1] M0 (qI fun z M => Pw M ∧ Fr fm_m8091_739 M0 M ∧ 0 ≤ z ∧ z ≤ 6 ∧ ((0 ≤ p1 ∧ p1 ≤ x739_27 ∧ M 739 27 = 0) ∨ ((p1 < 0 ∨ x739_27 < p1) ∧ M 739 27 = x739_27)) ∧ (INR T p1 x739_27 x739_1 x739_13 x739_21 x739_29 (M 739 0) z (M 739 1) (M 739 13) (M 739 21) (M 739 29)) ∧ (WS M) ∧ (QW M)) := by
  refine ct_of (d := d + 8) (k := 1) (L := [some (R 739), some (I p1), none]) rfl rfl rfl ?_
  have hF0 := Fr.rf fm_m8091_739 M0
  generalize hQ : (qI fun z M => Pw M ∧ Fr fm_m8091_739 M0 M ∧ 0 ≤ z ∧ z ≤ 6 ∧ ((0 ≤ p1 ∧ p1 ≤ x739_27 ∧ M 739 27 = 0) ∨ ((p1 < 0 ∨ x739_27 < p1) ∧ M 739 27 = x739_27)) ∧ (INR T p1 x739_27 x739_1 x739_13 x739_21 x739_29 (M 739 0) z (M 739 1) (M 739 13) (M 739 21) (M 739 29)) ∧ (WS M) ∧ (QW M)) = Q
  refine wk_al0 r91_0 (wk_il1 r91_1 (wk_cv2 r91_2 kc_739_50 rfl (m8050_739 _ M0 p1 x739_27 x739_29 T hP0 (by first | with_reducible assumption | omega) (by first | with_reducible assumption | omega) ex739_27 (by first | with_reducible assumption | omega) (by first | with_reducible assumption | omega) ex739_29 (by first | with_reducible assumption | omega) (by first | with_reducible assumption | omega) (xp0)) (cqI ?_)))
  rintro v17 M1 ⟨hP2, hQ3, h18, h19, h5, h6, h7, h8, h9, h10, h11, h12, h13, xh14, xh15, xh16⟩
  have hF4 : Fr fm_m8091_739 M0 M1 := hF0.tr hQ3 rfl
  obtain ⟨v20, e21⟩ : ∃ v, M1 739 27 = v := ⟨_, rfl⟩
  have h22 := (bf_739_27 hP2).1; rw [e21] at h22
  have h23 := (bf_739_27 hP2).2; rw [e21] at h23
  obtain ⟨v24, e25⟩ : ∃ v, M1 739 29 = v := ⟨_, rfl⟩
  have h26 := (bf_739_29 hP2).1; rw [e25] at h26
  have h27 := (bf_739_29 hP2).2; rw [e25] at h27
  obtain ⟨v28, e29⟩ : ∃ v, M1 739 0 = v := ⟨_, rfl⟩
  have h30 := (bf_739_0 hP2).1; rw [e29] at h30
  have h31 := (bf_739_0 hP2).2; rw [e29] at h31
  obtain ⟨v32, e33⟩ : ∃ v, M1 739 28 = v := ⟨_, rfl⟩
  have h34 := (bf_739_28 hP2).1; rw [e33] at h34
  have h35 := (bf_739_28 hP2).2; rw [e33] at h35
  obtain ⟨v36, e37⟩ : ∃ v, M1 739 45 = v := ⟨_, rfl⟩
  have h38 := (bf_739_45 hP2).1; rw [e37] at h38
  have h39 := (bf_739_45 hP2).2; rw [e37] at h39
  obtain ⟨v40, e41⟩ : ∃ v, M1 739 30 = v := ⟨_, rfl⟩
  have h42 := (bf_739_30 hP2).1; rw [e41] at h42
  have h43 := (bf_739_30 hP2).2; rw [e41] at h43
  obtain ⟨v44, e45⟩ : ∃ v, M1 739 31 = v := ⟨_, rfl⟩
  have h46 := (bf_739_31 hP2).1; rw [e45] at h46
  have h47 := (bf_739_31 hP2).2; rw [e45] at h47
  obtain ⟨v48, e49⟩ : ∃ v, M1 739 33 = v := ⟨_, rfl⟩
  have h50 := (bf_739_33 hP2).1; rw [e49] at h50
  have h51 := (bf_739_33 hP2).2; rw [e49] at h51
  obtain ⟨v52, e53⟩ : ∃ v, M1 739 34 = v := ⟨_, rfl⟩
  have h54 := (bf_739_34 hP2).1; rw [e53] at h54
  have h55 := (bf_739_34 hP2).2; rw [e53] at h55
  obtain ⟨v56, e57⟩ : ∃ v, M1 739 32 = v := ⟨_, rfl⟩
  have h58 := (bf_739_32 hP2).1; rw [e57] at h58
  have h59 := (bf_739_32 hP2).2; rw [e57] at h59
  refine wk_ifne r91_5 ⟨by omega, by omega⟩ ?_ ?_
  · intro h60
    replace h8 := h8 (z1_of h18 h19 h60)
    replace h9 := h9 (z1_of h18 h19 h60)
    replace h10 := h10 (z1_of h18 h19 h60)
    replace h11 := h11 (z1_of h18 h19 h60)
    replace h12 := h12 (z1_of h18 h19 h60)
    replace h13 := h13 (z1_of h18 h19 h60)
    have h61 := or_l xh16 (by omega)
    have pr63 : TXQ T M1 := h61.1
    have pr62 : TTP T M1 := h61.2.1
    have h64 := h61.2.2
    have he9 : v40 = p1 := by have := e41; omega
    have he0 : v48 = sk T p1 0 := by have := e49; omega
    obtain rfl : p1 = v40 := by omega
    have pr65 : TK M1 := xh15 (by omega)
    refine wk_al0 r91_10 (wk_c1 r91_11 (wk_putfi81 r91_12 fd_739_39 (wk_nw g_739_39 rfl hP2 hF4 (uf_739_39 (by decide)) ?_)))
    intro M66 hP67 hF68 e69
    refine wk_al0 r91_15 (wk_c1 r91_16 (wk_putfi81 r91_17 fd_739_40 (wk_nw g_739_40 rfl hP67 hF68 (uf_739_40 (by decide)) ?_)))
    intro M70 hP71 hF72 e73
    refine wk_al0 r91_20 (wk_c1 r91_21 (wk_putfi81 r91_22 fd_739_42 (wk_nw g_739_42 rfl hP71 hF72 (uf_739_42 (by decide)) ?_)))
    intro M74 hP75 hF76 e77
    refine wk_al0 r91_25 (wk_c1 r91_26 (wk_putfi81 r91_27 fd_739_43 (wk_nw g_739_43 rfl hP75 hF76 (uf_739_43 (by decide)) ?_)))
    intro M78 hP79 hF80 e81
    refine wk_al0 r91_30 (wk_c1 r91_31 (wk_putfi81 r91_32 fd_739_44 (wk_nw g_739_44 rfl hP79 hF80 (uf_739_44 (by decide)) ?_)))
    intro M82 hP83 hF84 e85
    refine wk_al0 r91_35 (wk_c1 r91_36 (wk_putfi81 r91_37 fd_739_38 (wk_nw g_739_38 rfl hP83 hF84 (uf_739_38 (by decide)) ?_)))
    intro M86 hP87 hF88 e89
    have pr90 : FP M86 := FP_0 (mUp_no e89 (mUp_at e85) (Or.inr (by decide))) ((mUp_no e89 (mUp_no e85 (mUp_no e81 (mUp_no e77 (mUp_no e73 (mUp_no e69 e37 (Or.inr (by decide))) (Or.inr (by decide))) (Or.inr (by decide))) (Or.inr (by decide))) (Or.inr (by decide))) (Or.inr (by decide))).trans (by omega))
    have pr91 : LRP M86 := fun _ => by have := (mUp_no e89 (mUp_no e85 (mUp_no e81 (mUp_at e77) (Or.inr (by decide))) (Or.inr (by decide))) (Or.inr (by decide))); omega
    refine wk_al0 r91_40 (wk_cv1 r91_41 kc_739_97 rfl (m8097_739 _ M86 v56 v52 p1 v48 T hP87 (mUp_no e89 (mUp_no e85 (mUp_no e81 (mUp_no e77 (mUp_no e73 (mUp_no e69 e57 (Or.inr (by decide))) (Or.inr (by decide))) (Or.inr (by decide))) (Or.inr (by decide))) (Or.inr (by decide))) (Or.inr (by decide))) (by first | with_reducible assumption | omega) (by first | with_reducible assumption | omega) (mUp_no e89 (mUp_no e85 (mUp_no e81 (mUp_no e77 (mUp_no e73 (mUp_no e69 e53 (Or.inr (by decide))) (Or.inr (by decide))) (Or.inr (by decide))) (Or.inr (by decide))) (Or.inr (by decide))) (Or.inr (by decide))) (by first | with_reducible assumption | omega) (by first | with_reducible assumption | omega) (mUp_no e89 (mUp_no e85 (mUp_no e81 (mUp_no e77 (mUp_no e73 (mUp_no e69 e41 (Or.inr (by decide))) (Or.inr (by decide))) (Or.inr (by decide))) (Or.inr (by decide))) (Or.inr (by decide))) (Or.inr (by decide))) (by first | with_reducible assumption | omega) (by first | with_reducible assumption | omega) (mUp_no e89 (mUp_no e85 (mUp_no e81 (mUp_no e77 (mUp_no e73 (mUp_no e69 e49 (Or.inr (by decide))) (Or.inr (by decide))) (Or.inr (by decide))) (Or.inr (by decide))) (Or.inr (by decide))) (Or.inr (by decide))) (by first | with_reducible assumption | omega) (by first | with_reducible assumption | omega) (TK_sm (Sm.up e89 g_739_38 rfl) (TK_sm (Sm.up e85 g_739_44 rfl) (TK_sm (Sm.up e81 g_739_43 rfl) (TK_sm (Sm.up e77 g_739_42 rfl) (TK_sm (Sm.up e73 g_739_40 rfl) (TK_sm (Sm.up e69 g_739_39 rfl) pr65)))))) (TTP_sm (Sm.up e89 g_739_38 rfl) (TTP_sm (Sm.up e85 g_739_44 rfl) (TTP_sm (Sm.up e81 g_739_43 rfl) (TTP_sm (Sm.up e77 g_739_42 rfl) (TTP_sm (Sm.up e73 g_739_40 rfl) (TTP_sm (Sm.up e69 g_739_39 rfl) pr62))))))) (cqI ?_))
    rintro v98 M92 ⟨hP93, hQ94, h99, h100, h96, xh97⟩
    obtain rfl := Fr.same hQ94
    have e101 := (mUp_no e89 (mUp_no e85 (mUp_no e81 (mUp_no e77 (mUp_no e73 (mUp_no e69 e53 (Or.inr (by decide))) (Or.inr (by decide))) (Or.inr (by decide))) (Or.inr (by decide))) (Or.inr (by decide))) (Or.inr (by decide)))
    have hk5 := xh97; rw [he0] at hk5
    refine wk_c1 r91_44 ?_
    have c53_3188 : ∀ (M124 : Mm) (v127 : Int) (v131 : Int), Pw M124 → Fr fm_m8091_739 M0 M124 → M124 739 29 = v127 → M124 739 28 = v131 → M124 739 13 = x739_13 → M124 739 1 = x739_1 → M124 739 21 = x739_21 → M124 739 27 = v20 → M124 739 0 = v28 → M124 739 45 = v36 → M124 739 30 = p1 → M124 739 31 = v44 → M124 739 33 = v48 → M124 739 34 = v52 → M124 739 32 = v56 → M124 739 39 = 1 → M124 739 40 = (-1) → M124 739 42 = 0 → M124 739 43 = 1 → M124 739 44 = 0 → M124 739 38 = 0 → (-1) ≤ v127 → v127 ≤ 501 → 0 ≤ v131 → v131 ≤ 6 → (TK M124) → (FP M124) → (WS M124) → (QW M124) → (LRP M124) → (TXQ T M124) → (TTP T M124) → v127 - v131 ≤ 500 → 0 ≤ 1 * p1 + (-1) * v44 → 0 ≤ 1 * v44 + (-1) * v48 + (-1) * v52 → 0 ≤ (-1) * v44 + 1 * v48 + 1 * v52 → 0 ≤ 4 * v52 + (-1) * v56 → 0 ≤ 1 * v48 + (-2) * v36 + 3000 * v131 + 2 → 0 ≤ (-1) * v36 + 262 → 0 ≤ (-1) * 0 + 1 * v48 + 3000 * v131 → 0 ≤ (-1) * 1 + 4 + 3000 * v131 → 0 ≤ 1 * 1 + (-1) + 3000 * v131 → 0 ≤ (-1) * (-1) + 6 + 3000 * v131 → 0 ≤ (-1) * 0 + 7 + 3000 * v131 → ((v131 = 0 ∧ kw T p1 (sk T p1 0) = 5 ∧ v127 = -1) ∨ (v131 = 1 ∧ kw T p1 (sk T p1 0) ≠ 5 ∧ v127 = sk T p1 0)) → Wp B (d + 8) 91 53 [some (R 739), none, none] [] M124 Q := by
      clear e25 h26 h27 e33 h34 h35 e41 h42 h43 hP67 hF68 e69 hP71 hF72 e73 hP75 hF76 e77 hP79 hF80 e81 hP83 hF84 e85 hP87 hF88 e89 pr90 pr91 hP93 hQ94 h99 h100 h96 xh97
      intro M124 v127 v131 hP125 hF126 e130 e134 e135 e136 e137 e138 e139 e140 e141 e142 e143 e144 e145 e146 e147 e148 e149 e150 e151 h128 h129 h132 h133 pr152 pr153 pr154 pr155 pr156 pr157 pr158 h159 h160 h161 h162 h163 h164 h165 h166 h167 h168 h169 h170 ti171
      refine wk_al0 r91_53 (wk_cv1 r91_54 kc_739_84 rfl (m8084_739 _ M124 v131 hP125 e134 (by first | with_reducible assumption | omega) (by first | with_reducible assumption | omega)) (cqI ?_))
      rintro v178 M172 ⟨hP173, hQ174, h179, h180, h176, h177⟩
      obtain rfl := Fr.same hQ174
      have e181 := e134
      have c64_3187 : ∀ (M215 : Mm) (v218 : Int) (v222 : Int) (v226 : Int) (v230 : Int), Pw M215 → Fr fm_m8091_739 M0 M215 → M215 739 31 = v218 → M215 739 33 = v222 → M215 739 34 = v226 → M215 739 32 = v230 → M215 739 29 = v127 → M215 739 28 = v131 → M215 739 13 = x739_13 → M215 739 1 = x739_1 → M215 739 21 = x739_21 → M215 739 27 = v20 → M215 739 0 = v28 → M215 739 45 = v36 → M215 739 30 = p1 → M215 739 39 = 1 → M215 739 40 = (-1) → M215 739 42 = 0 → M215 739 43 = 1 → M215 739 44 = 0 → M215 739 38 = 0 → 0 ≤ v218 → v218 ≤ 500 → 0 ≤ v222 → v222 ≤ 500 → 0 ≤ v226 → v226 ≤ 500 → 0 ≤ v230 → v230 ≤ 4 → (TK M215) → (FP M215) → (WS M215) → (QW M215) → (LRP M215) → (TXQ T M215) → (TTP T M215) → 0 ≤ v218 - v222 → 0 ≤ v218 - v226 → (-3) ≤ v218 - v230 → v222 + v226 ≤ 500 → v222 + v230 ≤ 503 → (-3) ≤ v226 - v230 → 0 ≤ 1 * p1 + (-1) * v218 → 0 ≤ 1 * v218 + (-1) * v222 + (-1) * v226 → 0 ≤ (-1) * v218 + 1 * v222 + 1 * v226 → 0 ≤ 4 * v226 + (-1) * v230 → 0 ≤ 1 * v222 + (-2) * v36 + 3000 * v131 + 2 → 0 ≤ (-1) * v36 + 262 → 0 ≤ (-1) * 0 + 1 * v222 + 3000 * v131 → 0 ≤ (-1) * 1 + 4 + 3000 * v131 → 0 ≤ 1 * 1 + (-1) + 3000 * v131 → 0 ≤ (-1) * (-1) + 6 + 3000 * v131 → 0 ≤ (-1) * 0 + 7 + 3000 * v131 → ((v131 = 0 ∧ kw T p1 (sk T p1 0) = 5 ∧ v222 = nx T p1 (sk T p1 0) ∧ v127 = -1) ∨ (v131 = 1 ∧ kw T p1 (sk T p1 0) ≠ 5 ∧ v127 = sk T p1 0)) → Wp B (d + 8) 91 64 [some (R 739), none, none] [] M215 Q := by
        clear e45 h46 h47 e49 h50 h51 e53 h54 h55 e57 h58 h59 e101 hP173 hQ174 h179 h180 h176 h177
        intro M215 v218 v222 v226 v230 hP216 hF217 e221 e225 e229 e233 e234 e235 e236 e237 e238 e239 e240 e241 e242 e243 e244 e245 e246 e247 e248 h219 h220 h223 h224 h227 h228 h231 h232 pr249 pr250 pr251 pr252 pr253 pr254 pr255 h256 h257 h258 h259 h260 h261 h262 h263 h264 h265 h266 h267 h268 h269 h270 h271 h272 ti273
        refine wk_al0 r91_64 (wk_al0 r91_65 (wk_c1 r91_66 (wk_c2 r91_67 ?_)))
        obtain ⟨v274, e275⟩ : ∃ v, M215 739 35 = v := ⟨_, rfl⟩
        have h276 := (bf_739_35 hP216).1; rw [e275] at h276
        have h277 := (bf_739_35 hP216).2; rw [e275] at h277
        refine wk_cv3 r91_69 kc_739_114 rfl (m8114_739 _ M215 0 7 p1 v218 v222 v226 v230 v131 v274 v127 T hP216 (by decide) (by decide) (by decide) (by decide) e242 (by first | with_reducible assumption | omega) (by first | with_reducible assumption | omega) e221 (by first | with_reducible assumption | omega) (by first | with_reducible assumption | omega) e225 (by first | with_reducible assumption | omega) (by first | with_reducible assumption | omega) e229 (by first | with_reducible assumption | omega) (by first | with_reducible assumption | omega) e233 (by first | with_reducible assumption | omega) (by first | with_reducible assumption | omega) e235 (by first | with_reducible assumption | omega) (by first | with_reducible assumption | omega) e275 (by first | with_reducible assumption | omega) (by first | with_reducible assumption | omega) e234 (by first | with_reducible assumption | omega) (by first | with_reducible assumption | omega) (by omega) (by omega) (by omega) (by omega) pr249 pr254 pr255) (cqI ?_)
        rintro v298 M278 ⟨hP279, hQ280, h299, h300, h282, h283, h284, h285, h286, h287, h288, h289, h290, h291, h292, h293, xh294, pr295, pr296, pr297⟩
        have hF281 : Fr fm_m8091_739 M0 M278 := hF217.tr hQ280 rfl
        have e301 := ((hQ280.at g_739_30 rfl).trans e242)
        obtain ⟨v302, e303⟩ : ∃ v, M278 739 31 = v := ⟨_, rfl⟩
        have h304 := (bf_739_31 hP279).1; rw [e303] at h304
        have h305 := (bf_739_31 hP279).2; rw [e303] at h305
        obtain ⟨v306, e307⟩ : ∃ v, M278 739 33 = v := ⟨_, rfl⟩
        have h308 := (bf_739_33 hP279).1; rw [e307] at h308
        have h309 := (bf_739_33 hP279).2; rw [e307] at h309
        obtain ⟨v310, e311⟩ : ∃ v, M278 739 34 = v := ⟨_, rfl⟩
        have h312 := (bf_739_34 hP279).1; rw [e311] at h312
        have h313 := (bf_739_34 hP279).2; rw [e311] at h313
        obtain ⟨v314, e315⟩ : ∃ v, M278 739 32 = v := ⟨_, rfl⟩
        have h316 := (bf_739_32 hP279).1; rw [e315] at h316
        have h317 := (bf_739_32 hP279).2; rw [e315] at h317
        obtain ⟨v318, e319⟩ : ∃ v, M278 739 28 = v := ⟨_, rfl⟩
        have h320 := (bf_739_28 hP279).1; rw [e319] at h320
        have h321 := (bf_739_28 hP279).2; rw [e319] at h321
        obtain ⟨v322, e323⟩ : ∃ v, M278 739 29 = v := ⟨_, rfl⟩
        have h324 := (bf_739_29 hP279).1; rw [e323] at h324
        have h325 := (bf_739_29 hP279).2; rw [e323] at h325
        have pr326 : FP M278 := FP_mn (Sm.fr hQ280 rfl) (fun q => by have := e235; have := e319; omega) pr250
        have pr327 : LRP M278 := LRP_mn (Sm.fr hQ280 rfl) (fun q => by have := e235; have := e319; omega) pr253
        refine wk_putfi81 r91_72 fd_739_38 (wk_nw g_739_38 rfl hP279 hF281 (uf_739_38 ⟨by omega, by omega⟩) ?_)
        intro M328 hP329 hF330 e331
        have hy : (v318 = 0 ∧ kw T p1 (sk T p1 0) = 5 ∧ nuE T p1 v222 0 7 = 0 ∧ v298 = vlI T p1 v222 ∧ v306 = nx T p1 v222 ∧ v222 = nx T p1 (sk T p1 0)) ∨ (v318 ≠ 0 ∧ HDf T p1 (sk T p1 0) v318 v322) := by rcases xh294 with q | q | q; (exact Or.inl (by omega)); (exact Or.inr ⟨by omega, HD_2 (s1 := v222) (by omega) (by omega) (by omega)⟩); (exact Or.inr ⟨by omega, HD_1 (by omega)⟩)
        refine wk_c1 r91_75 (wk_is2 r91_76 rfl ?_)
        have c77_3186 : ∀ (k3186 : Nat) (M585 : Mm) (v582 : Int), (7 - v582).toNat = k3186 → Pw M585 → Fr fm_m8091_739 M0 M585 → M585 739 13 = x739_13 → M585 739 1 = x739_1 → M585 739 21 = x739_21 → M585 739 27 = v20 → M585 739 0 = v28 → M585 739 45 = v36 → M585 739 30 = p1 → M585 739 39 = 1 → M585 739 40 = (-1) → M585 739 42 = 0 → M585 739 43 = 1 → M585 739 44 = 0 → M585 739 38 = v298 → M585 739 31 = v302 → M585 739 33 = v306 → M585 739 34 = v310 → M585 739 32 = v314 → M585 739 28 = v318 → M585 739 29 = v322 → 0 ≤ v582 → v582 ≤ 7 → (TK M585) → (FP M585) → (WS M585) → (QW M585) → (LRP M585) → (TXQ T M585) → (TTP T M585) → 0 ≤ 1 * p1 + (-1) * v302 → 0 ≤ 1 * v302 + (-1) * v306 + (-1) * v310 → 0 ≤ (-1) * v302 + 1 * v306 + 1 * v310 → 0 ≤ 4 * v310 + (-1) * v314 → 0 ≤ 1 * v306 + (-2) * v36 + 3000 * v318 + 2 → 0 ≤ (-1) * v36 + 262 → 0 ≤ (-1) * 0 + 1 * v306 + 3000 * v318 → 0 ≤ (-1) * 1 + 4 + 3000 * v318 → 0 ≤ 1 * 1 + (-1) + 3000 * v318 → 0 ≤ (-1) * (-1) + 6 + 3000 * v318 → 0 ≤ (-1) * v298 + 7 + 3000 * v318 → (∀ k : Int, 0 ≤ k → k < v582 → M585 756 k = 3) → Wp B (d + 8) 91 77 [some (R 739), none, some (I v582)] [] M585 Q := by
          clear hP125 hF126 e130 e134 e135 e136 e137 e138 e139 e140 e141 e142 e143 e144 e145 e146 e147 e148 e149 e150 e151 h128 h129 h132 h133 pr152 pr153 pr154 pr155 pr156 pr157 pr158 h159 h160 h161 h162 h163 h164 h165 h166 h167 h168 h169 h170 ti171 e181 e275 h276 h277 hP329 hF330 e331
          refine lp_ind ?_
          intro k3186 ih3186 M585 v582 hk3186 hP586 hF587 e588 e589 e590 e591 e592 e593 e594 e595 e596 e597 e598 e599 e600 e601 e602 e603 e604 e605 e606 h583 h584 pr607 pr608 pr609 pr610 pr611 pr612 pr613 h614 h615 h616 h617 h618 h619 h620 h621 h622 h623 h624 ti625
          refine wk_il2 r91_77 (wk_c2 r91_78 ?_)
          refine wk_icge r91_80 ⟨by omega, by omega⟩ (by decide) ?_ ?_
          · intro h626
            have pr627 : MRP M585 := fun k a b => by rw [ti625 k a (by omega)]; decide
            obtain ⟨u628, hu629⟩ : ∃ u : Int → Int, ∀ k, M585 756 k = u k := ⟨fun k => M585 756 k, fun k => rfl⟩
            have hu3 : ∀ k : Int, 0 ≤ k → k < 7 → u628 k = 3 := fun k a b => by rw [← hu629 k]; exact ti625 k a (by omega)
            refine wk_al0 r91_96 (wk_cv1 r91_97 kc_739_65 rfl (m8065_739 _ M585 p1 v302 v306 v310 v314 v318 v322 T hP586 e594 (by first | with_reducible assumption | omega) (by first | with_reducible assumption | omega) e601 (by first | with_reducible assumption | omega) (by first | with_reducible assumption | omega) e602 (by first | with_reducible assumption | omega) (by first | with_reducible assumption | omega) e603 (by first | with_reducible assumption | omega) (by first | with_reducible assumption | omega) e604 (by first | with_reducible assumption | omega) (by first | with_reducible assumption | omega) e605 (by first | with_reducible assumption | omega) (by first | with_reducible assumption | omega) e606 (by first | with_reducible assumption | omega) (by first | with_reducible assumption | omega) (by omega) (by omega) (by omega) (by omega) pr607 pr612 pr613) (cqV ?_))
            rintro M630 ⟨hP631, hQ632, h634, h635, h636, h637, h638, h639, h640, h641, h642, h643, xh644, pr645, pr646, pr647⟩
            have hF633 : Fr fm_m8091_739 M0 M630 := hF587.tr hQ632 rfl
            have e648 := ((hQ632.at g_739_30 rfl).trans e594)
            obtain ⟨v649, e650⟩ : ∃ v, M630 739 31 = v := ⟨_, rfl⟩
            have h651 := (bf_739_31 hP631).1; rw [e650] at h651
            have h652 := (bf_739_31 hP631).2; rw [e650] at h652
            obtain ⟨v653, e654⟩ : ∃ v, M630 739 33 = v := ⟨_, rfl⟩
            have h655 := (bf_739_33 hP631).1; rw [e654] at h655
            have h656 := (bf_739_33 hP631).2; rw [e654] at h656
            obtain ⟨v657, e658⟩ : ∃ v, M630 739 34 = v := ⟨_, rfl⟩
            have h659 := (bf_739_34 hP631).1; rw [e658] at h659
            have h660 := (bf_739_34 hP631).2; rw [e658] at h660
            obtain ⟨v661, e662⟩ : ∃ v, M630 739 32 = v := ⟨_, rfl⟩
            have h663 := (bf_739_32 hP631).1; rw [e662] at h663
            have h664 := (bf_739_32 hP631).2; rw [e662] at h664
            obtain ⟨v665, e666⟩ : ∃ v, M630 739 28 = v := ⟨_, rfl⟩
            have h667 := (bf_739_28 hP631).1; rw [e666] at h667
            have h668 := (bf_739_28 hP631).2; rw [e666] at h668
            obtain ⟨v669, e670⟩ : ∃ v, M630 739 29 = v := ⟨_, rfl⟩
            have h671 := (bf_739_29 hP631).1; rw [e670] at h671
            have h672 := (bf_739_29 hP631).2; rw [e670] at h672
            have pr673 : FP M630 := FP_mn (Sm.fr hQ632 rfl) (fun q => by have := e605; have := e666; omega) pr608
            have pr674 : LRP M630 := LRP_mn (Sm.fr hQ632 rfl) (fun q => by have := e605; have := e666; omega) pr611
            have c100_3180 : ∀ (k3180 : Nat) (M2780 : Mm) (v2783 : Int) (v2787 : Int) (v2791 : Int) (v2795 : Int) (v2799 : Int) (v2803 : Int) (v2807 : Int) (v2811 : Int) (v2815 : Int) (v2819 : Int) (v2823 : Int) (v2827 : Int), (10 * (501 - v2811) + (6 - v2823)).toNat = k3180 → Pw M2780 → Fr fm_m8091_739 M0 M2780 → M2780 739 45 = v2783 → M2780 739 39 = v2787 → M2780 739 40 = v2791 → M2780 739 42 = v2795 → M2780 739 43 = v2799 → M2780 739 44 = v2803 → M2780 739 31 = v2807 → M2780 739 33 = v2811 → M2780 739 34 = v2815 → M2780 739 32 = v2819 → M2780 739 28 = v2823 → M2780 739 29 = v2827 → M2780 739 13 = x739_13 → M2780 739 1 = x739_1 → M2780 739 21 = x739_21 → M2780 739 27 = v20 → M2780 739 0 = v28 → M2780 739 30 = p1 → M2780 739 38 = v298 → 0 ≤ v2783 → v2783 ≤ 262 → 0 ≤ v2787 → v2787 ≤ 999 → (-1) ≤ v2791 → v2791 ≤ 999 → (-2147483648) ≤ v2795 → v2795 ≤ 2147483647 → 1 ≤ v2799 → v2799 ≤ 2 → 0 ≤ v2803 → v2803 ≤ 500 → 0 ≤ v2807 → v2807 ≤ 500 → 0 ≤ v2811 → v2811 ≤ 500 → 0 ≤ v2815 → v2815 ≤ 500 → 0 ≤ v2819 → v2819 ≤ 4 → 0 ≤ v2823 → v2823 ≤ 6 → (-1) ≤ v2827 → v2827 ≤ 501 → (TK M2780) → (FP M2780) → (WS M2780) → (QW M2780) → (MRP M2780) → (LRP M2780) → (TXQ T M2780) → (TTP T M2780) → 0 ≤ 1 * p1 + (-1) * v2807 → 0 ≤ 1 * v2807 + (-1) * v2811 + (-1) * v2815 → 0 ≤ (-1) * v2807 + 1 * v2811 + 1 * v2815 → 0 ≤ 4 * v2815 + (-1) * v2819 → 0 ≤ 1 * v2811 + (-2) * v2783 + 3000 * v2823 + 2 → 0 ≤ (-1) * v2783 + 262 → 0 ≤ (-1) * v2803 + 1 * v2811 + 3000 * v2823 → 0 ≤ (-1) * v2803 + 502 → 0 ≤ (-1) * v2787 + 4 + 3000 * v2823 → 0 ≤ 1 * v2787 + (-1) + 3000 * v2823 → 0 ≤ (-1) * v2791 + 6 + 3000 * v2823 → 0 ≤ (-1) * v298 + 7 + 3000 * v2823 → (v2823 ≠ 0 ∨ v2827 = -1) → (RY T p1 (sk T p1 0) v298 v2811 (v2787, v2791, ltI v2795, v2799 - 1, nrI (fun k => M2780 756 k)) v2823 v2827) → Wp B (d + 8) 91 100 [some (R 739), none, none] [] M2780 Q := by
              clear e37 h38 h39 hP216 hF217 e221 e225 e229 e233 e234 e235 e236 e237 e238 e239 e240 e241 e242 e243 e244 e245 e246 e247 e248 h219 h220 h223 h224 h227 h228 h231 h232 pr249 pr250 pr251 pr252 pr253 pr254 pr255 h256 h257 h258 h259 h260 h261 h262 h263 h264 h265 h266 h267 h268 h269 h270 h271 h272 ti273 e301 e303 h304 h305 e307 h308 h309 e311 h312 h313 e315 h316 h317 e319 h320 h321 e323 h324 h325 pr326 pr327 hP586 hF587 e588 e589 e590 e591 e592 e593 e594 e595 e596 e597 e598 e599 e600 e601 e602 e603 e604 e605 e606 h583 h584 pr607 pr608 pr609 pr610 pr611 pr612 pr613 h614 h615 h616 h617 h618 h619 h620 h621 h622 h623 h624 ti625 pr627 hu629 hu3 hP631 hQ632 h634 h635 h636 h637 h638 h639 h640 h641 h642 h643 xh644 pr645 pr646 pr647 e648 e650 h651 h652 e654 h655 h656 e658 h659 h660 e662 h663 h664 e666 h667 h668 e670 h671 h672 pr673 pr674
              refine lp_ind ?_
              intro k3180 ih3180 M2780 v2783 v2787 v2791 v2795 v2799 v2803 v2807 v2811 v2815 v2819 v2823 v2827 hk3180 hP2781 hF2782 e2786 e2790 e2794 e2798 e2802 e2806 e2810 e2814 e2818 e2822 e2826 e2830 e2831 e2832 e2833 e2834 e2835 e2836 e2837 h2784 h2785 h2788 h2789 h2792 h2793 h2796 h2797 h2800 h2801 h2804 h2805 h2808 h2809 h2812 h2813 h2816 h2817 h2820 h2821 h2824 h2825 h2828 h2829 pr2838 pr2839 pr2840 pr2841 pr2842 pr2843 pr2844 pr2845 h2846 h2847 h2848 h2849 h2850 h2851 h2852 h2853 h2854 h2855 h2856 h2857 ti2858 ti2859
              refine wk_al0 r91_100 (wk_cv1 r91_101 kc_739_84 rfl (m8084_739 _ M2780 v2823 hP2781 e2826 (by first | with_reducible assumption | omega) (by first | with_reducible assumption | omega)) (cqI ?_))
              rintro v2866 M2860 ⟨hP2861, hQ2862, h2867, h2868, h2864, h2865⟩
              obtain rfl := Fr.same hQ2862
              have e2869 := e2826
              have c121_3179 : (v2823 ≠ 0 ∨ tt T p1 v2811 = 0) → Wp B (d + 8) 91 121 [some (R 739), none, none] [] M2780 Q := by
                clear hP2861 hQ2862 h2867 h2868 h2864 h2865
                intro ti2974
                refine wk_al0 r91_121 (wk_al0 r91_122 (wk_getfi r91_123 fd_739_40 e2794 (wk_c1 r91_126 ?_)))
                have c143_3178 : ∀ (v2979 : Int), 1 ≤ v2979 → v2979 ≤ 7 → ((v2791 = -1 ∧ v2795 ≠ 0 ∧ v2979 = 7) ∨ (¬ (v2791 = -1 ∧ v2795 ≠ 0) ∧ v2979 = 1)) → Wp B (d + 8) 91 143 [some (R 739), none, none] [I v2979, R 739] M2780 Q := by
                  intro v2979 h2980 h2981 ti2982
                  refine wk_putfi81 r91_143 fd_739_41 (wk_nw g_739_41 rfl hP2781 hF2782 (uf_739_41 ⟨by omega, by omega⟩) ?_)
                  intro M2983 hP2984 hF2985 e2986
                  refine wk_al0 r91_146 (wk_cv1 r91_147 kc_739_84 rfl (m8084_739 _ M2983 v2823 hP2984 (mUp_no e2986 e2826 (Or.inr (by decide))) (by first | with_reducible assumption | omega) (by first | with_reducible assumption | omega)) (cqI ?_))
                  rintro v2993 M2987 ⟨hP2988, hQ2989, h2994, h2995, h2991, h2992⟩
                  obtain rfl := Fr.same hQ2989
                  have e2996 := (mUp_no e2986 e2826 (Or.inr (by decide)))
                  refine wk_ifeq r91_150 ⟨by omega, by omega⟩ ?_ ?_
                  · intro h2997
                    have hio : IO T p1 v2823 v2827 v298 := RY_b ti2859 (by omega) (by omega) (by omega)
                    refine wk_al0 r91_169 (wk_cv1 r91_170 kc_739_84 rfl (m8084_739 _ M2983 v2823 hP2984 (mUp_no e2986 e2826 (Or.inr (by decide))) (by first | with_reducible assumption | omega) (by first | with_reducible assumption | omega)) (cqI ?_))
                    rintro v3004 M2998 ⟨hP2999, hQ3000, h3005, h3006, h3002, h3003⟩
                    obtain rfl := Fr.same hQ3000
                    have e3007 := (mUp_no e2986 e2826 (Or.inr (by decide)))
                    refine wk_ifne r91_173 ⟨by omega, by omega⟩ ?_ ?_
                    · intro h3008
                      exfalso
                      omega
                    · intro h3009
                      refine wk_al0 r91_176 (wk_getfi r91_177 fd_739_28 (mUp_no e2986 e2826 (Or.inr (by decide))) ?_)
                      subst hQ; exact wk_iret r91_180 (⟨rfl, _, rfl, hP2984, hF2985, by omega, by omega, by have := (mUp_no e2986 e2834 (Or.inr (by decide))); omega, by rw [(mUp_no e2986 e2835 (Or.inr (by decide))), (mUp_no e2986 e2832 (Or.inr (by decide))), (mUp_no e2986 e2831 (Or.inr (by decide))), (mUp_no e2986 e2833 (Or.inr (by decide))), (mUp_no e2986 e2830 (Or.inr (by decide)))]; exact INR_r hio (by omega) (by omega) (by omega) (by omega), (WS_sm (Sm.up e2986 g_739_41 rfl) pr2840), (QW_sm (Sm.up e2986 g_739_41 rfl) pr2841)⟩)
                  · intro h3010
                    refine wk_al0 r91_153 (wk_cv1 r91_154 kc_739_127 rfl (m8127_739 _ M2983 v2787 v2979 v2799 v298 hP2984 (mUp_no e2986 e2790 (Or.inr (by decide))) (by first | with_reducible assumption | omega) (by first | with_reducible assumption | omega) (mUp_at e2986) (by first | with_reducible assumption | omega) (by first | with_reducible assumption | omega) (mUp_no e2986 e2802 (Or.inr (by decide))) (by first | with_reducible assumption | omega) (by first | with_reducible assumption | omega) (mUp_no e2986 e2837 (Or.inr (by decide))) (by first | with_reducible assumption | omega) (by first | with_reducible assumption | omega) (MRP_sm (Sm.up e2986 g_739_41 rfl) pr2842)) (cqI ?_))
                    rintro v3017 M3011 ⟨hP3012, hQ3013, h3018, h3019, xh3015, xh3016⟩
                    obtain rfl := Fr.same hQ3013
                    have hsz8 := sz_mod (n39 := v2787) (n40 := v2791) (n41 := v2979) (n42 := v2795) (n43 := v2799) (pp := v298) (u := fun k => M2983 756 k) (by omega) ⟨by omega, by omega⟩
                    have hsx8 := xh3016
                    have hrow : (fun k => M2983 756 k) = (fun k => M2780 756 k) := funext fun k => by rw [e2986, mUp_ne (Or.inl (by decide))]
                    rw [hrow] at hsx8 hsz8
                    refine wk_c3 r91_157 ?_
                    refine wk_icle r91_160 ⟨by omega, by omega⟩ (by decide) ?_ ?_
                    · intro h3020
                      have hio : IO T p1 v2823 v2827 v298 := RY_e ti2859 (by omega) (ti2974.resolve_left (fun q => q (by omega))) (Or.inr ⟨by omega, by omega, by omega⟩)
                      refine wk_al0 r91_169 (wk_cv1 r91_170 kc_739_84 rfl (m8084_739 _ M2983 v2823 hP2984 (mUp_no e2986 e2826 (Or.inr (by decide))) (by first | with_reducible assumption | omega) (by first | with_reducible assumption | omega)) (cqI ?_))
                      rintro v3027 M3021 ⟨hP3022, hQ3023, h3028, h3029, h3025, h3026⟩
                      obtain rfl := Fr.same hQ3023
                      have e3030 := (mUp_no e2986 e2826 (Or.inr (by decide)))
                      refine wk_ifne r91_173 ⟨by omega, by omega⟩ ?_ ?_
                      · intro h3031
                        have hsz := xh3015 (by omega)
                        have h3032 : v2823 = 0 ∧ 1 ≤ v2787 ∧ v2787 ≤ 4 ∧ -1 ≤ v2791 ∧ v2791 ≤ 6 ∧ 0 ≤ v298 ∧ v298 ≤ 7 ∧ v2783 ≤ 262 ∧ 0 ≤ v2803 ∧ v2803 ≤ 500 := ⟨by omega, by omega, by omega, by omega, by omega, by omega, by omega, by omega, by omega, by omega⟩
                        have hMR : MRP M2983 := (MRP_sm (Sm.up e2986 g_739_41 rfl) pr2842)
                        obtain ⟨u3033, hu3034⟩ : ∃ u : Int → Int, ∀ k, M2983 757 k = u k := ⟨fun k => M2983 757 k, fun k => rfl⟩
                        obtain ⟨u3035, hu3036⟩ : ∃ u : Int → Int, ∀ k, M2983 756 k = u k := ⟨fun k => M2983 756 k, fun k => rfl⟩
                        have hu6 : ∀ k : Int, M2983 756 k = u3035 k := hu3036
                        obtain ⟨Mz, hMz⟩ : ∃ m : Mm, m = M2983 := ⟨_, rfl⟩
                        have hFD := FP_get (FP_sm (Sm.up e2986 g_739_41 rfl) pr2839) (mUp_no e2986 e2826 (Or.inr (by decide))) (by omega) (mUp_no e2986 e2806 (Or.inr (by decide))) (mUp_no e2986 e2786 (Or.inr (by decide))) hu3034
                        have hgk : M2983 739 28 = v2823 := (mUp_no e2986 e2826 (Or.inr (by decide)))
                        have hLP : LRP M2983 := (LRP_sm (Sm.up e2986 g_739_41 rfl) pr2843)
                        have hlr : M2983 739 42 = v2795 := (mUp_no e2986 e2798 (Or.inr (by decide)))
                        refine wk_al0 r91_181 (wk_al0 r91_182 (wk_getfi r91_183 fd_739_38 (mUp_no e2986 e2837 (Or.inr (by decide))) (wk_putfi81 r91_186 fd_739_1 (wk_nw g_739_1 rfl hP2984 hF2985 (uf_739_1 ⟨by omega, by omega⟩) ?_))))
                        intro M3037 hP3038 hF3039 e3040
                        refine wk_al0 r91_189 (wk_al0 r91_190 (wk_getfi r91_191 fd_739_39 (mUp_no e3040 (mUp_no e2986 e2790 (Or.inr (by decide))) (Or.inr (by decide))) (wk_putfi81 r91_194 fd_739_2 (wk_nw g_739_2 rfl hP3038 hF3039 (uf_739_2 ⟨by omega, by omega⟩) ?_))))
                        intro M3041 hP3042 hF3043 e3044
                        refine wk_al0 r91_197 (wk_al0 r91_198 (wk_getfi r91_199 fd_739_42 (mUp_no e3044 (mUp_no e3040 (mUp_no e2986 e2798 (Or.inr (by decide))) (Or.inr (by decide))) (Or.inr (by decide))) ?_))
                        have h3045 : 0 ≤ v2795 ∧ v2795 ≤ 127 := by have q := hLP (by omega); have := hlr; omega
                        refine wk_putfi81 r91_202 fd_739_3 (wk_nw g_739_3 rfl hP3042 hF3043 (uf_739_3 ⟨by omega, by omega⟩) ?_)
                        intro M3046 hP3047 hF3048 e3049
                        refine wk_al0 r91_205 (wk_al0 r91_206 (wk_getfi r91_207 fd_739_44 (mUp_no e3049 (mUp_no e3044 (mUp_no e3040 (mUp_no e2986 e2806 (Or.inr (by decide))) (Or.inr (by decide))) (Or.inr (by decide))) (Or.inr (by decide))) (wk_putfi81 r91_210 fd_739_4 (wk_nw g_739_4 rfl hP3047 hF3048 (uf_739_4 ⟨by omega, by omega⟩) ?_))))
                        intro M3050 hP3051 hF3052 e3053
                        refine wk_c1 r91_213 (wk_is2 r91_214 rfl ?_)
                        have c215_3143 : ∀ (k3143 : Nat) (M3057 : Mm) (v3054 : Int), (7 - v3054).toNat = k3143 → Pw M3057 → Fr fm_m8091_739 M0 M3057 → M3057 739 45 = v2783 → M3057 739 40 = v2791 → M3057 739 43 = v2799 → M3057 739 29 = v2827 → M3057 739 13 = x739_13 → M3057 739 1 = v298 → M3057 739 21 = x739_21 → M3057 739 27 = v20 → M3057 739 0 = v28 → M3057 739 41 = v2979 → M3057 739 2 = v2787 → M3057 739 3 = v2795 → M3057 739 4 = v2803 → 0 ≤ v3054 → v3054 ≤ 7 → (∀ k, M3057 757 k = u3033 k) → (∀ k, M3057 756 k = u3035 k) → (WS M3057) → (QW M3057) → 0 ≤ (-1) * v2783 + 262 → (∀ k : Int, 0 ≤ k → k < v3054 → M3057 740 k = u3035 k) → Wp B (d + 8) 91 215 [some (R 739), none, some (I v3054)] [] M3057 Q := m8091_739_t hQ ⟨by omega, by omega, by omega, by omega, by omega, by omega, by omega, by omega, by omega, by omega, by omega, by omega, by omega, by omega, by omega, by omega⟩ hsz hu6 hMR hFD hio
                        exact wp_fg (le_s (le_s (le_s le_0))) (c215_3143 _ M3050 0 rfl hP3051 hF3052 (mUp_no e3053 (mUp_no e3049 (mUp_no e3044 (mUp_no e3040 (mUp_no e2986 e2786 (Or.inr (by decide))) (Or.inr (by decide))) (Or.inr (by decide))) (Or.inr (by decide))) (Or.inr (by decide))) (mUp_no e3053 (mUp_no e3049 (mUp_no e3044 (mUp_no e3040 (mUp_no e2986 e2794 (Or.inr (by decide))) (Or.inr (by decide))) (Or.inr (by decide))) (Or.inr (by decide))) (Or.inr (by decide))) (mUp_no e3053 (mUp_no e3049 (mUp_no e3044 (mUp_no e3040 (mUp_no e2986 e2802 (Or.inr (by decide))) (Or.inr (by decide))) (Or.inr (by decide))) (Or.inr (by decide))) (Or.inr (by decide))) (mUp_no e3053 (mUp_no e3049 (mUp_no e3044 (mUp_no e3040 (mUp_no e2986 e2830 (Or.inr (by decide))) (Or.inr (by decide))) (Or.inr (by decide))) (Or.inr (by decide))) (Or.inr (by decide))) (mUp_no e3053 (mUp_no e3049 (mUp_no e3044 (mUp_no e3040 (mUp_no e2986 e2831 (Or.inr (by decide))) (Or.inr (by decide))) (Or.inr (by decide))) (Or.inr (by decide))) (Or.inr (by decide))) (mUp_no e3053 (mUp_no e3049 (mUp_no e3044 (mUp_at e3040) (Or.inr (by decide))) (Or.inr (by decide))) (Or.inr (by decide))) (mUp_no e3053 (mUp_no e3049 (mUp_no e3044 (mUp_no e3040 (mUp_no e2986 e2833 (Or.inr (by decide))) (Or.inr (by decide))) (Or.inr (by decide))) (Or.inr (by decide))) (Or.inr (by decide))) (mUp_no e3053 (mUp_no e3049 (mUp_no e3044 (mUp_no e3040 (mUp_no e2986 e2834 (Or.inr (by decide))) (Or.inr (by decide))) (Or.inr (by decide))) (Or.inr (by decide))) (Or.inr (by decide))) (mUp_no e3053 (mUp_no e3049 (mUp_no e3044 (mUp_no e3040 (mUp_no e2986 e2835 (Or.inr (by decide))) (Or.inr (by decide))) (Or.inr (by decide))) (Or.inr (by decide))) (Or.inr (by decide))) (mUp_no e3053 (mUp_no e3049 (mUp_no e3044 (mUp_no e3040 (mUp_at e2986) (Or.inr (by decide))) (Or.inr (by decide))) (Or.inr (by decide))) (Or.inr (by decide))) (mUp_no e3053 (mUp_no e3049 (mUp_at e3044) (Or.inr (by decide))) (Or.inr (by decide))) (mUp_no e3053 (mUp_at e3049) (Or.inr (by decide))) (mUp_at e3053) (by first | with_reducible assumption | omega) (by first | with_reducible assumption | omega) (fun k => mUp_no e3053 ((fun k => mUp_no e3049 ((fun k => mUp_no e3044 ((fun k => mUp_no e3040 (hu3034 k) (Or.inl (by decide))) k) (Or.inl (by decide))) k) (Or.inl (by decide))) k) (Or.inl (by decide))) (fun k => mUp_no e3053 ((fun k => mUp_no e3049 ((fun k => mUp_no e3044 ((fun k => mUp_no e3040 (hu3036 k) (Or.inl (by decide))) k) (Or.inl (by decide))) k) (Or.inl (by decide))) k) (Or.inl (by decide))) (WS_sm (Sm.up e3053 g_739_4 rfl) (WS_sm (Sm.up e3049 g_739_3 rfl) (WS_sm (Sm.up e3044 g_739_2 rfl) (WS_sm (Sm.up e3040 g_739_1 rfl) (WS_sm (Sm.up e2986 g_739_41 rfl) pr2840))))) (QW_sm (Sm.up e3053 g_739_4 rfl) (QW_sm (Sm.up e3049 g_739_3 rfl) (QW_sm (Sm.up e3044 g_739_2 rfl) (QW_sm (Sm.up e3040 g_739_1 rfl) (QW_sm (Sm.up e2986 g_739_41 rfl) pr2841))))) (by first | with_reducible assumption | omega) (fun k a b => by omega))
                      · intro h3144
                        exfalso
                        omega
                    · intro h3145
                      refine wk_al0 r91_163 (wk_c2 r91_164 (wk_cv2 r91_166 kc_739_137 rfl (m8137_739 _ M2983 6 v2823 v2811 v2827 hP2984 (by decide) (by decide) (mUp_no e2986 e2826 (Or.inr (by decide))) (by first | with_reducible assumption | omega) (by first | with_reducible assumption | omega) (mUp_no e2986 e2814 (Or.inr (by decide))) (by first | with_reducible assumption | omega) (by first | with_reducible assumption | omega) (mUp_no e2986 e2830 (Or.inr (by decide))) (by first | with_reducible assumption | omega) (by first | with_reducible assumption | omega)) (cqV ?_)))
                      rintro M3146 ⟨hP3147, hQ3148, h3150, h3151, h3152, h3153, h3154, xh3155⟩
                      have hF3149 : Fr fm_m8091_739 M0 M3146 := hF2985.tr hQ3148 rfl
                      obtain ⟨v3156, e3157⟩ : ∃ v, M3146 739 28 = v := ⟨_, rfl⟩
                      have h3158 := (bf_739_28 hP3147).1; rw [e3157] at h3158
                      have h3159 := (bf_739_28 hP3147).2; rw [e3157] at h3159
                      obtain ⟨v3160, e3161⟩ : ∃ v, M3146 739 29 = v := ⟨_, rfl⟩
                      have h3162 := (bf_739_29 hP3147).1; rw [e3161] at h3162
                      have h3163 := (bf_739_29 hP3147).2; rw [e3161] at h3163
                      have pr3164 : FP M3146 := FP_mn (Sm.fr hQ3148 rfl) (fun q => by have := (mUp_no e2986 e2826 (Or.inr (by decide))); have := e3157; omega) (FP_sm (Sm.up e2986 g_739_41 rfl) pr2839)
                      have pr3165 : LRP M3146 := LRP_mn (Sm.fr hQ3148 rfl) (fun q => by have := (mUp_no e2986 e2826 (Or.inr (by decide))); have := e3157; omega) (LRP_sm (Sm.up e2986 g_739_41 rfl) pr2843)
                      have hio : IO T p1 v3156 v3160 v298 := RY_e ti2859 (by omega) (ti2974.resolve_left (fun q => q (by omega))) (Or.inl ⟨by omega, by omega, by omega⟩)
                      refine wk_al0 r91_169 (wk_cv1 r91_170 kc_739_84 rfl (m8084_739 _ M3146 v3156 hP3147 e3157 (by first | with_reducible assumption | omega) (by first | with_reducible assumption | omega)) (cqI ?_))
                      rintro v3172 M3166 ⟨hP3167, hQ3168, h3173, h3174, h3170, h3171⟩
                      obtain rfl := Fr.same hQ3168
                      have e3175 := e3157
                      refine wk_ifne r91_173 ⟨by omega, by omega⟩ ?_ ?_
                      · intro h3176
                        exfalso
                        omega
                      · intro h3177
                        refine wk_al0 r91_176 (wk_getfi r91_177 fd_739_28 e3157 ?_)
                        subst hQ; exact wk_iret r91_180 (⟨rfl, _, rfl, hP3147, hF3149, by omega, by omega, by have := ((hQ3148.at g_739_27 rfl).trans (mUp_no e2986 e2834 (Or.inr (by decide)))); omega, by rw [((hQ3148.at g_739_0 rfl).trans (mUp_no e2986 e2835 (Or.inr (by decide)))), ((hQ3148.at g_739_1 rfl).trans (mUp_no e2986 e2832 (Or.inr (by decide)))), ((hQ3148.at g_739_13 rfl).trans (mUp_no e2986 e2831 (Or.inr (by decide)))), ((hQ3148.at g_739_21 rfl).trans (mUp_no e2986 e2833 (Or.inr (by decide)))), e3161]; exact INR_r hio (by omega) (by omega) (by omega) (by omega), (WS_sm (Sm.fr hQ3148 rfl) (WS_sm (Sm.up e2986 g_739_41 rfl) pr2840)), (QW_sm (Sm.fr hQ3148 rfl) (QW_sm (Sm.up e2986 g_739_41 rfl) pr2841))⟩)
                refine wk_icne r91_127 ⟨by omega, by omega⟩ (by decide) ?_ ?_
                · intro h2975
                  refine wk_c1 r91_142 ?_
                  exact wp_fg (le_s (le_s (le_s le_0))) (c143_3178 1 (by first | with_reducible assumption | omega) (by first | with_reducible assumption | omega) (by omega))
                · intro h2976
                  refine wk_al0 r91_130 (wk_getfi r91_131 fd_739_42 e2798 ?_)
                  refine wk_ifeq r91_134 ⟨by omega, by omega⟩ ?_ ?_
                  · intro h2977
                    refine wk_c1 r91_142 ?_
                    exact wp_fg (le_s (le_s (le_s le_0))) (c143_3178 1 (by first | with_reducible assumption | omega) (by first | with_reducible assumption | omega) (by omega))
                  · intro h2978
                    refine wk_c2 r91_137 (wk_goto r91_139 ?_)
                    exact wp_fg (le_s (le_s (le_s le_0))) (c143_3178 7 (by first | with_reducible assumption | omega) (by first | with_reducible assumption | omega) (by omega))
              refine wk_ifeq r91_104 ⟨by omega, by omega⟩ ?_ ?_
              · intro h2870
                exact wp_fg (le_s (le_s (le_s le_0))) (c121_3179 (Or.inl (by omega)))
              · intro h2871
                refine wk_al0 r91_107 (wk_getfi r91_108 fd_739_32 e2822 ?_)
                refine wk_ifeq r91_111 ⟨by omega, by omega⟩ ?_ ?_
                · intro h2872
                  exact wp_fg (le_s (le_s (le_s le_0))) (c121_3179 (Or.inr (by have q8 := pr2845; unfold TTP at q8; rw [e2836, e2814] at q8; omega)))
                · intro h2873
                  obtain ⟨sh9, hg9, ri9⟩ := RY_1 ti2859 (by omega)
                  have htt9 : tt T p1 v2811 ≠ 0 := by have q8 := pr2845; unfold TTP at q8; rw [e2836, e2814] at q8; omega
                  refine wk_al0 r91_114 ?_
                  obtain ⟨v2874, e2875⟩ : ∃ v, M2780 739 46 = v := ⟨_, rfl⟩
                  have h2876 := (bf_739_46 hP2781).1; rw [e2875] at h2876
                  have h2877 := (bf_739_46 hP2781).2; rw [e2875] at h2877
                  obtain ⟨v2878, e2879⟩ : ∃ v, M2780 739 47 = v := ⟨_, rfl⟩
                  have h2880 := (bf_739_47 hP2781).1; rw [e2879] at h2880
                  have h2881 := (bf_739_47 hP2781).2; rw [e2879] at h2881
                  obtain ⟨v2882, e2883⟩ : ∃ v, M2780 739 36 = v := ⟨_, rfl⟩
                  have h2884 := (bf_739_36 hP2781).1; rw [e2883] at h2884
                  have h2885 := (bf_739_36 hP2781).2; rw [e2883] at h2885
                  obtain ⟨v2886, e2887⟩ : ∃ v, M2780 739 51 = v := ⟨_, rfl⟩
                  have h2888 := (bf_739_51 hP2781).1; rw [e2887] at h2888
                  have h2889 := (bf_739_51 hP2781).2; rw [e2887] at h2889
                  obtain ⟨v2890, e2891⟩ : ∃ v, M2780 739 35 = v := ⟨_, rfl⟩
                  have h2892 := (bf_739_35 hP2781).1; rw [e2891] at h2892
                  have h2893 := (bf_739_35 hP2781).2; rw [e2891] at h2893
                  refine wk_cv1 r91_115 kc_739_58 rfl (m8058_739 _ M2780 p1 v2807 v2811 v2815 v2819 v2823 v2783 v2874 v2878 v298 v2882 v2886 v2890 v2803 v2787 v2791 v2827 v2795 v2799 T (((0 : Int), sh9, (0 : Int), (0 : Int), dg1)) hP2781 e2836 (by first | with_reducible assumption | omega) (by first | with_reducible assumption | omega) e2810 (by first | with_reducible assumption | omega) (by first | with_reducible assumption | omega) e2814 (by first | with_reducible assumption | omega) (by first | with_reducible assumption | omega) e2818 (by first | with_reducible assumption | omega) (by first | with_reducible assumption | omega) e2822 (by first | with_reducible assumption | omega) (by first | with_reducible assumption | omega) e2826 (by first | with_reducible assumption | omega) (by first | with_reducible assumption | omega) e2786 (by first | with_reducible assumption | omega) (by first | with_reducible assumption | omega) e2875 (by first | with_reducible assumption | omega) (by first | with_reducible assumption | omega) e2879 (by first | with_reducible assumption | omega) (by first | with_reducible assumption | omega) e2837 (by first | with_reducible assumption | omega) (by first | with_reducible assumption | omega) e2883 (by first | with_reducible assumption | omega) (by first | with_reducible assumption | omega) e2887 (by first | with_reducible assumption | omega) (by first | with_reducible assumption | omega) e2891 (by first | with_reducible assumption | omega) (by first | with_reducible assumption | omega) e2806 (by first | with_reducible assumption | omega) (by first | with_reducible assumption | omega) e2790 (by first | with_reducible assumption | omega) (by first | with_reducible assumption | omega) e2794 (by first | with_reducible assumption | omega) (by first | with_reducible assumption | omega) e2830 (by first | with_reducible assumption | omega) (by first | with_reducible assumption | omega) e2798 (by first | with_reducible assumption | omega) (by first | with_reducible assumption | omega) e2802 (by first | with_reducible assumption | omega) (by first | with_reducible assumption | omega) (by omega) (by omega) (by omega) (by omega) (by omega) (by omega) (by omega) (by omega) (by omega) (by omega) (by omega) (by omega) (htt9) (ri9) pr2838 pr2839 pr2842 pr2843 pr2844 pr2845) (cqV ?_)
                  rintro M2894 ⟨hP2895, hQ2896, h2898, h2899, h2900, h2901, h2902, h2903, h2904, h2905, h2906, h2907, h2908, h2909, h2910, h2911, h2912, h2913, h2914, h2915, h2916, h2917, xh2918, pr2919, pr2920, pr2921, pr2922, pr2923, pr2924⟩
                  have hF2897 : Fr fm_m8091_739 M0 M2894 := hF2782.tr hQ2896 rfl
                  have e2925 := ((hQ2896.at g_739_30 rfl).trans e2836)
                  obtain ⟨v2926, e2927⟩ : ∃ v, M2894 739 31 = v := ⟨_, rfl⟩
                  have h2928 := (bf_739_31 hP2895).1; rw [e2927] at h2928
                  have h2929 := (bf_739_31 hP2895).2; rw [e2927] at h2929
                  obtain ⟨v2930, e2931⟩ : ∃ v, M2894 739 33 = v := ⟨_, rfl⟩
                  have h2932 := (bf_739_33 hP2895).1; rw [e2931] at h2932
                  have h2933 := (bf_739_33 hP2895).2; rw [e2931] at h2933
                  obtain ⟨v2934, e2935⟩ : ∃ v, M2894 739 34 = v := ⟨_, rfl⟩
                  have h2936 := (bf_739_34 hP2895).1; rw [e2935] at h2936
                  have h2937 := (bf_739_34 hP2895).2; rw [e2935] at h2937
                  obtain ⟨v2938, e2939⟩ : ∃ v, M2894 739 32 = v := ⟨_, rfl⟩
                  have h2940 := (bf_739_32 hP2895).1; rw [e2939] at h2940
                  have h2941 := (bf_739_32 hP2895).2; rw [e2939] at h2941
                  obtain ⟨v2942, e2943⟩ : ∃ v, M2894 739 28 = v := ⟨_, rfl⟩
                  have h2944 := (bf_739_28 hP2895).1; rw [e2943] at h2944
                  have h2945 := (bf_739_28 hP2895).2; rw [e2943] at h2945
                  obtain ⟨v2946, e2947⟩ : ∃ v, M2894 739 45 = v := ⟨_, rfl⟩
                  have h2948 := (bf_739_45 hP2895).1; rw [e2947] at h2948
                  have h2949 := (bf_739_45 hP2895).2; rw [e2947] at h2949
                  obtain ⟨v2950, e2951⟩ : ∃ v, M2894 739 44 = v := ⟨_, rfl⟩
                  have h2952 := (bf_739_44 hP2895).1; rw [e2951] at h2952
                  have h2953 := (bf_739_44 hP2895).2; rw [e2951] at h2953
                  obtain ⟨v2954, e2955⟩ : ∃ v, M2894 739 39 = v := ⟨_, rfl⟩
                  have h2956 := (bf_739_39 hP2895).1; rw [e2955] at h2956
                  have h2957 := (bf_739_39 hP2895).2; rw [e2955] at h2957
                  obtain ⟨v2958, e2959⟩ : ∃ v, M2894 739 40 = v := ⟨_, rfl⟩
                  have h2960 := (bf_739_40 hP2895).1; rw [e2959] at h2960
                  have h2961 := (bf_739_40 hP2895).2; rw [e2959] at h2961
                  obtain ⟨v2962, e2963⟩ : ∃ v, M2894 739 29 = v := ⟨_, rfl⟩
                  have h2964 := (bf_739_29 hP2895).1; rw [e2963] at h2964
                  have h2965 := (bf_739_29 hP2895).2; rw [e2963] at h2965
                  obtain ⟨v2966, e2967⟩ : ∃ v, M2894 739 42 = v := ⟨_, rfl⟩
                  have h2968 := (bf_739_42 hP2895).1; rw [e2967] at h2968
                  have h2969 := (bf_739_42 hP2895).2; rw [e2967] at h2969
                  obtain ⟨v2970, e2971⟩ : ∃ v, M2894 739 43 = v := ⟨_, rfl⟩
                  have h2972 := (bf_739_43 hP2895).1; rw [e2971] at h2972
                  have h2973 := (bf_739_43 hP2895).2; rw [e2971] at h2973
                  refine wk_goto r91_118 ?_
                  exact wp_fg (le_s (le_s (le_s le_0))) (ih3180 (10 * (501 - v2930) + (6 - v2942)).toNat (by omega) M2894 v2946 v2954 v2958 v2966 v2970 v2950 v2926 v2930 v2934 v2938 v2942 v2962 rfl hP2895 hF2897 e2947 e2955 e2959 e2967 e2971 e2951 e2927 e2931 e2935 e2939 e2943 e2963 ((hQ2896.at g_739_13 rfl).trans e2831) ((hQ2896.at g_739_1 rfl).trans e2832) ((hQ2896.at g_739_21 rfl).trans e2833) ((hQ2896.at g_739_27 rfl).trans e2834) ((hQ2896.at g_739_0 rfl).trans e2835) ((hQ2896.at g_739_30 rfl).trans e2836) ((hQ2896.at g_739_38 rfl).trans e2837) (by first | with_reducible assumption | omega) (by first | with_reducible assumption | omega) (by first | with_reducible assumption | omega) (by first | with_reducible assumption | omega) (by first | with_reducible assumption | omega) (by first | with_reducible assumption | omega) (by first | with_reducible assumption | omega) (by first | with_reducible assumption | omega) (by first | with_reducible assumption | omega) (by first | with_reducible assumption | omega) (by first | with_reducible assumption | omega) (by first | with_reducible assumption | omega) (by first | with_reducible assumption | omega) (by first | with_reducible assumption | omega) (by first | with_reducible assumption | omega) (by first | with_reducible assumption | omega) (by first | with_reducible assumption | omega) (by first | with_reducible assumption | omega) (by first | with_reducible assumption | omega) (by first | with_reducible assumption | omega) (by first | with_reducible assumption | omega) (by first | with_reducible assumption | omega) (by first | with_reducible assumption | omega) (by first | with_reducible assumption | omega) pr2919 pr2920 (WS_sm (Sm.fr hQ2896 rfl) pr2840) (QW_sm (Sm.fr hQ2896 rfl) pr2841) pr2921 pr2922 pr2923 pr2924 (by first | with_reducible assumption | omega) (by first | with_reducible assumption | omega) (by first | with_reducible assumption | omega) (by first | with_reducible assumption | omega) (by first | with_reducible assumption | omega) (by first | with_reducible assumption | omega) (by first | with_reducible assumption | omega) (by first | with_reducible assumption | omega) (by first | with_reducible assumption | omega) (by first | with_reducible assumption | omega) (by first | with_reducible assumption | omega) (by first | with_reducible assumption | omega) (by omega) (RY_n hg9 (by have q8 := xh2918; rw [e2931, e2955, e2959, e2967, e2971, e2943, e2963] at q8; exact q8)))
            exact wp_fg (le_s (le_s (le_n le_0))) (c100_3180 _ M630 v36 1 (-1) 0 1 0 v649 v653 v657 v661 v665 v669 rfl hP631 hF633 ((hQ632.at g_739_45 rfl).trans e593) ((hQ632.at g_739_39 rfl).trans e595) ((hQ632.at g_739_40 rfl).trans e596) ((hQ632.at g_739_42 rfl).trans e597) ((hQ632.at g_739_43 rfl).trans e598) ((hQ632.at g_739_44 rfl).trans e599) e650 e654 e658 e662 e666 e670 ((hQ632.at g_739_13 rfl).trans e588) ((hQ632.at g_739_1 rfl).trans e589) ((hQ632.at g_739_21 rfl).trans e590) ((hQ632.at g_739_27 rfl).trans e591) ((hQ632.at g_739_0 rfl).trans e592) ((hQ632.at g_739_30 rfl).trans e594) ((hQ632.at g_739_38 rfl).trans e600) (by first | with_reducible assumption | omega) (by first | with_reducible assumption | omega) (by first | with_reducible assumption | omega) (by first | with_reducible assumption | omega) (by first | with_reducible assumption | omega) (by first | with_reducible assumption | omega) (by first | with_reducible assumption | omega) (by first | with_reducible assumption | omega) (by first | with_reducible assumption | omega) (by first | with_reducible assumption | omega) (by first | with_reducible assumption | omega) (by first | with_reducible assumption | omega) (by first | with_reducible assumption | omega) (by first | with_reducible assumption | omega) (by first | with_reducible assumption | omega) (by first | with_reducible assumption | omega) (by first | with_reducible assumption | omega) (by first | with_reducible assumption | omega) (by first | with_reducible assumption | omega) (by first | with_reducible assumption | omega) (by first | with_reducible assumption | omega) (by first | with_reducible assumption | omega) (by first | with_reducible assumption | omega) (by first | with_reducible assumption | omega) pr645 pr673 (WS_sm (Sm.fr hQ632 rfl) pr609) (QW_sm (Sm.fr hQ632 rfl) pr610) (MRP_sm (Sm.fr hQ632 rfl) pr627) pr674 pr646 pr647 (by first | with_reducible assumption | omega) (by first | with_reducible assumption | omega) (by first | with_reducible assumption | omega) (by first | with_reducible assumption | omega) (by first | with_reducible assumption | omega) (by first | with_reducible assumption | omega) (by first | with_reducible assumption | omega) (by first | with_reducible assumption | omega) (by first | with_reducible assumption | omega) (by first | with_reducible assumption | omega) (by first | with_reducible assumption | omega) (by first | with_reducible assumption | omega) (by omega) (RY_i (dg1_m2 (by omega) (by omega) (ltI_0 (by omega)) (by omega) (fun k a b => by rw [(fun k => (hQ632.at (ga_756 k) rfl).trans (hu629 k)) k]; exact hu3 k a b)) (by rcases hy with q | ⟨q, qf⟩; (rcases xh644 with x9 | x9 | x9; (exact Or.inl ⟨by omega, HD_gm (s1 := v222) (s2 := v306) (by omega) (by omega) (by omega) (by omega) (by omega) (by omega) (by omega)⟩); (exact Or.inr ⟨by omega, HD_3 (s1 := v222) (s2 := v306) (by omega) (by omega) (by omega) (by omega)⟩); (omega)); (rcases xh644 with x9 | x9 | x9; (omega); (omega); (exact Or.inr ⟨by omega, by rw [show v665 = v318 by omega, show v669 = v322 by omega]; exact qf⟩)))))
          · intro h3181
            refine wk_al0 r91_83 (wk_getfr r91_84 fd_739_48 (br_739_48 hP586) (wk_il2 r91_87 (wk_c1 r91_88 (wk_iast r91_89 ar_756 ⟨by omega, by omega⟩ (wk_nw (ga_756 _) rfl hP586 hF587 (ua_756 (by decide)) ?_)))))
            intro M3182 hP3183 hF3184 e3185
            refine wk_inc2 r91_90 rfl (wk_goto r91_93 ?_)
            exact wp_fg (le_s (le_s (le_s le_0))) (ih3186 (7 - (v582 + 1)).toNat (by omega) M3182 (v582 + 1) rfl hP3183 hF3184 (mUp_no e3185 e588 (Or.inl (by decide))) (mUp_no e3185 e589 (Or.inl (by decide))) (mUp_no e3185 e590 (Or.inl (by decide))) (mUp_no e3185 e591 (Or.inl (by decide))) (mUp_no e3185 e592 (Or.inl (by decide))) (mUp_no e3185 e593 (Or.inl (by decide))) (mUp_no e3185 e594 (Or.inl (by decide))) (mUp_no e3185 e595 (Or.inl (by decide))) (mUp_no e3185 e596 (Or.inl (by decide))) (mUp_no e3185 e597 (Or.inl (by decide))) (mUp_no e3185 e598 (Or.inl (by decide))) (mUp_no e3185 e599 (Or.inl (by decide))) (mUp_no e3185 e600 (Or.inl (by decide))) (mUp_no e3185 e601 (Or.inl (by decide))) (mUp_no e3185 e602 (Or.inl (by decide))) (mUp_no e3185 e603 (Or.inl (by decide))) (mUp_no e3185 e604 (Or.inl (by decide))) (mUp_no e3185 e605 (Or.inl (by decide))) (mUp_no e3185 e606 (Or.inl (by decide))) (by first | with_reducible assumption | omega) (by first | with_reducible assumption | omega) (TK_sm (Sm.up e3185 (ga_756 _) rfl) pr607) (FP_sm (Sm.up e3185 (ga_756 _) rfl) pr608) (WS_sm (Sm.up e3185 (ga_756 _) rfl) pr609) (QW_sm (Sm.up e3185 (ga_756 _) rfl) pr610) (LRP_sm (Sm.up e3185 (ga_756 _) rfl) pr611) (TXQ_sm (Sm.up e3185 (ga_756 _) rfl) pr612) (TTP_sm (Sm.up e3185 (ga_756 _) rfl) pr613) (by first | with_reducible assumption | omega) (by first | with_reducible assumption | omega) (by first | with_reducible assumption | omega) (by first | with_reducible assumption | omega) (by first | with_reducible assumption | omega) (by first | with_reducible assumption | omega) (by first | with_reducible assumption | omega) (by first | with_reducible assumption | omega) (by first | with_reducible assumption | omega) (by first | with_reducible assumption | omega) (by first | with_reducible assumption | omega) (fun k a b => by rw [e3185]; (by_cases q : k = v582); (rw [q, mUp_eq]); (rw [mUp_ne (Or.inr q)]; exact ti625 k a (by omega))))
        exact wp_fg (le_s (le_s (le_s le_0))) (c77_3186 _ M328 0 rfl hP329 hF330 (mUp_no e331 ((hQ280.at g_739_13 rfl).trans e236) (Or.inr (by decide))) (mUp_no e331 ((hQ280.at g_739_1 rfl).trans e237) (Or.inr (by decide))) (mUp_no e331 ((hQ280.at g_739_21 rfl).trans e238) (Or.inr (by decide))) (mUp_no e331 ((hQ280.at g_739_27 rfl).trans e239) (Or.inr (by decide))) (mUp_no e331 ((hQ280.at g_739_0 rfl).trans e240) (Or.inr (by decide))) (mUp_no e331 ((hQ280.at g_739_45 rfl).trans e241) (Or.inr (by decide))) (mUp_no e331 ((hQ280.at g_739_30 rfl).trans e242) (Or.inr (by decide))) (mUp_no e331 ((hQ280.at g_739_39 rfl).trans e243) (Or.inr (by decide))) (mUp_no e331 ((hQ280.at g_739_40 rfl).trans e244) (Or.inr (by decide))) (mUp_no e331 ((hQ280.at g_739_42 rfl).trans e245) (Or.inr (by decide))) (mUp_no e331 ((hQ280.at g_739_43 rfl).trans e246) (Or.inr (by decide))) (mUp_no e331 ((hQ280.at g_739_44 rfl).trans e247) (Or.inr (by decide))) (mUp_at e331) (mUp_no e331 e303 (Or.inr (by decide))) (mUp_no e331 e307 (Or.inr (by decide))) (mUp_no e331 e311 (Or.inr (by decide))) (mUp_no e331 e315 (Or.inr (by decide))) (mUp_no e331 e319 (Or.inr (by decide))) (mUp_no e331 e323 (Or.inr (by decide))) (by first | with_reducible assumption | omega) (by first | with_reducible assumption | omega) (TK_sm (Sm.up e331 g_739_38 rfl) pr295) (FP_sm (Sm.up e331 g_739_38 rfl) pr326) (WS_sm (Sm.up e331 g_739_38 rfl) (WS_sm (Sm.fr hQ280 rfl) pr251)) (QW_sm (Sm.up e331 g_739_38 rfl) (QW_sm (Sm.fr hQ280 rfl) pr252)) (LRP_sm (Sm.up e331 g_739_38 rfl) pr327) (TXQ_sm (Sm.up e331 g_739_38 rfl) pr296) (TTP_sm (Sm.up e331 g_739_38 rfl) pr297) (by first | with_reducible assumption | omega) (by first | with_reducible assumption | omega) (by first | with_reducible assumption | omega) (by first | with_reducible assumption | omega) (by first | with_reducible assumption | omega) (by first | with_reducible assumption | omega) (by first | with_reducible assumption | omega) (by first | with_reducible assumption | omega) (by first | with_reducible assumption | omega) (by first | with_reducible assumption | omega) (by first | with_reducible assumption | omega) (fun k a b => by omega))
      refine wk_ifeq r91_57 ⟨by omega, by omega⟩ ?_ ?_
      · intro h182
        exact wp_fg (le_s (le_s (le_s le_0))) (c64_3187 M124 v44 v48 v52 v56 hP125 hF126 e142 e143 e144 e145 e130 e134 e135 e136 e137 e138 e139 e140 e141 e146 e147 e148 e149 e150 e151 (by first | with_reducible assumption | omega) (by first | with_reducible assumption | omega) (by first | with_reducible assumption | omega) (by first | with_reducible assumption | omega) (by first | with_reducible assumption | omega) (by first | with_reducible assumption | omega) (by first | with_reducible assumption | omega) (by first | with_reducible assumption | omega) pr152 pr153 pr154 pr155 pr156 pr157 pr158 (by first | with_reducible assumption | omega) (by first | with_reducible assumption | omega) (by first | with_reducible assumption | omega) (by first | with_reducible assumption | omega) (by first | with_reducible assumption | omega) (by first | with_reducible assumption | omega) (by first | with_reducible assumption | omega) (by first | with_reducible assumption | omega) (by first | with_reducible assumption | omega) (by first | with_reducible assumption | omega) (by first | with_reducible assumption | omega) (by first | with_reducible assumption | omega) (by first | with_reducible assumption | omega) (by first | with_reducible assumption | omega) (by first | with_reducible assumption | omega) (by first | with_reducible assumption | omega) (by first | with_reducible assumption | omega) (by omega))
      · intro h183
        refine wk_al0 r91_60 (wk_cv1 r91_61 kc_739_76 rfl (m8076_739 _ M124 p1 v44 T hP125 e141 (by first | with_reducible assumption | omega) (by first | with_reducible assumption | omega) e142 (by first | with_reducible assumption | omega) (by first | with_reducible assumption | omega) (by omega) pr157) (cqV ?_))
        rintro M184 ⟨hP185, hQ186, h188, h189, h190, h191, h192, xh193, pr194, pr195, pr196⟩
        have hF187 : Fr fm_m8091_739 M0 M184 := hF126.tr hQ186 rfl
        have e197 := ((hQ186.at g_739_30 rfl).trans e141)
        obtain ⟨v198, e199⟩ : ∃ v, M184 739 31 = v := ⟨_, rfl⟩
        have h200 := (bf_739_31 hP185).1; rw [e199] at h200
        have h201 := (bf_739_31 hP185).2; rw [e199] at h201
        obtain ⟨v202, e203⟩ : ∃ v, M184 739 33 = v := ⟨_, rfl⟩
        have h204 := (bf_739_33 hP185).1; rw [e203] at h204
        have h205 := (bf_739_33 hP185).2; rw [e203] at h205
        obtain ⟨v206, e207⟩ : ∃ v, M184 739 34 = v := ⟨_, rfl⟩
        have h208 := (bf_739_34 hP185).1; rw [e207] at h208
        have h209 := (bf_739_34 hP185).2; rw [e207] at h209
        obtain ⟨v210, e211⟩ : ∃ v, M184 739 32 = v := ⟨_, rfl⟩
        have h212 := (bf_739_32 hP185).1; rw [e211] at h212
        have h213 := (bf_739_32 hP185).2; rw [e211] at h213
        have hn214 := nx_ofm pr158 e141 e143 e142 xh193
        exact wp_fg (le_s (le_s (le_s le_0))) (c64_3187 M184 v198 v202 v206 v210 hP185 hF187 e199 e203 e207 e211 ((hQ186.at g_739_29 rfl).trans e130) ((hQ186.at g_739_28 rfl).trans e134) ((hQ186.at g_739_13 rfl).trans e135) ((hQ186.at g_739_1 rfl).trans e136) ((hQ186.at g_739_21 rfl).trans e137) ((hQ186.at g_739_27 rfl).trans e138) ((hQ186.at g_739_0 rfl).trans e139) ((hQ186.at g_739_45 rfl).trans e140) ((hQ186.at g_739_30 rfl).trans e141) ((hQ186.at g_739_39 rfl).trans e146) ((hQ186.at g_739_40 rfl).trans e147) ((hQ186.at g_739_42 rfl).trans e148) ((hQ186.at g_739_43 rfl).trans e149) ((hQ186.at g_739_44 rfl).trans e150) ((hQ186.at g_739_38 rfl).trans e151) (by first | with_reducible assumption | omega) (by first | with_reducible assumption | omega) (by first | with_reducible assumption | omega) (by first | with_reducible assumption | omega) (by first | with_reducible assumption | omega) (by first | with_reducible assumption | omega) (by first | with_reducible assumption | omega) (by first | with_reducible assumption | omega) pr194 (FP_sm (Sm.fr hQ186 rfl) pr153) (WS_sm (Sm.fr hQ186 rfl) pr154) (QW_sm (Sm.fr hQ186 rfl) pr155) (LRP_sm (Sm.fr hQ186 rfl) pr156) pr195 pr196 (by first | with_reducible assumption | omega) (by first | with_reducible assumption | omega) (by first | with_reducible assumption | omega) (by first | with_reducible assumption | omega) (by first | with_reducible assumption | omega) (by first | with_reducible assumption | omega) (by first | with_reducible assumption | omega) (by first | with_reducible assumption | omega) (by first | with_reducible assumption | omega) (by first | with_reducible assumption | omega) (by first | with_reducible assumption | omega) (by first | with_reducible assumption | omega) (by first | with_reducible assumption | omega) (by first | with_reducible assumption | omega) (by first | with_reducible assumption | omega) (by first | with_reducible assumption | omega) (by first | with_reducible assumption | omega) (by have q8 := hn214; rw [he0] at q8; omega))
    refine wk_iceq r91_45 ⟨by omega, by omega⟩ (by decide) ?_ ?_
    · intro h102
      exact wp_fg (le_s (le_n (le_s le_0))) (c53_3188 M86 v24 v32 hP87 hF88 (mUp_no e89 (mUp_no e85 (mUp_no e81 (mUp_no e77 (mUp_no e73 (mUp_no e69 e25 (Or.inr (by decide))) (Or.inr (by decide))) (Or.inr (by decide))) (Or.inr (by decide))) (Or.inr (by decide))) (Or.inr (by decide))) (mUp_no e89 (mUp_no e85 (mUp_no e81 (mUp_no e77 (mUp_no e73 (mUp_no e69 e33 (Or.inr (by decide))) (Or.inr (by decide))) (Or.inr (by decide))) (Or.inr (by decide))) (Or.inr (by decide))) (Or.inr (by decide))) (mUp_no e89 (mUp_no e85 (mUp_no e81 (mUp_no e77 (mUp_no e73 (mUp_no e69 ((hQ3.at g_739_13 rfl).trans ex739_13) (Or.inr (by decide))) (Or.inr (by decide))) (Or.inr (by decide))) (Or.inr (by decide))) (Or.inr (by decide))) (Or.inr (by decide))) (mUp_no e89 (mUp_no e85 (mUp_no e81 (mUp_no e77 (mUp_no e73 (mUp_no e69 ((hQ3.at g_739_1 rfl).trans ex739_1) (Or.inr (by decide))) (Or.inr (by decide))) (Or.inr (by decide))) (Or.inr (by decide))) (Or.inr (by decide))) (Or.inr (by decide))) (mUp_no e89 (mUp_no e85 (mUp_no e81 (mUp_no e77 (mUp_no e73 (mUp_no e69 ((hQ3.at g_739_21 rfl).trans ex739_21) (Or.inr (by decide))) (Or.inr (by decide))) (Or.inr (by decide))) (Or.inr (by decide))) (Or.inr (by decide))) (Or.inr (by decide))) (mUp_no e89 (mUp_no e85 (mUp_no e81 (mUp_no e77 (mUp_no e73 (mUp_no e69 e21 (Or.inr (by decide))) (Or.inr (by decide))) (Or.inr (by decide))) (Or.inr (by decide))) (Or.inr (by decide))) (Or.inr (by decide))) (mUp_no e89 (mUp_no e85 (mUp_no e81 (mUp_no e77 (mUp_no e73 (mUp_no e69 e29 (Or.inr (by decide))) (Or.inr (by decide))) (Or.inr (by decide))) (Or.inr (by decide))) (Or.inr (by decide))) (Or.inr (by decide))) (mUp_no e89 (mUp_no e85 (mUp_no e81 (mUp_no e77 (mUp_no e73 (mUp_no e69 e37 (Or.inr (by decide))) (Or.inr (by decide))) (Or.inr (by decide))) (Or.inr (by decide))) (Or.inr (by decide))) (Or.inr (by decide))) (mUp_no e89 (mUp_no e85 (mUp_no e81 (mUp_no e77 (mUp_no e73 (mUp_no e69 e41 (Or.inr (by decide))) (Or.inr (by decide))) (Or.inr (by decide))) (Or.inr (by decide))) (Or.inr (by decide))) (Or.inr (by decide))) (mUp_no e89 (mUp_no e85 (mUp_no e81 (mUp_no e77 (mUp_no e73 (mUp_no e69 e45 (Or.inr (by decide))) (Or.inr (by decide))) (Or.inr (by decide))) (Or.inr (by decide))) (Or.inr (by decide))) (Or.inr (by decide))) (mUp_no e89 (mUp_no e85 (mUp_no e81 (mUp_no e77 (mUp_no e73 (mUp_no e69 e49 (Or.inr (by decide))) (Or.inr (by decide))) (Or.inr (by decide))) (Or.inr (by decide))) (Or.inr (by decide))) (Or.inr (by decide))) (mUp_no e89 (mUp_no e85 (mUp_no e81 (mUp_no e77 (mUp_no e73 (mUp_no e69 e53 (Or.inr (by decide))) (Or.inr (by decide))) (Or.inr (by decide))) (Or.inr (by decide))) (Or.inr (by decide))) (Or.inr (by decide))) (mUp_no e89 (mUp_no e85 (mUp_no e81 (mUp_no e77 (mUp_no e73 (mUp_no e69 e57 (Or.inr (by decide))) (Or.inr (by decide))) (Or.inr (by decide))) (Or.inr (by decide))) (Or.inr (by decide))) (Or.inr (by decide))) (mUp_no e89 (mUp_no e85 (mUp_no e81 (mUp_no e77 (mUp_no e73 (mUp_at e69) (Or.inr (by decide))) (Or.inr (by decide))) (Or.inr (by decide))) (Or.inr (by decide))) (Or.inr (by decide))) (mUp_no e89 (mUp_no e85 (mUp_no e81 (mUp_no e77 (mUp_at e73) (Or.inr (by decide))) (Or.inr (by decide))) (Or.inr (by decide))) (Or.inr (by decide))) (mUp_no e89 (mUp_no e85 (mUp_no e81 (mUp_at e77) (Or.inr (by decide))) (Or.inr (by decide))) (Or.inr (by decide))) (mUp_no e89 (mUp_no e85 (mUp_at e81) (Or.inr (by decide))) (Or.inr (by decide))) (mUp_no e89 (mUp_at e85) (Or.inr (by decide))) (mUp_at e89) (by first | with_reducible assumption | omega) (by first | with_reducible assumption | omega) (by first | with_reducible assumption | omega) (by first | with_reducible assumption | omega) (TK_sm (Sm.up e89 g_739_38 rfl) (TK_sm (Sm.up e85 g_739_44 rfl) (TK_sm (Sm.up e81 g_739_43 rfl) (TK_sm (Sm.up e77 g_739_42 rfl) (TK_sm (Sm.up e73 g_739_40 rfl) (TK_sm (Sm.up e69 g_739_39 rfl) pr65)))))) pr90 (WS_sm (Sm.up e89 g_739_38 rfl) (WS_sm (Sm.up e85 g_739_44 rfl) (WS_sm (Sm.up e81 g_739_43 rfl) (WS_sm (Sm.up e77 g_739_42 rfl) (WS_sm (Sm.up e73 g_739_40 rfl) (WS_sm (Sm.up e69 g_739_39 rfl) (WS_sm (Sm.fr hQ3 rfl) pp_WS))))))) (QW_sm (Sm.up e89 g_739_38 rfl) (QW_sm (Sm.up e85 g_739_44 rfl) (QW_sm (Sm.up e81 g_739_43 rfl) (QW_sm (Sm.up e77 g_739_42 rfl) (QW_sm (Sm.up e73 g_739_40 rfl) (QW_sm (Sm.up e69 g_739_39 rfl) (QW_sm (Sm.fr hQ3 rfl) pp_QW))))))) pr91 (TXQ_sm (Sm.up e89 g_739_38 rfl) (TXQ_sm (Sm.up e85 g_739_44 rfl) (TXQ_sm (Sm.up e81 g_739_43 rfl) (TXQ_sm (Sm.up e77 g_739_42 rfl) (TXQ_sm (Sm.up e73 g_739_40 rfl) (TXQ_sm (Sm.up e69 g_739_39 rfl) pr63)))))) (TTP_sm (Sm.up e89 g_739_38 rfl) (TTP_sm (Sm.up e85 g_739_44 rfl) (TTP_sm (Sm.up e81 g_739_43 rfl) (TTP_sm (Sm.up e77 g_739_42 rfl) (TTP_sm (Sm.up e73 g_739_40 rfl) (TTP_sm (Sm.up e69 g_739_39 rfl) pr62)))))) (by first | with_reducible assumption | omega) (by first | with_reducible assumption | omega) (by first | with_reducible assumption | omega) (by first | with_reducible assumption | omega) (by first | with_reducible assumption | omega) (by first | with_reducible assumption | omega) (by first | with_reducible assumption | omega) (by first | with_reducible assumption | omega) (by first | with_reducible assumption | omega) (by first | with_reducible assumption | omega) (by first | with_reducible assumption | omega) (by first | with_reducible assumption | omega) (by omega))
    · intro h103
      refine wk_al0 r91_48 (wk_c1 r91_49 (wk_cv2 r91_50 kc_739_137 rfl (m8137_739 _ M86 1 v32 v48 v24 hP87 (by decide) (by decide) (mUp_no e89 (mUp_no e85 (mUp_no e81 (mUp_no e77 (mUp_no e73 (mUp_no e69 e33 (Or.inr (by decide))) (Or.inr (by decide))) (Or.inr (by decide))) (Or.inr (by decide))) (Or.inr (by decide))) (Or.inr (by decide))) (by first | with_reducible assumption | omega) (by first | with_reducible assumption | omega) (mUp_no e89 (mUp_no e85 (mUp_no e81 (mUp_no e77 (mUp_no e73 (mUp_no e69 e49 (Or.inr (by decide))) (Or.inr (by decide))) (Or.inr (by decide))) (Or.inr (by decide))) (Or.inr (by decide))) (Or.inr (by decide))) (by first | with_reducible assumption | omega) (by first | with_reducible assumption | omega) (mUp_no e89 (mUp_no e85 (mUp_no e81 (mUp_no e77 (mUp_no e73 (mUp_no e69 e25 (Or.inr (by decide))) (Or.inr (by decide))) (Or.inr (by decide))) (Or.inr (by decide))) (Or.inr (by decide))) (Or.inr (by decide))) (by first | with_reducible assumption | omega) (by first | with_reducible assumption | omega)) (cqV ?_)))
      rintro M104 ⟨hP105, hQ106, h108, h109, h110, h111, h112, xh113⟩
      have hF107 : Fr fm_m8091_739 M0 M104 := hF88.tr hQ106 rfl
      obtain ⟨v114, e115⟩ : ∃ v, M104 739 28 = v := ⟨_, rfl⟩
      have h116 := (bf_739_28 hP105).1; rw [e115] at h116
      have h117 := (bf_739_28 hP105).2; rw [e115] at h117
      obtain ⟨v118, e119⟩ : ∃ v, M104 739 29 = v := ⟨_, rfl⟩
      have h120 := (bf_739_29 hP105).1; rw [e119] at h120
      have h121 := (bf_739_29 hP105).2; rw [e119] at h121
      have pr122 : FP M104 := FP_mn (Sm.fr hQ106 rfl) (fun q => by have := (mUp_no e89 (mUp_no e85 (mUp_no e81 (mUp_no e77 (mUp_no e73 (mUp_no e69 e33 (Or.inr (by decide))) (Or.inr (by decide))) (Or.inr (by decide))) (Or.inr (by decide))) (Or.inr (by decide))) (Or.inr (by decide))); have := e115; omega) pr90
      have pr123 : LRP M104 := LRP_mn (Sm.fr hQ106 rfl) (fun q => by have := (mUp_no e89 (mUp_no e85 (mUp_no e81 (mUp_no e77 (mUp_no e73 (mUp_no e69 e33 (Or.inr (by decide))) (Or.inr (by decide))) (Or.inr (by decide))) (Or.inr (by decide))) (Or.inr (by decide))) (Or.inr (by decide))); have := e115; omega) pr91
      exact wp_fg (le_s (le_n (le_s le_0))) (c53_3188 M104 v118 v114 hP105 hF107 e119 e115 ((hQ106.at g_739_13 rfl).trans (mUp_no e89 (mUp_no e85 (mUp_no e81 (mUp_no e77 (mUp_no e73 (mUp_no e69 ((hQ3.at g_739_13 rfl).trans ex739_13) (Or.inr (by decide))) (Or.inr (by decide))) (Or.inr (by decide))) (Or.inr (by decide))) (Or.inr (by decide))) (Or.inr (by decide)))) ((hQ106.at g_739_1 rfl).trans (mUp_no e89 (mUp_no e85 (mUp_no e81 (mUp_no e77 (mUp_no e73 (mUp_no e69 ((hQ3.at g_739_1 rfl).trans ex739_1) (Or.inr (by decide))) (Or.inr (by decide))) (Or.inr (by decide))) (Or.inr (by decide))) (Or.inr (by decide))) (Or.inr (by decide)))) ((hQ106.at g_739_21 rfl).trans (mUp_no e89 (mUp_no e85 (mUp_no e81 (mUp_no e77 (mUp_no e73 (mUp_no e69 ((hQ3.at g_739_21 rfl).trans ex739_21) (Or.inr (by decide))) (Or.inr (by decide))) (Or.inr (by decide))) (Or.inr (by decide))) (Or.inr (by decide))) (Or.inr (by decide)))) ((hQ106.at g_739_27 rfl).trans (mUp_no e89 (mUp_no e85 (mUp_no e81 (mUp_no e77 (mUp_no e73 (mUp_no e69 e21 (Or.inr (by decide))) (Or.inr (by decide))) (Or.inr (by decide))) (Or.inr (by decide))) (Or.inr (by decide))) (Or.inr (by decide)))) ((hQ106.at g_739_0 rfl).trans (mUp_no e89 (mUp_no e85 (mUp_no e81 (mUp_no e77 (mUp_no e73 (mUp_no e69 e29 (Or.inr (by decide))) (Or.inr (by decide))) (Or.inr (by decide))) (Or.inr (by decide))) (Or.inr (by decide))) (Or.inr (by decide)))) ((hQ106.at g_739_45 rfl).trans (mUp_no e89 (mUp_no e85 (mUp_no e81 (mUp_no e77 (mUp_no e73 (mUp_no e69 e37 (Or.inr (by decide))) (Or.inr (by decide))) (Or.inr (by decide))) (Or.inr (by decide))) (Or.inr (by decide))) (Or.inr (by decide)))) ((hQ106.at g_739_30 rfl).trans (mUp_no e89 (mUp_no e85 (mUp_no e81 (mUp_no e77 (mUp_no e73 (mUp_no e69 e41 (Or.inr (by decide))) (Or.inr (by decide))) (Or.inr (by decide))) (Or.inr (by decide))) (Or.inr (by decide))) (Or.inr (by decide)))) ((hQ106.at g_739_31 rfl).trans (mUp_no e89 (mUp_no e85 (mUp_no e81 (mUp_no e77 (mUp_no e73 (mUp_no e69 e45 (Or.inr (by decide))) (Or.inr (by decide))) (Or.inr (by decide))) (Or.inr (by decide))) (Or.inr (by decide))) (Or.inr (by decide)))) ((hQ106.at g_739_33 rfl).trans (mUp_no e89 (mUp_no e85 (mUp_no e81 (mUp_no e77 (mUp_no e73 (mUp_no e69 e49 (Or.inr (by decide))) (Or.inr (by decide))) (Or.inr (by decide))) (Or.inr (by decide))) (Or.inr (by decide))) (Or.inr (by decide)))) ((hQ106.at g_739_34 rfl).trans (mUp_no e89 (mUp_no e85 (mUp_no e81 (mUp_no e77 (mUp_no e73 (mUp_no e69 e53 (Or.inr (by decide))) (Or.inr (by decide))) (Or.inr (by decide))) (Or.inr (by decide))) (Or.inr (by decide))) (Or.inr (by decide)))) ((hQ106.at g_739_32 rfl).trans (mUp_no e89 (mUp_no e85 (mUp_no e81 (mUp_no e77 (mUp_no e73 (mUp_no e69 e57 (Or.inr (by decide))) (Or.inr (by decide))) (Or.inr (by decide))) (Or.inr (by decide))) (Or.inr (by decide))) (Or.inr (by decide)))) ((hQ106.at g_739_39 rfl).trans (mUp_no e89 (mUp_no e85 (mUp_no e81 (mUp_no e77 (mUp_no e73 (mUp_at e69) (Or.inr (by decide))) (Or.inr (by decide))) (Or.inr (by decide))) (Or.inr (by decide))) (Or.inr (by decide)))) ((hQ106.at g_739_40 rfl).trans (mUp_no e89 (mUp_no e85 (mUp_no e81 (mUp_no e77 (mUp_at e73) (Or.inr (by decide))) (Or.inr (by decide))) (Or.inr (by decide))) (Or.inr (by decide)))) ((hQ106.at g_739_42 rfl).trans (mUp_no e89 (mUp_no e85 (mUp_no e81 (mUp_at e77) (Or.inr (by decide))) (Or.inr (by decide))) (Or.inr (by decide)))) ((hQ106.at g_739_43 rfl).trans (mUp_no e89 (mUp_no e85 (mUp_at e81) (Or.inr (by decide))) (Or.inr (by decide)))) ((hQ106.at g_739_44 rfl).trans (mUp_no e89 (mUp_at e85) (Or.inr (by decide)))) ((hQ106.at g_739_38 rfl).trans (mUp_at e89)) (by first | with_reducible assumption | omega) (by first | with_reducible assumption | omega) (by first | with_reducible assumption | omega) (by first | with_reducible assumption | omega) (TK_sm (Sm.fr hQ106 rfl) (TK_sm (Sm.up e89 g_739_38 rfl) (TK_sm (Sm.up e85 g_739_44 rfl) (TK_sm (Sm.up e81 g_739_43 rfl) (TK_sm (Sm.up e77 g_739_42 rfl) (TK_sm (Sm.up e73 g_739_40 rfl) (TK_sm (Sm.up e69 g_739_39 rfl) pr65))))))) pr122 (WS_sm (Sm.fr hQ106 rfl) (WS_sm (Sm.up e89 g_739_38 rfl) (WS_sm (Sm.up e85 g_739_44 rfl) (WS_sm (Sm.up e81 g_739_43 rfl) (WS_sm (Sm.up e77 g_739_42 rfl) (WS_sm (Sm.up e73 g_739_40 rfl) (WS_sm (Sm.up e69 g_739_39 rfl) (WS_sm (Sm.fr hQ3 rfl) pp_WS)))))))) (QW_sm (Sm.fr hQ106 rfl) (QW_sm (Sm.up e89 g_739_38 rfl) (QW_sm (Sm.up e85 g_739_44 rfl) (QW_sm (Sm.up e81 g_739_43 rfl) (QW_sm (Sm.up e77 g_739_42 rfl) (QW_sm (Sm.up e73 g_739_40 rfl) (QW_sm (Sm.up e69 g_739_39 rfl) (QW_sm (Sm.fr hQ3 rfl) pp_QW)))))))) pr123 (TXQ_sm (Sm.fr hQ106 rfl) (TXQ_sm (Sm.up e89 g_739_38 rfl) (TXQ_sm (Sm.up e85 g_739_44 rfl) (TXQ_sm (Sm.up e81 g_739_43 rfl) (TXQ_sm (Sm.up e77 g_739_42 rfl) (TXQ_sm (Sm.up e73 g_739_40 rfl) (TXQ_sm (Sm.up e69 g_739_39 rfl) pr63))))))) (TTP_sm (Sm.fr hQ106 rfl) (TTP_sm (Sm.up e89 g_739_38 rfl) (TTP_sm (Sm.up e85 g_739_44 rfl) (TTP_sm (Sm.up e81 g_739_43 rfl) (TTP_sm (Sm.up e77 g_739_42 rfl) (TTP_sm (Sm.up e73 g_739_40 rfl) (TTP_sm (Sm.up e69 g_739_39 rfl) pr62))))))) (by first | with_reducible assumption | omega) (by first | with_reducible assumption | omega) (by first | with_reducible assumption | omega) (by first | with_reducible assumption | omega) (by first | with_reducible assumption | omega) (by first | with_reducible assumption | omega) (by first | with_reducible assumption | omega) (by first | with_reducible assumption | omega) (by first | with_reducible assumption | omega) (by first | with_reducible assumption | omega) (by first | with_reducible assumption | omega) (by first | with_reducible assumption | omega) (by omega))
  · intro h3189
    clear h8 h9 h10 h11 h12 h13
    refine wk_c1 r91_8 ?_
    subst hQ; exact wk_iret r91_9 (⟨rfl, _, rfl, hP2, hF4, by omega, by omega, by have := e21; omega, by rw [e29, ((hQ3.at g_739_1 rfl).trans ex739_1), ((hQ3.at g_739_13 rfl).trans ex739_13), ((hQ3.at g_739_21 rfl).trans ex739_21), e25]; exact INR_t (by omega), (WS_sm (Sm.fr hQ3 rfl) pp_WS), (QW_sm (Sm.fr hQ3 rfl) pp_QW)⟩)
