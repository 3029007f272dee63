set_option maxHeartbeats 20000000 in
/-- IslandHallModel.island -/
theorem n8091_739 {B : eB} (d : Nat) (M0 : Mm) (p1 : Int) (x739_27 : Int) (x739_29 : Int) (x739_13 : Int) (x739_1 : Int) (x739_21 : Int) (T : Int → Int) (hP0 : Pw M0) (l1 : (-2147483648) ≤ p1) (u1 : p1 ≤ 2147483647) (ex739_27 : M0 739 27 = x739_27) (lx739_27 : 0 ≤ x739_27) (ux739_27 : x739_27 ≤ 500) (ex739_29 : M0 739 29 = x739_29) (lx739_29 : (-1) ≤ x739_29) (ux739_29 : x739_29 ≤ 501) (ex739_13 : M0 739 13 = x739_13) (lx739_13 : 0 ≤ x739_13) (ux739_13 : x739_13 ≤ 30) (ex739_1 : M0 739 1 = x739_1) (lx739_1 : 0 ≤ x739_1) (ux739_1 : x739_1 ≤ 7) (ex739_21 : M0 739 21 = x739_21) (lx739_21 : 0 ≤ x739_21) (ux739_21 : x739_21 ≤ 10) (xp0 : ∀ k : Int, 0 ≤ k → k < p1 → M0 755 k = T k) (xp1 : 0 ≤ p1 → p1 ≤ x739_27 → HFM T p1) (pp_WS : WS M0) (pp_QW : QW M0) : Ct B (d + 9) 91 [R 739, I p1] M0 (qI fun z M => Pw M ∧ Fr fm_n8091_739 M0 M ∧ 0 ≤ z ∧ z ≤ 6 ∧ ((0 ≤ p1 ∧ p1 ≤ x739_27 ∧ M 739 27 = 0) ∨ ((p1 < 0 ∨ x739_27 < p1) ∧ M 739 27 = x739_27)) ∧ (INR T p1 x739_27 x739_1 x739_13 x739_21 x739_29 (M 739 0) z (M 739 1) (M 739 13) (M 739 21) (M 739 29)) ∧ (M 739 0 = 0 → z = 0 → ∃ (F : List Int) (K : List (List Int)), ISD T p1 (M 739 1) (M 739 2, M 739 40, ltI (M 739 3), M 739 43 - 1, nrF (fun k => M 740 k) (M 739 3) F) ∧ al2 (CDM T p1 (M 739 1)) F K ∧ RNS K ∧ MKS M (fun k => M 740 k) (M 739 2) (M 739 41) (M 739 43) (eDq (M 739 40)) K (NMx (PRD (fun k => M 740 k) 0 (M 739 1).toNat) (M 739 2) 0 (M 739 41) 0 (M 739 43) 0) ∧ ((M 739 40 = -1 ∧ M 739 3 ≠ 0 ∧ M 739 41 = 7) ∨ (¬ (M 739 40 = -1 ∧ M 739 3 ≠ 0) ∧ M 739 41 = 1)) ∧ M 739 13 = 0 ∧ M 739 15 = 0 ∧ M 739 21 = 0 ∧ M 739 24 = -1 ∧ M 739 64 = -1 ∧ M 739 65 = 0) ∧ ((M 739 0 ≠ 0 ∨ z ≠ 0) → SMR M0 M) ∧ (WS M) ∧ (QW M)) := by
  refine ct_of (d := d + 8) (k := 1) (L := [some (R 739), some (I p1), none]) rfl rfl rfl ?_
  have hF0 := Fr.rf fm_n8091_739 M0
  generalize hQ : (qI fun z M => Pw M ∧ Fr fm_n8091_739 M0 M ∧ 0 ≤ z ∧ z ≤ 6 ∧ ((0 ≤ p1 ∧ p1 ≤ x739_27 ∧ M 739 27 = 0) ∨ ((p1 < 0 ∨ x739_27 < p1) ∧ M 739 27 = x739_27)) ∧ (INR T p1 x739_27 x739_1 x739_13 x739_21 x739_29 (M 739 0) z (M 739 1) (M 739 13) (M 739 21) (M 739 29)) ∧ (M 739 0 = 0 → z = 0 → ∃ (F : List Int) (K : List (List Int)), ISD T p1 (M 739 1) (M 739 2, M 739 40, ltI (M 739 3), M 739 43 - 1, nrF (fun k => M 740 k) (M 739 3) F) ∧ al2 (CDM T p1 (M 739 1)) F K ∧ RNS K ∧ MKS M (fun k => M 740 k) (M 739 2) (M 739 41) (M 739 43) (eDq (M 739 40)) K (NMx (PRD (fun k => M 740 k) 0 (M 739 1).toNat) (M 739 2) 0 (M 739 41) 0 (M 739 43) 0) ∧ ((M 739 40 = -1 ∧ M 739 3 ≠ 0 ∧ M 739 41 = 7) ∨ (¬ (M 739 40 = -1 ∧ M 739 3 ≠ 0) ∧ M 739 41 = 1)) ∧ M 739 13 = 0 ∧ M 739 15 = 0 ∧ M 739 21 = 0 ∧ M 739 24 = -1 ∧ M 739 64 = -1 ∧ M 739 65 = 0) ∧ ((M 739 0 ≠ 0 ∨ z ≠ 0) → SMR M0 M) ∧ (WS M) ∧ (QW M)) = Q
  refine wk_al0 r91_0 (wk_il1 r91_1 (wk_cv2 r91_2 kc_739_50 rfl (n8050_739 _ M0 p1 x739_27 x739_29 T hP0 (by first | with_reducible assumption | omega) (by first | with_reducible assumption | omega) ex739_27 (by first | with_reducible assumption | omega) (by first | with_reducible assumption | omega) ex739_29 (by first | with_reducible assumption | omega) (by first | with_reducible assumption | omega) (xp0)) (cqI ?_)))
  rintro v17 M1 ⟨hP2, hQ3, h18, h19, h5, h6, h7, h8, h9, h10, h11, h12, h13, xh14, xh15, xh16⟩
  have hF4 : Fr fm_n8091_739 M0 M1 := hF0.tr hQ3 rfl
  obtain ⟨v20, e21⟩ : ∃ v, M1 739 27 = v := ⟨_, rfl⟩
  have h22 := (bf_739_27 hP2).1; rw [e21] at h22
  have h23 := (bf_739_27 hP2).2; rw [e21] at h23
  obtain ⟨v24, e25⟩ : ∃ v, M1 739 29 = v := ⟨_, rfl⟩
  have h26 := (bf_739_29 hP2).1; rw [e25] at h26
  have h27 := (bf_739_29 hP2).2; rw [e25] at h27
  obtain ⟨v28, e29⟩ : ∃ v, M1 739 0 = v := ⟨_, rfl⟩
  have h30 := (bf_739_0 hP2).1; rw [e29] at h30
  have h31 := (bf_739_0 hP2).2; rw [e29] at h31
  obtain ⟨v32, e33⟩ : ∃ v, M1 739 28 = v := ⟨_, rfl⟩
  have h34 := (bf_739_28 hP2).1; rw [e33] at h34
  have h35 := (bf_739_28 hP2).2; rw [e33] at h35
  obtain ⟨v36, e37⟩ : ∃ v, M1 739 45 = v := ⟨_, rfl⟩
  have h38 := (bf_739_45 hP2).1; rw [e37] at h38
  have h39 := (bf_739_45 hP2).2; rw [e37] at h39
  obtain ⟨v40, e41⟩ : ∃ v, M1 739 30 = v := ⟨_, rfl⟩
  have h42 := (bf_739_30 hP2).1; rw [e41] at h42
  have h43 := (bf_739_30 hP2).2; rw [e41] at h43
  obtain ⟨v44, e45⟩ : ∃ v, M1 739 31 = v := ⟨_, rfl⟩
  have h46 := (bf_739_31 hP2).1; rw [e45] at h46
  have h47 := (bf_739_31 hP2).2; rw [e45] at h47
  obtain ⟨v48, e49⟩ : ∃ v, M1 739 33 = v := ⟨_, rfl⟩
  have h50 := (bf_739_33 hP2).1; rw [e49] at h50
  have h51 := (bf_739_33 hP2).2; rw [e49] at h51
  obtain ⟨v52, e53⟩ : ∃ v, M1 739 34 = v := ⟨_, rfl⟩
  have h54 := (bf_739_34 hP2).1; rw [e53] at h54
  have h55 := (bf_739_34 hP2).2; rw [e53] at h55
  obtain ⟨v56, e57⟩ : ∃ v, M1 739 32 = v := ⟨_, rfl⟩
  have h58 := (bf_739_32 hP2).1; rw [e57] at h58
  have h59 := (bf_739_32 hP2).2; rw [e57] at h59
  refine wk_ifne r91_5 ⟨by omega, by omega⟩ ?_ ?_
  · intro h60
    replace h8 := h8 (z1_of h18 h19 h60)
    replace h9 := h9 (z1_of h18 h19 h60)
    replace h10 := h10 (z1_of h18 h19 h60)
    replace h11 := h11 (z1_of h18 h19 h60)
    replace h12 := h12 (z1_of h18 h19 h60)
    replace h13 := h13 (z1_of h18 h19 h60)
    have h61 := or_l xh16 (by omega)
    have pr63 : TXQ T M1 := h61.1
    have pr62 : TTP T M1 := h61.2.1
    have h64 := h61.2.2
    have he9 : v40 = p1 := by have := e41; omega
    have he0 : v48 = sk T p1 0 := by have := e49; omega
    obtain rfl : p1 = v40 := by omega
    have pr65 : TK M1 := xh15 (by omega)
    refine wk_al0 r91_10 (wk_c1 r91_11 (wk_putfi81 r91_12 fd_739_39 (wk_nw g_739_39 rfl hP2 hF4 (uf_739_39 (by decide)) ?_)))
    intro M66 hP67 hF68 e69
    refine wk_al0 r91_15 (wk_c1 r91_16 (wk_putfi81 r91_17 fd_739_40 (wk_nw g_739_40 rfl hP67 hF68 (uf_739_40 (by decide)) ?_)))
    intro M70 hP71 hF72 e73
    refine wk_al0 r91_20 (wk_c1 r91_21 (wk_putfi81 r91_22 fd_739_42 (wk_nw g_739_42 rfl hP71 hF72 (uf_739_42 (by decide)) ?_)))
    intro M74 hP75 hF76 e77
    refine wk_al0 r91_25 (wk_c1 r91_26 (wk_putfi81 r91_27 fd_739_43 (wk_nw g_739_43 rfl hP75 hF76 (uf_739_43 (by decide)) ?_)))
    intro M78 hP79 hF80 e81
    refine wk_al0 r91_30 (wk_c1 r91_31 (wk_putfi81 r91_32 fd_739_44 (wk_nw g_739_44 rfl hP79 hF80 (uf_739_44 (by decide)) ?_)))
    intro M82 hP83 hF84 e85
    refine wk_al0 r91_35 (wk_c1 r91_36 (wk_putfi81 r91_37 fd_739_38 (wk_nw g_739_38 rfl hP83 hF84 (uf_739_38 (by decide)) ?_)))
    intro M86 hP87 hF88 e89
    have pr90 : FP M86 := FP_0 (mUp_no e89 (mUp_at e85) (Or.inr (by decide))) ((mUp_no e89 (mUp_no e85 (mUp_no e81 (mUp_no e77 (mUp_no e73 (mUp_no e69 e37 (Or.inr (by decide))) (Or.inr (by decide))) (Or.inr (by decide))) (Or.inr (by decide))) (Or.inr (by decide))) (Or.inr (by decide))).trans (by omega))
    have pr91 : LRP M86 := fun _ => by have := (mUp_no e89 (mUp_no e85 (mUp_no e81 (mUp_at e77) (Or.inr (by decide))) (Or.inr (by decide))) (Or.inr (by decide))); omega
    refine wk_al0 r91_40 (wk_cv1 r91_41 kc_739_97 rfl (n8097_739 _ M86 v56 v52 p1 v48 T hP87 (mUp_no e89 (mUp_no e85 (mUp_no e81 (mUp_no e77 (mUp_no e73 (mUp_no e69 e57 (Or.inr (by decide))) (Or.inr (by decide))) (Or.inr (by decide))) (Or.inr (by decide))) (Or.inr (by decide))) (Or.inr (by decide))) (by first | with_reducible assumption | omega) (by first | with_reducible assumption | omega) (mUp_no e89 (mUp_no e85 (mUp_no e81 (mUp_no e77 (mUp_no e73 (mUp_no e69 e53 (Or.inr (by decide))) (Or.inr (by decide))) (Or.inr (by decide))) (Or.inr (by decide))) (Or.inr (by decide))) (Or.inr (by decide))) (by first | with_reducible assumption | omega) (by first | with_reducible assumption | omega) (mUp_no e89 (mUp_no e85 (mUp_no e81 (mUp_no e77 (mUp_no e73 (mUp_no e69 e41 (Or.inr (by decide))) (Or.inr (by decide))) (Or.inr (by decide))) (Or.inr (by decide))) (Or.inr (by decide))) (Or.inr (by decide))) (by first | with_reducible assumption | omega) (by first | with_reducible assumption | omega) (mUp_no e89 (mUp_no e85 (mUp_no e81 (mUp_no e77 (mUp_no e73 (mUp_no e69 e49 (Or.inr (by decide))) (Or.inr (by decide))) (Or.inr (by decide))) (Or.inr (by decide))) (Or.inr (by decide))) (Or.inr (by decide))) (by first | with_reducible assumption | omega) (by first | with_reducible assumption | omega) (TK_sm (Sm.up e89 g_739_38 rfl) (TK_sm (Sm.up e85 g_739_44 rfl) (TK_sm (Sm.up e81 g_739_43 rfl) (TK_sm (Sm.up e77 g_739_42 rfl) (TK_sm (Sm.up e73 g_739_40 rfl) (TK_sm (Sm.up e69 g_739_39 rfl) pr65)))))) (TTP_sm (Sm.up e89 g_739_38 rfl) (TTP_sm (Sm.up e85 g_739_44 rfl) (TTP_sm (Sm.up e81 g_739_43 rfl) (TTP_sm (Sm.up e77 g_739_42 rfl) (TTP_sm (Sm.up e73 g_739_40 rfl) (TTP_sm (Sm.up e69 g_739_39 rfl) pr62))))))) (cqI ?_))
    rintro v98 M92 ⟨hP93, hQ94, h99, h100, h96, xh97⟩
    obtain rfl := Fr.same hQ94
    have e101 := (mUp_no e89 (mUp_no e85 (mUp_no e81 (mUp_no e77 (mUp_no e73 (mUp_no e69 e53 (Or.inr (by decide))) (Or.inr (by decide))) (Or.inr (by decide))) (Or.inr (by decide))) (Or.inr (by decide))) (Or.inr (by decide)))
    have hk5 := xh97; rw [he0] at hk5
    refine wk_c1 r91_44 ?_
    have c53_3494 : ∀ (M124 : Mm) (v127 : Int) (v131 : Int), Pw M124 → Fr fm_n8091_739 M0 M124 → M124 739 29 = v127 → M124 739 28 = v131 → M124 739 13 = x739_13 → M124 739 1 = x739_1 → M124 739 21 = x739_21 → M124 739 27 = v20 → M124 739 0 = v28 → M124 739 45 = v36 → M124 739 30 = p1 → M124 739 31 = v44 → M124 739 33 = v48 → M124 739 34 = v52 → M124 739 32 = v56 → M124 739 39 = 1 → M124 739 40 = (-1) → M124 739 42 = 0 → M124 739 43 = 1 → M124 739 44 = 0 → M124 739 38 = 0 → (-1) ≤ v127 → v127 ≤ 501 → 0 ≤ v131 → v131 ≤ 6 → (TK M124) → (FP M124) → (WS M124) → (QW M124) → (LRP M124) → (TXQ T M124) → (TTP T M124) → (SMR M0 M124) → v127 - v131 ≤ 500 → 0 ≤ 1 * p1 + (-1) * v44 → 0 ≤ 1 * v44 + (-1) * v48 + (-1) * v52 → 0 ≤ (-1) * v44 + 1 * v48 + 1 * v52 → 0 ≤ 4 * v52 + (-1) * v56 → 0 ≤ 1 * v48 + (-2) * v36 + 3000 * v131 + 2 → 0 ≤ (-1) * v36 + 262 → 0 ≤ (-1) * 0 + 1 * v48 + 3000 * v131 → 0 ≤ (-1) * 1 + 4 + 3000 * v131 → 0 ≤ 1 * 1 + (-1) + 3000 * v131 → 0 ≤ (-1) * (-1) + 6 + 3000 * v131 → 0 ≤ (-1) * 0 + 7 + 3000 * v131 → ((v131 = 0 ∧ kw T p1 (sk T p1 0) = 5 ∧ v127 = -1) ∨ (v131 = 1 ∧ kw T p1 (sk T p1 0) ≠ 5 ∧ v127 = sk T p1 0)) → Wp B (d + 8) 91 53 [some (R 739), none, none] [] M124 Q := by
      clear e25 h26 h27 e33 h34 h35 e41 h42 h43 hP67 hF68 e69 hP71 hF72 e73 hP75 hF76 e77 hP79 hF80 e81 hP83 hF84 e85 hP87 hF88 e89 pr90 pr91 hP93 hQ94 h99 h100 h96 xh97
      intro M124 v127 v131 hP125 hF126 e130 e134 e135 e136 e137 e138 e139 e140 e141 e142 e143 e144 e145 e146 e147 e148 e149 e150 e151 h128 h129 h132 h133 pr152 pr153 pr154 pr155 pr156 pr157 pr158 pr159 h160 h161 h162 h163 h164 h165 h166 h167 h168 h169 h170 h171 ti172
      refine wk_al0 r91_53 (wk_cv1 r91_54 kc_739_84 rfl (n8084_739 _ M124 v131 hP125 e134 (by first | with_reducible assumption | omega) (by first | with_reducible assumption | omega)) (cqI ?_))
      rintro v179 M173 ⟨hP174, hQ175, h180, h181, h177, h178⟩
      obtain rfl := Fr.same hQ175
      have e182 := e134
      have c64_3493 : ∀ (M216 : Mm) (v219 : Int) (v223 : Int) (v227 : Int) (v231 : Int), Pw M216 → Fr fm_n8091_739 M0 M216 → M216 739 31 = v219 → M216 739 33 = v223 → M216 739 34 = v227 → M216 739 32 = v231 → M216 739 29 = v127 → M216 739 28 = v131 → M216 739 13 = x739_13 → M216 739 1 = x739_1 → M216 739 21 = x739_21 → M216 739 27 = v20 → M216 739 0 = v28 → M216 739 45 = v36 → M216 739 30 = p1 → M216 739 39 = 1 → M216 739 40 = (-1) → M216 739 42 = 0 → M216 739 43 = 1 → M216 739 44 = 0 → M216 739 38 = 0 → 0 ≤ v219 → v219 ≤ 500 → 0 ≤ v223 → v223 ≤ 500 → 0 ≤ v227 → v227 ≤ 500 → 0 ≤ v231 → v231 ≤ 4 → (TK M216) → (FP M216) → (WS M216) → (QW M216) → (LRP M216) → (TXQ T M216) → (TTP T M216) → (SMR M0 M216) → 0 ≤ v219 - v223 → 0 ≤ v219 - v227 → (-3) ≤ v219 - v231 → v223 + v227 ≤ 500 → v223 + v231 ≤ 503 → (-3) ≤ v227 - v231 → 0 ≤ 1 * p1 + (-1) * v219 → 0 ≤ 1 * v219 + (-1) * v223 + (-1) * v227 → 0 ≤ (-1) * v219 + 1 * v223 + 1 * v227 → 0 ≤ 4 * v227 + (-1) * v231 → 0 ≤ 1 * v223 + (-2) * v36 + 3000 * v131 + 2 → 0 ≤ (-1) * v36 + 262 → 0 ≤ (-1) * 0 + 1 * v223 + 3000 * v131 → 0 ≤ (-1) * 1 + 4 + 3000 * v131 → 0 ≤ 1 * 1 + (-1) + 3000 * v131 → 0 ≤ (-1) * (-1) + 6 + 3000 * v131 → 0 ≤ (-1) * 0 + 7 + 3000 * v131 → ((v131 = 0 ∧ kw T p1 (sk T p1 0) = 5 ∧ v223 = nx T p1 (sk T p1 0) ∧ v127 = -1) ∨ (v131 = 1 ∧ kw T p1 (sk T p1 0) ≠ 5 ∧ v127 = sk T p1 0)) → Wp B (d + 8) 91 64 [some (R 739), none, none] [] M216 Q := by
        clear e45 h46 h47 e49 h50 h51 e53 h54 h55 e57 h58 h59 e101 hP174 hQ175 h180 h181 h177 h178
        intro M216 v219 v223 v227 v231 hP217 hF218 e222 e226 e230 e234 e235 e236 e237 e238 e239 e240 e241 e242 e243 e244 e245 e246 e247 e248 e249 h220 h221 h224 h225 h228 h229 h232 h233 pr250 pr251 pr252 pr253 pr254 pr255 pr256 pr257 h258 h259 h260 h261 h262 h263 h264 h265 h266 h267 h268 h269 h270 h271 h272 h273 h274 ti275
        refine wk_al0 r91_64 (wk_al0 r91_65 (wk_c1 r91_66 (wk_c2 r91_67 ?_)))
        obtain ⟨v276, e277⟩ : ∃ v, M216 739 35 = v := ⟨_, rfl⟩
        have h278 := (bf_739_35 hP217).1; rw [e277] at h278
        have h279 := (bf_739_35 hP217).2; rw [e277] at h279
        refine wk_cv3 r91_69 kc_739_114 rfl (n8114_739 _ M216 0 7 p1 v219 v223 v227 v231 v131 v276 v127 T hP217 (by decide) (by decide) (by decide) (by decide) e243 (by first | with_reducible assumption | omega) (by first | with_reducible assumption | omega) e222 (by first | with_reducible assumption | omega) (by first | with_reducible assumption | omega) e226 (by first | with_reducible assumption | omega) (by first | with_reducible assumption | omega) e230 (by first | with_reducible assumption | omega) (by first | with_reducible assumption | omega) e234 (by first | with_reducible assumption | omega) (by first | with_reducible assumption | omega) e236 (by first | with_reducible assumption | omega) (by first | with_reducible assumption | omega) e277 (by first | with_reducible assumption | omega) (by first | with_reducible assumption | omega) e235 (by first | with_reducible assumption | omega) (by first | with_reducible assumption | omega) (by omega) (by omega) (by omega) (by omega) pr250 pr255 pr256) (cqI ?_)
        rintro v300 M280 ⟨hP281, hQ282, h301, h302, h284, h285, h286, h287, h288, h289, h290, h291, h292, h293, h294, h295, xh296, pr297, pr298, pr299⟩
        have hF283 : Fr fm_n8091_739 M0 M280 := hF218.tr hQ282 rfl
        have e303 := ((hQ282.at g_739_30 rfl).trans e243)
        obtain ⟨v304, e305⟩ : ∃ v, M280 739 31 = v := ⟨_, rfl⟩
        have h306 := (bf_739_31 hP281).1; rw [e305] at h306
        have h307 := (bf_739_31 hP281).2; rw [e305] at h307
        obtain ⟨v308, e309⟩ : ∃ v, M280 739 33 = v := ⟨_, rfl⟩
        have h310 := (bf_739_33 hP281).1; rw [e309] at h310
        have h311 := (bf_739_33 hP281).2; rw [e309] at h311
        obtain ⟨v312, e313⟩ : ∃ v, M280 739 34 = v := ⟨_, rfl⟩
        have h314 := (bf_739_34 hP281).1; rw [e313] at h314
        have h315 := (bf_739_34 hP281).2; rw [e313] at h315
        obtain ⟨v316, e317⟩ : ∃ v, M280 739 32 = v := ⟨_, rfl⟩
        have h318 := (bf_739_32 hP281).1; rw [e317] at h318
        have h319 := (bf_739_32 hP281).2; rw [e317] at h319
        obtain ⟨v320, e321⟩ : ∃ v, M280 739 28 = v := ⟨_, rfl⟩
        have h322 := (bf_739_28 hP281).1; rw [e321] at h322
        have h323 := (bf_739_28 hP281).2; rw [e321] at h323
        obtain ⟨v324, e325⟩ : ∃ v, M280 739 29 = v := ⟨_, rfl⟩
        have h326 := (bf_739_29 hP281).1; rw [e325] at h326
        have h327 := (bf_739_29 hP281).2; rw [e325] at h327
        have pr328 : FP M280 := FP_mn (Sm.fr hQ282 rfl) (fun q => by have := e236; have := e321; omega) pr251
        have pr329 : LRP M280 := LRP_mn (Sm.fr hQ282 rfl) (fun q => by have := e236; have := e321; omega) pr254
        refine wk_putfi81 r91_72 fd_739_38 (wk_nw g_739_38 rfl hP281 hF283 (uf_739_38 ⟨by omega, by omega⟩) ?_)
        intro M330 hP331 hF332 e333
        have hy : (v320 = 0 ∧ kw T p1 (sk T p1 0) = 5 ∧ nuE T p1 v223 0 7 = 0 ∧ v300 = vlI T p1 v223 ∧ v308 = nx T p1 v223 ∧ v223 = nx T p1 (sk T p1 0)) ∨ (v320 ≠ 0 ∧ HDf T p1 (sk T p1 0) v320 v324) := by rcases xh296 with q | q | q; (exact Or.inl (by omega)); (exact Or.inr ⟨by omega, HD_2 (s1 := v223) (by omega) (by omega) (by omega)⟩); (exact Or.inr ⟨by omega, HD_1 (by omega)⟩)
        refine wk_c1 r91_75 (wk_is2 r91_76 rfl ?_)
        have c77_3492 : ∀ (k3492 : Nat) (M592 : Mm) (v589 : Int), (7 - v589).toNat = k3492 → Pw M592 → Fr fm_n8091_739 M0 M592 → M592 739 13 = x739_13 → M592 739 1 = x739_1 → M592 739 21 = x739_21 → M592 739 27 = v20 → M592 739 0 = v28 → M592 739 45 = v36 → M592 739 30 = p1 → M592 739 39 = 1 → M592 739 40 = (-1) → M592 739 42 = 0 → M592 739 43 = 1 → M592 739 44 = 0 → M592 739 38 = v300 → M592 739 31 = v304 → M592 739 33 = v308 → M592 739 34 = v312 → M592 739 32 = v316 → M592 739 28 = v320 → M592 739 29 = v324 → 0 ≤ v589 → v589 ≤ 7 → (TK M592) → (FP M592) → (WS M592) → (QW M592) → (LRP M592) → (TXQ T M592) → (TTP T M592) → (SMR M0 M592) → 0 ≤ 1 * p1 + (-1) * v304 → 0 ≤ 1 * v304 + (-1) * v308 + (-1) * v312 → 0 ≤ (-1) * v304 + 1 * v308 + 1 * v312 → 0 ≤ 4 * v312 + (-1) * v316 → 0 ≤ 1 * v308 + (-2) * v36 + 3000 * v320 + 2 → 0 ≤ (-1) * v36 + 262 → 0 ≤ (-1) * 0 + 1 * v308 + 3000 * v320 → 0 ≤ (-1) * 1 + 4 + 3000 * v320 → 0 ≤ 1 * 1 + (-1) + 3000 * v320 → 0 ≤ (-1) * (-1) + 6 + 3000 * v320 → 0 ≤ (-1) * v300 + 7 + 3000 * v320 → (∀ k : Int, 0 ≤ k → k < v589 → M592 756 k = 3) → Wp B (d + 8) 91 77 [some (R 739), none, some (I v589)] [] M592 Q := by
          clear hP125 hF126 e130 e134 e135 e136 e137 e138 e139 e140 e141 e142 e143 e144 e145 e146 e147 e148 e149 e150 e151 h128 h129 h132 h133 pr152 pr153 pr154 pr155 pr156 pr157 pr158 pr159 h160 h161 h162 h163 h164 h165 h166 h167 h168 h169 h170 h171 ti172 e182 e277 h278 h279 hP331 hF332 e333
          refine lp_ind ?_
          intro k3492 ih3492 M592 v589 hk3492 hP593 hF594 e595 e596 e597 e598 e599 e600 e601 e602 e603 e604 e605 e606 e607 e608 e609 e610 e611 e612 e613 h590 h591 pr614 pr615 pr616 pr617 pr618 pr619 pr620 pr621 h622 h623 h624 h625 h626 h627 h628 h629 h630 h631 h632 ti633
          refine wk_il2 r91_77 (wk_c2 r91_78 ?_)
          refine wk_icge r91_80 ⟨by omega, by omega⟩ (by decide) ?_ ?_
          · intro h634
            have pr635 : MRP M592 := fun k a b => by rw [ti633 k a (by omega)]; decide
            obtain ⟨u636, hu637⟩ : ∃ u : Int → Int, ∀ k, M592 756 k = u k := ⟨fun k => M592 756 k, fun k => rfl⟩
            have hu3 : ∀ k : Int, 0 ≤ k → k < 7 → u636 k = 3 := fun k a b => by rw [← hu637 k]; exact ti633 k a (by omega)
            refine wk_al0 r91_96 (wk_cv1 r91_97 kc_739_65 rfl (n8065_739 _ M592 p1 v304 v308 v312 v316 v320 v324 T hP593 e601 (by first | with_reducible assumption | omega) (by first | with_reducible assumption | omega) e608 (by first | with_reducible assumption | omega) (by first | with_reducible assumption | omega) e609 (by first | with_reducible assumption | omega) (by first | with_reducible assumption | omega) e610 (by first | with_reducible assumption | omega) (by first | with_reducible assumption | omega) e611 (by first | with_reducible assumption | omega) (by first | with_reducible assumption | omega) e612 (by first | with_reducible assumption | omega) (by first | with_reducible assumption | omega) e613 (by first | with_reducible assumption | omega) (by first | with_reducible assumption | omega) (by omega) (by omega) (by omega) (by omega) pr614 pr619 pr620) (cqV ?_))
            rintro M638 ⟨hP639, hQ640, h642, h643, h644, h645, h646, h647, h648, h649, h650, h651, xh652, pr653, pr654, pr655⟩
            have hF641 : Fr fm_n8091_739 M0 M638 := hF594.tr hQ640 rfl
            have e656 := ((hQ640.at g_739_30 rfl).trans e601)
            obtain ⟨v657, e658⟩ : ∃ v, M638 739 31 = v := ⟨_, rfl⟩
            have h659 := (bf_739_31 hP639).1; rw [e658] at h659
            have h660 := (bf_739_31 hP639).2; rw [e658] at h660
            obtain ⟨v661, e662⟩ : ∃ v, M638 739 33 = v := ⟨_, rfl⟩
            have h663 := (bf_739_33 hP639).1; rw [e662] at h663
            have h664 := (bf_739_33 hP639).2; rw [e662] at h664
            obtain ⟨v665, e666⟩ : ∃ v, M638 739 34 = v := ⟨_, rfl⟩
            have h667 := (bf_739_34 hP639).1; rw [e666] at h667
            have h668 := (bf_739_34 hP639).2; rw [e666] at h668
            obtain ⟨v669, e670⟩ : ∃ v, M638 739 32 = v := ⟨_, rfl⟩
            have h671 := (bf_739_32 hP639).1; rw [e670] at h671
            have h672 := (bf_739_32 hP639).2; rw [e670] at h672
            obtain ⟨v673, e674⟩ : ∃ v, M638 739 28 = v := ⟨_, rfl⟩
            have h675 := (bf_739_28 hP639).1; rw [e674] at h675
            have h676 := (bf_739_28 hP639).2; rw [e674] at h676
            obtain ⟨v677, e678⟩ : ∃ v, M638 739 29 = v := ⟨_, rfl⟩
            have h679 := (bf_739_29 hP639).1; rw [e678] at h679
            have h680 := (bf_739_29 hP639).2; rw [e678] at h680
            have pr681 : FP M638 := FP_mn (Sm.fr hQ640 rfl) (fun q => by have := e612; have := e674; omega) pr615
            have pr682 : LRP M638 := LRP_mn (Sm.fr hQ640 rfl) (fun q => by have := e612; have := e674; omega) pr618
            have c100_3486 : ∀ (k3486 : Nat) (M3064 : Mm) (v3067 : Int) (v3071 : Int) (v3075 : Int) (v3079 : Int) (v3083 : Int) (v3087 : Int) (v3091 : Int) (v3095 : Int) (v3099 : Int) (v3103 : Int) (v3107 : Int) (v3111 : Int), (10 * (501 - v3095) + (6 - v3107)).toNat = k3486 → Pw M3064 → Fr fm_n8091_739 M0 M3064 → M3064 739 45 = v3067 → M3064 739 39 = v3071 → M3064 739 40 = v3075 → M3064 739 42 = v3079 → M3064 739 43 = v3083 → M3064 739 44 = v3087 → M3064 739 31 = v3091 → M3064 739 33 = v3095 → M3064 739 34 = v3099 → M3064 739 32 = v3103 → M3064 739 28 = v3107 → M3064 739 29 = v3111 → M3064 739 13 = x739_13 → M3064 739 1 = x739_1 → M3064 739 21 = x739_21 → M3064 739 27 = v20 → M3064 739 0 = v28 → M3064 739 30 = p1 → M3064 739 38 = v300 → 0 ≤ v3067 → v3067 ≤ 262 → 0 ≤ v3071 → v3071 ≤ 999 → (-1) ≤ v3075 → v3075 ≤ 999 → (-2147483648) ≤ v3079 → v3079 ≤ 2147483647 → 1 ≤ v3083 → v3083 ≤ 2 → 0 ≤ v3087 → v3087 ≤ 500 → 0 ≤ v3091 → v3091 ≤ 500 → 0 ≤ v3095 → v3095 ≤ 500 → 0 ≤ v3099 → v3099 ≤ 500 → 0 ≤ v3103 → v3103 ≤ 4 → 0 ≤ v3107 → v3107 ≤ 6 → (-1) ≤ v3111 → v3111 ≤ 501 → (TK M3064) → (FP M3064) → (WS M3064) → (QW M3064) → (MRP M3064) → (LRP M3064) → (TXQ T M3064) → (TTP T M3064) → (SMR M0 M3064) → 0 ≤ 1 * p1 + (-1) * v3091 → 0 ≤ 1 * v3091 + (-1) * v3095 + (-1) * v3099 → 0 ≤ (-1) * v3091 + 1 * v3095 + 1 * v3099 → 0 ≤ 4 * v3099 + (-1) * v3103 → 0 ≤ 1 * v3095 + (-2) * v3067 + 3000 * v3107 + 2 → 0 ≤ (-1) * v3067 + 262 → 0 ≤ (-1) * v3087 + 1 * v3095 + 3000 * v3107 → 0 ≤ (-1) * v3087 + 502 → 0 ≤ (-1) * v3071 + 4 + 3000 * v3107 → 0 ≤ 1 * v3071 + (-1) + 3000 * v3107 → 0 ≤ (-1) * v3075 + 6 + 3000 * v3107 → 0 ≤ (-1) * v300 + 7 + 3000 * v3107 → (v3107 ≠ 0 ∨ v3111 = -1) → (∃ F : List Int, RY T p1 (sk T p1 0) v300 v3095 (v3071, v3075, ltI v3079, v3083 - 1, nrF (fun k => M3064 756 k) v3079 F) v3107 v3111 ∧ (v3107 = 0 → FLm T p1 v300 F (OW M3064).1 ∧ (v3087 : Int) = F.length)) → Wp B (d + 8) 91 100 [some (R 739), none, none] [] M3064 Q := by
              clear e37 h38 h39 hP217 hF218 e222 e226 e230 e234 e235 e236 e237 e238 e239 e240 e241 e242 e243 e244 e245 e246 e247 e248 e249 h220 h221 h224 h225 h228 h229 h232 h233 pr250 pr251 pr252 pr253 pr254 pr255 pr256 pr257 h258 h259 h260 h261 h262 h263 h264 h265 h266 h267 h268 h269 h270 h271 h272 h273 h274 ti275 e303 e305 h306 h307 e309 h310 h311 e313 h314 h315 e317 h318 h319 e321 h322 h323 e325 h326 h327 pr328 pr329 hP593 hF594 e595 e596 e597 e598 e599 e600 e601 e602 e603 e604 e605 e606 e607 e608 e609 e610 e611 e612 e613 h590 h591 pr614 pr615 pr616 pr617 pr618 pr619 pr620 pr621 h622 h623 h624 h625 h626 h627 h628 h629 h630 h631 h632 ti633 pr635 hu637 hu3 hP639 hQ640 h642 h643 h644 h645 h646 h647 h648 h649 h650 h651 xh652 pr653 pr654 pr655 e656 e658 h659 h660 e662 h663 h664 e666 h667 h668 e670 h671 h672 e674 h675 h676 e678 h679 h680 pr681 pr682 hy
              refine lp_ind ?_
              intro k3486 ih3486 M3064 v3067 v3071 v3075 v3079 v3083 v3087 v3091 v3095 v3099 v3103 v3107 v3111 hk3486 hP3065 hF3066 e3070 e3074 e3078 e3082 e3086 e3090 e3094 e3098 e3102 e3106 e3110 e3114 e3115 e3116 e3117 e3118 e3119 e3120 e3121 h3068 h3069 h3072 h3073 h3076 h3077 h3080 h3081 h3084 h3085 h3088 h3089 h3092 h3093 h3096 h3097 h3100 h3101 h3104 h3105 h3108 h3109 h3112 h3113 pr3122 pr3123 pr3124 pr3125 pr3126 pr3127 pr3128 pr3129 pr3130 h3131 h3132 h3133 h3134 h3135 h3136 h3137 h3138 h3139 h3140 h3141 h3142 ti3143 ti3144
              obtain ⟨F9, hry9, hfl9⟩ := ti3144
              refine wk_al0 r91_100 (wk_cv1 r91_101 kc_739_84 rfl (n8084_739 _ M3064 v3107 hP3065 e3110 (by first | with_reducible assumption | omega) (by first | with_reducible assumption | omega)) (cqI ?_))
              rintro v3151 M3145 ⟨hP3146, hQ3147, h3152, h3153, h3149, h3150⟩
              obtain rfl := Fr.same hQ3147
              have e3154 := e3110
              have c121_3485 : (v3107 ≠ 0 ∨ tt T p1 v3095 = 0) → Wp B (d + 8) 91 121 [some (R 739), none, none] [] M3064 Q := by
                clear hP3146 hQ3147 h3152 h3153 h3149 h3150
                intro ti3259
                refine wk_al0 r91_121 (wk_al0 r91_122 (wk_getfi r91_123 fd_739_40 e3078 (wk_c1 r91_126 ?_)))
                have c143_3484 : ∀ (v3264 : Int), 1 ≤ v3264 → v3264 ≤ 7 → ((v3075 = -1 ∧ v3079 ≠ 0 ∧ v3264 = 7) ∨ (¬ (v3075 = -1 ∧ v3079 ≠ 0) ∧ v3264 = 1)) → Wp B (d + 8) 91 143 [some (R 739), none, none] [I v3264, R 739] M3064 Q := by
                  intro v3264 h3265 h3266 ti3267
                  refine wk_putfi81 r91_143 fd_739_41 (wk_nw g_739_41 rfl hP3065 hF3066 (uf_739_41 ⟨by omega, by omega⟩) ?_)
                  intro M3268 hP3269 hF3270 e3271
                  refine wk_al0 r91_146 (wk_cv1 r91_147 kc_739_84 rfl (n8084_739 _ M3268 v3107 hP3269 (mUp_no e3271 e3110 (Or.inr (by decide))) (by first | with_reducible assumption | omega) (by first | with_reducible assumption | omega)) (cqI ?_))
                  rintro v3278 M3272 ⟨hP3273, hQ3274, h3279, h3280, h3276, h3277⟩
                  obtain rfl := Fr.same hQ3274
                  have e3281 := (mUp_no e3271 e3110 (Or.inr (by decide)))
                  refine wk_ifeq r91_150 ⟨by omega, by omega⟩ ?_ ?_
                  · intro h3282
                    have hio : IO T p1 v3107 v3111 v300 := RY_b hry9 (by omega) (by omega) (by omega)
                    refine wk_al0 r91_169 (wk_cv1 r91_170 kc_739_84 rfl (n8084_739 _ M3268 v3107 hP3269 (mUp_no e3271 e3110 (Or.inr (by decide))) (by first | with_reducible assumption | omega) (by first | with_reducible assumption | omega)) (cqI ?_))
                    rintro v3289 M3283 ⟨hP3284, hQ3285, h3290, h3291, h3287, h3288⟩
                    obtain rfl := Fr.same hQ3285
                    have e3292 := (mUp_no e3271 e3110 (Or.inr (by decide)))
                    refine wk_ifne r91_173 ⟨by omega, by omega⟩ ?_ ?_
                    · intro h3293
                      exfalso
                      omega
                    · intro h3294
                      refine wk_al0 r91_176 (wk_getfi r91_177 fd_739_28 (mUp_no e3271 e3110 (Or.inr (by decide))) ?_)
                      subst hQ; exact wk_iret r91_180 (⟨rfl, _, rfl, hP3269, hF3270, by omega, by omega, by have := (mUp_no e3271 e3118 (Or.inr (by decide))); omega, by rw [(mUp_no e3271 e3119 (Or.inr (by decide))), (mUp_no e3271 e3116 (Or.inr (by decide))), (mUp_no e3271 e3115 (Or.inr (by decide))), (mUp_no e3271 e3117 (Or.inr (by decide))), (mUp_no e3271 e3114 (Or.inr (by decide)))]; exact INR_r hio (by omega) (by omega) (by omega) (by omega), fun _ q => absurd q (by omega), fun _ => (SMR_sm (Sm.up e3271 g_739_41 rfl) pr3130), (WS_sm (Sm.up e3271 g_739_41 rfl) pr3124), (QW_sm (Sm.up e3271 g_739_41 rfl) pr3125)⟩)
                  · intro h3295
                    refine wk_al0 r91_153 (wk_cv1 r91_154 kc_739_127 rfl (n8127_739 _ M3268 v3071 v3264 v3083 v300 hP3269 (mUp_no e3271 e3074 (Or.inr (by decide))) (by first | with_reducible assumption | omega) (by first | with_reducible assumption | omega) (mUp_at e3271) (by first | with_reducible assumption | omega) (by first | with_reducible assumption | omega) (mUp_no e3271 e3086 (Or.inr (by decide))) (by first | with_reducible assumption | omega) (by first | with_reducible assumption | omega) (mUp_no e3271 e3121 (Or.inr (by decide))) (by first | with_reducible assumption | omega) (by first | with_reducible assumption | omega) (MRP_sm (Sm.up e3271 g_739_41 rfl) pr3126)) (cqI ?_))
                    rintro v3302 M3296 ⟨hP3297, hQ3298, h3303, h3304, xh3300, xh3301⟩
                    obtain rfl := Fr.same hQ3298
                    have hsz8 := sz_mod (lv := v3079) (F := F9) (n39 := v3071) (n40 := v3075) (n41 := v3264) (n42 := v3079) (n43 := v3083) (pp := v300) (u := fun k => M3268 756 k) (by omega) ⟨by omega, by omega⟩
                    have hsx8 := xh3301
                    have hrow : (fun k => M3268 756 k) = (fun k => M3064 756 k) := funext fun k => by rw [e3271, mUp_ne (Or.inl (by decide))]
                    rw [hrow] at hsx8 hsz8
                    refine wk_c3 r91_157 ?_
                    refine wk_icle r91_160 ⟨by omega, by omega⟩ (by decide) ?_ ?_
                    · intro h3305
                      have hio : IO T p1 v3107 v3111 v300 := RY_e hry9 (by omega) (ti3259.resolve_left (fun q => q (by omega))) (Or.inr ⟨by omega, by omega, by omega⟩)
                      have hISD : ISD T p1 v300 (v3071, v3075, ltI v3079, v3083 - 1, nrF (fun k => M3064 756 k) v3079 F9) := ISD_my hry9 (by omega) (ti3259.resolve_left (fun q => q (by omega)))
                      have hzD9 : szD v300 (v3071, v3075, ltI v3079, v3083 - 1, nrF (fun k => M3064 756 k) v3079 F9) ≤ 3000 := by omega
                      refine wk_al0 r91_169 (wk_cv1 r91_170 kc_739_84 rfl (n8084_739 _ M3268 v3107 hP3269 (mUp_no e3271 e3110 (Or.inr (by decide))) (by first | with_reducible assumption | omega) (by first | with_reducible assumption | omega)) (cqI ?_))
                      rintro v3312 M3306 ⟨hP3307, hQ3308, h3313, h3314, h3310, h3311⟩
                      obtain rfl := Fr.same hQ3308
                      have e3315 := (mUp_no e3271 e3110 (Or.inr (by decide)))
                      refine wk_ifne r91_173 ⟨by omega, by omega⟩ ?_ ?_
                      · intro h3316
                        have hsz := xh3300 (by omega)
                        have h3317 : v3107 = 0 ∧ 1 ≤ v3071 ∧ v3071 ≤ 4 ∧ -1 ≤ v3075 ∧ v3075 ≤ 6 ∧ 0 ≤ v300 ∧ v300 ≤ 7 ∧ v3067 ≤ 262 ∧ 0 ≤ v3087 ∧ v3087 ≤ 500 := ⟨by omega, by omega, by omega, by omega, by omega, by omega, by omega, by omega, by omega, by omega⟩
                        have hMR : MRP M3268 := (MRP_sm (Sm.up e3271 g_739_41 rfl) pr3126)
                        obtain ⟨u3318, hu3319⟩ : ∃ u : Int → Int, ∀ k, M3268 757 k = u k := ⟨fun k => M3268 757 k, fun k => rfl⟩
                        obtain ⟨u3320, hu3321⟩ : ∃ u : Int → Int, ∀ k, M3268 756 k = u k := ⟨fun k => M3268 756 k, fun k => rfl⟩
                        have hu6 : ∀ k : Int, M3268 756 k = u3320 k := hu3321
                        obtain ⟨Mz, hMz⟩ : ∃ m : Mm, m = M3268 := ⟨_, rfl⟩
                        have hFD := FP_get (FP_sm (Sm.up e3271 g_739_41 rfl) pr3123) (mUp_no e3271 e3110 (Or.inr (by decide))) (by omega) (mUp_no e3271 e3090 (Or.inr (by decide))) (mUp_no e3271 e3070 (Or.inr (by decide))) hu3319
                        have hgk : M3268 739 28 = v3107 := (mUp_no e3271 e3110 (Or.inr (by decide)))
                        have hLP : LRP M3268 := (LRP_sm (Sm.up e3271 g_739_41 rfl) pr3127)
                        have hlr : M3268 739 42 = v3079 := (mUp_no e3271 e3082 (Or.inr (by decide)))
                        obtain ⟨⟨K9, eK9, aK9⟩, hfn9⟩ := hfl9 (by omega)
                        obtain ⟨L9, aE9⟩ := xp1 (by omega) (by omega) _ _ _ _ _ _ _ _ _ hzD9 hISD aK9
                        have hO9 : flO K9 = RLt (fun k => M3268 757 k) (M3268 739 45) := eK9.symm.trans (congrArg Prod.fst (OWe_sm (Sm.up e3271 g_739_41 rfl) (OWe_rf M3064))).symm
                        rw [(mUp_no e3271 e3070 (Or.inr (by decide)))] at hO9
                        have hM756 : ∀ k : Int, M3268 756 k = M3064 756 k := fun k => by rw [e3271, mUp_ne (Or.inl (by decide))]
                        refine wk_al0 r91_181 (wk_al0 r91_182 (wk_getfi r91_183 fd_739_38 (mUp_no e3271 e3121 (Or.inr (by decide))) (wk_putfi81 r91_186 fd_739_1 (wk_nw g_739_1 rfl hP3269 hF3270 (uf_739_1 ⟨by omega, by omega⟩) ?_))))
                        intro M3322 hP3323 hF3324 e3325
                        refine wk_al0 r91_189 (wk_al0 r91_190 (wk_getfi r91_191 fd_739_39 (mUp_no e3325 (mUp_no e3271 e3074 (Or.inr (by decide))) (Or.inr (by decide))) (wk_putfi81 r91_194 fd_739_2 (wk_nw g_739_2 rfl hP3323 hF3324 (uf_739_2 ⟨by omega, by omega⟩) ?_))))
                        intro M3326 hP3327 hF3328 e3329
                        refine wk_al0 r91_197 (wk_al0 r91_198 (wk_getfi r91_199 fd_739_42 (mUp_no e3329 (mUp_no e3325 (mUp_no e3271 e3082 (Or.inr (by decide))) (Or.inr (by decide))) (Or.inr (by decide))) ?_))
                        have h3330 : 0 ≤ v3079 ∧ v3079 ≤ 127 := by have q := hLP (by omega); have := hlr; omega
                        refine wk_putfi81 r91_202 fd_739_3 (wk_nw g_739_3 rfl hP3327 hF3328 (uf_739_3 ⟨by omega, by omega⟩) ?_)
                        intro M3331 hP3332 hF3333 e3334
                        refine wk_al0 r91_205 (wk_al0 r91_206 (wk_getfi r91_207 fd_739_44 (mUp_no e3334 (mUp_no e3329 (mUp_no e3325 (mUp_no e3271 e3090 (Or.inr (by decide))) (Or.inr (by decide))) (Or.inr (by decide))) (Or.inr (by decide))) (wk_putfi81 r91_210 fd_739_4 (wk_nw g_739_4 rfl hP3332 hF3333 (uf_739_4 ⟨by omega, by omega⟩) ?_))))
                        intro M3335 hP3336 hF3337 e3338
                        refine wk_c1 r91_213 (wk_is2 r91_214 rfl ?_)
                        have htop9 : v3067 ≤ 251 := by omega
                        clear h3092 h3093 h3096 h3097 h3100 h3101 h3104 h3105 h3131 h3132 h3133 h3134 h3135 h3136 h3137 h3138 h3139 h3140 h3141 h3142 e3074 e3082 e3090 e3094 e3098 e3102 e3106 e3110 e3116 e3120 e3121 pr3122 pr3123 pr3126 pr3127 pr3128 pr3129 pr3130 ti3143 hsz8 hsx8 hrow hgk hLP hlr ti3259 hry9 hfl9
                        have hti : ∀ _ : Nat, ((v3075 = -1 ∧ v3079 ≠ 0 ∧ v3264 = 7) ∨ (¬ (v3075 = -1 ∧ v3079 ≠ 0) ∧ v3264 = 1)) := fun _ => ti3267
                        clear ti3267
                        have c215_3449 : ∀ (k3449 : Nat) (M3342 : Mm) (v3339 : Int), (7 - v3339).toNat = k3449 → Pw M3342 → Fr fm_n8091_739 M0 M3342 → M3342 739 45 = v3067 → M3342 739 40 = v3075 → M3342 739 43 = v3083 → M3342 739 29 = v3111 → M3342 739 13 = x739_13 → M3342 739 1 = v300 → M3342 739 21 = x739_21 → M3342 739 27 = v20 → M3342 739 0 = v28 → M3342 739 41 = v3264 → M3342 739 2 = v3071 → M3342 739 3 = v3079 → M3342 739 4 = v3087 → 0 ≤ v3339 → v3339 ≤ 7 → (∀ k, M3342 757 k = u3318 k) → (∀ k, M3342 756 k = u3320 k) → (WS M3342) → (QW M3342) → 0 ≤ (-1) * v3067 + 262 → (∀ k : Int, 0 ≤ k → k < v3339 → M3342 740 k = u3320 k) → Wp B (d + 8) 91 215 [some (R 739), none, some (I v3339)] [] M3342 Q := by
                          clear hP3273 hQ3274 h3279 h3280 h3276 h3277 hP3297 hQ3298 h3303 h3304 xh3300 xh3301 hP3307 hQ3308 h3313 h3314 h3310 h3311 hP3323 hF3324 e3325 hP3327 hF3328 e3329 hP3332 hF3333 e3334 hP3336 hF3337 e3338
                          refine lp_ind ?_
                          intro k3449 ih3449 M3342 v3339 hk3449 hP3343 hF3344 e3347 e3348 e3349 e3350 e3351 e3352 e3353 e3354 e3355 e3356 e3357 e3358 e3359 h3340 h3341 hu3345 hu3346 pr3360 pr3361 h3362 ti3363
                          refine wk_il2 r91_215 (wk_c2 r91_216 ?_)
                          refine wk_icge r91_218 ⟨by omega, by omega⟩ (by decide) ?_ ?_
                          · intro h3364
                            obtain ⟨Mb, hMb⟩ : ∃ m : Mm, m = M3342 := ⟨_, rfl⟩
                            have hA6 : ∀ k : Int, 0 ≤ k → k < 7 → Mb 740 k = u3320 k := fun k a b => by rw [hMb]; exact ti3363 k a (by omega)
                            refine wk_c1 r91_239 (wk_is2 r91_240 rfl ?_)
                            have c241_3439 : ∀ (k3439 : Nat) (M3368 : Mm) (v3365 : Int), (251 - v3365).toNat = k3439 → Pw M3368 → Fr fm_n8091_739 M0 M3368 → M3368 739 45 = v3067 → M3368 739 40 = v3075 → M3368 739 43 = v3083 → M3368 739 29 = v3111 → M3368 739 13 = x739_13 → M3368 739 1 = v300 → M3368 739 21 = x739_21 → M3368 739 27 = v20 → M3368 739 0 = v28 → M3368 739 41 = v3264 → M3368 739 2 = v3071 → M3368 739 3 = v3079 → M3368 739 4 = v3087 → 0 ≤ v3365 → v3365 ≤ 251 → (∀ k, M3368 757 k = u3318 k) → (∀ k, M3368 756 k = u3320 k) → (WS M3368) → (QW M3368) → 0 ≤ (-1) * v3067 + 262 → (∀ k : Int, 0 ≤ k → k < v3365 → M3368 741 (0 + k) = u3318 k) → (∀ k : Int, M3368 740 k = Mb 740 k) → Wp B (d + 8) 91 241 [some (R 739), none, some (I v3365)] [] M3368 Q := by
                              clear hP3343 hF3344 e3347 e3348 e3349 e3350 e3351 e3352 e3353 e3354 e3355 e3356 e3357 e3358 e3359 h3340 h3341 hu3345 hu3346 pr3360 pr3361 h3362 ti3363
                              refine lp_ind ?_
                              intro k3439 ih3439 M3368 v3365 hk3439 hP3369 hF3370 e3373 e3374 e3375 e3376 e3377 e3378 e3379 e3380 e3381 e3382 e3383 e3384 e3385 h3366 h3367 hu3371 hu3372 pr3386 pr3387 h3388 ti3389 ti3390
                              refine wk_il2 r91_241 (wk_al0 r91_242 (wk_getfi r91_243 fd_739_45 e3373 ?_))
                              refine wk_icge r91_246 ⟨by omega, by omega⟩ ⟨by omega, by omega⟩ ?_ ?_
                              · intro h3391
                                have pr3392 : FFP M3368 v3067 := FFP_mk hFD e3385 (fun k a b => ti3389 k a (by omega)) (by omega)
                                have hA7 : ∀ k : Int, 0 ≤ k → k < 7 → M3368 740 k = u3320 k := fun k a b => (ti3390 k).trans (hA6 k a b)
                                refine wk_al0 r91_267 (wk_cv1 r91_268 kc_739_108 rfl (n8108_739 _ M3368 v300 v3071 v3264 v3083 v3075 v3087 v3067 (v3071 * v3264 * v3083) K9 ((eDq v3075)) hP3369 e3378 (by first | with_reducible assumption | omega) (by first | with_reducible assumption | omega) e3383 (by first | with_reducible assumption | omega) (by first | with_reducible assumption | omega) e3382 (by first | with_reducible assumption | omega) (by first | with_reducible assumption | omega) e3375 (by first | with_reducible assumption | omega) (by first | with_reducible assumption | omega) e3374 (by first | with_reducible assumption | omega) (by first | with_reducible assumption | omega) e3385 (by first | with_reducible assumption | omega) (by first | with_reducible assumption | omega) (by have q := hti 0; omega) (rfl) (isl_sz hsz hu6 hA7 (by omega)) (fun k a b => by rw [hA7 k a b, ← hu6 k]; exact hMR k a b) (FLr_OW aE9 hO9 (by omega) (fun k a b => by show M3368 741 k = M3268 757 k; have q := ti3389 k a (by omega); rw [show (0 : Int) + k = k by omega] at q; exact q.trans (hu3319 k).symm)) (by have q := al2_len aK9; omega) (alE_RNS aE9) (dq_mk (b := v3075) (by have q := (hti 0); omega)) pr3392) (cqV ?_))
                                rintro M3393 ⟨hP3394, hQ3395, h3397, h3398, h3399, h3400, h3401, h3402, xh3403, pr3404, pr3405⟩
                                have hF3396 : Fr fm_n8091_739 M0 M3393 := hF3370.tr hQ3395 rfl
                                obtain ⟨v3406, e3407⟩ : ∃ v, M3393 739 13 = v := ⟨_, rfl⟩
                                have h3408 := (bf_739_13 hP3394).1; rw [e3407] at h3408
                                have h3409 := (bf_739_13 hP3394).2; rw [e3407] at h3409
                                obtain ⟨v3410, e3411⟩ : ∃ v, M3393 739 21 = v := ⟨_, rfl⟩
                                have h3412 := (bf_739_21 hP3394).1; rw [e3411] at h3412
                                have h3413 := (bf_739_21 hP3394).2; rw [e3411] at h3413
                                obtain ⟨v3414, e3415⟩ : ∃ v, M3393 739 15 = v := ⟨_, rfl⟩
                                have h3416 := (bf_739_15 hP3394).1; rw [e3415] at h3416
                                have h3417 := (bf_739_15 hP3394).2; rw [e3415] at h3417
                                obtain ⟨v3418, e3419⟩ : ∃ v, M3393 739 24 = v := ⟨_, rfl⟩
                                have h3420 := (bf_739_24 hP3394).1; rw [e3419] at h3420
                                have h3421 := (bf_739_24 hP3394).2; rw [e3419] at h3421
                                obtain ⟨v3422, e3423⟩ : ∃ v, M3393 739 64 = v := ⟨_, rfl⟩
                                have h3424 := (bf_739_64 hP3394).1; rw [e3423] at h3424
                                have h3425 := (bf_739_64 hP3394).2; rw [e3423] at h3425
                                obtain ⟨v3426, e3427⟩ : ∃ v, M3393 739 65 = v := ⟨_, rfl⟩
                                have h3428 := (bf_739_65 hP3394).1; rw [e3427] at h3428
                                have h3429 := (bf_739_65 hP3394).2; rw [e3427] at h3429
                                refine wk_c1 r91_271 ?_
                                subst hQ; exact wk_iret r91_272 (⟨rfl, _, rfl, hP3394, hF3396, by omega, by omega, by have := ((hQ3395.at g_739_27 rfl).trans e3380); omega, by rw [((hQ3395.at g_739_0 rfl).trans e3381), ((hQ3395.at g_739_1 rfl).trans e3378), e3407, e3411, ((hQ3395.at g_739_29 rfl).trans e3376)]; exact INR_r (pp := v300) (by rw [show (0 : Int) = v3107 by omega, show v3111 = v3111 by omega]; exact hio) (by omega) (by omega) (by omega) (Or.inl ⟨rfl, by omega, by omega, by omega⟩), (by
                                                                                                                        intro _ _
                                                                                                                        have hM40 : ∀ k : Int, 0 ≤ k → k < 7 → M3393 740 k = M3064 756 k := fun k a b => (hQ3395.at (ga_740 k) rfl).trans ((hA7 k a b).trans ((hu6 k).symm.trans (hM756 k)))
                                                                                                                        have hR40 : (fun k => M3393 740 k) = (fun k => M3368 740 k) := funext fun k => hQ3395.at (ga_740 k) rfl
                                                                                                                        rw [show M3393 739 1 = v300 by have := ((hQ3395.at g_739_1 rfl).trans e3378); omega, show M3393 739 2 = v3071 by have := ((hQ3395.at g_739_2 rfl).trans e3383); omega, show M3393 739 3 = v3079 by have := ((hQ3395.at g_739_3 rfl).trans e3384); omega, show M3393 739 40 = v3075 by have := ((hQ3395.at g_739_40 rfl).trans e3374); omega, show M3393 739 41 = v3264 by have := ((hQ3395.at g_739_41 rfl).trans e3382); omega, show M3393 739 43 = v3083 by have := ((hQ3395.at g_739_43 rfl).trans e3375); omega]
                                                                                                                        refine ⟨F9, K9, by rw [nr_eq (fun k a b => hM40 k a b) rfl rfl]; exact hISD, aK9, alE_RNS aE9, by rw [hR40]; exact xh3403, by have q := (hti 0); omega, by have := e3407; omega, by have := e3415; omega, by have := e3411; omega, by have := e3419; omega, by have := e3423; omega, by have := e3427; omega⟩), fun q => absurd q (by have := ((hQ3395.at g_739_0 rfl).trans e3381); omega), pr3404, pr3405⟩)
                              · intro h3430
                                refine wk_al0 r91_249 (wk_getfr r91_250 fd_739_6 (br_739_6 hP3369) (wk_il2 r91_253 (wk_al0 r91_254 (wk_getfr r91_255 fd_739_49 (br_739_49 hP3369) (wk_il2 r91_258 (wk_ialdb r91_259 ar_757 ⟨by omega, by omega⟩ (fun q0 q1 => ba_757 hP3369 q0 q1) ?_))))))
                                intro v3431 h3433 h3434 e3432
                                refine wk_iast r91_260 ar_741 ⟨by omega, by omega⟩ (wk_nw (ga_741 _) rfl hP3369 hF3370 (uaR_741 (by rw [← e3432, hu3371]; exact FD_ok _ _ _ hFD.2 _ (by omega) (by omega))) ?_)
                                intro M3435 hP3436 hF3437 e3438
                                refine wk_inc2 r91_261 rfl (wk_goto r91_264 ?_)
                                exact wp_fg (le_s (le_s (le_s le_0))) (ih3439 (251 - (v3365 + 1)).toNat (by omega) M3435 (v3365 + 1) rfl hP3436 hF3437 (mUp_no e3438 e3373 (Or.inl (by decide))) (mUp_no e3438 e3374 (Or.inl (by decide))) (mUp_no e3438 e3375 (Or.inl (by decide))) (mUp_no e3438 e3376 (Or.inl (by decide))) (mUp_no e3438 e3377 (Or.inl (by decide))) (mUp_no e3438 e3378 (Or.inl (by decide))) (mUp_no e3438 e3379 (Or.inl (by decide))) (mUp_no e3438 e3380 (Or.inl (by decide))) (mUp_no e3438 e3381 (Or.inl (by decide))) (mUp_no e3438 e3382 (Or.inl (by decide))) (mUp_no e3438 e3383 (Or.inl (by decide))) (mUp_no e3438 e3384 (Or.inl (by decide))) (mUp_no e3438 e3385 (Or.inl (by decide))) (by first | with_reducible assumption | omega) (by first | with_reducible assumption | omega) (fun k => mUp_no e3438 (hu3371 k) (Or.inl (by decide))) (fun k => mUp_no e3438 (hu3372 k) (Or.inl (by decide))) (WS_sm (Sm.up e3438 (ga_741 _) rfl) pr3386) (QW_sm (Sm.up e3438 (ga_741 _) rfl) pr3387) (by first | with_reducible assumption | omega) (cp_step (S := 0) (e0z e3438) ti3389 e3432 hu3371) (fun k => by rw [e3438, mUp_ne (Or.inl (by decide))]; exact ti3390 k))
                            exact wp_fg (le_s (le_s (le_s le_0))) (c241_3439 _ M3342 0 rfl hP3343 hF3344 e3347 e3348 e3349 e3350 e3351 e3352 e3353 e3354 e3355 e3356 e3357 e3358 e3359 (by first | with_reducible assumption | omega) (by first | with_reducible assumption | omega) hu3345 hu3346 pr3360 pr3361 (by first | with_reducible assumption | omega) (fun k a b => by omega) (fun k => by rw [hMb]))
                          · intro h3440
                            refine wk_al0 r91_221 (wk_getfr r91_222 fd_739_5 (br_739_5 hP3343) (wk_il2 r91_225 (wk_al0 r91_226 (wk_getfr r91_227 fd_739_48 (br_739_48 hP3343) (wk_il2 r91_230 (wk_ialdb r91_231 ar_756 ⟨by omega, by omega⟩ (fun q0 q1 => ba_756 hP3343 q0 q1) ?_))))))
                            intro v3441 h3443 h3444 e3442
                            refine wk_iast r91_232 ar_740 ⟨by omega, by omega⟩ (wk_nw (ga_740 _) rfl hP3343 hF3344 (ua_740 ⟨by omega, by omega⟩) ?_)
                            intro M3445 hP3446 hF3447 e3448
                            refine wk_inc2 r91_233 rfl (wk_goto r91_236 ?_)
                            exact wp_fg (le_s (le_s (le_s le_0))) (ih3449 (7 - (v3339 + 1)).toNat (by omega) M3445 (v3339 + 1) rfl hP3446 hF3447 (mUp_no e3448 e3347 (Or.inl (by decide))) (mUp_no e3448 e3348 (Or.inl (by decide))) (mUp_no e3448 e3349 (Or.inl (by decide))) (mUp_no e3448 e3350 (Or.inl (by decide))) (mUp_no e3448 e3351 (Or.inl (by decide))) (mUp_no e3448 e3352 (Or.inl (by decide))) (mUp_no e3448 e3353 (Or.inl (by decide))) (mUp_no e3448 e3354 (Or.inl (by decide))) (mUp_no e3448 e3355 (Or.inl (by decide))) (mUp_no e3448 e3356 (Or.inl (by decide))) (mUp_no e3448 e3357 (Or.inl (by decide))) (mUp_no e3448 e3358 (Or.inl (by decide))) (mUp_no e3448 e3359 (Or.inl (by decide))) (by first | with_reducible assumption | omega) (by first | with_reducible assumption | omega) (fun k => mUp_no e3448 (hu3345 k) (Or.inl (by decide))) (fun k => mUp_no e3448 (hu3346 k) (Or.inl (by decide))) (WS_sm (Sm.up e3448 (ga_740 _) rfl) pr3360) (QW_sm (Sm.up e3448 (ga_740 _) rfl) pr3361) (by first | with_reducible assumption | omega) (fun k a b => by rw [e3448]; (by_cases q : k = v3339); (rw [q, mUp_eq, ← e3442, hu3346]); (rw [mUp_ne (Or.inr q)]; exact ti3363 k a (by omega))))
                        exact wp_fg (le_s (le_s (le_s le_0))) (c215_3449 _ M3335 0 rfl hP3336 hF3337 (mUp_no e3338 (mUp_no e3334 (mUp_no e3329 (mUp_no e3325 (mUp_no e3271 e3070 (Or.inr (by decide))) (Or.inr (by decide))) (Or.inr (by decide))) (Or.inr (by decide))) (Or.inr (by decide))) (mUp_no e3338 (mUp_no e3334 (mUp_no e3329 (mUp_no e3325 (mUp_no e3271 e3078 (Or.inr (by decide))) (Or.inr (by decide))) (Or.inr (by decide))) (Or.inr (by decide))) (Or.inr (by decide))) (mUp_no e3338 (mUp_no e3334 (mUp_no e3329 (mUp_no e3325 (mUp_no e3271 e3086 (Or.inr (by decide))) (Or.inr (by decide))) (Or.inr (by decide))) (Or.inr (by decide))) (Or.inr (by decide))) (mUp_no e3338 (mUp_no e3334 (mUp_no e3329 (mUp_no e3325 (mUp_no e3271 e3114 (Or.inr (by decide))) (Or.inr (by decide))) (Or.inr (by decide))) (Or.inr (by decide))) (Or.inr (by decide))) (mUp_no e3338 (mUp_no e3334 (mUp_no e3329 (mUp_no e3325 (mUp_no e3271 e3115 (Or.inr (by decide))) (Or.inr (by decide))) (Or.inr (by decide))) (Or.inr (by decide))) (Or.inr (by decide))) (mUp_no e3338 (mUp_no e3334 (mUp_no e3329 (mUp_at e3325) (Or.inr (by decide))) (Or.inr (by decide))) (Or.inr (by decide))) (mUp_no e3338 (mUp_no e3334 (mUp_no e3329 (mUp_no e3325 (mUp_no e3271 e3117 (Or.inr (by decide))) (Or.inr (by decide))) (Or.inr (by decide))) (Or.inr (by decide))) (Or.inr (by decide))) (mUp_no e3338 (mUp_no e3334 (mUp_no e3329 (mUp_no e3325 (mUp_no e3271 e3118 (Or.inr (by decide))) (Or.inr (by decide))) (Or.inr (by decide))) (Or.inr (by decide))) (Or.inr (by decide))) (mUp_no e3338 (mUp_no e3334 (mUp_no e3329 (mUp_no e3325 (mUp_no e3271 e3119 (Or.inr (by decide))) (Or.inr (by decide))) (Or.inr (by decide))) (Or.inr (by decide))) (Or.inr (by decide))) (mUp_no e3338 (mUp_no e3334 (mUp_no e3329 (mUp_no e3325 (mUp_at e3271) (Or.inr (by decide))) (Or.inr (by decide))) (Or.inr (by decide))) (Or.inr (by decide))) (mUp_no e3338 (mUp_no e3334 (mUp_at e3329) (Or.inr (by decide))) (Or.inr (by decide))) (mUp_no e3338 (mUp_at e3334) (Or.inr (by decide))) (mUp_at e3338) (by first | with_reducible assumption | omega) (by first | with_reducible assumption | omega) (fun k => mUp_no e3338 ((fun k => mUp_no e3334 ((fun k => mUp_no e3329 ((fun k => mUp_no e3325 (hu3319 k) (Or.inl (by decide))) k) (Or.inl (by decide))) k) (Or.inl (by decide))) k) (Or.inl (by decide))) (fun k => mUp_no e3338 ((fun k => mUp_no e3334 ((fun k => mUp_no e3329 ((fun k => mUp_no e3325 (hu3321 k) (Or.inl (by decide))) k) (Or.inl (by decide))) k) (Or.inl (by decide))) k) (Or.inl (by decide))) (WS_sm (Sm.up e3338 g_739_4 rfl) (WS_sm (Sm.up e3334 g_739_3 rfl) (WS_sm (Sm.up e3329 g_739_2 rfl) (WS_sm (Sm.up e3325 g_739_1 rfl) (WS_sm (Sm.up e3271 g_739_41 rfl) pr3124))))) (QW_sm (Sm.up e3338 g_739_4 rfl) (QW_sm (Sm.up e3334 g_739_3 rfl) (QW_sm (Sm.up e3329 g_739_2 rfl) (QW_sm (Sm.up e3325 g_739_1 rfl) (QW_sm (Sm.up e3271 g_739_41 rfl) pr3125))))) (by first | with_reducible assumption | omega) (fun k a b => by omega))
                      · intro h3450
                        exfalso
                        omega
                    · intro h3451
                      refine wk_al0 r91_163 (wk_c2 r91_164 (wk_cv2 r91_166 kc_739_137 rfl (n8137_739 _ M3268 6 v3107 v3095 v3111 hP3269 (by decide) (by decide) (mUp_no e3271 e3110 (Or.inr (by decide))) (by first | with_reducible assumption | omega) (by first | with_reducible assumption | omega) (mUp_no e3271 e3098 (Or.inr (by decide))) (by first | with_reducible assumption | omega) (by first | with_reducible assumption | omega) (mUp_no e3271 e3114 (Or.inr (by decide))) (by first | with_reducible assumption | omega) (by first | with_reducible assumption | omega)) (cqV ?_)))
                      rintro M3452 ⟨hP3453, hQ3454, h3456, h3457, h3458, h3459, h3460, xh3461⟩
                      have hF3455 : Fr fm_n8091_739 M0 M3452 := hF3270.tr hQ3454 rfl
                      obtain ⟨v3462, e3463⟩ : ∃ v, M3452 739 28 = v := ⟨_, rfl⟩
                      have h3464 := (bf_739_28 hP3453).1; rw [e3463] at h3464
                      have h3465 := (bf_739_28 hP3453).2; rw [e3463] at h3465
                      obtain ⟨v3466, e3467⟩ : ∃ v, M3452 739 29 = v := ⟨_, rfl⟩
                      have h3468 := (bf_739_29 hP3453).1; rw [e3467] at h3468
                      have h3469 := (bf_739_29 hP3453).2; rw [e3467] at h3469
                      have pr3470 : FP M3452 := FP_mn (Sm.fr hQ3454 rfl) (fun q => by have := (mUp_no e3271 e3110 (Or.inr (by decide))); have := e3463; omega) (FP_sm (Sm.up e3271 g_739_41 rfl) pr3123)
                      have pr3471 : LRP M3452 := LRP_mn (Sm.fr hQ3454 rfl) (fun q => by have := (mUp_no e3271 e3110 (Or.inr (by decide))); have := e3463; omega) (LRP_sm (Sm.up e3271 g_739_41 rfl) pr3127)
                      have hio : IO T p1 v3462 v3466 v300 := RY_e hry9 (by omega) (ti3259.resolve_left (fun q => q (by omega))) (Or.inl ⟨by omega, by omega, by omega⟩)
                      refine wk_al0 r91_169 (wk_cv1 r91_170 kc_739_84 rfl (n8084_739 _ M3452 v3462 hP3453 e3463 (by first | with_reducible assumption | omega) (by first | with_reducible assumption | omega)) (cqI ?_))
                      rintro v3478 M3472 ⟨hP3473, hQ3474, h3479, h3480, h3476, h3477⟩
                      obtain rfl := Fr.same hQ3474
                      have e3481 := e3463
                      refine wk_ifne r91_173 ⟨by omega, by omega⟩ ?_ ?_
                      · intro h3482
                        exfalso
                        omega
                      · intro h3483
                        refine wk_al0 r91_176 (wk_getfi r91_177 fd_739_28 e3463 ?_)
                        subst hQ; exact wk_iret r91_180 (⟨rfl, _, rfl, hP3453, hF3455, by omega, by omega, by have := ((hQ3454.at g_739_27 rfl).trans (mUp_no e3271 e3118 (Or.inr (by decide)))); omega, by rw [((hQ3454.at g_739_0 rfl).trans (mUp_no e3271 e3119 (Or.inr (by decide)))), ((hQ3454.at g_739_1 rfl).trans (mUp_no e3271 e3116 (Or.inr (by decide)))), ((hQ3454.at g_739_13 rfl).trans (mUp_no e3271 e3115 (Or.inr (by decide)))), ((hQ3454.at g_739_21 rfl).trans (mUp_no e3271 e3117 (Or.inr (by decide)))), e3467]; exact INR_r hio (by omega) (by omega) (by omega) (by omega), fun _ q => absurd q (by omega), fun _ => (SMR_sm (Sm.fr hQ3454 rfl) (SMR_sm (Sm.up e3271 g_739_41 rfl) pr3130)), (WS_sm (Sm.fr hQ3454 rfl) (WS_sm (Sm.up e3271 g_739_41 rfl) pr3124)), (QW_sm (Sm.fr hQ3454 rfl) (QW_sm (Sm.up e3271 g_739_41 rfl) pr3125))⟩)
                refine wk_icne r91_127 ⟨by omega, by omega⟩ (by decide) ?_ ?_
                · intro h3260
                  refine wk_c1 r91_142 ?_
                  exact wp_fg (le_s (le_s (le_s le_0))) (c143_3484 1 (by first | with_reducible assumption | omega) (by first | with_reducible assumption | omega) (by omega))
                · intro h3261
                  refine wk_al0 r91_130 (wk_getfi r91_131 fd_739_42 e3082 ?_)
                  refine wk_ifeq r91_134 ⟨by omega, by omega⟩ ?_ ?_
                  · intro h3262
                    refine wk_c1 r91_142 ?_
                    exact wp_fg (le_s (le_s (le_s le_0))) (c143_3484 1 (by first | with_reducible assumption | omega) (by first | with_reducible assumption | omega) (by omega))
                  · intro h3263
                    refine wk_c2 r91_137 (wk_goto r91_139 ?_)
                    exact wp_fg (le_s (le_s (le_s le_0))) (c143_3484 7 (by first | with_reducible assumption | omega) (by first | with_reducible assumption | omega) (by omega))
              refine wk_ifeq r91_104 ⟨by omega, by omega⟩ ?_ ?_
              · intro h3155
                exact wp_fg (le_s (le_s (le_s le_0))) (c121_3485 (Or.inl (by omega)))
              · intro h3156
                refine wk_al0 r91_107 (wk_getfi r91_108 fd_739_32 e3106 ?_)
                refine wk_ifeq r91_111 ⟨by omega, by omega⟩ ?_ ?_
                · intro h3157
                  exact wp_fg (le_s (le_s (le_s le_0))) (c121_3485 (Or.inr (by have q8 := pr3129; unfold TTP at q8; rw [e3120, e3098] at q8; omega)))
                · intro h3158
                  obtain ⟨sh9, hg9, ri9⟩ := RY_1 hry9 (by omega)
                  have htt9 : tt T p1 v3095 ≠ 0 := by have q8 := pr3129; unfold TTP at q8; rw [e3120, e3098] at q8; omega
                  refine wk_al0 r91_114 ?_
                  obtain ⟨v3159, e3160⟩ : ∃ v, M3064 739 46 = v := ⟨_, rfl⟩
                  have h3161 := (bf_739_46 hP3065).1; rw [e3160] at h3161
                  have h3162 := (bf_739_46 hP3065).2; rw [e3160] at h3162
                  obtain ⟨v3163, e3164⟩ : ∃ v, M3064 739 47 = v := ⟨_, rfl⟩
                  have h3165 := (bf_739_47 hP3065).1; rw [e3164] at h3165
                  have h3166 := (bf_739_47 hP3065).2; rw [e3164] at h3166
                  obtain ⟨v3167, e3168⟩ : ∃ v, M3064 739 36 = v := ⟨_, rfl⟩
                  have h3169 := (bf_739_36 hP3065).1; rw [e3168] at h3169
                  have h3170 := (bf_739_36 hP3065).2; rw [e3168] at h3170
                  obtain ⟨v3171, e3172⟩ : ∃ v, M3064 739 51 = v := ⟨_, rfl⟩
                  have h3173 := (bf_739_51 hP3065).1; rw [e3172] at h3173
                  have h3174 := (bf_739_51 hP3065).2; rw [e3172] at h3174
                  obtain ⟨v3175, e3176⟩ : ∃ v, M3064 739 35 = v := ⟨_, rfl⟩
                  have h3177 := (bf_739_35 hP3065).1; rw [e3176] at h3177
                  have h3178 := (bf_739_35 hP3065).2; rw [e3176] at h3178
                  refine wk_cv1 r91_115 kc_739_58 rfl (n8058_739 _ M3064 p1 v3091 v3095 v3099 v3103 v3107 v3067 v3159 v3163 v300 v3167 v3171 v3175 v3087 v3071 v3075 v3111 v3079 v3083 T (((0 : Int), sh9, (0 : Int), (0 : Int), dg1)) F9 hP3065 e3120 (by first | with_reducible assumption | omega) (by first | with_reducible assumption | omega) e3094 (by first | with_reducible assumption | omega) (by first | with_reducible assumption | omega) e3098 (by first | with_reducible assumption | omega) (by first | with_reducible assumption | omega) e3102 (by first | with_reducible assumption | omega) (by first | with_reducible assumption | omega) e3106 (by first | with_reducible assumption | omega) (by first | with_reducible assumption | omega) e3110 (by first | with_reducible assumption | omega) (by first | with_reducible assumption | omega) e3070 (by first | with_reducible assumption | omega) (by first | with_reducible assumption | omega) e3160 (by first | with_reducible assumption | omega) (by first | with_reducible assumption | omega) e3164 (by first | with_reducible assumption | omega) (by first | with_reducible assumption | omega) e3121 (by first | with_reducible assumption | omega) (by first | with_reducible assumption | omega) e3168 (by first | with_reducible assumption | omega) (by first | with_reducible assumption | omega) e3172 (by first | with_reducible assumption | omega) (by first | with_reducible assumption | omega) e3176 (by first | with_reducible assumption | omega) (by first | with_reducible assumption | omega) e3090 (by first | with_reducible assumption | omega) (by first | with_reducible assumption | omega) e3074 (by first | with_reducible assumption | omega) (by first | with_reducible assumption | omega) e3078 (by first | with_reducible assumption | omega) (by first | with_reducible assumption | omega) e3114 (by first | with_reducible assumption | omega) (by first | with_reducible assumption | omega) e3082 (by first | with_reducible assumption | omega) (by first | with_reducible assumption | omega) e3086 (by first | with_reducible assumption | omega) (by first | with_reducible assumption | omega) (by omega) (by omega) (by omega) (by omega) (by omega) (by omega) (by omega) (by omega) (by omega) (by omega) (by omega) (by omega) (htt9) (ri9) (hfl9 (by omega)) pr3122 pr3123 pr3126 pr3127 pr3128 pr3129) (cqV ?_)
                  rintro M3179 ⟨hP3180, hQ3181, h3183, h3184, h3185, h3186, h3187, h3188, h3189, h3190, h3191, h3192, h3193, h3194, h3195, h3196, h3197, h3198, h3199, h3200, h3201, h3202, xh3203, pr3204, pr3205, pr3206, pr3207, pr3208, pr3209⟩
                  have hF3182 : Fr fm_n8091_739 M0 M3179 := hF3066.tr hQ3181 rfl
                  have e3210 := ((hQ3181.at g_739_30 rfl).trans e3120)
                  obtain ⟨v3211, e3212⟩ : ∃ v, M3179 739 31 = v := ⟨_, rfl⟩
                  have h3213 := (bf_739_31 hP3180).1; rw [e3212] at h3213
                  have h3214 := (bf_739_31 hP3180).2; rw [e3212] at h3214
                  obtain ⟨v3215, e3216⟩ : ∃ v, M3179 739 33 = v := ⟨_, rfl⟩
                  have h3217 := (bf_739_33 hP3180).1; rw [e3216] at h3217
                  have h3218 := (bf_739_33 hP3180).2; rw [e3216] at h3218
                  obtain ⟨v3219, e3220⟩ : ∃ v, M3179 739 34 = v := ⟨_, rfl⟩
                  have h3221 := (bf_739_34 hP3180).1; rw [e3220] at h3221
                  have h3222 := (bf_739_34 hP3180).2; rw [e3220] at h3222
                  obtain ⟨v3223, e3224⟩ : ∃ v, M3179 739 32 = v := ⟨_, rfl⟩
                  have h3225 := (bf_739_32 hP3180).1; rw [e3224] at h3225
                  have h3226 := (bf_739_32 hP3180).2; rw [e3224] at h3226
                  obtain ⟨v3227, e3228⟩ : ∃ v, M3179 739 28 = v := ⟨_, rfl⟩
                  have h3229 := (bf_739_28 hP3180).1; rw [e3228] at h3229
                  have h3230 := (bf_739_28 hP3180).2; rw [e3228] at h3230
                  obtain ⟨v3231, e3232⟩ : ∃ v, M3179 739 45 = v := ⟨_, rfl⟩
                  have h3233 := (bf_739_45 hP3180).1; rw [e3232] at h3233
                  have h3234 := (bf_739_45 hP3180).2; rw [e3232] at h3234
                  obtain ⟨v3235, e3236⟩ : ∃ v, M3179 739 44 = v := ⟨_, rfl⟩
                  have h3237 := (bf_739_44 hP3180).1; rw [e3236] at h3237
                  have h3238 := (bf_739_44 hP3180).2; rw [e3236] at h3238
                  obtain ⟨v3239, e3240⟩ : ∃ v, M3179 739 39 = v := ⟨_, rfl⟩
                  have h3241 := (bf_739_39 hP3180).1; rw [e3240] at h3241
                  have h3242 := (bf_739_39 hP3180).2; rw [e3240] at h3242
                  obtain ⟨v3243, e3244⟩ : ∃ v, M3179 739 40 = v := ⟨_, rfl⟩
                  have h3245 := (bf_739_40 hP3180).1; rw [e3244] at h3245
                  have h3246 := (bf_739_40 hP3180).2; rw [e3244] at h3246
                  obtain ⟨v3247, e3248⟩ : ∃ v, M3179 739 29 = v := ⟨_, rfl⟩
                  have h3249 := (bf_739_29 hP3180).1; rw [e3248] at h3249
                  have h3250 := (bf_739_29 hP3180).2; rw [e3248] at h3250
                  obtain ⟨v3251, e3252⟩ : ∃ v, M3179 739 42 = v := ⟨_, rfl⟩
                  have h3253 := (bf_739_42 hP3180).1; rw [e3252] at h3253
                  have h3254 := (bf_739_42 hP3180).2; rw [e3252] at h3254
                  obtain ⟨v3255, e3256⟩ : ∃ v, M3179 739 43 = v := ⟨_, rfl⟩
                  have h3257 := (bf_739_43 hP3180).1; rw [e3256] at h3257
                  have h3258 := (bf_739_43 hP3180).2; rw [e3256] at h3258
                  refine wk_goto r91_118 ?_
                  exact wp_fg (le_s (le_s (le_s le_0))) (ih3486 (10 * (501 - v3215) + (6 - v3227)).toNat (by omega) M3179 v3231 v3239 v3243 v3251 v3255 v3235 v3211 v3215 v3219 v3223 v3227 v3247 rfl hP3180 hF3182 e3232 e3240 e3244 e3252 e3256 e3236 e3212 e3216 e3220 e3224 e3228 e3248 ((hQ3181.at g_739_13 rfl).trans e3115) ((hQ3181.at g_739_1 rfl).trans e3116) ((hQ3181.at g_739_21 rfl).trans e3117) ((hQ3181.at g_739_27 rfl).trans e3118) ((hQ3181.at g_739_0 rfl).trans e3119) ((hQ3181.at g_739_30 rfl).trans e3120) ((hQ3181.at g_739_38 rfl).trans e3121) (by first | with_reducible assumption | omega) (by first | with_reducible assumption | omega) (by first | with_reducible assumption | omega) (by first | with_reducible assumption | omega) (by first | with_reducible assumption | omega) (by first | with_reducible assumption | omega) (by first | with_reducible assumption | omega) (by first | with_reducible assumption | omega) (by first | with_reducible assumption | omega) (by first | with_reducible assumption | omega) (by first | with_reducible assumption | omega) (by first | with_reducible assumption | omega) (by first | with_reducible assumption | omega) (by first | with_reducible assumption | omega) (by first | with_reducible assumption | omega) (by first | with_reducible assumption | omega) (by first | with_reducible assumption | omega) (by first | with_reducible assumption | omega) (by first | with_reducible assumption | omega) (by first | with_reducible assumption | omega) (by first | with_reducible assumption | omega) (by first | with_reducible assumption | omega) (by first | with_reducible assumption | omega) (by first | with_reducible assumption | omega) pr3204 pr3205 (WS_sm (Sm.fr hQ3181 rfl) pr3124) (QW_sm (Sm.fr hQ3181 rfl) pr3125) pr3206 pr3207 pr3208 pr3209 (SMR_sm (Sm.fr hQ3181 rfl) pr3130) (by first | with_reducible assumption | omega) (by first | with_reducible assumption | omega) (by first | with_reducible assumption | omega) (by first | with_reducible assumption | omega) (by first | with_reducible assumption | omega) (by first | with_reducible assumption | omega) (by first | with_reducible assumption | omega) (by first | with_reducible assumption | omega) (by first | with_reducible assumption | omega) (by first | with_reducible assumption | omega) (by first | with_reducible assumption | omega) (by first | with_reducible assumption | omega) (by omega) (by obtain ⟨G9, q8, q7⟩ := xh3203; rw [e3216, e3240, e3244, e3252, e3256, e3228, e3248] at q8; rw [e3228, e3236] at q7; exact ⟨G9, RY_n hg9 q8, q7⟩))
            exact wp_fg (le_s (le_s (le_n le_0))) (c100_3486 _ M638 v36 1 (-1) 0 1 0 v657 v661 v665 v669 v673 v677 rfl hP639 hF641 ((hQ640.at g_739_45 rfl).trans e600) ((hQ640.at g_739_39 rfl).trans e602) ((hQ640.at g_739_40 rfl).trans e603) ((hQ640.at g_739_42 rfl).trans e604) ((hQ640.at g_739_43 rfl).trans e605) ((hQ640.at g_739_44 rfl).trans e606) e658 e662 e666 e670 e674 e678 ((hQ640.at g_739_13 rfl).trans e595) ((hQ640.at g_739_1 rfl).trans e596) ((hQ640.at g_739_21 rfl).trans e597) ((hQ640.at g_739_27 rfl).trans e598) ((hQ640.at g_739_0 rfl).trans e599) ((hQ640.at g_739_30 rfl).trans e601) ((hQ640.at g_739_38 rfl).trans e607) (by first | with_reducible assumption | omega) (by first | with_reducible assumption | omega) (by first | with_reducible assumption | omega) (by first | with_reducible assumption | omega) (by first | with_reducible assumption | omega) (by first | with_reducible assumption | omega) (by first | with_reducible assumption | omega) (by first | with_reducible assumption | omega) (by first | with_reducible assumption | omega) (by first | with_reducible assumption | omega) (by first | with_reducible assumption | omega) (by first | with_reducible assumption | omega) (by first | with_reducible assumption | omega) (by first | with_reducible assumption | omega) (by first | with_reducible assumption | omega) (by first | with_reducible assumption | omega) (by first | with_reducible assumption | omega) (by first | with_reducible assumption | omega) (by first | with_reducible assumption | omega) (by first | with_reducible assumption | omega) (by first | with_reducible assumption | omega) (by first | with_reducible assumption | omega) (by first | with_reducible assumption | omega) (by first | with_reducible assumption | omega) pr653 pr681 (WS_sm (Sm.fr hQ640 rfl) pr616) (QW_sm (Sm.fr hQ640 rfl) pr617) (MRP_sm (Sm.fr hQ640 rfl) pr635) pr682 pr654 pr655 (SMR_sm (Sm.fr hQ640 rfl) pr621) (by first | with_reducible assumption | omega) (by first | with_reducible assumption | omega) (by first | with_reducible assumption | omega) (by first | with_reducible assumption | omega) (by first | with_reducible assumption | omega) (by first | with_reducible assumption | omega) (by first | with_reducible assumption | omega) (by first | with_reducible assumption | omega) (by first | with_reducible assumption | omega) (by first | with_reducible assumption | omega) (by first | with_reducible assumption | omega) (by first | with_reducible assumption | omega) (by omega) (⟨[], RY_i (dg1_m2 (by omega) (by omega) (ltI_0 (by omega)) (by omega) (fun k a b => by rw [(fun k => (hQ640.at (ga_756 k) rfl).trans (hu637 k)) k]; exact hu3 k a b) (by omega) rfl) (by rcases hy with q | ⟨q, qf⟩; (rcases xh652 with x9 | x9 | x9; (exact Or.inl ⟨by omega, HD_gm (s1 := v223) (s2 := v308) (by omega) (by omega) (by omega) (by omega) (by omega) (by omega) (by omega)⟩); (exact Or.inr ⟨by omega, HD_3 (s1 := v223) (s2 := v308) (by omega) (by omega) (by omega) (by omega)⟩); (omega)); (rcases xh652 with x9 | x9 | x9; (omega); (omega); (exact Or.inr ⟨by omega, by rw [show v673 = v320 by omega, show v677 = v324 by omega]; exact qf⟩))), fun _ => by rw [OW_10 (((hQ640.at g_739_45 rfl).trans e600).trans (by omega))]; exact ⟨FLm_0 _ _ _, by show _ = (0 : Int); omega⟩⟩))
          · intro h3487
            refine wk_al0 r91_83 (wk_getfr r91_84 fd_739_48 (br_739_48 hP593) (wk_il2 r91_87 (wk_c1 r91_88 (wk_iast r91_89 ar_756 ⟨by omega, by omega⟩ (wk_nw (ga_756 _) rfl hP593 hF594 (ua_756 (by decide)) ?_)))))
            intro M3488 hP3489 hF3490 e3491
            refine wk_inc2 r91_90 rfl (wk_goto r91_93 ?_)
            exact wp_fg (le_s (le_s (le_s le_0))) (ih3492 (7 - (v589 + 1)).toNat (by omega) M3488 (v589 + 1) rfl hP3489 hF3490 (mUp_no e3491 e595 (Or.inl (by decide))) (mUp_no e3491 e596 (Or.inl (by decide))) (mUp_no e3491 e597 (Or.inl (by decide))) (mUp_no e3491 e598 (Or.inl (by decide))) (mUp_no e3491 e599 (Or.inl (by decide))) (mUp_no e3491 e600 (Or.inl (by decide))) (mUp_no e3491 e601 (Or.inl (by decide))) (mUp_no e3491 e602 (Or.inl (by decide))) (mUp_no e3491 e603 (Or.inl (by decide))) (mUp_no e3491 e604 (Or.inl (by decide))) (mUp_no e3491 e605 (Or.inl (by decide))) (mUp_no e3491 e606 (Or.inl (by decide))) (mUp_no e3491 e607 (Or.inl (by decide))) (mUp_no e3491 e608 (Or.inl (by decide))) (mUp_no e3491 e609 (Or.inl (by decide))) (mUp_no e3491 e610 (Or.inl (by decide))) (mUp_no e3491 e611 (Or.inl (by decide))) (mUp_no e3491 e612 (Or.inl (by decide))) (mUp_no e3491 e613 (Or.inl (by decide))) (by first | with_reducible assumption | omega) (by first | with_reducible assumption | omega) (TK_sm (Sm.up e3491 (ga_756 _) rfl) pr614) (FP_sm (Sm.up e3491 (ga_756 _) rfl) pr615) (WS_sm (Sm.up e3491 (ga_756 _) rfl) pr616) (QW_sm (Sm.up e3491 (ga_756 _) rfl) pr617) (LRP_sm (Sm.up e3491 (ga_756 _) rfl) pr618) (TXQ_sm (Sm.up e3491 (ga_756 _) rfl) pr619) (TTP_sm (Sm.up e3491 (ga_756 _) rfl) pr620) (SMR_sm (Sm.up e3491 (ga_756 _) rfl) pr621) (by first | with_reducible assumption | omega) (by first | with_reducible assumption | omega) (by first | with_reducible assumption | omega) (by first | with_reducible assumption | omega) (by first | with_reducible assumption | omega) (by first | with_reducible assumption | omega) (by first | with_reducible assumption | omega) (by first | with_reducible assumption | omega) (by first | with_reducible assumption | omega) (by first | with_reducible assumption | omega) (by first | with_reducible assumption | omega) (fun k a b => by rw [e3491]; (by_cases q : k = v589); (rw [q, mUp_eq]); (rw [mUp_ne (Or.inr q)]; exact ti633 k a (by omega))))
        exact wp_fg (le_s (le_s (le_s le_0))) (c77_3492 _ M330 0 rfl hP331 hF332 (mUp_no e333 ((hQ282.at g_739_13 rfl).trans e237) (Or.inr (by decide))) (mUp_no e333 ((hQ282.at g_739_1 rfl).trans e238) (Or.inr (by decide))) (mUp_no e333 ((hQ282.at g_739_21 rfl).trans e239) (Or.inr (by decide))) (mUp_no e333 ((hQ282.at g_739_27 rfl).trans e240) (Or.inr (by decide))) (mUp_no e333 ((hQ282.at g_739_0 rfl).trans e241) (Or.inr (by decide))) (mUp_no e333 ((hQ282.at g_739_45 rfl).trans e242) (Or.inr (by decide))) (mUp_no e333 ((hQ282.at g_739_30 rfl).trans e243) (Or.inr (by decide))) (mUp_no e333 ((hQ282.at g_739_39 rfl).trans e244) (Or.inr (by decide))) (mUp_no e333 ((hQ282.at g_739_40 rfl).trans e245) (Or.inr (by decide))) (mUp_no e333 ((hQ282.at g_739_42 rfl).trans e246) (Or.inr (by decide))) (mUp_no e333 ((hQ282.at g_739_43 rfl).trans e247) (Or.inr (by decide))) (mUp_no e333 ((hQ282.at g_739_44 rfl).trans e248) (Or.inr (by decide))) (mUp_at e333) (mUp_no e333 e305 (Or.inr (by decide))) (mUp_no e333 e309 (Or.inr (by decide))) (mUp_no e333 e313 (Or.inr (by decide))) (mUp_no e333 e317 (Or.inr (by decide))) (mUp_no e333 e321 (Or.inr (by decide))) (mUp_no e333 e325 (Or.inr (by decide))) (by first | with_reducible assumption | omega) (by first | with_reducible assumption | omega) (TK_sm (Sm.up e333 g_739_38 rfl) pr297) (FP_sm (Sm.up e333 g_739_38 rfl) pr328) (WS_sm (Sm.up e333 g_739_38 rfl) (WS_sm (Sm.fr hQ282 rfl) pr252)) (QW_sm (Sm.up e333 g_739_38 rfl) (QW_sm (Sm.fr hQ282 rfl) pr253)) (LRP_sm (Sm.up e333 g_739_38 rfl) pr329) (TXQ_sm (Sm.up e333 g_739_38 rfl) pr298) (TTP_sm (Sm.up e333 g_739_38 rfl) pr299) (SMR_sm (Sm.up e333 g_739_38 rfl) (SMR_sm (Sm.fr hQ282 rfl) pr257)) (by first | with_reducible assumption | omega) (by first | with_reducible assumption | omega) (by first | with_reducible assumption | omega) (by first | with_reducible assumption | omega) (by first | with_reducible assumption | omega) (by first | with_reducible assumption | omega) (by first | with_reducible assumption | omega) (by first | with_reducible assumption | omega) (by first | with_reducible assumption | omega) (by first | with_reducible assumption | omega) (by first | with_reducible assumption | omega) (fun k a b => by omega))
      refine wk_ifeq r91_57 ⟨by omega, by omega⟩ ?_ ?_
      · intro h183
        exact wp_fg (le_s (le_s (le_s le_0))) (c64_3493 M124 v44 v48 v52 v56 hP125 hF126 e142 e143 e144 e145 e130 e134 e135 e136 e137 e138 e139 e140 e141 e146 e147 e148 e149 e150 e151 (by first | with_reducible assumption | omega) (by first | with_reducible assumption | omega) (by first | with_reducible assumption | omega) (by first | with_reducible assumption | omega) (by first | with_reducible assumption | omega) (by first | with_reducible assumption | omega) (by first | with_reducible assumption | omega) (by first | with_reducible assumption | omega) pr152 pr153 pr154 pr155 pr156 pr157 pr158 pr159 (by first | with_reducible assumption | omega) (by first | with_reducible assumption | omega) (by first | with_reducible assumption | omega) (by first | with_reducible assumption | omega) (by first | with_reducible assumption | omega) (by first | with_reducible assumption | omega) (by first | with_reducible assumption | omega) (by first | with_reducible assumption | omega) (by first | with_reducible assumption | omega) (by first | with_reducible assumption | omega) (by first | with_reducible assumption | omega) (by first | with_reducible assumption | omega) (by first | with_reducible assumption | omega) (by first | with_reducible assumption | omega) (by first | with_reducible assumption | omega) (by first | with_reducible assumption | omega) (by first | with_reducible assumption | omega) (by omega))
      · intro h184
        refine wk_al0 r91_60 (wk_cv1 r91_61 kc_739_76 rfl (n8076_739 _ M124 p1 v44 T hP125 e141 (by first | with_reducible assumption | omega) (by first | with_reducible assumption | omega) e142 (by first | with_reducible assumption | omega) (by first | with_reducible assumption | omega) (by omega) pr157) (cqV ?_))
        rintro M185 ⟨hP186, hQ187, h189, h190, h191, h192, h193, xh194, pr195, pr196, pr197⟩
        have hF188 : Fr fm_n8091_739 M0 M185 := hF126.tr hQ187 rfl
        have e198 := ((hQ187.at g_739_30 rfl).trans e141)
        obtain ⟨v199, e200⟩ : ∃ v, M185 739 31 = v := ⟨_, rfl⟩
        have h201 := (bf_739_31 hP186).1; rw [e200] at h201
        have h202 := (bf_739_31 hP186).2; rw [e200] at h202
        obtain ⟨v203, e204⟩ : ∃ v, M185 739 33 = v := ⟨_, rfl⟩
        have h205 := (bf_739_33 hP186).1; rw [e204] at h205
        have h206 := (bf_739_33 hP186).2; rw [e204] at h206
        obtain ⟨v207, e208⟩ : ∃ v, M185 739 34 = v := ⟨_, rfl⟩
        have h209 := (bf_739_34 hP186).1; rw [e208] at h209
        have h210 := (bf_739_34 hP186).2; rw [e208] at h210
        obtain ⟨v211, e212⟩ : ∃ v, M185 739 32 = v := ⟨_, rfl⟩
        have h213 := (bf_739_32 hP186).1; rw [e212] at h213
        have h214 := (bf_739_32 hP186).2; rw [e212] at h214
        have hn215 := nx_ofm pr158 e141 e143 e142 xh194
        exact wp_fg (le_s (le_s (le_s le_0))) (c64_3493 M185 v199 v203 v207 v211 hP186 hF188 e200 e204 e208 e212 ((hQ187.at g_739_29 rfl).trans e130) ((hQ187.at g_739_28 rfl).trans e134) ((hQ187.at g_739_13 rfl).trans e135) ((hQ187.at g_739_1 rfl).trans e136) ((hQ187.at g_739_21 rfl).trans e137) ((hQ187.at g_739_27 rfl).trans e138) ((hQ187.at g_739_0 rfl).trans e139) ((hQ187.at g_739_45 rfl).trans e140) ((hQ187.at g_739_30 rfl).trans e141) ((hQ187.at g_739_39 rfl).trans e146) ((hQ187.at g_739_40 rfl).trans e147) ((hQ187.at g_739_42 rfl).trans e148) ((hQ187.at g_739_43 rfl).trans e149) ((hQ187.at g_739_44 rfl).trans e150) ((hQ187.at g_739_38 rfl).trans e151) (by first | with_reducible assumption | omega) (by first | with_reducible assumption | omega) (by first | with_reducible assumption | omega) (by first | with_reducible assumption | omega) (by first | with_reducible assumption | omega) (by first | with_reducible assumption | omega) (by first | with_reducible assumption | omega) (by first | with_reducible assumption | omega) pr195 (FP_sm (Sm.fr hQ187 rfl) pr153) (WS_sm (Sm.fr hQ187 rfl) pr154) (QW_sm (Sm.fr hQ187 rfl) pr155) (LRP_sm (Sm.fr hQ187 rfl) pr156) pr196 pr197 (SMR_sm (Sm.fr hQ187 rfl) pr159) (by first | with_reducible assumption | omega) (by first | with_reducible assumption | omega) (by first | with_reducible assumption | omega) (by first | with_reducible assumption | omega) (by first | with_reducible assumption | omega) (by first | with_reducible assumption | omega) (by first | with_reducible assumption | omega) (by first | with_reducible assumption | omega) (by first | with_reducible assumption | omega) (by first | with_reducible assumption | omega) (by first | with_reducible assumption | omega) (by first | with_reducible assumption | omega) (by first | with_reducible assumption | omega) (by first | with_reducible assumption | omega) (by first | with_reducible assumption | omega) (by first | with_reducible assumption | omega) (by first | with_reducible assumption | omega) (by have q8 := hn215; rw [he0] at q8; omega))
    refine wk_iceq r91_45 ⟨by omega, by omega⟩ (by decide) ?_ ?_
    · intro h102
      exact wp_fg (le_s (le_n (le_s le_0))) (c53_3494 M86 v24 v32 hP87 hF88 (mUp_no e89 (mUp_no e85 (mUp_no e81 (mUp_no e77 (mUp_no e73 (mUp_no e69 e25 (Or.inr (by decide))) (Or.inr (by decide))) (Or.inr (by decide))) (Or.inr (by decide))) (Or.inr (by decide))) (Or.inr (by decide))) (mUp_no e89 (mUp_no e85 (mUp_no e81 (mUp_no e77 (mUp_no e73 (mUp_no e69 e33 (Or.inr (by decide))) (Or.inr (by decide))) (Or.inr (by decide))) (Or.inr (by decide))) (Or.inr (by decide))) (Or.inr (by decide))) (mUp_no e89 (mUp_no e85 (mUp_no e81 (mUp_no e77 (mUp_no e73 (mUp_no e69 ((hQ3.at g_739_13 rfl).trans ex739_13) (Or.inr (by decide))) (Or.inr (by decide))) (Or.inr (by decide))) (Or.inr (by decide))) (Or.inr (by decide))) (Or.inr (by decide))) (mUp_no e89 (mUp_no e85 (mUp_no e81 (mUp_no e77 (mUp_no e73 (mUp_no e69 ((hQ3.at g_739_1 rfl).trans ex739_1) (Or.inr (by decide))) (Or.inr (by decide))) (Or.inr (by decide))) (Or.inr (by decide))) (Or.inr (by decide))) (Or.inr (by decide))) (mUp_no e89 (mUp_no e85 (mUp_no e81 (mUp_no e77 (mUp_no e73 (mUp_no e69 ((hQ3.at g_739_21 rfl).trans ex739_21) (Or.inr (by decide))) (Or.inr (by decide))) (Or.inr (by decide))) (Or.inr (by decide))) (Or.inr (by decide))) (Or.inr (by decide))) (mUp_no e89 (mUp_no e85 (mUp_no e81 (mUp_no e77 (mUp_no e73 (mUp_no e69 e21 (Or.inr (by decide))) (Or.inr (by decide))) (Or.inr (by decide))) (Or.inr (by decide))) (Or.inr (by decide))) (Or.inr (by decide))) (mUp_no e89 (mUp_no e85 (mUp_no e81 (mUp_no e77 (mUp_no e73 (mUp_no e69 e29 (Or.inr (by decide))) (Or.inr (by decide))) (Or.inr (by decide))) (Or.inr (by decide))) (Or.inr (by decide))) (Or.inr (by decide))) (mUp_no e89 (mUp_no e85 (mUp_no e81 (mUp_no e77 (mUp_no e73 (mUp_no e69 e37 (Or.inr (by decide))) (Or.inr (by decide))) (Or.inr (by decide))) (Or.inr (by decide))) (Or.inr (by decide))) (Or.inr (by decide))) (mUp_no e89 (mUp_no e85 (mUp_no e81 (mUp_no e77 (mUp_no e73 (mUp_no e69 e41 (Or.inr (by decide))) (Or.inr (by decide))) (Or.inr (by decide))) (Or.inr (by decide))) (Or.inr (by decide))) (Or.inr (by decide))) (mUp_no e89 (mUp_no e85 (mUp_no e81 (mUp_no e77 (mUp_no e73 (mUp_no e69 e45 (Or.inr (by decide))) (Or.inr (by decide))) (Or.inr (by decide))) (Or.inr (by decide))) (Or.inr (by decide))) (Or.inr (by decide))) (mUp_no e89 (mUp_no e85 (mUp_no e81 (mUp_no e77 (mUp_no e73 (mUp_no e69 e49 (Or.inr (by decide))) (Or.inr (by decide))) (Or.inr (by decide))) (Or.inr (by decide))) (Or.inr (by decide))) (Or.inr (by decide))) (mUp_no e89 (mUp_no e85 (mUp_no e81 (mUp_no e77 (mUp_no e73 (mUp_no e69 e53 (Or.inr (by decide))) (Or.inr (by decide))) (Or.inr (by decide))) (Or.inr (by decide))) (Or.inr (by decide))) (Or.inr (by decide))) (mUp_no e89 (mUp_no e85 (mUp_no e81 (mUp_no e77 (mUp_no e73 (mUp_no e69 e57 (Or.inr (by decide))) (Or.inr (by decide))) (Or.inr (by decide))) (Or.inr (by decide))) (Or.inr (by decide))) (Or.inr (by decide))) (mUp_no e89 (mUp_no e85 (mUp_no e81 (mUp_no e77 (mUp_no e73 (mUp_at e69) (Or.inr (by decide))) (Or.inr (by decide))) (Or.inr (by decide))) (Or.inr (by decide))) (Or.inr (by decide))) (mUp_no e89 (mUp_no e85 (mUp_no e81 (mUp_no e77 (mUp_at e73) (Or.inr (by decide))) (Or.inr (by decide))) (Or.inr (by decide))) (Or.inr (by decide))) (mUp_no e89 (mUp_no e85 (mUp_no e81 (mUp_at e77) (Or.inr (by decide))) (Or.inr (by decide))) (Or.inr (by decide))) (mUp_no e89 (mUp_no e85 (mUp_at e81) (Or.inr (by decide))) (Or.inr (by decide))) (mUp_no e89 (mUp_at e85) (Or.inr (by decide))) (mUp_at e89) (by first | with_reducible assumption | omega) (by first | with_reducible assumption | omega) (by first | with_reducible assumption | omega) (by first | with_reducible assumption | omega) (TK_sm (Sm.up e89 g_739_38 rfl) (TK_sm (Sm.up e85 g_739_44 rfl) (TK_sm (Sm.up e81 g_739_43 rfl) (TK_sm (Sm.up e77 g_739_42 rfl) (TK_sm (Sm.up e73 g_739_40 rfl) (TK_sm (Sm.up e69 g_739_39 rfl) pr65)))))) pr90 (WS_sm (Sm.up e89 g_739_38 rfl) (WS_sm (Sm.up e85 g_739_44 rfl) (WS_sm (Sm.up e81 g_739_43 rfl) (WS_sm (Sm.up e77 g_739_42 rfl) (WS_sm (Sm.up e73 g_739_40 rfl) (WS_sm (Sm.up e69 g_739_39 rfl) (WS_sm (Sm.fr hQ3 rfl) pp_WS))))))) (QW_sm (Sm.up e89 g_739_38 rfl) (QW_sm (Sm.up e85 g_739_44 rfl) (QW_sm (Sm.up e81 g_739_43 rfl) (QW_sm (Sm.up e77 g_739_42 rfl) (QW_sm (Sm.up e73 g_739_40 rfl) (QW_sm (Sm.up e69 g_739_39 rfl) (QW_sm (Sm.fr hQ3 rfl) pp_QW))))))) pr91 (TXQ_sm (Sm.up e89 g_739_38 rfl) (TXQ_sm (Sm.up e85 g_739_44 rfl) (TXQ_sm (Sm.up e81 g_739_43 rfl) (TXQ_sm (Sm.up e77 g_739_42 rfl) (TXQ_sm (Sm.up e73 g_739_40 rfl) (TXQ_sm (Sm.up e69 g_739_39 rfl) pr63)))))) (TTP_sm (Sm.up e89 g_739_38 rfl) (TTP_sm (Sm.up e85 g_739_44 rfl) (TTP_sm (Sm.up e81 g_739_43 rfl) (TTP_sm (Sm.up e77 g_739_42 rfl) (TTP_sm (Sm.up e73 g_739_40 rfl) (TTP_sm (Sm.up e69 g_739_39 rfl) pr62)))))) (SMR_sm (Sm.up e89 g_739_38 rfl) (SMR_sm (Sm.up e85 g_739_44 rfl) (SMR_sm (Sm.up e81 g_739_43 rfl) (SMR_sm (Sm.up e77 g_739_42 rfl) (SMR_sm (Sm.up e73 g_739_40 rfl) (SMR_sm (Sm.up e69 g_739_39 rfl) (SMR_sm (Sm.fr hQ3 rfl) (SMR_rf M0)))))))) (by first | with_reducible assumption | omega) (by first | with_reducible assumption | omega) (by first | with_reducible assumption | omega) (by first | with_reducible assumption | omega) (by first | with_reducible assumption | omega) (by first | with_reducible assumption | omega) (by first | with_reducible assumption | omega) (by first | with_reducible assumption | omega) (by first | with_reducible assumption | omega) (by first | with_reducible assumption | omega) (by first | with_reducible assumption | omega) (by first | with_reducible assumption | omega) (by omega))
    · intro h103
      refine wk_al0 r91_48 (wk_c1 r91_49 (wk_cv2 r91_50 kc_739_137 rfl (n8137_739 _ M86 1 v32 v48 v24 hP87 (by decide) (by decide) (mUp_no e89 (mUp_no e85 (mUp_no e81 (mUp_no e77 (mUp_no e73 (mUp_no e69 e33 (Or.inr (by decide))) (Or.inr (by decide))) (Or.inr (by decide))) (Or.inr (by decide))) (Or.inr (by decide))) (Or.inr (by decide))) (by first | with_reducible assumption | omega) (by first | with_reducible assumption | omega) (mUp_no e89 (mUp_no e85 (mUp_no e81 (mUp_no e77 (mUp_no e73 (mUp_no e69 e49 (Or.inr (by decide))) (Or.inr (by decide))) (Or.inr (by decide))) (Or.inr (by decide))) (Or.inr (by decide))) (Or.inr (by decide))) (by first | with_reducible assumption | omega) (by first | with_reducible assumption | omega) (mUp_no e89 (mUp_no e85 (mUp_no e81 (mUp_no e77 (mUp_no e73 (mUp_no e69 e25 (Or.inr (by decide))) (Or.inr (by decide))) (Or.inr (by decide))) (Or.inr (by decide))) (Or.inr (by decide))) (Or.inr (by decide))) (by first | with_reducible assumption | omega) (by first | with_reducible assumption | omega)) (cqV ?_)))
      rintro M104 ⟨hP105, hQ106, h108, h109, h110, h111, h112, xh113⟩
      have hF107 : Fr fm_n8091_739 M0 M104 := hF88.tr hQ106 rfl
      obtain ⟨v114, e115⟩ : ∃ v, M104 739 28 = v := ⟨_, rfl⟩
      have h116 := (bf_739_28 hP105).1; rw [e115] at h116
      have h117 := (bf_739_28 hP105).2; rw [e115] at h117
      obtain ⟨v118, e119⟩ : ∃ v, M104 739 29 = v := ⟨_, rfl⟩
      have h120 := (bf_739_29 hP105).1; rw [e119] at h120
      have h121 := (bf_739_29 hP105).2; rw [e119] at h121
      have pr122 : FP M104 := FP_mn (Sm.fr hQ106 rfl) (fun q => by have := (mUp_no e89 (mUp_no e85 (mUp_no e81 (mUp_no e77 (mUp_no e73 (mUp_no e69 e33 (Or.inr (by decide))) (Or.inr (by decide))) (Or.inr (by decide))) (Or.inr (by decide))) (Or.inr (by decide))) (Or.inr (by decide))); have := e115; omega) pr90
      have pr123 : LRP M104 := LRP_mn (Sm.fr hQ106 rfl) (fun q => by have := (mUp_no e89 (mUp_no e85 (mUp_no e81 (mUp_no e77 (mUp_no e73 (mUp_no e69 e33 (Or.inr (by decide))) (Or.inr (by decide))) (Or.inr (by decide))) (Or.inr (by decide))) (Or.inr (by decide))) (Or.inr (by decide))); have := e115; omega) pr91
      exact wp_fg (le_s (le_n (le_s le_0))) (c53_3494 M104 v118 v114 hP105 hF107 e119 e115 ((hQ106.at g_739_13 rfl).trans (mUp_no e89 (mUp_no e85 (mUp_no e81 (mUp_no e77 (mUp_no e73 (mUp_no e69 ((hQ3.at g_739_13 rfl).trans ex739_13) (Or.inr (by decide))) (Or.inr (by decide))) (Or.inr (by decide))) (Or.inr (by decide))) (Or.inr (by decide))) (Or.inr (by decide)))) ((hQ106.at g_739_1 rfl).trans (mUp_no e89 (mUp_no e85 (mUp_no e81 (mUp_no e77 (mUp_no e73 (mUp_no e69 ((hQ3.at g_739_1 rfl).trans ex739_1) (Or.inr (by decide))) (Or.inr (by decide))) (Or.inr (by decide))) (Or.inr (by decide))) (Or.inr (by decide))) (Or.inr (by decide)))) ((hQ106.at g_739_21 rfl).trans (mUp_no e89 (mUp_no e85 (mUp_no e81 (mUp_no e77 (mUp_no e73 (mUp_no e69 ((hQ3.at g_739_21 rfl).trans ex739_21) (Or.inr (by decide))) (Or.inr (by decide))) (Or.inr (by decide))) (Or.inr (by decide))) (Or.inr (by decide))) (Or.inr (by decide)))) ((hQ106.at g_739_27 rfl).trans (mUp_no e89 (mUp_no e85 (mUp_no e81 (mUp_no e77 (mUp_no e73 (mUp_no e69 e21 (Or.inr (by decide))) (Or.inr (by decide))) (Or.inr (by decide))) (Or.inr (by decide))) (Or.inr (by decide))) (Or.inr (by decide)))) ((hQ106.at g_739_0 rfl).trans (mUp_no e89 (mUp_no e85 (mUp_no e81 (mUp_no e77 (mUp_no e73 (mUp_no e69 e29 (Or.inr (by decide))) (Or.inr (by decide))) (Or.inr (by decide))) (Or.inr (by decide))) (Or.inr (by decide))) (Or.inr (by decide)))) ((hQ106.at g_739_45 rfl).trans (mUp_no e89 (mUp_no e85 (mUp_no e81 (mUp_no e77 (mUp_no e73 (mUp_no e69 e37 (Or.inr (by decide))) (Or.inr (by decide))) (Or.inr (by decide))) (Or.inr (by decide))) (Or.inr (by decide))) (Or.inr (by decide)))) ((hQ106.at g_739_30 rfl).trans (mUp_no e89 (mUp_no e85 (mUp_no e81 (mUp_no e77 (mUp_no e73 (mUp_no e69 e41 (Or.inr (by decide))) (Or.inr (by decide))) (Or.inr (by decide))) (Or.inr (by decide))) (Or.inr (by decide))) (Or.inr (by decide)))) ((hQ106.at g_739_31 rfl).trans (mUp_no e89 (mUp_no e85 (mUp_no e81 (mUp_no e77 (mUp_no e73 (mUp_no e69 e45 (Or.inr (by decide))) (Or.inr (by decide))) (Or.inr (by decide))) (Or.inr (by decide))) (Or.inr (by decide))) (Or.inr (by decide)))) ((hQ106.at g_739_33 rfl).trans (mUp_no e89 (mUp_no e85 (mUp_no e81 (mUp_no e77 (mUp_no e73 (mUp_no e69 e49 (Or.inr (by decide))) (Or.inr (by decide))) (Or.inr (by decide))) (Or.inr (by decide))) (Or.inr (by decide))) (Or.inr (by decide)))) ((hQ106.at g_739_34 rfl).trans (mUp_no e89 (mUp_no e85 (mUp_no e81 (mUp_no e77 (mUp_no e73 (mUp_no e69 e53 (Or.inr (by decide))) (Or.inr (by decide))) (Or.inr (by decide))) (Or.inr (by decide))) (Or.inr (by decide))) (Or.inr (by decide)))) ((hQ106.at g_739_32 rfl).trans (mUp_no e89 (mUp_no e85 (mUp_no e81 (mUp_no e77 (mUp_no e73 (mUp_no e69 e57 (Or.inr (by decide))) (Or.inr (by decide))) (Or.inr (by decide))) (Or.inr (by decide))) (Or.inr (by decide))) (Or.inr (by decide)))) ((hQ106.at g_739_39 rfl).trans (mUp_no e89 (mUp_no e85 (mUp_no e81 (mUp_no e77 (mUp_no e73 (mUp_at e69) (Or.inr (by decide))) (Or.inr (by decide))) (Or.inr (by decide))) (Or.inr (by decide))) (Or.inr (by decide)))) ((hQ106.at g_739_40 rfl).trans (mUp_no e89 (mUp_no e85 (mUp_no e81 (mUp_no e77 (mUp_at e73) (Or.inr (by decide))) (Or.inr (by decide))) (Or.inr (by decide))) (Or.inr (by decide)))) ((hQ106.at g_739_42 rfl).trans (mUp_no e89 (mUp_no e85 (mUp_no e81 (mUp_at e77) (Or.inr (by decide))) (Or.inr (by decide))) (Or.inr (by decide)))) ((hQ106.at g_739_43 rfl).trans (mUp_no e89 (mUp_no e85 (mUp_at e81) (Or.inr (by decide))) (Or.inr (by decide)))) ((hQ106.at g_739_44 rfl).trans (mUp_no e89 (mUp_at e85) (Or.inr (by decide)))) ((hQ106.at g_739_38 rfl).trans (mUp_at e89)) (by first | with_reducible assumption | omega) (by first | with_reducible assumption | omega) (by first | with_reducible assumption | omega) (by first | with_reducible assumption | omega) (TK_sm (Sm.fr hQ106 rfl) (TK_sm (Sm.up e89 g_739_38 rfl) (TK_sm (Sm.up e85 g_739_44 rfl) (TK_sm (Sm.up e81 g_739_43 rfl) (TK_sm (Sm.up e77 g_739_42 rfl) (TK_sm (Sm.up e73 g_739_40 rfl) (TK_sm (Sm.up e69 g_739_39 rfl) pr65))))))) pr122 (WS_sm (Sm.fr hQ106 rfl) (WS_sm (Sm.up e89 g_739_38 rfl) (WS_sm (Sm.up e85 g_739_44 rfl) (WS_sm (Sm.up e81 g_739_43 rfl) (WS_sm (Sm.up e77 g_739_42 rfl) (WS_sm (Sm.up e73 g_739_40 rfl) (WS_sm (Sm.up e69 g_739_39 rfl) (WS_sm (Sm.fr hQ3 rfl) pp_WS)))))))) (QW_sm (Sm.fr hQ106 rfl) (QW_sm (Sm.up e89 g_739_38 rfl) (QW_sm (Sm.up e85 g_739_44 rfl) (QW_sm (Sm.up e81 g_739_43 rfl) (QW_sm (Sm.up e77 g_739_42 rfl) (QW_sm (Sm.up e73 g_739_40 rfl) (QW_sm (Sm.up e69 g_739_39 rfl) (QW_sm (Sm.fr hQ3 rfl) pp_QW)))))))) pr123 (TXQ_sm (Sm.fr hQ106 rfl) (TXQ_sm (Sm.up e89 g_739_38 rfl) (TXQ_sm (Sm.up e85 g_739_44 rfl) (TXQ_sm (Sm.up e81 g_739_43 rfl) (TXQ_sm (Sm.up e77 g_739_42 rfl) (TXQ_sm (Sm.up e73 g_739_40 rfl) (TXQ_sm (Sm.up e69 g_739_39 rfl) pr63))))))) (TTP_sm (Sm.fr hQ106 rfl) (TTP_sm (Sm.up e89 g_739_38 rfl) (TTP_sm (Sm.up e85 g_739_44 rfl) (TTP_sm (Sm.up e81 g_739_43 rfl) (TTP_sm (Sm.up e77 g_739_42 rfl) (TTP_sm (Sm.up e73 g_739_40 rfl) (TTP_sm (Sm.up e69 g_739_39 rfl) pr62))))))) (SMR_sm (Sm.fr hQ106 rfl) (SMR_sm (Sm.up e89 g_739_38 rfl) (SMR_sm (Sm.up e85 g_739_44 rfl) (SMR_sm (Sm.up e81 g_739_43 rfl) (SMR_sm (Sm.up e77 g_739_42 rfl) (SMR_sm (Sm.up e73 g_739_40 rfl) (SMR_sm (Sm.up e69 g_739_39 rfl) (SMR_sm (Sm.fr hQ3 rfl) (SMR_rf M0))))))))) (by first | with_reducible assumption | omega) (by first | with_reducible assumption | omega) (by first | with_reducible assumption | omega) (by first | with_reducible assumption | omega) (by first | with_reducible assumption | omega) (by first | with_reducible assumption | omega) (by first | with_reducible assumption | omega) (by first | with_reducible assumption | omega) (by first | with_reducible assumption | omega) (by first | with_reducible assumption | omega) (by first | with_reducible assumption | omega) (by first | with_reducible assumption | omega) (by omega))
  · intro h3495
    clear h8 h9 h10 h11 h12 h13
    refine wk_c1 r91_8 ?_
    subst hQ; exact wk_iret r91_9 (⟨rfl, _, rfl, hP2, hF4, by omega, by omega, by have := e21; omega, by rw [e29, ((hQ3.at g_739_1 rfl).trans ex739_1), ((hQ3.at g_739_13 rfl).trans ex739_13), ((hQ3.at g_739_21 rfl).trans ex739_21), e25]; exact INR_t (by omega), fun q => absurd q (by have := e29; omega), fun _ => (SMR_sm (Sm.fr hQ3 rfl) (SMR_rf M0)), (WS_sm (Sm.fr hQ3 rfl) pp_WS), (QW_sm (Sm.fr hQ3 rfl) pp_QW)⟩)
