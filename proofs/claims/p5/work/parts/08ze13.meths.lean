/-! ===== written by program (wip/layer3/model.py): contracts of methods ===== -/
def fm_m9091_739 : Nat := 7032490225884642216509604815343760925371859018325566359973330027514377011200
set_option maxHeartbeats 20000000 in
/-- IslandHallModel.island -/
theorem m9091_739 {B : eB} (d : Nat) (M0 : Mm) (p1 : Int) (x739_27 : Int) (hP0 : Pw M0) (l1 : (-2147483648) ≤ p1) (u1 : p1 ≤ 2147483647) (ex739_27 : M0 739 27 = x739_27) (lx739_27 : 0 ≤ x739_27) (ux739_27 : x739_27 ≤ 500) (pp_WS : WS M0) (pp_QW : QW M0) : Ct B (d + 9) 91 [R 739, I p1] M0 (qI fun z M => Pw M ∧ Fr fm_m9091_739 M0 M ∧ 0 ≤ z ∧ z ≤ 6 ∧ ((0 ≤ p1 ∧ p1 ≤ x739_27 ∧ M 739 27 = 0) ∨ ((p1 < 0 ∨ x739_27 < p1) ∧ M 739 27 = x739_27)) ∧ (WS M) ∧ (QW M)) := by
  refine ct_of (d := d + 8) (k := 1) (L := [some (R 739), some (I p1), none]) rfl rfl rfl ?_
  have hF0 := Fr.rf fm_m9091_739 M0
  generalize hQ : (qI fun z M => Pw M ∧ Fr fm_m9091_739 M0 M ∧ 0 ≤ z ∧ z ≤ 6 ∧ ((0 ≤ p1 ∧ p1 ≤ x739_27 ∧ M 739 27 = 0) ∨ ((p1 < 0 ∨ x739_27 < p1) ∧ M 739 27 = x739_27)) ∧ (WS M) ∧ (QW M)) = Q
  refine wk_al0 r91_0 (wk_il1 r91_1 (wk_cv2 r91_2 kc_739_50 rfl (m9050_739 _ M0 p1 x739_27 hP0 (by first | with_reducible assumption | omega) (by first | with_reducible assumption | omega) ex739_27 (by first | with_reducible assumption | omega) (by first | with_reducible assumption | omega)) (cqI ?_)))
  rintro v14 M1 ⟨hP2, hQ3, h15, h16, h5, h6, h7, h8, h9, h10, h11, xh12, xh13⟩
  have hF4 : Fr fm_m9091_739 M0 M1 := hF0.tr hQ3 rfl
  obtain ⟨v17, e18⟩ : ∃ v, M1 739 27 = v := ⟨_, rfl⟩
  have h19 := (bf_739_27 hP2).1; rw [e18] at h19
  have h20 := (bf_739_27 hP2).2; rw [e18] at h20
  obtain ⟨v21, e22⟩ : ∃ v, M1 739 28 = v := ⟨_, rfl⟩
  have h23 := (bf_739_28 hP2).1; rw [e22] at h23
  have h24 := (bf_739_28 hP2).2; rw [e22] at h24
  obtain ⟨v25, e26⟩ : ∃ v, M1 739 45 = v := ⟨_, rfl⟩
  have h27 := (bf_739_45 hP2).1; rw [e26] at h27
  have h28 := (bf_739_45 hP2).2; rw [e26] at h28
  obtain ⟨v29, e30⟩ : ∃ v, M1 739 30 = v := ⟨_, rfl⟩
  have h31 := (bf_739_30 hP2).1; rw [e30] at h31
  have h32 := (bf_739_30 hP2).2; rw [e30] at h32
  obtain ⟨v33, e34⟩ : ∃ v, M1 739 31 = v := ⟨_, rfl⟩
  have h35 := (bf_739_31 hP2).1; rw [e34] at h35
  have h36 := (bf_739_31 hP2).2; rw [e34] at h36
  obtain ⟨v37, e38⟩ : ∃ v, M1 739 33 = v := ⟨_, rfl⟩
  have h39 := (bf_739_33 hP2).1; rw [e38] at h39
  have h40 := (bf_739_33 hP2).2; rw [e38] at h40
  obtain ⟨v41, e42⟩ : ∃ v, M1 739 34 = v := ⟨_, rfl⟩
  have h43 := (bf_739_34 hP2).1; rw [e42] at h43
  have h44 := (bf_739_34 hP2).2; rw [e42] at h44
  obtain ⟨v45, e46⟩ : ∃ v, M1 739 32 = v := ⟨_, rfl⟩
  have h47 := (bf_739_32 hP2).1; rw [e46] at h47
  have h48 := (bf_739_32 hP2).2; rw [e46] at h48
  refine wk_ifne r91_5 ⟨by omega, by omega⟩ ?_ ?_
  · intro h49
    have pr50 : TK M1 := xh13 (by omega)
    refine wk_al0 r91_10 (wk_c1 r91_11 (wk_putfi81 r91_12 fd_739_39 (wk_nw g_739_39 rfl hP2 hF4 (uf_739_39 (by decide)) ?_)))
    intro M51 hP52 hF53 e54
    refine wk_al0 r91_15 (wk_c1 r91_16 (wk_putfi81 r91_17 fd_739_40 (wk_nw g_739_40 rfl hP52 hF53 (uf_739_40 (by decide)) ?_)))
    intro M55 hP56 hF57 e58
    refine wk_al0 r91_20 (wk_c1 r91_21 (wk_putfi81 r91_22 fd_739_42 (wk_nw g_739_42 rfl hP56 hF57 (uf_739_42 (by decide)) ?_)))
    intro M59 hP60 hF61 e62
    refine wk_al0 r91_25 (wk_c1 r91_26 (wk_putfi81 r91_27 fd_739_43 (wk_nw g_739_43 rfl hP60 hF61 (uf_739_43 (by decide)) ?_)))
    intro M63 hP64 hF65 e66
    refine wk_al0 r91_30 (wk_c1 r91_31 (wk_putfi81 r91_32 fd_739_44 (wk_nw g_739_44 rfl hP64 hF65 (uf_739_44 (by decide)) ?_)))
    intro M67 hP68 hF69 e70
    refine wk_al0 r91_35 (wk_c1 r91_36 (wk_putfi81 r91_37 fd_739_38 (wk_nw g_739_38 rfl hP68 hF69 (uf_739_38 (by decide)) ?_)))
    intro M71 hP72 hF73 e74
    have pr75 : FP M71 := FP_0 (mUp_no e74 (mUp_at e70) (Or.inr (by decide))) ((mUp_no e74 (mUp_no e70 (mUp_no e66 (mUp_no e62 (mUp_no e58 (mUp_no e54 e26 (Or.inr (by decide))) (Or.inr (by decide))) (Or.inr (by decide))) (Or.inr (by decide))) (Or.inr (by decide))) (Or.inr (by decide))).trans (by omega))
    have pr76 : LRP M71 := fun _ => by have := (mUp_no e74 (mUp_no e70 (mUp_no e66 (mUp_at e62) (Or.inr (by decide))) (Or.inr (by decide))) (Or.inr (by decide))); omega
    refine wk_al0 r91_40 (wk_cv1 r91_41 kc_739_97 rfl (m9097_739 _ M71 v45 v41 hP72 (mUp_no e74 (mUp_no e70 (mUp_no e66 (mUp_no e62 (mUp_no e58 (mUp_no e54 e46 (Or.inr (by decide))) (Or.inr (by decide))) (Or.inr (by decide))) (Or.inr (by decide))) (Or.inr (by decide))) (Or.inr (by decide))) (by first | with_reducible assumption | omega) (by first | with_reducible assumption | omega) (mUp_no e74 (mUp_no e70 (mUp_no e66 (mUp_no e62 (mUp_no e58 (mUp_no e54 e42 (Or.inr (by decide))) (Or.inr (by decide))) (Or.inr (by decide))) (Or.inr (by decide))) (Or.inr (by decide))) (Or.inr (by decide))) (by first | with_reducible assumption | omega) (by first | with_reducible assumption | omega) (TK_sm (Sm.up e74 g_739_38 rfl) (TK_sm (Sm.up e70 g_739_44 rfl) (TK_sm (Sm.up e66 g_739_43 rfl) (TK_sm (Sm.up e62 g_739_42 rfl) (TK_sm (Sm.up e58 g_739_40 rfl) (TK_sm (Sm.up e54 g_739_39 rfl) pr50))))))) (cqI ?_))
    rintro v82 M77 ⟨hP78, hQ79, h83, h84, h81⟩
    obtain rfl := Fr.same hQ79
    have e85 := (mUp_no e74 (mUp_no e70 (mUp_no e66 (mUp_no e62 (mUp_no e58 (mUp_no e54 e42 (Or.inr (by decide))) (Or.inr (by decide))) (Or.inr (by decide))) (Or.inr (by decide))) (Or.inr (by decide))) (Or.inr (by decide)))
    refine wk_c1 r91_44 ?_
    have c53_3234 : ∀ (M100 : Mm) (v103 : Int), Pw M100 → Fr fm_m9091_739 M0 M100 → M100 739 28 = v103 → M100 739 27 = v17 → M100 739 45 = v25 → M100 739 30 = v29 → M100 739 31 = v33 → M100 739 33 = v37 → M100 739 34 = v41 → M100 739 32 = v45 → M100 739 39 = 1 → M100 739 40 = (-1) → M100 739 42 = 0 → M100 739 43 = 1 → M100 739 44 = 0 → M100 739 38 = 0 → 0 ≤ v103 → v103 ≤ 6 → (TK M100) → (FP M100) → (WS M100) → (QW M100) → (LRP M100) → 0 ≤ 1 * v29 + (-1) * v33 → 0 ≤ 1 * v33 + (-1) * v37 + (-1) * v41 → 0 ≤ (-1) * v33 + 1 * v37 + 1 * v41 → 0 ≤ 4 * v41 + (-1) * v45 → 0 ≤ 1 * v37 + (-2) * v25 + 3000 * v103 + 2 → 0 ≤ (-1) * v25 + 262 → 0 ≤ (-1) * 0 + 1 * v37 + 3000 * v103 → 0 ≤ (-1) * 1 + 4 + 3000 * v103 → 0 ≤ 1 * 1 + (-1) + 3000 * v103 → 0 ≤ (-1) * (-1) + 6 + 3000 * v103 → 0 ≤ (-1) * 0 + 7 + 3000 * v103 → Wp B (d + 8) 91 53 [some (R 739), none, none] [] M100 Q := by
      intro M100 v103 hP101 hF102 e106 e107 e108 e109 e110 e111 e112 e113 e114 e115 e116 e117 e118 e119 h104 h105 pr120 pr121 pr122 pr123 pr124 h125 h126 h127 h128 h129 h130 h131 h132 h133 h134 h135
      refine wk_al0 r91_53 (wk_cv1 r91_54 kc_739_84 rfl (m9084_739 _ M100 v103 hP101 e106 (by first | with_reducible assumption | omega) (by first | with_reducible assumption | omega)) (cqI ?_))
      rintro v142 M136 ⟨hP137, hQ138, h143, h144, h140, h141⟩
      obtain rfl := Fr.same hQ138
      have e145 := e106
      have c64_3233 : ∀ (M175 : Mm) (v178 : Int) (v182 : Int) (v186 : Int) (v190 : Int), Pw M175 → Fr fm_m9091_739 M0 M175 → M175 739 31 = v178 → M175 739 33 = v182 → M175 739 34 = v186 → M175 739 32 = v190 → M175 739 28 = v103 → M175 739 27 = v17 → M175 739 45 = v25 → M175 739 30 = v29 → M175 739 39 = 1 → M175 739 40 = (-1) → M175 739 42 = 0 → M175 739 43 = 1 → M175 739 44 = 0 → M175 739 38 = 0 → 0 ≤ v178 → v178 ≤ 500 → 0 ≤ v182 → v182 ≤ 500 → 0 ≤ v186 → v186 ≤ 500 → 0 ≤ v190 → v190 ≤ 4 → (TK M175) → (FP M175) → (WS M175) → (QW M175) → (LRP M175) → 0 ≤ v178 - v182 → 0 ≤ v178 - v186 → (-3) ≤ v178 - v190 → v182 + v186 ≤ 500 → v182 + v190 ≤ 503 → (-3) ≤ v186 - v190 → 0 ≤ 1 * v29 + (-1) * v178 → 0 ≤ 1 * v178 + (-1) * v182 + (-1) * v186 → 0 ≤ (-1) * v178 + 1 * v182 + 1 * v186 → 0 ≤ 4 * v186 + (-1) * v190 → 0 ≤ 1 * v182 + (-2) * v25 + 3000 * v103 + 2 → 0 ≤ (-1) * v25 + 262 → 0 ≤ (-1) * 0 + 1 * v182 + 3000 * v103 → 0 ≤ (-1) * 1 + 4 + 3000 * v103 → 0 ≤ 1 * 1 + (-1) + 3000 * v103 → 0 ≤ (-1) * (-1) + 6 + 3000 * v103 → 0 ≤ (-1) * 0 + 7 + 3000 * v103 → Wp B (d + 8) 91 64 [some (R 739), none, none] [] M175 Q := by
        intro M175 v178 v182 v186 v190 hP176 hF177 e181 e185 e189 e193 e194 e195 e196 e197 e198 e199 e200 e201 e202 e203 h179 h180 h183 h184 h187 h188 h191 h192 pr204 pr205 pr206 pr207 pr208 h209 h210 h211 h212 h213 h214 h215 h216 h217 h218 h219 h220 h221 h222 h223 h224 h225
        refine wk_al0 r91_64 (wk_al0 r91_65 (wk_c1 r91_66 (wk_c2 r91_67 ?_)))
        obtain ⟨v226, e227⟩ : ∃ v, M175 739 35 = v := ⟨_, rfl⟩
        have h228 := (bf_739_35 hP176).1; rw [e227] at h228
        have h229 := (bf_739_35 hP176).2; rw [e227] at h229
        refine wk_cv3 r91_69 kc_739_114 rfl (m9114_739 _ M175 0 7 v29 v178 v182 v186 v190 v103 v226 hP176 (by decide) (by decide) (by decide) (by decide) e197 (by first | with_reducible assumption | omega) (by first | with_reducible assumption | omega) e181 (by first | with_reducible assumption | omega) (by first | with_reducible assumption | omega) e185 (by first | with_reducible assumption | omega) (by first | with_reducible assumption | omega) e189 (by first | with_reducible assumption | omega) (by first | with_reducible assumption | omega) e193 (by first | with_reducible assumption | omega) (by first | with_reducible assumption | omega) e194 (by first | with_reducible assumption | omega) (by first | with_reducible assumption | omega) e227 (by first | with_reducible assumption | omega) (by first | with_reducible assumption | omega) (by omega) (by omega) (by omega) (by omega) pr204) (cqI ?_)
        rintro v244 M230 ⟨hP231, hQ232, h245, h246, h234, h235, h236, h237, h238, h239, h240, h241, h242, pr243⟩
        have hF233 : Fr fm_m9091_739 M0 M230 := hF177.tr hQ232 rfl
        have e247 := ((hQ232.at g_739_30 rfl).trans e197)
        obtain ⟨v248, e249⟩ : ∃ v, M230 739 31 = v := ⟨_, rfl⟩
        have h250 := (bf_739_31 hP231).1; rw [e249] at h250
        have h251 := (bf_739_31 hP231).2; rw [e249] at h251
        obtain ⟨v252, e253⟩ : ∃ v, M230 739 33 = v := ⟨_, rfl⟩
        have h254 := (bf_739_33 hP231).1; rw [e253] at h254
        have h255 := (bf_739_33 hP231).2; rw [e253] at h255
        obtain ⟨v256, e257⟩ : ∃ v, M230 739 34 = v := ⟨_, rfl⟩
        have h258 := (bf_739_34 hP231).1; rw [e257] at h258
        have h259 := (bf_739_34 hP231).2; rw [e257] at h259
        obtain ⟨v260, e261⟩ : ∃ v, M230 739 32 = v := ⟨_, rfl⟩
        have h262 := (bf_739_32 hP231).1; rw [e261] at h262
        have h263 := (bf_739_32 hP231).2; rw [e261] at h263
        obtain ⟨v264, e265⟩ : ∃ v, M230 739 28 = v := ⟨_, rfl⟩
        have h266 := (bf_739_28 hP231).1; rw [e265] at h266
        have h267 := (bf_739_28 hP231).2; rw [e265] at h267
        have pr268 : FP M230 := FP_mn (Sm.fr hQ232 rfl) (fun q => by have := e194; have := e265; omega) pr205
        have pr269 : LRP M230 := LRP_mn (Sm.fr hQ232 rfl) (fun q => by have := e194; have := e265; omega) pr208
        refine wk_putfi81 r91_72 fd_739_38 (wk_nw g_739_38 rfl hP231 hF233 (uf_739_38 ⟨by omega, by omega⟩) ?_)
        intro M270 hP271 hF272 e273
        refine wk_c1 r91_75 (wk_is2 r91_76 rfl ?_)
        have c77_3232 : ∀ (k3232 : Nat) (M492 : Mm) (v489 : Int), (7 - v489).toNat = k3232 → Pw M492 → Fr fm_m9091_739 M0 M492 → M492 739 27 = v17 → M492 739 45 = v25 → M492 739 30 = v29 → M492 739 39 = 1 → M492 739 40 = (-1) → M492 739 42 = 0 → M492 739 43 = 1 → M492 739 44 = 0 → M492 739 38 = v244 → M492 739 31 = v248 → M492 739 33 = v252 → M492 739 34 = v256 → M492 739 32 = v260 → M492 739 28 = v264 → 0 ≤ v489 → v489 ≤ 7 → (TK M492) → (FP M492) → (WS M492) → (QW M492) → (LRP M492) → 0 ≤ 1 * v29 + (-1) * v248 → 0 ≤ 1 * v248 + (-1) * v252 + (-1) * v256 → 0 ≤ (-1) * v248 + 1 * v252 + 1 * v256 → 0 ≤ 4 * v256 + (-1) * v260 → 0 ≤ 1 * v252 + (-2) * v25 + 3000 * v264 + 2 → 0 ≤ (-1) * v25 + 262 → 0 ≤ (-1) * 0 + 1 * v252 + 3000 * v264 → 0 ≤ (-1) * 1 + 4 + 3000 * v264 → 0 ≤ 1 * 1 + (-1) + 3000 * v264 → 0 ≤ (-1) * (-1) + 6 + 3000 * v264 → 0 ≤ (-1) * v244 + 7 + 3000 * v264 → (∀ k : Int, 0 ≤ k → k < v489 → M492 756 k = 3) → Wp B (d + 8) 91 77 [some (R 739), none, some (I v489)] [] M492 Q := by
          refine lp_ind ?_
          intro k3232 ih3232 M492 v489 hk3232 hP493 hF494 e495 e496 e497 e498 e499 e500 e501 e502 e503 e504 e505 e506 e507 e508 h490 h491 pr509 pr510 pr511 pr512 pr513 h514 h515 h516 h517 h518 h519 h520 h521 h522 h523 h524 ti525
          refine wk_il2 r91_77 (wk_c2 r91_78 ?_)
          refine wk_icge r91_80 ⟨by omega, by omega⟩ (by decide) ?_ ?_
          · intro h526
            have pr527 : MRP M492 := fun k a b => by rw [ti525 k a (by omega)]; decide
            refine wk_al0 r91_96 (wk_cv1 r91_97 kc_739_65 rfl (m9065_739 _ M492 v29 v248 v252 v256 v260 v264 hP493 e497 (by first | with_reducible assumption | omega) (by first | with_reducible assumption | omega) e504 (by first | with_reducible assumption | omega) (by first | with_reducible assumption | omega) e505 (by first | with_reducible assumption | omega) (by first | with_reducible assumption | omega) e506 (by first | with_reducible assumption | omega) (by first | with_reducible assumption | omega) e507 (by first | with_reducible assumption | omega) (by first | with_reducible assumption | omega) e508 (by first | with_reducible assumption | omega) (by first | with_reducible assumption | omega) (by omega) (by omega) (by omega) (by omega) pr509) (cqV ?_))
            rintro M528 ⟨hP529, hQ530, h532, h533, h534, h535, h536, h537, h538, pr539⟩
            have hF531 : Fr fm_m9091_739 M0 M528 := hF494.tr hQ530 rfl
            have e540 := ((hQ530.at g_739_30 rfl).trans e497)
            obtain ⟨v541, e542⟩ : ∃ v, M528 739 31 = v := ⟨_, rfl⟩
            have h543 := (bf_739_31 hP529).1; rw [e542] at h543
            have h544 := (bf_739_31 hP529).2; rw [e542] at h544
            obtain ⟨v545, e546⟩ : ∃ v, M528 739 33 = v := ⟨_, rfl⟩
            have h547 := (bf_739_33 hP529).1; rw [e546] at h547
            have h548 := (bf_739_33 hP529).2; rw [e546] at h548
            obtain ⟨v549, e550⟩ : ∃ v, M528 739 34 = v := ⟨_, rfl⟩
            have h551 := (bf_739_34 hP529).1; rw [e550] at h551
            have h552 := (bf_739_34 hP529).2; rw [e550] at h552
            obtain ⟨v553, e554⟩ : ∃ v, M528 739 32 = v := ⟨_, rfl⟩
            have h555 := (bf_739_32 hP529).1; rw [e554] at h555
            have h556 := (bf_739_32 hP529).2; rw [e554] at h556
            obtain ⟨v557, e558⟩ : ∃ v, M528 739 28 = v := ⟨_, rfl⟩
            have h559 := (bf_739_28 hP529).1; rw [e558] at h559
            have h560 := (bf_739_28 hP529).2; rw [e558] at h560
            have pr561 : FP M528 := FP_mn (Sm.fr hQ530 rfl) (fun q => by have := e508; have := e558; omega) pr510
            have pr562 : LRP M528 := LRP_mn (Sm.fr hQ530 rfl) (fun q => by have := e508; have := e558; omega) pr513
            have c100_3226 : ∀ (k3226 : Nat) (M2834 : Mm) (v2837 : Int) (v2841 : Int) (v2845 : Int) (v2849 : Int) (v2853 : Int) (v2857 : Int) (v2861 : Int) (v2865 : Int) (v2869 : Int), (10 * (501 - v2857) + (6 - v2869)).toNat = k3226 → Pw M2834 → Fr fm_m9091_739 M0 M2834 → M2834 739 45 = v2837 → M2834 739 39 = v2841 → M2834 739 40 = v2845 → M2834 739 44 = v2849 → M2834 739 31 = v2853 → M2834 739 33 = v2857 → M2834 739 34 = v2861 → M2834 739 32 = v2865 → M2834 739 28 = v2869 → M2834 739 27 = v17 → M2834 739 30 = v29 → M2834 739 38 = v244 → 0 ≤ v2837 → v2837 ≤ 262 → 0 ≤ v2841 → v2841 ≤ 999 → (-1) ≤ v2845 → v2845 ≤ 999 → 0 ≤ v2849 → v2849 ≤ 500 → 0 ≤ v2853 → v2853 ≤ 500 → 0 ≤ v2857 → v2857 ≤ 500 → 0 ≤ v2861 → v2861 ≤ 500 → 0 ≤ v2865 → v2865 ≤ 4 → 0 ≤ v2869 → v2869 ≤ 6 → (TK M2834) → (FP M2834) → (WS M2834) → (QW M2834) → (MRP M2834) → (LRP M2834) → 0 ≤ 1 * v29 + (-1) * v2853 → 0 ≤ 1 * v2853 + (-1) * v2857 + (-1) * v2861 → 0 ≤ (-1) * v2853 + 1 * v2857 + 1 * v2861 → 0 ≤ 4 * v2861 + (-1) * v2865 → 0 ≤ 1 * v2857 + (-2) * v2837 + 3000 * v2869 + 2 → 0 ≤ (-1) * v2837 + 262 → 0 ≤ (-1) * v2849 + 1 * v2857 + 3000 * v2869 → 0 ≤ (-1) * v2849 + 502 → 0 ≤ (-1) * v2841 + 4 + 3000 * v2869 → 0 ≤ 1 * v2841 + (-1) + 3000 * v2869 → 0 ≤ (-1) * v2845 + 6 + 3000 * v2869 → 0 ≤ (-1) * v244 + 7 + 3000 * v2869 → Wp B (d + 8) 91 100 [some (R 739), none, none] [] M2834 Q := by
              refine lp_ind ?_
              intro k3226 ih3226 M2834 v2837 v2841 v2845 v2849 v2853 v2857 v2861 v2865 v2869 hk3226 hP2835 hF2836 e2840 e2844 e2848 e2852 e2856 e2860 e2864 e2868 e2872 e2873 e2874 e2875 h2838 h2839 h2842 h2843 h2846 h2847 h2850 h2851 h2854 h2855 h2858 h2859 h2862 h2863 h2866 h2867 h2870 h2871 pr2876 pr2877 pr2878 pr2879 pr2880 pr2881 h2882 h2883 h2884 h2885 h2886 h2887 h2888 h2889 h2890 h2891 h2892 h2893
              refine wk_al0 r91_100 (wk_cv1 r91_101 kc_739_84 rfl (m9084_739 _ M2834 v2869 hP2835 e2872 (by first | with_reducible assumption | omega) (by first | with_reducible assumption | omega)) (cqI ?_))
              rintro v2900 M2894 ⟨hP2895, hQ2896, h2901, h2902, h2898, h2899⟩
              obtain rfl := Fr.same hQ2896
              have e2903 := e2872
              have c121_3225 : Wp B (d + 8) 91 121 [some (R 739), none, none] [] M2834 Q := by
                refine wk_al0 r91_121 (wk_al0 r91_122 (wk_getfi r91_123 fd_739_40 e2848 (wk_c1 r91_126 ?_)))
                have c143_3224 : ∀ (v2996 : Int), 1 ≤ v2996 → v2996 ≤ 7 → (v2996 = 1 ∨ v2996 = 7) → Wp B (d + 8) 91 143 [some (R 739), none, none] [I v2996, R 739] M2834 Q := by
                  intro v2996 h2997 h2998 ti2999
                  refine wk_putfi81 r91_143 fd_739_41 (wk_nw g_739_41 rfl hP2835 hF2836 (uf_739_41 ⟨by omega, by omega⟩) ?_)
                  intro M3000 hP3001 hF3002 e3003
                  refine wk_al0 r91_146 (wk_cv1 r91_147 kc_739_84 rfl (m9084_739 _ M3000 v2869 hP3001 (mUp_no e3003 e2872 (Or.inr (by decide))) (by first | with_reducible assumption | omega) (by first | with_reducible assumption | omega)) (cqI ?_))
                  rintro v3010 M3004 ⟨hP3005, hQ3006, h3011, h3012, h3008, h3009⟩
                  obtain rfl := Fr.same hQ3006
                  have e3013 := (mUp_no e3003 e2872 (Or.inr (by decide)))
                  refine wk_ifeq r91_150 ⟨by omega, by omega⟩ ?_ ?_
                  · intro h3014
                    refine wk_al0 r91_169 (wk_cv1 r91_170 kc_739_84 rfl (m9084_739 _ M3000 v2869 hP3001 (mUp_no e3003 e2872 (Or.inr (by decide))) (by first | with_reducible assumption | omega) (by first | with_reducible assumption | omega)) (cqI ?_))
                    rintro v3021 M3015 ⟨hP3016, hQ3017, h3022, h3023, h3019, h3020⟩
                    obtain rfl := Fr.same hQ3017
                    have e3024 := (mUp_no e3003 e2872 (Or.inr (by decide)))
                    refine wk_ifne r91_173 ⟨by omega, by omega⟩ ?_ ?_
                    · intro h3025
                      exfalso
                      omega
                    · intro h3026
                      refine wk_al0 r91_176 (wk_getfi r91_177 fd_739_28 (mUp_no e3003 e2872 (Or.inr (by decide))) ?_)
                      subst hQ; exact wk_iret r91_180 (⟨rfl, _, rfl, hP3001, hF3002, by omega, by omega, by have := (mUp_no e3003 e2873 (Or.inr (by decide))); omega, (WS_sm (Sm.up e3003 g_739_41 rfl) pr2878), (QW_sm (Sm.up e3003 g_739_41 rfl) pr2879)⟩)
                  · intro h3027
                    refine wk_al0 r91_153 ?_
                    obtain ⟨v3028, e3029⟩ : ∃ v, M3000 739 43 = v := ⟨_, rfl⟩
                    have h3030 := (bf_739_43 hP3001).1; rw [e3029] at h3030
                    have h3031 := (bf_739_43 hP3001).2; rw [e3029] at h3031
                    refine wk_cv1 r91_154 kc_739_127 rfl (m9127_739 _ M3000 v2841 v2996 v3028 v244 hP3001 (mUp_no e3003 e2844 (Or.inr (by decide))) (by first | with_reducible assumption | omega) (by first | with_reducible assumption | omega) (mUp_at e3003) (by first | with_reducible assumption | omega) (by first | with_reducible assumption | omega) e3029 (by first | with_reducible assumption | omega) (by first | with_reducible assumption | omega) (mUp_no e3003 e2875 (Or.inr (by decide))) (by first | with_reducible assumption | omega) (by first | with_reducible assumption | omega) (MRP_sm (Sm.up e3003 g_739_41 rfl) pr2880)) (cqI ?_)
                    rintro v3037 M3032 ⟨hP3033, hQ3034, h3038, h3039, xh3036⟩
                    obtain rfl := Fr.same hQ3034
                    refine wk_c3 r91_157 ?_
                    refine wk_icle r91_160 ⟨by omega, by omega⟩ (by decide) ?_ ?_
                    · intro h3040
                      refine wk_al0 r91_169 (wk_cv1 r91_170 kc_739_84 rfl (m9084_739 _ M3000 v2869 hP3001 (mUp_no e3003 e2872 (Or.inr (by decide))) (by first | with_reducible assumption | omega) (by first | with_reducible assumption | omega)) (cqI ?_))
                      rintro v3047 M3041 ⟨hP3042, hQ3043, h3048, h3049, h3045, h3046⟩
                      obtain rfl := Fr.same hQ3043
                      have e3050 := (mUp_no e3003 e2872 (Or.inr (by decide)))
                      refine wk_ifne r91_173 ⟨by omega, by omega⟩ ?_ ?_
                      · intro h3051
                        have hsz := xh3036 (by omega)
                        have hMR : MRP M3000 := (MRP_sm (Sm.up e3003 g_739_41 rfl) pr2880)
                        obtain ⟨u3052, hu3053⟩ : ∃ u : Int → Int, ∀ k, M3000 757 k = u k := ⟨fun k => M3000 757 k, fun k => rfl⟩
                        obtain ⟨u3054, hu3055⟩ : ∃ u : Int → Int, ∀ k, M3000 756 k = u k := ⟨fun k => M3000 756 k, fun k => rfl⟩
                        have hu6 : ∀ k : Int, M3000 756 k = u3054 k := hu3055
                        obtain ⟨Mz, hMz⟩ : ∃ m : Mm, m = M3000 := ⟨_, rfl⟩
                        have hFD := FP_get (FP_sm (Sm.up e3003 g_739_41 rfl) pr2877) (mUp_no e3003 e2872 (Or.inr (by decide))) (by omega) (mUp_no e3003 e2852 (Or.inr (by decide))) (mUp_no e3003 e2840 (Or.inr (by decide))) hu3053
                        have hgk : M3000 739 28 = v2869 := (mUp_no e3003 e2872 (Or.inr (by decide)))
                        have hLP : LRP M3000 := (LRP_sm (Sm.up e3003 g_739_41 rfl) pr2881)
                        obtain ⟨v3056, e3057⟩ : ∃ v, M3000 739 42 = v := ⟨_, rfl⟩
                        have h3058 := bf_739_42 hP3001; rw [e3057] at h3058
                        have hlr : M3000 739 42 = v3056 := e3057
                        refine wk_al0 r91_181 (wk_al0 r91_182 (wk_getfi r91_183 fd_739_38 (mUp_no e3003 e2875 (Or.inr (by decide))) (wk_putfi81 r91_186 fd_739_1 (wk_nw g_739_1 rfl hP3001 hF3002 (uf_739_1 ⟨by omega, by omega⟩) ?_))))
                        intro M3059 hP3060 hF3061 e3062
                        refine wk_al0 r91_189 (wk_al0 r91_190 (wk_getfi r91_191 fd_739_39 (mUp_no e3062 (mUp_no e3003 e2844 (Or.inr (by decide))) (Or.inr (by decide))) (wk_putfi81 r91_194 fd_739_2 (wk_nw g_739_2 rfl hP3060 hF3061 (uf_739_2 ⟨by omega, by omega⟩) ?_))))
                        intro M3063 hP3064 hF3065 e3066
                        refine wk_al0 r91_197 (wk_al0 r91_198 (wk_getfi r91_199 fd_739_42 (mUp_no e3066 (mUp_no e3062 e3057 (Or.inr (by decide))) (Or.inr (by decide))) ?_))
                        have h3067 : 0 ≤ v3056 ∧ v3056 ≤ 127 := by have q := hLP (by omega); have := hlr; omega
                        refine wk_putfi81 r91_202 fd_739_3 (wk_nw g_739_3 rfl hP3064 hF3065 (uf_739_3 ⟨by omega, by omega⟩) ?_)
                        intro M3068 hP3069 hF3070 e3071
                        refine wk_al0 r91_205 (wk_al0 r91_206 (wk_getfi r91_207 fd_739_44 (mUp_no e3071 (mUp_no e3066 (mUp_no e3062 (mUp_no e3003 e2852 (Or.inr (by decide))) (Or.inr (by decide))) (Or.inr (by decide))) (Or.inr (by decide))) (wk_putfi81 r91_210 fd_739_4 (wk_nw g_739_4 rfl hP3069 hF3070 (uf_739_4 ⟨by omega, by omega⟩) ?_))))
                        intro M3072 hP3073 hF3074 e3075
                        refine wk_c1 r91_213 (wk_is2 r91_214 rfl ?_)
                        have c215_3197 : ∀ (k3197 : Nat) (M3079 : Mm) (v3076 : Int), (7 - v3076).toNat = k3197 → Pw M3079 → Fr fm_m9091_739 M0 M3079 → M3079 739 45 = v2837 → M3079 739 39 = v2841 → M3079 739 40 = v2845 → M3079 739 44 = v2849 → M3079 739 31 = v2853 → M3079 739 33 = v2857 → M3079 739 34 = v2861 → M3079 739 32 = v2865 → M3079 739 28 = v2869 → M3079 739 27 = v17 → M3079 739 30 = v29 → M3079 739 38 = v244 → M3079 739 41 = v2996 → M3079 739 43 = v3028 → M3079 739 42 = v3056 → M3079 739 1 = v244 → M3079 739 2 = v2841 → M3079 739 3 = v3056 → M3079 739 4 = v2849 → 0 ≤ v3076 → v3076 ≤ 7 → (∀ k, M3079 757 k = u3052 k) → (∀ k, M3079 756 k = u3054 k) → (TK M3079) → (FP M3079) → (WS M3079) → (QW M3079) → (MRP M3079) → (LRP M3079) → 0 ≤ 1 * v29 + (-1) * v2853 → 0 ≤ 1 * v2853 + (-1) * v2857 + (-1) * v2861 → 0 ≤ (-1) * v2853 + 1 * v2857 + 1 * v2861 → 0 ≤ 4 * v2861 + (-1) * v2865 → 0 ≤ 1 * v2857 + (-2) * v2837 + 3000 * v2869 + 2 → 0 ≤ (-1) * v2837 + 262 → 0 ≤ (-1) * v2849 + 1 * v2857 + 3000 * v2869 → 0 ≤ (-1) * v2849 + 502 → 0 ≤ (-1) * v2841 + 4 + 3000 * v2869 → 0 ≤ 1 * v2841 + (-1) + 3000 * v2869 → 0 ≤ (-1) * v2845 + 6 + 3000 * v2869 → 0 ≤ (-1) * v244 + 7 + 3000 * v2869 → (∀ k : Int, 0 ≤ k → k < v3076 → M3079 740 k = u3054 k) → Wp B (d + 8) 91 215 [some (R 739), none, some (I v3076)] [] M3079 Q := by
                          refine lp_ind ?_
                          intro k3197 ih3197 M3079 v3076 hk3197 hP3080 hF3081 e3084 e3085 e3086 e3087 e3088 e3089 e3090 e3091 e3092 e3093 e3094 e3095 e3096 e3097 e3098 e3099 e3100 e3101 e3102 h3077 h3078 hu3082 hu3083 pr3103 pr3104 pr3105 pr3106 pr3107 pr3108 h3109 h3110 h3111 h3112 h3113 h3114 h3115 h3116 h3117 h3118 h3119 h3120 ti3121
                          refine wk_il2 r91_215 (wk_c2 r91_216 ?_)
                          refine wk_icge r91_218 ⟨by omega, by omega⟩ (by decide) ?_ ?_
                          · intro h3122
                            obtain ⟨Mb, hMb⟩ : ∃ m : Mm, m = M3079 := ⟨_, rfl⟩
                            have hA6 : ∀ k : Int, 0 ≤ k → k < 7 → Mb 740 k = u3054 k := fun k a b => by rw [hMb]; exact ti3121 k a (by omega)
                            refine wk_c1 r91_239 (wk_is2 r91_240 rfl ?_)
                            have c241_3187 : ∀ (k3187 : Nat) (M3126 : Mm) (v3123 : Int), (251 - v3123).toNat = k3187 → Pw M3126 → Fr fm_m9091_739 M0 M3126 → M3126 739 45 = v2837 → M3126 739 39 = v2841 → M3126 739 40 = v2845 → M3126 739 44 = v2849 → M3126 739 31 = v2853 → M3126 739 33 = v2857 → M3126 739 34 = v2861 → M3126 739 32 = v2865 → M3126 739 28 = v2869 → M3126 739 27 = v17 → M3126 739 30 = v29 → M3126 739 38 = v244 → M3126 739 41 = v2996 → M3126 739 43 = v3028 → M3126 739 42 = v3056 → M3126 739 1 = v244 → M3126 739 2 = v2841 → M3126 739 3 = v3056 → M3126 739 4 = v2849 → 0 ≤ v3123 → v3123 ≤ 251 → (∀ k, M3126 757 k = u3052 k) → (∀ k, M3126 756 k = u3054 k) → (TK M3126) → (FP M3126) → (WS M3126) → (QW M3126) → (MRP M3126) → (LRP M3126) → 0 ≤ 1 * v29 + (-1) * v2853 → 0 ≤ 1 * v2853 + (-1) * v2857 + (-1) * v2861 → 0 ≤ (-1) * v2853 + 1 * v2857 + 1 * v2861 → 0 ≤ 4 * v2861 + (-1) * v2865 → 0 ≤ 1 * v2857 + (-2) * v2837 + 3000 * v2869 + 2 → 0 ≤ (-1) * v2837 + 262 → 0 ≤ (-1) * v2849 + 1 * v2857 + 3000 * v2869 → 0 ≤ (-1) * v2849 + 502 → 0 ≤ (-1) * v2841 + 4 + 3000 * v2869 → 0 ≤ 1 * v2841 + (-1) + 3000 * v2869 → 0 ≤ (-1) * v2845 + 6 + 3000 * v2869 → 0 ≤ (-1) * v244 + 7 + 3000 * v2869 → (∀ k : Int, 0 ≤ k → k < v3123 → M3126 741 (0 + k) = u3052 k) → (∀ k : Int, M3126 740 k = Mb 740 k) → Wp B (d + 8) 91 241 [some (R 739), none, some (I v3123)] [] M3126 Q := by
                              refine lp_ind ?_
                              intro k3187 ih3187 M3126 v3123 hk3187 hP3127 hF3128 e3131 e3132 e3133 e3134 e3135 e3136 e3137 e3138 e3139 e3140 e3141 e3142 e3143 e3144 e3145 e3146 e3147 e3148 e3149 h3124 h3125 hu3129 hu3130 pr3150 pr3151 pr3152 pr3153 pr3154 pr3155 h3156 h3157 h3158 h3159 h3160 h3161 h3162 h3163 h3164 h3165 h3166 h3167 ti3168 ti3169
                              refine wk_il2 r91_241 (wk_al0 r91_242 (wk_getfi r91_243 fd_739_45 e3131 ?_))
                              refine wk_icge r91_246 ⟨by omega, by omega⟩ ⟨by omega, by omega⟩ ?_ ?_
                              · intro h3170
                                have pr3171 : FFP M3126 v2837 := FFP_mk hFD e3149 (fun k a b => ti3168 k a (by omega)) (by omega)
                                have hA7 : ∀ k : Int, 0 ≤ k → k < 7 → M3126 740 k = u3054 k := fun k a b => (ti3169 k).trans (hA6 k a b)
                                refine wk_al0 r91_267 (wk_cv1 r91_268 kc_739_108 rfl (m9108_739 _ M3126 v244 v2841 v2996 v3028 v2845 v2837 (v2841 * v2996 * v3028) hP3127 e3146 (by first | with_reducible assumption | omega) (by first | with_reducible assumption | omega) e3147 (by first | with_reducible assumption | omega) (by first | with_reducible assumption | omega) e3143 (by first | with_reducible assumption | omega) (by first | with_reducible assumption | omega) e3144 (by first | with_reducible assumption | omega) (by first | with_reducible assumption | omega) e3133 (by first | with_reducible assumption | omega) (by first | with_reducible assumption | omega) (by first | assumption | omega | (unfold stepok; omega)) (rfl) (isl_sz hsz hu6 hA7 (by omega)) (fun k a b => by rw [hA7 k a b, ← hu6 k]; exact hMR k a b) pr3171) (cqV ?_))
                                rintro M3172 ⟨hP3173, hQ3174, pr3176, pr3177⟩
                                have hF3175 : Fr fm_m9091_739 M0 M3172 := hF3128.tr hQ3174 rfl
                                refine wk_c1 r91_271 ?_
                                subst hQ; exact wk_iret r91_272 (⟨rfl, _, rfl, hP3173, hF3175, by omega, by omega, by have := ((hQ3174.at g_739_27 rfl).trans e3140); omega, pr3176, pr3177⟩)
                              · intro h3178
                                refine wk_al0 r91_249 (wk_getfr r91_250 fd_739_6 (br_739_6 hP3127) (wk_il2 r91_253 (wk_al0 r91_254 (wk_getfr r91_255 fd_739_49 (br_739_49 hP3127) (wk_il2 r91_258 (wk_ialdb r91_259 ar_757 ⟨by omega, by omega⟩ (fun q0 q1 => ba_757 hP3127 q0 q1) ?_))))))
                                intro v3179 h3181 h3182 e3180
                                refine wk_iast r91_260 ar_741 ⟨by omega, by omega⟩ (wk_nw (ga_741 _) rfl hP3127 hF3128 (uaR_741 (by rw [← e3180, hu3129]; exact FD_ok _ _ _ hFD.2 _ (by omega) (by omega))) ?_)
                                intro M3183 hP3184 hF3185 e3186
                                refine wk_inc2 r91_261 rfl (wk_goto r91_264 ?_)
                                exact wp_fg (le_s (le_s (le_s le_0))) (ih3187 (251 - (v3123 + 1)).toNat (by omega) M3183 (v3123 + 1) rfl hP3184 hF3185 (mUp_no e3186 e3131 (Or.inl (by decide))) (mUp_no e3186 e3132 (Or.inl (by decide))) (mUp_no e3186 e3133 (Or.inl (by decide))) (mUp_no e3186 e3134 (Or.inl (by decide))) (mUp_no e3186 e3135 (Or.inl (by decide))) (mUp_no e3186 e3136 (Or.inl (by decide))) (mUp_no e3186 e3137 (Or.inl (by decide))) (mUp_no e3186 e3138 (Or.inl (by decide))) (mUp_no e3186 e3139 (Or.inl (by decide))) (mUp_no e3186 e3140 (Or.inl (by decide))) (mUp_no e3186 e3141 (Or.inl (by decide))) (mUp_no e3186 e3142 (Or.inl (by decide))) (mUp_no e3186 e3143 (Or.inl (by decide))) (mUp_no e3186 e3144 (Or.inl (by decide))) (mUp_no e3186 e3145 (Or.inl (by decide))) (mUp_no e3186 e3146 (Or.inl (by decide))) (mUp_no e3186 e3147 (Or.inl (by decide))) (mUp_no e3186 e3148 (Or.inl (by decide))) (mUp_no e3186 e3149 (Or.inl (by decide))) (by first | with_reducible assumption | omega) (by first | with_reducible assumption | omega) (fun k => mUp_no e3186 (hu3129 k) (Or.inl (by decide))) (fun k => mUp_no e3186 (hu3130 k) (Or.inl (by decide))) (TK_sm (Sm.up e3186 (ga_741 _) rfl) pr3150) (FP_sm (Sm.up e3186 (ga_741 _) rfl) pr3151) (WS_sm (Sm.up e3186 (ga_741 _) rfl) pr3152) (QW_sm (Sm.up e3186 (ga_741 _) rfl) pr3153) (MRP_sm (Sm.up e3186 (ga_741 _) rfl) pr3154) (LRP_sm (Sm.up e3186 (ga_741 _) rfl) pr3155) (by first | with_reducible assumption | omega) (by first | with_reducible assumption | omega) (by first | with_reducible assumption | omega) (by first | with_reducible assumption | omega) (by first | with_reducible assumption | omega) (by first | with_reducible assumption | omega) (by first | with_reducible assumption | omega) (by first | with_reducible assumption | omega) (by first | with_reducible assumption | omega) (by first | with_reducible assumption | omega) (by first | with_reducible assumption | omega) (by first | with_reducible assumption | omega) (cp_step (S := 0) (e0z e3186) ti3168 e3180 hu3129) (fun k => by rw [e3186, mUp_ne (Or.inl (by decide))]; exact ti3169 k))
                            exact wp_fg (le_s (le_s (le_s le_0))) (c241_3187 _ M3079 0 rfl hP3080 hF3081 e3084 e3085 e3086 e3087 e3088 e3089 e3090 e3091 e3092 e3093 e3094 e3095 e3096 e3097 e3098 e3099 e3100 e3101 e3102 (by first | with_reducible assumption | omega) (by first | with_reducible assumption | omega) hu3082 hu3083 pr3103 pr3104 pr3105 pr3106 pr3107 pr3108 (by first | with_reducible assumption | omega) (by first | with_reducible assumption | omega) (by first | with_reducible assumption | omega) (by first | with_reducible assumption | omega) (by first | with_reducible assumption | omega) (by first | with_reducible assumption | omega) (by first | with_reducible assumption | omega) (by first | with_reducible assumption | omega) (by first | with_reducible assumption | omega) (by first | with_reducible assumption | omega) (by first | with_reducible assumption | omega) (by first | with_reducible assumption | omega) (fun k a b => by omega) (fun k => by rw [hMb]))
                          · intro h3188
                            refine wk_al0 r91_221 (wk_getfr r91_222 fd_739_5 (br_739_5 hP3080) (wk_il2 r91_225 (wk_al0 r91_226 (wk_getfr r91_227 fd_739_48 (br_739_48 hP3080) (wk_il2 r91_230 (wk_ialdb r91_231 ar_756 ⟨by omega, by omega⟩ (fun q0 q1 => ba_756 hP3080 q0 q1) ?_))))))
                            intro v3189 h3191 h3192 e3190
                            refine wk_iast r91_232 ar_740 ⟨by omega, by omega⟩ (wk_nw (ga_740 _) rfl hP3080 hF3081 (ua_740 ⟨by omega, by omega⟩) ?_)
                            intro M3193 hP3194 hF3195 e3196
                            refine wk_inc2 r91_233 rfl (wk_goto r91_236 ?_)
                            exact wp_fg (le_s (le_s (le_s le_0))) (ih3197 (7 - (v3076 + 1)).toNat (by omega) M3193 (v3076 + 1) rfl hP3194 hF3195 (mUp_no e3196 e3084 (Or.inl (by decide))) (mUp_no e3196 e3085 (Or.inl (by decide))) (mUp_no e3196 e3086 (Or.inl (by decide))) (mUp_no e3196 e3087 (Or.inl (by decide))) (mUp_no e3196 e3088 (Or.inl (by decide))) (mUp_no e3196 e3089 (Or.inl (by decide))) (mUp_no e3196 e3090 (Or.inl (by decide))) (mUp_no e3196 e3091 (Or.inl (by decide))) (mUp_no e3196 e3092 (Or.inl (by decide))) (mUp_no e3196 e3093 (Or.inl (by decide))) (mUp_no e3196 e3094 (Or.inl (by decide))) (mUp_no e3196 e3095 (Or.inl (by decide))) (mUp_no e3196 e3096 (Or.inl (by decide))) (mUp_no e3196 e3097 (Or.inl (by decide))) (mUp_no e3196 e3098 (Or.inl (by decide))) (mUp_no e3196 e3099 (Or.inl (by decide))) (mUp_no e3196 e3100 (Or.inl (by decide))) (mUp_no e3196 e3101 (Or.inl (by decide))) (mUp_no e3196 e3102 (Or.inl (by decide))) (by first | with_reducible assumption | omega) (by first | with_reducible assumption | omega) (fun k => mUp_no e3196 (hu3082 k) (Or.inl (by decide))) (fun k => mUp_no e3196 (hu3083 k) (Or.inl (by decide))) (TK_sm (Sm.up e3196 (ga_740 _) rfl) pr3103) (FP_sm (Sm.up e3196 (ga_740 _) rfl) pr3104) (WS_sm (Sm.up e3196 (ga_740 _) rfl) pr3105) (QW_sm (Sm.up e3196 (ga_740 _) rfl) pr3106) (MRP_sm (Sm.up e3196 (ga_740 _) rfl) pr3107) (LRP_sm (Sm.up e3196 (ga_740 _) rfl) pr3108) (by first | with_reducible assumption | omega) (by first | with_reducible assumption | omega) (by first | with_reducible assumption | omega) (by first | with_reducible assumption | omega) (by first | with_reducible assumption | omega) (by first | with_reducible assumption | omega) (by first | with_reducible assumption | omega) (by first | with_reducible assumption | omega) (by first | with_reducible assumption | omega) (by first | with_reducible assumption | omega) (by first | with_reducible assumption | omega) (by first | with_reducible assumption | omega) (fun k a b => by rw [e3196]; (by_cases q : k = v3076); (rw [q, mUp_eq, ← e3190, hu3083]); (rw [mUp_ne (Or.inr q)]; exact ti3121 k a (by omega))))
                        exact wp_fg (le_s (le_s (le_s le_0))) (c215_3197 _ M3072 0 rfl hP3073 hF3074 (mUp_no e3075 (mUp_no e3071 (mUp_no e3066 (mUp_no e3062 (mUp_no e3003 e2840 (Or.inr (by decide))) (Or.inr (by decide))) (Or.inr (by decide))) (Or.inr (by decide))) (Or.inr (by decide))) (mUp_no e3075 (mUp_no e3071 (mUp_no e3066 (mUp_no e3062 (mUp_no e3003 e2844 (Or.inr (by decide))) (Or.inr (by decide))) (Or.inr (by decide))) (Or.inr (by decide))) (Or.inr (by decide))) (mUp_no e3075 (mUp_no e3071 (mUp_no e3066 (mUp_no e3062 (mUp_no e3003 e2848 (Or.inr (by decide))) (Or.inr (by decide))) (Or.inr (by decide))) (Or.inr (by decide))) (Or.inr (by decide))) (mUp_no e3075 (mUp_no e3071 (mUp_no e3066 (mUp_no e3062 (mUp_no e3003 e2852 (Or.inr (by decide))) (Or.inr (by decide))) (Or.inr (by decide))) (Or.inr (by decide))) (Or.inr (by decide))) (mUp_no e3075 (mUp_no e3071 (mUp_no e3066 (mUp_no e3062 (mUp_no e3003 e2856 (Or.inr (by decide))) (Or.inr (by decide))) (Or.inr (by decide))) (Or.inr (by decide))) (Or.inr (by decide))) (mUp_no e3075 (mUp_no e3071 (mUp_no e3066 (mUp_no e3062 (mUp_no e3003 e2860 (Or.inr (by decide))) (Or.inr (by decide))) (Or.inr (by decide))) (Or.inr (by decide))) (Or.inr (by decide))) (mUp_no e3075 (mUp_no e3071 (mUp_no e3066 (mUp_no e3062 (mUp_no e3003 e2864 (Or.inr (by decide))) (Or.inr (by decide))) (Or.inr (by decide))) (Or.inr (by decide))) (Or.inr (by decide))) (mUp_no e3075 (mUp_no e3071 (mUp_no e3066 (mUp_no e3062 (mUp_no e3003 e2868 (Or.inr (by decide))) (Or.inr (by decide))) (Or.inr (by decide))) (Or.inr (by decide))) (Or.inr (by decide))) (mUp_no e3075 (mUp_no e3071 (mUp_no e3066 (mUp_no e3062 (mUp_no e3003 e2872 (Or.inr (by decide))) (Or.inr (by decide))) (Or.inr (by decide))) (Or.inr (by decide))) (Or.inr (by decide))) (mUp_no e3075 (mUp_no e3071 (mUp_no e3066 (mUp_no e3062 (mUp_no e3003 e2873 (Or.inr (by decide))) (Or.inr (by decide))) (Or.inr (by decide))) (Or.inr (by decide))) (Or.inr (by decide))) (mUp_no e3075 (mUp_no e3071 (mUp_no e3066 (mUp_no e3062 (mUp_no e3003 e2874 (Or.inr (by decide))) (Or.inr (by decide))) (Or.inr (by decide))) (Or.inr (by decide))) (Or.inr (by decide))) (mUp_no e3075 (mUp_no e3071 (mUp_no e3066 (mUp_no e3062 (mUp_no e3003 e2875 (Or.inr (by decide))) (Or.inr (by decide))) (Or.inr (by decide))) (Or.inr (by decide))) (Or.inr (by decide))) (mUp_no e3075 (mUp_no e3071 (mUp_no e3066 (mUp_no e3062 (mUp_at e3003) (Or.inr (by decide))) (Or.inr (by decide))) (Or.inr (by decide))) (Or.inr (by decide))) (mUp_no e3075 (mUp_no e3071 (mUp_no e3066 (mUp_no e3062 e3029 (Or.inr (by decide))) (Or.inr (by decide))) (Or.inr (by decide))) (Or.inr (by decide))) (mUp_no e3075 (mUp_no e3071 (mUp_no e3066 (mUp_no e3062 e3057 (Or.inr (by decide))) (Or.inr (by decide))) (Or.inr (by decide))) (Or.inr (by decide))) (mUp_no e3075 (mUp_no e3071 (mUp_no e3066 (mUp_at e3062) (Or.inr (by decide))) (Or.inr (by decide))) (Or.inr (by decide))) (mUp_no e3075 (mUp_no e3071 (mUp_at e3066) (Or.inr (by decide))) (Or.inr (by decide))) (mUp_no e3075 (mUp_at e3071) (Or.inr (by decide))) (mUp_at e3075) (by first | with_reducible assumption | omega) (by first | with_reducible assumption | omega) (fun k => mUp_no e3075 ((fun k => mUp_no e3071 ((fun k => mUp_no e3066 ((fun k => mUp_no e3062 (hu3053 k) (Or.inl (by decide))) k) (Or.inl (by decide))) k) (Or.inl (by decide))) k) (Or.inl (by decide))) (fun k => mUp_no e3075 ((fun k => mUp_no e3071 ((fun k => mUp_no e3066 ((fun k => mUp_no e3062 (hu3055 k) (Or.inl (by decide))) k) (Or.inl (by decide))) k) (Or.inl (by decide))) k) (Or.inl (by decide))) (TK_sm (Sm.up e3075 g_739_4 rfl) (TK_sm (Sm.up e3071 g_739_3 rfl) (TK_sm (Sm.up e3066 g_739_2 rfl) (TK_sm (Sm.up e3062 g_739_1 rfl) (TK_sm (Sm.up e3003 g_739_41 rfl) pr2876))))) (FP_sm (Sm.up e3075 g_739_4 rfl) (FP_sm (Sm.up e3071 g_739_3 rfl) (FP_sm (Sm.up e3066 g_739_2 rfl) (FP_sm (Sm.up e3062 g_739_1 rfl) (FP_sm (Sm.up e3003 g_739_41 rfl) pr2877))))) (WS_sm (Sm.up e3075 g_739_4 rfl) (WS_sm (Sm.up e3071 g_739_3 rfl) (WS_sm (Sm.up e3066 g_739_2 rfl) (WS_sm (Sm.up e3062 g_739_1 rfl) (WS_sm (Sm.up e3003 g_739_41 rfl) pr2878))))) (QW_sm (Sm.up e3075 g_739_4 rfl) (QW_sm (Sm.up e3071 g_739_3 rfl) (QW_sm (Sm.up e3066 g_739_2 rfl) (QW_sm (Sm.up e3062 g_739_1 rfl) (QW_sm (Sm.up e3003 g_739_41 rfl) pr2879))))) (MRP_sm (Sm.up e3075 g_739_4 rfl) (MRP_sm (Sm.up e3071 g_739_3 rfl) (MRP_sm (Sm.up e3066 g_739_2 rfl) (MRP_sm (Sm.up e3062 g_739_1 rfl) (MRP_sm (Sm.up e3003 g_739_41 rfl) pr2880))))) (LRP_sm (Sm.up e3075 g_739_4 rfl) (LRP_sm (Sm.up e3071 g_739_3 rfl) (LRP_sm (Sm.up e3066 g_739_2 rfl) (LRP_sm (Sm.up e3062 g_739_1 rfl) (LRP_sm (Sm.up e3003 g_739_41 rfl) pr2881))))) (by first | with_reducible assumption | omega) (by first | with_reducible assumption | omega) (by first | with_reducible assumption | omega) (by first | with_reducible assumption | omega) (by first | with_reducible assumption | omega) (by first | with_reducible assumption | omega) (by first | with_reducible assumption | omega) (by first | with_reducible assumption | omega) (by first | with_reducible assumption | omega) (by first | with_reducible assumption | omega) (by first | with_reducible assumption | omega) (by first | with_reducible assumption | omega) (fun k a b => by omega))
                      · intro h3198
                        exfalso
                        omega
                    · intro h3199
                      refine wk_al0 r91_163 (wk_c2 r91_164 (wk_cv2 r91_166 kc_739_137 rfl (m9137_739 _ M3000 6 v2869 v2857 hP3001 (by decide) (by decide) (mUp_no e3003 e2872 (Or.inr (by decide))) (by first | with_reducible assumption | omega) (by first | with_reducible assumption | omega) (mUp_no e3003 e2860 (Or.inr (by decide))) (by first | with_reducible assumption | omega) (by first | with_reducible assumption | omega)) (cqV ?_)))
                      rintro M3200 ⟨hP3201, hQ3202, h3204, h3205⟩
                      have hF3203 : Fr fm_m9091_739 M0 M3200 := hF3002.tr hQ3202 rfl
                      obtain ⟨v3206, e3207⟩ : ∃ v, M3200 739 28 = v := ⟨_, rfl⟩
                      have h3208 := (bf_739_28 hP3201).1; rw [e3207] at h3208
                      have h3209 := (bf_739_28 hP3201).2; rw [e3207] at h3209
                      have pr3210 : FP M3200 := FP_mn (Sm.fr hQ3202 rfl) (fun q => by have := (mUp_no e3003 e2872 (Or.inr (by decide))); have := e3207; omega) (FP_sm (Sm.up e3003 g_739_41 rfl) pr2877)
                      have pr3211 : LRP M3200 := LRP_mn (Sm.fr hQ3202 rfl) (fun q => by have := (mUp_no e3003 e2872 (Or.inr (by decide))); have := e3207; omega) (LRP_sm (Sm.up e3003 g_739_41 rfl) pr2881)
                      refine wk_al0 r91_169 (wk_cv1 r91_170 kc_739_84 rfl (m9084_739 _ M3200 v3206 hP3201 e3207 (by first | with_reducible assumption | omega) (by first | with_reducible assumption | omega)) (cqI ?_))
                      rintro v3218 M3212 ⟨hP3213, hQ3214, h3219, h3220, h3216, h3217⟩
                      obtain rfl := Fr.same hQ3214
                      have e3221 := e3207
                      refine wk_ifne r91_173 ⟨by omega, by omega⟩ ?_ ?_
                      · intro h3222
                        exfalso
                        omega
                      · intro h3223
                        refine wk_al0 r91_176 (wk_getfi r91_177 fd_739_28 e3207 ?_)
                        subst hQ; exact wk_iret r91_180 (⟨rfl, _, rfl, hP3201, hF3203, by omega, by omega, by have := ((hQ3202.at g_739_27 rfl).trans (mUp_no e3003 e2873 (Or.inr (by decide)))); omega, (WS_sm (Sm.fr hQ3202 rfl) (WS_sm (Sm.up e3003 g_739_41 rfl) pr2878)), (QW_sm (Sm.fr hQ3202 rfl) (QW_sm (Sm.up e3003 g_739_41 rfl) pr2879))⟩)
                have c142_2995 : Wp B (d + 8) 91 142 [some (R 739), none, none] [R 739] M2834 Q := by
                  refine wk_c1 r91_142 ?_
                  exact wp_fg (le_s (le_s (le_s le_0))) (c143_3224 1 (by first | with_reducible assumption | omega) (by first | with_reducible assumption | omega) (by omega))
                refine wk_icne r91_127 ⟨by omega, by omega⟩ (by decide) ?_ ?_
                · intro h2987
                  exact wp_fg (le_s (le_s (le_s le_0))) c142_2995
                · intro h2988
                  refine wk_al0 r91_130 (wk_getfb r91_131 fd_739_42 (bf_739_42 hP2835) ?_)
                  intro v2989 h2991 h2992 e2990
                  refine wk_ifeq r91_134 ⟨by omega, by omega⟩ ?_ ?_
                  · intro h2993
                    exact wp_fg (le_s (le_s (le_s le_0))) c142_2995
                  · intro h2994
                    refine wk_c2 r91_137 (wk_goto r91_139 ?_)
                    exact wp_fg (le_s (le_s (le_s le_0))) (c143_3224 7 (by first | with_reducible assumption | omega) (by first | with_reducible assumption | omega) (by omega))
              refine wk_ifeq r91_104 ⟨by omega, by omega⟩ ?_ ?_
              · intro h2904
                exact wp_fg (le_s (le_s (le_s le_0))) c121_3225
              · intro h2905
                refine wk_al0 r91_107 (wk_getfi r91_108 fd_739_32 e2868 ?_)
                refine wk_ifeq r91_111 ⟨by omega, by omega⟩ ?_ ?_
                · intro h2906
                  exact wp_fg (le_s (le_s (le_s le_0))) c121_3225
                · intro h2907
                  refine wk_al0 r91_114 ?_
                  obtain ⟨v2908, e2909⟩ : ∃ v, M2834 739 46 = v := ⟨_, rfl⟩
                  have h2910 := (bf_739_46 hP2835).1; rw [e2909] at h2910
                  have h2911 := (bf_739_46 hP2835).2; rw [e2909] at h2911
                  obtain ⟨v2912, e2913⟩ : ∃ v, M2834 739 47 = v := ⟨_, rfl⟩
                  have h2914 := (bf_739_47 hP2835).1; rw [e2913] at h2914
                  have h2915 := (bf_739_47 hP2835).2; rw [e2913] at h2915
                  obtain ⟨v2916, e2917⟩ : ∃ v, M2834 739 36 = v := ⟨_, rfl⟩
                  have h2918 := (bf_739_36 hP2835).1; rw [e2917] at h2918
                  have h2919 := (bf_739_36 hP2835).2; rw [e2917] at h2919
                  obtain ⟨v2920, e2921⟩ : ∃ v, M2834 739 51 = v := ⟨_, rfl⟩
                  have h2922 := (bf_739_51 hP2835).1; rw [e2921] at h2922
                  have h2923 := (bf_739_51 hP2835).2; rw [e2921] at h2923
                  obtain ⟨v2924, e2925⟩ : ∃ v, M2834 739 35 = v := ⟨_, rfl⟩
                  have h2926 := (bf_739_35 hP2835).1; rw [e2925] at h2926
                  have h2927 := (bf_739_35 hP2835).2; rw [e2925] at h2927
                  refine wk_cv1 r91_115 kc_739_58 rfl (m9058_739 _ M2834 v29 v2853 v2857 v2861 v2865 v2869 v2837 v2908 v2912 v244 v2916 v2920 v2924 v2849 v2841 v2845 hP2835 e2874 (by first | with_reducible assumption | omega) (by first | with_reducible assumption | omega) e2856 (by first | with_reducible assumption | omega) (by first | with_reducible assumption | omega) e2860 (by first | with_reducible assumption | omega) (by first | with_reducible assumption | omega) e2864 (by first | with_reducible assumption | omega) (by first | with_reducible assumption | omega) e2868 (by first | with_reducible assumption | omega) (by first | with_reducible assumption | omega) e2872 (by first | with_reducible assumption | omega) (by first | with_reducible assumption | omega) e2840 (by first | with_reducible assumption | omega) (by first | with_reducible assumption | omega) e2909 (by first | with_reducible assumption | omega) (by first | with_reducible assumption | omega) e2913 (by first | with_reducible assumption | omega) (by first | with_reducible assumption | omega) e2875 (by first | with_reducible assumption | omega) (by first | with_reducible assumption | omega) e2917 (by first | with_reducible assumption | omega) (by first | with_reducible assumption | omega) e2921 (by first | with_reducible assumption | omega) (by first | with_reducible assumption | omega) e2925 (by first | with_reducible assumption | omega) (by first | with_reducible assumption | omega) e2852 (by first | with_reducible assumption | omega) (by first | with_reducible assumption | omega) e2844 (by first | with_reducible assumption | omega) (by first | with_reducible assumption | omega) e2848 (by first | with_reducible assumption | omega) (by first | with_reducible assumption | omega) (by omega) (by omega) (by omega) (by omega) (by omega) (by omega) (by omega) (by omega) (by omega) (by omega) (by omega) pr2876 pr2877 pr2880 pr2881) (cqV ?_)
                  rintro M2928 ⟨hP2929, hQ2930, h2932, h2933, h2934, h2935, h2936, h2937, h2938, h2939, h2940, h2941, h2942, h2943, h2944, h2945, pr2946, pr2947, pr2948, pr2949⟩
                  have hF2931 : Fr fm_m9091_739 M0 M2928 := hF2836.tr hQ2930 rfl
                  have e2950 := ((hQ2930.at g_739_30 rfl).trans e2874)
                  obtain ⟨v2951, e2952⟩ : ∃ v, M2928 739 31 = v := ⟨_, rfl⟩
                  have h2953 := (bf_739_31 hP2929).1; rw [e2952] at h2953
                  have h2954 := (bf_739_31 hP2929).2; rw [e2952] at h2954
                  obtain ⟨v2955, e2956⟩ : ∃ v, M2928 739 33 = v := ⟨_, rfl⟩
                  have h2957 := (bf_739_33 hP2929).1; rw [e2956] at h2957
                  have h2958 := (bf_739_33 hP2929).2; rw [e2956] at h2958
                  obtain ⟨v2959, e2960⟩ : ∃ v, M2928 739 34 = v := ⟨_, rfl⟩
                  have h2961 := (bf_739_34 hP2929).1; rw [e2960] at h2961
                  have h2962 := (bf_739_34 hP2929).2; rw [e2960] at h2962
                  obtain ⟨v2963, e2964⟩ : ∃ v, M2928 739 32 = v := ⟨_, rfl⟩
                  have h2965 := (bf_739_32 hP2929).1; rw [e2964] at h2965
                  have h2966 := (bf_739_32 hP2929).2; rw [e2964] at h2966
                  obtain ⟨v2967, e2968⟩ : ∃ v, M2928 739 28 = v := ⟨_, rfl⟩
                  have h2969 := (bf_739_28 hP2929).1; rw [e2968] at h2969
                  have h2970 := (bf_739_28 hP2929).2; rw [e2968] at h2970
                  obtain ⟨v2971, e2972⟩ : ∃ v, M2928 739 45 = v := ⟨_, rfl⟩
                  have h2973 := (bf_739_45 hP2929).1; rw [e2972] at h2973
                  have h2974 := (bf_739_45 hP2929).2; rw [e2972] at h2974
                  obtain ⟨v2975, e2976⟩ : ∃ v, M2928 739 44 = v := ⟨_, rfl⟩
                  have h2977 := (bf_739_44 hP2929).1; rw [e2976] at h2977
                  have h2978 := (bf_739_44 hP2929).2; rw [e2976] at h2978
                  obtain ⟨v2979, e2980⟩ : ∃ v, M2928 739 39 = v := ⟨_, rfl⟩
                  have h2981 := (bf_739_39 hP2929).1; rw [e2980] at h2981
                  have h2982 := (bf_739_39 hP2929).2; rw [e2980] at h2982
                  obtain ⟨v2983, e2984⟩ : ∃ v, M2928 739 40 = v := ⟨_, rfl⟩
                  have h2985 := (bf_739_40 hP2929).1; rw [e2984] at h2985
                  have h2986 := (bf_739_40 hP2929).2; rw [e2984] at h2986
                  refine wk_goto r91_118 ?_
                  exact wp_fg (le_s (le_s (le_s le_0))) (ih3226 (10 * (501 - v2955) + (6 - v2967)).toNat (by omega) M2928 v2971 v2979 v2983 v2975 v2951 v2955 v2959 v2963 v2967 rfl hP2929 hF2931 e2972 e2980 e2984 e2976 e2952 e2956 e2960 e2964 e2968 ((hQ2930.at g_739_27 rfl).trans e2873) ((hQ2930.at g_739_30 rfl).trans e2874) ((hQ2930.at g_739_38 rfl).trans e2875) (by first | with_reducible assumption | omega) (by first | with_reducible assumption | omega) (by first | with_reducible assumption | omega) (by first | with_reducible assumption | omega) (by first | with_reducible assumption | omega) (by first | with_reducible assumption | omega) (by first | with_reducible assumption | omega) (by first | with_reducible assumption | omega) (by first | with_reducible assumption | omega) (by first | with_reducible assumption | omega) (by first | with_reducible assumption | omega) (by first | with_reducible assumption | omega) (by first | with_reducible assumption | omega) (by first | with_reducible assumption | omega) (by first | with_reducible assumption | omega) (by first | with_reducible assumption | omega) (by first | with_reducible assumption | omega) (by first | with_reducible assumption | omega) pr2946 pr2947 (WS_sm (Sm.fr hQ2930 rfl) pr2878) (QW_sm (Sm.fr hQ2930 rfl) pr2879) pr2948 pr2949 (by first | with_reducible assumption | omega) (by first | with_reducible assumption | omega) (by first | with_reducible assumption | omega) (by first | with_reducible assumption | omega) (by first | with_reducible assumption | omega) (by first | with_reducible assumption | omega) (by first | with_reducible assumption | omega) (by first | with_reducible assumption | omega) (by first | with_reducible assumption | omega) (by first | with_reducible assumption | omega) (by first | with_reducible assumption | omega) (by first | with_reducible assumption | omega))
            exact wp_fg (le_s (le_s (le_n le_0))) (c100_3226 _ M528 v25 1 (-1) 0 v541 v545 v549 v553 v557 rfl hP529 hF531 ((hQ530.at g_739_45 rfl).trans e496) ((hQ530.at g_739_39 rfl).trans e498) ((hQ530.at g_739_40 rfl).trans e499) ((hQ530.at g_739_44 rfl).trans e502) e542 e546 e550 e554 e558 ((hQ530.at g_739_27 rfl).trans e495) ((hQ530.at g_739_30 rfl).trans e497) ((hQ530.at g_739_38 rfl).trans e503) (by first | with_reducible assumption | omega) (by first | with_reducible assumption | omega) (by first | with_reducible assumption | omega) (by first | with_reducible assumption | omega) (by first | with_reducible assumption | omega) (by first | with_reducible assumption | omega) (by first | with_reducible assumption | omega) (by first | with_reducible assumption | omega) (by first | with_reducible assumption | omega) (by first | with_reducible assumption | omega) (by first | with_reducible assumption | omega) (by first | with_reducible assumption | omega) (by first | with_reducible assumption | omega) (by first | with_reducible assumption | omega) (by first | with_reducible assumption | omega) (by first | with_reducible assumption | omega) (by first | with_reducible assumption | omega) (by first | with_reducible assumption | omega) pr539 pr561 (WS_sm (Sm.fr hQ530 rfl) pr511) (QW_sm (Sm.fr hQ530 rfl) pr512) (MRP_sm (Sm.fr hQ530 rfl) pr527) pr562 (by first | with_reducible assumption | omega) (by first | with_reducible assumption | omega) (by first | with_reducible assumption | omega) (by first | with_reducible assumption | omega) (by first | with_reducible assumption | omega) (by first | with_reducible assumption | omega) (by first | with_reducible assumption | omega) (by first | with_reducible assumption | omega) (by first | with_reducible assumption | omega) (by first | with_reducible assumption | omega) (by first | with_reducible assumption | omega) (by first | with_reducible assumption | omega))
          · intro h3227
            refine wk_al0 r91_83 (wk_getfr r91_84 fd_739_48 (br_739_48 hP493) (wk_il2 r91_87 (wk_c1 r91_88 (wk_iast r91_89 ar_756 ⟨by omega, by omega⟩ (wk_nw (ga_756 _) rfl hP493 hF494 (ua_756 (by decide)) ?_)))))
            intro M3228 hP3229 hF3230 e3231
            refine wk_inc2 r91_90 rfl (wk_goto r91_93 ?_)
            exact wp_fg (le_s (le_s (le_s le_0))) (ih3232 (7 - (v489 + 1)).toNat (by omega) M3228 (v489 + 1) rfl hP3229 hF3230 (mUp_no e3231 e495 (Or.inl (by decide))) (mUp_no e3231 e496 (Or.inl (by decide))) (mUp_no e3231 e497 (Or.inl (by decide))) (mUp_no e3231 e498 (Or.inl (by decide))) (mUp_no e3231 e499 (Or.inl (by decide))) (mUp_no e3231 e500 (Or.inl (by decide))) (mUp_no e3231 e501 (Or.inl (by decide))) (mUp_no e3231 e502 (Or.inl (by decide))) (mUp_no e3231 e503 (Or.inl (by decide))) (mUp_no e3231 e504 (Or.inl (by decide))) (mUp_no e3231 e505 (Or.inl (by decide))) (mUp_no e3231 e506 (Or.inl (by decide))) (mUp_no e3231 e507 (Or.inl (by decide))) (mUp_no e3231 e508 (Or.inl (by decide))) (by first | with_reducible assumption | omega) (by first | with_reducible assumption | omega) (TK_sm (Sm.up e3231 (ga_756 _) rfl) pr509) (FP_sm (Sm.up e3231 (ga_756 _) rfl) pr510) (WS_sm (Sm.up e3231 (ga_756 _) rfl) pr511) (QW_sm (Sm.up e3231 (ga_756 _) rfl) pr512) (LRP_sm (Sm.up e3231 (ga_756 _) rfl) pr513) (by first | with_reducible assumption | omega) (by first | with_reducible assumption | omega) (by first | with_reducible assumption | omega) (by first | with_reducible assumption | omega) (by first | with_reducible assumption | omega) (by first | with_reducible assumption | omega) (by first | with_reducible assumption | omega) (by first | with_reducible assumption | omega) (by first | with_reducible assumption | omega) (by first | with_reducible assumption | omega) (by first | with_reducible assumption | omega) (fun k a b => by rw [e3231]; (by_cases q : k = v489); (rw [q, mUp_eq]); (rw [mUp_ne (Or.inr q)]; exact ti525 k a (by omega))))
        exact wp_fg (le_s (le_s (le_s le_0))) (c77_3232 _ M270 0 rfl hP271 hF272 (mUp_no e273 ((hQ232.at g_739_27 rfl).trans e195) (Or.inr (by decide))) (mUp_no e273 ((hQ232.at g_739_45 rfl).trans e196) (Or.inr (by decide))) (mUp_no e273 ((hQ232.at g_739_30 rfl).trans e197) (Or.inr (by decide))) (mUp_no e273 ((hQ232.at g_739_39 rfl).trans e198) (Or.inr (by decide))) (mUp_no e273 ((hQ232.at g_739_40 rfl).trans e199) (Or.inr (by decide))) (mUp_no e273 ((hQ232.at g_739_42 rfl).trans e200) (Or.inr (by decide))) (mUp_no e273 ((hQ232.at g_739_43 rfl).trans e201) (Or.inr (by decide))) (mUp_no e273 ((hQ232.at g_739_44 rfl).trans e202) (Or.inr (by decide))) (mUp_at e273) (mUp_no e273 e249 (Or.inr (by decide))) (mUp_no e273 e253 (Or.inr (by decide))) (mUp_no e273 e257 (Or.inr (by decide))) (mUp_no e273 e261 (Or.inr (by decide))) (mUp_no e273 e265 (Or.inr (by decide))) (by first | with_reducible assumption | omega) (by first | with_reducible assumption | omega) (TK_sm (Sm.up e273 g_739_38 rfl) pr243) (FP_sm (Sm.up e273 g_739_38 rfl) pr268) (WS_sm (Sm.up e273 g_739_38 rfl) (WS_sm (Sm.fr hQ232 rfl) pr206)) (QW_sm (Sm.up e273 g_739_38 rfl) (QW_sm (Sm.fr hQ232 rfl) pr207)) (LRP_sm (Sm.up e273 g_739_38 rfl) pr269) (by first | with_reducible assumption | omega) (by first | with_reducible assumption | omega) (by first | with_reducible assumption | omega) (by first | with_reducible assumption | omega) (by first | with_reducible assumption | omega) (by first | with_reducible assumption | omega) (by first | with_reducible assumption | omega) (by first | with_reducible assumption | omega) (by first | with_reducible assumption | omega) (by first | with_reducible assumption | omega) (by first | with_reducible assumption | omega) (fun k a b => by omega))
      refine wk_ifeq r91_57 ⟨by omega, by omega⟩ ?_ ?_
      · intro h146
        exact wp_fg (le_s (le_s (le_s le_0))) (c64_3233 M100 v33 v37 v41 v45 hP101 hF102 e110 e111 e112 e113 e106 e107 e108 e109 e114 e115 e116 e117 e118 e119 (by first | with_reducible assumption | omega) (by first | with_reducible assumption | omega) (by first | with_reducible assumption | omega) (by first | with_reducible assumption | omega) (by first | with_reducible assumption | omega) (by first | with_reducible assumption | omega) (by first | with_reducible assumption | omega) (by first | with_reducible assumption | omega) pr120 pr121 pr122 pr123 pr124 (by first | with_reducible assumption | omega) (by first | with_reducible assumption | omega) (by first | with_reducible assumption | omega) (by first | with_reducible assumption | omega) (by first | with_reducible assumption | omega) (by first | with_reducible assumption | omega) (by first | with_reducible assumption | omega) (by first | with_reducible assumption | omega) (by first | with_reducible assumption | omega) (by first | with_reducible assumption | omega) (by first | with_reducible assumption | omega) (by first | with_reducible assumption | omega) (by first | with_reducible assumption | omega) (by first | with_reducible assumption | omega) (by first | with_reducible assumption | omega) (by first | with_reducible assumption | omega) (by first | with_reducible assumption | omega))
      · intro h147
        refine wk_al0 r91_60 (wk_cv1 r91_61 kc_739_76 rfl (m9076_739 _ M100 v29 v33 hP101 e109 (by first | with_reducible assumption | omega) (by first | with_reducible assumption | omega) e110 (by first | with_reducible assumption | omega) (by first | with_reducible assumption | omega) (by omega)) (cqV ?_))
        rintro M148 ⟨hP149, hQ150, h152, h153, h154, h155, h156, pr157⟩
        have hF151 : Fr fm_m9091_739 M0 M148 := hF102.tr hQ150 rfl
        have e158 := ((hQ150.at g_739_30 rfl).trans e109)
        obtain ⟨v159, e160⟩ : ∃ v, M148 739 31 = v := ⟨_, rfl⟩
        have h161 := (bf_739_31 hP149).1; rw [e160] at h161
        have h162 := (bf_739_31 hP149).2; rw [e160] at h162
        obtain ⟨v163, e164⟩ : ∃ v, M148 739 33 = v := ⟨_, rfl⟩
        have h165 := (bf_739_33 hP149).1; rw [e164] at h165
        have h166 := (bf_739_33 hP149).2; rw [e164] at h166
        obtain ⟨v167, e168⟩ : ∃ v, M148 739 34 = v := ⟨_, rfl⟩
        have h169 := (bf_739_34 hP149).1; rw [e168] at h169
        have h170 := (bf_739_34 hP149).2; rw [e168] at h170
        obtain ⟨v171, e172⟩ : ∃ v, M148 739 32 = v := ⟨_, rfl⟩
        have h173 := (bf_739_32 hP149).1; rw [e172] at h173
        have h174 := (bf_739_32 hP149).2; rw [e172] at h174
        exact wp_fg (le_s (le_s (le_s le_0))) (c64_3233 M148 v159 v163 v167 v171 hP149 hF151 e160 e164 e168 e172 ((hQ150.at g_739_28 rfl).trans e106) ((hQ150.at g_739_27 rfl).trans e107) ((hQ150.at g_739_45 rfl).trans e108) ((hQ150.at g_739_30 rfl).trans e109) ((hQ150.at g_739_39 rfl).trans e114) ((hQ150.at g_739_40 rfl).trans e115) ((hQ150.at g_739_42 rfl).trans e116) ((hQ150.at g_739_43 rfl).trans e117) ((hQ150.at g_739_44 rfl).trans e118) ((hQ150.at g_739_38 rfl).trans e119) (by first | with_reducible assumption | omega) (by first | with_reducible assumption | omega) (by first | with_reducible assumption | omega) (by first | with_reducible assumption | omega) (by first | with_reducible assumption | omega) (by first | with_reducible assumption | omega) (by first | with_reducible assumption | omega) (by first | with_reducible assumption | omega) pr157 (FP_sm (Sm.fr hQ150 rfl) pr121) (WS_sm (Sm.fr hQ150 rfl) pr122) (QW_sm (Sm.fr hQ150 rfl) pr123) (LRP_sm (Sm.fr hQ150 rfl) pr124) (by first | with_reducible assumption | omega) (by first | with_reducible assumption | omega) (by first | with_reducible assumption | omega) (by first | with_reducible assumption | omega) (by first | with_reducible assumption | omega) (by first | with_reducible assumption | omega) (by first | with_reducible assumption | omega) (by first | with_reducible assumption | omega) (by first | with_reducible assumption | omega) (by first | with_reducible assumption | omega) (by first | with_reducible assumption | omega) (by first | with_reducible assumption | omega) (by first | with_reducible assumption | omega) (by first | with_reducible assumption | omega) (by first | with_reducible assumption | omega) (by first | with_reducible assumption | omega) (by first | with_reducible assumption | omega))
    refine wk_iceq r91_45 ⟨by omega, by omega⟩ (by decide) ?_ ?_
    · intro h86
      exact wp_fg (le_s (le_n (le_s le_0))) (c53_3234 M71 v21 hP72 hF73 (mUp_no e74 (mUp_no e70 (mUp_no e66 (mUp_no e62 (mUp_no e58 (mUp_no e54 e22 (Or.inr (by decide))) (Or.inr (by decide))) (Or.inr (by decide))) (Or.inr (by decide))) (Or.inr (by decide))) (Or.inr (by decide))) (mUp_no e74 (mUp_no e70 (mUp_no e66 (mUp_no e62 (mUp_no e58 (mUp_no e54 e18 (Or.inr (by decide))) (Or.inr (by decide))) (Or.inr (by decide))) (Or.inr (by decide))) (Or.inr (by decide))) (Or.inr (by decide))) (mUp_no e74 (mUp_no e70 (mUp_no e66 (mUp_no e62 (mUp_no e58 (mUp_no e54 e26 (Or.inr (by decide))) (Or.inr (by decide))) (Or.inr (by decide))) (Or.inr (by decide))) (Or.inr (by decide))) (Or.inr (by decide))) (mUp_no e74 (mUp_no e70 (mUp_no e66 (mUp_no e62 (mUp_no e58 (mUp_no e54 e30 (Or.inr (by decide))) (Or.inr (by decide))) (Or.inr (by decide))) (Or.inr (by decide))) (Or.inr (by decide))) (Or.inr (by decide))) (mUp_no e74 (mUp_no e70 (mUp_no e66 (mUp_no e62 (mUp_no e58 (mUp_no e54 e34 (Or.inr (by decide))) (Or.inr (by decide))) (Or.inr (by decide))) (Or.inr (by decide))) (Or.inr (by decide))) (Or.inr (by decide))) (mUp_no e74 (mUp_no e70 (mUp_no e66 (mUp_no e62 (mUp_no e58 (mUp_no e54 e38 (Or.inr (by decide))) (Or.inr (by decide))) (Or.inr (by decide))) (Or.inr (by decide))) (Or.inr (by decide))) (Or.inr (by decide))) (mUp_no e74 (mUp_no e70 (mUp_no e66 (mUp_no e62 (mUp_no e58 (mUp_no e54 e42 (Or.inr (by decide))) (Or.inr (by decide))) (Or.inr (by decide))) (Or.inr (by decide))) (Or.inr (by decide))) (Or.inr (by decide))) (mUp_no e74 (mUp_no e70 (mUp_no e66 (mUp_no e62 (mUp_no e58 (mUp_no e54 e46 (Or.inr (by decide))) (Or.inr (by decide))) (Or.inr (by decide))) (Or.inr (by decide))) (Or.inr (by decide))) (Or.inr (by decide))) (mUp_no e74 (mUp_no e70 (mUp_no e66 (mUp_no e62 (mUp_no e58 (mUp_at e54) (Or.inr (by decide))) (Or.inr (by decide))) (Or.inr (by decide))) (Or.inr (by decide))) (Or.inr (by decide))) (mUp_no e74 (mUp_no e70 (mUp_no e66 (mUp_no e62 (mUp_at e58) (Or.inr (by decide))) (Or.inr (by decide))) (Or.inr (by decide))) (Or.inr (by decide))) (mUp_no e74 (mUp_no e70 (mUp_no e66 (mUp_at e62) (Or.inr (by decide))) (Or.inr (by decide))) (Or.inr (by decide))) (mUp_no e74 (mUp_no e70 (mUp_at e66) (Or.inr (by decide))) (Or.inr (by decide))) (mUp_no e74 (mUp_at e70) (Or.inr (by decide))) (mUp_at e74) (by first | with_reducible assumption | omega) (by first | with_reducible assumption | omega) (TK_sm (Sm.up e74 g_739_38 rfl) (TK_sm (Sm.up e70 g_739_44 rfl) (TK_sm (Sm.up e66 g_739_43 rfl) (TK_sm (Sm.up e62 g_739_42 rfl) (TK_sm (Sm.up e58 g_739_40 rfl) (TK_sm (Sm.up e54 g_739_39 rfl) pr50)))))) pr75 (WS_sm (Sm.up e74 g_739_38 rfl) (WS_sm (Sm.up e70 g_739_44 rfl) (WS_sm (Sm.up e66 g_739_43 rfl) (WS_sm (Sm.up e62 g_739_42 rfl) (WS_sm (Sm.up e58 g_739_40 rfl) (WS_sm (Sm.up e54 g_739_39 rfl) (WS_sm (Sm.fr hQ3 rfl) pp_WS))))))) (QW_sm (Sm.up e74 g_739_38 rfl) (QW_sm (Sm.up e70 g_739_44 rfl) (QW_sm (Sm.up e66 g_739_43 rfl) (QW_sm (Sm.up e62 g_739_42 rfl) (QW_sm (Sm.up e58 g_739_40 rfl) (QW_sm (Sm.up e54 g_739_39 rfl) (QW_sm (Sm.fr hQ3 rfl) pp_QW))))))) pr76 (by first | with_reducible assumption | omega) (by first | with_reducible assumption | omega) (by first | with_reducible assumption | omega) (by first | with_reducible assumption | omega) (by first | with_reducible assumption | omega) (by first | with_reducible assumption | omega) (by first | with_reducible assumption | omega) (by first | with_reducible assumption | omega) (by first | with_reducible assumption | omega) (by first | with_reducible assumption | omega) (by first | with_reducible assumption | omega))
    · intro h87
      refine wk_al0 r91_48 (wk_c1 r91_49 (wk_cv2 r91_50 kc_739_137 rfl (m9137_739 _ M71 1 v21 v37 hP72 (by decide) (by decide) (mUp_no e74 (mUp_no e70 (mUp_no e66 (mUp_no e62 (mUp_no e58 (mUp_no e54 e22 (Or.inr (by decide))) (Or.inr (by decide))) (Or.inr (by decide))) (Or.inr (by decide))) (Or.inr (by decide))) (Or.inr (by decide))) (by first | with_reducible assumption | omega) (by first | with_reducible assumption | omega) (mUp_no e74 (mUp_no e70 (mUp_no e66 (mUp_no e62 (mUp_no e58 (mUp_no e54 e38 (Or.inr (by decide))) (Or.inr (by decide))) (Or.inr (by decide))) (Or.inr (by decide))) (Or.inr (by decide))) (Or.inr (by decide))) (by first | with_reducible assumption | omega) (by first | with_reducible assumption | omega)) (cqV ?_)))
      rintro M88 ⟨hP89, hQ90, h92, h93⟩
      have hF91 : Fr fm_m9091_739 M0 M88 := hF73.tr hQ90 rfl
      obtain ⟨v94, e95⟩ : ∃ v, M88 739 28 = v := ⟨_, rfl⟩
      have h96 := (bf_739_28 hP89).1; rw [e95] at h96
      have h97 := (bf_739_28 hP89).2; rw [e95] at h97
      have pr98 : FP M88 := FP_mn (Sm.fr hQ90 rfl) (fun q => by have := (mUp_no e74 (mUp_no e70 (mUp_no e66 (mUp_no e62 (mUp_no e58 (mUp_no e54 e22 (Or.inr (by decide))) (Or.inr (by decide))) (Or.inr (by decide))) (Or.inr (by decide))) (Or.inr (by decide))) (Or.inr (by decide))); have := e95; omega) pr75
      have pr99 : LRP M88 := LRP_mn (Sm.fr hQ90 rfl) (fun q => by have := (mUp_no e74 (mUp_no e70 (mUp_no e66 (mUp_no e62 (mUp_no e58 (mUp_no e54 e22 (Or.inr (by decide))) (Or.inr (by decide))) (Or.inr (by decide))) (Or.inr (by decide))) (Or.inr (by decide))) (Or.inr (by decide))); have := e95; omega) pr76
      exact wp_fg (le_s (le_n (le_s le_0))) (c53_3234 M88 v94 hP89 hF91 e95 ((hQ90.at g_739_27 rfl).trans (mUp_no e74 (mUp_no e70 (mUp_no e66 (mUp_no e62 (mUp_no e58 (mUp_no e54 e18 (Or.inr (by decide))) (Or.inr (by decide))) (Or.inr (by decide))) (Or.inr (by decide))) (Or.inr (by decide))) (Or.inr (by decide)))) ((hQ90.at g_739_45 rfl).trans (mUp_no e74 (mUp_no e70 (mUp_no e66 (mUp_no e62 (mUp_no e58 (mUp_no e54 e26 (Or.inr (by decide))) (Or.inr (by decide))) (Or.inr (by decide))) (Or.inr (by decide))) (Or.inr (by decide))) (Or.inr (by decide)))) ((hQ90.at g_739_30 rfl).trans (mUp_no e74 (mUp_no e70 (mUp_no e66 (mUp_no e62 (mUp_no e58 (mUp_no e54 e30 (Or.inr (by decide))) (Or.inr (by decide))) (Or.inr (by decide))) (Or.inr (by decide))) (Or.inr (by decide))) (Or.inr (by decide)))) ((hQ90.at g_739_31 rfl).trans (mUp_no e74 (mUp_no e70 (mUp_no e66 (mUp_no e62 (mUp_no e58 (mUp_no e54 e34 (Or.inr (by decide))) (Or.inr (by decide))) (Or.inr (by decide))) (Or.inr (by decide))) (Or.inr (by decide))) (Or.inr (by decide)))) ((hQ90.at g_739_33 rfl).trans (mUp_no e74 (mUp_no e70 (mUp_no e66 (mUp_no e62 (mUp_no e58 (mUp_no e54 e38 (Or.inr (by decide))) (Or.inr (by decide))) (Or.inr (by decide))) (Or.inr (by decide))) (Or.inr (by decide))) (Or.inr (by decide)))) ((hQ90.at g_739_34 rfl).trans (mUp_no e74 (mUp_no e70 (mUp_no e66 (mUp_no e62 (mUp_no e58 (mUp_no e54 e42 (Or.inr (by decide))) (Or.inr (by decide))) (Or.inr (by decide))) (Or.inr (by decide))) (Or.inr (by decide))) (Or.inr (by decide)))) ((hQ90.at g_739_32 rfl).trans (mUp_no e74 (mUp_no e70 (mUp_no e66 (mUp_no e62 (mUp_no e58 (mUp_no e54 e46 (Or.inr (by decide))) (Or.inr (by decide))) (Or.inr (by decide))) (Or.inr (by decide))) (Or.inr (by decide))) (Or.inr (by decide)))) ((hQ90.at g_739_39 rfl).trans (mUp_no e74 (mUp_no e70 (mUp_no e66 (mUp_no e62 (mUp_no e58 (mUp_at e54) (Or.inr (by decide))) (Or.inr (by decide))) (Or.inr (by decide))) (Or.inr (by decide))) (Or.inr (by decide)))) ((hQ90.at g_739_40 rfl).trans (mUp_no e74 (mUp_no e70 (mUp_no e66 (mUp_no e62 (mUp_at e58) (Or.inr (by decide))) (Or.inr (by decide))) (Or.inr (by decide))) (Or.inr (by decide)))) ((hQ90.at g_739_42 rfl).trans (mUp_no e74 (mUp_no e70 (mUp_no e66 (mUp_at e62) (Or.inr (by decide))) (Or.inr (by decide))) (Or.inr (by decide)))) ((hQ90.at g_739_43 rfl).trans (mUp_no e74 (mUp_no e70 (mUp_at e66) (Or.inr (by decide))) (Or.inr (by decide)))) ((hQ90.at g_739_44 rfl).trans (mUp_no e74 (mUp_at e70) (Or.inr (by decide)))) ((hQ90.at g_739_38 rfl).trans (mUp_at e74)) (by first | with_reducible assumption | omega) (by first | with_reducible assumption | omega) (TK_sm (Sm.fr hQ90 rfl) (TK_sm (Sm.up e74 g_739_38 rfl) (TK_sm (Sm.up e70 g_739_44 rfl) (TK_sm (Sm.up e66 g_739_43 rfl) (TK_sm (Sm.up e62 g_739_42 rfl) (TK_sm (Sm.up e58 g_739_40 rfl) (TK_sm (Sm.up e54 g_739_39 rfl) pr50))))))) pr98 (WS_sm (Sm.fr hQ90 rfl) (WS_sm (Sm.up e74 g_739_38 rfl) (WS_sm (Sm.up e70 g_739_44 rfl) (WS_sm (Sm.up e66 g_739_43 rfl) (WS_sm (Sm.up e62 g_739_42 rfl) (WS_sm (Sm.up e58 g_739_40 rfl) (WS_sm (Sm.up e54 g_739_39 rfl) (WS_sm (Sm.fr hQ3 rfl) pp_WS)))))))) (QW_sm (Sm.fr hQ90 rfl) (QW_sm (Sm.up e74 g_739_38 rfl) (QW_sm (Sm.up e70 g_739_44 rfl) (QW_sm (Sm.up e66 g_739_43 rfl) (QW_sm (Sm.up e62 g_739_42 rfl) (QW_sm (Sm.up e58 g_739_40 rfl) (QW_sm (Sm.up e54 g_739_39 rfl) (QW_sm (Sm.fr hQ3 rfl) pp_QW)))))))) pr99 (by first | with_reducible assumption | omega) (by first | with_reducible assumption | omega) (by first | with_reducible assumption | omega) (by first | with_reducible assumption | omega) (by first | with_reducible assumption | omega) (by first | with_reducible assumption | omega) (by first | with_reducible assumption | omega) (by first | with_reducible assumption | omega) (by first | with_reducible assumption | omega) (by first | with_reducible assumption | omega) (by first | with_reducible assumption | omega))
  · intro h3235
    refine wk_c1 r91_8 ?_
    subst hQ; exact wk_iret r91_9 (⟨rfl, _, rfl, hP2, hF4, by omega, by omega, by have := e18; omega, (WS_sm (Sm.fr hQ3 rfl) pp_WS), (QW_sm (Sm.fr hQ3 rfl) pp_QW)⟩)
