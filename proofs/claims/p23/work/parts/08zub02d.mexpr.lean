set_option maxHeartbeats 20000000 in
/-- IslandHallModel.atom -/
theorem n8047_739 {B : eB} (d : Nat) (M0 : Mm) (x739_30 : Int) (x739_31 : Int) (x739_33 : Int) (x739_34 : Int) (x739_32 : Int) (x739_28 : Int) (x739_45 : Int) (x739_46 : Int) (x739_47 : Int) (x739_35 : Int) (x739_36 : Int) (x739_29 : Int) (x739_38 : Int) (s0 : Int) (u0 : Int → Int) (T : Int → Int) (c0 : Cg) (z0 : Og) (gk : Int) (hP0 : Pw M0) (ex739_30 : M0 739 30 = x739_30) (lx739_30 : 0 ≤ x739_30) (ux739_30 : x739_30 ≤ 500) (ex739_31 : M0 739 31 = x739_31) (lx739_31 : 0 ≤ x739_31) (ux739_31 : x739_31 ≤ 500) (ex739_33 : M0 739 33 = x739_33) (lx739_33 : 0 ≤ x739_33) (ux739_33 : x739_33 ≤ 500) (ex739_34 : M0 739 34 = x739_34) (lx739_34 : 0 ≤ x739_34) (ux739_34 : x739_34 ≤ 500) (ex739_32 : M0 739 32 = x739_32) (lx739_32 : 0 ≤ x739_32) (ux739_32 : x739_32 ≤ 4) (ex739_28 : M0 739 28 = x739_28) (lx739_28 : 0 ≤ x739_28) (ux739_28 : x739_28 ≤ 6) (ex739_45 : M0 739 45 = x739_45) (lx739_45 : 0 ≤ x739_45) (ux739_45 : x739_45 ≤ 1000) (ex739_46 : M0 739 46 = x739_46) (lx739_46 : 0 ≤ x739_46) (ux739_46 : x739_46 ≤ 520) (ex739_47 : M0 739 47 = x739_47) (lx739_47 : 0 ≤ x739_47) (ux739_47 : x739_47 ≤ 500) (ex739_35 : M0 739 35 = x739_35) (lx739_35 : 0 ≤ x739_35) (ux739_35 : x739_35 ≤ 999) (ex739_36 : M0 739 36 = x739_36) (lx739_36 : 0 ≤ x739_36) (ux739_36 : x739_36 ≤ 255) (ex739_29 : M0 739 29 = x739_29) (lx739_29 : (-1) ≤ x739_29) (ux739_29 : x739_29 ≤ 501) (ex739_38 : M0 739 38 = x739_38) (lx739_38 : 0 ≤ x739_38) (ux739_38 : x739_38 ≤ 999) (rp0 : 0 ≤ x739_30 + (-1) * x739_31) (rp1 : 0 ≤ x739_31 + (-1) * x739_33 + (-1) * x739_34) (rp2 : 0 ≤ (-1) * x739_31 + x739_33 + x739_34) (rp3 : 0 ≤ 4 * x739_34 + (-1) * x739_32) (rp4 : 0 ≤ x739_33 + x739_47 + (-2) * x739_45 + (-2) * x739_46 + 3000 * x739_28) (rp5 : 0 ≤ (-2) * x739_45 + (-2) * x739_46 + 520) (rp6 : 0 ≤ (-1) * x739_47 + x739_28 + 6) (xp0 : x739_28 = 0) (xp1 : RQ T x739_30 x739_38 (c0, z0) ((1, x739_47, x739_33, gk), OW M0)) (xp2 : kw T x739_30 x739_33 ≠ 14) (xp3 : sgI T x739_30 x739_33 40 ≠ 1) (xp4 : nmI T x739_30 x739_33 ≠ 1) (pp_TK : TK M0) (pp_E0 : GE M0 s0 u0 0 0) (pp_TQ : TXQ T M0) (pp_TT : TTP T M0) : Ct B (d + 5) 47 [R 739] M0 (qV fun M => Pw M ∧ Fr fm_n8047_739 M0 M ∧ 0 ≤ M 739 30 + (-1) * (M 739 31) ∧ 0 ≤ M 739 31 + (-1) * (M 739 33) + (-1) * (M 739 34) ∧ 0 ≤ (-1) * (M 739 31) + M 739 33 + M 739 34 ∧ 0 ≤ 4 * (M 739 34) + (-1) * (M 739 32) ∧ 0 ≤ M 739 33 + (-1) * x739_33 ∧ 0 ≤ M 739 28 + (-1) * x739_28 ∧ 0 ≤ M 739 33 + M 739 47 + (-2) * (M 739 45) + (-2) * (M 739 46) + 3000 * (M 739 28) ∧ 0 ≤ (-2) * (M 739 45) + (-2) * (M 739 46) + 520 ∧ 0 ≤ (-1) * (M 739 47) + M 739 28 + 6 ∧ 0 ≤ M 739 29 + 1 ∧ 0 ≤ M 739 29 + (-1) * x739_29 + 3000 * (M 739 28) ∧ 0 ≤ (-1) * (M 739 29) + x739_29 + 3000 * (M 739 28) ∧ (RGX T x739_30 x739_38 c0 z0 2 (M 739 47) (M 739 33) 0 (M 739 28) (M 739 29) (OW M)) ∧ (TK M) ∧ (GE M s0 u0 1 0) ∧ (TXQ T M) ∧ (TTP T M)) := by
  refine ct_of (d := d + 4) (k := 3) (L := [some (R 739), none, none, none]) rfl rfl rfl ?_
  have hF0 := Fr.rf fm_n8047_739 M0
  generalize hQ : (qV fun M => Pw M ∧ Fr fm_n8047_739 M0 M ∧ 0 ≤ M 739 30 + (-1) * (M 739 31) ∧ 0 ≤ M 739 31 + (-1) * (M 739 33) + (-1) * (M 739 34) ∧ 0 ≤ (-1) * (M 739 31) + M 739 33 + M 739 34 ∧ 0 ≤ 4 * (M 739 34) + (-1) * (M 739 32) ∧ 0 ≤ M 739 33 + (-1) * x739_33 ∧ 0 ≤ M 739 28 + (-1) * x739_28 ∧ 0 ≤ M 739 33 + M 739 47 + (-2) * (M 739 45) + (-2) * (M 739 46) + 3000 * (M 739 28) ∧ 0 ≤ (-2) * (M 739 45) + (-2) * (M 739 46) + 520 ∧ 0 ≤ (-1) * (M 739 47) + M 739 28 + 6 ∧ 0 ≤ M 739 29 + 1 ∧ 0 ≤ M 739 29 + (-1) * x739_29 + 3000 * (M 739 28) ∧ 0 ≤ (-1) * (M 739 29) + x739_29 + 3000 * (M 739 28) ∧ (RGX T x739_30 x739_38 c0 z0 2 (M 739 47) (M 739 33) 0 (M 739 28) (M 739 29) (OW M)) ∧ (TK M) ∧ (GE M s0 u0 1 0) ∧ (TXQ T M) ∧ (TTP T M)) = Q
  refine wk_al0 r47_0 (wk_cv1 r47_1 kc_739_97 rfl (n8097_739 _ M0 x739_32 x739_34 x739_30 x739_33 T hP0 ex739_32 (by first | with_reducible assumption | omega) (by first | with_reducible assumption | omega) ex739_34 (by first | with_reducible assumption | omega) (by first | with_reducible assumption | omega) ex739_30 (by first | with_reducible assumption | omega) (by first | with_reducible assumption | omega) ex739_33 (by first | with_reducible assumption | omega) (by first | with_reducible assumption | omega) pp_TK pp_TT) (cqI ?_))
  rintro v7 M1 ⟨hP2, hQ3, h8, h9, h5, xh6⟩
  obtain rfl := Fr.same hQ3
  have e10 := ex739_34
  refine wk_is1 r47_4 rfl (wk_il1 r47_5 (wk_c2 r47_6 ?_))
  refine wk_iceq r47_8 ⟨by omega, by omega⟩ (by decide) ?_ ?_
  · intro h11
    refine wk_al0 r47_40 (wk_cv1 r47_41 kc_739_84 rfl (n8084_739 _ M0 x739_28 hP0 ex739_28 (by first | with_reducible assumption | omega) (by first | with_reducible assumption | omega)) (cqI ?_))
    rintro v18 M12 ⟨hP13, hQ14, h19, h20, h16, h17⟩
    obtain rfl := Fr.same hQ14
    have e21 := ex739_28
    refine wk_ifne r47_44 ⟨by omega, by omega⟩ ?_ ?_
    · intro h22
      refine wk_al0 r47_48 (wk_cv1 r47_49 kc_739_76 rfl (n8076_739 _ M0 x739_30 x739_31 T hP0 ex739_30 (by first | with_reducible assumption | omega) (by first | with_reducible assumption | omega) ex739_31 (by first | with_reducible assumption | omega) (by first | with_reducible assumption | omega) (by omega) pp_TQ) (cqV ?_))
      rintro M23 ⟨hP24, hQ25, h27, h28, h29, h30, h31, xh32, pr33, pr34, pr35⟩
      have hF26 : Fr fm_n8047_739 M0 M23 := hF0.tr hQ25 rfl
      have e36 := ((hQ25.at g_739_30 rfl).trans ex739_30)
      obtain ⟨v37, e38⟩ : ∃ v, M23 739 31 = v := ⟨_, rfl⟩
      have h39 := (bf_739_31 hP24).1; rw [e38] at h39
      have h40 := (bf_739_31 hP24).2; rw [e38] at h40
      obtain ⟨v41, e42⟩ : ∃ v, M23 739 33 = v := ⟨_, rfl⟩
      have h43 := (bf_739_33 hP24).1; rw [e42] at h43
      have h44 := (bf_739_33 hP24).2; rw [e42] at h44
      obtain ⟨v45, e46⟩ : ∃ v, M23 739 34 = v := ⟨_, rfl⟩
      have h47 := (bf_739_34 hP24).1; rw [e46] at h47
      have h48 := (bf_739_34 hP24).2; rw [e46] at h48
      obtain ⟨v49, e50⟩ : ∃ v, M23 739 32 = v := ⟨_, rfl⟩
      have h51 := (bf_739_32 hP24).1; rw [e50] at h51
      have h52 := (bf_739_32 hP24).2; rw [e50] at h52
      have hn53 := nx_ofm pp_TT ex739_30 ex739_33 ex739_31 xh32
      refine wk_il1 r47_52 (wk_c2 r47_53 ?_)
      refine wk_icne r47_55 ⟨by omega, by omega⟩ (by decide) ?_ ?_
      · intro h54
        refine wk_il1 r47_157 (wk_c2 r47_158 ?_)
        refine wk_icne r47_160 ⟨by omega, by omega⟩ (by decide) ?_ ?_
        · intro h55
          exfalso
          omega
        · intro h56
          refine wk_c1 r47_163 (wk_goto r47_164 (wk_is2 r47_190 rfl (wk_al0 r47_191 (wk_il1 r47_192 (wk_c2 r47_193 ?_)))))
          refine wk_icne r47_195 ⟨by omega, by omega⟩ (by decide) ?_ ?_
          · intro h57
            exfalso
            omega
          · intro h58
            refine wk_c1 r47_198 (wk_goto r47_199 ?_)
            refine wk_al0 r47_225 (wk_c1 r47_226 (wk_il2 r47_227 ?_))
            obtain ⟨v59, e60⟩ : ∃ v, M23 739 35 = v := ⟨_, rfl⟩
            have h61 := (bf_739_35 hP24).1; rw [e60] at h61
            have h62 := (bf_739_35 hP24).2; rw [e60] at h62
            refine wk_cv3 r47_228 kc_739_114 rfl (n8114_739 _ M23 0 3 x739_30 v37 v41 v45 v49 x739_28 v59 x739_29 T hP24 (by decide) (by decide) (by decide) (by decide) ((hQ25.at g_739_30 rfl).trans ex739_30) (by first | with_reducible assumption | omega) (by first | with_reducible assumption | omega) e38 (by first | with_reducible assumption | omega) (by first | with_reducible assumption | omega) e42 (by first | with_reducible assumption | omega) (by first | with_reducible assumption | omega) e46 (by first | with_reducible assumption | omega) (by first | with_reducible assumption | omega) e50 (by first | with_reducible assumption | omega) (by first | with_reducible assumption | omega) ((hQ25.at g_739_28 rfl).trans ex739_28) (by first | with_reducible assumption | omega) (by first | with_reducible assumption | omega) e60 (by first | with_reducible assumption | omega) (by first | with_reducible assumption | omega) ((hQ25.at g_739_29 rfl).trans ex739_29) (by first | with_reducible assumption | omega) (by first | with_reducible assumption | omega) (by omega) (by omega) (by omega) (by omega) pr33 pr34 pr35) (cqI ?_)
            rintro v83 M63 ⟨hP64, hQ65, h84, h85, h67, h68, h69, h70, h71, h72, h73, h74, h75, h76, h77, h78, xh79, pr80, pr81, pr82⟩
            have hF66 : Fr fm_n8047_739 M0 M63 := hF26.tr hQ65 rfl
            have e86 := ((hQ65.at g_739_30 rfl).trans ((hQ25.at g_739_30 rfl).trans ex739_30))
            obtain ⟨v87, e88⟩ : ∃ v, M63 739 31 = v := ⟨_, rfl⟩
            have h89 := (bf_739_31 hP64).1; rw [e88] at h89
            have h90 := (bf_739_31 hP64).2; rw [e88] at h90
            obtain ⟨v91, e92⟩ : ∃ v, M63 739 33 = v := ⟨_, rfl⟩
            have h93 := (bf_739_33 hP64).1; rw [e92] at h93
            have h94 := (bf_739_33 hP64).2; rw [e92] at h94
            obtain ⟨v95, e96⟩ : ∃ v, M63 739 34 = v := ⟨_, rfl⟩
            have h97 := (bf_739_34 hP64).1; rw [e96] at h97
            have h98 := (bf_739_34 hP64).2; rw [e96] at h98
            obtain ⟨v99, e100⟩ : ∃ v, M63 739 32 = v := ⟨_, rfl⟩
            have h101 := (bf_739_32 hP64).1; rw [e100] at h101
            have h102 := (bf_739_32 hP64).2; rw [e100] at h102
            obtain ⟨v103, e104⟩ : ∃ v, M63 739 28 = v := ⟨_, rfl⟩
            have h105 := (bf_739_28 hP64).1; rw [e104] at h105
            have h106 := (bf_739_28 hP64).2; rw [e104] at h106
            obtain ⟨v107, e108⟩ : ∃ v, M63 739 29 = v := ⟨_, rfl⟩
            have h109 := (bf_739_29 hP64).1; rw [e108] at h109
            have h110 := (bf_739_29 hP64).2; rw [e108] at h110
            have pr111 : GE M63 s0 u0 0 0 := GE_mn (Sm.fr hQ65 rfl) (fun q => by have := ((hQ25.at g_739_28 rfl).trans ex739_28); have := e104; omega) (GE_sm (Sm.fr hQ25 rfl) pp_E0)
            refine wk_c1 r47_231 ?_
            have gk : M63 739 28 = v103 := e104
            refine wk_cv4 r47_232 kc_739_117 rfl (n8117_739 _ M63 3 v83 0 x739_45 hP64 (by decide) (by decide) (by first | with_reducible assumption | omega) (by first | with_reducible assumption | omega) (by decide) (by decide) ((hQ65.at g_739_45 rfl).trans ((hQ25.at g_739_45 rfl).trans ex739_45)) (by first | with_reducible assumption | omega) (by first | with_reducible assumption | omega)) (cqV ?_)
            rintro M112 ⟨hP113, hQ114, h116, h117, xh118⟩
            have hF115 : Fr fm_n8047_739 M0 M112 := hF66.tr hQ114 rfl
            obtain ⟨v119, e120⟩ : ∃ v, M112 739 45 = v := ⟨_, rfl⟩
            have h121 := (bf_739_45 hP113).1; rw [e120] at h121
            have h122 := (bf_739_45 hP113).2; rw [e120] at h122
            have pr123 : GE M112 s0 u0 1 0 := GE_atom xh118 pr111 (fun q => by rw [gk] at q; exact ⟨by omega, by unfold refok; omega, by omega, by omega⟩)
            have pr124 : OWe M112 ((OW M0).1 ++ [3 + 16 * v83], (OW M0).2) := OWe_c (OWe_put (OWe_sm (Sm.fr hQ65 rfl) (OWe_sm (Sm.fr hQ25 rfl) (OWe_rf M0))) xh118 (bf_739_45 hP64).1) (by show ((OW M0).1 ++ [_], (OW M0).2) = ((OW M0).1 ++ [_], (OW M0).2); congr 3 <;> omega)
            subst hQ; exact wk_ret r47_235 (⟨rfl, hP113, hF115, by have := ((hQ114.at g_739_30 rfl).trans ((hQ65.at g_739_30 rfl).trans ((hQ25.at g_739_30 rfl).trans ex739_30))); have := ((hQ114.at g_739_31 rfl).trans e88); omega, by have := ((hQ114.at g_739_31 rfl).trans e88); have := ((hQ114.at g_739_33 rfl).trans e92); have := ((hQ114.at g_739_34 rfl).trans e96); omega, by have := ((hQ114.at g_739_31 rfl).trans e88); have := ((hQ114.at g_739_33 rfl).trans e92); have := ((hQ114.at g_739_34 rfl).trans e96); omega, by have := ((hQ114.at g_739_34 rfl).trans e96); have := ((hQ114.at g_739_32 rfl).trans e100); omega, by have := ((hQ114.at g_739_33 rfl).trans e92); omega, by have := ((hQ114.at g_739_28 rfl).trans e104); omega, by have := ((hQ114.at g_739_33 rfl).trans e92); have := ((hQ114.at g_739_47 rfl).trans ((hQ65.at g_739_47 rfl).trans ((hQ25.at g_739_47 rfl).trans ex739_47))); have := e120; have := ((hQ114.at g_739_46 rfl).trans ((hQ65.at g_739_46 rfl).trans ((hQ25.at g_739_46 rfl).trans ex739_46))); have := ((hQ114.at g_739_28 rfl).trans e104); omega, by have := e120; have := ((hQ114.at g_739_46 rfl).trans ((hQ65.at g_739_46 rfl).trans ((hQ25.at g_739_46 rfl).trans ex739_46))); omega, by have := ((hQ114.at g_739_47 rfl).trans ((hQ65.at g_739_47 rfl).trans ((hQ25.at g_739_47 rfl).trans ex739_47))); have := ((hQ114.at g_739_28 rfl).trans e104); omega, by have := ((hQ114.at g_739_29 rfl).trans e108); omega, by have := ((hQ114.at g_739_29 rfl).trans e108); have := ((hQ114.at g_739_28 rfl).trans e104); omega, by have := ((hQ114.at g_739_29 rfl).trans e108); have := ((hQ114.at g_739_28 rfl).trans e104); omega, by rw [((hQ114.at g_739_47 rfl).trans ((hQ65.at g_739_47 rfl).trans ((hQ25.at g_739_47 rfl).trans ex739_47))), ((hQ114.at g_739_33 rfl).trans e92), ((hQ114.at g_739_28 rfl).trans e104), ((hQ114.at g_739_29 rfl).trans e108)]; exact a235nx (m := 3) (ac := 3) (kv := v83) (v1 := v41) xp1 xp2 xp3 xp4 (by omega) (by omega) (by rcases xh79 with q9 | q9 | q9; (exact Or.inl ⟨by omega, by omega, by omega, by omega⟩); (exact Or.inr ⟨by omega, by omega, by omega⟩); (omega)) pr124, (TK_sm (Sm.fr hQ114 rfl) pr80), pr123, (TXQ_sm (Sm.fr hQ114 rfl) pr81), (TTP_sm (Sm.fr hQ114 rfl) pr82)⟩)
      · intro h125
        exfalso
        omega
    · intro h126
      subst hQ; exact wk_ret r47_47 (⟨rfl, hP0, hF0, by have := ex739_30; have := ex739_31; omega, by have := ex739_31; have := ex739_33; have := ex739_34; omega, by have := ex739_31; have := ex739_33; have := ex739_34; omega, by have := ex739_34; have := ex739_32; omega, by have := ex739_33; omega, by have := ex739_28; omega, by have := ex739_33; have := ex739_47; have := ex739_45; have := ex739_46; have := ex739_28; omega, by have := ex739_45; have := ex739_46; omega, by have := ex739_47; have := ex739_28; omega, by have := ex739_29; omega, by have := ex739_29; have := ex739_28; omega, by have := ex739_29; have := ex739_28; omega, by rw [ex739_47, ex739_33, ex739_28, ex739_29]; exact RGX_f (a47 xp1.r xp2 xp3 xp4 (by omega) (by omega) (by omega)) (by omega), pp_TK, (GE_vac ex739_28 (by omega)), pp_TQ, pp_TT⟩)
  · intro h127
    refine wk_il1 r47_11 (wk_c2 r47_12 ?_)
    refine wk_iceq r47_14 ⟨by omega, by omega⟩ (by decide) ?_ ?_
    · intro h128
      refine wk_al0 r47_40 (wk_cv1 r47_41 kc_739_84 rfl (n8084_739 _ M0 x739_28 hP0 ex739_28 (by first | with_reducible assumption | omega) (by first | with_reducible assumption | omega)) (cqI ?_))
      rintro v135 M129 ⟨hP130, hQ131, h136, h137, h133, h134⟩
      obtain rfl := Fr.same hQ131
      have e138 := ex739_28
      refine wk_ifne r47_44 ⟨by omega, by omega⟩ ?_ ?_
      · intro h139
        refine wk_al0 r47_48 (wk_cv1 r47_49 kc_739_76 rfl (n8076_739 _ M0 x739_30 x739_31 T hP0 ex739_30 (by first | with_reducible assumption | omega) (by first | with_reducible assumption | omega) ex739_31 (by first | with_reducible assumption | omega) (by first | with_reducible assumption | omega) (by omega) pp_TQ) (cqV ?_))
        rintro M140 ⟨hP141, hQ142, h144, h145, h146, h147, h148, xh149, pr150, pr151, pr152⟩
        have hF143 : Fr fm_n8047_739 M0 M140 := hF0.tr hQ142 rfl
        have e153 := ((hQ142.at g_739_30 rfl).trans ex739_30)
        obtain ⟨v154, e155⟩ : ∃ v, M140 739 31 = v := ⟨_, rfl⟩
        have h156 := (bf_739_31 hP141).1; rw [e155] at h156
        have h157 := (bf_739_31 hP141).2; rw [e155] at h157
        obtain ⟨v158, e159⟩ : ∃ v, M140 739 33 = v := ⟨_, rfl⟩
        have h160 := (bf_739_33 hP141).1; rw [e159] at h160
        have h161 := (bf_739_33 hP141).2; rw [e159] at h161
        obtain ⟨v162, e163⟩ : ∃ v, M140 739 34 = v := ⟨_, rfl⟩
        have h164 := (bf_739_34 hP141).1; rw [e163] at h164
        have h165 := (bf_739_34 hP141).2; rw [e163] at h165
        obtain ⟨v166, e167⟩ : ∃ v, M140 739 32 = v := ⟨_, rfl⟩
        have h168 := (bf_739_32 hP141).1; rw [e167] at h168
        have h169 := (bf_739_32 hP141).2; rw [e167] at h169
        have hn170 := nx_ofm pp_TT ex739_30 ex739_33 ex739_31 xh149
        refine wk_il1 r47_52 (wk_c2 r47_53 ?_)
        refine wk_icne r47_55 ⟨by omega, by omega⟩ (by decide) ?_ ?_
        · intro h171
          refine wk_il1 r47_157 (wk_c2 r47_158 ?_)
          refine wk_icne r47_160 ⟨by omega, by omega⟩ (by decide) ?_ ?_
          · intro h172
            refine wk_il1 r47_167 (wk_c2 r47_168 ?_)
            refine wk_icne r47_170 ⟨by omega, by omega⟩ (by decide) ?_ ?_
            · intro h173
              exfalso
              omega
            · intro h174
              refine wk_c2 r47_173 (wk_goto r47_175 (wk_is2 r47_190 rfl (wk_al0 r47_191 (wk_il1 r47_192 (wk_c2 r47_193 ?_)))))
              refine wk_icne r47_195 ⟨by omega, by omega⟩ (by decide) ?_ ?_
              · intro h175
                refine wk_il1 r47_202 (wk_c2 r47_203 ?_)
                refine wk_icne r47_205 ⟨by omega, by omega⟩ (by decide) ?_ ?_
                · intro h176
                  exfalso
                  omega
                · intro h177
                  refine wk_c1 r47_208 (wk_goto r47_209 ?_)
                  refine wk_al0 r47_225 (wk_c1 r47_226 (wk_il2 r47_227 ?_))
                  obtain ⟨v178, e179⟩ : ∃ v, M140 739 35 = v := ⟨_, rfl⟩
                  have h180 := (bf_739_35 hP141).1; rw [e179] at h180
                  have h181 := (bf_739_35 hP141).2; rw [e179] at h181
                  refine wk_cv3 r47_228 kc_739_114 rfl (n8114_739 _ M140 0 6 x739_30 v154 v158 v162 v166 x739_28 v178 x739_29 T hP141 (by decide) (by decide) (by decide) (by decide) ((hQ142.at g_739_30 rfl).trans ex739_30) (by first | with_reducible assumption | omega) (by first | with_reducible assumption | omega) e155 (by first | with_reducible assumption | omega) (by first | with_reducible assumption | omega) e159 (by first | with_reducible assumption | omega) (by first | with_reducible assumption | omega) e163 (by first | with_reducible assumption | omega) (by first | with_reducible assumption | omega) e167 (by first | with_reducible assumption | omega) (by first | with_reducible assumption | omega) ((hQ142.at g_739_28 rfl).trans ex739_28) (by first | with_reducible assumption | omega) (by first | with_reducible assumption | omega) e179 (by first | with_reducible assumption | omega) (by first | with_reducible assumption | omega) ((hQ142.at g_739_29 rfl).trans ex739_29) (by first | with_reducible assumption | omega) (by first | with_reducible assumption | omega) (by omega) (by omega) (by omega) (by omega) pr150 pr151 pr152) (cqI ?_)
                  rintro v202 M182 ⟨hP183, hQ184, h203, h204, h186, h187, h188, h189, h190, h191, h192, h193, h194, h195, h196, h197, xh198, pr199, pr200, pr201⟩
                  have hF185 : Fr fm_n8047_739 M0 M182 := hF143.tr hQ184 rfl
                  have e205 := ((hQ184.at g_739_30 rfl).trans ((hQ142.at g_739_30 rfl).trans ex739_30))
                  obtain ⟨v206, e207⟩ : ∃ v, M182 739 31 = v := ⟨_, rfl⟩
                  have h208 := (bf_739_31 hP183).1; rw [e207] at h208
                  have h209 := (bf_739_31 hP183).2; rw [e207] at h209
                  obtain ⟨v210, e211⟩ : ∃ v, M182 739 33 = v := ⟨_, rfl⟩
                  have h212 := (bf_739_33 hP183).1; rw [e211] at h212
                  have h213 := (bf_739_33 hP183).2; rw [e211] at h213
                  obtain ⟨v214, e215⟩ : ∃ v, M182 739 34 = v := ⟨_, rfl⟩
                  have h216 := (bf_739_34 hP183).1; rw [e215] at h216
                  have h217 := (bf_739_34 hP183).2; rw [e215] at h217
                  obtain ⟨v218, e219⟩ : ∃ v, M182 739 32 = v := ⟨_, rfl⟩
                  have h220 := (bf_739_32 hP183).1; rw [e219] at h220
                  have h221 := (bf_739_32 hP183).2; rw [e219] at h221
                  obtain ⟨v222, e223⟩ : ∃ v, M182 739 28 = v := ⟨_, rfl⟩
                  have h224 := (bf_739_28 hP183).1; rw [e223] at h224
                  have h225 := (bf_739_28 hP183).2; rw [e223] at h225
                  obtain ⟨v226, e227⟩ : ∃ v, M182 739 29 = v := ⟨_, rfl⟩
                  have h228 := (bf_739_29 hP183).1; rw [e227] at h228
                  have h229 := (bf_739_29 hP183).2; rw [e227] at h229
                  have pr230 : GE M182 s0 u0 0 0 := GE_mn (Sm.fr hQ184 rfl) (fun q => by have := ((hQ142.at g_739_28 rfl).trans ex739_28); have := e223; omega) (GE_sm (Sm.fr hQ142 rfl) pp_E0)
                  refine wk_c1 r47_231 ?_
                  have gk : M182 739 28 = v222 := e223
                  refine wk_cv4 r47_232 kc_739_117 rfl (n8117_739 _ M182 4 v202 0 x739_45 hP183 (by decide) (by decide) (by first | with_reducible assumption | omega) (by first | with_reducible assumption | omega) (by decide) (by decide) ((hQ184.at g_739_45 rfl).trans ((hQ142.at g_739_45 rfl).trans ex739_45)) (by first | with_reducible assumption | omega) (by first | with_reducible assumption | omega)) (cqV ?_)
                  rintro M231 ⟨hP232, hQ233, h235, h236, xh237⟩
                  have hF234 : Fr fm_n8047_739 M0 M231 := hF185.tr hQ233 rfl
                  obtain ⟨v238, e239⟩ : ∃ v, M231 739 45 = v := ⟨_, rfl⟩
                  have h240 := (bf_739_45 hP232).1; rw [e239] at h240
                  have h241 := (bf_739_45 hP232).2; rw [e239] at h241
                  have pr242 : GE M231 s0 u0 1 0 := GE_atom xh237 pr230 (fun q => by rw [gk] at q; exact ⟨by omega, by unfold refok; omega, by omega, by omega⟩)
                  have pr243 : OWe M231 ((OW M0).1 ++ [4 + 16 * v202], (OW M0).2) := OWe_c (OWe_put (OWe_sm (Sm.fr hQ184 rfl) (OWe_sm (Sm.fr hQ142 rfl) (OWe_rf M0))) xh237 (bf_739_45 hP183).1) (by show ((OW M0).1 ++ [_], (OW M0).2) = ((OW M0).1 ++ [_], (OW M0).2); congr 3 <;> omega)
                  subst hQ; exact wk_ret r47_235 (⟨rfl, hP232, hF234, by have := ((hQ233.at g_739_30 rfl).trans ((hQ184.at g_739_30 rfl).trans ((hQ142.at g_739_30 rfl).trans ex739_30))); have := ((hQ233.at g_739_31 rfl).trans e207); omega, by have := ((hQ233.at g_739_31 rfl).trans e207); have := ((hQ233.at g_739_33 rfl).trans e211); have := ((hQ233.at g_739_34 rfl).trans e215); omega, by have := ((hQ233.at g_739_31 rfl).trans e207); have := ((hQ233.at g_739_33 rfl).trans e211); have := ((hQ233.at g_739_34 rfl).trans e215); omega, by have := ((hQ233.at g_739_34 rfl).trans e215); have := ((hQ233.at g_739_32 rfl).trans e219); omega, by have := ((hQ233.at g_739_33 rfl).trans e211); omega, by have := ((hQ233.at g_739_28 rfl).trans e223); omega, by have := ((hQ233.at g_739_33 rfl).trans e211); have := ((hQ233.at g_739_47 rfl).trans ((hQ184.at g_739_47 rfl).trans ((hQ142.at g_739_47 rfl).trans ex739_47))); have := e239; have := ((hQ233.at g_739_46 rfl).trans ((hQ184.at g_739_46 rfl).trans ((hQ142.at g_739_46 rfl).trans ex739_46))); have := ((hQ233.at g_739_28 rfl).trans e223); omega, by have := e239; have := ((hQ233.at g_739_46 rfl).trans ((hQ184.at g_739_46 rfl).trans ((hQ142.at g_739_46 rfl).trans ex739_46))); omega, by have := ((hQ233.at g_739_47 rfl).trans ((hQ184.at g_739_47 rfl).trans ((hQ142.at g_739_47 rfl).trans ex739_47))); have := ((hQ233.at g_739_28 rfl).trans e223); omega, by have := ((hQ233.at g_739_29 rfl).trans e227); omega, by have := ((hQ233.at g_739_29 rfl).trans e227); have := ((hQ233.at g_739_28 rfl).trans e223); omega, by have := ((hQ233.at g_739_29 rfl).trans e227); have := ((hQ233.at g_739_28 rfl).trans e223); omega, by rw [((hQ233.at g_739_47 rfl).trans ((hQ184.at g_739_47 rfl).trans ((hQ142.at g_739_47 rfl).trans ex739_47))), ((hQ233.at g_739_33 rfl).trans e211), ((hQ233.at g_739_28 rfl).trans e223), ((hQ233.at g_739_29 rfl).trans e227)]; exact a235nx (m := 6) (ac := 4) (kv := v202) (v1 := v158) xp1 xp2 xp3 xp4 (by omega) (by omega) (by rcases xh198 with q9 | q9 | q9; (exact Or.inl ⟨by omega, by omega, by omega, by omega⟩); (exact Or.inr ⟨by omega, by omega, by omega⟩); (omega)) pr243, (TK_sm (Sm.fr hQ233 rfl) pr199), pr242, (TXQ_sm (Sm.fr hQ233 rfl) pr200), (TTP_sm (Sm.fr hQ233 rfl) pr201)⟩)
              · intro h244
                exfalso
                omega
          · intro h245
            exfalso
            omega
        · intro h246
          exfalso
          omega
      · intro h247
        subst hQ; exact wk_ret r47_47 (⟨rfl, hP0, hF0, by have := ex739_30; have := ex739_31; omega, by have := ex739_31; have := ex739_33; have := ex739_34; omega, by have := ex739_31; have := ex739_33; have := ex739_34; omega, by have := ex739_34; have := ex739_32; omega, by have := ex739_33; omega, by have := ex739_28; omega, by have := ex739_33; have := ex739_47; have := ex739_45; have := ex739_46; have := ex739_28; omega, by have := ex739_45; have := ex739_46; omega, by have := ex739_47; have := ex739_28; omega, by have := ex739_29; omega, by have := ex739_29; have := ex739_28; omega, by have := ex739_29; have := ex739_28; omega, by rw [ex739_47, ex739_33, ex739_28, ex739_29]; exact RGX_f (a47 xp1.r xp2 xp3 xp4 (by omega) (by omega) (by omega)) (by omega), pp_TK, (GE_vac ex739_28 (by omega)), pp_TQ, pp_TT⟩)
    · intro h248
      refine wk_il1 r47_17 (wk_c2 r47_18 ?_)
      refine wk_iceq r47_20 ⟨by omega, by omega⟩ (by decide) ?_ ?_
      · intro h249
        refine wk_al0 r47_40 (wk_cv1 r47_41 kc_739_84 rfl (n8084_739 _ M0 x739_28 hP0 ex739_28 (by first | with_reducible assumption | omega) (by first | with_reducible assumption | omega)) (cqI ?_))
        rintro v256 M250 ⟨hP251, hQ252, h257, h258, h254, h255⟩
        obtain rfl := Fr.same hQ252
        have e259 := ex739_28
        refine wk_ifne r47_44 ⟨by omega, by omega⟩ ?_ ?_
        · intro h260
          refine wk_al0 r47_48 (wk_cv1 r47_49 kc_739_76 rfl (n8076_739 _ M0 x739_30 x739_31 T hP0 ex739_30 (by first | with_reducible assumption | omega) (by first | with_reducible assumption | omega) ex739_31 (by first | with_reducible assumption | omega) (by first | with_reducible assumption | omega) (by omega) pp_TQ) (cqV ?_))
          rintro M261 ⟨hP262, hQ263, h265, h266, h267, h268, h269, xh270, pr271, pr272, pr273⟩
          have hF264 : Fr fm_n8047_739 M0 M261 := hF0.tr hQ263 rfl
          have e274 := ((hQ263.at g_739_30 rfl).trans ex739_30)
          obtain ⟨v275, e276⟩ : ∃ v, M261 739 31 = v := ⟨_, rfl⟩
          have h277 := (bf_739_31 hP262).1; rw [e276] at h277
          have h278 := (bf_739_31 hP262).2; rw [e276] at h278
          obtain ⟨v279, e280⟩ : ∃ v, M261 739 33 = v := ⟨_, rfl⟩
          have h281 := (bf_739_33 hP262).1; rw [e280] at h281
          have h282 := (bf_739_33 hP262).2; rw [e280] at h282
          obtain ⟨v283, e284⟩ : ∃ v, M261 739 34 = v := ⟨_, rfl⟩
          have h285 := (bf_739_34 hP262).1; rw [e284] at h285
          have h286 := (bf_739_34 hP262).2; rw [e284] at h286
          obtain ⟨v287, e288⟩ : ∃ v, M261 739 32 = v := ⟨_, rfl⟩
          have h289 := (bf_739_32 hP262).1; rw [e288] at h289
          have h290 := (bf_739_32 hP262).2; rw [e288] at h290
          have hn291 := nx_ofm pp_TT ex739_30 ex739_33 ex739_31 xh270
          refine wk_il1 r47_52 (wk_c2 r47_53 ?_)
          refine wk_icne r47_55 ⟨by omega, by omega⟩ (by decide) ?_ ?_
          · intro h292
            exfalso
            omega
          · intro h293
            have r1 : Rch T x739_30 x739_38 c0 (stM T x739_30 x739_47 v279) := A_m xp1.r xp3 xp4 (by omega) (by omega)
            refine wk_al0 r47_58 (wk_cv1 r47_59 kc_739_93 rfl (n8093_739 _ M261 x739_30 v275 v279 v283 v287 x739_28 x739_29 T hP262 ((hQ263.at g_739_30 rfl).trans ex739_30) (by first | with_reducible assumption | omega) (by first | with_reducible assumption | omega) e276 (by first | with_reducible assumption | omega) (by first | with_reducible assumption | omega) e280 (by first | with_reducible assumption | omega) (by first | with_reducible assumption | omega) e284 (by first | with_reducible assumption | omega) (by first | with_reducible assumption | omega) e288 (by first | with_reducible assumption | omega) (by first | with_reducible assumption | omega) ((hQ263.at g_739_28 rfl).trans ex739_28) (by first | with_reducible assumption | omega) (by first | with_reducible assumption | omega) ((hQ263.at g_739_29 rfl).trans ex739_29) (by first | with_reducible assumption | omega) (by first | with_reducible assumption | omega) (by omega) (by omega) (by omega) (by omega) pr271 pr272 pr273) (cqI ?_))
            rintro v314 M294 ⟨hP295, hQ296, h315, h316, h298, h299, h300, h301, h302, h303, h304, h305, h306, h307, h308, h309, xh310, pr311, pr312, pr313⟩
            have hF297 : Fr fm_n8047_739 M0 M294 := hF264.tr hQ296 rfl
            have e317 := ((hQ296.at g_739_30 rfl).trans ((hQ263.at g_739_30 rfl).trans ex739_30))
            obtain ⟨v318, e319⟩ : ∃ v, M294 739 31 = v := ⟨_, rfl⟩
            have h320 := (bf_739_31 hP295).1; rw [e319] at h320
            have h321 := (bf_739_31 hP295).2; rw [e319] at h321
            obtain ⟨v322, e323⟩ : ∃ v, M294 739 33 = v := ⟨_, rfl⟩
            have h324 := (bf_739_33 hP295).1; rw [e323] at h324
            have h325 := (bf_739_33 hP295).2; rw [e323] at h325
            obtain ⟨v326, e327⟩ : ∃ v, M294 739 34 = v := ⟨_, rfl⟩
            have h328 := (bf_739_34 hP295).1; rw [e327] at h328
            have h329 := (bf_739_34 hP295).2; rw [e327] at h329
            obtain ⟨v330, e331⟩ : ∃ v, M294 739 32 = v := ⟨_, rfl⟩
            have h332 := (bf_739_32 hP295).1; rw [e331] at h332
            have h333 := (bf_739_32 hP295).2; rw [e331] at h333
            obtain ⟨v334, e335⟩ : ∃ v, M294 739 28 = v := ⟨_, rfl⟩
            have h336 := (bf_739_28 hP295).1; rw [e335] at h336
            have h337 := (bf_739_28 hP295).2; rw [e335] at h337
            obtain ⟨v338, e339⟩ : ∃ v, M294 739 29 = v := ⟨_, rfl⟩
            have h340 := (bf_739_29 hP295).1; rw [e339] at h340
            have h341 := (bf_739_29 hP295).2; rw [e339] at h341
            have pr342 : GE M294 s0 u0 0 0 := GE_mn (Sm.fr hQ296 rfl) (fun q => by have := ((hQ263.at g_739_28 rfl).trans ex739_28); have := e335; omega) (GE_sm (Sm.fr hQ263 rfl) pp_E0)
            refine wk_is2 r47_62 rfl (wk_al0 r47_63 (wk_getfb r47_64 fd_739_36 (bf_739_36 hP295) ?_))
            intro v343 h345 h346 e344
            refine wk_is3 r47_67 rfl ?_
            have hsg9 : v322 < x739_30 → v343 = T v322 := by have q8 := pr313; unfold TTP at q8; rw [((hQ296.at g_739_30 rfl).trans ((hQ263.at g_739_30 rfl).trans ex739_30)), e323, e344] at q8; exact fun q => q8.2.2.2.1 q
            refine wk_al0 r47_68 (wk_cv1 r47_69 kc_739_84 rfl (n8084_739 _ M294 v334 hP295 e335 (by first | with_reducible assumption | omega) (by first | with_reducible assumption | omega)) (cqI ?_))
            rintro v353 M347 ⟨hP348, hQ349, h354, h355, h351, h352⟩
            obtain rfl := Fr.same hQ349
            have e356 := e335
            refine wk_ifeq r47_72 ⟨by omega, by omega⟩ ?_ ?_
            · intro h357
              refine wk_al0 r47_107 (wk_cv1 r47_108 kc_739_84 rfl (n8084_739 _ M294 v334 hP295 e335 (by first | with_reducible assumption | omega) (by first | with_reducible assumption | omega)) (cqI ?_))
              rintro v364 M358 ⟨hP359, hQ360, h365, h366, h362, h363⟩
              obtain rfl := Fr.same hQ360
              have e367 := e335
              refine wk_ifne r47_111 ⟨by omega, by omega⟩ ?_ ?_
              · intro h368
                exfalso
                omega
              · intro h369
                subst hQ; exact wk_ret r47_114 (⟨rfl, hP295, hF297, by have := ((hQ296.at g_739_30 rfl).trans ((hQ263.at g_739_30 rfl).trans ex739_30)); have := e319; omega, by have := e319; have := e323; have := e327; omega, by have := e319; have := e323; have := e327; omega, by have := e327; have := e331; omega, by have := e323; omega, by have := e335; omega, by have := e323; have := ((hQ296.at g_739_47 rfl).trans ((hQ263.at g_739_47 rfl).trans ex739_47)); have := ((hQ296.at g_739_45 rfl).trans ((hQ263.at g_739_45 rfl).trans ex739_45)); have := ((hQ296.at g_739_46 rfl).trans ((hQ263.at g_739_46 rfl).trans ex739_46)); have := e335; omega, by have := ((hQ296.at g_739_45 rfl).trans ((hQ263.at g_739_45 rfl).trans ex739_45)); have := ((hQ296.at g_739_46 rfl).trans ((hQ263.at g_739_46 rfl).trans ex739_46)); omega, by have := ((hQ296.at g_739_47 rfl).trans ((hQ263.at g_739_47 rfl).trans ex739_47)); have := e335; omega, by have := e339; omega, by have := e339; have := e335; omega, by have := e339; have := e335; omega, by rw [((hQ296.at g_739_47 rfl).trans ((hQ263.at g_739_47 rfl).trans ex739_47)), e323, e335, e339]; exact RGX_f (a114 (v2 := v322) r1 (Or.inl ⟨by omega, by omega, by omega⟩)) (by omega), pr311, (GE_vac e335 (by omega)), pr312, pr313⟩)
            · intro h370
              refine wk_al0 r47_75 (wk_c2 r47_76 (wk_cv2 r47_78 kc_739_88 rfl (n8088_739 _ M294 60 v330 v343 x739_30 v322 T hP295 (by decide) (by decide) e331 (by first | with_reducible assumption | omega) (by first | with_reducible assumption | omega) e344 (by first | with_reducible assumption | omega) (by first | with_reducible assumption | omega) ((hQ296.at g_739_30 rfl).trans ((hQ263.at g_739_30 rfl).trans ex739_30)) (by first | with_reducible assumption | omega) (by first | with_reducible assumption | omega) e323 (by first | with_reducible assumption | omega) (by first | with_reducible assumption | omega) pr313) (cqI ?_)))
              rintro v379 M371 ⟨hP372, hQ373, h380, h381, h375, h376, h377, xh378⟩
              obtain rfl := Fr.same hQ373
              have e382 := e331
              have e383 := e344
              refine wk_ifne r47_81 ⟨by omega, by omega⟩ ?_ ?_
              · intro h384
                replace h375 := h375 (z1_of h380 h381 h384)
                replace h376 := h376 (z1_of h380 h381 h384)
                replace h377 := h377 (z1_of h380 h381 h384)
                refine wk_al0 r47_107 (wk_cv1 r47_108 kc_739_84 rfl (n8084_739 _ M294 v334 hP295 e335 (by first | with_reducible assumption | omega) (by first | with_reducible assumption | omega)) (cqI ?_))
                rintro v391 M385 ⟨hP386, hQ387, h392, h393, h389, h390⟩
                obtain rfl := Fr.same hQ387
                have e394 := e335
                refine wk_ifne r47_111 ⟨by omega, by omega⟩ ?_ ?_
                · intro h395
                  refine wk_al0 r47_115 (wk_cv1 r47_116 kc_739_76 rfl (n8076_739 _ M294 x739_30 v318 T hP295 ((hQ296.at g_739_30 rfl).trans ((hQ263.at g_739_30 rfl).trans ex739_30)) (by first | with_reducible assumption | omega) (by first | with_reducible assumption | omega) e319 (by first | with_reducible assumption | omega) (by first | with_reducible assumption | omega) (by omega) pr312) (cqV ?_))
                  rintro M396 ⟨hP397, hQ398, h400, h401, h402, h403, h404, xh405, pr406, pr407, pr408⟩
                  have hF399 : Fr fm_n8047_739 M0 M396 := hF297.tr hQ398 rfl
                  have e409 := ((hQ398.at g_739_30 rfl).trans ((hQ296.at g_739_30 rfl).trans ((hQ263.at g_739_30 rfl).trans ex739_30)))
                  obtain ⟨v410, e411⟩ : ∃ v, M396 739 31 = v := ⟨_, rfl⟩
                  have h412 := (bf_739_31 hP397).1; rw [e411] at h412
                  have h413 := (bf_739_31 hP397).2; rw [e411] at h413
                  obtain ⟨v414, e415⟩ : ∃ v, M396 739 33 = v := ⟨_, rfl⟩
                  have h416 := (bf_739_33 hP397).1; rw [e415] at h416
                  have h417 := (bf_739_33 hP397).2; rw [e415] at h417
                  obtain ⟨v418, e419⟩ : ∃ v, M396 739 34 = v := ⟨_, rfl⟩
                  have h420 := (bf_739_34 hP397).1; rw [e419] at h420
                  have h421 := (bf_739_34 hP397).2; rw [e419] at h421
                  obtain ⟨v422, e423⟩ : ∃ v, M396 739 32 = v := ⟨_, rfl⟩
                  have h424 := (bf_739_32 hP397).1; rw [e423] at h424
                  have h425 := (bf_739_32 hP397).2; rw [e423] at h425
                  have hn426 := nx_ofm pr313 ((hQ296.at g_739_30 rfl).trans ((hQ263.at g_739_30 rfl).trans ex739_30)) e323 e319 xh405
                  refine wk_al0 r47_119 (wk_il3 r47_120 (wk_c2 r47_121 ?_))
                  refine wk_icne r47_123 ⟨by omega, by omega⟩ (by decide) ?_ ?_
                  · intro h427
                    exfalso
                    omega
                  · intro h428
                    refine wk_c1 r47_126 (wk_goto r47_127 ?_)
                    refine wk_il2 r47_143 (wk_al0 r47_144 (wk_c1 r47_145 (wk_c2 r47_146 ?_)))
                    obtain ⟨v429, e430⟩ : ∃ v, M396 739 35 = v := ⟨_, rfl⟩
                    have h431 := (bf_739_35 hP397).1; rw [e430] at h431
                    have h432 := (bf_739_35 hP397).2; rw [e430] at h432
                    refine wk_cv3 r47_148 kc_739_114 rfl (n8114_739 _ M396 0 99 x739_30 v410 v414 v418 v422 v334 v429 v338 T hP397 (by decide) (by decide) (by decide) (by decide) ((hQ398.at g_739_30 rfl).trans ((hQ296.at g_739_30 rfl).trans ((hQ263.at g_739_30 rfl).trans ex739_30))) (by first | with_reducible assumption | omega) (by first | with_reducible assumption | omega) e411 (by first | with_reducible assumption | omega) (by first | with_reducible assumption | omega) e415 (by first | with_reducible assumption | omega) (by first | with_reducible assumption | omega) e419 (by first | with_reducible assumption | omega) (by first | with_reducible assumption | omega) e423 (by first | with_reducible assumption | omega) (by first | with_reducible assumption | omega) ((hQ398.at g_739_28 rfl).trans e335) (by first | with_reducible assumption | omega) (by first | with_reducible assumption | omega) e430 (by first | with_reducible assumption | omega) (by first | with_reducible assumption | omega) ((hQ398.at g_739_29 rfl).trans e339) (by first | with_reducible assumption | omega) (by first | with_reducible assumption | omega) (by omega) (by omega) (by omega) (by omega) pr406 pr407 pr408) (cqI ?_)
                    rintro v453 M433 ⟨hP434, hQ435, h454, h455, h437, h438, h439, h440, h441, h442, h443, h444, h445, h446, h447, h448, xh449, pr450, pr451, pr452⟩
                    have hF436 : Fr fm_n8047_739 M0 M433 := hF399.tr hQ435 rfl
                    have e456 := ((hQ435.at g_739_30 rfl).trans ((hQ398.at g_739_30 rfl).trans ((hQ296.at g_739_30 rfl).trans ((hQ263.at g_739_30 rfl).trans ex739_30))))
                    obtain ⟨v457, e458⟩ : ∃ v, M433 739 31 = v := ⟨_, rfl⟩
                    have h459 := (bf_739_31 hP434).1; rw [e458] at h459
                    have h460 := (bf_739_31 hP434).2; rw [e458] at h460
                    obtain ⟨v461, e462⟩ : ∃ v, M433 739 33 = v := ⟨_, rfl⟩
                    have h463 := (bf_739_33 hP434).1; rw [e462] at h463
                    have h464 := (bf_739_33 hP434).2; rw [e462] at h464
                    obtain ⟨v465, e466⟩ : ∃ v, M433 739 34 = v := ⟨_, rfl⟩
                    have h467 := (bf_739_34 hP434).1; rw [e466] at h467
                    have h468 := (bf_739_34 hP434).2; rw [e466] at h468
                    obtain ⟨v469, e470⟩ : ∃ v, M433 739 32 = v := ⟨_, rfl⟩
                    have h471 := (bf_739_32 hP434).1; rw [e470] at h471
                    have h472 := (bf_739_32 hP434).2; rw [e470] at h472
                    obtain ⟨v473, e474⟩ : ∃ v, M433 739 28 = v := ⟨_, rfl⟩
                    have h475 := (bf_739_28 hP434).1; rw [e474] at h475
                    have h476 := (bf_739_28 hP434).2; rw [e474] at h476
                    obtain ⟨v477, e478⟩ : ∃ v, M433 739 29 = v := ⟨_, rfl⟩
                    have h479 := (bf_739_29 hP434).1; rw [e478] at h479
                    have h480 := (bf_739_29 hP434).2; rw [e478] at h480
                    have pr481 : GE M433 s0 u0 0 0 := GE_mn (Sm.fr hQ435 rfl) (fun q => by have := ((hQ398.at g_739_28 rfl).trans e335); have := e474; omega) (GE_sm (Sm.fr hQ398 rfl) pr342)
                    have gk : M433 739 28 = v473 := e474
                    refine wk_cv4 r47_151 kc_739_117 rfl (n8117_739 _ M433 5 v314 v453 x739_45 hP434 (by decide) (by decide) (by first | with_reducible assumption | omega) (by first | with_reducible assumption | omega) (by first | with_reducible assumption | omega) (by first | with_reducible assumption | omega) ((hQ435.at g_739_45 rfl).trans ((hQ398.at g_739_45 rfl).trans ((hQ296.at g_739_45 rfl).trans ((hQ263.at g_739_45 rfl).trans ex739_45)))) (by first | with_reducible assumption | omega) (by first | with_reducible assumption | omega)) (cqV ?_)
                    rintro M482 ⟨hP483, hQ484, h486, h487, xh488⟩
                    have hF485 : Fr fm_n8047_739 M0 M482 := hF436.tr hQ484 rfl
                    obtain ⟨v489, e490⟩ : ∃ v, M482 739 45 = v := ⟨_, rfl⟩
                    have h491 := (bf_739_45 hP483).1; rw [e490] at h491
                    have h492 := (bf_739_45 hP483).2; rw [e490] at h492
                    have pr493 : GE M482 s0 u0 1 0 := GE_atom xh488 pr481 (fun q => by rw [gk] at q; exact ⟨by omega, by unfold refok; omega, by omega, by omega⟩)
                    have pr494 : OWe M482 ((OW M0).1 ++ [5 + 16 * v314 + 2048 * v453], (OW M0).2) := OWe_c (OWe_put (OWe_sm (Sm.fr hQ435 rfl) (OWe_sm (Sm.fr hQ398 rfl) (OWe_sm (Sm.fr hQ296 rfl) (OWe_sm (Sm.fr hQ263 rfl) (OWe_rf M0))))) xh488 (bf_739_45 hP434).1) (by show ((OW M0).1 ++ [_], (OW M0).2) = ((OW M0).1 ++ [_], (OW M0).2); congr 3 <;> omega)
                    refine wk_goto r47_154 ?_
                    subst hQ; exact wk_ret r47_235 (⟨rfl, hP483, hF485, by have := ((hQ484.at g_739_30 rfl).trans ((hQ435.at g_739_30 rfl).trans ((hQ398.at g_739_30 rfl).trans ((hQ296.at g_739_30 rfl).trans ((hQ263.at g_739_30 rfl).trans ex739_30))))); have := ((hQ484.at g_739_31 rfl).trans e458); omega, by have := ((hQ484.at g_739_31 rfl).trans e458); have := ((hQ484.at g_739_33 rfl).trans e462); have := ((hQ484.at g_739_34 rfl).trans e466); omega, by have := ((hQ484.at g_739_31 rfl).trans e458); have := ((hQ484.at g_739_33 rfl).trans e462); have := ((hQ484.at g_739_34 rfl).trans e466); omega, by have := ((hQ484.at g_739_34 rfl).trans e466); have := ((hQ484.at g_739_32 rfl).trans e470); omega, by have := ((hQ484.at g_739_33 rfl).trans e462); omega, by have := ((hQ484.at g_739_28 rfl).trans e474); omega, by have := ((hQ484.at g_739_33 rfl).trans e462); have := ((hQ484.at g_739_47 rfl).trans ((hQ435.at g_739_47 rfl).trans ((hQ398.at g_739_47 rfl).trans ((hQ296.at g_739_47 rfl).trans ((hQ263.at g_739_47 rfl).trans ex739_47))))); have := e490; have := ((hQ484.at g_739_46 rfl).trans ((hQ435.at g_739_46 rfl).trans ((hQ398.at g_739_46 rfl).trans ((hQ296.at g_739_46 rfl).trans ((hQ263.at g_739_46 rfl).trans ex739_46))))); have := ((hQ484.at g_739_28 rfl).trans e474); omega, by have := e490; have := ((hQ484.at g_739_46 rfl).trans ((hQ435.at g_739_46 rfl).trans ((hQ398.at g_739_46 rfl).trans ((hQ296.at g_739_46 rfl).trans ((hQ263.at g_739_46 rfl).trans ex739_46))))); omega, by have := ((hQ484.at g_739_47 rfl).trans ((hQ435.at g_739_47 rfl).trans ((hQ398.at g_739_47 rfl).trans ((hQ296.at g_739_47 rfl).trans ((hQ263.at g_739_47 rfl).trans ex739_47))))); have := ((hQ484.at g_739_28 rfl).trans e474); omega, by have := ((hQ484.at g_739_29 rfl).trans e478); omega, by have := ((hQ484.at g_739_29 rfl).trans e478); have := ((hQ484.at g_739_28 rfl).trans e474); omega, by have := ((hQ484.at g_739_29 rfl).trans e478); have := ((hQ484.at g_739_28 rfl).trans e474); omega, by rw [((hQ484.at g_739_47 rfl).trans ((hQ435.at g_739_47 rfl).trans ((hQ398.at g_739_47 rfl).trans ((hQ296.at g_739_47 rfl).trans ((hQ263.at g_739_47 rfl).trans ex739_47))))), ((hQ484.at g_739_33 rfl).trans e462), ((hQ484.at g_739_28 rfl).trans e474), ((hQ484.at g_739_29 rfl).trans e478)]; exact a235mx (v1 := v279) (v2 := v322) (v3 := v414) (kk := v314) (kv := v453) (ac := 5) xp1 xp3 xp4 (by omega) (by omega) (by omega) (by omega) (by omega) (by omega) (actS_of hsg9 (by omega) (by omega)) (by omega) (by rcases xh449 with q9 | q9 | q9; (exact Or.inl ⟨by omega, by omega, by omega, by omega⟩); (exact Or.inr ⟨by omega, by omega, by omega⟩); (omega)) pr494, (TK_sm (Sm.fr hQ484 rfl) pr450), pr493, (TXQ_sm (Sm.fr hQ484 rfl) pr451), (TTP_sm (Sm.fr hQ484 rfl) pr452)⟩)
                · intro h495
                  exfalso
                  omega
              · intro h496
                clear h375 h376 h377
                refine wk_al0 r47_84 (wk_c2 r47_85 (wk_cv2 r47_87 kc_739_88 rfl (n8088_739 _ M294 61 v330 v343 x739_30 v322 T hP295 (by decide) (by decide) e331 (by first | with_reducible assumption | omega) (by first | with_reducible assumption | omega) e344 (by first | with_reducible assumption | omega) (by first | with_reducible assumption | omega) ((hQ296.at g_739_30 rfl).trans ((hQ263.at g_739_30 rfl).trans ex739_30)) (by first | with_reducible assumption | omega) (by first | with_reducible assumption | omega) e323 (by first | with_reducible assumption | omega) (by first | with_reducible assumption | omega) pr313) (cqI ?_)))
                rintro v505 M497 ⟨hP498, hQ499, h506, h507, h501, h502, h503, xh504⟩
                obtain rfl := Fr.same hQ499
                have e508 := e331
                have e509 := e344
                refine wk_ifne r47_90 ⟨by omega, by omega⟩ ?_ ?_
                · intro h510
                  replace h501 := h501 (z1_of h506 h507 h510)
                  replace h502 := h502 (z1_of h506 h507 h510)
                  replace h503 := h503 (z1_of h506 h507 h510)
                  refine wk_al0 r47_107 (wk_cv1 r47_108 kc_739_84 rfl (n8084_739 _ M294 v334 hP295 e335 (by first | with_reducible assumption | omega) (by first | with_reducible assumption | omega)) (cqI ?_))
                  rintro v517 M511 ⟨hP512, hQ513, h518, h519, h515, h516⟩
                  obtain rfl := Fr.same hQ513
                  have e520 := e335
                  refine wk_ifne r47_111 ⟨by omega, by omega⟩ ?_ ?_
                  · intro h521
                    refine wk_al0 r47_115 (wk_cv1 r47_116 kc_739_76 rfl (n8076_739 _ M294 x739_30 v318 T hP295 ((hQ296.at g_739_30 rfl).trans ((hQ263.at g_739_30 rfl).trans ex739_30)) (by first | with_reducible assumption | omega) (by first | with_reducible assumption | omega) e319 (by first | with_reducible assumption | omega) (by first | with_reducible assumption | omega) (by omega) pr312) (cqV ?_))
                    rintro M522 ⟨hP523, hQ524, h526, h527, h528, h529, h530, xh531, pr532, pr533, pr534⟩
                    have hF525 : Fr fm_n8047_739 M0 M522 := hF297.tr hQ524 rfl
                    have e535 := ((hQ524.at g_739_30 rfl).trans ((hQ296.at g_739_30 rfl).trans ((hQ263.at g_739_30 rfl).trans ex739_30)))
                    obtain ⟨v536, e537⟩ : ∃ v, M522 739 31 = v := ⟨_, rfl⟩
                    have h538 := (bf_739_31 hP523).1; rw [e537] at h538
                    have h539 := (bf_739_31 hP523).2; rw [e537] at h539
                    obtain ⟨v540, e541⟩ : ∃ v, M522 739 33 = v := ⟨_, rfl⟩
                    have h542 := (bf_739_33 hP523).1; rw [e541] at h542
                    have h543 := (bf_739_33 hP523).2; rw [e541] at h543
                    obtain ⟨v544, e545⟩ : ∃ v, M522 739 34 = v := ⟨_, rfl⟩
                    have h546 := (bf_739_34 hP523).1; rw [e545] at h546
                    have h547 := (bf_739_34 hP523).2; rw [e545] at h547
                    obtain ⟨v548, e549⟩ : ∃ v, M522 739 32 = v := ⟨_, rfl⟩
                    have h550 := (bf_739_32 hP523).1; rw [e549] at h550
                    have h551 := (bf_739_32 hP523).2; rw [e549] at h551
                    have hn552 := nx_ofm pr313 ((hQ296.at g_739_30 rfl).trans ((hQ263.at g_739_30 rfl).trans ex739_30)) e323 e319 xh531
                    refine wk_al0 r47_119 (wk_il3 r47_120 (wk_c2 r47_121 ?_))
                    refine wk_icne r47_123 ⟨by omega, by omega⟩ (by decide) ?_ ?_
                    · intro h553
                      refine wk_il3 r47_130 (wk_c2 r47_131 ?_)
                      refine wk_icne r47_133 ⟨by omega, by omega⟩ (by decide) ?_ ?_
                      · intro h554
                        exfalso
                        omega
                      · intro h555
                        refine wk_c2 r47_136 (wk_goto r47_138 ?_)
                        refine wk_il2 r47_143 (wk_al0 r47_144 (wk_c1 r47_145 (wk_c2 r47_146 ?_)))
                        obtain ⟨v556, e557⟩ : ∃ v, M522 739 35 = v := ⟨_, rfl⟩
                        have h558 := (bf_739_35 hP523).1; rw [e557] at h558
                        have h559 := (bf_739_35 hP523).2; rw [e557] at h559
                        refine wk_cv3 r47_148 kc_739_114 rfl (n8114_739 _ M522 0 99 x739_30 v536 v540 v544 v548 v334 v556 v338 T hP523 (by decide) (by decide) (by decide) (by decide) ((hQ524.at g_739_30 rfl).trans ((hQ296.at g_739_30 rfl).trans ((hQ263.at g_739_30 rfl).trans ex739_30))) (by first | with_reducible assumption | omega) (by first | with_reducible assumption | omega) e537 (by first | with_reducible assumption | omega) (by first | with_reducible assumption | omega) e541 (by first | with_reducible assumption | omega) (by first | with_reducible assumption | omega) e545 (by first | with_reducible assumption | omega) (by first | with_reducible assumption | omega) e549 (by first | with_reducible assumption | omega) (by first | with_reducible assumption | omega) ((hQ524.at g_739_28 rfl).trans e335) (by first | with_reducible assumption | omega) (by first | with_reducible assumption | omega) e557 (by first | with_reducible assumption | omega) (by first | with_reducible assumption | omega) ((hQ524.at g_739_29 rfl).trans e339) (by first | with_reducible assumption | omega) (by first | with_reducible assumption | omega) (by omega) (by omega) (by omega) (by omega) pr532 pr533 pr534) (cqI ?_)
                        rintro v580 M560 ⟨hP561, hQ562, h581, h582, h564, h565, h566, h567, h568, h569, h570, h571, h572, h573, h574, h575, xh576, pr577, pr578, pr579⟩
                        have hF563 : Fr fm_n8047_739 M0 M560 := hF525.tr hQ562 rfl
                        have e583 := ((hQ562.at g_739_30 rfl).trans ((hQ524.at g_739_30 rfl).trans ((hQ296.at g_739_30 rfl).trans ((hQ263.at g_739_30 rfl).trans ex739_30))))
                        obtain ⟨v584, e585⟩ : ∃ v, M560 739 31 = v := ⟨_, rfl⟩
                        have h586 := (bf_739_31 hP561).1; rw [e585] at h586
                        have h587 := (bf_739_31 hP561).2; rw [e585] at h587
                        obtain ⟨v588, e589⟩ : ∃ v, M560 739 33 = v := ⟨_, rfl⟩
                        have h590 := (bf_739_33 hP561).1; rw [e589] at h590
                        have h591 := (bf_739_33 hP561).2; rw [e589] at h591
                        obtain ⟨v592, e593⟩ : ∃ v, M560 739 34 = v := ⟨_, rfl⟩
                        have h594 := (bf_739_34 hP561).1; rw [e593] at h594
                        have h595 := (bf_739_34 hP561).2; rw [e593] at h595
                        obtain ⟨v596, e597⟩ : ∃ v, M560 739 32 = v := ⟨_, rfl⟩
                        have h598 := (bf_739_32 hP561).1; rw [e597] at h598
                        have h599 := (bf_739_32 hP561).2; rw [e597] at h599
                        obtain ⟨v600, e601⟩ : ∃ v, M560 739 28 = v := ⟨_, rfl⟩
                        have h602 := (bf_739_28 hP561).1; rw [e601] at h602
                        have h603 := (bf_739_28 hP561).2; rw [e601] at h603
                        obtain ⟨v604, e605⟩ : ∃ v, M560 739 29 = v := ⟨_, rfl⟩
                        have h606 := (bf_739_29 hP561).1; rw [e605] at h606
                        have h607 := (bf_739_29 hP561).2; rw [e605] at h607
                        have pr608 : GE M560 s0 u0 0 0 := GE_mn (Sm.fr hQ562 rfl) (fun q => by have := ((hQ524.at g_739_28 rfl).trans e335); have := e601; omega) (GE_sm (Sm.fr hQ524 rfl) pr342)
                        have gk : M560 739 28 = v600 := e601
                        refine wk_cv4 r47_151 kc_739_117 rfl (n8117_739 _ M560 6 v314 v580 x739_45 hP561 (by decide) (by decide) (by first | with_reducible assumption | omega) (by first | with_reducible assumption | omega) (by first | with_reducible assumption | omega) (by first | with_reducible assumption | omega) ((hQ562.at g_739_45 rfl).trans ((hQ524.at g_739_45 rfl).trans ((hQ296.at g_739_45 rfl).trans ((hQ263.at g_739_45 rfl).trans ex739_45)))) (by first | with_reducible assumption | omega) (by first | with_reducible assumption | omega)) (cqV ?_)
                        rintro M609 ⟨hP610, hQ611, h613, h614, xh615⟩
                        have hF612 : Fr fm_n8047_739 M0 M609 := hF563.tr hQ611 rfl
                        obtain ⟨v616, e617⟩ : ∃ v, M609 739 45 = v := ⟨_, rfl⟩
                        have h618 := (bf_739_45 hP610).1; rw [e617] at h618
                        have h619 := (bf_739_45 hP610).2; rw [e617] at h619
                        have pr620 : GE M609 s0 u0 1 0 := GE_atom xh615 pr608 (fun q => by rw [gk] at q; exact ⟨by omega, by unfold refok; omega, by omega, by omega⟩)
                        have pr621 : OWe M609 ((OW M0).1 ++ [6 + 16 * v314 + 2048 * v580], (OW M0).2) := OWe_c (OWe_put (OWe_sm (Sm.fr hQ562 rfl) (OWe_sm (Sm.fr hQ524 rfl) (OWe_sm (Sm.fr hQ296 rfl) (OWe_sm (Sm.fr hQ263 rfl) (OWe_rf M0))))) xh615 (bf_739_45 hP561).1) (by show ((OW M0).1 ++ [_], (OW M0).2) = ((OW M0).1 ++ [_], (OW M0).2); congr 3 <;> omega)
                        refine wk_goto r47_154 ?_
                        subst hQ; exact wk_ret r47_235 (⟨rfl, hP610, hF612, by have := ((hQ611.at g_739_30 rfl).trans ((hQ562.at g_739_30 rfl).trans ((hQ524.at g_739_30 rfl).trans ((hQ296.at g_739_30 rfl).trans ((hQ263.at g_739_30 rfl).trans ex739_30))))); have := ((hQ611.at g_739_31 rfl).trans e585); omega, by have := ((hQ611.at g_739_31 rfl).trans e585); have := ((hQ611.at g_739_33 rfl).trans e589); have := ((hQ611.at g_739_34 rfl).trans e593); omega, by have := ((hQ611.at g_739_31 rfl).trans e585); have := ((hQ611.at g_739_33 rfl).trans e589); have := ((hQ611.at g_739_34 rfl).trans e593); omega, by have := ((hQ611.at g_739_34 rfl).trans e593); have := ((hQ611.at g_739_32 rfl).trans e597); omega, by have := ((hQ611.at g_739_33 rfl).trans e589); omega, by have := ((hQ611.at g_739_28 rfl).trans e601); omega, by have := ((hQ611.at g_739_33 rfl).trans e589); have := ((hQ611.at g_739_47 rfl).trans ((hQ562.at g_739_47 rfl).trans ((hQ524.at g_739_47 rfl).trans ((hQ296.at g_739_47 rfl).trans ((hQ263.at g_739_47 rfl).trans ex739_47))))); have := e617; have := ((hQ611.at g_739_46 rfl).trans ((hQ562.at g_739_46 rfl).trans ((hQ524.at g_739_46 rfl).trans ((hQ296.at g_739_46 rfl).trans ((hQ263.at g_739_46 rfl).trans ex739_46))))); have := ((hQ611.at g_739_28 rfl).trans e601); omega, by have := e617; have := ((hQ611.at g_739_46 rfl).trans ((hQ562.at g_739_46 rfl).trans ((hQ524.at g_739_46 rfl).trans ((hQ296.at g_739_46 rfl).trans ((hQ263.at g_739_46 rfl).trans ex739_46))))); omega, by have := ((hQ611.at g_739_47 rfl).trans ((hQ562.at g_739_47 rfl).trans ((hQ524.at g_739_47 rfl).trans ((hQ296.at g_739_47 rfl).trans ((hQ263.at g_739_47 rfl).trans ex739_47))))); have := ((hQ611.at g_739_28 rfl).trans e601); omega, by have := ((hQ611.at g_739_29 rfl).trans e605); omega, by have := ((hQ611.at g_739_29 rfl).trans e605); have := ((hQ611.at g_739_28 rfl).trans e601); omega, by have := ((hQ611.at g_739_29 rfl).trans e605); have := ((hQ611.at g_739_28 rfl).trans e601); omega, by rw [((hQ611.at g_739_47 rfl).trans ((hQ562.at g_739_47 rfl).trans ((hQ524.at g_739_47 rfl).trans ((hQ296.at g_739_47 rfl).trans ((hQ263.at g_739_47 rfl).trans ex739_47))))), ((hQ611.at g_739_33 rfl).trans e589), ((hQ611.at g_739_28 rfl).trans e601), ((hQ611.at g_739_29 rfl).trans e605)]; exact a235mx (v1 := v279) (v2 := v322) (v3 := v540) (kk := v314) (kv := v580) (ac := 6) xp1 xp3 xp4 (by omega) (by omega) (by omega) (by omega) (by omega) (by omega) (actS_of hsg9 (by omega) (by omega)) (by omega) (by rcases xh576 with q9 | q9 | q9; (exact Or.inl ⟨by omega, by omega, by omega, by omega⟩); (exact Or.inr ⟨by omega, by omega, by omega⟩); (omega)) pr621, (TK_sm (Sm.fr hQ611 rfl) pr577), pr620, (TXQ_sm (Sm.fr hQ611 rfl) pr578), (TTP_sm (Sm.fr hQ611 rfl) pr579)⟩)
                    · intro h622
                      exfalso
                      omega
                  · intro h623
                    exfalso
                    omega
                · intro h624
                  clear h501 h502 h503
                  refine wk_al0 r47_93 (wk_c2 r47_94 (wk_cv2 r47_96 kc_739_88 rfl (n8088_739 _ M294 62 v330 v343 x739_30 v322 T hP295 (by decide) (by decide) e331 (by first | with_reducible assumption | omega) (by first | with_reducible assumption | omega) e344 (by first | with_reducible assumption | omega) (by first | with_reducible assumption | omega) ((hQ296.at g_739_30 rfl).trans ((hQ263.at g_739_30 rfl).trans ex739_30)) (by first | with_reducible assumption | omega) (by first | with_reducible assumption | omega) e323 (by first | with_reducible assumption | omega) (by first | with_reducible assumption | omega) pr313) (cqI ?_)))
                  rintro v633 M625 ⟨hP626, hQ627, h634, h635, h629, h630, h631, xh632⟩
                  obtain rfl := Fr.same hQ627
                  have e636 := e331
                  have e637 := e344
                  refine wk_ifne r47_99 ⟨by omega, by omega⟩ ?_ ?_
                  · intro h638
                    replace h629 := h629 (z1_of h634 h635 h638)
                    replace h630 := h630 (z1_of h634 h635 h638)
                    replace h631 := h631 (z1_of h634 h635 h638)
                    refine wk_al0 r47_107 (wk_cv1 r47_108 kc_739_84 rfl (n8084_739 _ M294 v334 hP295 e335 (by first | with_reducible assumption | omega) (by first | with_reducible assumption | omega)) (cqI ?_))
                    rintro v645 M639 ⟨hP640, hQ641, h646, h647, h643, h644⟩
                    obtain rfl := Fr.same hQ641
                    have e648 := e335
                    refine wk_ifne r47_111 ⟨by omega, by omega⟩ ?_ ?_
                    · intro h649
                      refine wk_al0 r47_115 (wk_cv1 r47_116 kc_739_76 rfl (n8076_739 _ M294 x739_30 v318 T hP295 ((hQ296.at g_739_30 rfl).trans ((hQ263.at g_739_30 rfl).trans ex739_30)) (by first | with_reducible assumption | omega) (by first | with_reducible assumption | omega) e319 (by first | with_reducible assumption | omega) (by first | with_reducible assumption | omega) (by omega) pr312) (cqV ?_))
                      rintro M650 ⟨hP651, hQ652, h654, h655, h656, h657, h658, xh659, pr660, pr661, pr662⟩
                      have hF653 : Fr fm_n8047_739 M0 M650 := hF297.tr hQ652 rfl
                      have e663 := ((hQ652.at g_739_30 rfl).trans ((hQ296.at g_739_30 rfl).trans ((hQ263.at g_739_30 rfl).trans ex739_30)))
                      obtain ⟨v664, e665⟩ : ∃ v, M650 739 31 = v := ⟨_, rfl⟩
                      have h666 := (bf_739_31 hP651).1; rw [e665] at h666
                      have h667 := (bf_739_31 hP651).2; rw [e665] at h667
                      obtain ⟨v668, e669⟩ : ∃ v, M650 739 33 = v := ⟨_, rfl⟩
                      have h670 := (bf_739_33 hP651).1; rw [e669] at h670
                      have h671 := (bf_739_33 hP651).2; rw [e669] at h671
                      obtain ⟨v672, e673⟩ : ∃ v, M650 739 34 = v := ⟨_, rfl⟩
                      have h674 := (bf_739_34 hP651).1; rw [e673] at h674
                      have h675 := (bf_739_34 hP651).2; rw [e673] at h675
                      obtain ⟨v676, e677⟩ : ∃ v, M650 739 32 = v := ⟨_, rfl⟩
                      have h678 := (bf_739_32 hP651).1; rw [e677] at h678
                      have h679 := (bf_739_32 hP651).2; rw [e677] at h679
                      have hn680 := nx_ofm pr313 ((hQ296.at g_739_30 rfl).trans ((hQ263.at g_739_30 rfl).trans ex739_30)) e323 e319 xh659
                      refine wk_al0 r47_119 (wk_il3 r47_120 (wk_c2 r47_121 ?_))
                      refine wk_icne r47_123 ⟨by omega, by omega⟩ (by decide) ?_ ?_
                      · intro h681
                        refine wk_il3 r47_130 (wk_c2 r47_131 ?_)
                        refine wk_icne r47_133 ⟨by omega, by omega⟩ (by decide) ?_ ?_
                        · intro h682
                          refine wk_c2 r47_141 ?_
                          refine wk_il2 r47_143 (wk_al0 r47_144 (wk_c1 r47_145 (wk_c2 r47_146 ?_)))
                          obtain ⟨v683, e684⟩ : ∃ v, M650 739 35 = v := ⟨_, rfl⟩
                          have h685 := (bf_739_35 hP651).1; rw [e684] at h685
                          have h686 := (bf_739_35 hP651).2; rw [e684] at h686
                          refine wk_cv3 r47_148 kc_739_114 rfl (n8114_739 _ M650 0 99 x739_30 v664 v668 v672 v676 v334 v683 v338 T hP651 (by decide) (by decide) (by decide) (by decide) ((hQ652.at g_739_30 rfl).trans ((hQ296.at g_739_30 rfl).trans ((hQ263.at g_739_30 rfl).trans ex739_30))) (by first | with_reducible assumption | omega) (by first | with_reducible assumption | omega) e665 (by first | with_reducible assumption | omega) (by first | with_reducible assumption | omega) e669 (by first | with_reducible assumption | omega) (by first | with_reducible assumption | omega) e673 (by first | with_reducible assumption | omega) (by first | with_reducible assumption | omega) e677 (by first | with_reducible assumption | omega) (by first | with_reducible assumption | omega) ((hQ652.at g_739_28 rfl).trans e335) (by first | with_reducible assumption | omega) (by first | with_reducible assumption | omega) e684 (by first | with_reducible assumption | omega) (by first | with_reducible assumption | omega) ((hQ652.at g_739_29 rfl).trans e339) (by first | with_reducible assumption | omega) (by first | with_reducible assumption | omega) (by omega) (by omega) (by omega) (by omega) pr660 pr661 pr662) (cqI ?_)
                          rintro v707 M687 ⟨hP688, hQ689, h708, h709, h691, h692, h693, h694, h695, h696, h697, h698, h699, h700, h701, h702, xh703, pr704, pr705, pr706⟩
                          have hF690 : Fr fm_n8047_739 M0 M687 := hF653.tr hQ689 rfl
                          have e710 := ((hQ689.at g_739_30 rfl).trans ((hQ652.at g_739_30 rfl).trans ((hQ296.at g_739_30 rfl).trans ((hQ263.at g_739_30 rfl).trans ex739_30))))
                          obtain ⟨v711, e712⟩ : ∃ v, M687 739 31 = v := ⟨_, rfl⟩
                          have h713 := (bf_739_31 hP688).1; rw [e712] at h713
                          have h714 := (bf_739_31 hP688).2; rw [e712] at h714
                          obtain ⟨v715, e716⟩ : ∃ v, M687 739 33 = v := ⟨_, rfl⟩
                          have h717 := (bf_739_33 hP688).1; rw [e716] at h717
                          have h718 := (bf_739_33 hP688).2; rw [e716] at h718
                          obtain ⟨v719, e720⟩ : ∃ v, M687 739 34 = v := ⟨_, rfl⟩
                          have h721 := (bf_739_34 hP688).1; rw [e720] at h721
                          have h722 := (bf_739_34 hP688).2; rw [e720] at h722
                          obtain ⟨v723, e724⟩ : ∃ v, M687 739 32 = v := ⟨_, rfl⟩
                          have h725 := (bf_739_32 hP688).1; rw [e724] at h725
                          have h726 := (bf_739_32 hP688).2; rw [e724] at h726
                          obtain ⟨v727, e728⟩ : ∃ v, M687 739 28 = v := ⟨_, rfl⟩
                          have h729 := (bf_739_28 hP688).1; rw [e728] at h729
                          have h730 := (bf_739_28 hP688).2; rw [e728] at h730
                          obtain ⟨v731, e732⟩ : ∃ v, M687 739 29 = v := ⟨_, rfl⟩
                          have h733 := (bf_739_29 hP688).1; rw [e732] at h733
                          have h734 := (bf_739_29 hP688).2; rw [e732] at h734
                          have pr735 : GE M687 s0 u0 0 0 := GE_mn (Sm.fr hQ689 rfl) (fun q => by have := ((hQ652.at g_739_28 rfl).trans e335); have := e728; omega) (GE_sm (Sm.fr hQ652 rfl) pr342)
                          have gk : M687 739 28 = v727 := e728
                          refine wk_cv4 r47_151 kc_739_117 rfl (n8117_739 _ M687 7 v314 v707 x739_45 hP688 (by decide) (by decide) (by first | with_reducible assumption | omega) (by first | with_reducible assumption | omega) (by first | with_reducible assumption | omega) (by first | with_reducible assumption | omega) ((hQ689.at g_739_45 rfl).trans ((hQ652.at g_739_45 rfl).trans ((hQ296.at g_739_45 rfl).trans ((hQ263.at g_739_45 rfl).trans ex739_45)))) (by first | with_reducible assumption | omega) (by first | with_reducible assumption | omega)) (cqV ?_)
                          rintro M736 ⟨hP737, hQ738, h740, h741, xh742⟩
                          have hF739 : Fr fm_n8047_739 M0 M736 := hF690.tr hQ738 rfl
                          obtain ⟨v743, e744⟩ : ∃ v, M736 739 45 = v := ⟨_, rfl⟩
                          have h745 := (bf_739_45 hP737).1; rw [e744] at h745
                          have h746 := (bf_739_45 hP737).2; rw [e744] at h746
                          have pr747 : GE M736 s0 u0 1 0 := GE_atom xh742 pr735 (fun q => by rw [gk] at q; exact ⟨by omega, by unfold refok; omega, by omega, by omega⟩)
                          have pr748 : OWe M736 ((OW M0).1 ++ [7 + 16 * v314 + 2048 * v707], (OW M0).2) := OWe_c (OWe_put (OWe_sm (Sm.fr hQ689 rfl) (OWe_sm (Sm.fr hQ652 rfl) (OWe_sm (Sm.fr hQ296 rfl) (OWe_sm (Sm.fr hQ263 rfl) (OWe_rf M0))))) xh742 (bf_739_45 hP688).1) (by show ((OW M0).1 ++ [_], (OW M0).2) = ((OW M0).1 ++ [_], (OW M0).2); congr 3 <;> omega)
                          refine wk_goto r47_154 ?_
                          subst hQ; exact wk_ret r47_235 (⟨rfl, hP737, hF739, by have := ((hQ738.at g_739_30 rfl).trans ((hQ689.at g_739_30 rfl).trans ((hQ652.at g_739_30 rfl).trans ((hQ296.at g_739_30 rfl).trans ((hQ263.at g_739_30 rfl).trans ex739_30))))); have := ((hQ738.at g_739_31 rfl).trans e712); omega, by have := ((hQ738.at g_739_31 rfl).trans e712); have := ((hQ738.at g_739_33 rfl).trans e716); have := ((hQ738.at g_739_34 rfl).trans e720); omega, by have := ((hQ738.at g_739_31 rfl).trans e712); have := ((hQ738.at g_739_33 rfl).trans e716); have := ((hQ738.at g_739_34 rfl).trans e720); omega, by have := ((hQ738.at g_739_34 rfl).trans e720); have := ((hQ738.at g_739_32 rfl).trans e724); omega, by have := ((hQ738.at g_739_33 rfl).trans e716); omega, by have := ((hQ738.at g_739_28 rfl).trans e728); omega, by have := ((hQ738.at g_739_33 rfl).trans e716); have := ((hQ738.at g_739_47 rfl).trans ((hQ689.at g_739_47 rfl).trans ((hQ652.at g_739_47 rfl).trans ((hQ296.at g_739_47 rfl).trans ((hQ263.at g_739_47 rfl).trans ex739_47))))); have := e744; have := ((hQ738.at g_739_46 rfl).trans ((hQ689.at g_739_46 rfl).trans ((hQ652.at g_739_46 rfl).trans ((hQ296.at g_739_46 rfl).trans ((hQ263.at g_739_46 rfl).trans ex739_46))))); have := ((hQ738.at g_739_28 rfl).trans e728); omega, by have := e744; have := ((hQ738.at g_739_46 rfl).trans ((hQ689.at g_739_46 rfl).trans ((hQ652.at g_739_46 rfl).trans ((hQ296.at g_739_46 rfl).trans ((hQ263.at g_739_46 rfl).trans ex739_46))))); omega, by have := ((hQ738.at g_739_47 rfl).trans ((hQ689.at g_739_47 rfl).trans ((hQ652.at g_739_47 rfl).trans ((hQ296.at g_739_47 rfl).trans ((hQ263.at g_739_47 rfl).trans ex739_47))))); have := ((hQ738.at g_739_28 rfl).trans e728); omega, by have := ((hQ738.at g_739_29 rfl).trans e732); omega, by have := ((hQ738.at g_739_29 rfl).trans e732); have := ((hQ738.at g_739_28 rfl).trans e728); omega, by have := ((hQ738.at g_739_29 rfl).trans e732); have := ((hQ738.at g_739_28 rfl).trans e728); omega, by rw [((hQ738.at g_739_47 rfl).trans ((hQ689.at g_739_47 rfl).trans ((hQ652.at g_739_47 rfl).trans ((hQ296.at g_739_47 rfl).trans ((hQ263.at g_739_47 rfl).trans ex739_47))))), ((hQ738.at g_739_33 rfl).trans e716), ((hQ738.at g_739_28 rfl).trans e728), ((hQ738.at g_739_29 rfl).trans e732)]; exact a235mx (v1 := v279) (v2 := v322) (v3 := v668) (kk := v314) (kv := v707) (ac := 7) xp1 xp3 xp4 (by omega) (by omega) (by omega) (by omega) (by omega) (by omega) (actS_of hsg9 (by omega) (by omega)) (by omega) (by rcases xh703 with q9 | q9 | q9; (exact Or.inl ⟨by omega, by omega, by omega, by omega⟩); (exact Or.inr ⟨by omega, by omega, by omega⟩); (omega)) pr748, (TK_sm (Sm.fr hQ738 rfl) pr704), pr747, (TXQ_sm (Sm.fr hQ738 rfl) pr705), (TTP_sm (Sm.fr hQ738 rfl) pr706)⟩)
                        · intro h749
                          exfalso
                          omega
                      · intro h750
                        exfalso
                        omega
                    · intro h751
                      exfalso
                      omega
                  · intro h752
                    clear h629 h630 h631
                    refine wk_al0 r47_102 (wk_c1 r47_103 (wk_cv2 r47_104 kc_739_137 rfl (n8137_739 _ M294 1 v334 v322 v338 hP295 (by decide) (by decide) e335 (by first | with_reducible assumption | omega) (by first | with_reducible assumption | omega) e323 (by first | with_reducible assumption | omega) (by first | with_reducible assumption | omega) e339 (by first | with_reducible assumption | omega) (by first | with_reducible assumption | omega)) (cqV ?_)))
                    rintro M753 ⟨hP754, hQ755, h757, h758, h759, h760, h761, xh762⟩
                    have hF756 : Fr fm_n8047_739 M0 M753 := hF297.tr hQ755 rfl
                    obtain ⟨v763, e764⟩ : ∃ v, M753 739 28 = v := ⟨_, rfl⟩
                    have h765 := (bf_739_28 hP754).1; rw [e764] at h765
                    have h766 := (bf_739_28 hP754).2; rw [e764] at h766
                    obtain ⟨v767, e768⟩ : ∃ v, M753 739 29 = v := ⟨_, rfl⟩
                    have h769 := (bf_739_29 hP754).1; rw [e768] at h769
                    have h770 := (bf_739_29 hP754).2; rw [e768] at h770
                    have pr771 : GE M753 s0 u0 0 0 := GE_mn (Sm.fr hQ755 rfl) (fun q => by have := e335; have := e764; omega) pr342
                    refine wk_al0 r47_107 (wk_cv1 r47_108 kc_739_84 rfl (n8084_739 _ M753 v763 hP754 e764 (by first | with_reducible assumption | omega) (by first | with_reducible assumption | omega)) (cqI ?_))
                    rintro v778 M772 ⟨hP773, hQ774, h779, h780, h776, h777⟩
                    obtain rfl := Fr.same hQ774
                    have e781 := e764
                    refine wk_ifne r47_111 ⟨by omega, by omega⟩ ?_ ?_
                    · intro h782
                      exfalso
                      omega
                    · intro h783
                      subst hQ; exact wk_ret r47_114 (⟨rfl, hP754, hF756, by have := ((hQ755.at g_739_30 rfl).trans ((hQ296.at g_739_30 rfl).trans ((hQ263.at g_739_30 rfl).trans ex739_30))); have := ((hQ755.at g_739_31 rfl).trans e319); omega, by have := ((hQ755.at g_739_31 rfl).trans e319); have := ((hQ755.at g_739_33 rfl).trans e323); have := ((hQ755.at g_739_34 rfl).trans e327); omega, by have := ((hQ755.at g_739_31 rfl).trans e319); have := ((hQ755.at g_739_33 rfl).trans e323); have := ((hQ755.at g_739_34 rfl).trans e327); omega, by have := ((hQ755.at g_739_34 rfl).trans e327); have := ((hQ755.at g_739_32 rfl).trans e331); omega, by have := ((hQ755.at g_739_33 rfl).trans e323); omega, by have := e764; omega, by have := ((hQ755.at g_739_33 rfl).trans e323); have := ((hQ755.at g_739_47 rfl).trans ((hQ296.at g_739_47 rfl).trans ((hQ263.at g_739_47 rfl).trans ex739_47))); have := ((hQ755.at g_739_45 rfl).trans ((hQ296.at g_739_45 rfl).trans ((hQ263.at g_739_45 rfl).trans ex739_45))); have := ((hQ755.at g_739_46 rfl).trans ((hQ296.at g_739_46 rfl).trans ((hQ263.at g_739_46 rfl).trans ex739_46))); have := e764; omega, by have := ((hQ755.at g_739_45 rfl).trans ((hQ296.at g_739_45 rfl).trans ((hQ263.at g_739_45 rfl).trans ex739_45))); have := ((hQ755.at g_739_46 rfl).trans ((hQ296.at g_739_46 rfl).trans ((hQ263.at g_739_46 rfl).trans ex739_46))); omega, by have := ((hQ755.at g_739_47 rfl).trans ((hQ296.at g_739_47 rfl).trans ((hQ263.at g_739_47 rfl).trans ex739_47))); have := e764; omega, by have := e768; omega, by have := e768; have := e764; omega, by have := e768; have := e764; omega, by rw [((hQ755.at g_739_47 rfl).trans ((hQ296.at g_739_47 rfl).trans ((hQ263.at g_739_47 rfl).trans ex739_47))), ((hQ755.at g_739_33 rfl).trans e323), e764, e768]; exact RGX_f (a114 (v2 := v322) r1 (Or.inr ⟨by omega, by omega, by omega, by omega, by omega, by omega, by omega⟩)) (by omega), (TK_sm (Sm.fr hQ755 rfl) pr311), (GE_vac e764 (by omega)), (TXQ_sm (Sm.fr hQ755 rfl) pr312), (TTP_sm (Sm.fr hQ755 rfl) pr313)⟩)
        · intro h784
          subst hQ; exact wk_ret r47_47 (⟨rfl, hP0, hF0, by have := ex739_30; have := ex739_31; omega, by have := ex739_31; have := ex739_33; have := ex739_34; omega, by have := ex739_31; have := ex739_33; have := ex739_34; omega, by have := ex739_34; have := ex739_32; omega, by have := ex739_33; omega, by have := ex739_28; omega, by have := ex739_33; have := ex739_47; have := ex739_45; have := ex739_46; have := ex739_28; omega, by have := ex739_45; have := ex739_46; omega, by have := ex739_47; have := ex739_28; omega, by have := ex739_29; omega, by have := ex739_29; have := ex739_28; omega, by have := ex739_29; have := ex739_28; omega, by rw [ex739_47, ex739_33, ex739_28, ex739_29]; exact RGX_f (a47 xp1.r xp2 xp3 xp4 (by omega) (by omega) (by omega)) (by omega), pp_TK, (GE_vac ex739_28 (by omega)), pp_TQ, pp_TT⟩)
      · intro h785
        refine wk_il1 r47_23 (wk_c2 r47_24 ?_)
        refine wk_iceq r47_26 ⟨by omega, by omega⟩ (by decide) ?_ ?_
        · intro h786
          refine wk_al0 r47_40 (wk_cv1 r47_41 kc_739_84 rfl (n8084_739 _ M0 x739_28 hP0 ex739_28 (by first | with_reducible assumption | omega) (by first | with_reducible assumption | omega)) (cqI ?_))
          rintro v793 M787 ⟨hP788, hQ789, h794, h795, h791, h792⟩
          obtain rfl := Fr.same hQ789
          have e796 := ex739_28
          refine wk_ifne r47_44 ⟨by omega, by omega⟩ ?_ ?_
          · intro h797
            refine wk_al0 r47_48 (wk_cv1 r47_49 kc_739_76 rfl (n8076_739 _ M0 x739_30 x739_31 T hP0 ex739_30 (by first | with_reducible assumption | omega) (by first | with_reducible assumption | omega) ex739_31 (by first | with_reducible assumption | omega) (by first | with_reducible assumption | omega) (by omega) pp_TQ) (cqV ?_))
            rintro M798 ⟨hP799, hQ800, h802, h803, h804, h805, h806, xh807, pr808, pr809, pr810⟩
            have hF801 : Fr fm_n8047_739 M0 M798 := hF0.tr hQ800 rfl
            have e811 := ((hQ800.at g_739_30 rfl).trans ex739_30)
            obtain ⟨v812, e813⟩ : ∃ v, M798 739 31 = v := ⟨_, rfl⟩
            have h814 := (bf_739_31 hP799).1; rw [e813] at h814
            have h815 := (bf_739_31 hP799).2; rw [e813] at h815
            obtain ⟨v816, e817⟩ : ∃ v, M798 739 33 = v := ⟨_, rfl⟩
            have h818 := (bf_739_33 hP799).1; rw [e817] at h818
            have h819 := (bf_739_33 hP799).2; rw [e817] at h819
            obtain ⟨v820, e821⟩ : ∃ v, M798 739 34 = v := ⟨_, rfl⟩
            have h822 := (bf_739_34 hP799).1; rw [e821] at h822
            have h823 := (bf_739_34 hP799).2; rw [e821] at h823
            obtain ⟨v824, e825⟩ : ∃ v, M798 739 32 = v := ⟨_, rfl⟩
            have h826 := (bf_739_32 hP799).1; rw [e825] at h826
            have h827 := (bf_739_32 hP799).2; rw [e825] at h827
            have hn828 := nx_ofm pp_TT ex739_30 ex739_33 ex739_31 xh807
            refine wk_il1 r47_52 (wk_c2 r47_53 ?_)
            refine wk_icne r47_55 ⟨by omega, by omega⟩ (by decide) ?_ ?_
            · intro h829
              refine wk_il1 r47_157 (wk_c2 r47_158 ?_)
              refine wk_icne r47_160 ⟨by omega, by omega⟩ (by decide) ?_ ?_
              · intro h830
                refine wk_il1 r47_167 (wk_c2 r47_168 ?_)
                refine wk_icne r47_170 ⟨by omega, by omega⟩ (by decide) ?_ ?_
                · intro h831
                  refine wk_il1 r47_178 (wk_c2 r47_179 ?_)
                  refine wk_icne r47_181 ⟨by omega, by omega⟩ (by decide) ?_ ?_
                  · intro h832
                    exfalso
                    omega
                  · intro h833
                    refine wk_c1 r47_184 (wk_goto r47_185 (wk_is2 r47_190 rfl (wk_al0 r47_191 (wk_il1 r47_192 (wk_c2 r47_193 ?_)))))
                    refine wk_icne r47_195 ⟨by omega, by omega⟩ (by decide) ?_ ?_
                    · intro h834
                      refine wk_il1 r47_202 (wk_c2 r47_203 ?_)
                      refine wk_icne r47_205 ⟨by omega, by omega⟩ (by decide) ?_ ?_
                      · intro h835
                        refine wk_il1 r47_212 (wk_c2 r47_213 ?_)
                        refine wk_icne r47_215 ⟨by omega, by omega⟩ (by decide) ?_ ?_
                        · intro h836
                          exfalso
                          omega
                        · intro h837
                          refine wk_c2 r47_218 (wk_goto r47_220 ?_)
                          refine wk_al0 r47_225 (wk_c1 r47_226 (wk_il2 r47_227 ?_))
                          obtain ⟨v838, e839⟩ : ∃ v, M798 739 35 = v := ⟨_, rfl⟩
                          have h840 := (bf_739_35 hP799).1; rw [e839] at h840
                          have h841 := (bf_739_35 hP799).2; rw [e839] at h841
                          refine wk_cv3 r47_228 kc_739_114 rfl (n8114_739 _ M798 0 1 x739_30 v812 v816 v820 v824 x739_28 v838 x739_29 T hP799 (by decide) (by decide) (by decide) (by decide) ((hQ800.at g_739_30 rfl).trans ex739_30) (by first | with_reducible assumption | omega) (by first | with_reducible assumption | omega) e813 (by first | with_reducible assumption | omega) (by first | with_reducible assumption | omega) e817 (by first | with_reducible assumption | omega) (by first | with_reducible assumption | omega) e821 (by first | with_reducible assumption | omega) (by first | with_reducible assumption | omega) e825 (by first | with_reducible assumption | omega) (by first | with_reducible assumption | omega) ((hQ800.at g_739_28 rfl).trans ex739_28) (by first | with_reducible assumption | omega) (by first | with_reducible assumption | omega) e839 (by first | with_reducible assumption | omega) (by first | with_reducible assumption | omega) ((hQ800.at g_739_29 rfl).trans ex739_29) (by first | with_reducible assumption | omega) (by first | with_reducible assumption | omega) (by omega) (by omega) (by omega) (by omega) pr808 pr809 pr810) (cqI ?_)
                          rintro v862 M842 ⟨hP843, hQ844, h863, h864, h846, h847, h848, h849, h850, h851, h852, h853, h854, h855, h856, h857, xh858, pr859, pr860, pr861⟩
                          have hF845 : Fr fm_n8047_739 M0 M842 := hF801.tr hQ844 rfl
                          have e865 := ((hQ844.at g_739_30 rfl).trans ((hQ800.at g_739_30 rfl).trans ex739_30))
                          obtain ⟨v866, e867⟩ : ∃ v, M842 739 31 = v := ⟨_, rfl⟩
                          have h868 := (bf_739_31 hP843).1; rw [e867] at h868
                          have h869 := (bf_739_31 hP843).2; rw [e867] at h869
                          obtain ⟨v870, e871⟩ : ∃ v, M842 739 33 = v := ⟨_, rfl⟩
                          have h872 := (bf_739_33 hP843).1; rw [e871] at h872
                          have h873 := (bf_739_33 hP843).2; rw [e871] at h873
                          obtain ⟨v874, e875⟩ : ∃ v, M842 739 34 = v := ⟨_, rfl⟩
                          have h876 := (bf_739_34 hP843).1; rw [e875] at h876
                          have h877 := (bf_739_34 hP843).2; rw [e875] at h877
                          obtain ⟨v878, e879⟩ : ∃ v, M842 739 32 = v := ⟨_, rfl⟩
                          have h880 := (bf_739_32 hP843).1; rw [e879] at h880
                          have h881 := (bf_739_32 hP843).2; rw [e879] at h881
                          obtain ⟨v882, e883⟩ : ∃ v, M842 739 28 = v := ⟨_, rfl⟩
                          have h884 := (bf_739_28 hP843).1; rw [e883] at h884
                          have h885 := (bf_739_28 hP843).2; rw [e883] at h885
                          obtain ⟨v886, e887⟩ : ∃ v, M842 739 29 = v := ⟨_, rfl⟩
                          have h888 := (bf_739_29 hP843).1; rw [e887] at h888
                          have h889 := (bf_739_29 hP843).2; rw [e887] at h889
                          have pr890 : GE M842 s0 u0 0 0 := GE_mn (Sm.fr hQ844 rfl) (fun q => by have := ((hQ800.at g_739_28 rfl).trans ex739_28); have := e883; omega) (GE_sm (Sm.fr hQ800 rfl) pp_E0)
                          refine wk_c1 r47_231 ?_
                          have gk : M842 739 28 = v882 := e883
                          refine wk_cv4 r47_232 kc_739_117 rfl (n8117_739 _ M842 8 v862 0 x739_45 hP843 (by decide) (by decide) (by first | with_reducible assumption | omega) (by first | with_reducible assumption | omega) (by decide) (by decide) ((hQ844.at g_739_45 rfl).trans ((hQ800.at g_739_45 rfl).trans ex739_45)) (by first | with_reducible assumption | omega) (by first | with_reducible assumption | omega)) (cqV ?_)
                          rintro M891 ⟨hP892, hQ893, h895, h896, xh897⟩
                          have hF894 : Fr fm_n8047_739 M0 M891 := hF845.tr hQ893 rfl
                          obtain ⟨v898, e899⟩ : ∃ v, M891 739 45 = v := ⟨_, rfl⟩
                          have h900 := (bf_739_45 hP892).1; rw [e899] at h900
                          have h901 := (bf_739_45 hP892).2; rw [e899] at h901
                          have pr902 : GE M891 s0 u0 1 0 := GE_atom xh897 pr890 (fun q => by rw [gk] at q; exact ⟨by omega, by unfold refok; omega, by omega, by omega⟩)
                          have pr903 : OWe M891 ((OW M0).1 ++ [8 + 16 * v862], (OW M0).2) := OWe_c (OWe_put (OWe_sm (Sm.fr hQ844 rfl) (OWe_sm (Sm.fr hQ800 rfl) (OWe_rf M0))) xh897 (bf_739_45 hP843).1) (by show ((OW M0).1 ++ [_], (OW M0).2) = ((OW M0).1 ++ [_], (OW M0).2); congr 3 <;> omega)
                          subst hQ; exact wk_ret r47_235 (⟨rfl, hP892, hF894, by have := ((hQ893.at g_739_30 rfl).trans ((hQ844.at g_739_30 rfl).trans ((hQ800.at g_739_30 rfl).trans ex739_30))); have := ((hQ893.at g_739_31 rfl).trans e867); omega, by have := ((hQ893.at g_739_31 rfl).trans e867); have := ((hQ893.at g_739_33 rfl).trans e871); have := ((hQ893.at g_739_34 rfl).trans e875); omega, by have := ((hQ893.at g_739_31 rfl).trans e867); have := ((hQ893.at g_739_33 rfl).trans e871); have := ((hQ893.at g_739_34 rfl).trans e875); omega, by have := ((hQ893.at g_739_34 rfl).trans e875); have := ((hQ893.at g_739_32 rfl).trans e879); omega, by have := ((hQ893.at g_739_33 rfl).trans e871); omega, by have := ((hQ893.at g_739_28 rfl).trans e883); omega, by have := ((hQ893.at g_739_33 rfl).trans e871); have := ((hQ893.at g_739_47 rfl).trans ((hQ844.at g_739_47 rfl).trans ((hQ800.at g_739_47 rfl).trans ex739_47))); have := e899; have := ((hQ893.at g_739_46 rfl).trans ((hQ844.at g_739_46 rfl).trans ((hQ800.at g_739_46 rfl).trans ex739_46))); have := ((hQ893.at g_739_28 rfl).trans e883); omega, by have := e899; have := ((hQ893.at g_739_46 rfl).trans ((hQ844.at g_739_46 rfl).trans ((hQ800.at g_739_46 rfl).trans ex739_46))); omega, by have := ((hQ893.at g_739_47 rfl).trans ((hQ844.at g_739_47 rfl).trans ((hQ800.at g_739_47 rfl).trans ex739_47))); have := ((hQ893.at g_739_28 rfl).trans e883); omega, by have := ((hQ893.at g_739_29 rfl).trans e887); omega, by have := ((hQ893.at g_739_29 rfl).trans e887); have := ((hQ893.at g_739_28 rfl).trans e883); omega, by have := ((hQ893.at g_739_29 rfl).trans e887); have := ((hQ893.at g_739_28 rfl).trans e883); omega, by rw [((hQ893.at g_739_47 rfl).trans ((hQ844.at g_739_47 rfl).trans ((hQ800.at g_739_47 rfl).trans ex739_47))), ((hQ893.at g_739_33 rfl).trans e871), ((hQ893.at g_739_28 rfl).trans e883), ((hQ893.at g_739_29 rfl).trans e887)]; exact a235nx (m := 1) (ac := 8) (kv := v862) (v1 := v816) xp1 xp2 xp3 xp4 (by omega) (by omega) (by rcases xh858 with q9 | q9 | q9; (exact Or.inl ⟨by omega, by omega, by omega, by omega⟩); (exact Or.inr ⟨by omega, by omega, by omega⟩); (omega)) pr903, (TK_sm (Sm.fr hQ893 rfl) pr859), pr902, (TXQ_sm (Sm.fr hQ893 rfl) pr860), (TTP_sm (Sm.fr hQ893 rfl) pr861)⟩)
                      · intro h904
                        exfalso
                        omega
                    · intro h905
                      exfalso
                      omega
                · intro h906
                  exfalso
                  omega
              · intro h907
                exfalso
                omega
            · intro h908
              exfalso
              omega
          · intro h909
            subst hQ; exact wk_ret r47_47 (⟨rfl, hP0, hF0, by have := ex739_30; have := ex739_31; omega, by have := ex739_31; have := ex739_33; have := ex739_34; omega, by have := ex739_31; have := ex739_33; have := ex739_34; omega, by have := ex739_34; have := ex739_32; omega, by have := ex739_33; omega, by have := ex739_28; omega, by have := ex739_33; have := ex739_47; have := ex739_45; have := ex739_46; have := ex739_28; omega, by have := ex739_45; have := ex739_46; omega, by have := ex739_47; have := ex739_28; omega, by have := ex739_29; omega, by have := ex739_29; have := ex739_28; omega, by have := ex739_29; have := ex739_28; omega, by rw [ex739_47, ex739_33, ex739_28, ex739_29]; exact RGX_f (a47 xp1.r xp2 xp3 xp4 (by omega) (by omega) (by omega)) (by omega), pp_TK, (GE_vac ex739_28 (by omega)), pp_TQ, pp_TT⟩)
        · intro h910
          refine wk_il1 r47_29 (wk_c2 r47_30 ?_)
          refine wk_iceq r47_32 ⟨by omega, by omega⟩ (by decide) ?_ ?_
          · intro h911
            refine wk_al0 r47_40 (wk_cv1 r47_41 kc_739_84 rfl (n8084_739 _ M0 x739_28 hP0 ex739_28 (by first | with_reducible assumption | omega) (by first | with_reducible assumption | omega)) (cqI ?_))
            rintro v918 M912 ⟨hP913, hQ914, h919, h920, h916, h917⟩
            obtain rfl := Fr.same hQ914
            have e921 := ex739_28
            refine wk_ifne r47_44 ⟨by omega, by omega⟩ ?_ ?_
            · intro h922
              refine wk_al0 r47_48 (wk_cv1 r47_49 kc_739_76 rfl (n8076_739 _ M0 x739_30 x739_31 T hP0 ex739_30 (by first | with_reducible assumption | omega) (by first | with_reducible assumption | omega) ex739_31 (by first | with_reducible assumption | omega) (by first | with_reducible assumption | omega) (by omega) pp_TQ) (cqV ?_))
              rintro M923 ⟨hP924, hQ925, h927, h928, h929, h930, h931, xh932, pr933, pr934, pr935⟩
              have hF926 : Fr fm_n8047_739 M0 M923 := hF0.tr hQ925 rfl
              have e936 := ((hQ925.at g_739_30 rfl).trans ex739_30)
              obtain ⟨v937, e938⟩ : ∃ v, M923 739 31 = v := ⟨_, rfl⟩
              have h939 := (bf_739_31 hP924).1; rw [e938] at h939
              have h940 := (bf_739_31 hP924).2; rw [e938] at h940
              obtain ⟨v941, e942⟩ : ∃ v, M923 739 33 = v := ⟨_, rfl⟩
              have h943 := (bf_739_33 hP924).1; rw [e942] at h943
              have h944 := (bf_739_33 hP924).2; rw [e942] at h944
              obtain ⟨v945, e946⟩ : ∃ v, M923 739 34 = v := ⟨_, rfl⟩
              have h947 := (bf_739_34 hP924).1; rw [e946] at h947
              have h948 := (bf_739_34 hP924).2; rw [e946] at h948
              obtain ⟨v949, e950⟩ : ∃ v, M923 739 32 = v := ⟨_, rfl⟩
              have h951 := (bf_739_32 hP924).1; rw [e950] at h951
              have h952 := (bf_739_32 hP924).2; rw [e950] at h952
              have hn953 := nx_ofm pp_TT ex739_30 ex739_33 ex739_31 xh932
              refine wk_il1 r47_52 (wk_c2 r47_53 ?_)
              refine wk_icne r47_55 ⟨by omega, by omega⟩ (by decide) ?_ ?_
              · intro h954
                refine wk_il1 r47_157 (wk_c2 r47_158 ?_)
                refine wk_icne r47_160 ⟨by omega, by omega⟩ (by decide) ?_ ?_
                · intro h955
                  refine wk_il1 r47_167 (wk_c2 r47_168 ?_)
                  refine wk_icne r47_170 ⟨by omega, by omega⟩ (by decide) ?_ ?_
                  · intro h956
                    refine wk_il1 r47_178 (wk_c2 r47_179 ?_)
                    refine wk_icne r47_181 ⟨by omega, by omega⟩ (by decide) ?_ ?_
                    · intro h957
                      refine wk_c2 r47_188 (wk_is2 r47_190 rfl (wk_al0 r47_191 (wk_il1 r47_192 (wk_c2 r47_193 ?_))))
                      refine wk_icne r47_195 ⟨by omega, by omega⟩ (by decide) ?_ ?_
                      · intro h958
                        refine wk_il1 r47_202 (wk_c2 r47_203 ?_)
                        refine wk_icne r47_205 ⟨by omega, by omega⟩ (by decide) ?_ ?_
                        · intro h959
                          refine wk_il1 r47_212 (wk_c2 r47_213 ?_)
                          refine wk_icne r47_215 ⟨by omega, by omega⟩ (by decide) ?_ ?_
                          · intro h960
                            refine wk_c2 r47_223 ?_
                            refine wk_al0 r47_225 (wk_c1 r47_226 (wk_il2 r47_227 ?_))
                            obtain ⟨v961, e962⟩ : ∃ v, M923 739 35 = v := ⟨_, rfl⟩
                            have h963 := (bf_739_35 hP924).1; rw [e962] at h963
                            have h964 := (bf_739_35 hP924).2; rw [e962] at h964
                            refine wk_cv3 r47_228 kc_739_114 rfl (n8114_739 _ M923 0 99 x739_30 v937 v941 v945 v949 x739_28 v961 x739_29 T hP924 (by decide) (by decide) (by decide) (by decide) ((hQ925.at g_739_30 rfl).trans ex739_30) (by first | with_reducible assumption | omega) (by first | with_reducible assumption | omega) e938 (by first | with_reducible assumption | omega) (by first | with_reducible assumption | omega) e942 (by first | with_reducible assumption | omega) (by first | with_reducible assumption | omega) e946 (by first | with_reducible assumption | omega) (by first | with_reducible assumption | omega) e950 (by first | with_reducible assumption | omega) (by first | with_reducible assumption | omega) ((hQ925.at g_739_28 rfl).trans ex739_28) (by first | with_reducible assumption | omega) (by first | with_reducible assumption | omega) e962 (by first | with_reducible assumption | omega) (by first | with_reducible assumption | omega) ((hQ925.at g_739_29 rfl).trans ex739_29) (by first | with_reducible assumption | omega) (by first | with_reducible assumption | omega) (by omega) (by omega) (by omega) (by omega) pr933 pr934 pr935) (cqI ?_)
                            rintro v985 M965 ⟨hP966, hQ967, h986, h987, h969, h970, h971, h972, h973, h974, h975, h976, h977, h978, h979, h980, xh981, pr982, pr983, pr984⟩
                            have hF968 : Fr fm_n8047_739 M0 M965 := hF926.tr hQ967 rfl
                            have e988 := ((hQ967.at g_739_30 rfl).trans ((hQ925.at g_739_30 rfl).trans ex739_30))
                            obtain ⟨v989, e990⟩ : ∃ v, M965 739 31 = v := ⟨_, rfl⟩
                            have h991 := (bf_739_31 hP966).1; rw [e990] at h991
                            have h992 := (bf_739_31 hP966).2; rw [e990] at h992
                            obtain ⟨v993, e994⟩ : ∃ v, M965 739 33 = v := ⟨_, rfl⟩
                            have h995 := (bf_739_33 hP966).1; rw [e994] at h995
                            have h996 := (bf_739_33 hP966).2; rw [e994] at h996
                            obtain ⟨v997, e998⟩ : ∃ v, M965 739 34 = v := ⟨_, rfl⟩
                            have h999 := (bf_739_34 hP966).1; rw [e998] at h999
                            have h1000 := (bf_739_34 hP966).2; rw [e998] at h1000
                            obtain ⟨v1001, e1002⟩ : ∃ v, M965 739 32 = v := ⟨_, rfl⟩
                            have h1003 := (bf_739_32 hP966).1; rw [e1002] at h1003
                            have h1004 := (bf_739_32 hP966).2; rw [e1002] at h1004
                            obtain ⟨v1005, e1006⟩ : ∃ v, M965 739 28 = v := ⟨_, rfl⟩
                            have h1007 := (bf_739_28 hP966).1; rw [e1006] at h1007
                            have h1008 := (bf_739_28 hP966).2; rw [e1006] at h1008
                            obtain ⟨v1009, e1010⟩ : ∃ v, M965 739 29 = v := ⟨_, rfl⟩
                            have h1011 := (bf_739_29 hP966).1; rw [e1010] at h1011
                            have h1012 := (bf_739_29 hP966).2; rw [e1010] at h1012
                            have pr1013 : GE M965 s0 u0 0 0 := GE_mn (Sm.fr hQ967 rfl) (fun q => by have := ((hQ925.at g_739_28 rfl).trans ex739_28); have := e1006; omega) (GE_sm (Sm.fr hQ925 rfl) pp_E0)
                            refine wk_c1 r47_231 ?_
                            have gk : M965 739 28 = v1005 := e1006
                            refine wk_cv4 r47_232 kc_739_117 rfl (n8117_739 _ M965 9 v985 0 x739_45 hP966 (by decide) (by decide) (by first | with_reducible assumption | omega) (by first | with_reducible assumption | omega) (by decide) (by decide) ((hQ967.at g_739_45 rfl).trans ((hQ925.at g_739_45 rfl).trans ex739_45)) (by first | with_reducible assumption | omega) (by first | with_reducible assumption | omega)) (cqV ?_)
                            rintro M1014 ⟨hP1015, hQ1016, h1018, h1019, xh1020⟩
                            have hF1017 : Fr fm_n8047_739 M0 M1014 := hF968.tr hQ1016 rfl
                            obtain ⟨v1021, e1022⟩ : ∃ v, M1014 739 45 = v := ⟨_, rfl⟩
                            have h1023 := (bf_739_45 hP1015).1; rw [e1022] at h1023
                            have h1024 := (bf_739_45 hP1015).2; rw [e1022] at h1024
                            have pr1025 : GE M1014 s0 u0 1 0 := GE_atom xh1020 pr1013 (fun q => by rw [gk] at q; exact ⟨by omega, by unfold refok; omega, by omega, by omega⟩)
                            have pr1026 : OWe M1014 ((OW M0).1 ++ [9 + 16 * v985], (OW M0).2) := OWe_c (OWe_put (OWe_sm (Sm.fr hQ967 rfl) (OWe_sm (Sm.fr hQ925 rfl) (OWe_rf M0))) xh1020 (bf_739_45 hP966).1) (by show ((OW M0).1 ++ [_], (OW M0).2) = ((OW M0).1 ++ [_], (OW M0).2); congr 3 <;> omega)
                            subst hQ; exact wk_ret r47_235 (⟨rfl, hP1015, hF1017, by have := ((hQ1016.at g_739_30 rfl).trans ((hQ967.at g_739_30 rfl).trans ((hQ925.at g_739_30 rfl).trans ex739_30))); have := ((hQ1016.at g_739_31 rfl).trans e990); omega, by have := ((hQ1016.at g_739_31 rfl).trans e990); have := ((hQ1016.at g_739_33 rfl).trans e994); have := ((hQ1016.at g_739_34 rfl).trans e998); omega, by have := ((hQ1016.at g_739_31 rfl).trans e990); have := ((hQ1016.at g_739_33 rfl).trans e994); have := ((hQ1016.at g_739_34 rfl).trans e998); omega, by have := ((hQ1016.at g_739_34 rfl).trans e998); have := ((hQ1016.at g_739_32 rfl).trans e1002); omega, by have := ((hQ1016.at g_739_33 rfl).trans e994); omega, by have := ((hQ1016.at g_739_28 rfl).trans e1006); omega, by have := ((hQ1016.at g_739_33 rfl).trans e994); have := ((hQ1016.at g_739_47 rfl).trans ((hQ967.at g_739_47 rfl).trans ((hQ925.at g_739_47 rfl).trans ex739_47))); have := e1022; have := ((hQ1016.at g_739_46 rfl).trans ((hQ967.at g_739_46 rfl).trans ((hQ925.at g_739_46 rfl).trans ex739_46))); have := ((hQ1016.at g_739_28 rfl).trans e1006); omega, by have := e1022; have := ((hQ1016.at g_739_46 rfl).trans ((hQ967.at g_739_46 rfl).trans ((hQ925.at g_739_46 rfl).trans ex739_46))); omega, by have := ((hQ1016.at g_739_47 rfl).trans ((hQ967.at g_739_47 rfl).trans ((hQ925.at g_739_47 rfl).trans ex739_47))); have := ((hQ1016.at g_739_28 rfl).trans e1006); omega, by have := ((hQ1016.at g_739_29 rfl).trans e1010); omega, by have := ((hQ1016.at g_739_29 rfl).trans e1010); have := ((hQ1016.at g_739_28 rfl).trans e1006); omega, by have := ((hQ1016.at g_739_29 rfl).trans e1010); have := ((hQ1016.at g_739_28 rfl).trans e1006); omega, by rw [((hQ1016.at g_739_47 rfl).trans ((hQ967.at g_739_47 rfl).trans ((hQ925.at g_739_47 rfl).trans ex739_47))), ((hQ1016.at g_739_33 rfl).trans e994), ((hQ1016.at g_739_28 rfl).trans e1006), ((hQ1016.at g_739_29 rfl).trans e1010)]; exact a235nx (m := 99) (ac := 9) (kv := v985) (v1 := v941) xp1 xp2 xp3 xp4 (by omega) (by omega) (by rcases xh981 with q9 | q9 | q9; (exact Or.inl ⟨by omega, by omega, by omega, by omega⟩); (exact Or.inr ⟨by omega, by omega, by omega⟩); (omega)) pr1026, (TK_sm (Sm.fr hQ1016 rfl) pr982), pr1025, (TXQ_sm (Sm.fr hQ1016 rfl) pr983), (TTP_sm (Sm.fr hQ1016 rfl) pr984)⟩)
                          · intro h1027
                            exfalso
                            omega
                        · intro h1028
                          exfalso
                          omega
                      · intro h1029
                        exfalso
                        omega
                    · intro h1030
                      exfalso
                      omega
                  · intro h1031
                    exfalso
                    omega
                · intro h1032
                  exfalso
                  omega
              · intro h1033
                exfalso
                omega
            · intro h1034
              subst hQ; exact wk_ret r47_47 (⟨rfl, hP0, hF0, by have := ex739_30; have := ex739_31; omega, by have := ex739_31; have := ex739_33; have := ex739_34; omega, by have := ex739_31; have := ex739_33; have := ex739_34; omega, by have := ex739_34; have := ex739_32; omega, by have := ex739_33; omega, by have := ex739_28; omega, by have := ex739_33; have := ex739_47; have := ex739_45; have := ex739_46; have := ex739_28; omega, by have := ex739_45; have := ex739_46; omega, by have := ex739_47; have := ex739_28; omega, by have := ex739_29; omega, by have := ex739_29; have := ex739_28; omega, by have := ex739_29; have := ex739_28; omega, by rw [ex739_47, ex739_33, ex739_28, ex739_29]; exact RGX_f (a47 xp1.r xp2 xp3 xp4 (by omega) (by omega) (by omega)) (by omega), pp_TK, (GE_vac ex739_28 (by omega)), pp_TQ, pp_TT⟩)
          · intro h1035
            refine wk_al0 r47_35 (wk_c1 r47_36 (wk_cv2 r47_37 kc_739_137 rfl (n8137_739 _ M0 1 x739_28 x739_33 x739_29 hP0 (by decide) (by decide) ex739_28 (by first | with_reducible assumption | omega) (by first | with_reducible assumption | omega) ex739_33 (by first | with_reducible assumption | omega) (by first | with_reducible assumption | omega) ex739_29 (by first | with_reducible assumption | omega) (by first | with_reducible assumption | omega)) (cqV ?_)))
            rintro M1036 ⟨hP1037, hQ1038, h1040, h1041, h1042, h1043, h1044, xh1045⟩
            have hF1039 : Fr fm_n8047_739 M0 M1036 := hF0.tr hQ1038 rfl
            obtain ⟨v1046, e1047⟩ : ∃ v, M1036 739 28 = v := ⟨_, rfl⟩
            have h1048 := (bf_739_28 hP1037).1; rw [e1047] at h1048
            have h1049 := (bf_739_28 hP1037).2; rw [e1047] at h1049
            obtain ⟨v1050, e1051⟩ : ∃ v, M1036 739 29 = v := ⟨_, rfl⟩
            have h1052 := (bf_739_29 hP1037).1; rw [e1051] at h1052
            have h1053 := (bf_739_29 hP1037).2; rw [e1051] at h1053
            have pr1054 : GE M1036 s0 u0 0 0 := GE_mn (Sm.fr hQ1038 rfl) (fun q => by have := ex739_28; have := e1047; omega) pp_E0
            refine wk_al0 r47_40 (wk_cv1 r47_41 kc_739_84 rfl (n8084_739 _ M1036 v1046 hP1037 e1047 (by first | with_reducible assumption | omega) (by first | with_reducible assumption | omega)) (cqI ?_))
            rintro v1061 M1055 ⟨hP1056, hQ1057, h1062, h1063, h1059, h1060⟩
            obtain rfl := Fr.same hQ1057
            have e1064 := e1047
            refine wk_ifne r47_44 ⟨by omega, by omega⟩ ?_ ?_
            · intro h1065
              exfalso
              omega
            · intro h1066
              subst hQ; exact wk_ret r47_47 (⟨rfl, hP1037, hF1039, by have := ((hQ1038.at g_739_30 rfl).trans ex739_30); have := ((hQ1038.at g_739_31 rfl).trans ex739_31); omega, by have := ((hQ1038.at g_739_31 rfl).trans ex739_31); have := ((hQ1038.at g_739_33 rfl).trans ex739_33); have := ((hQ1038.at g_739_34 rfl).trans ex739_34); omega, by have := ((hQ1038.at g_739_31 rfl).trans ex739_31); have := ((hQ1038.at g_739_33 rfl).trans ex739_33); have := ((hQ1038.at g_739_34 rfl).trans ex739_34); omega, by have := ((hQ1038.at g_739_34 rfl).trans ex739_34); have := ((hQ1038.at g_739_32 rfl).trans ex739_32); omega, by have := ((hQ1038.at g_739_33 rfl).trans ex739_33); omega, by have := e1047; omega, by have := ((hQ1038.at g_739_33 rfl).trans ex739_33); have := ((hQ1038.at g_739_47 rfl).trans ex739_47); have := ((hQ1038.at g_739_45 rfl).trans ex739_45); have := ((hQ1038.at g_739_46 rfl).trans ex739_46); have := e1047; omega, by have := ((hQ1038.at g_739_45 rfl).trans ex739_45); have := ((hQ1038.at g_739_46 rfl).trans ex739_46); omega, by have := ((hQ1038.at g_739_47 rfl).trans ex739_47); have := e1047; omega, by have := e1051; omega, by have := e1051; have := e1047; omega, by have := e1051; have := e1047; omega, by rw [((hQ1038.at g_739_47 rfl).trans ex739_47), ((hQ1038.at g_739_33 rfl).trans ex739_33), e1047, e1051]; exact RGX_f (a47 xp1.r xp2 xp3 xp4 (by omega) (by omega) (by omega)) (by omega), (TK_sm (Sm.fr hQ1038 rfl) pp_TK), (GE_vac e1047 (by omega)), (TXQ_sm (Sm.fr hQ1038 rfl) pp_TQ), (TTP_sm (Sm.fr hQ1038 rfl) pp_TT)⟩)
def fm_n8116_739 : Nat := 1356938545779010069195758067332661297480611728569957925602488559592754118656
