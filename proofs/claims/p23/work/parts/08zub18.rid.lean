
def fm_n9064_739 : Nat := 7067388259113537318333190002971674063309935587502475832486424805170479104
/-- IslandHallModel.end -/
theorem n9064_739 {B : eB} (d : Nat) (M0 : Mm) (x739_15 : Int) (x739_7 : Int) (hP0 : Pw M0) (ex739_15 : M0 739 15 = x739_15) (lx739_15 : 0 ≤ x739_15) (ux739_15 : x739_15 ≤ 12) (ex739_7 : M0 739 7 = x739_7) (lx739_7 : 0 ≤ x739_7) (ux739_7 : x739_7 ≤ 3000) (xp0 : ∀ w : Int, 0 ≤ w → w < x739_7 → 0 ≤ M0 751 w) (pp_WS : WS M0) (pp_QW : QW M0) : Ct B (d + 2) 64 [R 739] M0 (qI fun z M => Pw M ∧ Fr fm_n9064_739 M0 M ∧ 0 ≤ z ∧ z ≤ 2 ∧ (∀ w : Int, 0 ≤ w → w < x739_7 → M 751 w = M0 751 w % pw x739_15) ∧ (WS M) ∧ (QW M)) := by
  refine ct_of (d := d + 1) (k := 1) (L := [some (R 739), none]) rfl rfl rfl ?_
  have hF0 := Fr.rf fm_n9064_739 M0
  generalize hQ : (qI fun z M => Pw M ∧ Fr fm_n9064_739 M0 M ∧ 0 ≤ z ∧ z ≤ 2 ∧ (∀ w : Int, 0 ≤ w → w < x739_7 → M 751 w = M0 751 w % pw x739_15) ∧ (WS M) ∧ (QW M)) = Q
  refine wk_c1 r64_0 (wk_is1 r64_1 rfl ?_)
  have c2_401 : ∀ (k401 : Nat) (M364 : Mm) (v361 : Int), (3000 - v361).toNat = k401 → Pw M364 → Fr fm_n9064_739 M0 M364 → M364 739 15 = x739_15 → M364 739 7 = x739_7 → 0 ≤ v361 → v361 ≤ 3000 → (WS M364) → (QW M364) → 0 ≤ (-1) * v361 + x739_7 → 0 ≤ v361 → (∀ w : Int, 0 ≤ w → (w < v361 → M364 751 w = M0 751 w % pw (x739_15)) ∧ (v361 ≤ w → M364 751 w = M0 751 w)) → Wp B (d + 1) 64 2 [some (R 739), some (I v361)] [] M364 Q := by
    refine lp_ind ?_
    intro k401 ih401 M364 v361 hk401 hP365 hF366 e367 e368 h362 h363 pr369 pr370 h371 h372 ti373
    refine wk_il1 r64_2 (wk_al0 r64_3 (wk_getfi r64_4 fd_739_7 e368 ?_))
    refine wk_icge r64_7 ⟨by omega, by omega⟩ ⟨by omega, by omega⟩ ?_ ?_
    · intro h374
      refine wk_al0 r64_29 (wk_getfb r64_30 fd_739_65 (bf_739_65 hP365) ?_)
      intro v375 h377 h378 e376
      subst hQ; exact wk_iret r64_33 (⟨rfl, _, rfl, hP365, hF366, by omega, by omega, fun w a b => (ti373 w a).1 (by omega), pr369, pr370⟩)
    · intro h379
      refine wk_al0 r64_10 (wk_getfr r64_11 fd_739_19 (br_739_19 hP365) (wk_il1 r64_14 (wk_dup2 r64_15 (wk_ialdb r64_16 ar_751 ⟨by omega, by omega⟩ (fun q0 q1 => ba_751 hP365 q0 q1) ?_))))
      intro v380 h382 h383 e381
      have hv9 : v380 = M0 751 v361 := by rw [← e381]; exact (ti373 v361 (by omega)).2 (by omega)
      have hv8 : 0 ≤ v380 := by have := xp0 v361 (by omega) (by omega); omega
      refine wk_al0 r64_17 (wk_cv1 r64_18 kc_739_44 rfl (m9044_739 _ M364 hP365) (cqI ?_))
      rintro v389 M384 ⟨hP385, hQ386, h390, h391, xh388⟩
      obtain rfl := Fr.same hQ386
      refine wk_iand r64_21 ⟨by omega, by omega⟩ ⟨by omega, by omega⟩ ?_
      intro v392 h393 h394 h395 h396
      refine wk_iast r64_22 ar_751 ⟨by omega, by omega⟩ (wk_nw (ga_751 _) rfl hP365 hF366 (ua_751 ⟨by omega, by omega⟩) ?_)
      intro M397 hP398 hF399 e400
      refine wk_inc1 r64_23 rfl (wk_goto r64_26 ?_)
      exact wp_fg (le_s (le_s le_0)) (ih401 (3000 - (v361 + 1)).toNat (by omega) M397 (v361 + 1) rfl hP398 hF399 (mUp_no e400 e367 (Or.inl (by decide))) (mUp_no e400 e368 (Or.inl (by decide))) (by first | with_reducible assumption | omega) (by first | with_reducible assumption | omega) (WS_sm (Sm.up e400 (ga_751 _) rfl) pr369) (QW_sm (Sm.up e400 (ga_751 _) rfl) pr370) (by first | with_reducible assumption | omega) (by first | with_reducible assumption | omega) (fun w a => by by_cases q : w = v361; (rw [q]; exact ⟨fun _ => (show M397 751 v361 = _ by rw [e400, mUp_eq]).trans (by have q3 : _ = pw x739_15 - 1 := (xh388).trans (by unfold AL; rw [e367]); have q4 := and_lo (x := v380) (r := v392) (k := x739_15) (by have := xp0 v361 (by omega) (by omega); omega) (by rw [← q3]; exact h396); rw [hv9] at q4; exact q4), fun q8 => absurd q8 (by omega)⟩); (rw [show M397 751 w = M364 751 w by rw [e400, mUp_ne (Or.inr q)]]; exact ⟨fun q8 => (ti373 w a).1 (by omega), fun q8 => (ti373 w a).2 (by omega)⟩)))
  exact wp_fg (le_s (le_s le_0)) (c2_401 _ M0 0 rfl hP0 hF0 ex739_15 ex739_7 (by first | with_reducible assumption | omega) (by first | with_reducible assumption | omega) pp_WS pp_QW (by first | with_reducible assumption | omega) (by first | with_reducible assumption | omega) (fun w a => ⟨fun b => by omega, fun _ => rfl⟩))
def fm_n9106_739 : Nat := 928153032681227054771048067086964901088114201203431543700010232349488161226752
/-- IslandHallModel.listsBy -/
theorem n9106_739 {B : eB} (d : Nat) (M0 : Mm) (p1 : Int) (x739_13 : Int) (x739_7 : Int) (x739_15 : Int) (hP0 : Pw M0) (l1 : 0 ≤ p1) (u1 : p1 ≤ 209) (ex739_13 : M0 739 13 = x739_13) (lx739_13 : 0 ≤ x739_13) (ux739_13 : x739_13 ≤ 30) (ex739_7 : M0 739 7 = x739_7) (lx739_7 : 0 ≤ x739_7) (ux739_7 : x739_7 ≤ 3000) (ex739_15 : M0 739 15 = x739_15) (lx739_15 : 0 ≤ x739_15) (ux739_15 : x739_15 ≤ 12) (xp0 : p1 % 30 < x739_13) (xp1 : ∀ w : Int, 0 ≤ w → w < x739_7 → 0 ≤ M0 751 w) (pp_WS : WS M0) (pp_QW : QW M0) (pp_C3 : CFP M0) : Ct B (d + 6) 106 [R 739, I p1] M0 (qI fun z M => Pw M ∧ Fr fm_n9106_739 M0 M ∧ 0 ≤ z ∧ z ≤ 300 ∧ (WS M) ∧ (QW M) ∧ (CFP M) ∧ (WQe M M0)) := by
  refine ct_of (d := d + 5) (k := 3) (L := [some (R 739), some (I p1), none, none, none]) rfl rfl rfl ?_
  have hF0 := Fr.rf fm_n9106_739 M0
  generalize hQ : (qI fun z M => Pw M ∧ Fr fm_n9106_739 M0 M ∧ 0 ≤ z ∧ z ≤ 300 ∧ (WS M) ∧ (QW M) ∧ (CFP M) ∧ (WQe M M0)) = Q
  have hc3 := pp_C3
  unfold CFP at hc3
  rw [ex739_7] at hc3
  refine wk_c1 r106_0 (wk_is2 r106_1 rfl (wk_c1 r106_2 (wk_is3 r106_3 rfl ?_)))
  have c4_983 : ∀ (k983 : Nat) (M891 : Mm) (v885 : Int) (v888 : Int), (3000 - v888).toNat = k983 → Pw M891 → Fr fm_n9106_739 M0 M891 → M891 739 13 = x739_13 → M891 739 7 = x739_7 → M891 739 15 = x739_15 → 0 ≤ v885 → v885 ≤ 300 → 0 ≤ v888 → v888 ≤ 3000 → (WS M891) → (QW M891) → (CFP M891) → (WQe M891 M0) → 0 ≤ (-1) * v888 + x739_7 → 0 ≤ v888 + (-1) * v885 → 0 ≤ (-1) * v885 + 300 → 0 ≤ (-1) * v885 + v888 + 0 → (v885 ≤ cnF (fun k => M0 752 k) (AL M0) (v888).toNat) → Wp B (d + 5) 106 4 [some (R 739), some (I p1), some (I v885), some (I v888), none] [] M891 Q := by
    refine lp_ind ?_
    intro k983 ih983 M891 v885 v888 hk983 hP892 hF893 e894 e895 e896 h886 h887 h889 h890 pr897 pr898 pr899 pr900 h901 h902 h903 h904 ti905
    refine wk_il3 r106_4 (wk_al0 r106_5 (wk_getfi r106_6 fd_739_7 e895 ?_))
    refine wk_icge r106_9 ⟨by omega, by omega⟩ ⟨by omega, by omega⟩ ?_ ?_
    · intro h906
      refine wk_il2 r106_112 ?_
      subst hQ; exact wk_iret r106_113 (⟨rfl, _, rfl, hP892, hF893, by omega, by omega, pr897, pr898, pr899, pr900⟩)
    · intro h907
      refine wk_al0 r106_12 (wk_il3 r106_13 (wk_cv2 r106_14 kc_739_83 rfl (m9083_739 _ M891 v888 hP892 (by first | with_reducible assumption | omega) (by first | with_reducible assumption | omega)) (cqI ?_)))
      rintro v913 M908 ⟨hP909, hQ910, h914, h915, xh912⟩
      obtain rfl := Fr.same hQ910
      refine wk_ifne r106_17 ⟨by omega, by omega⟩ ?_ ?_
      · intro h916
        have hfi : M0 752 v888 = AL M0 := by rcases xh912 with ⟨q1, q2⟩ | ⟨q1, q2⟩; (rw [← hF893.at (ga_752 _) rfl]; exact q2.trans (by unfold AL; rw [hF893.at g_739_15 rfl])); (omega)
        have hfc := cnF_y (u := fun k => M0 752 k) (a := AL M0) (w := v888) (by omega) hfi
        have hfd := cnF_le (u := fun k => M0 752 k) (a := AL M0) (w := v888 + 1) (n := x739_7) (by omega)
        refine wk_al0 r106_23 (wk_il1 r106_24 (wk_c2 r106_25 (wk_irem r106_27 ⟨by omega, by omega⟩ (by decide) (wk_il3 r106_28 (wk_al0 r106_29 (wk_getfi r106_30 fd_739_15 e896 (wk_al0 r106_33 (wk_getfr r106_34 fd_739_19 (br_739_19 hP892) (wk_il3 r106_37 (wk_ialdb r106_38 ar_751 ⟨by omega, by omega⟩ (fun q0 q1 => ba_751 hP892 q0 q1) ?_))))))))))
        intro v917 h919 h920 e918
        refine wk_cv5 r106_39 kc_739_128 rfl (m9128_739 _ M891 (p1 % 30) v888 x739_15 v917 x739_13 hP892 (by first | with_reducible assumption | omega) (by first | with_reducible assumption | omega) (by first | with_reducible assumption | omega) (by first | with_reducible assumption | omega) (by first | with_reducible assumption | omega) (by first | with_reducible assumption | omega) (by first | with_reducible assumption | omega) (by first | with_reducible assumption | omega) e894 (by first | with_reducible assumption | omega) (by first | with_reducible assumption | omega) (by omega) pr897) (cqI ?_)
        rintro v925 M921 ⟨hP922, hQ923, h926, h927⟩
        have hF924 : Fr fm_n9106_739 M0 M921 := hF893.tr hQ923 rfl
        refine wk_is4 r106_42 rfl (wk_al0 r106_44 (wk_al0 r106_45 (wk_il3 r106_46 (wk_il1 r106_47 (wk_c2 r106_48 (wk_idiv r106_50 ⟨by omega, by omega⟩ (by decide) (wk_al0 r106_51 (wk_getfi r106_52 fd_739_15 ((hQ923.at g_739_15 rfl).trans e896) (wk_cv4 r106_55 kc_739_107 rfl (m9107_739 _ M921 v888 (p1 / 30) x739_15 hP922 (by first | with_reducible assumption | omega) (by first | with_reducible assumption | omega) (by first | with_reducible assumption | omega) (by first | with_reducible assumption | omega) (by first | with_reducible assumption | omega) (by first | with_reducible assumption | omega)) (cqI ?_))))))))))
        rintro v932 M928 ⟨hP929, hQ930, h933, h934⟩
        obtain rfl := Fr.same hQ930
        refine wk_il4 r106_58 (wk_c1 r106_60 (wk_il3 r106_61 (wk_cv5 r106_62 kc_739_56 rfl (m9056_739 _ M921 v932 v925 (-1) v888 hP922 (by first | with_reducible assumption | omega) (by first | with_reducible assumption | omega) (by first | with_reducible assumption | omega) (by first | with_reducible assumption | omega) (by decide) (by decide) (by first | with_reducible assumption | omega) (by first | with_reducible assumption | omega)) (cqI ?_))))
        rintro v939 M935 ⟨hP936, hQ937, h940, h941⟩
        obtain rfl := Fr.same hQ937
        refine wk_ifne r106_65 ⟨by omega, by omega⟩ ?_ ?_
        · intro h942
          have h943 : v885 ≤ 299 := by have := ti905; omega
          refine wk_al0 r106_71 (wk_getfr r106_72 fd_739_67 (br_739_67 hP922) (wk_il2 r106_75 (wk_il3 r106_76 (wk_iast r106_77 ar_768 ⟨by omega, by omega⟩ (wk_nw (ga_768 _) rfl hP922 hF924 (ua_768 ⟨by omega, by omega⟩) ?_)))))
          intro M944 hP945 hF946 e947
          refine wk_al0 r106_78 (wk_getfr r106_79 fd_739_19 (br_739_19 hP945) (wk_il3 r106_82 (wk_al0 r106_83 (wk_getfr r106_84 fd_739_19 (br_739_19 hP945) (wk_il3 r106_87 (wk_ialdb r106_88 ar_751 ⟨by omega, by omega⟩ (fun q0 q1 => ba_751 hP945 q0 q1) ?_))))))
          intro v948 h950 h951 e949
          have h952 : 0 ≤ v948 := by have q1 := (WQe_sm (Sm.up e947 (ga_768 _) rfl) (WQe_sm (Sm.fr hQ923 rfl) pr900)); have q2 := (q1.2.2 v888 (by omega) (by rw [ex739_7]; omega)).1; rw [e949] at q2; exact q2
          refine wk_al0 r106_89 (wk_cv1 r106_90 kc_739_44 rfl (m9044_739 _ M944 hP945) (cqI ?_))
          rintro v958 M953 ⟨hP954, hQ955, h959, h960, xh957⟩
          obtain rfl := Fr.same hQ955
          refine wk_iand r106_93 ⟨by omega, by omega⟩ ⟨by omega, by omega⟩ ?_
          intro v961 h962 h963 h964 h965
          refine wk_il4 r106_94 (wk_al0 r106_96 (wk_getfi r106_97 fd_739_15 (mUp_no e947 ((hQ923.at g_739_15 rfl).trans e896) (Or.inl (by decide))) (wk_shlb 12 4096 1 r106_100 ⟨by omega, by omega⟩ ⟨by omega, by omega⟩ ⟨pwl_12, by decide⟩ ?_)))
          intro v966 h967 h968 h969
          refine wk_ior 13 8192 r106_101 (by decide) ⟨by omega, by omega⟩ ⟨by omega, by omega⟩ ?_
          intro v970 h971 h972 h973 h974 h975
          refine wk_iast r106_102 ar_751 ⟨by omega, by omega⟩ (wk_nw (ga_751 _) rfl hP945 hF946 (ua_751 ⟨by omega, by omega⟩) ?_)
          intro M976 hP977 hF978 e979
          have pr980 : WQe M976 M0 := (by have q1 := (WQe_sm (Sm.up e947 (ga_768 _) rfl) (WQe_sm (Sm.fr hQ923 rfl) pr900)); have q2 := q1.1; rw [(mUp_no e947 ((hQ923.at g_739_15 rfl).trans e896) (Or.inl (by decide)))] at q2; have q3 := lb_up (x := v948) (so := v925) (k := M0 739 15) (by omega) (by rw [← q2]; omega) (by rw [← q2]; exact (xh957).trans (by unfold AL; rw [(mUp_no e947 ((hQ923.at g_739_15 rfl).trans e896) (Or.inl (by decide)))])) h965 (by omega) (by rw [← q2]; exact h969) h975; exact WQe_up q1 e979 q3.1 (by rw [e949]; exact q3.2))
          refine wk_inc2 r106_103 rfl (wk_inc3 r106_106 rfl (wk_goto r106_109 ?_))
          exact wp_fg (le_s (le_s (le_s (le_s (le_n le_0))))) (ih983 (3000 - (v888 + 1)).toNat (by omega) M976 (v885 + 1) (v888 + 1) rfl hP977 hF978 (mUp_no e979 (mUp_no e947 ((hQ923.at g_739_13 rfl).trans e894) (Or.inl (by decide))) (Or.inl (by decide))) (mUp_no e979 (mUp_no e947 ((hQ923.at g_739_7 rfl).trans e895) (Or.inl (by decide))) (Or.inl (by decide))) (mUp_no e979 (mUp_no e947 ((hQ923.at g_739_15 rfl).trans e896) (Or.inl (by decide))) (Or.inl (by decide))) (by first | with_reducible assumption | omega) (by first | with_reducible assumption | omega) (by first | with_reducible assumption | omega) (by first | with_reducible assumption | omega) (WS_sm (Sm.up e979 (ga_751 _) rfl) (WS_sm (Sm.up e947 (ga_768 _) rfl) (WS_sm (Sm.fr hQ923 rfl) pr897))) (QW_sm (Sm.up e979 (ga_751 _) rfl) (QW_sm (Sm.up e947 (ga_768 _) rfl) (QW_sm (Sm.fr hQ923 rfl) pr898))) (CFP_sm (Sm.up e979 (ga_751 _) rfl) (CFP_sm (Sm.up e947 (ga_768 _) rfl) (CFP_sm (Sm.fr hQ923 rfl) pr899))) pr980 (by first | with_reducible assumption | omega) (by first | with_reducible assumption | omega) (by first | with_reducible assumption | omega) (by first | with_reducible assumption | omega) (by have := ti905; omega))
        · intro h981
          refine wk_goto r106_68 (wk_inc3 r106_106 rfl (wk_goto r106_109 ?_))
          exact wp_fg (le_s (le_s (le_s (le_s (le_n le_0))))) (ih983 (3000 - (v888 + 1)).toNat (by omega) M921 v885 (v888 + 1) rfl hP922 hF924 ((hQ923.at g_739_13 rfl).trans e894) ((hQ923.at g_739_7 rfl).trans e895) ((hQ923.at g_739_15 rfl).trans e896) (by first | with_reducible assumption | omega) (by first | with_reducible assumption | omega) (by first | with_reducible assumption | omega) (by first | with_reducible assumption | omega) (WS_sm (Sm.fr hQ923 rfl) pr897) (QW_sm (Sm.fr hQ923 rfl) pr898) (CFP_sm (Sm.fr hQ923 rfl) pr899) (WQe_sm (Sm.fr hQ923 rfl) pr900) (by first | with_reducible assumption | omega) (by first | with_reducible assumption | omega) (by first | with_reducible assumption | omega) (by first | with_reducible assumption | omega) (by have q1 := ti905; have := cnF_le (u := fun k => M0 752 k) (a := AL M0) (w := v888) (n := v888 + 1) (by omega); omega))
      · intro h982
        refine wk_goto r106_20 (wk_inc3 r106_106 rfl (wk_goto r106_109 ?_))
        exact wp_fg (le_s (le_s (le_s (le_s (le_s le_0))))) (ih983 (3000 - (v888 + 1)).toNat (by omega) M891 v885 (v888 + 1) rfl hP892 hF893 e894 e895 e896 (by first | with_reducible assumption | omega) (by first | with_reducible assumption | omega) (by first | with_reducible assumption | omega) (by first | with_reducible assumption | omega) pr897 pr898 pr899 pr900 (by first | with_reducible assumption | omega) (by first | with_reducible assumption | omega) (by first | with_reducible assumption | omega) (by first | with_reducible assumption | omega) (by have q1 := ti905; have := cnF_le (u := fun k => M0 752 k) (a := AL M0) (w := v888) (n := v888 + 1) (by omega); omega))
  exact wp_fg (le_s (le_s (le_s (le_s (le_s le_0))))) (c4_983 _ M0 0 0 rfl hP0 hF0 ex739_13 ex739_7 ex739_15 (by first | with_reducible assumption | omega) (by first | with_reducible assumption | omega) (by first | with_reducible assumption | omega) (by first | with_reducible assumption | omega) pp_WS pp_QW pp_C3 (WQe_rf (fun w a b => xp1 w a (by rw [ex739_7] at b; exact b))) (by first | with_reducible assumption | omega) (by first | with_reducible assumption | omega) (by first | with_reducible assumption | omega) (by first | with_reducible assumption | omega) (Int.le_refl _))
def fm_n9122_739 : Nat := 1391322273485383372331907035496831158451413367731766027089699053039146550427648
set_option maxHeartbeats 20000000 in
/-- IslandHallModel.riddle -/
theorem n9122_739 {B : eB} (d : Nat) (M0 : Mm) (p1 : Int) (x739_13 : Int) (x739_7 : Int) (x739_1 : Int) (x739_15 : Int) (hP0 : Pw M0) (l1 : (-2147483648) ≤ p1) (u1 : p1 ≤ 2147483647) (ex739_13 : M0 739 13 = x739_13) (lx739_13 : 0 ≤ x739_13) (ux739_13 : x739_13 ≤ 30) (ex739_7 : M0 739 7 = x739_7) (lx739_7 : 0 ≤ x739_7) (ux739_7 : x739_7 ≤ 3000) (ex739_1 : M0 739 1 = x739_1) (lx739_1 : 0 ≤ x739_1) (ux739_1 : x739_1 ≤ 7) (ex739_15 : M0 739 15 = x739_15) (lx739_15 : 0 ≤ x739_15) (ux739_15 : x739_15 ≤ 12) (xp0 : ∀ w : Int, 0 ≤ w → w < x739_7 → 0 ≤ M0 751 w ∧ M0 751 w < pw x739_15) (pp_WS : WS M0) (pp_QW : QW M0) : Ct B (d + 7) 122 [R 739, I p1] M0 (qI fun z M => Pw M ∧ Fr fm_n9122_739 M0 M ∧ (-2) ≤ z ∧ z ≤ 2 ∧ (∀ w : Int, 0 ≤ w → w < x739_7 → M 751 w = M0 751 w) ∧ (WS M) ∧ (QW M) ∧ (WPe M M0)) := by
  refine ct_of (d := d + 6) (k := 3) (L := [some (R 739), some (I p1), none, none, none]) rfl rfl rfl ?_
  have hF0 := Fr.rf fm_n9122_739 M0
  generalize hQ : (qI fun z M => Pw M ∧ Fr fm_n9122_739 M0 M ∧ (-2) ≤ z ∧ z ≤ 2 ∧ (∀ w : Int, 0 ≤ w → w < x739_7 → M 751 w = M0 751 w) ∧ (WS M) ∧ (QW M) ∧ (WPe M M0)) = Q
  refine wk_al0 r122_0 (wk_c1 r122_1 (wk_putfi81 r122_2 fd_739_0 (wk_nw g_739_0 rfl hP0 hF0 (uf_739_0 (by decide)) ?_)))
  intro M1 hP2 hF3 e4
  refine wk_al0 r122_5 (wk_il1 r122_6 ?_)
  refine wk_iflt r122_7 ⟨by omega, by omega⟩ ?_ ?_
  · intro h5
    refine wk_c1 r122_19 (wk_c1 r122_20 (wk_cv3 r122_21 kc_739_123 rfl (m9123_739 _ M1 0 1 0 hP2 (by decide) (by decide) (by decide) (by decide) (mUp_at e4) (by first | with_reducible assumption | omega) (by first | with_reducible assumption | omega)) (cqI ?_)))
    rintro v12 M6 ⟨hP7, hQ8, h13, h14, h10, xh11⟩
    have hF9 : Fr fm_n9122_739 M0 M6 := hF3.tr hQ8 rfl
    refine wk_ifne r122_24 ⟨by omega, by omega⟩ ?_ ?_
    · intro h15
      exfalso
      omega
    · intro h16
      refine wk_c1 r122_27 ?_
      subst hQ; exact wk_iret r122_28 (⟨rfl, _, rfl, hP7, hF9, by omega, by omega, fun w a b => by rw [hQ8.at (ga_751 _) rfl, e4, mUp_ne (Or.inl (by decide))], (WS_sm (Sm.fr hQ8 rfl) (WS_sm (Sm.up e4 g_739_0 rfl) pp_WS)), (QW_sm (Sm.fr hQ8 rfl) (QW_sm (Sm.up e4 g_739_0 rfl) pp_QW)), (WPe_sm (Sm.fr hQ8 rfl) (WPe_sm (Sm.up e4 g_739_0 rfl) (WPe_rf M0)))⟩)
  · intro h17
    refine wk_il1 r122_10 (wk_c1 r122_11 ?_)
    refine wk_icgt r122_12 ⟨by omega, by omega⟩ (by decide) ?_ ?_
    · intro h18
      refine wk_c1 r122_19 (wk_c1 r122_20 (wk_cv3 r122_21 kc_739_123 rfl (m9123_739 _ M1 0 1 0 hP2 (by decide) (by decide) (by decide) (by decide) (mUp_at e4) (by first | with_reducible assumption | omega) (by first | with_reducible assumption | omega)) (cqI ?_)))
      rintro v25 M19 ⟨hP20, hQ21, h26, h27, h23, xh24⟩
      have hF22 : Fr fm_n9122_739 M0 M19 := hF3.tr hQ21 rfl
      refine wk_ifne r122_24 ⟨by omega, by omega⟩ ?_ ?_
      · intro h28
        exfalso
        omega
      · intro h29
        refine wk_c1 r122_27 ?_
        subst hQ; exact wk_iret r122_28 (⟨rfl, _, rfl, hP20, hF22, by omega, by omega, fun w a b => by rw [hQ21.at (ga_751 _) rfl, e4, mUp_ne (Or.inl (by decide))], (WS_sm (Sm.fr hQ21 rfl) (WS_sm (Sm.up e4 g_739_0 rfl) pp_WS)), (QW_sm (Sm.fr hQ21 rfl) (QW_sm (Sm.up e4 g_739_0 rfl) pp_QW)), (WPe_sm (Sm.fr hQ21 rfl) (WPe_sm (Sm.up e4 g_739_0 rfl) (WPe_rf M0)))⟩)
    · intro h30
      refine wk_c1 r122_15 (wk_goto r122_16 (wk_c1 r122_20 (wk_cv3 r122_21 kc_739_123 rfl (m9123_739v1 _ M1 1 1 0 hP2 (by decide) (by decide) (by decide) (by decide) (mUp_at e4) (by first | with_reducible assumption | omega) (by first | with_reducible assumption | omega)) (cqI ?_))))
      rintro v37 M31 ⟨hP32, hQ33, h38, h39, h35, xh36⟩
      obtain rfl := Fr.same hQ33
      refine wk_ifne r122_24 ⟨by omega, by omega⟩ ?_ ?_
      · intro h40
        replace h35 := h35 (z1_of h38 h39 h40)
        refine wk_al0 r122_29 (wk_cv1 r122_30 kc_739_74 rfl (m9074_739 _ M1 x739_7 hP2 (mUp_no e4 ex739_7 (Or.inr (by decide))) (by first | with_reducible assumption | omega) (by first | with_reducible assumption | omega)) (cqI ?_))
        rintro v46 M41 ⟨hP42, hQ43, h47, h48, xh45⟩
        obtain rfl := Fr.same hQ43
        refine wk_c3 r122_33 ?_
        refine wk_icle r122_36 ⟨by omega, by omega⟩ (by decide) ?_ ?_
        · intro h49
          have pr50 : CFP M1 := by unfold CFP; rw [(mUp_no e4 ex739_7 (Or.inr (by decide)))]; rw [← xh45]; omega
          refine wk_al0 r122_42 (wk_getfi r122_43 fd_739_15 (mUp_no e4 ex739_15 (Or.inr (by decide))) (wk_c1 r122_46 (wk_iadd r122_47 (wk_c2 r122_48 ?_))))
          refine wk_icle r122_50 ⟨by omega, by omega⟩ (by decide) ?_ ?_
          · intro h51
            refine wk_c1 r122_55 (wk_is2 r122_56 rfl ?_)
            have c57_4789 : ∀ (k4789 : Nat) (M4624 : Mm) (v4621 : Int), (210 - v4621).toNat = k4789 → Pw M4624 → Fr fm_n9122_739 M0 M4624 → M4624 739 13 = x739_13 → M4624 739 7 = x739_7 → M4624 739 1 = x739_1 → M4624 739 15 = x739_15 → M4624 739 0 = 0 → 0 ≤ v4621 → v4621 ≤ 210 → (WS M4624) → (QW M4624) → (CFP M4624) → (WPe M4624 M0) → (WQe M4624 M0) → Wp B (d + 6) 122 57 [some (R 739), some (I p1), some (I v4621), none, none] [] M4624 Q := by
              refine lp_ind ?_
              intro k4789 ih4789 M4624 v4621 hk4789 hP4625 hF4626 e4627 e4628 e4629 e4630 e4631 h4622 h4623 pr4632 pr4633 pr4634 pr4635 pr4636
              refine wk_il2 r122_57 (wk_c2 r122_58 (wk_al0 r122_60 (wk_getfi r122_61 fd_739_1 e4629 (wk_imul r122_64 ?_))))
              refine wk_icge r122_65 ⟨by omega, by omega⟩ ⟨by omega, by omega⟩ ?_ ?_
              · intro h4637
                refine wk_c1 r122_119 (wk_is2 r122_120 rfl ?_)
                have c121_4742 : ∀ (k4742 : Nat) (M4641 : Mm) (v4638 : Int), (210 - v4638).toNat = k4742 → Pw M4641 → Fr fm_n9122_739 M0 M4641 → M4641 739 13 = x739_13 → M4641 739 7 = x739_7 → M4641 739 1 = x739_1 → M4641 739 15 = x739_15 → M4641 739 0 = 0 → 0 ≤ v4638 → v4638 ≤ 210 → (WS M4641) → (QW M4641) → (CFP M4641) → (WPe M4641 M0) → (WQe M4641 M0) → Wp B (d + 6) 122 121 [some (R 739), some (I p1), some (I v4638), none, none] [] M4641 Q := by
                  refine lp_ind ?_
                  intro k4742 ih4742 M4641 v4638 hk4742 hP4642 hF4643 e4644 e4645 e4646 e4647 e4648 h4639 h4640 pr4649 pr4650 pr4651 pr4652 pr4653
                  refine wk_il2 r122_121 (wk_c2 r122_122 (wk_al0 r122_124 (wk_getfi r122_125 fd_739_1 e4646 (wk_imul r122_128 ?_))))
                  refine wk_icge r122_129 ⟨by omega, by omega⟩ ⟨by omega, by omega⟩ ?_ ?_
                  · intro h4654
                    refine wk_al0 r122_243 (wk_cv1 r122_244 kc_739_64 rfl (n9064_739 _ M4641 x739_15 x739_7 hP4642 e4647 (by first | with_reducible assumption | omega) (by first | with_reducible assumption | omega) e4645 (by first | with_reducible assumption | omega) (by first | with_reducible assumption | omega) (fun w a b => ((pr4653).2.2 w a (by rw [ex739_7]; omega)).1) pr4649 pr4650) (cqI ?_))
                    rintro v4662 M4655 ⟨hP4656, hQ4657, h4663, h4664, xh4659, pr4660, pr4661⟩
                    have hF4658 : Fr fm_n9122_739 M0 M4655 := hF4643.tr hQ4657 rfl
                    refine wk_popi r122_247 (wk_c1 r122_248 ?_)
                    subst hQ; exact wk_iret r122_249 (⟨rfl, _, rfl, hP4656, hF4658, by omega, by omega, fun w a b => by have q1 := pr4653; have q2 := xh4659 w a (by have := q1.2.1; rw [ex739_7] at this; omega); have q3 := (q1.2.2 w a (by rw [ex739_7]; exact b)).2; have q4 := xp0 w a b; rw [ex739_15] at q3; rw [md_eq q4.1 q4.2] at q3; rw [← q3]; exact q2, pr4660, pr4661, (WPe_sm (Sm.fr hQ4657 rfl) pr4652)⟩)
                  · intro h4665
                    refine wk_il2 r122_132 (wk_c2 r122_133 (wk_irem r122_135 ⟨by omega, by omega⟩ (by decide) (wk_al0 r122_136 (wk_getfi r122_137 fd_739_13 e4644 ?_))))
                    refine wk_iclt r122_140 ⟨by omega, by omega⟩ ⟨by omega, by omega⟩ ?_ ?_
                    · intro h4667
                      refine wk_al0 r122_146 (wk_il2 r122_147 (wk_cv2 r122_148 kc_739_106 rfl (n9106_739 _ M4641 v4638 x739_13 x739_7 x739_15 hP4642 (by first | with_reducible assumption | omega) (by first | with_reducible assumption | omega) e4644 (by first | with_reducible assumption | omega) (by first | with_reducible assumption | omega) e4645 (by first | with_reducible assumption | omega) (by first | with_reducible assumption | omega) e4647 (by first | with_reducible assumption | omega) (by first | with_reducible assumption | omega) (by omega) (fun w a b => ((pr4653).2.2 w a (by rw [ex739_7]; omega)).1) pr4649 pr4650 pr4651) (cqI ?_)))
                      rintro v4676 M4668 ⟨hP4669, hQ4670, h4677, h4678, pr4672, pr4673, pr4674, pr4675⟩
                      have hF4671 : Fr fm_n9122_739 M0 M4668 := hF4643.tr hQ4670 rfl
                      have pr4679 : WQe M4668 M0 := WQe_tr pr4675 pr4653
                      refine wk_is3 r122_151 rfl (wk_al0 r122_152 (wk_getfr r122_153 fd_739_16 (br_739_16 hP4669) (wk_al0 r122_156 (wk_getfi r122_157 fd_739_15 ((hQ4670.at g_739_15 rfl).trans e4647) (wk_il2 r122_160 (wk_c2 r122_161 (wk_idiv r122_163 ⟨by omega, by omega⟩ (by decide) (wk_iast r122_164 ar_748 ⟨by omega, by omega⟩ (wk_nw (ga_748 _) rfl hP4669 hF4671 (ua_748 ⟨by omega, by omega⟩) ?_)))))))))
                      intro M4680 hP4681 hF4682 e4683
                      have pr4684 : WPe M4680 M0 := WPe_up (WPe_sm (Sm.fr hQ4670 rfl) pr4652) e4683 (by have q9 := ((hQ4670.at g_739_15 rfl).trans e4647); have q8 := ((WPe_sm (Sm.fr hQ4670 rfl) pr4652)).1; omega)
                      refine wk_il2 r122_165 (wk_is4 r122_166 rfl ?_)
                      have c168_4740 : ∀ (k4740 : Nat) (M4688 : Mm) (v4685 : Int), (210 - v4685).toNat = k4740 → Pw M4688 → Fr fm_n9122_739 M0 M4688 → M4688 739 13 = x739_13 → M4688 739 7 = x739_7 → M4688 739 1 = x739_1 → M4688 739 15 = x739_15 → M4688 739 0 = 0 → 0 ≤ v4685 → v4685 ≤ 210 → (WS M4688) → (QW M4688) → (CFP M4688) → (WPe M4688 M0) → (WQe M4688 M0) → Wp B (d + 6) 122 168 [some (R 739), some (I p1), some (I v4638), some (I v4676), some (I v4685)] [] M4688 Q := by
                        refine lp_ind ?_
                        intro k4740 ih4740 M4688 v4685 hk4740 hP4689 hF4690 e4691 e4692 e4693 e4694 e4695 h4686 h4687 pr4696 pr4697 pr4698 pr4699 pr4700
                        refine wk_il4 r122_168 (wk_c2 r122_170 (wk_al0 r122_172 (wk_getfi r122_173 fd_739_1 e4693 (wk_imul r122_176 ?_))))
                        refine wk_icge r122_177 ⟨by omega, by omega⟩ ⟨by omega, by omega⟩ ?_ ?_
                        · intro h4701
                          refine wk_inc2 r122_237 rfl (wk_goto r122_240 ?_)
                          exact wp_fg (le_s (le_s (le_s (le_n (le_n le_0))))) (ih4742 (210 - (v4638 + 1)).toNat (by omega) M4688 (v4638 + 1) rfl hP4689 hF4690 e4691 e4692 e4693 e4694 e4695 (by first | with_reducible assumption | omega) (by first | with_reducible assumption | omega) pr4696 pr4697 pr4698 pr4699 pr4700)
                        · intro h4702
                          refine wk_il4 r122_180 (wk_c2 r122_182 (wk_irem r122_184 ⟨by omega, by omega⟩ (by decide) (wk_al0 r122_185 (wk_getfi r122_186 fd_739_13 e4691 ?_))))
                          refine wk_icge r122_189 ⟨by omega, by omega⟩ ⟨by omega, by omega⟩ ?_ ?_
                          · intro h4704
                            refine wk_inc4 r122_231 rfl (wk_goto r122_234 ?_)
                            exact wp_fg (le_s (le_s (le_s (le_s (le_s le_0))))) (ih4740 (210 - (v4685 + 1)).toNat (by omega) M4688 (v4685 + 1) rfl hP4689 hF4690 e4691 e4692 e4693 e4694 e4695 (by first | with_reducible assumption | omega) (by first | with_reducible assumption | omega) pr4696 pr4697 pr4698 pr4699 pr4700)
                          · intro h4705
                            refine wk_al0 r122_192 (wk_il3 r122_193 (wk_il4 r122_194 (wk_il1 r122_196 (wk_cv4 r122_197 kc_739_103 rfl (m9103_739 _ M4688 v4676 v4685 p1 x739_13 x739_15 hP4689 (by first | with_reducible assumption | omega) (by first | with_reducible assumption | omega) (by first | with_reducible assumption | omega) (by first | with_reducible assumption | omega) (by first | with_reducible assumption | omega) (by first | with_reducible assumption | omega) e4691 (by first | with_reducible assumption | omega) (by first | with_reducible assumption | omega) e4694 (by first | with_reducible assumption | omega) (by first | with_reducible assumption | omega) (by omega) pr4696 pr4697 pr4698) (cqI ?_)))))
                            rintro v4713 M4706 ⟨hP4707, hQ4708, h4714, h4715, pr4710, pr4711, pr4712⟩
                            have hF4709 : Fr fm_n9122_739 M0 M4706 := hF4690.tr hQ4708 rfl
                            refine wk_ifne r122_200 ⟨by omega, by omega⟩ ?_ ?_
                            · intro h4716
                              refine wk_al0 r122_206 (wk_c1 r122_207 (wk_putfi81 r122_208 fd_739_65 (wk_nw g_739_65 rfl hP4707 hF4709 (uf_739_65 (by decide)) ?_)))
                              intro M4717 hP4718 hF4719 e4720
                              refine wk_al0 r122_211 (wk_getfr r122_212 fd_739_66 (br_739_66 hP4718) (wk_c1 r122_215 (wk_il2 r122_216 (wk_iast r122_217 ar_767 (by decide) (wk_nw (ga_767 _) rfl hP4718 hF4719 (ua_767 ⟨by omega, by omega⟩) ?_)))))
                              intro M4721 hP4722 hF4723 e4724
                              refine wk_al0 r122_218 (wk_getfr r122_219 fd_739_66 (br_739_66 hP4722) (wk_c1 r122_222 (wk_il4 r122_223 (wk_iast r122_225 ar_767 (by decide) (wk_nw (ga_767 _) rfl hP4722 hF4723 (ua_767 ⟨by omega, by omega⟩) ?_)))))
                              intro M4725 hP4726 hF4727 e4728
                              refine wk_al0 r122_226 (wk_cv1 r122_227 kc_739_64 rfl (n9064_739 _ M4725 x739_15 x739_7 hP4726 (mUp_no e4728 (mUp_no e4724 (mUp_no e4720 ((hQ4708.at g_739_15 rfl).trans e4694) (Or.inr (by decide))) (Or.inl (by decide))) (Or.inl (by decide))) (by first | with_reducible assumption | omega) (by first | with_reducible assumption | omega) (mUp_no e4728 (mUp_no e4724 (mUp_no e4720 ((hQ4708.at g_739_7 rfl).trans e4692) (Or.inr (by decide))) (Or.inl (by decide))) (Or.inl (by decide))) (by first | with_reducible assumption | omega) (by first | with_reducible assumption | omega) (fun w a b => (((WQe_sm (Sm.up e4728 (ga_767 _) rfl) (WQe_sm (Sm.up e4724 (ga_767 _) rfl) (WQe_sm (Sm.up e4720 g_739_65 rfl) (WQe_sm (Sm.fr hQ4708 rfl) pr4700))))).2.2 w a (by rw [ex739_7]; omega)).1) (WS_sm (Sm.up e4728 (ga_767 _) rfl) (WS_sm (Sm.up e4724 (ga_767 _) rfl) (WS_sm (Sm.up e4720 g_739_65 rfl) pr4710))) (QW_sm (Sm.up e4728 (ga_767 _) rfl) (QW_sm (Sm.up e4724 (ga_767 _) rfl) (QW_sm (Sm.up e4720 g_739_65 rfl) pr4711)))) (cqI ?_))
                              rintro v4736 M4729 ⟨hP4730, hQ4731, h4737, h4738, xh4733, pr4734, pr4735⟩
                              have hF4732 : Fr fm_n9122_739 M0 M4729 := hF4727.tr hQ4731 rfl
                              subst hQ; exact wk_iret r122_230 (⟨rfl, _, rfl, hP4730, hF4732, by omega, by omega, fun w a b => by have q1 := (WQe_sm (Sm.up e4728 (ga_767 _) rfl) (WQe_sm (Sm.up e4724 (ga_767 _) rfl) (WQe_sm (Sm.up e4720 g_739_65 rfl) (WQe_sm (Sm.fr hQ4708 rfl) pr4700)))); have q2 := xh4733 w a (by have := q1.2.1; rw [ex739_7] at this; omega); have q3 := (q1.2.2 w a (by rw [ex739_7]; exact b)).2; have q4 := xp0 w a b; rw [ex739_15] at q3; rw [md_eq q4.1 q4.2] at q3; rw [← q3]; exact q2, pr4734, pr4735, (WPe_sm (Sm.fr hQ4731 rfl) (WPe_sm (Sm.up e4728 (ga_767 _) rfl) (WPe_sm (Sm.up e4724 (ga_767 _) rfl) (WPe_sm (Sm.up e4720 g_739_65 rfl) (WPe_sm (Sm.fr hQ4708 rfl) pr4699)))))⟩)
                            · intro h4739
                              refine wk_goto r122_203 (wk_inc4 r122_231 rfl (wk_goto r122_234 ?_))
                              exact wp_fg (le_s (le_s (le_s (le_s (le_s le_0))))) (ih4740 (210 - (v4685 + 1)).toNat (by omega) M4706 (v4685 + 1) rfl hP4707 hF4709 ((hQ4708.at g_739_13 rfl).trans e4691) ((hQ4708.at g_739_7 rfl).trans e4692) ((hQ4708.at g_739_1 rfl).trans e4693) ((hQ4708.at g_739_15 rfl).trans e4694) ((hQ4708.at g_739_0 rfl).trans e4695) (by first | with_reducible assumption | omega) (by first | with_reducible assumption | omega) pr4710 pr4711 pr4712 (WPe_sm (Sm.fr hQ4708 rfl) pr4699) (WQe_sm (Sm.fr hQ4708 rfl) pr4700))
                      exact wp_fg (le_s (le_s (le_s (le_s (le_s le_0))))) (c168_4740 _ M4680 v4638 rfl hP4681 hF4682 (mUp_no e4683 ((hQ4670.at g_739_13 rfl).trans e4644) (Or.inl (by decide))) (mUp_no e4683 ((hQ4670.at g_739_7 rfl).trans e4645) (Or.inl (by decide))) (mUp_no e4683 ((hQ4670.at g_739_1 rfl).trans e4646) (Or.inl (by decide))) (mUp_no e4683 ((hQ4670.at g_739_15 rfl).trans e4647) (Or.inl (by decide))) (mUp_no e4683 ((hQ4670.at g_739_0 rfl).trans e4648) (Or.inl (by decide))) (by first | with_reducible assumption | omega) (by first | with_reducible assumption | omega) (WS_sm (Sm.up e4683 (ga_748 _) rfl) pr4672) (QW_sm (Sm.up e4683 (ga_748 _) rfl) pr4673) (CFP_sm (Sm.up e4683 (ga_748 _) rfl) pr4674) pr4684 (WQe_sm (Sm.up e4683 (ga_748 _) rfl) pr4679))
                    · intro h4741
                      refine wk_goto r122_143 (wk_inc2 r122_237 rfl (wk_goto r122_240 ?_))
                      exact wp_fg (le_s (le_s (le_s (le_s (le_s le_0))))) (ih4742 (210 - (v4638 + 1)).toNat (by omega) M4641 (v4638 + 1) rfl hP4642 hF4643 e4644 e4645 e4646 e4647 e4648 (by first | with_reducible assumption | omega) (by first | with_reducible assumption | omega) pr4649 pr4650 pr4651 pr4652 pr4653)
                exact wp_fg (le_s (le_s (le_s (le_s (le_s le_0))))) (c121_4742 _ M4624 0 rfl hP4625 hF4626 e4627 e4628 e4629 e4630 e4631 (by first | with_reducible assumption | omega) (by first | with_reducible assumption | omega) pr4632 pr4633 pr4634 pr4635 pr4636)
              · intro h4743
                refine wk_il2 r122_68 (wk_c2 r122_69 (wk_irem r122_71 ⟨by omega, by omega⟩ (by decide) (wk_al0 r122_72 (wk_getfi r122_73 fd_739_13 e4627 ?_))))
                refine wk_icge r122_76 ⟨by omega, by omega⟩ ⟨by omega, by omega⟩ ?_ ?_
                · intro h4745
                  refine wk_inc2 r122_113 rfl (wk_goto r122_116 ?_)
                  exact wp_fg (le_s (le_s (le_s (le_s (le_s le_0))))) (ih4789 (210 - (v4621 + 1)).toNat (by omega) M4624 (v4621 + 1) rfl hP4625 hF4626 e4627 e4628 e4629 e4630 e4631 (by first | with_reducible assumption | omega) (by first | with_reducible assumption | omega) pr4632 pr4633 pr4634 pr4635 pr4636)
                · intro h4746
                  refine wk_al0 r122_79 (wk_al0 r122_80 (wk_il2 r122_81 (wk_cv2 r122_82 kc_739_106 rfl (n9106_739 _ M4624 v4621 x739_13 x739_7 x739_15 hP4625 (by first | with_reducible assumption | omega) (by first | with_reducible assumption | omega) e4627 (by first | with_reducible assumption | omega) (by first | with_reducible assumption | omega) e4628 (by first | with_reducible assumption | omega) (by first | with_reducible assumption | omega) e4630 (by first | with_reducible assumption | omega) (by first | with_reducible assumption | omega) (by omega) (fun w a b => ((pr4636).2.2 w a (by rw [ex739_7]; omega)).1) pr4632 pr4633 pr4634) (cqI ?_))))
                  rintro v4755 M4747 ⟨hP4748, hQ4749, h4756, h4757, pr4751, pr4752, pr4753, pr4754⟩
                  have hF4750 : Fr fm_n9122_739 M0 M4747 := hF4626.tr hQ4749 rfl
                  have pr4758 : WQe M4747 M0 := WQe_tr pr4754 pr4636
                  refine wk_c1 r122_85 (wk_il1 r122_86 (wk_cv4 r122_87 kc_739_103 rfl (m9103_739 _ M4747 v4755 (-1) p1 x739_13 x739_15 hP4748 (by first | with_reducible assumption | omega) (by first | with_reducible assumption | omega) (by decide) (by decide) (by first | with_reducible assumption | omega) (by first | with_reducible assumption | omega) ((hQ4749.at g_739_13 rfl).trans e4627) (by first | with_reducible assumption | omega) (by first | with_reducible assumption | omega) ((hQ4749.at g_739_15 rfl).trans e4630) (by first | with_reducible assumption | omega) (by first | with_reducible assumption | omega) (by omega) pr4751 pr4752 pr4753) (cqI ?_)))
                  rintro v4766 M4759 ⟨hP4760, hQ4761, h4767, h4768, pr4763, pr4764, pr4765⟩
                  have hF4762 : Fr fm_n9122_739 M0 M4759 := hF4750.tr hQ4761 rfl
                  refine wk_ifne r122_90 ⟨by omega, by omega⟩ ?_ ?_
                  · intro h4769
                    refine wk_al0 r122_96 (wk_c1 r122_97 (wk_putfi81 r122_98 fd_739_65 (wk_nw g_739_65 rfl hP4760 hF4762 (uf_739_65 (by decide)) ?_)))
                    intro M4770 hP4771 hF4772 e4773
                    refine wk_al0 r122_101 (wk_getfr r122_102 fd_739_66 (br_739_66 hP4771) (wk_c1 r122_105 (wk_il2 r122_106 (wk_iast r122_107 ar_767 (by decide) (wk_nw (ga_767 _) rfl hP4771 hF4772 (ua_767 ⟨by omega, by omega⟩) ?_)))))
                    intro M4774 hP4775 hF4776 e4777
                    refine wk_al0 r122_108 (wk_cv1 r122_109 kc_739_64 rfl (n9064_739 _ M4774 x739_15 x739_7 hP4775 (mUp_no e4777 (mUp_no e4773 ((hQ4761.at g_739_15 rfl).trans ((hQ4749.at g_739_15 rfl).trans e4630)) (Or.inr (by decide))) (Or.inl (by decide))) (by first | with_reducible assumption | omega) (by first | with_reducible assumption | omega) (mUp_no e4777 (mUp_no e4773 ((hQ4761.at g_739_7 rfl).trans ((hQ4749.at g_739_7 rfl).trans e4628)) (Or.inr (by decide))) (Or.inl (by decide))) (by first | with_reducible assumption | omega) (by first | with_reducible assumption | omega) (fun w a b => (((WQe_sm (Sm.up e4777 (ga_767 _) rfl) (WQe_sm (Sm.up e4773 g_739_65 rfl) (WQe_sm (Sm.fr hQ4761 rfl) pr4758)))).2.2 w a (by rw [ex739_7]; omega)).1) (WS_sm (Sm.up e4777 (ga_767 _) rfl) (WS_sm (Sm.up e4773 g_739_65 rfl) pr4763)) (QW_sm (Sm.up e4777 (ga_767 _) rfl) (QW_sm (Sm.up e4773 g_739_65 rfl) pr4764))) (cqI ?_))
                    rintro v4785 M4778 ⟨hP4779, hQ4780, h4786, h4787, xh4782, pr4783, pr4784⟩
                    have hF4781 : Fr fm_n9122_739 M0 M4778 := hF4776.tr hQ4780 rfl
                    subst hQ; exact wk_iret r122_112 (⟨rfl, _, rfl, hP4779, hF4781, by omega, by omega, fun w a b => by have q1 := (WQe_sm (Sm.up e4777 (ga_767 _) rfl) (WQe_sm (Sm.up e4773 g_739_65 rfl) (WQe_sm (Sm.fr hQ4761 rfl) pr4758))); have q2 := xh4782 w a (by have := q1.2.1; rw [ex739_7] at this; omega); have q3 := (q1.2.2 w a (by rw [ex739_7]; exact b)).2; have q4 := xp0 w a b; rw [ex739_15] at q3; rw [md_eq q4.1 q4.2] at q3; rw [← q3]; exact q2, pr4783, pr4784, (WPe_sm (Sm.fr hQ4780 rfl) (WPe_sm (Sm.up e4777 (ga_767 _) rfl) (WPe_sm (Sm.up e4773 g_739_65 rfl) (WPe_sm (Sm.fr hQ4761 rfl) (WPe_sm (Sm.fr hQ4749 rfl) pr4635)))))⟩)
                  · intro h4788
                    refine wk_goto r122_93 (wk_inc2 r122_113 rfl (wk_goto r122_116 ?_))
                    exact wp_fg (le_s (le_s (le_s (le_s (le_s le_0))))) (ih4789 (210 - (v4621 + 1)).toNat (by omega) M4759 (v4621 + 1) rfl hP4760 hF4762 ((hQ4761.at g_739_13 rfl).trans ((hQ4749.at g_739_13 rfl).trans e4627)) ((hQ4761.at g_739_7 rfl).trans ((hQ4749.at g_739_7 rfl).trans e4628)) ((hQ4761.at g_739_1 rfl).trans ((hQ4749.at g_739_1 rfl).trans e4629)) ((hQ4761.at g_739_15 rfl).trans ((hQ4749.at g_739_15 rfl).trans e4630)) ((hQ4761.at g_739_0 rfl).trans ((hQ4749.at g_739_0 rfl).trans e4631)) (by first | with_reducible assumption | omega) (by first | with_reducible assumption | omega) pr4763 pr4764 pr4765 (WPe_sm (Sm.fr hQ4761 rfl) (WPe_sm (Sm.fr hQ4749 rfl) pr4635)) (WQe_sm (Sm.fr hQ4761 rfl) pr4758))
            exact wp_fg (le_s (le_s (le_s (le_s (le_s le_0))))) (c57_4789 _ M1 0 rfl hP2 hF3 (mUp_no e4 ex739_13 (Or.inr (by decide))) (mUp_no e4 ex739_7 (Or.inr (by decide))) (mUp_no e4 ex739_1 (Or.inr (by decide))) (mUp_no e4 ex739_15 (Or.inr (by decide))) (mUp_at e4) (by first | with_reducible assumption | omega) (by first | with_reducible assumption | omega) (WS_sm (Sm.up e4 g_739_0 rfl) pp_WS) (QW_sm (Sm.up e4 g_739_0 rfl) pp_QW) pr50 (WPe_sm (Sm.up e4 g_739_0 rfl) (WPe_rf M0)) (WQe_sm (Sm.up e4 g_739_0 rfl) (WQe_rf (fun w a b => (xp0 w a (by rw [ex739_7] at b; exact b)).1))))
          · intro h4790
            refine wk_c1 r122_53 ?_
            subst hQ; exact wk_iret r122_54 (⟨rfl, _, rfl, hP2, hF3, by omega, by omega, fun w a b => by rw [e4, mUp_ne (Or.inl (by decide))], (WS_sm (Sm.up e4 g_739_0 rfl) pp_WS), (QW_sm (Sm.up e4 g_739_0 rfl) pp_QW), (WPe_sm (Sm.up e4 g_739_0 rfl) (WPe_rf M0))⟩)
        · intro h4791
          refine wk_c2 r122_39 ?_
          subst hQ; exact wk_iret r122_41 (⟨rfl, _, rfl, hP2, hF3, by omega, by omega, fun w a b => by rw [e4, mUp_ne (Or.inl (by decide))], (WS_sm (Sm.up e4 g_739_0 rfl) pp_WS), (QW_sm (Sm.up e4 g_739_0 rfl) pp_QW), (WPe_sm (Sm.up e4 g_739_0 rfl) (WPe_rf M0))⟩)
      · intro h4792
        clear h35
        refine wk_c1 r122_27 ?_
        subst hQ; exact wk_iret r122_28 (⟨rfl, _, rfl, hP2, hF3, by omega, by omega, fun w a b => by rw [e4, mUp_ne (Or.inl (by decide))], (WS_sm (Sm.up e4 g_739_0 rfl) pp_WS), (QW_sm (Sm.up e4 g_739_0 rfl) pp_QW), (WPe_sm (Sm.up e4 g_739_0 rfl) (WPe_rf M0))⟩)
