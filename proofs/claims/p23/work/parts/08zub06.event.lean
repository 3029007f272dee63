
def fm_n8056_739 : Nat := 0
/-- IslandHallModel.canSay -/
theorem n8056_739 {B : eB} (d : Nat) (M0 : Mm) (p1 : Int) (p2 : Int) (p3 : Int) (p4 : Int) (hP0 : Pw M0) (l1 : 0 ≤ p1) (u1 : p1 ≤ 2) (l2 : 0 ≤ p2) (u2 : p2 ≤ 1) (l3 : (-1) ≤ p3) (u3 : p3 ≤ 1) (l4 : 0 ≤ p4) (u4 : p4 ≤ 2999) : Ct B (d + 2) 56 [R 739, I p1, I p2, I p3, I p4] M0 (qI fun z M => Pw M ∧ Fr fm_n8056_739 M0 M ∧ 0 ≤ z ∧ z ≤ 1 ∧ (∀ (e : Ev) (p : Int) (s : Bool), e (20 + p) = p1 → e 12 = M0 746 p4 → p2 = b2i s → z = b2i (csV e p p3 s))) := by
  refine ct_of (d := d + 1) (k := 1) (L := [some (R 739), some (I p1), some (I p2), some (I p3), some (I p4), none]) rfl rfl rfl ?_
  have hF0 := Fr.rf fm_n8056_739 M0
  generalize hQ : (qI fun z M => Pw M ∧ Fr fm_n8056_739 M0 M ∧ 0 ≤ z ∧ z ≤ 1 ∧ (∀ (e : Ev) (p : Int) (s : Bool), e (20 + p) = p1 → e 12 = M0 746 p4 → p2 = b2i s → z = b2i (csV e p p3 s))) = Q
  refine wk_il1 r56_0 (wk_c1 r56_1 ?_)
  refine wk_icne r56_2 ⟨by omega, by omega⟩ (by decide) ?_ ?_
  · intro h1
    refine wk_il3 r56_7 (wk_c1 r56_8 ?_)
    refine wk_icne r56_9 ⟨by omega, by omega⟩ (by decide) ?_ ?_
    · intro h2
      refine wk_il3 r56_16 (wk_al0 r56_17 (wk_getfr r56_18 fd_739_12 (br_739_12 hP0) (wk_il4 r56_21 (wk_ialdb r56_23 ar_746 ⟨by omega, by omega⟩ (fun q0 q1 => ba_746 hP0 q0 q1) ?_))))
      intro v3 h5 h6 e4
      refine wk_icne r56_24 ⟨by omega, by omega⟩ ⟨by omega, by omega⟩ ?_ ?_
      · intro h7
        refine wk_c1 r56_31 (wk_cs102_1 r56_32 rfl (n8115 _ M0 0 hP0 (by decide) (by decide)) (cqI ?_))
        rintro v13 M8 ⟨hP9, hQ10, h14, h15, xh12⟩
        obtain rfl := Fr.same hQ10
        refine wk_is5 r56_35 rfl (wk_il1 r56_37 (wk_c1 r56_38 ?_))
        refine wk_icne r56_39 ⟨by omega, by omega⟩ (by decide) ?_ ?_
        · intro h16
          refine wk_il2 r56_48 (wk_il5 r56_49 ?_)
          refine wk_icne r56_51 ⟨by omega, by omega⟩ ⟨by omega, by omega⟩ ?_ ?_
          · intro h17
            refine wk_c1 r56_58 ?_
            subst hQ; exact wk_zret r56_59 (by decide) (⟨rfl, _, rfl, hP0, hF0, by omega, by omega, fun e p s h hy hs => cs_mk h (by omega) (hy.trans e4) hs (x := v13) (by omega) (by omega)⟩)
          · intro h18
            refine wk_c1 r56_54 (wk_goto r56_55 ?_)
            subst hQ; exact wk_zret r56_59 (by decide) (⟨rfl, _, rfl, hP0, hF0, by omega, by omega, fun e p s h hy hs => cs_mk h (by omega) (hy.trans e4) hs (x := v13) (by omega) (by omega)⟩)
        · intro h19
          refine wk_c1 r56_42 (wk_il2 r56_43 (wk_isub r56_44 (wk_goto r56_45 (wk_il5 r56_49 ?_))))
          refine wk_icne r56_51 ⟨by omega, by omega⟩ ⟨by omega, by omega⟩ ?_ ?_
          · intro h20
            refine wk_c1 r56_58 ?_
            subst hQ; exact wk_zret r56_59 (by decide) (⟨rfl, _, rfl, hP0, hF0, by omega, by omega, fun e p s h hy hs => cs_mk h (by omega) (hy.trans e4) hs (x := v13) (by omega) (by omega)⟩)
          · intro h21
            refine wk_c1 r56_54 (wk_goto r56_55 ?_)
            subst hQ; exact wk_zret r56_59 (by decide) (⟨rfl, _, rfl, hP0, hF0, by omega, by omega, fun e p s h hy hs => cs_mk h (by omega) (hy.trans e4) hs (x := v13) (by omega) (by omega)⟩)
      · intro h22
        refine wk_c1 r56_27 (wk_goto r56_28 (wk_cs102_1 r56_32 rfl (n8115 _ M0 1 hP0 (by decide) (by decide)) (cqI ?_)))
        rintro v28 M23 ⟨hP24, hQ25, h29, h30, xh27⟩
        obtain rfl := Fr.same hQ25
        refine wk_is5 r56_35 rfl (wk_il1 r56_37 (wk_c1 r56_38 ?_))
        refine wk_icne r56_39 ⟨by omega, by omega⟩ (by decide) ?_ ?_
        · intro h31
          refine wk_il2 r56_48 (wk_il5 r56_49 ?_)
          refine wk_icne r56_51 ⟨by omega, by omega⟩ ⟨by omega, by omega⟩ ?_ ?_
          · intro h32
            refine wk_c1 r56_58 ?_
            subst hQ; exact wk_zret r56_59 (by decide) (⟨rfl, _, rfl, hP0, hF0, by omega, by omega, fun e p s h hy hs => cs_mk h (by omega) (hy.trans e4) hs (x := v28) (by omega) (by omega)⟩)
          · intro h33
            refine wk_c1 r56_54 (wk_goto r56_55 ?_)
            subst hQ; exact wk_zret r56_59 (by decide) (⟨rfl, _, rfl, hP0, hF0, by omega, by omega, fun e p s h hy hs => cs_mk h (by omega) (hy.trans e4) hs (x := v28) (by omega) (by omega)⟩)
        · intro h34
          refine wk_c1 r56_42 (wk_il2 r56_43 (wk_isub r56_44 (wk_goto r56_45 (wk_il5 r56_49 ?_))))
          refine wk_icne r56_51 ⟨by omega, by omega⟩ ⟨by omega, by omega⟩ ?_ ?_
          · intro h35
            refine wk_c1 r56_58 ?_
            subst hQ; exact wk_zret r56_59 (by decide) (⟨rfl, _, rfl, hP0, hF0, by omega, by omega, fun e p s h hy hs => cs_mk h (by omega) (hy.trans e4) hs (x := v28) (by omega) (by omega)⟩)
          · intro h36
            refine wk_c1 r56_54 (wk_goto r56_55 ?_)
            subst hQ; exact wk_zret r56_59 (by decide) (⟨rfl, _, rfl, hP0, hF0, by omega, by omega, fun e p s h hy hs => cs_mk h (by omega) (hy.trans e4) hs (x := v28) (by omega) (by omega)⟩)
    · intro h37
      refine wk_c1 r56_12 (wk_goto r56_13 (wk_is5 r56_35 rfl (wk_il1 r56_37 (wk_c1 r56_38 ?_))))
      refine wk_icne r56_39 ⟨by omega, by omega⟩ (by decide) ?_ ?_
      · intro h38
        refine wk_il2 r56_48 (wk_il5 r56_49 ?_)
        refine wk_icne r56_51 ⟨by omega, by omega⟩ (by decide) ?_ ?_
        · intro h39
          refine wk_c1 r56_58 ?_
          subst hQ; exact wk_zret r56_59 (by decide) (⟨rfl, _, rfl, hP0, hF0, by omega, by omega, fun e p s h hy hs => cs_mk h (by omega) hy hs (x := 1) (by omega) (by omega)⟩)
        · intro h40
          refine wk_c1 r56_54 (wk_goto r56_55 ?_)
          subst hQ; exact wk_zret r56_59 (by decide) (⟨rfl, _, rfl, hP0, hF0, by omega, by omega, fun e p s h hy hs => cs_mk h (by omega) hy hs (x := 1) (by omega) (by omega)⟩)
      · intro h41
        refine wk_c1 r56_42 (wk_il2 r56_43 (wk_isub r56_44 (wk_goto r56_45 (wk_il5 r56_49 ?_))))
        refine wk_icne r56_51 ⟨by omega, by omega⟩ (by decide) ?_ ?_
        · intro h42
          refine wk_c1 r56_58 ?_
          subst hQ; exact wk_zret r56_59 (by decide) (⟨rfl, _, rfl, hP0, hF0, by omega, by omega, fun e p s h hy hs => cs_mk h (by omega) hy hs (x := 1) (by omega) (by omega)⟩)
        · intro h43
          refine wk_c1 r56_54 (wk_goto r56_55 ?_)
          subst hQ; exact wk_zret r56_59 (by decide) (⟨rfl, _, rfl, hP0, hF0, by omega, by omega, fun e p s h hy hs => cs_mk h (by omega) hy hs (x := 1) (by omega) (by omega)⟩)
  · intro h44
    refine wk_c1 r56_5 ?_
    subst hQ; exact wk_zret r56_6 (by decide) (⟨rfl, _, rfl, hP0, hF0, by omega, by omega, fun e p s h _ _ => cs_2 (h.trans (by omega)) (by omega)⟩)
def fm_n8128_739 : Nat := 1809251394438377845161853827458666587891013942719528908517073861377953628160
/-- IslandHallModel.soOf -/
theorem n8128_739 {B : eB} (d : Nat) (M0 : Mm) (p1 : Int) (p2 : Int) (p3 : Int) (p4 : Int) (x739_13 : Int) (x739_1 : Int) (L : List Int) (hP0 : Pw M0) (l1 : 0 ≤ p1) (u1 : p1 ≤ 29) (l2 : 0 ≤ p2) (u2 : p2 ≤ 2999) (l3 : 0 ≤ p3) (u3 : p3 ≤ 15) (l4 : (-2147483648) ≤ p4) (u4 : p4 ≤ 2147483647) (ex739_13 : M0 739 13 = x739_13) (lx739_13 : 0 ≤ x739_13) (ux739_13 : x739_13 ≤ 30) (ex739_1 : M0 739 1 = x739_1) (lx739_1 : 0 ≤ x739_1) (ux739_1 : x739_1 ≤ 7) (rp0 : 0 ≤ x739_13 + (-1) * p1 + (-1)) (xp0 : LST (fun k => M0 747 k) (400 * p1) L) (pp_WS : WS M0) : Ct B (d + 5) 128 [R 739, I p1, I p2, I p3, I p4] M0 (qI fun z M => Pw M ∧ Fr fm_n8128_739 M0 M ∧ 0 ≤ z ∧ z ≤ 1 ∧ (∀ b, runR (evF M0 p2 p3 p4) L [] = [b] → z = b2i b)) := by
  refine ct_of (d := d + 4) (k := 0) (L := [some (R 739), some (I p1), some (I p2), some (I p3), some (I p4)]) rfl rfl rfl ?_
  have hF0 := Fr.rf fm_n8128_739 M0
  generalize hQ : (qI fun z M => Pw M ∧ Fr fm_n8128_739 M0 M ∧ 0 ≤ z ∧ z ≤ 1 ∧ (∀ b, runR (evF M0 p2 p3 p4) L [] = [b] → z = b2i b)) = Q
  obtain ⟨en, hen, hsg⟩ := pp_WS p1 (by omega) (by rw [ex739_13]; omega)
  refine wk_al0 r128_0 (wk_al0 r128_1 (wk_getfr r128_2 fd_739_14 (br_739_14 hP0) (wk_c3 r128_5 (wk_il1 r128_8 (wk_imul r128_9 (wk_il2 r128_10 (wk_il3 r128_11 (wk_il4 r128_12 (wk_cv6 r128_14 kc_739_136 rfl (n8136_739_747 _ M0 (400 * p1) p2 p3 p4 en L hP0 (by first | with_reducible assumption | omega) (by first | with_reducible assumption | omega) (by first | with_reducible assumption | omega) (by first | with_reducible assumption | omega) (by first | with_reducible assumption | omega) (by first | with_reducible assumption | omega) (by first | with_reducible assumption | omega) (by first | with_reducible assumption | omega) (hsg) (⟨by omega, by omega⟩) (xp0)) (cqI ?_))))))))))
  rintro v7 M1 ⟨hP2, hQ3, h8, h9, xh5, xh6⟩
  have hF4 : Fr fm_n8128_739 M0 M1 := hF0.tr hQ3 rfl
  subst hQ; exact wk_iret r128_17 (⟨rfl, _, rfl, hP2, hF4, by omega, by omega, xh6⟩)
def fm_n8067_739 : Nat := 1836637523942442802270778062605398297100929529877888579663863442278535135232
set_option maxHeartbeats 20000000 in
/-- IslandHallModel.event -/
theorem n8067_739 {B : eB} (d : Nat) (M0 : Mm) (p1 : Int) (p2 : Int) (p3 : Int) (x739_13 : Int) (x739_15 : Int) (x739_7 : Int) (x739_1 : Int) (L : List Int) (hP0 : Pw M0) (l1 : 0 ≤ p1) (u1 : p1 ≤ 6) (l2 : 0 ≤ p2) (u2 : p2 ≤ 29) (l3 : (-1) ≤ p3) (u3 : p3 ≤ 1) (ex739_13 : M0 739 13 = x739_13) (lx739_13 : 0 ≤ x739_13) (ux739_13 : x739_13 ≤ 30) (ex739_15 : M0 739 15 = x739_15) (lx739_15 : 0 ≤ x739_15) (ux739_15 : x739_15 ≤ 12) (ex739_7 : M0 739 7 = x739_7) (lx739_7 : 0 ≤ x739_7) (ux739_7 : x739_7 ≤ 3000) (ex739_1 : M0 739 1 = x739_1) (lx739_1 : 0 ≤ x739_1) (ux739_1 : x739_1 ≤ 7) (rp0 : 0 ≤ x739_13 + (-1) * p2 + (-1)) (xp0 : LST (fun k => M0 747 k) (400 * p2) L) (xp1 : ∀ w : Int, 0 ≤ w → w < x739_7 → (0 ≤ M0 751 w ∧ M0 751 w < pw x739_15) ∧ (0 ≤ M0 752 w ∧ M0 752 w < pw x739_15)) (pp_WS : WS M0) : Ct B (d + 6) 67 [R 739, I p1, I p2, I p3] M0 (qI fun z M => Pw M ∧ Fr fm_n8067_739 M0 M ∧ (-1) ≤ z ∧ z ≤ 11 ∧ ((x739_15 = 12 ∧ z = -1 ∧ ∀ a i : Int, M a i = M0 a i) ∨ (x739_15 ≠ 12 ∧ z = x739_15 ∧ M 739 15 = x739_15 + 1 ∧ ((∀ k : Int, M 748 k = if k = x739_15 then p1 else M0 748 k) ∧ (∀ k : Int, M 749 k = if k = x739_15 then p2 else M0 749 k) ∧ (∀ k : Int, M 750 k = if k = x739_15 then p3 else M0 750 k)) ∧ EVW M0 M L x739_15 p1 p3 x739_7)) ∧ (WS M)) := by
  refine ct_of (d := d + 5) (k := 2) (L := [some (R 739), some (I p1), some (I p2), some (I p3), none, none]) rfl rfl rfl ?_
  have hF0 := Fr.rf fm_n8067_739 M0
  generalize hQ : (qI fun z M => Pw M ∧ Fr fm_n8067_739 M0 M ∧ (-1) ≤ z ∧ z ≤ 11 ∧ ((x739_15 = 12 ∧ z = -1 ∧ ∀ a i : Int, M a i = M0 a i) ∨ (x739_15 ≠ 12 ∧ z = x739_15 ∧ M 739 15 = x739_15 + 1 ∧ ((∀ k : Int, M 748 k = if k = x739_15 then p1 else M0 748 k) ∧ (∀ k : Int, M 749 k = if k = x739_15 then p2 else M0 749 k) ∧ (∀ k : Int, M 750 k = if k = x739_15 then p3 else M0 750 k)) ∧ EVW M0 M L x739_15 p1 p3 x739_7)) ∧ (WS M)) = Q
  refine wk_al0 r67_0 (wk_getfi r67_1 fd_739_15 ex739_15 (wk_c2 r67_4 ?_))
  refine wk_icne r67_6 ⟨by omega, by omega⟩ (by decide) ?_ ?_
  · intro h1
    refine wk_al0 r67_11 (wk_getfr r67_12 fd_739_16 (br_739_16 hP0) (wk_al0 r67_15 (wk_getfi r67_16 fd_739_15 ex739_15 (wk_il1 r67_19 (wk_iast r67_20 ar_748 ⟨by omega, by omega⟩ (wk_nw (ga_748 _) rfl hP0 hF0 (ua_748 ⟨by omega, by omega⟩) ?_))))))
    intro M2 hP3 hF4 e5
    refine wk_al0 r67_21 (wk_getfr r67_22 fd_739_17 (br_739_17 hP3) (wk_al0 r67_25 (wk_getfi r67_26 fd_739_15 (mUp_no e5 ex739_15 (Or.inl (by decide))) (wk_il2 r67_29 (wk_iast r67_30 ar_749 ⟨by omega, by omega⟩ (wk_nw (ga_749 _) rfl hP3 hF4 (ua_749 ⟨by omega, by omega⟩) ?_))))))
    intro M6 hP7 hF8 e9
    refine wk_al0 r67_31 (wk_getfr r67_32 fd_739_18 (br_739_18 hP7) (wk_al0 r67_35 (wk_getfi r67_36 fd_739_15 (mUp_no e9 (mUp_no e5 ex739_15 (Or.inl (by decide))) (Or.inl (by decide))) (wk_il3 r67_39 (wk_iast r67_40 ar_750 ⟨by omega, by omega⟩ (wk_nw (ga_750 _) rfl hP7 hF8 (ua_750 ⟨by omega, by omega⟩) ?_))))))
    intro M10 hP11 hF12 e13
    refine wk_c1 r67_41 (wk_is4 r67_42 rfl ?_)
    have c44_964 : ∀ (k964 : Nat) (M872 : Mm) (v869 : Int), (3000 - v869).toNat = k964 → Pw M872 → Fr fm_n8067_739 M0 M872 → M872 739 13 = x739_13 → M872 739 15 = x739_15 → M872 739 7 = x739_7 → M872 739 1 = x739_1 → 0 ≤ v869 → v869 ≤ 3000 → (WS M872) → 0 ≤ (-1) * v869 + x739_7 → 0 ≤ v869 → ((∀ k : Int, M872 748 k = if k = x739_15 then p1 else M0 748 k) ∧ (∀ k : Int, M872 749 k = if k = x739_15 then p2 else M0 749 k) ∧ (∀ k : Int, M872 750 k = if k = x739_15 then p3 else M0 750 k)) → (EVW M0 M872 L x739_15 p1 p3 v869) → Wp B (d + 5) 67 44 [some (R 739), some (I p1), some (I p2), some (I p3), some (I v869), none] [] M872 Q := by
      refine lp_ind ?_
      intro k964 ih964 M872 v869 hk964 hP873 hF874 e875 e876 e877 e878 h870 h871 pr879 h880 h881 ti882 ti883
      refine wk_il4 r67_44 (wk_al0 r67_46 (wk_getfi r67_47 fd_739_7 e877 ?_))
      refine wk_icge r67_50 ⟨by omega, by omega⟩ ⟨by omega, by omega⟩ ?_ ?_
      · intro h884
        refine wk_al0 r67_135 (wk_dupr r67_136 (wk_getfi r67_137 fd_739_15 e876 (wk_c1 r67_140 (wk_iadd r67_141 (wk_putfi81 r67_142 fd_739_15 (wk_nw g_739_15 rfl hP873 hF874 (uf_739_15 ⟨by omega, by omega⟩) ?_))))))
        intro M885 hP886 hF887 e888
        refine wk_al0 r67_145 (wk_getfi r67_146 fd_739_15 (mUp_at e888) (wk_c1 r67_149 (wk_isub r67_150 ?_)))
        subst hQ; exact wk_iret r67_151 (⟨rfl, _, rfl, hP886, hF887, by omega, by omega, Or.inr ⟨by omega, by omega, by have := (mUp_at e888); omega, ⟨fun k => by rw [e888, mUp_ne (Or.inl (by decide))]; exact ti882.1 k, fun k => by rw [e888, mUp_ne (Or.inl (by decide))]; exact ti882.2.1 k, fun k => by rw [e888, mUp_ne (Or.inl (by decide))]; exact ti882.2.2 k⟩, EVW_fr (by have q9 := ti883; rw [show v869 = x739_7 by omega] at q9; exact q9) (fun a i q => by rw [e888, mUp_ne (Or.inl (by omega))])⟩, (WS_sm (Sm.up e888 g_739_15 rfl) pr879)⟩)
      · intro h889
        refine wk_al0 r67_53 (wk_il2 r67_54 (wk_il4 r67_55 (wk_al0 r67_57 (wk_getfi r67_58 fd_739_15 e876 (wk_al0 r67_61 (wk_getfr r67_62 fd_739_19 (br_739_19 hP873) (wk_il4 r67_65 (wk_ialdb r67_67 ar_751 ⟨by omega, by omega⟩ (fun q0 q1 => ba_751 hP873 q0 q1) ?_))))))))
        intro v890 h892 h893 e891
        refine wk_cv5 r67_68 kc_739_128 rfl (n8128_739 _ M872 p2 v869 x739_15 v890 x739_13 x739_1 L hP873 (by first | with_reducible assumption | omega) (by first | with_reducible assumption | omega) (by first | with_reducible assumption | omega) (by first | with_reducible assumption | omega) (by first | with_reducible assumption | omega) (by first | with_reducible assumption | omega) (by first | with_reducible assumption | omega) (by first | with_reducible assumption | omega) e875 (by first | with_reducible assumption | omega) (by first | with_reducible assumption | omega) e878 (by first | with_reducible assumption | omega) (by first | with_reducible assumption | omega) (by omega) (by rw [show (fun k => M872 747 k) = (fun k => M0 747 k) from funext fun k => hF874.at (ga_747 k) rfl]; exact xp0) pr879) (cqI ?_)
        rintro v899 M894 ⟨hP895, hQ896, h900, h901, xh898⟩
        have hF897 : Fr fm_n8067_739 M0 M894 := hF874.tr hQ896 rfl
        refine wk_is5 r67_71 rfl (wk_al0 r67_73 (wk_getfr r67_74 fd_739_19 (br_739_19 hP895) (wk_il4 r67_77 (wk_dup2 r67_79 (wk_ialdb r67_80 ar_751 ⟨by omega, by omega⟩ (fun q0 q1 => ba_751 hP895 q0 q1) ?_)))))
        intro v902 h904 h905 e903
        have h906 : v902 = M0 751 v869 := by rw [← e903]; rw [hQ896.at (ga_751 _) rfl]; exact (ti883.2 v869 (by omega)).1
        have h907 : (0 ≤ v902 ∧ v902 < pw x739_15) ∧ v902 ≤ 2047 := by have q9 := (xp1 v869 (by omega) (by omega)).1; rw [← h906] at q9; have q8 : pw x739_15 ≤ pw 11 := pw_mono (by omega); rw [show pw 11 = 2048 by decide] at q8; exact ⟨q9, by omega⟩
        refine wk_il5 r67_81 (wk_al0 r67_83 (wk_getfi r67_84 fd_739_15 ((hQ896.at g_739_15 rfl).trans e876) (wk_shlb 11 2048 1 r67_87 ⟨by omega, by omega⟩ ⟨by omega, by omega⟩ ⟨pwl_11, by decide⟩ ?_)))
        intro v908 h909 h910 h911
        refine wk_ior 12 4096 r67_88 (by decide) ⟨by omega, by omega⟩ ⟨by omega, by omega⟩ ?_
        intro v912 h913 h914 h915 h916 h917
        refine wk_iast r67_89 ar_751 ⟨by omega, by omega⟩ (wk_nw (ga_751 _) rfl hP895 hF897 (ua_751 ⟨by omega, by omega⟩) ?_)
        intro M918 hP919 hF920 e921
        refine wk_al0 r67_90 (wk_al0 r67_91 (wk_il4 r67_92 (wk_il1 r67_94 (wk_al0 r67_95 (wk_getfi r67_96 fd_739_15 (mUp_no e921 ((hQ896.at g_739_15 rfl).trans e876) (Or.inl (by decide))) ?_)))))
        obtain ⟨v922, e923⟩ : ∃ v, M918 739 3 = v := ⟨_, rfl⟩
        have h924 := (bf_739_3 hP919).1; rw [e923] at h924
        have h925 := (bf_739_3 hP919).2; rw [e923] at h925
        refine wk_cv4 r67_99 kc_739_107 rfl (n8107_739 _ M918 v869 p1 x739_15 v922 hP919 (by first | with_reducible assumption | omega) (by first | with_reducible assumption | omega) (by first | with_reducible assumption | omega) (by first | with_reducible assumption | omega) (by first | with_reducible assumption | omega) (by first | with_reducible assumption | omega) e923 (by first | with_reducible assumption | omega) (by first | with_reducible assumption | omega)) (cqI ?_)
        rintro v931 M926 ⟨hP927, hQ928, h932, h933, xh930⟩
        obtain rfl := Fr.same hQ928
        refine wk_il5 r67_102 (wk_il3 r67_104 (wk_il4 r67_105 ?_))
        refine wk_cv5 r67_107 kc_739_56 rfl (n8056_739 _ M918 v931 v899 p3 v869 hP919 (by first | with_reducible assumption | omega) (by first | with_reducible assumption | omega) (by first | with_reducible assumption | omega) (by first | with_reducible assumption | omega) (by first | with_reducible assumption | omega) (by first | with_reducible assumption | omega) (by first | with_reducible assumption | omega) (by first | with_reducible assumption | omega)) (cqI ?_)
        rintro v939 M934 ⟨hP935, hQ936, h940, h941, xh938⟩
        obtain rfl := Fr.same hQ936
        refine wk_ifeq r67_110 ⟨by omega, by omega⟩ ?_ ?_
        · intro h942
          refine wk_inc4 r67_129 rfl (wk_goto r67_132 ?_)
          exact wp_fg (le_s (le_s (le_s (le_s (le_s (le_n le_0)))))) (ih964 (3000 - (v869 + 1)).toNat (by omega) M918 (v869 + 1) rfl hP919 hF920 (mUp_no e921 ((hQ896.at g_739_13 rfl).trans e875) (Or.inl (by decide))) (mUp_no e921 ((hQ896.at g_739_15 rfl).trans e876) (Or.inl (by decide))) (mUp_no e921 ((hQ896.at g_739_7 rfl).trans e877) (Or.inl (by decide))) (mUp_no e921 ((hQ896.at g_739_1 rfl).trans e878) (Or.inl (by decide))) (by first | with_reducible assumption | omega) (by first | with_reducible assumption | omega) (WS_sm (Sm.up e921 (ga_751 _) rfl) (WS_sm (Sm.fr hQ896 rfl) pr879)) (by first | with_reducible assumption | omega) (by first | with_reducible assumption | omega) (⟨fun k => by rw [e921, mUp_ne (Or.inl (by decide)), hQ896.at (ga_748 _) rfl]; exact ti882.1 k, fun k => by rw [e921, mUp_ne (Or.inl (by decide)), hQ896.at (ga_749 _) rfl]; exact ti882.2.1 k, fun k => by rw [e921, mUp_ne (Or.inl (by decide)), hQ896.at (ga_750 _) rfl]; exact ti882.2.2 k⟩) (EVW_st (c := v899) (d := 0) ti883 (fun i => by rw [e921]; (by_cases q : i = v869); (rw [if_pos q, q, mUp_eq, ← h906]; exact or_bit h907.1 (by omega) h911 h917); (rw [if_neg q, mUp_ne (Or.inr q), hQ896.at (ga_751 _) rfl])) (fun i => by rw [e921, mUp_ne (Or.inl (by decide)), hQ896.at (ga_752 _) rfl]; (by_cases q : i = v869); (rw [if_pos q, q, (ti883.2 v869 (by omega)).2, Int.mul_zero, Int.add_zero]); (rw [if_neg q])) (fun b hb => by have q6 := xh898 b (by rw [(show evF M872 v869 x739_15 v890 = evF M0 v869 x739_15 (M0 751 v869) by rw [← e891, (ti883.2 v869 (by omega)).1]; exact evF_748 (fun a q => by rcases q with rfl | rfl | rfl | rfl | rfl; exact hF874.at (ga_742 _) rfl; exact hF874.at (ga_743 _) rfl; exact hF874.at (ga_744 _) rfl; exact hF874.at (ga_745 _) rfl; exact hF874.at (ga_746 _) rfl) (fun k q => by rw [ti882.1 k, if_neg (by omega)]) (hF874.at g_739_1 rfl) (hF874.at g_739_3 rfl))]; exact hb); have q3 := xh938 (evF M0 v869 x739_15 (M0 751 v869)) p1 b (by rw [← (show evF M918 v869 x739_15 (M0 751 v869) = evF M0 v869 x739_15 (M0 751 v869) by exact evF_748 (fun a q => by rcases q with rfl | rfl | rfl | rfl | rfl; exact hF920.at (ga_742 _) rfl; exact hF920.at (ga_743 _) rfl; exact hF920.at (ga_744 _) rfl; exact hF920.at (ga_745 _) rfl; exact hF920.at (ga_746 _) rfl) (fun k q => by rw [e921, mUp_ne (Or.inl (by decide)), hQ896.at (ga_748 _) rfl, ti882.1 k, if_neg (by omega)]) (hF920.at g_739_1 rfl) (hF920.at g_739_3 rfl)), evF_20 (by omega) (by omega)]; exact xh930.symm) (by rw [evF_12]; exact (hF920.at (ga_746 _) rfl).symm) q6; exact ⟨q6, by omega⟩)))
        · intro h943
          refine wk_al0 r67_113 (wk_getfr r67_114 fd_739_20 (br_739_20 hP919) (wk_il4 r67_117 (wk_dup2 r67_119 (wk_ialdb r67_120 ar_752 ⟨by omega, by omega⟩ (fun q0 q1 => ba_752 hP919 q0 q1) ?_))))
          intro v944 h946 h947 e945
          have h948 : v944 = M0 752 v869 := by rw [← e945]; rw [e921, mUp_ne (Or.inl (by decide)), hQ896.at (ga_752 _) rfl]; exact (ti883.2 v869 (by omega)).2
          have h949 : (0 ≤ v944 ∧ v944 < pw x739_15) ∧ v944 ≤ 2047 := by have q9 := (xp1 v869 (by omega) (by omega)).2; rw [← h948] at q9; have q8 : pw x739_15 ≤ pw 11 := pw_mono (by omega); rw [show pw 11 = 2048 by decide] at q8; exact ⟨q9, by omega⟩
          refine wk_c1 r67_121 (wk_al0 r67_122 (wk_getfi r67_123 fd_739_15 (mUp_no e921 ((hQ896.at g_739_15 rfl).trans e876) (Or.inl (by decide))) (wk_shl1 11 2048 r67_126 ⟨by omega, by omega⟩ ⟨pwl_11, by decide⟩ ?_)))
          intro v950 h951 h952 h953
          refine wk_ior 12 4096 r67_127 (by decide) ⟨by omega, by omega⟩ ⟨by omega, by omega⟩ ?_
          intro v954 h955 h956 h957 h958 h959
          refine wk_iast r67_128 ar_752 ⟨by omega, by omega⟩ (wk_nw (ga_752 _) rfl hP919 hF920 (ua_752 ⟨by omega, by omega⟩) ?_)
          intro M960 hP961 hF962 e963
          refine wk_inc4 r67_129 rfl (wk_goto r67_132 ?_)
          exact wp_fg (le_s (le_s (le_s (le_s (le_s (le_n le_0)))))) (ih964 (3000 - (v869 + 1)).toNat (by omega) M960 (v869 + 1) rfl hP961 hF962 (mUp_no e963 (mUp_no e921 ((hQ896.at g_739_13 rfl).trans e875) (Or.inl (by decide))) (Or.inl (by decide))) (mUp_no e963 (mUp_no e921 ((hQ896.at g_739_15 rfl).trans e876) (Or.inl (by decide))) (Or.inl (by decide))) (mUp_no e963 (mUp_no e921 ((hQ896.at g_739_7 rfl).trans e877) (Or.inl (by decide))) (Or.inl (by decide))) (mUp_no e963 (mUp_no e921 ((hQ896.at g_739_1 rfl).trans e878) (Or.inl (by decide))) (Or.inl (by decide))) (by first | with_reducible assumption | omega) (by first | with_reducible assumption | omega) (WS_sm (Sm.up e963 (ga_752 _) rfl) (WS_sm (Sm.up e921 (ga_751 _) rfl) (WS_sm (Sm.fr hQ896 rfl) pr879))) (by first | with_reducible assumption | omega) (by first | with_reducible assumption | omega) (⟨fun k => by rw [e963, mUp_ne (Or.inl (by decide)), e921, mUp_ne (Or.inl (by decide)), hQ896.at (ga_748 _) rfl]; exact ti882.1 k, fun k => by rw [e963, mUp_ne (Or.inl (by decide)), e921, mUp_ne (Or.inl (by decide)), hQ896.at (ga_749 _) rfl]; exact ti882.2.1 k, fun k => by rw [e963, mUp_ne (Or.inl (by decide)), e921, mUp_ne (Or.inl (by decide)), hQ896.at (ga_750 _) rfl]; exact ti882.2.2 k⟩) (EVW_st (c := v899) (d := 1) ti883 (fun i => by rw [e963, mUp_ne (Or.inl (by decide))]; rw [e921]; (by_cases q : i = v869); (rw [if_pos q, q, mUp_eq, ← h906]; exact or_bit h907.1 (by omega) h911 h917); (rw [if_neg q, mUp_ne (Or.inr q), hQ896.at (ga_751 _) rfl])) (fun i => by rw [e963]; (by_cases q : i = v869); (rw [if_pos q, q, mUp_eq, ← h948]; exact or_bit h949.1 (by omega) (show _ = 1 * pw x739_15 by rw [Int.one_mul]; exact h953) h959); (rw [if_neg q, mUp_ne (Or.inr q), e921, mUp_ne (Or.inl (by decide)), hQ896.at (ga_752 _) rfl])) (fun b hb => by have q6 := xh898 b (by rw [(show evF M872 v869 x739_15 v890 = evF M0 v869 x739_15 (M0 751 v869) by rw [← e891, (ti883.2 v869 (by omega)).1]; exact evF_748 (fun a q => by rcases q with rfl | rfl | rfl | rfl | rfl; exact hF874.at (ga_742 _) rfl; exact hF874.at (ga_743 _) rfl; exact hF874.at (ga_744 _) rfl; exact hF874.at (ga_745 _) rfl; exact hF874.at (ga_746 _) rfl) (fun k q => by rw [ti882.1 k, if_neg (by omega)]) (hF874.at g_739_1 rfl) (hF874.at g_739_3 rfl))]; exact hb); have q3 := xh938 (evF M0 v869 x739_15 (M0 751 v869)) p1 b (by rw [← (show evF M918 v869 x739_15 (M0 751 v869) = evF M0 v869 x739_15 (M0 751 v869) by exact evF_748 (fun a q => by rcases q with rfl | rfl | rfl | rfl | rfl; exact hF920.at (ga_742 _) rfl; exact hF920.at (ga_743 _) rfl; exact hF920.at (ga_744 _) rfl; exact hF920.at (ga_745 _) rfl; exact hF920.at (ga_746 _) rfl) (fun k q => by rw [e921, mUp_ne (Or.inl (by decide)), hQ896.at (ga_748 _) rfl, ti882.1 k, if_neg (by omega)]) (hF920.at g_739_1 rfl) (hF920.at g_739_3 rfl)), evF_20 (by omega) (by omega)]; exact xh930.symm) (by rw [evF_12]; exact (hF920.at (ga_746 _) rfl).symm) q6; exact ⟨q6, by omega⟩)))
    exact wp_fg (le_s (le_s (le_s (le_s (le_s (le_s le_0)))))) (c44_964 _ M10 0 rfl hP11 hF12 (mUp_no e13 (mUp_no e9 (mUp_no e5 ex739_13 (Or.inl (by decide))) (Or.inl (by decide))) (Or.inl (by decide))) (mUp_no e13 (mUp_no e9 (mUp_no e5 ex739_15 (Or.inl (by decide))) (Or.inl (by decide))) (Or.inl (by decide))) (mUp_no e13 (mUp_no e9 (mUp_no e5 ex739_7 (Or.inl (by decide))) (Or.inl (by decide))) (Or.inl (by decide))) (mUp_no e13 (mUp_no e9 (mUp_no e5 ex739_1 (Or.inl (by decide))) (Or.inl (by decide))) (Or.inl (by decide))) (by first | with_reducible assumption | omega) (by first | with_reducible assumption | omega) (WS_sm (Sm.up e13 (ga_750 _) rfl) (WS_sm (Sm.up e9 (ga_749 _) rfl) (WS_sm (Sm.up e5 (ga_748 _) rfl) pp_WS))) (by first | with_reducible assumption | omega) (by first | with_reducible assumption | omega) (⟨(fun k => by rw [e13, mUp_ne (Or.inl (by decide)), e9, mUp_ne (Or.inl (by decide)), e5]; (by_cases q : k = x739_15); (rw [if_pos q, q]; exact mUp_eq _ _ _ _); (rw [if_neg q, mUp_ne (Or.inr q)])), (fun k => by rw [e13, mUp_ne (Or.inl (by decide)), e9]; (by_cases q : k = x739_15); (rw [if_pos q, q]; exact mUp_eq _ _ _ _); (rw [if_neg q, mUp_ne (Or.inr q), e5, mUp_ne (Or.inl (by decide))])), (fun k => by rw [e13]; (by_cases q : k = x739_15); (rw [if_pos q, q]; exact mUp_eq _ _ _ _); (rw [if_neg q, mUp_ne (Or.inr q), e9, mUp_ne (Or.inl (by decide)), e5, mUp_ne (Or.inl (by decide))]))⟩) (EVW_0 (fun a i q => by rw [e13, mUp_ne (Or.inl (by omega)), e9, mUp_ne (Or.inl (by omega)), e5, mUp_ne (Or.inl (by omega))])))
  · intro h965
    refine wk_c1 r67_9 ?_
    subst hQ; exact wk_iret r67_10 (⟨rfl, _, rfl, hP0, hF0, by omega, by omega, Or.inl ⟨by omega, by omega, fun a i => rfl⟩, pp_WS⟩)
def fm_n8044_739 : Nat := 0
/-- IslandHallModel.all -/
theorem n8044_739 {B : eB} (d : Nat) (M0 : Mm) (hP0 : Pw M0)  : Ct B (d + 1) 44 [R 739] M0 (qI fun z M => Pw M ∧ Fr fm_n8044_739 M0 M ∧ 0 ≤ z ∧ z ≤ 4095 ∧ (z = AL M0)) := by
  refine ct_of (d := d + 0) (k := 0) (L := [some (R 739)]) rfl rfl rfl ?_
  have hF0 := Fr.rf fm_n8044_739 M0
  generalize hQ : (qI fun z M => Pw M ∧ Fr fm_n8044_739 M0 M ∧ 0 ≤ z ∧ z ≤ 4095 ∧ (z = AL M0)) = Q
  refine wk_c1 r44_0 (wk_al0 r44_1 (wk_getfb r44_2 fd_739_15 (bf_739_15 hP0) ?_))
  intro v1 h3 h4 e2
  refine wk_shl1 12 4096 r44_5 ⟨by omega, by omega⟩ ⟨pwl_12, by decide⟩ ?_
  intro v5 h6 h7 h8
  refine wk_c1 r44_6 (wk_isub r44_7 ?_)
  subst hQ; exact wk_iret r44_8 (⟨rfl, _, rfl, hP0, hF0, by omega, by omega, by unfold AL; rw [e2, ← h8]⟩)
def fm_n8049_739 : Nat := 21202164777340611955382705586144593051742739148773666523628116443517681664
/-- IslandHallModel.back -/
theorem n8049_739 {B : eB} (d : Nat) (M0 : Mm) (x739_15 : Int) (x739_7 : Int) (hP0 : Pw M0) (ex739_15 : M0 739 15 = x739_15) (lx739_15 : 0 ≤ x739_15) (ux739_15 : x739_15 ≤ 12) (ex739_7 : M0 739 7 = x739_7) (lx739_7 : 0 ≤ x739_7) (ux739_7 : x739_7 ≤ 3000) (xp0 : ∀ w : Int, 0 ≤ w → w < x739_7 → (0 ≤ M0 751 w ∧ M0 751 w < pw x739_15) ∧ (0 ≤ M0 752 w ∧ M0 752 w < pw x739_15)) : Ct B (d + 2) 49 [R 739] M0 (qI fun z M => Pw M ∧ Fr fm_n8049_739 M0 M ∧ (-1) ≤ z ∧ z ≤ 11 ∧ ((x739_15 = 0 ∧ z = -1 ∧ M 739 15 = 0 ∧ ∀ a i : Int, a ≠ 739 ∨ i ≠ 0 → M a i = M0 a i) ∨ (x739_15 ≠ 0 ∧ z = x739_15 - 1 ∧ M 739 15 = x739_15 - 1 ∧ ∀ w : Int, 0 ≤ w → w < x739_7 → M 751 w = M0 751 w % pw (x739_15 - 1) ∧ M 752 w = M0 752 w % pw (x739_15 - 1)))) := by
  refine ct_of (d := d + 1) (k := 1) (L := [some (R 739), none]) rfl rfl rfl ?_
  have hF0 := Fr.rf fm_n8049_739 M0
  generalize hQ : (qI fun z M => Pw M ∧ Fr fm_n8049_739 M0 M ∧ (-1) ≤ z ∧ z ≤ 11 ∧ ((x739_15 = 0 ∧ z = -1 ∧ M 739 15 = 0 ∧ ∀ a i : Int, a ≠ 739 ∨ i ≠ 0 → M a i = M0 a i) ∨ (x739_15 ≠ 0 ∧ z = x739_15 - 1 ∧ M 739 15 = x739_15 - 1 ∧ ∀ w : Int, 0 ≤ w → w < x739_7 → M 751 w = M0 751 w % pw (x739_15 - 1) ∧ M 752 w = M0 752 w % pw (x739_15 - 1)))) = Q
  refine wk_al0 r49_0 (wk_c1 r49_1 (wk_putfi81 r49_2 fd_739_0 (wk_nw g_739_0 rfl hP0 hF0 (uf_739_0 (by decide)) ?_)))
  intro M1 hP2 hF3 e4
  refine wk_al0 r49_5 (wk_getfi r49_6 fd_739_15 (mUp_no e4 ex739_15 (Or.inr (by decide))) ?_)
  refine wk_ifne r49_9 ⟨by omega, by omega⟩ ?_ ?_
  · intro h5
    refine wk_al0 r49_14 (wk_dupr r49_15 (wk_getfi r49_16 fd_739_15 (mUp_no e4 ex739_15 (Or.inr (by decide))) (wk_c1 r49_19 (wk_isub r49_20 (wk_putfi81 r49_21 fd_739_15 (wk_nw g_739_15 rfl hP2 hF3 (uf_739_15 ⟨by omega, by omega⟩) ?_))))))
    intro M6 hP7 hF8 e9
    refine wk_c1 r49_24 (wk_is1 r49_25 rfl ?_)
    have c26_590 : ∀ (k590 : Nat) (M535 : Mm) (v532 : Int), (3000 - v532).toNat = k590 → Pw M535 → Fr fm_n8049_739 M0 M535 → M535 739 15 = (x739_15 - 1) → M535 739 7 = x739_7 → M535 739 0 = 0 → 0 ≤ v532 → v532 ≤ 3000 → (∀ w : Int, 0 ≤ w → (w < v532 → M535 751 w = M0 751 w % pw (x739_15 - 1) ∧ M535 752 w = M0 752 w % pw (x739_15 - 1)) ∧ (v532 ≤ w → M535 751 w = M0 751 w ∧ M535 752 w = M0 752 w)) → Wp B (d + 1) 49 26 [some (R 739), some (I v532)] [] M535 Q := by
      refine lp_ind ?_
      intro k590 ih590 M535 v532 hk590 hP536 hF537 e538 e539 e540 h533 h534 ti541
      refine wk_il1 r49_26 (wk_al0 r49_27 (wk_getfi r49_28 fd_739_7 e539 ?_))
      refine wk_icge r49_31 ⟨by omega, by omega⟩ ⟨by omega, by omega⟩ ?_ ?_
      · intro h542
        refine wk_al0 r49_66 (wk_getfi r49_67 fd_739_15 e538 ?_)
        subst hQ; exact wk_iret r49_70 (⟨rfl, _, rfl, hP536, hF537, by omega, by omega, Or.inr ⟨by omega, by omega, by have := e538; omega, fun w a b => (ti541 w a).1 (by omega)⟩⟩)
      · intro h543
        refine wk_al0 r49_34 (wk_getfr r49_35 fd_739_19 (br_739_19 hP536) (wk_il1 r49_38 (wk_dup2 r49_39 (wk_ialdb r49_40 ar_751 ⟨by omega, by omega⟩ (fun q0 q1 => ba_751 hP536 q0 q1) ?_))))
        intro v544 h546 h547 e545
        have h548 : v544 = M0 751 v532 := by rw [← e545]; exact ((ti541 v532 (by omega)).2 (by omega)).1
        have h549 : (0 ≤ v544 ∧ v544 < pw x739_15) ∧ v544 ≤ 4095 := by have q9 := (xp0 v532 (by omega) (by omega)).1; rw [← h548] at q9; have q8 : pw x739_15 ≤ pw 12 := pw_mono (by omega); rw [show pw 12 = 4096 by decide] at q8; exact ⟨q9, by omega⟩
        refine wk_al0 r49_41 (wk_cv1 r49_42 kc_739_44 rfl (n8044_739 _ M535 hP536) (cqI ?_))
        rintro v555 M550 ⟨hP551, hQ552, h556, h557, xh554⟩
        obtain rfl := Fr.same hQ552
        refine wk_iand r49_45 ⟨by omega, by omega⟩ ⟨by omega, by omega⟩ ?_
        intro v558 h559 h560 h561 h562
        refine wk_iast r49_46 ar_751 ⟨by omega, by omega⟩ (wk_nw (ga_751 _) rfl hP536 hF537 (ua_751 ⟨by omega, by omega⟩) ?_)
        intro M563 hP564 hF565 e566
        refine wk_al0 r49_47 (wk_getfr r49_48 fd_739_20 (br_739_20 hP564) (wk_il1 r49_51 (wk_dup2 r49_52 (wk_ialdb r49_53 ar_752 ⟨by omega, by omega⟩ (fun q0 q1 => ba_752 hP564 q0 q1) ?_))))
        intro v567 h569 h570 e568
        have h571 : v567 = M0 752 v532 := by rw [← e568]; rw [e566, mUp_ne (Or.inl (by decide))]; exact ((ti541 v532 (by omega)).2 (by omega)).2
        have h572 : (0 ≤ v567 ∧ v567 < pw x739_15) ∧ v567 ≤ 4095 := by have q9 := (xp0 v532 (by omega) (by omega)).2; rw [← h571] at q9; have q8 : pw x739_15 ≤ pw 12 := pw_mono (by omega); rw [show pw 12 = 4096 by decide] at q8; exact ⟨q9, by omega⟩
        refine wk_al0 r49_54 (wk_cv1 r49_55 kc_739_44 rfl (n8044_739 _ M563 hP564) (cqI ?_))
        rintro v578 M573 ⟨hP574, hQ575, h579, h580, xh577⟩
        obtain rfl := Fr.same hQ575
        refine wk_iand r49_58 ⟨by omega, by omega⟩ ⟨by omega, by omega⟩ ?_
        intro v581 h582 h583 h584 h585
        refine wk_iast r49_59 ar_752 ⟨by omega, by omega⟩ (wk_nw (ga_752 _) rfl hP564 hF565 (ua_752 ⟨by omega, by omega⟩) ?_)
        intro M586 hP587 hF588 e589
        refine wk_inc1 r49_60 rfl (wk_goto r49_63 ?_)
        exact wp_fg (le_s (le_s le_0)) (ih590 (3000 - (v532 + 1)).toNat (by omega) M586 (v532 + 1) rfl hP587 hF588 (mUp_no e589 (mUp_no e566 e538 (Or.inl (by decide))) (Or.inl (by decide))) (mUp_no e589 (mUp_no e566 e539 (Or.inl (by decide))) (Or.inl (by decide))) (mUp_no e589 (mUp_no e566 e540 (Or.inl (by decide))) (Or.inl (by decide))) (by first | with_reducible assumption | omega) (by first | with_reducible assumption | omega) (fun w a => by by_cases q : w = v532; (rw [q, (show M586 751 v532 = _ by rw [e589, mUp_ne (Or.inl (by decide)), e566, mUp_eq]), (show M586 752 v532 = _ by rw [e589, mUp_eq]), ← h548, ← h571]; exact ⟨fun _ => ⟨and_lo h549.1.1 (by rw [← (show _ = pw (x739_15 - 1) - 1 from xh554.trans (by unfold AL; rw [e538]))]; exact h562), and_lo h572.1.1 (by rw [← (show _ = pw (x739_15 - 1) - 1 from xh577.trans (by unfold AL; rw [(mUp_no e566 e538 (Or.inl (by decide)))]))]; exact h585)⟩, fun q8 => absurd q8 (by omega)⟩); (rw [show M586 751 w = M535 751 w by rw [e589, mUp_ne (Or.inl (by decide)), e566, mUp_ne (Or.inr q)], show M586 752 w = M535 752 w by rw [e589, mUp_ne (Or.inr q), e566, mUp_ne (Or.inl (by decide))]]; exact ⟨fun q8 => (ti541 w a).1 (by omega), fun q8 => (ti541 w a).2 (by omega)⟩)))
    exact wp_fg (le_s (le_s le_0)) (c26_590 _ M6 0 rfl hP7 hF8 (mUp_at e9) (mUp_no e9 (mUp_no e4 ex739_7 (Or.inr (by decide))) (Or.inr (by decide))) (mUp_no e9 (mUp_at e4) (Or.inr (by decide))) (by first | with_reducible assumption | omega) (by first | with_reducible assumption | omega) (fun w a => ⟨fun b => by omega, fun _ => ⟨by rw [e9, mUp_ne (Or.inl (by decide)), e4, mUp_ne (Or.inl (by decide))], by rw [e9, mUp_ne (Or.inl (by decide)), e4, mUp_ne (Or.inl (by decide))]⟩⟩))
  · intro h591
    refine wk_c1 r49_12 ?_
    subst hQ; exact wk_iret r49_13 (⟨rfl, _, rfl, hP2, hF3, by omega, by omega, Or.inl ⟨by omega, by omega, by have := (mUp_no e4 ex739_15 (Or.inr (by decide))); omega, fun a i q => by rw [e4, mUp_ne q]⟩⟩)
