/-! ===== sentence and island on both sides ===== -/
theorem Sm_sub {g g2 : Nat} {M M2 : Mm} (h : Sm g M M2) (e : g ||| g2 = g) : Sm g2 M M2 := fun a i q => h a i (by rw [← e, Nat.testBit_or, q, Bool.or_true])
theorem SNR_cnt {T : Int → Int} {p1 tp cnt pp fp thr z cnt2 fp2 : Int} (h : SNR T p1 tp cnt pp fp thr z cnt2 fp2) (h0 : 0 ≤ cnt) : cnt2 = cnt ∨ (cnt2 = cnt + 1 ∧ thr = 0 ∧ 0 ≤ z) := by
  rcases h with ⟨-, -, a, -⟩ | ⟨-, -, t, ⟨-, -, a, -⟩ | ⟨-, r, -, ⟨-, b, c⟩ | ⟨-, -, a⟩⟩⟩
  · exact Or.inl a
  · exact Or.inl a
  · exact Or.inr ⟨c, t, by omega⟩
  · exact Or.inl a
theorem R5_sent {T : Int → Int} {n k z1 z2 : Int} {M M1 M2 : Mm} (h : RELW M) (hB : RB5 M) (hB1 : RB5 M1) (hw : WS M) (e9 : M 0 9 = M 739 13)
    (hC : (k = 1 ∧ ∀ a i : Int, 0 ≤ a → M1 a i = M a i) ∨ (k = 0 ∧ ∃ (v : Int) (Mp : Mm), M1 = mUp Mp 769 0 v ∧ (0 ≤ z1 → z1 = M 0 9 ∧ CDX T n (M 2 1) (CL Mp (679 + 2 * M 0 9))) ∧ ∀ s : Int, 0 ≤ s → s < M 0 9 → CL Mp (679 + 2 * s) = CL M (679 + 2 * s)))
    (hM1 : M2 739 0 = 0 → 0 ≤ z2 → z2 = M1 739 13 ∧ ∃ O : List Int, LST (fun k => M2 747 k) (400 * M1 739 13) O ∧ CDM T n (M1 739 1) (sk T n 0) O) (hM2 : ∀ k : Int, k < 400 * M1 739 13 → M2 747 k = M1 747 k)
    (hthr : k = M2 739 0) (hz : k = 0 → z1 = z2) (hcnt : M2 739 13 = M 739 13 ∨ (M2 739 13 = M 739 13 + 1 ∧ M2 739 0 = 0 ∧ 0 ≤ z2)) (e1 : M 739 1 = M 2 1) (b2 : M2 739 13 ≤ 30)
    (a1 : Sm fg_CK M M1) (a2 : Sm fg_CD M M1) (a4 : Sm fg_CQ M M1) (a5 : Sm fg_MK8 M M1) (a6 : Sm fg_MD M M1) (a7 : Sm fg_MC M M1) (a8 : Sm fg_MQ M M1) (c1 : Sm fg_CK M1 M2) (c2 : Sm fg_CD M1 M2) (c3 : Sm fg_CC M1 M2) (c4 : Sm fg_CQ M1 M2) (m1 : Sm fg_MK8 M1 M2) (m2 : Sm fg_MD M1 M2) (q21 : M2 739 21 = M1 739 21) (q24 : M2 739 24 = M1 739 24) (q25 : M2 739 25 = M1 739 25) (q7 : M2 739 7 = M1 739 7) (q753 : ∀ k : Int, M2 753 k = M1 753 k) (q754 : ∀ k : Int, M2 754 k = M1 754 k) : RELW M2 := by
  obtain ⟨Kf, hk, hd, hc, hq⟩ := h
  have w13 : M1 739 13 = M 739 13 := a7.at g_739_13 rfl
  have w1 : M1 739 1 = M 739 1 := a5.at g_739_1 rfl
  rw [w13] at hM1 hM2
  have hs := hB.2.2.2.1
  have p21 : M2 2 1 = M 2 1 := (CSQ_sm c4).1.trans (CSQ_sm a4).1
  have cc := CSC_sm c3
  refine ⟨Kf, RWK_fr (RWK_fr hk (CSK_sm a1) (MSK_sm a5)) (CSK_sm c1) (MSK_sm m1), RWD_fr (RWD_fr hd hB.2.2.2.2.1 (CSD_sm a2) (MSD_sm a6)) hB1.2.2.2.2.1 (CSD_sm c2) (MSD_sm m2), RW_so (T := T) (n := n) hc hw hs.1 ?_ p21 (fun s s0 s1 => ?_) (fun j hj => (hM2 j hj).trans ((MSC_sm a7).2 j)), RWQ_fr2 (RWQ_fr hq (CSQ_sm a4) (MSQ_sm a8)) (CSQ_sm c4) (by omega) q21 q24 q25 q7 q753 q754⟩
  · rcases hcnt with x | ⟨x1, x2, x3⟩
    · exact Or.inl x
    · refine Or.inr ⟨x1, ?_, ?_⟩
      · rcases hC with ⟨y, -⟩ | ⟨y, v, Mp, e, y1, -⟩
        · exfalso; omega
        · have y2 := (y1 (by rw [hz y]; exact x3)).2
          rw [e9] at y2
          rw [cc.2 (679 + 2 * M 739 13) (Or.inr (by omega)) (by omega), show CL M1 (679 + 2 * M 739 13) = CL Mp (679 + 2 * M 739 13) from CL_cg (by rw [e, mUp_ne (Or.inl (by omega))]) (fun k => by rw [e, mUp_ne (Or.inl (by omega))])]
          exact y2
      · obtain ⟨-, O, o1, o2⟩ := hM1 x2 x3
        rw [w1, e1] at o2
        exact ⟨O, o1, o2⟩
  · rw [cc.2 (679 + 2 * s) (Or.inr (by omega)) (by omega)]
    rcases hC with ⟨-, y⟩ | ⟨-, v, Mp, e, -, y1⟩
    · exact CL_cg (y _ 1 (by omega)) (fun k => y _ k (by omega))
    · rw [show CL M1 (679 + 2 * s) = CL Mp (679 + 2 * s) from CL_cg (by rw [e, mUp_ne (Or.inl (by omega))]) (fun k => by rw [e, mUp_ne (Or.inl (by omega))])]
      exact y1 s s0 (by omega)
/-- what the class says of a new ISLAND -/
def ICP (T : Int → Int) (n : Int) (M : Mm) : Prop := CIS T n M ∧ M 0 13 = -1 ∧ M 138 5 = 0
def IMP (T : Int → Int) (n : Int) (M : Mm) : Prop := MIS T n M ∧ M 739 13 = 0 ∧ M 739 15 = 0 ∧ M 739 21 = 0 ∧ M 739 24 = -1
theorem R5_isl {T : Int → Int} {n k z1 z2 : Int} {M M1 M2 : Mm} (h : RELW M) (hB : RB5 M) (hB1 : RB5 M1) (hB2 : RB5 M2)
    (hC : (k = 1 ∧ ∀ a i : Int, 0 ≤ a → M1 a i = M a i) ∨ (k = 0 ∧ ∃ (v : Int) (Mp : Mm), M1 = mUp Mp 769 0 v ∧ RB5 Mp ∧ (z1 = 0 → ICP T n Mp) ∧ (z1 ≠ 0 → (Sm fg_CK M Mp ∧ Sm fg_CD M Mp ∧ Sm fg_CQ M Mp) ∧ ∀ c : Int, isC c → c ≠ 4 → CL Mp c = CL M c)))
    (hM : (M2 739 0 = 0 → z2 = 0 → IMP T n M2) ∧ ((M2 739 0 ≠ 0 ∨ z2 ≠ 0) → Sm fg_MK8 M1 M2 ∧ Sm fg_MD M1 M2 ∧ Sm fg_MC M1 M2 ∧ Sm fg_MQ M1 M2)) (hthr : k = M2 739 0) (hz : k = 0 → z1 = z2) (hsd : M1 0 14 = M 0 14) (m25 : M2 739 25 = M1 739 25)
    (a5 : Sm fg_MK8 M M1) (a6 : Sm fg_MD M M1) (a7 : Sm fg_MC M M1) (a8 : Sm fg_MQ M M1) (c1 : Sm fg_CK M1 M2) (c2 : Sm fg_CD M1 M2) (c3 : Sm fg_CC M1 M2) (c4 : Sm fg_CQ M1 M2) : RELW M2 := by
  rcases hC with ⟨x, e⟩ | ⟨x, v, Mp, e, hBp, x1, x2⟩
  · obtain ⟨n1, n2, n3, n4⟩ := hM.2 (Or.inl (by omega))
    exact RELW_fr (RELW_all h hB e) hB1.2.2.2.2.1 hB1.2.2.2.1.2 (CSK_sm c1) (CSD_sm c2) (CSC_sm c3) (CSQ_sm c4) (MSK_sm n1) (MSD_sm n2) (MSC_sm n3) (MSQ_sm n4)
  · have eq := hz x
    have f : ∀ a i : Int, a ≠ 769 → M1 a i = Mp a i := fun a i q => by rw [e, mUp_ne (Or.inl q)]
    by_cases q : z1 = 0
    · obtain ⟨i1, i2, i3⟩ := x1 q
      obtain ⟨j1, j2, j3, j4, j5⟩ := hM.1 (by omega) (by omega)
      have k1 := CSK_sm c1
      have k2 := CSD_sm c2
      have kc : CL M2 4 = CL Mp 4 := (CL4_sm c3).trans (CL_cg (f 4 1 (by decide)) (fun k => f 5 k (by decide)))
      have cis : CIS T n M2 := CIS_fr i1 ⟨fun k a b => (k1.1 k a b).trans (f 2 k (by decide)), fun k => (k1.2.1 k).trans (f 3 k (by decide)), ⟨k1.2.2.1.1.trans (f 10 9 (by decide)), k1.2.2.1.2.trans (f 10 10 (by decide))⟩, fun r j a b d => (k1.2.2.2.1 r j a b d).trans (f _ j (by omega)), fun i => (k1.2.2.2.2.1 i).trans (f 136 i (by decide)), fun i => (k1.2.2.2.2.2 i).trans (f 137 i (by decide))⟩ (fun k j a b => (k2.2.2.2.1 k j a b).trans (f _ j (by omega))) (fun k => (k2.2.2.1 k).trans (f 11 k (by decide))) (fun j => by have := k2.2.2.2.2.2.1 0 j (by decide) (by decide); rw [show (155 : Int) + 0 = 155 by decide] at this; exact this.trans (f 155 j (by decide))) kc hBp.2.2.2.2.2.2.2.2.1
      have sd : M 0 14 = M 739 25 := by
        obtain ⟨Kf, -, -, -, hq⟩ := h
        exact hq.2.2
      have cq := CSQ_sm c4
      exact RW_is cis j1 hB2.2.2.2.2.2.2.2.2.1 hB2.2.1 hB2.2.2.2.2.2.2.2.2.2 hB2.2.2.1 (k2.1.trans ((f 138 5 (by decide)).trans i3)) (cq.2.2.1.trans ((f 0 13 (by decide)).trans i2)) j2 j3 j4 j5 (by rw [cq.2.2.2, hsd, sd, m25]; exact (a8.at g_739_25 rfl).symm) hB2.2.2.2.2.2.1.2
    · obtain ⟨⟨y1, y2, y3⟩, y4⟩ := x2 q
      obtain ⟨n1, n2, n3, n4⟩ := hM.2 (Or.inr (by omega))
      have k1 := CSK_sm y1
      have k2 := CSD_sm y2
      have k4 := CSQ_sm y3
      have s1 : RELW M1 := RELW_fr h hB.2.2.2.2.1 hB.2.2.2.1.2 ⟨fun k a b => (f 2 k (by decide)).trans (k1.1 k a b), fun k => (f 3 k (by decide)).trans (k1.2.1 k), ⟨(f 10 9 (by decide)).trans k1.2.2.1.1, (f 10 10 (by decide)).trans k1.2.2.1.2⟩, fun r j a b d => (f _ j (by omega)).trans (k1.2.2.2.1 r j a b d), fun i => (f 136 i (by decide)).trans (k1.2.2.2.2.1 i), fun i => (f 137 i (by decide)).trans (k1.2.2.2.2.2 i)⟩
        ⟨(f 138 5 (by decide)).trans k2.1, fun k => (f 139 k (by decide)).trans (k2.2.1 k), fun k => (f 11 k (by decide)).trans (k2.2.2.1 k), fun k j a b => (f _ j (by omega)).trans (k2.2.2.2.1 k j a b), fun k j a b => (f _ j (by omega)).trans (k2.2.2.2.2.1 k j a b), fun k j a b => (f _ j (by omega)).trans (k2.2.2.2.2.2.1 k j a b), (f 10 10 (by decide)).trans k2.2.2.2.2.2.2⟩
        ⟨(f 2 1 (by decide)).trans k4.1, fun c hc hn => (CL_cg (f c 1 (by unfold isC at hc; omega)) (fun k => f (c + 1) k (by unfold isC at hc; omega))).trans (y4 c hc hn)⟩
        ⟨(f 2 1 (by decide)).trans k4.1, fun k => (f 169 k (by decide)).trans (k4.2.1 k), (f 0 13 (by decide)).trans k4.2.2.1, (f 0 14 (by decide)).trans k4.2.2.2⟩ (MSK_sm a5) (MSD_sm a6) (MSC_sm a7) (MSQ_sm a8)
      exact RELW_fr s1 hB1.2.2.2.2.1 hB1.2.2.2.1.2 (CSK_sm c1) (CSD_sm c2) (CSC_sm c3) (CSQ_sm c4) (MSK_sm n1) (MSD_sm n2) (MSC_sm n3) (MSQ_sm n4)

/-! ===== what holds at first ===== -/
theorem cdX_0 (p : Int) : cdX 0 p = 0 := by
  unfold cdX
  rw [Int.zero_ediv]
  rfl
theorem plX_0 (r : Int) : plX 0 0 0 r ↔ (r = 35 ∨ r = 39 ∨ r = 46 ∨ r = 118 ∨ (48 ≤ r ∧ r ≤ 87 ∧ (r - 48) % 8 = 0)) := by
  have e1 : rdX 0 = 0 := by decide
  have e2 : dyX 0 = 0 := by decide
  have e3 : wdX 0 = 0 := by decide
  have e4 : ∀ k : Int, cnX 0 k (0 : Int).toNat = 0 := fun _ => rfl
  constructor
  · rintro (⟨p, a, b, -⟩ | ⟨k, a, b, c⟩ | a | a | a | a)
    · omega
    · rw [e4] at c
      omega
    · rw [e1] at a; omega
    · rw [e2] at a; omega
    · rw [e3] at a; omega
    · omega
  · rintro (a | a | a | a | ⟨a, b, c⟩)
    · exact Or.inr (Or.inr (Or.inl (by rw [e1]; omega)))
    · exact Or.inr (Or.inr (Or.inr (Or.inl (by rw [e2]; omega))))
    · exact Or.inr (Or.inr (Or.inr (Or.inr (Or.inl (by rw [e3]; omega)))))
    · exact Or.inr (Or.inr (Or.inr (Or.inr (Or.inr a))))
    · exact Or.inr (Or.inl ⟨(r - 48) / 8, by omega, by omega, by rw [e4]; omega⟩)
def row0 (r : Int) : Bool := decide (r = 35) || decide (r = 39) || decide (r = 46) || decide (r = 118) || (decide (48 ≤ r) && decide (r ≤ 87) && decide ((r - 48) % 8 = 0))
theorem row0_iff (r : Int) : row0 r = true ↔ plX 0 0 0 r := by
  rw [plX_0]
  unfold row0
  simp only [Bool.or_eq_true, Bool.and_eq_true, decide_eq_true_iff]
  omega
theorem tb_01 {M : Mm} {a j : Int} {c : Bool} (h : M a j = b2i c) {b : Nat} : tb M a j b = (c && decide (b = 0)) := by
  unfold tb
  rw [h]
  cases c
  · show Nat.testBit (0 : Int).toNat b = _
    rw [show (0 : Int).toNat = 0 from rfl, Nat.zero_testBit, Bool.false_and]
  · show Nat.testBit (1 : Int).toNat b = _
    rw [show (1 : Int).toNat = 2 ^ 0 from rfl, Nat.testBit_two_pow, Bool.true_and]
    exact decide_eq_decide.mpr ⟨fun x => x.symm, fun x => x.symm⟩
theorem RW_start {M : Mm} (c21 : M 2 1 = 0) (c22 : M 2 2 = 1) (c23 : M 2 3 = -1) (c24 : M 2 4 = 0) (c25 : M 2 5 = 0) (c26 : M 2 6 = 0) (m1 : M 739 1 = 0) (m2 : M 739 2 = 1) (m3 : M 739 3 = 0) (m7 : M 739 7 = 1) (m13 : M 739 13 = 0) (m15 : M 739 15 = 0) (m21 : M 739 21 = 0) (m24 : M 739 24 = -1) (m25 : M 739 25 = 0) (c13 : M 0 13 = -1) (c14 : M 0 14 = 0) (c5 : M 138 5 = 0) (c9 : M 10 9 = 1) (c10 : M 10 10 = 1) (p0 : M 136 0 = 0) (k0 : M 137 0 = 0) (w42 : M 742 0 = 0) (w43 : M 743 0 = 0) (w44 : M 744 0 = 0) (w45 : M 745 0 = 0) (w46 : M 746 0 = 0) (w51 : M 751 0 = 0) (w52 : M 752 0 = 0) (l0 : M 155 0 = 1) (ht : ∀ p : Int, 0 ≤ p → p < 7 → M 11 p = 0) (hr : ∀ r j : Int, 0 ≤ r → r ≤ 118 → 0 ≤ j → j ≤ 46 → M (17 + r) j = b2i (row0 r && decide (j = 0))) : RELW M := by
  have eD0 : eD M 2 = 0 := by unfold eD; rw [if_pos c23]
  have lD0 : lD M 2 = 0 := by unfold lD; rw [if_neg (fun q => q.2 c25), eD0]
  have lW0 : lW M 2 = 0 := by unfold lW; rw [if_neg (fun q => q c26)]
  have hI : ∀ q : Int → Int, (∀ p : Int, 0 ≤ p → p < 7 → q p = 0) → IDX (M 2 1) (fun k => M 3 k) (M 2 2) (lD M 2 - eD M 2 + 1) (lW M 2 + 1) 0 q 0 0 0 := fun q hq0 => by
    rw [c21, c22, lD0, eD0, lW0]
    refine ⟨fun p a b => by omega, fun p a b => hq0 p a b, by decide, by decide, by decide, by decide, by decide, by decide, ?_⟩
    show (0 : Int) = ((hq (fun k => M 3 k) q 0 * 1 + 0) * (0 - 0 + 1) + 0) * (0 + 1) + 0
    have : hq (fun k => M 3 k) q 0 = 0 := rfl
    rw [this]
    decide
  have tb0 : ∀ (r j : Int) (b : Nat), 0 ≤ r → r ≤ 118 → 0 ≤ j → j ≤ 46 → tb M (17 + r) j b = (row0 r && decide (j = 0) && decide (b = 0)) := fun r j b a1 a2 a3 a4 => tb_01 (hr r j a1 a2 a3 a4)
  refine ⟨fun _ => 0, ⟨⟨⟨by rw [m1, c21], by rw [m2, c22], by rw [m3, c24], fun k a b => by omega⟩, by rw [c9, c10]; decide⟩, ?_, fun i a b => ?_, fun w v a b d => by omega, fun w a b => ?_⟩, ⟨⟨by rw [c5, m15], fun k a b => by omega⟩, fun p a b => ?_, fun k a b j t j0 j1 ht2 => ?_, fun w a b => ?_, fun w k a b d e => by omega, fun w k a b d e => ?_, fun i k a b d e f => ?_⟩, fun s a b => by omega, fun q a b => by omega, Or.inl ⟨c13, m24⟩, by rw [c14, m25]⟩
  · intro r j b r0 r1 _ j0 j1 hb
    rw [tb0 r j b r0 r1 j0 j1, c21, c24, c9]
    constructor
    · intro h
      simp only [Bool.and_eq_true, decide_eq_true_iff] at h
      refine ⟨0, by decide, by decide, by rw [p0]; exact (row0_iff r).mp h.1.1, by omega, by omega⟩
    · rintro ⟨i, a1, a2, a3, a4, a5⟩
      have : i = 0 := by omega
      rw [this, p0] at a3
      simp only [Bool.and_eq_true, decide_eq_true_iff]
      exact ⟨⟨(row0_iff r).mpr a3, by omega⟩, by omega⟩
  · have : i = 0 := by omega
    rw [this, p0, k0]
    refine ⟨?_, ?_⟩
    · have := hI (cdX 0) (fun p _ _ => cdX_0 p)
      rw [show rdX 0 = 0 by decide, show dyX 0 = 0 by decide, show wdX 0 = 0 by decide, eD0] at *
      exact this
    · rw [c21]
      rfl
  · have hw : w = 0 := by omega
    rw [hw]
    refine ⟨Int.le_refl _, by show (0 : Int) < M 10 9; rw [c9]; decide, ?_, fun p _ _ => ⟨fun _ => by rw [w43, Int.zero_ediv]; rfl, fun _ => by unfold kiF; rw [w42, Int.zero_ediv]; rfl⟩⟩
    refine ⟨fun _ => 0, 0, 0, 0, hI (fun _ => 0) (fun _ _ _ => rfl), ⟨fun p a b => by omega, evF_10.trans w44, evF_11.trans (by rw [w45, eD0]; decide), evF_12.trans w46, evF_13.trans (by rw [m1, c21]), fun p a b => by omega, fun p a b => by omega⟩, fun k a => evF_t0 a⟩
  · rw [ht p a b, m15]
    rfl
  · rw [show (119 : Int) + k = 17 + (102 + k) by omega, tb0 (102 + k) j t (by omega) (by omega) j0 j1]
    have : row0 (102 + k) = false := by
      cases e : row0 (102 + k)
      · rfl
      · have := (plX_0 _).mp ((row0_iff _).mp e)
        omega
    rw [this, Bool.false_and, Bool.false_and]
  · have hw : w = 0 := by omega
    rw [hw, w51, w52, m15]
    exact ⟨⟨by decide, by decide⟩, by decide, by decide⟩
  · have hw : w = 0 := by omega
    have hk : k = 0 := by omega
    rw [hw, hk, w52]
    show tb M 155 (0 / 64) (0 % 64 : Int).toNat = _
    rw [show (0 : Int) / 64 = 0 by decide, tb_01 (c := true) (show M 155 0 = b2i true from l0)]
    decide
  · have hk : k = 0 := by omega
    have hi : i ≠ 0 := fun q => d 0 (by decide) (by rw [m7]; decide) q.symm
    rw [c10] at b
    rw [hk]
    show tb M (155 + 0) (i / 64) (i % 64).toNat = false
    rw [show (155 : Int) + 0 = 155 by decide, show i / 64 = 0 by omega, tb_01 (c := true) (show M 155 0 = b2i true from l0), Bool.true_and]
    exact decide_eq_false (by omega)
