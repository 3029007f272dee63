/-! ===== written by program (wip/layer5/start5.py): the heap behind the constructors tells one WORLD on both sides ===== -/
noncomputable def ck5a (o : Option eG) : Bool := match o with
  | some (_, _, _, h) => decide (und ((e_get h 2).2.2 1) = 0) && decide (und ((e_get h 2).2.2 2) = 1) && decide (und ((e_get h 2).2.2 3) = -1) && decide (und ((e_get h 2).2.2 4) = 0) && decide (und ((e_get h 2).2.2 5) = 0) && decide (und ((e_get h 2).2.2 6) = 0) && decide (und ((e_get h 739).2.2 1) = 0) && decide (und ((e_get h 739).2.2 2) = 1) && decide (und ((e_get h 739).2.2 3) = 0) && decide (und ((e_get h 739).2.2 7) = 1) && decide (und ((e_get h 739).2.2 13) = 0) && decide (und ((e_get h 739).2.2 15) = 0) && decide (und ((e_get h 739).2.2 21) = 0) && decide (und ((e_get h 739).2.2 24) = -1) && decide (und ((e_get h 739).2.2 25) = 0) && decide (und ((e_get h 0).2.2 13) = -1) && decide (und ((e_get h 0).2.2 14) = 0) && decide (und ((e_get h 138).2.2 5) = 0) && decide (und ((e_get h 10).2.2 9) = 1) && decide (und ((e_get h 10).2.2 10) = 1) && decide (und ((e_get h 136).2.2 0) = 0) && decide (und ((e_get h 137).2.2 0) = 0) && decide (und ((e_get h 742).2.2 0) = 0) && decide (und ((e_get h 743).2.2 0) = 0) && decide (und ((e_get h 744).2.2 0) = 0) && decide (und ((e_get h 745).2.2 0) = 0) && decide (und ((e_get h 746).2.2 0) = 0) && decide (und ((e_get h 751).2.2 0) = 0) && decide (und ((e_get h 752).2.2 0) = 0) && decide (und ((e_get h 155).2.2 0) = 1)
  | none => false
noncomputable def ck5r (o : Option eG) : Bool := match o with
  | some (_, _, _, h) => (List.range 119).all fun r => (List.range 47).all fun j => decide (und ((e_get h (17 + r)).2.2 j) = b2i (row0 (r : Int) && decide ((j : Int) = 0)))
  | none => false
noncomputable def ck5t (o : Option eG) : Bool := match o with
  | some (_, _, _, h) => (List.range 7).all fun p => decide (und ((e_get h 11).2.2 p) = 0)
  | none => false
set_option maxRecDepth 100000 in
theorem ck_5a : ck5a oL = true := by decide +kernel
set_option maxRecDepth 100000 in
theorem ck_5r : ck5r oL = true := by decide +kernel
set_option maxRecDepth 100000 in
theorem ck_5t : ck5t oL = true := by decide +kernel
theorem st5 {g : eG} (e : oL = some g) : RELW (M0f g.2.2.2) := by
  obtain ⟨pc, lo, st, h⟩ := g
  show RELW (M0f h)
  have k1 := ck_5a
  have k2 := ck_5r
  have k3 := ck_5t
  rw [e] at k1 k2 k3
  have k1' : (decide (und ((e_get h 2).2.2 1) = 0) && decide (und ((e_get h 2).2.2 2) = 1) && decide (und ((e_get h 2).2.2 3) = -1) && decide (und ((e_get h 2).2.2 4) = 0) && decide (und ((e_get h 2).2.2 5) = 0) && decide (und ((e_get h 2).2.2 6) = 0) && decide (und ((e_get h 739).2.2 1) = 0) && decide (und ((e_get h 739).2.2 2) = 1) && decide (und ((e_get h 739).2.2 3) = 0) && decide (und ((e_get h 739).2.2 7) = 1) && decide (und ((e_get h 739).2.2 13) = 0) && decide (und ((e_get h 739).2.2 15) = 0) && decide (und ((e_get h 739).2.2 21) = 0) && decide (und ((e_get h 739).2.2 24) = -1) && decide (und ((e_get h 739).2.2 25) = 0) && decide (und ((e_get h 0).2.2 13) = -1) && decide (und ((e_get h 0).2.2 14) = 0) && decide (und ((e_get h 138).2.2 5) = 0) && decide (und ((e_get h 10).2.2 9) = 1) && decide (und ((e_get h 10).2.2 10) = 1) && decide (und ((e_get h 136).2.2 0) = 0) && decide (und ((e_get h 137).2.2 0) = 0) && decide (und ((e_get h 742).2.2 0) = 0) && decide (und ((e_get h 743).2.2 0) = 0) && decide (und ((e_get h 744).2.2 0) = 0) && decide (und ((e_get h 745).2.2 0) = 0) && decide (und ((e_get h 746).2.2 0) = 0) && decide (und ((e_get h 751).2.2 0) = 0) && decide (und ((e_get h 752).2.2 0) = 0) && decide (und ((e_get h 155).2.2 0) = 1)) = true := k1
  have k2' : ((List.range 119).all fun r => (List.range 47).all fun j => decide (und ((e_get h (17 + r)).2.2 j) = b2i (row0 (r : Int) && decide ((j : Int) = 0)))) = true := k2
  have k3' : ((List.range 7).all fun p => decide (und ((e_get h 11).2.2 p) = 0)) = true := k3
  simp only [Bool.and_eq_true, decide_eq_true_eq] at k1'
  obtain ⟨⟨⟨⟨⟨⟨⟨⟨⟨⟨⟨⟨⟨⟨⟨⟨⟨⟨⟨⟨⟨⟨⟨⟨⟨⟨⟨⟨⟨c21, c22⟩, c23⟩, c24⟩, c25⟩, c26⟩, m1⟩, m2⟩, m3⟩, m7⟩, m13⟩, m15⟩, m21⟩, m24⟩, m25⟩, c13⟩, c14⟩, c5⟩, c9⟩, c10⟩, p0⟩, k0⟩, w42⟩, w43⟩, w44⟩, w45⟩, w46⟩, w51⟩, w52⟩, l0⟩ := k1'
  have mf : ∀ a i : Nat, M0f h (a : Int) (i : Int) = und ((e_get h a).2.2 i) := fun a i => by
    unfold M0f
    rw [if_neg (by omega), Int.toNat_natCast, Int.toNat_natCast]
  refine RW_start ((mf 2 1).trans c21) ((mf 2 2).trans c22) ((mf 2 3).trans c23) ((mf 2 4).trans c24) ((mf 2 5).trans c25) ((mf 2 6).trans c26) ((mf 739 1).trans m1) ((mf 739 2).trans m2) ((mf 739 3).trans m3) ((mf 739 7).trans m7) ((mf 739 13).trans m13) ((mf 739 15).trans m15) ((mf 739 21).trans m21) ((mf 739 24).trans m24) ((mf 739 25).trans m25) ((mf 0 13).trans c13) ((mf 0 14).trans c14) ((mf 138 5).trans c5) ((mf 10 9).trans c9) ((mf 10 10).trans c10) ((mf 136 0).trans p0) ((mf 137 0).trans k0) ((mf 742 0).trans w42) ((mf 743 0).trans w43) ((mf 744 0).trans w44) ((mf 745 0).trans w45) ((mf 746 0).trans w46) ((mf 751 0).trans w51) ((mf 752 0).trans w52) ((mf 155 0).trans l0) (fun p a b => ?_) (fun r j a b c d => ?_)
  · have q := of_decide_eq_true (List.all_eq_true.mp k3' p.toNat (List.mem_range.mpr (by omega)))
    have e2 := mf 11 p.toNat
    rw [show ((p.toNat : Nat) : Int) = p by omega] at e2
    exact e2.trans q
  · have q := of_decide_eq_true (List.all_eq_true.mp (List.all_eq_true.mp k2' r.toNat (List.mem_range.mpr (by omega))) j.toNat (List.mem_range.mpr (by omega)))
    rw [show ((r.toNat : Nat) : Int) = r by omega, show ((j.toNat : Nat) : Int) = j by omega] at q
    have e2 := mf (17 + r.toNat) j.toNat
    rw [show ((17 + r.toNat : Nat) : Int) = 17 + r by omega, show ((j.toNat : Nat) : Int) = j by omega] at e2
    exact e2.trans q
