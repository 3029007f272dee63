/-! ===== written by program (wip/layer2/startp.py): the bounds hold at the start ===== -/
def stepb (z : Int) : Bool := decide (0 ≤ z) && decide (z ≤ 10239) && decide (z % 8 = 0) && decide (z / 8 ≤ 118)
def isCb (z : Int) : Bool := decide (z = 4)
def exb (k : Nat) (z : Int) : Bool := cond (exn k) true (cond (Nat.beq k 32) (stepb z) (cond (Nat.beq k 35) (isCb z) (decide (z = 0))))
theorem exb_s {k : Nat} {z : Int} (h : exb k z = true) : Ex k z := by
  unfold exb at h
  cases he : exn k with
  | true => exact Ex.no he z
  | false =>
    rw [he] at h
    have h' : cond (Nat.beq k 32) (stepb z) (cond (Nat.beq k 35) (isCb z) (decide (z = 0))) = true := h
    cases hb : Nat.beq k 32 with
    | true =>
      rw [hb] at h'
      have e := Nat.eq_of_beq_eq_true hb
      subst e
      have hs : stepb z = true := h'
      unfold stepb at hs
      simp only [Bool.and_eq_true, decide_eq_true_eq] at hs
      exact ⟨fun _ => by unfold stepok; omega, fun q => absurd q (by decide), fun q => absurd q (by decide), fun q => absurd q (by decide)⟩
    | false =>
      rw [hb] at h'
      have hk : k ≠ 32 := fun q => by rw [q] at hb; cases hb
      cases hc : Nat.beq k 35 with
      | true =>
        rw [hc] at h'
        have e := Nat.eq_of_beq_eq_true hc
        subst e
        have hs : isCb z = true := h'
        unfold isCb at hs
        exact ⟨fun q => absurd q (by decide), fun _ => Or.inl (of_decide_eq_true hs), fun q => absurd q (by decide), fun q => absurd q (by decide)⟩
      | false =>
        rw [hc] at h'
        have hk2 : k ≠ 35 := fun q => by rw [q] at hc; cases hc
        have hz : z = 0 := of_decide_eq_true h'
        subst hz
        exact ⟨fun q => absurd q hk, fun q => absurd q hk2, fun _ => by unfold refok; decide, fun _ => by unfold refok; decide⟩
noncomputable def bdb (a i z : Int) : Bool := decide (bloL.getD (grp a i) 0 + bcoL.getD (grp a i) 0 * i + bsfL.getD (grp a i) 0 * a ≤ z) && decide (z ≤ bhiL.getD (grp a i) 0 + bcoL.getD (grp a i) 0 * i + bsfL.getD (grp a i) 0 * a) && exb (grp a i) z
theorem bdb_s {a i z : Int} (h : bdb a i z = true) : Bd a i z := by
  unfold bdb at h
  simp only [Bool.and_eq_true, decide_eq_true_eq] at h
  exact ⟨h.1, exb_s h.2⟩
/-- a row of one group -/
noncomputable def bd1 (l u : Int) (k : Nat) (z : Int) : Bool := decide (l ≤ z) && decide (z ≤ u) && exb k z
noncomputable def cst (a : Nat) : Bool := (Nat.ble 1 a && Nat.ble a 1) || (Nat.ble 3 a && Nat.ble a 3) || (Nat.ble 5 a && Nat.ble a 5) || (Nat.ble 8 a && Nat.ble a 8) || (Nat.ble 11 a && Nat.ble a 11) || (Nat.ble 12 a && Nat.ble a 12) || (Nat.ble 13 a && Nat.ble a 13) || (Nat.ble 15 a && Nat.ble a 15) || (Nat.ble 17 a && Nat.ble a 135) || (Nat.ble 136 a && Nat.ble a 136) || (Nat.ble 137 a && Nat.ble a 137) || (Nat.ble 139 a && Nat.ble a 139) || (Nat.ble 140 a && Nat.ble a 140) || (Nat.ble 142 a && Nat.ble a 153) || (Nat.ble 155 a && Nat.ble a 167) || (Nat.ble 169 a && Nat.ble a 169) || (Nat.ble 171 a && Nat.ble a 171) || (Nat.ble 172 a && Nat.ble a 172) || (Nat.ble 173 a && Nat.ble a 173) || (Nat.ble 175 a && Nat.ble a 175) || (Nat.ble 177 a && Nat.ble a 177) || (Nat.ble 178 a && Nat.ble a 178) || (Nat.ble 179 a && Nat.ble a 179) || (Nat.ble 181 a && Nat.ble a 181) || (Nat.ble 183 a && Nat.ble a 300) || (Nat.ble 302 a && Nat.ble a 302) || (Nat.ble 303 a && Nat.ble a 303) || (Nat.ble 304 a && Nat.ble a 304) || (Nat.ble 306 a && Nat.ble a 605) || (Nat.ble 614 a && Nat.ble a 614) || (Nat.ble 616 a && Nat.ble a 645) || (Nat.ble 647 a && Nat.ble a 676) || (Nat.ble 740 a && Nat.ble a 740) || (Nat.ble 741 a && Nat.ble a 741) || (Nat.ble 742 a && Nat.ble a 742) || (Nat.ble 743 a && Nat.ble a 743) || (Nat.ble 744 a && Nat.ble a 744) || (Nat.ble 745 a && Nat.ble a 745) || (Nat.ble 746 a && Nat.ble a 746) || (Nat.ble 747 a && Nat.ble a 747) || (Nat.ble 748 a && Nat.ble a 748) || (Nat.ble 749 a && Nat.ble a 749) || (Nat.ble 750 a && Nat.ble a 750) || (Nat.ble 751 a && Nat.ble a 751) || (Nat.ble 752 a && Nat.ble a 752) || (Nat.ble 753 a && Nat.ble a 753) || (Nat.ble 754 a && Nat.ble a 754) || (Nat.ble 755 a && Nat.ble a 755) || (Nat.ble 756 a && Nat.ble a 756) || (Nat.ble 757 a && Nat.ble a 757) || (Nat.ble 758 a && Nat.ble a 758) || (Nat.ble 759 a && Nat.ble a 759) || (Nat.ble 760 a && Nat.ble a 760) || (Nat.ble 761 a && Nat.ble a 761) || (Nat.ble 762 a && Nat.ble a 762) || (Nat.ble 763 a && Nat.ble a 763) || (Nat.ble 764 a && Nat.ble a 764) || (Nat.ble 765 a && Nat.ble a 765) || (Nat.ble 766 a && Nat.ble a 766) || (Nat.ble 767 a && Nat.ble a 767) || (Nat.ble 768 a && Nat.ble a 768) || (Nat.ble 769 a && Nat.ble a 769)
theorem cst_s {a : Nat} (h : cst a = true) (i : Int) : grp a i = grp a 0 := by
  unfold cst at h
  simp only [Bool.or_eq_true, Bool.and_eq_true] at h
  rcases h with (((((((((((((((((((((((((((((((((((((((((((((((((((((((((((((h | h) | h) | h) | h) | h) | h) | h) | h) | h) | h) | h) | h) | h) | h) | h) | h) | h) | h) | h) | h) | h) | h) | h) | h) | h) | h) | h) | h) | h) | h) | h) | h) | h) | h) | h) | h) | h) | h) | h) | h) | h) | h) | h) | h) | h) | h) | h) | h) | h) | h) | h) | h) | h) | h) | h) | h) | h) | h) | h) | h) | h)
  · have h1 := Nat.le_of_ble_eq_true h.1
    have h2 := Nat.le_of_ble_eq_true h.2
    rw [gr_1 (by omega) (by omega), gr_1 (by omega) (by omega)]
  · have h1 := Nat.le_of_ble_eq_true h.1
    have h2 := Nat.le_of_ble_eq_true h.2
    rw [gr_3 (by omega) (by omega), gr_3 (by omega) (by omega)]
  · have h1 := Nat.le_of_ble_eq_true h.1
    have h2 := Nat.le_of_ble_eq_true h.2
    rw [gr_5 (by omega) (by omega), gr_5 (by omega) (by omega)]
  · have h1 := Nat.le_of_ble_eq_true h.1
    have h2 := Nat.le_of_ble_eq_true h.2
    rw [gr_8 (by omega) (by omega), gr_8 (by omega) (by omega)]
  · have h1 := Nat.le_of_ble_eq_true h.1
    have h2 := Nat.le_of_ble_eq_true h.2
    rw [gr_11 (by omega) (by omega), gr_11 (by omega) (by omega)]
  · have h1 := Nat.le_of_ble_eq_true h.1
    have h2 := Nat.le_of_ble_eq_true h.2
    rw [gr_12 (by omega) (by omega), gr_12 (by omega) (by omega)]
  · have h1 := Nat.le_of_ble_eq_true h.1
    have h2 := Nat.le_of_ble_eq_true h.2
    rw [gr_13 (by omega) (by omega), gr_13 (by omega) (by omega)]
  · have h1 := Nat.le_of_ble_eq_true h.1
    have h2 := Nat.le_of_ble_eq_true h.2
    rw [gr_15 (by omega) (by omega), gr_15 (by omega) (by omega)]
  · have h1 := Nat.le_of_ble_eq_true h.1
    have h2 := Nat.le_of_ble_eq_true h.2
    rw [gr_17 (by omega) (by omega), gr_17 (by omega) (by omega)]
  · have h1 := Nat.le_of_ble_eq_true h.1
    have h2 := Nat.le_of_ble_eq_true h.2
    rw [gr_136 (by omega) (by omega), gr_136 (by omega) (by omega)]
  · have h1 := Nat.le_of_ble_eq_true h.1
    have h2 := Nat.le_of_ble_eq_true h.2
    rw [gr_137 (by omega) (by omega), gr_137 (by omega) (by omega)]
  · have h1 := Nat.le_of_ble_eq_true h.1
    have h2 := Nat.le_of_ble_eq_true h.2
    rw [gr_139 (by omega) (by omega), gr_139 (by omega) (by omega)]
  · have h1 := Nat.le_of_ble_eq_true h.1
    have h2 := Nat.le_of_ble_eq_true h.2
    rw [gr_140 (by omega) (by omega), gr_140 (by omega) (by omega)]
  · have h1 := Nat.le_of_ble_eq_true h.1
    have h2 := Nat.le_of_ble_eq_true h.2
    rw [gr_142 (by omega) (by omega), gr_142 (by omega) (by omega)]
  · have h1 := Nat.le_of_ble_eq_true h.1
    have h2 := Nat.le_of_ble_eq_true h.2
    rw [gr_155 (by omega) (by omega), gr_155 (by omega) (by omega)]
  · have h1 := Nat.le_of_ble_eq_true h.1
    have h2 := Nat.le_of_ble_eq_true h.2
    rw [gr_169 (by omega) (by omega), gr_169 (by omega) (by omega)]
  · have h1 := Nat.le_of_ble_eq_true h.1
    have h2 := Nat.le_of_ble_eq_true h.2
    rw [gr_171 (by omega) (by omega), gr_171 (by omega) (by omega)]
  · have h1 := Nat.le_of_ble_eq_true h.1
    have h2 := Nat.le_of_ble_eq_true h.2
    rw [gr_172 (by omega) (by omega), gr_172 (by omega) (by omega)]
  · have h1 := Nat.le_of_ble_eq_true h.1
    have h2 := Nat.le_of_ble_eq_true h.2
    rw [gr_173 (by omega) (by omega), gr_173 (by omega) (by omega)]
  · have h1 := Nat.le_of_ble_eq_true h.1
    have h2 := Nat.le_of_ble_eq_true h.2
    rw [gr_175 (by omega) (by omega), gr_175 (by omega) (by omega)]
  · have h1 := Nat.le_of_ble_eq_true h.1
    have h2 := Nat.le_of_ble_eq_true h.2
    rw [gr_177 (by omega) (by omega), gr_177 (by omega) (by omega)]
  · have h1 := Nat.le_of_ble_eq_true h.1
    have h2 := Nat.le_of_ble_eq_true h.2
    rw [gr_178 (by omega) (by omega), gr_178 (by omega) (by omega)]
  · have h1 := Nat.le_of_ble_eq_true h.1
    have h2 := Nat.le_of_ble_eq_true h.2
    rw [gr_179 (by omega) (by omega), gr_179 (by omega) (by omega)]
  · have h1 := Nat.le_of_ble_eq_true h.1
    have h2 := Nat.le_of_ble_eq_true h.2
    rw [gr_181 (by omega) (by omega), gr_181 (by omega) (by omega)]
  · have h1 := Nat.le_of_ble_eq_true h.1
    have h2 := Nat.le_of_ble_eq_true h.2
    rw [gr_183 (by omega) (by omega), gr_183 (by omega) (by omega)]
  · have h1 := Nat.le_of_ble_eq_true h.1
    have h2 := Nat.le_of_ble_eq_true h.2
    rw [gr_302 (by omega) (by omega), gr_302 (by omega) (by omega)]
  · have h1 := Nat.le_of_ble_eq_true h.1
    have h2 := Nat.le_of_ble_eq_true h.2
    rw [gr_303 (by omega) (by omega), gr_303 (by omega) (by omega)]
  · have h1 := Nat.le_of_ble_eq_true h.1
    have h2 := Nat.le_of_ble_eq_true h.2
    rw [gr_304 (by omega) (by omega), gr_304 (by omega) (by omega)]
  · have h1 := Nat.le_of_ble_eq_true h.1
    have h2 := Nat.le_of_ble_eq_true h.2
    rw [gr_306 (by omega) (by omega), gr_306 (by omega) (by omega)]
  · have h1 := Nat.le_of_ble_eq_true h.1
    have h2 := Nat.le_of_ble_eq_true h.2
    rw [gr_614 (by omega) (by omega), gr_614 (by omega) (by omega)]
  · have h1 := Nat.le_of_ble_eq_true h.1
    have h2 := Nat.le_of_ble_eq_true h.2
    rw [gr_616 (by omega) (by omega), gr_616 (by omega) (by omega)]
  · have h1 := Nat.le_of_ble_eq_true h.1
    have h2 := Nat.le_of_ble_eq_true h.2
    rw [gr_647 (by omega) (by omega), gr_647 (by omega) (by omega)]
  · have h1 := Nat.le_of_ble_eq_true h.1
    have h2 := Nat.le_of_ble_eq_true h.2
    rw [gr_740 (by omega) (by omega), gr_740 (by omega) (by omega)]
  · have h1 := Nat.le_of_ble_eq_true h.1
    have h2 := Nat.le_of_ble_eq_true h.2
    rw [gr_741 (by omega) (by omega), gr_741 (by omega) (by omega)]
  · have h1 := Nat.le_of_ble_eq_true h.1
    have h2 := Nat.le_of_ble_eq_true h.2
    rw [gr_742 (by omega) (by omega), gr_742 (by omega) (by omega)]
  · have h1 := Nat.le_of_ble_eq_true h.1
    have h2 := Nat.le_of_ble_eq_true h.2
    rw [gr_743 (by omega) (by omega), gr_743 (by omega) (by omega)]
  · have h1 := Nat.le_of_ble_eq_true h.1
    have h2 := Nat.le_of_ble_eq_true h.2
    rw [gr_744 (by omega) (by omega), gr_744 (by omega) (by omega)]
  · have h1 := Nat.le_of_ble_eq_true h.1
    have h2 := Nat.le_of_ble_eq_true h.2
    rw [gr_745 (by omega) (by omega), gr_745 (by omega) (by omega)]
  · have h1 := Nat.le_of_ble_eq_true h.1
    have h2 := Nat.le_of_ble_eq_true h.2
    rw [gr_746 (by omega) (by omega), gr_746 (by omega) (by omega)]
  · have h1 := Nat.le_of_ble_eq_true h.1
    have h2 := Nat.le_of_ble_eq_true h.2
    rw [gr_747 (by omega) (by omega), gr_747 (by omega) (by omega)]
  · have h1 := Nat.le_of_ble_eq_true h.1
    have h2 := Nat.le_of_ble_eq_true h.2
    rw [gr_748 (by omega) (by omega), gr_748 (by omega) (by omega)]
  · have h1 := Nat.le_of_ble_eq_true h.1
    have h2 := Nat.le_of_ble_eq_true h.2
    rw [gr_749 (by omega) (by omega), gr_749 (by omega) (by omega)]
  · have h1 := Nat.le_of_ble_eq_true h.1
    have h2 := Nat.le_of_ble_eq_true h.2
    rw [gr_750 (by omega) (by omega), gr_750 (by omega) (by omega)]
  · have h1 := Nat.le_of_ble_eq_true h.1
    have h2 := Nat.le_of_ble_eq_true h.2
    rw [gr_751 (by omega) (by omega), gr_751 (by omega) (by omega)]
  · have h1 := Nat.le_of_ble_eq_true h.1
    have h2 := Nat.le_of_ble_eq_true h.2
    rw [gr_752 (by omega) (by omega), gr_752 (by omega) (by omega)]
  · have h1 := Nat.le_of_ble_eq_true h.1
    have h2 := Nat.le_of_ble_eq_true h.2
    rw [gr_753 (by omega) (by omega), gr_753 (by omega) (by omega)]
  · have h1 := Nat.le_of_ble_eq_true h.1
    have h2 := Nat.le_of_ble_eq_true h.2
    rw [gr_754 (by omega) (by omega), gr_754 (by omega) (by omega)]
  · have h1 := Nat.le_of_ble_eq_true h.1
    have h2 := Nat.le_of_ble_eq_true h.2
    rw [gr_755 (by omega) (by omega), gr_755 (by omega) (by omega)]
  · have h1 := Nat.le_of_ble_eq_true h.1
    have h2 := Nat.le_of_ble_eq_true h.2
    rw [gr_756 (by omega) (by omega), gr_756 (by omega) (by omega)]
  · have h1 := Nat.le_of_ble_eq_true h.1
    have h2 := Nat.le_of_ble_eq_true h.2
    rw [gr_757 (by omega) (by omega), gr_757 (by omega) (by omega)]
  · have h1 := Nat.le_of_ble_eq_true h.1
    have h2 := Nat.le_of_ble_eq_true h.2
    rw [gr_758 (by omega) (by omega), gr_758 (by omega) (by omega)]
  · have h1 := Nat.le_of_ble_eq_true h.1
    have h2 := Nat.le_of_ble_eq_true h.2
    rw [gr_759 (by omega) (by omega), gr_759 (by omega) (by omega)]
  · have h1 := Nat.le_of_ble_eq_true h.1
    have h2 := Nat.le_of_ble_eq_true h.2
    rw [gr_760 (by omega) (by omega), gr_760 (by omega) (by omega)]
  · have h1 := Nat.le_of_ble_eq_true h.1
    have h2 := Nat.le_of_ble_eq_true h.2
    rw [gr_761 (by omega) (by omega), gr_761 (by omega) (by omega)]
  · have h1 := Nat.le_of_ble_eq_true h.1
    have h2 := Nat.le_of_ble_eq_true h.2
    rw [gr_762 (by omega) (by omega), gr_762 (by omega) (by omega)]
  · have h1 := Nat.le_of_ble_eq_true h.1
    have h2 := Nat.le_of_ble_eq_true h.2
    rw [gr_763 (by omega) (by omega), gr_763 (by omega) (by omega)]
  · have h1 := Nat.le_of_ble_eq_true h.1
    have h2 := Nat.le_of_ble_eq_true h.2
    rw [gr_764 (by omega) (by omega), gr_764 (by omega) (by omega)]
  · have h1 := Nat.le_of_ble_eq_true h.1
    have h2 := Nat.le_of_ble_eq_true h.2
    rw [gr_765 (by omega) (by omega), gr_765 (by omega) (by omega)]
  · have h1 := Nat.le_of_ble_eq_true h.1
    have h2 := Nat.le_of_ble_eq_true h.2
    rw [gr_766 (by omega) (by omega), gr_766 (by omega) (by omega)]
  · have h1 := Nat.le_of_ble_eq_true h.1
    have h2 := Nat.le_of_ble_eq_true h.2
    rw [gr_767 (by omega) (by omega), gr_767 (by omega) (by omega)]
  · have h1 := Nat.le_of_ble_eq_true h.1
    have h2 := Nat.le_of_ble_eq_true h.2
    rw [gr_768 (by omega) (by omega), gr_768 (by omega) (by omega)]
  · have h1 := Nat.le_of_ble_eq_true h.1
    have h2 := Nat.le_of_ble_eq_true h.2
    rw [gr_769 (by omega) (by omega), gr_769 (by omega) (by omega)]
noncomputable def ckB (h : eH) (a : Nat) : Bool := match e_get h a with
  | (_, _, f) => cond (cst a) (allN (ln a) (fun i => bd1 (bloL.getD (grp a 0) 0) (bhiL.getD (grp a 0) 0) (grp a 0) (und (f i))) && decide (bcoL.getD (grp a 0) 0 = 0) && decide (bsfL.getD (grp a 0) 0 = 0)) (allN (ln a) (fun i => bdb a i (und (f i))))
theorem Pw_start {h : eH} (hc : ∀ a, a < 770 → ckB h a = true) : Pw (M0f h) := by
  intro a i h0 h1 h2 h3
  obtain ⟨a, rfl⟩ := Int.eq_ofNat_of_zero_le h0
  obtain ⟨i, rfl⟩ := Int.eq_ofNat_of_zero_le h2
  rw [Int.toNat_natCast] at h3
  have hq := hc a (by omega)
  unfold ckB at hq
  generalize hge : e_get h a = x at hq
  obtain ⟨k, n, f⟩ := x
  have e : M0f h (a : Int) (i : Int) = und (f i) := by
    unfold M0f
    rw [if_neg (by omega), Int.toNat_natCast, Int.toNat_natCast, hge]
  rw [e]
  have hq' : cond (cst a) (allN (ln a) (fun i => bd1 (bloL.getD (grp a 0) 0) (bhiL.getD (grp a 0) 0) (grp a 0) (und (f i))) && decide (bcoL.getD (grp a 0) 0 = 0) && decide (bsfL.getD (grp a 0) 0 = 0)) (allN (ln a) (fun i => bdb a i (und (f i)))) = true := hq
  cases hcs : cst a with
  | true =>
    rw [hcs] at hq'
    have hq2 : (allN (ln a) (fun i => bd1 (bloL.getD (grp a 0) 0) (bhiL.getD (grp a 0) 0) (grp a 0) (und (f i))) && decide (bcoL.getD (grp a 0) 0 = 0) && decide (bsfL.getD (grp a 0) 0 = 0)) = true := hq'
    simp only [Bool.and_eq_true, decide_eq_true_eq] at hq2
    have hb := allN_s _ hq2.1.1 i (by omega)
    unfold bd1 at hb
    simp only [Bool.and_eq_true, decide_eq_true_eq] at hb
    exact Bd.ofe (cst_s hcs i) rfl rfl hq2.1.2 hq2.2 (exb_s hb.2) hb.1
  | false =>
    rw [hcs] at hq'
    exact bdb_s (allN_s _ hq' i (by omega))
set_option maxRecDepth 100000 in
theorem ck_startB : ckS oL (fun h => allN 770 (ckB h)) = true := by decide +kernel
