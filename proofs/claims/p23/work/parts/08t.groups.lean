/-! ===== written by program (wip/layer2/groups.py): groups of cells and their bounds ===== -/
def grp (a i : Int) : Nat := if a < 0 then 0 else (if a < 304 then (if a < 141 then (if a < 11 then (if a < 5 then (if a < 2 then (if a < 1 then (1 + i.toNat) else (19)) else (if a < 3 then (20 + i.toNat) else (if a < 4 then (27) else (28 + i.toNat)))) else (if a < 8 then (if a < 6 then (32) else (if a < 7 then (33 + i.toNat) else (39 + i.toNat))) else (if a < 9 then (46) else (if a < 10 then (47 + i.toNat) else (52 + i.toNat))))) else (if a < 17 then (if a < 14 then (if a < 12 then (63) else (if a < 13 then (64) else (65))) else (if a < 15 then (66 + i.toNat) else (if a < 16 then (70) else (71)))) else (if a < 138 then (if a < 136 then (72) else (if a < 137 then (73) else (74))) else (if a < 139 then (75 + i.toNat) else (if a < 140 then (81) else (82)))))) else (if a < 175 then (if a < 169 then (if a < 154 then (if a < 142 then (83) else (84)) else (if a < 155 then (85) else (if a < 168 then (86) else (87)))) else (if a < 172 then (if a < 170 then (88) else (if a < 171 then (89 + i.toNat) else (94))) else (if a < 173 then (95) else (if a < 174 then (96) else (97 + i.toNat))))) else (if a < 181 then (if a < 178 then (if a < 176 then (103) else (if a < 177 then (104 + i.toNat) else (115))) else (if a < 179 then (116) else (if a < 180 then (117) else (118 + i.toNat)))) else (if a < 301 then (if a < 182 then (122) else (if a < 183 then (123) else (124))) else (if a < 302 then (if i = 4 then 126 else 125) else (if a < 303 then (127) else (128))))))) else (if a < 746 then (if a < 646 then (if a < 608 then (if a < 306 then (if a < 305 then (129) else (130)) else (if a < 606 then (131) else (if a < 607 then (if i = 4 then 133 else 132) else (134 + i.toNat)))) else (if a < 614 then (if a < 609 then (141) else (if a < 613 then (if i = 4 then 143 else 142) else (144 + i.toNat))) else (if a < 615 then (154) else (if a < 616 then (155) else (156))))) else (if a < 740 then (if a < 678 then (if a < 647 then (157) else (if a < 677 then (158) else (if i = 4 then 160 else 159))) else (if a < 679 then (if i = 4 then 162 else 161) else (if a < 739 then (if a % 2 = 1 then 28 + i.toNat else 32) else (163 + i.toNat)))) else (if a < 743 then (if a < 741 then (231) else (if a < 742 then (232) else (233))) else (if a < 744 then (234) else (if a < 745 then (235) else (236)))))) else (if a < 758 then (if a < 752 then (if a < 749 then (if a < 747 then (237) else (if a < 748 then (238) else (239))) else (if a < 750 then (240) else (if a < 751 then (241) else (242)))) else (if a < 755 then (if a < 753 then (243) else (if a < 754 then (244) else (245))) else (if a < 756 then (246) else (if a < 757 then (247) else (248))))) else (if a < 764 then (if a < 761 then (if a < 759 then (249) else (if a < 760 then (250) else (251))) else (if a < 762 then (252) else (if a < 763 then (253) else (254)))) else (if a < 767 then (if a < 765 then (255) else (if a < 766 then (256) else (257))) else (if a < 768 then (258) else (if a < 769 then (259) else (260))))))))
def bloL : List Int := [0, 1, 0, 2, 4, 6, (-1), 10, 138, 168, 0, 169, 0, 170, (-1), (-2147483648), 174, 607, 613, (-128), 3, (-1), (-1), (-1), 0, 0, 0, 1, 1, 0, 0, 0, 0, 9, 7, 4, (-1), 0, (-1), 8, (-1), (-1), (-1), 0, 0, 0, 0, 1, 0, 0, 0, 0, 16, 136, 137, 11, 12, 13, 14, (-1), 0, 0, 0, 0, 0, 0, 15, 0, 0, 0, 0, 17, 0, 0, 0, 10, 139, 141, 154, 140, 0, 0, 0, 142, 0, 155, 0, 679, 0, 171, 172, 173, 0, 0, 0, 0, 0, 176, 5, 304, 305, 175, 606, (-1), 182, 302, 303, 177, 178, 179, 180, (-1), 0, 0, 0, 0, 0, 0, 181, 0, 0, 0, 0, 183, 0, 0, 0, 0, 0, 0, 306, 0, 0, 0, 174, 168, 169, 608, 0, 0, (-1), 609, 0, 0, 174, 168, 615, 646, 677, 678, 0, 0, 614, 0, 0, 616, 0, 647, 0, 0, 0, 0, 0, 0, 0, 1, 0, 0, 740, 741, 0, 742, 743, 744, 745, 746, 0, 747, 0, 748, 749, 750, 751, 752, 0, 753, 754, (-1), (-2147483648), 755, 0, 0, (-1), 0, 0, 0, 0, 0, 0, 0, 0, 0, 0, (-1), 1, (-2147483648), 1, 0, 0, 0, 0, 756, 757, 758, 0, 759, 0, 760, 0, 761, 762, 0, 763, 764, 765, 766, 0, (-1), 0, 767, 768, 0, 0, 0, 0, 0, 0, 0, 0, 0, 0, (-1), (-2147483648), 0, 0, 0, 0, 0, (-2147483648), 0, 0, 0, (-2147483648), (-2147483648), 0, 0, (-2147483648), 0, 0, 0, 0]
def bhiL : List Int := [0, 1, 500, 2, 4, 6, 500, 10, 138, 168, 30, 169, 10, 170, 2999, 2147483647, 174, 607, 613, 127, 3, 7, 4, 6, 127, 1, 1, 31, 1, 256, 127, 32767, 10239, 9, 7, 737, 7, 6, 500, 8, 7, 4, 6, 127, 1, 1, 31, 1, 500, 500, 500, 4, 16, 136, 137, 11, 12, 13, 14, 7, 127, 3000, 47, 1, 18446744073709551615, 7, 15, 3, 6, 1, 5, 17, 18446744073709551615, 134217727, 2999, 10, 139, 141, 154, 140, 12, 6, 1, 142, 18446744073709551615, 155, 18446744073709551615, 679, 209, 171, 172, 173, 924, 1, 1, 4095, 4095, 176, 5, 304, 305, 175, 606, 299, 182, 302, 303, 177, 178, 179, 180, 7, 127, 300, 5, 1, 18446744073709551615, 7, 181, 3, 6, 1, 5, 183, 18446744073709551615, 18446744073709551615, 17592186044415, 134217727, 2999, 299, 306, 18446744073709551615, 18446744073709551615, 17592186044415, 174, 168, 169, 608, 10, 12, 9, 609, 18446744073709551615, 17592186044415, 174, 168, 615, 646, 677, 678, 30, 12, 614, 2, 209, 616, 18446744073709551615, 647, 18446744073709551615, 18446744073709551615, 17592186044415, 18446744073709551615, 17592186044415, 1, 7, 4, 127, 500, 740, 741, 3000, 742, 743, 744, 745, 746, 30, 747, 12, 748, 749, 750, 751, 752, 10, 753, 754, 2999, 2147483647, 755, 500, 6, 501, 500, 501, 4, 500, 500, 999, 255, 18446744073709551615, 999, 999, 999, 7, 2147483647, 2, 500, 1000, 520, 500, 756, 757, 758, 1, 759, 12000, 760, 3000, 761, 762, 4096, 763, 764, 765, 766, 3, 9, 2, 767, 768, 31, 300000, 2097151, 127, 3, 6, 1, 300000, 6, 29, 1, 2147483647, 4095, 6, 29, 255, 31, 2147483647, 127, 1, 9, 2147483647, 2147483647, 4095, 2999, 2147483647, 100, 209, 2999, 18446744073709551615]
def bcoL : List Int := [0, 0, 0, 0, 0, 0, 0, 0, 0, 0, 0, 0, 0, 0, 0, 0, 0, 0, 0, 0, 0, 0, 0, 0, 0, 0, 0, 0, 0, 0, 0, 0, 0, 0, 0, 0, 0, 0, 0, 0, 0, 0, 0, 0, 0, 0, 0, 0, 0, 0, 0, 0, 0, 0, 0, 0, 0, 0, 0, 0, 0, 0, 0, 0, 0, 0, 0, 0, 0, 0, 0, 1, 0, 0, 0, 0, 0, 0, 0, 0, 0, 0, 0, 1, 0, 1, 0, 2, 0, 0, 0, 0, 0, 0, 0, 0, 0, 0, 0, 0, 0, 0, 0, 0, 0, 0, 0, 0, 0, 0, 0, 0, 0, 0, 0, 0, 0, 0, 0, 0, 0, 0, 0, 1, 0, 0, 0, 0, 0, 0, 1, 0, 0, 0, 0, 0, 0, 0, 0, 0, 0, 1, 0, 0, 0, 0, 0, 0, 0, 0, 0, 0, 0, 0, 0, 1, 0, 1, 0, 0, 0, 0, 0, 0, 0, 0, 0, 0, 0, 0, 0, 0, 0, 0, 0, 0, 0, 0, 0, 0, 0, 0, 0, 0, 0, 0, 0, 0, 0, 0, 0, 0, 0, 0, 0, 0, 0, 0, 0, 0, 0, 0, 0, 0, 0, 0, 0, 0, 0, 0, 0, 0, 0, 0, 0, 0, 0, 0, 0, 0, 0, 0, 0, 0, 0, 0, 0, 0, 0, 0, 0, 0, 0, 0, 0, 0, 0, 0, 0, 0, 0, 0, 0, 0, 0, 0, 0, 0, 0, 0, 0, 0, 0, 0, 0, 0, 0, 0, 0, 0, 0]
def bsfL : List Int := [0, 0, 0, 0, 0, 0, 0, 0, 0, 0, 0, 0, 0, 0, 0, 0, 0, 0, 0, 0, 0, 0, 0, 0, 0, 0, 0, 0, 1, 0, 0, 0, 0, 0, 0, 0, 0, 0, 0, 0, 0, 0, 0, 0, 0, 0, 0, 0, 0, 0, 0, 0, 0, 0, 0, 0, 0, 0, 0, 0, 0, 0, 0, 0, 0, 0, 0, 0, 0, 0, 0, 0, 0, 0, 0, 0, 0, 0, 0, 0, 0, 0, 0, 0, 0, 0, 0, 0, 0, 0, 0, 0, 0, 0, 0, 0, 0, 0, 0, 0, 0, 0, 0, 0, 0, 0, 0, 0, 0, 0, 0, 0, 0, 0, 0, 0, 0, 0, 0, 0, 0, 0, 0, 0, 0, 0, 0, 0, 0, 0, 0, 0, 0, 0, 0, 0, 0, 0, 0, 0, 0, 0, 0, 0, 0, 0, 0, 0, 0, 0, 0, 0, 0, 0, 0, 0, 0, 0, 0, 0, 0, 0, 0, 0, 0, 0, 0, 0, 0, 0, 0, 0, 0, 0, 0, 0, 0, 0, 0, 0, 0, 0, 0, 0, 0, 0, 0, 0, 0, 0, 0, 0, 0, 0, 0, 0, 0, 0, 0, 0, 0, 0, 0, 0, 0, 0, 0, 0, 0, 0, 0, 0, 0, 0, 0, 0, 0, 0, 0, 0, 0, 0, 0, 0, 0, 0, 0, 0, 0, 0, 0, 0, 0, 0, 0, 0, 0, 0, 0, 0, 0, 0, 0, 0, 0, 0, 0, 0, 0, 0, 0, 0, 0, 0, 0, 0, 0, 0, 0, 0, 0]
/-- a step's number: what it is about fits its sign -/
def stepok (z : Int) : Prop := 0 ≤ z ∧ z ≤ 10239 ∧ z % 8 ≤ 6 ∧ (z % 8 = 0 → z / 8 ≤ 118) ∧ (z % 8 = 4 → z / 8 ≤ 6) ∧ (z % 8 = 5 → z / 8 ≤ 54 ∧ z / 8 % 8 ≤ 6) ∧ (z % 8 = 6 → z / 8 ≤ 1279)
def refok (z : Int) : Prop := 0 ≤ z ∧ z ≤ 300000 ∧ (z % 16 = 1 → z / 16 % 128 ≤ 6) ∧ (z % 16 = 2 → z / 16 % 128 ≤ 6 ∧ z / 2048 ≤ 6) ∧ (z % 16 = 13 → z / 16 % 128 ≤ 6)
/-- one of the owners of steps -/
def isC (a : Int) : Prop := a = 4 ∨ (679 ≤ a ∧ a ≤ 737 ∧ a % 2 = 1)
def Ex (k : Nat) (z : Int) : Prop := (k = 32 → stepok z) ∧ (k = 35 → isC z) ∧ (k = 232 → refok z) ∧ (k = 238 → refok z)
def exn (k : Nat) : Bool := !(Nat.beq k 32) && !(Nat.beq k 35) && !(Nat.beq k 232) && !(Nat.beq k 238)
theorem Ex.no {k : Nat} (h : exn k = true) (z : Int) : Ex k z := by
  unfold exn at h
  simp only [Bool.and_eq_true, Bool.not_eq_true'] at h
  refine ⟨fun e => ?_, fun e => ?_, fun e => ?_, fun e => ?_⟩ <;> subst e <;> exact absurd h (by decide)
def Bd (a i z : Int) : Prop := (bloL.getD (grp a i) 0 + bcoL.getD (grp a i) 0 * i + bsfL.getD (grp a i) 0 * a ≤ z ∧ z ≤ bhiL.getD (grp a i) 0 + bcoL.getD (grp a i) 0 * i + bsfL.getD (grp a i) 0 * a) ∧ Ex (grp a i) z
def Pw (M : Mm) : Prop := ∀ a i : Int, 0 ≤ a → a < 770 → 0 ≤ i → i < (ln a.toNat : Int) → Bd a i (M a i)
theorem Bd.ofx {a i z : Int} {k : Nat} {l u c s : Int} (hg : grp a i = k) (h1 : bloL.getD k 0 = l) (h2 : bhiL.getD k 0 = u) (h3 : bcoL.getD k 0 = c) (h4 : bsfL.getD k 0 = s) (hx : Ex k z) (hz : l + c * i + s * a ≤ z ∧ z ≤ u + c * i + s * a) : Bd a i z := by
  unfold Bd
  rw [hg, h1, h2, h3, h4]
  exact ⟨hz, hx⟩
theorem Bd.get {a i z : Int} {k : Nat} {l u c s : Int} (h : Bd a i z) (hg : grp a i = k) (h1 : bloL.getD k 0 = l) (h2 : bhiL.getD k 0 = u) (h3 : bcoL.getD k 0 = c) (h4 : bsfL.getD k 0 = s) : l + c * i + s * a ≤ z ∧ z ≤ u + c * i + s * a := by
  unfold Bd at h
  rw [hg, h1, h2, h3, h4] at h
  exact h.1
theorem Bd.ex {a i z : Int} {k : Nat} (h : Bd a i z) (hg : grp a i = k) : Ex k z := by
  unfold Bd at h
  rw [hg] at h
  exact h.2
theorem Bd.of0 {a i z : Int} {k : Nat} {l u : Int} (hg : grp a i = k) (h1 : bloL.getD k 0 = l) (h2 : bhiL.getD k 0 = u) (h3 : bcoL.getD k 0 = 0) (h4 : bsfL.getD k 0 = 0) (hx : exn k = true) (hz : l ≤ z ∧ z ≤ u) : Bd a i z := Bd.ofx hg h1 h2 h3 h4 (Ex.no hx z) (by omega)
theorem Bd.ofe {a i z : Int} {k : Nat} {l u : Int} (hg : grp a i = k) (h1 : bloL.getD k 0 = l) (h2 : bhiL.getD k 0 = u) (h3 : bcoL.getD k 0 = 0) (h4 : bsfL.getD k 0 = 0) (hx : Ex k z) (hz : l ≤ z ∧ z ≤ u) : Bd a i z := Bd.ofx hg h1 h2 h3 h4 hx (by omega)
theorem Bd.get0 {a i z : Int} {k : Nat} {l u : Int} (h : Bd a i z) (hg : grp a i = k) (h1 : bloL.getD k 0 = l) (h2 : bhiL.getD k 0 = u) (h3 : bcoL.getD k 0 = 0) (h4 : bsfL.getD k 0 = 0) : l ≤ z ∧ z ≤ u := by
  have := h.get hg h1 h2 h3 h4
  omega
theorem Pw.up {M : Mm} {a i z : Int} (h : Pw M) (hz : Bd a i z) : Pw (mUp M a i z) := by
  intro a' i' h1 h2 h3 h4
  by_cases e : a' = a ∧ i' = i
  · obtain ⟨rfl, rfl⟩ := e
    rw [mUp_eq]
    exact hz
  · rw [mUp_ne (by rcases Decidable.em (a' = a) with q | q; exact Or.inr (fun q2 => e ⟨q, q2⟩); exact Or.inl q)]
    exact h a' i' h1 h2 h3 h4
theorem Pw.fil {M : Mm} {a z : Int} (h : Pw M) (hz : ∀ i, Bd a i z) : Pw (fil M a z) := by
  intro a' i' h1 h2 h3 h4
  by_cases e : a' = a
  · subst e
    rw [fil_eq]
    exact hz i'
  · rw [fil_ne e]
    exact h a' i' h1 h2 h3 h4
theorem Pw.thr {M : Mm} {z : Int} (h : Pw M) : Pw (mUp M (-1) 0 z) := by
  intro a' i' h1 h2 h3 h4
  rw [mUp_ne (Or.inl (by omega))]
  exact h a' i' h1 h2 h3 h4
def Fr (m : Nat) (M M2 : Mm) : Prop := ∀ a i : Int, Nat.testBit m (grp a i) = false → M2 a i = M a i
theorem Fr.rf (m : Nat) (M : Mm) : Fr m M M := fun _ _ _ => rfl
theorem Fr.at {m k : Nat} {M M2 : Mm} {a i : Int} (h : Fr m M M2) (hg : grp a i = k) (hb : Nat.testBit m k = false) : M2 a i = M a i := h a i (by rw [hg]; exact hb)
theorem Fr.up {m k : Nat} {M0 M : Mm} {a i z : Int} (h : Fr m M0 M) (hg : grp a i = k) (hb : Nat.testBit m k = true) : Fr m M0 (mUp M a i z) := by
  intro a' i' hq
  rw [mUp_ne, h a' i' hq]
  by_cases e : a' = a
  · refine Or.inr (fun e2 => ?_)
    subst e
    subst e2
    rw [hg, hb] at hq
    cases hq
  · exact Or.inl e
theorem Fr.fil {m : Nat} {M0 M : Mm} {a z : Int} (h : Fr m M0 M) (hb : ∀ i, Nat.testBit m (grp a i) = true) : Fr m M0 (fil M a z) := by
  intro a' i' hq
  rw [fil_ne, h a' i' hq]
  intro e
  subst e
  rw [hb i'] at hq
  cases hq
theorem Fr.tr {m m2 : Nat} {M0 M M2 : Mm} (h : Fr m M0 M) (h2 : Fr m2 M M2) (hm : m2 ||| m = m) : Fr m M0 M2 := by
  intro a i hq
  rw [h2 a i, h a i hq]
  rw [← hm, Nat.testBit_or, Bool.or_eq_false_iff] at hq
  exact hq.1
theorem mUp_at {M M2 : Mm} {a i z : Int} (e : M2 = mUp M a i z) : M2 a i = z := by rw [e, mUp_eq]
theorem mUp_no {M M2 : Mm} {a i z a' i' v : Int} (e : M2 = mUp M a i z) (h : M a' i' = v) (hn : a' ≠ a ∨ i' ≠ i) : M2 a' i' = v := by rw [e, mUp_ne hn, h]
theorem fil_no {M M2 : Mm} {a z a' i' v : Int} (e : M2 = fil M a z) (h : M a' i' = v) (hn : a' ≠ a) : M2 a' i' = v := by rw [e, fil_ne hn, h]
theorem g_below : grp (-1) 0 = 0 := by decide
theorem Fr.thr {m : Nat} {M0 M : Mm} {z : Int} (h : Fr m M0 M) : Fr (m ||| 1) M0 (mUp M (-1) 0 z) := by
  have h1 : Fr (m ||| 1) M0 M := fun a i hq => h a i (by rw [Nat.testBit_or, Bool.or_eq_false_iff] at hq; exact hq.1)
  exact h1.up g_below (by rw [Nat.testBit_or]; simp)
theorem Fr.trx {m m2 : Nat} {M0 M M2 : Mm} (h : Fr m M0 M) (h2 : Fr (m2 ||| 1) M M2) (hm : m2 ||| m = m) : Fr (m ||| 1) M0 M2 := by
  intro a i hq
  rw [Nat.testBit_or, Bool.or_eq_false_iff] at hq
  rw [h2 a i, h a i hq.1]
  rw [← hm, Nat.testBit_or, Bool.or_eq_false_iff] at hq
  rw [Nat.testBit_or, Bool.or_eq_false_iff]
  exact ⟨hq.1.1, hq.2⟩
theorem g_0_0 : grp 0 0 = 1 := by decide +kernel
theorem g_0_1 : grp 0 1 = 2 := by decide +kernel
theorem g_0_2 : grp 0 2 = 3 := by decide +kernel
theorem g_0_3 : grp 0 3 = 4 := by decide +kernel
theorem g_0_4 : grp 0 4 = 5 := by decide +kernel
theorem g_0_5 : grp 0 5 = 6 := by decide +kernel
theorem g_0_6 : grp 0 6 = 7 := by decide +kernel
theorem g_0_7 : grp 0 7 = 8 := by decide +kernel
theorem g_0_8 : grp 0 8 = 9 := by decide +kernel
theorem g_0_9 : grp 0 9 = 10 := by decide +kernel
theorem g_0_10 : grp 0 10 = 11 := by decide +kernel
theorem g_0_11 : grp 0 11 = 12 := by decide +kernel
theorem g_0_12 : grp 0 12 = 13 := by decide +kernel
theorem g_0_13 : grp 0 13 = 14 := by decide +kernel
theorem g_0_14 : grp 0 14 = 15 := by decide +kernel
theorem g_0_15 : grp 0 15 = 16 := by decide +kernel
theorem g_0_16 : grp 0 16 = 17 := by decide +kernel
theorem g_0_17 : grp 0 17 = 18 := by decide +kernel
theorem gr_1 {a : Int} (h0 : 1 ≤ a) (h1 : a ≤ 1) (i : Int) : grp a i = 19 := by
  unfold grp
  rw [if_neg (by omega), if_pos (by omega), if_pos (by omega), if_pos (by omega), if_pos (by omega), if_pos (by omega), if_neg (by omega)]
theorem g_2_0 : grp 2 0 = 20 := by decide +kernel
theorem g_2_1 : grp 2 1 = 21 := by decide +kernel
theorem g_2_2 : grp 2 2 = 22 := by decide +kernel
theorem g_2_3 : grp 2 3 = 23 := by decide +kernel
theorem g_2_4 : grp 2 4 = 24 := by decide +kernel
theorem g_2_5 : grp 2 5 = 25 := by decide +kernel
theorem g_2_6 : grp 2 6 = 26 := by decide +kernel
theorem gr_3 {a : Int} (h0 : 3 ≤ a) (h1 : a ≤ 3) (i : Int) : grp a i = 27 := by
  unfold grp
  rw [if_neg (by omega), if_pos (by omega), if_pos (by omega), if_pos (by omega), if_pos (by omega), if_neg (by omega), if_neg (by omega), if_pos (by omega)]
theorem gr_4 {a : Int} (h0 : 4 ≤ a) (h1 : a ≤ 4) (i : Int) : grp a i = 28 + i.toNat := by
  unfold grp
  rw [if_neg (by omega), if_pos (by omega), if_pos (by omega), if_pos (by omega), if_pos (by omega), if_neg (by omega), if_neg (by omega), if_neg (by omega)]
theorem gr_5 {a : Int} (h0 : 5 ≤ a) (h1 : a ≤ 5) (i : Int) : grp a i = 32 := by
  unfold grp
  rw [if_neg (by omega), if_pos (by omega), if_pos (by omega), if_pos (by omega), if_neg (by omega), if_pos (by omega), if_pos (by omega)]
theorem g_6_0 : grp 6 0 = 33 := by decide +kernel
theorem g_6_1 : grp 6 1 = 34 := by decide +kernel
theorem g_6_2 : grp 6 2 = 35 := by decide +kernel
theorem g_6_3 : grp 6 3 = 36 := by decide +kernel
theorem g_6_4 : grp 6 4 = 37 := by decide +kernel
theorem g_6_5 : grp 6 5 = 38 := by decide +kernel
theorem g_7_0 : grp 7 0 = 39 := by decide +kernel
theorem g_7_1 : grp 7 1 = 40 := by decide +kernel
theorem g_7_2 : grp 7 2 = 41 := by decide +kernel
theorem g_7_3 : grp 7 3 = 42 := by decide +kernel
theorem g_7_4 : grp 7 4 = 43 := by decide +kernel
theorem g_7_5 : grp 7 5 = 44 := by decide +kernel
theorem g_7_6 : grp 7 6 = 45 := by decide +kernel
theorem gr_8 {a : Int} (h0 : 8 ≤ a) (h1 : a ≤ 8) (i : Int) : grp a i = 46 := by
  unfold grp
  rw [if_neg (by omega), if_pos (by omega), if_pos (by omega), if_pos (by omega), if_neg (by omega), if_neg (by omega), if_pos (by omega)]
theorem g_9_0 : grp 9 0 = 47 := by decide +kernel
theorem g_9_1 : grp 9 1 = 48 := by decide +kernel
theorem g_9_2 : grp 9 2 = 49 := by decide +kernel
theorem g_9_3 : grp 9 3 = 50 := by decide +kernel
theorem g_9_4 : grp 9 4 = 51 := by decide +kernel
theorem g_10_0 : grp 10 0 = 52 := by decide +kernel
theorem g_10_1 : grp 10 1 = 53 := by decide +kernel
theorem g_10_2 : grp 10 2 = 54 := by decide +kernel
theorem g_10_3 : grp 10 3 = 55 := by decide +kernel
theorem g_10_4 : grp 10 4 = 56 := by decide +kernel
theorem g_10_5 : grp 10 5 = 57 := by decide +kernel
theorem g_10_6 : grp 10 6 = 58 := by decide +kernel
theorem g_10_7 : grp 10 7 = 59 := by decide +kernel
theorem g_10_8 : grp 10 8 = 60 := by decide +kernel
theorem g_10_9 : grp 10 9 = 61 := by decide +kernel
theorem g_10_10 : grp 10 10 = 62 := by decide +kernel
theorem gr_11 {a : Int} (h0 : 11 ≤ a) (h1 : a ≤ 11) (i : Int) : grp a i = 63 := by
  unfold grp
  rw [if_neg (by omega), if_pos (by omega), if_pos (by omega), if_neg (by omega), if_pos (by omega), if_pos (by omega), if_pos (by omega)]
theorem gr_12 {a : Int} (h0 : 12 ≤ a) (h1 : a ≤ 12) (i : Int) : grp a i = 64 := by
  unfold grp
  rw [if_neg (by omega), if_pos (by omega), if_pos (by omega), if_neg (by omega), if_pos (by omega), if_pos (by omega), if_neg (by omega), if_pos (by omega)]
theorem gr_13 {a : Int} (h0 : 13 ≤ a) (h1 : a ≤ 13) (i : Int) : grp a i = 65 := by
  unfold grp
  rw [if_neg (by omega), if_pos (by omega), if_pos (by omega), if_neg (by omega), if_pos (by omega), if_pos (by omega), if_neg (by omega), if_neg (by omega)]
theorem g_14_0 : grp 14 0 = 66 := by decide +kernel
theorem g_14_1 : grp 14 1 = 67 := by decide +kernel
theorem g_14_2 : grp 14 2 = 68 := by decide +kernel
theorem g_14_3 : grp 14 3 = 69 := by decide +kernel
theorem gr_15 {a : Int} (h0 : 15 ≤ a) (h1 : a ≤ 15) (i : Int) : grp a i = 70 := by
  unfold grp
  rw [if_neg (by omega), if_pos (by omega), if_pos (by omega), if_neg (by omega), if_pos (by omega), if_neg (by omega), if_neg (by omega), if_pos (by omega)]
theorem gr_16 {a : Int} (h0 : 16 ≤ a) (h1 : a ≤ 16) (i : Int) : grp a i = 71 := by
  unfold grp
  rw [if_neg (by omega), if_pos (by omega), if_pos (by omega), if_neg (by omega), if_pos (by omega), if_neg (by omega), if_neg (by omega), if_neg (by omega)]
theorem gr_17 {a : Int} (h0 : 17 ≤ a) (h1 : a ≤ 135) (i : Int) : grp a i = 72 := by
  unfold grp
  rw [if_neg (by omega), if_pos (by omega), if_pos (by omega), if_neg (by omega), if_neg (by omega), if_pos (by omega), if_pos (by omega)]
theorem gr_136 {a : Int} (h0 : 136 ≤ a) (h1 : a ≤ 136) (i : Int) : grp a i = 73 := by
  unfold grp
  rw [if_neg (by omega), if_pos (by omega), if_pos (by omega), if_neg (by omega), if_neg (by omega), if_pos (by omega), if_neg (by omega), if_pos (by omega)]
theorem gr_137 {a : Int} (h0 : 137 ≤ a) (h1 : a ≤ 137) (i : Int) : grp a i = 74 := by
  unfold grp
  rw [if_neg (by omega), if_pos (by omega), if_pos (by omega), if_neg (by omega), if_neg (by omega), if_pos (by omega), if_neg (by omega), if_neg (by omega)]
theorem g_138_0 : grp 138 0 = 75 := by decide +kernel
theorem g_138_1 : grp 138 1 = 76 := by decide +kernel
theorem g_138_2 : grp 138 2 = 77 := by decide +kernel
theorem g_138_3 : grp 138 3 = 78 := by decide +kernel
theorem g_138_4 : grp 138 4 = 79 := by decide +kernel
theorem g_138_5 : grp 138 5 = 80 := by decide +kernel
theorem gr_139 {a : Int} (h0 : 139 ≤ a) (h1 : a ≤ 139) (i : Int) : grp a i = 81 := by
  unfold grp
  rw [if_neg (by omega), if_pos (by omega), if_pos (by omega), if_neg (by omega), if_neg (by omega), if_neg (by omega), if_neg (by omega), if_pos (by omega)]
theorem gr_140 {a : Int} (h0 : 140 ≤ a) (h1 : a ≤ 140) (i : Int) : grp a i = 82 := by
  unfold grp
  rw [if_neg (by omega), if_pos (by omega), if_pos (by omega), if_neg (by omega), if_neg (by omega), if_neg (by omega), if_neg (by omega), if_neg (by omega)]
theorem gr_141 {a : Int} (h0 : 141 ≤ a) (h1 : a ≤ 141) (i : Int) : grp a i = 83 := by
  unfold grp
  rw [if_neg (by omega), if_pos (by omega), if_neg (by omega), if_pos (by omega), if_pos (by omega), if_pos (by omega), if_pos (by omega)]
theorem gr_142 {a : Int} (h0 : 142 ≤ a) (h1 : a ≤ 153) (i : Int) : grp a i = 84 := by
  unfold grp
  rw [if_neg (by omega), if_pos (by omega), if_neg (by omega), if_pos (by omega), if_pos (by omega), if_pos (by omega), if_neg (by omega)]
theorem gr_154 {a : Int} (h0 : 154 ≤ a) (h1 : a ≤ 154) (i : Int) : grp a i = 85 := by
  unfold grp
  rw [if_neg (by omega), if_pos (by omega), if_neg (by omega), if_pos (by omega), if_pos (by omega), if_neg (by omega), if_pos (by omega)]
theorem gr_155 {a : Int} (h0 : 155 ≤ a) (h1 : a ≤ 167) (i : Int) : grp a i = 86 := by
  unfold grp
  rw [if_neg (by omega), if_pos (by omega), if_neg (by omega), if_pos (by omega), if_pos (by omega), if_neg (by omega), if_neg (by omega), if_pos (by omega)]
theorem gr_168 {a : Int} (h0 : 168 ≤ a) (h1 : a ≤ 168) (i : Int) : grp a i = 87 := by
  unfold grp
  rw [if_neg (by omega), if_pos (by omega), if_neg (by omega), if_pos (by omega), if_pos (by omega), if_neg (by omega), if_neg (by omega), if_neg (by omega)]
theorem gr_169 {a : Int} (h0 : 169 ≤ a) (h1 : a ≤ 169) (i : Int) : grp a i = 88 := by
  unfold grp
  rw [if_neg (by omega), if_pos (by omega), if_neg (by omega), if_pos (by omega), if_neg (by omega), if_pos (by omega), if_pos (by omega)]
theorem g_170_0 : grp 170 0 = 89 := by decide +kernel
theorem g_170_1 : grp 170 1 = 90 := by decide +kernel
theorem g_170_2 : grp 170 2 = 91 := by decide +kernel
theorem g_170_3 : grp 170 3 = 92 := by decide +kernel
theorem g_170_4 : grp 170 4 = 93 := by decide +kernel
theorem gr_171 {a : Int} (h0 : 171 ≤ a) (h1 : a ≤ 171) (i : Int) : grp a i = 94 := by
  unfold grp
  rw [if_neg (by omega), if_pos (by omega), if_neg (by omega), if_pos (by omega), if_neg (by omega), if_pos (by omega), if_neg (by omega), if_neg (by omega)]
theorem gr_172 {a : Int} (h0 : 172 ≤ a) (h1 : a ≤ 172) (i : Int) : grp a i = 95 := by
  unfold grp
  rw [if_neg (by omega), if_pos (by omega), if_neg (by omega), if_pos (by omega), if_neg (by omega), if_neg (by omega), if_pos (by omega)]
theorem gr_173 {a : Int} (h0 : 173 ≤ a) (h1 : a ≤ 173) (i : Int) : grp a i = 96 := by
  unfold grp
  rw [if_neg (by omega), if_pos (by omega), if_neg (by omega), if_pos (by omega), if_neg (by omega), if_neg (by omega), if_neg (by omega), if_pos (by omega)]
theorem g_174_0 : grp 174 0 = 97 := by decide +kernel
theorem g_174_1 : grp 174 1 = 98 := by decide +kernel
theorem g_174_2 : grp 174 2 = 99 := by decide +kernel
theorem g_174_3 : grp 174 3 = 100 := by decide +kernel
theorem g_174_4 : grp 174 4 = 101 := by decide +kernel
theorem g_174_5 : grp 174 5 = 102 := by decide +kernel
theorem gr_175 {a : Int} (h0 : 175 ≤ a) (h1 : a ≤ 175) (i : Int) : grp a i = 103 := by
  unfold grp
  rw [if_neg (by omega), if_pos (by omega), if_neg (by omega), if_neg (by omega), if_pos (by omega), if_pos (by omega), if_pos (by omega)]
theorem g_176_0 : grp 176 0 = 104 := by decide +kernel
theorem g_176_1 : grp 176 1 = 105 := by decide +kernel
theorem g_176_2 : grp 176 2 = 106 := by decide +kernel
theorem g_176_3 : grp 176 3 = 107 := by decide +kernel
theorem g_176_4 : grp 176 4 = 108 := by decide +kernel
theorem g_176_5 : grp 176 5 = 109 := by decide +kernel
theorem g_176_7 : grp 176 7 = 111 := by decide +kernel
theorem g_176_8 : grp 176 8 = 112 := by decide +kernel
theorem g_176_9 : grp 176 9 = 113 := by decide +kernel
theorem g_176_10 : grp 176 10 = 114 := by decide +kernel
theorem gr_177 {a : Int} (h0 : 177 ≤ a) (h1 : a ≤ 177) (i : Int) : grp a i = 115 := by
  unfold grp
  rw [if_neg (by omega), if_pos (by omega), if_neg (by omega), if_neg (by omega), if_pos (by omega), if_pos (by omega), if_neg (by omega), if_neg (by omega)]
theorem gr_178 {a : Int} (h0 : 178 ≤ a) (h1 : a ≤ 178) (i : Int) : grp a i = 116 := by
  unfold grp
  rw [if_neg (by omega), if_pos (by omega), if_neg (by omega), if_neg (by omega), if_pos (by omega), if_neg (by omega), if_pos (by omega)]
theorem gr_179 {a : Int} (h0 : 179 ≤ a) (h1 : a ≤ 179) (i : Int) : grp a i = 117 := by
  unfold grp
  rw [if_neg (by omega), if_pos (by omega), if_neg (by omega), if_neg (by omega), if_pos (by omega), if_neg (by omega), if_neg (by omega), if_pos (by omega)]
theorem gr_181 {a : Int} (h0 : 181 ≤ a) (h1 : a ≤ 181) (i : Int) : grp a i = 122 := by
  unfold grp
  rw [if_neg (by omega), if_pos (by omega), if_neg (by omega), if_neg (by omega), if_neg (by omega), if_pos (by omega), if_pos (by omega)]
theorem gr_182 {a : Int} (h0 : 182 ≤ a) (h1 : a ≤ 182) (i : Int) : grp a i = 123 := by
  unfold grp
  rw [if_neg (by omega), if_pos (by omega), if_neg (by omega), if_neg (by omega), if_neg (by omega), if_pos (by omega), if_neg (by omega), if_pos (by omega)]
theorem gr_183 {a : Int} (h0 : 183 ≤ a) (h1 : a ≤ 300) (i : Int) : grp a i = 124 := by
  unfold grp
  rw [if_neg (by omega), if_pos (by omega), if_neg (by omega), if_neg (by omega), if_neg (by omega), if_pos (by omega), if_neg (by omega), if_neg (by omega)]
theorem gr_301 {a : Int} (h0 : 301 ≤ a) (h1 : a ≤ 301) (i : Int) : grp a i = if i = 4 then 126 else 125 := by
  unfold grp
  rw [if_neg (by omega), if_pos (by omega), if_neg (by omega), if_neg (by omega), if_neg (by omega), if_neg (by omega), if_pos (by omega)]
theorem gr_302 {a : Int} (h0 : 302 ≤ a) (h1 : a ≤ 302) (i : Int) : grp a i = 127 := by
  unfold grp
  rw [if_neg (by omega), if_pos (by omega), if_neg (by omega), if_neg (by omega), if_neg (by omega), if_neg (by omega), if_neg (by omega), if_pos (by omega)]
theorem gr_303 {a : Int} (h0 : 303 ≤ a) (h1 : a ≤ 303) (i : Int) : grp a i = 128 := by
  unfold grp
  rw [if_neg (by omega), if_pos (by omega), if_neg (by omega), if_neg (by omega), if_neg (by omega), if_neg (by omega), if_neg (by omega), if_neg (by omega)]
theorem gr_304 {a : Int} (h0 : 304 ≤ a) (h1 : a ≤ 304) (i : Int) : grp a i = 129 := by
  unfold grp
  rw [if_neg (by omega), if_neg (by omega), if_pos (by omega), if_pos (by omega), if_pos (by omega), if_pos (by omega), if_pos (by omega)]
theorem gr_305 {a : Int} (h0 : 305 ≤ a) (h1 : a ≤ 305) (i : Int) : grp a i = 130 := by
  unfold grp
  rw [if_neg (by omega), if_neg (by omega), if_pos (by omega), if_pos (by omega), if_pos (by omega), if_pos (by omega), if_neg (by omega)]
theorem gr_306 {a : Int} (h0 : 306 ≤ a) (h1 : a ≤ 605) (i : Int) : grp a i = 131 := by
  unfold grp
  rw [if_neg (by omega), if_neg (by omega), if_pos (by omega), if_pos (by omega), if_pos (by omega), if_neg (by omega), if_pos (by omega)]
theorem gr_606 {a : Int} (h0 : 606 ≤ a) (h1 : a ≤ 606) (i : Int) : grp a i = if i = 4 then 133 else 132 := by
  unfold grp
  rw [if_neg (by omega), if_neg (by omega), if_pos (by omega), if_pos (by omega), if_pos (by omega), if_neg (by omega), if_neg (by omega), if_pos (by omega)]
theorem g_607_0 : grp 607 0 = 134 := by decide +kernel
theorem g_607_1 : grp 607 1 = 135 := by decide +kernel
theorem g_607_2 : grp 607 2 = 136 := by decide +kernel
theorem g_607_3 : grp 607 3 = 137 := by decide +kernel
theorem g_607_4 : grp 607 4 = 138 := by decide +kernel
theorem g_607_5 : grp 607 5 = 139 := by decide +kernel
theorem g_607_6 : grp 607 6 = 140 := by decide +kernel
theorem gr_608 {a : Int} (h0 : 608 ≤ a) (h1 : a ≤ 608) (i : Int) : grp a i = 141 := by
  unfold grp
  rw [if_neg (by omega), if_neg (by omega), if_pos (by omega), if_pos (by omega), if_neg (by omega), if_pos (by omega), if_pos (by omega)]
theorem gr_609 {a : Int} (h0 : 609 ≤ a) (h1 : a ≤ 612) (i : Int) : grp a i = if i = 4 then 143 else 142 := by
  unfold grp
  rw [if_neg (by omega), if_neg (by omega), if_pos (by omega), if_pos (by omega), if_neg (by omega), if_pos (by omega), if_neg (by omega), if_pos (by omega)]
theorem g_613_0 : grp 613 0 = 144 := by decide +kernel
theorem g_613_1 : grp 613 1 = 145 := by decide +kernel
theorem g_613_2 : grp 613 2 = 146 := by decide +kernel
theorem g_613_3 : grp 613 3 = 147 := by decide +kernel
theorem g_613_4 : grp 613 4 = 148 := by decide +kernel
theorem g_613_5 : grp 613 5 = 149 := by decide +kernel
theorem g_613_6 : grp 613 6 = 150 := by decide +kernel
theorem g_613_7 : grp 613 7 = 151 := by decide +kernel
theorem g_613_8 : grp 613 8 = 152 := by decide +kernel
theorem g_613_9 : grp 613 9 = 153 := by decide +kernel
theorem gr_614 {a : Int} (h0 : 614 ≤ a) (h1 : a ≤ 614) (i : Int) : grp a i = 154 := by
  unfold grp
  rw [if_neg (by omega), if_neg (by omega), if_pos (by omega), if_pos (by omega), if_neg (by omega), if_neg (by omega), if_pos (by omega)]
theorem gr_615 {a : Int} (h0 : 615 ≤ a) (h1 : a ≤ 615) (i : Int) : grp a i = 155 := by
  unfold grp
  rw [if_neg (by omega), if_neg (by omega), if_pos (by omega), if_pos (by omega), if_neg (by omega), if_neg (by omega), if_neg (by omega), if_pos (by omega)]
theorem gr_616 {a : Int} (h0 : 616 ≤ a) (h1 : a ≤ 645) (i : Int) : grp a i = 156 := by
  unfold grp
  rw [if_neg (by omega), if_neg (by omega), if_pos (by omega), if_pos (by omega), if_neg (by omega), if_neg (by omega), if_neg (by omega), if_neg (by omega)]
theorem gr_646 {a : Int} (h0 : 646 ≤ a) (h1 : a ≤ 646) (i : Int) : grp a i = 157 := by
  unfold grp
  rw [if_neg (by omega), if_neg (by omega), if_pos (by omega), if_neg (by omega), if_pos (by omega), if_pos (by omega), if_pos (by omega)]
theorem gr_647 {a : Int} (h0 : 647 ≤ a) (h1 : a ≤ 676) (i : Int) : grp a i = 158 := by
  unfold grp
  rw [if_neg (by omega), if_neg (by omega), if_pos (by omega), if_neg (by omega), if_pos (by omega), if_pos (by omega), if_neg (by omega), if_pos (by omega)]
theorem gr_677 {a : Int} (h0 : 677 ≤ a) (h1 : a ≤ 677) (i : Int) : grp a i = if i = 4 then 160 else 159 := by
  unfold grp
  rw [if_neg (by omega), if_neg (by omega), if_pos (by omega), if_neg (by omega), if_pos (by omega), if_pos (by omega), if_neg (by omega), if_neg (by omega)]
theorem gr_678 {a : Int} (h0 : 678 ≤ a) (h1 : a ≤ 678) (i : Int) : grp a i = if i = 4 then 162 else 161 := by
  unfold grp
  rw [if_neg (by omega), if_neg (by omega), if_pos (by omega), if_neg (by omega), if_pos (by omega), if_neg (by omega), if_pos (by omega)]
theorem gr_679 {a : Int} (h0 : 679 ≤ a) (h1 : a ≤ 738) (i : Int) : grp a i = if a % 2 = 1 then 28 + i.toNat else 32 := by
  unfold grp
  rw [if_neg (by omega), if_neg (by omega), if_pos (by omega), if_neg (by omega), if_pos (by omega), if_neg (by omega), if_neg (by omega), if_pos (by omega)]
theorem g_739_0 : grp 739 0 = 163 := by decide +kernel
theorem g_739_1 : grp 739 1 = 164 := by decide +kernel
theorem g_739_2 : grp 739 2 = 165 := by decide +kernel
theorem g_739_3 : grp 739 3 = 166 := by decide +kernel
theorem g_739_4 : grp 739 4 = 167 := by decide +kernel
theorem g_739_5 : grp 739 5 = 168 := by decide +kernel
theorem g_739_6 : grp 739 6 = 169 := by decide +kernel
theorem g_739_7 : grp 739 7 = 170 := by decide +kernel
theorem g_739_8 : grp 739 8 = 171 := by decide +kernel
theorem g_739_9 : grp 739 9 = 172 := by decide +kernel
theorem g_739_10 : grp 739 10 = 173 := by decide +kernel
theorem g_739_11 : grp 739 11 = 174 := by decide +kernel
theorem g_739_12 : grp 739 12 = 175 := by decide +kernel
theorem g_739_13 : grp 739 13 = 176 := by decide +kernel
theorem g_739_14 : grp 739 14 = 177 := by decide +kernel
theorem g_739_15 : grp 739 15 = 178 := by decide +kernel
theorem g_739_16 : grp 739 16 = 179 := by decide +kernel
theorem g_739_17 : grp 739 17 = 180 := by decide +kernel
theorem g_739_18 : grp 739 18 = 181 := by decide +kernel
theorem g_739_19 : grp 739 19 = 182 := by decide +kernel
theorem g_739_20 : grp 739 20 = 183 := by decide +kernel
theorem g_739_21 : grp 739 21 = 184 := by decide +kernel
theorem g_739_22 : grp 739 22 = 185 := by decide +kernel
theorem g_739_23 : grp 739 23 = 186 := by decide +kernel
theorem g_739_24 : grp 739 24 = 187 := by decide +kernel
theorem g_739_25 : grp 739 25 = 188 := by decide +kernel
theorem g_739_26 : grp 739 26 = 189 := by decide +kernel
theorem g_739_27 : grp 739 27 = 190 := by decide +kernel
theorem g_739_28 : grp 739 28 = 191 := by decide +kernel
theorem g_739_29 : grp 739 29 = 192 := by decide +kernel
theorem g_739_30 : grp 739 30 = 193 := by decide +kernel
theorem g_739_31 : grp 739 31 = 194 := by decide +kernel
theorem g_739_32 : grp 739 32 = 195 := by decide +kernel
theorem g_739_33 : grp 739 33 = 196 := by decide +kernel
theorem g_739_34 : grp 739 34 = 197 := by decide +kernel
theorem g_739_35 : grp 739 35 = 198 := by decide +kernel
theorem g_739_36 : grp 739 36 = 199 := by decide +kernel
theorem g_739_37 : grp 739 37 = 200 := by decide +kernel
theorem g_739_38 : grp 739 38 = 201 := by decide +kernel
theorem g_739_39 : grp 739 39 = 202 := by decide +kernel
theorem g_739_40 : grp 739 40 = 203 := by decide +kernel
theorem g_739_41 : grp 739 41 = 204 := by decide +kernel
theorem g_739_42 : grp 739 42 = 205 := by decide +kernel
theorem g_739_43 : grp 739 43 = 206 := by decide +kernel
theorem g_739_44 : grp 739 44 = 207 := by decide +kernel
theorem g_739_45 : grp 739 45 = 208 := by decide +kernel
theorem g_739_46 : grp 739 46 = 209 := by decide +kernel
theorem g_739_47 : grp 739 47 = 210 := by decide +kernel
theorem g_739_48 : grp 739 48 = 211 := by decide +kernel
theorem g_739_49 : grp 739 49 = 212 := by decide +kernel
theorem g_739_50 : grp 739 50 = 213 := by decide +kernel
theorem g_739_51 : grp 739 51 = 214 := by decide +kernel
theorem g_739_52 : grp 739 52 = 215 := by decide +kernel
theorem g_739_53 : grp 739 53 = 216 := by decide +kernel
theorem g_739_54 : grp 739 54 = 217 := by decide +kernel
theorem g_739_55 : grp 739 55 = 218 := by decide +kernel
theorem g_739_56 : grp 739 56 = 219 := by decide +kernel
theorem g_739_57 : grp 739 57 = 220 := by decide +kernel
theorem g_739_58 : grp 739 58 = 221 := by decide +kernel
theorem g_739_59 : grp 739 59 = 222 := by decide +kernel
theorem g_739_60 : grp 739 60 = 223 := by decide +kernel
theorem g_739_61 : grp 739 61 = 224 := by decide +kernel
theorem g_739_62 : grp 739 62 = 225 := by decide +kernel
theorem g_739_63 : grp 739 63 = 226 := by decide +kernel
theorem g_739_64 : grp 739 64 = 227 := by decide +kernel
theorem g_739_65 : grp 739 65 = 228 := by decide +kernel
theorem g_739_66 : grp 739 66 = 229 := by decide +kernel
theorem g_739_67 : grp 739 67 = 230 := by decide +kernel
theorem gr_740 {a : Int} (h0 : 740 ≤ a) (h1 : a ≤ 740) (i : Int) : grp a i = 231 := by
  unfold grp
  rw [if_neg (by omega), if_neg (by omega), if_pos (by omega), if_neg (by omega), if_neg (by omega), if_pos (by omega), if_pos (by omega)]
theorem gr_741 {a : Int} (h0 : 741 ≤ a) (h1 : a ≤ 741) (i : Int) : grp a i = 232 := by
  unfold grp
  rw [if_neg (by omega), if_neg (by omega), if_pos (by omega), if_neg (by omega), if_neg (by omega), if_pos (by omega), if_neg (by omega), if_pos (by omega)]
theorem gr_742 {a : Int} (h0 : 742 ≤ a) (h1 : a ≤ 742) (i : Int) : grp a i = 233 := by
  unfold grp
  rw [if_neg (by omega), if_neg (by omega), if_pos (by omega), if_neg (by omega), if_neg (by omega), if_pos (by omega), if_neg (by omega), if_neg (by omega)]
theorem gr_743 {a : Int} (h0 : 743 ≤ a) (h1 : a ≤ 743) (i : Int) : grp a i = 234 := by
  unfold grp
  rw [if_neg (by omega), if_neg (by omega), if_pos (by omega), if_neg (by omega), if_neg (by omega), if_neg (by omega), if_pos (by omega)]
theorem gr_744 {a : Int} (h0 : 744 ≤ a) (h1 : a ≤ 744) (i : Int) : grp a i = 235 := by
  unfold grp
  rw [if_neg (by omega), if_neg (by omega), if_pos (by omega), if_neg (by omega), if_neg (by omega), if_neg (by omega), if_neg (by omega), if_pos (by omega)]
theorem gr_745 {a : Int} (h0 : 745 ≤ a) (h1 : a ≤ 745) (i : Int) : grp a i = 236 := by
  unfold grp
  rw [if_neg (by omega), if_neg (by omega), if_pos (by omega), if_neg (by omega), if_neg (by omega), if_neg (by omega), if_neg (by omega), if_neg (by omega)]
theorem gr_746 {a : Int} (h0 : 746 ≤ a) (h1 : a ≤ 746) (i : Int) : grp a i = 237 := by
  unfold grp
  rw [if_neg (by omega), if_neg (by omega), if_neg (by omega), if_pos (by omega), if_pos (by omega), if_pos (by omega), if_pos (by omega)]
theorem gr_747 {a : Int} (h0 : 747 ≤ a) (h1 : a ≤ 747) (i : Int) : grp a i = 238 := by
  unfold grp
  rw [if_neg (by omega), if_neg (by omega), if_neg (by omega), if_pos (by omega), if_pos (by omega), if_pos (by omega), if_neg (by omega), if_pos (by omega)]
theorem gr_748 {a : Int} (h0 : 748 ≤ a) (h1 : a ≤ 748) (i : Int) : grp a i = 239 := by
  unfold grp
  rw [if_neg (by omega), if_neg (by omega), if_neg (by omega), if_pos (by omega), if_pos (by omega), if_pos (by omega), if_neg (by omega), if_neg (by omega)]
theorem gr_749 {a : Int} (h0 : 749 ≤ a) (h1 : a ≤ 749) (i : Int) : grp a i = 240 := by
  unfold grp
  rw [if_neg (by omega), if_neg (by omega), if_neg (by omega), if_pos (by omega), if_pos (by omega), if_neg (by omega), if_pos (by omega)]
theorem gr_750 {a : Int} (h0 : 750 ≤ a) (h1 : a ≤ 750) (i : Int) : grp a i = 241 := by
  unfold grp
  rw [if_neg (by omega), if_neg (by omega), if_neg (by omega), if_pos (by omega), if_pos (by omega), if_neg (by omega), if_neg (by omega), if_pos (by omega)]
theorem gr_751 {a : Int} (h0 : 751 ≤ a) (h1 : a ≤ 751) (i : Int) : grp a i = 242 := by
  unfold grp
  rw [if_neg (by omega), if_neg (by omega), if_neg (by omega), if_pos (by omega), if_pos (by omega), if_neg (by omega), if_neg (by omega), if_neg (by omega)]
theorem gr_752 {a : Int} (h0 : 752 ≤ a) (h1 : a ≤ 752) (i : Int) : grp a i = 243 := by
  unfold grp
  rw [if_neg (by omega), if_neg (by omega), if_neg (by omega), if_pos (by omega), if_neg (by omega), if_pos (by omega), if_pos (by omega)]
theorem gr_753 {a : Int} (h0 : 753 ≤ a) (h1 : a ≤ 753) (i : Int) : grp a i = 244 := by
  unfold grp
  rw [if_neg (by omega), if_neg (by omega), if_neg (by omega), if_pos (by omega), if_neg (by omega), if_pos (by omega), if_neg (by omega), if_pos (by omega)]
theorem gr_754 {a : Int} (h0 : 754 ≤ a) (h1 : a ≤ 754) (i : Int) : grp a i = 245 := by
  unfold grp
  rw [if_neg (by omega), if_neg (by omega), if_neg (by omega), if_pos (by omega), if_neg (by omega), if_pos (by omega), if_neg (by omega), if_neg (by omega)]
theorem gr_755 {a : Int} (h0 : 755 ≤ a) (h1 : a ≤ 755) (i : Int) : grp a i = 246 := by
  unfold grp
  rw [if_neg (by omega), if_neg (by omega), if_neg (by omega), if_pos (by omega), if_neg (by omega), if_neg (by omega), if_pos (by omega)]
theorem gr_756 {a : Int} (h0 : 756 ≤ a) (h1 : a ≤ 756) (i : Int) : grp a i = 247 := by
  unfold grp
  rw [if_neg (by omega), if_neg (by omega), if_neg (by omega), if_pos (by omega), if_neg (by omega), if_neg (by omega), if_neg (by omega), if_pos (by omega)]
theorem gr_757 {a : Int} (h0 : 757 ≤ a) (h1 : a ≤ 757) (i : Int) : grp a i = 248 := by
  unfold grp
  rw [if_neg (by omega), if_neg (by omega), if_neg (by omega), if_pos (by omega), if_neg (by omega), if_neg (by omega), if_neg (by omega), if_neg (by omega)]
theorem gr_758 {a : Int} (h0 : 758 ≤ a) (h1 : a ≤ 758) (i : Int) : grp a i = 249 := by
  unfold grp
  rw [if_neg (by omega), if_neg (by omega), if_neg (by omega), if_neg (by omega), if_pos (by omega), if_pos (by omega), if_pos (by omega)]
theorem gr_759 {a : Int} (h0 : 759 ≤ a) (h1 : a ≤ 759) (i : Int) : grp a i = 250 := by
  unfold grp
  rw [if_neg (by omega), if_neg (by omega), if_neg (by omega), if_neg (by omega), if_pos (by omega), if_pos (by omega), if_neg (by omega), if_pos (by omega)]
theorem gr_760 {a : Int} (h0 : 760 ≤ a) (h1 : a ≤ 760) (i : Int) : grp a i = 251 := by
  unfold grp
  rw [if_neg (by omega), if_neg (by omega), if_neg (by omega), if_neg (by omega), if_pos (by omega), if_pos (by omega), if_neg (by omega), if_neg (by omega)]
theorem gr_761 {a : Int} (h0 : 761 ≤ a) (h1 : a ≤ 761) (i : Int) : grp a i = 252 := by
  unfold grp
  rw [if_neg (by omega), if_neg (by omega), if_neg (by omega), if_neg (by omega), if_pos (by omega), if_neg (by omega), if_pos (by omega)]
theorem gr_762 {a : Int} (h0 : 762 ≤ a) (h1 : a ≤ 762) (i : Int) : grp a i = 253 := by
  unfold grp
  rw [if_neg (by omega), if_neg (by omega), if_neg (by omega), if_neg (by omega), if_pos (by omega), if_neg (by omega), if_neg (by omega), if_pos (by omega)]
theorem gr_763 {a : Int} (h0 : 763 ≤ a) (h1 : a ≤ 763) (i : Int) : grp a i = 254 := by
  unfold grp
  rw [if_neg (by omega), if_neg (by omega), if_neg (by omega), if_neg (by omega), if_pos (by omega), if_neg (by omega), if_neg (by omega), if_neg (by omega)]
theorem gr_764 {a : Int} (h0 : 764 ≤ a) (h1 : a ≤ 764) (i : Int) : grp a i = 255 := by
  unfold grp
  rw [if_neg (by omega), if_neg (by omega), if_neg (by omega), if_neg (by omega), if_neg (by omega), if_pos (by omega), if_pos (by omega)]
theorem gr_765 {a : Int} (h0 : 765 ≤ a) (h1 : a ≤ 765) (i : Int) : grp a i = 256 := by
  unfold grp
  rw [if_neg (by omega), if_neg (by omega), if_neg (by omega), if_neg (by omega), if_neg (by omega), if_pos (by omega), if_neg (by omega), if_pos (by omega)]
theorem gr_766 {a : Int} (h0 : 766 ≤ a) (h1 : a ≤ 766) (i : Int) : grp a i = 257 := by
  unfold grp
  rw [if_neg (by omega), if_neg (by omega), if_neg (by omega), if_neg (by omega), if_neg (by omega), if_pos (by omega), if_neg (by omega), if_neg (by omega)]
theorem gr_767 {a : Int} (h0 : 767 ≤ a) (h1 : a ≤ 767) (i : Int) : grp a i = 258 := by
  unfold grp
  rw [if_neg (by omega), if_neg (by omega), if_neg (by omega), if_neg (by omega), if_neg (by omega), if_neg (by omega), if_pos (by omega)]
theorem gr_768 {a : Int} (h0 : 768 ≤ a) (h1 : a ≤ 768) (i : Int) : grp a i = 259 := by
  unfold grp
  rw [if_neg (by omega), if_neg (by omega), if_neg (by omega), if_neg (by omega), if_neg (by omega), if_neg (by omega), if_neg (by omega), if_pos (by omega)]
theorem gr_769 {a : Int} (h0 : 769 ≤ a) (h1 : a ≤ 769) (i : Int) : grp a i = 260 := by
  unfold grp
  rw [if_neg (by omega), if_neg (by omega), if_neg (by omega), if_neg (by omega), if_neg (by omega), if_neg (by omega), if_neg (by omega), if_neg (by omega)]
theorem g_c0 {a : Int} (h : isC a) : grp a 0 = 28 := by
  rcases h with h | h
  · rw [gr_4 (by omega) (by omega)]
    rfl
  · rw [gr_679 (by omega) (by omega), if_pos (by omega)]
    rfl
theorem g_c1 {a : Int} (h : isC a) : grp a 1 = 29 := by
  rcases h with h | h
  · rw [gr_4 (by omega) (by omega)]
    rfl
  · rw [gr_679 (by omega) (by omega), if_pos (by omega)]
    rfl
theorem g_c2 {a : Int} (h : isC a) : grp a 2 = 30 := by
  rcases h with h | h
  · rw [gr_4 (by omega) (by omega)]
    rfl
  · rw [gr_679 (by omega) (by omega), if_pos (by omega)]
    rfl
theorem g_c3 {a : Int} (h : isC a) : grp a 3 = 31 := by
  rcases h with h | h
  · rw [gr_4 (by omega) (by omega)]
    rfl
  · rw [gr_679 (by omega) (by omega), if_pos (by omega)]
    rfl
theorem g_cs {a : Int} (h : isC a) (i : Int) : grp (a + 1) i = 32 := by
  rcases h with h | h
  · exact gr_5 (by omega) (by omega) i
  · rw [gr_679 (by omega) (by omega), if_neg (by omega)]
