/-! ===== what is fed: class and model ===== -/
def b8 (x : Int) : Int := (x + 128) % 256 - 128
/-- four bytes of x stand behind the first t of a row -/
def PNc (u v : Int → Int) (t x : Int) : Prop := (∀ k, 0 ≤ k → k < t → v k = u k) ∧ v t = b8 (x / 16777216) ∧ v (t + 1) = b8 (x / 65536) ∧ v (t + 2) = b8 (x / 256) ∧ v (t + 3) = b8 x
def PNm (u v : Int → Int) (t x : Int) : Prop := (∀ k, 0 ≤ k → k < t → v k = u k) ∧ v t = x / 16777216 % 256 ∧ v (t + 1) = x / 65536 % 256 ∧ v (t + 2) = x / 256 % 256 ∧ v (t + 3) = x % 256
/-- a byte with its sign, and without -/
def BR (a b : Int) : Prop := (0 ≤ a → b = a) ∧ (a < 0 → -128 ≤ a ∧ b = a + 256)
theorem BR_b8 (x : Int) : BR (b8 x) (x % 256) := by
  unfold BR b8
  omega
/-- two rows with the same bytes -/
def TA (u v : Int → Int) (t : Int) : Prop := ∀ k, 0 ≤ k → k < t → BR (u k) (v k)
theorem TA_st {u u2 v v2 : Int → Int} {t x : Int} (h : TA u v t) (ht : 0 ≤ t) (hc : PNc u u2 t x) (hm : PNm v v2 t x) : TA u2 v2 (t + 4) := by
  intro k h0 h1
  obtain ⟨c0, c1, c2, c3, c4⟩ := hc
  obtain ⟨m0, m1, m2, m3, m4⟩ := hm
  by_cases q : k < t
  · rw [c0 k h0 q, m0 k h0 q]
    exact h k h0 q
  · have : k = t ∨ k = t + 1 ∨ k = t + 2 ∨ k = t + 3 := by omega
    rcases this with e | e | e | e
    · rw [e, c1, m1]; exact BR_b8 _
    · rw [e, c2, m2]; exact BR_b8 _
    · rw [e, c3, m3]; exact BR_b8 _
    · rw [e, c4, m4]; exact BR_b8 _
def FDc (u v : Int → Int) (t a b c d e : Int) : Prop := ∃ u1 u2 u3 u4, PNc u u1 t a ∧ PNc u1 u2 (t + 4) b ∧ PNc u2 u3 (t + 8) c ∧ PNc u3 u4 (t + 12) d ∧ PNc u4 v (t + 16) e
def FDm (u v : Int → Int) (t a b c d e : Int) : Prop := ∃ u1 u2 u3 u4, PNm u u1 t a ∧ PNm u1 u2 (t + 4) b ∧ PNm u2 u3 (t + 8) c ∧ PNm u3 u4 (t + 12) d ∧ PNm u4 v (t + 16) e
theorem TA_fd {u u2 v v2 : Int → Int} {t a b c d e : Int} (h : TA u v t) (ht : 0 ≤ t) (hc : FDc u u2 t a b c d e) (hm : FDm v v2 t a b c d e) : TA u2 v2 (t + 20) := by
  obtain ⟨p1, p2, p3, p4, c1, c2, c3, c4, c5⟩ := hc
  obtain ⟨q1, q2, q3, q4, m1, m2, m3, m4, m5⟩ := hm
  have a1 := TA_st h ht c1 m1
  have a2 := TA_st a1 (by omega) c2 m2
  rw [show t + 4 + 4 = t + 8 by omega] at a2
  have a3 := TA_st a2 (by omega) c3 m3
  rw [show t + 8 + 4 = t + 12 by omega] at a3
  have a4 := TA_st a3 (by omega) c4 m4
  rw [show t + 12 + 4 = t + 16 by omega] at a4
  have a5 := TA_st a4 (by omega) c5 m5
  rw [show t + 16 + 4 = t + 20 by omega] at a5
  exact a5
theorem PN_cc {u v : Int → Int} {t t2 x : Int} (h : PNc u v t x) (e : t2 = t) : PNc u v t2 x := by rw [e]; exact h
theorem PN_cm {u v : Int → Int} {t t2 x : Int} (h : PNm u v t x) (e : t2 = t) : PNm u v t2 x := by rw [e]; exact h
