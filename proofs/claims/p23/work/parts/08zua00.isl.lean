/-! ===== how an ISLAND's clauses are read ===== -/
/-- roads, day, whether lies are told, words, what each MAY be -/
abbrev Dg : Type := Int × Int × Int × Int × (Int → Int)
/-- (0, s, 0, 0, D) a CLAUSE or the end, (1, s, k, w, D) a KIND of w behind those of k, (2, s, 0, 0, D) a day of lies, (5, s, 0, 0, D) ';', (3, s, k, ..) the FAULT k, (4, s, 0, 0, D) the end -/
abbrev Ig : Type := Int × Int × Int × Int × Dg
def dg0 : Dg := (0, 0, 0, 0, fun _ => 0)
def fI (s k : Int) : Ig := (3, s, k, 0, dg0)
def updI (u : Int → Int) (w v : Int) : Int → Int := fun k => if k = w then v else u k
/-! a FAULT has a number that isn't 0 -/
def Pz (c : Cg) : Prop := c.1 ≤ 2 ∨ c.1 = 4 ∨ (c.1 = 3 ∧ c.2.2.2 ≠ 0)
theorem Pz_ite {q : Prop} [Decidable q] {a b : Cg} (ha : q → Pz a) (hb : ¬ q → Pz b) : Pz (if q then a else b) := by
  by_cases h : q
  · rw [if_pos h]; exact ha h
  · rw [if_neg h]; exact hb h
theorem Pz_o {a b c d : Int} (h : a ≤ 2 ∨ a = 4) : Pz (a, b, c, d) := by
  rcases h with h | h
  · exact Or.inl h
  · exact Or.inr (Or.inl h)
theorem Pz_f {b c d : Int} (h : d ≠ 0) : Pz (3, b, c, d) := Or.inr (Or.inr ⟨rfl, h⟩)
theorem af_nz (T : Int → Int) (n e d s : Int) : Pz (af T n e d s) := by
  unfold af
  exact Pz_ite (fun _ => Pz_o (by decide)) (fun q => Pz_f q)
theorem stE_nz (T : Int → Int) (n d s : Int) : Pz (stE T n d s) := by
  unfold stE
  exact Pz_ite (fun _ => Pz_ite (fun _ => Pz_f (by decide)) (fun _ => Pz_o (by decide))) (fun _ => Pz_f (by decide))
theorem stN_nz (T : Int → Int) (n pp d s : Int) : Pz (stN T n pp d s) := by
  unfold stN
  exact Pz_ite (fun _ => Pz_ite (fun _ => Pz_o (by decide)) (fun _ => Pz_f (by decide))) (fun _ => Pz_ite (fun _ => af_nz _ _ _ _ _) (fun _ => Pz_ite (fun _ => af_nz _ _ _ _ _) (fun _ => Pz_f (by decide))))
theorem stM_nz (T : Int → Int) (n d s : Int) : Pz (stM T n d s) := by
  unfold stM
  exact Pz_ite (fun _ => Pz_ite (fun _ => af_nz _ _ _ _ _) (fun _ => Pz_f (by decide))) (fun q => Pz_f q)
theorem stA_nz (T : Int → Int) (n d s : Int) : Pz (stA T n d s) := by
  unfold stA
  exact Pz_ite (fun _ => af_nz _ _ _ _ _) (fun _ => Pz_ite (fun _ => af_nz _ _ _ _ _) (fun _ => Pz_ite (fun _ => af_nz _ _ _ _ _) (fun _ => Pz_ite (fun _ => af_nz _ _ _ _ _) (fun _ => Pz_ite (fun _ => stM_nz _ _ _ _) (fun _ => Pz_f (by decide))))))
theorem stO_nz (T : Int → Int) (n pp d s k : Int) : Pz (stO T n pp d s k) := by
  unfold stO
  exact Pz_ite (fun _ => Pz_ite (fun _ => Pz_f (by decide)) (fun _ => Pz_o (by decide))) (fun _ => Pz_ite (fun _ => Pz_o (by decide)) (fun _ => Pz_ite (fun _ => Pz_ite (fun _ => stN_nz _ _ _ _ _) (fun q => Pz_f q)) (fun _ => stA_nz _ _ _ _)))
theorem stX_nz (T : Int → Int) (n d s : Int) : Pz (stX T n d s) := by
  unfold stX
  exact Pz_ite (fun _ => Pz_o (by decide)) (fun _ => Pz_ite (fun _ => Pz_o (by decide)) (fun _ => Pz_ite (fun _ => Pz_o (by decide)) (fun _ => Pz_f (by decide))))
theorem st1_nz (T : Int → Int) (n pp : Int) (c : Cg) (h : c.1 ≤ 2) : Pz (st1 T n pp c) := by
  unfold st1
  exact Pz_ite (fun _ => stE_nz _ _ _ _) (fun _ => Pz_ite (fun _ => stO_nz _ _ _ _ _ _) (fun _ => Pz_ite (fun _ => stX_nz _ _ _ _) (fun _ => Or.inl h)))
theorem Rch.nz {T : Int → Int} {n pp : Int} {c c2 : Cg} (h : Rch T n pp c c2) (hc : c.1 ≤ 2) : Pz c2 := by
  obtain ⟨k, e, hk⟩ := h
  cases k with
  | zero =>
    have e' : c = c2 := e
    rw [← e']
    exact Or.inl hc
  | succ k =>
    have e' : st1 T n pp (itn (st1 T n pp) k c) = c2 := e
    rw [← e']
    exact st1_nz _ _ _ _ (hk k (by omega))
theorem rn_ex (T : Int → Int) (n pp s : Int) : ∃ r : Cg, (∀ c, Rch T n pp (0, 0, s, 0) c → 3 ≤ c.1 → r = c) ∧ (r.1 ≠ 4 → r.2.2.2 ≠ 0) := by
  by_cases h : ∃ c, Rch T n pp (0, 0, s, 0) c ∧ 3 ≤ c.1
  · obtain ⟨c, h1, h2⟩ := h
    refine ⟨c, fun c2 h3 h4 => h1.one h3 h2 h4, fun q => ?_⟩
    rcases h1.nz (show (0 : Int) ≤ 2 by decide) with a | a | a
    · omega
    · exact absurd a q
    · exact a.2
  · exact ⟨(3, 0, 0, 1), fun c h3 h4 => absurd ⟨c, h3, h4⟩ h, fun _ => by decide⟩
/-- where the EXPR that begins there stops -/
noncomputable def rn (T : Int → Int) (n pp s : Int) : Cg := Classical.choose (rn_ex T n pp s)
theorem rn_eq {T : Int → Int} {n pp s : Int} {c : Cg} (h : Rch T n pp (0, 0, s, 0) c) (h2 : 3 ≤ c.1) : rn T n pp s = c := (Classical.choose_spec (rn_ex T n pp s)).1 c h h2
theorem rn_nz {T : Int → Int} {n pp s : Int} (h : (rn T n pp s).1 ≠ 4) : (rn T n pp s).2.2.2 ≠ 0 := (Classical.choose_spec (rn_ex T n pp s)).2 h
/-- one more FACT; the days of lies -/
def addM (ma : Int → Int) (x : Int) : Int → Int := fun k => if k = 8 then ma 8 + 1 else if k = 9 + ma 8 then x else ma k
def setL (ma : Int → Int) (x : Int) : Int → Int := fun k => if k = 7 then x else ma k
def bor (t k : Int) : Int := if t / pw k % 2 = 1 then t else t + pw k
noncomputable def iC (T : Int → Int) (n pp s : Int) (D : Dg) : Ig :=
  if tt T n s = 0 then (4, s, 0, 0, D)
  else if kw T n s = 6 then (if naE T n pp (nx T n s) = 0 then (1, nx T n (nx T n s), 0, T (nx T n s) - 97, D) else fI (nx T n s) (naE T n pp (nx T n s)))
  else if kw T n s = 9 then (2, nx T n s, 0, 0, D)
  else if kw T n s = 11 then (if (rn T n pp (nx T n s)).1 = 4 then (5, (rn T n pp (nx T n s)).2.2.1, 0, 0, (D.1, D.2.1, D.2.2.1, D.2.2.2.1, addM D.2.2.2.2 (nx T n s))) else fI (rn T n pp (nx T n s)).2.2.1 (rn T n pp (nx T n s)).2.2.2)
  else if kw T n s = 10 then (5, nx T n s, 0, 0, (D.1, D.2.1, D.2.2.1, 1, D.2.2.2.2))
  else if kw T n s = 7 then (if nuE T n (nx T n s) 1 4 = 0 then (5, nx T n (nx T n s), 0, 0, (vlI T n (nx T n s), D.2.1, D.2.2.1, D.2.2.2.1, D.2.2.2.2)) else fI (nx T n s) (nuE T n (nx T n s) 1 4))
  else if kw T n s = 8 then (if nuE T n (nx T n s) 0 6 = 0 then (5, nx T n (nx T n s), 0, 0, (D.1, vlI T n (nx T n s), D.2.2.1, D.2.2.2.1, D.2.2.2.2)) else fI (nx T n s) (nuE T n (nx T n s) 0 6))
  else fI s 1
def iM (T : Int → Int) (n s k w : Int) (D : Dg) : Ig :=
  if kdE T n s ≠ 0 then fI s (kdE T n s)
  else if k / pw (kdI T n s) % 2 = 1 then fI s 5
  else if kdE T n (nx T n s) = 0 then (1, nx T n s, k + pw (kdI T n s), w, D)
  else (5, nx T n s, 0, 0, (D.1, D.2.1, D.2.2.1, D.2.2.2.1, updI D.2.2.2.2 w (k + pw (kdI T n s))))
def iL (T : Int → Int) (n s k : Int) (D : Dg) : Ig :=
  if nuE T n s 0 6 ≠ 0 then fI s (nuE T n s 0 6)
  else if tt T n (nx T n s) = 2 then (2, nx T n s, bor k (vlI T n s), 0, D)
  else (5, nx T n s, 0, 0, (D.1, D.2.1, 1, D.2.2.2.1, setL D.2.2.2.2 (bor k (vlI T n s))))
def iS (T : Int → Int) (n s : Int) (D : Dg) : Ig := if sgI T n s 59 = 1 then (0, nx T n s, 0, 0, D) else fI s 1
noncomputable def sI (T : Int → Int) (n pp : Int) (c : Ig) : Ig :=
  if c.1 = 0 then iC T n pp c.2.1 c.2.2.2.2 else if c.1 = 1 then iM T n c.2.1 c.2.2.1 c.2.2.2.1 c.2.2.2.2 else if c.1 = 2 then iL T n c.2.1 c.2.2.1 c.2.2.2.2 else if c.1 = 5 then iS T n c.2.1 c.2.2.2.2 else c
def iti (f : Ig → Ig) : Nat → Ig → Ig
  | 0, c => c
  | k + 1, c => f (iti f k c)
def hI (c : Ig) : Prop := c.1 = 3 ∨ c.1 = 4
def Ri (T : Int → Int) (n pp : Int) (c c2 : Ig) : Prop := ∃ k : Nat, iti (sI T n pp) k c = c2 ∧ ∀ j : Nat, j < k → ¬ hI (iti (sI T n pp) j c)
theorem Ri.rf {T : Int → Int} {n pp : Int} (c : Ig) : Ri T n pp c c := ⟨0, rfl, fun j hj => absurd hj (Nat.not_lt_zero _)⟩
theorem Ri.snoc {T : Int → Int} {n pp : Int} {c c1 c2 : Ig} (h : Ri T n pp c c1) (h1 : ¬ hI c1) (h2 : sI T n pp c1 = c2) : Ri T n pp c c2 := by
  obtain ⟨k, e, hk⟩ := h
  refine ⟨k + 1, ?_, fun j hj => ?_⟩
  · show sI T n pp (iti (sI T n pp) k c) = c2
    rw [e]
    exact h2
  · by_cases q : j = k
    · rw [q, e]
      exact h1
    · exact hk j (by omega)
theorem Ri.one {T : Int → Int} {n pp : Int} {c c1 c2 : Ig} (h1 : Ri T n pp c c1) (h2 : Ri T n pp c c2) (q1 : hI c1) (q2 : hI c2) : c1 = c2 := by
  obtain ⟨k, e, hk⟩ := h1
  obtain ⟨j, e2, hj⟩ := h2
  rcases Nat.lt_trichotomy k j with q | q | q
  · have := hj k q
    rw [e] at this
    exact absurd q1 this
  · rw [← e, ← e2, q]
  · have := hk j q
    rw [e2] at this
    exact absurd q2 this
section ID
variable {T : Int → Int} {n pp s k w : Int} {D : Dg} {c : Ig}
theorem nh0 : ¬ hI ((0, s, k, w, D) : Ig) := fun h => by
  rcases h with h | h
  · exact absurd (show (0 : Int) = 3 from h) (by decide)
  · exact absurd (show (0 : Int) = 4 from h) (by decide)
theorem nh1 : ¬ hI ((1, s, k, w, D) : Ig) := fun h => by
  rcases h with h | h
  · exact absurd (show (1 : Int) = 3 from h) (by decide)
  · exact absurd (show (1 : Int) = 4 from h) (by decide)
theorem nh2 : ¬ hI ((2, s, k, w, D) : Ig) := fun h => by
  rcases h with h | h
  · exact absurd (show (2 : Int) = 3 from h) (by decide)
  · exact absurd (show (2 : Int) = 4 from h) (by decide)
theorem nh5 : ¬ hI ((5, s, k, w, D) : Ig) := fun h => by
  rcases h with h | h
  · exact absurd (show (5 : Int) = 3 from h) (by decide)
  · exact absurd (show (5 : Int) = 4 from h) (by decide)
theorem i_0 (h : Ri T n pp c (0, s, 0, 0, D)) : Ri T n pp c (iC T n pp s D) := h.snoc nh0 rfl
theorem i_1 (h : Ri T n pp c (1, s, k, w, D)) : Ri T n pp c (iM T n s k w D) := h.snoc nh1 rfl
theorem i_2 (h : Ri T n pp c (2, s, k, 0, D)) : Ri T n pp c (iL T n s k D) := h.snoc nh2 rfl
theorem i_5 (h : Ri T n pp c (5, s, 0, 0, D)) : Ri T n pp c (iS T n s D) := h.snoc nh5 rfl
/-- the end -/
theorem c_end (h : Ri T n pp c (0, s, 0, 0, D)) (q : tt T n s = 0) : Ri T n pp c (4, s, 0, 0, D) := by
  have := i_0 h
  unfold iC at this
  rw [if_pos q] at this
  exact this
theorem kw_t {k : Int} (h : kw T n s = k) (hk : 0 ≤ k) : tt T n s ≠ 0 := by
  have := (kw_ty (T := T) (n := n) (s := s) (by omega)).1
  omega
variable {s1 s2 s3 p f : Int}
theorem c_bad (h : Ri T n pp c (0, s, 0, 0, D)) (q : tt T n s ≠ 0) (q1 : kw T n s ≠ 6) (q2 : kw T n s ≠ 9) (q3 : kw T n s ≠ 11) (q4 : kw T n s ≠ 10) (q5 : kw T n s ≠ 7) (q6 : kw T n s ≠ 8) (e1 : p = s) (e2 : f = 1) : Ri T n pp c (fI p f) := by
  have := i_0 h
  unfold iC at this
  rw [if_neg q, if_neg q1, if_neg q2, if_neg q3, if_neg q4, if_neg q5, if_neg q6] at this
  rw [e1, e2]
  exact this
theorem c_may (h : Ri T n pp c (0, s, 0, 0, D)) (q : kw T n s = 6) (e : s1 = nx T n s) (hn : naE T n pp s1 = 0) (e2 : s2 = nx T n s1) (e3 : w = T s1 - 97) : Ri T n pp c (1, s2, 0, w, D) := by
  have := i_0 h
  unfold iC at this
  rw [if_neg (kw_t q (by decide)), if_pos q, ← e, if_pos hn] at this
  rw [e2, e3]
  exact this
theorem c_mayn (h : Ri T n pp c (0, s, 0, 0, D)) (q : kw T n s = 6) (e : s1 = nx T n s) (hn : naE T n pp s1 ≠ 0) (e1 : p = s1) (e2 : f = naE T n pp s1) : Ri T n pp c (fI p f) := by
  have := i_0 h
  unfold iC at this
  rw [if_neg (kw_t q (by decide)), if_pos q, ← e, if_neg hn] at this
  rw [e1, e2]
  exact this
theorem c_lies (h : Ri T n pp c (0, s, 0, 0, D)) (q : kw T n s = 9) (e : s1 = nx T n s) : Ri T n pp c (2, s1, 0, 0, D) := by
  have := i_0 h
  unfold iC at this
  rw [if_neg (kw_t q (by decide)), if_neg (by omega), if_pos q, ← e] at this
  exact this
theorem c_factn (h : Ri T n pp c (0, s, 0, 0, D)) (q : kw T n s = 11) (e : s1 = nx T n s) (r : Rch T n pp (0, 0, s1, 0) (3, 0, p, f)) : Ri T n pp c (fI p f) := by
  have := i_0 h
  unfold iC at this
  rw [if_neg (kw_t q (by decide)), if_neg (by omega), if_neg (by omega), if_pos q, ← e, rn_eq r (show (3 : Int) ≤ 3 by decide), if_neg (show ¬ (3 : Int) = 4 by decide)] at this
  exact this
end ID
section IE
variable {T : Int → Int} {n pp s k w s1 s2 s3 p f ro da li wo ro2 da2 li2 wo2 : Int} {ma ma2 : Int → Int} {c : Ig}
theorem c_fact (h : Ri T n pp c (0, s, 0, 0, (ro, da, li, wo, ma))) (q : kw T n s = 11) (e : s1 = nx T n s) (r : Rch T n pp (0, 0, s1, 0) (4, 0, s2, 0)) (e3 : ma2 = addM ma s1) : Ri T n pp c (5, s2, 0, 0, (ro, da, li, wo, ma2)) := by
  have := i_0 h
  unfold iC at this
  rw [if_neg (kw_t q (by decide)), if_neg (by omega), if_neg (by omega), if_pos q, ← e, rn_eq r (show (3 : Int) ≤ 4 by decide)] at this
  rw [e3]
  exact this
theorem c_words (h : Ri T n pp c (0, s, 0, 0, (ro, da, li, wo, ma))) (q : kw T n s = 10) (e : s1 = nx T n s) (e2 : wo2 = 1) : Ri T n pp c (5, s1, 0, 0, (ro, da, li, wo2, ma)) := by
  have := i_0 h
  unfold iC at this
  rw [if_neg (kw_t q (by decide)), if_neg (by omega), if_neg (by omega), if_neg (by omega), if_pos q, ← e] at this
  rw [e2]
  exact this
theorem c_roads (h : Ri T n pp c (0, s, 0, 0, (ro, da, li, wo, ma))) (q : kw T n s = 7) (e : s1 = nx T n s) (hn : nuE T n s1 1 4 = 0) (e2 : s2 = nx T n s1) (e3 : ro2 = vlI T n s1) : Ri T n pp c (5, s2, 0, 0, (ro2, da, li, wo, ma)) := by
  have := i_0 h
  unfold iC at this
  rw [if_neg (kw_t q (by decide)), if_neg (by omega), if_neg (by omega), if_neg (by omega), if_neg (by omega), if_pos q, ← e, if_pos hn] at this
  rw [e2, e3]
  exact this
theorem c_roadsn (h : Ri T n pp c (0, s, 0, 0, (ro, da, li, wo, ma))) (q : kw T n s = 7) (e : s1 = nx T n s) (hn : nuE T n s1 1 4 ≠ 0) (e1 : p = s1) (e2 : f = nuE T n s1 1 4) : Ri T n pp c (fI p f) := by
  have := i_0 h
  unfold iC at this
  rw [if_neg (kw_t q (by decide)), if_neg (by omega), if_neg (by omega), if_neg (by omega), if_neg (by omega), if_pos q, ← e, if_neg hn] at this
  rw [e1, e2]
  exact this
theorem c_day (h : Ri T n pp c (0, s, 0, 0, (ro, da, li, wo, ma))) (q : kw T n s = 8) (e : s1 = nx T n s) (hn : nuE T n s1 0 6 = 0) (e2 : s2 = nx T n s1) (e3 : da2 = vlI T n s1) : Ri T n pp c (5, s2, 0, 0, (ro, da2, li, wo, ma)) := by
  have := i_0 h
  unfold iC at this
  rw [if_neg (kw_t q (by decide)), if_neg (by omega), if_neg (by omega), if_neg (by omega), if_neg (by omega), if_neg (by omega), if_pos q, ← e, if_pos hn] at this
  rw [e2, e3]
  exact this
theorem c_dayn (h : Ri T n pp c (0, s, 0, 0, (ro, da, li, wo, ma))) (q : kw T n s = 8) (e : s1 = nx T n s) (hn : nuE T n s1 0 6 ≠ 0) (e1 : p = s1) (e2 : f = nuE T n s1 0 6) : Ri T n pp c (fI p f) := by
  have := i_0 h
  unfold iC at this
  rw [if_neg (kw_t q (by decide)), if_neg (by omega), if_neg (by omega), if_neg (by omega), if_neg (by omega), if_neg (by omega), if_pos q, ← e, if_neg hn] at this
  rw [e1, e2]
  exact this
/-- KINDS behind 'may' -/
theorem m_k (h : Ri T n pp c (1, s, k, w, (ro, da, li, wo, ma))) (q : kdE T n s ≠ 0) (e1 : p = s) (e2 : f = kdE T n s) : Ri T n pp c (fI p f) := by
  have := i_1 h
  unfold iM at this
  rw [if_pos q] at this
  rw [e1, e2]
  exact this
theorem m_5 (h : Ri T n pp c (1, s, k, w, (ro, da, li, wo, ma))) (q : kdE T n s = 0) (q2 : k / pw (kdI T n s) % 2 = 1) (e1 : p = s) (e2 : f = 5) : Ri T n pp c (fI p f) := by
  have := i_1 h
  unfold iM at this
  rw [if_neg (by omega), if_pos q2] at this
  rw [e1, e2]
  exact this
theorem m_n {k2 : Int} (h : Ri T n pp c (1, s, k, w, (ro, da, li, wo, ma))) (q : kdE T n s = 0) (q2 : k / pw (kdI T n s) % 2 ≠ 1) (e : s1 = nx T n s) (q3 : kdE T n s1 = 0) (e2 : k2 = k + pw (kdI T n s)) : Ri T n pp c (1, s1, k2, w, (ro, da, li, wo, ma)) := by
  have := i_1 h
  unfold iM at this
  rw [if_neg (by omega), if_neg q2, ← e, if_pos q3] at this
  rw [e2]
  exact this
theorem m_e {k2 : Int} (h : Ri T n pp c (1, s, k, w, (ro, da, li, wo, ma))) (q : kdE T n s = 0) (q2 : k / pw (kdI T n s) % 2 ≠ 1) (e : s1 = nx T n s) (q3 : kdE T n s1 ≠ 0) (e2 : k2 = k + pw (kdI T n s)) (e3 : ma2 = updI ma w k2) : Ri T n pp c (5, s1, 0, 0, (ro, da, li, wo, ma2)) := by
  have := i_1 h
  unfold iM at this
  rw [if_neg (by omega), if_neg q2, ← e, if_neg q3] at this
  rw [e3, e2]
  exact this
/-- days behind 'lies' -/
theorem l_n (h : Ri T n pp c (2, s, k, 0, (ro, da, li, wo, ma))) (q : nuE T n s 0 6 ≠ 0) (e1 : p = s) (e2 : f = nuE T n s 0 6) : Ri T n pp c (fI p f) := by
  have := i_2 h
  unfold iL at this
  rw [if_pos q] at this
  rw [e1, e2]
  exact this
theorem l_m {k2 : Int} (h : Ri T n pp c (2, s, k, 0, (ro, da, li, wo, ma))) (q : nuE T n s 0 6 = 0) (e : s1 = nx T n s) (q2 : tt T n s1 = 2) (e3 : k2 = bor k (vlI T n s)) : Ri T n pp c (2, s1, k2, 0, (ro, da, li, wo, ma)) := by
  have := i_2 h
  unfold iL at this
  rw [if_neg (by omega), ← e, if_pos q2] at this
  rw [e3]
  exact this
theorem l_e (h : Ri T n pp c (2, s, k, 0, (ro, da, li, wo, ma))) (q : nuE T n s 0 6 = 0) (e : s1 = nx T n s) (q2 : tt T n s1 ≠ 2) (e2 : li2 = 1) (e3 : ma2 = setL ma (bor k (vlI T n s))) : Ri T n pp c (5, s1, 0, 0, (ro, da, li2, wo, ma2)) := by
  have := i_2 h
  unfold iL at this
  rw [if_neg (by omega), ← e, if_neg q2] at this
  rw [e2, e3]
  exact this
/-- ';' -/
theorem s_n (h : Ri T n pp c (5, s, 0, 0, (ro, da, li, wo, ma))) (q : sgI T n s 59 ≠ 1) (e1 : p = s) (e2 : f = 1) : Ri T n pp c (fI p f) := by
  have := i_5 h
  unfold iS at this
  rw [if_neg q] at this
  rw [e1, e2]
  exact this
theorem s_y (h : Ri T n pp c (5, s, 0, 0, (ro, da, li, wo, ma))) (q : sgI T n s 59 = 1) (e : s1 = nx T n s) : Ri T n pp c (0, s1, 0, 0, (ro, da, li, wo, ma)) := by
  have := i_5 h
  unfold iS at this
  rw [if_pos q, ← e] at this
  exact this
/-- the same place by other names -/
theorem I_c {ph k2 w2 : Int} (h : Ri T n pp c (ph, s, k, w, (ro, da, li, wo, ma))) (e1 : s1 = s) (e2 : k2 = k) (e3 : w2 = w) (e4 : ro2 = ro) (e5 : da2 = da) (e6 : li2 = li) (e7 : wo2 = wo) (e8 : ma2 = ma) : Ri T n pp c (ph, s1, k2, w2, (ro2, da2, li2, wo2, ma2)) := by
  rw [e1, e2, e3, e4, e5, e6, e7, e8]
  exact h
theorem I_f {p2 f2 : Int} (h : Ri T n pp c (fI p f)) (e1 : p2 = p) (e2 : f2 = f) : Ri T n pp c (fI p2 f2) := by
  rw [e1, e2]
  exact h
end IE
/-- bits of KINDS -/
theorem bit_all : (List.range 32).all (fun t => (List.range 5).all fun k => decide ((t &&& 2 ^ k = 0 ↔ t / 2 ^ k % 2 = 0) ∧ (t / 2 ^ k % 2 = 0 → t ||| 2 ^ k = t + 2 ^ k) ∧ (t / 2 ^ k % 2 = 0 → t + 2 ^ k < 32))) = true := by decide +kernel
theorem pw5 {k : Int} (h0 : 0 ≤ k) (h1 : k ≤ 4) : pw k = ((2 ^ k.toNat : Nat) : Int) := by
  have : k = 0 ∨ k = 1 ∨ k = 2 ∨ k = 3 ∨ k = 4 := by omega
  rcases this with rfl | rfl | rfl | rfl | rfl <;> decide
theorem bit_and {t k b r : Int} (ht : 0 ≤ t ∧ t ≤ 31) (h0 : 0 ≤ k) (h1 : k ≤ 4) (eb : b = pw k) (hr : r = ((t.toNat &&& b.toNat : Nat) : Int)) : (r = 0 ∧ t / pw k % 2 = 0) ∨ (r ≠ 0 ∧ t / pw k % 2 = 1) := by
  have h := of_decide_eq_true (List.all_eq_true.mp (List.all_eq_true.mp bit_all t.toNat (List.mem_range.mpr (by omega))) k.toNat (List.mem_range.mpr (by omega)))
  rw [eb, pw5 h0 h1, Int.toNat_natCast] at hr
  have e : t / pw k % 2 = ((t.toNat / 2 ^ k.toNat % 2 : Nat) : Int) := by
    rw [pw5 h0 h1, Int.natCast_emod, Int.natCast_ediv, Int.toNat_of_nonneg ht.1]
    rfl
  rw [e]
  have h2 := h.1
  by_cases q : t.toNat &&& 2 ^ k.toNat = 0
  · have q3 := h2.mp q
    rw [q] at hr
    rw [q3]
    exact Or.inl ⟨hr, rfl⟩
  · have q3 : ¬ t.toNat / 2 ^ k.toNat % 2 = 0 := fun x => q (h2.mpr x)
    exact Or.inr ⟨by omega, by omega⟩
theorem bit_or {t k b r : Int} (ht : 0 ≤ t ∧ t ≤ 31) (h0 : 0 ≤ k) (h1 : k ≤ 4) (eb : b = pw k) (hr : r = ((t.toNat ||| b.toNat : Nat) : Int)) (hz : t / pw k % 2 ≠ 1) : r = t + pw k ∧ r ≤ 31 := by
  have h := of_decide_eq_true (List.all_eq_true.mp (List.all_eq_true.mp bit_all t.toNat (List.mem_range.mpr (by omega))) k.toNat (List.mem_range.mpr (by omega)))
  have e : t / pw k % 2 = ((t.toNat / 2 ^ k.toNat % 2 : Nat) : Int) := by
    rw [pw5 h0 h1, Int.natCast_emod, Int.natCast_ediv, Int.toNat_of_nonneg ht.1]
    rfl
  have q : t.toNat / 2 ^ k.toNat % 2 = 0 := by
    have := Nat.mod_lt (t.toNat / 2 ^ k.toNat) (show 0 < 2 by decide)
    omega
  rw [eb, pw5 h0 h1, Int.toNat_natCast, h.2.1 q] at hr
  have := h.2.2 q
  rw [pw5 h0 h1]
  omega
/-- of a row, the seven that count; the days of lies; where FACTS begin -/
def nrF (u : Int → Int) (lv : Int) (F : List Int) : Int → Int := fun k => if 0 ≤ k ∧ k < 7 then u k else if k = 7 then lv else if k = 8 then F.length else if 9 ≤ k then F.getD (k - 9).toNat 0 else 0
theorem nr_up {M M2 : Mm} {a w v lv : Int} {F : List Int} (e : M2 = mUp M a w v) (h0 : 0 ≤ w) (h1 : w < 7) : nrF (fun k => M2 a k) lv F = updI (nrF (fun k => M a k) lv F) w v := by
  funext k
  rw [e]
  unfold updI nrF
  by_cases q : k = w
  · rw [if_pos q, if_pos (by omega), q]
    exact mUp_eq _ _ _ _
  · rw [if_neg q]
    show (if 0 ≤ k ∧ k < 7 then mUp M a w v a k else _) = (if 0 ≤ k ∧ k < 7 then M a k else _)
    rw [mUp_ne (Or.inr q)]
theorem nr_eq {u v : Int → Int} {lv lv2 : Int} {F F2 : List Int} (h : ∀ k, 0 ≤ k → k < 7 → u k = v k) (hl : lv = lv2) (hF : F = F2) : nrF u lv F = nrF v lv2 F2 := by
  subst hl
  subst hF
  funext k
  unfold nrF
  by_cases q : 0 ≤ k ∧ k < 7
  · rw [if_pos q, if_pos q, h k q.1 q.2]
  · rw [if_neg q, if_neg q]
theorem nr_addM (u : Int → Int) (lv : Int) (F : List Int) (x : Int) : addM (nrF u lv F) x = nrF u lv (F ++ [x]) := by
  have e8 : nrF u lv F 8 = F.length := by
    unfold nrF
    rw [if_neg (by omega), if_neg (by omega), if_pos rfl]
  funext k
  unfold addM
  rw [e8]
  by_cases q : k = 8
  · rw [if_pos q, q]
    unfold nrF
    rw [if_neg (by omega), if_neg (by omega), if_pos rfl, List.length_append]
    rfl
  · rw [if_neg q]
    by_cases q2 : k = 9 + F.length
    · rw [if_pos q2]
      unfold nrF
      rw [if_neg (by omega), if_neg (by omega), if_neg q, if_pos (by omega), show (k - 9).toNat = F.length by omega, List.getD_eq_getElem?_getD, List.getElem?_concat_length]
      rfl
    · rw [if_neg q2]
      unfold nrF
      by_cases q3 : 0 ≤ k ∧ k < 7
      · rw [if_pos q3, if_pos q3]
      rw [if_neg q3, if_neg q3]
      by_cases q4 : k = 7
      · rw [if_pos q4, if_pos q4]
      rw [if_neg q4, if_neg q4, if_neg q, if_neg q]
      by_cases q5 : 9 ≤ k
      · rw [if_pos q5, if_pos q5, List.getD_eq_getElem?_getD, List.getD_eq_getElem?_getD]
        by_cases q6 : (k - 9).toNat < F.length
        · rw [List.getElem?_append_left q6]
        · rw [List.getElem?_eq_none (by omega), List.getElem?_eq_none (by rw [List.length_append]; show F.length + 1 ≤ _; omega)]
      · rw [if_neg q5, if_neg q5]
theorem nr_setL (u : Int → Int) (lv : Int) (F : List Int) (x : Int) : setL (nrF u lv F) x = nrF u x F := by
  funext k
  unfold setL nrF
  by_cases q : k = 7
  · rw [if_pos q, if_neg (by omega), if_pos q]
  · rw [if_neg q]
    by_cases q3 : 0 ≤ k ∧ k < 7
    · rw [if_pos q3, if_pos q3]
    · rw [if_neg q3, if_neg q3, if_neg q, if_neg q]
/-- a bit of the days of lies -/
theorem bor_all : (List.range 128).all (fun t => (List.range 7).all fun k => decide (((t ||| 2 ^ k : Nat) : Int) = bor (t : Int) (k : Int) ∧ bor (t : Int) (k : Int) < 128)) = true := by decide +kernel
theorem pw7 {k : Int} (h0 : 0 ≤ k) (h1 : k ≤ 6) : pw k = ((2 ^ k.toNat : Nat) : Int) := by
  have : k = 0 ∨ k = 1 ∨ k = 2 ∨ k = 3 ∨ k = 4 ∨ k = 5 ∨ k = 6 := by omega
  rcases this with rfl | rfl | rfl | rfl | rfl | rfl | rfl <;> decide
theorem bor_or {t k b r : Int} (ht : 0 ≤ t ∧ t ≤ 127) (h0 : 0 ≤ k) (h1 : k ≤ 6) (eb : b = pw k) (hr : r = ((t.toNat ||| b.toNat : Nat) : Int)) : r = bor t k ∧ 0 ≤ bor t k ∧ bor t k ≤ 127 := by
  have h := of_decide_eq_true (List.all_eq_true.mp (List.all_eq_true.mp bor_all t.toNat (List.mem_range.mpr (by omega))) k.toNat (List.mem_range.mpr (by omega)))
  rw [show ((t.toNat : Nat) : Int) = t by omega, show ((k.toNat : Nat) : Int) = k by omega] at h
  rw [eb, pw7 h0 h1, Int.toNat_natCast, h.1] at hr
  have h2 := h.1
  exact ⟨hr, by omega, by omega⟩
theorem bor_0 {k b : Int} (h0 : 0 ≤ k) (h1 : k ≤ 6) (eb : b = pw k) : b = bor 0 k ∧ 0 ≤ b ∧ b ≤ 127 := by
  have h := bor_or (t := 0) (r := b) ⟨by decide, by decide⟩ h0 h1 eb (by
    have : pw k = ((2 ^ k.toNat : Nat) : Int) := pw7 h0 h1
    rw [show ((0 : Int).toNat ||| b.toNat : Nat) = b.toNat from Nat.zero_or _]
    have : 0 ≤ b := by have := pw_pos k; omega
    omega)
  exact ⟨h.1, by rw [h.1]; exact h.2.1, by rw [h.1]; exact h.2.2⟩
theorem bT_all : (List.range 32).all (fun t => (List.range 5).all fun k => decide ((t : Int) / pw (k : Int) % 2 ≠ 1 → bT ((t : Int) + pw (k : Int)) = bT (t : Int) + 1)) = true := by decide +kernel
theorem bT_add {t k : Int} (ht : 0 ≤ t ∧ t ≤ 31) (h0 : 0 ≤ k) (h1 : k ≤ 4) (hz : t / pw k % 2 ≠ 1) : bT (t + pw k) = bT t + 1 := by
  obtain ⟨t', rfl⟩ : ∃ j : Nat, t = j := ⟨t.toNat, by omega⟩
  obtain ⟨k', rfl⟩ : ∃ j : Nat, k = j := ⟨k.toNat, by omega⟩
  exact of_decide_eq_true (List.all_eq_true.mp (List.all_eq_true.mp bT_all t' (List.mem_range.mpr (by omega))) k' (List.mem_range.mpr (by omega))) hz
theorem bT_5 (t : Int) : bT t ≤ 5 := by
  unfold bT
  omega
/-- a CLAUSE's first word is read -/
def CX (T : Int → Int) (n pp : Int) (i0 : Ig) (kk v : Int) (D : Dg) : Prop := ∃ s, kw T n s = kk ∧ v = nx T n s ∧ Ri T n pp i0 (0, s, 0, 0, D)
/-- a KIND is read, and isn't twice -/
def MP (T : Int → Int) (n pp : Int) (i0 : Ig) (s told w : Int) (D : Dg) : Prop := ∃ sp kp, Ri T n pp i0 (1, sp, kp, w, D) ∧ kdE T n sp = 0 ∧ kp / pw (kdI T n sp) % 2 ≠ 1 ∧ s = nx T n sp ∧ told = kp + pw (kdI T n sp)
/-- days of lies: none yet, or some; k: their bits -/
def LX (T : Int → Int) (n pp : Int) (i0 : Ig) (i s k : Int) (D : Dg) : Prop := (i = 0 ∧ k = 0 ∧ Ri T n pp i0 (2, s, 0, 0, D)) ∨ (i ≠ 0 ∧ ∃ sp kp, Ri T n pp i0 (2, sp, kp, 0, D) ∧ nuE T n sp 0 6 = 0 ∧ s = nx T n sp ∧ k = bor kp (vlI T n sp))
section IX
variable {T : Int → Int} {n pp s w told v p f ro da li wo li2 wo2 ro2 da2 : Int} {ma ma2 : Int → Int} {i0 : Ig} {D : Dg}
theorem CX_may {s2 : Int} (h : CX T n pp i0 6 v D) (hn : naE T n pp v = 0) (e2 : s2 = nx T n v) (e3 : w = T v - 97) : Ri T n pp i0 (1, s2, 0, w, D) := by
  obtain ⟨s, q, e, r⟩ := h
  exact c_may r q e hn e2 e3
theorem CX_mayn (h : CX T n pp i0 6 v D) (hn : naE T n pp v ≠ 0) (e1 : p = v) (e2 : f = naE T n pp v) : Ri T n pp i0 (fI p f) := by
  obtain ⟨s, q, e, r⟩ := h
  exact c_mayn r q e hn e1 e2
theorem CX_lies (h : CX T n pp i0 9 v D) : Ri T n pp i0 (2, v, 0, 0, D) := by
  obtain ⟨s, q, e, r⟩ := h
  exact c_lies r q e
theorem MP_0 (h : Ri T n pp i0 (1, s, 0, w, D)) (q : kdE T n s = 0) (e : v = nx T n s) (e2 : told = pw (kdI T n s)) : MP T n pp i0 v told w D := ⟨s, 0, h, q, by rw [Int.zero_ediv]; decide, e, by rw [e2, Int.zero_add]⟩
theorem MP_n (h : MP T n pp i0 s told w (ro, da, li, wo, ma)) (q : kdE T n s = 0) : Ri T n pp i0 (1, s, told, w, (ro, da, li, wo, ma)) := by
  obtain ⟨sp, kp, r, a, b, e, e2⟩ := h
  exact m_n r a b e q e2
theorem MP_m {told2 : Int} (h : MP T n pp i0 s told w (ro, da, li, wo, ma)) (q : kdE T n s = 0) (hz : told / pw (kdI T n s) % 2 ≠ 1) (e : v = nx T n s) (e2 : told2 = told + pw (kdI T n s)) : MP T n pp i0 v told2 w (ro, da, li, wo, ma) := ⟨s, told, MP_n h q, q, hz, e, e2⟩
theorem MP_e (h : MP T n pp i0 s told w (ro, da, li, wo, ma)) (q : kdE T n s ≠ 0) (e3 : ma2 = updI ma w told) : Ri T n pp i0 (5, s, 0, 0, (ro, da, li, wo, ma2)) := by
  obtain ⟨sp, kp, r, a, b, e, e2⟩ := h
  exact m_e r a b e q e2 e3
theorem LX_0 {i k : Int} (h : Ri T n pp i0 (2, s, 0, 0, D)) (q : i = 0) (q2 : k = 0) : LX T n pp i0 i s k D := Or.inl ⟨q, q2, h⟩
theorem LX_r {i k : Int} (h : LX T n pp i0 i s k (ro, da, li, wo, ma)) (q : i = 0 ∨ tt T n s = 2) : Ri T n pp i0 (2, s, k, 0, (ro, da, li, wo, ma)) := by
  rcases h with ⟨-, e, r⟩ | ⟨a, sp, kp, r, b, e, e2⟩
  · rw [e]
    exact r
  · exact l_m r b e (by omega) e2
theorem LX_n {i i2 k k2 : Int} (h : LX T n pp i0 i s k (ro, da, li, wo, ma)) (q : i = 0 ∨ tt T n s = 2) (hn : nuE T n s 0 6 = 0) (e : v = nx T n s) (q2 : i2 ≠ 0) (e2 : k2 = bor k (vlI T n s)) : LX T n pp i0 i2 v k2 (ro, da, li, wo, ma) := Or.inr ⟨q2, s, k, LX_r h q, hn, e, e2⟩
theorem LX_e {i k : Int} (h : LX T n pp i0 i s k (ro, da, li, wo, ma)) (q : i ≠ 0) (q2 : tt T n s ≠ 2) (e : li2 = 1) (e3 : ma2 = setL ma k) : Ri T n pp i0 (5, s, 0, 0, (ro, da, li2, wo, ma2)) := by
  rcases h with ⟨a, -⟩ | ⟨a, sp, kp, r, b, e2, e4⟩
  · exact absurd a q
  · exact l_e r b e2 q2 e (by rw [e3, e4])
end IX
theorem bT_pw {k : Int} (h0 : 0 ≤ k) (h1 : k ≤ 4) : bT (pw k) = 0 + 1 := by
  have : k = 0 ∨ k = 1 ∨ k = 2 ∨ k = 3 ∨ k = 4 := by omega
  rcases this with rfl | rfl | rfl | rfl | rfl <;> decide
theorem may_end {T : Int → Int} {n pp s w told ro da li wo lv lv2 : Int} {F : List Int} {u : Int → Int} {i0 : Ig} {M M2 : Mm} (h : MP T n pp i0 s told w (ro, da, li, wo, nrF u lv F)) (q : kdE T n s ≠ 0) (hr : nrF (fun k => M 8 k) lv2 F = nrF u lv F) (e : M2 = mUp M 8 w told) (h0 : 0 ≤ w) (h1 : w < 7) : Ri T n pp i0 (5, s, 0, 0, (ro, da, li, wo, nrF (fun k => M2 8 k) lv2 F)) := MP_e h q (by rw [nr_up e h0 h1, hr])
section IY
variable {T : Int → Int} {n pp s v ro da li wo : Int} {ma ma2 : Int → Int} {i0 : Ig}
theorem CX_m2 {kk : Int} (h : Ri T n pp i0 (0, s, 0, 0, (ro, da, li, wo, ma))) (q : kw T n s = kk) (e : v = nx T n s) (em : ma2 = ma) : CX T n pp i0 kk v (ro, da, li, wo, ma2) := by
  rw [em]
  exact ⟨s, q, e, h⟩
end IY
/-- an ISLAND's head: its FAULT, or how many PEOPLE and where the CLAUSES begin -/
def HDf (T : Int → Int) (n s r pl : Int) : Prop := (kw T n s ≠ 5 ∧ r = 1 ∧ pl = s) ∨ (kw T n s = 5 ∧ nuE T n (nx T n s) 0 7 ≠ 0 ∧ r = nuE T n (nx T n s) 0 7 ∧ pl = nx T n s) ∨ (kw T n s = 5 ∧ nuE T n (nx T n s) 0 7 = 0 ∧ sgI T n (nx T n (nx T n s)) 59 ≠ 1 ∧ r = 1 ∧ pl = nx T n (nx T n s))
def HDg (T : Int → Int) (n s pp s2 : Int) : Prop := kw T n s = 5 ∧ nuE T n (nx T n s) 0 7 = 0 ∧ pp = vlI T n (nx T n s) ∧ sgI T n (nx T n (nx T n s)) 59 = 1 ∧ s2 = nx T n (nx T n (nx T n s))
theorem HD_1 {T : Int → Int} {n s r pl : Int} (h : kw T n s ≠ 5 ∧ r = 1 ∧ pl = s) : HDf T n s r pl := Or.inl h
theorem HD_2 {T : Int → Int} {n s s1 r pl : Int} (q : kw T n s = 5) (e : s1 = nx T n s) (h : nuE T n s1 0 7 ≠ 0 ∧ r = nuE T n s1 0 7 ∧ pl = s1) : HDf T n s r pl := by
  subst e
  exact Or.inr (Or.inl ⟨q, h.1, h.2.1, h.2.2⟩)
theorem HD_3 {T : Int → Int} {n s s1 s2 r pl : Int} (q : kw T n s = 5) (e : s1 = nx T n s) (e2 : s2 = nx T n s1) (h : nuE T n s1 0 7 = 0 ∧ sgI T n s2 59 ≠ 1 ∧ r = 1 ∧ pl = s2) : HDf T n s r pl := by
  subst e
  subst e2
  exact Or.inr (Or.inr ⟨q, h.1, h.2.1, h.2.2.1, h.2.2.2⟩)
theorem HD_g {T : Int → Int} {n s s1 s2 s3 pp : Int} (q : kw T n s = 5) (e : s1 = nx T n s) (e2 : s2 = nx T n s1) (h : nuE T n s1 0 7 = 0 ∧ pp = vlI T n s1 ∧ sgI T n s2 59 = 1 ∧ s3 = nx T n s2) : HDg T n s pp s3 := by
  subst e
  subst e2
  exact ⟨q, h.1, h.2.1, h.2.2.1, h.2.2.2⟩
/-- as they are without CLAUSES: one road, any day, no lies, no words, honest or liar -/
def dg1 : Dg := (1, -1, 0, 0, nrF (fun _ => 3) 0 [])
def IOF (T : Int → Int) (n s r pl : Int) : Prop := HDf T n s r pl ∨ ∃ pp s2, HDg T n s pp s2 ∧ Ri T n pp (0, s2, 0, 0, dg1) (fI pl r)
/-- how many WORLDS there are ahead of FACTS -/
def szD (pp : Int) (D : Dg) : Int := D.1 * (if D.2.1 = -1 ∧ D.2.2.1 = 1 then 7 else 1) * (D.2.2.2.1 + 1) * PRD D.2.2.2.2 0 pp.toNat
/-- how an ISLAND's text ends: r its FAULT (0: none), pl where, pp how many PEOPLE there are then -/
def IO (T : Int → Int) (n r pl pp : Int) : Prop := IOF T n (sk T n 0) r pl ∨ ∃ s2 s D, HDg T n (sk T n 0) pp s2 ∧ Ri T n pp (0, s2, 0, 0, dg1) (4, s, 0, 0, D) ∧ ((3000 < szD pp D ∧ r = 6 ∧ pl = s) ∨ (szD pp D ≤ 3000 ∧ r = 0 ∧ pl = -1))
/-- at readIsland's loop -/
def RX (T : Int → Int) (n s0 rd pe pp s : Int) (D : Dg) (fo pl : Int) : Prop := (rd = 1 ∧ pe = pp ∧ ∃ sh, HDg T n s0 pp sh ∧ Ri T n pp (0, sh, 0, 0, dg1) (0, s, 0, 0, D)) ∨ (rd = 0 ∧ IOF T n s0 fo pl)
theorem dg1_mk {ro da li wo lv : Int} {u : Int → Int} {F : List Int} (e1 : ro = 1) (e2 : da = -1) (e3 : li = 0) (e4 : wo = 0) (e5 : ∀ k, u k = 3) (e6 : lv = 0) (e7 : F = []) : ((ro, da, li, wo, nrF u lv F) : Dg) = dg1 := by
  rw [e1, e2, e3, e4, nr_eq (u := u) (v := fun _ => 3) (fun k _ _ => e5 k) e6 e7]
  rfl
section RXs
variable {T : Int → Int} {n s0 v z pe pp s fo pl rd : Int} {D : Dg}
theorem RX_i (h : (z = 1 ∧ HDg T n v pp s ∧ pe = pp) ∨ (z = 0 ∧ HDf T n v fo pl)) (hs : v = s0) (hD : D = dg1) : RX T n s0 z pe pp s D fo pl := by
  subst hs
  rw [hD]
  rcases h with ⟨a, b, e⟩ | ⟨a, b⟩
  · exact Or.inl ⟨a, e, s, b, Ri.rf _⟩
  · exact Or.inr ⟨a, Or.inl b⟩
theorem RX_1 (h : RX T n s0 rd pe pp s D fo pl) (q : rd = 1) : ∃ sh, HDg T n s0 pp sh ∧ Ri T n pp (0, sh, 0, 0, dg1) (0, s, 0, 0, D) := by
  rcases h with ⟨-, -, r⟩ | ⟨e, -⟩
  · exact r
  · omega
theorem RX_p (h : RX T n s0 rd pe pp s D fo pl) (q : rd = 1) : pe = pp := by
  rcases h with ⟨-, e, -⟩ | ⟨e, -⟩
  · exact e
  · omega
theorem RX_0 (h : RX T n s0 rd pe pp s D fo pl) (q : rd = 0) : IOF T n s0 fo pl := by
  rcases h with ⟨e, -⟩ | ⟨-, r⟩
  · omega
  · exact r
theorem RX_g {sh : Int} (hg : HDg T n s0 pp sh) (h : Ri T n pp (0, sh, 0, 0, dg1) (0, s, 0, 0, D)) (q : rd = 1) (q2 : pe = pp) : RX T n s0 rd pe pp s D fo pl := Or.inl ⟨q, q2, sh, hg, h⟩
theorem RX_b {sh : Int} (hg : HDg T n s0 pp sh) (h : Ri T n pp (0, sh, 0, 0, dg1) (fI pl fo)) (q : rd = 0) : RX T n s0 rd pe pp s D fo pl := Or.inr ⟨q, Or.inr ⟨pp, sh, hg, h⟩⟩
theorem IO_f {r : Int} (h : IOF T n (sk T n 0) fo pl) (e : r = fo) : IO T n r pl pp := by
  rw [e]
  exact Or.inl h
theorem IO_e {r : Int} (h : RX T n (sk T n 0) rd pe pp s D fo pl) (q : rd = 1) (ht : tt T n s = 0) {pl2 : Int} (hc : (3000 < szD pp D ∧ r = 6 ∧ pl2 = s) ∨ (szD pp D ≤ 3000 ∧ r = 0 ∧ pl2 = -1)) : IO T n r pl2 pp := by
  obtain ⟨sh, hg, hr⟩ := RX_1 h q
  exact Or.inr ⟨sh, s, D, hg, c_end hr ht, hc⟩
end RXs
theorem HDg_one {T : Int → Int} {n s pp s2 pp' s2' : Int} (h1 : HDg T n s pp s2) (h2 : HDg T n s pp' s2') : pp = pp' ∧ s2 = s2' := ⟨h1.2.2.1.trans h2.2.2.1.symm, h1.2.2.2.2.trans h2.2.2.2.2.symm⟩
theorem HD_no {T : Int → Int} {n s pp s2 r pl : Int} (h1 : HDg T n s pp s2) (h2 : HDf T n s r pl) : False := by
  rcases h2 with h2 | h2 | h2
  · exact h2.1 h1.1
  · exact h2.2.1 h1.2.1
  · exact h2.2.2.1 h1.2.2.2.1
theorem IO_one {T : Int → Int} {n r pl pp r2 pl2 pp2 : Int} (h1 : IO T n r pl pp) (h2 : IO T n r2 pl2 pp2) : r = r2 ∧ pl = pl2 := by
  have key : ∀ {r pl r2 pl2 : Int}, IOF T n (sk T n 0) r pl → IOF T n (sk T n 0) r2 pl2 → r = r2 ∧ pl = pl2 := by
    intro r pl r2 pl2 a b
    rcases a with a | ⟨p1, q1, g1, a⟩
    · rcases b with b | ⟨p2, q2, g2, b⟩
      · unfold HDf at a b
        omega
      · exact (HD_no g2 a).elim
    · rcases b with b | ⟨p2, q2, g2, b⟩
      · exact (HD_no g1 b).elim
      · obtain ⟨e1, e2⟩ := HDg_one g1 g2
        subst e1
        subst e2
        have e := a.one b (Or.inl rfl) (Or.inl rfl)
        exact ⟨congrArg (fun c : Ig => c.2.2.1) e, congrArg (fun c : Ig => c.2.1) e⟩
  have key2 : ∀ {r pl : Int}, IOF T n (sk T n 0) r pl → ∀ {p s2 s : Int} {D : Dg}, HDg T n (sk T n 0) p s2 → Ri T n p (0, s2, 0, 0, dg1) (4, s, 0, 0, D) → False := by
    intro r pl a p s2 s D g b
    rcases a with a | ⟨p1, q1, g1, a⟩
    · exact HD_no g a
    · obtain ⟨e1, e2⟩ := HDg_one g1 g
      subst e1
      subst e2
      have e := a.one b (Or.inl rfl) (Or.inr rfl)
      have e1 : (3 : Int) = 4 := congrArg (fun c : Ig => c.1) e
      omega
  rcases h1 with h1 | ⟨s2, s, D, g1, a1, b1⟩
  · rcases h2 with h2 | ⟨t2, t, E, g2, a2, b2⟩
    · obtain ⟨e1, e2⟩ := key h1 h2
      exact ⟨e1, e2⟩
    · exact (key2 h1 g2 a2).elim
  · rcases h2 with h2 | ⟨t2, t, E, g2, a2, b2⟩
    · exact (key2 h2 g1 a1).elim
    · obtain ⟨e1, e2⟩ := HDg_one g1 g2
      subst e1
      subst e2
      have e := a1.one a2 (Or.inr rfl) (Or.inr rfl)
      have e1 : s = t := congrArg (fun c : Ig => c.2.1) e
      have e2 : D = E := congrArg (fun c : Ig => c.2.2.2.2) e
      subst e1
      subst e2
      exact ⟨by omega, by omega⟩
theorem bc_all : (List.range 32).all (fun t => decide (bcF_g (t : Int) + (t : Int) / 4 % 2 = cT (t : Int))) = true := by decide +kernel
theorem bc_cT {m : Int} (h : 0 ≤ m ∧ m ≤ 31) : bcF m + m / 4 % 2 = cT m := by
  obtain ⟨t, rfl⟩ : ∃ j : Nat, m = j := ⟨m.toNat, by omega⟩
  rw [bcF_eq]
  exact of_decide_eq_true (List.all_eq_true.mp bc_all t (List.mem_range.mpr (by omega)))
theorem sz_cls {M : Mm} {lv : Int} {F : List Int} (hb : ∀ k : Int, 0 ≤ k → k < 7 → 0 ≤ M 8 k ∧ M 8 k ≤ 31) (h1 : 0 ≤ M 7 1 ∧ M 7 1 ≤ 7) (h5 : 0 ≤ M 7 5 ∧ M 7 5 ≤ 1) (h6 : 0 ≤ M 7 6 ∧ M 7 6 ≤ 1) : SZk M 7 8 = szD (M 7 1) (M 7 2, M 7 3, M 7 5, M 7 6, nrF (fun k => M 8 k) lv F) := by
  have hp : ∀ m : Nat, m ≤ 7 → PS (fun k => M 8 k) m = PRD (nrF (fun k => M 8 k) lv F) 0 m := by
    intro m
    induction m with
    | zero => intro _; rfl
    | succ m ih =>
      intro h
      show PS (fun k => M 8 k) m * (bcF (M 8 m) + M 8 m / 4 % 2) = PRD (nrF (fun k => M 8 k) lv F) 0 m * cT (nrF (fun k => M 8 k) lv F (0 + m))
      rw [ih (by omega)]
      have e : nrF (fun k => M 8 k) lv F (0 + m) = M 8 m := by
        unfold nrF
        rw [if_pos (by omega), show (0 : Int) + m = m by omega]
      rw [e, bc_cT (hb m (by omega) (by omega))]
  unfold SZk szD
  rw [hp _ (by omega)]
  have e : Rf M 7 = M 7 2 * (if M 7 3 = -1 ∧ M 7 5 = 1 then 7 else 1) * (M 7 6 + 1) := by
    unfold Rf lD lW eD
    have e6 : (if M 7 6 ≠ 0 then (1 : Int) else 0) = M 7 6 := by
      split <;> omega
    rw [e6]
    have e5 : (if M 7 3 = -1 ∧ M 7 5 ≠ 0 then (6 : Int) else if M 7 3 = -1 then 0 else M 7 3) - (if M 7 3 = -1 then 0 else M 7 3) + 1 = (if M 7 3 = -1 ∧ M 7 5 = 1 then 7 else 1) := by
      by_cases a : M 7 3 = -1
      · by_cases b : M 7 5 = 1
        · rw [if_pos ⟨a, by omega⟩, if_pos a, if_pos ⟨a, b⟩]; decide
        · rw [if_neg (by omega), if_pos a, if_neg (by omega)]; decide
      · rw [if_neg (by omega), if_neg a, if_neg (by omega)]; omega
    rw [e5]
  rw [e]
theorem HDf_nz {T : Int → Int} {n s r pl : Int} (h : HDf T n s r pl) : r ≠ 0 := by
  unfold HDf at h
  omega
def Pj (c : Ig) : Prop := c.1 = 3 → c.2.2.1 ≠ 0
theorem Pj_ite {q : Prop} [Decidable q] {a b : Ig} (ha : q → Pj a) (hb : ¬ q → Pj b) : Pj (if q then a else b) := by
  by_cases h : q
  · rw [if_pos h]; exact ha h
  · rw [if_neg h]; exact hb h
theorem Pj_o {a b c d : Int} {D : Dg} (h : a ≠ 3) : Pj (a, b, c, d, D) := fun e => absurd e h
theorem Pj_f {p f : Int} (h : f ≠ 0) : Pj (fI p f) := fun _ => h
theorem iC_nz (T : Int → Int) (n pp s : Int) (D : Dg) : Pj (iC T n pp s D) := by
  unfold iC
  refine Pj_ite (fun _ => Pj_o (by decide)) (fun _ => Pj_ite (fun _ => Pj_ite (fun _ => Pj_o (by decide)) (fun q => Pj_f q)) (fun _ => Pj_ite (fun _ => Pj_o (by decide)) (fun _ => Pj_ite (fun _ => Pj_ite (fun _ => Pj_o (by decide)) (fun q => Pj_f (rn_nz q))) (fun _ => Pj_ite (fun _ => Pj_o (by decide)) (fun _ => Pj_ite (fun _ => Pj_ite (fun _ => Pj_o (by decide)) (fun q => Pj_f q)) (fun _ => Pj_ite (fun _ => Pj_ite (fun _ => Pj_o (by decide)) (fun q => Pj_f q)) (fun _ => Pj_f (by decide))))))))
theorem iM_nz (T : Int → Int) (n s k w : Int) (D : Dg) : Pj (iM T n s k w D) := by
  unfold iM
  exact Pj_ite (fun q => Pj_f q) (fun _ => Pj_ite (fun _ => Pj_f (by decide)) (fun _ => Pj_ite (fun _ => Pj_o (by decide)) (fun _ => Pj_o (by decide))))
theorem iL_nz (T : Int → Int) (n s k : Int) (D : Dg) : Pj (iL T n s k D) := by
  unfold iL
  exact Pj_ite (fun q => Pj_f q) (fun _ => Pj_ite (fun _ => Pj_o (by decide)) (fun _ => Pj_o (by decide)))
theorem iS_nz (T : Int → Int) (n s : Int) (D : Dg) : Pj (iS T n s D) := by
  unfold iS
  exact Pj_ite (fun _ => Pj_o (by decide)) (fun _ => Pj_f (by decide))
theorem sI_nz (T : Int → Int) (n pp : Int) (c : Ig) (h : ¬ hI c) : Pj (sI T n pp c) := by
  unfold sI
  exact Pj_ite (fun _ => iC_nz _ _ _ _ _) (fun _ => Pj_ite (fun _ => iM_nz _ _ _ _ _ _) (fun _ => Pj_ite (fun _ => iL_nz _ _ _ _ _) (fun _ => Pj_ite (fun _ => iS_nz _ _ _ _) (fun _ e => absurd (Or.inl e) h))))
theorem Ri.nz {T : Int → Int} {n pp : Int} {c c2 : Ig} (h : Ri T n pp c c2) (hc : c.1 ≠ 3) : Pj c2 := by
  obtain ⟨k, e, hk⟩ := h
  cases k with
  | zero =>
    have e' : c = c2 := e
    rw [← e']
    exact fun q => absurd q hc
  | succ k =>
    have e' : sI T n pp (iti (sI T n pp) k c) = c2 := e
    rw [← e']
    exact sI_nz _ _ _ _ (hk k (by omega))
theorem IOF_nz {T : Int → Int} {n s r pl : Int} (h : IOF T n s r pl) : r ≠ 0 := by
  rcases h with h | ⟨pp, s2, -, h⟩
  · exact HDf_nz h
  · exact h.nz (show (0 : Int) ≠ 3 by decide) rfl
/-- with no FAULT there are as many PEOPLE as its head tells -/
theorem IO_pp {T : Int → Int} {n r pl pp r2 pl2 pp2 : Int} (h1 : IO T n r pl pp) (h2 : IO T n r2 pl2 pp2) (q : r = 0) (q2 : r2 = 0) : pp = pp2 := by
  rcases h1 with h1 | ⟨s2, s, D, g1, -, -⟩
  · exact absurd q (IOF_nz h1)
  · rcases h2 with h2 | ⟨t2, t, E, g2, -, -⟩
    · exact absurd q2 (IOF_nz h2)
    · exact (HDg_one g1 g2).1
/-- what an ISLAND tells -/
def ISD (T : Int → Int) (n pp : Int) (D : Dg) : Prop := ∃ s2 s, HDg T n (sk T n 0) pp s2 ∧ Ri T n pp (0, s2, 0, 0, dg1) (4, s, 0, 0, D)
theorem ISD_one {T : Int → Int} {n pp pp2 : Int} {D D2 : Dg} (h1 : ISD T n pp D) (h2 : ISD T n pp2 D2) : pp = pp2 ∧ D = D2 := by
  obtain ⟨s2, s, g1, a1⟩ := h1
  obtain ⟨t2, t, g2, a2⟩ := h2
  obtain ⟨e1, e2⟩ := HDg_one g1 g2
  subst e1
  subst e2
  exact ⟨rfl, congrArg (fun c : Ig => c.2.2.2.2) (a1.one a2 (Or.inr rfl) (Or.inr rfl))⟩
theorem ISD_mk {T : Int → Int} {n s0 pp s2 s rd pe fo pl : Int} {D : Dg} (h : RX T n s0 rd pe pp s D fo pl) (q : rd = 1) (hs : s0 = sk T n 0) (ht : tt T n s = 0) : ISD T n pp D := by
  obtain ⟨sh, hg, hr⟩ := RX_1 h q
  subst hs
  exact ⟨sh, s, hg, c_end hr ht⟩

/-! ===== the model's CLAUSES ===== -/
def ltI (x : Int) : Int := if x = 0 then 0 else 1
theorem ltI_1 {x : Int} (h : x ≠ 0) : ltI x = 1 := if_neg h
theorem ltI_0 {x : Int} (h : x = 0) : ltI x = 0 := if_pos h
def RH (T : Int → Int) (n pp : Int) (i0 : Ig) (ph s : Int) (D : Dg) (fk fp : Int) : Prop := (fk = 0 ∧ Ri T n pp i0 (ph, s, 0, 0, D)) ∨ (fk ≠ 0 ∧ Ri T n pp i0 (fI fp fk))
def MYI (T : Int → Int) (n pp : Int) (i0 : Ig) (more s set a : Int) (D : Dg) (fk fp : Int) : Prop := (more = 1 ∧ fk = 0 ∧ Ri T n pp i0 (1, s, set, a, D)) ∨ (more = 0 ∧ fk = 0 ∧ MP T n pp i0 s set a D ∧ kdE T n s ≠ 0) ∨ (more = 0 ∧ fk ≠ 0 ∧ Ri T n pp i0 (fI fp fk))
def LYI (T : Int → Int) (n pp : Int) (i0 : Ig) (s k : Int) (D : Dg) (fk fp : Int) : Prop := (fk = 0 ∧ LX T n pp i0 1 s k D) ∨ (fk ≠ 0 ∧ Ri T n pp i0 (fI fp fk))
section JS
variable {T : Int → Int} {n pp s v ph ro da li wo fk fp fk2 fp2 s2 more more2 set a set2 k : Int} {ma ma2 : Int → Int} {i0 : Ig} {D : Dg}
theorem RH_g (h : RH T n pp i0 ph s D fk fp) (q : fk = 0) : Ri T n pp i0 (ph, s, 0, 0, D) := by
  rcases h with ⟨-, r⟩ | ⟨e, -⟩
  · exact r
  · exact absurd q e
theorem RH_b (h : RH T n pp i0 ph s D fk fp) (q : fk ≠ 0) : Ri T n pp i0 (fI fp fk) := by
  rcases h with ⟨e, -⟩ | ⟨-, r⟩
  · exact absurd e q
  · exact r
theorem RH_mg (h : Ri T n pp i0 (ph, s, 0, 0, D)) (q : fk = 0) : RH T n pp i0 ph s D fk fp := Or.inl ⟨q, h⟩
theorem RH_mb (h : Ri T n pp i0 (fI fp fk)) (q : fk ≠ 0) : RH T n pp i0 ph s D fk fp := Or.inr ⟨q, h⟩
theorem MYI_i (h : CX T n pp i0 6 v D) (hc : (naE T n pp v = 0 ∧ fk = 0 ∧ s = nx T n v ∧ a = T v - 97 ∧ more = 1) ∨ (naE T n pp v ≠ 0 ∧ fk = naE T n pp v ∧ fp = v ∧ more = 0)) (e : set = 0) : MYI T n pp i0 more s set a D fk fp := by
  rcases hc with ⟨q, b, c, d, m⟩ | ⟨q, b, c, m⟩
  · rw [e]
    exact Or.inl ⟨m, b, CX_may h q c d⟩
  · exact Or.inr (Or.inr ⟨m, by omega, CX_mayn h q c b⟩)
theorem MYI_1 (h : MYI T n pp i0 more s set a D fk fp) (q : more = 1) : Ri T n pp i0 (1, s, set, a, D) := by
  rcases h with ⟨-, -, r⟩ | ⟨e, -⟩ | ⟨e, -⟩
  · exact r
  all_goals omega
theorem MYI_g (h : MYI T n pp i0 more s set a D fk fp) (q : more = 0) (q2 : fk = 0) : MP T n pp i0 s set a D ∧ kdE T n s ≠ 0 := by
  rcases h with ⟨e, -⟩ | ⟨-, -, r⟩ | ⟨-, e, -⟩
  · omega
  · exact r
  · omega
theorem MYI_b (h : MYI T n pp i0 more s set a D fk fp) (q2 : fk ≠ 0) : Ri T n pp i0 (fI fp fk) := by
  rcases h with ⟨-, e, -⟩ | ⟨-, e, -⟩ | ⟨-, -, r⟩
  · exact absurd e q2
  · exact absurd e q2
  · exact r
theorem MYI_n (h : MYI T n pp i0 more s set a (ro, da, li, wo, ma) fk fp) (q : more = 1)
    (hc : (kdE T n s ≠ 0 ∧ fk2 = kdE T n s ∧ fp2 = s ∧ more2 = 0) ∨ (kdE T n s = 0 ∧ k = kdI T n s ∧ set / pw k % 2 = 1 ∧ fk2 = 5 ∧ fp2 = s ∧ more2 = 0) ∨ (kdE T n s = 0 ∧ k = kdI T n s ∧ set / pw k % 2 ≠ 1 ∧ fk2 = 0 ∧ s2 = nx T n s ∧ set2 = set + pw k ∧ ((kdE T n s2 = 0 ∧ more2 = 1) ∨ (kdE T n s2 ≠ 0 ∧ more2 = 0)))) : MYI T n pp i0 more2 s2 set2 a (ro, da, li, wo, ma) fk2 fp2 := by
  have r := MYI_1 h q
  rcases hc with ⟨a1, a2, a3, a4⟩ | ⟨a1, a2, a3, a4, a5, a6⟩ | ⟨a1, a2, a3, a4, a5, a6, a7⟩
  · exact Or.inr (Or.inr ⟨a4, by omega, m_k r a1 a3 a2⟩)
  · rw [a2] at a3
    exact Or.inr (Or.inr ⟨a6, by omega, m_5 r a1 a3 a5 a4⟩)
  · rw [a2] at a3 a6
    rcases a7 with ⟨b1, b2⟩ | ⟨b1, b2⟩
    · exact Or.inl ⟨b2, a4, m_n r a1 a3 a5 b1 a6⟩
    · exact Or.inr (Or.inl ⟨b2, a4, ⟨s, set, r, a1, a3, a5, a6⟩, b1⟩)
theorem LYI_i {kb : Int} (h : CX T n pp i0 9 v (ro, da, li, wo, ma)) (hc : (nuE T n v 0 6 = 0 ∧ fk = 0 ∧ s = nx T n v ∧ kb = bor 0 (vlI T n v)) ∨ (nuE T n v 0 6 ≠ 0 ∧ fk = nuE T n v 0 6 ∧ fp = v)) : LYI T n pp i0 s kb (ro, da, li, wo, ma) fk fp := by
  have r := CX_lies h
  rcases hc with ⟨a1, a2, a3, a4⟩ | ⟨a1, a2, a3⟩
  · exact Or.inl ⟨a2, Or.inr ⟨by decide, v, 0, r, a1, a3, a4⟩⟩
  · exact Or.inr ⟨by omega, l_n r a1 a3 a2⟩
theorem LYI_n {kb kb2 : Int} (h : LYI T n pp i0 s kb (ro, da, li, wo, ma) fk fp) (q : fk = 0) (ht : tt T n s = 2) (hc : (nuE T n s 0 6 = 0 ∧ fk2 = 0 ∧ s2 = nx T n s ∧ kb2 = bor kb (vlI T n s)) ∨ (nuE T n s 0 6 ≠ 0 ∧ fk2 = nuE T n s 0 6 ∧ fp2 = s)) : LYI T n pp i0 s2 kb2 (ro, da, li, wo, ma) fk2 fp2 := by
  rcases h with ⟨-, r⟩ | ⟨e, -⟩
  · have r2 := LX_r r (Or.inr ht)
    rcases hc with ⟨a1, a2, a3, a4⟩ | ⟨a1, a2, a3⟩
    · exact Or.inl ⟨a2, Or.inr ⟨by decide, s, kb, r2, a1, a3, a4⟩⟩
    · exact Or.inr ⟨by omega, l_n r2 a1 a3 a2⟩
  · exact absurd q e
theorem LYI_e {li2 kb : Int} (h : LYI T n pp i0 s kb (ro, da, li, wo, ma) fk fp) (hc : fk ≠ 0 ∨ (tt T n s ≠ 2 ∧ li2 = 1 ∧ ma2 = setL ma kb)) : RH T n pp i0 5 s (ro, da, li2, wo, ma2) fk fp := by
  rcases h with ⟨a1, r⟩ | ⟨e, r⟩
  · rcases hc with c | ⟨c1, c2, c3⟩
    · exact absurd a1 c
    · exact RH_mg (LX_e r (by decide) c1 c2 c3) a1
  · exact RH_mb r e
/-- behind a CLAUSE ';' -/
theorem RH_s (h : RH T n pp i0 5 s (ro, da, li, wo, ma) fk fp) (hc : (fk ≠ 0 ∧ fk2 = fk ∧ fp2 = fp) ∨ (fk = 0 ∧ sgI T n s 59 = 1 ∧ fk2 = 0 ∧ s2 = nx T n s) ∨ (fk = 0 ∧ sgI T n s 59 ≠ 1 ∧ fk2 = 1 ∧ fp2 = s)) : RH T n pp i0 0 s2 (ro, da, li, wo, ma) fk2 fp2 := by
  rcases hc with ⟨a1, a2, a3⟩ | ⟨a1, a2, a3, a4⟩ | ⟨a1, a2, a3, a4⟩
  · rw [a2, a3]
    exact RH_mb (RH_b h a1) a1
  · exact RH_mg (s_y (RH_g h a1) a2 a4) a3
  · exact RH_mb (s_n (RH_g h a1) a2 a4 a3) (by omega)
theorem RH_c {ro2 da2 li2 wo2 : Int} (h : RH T n pp i0 ph s (ro, da, li, wo, ma) fk fp) (e1 : s2 = s) (e2 : ro2 = ro) (e3 : da2 = da) (e4 : li2 = li) (e5 : wo2 = wo) (e6 : ma2 = ma) (e7 : fk2 = fk) (e8 : fp2 = fp) : RH T n pp i0 ph s2 (ro2, da2, li2, wo2, ma2) fk2 fp2 := by
  rw [e1, e2, e3, e4, e5, e6, e7, e8]
  exact h
/-- of the CLAUSES with one NUMBER, with none, with an EXPR -/
theorem q_roads {ro2 : Int} (h : Ri T n pp i0 (0, v, 0, 0, (ro, da, li, wo, ma))) (q : kw T n v = 7) {s1 : Int} (e : s1 = nx T n v) (hc : (nuE T n s1 1 4 = 0 ∧ fk = 0 ∧ s = nx T n s1 ∧ ro2 = vlI T n s1) ∨ (nuE T n s1 1 4 ≠ 0 ∧ fk = nuE T n s1 1 4 ∧ fp = s1)) : RH T n pp i0 5 s (ro2, da, li, wo, ma) fk fp := by
  rcases hc with ⟨a1, a2, a3, a4⟩ | ⟨a1, a2, a3⟩
  · exact RH_mg (c_roads h q e a1 a3 a4) a2
  · exact RH_mb (c_roadsn h q e a1 a3 a2) (by omega)
theorem q_day {da2 : Int} (h : Ri T n pp i0 (0, v, 0, 0, (ro, da, li, wo, ma))) (q : kw T n v = 8) {s1 : Int} (e : s1 = nx T n v) (hc : (nuE T n s1 0 6 = 0 ∧ fk = 0 ∧ s = nx T n s1 ∧ da2 = vlI T n s1) ∨ (nuE T n s1 0 6 ≠ 0 ∧ fk = nuE T n s1 0 6 ∧ fp = s1)) : RH T n pp i0 5 s (ro, da2, li, wo, ma) fk fp := by
  rcases hc with ⟨a1, a2, a3, a4⟩ | ⟨a1, a2, a3⟩
  · exact RH_mg (c_day h q e a1 a3 a4) a2
  · exact RH_mb (c_dayn h q e a1 a3 a2) (by omega)
theorem q_fact {s1 : Int} (h : Ri T n pp i0 (0, v, 0, 0, (ro, da, li, wo, ma))) (q : kw T n v = 11) (e : s1 = nx T n v) (r : RG T n pp (0, 0, s1, 0) 4 0 s 0 fk fp) (e3 : fk = 0 → ma2 = addM ma s1) : RH T n pp i0 5 s (ro, da, li, wo, ma2) fk fp := by
  by_cases q2 : fk = 0
  · exact RH_mg (c_fact h q e (RG_g r q2) (e3 q2)) q2
  · exact RH_mb (c_factn h q e (RG_b r q2)) q2
end JS
theorem may_er {T : Int → Int} {n pp s w told ro da li wo a lv lv2 : Int} {F : List Int} {u : Int → Int} {i0 : Ig} {M M2 : Mm} (h : MP T n pp i0 s told w (ro, da, li, wo, nrF u lv F)) (q : kdE T n s ≠ 0) (hr : nrF (fun k => M a k) lv2 F = nrF u lv F) (e : M2 = mUp M a w told) (h0 : 0 ≤ w) (h1 : w < 7) : Ri T n pp i0 (5, s, 0, 0, (ro, da, li, wo, nrF (fun k => M2 a k) lv2 F)) := MP_e h q (by rw [nr_up e h0 h1, hr])
theorem RH_cl {T : Int → Int} {n pp ph s ro da wo fk fp x : Int} {ma : Int → Int} {i0 : Ig} (h : RH T n pp i0 ph s (ro, da, 1, wo, ma) fk fp) (q : fk ≠ 0 ∨ x ≠ 0) : RH T n pp i0 ph s (ro, da, ltI x, wo, ma) fk fp := by
  by_cases e : fk = 0
  · rw [ltI_1 (by omega)]
    exact h
  · exact RH_mb (RH_b h e) e
/-- the number of WORLDS, up to 3001 -/
def SZJ (u : Int → Int) (R v p : Int) : Prop := (v ≤ 3000 ∧ v = R * PRD u 0 p.toNat) ∨ (v = 3001 ∧ 3000 < R * PRD u 0 p.toNat)
theorem SZJ_st {u : Int → Int} {R v p b w r z : Int} (h : SZJ u R v p) (h0 : 0 ≤ v) (hp : 0 ≤ p) (hu : u p = b) (hb : 1 ≤ b ∧ b ≤ 31) (hw : w = bT b + b / 4 % 2) (hr : r = v * w) (hz : (r ≤ 3000 ∧ z = r) ∨ (3000 < r ∧ z = 3001)) : SZJ u R z (p + 1) := by
  have hc : w = cT b := by
    unfold cT
    unfold bT at hw
    omega
  have hc1 := cT_pos hb
  rw [← hc] at hc1
  have e : PRD u 0 (p + 1).toNat = PRD u 0 p.toNat * w := by
    rw [show (p + 1).toNat = p.toNat + 1 by omega]
    show PRD u 0 p.toNat * cT (u (0 + (p.toNat : Int))) = _
    rw [show (0 : Int) + (p.toNat : Int) = p by omega, hu, hc]
  unfold SZJ
  rw [e, ← Int.mul_assoc]
  rcases h with ⟨h1, h2⟩ | ⟨h1, h2⟩
  · rw [← h2, ← hr]
    omega
  · have h3 : R * PRD u 0 p.toNat * 1 ≤ R * PRD u 0 p.toNat * w := Int.mul_le_mul_of_nonneg_left hc1 (by omega)
    have h4 : v * 1 ≤ v * w := Int.mul_le_mul_of_nonneg_left hc1 h0
    rw [← hr] at h4
    omega
theorem PRD_nr (u : Int → Int) (lv : Int) (F : List Int) : ∀ m : Nat, m ≤ 7 → PRD (nrF u lv F) 0 m = PRD u 0 m := by
  intro m
  induction m with
  | zero => intro _; rfl
  | succ m ih =>
    intro h
    show PRD (nrF u lv F) 0 m * cT (nrF u lv F (0 + m)) = PRD u 0 m * cT (u (0 + m))
    rw [ih (by omega)]
    have e : nrF u lv F (0 + m) = u (0 + m) := by
      unfold nrF
      rw [if_pos (by omega)]
    rw [e]
/-! ===== the model's ISLAND ===== -/
theorem dg1_m2 {ro da li wo lv : Int} {u : Int → Int} {F : List Int} (e1 : ro = 1) (e2 : da = -1) (e3 : li = 0) (e4 : wo = 0) (e5 : ∀ k, 0 ≤ k → k < 7 → u k = 3) (e6 : lv = 0) (e7 : F = []) : ((ro, da, li, wo, nrF u lv F) : Dg) = dg1 := by
  rw [e1, e2, e3, e4, nr_eq (u := u) (v := fun _ => 3) e5 e6 e7]
  rfl
def RY (T : Int → Int) (n s0 pp s : Int) (D : Dg) (fk fp : Int) : Prop := (fk = 0 ∧ ∃ sh, HDg T n s0 pp sh ∧ Ri T n pp (0, sh, 0, 0, dg1) (0, s, 0, 0, D)) ∨ (fk ≠ 0 ∧ IOF T n s0 fk fp)
section RYs
variable {T : Int → Int} {n s0 pp s fk fp sh : Int} {D : Dg}
theorem RY_i (hD : D = dg1) (hc : (fk = 0 ∧ HDg T n s0 pp s) ∨ (fk ≠ 0 ∧ HDf T n s0 fk fp)) : RY T n s0 pp s D fk fp := by
  rw [hD]
  rcases hc with ⟨a, b⟩ | ⟨a, b⟩
  · exact Or.inl ⟨a, s, b, Ri.rf _⟩
  · exact Or.inr ⟨a, Or.inl b⟩
theorem RY_1 (h : RY T n s0 pp s D fk fp) (q : fk = 0) : ∃ sh, HDg T n s0 pp sh ∧ Ri T n pp (0, sh, 0, 0, dg1) (0, s, 0, 0, D) := by
  rcases h with ⟨-, r⟩ | ⟨e, -⟩
  · exact r
  · exact absurd q e
theorem RY_n (hg : HDg T n s0 pp sh) (h : RH T n pp (0, sh, 0, 0, dg1) 0 s D fk fp) : RY T n s0 pp s D fk fp := by
  by_cases e : fk = 0
  · exact Or.inl ⟨e, sh, hg, RH_g h e⟩
  · exact Or.inr ⟨e, Or.inr ⟨pp, sh, hg, RH_b h e⟩⟩
theorem RY_b (h : RY T n (sk T n 0) pp s D fk fp) (q : fk ≠ 0) {r pl : Int} (e1 : r = fk) (e2 : pl = fp) : IO T n r pl pp := by
  rcases h with ⟨e, -⟩ | ⟨-, r⟩
  · exact absurd e q
  · rw [e1, e2]
    exact Or.inl r
theorem RY_e (h : RY T n (sk T n 0) pp s D fk fp) (q : fk = 0) (ht : tt T n s = 0) {r pl : Int} (hc : (3000 < szD pp D ∧ r = 6 ∧ pl = s) ∨ (szD pp D ≤ 3000 ∧ r = 0 ∧ pl = -1)) : IO T n r pl pp := by
  obtain ⟨sh, hg, hr⟩ := RY_1 h q
  exact Or.inr ⟨sh, s, D, hg, c_end hr ht, hc⟩
end RYs
theorem HD_gm {T : Int → Int} {n s s1 s2 s3 pp : Int} (q : kw T n s = 5) (e : s1 = nx T n s) (e2 : s2 = nx T n s1) (h : nuE T n s1 0 7 = 0) (h2 : pp = vlI T n s1) (h3 : sgI T n s2 59 = 1) (h4 : s3 = nx T n s2) : HDg T n s pp s3 := HD_g q e e2 ⟨h, h2, h3, h4⟩
/-- what a call of island(p1) answers: tp bytes on the tape, pe PEOPLE, cnt SENTENCES, qn QUESTIONS, fp the place of the latest FAULT -/
def INR (T : Int → Int) (p1 tp pe cnt qn fp thr z pe2 cnt2 qn2 fp2 : Int) : Prop := ((p1 < 0 ∨ tp < p1) ∧ thr = 1 ∧ pe2 = pe ∧ cnt2 = cnt ∧ qn2 = qn ∧ fp2 = fp) ∨ (0 ≤ p1 ∧ p1 ≤ tp ∧ thr = 0 ∧ ∃ pp, IO T p1 z fp2 pp ∧ ((z = 0 ∧ pe2 = pp ∧ cnt2 = 0 ∧ qn2 = 0) ∨ (z ≠ 0 ∧ pe2 = pe ∧ cnt2 = cnt ∧ qn2 = qn)))
theorem INR_one {T : Int → Int} {p1 tp pe cnt qn fp thr z pe2 cnt2 qn2 fp2 thr' z' pe2' cnt2' qn2' fp2' : Int} (h1 : INR T p1 tp pe cnt qn fp thr z pe2 cnt2 qn2 fp2) (h2 : INR T p1 tp pe cnt qn fp thr' z' pe2' cnt2' qn2' fp2') : thr = thr' ∧ pe2 = pe2' ∧ cnt2 = cnt2' ∧ qn2 = qn2' ∧ fp2 = fp2' ∧ (thr = 0 → z = z') := by
  rcases h1 with ⟨a1, a2, a3, a4, a5, a6⟩ | ⟨a1, a2, a3, pp, a4, a5⟩
  · rcases h2 with ⟨b1, b2, b3, b4, b5, b6⟩ | ⟨b1, b2, b3, pp', b4, b5⟩
    · omega
    · omega
  · rcases h2 with ⟨b1, b2, b3, b4, b5, b6⟩ | ⟨b1, b2, b3, pp', b4, b5⟩
    · omega
    · have e := IO_one a4 b4
      by_cases q : z = 0
      · have e2 := IO_pp a4 b4 q (by omega)
        omega
      · omega
theorem INR_t {T : Int → Int} {p1 tp pe cnt qn fp thr z pe2 cnt2 qn2 fp2 : Int} (h : (p1 < 0 ∨ tp < p1) ∧ thr = 1 ∧ pe2 = pe ∧ cnt2 = cnt ∧ qn2 = qn ∧ fp2 = fp) : INR T p1 tp pe cnt qn fp thr z pe2 cnt2 qn2 fp2 := Or.inl h
theorem INR_r {T : Int → Int} {p1 tp pe cnt qn fp thr z pe2 cnt2 qn2 fp2 pp : Int} (hs : IO T p1 z fp2 pp) (h1 : 0 ≤ p1) (h2 : p1 ≤ tp) (h3 : thr = 0) (h : (z = 0 ∧ pe2 = pp ∧ cnt2 = 0 ∧ qn2 = 0) ∨ (z ≠ 0 ∧ pe2 = pe ∧ cnt2 = cnt ∧ qn2 = qn)) : INR T p1 tp pe cnt qn fp thr z pe2 cnt2 qn2 fp2 := Or.inr ⟨h1, h2, h3, pp, hs, h⟩
theorem sz_mod {n39 n40 n41 n42 n43 pp : Int} {u : Int → Int} {lv : Int} {F : List Int} (h41 : (n40 = -1 ∧ n42 ≠ 0 ∧ n41 = 7) ∨ (¬ (n40 = -1 ∧ n42 ≠ 0) ∧ n41 = 1)) (hp : 0 ≤ pp ∧ pp ≤ 7) : szD pp (n39, n40, ltI n42, n43 - 1, nrF u lv F) = n39 * n41 * n43 * PRD u 0 pp.toNat := by
  unfold szD
  show n39 * (if n40 = -1 ∧ ltI n42 = 1 then 7 else 1) * (n43 - 1 + 1) * PRD (nrF u lv F) 0 pp.toNat = _
  rw [PRD_nr u lv F _ (by omega), show n43 - 1 + 1 = n43 by omega]
  have e : (if n40 = -1 ∧ ltI n42 = 1 then (7 : Int) else 1) = n41 := by
    rcases h41 with ⟨a, b, c⟩ | ⟨a, c⟩
    · rw [if_pos ⟨a, ltI_1 b⟩, c]
    · by_cases q : n42 = 0
      · rw [if_neg (fun x => by have := ltI_0 q; omega), c]
      · rw [if_neg (fun x => a ⟨x.1, q⟩), c]
  rw [e]
theorem HDg_b {T : Int → Int} {n s pp s2 : Int} (h : HDg T n s pp s2) : 0 ≤ pp ∧ pp ≤ 7 := by
  have h1 := h.2.1
  have h2 := h.2.2.1
  have h3 := nuE_c T n (nx T n s) 0 7
  omega

/-! ===== roads stay in bounds ===== -/
def RDK (c : Ig) : Prop := c.1 = 3 ∨ (1 ≤ c.2.2.2.2.1 ∧ c.2.2.2.2.1 ≤ 4)
theorem RDK_ite {q : Prop} [Decidable q] {a b : Ig} (ha : q → RDK a) (hb : ¬ q → RDK b) : RDK (if q then a else b) := by
  by_cases h : q
  · rw [if_pos h]; exact ha h
  · rw [if_neg h]; exact hb h
theorem RDK_o {a s k w : Int} {D : Dg} (h : 1 ≤ D.1 ∧ D.1 ≤ 4) : RDK (a, s, k, w, D) := Or.inr h
theorem RDK_f (s k : Int) : RDK (fI s k) := Or.inl rfl
theorem sI_rd (T : Int → Int) (n pp : Int) (c : Ig) (h : 1 ≤ c.2.2.2.2.1 ∧ c.2.2.2.2.1 ≤ 4) : RDK (sI T n pp c) := by
  unfold sI
  refine RDK_ite (fun _ => ?_) (fun _ => RDK_ite (fun _ => ?_) (fun _ => RDK_ite (fun _ => ?_) (fun _ => RDK_ite (fun _ => ?_) (fun _ => Or.inr h))))
  · unfold iC
    refine RDK_ite (fun _ => RDK_o h) (fun _ => RDK_ite (fun _ => RDK_ite (fun _ => RDK_o h) (fun _ => RDK_f _ _)) (fun _ => RDK_ite (fun _ => RDK_o h) (fun _ => RDK_ite (fun _ => RDK_ite (fun _ => RDK_o h) (fun _ => RDK_f _ _)) (fun _ => RDK_ite (fun _ => RDK_o h) (fun _ => RDK_ite (fun _ => RDK_ite (fun q => RDK_o ?_) (fun _ => RDK_f _ _)) (fun _ => RDK_ite (fun _ => RDK_ite (fun _ => RDK_o h) (fun _ => RDK_f _ _)) (fun _ => RDK_f _ _)))))))
    have h3 := nuE_c T n (nx T n c.2.1) 1 4
    show 1 ≤ vlI T n (nx T n c.2.1) ∧ vlI T n (nx T n c.2.1) ≤ 4
    omega
  · unfold iM
    exact RDK_ite (fun _ => RDK_f _ _) (fun _ => RDK_ite (fun _ => RDK_f _ _) (fun _ => RDK_ite (fun _ => RDK_o h) (fun _ => RDK_o h)))
  · unfold iL
    exact RDK_ite (fun _ => RDK_f _ _) (fun _ => RDK_ite (fun _ => RDK_o h) (fun _ => RDK_o h))
  · unfold iS
    exact RDK_ite (fun _ => RDK_o h) (fun _ => RDK_f _ _)
theorem Ri_rd {T : Int → Int} {n pp : Int} {c c2 : Ig} (h : Ri T n pp c c2) (hc : 1 ≤ c.2.2.2.2.1 ∧ c.2.2.2.2.1 ≤ 4) (h3 : c2.1 ≠ 3) : 1 ≤ c2.2.2.2.2.1 ∧ c2.2.2.2.2.1 ≤ 4 := by
  obtain ⟨k, e, hk⟩ := h
  have key : ∀ j : Nat, j ≤ k → RDK (iti (sI T n pp) j c) := by
    intro j
    induction j with
    | zero => intro _; exact Or.inr hc
    | succ j ih =>
      intro hj
      rcases ih (by omega) with a | a
      · exact absurd (Or.inl a) (hk j (by omega))
      · exact sI_rd T n pp _ a
  have := key k (Nat.le_refl _)
  rw [e] at this
  exact this.resolve_left h3
theorem ISD_rd {T : Int → Int} {n pp : Int} {D : Dg} (h : ISD T n pp D) : (1 ≤ D.1 ∧ D.1 ≤ 4) ∧ 0 ≤ pp ∧ pp ≤ 7 := by
  obtain ⟨s2, s, h1, h2⟩ := h
  exact ⟨Ri_rd h2 ⟨show (1 : Int) ≤ dg1.1 by decide, show dg1.1 ≤ (4 : Int) by decide⟩ (show (4 : Int) ≠ 3 by decide), HDg_b h1⟩
theorem ISD_my {T : Int → Int} {n pp s fk fp : Int} {D : Dg} (h : RY T n (sk T n 0) pp s D fk fp) (q : fk = 0) (ht : tt T n s = 0) : ISD T n pp D := by
  obtain ⟨sh, g, r⟩ := RY_1 h q
  exact ⟨sh, s, g, c_end r ht⟩
