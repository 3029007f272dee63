/-! ===== the model's CLAUSES ===== -/
def ltI (x : Int) : Int := if x = 0 then 0 else 1
theorem ltI_1 {x : Int} (h : x ≠ 0) : ltI x = 1 := if_neg h
theorem ltI_0 {x : Int} (h : x = 0) : ltI x = 0 := if_pos h
def RH (T : Int → Int) (n pp : Int) (i0 : Ig) (ph s : Int) (D : Dg) (fk fp : Int) : Prop := (fk = 0 ∧ Ri T n pp i0 (ph, s, 0, 0, D)) ∨ (fk ≠ 0 ∧ Ri T n pp i0 (fI fp fk))
def MYI (T : Int → Int) (n pp : Int) (i0 : Ig) (more s set a : Int) (D : Dg) (fk fp : Int) : Prop := (more = 1 ∧ fk = 0 ∧ Ri T n pp i0 (1, s, set, a, D)) ∨ (more = 0 ∧ fk = 0 ∧ MP T n pp i0 s set a D ∧ kdE T n s ≠ 0) ∨ (more = 0 ∧ fk ≠ 0 ∧ Ri T n pp i0 (fI fp fk))
def LYI (T : Int → Int) (n pp : Int) (i0 : Ig) (s : Int) (D : Dg) (fk fp : Int) : Prop := (fk = 0 ∧ LX T n pp i0 1 s D) ∨ (fk ≠ 0 ∧ Ri T n pp i0 (fI fp fk))
section JS
variable {T : Int → Int} {n pp s v ph ro da li wo fk fp fk2 fp2 s2 more more2 set a set2 k : Int} {ma ma2 : Int → Int} {i0 : Ig} {D : Dg}
theorem RH_g (h : RH T n pp i0 ph s D fk fp) (q : fk = 0) : Ri T n pp i0 (ph, s, 0, 0, D) := by
  rcases h with ⟨-, r⟩ | ⟨e, -⟩
  · exact r
  · exact absurd q e
theorem RH_b (h : RH T n pp i0 ph s D fk fp) (q : fk ≠ 0) : Ri T n pp i0 (fI fp fk) := by
  rcases h with ⟨e, -⟩ | ⟨-, r⟩
  · exact absurd e q
  · exact r
theorem RH_mg (h : Ri T n pp i0 (ph, s, 0, 0, D)) (q : fk = 0) : RH T n pp i0 ph s D fk fp := Or.inl ⟨q, h⟩
theorem RH_mb (h : Ri T n pp i0 (fI fp fk)) (q : fk ≠ 0) : RH T n pp i0 ph s D fk fp := Or.inr ⟨q, h⟩
theorem MYI_i (h : CX T n pp i0 6 v D) (hc : (naE T n pp v = 0 ∧ fk = 0 ∧ s = nx T n v ∧ a = T v - 97 ∧ more = 1) ∨ (naE T n pp v ≠ 0 ∧ fk = naE T n pp v ∧ fp = v ∧ more = 0)) (e : set = 0) : MYI T n pp i0 more s set a D fk fp := by
  rcases hc with ⟨q, b, c, d, m⟩ | ⟨q, b, c, m⟩
  · rw [e]
    exact Or.inl ⟨m, b, CX_may h q c d⟩
  · exact Or.inr (Or.inr ⟨m, by omega, CX_mayn h q c b⟩)
theorem MYI_1 (h : MYI T n pp i0 more s set a D fk fp) (q : more = 1) : Ri T n pp i0 (1, s, set, a, D) := by
  rcases h with ⟨-, -, r⟩ | ⟨e, -⟩ | ⟨e, -⟩
  · exact r
  all_goals omega
theorem MYI_g (h : MYI T n pp i0 more s set a D fk fp) (q : more = 0) (q2 : fk = 0) : MP T n pp i0 s set a D ∧ kdE T n s ≠ 0 := by
  rcases h with ⟨e, -⟩ | ⟨-, -, r⟩ | ⟨-, e, -⟩
  · omega
  · exact r
  · omega
theorem MYI_b (h : MYI T n pp i0 more s set a D fk fp) (q2 : fk ≠ 0) : Ri T n pp i0 (fI fp fk) := by
  rcases h with ⟨-, e, -⟩ | ⟨-, e, -⟩ | ⟨-, -, r⟩
  · exact absurd e q2
  · exact absurd e q2
  · exact r
theorem MYI_n (h : MYI T n pp i0 more s set a (ro, da, li, wo, ma) fk fp) (q : more = 1)
    (hc : (kdE T n s ≠ 0 ∧ fk2 = kdE T n s ∧ fp2 = s ∧ more2 = 0) ∨ (kdE T n s = 0 ∧ k = kdI T n s ∧ set / pw k % 2 = 1 ∧ fk2 = 5 ∧ fp2 = s ∧ more2 = 0) ∨ (kdE T n s = 0 ∧ k = kdI T n s ∧ set / pw k % 2 ≠ 1 ∧ fk2 = 0 ∧ s2 = nx T n s ∧ set2 = set + pw k ∧ ((kdE T n s2 = 0 ∧ more2 = 1) ∨ (kdE T n s2 ≠ 0 ∧ more2 = 0)))) : MYI T n pp i0 more2 s2 set2 a (ro, da, li, wo, ma) fk2 fp2 := by
  have r := MYI_1 h q
  rcases hc with ⟨a1, a2, a3, a4⟩ | ⟨a1, a2, a3, a4, a5, a6⟩ | ⟨a1, a2, a3, a4, a5, a6, a7⟩
  · exact Or.inr (Or.inr ⟨a4, by omega, m_k r a1 a3 a2⟩)
  · rw [a2] at a3
    exact Or.inr (Or.inr ⟨a6, by omega, m_5 r a1 a3 a5 a4⟩)
  · rw [a2] at a3 a6
    rcases a7 with ⟨b1, b2⟩ | ⟨b1, b2⟩
    · exact Or.inl ⟨b2, a4, m_n r a1 a3 a5 b1 a6⟩
    · exact Or.inr (Or.inl ⟨b2, a4, ⟨s, set, r, a1, a3, a5, a6⟩, b1⟩)
theorem LYI_i (h : CX T n pp i0 9 v (ro, da, li, wo, ma)) (hc : (nuE T n v 0 6 = 0 ∧ fk = 0 ∧ s = nx T n v) ∨ (nuE T n v 0 6 ≠ 0 ∧ fk = nuE T n v 0 6 ∧ fp = v)) : LYI T n pp i0 s (ro, da, li, wo, ma) fk fp := by
  have r := CX_lies h
  rcases hc with ⟨a1, a2, a3⟩ | ⟨a1, a2, a3⟩
  · exact Or.inl ⟨a2, Or.inr ⟨by decide, v, r, a1, a3⟩⟩
  · exact Or.inr ⟨by omega, l_n r a1 a3 a2⟩
theorem LYI_n (h : LYI T n pp i0 s (ro, da, li, wo, ma) fk fp) (q : fk = 0) (ht : tt T n s = 2) (hc : (nuE T n s 0 6 = 0 ∧ fk2 = 0 ∧ s2 = nx T n s) ∨ (nuE T n s 0 6 ≠ 0 ∧ fk2 = nuE T n s 0 6 ∧ fp2 = s)) : LYI T n pp i0 s2 (ro, da, li, wo, ma) fk2 fp2 := by
  rcases h with ⟨-, r⟩ | ⟨e, -⟩
  · have r2 := LX_r r (Or.inr ht)
    rcases hc with ⟨a1, a2, a3⟩ | ⟨a1, a2, a3⟩
    · exact Or.inl ⟨a2, Or.inr ⟨by decide, s, r2, a1, a3⟩⟩
    · exact Or.inr ⟨by omega, l_n r2 a1 a3 a2⟩
  · exact absurd q e
theorem LYI_e {li2 : Int} (h : LYI T n pp i0 s (ro, da, li, wo, ma) fk fp) (hc : fk ≠ 0 ∨ (tt T n s ≠ 2 ∧ li2 = 1)) : RH T n pp i0 5 s (ro, da, li2, wo, ma) fk fp := by
  rcases h with ⟨a1, r⟩ | ⟨e, r⟩
  · rcases hc with c | ⟨c1, c2⟩
    · exact absurd a1 c
    · exact RH_mg (LX_e r (by decide) c1 c2) a1
  · exact RH_mb r e
/-- behind a CLAUSE ';' -/
theorem RH_s (h : RH T n pp i0 5 s (ro, da, li, wo, ma) fk fp) (hc : (fk ≠ 0 ∧ fk2 = fk ∧ fp2 = fp) ∨ (fk = 0 ∧ sgI T n s 59 = 1 ∧ fk2 = 0 ∧ s2 = nx T n s) ∨ (fk = 0 ∧ sgI T n s 59 ≠ 1 ∧ fk2 = 1 ∧ fp2 = s)) : RH T n pp i0 0 s2 (ro, da, li, wo, ma) fk2 fp2 := by
  rcases hc with ⟨a1, a2, a3⟩ | ⟨a1, a2, a3, a4⟩ | ⟨a1, a2, a3, a4⟩
  · rw [a2, a3]
    exact RH_mb (RH_b h a1) a1
  · exact RH_mg (s_y (RH_g h a1) a2 a4) a3
  · exact RH_mb (s_n (RH_g h a1) a2 a4 a3) (by omega)
theorem RH_c {ro2 da2 li2 wo2 : Int} (h : RH T n pp i0 ph s (ro, da, li, wo, ma) fk fp) (e1 : s2 = s) (e2 : ro2 = ro) (e3 : da2 = da) (e4 : li2 = li) (e5 : wo2 = wo) (e6 : ma2 = ma) (e7 : fk2 = fk) (e8 : fp2 = fp) : RH T n pp i0 ph s2 (ro2, da2, li2, wo2, ma2) fk2 fp2 := by
  rw [e1, e2, e3, e4, e5, e6, e7, e8]
  exact h
/-- of the CLAUSES with one NUMBER, with none, with an EXPR -/
theorem q_roads {ro2 : Int} (h : Ri T n pp i0 (0, v, 0, 0, (ro, da, li, wo, ma))) (q : kw T n v = 7) {s1 : Int} (e : s1 = nx T n v) (hc : (nuE T n s1 1 4 = 0 ∧ fk = 0 ∧ s = nx T n s1 ∧ ro2 = vlI T n s1) ∨ (nuE T n s1 1 4 ≠ 0 ∧ fk = nuE T n s1 1 4 ∧ fp = s1)) : RH T n pp i0 5 s (ro2, da, li, wo, ma) fk fp := by
  rcases hc with ⟨a1, a2, a3, a4⟩ | ⟨a1, a2, a3⟩
  · exact RH_mg (c_roads h q e a1 a3 a4) a2
  · exact RH_mb (c_roadsn h q e a1 a3 a2) (by omega)
theorem q_day {da2 : Int} (h : Ri T n pp i0 (0, v, 0, 0, (ro, da, li, wo, ma))) (q : kw T n v = 8) {s1 : Int} (e : s1 = nx T n v) (hc : (nuE T n s1 0 6 = 0 ∧ fk = 0 ∧ s = nx T n s1 ∧ da2 = vlI T n s1) ∨ (nuE T n s1 0 6 ≠ 0 ∧ fk = nuE T n s1 0 6 ∧ fp = s1)) : RH T n pp i0 5 s (ro, da2, li, wo, ma) fk fp := by
  rcases hc with ⟨a1, a2, a3, a4⟩ | ⟨a1, a2, a3⟩
  · exact RH_mg (c_day h q e a1 a3 a4) a2
  · exact RH_mb (c_dayn h q e a1 a3 a2) (by omega)
theorem q_fact {s1 : Int} (h : Ri T n pp i0 (0, v, 0, 0, (ro, da, li, wo, ma))) (q : kw T n v = 11) (e : s1 = nx T n v) (r : RG T n pp (0, 0, s1, 0) 4 0 s 0 fk fp) : RH T n pp i0 5 s (ro, da, li, wo, ma) fk fp := by
  by_cases q2 : fk = 0
  · exact RH_mg (c_fact h q e (RG_g r q2)) q2
  · exact RH_mb (c_factn h q e (RG_b r q2)) q2
end JS
theorem may_er {T : Int → Int} {n pp s w told ro da li wo a : Int} {u : Int → Int} {i0 : Ig} {M M2 : Mm} (h : MP T n pp i0 s told w (ro, da, li, wo, nrI u)) (q : kdE T n s ≠ 0) (hr : nrI (fun k => M a k) = nrI u) (e : M2 = mUp M a w told) (h0 : 0 ≤ w) (h1 : w < 7) : Ri T n pp i0 (5, s, 0, 0, (ro, da, li, wo, nrI (fun k => M2 a k))) := MP_e h q (by rw [nr_up e h0 h1, hr])
theorem RH_cl {T : Int → Int} {n pp ph s ro da wo fk fp x : Int} {ma : Int → Int} {i0 : Ig} (h : RH T n pp i0 ph s (ro, da, 1, wo, ma) fk fp) (q : fk ≠ 0 ∨ x ≠ 0) : RH T n pp i0 ph s (ro, da, ltI x, wo, ma) fk fp := by
  by_cases e : fk = 0
  · rw [ltI_1 (by omega)]
    exact h
  · exact RH_mb (RH_b h e) e
/-- the number of WORLDS, up to 3001 -/
def SZJ (u : Int → Int) (R v p : Int) : Prop := (v ≤ 3000 ∧ v = R * PRD u 0 p.toNat) ∨ (v = 3001 ∧ 3000 < R * PRD u 0 p.toNat)
theorem SZJ_st {u : Int → Int} {R v p b w r z : Int} (h : SZJ u R v p) (h0 : 0 ≤ v) (hp : 0 ≤ p) (hu : u p = b) (hb : 1 ≤ b ∧ b ≤ 31) (hw : w = bT b + b / 4 % 2) (hr : r = v * w) (hz : (r ≤ 3000 ∧ z = r) ∨ (3000 < r ∧ z = 3001)) : SZJ u R z (p + 1) := by
  have hc : w = cT b := by
    unfold cT
    unfold bT at hw
    omega
  have hc1 := cT_pos hb
  rw [← hc] at hc1
  have e : PRD u 0 (p + 1).toNat = PRD u 0 p.toNat * w := by
    rw [show (p + 1).toNat = p.toNat + 1 by omega]
    show PRD u 0 p.toNat * cT (u (0 + (p.toNat : Int))) = _
    rw [show (0 : Int) + (p.toNat : Int) = p by omega, hu, hc]
  unfold SZJ
  rw [e, ← Int.mul_assoc]
  rcases h with ⟨h1, h2⟩ | ⟨h1, h2⟩
  · rw [← h2, ← hr]
    omega
  · have h3 : R * PRD u 0 p.toNat * 1 ≤ R * PRD u 0 p.toNat * w := Int.mul_le_mul_of_nonneg_left hc1 (by omega)
    have h4 : v * 1 ≤ v * w := Int.mul_le_mul_of_nonneg_left hc1 h0
    rw [← hr] at h4
    omega
theorem PRD_nr (u : Int → Int) : ∀ m : Nat, m ≤ 7 → PRD (nrI u) 0 m = PRD u 0 m := by
  intro m
  induction m with
  | zero => intro _; rfl
  | succ m ih =>
    intro h
    show PRD (nrI u) 0 m * cT (nrI u (0 + m)) = PRD u 0 m * cT (u (0 + m))
    rw [ih (by omega)]
    have e : nrI u (0 + m) = u (0 + m) := by
      unfold nrI
      rw [if_pos (by omega)]
    rw [e]
/-! ===== the model's ISLAND ===== -/
theorem dg1_m2 {ro da li wo : Int} {u : Int → Int} (e1 : ro = 1) (e2 : da = -1) (e3 : li = 0) (e4 : wo = 0) (e5 : ∀ k, 0 ≤ k → k < 7 → u k = 3) : ((ro, da, li, wo, nrI u) : Dg) = dg1 := by
  rw [e1, e2, e3, e4, nr_eq (u := u) (v := fun _ => 3) e5]
  rfl
def RY (T : Int → Int) (n s0 pp s : Int) (D : Dg) (fk fp : Int) : Prop := (fk = 0 ∧ ∃ sh, HDg T n s0 pp sh ∧ Ri T n pp (0, sh, 0, 0, dg1) (0, s, 0, 0, D)) ∨ (fk ≠ 0 ∧ IOF T n s0 fk fp)
section RYs
variable {T : Int → Int} {n s0 pp s fk fp sh : Int} {D : Dg}
theorem RY_i (hD : D = dg1) (hc : (fk = 0 ∧ HDg T n s0 pp s) ∨ (fk ≠ 0 ∧ HDf T n s0 fk fp)) : RY T n s0 pp s D fk fp := by
  rw [hD]
  rcases hc with ⟨a, b⟩ | ⟨a, b⟩
  · exact Or.inl ⟨a, s, b, Ri.rf _⟩
  · exact Or.inr ⟨a, Or.inl b⟩
theorem RY_1 (h : RY T n s0 pp s D fk fp) (q : fk = 0) : ∃ sh, HDg T n s0 pp sh ∧ Ri T n pp (0, sh, 0, 0, dg1) (0, s, 0, 0, D) := by
  rcases h with ⟨-, r⟩ | ⟨e, -⟩
  · exact r
  · exact absurd q e
theorem RY_n (hg : HDg T n s0 pp sh) (h : RH T n pp (0, sh, 0, 0, dg1) 0 s D fk fp) : RY T n s0 pp s D fk fp := by
  by_cases e : fk = 0
  · exact Or.inl ⟨e, sh, hg, RH_g h e⟩
  · exact Or.inr ⟨e, Or.inr ⟨pp, sh, hg, RH_b h e⟩⟩
theorem RY_b (h : RY T n (sk T n 0) pp s D fk fp) (q : fk ≠ 0) {r pl : Int} (e1 : r = fk) (e2 : pl = fp) : IO T n r pl pp := by
  rcases h with ⟨e, -⟩ | ⟨-, r⟩
  · exact absurd e q
  · rw [e1, e2]
    exact Or.inl r
theorem RY_e (h : RY T n (sk T n 0) pp s D fk fp) (q : fk = 0) (ht : tt T n s = 0) {r pl : Int} (hc : (3000 < szD pp D ∧ r = 6 ∧ pl = s) ∨ (szD pp D ≤ 3000 ∧ r = 0 ∧ pl = -1)) : IO T n r pl pp := by
  obtain ⟨sh, hg, hr⟩ := RY_1 h q
  exact Or.inr ⟨sh, s, D, hg, c_end hr ht, hc⟩
end RYs
theorem HD_gm {T : Int → Int} {n s s1 s2 s3 pp : Int} (q : kw T n s = 5) (e : s1 = nx T n s) (e2 : s2 = nx T n s1) (h : nuE T n s1 0 7 = 0) (h2 : pp = vlI T n s1) (h3 : sgI T n s2 59 = 1) (h4 : s3 = nx T n s2) : HDg T n s pp s3 := HD_g q e e2 ⟨h, h2, h3, h4⟩
/-- what a call of island(p1) answers: tp bytes on the tape, pe PEOPLE, cnt SENTENCES, qn QUESTIONS, fp the place of the latest FAULT -/
def INR (T : Int → Int) (p1 tp pe cnt qn fp thr z pe2 cnt2 qn2 fp2 : Int) : Prop := ((p1 < 0 ∨ tp < p1) ∧ thr = 1 ∧ pe2 = pe ∧ cnt2 = cnt ∧ qn2 = qn ∧ fp2 = fp) ∨ (0 ≤ p1 ∧ p1 ≤ tp ∧ thr = 0 ∧ ∃ pp, IO T p1 z fp2 pp ∧ ((z = 0 ∧ pe2 = pp ∧ cnt2 = 0 ∧ qn2 = 0) ∨ (z ≠ 0 ∧ pe2 = pe ∧ cnt2 = cnt ∧ qn2 = qn)))
theorem INR_one {T : Int → Int} {p1 tp pe cnt qn fp thr z pe2 cnt2 qn2 fp2 thr' z' pe2' cnt2' qn2' fp2' : Int} (h1 : INR T p1 tp pe cnt qn fp thr z pe2 cnt2 qn2 fp2) (h2 : INR T p1 tp pe cnt qn fp thr' z' pe2' cnt2' qn2' fp2') : thr = thr' ∧ pe2 = pe2' ∧ cnt2 = cnt2' ∧ qn2 = qn2' ∧ fp2 = fp2' ∧ (thr = 0 → z = z') := by
  rcases h1 with ⟨a1, a2, a3, a4, a5, a6⟩ | ⟨a1, a2, a3, pp, a4, a5⟩
  · rcases h2 with ⟨b1, b2, b3, b4, b5, b6⟩ | ⟨b1, b2, b3, pp', b4, b5⟩
    · omega
    · omega
  · rcases h2 with ⟨b1, b2, b3, b4, b5, b6⟩ | ⟨b1, b2, b3, pp', b4, b5⟩
    · omega
    · have e := IO_one a4 b4
      by_cases q : z = 0
      · have e2 := IO_pp a4 b4 q (by omega)
        omega
      · omega
theorem INR_t {T : Int → Int} {p1 tp pe cnt qn fp thr z pe2 cnt2 qn2 fp2 : Int} (h : (p1 < 0 ∨ tp < p1) ∧ thr = 1 ∧ pe2 = pe ∧ cnt2 = cnt ∧ qn2 = qn ∧ fp2 = fp) : INR T p1 tp pe cnt qn fp thr z pe2 cnt2 qn2 fp2 := Or.inl h
theorem INR_r {T : Int → Int} {p1 tp pe cnt qn fp thr z pe2 cnt2 qn2 fp2 pp : Int} (hs : IO T p1 z fp2 pp) (h1 : 0 ≤ p1) (h2 : p1 ≤ tp) (h3 : thr = 0) (h : (z = 0 ∧ pe2 = pp ∧ cnt2 = 0 ∧ qn2 = 0) ∨ (z ≠ 0 ∧ pe2 = pe ∧ cnt2 = cnt ∧ qn2 = qn)) : INR T p1 tp pe cnt qn fp thr z pe2 cnt2 qn2 fp2 := Or.inr ⟨h1, h2, h3, pp, hs, h⟩
theorem sz_mod {n39 n40 n41 n42 n43 pp : Int} {u : Int → Int} (h41 : (n40 = -1 ∧ n42 ≠ 0 ∧ n41 = 7) ∨ (¬ (n40 = -1 ∧ n42 ≠ 0) ∧ n41 = 1)) (hp : 0 ≤ pp ∧ pp ≤ 7) : szD pp (n39, n40, ltI n42, n43 - 1, nrI u) = n39 * n41 * n43 * PRD u 0 pp.toNat := by
  unfold szD
  show n39 * (if n40 = -1 ∧ ltI n42 = 1 then 7 else 1) * (n43 - 1 + 1) * PRD (nrI u) 0 pp.toNat = _
  rw [PRD_nr u _ (by omega), show n43 - 1 + 1 = n43 by omega]
  have e : (if n40 = -1 ∧ ltI n42 = 1 then (7 : Int) else 1) = n41 := by
    rcases h41 with ⟨a, b, c⟩ | ⟨a, c⟩
    · rw [if_pos ⟨a, ltI_1 b⟩, c]
    · by_cases q : n42 = 0
      · rw [if_neg (fun x => by have := ltI_0 q; omega), c]
      · rw [if_neg (fun x => a ⟨x.1, q⟩), c]
  rw [e]
theorem HDg_b {T : Int → Int} {n s pp s2 : Int} (h : HDg T n s pp s2) : 0 ≤ pp ∧ pp ≤ 7 := by
  have h1 := h.2.1
  have h2 := h.2.2.1
  have h3 := nuE_c T n (nx T n s) 0 7
  omega
