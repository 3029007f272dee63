/-! ===== SENTENCES and FACTS: the class's steps and the model's ===== -/
/-- what is put down is never 0, but for the end -/
def nz16 (l : List Int) : Prop := ∀ x ∈ l, x % 16 ≠ 0
theorem nz16_a {l l2 : List Int} (h : nz16 l) (h2 : nz16 l2) : nz16 (l ++ l2) := fun x hx => (List.mem_append.mp hx).elim (h x) (h2 x)
theorem nz16_1 {x : Int} (h : x % 16 ≠ 0) : nz16 [x] := fun y hy => by rw [List.mem_singleton.mp hy]; exact h
theorem nz16_c {x : Int} {l : List Int} (h : x % 16 ≠ 0) (h2 : nz16 l) : nz16 (x :: l) := fun y hy => (List.mem_cons.mp hy).elim (fun e => by rw [e]; exact h) (h2 y)
theorem drp_nz (l : Int) : ∀ (w o : List Int), nz16 w → nz16 o → nz16 (drp l w o).1 ∧ nz16 (drp l w o).2 := by
  intro w
  induction w with
  | nil => intro o _ ho; exact ⟨ho, fun x hx => absurd hx (List.not_mem_nil)⟩
  | cons x w ih =>
    intro o hw ho
    have hx : x % 16 ≠ 0 := hw x (List.mem_cons_self ..)
    have hw2 : nz16 w := fun y hy => hw y (List.mem_cons_of_mem _ hy)
    show nz16 (if x % 16 ≠ 14 ∧ l ≤ strw x then drp l w (o ++ [x % 16]) else (o, x :: w)).1 ∧ nz16 (if x % 16 ≠ 14 ∧ l ≤ strw x then drp l w (o ++ [x % 16]) else (o, x :: w)).2
    split
    · exact ih _ hw2 (nz16_a ho (nz16_1 (by omega)))
    · exact ⟨ho, nz16_c hx hw2⟩
def nzO (O : Og) : Prop := nz16 O.1 ∧ nz16 O.2
theorem nzO_ite {q : Prop} [Decidable q] {a b : Og} (ha : q → nzO a) (hb : ¬ q → nzO b) : nzO (if q then a else b) := by
  by_cases h : q
  · rw [if_pos h]; exact ha h
  · rw [if_neg h]; exact hb h
theorem nzO_p {o w : List Int} {x : Int} (h : nzO (o, w)) (hx : x % 16 ≠ 0) : nzO (o ++ [x], w) := ⟨nz16_a h.1 (nz16_1 hx), h.2⟩
theorem nzO_w {o w : List Int} {x : Int} (h : nzO (o, w)) (hx : x % 16 ≠ 0) : nzO (o, x :: w) := ⟨h.1, nz16_c hx h.2⟩
theorem actS_nz (T : Int → Int) (n s : Int) : actS T n s = 5 ∨ actS T n s = 6 ∨ actS T n s = 7 := by
  unfold actS
  split
  · exact Or.inl rfl
  · split
    · exact Or.inr (Or.inl rfl)
    · exact Or.inr (Or.inr rfl)
theorem emM_nz {T : Int → Int} {n v : Int} {O : Og} (h : nzO O) : nzO (emM T n v O) := by
  unfold emM
  refine nzO_p (o := O.1) (w := O.2) h ?_
  have := actS_nz T n (nx T n v)
  omega
theorem emA_nz {T : Int → Int} {n s : Int} {O : Og} (h : nzO O) : nzO (emA T n s O) := by
  unfold emA
  exact nzO_ite (fun _ => nzO_p (o := O.1) (w := O.2) h (by omega)) (fun _ => nzO_ite (fun _ => nzO_p (o := O.1) (w := O.2) h (by omega)) (fun _ => nzO_ite (fun _ => nzO_p (o := O.1) (w := O.2) h (by omega)) (fun _ => nzO_ite (fun _ => nzO_p (o := O.1) (w := O.2) h (by omega)) (fun _ => emM_nz h))))
theorem emN_nz {T : Int → Int} {n v a : Int} {O : Og} (h : nzO O) : nzO (emN T n v a O) := by
  unfold emN
  exact nzO_ite (fun _ => nzO_w (o := O.1) (w := O.2) h (by omega)) (fun _ => nzO_ite (fun _ => nzO_p (o := O.1) (w := O.2) h (by omega)) (fun _ => nzO_p (o := O.1) (w := O.2) h (by omega)))
theorem emO_nz {T : Int → Int} {n s : Int} {O : Og} (h : nzO O) : nzO (emO T n s O) := by
  unfold emO
  exact nzO_ite (fun _ => nzO_w (o := O.1) (w := O.2) h (by decide)) (fun _ => nzO_ite (fun _ => nzO_w (o := O.1) (w := O.2) h (by decide)) (fun _ => nzO_ite (fun _ => emN_nz h) (fun _ => emA_nz h)))
theorem popO_nz {O : Og} (h : nzO O) : nzO (popO O) := by
  obtain ⟨o, w⟩ := O
  cases w with
  | nil => exact h
  | cons x w =>
    show nzO (if 14 < x then o ++ [13 + 16 * (x / 16 - 1)] else o, w)
    have hw : nz16 w := fun y hy => h.2 y (List.mem_cons_of_mem _ hy)
    refine ⟨?_, hw⟩
    show nz16 (if 14 < x then o ++ [13 + 16 * (x / 16 - 1)] else o)
    split
    · exact nz16_a h.1 (nz16_1 (by omega))
    · exact h.1
/-- the reader's state: nothing put down is 0, and at the end just the last -/
def nzS (x : Cg × Og) : Prop := (x.1.1 ≤ 3 ∧ nzO x.2) ∨ (x.1.1 = 4 ∧ ∃ o w, x.2 = (o ++ [0], w) ∧ nz16 o)
theorem st1_ph (T : Int → Int) (n pp : Int) (c : Cg) (h0 : 0 ≤ c.1) (h : c.1 ≤ 2) : (st1 T n pp c).1 ≤ 3 ∨ (c.1 = 2 ∧ ¬ (kw T n c.2.2.1 = 12 ∨ kw T n c.2.2.1 = 13) ∧ c.2.1 ≤ 1 ∧ (st1 T n pp c).1 = 4) := by
  have key : ∀ x : Cg, Pz x → x.1 ≠ 4 → x.1 ≤ 3 := by
    intro x hx q
    rcases hx with a | a | a
    · omega
    · exact absurd a q
    · omega
  have hE : ∀ d s, (stE T n d s).1 ≠ 4 := by
    intro d s
    unfold stE
    split
    · split <;> (first | exact (show (3 : Int) ≠ 4 by decide) | exact (show (1 : Int) ≠ 4 by decide) | exact (show (0 : Int) ≠ 4 by decide) | exact (show (2 : Int) ≠ 4 by decide))
    · (first | exact (show (3 : Int) ≠ 4 by decide) | exact (show (1 : Int) ≠ 4 by decide) | exact (show (0 : Int) ≠ 4 by decide) | exact (show (2 : Int) ≠ 4 by decide))
  have haf : ∀ e d s, (af T n e d s).1 ≠ 4 := by
    intro e d s
    unfold af
    split <;> (first | exact (show (3 : Int) ≠ 4 by decide) | exact (show (1 : Int) ≠ 4 by decide) | exact (show (0 : Int) ≠ 4 by decide) | exact (show (2 : Int) ≠ 4 by decide))
  have hN : ∀ d s, (stN T n pp d s).1 ≠ 4 := by
    intro d s
    unfold stN
    split
    · split <;> (first | exact (show (3 : Int) ≠ 4 by decide) | exact (show (1 : Int) ≠ 4 by decide) | exact (show (0 : Int) ≠ 4 by decide) | exact (show (2 : Int) ≠ 4 by decide))
    · split
      · exact haf _ _ _
      · split
        · exact haf _ _ _
        · (first | exact (show (3 : Int) ≠ 4 by decide) | exact (show (1 : Int) ≠ 4 by decide) | exact (show (0 : Int) ≠ 4 by decide) | exact (show (2 : Int) ≠ 4 by decide))
  have hM : ∀ d s, (stM T n d s).1 ≠ 4 := by
    intro d s
    unfold stM
    split
    · split
      · exact haf _ _ _
      · (first | exact (show (3 : Int) ≠ 4 by decide) | exact (show (1 : Int) ≠ 4 by decide) | exact (show (0 : Int) ≠ 4 by decide) | exact (show (2 : Int) ≠ 4 by decide))
    · (first | exact (show (3 : Int) ≠ 4 by decide) | exact (show (1 : Int) ≠ 4 by decide) | exact (show (0 : Int) ≠ 4 by decide) | exact (show (2 : Int) ≠ 4 by decide))
  have hA : ∀ d s, (stA T n d s).1 ≠ 4 := by
    intro d s
    unfold stA
    split
    · exact haf _ _ _
    · split
      · exact haf _ _ _
      · split
        · exact haf _ _ _
        · split
          · exact haf _ _ _
          · split
            · exact hM _ _
            · (first | exact (show (3 : Int) ≠ 4 by decide) | exact (show (1 : Int) ≠ 4 by decide) | exact (show (0 : Int) ≠ 4 by decide) | exact (show (2 : Int) ≠ 4 by decide))
  have hO : ∀ d s k, (stO T n pp d s k).1 ≠ 4 := by
    intro d s k
    unfold stO
    split
    · split <;> (first | exact (show (3 : Int) ≠ 4 by decide) | exact (show (1 : Int) ≠ 4 by decide) | exact (show (0 : Int) ≠ 4 by decide) | exact (show (2 : Int) ≠ 4 by decide))
    · split
      · (first | exact (show (3 : Int) ≠ 4 by decide) | exact (show (1 : Int) ≠ 4 by decide) | exact (show (0 : Int) ≠ 4 by decide) | exact (show (2 : Int) ≠ 4 by decide))
      · split
        · split
          · exact hN _ _
          · (first | exact (show (3 : Int) ≠ 4 by decide) | exact (show (1 : Int) ≠ 4 by decide) | exact (show (0 : Int) ≠ 4 by decide) | exact (show (2 : Int) ≠ 4 by decide))
        · exact hA _ _
  unfold st1
  by_cases q0 : c.1 = 0
  · rw [if_pos q0]
    exact Or.inl (key _ (stE_nz _ _ _ _) (hE _ _))
  · rw [if_neg q0]
    by_cases q1 : c.1 = 1
    · rw [if_pos q1]
      exact Or.inl (key _ (stO_nz _ _ _ _ _ _) (hO _ _ _))
    · rw [if_neg q1, if_pos (by omega)]
      have hX := stX_nz T n c.2.1 c.2.2.1
      by_cases q4 : (stX T n c.2.1 c.2.2.1).1 = 4
      · refine Or.inr ⟨by omega, ?_, ?_, q4⟩
        · intro a
          unfold stX at q4
          rw [if_pos a] at q4
          exact absurd (show (1 : Int) = 4 from q4) (by decide)
        · by_cases a : kw T n c.2.2.1 = 12 ∨ kw T n c.2.2.1 = 13
          · unfold stX at q4
            rw [if_pos a] at q4
            exact absurd (show (1 : Int) = 4 from q4) (by decide)
          · by_cases b : c.2.1 ≤ 1
            · exact b
            · unfold stX at q4
              rw [if_neg a, if_neg b] at q4
              split at q4
              · exact absurd (show (2 : Int) = 4 from q4) (by decide)
              · exact absurd (show (3 : Int) = 4 from q4) (by decide)
      · exact Or.inl (key _ hX q4)
theorem st2_nz {T : Int → Int} {n pp : Int} {x : Cg × Og} (h0 : 0 ≤ x.1.1) (h : x.1.1 ≤ 2) (hx : nzO x.2) : nzS (st2 T n pp x) := by
  obtain ⟨c, O⟩ := x
  have h0 : 0 ≤ c.1 := h0
  have h : c.1 ≤ 2 := h
  have hp := st1_ph T n pp c h0 h
  have hdr : ∀ l, nzO ((drp l O.2 O.1).1, (drp l O.2 O.1).2) := fun l => drp_nz l O.2 O.1 hx.2 hx.1
  by_cases q2 : c.1 = 2
  · rcases hp with a | ⟨-, a, b, e⟩
    · have h4 : nzO (em T n c O) ∨ (¬ (kw T n c.2.2.1 = 12 ∨ kw T n c.2.2.1 = 13) ∧ c.2.1 ≤ 1) := by
        unfold em
        rw [if_neg (by omega), if_neg (by omega)]
        unfold emX
        by_cases k12 : kw T n c.2.2.1 = 12
        · rw [if_pos k12]
          exact Or.inl (nzO_w (hdr 2) (by decide))
        · rw [if_neg k12]
          by_cases k13 : kw T n c.2.2.1 = 13
          · rw [if_pos k13]
            exact Or.inl (nzO_w (hdr 1) (by decide))
          · rw [if_neg k13]
            by_cases d1 : c.2.1 ≤ 1
            · exact Or.inr ⟨by omega, d1⟩
            · rw [if_neg d1]
              exact Or.inl (popO_nz (hdr 1))
      rcases h4 with h4 | ⟨k, d⟩
      · exact Or.inl ⟨a, h4⟩
      · exfalso
        have e4 : (st1 T n pp c).1 = 4 := by
          unfold st1
          rw [if_neg (by omega), if_neg (by omega), if_pos q2]
          unfold stX
          rw [if_neg k, if_pos d]
        omega
    · refine Or.inr ⟨e, (drp 1 O.2 O.1).1, (drp 1 O.2 O.1).2, ?_, (hdr 1).1⟩
      show em T n c O = _
      unfold em
      rw [if_neg (by omega), if_neg (by omega)]
      unfold emX
      rw [if_neg (by omega), if_neg (by omega), if_pos b]
  · rcases hp with a | ⟨a, -⟩
    · refine Or.inl ⟨a, ?_⟩
      show nzO (em T n c O)
      unfold em
      exact nzO_ite (fun _ => hx) (fun _ => nzO_ite (fun _ => emO_nz hx) (fun q => absurd (show c.1 = 2 by omega) q2))
    · exact absurd a q2
theorem st1_0 (T : Int → Int) (n pp : Int) (c : Cg) (h0 : 0 ≤ c.1) (h : c.1 ≤ 2) : 0 ≤ (st1 T n pp c).1 := by
  have haf : ∀ e d s, 0 ≤ (af T n e d s).1 := by
    intro e d s
    unfold af
    split <;> (first | exact (show (0 : Int) ≤ 3 by decide) | exact (show (0 : Int) ≤ 1 by decide) | exact (show (0 : Int) ≤ 0 by decide) | exact (show (0 : Int) ≤ 2 by decide) | exact (show (0 : Int) ≤ 4 by decide))
  have hN : ∀ d s, 0 ≤ (stN T n pp d s).1 := by
    intro d s
    unfold stN
    split
    · split <;> (first | exact (show (0 : Int) ≤ 3 by decide) | exact (show (0 : Int) ≤ 1 by decide) | exact (show (0 : Int) ≤ 0 by decide) | exact (show (0 : Int) ≤ 2 by decide) | exact (show (0 : Int) ≤ 4 by decide))
    · split
      · exact haf _ _ _
      · split
        · exact haf _ _ _
        · (first | exact (show (0 : Int) ≤ 3 by decide) | exact (show (0 : Int) ≤ 1 by decide) | exact (show (0 : Int) ≤ 0 by decide) | exact (show (0 : Int) ≤ 2 by decide) | exact (show (0 : Int) ≤ 4 by decide))
  have hM : ∀ d s, 0 ≤ (stM T n d s).1 := by
    intro d s
    unfold stM
    split
    · split
      · exact haf _ _ _
      · (first | exact (show (0 : Int) ≤ 3 by decide) | exact (show (0 : Int) ≤ 1 by decide) | exact (show (0 : Int) ≤ 0 by decide) | exact (show (0 : Int) ≤ 2 by decide) | exact (show (0 : Int) ≤ 4 by decide))
    · (first | exact (show (0 : Int) ≤ 3 by decide) | exact (show (0 : Int) ≤ 1 by decide) | exact (show (0 : Int) ≤ 0 by decide) | exact (show (0 : Int) ≤ 2 by decide) | exact (show (0 : Int) ≤ 4 by decide))
  have hA : ∀ d s, 0 ≤ (stA T n d s).1 := by
    intro d s
    unfold stA
    split
    · exact haf _ _ _
    · split
      · exact haf _ _ _
      · split
        · exact haf _ _ _
        · split
          · exact haf _ _ _
          · split
            · exact hM _ _
            · (first | exact (show (0 : Int) ≤ 3 by decide) | exact (show (0 : Int) ≤ 1 by decide) | exact (show (0 : Int) ≤ 0 by decide) | exact (show (0 : Int) ≤ 2 by decide) | exact (show (0 : Int) ≤ 4 by decide))
  unfold st1
  split
  · unfold stE
    split
    · split <;> (first | exact (show (0 : Int) ≤ 3 by decide) | exact (show (0 : Int) ≤ 1 by decide) | exact (show (0 : Int) ≤ 0 by decide) | exact (show (0 : Int) ≤ 2 by decide) | exact (show (0 : Int) ≤ 4 by decide))
    · (first | exact (show (0 : Int) ≤ 3 by decide) | exact (show (0 : Int) ≤ 1 by decide) | exact (show (0 : Int) ≤ 0 by decide) | exact (show (0 : Int) ≤ 2 by decide) | exact (show (0 : Int) ≤ 4 by decide))
  · split
    · unfold stO
      split
      · split <;> (first | exact (show (0 : Int) ≤ 3 by decide) | exact (show (0 : Int) ≤ 1 by decide) | exact (show (0 : Int) ≤ 0 by decide) | exact (show (0 : Int) ≤ 2 by decide) | exact (show (0 : Int) ≤ 4 by decide))
      · split
        · (first | exact (show (0 : Int) ≤ 3 by decide) | exact (show (0 : Int) ≤ 1 by decide) | exact (show (0 : Int) ≤ 0 by decide) | exact (show (0 : Int) ≤ 2 by decide) | exact (show (0 : Int) ≤ 4 by decide))
        · split
          · split
            · exact hN _ _
            · (first | exact (show (0 : Int) ≤ 3 by decide) | exact (show (0 : Int) ≤ 1 by decide) | exact (show (0 : Int) ≤ 0 by decide) | exact (show (0 : Int) ≤ 2 by decide) | exact (show (0 : Int) ≤ 4 by decide))
          · exact hA _ _
    · split
      · unfold stX
        split
        · (first | exact (show (0 : Int) ≤ 3 by decide) | exact (show (0 : Int) ≤ 1 by decide) | exact (show (0 : Int) ≤ 0 by decide) | exact (show (0 : Int) ≤ 2 by decide) | exact (show (0 : Int) ≤ 4 by decide))
        · split
          · (first | exact (show (0 : Int) ≤ 3 by decide) | exact (show (0 : Int) ≤ 1 by decide) | exact (show (0 : Int) ≤ 0 by decide) | exact (show (0 : Int) ≤ 2 by decide) | exact (show (0 : Int) ≤ 4 by decide))
          · split <;> (first | exact (show (0 : Int) ≤ 3 by decide) | exact (show (0 : Int) ≤ 1 by decide) | exact (show (0 : Int) ≤ 0 by decide) | exact (show (0 : Int) ≤ 2 by decide) | exact (show (0 : Int) ≤ 4 by decide))
      · exact h0
theorem RQ_nz {T : Int → Int} {n pp : Int} {x x2 : Cg × Og} (h : RQ T n pp x x2) (h0 : 0 ≤ x.1.1) (h3 : x.1.1 ≤ 2) (hx : nzO x.2) : nzS x2 := by
  obtain ⟨k, e, hk⟩ := h
  have key : ∀ j : Nat, j ≤ k → 0 ≤ (it2 (st2 T n pp) j x).1.1 ∧ nzS (it2 (st2 T n pp) j x) := by
    intro j
    induction j with
    | zero => intro _; exact ⟨h0, Or.inl ⟨Int.le_trans h3 (by decide), hx⟩⟩
    | succ j ih =>
      intro hj
      obtain ⟨a, b⟩ := ih (by omega)
      have hle := hk j (by omega)
      rcases b with ⟨b, c⟩ | ⟨b, -⟩
      · exact ⟨st1_0 T n pp _ a hle, st2_nz a hle c⟩
      · omega
  rw [← e]
  exact (key k (Nat.le_refl _)).2
/-- what was put down ahead stays ahead -/
theorem em_pre (T : Int → Int) (n : Int) (c : Cg) (a o w : List Int) : em T n c (a ++ o, w) = (a ++ (em T n c (o, w)).1, (em T n c (o, w)).2) := by
  unfold em
  split
  · rfl
  · split
    · unfold emO
      split
      · rfl
      · split
        · rfl
        · split
          · unfold emN
            split
            · rfl
            · split
              · exact Prod.ext (List.append_assoc _ _ _) rfl
              · exact Prod.ext (List.append_assoc _ _ _) rfl
          · unfold emA emM
            split
            · exact Prod.ext (List.append_assoc _ _ _) rfl
            · split
              · exact Prod.ext (List.append_assoc _ _ _) rfl
              · split
                · exact Prod.ext (List.append_assoc _ _ _) rfl
                · split
                  · exact Prod.ext (List.append_assoc _ _ _) rfl
                  · exact Prod.ext (List.append_assoc _ _ _) rfl
    · unfold emX
      show (if _ then ((drp 2 w (a ++ o)).1, 11 :: (drp 2 w (a ++ o)).2) else if _ then ((drp 1 w (a ++ o)).1, 12 :: (drp 1 w (a ++ o)).2) else if _ then ((drp 1 w (a ++ o)).1 ++ [0], (drp 1 w (a ++ o)).2) else popO (drp 1 w (a ++ o))) = _
      rw [drp_app, drp_app]
      split
      · rfl
      · split
        · rfl
        · split
          · exact Prod.ext (List.append_assoc _ _ _) rfl
          · show popO (a ++ (drp 1 w o).1, (drp 1 w o).2) = (a ++ (popO (drp 1 w o)).1, (popO (drp 1 w o)).2)
            cases hd : drp 1 w o with
            | mk p q =>
              cases q with
              | nil => rfl
              | cons x q =>
                show ((if 14 < x then a ++ p ++ [13 + 16 * (x / 16 - 1)] else a ++ p), q) = (a ++ (if 14 < x then p ++ [13 + 16 * (x / 16 - 1)] else p), q)
                split
                · rw [List.append_assoc]
                · rfl
theorem it2_pre (T : Int → Int) (n pp : Int) (c : Cg) (a o w : List Int) : ∀ k : Nat, it2 (st2 T n pp) k (c, (a ++ o, w)) = ((it2 (st2 T n pp) k (c, (o, w))).1, (a ++ (it2 (st2 T n pp) k (c, (o, w))).2.1, (it2 (st2 T n pp) k (c, (o, w))).2.2)) := by
  intro k
  induction k with
  | zero => rfl
  | succ k ih =>
    show st2 T n pp (it2 (st2 T n pp) k (c, (a ++ o, w))) = _
    rw [ih]
    show (st1 T n pp (it2 (st2 T n pp) k (c, (o, w))).1, em T n (it2 (st2 T n pp) k (c, (o, w))).1 (a ++ (it2 (st2 T n pp) k (c, (o, w))).2.1, (it2 (st2 T n pp) k (c, (o, w))).2.2)) = _
    rw [em_pre]
    rfl
theorem RQ_pre {T : Int → Int} {n pp : Int} {c c2 : Cg} {a w : List Int} {O2 : Og} (h : RQ T n pp (c, (a, w)) (c2, O2)) : ∃ o, O2.1 = a ++ o ∧ RQ T n pp (c, ([], w)) (c2, (o, O2.2)) := by
  obtain ⟨k, e, hk⟩ := h
  have e1 := it2_pre T n pp c a [] w k
  rw [List.append_nil, e] at e1
  refine ⟨(it2 (st2 T n pp) k (c, ([], w))).2.1, congrArg (fun x : Cg × Og => x.2.1) e1, k, ?_, fun j hj => ?_⟩
  · have a1 : c2 = (it2 (st2 T n pp) k (c, ([], w))).1 := congrArg (fun x : Cg × Og => x.1) e1
    have a2 : O2.2 = (it2 (st2 T n pp) k (c, ([], w))).2.2 := congrArg (fun x : Cg × Og => x.2.2) e1
    rw [a1, a2]
  · have e2 := it2_pre T n pp c a [] w j
    rw [List.append_nil] at e2
    have := hk j hj
    rw [e2] at this
    exact this
/-- the EXPR from s1 on: the class's steps, the model's -/
def z0g : Og := ([], [])
def CDF (T : Int → Int) (n pp s1 : Int) (C : List Int) : Prop := ∃ s O, RQ T n pp (((0, 0, s1, 0) : Cg), z0g) ((4, 0, s, 0), (O ++ [0], [])) ∧ EQ pp C O 13
def CDM (T : Int → Int) (n pp s1 : Int) (O : List Int) : Prop := ∃ s w, RQ T n pp (((0, 0, s1, 0) : Cg), z0g) ((4, 0, s, 0), (O ++ [0], w))
theorem app_inj {a b : List Int} {x : Int} (h : a ++ [x] = b ++ [x]) : a = b := List.append_inj_left' h rfl
theorem CDF_M {T : Int → Int} {n pp s1 : Int} {C O : List Int} (h : CDF T n pp s1 C) (h2 : CDM T n pp s1 O) : EQ pp C O 13 := by
  obtain ⟨s, P, r, e⟩ := h
  obtain ⟨t, w, r2⟩ := h2
  have q := RQ.one r r2 (show (3 : Int) ≤ 4 by decide) (show (3 : Int) ≤ 4 by decide)
  have q2 : P ++ [0] = O ++ [0] := congrArg (fun x : Cg × Og => x.2.1) q
  rw [← app_inj q2]
  exact e
theorem CDM_nz {T : Int → Int} {n pp s1 : Int} {O : List Int} (h : CDM T n pp s1 O) : ∀ x ∈ O, x ≠ 0 := by
  obtain ⟨s, w, r⟩ := h
  have h1 := RQ_nz r (show (0 : Int) ≤ 0 by decide) (show (0 : Int) ≤ 2 by decide) ⟨fun x hx => absurd hx (List.not_mem_nil), fun x hx => absurd hx (List.not_mem_nil)⟩
  rcases h1 with ⟨a, -⟩ | ⟨-, o, w, e, hn⟩
  · exact absurd (show (4 : Int) ≤ 3 from a) (by decide)
  · have e2 : O ++ [0] = o ++ [0] := congrArg (fun x : Og => x.1) e
    rw [app_inj e2]
    intro x hx q
    have := hn x hx
    rw [q] at this
    exact this rfl
def al2 (P : Int → List Int → Prop) : List Int → List (List Int) → Prop
  | [], [] => True
  | s :: F, c :: L => P s c ∧ al2 P F L
  | _, _ => False
theorem al2_snoc {P : Int → List Int → Prop} {s : Int} {c : List Int} (h : P s c) : ∀ (F : List Int) (L : List (List Int)), al2 P F L → al2 P (F ++ [s]) (L ++ [c]) := by
  intro F
  induction F with
  | nil =>
    intro L hL
    cases L with
    | nil => exact ⟨h, trivial⟩
    | cons x L => exact hL.elim
  | cons t F ih =>
    intro L hL
    cases L with
    | nil => exact hL.elim
    | cons x L => exact ⟨hL.1, ih L hL.2⟩
def flC : List (List Int) → List Int
  | [] => []
  | c :: L => c ++ [2] ++ flC L
def flO : List (List Int) → List Int
  | [] => []
  | c :: L => c ++ [0] ++ flO L
theorem flC_snoc (c : List Int) : ∀ L : List (List Int), flC (L ++ [c]) = flC L ++ c ++ [2] := by
  intro L
  induction L with
  | nil => show c ++ [2] ++ [] = [] ++ c ++ [2]; rw [List.append_nil, List.nil_append]
  | cons x L ih =>
    show x ++ [2] ++ flC (L ++ [c]) = x ++ [2] ++ flC L ++ c ++ [2]
    rw [ih]
    simp only [List.append_assoc]
theorem flO_snoc (c : List Int) : ∀ L : List (List Int), flO (L ++ [c]) = flO L ++ (c ++ [0]) := by
  intro L
  induction L with
  | nil => show c ++ [0] ++ [] = [] ++ (c ++ [0]); rw [List.append_nil, List.nil_append]
  | cons x L ih =>
    show x ++ [0] ++ flO (L ++ [c]) = x ++ [0] ++ flO L ++ (c ++ [0])
    rw [ih]
    simp only [List.append_assoc]
/-- FACTS: where they begin, and the steps -/
def FLc (T : Int → Int) (n pp : Int) (F C : List Int) : Prop := ∃ L, C = 944 :: flC L ∧ al2 (CDF T n pp) F L
def FLm (T : Int → Int) (n pp : Int) (F O : List Int) : Prop := ∃ L, O = flO L ∧ al2 (CDM T n pp) F L
theorem FLc_0 (T : Int → Int) (n pp : Int) : FLc T n pp [] [944] := ⟨[], rfl, trivial⟩
theorem FLm_0 (T : Int → Int) (n pp : Int) : FLm T n pp [] [] := ⟨[], rfl, trivial⟩
theorem FLc_add {T : Int → Int} {n pp s1 : Int} {F C Cx C2 : List Int} (h : FLc T n pp F C) (h2 : CDF T n pp s1 Cx) (e : C2 = C ++ Cx ++ [2]) : FLc T n pp (F ++ [s1]) C2 := by
  obtain ⟨L, e1, a⟩ := h
  refine ⟨L ++ [Cx], ?_, al2_snoc h2 F L a⟩
  rw [e, e1, flC_snoc]
  rfl
theorem FLm_add {T : Int → Int} {n pp s1 : Int} {F O Ox O2 : List Int} (h : FLm T n pp F O) (h2 : CDM T n pp s1 Ox) (e : O2 = O ++ (Ox ++ [0])) : FLm T n pp (F ++ [s1]) O2 := by
  obtain ⟨L, e1, a⟩ := h
  refine ⟨L ++ [Ox], ?_, al2_snoc h2 F L a⟩
  rw [e, e1, flO_snoc]
def alE (pp : Int) : List (List Int) → List (List Int) → Prop
  | [], [] => True
  | c :: L, o :: K => (EQ pp c o 13 ∧ ∀ x ∈ o, x ≠ 0) ∧ alE pp L K
  | _, _ => False
/-- all FACTS are so -/
def fT (e : Ev) : List (List Int) → Bool
  | [] => true
  | o :: K => hd0 (runR e o []) && fT e K
theorem FQ_run {pp : Int} {e : Ev} (he : OKE e) : ∀ (L K : List (List Int)) (b : Bool), alE pp L K → runC e (flC L) [b] = [b && fT e K] := by
  intro L
  induction L with
  | nil =>
    intro K b h
    cases K with
    | nil => show [b] = [b && true]; rw [Bool.and_true]
    | cons y K => exact h.elim
  | cons c L ih =>
    intro K b h
    cases K with
    | nil => exact h.elim
    | cons o K =>
      obtain ⟨⟨⟨-, -, v, h1, -⟩, -⟩, h2⟩ := h
      show runC e (c ++ [2] ++ flC L) [b] = [b && (hd0 (runR e o []) && fT e K)]
      rw [runC_app, runC_app, (h1 e [b] he).1, (h1 e [] he).2]
      show runC e (flC L) [(b && v e)] = _
      rw [ih K _ h2]
      show [(b && v e && fT e K)] = [b && (v e && fT e K)]
      rw [Bool.and_assoc]
theorem rwv_118 (e : Ev) : rwv e 118 = true := by
  unfold rwv
  rw [if_neg (by decide), if_neg (by decide), if_neg (by decide), if_neg (by decide), if_neg (by decide)]
  rfl
theorem FQ_runC {pp : Int} {e : Ev} (he : OKE e) {L K : List (List Int)} (h : alE pp L K) : runC e (944 :: flC L) [] = [fT e K] := by
  show runC e (flC L) (stC e 944 []) = _
  rw [stC_0 (show (944 : Int) % 8 = 0 by decide), show (944 : Int) / 8 = 118 by decide, rwv_118, FQ_run he L K true h, Bool.true_and]
def alF (pp : Int) : List (List Int) → List (List Int) → Prop
  | [], [] => True
  | c :: L, o :: K => EQ pp c o 13 ∧ alF pp L K
  | _, _ => False
theorem alF_ok {pp : Int} : ∀ (L K : List (List Int)), alF pp L K → (∀ x ∈ flC L, okx pp x) ∧ ∀ h : Int, 0 ≤ h → okH (h + 1 + 13) (flC L) (h + 1) ∧ enH (flC L) (h + 1) = h + 1 := by
  intro L
  induction L with
  | nil => intro K _; exact ⟨fun x hx => absurd hx (List.not_mem_nil), fun h _ => ⟨trivial, rfl⟩⟩
  | cons c L ih =>
    intro K hK
    cases K with
    | nil => exact hK.elim
    | cons o K =>
      obtain ⟨⟨g1, hp, -, -, h2⟩, h3⟩ := hK
      obtain ⟨i1, i2⟩ := ih K h3
      refine ⟨fun x hx => ?_, fun h h0 => ?_⟩
      · rcases List.mem_append.mp hx with hx | hx
        · rcases List.mem_append.mp hx with hx | hx
          · exact hp x hx
          · rw [List.mem_singleton.mp hx]
            exact okx_n pp (Or.inr (Or.inl rfl))
        · exact i1 x hx
      · have a := h2 (h + 1) (by omega)
        have b := i2 h h0
        have hd : dlt 2 = -1 := by decide
        have hn : nee 2 = 2 := by decide
        show okH (h + 1 + 13) (c ++ [2] ++ flC L) (h + 1) ∧ enH (c ++ [2] ++ flC L) (h + 1) = h + 1
        have e1 : enH [2] (h + 1 + 1) = h + 1 := by
          show h + 1 + 1 + dlt 2 = h + 1
          rw [hd]; omega
        have e2 : enH (c ++ [2]) (h + 1) = h + 1 := by rw [enH_app, a.2]; exact e1
        have e3 : okH (h + 1 + 13) [2] (h + 1 + 1) := by
          show nee 2 ≤ h + 1 + 1 ∧ h + 1 + 1 + dlt 2 ≤ h + 1 + 13 ∧ True
          rw [hd, hn]
          exact ⟨by omega, by omega, trivial⟩
        refine ⟨?_, ?_⟩
        · rw [okH_app, okH_app, enH_app, a.2, e1]
          exact ⟨⟨a.1, e3⟩, b.1⟩
        · rw [enH_app, e2]
          exact b.2
/-- where the row of all is 0 FACTS are not so -/
theorem FQ_zero {pp : Int} {M : Mm} {R0 ta j : Int} {b : Nat} (hz : tb M (R0 + 118) j b = false) : ∀ (L K : List (List Int)), alE pp L K → runF (stV M R0 ta j b) (944 :: flC L) [] = [false] := by
  have key : ∀ (L K : List (List Int)), alE pp L K → runF (stV M R0 ta j b) (flC L) [false] = [false] := by
    intro L
    induction L with
    | nil => intro K _; rfl
    | cons c L ih =>
      intro K hK
      cases K with
      | nil => exact hK.elim
      | cons o K =>
        obtain ⟨⟨⟨g1, hp, -, -, h2⟩, -⟩, h3⟩ := hK
        have a := h2 0 (by decide)
        obtain ⟨y, hy⟩ := runF_1 (M := M) (R0 := R0) (ta := ta) (j := j) (b := b) a.1 a.2
        show runF _ (c ++ [2] ++ flC L) [false] = [false]
        rw [runF_app, runF_app, hy [false]]
        show runF _ (flC L) (stV M R0 ta j b 2 [y, false]) = [false]
        rw [stV_2 (by decide)]
        show runF _ (flC L) [(false && y)] = [false]
        rw [Bool.false_and]
        exact ih K h3
  intro L K h
  show runF _ (flC L) (stV M R0 ta j b 944 []) = [false]
  rw [stV_0 (by decide), show (944 : Int) / 8 = 118 by decide, hz]
  exact key L K h
/-- the model's FACTS in a row -/
def FLr (u : Int → Int) : Int → List (List Int) → Prop
  | _, [] => True
  | s, o :: K => LST u s o ∧ FLr u (s + o.length + 1) K
theorem FLr_of {pp : Int} {u : Int → Int} : ∀ (L K : List (List Int)) (s : Int), alE pp L K → sgL u s (flO K).length = flO K → FLr u s K := by
  intro L
  induction L with
  | nil =>
    intro K s h _
    cases K with
    | nil => trivial
    | cons o K => exact h.elim
  | cons c L ih =>
    intro K s h e
    cases K with
    | nil => exact h.elim
    | cons o K =>
      obtain ⟨⟨-, hn⟩, h2⟩ := h
      have hl : (flO (o :: K)).length = o.length + 1 + (flO K).length := by
        show (o ++ [0] ++ flO K).length = _
        rw [List.length_append, List.length_append]
        rfl
      have hat : ∀ k : Nat, k < (flO (o :: K)).length → u (s + k) = (flO (o :: K)).getD k 0 := by
        intro k hk
        rw [← e, List.getD_eq_getElem?_getD]
        unfold sgL
        rw [List.getElem?_map, List.getElem?_range hk]
        rfl
      refine ⟨⟨?_, ?_, hn⟩, ih K _ h2 ?_⟩
      · unfold sgL
        refine List.ext_getElem (by rw [List.length_map, List.length_range]) fun i h1 h3 => ?_
        rw [List.getElem_map, List.getElem_range, hat i (by omega)]
        show (o ++ [0] ++ flO K).getD i 0 = o[i]
        rw [List.getD_eq_getElem?_getD, List.append_assoc, List.getElem?_append_left h3, List.getElem?_eq_getElem h3]
        rfl
      · rw [hat o.length (by omega)]
        show (o ++ [0] ++ flO K).getD o.length 0 = 0
        rw [List.getD_eq_getElem?_getD, List.append_assoc, List.getElem?_append_right (Nat.le_refl _), Nat.sub_self]
        rfl
      · unfold sgL
        refine List.ext_getElem (by rw [List.length_map, List.length_range]) fun i h1 h3 => ?_
        rw [List.getElem_map, List.getElem_range, show s + (o.length : Int) + 1 + (i : Int) = s + ((o.length + 1 + i : Nat) : Int) by omega, hat (o.length + 1 + i) (by omega)]
        show (o ++ [0] ++ flO K).getD (o.length + 1 + i) 0 = (flO K)[i]
        have hl2 : (o ++ [0]).length = o.length + 1 := by rw [List.length_append]; rfl
        rw [List.getD_eq_getElem?_getD, List.getElem?_append_right (by omega), show o.length + 1 + i - (o ++ [(0 : Int)]).length = i by omega, List.getElem?_eq_getElem h3]
        rfl
/-- the EXPR of a FACT, behind what stands already -/
theorem CDF_of {T : Int → Int} {n m pp s g s0 s1 : Int} {C0 C : List Int} {c0 : Cg} {z0 : Og} (h : XN T n pp c0 z0 1 s [] [] 1 C0 C g s0) (hc : c0 = (0, 0, s1, 0)) (hz : z0 = ([], [])) (e9 : n = m) (q : ¬ (kw T n s = 12 ∨ kw T n s = 13)) (hg : g ≤ 13) : ∃ Cx, C = C0 ++ Cx ∧ CDF T m pp s1 Cx ∧ 2 * (Cx.length : Int) ≤ s - s0 := by
  subst e9
  subst hc
  subst hz
  obtain ⟨O1, Cx, Ox, r, h2, h3, h4, h5⟩ := h
  exact ⟨Cx, h3, ⟨s, Ox, yX_e r q (by decide) rfl h2, EQ_mono h4 hg⟩, h5⟩
theorem CDX_F {T : Int → Int} {n pp : Int} {C : List Int} (h : CDX T n pp C) : CDF T n pp (sk T n 0) C := h
/-- the model's EXPR, behind what stands already -/
theorem CDM_of {T : Int → Int} {n pp s s1 fk fp : Int} {a : List Int} {O : Og} (h : RGX T n pp (0, 0, s1, 0) (a, []) 4 0 s 0 fk fp O) (q : fk = 0) : ∃ Ox, O.1 = a ++ (Ox ++ [0]) ∧ CDM T n pp s1 Ox := by
  have r := RGX_g h q
  obtain ⟨o, e, r2⟩ := RQ_pre r
  have h1 := RQ_nz r2 (show (0 : Int) ≤ 0 by decide) (show (0 : Int) ≤ 2 by decide) ⟨fun x hx => absurd hx (List.not_mem_nil), fun x hx => absurd hx (List.not_mem_nil)⟩
  rcases h1 with ⟨b, -⟩ | ⟨-, o2, w, e2, -⟩
  · exact absurd (show (4 : Int) ≤ 3 from b) (by decide)
  · have e3 : o = o2 ++ [0] := congrArg (fun x : Og => x.1) e2
    have e4 : O.2 = w := congrArg (fun x : Og => x.2) e2
    refine ⟨o2, by rw [e, e3], s, w, ?_⟩
    rw [e3, e4] at r2
    exact r2

theorem FLc_ok {T : Int → Int} {n pp : Int} {F C : List Int} (h : FLc T n pp F C) : (∀ x ∈ C, okx pp x) ∧ okH 30 C 0 := by
  obtain ⟨L, e, a⟩ := h
  have key : ∀ (F : List Int) (L : List (List Int)), al2 (CDF T n pp) F L → ∃ K, alF pp L K := by
    intro F
    induction F with
    | nil =>
      intro L a
      cases L with
      | nil => exact ⟨[], trivial⟩
      | cons x L => exact a.elim
    | cons s F ih =>
      intro L a
      cases L with
      | nil => exact a.elim
      | cons x L =>
        obtain ⟨⟨t, O, -, q⟩, b⟩ := a
        obtain ⟨K, hK⟩ := ih L b
        exact ⟨O :: K, q, hK⟩
  obtain ⟨K, hK⟩ := key F L a
  obtain ⟨h1, h2⟩ := alF_ok L K hK
  have h3 := h2 0 (by decide)
  rw [e]
  refine ⟨fun x hx => ?_, ?_⟩
  · rcases List.mem_cons.mp hx with hx | hx
    · rw [hx]
      exact ⟨fun _ => ⟨by decide, Or.inr (Or.inr ⟨by decide, by decide⟩)⟩, fun q => absurd q (by decide), fun q => absurd q (by decide), fun q => absurd q (by decide)⟩
    · exact h1 x hx
  · exact ⟨by decide, by decide, okH_mono (show (0 : Int) + 1 + 13 ≤ 30 by decide) _ _ h3.1⟩
