/-! ===== what the model's island and sentence put down ===== -/
theorem OW_10 {M : Mm} (h : M 739 45 = 0) : (OW M).1 = [] := by
  show RLt (fun k => M 757 k) (M 739 45) = []
  unfold RLt
  rw [h]
  rfl
theorem RLt_at {v : Int → Int} {t : Int} {A : List Int} (e : RLt v t = A) : A.length = t.toNat ∧ ∀ k : Nat, k < t.toNat → A[k]? = some (v k) := by
  refine ⟨?_, fun k hk => ?_⟩
  · rw [← e]
    unfold RLt
    rw [List.length_map, List.length_range]
  · rw [← e]
    unfold RLt
    rw [List.getElem?_map, List.getElem?_range hk]
    rfl
theorem LST_RL {u v : Int → Int} {s t : Int} {O : List Int} (e : RLt v t = O ++ [0]) (hn : ∀ x ∈ O, x ≠ 0) (h : ∀ k : Int, 0 ≤ k → k < t → u (s + k) = v k) : LST u s O := by
  obtain ⟨hl, hat⟩ := RLt_at e
  rw [List.length_append] at hl
  have hl1 : ([0] : List Int).length = 1 := rfl
  refine ⟨?_, ?_, hn⟩
  · unfold sgL
    refine List.ext_getElem? fun k => ?_
    rcases Nat.lt_or_ge k O.length with q | q
    · have := hat k (by omega)
      rw [List.getElem?_append_left q] at this
      rw [List.getElem?_map, List.getElem?_range q, this]
      show some (u (s + k)) = some (v k)
      rw [h k (by omega) (by omega)]
    · rw [List.getElem?_eq_none q, List.getElem?_eq_none (by rw [List.length_map, List.length_range]; exact q)]
  · have := hat O.length (by omega)
    rw [List.getElem?_append_right (Nat.le_refl _), Nat.sub_self] at this
    have e0 : (0 : Int) = v O.length := Option.some.inj this
    rw [h O.length (by omega) (by omega)]
    exact e0.symm
theorem FLr_OW {pp : Int} {L K : List (List Int)} {u v : Int → Int} {t : Int} (h : alE pp L K) (e : flO K = RLt v t) (ht : 0 ≤ t) (hu : ∀ k : Int, 0 ≤ k → k < t → u k = v k) : FLr u 0 K := by
  have hl := (RLt_at e.symm).1
  refine FLr_of L K 0 h ?_
  rw [hl]
  refine Eq.trans ?_ e.symm
  unfold sgL RLt
  refine List.map_congr_left fun k hk => ?_
  have := List.mem_range.mp hk
  show u (0 + k) = v k
  rw [Int.zero_add]
  exact hu k (by omega) (by omega)
theorem al2_len {P : Int → List Int → Prop} : ∀ {F : List Int} {L : List (List Int)}, al2 P F L → F.length = L.length := by
  intro F
  induction F with
  | nil =>
    intro L h
    cases L with
    | nil => rfl
    | cons x L => exact h.elim
  | cons s F ih =>
    intro L h
    cases L with
    | nil => exact h.elim
    | cons x L => rw [List.length_cons, List.length_cons, ih h.2]
theorem alE_RNS {pp : Int} : ∀ {L K : List (List Int)}, alE pp L K → RNS K := by
  intro L
  induction L with
  | nil =>
    intro K h
    cases K with
    | nil => exact fun o ho => absurd ho (List.not_mem_nil)
    | cons x K => exact h.elim
  | cons c L ih =>
    intro K h
    cases K with
    | nil => exact h.elim
    | cons o K =>
      obtain ⟨⟨⟨-, -, v, h1, -⟩, -⟩, h3⟩ := h
      intro o2 ho
      rcases List.mem_cons.mp ho with q | q
      · exact ⟨v, fun e he => by rw [q]; exact (h1 e [] he).2⟩
      · exact ih h3 o2 q
def eDq (x : Int) : Int := if x = -1 then 0 else x
theorem dq_mk {a b c : Int} (h : (b = -1 ∧ c ≠ 0 ∧ a = 7) ∨ (¬ (b = -1 ∧ c ≠ 0) ∧ a = 1)) : (a = 7 ∧ eDq b = 0) ∨ (a = 1 ∧ ((b = -1 ∧ eDq b = 0) ∨ (b ≠ -1 ∧ eDq b = b))) := by
  unfold eDq
  by_cases q : b = -1
  · rw [if_pos q]; omega
  · rw [if_neg q]; omega
/-- FACTS that the model reads mean something, as the class reads them too -/
def HFM (T : Int → Int) (n : Int) : Prop := ∀ (pp ro da li wo lv : Int) (u : Int → Int) (F : List Int) (K : List (List Int)), szD pp (ro, da, li, wo, nrF u lv F) ≤ 3000 → ISD T n pp (ro, da, li, wo, nrF u lv F) → al2 (CDM T n pp) F K → ∃ L, alE pp L K
