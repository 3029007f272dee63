/-! ===== what question() answers ===== -/
def QNR (p1 p2 pe cnt qn thr z qn2 : Int) : Prop := ((p1 < 0 ∨ pe ≤ p1 ∨ p2 < 0 ∨ cnt ≤ p2) ∧ thr = 1 ∧ qn2 = qn) ∨ (0 ≤ p1 ∧ p1 < pe ∧ 0 ≤ p2 ∧ p2 < cnt ∧ thr = 0 ∧ ((qn = 10 ∧ z = -1 ∧ qn2 = qn) ∨ (qn < 10 ∧ z = qn ∧ qn2 = qn + 1)))
theorem QNR_one {p1 p2 pe cnt qn thr z qn2 thr' z' qn2' : Int} (h1 : QNR p1 p2 pe cnt qn thr z qn2) (h2 : QNR p1 p2 pe cnt qn thr' z' qn2') : thr = thr' ∧ qn2 = qn2' ∧ (thr = 0 → z = z') := by
  unfold QNR at h1 h2
  rcases h1 with ⟨a, b, c⟩ | ⟨a1, a2, a3, a4, b, c⟩ <;> rcases h2 with ⟨a', b', c'⟩ | ⟨a1', a2', a3', a4', b', c'⟩
  · exact ⟨by omega, by omega, fun q => by omega⟩
  · exfalso; omega
  · exfalso; omega
  · exact ⟨by omega, by omega, fun q => by omega⟩
