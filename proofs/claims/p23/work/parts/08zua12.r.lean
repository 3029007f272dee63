def fg_RM : Nat := 107767965370681270487733848888622843915724882029498752604211614967652155392
def fg_WPe : Nat := 883423532389192165174772635587931472503328705225386774965487881192210432
def fg_WQe : Nat := 7067388259113537318717810465864773122487762917558754602203237260640387072
/-! ===== who was asked, what was so: the search leaves the past alone ===== -/
def WPe (M M0 : Mm) : Prop := M 739 15 = M0 739 15 ∧ ∀ k : Int, k < M0 739 15 → M 748 k = M0 748 k
theorem WPe_rf (M : Mm) : WPe M M := ⟨rfl, fun _ _ => rfl⟩
theorem WPe_tr {M2 M1 M0 : Mm} (h : WPe M2 M1) (h0 : WPe M1 M0) : WPe M2 M0 := ⟨h.1.trans h0.1, fun k hk => (h.2 k (by rw [h0.1]; exact hk)).trans (h0.2 k hk)⟩
theorem WPe_sm {M M2 M0 : Mm} (h : Sm fg_WPe M M2) (p : WPe M M0) : WPe M2 M0 := ⟨(h.at g_739_15 rfl).trans p.1, fun k hk => (h.at (gr_748 (by decide) (by decide) k) rfl).trans (p.2 k hk)⟩
theorem WPe_up {M M2 M0 : Mm} {t v : Int} (h : WPe M M0) (e : M2 = mUp M 748 t v) (ht : M0 739 15 ≤ t) : WPe M2 M0 := ⟨by rw [e, mUp_ne (Or.inl (by decide))]; exact h.1, fun k hk => by rw [e, mUp_ne (Or.inr (by omega))]; exact h.2 k hk⟩
/-- what was so, of the EVENTS that were -/
def WQe (M M0 : Mm) : Prop := M 739 15 = M0 739 15 ∧ M 739 7 = M0 739 7 ∧ ∀ w : Int, 0 ≤ w → w < M0 739 7 → 0 ≤ M 751 w ∧ M 751 w % pw (M0 739 15) = M0 751 w % pw (M0 739 15)
theorem WQe_tr {M2 M1 M0 : Mm} (h : WQe M2 M1) (h0 : WQe M1 M0) : WQe M2 M0 := ⟨h.1.trans h0.1, h.2.1.trans h0.2.1, fun w a b => by
  have p := h.2.2 w a (by rw [h0.2.1]; exact b)
  have q := h0.2.2 w a b
  rw [h0.1] at p
  exact ⟨p.1, p.2.trans q.2⟩⟩
theorem WQe_sm {M M2 M0 : Mm} (h : Sm fg_WQe M M2) (p : WQe M M0) : WQe M2 M0 := ⟨(h.at g_739_15 rfl).trans p.1, (h.at g_739_7 rfl).trans p.2.1, fun w a b => by rw [show M2 751 w = M 751 w from h.at (gr_751 (by decide) (by decide) w) rfl]; exact p.2.2 w a b⟩
theorem WQe_up {M M2 M0 : Mm} {t v : Int} (h : WQe M M0) (e : M2 = mUp M 751 t v) (hv : 0 ≤ v) (hx : v % pw (M0 739 15) = M 751 t % pw (M0 739 15)) : WQe M2 M0 := ⟨by rw [e, mUp_ne (Or.inl (by decide))]; exact h.1, by rw [e, mUp_ne (Or.inl (by decide))]; exact h.2.1, fun w a b => by
  rw [e]
  by_cases q : w = t
  · rw [q, mUp_eq]
    have := h.2.2 t (by omega) (by omega)
    exact ⟨hv, hx.trans this.2⟩
  · rw [mUp_ne (Or.inr q)]
    exact h.2.2 w a b⟩
theorem WQe_rf {M : Mm} (h : ∀ w : Int, 0 ≤ w → w < M 739 7 → 0 ≤ M 751 w) : WQe M M := ⟨rfl, rfl, fun w a b => ⟨h w a b, rfl⟩⟩
/-- what listsBy puts down -/
theorem lb_up {x a so v b r k : Int} (hx : 0 ≤ x) (hk : 0 ≤ k) (ha : a = pw k - 1) (hr : r = ((x.toNat &&& a.toNat : Nat) : Int)) (hs : 0 ≤ so) (hv : v = so * pw k) (hb : b = ((r.toNat ||| v.toNat : Nat) : Int)) : 0 ≤ b ∧ b % pw k = x % pw k := by
  have h1 : r = x % pw k := and_lo hx (by rw [← ha]; exact hr)
  have h2 := md_b x k
  rw [← h1] at h2
  have h3 := or_bit h2 hs hv hb
  have h4 : 0 ≤ pw k * so := Int.mul_nonneg (by have := pw_pos k; omega) hs
  refine ⟨by omega, ?_⟩
  rw [h3, Int.add_mul_emod_self_left, md_eq h2.1 h2.2, h1]
/-- the model's side stays -/
def SMR (M0 M : Mm) : Prop := Sm fg_RM M0 M
theorem SMR_rf (M : Mm) : SMR M M := fun _ _ _ => rfl
theorem SMR_sm {M0 M M2 : Mm} (h : Sm fg_RM M M2) (p : SMR M0 M) : SMR M0 M2 := Sm_tr p h
