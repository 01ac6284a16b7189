def e30 (j : Nat) : Int64 := if j = 30 then 1 else 0
theorem clrc {g t : Nat → Int64} {k : Nat} (hk : k < 549) (h : ∀ j, j < k → g j = t j) : ∀ j, j < k + 1 → vp_updL g (nI k).toNatClampNeg (t (nI k).toNatClampNeg) j = t j := by
  intro j hj
  rw [nI_clamp (by omega)]
  unfold vp_updL
  by_cases q : j = k
  · rw [if_pos q, q]
  · rw [if_neg q]
    exact h j (by omega)
theorem clr0 {g : Nat → Int64} {k : Nat} (hk : k < 549) (h : ∀ j, j < k → g j = 0) : ∀ j, j < k + 1 → vp_updL g (nI k).toNatClampNeg 0 j = 0 := by
  intro j hj
  rw [nI_clamp (by omega)]
  unfold vp_updL
  by_cases q : j = k
  · rw [if_pos q]
  · rw [if_neg q]
    exact h j (by omega)
theorem e30_of {g : Nat → Int64} (h : ∀ j, j < 549 → g j = 0) : ∀ j, j < 549 → vp_updL g (30 : Int32).toNatClampNeg 1 j = e30 j := by
  intro j hj
  show (if j = 30 then (1 : Int64) else g j) = if j = 30 then 1 else 0
  rw [h j hj]
theorem z30_of {g : Nat → Int64} (h : ∀ j, j < 549 → g j = 0) : ∀ j, j < 549 → vp_updL g (30 : Int32).toNatClampNeg 0 j = 0 := by
  intro j hj
  show (if j = 30 then (0 : Int64) else g j) = 0
  rw [h j hj]
  simp
theorem z_cl {k : Nat} (hk : k < 549) : (0 + nI k).toNatClampNeg = k := by
  have e : (0 : Int32) = nI 0 := rfl
  rw [e, nI_add, Nat.zero_add, nI_clamp (by omega)]
theorem z_in {k : Nat} (hk : k < 549) : vp_in (0 + nI k) 549 := by
  have e : (0 : Int32) = nI 0 := rfl
  rw [e, nI_add, Nat.zero_add]
  exact vp_in_nI hk (by decide)
