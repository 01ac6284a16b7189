/-! the reference's test of bounds beside the class's -/
theorem wide_lt (a b : Int32) : a.toInt64 < b.toInt64 ↔ a < b := by
  rw [Int64.lt_iff_toInt_lt, Int32.lt_iff_toInt_lt, Int32.toInt_toInt64, Int32.toInt_toInt64]
theorem inB_i (p lo hi : Int32) : inB p.toInt64 lo.toInt64 hi.toInt64 = if p < lo then 0 else if hi < p then 0 else 1 := by
  unfold inB
  by_cases h1 : p < lo
  · rw [if_pos h1, if_pos ((wide_lt _ _).mpr h1)]
  · rw [if_neg h1, if_neg (fun q => h1 ((wide_lt _ _).mp q))]
    by_cases h2 : hi < p
    · rw [if_pos h2, if_pos ((wide_lt _ _).mpr h2)]
    · rw [if_neg h2, if_neg (fun q => h2 ((wide_lt _ _).mp q))]
theorem in_rk (p : Int32) : inB p.toInt64 1 10 = rkB p := inB_i p 1 10
theorem in_gl (p : Int32) : inB p.toInt64 0 2 = glB p := inB_i p 0 2
theorem in_ac (p : Int32) : inB p.toInt64 0 4 = acB p := inB_i p 0 4
theorem in_0 {p lo hi : Int32} : (if p < lo then (0 : Int32) else if hi < p then 0 else 1) = 0 ↔ (p.toInt < lo.toInt ∨ hi.toInt < p.toInt) := by
  rw [← Int32.lt_iff_toInt_lt, ← Int32.lt_iff_toInt_lt]
  by_cases h1 : p < lo
  · simp [h1]
  · by_cases h2 : hi < p
    · simp [h1, h2]
    · simp [h1, h2]
theorem inB_0 (p lo hi : Int32) : inB p.toInt64 lo.toInt64 hi.toInt64 = 0 ↔ (p.toInt < lo.toInt ∨ hi.toInt < p.toInt) := by
  rw [inB_i]
  exact in_0
theorem eqI (p : Int32) (k : Int32) : p = k ↔ p.toInt = k.toInt := Int32.toInt_inj.symm
theorem in_pt (p : Int32) : inB p.toInt64 0 1 = ptB p := by
  have h := inB_i p 0 1
  have e0 : (0 : Int32).toInt = 0 := by decide
  have e1 : (1 : Int32).toInt = 1 := by decide
  refine h.trans ?_
  unfold ptB
  by_cases a : p = 0
  · subst a; decide
  · by_cases b : p = 1
    · subst b; decide
    · rw [if_neg a, if_neg b]
      rw [eqI, e0] at a
      rw [eqI, e1] at b
      refine in_0.mpr ?_
      rw [e0, e1]
      omega
theorem leI (p : Int32) (k : Int32) : p ≤ k ↔ p.toInt ≤ k.toInt := Int32.le_iff_toInt_le
theorem ltI (p : Int32) (k : Int32) : p < k ↔ p.toInt < k.toInt := Int32.lt_iff_toInt_lt
theorem left_in {p : Int32} (h : ¬ inB p.toInt64 0 10 = 0) : vp_in p 11 := by
  have q := inB_0 p 0 10
  have q : inB p.toInt64 0 10 = 0 ↔ (p.toInt < 0 ∨ 10 < p.toInt) := q
  rw [vp_in_iff]
  have := mt q.mpr h
  omega
