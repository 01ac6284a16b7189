def flB (n : Int32) : Int32 := if n < 12 then 0 else 1
theorem flB_0 {n : Int32} (h : flB n = 0) : n < 12 := by
  unfold flB at h
  by_cases q : n < 12
  · exact q
  · rw [if_neg q] at h; exact absurd h (by decide)
theorem flB_1 {n : Int32} (h : ¬ flB n = 0) : ¬ n < 12 := fun q => h (by unfold flB; rw [if_pos q])
theorem pos_ne {x : Int32} (h : 0 ≤ x) (h2 : ¬ x = 0) : 0 < x := by
  rw [Int32.lt_iff_toInt_lt]
  have a := Int32.le_iff_toInt_le.mp h
  have b : ¬ x.toInt = (0 : Int32).toInt := fun z => h2 (Int32.toInt_inj.mp z)
  omega
