theorem lt_nle {x y : Int32} (h : x < y) : ¬ y ≤ x := fun z => by rw [ltI] at h; rw [leI] at z; omega
theorem nlt_le {x y : Int32} (h : ¬ x < y) : y ≤ x := by rw [ltI] at h; rw [leI]; omega
