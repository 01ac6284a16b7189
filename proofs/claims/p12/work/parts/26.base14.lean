theorem p22_in {k : Nat} (h : k ≤ 21) : vp_in (nI k) 22 := vp_in_nI (by omega) (by decide)
theorem l_pos {x : Int32} (h : ¬ lg_cmp x.toInt64 0 ≤ 0) : ¬ x ≤ 0 := fun z => h ((lg_cmp_le _ _).mpr (by
  rw [Int64.le_iff_toInt_le, Int32.toInt_toInt64]
  exact (leI _ _).mp z))
theorem l_npos {x : Int32} (h : lg_cmp x.toInt64 0 ≤ 0) : x ≤ 0 := (leI _ _).mpr (by
  have q := (lg_cmp_le _ _).mp h
  rw [Int64.le_iff_toInt_le, Int32.toInt_toInt64] at q
  exact q)
theorem dec_b {x : Int32} (h : -1000 ≤ x.toInt) : (x - 1).toInt = x.toInt - 1 := by rw [i32_sub (by rw [t1]; omega) (by rw [t1]; have := x.toInt_lt; omega), t1]
theorem hp_in2 {p : Int32} (h1 : ¬ p < 0) (h2 : p < 2304) : vp_in p 2304 := hp_in h1 (fun z => by rw [ltI] at h2; rw [leI] at z; omega)
theorem rm_bnd {f f2 : Nat → Int32} {tot tot2 p r : Int32} (h : r = hdC f p ∧ if hdC f p ≤ 0 then tot2 = tot ∧ f2 = f else tot2 = tot - 1 ∧ f2 = upd f p.toNatClampNeg (f p.toNatClampNeg - 1)) (hb : -900 ≤ tot.toInt) : tot.toInt - 1 ≤ tot2.toInt ∧ tot2.toInt ≤ tot.toInt := by
  by_cases z : r ≤ 0
  · rw [(rm_no h z).1]; omega
  · rw [(rm_yes h z).1, dec_b (by omega)]; omega
