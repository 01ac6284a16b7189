/-! what the small methods answer -/
def hdC (f : Nat → Int32) (p : Int32) : Int32 := if p < 1 then 0 else if 10 < p then 0 else f p.toNatClampNeg
def rkAt (f : Nat → Int32) (p : Int32) : Int32 := if f 1 ≤ p then (if f 2 ≤ (p - f 1) then (if f 3 ≤ ((p - f 1) - f 2) then (if f 4 ≤ (((p - f 1) - f 2) - f 3) then (if f 5 ≤ ((((p - f 1) - f 2) - f 3) - f 4) then (if f 6 ≤ (((((p - f 1) - f 2) - f 3) - f 4) - f 5) then (if f 7 ≤ ((((((p - f 1) - f 2) - f 3) - f 4) - f 5) - f 6) then (if f 8 ≤ (((((((p - f 1) - f 2) - f 3) - f 4) - f 5) - f 6) - f 7) then (if f 9 ≤ ((((((((p - f 1) - f 2) - f 3) - f 4) - f 5) - f 6) - f 7) - f 8) then (10) else 9) else 8) else 7) else 6) else 5) else 4) else 3) else 2) else 1
theorem n12_in {x : Int32} (h1 : ¬ x < 0) (h2 : x < 12) : vp_in x 12 := by
  rw [vp_in_iff]
  have a := n32 h1
  have b := Int32.lt_iff_toInt_lt.mp h2
  have e1 : (0 : Int32).toInt = 0 := by decide
  have e2 : (12 : Int32).toInt = 12 := by decide
  rw [e1] at a
  rw [e2] at b
  omega
