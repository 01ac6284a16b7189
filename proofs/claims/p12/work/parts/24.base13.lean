/-! heaps are numbered -/
def hpC (f : Nat → Int32) : Nat → Int32
  | 0 => 1
  | k + 1 => hpC f k * (f (k + 1) + 1)
theorem hdC_k {f : Nat → Int32} {k : Nat} (h1 : 1 ≤ k) (h2 : k ≤ 10) : hdC f (nI k) = f k := by
  unfold hdC
  rw [if_neg (show ¬ nI k < 1 from nI_nlt (b := 1) h1 (by omega)), if_neg (show ¬ 10 < nI k from nI_nlt (a := 10) h2 (by decide)), nI_clamp (by omega)]
theorem rkB_k {k : Nat} (h1 : 1 ≤ k) (h2 : k ≤ 10) : ¬ rkB (nI k) = 0 := by
  unfold rkB
  rw [if_neg (show ¬ nI k < 1 from nI_nlt (b := 1) h1 (by omega)), if_neg (show ¬ 10 < nI k from nI_nlt (a := 10) h2 (by decide))]
  decide
theorem toInt_nI {k : Nat} (h : k < 2 ^ 31) : (nI k).toInt = (k : Int) := nI_toInt h
