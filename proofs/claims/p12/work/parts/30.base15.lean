/-! the table is looked at -/
theorem thC_eq {w w2 g g2 : Nat → Int32} (n sm up tot p : Int32) (hw : ∀ j, j < 7 → w2 j = w j) (hg : ∀ j, j < 12 → g2 j = g j) : thC w2 n sm g2 up tot p = thC w n sm g up tot p := by
  unfold thC buC
  rw [hw 0 (by decide), hw 3 (by decide), hw 4 (by decide), hw 5 (by decide), hg 0 (by decide), hg 1 (by decide)]
theorem le12 {x : Int32} (h : x ≤ 12) : x.toInt ≤ 12 := (leI _ _).mp h
theorem le8 {x : Int32} (h : x ≤ 8) : x.toInt ≤ 12 := by have q := (leI _ _).mp h; have e : (8 : Int32).toInt = 8 := by decide
                                                         omega
