/-! the reference's table is laid -/
def capB (cc : Nat → Nat) (b : Nat) : Nat → Nat := fun j => if j = b then cc j - 1 else cc j
theorem smN_mono {a b : Nat → Nat} (h : ∀ j, 1 ≤ j → j ≤ 10 → a j ≤ b j) : smN a ≤ smN b := by
  unfold smN
  have h1 := h 1 (by omega) (by omega)
  have h2 := h 2 (by omega) (by omega)
  have h3 := h 3 (by omega) (by omega)
  have h4 := h 4 (by omega) (by omega)
  have h5 := h 5 (by omega) (by omega)
  have h6 := h 6 (by omega) (by omega)
  have h7 := h 7 (by omega) (by omega)
  have h8 := h 8 (by omega) (by omega)
  have h9 := h 9 (by omega) (by omega)
  have h0 := h 10 (by omega) (by omega)
  omega
theorem capB_le (cc : Nat → Nat) (b : Nat) : smN (capB cc b) ≤ smN cc := smN_mono (fun j _ _ => by unfold capB; by_cases z : j = b; rw [if_pos z]; omega; rw [if_neg z]; omega)
theorem sm12 {f : Nat → Int32} {cc : Nat → Nat} (hc : cntI f cc) (h : smN cc ≤ 12) : sm10 f ≤ 12 := by
  rw [sm10_N hc]
  exact nI_le (b := 12) h (by decide)
theorem sm12i {f : Nat → Int32} {cc : Nat → Nat} (hc : cntI f cc) (h : sm10 f ≤ 12) : smN cc ≤ 12 := by
  have hle := smN_le hc
  rw [sm10_N hc] at h
  exact (nI_leI (a := smN cc) (b := 12) (by omega) (by decide)).mp h
theorem sm8i {f : Nat → Int32} {cc : Nat → Nat} (hc : cntI f cc) (h : sm10 f ≤ 8) : smN cc ≤ 8 := by
  have hle := smN_le hc
  rw [sm10_N hc] at h
  exact (nI_leI (a := smN cc) (b := 8) (by omega) (by decide)).mp h
/-- what is left of a division of longs -/
theorem rm64 (x y : Int64) : (x - x / y * y).toInt = x.toInt.tmod y.toInt := by
  have up := (x % y).toInt_lt
  have lo := (x % y).le_toInt
  rw [Int64.toInt_mod] at up lo
  have e : (x - x / y * y).toInt = (x.toInt - y.toInt * x.toInt.tdiv y.toInt).bmod (2 ^ 64) := by
    rw [Int64.toInt_sub, Int64.toInt_mul, Int64.toInt_div, Int.bmod_mul_bmod, Int.sub_bmod_bmod, Int.mul_comm]
  rw [e, ← Int.tmod_def]
  exact Int.bmod_eq_of_le (by omega) (by omega)
theorem gcd_m {x y : Int64} (h : ¬ y = 0) : (x - x / y * y).toInt.natAbs < y.toInt.natAbs := by
  rw [rm64]
  have hy : y.toInt ≠ 0 := fun z => h (Int64.toInt_inj.mp (by rw [z]; rfl))
  rw [Int.natAbs_tmod]
  exact Nat.mod_lt _ (by omega)
theorem ord0_ne {j : Nat} (h : j ≤ 12) : ¬ ord0 j = 0 := by
  rcases (show j = 0 ∨ j = 1 ∨ j = 2 ∨ j = 3 ∨ j = 4 ∨ j = 5 ∨ j = 6 ∨ j = 7 ∨ j = 8 ∨ j = 9 ∨ j = 10 ∨ j = 11 ∨ j = 12 by omega) with rfl | rfl | rfl | rfl | rfl | rfl | rfl | rfl | rfl | rfl | rfl | rfl | rfl <;> decide
def e1N (i j : Nat) : Nat := if i = j then 1 else 0
theorem e1N_le (i j : Nat) : e1N i j ≤ 1 := by unfold e1N; by_cases h : i = j; rw [if_pos h]; omega; rw [if_neg h]; omega
def capD (cc : Nat → Nat) (a b u : Nat) : Nat → Nat := fun j => cc j - e1N j a - e1N j b - e1N j u
theorem capD_le (cc : Nat → Nat) (a b u : Nat) : smN (capD cc a b u) ≤ smN cc := smN_mono (fun j _ _ => by unfold capD; omega)
theorem dt_ok {c x y z : Nat} (hc : c ≤ 32) (hx : x ≤ 1) (hy : y ≤ 1) (hz : z ≤ 1) (h : 0 ≤ nI c - nI x - nI y - nI z) : x + y + z ≤ c ∧ nI c - nI x - nI y - nI z = nI (c - x - y - z) := by
  have e1 : (nI c - nI x).toInt = c - x := by rw [i32_sub (by rw [toInt_nI (by omega), toInt_nI (by omega)]; omega) (by rw [toInt_nI (by omega), toInt_nI (by omega)]; omega), toInt_nI (by omega), toInt_nI (by omega)]
  have e2 : (nI c - nI x - nI y).toInt = c - x - y := by rw [i32_sub (by rw [e1, toInt_nI (by omega)]; omega) (by rw [e1, toInt_nI (by omega)]; omega), e1, toInt_nI (by omega)]
  have e3 : (nI c - nI x - nI y - nI z).toInt = c - x - y - z := by rw [i32_sub (by rw [e2, toInt_nI (by omega)]; omega) (by rw [e2, toInt_nI (by omega)]; omega), e2, toInt_nI (by omega)]
  rw [leI, t0, e3] at h
  refine ⟨by omega, Int32.toInt_inj.mp ?_⟩
  rw [e3, toInt_nI (by omega)]
  omega
theorem ptB2 {p : Int32} (h : ¬ inB p.toInt64 1 10 = 0) : ∃ k : Nat, 1 ≤ k ∧ k ≤ 10 ∧ p = nI k := rk_nat (by rw [← in_rk]; exact h)
