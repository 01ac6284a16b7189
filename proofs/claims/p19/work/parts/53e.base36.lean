/-! what is known: bounds, and the two answers -/
theorem lB_abs {n : Nat} (h : n < 2 ^ 62) : (lN n).toInt.natAbs < 2 ^ 62 := by
  rw [lB_toInt (by omega)]
  omega
theorem kn_b {mk : Nat → Int} {cf : Nat → Nat} {k j : Nat} {s : Int} (hc : ∀ j, 1 ≤ j → j ≤ 10 → cf j ≤ 32) (h60 : smN cf ≤ 60) (hj : j ≤ 8) (k1 : 1 ≤ k) (k2 : k ≤ 10) : kqW mk cf 10 j s < 2 ^ 62 ∧ cf k * kqW mk (updN cf k (cf k - 1)) 10 j s < 2 ^ 62 := by
  have b := kqW_b (mk := mk) (c := cf) (k := 10) (j := j) (s := s) (by rw [smU_10]; exact h60) hj
  have q := (kqT_id (mk := mk) (rk := k) hc 10 (by omega) j s hj).2 k2 k1
  have u : cf k * kqW mk cf 10 j s ≤ 32 * 61 ^ 8 := Nat.mul_le_mul (hc k k1 k2) b
  have e : 32 * 61 ^ 8 < 2 ^ 62 := by decide
  have e2 : 61 ^ 8 < 2 ^ 62 := by decide
  omega
theorem lN_subT {a b c : Nat} (h : a = b + c) : lN a - lN b = lN c := by
  rw [lN_sub (by omega)]
  congr 1
  omega
theorem fW_0 {n : Nat} {wv : Nat → Nat} {c i : Nat} (h : wv i = 0) : fW n wv c i = 0 := by unfold fW; rw [h, Nat.mul_zero]
theorem fT_0 {n : Nat} {e : Bool} {wv tk : Nat → Nat} {c i : Nat} (h : wv i = 0) (h2 : tk i = 0) : fT n e wv tk c i = 0 := by
  unfold fT
  rw [h, h2, Nat.mul_zero, Nat.mul_zero]
  split <;> rfl
theorem tk_add {P : Prop} [Decidable P] {e : Bool} {x n cn i : Nat} {wv tk : Nat → Nat} (he : decide P = e) (hcn : cn < 2 ^ 31) : lN x + (lN (chN n cn) * lN (tk i) + (if P then ((nI cn).toInt64 * lN (chN n cn)) * lN (wv i) else 0)) = lN (x + fT n e wv tk cn i) := by
  subst he
  unfold fT
  by_cases h : P
  · rw [if_pos h, decide_eq_true h, if_pos rfl, nI_l hcn, lN_mul, lN_mul, lN_mul, lN_add, lN_add]
  · rw [if_neg h, decide_eq_false h, if_neg (by decide), Int64.add_zero, lN_mul, lN_add, Nat.add_zero]
theorem kn24 {mk fg : Nat → Int32} {cg : Nat → Nat} (hg : cntI fg cg) (h : ∀ j, 1 ≤ j → j ≤ 10 → -3 ≤ (mk j).toInt ∧ (mk j).toInt ≤ 3) (h8 : smN cg ≤ 8) : ¬ cntG mk fg < -24 ∧ cntG mk fg ≤ 24 := by
  have e := cnt_mkS hg h
  have b := mkS_b (cg := cg) h 10 (by omega)
  rw [smU_10] at b
  have e1 : (24 : Int32).toInt = 24 := by decide
  have e2 : (-24 : Int32).toInt = -24 := by decide
  rw [ltI, leI, e1, e2, e]
  omega
theorem kn_pos {mk : Nat → Int32} {cf cg : Nat → Nat} (h : ∀ j, 1 ≤ j → j ≤ 10 → cg j ≤ cf j) : 0 < kqW (fun j => (mk j).toInt) cf 10 (smN cg) (mkS mk cg 10) := by
  have := kqW_pos (mk := mk) h 10 (by omega)
  rw [smU_10] at this
  exact this
theorem kq0 (most : Nat) : R61 most kqD (updN (fun _ => 0) 30 1) := by
  intro j t a b
  unfold updN kqD
  by_cases z : 61 * j + t = 30
  · rw [if_pos z, if_pos ⟨by omega, by omega⟩]
  · rw [if_neg z, if_neg (by omega)]
theorem kq0T {mk : Nat → Int} {c : Nat → Nat} {rk most : Nat} : R61 most (kqT mk c rk 0) (fun _ => 0) := fun _ _ _ _ => rfl
theorem kqW_cg {m m' : Nat → Int} {c : Nat → Nat} (h : ∀ j, 1 ≤ j → j ≤ 10 → m j = m' j) : ∀ k, k ≤ 10 → kqW m c k = kqW m' c k := by
  intro k
  induction k with
  | zero => intro _; rfl
  | succ k ih =>
    intro hk
    show kqN (m (k + 1)) (kqW m c k) (c (k + 1)) = kqN (m' (k + 1)) (kqW m' c k) (c (k + 1))
    rw [ih (by omega), h (k + 1) (by omega) hk]
theorem mkS_cg {m m' : Nat → Int32} {c : Nat → Nat} (h : ∀ j, 1 ≤ j → j ≤ 10 → m j = m' j) : ∀ k, k ≤ 10 → mkS m c k = mkS m' c k := by
  intro k
  induction k with
  | zero => intro _; rfl
  | succ k ih =>
    intro hk
    show mkS m c k + (c (k + 1) : Int) * (m (k + 1)).toInt = mkS m' c k + (c (k + 1) : Int) * (m' (k + 1)).toInt
    rw [ih (by omega), h (k + 1) (by omega) hk]
theorem knV_cg {m m' : Nat → Int32} {k : Nat} {p1 : Int32} {cf cg : Nat → Nat} (h : ∀ j, 1 ≤ j → j ≤ 10 → m' j = m j) : knV k p1 m cf cg = knV k p1 m' cf cg := by
  have h1 : ∀ j, 1 ≤ j → j ≤ 10 → (fun j => (m j).toInt) j = (fun j => (m' j).toInt) j := fun j a b => by show (m j).toInt = (m' j).toInt; rw [h j a b]
  unfold knV
  rw [kqW_cg h1 10 (by omega), kqW_cg h1 10 (by omega), mkS_cg (fun j a b => (h j a b).symm) 10 (by omega)]
