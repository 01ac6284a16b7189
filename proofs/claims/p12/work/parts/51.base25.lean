theorem clr0 {g : Nat → Int64} {k : Nat} (h : ∀ j, j < k → g j = 0) : ∀ j, j < k + 1 → vp_updL g k 0 j = 0 := by
  intro j a
  unfold vp_updL
  by_cases z : j = k
  · rw [if_pos z]
  · rw [if_neg z]; exact h j (by omega)
theorem clrc {g f : Nat → Int64} {k : Nat} (h : ∀ j, j < k → g j = f j) : ∀ j, j < k + 1 → vp_updL g k (f k) j = f j := by
  intro j a
  unfold vp_updL
  by_cases z : j = k
  · rw [if_pos z, z]
  · rw [if_neg z]; exact h j (by omega)
theorem upd_lN {g : Nat → Int64} {nw : Nat → Nat} {t x : Nat} {v : Int64} (h : ∀ i, i < 549 → g i = lN (nw i)) (ht : t < 549) (hv : v = lN x) : ∀ i, i < 549 → vp_updL g t v i = lN (updN nw t x i) := by
  intro i hi
  unfold vp_updL updN
  by_cases z : i = t
  · rw [if_pos z, if_pos z, hv]
  · rw [if_neg z, if_neg z]; exact h i hi
/-- the marks of what is gone, as far as rank k -/
def mkS (mk : Nat → Int32) (cg : Nat → Nat) : Nat → Int
  | 0 => 0
  | k + 1 => mkS mk cg k + (cg (k + 1) : Int) * (mk (k + 1)).toInt
theorem mkS_b {mk : Nat → Int32} {cg : Nat → Nat} (h : ∀ j, 1 ≤ j → j ≤ 10 → -3 ≤ (mk j).toInt ∧ (mk j).toInt ≤ 3) : ∀ k, k ≤ 10 → -(3 * (smU cg k : Int)) ≤ mkS mk cg k ∧ mkS mk cg k ≤ 3 * (smU cg k : Int) := by
  intro k
  induction k with
  | zero => intro _; exact ⟨(by decide : -(3 * ((0 : Nat) : Int)) ≤ 0), (by decide : (0 : Int) ≤ 3 * ((0 : Nat) : Int))⟩
  | succ k ih =>
    intro hk
    obtain ⟨a, b⟩ := ih (by omega)
    obtain ⟨m1, m2⟩ := h (k + 1) (by omega) hk
    have p1 : (cg (k + 1) : Int) * (mk (k + 1)).toInt ≤ cg (k + 1) * 3 := Int.mul_le_mul_of_nonneg_left m2 (by omega)
    have p2 : (cg (k + 1) : Int) * (-3) ≤ cg (k + 1) * (mk (k + 1)).toInt := Int.mul_le_mul_of_nonneg_left m1 (by omega)
    show -(3 * ((smU cg k + cg (k + 1) : Nat) : Int)) ≤ mkS mk cg k + (cg (k + 1) : Int) * (mk (k + 1)).toInt ∧ mkS mk cg k + (cg (k + 1) : Int) * (mk (k + 1)).toInt ≤ 3 * ((smU cg k + cg (k + 1) : Nat) : Int)
    omega
theorem smU_mono (c : Nat → Nat) (k n : Nat) : smU c k ≤ smU c (k + n) := by
  induction n with
  | zero => exact Nat.le_refl _
  | succ n ih => exact Nat.le_trans ih (Nat.le_add_right _ _)
theorem smU_le10 (c : Nat → Nat) {k : Nat} (h : k ≤ 10) : smU c k ≤ smN c := by
  have := smU_mono c k (10 - k)
  rw [show k + (10 - k) = 10 by omega, smU_10] at this
  exact this
theorem smU_s (c : Nat → Nat) {k : Nat} (h : 1 ≤ k) : smU c k = smU c (k - 1) + c k := by
  obtain ⟨i, rfl⟩ : ∃ i, k = i + 1 := ⟨k - 1, by omega⟩
  rfl
theorem mkS_s (mk : Nat → Int32) (c : Nat → Nat) {k : Nat} (h : 1 ≤ k) : mkS mk c k = mkS mk c (k - 1) + (c k : Int) * (mk k).toInt := by
  obtain ⟨i, rfl⟩ : ∃ i, k = i + 1 := ⟨k - 1, by omega⟩
  rfl
/-- the reference's sum of marks -/
theorem cnt_mkS {mk fw : Nat → Int32} {cg : Nat → Nat} (hg : ∀ j, 1 ≤ j → j ≤ 10 → fw j = nI (cg j) ∧ cg j ≤ 32) (h : ∀ j, 1 ≤ j → j ≤ 10 → -3 ≤ (mk j).toInt ∧ (mk j).toInt ≤ 3) : (cntG mk fw).toInt = mkS mk cg 10 := by
  have t : ∀ j, 1 ≤ j → j ≤ 10 → (mk j * fw j).toInt = (cg j : Int) * (mk j).toInt ∧ -96 ≤ (cg j : Int) * (mk j).toInt ∧ (cg j : Int) * (mk j).toInt ≤ 96 := by
    intro j a b
    obtain ⟨e, l⟩ := hg j a b
    obtain ⟨m1, m2⟩ := h j a b
    have p1 : (cg j : Int) * (mk j).toInt ≤ cg j * 3 := Int.mul_le_mul_of_nonneg_left m2 (by omega)
    have p2 : (cg j : Int) * (-3) ≤ cg j * (mk j).toInt := Int.mul_le_mul_of_nonneg_left m1 (by omega)
    refine ⟨?_, by omega, by omega⟩
    rw [e, Int32.toInt_mul, toInt_nI (by omega), Int.mul_comm]
    exact Int.bmod_eq_of_le (by omega) (by omega)
  have ad : ∀ (x y : Int32) (p q : Int), x.toInt = p → y.toInt = q → -100000 ≤ p → p ≤ 100000 → -96 ≤ q → q ≤ 96 → (x + y).toInt = p + q := by
    intro x y p q ex ey a b c d
    rw [i32_add (by omega) (by omega), ex, ey]
  have t1 := t 1 (by omega) (by omega)
  have t2 := t 2 (by omega) (by omega)
  have t3 := t 3 (by omega) (by omega)
  have t4 := t 4 (by omega) (by omega)
  have t5 := t 5 (by omega) (by omega)
  have t6 := t 6 (by omega) (by omega)
  have t7 := t 7 (by omega) (by omega)
  have t8 := t 8 (by omega) (by omega)
  have t9 := t 9 (by omega) (by omega)
  have tt := t 10 (by omega) (by omega)
  unfold cntG
  have a1 := ad 0 _ 0 _ (by decide) t1.1 (by omega) (by omega) t1.2.1 t1.2.2
  have a2 := ad _ _ _ _ a1 t2.1 (by omega) (by omega) t2.2.1 t2.2.2
  have a3 := ad _ _ _ _ a2 t3.1 (by omega) (by omega) t3.2.1 t3.2.2
  have a4 := ad _ _ _ _ a3 t4.1 (by omega) (by omega) t4.2.1 t4.2.2
  have a5 := ad _ _ _ _ a4 t5.1 (by omega) (by omega) t5.2.1 t5.2.2
  have a6 := ad _ _ _ _ a5 t6.1 (by omega) (by omega) t6.2.1 t6.2.2
  have a7 := ad _ _ _ _ a6 t7.1 (by omega) (by omega) t7.2.1 t7.2.2
  have a8 := ad _ _ _ _ a7 t8.1 (by omega) (by omega) t8.2.1 t8.2.2
  have a9 := ad _ _ _ _ a8 t9.1 (by omega) (by omega) t9.2.1 t9.2.2
  have aa := ad _ _ _ _ a9 tt.1 (by omega) (by omega) tt.2.1 tt.2.2
  exact aa
/-- where the sum of what is gone lies -/
theorem at_N {mk fw : Nat → Int32} {cg : Nat → Nat} (hg : ∀ j, 1 ≤ j → j ≤ 10 → fw j = nI (cg j) ∧ cg j ≤ 32) (h : ∀ j, 1 ≤ j → j ≤ 10 → -3 ≤ (mk j).toInt ∧ (mk j).toInt ≤ 3) (h8 : smN cg ≤ 8) : ∃ t : Nat, (t : Int) = 30 + mkS mk cg 10 ∧ t < 61 ∧ nI (61 * smN cg + 30) + cntG mk fw = nI (61 * smN cg + t) := by
  have e := cnt_mkS hg h
  have b := mkS_b (cg := cg) h 10 (by omega)
  rw [smU_10] at b
  refine ⟨(30 + mkS mk cg 10).toNat, by omega, by omega, Int32.toInt_inj.mp ?_⟩
  rw [i32_add (by rw [e, toInt_nI (by omega)]; omega) (by rw [e, toInt_nI (by omega)]; omega), e, toInt_nI (by omega), toInt_nI (by omega)]
  omega
theorem sm60i {f : Nat → Int32} {cc : Nat → Nat} (hc : cntI f cc) (h : ¬ 60 < sm10 f) : smN cc ≤ 60 := by
  have hle := smN_le hc
  rw [sm10_N hc] at h
  have := mt (nI_ltI (a := 60) (b := smN cc) (by decide) (by omega)).mpr h
  omega
theorem wok0 {a : Nat → Int64} (h : ∀ j, j < 549 → a j = 0) : (∀ i, i < 549 → vp_updL a 30 1 i = lN (updN (fun _ => 0) 30 1 i)) := by
  intro i hi
  unfold vp_updL updN
  by_cases z : i = 30
  · rw [if_pos z, if_pos z]; decide
  · rw [if_neg z, if_neg z, h i hi]; exact (by decide : (0 : Int64) = lN 0)
theorem wok1 (most : Nat) : WOK 0 most (updN (fun _ => 0) 30 1) := by
  intro j s _ hs
  unfold updN
  by_cases z : 61 * j + s = 30
  · obtain ⟨rfl, rfl⟩ : j = 0 ∧ s = 30 := by omega
    exact ⟨by decide, fun _ => by omega⟩
  · rw [if_neg z]
    exact ⟨Nat.zero_le _, fun z => absurd z (Nat.lt_irrefl 0)⟩
