/-! the class's rows -/
theorem adR_0 {p1 : Int32} {a : Nat} {X Y : Nat → Int64} : adR p1 a a X Y = X := by
  funext i
  unfold adR
  rw [if_neg (by omega)]
theorem adR_s {p1 : Int32} {a i : Nat} {X Y A9 : Nat → Int64} (h : a ≤ i) (e : A9 = adR p1 a i X Y) : vp_updL A9 i (A9 i + Y (nI i - p1).toNatClampNeg) = adR p1 a (i + 1) X Y := by
  subst e
  funext q
  unfold vp_updL adR
  by_cases z : q = i
  · subst z
    rw [if_pos rfl, if_neg (by omega), if_pos (by omega)]
  · rw [if_neg z]
    by_cases y : a ≤ q ∧ q < i
    · rw [if_pos y, if_pos (by omega)]
    · rw [if_neg y, if_neg (by omega)]
def rg9 (p1 : Int32) (a b : Nat) : Prop := a ≤ b ∧ ∀ i : Nat, i < 49 → ((a ≤ i ∧ i < b) ↔ (0 ≤ (i : Int) - p1.toInt ∧ (i : Int) - p1.toInt < 49))
theorem mk_rng2 {x : Int32} (h1 : -3 ≤ x.toInt) (h2 : x.toInt ≤ 3) : ∃ a b : Nat, (if 0 < x then x else 0) = nI a ∧ (if (49 + x) < 49 then (49 + x) else 49) = nI b ∧ b ≤ 49 ∧ a ≤ 3 ∧ (∀ i : Nat, a ≤ i → i < b → 0 ≤ (i : Int) - x.toInt ∧ (i : Int) - x.toInt < 49) ∧ rg9 x a b := by
  obtain ⟨a, b, ea, eb, hb, ha, hr⟩ := mk_rng h1 h2
  refine ⟨a, b, ea, eb, hb, ha, hr, ?_⟩
  have e49 : (49 : Int32).toInt = 49 := by decide
  have es : (49 + x).toInt = 49 + x.toInt := by rw [i32_add (by rw [e49]; omega) (by rw [e49]; omega), e49]
  have ia := congrArg Int32.toInt ea
  have ib := congrArg Int32.toInt eb
  rw [toInt_nI (by omega)] at ia ib
  by_cases z : 0 < x
  · rw [if_pos z] at ia
    rw [ltI, t0] at z
    rw [if_neg (by rw [ltI, es, e49]; omega), e49] at ib
    exact ⟨by omega, fun i hi => by omega⟩
  · rw [if_neg z, t0] at ia
    rw [ltI, t0] at z
    by_cases y : (49 + x) < 49
    · rw [if_pos y, es] at ib
      exact ⟨by omega, fun i hi => by omega⟩
    · rw [if_neg y, e49] at ib
      rw [ltI, es, e49] at y
      exact ⟨by omega, fun i hi => by omega⟩
theorem row_st {p1 : Int32} {a b most z : Nat} {o a9 n9 : Nat → Nat → Int64} {A9 : Nat → Int64} (h : ∀ k, k ≤ 8 → a9 k = if z < k ∧ k ≤ most then adR p1 a b (o k) (o (k - 1)) else o k) (z1 : 1 ≤ z) (z8 : z ≤ 8) (zm : z ≤ most) (e : A9 = adR p1 a b (a9 z) (a9 (z - 1))) (hn : ∀ k, k ≤ 8 → n9 k = if k = z then A9 else a9 k) :
    ∀ k, k ≤ 8 → n9 k = if z - 1 < k ∧ k ≤ most then adR p1 a b (o k) (o (k - 1)) else o k := by
  intro k hk
  rw [hn k hk]
  by_cases y : k = z
  · subst y
    rw [if_pos rfl, if_pos ⟨by omega, zm⟩, e, h k hk, h (k - 1) (by omega), if_neg (by omega), if_neg (by omega)]
  · rw [if_neg y, h k hk]
    by_cases u : z < k ∧ k ≤ most
    · rw [if_pos u, if_pos (by omega)]
    · rw [if_neg u, if_neg (by omega)]
theorem R49_m {sz : Nat} {P : Nat → Int → Nat} {p1 : Int32} {a b : Nat} {o n : Nat → Nat → Int64} (hm : -3 ≤ p1.toInt ∧ p1.toInt ≤ 3) (hg : rg9 p1 a b) (hS : kqS P) (h8 : sz ≤ 8) (h : R49 sz P o) (hr : ∀ k, k ≤ 8 → n k = if 0 < k ∧ k ≤ sz then adR p1 a b (o k) (o (k - 1)) else o k) : R49 sz (kqM p1.toInt P) n := by
  intro j i hj hi
  rw [hr j (by omega)]
  unfold kqM
  by_cases z : j = 0
  · subst z
    rw [if_neg (by omega), if_pos rfl, h 0 i hj hi]
    rfl
  · rw [if_pos ⟨by omega, hj⟩, if_neg z]
    unfold adR
    by_cases y : a ≤ i ∧ i < b
    · have q := (hg.2 i hi).mp y
      have e1 : (nI i - p1).toInt = (i : Int) - p1.toInt := by rw [i32_sub (by rw [toInt_nI (by omega)]; omega) (by rw [toInt_nI (by omega)]; omega), toInt_nI (by omega)]
      have e2 : (nI i - p1).toNatClampNeg = ((i : Int) - p1.toInt).toNat := by
        show (nI i - p1).toInt.toNat = _
        rw [e1]
      rw [if_pos y, h j i hj hi, e2, h (j - 1) _ (by omega) (by omega), lN_add, show ((((i : Int) - p1.toInt).toNat : Nat) : Int) - 24 = (i : Int) - 24 - p1.toInt by omega]
    · rw [if_neg y, h j i hj hi]
      have q := mt (hg.2 i hi).mpr y
      have z0 : P (j - 1) ((i : Int) - 24 - p1.toInt) = 0 := by
        rcases Nat.eq_zero_or_pos (P (j - 1) ((i : Int) - 24 - p1.toInt)) with u | u
        · exact u
        · have := hS _ _ u
          omega
      rw [z0]
      rfl
theorem R49_0 {sz : Nat} {a n : Nat → Nat → Int64} (h : ∀ q, q ≤ sz → ∀ j, j < 49 → a q j = 0) (hn0 : n 0 = vp_updL (a 0) 24 1) (hn : ∀ k, 1 ≤ k → k ≤ 8 → n k = a k) (h8 : sz ≤ 8) : R49 sz kqD n := by
  intro j i hj hi
  unfold kqD
  by_cases z : j = 0
  · subst z
    rw [hn0]
    unfold vp_updL
    by_cases y : i = 24
    · rw [if_pos y, if_pos ⟨rfl, by omega⟩]; decide
    · rw [if_neg y, if_neg (by omega), h 0 hj i hi]; decide
  · rw [hn j (by omega) (by omega), if_neg (by omega), h j hj i hi]; decide
theorem R49_at {sz : Nat} {P : Nat → Int → Nat} {a : Nat → Nat → Int64} {p3 : Int32} (h : R49 sz P a) (h1 : ¬ p3 < -24) (h2 : p3 ≤ 24) : a sz (24 + p3).toNatClampNeg = lN (P sz p3.toInt) := by
  have e1 : (24 : Int32).toInt = 24 := by decide
  have e2 : (-24 : Int32).toInt = -24 := by decide
  rw [ltI, e2] at h1
  rw [leI, e1] at h2
  have es : (24 + p3).toInt = 24 + p3.toInt := by rw [i32_add (by rw [e1]; omega) (by rw [e1]; omega), e1]
  have ec : (24 + p3).toNatClampNeg = (24 + p3.toInt).toNat := by
    show (24 + p3).toInt.toNat = _
    rw [es]
  rw [ec, h sz _ (Nat.le_refl _) (by omega), show (((24 + p3.toInt).toNat : Nat) : Int) - 24 = p3.toInt by omega]
/-! how many heaps there can be, and that there is one -/
theorem kqM_le {m : Int} {P : Nat → Int → Nat} {B : Nat} (h : ∀ j s, P j s ≤ B ^ j) : ∀ j s, kqM m P j s ≤ (B + 1) ^ j := by
  intro j s
  unfold kqM
  cases j with
  | zero => rw [if_pos rfl]; exact h 0 s
  | succ j =>
    rw [if_neg (by omega), Nat.add_sub_cancel]
    have h1 := h (j + 1) s
    have h2 := h j (s - m)
    have h3 : B ^ j ≤ (B + 1) ^ j := Nat.pow_le_pow_left (by omega) j
    have e1 : B ^ (j + 1) = B ^ j * B := Nat.pow_succ ..
    have e2 : (B + 1) ^ (j + 1) = (B + 1) ^ j * B + (B + 1) ^ j := by rw [Nat.pow_succ, Nat.mul_add, Nat.mul_one]
    have h4 : B ^ j * B ≤ (B + 1) ^ j * B := Nat.mul_le_mul_right B h3
    omega
theorem kqN_le {m : Int} {P : Nat → Int → Nat} {B : Nat} (h : ∀ j s, P j s ≤ B ^ j) : ∀ n j s, kqN m P n j s ≤ (B + n) ^ j := by
  intro n
  induction n with
  | zero => exact h
  | succ n ih => exact kqM_le ih
theorem kqW_le (mk : Nat → Int) (c : Nat → Nat) : ∀ k j s, kqW mk c k j s ≤ (1 + smU c k) ^ j := by
  intro k
  induction k with
  | zero =>
    intro j s
    show (if j = 0 ∧ s = 0 then 1 else 0) ≤ (1 + 0) ^ j
    rw [Nat.add_zero, Nat.one_pow]
    split <;> omega
  | succ k ih =>
    intro j s
    have := kqN_le (m := mk (k + 1)) ih (c (k + 1)) j s
    rw [Nat.add_assoc] at this
    exact this
theorem kqW_b {mk : Nat → Int} {c : Nat → Nat} {k j : Nat} {s : Int} (h : smU c k ≤ 60) (hj : j ≤ 8) : kqW mk c k j s ≤ 61 ^ 8 := Nat.le_trans (kqW_le mk c k j s) (Nat.le_trans (Nat.pow_le_pow_left (by omega) j) (Nat.pow_le_pow_right (by omega) hj))
theorem kqN_ge {m : Int} {P : Nat → Int → Nat} : ∀ n q, q ≤ n → ∀ j s, P j s ≤ kqN m P n (j + q) (s + (q : Int) * m) := by
  intro n
  induction n with
  | zero =>
    intro q hq j s
    obtain rfl : q = 0 := by omega
    show P j s ≤ P (j + 0) (s + ((0 : Nat) : Int) * m)
    rw [show ((0 : Nat) : Int) = 0 from rfl, Int.zero_mul, Int.add_zero]
    exact Nat.le_refl _
  | succ n ih =>
    intro q hq j s
    show P j s ≤ kqN m P n (j + q) (s + (q : Int) * m) + (if j + q = 0 then 0 else kqN m P n (j + q - 1) (s + (q : Int) * m - m))
    rcases Nat.lt_or_ge q (n + 1) with z | z
    · exact Nat.le_trans (ih q (by omega) j s) (Nat.le_add_right _ _)
    · obtain ⟨q, rfl⟩ : ∃ i, q = i + 1 := ⟨q - 1, by omega⟩
      have e : s + ((q + 1 : Nat) : Int) * m - m = s + (q : Int) * m := by
        rw [show ((q + 1 : Nat) : Int) = (q : Int) + 1 by omega, Int.add_mul, Int.one_mul]
        omega
      rw [if_neg (by omega), e, show j + (q + 1) - 1 = j + q by omega]
      exact Nat.le_trans (ih q (by omega) j s) (Nat.le_add_left _ _)
theorem kqW_pos {mk : Nat → Int32} {cf cg : Nat → Nat} (h : ∀ j, 1 ≤ j → j ≤ 10 → cg j ≤ cf j) : ∀ k, k ≤ 10 → 0 < kqW (fun j => (mk j).toInt) cf k (smU cg k) (mkS mk cg k) := by
  intro k
  induction k with
  | zero => intro _; exact (show 0 < kqD 0 0 by decide)
  | succ k ih =>
    intro hk
    exact Nat.lt_of_lt_of_le (ih (by omega)) (kqN_ge (cf (k + 1)) (cg (k + 1)) (h (k + 1) (by omega) hk) _ _)
/-! what is known -/
def knV (k : Nat) (p1 : Int32) (mk : Nat → Int32) (cf cg : Nat → Nat) : Int64 := ptV (lN (cf k * kqW (fun j => (mk j).toInt) (updN cf k (cf k - 1)) 10 (smN cg) (mkS mk cg 10))) (kqW (fun j => (mk j).toInt) cf 10 (smN cg) (mkS mk cg 10)) p1
theorem pt_0 {y : Nat} {p1 : Int32} (h : 0 < y) (h2 : y < 2 ^ 62) : ptV (lN 0) y p1 = ptV (lN 0) 1 p1 := by
  unfold ptV
  have e : (lN 0).toInt.natAbs = 0 := by decide
  rw [e, Nat.gcd_zero_left, Nat.gcd_zero_left]
  have e1 : (lN 0 : Int64) / lN y = lN 0 / lN 1 := by
    rw [lB_div (by decide) h2, lB_div (by decide) (by decide), Nat.zero_div, Nat.zero_div]
  have e2 : lN y / lN y = lN 1 / lN 1 := by
    rw [lB_div h2 h2, lB_div (by decide) (by decide), Nat.div_self h]
  rw [e1, e2]
