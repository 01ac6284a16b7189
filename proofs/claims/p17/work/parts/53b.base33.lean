/-! the common divisor and a part of a fraction -/
theorem lB_rem {a b : Nat} (ha : a < 2 ^ 62) (hb : b < 2 ^ 62) : lN a - lN a / lN b * lN b = lN (a % b) := by
  rw [lB_div ha hb, lN_mul, lN_sub (Nat.div_mul_le_self a b)]
  congr 1
  have := Nat.div_add_mod a b
  rw [Nat.mul_comm] at this
  omega
theorem lB_z {n : Nat} (h : n < 2 ^ 63) : lN n = 0 ↔ n = 0 := by
  constructor
  · intro z
    exact Decidable.byContradiction (fun y => lB_ne h (Nat.pos_of_ne_zero y) z)
  · intro z; rw [z]; decide
def gcI (k x y : Nat) : Prop := x < 2 ^ 62 ∧ y < 2 ^ 62 ∧ (k = 0 ∨ y < x) ∧ x * y * 2 ^ k < 2 ^ 126
theorem gcI_0 {x y : Nat} (hx : x < 2 ^ 62) (hy : y < 2 ^ 62) : gcI 0 x y := by
  refine ⟨hx, hy, Or.inl rfl, ?_⟩
  have : x * y ≤ 2 ^ 62 * 2 ^ 62 := Nat.mul_le_mul (Nat.le_of_lt hx) (Nat.le_of_lt hy)
  rw [Nat.pow_zero, Nat.mul_one]
  exact Nat.lt_of_le_of_lt this (by decide)
theorem gcI_s {k x y : Nat} (h : gcI k x y) (hy : 0 < y) : gcI (k + 1) y (x % y) := by
  obtain ⟨a, b, c, d⟩ := h
  have lt := Nat.mod_lt x hy
  refine ⟨b, Nat.lt_trans lt b, Or.inr lt, ?_⟩
  rcases c with rfl | c
  · have h1 : y * (x % y) ≤ 2 ^ 62 * 2 ^ 62 := Nat.mul_le_mul (Nat.le_of_lt b) (Nat.le_of_lt (Nat.lt_trans lt b))
    have h2 : y * (x % y) * 2 ^ (0 + 1) ≤ 2 ^ 62 * 2 ^ 62 * 2 ^ (0 + 1) := Nat.mul_le_mul_right _ h1
    exact Nat.lt_of_le_of_lt h2 (by decide)
  · have h2 : 2 * (x % y) ≤ x := by
      have e := Nat.div_add_mod x y
      have q : y ≤ y * (x / y) := Nat.le_mul_of_pos_right y (Nat.div_pos (Nat.le_of_lt c) hy)
      generalize y * (x / y) = u at e q
      generalize x % y = v at e lt ⊢
      omega
    have e : y * (x % y) * 2 ^ (k + 1) = y * (2 * (x % y)) * 2 ^ k := by rw [Nat.pow_succ]; ac_rfl
    rw [e]
    refine Nat.lt_of_le_of_lt (Nat.mul_le_mul_right _ (Nat.mul_le_mul_left y h2)) ?_
    rw [Nat.mul_comm y x]
    exact d
theorem gcI_e {k x y : Nat} (h : gcI k x y) (hk : 200 ≤ k) : y = 0 := by
  obtain ⟨a, b, c, d⟩ := h
  rcases Nat.eq_zero_or_pos y with z | z
  · exact z
  · exfalso
    have cx : y < x := by rcases c with c | c <;> omega
    have p : 0 < x * y := Nat.mul_pos (by omega) z
    have q : 2 ^ 200 ≤ x * y * 2 ^ k := Nat.le_trans (Nat.pow_le_pow_right (by decide) hk) (Nat.le_mul_of_pos_left _ p)
    exact absurd (Nat.lt_of_le_of_lt q d) (by decide)
theorem gcd_st (x y : Nat) : Nat.gcd y (x % y) = Nat.gcd x y := by
  rw [Nat.gcd_comm y (x % y), ← Nat.gcd_rec y x, Nat.gcd_comm y x]
def ptV (p0 : Int64) (y : Nat) (p2 : Int32) : Int64 := if p2 = 0 then p0 / lN (Nat.gcd p0.toInt.natAbs y) else lN y / lN (Nat.gcd p0.toInt.natAbs y)
theorem neg_l {x : Int64} (h : x.toInt.natAbs < 2 ^ 62) : (-x).toInt = -x.toInt := by
  rw [Int64.toInt_neg]
  exact Int.bmod_eq_of_le (by omega) (by omega)
theorem abs_l {x : Int64} (h : x.toInt.natAbs < 2 ^ 62) : (if 0 < x then x else -x) = lN x.toInt.natAbs := by
  have z0 : (0 : Int64).toInt = 0 := by decide
  apply Int64.toInt_inj.mp
  rw [lB_toInt (by omega)]
  by_cases z : 0 < x
  · rw [if_pos z]
    rw [Int64.lt_iff_toInt_lt, z0] at z
    omega
  · rw [if_neg z, neg_l h]
    rw [Int64.lt_iff_toInt_lt, z0] at z
    omega
theorem abs_m {x : Int64} (h : x.toInt.natAbs < 2 ^ 62) : (if x < 0 then -x else x) = lN x.toInt.natAbs := by
  have z0 : (0 : Int64).toInt = 0 := by decide
  apply Int64.toInt_inj.mp
  rw [lB_toInt (by omega)]
  by_cases z : x < 0
  · rw [if_pos z, neg_l h]
    rw [Int64.lt_iff_toInt_lt, z0] at z
    omega
  · rw [if_neg z]
    rw [Int64.lt_iff_toInt_lt, z0] at z
    omega
theorem lB_gt {n : Nat} (h0 : 0 < n) (h : n < 2 ^ 63) : (0 : Int64) < lN n := by
  have z0 : (0 : Int64).toInt = 0 := by decide
  rw [Int64.lt_iff_toInt_lt, lB_toInt h, z0]
  omega
theorem abs_p {x : Int64} (h : 0 ≤ lg_cmp x 0) (h2 : x.toInt.natAbs < 2 ^ 62) : x = lN x.toInt.natAbs := by
  have z0 : (0 : Int64).toInt = 0 := by decide
  rw [lg_cmp_ge, Int64.le_iff_toInt_le, z0] at h
  apply Int64.toInt_inj.mp
  rw [lB_toInt (by omega)]
  omega
theorem abs_n {x : Int64} (h : ¬ 0 ≤ lg_cmp x 0) (h2 : x.toInt.natAbs < 2 ^ 62) : -x = lN x.toInt.natAbs := by
  have z0 : (0 : Int64).toInt = 0 := by decide
  rw [lg_cmp_ge, Int64.le_iff_toInt_le, z0] at h
  apply Int64.toInt_inj.mp
  rw [lB_toInt (by omega), neg_l h2]
  omega
theorem gcd_b {x y : Nat} (hy : 0 < y) (h : y < 2 ^ 62) : 0 < Nat.gcd x y ∧ Nat.gcd x y < 2 ^ 62 := ⟨Nat.gcd_pos_of_pos_right x hy, Nat.lt_of_le_of_lt (Nat.le_of_dvd hy (Nat.gcd_dvd_right x y)) h⟩
/-! sums -/
def sg (F : Nat → Nat) : Nat → Nat
  | 0 => 0
  | J + 1 => sg F J + F J
theorem sg_cg {F G : Nat → Nat} : ∀ n, (∀ J, J < n → F J = G J) → sg F n = sg G n := by
  intro n
  induction n with
  | zero => intro _; rfl
  | succ n ih =>
    intro h
    show sg F n + F n = sg G n + G n
    rw [ih (fun J a => h J (by omega)), h n (by omega)]
theorem sg_z {F : Nat → Nat} : ∀ n, (∀ J, J < n → F J = 0) → sg F n = 0 := by
  intro n
  induction n with
  | zero => intro _; rfl
  | succ n ih =>
    intro h
    show sg F n + F n = 0
    rw [ih (fun J a => h J (by omega)), h n (by omega)]
theorem sg_add (F G : Nat → Nat) (n : Nat) : sg (fun J => F J + G J) n = sg F n + sg G n := by
  induction n with
  | zero => rfl
  | succ n ih =>
    show sg (fun J => F J + G J) n + (F n + G n) = sg F n + F n + (sg G n + G n)
    rw [ih]; omega
theorem sg_mul (c : Nat) (F : Nat → Nat) (n : Nat) : sg (fun J => c * F J) n = c * sg F n := by
  induction n with
  | zero => rfl
  | succ n ih =>
    show sg (fun J => c * F J) n + c * F n = c * (sg F n + F n)
    rw [ih, Nat.mul_add]
theorem sg_ab {F : Nat → Nat} {n : Nat} (h : ∀ J, n ≤ J → F J = 0) : ∀ d, sg F (n + d) = sg F n := by
  intro d
  induction d with
  | zero => rfl
  | succ d ih =>
    show sg F (n + d) + F (n + d) = sg F n
    rw [ih, h _ (by omega)]
    rfl
/-! heaps by size and by sum of marks -/
def kqM (m : Int) (P : Nat → Int → Nat) : Nat → Int → Nat := fun j s => P j s + (if j = 0 then 0 else P (j - 1) (s - m))
def kqN (m : Int) (P : Nat → Int → Nat) : Nat → Nat → Int → Nat
  | 0 => P
  | n + 1 => kqM m (kqN m P n)
def kqD : Nat → Int → Nat := fun j s => if j = 0 ∧ s = 0 then 1 else 0
def kqW (mk : Nat → Int) (c : Nat → Nat) : Nat → Nat → Int → Nat
  | 0 => kqD
  | k + 1 => kqN (mk (k + 1)) (kqW mk c k) (c (k + 1))
def kqS (P : Nat → Int → Nat) : Prop := ∀ j s, 0 < P j s → -(3 * (j : Int)) ≤ s ∧ s ≤ 3 * (j : Int)
theorem kqS_m {m : Int} {P : Nat → Int → Nat} (h : kqS P) (h1 : -3 ≤ m) (h2 : m ≤ 3) : kqS (kqM m P) := by
  intro j s z
  unfold kqM at z
  by_cases y : 0 < P j s
  · exact h j s y
  · by_cases j0 : j = 0
    · rw [if_pos j0] at z; omega
    · rw [if_neg j0] at z
      have := h (j - 1) (s - m) (by omega)
      omega
theorem kqS_n {m : Int} {P : Nat → Int → Nat} (h : kqS P) (h1 : -3 ≤ m) (h2 : m ≤ 3) : ∀ n, kqS (kqN m P n) := by
  intro n
  induction n with
  | zero => exact h
  | succ n ih => exact kqS_m ih h1 h2
theorem kqS_W {mk : Nat → Int} {c : Nat → Nat} (h : ∀ j, 1 ≤ j → j ≤ 10 → -3 ≤ mk j ∧ mk j ≤ 3) : ∀ k, k ≤ 10 → kqS (kqW mk c k) := by
  intro k
  induction k with
  | zero =>
    intro _ j s z
    have z : 0 < (if j = 0 ∧ s = 0 then 1 else 0) := z
    by_cases y : j = 0 ∧ s = 0
    · omega
    · rw [if_neg y] at z; omega
  | succ k ih => intro hk; exact kqS_n (ih (by omega)) (h (k + 1) (by omega) hk).1 (h (k + 1) (by omega) hk).2 _
theorem chN_pas : ∀ n, n < 32 → ∀ c, c < 8 → chN (n + 1) (c + 1) = chN n (c + 1) + chN n c := by decide +kernel
theorem chN_nk : ∀ n, n < 33 → ∀ c, c < 9 → n * chN n c = c * chN n c + n * chN (n - 1) c := by decide +kernel
theorem chN_0 : ∀ n, n < 33 → ∀ c, c < 9 → n < c → chN n c = 0 := by decide +kernel
theorem kqN_b {m : Int} {P : Nat → Int → Nat} : ∀ n, n ≤ 32 → ∀ j s, j ≤ 8 → kqN m P n j s = sg (fun J => chN n (j - J) * P J (s - ((j : Int) - J) * m)) (j + 1) := by
  intro n
  induction n with
  | zero =>
    intro _ j s hj
    show P j s = sg (fun J => chN 0 (j - J) * P J (s - ((j : Int) - J) * m)) j + chN 0 (j - j) * P j (s - ((j : Int) - j) * m)
    rw [sg_z j (fun J a => by rw [chN_0 0 (by decide) (j - J) (by omega) (by omega), Nat.zero_mul]), Nat.sub_self, Int.sub_self, Int.zero_mul, Int.sub_zero]
    show P j s = 0 + 1 * P j s
    omega
  | succ n ih =>
    intro hn j s hj
    show kqN m P n j s + (if j = 0 then 0 else kqN m P n (j - 1) (s - m)) = _
    by_cases j0 : j = 0
    · subst j0
      rw [if_pos rfl, ih (by omega) 0 s (by omega)]
      rfl
    · obtain ⟨i, rfl⟩ : ∃ i, j = i + 1 := ⟨j - 1, by omega⟩
      rw [if_neg j0, ih (by omega) (i + 1) s hj, show i + 1 - 1 = i by omega, ih (by omega) i (s - m) (by omega)]
      show sg (fun J => chN n (i + 1 - J) * P J (s - (((i + 1 : Nat) : Int) - J) * m)) (i + 1) + chN n (i + 1 - (i + 1)) * P (i + 1) (s - (((i + 1 : Nat) : Int) - ((i + 1 : Nat) : Int)) * m) + sg (fun J => chN n (i - J) * P J (s - m - ((i : Int) - J) * m)) (i + 1)
        = sg (fun J => chN (n + 1) (i + 1 - J) * P J (s - (((i + 1 : Nat) : Int) - J) * m)) (i + 1) + chN (n + 1) (i + 1 - (i + 1)) * P (i + 1) (s - (((i + 1 : Nat) : Int) - ((i + 1 : Nat) : Int)) * m)
      rw [Nat.sub_self]
      have e : sg (fun J => chN (n + 1) (i + 1 - J) * P J (s - (((i + 1 : Nat) : Int) - J) * m)) (i + 1) = sg (fun J => chN n (i + 1 - J) * P J (s - (((i + 1 : Nat) : Int) - J) * m) + chN n (i - J) * P J (s - m - ((i : Int) - J) * m)) (i + 1) := by
        refine sg_cg _ (fun J a => ?_)
        have e1 : s - m - ((i : Int) - J) * m = s - (((i + 1 : Nat) : Int) - J) * m := by
          rw [show (((i + 1 : Nat) : Int) - J) = ((i : Int) - J) + 1 by omega, Int.add_mul, Int.one_mul]
          omega
        rw [e1, show i + 1 - J = (i - J) + 1 by omega, chN_pas n (by omega) (i - J) (by omega), Nat.add_mul]
      rw [e, sg_add]
      have c0 : chN (n + 1) 0 = chN n 0 := rfl
      rw [c0]
      omega
/-! how many of one rank are in all these heaps together -/
def kqF (n : Nat) (e : Bool) (m : Int) (W T : Nat → Int → Nat) (j : Nat) (s : Int) (J : Nat) : Nat := chN n (j - J) * T J (s - ((j : Int) - J) * m) + (if e then (j - J) * chN n (j - J) * W J (s - ((j : Int) - J) * m) else 0)
def kqT (mk : Nat → Int) (c : Nat → Nat) (rk : Nat) : Nat → Nat → Int → Nat
  | 0 => fun _ _ => 0
  | k + 1 => fun j s => sg (kqF (c (k + 1)) (decide (k + 1 = rk)) (mk (k + 1)) (kqW mk c k) (kqT mk c rk k) j s) (j + 1)
theorem kqW_lt {mk : Nat → Int} {c : Nat → Nat} {rk v : Nat} : ∀ k, k < rk → kqW mk (updN c rk v) k = kqW mk c k := by
  intro k
  induction k with
  | zero => intro _; rfl
  | succ k ih =>
    intro h
    show kqN (mk (k + 1)) (kqW mk (updN c rk v) k) (updN c rk v (k + 1)) = kqN (mk (k + 1)) (kqW mk c k) (c (k + 1))
    rw [ih (by omega)]
    unfold updN
    rw [if_neg (by omega)]
theorem kqT_id {mk : Nat → Int} {c : Nat → Nat} {rk : Nat} (hc : ∀ j, 1 ≤ j → j ≤ 10 → c j ≤ 32) : ∀ k, k ≤ 10 → ∀ j s, j ≤ 8 → (k < rk → kqT mk c rk k j s = 0) ∧ (rk ≤ k → 1 ≤ rk → c rk * kqW mk c k j s = kqT mk c rk k j s + c rk * kqW mk (updN c rk (c rk - 1)) k j s) := by
  intro k
  induction k with
  | zero => intro _ j s _; exact ⟨fun _ => rfl, fun a b => by omega⟩
  | succ k ih =>
    intro hk j s hj
    have n32 := hc (k + 1) (by omega) hk
    have ih := ih (by omega)
    have eW : kqW mk c (k + 1) j s = sg (fun J => chN (c (k + 1)) (j - J) * kqW mk c k J (s - ((j : Int) - J) * mk (k + 1))) (j + 1) := kqN_b _ n32 j s hj
    have eT : kqT mk c rk (k + 1) j s = sg (kqF (c (k + 1)) (decide (k + 1 = rk)) (mk (k + 1)) (kqW mk c k) (kqT mk c rk k) j s) (j + 1) := rfl
    refine ⟨fun h => ?_, fun h h1 => ?_⟩
    · rw [eT]
      refine sg_z _ (fun J a => ?_)
      unfold kqF
      rw [(ih J _ (by omega)).1 (by omega), decide_eq_false (by omega)]
      rfl
    · rcases Nat.lt_or_ge k rk with z | z
      · obtain rfl : rk = k + 1 := by omega
        have eO : kqW mk (updN c (k + 1) (c (k + 1) - 1)) (k + 1) j s = sg (fun J => chN (c (k + 1) - 1) (j - J) * kqW mk c k J (s - ((j : Int) - J) * mk (k + 1))) (j + 1) := by
          have q : kqW mk (updN c (k + 1) (c (k + 1) - 1)) (k + 1) = kqN (mk (k + 1)) (kqW mk c k) (c (k + 1) - 1) := by
            show kqN (mk (k + 1)) (kqW mk (updN c (k + 1) (c (k + 1) - 1)) k) (updN c (k + 1) (c (k + 1) - 1) (k + 1)) = _
            rw [kqW_lt k z]
            unfold updN
            rw [if_pos rfl]
          rw [q]
          exact kqN_b _ (by omega) j s hj
        rw [eW, eT, eO, ← sg_mul, ← sg_mul, ← sg_add]
        refine sg_cg _ (fun J a => ?_)
        unfold kqF
        rw [(ih J _ (by omega)).1 z, decide_eq_true rfl, if_pos rfl]
        have q := chN_nk (c (k + 1)) (by omega) (j - J) (by omega)
        generalize kqW mk c k J (s - ((j : Int) - J) * mk (k + 1)) = u
        rw [Nat.mul_zero, Nat.zero_add, ← Nat.mul_assoc, q, Nat.add_mul, Nat.mul_assoc (c (k + 1))]
      · have eO : kqW mk (updN c rk (c rk - 1)) (k + 1) j s = sg (fun J => chN (c (k + 1)) (j - J) * kqW mk (updN c rk (c rk - 1)) k J (s - ((j : Int) - J) * mk (k + 1))) (j + 1) := by
          have q : kqW mk (updN c rk (c rk - 1)) (k + 1) = kqN (mk (k + 1)) (kqW mk (updN c rk (c rk - 1)) k) (c (k + 1)) := by
            show kqN (mk (k + 1)) (kqW mk (updN c rk (c rk - 1)) k) (updN c rk (c rk - 1) (k + 1)) = _
            have : updN c rk (c rk - 1) (k + 1) = c (k + 1) := by unfold updN; rw [if_neg (by omega)]
            rw [this]
          rw [q]
          exact kqN_b _ n32 j s hj
        rw [eW, eT, eO, ← sg_mul, ← sg_mul, ← sg_add]
        refine sg_cg _ (fun J a => ?_)
        unfold kqF
        rw [decide_eq_false (by omega)]
        have q := (ih J (s - ((j : Int) - J) * mk (k + 1)) (by omega)).2 z h1
        generalize kqW mk c k J (s - ((j : Int) - J) * mk (k + 1)) = u at q ⊢
        generalize kqT mk c rk k J (s - ((j : Int) - J) * mk (k + 1)) = v at q ⊢
        generalize kqW mk (updN c rk (c rk - 1)) k J (s - ((j : Int) - J) * mk (k + 1)) = w at q ⊢
        rw [Nat.mul_left_comm, q, Nat.mul_add, Nat.mul_left_comm (c rk)]
        rfl
theorem kqT_le {mk : Nat → Int} {c : Nat → Nat} {rk k j : Nat} {s : Int} (hc : ∀ j, 1 ≤ j → j ≤ 10 → c j ≤ 32) (hk : k ≤ 10) (hj : j ≤ 8) (h1 : 1 ≤ rk) : kqT mk c rk k j s ≤ c rk * kqW mk c k j s := by
  have q := kqT_id (mk := mk) (rk := rk) hc k hk j s hj
  rcases Nat.lt_or_ge k rk with z | z
  · rw [q.1 z]; omega
  · have := q.2 z h1; omega
