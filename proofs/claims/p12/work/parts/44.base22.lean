theorem mod_b {x y z : Nat} (h : z ≤ 12) : x / y % (z + 1) < 2 ^ 31 := by
  have := Nat.mod_lt (x / y) (show 0 < z + 1 by omega)
  omega
theorem mod_12 {x y z : Nat} (h : z ≤ 12) : x / y % (z + 1) ≤ 12 := by
  have := Nat.mod_lt (x / y) (show 0 < z + 1 by omega)
  omega
def vaM (t ms : Int32) (pts : Nat → Nat) (hp h : Nat) (ha : Bool) (o c : Nat) : Int32 := vlM t (ms + nI (pts (hp - 1)) - nI (pts h)) (ha || decide (o < c))
theorem sp_eq {x y z : Nat} (h : 2 ≤ x / y % z) : y + y ≤ x := by
  have h1 : x / y % z ≤ x / y := Nat.mod_le _ _
  have h2 : 2 ≤ x / y := Nat.le_trans h h1
  have h3 : x / y * y ≤ x := Nat.div_mul_le_self x y
  have h4 : 2 * y ≤ x / y * y := Nat.mul_le_mul_right y h2
  omega
theorem cap_pos {x c : Nat} (h : 0 < x % (c + 1)) : 1 ≤ c := by
  rcases Nat.eq_zero_or_pos c with rfl | z
  · rw [Nat.mod_one] at h; omega
  · exact z
theorem sp_lt {cap stp : Nat → Nat} {hp : Nat} {sz pts : Nat → Nat} (hL : LaidP cap stp hp sz pts) {a b x y : Nat} (a1 : 1 ≤ a) (ab : a < b) (b2 : b ≤ 10) (ha : 0 < x % (cap a + 1)) (hb : 0 < y % (cap b + 1)) : stp a + stp b ≤ hp - 1 := by
  obtain ⟨_, st, eh, _⟩ := hL
  have ca := cap_pos ha
  have cb := cap_pos hb
  have ea := st a a1 (by omega)
  have eb := st b (by omega) b2
  have pa := hpN_pos cap (a - 1)
  have m1 := hpN_mono cap a (b - 1 - a)
  rw [show a + (b - 1 - a) = b - 1 by omega] at m1
  have m2 := hpN_mono cap b (10 - b)
  rw [show b + (10 - b) = 10 by omega] at m2
  have s1 : hpN cap a = hpN cap (a - 1) * (cap a + 1) := by obtain ⟨i, rfl⟩ : ∃ i, a = i + 1 := ⟨a - 1, by omega⟩
                                                            rfl
  have s2 : hpN cap b = hpN cap (b - 1) * (cap b + 1) := by obtain ⟨i, rfl⟩ : ∃ i, b = i + 1 := ⟨b - 1, by omega⟩
                                                            rfl
  have t1 : hpN cap (a - 1) * 2 ≤ hpN cap (a - 1) * (cap a + 1) := Nat.mul_le_mul_left _ (by omega)
  have t2 : hpN cap (b - 1) * 2 ≤ hpN cap (b - 1) * (cap b + 1) := Nat.mul_le_mul_left _ (by omega)
  omega
theorem sp_ne {cap stp : Nat → Nat} {hp : Nat} {sz pts : Nat → Nat} (hL : LaidP cap stp hp sz pts) {a b x y : Nat} (a1 : 1 ≤ a) (a2 : a ≤ 10) (b1 : 1 ≤ b) (b2 : b ≤ 10) (hne : ¬ b = a) (ha : 0 < x % (cap a + 1)) (hb : 0 < y % (cap b + 1)) : stp a + stp b ≤ hp - 1 := by
  rcases Nat.lt_or_ge a b with z | z
  · exact sp_lt hL a1 z b2 ha hb
  · have := sp_lt hL b1 (show b < a by omega) a2 hb ha
    omega
theorem mul144 {x y : Nat} (h1 : x ≤ 12) (h2 : y ≤ 12) : x * y < 2 ^ 31 := Nat.lt_of_le_of_lt (Nat.mul_le_mul h1 h2) (by decide)
theorem pos_r {x y : Nat} (h : ¬ x * y ≤ 0) : 0 < y := by
  rcases Nat.eq_zero_or_pos y with rfl | z
  · exact absurd (Nat.le_refl 0) h
  · exact z
