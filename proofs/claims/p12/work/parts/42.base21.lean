/-! heaps of the reference -/
def hpN (cap : Nat → Nat) : Nat → Nat
  | 0 => 1
  | k + 1 => hpN cap k * (cap (k + 1) + 1)
def ofN (cap : Nat → Nat) (h r : Nat) : Nat := h / hpN cap (r - 1) % (cap r + 1)
def szN (cap : Nat → Nat) (h : Nat) : Nat → Nat
  | 0 => 0
  | k + 1 => szN cap h k + ofN cap h (k + 1)
def ptN (cap : Nat → Nat) (h : Nat) : Nat → Nat
  | 0 => 0
  | k + 1 => ptN cap h k + (k + 1) * ofN cap h (k + 1)
def smU (cap : Nat → Nat) : Nat → Nat
  | 0 => 0
  | k + 1 => smU cap k + cap (k + 1)
theorem smU_10 (cap : Nat → Nat) : smU cap 10 = smN cap := by
  show 0 + cap 1 + cap 2 + cap 3 + cap 4 + cap 5 + cap 6 + cap 7 + cap 8 + cap 9 + cap 10 = _
  unfold smN
  omega
theorem hpN_pos (cap : Nat → Nat) (k : Nat) : 1 ≤ hpN cap k := by
  induction k with
  | zero => exact Nat.le_refl 1
  | succ k ih => exact Nat.le_trans ih (Nat.le_mul_of_pos_right _ (Nat.succ_pos _))
theorem hpN_mono (cap : Nat → Nat) (k n : Nat) : hpN cap k ≤ hpN cap (k + n) := by
  induction n with
  | zero => exact Nat.le_refl _
  | succ n ih => exact Nat.le_trans ih (Nat.le_mul_of_pos_right _ (Nat.succ_pos _))
theorem szN_le (cap : Nat → Nat) (h k : Nat) : szN cap h k ≤ smU cap k := by
  induction k with
  | zero => exact Nat.le_refl 0
  | succ k ih =>
    have : ofN cap h (k + 1) < cap (k + 1) + 1 := Nat.mod_lt _ (Nat.succ_pos _)
    show szN cap h k + ofN cap h (k + 1) ≤ smU cap k + cap (k + 1)
    omega
theorem key3 (a : Nat) : (a + 1) * 3 * 2 ^ a ≤ 4 * 3 ^ a := by
  induction a with
  | zero => decide
  | succ a ih =>
    rcases Nat.eq_zero_or_pos a with rfl | z
    · decide
    · have h1 : (a + 1 + 1) * 2 ≤ 3 * (a + 1) := by omega
      have h2 : (a + 1 + 1) * 3 * 2 ^ (a + 1) = (a + 1 + 1) * 2 * (3 * 2 ^ a) := by rw [Nat.pow_succ]; ac_rfl
      have h3 : 3 * (a + 1) * (3 * 2 ^ a) = 3 * ((a + 1) * 3 * 2 ^ a) := by ac_rfl
      have h4 : 4 * 3 ^ (a + 1) = 3 * (4 * 3 ^ a) := by rw [Nat.pow_succ]; ac_rfl
      rw [h2, h4]
      exact Nat.le_trans (Nat.mul_le_mul_right _ h1) (by rw [h3]; exact Nat.mul_le_mul_left _ ih)
theorem hpN_pw (cap : Nat → Nat) (k : Nat) : hpN cap k * 3 ^ k * 2 ^ smU cap k ≤ 4 ^ k * 3 ^ smU cap k := by
  induction k with
  | zero => exact (by decide : 1 * 1 * 1 ≤ 1 * 1)
  | succ k ih =>
    have h := Nat.mul_le_mul ih (key3 (cap (k + 1)))
    have e1 : hpN cap (k + 1) * 3 ^ (k + 1) * 2 ^ smU cap (k + 1) = hpN cap k * 3 ^ k * 2 ^ smU cap k * ((cap (k + 1) + 1) * 3 * 2 ^ cap (k + 1)) := by
      show hpN cap k * (cap (k + 1) + 1) * 3 ^ (k + 1) * 2 ^ (smU cap k + cap (k + 1)) = _
      rw [Nat.pow_succ, Nat.pow_add]
      ac_rfl
    have e2 : 4 ^ (k + 1) * 3 ^ smU cap (k + 1) = 4 ^ k * 3 ^ smU cap k * (4 * 3 ^ cap (k + 1)) := by
      show 4 ^ (k + 1) * 3 ^ (smU cap k + cap (k + 1)) = _
      rw [Nat.pow_succ, Nat.pow_add]
      ac_rfl
    rw [e1, e2]
    exact h
theorem hpN_le {cap : Nat → Nat} (h : smN cap ≤ 12) : hpN cap 10 ≤ 2304 := by
  have p := hpN_pw cap 10
  rw [smU_10] at p
  have q : 2 ^ (12 - smN cap) ≤ 3 ^ (12 - smN cap) := Nat.pow_le_pow_left (by omega) _
  have r := Nat.mul_le_mul p q
  have e1 : hpN cap 10 * 3 ^ 10 * 2 ^ smN cap * 2 ^ (12 - smN cap) = hpN cap 10 * 3 ^ 10 * 2 ^ 12 := by
    rw [Nat.mul_assoc, ← Nat.pow_add, show smN cap + (12 - smN cap) = 12 by omega]
  have e2 : 4 ^ 10 * 3 ^ smN cap * 3 ^ (12 - smN cap) = 4 ^ 10 * 3 ^ 12 := by
    rw [Nat.mul_assoc, ← Nat.pow_add, show smN cap + (12 - smN cap) = 12 by omega]
  rw [e1, e2] at r
  omega
def LaidP (cap stp : Nat → Nat) (hp : Nat) (sz pts : Nat → Nat) : Prop := smN cap ≤ 12 ∧ (∀ j, 1 ≤ j → j ≤ 10 → stp j = hpN cap (j - 1)) ∧ hp = hpN cap 10 ∧ ∀ h, h < hp → sz h = szN cap h 10 ∧ pts h = ptN cap h 10
theorem cap_le {cap : Nat → Nat} (h : smN cap ≤ 12) {r : Nat} (h1 : 1 ≤ r) (h2 : r ≤ 10) : cap r ≤ 12 := by
  unfold smN at h
  rcases rk_cases h1 h2 with rfl | rfl | rfl | rfl | rfl | rfl | rfl | rfl | rfl | rfl <;> omega
theorem LaidP.rk {cap stp : Nat → Nat} {hp : Nat} {sz pts : Nat → Nat} (hL : LaidP cap stp hp sz pts) {r : Nat} (h1 : 1 ≤ r) (h2 : r ≤ 10) : 1 ≤ stp r ∧ stp r ≤ 2304 ∧ cap r ≤ 12 := by
  obtain ⟨a, b, c, _⟩ := hL
  have e := b r h1 h2
  have m := hpN_mono cap (r - 1) (10 - (r - 1))
  rw [show r - 1 + (10 - (r - 1)) = 10 by omega] at m
  have l := hpN_le a
  have p := hpN_pos cap (r - 1)
  exact ⟨by omega, by omega, cap_le a h1 h2⟩
theorem LaidP.hp {cap stp : Nat → Nat} {hp : Nat} {sz pts : Nat → Nat} (hL : LaidP cap stp hp sz pts) : 1 ≤ hp ∧ hp ≤ 2304 := by
  obtain ⟨a, b, c, _⟩ := hL
  have l := hpN_le a
  have p := hpN_pos cap 10
  omega
theorem LaidP.sz {cap stp : Nat → Nat} {hp : Nat} {sz pts : Nat → Nat} (hL : LaidP cap stp hp sz pts) {h : Nat} (hh : h < hp) : sz h ≤ 12 := by
  obtain ⟨a, b, c, d⟩ := hL
  have q := szN_le cap h 10
  rw [smU_10] at q
  have := (d h hh).1
  omega
theorem of_pos {x y z : Nat} (h : ¬ x / y % z ≤ 0) : y ≤ x := by
  rcases Nat.lt_or_ge x y with q | q
  · rw [Nat.div_eq_of_lt q, Nat.zero_mod] at h; omega
  · exact q
/-! the reference's house -/
def drM (n : Nat) (st so t s : Int32) (a : Bool) : Int32 := if n ≤ 0 then 0 else if gnM st so (vlM t s a) s = 0 then 0 else 1
theorem drM_01 (n : Nat) (st so t s : Int32) (a : Bool) : drM n st so t s a = 0 ∨ drM n st so t s a = 1 := by
  unfold drM
  repeat' (first | exact Or.inl rfl | exact Or.inr rfl | apply ite01)
def scM (t : Int32) (ch : Bool) (wt wn s : Int32) (a : Bool) : Int32 := if bI ch = 0 then seM wt (if vlM t s a ≤ t then vlM t s a else 0) wn else if (if vlM t s a ≤ t then vlM t s a else 0) = wt then 1 else 0
def bN (a : Bool) : Nat := cond a 1 0
theorem bN_le (a : Bool) : bN a ≤ 1 := by cases a <;> decide
theorem bN_I (a : Bool) : bI a = nI (bN a) := by cases a <;> decide
def haM (ords hou : Nat → Int64) (sz : Nat → Nat) (t st so : Int32) (ch : Bool) (wt wn : Int32) (h s : Nat) (a : Bool) : Int64 := if drM (sz h) st so t (nI s) a = 0 then (scM t ch wt wn (nI s) a).toInt64 * ords (sz h) else hou (44 * h + 2 * s + bN a)
theorem drM_s {n s : Nat} {st so t : Int32} {a : Bool} (h : ¬ drM n st so t (nI s) a = 0) (hs : s ≤ 40) (hst : st.toInt ≤ 21) : s ≤ 21 := by
  have h10 : (nI s + 10).toInt = s + 10 := by rw [i32_add (by rw [toInt_nI (by omega), t10]; omega) (by rw [toInt_nI (by omega), t10]; omega), t10, toInt_nI (by omega)]
  have hv : (s : Int) ≤ (vlM t (nI s) a).toInt := by
    unfold vlM
    by_cases z : bI a = 0
    · rw [if_pos z, toInt_nI (by omega)]; exact Int.le_refl _
    · rw [if_neg z]
      by_cases y : t < nI s + 10
      · rw [if_pos y, toInt_nI (by omega)]; exact Int.le_refl _
      · rw [if_neg y, h10]; omega
  unfold drM at h
  by_cases z : n ≤ 0
  · rw [if_pos z] at h; exact absurd rfl h
  · rw [if_neg z] at h
    have q : ¬ gnM st so (vlM t (nI s) a) (nI s) = 0 := fun e => h (by rw [if_pos e])
    unfold gnM at q
    by_cases z1 : vlM t (nI s) a < st
    · rw [ltI] at z1; omega
    · rw [if_neg z1] at q
      by_cases z2 : vlM t (nI s) a = st
      · rw [z2] at hv; omega
      · rw [if_neg z2] at q; exact absurd rfl q
theorem st_rk {cap stp : Nat → Nat} (hsm : smN cap ≤ 12) (as : ∀ j, 1 ≤ j → j ≤ 10 → stp j = hpN cap (j - 1)) {r : Nat} (h1 : 1 ≤ r) (h2 : r ≤ 10) : 1 ≤ stp r ∧ stp r ≤ 2304 ∧ cap r ≤ 12 := by
  have e := as r h1 h2
  have m := hpN_mono cap (r - 1) (10 - (r - 1))
  rw [show r - 1 + (10 - (r - 1)) = 10 by omega] at m
  have l := hpN_le hsm
  have p := hpN_pos cap (r - 1)
  exact ⟨by omega, by omega, cap_le hsm h1 h2⟩
theorem upN_sz {cap stp sz sz0 : Nat → Nat} {h r : Nat} (h1 : 1 ≤ r) (hs : stp r = hpN cap (r - 1)) (hz : sz h = szN cap h (r - 1) ∧ ∀ j, j < h → sz j = sz0 j) : updN sz h (sz h + h / stp r % (cap r + 1)) h = szN cap h (r + 1 - 1) ∧ ∀ j, j < h → updN sz h (sz h + h / stp r % (cap r + 1)) j = sz0 j := by
  unfold updN
  refine ⟨?_, fun j a => by rw [if_neg (by omega)]; exact hz.2 j a⟩
  rw [if_pos rfl, hz.1, hs]
  obtain ⟨i, rfl⟩ : ∃ i, r = i + 1 := ⟨r - 1, by omega⟩
  rfl
theorem upN_pt {cap stp pt pt0 : Nat → Nat} {h r : Nat} (h1 : 1 ≤ r) (hs : stp r = hpN cap (r - 1)) (hz : pt h = ptN cap h (r - 1) ∧ ∀ j, j < h → pt j = pt0 j) : updN pt h (pt h + r * (h / stp r % (cap r + 1))) h = ptN cap h (r + 1 - 1) ∧ ∀ j, j < h → updN pt h (pt h + r * (h / stp r % (cap r + 1))) j = pt0 j := by
  unfold updN
  refine ⟨?_, fun j a => by rw [if_neg (by omega)]; exact hz.2 j a⟩
  rw [if_pos rfl, hz.1, hs]
  obtain ⟨i, rfl⟩ : ∃ i, r = i + 1 := ⟨r - 1, by omega⟩
  rfl
theorem lay_step {cap sz pts sz2 pts2 : Nat → Nat} {h : Nat} (hz : ∀ j, j < h → sz j = szN cap j 10 ∧ pts j = ptN cap j 10) (h1 : sz2 h = szN cap h 10 ∧ ∀ j, j < h → sz2 j = sz j) (h2 : pts2 h = ptN cap h 10 ∧ ∀ j, j < h → pts2 j = pts j) : ∀ j, j < h + 1 → sz2 j = szN cap j 10 ∧ pts2 j = ptN cap j 10 := by
  intro j a
  by_cases z : j = h
  · subst z; exact ⟨h1.1, h2.1⟩
  · rw [h1.2 j (by omega), h2.2 j (by omega)]; exact hz j (by omega)
