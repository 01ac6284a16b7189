/-! heaps that are known by their marks: the reference's rows, as Nats -/
theorem lB_toInt {n : Nat} (h : n < 2 ^ 63) : (lN n).toInt = (n : Int) := by
  unfold lN
  rw [Int64.toInt_ofNat_of_lt h]
theorem lB_div {a b : Nat} (ha : a < 2 ^ 62) (hb : b < 2 ^ 62) : lN a / lN b = lN (a / b) := by
  have hq : a / b ≤ a := Nat.div_le_self a b
  apply Int64.toInt_inj.mp
  rw [Int64.toInt_div, lB_toInt (by omega), lB_toInt (by omega), lB_toInt (by omega), ← Int.ofNat_tdiv]
  generalize a / b = q at hq ⊢
  rw [Int.bmod_eq_of_le] <;> omega
theorem lB_pos {n : Nat} (h : n < 2 ^ 63) : lg_cmp (lN n) 0 ≤ 0 ↔ n = 0 := by
  rw [lg_cmp_le, Int64.le_iff_toInt_le, lB_toInt h]
  have : (0 : Int64).toInt = 0 := by decide
  rw [this]
  omega
theorem lB_ne {n : Nat} (h : n < 2 ^ 63) (h0 : 0 < n) : ¬ lN n = 0 := by
  intro z
  have e : (lN n).toInt = (0 : Int64).toInt := by rw [z]
  rw [lB_toInt h] at e
  have : (0 : Int64).toInt = 0 := by decide
  omega
/-- how many ways to choose -/
def chN (n : Nat) : Nat → Nat
  | 0 => 1
  | c + 1 => chN n c * (n - c) / (c + 1)
theorem chN_le (n c : Nat) : chN n c ≤ n ^ c := by
  induction c with
  | zero => exact Nat.le_refl 1
  | succ c ih =>
    show chN n c * (n - c) / (c + 1) ≤ n ^ (c + 1)
    refine Nat.le_trans (Nat.div_le_self _ _) ?_
    rw [Nat.pow_succ]
    exact Nat.mul_le_mul ih (Nat.sub_le _ _)
theorem chN_pos : ∀ n, n < 33 → ∀ c, c < 9 → c ≤ n → 1 ≤ chN n c := by decide +kernel
theorem pw_le {n c : Nat} (hn : n ≤ 60) (hc : c ≤ 9) : n ^ c ≤ 60 ^ 9 := Nat.le_trans (Nat.pow_le_pow_left hn c) (Nat.pow_le_pow_right (by omega) hc)
/-- the bound of what is gathered of the rows below J -/
def gG (S n j : Nat) : Nat → Nat
  | 0 => 0
  | J + 1 => gG S n j J + (if J ≤ j then n ^ (j - J) * S ^ J else 0)
theorem gG_mul (S n j : Nat) : ∀ J, J ≤ j + 1 → gG S n (j + 1) J = n * gG S n j J := by
  intro J
  induction J with
  | zero => intro _; rfl
  | succ J ih =>
    intro h
    show gG S n (j + 1) J + (if J ≤ j + 1 then n ^ (j + 1 - J) * S ^ J else 0) = n * (gG S n j J + (if J ≤ j then n ^ (j - J) * S ^ J else 0))
    rw [ih (by omega), if_pos (by omega), if_pos (by omega), Nat.mul_add, show j + 1 - J = (j - J) + 1 by omega, Nat.pow_succ]
    congr 1
    ac_rfl
theorem gG_top (S n : Nat) : ∀ j, gG S n j (j + 1) ≤ (S + n) ^ j := by
  intro j
  induction j with
  | zero => show 0 + (if 0 ≤ 0 then n ^ 0 * S ^ 0 else 0) ≤ 1; simp
  | succ j ih =>
    show gG S n (j + 1) (j + 1) + (if j + 1 ≤ j + 1 then n ^ (j + 1 - (j + 1)) * S ^ (j + 1) else 0) ≤ (S + n) ^ (j + 1)
    rw [gG_mul S n j (j + 1) (Nat.le_refl _), if_pos (Nat.le_refl _), Nat.sub_self, Nat.pow_zero, Nat.one_mul, Nat.pow_succ, Nat.pow_succ]
    have h1 : n * gG S n j (j + 1) ≤ n * (S + n) ^ j := Nat.mul_le_mul_left n ih
    have h2 : S ^ j * S ≤ (S + n) ^ j * S := Nat.mul_le_mul_right S (Nat.pow_le_pow_left (Nat.le_add_right S n) j)
    have e : (S + n) ^ j * (S + n) = (S + n) ^ j * S + n * (S + n) ^ j := by rw [Nat.mul_add, Nat.mul_comm _ n]
    rw [e]
    omega
theorem gG_above (S n j : Nat) : ∀ d, gG S n j (j + 1 + d) = gG S n j (j + 1) := by
  intro d
  induction d with
  | zero => rfl
  | succ d ih =>
    show gG S n j (j + 1 + d) + (if j + 1 + d ≤ j then _ else 0) = _
    rw [if_neg (by omega), ih]
    rfl
theorem gG_le (S n j J : Nat) (h : j < J) : gG S n j J ≤ (S + n) ^ j := by
  obtain ⟨d, rfl⟩ : ∃ d, J = j + 1 + d := ⟨J - (j + 1), by omega⟩
  rw [gG_above]
  exact gG_top S n j
def WOK (S most : Nat) (wv : Nat → Nat) : Prop := ∀ j s, j ≤ most → s < 61 → wv (61 * j + s) ≤ S ^ j ∧ (0 < wv (61 * j + s) → 30 ≤ s + 3 * j ∧ s ≤ 30 + 3 * j)
/-- what is so amid the gathering, at row J, sum s, c cards of the rank -/
def AKb (S n : Nat) (mk : Int) (most : Nat) (nw : Nat → Nat) (J s c : Nat) : Prop := ∀ j t : Nat, j ≤ most → t < 61 →
  ((J ≤ j ∧ ((t : Int) - ((j : Int) - J) * mk < s ∨ ((t : Int) - ((j : Int) - J) * mk = s ∧ j - J < c))) → nw (61 * j + t) ≤ gG S n j J + n ^ (j - J) * S ^ J) ∧
  (¬ (J ≤ j ∧ ((t : Int) - ((j : Int) - J) * mk < s ∨ ((t : Int) - ((j : Int) - J) * mk = s ∧ j - J < c))) → nw (61 * j + t) ≤ gG S n j J)
def AKs (most : Nat) (nw : Nat → Nat) : Prop := ∀ j t : Nat, j ≤ most → t < 61 → 0 < nw (61 * j + t) → 30 ≤ t + 3 * j ∧ t ≤ 30 + 3 * j
def AKt (nw : Nat → Nat) (j0 t0 c0 t1 J s c : Nat) : Prop := (j0 < J ∨ (j0 = J ∧ (t0 < s ∨ (t0 = s ∧ c0 < c)))) → 0 < nw (61 * (j0 + c0) + t1)
def AK (S n : Nat) (mk : Int) (most : Nat) (nw : Nat → Nat) (j0 t0 c0 t1 J s c : Nat) : Prop := AKb S n mk most nw J s c ∧ AKs most nw ∧ AKt nw j0 t0 c0 t1 J s c
theorem AK_init {S n : Nat} {mk : Int} {most j0 t0 c0 t1 : Nat} {nw : Nat → Nat} (h : ∀ i, i < 549 → nw i = 0) (hm : most ≤ 8) : AK S n mk most nw j0 t0 c0 t1 0 0 0 := by
  refine ⟨fun j t a b => ?_, fun j t a b z => ?_, fun z => ?_⟩
  · rw [h _ (by omega)]
    exact ⟨fun _ => Nat.zero_le _, fun _ => Nat.zero_le _⟩
  · rw [h _ (by omega)] at z; omega
  · omega
theorem AK_step {S n : Nat} {mk : Int} {most j0 t0 c0 t1 J s c s1 ch : Nat} {nw wv : Nat → Nat} (h : AK S n mk most nw j0 t0 c0 t1 J s c) (hw : WOK S most wv) (hmk1 : -3 ≤ mk) (hmk2 : mk ≤ 3) (hJ : J + c ≤ most) (hs : s < 61) (h1 : s1 < 61) (hp : 0 < wv (61 * J + s)) (e1 : (s1 : Int) = s + c * mk) (hch : ch ≤ n ^ c) (hch1 : 1 ≤ ch)
    (ht : j0 = J → t0 = s → c0 = c → t1 = s1) : AK S n mk most (updN nw (61 * (J + c) + s1) (nw (61 * (J + c) + s1) + ch * wv (61 * J + s))) j0 t0 c0 t1 J s (c + 1) := by
  obtain ⟨hb, hsu, htg⟩ := h
  have hwb := hw J s (by omega) hs
  refine ⟨fun j t a b => ?_, fun j t a b z => ?_, fun z => ?_⟩
  · have old := hb j t a b
    unfold updN
    by_cases q : 61 * j + t = 61 * (J + c) + s1
    · obtain ⟨rfl, rfl⟩ : j = J + c ∧ t = s1 := by omega
      rw [if_pos rfl]
      have e2 : (((J + c : Nat) : Int) - J) * mk = c * mk := by rw [show (((J + c : Nat) : Int) - J) = (c : Int) by omega]
      rw [e2] at old ⊢
      have lo := old.2 (by omega)
      have : ch * wv (61 * J + s) ≤ n ^ (J + c - J) * S ^ J := by rw [show J + c - J = c by omega]; exact Nat.mul_le_mul hch hwb.1
      refine ⟨fun _ => by omega, fun g => absurd ⟨by omega, Or.inr ⟨by omega, by omega⟩⟩ g⟩
    · rw [if_neg q]
      refine ⟨fun g => ?_, fun g => old.2 (fun g2 => g ⟨g2.1, g2.2.imp id (fun y => ⟨y.1, by omega⟩)⟩)⟩
      by_cases g2 : (J ≤ j ∧ ((t : Int) - ((j : Int) - J) * mk < s ∨ ((t : Int) - ((j : Int) - J) * mk = s ∧ j - J < c)))
      · exact old.1 g2
      · exact Nat.le_trans (old.2 g2) (Nat.le_add_right _ _)
  · unfold updN at z
    by_cases q : 61 * j + t = 61 * (J + c) + s1
    · obtain ⟨rfl, rfl⟩ : j = J + c ∧ t = s1 := by omega
      have hh := hwb.2 hp
      have m1 : (c : Int) * mk ≤ c * 3 := Int.mul_le_mul_of_nonneg_left hmk2 (by omega)
      have m2 : (c : Int) * (-3) ≤ c * mk := Int.mul_le_mul_of_nonneg_left hmk1 (by omega)
      omega
    · rw [if_neg q] at z; exact hsu j t a b z
  · unfold updN
    by_cases q : 61 * (j0 + c0) + t1 = 61 * (J + c) + s1
    · rw [if_pos q]
      have : 0 < ch * wv (61 * J + s) := Nat.mul_pos (by omega) hp
      omega
    · rw [if_neg q]
      refine htg ?_
      rcases z with z | ⟨z1, z | ⟨z2, z3⟩⟩
      · exact Or.inl z
      · exact Or.inr ⟨z1, Or.inl z⟩
      · refine Or.inr ⟨z1, Or.inr ⟨z2, ?_⟩⟩
        rcases Nat.lt_or_ge c0 c with y | y
        · exact y
        · have y2 : c0 = c := by omega
          have := ht z1 z2 y2
          exact absurd (by rw [z1, y2, this]) q
theorem AK_c {S n : Nat} {mk : Int} {most j0 t0 c0 t1 J s c : Nat} {nw wv : Nat → Nat} (h : AK S n mk most nw j0 t0 c0 t1 J s c) (hc0 : c0 ≤ n) (hj0 : j0 + c0 ≤ most) (hp : 0 < wv (61 * j0 + t0)) (hx : wv (61 * J + s) = 0 ∨ n < c ∨ most < J + c) : AK S n mk most nw j0 t0 c0 t1 J (s + 1) 0 := by
  obtain ⟨hb, hsu, htg⟩ := h
  refine ⟨fun j t a b => ?_, hsu, fun z => htg ?_⟩
  · have old := hb j t a b
    refine ⟨fun g => ?_, fun g => old.2 (fun g2 => g ⟨g2.1, Or.inl (by rcases g2.2 with y | y <;> omega)⟩)⟩
    by_cases g2 : (J ≤ j ∧ ((t : Int) - ((j : Int) - J) * mk < s ∨ ((t : Int) - ((j : Int) - J) * mk = s ∧ j - J < c)))
    · exact old.1 g2
    · exact Nat.le_trans (old.2 g2) (Nat.le_add_right _ _)
  · rcases z with z | ⟨z1, z | ⟨z2, z3⟩⟩
    · exact Or.inl z
    · refine Or.inr ⟨z1, ?_⟩
      rcases Nat.lt_or_ge t0 s with y | y
      · exact Or.inl y
      · have y2 : t0 = s := by omega
        refine Or.inr ⟨y2, ?_⟩
        rcases hx with x | x | x
        · rw [z1, y2] at hp; omega
        · omega
        · omega
    · omega
theorem AK_s {S n : Nat} {mk : Int} {most j0 t0 c0 t1 J : Nat} {nw : Nat → Nat} (h : AK S n mk most nw j0 t0 c0 t1 J 61 0) (ht0 : t0 < 61) : AK S n mk most nw j0 t0 c0 t1 (J + 1) 0 0 := by
  obtain ⟨hb, hsu, htg⟩ := h
  refine ⟨fun j t a b => ?_, hsu, fun z => htg ?_⟩
  · have old := hb j t a b
    have key : nw (61 * j + t) ≤ gG S n j (J + 1) := by
      show nw (61 * j + t) ≤ gG S n j J + (if J ≤ j then n ^ (j - J) * S ^ J else 0)
      by_cases y : J ≤ j
      · rw [if_pos y]
        by_cases g2 : (J ≤ j ∧ ((t : Int) - ((j : Int) - J) * mk < (61 : Nat) ∨ ((t : Int) - ((j : Int) - J) * mk = (61 : Nat) ∧ j - J < 0)))
        · exact old.1 g2
        · exact Nat.le_trans (old.2 g2) (Nat.le_add_right _ _)
      · rw [if_neg y]
        exact old.2 (fun g => y g.1)
    exact ⟨fun _ => Nat.le_trans key (Nat.le_add_right _ _), fun _ => key⟩
  · rcases z with z | ⟨z1, z | ⟨z2, z3⟩⟩
    · rcases Nat.lt_or_ge j0 J with y | y
      · exact Or.inl y
      · exact Or.inr ⟨by omega, Or.inl (by omega)⟩
    · omega
    · omega
theorem AK_end {S n : Nat} {mk : Int} {most j0 t0 c0 t1 : Nat} {nw : Nat → Nat} (h : AK S n mk most nw j0 t0 c0 t1 (most + 1) 0 0) (hj : j0 ≤ most) : WOK (S + n) most nw ∧ 0 < nw (61 * (j0 + c0) + t1) := by
  obtain ⟨hb, hsu, htg⟩ := h
  refine ⟨fun j t a b => ⟨?_, hsu j t a b⟩, htg (Or.inl (by omega))⟩
  have old := hb j t a b
  have := old.2 (fun g => by omega)
  exact Nat.le_trans this (gG_le S n j (most + 1) (by omega))
theorem WOK_b {S most : Nat} {wv : Nat → Nat} (h : WOK S most wv) (hS : S ≤ 60) (hm : most ≤ 8) {j s : Nat} (hj : j ≤ most) (hs : s < 61) : wv (61 * j + s) < 2 ^ 62 := by
  have := (h j s hj hs).1
  have p := pw_le hS (show j ≤ 9 by omega)
  have : (60 : Nat) ^ 9 < 2 ^ 62 := by decide
  omega
/-- where a heap goes -/
theorem to_N {J s c : Nat} {x : Int32} (h1 : -3 ≤ x.toInt) (h2 : x.toInt ≤ 3) (hj : J + c ≤ 8) (ha : 30 ≤ s + 3 * J) (hb : s ≤ 30 + 3 * J) : ∃ s1 : Nat, (s1 : Int) = s + c * x.toInt ∧ s1 < 61 ∧ nI (61 * (J + c) + s) + nI c * x = nI (61 * (J + c) + s1) := by
  have m1 : (c : Int) * x.toInt ≤ c * 3 := Int.mul_le_mul_of_nonneg_left h2 (by omega)
  have m2 : (c : Int) * (-3) ≤ c * x.toInt := Int.mul_le_mul_of_nonneg_left h1 (by omega)
  refine ⟨((s : Int) + c * x.toInt).toNat, by omega, by omega, Int32.toInt_inj.mp ?_⟩
  have e : (nI c * x).toInt = c * x.toInt := by
    rw [Int32.toInt_mul, toInt_nI (by omega)]
    exact Int.bmod_eq_of_le (by omega) (by omega)
  rw [i32_add (by rw [e, toInt_nI (by omega)]; omega) (by rw [e, toInt_nI (by omega)]; omega), e, toInt_nI (by omega), toInt_nI (by omega)]
  omega
