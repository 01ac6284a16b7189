/-! what the reference gathers, row by row, exactly -/
def ctr (F : Nat → Nat → Nat) (n : Nat) (mk : Int) (j t J : Nat) : Nat := if j - J ≤ n ∧ 0 ≤ (t : Int) - ((j : Int) - J) * mk ∧ (t : Int) - ((j : Int) - J) * mk < 61 then F (j - J) (61 * J + ((t : Int) - ((j : Int) - J) * mk).toNat) else 0
def gV (F : Nat → Nat → Nat) (n : Nat) (mk : Int) (j t : Nat) (J : Nat) : Nat := sg (fun J => if J ≤ j then ctr F n mk j t J else 0) J
def AKv (F : Nat → Nat → Nat) (n : Nat) (mk : Int) (most : Nat) (nw : Nat → Nat) (J s c : Nat) : Prop := ∀ j t : Nat, j ≤ most → t < 61 →
  nw (61 * j + t) = gV F n mk j t J + (if J ≤ j ∧ ((t : Int) - ((j : Int) - J) * mk < s ∨ ((t : Int) - ((j : Int) - J) * mk = s ∧ j - J < c)) then ctr F n mk j t J else 0)
theorem AKv_init {F : Nat → Nat → Nat} {n : Nat} {mk : Int} {most : Nat} {nw : Nat → Nat} (h : ∀ i, i < 549 → nw i = 0) (hm : most ≤ 8) : AKv F n mk most nw 0 0 0 := by
  intro j t a b
  rw [h _ (by omega)]
  show 0 = 0 + _
  by_cases g : 0 ≤ j ∧ ((t : Int) - ((j : Int) - (0 : Nat)) * mk < (0 : Nat) ∨ ((t : Int) - ((j : Int) - (0 : Nat)) * mk = (0 : Nat) ∧ j - 0 < 0))
  · rw [if_pos g]
    unfold ctr
    rw [if_neg (by
      intro q
      obtain ⟨-, g | g⟩ := g
      · omega
      · omega)]
  · rw [if_neg g]
theorem AKv_step {F : Nat → Nat → Nat} {n : Nat} {mk : Int} {most J s c s1 : Nat} {nw : Nat → Nat} (h : AKv F n mk most nw J s c) (hJ : J + c ≤ most) (hs : s < 61) (h1 : s1 < 61) (e1 : (s1 : Int) = s + c * mk) (hcn : c ≤ n) :
    AKv F n mk most (updN nw (61 * (J + c) + s1) (nw (61 * (J + c) + s1) + F c (61 * J + s))) J s (c + 1) := by
  intro j t a b
  have old := h j t a b
  unfold updN
  by_cases q : 61 * j + t = 61 * (J + c) + s1
  · obtain ⟨rfl, rfl⟩ : j = J + c ∧ t = s1 := by omega
    rw [if_pos rfl, old]
    have e2 : (((J + c : Nat) : Int) - J) * mk = c * mk := by rw [show (((J + c : Nat) : Int) - J) = (c : Int) by omega]
    have ec : ctr F n mk (J + c) t J = F c (61 * J + s) := by
      unfold ctr
      rw [e2, show J + c - J = c by omega, if_pos ⟨hcn, by omega, by omega⟩, show ((t : Int) - c * mk).toNat = s by omega]
    rw [e2, ec, if_neg (fun g => by rcases g.2 with y | y <;> omega), if_pos ⟨by omega, Or.inr ⟨by omega, by omega⟩⟩]
    omega
  · rw [if_neg q, old]
    by_cases g0 : J ≤ j ∧ ((t : Int) - ((j : Int) - J) * mk < s ∨ ((t : Int) - ((j : Int) - J) * mk = s ∧ j - J < c))
    · rw [if_pos g0, if_pos ⟨g0.1, g0.2.imp id (fun y => ⟨y.1, by omega⟩)⟩]
    · rw [if_neg g0, if_neg]
      intro g1
      obtain ⟨x1, x2 | ⟨x2, x3⟩⟩ := g1
      · exact g0 ⟨x1, Or.inl x2⟩
      · rcases Nat.lt_or_ge (j - J) c with y | y
        · exact g0 ⟨x1, Or.inr ⟨x2, y⟩⟩
        · obtain rfl : j = J + c := by omega
          rw [show (((J + c : Nat) : Int) - J) = (c : Int) by omega] at x2
          exact q (by omega)
theorem AKv_c {F : Nat → Nat → Nat} {n : Nat} {mk : Int} {most J s c : Nat} {nw : Nat → Nat} (h : AKv F n mk most nw J s c) (hx : (∀ c', F c' (61 * J + s) = 0) ∨ n < c ∨ most < J + c) : AKv F n mk most nw J (s + 1) 0 := by
  intro j t a b
  rw [h j t a b]
  by_cases g0 : J ≤ j ∧ ((t : Int) - ((j : Int) - J) * mk < s ∨ ((t : Int) - ((j : Int) - J) * mk = s ∧ j - J < c))
  · rw [if_pos g0, if_pos ⟨g0.1, Or.inl (by rcases g0.2 with y | y <;> omega)⟩]
  · rw [if_neg g0]
    by_cases g1 : J ≤ j ∧ ((t : Int) - ((j : Int) - J) * mk < ((s + 1 : Nat) : Int) ∨ ((t : Int) - ((j : Int) - J) * mk = ((s + 1 : Nat) : Int) ∧ j - J < 0))
    · rw [if_pos g1]
      obtain ⟨x1, x2⟩ := g1
      have es : (t : Int) - ((j : Int) - J) * mk = s := by
        rcases x2 with x2 | x2
        · have : ¬ (t : Int) - ((j : Int) - J) * mk < s := fun z => g0 ⟨x1, Or.inl z⟩
          omega
        · omega
      have hc : c ≤ j - J := Nat.not_lt.mp (fun z => g0 ⟨x1, Or.inr ⟨es, z⟩⟩)
      unfold ctr
      rw [es]
      rcases hx with x | x | x
      · rw [show ((s : Nat) : Int).toNat = s by omega, x]
        split <;> rfl
      · rw [if_neg (by omega)]
      · omega
    · rw [if_neg g1]
theorem AKv_s {F : Nat → Nat → Nat} {n : Nat} {mk : Int} {most J : Nat} {nw : Nat → Nat} (h : AKv F n mk most nw J 61 0) : AKv F n mk most nw (J + 1) 0 0 := by
  intro j t a b
  rw [h j t a b]
  have e : gV F n mk j t (J + 1) = gV F n mk j t J + (if J ≤ j then ctr F n mk j t J else 0) := rfl
  rw [e]
  have z1 : (if J + 1 ≤ j ∧ ((t : Int) - ((j : Int) - ((J + 1 : Nat) : Int)) * mk < ((0 : Nat) : Int) ∨ ((t : Int) - ((j : Int) - ((J + 1 : Nat) : Int)) * mk = ((0 : Nat) : Int) ∧ j - (J + 1) < 0)) then ctr F n mk j t (J + 1) else 0) = 0 := by
    split
    · next g =>
      obtain ⟨-, g | g⟩ := g
      · unfold ctr
        rw [if_neg (fun q => by omega)]
      · omega
    · rfl
  rw [z1]
  by_cases y : J ≤ j
  · rw [if_pos y]
    by_cases g : J ≤ j ∧ ((t : Int) - ((j : Int) - J) * mk < ((61 : Nat) : Int) ∨ ((t : Int) - ((j : Int) - J) * mk = ((61 : Nat) : Int) ∧ j - J < 0))
    · rw [if_pos g]
      rfl
    · rw [if_neg g]
      have : ctr F n mk j t J = 0 := by
        unfold ctr
        rw [if_neg (fun q => g ⟨y, Or.inl (by omega)⟩)]
      rw [this]
  · rw [if_neg y, if_neg (fun g => y g.1)]
theorem AKv_end {F : Nat → Nat → Nat} {n : Nat} {mk : Int} {most : Nat} {nw : Nat → Nat} (h : AKv F n mk most nw (most + 1) 0 0) : ∀ j t : Nat, j ≤ most → t < 61 → nw (61 * j + t) = gV F n mk j t (j + 1) := by
  intro j t a b
  rw [h j t a b, if_neg (fun g => by omega)]
  obtain ⟨d, rfl⟩ : ∃ d, most = j + d := ⟨most - j, by omega⟩
  have := sg_ab (F := fun J => if J ≤ j then ctr F n mk j t J else 0) (n := j + 1) (fun J x => if_neg (by omega)) d
  unfold gV
  rw [show j + d + 1 = j + 1 + d by omega, this]
  rfl
/-- the reference's rows are these heaps -/
def R61 (most : Nat) (P : Nat → Int → Nat) (wv : Nat → Nat) : Prop := ∀ j t : Nat, j ≤ most → t < 61 → wv (61 * j + t) = P j ((t : Int) - 30)
def fW (n : Nat) (wv : Nat → Nat) (c i : Nat) : Nat := chN n c * wv i
def fT (n : Nat) (e : Bool) (wv tk : Nat → Nat) (c i : Nat) : Nat := chN n c * tk i + (if e then c * chN n c * wv i else 0)
theorem ctr_t {F : Nat → Nat → Nat} {n most j t J : Nat} {mk : Int} {v : Nat} (h : j - J ≤ n → ∀ s' : Nat, s' < 61 → (s' : Int) = (t : Int) - ((j : Int) - J) * mk → F (j - J) (61 * J + s') = v) (h0 : (¬ j - J ≤ n ∨ (t : Int) - ((j : Int) - J) * mk < 0 ∨ 61 ≤ (t : Int) - ((j : Int) - J) * mk) → v = 0) : ctr F n mk j t J = v := by
  unfold ctr
  by_cases g : j - J ≤ n ∧ 0 ≤ (t : Int) - ((j : Int) - J) * mk ∧ (t : Int) - ((j : Int) - J) * mk < 61
  · rw [if_pos g]
    exact h g.1 _ (by omega) (by omega)
  · rw [if_neg g, h0 (by omega)]
theorem R61_W {n most : Nat} {mk : Int} {P : Nat → Int → Nat} {wv nw : Nat → Nat} (hP : R61 most P wv) (hS : kqS P) (hn : n ≤ 32) (hm : most ≤ 8) (h : ∀ j t : Nat, j ≤ most → t < 61 → nw (61 * j + t) = gV (fW n wv) n mk j t (j + 1)) : R61 most (kqN mk P n) nw := by
  intro j t a b
  rw [h j t a b, kqN_b n hn j _ (by omega)]
  refine sg_cg _ (fun J x => ?_)
  rw [if_pos (by omega)]
  refine ctr_t (most := most) (fun y s' l e => ?_) (fun y => ?_)
  · show chN n (j - J) * wv (61 * J + s') = _
    rw [hP J s' (by omega) l, e, show (t : Int) - ((j : Int) - J) * mk - 30 = (t : Int) - 30 - ((j : Int) - J) * mk by omega]
  · rcases y with y | y
    · rw [chN_0 n (by omega) (j - J) (by omega) (by omega), Nat.zero_mul]
    · have : P J ((t : Int) - 30 - ((j : Int) - J) * mk) = 0 := by
        rcases Nat.eq_zero_or_pos (P J ((t : Int) - 30 - ((j : Int) - J) * mk)) with z | z
        · exact z
        · have := hS _ _ z
          omega
      rw [this, Nat.mul_zero]
theorem R61_T {n most : Nat} {mk : Int} {e : Bool} {P T : Nat → Int → Nat} {wv tk nt : Nat → Nat} (hP : R61 most P wv) (hT : R61 most T tk) (hS : kqS P) (hST : ∀ j s, j ≤ 8 → P j s = 0 → T j s = 0) (hn : n ≤ 32) (hm : most ≤ 8) (h : ∀ j t : Nat, j ≤ most → t < 61 → nt (61 * j + t) = gV (fT n e wv tk) n mk j t (j + 1)) :
    R61 most (fun j s => sg (kqF n e mk P T j s) (j + 1)) nt := by
  intro j t a b
  rw [h j t a b]
  refine sg_cg _ (fun J x => ?_)
  rw [if_pos (by omega)]
  unfold kqF
  refine ctr_t (most := most) (fun y s' l e9 => ?_) (fun y => ?_)
  · show chN n (j - J) * tk (61 * J + s') + (if e then (j - J) * chN n (j - J) * wv (61 * J + s') else 0) = _
    rw [hP J s' (by omega) l, hT J s' (by omega) l, e9, show (t : Int) - ((j : Int) - J) * mk - 30 = (t : Int) - 30 - ((j : Int) - J) * mk by omega]
  · rcases y with y | y
    · rw [chN_0 n (by omega) (j - J) (by omega) (by omega), Nat.zero_mul, Nat.mul_zero, Nat.zero_mul]
      split <;> rfl
    · have z : P J ((t : Int) - 30 - ((j : Int) - J) * mk) = 0 := by
        rcases Nat.eq_zero_or_pos (P J ((t : Int) - 30 - ((j : Int) - J) * mk)) with z | z
        · exact z
        · have := hS _ _ z
          omega
      rw [z, hST _ _ (by omega) z, Nat.mul_zero, Nat.mul_zero]
      split <;> rfl
/-! the class's rows are these heaps -/
def sel9 {α : Type} (a0 a1 a2 a3 a4 a5 a6 a7 a8 : α) (k : Nat) : α := match k with
  | 0 => a0
  | 1 => a1
  | 2 => a2
  | 3 => a3
  | 4 => a4
  | 5 => a5
  | 6 => a6
  | 7 => a7
  | _ => a8
def adR (p1 : Int32) (a b : Nat) (X Y : Nat → Int64) : Nat → Int64 := fun i => if a ≤ i ∧ i < b then X i + Y (nI i - p1).toNatClampNeg else X i
def R49 (sz : Nat) (P : Nat → Int → Nat) (a : Nat → Nat → Int64) : Prop := ∀ j i : Nat, j ≤ sz → i < 49 → a j i = lN (P j ((i : Int) - 24))
