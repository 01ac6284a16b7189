/-! what the class keeps of houses' ends -/
def gnN (cap c : Nat → Nat) : Nat → Nat := fun r => cap r - c r
def ptK (c0 c : Nat → Nat) : Nat → Nat
  | 0 => 0
  | k + 1 => ptK c0 c k + (k + 1) * (c0 (k + 1) - c (k + 1))
def le10 (c c' : Nat → Nat) : Prop := ∀ r, 1 ≤ r → r ≤ 10 → c r ≤ c' r
def goC (w : Nat → Int32) (s : Int32) (a : Bool) : Bool := !decide (gnC w (vlC w s a) (!decide (vlC w s a = s)) = 0)
def scC (w : Nat → Int32) (py : Nat → Int64) (s : Int32) (a : Bool) : Int64 := py (enC w (vlC w s a)).toNatClampNeg
def ixC (cap c : Nat → Nat) : Nat := hix cap (gnN cap c) 10
theorem ixC_lt {cap c : Nat → Nat} (h : smN cap ≤ 12) : ixC cap c < 2304 := by
  have a := hix_lt (cap := cap) (c := gnN cap c) 10 (fun r _ _ => Nat.sub_le _ _)
  have b := hpN_le h
  unfold ixC
  omega
theorem ixC_inj {cap c c' : Nat → Nat} (h1 : le10 c cap) (h2 : le10 c' cap) (e : ixC cap c = ixC cap c') : ∀ r, 1 ≤ r → r ≤ 10 → c r = c' r := by
  intro r a b
  have q1 := hix_of (cap := cap) (c := gnN cap c) 10 (fun r _ _ => Nat.sub_le _ _) r a b
  have q2 := hix_of (cap := cap) (c := gnN cap c') 10 (fun r _ _ => Nat.sub_le _ _) r a b
  unfold ixC at e
  rw [e, q2] at q1
  unfold gnN at q1
  have := h1 r a b
  have := h2 r a b
  omega
theorem gnN_up {cap c : Nat → Nat} {k v : Nat} : gnN cap (updN c k v) = updN (gnN cap c) k (cap k - v) := by
  funext r
  unfold gnN updN
  by_cases z : r = k
  · rw [if_pos z, if_pos z, z]
  · rw [if_neg z, if_neg z]
theorem ixC_dec {cap c : Nat → Nat} {k : Nat} (k1 : 1 ≤ k) (k2 : k ≤ 10) (hp : 0 < c k) (hc : c k ≤ cap k) : ixC cap (updN c k (c k - 1)) = ixC cap c + hpN cap (k - 1) := by
  have q := (hix_up (cap := cap) (c := gnN cap c) (r := k) (v := cap k - (c k - 1)) k1 10).2 k2
  unfold ixC
  rw [gnN_up]
  have e : gnN cap c k = cap k - c k := rfl
  have e2 : cap k - (c k - 1) = (cap k - c k) + 1 := by omega
  rw [e, e2, Nat.add_mul, Nat.one_mul] at q
  rw [e2]
  omega
theorem ptK_up {c0 c : Nat → Nat} {k v : Nat} (k1 : 1 ≤ k) : ∀ n, (n < k → ptK c0 (updN c k v) n = ptK c0 c n) ∧ (k ≤ n → ptK c0 (updN c k v) n + k * (c0 k - c k) = ptK c0 c n + k * (c0 k - v)) := by
  intro n
  induction n with
  | zero => exact ⟨fun _ => rfl, fun a => by omega⟩
  | succ n ih =>
    have e : ptK c0 (updN c k v) (n + 1) = ptK c0 (updN c k v) n + (n + 1) * (c0 (n + 1) - updN c k v (n + 1)) := rfl
    have e2 : ptK c0 c (n + 1) = ptK c0 c n + (n + 1) * (c0 (n + 1) - c (n + 1)) := rfl
    rw [e, e2]
    refine ⟨fun a => ?_, fun a => ?_⟩
    · have : updN c k v (n + 1) = c (n + 1) := by unfold updN; rw [if_neg (by omega)]
      rw [this, ih.1 (by omega)]
    · rcases Nat.lt_or_ge n k with z | z
      · obtain rfl : k = n + 1 := by omega
        have : updN c (n + 1) v (n + 1) = v := by unfold updN; rw [if_pos rfl]
        rw [this, ih.1 z]
        omega
      · have : updN c k v (n + 1) = c (n + 1) := by unfold updN; rw [if_neg (by omega)]
        rw [this]
        have := ih.2 z
        omega
theorem ptK_dec {c0 c : Nat → Nat} {k : Nat} (k1 : 1 ≤ k) (k2 : k ≤ 10) (hp : 0 < c k) (hc : c k ≤ c0 k) : ptK c0 (updN c k (c k - 1)) 10 = ptK c0 c 10 + k := by
  have q := (ptK_up (c0 := c0) (c := c) (k := k) (v := c k - 1) k1 10).2 k2
  have e2 : c0 k - (c k - 1) = (c0 k - c k) + 1 := by omega
  rw [e2, Nat.mul_add, Nat.mul_one] at q
  omega
theorem ptK_self (c : Nat → Nat) : ∀ n, ptK c c n = 0 := by
  intro n
  induction n with
  | zero => rfl
  | succ n ih =>
    show ptK c c n + (n + 1) * (c (n + 1) - c (n + 1)) = 0
    rw [ih, Nat.sub_self, Nat.mul_zero]
theorem ptK_le (c0 c : Nat → Nat) : ∀ n, n ≤ 10 → ptK c0 c n ≤ 10 * smU c0 n := by
  intro n
  induction n with
  | zero => intro _; exact Nat.le_refl 0
  | succ n ih =>
    intro h
    show ptK c0 c n + (n + 1) * (c0 (n + 1) - c (n + 1)) ≤ 10 * (smU c0 n + c0 (n + 1))
    have a := ih (by omega)
    have b : (n + 1) * (c0 (n + 1) - c (n + 1)) ≤ 10 * c0 (n + 1) := Nat.mul_le_mul h (Nat.sub_le _ _)
    omega
theorem smU_le {c c' : Nat → Nat} : ∀ n, (∀ r, 1 ≤ r → r ≤ n → c r ≤ c' r) → smU c n ≤ smU c' n := by
  intro n
  induction n with
  | zero => intro _; exact Nat.le_refl 0
  | succ n ih =>
    intro h
    show smU c n + c (n + 1) ≤ smU c' n + c' (n + 1)
    have a := ih (fun r x y => h r x (by omega))
    have b := h (n + 1) (by omega) (Nat.le_refl _)
    omega
theorem smN_mo {c c' : Nat → Nat} (h : le10 c c') : smN c ≤ smN c' := by
  have := smU_le (c := c) (c' := c') 10 h
  rw [smU_10, smU_10] at this
  exact this
theorem le10_dec {c c0 : Nat → Nat} {k : Nat} (h : le10 c c0) : le10 (updN c k (c k - 1)) c0 := by
  intro r a b
  have := h r a b
  unfold updN
  by_cases z : r = k
  · subst z; rw [if_pos rfl]; omega
  · rw [if_neg z]; exact this
theorem le10_tr {a b c : Nat → Nat} (h1 : le10 a b) (h2 : le10 b c) : le10 a c := fun r x y => Nat.le_trans (h1 r x y) (h2 r x y)
theorem le10_rf (a : Nat → Nat) : le10 a a := fun _ _ _ => Nat.le_refl _
/-- the totals that hold in this round are these -/
def MV (w : Nat → Int32) (py : Nat → Int64) (cap c0 : Nat → Nat) (s0 : Nat) (a0 : Bool) (ht : Nat → Int64) (hr : Nat → Int32) (hrd : Int32) : Prop := ∀ c, le10 c c0 → hr (ixC cap c) = hrd → ht (ixC cap c) = hv (goC w) (scC w py) (smN c) c (nI (s0 + ptK c0 c 10)) (a0 || decide (c 1 < c0 1))
def RI (hr : Nat → Int32) (hrd : Int32) : Prop := ∀ h, h < 2304 → (hr h).toInt ≤ hrd.toInt
/-- where a house stands: its heap, its sum, its ace, its cards -/
def HVc (cap c0 c : Nat → Nat) (f sp : Nat → Int32) (s0 : Nat) (a0 : Bool) (p0 p1 : Int32) (p2 : Bool) (p3 : Int32) : Prop :=
  smN cap ≤ 12 ∧ le10 c0 cap ∧ le10 c c0 ∧ cntI f c ∧ (∀ j, 1 ≤ j → j ≤ 10 → sp j = nI (hpN cap (j - 1))) ∧ s0 ≤ 10 ∧ p0 = nI (ixC cap c) ∧ p1 = nI (s0 + ptK c0 c 10) ∧ p2 = (a0 || decide (c 1 < c0 1)) ∧ p3 = nI (smN c)
theorem HVc.b {cap c0 c : Nat → Nat} {f sp : Nat → Int32} {s0 : Nat} {a0 : Bool} {p0 p1 : Int32} {p2 : Bool} {p3 : Int32} (h : HVc cap c0 c f sp s0 a0 p0 p1 p2 p3) : smN c ≤ 12 ∧ s0 + ptK c0 c 10 ≤ 130 ∧ ixC cap c < 2304 := by
  obtain ⟨a, b, c1, -, -, s, -⟩ := h
  have q := ptK_le c0 c 10 (by omega)
  rw [smU_10] at q
  have := smN_mo b
  have := smN_mo c1
  exact ⟨by omega, by omega, ixC_lt a⟩
theorem HVc.i {cap c0 c : Nat → Nat} {f sp : Nat → Int32} {s0 : Nat} {a0 : Bool} {p0 p1 : Int32} {p2 : Bool} {p3 : Int32} (h : HVc cap c0 c f sp s0 a0 p0 p1 p2 p3) : ¬ p0 < 0 ∧ ¬ 2304 ≤ p0 ∧ 0 ≤ p1 ∧ p1.toInt ≤ 130 ∧ p3.toInt = smN c ∧ p1.toInt = ((s0 + ptK c0 c 10 : Nat) : Int) := by
  have q := h.b
  obtain ⟨-, -, -, -, -, -, e0, e1, -, e3⟩ := h
  subst e0; subst e1; subst e3
  have t23 : (2304 : Int32).toInt = 2304 := by decide
  rw [ltI, leI, leI, toInt_nI (by omega), toInt_nI (by omega), toInt_nI (by omega), t0, t23]
  exact ⟨by omega, by omega, by omega, by omega, rfl, rfl⟩
theorem HVc.s {cap c0 c : Nat → Nat} {f sp : Nat → Int32} {s0 : Nat} {a0 : Bool} {p0 p1 : Int32} {p2 : Bool} {p3 : Int32} {k : Nat} (h : HVc cap c0 c f sp s0 a0 p0 p1 p2 p3) (k1 : 1 ≤ k) (k2 : k ≤ 10) (hp : 0 < c k) :
    HVc cap c0 (updN c k (c k - 1)) (upd f k (f k - 1)) sp s0 a0 (p0 + sp k) (p1 + nI k) (p2 || decide (nI k = 1)) (p3 - 1) := by
  obtain ⟨a, b, c1, cn, st, s, e0, e1, e2, e3⟩ := h
  have ck := Nat.le_trans (c1 k k1 k2) (b k k1 k2)
  refine ⟨a, b, le10_dec c1, cntI_dec cn k1 k2 hp, st, s, ?_, ?_, ?_, ?_⟩
  · rw [e0, st k k1 k2, nI_add, ixC_dec k1 k2 hp ck]
  · rw [e1, nI_add, ptK_dec k1 k2 hp (c1 k k1 k2), Nat.add_assoc]
  · rw [e2, Bool.or_assoc]
    congr 1
    have n1 : decide (nI k = 1) = decide (k = 1) := by rw [decide_eq_decide]; exact nI_eq (a := k) (b := 1) (by omega) (by decide)
    rw [n1]
    unfold updN
    by_cases z : k = 1
    · subst z
      rw [if_pos rfl, decide_eq_true rfl, Bool.or_true, decide_eq_true]
      have := c1 1 (by omega) (by omega)
      omega
    · rw [if_neg (by omega), decide_eq_false z, Bool.or_false]
  · rw [e3]
    have := smN_dec k1 k2 hp
    rw [← this, ← nI_add]
    exact Int32.add_sub_cancel _ _
theorem orC_n {n : Nat} (h : n ≤ 12) : orC (nI n) = ord0 n := by
  unfold orC
  rw [if_neg (by rw [ltI, toInt_nI (by omega), t0]; omega), if_neg (by rw [leI, toInt_nI (by omega), t13]; omega), nI_clamp (by omega)]
theorem hv_lf {go : Int32 → Bool → Bool} {sc : Int32 → Bool → Int64} {n : Nat} {c : Nat → Nat} {s : Int32} {a : Bool} (h : n = 0 ∨ go s a = false) : hv go sc n c s a = sc s a * ord0 n := by
  cases n with
  | zero => rfl
  | succ n =>
    rcases h with h | h
    · omega
    · show (if go s a then _ else sc s a * ord0 (n + 1)) = _
      rw [h]
      rfl
/-- what is added for one rank -/
def hvF (w : Nat → Int32) (py : Nat → Int64) (c : Nat → Nat) (s : Int32) (a : Bool) : Nat → Int64 := fun r => if c r = 0 then 0 else lN (c r) * hv (goC w) (scC w py) (smN c - 1) (updN c r (c r - 1)) (s + nI r) (a || decide (nI r = 1))
theorem hv_nd {w : Nat → Int32} {py : Nat → Int64} {c : Nat → Nat} {s : Int32} {a : Bool} (h : 0 < smN c) (hg : ¬ gnC w (vlC w s a) (!decide (vlC w s a = s)) = 0) : hv (goC w) (scC w py) (smN c) c s a = hsm (hvF w py c s a) 10 := by
  unfold hvF
  generalize smN c = n at h ⊢
  cases n with
  | zero => omega
  | succ n =>
    show (if goC w s a then _ else _) = _
    have g : goC w s a = true := by unfold goC; rw [decide_eq_false hg]; rfl
    rw [g, if_pos rfl]
    rfl
theorem goC_0 {w : Nat → Int32} {s : Int32} {a : Bool} (h : gnC w (vlC w s a) (!decide (vlC w s a = s)) = 0) : goC w s a = false := by
  unfold goC
  rw [decide_eq_true h]
  rfl
theorem MV.set {w : Nat → Int32} {py : Nat → Int64} {cap c0 c : Nat → Nat} {s0 : Nat} {a0 : Bool} {ht : Nat → Int64} {hr : Nat → Int32} {hrd : Int32} (h : MV w py cap c0 s0 a0 ht hr hrd) (hb : le10 c0 cap) (hc : le10 c c0) {al : Int64} (e : al = hv (goC w) (scC w py) (smN c) c (nI (s0 + ptK c0 c 10)) (a0 || decide (c 1 < c0 1))) :
    MV w py cap c0 s0 a0 (vp_updL ht (ixC cap c) al) (upd hr (ixC cap c) hrd) hrd := by
  intro c' l z
  unfold vp_updL
  by_cases y : ixC cap c' = ixC cap c
  · rw [if_pos y, e]
    have q := ixC_inj (le10_tr l hb) (le10_tr hc hb) y
    have e1 : ptK c0 c' 10 = ptK c0 c 10 := by
      have : ∀ n, n ≤ 10 → ptK c0 c' n = ptK c0 c n := by
        intro n
        induction n with
        | zero => intro _; rfl
        | succ n ih =>
          intro hn
          show ptK c0 c' n + (n + 1) * (c0 (n + 1) - c' (n + 1)) = ptK c0 c n + (n + 1) * (c0 (n + 1) - c (n + 1))
          rw [ih (by omega), q (n + 1) (by omega) hn]
      exact this 10 (by omega)
    have e2 : smN c' = smN c := by
      unfold smN
      rw [q 1 (by omega) (by omega), q 2 (by omega) (by omega), q 3 (by omega) (by omega), q 4 (by omega) (by omega), q 5 (by omega) (by omega), q 6 (by omega) (by omega), q 7 (by omega) (by omega), q 8 (by omega) (by omega), q 9 (by omega) (by omega), q 10 (by omega) (by omega)]
    rw [e1, e2, q 1 (by omega) (by omega), hv_cg _ c' c _ _ q]
  · rw [if_neg y]
    unfold upd at z
    rw [if_neg y] at z
    exact h c' l z
theorem RI.set {hr : Nat → Int32} {hrd : Int32} (h : RI hr hrd) (i : Nat) : RI (upd hr i hrd) hrd := by
  intro j a
  unfold upd
  by_cases z : j = i
  · rw [if_pos z]; exact Int.le_refl _
  · rw [if_neg z]; exact h j a
theorem RI.up {hr : Nat → Int32} {hrd : Int32} (h : RI hr hrd) (hb : hrd.toInt < 2147483647) : RI hr (hrd + 1) ∧ (hrd + 1).toInt = hrd.toInt + 1 ∧ ∀ j, j < 2304 → ¬ hr j = hrd + 1 := by
  have e : (hrd + 1).toInt = hrd.toInt + 1 := by rw [i32_add (by rw [t1]; have := hrd.le_toInt; omega) (by rw [t1]; omega), t1]
  refine ⟨fun j a => by have := h j a; omega, e, fun j a z => ?_⟩
  have := h j a
  rw [z] at this
  omega
theorem MV.new {w : Nat → Int32} {py : Nat → Int64} {cap c0 : Nat → Nat} {s0 : Nat} {a0 : Bool} {ht : Nat → Int64} {hr : Nat → Int32} {hrd : Int32} (hc : smN cap ≤ 12) (h : ∀ j, j < 2304 → ¬ hr j = hrd) : MV w py cap c0 s0 a0 ht hr hrd := fun c _ z => absurd z (h _ (ixC_lt hc))
theorem hsm_s {F : Nat → Int64} {k : Nat} (h : 1 ≤ k) : hsm F k = hsm F (k - 1) + F k := by
  obtain ⟨i, rfl⟩ : ∃ i, k = i + 1 := ⟨k - 1, by omega⟩
  rfl
