/-! what the class keeps of the player's going on -/
def mxL (a b : Int64) : Int64 := if b < a then a else b
def plV (w : Nat → Int32) (un : Nat) : Nat → (Nat → Nat) → Int32 → Bool → Int32 → Int64
  | 0, c, s, a, z => stV w un c s a z
  | n + 1, c, s, a, z => if buC w s = 0 then mxL (stV w un c s a z) (hsm (fun r => if c r = 0 then 0 else lN (c r) * plV w un n (updN c r (c r - 1)) (s + nI r) (a || decide (nI r = 1)) (z + 1)) 10) else (-2) * ord0 (n + 1)
def drF (w : Nat → Int32) (un : Nat) (c : Nat → Nat) (s : Int32) (a : Bool) (z : Int32) : Nat → Int64 := fun r => if c r = 0 then 0 else lN (c r) * plV w un (smN c - 1) (updN c r (c r - 1)) (s + nI r) (a || decide (nI r = 1)) (z + 1)
def plR (w : Nat → Int32) (un : Nat) (cap c : Nat → Nat) (s : Int32) (a : Bool) (z : Int32) : Int64 := if ixC cap c = 0 then (if buC w s = 0 then hsm (drF w un c s a z) 10 else (-2) * ord0 (smN c)) else plV w un (smN c) c s a z
theorem smN_cg {c c' : Nat → Nat} (q : ∀ j, 1 ≤ j → j ≤ 10 → c j = c' j) : smN c = smN c' := by
  unfold smN
  rw [q 1 (by omega) (by omega), q 2 (by omega) (by omega), q 3 (by omega) (by omega), q 4 (by omega) (by omega), q 5 (by omega) (by omega), q 6 (by omega) (by omega), q 7 (by omega) (by omega), q 8 (by omega) (by omega), q 9 (by omega) (by omega), q 10 (by omega) (by omega)]
theorem ptK_cg {c0 c c' : Nat → Nat} (q : ∀ j, 1 ≤ j → j ≤ 10 → c j = c' j) : ∀ n, n ≤ 10 → ptK c0 c n = ptK c0 c' n := by
  intro n
  induction n with
  | zero => intro _; rfl
  | succ n ih =>
    intro hn
    show ptK c0 c n + (n + 1) * (c0 (n + 1) - c (n + 1)) = ptK c0 c' n + (n + 1) * (c0 (n + 1) - c' (n + 1))
    rw [ih (by omega), q (n + 1) (by omega) hn]
theorem stV_cg {w : Nat → Int32} {un : Nat} {c c' : Nat → Nat} {s : Int32} {a : Bool} {z : Int32} (q : ∀ j, 1 ≤ j → j ≤ 10 → c j = c' j) : stV w un c s a z = stV w un c' s a z := by
  unfold stV hoV
  rw [smN_cg q, hv_cg _ c c' _ _ q]
theorem plV_cg {w : Nat → Int32} {un : Nat} : ∀ n (c c' : Nat → Nat) (s : Int32) (a : Bool) (z : Int32), (∀ j, 1 ≤ j → j ≤ 10 → c j = c' j) → plV w un n c s a z = plV w un n c' s a z := by
  intro n
  induction n with
  | zero => intro c c' s a z h; exact stV_cg h
  | succ n ih =>
    intro c c' s a z h
    show (if buC w s = 0 then mxL (stV w un c s a z) (hsm (fun r => if c r = 0 then 0 else lN (c r) * plV w un n (updN c r (c r - 1)) (s + nI r) (a || decide (nI r = 1)) (z + 1)) 10) else (-2) * ord0 (n + 1)) = (if buC w s = 0 then mxL (stV w un c' s a z) (hsm (fun r => if c' r = 0 then 0 else lN (c' r) * plV w un n (updN c' r (c' r - 1)) (s + nI r) (a || decide (nI r = 1)) (z + 1)) 10) else (-2) * ord0 (n + 1))
    rw [stV_cg h, hsm_cg 10 (fun r x y => ?_)]
    show (if c r = 0 then (0 : Int64) else lN (c r) * plV w un n (updN c r (c r - 1)) (s + nI r) (a || decide (nI r = 1)) (z + 1)) = (if c' r = 0 then 0 else lN (c' r) * plV w un n (updN c' r (c' r - 1)) (s + nI r) (a || decide (nI r = 1)) (z + 1))
    rw [ih (updN c r (c r - 1)) (updN c' r (c' r - 1)) _ _ _ (updN_cg h (by rw [h r x y])), h r x y]
theorem hsm_z {F : Nat → Int64} : ∀ k, (∀ r, 1 ≤ r → r ≤ k → F r = 0) → hsm F k = 0 := by
  intro k
  induction k with
  | zero => intro _; rfl
  | succ k ih =>
    intro h
    show hsm F k + F (k + 1) = 0
    rw [ih (fun r x y => h r x (by omega)), h (k + 1) (by omega) (Nat.le_refl _)]
    rfl
/-- how many heaps are still unknown in this round -/
def uC (pr : Nat → Int32) (prd : Int32) : Nat → Nat
  | 0 => 0
  | h + 1 => uC pr prd h + (if pr h = prd then 0 else 1)
theorem uC_le (pr : Nat → Int32) (prd : Int32) : ∀ n, uC pr prd n ≤ n := by
  intro n
  induction n with
  | zero => exact Nat.le_refl 0
  | succ n ih =>
    show uC pr prd n + (if pr n = prd then 0 else 1) ≤ n + 1
    split <;> omega
theorem uC_ab {pr : Nat → Int32} {prd : Int32} {i : Nat} : ∀ n, n ≤ i → uC (upd pr i prd) prd n = uC pr prd n := by
  intro n
  induction n with
  | zero => intro _; rfl
  | succ n ih =>
    intro h
    show uC (upd pr i prd) prd n + (if upd pr i prd n = prd then 0 else 1) = uC pr prd n + (if pr n = prd then 0 else 1)
    have e : upd pr i prd n = pr n := by unfold upd; rw [if_neg (by omega)]
    rw [ih (by omega), e]
theorem uC_set {pr : Nat → Int32} {prd : Int32} {i : Nat} (hne : ¬ pr i = prd) : ∀ n, i < n → uC (upd pr i prd) prd n + 1 = uC pr prd n := by
  intro n
  induction n with
  | zero => intro h; omega
  | succ n ih =>
    intro h
    show uC (upd pr i prd) prd n + (if upd pr i prd n = prd then 0 else 1) + 1 = uC pr prd n + (if pr n = prd then 0 else 1)
    rcases Nat.lt_or_ge i n with z | z
    · have e : upd pr i prd n = pr n := by unfold upd; rw [if_neg (by omega)]
      have := ih z
      rw [e]
      omega
    · obtain rfl : i = n := by omega
      have e : upd pr i prd i = prd := by unfold upd; rw [if_pos rfl]
      rw [uC_ab i (Nat.le_refl _), e, if_pos rfl, if_neg hne]
/-- where a player stands: the heap, the sum, the ace, the size, the cards -/
def PVc (cap c : Nat → Nat) (f sp : Nat → Int32) (sN : Nat) (a0 : Bool) (zN : Nat) (p0 p1 : Int32) (p2 : Bool) (p3 p4 : Int32) : Prop :=
  smN cap ≤ 12 ∧ le10 c cap ∧ cntI f c ∧ (∀ j, 1 ≤ j → j ≤ 10 → sp j = nI (hpN cap (j - 1))) ∧ sN ≤ 120 ∧ zN ≤ 12 ∧ p0 = nI (ixC cap c) ∧ p1 = nI (sN + ptK cap c 10) ∧ p2 = (a0 || decide (c 1 < cap 1)) ∧ p3 = nI (zN + (smN cap - smN c)) ∧ p4 = nI (smN c)
theorem PVc.b {cap c : Nat → Nat} {f sp : Nat → Int32} {sN zN : Nat} {a0 : Bool} {p0 p1 : Int32} {p2 : Bool} {p3 p4 : Int32} (h : PVc cap c f sp sN a0 zN p0 p1 p2 p3 p4) : smN c ≤ 12 ∧ sN + ptK cap c 10 ≤ 240 ∧ ixC cap c < 2304 := by
  obtain ⟨a, b, -, -, s, -⟩ := h
  have q := ptK_le cap c 10 (by omega)
  rw [smU_10] at q
  have := smN_mo b
  exact ⟨by omega, by omega, ixC_lt a⟩
theorem PVc.i {cap c : Nat → Nat} {f sp : Nat → Int32} {sN zN : Nat} {a0 : Bool} {p0 p1 : Int32} {p2 : Bool} {p3 p4 : Int32} (h : PVc cap c f sp sN a0 zN p0 p1 p2 p3 p4) : ¬ p0 < 0 ∧ p0 < 2304 ∧ p4.toInt = smN c ∧ p0.toNatClampNeg = ixC cap c ∧ (p0 = 0 ↔ ixC cap c = 0) := by
  have q := h.b
  obtain ⟨-, -, -, -, -, -, e0, -, -, -, e4⟩ := h
  subst e0; subst e4
  have t23 : (2304 : Int32).toInt = 2304 := by decide
  rw [ltI, ltI, toInt_nI (by omega), toInt_nI (by omega), t0, t23]
  exact ⟨by omega, by omega, rfl, nI_clamp (by omega), nI_eq (a := ixC cap c) (b := 0) (by omega) (by decide)⟩
theorem PVc.s {cap c : Nat → Nat} {f sp : Nat → Int32} {sN zN : Nat} {a0 : Bool} {p0 p1 : Int32} {p2 : Bool} {p3 p4 : Int32} {k : Nat} (h : PVc cap c f sp sN a0 zN p0 p1 p2 p3 p4) (k1 : 1 ≤ k) (k2 : k ≤ 10) (hp : 0 < c k) :
    PVc cap (updN c k (c k - 1)) (upd f k (f k - 1)) sp sN a0 zN (p0 + sp k) (p1 + nI k) (p2 || decide (nI k = 1)) (p3 + 1) (p4 - 1) := by
  obtain ⟨a, b, cn, st, s, z, e0, e1, e2, e3, e4⟩ := h
  have hd := smN_dec k1 k2 hp
  have mo := smN_mo b
  refine ⟨a, le10_dec b, cntI_dec cn k1 k2 hp, st, s, z, ?_, ?_, ?_, ?_, ?_⟩
  · rw [e0, st k k1 k2, nI_add, ixC_dec k1 k2 hp (b k k1 k2)]
  · rw [e1, nI_add, ptK_dec k1 k2 hp (b k k1 k2), Nat.add_assoc]
  · rw [e2, Bool.or_assoc]
    congr 1
    have n1 : decide (nI k = 1) = decide (k = 1) := by rw [decide_eq_decide]; exact nI_eq (a := k) (b := 1) (by omega) (by decide)
    rw [n1]
    unfold updN
    by_cases z : k = 1
    · subst z
      rw [if_pos rfl, decide_eq_true rfl, Bool.or_true, decide_eq_true]
      have := b 1 (by omega) (by omega)
      omega
    · rw [if_neg (by omega), decide_eq_false z, Bool.or_false]
  · rw [e3, show zN + (smN cap - smN (updN c k (c k - 1))) = zN + (smN cap - smN c) + 1 by omega]
    exact nI_add (zN + (smN cap - smN c)) 1
  · rw [e4, ← hd, ← nI_add]
    exact Int32.add_sub_cancel _ _
theorem PVc.ix {cap c : Nat → Nat} {f sp : Nat → Int32} {sN zN : Nat} {a0 : Bool} {p0 p1 : Int32} {p2 : Bool} {p3 p4 : Int32} {k : Nat} (h : PVc cap c f sp sN a0 zN p0 p1 p2 p3 p4) (k1 : 1 ≤ k) (k2 : k ≤ 10) (hp : 0 < c k) : ixC cap c < ixC cap (updN c k (c k - 1)) := by
  rw [ixC_dec k1 k2 hp (h.2.1 k k1 k2)]
  have := hpN_pos cap (k - 1)
  omega
/-- the player's totals that hold in this round are these -/
def PM (w : Nat → Int32) (un : Nat) (cap : Nat → Nat) (sN : Nat) (a0 : Bool) (zN : Nat) (pt : Nat → Int64) (pr : Nat → Int32) (prd : Int32) : Prop := ∀ c, le10 c cap → ¬ ixC cap c = 0 → pr (ixC cap c) = prd → pt (ixC cap c) = plV w un (smN c) c (nI (sN + ptK cap c 10)) (a0 || decide (c 1 < cap 1)) (nI (zN + (smN cap - smN c)))
theorem PM.set {w : Nat → Int32} {un : Nat} {cap c : Nat → Nat} {sN zN : Nat} {a0 : Bool} {pt : Nat → Int64} {pr : Nat → Int32} {prd : Int32} (h : PM w un cap sN a0 zN pt pr prd) (hc : le10 c cap) {al : Int64} (e : ¬ ixC cap c = 0 → al = plV w un (smN c) c (nI (sN + ptK cap c 10)) (a0 || decide (c 1 < cap 1)) (nI (zN + (smN cap - smN c)))) :
    PM w un cap sN a0 zN (vp_updL pt (ixC cap c) al) (upd pr (ixC cap c) prd) prd := by
  intro c' l nz z
  unfold vp_updL
  by_cases y : ixC cap c' = ixC cap c
  · have q := ixC_inj l hc y
    rw [if_pos y, e (by rw [← y]; exact nz), ptK_cg q 10 (by omega), smN_cg q, q 1 (by omega) (by omega), plV_cg _ c' c _ _ _ q]
  · rw [if_neg y]
    unfold upd at z
    rw [if_neg y] at z
    exact h c' l nz z
theorem PM.new {w : Nat → Int32} {un : Nat} {cap : Nat → Nat} {sN zN : Nat} {a0 : Bool} {pt : Nat → Int64} {pr : Nat → Int32} {prd : Int32} (hc : smN cap ≤ 12) (h : ∀ j, j < 2304 → ¬ pr j = prd) : PM w un cap sN a0 zN pt pr prd := fun c _ _ z => absurd z (h _ (ixC_lt hc))
/-- what a round has grown by: amid it, and behind it -/
def PGs (cap c : Nat → Nat) (hra : Nat → Int32) (hrd : Int32) (pra : Nat → Int32) (prd : Int32) (prO : Nat → Int32) (hrO : Int32) : Prop := RI hra hrd ∧ RI pra prd ∧ hrO.toInt ≤ hrd.toInt ∧ hrd.toInt + (uC pra prd 2304 : Int) ≤ hrO.toInt + (uC prO prd 2304 : Int) ∧ ∀ h, h ≤ ixC cap c → pra h = prO h
def PGr (cap c : Nat → Nat) (hra : Nat → Int32) (hrd : Int32) (pra : Nat → Int32) (prd : Int32) (prO : Nat → Int32) (hrO : Int32) : Prop := RI hra hrd ∧ RI pra prd ∧ hrO.toInt ≤ hrd.toInt ∧ hrd.toInt + (uC pra prd 2304 : Int) ≤ hrO.toInt + (uC prO prd 2304 : Int) ∧ ∀ h, h < ixC cap c → pra h = prO h
theorem PGr.j {cap c c' : Nat → Nat} {hra hr2 pra pr2 prO : Nat → Int32} {hrd hrd2 prd hrO : Int32} (h : PGs cap c hra hrd pra prd prO hrO) (h2 : PGr cap c' hr2 hrd2 pr2 prd pra hrd) (l : ixC cap c < ixC cap c') : PGs cap c hr2 hrd2 pr2 prd prO hrO := by
  obtain ⟨a, b, c1, d, e⟩ := h
  obtain ⟨a2, b2, c2, d2, e2⟩ := h2
  exact ⟨a2, b2, by omega, by omega, fun q x => (e2 q (by omega)).trans (e q x)⟩
/-- a heap is set behind its stand, if there is one -/
theorem PGs.e {cap c : Nat → Nat} {hra hr2 pra prO : Nat → Int32} {hrd hrd2 prd hrO : Int32} (h : PGs cap c hra hrd pra prd prO hrO) (hi : ixC cap c < 2304) (hne : ¬ prO (ixC cap c) = prd) (h1 : RI hr2 hrd2) (h2 : hrd.toInt ≤ hrd2.toInt) (h3 : hrd2.toInt ≤ hrd.toInt + 1) : PGr cap c hr2 hrd2 (upd pra (ixC cap c) prd) prd prO hrO := by
  obtain ⟨a, b, c1, d, e⟩ := h
  have q := uC_set (pr := pra) (prd := prd) (i := ixC cap c) (by rw [e _ (Nat.le_refl _)]; exact hne) 2304 hi
  refine ⟨h1, b.set _, by omega, by omega, fun j x => ?_⟩
  rw [← e j (by omega)]
  unfold upd
  rw [if_neg (by omega)]
theorem plR_b {w : Nat → Int32} {un : Nat} {cap c : Nat → Nat} {s : Int32} {a : Bool} {z : Int32} (hb : ¬ buC w s = 0) : (-2) * ord0 (smN c) = plR w un cap c s a z := by
  unfold plR
  have e : plV w un (smN c) c s a z = (-2) * ord0 (smN c) := by
    generalize hn : smN c = n
    cases n with
    | zero =>
      show stV w un c s a z = _
      unfold stV
      rw [if_neg hb, hn]
    | succ n =>
      show (if buC w s = 0 then _ else (-2) * ord0 (n + 1)) = _
      rw [if_neg hb]
  by_cases y : ixC cap c = 0
  · rw [if_pos y, if_neg hb]
  · rw [if_neg y, e]
theorem plR_0 {w : Nat → Int32} {un : Nat} {cap c : Nat → Nat} {s : Int32} {a : Bool} {z : Int32} (y : ixC cap c = 0) (hb : buC w s = 0) : hsm (drF w un c s a z) 10 = plR w un cap c s a z := by
  unfold plR
  rw [if_pos y, if_pos hb]
theorem plR_1 {w : Nat → Int32} {un : Nat} {cap c : Nat → Nat} {s : Int32} {a : Bool} {z : Int32} (y : ¬ ixC cap c = 0) (hb : buC w s = 0) (hp : 0 < smN c) : mxL (stV w un c s a z) (hsm (drF w un c s a z) 10) = plR w un cap c s a z := by
  unfold plR drF
  rw [if_neg y]
  generalize hn : smN c = n at hp
  cases n with
  | zero => omega
  | succ n =>
    show _ = (if buC w s = 0 then _ else (-2) * ord0 (n + 1))
    rw [if_pos hb]
    rfl
theorem plR_2 {w : Nat → Int32} {un : Nat} {cap c : Nat → Nat} {s : Int32} {a : Bool} {z : Int32} (y : ¬ ixC cap c = 0) (hp : smN c = 0) : stV w un c s a z = plR w un cap c s a z := by
  unfold plR
  rw [if_neg y, hp]
  rfl
theorem plR_n {w : Nat → Int32} {un : Nat} {cap c : Nat → Nat} {s : Int32} {a : Bool} {z : Int32} (y : ¬ ixC cap c = 0) : plR w un cap c s a z = plV w un (smN c) c s a z := by
  unfold plR
  rw [if_neg y]
theorem drF_y {w : Nat → Int32} {un : Nat} {c : Nat → Nat} {s r z : Int32} {a : Bool} {k : Nat} {rc : Int64} (e : r = nI (c k) ∧ c k ≤ 32) (hp : 0 < c k) (k1 : 1 ≤ k) (k2 : k ≤ 10) (ec : rc = plV w un (smN (updN c k (c k - 1))) (updN c k (c k - 1)) (s + nI k) (a || decide (nI k = 1)) (z + 1)) : drF w un c s a z k = r.toInt64 * rc := by
  unfold drF
  have q := smN_dec k1 k2 hp
  rw [if_neg (by omega), e.1, nI_l (by omega), ec, show smN c - 1 = smN (updN c k (c k - 1)) by omega]
theorem drF_n {w : Nat → Int32} {un : Nat} {c : Nat → Nat} {s z : Int32} {a : Bool} {k : Nat} (h : c k = 0) : drF w un c s a z k = 0 := by
  unfold drF
  rw [if_pos h]
theorem sm_0 {c : Nat → Nat} (h : smN c = 0) {r : Nat} (h1 : 1 ≤ r) (h2 : r ≤ 10) : c r = 0 := by
  unfold smN at h
  rcases rk_cases h1 h2 with rfl | rfl | rfl | rfl | rfl | rfl | rfl | rfl | rfl | rfl <;> omega
theorem hal_0 {F : Nat → Int64} {k : Nat} {al : Int64} (h : al = hsm F (k - 1)) (k2 : k ≤ 11) (z : ∀ r, 1 ≤ r → r ≤ 10 → F r = 0) : al = hsm F 10 := by
  rw [h, hsm_z 10 z, hsm_z (k - 1) (fun r x y => z r x (by omega))]
theorem PVc.hit {cap c : Nat → Nat} {f sp w : Nat → Int32} {un sN zN : Nat} {a0 : Bool} {p0 p1 : Int32} {p2 : Bool} {p3 p4 : Int32} {pt : Nat → Int64} {pr : Nat → Int32} {prd : Int32} (h : PVc cap c f sp sN a0 zN p0 p1 p2 p3 p4) (hM : PM w un cap sN a0 zN pt pr prd) (hz : ixC cap c = 0 → ¬ pr 0 = prd) (z : pr p0.toNatClampNeg = prd) : pt p0.toNatClampNeg = plR w un cap c p1 p2 p3 := by
  have q := h.i
  rw [q.2.2.2.1] at z ⊢
  have nz : ¬ ixC cap c = 0 := fun y => hz y (by rw [y] at z; exact z)
  obtain ⟨-, lc, -, -, -, -, -, e1, e2, e3, -⟩ := h
  rw [plR_n nz, hM c lc nz z, e1, e2, e3]
theorem PVc.end_ {cap c : Nat → Nat} {f sp w : Nat → Int32} {un sN zN : Nat} {a0 : Bool} {p0 p1 : Int32} {p2 : Bool} {p3 p4 : Int32} {pt : Nat → Int64} {hra hr2 pra prO : Nat → Int32} {hrd hrd2 prd hrO : Int32} {v : Int64} (h : PVc cap c f sp sN a0 zN p0 p1 p2 p3 p4) (hM : PM w un cap sN a0 zN pt pra prd) (hG : PGs cap c hra hrd pra prd prO hrO) (hmiss : ¬ prO p0.toNatClampNeg = prd) (ev : v = plR w un cap c p1 p2 p3) (h1 : RI hr2 hrd2) (h2 : hrd.toInt ≤ hrd2.toInt) (h3 : hrd2.toInt ≤ hrd.toInt + 1) :
    v = plR w un cap c p1 p2 p3 ∧ PM w un cap sN a0 zN (vp_updL pt p0.toNatClampNeg v) (upd pra p0.toNatClampNeg prd) prd ∧ PGr cap c hr2 hrd2 (upd pra p0.toNatClampNeg prd) prd prO hrO := by
  have q := h.i
  have b := h.b
  rw [q.2.2.2.1] at hmiss ⊢
  obtain ⟨-, lc, -, -, -, -, -, e1, e2, e3, -⟩ := h
  exact ⟨ev, hM.set lc (fun nz => by rw [ev, plR_n nz, e1, e2, e3]), hG.e b.2.2 hmiss h1 h2 h3⟩
theorem PGr.rf {cap c : Nat → Nat} {hra pra : Nat → Int32} {hrd prd : Int32} (h1 : RI hra hrd) (h2 : RI pra prd) : PGr cap c hra hrd pra prd pra hrd := ⟨h1, h2, Int.le_refl _, Int.le_refl _, fun _ _ => rfl⟩
theorem PGs.rf {cap c : Nat → Nat} {hra pra : Nat → Int32} {hrd prd : Int32} (h1 : RI hra hrd) (h2 : RI pra prd) : PGs cap c hra hrd pra prd pra hrd := ⟨h1, h2, Int.le_refl _, Int.le_refl _, fun _ _ => rfl⟩
/-! doubled, split, the acts -/
def dbF (w : Nat → Int32) (un : Nat) (c : Nat → Nat) (s : Int32) (a : Bool) (z : Int32) : Nat → Int64 := fun r => if c r = 0 then 0 else lN (c r) * stV w un (updN c r (c r - 1)) (s + nI r) (a || decide (nI r = 1)) (z + 1)
theorem dbF_y {w : Nat → Int32} {un : Nat} {c : Nat → Nat} {s r z : Int32} {a : Bool} {k : Nat} {rc : Int64} (e : r = nI (c k) ∧ c k ≤ 32) (hp : 0 < c k) (ec : rc = stV w un (updN c k (c k - 1)) (s + nI k) (a || decide (nI k = 1)) (z + 1)) : dbF w un c s a z k = r.toInt64 * rc := by
  unfold dbF
  rw [if_neg (by omega), e.1, nI_l (by omega), ec]
theorem dbF_n {w : Nat → Int32} {un : Nat} {c : Nat → Nat} {s z : Int32} {a : Bool} {k : Nat} (h : c k = 0) : dbF w un c s a z k = 0 := by
  unfold dbF
  rw [if_pos h]
def vlS (w : Nat → Int32) (card : Int32) (k : Nat) : Int32 := vlC w (card + nI k) (decide (card = 1) || decide (nI k = 1))
def spF (w : Nat → Int32) (un : Nat) (card : Int32) (n k : Nat) (c : Nat → Nat) : Nat → Int64 := fun j => if c j = 0 then 0 else lN n * lN (c j) * hoV w (pyB w (vlS w card k) (vlS w card j)) un (updN c j (c j - 1))
def spG (w : Nat → Int32) (un : Nat) (card : Int32) (c : Nat → Nat) : Nat → Int64 := fun k => if c k = 0 then 0 else hsm (spF w un card (c k) k (updN c k (c k - 1))) 10
theorem spF_y {w : Nat → Int32} {un : Nat} {card r : Int32} {n k j : Nat} {c : Nat → Nat} {x rc : Int64} (e : r = nI (c j) ∧ c j ≤ 32) (hp : 0 < c j) (ex : x = lN n) (ec : rc = hoV w (pyB w (vlS w card k) (vlS w card j)) un (updN c j (c j - 1))) : spF w un card n k c j = x * r.toInt64 * rc := by
  unfold spF
  rw [if_neg (by omega), e.1, nI_l (by omega), ec, ex]
theorem spF_n {w : Nat → Int32} {un : Nat} {card : Int32} {n k j : Nat} {c : Nat → Nat} (h : c j = 0) : spF w un card n k c j = 0 := by
  unfold spF
  rw [if_pos h]
theorem hal_y2 {F : Nat → Int64} {k : Nat} {al x y : Int64} (k1 : 1 ≤ k) (h : al = y + hsm F (k - 1)) (e : F k = x) : al + x = y + hsm F (k + 1 - 1) := by rw [show k + 1 - 1 = k by omega, hsm_s k1, h, e, Int64.add_assoc]
theorem hal_n2 {F : Nat → Int64} {k : Nat} {al y : Int64} (k1 : 1 ≤ k) (h : al = y + hsm F (k - 1)) (e : F k = 0) : al = y + hsm F (k + 1 - 1) := by rw [show k + 1 - 1 = k by omega, hsm_s k1, h, e, Int64.add_zero]
theorem ix_1 {c : Nat → Nat} {k : Nat} (k1 : 1 ≤ k) (k2 : k ≤ 10) (hp : 0 < c k) : hpN c (k - 1) = ixC c (updN c k (c k - 1)) := by rw [ixC_dec k1 k2 hp (Nat.le_refl _), ixC_self, Nat.zero_add]
theorem ix_2 {c : Nat → Nat} {k j : Nat} (k1 : 1 ≤ k) (k2 : k ≤ 10) (hp : 0 < c k) (j1 : 1 ≤ j) (j2 : j ≤ 10) (hj : 0 < updN c k (c k - 1) j) : hpN c (k - 1) + hpN c (j - 1) = ixC c (updN (updN c k (c k - 1)) j (updN c k (c k - 1) j - 1)) := by rw [ixC_dec j1 j2 hj (le10_dec (le10_rf c) j j1 j2), ix_1 k1 k2 hp]
/-- what an act is worth: the class's words -/
def acV (w : Nat → Int32) (un : Nat) (c : Nat → Nat) (s : Int32) (a : Bool) (z : Int32) (card act : Int32) : Int64 := if act = 0 then stV w un c s a z else if act = 1 then plR w un c c s a z else if act = 2 then 2 * hsm (dbF w un c s a z) 10 else if act = 3 then hsm (spG w un card c) 10 else (-1) * ord0 (smN c)
/-- the best act, and its worth, of the first k -/
def fbV (there : Nat → Bool) (wo : Nat → Int64) : Nat → Int32 × Int64
  | 0 => (-1, 0)
  | k + 1 => if there k then (if (fbV there wo k).1 = -1 ∨ (fbV there wo k).2 < wo k then (nI k, wo k) else fbV there wo k) else fbV there wo k
theorem spF_0 {w : Nat → Int32} {un n k : Nat} {card : Int32} {c : Nat → Nat} (z : n = 0) (r : Nat) : spF w un card n k c r = 0 := by
  unfold spF
  rw [z]
  split
  · rfl
  · rw [show lN 0 = 0 by decide, Int64.zero_mul, Int64.zero_mul]
theorem sp_x0 {w : Nat → Int32} {un n k j : Nat} {card : Int32} {c : Nat → Nat} {al alO : Int64} (h : al = alO + hsm (spF w un card n k c) (j - 1)) (hn : n = 0) : al = alO + (if n = 0 then 0 else hsm (spF w un card n k c) 10) := by
  rw [if_pos hn, h, hsm_z (j - 1) (fun r _ _ => spF_0 hn r)]
theorem sp_x1 {w : Nat → Int32} {un n k : Nat} {card : Int32} {c : Nat → Nat} {al alO : Int64} (h : al = alO + hsm (spF w un card n k c) 10) : al = alO + (if n = 0 then 0 else hsm (spF w un card n k c) 10) := by
  by_cases z : n = 0
  · rw [if_pos z, h, hsm_z 10 (fun r _ _ => spF_0 z r)]
  · rw [if_neg z, h]
theorem sp_rm {f f2 : Nat → Int32} {c : Nat → Nat} {tot tot2 r : Int32} {k : Nat} (hc : cntI f c) (h1 : 1 ≤ k) (h2 : k ≤ 10) (ht : tot = nI (smN c)) (h : r = hdC f (nI k) ∧ if hdC f (nI k) ≤ 0 then tot2 = tot ∧ f2 = f else tot2 = tot - 1 ∧ f2 = upd f (nI k).toNatClampNeg (f (nI k).toNatClampNeg - 1)) : cntI f2 (updN c k (c k - 1)) ∧ tot2 = nI (smN (updN c k (c k - 1))) := by
  have e := rm_n hc h1 h2 h
  by_cases z : r ≤ 0
  · have q := rm_no h z
    have y := rm_le e z
    have u : ∀ j, updN c k (c k - 1) j = c j := by
      intro j
      unfold updN
      by_cases x : j = k
      · rw [if_pos x, x, y]
      · rw [if_neg x]
    have u2 : updN c k (c k - 1) = c := funext u
    rw [u2, q.1, q.2]
    exact ⟨hc, ht⟩
  · have p := rm_gt e z
    have q := rm_yes h z
    have d := smN_dec h1 h2 p
    rw [rm_f h2 h z]
    refine ⟨cntI_dec hc h1 h2 p, ?_⟩
    rw [q.1, ht, ← d, ← nI_add]
    exact Int32.add_sub_cancel _ _
theorem PVc.new {c : Nat → Nat} {f sp : Nat → Int32} {sN zN : Nat} {a0 : Bool} {tot sm n0 : Int32} (h : smN c ≤ 12) (hc : cntI f c) (hst : ∀ j, 1 ≤ j → j ≤ 10 → sp j = nI (hpN c (j - 1))) (hs : sN ≤ 120) (hz : zN ≤ 12) (e1 : sm = nI sN) (e3 : n0 = nI zN) (et : tot = nI (smN c)) : PVc c c f sp sN a0 zN 0 sm a0 n0 tot := by
  refine ⟨h, le10_rf c, hc, hst, hs, hz, by rw [ixC_self]; decide, ?_, ?_, ?_, et⟩
  · rw [ptK_self, e1]; rfl
  · rw [decide_eq_false (Nat.lt_irrefl _), Bool.or_false]
  · rw [Nat.sub_self, e3]; rfl
theorem ac_d {w : Nat → Int32} {un : Nat} {c : Nat → Nat} {s : Int32} {a : Bool} {z card act : Int32} (h0 : ¬ act = 0) (h1 : ¬ act = 1) (h2 : ¬ act = 2) (h3 : ¬ act = 3) : acV w un c s a z card act = (-1) * ord0 (smN c) := by
  unfold acV
  rw [if_neg h0, if_neg h1, if_neg h2, if_neg h3]
def thB (w : Nat → Int32) (n sm : Int32) (g : Nat → Int32) (up tot : Int32) : Nat → Bool := fun k => !decide (thC w n sm g up tot (nI k) = 0)
theorem fb_n {th : Nat → Bool} {wo : Nat → Int64} {k : Nat} {A : Int32} {T : Int64} (h : (A, T) = fbV th wo k) (e : th k = false) : (A, T) = fbV th wo (k + 1) := by
  show (A, T) = if th k then _ else fbV th wo k
  rw [e]
  exact h
theorem fb_y {th : Nat → Bool} {wo : Nat → Int64} {k : Nat} {A : Int32} {T v : Int64} (h : (A, T) = fbV th wo k) (e : th k = true) (ev : v = wo k) (z : A = -1 ∨ T < v) : (nI k, v) = fbV th wo (k + 1) := by
  show (nI k, v) = if th k then (if (fbV th wo k).1 = -1 ∨ (fbV th wo k).2 < wo k then (nI k, wo k) else fbV th wo k) else fbV th wo k
  rw [e, if_pos rfl, ← h, ← ev, if_pos z]
theorem fb_o {th : Nat → Bool} {wo : Nat → Int64} {k : Nat} {A : Int32} {T v : Int64} (h : (A, T) = fbV th wo k) (e : th k = true) (ev : v = wo k) (z : ¬ A = -1) (z2 : ¬ T < v) : (A, T) = fbV th wo (k + 1) := by
  show (A, T) = if th k then (if (fbV th wo k).1 = -1 ∨ (fbV th wo k).2 < wo k then (nI k, wo k) else fbV th wo k) else fbV th wo k
  rw [e, if_pos rfl, ← h, ← ev, if_neg (fun q => q.elim z z2)]
theorem thB_0 {w : Nat → Int32} {n sm : Int32} {g : Nat → Int32} {up tot : Int32} {k : Nat} (h : thC w n sm g up tot (nI k) = 0) : thB w n sm g up tot k = false := by
  unfold thB
  rw [decide_eq_true h]
  rfl
theorem thB_1 {w : Nat → Int32} {n sm : Int32} {g : Nat → Int32} {up tot : Int32} {k : Nat} (h : ¬ thC w n sm g up tot (nI k) = 0) : thB w n sm g up tot k = true := by
  unfold thB
  rw [decide_eq_false h]
  rfl
theorem l_nle {x y : Int64} (h : x < y) : ¬ y ≤ x := fun z => by rw [Int64.lt_iff_toInt_lt] at h; rw [Int64.le_iff_toInt_le] at z; omega
theorem l_lt {x y : Int64} (h : ¬ y ≤ x) : x < y := by rw [Int64.le_iff_toInt_le] at h; rw [Int64.lt_iff_toInt_lt]; omega
def gS (k : Nat) : Int := 100 * (k : Int) + (if 1 < k then 2204 else 0)
theorem gS_m (k : Nat) : gS k ≤ gS (k + 1) := by
  unfold gS
  by_cases z : 1 < k
  · rw [if_pos z, if_pos (by omega)]; omega
  · rw [if_neg z]
    split <;> omega
theorem gS_le (k : Nat) (h : k ≤ 5) : gS k ≤ 2704 := by
  unfold gS
  split <;> omega
theorem gr_k {k : Nat} (h : k ≤ 4) : (if nI k = 1 then (2304 : Int) else 100) + gS k ≤ gS (k + 1) := by
  rcases (show k = 0 ∨ k = 1 ∨ k = 2 ∨ k = 3 ∨ k = 4 by omega) with rfl | rfl | rfl | rfl | rfl <;> decide
