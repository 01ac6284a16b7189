theorem rm_n {f f2 : Nat → Int32} {c : Nat → Nat} {tot tot2 r : Int32} {k : Nat} (hc : cntI f c) (h1 : 1 ≤ k) (h2 : k ≤ 10) (h : r = hdC f (nI k) ∧ if hdC f (nI k) ≤ 0 then tot2 = tot ∧ f2 = f else tot2 = tot - 1 ∧ f2 = upd f (nI k).toNatClampNeg (f (nI k).toNatClampNeg - 1)) : r = nI (c k) ∧ c k ≤ 32 := ⟨by rw [h.1, hdC_k h1 h2, (hc k h1 h2).1], (hc k h1 h2).2⟩
theorem rm_gt {r : Int32} {n : Nat} (e : r = nI n ∧ n ≤ 32) (h : ¬ r ≤ 0) : 0 < n := by
  rw [e.1, leI, toInt_nI (by omega), t0] at h
  omega
theorem rm_le {r : Int32} {n : Nat} (e : r = nI n ∧ n ≤ 32) (h : r ≤ 0) : n = 0 := by
  rw [e.1, leI, toInt_nI (by omega), t0] at h
  omega
theorem rm_f {f f2 : Nat → Int32} {tot tot2 r : Int32} {k : Nat} (h2 : k ≤ 10) (h : r = hdC f (nI k) ∧ if hdC f (nI k) ≤ 0 then tot2 = tot ∧ f2 = f else tot2 = tot - 1 ∧ f2 = upd f (nI k).toNatClampNeg (f (nI k).toNatClampNeg - 1)) (hr : ¬ r ≤ 0) : f2 = upd f k (f k - 1) := by
  have q := (rm_yes h hr).2
  rw [nI_clamp (by omega)] at q
  exact q
theorem hvF_y {w : Nat → Int32} {py : Nat → Int64} {c : Nat → Nat} {s r : Int32} {a : Bool} {k : Nat} {rc : Int64} (e : r = nI (c k) ∧ c k ≤ 32) (hp : 0 < c k) (k1 : 1 ≤ k) (k2 : k ≤ 10) (ec : rc = hv (goC w) (scC w py) (smN (updN c k (c k - 1))) (updN c k (c k - 1)) (s + nI k) (a || decide (nI k = 1))) : hvF w py c s a k = r.toInt64 * rc := by
  unfold hvF
  have q := smN_dec k1 k2 hp
  rw [if_neg (by omega), e.1, nI_l (by omega), ec, show smN c - 1 = smN (updN c k (c k - 1)) by omega]
theorem hvF_n {w : Nat → Int32} {py : Nat → Int64} {c : Nat → Nat} {s : Int32} {a : Bool} {k : Nat} (h : c k = 0) : hvF w py c s a k = 0 := by
  unfold hvF
  rw [if_pos h]
theorem hal_y {F : Nat → Int64} {k : Nat} {al x : Int64} (k1 : 1 ≤ k) (h : al = hsm F (k - 1)) (e : F k = x) : al + x = hsm F (k + 1 - 1) := by rw [show k + 1 - 1 = k by omega, hsm_s k1, ← h, e]
theorem hal_n {F : Nat → Int64} {k : Nat} {al : Int64} (k1 : 1 ≤ k) (h : al = hsm F (k - 1)) (e : F k = 0) : al = hsm F (k + 1 - 1) := by rw [show k + 1 - 1 = k by omega, hsm_s k1, ← h, e, Int64.add_zero]
theorem HVc.lf {cap c0 c : Nat → Nat} {f sp w : Nat → Int32} {py : Nat → Int64} {s0 : Nat} {a0 : Bool} {p0 p1 : Int32} {p2 : Bool} {p3 : Int32} (h : HVc cap c0 c f sp s0 a0 p0 p1 p2 p3) (z : p3 ≤ 0 ∨ gnC w (vlC w p1 p2) (!decide (vlC w p1 p2 = p1)) = 0) : py (enC w (vlC w p1 p2)).toNatClampNeg * orC p3 = hv (goC w) (scC w py) (smN c) c p1 p2 := by
  have q := h.b
  obtain ⟨-, -, -, -, -, -, -, -, -, e3⟩ := h
  rw [hv_lf (by
    rcases z with z | z
    · left
      rw [e3, leI, toInt_nI (by omega), t0] at z
      omega
    · right; exact goC_0 z), e3, orC_n q.1]
  rfl
theorem HVc.hit {cap c0 c : Nat → Nat} {f sp w : Nat → Int32} {py ht : Nat → Int64} {hr : Nat → Int32} {hrd : Int32} {s0 : Nat} {a0 : Bool} {p0 p1 : Int32} {p2 : Bool} {p3 : Int32} (h : HVc cap c0 c f sp s0 a0 p0 p1 p2 p3) (hM : MV w py cap c0 s0 a0 ht hr hrd) (z : hr p0.toNatClampNeg = hrd) : ht p0.toNatClampNeg = hv (goC w) (scC w py) (smN c) c p1 p2 := by
  have q := h.b
  obtain ⟨-, -, lc, -, -, -, e0, e1, e2, e3⟩ := h
  rw [e0, nI_clamp (by omega)] at z ⊢
  rw [hM c lc z, e1, e2]
theorem HVc.end_ {cap c0 c : Nat → Nat} {f sp w : Nat → Int32} {py ht : Nat → Int64} {hr : Nat → Int32} {hrd : Int32} {s0 : Nat} {a0 : Bool} {p0 p1 : Int32} {p2 : Bool} {p3 : Int32} {al : Int64} (h : HVc cap c0 c f sp s0 a0 p0 p1 p2 p3) (hM : MV w py cap c0 s0 a0 ht hr hrd) (hI : RI hr hrd) (hal : al = hsm (hvF w py c p1 p2) 10) (z : ¬ p3 ≤ 0) (hg : ¬ gnC w (vlC w p1 p2) (!decide (vlC w p1 p2 = p1)) = 0) :
    al = hv (goC w) (scC w py) (smN c) c p1 p2 ∧ MV w py cap c0 s0 a0 (vp_updL ht p0.toNatClampNeg al) (upd hr p0.toNatClampNeg hrd) hrd ∧ RI (upd hr p0.toNatClampNeg hrd) hrd := by
  have q := h.b
  obtain ⟨-, lb, lc, -, -, -, e0, e1, e2, e3⟩ := h
  have hp : 0 < smN c := by rw [e3, leI, toInt_nI (by omega), t0] at z; omega
  have ea := hal.trans (hv_nd (py := py) hp hg).symm
  rw [e0, nI_clamp (by omega)]
  exact ⟨ea, hM.set lb lc (by rw [ea, e1, e2]), hI.set _⟩
theorem ixC_self (c : Nat → Nat) : ixC c c = 0 := by
  unfold ixC
  have : ∀ n, hix c (gnN c c) n = 0 := by
    intro n
    induction n with
    | zero => rfl
    | succ n ih =>
      show hix c (gnN c c) n + (c (n + 1) - c (n + 1)) * hpN c n = 0
      rw [ih, Nat.sub_self, Nat.zero_mul]
  exact this 10
theorem hpC_N {f : Nat → Int32} {c : Nat → Nat} (h : cntI f c) : ∀ k, k ≤ 10 → hpC f k = nI (hpN c k) := by
  intro k
  induction k with
  | zero => intro _; rfl
  | succ k ih =>
    intro hk
    show hpC f k * (f (k + 1) + 1) = nI (hpN c k * (c (k + 1) + 1))
    rw [ih (by omega), (h (k + 1) (by omega) hk).1]
    have e : nI (c (k + 1)) + 1 = nI (c (k + 1) + 1) := nI_add (c (k + 1)) 1
    rw [e, nI_mulT]
/-- a house begins at the heap that is there -/
theorem HVc.new {cap c : Nat → Nat} {f sp : Nat → Int32} {un : Nat} {p0 tot : Int32} (h : smN cap ≤ 12) (l : le10 c cap) (hc : cntI f c) (hst : ∀ j, 1 ≤ j → j ≤ 10 → sp j = nI (hpN cap (j - 1))) (hu : un ≤ 10) (e0 : p0 = nI (ixC cap c)) (et : tot = nI (smN c)) : HVc cap c c f sp un (decide (nI un = 1)) p0 (nI un) (decide (nI un = 1)) tot := by
  refine ⟨h, l, le10_rf c, hc, hst, hu, e0, ?_, ?_, et⟩
  · rw [ptK_self]; rfl
  · rw [decide_eq_false (Nat.lt_irrefl _), Bool.or_false]
theorem hv_py {w : Nat → Int32} {py py' : Nat → Int64} {n : Nat} {c : Nat → Nat} {s : Nat} {a : Bool} (h : ∀ j, j < 22 → py j = py' j) (hw : (w 0).toInt ≤ 21) (hs : s + 10 * n ≤ 1000) : hv (goC w) (scC w py) n c (nI s) a = hv (goC w) (scC w py') n c (nI s) a := by
  refine hv_same (lo := 0) n c s a (fun x b _ y => ⟨rfl, ?_⟩) (Nat.zero_le _)
  unfold scC
  have q := en_in (w := w) (s := nI x) (a := b) (by rw [toInt_nI (by omega)]; omega) (by rw [toInt_nI (by omega)]; omega) hw
  exact h _ (Nat.not_le.mp fun z => q (Or.inr z))
/-- what is paid -/
def pyS (w : Nat → Int32) (v : Int32) (b : Bool) : Nat → Int64 := fun j => (stC w v b (nI j)).toInt64
def pyB (w : Nat → Int32) (v v' : Int32) : Nat → Int64 := fun j => (stC w v false (nI j) + stC w v' false (nI j)).toInt64
def pyE (e : Int32) : Nat → Int64 := fun j => if nI j = e then 1 else 0
def hoV (w : Nat → Int32) (py : Nat → Int64) (un : Nat) (c : Nat → Nat) : Int64 := hv (goC w) (scC w py) (smN c) c (nI un) (decide (nI un = 1))
def stV (w : Nat → Int32) (un : Nat) (c : Nat → Nat) (s : Int32) (a : Bool) (z : Int32) : Int64 := if buC w s = 0 then hoV w (pyS w (vlC w s a) (naB w (vlC w s a) z)) un c else (-2) * ord0 (smN c)
theorem updL_s {g py : Nat → Int64} {k : Nat} {x : Int64} (h : ∀ j, j < k → g j = py j) (e : x = py k) : ∀ j, j < k + 1 → vp_updL g k x j = py j := by
  intro j a
  unfold vp_updL
  by_cases z : j = k
  · rw [if_pos z, e, z]
  · rw [if_neg z]; exact h j (by omega)
