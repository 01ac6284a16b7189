/-! a deal, by the class's words -/
def c1d (c : Nat → Nat) (a : Nat) : Nat → Nat := updN c a (c a - 1)
def c3d (c : Nat → Nat) (a b u : Nat) : Nat → Nat := c1d (c1d (c1d c a) b) u
def wyN (c : Nat → Nat) (a b u : Nat) : Nat := c a * c1d c a b * c1d (c1d c a) b u
def gAB (a b : Nat) : Nat → Int32 := fun j => if j = 0 then nI a else nI b
def bsV (w : Nat → Int32) (c : Nat → Nat) (a b u : Nat) : Int64 :=
  if (fbV (thB w 2 (nI (a + b)) (gAB a b) (nI u) (nI (smN (c3d c a b u)))) (fun k => acV w u (c3d c a b u) (nI (a + b)) (decide (nI a = 1) || decide (nI b = 1)) 2 (nI a) (nI k)) 5).1 = -1 then (-2) * ord0 (smN (c3d c a b u))
  else (fbV (thB w 2 (nI (a + b)) (gAB a b) (nI u) (nI (smN (c3d c a b u)))) (fun k => acV w u (c3d c a b u) (nI (a + b)) (decide (nI a = 1) || decide (nI b = 1)) 2 (nI a) (nI k)) 5).2
def wyL (c : Nat → Nat) (a b u : Nat) : Int64 := if a = b then lN (wyN c a b u) else 2 * lN (wyN c a b u)
def dlF (w : Nat → Int32) (c : Nat → Nat) (a b : Nat) : Nat → Int64 := fun u => if wyN c a b u = 0 then 0 else wyL c a b u * bsV w c a b u
def dlB (w : Nat → Int32) (c : Nat → Nat) (a : Nat) : Nat → Int64 := fun b => if b < a then 0 else hsm (dlF w c a b) 10
def dlA (w : Nat → Int32) (c : Nat → Nat) : Nat → Int64 := fun a => hsm (dlB w c a) 10
theorem thC_g {w : Nat → Int32} {n sm : Int32} {g g' : Nat → Int32} {up tot p : Int32} (h0 : g 0 = g' 0) (h1 : g 1 = g' 1) : thC w n sm g up tot p = thC w n sm g' up tot p := by
  unfold thC
  rw [h0, h1]
theorem thB_g {w : Nat → Int32} {n sm : Int32} {g g' : Nat → Int32} {up tot : Int32} (h0 : g 0 = g' 0) (h1 : g 1 = g' 1) : thB w n sm g up tot = thB w n sm g' up tot := by
  funext k
  unfold thB
  rw [thC_g h0 h1]
theorem wy_b {c : Nat → Nat} {a b u : Nat} (h1 : c a ≤ 32) (h2 : c1d c a b ≤ 32) (h3 : c1d (c1d c a) b u ≤ 32) : wyN c a b u ≤ 32768 := by
  unfold wyN
  exact Nat.mul_le_mul (Nat.mul_le_mul h1 h2) h3
theorem wyL_0 {c : Nat → Nat} {a b u : Nat} (h : wyN c a b u ≤ 32768) : lg_cmp (wyL c a b u) 0 ≤ 0 ↔ wyN c a b u = 0 := by
  unfold wyL
  by_cases z : a = b
  · rw [if_pos z]; exact lB_pos (by omega)
  · rw [if_neg z]
    have e : (2 : Int64) * lN (wyN c a b u) = lN (2 * wyN c a b u) := by rw [← lN_mul]; rfl
    rw [e, lB_pos (by omega)]
    omega
def trN : Nat → Nat
  | 0 => 0
  | k + 1 => trN k + (11 - (k + 1))
theorem trN_s {k : Nat} (h : 1 ≤ k) : trN k = trN (k - 1) + (11 - k) := by
  obtain ⟨i, rfl⟩ : ∃ i, k = i + 1 := ⟨k - 1, by omega⟩
  rfl
theorem trN_le : ∀ k, k < 11 → trN k ≤ 55 := by decide
theorem dl_y {w : Nat → Int32} {c : Nat → Nat} {a b u : Nat} {al y x : Int64} (u1 : 1 ≤ u) (h : al = y + hsm (dlF w c a b) (u - 1)) (hz : ¬ wyN c a b u = 0) (e : x = bsV w c a b u) : al + wyL c a b u * x = y + hsm (dlF w c a b) (u + 1 - 1) := by
  refine hal_y2 u1 h ?_
  unfold dlF
  rw [if_neg hz, e]
theorem dl_n {w : Nat → Int32} {c : Nat → Nat} {a b u : Nat} {al y : Int64} (u1 : 1 ≤ u) (h : al = y + hsm (dlF w c a b) (u - 1)) (hz : wyN c a b u = 0) : al = y + hsm (dlF w c a b) (u + 1 - 1) := by
  refine hal_n2 u1 h ?_
  unfold dlF
  rw [if_pos hz]
theorem cnt_32 {f : Nat → Int32} {c : Nat → Nat} (h : cntI f c) : ∀ j, 1 ≤ j → j ≤ 10 → c j ≤ 32 := fun j a b => (h j a b).2
theorem c1d_le (c : Nat → Nat) (a : Nat) : le10 (c1d c a) c := le10_dec (le10_rf c)
theorem deal_c {f : Nat → Int32} {c : Nat → Nat} {a b u : Nat} (h : cntI f c) (a1 : 1 ≤ a) (a2 : a ≤ 10) (b1 : 1 ≤ b) (b2 : b ≤ 10) (u1 : 1 ≤ u) (u2 : u ≤ 10) : smN (c3d c a b u) ≤ smN c ∧ wyN c a b u ≤ 32768 := by
  have l1 := c1d_le c a
  have l2 := c1d_le (c1d c a) b
  have l3 := c1d_le (c1d (c1d c a) b) u
  refine ⟨smN_mo (le10_tr l3 (le10_tr l2 l1)), wy_b (cnt_32 h a a1 a2) ?_ ?_⟩
  · exact Nat.le_trans (l1 b b1 b2) (cnt_32 h b b1 b2)
  · exact Nat.le_trans (l2 u u1 u2) (Nat.le_trans (l1 u u1 u2) (cnt_32 h u u1 u2))
theorem deal_e {w : Nat → Int32} {c : Nat → Nat} {a b u : Nat} {n2 sm2 tot2 A : Int32} {T : Int64} {ace2 : Bool} {g2 : Nat → Int32} (et : tot2 = nI (smN (c3d c a b u))) (en : n2 = 2) (es : sm2 = nI (a + b)) (ea : ace2 = (decide (nI a = 1) || decide (nI b = 1))) (h0 : g2 0 = nI a) (h1 : g2 1 = nI b) (hf : (A, T) = fbV (thB w n2 sm2 g2 (nI u) tot2) (fun k => acV w u (c3d c a b u) sm2 ace2 n2 (crdC g2 n2 0) (nI k)) 5) :
    (A, T) = fbV (thB w 2 (nI (a + b)) (gAB a b) (nI u) (nI (smN (c3d c a b u)))) (fun k => acV w u (c3d c a b u) (nI (a + b)) (decide (nI a = 1) || decide (nI b = 1)) 2 (nI a) (nI k)) 5 := by
  subst et; subst en; subst es; subst ea
  have ec : crdC g2 2 0 = nI a := by
    unfold crdC
    rw [if_neg (by decide), if_neg (by decide)]
    exact h0
  rw [thB_g (g' := gAB a b) (h0.trans rfl) (h1.trans rfl), ec] at hf
  exact hf
theorem deal_b1 {w : Nat → Int32} {c : Nat → Nat} {a b u : Nat} {n2 sm2 tot2 A : Int32} {T : Int64} {ace2 : Bool} {g2 : Nat → Int32} (et : tot2 = nI (smN (c3d c a b u))) (en : n2 = 2) (es : sm2 = nI (a + b)) (ea : ace2 = (decide (nI a = 1) || decide (nI b = 1))) (h0 : g2 0 = nI a) (h1 : g2 1 = nI b) (hf : (A, T) = fbV (thB w n2 sm2 g2 (nI u) tot2) (fun k => acV w u (c3d c a b u) sm2 ace2 n2 (crdC g2 n2 0) (nI k)) 5) (z : A = -1) (hc : smN (c3d c a b u) ≤ smN c) (h12 : smN c ≤ 12) : (-2) * orC tot2 = bsV w c a b u := by
  have q := deal_e et en es ea h0 h1 hf
  unfold bsV
  rw [← q, if_pos z, et, orC_n (by omega)]
theorem deal_b2 {w : Nat → Int32} {c : Nat → Nat} {a b u : Nat} {n2 sm2 tot2 A : Int32} {T : Int64} {ace2 : Bool} {g2 : Nat → Int32} (et : tot2 = nI (smN (c3d c a b u))) (en : n2 = 2) (es : sm2 = nI (a + b)) (ea : ace2 = (decide (nI a = 1) || decide (nI b = 1))) (h0 : g2 0 = nI a) (h1 : g2 1 = nI b) (hf : (A, T) = fbV (thB w n2 sm2 g2 (nI u) tot2) (fun k => acV w u (c3d c a b u) sm2 ace2 n2 (crdC g2 n2 0) (nI k)) 5) (z : ¬ A = -1) : T = bsV w c a b u := by
  have q := deal_e et en es ea h0 h1 hf
  unfold bsV
  rw [← q, if_neg z]
theorem deal_s2 {w : Nat → Int32} {c : Nat → Nat} {a k : Nat} {al al2 y : Int64} (k1 : 1 ≤ k) (h : al = y + hsm (dlB w c a) (k - 1)) (l : a ≤ k) (h2 : al2 = al + hsm (dlF w c a k) 10) : al2 = y + hsm (dlB w c a) (k + 1 - 1) := by
  rw [h2]
  refine hal_y2 k1 h ?_
  unfold dlB
  rw [if_neg (by omega)]
