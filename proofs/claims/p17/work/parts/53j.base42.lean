/-! the reference's house, by value -/
def goM (t st so s : Int32) (a : Bool) : Bool := !decide (gnM st so (vlM t s a) s = 0)
def sMM (t : Int32) (ch : Bool) (wt wn s : Int32) (a : Bool) : Int64 := (scM t ch wt wn s a).toInt64
def hvM (t st so : Int32) (ch : Bool) (wt wn : Int32) (c : Nat → Nat) (s : Nat) (a : Bool) : Int64 := hv (goM t st so) (sMM t ch wt wn) (smN c) c (nI s) a
theorem szN_sm (cap : Nat → Nat) (h : Nat) : ∀ k, szN cap h k = smU (ofN cap h) k := by
  intro k
  induction k with
  | zero => rfl
  | succ k ih =>
    show szN cap h k + ofN cap h (k + 1) = smU (ofN cap h) k + ofN cap h (k + 1)
    rw [ih]
theorem szN_10 (cap : Nat → Nat) (h : Nat) : szN cap h 10 = smN (ofN cap h) := by rw [szN_sm, smU_10]
/-- a card less: the heap of a lower number -/
theorem ofN_dec {cap : Nat → Nat} {h r : Nat} (hh : h < hpN cap 10) (r1 : 1 ≤ r) (r2 : r ≤ 10) (hp : 0 < ofN cap h r) : hpN cap (r - 1) ≤ h ∧ ∀ q, 1 ≤ q → q ≤ 10 → ofN cap (h - hpN cap (r - 1)) q = updN (ofN cap h) r (ofN cap h r - 1) q := by
  have e0 : hix cap (ofN cap h) 10 = h := by rw [hix_nf, Nat.mod_eq_of_lt hh]
  have up := (hix_up (cap := cap) (c := ofN cap h) (r := r) (v := ofN cap h r - 1) r1 10).2 r2
  rw [e0] at up
  have le : ∀ q, 1 ≤ q → q ≤ 10 → ofN cap h q ≤ cap q := fun q _ _ => Nat.le_of_lt_succ (Nat.mod_lt _ (Nat.succ_pos _))
  have e1 : ofN cap h r * hpN cap (r - 1) = (ofN cap h r - 1) * hpN cap (r - 1) + hpN cap (r - 1) := by
    have : ofN cap h r = (ofN cap h r - 1) + 1 := by omega
    calc ofN cap h r * hpN cap (r - 1) = ((ofN cap h r - 1) + 1) * hpN cap (r - 1) := by rw [← this]
      _ = _ := by rw [Nat.add_mul, Nat.one_mul]
  have e2 : hix cap (updN (ofN cap h) r (ofN cap h r - 1)) 10 + hpN cap (r - 1) = h := by omega
  refine ⟨by omega, fun q a b => ?_⟩
  have e3 : h - hpN cap (r - 1) = hix cap (updN (ofN cap h) r (ofN cap h r - 1)) 10 := by omega
  rw [e3]
  refine hix_of 10 (fun q x y => ?_) q a b
  have := le q x y
  unfold updN
  by_cases z : q = r
  · rw [if_pos z]; rw [z] at this; rw [z]; omega
  · rw [if_neg z]; exact this
theorem hix_full (cap : Nat → Nat) : ∀ k, hix cap cap k + 1 = hpN cap k := by
  intro k
  induction k with
  | zero => rfl
  | succ k ih =>
    show hix cap cap k + cap (k + 1) * hpN cap k + 1 = hpN cap k * (cap (k + 1) + 1)
    rw [Nat.mul_add, Nat.mul_one, Nat.mul_comm (hpN cap k)]
    omega
theorem ofN_full {cap : Nat → Nat} {r : Nat} (r1 : 1 ≤ r) (r2 : r ≤ 10) : ofN cap (hpN cap 10 - 1) r = cap r := by
  have e := hix_full cap 10
  rw [show hpN cap 10 - 1 = hix cap cap 10 by omega]
  exact hix_of 10 (fun q _ _ => Nat.le_refl _) r r1 r2
def mF (t st so : Int32) (ch : Bool) (wt wn : Int32) (c : Nat → Nat) (s : Nat) (a : Bool) : Nat → Int64 := fun r => if c r = 0 then 0 else lN (c r) * hvM t st so ch wt wn (updN c r (c r - 1)) (s + r) (a || decide (nI r = 1))
theorem hvM_nd {t st so : Int32} {ch : Bool} {wt wn : Int32} {c : Nat → Nat} {s : Nat} {a : Bool} (h : ¬ drM (smN c) st so t (nI s) a = 0) : hvM t st so ch wt wn c s a = hsm (mF t st so ch wt wn c s a) 10 := by
  unfold drM at h
  by_cases z : smN c ≤ 0
  · rw [if_pos z] at h; exact absurd rfl h
  · rw [if_neg z] at h
    have g0 : ¬ gnM st so (vlM t (nI s) a) (nI s) = 0 := fun y => h (by rw [if_pos y])
    have g : goM t st so (nI s) a = true := by unfold goM; rw [decide_eq_false g0]; rfl
    unfold hvM
    obtain ⟨n, en⟩ : ∃ n, smN c = n + 1 := ⟨smN c - 1, by omega⟩
    rw [en]
    show (if goM t st so (nI s) a then _ else _) = _
    rw [g, if_pos rfl]
    refine hsm_cg 10 (fun r x y => ?_)
    unfold mF hvM
    by_cases y0 : c r = 0
    · rw [if_pos y0, if_pos y0]
    · have d := smN_dec (c := c) x y (by omega)
      rw [if_neg y0, if_neg y0, nI_add, show smN (updN c r (c r - 1)) = n by omega]
theorem hvM_lf {t st so : Int32} {ch : Bool} {wt wn : Int32} {c : Nat → Nat} {s : Nat} {a : Bool} (h : drM (smN c) st so t (nI s) a = 0) : hvM t st so ch wt wn c s a = (scM t ch wt wn (nI s) a).toInt64 * ord0 (smN c) := by
  unfold hvM
  refine hv_lf ?_
  unfold drM at h
  by_cases z : smN c ≤ 0
  · left; omega
  · right
    rw [if_neg z] at h
    unfold goM
    by_cases y : gnM st so (vlM t (nI s) a) (nI s) = 0
    · rw [decide_eq_true y]; rfl
    · rw [if_neg y] at h; exact absurd h (by decide)
theorem hvM_cg {t st so : Int32} {ch : Bool} {wt wn : Int32} {c c' : Nat → Nat} {s : Nat} {a : Bool} (h : ∀ j, 1 ≤ j → j ≤ 10 → c j = c' j) : hvM t st so ch wt wn c s a = hvM t st so ch wt wn c' s a := by
  unfold hvM
  rw [smN_cg h, hv_cg _ c c' _ _ h]
/-- what is laid of houses' ends: as far as heap h, sum ss, ace aa -/
def FHv (cap : Nat → Nat) (hp sh : Nat) (t st so : Int32) (ch : Bool) (wt wn : Int32) (hou : Nat → Int64) (h ss aa : Nat) : Prop := ∀ (h' s : Nat) (a : Bool), h' < hp → sh ≤ s → s ≤ 21 → (h' < h ∨ (h' = h ∧ (s < ss ∨ (s = ss ∧ bN a < aa)))) → ¬ drM (smN (ofN cap h')) st so t (nI s) a = 0 → hou (44 * h' + 2 * s + bN a) = hvM t st so ch wt wn (ofN cap h') s a
section FHs
variable {cap : Nat → Nat} {hp sh : Nat} {t st so : Int32} {ch : Bool} {wt wn : Int32} {hou : Nat → Int64} {h ss aa : Nat}
theorem FHv.init : FHv cap hp sh t st so ch wt wn hou 1 0 0 := by
  intro h' s a _ _ _ y z
  have e : h' = 0 := by omega
  subst e
  have : smN (ofN cap 0) = 0 := by
    unfold smN ofN
    simp
  unfold drM at z
  rw [this, if_pos (Nat.le_refl _)] at z
  exact absurd rfl z
theorem FHv.at (hF : FHv cap hp sh t st so ch wt wn hou h ss aa) {stp siz pts : Nat → Nat} {ords : Nat → Int64} (hL : LaidP cap stp hp siz pts) (hO : ∀ j, j ≤ 12 → ords j = ord0 j) (hst : st.toInt ≤ 21) {h' s : Nat} {a : Bool} (l : h' < h) (lp : h' < hp) (s1 : sh ≤ s) (s2 : s ≤ 40) : haM ords hou siz t st so ch wt wn h' s a = hvM t st so ch wt wn (ofN cap h') s a := by
  have e1 : siz h' = smN (ofN cap h') := (hL.2.2.2 h' lp).1.trans (szN_10 cap h')
  have b := hL.sz lp
  unfold haM
  rw [e1]
  by_cases z : drM (smN (ofN cap h')) st so t (nI s) a = 0
  · rw [if_pos z, hvM_lf z, hO _ (by omega)]
  · rw [if_neg z]
    exact hF h' s a lp s1 (drM_s z s2 hst) (Or.inl l) z
theorem FHv.no (hF : FHv cap hp sh t st so ch wt wn hou h ss aa) (a2 : aa ≤ 1) (z : drM (smN (ofN cap h)) st so t (nI ss) (decide (nI aa = 1)) = 0) : FHv cap hp sh t st so ch wt wn hou h ss (aa + 1) := by
  intro h' s a x1 x2 x3 x4 x5
  by_cases y : h' = h ∧ s = ss ∧ bN a = aa
  · obtain ⟨rfl, rfl, ea⟩ := y
    have : a = decide (nI aa = 1) := by
      rw [← ea]
      cases a <;> decide
    rw [this] at x5
    exact absurd z x5
  · exact hF h' s a x1 x2 x3 (by omega) x5
theorem FHv.yes (hF : FHv cap hp sh t st so ch wt wn hou h ss aa) (a2 : aa ≤ 1) (s2 : ss ≤ 21) {v : Int64} (ev : v = hvM t st so ch wt wn (ofN cap h) ss (decide (nI aa = 1))) : FHv cap hp sh t st so ch wt wn (vp_updL hou (44 * h + 2 * ss + aa) v) h ss (aa + 1) := by
  intro h' s a x1 x2 x3 x4 x5
  have b := bN_le a
  unfold vp_updL
  by_cases y : h' = h ∧ s = ss ∧ bN a = aa
  · obtain ⟨rfl, rfl, ea⟩ := y
    have : a = decide (nI aa = 1) := by
      rw [← ea]
      cases a <;> decide
    rw [if_pos (by omega), ev, this]
  · rw [if_neg (by omega)]
    exact hF h' s a x1 x2 x3 (by omega) x5
theorem FHv.a2 (hF : FHv cap hp sh t st so ch wt wn hou h ss 2) : FHv cap hp sh t st so ch wt wn hou h (ss + 1) 0 := fun h' s a x1 x2 x3 x4 x5 => hF h' s a x1 x2 x3 (by have b := bN_le a; omega) x5
theorem FHv.s22 (hF : FHv cap hp sh t st so ch wt wn hou h ss aa) (hs : 22 ≤ ss) : FHv cap hp sh t st so ch wt wn hou (h + 1) 0 0 := fun h' s a x1 x2 x3 x4 x5 => hF h' s a x1 x2 x3 (by omega) x5
theorem FHv.s0 (hF : FHv cap hp sh t st so ch wt wn hou h 0 0) : FHv cap hp sh t st so ch wt wn hou h sh 0 := fun h' s a x1 x2 x3 x4 x5 => hF h' s a x1 x2 x3 (by omega) x5
theorem FHv.all (hF : FHv cap hp sh t st so ch wt wn hou h 0 0) (hh : hp ≤ h) : FHv cap hp sh t st so ch wt wn hou hp 0 0 := fun h' s a x1 x2 x3 _ x5 => hF h' s a x1 x2 x3 (Or.inl (by omega)) x5
theorem mF_y (hF : FHv cap hp sh t st so ch wt wn hou h ss aa) {stp siz pts : Nat → Nat} {ords : Nat → Int64} (hL : LaidP cap stp hp siz pts) (hO : ∀ j, j ≤ 12 → ords j = ord0 j) (hst : st.toInt ≤ 21) (hlt : h < hp) {r s : Nat} {a : Bool} (r1 : 1 ≤ r) (r2 : r ≤ 10) (s1 : sh ≤ s) (s2 : s ≤ 21) (hp0 : ¬ h / stp r % (cap r + 1) ≤ 0) :
    mF t st so ch wt wn (ofN cap h) s a r = (nI (h / stp r % (cap r + 1))).toInt64 * haM ords hou siz t st so ch wt wn (h - stp r) (s + r) (a || decide (nI r = 1)) := by
  have es := hL.2.1 r r1 r2
  have e0 : h / stp r % (cap r + 1) = ofN cap h r := by unfold ofN; rw [es]
  rw [e0] at hp0 ⊢
  have hlt2 : h < hpN cap 10 := by rw [← hL.2.2.1]; exact hlt
  have d := ofN_dec hlt2 r1 r2 (by omega)
  have p1 := hpN_pos cap (r - 1)
  have o12 : ofN cap h r ≤ 12 := by rw [← e0]; exact mod_12 (cap_le hL.1 r1 r2)
  rw [hF.at hL hO hst (by rw [es]; omega) (by rw [es]; omega) (by omega) (by omega), es, hvM_cg d.2, nI_l (by omega)]
  unfold mF
  rw [if_neg (by omega)]
theorem mF_n {stp : Nat → Nat} {r s : Nat} {a : Bool} (es : stp r = hpN cap (r - 1)) (h0 : h / stp r % (cap r + 1) ≤ 0) : mF t st so ch wt wn (ofN cap h) s a r = 0 := by
  have e0 : h / stp r % (cap r + 1) = ofN cap h r := by unfold ofN; rw [es]
  unfold mF
  rw [if_pos (by omega)]
end FHs
/-! bounds -/
def facN : Nat → Nat
  | 0 => 1
  | n + 1 => (n + 1) * facN n
theorem ord_f : ∀ n, n < 13 → ord0 n = lN (facN n) := by decide +kernel
theorem fac_b : ∀ n, n < 13 → 0 < facN n ∧ facN n ≤ 479001600 := by decide +kernel
theorem lmul_b {x : Int64} {m b : Nat} (h : x.toInt.natAbs ≤ b) (hb : b * m < 2 ^ 62) (hm : m < 2 ^ 62) : (x * lN m).toInt.natAbs ≤ b * m := by
  have h1 : x.toInt.natAbs * m ≤ b * m := Nat.mul_le_mul_right m h
  have e : (x * lN m).toInt = x.toInt * m := by
    rw [Int64.toInt_mul, lB_toInt (by omega)]
    have h2 : (x.toInt * m).natAbs = x.toInt.natAbs * m := by rw [Int.natAbs_mul, Int.natAbs_natCast]
    exact Int.bmod_eq_of_le (by omega) (by omega)
  rw [e, Int.natAbs_mul, Int.natAbs_natCast]
  exact h1
theorem ladd_b {x y : Int64} {a b : Nat} (h1 : x.toInt.natAbs ≤ a) (h2 : y.toInt.natAbs ≤ b) (hb : a + b < 2 ^ 62) : (x + y).toInt.natAbs ≤ a + b := by
  have e : (x + y).toInt = x.toInt + y.toInt := by
    rw [Int64.toInt_add]
    exact Int.bmod_eq_of_le (by omega) (by omega)
  rw [e]
  omega
theorem lmul_c (x y : Int64) : x * y = y * x := Int64.mul_comm x y
theorem hsm_b {F : Nat → Int64} {c : Nat → Nat} {b : Nat} (h : ∀ r, 1 ≤ r → r ≤ 10 → (F r).toInt.natAbs ≤ c r * b) : ∀ k, k ≤ 10 → smU c k * b < 2 ^ 62 → (hsm F k).toInt.natAbs ≤ smU c k * b := by
  intro k
  induction k with
  | zero =>
    intro _ _
    have e : (hsm F 0).toInt.natAbs = 0 := (by decide : (0 : Int64).toInt.natAbs = 0)
    omega
  | succ k ih =>
    intro hk hb
    have e : smU c (k + 1) * b = smU c k * b + c (k + 1) * b := Nat.add_mul ..
    rw [e] at hb ⊢
    exact ladd_b (ih (by omega) (by omega)) (h (k + 1) (by omega) hk) hb
theorem hv_b {go : Int32 → Bool → Bool} {sc : Int32 → Bool → Int64} {b : Nat} (hb : b ≤ 1000) (hs : ∀ s a, (sc s a).toInt.natAbs ≤ b) : ∀ n (c : Nat → Nat) (s : Int32) (a : Bool), n ≤ 12 → smN c = n → (hv go sc n c s a).toInt.natAbs ≤ b * facN n := by
  intro n
  induction n with
  | zero =>
    intro c s a _ _
    show (sc s a * ord0 0).toInt.natAbs ≤ b * facN 0
    rw [ord_f 0 (by decide)]
    exact lmul_b (hs s a) (by rw [show facN 0 = 1 from rfl]; omega) (by decide)
  | succ n ih =>
    intro c s a hn hc
    have f1 := fac_b (n + 1) (by omega)
    have f0 := fac_b n (by omega)
    have bb : b * facN (n + 1) ≤ 1000 * 479001600 := Nat.mul_le_mul hb f1.2
    show (if go s a then hsm (fun r => if c r = 0 then 0 else lN (c r) * hv go sc n (updN c r (c r - 1)) (s + nI r) (a || decide (nI r = 1))) 10 else sc s a * ord0 (n + 1)).toInt.natAbs ≤ b * facN (n + 1)
    by_cases g : go s a = true
    · rw [if_pos g]
      have e : b * facN (n + 1) = smU c 10 * (b * facN n) := by
        rw [smU_10, hc]
        show b * ((n + 1) * facN n) = _
        rw [Nat.mul_left_comm]
      rw [e]
      refine hsm_b (fun r x y => ?_) 10 (Nat.le_refl _) (by rw [← e]; omega)
      show (if c r = 0 then (0 : Int64) else lN (c r) * hv go sc n (updN c r (c r - 1)) (s + nI r) (a || decide (nI r = 1))).toInt.natAbs ≤ _
      by_cases z : c r = 0
      · rw [if_pos z]; exact Nat.zero_le _
      · have d := smN_dec (c := c) x y (by omega)
        rw [if_neg z, Int64.mul_comm, Nat.mul_comm (c r)]
        have cr : c r ≤ 12 := by
          have := smU_10 c
          unfold smN at hc
          rcases rk_cases x y with rfl | rfl | rfl | rfl | rfl | rfl | rfl | rfl | rfl | rfl <;> omega
        have f3 : b * facN n ≤ 1000 * 479001600 := Nat.mul_le_mul hb f0.2
        have f4 : b * facN n * c r ≤ 1000 * 479001600 * 12 := Nat.mul_le_mul f3 cr
        exact lmul_b (ih _ _ _ (by omega) (by omega)) (by omega) (by omega)
    · rw [if_neg g, ord_f (n + 1) (by omega)]
      exact lmul_b (hs s a) (by omega) (by omega)
