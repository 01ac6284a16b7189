/-! a deal, by the reference's words -/
theorem c3d_D {c : Nat → Nat} {a b u : Nat} : capD c a b u = c3d c a b u := by
  funext j
  unfold capD c3d c1d e1N updN
  by_cases p : j = a <;> by_cases q : j = b <;> by_cases r : j = u <;> simp [p, q, r] <;> (try subst p) <;> (try subst q) <;> (try subst r) <;> (try simp_all) <;> (try omega)
theorem c1_e {c : Nat → Nat} {a b : Nat} : c1d c a b = c b - e1N a b := by
  unfold c1d e1N updN
  by_cases p : a = b
  · subst p; rw [if_pos rfl, if_pos rfl]
  · rw [if_neg (fun q => p q.symm), if_neg p]; rfl
theorem c2_e {c : Nat → Nat} {a b u : Nat} : c1d (c1d c a) b u = c u - e1N u a - e1N u b := by
  rw [c1_e, c1_e]
  unfold e1N
  by_cases p : a = u <;> by_cases q : b = u
  · rw [if_pos p, if_pos q, if_pos p.symm, if_pos q.symm]
  · rw [if_pos p, if_neg q, if_pos p.symm, if_neg (fun z => q z.symm)]
  · rw [if_neg p, if_pos q, if_neg (fun z => p z.symm), if_pos q.symm]
  · rw [if_neg p, if_neg q, if_neg (fun z => p z.symm), if_neg (fun z => q z.symm)]
theorem wy_no {c : Nat → Nat} {a b u j : Nat} (h : c j < e1N j a + e1N j b + e1N j u) : wyN c a b u = 0 := by
  rcases Nat.eq_zero_or_pos (wyN c a b u) with z | z
  · exact z
  · exfalso
    unfold wyN at z
    rw [c1_e, c2_e] at z
    have z1 : 0 < c a := by rcases Nat.eq_zero_or_pos (c a) with y | y; rw [y, Nat.zero_mul, Nat.zero_mul] at z; omega; exact y
    have z2 : 0 < c b - e1N a b := by rcases Nat.eq_zero_or_pos (c b - e1N a b) with y | y; rw [y, Nat.mul_zero, Nat.zero_mul] at z; omega; exact y
    have z3 : 0 < c u - e1N u a - e1N u b := by rcases Nat.eq_zero_or_pos (c u - e1N u a - e1N u b) with y | y; rw [y, Nat.mul_zero] at z; omega; exact y
    unfold e1N at h z2 z3
    by_cases p : j = a
    · subst p
      by_cases q : j = b
      · subst q
        by_cases r : j = u
        · subst r; simp at h z2 z3; omega
        · simp [r] at h z2; omega
      · by_cases r : j = u
        · subst r
          rw [if_pos rfl, if_neg q] at h z3
          omega
        · rw [if_pos rfl, if_neg q, if_neg r] at h; omega
    · by_cases q : j = b
      · subst q
        by_cases r : j = u
        · subst r
          rw [if_neg p, if_pos rfl] at h z3
          omega
        · rw [if_neg p, if_pos rfl, if_neg r] at h
          have : 0 < c j := by omega
          omega
      · by_cases r : j = u
        · subst r
          rw [if_neg p, if_neg q, if_pos rfl] at h
          omega
        · rw [if_neg p, if_neg q, if_neg r] at h; omega
theorem dt_no {c x y z : Nat} (hc : c ≤ 32) (hx : x ≤ 1) (hy : y ≤ 1) (hz : z ≤ 1) (h : ¬ 0 ≤ nI c - nI x - nI y - nI z) : c < x + y + z := by
  have e : (nI c - nI x - nI y - nI z).toInt = (c : Int) - x - y - z := by
    have e1 : (nI c - nI x).toInt = (c : Int) - x := by rw [i32_sub (by rw [toInt_nI (by omega), toInt_nI (by omega)]; omega) (by rw [toInt_nI (by omega), toInt_nI (by omega)]; omega), toInt_nI (by omega), toInt_nI (by omega)]
    have e2 : (nI c - nI x - nI y).toInt = (c : Int) - x - y := by rw [i32_sub (by rw [e1, toInt_nI (by omega)]; omega) (by rw [e1, toInt_nI (by omega)]; omega), e1, toInt_nI (by omega)]
    rw [i32_sub (by rw [e2, toInt_nI (by omega)]; omega) (by rw [e2, toInt_nI (by omega)]; omega), e2, toInt_nI (by omega)]
  rw [leI, t0, e] at h
  omega
theorem dt_w {f : Nat → Int32} {c : Nat → Nat} {a b u : Nat} (hc : cntI f c) (a1 : 1 ≤ a) (a2 : a ≤ 10) (b1 : 1 ≤ b) (b2 : b ≤ 10) (u1 : 1 ≤ u) (u2 : u ≤ 10) (hv : ∀ j, 1 ≤ j → j ≤ 10 → e1N j a + e1N j b + e1N j u ≤ c j) : (f a).toInt64 * (f b - nI (e1N a b)).toInt64 * (f u - nI (e1N u a) - nI (e1N u b)).toInt64 = lN (wyN c a b u) := by
  have ha := hc a a1 a2
  have hb := hc b b1 b2
  have hu := hc u u1 u2
  have v1 := hv b b1 b2
  have v2 := hv u u1 u2
  have e3 : e1N b a = e1N a b := by unfold e1N; by_cases p : a = b; rw [if_pos p, if_pos p.symm]; rw [if_neg p, if_neg (fun z => p z.symm)]
  have e4 : e1N b b = 1 := if_pos rfl
  have e5 : e1N u u = 1 := if_pos rfl
  rw [e3, e4] at v1
  rw [e5] at v2
  rw [ha.1, hb.1, hu.1, nI_subT (by omega), nI_subT (by omega), nI_subT (by omega), nI_l (by omega), nI_l (by omega), nI_l (by omega), lN_mul, lN_mul]
  unfold wyN
  rw [c1_e, c2_e]
theorem one_iff2 {x : Int32} : ((if x = 1 then (1 : Int32) else 0) = 0) ↔ ¬ x = 1 := by
  by_cases z : x = 1
  · rw [if_pos z]; exact ⟨fun y => absurd y (by decide), fun y => absurd z y⟩
  · rw [if_neg z]; exact ⟨fun _ => z, fun _ => rfl⟩
/-- acts of two cards are there alike -/
theorem th_is {w : Nat → Int32} {a b u n : Nat} {ac : Bool} {doub spli giv : Int32} {k : Nat} (e3 : w 3 = doub) (e4 : w 4 = spli) (e5 : w 5 = giv) (ha : 1 ≤ a ∧ a ≤ 10) (hb : 1 ≤ b ∧ b ≤ 10) (hu : 1 ≤ u ∧ u ≤ 10) (hn : n ≤ 320) (hk : k < 5) (hv : vlC w (nI (a + b)) ac ≤ w 0) :
    thC w 2 (nI (a + b)) (gAB a b) (nI u) (nI n) (nI k) = 0 ↔ isM n 2 (nI u) (vlC w (nI (a + b)) ac) (w 0) doub spli giv (if a = b then nI a else 0) (nI k) = 0 := by
  have bu := (bu_i2 (w := w) (s := nI (a + b)) (a := ac) (by rw [toInt_nI (by omega)]; omega) (by rw [toInt_nI (by omega)]; omega)).mpr hv
  have u0 : ¬ nI u = 0 := fun q => by have := (nI_eq (a := u) (b := 0) (by omega) (by decide)).mp q; omega
  have u1 : ¬ nI u = -1 := fun q => by have := congrArg Int32.toInt q; rw [toInt_nI (by omega), show (-1 : Int32).toInt = -1 by decide] at this; omega
  have n1 : nI n < 1 ↔ n ≤ 0 := by rw [ltI, toInt_nI (by omega), t1]; omega
  have n2 : nI n < 2 ↔ n ≤ 1 := by rw [ltI, toInt_nI (by omega), show (2 : Int32).toInt = 2 by decide]; omega
  have g0 : gAB a b 0 = nI a := rfl
  have g1 : gAB a b 1 = nI b := rfl
  have gq : nI a = nI b ↔ a = b := nI_eq (a := a) (b := b) (by omega) (by omega)
  have gp : (if a = b then nI a else 0) ≤ 0 ↔ ¬ a = b := by
    by_cases z : a = b
    · rw [if_pos z, leI, toInt_nI (by omega), t0]; exact ⟨fun y => by omega, fun y => absurd z y⟩
    · rw [if_neg z]; exact ⟨fun _ => z, fun _ => by decide⟩
  have f0 : flB 2 = 0 := by decide
  have f1 : ¬ (12 : Int32) ≤ 2 := by decide
  have c0 : ¬ (2 : Int32) = 0 := by decide
  unfold thC isM
  rw [if_neg c0, if_pos bu, if_neg u1, if_neg c0, if_neg u0, if_pos hv, g0, g1, e3, e4, e5]
  simp only [n1, n2, gp, gq, f0, f1, one_iff2]
  rcases (show k = 0 ∨ k = 1 ∨ k = 2 ∨ k = 3 ∨ k = 4 by omega) with rfl | rfl | rfl | rfl | rfl
  · rw [if_pos (show nI 0 = 0 by decide), if_pos (show nI 0 = 0 by decide)]
  · rw [if_neg (show ¬ nI 1 = 0 by decide), if_pos (show nI 1 = 1 by decide), if_neg (show ¬ nI 1 = 0 by decide), if_pos (show nI 1 = 1 by decide)]
    by_cases z : n ≤ 0 <;> simp [z]
  · rw [if_neg (show ¬ nI 2 = 0 by decide), if_neg (show ¬ nI 2 = 1 by decide), if_pos (show nI 2 = 2 by decide), if_neg (show ¬ nI 2 = 0 by decide), if_neg (show ¬ nI 2 = 1 by decide), if_pos (show nI 2 = 2 by decide)]
    by_cases z : n ≤ 0 <;> by_cases y : doub = 1 <;> simp [z, y]
  · rw [if_neg (show ¬ nI 3 = 0 by decide), if_neg (show ¬ nI 3 = 1 by decide), if_neg (show ¬ nI 3 = 2 by decide), if_pos (show nI 3 = 3 by decide), if_neg (show ¬ nI 3 = 0 by decide), if_neg (show ¬ nI 3 = 1 by decide), if_neg (show ¬ nI 3 = 2 by decide), if_pos (show nI 3 = 3 by decide)]
    by_cases z : n ≤ 1 <;> by_cases y : spli = 1 <;> by_cases x : a = b <;> simp [z, y, x]
  · rw [if_neg (show ¬ nI 4 = 0 by decide), if_neg (show ¬ nI 4 = 1 by decide), if_neg (show ¬ nI 4 = 2 by decide), if_neg (show ¬ nI 4 = 3 by decide), if_pos (show nI 4 = 4 by decide), if_neg (show ¬ nI 4 = 0 by decide), if_neg (show ¬ nI 4 = 1 by decide), if_neg (show ¬ nI 4 = 2 by decide), if_neg (show ¬ nI 4 = 3 by decide)]
    by_cases y : giv = 1 <;> simp [y]
/-- what two cards and one are worth: a bust hand -/
theorem bs_bu {w : Nat → Int32} {c : Nat → Nat} {a b u : Nat} (ha : 1 ≤ a ∧ a ≤ 10) (hb : 1 ≤ b ∧ b ≤ 10) (hv : ¬ vlC w (nI (a + b)) (decide (nI a = 1) || decide (nI b = 1)) ≤ w 0) : (-2) * ord0 (smN (c3d c a b u)) = bsV w c a b u := by
  have bu := mt (bu_i2 (w := w) (s := nI (a + b)) (a := decide (nI a = 1) || decide (nI b = 1)) (by rw [toInt_nI (by omega)]; omega) (by rw [toInt_nI (by omega)]; omega)).mp hv
  have e : fbV (thB w 2 (nI (a + b)) (gAB a b) (nI u) (nI (smN (c3d c a b u)))) (fun k => acV w u (c3d c a b u) (nI (a + b)) (decide (nI a = 1) || decide (nI b = 1)) 2 (nI a) (nI k)) 5 = (-1, 0) := by
    refine fb_none 5 (fun j _ => thB_0 ?_)
    unfold thC
    rw [if_neg (show ¬ (2 : Int32) = 0 by decide), if_neg bu]
  unfold bsV
  rw [e, if_pos rfl]
/-- and one that is not -/
theorem bs_ok {w : Nat → Int32} {c : Nat → Nat} {a b u hp n : Nat} {doub spli giv : Int32} (e3 : w 3 = doub) (e4 : w 4 = spli) (e5 : w 5 = giv) (ha : 1 ≤ a ∧ a ≤ 10) (hb : 1 ≤ b ∧ b ≤ 10) (hu : 1 ≤ u ∧ u ≤ 10) (hc : smN (c3d c a b u) ≤ 12) (hp_ : hp = hpN (c3d c a b u) 10) (hn : n = smN (c3d c a b u)) (hv : vlC w (nI (a + b)) (decide (nI a = 1) || decide (nI b = 1)) ≤ w 0) :
    (fbV (fun k => !decide (isM n 2 (nI u) (VA w (c3d c a b u) (a + b) (decide (nI a = 1) || decide (nI b = 1)) (hp - 1)) (w 0) doub spli giv (if a = b then nI a else 0) (nI k) = 0)) (fun k => woM w u (c3d c a b u) (a + b) (decide (nI a = 1) || decide (nI b = 1)) (hp - 1) 2 (if a = b then nI a else 0) (nI k)) 5).2 = bsV w c a b u := by
  have eV : VA w (c3d c a b u) (a + b) (decide (nI a = 1) || decide (nI b = 1)) (hp - 1) = vlC w (nI (a + b)) (decide (nI a = 1) || decide (nI b = 1)) := by rw [hp_]; exact full_VA
  have th : ∀ k, k < 5 → (!decide (isM n 2 (nI u) (VA w (c3d c a b u) (a + b) (decide (nI a = 1) || decide (nI b = 1)) (hp - 1)) (w 0) doub spli giv (if a = b then nI a else 0) (nI k) = 0)) = thB w 2 (nI (a + b)) (gAB a b) (nI u) (nI (smN (c3d c a b u))) k := by
    intro k hk
    unfold thB
    rw [eV, hn]
    congr 1
    rw [decide_eq_decide]
    exact (th_is e3 e4 e5 ha hb hu (by omega) hk hv).symm
  have e : fbV (fun k => !decide (isM n 2 (nI u) (VA w (c3d c a b u) (a + b) (decide (nI a = 1) || decide (nI b = 1)) (hp - 1)) (w 0) doub spli giv (if a = b then nI a else 0) (nI k) = 0)) (fun k => woM w u (c3d c a b u) (a + b) (decide (nI a = 1) || decide (nI b = 1)) (hp - 1) 2 (if a = b then nI a else 0) (nI k)) 5 = fbV (thB w 2 (nI (a + b)) (gAB a b) (nI u) (nI (smN (c3d c a b u)))) (fun k => acV w u (c3d c a b u) (nI (a + b)) (decide (nI a = 1) || decide (nI b = 1)) 2 (nI a) (nI k)) 5 := by
    refine fb_cg 5 th (fun k hk ht => ?_)
    show woM w u (c3d c a b u) (a + b) (decide (nI a = 1) || decide (nI b = 1)) (hp - 1) 2 (if a = b then nI a else 0) (nI k) = _
    rw [hp_]
    refine wo_ac hc (by omega) hv hk (fun k3 => ?_)
    subst k3
    rw [th 3 hk] at ht
    have q : ¬ thC w 2 (nI (a + b)) (gAB a b) (nI u) (nI (smN (c3d c a b u))) (nI 3) = 0 := fun z => by rw [thB_0 z] at ht; exact absurd ht (by decide)
    by_cases x : a = b
    · rw [if_pos x]
    · exfalso
      apply q
      have gq : ¬ gAB a b 0 = gAB a b 1 := fun z => x ((nI_eq (a := a) (b := b) (by omega) (by omega)).mp z)
      unfold thC
      rw [if_neg (show ¬ (2 : Int32) = 0 by decide)]
      split
      · split
        · rfl
        · rw [if_neg (show ¬ nI 3 = 0 by decide), if_neg (show ¬ nI 3 = 1 by decide), if_neg (show ¬ nI 3 = 2 by decide), if_pos (show nI 3 = 3 by decide)]
          simp [gq]
      · rfl
  have n1 : ¬ (fbV (thB w 2 (nI (a + b)) (gAB a b) (nI u) (nI (smN (c3d c a b u)))) (fun k => acV w u (c3d c a b u) (nI (a + b)) (decide (nI a = 1) || decide (nI b = 1)) 2 (nI a) (nI k)) 5).1 = -1 := by
    refine fb_0 (thB_1 ?_) 5 (by decide) (by decide)
    have bu := (bu_i2 (w := w) (s := nI (a + b)) (a := decide (nI a = 1) || decide (nI b = 1)) (by rw [toInt_nI (by omega)]; omega) (by rw [toInt_nI (by omega)]; omega)).mpr hv
    have u1 : ¬ nI u = -1 := fun q => by have := congrArg Int32.toInt q; rw [toInt_nI (by omega), show (-1 : Int32).toInt = -1 by decide] at this; omega
    unfold thC
    rw [if_neg (show ¬ (2 : Int32) = 0 by decide), if_pos bu, if_neg u1, if_pos (show nI 0 = 0 by decide)]
    decide
  rw [e]
  unfold bsV
  rw [if_neg n1]
theorem dt_r {c : Nat → Nat} {a b u : Nat} {x y : Int64} (e : x = y) : lN (wyN c a b u) * x = if wyN c a b u = 0 then 0 else lN (wyN c a b u) * y := by
  by_cases z : wyN c a b u = 0
  · rw [if_pos z, z, show lN 0 = 0 by decide, Int64.zero_mul]
  · rw [if_neg z, e]
theorem dl_m {w : Nat → Int32} {c : Nat → Nat} {a b u : Nat} {n y r : Int64} (u1 : 1 ≤ u) (h : n = y + hsm (dlF w c a b) (u - 1)) (e : r = if wyN c a b u = 0 then 0 else lN (wyN c a b u) * bsV w c a b u) : n + (if a = b then 1 else 2) * r = y + hsm (dlF w c a b) (u + 1 - 1) := by
  refine hal_y2 u1 h ?_
  unfold dlF wyL
  rw [e]
  by_cases z : wyN c a b u = 0
  · rw [if_pos z, if_pos z, Int64.mul_zero]
  · rw [if_neg z, if_neg z]
    by_cases q : a = b
    · rw [if_pos q, if_pos q, Int64.one_mul]
    · rw [if_neg q, if_neg q, Int64.mul_assoc]
/-! bounds of a deal -/
theorem lneg_b {x : Int64} {b : Nat} (h : x.toInt.natAbs ≤ b) (hb : b < 2 ^ 62) : (x * (-2)).toInt.natAbs ≤ b * 2 := by
  have e : (x * (-2)).toInt = x.toInt * (-2) := by
    rw [Int64.toInt_mul, show (-2 : Int64).toInt = -2 by decide]
    exact Int.bmod_eq_of_le (by omega) (by omega)
  rw [e]
  omega
theorem stC_b {w : Nat → Int32} {v e : Int32} {b : Bool} (h6 : 2 ≤ (w 6).toInt ∧ (w 6).toInt ≤ 4) : -4 ≤ (stC w v b e).toInt ∧ (stC w v b e).toInt ≤ 4 := by
  unfold stC
  by_cases a : w 0 < v
  · rw [if_pos a]; decide
  · rw [if_neg a]
    by_cases c : e ≤ v
    · rw [if_pos c]
      by_cases d : e = v
      · rw [if_pos d]; decide
      · rw [if_neg d]
        by_cases f : bI b = 0
        · rw [if_pos f]; decide
        · rw [if_neg f]; omega
    · rw [if_neg c]; decide
theorem pyS_b {w : Nat → Int32} {v : Int32} {b : Bool} (h6 : 2 ≤ (w 6).toInt ∧ (w 6).toInt ≤ 4) (j : Nat) : (pyS w v b j).toInt.natAbs ≤ 4 := by
  unfold pyS
  have := stC_b (w := w) (v := v) (e := nI j) (b := b) h6
  rw [Int32.toInt_toInt64]
  omega
theorem ho_b {w : Nat → Int32} {py : Nat → Int64} {un : Nat} {c : Nat → Nat} {b : Nat} (hb : b ≤ 1000) (h : ∀ j, (py j).toInt.natAbs ≤ b) (hc : smN c ≤ 12) : (hoV w py un c).toInt.natAbs ≤ b * facN (smN c) := by
  unfold hoV
  exact hv_b hb (fun s a => h _) (smN c) c _ _ hc rfl
theorem ord_b {n : Nat} (h : n ≤ 12) : ((-2) * ord0 n).toInt.natAbs ≤ 4 * facN n := by
  have f := fac_b n (by omega)
  rw [ord_f n (by omega)]
  have q := lmul_b (x := (-2 : Int64)) (m := facN n) (b := 2) (by decide) (by omega) (by omega)
  omega
theorem stV_b {w : Nat → Int32} {un : Nat} {c : Nat → Nat} {s : Int32} {a : Bool} {z : Int32} (h6 : 2 ≤ (w 6).toInt ∧ (w 6).toInt ≤ 4) (hc : smN c ≤ 12) : (stV w un c s a z).toInt.natAbs ≤ 4 * facN (smN c) := by
  unfold stV
  by_cases y : buC w s = 0
  · rw [if_pos y]; exact ho_b (by omega) (pyS_b h6) hc
  · rw [if_neg y]; exact ord_b hc
theorem mx_b {x y : Int64} {b : Nat} (h1 : x.toInt.natAbs ≤ b) (h2 : y.toInt.natAbs ≤ b) : (mxL x y).toInt.natAbs ≤ b := by
  unfold mxL
  split
  · exact h1
  · exact h2
/-- a sum over the cards that can come -/
theorem hsm_f {G : Nat → Int64} {c : Nat → Nat} {n b : Nat} (hb : b ≤ 1000) (hn : n + 1 ≤ 12) (hc : smN c = n + 1) (h : ∀ r, 1 ≤ r → r ≤ 10 → 0 < c r → (G r).toInt.natAbs ≤ b * facN n) : (hsm (fun r => if c r = 0 then 0 else lN (c r) * G r) 10).toInt.natAbs ≤ b * facN (n + 1) := by
  have f1 := fac_b (n + 1) (by omega)
  have f0 := fac_b n (by omega)
  have bb : b * facN (n + 1) ≤ 1000 * 479001600 := Nat.mul_le_mul hb f1.2
  have e : b * facN (n + 1) = smU c 10 * (b * facN n) := by
    rw [smU_10, hc]
    show b * ((n + 1) * facN n) = _
    rw [Nat.mul_left_comm]
  rw [e]
  refine hsm_b (fun r x y => ?_) 10 (Nat.le_refl _) (by rw [← e]; omega)
  show (if c r = 0 then (0 : Int64) else lN (c r) * G r).toInt.natAbs ≤ _
  by_cases z : c r = 0
  · rw [if_pos z]; exact Nat.zero_le _
  · rw [if_neg z, Int64.mul_comm, Nat.mul_comm (c r)]
    have cr : c r ≤ 12 := by
      unfold smN at hc
      rcases rk_cases x y with rfl | rfl | rfl | rfl | rfl | rfl | rfl | rfl | rfl | rfl <;> omega
    have f3 : b * facN n ≤ 1000 * 479001600 := Nat.mul_le_mul hb f0.2
    have f4 : b * facN n * c r ≤ 1000 * 479001600 * 12 := Nat.mul_le_mul f3 cr
    exact lmul_b (h r x y (by omega)) (by omega) (by omega)
theorem plV_b {w : Nat → Int32} {un : Nat} (h6 : 2 ≤ (w 6).toInt ∧ (w 6).toInt ≤ 4) : ∀ n (c : Nat → Nat) (s : Int32) (a : Bool) (z : Int32), n ≤ 12 → smN c = n → (plV w un n c s a z).toInt.natAbs ≤ 4 * facN n := by
  intro n
  induction n with
  | zero =>
    intro c s a z _ hc
    have := stV_b (un := un) (s := s) (a := a) (z := z) h6 (c := c) (by omega)
    rw [hc] at this
    exact this
  | succ n ih =>
    intro c s a z hn hc
    show (if buC w s = 0 then mxL (stV w un c s a z) (hsm (fun r => if c r = 0 then 0 else lN (c r) * plV w un n (updN c r (c r - 1)) (s + nI r) (a || decide (nI r = 1)) (z + 1)) 10) else (-2) * ord0 (n + 1)).toInt.natAbs ≤ _
    by_cases y : buC w s = 0
    · rw [if_pos y]
      refine mx_b ?_ ?_
      · have := stV_b (un := un) (s := s) (a := a) (z := z) h6 (c := c) (by omega)
        rw [hc] at this
        exact this
      · exact hsm_f (G := fun r => plV w un n (updN c r (c r - 1)) (s + nI r) (a || decide (nI r = 1)) (z + 1)) (by omega) hn hc (fun r x q p => ih _ _ _ _ (by omega) (by have := smN_dec (c := c) x q p; omega))
    · rw [if_neg y]; exact ord_b hn
theorem hsm_1 {F : Nat → Int64} {b : Nat} (h : ∀ r, 1 ≤ r → r ≤ 10 → (F r).toInt.natAbs ≤ b) (hb : 10 * b < 2 ^ 62) : (hsm F 10).toInt.natAbs ≤ 10 * b := by
  have e : smU (fun _ => 1) 10 = 10 := rfl
  have q := hsm_b (F := F) (c := fun _ => 1) (b := b) (fun r x y => by rw [Nat.one_mul]; exact h r x y) 10 (Nat.le_refl _) (by rw [e]; exact hb)
  rw [e] at q
  exact q
theorem fac_8 {n : Nat} (h : n ≤ 8) : facN n ≤ 40320 := by
  have q : ∀ n, n < 9 → facN n ≤ 40320 := by decide +kernel
  exact q n (by omega)
theorem l2_b {x : Int64} {b : Nat} (h : x.toInt.natAbs ≤ b) (hb : b * 2 < 2 ^ 62) : (2 * x).toInt.natAbs ≤ b * 2 := by
  have q := lmul_b (x := x) (m := 2) h hb (by decide)
  rw [Int64.mul_comm]
  exact q
theorem acV_b {w : Nat → Int32} {un : Nat} {c : Nat → Nat} {s : Int32} {a : Bool} {z card p : Int32} (h6 : 2 ≤ (w 6).toInt ∧ (w 6).toInt ≤ 4) (hc : smN c ≤ 8) : (acV w un c s a z card p).toInt.natAbs ≤ 2000000000 := by
  have f8 := fac_8 hc
  have st : ∀ (c' : Nat → Nat) (s' : Int32) (a' : Bool) (z' : Int32), le10 c' c → (stV w un c' s' a' z').toInt.natAbs ≤ 161280 := by
    intro c' s' a' z' l
    have m := smN_mo l
    have q := stV_b (un := un) (s := s') (a := a') (z := z') h6 (c := c') (by omega)
    have := fac_8 (n := smN c') (by omega)
    omega
  have c8 : ∀ r, 1 ≤ r → r ≤ 10 → c r ≤ 8 := by
    intro r x y
    unfold smN at hc
    rcases rk_cases x y with rfl | rfl | rfl | rfl | rfl | rfl | rfl | rfl | rfl | rfl <;> omega
  unfold acV
  by_cases p0 : p = 0
  · rw [if_pos p0]
    have := st c s a z (le10_rf c)
    omega
  rw [if_neg p0]
  by_cases p1 : p = 1
  · rw [if_pos p1]
    unfold plR
    rw [if_pos (ixC_self c)]
    by_cases y : buC w s = 0
    · rw [if_pos y]
      rcases Nat.eq_zero_or_pos (smN c) with e | e
      · rw [hsm_z 10 (fun r x q => by unfold drF; rw [if_pos (sm_0 e x q)])]
        decide
      · unfold drF
        obtain ⟨n, en⟩ : ∃ n, smN c = n + 1 := ⟨smN c - 1, by omega⟩
        have q := hsm_f (G := fun r => plV w un (smN c - 1) (updN c r (c r - 1)) (s + nI r) (a || decide (nI r = 1)) (z + 1)) (c := c) (n := n) (b := 4) (by omega) (by omega) en (fun r x y p => by
          have d := smN_dec (c := c) x y p
          have k := plV_b (un := un) h6 (smN c - 1) (updN c r (c r - 1)) (s + nI r) (a || decide (nI r = 1)) (z + 1) (by omega) (by omega)
          rw [show smN c - 1 = n by omega] at k ⊢
          exact k)
        have f := fac_8 (n := n + 1) (by omega)
        omega
    · rw [if_neg y]
      have := ord_b (n := smN c) (by omega)
      omega
  rw [if_neg p1]
  by_cases p2 : p = 2
  · rw [if_pos p2]
    have q := hsm_1 (F := dbF w un c s a z) (b := 161280 * 8) (fun r x y => by
      unfold dbF
      by_cases e : c r = 0
      · rw [if_pos e]; exact Nat.zero_le _
      · rw [if_neg e, Int64.mul_comm]
        have k := st (updN c r (c r - 1)) (s + nI r) (a || decide (nI r = 1)) (z + 1) (le10_dec (le10_rf c))
        have cr := c8 r x y
        have q := lmul_b (m := c r) k (by have : 161280 * c r ≤ 161280 * 8 := Nat.mul_le_mul_left _ cr; omega) (by omega)
        have : 161280 * c r ≤ 161280 * 8 := Nat.mul_le_mul_left _ cr
        omega) (by omega)
    have := l2_b q (by omega)
    omega
  rw [if_neg p2]
  by_cases p3 : p = 3
  · rw [if_pos p3]
    have q := hsm_1 (F := spG w un card c) (b := 10 * (161280 * 64)) (fun k x y => by
      unfold spG
      by_cases e : c k = 0
      · rw [if_pos e]; exact Nat.zero_le _
      · rw [if_neg e]
        refine hsm_1 (fun j u v => ?_) (by omega)
        unfold spF
        by_cases d : updN c k (c k - 1) j = 0
        · rw [if_pos d]; exact Nat.zero_le _
        · rw [if_neg d, ho_add, lN_mul, Int64.mul_comm]
          have l1 := le10_dec (k := k) (le10_rf c)
          have l2 := le10_tr (le10_dec (k := j) (le10_rf (updN c k (c k - 1)))) l1
          have m := smN_mo l2
          have hb : ∀ v, (hoV w (pyS w v false) un (updN (updN c k (c k - 1)) j (updN c k (c k - 1) j - 1))).toInt.natAbs ≤ 80640 := by
            intro v
            have k9 := ho_b (w := w) (py := pyS w v false) (un := un) (c := updN (updN c k (c k - 1)) j (updN c k (c k - 1) j - 1)) (b := 2) (by omega) (fun j => by
              unfold pyS
              rcases stF_v (w := w) (v := v) (e := nI j) with h | h | h <;> rw [h] <;> decide) (by omega)
            have := fac_8 (n := smN (updN (updN c k (c k - 1)) j (updN c k (c k - 1) j - 1))) (by omega)
            omega
          have s1 := ladd_b (hb (vlS w card k)) (hb (vlS w card j)) (by omega)
          have n1 : c k * updN c k (c k - 1) j ≤ 8 * 8 := Nat.mul_le_mul (c8 k x y) (Nat.le_trans (l1 j u v) (c8 j u v))
          have n2 : (80640 + 80640) * (c k * updN c k (c k - 1) j) ≤ (80640 + 80640) * 64 := Nat.mul_le_mul_left _ n1
          have q := lmul_b (m := c k * updN c k (c k - 1) j) s1 (by omega) (by omega)
          omega) (by omega)
    omega
  rw [if_neg p3]
  have e : (-1 : Int64) * ord0 (smN c) = (-1) * lN (facN (smN c)) := by rw [ord_f _ (by omega)]
  rw [e]
  have q := lmul_b (x := (-1 : Int64)) (m := facN (smN c)) (b := 1) (by decide) (by omega) (by omega)
  omega
theorem fb_b {th : Nat → Bool} {wo : Nat → Int64} {b : Nat} (h : ∀ k, (wo k).toInt.natAbs ≤ b) : ∀ k, (fbV th wo k).2.toInt.natAbs ≤ b := by
  intro k
  induction k with
  | zero => exact Nat.zero_le b
  | succ k ih =>
    show (if th k then (if (fbV th wo k).1 = -1 ∨ (fbV th wo k).2 < wo k then (nI k, wo k) else fbV th wo k) else fbV th wo k).2.toInt.natAbs ≤ b
    split
    · split
      · exact h k
      · exact ih
    · exact ih
theorem bsV_b {w : Nat → Int32} {c : Nat → Nat} {a b u : Nat} (h6 : 2 ≤ (w 6).toInt ∧ (w 6).toInt ≤ 4) (hc : smN (c3d c a b u) ≤ 8) : (bsV w c a b u).toInt.natAbs ≤ 2000000000 := by
  unfold bsV
  split
  · have := ord_b (n := smN (c3d c a b u)) (by omega)
    have := fac_8 hc
    omega
  · exact fb_b (fun k => acV_b h6 hc) 5
theorem dl_b {w : Nat → Int32} {f : Nat → Int32} {c : Nat → Nat} (h6 : 2 ≤ (w 6).toInt ∧ (w 6).toInt ≤ 4) (hf : cntI f c) (hc : smN c ≤ 8) : (hsm (dlA w c) 10).toInt.natAbs < 2 ^ 62 := by
  have key : ∀ a b u, 1 ≤ a → a ≤ 10 → 1 ≤ b → b ≤ 10 → 1 ≤ u → u ≤ 10 → (dlF w c a b u).toInt.natAbs ≤ 131072000000000 := by
    intro a b u a1 a2 b1 b2 u1 u2
    have dc := deal_c hf a1 a2 b1 b2 u1 u2
    have k := bsV_b (w := w) (c := c) (a := a) (b := b) (u := u) h6 (by omega)
    unfold dlF
    by_cases z : wyN c a b u = 0
    · rw [if_pos z]; exact Nat.zero_le _
    · rw [if_neg z, Int64.mul_comm]
      unfold wyL
      have n1 : 2000000000 * wyN c a b u ≤ 2000000000 * 32768 := Nat.mul_le_mul_left _ dc.2
      have n2 : 2000000000 * (2 * wyN c a b u) ≤ 2000000000 * 65536 := Nat.mul_le_mul_left _ (by omega)
      by_cases y : a = b
      · rw [if_pos y]
        have q := lmul_b (m := wyN c a b u) k (by omega) (by omega)
        omega
      · rw [if_neg y]
        have e : (2 : Int64) * lN (wyN c a b u) = lN (2 * wyN c a b u) := by rw [← lN_mul]; rfl
        rw [e]
        have q := lmul_b (m := 2 * wyN c a b u) k (by omega) (by omega)
        omega
  have q := hsm_1 (F := dlA w c) (b := 10 * (10 * 131072000000000)) (fun a a1 a2 => by
    refine hsm_1 (fun b b1 b2 => ?_) (by omega)
    unfold dlB
    split
    · exact Nat.zero_le _
    · exact hsm_1 (fun u u1 u2 => key a b u a1 a2 b1 b2 u1 u2) (by omega)) (by omega)
  omega
theorem tot_88 {tot : Int32} {c : Nat → Nat} (e : tot = nI (smN c)) (h320 : smN c ≤ 320) (h : tot ≤ 8) : smN c ≤ 8 := by
  rw [e] at h
  exact (nI_leI (a := smN c) (b := 8) (by omega) (by decide)).mp h
