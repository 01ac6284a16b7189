/-! what the reference's calls answer at a new object, in the reference's order, and that it is the same -/
theorem wide_lt (a b : Int32) : a.toInt64 < b.toInt64 ↔ a < b := by
  rw [Int64.lt_iff_toInt_lt, Int32.lt_iff_toInt_lt, Int32.toInt_toInt64, Int32.toInt_toInt64]
theorem inB_i (p lo hi : Int32) : inB p.toInt64 lo.toInt64 hi.toInt64 = if p < lo then 0 else if hi < p then 0 else 1 := by
  unfold inB
  by_cases h1 : p < lo
  · rw [if_pos h1, if_pos ((wide_lt _ _).mpr h1)]
  · rw [if_neg h1, if_neg (fun q => h1 ((wide_lt _ _).mp q))]
    by_cases h2 : hi < p
    · rw [if_pos h2, if_pos ((wide_lt _ _).mpr h2)]
    · rw [if_neg h2, if_neg (fun q => h2 ((wide_lt _ _).mp q))]
theorem in_rk (p : Int32) : inB p.toInt64 1 10 = rkB p := inB_i p 1 10
theorem in_gl (p : Int32) : inB p.toInt64 0 2 = glB p := inB_i p 0 2
theorem in_ac (p : Int32) : inB p.toInt64 0 4 = acB p := inB_i p 0 4
theorem in_0 {p lo hi : Int32} : (if p < lo then (0 : Int32) else if hi < p then 0 else 1) = 0 ↔ (p.toInt < lo.toInt ∨ hi.toInt < p.toInt) := by
  rw [← Int32.lt_iff_toInt_lt, ← Int32.lt_iff_toInt_lt]
  by_cases h1 : p < lo
  · simp [h1]
  · by_cases h2 : hi < p
    · simp [h1, h2]
    · simp [h1, h2]
theorem inB_0 (p lo hi : Int32) : inB p.toInt64 lo.toInt64 hi.toInt64 = 0 ↔ (p.toInt < lo.toInt ∨ hi.toInt < p.toInt) := by
  rw [inB_i]
  exact in_0
theorem eqI (p : Int32) (k : Int32) : p = k ↔ p.toInt = k.toInt := Int32.toInt_inj.symm
theorem in_pt (p : Int32) : inB p.toInt64 0 1 = ptB p := by
  have h := inB_i p 0 1
  have e0 : (0 : Int32).toInt = 0 := by decide
  have e1 : (1 : Int32).toInt = 1 := by decide
  refine h.trans ?_
  unfold ptB
  by_cases a : p = 0
  · subst a; decide
  · by_cases b : p = 1
    · subst b; decide
    · rw [if_neg a, if_neg b]
      rw [eqI, e0] at a
      rw [eqI, e1] at b
      refine in_0.mpr ?_
      rw [e0, e1]
      omega
def shoeM (p0 p1 : Int32) : Int32 := if inB p0.toInt64 1 10 = 0 then -1001 else if inB p1.toInt64 0 32 = 0 then -1001 else 0
def markM (p0 p1 : Int32) : Int32 := if inB p0.toInt64 1 10 = 0 then -1001 else if inB p1.toInt64 (-3) 3 = 0 then -1001 else 0
def leftM (p0 : Int32) : Int32 := if inB p0.toInt64 0 10 = 0 then -1001 else 0
def takeM (p0 p1 : Int32) : Int32 := if inB p0.toInt64 1 10 = 0 then -1001 else if inB p1.toInt64 0 2 = 0 then -1001 else -1002
def drawM (p0 : Int32) : Int32 := if inB p0.toInt64 0 2 = 0 then -1001 else -1002
def toldM (p0 : Int32) : Int32 := if p0 = 0 then 0 else if p0 = 1 then 0 else if p0 = 2 then 0 else if p0 = 3 then 0 else if p0 = 4 then 0 else if p0 = 5 then -1 else if p0 = 6 then 0 else if p0 = 7 then 0 else if p0 = 8 then 0 else if inB p0.toInt64 10 21 = 0 then -1001 else -1
def thereM (p0 : Int32) : Int32 := if inB p0.toInt64 0 4 = 0 then -1001 else 0
def worthM (p0 p1 : Int32) : Int64 := if inB p0.toInt64 0 4 = 0 then -1001 else if inB p1.toInt64 0 1 = 0 then -1001 else -1002
def chanceM (p0 p1 : Int32) : Int64 := if p0 = 0 then (if inB p1.toInt64 0 1 = 0 then -1001 else -1002) else if inB p0.toInt64 2 21 = 0 then -1001 else if inB p1.toInt64 0 1 = 0 then -1001 else -1002
def dealM (p0 : Int32) : Int64 := if inB p0.toInt64 0 1 = 0 then -1001 else -1002
def movedM (p0 p1 : Int32) : Int64 := if inB p0.toInt64 1 10 = 0 then -1001 else if inB p1.toInt64 0 1 = 0 then -1001 else -1002
def knownM (p0 p1 : Int32) : Int64 := if inB p0.toInt64 1 10 = 0 then -1001 else if inB p1.toInt64 0 1 = 0 then -1001 else if p1 = 0 then 0 else 1
theorem take_eq (p0 p1 : Int32) : takeM p0 p1 = takeS p0 p1 := by unfold takeM takeS; rw [in_rk, in_gl]
theorem draw_eq (p0 : Int32) : drawM p0 = drawS p0 := by unfold drawM drawS; rw [in_gl]
theorem there_eq (p0 : Int32) : thereM p0 = thereS p0 := by unfold thereM thereS; rw [in_ac]
theorem worth_eq (p0 p1 : Int32) : worthM p0 p1 = worthS p0 p1 := by unfold worthM worthS; rw [in_ac, in_pt]
theorem deal_eq (p0 : Int32) : dealM p0 = dealS p0 := by unfold dealM dealS; rw [in_pt]
theorem moved_eq (p0 p1 : Int32) : movedM p0 p1 = movedS p0 p1 := by unfold movedM movedS; rw [in_rk, in_pt]
theorem known_eq (p0 p1 : Int32) : knownM p0 p1 = knownS p0 p1 := by unfold knownM knownS; rw [in_rk, in_pt]
theorem leI (p : Int32) (k : Int32) : p ≤ k ↔ p.toInt ≤ k.toInt := Int32.le_iff_toInt_le
theorem ltI (p : Int32) (k : Int32) : p < k ↔ p.toInt < k.toInt := Int32.lt_iff_toInt_lt
theorem shoe_eq (p0 p1 : Int32) : shoeM p0 p1 = shoeS p0 p1 := by
  unfold shoeM shoeS
  rw [in_rk]
  by_cases h : rkB p0 = 0
  · rw [if_pos h, if_pos h]
  · rw [if_neg h, if_neg h]
    have q := inB_0 p1 0 32
    have q : inB p1.toInt64 0 32 = 0 ↔ (p1.toInt < 0 ∨ 32 < p1.toInt) := q
    have a := ltI p1 0
    have a : p1 < 0 ↔ p1.toInt < 0 := a
    have b := leI p1 32
    have b : p1 ≤ 32 ↔ p1.toInt ≤ 32 := b
    by_cases h1 : p1 < 0
    · rw [if_pos h1, if_pos (q.mpr (Or.inl (a.mp h1)))]
    · by_cases h2 : p1 ≤ 32
      · rw [if_neg h1, if_pos h2, if_neg (fun z => by have := q.mp z; have := b.mp h2; have := mt a.mpr h1; omega)]
      · rw [if_neg h1, if_neg h2, if_pos (q.mpr (Or.inr (by have := mt b.mpr h2; omega)))]
theorem mark_eq (p0 p1 : Int32) : markM p0 p1 = markS p0 p1 := by
  unfold markM markS
  rw [in_rk]
  by_cases h : rkB p0 = 0
  · rw [if_pos h, if_pos h]
  · rw [if_neg h, if_neg h]
    have q := inB_0 p1 (-3) 3
    have q : inB p1.toInt64 (-3) 3 = 0 ↔ (p1.toInt < -3 ∨ 3 < p1.toInt) := q
    have a := ltI p1 (-3)
    have a : p1 < -3 ↔ p1.toInt < -3 := a
    have b := leI p1 3
    have b : p1 ≤ 3 ↔ p1.toInt ≤ 3 := b
    by_cases h1 : p1 < -3
    · rw [if_pos h1, if_pos (q.mpr (Or.inl (a.mp h1)))]
    · by_cases h2 : p1 ≤ 3
      · rw [if_neg h1, if_pos h2, if_neg (fun z => by have := q.mp z; have := b.mp h2; have := mt a.mpr h1; omega)]
      · rw [if_neg h1, if_neg h2, if_pos (q.mpr (Or.inr (by have := mt b.mpr h2; omega)))]
theorem rk_0 (p : Int32) : rkB p = 0 ↔ (p.toInt < 1 ∨ 10 < p.toInt) := by
  have q := inB_0 p 1 10
  rw [← in_rk]
  exact q
theorem left_eq (p0 : Int32) : leftM p0 = leftS p0 := by
  unfold leftM leftS
  have q := inB_0 p0 0 10
  have q : inB p0.toInt64 0 10 = 0 ↔ (p0.toInt < 0 ∨ 10 < p0.toInt) := q
  have r := rk_0 p0
  have e := eqI p0 0
  have e : p0 = 0 ↔ p0.toInt = 0 := e
  by_cases h1 : p0 = 0
  · rw [if_pos h1, if_neg (fun z => by have := q.mp z; have := e.mp h1; omega)]
  · rw [if_neg h1]
    by_cases h2 : rkB p0 = 0
    · rw [if_pos h2, if_pos (q.mpr (by have := r.mp h2; have := mt e.mpr h1; omega))]
    · rw [if_neg h2, if_neg (fun z => by have := q.mp z; have := mt r.mpr h2; omega)]
theorem chance_eq (p0 p1 : Int32) : chanceM p0 p1 = chanceS p0 p1 := by
  unfold chanceM chanceS
  rw [in_pt]
  have q := inB_0 p0 2 21
  have q : inB p0.toInt64 2 21 = 0 ↔ (p0.toInt < 2 ∨ 21 < p0.toInt) := q
  have a := ltI p0 0
  have a : p0 < 0 ↔ p0.toInt < 0 := a
  have b := ltI 21 p0
  have b : 21 < p0 ↔ 21 < p0.toInt := b
  have e := eqI p0 0
  have e : p0 = 0 ↔ p0.toInt = 0 := e
  have e1 := eqI p0 1
  have e1 : p0 = 1 ↔ p0.toInt = 1 := e1
  by_cases h0 : p0 = 0
  · have n1 : ¬ p0 < 0 := fun z => by have := a.mp z; have := e.mp h0; omega
    have n2 : ¬ p0 = 1 := fun z => by have := e1.mp z; have := e.mp h0; omega
    have n3 : ¬ 21 < p0 := fun z => by have := b.mp z; have := e.mp h0; omega
    rw [if_pos h0, if_neg n1, if_neg n2, if_neg n3]
  · rw [if_neg h0]
    by_cases h1 : p0 < 0
    · rw [if_pos h1, if_pos (q.mpr (Or.inl (by have := a.mp h1; omega)))]
    · by_cases h2 : p0 = 1
      · rw [if_neg h1, if_pos h2, if_pos (q.mpr (Or.inl (by have := e1.mp h2; omega)))]
      · by_cases h3 : 21 < p0
        · rw [if_neg h1, if_neg h2, if_pos h3, if_pos (q.mpr (Or.inr (b.mp h3)))]
        · rw [if_neg h1, if_neg h2, if_neg h3, if_neg (fun z => by have := q.mp z; have := mt a.mpr h1; have := mt e1.mpr h2; have := mt b.mpr h3; have := mt e.mpr h0; omega)]
theorem told_eq (p0 : Int32) : toldM p0 = toldS p0 := by
  unfold toldM toldS
  have q := inB_0 p0 10 21
  have q : inB p0.toInt64 10 21 = 0 ↔ (p0.toInt < 10 ∨ 21 < p0.toInt) := q
  have a := ltI p0 10
  have a : p0 < 10 ↔ p0.toInt < 10 := a
  have b := leI 22 p0
  have b : 22 ≤ p0 ↔ 22 ≤ p0.toInt := b
  have k : (if inB p0.toInt64 10 21 = 0 then (-1001 : Int32) else -1) = if p0 < 10 then -1001 else if 22 ≤ p0 then -1001 else -1 := by
    by_cases h1 : p0 < 10
    · rw [if_pos h1, if_pos (q.mpr (Or.inl (a.mp h1)))]
    · by_cases h2 : 22 ≤ p0
      · rw [if_neg h1, if_pos h2, if_pos (q.mpr (Or.inr (by have := b.mp h2; omega)))]
      · rw [if_neg h1, if_neg h2, if_neg (fun z => by have := q.mp z; have := mt a.mpr h1; have := mt b.mpr h2; omega)]
  rw [k]
/-- the rules that a new object takes -/
def okR (a b : Int) : Prop := (a = 0 ∧ 17 ≤ b ∧ b ≤ 21) ∨ (a = 1 ∧ 10 ≤ b ∧ b ≤ 21) ∨ (2 ≤ a ∧ a ≤ 5 ∧ 0 ≤ b ∧ b ≤ 1) ∨ (a = 6 ∧ 2 ≤ b ∧ b ≤ 4)
theorem alw_ok (p0 p1 : Int32) : ¬ alw rules0 p0 p1 = 0 ↔ okR p0.toInt p1.toInt := by
  have a := ltI p0 0
  have a : p0 < 0 ↔ p0.toInt < 0 := a
  have b := ltI 6 p0
  have b : 6 < p0 ↔ 6 < p0.toInt := b
  by_cases h1 : p0 < 0
  · unfold alw okR
    rw [if_pos h1]
    have := a.mp h1
    refine ⟨fun z => absurd rfl z, fun z => ?_⟩
    omega
  · by_cases h2 : 6 < p0
    · unfold alw okR
      rw [if_neg h1, if_pos h2]
      have := b.mp h2
      refine ⟨fun z => absurd rfl z, fun z => ?_⟩
      omega
    · have h3 := r7_in h1 h2
      obtain ⟨j, hj, rfl⟩ := vp_in_of h3 (by decide)
      have key : ∀ k : Int32, (p1 < k ↔ p1.toInt < k.toInt) ∧ (p1 ≤ k ↔ p1.toInt ≤ k.toInt) ∧ (k < p1 ↔ k.toInt < p1.toInt) := fun k => ⟨ltI p1 k, leI p1 k, ltI k p1⟩
      have k0 : (p1 < 0 ↔ p1.toInt < 0) := (key 0).1
      have k2 : (p1 < 2 ↔ p1.toInt < 2) := (key 2).1
      have k10 : (p1 < 10 ↔ p1.toInt < 10) := (key 10).1
      have k11 : (p1 < 11 ↔ p1.toInt < 11) := (key 11).1
      have k17 : (p1 < 17 ↔ p1.toInt < 17) := (key 17).1
      have l1 : (p1 ≤ 1 ↔ p1.toInt ≤ 1) := (key 1).2.1
      have l4 : (p1 ≤ 4 ↔ p1.toInt ≤ 4) := (key 4).2.1
      have l21 : (p1 ≤ 21 ↔ p1.toInt ≤ 21) := (key 21).2.1
      have g21 : (21 < p1 ↔ 21 < p1.toInt) := (key 21).2.2
      unfold alw
      rw [if_neg h1, if_neg h2, nI_clamp (by omega), nI_toInt (by omega)]
      rcases (show j = 0 ∨ j = 1 ∨ j = 2 ∨ j = 3 ∨ j = 4 ∨ j = 5 ∨ j = 6 by omega) with rfl | rfl | rfl | rfl | rfl | rfl | rfl
      · show ¬ (if p1 < 11 then (0 : Int32) else if p1 ≤ 21 then (if (0 : Int32) = 0 then (if p1 < 17 then 0 else 1) else if (0 : Int32) = 1 then (if 21 < p1 then 0 else 1) else 1) else 0) = 0 ↔ okR 0 p1.toInt
        unfold okR
        rw [if_pos rfl]
        simp only [k11, l21, k17]
        by_cases c1 : p1.toInt < 11 <;> by_cases c2 : p1.toInt ≤ 21 <;> by_cases c3 : p1.toInt < 17 <;> simp only [c1, c2, c3, if_true, if_false] <;> simp <;> omega
      · show ¬ (if p1 < 10 then (0 : Int32) else if p1 ≤ 21 then (if (1 : Int32) = 0 then (if p1 < 17 then 0 else 1) else if (1 : Int32) = 1 then (if 21 < p1 then 0 else 1) else 1) else 0) = 0 ↔ okR 1 p1.toInt
        unfold okR
        rw [if_neg (show ¬ (1 : Int32) = 0 by decide), if_pos (show (1 : Int32) = 1 from rfl)]
        simp only [k10, l21, g21]
        by_cases c1 : p1.toInt < 10 <;> by_cases c2 : p1.toInt ≤ 21 <;> by_cases c3 : 21 < p1.toInt <;> simp only [c1, c2, c3, if_true, if_false] <;> simp <;> omega
      all_goals first
        | (show ¬ (if p1 < 0 then (0 : Int32) else if p1 ≤ 1 then 1 else 0) = 0 ↔ okR _ p1.toInt
           unfold okR
           simp only [k0, l1]
           by_cases c1 : p1.toInt < 0 <;> by_cases c2 : p1.toInt ≤ 1 <;> simp only [c1, c2, if_true, if_false] <;> simp <;> omega)
        | (show ¬ (if p1 < 2 then (0 : Int32) else if p1 ≤ 4 then 1 else 0) = 0 ↔ okR _ p1.toInt
           unfold okR
           simp only [k2, l4]
           by_cases c1 : p1.toInt < 2 <;> by_cases c2 : p1.toInt ≤ 4 <;> simp only [c1, c2, if_true, if_false] <;> simp <;> omega)
theorem rule_bad {p0 p1 : Int32} (h : ¬ okR p0.toInt p1.toInt) : -1001 = ruleS p0 p1 := by
  unfold ruleS
  rw [if_pos (Decidable.byContradiction fun z => h ((alw_ok p0 p1).mp z))]
theorem rule_good {p0 p1 r : Int32} (h : okR p0.toInt p1.toInt) (hr : r = rules0 p0.toNatClampNeg) : r = ruleS p0 p1 := by
  unfold ruleS
  rw [if_neg ((alw_ok p0 p1).mpr h), hr]
theorem left_in {p : Int32} (h : ¬ inB p.toInt64 0 10 = 0) : vp_in p 11 := by
  have q := inB_0 p 0 10
  have q : inB p.toInt64 0 10 = 0 ↔ (p.toInt < 0 ∨ 10 < p.toInt) := q
  rw [vp_in_iff]
  have := mt q.mpr h
  omega
theorem told_ge {p : Int32} (h : ¬ inB p.toInt64 10 21 = 0) : 0 ≤ p - 10 := by
  have q := inB_0 p 10 21
  have q : inB p.toInt64 10 21 = 0 ↔ (p.toInt < 10 ∨ 21 < p.toInt) := q
  have h1 := mt q.mpr h
  have a := ltI p 10
  have a : p < 10 ↔ p.toInt < 10 := a
  have b := leI 22 p
  have b : 22 ≤ p ↔ 22 ≤ p.toInt := b
  exact n32i (m10 (fun z => by have := a.mp z; omega) (fun z => by have := b.mp z; omega))
