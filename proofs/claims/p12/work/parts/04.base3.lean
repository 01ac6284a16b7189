/-! what the class's tests answer -/
def rkB (p : Int32) : Int32 := if p < 1 then 0 else if 10 < p then 0 else 1
def glB (p : Int32) : Int32 := if p < 0 then 0 else if 2 < p then 0 else 1
def acB (p : Int32) : Int32 := if p < 0 then 0 else if 4 < p then 0 else 1
def ptB (p : Int32) : Int32 := if p = 0 then 1 else if p = 1 then 1 else 0
def nuB (p : Int32) : Int32 := if p = 0 then 0 else 1
theorem rkB_rng {p : Int32} (h : ¬ rkB p = 0) : ¬ p < 1 ∧ ¬ 10 < p := by
  unfold rkB at h
  by_cases h1 : p < 1
  · rw [if_pos h1] at h; exact absurd rfl h
  · by_cases h2 : 10 < p
    · rw [if_neg h1, if_pos h2] at h; exact absurd rfl h
    · exact ⟨h1, h2⟩
theorem rkB_in {p : Int32} (h : ¬ rkB p = 0) : vp_in p 11 := rk_in (rkB_rng h).1 (rkB_rng h).2
theorem mvO {f fg f2 fg2 : Nat → Int32} {tot totg tot2 totg2 p0 r : Int32} (hp : ¬ rkB p0 = 0) (hf : 0 < f p0.toNatClampNeg)
    (h1 : r = hdC f p0 ∧ if hdC f p0 ≤ 0 then tot2 = tot ∧ f2 = f else tot2 = tot - 1 ∧ f2 = upd f p0.toNatClampNeg (f p0.toNatClampNeg - 1))
    (h2 : if p0 < 1 then totg2 = totg ∧ fg2 = fg else if 10 < p0 then totg2 = totg ∧ fg2 = fg else totg2 = totg + 1 ∧ fg2 = upd fg p0.toNatClampNeg (fg p0.toNatClampNeg + 1)) :
    tot2 = tot - 1 ∧ f2 = upd f p0.toNatClampNeg (f p0.toNatClampNeg - 1) ∧ totg2 = totg + 1 ∧ fg2 = upd fg p0.toNatClampNeg (fg p0.toNatClampNeg + 1) := by
  obtain ⟨q1, q2⟩ := rkB_rng hp
  have e : hdC f p0 = f p0.toNatClampNeg := by unfold hdC; rw [if_neg q1, if_neg q2]
  rw [e] at h1
  have n : ¬ f p0.toNatClampNeg ≤ 0 := fun z => by
    have a := Int32.lt_iff_toInt_lt.mp hf
    have b := Int32.le_iff_toInt_le.mp z
    omega
  rw [if_neg n] at h1
  rw [if_neg q1, if_neg q2] at h2
  exact ⟨h1.2.1, h1.2.2, h2.1, h2.2⟩
/-- the place that THE DRAW points at -/
def plc (c : Int64) (tot : Int32) : Int32 := (((c).toUInt64 >>> ((33 : Int32).toInt64.toUInt64 &&& Int64.toUInt64 63)).toInt64 - ((c).toUInt64 >>> ((33 : Int32).toInt64.toUInt64 &&& Int64.toUInt64 63)).toInt64 / tot.toInt64 * tot.toInt64).toInt32
theorem tot64 {t : Int32} (h : 0 < t) : ¬ t.toInt64 = 0 := by
  intro z
  have a := Int32.lt_iff_toInt_lt.mp h
  have b : t.toInt64.toInt = (0 : Int64).toInt := by rw [z]
  rw [Int32.toInt_toInt64] at b
  have e1 : (0 : Int32).toInt = 0 := by decide
  have e2 : (0 : Int64).toInt = 0 := by decide
  omega
