/-! rounds, over the calls -/
def RdI (hr : Nat → Int32) (hrd : Int32) (pr : Nat → Int32) (prd : Int32) (i : Nat) : Prop := RI hr hrd ∧ RI pr prd ∧ hrd.toInt ≤ 500000 * (i : Int) ∧ prd.toInt ≤ 500000 * (i : Int)
theorem RdI.m {hr pr : Nat → Int32} {hrd prd : Int32} {i : Nat} (h : RdI hr hrd pr prd i) : RdI hr hrd pr prd (i + 3) := ⟨h.1, h.2.1, by have := h.2.2.1; omega, by have := h.2.2.2; omega⟩
theorem RdI.g {hr pr hr2 pr2 : Nat → Int32} {hrd prd hrd2 prd2 : Int32} {i : Nat} (h : RdI hr hrd pr prd i) (g : RdG hr2 hrd hrd2 pr2 prd prd2) : RdI hr2 hrd2 pr2 prd2 (i + 3) := ⟨g.1, g.2.1, by have := h.2.2.1; have := g.2.2.1; omega, by have := h.2.2.2; have := g.2.2.2; omega⟩
theorem RdI.z : RdI (fun _ => 0) 0 (fun _ => 0) 0 0 := ⟨fun _ _ => Int.le_refl _, fun _ _ => Int.le_refl _, by decide, by decide⟩
/-! chance: both answers are one -/
theorem go_eq {w : Nat → Int32} {x : Nat} {b : Bool} (h : x ≤ 1000) : goC w (nI x) b = goM (w 0) (w 1) (w 2) (nI x) b := by
  unfold goC goM
  rw [gn_eq (by rw [toInt_nI (by omega)]; omega) (by rw [toInt_nI (by omega)]; omega)]
theorem en_n {w : Nat → Int32} {x : Nat} {b : Bool} (h : x ≤ 1000) (hw : (w 0).toInt ≤ 21) : nI (enC w (vlC w (nI x) b)).toNatClampNeg = enC w (vlC w (nI x) b) := by
  have q := en_in (w := w) (s := nI x) (a := b) (by rw [toInt_nI (by omega)]; omega) (by rw [toInt_nI (by omega)]; omega) hw
  rw [vp_in_iff] at q
  apply Int32.toInt_inj.mp
  rw [toInt_nI (by show (enC w (vlC w (nI x) b)).toInt.toNat < 2 ^ 31; omega)]
  show ((enC w (vlC w (nI x) b)).toInt.toNat : Int) = _
  omega
theorem sc_E {w : Nat → Int32} {e wn : Int32} {x : Nat} {b : Bool} (h : x ≤ 1000) (hw : (w 0).toInt ≤ 21) : scC w (pyE e) (nI x) b = sMM (w 0) true e wn (nI x) b := by
  unfold scC pyE sMM scM
  rw [en_n h hw, if_neg (show ¬ bI true = 0 by decide)]
  have ev : (if vlM (w 0) (nI x) b ≤ w 0 then vlM (w 0) (nI x) b else 0) = enC w (vlC w (nI x) b) := rfl
  rw [ev]
  by_cases z : enC w (vlC w (nI x) b) = e
  · rw [if_pos z, if_pos z]; decide
  · rw [if_neg z, if_neg z]; decide
theorem ho_ch {w : Nat → Int32} {e wn : Int32} {un : Nat} {c : Nat → Nat} (hw : (w 0).toInt ≤ 21) (hu : un ≤ 10) (hc : smN c ≤ 12) : hoV w (pyE e) un c = hvM (w 0) (w 1) (w 2) true e wn c un (decide (nI un = 1)) := by
  unfold hoV hvM
  exact hv_same (lo := 0) (smN c) c un _ (fun x b _ y => ⟨go_eq (by omega), sc_E (by omega) hw⟩) (Nat.zero_le _)
theorem lk_chance {w f fs : Nat → Int32} {tot up p0 p1 stan soft doub spli giv bon wn : Int32} {un tgt : Nat} {cc : Nat → Nat} {r r' : Int64} (iR : LkR w tgt stan soft doub spli giv bon) (iC : LkC f fs tot cc) (iU : LkU up un)
    (hX : if p0 < 0 ∨ p0 = 1 ∨ 21 < p0 ∨ ptB p1 = 0 then r = -1001 else if up = -1 then r = -1002 else if ¬ tot ≤ 12 then r = -1004 else ∃ w9 : Nat → Int32, (∀ j, j < 7 → w9 j = w j) ∧ r = ptV (hoV w9 (pyE p0) un cc) (facN (smN cc)) p1)
    (hM : if (if p0 = 0 then (1 : Int32) else inB p0.toInt64 2 21) = 0 then r' = -1001 else if inB p1.toInt64 0 1 = 0 then r' = -1001 else if un = 0 then r' = -1002 else if ¬ sm10 fs ≤ 12 then r' = -1004 else r' = ptV (hvM (nI tgt) stan soft true p0 wn cc un (decide (nI un = 1))) (facN (smN cc)) p1) : r = r' := by
  have q := inB_0 p0 2 21
  have q : inB p0.toInt64 2 21 = 0 ↔ (p0.toInt < 2 ∨ 21 < p0.toInt) := q
  have t21 : (21 : Int32).toInt = 21 := by decide
  have c0 : (if p0 = 0 then (1 : Int32) else inB p0.toInt64 2 21) = 0 ↔ (p0 < 0 ∨ p0 = 1 ∨ 21 < p0) := by
    by_cases z : p0 = 0
    · subst z
      rw [if_pos rfl]
      exact ⟨fun y => absurd y (by decide), fun y => by rcases y with y | y | y <;> exact absurd y (by decide)⟩
    · have nz : ¬ p0.toInt = 0 := fun h => z (Int32.toInt_inj.mp (h.trans t0.symm))
      rw [if_neg z, q, ltI, ltI, t0, t21]
      constructor
      · intro y
        rcases (show p0.toInt < 0 ∨ p0.toInt = 1 ∨ 21 < p0.toInt by omega) with y | y | y
        · exact Or.inl y
        · exact Or.inr (Or.inl (Int32.toInt_inj.mp (y.trans t1.symm)))
        · exact Or.inr (Or.inr y)
      · intro y
        rcases y with y | y | y
        · omega
        · rw [y, t1]; omega
        · omega
  by_cases a : p0 < 0 ∨ p0 = 1 ∨ 21 < p0
  · rw [if_pos (by rcases a with a | a | a; exact Or.inl a; exact Or.inr (Or.inl a); exact Or.inr (Or.inr (Or.inl a)))] at hX
    rw [if_pos (c0.mpr a)] at hM
    rw [hX, hM]
  rw [if_neg (mt c0.mp a), in_pt] at hM
  by_cases b : ptB p1 = 0
  · rw [if_pos (Or.inr (Or.inr (Or.inr b)))] at hX
    rw [if_pos b] at hM
    rw [hX, hM]
  rw [if_neg (fun z => a (by rcases z with z | z | z | z; exact Or.inl z; exact Or.inr (Or.inl z); exact Or.inr (Or.inr z); exact absurd z b))] at hX
  rw [if_neg b] at hM
  have u0 : up = -1 ↔ un = 0 := by
    rcases iU with ⟨x, y⟩ | ⟨x, y, z⟩
    · exact ⟨fun _ => x, fun _ => y⟩
    · refine ⟨fun g => ?_, fun g => by omega⟩
      rw [z] at g
      have := congrArg Int32.toInt g
      rw [toInt_nI (by omega), show (-1 : Int32).toInt = -1 by decide] at this
      omega
  by_cases c : up = -1
  · rw [if_pos c] at hX
    rw [if_pos (u0.mp c)] at hM
    rw [hX, hM]
  rw [if_neg c] at hX
  rw [if_neg (mt u0.mpr c)] at hM
  have e1 : sm10 fs = tot := by rw [iC.2.2, sm10_N iC.1, sm10_N iC.2.1]
  rw [e1] at hM
  by_cases d : tot ≤ 12
  · rw [if_neg (fun z => z d)] at hX hM
    obtain ⟨w9, h9, e⟩ := hX
    have e0 : w9 0 = nI tgt := (h9 0 (by decide)).trans iR.1
    have e2 : w9 1 = stan := (h9 1 (by decide)).trans iR.2.1
    have e3 : w9 2 = soft := (h9 2 (by decide)).trans iR.2.2.1
    have hw : (w9 0).toInt ≤ 21 := by
      rw [e0, toInt_nI (by have := iR.2.2.2.2.2.2.2.2.1; omega)]
      have := iR.2.2.2.2.2.2.2.2.1
      omega
    have h12 : smN cc ≤ 12 := tot_12 (iC.2.2.trans (sm10_N iC.1)) (smN_le iC.1) d
    have hu : un ≤ 10 := by rcases iU with ⟨x, y⟩ | ⟨x, y, z⟩ <;> omega
    rw [e, hM, ho_ch (wn := wn) hw hu h12, e0, e2, e3]
  · rw [if_pos d] at hX hM
    rw [hX, hM]
