/-! deal: both answers are one -/
def BnI (bon : Int32) : Prop := 2 ≤ bon.toInt ∧ bon.toInt ≤ 4
theorem lk_bon {tgt : Nat} {stan soft doub spli giv bon targ2 stan2 soft2 doub2 spli2 giv2 bon2 p0 p1 r' : Int32} (iB : BnI bon)
    (hM : if inB p0.toInt64 0 6 = 0 then r' = -1001 ∧ targ2 = nI tgt ∧ stan2 = stan ∧ soft2 = soft ∧ doub2 = doub ∧ spli2 = spli ∧ giv2 = giv ∧ bon2 = bon else if rlM p0 p1 (nI tgt) stan = 0 then r' = -1001 ∧ targ2 = nI tgt ∧ stan2 = stan ∧ soft2 = soft ∧ doub2 = doub ∧ spli2 = spli ∧ giv2 = giv ∧ bon2 = bon else
      r' = (if p0 = 0 then nI tgt else if p0 = 1 then stan else if p0 = 2 then soft else if p0 = 3 then doub else if p0 = 4 then spli else if p0 = 5 then giv else bon) ∧ targ2 = (if p0 = 0 then p1 else nI tgt) ∧ stan2 = (if p0 = 1 then p1 else stan) ∧ soft2 = (if p0 = 2 then p1 else soft) ∧ doub2 = (if p0 = 3 then p1 else doub) ∧ spli2 = (if p0 = 4 then p1 else spli) ∧ giv2 = (if p0 = 5 then p1 else giv) ∧ bon2 = (if p0 = 0 ∨ p0 = 1 ∨ p0 = 2 ∨ p0 = 3 ∨ p0 = 4 ∨ p0 = 5 then bon else p1)) : BnI bon2 := by
  have q := inB_0 p0 0 6
  have q : inB p0.toInt64 0 6 = 0 ↔ (p0.toInt < 0 ∨ 6 < p0.toInt) := q
  by_cases a : inB p0.toInt64 0 6 = 0
  · rw [if_pos a] at hM
    rw [hM.2.2.2.2.2.2.2]; exact iB
  · rw [if_neg a] at hM
    by_cases b : rlM p0 p1 (nI tgt) stan = 0
    · rw [if_pos b] at hM
      rw [hM.2.2.2.2.2.2.2]; exact iB
    · rw [if_neg b] at hM
      have e := hM.2.2.2.2.2.2.2
      by_cases c : p0 = 0 ∨ p0 = 1 ∨ p0 = 2 ∨ p0 = 3 ∨ p0 = 4 ∨ p0 = 5
      · rw [if_pos c] at e
        rw [e]; exact iB
      · rw [if_neg c] at e
        have q2 := mt q.mpr a
        have n : ∀ k : Int32, (p0 = k → False) → ¬ p0.toInt = k.toInt := fun k h z => h (Int32.toInt_inj.mp z)
        have n0 := n 0 (fun z => c (Or.inl z))
        have n1 := n 1 (fun z => c (Or.inr (Or.inl z)))
        have n2 := n 2 (fun z => c (Or.inr (Or.inr (Or.inl z))))
        have n3 := n 3 (fun z => c (Or.inr (Or.inr (Or.inr (Or.inl z)))))
        have n4 := n 4 (fun z => c (Or.inr (Or.inr (Or.inr (Or.inr (Or.inl z))))))
        have n5 := n 5 (fun z => c (Or.inr (Or.inr (Or.inr (Or.inr (Or.inr z))))))
        rw [show (0 : Int32).toInt = 0 by decide] at n0
        rw [show (1 : Int32).toInt = 1 by decide] at n1
        rw [show (2 : Int32).toInt = 2 by decide] at n2
        rw [show (3 : Int32).toInt = 3 by decide] at n3
        rw [show (4 : Int32).toInt = 4 by decide] at n4
        rw [show (5 : Int32).toInt = 5 by decide] at n5
        have e6 : p0 = 6 := Int32.toInt_inj.mp (by rw [show (6 : Int32).toInt = 6 by decide]; omega)
        subst e6
        unfold rlM at b
        rw [if_pos (by decide), if_pos (by decide)] at b
        have r := inB_0 p1 2 4
        have r : inB p1.toInt64 2 4 = 0 ↔ (p1.toInt < 2 ∨ 4 < p1.toInt) := r
        have r2 := mt r.mpr b
        rw [e]
        unfold BnI
        omega
theorem lk_deal {w f fs : Nat → Int32} {tot p0 : Int32} {cc : Nat → Nat} {r r' : Int64} (iC : LkC f fs tot cc)
    (hX : if ptB p0 = 0 then r = -1001 else if ¬ 3 ≤ tot then r = -1002 else if ¬ tot ≤ 8 then r = -1004 else ∃ w9 : Nat → Int32, w7 w9 w ∧ r = ptV (hsm (dlA w9 cc) 10) (facN (smN cc)) p0)
    (hM : if inB p0.toInt64 0 1 = 0 then r' = -1001 else if ¬ 3 ≤ sm10 fs then r' = -1002 else if ¬ sm10 fs ≤ 8 then r' = -1004 else r' = ptV (hsm (dlA w cc) 10) (facN (smN cc)) p0) : r = r' := by
  have e1 : sm10 fs = tot := by rw [iC.2.2, sm10_N iC.1, sm10_N iC.2.1]
  rw [in_pt, e1] at hM
  by_cases a : ptB p0 = 0
  · rw [if_pos a] at hX hM; rw [hX, hM]
  rw [if_neg a] at hX hM
  by_cases b : ¬ 3 ≤ tot
  · rw [if_pos b] at hX hM; rw [hX, hM]
  rw [if_neg b] at hX hM
  by_cases c : ¬ tot ≤ 8
  · rw [if_pos c] at hX hM; rw [hX, hM]
  rw [if_neg c] at hX hM
  obtain ⟨w9, h9, e⟩ := hX
  rw [e, hM, dlA_w h9]
