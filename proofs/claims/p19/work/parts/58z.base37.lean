/-! known: both answers are one -/
theorem lk_known {ff fm fg fw mk mm : Nat → Int32} {totf totg p0 p1 : Int32} {told : Bool} {cf cg : Nat → Nat} {r r' : Int64} (iF : LkC ff fm totf cf) (iG : LkG fg fw totg) (iM : LkM mk mm) (hcg0 : told = false → ∀ j, 1 ≤ j → j ≤ 10 → fw j = nI (cg j) ∧ cg j ≤ cf j)
    (hX : if rkB p0 = 0 then r = -1001 else if ptB p1 = 0 then r = -1001 else if told = true then r = -1002 else if 60 < totf ∨ ¬ totg ≤ 8 then r = -1004 else r = (if cf p0.toNatClampNeg = 0 then ptV 0 1 p1 else knV p0.toNatClampNeg p1 mk cf cg))
    (hM : if inB p0.toInt64 1 10 = 0 then r' = -1001 else if inB p1.toInt64 0 1 = 0 then r' = -1001 else if told = true then r' = -1002 else if 60 < sm10 fm ∨ ¬ smN cg ≤ 8 then r' = -1004 else r' = knV p0.toNatClampNeg p1 mm cf cg) : r = r' := by
  rw [in_rk, in_pt] at hM
  by_cases a : rkB p0 = 0
  · rw [if_pos a] at hX hM; rw [hX, hM]
  rw [if_neg a] at hX hM
  by_cases b : ptB p1 = 0
  · rw [if_pos b] at hX hM; rw [hX, hM]
  rw [if_neg b] at hX hM
  by_cases c : told = true
  · rw [if_pos c] at hX hM; rw [hX, hM]
  rw [if_neg c] at hX hM
  have c0 : told = false := by cases told with | false => rfl | true => exact absurd rfl c
  have hcg := hcg0 c0
  have hc32 : ∀ j, 1 ≤ j → j ≤ 10 → cf j ≤ 32 := fun j x y => (iF.1 j x y).2
  have hcg2 : cntI fg cg := fun j x y => ⟨(iG.1 j x y).symm.trans (hcg j x y).1, Nat.le_trans (hcg j x y).2 (hc32 j x y)⟩
  have e1 : sm10 fm = totf := by rw [iF.2.2, sm10_N iF.1, sm10_N iF.2.1]
  have e2 : totg ≤ 8 ↔ smN cg ≤ 8 := by rw [iG.2, sm10_N hcg2]; exact nI_leI (a := smN cg) (b := 8) (by have := smN_le hcg2; omega) (by decide)
  by_cases d : 60 < totf ∨ ¬ totg ≤ 8
  · have d2 : 60 < sm10 fm ∨ ¬ smN cg ≤ 8 := by rw [e1, ← e2]; exact d
    rw [if_pos d] at hX
    rw [if_pos d2] at hM
    rw [hX, hM]
  have d2 : ¬ (60 < sm10 fm ∨ ¬ smN cg ≤ 8) := by rw [e1, ← e2]; exact d
  rw [if_neg d] at hX
  rw [if_neg d2] at hM
  rw [hX, hM, ← knV_cg (fun j x y => (iM j x y).1)]
  by_cases z : cf p0.toNatClampNeg = 0
  · rw [if_pos z]
    obtain ⟨k, k1, k2, rfl⟩ := rk_nat a
    rw [nI_clamp (by omega)] at z ⊢
    have g8 : smN cg ≤ 8 := Decidable.byContradiction (fun y => d2 (Or.inr y))
    have h60 : smN cf ≤ 60 := sm60i iF.1 (fun y => d (Or.inl (by rw [iF.2.2]; exact y)))
    have hb := kn_b (mk := fun j => (mk j).toInt) (s := mkS mk cg 10) hc32 h60 g8 k1 k2
    unfold knV
    rw [z, Nat.zero_mul]
    exact (pt_0 (kn_pos (fun j x y => (hcg j x y).2)) hb.1).symm
  · rw [if_neg z]
