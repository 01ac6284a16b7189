/-- a card that is there is taken out: what is left is counted still -/
theorem rm_cnt {f f2 : Nat → Int32} {c : Nat → Nat} {tot tot2 r : Int32} {k : Nat} (hc : cntI f c) (h1 : 1 ≤ k) (h2 : k ≤ 10) (h : r = hdC f (nI k) ∧ if hdC f (nI k) ≤ 0 then tot2 = tot ∧ f2 = f else tot2 = tot - 1 ∧ f2 = upd f (nI k).toNatClampNeg (f (nI k).toNatClampNeg - 1)) (h0 : ¬ f (nI k).toNatClampNeg = 0) :
    ¬ r ≤ 0 ∧ cntI f2 (updN c k (c k - 1)) := by
  have hk := hc k h1 h2
  have e : r = nI (c k) := by rw [h.1, hdC_k h1 h2, hk.1]
  rw [nI_clamp (by omega), hk.1] at h0
  have p : 0 < c k := by
    rcases Nat.eq_zero_or_pos (c k) with z | z
    · rw [z] at h0; exact absurd (show nI 0 = 0 by decide) h0
    · exact z
  have q : ¬ r ≤ 0 := by rw [e]; exact nI_nle p (by omega)
  refine ⟨q, ?_⟩
  rw [(rm_yes h q).2, nI_clamp (by omega)]
  exact cntI_dec hc h1 h2 p
