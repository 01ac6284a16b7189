/-! acts, by the reference's words -/
def isM (n : Nat) (cards : Int32) (sh va t doub spli giv pair p : Int32) : Int32 := if cards = 0 then 0 else if sh = 0 then 0 else if va ≤ t then (if p = 0 then 1 else if p = 1 then (if n ≤ 0 then 0 else if 12 ≤ cards then 0 else 1) else if p = 2 then (if n ≤ 0 then 0 else if cards = 2 then (if doub = 1 then 1 else 0) else 0) else if p = 3 then (if n ≤ 1 then 0 else if pair ≤ 0 then 0 else if spli = 1 then 1 else 0) else (if cards = 2 then (if giv = 1 then 1 else 0) else 0)) else 0
def woM (w : Nat → Int32) (un : Nat) (cap : Nat → Nat) (sN : Nat) (ha : Bool) (h : Nat) (cards pair p : Int32) : Int64 := if p = 0 then stV w un (ofN cap h) (nI (sC cap sN h)) (aC cap ha h) cards else if p = 1 then hsm (DRf w un cap sN ha h) 10 else if p = 2 then 2 * hsm (DBf w un cap sN ha h) 10 else if p = 3 then hsm (smG w un pair (ofN cap h)) 10 else 0 - ord0 (smN (ofN cap h))
theorem fb_cg {th th' : Nat → Bool} {wo wo' : Nat → Int64} : ∀ k, (∀ j, j < k → th j = th' j) → (∀ j, j < k → th j = true → wo j = wo' j) → fbV th wo k = fbV th' wo' k := by
  intro k
  induction k with
  | zero => intro _ _; rfl
  | succ k ih =>
    intro h1 h2
    have e := ih (fun j l => h1 j (by omega)) (fun j l => h2 j (by omega))
    show (if th k then (if (fbV th wo k).1 = -1 ∨ (fbV th wo k).2 < wo k then (nI k, wo k) else fbV th wo k) else fbV th wo k) = (if th' k then (if (fbV th' wo' k).1 = -1 ∨ (fbV th' wo' k).2 < wo' k then (nI k, wo' k) else fbV th' wo' k) else fbV th' wo' k)
    rw [e, h1 k (by omega)]
    by_cases z : th' k = true
    · rw [if_pos z, if_pos z, h2 k (by omega) ((h1 k (by omega)).trans z)]
    · rw [if_neg z, if_neg z]
theorem fb_1 {th : Nat → Bool} {wo : Nat → Int64} : ∀ k, k ≤ 100 → (fbV th wo k).1 = -1 ∨ 0 ≤ (fbV th wo k).1.toInt := by
  intro k
  induction k with
  | zero => intro _; exact Or.inl rfl
  | succ k ih =>
    intro hk
    show (if th k then (if (fbV th wo k).1 = -1 ∨ (fbV th wo k).2 < wo k then (nI k, wo k) else fbV th wo k) else fbV th wo k).1 = -1 ∨ _ ≤ (if th k then (if (fbV th wo k).1 = -1 ∨ (fbV th wo k).2 < wo k then (nI k, wo k) else fbV th wo k) else fbV th wo k).1.toInt
    by_cases z : th k = true
    · rw [if_pos z]
      by_cases y : (fbV th wo k).1 = -1 ∨ (fbV th wo k).2 < wo k
      · rw [if_pos y]
        right
        show 0 ≤ (nI k).toInt
        rw [toInt_nI (by omega)]
        omega
      · rw [if_neg y]; exact ih (by omega)
    · rw [if_neg z]; exact ih (by omega)
theorem neg_1 {A : Int32} (h : A = -1 ∨ 0 ≤ A.toInt) : A < 0 ↔ A = -1 := by
  rw [ltI, t0]
  constructor
  · intro z
    rcases h with h | h
    · exact h
    · omega
  · intro z
    rw [z]
    decide
/-- with one act there (standing), something is best -/
theorem fb_0 {th : Nat → Bool} {wo : Nat → Int64} (h : th 0 = true) : ∀ k, 1 ≤ k → k ≤ 100 → ¬ (fbV th wo k).1 = -1 := by
  intro k
  induction k with
  | zero => intro a; omega
  | succ k ih =>
    intro _ hk
    show ¬ (if th k then (if (fbV th wo k).1 = -1 ∨ (fbV th wo k).2 < wo k then (nI k, wo k) else fbV th wo k) else fbV th wo k).1 = -1
    have nk : ¬ nI k = -1 := fun q => by have := congrArg Int32.toInt q; rw [toInt_nI (by omega), show (-1 : Int32).toInt = -1 by decide] at this; omega
    rcases Nat.eq_zero_or_pos k with z | z
    · subst z
      rw [if_pos h, if_pos (show (fbV th wo 0).1 = -1 ∨ (fbV th wo 0).2 < wo 0 from Or.inl rfl)]
      exact nk
    · by_cases y : th k = true
      · rw [if_pos y]
        by_cases x : (fbV th wo k).1 = -1 ∨ (fbV th wo k).2 < wo k
        · rw [if_pos x]; exact nk
        · rw [if_neg x]; exact ih (by omega) (by omega)
      · rw [if_neg y]; exact ih (by omega) (by omega)
theorem fb_none {th : Nat → Bool} {wo : Nat → Int64} : ∀ k, (∀ j, j < k → th j = false) → fbV th wo k = (-1, 0) := by
  intro k
  induction k with
  | zero => intro _; rfl
  | succ k ih =>
    intro h
    show (if th k then _ else fbV th wo k) = _
    rw [h k (by omega)]
    exact ih (fun j l => h j (by omega))
/-! a full heap: no card has come yet -/
section Full
variable {w : Nat → Int32} {un : Nat} {cap : Nat → Nat} {sN : Nat} {ha : Bool}
theorem full_c : ∀ j, 1 ≤ j → j ≤ 10 → ofN cap (hpN cap 10 - 1) j = cap j := fun _ a b => ofN_full a b
theorem full_s : sC cap sN (hpN cap 10 - 1) = sN := by
  unfold sC
  rw [ptK_cg full_c 10 (by omega), ptK_self]
  rfl
theorem full_a : aC cap ha (hpN cap 10 - 1) = ha := by
  unfold aC
  rw [ofN_full (by omega) (by omega), decide_eq_false (Nat.lt_irrefl _), Bool.or_false]
theorem full_z : zC cap (hpN cap 10 - 1) = 2 := by
  unfold zC
  rw [smN_cg full_c, Nat.sub_self]
theorem full_VA : VA w cap sN ha (hpN cap 10 - 1) = vlC w (nI sN) ha := by
  unfold VA
  rw [full_s, full_a]
theorem drF_cg {c c' : Nat → Nat} {s z : Int32} {a : Bool} (h : ∀ j, 1 ≤ j → j ≤ 10 → c j = c' j) : hsm (drF w un c s a z) 10 = hsm (drF w un c' s a z) 10 := by
  refine hsm_cg 10 (fun r x y => ?_)
  unfold drF
  rw [h r x y, smN_cg h, plV_cg _ _ _ _ _ _ (updN_cg h (rfl : c' r - 1 = c' r - 1))]
theorem dbF_cg {c c' : Nat → Nat} {s z : Int32} {a : Bool} (h : ∀ j, 1 ≤ j → j ≤ 10 → c j = c' j) : hsm (dbF w un c s a z) 10 = hsm (dbF w un c' s a z) 10 := by
  refine hsm_cg 10 (fun r x y => ?_)
  unfold dbF
  rw [h r x y, stV_cg (updN_cg h (rfl : c' r - 1 = c' r - 1))]
theorem smG_cg {c c' : Nat → Nat} {card : Int32} (h : ∀ j, 1 ≤ j → j ≤ 10 → c j = c' j) : hsm (smG w un card c) 10 = hsm (smG w un card c') 10 := by
  refine hsm_cg 10 (fun k x y => ?_)
  unfold smG
  have h1 := updN_cg (r := k) h (rfl : c' k - 1 = c' k - 1)
  rw [h k x y]
  by_cases z : c' k = 0
  · rw [if_pos z, if_pos z]
  · rw [if_neg z, if_neg z]
    refine hsm_cg 10 (fun j p q => ?_)
    unfold smF xS
    rw [h1 j p q, ho_cg (updN_cg h1 (rfl : updN c' k (c' k - 1) j - 1 = updN c' k (c' k - 1) j - 1))]
/-- the acts of two cards: both sides' worths -/
theorem wo_ac {card pair : Int32} {k : Nat} (hc : smN cap ≤ 12) (hs : sN ≤ 120) (hv : vlC w (nI sN) ha ≤ w 0) (hk : k < 5) (hp : k = 3 → pair = card) : woM w un cap sN ha (hpN cap 10 - 1) 2 pair (nI k) = acV w un cap (nI sN) ha 2 card (nI k) := by
  have bu := (bu_i2 (w := w) (s := nI sN) (a := ha) (by rw [toInt_nI (by omega)]; omega) (by rw [toInt_nI (by omega)]; omega)).mpr hv
  rcases (show k = 0 ∨ k = 1 ∨ k = 2 ∨ k = 3 ∨ k = 4 by omega) with rfl | rfl | rfl | rfl | rfl
  · unfold woM acV
    rw [if_pos (by decide), if_pos (by decide), full_s, full_a, stV_cg full_c]
  · unfold woM acV
    rw [if_neg (by decide), if_pos (by decide), if_neg (by decide), if_pos (by decide)]
    unfold plR DRf
    rw [if_pos (ixC_self cap), if_pos bu, full_s, full_a, full_z, drF_cg full_c]
    rfl
  · unfold woM acV
    rw [if_neg (by decide), if_neg (by decide), if_pos (by decide), if_neg (by decide), if_neg (by decide), if_pos (by decide)]
    unfold DBf
    rw [full_s, full_a, dbF_cg full_c]
  · unfold woM acV
    rw [if_neg (by decide), if_neg (by decide), if_neg (by decide), if_pos (by decide), if_neg (by decide), if_neg (by decide), if_neg (by decide), if_pos (by decide), sp_both, smG_cg full_c, hp rfl]
  · unfold woM acV
    rw [if_neg (by decide), if_neg (by decide), if_neg (by decide), if_neg (by decide), if_neg (by decide), if_neg (by decide), if_neg (by decide), if_neg (by decide), smN_cg full_c]
    rw [Int64.zero_sub, show (-1 : Int64) = -1 from rfl, Int64.neg_mul, Int64.one_mul]
end Full
