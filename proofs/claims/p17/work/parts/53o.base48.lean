/-! a split, both ways -/
def xS (w : Nat → Int32) (un : Nat) (card : Int32) (k : Nat) (c : Nat → Nat) : Int64 := hoV w (pyS w (vlS w card k) false) un c
def smF (w : Nat → Int32) (un : Nat) (card : Int32) (n k : Nat) (c : Nat → Nat) : Nat → Int64 := fun j => if c j = 0 then 0 else 2 * lN (n * c j) * xS w un card k (updN c j (c j - 1))
def smG (w : Nat → Int32) (un : Nat) (card : Int32) (c : Nat → Nat) : Nat → Int64 := fun k => if c k = 0 then 0 else hsm (smF w un card (c k) k (updN c k (c k - 1))) 10
theorem stF_v {w : Nat → Int32} {v e : Int32} : stC w v false e = -2 ∨ stC w v false e = 0 ∨ stC w v false e = 2 := by
  unfold stC
  by_cases a : w 0 < v
  · rw [if_pos a]; exact Or.inl rfl
  · rw [if_neg a]
    by_cases b : e ≤ v
    · rw [if_pos b]
      by_cases c : e = v
      · rw [if_pos c]; exact Or.inr (Or.inl rfl)
      · rw [if_neg c, if_pos (by decide)]; exact Or.inr (Or.inr rfl)
    · rw [if_neg b]; exact Or.inl rfl
theorem py_add {w : Nat → Int32} {v v' : Int32} (j : Nat) : pyB w v v' j = pyS w v false j + pyS w v' false j := by
  unfold pyB pyS
  rcases stF_v (w := w) (v := v) (e := nI j) with h | h | h <;> rcases stF_v (w := w) (v := v') (e := nI j) with k | k | k <;> rw [h, k] <;> decide
theorem ho_add {w : Nat → Int32} {v v' : Int32} {un : Nat} {c : Nat → Nat} : hoV w (pyB w v v') un c = hoV w (pyS w v false) un c + hoV w (pyS w v' false) un c := by
  unfold hoV
  refine hv_add _ c un _ (fun y b _ => ?_)
  unfold scC
  exact py_add _
theorem ho_cg {w : Nat → Int32} {py : Nat → Int64} {un : Nat} {c c' : Nat → Nat} (h : ∀ j, 1 ≤ j → j ≤ 10 → c j = c' j) : hoV w py un c = hoV w py un c' := by
  unfold hoV
  rw [smN_cg h, hv_cg _ c c' _ _ h]
/-- what a busted hand is paid -/
theorem ho_bu {w : Nat → Int32} {v : Int32} {un : Nat} {c : Nat → Nat} (hv : w 0 < v) (hc : smN c ≤ 12) : hoV w (pyS w v false) un c = (-2) * ord0 (smN c) := by
  unfold hoV
  refine hv_k _ c un _ (fun y b _ => ?_) rfl hc
  unfold scC pyS stC
  rw [if_pos hv]
  decide
def xG (w : Nat → Int32) (un : Nat) (card : Int32) (c : Nat → Nat) (a b : Nat) : Int64 := if c a = 0 then 0 else if updN c a (c a - 1) b = 0 then 0 else lN (c a * updN c a (c a - 1) b) * xS w un card a (updN (updN c a (c a - 1)) b (updN c a (c a - 1) b - 1))
def xH (w : Nat → Int32) (un : Nat) (card : Int32) (c : Nat → Nat) (a b : Nat) : Int64 := if c a = 0 then 0 else if updN c a (c a - 1) b = 0 then 0 else lN (c a * updN c a (c a - 1) b) * xS w un card b (updN (updN c a (c a - 1)) b (updN c a (c a - 1) b - 1))
theorem xH_s {w : Nat → Int32} {un : Nat} {card : Int32} {c : Nat → Nat} (a b : Nat) : xH w un card c a b = xG w un card c b a := by
  by_cases e : a = b
  · subst e; rfl
  · have u1 : updN c a (c a - 1) b = c b := by unfold updN; rw [if_neg (fun q => e q.symm)]
    have u2 : updN c b (c b - 1) a = c a := by unfold updN; rw [if_neg e]
    have u3 : updN (updN c a (c a - 1)) b (c b - 1) = updN (updN c b (c b - 1)) a (c a - 1) := by
      funext j
      unfold updN
      by_cases p : j = a
      · rw [if_neg (fun q => e (p.symm.trans q)), if_pos p, if_pos p]
      · by_cases q : j = b
        · rw [if_pos q, if_neg p, if_pos q]
        · rw [if_neg q, if_neg p, if_neg p, if_neg q]
    unfold xH xG
    rw [u1, u2, u3, Nat.mul_comm (c a)]
    by_cases z1 : c a = 0
    · rw [if_pos z1]
      by_cases z2 : c b = 0
      · rw [if_pos z2]
      · rw [if_neg z2, if_pos z1]
    · rw [if_neg z1, if_neg z1]
theorem sp_both {w : Nat → Int32} {un : Nat} {card : Int32} {c : Nat → Nat} : hsm (spG w un card c) 10 = hsm (smG w un card c) 10 := by
  have e1 : ∀ a, spG w un card c a = hsm (xG w un card c a) 10 + hsm (xH w un card c a) 10 := by
    intro a
    rw [← hsm_add]
    unfold spG
    by_cases z : c a = 0
    · rw [if_pos z, hsm_z 10 (fun r _ _ => by show xG w un card c a r + xH w un card c a r = 0; unfold xG xH; rw [if_pos z, if_pos z]; rfl)]
    · rw [if_neg z]
      refine hsm_cg 10 (fun b _ _ => ?_)
      show spF w un card (c a) a (updN c a (c a - 1)) b = xG w un card c a b + xH w un card c a b
      unfold spF xG xH xS
      rw [if_neg z, if_neg z]
      by_cases y : updN c a (c a - 1) b = 0
      · rw [if_pos y, if_pos y, if_pos y]; rfl
      · rw [if_neg y, if_neg y, if_neg y, ho_add, lN_mul, Int64.mul_add]
  have e2 : ∀ a, smG w un card c a = hsm (xG w un card c a) 10 + hsm (xG w un card c a) 10 := by
    intro a
    rw [← hsm_add]
    unfold smG
    by_cases z : c a = 0
    · rw [if_pos z, hsm_z 10 (fun r _ _ => by show xG w un card c a r + xG w un card c a r = 0; unfold xG; rw [if_pos z]; rfl)]
    · rw [if_neg z]
      refine hsm_cg 10 (fun b _ _ => ?_)
      show smF w un card (c a) a (updN c a (c a - 1)) b = xG w un card c a b + xG w un card c a b
      unfold smF xG
      rw [if_neg z]
      by_cases y : updN c a (c a - 1) b = 0
      · rw [if_pos y, if_pos y]; rfl
      · rw [if_neg y, if_neg y, ← Int64.add_mul]
        congr 1
        rw [show (2 : Int64) = 1 + 1 by decide, Int64.add_mul, Int64.one_mul]
  rw [hsm_cg 10 (fun a _ _ => e1 a), hsm_cg 10 (fun a _ _ => e2 a)]
  show hsm (fun a => hsm (xG w un card c a) 10 + hsm (xH w un card c a) 10) 10 = hsm (fun a => hsm (xG w un card c a) 10 + hsm (xG w un card c a) 10) 10
  have e3 : hsm (fun a => hsm (xH w un card c a) 10) 10 = hsm (fun a => hsm (xG w un card c a) 10) 10 := by
    have q := hsm_swap (fun a b => xH w un card c a b) 10 10
    rw [q]
    exact hsm_cg 10 (fun b _ _ => hsm_cg 10 (fun a _ _ => xH_s a b))
  rw [hsm_add, hsm_add, e3]
theorem vlM_C {w : Nat → Int32} {tg : Nat} {s : Int32} {a : Bool} (e : w 0 = nI tg) : vlM (nI tg) s a = vlC w s a := by unfold vlC; rw [e]; rfl
/-- two cards less: the heap's number, and what is in it -/
theorem sp_h {cap stp siz pts : Nat → Nat} {hp a b : Nat} (hL : LaidP cap stp hp siz pts) (a1 : 1 ≤ a) (a2 : a ≤ 10) (b1 : 1 ≤ b) (b2 : b ≤ 10) (ha : 0 < ofN cap (hp - 1) a) (hb : 0 < updN (ofN cap (hp - 1)) a (ofN cap (hp - 1) a - 1) b) :
    ∀ q, 1 ≤ q → q ≤ 10 → ofN cap (hp - 1 - stp a - stp b) q = updN (updN (ofN cap (hp - 1)) a (ofN cap (hp - 1) a - 1)) b (updN (ofN cap (hp - 1)) a (ofN cap (hp - 1) a - 1) b - 1) q := by
  have hp1 := hL.hp
  have ep := hL.2.2.1
  have d1 := ofN_dec (cap := cap) (h := hp - 1) (by omega) a1 a2 ha
  have eb : ofN cap (hp - 1 - hpN cap (a - 1)) b = updN (ofN cap (hp - 1)) a (ofN cap (hp - 1) a - 1) b := d1.2 b b1 b2
  have d2 := ofN_dec (cap := cap) (h := hp - 1 - hpN cap (a - 1)) (by omega) b1 b2 (by omega)
  intro q q1 q2
  rw [hL.2.1 a a1 a2, hL.2.1 b b1 b2, d2.2 q q1 q2]
  exact updN_cg d1.2 (by rw [eb]) q q1 q2
theorem sm_y {w : Nat → Int32} {un : Nat} {card : Int32} {n k j : Nat} {c : Nat → Nat} {x : Int64} (hp : 0 < c j) (hb : n * c j < 2 ^ 31) (ex : x = xS w un card k (updN c j (c j - 1))) : smF w un card n k c j = (2 * (nI (n * c j)).toInt64) * x := by
  unfold smF
  rw [if_neg (by omega), nI_l hb, ex]
theorem sm_n {w : Nat → Int32} {un : Nat} {card : Int32} {n k j : Nat} {c : Nat → Nat} (hn : 0 < n) (h : n * c j ≤ 0) : smF w un card n k c j = 0 := by
  have z : c j = 0 := by
    rcases Nat.eq_zero_or_pos (c j) with z | z
    · exact z
    · have := Nat.mul_pos hn z; omega
  unfold smF
  rw [if_pos z]
