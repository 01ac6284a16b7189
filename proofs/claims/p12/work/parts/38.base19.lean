theorem in11 {p : Int32} (h : ¬ inB p.toInt64 1 10 = 0) : vp_in p 11 := rkB_in (by rw [← in_rk]; exact h)
theorem hn_in {n : Nat} (h : n ≤ 12) (h2 : ¬ n = 12) : vp_in (nI n) 12 := vp_in_nI (by omega) (by decide)
/-- what the reference tells -/
def tldM (t : Int32) (n : Nat) (g : Nat → Int32) (up : Int32) (mm fw : Nat → Int32) (bank p : Int32) : Int32 :=
  if p = 0 then nI n else if p = 1 then vlM t (hsN g n) (haN g n) else if p = 2 then (if vlM t (hsN g n) (haN g n) ≤ hsN g n then 0 else 1) else if p = 3 then (if bI (naM t (vlM t (hsN g n) (haN g n)) (nI n)) = 0 then 0 else 1) else
  if p = 4 then (if vlM t (hsN g n) (haN g n) ≤ t then 0 else 1) else if p = 5 then (if up ≤ 0 then -1 else up) else if p = 6 then cntG mm fw else if p = 7 then bank else if p = 8 then sm10 fw else
  if inB p.toInt64 10 21 = 0 then -1001 else if nI n ≤ p - 10 then -1 else g (p - 10).toNatClampNeg
theorem told_in {p : Int32} {n : Nat} (h : ¬ inB p.toInt64 10 21 = 0) : vp_in (p - 10) 12 := by
  have q := inB_0 p 10 21
  have q : inB p.toInt64 10 21 = 0 ↔ (p.toInt < 10 ∨ 21 < p.toInt) := q
  have := mt q.mpr h
  rw [vp_in_iff, i32_sub (by rw [t10]; omega) (by rw [t10]; omega), t10]
  omega
/-- whether an act is there: the reference's words -/
def thM (t : Int32) (n : Nat) (g : Nat → Int32) (up all db sp gv p : Int32) : Int32 :=
  if n = 0 then 0 else if up = 0 then 0 else if vlM t (hsN g n) (haN g n) ≤ t then
    (if p = 0 then 1 else if p = 1 then (if all ≤ 0 then 0 else if 12 ≤ n then 0 else 1) else if p = 2 then (if all ≤ 0 then 0 else if n = 2 then (if db = 1 then 1 else 0) else 0) else
     if p = 3 then (if all ≤ 1 then 0 else if n = 2 then (if g 0 = g 1 then (if sp = 1 then 1 else 0) else 0) else 0) else if n = 2 then (if gv = 1 then 1 else 0) else 0) else 0
theorem thM_01 (t : Int32) (n : Nat) (g : Nat → Int32) (up all db sp gv p : Int32) : thM t n g up all db sp gv p = 0 ∨ thM t n g up all db sp gv p = 1 := by
  unfold thM
  repeat' (first | exact Or.inl rfl | exact Or.inr rfl | apply ite01)
/-- whether a rule may be so: the reference's words -/
def rlM (p v t s : Int32) : Int32 := if 2 ≤ p then (if 6 ≤ p then inB v.toInt64 2 4 else inB v.toInt64 0 1) else (if inB ((if p = 0 then v else t).toInt64) 11 21 = 0 then 0 else if inB ((if p = 1 then v else s).toInt64) 10 ((if p = 0 then v else t).toInt64) = 0 then 0 else 1)
theorem sm_ne {f : Nat → Int32} {cc : Nat → Nat} (hc : cntI f cc) (h : ¬ sm10 f = 0) : 0 < smN cc := by
  rcases Nat.eq_zero_or_pos (smN cc) with z | z
  · exact absurd (by rw [sm10_N hc, z]; decide) h
  · exact z
