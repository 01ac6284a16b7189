/-! what the tests of the class answer, and what a new object's calls answer -/
def rkB (p : Int32) : Int32 := if p < 1 then 0 else if 10 < p then 0 else 1
def glB (p : Int32) : Int32 := if p < 0 then 0 else if 2 < p then 0 else 1
def acB (p : Int32) : Int32 := if p < 0 then 0 else if 4 < p then 0 else 1
def ptB (p : Int32) : Int32 := if p = 0 then 1 else if p = 1 then 1 else 0
def nuB (p : Int32) : Int32 := if p = 0 then 0 else 1
def inB (v lo hi : Int64) : Int32 := if v < lo then 0 else if hi < v then 0 else 1
theorem rkB_in {p : Int32} (h : ¬ rkB p = 0) : vp_in p 11 := by
  unfold rkB at h
  by_cases h1 : p < 1
  · rw [if_pos h1] at h; exact absurd rfl h
  · by_cases h2 : 10 < p
    · rw [if_neg h1, if_pos h2] at h; exact absurd rfl h
    · exact rk_in h1 h2
def shoeS (p0 p1 : Int32) : Int32 := if rkB p0 = 0 then -1001 else if p1 < 0 then -1001 else if p1 ≤ 32 then 0 else -1001
def ruleS (p0 p1 : Int32) : Int32 := if alw rules0 p0 p1 = 0 then -1001 else rules0 p0.toNatClampNeg
def markS (p0 p1 : Int32) : Int32 := if rkB p0 = 0 then -1001 else if p1 < -3 then -1001 else if p1 ≤ 3 then 0 else -1001
def leftS (p0 : Int32) : Int32 := if p0 = 0 then 0 else if rkB p0 = 0 then -1001 else 0
def takeS (p0 p1 : Int32) : Int32 := if rkB p0 = 0 then -1001 else if glB p1 = 0 then -1001 else -1002
def drawS (p0 : Int32) : Int32 := if glB p0 = 0 then -1001 else -1002
def toldS (p0 : Int32) : Int32 := if p0 = 0 then 0 else if p0 = 1 then 0 else if p0 = 2 then 0 else if p0 = 3 then 0 else if p0 = 4 then 0 else if p0 = 5 then -1 else if p0 = 6 then 0 else if p0 = 7 then 0 else if p0 = 8 then 0 else if p0 < 10 then -1001 else if 22 ≤ p0 then -1001 else -1
def thereS (p0 : Int32) : Int32 := if acB p0 = 0 then -1001 else 0
def worthS (p0 p1 : Int32) : Int64 := if acB p0 = 0 then -1001 else if ptB p1 = 0 then -1001 else -1002
def chanceS (p0 p1 : Int32) : Int64 := if p0 < 0 then -1001 else if p0 = 1 then -1001 else if 21 < p0 then -1001 else if ptB p1 = 0 then -1001 else -1002
def dealS (p0 : Int32) : Int64 := if ptB p0 = 0 then -1001 else -1002
def movedS (p0 p1 : Int32) : Int64 := if rkB p0 = 0 then -1001 else if ptB p1 = 0 then -1001 else -1002
def knownS (p0 p1 : Int32) : Int64 := if rkB p0 = 0 then -1001 else if ptB p1 = 0 then -1001 else if p1 = 0 then 0 else 1
theorem alw_rules0 {w : Nat → Int32} (h : ∀ j, j < 7 → w j = rules0 j) (p0 p1 : Int32) : alw w p0 p1 = alw rules0 p0 p1 := by
  unfold alw
  rw [h 0 (by decide), h 1 (by decide)]
/-- the nest's links, and the word on arrays of arrays -/
def nst (U : State) : Prop := va_Nw (.methodLinkNest "ShoeTable" 9 yX4_init "ShoeTable") U ∧ va_Nw (.methodLinkNest "ShoeTable" 18 yX0_init "ShoeTable") U ∧ va_Nw (.methodLinkNest "ShoeTable" 31 yX1_init "ShoeTable") U ∧ va_Nw (.methodLinkNest "ShoeTable" 42 yX3_init "ShoeTable") U ∧ va_Nw (.methodLinkNest "ShoeTable" 49 yX2_init "ShoeTable") U ∧ va_Nw (.methodLinkNest "ShoeTable$Odds" 11 yX4_init "ShoeTable") U ∧ va_Nw (.methodLinkNest "ShoeTable$Odds" 20 yX0_init "ShoeTable") U ∧ va_Nw (.methodLinkNest "ShoeTable$Odds" 30 yX1_init "ShoeTable") U ∧ va_AOA .long U
theorem va_AOA.moved {u U : State} (hvm : u.vm.Alike U.vm) (h : va_AOA .long u) : va_AOA .long U := Jvm.Stand.arrayOver_alikeB hvm h
theorem nst.warm {s U : State} (hW : s.WarmedH U.vm) (h : nst s) : nst U := by
  obtain ⟨h1, h2, h3, h4, h5, h6, h7, h8, h9⟩ := h
  exact ⟨h1.warmM hW, h2.warmM hW, h3.warmM hW, h4.warmM hW, h5.warmM hW, h6.warmM hW, h7.warmM hW, h8.warmM hW, h9.moved hW.alike⟩
theorem nst.same {U : State} {g : JFrame} {mk : MethodId} {a : Array Value} (h : nst U) : nst (U.calling g mk a) := by
  obtain ⟨h1, h2, h3, h4, h5, h6, h7, h8, h9⟩ := h
  exact ⟨h1.same rfl rfl, h2.same rfl rfl, h3.same rfl rfl, h4.same rfl rfl, h5.same rfl rfl, h6.same rfl rfl, h7.same rfl rfl, h8.same rfl rfl, h9.moved (u := U) (U := U.calling g mk a) (Vm.Alike.refl U.vm)⟩
def mPn (D : va_G) (tys : List (ClassId × FieldType)) (ws : va_W) (sz : Nat) (U : State) : Prop := mP D tys ws sz U ∧ nst U
theorem mPn_preS {As : List Value} {D : va_G} {tys : List (ClassId × FieldType)} {ws : va_W} {A : Nat → Prop} {s : State} {H : Heap} (hP : va_P D vwCl ws H) (hK : va_K D vwCl tys s) (hD : va_D A ws) (hZ : nst s) : PreS s H (va_Pc As (mPn D tys ws H.size)) As :=
  ⟨fun a U g mk h => ⟨h.1, ⟨h.2.1.1, h.2.1.2.1, va_K.moved (u := U) (U := U.calling g mk a) (Vm.Alike.refl U.vm) h.2.1.2.2.1, h.2.1.2.2.2⟩, h.2.2.same⟩, fun U hU hW => ⟨rfl, ⟨by rw [hU], by rw [hU]; exact hP, va_K.moved hW.alike hK, hD.weaken (fun _ _ _ _ => trivial)⟩, hZ.warm hW⟩⟩
theorem newRow (c : ClassId) (n : Nat) : Jvm.Free.Multi.innerC c n (defaultValue .long) = vp_cell c (n, .inr (.inl (fun _ => 0))) := by
  rw [vp_cell_l]
  show ({ cls := c, slots := Array.replicate n (.long 0), vm := .none } : Cell) = _
  rw [arrV_new]
theorem n32i {x y : Int32} (h : ¬ x < y) : y ≤ x := Int32.le_iff_toInt_le.mpr (n32 h)
theorem m10 {x : Int32} (h1 : ¬ x < 10) (h2 : ¬ 22 ≤ x) : ¬ x - 10 < 0 := by
  intro h
  have a := n32 h1
  have b : ¬ (22 : Int32).toInt ≤ x.toInt := fun q => h2 (Int32.le_iff_toInt_le.mpr q)
  have e1 : (10 : Int32).toInt = 10 := by decide
  have e2 : (22 : Int32).toInt = 22 := by decide
  have e0 : (0 : Int32).toInt = 0 := by decide
  rw [e1] at a
  rw [e2] at b
  obtain ⟨j, hj, rfl⟩ := nI_of (x := x) (fun q => by
    have q2 := Int32.lt_iff_toInt_lt.mp q
    rw [e0] at q2
    omega)
  rw [nI_toInt hj] at a b
  have e10 : (10 : Int32) = nI 10 := rfl
  rw [e10, pk_sub (by omega)] at h
  exact nI_pos (by omega) h
theorem ruleS_of {w : Nat → Int32} {p0 p1 r : Int32} {w2 : Nat → Int32} (hw : ∀ j, j < 7 → w j = rules0 j) (h : if alw w p0 p1 = 0 then r = -1001 ∧ w2 = w else r = w p0.toNatClampNeg ∧ w2 = upd w p0.toNatClampNeg p1) : r = ruleS p0 p1 := by
  unfold ruleS
  rw [alw_rules0 hw] at h
  by_cases q : alw rules0 p0 p1 = 0
  · rw [if_pos q] at h ⊢
    exact h.1
  · rw [if_neg q] at h ⊢
    rw [h.1]
    refine hw _ ?_
    have q2 : ¬ p0 < 0 := fun a => q (by unfold alw; rw [if_pos a])
    have q3 : ¬ 6 < p0 := fun a => q (by unfold alw; rw [if_neg q2, if_pos a])
    have := r7_in q2 q3
    unfold vp_in at this
    omega
