/-! what the tests of the class answer, and what a new object's calls answer -/
def rkB (p : Int32) : Int32 := if p < 1 then 0 else if 10 < p then 0 else 1
def glB (p : Int32) : Int32 := if p < 0 then 0 else if 2 < p then 0 else 1
def acB (p : Int32) : Int32 := if p < 0 then 0 else if 4 < p then 0 else 1
def ptB (p : Int32) : Int32 := if p = 0 then 1 else if p = 1 then 1 else 0
def nuB (p : Int32) : Int32 := if p = 0 then 0 else 1
def inB (v lo hi : Int64) : Int32 := if v < lo then 0 else if hi < v then 0 else 1
theorem rkB_in {p : Int32} (h : ¬ rkB p = 0) : vp_in p 11 := by
  unfold rkB at h
  by_cases h1 : p < 1
  · rw [if_pos h1] at h; exact absurd rfl h
  · by_cases h2 : 10 < p
    · rw [if_neg h1, if_pos h2] at h; exact absurd rfl h
    · exact rk_in h1 h2
def shoeS (p0 p1 : Int32) : Int32 := if rkB p0 = 0 then -1001 else if p1 < 0 then -1001 else if p1 ≤ 32 then 0 else -1001
def ruleS (p0 p1 : Int32) : Int32 := if alw rules0 p0 p1 = 0 then -1001 else rules0 p0.toNatClampNeg
def markS (p0 p1 : Int32) : Int32 := if rkB p0 = 0 then -1001 else if p1 < -3 then -1001 else if p1 ≤ 3 then 0 else -1001
def leftS (p0 : Int32) : Int32 := if p0 = 0 then 0 else if rkB p0 = 0 then -1001 else 0
def takeS (p0 p1 : Int32) : Int32 := if rkB p0 = 0 then -1001 else if glB p1 = 0 then -1001 else -1002
def drawS (p0 : Int32) : Int32 := if glB p0 = 0 then -1001 else -1002
def toldS (p0 : Int32) : Int32 := if p0 = 0 then 0 else if p0 = 1 then 0 else if p0 = 2 then 0 else if p0 = 3 then 0 else if p0 = 4 then 0 else if p0 = 5 then -1 else if p0 = 6 then 0 else if p0 = 7 then 0 else if p0 = 8 then 0 else if p0 < 10 then -1001 else if 22 ≤ p0 then -1001 else -1
def thereS (p0 : Int32) : Int32 := if acB p0 = 0 then -1001 else 0
def worthS (p0 p1 : Int32) : Int64 := if acB p0 = 0 then -1001 else if ptB p1 = 0 then -1001 else -1002
def chanceS (p0 p1 : Int32) : Int64 := if p0 < 0 then -1001 else if p0 = 1 then -1001 else if 21 < p0 then -1001 else if ptB p1 = 0 then -1001 else -1002
def dealS (p0 : Int32) : Int64 := if ptB p0 = 0 then -1001 else -1002
def movedS (p0 p1 : Int32) : Int64 := if rkB p0 = 0 then -1001 else if ptB p1 = 0 then -1001 else -1002
def knownS (p0 p1 : Int32) : Int64 := if rkB p0 = 0 then -1001 else if ptB p1 = 0 then -1001 else if p1 = 0 then 0 else 1
theorem alw_rules0 {w : Nat → Int32} (h : ∀ j, j < 7 → w j = rules0 j) (p0 p1 : Int32) : alw w p0 p1 = alw rules0 p0 p1 := by
  unfold alw
  rw [h 0 (by decide), h 1 (by decide)]
/-- the nest's links, and the word on arrays of arrays -/
def nst (U : State) : Prop := va_Nw (.methodLinkNest "ShoeTable" 9 yX4_init "ShoeTable") U ∧ va_Nw (.methodLinkNest "ShoeTable" 18 yX0_init "ShoeTable") U ∧ va_Nw (.methodLinkNest "ShoeTable" 31 yX1_init "ShoeTable") U ∧ va_Nw (.methodLinkNest "ShoeTable" 42 yX3_init "ShoeTable") U ∧ va_Nw (.methodLinkNest "ShoeTable" 49 yX2_init "ShoeTable") U ∧ va_Nw (.methodLinkNest "ShoeTable$Odds" 11 yX4_init "ShoeTable") U ∧ va_Nw (.methodLinkNest "ShoeTable$Odds" 20 yX0_init "ShoeTable") U ∧ va_Nw (.methodLinkNest "ShoeTable$Odds" 30 yX1_init "ShoeTable") U ∧ va_AOA .long U
theorem va_AOA.moved {u U : State} (hvm : u.vm.Alike U.vm) (h : va_AOA .long u) : va_AOA .long U := by
  obtain ⟨comp, c, k, h1, h2, h3, h4, h5⟩ := Cond.arrayOver_spec h
  obtain ⟨k', hk', he⟩ := hvm.2.2 _ _ h3
  have hi : (U.vm.classes.findIdx? fun (x : Class) => match x.kind with | .array component _ => component == comp | _ => false) = some c := by
    rw [← va_idx_bare]
    first | rw [hvm.bare_eq] | rw [← hvm.bare_eq]
    rw [va_idx_bare]
    exact h2
  have hkind : k'.kind = .array comp (.array .long) := by rw [he]; exact h4
  have f1 : U.vm.findClass "[J" = some comp := by rw [hvm.findClass]; exact h1
  have f2 : U.vm.findClass ("[" ++ (FieldType.array .long).toString) = some c := by rw [hvm.findClass]; exact h5
  unfold va_AOA Cond.before Cond.holds
  simp only [Cond.value]
  have f1' : U.vm.findClass (FieldType.array .long).toString = some comp := f1
  first
    | (rw [f1', Option.bind_some]
       refine (congrArg (fun o : Option Nat => (o.bind (fun c => (U.vm.classes[c]?).map fun (k : Class) => match k.kind with | .array _ ty => decide (ty = FieldType.array .long) && decide (U.vm.findClass ("[" ++ (FieldType.array .long).toString) = some c) | _ => false) == some true)) hi).trans ?_
       simp [hk', hkind, f2])
    | (rw [f1, Option.bind_some]
       refine (congrArg (fun o : Option Nat => (o.bind (fun c => (U.vm.classes[c]?).map fun (k : Class) => match k.kind with | .array _ ty => decide (ty = FieldType.array .long) && decide (U.vm.findClass ("[" ++ (FieldType.array .long).toString) = some c) | _ => false) == some true)) hi).trans ?_
       simp [hk', hkind, f2])
theorem nst.warm {s U : State} (hW : s.WarmedH U.vm) (h : nst s) : nst U := by
  obtain ⟨h1, h2, h3, h4, h5, h6, h7, h8, h9⟩ := h
  exact ⟨h1.warmM hW, h2.warmM hW, h3.warmM hW, h4.warmM hW, h5.warmM hW, h6.warmM hW, h7.warmM hW, h8.warmM hW, h9.moved hW.alike⟩
theorem nst.same {U : State} {g : JFrame} {mk : MethodId} {a : Array Value} (h : nst U) : nst (U.calling g mk a) := by
  obtain ⟨h1, h2, h3, h4, h5, h6, h7, h8, h9⟩ := h
  exact ⟨h1.same rfl rfl, h2.same rfl rfl, h3.same rfl rfl, h4.same rfl rfl, h5.same rfl rfl, h6.same rfl rfl, h7.same rfl rfl, h8.same rfl rfl, h9.moved (u := U) (U := U.calling g mk a) (Vm.Alike.refl U.vm)⟩
def mPn (D : va_G) (tys : List (ClassId × FieldType)) (ws : va_W) (sz : Nat) (U : State) : Prop := mP D tys ws sz U ∧ nst U
theorem mPn_preS {As : List Value} {D : va_G} {tys : List (ClassId × FieldType)} {ws : va_W} {A : Nat → Prop} {s : State} {H : Heap} (hP : va_P D vwCl ws H) (hK : va_K D vwCl tys s) (hD : va_D A ws) (hZ : nst s) : PreS s H (va_Pc As (mPn D tys ws H.size)) As :=
  ⟨fun a U g mk h => ⟨h.1, ⟨h.2.1.1, h.2.1.2.1, va_K.moved (u := U) (U := U.calling g mk a) (Vm.Alike.refl U.vm) h.2.1.2.2.1, h.2.1.2.2.2⟩, h.2.2.same⟩, fun U hU hW => ⟨rfl, ⟨by rw [hU], by rw [hU]; exact hP, va_K.moved hW.alike hK, hD.weaken (fun _ _ _ _ => trivial)⟩, hZ.warm hW⟩⟩
