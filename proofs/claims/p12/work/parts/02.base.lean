/-! the worlds of this claim: int arrays are of class cI, long arrays of cJ, arrays of long arrays of cQ -/
abbrev vwCl : List vw_C := [(RX0, TX0, 2), (RX1, TX1, 4), (RX2, TX2, 1), (RX3, TX3, 15), (RX4, TX4, 1), (RX5, TX5, 12), (RX6, TX6, 39)]
abbrev gTy (cI cJ cQ : ClassId) : List (ClassId × FieldType) := [(cI, .int), (cJ, .long), (cQ, .array .long)]
/-- a start that only reads: the cells, the classes -/
def rP (D : va_G) (tys : List (ClassId × FieldType)) (ws : va_W) (U : State) : Prop := va_P D vwCl ws U.heap ∧ va_K D vwCl tys U
/-- a start that may write its cells -/
def mP (D : va_G) (tys : List (ClassId × FieldType)) (ws : va_W) (sz : Nat) (U : State) : Prop := U.heap.size = sz ∧ va_P D vwCl ws U.heap ∧ va_K D vwCl tys U ∧ va_D (fun _ => True) ws
/-- the world behind such a method -/
def mB (D : va_G) (tys : List (ClassId × FieldType)) (A : Nat → Prop) (ws : va_W) (t : State) : Prop := va_P D vwCl ws t.heap ∧ va_K D vwCl tys t ∧ va_D A ws
theorem rP_blind {av : List Value} {D : va_G} {tys : List (ClassId × FieldType)} {ws : va_W} : FrameBlind (va_Pc av (rP D tys ws)) := fun a U g mk q => by
  obtain ⟨q0, qP, qK⟩ := q
  exact ⟨q0, qP, va_K.moved (u := U) (U := U.calling g mk a) (Vm.Alike.refl U.vm) qK⟩
theorem mP_blind {av : List Value} {D : va_G} {tys : List (ClassId × FieldType)} {ws : va_W} {sz : Nat} : FrameBlind (va_Pc av (mP D tys ws sz)) := fun a U g mk q => by
  obtain ⟨q0, q1, qP, qK, qD⟩ := q
  exact ⟨q0, q1, qP, va_K.moved (u := U) (U := U.calling g mk a) (Vm.Alike.refl U.vm) qK, qD⟩
theorem rP_preS {As : List Value} {D : va_G} {tys : List (ClassId × FieldType)} {ws : va_W} {s : State} {H : Heap} (hP : va_P D vwCl ws H) (hK : va_K D vwCl tys s) : PreS s H (va_Pc As (rP D tys ws)) As :=
  ⟨rP_blind, fun U hU hW => ⟨rfl, by rw [hU]; exact hP, va_K.moved hW.alike hK⟩⟩
theorem rP_preV {As : List Value} {D : va_G} {tys : List (ClassId × FieldType)} {ws : va_W} {s : State} {H : Heap} {b ci q0 : Nat} {q : vw_C} {fs : List Value} (hP : va_P D vwCl ws H) (hK : va_K D vwCl tys s) (hc : vwCl[ci]? = some q) (he : ws[q0]? = some (b, .inr (ci, fs))) : PreV s H q.1 b (va_Pc (.ref b :: As) (rP D tys ws)) As :=
  ⟨rP_blind, va_recv hK hP hc he, fun U hU hW => ⟨rfl, by rw [hU]; exact hP, va_K.moved hW.alike hK⟩⟩
theorem mP_preS {As : List Value} {D : va_G} {tys : List (ClassId × FieldType)} {ws : va_W} {A : Nat → Prop} {s : State} {H : Heap} (hP : va_P D vwCl ws H) (hK : va_K D vwCl tys s) (hD : va_D A ws) : PreS s H (va_Pc As (mP D tys ws H.size)) As :=
  ⟨mP_blind, fun U hU hW => ⟨rfl, by rw [hU], by rw [hU]; exact hP, va_K.moved hW.alike hK, hD.weaken (fun _ _ _ _ => trivial)⟩⟩
theorem mP_preV {As : List Value} {D : va_G} {tys : List (ClassId × FieldType)} {ws : va_W} {A : Nat → Prop} {s : State} {H : Heap} {b ci q0 : Nat} {q : vw_C} {fs : List Value} (hP : va_P D vwCl ws H) (hK : va_K D vwCl tys s) (hD : va_D A ws) (hc : vwCl[ci]? = some q) (he : ws[q0]? = some (b, .inr (ci, fs))) : PreV s H q.1 b (va_Pc (.ref b :: As) (mP D tys ws H.size)) As :=
  ⟨mP_blind, va_recv hK hP hc he, fun U hU hW => ⟨rfl, by rw [hU], by rw [hU]; exact hP, va_K.moved hW.alike hK, hD.weaken (fun _ _ _ _ => trivial)⟩⟩
/-- two array classes of one element type are one class -/
theorem va_Ksame {D : va_G} {cl : List vw_C} {tys : List (ClassId × FieldType)} {s : State} {i j : Nat} {a b : ClassId} {ty : FieldType} (h : va_K D cl tys s) (hi : tys[i]? = some (a, ty)) (hj : tys[j]? = some (b, ty)) : a = b := by
  have h1 := (h.2 i _ hi).2
  have h2 := (h.2 j _ hj).2
  cases ty with
  | object C =>
    obtain ⟨-, -, -, -, -, h1⟩ := h1
    obtain ⟨-, -, -, -, -, h2⟩ := h2
    exact Option.some.inj (h1.symm.trans h2)
  | _ => exact Option.some.inj (h1.symm.trans h2)
theorem n32 {x y : Int32} (h : ¬ x < y) : y.toInt ≤ x.toInt := by
  by_cases q : x.toInt < y.toInt
  · exact absurd (Int32.lt_iff_toInt_lt.mpr q) h
  · omega
theorem rk_in {x : Int32} (h1 : ¬ x < 1) (h2 : ¬ 10 < x) : vp_in x 11 := by
  rw [vp_in_iff]
  have a := n32 h1
  have b := n32 h2
  have e1 : (1 : Int32).toInt = 1 := by decide
  have e2 : (10 : Int32).toInt = 10 := by decide
  rw [e1] at a
  rw [e2] at b
  omega
/-- a boolean field -/
def bI (b : Bool) : Int32 := cond b 1 0
theorem bI_nar (b : Bool) : narrow .boolean (.int (bI b)) = .int (bI b) := by cases b <;> rfl
theorem bI_fit (b : Bool) : fits .boolean (.int (bI b)) = true := by cases b <;> rfl
theorem bI_0 (b : Bool) : bI b = 0 ↔ b = false := by cases b <;> decide
theorem ix_in {x : Int32} {n : Nat} (h1 : ¬ x < 0) (h2 : ∃ j : Nat, j < n ∧ x = nI j) (hn : n < 2 ^ 31) : vp_in x n := by
  obtain ⟨j, hj, rfl⟩ := h2
  exact vp_in_nI hj hn
theorem newI (cA : ClassId) (n : Nat) : vp_cell cA (n, .inl (fun _ => 0)) = arrV cA n (fun _ => defaultValue .int) := rfl
theorem newL (cA : ClassId) (n : Nat) : vp_cell cA (n, .inr (.inl (fun _ => 0))) = arrV cA n (fun _ => defaultValue .long) := rfl
/-- what a new object's rules are -/
def rules0 : Nat → Int32 := fun j => match j with | 0 => 21 | 1 => 17 | 2 => 0 | 3 => 1 | 4 => 1 | 5 => 1 | 6 => 3 | _ => 0
def least0 : Nat → Int32 := fun j => match j with | 0 => 11 | 1 => 10 | 2 => 0 | 3 => 0 | 4 => 0 | 5 => 0 | 6 => 2 | _ => 0
def most0 : Nat → Int32 := fun j => match j with | 0 => 21 | 1 => 21 | 2 => 1 | 3 => 1 | 4 => 1 | 5 => 1 | 6 => 4 | _ => 0
/-- the static rows of the rules -/
def stR (tL tM : Nat) (A : Nat → Prop) (U : State) (H : Heap) : Prop := va_Z "ShoeTable$Rules" "LEAST" "[I" (.ref tL) A U H ∧ va_T .int tL 7 (fun j => .int (least0 j)) A U H ∧ va_Z "ShoeTable$Rules" "MOST" "[I" (.ref tM) A U H ∧ va_T .int tM 7 (fun j => .int (most0 j)) A U H
theorem stR.pre {tL tM : Nat} {A B : Nat → Prop} {s U : State} {H : Heap} {locs : List Loc} (h : stR tL tM A s s.heap) (hS : va_S A s.heap H locs) (hU : U.heap = H) (hW : s.WarmedH U.vm) (hAB : ∀ q, B q → A q) : stR tL tM B U U.heap := by
  obtain ⟨h1, h2, h3, h4⟩ := h
  rw [hU]
  exact ⟨((h1.kept hS.2.1).moved hW.alike).narrow hAB, ((h2.kept hS.2.1).moved hW.alike).narrow hAB, ((h3.kept hS.2.1).moved hW.alike).narrow hAB, ((h4.kept hS.2.1).moved hW.alike).narrow hAB⟩
theorem stR.same {tL tM : Nat} {A : Nat → Prop} {U : State} {g : JFrame} {mk : MethodId} {a : Array Value} (h : stR tL tM A U U.heap) : stR tL tM A (U.calling g mk a) (U.calling g mk a).heap := by
  obtain ⟨h1, h2, h3, h4⟩ := h
  exact ⟨h1.moved (u := U) (U := U.calling g mk a) (Vm.Alike.refl U.vm), h2.moved (u := U) (U := U.calling g mk a) (Vm.Alike.refl U.vm), h3.moved (u := U) (U := U.calling g mk a) (Vm.Alike.refl U.vm), h4.moved (u := U) (U := U.calling g mk a) (Vm.Alike.refl U.vm)⟩
def rPs (D : va_G) (tys : List (ClassId × FieldType)) (ws : va_W) (tL tM : Nat) (U : State) : Prop := rP D tys ws U ∧ stR tL tM (fun _ => False) U U.heap
def mPs (D : va_G) (tys : List (ClassId × FieldType)) (ws : va_W) (sz tL tM : Nat) (U : State) : Prop := mP D tys ws sz U ∧ stR tL tM (va_A ws sz) U U.heap
theorem rPs_preV {As : List Value} {D : va_G} {tys : List (ClassId × FieldType)} {ws : va_W} {A : Nat → Prop} {s : State} {H : Heap} {locs : List Loc} {tL tM b ci q0 : Nat} {q : vw_C} {fs : List Value} (hP : va_P D vwCl ws H) (hK : va_K D vwCl tys s) (hZ : stR tL tM A s s.heap) (hS : va_S A s.heap H locs) (hc : vwCl[ci]? = some q) (he : ws[q0]? = some (b, .inr (ci, fs))) : PreV s H q.1 b (va_Pc (.ref b :: As) (rPs D tys ws tL tM)) As :=
  ⟨fun a U g mk h => ⟨h.1, ⟨h.2.1.1, va_K.moved (u := U) (U := U.calling g mk a) (Vm.Alike.refl U.vm) h.2.1.2⟩, h.2.2.same⟩, va_recv hK hP hc he, fun U hU hW => ⟨rfl, ⟨by rw [hU]; exact hP, va_K.moved hW.alike hK⟩, hZ.pre hS hU hW (fun _ h => h.elim)⟩⟩
theorem mPs_preV {As : List Value} {D : va_G} {tys : List (ClassId × FieldType)} {ws : va_W} {A : Nat → Prop} {s : State} {H : Heap} {locs : List Loc} {tL tM b ci q0 : Nat} {q : vw_C} {fs : List Value} (hP : va_P D vwCl ws H) (hK : va_K D vwCl tys s) (hD : va_D A ws) (hZ : stR tL tM A s s.heap) (hS : va_S A s.heap H locs) (hF : ∀ q, va_A ws H.size q → A q) (hc : vwCl[ci]? = some q) (he : ws[q0]? = some (b, .inr (ci, fs))) : PreV s H q.1 b (va_Pc (.ref b :: As) (mPs D tys ws H.size tL tM)) As :=
  ⟨fun a U g mk h => ⟨h.1, ⟨h.2.1.1, h.2.1.2.1, va_K.moved (u := U) (U := U.calling g mk a) (Vm.Alike.refl U.vm) h.2.1.2.2.1, h.2.1.2.2.2⟩, h.2.2.same⟩, va_recv hK hP hc he, fun U hU hW => ⟨rfl, ⟨by rw [hU], by rw [hU]; exact hP, va_K.moved hW.alike hK, hD.weaken (fun _ _ _ _ => trivial)⟩, hZ.pre hS hU hW hF⟩⟩
theorem r7_in {x : Int32} (h1 : ¬ x < 0) (h2 : ¬ 6 < x) : vp_in x 7 := by
  rw [vp_in_iff]
  have a := n32 h1
  have b := n32 h2
  have e1 : (0 : Int32).toInt = 0 := by decide
  have e2 : (6 : Int32).toInt = 6 := by decide
  rw [e1] at a
  rw [e2] at b
  omega
/-- what Rules.allows answers -/
def alw (w : Nat → Int32) (p0 p1 : Int32) : Int32 := if p0 < 0 then 0 else if 6 < p0 then 0 else if p1 < least0 p0.toNatClampNeg then 0 else if p1 ≤ most0 p0.toNatClampNeg then (if p0 = 0 then (if p1 < w 1 then 0 else 1) else if p0 = 1 then (if w 0 < p1 then 0 else 1) else 1) else 0
theorem c12_in {x n : Int32} (h1 : ¬ x < 0) (h2 : ¬ n ≤ x) (h3 : n ≤ 12) : vp_in x 12 := by
  rw [vp_in_iff]
  have a := n32 h1
  have b : x.toInt < n.toInt := by
    by_cases q : x.toInt < n.toInt
    · exact q
    · exact absurd (Int32.le_iff_toInt_le.mpr (by omega)) h2
  have d := Int32.le_iff_toInt_le.mp h3
  have e1 : (0 : Int32).toInt = 0 := by decide
  have e2 : (12 : Int32).toInt = 12 := by decide
  rw [e1] at a
  rw [e2] at d
  omega
