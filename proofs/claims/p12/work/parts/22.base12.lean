/-! the static row ORDERS, and the link to its reader -/
def ord0 : Nat → Int64 := fun j => match j with | 0 => 1 | 1 => 1 | 2 => 2 | 3 => 6 | 4 => 24 | 5 => 120 | 6 => 720 | 7 => 5040 | 8 => 40320 | 9 => 362880 | 10 => 3628800 | 11 => 39916800 | 12 => 479001600 | _ => 0
def stO (tO : Nat) (A : Nat → Prop) (U : State) (H : Heap) : Prop := va_Z "ShoeTable" "ORDERS" "[J" (.ref tO) A U H ∧ va_T .long tO 13 (fun j => .long (ord0 j)) A U H ∧ va_Nw (.methodLinkNest "ShoeTable$Odds" 143 yX5_orders "ShoeTable") U
theorem stO.pre {tO : Nat} {A B : Nat → Prop} {s U : State} {H : Heap} {locs : List Loc} (h : stO tO A s s.heap) (hS : va_S A s.heap H locs) (hU : U.heap = H) (hW : s.WarmedH U.vm) (hAB : ∀ q, B q → A q) : stO tO B U U.heap := by
  obtain ⟨h1, h2, h3⟩ := h
  rw [hU]
  exact ⟨((h1.kept hS.2.1).moved hW.alike).narrow hAB, ((h2.kept hS.2.1).moved hW.alike).narrow hAB, h3.warmM hW⟩
theorem stO.same {tO : Nat} {A : Nat → Prop} {U : State} {g : JFrame} {mk : MethodId} {a : Array Value} (h : stO tO A U U.heap) : stO tO A (U.calling g mk a) (U.calling g mk a).heap := by
  obtain ⟨h1, h2, h3⟩ := h
  exact ⟨h1.moved (u := U) (U := U.calling g mk a) (Vm.Alike.refl U.vm), h2.moved (u := U) (U := U.calling g mk a) (Vm.Alike.refl U.vm), h3.same rfl rfl⟩
def rPo (D : va_G) (tys : List (ClassId × FieldType)) (ws : va_W) (tO : Nat) (U : State) : Prop := rP D tys ws U ∧ stO tO (fun _ => False) U U.heap
def mPo (D : va_G) (tys : List (ClassId × FieldType)) (ws : va_W) (sz tO : Nat) (U : State) : Prop := mP D tys ws sz U ∧ stO tO (va_A ws sz) U U.heap
theorem rPo_preS {As : List Value} {D : va_G} {tys : List (ClassId × FieldType)} {ws : va_W} {A : Nat → Prop} {s : State} {H : Heap} {locs : List Loc} {tO : Nat} (hP : va_P D vwCl ws H) (hK : va_K D vwCl tys s) (hZ : stO tO A s s.heap) (hS : va_S A s.heap H locs) : PreS s H (va_Pc As (rPo D tys ws tO)) As :=
  ⟨fun a U g mk h => ⟨h.1, ⟨h.2.1.1, va_K.moved (u := U) (U := U.calling g mk a) (Vm.Alike.refl U.vm) h.2.1.2⟩, h.2.2.same⟩, fun U hU hW => ⟨rfl, ⟨by rw [hU]; exact hP, va_K.moved hW.alike hK⟩, hZ.pre hS hU hW (fun _ h => h.elim)⟩⟩
theorem rPo_preV {As : List Value} {D : va_G} {tys : List (ClassId × FieldType)} {ws : va_W} {A : Nat → Prop} {s : State} {H : Heap} {locs : List Loc} {tO b ci q0 : Nat} {q : vw_C} {fs : List Value} (hP : va_P D vwCl ws H) (hK : va_K D vwCl tys s) (hZ : stO tO A s s.heap) (hS : va_S A s.heap H locs) (hc : vwCl[ci]? = some q) (he : ws[q0]? = some (b, .inr (ci, fs))) : PreV s H q.1 b (va_Pc (.ref b :: As) (rPo D tys ws tO)) As :=
  ⟨fun a U g mk h => ⟨h.1, ⟨h.2.1.1, va_K.moved (u := U) (U := U.calling g mk a) (Vm.Alike.refl U.vm) h.2.1.2⟩, h.2.2.same⟩, va_recv hK hP hc he, fun U hU hW => ⟨rfl, ⟨by rw [hU]; exact hP, va_K.moved hW.alike hK⟩, hZ.pre hS hU hW (fun _ h => h.elim)⟩⟩
theorem mPo_preV {As : List Value} {D : va_G} {tys : List (ClassId × FieldType)} {ws : va_W} {A : Nat → Prop} {s : State} {H : Heap} {locs : List Loc} {tO b ci q0 : Nat} {q : vw_C} {fs : List Value} (hP : va_P D vwCl ws H) (hK : va_K D vwCl tys s) (hD : va_D A ws) (hZ : stO tO A s s.heap) (hS : va_S A s.heap H locs) (hF : ∀ q, va_A ws H.size q → A q) (hc : vwCl[ci]? = some q) (he : ws[q0]? = some (b, .inr (ci, fs))) : PreV s H q.1 b (va_Pc (.ref b :: As) (mPo D tys ws H.size tO)) As :=
  ⟨fun a U g mk h => ⟨h.1, ⟨h.2.1.1, h.2.1.2.1, va_K.moved (u := U) (U := U.calling g mk a) (Vm.Alike.refl U.vm) h.2.1.2.2.1, h.2.1.2.2.2⟩, h.2.2.same⟩, va_recv hK hP hc he, fun U hU hW => ⟨rfl, ⟨by rw [hU], by rw [hU]; exact hP, va_K.moved hW.alike hK, hD.weaken (fun _ _ _ _ => trivial)⟩, hZ.pre hS hU hW hF⟩⟩
section RunRow
variable {p : Program} {l : Launch} {e : Env} {R : Room} {s : State} {m : MethodId} {args : Array Value} {below : List Frame} {meth : Method} {c : Code} {H : Heap} {locs : List Loc} {cells slots mc ms : Nat} {g : JFrame} {rest : List Value} {Qa : State → Outcome → State → Prop} {free : Addr → Prop}
theorem va_Run.toC (h : va_Run p l e R s m args below meth c H locs cells slots mc ms g rest Qa free) : CallRun p l e R s m args below meth c H locs cells slots mc ms g rest Qa free := fun T hT X => by
  obtain ⟨v, st₀, t, T', L, a, b, c, d, _, f, g⟩ := h T hT X
  exact ⟨v, st₀, t, T', L, a, b, c, d, f, g⟩
end RunRow
/-! numbers -/
def orC (p : Int32) : Int64 := if p < 0 then 0 else if 13 ≤ p then 0 else ord0 p.toNatClampNeg
theorem i32_add {x y : Int32} (h1 : -2147483648 ≤ x.toInt + y.toInt) (h2 : x.toInt + y.toInt ≤ 2147483647) : (x + y).toInt = x.toInt + y.toInt := by
  rw [Int32.toInt_add]
  exact Int.bmod_eq_of_le (by omega) (by omega)
theorem i32_sub {x y : Int32} (h1 : -2147483648 ≤ x.toInt - y.toInt) (h2 : x.toInt - y.toInt ≤ 2147483647) : (x - y).toInt = x.toInt - y.toInt := by
  rw [Int32.toInt_sub]
  exact Int.bmod_eq_of_le (by omega) (by omega)
theorem t0 : (0 : Int32).toInt = 0 := by decide
theorem t1 : (1 : Int32).toInt = 1 := by decide
theorem t10 : (10 : Int32).toInt = 10 := by decide
theorem t13 : (13 : Int32).toInt = 13 := by decide
theorem or_in {p : Int32} (h1 : ¬ p < 0) (h2 : ¬ 13 ≤ p) : vp_in p 13 := by
  rw [ltI, t0] at h1
  rw [leI, t13] at h2
  rw [vp_in_iff]
  omega
theorem en_in {w : Nat → Int32} {s : Int32} {a : Bool} (h0 : 0 ≤ s.toInt) (h1 : s.toInt ≤ 1000) (hw : (w 0).toInt ≤ 21) : vp_in (enC w (vlC w s a)) 22 := by
  have key : ∀ x : Int32, 0 ≤ x.toInt → vp_in (enC w x) 22 := by
    intro x hx
    unfold enC
    by_cases z : x ≤ w 0
    · rw [if_pos z, vp_in_iff]
      rw [leI] at z
      omega
    · rw [if_neg z]; exact vp_in_nI (n := 0) (by decide) (by decide)
  have h10 : (s + 10).toInt = s.toInt + 10 := by rw [i32_add (by rw [t10]; omega) (by rw [t10]; omega), t10]
  unfold vlC
  by_cases z : bI a = 0
  · rw [if_pos z]; exact key s h0
  · rw [if_neg z]
    by_cases y : w 0 < s + 10
    · rw [if_pos y]; exact key s h0
    · rw [if_neg y]; exact key _ (by omega)
theorem hp_in {p : Int32} (h1 : ¬ p < 0) (h2 : ¬ 2304 ≤ p) : vp_in p 2304 := by
  have e : (2304 : Int32).toInt = 2304 := by decide
  rw [ltI, t0] at h1
  rw [leI, e] at h2
  rw [vp_in_iff]
  omega
/-- a card is looked for, and none is there -/
theorem rm_no {f f2 : Nat → Int32} {tot tot2 p r : Int32} (h : r = hdC f p ∧ if hdC f p ≤ 0 then tot2 = tot ∧ f2 = f else tot2 = tot - 1 ∧ f2 = upd f p.toNatClampNeg (f p.toNatClampNeg - 1)) (hr : r ≤ 0) : tot2 = tot ∧ f2 = f := by
  obtain ⟨h1, h2⟩ := h
  rw [h1] at hr
  rw [if_pos hr] at h2
  exact h2
theorem rm_yes {f f2 : Nat → Int32} {tot tot2 p r : Int32} (h : r = hdC f p ∧ if hdC f p ≤ 0 then tot2 = tot ∧ f2 = f else tot2 = tot - 1 ∧ f2 = upd f p.toNatClampNeg (f p.toNatClampNeg - 1)) (hr : ¬ r ≤ 0) : tot2 = tot - 1 ∧ f2 = upd f p.toNatClampNeg (f p.toNatClampNeg - 1) := by
  obtain ⟨h1, h2⟩ := h
  rw [h1] at hr
  rw [if_neg hr] at h2
  exact h2
/-- a card is taken out and put back -/
theorem rm_add {f f2 f3 : Nat → Int32} {tot tot2 tot3 r : Int32} {k : Nat} (h1 : 1 ≤ k) (h2 : k ≤ 10) (h : r = hdC f (nI k) ∧ if hdC f (nI k) ≤ 0 then tot2 = tot ∧ f2 = f else tot2 = tot - 1 ∧ f2 = upd f (nI k).toNatClampNeg (f (nI k).toNatClampNeg - 1)) (hr : ¬ r ≤ 0)
    (ha : if nI k < 1 then tot3 = tot2 ∧ f3 = f2 else if 10 < nI k then tot3 = tot2 ∧ f3 = f2 else tot3 = tot2 + 1 ∧ f3 = upd f2 (nI k).toNatClampNeg (f2 (nI k).toNatClampNeg + 1)) : tot3 = tot ∧ f3 = f := by
  obtain ⟨e1, e2⟩ := rm_yes h hr
  rw [if_neg (show ¬ nI k < 1 from nI_nlt (b := 1) h1 (by omega)), if_neg (show ¬ 10 < nI k from nI_nlt (a := 10) h2 (by decide))] at ha
  obtain ⟨a1, a2⟩ := ha
  subst e1
  subst e2
  refine ⟨a1.trans (Int32.sub_add_cancel _ _), ?_⟩
  rw [a2]
  funext j
  unfold upd
  by_cases z : j = (nI k).toNatClampNeg
  · rw [if_pos z, if_pos rfl, z]; exact Int32.sub_add_cancel _ _
  · rw [if_neg z, if_neg z]
/-- whether an act is there: the class's words -/
def thC (w : Nat → Int32) (n sm : Int32) (g : Nat → Int32) (up tot p : Int32) : Int32 :=
  if n = 0 then 0 else if buC w sm = 0 then (if up = -1 then 0 else
    if p = 0 then 1 else
    if p = 1 then (if tot < 1 then 0 else if flB n = 0 then 1 else 0) else
    if p = 2 then (if n = 2 then (if (if w 3 = 1 then (1 : Int32) else 0) = 0 then 0 else if tot < 1 then 0 else 1) else 0) else
    if p = 3 then (if (if n = 2 then (if g 0 = g 1 then (1 : Int32) else 0) else 0) = 0 then 0 else if (if w 4 = 1 then (1 : Int32) else 0) = 0 then 0 else if tot < 2 then 0 else 1) else
    if p = 4 then (if n = 2 then (if (if w 5 = 1 then (1 : Int32) else 0) = 0 then 0 else 1) else 0) else 0) else 0
theorem ite01 {P : Prop} [Decidable P] {x y : Int32} (hx : x = 0 ∨ x = 1) (hy : y = 0 ∨ y = 1) : (if P then x else y) = 0 ∨ (if P then x else y) = 1 := by
  by_cases h : P
  · rw [if_pos h]; exact hx
  · rw [if_neg h]; exact hy
theorem nar01 {x : Int32} (h : x = 0 ∨ x = 1) : narrow .boolean (.int x) = .int x := by rcases h with rfl | rfl <;> rfl
theorem thC_01 (w : Nat → Int32) (n sm : Int32) (g : Nat → Int32) (up tot p : Int32) : thC w n sm g up tot p = 0 ∨ thC w n sm g up tot p = 1 := by
  unfold thC
  repeat' (first | exact Or.inl rfl | exact Or.inr rfl | apply ite01)
