/-- the nest's links, and the word on arrays of arrays -/
def nst (U : State) : Prop := va_Nw (.methodLinkNest "ShoeTable" 9 yX4_init "ShoeTable") U ∧ va_Nw (.methodLinkNest "ShoeTable" 18 yX0_init "ShoeTable") U ∧ va_Nw (.methodLinkNest "ShoeTable" 31 yX1_init "ShoeTable") U ∧ va_Nw (.methodLinkNest "ShoeTable" 42 yX3_init "ShoeTable") U ∧ va_Nw (.methodLinkNest "ShoeTable" 49 yX2_init "ShoeTable") U ∧ va_Nw (.methodLinkNest "ShoeTable$Odds" 11 yX4_init "ShoeTable") U ∧ va_Nw (.methodLinkNest "ShoeTable$Odds" 20 yX0_init "ShoeTable") U ∧ va_Nw (.methodLinkNest "ShoeTable$Odds" 30 yX1_init "ShoeTable") U ∧ va_AOA .long U
theorem va_AOA.moved {u U : State} (hvm : u.vm.Alike U.vm) (h : va_AOA .long u) : va_AOA .long U := Jvm.Stand.arrayOver_alikeB hvm h
theorem nst.warm {s U : State} (hW : s.WarmedH U.vm) (h : nst s) : nst U := by
  obtain ⟨h1, h2, h3, h4, h5, h6, h7, h8, h9⟩ := h
  exact ⟨h1.warmM hW, h2.warmM hW, h3.warmM hW, h4.warmM hW, h5.warmM hW, h6.warmM hW, h7.warmM hW, h8.warmM hW, h9.moved hW.alike⟩
theorem nst.same {U : State} {g : JFrame} {mk : MethodId} {a : Array Value} (h : nst U) : nst (U.calling g mk a) := by
  obtain ⟨h1, h2, h3, h4, h5, h6, h7, h8, h9⟩ := h
  exact ⟨h1.same rfl rfl, h2.same rfl rfl, h3.same rfl rfl, h4.same rfl rfl, h5.same rfl rfl, h6.same rfl rfl, h7.same rfl rfl, h8.same rfl rfl, h9.moved (u := U) (U := U.calling g mk a) (Vm.Alike.refl U.vm)⟩
def mPn (D : va_G) (tys : List (ClassId × FieldType)) (ws : va_W) (sz : Nat) (U : State) : Prop := mP D tys ws sz U ∧ nst U
theorem mPn_preS {As : List Value} {D : va_G} {tys : List (ClassId × FieldType)} {ws : va_W} {A : Nat → Prop} {s : State} {H : Heap} (hP : va_P D vwCl ws H) (hK : va_K D vwCl tys s) (hD : va_D A ws) (hZ : nst s) : PreS s H (va_Pc As (mPn D tys ws H.size)) As :=
  ⟨fun a U g mk h => ⟨h.1, ⟨h.2.1.1, h.2.1.2.1, va_K.moved (u := U) (U := U.calling g mk a) (Vm.Alike.refl U.vm) h.2.1.2.2.1, h.2.1.2.2.2⟩, h.2.2.same⟩, fun U hU hW => ⟨rfl, ⟨by rw [hU], by rw [hU]; exact hP, va_K.moved hW.alike hK, hD.weaken (fun _ _ _ _ => trivial)⟩, hZ.warm hW⟩⟩
theorem newRow (c : ClassId) (n : Nat) : Jvm.Free.Multi.innerC c n (defaultValue .long) = vp_cell c (n, .inr (.inl (fun _ => 0))) := by
  rw [vp_cell_l]
  show ({ cls := c, slots := Array.replicate n (.long 0), vm := .none } : Cell) = _
  rw [arrV_new]
theorem rows9 {X : va_W} {r : Nat → Nat} {e : va_E} {f : Nat → va_E} : X ++ va_pl ([] ++ (List.range 9).map r) (vr_up f ((List.range 9).map r) e) = X ++ [(r 0, e), (r 1, e), (r 2, e), (r 3, e), (r 4, e), (r 5, e), (r 6, e), (r 7, e), (r 8, e)] := by
  rw [← vr_rows (L := []) (l := (List.range 9).map r) (f := f) (e := e) (fun a _ => List.not_mem_nil)]
  rfl
