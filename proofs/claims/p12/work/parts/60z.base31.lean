/-- cells in another order, beside a pool -/
theorem va_perm {A : Nat → Prop} {D : va_G} {cl : List vw_C} {X Y pl : va_W} {H : Heap} (hP : va_P D cl (X ++ pl) H) (hD : va_D A (X ++ pl)) (is : List Nat) (hY : is.map (fun i => X[i]?) = Y.map some) (hn : va_nd is = true) : va_P D cl (Y ++ pl) H ∧ va_D A (Y ++ pl) :=
  ⟨fun k q hq => hP _ q (va_part is hY k q hq), hD.part is hn hY⟩
