theorem nw_0 : Cond.methodLinkNest "ShoeTable" 9 yX4_init "ShoeTable" ∈ lw_tbl := (List.mem_append_right _ (List.mem_of_getElem? (i := 21) (by decide +kernel)))
theorem nw_1 : Cond.methodLinkNest "ShoeTable" 18 yX0_init "ShoeTable" ∈ lw_tbl := (List.mem_append_right _ (List.mem_of_getElem? (i := 32) (by decide +kernel)))
theorem nw_2 : Cond.methodLinkNest "ShoeTable" 31 yX1_init "ShoeTable" ∈ lw_tbl := (List.mem_append_right _ (List.mem_of_getElem? (i := 47) (by decide +kernel)))
theorem nw_3 : Cond.methodLinkNest "ShoeTable" 42 yX3_init "ShoeTable" ∈ lw_tbl := (List.mem_append_right _ (List.mem_of_getElem? (i := 72) (by decide +kernel)))
theorem nw_4 : Cond.methodLinkNest "ShoeTable" 49 yX2_init "ShoeTable" ∈ lw_tbl := (List.mem_append_right _ (List.mem_of_getElem? (i := 132) (by decide +kernel)))
theorem nw_5 : Cond.methodLinkNest "ShoeTable$Odds" 11 yX4_init "ShoeTable" ∈ lw_tbl := (List.mem_append_right _ (List.mem_of_getElem? (i := 77) (by decide +kernel)))
theorem nw_6 : Cond.methodLinkNest "ShoeTable$Odds" 20 yX0_init "ShoeTable" ∈ lw_tbl := (List.mem_append_right _ (List.mem_of_getElem? (i := 79) (by decide +kernel)))
theorem nw_7 : Cond.methodLinkNest "ShoeTable$Odds" 30 yX1_init "ShoeTable" ∈ lw_tbl := (List.mem_append_right _ (List.mem_of_getElem? (i := 81) (by decide +kernel)))
theorem nw_8 : Cond.arrayOver (.array .long) ∈ lw_tbl := (List.mem_append_right _ (List.mem_of_getElem? (i := 137) (by decide +kernel)))
theorem nw_9 : Cond.methodLinkNest "ShoeTable$Odds" 143 yX5_orders "ShoeTable" ∈ lw_tbl := (List.mem_append_right _ (List.mem_of_getElem? (i := 424) (by decide +kernel)))
theorem ni_X4 : Cond.instantiable RX4 1 ∈ lw_tbl := (List.mem_append_right _ (List.mem_of_getElem? (i := 20) (by decide +kernel)))
theorem ni_X0 : Cond.instantiable RX0 2 ∈ lw_tbl := (List.mem_append_right _ (List.mem_of_getElem? (i := 31) (by decide +kernel)))
theorem ni_X1 : Cond.instantiable RX1 4 ∈ lw_tbl := (List.mem_append_right _ (List.mem_of_getElem? (i := 46) (by decide +kernel)))
theorem ni_X3 : Cond.instantiable RX3 15 ∈ lw_tbl := (List.mem_append_right _ (List.mem_of_getElem? (i := 71) (by decide +kernel)))
theorem ni_X2 : Cond.instantiable RX2 1 ∈ lw_tbl := (List.mem_append_right _ (List.mem_of_getElem? (i := 131) (by decide +kernel)))
theorem ni_X5 : Cond.instantiable RX5 12 ∈ lw_tbl := (List.mem_append_right _ (List.mem_of_getElem? (i := 12) (by decide +kernel)))
theorem ni_X6 : Cond.instantiable RX6 39 ∈ lw_tbl := (List.mem_append_right _ (List.mem_of_getElem? (i := 540) (by decide +kernel)))
theorem nc_I : Cond.arrayClass .int ∈ lw_tbl := (List.mem_append_right _ (List.mem_of_getElem? (i := 29) (by decide +kernel)))
theorem nc_J : Cond.arrayClass .long ∈ lw_tbl := (List.mem_append_right _ (List.mem_of_getElem? (i := 129) (by decide +kernel)))
theorem nl_L : Cond.laysStatic "ShoeTable$Rules" "LEAST" "[I" ∈ lw_tbl := (List.mem_append_right _ (List.mem_of_getElem? (i := 233) (by decide +kernel)))
theorem nl_M : Cond.laysStatic "ShoeTable$Rules" "MOST" "[I" ∈ lw_tbl := (List.mem_append_right _ (List.mem_of_getElem? (i := 235) (by decide +kernel)))
theorem nl_O : Cond.laysStatic "ShoeTable" "ORDERS" "[J" ∈ lw_tbl := (List.mem_append_right _ (List.mem_of_getElem? (i := 428) (by decide +kernel)))
theorem nn_R : Cond.initialized "ShoeTable$Rules" ∈ lw_tbl := (List.mem_append_right _ (List.mem_of_getElem? (i := 2) (by decide +kernel)))
theorem nn_T : Cond.initialized "ShoeTable" ∈ lw_tbl := (List.mem_append_right _ (List.mem_of_getElem? (i := 1) (by decide +kernel)))
theorem arr_ty {args : Array Value} {s : State} {ty : FieldType} (h : (Cond.arrayClass ty).before args s = true) : ∃ cA, ArrOfT s cA ty ∧ s.vm.findClass ("[" ++ ty.toString) = some cA := by
  obtain ⟨c, k, comp, h1, h2, h3⟩ := Cond.arrayClass_spec h
  exact ⟨c, fun n z => ⟨(fun q hq => by cases hq), k, h2, comp, h3⟩, h1⟩
theorem arr_tq {args : Array Value} {s : State} (h : (Cond.arrayOver (.array .long)).before args s = true) : ∃ cA, ArrOfT s cA (.array .long) ∧ s.vm.findClass ("[" ++ (FieldType.array .long).toString) = some cA := by
  obtain ⟨comp, c, k, -, -, h3, h4, h5⟩ := Jvm.Stand.arrayOver_specB h
  exact ⟨c, fun n z => ⟨(fun q hq => by cases hq), k, h3, comp, h4⟩, h5⟩
theorem st_of {args : Array Value} {s : State} {A : Nat → Prop} (hts : ∀ w ∈ lw_tbl, w.before args s = true) (hgv : (Jvm.Cond.and given_1 narrow_1).before args s = true) (hA : ∀ a : Nat, a < s.heap.size → ¬ A a) : ∃ tL tM, stR tL tM A s s.heap := by
  have hs := flat_of_before _ hgv
  have aL : (Cond.arrayOf (Term.static "ShoeTable$Rules" "LEAST" "[I") .int).before args s = true := hs _ (by decide +kernel)
  have bL : (Term.length (Term.static "ShoeTable$Rules" "LEAST" "[I")).eval args s none [] s = some (.int (Int32.ofNat 7)) := va_eqt (hs (Cond.eq (.length (Term.static "ShoeTable$Rules" "LEAST" "[I")) (.int 7)) (by decide +kernel))
  have cL : ∀ j : Nat, j < 7 → (Term.elem (Term.static "ShoeTable$Rules" "LEAST" "[I") (.int (Int32.ofNat j))).eval args s none [] s = some (.int (least0 j)) := by
    intro j hj
    rcases (show j = 0 ∨ j = 1 ∨ j = 2 ∨ j = 3 ∨ j = 4 ∨ j = 5 ∨ j = 6 by omega) with rfl | rfl | rfl | rfl | rfl | rfl | rfl
    · exact va_eqt (hs (Cond.eq (.elem (Term.static "ShoeTable$Rules" "LEAST" "[I") (.int 0)) (.int 11)) (by decide +kernel))
    · exact va_eqt (hs (Cond.eq (.elem (Term.static "ShoeTable$Rules" "LEAST" "[I") (.int 1)) (.int 10)) (by decide +kernel))
    · exact va_eqt (hs (Cond.eq (.elem (Term.static "ShoeTable$Rules" "LEAST" "[I") (.int 2)) (.int 0)) (by decide +kernel))
    · exact va_eqt (hs (Cond.eq (.elem (Term.static "ShoeTable$Rules" "LEAST" "[I") (.int 3)) (.int 0)) (by decide +kernel))
    · exact va_eqt (hs (Cond.eq (.elem (Term.static "ShoeTable$Rules" "LEAST" "[I") (.int 4)) (.int 0)) (by decide +kernel))
    · exact va_eqt (hs (Cond.eq (.elem (Term.static "ShoeTable$Rules" "LEAST" "[I") (.int 5)) (.int 0)) (by decide +kernel))
    · exact va_eqt (hs (Cond.eq (.elem (Term.static "ShoeTable$Rules" "LEAST" "[I") (.int 6)) (.int 2)) (by decide +kernel))
  obtain ⟨tL, eL, fL⟩ := va_Tof (f := fun j => .int (least0 j)) (A := A) (by decide) aL bL cL hA
  have aM : (Cond.arrayOf (Term.static "ShoeTable$Rules" "MOST" "[I") .int).before args s = true := hs _ (by decide +kernel)
  have bM : (Term.length (Term.static "ShoeTable$Rules" "MOST" "[I")).eval args s none [] s = some (.int (Int32.ofNat 7)) := va_eqt (hs (Cond.eq (.length (Term.static "ShoeTable$Rules" "MOST" "[I")) (.int 7)) (by decide +kernel))
  have cM : ∀ j : Nat, j < 7 → (Term.elem (Term.static "ShoeTable$Rules" "MOST" "[I") (.int (Int32.ofNat j))).eval args s none [] s = some (.int (most0 j)) := by
    intro j hj
    rcases (show j = 0 ∨ j = 1 ∨ j = 2 ∨ j = 3 ∨ j = 4 ∨ j = 5 ∨ j = 6 by omega) with rfl | rfl | rfl | rfl | rfl | rfl | rfl
    · exact va_eqt (hs (Cond.eq (.elem (Term.static "ShoeTable$Rules" "MOST" "[I") (.int 0)) (.int 21)) (by decide +kernel))
    · exact va_eqt (hs (Cond.eq (.elem (Term.static "ShoeTable$Rules" "MOST" "[I") (.int 1)) (.int 21)) (by decide +kernel))
    · exact va_eqt (hs (Cond.eq (.elem (Term.static "ShoeTable$Rules" "MOST" "[I") (.int 2)) (.int 1)) (by decide +kernel))
    · exact va_eqt (hs (Cond.eq (.elem (Term.static "ShoeTable$Rules" "MOST" "[I") (.int 3)) (.int 1)) (by decide +kernel))
    · exact va_eqt (hs (Cond.eq (.elem (Term.static "ShoeTable$Rules" "MOST" "[I") (.int 4)) (.int 1)) (by decide +kernel))
    · exact va_eqt (hs (Cond.eq (.elem (Term.static "ShoeTable$Rules" "MOST" "[I") (.int 5)) (.int 1)) (by decide +kernel))
    · exact va_eqt (hs (Cond.eq (.elem (Term.static "ShoeTable$Rules" "MOST" "[I") (.int 6)) (.int 4)) (by decide +kernel))
  obtain ⟨tM, eM, fM⟩ := va_Tof (f := fun j => .int (most0 j)) (A := A) (by decide) aM bM cM hA
  exact ⟨tL, tM, va_Zof (hts _ nl_L) (hts _ nn_R) eL hA, fL, va_Zof (hts _ nl_M) (hts _ nn_R) eM hA, fM⟩
theorem so_of {args : Array Value} {s : State} {A : Nat → Prop} (hts : ∀ w ∈ lw_tbl, w.before args s = true) (hgv : (Jvm.Cond.and given_1 narrow_1).before args s = true) (hA : ∀ a : Nat, a < s.heap.size → ¬ A a) : ∃ tO, stO tO A s s.heap := by
  have hs := flat_of_before _ hgv
  have aO : (Cond.arrayOf (Term.static "ShoeTable" "ORDERS" "[J") .long).before args s = true := hs _ (by decide +kernel)
  have bO : (Term.length (Term.static "ShoeTable" "ORDERS" "[J")).eval args s none [] s = some (.int (Int32.ofNat 13)) := va_eqt (hs (Cond.eq (.length (Term.static "ShoeTable" "ORDERS" "[J")) (.int 13)) (by decide +kernel))
  have cO : ∀ j : Nat, j < 13 → (Term.elem (Term.static "ShoeTable" "ORDERS" "[J") (.int (Int32.ofNat j))).eval args s none [] s = some (.long (ord0 j)) := by
    intro j hj
    rcases (show j = 0 ∨ j = 1 ∨ j = 2 ∨ j = 3 ∨ j = 4 ∨ j = 5 ∨ j = 6 ∨ j = 7 ∨ j = 8 ∨ j = 9 ∨ j = 10 ∨ j = 11 ∨ j = 12 by omega) with rfl | rfl | rfl | rfl | rfl | rfl | rfl | rfl | rfl | rfl | rfl | rfl | rfl
    · exact va_eqtl (hs (Cond.eq (.elem (Term.static "ShoeTable" "ORDERS" "[J") (.int 0)) (.long 1)) (by decide +kernel))
    · exact va_eqtl (hs (Cond.eq (.elem (Term.static "ShoeTable" "ORDERS" "[J") (.int 1)) (.long 1)) (by decide +kernel))
    · exact va_eqtl (hs (Cond.eq (.elem (Term.static "ShoeTable" "ORDERS" "[J") (.int 2)) (.long 2)) (by decide +kernel))
    · exact va_eqtl (hs (Cond.eq (.elem (Term.static "ShoeTable" "ORDERS" "[J") (.int 3)) (.long 6)) (by decide +kernel))
    · exact va_eqtl (hs (Cond.eq (.elem (Term.static "ShoeTable" "ORDERS" "[J") (.int 4)) (.long 24)) (by decide +kernel))
    · exact va_eqtl (hs (Cond.eq (.elem (Term.static "ShoeTable" "ORDERS" "[J") (.int 5)) (.long 120)) (by decide +kernel))
    · exact va_eqtl (hs (Cond.eq (.elem (Term.static "ShoeTable" "ORDERS" "[J") (.int 6)) (.long 720)) (by decide +kernel))
    · exact va_eqtl (hs (Cond.eq (.elem (Term.static "ShoeTable" "ORDERS" "[J") (.int 7)) (.long 5040)) (by decide +kernel))
    · exact va_eqtl (hs (Cond.eq (.elem (Term.static "ShoeTable" "ORDERS" "[J") (.int 8)) (.long 40320)) (by decide +kernel))
    · exact va_eqtl (hs (Cond.eq (.elem (Term.static "ShoeTable" "ORDERS" "[J") (.int 9)) (.long 362880)) (by decide +kernel))
    · exact va_eqtl (hs (Cond.eq (.elem (Term.static "ShoeTable" "ORDERS" "[J") (.int 10)) (.long 3628800)) (by decide +kernel))
    · exact va_eqtl (hs (Cond.eq (.elem (Term.static "ShoeTable" "ORDERS" "[J") (.int 11)) (.long 39916800)) (by decide +kernel))
    · exact va_eqtl (hs (Cond.eq (.elem (Term.static "ShoeTable" "ORDERS" "[J") (.int 12)) (.long 479001600)) (by decide +kernel))
  obtain ⟨tO, eO, fO⟩ := va_Tof (f := fun j => .long (ord0 j)) (A := A) (by decide) aO bO cO hA
  exact ⟨tO, va_Zof (hts _ nl_O) (hts _ nn_T) eO hA, fO, va_Nw.of rfl (hts _ nw_9)⟩
theorem lk_init {w1 : Nat → Int32} (h : ∀ j, j < 7 → w1 j = rules0 j) : LkA w1 21 17 0 1 1 1 3 (fun _ => 0) (fun _ => 0) 0 (fun _ => 0) (fun _ => 0) (fun _ => 0) 0 (fun _ => 0) (fun _ => 0) 0 (fun _ => 0) (fun _ => 0) (fun _ => 0) 0 0 false (fun _ => 0) (fun _ => 0) 0 (-1) 0 false := by
  have z : cntI (fun _ => 0) (fun _ => 0) := fun j _ _ => ⟨(by decide : (0 : Int32) = nI 0), Nat.zero_le _⟩
  have s0 : (0 : Int32) = sm10 (fun _ => 0) := by decide
  refine ⟨⟨?_, ?_, ?_, ?_, ?_, ?_, ?_, by omega, by omega, by decide, by decide⟩, ⟨⟨z, z, s0⟩, ⟨fun _ _ _ => rfl, s0⟩, fun _ => ⟨fun _ => 0, fun j _ _ => ⟨(by decide : (0 : Int32) = nI 0), rfl⟩⟩, lk_h0 _ _, lk_u0⟩, ⟨z, z, s0⟩, fun j _ _ => ⟨rfl, (by decide : -3 ≤ (0 : Int32).toInt), (by decide : (0 : Int32).toInt ≤ 3)⟩⟩
  · rw [h 0 (by decide)]; decide
  · rw [h 1 (by decide)]; rfl
  · rw [h 2 (by decide)]; rfl
  · rw [h 3 (by decide)]; rfl
  · rw [h 4 (by decide)]; rfl
  · rw [h 5 (by decide)]; rfl
  · rw [h 6 (by decide)]; rfl
theorem go_on {L i : Nat} (hL : L ≤ 1536) (hi : i ≤ L + 3) (h : ¬ (nI L - 3) < nI i) : i + 2 < L := by
  rw [ltI, toInt_nI (by omega), i32_sub (by rw [toInt_nI (by omega), t3]; omega) (by rw [toInt_nI (by omega), t3]; omega), toInt_nI (by omega), t3] at h
  omega
