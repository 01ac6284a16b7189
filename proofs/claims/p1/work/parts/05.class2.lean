set_option maxRecDepth 20000 in
theorem wd_X2_init_0 : Cond.methodLink RX2 5 objectInit ∈ wsX2_init := by decide +kernel
set_option maxRecDepth 20000 in
theorem wd_X2_init_1 : Cond.instanceMethod objectInit ∈ wsX2_init := by decide +kernel
set_option maxRecDepth 20000 in
theorem wd_X2_init_2 : Cond.code objectInit ⟨#[0xb1]⟩ 1 none ∈ wsX2_init := by decide +kernel
set_option maxRecDepth 20000 in
theorem wd_X2_init_3 : Cond.classLink RX2 11 "[[J" ∈ wsX2_init := by decide +kernel
set_option maxRecDepth 20000 in
theorem wd_X2_init_4 : Cond.arrayClass .long ∈ wsX2_init := by decide +kernel
set_option maxRecDepth 20000 in
theorem in_X2_init_X2 : ∀ w ∈ wsX20, w ∈ wsX2_init := by decide +kernel
set_option maxRecDepth 20000 in
theorem wd_X2_init_5 : Cond.fieldLink RX2 13 "ShoeTable$Heaps" "ways" "[[J" ∈ wsX2_init := by decide +kernel
set_option maxHeartbeats 400000 in
set_option maxRecDepth 100000 in
/-- X2_init -/
theorem c_X2_init (l : Launch) (D : va_G) (cI cJ cQ : ClassId) (sz : Nat) (h0 : Nat)  : Met l yX2_init wsX2_init ({ frames := 1, cells := 10, slots := 450, locals := 12 }) (va_Pc [.ref h0] (mPn D (gTy cI cJ cQ) [(h0, .inr (2, [.null]))] sz)) (va_Qv (fun (u : Unit) => match u with | _ => True) (fun (u : Unit) t => match u with | _ => ∃ (h1 : Nat), mB D (gTy cI cJ cQ) (va_A [(h0, .inr (2, [.null]))] sz) [(h0, .inr (2, [.ref h1]))] t) (va_A [(h0, .inr (2, [.null]))] sz)) 10 450 (va_A [(h0, .inr (2, [.null]))] sz) := by
  refine Met.ofW (cc := cX2_init) (maxL := 1) (ret := none) (by decide) rfl ?_
  intro p e s m args below meth c s₁ B hml hv
  obtain ⟨rfl, ⟨hsz, hP, hK, hD0⟩, hZ⟩ := hv
  have hx := B.exec
  have hb := B.bytes
  have hr := B.returns
  have hts := atoms_spec (ws := wsX2_init) B.pre
  have hown : s.vm.findClass RX2 = some m.cls := findClass_of_methodNamed B.named
  have hlocks := B.notSynchronized
  have hin : meth.name = "<init>" := (name_of_methodNamed B.named B.method).1
  subst hsz
  have hD := hD0.self (sz := s.heap.size)
  generalize hAe : va_A [(h0, .inr (2, [.null]))] s.heap.size = A at hD ⊢
  have hA : ∀ q : Nat, s.heap.size ≤ q → A q := fun q h => by rw [← hAe]; exact Or.inr h
  have hS : va_S A s.heap s.heap [] := va_S.rf
  have hP : va_P D vwCl [(h0, .inr (2, [.null]))] s.heap := hP
  have hl := lv_entry ([.ref h0]) (n := 1) (Nat.le_of_ble_eq_true rfl)
  rw [lg_entry_eq]
  generalize (lg_sl ([.ref h0]) ++ List.replicate (1 - (lg_sl ([.ref h0])).length) Slot.unset).toArray = ls at hl ⊢
  have hl : lv_has ls 1 [(0, .ref h0)] := hl
  refine lv_aload_n hx hb dX2_init_0 rfl (lv_at hl 0 rfl) ?_
  refine W.objInit hx hb hown (hts _ wd_X2_init_0) (hts _ wd_X2_init_1) (hts _ wd_X2_init_2) rfl (by rw [hml]; exact hl.1) rfl dX2_init_1 (Nat.le_of_ble_eq_true rfl) (Nat.le_of_ble_eq_true rfl) ?_
  refine W.eq (g2 := F0 m 4 ls []) rfl ?_
  refine lv_aload_n hx hb dX2_init_4 rfl (lv_at hl 0 rfl) ?_
  refine lv_bipush (v := 9) hx hb dX2_init_5 (by decide) ?_
  refine lv_bipush (v := 49) hx hb dX2_init_7 (by decide) ?_
  refine va_mna (X := [(h0, .inr (2, [.null]))]) (L := []) (f := fun _ => .inr (0, [])) (ty := .long) (cy := cJ) (N' := 9) (K' := 49) (z := (49, .inr (.inl (fun _ => 0)))) hx hb hown (hts _ wd_X2_init_3) hZ.2.2.2.2.2.2.2.2 (hts _ wd_X2_init_4) (hK.2 1 _ rfl).2 hK hP hD hS hA (by decide) (by decide) (by decide) (by decide) (Nat.le_of_ble_eq_true rfl) (Nat.le_of_ble_eq_true rfl) (Nat.le_of_ble_eq_true rfl) rfl rfl (Nat.le_of_ble_eq_true rfl) (Nat.le_of_ble_eq_true rfl) (fun c => newRow c 49) dX2_init_9 (fun q_1 _ _ H _ _ _ hP hD hS => ?_)
  have hP := hP.sub (ws' := [(h0, .inr (2, [.null]))]) [0] rfl
  have hD := hD.sub (ws' := [(h0, .inr (2, [.null]))]) [0] (by decide) rfl
  refine W.widen (k := 10) (n := 450) (by omega) (by omega) ?_
  refine va_putF (D := D) (ci := 2) (v := .ref q_1) (ty := .array (.array .long)) (C := RX2) (T := TX2) (N := 1) hx hb hts in_X2_init_X2 tyX2 tyX2_ok nmX2 hown hK hP hD hS 0 rfl rfl 0 (by decide) (hts _ wd_X2_init_5) (fun _ h9 => h9) rfl hin rfl (by decide +kernel) rfl rfl (Nat.le_of_ble_eq_true rfl) dX2_init_13 (fun H locs hP hD hS => ?_)
  have hP : va_P D vwCl [(h0, .inr (2, [.ref q_1]))] H := hP
  have hD : va_D A [(h0, .inr (2, [.ref q_1]))] := hD
  have hP9 := hP.sub (ws' := [(h0, .inr (2, [.ref q_1]))]) [0] rfl
  have hD9 := hD.sub (ws' := [(h0, .inr (2, [.ref q_1]))]) [0] (by decide) rfl
  refine W.widen (k := 10) (n := 450) (Nat.le_of_ble_eq_true rfl) (Nat.le_of_ble_eq_true rfl) ?_
  exact W.vret hx hb hr (fun t ht hW => ⟨⟨(), rfl, (by first | rfl | trivial | (simp []; done) | rfl | (simp_all; done)), q_1, by rw [ht]; exact hP9, va_K.moved hW.alike hK, hD9⟩, hS.F ht⟩) hS.2.2 dX2_init_16

set_option maxRecDepth 20000 in
theorem wd_X5_init_0 : Cond.methodLink RX5 1 objectInit ∈ wsX5_init := by decide +kernel
set_option maxRecDepth 20000 in
theorem wd_X5_init_1 : Cond.instanceMethod objectInit ∈ wsX5_init := by decide +kernel
set_option maxRecDepth 20000 in
theorem wd_X5_init_2 : Cond.code objectInit ⟨#[0xb1]⟩ 1 none ∈ wsX5_init := by decide +kernel
set_option maxRecDepth 20000 in
theorem in_X5_init_X4 : ∀ w ∈ wsX40, w ∈ wsX5_init := by decide +kernel
set_option maxRecDepth 20000 in
theorem wd_X5_init_3 : Cond.classLink RX5 7 RX4 ∈ wsX5_init := by decide +kernel
set_option maxRecDepth 20000 in
theorem wd_X5_init_4 : Cond.instantiable RX4 1 ∈ wsX5_init := by decide +kernel
set_option maxRecDepth 20000 in
theorem wd_X5_init_5 : Cond.initialized RX4 ∈ wsX5_init := by decide +kernel
set_option maxRecDepth 20000 in
theorem wd_X5_init_6 : Cond.instanceMethod yX4_init ∈ wsX5_init := by decide +kernel
set_option maxRecDepth 20000 in
theorem in_X5_init_X5 : ∀ w ∈ wsX50, w ∈ wsX5_init := by decide +kernel
set_option maxRecDepth 20000 in
theorem wd_X5_init_7 : Cond.fieldLink RX5 10 "ShoeTable" "rules" "LShoeTable$Rules;" ∈ wsX5_init := by decide +kernel
set_option maxRecDepth 20000 in
theorem in_X5_init_X0 : ∀ w ∈ wsX00, w ∈ wsX5_init := by decide +kernel
set_option maxRecDepth 20000 in
theorem wd_X5_init_8 : Cond.classLink RX5 16 RX0 ∈ wsX5_init := by decide +kernel
set_option maxRecDepth 20000 in
theorem wd_X5_init_9 : Cond.instantiable RX0 2 ∈ wsX5_init := by decide +kernel
set_option maxRecDepth 20000 in
theorem wd_X5_init_10 : Cond.initialized RX0 ∈ wsX5_init := by decide +kernel
set_option maxRecDepth 20000 in
theorem wd_X5_init_11 : Cond.instanceMethod yX0_init ∈ wsX5_init := by decide +kernel
set_option maxRecDepth 20000 in
theorem wd_X5_init_12 : Cond.fieldLink RX5 19 "ShoeTable" "cards" "LShoeTable$Cards;" ∈ wsX5_init := by decide +kernel
set_option maxRecDepth 20000 in
theorem wd_X5_init_13 : Cond.fieldLink RX5 23 "ShoeTable" "gone" "LShoeTable$Cards;" ∈ wsX5_init := by decide +kernel
set_option maxRecDepth 20000 in
theorem wd_X5_init_14 : Cond.fieldLink RX5 26 "ShoeTable" "atFresh" "LShoeTable$Cards;" ∈ wsX5_init := by decide +kernel
set_option maxRecDepth 20000 in
theorem in_X5_init_X1 : ∀ w ∈ wsX10, w ∈ wsX5_init := by decide +kernel
set_option maxRecDepth 20000 in
theorem wd_X5_init_15 : Cond.classLink RX5 29 RX1 ∈ wsX5_init := by decide +kernel
set_option maxRecDepth 20000 in
theorem wd_X5_init_16 : Cond.instantiable RX1 4 ∈ wsX5_init := by decide +kernel
set_option maxRecDepth 20000 in
theorem wd_X5_init_17 : Cond.initialized RX1 ∈ wsX5_init := by decide +kernel
set_option maxRecDepth 20000 in
theorem wd_X5_init_18 : Cond.instanceMethod yX1_init ∈ wsX5_init := by decide +kernel
set_option maxRecDepth 20000 in
theorem wd_X5_init_19 : Cond.fieldLink RX5 32 "ShoeTable" "hand" "LShoeTable$Hand;" ∈ wsX5_init := by decide +kernel
set_option maxRecDepth 20000 in
theorem wd_X5_init_20 : Cond.arrayClass .int ∈ wsX5_init := by decide +kernel
set_option maxRecDepth 20000 in
theorem wd_X5_init_21 : Cond.fieldLink RX5 36 "ShoeTable" "marks" "[I" ∈ wsX5_init := by decide +kernel
set_option maxRecDepth 20000 in
theorem in_X5_init_X3 : ∀ w ∈ wsX30, w ∈ wsX5_init := by decide +kernel
set_option maxRecDepth 20000 in
theorem wd_X5_init_22 : Cond.classLink RX5 40 RX3 ∈ wsX5_init := by decide +kernel
set_option maxRecDepth 20000 in
theorem wd_X5_init_23 : Cond.instantiable RX3 15 ∈ wsX5_init := by decide +kernel
set_option maxRecDepth 20000 in
theorem wd_X5_init_24 : Cond.initialized RX3 ∈ wsX5_init := by decide +kernel
set_option maxRecDepth 20000 in
theorem wd_X5_init_25 : Cond.instanceMethod yX3_init ∈ wsX5_init := by decide +kernel
set_option maxRecDepth 20000 in
theorem wd_X5_init_26 : Cond.fieldLink RX5 43 "ShoeTable" "odds" "LShoeTable$Odds;" ∈ wsX5_init := by decide +kernel
set_option maxRecDepth 20000 in
theorem in_X5_init_X2 : ∀ w ∈ wsX20, w ∈ wsX5_init := by decide +kernel
set_option maxRecDepth 20000 in
theorem wd_X5_init_27 : Cond.classLink RX5 47 RX2 ∈ wsX5_init := by decide +kernel
set_option maxRecDepth 20000 in
theorem wd_X5_init_28 : Cond.instantiable RX2 1 ∈ wsX5_init := by decide +kernel
set_option maxRecDepth 20000 in
theorem wd_X5_init_29 : Cond.initialized RX2 ∈ wsX5_init := by decide +kernel
set_option maxRecDepth 20000 in
theorem wd_X5_init_30 : Cond.instanceMethod yX2_init ∈ wsX5_init := by decide +kernel
set_option maxRecDepth 20000 in
theorem wd_X5_init_31 : Cond.fieldLink RX5 50 "ShoeTable" "heaps" "LShoeTable$Heaps;" ∈ wsX5_init := by decide +kernel
set_option maxRecDepth 20000 in
theorem wd_X5_init_32 : Cond.fieldLink RX5 54 "ShoeTable" "up" "I" ∈ wsX5_init := by decide +kernel
set_option maxRecDepth 20000 in
theorem wd_X5_init_33 : Cond.fieldLink RX5 58 "ShoeTable" "bank" "I" ∈ wsX5_init := by decide +kernel
set_option maxRecDepth 20000 in
theorem wd_X5_init_34 : Cond.fieldLink RX5 61 "ShoeTable" "chain" "J" ∈ wsX5_init := by decide +kernel
set_option maxRecDepth 20000 in
theorem wd_X5_init_35 : Cond.fieldLink RX5 65 "ShoeTable" "shoeTold" "Z" ∈ wsX5_init := by decide +kernel
set_option maxHeartbeats 400000 in
set_option maxRecDepth 100000 in
/-- X5_init -/
theorem c_X5_init (l : Launch) (D : va_G) (cI cJ cQ : ClassId) (sz : Nat) (h0 : Nat)  : Met l yX5_init wsX5_init ({ frames := 3, cells := 37, slots := 9839, locals := 52 }) (va_Pc [.ref h0] (mPn D (gTy cI cJ cQ) [(h0, .inr (5, [.null, .null, .null, .null, .null, .null, .null, .null, .int 0, .int 0, .long 0, .int 0]))] sz)) (va_Qv (fun (u : (Nat → Int32) × (Nat → Int32)) => match u with | (w1, w2) => ∀ j, j < 7 → w1 j = rules0 j) (fun (u : (Nat → Int32) × (Nat → Int32)) t => match u with | (w1, w2) => ∃ (tr tc tg tf th tm to tp o0 o1 o2 o3 o4 o5 o6 o7 o8 o9 ur uc ug uf uh v0 v1 v3 : Nat), mB D (gTy cI cJ cQ) (va_A [(h0, .inr (5, [.null, .null, .null, .null, .null, .null, .null, .null, .int 0, .int 0, .long 0, .int 0]))] sz) [(h0, .inr (5, [.ref tr, .ref tc, .ref tg, .ref tf, .ref th, .ref tm, .ref to, .ref tp, .int (-1), .int 0, .long 1, .int 0])), (tr, .inr (4, [.ref ur])), (ur, .inl (cI, 7, .inl w1)), (tc, .inr (0, [.ref uc, .int 0])), (uc, .inl (cI, 11, .inl (fun _ => 0))), (tg, .inr (0, [.ref ug, .int 0])), (ug, .inl (cI, 11, .inl (fun _ => 0))), (tf, .inr (0, [.ref uf, .int 0])), (uf, .inl (cI, 11, .inl (fun _ => 0))), (th, .inr (1, [.ref uh, .int 0, .int 0, .int 0])), (uh, .inl (cI, 12, .inl (fun _ => 0))), (tm, .inl (cI, 11, .inl (fun _ => 0))), (to, .inr (3, [.ref o0, .ref o1, .ref o2, .ref o3, .int (-1), .int (-1), .long 0, .ref o4, .ref o5, .ref o6, .ref o7, .int 0, .ref o8, .ref o9, .int 0])), (o0, .inr (4, [.ref v0])), (v0, .inl (cI, 7, .inl w2)), (o1, .inr (0, [.ref v1, .int 0])), (v1, .inl (cI, 11, .inl (fun _ => 0))), (o3, .inr (1, [.ref v3, .int 0, .int 0, .int 0])), (v3, .inl (cI, 12, .inl (fun _ => 0)))] t) (va_A [(h0, .inr (5, [.null, .null, .null, .null, .null, .null, .null, .null, .int 0, .int 0, .long 0, .int 0]))] sz)) 37 9839 (va_A [(h0, .inr (5, [.null, .null, .null, .null, .null, .null, .null, .null, .int 0, .int 0, .long 0, .int 0]))] sz) := by
  refine Met.ofW (cc := cX5_init) (maxL := 1) (ret := none) (by decide) rfl ?_
  intro p e s m args below meth c s₁ B hml hv
  obtain ⟨rfl, ⟨hsz, hP, hK, hD0⟩, hZ⟩ := hv
  have hx := B.exec
  have hb := B.bytes
  have hr := B.returns
  have hts := atoms_spec (ws := wsX5_init) B.pre
  have hown : s.vm.findClass RX5 = some m.cls := findClass_of_methodNamed B.named
  have hlocks := B.notSynchronized
  have hin : meth.name = "<init>" := (name_of_methodNamed B.named B.method).1
  subst hsz
  have hD := hD0.self (sz := s.heap.size)
  generalize hAe : va_A [(h0, .inr (5, [.null, .null, .null, .null, .null, .null, .null, .null, .int 0, .int 0, .long 0, .int 0]))] s.heap.size = A at hD ⊢
  have hA : ∀ q : Nat, s.heap.size ≤ q → A q := fun q h => by rw [← hAe]; exact Or.inr h
  have hS : va_S A s.heap s.heap [] := va_S.rf
  have hP : va_P D vwCl [(h0, .inr (5, [.null, .null, .null, .null, .null, .null, .null, .null, .int 0, .int 0, .long 0, .int 0]))] s.heap := hP
  have hl := lv_entry ([.ref h0]) (n := 1) (Nat.le_of_ble_eq_true rfl)
  rw [lg_entry_eq]
  generalize (lg_sl ([.ref h0]) ++ List.replicate (1 - (lg_sl ([.ref h0])).length) Slot.unset).toArray = ls at hl ⊢
  have hl : lv_has ls 1 [(0, .ref h0)] := hl
  refine lv_aload_n hx hb dX5_init_0 rfl (lv_at hl 0 rfl) ?_
  refine W.objInit hx hb hown (hts _ wd_X5_init_0) (hts _ wd_X5_init_1) (hts _ wd_X5_init_2) rfl (by rw [hml]; exact hl.1) rfl dX5_init_1 (Nat.le_of_ble_eq_true rfl) (Nat.le_of_ble_eq_true rfl) ?_
  refine W.eq (g2 := F0 m 4 ls []) rfl ?_
  refine lv_aload_n hx hb dX5_init_4 rfl (lv_at hl 0 rfl) ?_
  refine va_new (ci := 4) (fs := [.null]) (C := RX4) (T := TX4) (N := 1) hx hb hts in_X5_init_X4 tyX4 tyX4_ok hown (hts _ wd_X5_init_3) (hts _ wd_X5_init_4) (hts _ wd_X5_init_5) hK hP hD hS hA rfl (fun j hj => by rcases (show j = 0 by omega) with rfl <;> rfl) (Nat.le_of_ble_eq_true rfl) (Nat.le_of_ble_eq_true rfl) dX5_init_5 (fun q_1 H hP hD hS => ?_)
  have hP : va_P D vwCl [(h0, .inr (5, [.null, .null, .null, .null, .null, .null, .null, .null, .int 0, .int 0, .long 0, .int 0])), (q_1, .inr (4, [.null]))] H := hP
  have hD : va_D A [(h0, .inr (5, [.null, .null, .null, .null, .null, .null, .null, .null, .int 0, .int 0, .long 0, .int 0])), (q_1, .inr (4, [.null]))] := hD
  refine W.widen (k := 1) (n := 1) (by omega) (by omega) ?_
  refine lv_dup hx hb dX5_init_8 rfl ?_
  have hPc := hP.sub (ws' := [(q_1, .inr (4, [.null]))]) [1] rfl
  have hDc := hD.sub (ws' := [(q_1, .inr (4, [.null]))]) [1] (by decide) rfl
  have hFc := va_free (wc := [(q_1, .inr (4, [.null]))]) hD hS hA [1] rfl
  refine va_callv (va_runIN (As := []) (rest := [.ref q_1, .ref h0]) ⟨hx, hb, hml, hown, hts⟩ (c_X4_init l D cI cJ cQ _ q_1) (⟨va_cnB 0 hts gX5_init_X4_init_n9 rfl rfl rfl hZ.1 (hts _ wd_X5_init_5) (by decide +kernel) ⟨Nat.le_of_ble_eq_true rfl, Nat.le_of_ble_eq_true rfl⟩, rfl, (hts _ wd_X5_init_6)⟩) (mP_preS hPc hK hDc) rfl rfl hl.1 rfl (lv_room (Nat.le_of_ble_eq_true rfl)) dX5_init_9 ⟨Nat.le_of_ble_eq_true rfl, Nat.le_of_ble_eq_true rfl⟩) hS (fun q _ h => hFc q h) hFc (fun u_r_2 t H1 locs ht hvm hr_2 hB hz1 hk1 hS => ?_)
  obtain ⟨w2_3, rfl⟩ : ∃ z, z = u_r_2 := ⟨_, rfl⟩
  obtain ⟨h1_4, hP1, hK1, hD1⟩ := hB
  rw [ht] at hP1
  try dsimp only at hr_2
  obtain ⟨hP, hD⟩ := va_join (wr := [(h0, .inr (5, [.null, .null, .null, .null, .null, .null, .null, .null, .int 0, .int 0, .long 0, .int 0]))]) (w1 := [(q_1, .inr (4, [.ref h1_4])), (h1_4, .inl (cI, 7, .inl w2_3))]) hP hD [1] [0] rfl rfl (by decide) (by decide) hk1 hFc hP1 hD1
  generalize H1 = H at hP hS ⊢
  have hP : va_P D vwCl [(h0, .inr (5, [.null, .null, .null, .null, .null, .null, .null, .null, .int 0, .int 0, .long 0, .int 0])), (q_1, .inr (4, [.ref h1_4])), (h1_4, .inl (cI, 7, .inl w2_3))] H := hP
  have hD : va_D A [(h0, .inr (5, [.null, .null, .null, .null, .null, .null, .null, .null, .int 0, .int 0, .long 0, .int 0])), (q_1, .inr (4, [.ref h1_4])), (h1_4, .inl (cI, 7, .inl w2_3))] := hD
  refine W.widen (k := 2) (n := 8) (by omega) (by omega) ?_
  refine va_putF (D := D) (ci := 5) (v := .ref q_1) (ty := .object "ShoeTable$Rules") (C := RX5) (T := TX5) (N := 12) hx hb hts in_X5_init_X5 tyX5 tyX5_ok nmX5 hown hK hP hD hS 0 rfl rfl 0 (by decide) (hts _ wd_X5_init_7) (fun _ h9 => h9) rfl hin rfl (by decide +kernel) rfl rfl (Nat.le_of_ble_eq_true rfl) dX5_init_12 (fun H locs hP hD hS => ?_)
  have hP : va_P D vwCl [(h0, .inr (5, [.ref q_1, .null, .null, .null, .null, .null, .null, .null, .int 0, .int 0, .long 0, .int 0])), (q_1, .inr (4, [.ref h1_4])), (h1_4, .inl (cI, 7, .inl w2_3))] H := hP
  have hD : va_D A [(h0, .inr (5, [.ref q_1, .null, .null, .null, .null, .null, .null, .null, .int 0, .int 0, .long 0, .int 0])), (q_1, .inr (4, [.ref h1_4])), (h1_4, .inl (cI, 7, .inl w2_3))] := hD
  refine lv_aload_n hx hb dX5_init_15 rfl (lv_at hl 0 rfl) ?_
  refine va_new (ci := 0) (fs := [.null, .int 0]) (C := RX0) (T := TX0) (N := 2) hx hb hts in_X5_init_X0 tyX0 tyX0_ok hown (hts _ wd_X5_init_8) (hts _ wd_X5_init_9) (hts _ wd_X5_init_10) hK hP hD hS hA rfl (fun j hj => by rcases (show j = 0 ∨ j = 1 by omega) with rfl | rfl <;> rfl) (Nat.le_of_ble_eq_true rfl) (Nat.le_of_ble_eq_true rfl) dX5_init_16 (fun q_5 H hP hD hS => ?_)
  have hP : va_P D vwCl [(h0, .inr (5, [.ref q_1, .null, .null, .null, .null, .null, .null, .null, .int 0, .int 0, .long 0, .int 0])), (q_1, .inr (4, [.ref h1_4])), (h1_4, .inl (cI, 7, .inl w2_3)), (q_5, .inr (0, [.null, .int 0]))] H := hP
  have hD : va_D A [(h0, .inr (5, [.ref q_1, .null, .null, .null, .null, .null, .null, .null, .int 0, .int 0, .long 0, .int 0])), (q_1, .inr (4, [.ref h1_4])), (h1_4, .inl (cI, 7, .inl w2_3)), (q_5, .inr (0, [.null, .int 0]))] := hD
  refine W.widen (k := 3) (n := 10) (by omega) (by omega) ?_
  refine lv_dup hx hb dX5_init_19 rfl ?_
  have hPc := hP.sub (ws' := [(q_5, .inr (0, [.null, .int 0]))]) [3] rfl
  have hDc := hD.sub (ws' := [(q_5, .inr (0, [.null, .int 0]))]) [3] (by decide) rfl
  have hFc := va_free (wc := [(q_5, .inr (0, [.null, .int 0]))]) hD hS hA [3] rfl
  refine va_callv (va_runIN (As := []) (rest := [.ref q_5, .ref h0]) ⟨hx, hb, hml, hown, hts⟩ (c_X0_init l D cI cJ cQ _ q_5) (⟨va_cnB 0 hts gX5_init_X0_init_n18 rfl rfl rfl hZ.2.1 (hts _ wd_X5_init_10) (by decide +kernel) ⟨Nat.le_of_ble_eq_true rfl, Nat.le_of_ble_eq_true rfl⟩, rfl, (hts _ wd_X5_init_11)⟩) (mP_preS hPc hK hDc) rfl rfl hl.1 rfl (lv_room (Nat.le_of_ble_eq_true rfl)) dX5_init_20 ⟨Nat.le_of_ble_eq_true rfl, Nat.le_of_ble_eq_true rfl⟩) hS (fun q _ h => hFc q h) hFc (fun u_r_6 t H1 locs ht hvm hr_6 hB hz1 hk1 hS => ?_)
  obtain ⟨h1_7, hP1, hK1, hD1⟩ := hB
  rw [ht] at hP1
  try dsimp only at hr_6
  obtain ⟨hP, hD⟩ := va_join (wr := [(h0, .inr (5, [.ref q_1, .null, .null, .null, .null, .null, .null, .null, .int 0, .int 0, .long 0, .int 0])), (q_1, .inr (4, [.ref h1_4])), (h1_4, .inl (cI, 7, .inl w2_3))]) (w1 := [(q_5, .inr (0, [.ref h1_7, .int 0])), (h1_7, .inl (cI, 11, .inl (fun _ => 0)))]) hP hD [3] [0, 1, 2] rfl rfl (by decide) (by decide) hk1 hFc hP1 hD1
  generalize H1 = H at hP hS ⊢
  have hP : va_P D vwCl [(h0, .inr (5, [.ref q_1, .null, .null, .null, .null, .null, .null, .null, .int 0, .int 0, .long 0, .int 0])), (q_1, .inr (4, [.ref h1_4])), (h1_4, .inl (cI, 7, .inl w2_3)), (q_5, .inr (0, [.ref h1_7, .int 0])), (h1_7, .inl (cI, 11, .inl (fun _ => 0)))] H := hP
  have hD : va_D A [(h0, .inr (5, [.ref q_1, .null, .null, .null, .null, .null, .null, .null, .int 0, .int 0, .long 0, .int 0])), (q_1, .inr (4, [.ref h1_4])), (h1_4, .inl (cI, 7, .inl w2_3)), (q_5, .inr (0, [.ref h1_7, .int 0])), (h1_7, .inl (cI, 11, .inl (fun _ => 0)))] := hD
  refine W.widen (k := 4) (n := 21) (by omega) (by omega) ?_
  refine va_putF (D := D) (ci := 5) (v := .ref q_5) (ty := .object "ShoeTable$Cards") (C := RX5) (T := TX5) (N := 12) hx hb hts in_X5_init_X5 tyX5 tyX5_ok nmX5 hown hK hP hD hS 0 rfl rfl 1 (by decide) (hts _ wd_X5_init_12) (fun _ h9 => h9) rfl hin rfl (by decide +kernel) rfl rfl (Nat.le_of_ble_eq_true rfl) dX5_init_23 (fun H locs hP hD hS => ?_)
  have hP : va_P D vwCl [(h0, .inr (5, [.ref q_1, .ref q_5, .null, .null, .null, .null, .null, .null, .int 0, .int 0, .long 0, .int 0])), (q_1, .inr (4, [.ref h1_4])), (h1_4, .inl (cI, 7, .inl w2_3)), (q_5, .inr (0, [.ref h1_7, .int 0])), (h1_7, .inl (cI, 11, .inl (fun _ => 0)))] H := hP
  have hD : va_D A [(h0, .inr (5, [.ref q_1, .ref q_5, .null, .null, .null, .null, .null, .null, .int 0, .int 0, .long 0, .int 0])), (q_1, .inr (4, [.ref h1_4])), (h1_4, .inl (cI, 7, .inl w2_3)), (q_5, .inr (0, [.ref h1_7, .int 0])), (h1_7, .inl (cI, 11, .inl (fun _ => 0)))] := hD
  refine lv_aload_n hx hb dX5_init_26 rfl (lv_at hl 0 rfl) ?_
  refine va_new (ci := 0) (fs := [.null, .int 0]) (C := RX0) (T := TX0) (N := 2) hx hb hts in_X5_init_X0 tyX0 tyX0_ok hown (hts _ wd_X5_init_8) (hts _ wd_X5_init_9) (hts _ wd_X5_init_10) hK hP hD hS hA rfl (fun j hj => by rcases (show j = 0 ∨ j = 1 by omega) with rfl | rfl <;> rfl) (Nat.le_of_ble_eq_true rfl) (Nat.le_of_ble_eq_true rfl) dX5_init_27 (fun q_8 H hP hD hS => ?_)
  have hP : va_P D vwCl [(h0, .inr (5, [.ref q_1, .ref q_5, .null, .null, .null, .null, .null, .null, .int 0, .int 0, .long 0, .int 0])), (q_1, .inr (4, [.ref h1_4])), (h1_4, .inl (cI, 7, .inl w2_3)), (q_5, .inr (0, [.ref h1_7, .int 0])), (h1_7, .inl (cI, 11, .inl (fun _ => 0))), (q_8, .inr (0, [.null, .int 0]))] H := hP
  have hD : va_D A [(h0, .inr (5, [.ref q_1, .ref q_5, .null, .null, .null, .null, .null, .null, .int 0, .int 0, .long 0, .int 0])), (q_1, .inr (4, [.ref h1_4])), (h1_4, .inl (cI, 7, .inl w2_3)), (q_5, .inr (0, [.ref h1_7, .int 0])), (h1_7, .inl (cI, 11, .inl (fun _ => 0))), (q_8, .inr (0, [.null, .int 0]))] := hD
  refine W.widen (k := 5) (n := 23) (by omega) (by omega) ?_
  refine lv_dup hx hb dX5_init_30 rfl ?_
  have hPc := hP.sub (ws' := [(q_8, .inr (0, [.null, .int 0]))]) [5] rfl
  have hDc := hD.sub (ws' := [(q_8, .inr (0, [.null, .int 0]))]) [5] (by decide) rfl
  have hFc := va_free (wc := [(q_8, .inr (0, [.null, .int 0]))]) hD hS hA [5] rfl
  refine va_callv (va_runIN (As := []) (rest := [.ref q_8, .ref h0]) ⟨hx, hb, hml, hown, hts⟩ (c_X0_init l D cI cJ cQ _ q_8) (⟨va_cnB 0 hts gX5_init_X0_init_n18 rfl rfl rfl hZ.2.1 (hts _ wd_X5_init_10) (by decide +kernel) ⟨Nat.le_of_ble_eq_true rfl, Nat.le_of_ble_eq_true rfl⟩, rfl, (hts _ wd_X5_init_11)⟩) (mP_preS hPc hK hDc) rfl rfl hl.1 rfl (lv_room (Nat.le_of_ble_eq_true rfl)) dX5_init_31 ⟨Nat.le_of_ble_eq_true rfl, Nat.le_of_ble_eq_true rfl⟩) hS (fun q _ h => hFc q h) hFc (fun u_r_9 t H1 locs ht hvm hr_9 hB hz1 hk1 hS => ?_)
  obtain ⟨h1_10, hP1, hK1, hD1⟩ := hB
  rw [ht] at hP1
  try dsimp only at hr_9
  obtain ⟨hP, hD⟩ := va_join (wr := [(h0, .inr (5, [.ref q_1, .ref q_5, .null, .null, .null, .null, .null, .null, .int 0, .int 0, .long 0, .int 0])), (q_1, .inr (4, [.ref h1_4])), (h1_4, .inl (cI, 7, .inl w2_3)), (q_5, .inr (0, [.ref h1_7, .int 0])), (h1_7, .inl (cI, 11, .inl (fun _ => 0)))]) (w1 := [(q_8, .inr (0, [.ref h1_10, .int 0])), (h1_10, .inl (cI, 11, .inl (fun _ => 0)))]) hP hD [5] [0, 1, 2, 3, 4] rfl rfl (by decide) (by decide) hk1 hFc hP1 hD1
  generalize H1 = H at hP hS ⊢
  have hP : va_P D vwCl [(h0, .inr (5, [.ref q_1, .ref q_5, .null, .null, .null, .null, .null, .null, .int 0, .int 0, .long 0, .int 0])), (q_1, .inr (4, [.ref h1_4])), (h1_4, .inl (cI, 7, .inl w2_3)), (q_5, .inr (0, [.ref h1_7, .int 0])), (h1_7, .inl (cI, 11, .inl (fun _ => 0))), (q_8, .inr (0, [.ref h1_10, .int 0])), (h1_10, .inl (cI, 11, .inl (fun _ => 0)))] H := hP
  have hD : va_D A [(h0, .inr (5, [.ref q_1, .ref q_5, .null, .null, .null, .null, .null, .null, .int 0, .int 0, .long 0, .int 0])), (q_1, .inr (4, [.ref h1_4])), (h1_4, .inl (cI, 7, .inl w2_3)), (q_5, .inr (0, [.ref h1_7, .int 0])), (h1_7, .inl (cI, 11, .inl (fun _ => 0))), (q_8, .inr (0, [.ref h1_10, .int 0])), (h1_10, .inl (cI, 11, .inl (fun _ => 0)))] := hD
  refine W.widen (k := 6) (n := 34) (by omega) (by omega) ?_
  refine va_putF (D := D) (ci := 5) (v := .ref q_8) (ty := .object "ShoeTable$Cards") (C := RX5) (T := TX5) (N := 12) hx hb hts in_X5_init_X5 tyX5 tyX5_ok nmX5 hown hK hP hD hS 0 rfl rfl 2 (by decide) (hts _ wd_X5_init_13) (fun _ h9 => h9) rfl hin rfl (by decide +kernel) rfl rfl (Nat.le_of_ble_eq_true rfl) dX5_init_34 (fun H locs hP hD hS => ?_)
  have hP : va_P D vwCl [(h0, .inr (5, [.ref q_1, .ref q_5, .ref q_8, .null, .null, .null, .null, .null, .int 0, .int 0, .long 0, .int 0])), (q_1, .inr (4, [.ref h1_4])), (h1_4, .inl (cI, 7, .inl w2_3)), (q_5, .inr (0, [.ref h1_7, .int 0])), (h1_7, .inl (cI, 11, .inl (fun _ => 0))), (q_8, .inr (0, [.ref h1_10, .int 0])), (h1_10, .inl (cI, 11, .inl (fun _ => 0)))] H := hP
  have hD : va_D A [(h0, .inr (5, [.ref q_1, .ref q_5, .ref q_8, .null, .null, .null, .null, .null, .int 0, .int 0, .long 0, .int 0])), (q_1, .inr (4, [.ref h1_4])), (h1_4, .inl (cI, 7, .inl w2_3)), (q_5, .inr (0, [.ref h1_7, .int 0])), (h1_7, .inl (cI, 11, .inl (fun _ => 0))), (q_8, .inr (0, [.ref h1_10, .int 0])), (h1_10, .inl (cI, 11, .inl (fun _ => 0)))] := hD
  refine lv_aload_n hx hb dX5_init_37 rfl (lv_at hl 0 rfl) ?_
  refine va_new (ci := 0) (fs := [.null, .int 0]) (C := RX0) (T := TX0) (N := 2) hx hb hts in_X5_init_X0 tyX0 tyX0_ok hown (hts _ wd_X5_init_8) (hts _ wd_X5_init_9) (hts _ wd_X5_init_10) hK hP hD hS hA rfl (fun j hj => by rcases (show j = 0 ∨ j = 1 by omega) with rfl | rfl <;> rfl) (Nat.le_of_ble_eq_true rfl) (Nat.le_of_ble_eq_true rfl) dX5_init_38 (fun q_11 H hP hD hS => ?_)
  have hP : va_P D vwCl [(h0, .inr (5, [.ref q_1, .ref q_5, .ref q_8, .null, .null, .null, .null, .null, .int 0, .int 0, .long 0, .int 0])), (q_1, .inr (4, [.ref h1_4])), (h1_4, .inl (cI, 7, .inl w2_3)), (q_5, .inr (0, [.ref h1_7, .int 0])), (h1_7, .inl (cI, 11, .inl (fun _ => 0))), (q_8, .inr (0, [.ref h1_10, .int 0])), (h1_10, .inl (cI, 11, .inl (fun _ => 0))), (q_11, .inr (0, [.null, .int 0]))] H := hP
  have hD : va_D A [(h0, .inr (5, [.ref q_1, .ref q_5, .ref q_8, .null, .null, .null, .null, .null, .int 0, .int 0, .long 0, .int 0])), (q_1, .inr (4, [.ref h1_4])), (h1_4, .inl (cI, 7, .inl w2_3)), (q_5, .inr (0, [.ref h1_7, .int 0])), (h1_7, .inl (cI, 11, .inl (fun _ => 0))), (q_8, .inr (0, [.ref h1_10, .int 0])), (h1_10, .inl (cI, 11, .inl (fun _ => 0))), (q_11, .inr (0, [.null, .int 0]))] := hD
  refine W.widen (k := 7) (n := 36) (by omega) (by omega) ?_
  refine lv_dup hx hb dX5_init_41 rfl ?_
  have hPc := hP.sub (ws' := [(q_11, .inr (0, [.null, .int 0]))]) [7] rfl
  have hDc := hD.sub (ws' := [(q_11, .inr (0, [.null, .int 0]))]) [7] (by decide) rfl
  have hFc := va_free (wc := [(q_11, .inr (0, [.null, .int 0]))]) hD hS hA [7] rfl
  refine va_callv (va_runIN (As := []) (rest := [.ref q_11, .ref h0]) ⟨hx, hb, hml, hown, hts⟩ (c_X0_init l D cI cJ cQ _ q_11) (⟨va_cnB 0 hts gX5_init_X0_init_n18 rfl rfl rfl hZ.2.1 (hts _ wd_X5_init_10) (by decide +kernel) ⟨Nat.le_of_ble_eq_true rfl, Nat.le_of_ble_eq_true rfl⟩, rfl, (hts _ wd_X5_init_11)⟩) (mP_preS hPc hK hDc) rfl rfl hl.1 rfl (lv_room (Nat.le_of_ble_eq_true rfl)) dX5_init_42 ⟨Nat.le_of_ble_eq_true rfl, Nat.le_of_ble_eq_true rfl⟩) hS (fun q _ h => hFc q h) hFc (fun u_r_12 t H1 locs ht hvm hr_12 hB hz1 hk1 hS => ?_)
  obtain ⟨h1_13, hP1, hK1, hD1⟩ := hB
  rw [ht] at hP1
  try dsimp only at hr_12
  obtain ⟨hP, hD⟩ := va_join (wr := [(h0, .inr (5, [.ref q_1, .ref q_5, .ref q_8, .null, .null, .null, .null, .null, .int 0, .int 0, .long 0, .int 0])), (q_1, .inr (4, [.ref h1_4])), (h1_4, .inl (cI, 7, .inl w2_3)), (q_5, .inr (0, [.ref h1_7, .int 0])), (h1_7, .inl (cI, 11, .inl (fun _ => 0))), (q_8, .inr (0, [.ref h1_10, .int 0])), (h1_10, .inl (cI, 11, .inl (fun _ => 0)))]) (w1 := [(q_11, .inr (0, [.ref h1_13, .int 0])), (h1_13, .inl (cI, 11, .inl (fun _ => 0)))]) hP hD [7] [0, 1, 2, 3, 4, 5, 6] rfl rfl (by decide) (by decide) hk1 hFc hP1 hD1
  generalize H1 = H at hP hS ⊢
  have hP : va_P D vwCl [(h0, .inr (5, [.ref q_1, .ref q_5, .ref q_8, .null, .null, .null, .null, .null, .int 0, .int 0, .long 0, .int 0])), (q_1, .inr (4, [.ref h1_4])), (h1_4, .inl (cI, 7, .inl w2_3)), (q_5, .inr (0, [.ref h1_7, .int 0])), (h1_7, .inl (cI, 11, .inl (fun _ => 0))), (q_8, .inr (0, [.ref h1_10, .int 0])), (h1_10, .inl (cI, 11, .inl (fun _ => 0))), (q_11, .inr (0, [.ref h1_13, .int 0])), (h1_13, .inl (cI, 11, .inl (fun _ => 0)))] H := hP
  have hD : va_D A [(h0, .inr (5, [.ref q_1, .ref q_5, .ref q_8, .null, .null, .null, .null, .null, .int 0, .int 0, .long 0, .int 0])), (q_1, .inr (4, [.ref h1_4])), (h1_4, .inl (cI, 7, .inl w2_3)), (q_5, .inr (0, [.ref h1_7, .int 0])), (h1_7, .inl (cI, 11, .inl (fun _ => 0))), (q_8, .inr (0, [.ref h1_10, .int 0])), (h1_10, .inl (cI, 11, .inl (fun _ => 0))), (q_11, .inr (0, [.ref h1_13, .int 0])), (h1_13, .inl (cI, 11, .inl (fun _ => 0)))] := hD
  refine W.widen (k := 8) (n := 47) (by omega) (by omega) ?_
  refine va_putF (D := D) (ci := 5) (v := .ref q_11) (ty := .object "ShoeTable$Cards") (C := RX5) (T := TX5) (N := 12) hx hb hts in_X5_init_X5 tyX5 tyX5_ok nmX5 hown hK hP hD hS 0 rfl rfl 3 (by decide) (hts _ wd_X5_init_14) (fun _ h9 => h9) rfl hin rfl (by decide +kernel) rfl rfl (Nat.le_of_ble_eq_true rfl) dX5_init_45 (fun H locs hP hD hS => ?_)
  have hP : va_P D vwCl [(h0, .inr (5, [.ref q_1, .ref q_5, .ref q_8, .ref q_11, .null, .null, .null, .null, .int 0, .int 0, .long 0, .int 0])), (q_1, .inr (4, [.ref h1_4])), (h1_4, .inl (cI, 7, .inl w2_3)), (q_5, .inr (0, [.ref h1_7, .int 0])), (h1_7, .inl (cI, 11, .inl (fun _ => 0))), (q_8, .inr (0, [.ref h1_10, .int 0])), (h1_10, .inl (cI, 11, .inl (fun _ => 0))), (q_11, .inr (0, [.ref h1_13, .int 0])), (h1_13, .inl (cI, 11, .inl (fun _ => 0)))] H := hP
  have hD : va_D A [(h0, .inr (5, [.ref q_1, .ref q_5, .ref q_8, .ref q_11, .null, .null, .null, .null, .int 0, .int 0, .long 0, .int 0])), (q_1, .inr (4, [.ref h1_4])), (h1_4, .inl (cI, 7, .inl w2_3)), (q_5, .inr (0, [.ref h1_7, .int 0])), (h1_7, .inl (cI, 11, .inl (fun _ => 0))), (q_8, .inr (0, [.ref h1_10, .int 0])), (h1_10, .inl (cI, 11, .inl (fun _ => 0))), (q_11, .inr (0, [.ref h1_13, .int 0])), (h1_13, .inl (cI, 11, .inl (fun _ => 0)))] := hD
  refine lv_aload_n hx hb dX5_init_48 rfl (lv_at hl 0 rfl) ?_
  refine va_new (ci := 1) (fs := [.null, .int 0, .int 0, .int 0]) (C := RX1) (T := TX1) (N := 4) hx hb hts in_X5_init_X1 tyX1 tyX1_ok hown (hts _ wd_X5_init_15) (hts _ wd_X5_init_16) (hts _ wd_X5_init_17) hK hP hD hS hA rfl (fun j hj => by rcases (show j = 0 ∨ j = 1 ∨ j = 2 ∨ j = 3 by omega) with rfl | rfl | rfl | rfl <;> rfl) (Nat.le_of_ble_eq_true rfl) (Nat.le_of_ble_eq_true rfl) dX5_init_49 (fun q_14 H hP hD hS => ?_)
  have hP : va_P D vwCl [(h0, .inr (5, [.ref q_1, .ref q_5, .ref q_8, .ref q_11, .null, .null, .null, .null, .int 0, .int 0, .long 0, .int 0])), (q_1, .inr (4, [.ref h1_4])), (h1_4, .inl (cI, 7, .inl w2_3)), (q_5, .inr (0, [.ref h1_7, .int 0])), (h1_7, .inl (cI, 11, .inl (fun _ => 0))), (q_8, .inr (0, [.ref h1_10, .int 0])), (h1_10, .inl (cI, 11, .inl (fun _ => 0))), (q_11, .inr (0, [.ref h1_13, .int 0])), (h1_13, .inl (cI, 11, .inl (fun _ => 0))), (q_14, .inr (1, [.null, .int 0, .int 0, .int 0]))] H := hP
  have hD : va_D A [(h0, .inr (5, [.ref q_1, .ref q_5, .ref q_8, .ref q_11, .null, .null, .null, .null, .int 0, .int 0, .long 0, .int 0])), (q_1, .inr (4, [.ref h1_4])), (h1_4, .inl (cI, 7, .inl w2_3)), (q_5, .inr (0, [.ref h1_7, .int 0])), (h1_7, .inl (cI, 11, .inl (fun _ => 0))), (q_8, .inr (0, [.ref h1_10, .int 0])), (h1_10, .inl (cI, 11, .inl (fun _ => 0))), (q_11, .inr (0, [.ref h1_13, .int 0])), (h1_13, .inl (cI, 11, .inl (fun _ => 0))), (q_14, .inr (1, [.null, .int 0, .int 0, .int 0]))] := hD
  refine W.widen (k := 9) (n := 51) (by omega) (by omega) ?_
  refine lv_dup hx hb dX5_init_52 rfl ?_
  have hPc := hP.sub (ws' := [(q_14, .inr (1, [.null, .int 0, .int 0, .int 0]))]) [9] rfl
  have hDc := hD.sub (ws' := [(q_14, .inr (1, [.null, .int 0, .int 0, .int 0]))]) [9] (by decide) rfl
  have hFc := va_free (wc := [(q_14, .inr (1, [.null, .int 0, .int 0, .int 0]))]) hD hS hA [9] rfl
  refine va_callv (va_runIN (As := []) (rest := [.ref q_14, .ref h0]) ⟨hx, hb, hml, hown, hts⟩ (c_X1_init l D cI cJ cQ _ q_14) (⟨va_cnB 0 hts gX5_init_X1_init_n31 rfl rfl rfl hZ.2.2.1 (hts _ wd_X5_init_17) (by decide +kernel) ⟨Nat.le_of_ble_eq_true rfl, Nat.le_of_ble_eq_true rfl⟩, rfl, (hts _ wd_X5_init_18)⟩) (mP_preS hPc hK hDc) rfl rfl hl.1 rfl (lv_room (Nat.le_of_ble_eq_true rfl)) dX5_init_53 ⟨Nat.le_of_ble_eq_true rfl, Nat.le_of_ble_eq_true rfl⟩) hS (fun q _ h => hFc q h) hFc (fun u_r_15 t H1 locs ht hvm hr_15 hB hz1 hk1 hS => ?_)
  obtain ⟨h1_16, hP1, hK1, hD1⟩ := hB
  rw [ht] at hP1
  try dsimp only at hr_15
  obtain ⟨hP, hD⟩ := va_join (wr := [(h0, .inr (5, [.ref q_1, .ref q_5, .ref q_8, .ref q_11, .null, .null, .null, .null, .int 0, .int 0, .long 0, .int 0])), (q_1, .inr (4, [.ref h1_4])), (h1_4, .inl (cI, 7, .inl w2_3)), (q_5, .inr (0, [.ref h1_7, .int 0])), (h1_7, .inl (cI, 11, .inl (fun _ => 0))), (q_8, .inr (0, [.ref h1_10, .int 0])), (h1_10, .inl (cI, 11, .inl (fun _ => 0))), (q_11, .inr (0, [.ref h1_13, .int 0])), (h1_13, .inl (cI, 11, .inl (fun _ => 0)))]) (w1 := [(q_14, .inr (1, [.ref h1_16, .int 0, .int 0, .int 0])), (h1_16, .inl (cI, 12, .inl (fun _ => 0)))]) hP hD [9] [0, 1, 2, 3, 4, 5, 6, 7, 8] rfl rfl (by decide) (by decide) hk1 hFc hP1 hD1
  generalize H1 = H at hP hS ⊢
  have hP : va_P D vwCl [(h0, .inr (5, [.ref q_1, .ref q_5, .ref q_8, .ref q_11, .null, .null, .null, .null, .int 0, .int 0, .long 0, .int 0])), (q_1, .inr (4, [.ref h1_4])), (h1_4, .inl (cI, 7, .inl w2_3)), (q_5, .inr (0, [.ref h1_7, .int 0])), (h1_7, .inl (cI, 11, .inl (fun _ => 0))), (q_8, .inr (0, [.ref h1_10, .int 0])), (h1_10, .inl (cI, 11, .inl (fun _ => 0))), (q_11, .inr (0, [.ref h1_13, .int 0])), (h1_13, .inl (cI, 11, .inl (fun _ => 0))), (q_14, .inr (1, [.ref h1_16, .int 0, .int 0, .int 0])), (h1_16, .inl (cI, 12, .inl (fun _ => 0)))] H := hP
  have hD : va_D A [(h0, .inr (5, [.ref q_1, .ref q_5, .ref q_8, .ref q_11, .null, .null, .null, .null, .int 0, .int 0, .long 0, .int 0])), (q_1, .inr (4, [.ref h1_4])), (h1_4, .inl (cI, 7, .inl w2_3)), (q_5, .inr (0, [.ref h1_7, .int 0])), (h1_7, .inl (cI, 11, .inl (fun _ => 0))), (q_8, .inr (0, [.ref h1_10, .int 0])), (h1_10, .inl (cI, 11, .inl (fun _ => 0))), (q_11, .inr (0, [.ref h1_13, .int 0])), (h1_13, .inl (cI, 11, .inl (fun _ => 0))), (q_14, .inr (1, [.ref h1_16, .int 0, .int 0, .int 0])), (h1_16, .inl (cI, 12, .inl (fun _ => 0)))] := hD
  refine W.widen (k := 10) (n := 63) (by omega) (by omega) ?_
  refine va_putF (D := D) (ci := 5) (v := .ref q_14) (ty := .object "ShoeTable$Hand") (C := RX5) (T := TX5) (N := 12) hx hb hts in_X5_init_X5 tyX5 tyX5_ok nmX5 hown hK hP hD hS 0 rfl rfl 4 (by decide) (hts _ wd_X5_init_19) (fun _ h9 => h9) rfl hin rfl (by decide +kernel) rfl rfl (Nat.le_of_ble_eq_true rfl) dX5_init_56 (fun H locs hP hD hS => ?_)
  have hP : va_P D vwCl [(h0, .inr (5, [.ref q_1, .ref q_5, .ref q_8, .ref q_11, .ref q_14, .null, .null, .null, .int 0, .int 0, .long 0, .int 0])), (q_1, .inr (4, [.ref h1_4])), (h1_4, .inl (cI, 7, .inl w2_3)), (q_5, .inr (0, [.ref h1_7, .int 0])), (h1_7, .inl (cI, 11, .inl (fun _ => 0))), (q_8, .inr (0, [.ref h1_10, .int 0])), (h1_10, .inl (cI, 11, .inl (fun _ => 0))), (q_11, .inr (0, [.ref h1_13, .int 0])), (h1_13, .inl (cI, 11, .inl (fun _ => 0))), (q_14, .inr (1, [.ref h1_16, .int 0, .int 0, .int 0])), (h1_16, .inl (cI, 12, .inl (fun _ => 0)))] H := hP
  have hD : va_D A [(h0, .inr (5, [.ref q_1, .ref q_5, .ref q_8, .ref q_11, .ref q_14, .null, .null, .null, .int 0, .int 0, .long 0, .int 0])), (q_1, .inr (4, [.ref h1_4])), (h1_4, .inl (cI, 7, .inl w2_3)), (q_5, .inr (0, [.ref h1_7, .int 0])), (h1_7, .inl (cI, 11, .inl (fun _ => 0))), (q_8, .inr (0, [.ref h1_10, .int 0])), (h1_10, .inl (cI, 11, .inl (fun _ => 0))), (q_11, .inr (0, [.ref h1_13, .int 0])), (h1_13, .inl (cI, 11, .inl (fun _ => 0))), (q_14, .inr (1, [.ref h1_16, .int 0, .int 0, .int 0])), (h1_16, .inl (cI, 12, .inl (fun _ => 0)))] := hD
  refine lv_aload_n hx hb dX5_init_59 rfl (lv_at hl 0 rfl) ?_
  refine lv_bipush (v := 11) hx hb dX5_init_60 (by decide) ?_
  refine va_newa (atype := .int) (a0 := (11, .inl (fun _ => 0))) (ty := .int) (N' := 11) hx hb (hts _ wd_X5_init_20) rfl hK hP hD hS hA (fun cA => newI cA 11) (by decide) (by decide) (Nat.le_of_ble_eq_true rfl) (Nat.le_of_ble_eq_true rfl) (Nat.le_of_ble_eq_true rfl) dX5_init_62 (fun q_17 cA H hK0 hP hD hS => ?_)
  have ecA := va_Ksame (i := 0) (j := 3) hK0 rfl rfl
  subst ecA
  have hP : va_P D vwCl [(h0, .inr (5, [.ref q_1, .ref q_5, .ref q_8, .ref q_11, .ref q_14, .null, .null, .null, .int 0, .int 0, .long 0, .int 0])), (q_1, .inr (4, [.ref h1_4])), (h1_4, .inl (cI, 7, .inl w2_3)), (q_5, .inr (0, [.ref h1_7, .int 0])), (h1_7, .inl (cI, 11, .inl (fun _ => 0))), (q_8, .inr (0, [.ref h1_10, .int 0])), (h1_10, .inl (cI, 11, .inl (fun _ => 0))), (q_11, .inr (0, [.ref h1_13, .int 0])), (h1_13, .inl (cI, 11, .inl (fun _ => 0))), (q_14, .inr (1, [.ref h1_16, .int 0, .int 0, .int 0])), (h1_16, .inl (cI, 12, .inl (fun _ => 0))), (q_17, .inl (cI, 11, .inl (fun _ => 0)))] H := hP
  have hD : va_D A [(h0, .inr (5, [.ref q_1, .ref q_5, .ref q_8, .ref q_11, .ref q_14, .null, .null, .null, .int 0, .int 0, .long 0, .int 0])), (q_1, .inr (4, [.ref h1_4])), (h1_4, .inl (cI, 7, .inl w2_3)), (q_5, .inr (0, [.ref h1_7, .int 0])), (h1_7, .inl (cI, 11, .inl (fun _ => 0))), (q_8, .inr (0, [.ref h1_10, .int 0])), (h1_10, .inl (cI, 11, .inl (fun _ => 0))), (q_11, .inr (0, [.ref h1_13, .int 0])), (h1_13, .inl (cI, 11, .inl (fun _ => 0))), (q_14, .inr (1, [.ref h1_16, .int 0, .int 0, .int 0])), (h1_16, .inl (cI, 12, .inl (fun _ => 0))), (q_17, .inl (cI, 11, .inl (fun _ => 0)))] := hD
  refine W.widen (k := 11) (n := 74) (by omega) (by omega) ?_
  refine va_putF (D := D) (ci := 5) (v := .ref q_17) (ty := .array .int) (C := RX5) (T := TX5) (N := 12) hx hb hts in_X5_init_X5 tyX5 tyX5_ok nmX5 hown hK hP hD hS 0 rfl rfl 5 (by decide) (hts _ wd_X5_init_21) (fun _ h9 => h9) rfl hin rfl (by decide +kernel) rfl rfl (Nat.le_of_ble_eq_true rfl) dX5_init_64 (fun H locs hP hD hS => ?_)
  have hP : va_P D vwCl [(h0, .inr (5, [.ref q_1, .ref q_5, .ref q_8, .ref q_11, .ref q_14, .ref q_17, .null, .null, .int 0, .int 0, .long 0, .int 0])), (q_1, .inr (4, [.ref h1_4])), (h1_4, .inl (cI, 7, .inl w2_3)), (q_5, .inr (0, [.ref h1_7, .int 0])), (h1_7, .inl (cI, 11, .inl (fun _ => 0))), (q_8, .inr (0, [.ref h1_10, .int 0])), (h1_10, .inl (cI, 11, .inl (fun _ => 0))), (q_11, .inr (0, [.ref h1_13, .int 0])), (h1_13, .inl (cI, 11, .inl (fun _ => 0))), (q_14, .inr (1, [.ref h1_16, .int 0, .int 0, .int 0])), (h1_16, .inl (cI, 12, .inl (fun _ => 0))), (q_17, .inl (cI, 11, .inl (fun _ => 0)))] H := hP
  have hD : va_D A [(h0, .inr (5, [.ref q_1, .ref q_5, .ref q_8, .ref q_11, .ref q_14, .ref q_17, .null, .null, .int 0, .int 0, .long 0, .int 0])), (q_1, .inr (4, [.ref h1_4])), (h1_4, .inl (cI, 7, .inl w2_3)), (q_5, .inr (0, [.ref h1_7, .int 0])), (h1_7, .inl (cI, 11, .inl (fun _ => 0))), (q_8, .inr (0, [.ref h1_10, .int 0])), (h1_10, .inl (cI, 11, .inl (fun _ => 0))), (q_11, .inr (0, [.ref h1_13, .int 0])), (h1_13, .inl (cI, 11, .inl (fun _ => 0))), (q_14, .inr (1, [.ref h1_16, .int 0, .int 0, .int 0])), (h1_16, .inl (cI, 12, .inl (fun _ => 0))), (q_17, .inl (cI, 11, .inl (fun _ => 0)))] := hD
  refine lv_aload_n hx hb dX5_init_67 rfl (lv_at hl 0 rfl) ?_
  refine va_new (ci := 3) (fs := [.null, .null, .null, .null, .int 0, .int 0, .long 0, .null, .null, .null, .null, .int 0, .null, .null, .int 0]) (C := RX3) (T := TX3) (N := 15) hx hb hts in_X5_init_X3 tyX3 tyX3_ok hown (hts _ wd_X5_init_22) (hts _ wd_X5_init_23) (hts _ wd_X5_init_24) hK hP hD hS hA rfl (fun j hj => by rcases (show j = 0 ∨ j = 1 ∨ j = 2 ∨ j = 3 ∨ j = 4 ∨ j = 5 ∨ j = 6 ∨ j = 7 ∨ j = 8 ∨ j = 9 ∨ j = 10 ∨ j = 11 ∨ j = 12 ∨ j = 13 ∨ j = 14 by omega) with rfl | rfl | rfl | rfl | rfl | rfl | rfl | rfl | rfl | rfl | rfl | rfl | rfl | rfl | rfl <;> rfl) (Nat.le_of_ble_eq_true rfl) (Nat.le_of_ble_eq_true rfl) dX5_init_68 (fun q_18 H hP hD hS => ?_)
  have hP : va_P D vwCl [(h0, .inr (5, [.ref q_1, .ref q_5, .ref q_8, .ref q_11, .ref q_14, .ref q_17, .null, .null, .int 0, .int 0, .long 0, .int 0])), (q_1, .inr (4, [.ref h1_4])), (h1_4, .inl (cI, 7, .inl w2_3)), (q_5, .inr (0, [.ref h1_7, .int 0])), (h1_7, .inl (cI, 11, .inl (fun _ => 0))), (q_8, .inr (0, [.ref h1_10, .int 0])), (h1_10, .inl (cI, 11, .inl (fun _ => 0))), (q_11, .inr (0, [.ref h1_13, .int 0])), (h1_13, .inl (cI, 11, .inl (fun _ => 0))), (q_14, .inr (1, [.ref h1_16, .int 0, .int 0, .int 0])), (h1_16, .inl (cI, 12, .inl (fun _ => 0))), (q_17, .inl (cI, 11, .inl (fun _ => 0))), (q_18, .inr (3, [.null, .null, .null, .null, .int 0, .int 0, .long 0, .null, .null, .null, .null, .int 0, .null, .null, .int 0]))] H := hP
  have hD : va_D A [(h0, .inr (5, [.ref q_1, .ref q_5, .ref q_8, .ref q_11, .ref q_14, .ref q_17, .null, .null, .int 0, .int 0, .long 0, .int 0])), (q_1, .inr (4, [.ref h1_4])), (h1_4, .inl (cI, 7, .inl w2_3)), (q_5, .inr (0, [.ref h1_7, .int 0])), (h1_7, .inl (cI, 11, .inl (fun _ => 0))), (q_8, .inr (0, [.ref h1_10, .int 0])), (h1_10, .inl (cI, 11, .inl (fun _ => 0))), (q_11, .inr (0, [.ref h1_13, .int 0])), (h1_13, .inl (cI, 11, .inl (fun _ => 0))), (q_14, .inr (1, [.ref h1_16, .int 0, .int 0, .int 0])), (h1_16, .inl (cI, 12, .inl (fun _ => 0))), (q_17, .inl (cI, 11, .inl (fun _ => 0))), (q_18, .inr (3, [.null, .null, .null, .null, .int 0, .int 0, .long 0, .null, .null, .null, .null, .int 0, .null, .null, .int 0]))] := hD
  refine W.widen (k := 12) (n := 89) (by omega) (by omega) ?_
  refine lv_dup hx hb dX5_init_71 rfl ?_
  have hPc := hP.sub (ws' := [(q_18, .inr (3, [.null, .null, .null, .null, .int 0, .int 0, .long 0, .null, .null, .null, .null, .int 0, .null, .null, .int 0]))]) [12] rfl
  have hDc := hD.sub (ws' := [(q_18, .inr (3, [.null, .null, .null, .null, .int 0, .int 0, .long 0, .null, .null, .null, .null, .int 0, .null, .null, .int 0]))]) [12] (by decide) rfl
  have hFc := va_free (wc := [(q_18, .inr (3, [.null, .null, .null, .null, .int 0, .int 0, .long 0, .null, .null, .null, .null, .int 0, .null, .null, .int 0]))]) hD hS hA [12] rfl
  refine va_callv (va_runIN (As := []) (rest := [.ref q_18, .ref h0]) ⟨hx, hb, hml, hown, hts⟩ (c_X3_init l D cI cJ cQ _ q_18) (⟨va_cnB 0 hts gX5_init_X3_init_n42 rfl rfl rfl hZ.2.2.2.1 (hts _ wd_X5_init_24) (by decide +kernel) ⟨Nat.le_of_ble_eq_true rfl, Nat.le_of_ble_eq_true rfl⟩, rfl, (hts _ wd_X5_init_25)⟩) (mPn_preS hPc hK hDc hZ) rfl rfl hl.1 rfl (lv_room (Nat.le_of_ble_eq_true rfl)) dX5_init_72 ⟨Nat.le_of_ble_eq_true rfl, Nat.le_of_ble_eq_true rfl⟩) hS (fun q _ h => hFc q h) hFc (fun u_r_19 t H1 locs ht hvm hr_19 hB hz1 hk1 hS => ?_)
  obtain ⟨w2_20, rfl⟩ : ∃ z, z = u_r_19 := ⟨_, rfl⟩
  obtain ⟨a0_21, a1_22, a2_23, a3_24, a4_25, a5_26, a6_27, a7_28, a8_29, a9_30, b0_31, b1_32, b3_33, hP1, hK1, hD1⟩ := hB
  rw [ht] at hP1
  try dsimp only at hr_19
  obtain ⟨hP, hD⟩ := va_join (wr := [(h0, .inr (5, [.ref q_1, .ref q_5, .ref q_8, .ref q_11, .ref q_14, .ref q_17, .null, .null, .int 0, .int 0, .long 0, .int 0])), (q_1, .inr (4, [.ref h1_4])), (h1_4, .inl (cI, 7, .inl w2_3)), (q_5, .inr (0, [.ref h1_7, .int 0])), (h1_7, .inl (cI, 11, .inl (fun _ => 0))), (q_8, .inr (0, [.ref h1_10, .int 0])), (h1_10, .inl (cI, 11, .inl (fun _ => 0))), (q_11, .inr (0, [.ref h1_13, .int 0])), (h1_13, .inl (cI, 11, .inl (fun _ => 0))), (q_14, .inr (1, [.ref h1_16, .int 0, .int 0, .int 0])), (h1_16, .inl (cI, 12, .inl (fun _ => 0))), (q_17, .inl (cI, 11, .inl (fun _ => 0)))]) (w1 := [(q_18, .inr (3, [.ref a0_21, .ref a1_22, .ref a2_23, .ref a3_24, .int (-1), .int (-1), .long 0, .ref a4_25, .ref a5_26, .ref a6_27, .ref a7_28, .int 0, .ref a8_29, .ref a9_30, .int 0])), (a0_21, .inr (4, [.ref b0_31])), (b0_31, .inl (cI, 7, .inl w2_20)), (a1_22, .inr (0, [.ref b1_32, .int 0])), (b1_32, .inl (cI, 11, .inl (fun _ => 0))), (a3_24, .inr (1, [.ref b3_33, .int 0, .int 0, .int 0])), (b3_33, .inl (cI, 12, .inl (fun _ => 0)))]) hP hD [12] [0, 1, 2, 3, 4, 5, 6, 7, 8, 9, 10, 11] rfl rfl (by decide) (by decide) hk1 hFc hP1 hD1
  generalize H1 = H at hP hS ⊢
  have hP : va_P D vwCl [(h0, .inr (5, [.ref q_1, .ref q_5, .ref q_8, .ref q_11, .ref q_14, .ref q_17, .null, .null, .int 0, .int 0, .long 0, .int 0])), (q_1, .inr (4, [.ref h1_4])), (h1_4, .inl (cI, 7, .inl w2_3)), (q_5, .inr (0, [.ref h1_7, .int 0])), (h1_7, .inl (cI, 11, .inl (fun _ => 0))), (q_8, .inr (0, [.ref h1_10, .int 0])), (h1_10, .inl (cI, 11, .inl (fun _ => 0))), (q_11, .inr (0, [.ref h1_13, .int 0])), (h1_13, .inl (cI, 11, .inl (fun _ => 0))), (q_14, .inr (1, [.ref h1_16, .int 0, .int 0, .int 0])), (h1_16, .inl (cI, 12, .inl (fun _ => 0))), (q_17, .inl (cI, 11, .inl (fun _ => 0))), (q_18, .inr (3, [.ref a0_21, .ref a1_22, .ref a2_23, .ref a3_24, .int (-1), .int (-1), .long 0, .ref a4_25, .ref a5_26, .ref a6_27, .ref a7_28, .int 0, .ref a8_29, .ref a9_30, .int 0])), (a0_21, .inr (4, [.ref b0_31])), (b0_31, .inl (cI, 7, .inl w2_20)), (a1_22, .inr (0, [.ref b1_32, .int 0])), (b1_32, .inl (cI, 11, .inl (fun _ => 0))), (a3_24, .inr (1, [.ref b3_33, .int 0, .int 0, .int 0])), (b3_33, .inl (cI, 12, .inl (fun _ => 0)))] H := hP
  have hD : va_D A [(h0, .inr (5, [.ref q_1, .ref q_5, .ref q_8, .ref q_11, .ref q_14, .ref q_17, .null, .null, .int 0, .int 0, .long 0, .int 0])), (q_1, .inr (4, [.ref h1_4])), (h1_4, .inl (cI, 7, .inl w2_3)), (q_5, .inr (0, [.ref h1_7, .int 0])), (h1_7, .inl (cI, 11, .inl (fun _ => 0))), (q_8, .inr (0, [.ref h1_10, .int 0])), (h1_10, .inl (cI, 11, .inl (fun _ => 0))), (q_11, .inr (0, [.ref h1_13, .int 0])), (h1_13, .inl (cI, 11, .inl (fun _ => 0))), (q_14, .inr (1, [.ref h1_16, .int 0, .int 0, .int 0])), (h1_16, .inl (cI, 12, .inl (fun _ => 0))), (q_17, .inl (cI, 11, .inl (fun _ => 0))), (q_18, .inr (3, [.ref a0_21, .ref a1_22, .ref a2_23, .ref a3_24, .int (-1), .int (-1), .long 0, .ref a4_25, .ref a5_26, .ref a6_27, .ref a7_28, .int 0, .ref a8_29, .ref a9_30, .int 0])), (a0_21, .inr (4, [.ref b0_31])), (b0_31, .inl (cI, 7, .inl w2_20)), (a1_22, .inr (0, [.ref b1_32, .int 0])), (b1_32, .inl (cI, 11, .inl (fun _ => 0))), (a3_24, .inr (1, [.ref b3_33, .int 0, .int 0, .int 0])), (b3_33, .inl (cI, 12, .inl (fun _ => 0)))] := hD
  refine W.widen (k := 26) (n := 9388) (by omega) (by omega) ?_
  refine va_putF (D := D) (ci := 5) (v := .ref q_18) (ty := .object "ShoeTable$Odds") (C := RX5) (T := TX5) (N := 12) hx hb hts in_X5_init_X5 tyX5 tyX5_ok nmX5 hown hK hP hD hS 0 rfl rfl 6 (by decide) (hts _ wd_X5_init_26) (fun _ h9 => h9) rfl hin rfl (by decide +kernel) rfl rfl (Nat.le_of_ble_eq_true rfl) dX5_init_75 (fun H locs hP hD hS => ?_)
  have hP : va_P D vwCl [(h0, .inr (5, [.ref q_1, .ref q_5, .ref q_8, .ref q_11, .ref q_14, .ref q_17, .ref q_18, .null, .int 0, .int 0, .long 0, .int 0])), (q_1, .inr (4, [.ref h1_4])), (h1_4, .inl (cI, 7, .inl w2_3)), (q_5, .inr (0, [.ref h1_7, .int 0])), (h1_7, .inl (cI, 11, .inl (fun _ => 0))), (q_8, .inr (0, [.ref h1_10, .int 0])), (h1_10, .inl (cI, 11, .inl (fun _ => 0))), (q_11, .inr (0, [.ref h1_13, .int 0])), (h1_13, .inl (cI, 11, .inl (fun _ => 0))), (q_14, .inr (1, [.ref h1_16, .int 0, .int 0, .int 0])), (h1_16, .inl (cI, 12, .inl (fun _ => 0))), (q_17, .inl (cI, 11, .inl (fun _ => 0))), (q_18, .inr (3, [.ref a0_21, .ref a1_22, .ref a2_23, .ref a3_24, .int (-1), .int (-1), .long 0, .ref a4_25, .ref a5_26, .ref a6_27, .ref a7_28, .int 0, .ref a8_29, .ref a9_30, .int 0])), (a0_21, .inr (4, [.ref b0_31])), (b0_31, .inl (cI, 7, .inl w2_20)), (a1_22, .inr (0, [.ref b1_32, .int 0])), (b1_32, .inl (cI, 11, .inl (fun _ => 0))), (a3_24, .inr (1, [.ref b3_33, .int 0, .int 0, .int 0])), (b3_33, .inl (cI, 12, .inl (fun _ => 0)))] H := hP
  have hD : va_D A [(h0, .inr (5, [.ref q_1, .ref q_5, .ref q_8, .ref q_11, .ref q_14, .ref q_17, .ref q_18, .null, .int 0, .int 0, .long 0, .int 0])), (q_1, .inr (4, [.ref h1_4])), (h1_4, .inl (cI, 7, .inl w2_3)), (q_5, .inr (0, [.ref h1_7, .int 0])), (h1_7, .inl (cI, 11, .inl (fun _ => 0))), (q_8, .inr (0, [.ref h1_10, .int 0])), (h1_10, .inl (cI, 11, .inl (fun _ => 0))), (q_11, .inr (0, [.ref h1_13, .int 0])), (h1_13, .inl (cI, 11, .inl (fun _ => 0))), (q_14, .inr (1, [.ref h1_16, .int 0, .int 0, .int 0])), (h1_16, .inl (cI, 12, .inl (fun _ => 0))), (q_17, .inl (cI, 11, .inl (fun _ => 0))), (q_18, .inr (3, [.ref a0_21, .ref a1_22, .ref a2_23, .ref a3_24, .int (-1), .int (-1), .long 0, .ref a4_25, .ref a5_26, .ref a6_27, .ref a7_28, .int 0, .ref a8_29, .ref a9_30, .int 0])), (a0_21, .inr (4, [.ref b0_31])), (b0_31, .inl (cI, 7, .inl w2_20)), (a1_22, .inr (0, [.ref b1_32, .int 0])), (b1_32, .inl (cI, 11, .inl (fun _ => 0))), (a3_24, .inr (1, [.ref b3_33, .int 0, .int 0, .int 0])), (b3_33, .inl (cI, 12, .inl (fun _ => 0)))] := hD
  refine lv_aload_n hx hb dX5_init_78 rfl (lv_at hl 0 rfl) ?_
  refine va_new (ci := 2) (fs := [.null]) (C := RX2) (T := TX2) (N := 1) hx hb hts in_X5_init_X2 tyX2 tyX2_ok hown (hts _ wd_X5_init_27) (hts _ wd_X5_init_28) (hts _ wd_X5_init_29) hK hP hD hS hA rfl (fun j hj => by rcases (show j = 0 by omega) with rfl <;> rfl) (Nat.le_of_ble_eq_true rfl) (Nat.le_of_ble_eq_true rfl) dX5_init_79 (fun q_34 H hP hD hS => ?_)
  have hP : va_P D vwCl [(h0, .inr (5, [.ref q_1, .ref q_5, .ref q_8, .ref q_11, .ref q_14, .ref q_17, .ref q_18, .null, .int 0, .int 0, .long 0, .int 0])), (q_1, .inr (4, [.ref h1_4])), (h1_4, .inl (cI, 7, .inl w2_3)), (q_5, .inr (0, [.ref h1_7, .int 0])), (h1_7, .inl (cI, 11, .inl (fun _ => 0))), (q_8, .inr (0, [.ref h1_10, .int 0])), (h1_10, .inl (cI, 11, .inl (fun _ => 0))), (q_11, .inr (0, [.ref h1_13, .int 0])), (h1_13, .inl (cI, 11, .inl (fun _ => 0))), (q_14, .inr (1, [.ref h1_16, .int 0, .int 0, .int 0])), (h1_16, .inl (cI, 12, .inl (fun _ => 0))), (q_17, .inl (cI, 11, .inl (fun _ => 0))), (q_18, .inr (3, [.ref a0_21, .ref a1_22, .ref a2_23, .ref a3_24, .int (-1), .int (-1), .long 0, .ref a4_25, .ref a5_26, .ref a6_27, .ref a7_28, .int 0, .ref a8_29, .ref a9_30, .int 0])), (a0_21, .inr (4, [.ref b0_31])), (b0_31, .inl (cI, 7, .inl w2_20)), (a1_22, .inr (0, [.ref b1_32, .int 0])), (b1_32, .inl (cI, 11, .inl (fun _ => 0))), (a3_24, .inr (1, [.ref b3_33, .int 0, .int 0, .int 0])), (b3_33, .inl (cI, 12, .inl (fun _ => 0))), (q_34, .inr (2, [.null]))] H := hP
  have hD : va_D A [(h0, .inr (5, [.ref q_1, .ref q_5, .ref q_8, .ref q_11, .ref q_14, .ref q_17, .ref q_18, .null, .int 0, .int 0, .long 0, .int 0])), (q_1, .inr (4, [.ref h1_4])), (h1_4, .inl (cI, 7, .inl w2_3)), (q_5, .inr (0, [.ref h1_7, .int 0])), (h1_7, .inl (cI, 11, .inl (fun _ => 0))), (q_8, .inr (0, [.ref h1_10, .int 0])), (h1_10, .inl (cI, 11, .inl (fun _ => 0))), (q_11, .inr (0, [.ref h1_13, .int 0])), (h1_13, .inl (cI, 11, .inl (fun _ => 0))), (q_14, .inr (1, [.ref h1_16, .int 0, .int 0, .int 0])), (h1_16, .inl (cI, 12, .inl (fun _ => 0))), (q_17, .inl (cI, 11, .inl (fun _ => 0))), (q_18, .inr (3, [.ref a0_21, .ref a1_22, .ref a2_23, .ref a3_24, .int (-1), .int (-1), .long 0, .ref a4_25, .ref a5_26, .ref a6_27, .ref a7_28, .int 0, .ref a8_29, .ref a9_30, .int 0])), (a0_21, .inr (4, [.ref b0_31])), (b0_31, .inl (cI, 7, .inl w2_20)), (a1_22, .inr (0, [.ref b1_32, .int 0])), (b1_32, .inl (cI, 11, .inl (fun _ => 0))), (a3_24, .inr (1, [.ref b3_33, .int 0, .int 0, .int 0])), (b3_33, .inl (cI, 12, .inl (fun _ => 0))), (q_34, .inr (2, [.null]))] := hD
  refine W.widen (k := 27) (n := 9389) (by omega) (by omega) ?_
  refine lv_dup hx hb dX5_init_82 rfl ?_
  have hPc := hP.sub (ws' := [(q_34, .inr (2, [.null]))]) [19] rfl
  have hDc := hD.sub (ws' := [(q_34, .inr (2, [.null]))]) [19] (by decide) rfl
  have hFc := va_free (wc := [(q_34, .inr (2, [.null]))]) hD hS hA [19] rfl
  refine va_callv (va_runIN (As := []) (rest := [.ref q_34, .ref h0]) ⟨hx, hb, hml, hown, hts⟩ (c_X2_init l D cI cJ cQ _ q_34) (⟨va_cnB 0 hts gX5_init_X2_init_n49 rfl rfl rfl hZ.2.2.2.2.1 (hts _ wd_X5_init_29) (by decide +kernel) ⟨Nat.le_of_ble_eq_true rfl, Nat.le_of_ble_eq_true rfl⟩, rfl, (hts _ wd_X5_init_30)⟩) (mPn_preS hPc hK hDc hZ) rfl rfl hl.1 rfl (lv_room (Nat.le_of_ble_eq_true rfl)) dX5_init_83 ⟨Nat.le_of_ble_eq_true rfl, Nat.le_of_ble_eq_true rfl⟩) hS (fun q _ h => hFc q h) hFc (fun u_r_35 t H1 locs ht hvm hr_35 hB hz1 hk1 hS => ?_)
  obtain ⟨h1_36, hP1, hK1, hD1⟩ := hB
  rw [ht] at hP1
  try dsimp only at hr_35
  obtain ⟨hP, hD⟩ := va_join (wr := [(h0, .inr (5, [.ref q_1, .ref q_5, .ref q_8, .ref q_11, .ref q_14, .ref q_17, .ref q_18, .null, .int 0, .int 0, .long 0, .int 0])), (q_1, .inr (4, [.ref h1_4])), (h1_4, .inl (cI, 7, .inl w2_3)), (q_5, .inr (0, [.ref h1_7, .int 0])), (h1_7, .inl (cI, 11, .inl (fun _ => 0))), (q_8, .inr (0, [.ref h1_10, .int 0])), (h1_10, .inl (cI, 11, .inl (fun _ => 0))), (q_11, .inr (0, [.ref h1_13, .int 0])), (h1_13, .inl (cI, 11, .inl (fun _ => 0))), (q_14, .inr (1, [.ref h1_16, .int 0, .int 0, .int 0])), (h1_16, .inl (cI, 12, .inl (fun _ => 0))), (q_17, .inl (cI, 11, .inl (fun _ => 0))), (q_18, .inr (3, [.ref a0_21, .ref a1_22, .ref a2_23, .ref a3_24, .int (-1), .int (-1), .long 0, .ref a4_25, .ref a5_26, .ref a6_27, .ref a7_28, .int 0, .ref a8_29, .ref a9_30, .int 0])), (a0_21, .inr (4, [.ref b0_31])), (b0_31, .inl (cI, 7, .inl w2_20)), (a1_22, .inr (0, [.ref b1_32, .int 0])), (b1_32, .inl (cI, 11, .inl (fun _ => 0))), (a3_24, .inr (1, [.ref b3_33, .int 0, .int 0, .int 0])), (b3_33, .inl (cI, 12, .inl (fun _ => 0)))]) (w1 := [(q_34, .inr (2, [.ref h1_36]))]) hP hD [19] [0, 1, 2, 3, 4, 5, 6, 7, 8, 9, 10, 11, 12, 13, 14, 15, 16, 17, 18] rfl rfl (by decide) (by decide) hk1 hFc hP1 hD1
  generalize H1 = H at hP hS ⊢
  have hP : va_P D vwCl [(h0, .inr (5, [.ref q_1, .ref q_5, .ref q_8, .ref q_11, .ref q_14, .ref q_17, .ref q_18, .null, .int 0, .int 0, .long 0, .int 0])), (q_1, .inr (4, [.ref h1_4])), (h1_4, .inl (cI, 7, .inl w2_3)), (q_5, .inr (0, [.ref h1_7, .int 0])), (h1_7, .inl (cI, 11, .inl (fun _ => 0))), (q_8, .inr (0, [.ref h1_10, .int 0])), (h1_10, .inl (cI, 11, .inl (fun _ => 0))), (q_11, .inr (0, [.ref h1_13, .int 0])), (h1_13, .inl (cI, 11, .inl (fun _ => 0))), (q_14, .inr (1, [.ref h1_16, .int 0, .int 0, .int 0])), (h1_16, .inl (cI, 12, .inl (fun _ => 0))), (q_17, .inl (cI, 11, .inl (fun _ => 0))), (q_18, .inr (3, [.ref a0_21, .ref a1_22, .ref a2_23, .ref a3_24, .int (-1), .int (-1), .long 0, .ref a4_25, .ref a5_26, .ref a6_27, .ref a7_28, .int 0, .ref a8_29, .ref a9_30, .int 0])), (a0_21, .inr (4, [.ref b0_31])), (b0_31, .inl (cI, 7, .inl w2_20)), (a1_22, .inr (0, [.ref b1_32, .int 0])), (b1_32, .inl (cI, 11, .inl (fun _ => 0))), (a3_24, .inr (1, [.ref b3_33, .int 0, .int 0, .int 0])), (b3_33, .inl (cI, 12, .inl (fun _ => 0))), (q_34, .inr (2, [.ref h1_36]))] H := hP
  have hD : va_D A [(h0, .inr (5, [.ref q_1, .ref q_5, .ref q_8, .ref q_11, .ref q_14, .ref q_17, .ref q_18, .null, .int 0, .int 0, .long 0, .int 0])), (q_1, .inr (4, [.ref h1_4])), (h1_4, .inl (cI, 7, .inl w2_3)), (q_5, .inr (0, [.ref h1_7, .int 0])), (h1_7, .inl (cI, 11, .inl (fun _ => 0))), (q_8, .inr (0, [.ref h1_10, .int 0])), (h1_10, .inl (cI, 11, .inl (fun _ => 0))), (q_11, .inr (0, [.ref h1_13, .int 0])), (h1_13, .inl (cI, 11, .inl (fun _ => 0))), (q_14, .inr (1, [.ref h1_16, .int 0, .int 0, .int 0])), (h1_16, .inl (cI, 12, .inl (fun _ => 0))), (q_17, .inl (cI, 11, .inl (fun _ => 0))), (q_18, .inr (3, [.ref a0_21, .ref a1_22, .ref a2_23, .ref a3_24, .int (-1), .int (-1), .long 0, .ref a4_25, .ref a5_26, .ref a6_27, .ref a7_28, .int 0, .ref a8_29, .ref a9_30, .int 0])), (a0_21, .inr (4, [.ref b0_31])), (b0_31, .inl (cI, 7, .inl w2_20)), (a1_22, .inr (0, [.ref b1_32, .int 0])), (b1_32, .inl (cI, 11, .inl (fun _ => 0))), (a3_24, .inr (1, [.ref b3_33, .int 0, .int 0, .int 0])), (b3_33, .inl (cI, 12, .inl (fun _ => 0))), (q_34, .inr (2, [.ref h1_36]))] := hD
  refine W.widen (k := 37) (n := 9839) (by omega) (by omega) ?_
  refine va_putF (D := D) (ci := 5) (v := .ref q_34) (ty := .object "ShoeTable$Heaps") (C := RX5) (T := TX5) (N := 12) hx hb hts in_X5_init_X5 tyX5 tyX5_ok nmX5 hown hK hP hD hS 0 rfl rfl 7 (by decide) (hts _ wd_X5_init_31) (fun _ h9 => h9) rfl hin rfl (by decide +kernel) rfl rfl (Nat.le_of_ble_eq_true rfl) dX5_init_86 (fun H locs hP hD hS => ?_)
  have hP : va_P D vwCl [(h0, .inr (5, [.ref q_1, .ref q_5, .ref q_8, .ref q_11, .ref q_14, .ref q_17, .ref q_18, .ref q_34, .int 0, .int 0, .long 0, .int 0])), (q_1, .inr (4, [.ref h1_4])), (h1_4, .inl (cI, 7, .inl w2_3)), (q_5, .inr (0, [.ref h1_7, .int 0])), (h1_7, .inl (cI, 11, .inl (fun _ => 0))), (q_8, .inr (0, [.ref h1_10, .int 0])), (h1_10, .inl (cI, 11, .inl (fun _ => 0))), (q_11, .inr (0, [.ref h1_13, .int 0])), (h1_13, .inl (cI, 11, .inl (fun _ => 0))), (q_14, .inr (1, [.ref h1_16, .int 0, .int 0, .int 0])), (h1_16, .inl (cI, 12, .inl (fun _ => 0))), (q_17, .inl (cI, 11, .inl (fun _ => 0))), (q_18, .inr (3, [.ref a0_21, .ref a1_22, .ref a2_23, .ref a3_24, .int (-1), .int (-1), .long 0, .ref a4_25, .ref a5_26, .ref a6_27, .ref a7_28, .int 0, .ref a8_29, .ref a9_30, .int 0])), (a0_21, .inr (4, [.ref b0_31])), (b0_31, .inl (cI, 7, .inl w2_20)), (a1_22, .inr (0, [.ref b1_32, .int 0])), (b1_32, .inl (cI, 11, .inl (fun _ => 0))), (a3_24, .inr (1, [.ref b3_33, .int 0, .int 0, .int 0])), (b3_33, .inl (cI, 12, .inl (fun _ => 0))), (q_34, .inr (2, [.ref h1_36]))] H := hP
  have hD : va_D A [(h0, .inr (5, [.ref q_1, .ref q_5, .ref q_8, .ref q_11, .ref q_14, .ref q_17, .ref q_18, .ref q_34, .int 0, .int 0, .long 0, .int 0])), (q_1, .inr (4, [.ref h1_4])), (h1_4, .inl (cI, 7, .inl w2_3)), (q_5, .inr (0, [.ref h1_7, .int 0])), (h1_7, .inl (cI, 11, .inl (fun _ => 0))), (q_8, .inr (0, [.ref h1_10, .int 0])), (h1_10, .inl (cI, 11, .inl (fun _ => 0))), (q_11, .inr (0, [.ref h1_13, .int 0])), (h1_13, .inl (cI, 11, .inl (fun _ => 0))), (q_14, .inr (1, [.ref h1_16, .int 0, .int 0, .int 0])), (h1_16, .inl (cI, 12, .inl (fun _ => 0))), (q_17, .inl (cI, 11, .inl (fun _ => 0))), (q_18, .inr (3, [.ref a0_21, .ref a1_22, .ref a2_23, .ref a3_24, .int (-1), .int (-1), .long 0, .ref a4_25, .ref a5_26, .ref a6_27, .ref a7_28, .int 0, .ref a8_29, .ref a9_30, .int 0])), (a0_21, .inr (4, [.ref b0_31])), (b0_31, .inl (cI, 7, .inl w2_20)), (a1_22, .inr (0, [.ref b1_32, .int 0])), (b1_32, .inl (cI, 11, .inl (fun _ => 0))), (a3_24, .inr (1, [.ref b3_33, .int 0, .int 0, .int 0])), (b3_33, .inl (cI, 12, .inl (fun _ => 0))), (q_34, .inr (2, [.ref h1_36]))] := hD
  refine lv_aload_n hx hb dX5_init_89 rfl (lv_at hl 0 rfl) ?_
  refine lv_iconst (v := (-1)) hx hb dX5_init_90 (by decide) ?_
  refine va_put (D := D) (ci := 5) (v := .int (-1)) (ty := .int) (C := RX5) (T := TX5) (N := 12) hx hb hts in_X5_init_X5 tyX5 tyX5_ok nmX5 hown hK hP hD hS 0 rfl rfl 8 (by decide) (hts _ wd_X5_init_32) (fun _ h9 => h9) rfl (by decide +kernel) rfl rfl (Nat.le_of_ble_eq_true rfl) dX5_init_91 (fun H locs hP hD hS => ?_)
  have hP : va_P D vwCl [(h0, .inr (5, [.ref q_1, .ref q_5, .ref q_8, .ref q_11, .ref q_14, .ref q_17, .ref q_18, .ref q_34, .int (-1), .int 0, .long 0, .int 0])), (q_1, .inr (4, [.ref h1_4])), (h1_4, .inl (cI, 7, .inl w2_3)), (q_5, .inr (0, [.ref h1_7, .int 0])), (h1_7, .inl (cI, 11, .inl (fun _ => 0))), (q_8, .inr (0, [.ref h1_10, .int 0])), (h1_10, .inl (cI, 11, .inl (fun _ => 0))), (q_11, .inr (0, [.ref h1_13, .int 0])), (h1_13, .inl (cI, 11, .inl (fun _ => 0))), (q_14, .inr (1, [.ref h1_16, .int 0, .int 0, .int 0])), (h1_16, .inl (cI, 12, .inl (fun _ => 0))), (q_17, .inl (cI, 11, .inl (fun _ => 0))), (q_18, .inr (3, [.ref a0_21, .ref a1_22, .ref a2_23, .ref a3_24, .int (-1), .int (-1), .long 0, .ref a4_25, .ref a5_26, .ref a6_27, .ref a7_28, .int 0, .ref a8_29, .ref a9_30, .int 0])), (a0_21, .inr (4, [.ref b0_31])), (b0_31, .inl (cI, 7, .inl w2_20)), (a1_22, .inr (0, [.ref b1_32, .int 0])), (b1_32, .inl (cI, 11, .inl (fun _ => 0))), (a3_24, .inr (1, [.ref b3_33, .int 0, .int 0, .int 0])), (b3_33, .inl (cI, 12, .inl (fun _ => 0))), (q_34, .inr (2, [.ref h1_36]))] H := hP
  have hD : va_D A [(h0, .inr (5, [.ref q_1, .ref q_5, .ref q_8, .ref q_11, .ref q_14, .ref q_17, .ref q_18, .ref q_34, .int (-1), .int 0, .long 0, .int 0])), (q_1, .inr (4, [.ref h1_4])), (h1_4, .inl (cI, 7, .inl w2_3)), (q_5, .inr (0, [.ref h1_7, .int 0])), (h1_7, .inl (cI, 11, .inl (fun _ => 0))), (q_8, .inr (0, [.ref h1_10, .int 0])), (h1_10, .inl (cI, 11, .inl (fun _ => 0))), (q_11, .inr (0, [.ref h1_13, .int 0])), (h1_13, .inl (cI, 11, .inl (fun _ => 0))), (q_14, .inr (1, [.ref h1_16, .int 0, .int 0, .int 0])), (h1_16, .inl (cI, 12, .inl (fun _ => 0))), (q_17, .inl (cI, 11, .inl (fun _ => 0))), (q_18, .inr (3, [.ref a0_21, .ref a1_22, .ref a2_23, .ref a3_24, .int (-1), .int (-1), .long 0, .ref a4_25, .ref a5_26, .ref a6_27, .ref a7_28, .int 0, .ref a8_29, .ref a9_30, .int 0])), (a0_21, .inr (4, [.ref b0_31])), (b0_31, .inl (cI, 7, .inl w2_20)), (a1_22, .inr (0, [.ref b1_32, .int 0])), (b1_32, .inl (cI, 11, .inl (fun _ => 0))), (a3_24, .inr (1, [.ref b3_33, .int 0, .int 0, .int 0])), (b3_33, .inl (cI, 12, .inl (fun _ => 0))), (q_34, .inr (2, [.ref h1_36]))] := hD
  refine lv_aload_n hx hb dX5_init_94 rfl (lv_at hl 0 rfl) ?_
  refine lv_iconst (v := 0) hx hb dX5_init_95 (by decide) ?_
  refine va_put (D := D) (ci := 5) (v := .int 0) (ty := .int) (C := RX5) (T := TX5) (N := 12) hx hb hts in_X5_init_X5 tyX5 tyX5_ok nmX5 hown hK hP hD hS 0 rfl rfl 9 (by decide) (hts _ wd_X5_init_33) (fun _ h9 => h9) rfl (by decide +kernel) rfl rfl (Nat.le_of_ble_eq_true rfl) dX5_init_96 (fun H locs hP hD hS => ?_)
  have hP : va_P D vwCl [(h0, .inr (5, [.ref q_1, .ref q_5, .ref q_8, .ref q_11, .ref q_14, .ref q_17, .ref q_18, .ref q_34, .int (-1), .int 0, .long 0, .int 0])), (q_1, .inr (4, [.ref h1_4])), (h1_4, .inl (cI, 7, .inl w2_3)), (q_5, .inr (0, [.ref h1_7, .int 0])), (h1_7, .inl (cI, 11, .inl (fun _ => 0))), (q_8, .inr (0, [.ref h1_10, .int 0])), (h1_10, .inl (cI, 11, .inl (fun _ => 0))), (q_11, .inr (0, [.ref h1_13, .int 0])), (h1_13, .inl (cI, 11, .inl (fun _ => 0))), (q_14, .inr (1, [.ref h1_16, .int 0, .int 0, .int 0])), (h1_16, .inl (cI, 12, .inl (fun _ => 0))), (q_17, .inl (cI, 11, .inl (fun _ => 0))), (q_18, .inr (3, [.ref a0_21, .ref a1_22, .ref a2_23, .ref a3_24, .int (-1), .int (-1), .long 0, .ref a4_25, .ref a5_26, .ref a6_27, .ref a7_28, .int 0, .ref a8_29, .ref a9_30, .int 0])), (a0_21, .inr (4, [.ref b0_31])), (b0_31, .inl (cI, 7, .inl w2_20)), (a1_22, .inr (0, [.ref b1_32, .int 0])), (b1_32, .inl (cI, 11, .inl (fun _ => 0))), (a3_24, .inr (1, [.ref b3_33, .int 0, .int 0, .int 0])), (b3_33, .inl (cI, 12, .inl (fun _ => 0))), (q_34, .inr (2, [.ref h1_36]))] H := hP
  have hD : va_D A [(h0, .inr (5, [.ref q_1, .ref q_5, .ref q_8, .ref q_11, .ref q_14, .ref q_17, .ref q_18, .ref q_34, .int (-1), .int 0, .long 0, .int 0])), (q_1, .inr (4, [.ref h1_4])), (h1_4, .inl (cI, 7, .inl w2_3)), (q_5, .inr (0, [.ref h1_7, .int 0])), (h1_7, .inl (cI, 11, .inl (fun _ => 0))), (q_8, .inr (0, [.ref h1_10, .int 0])), (h1_10, .inl (cI, 11, .inl (fun _ => 0))), (q_11, .inr (0, [.ref h1_13, .int 0])), (h1_13, .inl (cI, 11, .inl (fun _ => 0))), (q_14, .inr (1, [.ref h1_16, .int 0, .int 0, .int 0])), (h1_16, .inl (cI, 12, .inl (fun _ => 0))), (q_17, .inl (cI, 11, .inl (fun _ => 0))), (q_18, .inr (3, [.ref a0_21, .ref a1_22, .ref a2_23, .ref a3_24, .int (-1), .int (-1), .long 0, .ref a4_25, .ref a5_26, .ref a6_27, .ref a7_28, .int 0, .ref a8_29, .ref a9_30, .int 0])), (a0_21, .inr (4, [.ref b0_31])), (b0_31, .inl (cI, 7, .inl w2_20)), (a1_22, .inr (0, [.ref b1_32, .int 0])), (b1_32, .inl (cI, 11, .inl (fun _ => 0))), (a3_24, .inr (1, [.ref b3_33, .int 0, .int 0, .int 0])), (b3_33, .inl (cI, 12, .inl (fun _ => 0))), (q_34, .inr (2, [.ref h1_36]))] := hD
  refine lv_aload_n hx hb dX5_init_99 rfl (lv_at hl 0 rfl) ?_
  refine lv_lconst (v := 1) hx hb dX5_init_100 (by decide) ?_
  refine va_put (D := D) (ci := 5) (v := .long 1) (ty := .long) (C := RX5) (T := TX5) (N := 12) hx hb hts in_X5_init_X5 tyX5 tyX5_ok nmX5 hown hK hP hD hS 0 rfl rfl 10 (by decide) (hts _ wd_X5_init_34) (fun _ h9 => h9) rfl (by decide +kernel) rfl rfl (Nat.le_of_ble_eq_true rfl) dX5_init_101 (fun H locs hP hD hS => ?_)
  have hP : va_P D vwCl [(h0, .inr (5, [.ref q_1, .ref q_5, .ref q_8, .ref q_11, .ref q_14, .ref q_17, .ref q_18, .ref q_34, .int (-1), .int 0, .long 1, .int 0])), (q_1, .inr (4, [.ref h1_4])), (h1_4, .inl (cI, 7, .inl w2_3)), (q_5, .inr (0, [.ref h1_7, .int 0])), (h1_7, .inl (cI, 11, .inl (fun _ => 0))), (q_8, .inr (0, [.ref h1_10, .int 0])), (h1_10, .inl (cI, 11, .inl (fun _ => 0))), (q_11, .inr (0, [.ref h1_13, .int 0])), (h1_13, .inl (cI, 11, .inl (fun _ => 0))), (q_14, .inr (1, [.ref h1_16, .int 0, .int 0, .int 0])), (h1_16, .inl (cI, 12, .inl (fun _ => 0))), (q_17, .inl (cI, 11, .inl (fun _ => 0))), (q_18, .inr (3, [.ref a0_21, .ref a1_22, .ref a2_23, .ref a3_24, .int (-1), .int (-1), .long 0, .ref a4_25, .ref a5_26, .ref a6_27, .ref a7_28, .int 0, .ref a8_29, .ref a9_30, .int 0])), (a0_21, .inr (4, [.ref b0_31])), (b0_31, .inl (cI, 7, .inl w2_20)), (a1_22, .inr (0, [.ref b1_32, .int 0])), (b1_32, .inl (cI, 11, .inl (fun _ => 0))), (a3_24, .inr (1, [.ref b3_33, .int 0, .int 0, .int 0])), (b3_33, .inl (cI, 12, .inl (fun _ => 0))), (q_34, .inr (2, [.ref h1_36]))] H := hP
  have hD : va_D A [(h0, .inr (5, [.ref q_1, .ref q_5, .ref q_8, .ref q_11, .ref q_14, .ref q_17, .ref q_18, .ref q_34, .int (-1), .int 0, .long 1, .int 0])), (q_1, .inr (4, [.ref h1_4])), (h1_4, .inl (cI, 7, .inl w2_3)), (q_5, .inr (0, [.ref h1_7, .int 0])), (h1_7, .inl (cI, 11, .inl (fun _ => 0))), (q_8, .inr (0, [.ref h1_10, .int 0])), (h1_10, .inl (cI, 11, .inl (fun _ => 0))), (q_11, .inr (0, [.ref h1_13, .int 0])), (h1_13, .inl (cI, 11, .inl (fun _ => 0))), (q_14, .inr (1, [.ref h1_16, .int 0, .int 0, .int 0])), (h1_16, .inl (cI, 12, .inl (fun _ => 0))), (q_17, .inl (cI, 11, .inl (fun _ => 0))), (q_18, .inr (3, [.ref a0_21, .ref a1_22, .ref a2_23, .ref a3_24, .int (-1), .int (-1), .long 0, .ref a4_25, .ref a5_26, .ref a6_27, .ref a7_28, .int 0, .ref a8_29, .ref a9_30, .int 0])), (a0_21, .inr (4, [.ref b0_31])), (b0_31, .inl (cI, 7, .inl w2_20)), (a1_22, .inr (0, [.ref b1_32, .int 0])), (b1_32, .inl (cI, 11, .inl (fun _ => 0))), (a3_24, .inr (1, [.ref b3_33, .int 0, .int 0, .int 0])), (b3_33, .inl (cI, 12, .inl (fun _ => 0))), (q_34, .inr (2, [.ref h1_36]))] := hD
  refine lv_aload_n hx hb dX5_init_104 rfl (lv_at hl 0 rfl) ?_
  refine lv_iconst (v := 0) hx hb dX5_init_105 (by decide) ?_
  refine va_put (D := D) (ci := 5) (v := .int 0) (ty := .boolean) (C := RX5) (T := TX5) (N := 12) hx hb hts in_X5_init_X5 tyX5 tyX5_ok nmX5 hown hK hP hD hS 0 rfl rfl 11 (by decide) (hts _ wd_X5_init_35) (fun _ h9 => h9) rfl (by decide +kernel) rfl rfl (Nat.le_of_ble_eq_true rfl) dX5_init_106 (fun H locs hP hD hS => ?_)
  have hP : va_P D vwCl [(h0, .inr (5, [.ref q_1, .ref q_5, .ref q_8, .ref q_11, .ref q_14, .ref q_17, .ref q_18, .ref q_34, .int (-1), .int 0, .long 1, .int 0])), (q_1, .inr (4, [.ref h1_4])), (h1_4, .inl (cI, 7, .inl w2_3)), (q_5, .inr (0, [.ref h1_7, .int 0])), (h1_7, .inl (cI, 11, .inl (fun _ => 0))), (q_8, .inr (0, [.ref h1_10, .int 0])), (h1_10, .inl (cI, 11, .inl (fun _ => 0))), (q_11, .inr (0, [.ref h1_13, .int 0])), (h1_13, .inl (cI, 11, .inl (fun _ => 0))), (q_14, .inr (1, [.ref h1_16, .int 0, .int 0, .int 0])), (h1_16, .inl (cI, 12, .inl (fun _ => 0))), (q_17, .inl (cI, 11, .inl (fun _ => 0))), (q_18, .inr (3, [.ref a0_21, .ref a1_22, .ref a2_23, .ref a3_24, .int (-1), .int (-1), .long 0, .ref a4_25, .ref a5_26, .ref a6_27, .ref a7_28, .int 0, .ref a8_29, .ref a9_30, .int 0])), (a0_21, .inr (4, [.ref b0_31])), (b0_31, .inl (cI, 7, .inl w2_20)), (a1_22, .inr (0, [.ref b1_32, .int 0])), (b1_32, .inl (cI, 11, .inl (fun _ => 0))), (a3_24, .inr (1, [.ref b3_33, .int 0, .int 0, .int 0])), (b3_33, .inl (cI, 12, .inl (fun _ => 0))), (q_34, .inr (2, [.ref h1_36]))] H := hP
  have hD : va_D A [(h0, .inr (5, [.ref q_1, .ref q_5, .ref q_8, .ref q_11, .ref q_14, .ref q_17, .ref q_18, .ref q_34, .int (-1), .int 0, .long 1, .int 0])), (q_1, .inr (4, [.ref h1_4])), (h1_4, .inl (cI, 7, .inl w2_3)), (q_5, .inr (0, [.ref h1_7, .int 0])), (h1_7, .inl (cI, 11, .inl (fun _ => 0))), (q_8, .inr (0, [.ref h1_10, .int 0])), (h1_10, .inl (cI, 11, .inl (fun _ => 0))), (q_11, .inr (0, [.ref h1_13, .int 0])), (h1_13, .inl (cI, 11, .inl (fun _ => 0))), (q_14, .inr (1, [.ref h1_16, .int 0, .int 0, .int 0])), (h1_16, .inl (cI, 12, .inl (fun _ => 0))), (q_17, .inl (cI, 11, .inl (fun _ => 0))), (q_18, .inr (3, [.ref a0_21, .ref a1_22, .ref a2_23, .ref a3_24, .int (-1), .int (-1), .long 0, .ref a4_25, .ref a5_26, .ref a6_27, .ref a7_28, .int 0, .ref a8_29, .ref a9_30, .int 0])), (a0_21, .inr (4, [.ref b0_31])), (b0_31, .inl (cI, 7, .inl w2_20)), (a1_22, .inr (0, [.ref b1_32, .int 0])), (b1_32, .inl (cI, 11, .inl (fun _ => 0))), (a3_24, .inr (1, [.ref b3_33, .int 0, .int 0, .int 0])), (b3_33, .inl (cI, 12, .inl (fun _ => 0))), (q_34, .inr (2, [.ref h1_36]))] := hD
  have hP9 := hP.sub (ws' := [(h0, .inr (5, [.ref q_1, .ref q_5, .ref q_8, .ref q_11, .ref q_14, .ref q_17, .ref q_18, .ref q_34, .int (-1), .int 0, .long 1, .int 0])), (q_1, .inr (4, [.ref h1_4])), (h1_4, .inl (cI, 7, .inl w2_3)), (q_5, .inr (0, [.ref h1_7, .int 0])), (h1_7, .inl (cI, 11, .inl (fun _ => 0))), (q_8, .inr (0, [.ref h1_10, .int 0])), (h1_10, .inl (cI, 11, .inl (fun _ => 0))), (q_11, .inr (0, [.ref h1_13, .int 0])), (h1_13, .inl (cI, 11, .inl (fun _ => 0))), (q_14, .inr (1, [.ref h1_16, .int 0, .int 0, .int 0])), (h1_16, .inl (cI, 12, .inl (fun _ => 0))), (q_17, .inl (cI, 11, .inl (fun _ => 0))), (q_18, .inr (3, [.ref a0_21, .ref a1_22, .ref a2_23, .ref a3_24, .int (-1), .int (-1), .long 0, .ref a4_25, .ref a5_26, .ref a6_27, .ref a7_28, .int 0, .ref a8_29, .ref a9_30, .int 0])), (a0_21, .inr (4, [.ref b0_31])), (b0_31, .inl (cI, 7, .inl w2_20)), (a1_22, .inr (0, [.ref b1_32, .int 0])), (b1_32, .inl (cI, 11, .inl (fun _ => 0))), (a3_24, .inr (1, [.ref b3_33, .int 0, .int 0, .int 0])), (b3_33, .inl (cI, 12, .inl (fun _ => 0)))]) [0, 1, 2, 3, 4, 5, 6, 7, 8, 9, 10, 11, 12, 13, 14, 15, 16, 17, 18] rfl
  have hD9 := hD.sub (ws' := [(h0, .inr (5, [.ref q_1, .ref q_5, .ref q_8, .ref q_11, .ref q_14, .ref q_17, .ref q_18, .ref q_34, .int (-1), .int 0, .long 1, .int 0])), (q_1, .inr (4, [.ref h1_4])), (h1_4, .inl (cI, 7, .inl w2_3)), (q_5, .inr (0, [.ref h1_7, .int 0])), (h1_7, .inl (cI, 11, .inl (fun _ => 0))), (q_8, .inr (0, [.ref h1_10, .int 0])), (h1_10, .inl (cI, 11, .inl (fun _ => 0))), (q_11, .inr (0, [.ref h1_13, .int 0])), (h1_13, .inl (cI, 11, .inl (fun _ => 0))), (q_14, .inr (1, [.ref h1_16, .int 0, .int 0, .int 0])), (h1_16, .inl (cI, 12, .inl (fun _ => 0))), (q_17, .inl (cI, 11, .inl (fun _ => 0))), (q_18, .inr (3, [.ref a0_21, .ref a1_22, .ref a2_23, .ref a3_24, .int (-1), .int (-1), .long 0, .ref a4_25, .ref a5_26, .ref a6_27, .ref a7_28, .int 0, .ref a8_29, .ref a9_30, .int 0])), (a0_21, .inr (4, [.ref b0_31])), (b0_31, .inl (cI, 7, .inl w2_20)), (a1_22, .inr (0, [.ref b1_32, .int 0])), (b1_32, .inl (cI, 11, .inl (fun _ => 0))), (a3_24, .inr (1, [.ref b3_33, .int 0, .int 0, .int 0])), (b3_33, .inl (cI, 12, .inl (fun _ => 0)))]) [0, 1, 2, 3, 4, 5, 6, 7, 8, 9, 10, 11, 12, 13, 14, 15, 16, 17, 18] (by decide) rfl
  refine W.widen (k := 37) (n := 9839) (Nat.le_of_ble_eq_true rfl) (Nat.le_of_ble_eq_true rfl) ?_
  exact W.vret hx hb hr (fun t ht hW => ⟨⟨((w2_3), (w2_20)), rfl, hr_2, q_1, q_5, q_8, q_11, q_14, q_17, q_18, q_34, a0_21, a1_22, a2_23, a3_24, a4_25, a5_26, a6_27, a7_28, a8_29, a9_30, h1_4, h1_7, h1_10, h1_13, h1_16, b0_31, b1_32, b3_33, by rw [ht]; exact hP9, va_K.moved hW.alike hK, hD9⟩, hS.F ht⟩) hS.2.2 dX5_init_109

set_option maxRecDepth 20000 in
theorem in_X5_shoe_X5 : ∀ w ∈ wsX50, w ∈ wsX5_shoe := by decide +kernel
set_option maxRecDepth 20000 in
theorem wd_X5_shoe_0 : Cond.fieldLink RX5 19 "ShoeTable" "cards" "LShoeTable$Cards;" ∈ wsX5_shoe := by decide +kernel
set_option maxRecDepth 20000 in
theorem wd_X5_shoe_1 : Cond.fieldLink RX5 65 "ShoeTable" "shoeTold" "Z" ∈ wsX5_shoe := by decide +kernel
set_option maxHeartbeats 400000 in
set_option maxRecDepth 100000 in
/-- X5_shoe -/
theorem c_X5_shoe (l : Launch) (D : va_G) (cI cJ cQ : ClassId) (sz : Nat) (h0 : Nat) (tr : Nat) (tc : Nat) (tg : Nat) (tf : Nat) (th : Nat) (tm : Nat) (to : Nat) (tp : Nat) (uc : Nat) (p0 : Int32) (p1 : Int32)  : Met l yX5_shoe wsX5_shoe ({ frames := 1, cells := 0, slots := 0, locals := 22 }) (va_Pc [.ref h0, .int p0, .int p1] (mP D (gTy cI cJ cQ) [(h0, .inr (5, [.ref tr, .ref tc, .ref tg, .ref tf, .ref th, .ref tm, .ref to, .ref tp, .int (-1), .int 0, .long 1, .int 0])), (tc, .inr (0, [.ref uc, .int 0])), (uc, .inl (cI, 11, .inl (fun _ => 0)))] sz)) (va_Qi (fun (r : Int32) (u : Unit) => match u with | _ => r = shoeS p0 p1) (fun (u : Unit) t => match u with | _ => mB D (gTy cI cJ cQ) (va_A [(h0, .inr (5, [.ref tr, .ref tc, .ref tg, .ref tf, .ref th, .ref tm, .ref to, .ref tp, .int (-1), .int 0, .long 1, .int 0])), (tc, .inr (0, [.ref uc, .int 0])), (uc, .inl (cI, 11, .inl (fun _ => 0)))] sz) [] t) (va_A [(h0, .inr (5, [.ref tr, .ref tc, .ref tg, .ref tf, .ref th, .ref tm, .ref to, .ref tp, .int (-1), .int 0, .long 1, .int 0])), (tc, .inr (0, [.ref uc, .int 0])), (uc, .inl (cI, 11, .inl (fun _ => 0)))] sz)) 0 0 (va_A [(h0, .inr (5, [.ref tr, .ref tc, .ref tg, .ref tf, .ref th, .ref tm, .ref to, .ref tp, .int (-1), .int 0, .long 1, .int 0])), (tc, .inr (0, [.ref uc, .int 0])), (uc, .inl (cI, 11, .inl (fun _ => 0)))] sz) := by
  refine Met.ofW (cc := cX5_shoe) (maxL := 4) (ret := (some .int)) (by decide) rfl ?_
  intro p e s m args below meth c s₁ B hml hv
  obtain ⟨rfl, hsz, hP, hK, hD0⟩ := hv
  have hx := B.exec
  have hb := B.bytes
  have hr := B.returns
  have hts := atoms_spec (ws := wsX5_shoe) B.pre
  have hown : s.vm.findClass RX5 = some m.cls := findClass_of_methodNamed B.named
  have hlocks := B.notSynchronized
  subst hsz
  have hD := hD0.self (sz := s.heap.size)
  generalize hAe : va_A [(h0, .inr (5, [.ref tr, .ref tc, .ref tg, .ref tf, .ref th, .ref tm, .ref to, .ref tp, .int (-1), .int 0, .long 1, .int 0])), (tc, .inr (0, [.ref uc, .int 0])), (uc, .inl (cI, 11, .inl (fun _ => 0)))] s.heap.size = A at hD ⊢
  have hA : ∀ q : Nat, s.heap.size ≤ q → A q := fun q h => by rw [← hAe]; exact Or.inr h
  have hS : va_S A s.heap s.heap [] := va_S.rf
  have hP : va_P D vwCl [(h0, .inr (5, [.ref tr, .ref tc, .ref tg, .ref tf, .ref th, .ref tm, .ref to, .ref tp, .int (-1), .int 0, .long 1, .int 0])), (tc, .inr (0, [.ref uc, .int 0])), (uc, .inl (cI, 11, .inl (fun _ => 0)))] s.heap := hP
  have hl := lv_entry ([.ref h0, .int p0, .int p1]) (n := 4) (Nat.le_of_ble_eq_true rfl)
  rw [lg_entry_eq]
  generalize (lg_sl ([.ref h0, .int p0, .int p1]) ++ List.replicate (4 - (lg_sl ([.ref h0, .int p0, .int p1])).length) Slot.unset).toArray = ls at hl ⊢
  have hl : lv_has ls 4 [(0, .ref h0), (1, .int p0), (2, .int p1)] := hl
  refine lv_iload_n hx hb dX5_shoe_0 rfl (lv_at hl 1 rfl) ?_
  have hPc := hP.sub (ws' := []) [] rfl
  refine vp_callSi (W.runS (As := [.int p0]) (rest := []) ⟨hx, hb, hml, hown, hts⟩ (c_X5_isRank l D cI cJ cQ p0) (va_cwS 1 hts gX5_shoe_X5_isRank rfl rfl rfl (by decide +kernel) ⟨Nat.le_of_ble_eq_true rfl, Nat.le_of_ble_eq_true rfl⟩) (rP_preS hPc hK) rfl rfl hl.1 rfl (lv_room (Nat.le_of_ble_eq_true rfl)) dX5_shoe_1 ⟨Nat.le_of_ble_eq_true rfl, Nat.le_of_ble_eq_true rfl⟩) (fun r_1 hr_1 => ?_)
  subst hr_1
  refine lv_if_eq (tgt := 17) hx hb dX5_shoe_4 (by decide) (fun c4_2 => ?_) (fun c4_2 => ?_)
  · skip
    refine lv_sipush (v := (-1001)) hx hb dX5_shoe_17 (by decide) ?_
    have hP9 := hP.sub (ws' := []) [] rfl
    have hD9 := hD.sub (ws' := []) [] (by decide) rfl
    exact W.iret (v := (-1001)) hx hb hr (fun t ht hW => ⟨⟨(-1001), (), rfl, (by unfold shoeS; first | (simp [c4_2]; done) | ((try first | rw [if_pos c4_2] | rw [if_neg c4_2]); first | done | rfl | trivial)), by rw [ht]; exact hP9, va_K.moved hW.alike hK, hD9⟩, hS.F ht⟩) hS.2.2 dX5_shoe_20
  · skip
    refine lv_iload_n hx hb dX5_shoe_7 rfl (lv_at hl 2 rfl) ?_
    refine lv_if_lt (tgt := 17) hx hb dX5_shoe_8 (by decide) (fun c8_3 => ?_) (fun c8_3 => ?_)
    · skip
      refine lv_sipush (v := (-1001)) hx hb dX5_shoe_17 (by decide) ?_
      have hP9 := hP.sub (ws' := []) [] rfl
      have hD9 := hD.sub (ws' := []) [] (by decide) rfl
      exact W.iret (v := (-1001)) hx hb hr (fun t ht hW => ⟨⟨(-1001), (), rfl, (by unfold shoeS; first | (simp [c4_2, c8_3]; done) | ((try first | rw [if_pos c4_2] | rw [if_neg c4_2]); (try first | rw [if_pos c8_3] | rw [if_neg c8_3]); first | done | rfl | trivial)), by rw [ht]; exact hP9, va_K.moved hW.alike hK, hD9⟩, hS.F ht⟩) hS.2.2 dX5_shoe_20
    · skip
      refine lv_iload_n hx hb dX5_shoe_11 rfl (lv_at hl 2 rfl) ?_
      refine lv_bipush (v := 32) hx hb dX5_shoe_12 (by decide) ?_
      refine lv_icmp_le (tgt := 21) hx hb dX5_shoe_14 (by decide) (fun c14_4 => ?_) (fun c14_4 => ?_)
      · skip
        refine lv_aload_n hx hb dX5_shoe_21 rfl (lv_at hl 0 rfl) ?_
        refine va_get (D := D) (ci := 5) (v := .ref tc) (C := RX5) (T := TX5) (N := 12) hx hb hts in_X5_shoe_X5 hown hK hP 0 rfl rfl 1 (by decide) (hts _ wd_X5_shoe_0) (fun _ h9 => h9) rfl dX5_shoe_22 ?_
        refine lv_iload_n hx hb dX5_shoe_25 rfl (lv_at hl 1 rfl) ?_
        have hPc := hP.sub (ws' := [(tc, .inr (0, [.ref uc, .int 0])), (uc, .inl (cI, 11, .inl (fun _ => 0)))]) [1, 2] rfl
        refine vp_callSi (W.runV (As := [.int p0]) (rest := []) ⟨hx, hb, hml, hown, hts⟩ (c_X0_count0 l D cI cJ cQ tc uc p0) (cwV 1 hts gX5_shoe_X0_count rfl rfl rfl (by decide +kernel) ⟨Nat.le_of_ble_eq_true rfl, Nat.le_of_ble_eq_true rfl⟩) (rP_preV (ci := 0) (q0 := 0) hPc hK rfl rfl) rfl rfl hl.1 rfl (lv_room (Nat.le_of_ble_eq_true rfl)) dX5_shoe_26 ⟨Nat.le_of_ble_eq_true rfl, Nat.le_of_ble_eq_true rfl⟩) (fun r_5 hr_5 => ?_)
        subst hr_5
        refine lv_istore_n (lv' := [(3, .int 0), (0, .ref h0), (1, .int p0), (2, .int p1)]) hx hb dX5_shoe_29 rfl hl (by decide) rfl (fun ls hl => ?_)
        refine lv_aload_n hx hb dX5_shoe_30 rfl (lv_at hl 1 rfl) ?_
        refine va_get (D := D) (ci := 5) (v := .ref tc) (C := RX5) (T := TX5) (N := 12) hx hb hts in_X5_shoe_X5 hown hK hP 0 rfl rfl 1 (by decide) (hts _ wd_X5_shoe_0) (fun _ h9 => h9) rfl dX5_shoe_31 ?_
        refine lv_iload_n hx hb dX5_shoe_34 rfl (lv_at hl 2 rfl) ?_
        refine lv_iload_n hx hb dX5_shoe_35 rfl (lv_at hl 3 rfl) ?_
        have hPc := hP.sub (ws' := [(tc, .inr (0, [.ref uc, .int 0])), (uc, .inl (cI, 11, .inl (fun _ => 0)))]) [1, 2] rfl
        have hDc := hD.sub (ws' := [(tc, .inr (0, [.ref uc, .int 0])), (uc, .inl (cI, 11, .inl (fun _ => 0)))]) [1, 2] (by decide) rfl
        have hFc := va_free (wc := [(tc, .inr (0, [.ref uc, .int 0])), (uc, .inl (cI, 11, .inl (fun _ => 0)))]) hD hS hA [1, 2] rfl
        refine va_callv (va_runV (As := [.int p0, .int p1]) (rest := []) ⟨hx, hb, hml, hown, hts⟩ (c_X0_put l D cI cJ cQ _ tc uc 0 (fun _ => 0) p0 p1) (cwV 2 hts gX5_shoe_X0_put rfl rfl rfl (by decide +kernel) ⟨Nat.le_of_ble_eq_true rfl, Nat.le_of_ble_eq_true rfl⟩) (mP_preV (ci := 0) (q0 := 0) hPc hK hDc rfl rfl) rfl rfl hl.1 rfl (lv_room (Nat.le_of_ble_eq_true rfl)) dX5_shoe_36 ⟨Nat.le_of_ble_eq_true rfl, Nat.le_of_ble_eq_true rfl⟩) hS (fun q _ h => hFc q h) hFc (fun u_r_6 t H1 locs ht hvm hr_6 hB hz1 hk1 hS => ?_)
        obtain ⟨tot2_7, f2_8⟩ := u_r_6
        obtain ⟨hP1, hK1, hD1⟩ := hB
        rw [ht] at hP1
        try dsimp only at hr_6
        obtain ⟨hP, hD⟩ := va_join (wr := [(h0, .inr (5, [.ref tr, .ref tc, .ref tg, .ref tf, .ref th, .ref tm, .ref to, .ref tp, .int (-1), .int 0, .long 1, .int 0]))]) (w1 := [(tc, .inr (0, [.ref uc, .int tot2_7])), (uc, .inl (cI, 11, .inl f2_8))]) hP hD [1, 2] [0] rfl rfl (by decide) (by decide) hk1 hFc hP1 hD1
        generalize H1 = H at hP hS ⊢
        have hP : va_P D vwCl [(h0, .inr (5, [.ref tr, .ref tc, .ref tg, .ref tf, .ref th, .ref tm, .ref to, .ref tp, .int (-1), .int 0, .long 1, .int 0])), (tc, .inr (0, [.ref uc, .int tot2_7])), (uc, .inl (cI, 11, .inl f2_8))] H := hP
        have hD : va_D A [(h0, .inr (5, [.ref tr, .ref tc, .ref tg, .ref tf, .ref th, .ref tm, .ref to, .ref tp, .int (-1), .int 0, .long 1, .int 0])), (tc, .inr (0, [.ref uc, .int tot2_7])), (uc, .inl (cI, 11, .inl f2_8))] := hD
        refine lv_aload_n hx hb dX5_shoe_39 rfl (lv_at hl 1 rfl) ?_
        refine lv_iconst (v := 1) hx hb dX5_shoe_40 (by decide) ?_
        refine va_put (D := D) (ci := 5) (v := .int 1) (ty := .boolean) (C := RX5) (T := TX5) (N := 12) hx hb hts in_X5_shoe_X5 tyX5 tyX5_ok nmX5 hown hK hP hD hS 0 rfl rfl 11 (by decide) (hts _ wd_X5_shoe_1) (fun _ h9 => h9) rfl (by decide +kernel) rfl rfl (Nat.le_of_ble_eq_true rfl) dX5_shoe_41 (fun H locs hP hD hS => ?_)
        have hP : va_P D vwCl [(h0, .inr (5, [.ref tr, .ref tc, .ref tg, .ref tf, .ref th, .ref tm, .ref to, .ref tp, .int (-1), .int 0, .long 1, .int 1])), (tc, .inr (0, [.ref uc, .int tot2_7])), (uc, .inl (cI, 11, .inl f2_8))] H := hP
        have hD : va_D A [(h0, .inr (5, [.ref tr, .ref tc, .ref tg, .ref tf, .ref th, .ref tm, .ref to, .ref tp, .int (-1), .int 0, .long 1, .int 1])), (tc, .inr (0, [.ref uc, .int tot2_7])), (uc, .inl (cI, 11, .inl f2_8))] := hD
        refine lv_iload_n hx hb dX5_shoe_44 rfl (lv_at hl 0 rfl) ?_
        have hP9 := hP.sub (ws' := []) [] rfl
        have hD9 := hD.sub (ws' := []) [] (by decide) rfl
        exact W.iret (v := 0) hx hb hr (fun t ht hW => ⟨⟨0, (), rfl, (by unfold shoeS; first | (simp [c4_2, c8_3, c14_4, hr_6]; done) | ((try first | rw [if_pos c4_2] | rw [if_neg c4_2]); (try first | rw [if_pos c8_3] | rw [if_neg c8_3]); (try first | rw [if_pos c14_4] | rw [if_neg c14_4]); (try first | rw [if_pos hr_6] | rw [if_neg hr_6]); first | done | rfl | trivial)), by rw [ht]; exact hP9, va_K.moved hW.alike hK, hD9⟩, hS.F ht⟩) hS.2.2 dX5_shoe_45
      · skip
        refine lv_sipush (v := (-1001)) hx hb dX5_shoe_17 (by decide) ?_
        have hP9 := hP.sub (ws' := []) [] rfl
        have hD9 := hD.sub (ws' := []) [] (by decide) rfl
        exact W.iret (v := (-1001)) hx hb hr (fun t ht hW => ⟨⟨(-1001), (), rfl, (by unfold shoeS; first | (simp [c4_2, c8_3, c14_4]; done) | ((try first | rw [if_pos c4_2] | rw [if_neg c4_2]); (try first | rw [if_pos c8_3] | rw [if_neg c8_3]); (try first | rw [if_pos c14_4] | rw [if_neg c14_4]); first | done | rfl | trivial)), by rw [ht]; exact hP9, va_K.moved hW.alike hK, hD9⟩, hS.F ht⟩) hS.2.2 dX5_shoe_20

set_option maxRecDepth 20000 in
theorem in_X5_clearTable_X5 : ∀ w ∈ wsX50, w ∈ wsX5_clearTable := by decide +kernel
set_option maxRecDepth 20000 in
theorem wd_X5_clearTable_0 : Cond.fieldLink RX5 32 "ShoeTable" "hand" "LShoeTable$Hand;" ∈ wsX5_clearTable := by decide +kernel
set_option maxRecDepth 20000 in
theorem ggX5_clearTable_X1_clear : GoodIn wsX5_clearTable wsX1_clear := goodIn_r _ [7, 8, 9, 10, 23, 24, 25, 26] (by decide +kernel) (by decide +kernel)
set_option maxRecDepth 20000 in
theorem gX5_clearTable_X1_clear : GoodIn wsX5_clearTable (wsV RX5 218 RX1 yX1_clear wsX1_clear) := goodIn_app (goodIn_of _ (by decide +kernel)) ggX5_clearTable_X1_clear
set_option maxRecDepth 20000 in
theorem wd_X5_clearTable_1 : Cond.fieldLink RX5 54 "ShoeTable" "up" "I" ∈ wsX5_clearTable := by decide +kernel
set_option maxHeartbeats 400000 in
set_option maxRecDepth 100000 in
/-- X5_clearTable -/
theorem c_X5_clearTable (l : Launch) (D : va_G) (cI cJ cQ : ClassId) (sz : Nat) (h0 : Nat) (tr : Nat) (tc : Nat) (tg : Nat) (tf : Nat) (th : Nat) (tm : Nat) (to : Nat) (tp : Nat) (uh : Nat)  : Met l yX5_clearTable wsX5_clearTable ({ frames := 1, cells := 0, slots := 0, locals := 20 }) (va_Pc [.ref h0] (mP D (gTy cI cJ cQ) [(h0, .inr (5, [.ref tr, .ref tc, .ref tg, .ref tf, .ref th, .ref tm, .ref to, .ref tp, .int (-1), .int 0, .long 1, .int 0])), (th, .inr (1, [.ref uh, .int 0, .int 0, .int 0])), (uh, .inl (cI, 12, .inl (fun _ => 0)))] sz)) (va_Qv (fun (u : Unit) => match u with | _ => True) (fun (u : Unit) t => match u with | _ => mB D (gTy cI cJ cQ) (va_A [(h0, .inr (5, [.ref tr, .ref tc, .ref tg, .ref tf, .ref th, .ref tm, .ref to, .ref tp, .int (-1), .int 0, .long 1, .int 0])), (th, .inr (1, [.ref uh, .int 0, .int 0, .int 0])), (uh, .inl (cI, 12, .inl (fun _ => 0)))] sz) [(h0, .inr (5, [.ref tr, .ref tc, .ref tg, .ref tf, .ref th, .ref tm, .ref to, .ref tp, .int (-1), .int 0, .long 1, .int 0])), (th, .inr (1, [.ref uh, .int 0, .int 0, .int 0])), (uh, .inl (cI, 12, .inl (fun _ => 0)))] t) (va_A [(h0, .inr (5, [.ref tr, .ref tc, .ref tg, .ref tf, .ref th, .ref tm, .ref to, .ref tp, .int (-1), .int 0, .long 1, .int 0])), (th, .inr (1, [.ref uh, .int 0, .int 0, .int 0])), (uh, .inl (cI, 12, .inl (fun _ => 0)))] sz)) 0 0 (va_A [(h0, .inr (5, [.ref tr, .ref tc, .ref tg, .ref tf, .ref th, .ref tm, .ref to, .ref tp, .int (-1), .int 0, .long 1, .int 0])), (th, .inr (1, [.ref uh, .int 0, .int 0, .int 0])), (uh, .inl (cI, 12, .inl (fun _ => 0)))] sz) := by
  refine Met.ofW (cc := cX5_clearTable) (maxL := 1) (ret := none) (by decide) rfl ?_
  intro p e s m args below meth c s₁ B hml hv
  obtain ⟨rfl, hsz, hP, hK, hD0⟩ := hv
  have hx := B.exec
  have hb := B.bytes
  have hr := B.returns
  have hts := atoms_spec (ws := wsX5_clearTable) B.pre
  have hown : s.vm.findClass RX5 = some m.cls := findClass_of_methodNamed B.named
  have hlocks := B.notSynchronized
  subst hsz
  have hD := hD0.self (sz := s.heap.size)
  generalize hAe : va_A [(h0, .inr (5, [.ref tr, .ref tc, .ref tg, .ref tf, .ref th, .ref tm, .ref to, .ref tp, .int (-1), .int 0, .long 1, .int 0])), (th, .inr (1, [.ref uh, .int 0, .int 0, .int 0])), (uh, .inl (cI, 12, .inl (fun _ => 0)))] s.heap.size = A at hD ⊢
  have hA : ∀ q : Nat, s.heap.size ≤ q → A q := fun q h => by rw [← hAe]; exact Or.inr h
  have hS : va_S A s.heap s.heap [] := va_S.rf
  have hP : va_P D vwCl [(h0, .inr (5, [.ref tr, .ref tc, .ref tg, .ref tf, .ref th, .ref tm, .ref to, .ref tp, .int (-1), .int 0, .long 1, .int 0])), (th, .inr (1, [.ref uh, .int 0, .int 0, .int 0])), (uh, .inl (cI, 12, .inl (fun _ => 0)))] s.heap := hP
  have hl := lv_entry ([.ref h0]) (n := 1) (Nat.le_of_ble_eq_true rfl)
  rw [lg_entry_eq]
  generalize (lg_sl ([.ref h0]) ++ List.replicate (1 - (lg_sl ([.ref h0])).length) Slot.unset).toArray = ls at hl ⊢
  have hl : lv_has ls 1 [(0, .ref h0)] := hl
  refine lv_aload_n hx hb dX5_clearTable_0 rfl (lv_at hl 0 rfl) ?_
  refine va_get (D := D) (ci := 5) (v := .ref th) (C := RX5) (T := TX5) (N := 12) hx hb hts in_X5_clearTable_X5 hown hK hP 0 rfl rfl 4 (by decide) (hts _ wd_X5_clearTable_0) (fun _ h9 => h9) rfl dX5_clearTable_1 ?_
  have hPc := hP.sub (ws' := [(th, .inr (1, [.ref uh, .int 0, .int 0, .int 0])), (uh, .inl (cI, 12, .inl (fun _ => 0)))]) [1, 2] rfl
  have hDc := hD.sub (ws' := [(th, .inr (1, [.ref uh, .int 0, .int 0, .int 0])), (uh, .inl (cI, 12, .inl (fun _ => 0)))]) [1, 2] (by decide) rfl
  have hFc := va_free (wc := [(th, .inr (1, [.ref uh, .int 0, .int 0, .int 0])), (uh, .inl (cI, 12, .inl (fun _ => 0)))]) hD hS hA [1, 2] rfl
  refine va_callv (va_runV (As := []) (rest := []) ⟨hx, hb, hml, hown, hts⟩ (c_X1_clear l D cI cJ cQ _ th uh 0 0 false (fun _ => 0)) (cwV 0 hts gX5_clearTable_X1_clear rfl rfl rfl (by decide +kernel) ⟨Nat.le_of_ble_eq_true rfl, Nat.le_of_ble_eq_true rfl⟩) (mP_preV (ci := 1) (q0 := 0) hPc hK hDc rfl rfl) rfl rfl hl.1 rfl (lv_room (Nat.le_of_ble_eq_true rfl)) dX5_clearTable_4 ⟨Nat.le_of_ble_eq_true rfl, Nat.le_of_ble_eq_true rfl⟩) hS (fun q _ h => hFc q h) hFc (fun u_r_1 t H1 locs ht hvm hr_1 hB hz1 hk1 hS => ?_)
  obtain ⟨hP1, hK1, hD1⟩ := hB
  rw [ht] at hP1
  try dsimp only at hr_1
  obtain ⟨hP, hD⟩ := va_join (wr := [(h0, .inr (5, [.ref tr, .ref tc, .ref tg, .ref tf, .ref th, .ref tm, .ref to, .ref tp, .int (-1), .int 0, .long 1, .int 0]))]) (w1 := [(th, .inr (1, [.ref uh, .int 0, .int 0, .int 0])), (uh, .inl (cI, 12, .inl (fun _ => 0)))]) hP hD [1, 2] [0] rfl rfl (by decide) (by decide) hk1 hFc hP1 hD1
  generalize H1 = H at hP hS ⊢
  have hP : va_P D vwCl [(h0, .inr (5, [.ref tr, .ref tc, .ref tg, .ref tf, .ref th, .ref tm, .ref to, .ref tp, .int (-1), .int 0, .long 1, .int 0])), (th, .inr (1, [.ref uh, .int 0, .int 0, .int 0])), (uh, .inl (cI, 12, .inl (fun _ => 0)))] H := hP
  have hD : va_D A [(h0, .inr (5, [.ref tr, .ref tc, .ref tg, .ref tf, .ref th, .ref tm, .ref to, .ref tp, .int (-1), .int 0, .long 1, .int 0])), (th, .inr (1, [.ref uh, .int 0, .int 0, .int 0])), (uh, .inl (cI, 12, .inl (fun _ => 0)))] := hD
  refine lv_aload_n hx hb dX5_clearTable_7 rfl (lv_at hl 0 rfl) ?_
  refine lv_iconst (v := (-1)) hx hb dX5_clearTable_8 (by decide) ?_
  refine va_put (D := D) (ci := 5) (v := .int (-1)) (ty := .int) (C := RX5) (T := TX5) (N := 12) hx hb hts in_X5_clearTable_X5 tyX5 tyX5_ok nmX5 hown hK hP hD hS 0 rfl rfl 8 (by decide) (hts _ wd_X5_clearTable_1) (fun _ h9 => h9) rfl (by decide +kernel) rfl rfl (Nat.le_of_ble_eq_true rfl) dX5_clearTable_9 (fun H locs hP hD hS => ?_)
  have hP : va_P D vwCl [(h0, .inr (5, [.ref tr, .ref tc, .ref tg, .ref tf, .ref th, .ref tm, .ref to, .ref tp, .int (-1), .int 0, .long 1, .int 0])), (th, .inr (1, [.ref uh, .int 0, .int 0, .int 0])), (uh, .inl (cI, 12, .inl (fun _ => 0)))] H := hP
  have hD : va_D A [(h0, .inr (5, [.ref tr, .ref tc, .ref tg, .ref tf, .ref th, .ref tm, .ref to, .ref tp, .int (-1), .int 0, .long 1, .int 0])), (th, .inr (1, [.ref uh, .int 0, .int 0, .int 0])), (uh, .inl (cI, 12, .inl (fun _ => 0)))] := hD
  have hP9 := hP.sub (ws' := [(h0, .inr (5, [.ref tr, .ref tc, .ref tg, .ref tf, .ref th, .ref tm, .ref to, .ref tp, .int (-1), .int 0, .long 1, .int 0])), (th, .inr (1, [.ref uh, .int 0, .int 0, .int 0])), (uh, .inl (cI, 12, .inl (fun _ => 0)))]) [0, 1, 2] rfl
  have hD9 := hD.sub (ws' := [(h0, .inr (5, [.ref tr, .ref tc, .ref tg, .ref tf, .ref th, .ref tm, .ref to, .ref tp, .int (-1), .int 0, .long 1, .int 0])), (th, .inr (1, [.ref uh, .int 0, .int 0, .int 0])), (uh, .inl (cI, 12, .inl (fun _ => 0)))]) [0, 1, 2] (by decide) rfl
  exact W.vret hx hb hr (fun t ht hW => ⟨⟨(), rfl, (by first | rfl | trivial | (simp [hr_1]; done) | ((try first | rw [if_pos hr_1] | rw [if_neg hr_1]); first | done | rfl | trivial) | (simp_all; done)), by rw [ht]; exact hP9, va_K.moved hW.alike hK, hD9⟩, hS.F ht⟩) hS.2.2 dX5_clearTable_12

set_option maxRecDepth 20000 in
theorem in_X5_fresh_X5 : ∀ w ∈ wsX50, w ∈ wsX5_fresh := by decide +kernel
set_option maxRecDepth 20000 in
theorem wd_X5_fresh_0 : Cond.fieldLink RX5 23 "ShoeTable" "gone" "LShoeTable$Cards;" ∈ wsX5_fresh := by decide +kernel
set_option maxRecDepth 20000 in
theorem wd_X5_fresh_1 : Cond.fieldLink RX5 26 "ShoeTable" "atFresh" "LShoeTable$Cards;" ∈ wsX5_fresh := by decide +kernel
set_option maxRecDepth 20000 in
theorem wd_X5_fresh_2 : Cond.fieldLink RX5 19 "ShoeTable" "cards" "LShoeTable$Cards;" ∈ wsX5_fresh := by decide +kernel
set_option maxRecDepth 20000 in
theorem wd_X5_fresh_3 : Cond.fieldLink RX5 65 "ShoeTable" "shoeTold" "Z" ∈ wsX5_fresh := by decide +kernel
set_option maxRecDepth 20000 in
theorem in_X5_fresh_X0 : ∀ w ∈ wsX00, w ∈ wsX5_fresh := by decide +kernel
set_option maxRecDepth 20000 in
theorem wd_X5_fresh_4 : Cond.fieldLink RX5 91 "ShoeTable$Cards" "total" "I" ∈ wsX5_fresh := by decide +kernel
set_option maxHeartbeats 400000 in
set_option maxRecDepth 100000 in
/-- X5_fresh -/
theorem c_X5_fresh (l : Launch) (D : va_G) (cI cJ cQ : ClassId) (sz : Nat) (h0 : Nat) (tr : Nat) (tc : Nat) (tg : Nat) (tf : Nat) (th : Nat) (tm : Nat) (to : Nat) (tp : Nat) (ug : Nat) (uf : Nat) (uc : Nat) (uh : Nat)  : Met l yX5_fresh wsX5_fresh ({ frames := 2, cells := 0, slots := 0, locals := 61 }) (va_Pc [.ref h0] (mP D (gTy cI cJ cQ) [(h0, .inr (5, [.ref tr, .ref tc, .ref tg, .ref tf, .ref th, .ref tm, .ref to, .ref tp, .int (-1), .int 0, .long 1, .int 0])), (tg, .inr (0, [.ref ug, .int 0])), (ug, .inl (cI, 11, .inl (fun _ => 0))), (tf, .inr (0, [.ref uf, .int 0])), (uf, .inl (cI, 11, .inl (fun _ => 0))), (tc, .inr (0, [.ref uc, .int 0])), (uc, .inl (cI, 11, .inl (fun _ => 0))), (th, .inr (1, [.ref uh, .int 0, .int 0, .int 0])), (uh, .inl (cI, 12, .inl (fun _ => 0)))] sz)) (va_Qi (fun (r : Int32) (u : Unit) => match u with | _ => r = 0) (fun (u : Unit) t => match u with | _ => mB D (gTy cI cJ cQ) (va_A [(h0, .inr (5, [.ref tr, .ref tc, .ref tg, .ref tf, .ref th, .ref tm, .ref to, .ref tp, .int (-1), .int 0, .long 1, .int 0])), (tg, .inr (0, [.ref ug, .int 0])), (ug, .inl (cI, 11, .inl (fun _ => 0))), (tf, .inr (0, [.ref uf, .int 0])), (uf, .inl (cI, 11, .inl (fun _ => 0))), (tc, .inr (0, [.ref uc, .int 0])), (uc, .inl (cI, 11, .inl (fun _ => 0))), (th, .inr (1, [.ref uh, .int 0, .int 0, .int 0])), (uh, .inl (cI, 12, .inl (fun _ => 0)))] sz) [] t) (va_A [(h0, .inr (5, [.ref tr, .ref tc, .ref tg, .ref tf, .ref th, .ref tm, .ref to, .ref tp, .int (-1), .int 0, .long 1, .int 0])), (tg, .inr (0, [.ref ug, .int 0])), (ug, .inl (cI, 11, .inl (fun _ => 0))), (tf, .inr (0, [.ref uf, .int 0])), (uf, .inl (cI, 11, .inl (fun _ => 0))), (tc, .inr (0, [.ref uc, .int 0])), (uc, .inl (cI, 11, .inl (fun _ => 0))), (th, .inr (1, [.ref uh, .int 0, .int 0, .int 0])), (uh, .inl (cI, 12, .inl (fun _ => 0)))] sz)) 0 0 (va_A [(h0, .inr (5, [.ref tr, .ref tc, .ref tg, .ref tf, .ref th, .ref tm, .ref to, .ref tp, .int (-1), .int 0, .long 1, .int 0])), (tg, .inr (0, [.ref ug, .int 0])), (ug, .inl (cI, 11, .inl (fun _ => 0))), (tf, .inr (0, [.ref uf, .int 0])), (uf, .inl (cI, 11, .inl (fun _ => 0))), (tc, .inr (0, [.ref uc, .int 0])), (uc, .inl (cI, 11, .inl (fun _ => 0))), (th, .inr (1, [.ref uh, .int 0, .int 0, .int 0])), (uh, .inl (cI, 12, .inl (fun _ => 0)))] sz) := by
  refine Met.ofW (cc := cX5_fresh) (maxL := 1) (ret := (some .int)) (by decide) rfl ?_
  intro p e s m args below meth c s₁ B hml hv
  obtain ⟨rfl, hsz, hP, hK, hD0⟩ := hv
  have hx := B.exec
  have hb := B.bytes
  have hr := B.returns
  have hts := atoms_spec (ws := wsX5_fresh) B.pre
  have hown : s.vm.findClass RX5 = some m.cls := findClass_of_methodNamed B.named
  have hlocks := B.notSynchronized
  subst hsz
  have hD := hD0.self (sz := s.heap.size)
  generalize hAe : va_A [(h0, .inr (5, [.ref tr, .ref tc, .ref tg, .ref tf, .ref th, .ref tm, .ref to, .ref tp, .int (-1), .int 0, .long 1, .int 0])), (tg, .inr (0, [.ref ug, .int 0])), (ug, .inl (cI, 11, .inl (fun _ => 0))), (tf, .inr (0, [.ref uf, .int 0])), (uf, .inl (cI, 11, .inl (fun _ => 0))), (tc, .inr (0, [.ref uc, .int 0])), (uc, .inl (cI, 11, .inl (fun _ => 0))), (th, .inr (1, [.ref uh, .int 0, .int 0, .int 0])), (uh, .inl (cI, 12, .inl (fun _ => 0)))] s.heap.size = A at hD ⊢
  have hA : ∀ q : Nat, s.heap.size ≤ q → A q := fun q h => by rw [← hAe]; exact Or.inr h
  have hS : va_S A s.heap s.heap [] := va_S.rf
  have hP : va_P D vwCl [(h0, .inr (5, [.ref tr, .ref tc, .ref tg, .ref tf, .ref th, .ref tm, .ref to, .ref tp, .int (-1), .int 0, .long 1, .int 0])), (tg, .inr (0, [.ref ug, .int 0])), (ug, .inl (cI, 11, .inl (fun _ => 0))), (tf, .inr (0, [.ref uf, .int 0])), (uf, .inl (cI, 11, .inl (fun _ => 0))), (tc, .inr (0, [.ref uc, .int 0])), (uc, .inl (cI, 11, .inl (fun _ => 0))), (th, .inr (1, [.ref uh, .int 0, .int 0, .int 0])), (uh, .inl (cI, 12, .inl (fun _ => 0)))] s.heap := hP
  have hl := lv_entry ([.ref h0]) (n := 1) (Nat.le_of_ble_eq_true rfl)
  rw [lg_entry_eq]
  generalize (lg_sl ([.ref h0]) ++ List.replicate (1 - (lg_sl ([.ref h0])).length) Slot.unset).toArray = ls at hl ⊢
  have hl : lv_has ls 1 [(0, .ref h0)] := hl
  refine lv_aload_n hx hb dX5_fresh_0 rfl (lv_at hl 0 rfl) ?_
  refine va_get (D := D) (ci := 5) (v := .ref tg) (C := RX5) (T := TX5) (N := 12) hx hb hts in_X5_fresh_X5 hown hK hP 0 rfl rfl 2 (by decide) (hts _ wd_X5_fresh_0) (fun _ h9 => h9) rfl dX5_fresh_1 ?_
  have hPc := hP.sub (ws' := [(tg, .inr (0, [.ref ug, .int 0])), (ug, .inl (cI, 11, .inl (fun _ => 0)))]) [1, 2] rfl
  have hDc := hD.sub (ws' := [(tg, .inr (0, [.ref ug, .int 0])), (ug, .inl (cI, 11, .inl (fun _ => 0)))]) [1, 2] (by decide) rfl
  have hFc := va_free (wc := [(tg, .inr (0, [.ref ug, .int 0])), (ug, .inl (cI, 11, .inl (fun _ => 0)))]) hD hS hA [1, 2] rfl
  refine va_callv (va_runV (As := []) (rest := []) ⟨hx, hb, hml, hown, hts⟩ (c_X0_clear l D cI cJ cQ _ tg ug 0 (fun _ => 0)) (cwV 0 hts gX5_fresh_X0_clear rfl rfl rfl (by decide +kernel) ⟨Nat.le_of_ble_eq_true rfl, Nat.le_of_ble_eq_true rfl⟩) (mP_preV (ci := 0) (q0 := 0) hPc hK hDc rfl rfl) rfl rfl hl.1 rfl (lv_room (Nat.le_of_ble_eq_true rfl)) dX5_fresh_4 ⟨Nat.le_of_ble_eq_true rfl, Nat.le_of_ble_eq_true rfl⟩) hS (fun q _ h => hFc q h) hFc (fun u_r_1 t H1 locs ht hvm hr_1 hB hz1 hk1 hS => ?_)
  obtain ⟨tot2_2, f2_3⟩ := u_r_1
  obtain ⟨hP1, hK1, hD1⟩ := hB
  rw [ht] at hP1
  try dsimp only at hr_1
  obtain ⟨hP, hD⟩ := va_join (wr := [(h0, .inr (5, [.ref tr, .ref tc, .ref tg, .ref tf, .ref th, .ref tm, .ref to, .ref tp, .int (-1), .int 0, .long 1, .int 0])), (tf, .inr (0, [.ref uf, .int 0])), (uf, .inl (cI, 11, .inl (fun _ => 0))), (tc, .inr (0, [.ref uc, .int 0])), (uc, .inl (cI, 11, .inl (fun _ => 0))), (th, .inr (1, [.ref uh, .int 0, .int 0, .int 0])), (uh, .inl (cI, 12, .inl (fun _ => 0)))]) (w1 := [(tg, .inr (0, [.ref ug, .int tot2_2])), (ug, .inl (cI, 11, .inl f2_3))]) hP hD [1, 2] [0, 3, 4, 5, 6, 7, 8] rfl rfl (by decide) (by decide) hk1 hFc hP1 hD1
  generalize H1 = H at hP hS ⊢
  have hP : va_P D vwCl [(h0, .inr (5, [.ref tr, .ref tc, .ref tg, .ref tf, .ref th, .ref tm, .ref to, .ref tp, .int (-1), .int 0, .long 1, .int 0])), (tf, .inr (0, [.ref uf, .int 0])), (uf, .inl (cI, 11, .inl (fun _ => 0))), (tc, .inr (0, [.ref uc, .int 0])), (uc, .inl (cI, 11, .inl (fun _ => 0))), (th, .inr (1, [.ref uh, .int 0, .int 0, .int 0])), (uh, .inl (cI, 12, .inl (fun _ => 0))), (tg, .inr (0, [.ref ug, .int tot2_2])), (ug, .inl (cI, 11, .inl f2_3))] H := hP
  have hD : va_D A [(h0, .inr (5, [.ref tr, .ref tc, .ref tg, .ref tf, .ref th, .ref tm, .ref to, .ref tp, .int (-1), .int 0, .long 1, .int 0])), (tf, .inr (0, [.ref uf, .int 0])), (uf, .inl (cI, 11, .inl (fun _ => 0))), (tc, .inr (0, [.ref uc, .int 0])), (uc, .inl (cI, 11, .inl (fun _ => 0))), (th, .inr (1, [.ref uh, .int 0, .int 0, .int 0])), (uh, .inl (cI, 12, .inl (fun _ => 0))), (tg, .inr (0, [.ref ug, .int tot2_2])), (ug, .inl (cI, 11, .inl f2_3))] := hD
  refine lv_aload_n hx hb dX5_fresh_7 rfl (lv_at hl 0 rfl) ?_
  refine va_get (D := D) (ci := 5) (v := .ref tf) (C := RX5) (T := TX5) (N := 12) hx hb hts in_X5_fresh_X5 hown hK hP 0 rfl rfl 3 (by decide) (hts _ wd_X5_fresh_1) (fun _ h9 => h9) rfl dX5_fresh_8 ?_
  refine lv_aload_n hx hb dX5_fresh_11 rfl (lv_at hl 0 rfl) ?_
  refine va_get (D := D) (ci := 5) (v := .ref tc) (C := RX5) (T := TX5) (N := 12) hx hb hts in_X5_fresh_X5 hown hK hP 0 rfl rfl 1 (by decide) (hts _ wd_X5_fresh_2) (fun _ h9 => h9) rfl dX5_fresh_12 ?_
  have hPc := hP.sub (ws' := [(tf, .inr (0, [.ref uf, .int 0])), (uf, .inl (cI, 11, .inl (fun _ => 0))), (tc, .inr (0, [.ref uc, .int 0])), (uc, .inl (cI, 11, .inl (fun _ => 0)))]) [1, 2, 3, 4] rfl
  have hDc := hD.sub (ws' := [(tf, .inr (0, [.ref uf, .int 0])), (uf, .inl (cI, 11, .inl (fun _ => 0))), (tc, .inr (0, [.ref uc, .int 0])), (uc, .inl (cI, 11, .inl (fun _ => 0)))]) [1, 2, 3, 4] (by decide) rfl
  have hFc := va_free (wc := [(tf, .inr (0, [.ref uf, .int 0])), (uf, .inl (cI, 11, .inl (fun _ => 0))), (tc, .inr (0, [.ref uc, .int 0])), (uc, .inl (cI, 11, .inl (fun _ => 0)))]) hD hS hA [1, 2, 3, 4] rfl
  refine va_callv (va_runV (As := [.ref tc]) (rest := []) ⟨hx, hb, hml, hown, hts⟩ (c_X0_copy l D cI cJ cQ _ tf uf 0 (fun _ => 0) tc uc 0 (fun _ => 0)) (cwV 1 hts gX5_fresh_X0_copy rfl rfl rfl (by decide +kernel) ⟨Nat.le_of_ble_eq_true rfl, Nat.le_of_ble_eq_true rfl⟩) (mP_preV (ci := 0) (q0 := 0) hPc hK hDc rfl rfl) rfl rfl hl.1 rfl (lv_room (Nat.le_of_ble_eq_true rfl)) dX5_fresh_15 ⟨Nat.le_of_ble_eq_true rfl, Nat.le_of_ble_eq_true rfl⟩) hS (fun q _ h => hFc q h) hFc (fun u_r_4 t H1 locs ht hvm hr_4 hB hz1 hk1 hS => ?_)
  obtain ⟨tot2_5, f2_6⟩ := u_r_4
  obtain ⟨hP1, hK1, hD1⟩ := hB
  rw [ht] at hP1
  try dsimp only at hr_4
  obtain ⟨hP, hD⟩ := va_join (wr := [(h0, .inr (5, [.ref tr, .ref tc, .ref tg, .ref tf, .ref th, .ref tm, .ref to, .ref tp, .int (-1), .int 0, .long 1, .int 0])), (th, .inr (1, [.ref uh, .int 0, .int 0, .int 0])), (uh, .inl (cI, 12, .inl (fun _ => 0))), (tg, .inr (0, [.ref ug, .int tot2_2])), (ug, .inl (cI, 11, .inl f2_3))]) (w1 := [(tf, .inr (0, [.ref uf, .int tot2_5])), (uf, .inl (cI, 11, .inl f2_6)), (tc, .inr (0, [.ref uc, .int 0])), (uc, .inl (cI, 11, .inl (fun _ => 0)))]) hP hD [1, 2, 3, 4] [0, 5, 6, 7, 8] rfl rfl (by decide) (by decide) hk1 hFc hP1 hD1
  generalize H1 = H at hP hS ⊢
  have hP : va_P D vwCl [(h0, .inr (5, [.ref tr, .ref tc, .ref tg, .ref tf, .ref th, .ref tm, .ref to, .ref tp, .int (-1), .int 0, .long 1, .int 0])), (th, .inr (1, [.ref uh, .int 0, .int 0, .int 0])), (uh, .inl (cI, 12, .inl (fun _ => 0))), (tg, .inr (0, [.ref ug, .int tot2_2])), (ug, .inl (cI, 11, .inl f2_3)), (tf, .inr (0, [.ref uf, .int tot2_5])), (uf, .inl (cI, 11, .inl f2_6)), (tc, .inr (0, [.ref uc, .int 0])), (uc, .inl (cI, 11, .inl (fun _ => 0)))] H := hP
  have hD : va_D A [(h0, .inr (5, [.ref tr, .ref tc, .ref tg, .ref tf, .ref th, .ref tm, .ref to, .ref tp, .int (-1), .int 0, .long 1, .int 0])), (th, .inr (1, [.ref uh, .int 0, .int 0, .int 0])), (uh, .inl (cI, 12, .inl (fun _ => 0))), (tg, .inr (0, [.ref ug, .int tot2_2])), (ug, .inl (cI, 11, .inl f2_3)), (tf, .inr (0, [.ref uf, .int tot2_5])), (uf, .inl (cI, 11, .inl f2_6)), (tc, .inr (0, [.ref uc, .int 0])), (uc, .inl (cI, 11, .inl (fun _ => 0)))] := hD
  refine lv_aload_n hx hb dX5_fresh_18 rfl (lv_at hl 0 rfl) ?_
  refine lv_iconst (v := 0) hx hb dX5_fresh_19 (by decide) ?_
  refine va_put (D := D) (ci := 5) (v := .int 0) (ty := .boolean) (C := RX5) (T := TX5) (N := 12) hx hb hts in_X5_fresh_X5 tyX5 tyX5_ok nmX5 hown hK hP hD hS 0 rfl rfl 11 (by decide) (hts _ wd_X5_fresh_3) (fun _ h9 => h9) rfl (by decide +kernel) rfl rfl (Nat.le_of_ble_eq_true rfl) dX5_fresh_20 (fun H locs hP hD hS => ?_)
  have hP : va_P D vwCl [(h0, .inr (5, [.ref tr, .ref tc, .ref tg, .ref tf, .ref th, .ref tm, .ref to, .ref tp, .int (-1), .int 0, .long 1, .int 0])), (th, .inr (1, [.ref uh, .int 0, .int 0, .int 0])), (uh, .inl (cI, 12, .inl (fun _ => 0))), (tg, .inr (0, [.ref ug, .int tot2_2])), (ug, .inl (cI, 11, .inl f2_3)), (tf, .inr (0, [.ref uf, .int tot2_5])), (uf, .inl (cI, 11, .inl f2_6)), (tc, .inr (0, [.ref uc, .int 0])), (uc, .inl (cI, 11, .inl (fun _ => 0)))] H := hP
  have hD : va_D A [(h0, .inr (5, [.ref tr, .ref tc, .ref tg, .ref tf, .ref th, .ref tm, .ref to, .ref tp, .int (-1), .int 0, .long 1, .int 0])), (th, .inr (1, [.ref uh, .int 0, .int 0, .int 0])), (uh, .inl (cI, 12, .inl (fun _ => 0))), (tg, .inr (0, [.ref ug, .int tot2_2])), (ug, .inl (cI, 11, .inl f2_3)), (tf, .inr (0, [.ref uf, .int tot2_5])), (uf, .inl (cI, 11, .inl f2_6)), (tc, .inr (0, [.ref uc, .int 0])), (uc, .inl (cI, 11, .inl (fun _ => 0)))] := hD
  refine lv_aload_n hx hb dX5_fresh_23 rfl (lv_at hl 0 rfl) ?_
  have hPc := hP.sub (ws' := [(h0, .inr (5, [.ref tr, .ref tc, .ref tg, .ref tf, .ref th, .ref tm, .ref to, .ref tp, .int (-1), .int 0, .long 1, .int 0])), (th, .inr (1, [.ref uh, .int 0, .int 0, .int 0])), (uh, .inl (cI, 12, .inl (fun _ => 0)))]) [0, 1, 2] rfl
  have hDc := hD.sub (ws' := [(h0, .inr (5, [.ref tr, .ref tc, .ref tg, .ref tf, .ref th, .ref tm, .ref to, .ref tp, .int (-1), .int 0, .long 1, .int 0])), (th, .inr (1, [.ref uh, .int 0, .int 0, .int 0])), (uh, .inl (cI, 12, .inl (fun _ => 0)))]) [0, 1, 2] (by decide) rfl
  have hFc := va_free (wc := [(h0, .inr (5, [.ref tr, .ref tc, .ref tg, .ref tf, .ref th, .ref tm, .ref to, .ref tp, .int (-1), .int 0, .long 1, .int 0])), (th, .inr (1, [.ref uh, .int 0, .int 0, .int 0])), (uh, .inl (cI, 12, .inl (fun _ => 0)))]) hD hS hA [0, 1, 2] rfl
  refine va_callv (va_runV (As := []) (rest := []) ⟨hx, hb, hml, hown, hts⟩ (c_X5_clearTable l D cI cJ cQ _ h0 tr tc tg tf th tm to tp uh) (cwV 0 hts gX5_fresh_X5_clearTable rfl rfl rfl (by decide +kernel) ⟨Nat.le_of_ble_eq_true rfl, Nat.le_of_ble_eq_true rfl⟩) (mP_preV (ci := 5) (q0 := 0) hPc hK hDc rfl rfl) rfl rfl hl.1 rfl (lv_room (Nat.le_of_ble_eq_true rfl)) dX5_fresh_24 ⟨Nat.le_of_ble_eq_true rfl, Nat.le_of_ble_eq_true rfl⟩) hS (fun q _ h => hFc q h) hFc (fun u_r_7 t H1 locs ht hvm hr_7 hB hz1 hk1 hS => ?_)
  obtain ⟨hP1, hK1, hD1⟩ := hB
  rw [ht] at hP1
  try dsimp only at hr_7
  obtain ⟨hP, hD⟩ := va_join (wr := [(tg, .inr (0, [.ref ug, .int tot2_2])), (ug, .inl (cI, 11, .inl f2_3)), (tf, .inr (0, [.ref uf, .int tot2_5])), (uf, .inl (cI, 11, .inl f2_6)), (tc, .inr (0, [.ref uc, .int 0])), (uc, .inl (cI, 11, .inl (fun _ => 0)))]) (w1 := [(h0, .inr (5, [.ref tr, .ref tc, .ref tg, .ref tf, .ref th, .ref tm, .ref to, .ref tp, .int (-1), .int 0, .long 1, .int 0])), (th, .inr (1, [.ref uh, .int 0, .int 0, .int 0])), (uh, .inl (cI, 12, .inl (fun _ => 0)))]) hP hD [0, 1, 2] [3, 4, 5, 6, 7, 8] rfl rfl (by decide) (by decide) hk1 hFc hP1 hD1
  generalize H1 = H at hP hS ⊢
  have hP : va_P D vwCl [(tg, .inr (0, [.ref ug, .int tot2_2])), (ug, .inl (cI, 11, .inl f2_3)), (tf, .inr (0, [.ref uf, .int tot2_5])), (uf, .inl (cI, 11, .inl f2_6)), (tc, .inr (0, [.ref uc, .int 0])), (uc, .inl (cI, 11, .inl (fun _ => 0))), (h0, .inr (5, [.ref tr, .ref tc, .ref tg, .ref tf, .ref th, .ref tm, .ref to, .ref tp, .int (-1), .int 0, .long 1, .int 0])), (th, .inr (1, [.ref uh, .int 0, .int 0, .int 0])), (uh, .inl (cI, 12, .inl (fun _ => 0)))] H := hP
  have hD : va_D A [(tg, .inr (0, [.ref ug, .int tot2_2])), (ug, .inl (cI, 11, .inl f2_3)), (tf, .inr (0, [.ref uf, .int tot2_5])), (uf, .inl (cI, 11, .inl f2_6)), (tc, .inr (0, [.ref uc, .int 0])), (uc, .inl (cI, 11, .inl (fun _ => 0))), (h0, .inr (5, [.ref tr, .ref tc, .ref tg, .ref tf, .ref th, .ref tm, .ref to, .ref tp, .int (-1), .int 0, .long 1, .int 0])), (th, .inr (1, [.ref uh, .int 0, .int 0, .int 0])), (uh, .inl (cI, 12, .inl (fun _ => 0)))] := hD
  refine lv_aload_n hx hb dX5_fresh_27 rfl (lv_at hl 0 rfl) ?_
  refine va_get (D := D) (ci := 5) (v := .ref tc) (C := RX5) (T := TX5) (N := 12) hx hb hts in_X5_fresh_X5 hown hK hP 6 rfl rfl 1 (by decide) (hts _ wd_X5_fresh_2) (fun _ h9 => h9) rfl dX5_fresh_28 ?_
  refine va_get (D := D) (ci := 0) (v := .int 0) (C := RX0) (T := TX0) (N := 2) hx hb hts in_X5_fresh_X0 hown hK hP 4 rfl rfl 1 (by decide) (hts _ wd_X5_fresh_4) (fun _ h9 => h9) rfl dX5_fresh_31 ?_
  have hP9 := hP.sub (ws' := []) [] rfl
  have hD9 := hD.sub (ws' := []) [] (by decide) rfl
  exact W.iret (v := 0) hx hb hr (fun t ht hW => ⟨⟨0, (), rfl, (by first | rfl | trivial | (simp [hr_1, hr_4, hr_7]; done) | ((try first | rw [if_pos hr_1] | rw [if_neg hr_1]); (try first | rw [if_pos hr_4] | rw [if_neg hr_4]); (try first | rw [if_pos hr_7] | rw [if_neg hr_7]); first | done | rfl | trivial) | (simp_all; done)), by rw [ht]; exact hP9, va_K.moved hW.alike hK, hD9⟩, hS.F ht⟩) hS.2.2 dX5_fresh_34

set_option maxRecDepth 20000 in
theorem in_X5_rule_X5 : ∀ w ∈ wsX50, w ∈ wsX5_rule := by decide +kernel
set_option maxRecDepth 20000 in
theorem wd_X5_rule_0 : Cond.fieldLink RX5 10 "ShoeTable" "rules" "LShoeTable$Rules;" ∈ wsX5_rule := by decide +kernel
set_option maxRecDepth 20000 in
theorem ggX5_rule_X4_change : GoodIn wsX5_rule wsX4_change := goodIn_r _ [6, 7, 8, 9, 10, 5, 11, 12, 13, 26] (by decide +kernel) (by decide +kernel)
set_option maxRecDepth 20000 in
theorem gX5_rule_X4_change : GoodIn wsX5_rule (wsV RX5 94 RX4 yX4_change wsX4_change) := goodIn_app (goodIn_of _ (by decide +kernel)) ggX5_rule_X4_change
set_option maxHeartbeats 400000 in
set_option maxRecDepth 100000 in
/-- X5_rule -/
theorem c_X5_rule (l : Launch) (D : va_G) (cI cJ cQ : ClassId) (sz : Nat) (h0 : Nat) (tr : Nat) (tc : Nat) (tg : Nat) (tf : Nat) (th : Nat) (tm : Nat) (to : Nat) (tp : Nat) (ur : Nat) (w1 : Nat → Int32) (p0 : Int32) (p1 : Int32) (tL : Nat) (tM : Nat) (hw : ∀ j, j < 7 → w1 j = rules0 j) : Met l yX5_rule wsX5_rule ({ frames := 2, cells := 0, slots := 0, locals := 45 }) (va_Pc [.ref h0, .int p0, .int p1] (mPs D (gTy cI cJ cQ) [(h0, .inr (5, [.ref tr, .ref tc, .ref tg, .ref tf, .ref th, .ref tm, .ref to, .ref tp, .int (-1), .int 0, .long 1, .int 0])), (tr, .inr (4, [.ref ur])), (ur, .inl (cI, 7, .inl w1))] sz tL tM)) (va_Qi (fun (r : Int32) (u : Unit) => match u with | _ => r = ruleS p0 p1) (fun (u : Unit) t => match u with | _ => mB D (gTy cI cJ cQ) (va_A [(h0, .inr (5, [.ref tr, .ref tc, .ref tg, .ref tf, .ref th, .ref tm, .ref to, .ref tp, .int (-1), .int 0, .long 1, .int 0])), (tr, .inr (4, [.ref ur])), (ur, .inl (cI, 7, .inl w1))] sz) [] t) (va_A [(h0, .inr (5, [.ref tr, .ref tc, .ref tg, .ref tf, .ref th, .ref tm, .ref to, .ref tp, .int (-1), .int 0, .long 1, .int 0])), (tr, .inr (4, [.ref ur])), (ur, .inl (cI, 7, .inl w1))] sz)) 0 0 (va_A [(h0, .inr (5, [.ref tr, .ref tc, .ref tg, .ref tf, .ref th, .ref tm, .ref to, .ref tp, .int (-1), .int 0, .long 1, .int 0])), (tr, .inr (4, [.ref ur])), (ur, .inl (cI, 7, .inl w1))] sz) := by
  refine Met.ofW (cc := cX5_rule) (maxL := 3) (ret := (some .int)) (by decide) rfl ?_
  intro p e s m args below meth c s₁ B hml hv
  obtain ⟨rfl, ⟨hsz, hP, hK, hD0⟩, hZ⟩ := hv
  have hx := B.exec
  have hb := B.bytes
  have hr := B.returns
  have hts := atoms_spec (ws := wsX5_rule) B.pre
  have hown : s.vm.findClass RX5 = some m.cls := findClass_of_methodNamed B.named
  have hlocks := B.notSynchronized
  subst hsz
  have hD := hD0.self (sz := s.heap.size)
  generalize hAe : va_A [(h0, .inr (5, [.ref tr, .ref tc, .ref tg, .ref tf, .ref th, .ref tm, .ref to, .ref tp, .int (-1), .int 0, .long 1, .int 0])), (tr, .inr (4, [.ref ur])), (ur, .inl (cI, 7, .inl w1))] s.heap.size = A at hD hZ ⊢
  have hA : ∀ q : Nat, s.heap.size ≤ q → A q := fun q h => by rw [← hAe]; exact Or.inr h
  have hS : va_S A s.heap s.heap [] := va_S.rf
  have hP : va_P D vwCl [(h0, .inr (5, [.ref tr, .ref tc, .ref tg, .ref tf, .ref th, .ref tm, .ref to, .ref tp, .int (-1), .int 0, .long 1, .int 0])), (tr, .inr (4, [.ref ur])), (ur, .inl (cI, 7, .inl w1))] s.heap := hP
  have hl := lv_entry ([.ref h0, .int p0, .int p1]) (n := 3) (Nat.le_of_ble_eq_true rfl)
  rw [lg_entry_eq]
  generalize (lg_sl ([.ref h0, .int p0, .int p1]) ++ List.replicate (3 - (lg_sl ([.ref h0, .int p0, .int p1])).length) Slot.unset).toArray = ls at hl ⊢
  have hl : lv_has ls 3 [(0, .ref h0), (1, .int p0), (2, .int p1)] := hl
  refine lv_aload_n hx hb dX5_rule_0 rfl (lv_at hl 0 rfl) ?_
  refine va_get (D := D) (ci := 5) (v := .ref tr) (C := RX5) (T := TX5) (N := 12) hx hb hts in_X5_rule_X5 hown hK hP 0 rfl rfl 0 (by decide) (hts _ wd_X5_rule_0) (fun _ h9 => h9) rfl dX5_rule_1 ?_
  refine lv_iload_n hx hb dX5_rule_4 rfl (lv_at hl 1 rfl) ?_
  refine lv_iload_n hx hb dX5_rule_5 rfl (lv_at hl 2 rfl) ?_
  have hPc := hP.sub (ws' := [(tr, .inr (4, [.ref ur])), (ur, .inl (cI, 7, .inl w1))]) [1, 2] rfl
  have hDc := hD.sub (ws' := [(tr, .inr (4, [.ref ur])), (ur, .inl (cI, 7, .inl w1))]) [1, 2] (by decide) rfl
  have hFc := va_free (wc := [(tr, .inr (4, [.ref ur])), (ur, .inl (cI, 7, .inl w1))]) hD hS hA [1, 2] rfl
  refine va_calli (va_runV (As := [.int p0, .int p1]) (rest := []) ⟨hx, hb, hml, hown, hts⟩ (c_X4_change l D cI cJ cQ _ tr ur (w1) p0 p1 tL tM) (cwV 2 hts gX5_rule_X4_change rfl rfl rfl (by decide +kernel) ⟨Nat.le_of_ble_eq_true rfl, Nat.le_of_ble_eq_true rfl⟩) (mPs_preV (ci := 4) (q0 := 0) hPc hK hDc hZ hS hFc rfl rfl) rfl rfl hl.1 rfl (lv_room (Nat.le_of_ble_eq_true rfl)) dX5_rule_6 ⟨Nat.le_of_ble_eq_true rfl, Nat.le_of_ble_eq_true rfl⟩) hS (fun q _ h => hFc q h) hFc (fun r_1 u_r_1 t H1 locs ht hvm hr_1 hB hz1 hk1 hS => ?_)
  obtain ⟨w2_2, rfl⟩ : ∃ z, z = u_r_1 := ⟨_, rfl⟩
  obtain ⟨hP1, hK1, hD1⟩ := hB
  rw [ht] at hP1
  try dsimp only at hr_1
  obtain ⟨hP, hD⟩ := va_join (wr := [(h0, .inr (5, [.ref tr, .ref tc, .ref tg, .ref tf, .ref th, .ref tm, .ref to, .ref tp, .int (-1), .int 0, .long 1, .int 0]))]) (w1 := [(tr, .inr (4, [.ref ur])), (ur, .inl (cI, 7, .inl w2_2))]) hP hD [1, 2] [0] rfl rfl (by decide) (by decide) hk1 hFc hP1 hD1
  generalize H1 = H at hP hS ⊢
  have hP : va_P D vwCl [(h0, .inr (5, [.ref tr, .ref tc, .ref tg, .ref tf, .ref th, .ref tm, .ref to, .ref tp, .int (-1), .int 0, .long 1, .int 0])), (tr, .inr (4, [.ref ur])), (ur, .inl (cI, 7, .inl w2_2))] H := hP
  have hD : va_D A [(h0, .inr (5, [.ref tr, .ref tc, .ref tg, .ref tf, .ref th, .ref tm, .ref to, .ref tp, .int (-1), .int 0, .long 1, .int 0])), (tr, .inr (4, [.ref ur])), (ur, .inl (cI, 7, .inl w2_2))] := hD
  have hP9 := hP.sub (ws' := []) [] rfl
  have hD9 := hD.sub (ws' := []) [] (by decide) rfl
  exact W.iret (v := r_1) hx hb hr (fun t ht hW => ⟨⟨r_1, (), rfl, (ruleS_of hw hr_1), by rw [ht]; exact hP9, va_K.moved hW.alike hK, hD9⟩, hS.F ht⟩) hS.2.2 dX5_rule_9

set_option maxRecDepth 20000 in
theorem ggX5_mark_X5_isRank : GoodIn wsX5_mark wsX5_isRank := goodIn_r _ [5] (by decide +kernel) (by decide +kernel)
set_option maxRecDepth 20000 in
theorem gX5_mark_X5_isRank : GoodIn wsX5_mark (va_wsS RX5 69 yX5_isRank wsX5_isRank) := goodIn_app (goodIn_of _ (by decide +kernel)) ggX5_mark_X5_isRank
set_option maxRecDepth 20000 in
theorem in_X5_mark_X5 : ∀ w ∈ wsX50, w ∈ wsX5_mark := by decide +kernel
set_option maxRecDepth 20000 in
theorem wd_X5_mark_0 : Cond.fieldLink RX5 36 "ShoeTable" "marks" "[I" ∈ wsX5_mark := by decide +kernel
set_option maxHeartbeats 400000 in
set_option maxRecDepth 100000 in
/-- X5_mark -/
theorem c_X5_mark (l : Launch) (D : va_G) (cI cJ cQ : ClassId) (sz : Nat) (h0 : Nat) (tr : Nat) (tc : Nat) (tg : Nat) (tf : Nat) (th : Nat) (tm : Nat) (to : Nat) (tp : Nat) (p0 : Int32) (p1 : Int32)  : Met l yX5_mark wsX5_mark ({ frames := 1, cells := 0, slots := 0, locals := 20 }) (va_Pc [.ref h0, .int p0, .int p1] (mP D (gTy cI cJ cQ) [(h0, .inr (5, [.ref tr, .ref tc, .ref tg, .ref tf, .ref th, .ref tm, .ref to, .ref tp, .int (-1), .int 0, .long 1, .int 0])), (tm, .inl (cI, 11, .inl (fun _ => 0)))] sz)) (va_Qi (fun (r : Int32) (u : Unit) => match u with | _ => r = markS p0 p1) (fun (u : Unit) t => match u with | _ => mB D (gTy cI cJ cQ) (va_A [(h0, .inr (5, [.ref tr, .ref tc, .ref tg, .ref tf, .ref th, .ref tm, .ref to, .ref tp, .int (-1), .int 0, .long 1, .int 0])), (tm, .inl (cI, 11, .inl (fun _ => 0)))] sz) [] t) (va_A [(h0, .inr (5, [.ref tr, .ref tc, .ref tg, .ref tf, .ref th, .ref tm, .ref to, .ref tp, .int (-1), .int 0, .long 1, .int 0])), (tm, .inl (cI, 11, .inl (fun _ => 0)))] sz)) 0 0 (va_A [(h0, .inr (5, [.ref tr, .ref tc, .ref tg, .ref tf, .ref th, .ref tm, .ref to, .ref tp, .int (-1), .int 0, .long 1, .int 0])), (tm, .inl (cI, 11, .inl (fun _ => 0)))] sz) := by
  refine Met.ofW (cc := cX5_mark) (maxL := 4) (ret := (some .int)) (by decide) rfl ?_
  intro p e s m args below meth c s₁ B hml hv
  obtain ⟨rfl, hsz, hP, hK, hD0⟩ := hv
  have hx := B.exec
  have hb := B.bytes
  have hr := B.returns
  have hts := atoms_spec (ws := wsX5_mark) B.pre
  have hown : s.vm.findClass RX5 = some m.cls := findClass_of_methodNamed B.named
  have hlocks := B.notSynchronized
  subst hsz
  have hD := hD0.self (sz := s.heap.size)
  generalize hAe : va_A [(h0, .inr (5, [.ref tr, .ref tc, .ref tg, .ref tf, .ref th, .ref tm, .ref to, .ref tp, .int (-1), .int 0, .long 1, .int 0])), (tm, .inl (cI, 11, .inl (fun _ => 0)))] s.heap.size = A at hD ⊢
  have hA : ∀ q : Nat, s.heap.size ≤ q → A q := fun q h => by rw [← hAe]; exact Or.inr h
  have hS : va_S A s.heap s.heap [] := va_S.rf
  have hP : va_P D vwCl [(h0, .inr (5, [.ref tr, .ref tc, .ref tg, .ref tf, .ref th, .ref tm, .ref to, .ref tp, .int (-1), .int 0, .long 1, .int 0])), (tm, .inl (cI, 11, .inl (fun _ => 0)))] s.heap := hP
  have hl := lv_entry ([.ref h0, .int p0, .int p1]) (n := 4) (Nat.le_of_ble_eq_true rfl)
  rw [lg_entry_eq]
  generalize (lg_sl ([.ref h0, .int p0, .int p1]) ++ List.replicate (4 - (lg_sl ([.ref h0, .int p0, .int p1])).length) Slot.unset).toArray = ls at hl ⊢
  have hl : lv_has ls 4 [(0, .ref h0), (1, .int p0), (2, .int p1)] := hl
  refine lv_iload_n hx hb dX5_mark_0 rfl (lv_at hl 1 rfl) ?_
  have hPc := hP.sub (ws' := []) [] rfl
  refine vp_callSi (W.runS (As := [.int p0]) (rest := []) ⟨hx, hb, hml, hown, hts⟩ (c_X5_isRank l D cI cJ cQ p0) (va_cwS 1 hts gX5_mark_X5_isRank rfl rfl rfl (by decide +kernel) ⟨Nat.le_of_ble_eq_true rfl, Nat.le_of_ble_eq_true rfl⟩) (rP_preS hPc hK) rfl rfl hl.1 rfl (lv_room (Nat.le_of_ble_eq_true rfl)) dX5_mark_1 ⟨Nat.le_of_ble_eq_true rfl, Nat.le_of_ble_eq_true rfl⟩) (fun r_1 hr_1 => ?_)
  subst hr_1
  refine lv_if_eq (tgt := 18) hx hb dX5_mark_4 (by decide) (fun c4_2 => ?_) (fun c4_2 => ?_)
  · skip
    refine lv_sipush (v := (-1001)) hx hb dX5_mark_18 (by decide) ?_
    have hP9 := hP.sub (ws' := []) [] rfl
    have hD9 := hD.sub (ws' := []) [] (by decide) rfl
    exact W.iret (v := (-1001)) hx hb hr (fun t ht hW => ⟨⟨(-1001), (), rfl, (by unfold markS; first | (simp [c4_2]; done) | ((try first | rw [if_pos c4_2] | rw [if_neg c4_2]); first | done | rfl | trivial)), by rw [ht]; exact hP9, va_K.moved hW.alike hK, hD9⟩, hS.F ht⟩) hS.2.2 dX5_mark_21
  · skip
    refine lv_iload_n hx hb dX5_mark_7 rfl (lv_at hl 2 rfl) ?_
    refine lv_bipush (v := (-3)) hx hb dX5_mark_8 (by decide) ?_
    refine lv_icmp_lt (tgt := 18) hx hb dX5_mark_10 (by decide) (fun c10_3 => ?_) (fun c10_3 => ?_)
    · skip
      refine lv_sipush (v := (-1001)) hx hb dX5_mark_18 (by decide) ?_
      have hP9 := hP.sub (ws' := []) [] rfl
      have hD9 := hD.sub (ws' := []) [] (by decide) rfl
      exact W.iret (v := (-1001)) hx hb hr (fun t ht hW => ⟨⟨(-1001), (), rfl, (by unfold markS; first | (simp [c4_2, c10_3]; done) | ((try first | rw [if_pos c4_2] | rw [if_neg c4_2]); (try first | rw [if_pos c10_3] | rw [if_neg c10_3]); first | done | rfl | trivial)), by rw [ht]; exact hP9, va_K.moved hW.alike hK, hD9⟩, hS.F ht⟩) hS.2.2 dX5_mark_21
    · skip
      refine lv_iload_n hx hb dX5_mark_13 rfl (lv_at hl 2 rfl) ?_
      refine lv_iconst (v := 3) hx hb dX5_mark_14 (by decide) ?_
      refine lv_icmp_le (tgt := 22) hx hb dX5_mark_15 (by decide) (fun c15_4 => ?_) (fun c15_4 => ?_)
      · skip
        refine lv_aload_n hx hb dX5_mark_22 rfl (lv_at hl 0 rfl) ?_
        refine va_get (D := D) (ci := 5) (v := .ref tm) (C := RX5) (T := TX5) (N := 12) hx hb hts in_X5_mark_X5 hown hK hP 0 rfl rfl 5 (by decide) (hts _ wd_X5_mark_0) (fun _ h9 => h9) rfl dX5_mark_23 ?_
        refine lv_iload_n hx hb dX5_mark_26 rfl (lv_at hl 1 rfl) ?_
        refine va_iald hx hb hK hP 1 0 rfl rfl (rkB_in c4_2) dX5_mark_27 ?_
        refine lv_topi (fun z_5 ez_5 => ?_)
        obtain rfl : z_5 = 0 := ez_5
        refine lv_istore_n (lv' := [(3, .int 0), (0, .ref h0), (1, .int p0), (2, .int p1)]) hx hb dX5_mark_28 rfl hl (by decide) rfl (fun ls hl => ?_)
        refine lv_aload_n hx hb dX5_mark_29 rfl (lv_at hl 1 rfl) ?_
        refine va_get (D := D) (ci := 5) (v := .ref tm) (C := RX5) (T := TX5) (N := 12) hx hb hts in_X5_mark_X5 hown hK hP 0 rfl rfl 5 (by decide) (hts _ wd_X5_mark_0) (fun _ h9 => h9) rfl dX5_mark_30 ?_
        refine lv_iload_n hx hb dX5_mark_33 rfl (lv_at hl 2 rfl) ?_
        refine lv_iload_n hx hb dX5_mark_34 rfl (lv_at hl 3 rfl) ?_
        refine va_iast hx hb hK hP hD hS 1 0 rfl rfl (rkB_in c4_2) dX5_mark_35 (fun H locs hP hD hS => ?_)
        have hP : va_P D vwCl [(h0, .inr (5, [.ref tr, .ref tc, .ref tg, .ref tf, .ref th, .ref tm, .ref to, .ref tp, .int (-1), .int 0, .long 1, .int 0])), (tm, .inl (cI, 11, .inl (upd (fun _ => 0) p0.toNatClampNeg p1)))] H := hP
        have hD : va_D A [(h0, .inr (5, [.ref tr, .ref tc, .ref tg, .ref tf, .ref th, .ref tm, .ref to, .ref tp, .int (-1), .int 0, .long 1, .int 0])), (tm, .inl (cI, 11, .inl (upd (fun _ => 0) p0.toNatClampNeg p1)))] := hD
        refine lv_iload_n hx hb dX5_mark_36 rfl (lv_at hl 0 rfl) ?_
        have hP9 := hP.sub (ws' := []) [] rfl
        have hD9 := hD.sub (ws' := []) [] (by decide) rfl
        exact W.iret (v := 0) hx hb hr (fun t ht hW => ⟨⟨0, (), rfl, (by unfold markS; first | (simp [c4_2, c10_3, c15_4]; done) | ((try first | rw [if_pos c4_2] | rw [if_neg c4_2]); (try first | rw [if_pos c10_3] | rw [if_neg c10_3]); (try first | rw [if_pos c15_4] | rw [if_neg c15_4]); first | done | rfl | trivial)), by rw [ht]; exact hP9, va_K.moved hW.alike hK, hD9⟩, hS.F ht⟩) hS.2.2 dX5_mark_37
      · skip
        refine lv_sipush (v := (-1001)) hx hb dX5_mark_18 (by decide) ?_
        have hP9 := hP.sub (ws' := []) [] rfl
        have hD9 := hD.sub (ws' := []) [] (by decide) rfl
        exact W.iret (v := (-1001)) hx hb hr (fun t ht hW => ⟨⟨(-1001), (), rfl, (by unfold markS; first | (simp [c4_2, c10_3, c15_4]; done) | ((try first | rw [if_pos c4_2] | rw [if_neg c4_2]); (try first | rw [if_pos c10_3] | rw [if_neg c10_3]); (try first | rw [if_pos c15_4] | rw [if_neg c15_4]); first | done | rfl | trivial)), by rw [ht]; exact hP9, va_K.moved hW.alike hK, hD9⟩, hS.F ht⟩) hS.2.2 dX5_mark_21

set_option maxRecDepth 20000 in
theorem ggX5_left_X5_isRank : GoodIn wsX5_left wsX5_isRank := goodIn_r _ [6] (by decide +kernel) (by decide +kernel)
set_option maxRecDepth 20000 in
theorem gX5_left_X5_isRank : GoodIn wsX5_left (va_wsS RX5 69 yX5_isRank wsX5_isRank) := goodIn_app (goodIn_of _ (by decide +kernel)) ggX5_left_X5_isRank
set_option maxRecDepth 20000 in
theorem in_X5_left_X5 : ∀ w ∈ wsX50, w ∈ wsX5_left := by decide +kernel
set_option maxRecDepth 20000 in
theorem wd_X5_left_0 : Cond.fieldLink RX5 19 "ShoeTable" "cards" "LShoeTable$Cards;" ∈ wsX5_left := by decide +kernel
set_option maxRecDepth 20000 in
theorem ggX5_left_X0_count : GoodIn wsX5_left wsX0_count := goodIn_r _ [11, 12, 25, 26] (by decide +kernel) (by decide +kernel)
set_option maxRecDepth 20000 in
theorem gX5_left_X0_count : GoodIn wsX5_left (wsV RX5 73 RX0 yX0_count wsX0_count) := goodIn_app (goodIn_of _ (by decide +kernel)) ggX5_left_X0_count
set_option maxRecDepth 20000 in
theorem in_X5_left_X0 : ∀ w ∈ wsX00, w ∈ wsX5_left := by decide +kernel
set_option maxRecDepth 20000 in
theorem wd_X5_left_1 : Cond.fieldLink RX5 91 "ShoeTable$Cards" "total" "I" ∈ wsX5_left := by decide +kernel
set_option maxHeartbeats 400000 in
set_option maxRecDepth 100000 in
/-- X5_left -/
theorem c_X5_left (l : Launch) (D : va_G) (cI cJ cQ : ClassId) (h0 : Nat) (tr : Nat) (tc : Nat) (tg : Nat) (tf : Nat) (th : Nat) (tm : Nat) (to : Nat) (tp : Nat) (uc : Nat) (p0 : Int32)  : Met l yX5_left wsX5_left ({ frames := 1, cells := 0, slots := 0, locals := 21 }) (va_Pc [.ref h0, .int p0] (rP D (gTy cI cJ cQ) [(h0, .inr (5, [.ref tr, .ref tc, .ref tg, .ref tf, .ref th, .ref tm, .ref to, .ref tp, .int (-1), .int 0, .long 1, .int 0])), (tc, .inr (0, [.ref uc, .int 0])), (uc, .inl (cI, 11, .inl (fun _ => 0)))])) (vp_Si (fun r => r = leftS p0)) 0 0 (fun _ => False) := by
  refine Met.ofW (cc := cX5_left) (maxL := 2) (ret := (some .int)) (by decide) rfl ?_
  intro p e s m args below meth c s₁ B hml hv
  obtain ⟨rfl, hP, hK⟩ := hv
  have hx := B.exec
  have hb := B.bytes
  have hr := B.returns
  have hts := atoms_spec (ws := wsX5_left) B.pre
  have hown : s.vm.findClass RX5 = some m.cls := findClass_of_methodNamed B.named
  have hlocks := B.notSynchronized
  have hl := lv_entry ([.ref h0, .int p0]) (n := 2) (Nat.le_of_ble_eq_true rfl)
  rw [lg_entry_eq]
  generalize (lg_sl ([.ref h0, .int p0]) ++ List.replicate (2 - (lg_sl ([.ref h0, .int p0])).length) Slot.unset).toArray = ls at hl ⊢
  have hl : lv_has ls 2 [(0, .ref h0), (1, .int p0)] := hl
  refine lv_iload_n hx hb dX5_left_0 rfl (lv_at hl 1 rfl) ?_
  refine lv_if_ne (tgt := 12) hx hb dX5_left_1 (by decide) (fun c1_1 => ?_) (fun c1_1 => ?_)
  · skip
    refine lv_iload_n hx hb dX5_left_12 rfl (lv_at hl 1 rfl) ?_
    have hPc := hP.sub (ws' := []) [] rfl
    refine vp_callSi (W.runS (As := [.int p0]) (rest := []) ⟨hx, hb, hml, hown, hts⟩ (c_X5_isRank l D cI cJ cQ p0) (va_cwS 1 hts gX5_left_X5_isRank rfl rfl rfl (by decide +kernel) ⟨Nat.le_of_ble_eq_true rfl, Nat.le_of_ble_eq_true rfl⟩) (rP_preS hPc hK) rfl rfl hl.1 rfl (lv_room (Nat.le_of_ble_eq_true rfl)) dX5_left_13 ⟨Nat.le_of_ble_eq_true rfl, Nat.le_of_ble_eq_true rfl⟩) (fun r_2 hr_2 => ?_)
    subst hr_2
    refine lv_if_eq (tgt := 30) hx hb dX5_left_16 (by decide) (fun c16_3 => ?_) (fun c16_3 => ?_)
    · skip
      refine lv_sipush (v := (-1001)) hx hb dX5_left_30 (by decide) ?_
      exact W.iret (v := (-1001)) hx hb hr (fun t ht hW => ⟨_, rfl, (by unfold leftS; first | (simp [c1_1, c16_3]; done) | ((try first | rw [if_pos c1_1] | rw [if_neg c1_1]); (try first | rw [if_pos c16_3] | rw [if_neg c16_3]); first | done | rfl | trivial)), ht⟩) (fun q hq => absurd hq List.not_mem_nil) dX5_left_33
    · skip
      refine lv_aload_n hx hb dX5_left_19 rfl (lv_at hl 0 rfl) ?_
      refine va_get (D := D) (ci := 5) (v := .ref tc) (C := RX5) (T := TX5) (N := 12) hx hb hts in_X5_left_X5 hown hK hP 0 rfl rfl 1 (by decide) (hts _ wd_X5_left_0) (fun _ h9 => h9) rfl dX5_left_20 ?_
      refine lv_iload_n hx hb dX5_left_23 rfl (lv_at hl 1 rfl) ?_
      have hPc := hP.sub (ws' := [(tc, .inr (0, [.ref uc, .int 0])), (uc, .inl (cI, 11, .inl (fun _ => 0)))]) [1, 2] rfl
      refine vp_callSi (W.runV (As := [.int p0]) (rest := []) ⟨hx, hb, hml, hown, hts⟩ (c_X0_count0 l D cI cJ cQ tc uc p0) (cwV 1 hts gX5_left_X0_count rfl rfl rfl (by decide +kernel) ⟨Nat.le_of_ble_eq_true rfl, Nat.le_of_ble_eq_true rfl⟩) (rP_preV (ci := 0) (q0 := 0) hPc hK rfl rfl) rfl rfl hl.1 rfl (lv_room (Nat.le_of_ble_eq_true rfl)) dX5_left_24 ⟨Nat.le_of_ble_eq_true rfl, Nat.le_of_ble_eq_true rfl⟩) (fun r_4 hr_4 => ?_)
      subst hr_4
      refine lv_goto (tgt := 33) hx hb dX5_left_27 (by decide) ?_
      exact W.iret (v := 0) hx hb hr (fun t ht hW => ⟨_, rfl, (by unfold leftS; first | (simp [c1_1, c16_3]; done) | ((try first | rw [if_pos c1_1] | rw [if_neg c1_1]); (try first | rw [if_pos c16_3] | rw [if_neg c16_3]); first | done | rfl | trivial)), ht⟩) (fun q hq => absurd hq List.not_mem_nil) dX5_left_33
  · skip
    refine lv_aload_n hx hb dX5_left_4 rfl (lv_at hl 0 rfl) ?_
    refine va_get (D := D) (ci := 5) (v := .ref tc) (C := RX5) (T := TX5) (N := 12) hx hb hts in_X5_left_X5 hown hK hP 0 rfl rfl 1 (by decide) (hts _ wd_X5_left_0) (fun _ h9 => h9) rfl dX5_left_5 ?_
    refine va_get (D := D) (ci := 0) (v := .int 0) (C := RX0) (T := TX0) (N := 2) hx hb hts in_X5_left_X0 hown hK hP 1 rfl rfl 1 (by decide) (hts _ wd_X5_left_1) (fun _ h9 => h9) rfl dX5_left_8 ?_
    exact W.iret (v := 0) hx hb hr (fun t ht hW => ⟨_, rfl, (by unfold leftS; first | (simp [c1_1]; done) | ((try first | rw [if_pos c1_1] | rw [if_neg c1_1]); first | done | rfl | trivial)), ht⟩) (fun q hq => absurd hq List.not_mem_nil) dX5_left_11

set_option maxRecDepth 20000 in
theorem ggX5_take_X5_isRank : GoodIn wsX5_take wsX5_isRank := goodIn_r _ [7] (by decide +kernel) (by decide +kernel)
set_option maxRecDepth 20000 in
theorem gX5_take_X5_isRank : GoodIn wsX5_take (va_wsS RX5 69 yX5_isRank wsX5_isRank) := goodIn_app (goodIn_of _ (by decide +kernel)) ggX5_take_X5_isRank
set_option maxRecDepth 20000 in
theorem ggX5_take_X5_isGoal : GoodIn wsX5_take wsX5_isGoal := goodIn_r _ [10] (by decide +kernel) (by decide +kernel)
set_option maxRecDepth 20000 in
theorem gX5_take_X5_isGoal : GoodIn wsX5_take (va_wsS RX5 98 yX5_isGoal wsX5_isGoal) := goodIn_app (goodIn_of _ (by decide +kernel)) ggX5_take_X5_isGoal
set_option maxRecDepth 20000 in
theorem in_X5_take_X5 : ∀ w ∈ wsX50, w ∈ wsX5_take := by decide +kernel
set_option maxRecDepth 20000 in
theorem wd_X5_take_0 : Cond.fieldLink RX5 19 "ShoeTable" "cards" "LShoeTable$Cards;" ∈ wsX5_take := by decide +kernel
set_option maxRecDepth 20000 in
theorem ggX5_take_X0_count : GoodIn wsX5_take wsX0_count := goodIn_r _ [15, 16, 65, 66] (by decide +kernel) (by decide +kernel)
set_option maxRecDepth 20000 in
theorem gX5_take_X0_count : GoodIn wsX5_take (wsV RX5 73 RX0 yX0_count wsX0_count) := goodIn_app (goodIn_of _ (by decide +kernel)) ggX5_take_X0_count
set_option maxHeartbeats 400000 in
set_option maxRecDepth 100000 in
/-- X5_take -/
theorem c_X5_take (l : Launch) (D : va_G) (cI cJ cQ : ClassId) (h0 : Nat) (tr : Nat) (tc : Nat) (tg : Nat) (tf : Nat) (th : Nat) (tm : Nat) (to : Nat) (tp : Nat) (uc : Nat) (p0 : Int32) (p1 : Int32)  : Met l yX5_take wsX5_take ({ frames := 1, cells := 0, slots := 0, locals := 21 }) (va_Pc [.ref h0, .int p0, .int p1] (rP D (gTy cI cJ cQ) [(h0, .inr (5, [.ref tr, .ref tc, .ref tg, .ref tf, .ref th, .ref tm, .ref to, .ref tp, .int (-1), .int 0, .long 1, .int 0])), (tc, .inr (0, [.ref uc, .int 0])), (uc, .inl (cI, 11, .inl (fun _ => 0)))])) (vp_Si (fun r => r = takeS p0 p1)) 0 0 (fun _ => False) := by
  refine Met.ofW (cc := cX5_take) (maxL := 3) (ret := (some .int)) (by decide) rfl ?_
  intro p e s m args below meth c s₁ B hml hv
  obtain ⟨rfl, hP, hK⟩ := hv
  have hx := B.exec
  have hb := B.bytes
  have hr := B.returns
  have hts := atoms_spec (ws := wsX5_take) B.pre
  have hown : s.vm.findClass RX5 = some m.cls := findClass_of_methodNamed B.named
  have hlocks := B.notSynchronized
  have hl := lv_entry ([.ref h0, .int p0, .int p1]) (n := 3) (Nat.le_of_ble_eq_true rfl)
  rw [lg_entry_eq]
  generalize (lg_sl ([.ref h0, .int p0, .int p1]) ++ List.replicate (3 - (lg_sl ([.ref h0, .int p0, .int p1])).length) Slot.unset).toArray = ls at hl ⊢
  have hl : lv_has ls 3 [(0, .ref h0), (1, .int p0), (2, .int p1)] := hl
  refine lv_iload_n hx hb dX5_take_0 rfl (lv_at hl 1 rfl) ?_
  have hPc := hP.sub (ws' := []) [] rfl
  refine vp_callSi (W.runS (As := [.int p0]) (rest := []) ⟨hx, hb, hml, hown, hts⟩ (c_X5_isRank l D cI cJ cQ p0) (va_cwS 1 hts gX5_take_X5_isRank rfl rfl rfl (by decide +kernel) ⟨Nat.le_of_ble_eq_true rfl, Nat.le_of_ble_eq_true rfl⟩) (rP_preS hPc hK) rfl rfl hl.1 rfl (lv_room (Nat.le_of_ble_eq_true rfl)) dX5_take_1 ⟨Nat.le_of_ble_eq_true rfl, Nat.le_of_ble_eq_true rfl⟩) (fun r_1 hr_1 => ?_)
  subst hr_1
  refine lv_if_eq (tgt := 14) hx hb dX5_take_4 (by decide) (fun c4_2 => ?_) (fun c4_2 => ?_)
  · skip
    refine lv_sipush (v := (-1001)) hx hb dX5_take_14 (by decide) ?_
    exact W.iret (v := (-1001)) hx hb hr (fun t ht hW => ⟨_, rfl, (by unfold takeS; first | (simp [c4_2]; done) | ((try first | rw [if_pos c4_2] | rw [if_neg c4_2]); first | done | rfl | trivial)), ht⟩) (fun q hq => absurd hq List.not_mem_nil) dX5_take_17
  · skip
    refine lv_iload_n hx hb dX5_take_7 rfl (lv_at hl 2 rfl) ?_
    have hPc := hP.sub (ws' := []) [] rfl
    refine vp_callSi (W.runS (As := [.int p1]) (rest := []) ⟨hx, hb, hml, hown, hts⟩ (c_X5_isGoal l D cI cJ cQ p1) (va_cwS 1 hts gX5_take_X5_isGoal rfl rfl rfl (by decide +kernel) ⟨Nat.le_of_ble_eq_true rfl, Nat.le_of_ble_eq_true rfl⟩) (rP_preS hPc hK) rfl rfl hl.1 rfl (lv_room (Nat.le_of_ble_eq_true rfl)) dX5_take_8 ⟨Nat.le_of_ble_eq_true rfl, Nat.le_of_ble_eq_true rfl⟩) (fun r_3 hr_3 => ?_)
    subst hr_3
    refine lv_if_ne (tgt := 18) hx hb dX5_take_11 (by decide) (fun c11_4 => ?_) (fun c11_4 => ?_)
    · skip
      refine lv_aload_n hx hb dX5_take_18 rfl (lv_at hl 0 rfl) ?_
      refine va_get (D := D) (ci := 5) (v := .ref tc) (C := RX5) (T := TX5) (N := 12) hx hb hts in_X5_take_X5 hown hK hP 0 rfl rfl 1 (by decide) (hts _ wd_X5_take_0) (fun _ h9 => h9) rfl dX5_take_19 ?_
      refine lv_iload_n hx hb dX5_take_22 rfl (lv_at hl 1 rfl) ?_
      have hPc := hP.sub (ws' := [(tc, .inr (0, [.ref uc, .int 0])), (uc, .inl (cI, 11, .inl (fun _ => 0)))]) [1, 2] rfl
      refine vp_callSi (W.runV (As := [.int p0]) (rest := []) ⟨hx, hb, hml, hown, hts⟩ (c_X0_count0 l D cI cJ cQ tc uc p0) (cwV 1 hts gX5_take_X0_count rfl rfl rfl (by decide +kernel) ⟨Nat.le_of_ble_eq_true rfl, Nat.le_of_ble_eq_true rfl⟩) (rP_preV (ci := 0) (q0 := 0) hPc hK rfl rfl) rfl rfl hl.1 rfl (lv_room (Nat.le_of_ble_eq_true rfl)) dX5_take_23 ⟨Nat.le_of_ble_eq_true rfl, Nat.le_of_ble_eq_true rfl⟩) (fun r_5 hr_5 => ?_)
      subst hr_5
      refine lv_if_ne (tgt := 33) hx hb dX5_take_26 (by decide) (fun c26_6 => ?_) (fun c26_6 => ?_)
      · exact absurd c26_6 (by decide)
      refine lv_sipush (v := (-1002)) hx hb dX5_take_29 (by decide) ?_
      exact W.iret (v := (-1002)) hx hb hr (fun t ht hW => ⟨_, rfl, (by unfold takeS; first | (simp [c4_2, c11_4]; done) | ((try first | rw [if_pos c4_2] | rw [if_neg c4_2]); (try first | rw [if_pos c11_4] | rw [if_neg c11_4]); first | done | rfl | trivial)), ht⟩) (fun q hq => absurd hq List.not_mem_nil) dX5_take_32
    · skip
      refine lv_sipush (v := (-1001)) hx hb dX5_take_14 (by decide) ?_
      exact W.iret (v := (-1001)) hx hb hr (fun t ht hW => ⟨_, rfl, (by unfold takeS; first | (simp [c4_2, c11_4]; done) | ((try first | rw [if_pos c4_2] | rw [if_neg c4_2]); (try first | rw [if_pos c11_4] | rw [if_neg c11_4]); first | done | rfl | trivial)), ht⟩) (fun q hq => absurd hq List.not_mem_nil) dX5_take_17

set_option maxRecDepth 20000 in
theorem ggX5_draw_X5_isGoal : GoodIn wsX5_draw wsX5_isGoal := goodIn_r _ [7] (by decide +kernel) (by decide +kernel)
set_option maxRecDepth 20000 in
theorem gX5_draw_X5_isGoal : GoodIn wsX5_draw (va_wsS RX5 98 yX5_isGoal wsX5_isGoal) := goodIn_app (goodIn_of _ (by decide +kernel)) ggX5_draw_X5_isGoal
set_option maxRecDepth 20000 in
theorem in_X5_draw_X5 : ∀ w ∈ wsX50, w ∈ wsX5_draw := by decide +kernel
set_option maxRecDepth 20000 in
theorem wd_X5_draw_0 : Cond.fieldLink RX5 19 "ShoeTable" "cards" "LShoeTable$Cards;" ∈ wsX5_draw := by decide +kernel
set_option maxRecDepth 20000 in
theorem in_X5_draw_X0 : ∀ w ∈ wsX00, w ∈ wsX5_draw := by decide +kernel
set_option maxRecDepth 20000 in
theorem wd_X5_draw_1 : Cond.fieldLink RX5 91 "ShoeTable$Cards" "total" "I" ∈ wsX5_draw := by decide +kernel
set_option maxHeartbeats 400000 in
set_option maxRecDepth 100000 in
/-- X5_draw -/
theorem c_X5_draw (l : Launch) (D : va_G) (cI cJ cQ : ClassId) (h0 : Nat) (tr : Nat) (tc : Nat) (tg : Nat) (tf : Nat) (th : Nat) (tm : Nat) (to : Nat) (tp : Nat) (uc : Nat) (p0 : Int32)  : Met l yX5_draw wsX5_draw ({ frames := 1, cells := 0, slots := 0, locals := 20 }) (va_Pc [.ref h0, .int p0] (rP D (gTy cI cJ cQ) [(h0, .inr (5, [.ref tr, .ref tc, .ref tg, .ref tf, .ref th, .ref tm, .ref to, .ref tp, .int (-1), .int 0, .long 1, .int 0])), (tc, .inr (0, [.ref uc, .int 0]))])) (vp_Si (fun r => r = drawS p0)) 0 0 (fun _ => False) := by
  refine Met.ofW (cc := cX5_draw) (maxL := 3) (ret := (some .int)) (by decide) rfl ?_
  intro p e s m args below meth c s₁ B hml hv
  obtain ⟨rfl, hP, hK⟩ := hv
  have hx := B.exec
  have hb := B.bytes
  have hr := B.returns
  have hts := atoms_spec (ws := wsX5_draw) B.pre
  have hown : s.vm.findClass RX5 = some m.cls := findClass_of_methodNamed B.named
  have hlocks := B.notSynchronized
  have hl := lv_entry ([.ref h0, .int p0]) (n := 3) (Nat.le_of_ble_eq_true rfl)
  rw [lg_entry_eq]
  generalize (lg_sl ([.ref h0, .int p0]) ++ List.replicate (3 - (lg_sl ([.ref h0, .int p0])).length) Slot.unset).toArray = ls at hl ⊢
  have hl : lv_has ls 3 [(0, .ref h0), (1, .int p0)] := hl
  refine lv_iload_n hx hb dX5_draw_0 rfl (lv_at hl 1 rfl) ?_
  have hPc := hP.sub (ws' := []) [] rfl
  refine vp_callSi (W.runS (As := [.int p0]) (rest := []) ⟨hx, hb, hml, hown, hts⟩ (c_X5_isGoal l D cI cJ cQ p0) (va_cwS 1 hts gX5_draw_X5_isGoal rfl rfl rfl (by decide +kernel) ⟨Nat.le_of_ble_eq_true rfl, Nat.le_of_ble_eq_true rfl⟩) (rP_preS hPc hK) rfl rfl hl.1 rfl (lv_room (Nat.le_of_ble_eq_true rfl)) dX5_draw_1 ⟨Nat.le_of_ble_eq_true rfl, Nat.le_of_ble_eq_true rfl⟩) (fun r_1 hr_1 => ?_)
  subst hr_1
  refine lv_if_ne (tgt := 11) hx hb dX5_draw_4 (by decide) (fun c4_2 => ?_) (fun c4_2 => ?_)
  · skip
    refine lv_aload_n hx hb dX5_draw_11 rfl (lv_at hl 0 rfl) ?_
    refine va_get (D := D) (ci := 5) (v := .ref tc) (C := RX5) (T := TX5) (N := 12) hx hb hts in_X5_draw_X5 hown hK hP 0 rfl rfl 1 (by decide) (hts _ wd_X5_draw_0) (fun _ h9 => h9) rfl dX5_draw_12 ?_
    refine va_get (D := D) (ci := 0) (v := .int 0) (C := RX0) (T := TX0) (N := 2) hx hb hts in_X5_draw_X0 hown hK hP 1 rfl rfl 1 (by decide) (hts _ wd_X5_draw_1) (fun _ h9 => h9) rfl dX5_draw_15 ?_
    refine lv_if_ne (tgt := 25) hx hb dX5_draw_18 (by decide) (fun c18_3 => ?_) (fun c18_3 => ?_)
    · exact absurd c18_3 (by decide)
    refine lv_sipush (v := (-1002)) hx hb dX5_draw_21 (by decide) ?_
    exact W.iret (v := (-1002)) hx hb hr (fun t ht hW => ⟨_, rfl, (by unfold drawS; first | (simp [c4_2]; done) | ((try first | rw [if_pos c4_2] | rw [if_neg c4_2]); first | done | rfl | trivial)), ht⟩) (fun q hq => absurd hq List.not_mem_nil) dX5_draw_24
  · skip
    refine lv_sipush (v := (-1001)) hx hb dX5_draw_7 (by decide) ?_
    exact W.iret (v := (-1001)) hx hb hr (fun t ht hW => ⟨_, rfl, (by unfold drawS; first | (simp [c4_2]; done) | ((try first | rw [if_pos c4_2] | rw [if_neg c4_2]); first | done | rfl | trivial)), ht⟩) (fun q hq => absurd hq List.not_mem_nil) dX5_draw_10

set_option maxRecDepth 20000 in
theorem in_X5_seed_X5 : ∀ w ∈ wsX50, w ∈ wsX5_seed := by decide +kernel
set_option maxRecDepth 20000 in
theorem wd_X5_seed_0 : Cond.fieldLink RX5 61 "ShoeTable" "chain" "J" ∈ wsX5_seed := by decide +kernel
set_option maxHeartbeats 400000 in
set_option maxRecDepth 100000 in
/-- X5_seed -/
theorem c_X5_seed (l : Launch) (D : va_G) (cI cJ cQ : ClassId) (sz : Nat) (h0 : Nat) (tr : Nat) (tc : Nat) (tg : Nat) (tf : Nat) (th : Nat) (tm : Nat) (to : Nat) (tp : Nat) (p0 : Int32)  : Met l yX5_seed wsX5_seed ({ frames := 0, cells := 0, slots := 0, locals := 0 }) (va_Pc [.ref h0, .int p0] (mP D (gTy cI cJ cQ) [(h0, .inr (5, [.ref tr, .ref tc, .ref tg, .ref tf, .ref th, .ref tm, .ref to, .ref tp, .int (-1), .int 0, .long 1, .int 0]))] sz)) (va_Qi (fun (r : Int32) (u : Unit) => match u with | _ => r = 1) (fun (u : Unit) t => match u with | _ => mB D (gTy cI cJ cQ) (va_A [(h0, .inr (5, [.ref tr, .ref tc, .ref tg, .ref tf, .ref th, .ref tm, .ref to, .ref tp, .int (-1), .int 0, .long 1, .int 0]))] sz) [] t) (va_A [(h0, .inr (5, [.ref tr, .ref tc, .ref tg, .ref tf, .ref th, .ref tm, .ref to, .ref tp, .int (-1), .int 0, .long 1, .int 0]))] sz)) 0 0 (va_A [(h0, .inr (5, [.ref tr, .ref tc, .ref tg, .ref tf, .ref th, .ref tm, .ref to, .ref tp, .int (-1), .int 0, .long 1, .int 0]))] sz) := by
  refine Met.ofW (cc := cX5_seed) (maxL := 2) (ret := (some .int)) (by decide) rfl ?_
  intro p e s m args below meth c s₁ B hml hv
  obtain ⟨rfl, hsz, hP, hK, hD0⟩ := hv
  have hx := B.exec
  have hb := B.bytes
  have hr := B.returns
  have hts := atoms_spec (ws := wsX5_seed) B.pre
  have hown : s.vm.findClass RX5 = some m.cls := findClass_of_methodNamed B.named
  have hlocks := B.notSynchronized
  subst hsz
  have hD := hD0.self (sz := s.heap.size)
  generalize hAe : va_A [(h0, .inr (5, [.ref tr, .ref tc, .ref tg, .ref tf, .ref th, .ref tm, .ref to, .ref tp, .int (-1), .int 0, .long 1, .int 0]))] s.heap.size = A at hD ⊢
  have hA : ∀ q : Nat, s.heap.size ≤ q → A q := fun q h => by rw [← hAe]; exact Or.inr h
  have hS : va_S A s.heap s.heap [] := va_S.rf
  have hP : va_P D vwCl [(h0, .inr (5, [.ref tr, .ref tc, .ref tg, .ref tf, .ref th, .ref tm, .ref to, .ref tp, .int (-1), .int 0, .long 1, .int 0]))] s.heap := hP
  have hl := lv_entry ([.ref h0, .int p0]) (n := 2) (Nat.le_of_ble_eq_true rfl)
  rw [lg_entry_eq]
  generalize (lg_sl ([.ref h0, .int p0]) ++ List.replicate (2 - (lg_sl ([.ref h0, .int p0])).length) Slot.unset).toArray = ls at hl ⊢
  have hl : lv_has ls 2 [(0, .ref h0), (1, .int p0)] := hl
  refine lv_aload_n hx hb dX5_seed_0 rfl (lv_at hl 0 rfl) ?_
  refine lv_iload_n hx hb dX5_seed_1 rfl (lv_at hl 1 rfl) ?_
  refine lv_i2l (v := p0.toInt64) hx hb dX5_seed_2 rfl ?_
  refine va_put (D := D) (ci := 5) (v := .long p0.toInt64) (ty := .long) (C := RX5) (T := TX5) (N := 12) hx hb hts in_X5_seed_X5 tyX5 tyX5_ok nmX5 hown hK hP hD hS 0 rfl rfl 10 (by decide) (hts _ wd_X5_seed_0) (fun _ h9 => h9) rfl (by decide +kernel) rfl rfl (Nat.le_of_ble_eq_true rfl) dX5_seed_3 (fun H locs hP hD hS => ?_)
  have hP : va_P D vwCl [(h0, .inr (5, [.ref tr, .ref tc, .ref tg, .ref tf, .ref th, .ref tm, .ref to, .ref tp, .int (-1), .int 0, .long p0.toInt64, .int 0]))] H := hP
  have hD : va_D A [(h0, .inr (5, [.ref tr, .ref tc, .ref tg, .ref tf, .ref th, .ref tm, .ref to, .ref tp, .int (-1), .int 0, .long p0.toInt64, .int 0]))] := hD
  refine lv_iconst (v := 1) hx hb dX5_seed_6 (by decide) ?_
  have hP9 := hP.sub (ws' := []) [] rfl
  have hD9 := hD.sub (ws' := []) [] (by decide) rfl
  exact W.iret (v := 1) hx hb hr (fun t ht hW => ⟨⟨1, (), rfl, (by first | rfl | trivial | (simp []; done) | rfl | (simp_all; done)), by rw [ht]; exact hP9, va_K.moved hW.alike hK, hD9⟩, hS.F ht⟩) hS.2.2 dX5_seed_7

set_option maxRecDepth 20000 in
theorem in_X5_lay_X5 : ∀ w ∈ wsX50, w ∈ wsX5_lay := by decide +kernel
set_option maxRecDepth 20000 in
theorem wd_X5_lay_0 : Cond.fieldLink RX5 32 "ShoeTable" "hand" "LShoeTable$Hand;" ∈ wsX5_lay := by decide +kernel
set_option maxRecDepth 20000 in
theorem in_X5_lay_X1 : ∀ w ∈ wsX10, w ∈ wsX5_lay := by decide +kernel
set_option maxRecDepth 20000 in
theorem wd_X5_lay_1 : Cond.fieldLink RX5 112 "ShoeTable$Hand" "size" "I" ∈ wsX5_lay := by decide +kernel
set_option maxRecDepth 20000 in
theorem wd_X5_lay_2 : Cond.fieldLink RX5 54 "ShoeTable" "up" "I" ∈ wsX5_lay := by decide +kernel
set_option maxRecDepth 20000 in
theorem ggX5_lay_X5_clearTable : GoodIn wsX5_lay wsX5_clearTable := goodIn_r _ [8, 1, 3, 9, 10, 11, 12, 13, 14, 15, 16, 17, 18, 19, 20, 21, 22, 23, 24, 25, 26, 27, 28, 29, 30, 31, 32] (by decide +kernel) (by decide +kernel)
set_option maxRecDepth 20000 in
theorem gX5_lay_X5_clearTable : GoodIn wsX5_lay (wsV RX5 88 RX5 yX5_clearTable wsX5_clearTable) := goodIn_app (goodIn_of _ (by decide +kernel)) ggX5_lay_X5_clearTable
set_option maxHeartbeats 400000 in
set_option maxRecDepth 100000 in
/-- X5_lay -/
theorem c_X5_lay (l : Launch) (D : va_G) (cI cJ cQ : ClassId) (sz : Nat) (h0 : Nat) (tr : Nat) (tc : Nat) (tg : Nat) (tf : Nat) (th : Nat) (tm : Nat) (to : Nat) (tp : Nat) (uh : Nat)  : Met l yX5_lay wsX5_lay ({ frames := 2, cells := 0, slots := 0, locals := 40 }) (va_Pc [.ref h0] (mP D (gTy cI cJ cQ) [(h0, .inr (5, [.ref tr, .ref tc, .ref tg, .ref tf, .ref th, .ref tm, .ref to, .ref tp, .int (-1), .int 0, .long 1, .int 0])), (th, .inr (1, [.ref uh, .int 0, .int 0, .int 0])), (uh, .inl (cI, 12, .inl (fun _ => 0)))] sz)) (va_Qi (fun (r : Int32) (u : Unit) => match u with | _ => r = 0) (fun (u : Unit) t => match u with | _ => mB D (gTy cI cJ cQ) (va_A [(h0, .inr (5, [.ref tr, .ref tc, .ref tg, .ref tf, .ref th, .ref tm, .ref to, .ref tp, .int (-1), .int 0, .long 1, .int 0])), (th, .inr (1, [.ref uh, .int 0, .int 0, .int 0])), (uh, .inl (cI, 12, .inl (fun _ => 0)))] sz) [] t) (va_A [(h0, .inr (5, [.ref tr, .ref tc, .ref tg, .ref tf, .ref th, .ref tm, .ref to, .ref tp, .int (-1), .int 0, .long 1, .int 0])), (th, .inr (1, [.ref uh, .int 0, .int 0, .int 0])), (uh, .inl (cI, 12, .inl (fun _ => 0)))] sz)) 0 0 (va_A [(h0, .inr (5, [.ref tr, .ref tc, .ref tg, .ref tf, .ref th, .ref tm, .ref to, .ref tp, .int (-1), .int 0, .long 1, .int 0])), (th, .inr (1, [.ref uh, .int 0, .int 0, .int 0])), (uh, .inl (cI, 12, .inl (fun _ => 0)))] sz) := by
  refine Met.ofW (cc := cX5_lay) (maxL := 2) (ret := (some .int)) (by decide) rfl ?_
  intro p e s m args below meth c s₁ B hml hv
  obtain ⟨rfl, hsz, hP, hK, hD0⟩ := hv
  have hx := B.exec
  have hb := B.bytes
  have hr := B.returns
  have hts := atoms_spec (ws := wsX5_lay) B.pre
  have hown : s.vm.findClass RX5 = some m.cls := findClass_of_methodNamed B.named
  have hlocks := B.notSynchronized
  subst hsz
  have hD := hD0.self (sz := s.heap.size)
  generalize hAe : va_A [(h0, .inr (5, [.ref tr, .ref tc, .ref tg, .ref tf, .ref th, .ref tm, .ref to, .ref tp, .int (-1), .int 0, .long 1, .int 0])), (th, .inr (1, [.ref uh, .int 0, .int 0, .int 0])), (uh, .inl (cI, 12, .inl (fun _ => 0)))] s.heap.size = A at hD ⊢
  have hA : ∀ q : Nat, s.heap.size ≤ q → A q := fun q h => by rw [← hAe]; exact Or.inr h
  have hS : va_S A s.heap s.heap [] := va_S.rf
  have hP : va_P D vwCl [(h0, .inr (5, [.ref tr, .ref tc, .ref tg, .ref tf, .ref th, .ref tm, .ref to, .ref tp, .int (-1), .int 0, .long 1, .int 0])), (th, .inr (1, [.ref uh, .int 0, .int 0, .int 0])), (uh, .inl (cI, 12, .inl (fun _ => 0)))] s.heap := hP
  have hl := lv_entry ([.ref h0]) (n := 2) (Nat.le_of_ble_eq_true rfl)
  rw [lg_entry_eq]
  generalize (lg_sl ([.ref h0]) ++ List.replicate (2 - (lg_sl ([.ref h0])).length) Slot.unset).toArray = ls at hl ⊢
  have hl : lv_has ls 2 [(0, .ref h0)] := hl
  refine lv_aload_n hx hb dX5_lay_0 rfl (lv_at hl 0 rfl) ?_
  refine va_get (D := D) (ci := 5) (v := .ref th) (C := RX5) (T := TX5) (N := 12) hx hb hts in_X5_lay_X5 hown hK hP 0 rfl rfl 4 (by decide) (hts _ wd_X5_lay_0) (fun _ h9 => h9) rfl dX5_lay_1 ?_
  refine va_get (D := D) (ci := 1) (v := .int 0) (C := RX1) (T := TX1) (N := 4) hx hb hts in_X5_lay_X1 hown hK hP 1 rfl rfl 1 (by decide) (hts _ wd_X5_lay_1) (fun _ h9 => h9) rfl dX5_lay_4 ?_
  refine lv_aload_n hx hb dX5_lay_7 rfl (lv_at hl 0 rfl) ?_
  refine va_get (D := D) (ci := 5) (v := .int (-1)) (C := RX5) (T := TX5) (N := 12) hx hb hts in_X5_lay_X5 hown hK hP 0 rfl rfl 8 (by decide) (hts _ wd_X5_lay_2) (fun _ h9 => h9) rfl dX5_lay_8 ?_
  refine lv_iconst (v := (-1)) hx hb dX5_lay_11 (by decide) ?_
  refine lv_icmp_ne (tgt := 19) hx hb dX5_lay_12 (by decide) (fun c12_1 => ?_) (fun c12_1 => ?_)
  · exact absurd c12_1 (by decide)
  refine lv_iconst (v := 0) hx hb dX5_lay_15 (by decide) ?_
  refine lv_goto (tgt := 20) hx hb dX5_lay_16 (by decide) ?_
  refine lv_iadd hx hb dX5_lay_20 ?_
  refine lv_topi (fun z_2 ez_2 => ?_)
  obtain rfl : z_2 = 0 := ez_2.trans (by decide)
  refine lv_istore_n (lv' := [(1, .int 0), (0, .ref h0)]) hx hb dX5_lay_21 rfl hl (by decide) rfl (fun ls hl => ?_)
  refine lv_aload_n hx hb dX5_lay_22 rfl (lv_at hl 1 rfl) ?_
  have hPc := hP.sub (ws' := [(h0, .inr (5, [.ref tr, .ref tc, .ref tg, .ref tf, .ref th, .ref tm, .ref to, .ref tp, .int (-1), .int 0, .long 1, .int 0])), (th, .inr (1, [.ref uh, .int 0, .int 0, .int 0])), (uh, .inl (cI, 12, .inl (fun _ => 0)))]) [0, 1, 2] rfl
  have hDc := hD.sub (ws' := [(h0, .inr (5, [.ref tr, .ref tc, .ref tg, .ref tf, .ref th, .ref tm, .ref to, .ref tp, .int (-1), .int 0, .long 1, .int 0])), (th, .inr (1, [.ref uh, .int 0, .int 0, .int 0])), (uh, .inl (cI, 12, .inl (fun _ => 0)))]) [0, 1, 2] (by decide) rfl
  have hFc := va_free (wc := [(h0, .inr (5, [.ref tr, .ref tc, .ref tg, .ref tf, .ref th, .ref tm, .ref to, .ref tp, .int (-1), .int 0, .long 1, .int 0])), (th, .inr (1, [.ref uh, .int 0, .int 0, .int 0])), (uh, .inl (cI, 12, .inl (fun _ => 0)))]) hD hS hA [0, 1, 2] rfl
  refine va_callv (va_runV (As := []) (rest := []) ⟨hx, hb, hml, hown, hts⟩ (c_X5_clearTable l D cI cJ cQ _ h0 tr tc tg tf th tm to tp uh) (cwV 0 hts gX5_lay_X5_clearTable rfl rfl rfl (by decide +kernel) ⟨Nat.le_of_ble_eq_true rfl, Nat.le_of_ble_eq_true rfl⟩) (mP_preV (ci := 5) (q0 := 0) hPc hK hDc rfl rfl) rfl rfl hl.1 rfl (lv_room (Nat.le_of_ble_eq_true rfl)) dX5_lay_23 ⟨Nat.le_of_ble_eq_true rfl, Nat.le_of_ble_eq_true rfl⟩) hS (fun q _ h => hFc q h) hFc (fun u_r_3 t H1 locs ht hvm hr_3 hB hz1 hk1 hS => ?_)
  obtain ⟨hP1, hK1, hD1⟩ := hB
  rw [ht] at hP1
  try dsimp only at hr_3
  obtain ⟨hP, hD⟩ := va_join (wr := []) (w1 := [(h0, .inr (5, [.ref tr, .ref tc, .ref tg, .ref tf, .ref th, .ref tm, .ref to, .ref tp, .int (-1), .int 0, .long 1, .int 0])), (th, .inr (1, [.ref uh, .int 0, .int 0, .int 0])), (uh, .inl (cI, 12, .inl (fun _ => 0)))]) hP hD [0, 1, 2] [] rfl rfl (by decide) (by decide) hk1 hFc hP1 hD1
  generalize H1 = H at hP hS ⊢
  have hP : va_P D vwCl [(h0, .inr (5, [.ref tr, .ref tc, .ref tg, .ref tf, .ref th, .ref tm, .ref to, .ref tp, .int (-1), .int 0, .long 1, .int 0])), (th, .inr (1, [.ref uh, .int 0, .int 0, .int 0])), (uh, .inl (cI, 12, .inl (fun _ => 0)))] H := hP
  have hD : va_D A [(h0, .inr (5, [.ref tr, .ref tc, .ref tg, .ref tf, .ref th, .ref tm, .ref to, .ref tp, .int (-1), .int 0, .long 1, .int 0])), (th, .inr (1, [.ref uh, .int 0, .int 0, .int 0])), (uh, .inl (cI, 12, .inl (fun _ => 0)))] := hD
  refine lv_iload_n hx hb dX5_lay_26 rfl (lv_at hl 0 rfl) ?_
  have hP9 := hP.sub (ws' := []) [] rfl
  have hD9 := hD.sub (ws' := []) [] (by decide) rfl
  exact W.iret (v := 0) hx hb hr (fun t ht hW => ⟨⟨0, (), rfl, (by first | rfl | trivial | (simp [hr_3]; done) | ((try first | rw [if_pos hr_3] | rw [if_neg hr_3]); first | done | rfl | trivial) | (simp_all; done)), by rw [ht]; exact hP9, va_K.moved hW.alike hK, hD9⟩, hS.F ht⟩) hS.2.2 dX5_lay_27

set_option maxHeartbeats 400000 in
set_option maxRecDepth 100000 in
/-- X4_value -/
theorem c_X4_value0 (l : Launch) (D : va_G) (cI cJ cQ : ClassId) (h0 : Nat) (h1 : Nat) (w : Nat → Int32)  : Met l yX4_value wsX4_value ({ frames := 0, cells := 0, slots := 0, locals := 0 }) (va_Pc [.ref h0, .int 0, .int 0] (rP D (gTy cI cJ cQ) [(h0, .inr (4, [.ref h1])), (h1, .inl (cI, 7, .inl w))])) (vp_Si (fun r => r = 0)) 0 0 (fun _ => False) := by
  refine Met.ofW (cc := cX4_value) (maxL := 3) (ret := (some .int)) (by decide) rfl ?_
  intro p e s m args below meth c s₁ B hml hv
  obtain ⟨rfl, hP, hK⟩ := hv
  have hx := B.exec
  have hb := B.bytes
  have hr := B.returns
  have hts := atoms_spec (ws := wsX4_value) B.pre
  have hown : s.vm.findClass RX4 = some m.cls := findClass_of_methodNamed B.named
  have hlocks := B.notSynchronized
  have hl := lv_entry ([.ref h0, .int 0, .int 0]) (n := 3) (Nat.le_of_ble_eq_true rfl)
  rw [lg_entry_eq]
  generalize (lg_sl ([.ref h0, .int 0, .int 0]) ++ List.replicate (3 - (lg_sl ([.ref h0, .int 0, .int 0])).length) Slot.unset).toArray = ls at hl ⊢
  have hl : lv_has ls 3 [(0, .ref h0), (1, .int 0), (2, .int 0)] := hl
  refine lv_iload_n hx hb dX4_value_0 rfl (lv_at hl 2 rfl) ?_
  refine lv_if_eq (tgt := 24) hx hb dX4_value_1 (by decide) (fun c1_1 => ?_) (fun c1_1 => ?_)
  · skip
    refine lv_iload_n hx hb dX4_value_24 rfl (lv_at hl 1 rfl) ?_
    exact W.iret (v := 0) hx hb hr (fun t ht hW => ⟨_, rfl, (by first | rfl | trivial | (simp [c1_1]; done) | ((try first | rw [if_pos c1_1] | rw [if_neg c1_1]); first | done | rfl | trivial) | (simp_all; done)), ht⟩) (fun q hq => absurd hq List.not_mem_nil) dX4_value_25
  · exact absurd c1_1 (by decide)

set_option maxHeartbeats 400000 in
set_option maxRecDepth 100000 in
/-- X4_isSoft -/
theorem c_X4_isSoft0 (l : Launch) (D : va_G) (cI cJ cQ : ClassId) (h0 : Nat) (h1 : Nat) (w : Nat → Int32)  : Met l yX4_isSoft wsX4_isSoft ({ frames := 0, cells := 0, slots := 0, locals := 0 }) (va_Pc [.ref h0, .int 0, .int 0] (rP D (gTy cI cJ cQ) [(h0, .inr (4, [.ref h1])), (h1, .inl (cI, 7, .inl w))])) (vp_Si (fun r => r = 0)) 0 0 (fun _ => False) := by
  refine Met.ofW (cc := cX4_isSoft) (maxL := 3) (ret := (some .boolean)) (by decide) rfl ?_
  intro p e s m args below meth c s₁ B hml hv
  obtain ⟨rfl, hP, hK⟩ := hv
  have hx := B.exec
  have hb := B.bytes
  have hr := B.returns
  have hts := atoms_spec (ws := wsX4_isSoft) B.pre
  have hown : s.vm.findClass RX4 = some m.cls := findClass_of_methodNamed B.named
  have hlocks := B.notSynchronized
  have hl := lv_entry ([.ref h0, .int 0, .int 0]) (n := 3) (Nat.le_of_ble_eq_true rfl)
  rw [lg_entry_eq]
  generalize (lg_sl ([.ref h0, .int 0, .int 0]) ++ List.replicate (3 - (lg_sl ([.ref h0, .int 0, .int 0])).length) Slot.unset).toArray = ls at hl ⊢
  have hl : lv_has ls 3 [(0, .ref h0), (1, .int 0), (2, .int 0)] := hl
  refine lv_iload_n hx hb dX4_isSoft_0 rfl (lv_at hl 2 rfl) ?_
  refine lv_if_eq (tgt := 21) hx hb dX4_isSoft_1 (by decide) (fun c1_1 => ?_) (fun c1_1 => ?_)
  · skip
    refine lv_iconst (v := 0) hx hb dX4_isSoft_21 (by decide) ?_
    exact W.zret (v := 0) hx hb hr rfl (fun t ht hW => ⟨_, rfl, (by first | rfl | trivial | (simp [c1_1]; done) | ((try first | rw [if_pos c1_1] | rw [if_neg c1_1]); first | done | rfl | trivial) | (simp_all; done)), ht⟩) (fun q hq => absurd hq List.not_mem_nil) dX4_isSoft_22
  · exact absurd c1_1 (by decide)

set_option maxHeartbeats 400000 in
set_option maxRecDepth 100000 in
/-- X4_isNatural -/
theorem c_X4_isNatural0 (l : Launch) (D : va_G) (cI cJ cQ : ClassId) (h0 : Nat) (h1 : Nat) (w : Nat → Int32)  : Met l yX4_isNatural wsX4_isNatural ({ frames := 0, cells := 0, slots := 0, locals := 0 }) (va_Pc [.ref h0, .int 0, .int 0] (rP D (gTy cI cJ cQ) [(h0, .inr (4, [.ref h1])), (h1, .inl (cI, 7, .inl w))])) (vp_Si (fun r => r = 0)) 0 0 (fun _ => False) := by
  refine Met.ofW (cc := cX4_isNatural) (maxL := 3) (ret := (some .boolean)) (by decide) rfl ?_
  intro p e s m args below meth c s₁ B hml hv
  obtain ⟨rfl, hP, hK⟩ := hv
  have hx := B.exec
  have hb := B.bytes
  have hr := B.returns
  have hts := atoms_spec (ws := wsX4_isNatural) B.pre
  have hown : s.vm.findClass RX4 = some m.cls := findClass_of_methodNamed B.named
  have hlocks := B.notSynchronized
  have hl := lv_entry ([.ref h0, .int 0, .int 0]) (n := 3) (Nat.le_of_ble_eq_true rfl)
  rw [lg_entry_eq]
  generalize (lg_sl ([.ref h0, .int 0, .int 0]) ++ List.replicate (3 - (lg_sl ([.ref h0, .int 0, .int 0])).length) Slot.unset).toArray = ls at hl ⊢
  have hl : lv_has ls 3 [(0, .ref h0), (1, .int 0), (2, .int 0)] := hl
  refine lv_iload_n hx hb dX4_isNatural_0 rfl (lv_at hl 2 rfl) ?_
  refine lv_iconst (v := 2) hx hb dX4_isNatural_1 (by decide) ?_
  refine lv_icmp_ne (tgt := 19) hx hb dX4_isNatural_2 (by decide) (fun c2_1 => ?_) (fun c2_1 => ?_)
  · skip
    refine lv_iconst (v := 0) hx hb dX4_isNatural_19 (by decide) ?_
    exact W.zret (v := 0) hx hb hr rfl (fun t ht hW => ⟨_, rfl, (by first | rfl | trivial | (simp [c2_1]; done) | ((try first | rw [if_pos c2_1] | rw [if_neg c2_1]); first | done | rfl | trivial) | (simp_all; done)), ht⟩) (fun q hq => absurd hq List.not_mem_nil) dX4_isNatural_20
  · exact absurd c2_1 (by decide)

set_option maxHeartbeats 400000 in
set_option maxRecDepth 100000 in
/-- X4_isBust -/
theorem c_X4_isBust0 (l : Launch) (D : va_G) (cI cJ cQ : ClassId) (h0 : Nat) (h1 : Nat) (w : Nat → Int32) (hw : w 0 = 21) : Met l yX4_isBust wsX4_isBust ({ frames := 0, cells := 0, slots := 0, locals := 0 }) (va_Pc [.ref h0, .int 0] (rP D (gTy cI cJ cQ) [(h0, .inr (4, [.ref h1])), (h1, .inl (cI, 7, .inl w))])) (vp_Si (fun r => r = 0)) 0 0 (fun _ => False) := by
  refine Met.ofW (cc := cX4_isBust) (maxL := 2) (ret := (some .boolean)) (by decide) rfl ?_
  intro p e s m args below meth c s₁ B hml hv
  obtain ⟨rfl, hP, hK⟩ := hv
  have hx := B.exec
  have hb := B.bytes
  have hr := B.returns
  have hts := atoms_spec (ws := wsX4_isBust) B.pre
  have hown : s.vm.findClass RX4 = some m.cls := findClass_of_methodNamed B.named
  have hlocks := B.notSynchronized
  have hl := lv_entry ([.ref h0, .int 0]) (n := 2) (Nat.le_of_ble_eq_true rfl)
  rw [lg_entry_eq]
  generalize (lg_sl ([.ref h0, .int 0]) ++ List.replicate (2 - (lg_sl ([.ref h0, .int 0])).length) Slot.unset).toArray = ls at hl ⊢
  have hl : lv_has ls 2 [(0, .ref h0), (1, .int 0)] := hl
  refine lv_iload_n hx hb dX4_isBust_0 rfl (lv_at hl 1 rfl) ?_
  refine lv_aload_n hx hb dX4_isBust_1 rfl (lv_at hl 0 rfl) ?_
  refine va_get (D := D) (ci := 4) (v := .ref h1) (C := RX4) (T := TX4) (N := 1) hx hb hts in_X4_isBust_X4 hown hK hP 0 rfl rfl 0 (by decide) (hts _ wd_X4_isBust_0) (fun _ h9 => h9) rfl dX4_isBust_2 ?_
  refine lv_iconst (v := 0) hx hb dX4_isBust_5 (by decide) ?_
  refine va_iald hx hb hK hP 1 0 rfl rfl (show ¬ ((0 : Int32) < 0 ∨ 7 ≤ (0 : Int32).toNatClampNeg) by decide) dX4_isBust_6 ?_
  refine lv_topi (fun z_1 ez_1 => ?_)
  obtain rfl : z_1 = (w 0) := ez_1
  refine lv_icmp_le (tgt := 14) hx hb dX4_isBust_7 (by decide) (fun c7_2 => ?_) (fun c7_2 => ?_)
  · skip
    refine lv_iconst (v := 0) hx hb dX4_isBust_14 (by decide) ?_
    exact W.zret (v := 0) hx hb hr rfl (fun t ht hW => ⟨_, rfl, (by first | rfl | trivial | (simp [c7_2]; done) | ((try first | rw [if_pos c7_2] | rw [if_neg c7_2]); first | done | rfl | trivial) | (simp_all; done)), ht⟩) (fun q hq => absurd hq List.not_mem_nil) dX4_isBust_15
  · exact absurd (by rw [hw]; decide) c7_2

set_option maxHeartbeats 400000 in
set_option maxRecDepth 100000 in
/-- X1_card -/
theorem c_X1_card0 (l : Launch) (D : va_G) (cI cJ cQ : ClassId) (h0 : Nat) (h1 : Nat) (p0 : Int32) (hp : ¬ p0 < 0) : Met l yX1_card wsX1_card ({ frames := 0, cells := 0, slots := 0, locals := 0 }) (va_Pc [.ref h0, .int p0] (rP D (gTy cI cJ cQ) [(h0, .inr (1, [.ref h1, .int 0, .int 0, .int 0])), (h1, .inl (cI, 12, .inl (fun _ => 0)))])) (vp_Si (fun r => r = (-1))) 0 0 (fun _ => False) := by
  refine Met.ofW (cc := cX1_card) (maxL := 2) (ret := (some .int)) (by decide) rfl ?_
  intro p e s m args below meth c s₁ B hml hv
  obtain ⟨rfl, hP, hK⟩ := hv
  have hx := B.exec
  have hb := B.bytes
  have hr := B.returns
  have hts := atoms_spec (ws := wsX1_card) B.pre
  have hown : s.vm.findClass RX1 = some m.cls := findClass_of_methodNamed B.named
  have hlocks := B.notSynchronized
  have hl := lv_entry ([.ref h0, .int p0]) (n := 2) (Nat.le_of_ble_eq_true rfl)
  rw [lg_entry_eq]
  generalize (lg_sl ([.ref h0, .int p0]) ++ List.replicate (2 - (lg_sl ([.ref h0, .int p0])).length) Slot.unset).toArray = ls at hl ⊢
  have hl : lv_has ls 2 [(0, .ref h0), (1, .int p0)] := hl
  refine lv_iload_n hx hb dX1_card_0 rfl (lv_at hl 1 rfl) ?_
  refine lv_if_lt (tgt := 21) hx hb dX1_card_1 (by decide) (fun c1_1 => ?_) (fun c1_1 => ?_)
  · exact absurd c1_1 hp
  refine lv_iload_n hx hb dX1_card_4 rfl (lv_at hl 1 rfl) ?_
  refine lv_aload_n hx hb dX1_card_5 rfl (lv_at hl 0 rfl) ?_
  refine va_get (D := D) (ci := 1) (v := .int 0) (C := RX1) (T := TX1) (N := 4) hx hb hts in_X1_card_X1 hown hK hP 0 rfl rfl 1 (by decide) (hts _ wd_X1_card_0) (fun _ h9 => h9) rfl dX1_card_6 ?_
  refine lv_icmp_ge (tgt := 21) hx hb dX1_card_9 (by decide) (fun c9_2 => ?_) (fun c9_2 => ?_)
  · skip
    refine lv_iconst (v := (-1)) hx hb dX1_card_21 (by decide) ?_
    exact W.iret (v := (-1)) hx hb hr (fun t ht hW => ⟨_, rfl, (by first | rfl | trivial | (simp [c1_1, c9_2]; done) | ((try first | rw [if_pos c1_1] | rw [if_neg c1_1]); (try first | rw [if_pos c9_2] | rw [if_neg c9_2]); first | done | rfl | trivial) | (simp_all; done)), ht⟩) (fun q hq => absurd hq List.not_mem_nil) dX1_card_22
  · exact absurd (n32i hp) c9_2

set_option maxRecDepth 20000 in
theorem in_X5_handValue_X5 : ∀ w ∈ wsX50, w ∈ wsX5_handValue := by decide +kernel
set_option maxRecDepth 20000 in
theorem wd_X5_handValue_0 : Cond.fieldLink RX5 10 "ShoeTable" "rules" "LShoeTable$Rules;" ∈ wsX5_handValue := by decide +kernel
set_option maxRecDepth 20000 in
theorem wd_X5_handValue_1 : Cond.fieldLink RX5 32 "ShoeTable" "hand" "LShoeTable$Hand;" ∈ wsX5_handValue := by decide +kernel
set_option maxRecDepth 20000 in
theorem in_X5_handValue_X1 : ∀ w ∈ wsX10, w ∈ wsX5_handValue := by decide +kernel
set_option maxRecDepth 20000 in
theorem wd_X5_handValue_2 : Cond.fieldLink RX5 122 "ShoeTable$Hand" "sum" "I" ∈ wsX5_handValue := by decide +kernel
set_option maxRecDepth 20000 in
theorem wd_X5_handValue_3 : Cond.fieldLink RX5 125 "ShoeTable$Hand" "ace" "Z" ∈ wsX5_handValue := by decide +kernel
set_option maxRecDepth 20000 in
theorem ggX5_handValue_X4_value : GoodIn wsX5_handValue wsX4_value := goodIn_r _ [9, 10, 27] (by decide +kernel) (by decide +kernel)
set_option maxRecDepth 20000 in
theorem gX5_handValue_X4_value : GoodIn wsX5_handValue (wsV RX5 214 RX4 yX4_value wsX4_value) := goodIn_app (goodIn_of _ (by decide +kernel)) ggX5_handValue_X4_value
set_option maxHeartbeats 400000 in
set_option maxRecDepth 100000 in
/-- X5_handValue -/
theorem c_X5_handValue (l : Launch) (D : va_G) (cI cJ cQ : ClassId) (h0 : Nat) (tr : Nat) (tc : Nat) (tg : Nat) (tf : Nat) (th : Nat) (tm : Nat) (to : Nat) (tp : Nat) (ur : Nat) (w1 : Nat → Int32) (uh : Nat)  : Met l yX5_handValue wsX5_handValue ({ frames := 1, cells := 0, slots := 0, locals := 22 }) (va_Pc [.ref h0] (rP D (gTy cI cJ cQ) [(h0, .inr (5, [.ref tr, .ref tc, .ref tg, .ref tf, .ref th, .ref tm, .ref to, .ref tp, .int (-1), .int 0, .long 1, .int 0])), (tr, .inr (4, [.ref ur])), (ur, .inl (cI, 7, .inl w1)), (th, .inr (1, [.ref uh, .int 0, .int 0, .int 0]))])) (vp_Si (fun r => r = 0)) 0 0 (fun _ => False) := by
  refine Met.ofW (cc := cX5_handValue) (maxL := 1) (ret := (some .int)) (by decide) rfl ?_
  intro p e s m args below meth c s₁ B hml hv
  obtain ⟨rfl, hP, hK⟩ := hv
  have hx := B.exec
  have hb := B.bytes
  have hr := B.returns
  have hts := atoms_spec (ws := wsX5_handValue) B.pre
  have hown : s.vm.findClass RX5 = some m.cls := findClass_of_methodNamed B.named
  have hlocks := B.notSynchronized
  have hl := lv_entry ([.ref h0]) (n := 1) (Nat.le_of_ble_eq_true rfl)
  rw [lg_entry_eq]
  generalize (lg_sl ([.ref h0]) ++ List.replicate (1 - (lg_sl ([.ref h0])).length) Slot.unset).toArray = ls at hl ⊢
  have hl : lv_has ls 1 [(0, .ref h0)] := hl
  refine lv_aload_n hx hb dX5_handValue_0 rfl (lv_at hl 0 rfl) ?_
  refine va_get (D := D) (ci := 5) (v := .ref tr) (C := RX5) (T := TX5) (N := 12) hx hb hts in_X5_handValue_X5 hown hK hP 0 rfl rfl 0 (by decide) (hts _ wd_X5_handValue_0) (fun _ h9 => h9) rfl dX5_handValue_1 ?_
  refine lv_aload_n hx hb dX5_handValue_4 rfl (lv_at hl 0 rfl) ?_
  refine va_get (D := D) (ci := 5) (v := .ref th) (C := RX5) (T := TX5) (N := 12) hx hb hts in_X5_handValue_X5 hown hK hP 0 rfl rfl 4 (by decide) (hts _ wd_X5_handValue_1) (fun _ h9 => h9) rfl dX5_handValue_5 ?_
  refine va_get (D := D) (ci := 1) (v := .int 0) (C := RX1) (T := TX1) (N := 4) hx hb hts in_X5_handValue_X1 hown hK hP 3 rfl rfl 2 (by decide) (hts _ wd_X5_handValue_2) (fun _ h9 => h9) rfl dX5_handValue_8 ?_
  refine lv_aload_n hx hb dX5_handValue_11 rfl (lv_at hl 0 rfl) ?_
  refine va_get (D := D) (ci := 5) (v := .ref th) (C := RX5) (T := TX5) (N := 12) hx hb hts in_X5_handValue_X5 hown hK hP 0 rfl rfl 4 (by decide) (hts _ wd_X5_handValue_1) (fun _ h9 => h9) rfl dX5_handValue_12 ?_
  refine va_get (D := D) (ci := 1) (v := .int 0) (C := RX1) (T := TX1) (N := 4) hx hb hts in_X5_handValue_X1 hown hK hP 3 rfl rfl 3 (by decide) (hts _ wd_X5_handValue_3) (fun _ h9 => h9) rfl dX5_handValue_15 ?_
  have hPc := hP.sub (ws' := [(tr, .inr (4, [.ref ur])), (ur, .inl (cI, 7, .inl w1))]) [1, 2] rfl
  refine vp_callSi (W.runV (As := [.int 0, .int 0]) (rest := []) ⟨hx, hb, hml, hown, hts⟩ (c_X4_value l D cI cJ cQ tr ur (w1) 0 false) (cwV 2 hts gX5_handValue_X4_value rfl rfl rfl (by decide +kernel) ⟨Nat.le_of_ble_eq_true rfl, Nat.le_of_ble_eq_true rfl⟩) (rP_preV (ci := 4) (q0 := 0) hPc hK rfl rfl) rfl rfl hl.1 rfl (lv_room (Nat.le_of_ble_eq_true rfl)) dX5_handValue_18 ⟨Nat.le_of_ble_eq_true rfl, Nat.le_of_ble_eq_true rfl⟩) (fun r_1 hr_1 => ?_)
  exact W.iret (v := r_1) hx hb hr (fun t ht hW => ⟨_, rfl, (by first | rfl | trivial | (simp [hr_1]; done) | ((try first | rw [if_pos hr_1] | rw [if_neg hr_1]); first | done | rfl | trivial) | (simp_all; done)), ht⟩) (fun q hq => absurd hq List.not_mem_nil) dX5_handValue_21

set_option maxRecDepth 20000 in
theorem in_X5_countOfGone_X5 : ∀ w ∈ wsX50, w ∈ wsX5_countOfGone := by decide +kernel
set_option maxRecDepth 20000 in
theorem wd_X5_countOfGone_0 : Cond.fieldLink RX5 36 "ShoeTable" "marks" "[I" ∈ wsX5_countOfGone := by decide +kernel
set_option maxRecDepth 20000 in
theorem wd_X5_countOfGone_1 : Cond.fieldLink RX5 23 "ShoeTable" "gone" "LShoeTable$Cards;" ∈ wsX5_countOfGone := by decide +kernel
set_option maxRecDepth 20000 in
theorem ggX5_countOfGone_X0_count : GoodIn wsX5_countOfGone wsX0_count := goodIn_r _ [7, 8, 21, 22] (by decide +kernel) (by decide +kernel)
set_option maxRecDepth 20000 in
theorem gX5_countOfGone_X0_count : GoodIn wsX5_countOfGone (wsV RX5 73 RX0 yX0_count wsX0_count) := goodIn_app (goodIn_of _ (by decide +kernel)) ggX5_countOfGone_X0_count
set_option maxHeartbeats 400000 in
set_option maxRecDepth 100000 in
/-- X5_countOfGone -/
theorem c_X5_countOfGone (l : Launch) (D : va_G) (cI cJ cQ : ClassId) (h0 : Nat) (tr : Nat) (tc : Nat) (tg : Nat) (tf : Nat) (th : Nat) (tm : Nat) (to : Nat) (tp : Nat) (ug : Nat)  : Met l yX5_countOfGone wsX5_countOfGone ({ frames := 1, cells := 0, slots := 0, locals := 21 }) (va_Pc [.ref h0] (rP D (gTy cI cJ cQ) [(h0, .inr (5, [.ref tr, .ref tc, .ref tg, .ref tf, .ref th, .ref tm, .ref to, .ref tp, .int (-1), .int 0, .long 1, .int 0])), (tg, .inr (0, [.ref ug, .int 0])), (ug, .inl (cI, 11, .inl (fun _ => 0))), (tm, .inl (cI, 11, .inl (fun _ => 0)))])) (vp_Si (fun r => r = 0)) 0 0 (fun _ => False) := by
  refine Met.ofW (cc := cX5_countOfGone) (maxL := 3) (ret := (some .int)) (by decide) rfl ?_
  intro p e s m args below meth c s₁ B hml hv
  obtain ⟨rfl, hP, hK⟩ := hv
  have hx := B.exec
  have hb := B.bytes
  have hr := B.returns
  have hts := atoms_spec (ws := wsX5_countOfGone) B.pre
  have hown : s.vm.findClass RX5 = some m.cls := findClass_of_methodNamed B.named
  have hlocks := B.notSynchronized
  have hl := lv_entry ([.ref h0]) (n := 3) (Nat.le_of_ble_eq_true rfl)
  rw [lg_entry_eq]
  generalize (lg_sl ([.ref h0]) ++ List.replicate (3 - (lg_sl ([.ref h0])).length) Slot.unset).toArray = ls at hl ⊢
  have hl : lv_has ls 3 [(0, .ref h0)] := hl
  refine lv_iconst (v := 0) hx hb dX5_countOfGone_0 (by decide) ?_
  refine lv_istore_n (lv' := [(1, .int 0), (0, .ref h0)]) hx hb dX5_countOfGone_1 rfl hl (by decide) rfl (fun ls hl => ?_)
  refine lv_iconst (v := 1) hx hb dX5_countOfGone_2 (by decide) ?_
  refine lv_istore_n (lv' := [(2, .int 1), (1, .int 0), (0, .ref h0)]) hx hb dX5_countOfGone_3 rfl hl (by decide) rfl (fun ls hl => ?_)
  refine lv_iload_n hx hb dX5_countOfGone_4 rfl (lv_at hl 0 rfl) ?_
  refine lv_bipush (v := 10) hx hb dX5_countOfGone_5 (by decide) ?_
  refine lv_icmp_gt (tgt := 34) hx hb dX5_countOfGone_7 (by decide) (fun c7_1 => ?_) (fun c7_1 => ?_)
  · exact absurd c7_1 (by decide)
  refine lv_iload_n hx hb dX5_countOfGone_10 rfl (lv_at hl 1 rfl) ?_
  refine lv_aload_n hx hb dX5_countOfGone_11 rfl (lv_at hl 2 rfl) ?_
  refine va_get (D := D) (ci := 5) (v := .ref tm) (C := RX5) (T := TX5) (N := 12) hx hb hts in_X5_countOfGone_X5 hown hK hP 0 rfl rfl 5 (by decide) (hts _ wd_X5_countOfGone_0) (fun _ h9 => h9) rfl dX5_countOfGone_12 ?_
  refine lv_iload_n hx hb dX5_countOfGone_15 rfl (lv_at hl 0 rfl) ?_
  refine va_iald hx hb hK hP 3 0 rfl rfl (show ¬ ((1 : Int32) < 0 ∨ 11 ≤ (1 : Int32).toNatClampNeg) by decide) dX5_countOfGone_16 ?_
  refine lv_topi (fun z_2 ez_2 => ?_)
  obtain rfl : z_2 = 0 := ez_2
  refine lv_aload_n hx hb dX5_countOfGone_17 rfl (lv_at hl 2 rfl) ?_
  refine va_get (D := D) (ci := 5) (v := .ref tg) (C := RX5) (T := TX5) (N := 12) hx hb hts in_X5_countOfGone_X5 hown hK hP 0 rfl rfl 2 (by decide) (hts _ wd_X5_countOfGone_1) (fun _ h9 => h9) rfl dX5_countOfGone_18 ?_
  refine lv_iload_n hx hb dX5_countOfGone_21 rfl (lv_at hl 0 rfl) ?_
  have hPc := hP.sub (ws' := [(tg, .inr (0, [.ref ug, .int 0])), (ug, .inl (cI, 11, .inl (fun _ => 0)))]) [1, 2] rfl
  refine vp_callSi (W.runV (As := [.int 1]) (rest := [.int 0, .int 0]) ⟨hx, hb, hml, hown, hts⟩ (c_X0_count0 l D cI cJ cQ tg ug 1) (cwV 1 hts gX5_countOfGone_X0_count rfl rfl rfl (by decide +kernel) ⟨Nat.le_of_ble_eq_true rfl, Nat.le_of_ble_eq_true rfl⟩) (rP_preV (ci := 0) (q0 := 0) hPc hK rfl rfl) rfl rfl hl.1 rfl (lv_room (Nat.le_of_ble_eq_true rfl)) dX5_countOfGone_22 ⟨Nat.le_of_ble_eq_true rfl, Nat.le_of_ble_eq_true rfl⟩) (fun r_3 hr_3 => ?_)
  subst hr_3
  refine lv_imul hx hb dX5_countOfGone_25 ?_
  refine lv_topi (fun z_4 ez_4 => ?_)
  obtain rfl : z_4 = 0 := ez_4.trans (by decide)
  refine lv_iadd hx hb dX5_countOfGone_26 ?_
  refine lv_topi (fun z_5 ez_5 => ?_)
  obtain rfl : z_5 = 0 := ez_5.trans (by decide)
  refine lv_istore_n (lv' := [(1, .int 0), (2, .int 1), (0, .ref h0)]) hx hb dX5_countOfGone_27 rfl hl (by decide) rfl (fun ls hl => ?_)
  refine lv_iinc (v := 2) (lv' := [(2, .int 2), (1, .int 0), (0, .ref h0)]) hx hb dX5_countOfGone_28 hl (k := 1) rfl (by decide) (by decide) rfl (fun ls hl => ?_)
  refine lv_goto (tgt := 4) hx hb dX5_countOfGone_31 (by decide) ?_
  refine lv_iload_n hx hb dX5_countOfGone_4 rfl (lv_at hl 0 rfl) ?_
  refine lv_bipush (v := 10) hx hb dX5_countOfGone_5 (by decide) ?_
  refine lv_icmp_gt (tgt := 34) hx hb dX5_countOfGone_7 (by decide) (fun c7_6 => ?_) (fun c7_6 => ?_)
  · exact absurd c7_6 (by decide)
  refine lv_iload_n hx hb dX5_countOfGone_10 rfl (lv_at hl 1 rfl) ?_
  refine lv_aload_n hx hb dX5_countOfGone_11 rfl (lv_at hl 2 rfl) ?_
  refine va_get (D := D) (ci := 5) (v := .ref tm) (C := RX5) (T := TX5) (N := 12) hx hb hts in_X5_countOfGone_X5 hown hK hP 0 rfl rfl 5 (by decide) (hts _ wd_X5_countOfGone_0) (fun _ h9 => h9) rfl dX5_countOfGone_12 ?_
  refine lv_iload_n hx hb dX5_countOfGone_15 rfl (lv_at hl 0 rfl) ?_
  refine va_iald hx hb hK hP 3 0 rfl rfl (show ¬ ((2 : Int32) < 0 ∨ 11 ≤ (2 : Int32).toNatClampNeg) by decide) dX5_countOfGone_16 ?_
  refine lv_topi (fun z_7 ez_7 => ?_)
  obtain rfl : z_7 = 0 := ez_7
  refine lv_aload_n hx hb dX5_countOfGone_17 rfl (lv_at hl 2 rfl) ?_
  refine va_get (D := D) (ci := 5) (v := .ref tg) (C := RX5) (T := TX5) (N := 12) hx hb hts in_X5_countOfGone_X5 hown hK hP 0 rfl rfl 2 (by decide) (hts _ wd_X5_countOfGone_1) (fun _ h9 => h9) rfl dX5_countOfGone_18 ?_
  refine lv_iload_n hx hb dX5_countOfGone_21 rfl (lv_at hl 0 rfl) ?_
  have hPc := hP.sub (ws' := [(tg, .inr (0, [.ref ug, .int 0])), (ug, .inl (cI, 11, .inl (fun _ => 0)))]) [1, 2] rfl
  refine vp_callSi (W.runV (As := [.int 2]) (rest := [.int 0, .int 0]) ⟨hx, hb, hml, hown, hts⟩ (c_X0_count0 l D cI cJ cQ tg ug 2) (cwV 1 hts gX5_countOfGone_X0_count rfl rfl rfl (by decide +kernel) ⟨Nat.le_of_ble_eq_true rfl, Nat.le_of_ble_eq_true rfl⟩) (rP_preV (ci := 0) (q0 := 0) hPc hK rfl rfl) rfl rfl hl.1 rfl (lv_room (Nat.le_of_ble_eq_true rfl)) dX5_countOfGone_22 ⟨Nat.le_of_ble_eq_true rfl, Nat.le_of_ble_eq_true rfl⟩) (fun r_8 hr_8 => ?_)
  subst hr_8
  refine lv_imul hx hb dX5_countOfGone_25 ?_
  refine lv_topi (fun z_9 ez_9 => ?_)
  obtain rfl : z_9 = 0 := ez_9.trans (by decide)
  refine lv_iadd hx hb dX5_countOfGone_26 ?_
  refine lv_topi (fun z_10 ez_10 => ?_)
  obtain rfl : z_10 = 0 := ez_10.trans (by decide)
  refine lv_istore_n (lv' := [(1, .int 0), (2, .int 2), (0, .ref h0)]) hx hb dX5_countOfGone_27 rfl hl (by decide) rfl (fun ls hl => ?_)
  refine lv_iinc (v := 3) (lv' := [(2, .int 3), (1, .int 0), (0, .ref h0)]) hx hb dX5_countOfGone_28 hl (k := 1) rfl (by decide) (by decide) rfl (fun ls hl => ?_)
  refine lv_goto (tgt := 4) hx hb dX5_countOfGone_31 (by decide) ?_
  refine lv_iload_n hx hb dX5_countOfGone_4 rfl (lv_at hl 0 rfl) ?_
  refine lv_bipush (v := 10) hx hb dX5_countOfGone_5 (by decide) ?_
  refine lv_icmp_gt (tgt := 34) hx hb dX5_countOfGone_7 (by decide) (fun c7_11 => ?_) (fun c7_11 => ?_)
  · exact absurd c7_11 (by decide)
  refine lv_iload_n hx hb dX5_countOfGone_10 rfl (lv_at hl 1 rfl) ?_
  refine lv_aload_n hx hb dX5_countOfGone_11 rfl (lv_at hl 2 rfl) ?_
  refine va_get (D := D) (ci := 5) (v := .ref tm) (C := RX5) (T := TX5) (N := 12) hx hb hts in_X5_countOfGone_X5 hown hK hP 0 rfl rfl 5 (by decide) (hts _ wd_X5_countOfGone_0) (fun _ h9 => h9) rfl dX5_countOfGone_12 ?_
  refine lv_iload_n hx hb dX5_countOfGone_15 rfl (lv_at hl 0 rfl) ?_
  refine va_iald hx hb hK hP 3 0 rfl rfl (show ¬ ((3 : Int32) < 0 ∨ 11 ≤ (3 : Int32).toNatClampNeg) by decide) dX5_countOfGone_16 ?_
  refine lv_topi (fun z_12 ez_12 => ?_)
  obtain rfl : z_12 = 0 := ez_12
  refine lv_aload_n hx hb dX5_countOfGone_17 rfl (lv_at hl 2 rfl) ?_
  refine va_get (D := D) (ci := 5) (v := .ref tg) (C := RX5) (T := TX5) (N := 12) hx hb hts in_X5_countOfGone_X5 hown hK hP 0 rfl rfl 2 (by decide) (hts _ wd_X5_countOfGone_1) (fun _ h9 => h9) rfl dX5_countOfGone_18 ?_
  refine lv_iload_n hx hb dX5_countOfGone_21 rfl (lv_at hl 0 rfl) ?_
  have hPc := hP.sub (ws' := [(tg, .inr (0, [.ref ug, .int 0])), (ug, .inl (cI, 11, .inl (fun _ => 0)))]) [1, 2] rfl
  refine vp_callSi (W.runV (As := [.int 3]) (rest := [.int 0, .int 0]) ⟨hx, hb, hml, hown, hts⟩ (c_X0_count0 l D cI cJ cQ tg ug 3) (cwV 1 hts gX5_countOfGone_X0_count rfl rfl rfl (by decide +kernel) ⟨Nat.le_of_ble_eq_true rfl, Nat.le_of_ble_eq_true rfl⟩) (rP_preV (ci := 0) (q0 := 0) hPc hK rfl rfl) rfl rfl hl.1 rfl (lv_room (Nat.le_of_ble_eq_true rfl)) dX5_countOfGone_22 ⟨Nat.le_of_ble_eq_true rfl, Nat.le_of_ble_eq_true rfl⟩) (fun r_13 hr_13 => ?_)
  subst hr_13
  refine lv_imul hx hb dX5_countOfGone_25 ?_
  refine lv_topi (fun z_14 ez_14 => ?_)
  obtain rfl : z_14 = 0 := ez_14.trans (by decide)
  refine lv_iadd hx hb dX5_countOfGone_26 ?_
  refine lv_topi (fun z_15 ez_15 => ?_)
  obtain rfl : z_15 = 0 := ez_15.trans (by decide)
  refine lv_istore_n (lv' := [(1, .int 0), (2, .int 3), (0, .ref h0)]) hx hb dX5_countOfGone_27 rfl hl (by decide) rfl (fun ls hl => ?_)
  refine lv_iinc (v := 4) (lv' := [(2, .int 4), (1, .int 0), (0, .ref h0)]) hx hb dX5_countOfGone_28 hl (k := 1) rfl (by decide) (by decide) rfl (fun ls hl => ?_)
  refine lv_goto (tgt := 4) hx hb dX5_countOfGone_31 (by decide) ?_
  refine lv_iload_n hx hb dX5_countOfGone_4 rfl (lv_at hl 0 rfl) ?_
  refine lv_bipush (v := 10) hx hb dX5_countOfGone_5 (by decide) ?_
  refine lv_icmp_gt (tgt := 34) hx hb dX5_countOfGone_7 (by decide) (fun c7_16 => ?_) (fun c7_16 => ?_)
  · exact absurd c7_16 (by decide)
  refine lv_iload_n hx hb dX5_countOfGone_10 rfl (lv_at hl 1 rfl) ?_
  refine lv_aload_n hx hb dX5_countOfGone_11 rfl (lv_at hl 2 rfl) ?_
  refine va_get (D := D) (ci := 5) (v := .ref tm) (C := RX5) (T := TX5) (N := 12) hx hb hts in_X5_countOfGone_X5 hown hK hP 0 rfl rfl 5 (by decide) (hts _ wd_X5_countOfGone_0) (fun _ h9 => h9) rfl dX5_countOfGone_12 ?_
  refine lv_iload_n hx hb dX5_countOfGone_15 rfl (lv_at hl 0 rfl) ?_
  refine va_iald hx hb hK hP 3 0 rfl rfl (show ¬ ((4 : Int32) < 0 ∨ 11 ≤ (4 : Int32).toNatClampNeg) by decide) dX5_countOfGone_16 ?_
  refine lv_topi (fun z_17 ez_17 => ?_)
  obtain rfl : z_17 = 0 := ez_17
  refine lv_aload_n hx hb dX5_countOfGone_17 rfl (lv_at hl 2 rfl) ?_
  refine va_get (D := D) (ci := 5) (v := .ref tg) (C := RX5) (T := TX5) (N := 12) hx hb hts in_X5_countOfGone_X5 hown hK hP 0 rfl rfl 2 (by decide) (hts _ wd_X5_countOfGone_1) (fun _ h9 => h9) rfl dX5_countOfGone_18 ?_
  refine lv_iload_n hx hb dX5_countOfGone_21 rfl (lv_at hl 0 rfl) ?_
  have hPc := hP.sub (ws' := [(tg, .inr (0, [.ref ug, .int 0])), (ug, .inl (cI, 11, .inl (fun _ => 0)))]) [1, 2] rfl
  refine vp_callSi (W.runV (As := [.int 4]) (rest := [.int 0, .int 0]) ⟨hx, hb, hml, hown, hts⟩ (c_X0_count0 l D cI cJ cQ tg ug 4) (cwV 1 hts gX5_countOfGone_X0_count rfl rfl rfl (by decide +kernel) ⟨Nat.le_of_ble_eq_true rfl, Nat.le_of_ble_eq_true rfl⟩) (rP_preV (ci := 0) (q0 := 0) hPc hK rfl rfl) rfl rfl hl.1 rfl (lv_room (Nat.le_of_ble_eq_true rfl)) dX5_countOfGone_22 ⟨Nat.le_of_ble_eq_true rfl, Nat.le_of_ble_eq_true rfl⟩) (fun r_18 hr_18 => ?_)
  subst hr_18
  refine lv_imul hx hb dX5_countOfGone_25 ?_
  refine lv_topi (fun z_19 ez_19 => ?_)
  obtain rfl : z_19 = 0 := ez_19.trans (by decide)
  refine lv_iadd hx hb dX5_countOfGone_26 ?_
  refine lv_topi (fun z_20 ez_20 => ?_)
  obtain rfl : z_20 = 0 := ez_20.trans (by decide)
  refine lv_istore_n (lv' := [(1, .int 0), (2, .int 4), (0, .ref h0)]) hx hb dX5_countOfGone_27 rfl hl (by decide) rfl (fun ls hl => ?_)
  refine lv_iinc (v := 5) (lv' := [(2, .int 5), (1, .int 0), (0, .ref h0)]) hx hb dX5_countOfGone_28 hl (k := 1) rfl (by decide) (by decide) rfl (fun ls hl => ?_)
  refine lv_goto (tgt := 4) hx hb dX5_countOfGone_31 (by decide) ?_
  refine lv_iload_n hx hb dX5_countOfGone_4 rfl (lv_at hl 0 rfl) ?_
  refine lv_bipush (v := 10) hx hb dX5_countOfGone_5 (by decide) ?_
  refine lv_icmp_gt (tgt := 34) hx hb dX5_countOfGone_7 (by decide) (fun c7_21 => ?_) (fun c7_21 => ?_)
  · exact absurd c7_21 (by decide)
  refine lv_iload_n hx hb dX5_countOfGone_10 rfl (lv_at hl 1 rfl) ?_
  refine lv_aload_n hx hb dX5_countOfGone_11 rfl (lv_at hl 2 rfl) ?_
  refine va_get (D := D) (ci := 5) (v := .ref tm) (C := RX5) (T := TX5) (N := 12) hx hb hts in_X5_countOfGone_X5 hown hK hP 0 rfl rfl 5 (by decide) (hts _ wd_X5_countOfGone_0) (fun _ h9 => h9) rfl dX5_countOfGone_12 ?_
  refine lv_iload_n hx hb dX5_countOfGone_15 rfl (lv_at hl 0 rfl) ?_
  refine va_iald hx hb hK hP 3 0 rfl rfl (show ¬ ((5 : Int32) < 0 ∨ 11 ≤ (5 : Int32).toNatClampNeg) by decide) dX5_countOfGone_16 ?_
  refine lv_topi (fun z_22 ez_22 => ?_)
  obtain rfl : z_22 = 0 := ez_22
  refine lv_aload_n hx hb dX5_countOfGone_17 rfl (lv_at hl 2 rfl) ?_
  refine va_get (D := D) (ci := 5) (v := .ref tg) (C := RX5) (T := TX5) (N := 12) hx hb hts in_X5_countOfGone_X5 hown hK hP 0 rfl rfl 2 (by decide) (hts _ wd_X5_countOfGone_1) (fun _ h9 => h9) rfl dX5_countOfGone_18 ?_
  refine lv_iload_n hx hb dX5_countOfGone_21 rfl (lv_at hl 0 rfl) ?_
  have hPc := hP.sub (ws' := [(tg, .inr (0, [.ref ug, .int 0])), (ug, .inl (cI, 11, .inl (fun _ => 0)))]) [1, 2] rfl
  refine vp_callSi (W.runV (As := [.int 5]) (rest := [.int 0, .int 0]) ⟨hx, hb, hml, hown, hts⟩ (c_X0_count0 l D cI cJ cQ tg ug 5) (cwV 1 hts gX5_countOfGone_X0_count rfl rfl rfl (by decide +kernel) ⟨Nat.le_of_ble_eq_true rfl, Nat.le_of_ble_eq_true rfl⟩) (rP_preV (ci := 0) (q0 := 0) hPc hK rfl rfl) rfl rfl hl.1 rfl (lv_room (Nat.le_of_ble_eq_true rfl)) dX5_countOfGone_22 ⟨Nat.le_of_ble_eq_true rfl, Nat.le_of_ble_eq_true rfl⟩) (fun r_23 hr_23 => ?_)
  subst hr_23
  refine lv_imul hx hb dX5_countOfGone_25 ?_
  refine lv_topi (fun z_24 ez_24 => ?_)
  obtain rfl : z_24 = 0 := ez_24.trans (by decide)
  refine lv_iadd hx hb dX5_countOfGone_26 ?_
  refine lv_topi (fun z_25 ez_25 => ?_)
  obtain rfl : z_25 = 0 := ez_25.trans (by decide)
  refine lv_istore_n (lv' := [(1, .int 0), (2, .int 5), (0, .ref h0)]) hx hb dX5_countOfGone_27 rfl hl (by decide) rfl (fun ls hl => ?_)
  refine lv_iinc (v := 6) (lv' := [(2, .int 6), (1, .int 0), (0, .ref h0)]) hx hb dX5_countOfGone_28 hl (k := 1) rfl (by decide) (by decide) rfl (fun ls hl => ?_)
  refine lv_goto (tgt := 4) hx hb dX5_countOfGone_31 (by decide) ?_
  refine lv_iload_n hx hb dX5_countOfGone_4 rfl (lv_at hl 0 rfl) ?_
  refine lv_bipush (v := 10) hx hb dX5_countOfGone_5 (by decide) ?_
  refine lv_icmp_gt (tgt := 34) hx hb dX5_countOfGone_7 (by decide) (fun c7_26 => ?_) (fun c7_26 => ?_)
  · exact absurd c7_26 (by decide)
  refine lv_iload_n hx hb dX5_countOfGone_10 rfl (lv_at hl 1 rfl) ?_
  refine lv_aload_n hx hb dX5_countOfGone_11 rfl (lv_at hl 2 rfl) ?_
  refine va_get (D := D) (ci := 5) (v := .ref tm) (C := RX5) (T := TX5) (N := 12) hx hb hts in_X5_countOfGone_X5 hown hK hP 0 rfl rfl 5 (by decide) (hts _ wd_X5_countOfGone_0) (fun _ h9 => h9) rfl dX5_countOfGone_12 ?_
  refine lv_iload_n hx hb dX5_countOfGone_15 rfl (lv_at hl 0 rfl) ?_
  refine va_iald hx hb hK hP 3 0 rfl rfl (show ¬ ((6 : Int32) < 0 ∨ 11 ≤ (6 : Int32).toNatClampNeg) by decide) dX5_countOfGone_16 ?_
  refine lv_topi (fun z_27 ez_27 => ?_)
  obtain rfl : z_27 = 0 := ez_27
  refine lv_aload_n hx hb dX5_countOfGone_17 rfl (lv_at hl 2 rfl) ?_
  refine va_get (D := D) (ci := 5) (v := .ref tg) (C := RX5) (T := TX5) (N := 12) hx hb hts in_X5_countOfGone_X5 hown hK hP 0 rfl rfl 2 (by decide) (hts _ wd_X5_countOfGone_1) (fun _ h9 => h9) rfl dX5_countOfGone_18 ?_
  refine lv_iload_n hx hb dX5_countOfGone_21 rfl (lv_at hl 0 rfl) ?_
  have hPc := hP.sub (ws' := [(tg, .inr (0, [.ref ug, .int 0])), (ug, .inl (cI, 11, .inl (fun _ => 0)))]) [1, 2] rfl
  refine vp_callSi (W.runV (As := [.int 6]) (rest := [.int 0, .int 0]) ⟨hx, hb, hml, hown, hts⟩ (c_X0_count0 l D cI cJ cQ tg ug 6) (cwV 1 hts gX5_countOfGone_X0_count rfl rfl rfl (by decide +kernel) ⟨Nat.le_of_ble_eq_true rfl, Nat.le_of_ble_eq_true rfl⟩) (rP_preV (ci := 0) (q0 := 0) hPc hK rfl rfl) rfl rfl hl.1 rfl (lv_room (Nat.le_of_ble_eq_true rfl)) dX5_countOfGone_22 ⟨Nat.le_of_ble_eq_true rfl, Nat.le_of_ble_eq_true rfl⟩) (fun r_28 hr_28 => ?_)
  subst hr_28
  refine lv_imul hx hb dX5_countOfGone_25 ?_
  refine lv_topi (fun z_29 ez_29 => ?_)
  obtain rfl : z_29 = 0 := ez_29.trans (by decide)
  refine lv_iadd hx hb dX5_countOfGone_26 ?_
  refine lv_topi (fun z_30 ez_30 => ?_)
  obtain rfl : z_30 = 0 := ez_30.trans (by decide)
  refine lv_istore_n (lv' := [(1, .int 0), (2, .int 6), (0, .ref h0)]) hx hb dX5_countOfGone_27 rfl hl (by decide) rfl (fun ls hl => ?_)
  refine lv_iinc (v := 7) (lv' := [(2, .int 7), (1, .int 0), (0, .ref h0)]) hx hb dX5_countOfGone_28 hl (k := 1) rfl (by decide) (by decide) rfl (fun ls hl => ?_)
  refine lv_goto (tgt := 4) hx hb dX5_countOfGone_31 (by decide) ?_
  refine lv_iload_n hx hb dX5_countOfGone_4 rfl (lv_at hl 0 rfl) ?_
  refine lv_bipush (v := 10) hx hb dX5_countOfGone_5 (by decide) ?_
  refine lv_icmp_gt (tgt := 34) hx hb dX5_countOfGone_7 (by decide) (fun c7_31 => ?_) (fun c7_31 => ?_)
  · exact absurd c7_31 (by decide)
  refine lv_iload_n hx hb dX5_countOfGone_10 rfl (lv_at hl 1 rfl) ?_
  refine lv_aload_n hx hb dX5_countOfGone_11 rfl (lv_at hl 2 rfl) ?_
  refine va_get (D := D) (ci := 5) (v := .ref tm) (C := RX5) (T := TX5) (N := 12) hx hb hts in_X5_countOfGone_X5 hown hK hP 0 rfl rfl 5 (by decide) (hts _ wd_X5_countOfGone_0) (fun _ h9 => h9) rfl dX5_countOfGone_12 ?_
  refine lv_iload_n hx hb dX5_countOfGone_15 rfl (lv_at hl 0 rfl) ?_
  refine va_iald hx hb hK hP 3 0 rfl rfl (show ¬ ((7 : Int32) < 0 ∨ 11 ≤ (7 : Int32).toNatClampNeg) by decide) dX5_countOfGone_16 ?_
  refine lv_topi (fun z_32 ez_32 => ?_)
  obtain rfl : z_32 = 0 := ez_32
  refine lv_aload_n hx hb dX5_countOfGone_17 rfl (lv_at hl 2 rfl) ?_
  refine va_get (D := D) (ci := 5) (v := .ref tg) (C := RX5) (T := TX5) (N := 12) hx hb hts in_X5_countOfGone_X5 hown hK hP 0 rfl rfl 2 (by decide) (hts _ wd_X5_countOfGone_1) (fun _ h9 => h9) rfl dX5_countOfGone_18 ?_
  refine lv_iload_n hx hb dX5_countOfGone_21 rfl (lv_at hl 0 rfl) ?_
  have hPc := hP.sub (ws' := [(tg, .inr (0, [.ref ug, .int 0])), (ug, .inl (cI, 11, .inl (fun _ => 0)))]) [1, 2] rfl
  refine vp_callSi (W.runV (As := [.int 7]) (rest := [.int 0, .int 0]) ⟨hx, hb, hml, hown, hts⟩ (c_X0_count0 l D cI cJ cQ tg ug 7) (cwV 1 hts gX5_countOfGone_X0_count rfl rfl rfl (by decide +kernel) ⟨Nat.le_of_ble_eq_true rfl, Nat.le_of_ble_eq_true rfl⟩) (rP_preV (ci := 0) (q0 := 0) hPc hK rfl rfl) rfl rfl hl.1 rfl (lv_room (Nat.le_of_ble_eq_true rfl)) dX5_countOfGone_22 ⟨Nat.le_of_ble_eq_true rfl, Nat.le_of_ble_eq_true rfl⟩) (fun r_33 hr_33 => ?_)
  subst hr_33
  refine lv_imul hx hb dX5_countOfGone_25 ?_
  refine lv_topi (fun z_34 ez_34 => ?_)
  obtain rfl : z_34 = 0 := ez_34.trans (by decide)
  refine lv_iadd hx hb dX5_countOfGone_26 ?_
  refine lv_topi (fun z_35 ez_35 => ?_)
  obtain rfl : z_35 = 0 := ez_35.trans (by decide)
  refine lv_istore_n (lv' := [(1, .int 0), (2, .int 7), (0, .ref h0)]) hx hb dX5_countOfGone_27 rfl hl (by decide) rfl (fun ls hl => ?_)
  refine lv_iinc (v := 8) (lv' := [(2, .int 8), (1, .int 0), (0, .ref h0)]) hx hb dX5_countOfGone_28 hl (k := 1) rfl (by decide) (by decide) rfl (fun ls hl => ?_)
  refine lv_goto (tgt := 4) hx hb dX5_countOfGone_31 (by decide) ?_
  refine lv_iload_n hx hb dX5_countOfGone_4 rfl (lv_at hl 0 rfl) ?_
  refine lv_bipush (v := 10) hx hb dX5_countOfGone_5 (by decide) ?_
  refine lv_icmp_gt (tgt := 34) hx hb dX5_countOfGone_7 (by decide) (fun c7_36 => ?_) (fun c7_36 => ?_)
  · exact absurd c7_36 (by decide)
  refine lv_iload_n hx hb dX5_countOfGone_10 rfl (lv_at hl 1 rfl) ?_
  refine lv_aload_n hx hb dX5_countOfGone_11 rfl (lv_at hl 2 rfl) ?_
  refine va_get (D := D) (ci := 5) (v := .ref tm) (C := RX5) (T := TX5) (N := 12) hx hb hts in_X5_countOfGone_X5 hown hK hP 0 rfl rfl 5 (by decide) (hts _ wd_X5_countOfGone_0) (fun _ h9 => h9) rfl dX5_countOfGone_12 ?_
  refine lv_iload_n hx hb dX5_countOfGone_15 rfl (lv_at hl 0 rfl) ?_
  refine va_iald hx hb hK hP 3 0 rfl rfl (show ¬ ((8 : Int32) < 0 ∨ 11 ≤ (8 : Int32).toNatClampNeg) by decide) dX5_countOfGone_16 ?_
  refine lv_topi (fun z_37 ez_37 => ?_)
  obtain rfl : z_37 = 0 := ez_37
  refine lv_aload_n hx hb dX5_countOfGone_17 rfl (lv_at hl 2 rfl) ?_
  refine va_get (D := D) (ci := 5) (v := .ref tg) (C := RX5) (T := TX5) (N := 12) hx hb hts in_X5_countOfGone_X5 hown hK hP 0 rfl rfl 2 (by decide) (hts _ wd_X5_countOfGone_1) (fun _ h9 => h9) rfl dX5_countOfGone_18 ?_
  refine lv_iload_n hx hb dX5_countOfGone_21 rfl (lv_at hl 0 rfl) ?_
  have hPc := hP.sub (ws' := [(tg, .inr (0, [.ref ug, .int 0])), (ug, .inl (cI, 11, .inl (fun _ => 0)))]) [1, 2] rfl
  refine vp_callSi (W.runV (As := [.int 8]) (rest := [.int 0, .int 0]) ⟨hx, hb, hml, hown, hts⟩ (c_X0_count0 l D cI cJ cQ tg ug 8) (cwV 1 hts gX5_countOfGone_X0_count rfl rfl rfl (by decide +kernel) ⟨Nat.le_of_ble_eq_true rfl, Nat.le_of_ble_eq_true rfl⟩) (rP_preV (ci := 0) (q0 := 0) hPc hK rfl rfl) rfl rfl hl.1 rfl (lv_room (Nat.le_of_ble_eq_true rfl)) dX5_countOfGone_22 ⟨Nat.le_of_ble_eq_true rfl, Nat.le_of_ble_eq_true rfl⟩) (fun r_38 hr_38 => ?_)
  subst hr_38
  refine lv_imul hx hb dX5_countOfGone_25 ?_
  refine lv_topi (fun z_39 ez_39 => ?_)
  obtain rfl : z_39 = 0 := ez_39.trans (by decide)
  refine lv_iadd hx hb dX5_countOfGone_26 ?_
  refine lv_topi (fun z_40 ez_40 => ?_)
  obtain rfl : z_40 = 0 := ez_40.trans (by decide)
  refine lv_istore_n (lv' := [(1, .int 0), (2, .int 8), (0, .ref h0)]) hx hb dX5_countOfGone_27 rfl hl (by decide) rfl (fun ls hl => ?_)
  refine lv_iinc (v := 9) (lv' := [(2, .int 9), (1, .int 0), (0, .ref h0)]) hx hb dX5_countOfGone_28 hl (k := 1) rfl (by decide) (by decide) rfl (fun ls hl => ?_)
  refine lv_goto (tgt := 4) hx hb dX5_countOfGone_31 (by decide) ?_
  refine lv_iload_n hx hb dX5_countOfGone_4 rfl (lv_at hl 0 rfl) ?_
  refine lv_bipush (v := 10) hx hb dX5_countOfGone_5 (by decide) ?_
  refine lv_icmp_gt (tgt := 34) hx hb dX5_countOfGone_7 (by decide) (fun c7_41 => ?_) (fun c7_41 => ?_)
  · exact absurd c7_41 (by decide)
  refine lv_iload_n hx hb dX5_countOfGone_10 rfl (lv_at hl 1 rfl) ?_
  refine lv_aload_n hx hb dX5_countOfGone_11 rfl (lv_at hl 2 rfl) ?_
  refine va_get (D := D) (ci := 5) (v := .ref tm) (C := RX5) (T := TX5) (N := 12) hx hb hts in_X5_countOfGone_X5 hown hK hP 0 rfl rfl 5 (by decide) (hts _ wd_X5_countOfGone_0) (fun _ h9 => h9) rfl dX5_countOfGone_12 ?_
  refine lv_iload_n hx hb dX5_countOfGone_15 rfl (lv_at hl 0 rfl) ?_
  refine va_iald hx hb hK hP 3 0 rfl rfl (show ¬ ((9 : Int32) < 0 ∨ 11 ≤ (9 : Int32).toNatClampNeg) by decide) dX5_countOfGone_16 ?_
  refine lv_topi (fun z_42 ez_42 => ?_)
  obtain rfl : z_42 = 0 := ez_42
  refine lv_aload_n hx hb dX5_countOfGone_17 rfl (lv_at hl 2 rfl) ?_
  refine va_get (D := D) (ci := 5) (v := .ref tg) (C := RX5) (T := TX5) (N := 12) hx hb hts in_X5_countOfGone_X5 hown hK hP 0 rfl rfl 2 (by decide) (hts _ wd_X5_countOfGone_1) (fun _ h9 => h9) rfl dX5_countOfGone_18 ?_
  refine lv_iload_n hx hb dX5_countOfGone_21 rfl (lv_at hl 0 rfl) ?_
  have hPc := hP.sub (ws' := [(tg, .inr (0, [.ref ug, .int 0])), (ug, .inl (cI, 11, .inl (fun _ => 0)))]) [1, 2] rfl
  refine vp_callSi (W.runV (As := [.int 9]) (rest := [.int 0, .int 0]) ⟨hx, hb, hml, hown, hts⟩ (c_X0_count0 l D cI cJ cQ tg ug 9) (cwV 1 hts gX5_countOfGone_X0_count rfl rfl rfl (by decide +kernel) ⟨Nat.le_of_ble_eq_true rfl, Nat.le_of_ble_eq_true rfl⟩) (rP_preV (ci := 0) (q0 := 0) hPc hK rfl rfl) rfl rfl hl.1 rfl (lv_room (Nat.le_of_ble_eq_true rfl)) dX5_countOfGone_22 ⟨Nat.le_of_ble_eq_true rfl, Nat.le_of_ble_eq_true rfl⟩) (fun r_43 hr_43 => ?_)
  subst hr_43
  refine lv_imul hx hb dX5_countOfGone_25 ?_
  refine lv_topi (fun z_44 ez_44 => ?_)
  obtain rfl : z_44 = 0 := ez_44.trans (by decide)
  refine lv_iadd hx hb dX5_countOfGone_26 ?_
  refine lv_topi (fun z_45 ez_45 => ?_)
  obtain rfl : z_45 = 0 := ez_45.trans (by decide)
  refine lv_istore_n (lv' := [(1, .int 0), (2, .int 9), (0, .ref h0)]) hx hb dX5_countOfGone_27 rfl hl (by decide) rfl (fun ls hl => ?_)
  refine lv_iinc (v := 10) (lv' := [(2, .int 10), (1, .int 0), (0, .ref h0)]) hx hb dX5_countOfGone_28 hl (k := 1) rfl (by decide) (by decide) rfl (fun ls hl => ?_)
  refine lv_goto (tgt := 4) hx hb dX5_countOfGone_31 (by decide) ?_
  refine lv_iload_n hx hb dX5_countOfGone_4 rfl (lv_at hl 0 rfl) ?_
  refine lv_bipush (v := 10) hx hb dX5_countOfGone_5 (by decide) ?_
  refine lv_icmp_gt (tgt := 34) hx hb dX5_countOfGone_7 (by decide) (fun c7_46 => ?_) (fun c7_46 => ?_)
  · exact absurd c7_46 (by decide)
  refine lv_iload_n hx hb dX5_countOfGone_10 rfl (lv_at hl 1 rfl) ?_
  refine lv_aload_n hx hb dX5_countOfGone_11 rfl (lv_at hl 2 rfl) ?_
  refine va_get (D := D) (ci := 5) (v := .ref tm) (C := RX5) (T := TX5) (N := 12) hx hb hts in_X5_countOfGone_X5 hown hK hP 0 rfl rfl 5 (by decide) (hts _ wd_X5_countOfGone_0) (fun _ h9 => h9) rfl dX5_countOfGone_12 ?_
  refine lv_iload_n hx hb dX5_countOfGone_15 rfl (lv_at hl 0 rfl) ?_
  refine va_iald hx hb hK hP 3 0 rfl rfl (show ¬ ((10 : Int32) < 0 ∨ 11 ≤ (10 : Int32).toNatClampNeg) by decide) dX5_countOfGone_16 ?_
  refine lv_topi (fun z_47 ez_47 => ?_)
  obtain rfl : z_47 = 0 := ez_47
  refine lv_aload_n hx hb dX5_countOfGone_17 rfl (lv_at hl 2 rfl) ?_
  refine va_get (D := D) (ci := 5) (v := .ref tg) (C := RX5) (T := TX5) (N := 12) hx hb hts in_X5_countOfGone_X5 hown hK hP 0 rfl rfl 2 (by decide) (hts _ wd_X5_countOfGone_1) (fun _ h9 => h9) rfl dX5_countOfGone_18 ?_
  refine lv_iload_n hx hb dX5_countOfGone_21 rfl (lv_at hl 0 rfl) ?_
  have hPc := hP.sub (ws' := [(tg, .inr (0, [.ref ug, .int 0])), (ug, .inl (cI, 11, .inl (fun _ => 0)))]) [1, 2] rfl
  refine vp_callSi (W.runV (As := [.int 10]) (rest := [.int 0, .int 0]) ⟨hx, hb, hml, hown, hts⟩ (c_X0_count0 l D cI cJ cQ tg ug 10) (cwV 1 hts gX5_countOfGone_X0_count rfl rfl rfl (by decide +kernel) ⟨Nat.le_of_ble_eq_true rfl, Nat.le_of_ble_eq_true rfl⟩) (rP_preV (ci := 0) (q0 := 0) hPc hK rfl rfl) rfl rfl hl.1 rfl (lv_room (Nat.le_of_ble_eq_true rfl)) dX5_countOfGone_22 ⟨Nat.le_of_ble_eq_true rfl, Nat.le_of_ble_eq_true rfl⟩) (fun r_48 hr_48 => ?_)
  subst hr_48
  refine lv_imul hx hb dX5_countOfGone_25 ?_
  refine lv_topi (fun z_49 ez_49 => ?_)
  obtain rfl : z_49 = 0 := ez_49.trans (by decide)
  refine lv_iadd hx hb dX5_countOfGone_26 ?_
  refine lv_topi (fun z_50 ez_50 => ?_)
  obtain rfl : z_50 = 0 := ez_50.trans (by decide)
  refine lv_istore_n (lv' := [(1, .int 0), (2, .int 10), (0, .ref h0)]) hx hb dX5_countOfGone_27 rfl hl (by decide) rfl (fun ls hl => ?_)
  refine lv_iinc (v := 11) (lv' := [(2, .int 11), (1, .int 0), (0, .ref h0)]) hx hb dX5_countOfGone_28 hl (k := 1) rfl (by decide) (by decide) rfl (fun ls hl => ?_)
  refine lv_goto (tgt := 4) hx hb dX5_countOfGone_31 (by decide) ?_
  refine lv_iload_n hx hb dX5_countOfGone_4 rfl (lv_at hl 0 rfl) ?_
  refine lv_bipush (v := 10) hx hb dX5_countOfGone_5 (by decide) ?_
  refine lv_icmp_gt (tgt := 34) hx hb dX5_countOfGone_7 (by decide) (fun c7_51 => ?_) (fun c7_51 => ?_)
  · skip
    refine lv_iload_n hx hb dX5_countOfGone_34 rfl (lv_at hl 1 rfl) ?_
    exact W.iret (v := 0) hx hb hr (fun t ht hW => ⟨_, rfl, (by first | rfl | trivial | (simp [c7_51]; done) | ((try first | rw [if_pos c7_51] | rw [if_neg c7_51]); first | done | rfl | trivial) | (simp_all; done)), ht⟩) (fun q hq => absurd hq List.not_mem_nil) dX5_countOfGone_35
  · exact absurd c7_51 (by decide)

set_option maxRecDepth 20000 in
theorem in_X5_told_X5 : ∀ w ∈ wsX50, w ∈ wsX5_told := by decide +kernel
set_option maxRecDepth 20000 in
theorem wd_X5_told_0 : Cond.fieldLink RX5 32 "ShoeTable" "hand" "LShoeTable$Hand;" ∈ wsX5_told := by decide +kernel
set_option maxRecDepth 20000 in
theorem in_X5_told_X1 : ∀ w ∈ wsX10, w ∈ wsX5_told := by decide +kernel
set_option maxRecDepth 20000 in
theorem wd_X5_told_1 : Cond.fieldLink RX5 112 "ShoeTable$Hand" "size" "I" ∈ wsX5_told := by decide +kernel
set_option maxRecDepth 20000 in
theorem ggX5_told_X5_handValue : GoodIn wsX5_told wsX5_handValue := goodIn_r _ [14, 3, 1, 4, 5, 15, 16, 17, 18, 19, 20, 54, 55, 56, 57, 58, 59, 60, 61, 62, 63, 64, 65, 66, 67, 68, 69, 72] (by decide +kernel) (by decide +kernel)
set_option maxRecDepth 20000 in
theorem gX5_told_X5_handValue : GoodIn wsX5_told (wsV RX5 119 RX5 yX5_handValue wsX5_handValue) := goodIn_app (goodIn_of _ (by decide +kernel)) ggX5_told_X5_handValue
set_option maxRecDepth 20000 in
theorem wd_X5_told_2 : Cond.fieldLink RX5 10 "ShoeTable" "rules" "LShoeTable$Rules;" ∈ wsX5_told := by decide +kernel
set_option maxRecDepth 20000 in
theorem wd_X5_told_3 : Cond.fieldLink RX5 122 "ShoeTable$Hand" "sum" "I" ∈ wsX5_told := by decide +kernel
set_option maxRecDepth 20000 in
theorem wd_X5_told_4 : Cond.fieldLink RX5 125 "ShoeTable$Hand" "ace" "Z" ∈ wsX5_told := by decide +kernel
set_option maxRecDepth 20000 in
theorem ggX5_told_X4_isSoft : GoodIn wsX5_told wsX4_isSoft := goodIn_r _ [24, 20, 72] (by decide +kernel) (by decide +kernel)
set_option maxRecDepth 20000 in
theorem gX5_told_X4_isSoft : GoodIn wsX5_told (wsV RX5 128 RX4 yX4_isSoft wsX4_isSoft) := goodIn_app (goodIn_of _ (by decide +kernel)) ggX5_told_X4_isSoft
set_option maxRecDepth 20000 in
theorem ggX5_told_X5_asNumber : GoodIn wsX5_told wsX5_asNumber := goodIn_r _ [27] (by decide +kernel) (by decide +kernel)
set_option maxRecDepth 20000 in
theorem gX5_told_X5_asNumber : GoodIn wsX5_told (va_wsS RX5 132 yX5_asNumber wsX5_asNumber) := goodIn_app (goodIn_of _ (by decide +kernel)) ggX5_told_X5_asNumber
set_option maxRecDepth 20000 in
theorem ggX5_told_X4_isNatural : GoodIn wsX5_told wsX4_isNatural := goodIn_r _ [31, 20, 72] (by decide +kernel) (by decide +kernel)
set_option maxRecDepth 20000 in
theorem gX5_told_X4_isNatural : GoodIn wsX5_told (wsV RX5 136 RX4 yX4_isNatural wsX4_isNatural) := goodIn_app (goodIn_of _ (by decide +kernel)) ggX5_told_X4_isNatural
set_option maxRecDepth 20000 in
theorem ggX5_told_X4_isBust : GoodIn wsX5_told wsX4_isBust := goodIn_r _ [35, 20, 72] (by decide +kernel) (by decide +kernel)
set_option maxRecDepth 20000 in
theorem gX5_told_X4_isBust : GoodIn wsX5_told (wsV RX5 140 RX4 yX4_isBust wsX4_isBust) := goodIn_app (goodIn_of _ (by decide +kernel)) ggX5_told_X4_isBust
set_option maxRecDepth 20000 in
theorem wd_X5_told_5 : Cond.fieldLink RX5 54 "ShoeTable" "up" "I" ∈ wsX5_told := by decide +kernel
set_option maxRecDepth 20000 in
theorem ggX5_told_X5_countOfGone : GoodIn wsX5_told wsX5_countOfGone := goodIn_r _ [39, 40, 8, 41, 42, 43, 44, 45, 46, 54, 55, 56, 57, 58, 59, 60, 61, 62, 63, 64, 65, 70, 71] (by decide +kernel) (by decide +kernel)
set_option maxRecDepth 20000 in
theorem gX5_told_X5_countOfGone : GoodIn wsX5_told (wsV RX5 143 RX5 yX5_countOfGone wsX5_countOfGone) := goodIn_app (goodIn_of _ (by decide +kernel)) ggX5_told_X5_countOfGone
set_option maxRecDepth 20000 in
theorem wd_X5_told_6 : Cond.fieldLink RX5 58 "ShoeTable" "bank" "I" ∈ wsX5_told := by decide +kernel
set_option maxRecDepth 20000 in
theorem wd_X5_told_7 : Cond.fieldLink RX5 23 "ShoeTable" "gone" "LShoeTable$Cards;" ∈ wsX5_told := by decide +kernel
set_option maxRecDepth 20000 in
theorem in_X5_told_X0 : ∀ w ∈ wsX00, w ∈ wsX5_told := by decide +kernel
set_option maxRecDepth 20000 in
theorem wd_X5_told_8 : Cond.fieldLink RX5 91 "ShoeTable$Cards" "total" "I" ∈ wsX5_told := by decide +kernel
set_option maxRecDepth 20000 in
theorem ggX5_told_X1_card : GoodIn wsX5_told wsX1_card := goodIn_r _ [51, 52, 53, 66, 67, 68, 69] (by decide +kernel) (by decide +kernel)
set_option maxRecDepth 20000 in
theorem gX5_told_X1_card : GoodIn wsX5_told (wsV RX5 146 RX1 yX1_card wsX1_card) := goodIn_app (goodIn_of _ (by decide +kernel)) ggX5_told_X1_card
set_option maxHeartbeats 400000 in
set_option maxRecDepth 100000 in
/-- X5_told -/
theorem c_X5_told (l : Launch) (D : va_G) (cI cJ cQ : ClassId) (h0 : Nat) (tr : Nat) (tc : Nat) (tg : Nat) (tf : Nat) (th : Nat) (tm : Nat) (to : Nat) (tp : Nat) (ur : Nat) (w1 : Nat → Int32) (uh : Nat) (ug : Nat) (p0 : Int32) (hw : ∀ j, j < 7 → w1 j = rules0 j) : Met l yX5_told wsX5_told ({ frames := 2, cells := 0, slots := 0, locals := 43 }) (va_Pc [.ref h0, .int p0] (rP D (gTy cI cJ cQ) [(h0, .inr (5, [.ref tr, .ref tc, .ref tg, .ref tf, .ref th, .ref tm, .ref to, .ref tp, .int (-1), .int 0, .long 1, .int 0])), (tr, .inr (4, [.ref ur])), (ur, .inl (cI, 7, .inl w1)), (th, .inr (1, [.ref uh, .int 0, .int 0, .int 0])), (uh, .inl (cI, 12, .inl (fun _ => 0))), (tg, .inr (0, [.ref ug, .int 0])), (ug, .inl (cI, 11, .inl (fun _ => 0))), (tm, .inl (cI, 11, .inl (fun _ => 0)))])) (vp_Si (fun r => r = toldS p0)) 0 0 (fun _ => False) := by
  refine Met.ofW (cc := cX5_told) (maxL := 2) (ret := (some .int)) (by decide) rfl ?_
  intro p e s m args below meth c s₁ B hml hv
  obtain ⟨rfl, hP, hK⟩ := hv
  have hx := B.exec
  have hb := B.bytes
  have hr := B.returns
  have hts := atoms_spec (ws := wsX5_told) B.pre
  have hown : s.vm.findClass RX5 = some m.cls := findClass_of_methodNamed B.named
  have hlocks := B.notSynchronized
  have hl := lv_entry ([.ref h0, .int p0]) (n := 2) (Nat.le_of_ble_eq_true rfl)
  rw [lg_entry_eq]
  generalize (lg_sl ([.ref h0, .int p0]) ++ List.replicate (2 - (lg_sl ([.ref h0, .int p0])).length) Slot.unset).toArray = ls at hl ⊢
  have hl : lv_has ls 2 [(0, .ref h0), (1, .int p0)] := hl
  refine lv_iload_n hx hb dX5_told_0 rfl (lv_at hl 1 rfl) ?_
  by_cases k0_1 : p0 = 0
  · subst k0_1
    refine lv_tableIn (off := 51) (tgt := 52) hx hb dX5_told_1 (by decide) (by decide) (by decide) (by decide) ?_
    refine lv_aload_n hx hb dX5_told_52 rfl (lv_at hl 0 rfl) ?_
    refine va_get (D := D) (ci := 5) (v := .ref th) (C := RX5) (T := TX5) (N := 12) hx hb hts in_X5_told_X5 hown hK hP 0 rfl rfl 4 (by decide) (hts _ wd_X5_told_0) (fun _ h9 => h9) rfl dX5_told_53 ?_
    refine va_get (D := D) (ci := 1) (v := .int 0) (C := RX1) (T := TX1) (N := 4) hx hb hts in_X5_told_X1 hown hK hP 3 rfl rfl 1 (by decide) (hts _ wd_X5_told_1) (fun _ h9 => h9) rfl dX5_told_56 ?_
    exact W.iret (v := 0) hx hb hr (fun t ht hW => ⟨_, rfl, (by first | rfl | decide | (unfold toldS; first | (simp []; done) | rfl)), ht⟩) (fun q hq => absurd hq List.not_mem_nil) dX5_told_59
  by_cases k1_2 : p0 = 1
  · subst k1_2
    refine lv_tableIn (off := 59) (tgt := 60) hx hb dX5_told_1 (by decide) (by decide) (by decide) (by decide) ?_
    refine lv_aload_n hx hb dX5_told_60 rfl (lv_at hl 0 rfl) ?_
    have hPc := hP.sub (ws' := [(h0, .inr (5, [.ref tr, .ref tc, .ref tg, .ref tf, .ref th, .ref tm, .ref to, .ref tp, .int (-1), .int 0, .long 1, .int 0])), (tr, .inr (4, [.ref ur])), (ur, .inl (cI, 7, .inl w1)), (th, .inr (1, [.ref uh, .int 0, .int 0, .int 0]))]) [0, 1, 2, 3] rfl
    refine vp_callSi (W.runV (As := []) (rest := []) ⟨hx, hb, hml, hown, hts⟩ (c_X5_handValue l D cI cJ cQ h0 tr tc tg tf th tm to tp ur (w1) uh) (cwV 0 hts gX5_told_X5_handValue rfl rfl rfl (by decide +kernel) ⟨Nat.le_of_ble_eq_true rfl, Nat.le_of_ble_eq_true rfl⟩) (rP_preV (ci := 5) (q0 := 0) hPc hK rfl rfl) rfl rfl hl.1 rfl (lv_room (Nat.le_of_ble_eq_true rfl)) dX5_told_61 ⟨Nat.le_of_ble_eq_true rfl, Nat.le_of_ble_eq_true rfl⟩) (fun r_3 hr_3 => ?_)
    subst hr_3
    exact W.iret (v := 0) hx hb hr (fun t ht hW => ⟨_, rfl, (by first | rfl | decide | (unfold toldS; first | (simp []; done) | rfl)), ht⟩) (fun q hq => absurd hq List.not_mem_nil) dX5_told_64
  by_cases k2_4 : p0 = 2
  · subst k2_4
    refine lv_tableIn (off := 64) (tgt := 65) hx hb dX5_told_1 (by decide) (by decide) (by decide) (by decide) ?_
    refine lv_aload_n hx hb dX5_told_65 rfl (lv_at hl 0 rfl) ?_
    refine va_get (D := D) (ci := 5) (v := .ref tr) (C := RX5) (T := TX5) (N := 12) hx hb hts in_X5_told_X5 hown hK hP 0 rfl rfl 0 (by decide) (hts _ wd_X5_told_2) (fun _ h9 => h9) rfl dX5_told_66 ?_
    refine lv_aload_n hx hb dX5_told_69 rfl (lv_at hl 0 rfl) ?_
    refine va_get (D := D) (ci := 5) (v := .ref th) (C := RX5) (T := TX5) (N := 12) hx hb hts in_X5_told_X5 hown hK hP 0 rfl rfl 4 (by decide) (hts _ wd_X5_told_0) (fun _ h9 => h9) rfl dX5_told_70 ?_
    refine va_get (D := D) (ci := 1) (v := .int 0) (C := RX1) (T := TX1) (N := 4) hx hb hts in_X5_told_X1 hown hK hP 3 rfl rfl 2 (by decide) (hts _ wd_X5_told_3) (fun _ h9 => h9) rfl dX5_told_73 ?_
    refine lv_aload_n hx hb dX5_told_76 rfl (lv_at hl 0 rfl) ?_
    refine va_get (D := D) (ci := 5) (v := .ref th) (C := RX5) (T := TX5) (N := 12) hx hb hts in_X5_told_X5 hown hK hP 0 rfl rfl 4 (by decide) (hts _ wd_X5_told_0) (fun _ h9 => h9) rfl dX5_told_77 ?_
    refine va_get (D := D) (ci := 1) (v := .int 0) (C := RX1) (T := TX1) (N := 4) hx hb hts in_X5_told_X1 hown hK hP 3 rfl rfl 3 (by decide) (hts _ wd_X5_told_4) (fun _ h9 => h9) rfl dX5_told_80 ?_
    have hPc := hP.sub (ws' := [(tr, .inr (4, [.ref ur])), (ur, .inl (cI, 7, .inl w1))]) [1, 2] rfl
    refine vp_callSi (W.runV (As := [.int 0, .int 0]) (rest := []) ⟨hx, hb, hml, hown, hts⟩ (c_X4_isSoft0 l D cI cJ cQ tr ur (w1)) (cwV 2 hts gX5_told_X4_isSoft rfl rfl rfl (by decide +kernel) ⟨Nat.le_of_ble_eq_true rfl, Nat.le_of_ble_eq_true rfl⟩) (rP_preV (ci := 4) (q0 := 0) hPc hK rfl rfl) rfl rfl hl.1 rfl (lv_room (Nat.le_of_ble_eq_true rfl)) dX5_told_83 ⟨Nat.le_of_ble_eq_true rfl, Nat.le_of_ble_eq_true rfl⟩) (fun r_5 hr_5 => ?_)
    subst hr_5
    have hPc := hP.sub (ws' := []) [] rfl
    refine vp_callSi (W.runS (As := [.int 0]) (rest := []) ⟨hx, hb, hml, hown, hts⟩ (c_X5_asNumber l D cI cJ cQ 0) (va_cwS 1 hts gX5_told_X5_asNumber rfl rfl rfl (by decide +kernel) ⟨Nat.le_of_ble_eq_true rfl, Nat.le_of_ble_eq_true rfl⟩) (rP_preS hPc hK) rfl rfl hl.1 rfl (lv_room (Nat.le_of_ble_eq_true rfl)) dX5_told_86 ⟨Nat.le_of_ble_eq_true rfl, Nat.le_of_ble_eq_true rfl⟩) (fun r_6 hr_6 => ?_)
    subst hr_6
    exact W.iret (v := (nuB 0)) hx hb hr (fun t ht hW => ⟨_, rfl, (by first | rfl | decide | (unfold toldS; first | (simp []; done) | rfl)), ht⟩) (fun q hq => absurd hq List.not_mem_nil) dX5_told_89
  by_cases k3_7 : p0 = 3
  · subst k3_7
    refine lv_tableIn (off := 89) (tgt := 90) hx hb dX5_told_1 (by decide) (by decide) (by decide) (by decide) ?_
    refine lv_aload_n hx hb dX5_told_90 rfl (lv_at hl 0 rfl) ?_
    refine va_get (D := D) (ci := 5) (v := .ref tr) (C := RX5) (T := TX5) (N := 12) hx hb hts in_X5_told_X5 hown hK hP 0 rfl rfl 0 (by decide) (hts _ wd_X5_told_2) (fun _ h9 => h9) rfl dX5_told_91 ?_
    refine lv_aload_n hx hb dX5_told_94 rfl (lv_at hl 0 rfl) ?_
    have hPc := hP.sub (ws' := [(h0, .inr (5, [.ref tr, .ref tc, .ref tg, .ref tf, .ref th, .ref tm, .ref to, .ref tp, .int (-1), .int 0, .long 1, .int 0])), (tr, .inr (4, [.ref ur])), (ur, .inl (cI, 7, .inl w1)), (th, .inr (1, [.ref uh, .int 0, .int 0, .int 0]))]) [0, 1, 2, 3] rfl
    refine vp_callSi (W.runV (As := []) (rest := [.ref tr]) ⟨hx, hb, hml, hown, hts⟩ (c_X5_handValue l D cI cJ cQ h0 tr tc tg tf th tm to tp ur (w1) uh) (cwV 0 hts gX5_told_X5_handValue rfl rfl rfl (by decide +kernel) ⟨Nat.le_of_ble_eq_true rfl, Nat.le_of_ble_eq_true rfl⟩) (rP_preV (ci := 5) (q0 := 0) hPc hK rfl rfl) rfl rfl hl.1 rfl (lv_room (Nat.le_of_ble_eq_true rfl)) dX5_told_95 ⟨Nat.le_of_ble_eq_true rfl, Nat.le_of_ble_eq_true rfl⟩) (fun r_8 hr_8 => ?_)
    subst hr_8
    refine lv_aload_n hx hb dX5_told_98 rfl (lv_at hl 0 rfl) ?_
    refine va_get (D := D) (ci := 5) (v := .ref th) (C := RX5) (T := TX5) (N := 12) hx hb hts in_X5_told_X5 hown hK hP 0 rfl rfl 4 (by decide) (hts _ wd_X5_told_0) (fun _ h9 => h9) rfl dX5_told_99 ?_
    refine va_get (D := D) (ci := 1) (v := .int 0) (C := RX1) (T := TX1) (N := 4) hx hb hts in_X5_told_X1 hown hK hP 3 rfl rfl 1 (by decide) (hts _ wd_X5_told_1) (fun _ h9 => h9) rfl dX5_told_102 ?_
    have hPc := hP.sub (ws' := [(tr, .inr (4, [.ref ur])), (ur, .inl (cI, 7, .inl w1))]) [1, 2] rfl
    refine vp_callSi (W.runV (As := [.int 0, .int 0]) (rest := []) ⟨hx, hb, hml, hown, hts⟩ (c_X4_isNatural0 l D cI cJ cQ tr ur (w1)) (cwV 2 hts gX5_told_X4_isNatural rfl rfl rfl (by decide +kernel) ⟨Nat.le_of_ble_eq_true rfl, Nat.le_of_ble_eq_true rfl⟩) (rP_preV (ci := 4) (q0 := 0) hPc hK rfl rfl) rfl rfl hl.1 rfl (lv_room (Nat.le_of_ble_eq_true rfl)) dX5_told_105 ⟨Nat.le_of_ble_eq_true rfl, Nat.le_of_ble_eq_true rfl⟩) (fun r_9 hr_9 => ?_)
    subst hr_9
    have hPc := hP.sub (ws' := []) [] rfl
    refine vp_callSi (W.runS (As := [.int 0]) (rest := []) ⟨hx, hb, hml, hown, hts⟩ (c_X5_asNumber l D cI cJ cQ 0) (va_cwS 1 hts gX5_told_X5_asNumber rfl rfl rfl (by decide +kernel) ⟨Nat.le_of_ble_eq_true rfl, Nat.le_of_ble_eq_true rfl⟩) (rP_preS hPc hK) rfl rfl hl.1 rfl (lv_room (Nat.le_of_ble_eq_true rfl)) dX5_told_108 ⟨Nat.le_of_ble_eq_true rfl, Nat.le_of_ble_eq_true rfl⟩) (fun r_10 hr_10 => ?_)
    subst hr_10
    exact W.iret (v := (nuB 0)) hx hb hr (fun t ht hW => ⟨_, rfl, (by first | rfl | decide | (unfold toldS; first | (simp []; done) | rfl)), ht⟩) (fun q hq => absurd hq List.not_mem_nil) dX5_told_111
  by_cases k4_11 : p0 = 4
  · subst k4_11
    refine lv_tableIn (off := 111) (tgt := 112) hx hb dX5_told_1 (by decide) (by decide) (by decide) (by decide) ?_
    refine lv_aload_n hx hb dX5_told_112 rfl (lv_at hl 0 rfl) ?_
    refine va_get (D := D) (ci := 5) (v := .ref tr) (C := RX5) (T := TX5) (N := 12) hx hb hts in_X5_told_X5 hown hK hP 0 rfl rfl 0 (by decide) (hts _ wd_X5_told_2) (fun _ h9 => h9) rfl dX5_told_113 ?_
    refine lv_aload_n hx hb dX5_told_116 rfl (lv_at hl 0 rfl) ?_
    refine va_get (D := D) (ci := 5) (v := .ref th) (C := RX5) (T := TX5) (N := 12) hx hb hts in_X5_told_X5 hown hK hP 0 rfl rfl 4 (by decide) (hts _ wd_X5_told_0) (fun _ h9 => h9) rfl dX5_told_117 ?_
    refine va_get (D := D) (ci := 1) (v := .int 0) (C := RX1) (T := TX1) (N := 4) hx hb hts in_X5_told_X1 hown hK hP 3 rfl rfl 2 (by decide) (hts _ wd_X5_told_3) (fun _ h9 => h9) rfl dX5_told_120 ?_
    have hPc := hP.sub (ws' := [(tr, .inr (4, [.ref ur])), (ur, .inl (cI, 7, .inl w1))]) [1, 2] rfl
    refine vp_callSi (W.runV (As := [.int 0]) (rest := []) ⟨hx, hb, hml, hown, hts⟩ (c_X4_isBust0 l D cI cJ cQ tr ur (w1) (hw 0 (by decide))) (cwV 1 hts gX5_told_X4_isBust rfl rfl rfl (by decide +kernel) ⟨Nat.le_of_ble_eq_true rfl, Nat.le_of_ble_eq_true rfl⟩) (rP_preV (ci := 4) (q0 := 0) hPc hK rfl rfl) rfl rfl hl.1 rfl (lv_room (Nat.le_of_ble_eq_true rfl)) dX5_told_123 ⟨Nat.le_of_ble_eq_true rfl, Nat.le_of_ble_eq_true rfl⟩) (fun r_12 hr_12 => ?_)
    subst hr_12
    have hPc := hP.sub (ws' := []) [] rfl
    refine vp_callSi (W.runS (As := [.int 0]) (rest := []) ⟨hx, hb, hml, hown, hts⟩ (c_X5_asNumber l D cI cJ cQ 0) (va_cwS 1 hts gX5_told_X5_asNumber rfl rfl rfl (by decide +kernel) ⟨Nat.le_of_ble_eq_true rfl, Nat.le_of_ble_eq_true rfl⟩) (rP_preS hPc hK) rfl rfl hl.1 rfl (lv_room (Nat.le_of_ble_eq_true rfl)) dX5_told_126 ⟨Nat.le_of_ble_eq_true rfl, Nat.le_of_ble_eq_true rfl⟩) (fun r_13 hr_13 => ?_)
    subst hr_13
    exact W.iret (v := (nuB 0)) hx hb hr (fun t ht hW => ⟨_, rfl, (by first | rfl | decide | (unfold toldS; first | (simp []; done) | rfl)), ht⟩) (fun q hq => absurd hq List.not_mem_nil) dX5_told_129
  by_cases k5_14 : p0 = 5
  · subst k5_14
    refine lv_tableIn (off := 129) (tgt := 130) hx hb dX5_told_1 (by decide) (by decide) (by decide) (by decide) ?_
    refine lv_aload_n hx hb dX5_told_130 rfl (lv_at hl 0 rfl) ?_
    refine va_get (D := D) (ci := 5) (v := .int (-1)) (C := RX5) (T := TX5) (N := 12) hx hb hts in_X5_told_X5 hown hK hP 0 rfl rfl 8 (by decide) (hts _ wd_X5_told_5) (fun _ h9 => h9) rfl dX5_told_131 ?_
    exact W.iret (v := (-1)) hx hb hr (fun t ht hW => ⟨_, rfl, (by first | rfl | decide | (unfold toldS; first | (simp []; done) | rfl)), ht⟩) (fun q hq => absurd hq List.not_mem_nil) dX5_told_134
  by_cases k6_15 : p0 = 6
  · subst k6_15
    refine lv_tableIn (off := 134) (tgt := 135) hx hb dX5_told_1 (by decide) (by decide) (by decide) (by decide) ?_
    refine lv_aload_n hx hb dX5_told_135 rfl (lv_at hl 0 rfl) ?_
    have hPc := hP.sub (ws' := [(h0, .inr (5, [.ref tr, .ref tc, .ref tg, .ref tf, .ref th, .ref tm, .ref to, .ref tp, .int (-1), .int 0, .long 1, .int 0])), (tg, .inr (0, [.ref ug, .int 0])), (ug, .inl (cI, 11, .inl (fun _ => 0))), (tm, .inl (cI, 11, .inl (fun _ => 0)))]) [0, 5, 6, 7] rfl
    refine vp_callSi (W.runV (As := []) (rest := []) ⟨hx, hb, hml, hown, hts⟩ (c_X5_countOfGone l D cI cJ cQ h0 tr tc tg tf th tm to tp ug) (cwV 0 hts gX5_told_X5_countOfGone rfl rfl rfl (by decide +kernel) ⟨Nat.le_of_ble_eq_true rfl, Nat.le_of_ble_eq_true rfl⟩) (rP_preV (ci := 5) (q0 := 0) hPc hK rfl rfl) rfl rfl hl.1 rfl (lv_room (Nat.le_of_ble_eq_true rfl)) dX5_told_136 ⟨Nat.le_of_ble_eq_true rfl, Nat.le_of_ble_eq_true rfl⟩) (fun r_16 hr_16 => ?_)
    subst hr_16
    exact W.iret (v := 0) hx hb hr (fun t ht hW => ⟨_, rfl, (by first | rfl | decide | (unfold toldS; first | (simp []; done) | rfl)), ht⟩) (fun q hq => absurd hq List.not_mem_nil) dX5_told_139
  by_cases k7_17 : p0 = 7
  · subst k7_17
    refine lv_tableIn (off := 139) (tgt := 140) hx hb dX5_told_1 (by decide) (by decide) (by decide) (by decide) ?_
    refine lv_aload_n hx hb dX5_told_140 rfl (lv_at hl 0 rfl) ?_
    refine va_get (D := D) (ci := 5) (v := .int 0) (C := RX5) (T := TX5) (N := 12) hx hb hts in_X5_told_X5 hown hK hP 0 rfl rfl 9 (by decide) (hts _ wd_X5_told_6) (fun _ h9 => h9) rfl dX5_told_141 ?_
    exact W.iret (v := 0) hx hb hr (fun t ht hW => ⟨_, rfl, (by first | rfl | decide | (unfold toldS; first | (simp []; done) | rfl)), ht⟩) (fun q hq => absurd hq List.not_mem_nil) dX5_told_144
  by_cases k8_18 : p0 = 8
  · subst k8_18
    refine lv_tableIn (off := 144) (tgt := 145) hx hb dX5_told_1 (by decide) (by decide) (by decide) (by decide) ?_
    refine lv_aload_n hx hb dX5_told_145 rfl (lv_at hl 0 rfl) ?_
    refine va_get (D := D) (ci := 5) (v := .ref tg) (C := RX5) (T := TX5) (N := 12) hx hb hts in_X5_told_X5 hown hK hP 0 rfl rfl 2 (by decide) (hts _ wd_X5_told_7) (fun _ h9 => h9) rfl dX5_told_146 ?_
    refine va_get (D := D) (ci := 0) (v := .int 0) (C := RX0) (T := TX0) (N := 2) hx hb hts in_X5_told_X0 hown hK hP 5 rfl rfl 1 (by decide) (hts _ wd_X5_told_8) (fun _ h9 => h9) rfl dX5_told_149 ?_
    exact W.iret (v := 0) hx hb hr (fun t ht hW => ⟨_, rfl, (by first | rfl | decide | (unfold toldS; first | (simp []; done) | rfl)), ht⟩) (fun q hq => absurd hq List.not_mem_nil) dX5_told_152
  refine lv_tableOut (tgt := 153) hx hb dX5_told_1 (by have := lv_neT k0_1 (a := 0) (by decide); have := lv_neT k1_2 (a := 1) (by decide); have := lv_neT k2_4 (a := 2) (by decide); have := lv_neT k3_7 (a := 3) (by decide); have := lv_neT k4_11 (a := 4) (by decide); have := lv_neT k5_14 (a := 5) (by decide); have := lv_neT k6_15 (a := 6) (by decide); have := lv_neT k7_17 (a := 7) (by decide); have := lv_neT k8_18 (a := 8) (by decide); omega) (by decide) ?_
  refine lv_iload_n hx hb dX5_told_153 rfl (lv_at hl 1 rfl) ?_
  refine lv_bipush (v := 10) hx hb dX5_told_154 (by decide) ?_
  refine lv_icmp_lt (tgt := 179) hx hb dX5_told_156 (by decide) (fun c156_19 => ?_) (fun c156_19 => ?_)
  · skip
    refine lv_sipush (v := (-1001)) hx hb dX5_told_179 (by decide) ?_
    exact W.iret (v := (-1001)) hx hb hr (fun t ht hW => ⟨_, rfl, (by first | rfl | decide | (unfold toldS; first | (simp [k0_1, k1_2, k2_4, k3_7, k4_11, k5_14, k6_15, k7_17, k8_18, c156_19]; done) | ((try first | rw [if_pos k0_1] | rw [if_neg k0_1]); (try first | rw [if_pos k1_2] | rw [if_neg k1_2]); (try first | rw [if_pos k2_4] | rw [if_neg k2_4]); (try first | rw [if_pos k3_7] | rw [if_neg k3_7]); (try first | rw [if_pos k4_11] | rw [if_neg k4_11]); (try first | rw [if_pos k5_14] | rw [if_neg k5_14]); (try first | rw [if_pos k6_15] | rw [if_neg k6_15]); (try first | rw [if_pos k7_17] | rw [if_neg k7_17]); (try first | rw [if_pos k8_18] | rw [if_neg k8_18]); (try first | rw [if_pos c156_19] | rw [if_neg c156_19]); first | done | rfl | trivial))), ht⟩) (fun q hq => absurd hq List.not_mem_nil) dX5_told_182
  · skip
    refine lv_iload_n hx hb dX5_told_159 rfl (lv_at hl 1 rfl) ?_
    refine lv_bipush (v := 22) hx hb dX5_told_160 (by decide) ?_
    refine lv_icmp_ge (tgt := 179) hx hb dX5_told_162 (by decide) (fun c162_20 => ?_) (fun c162_20 => ?_)
    · skip
      refine lv_sipush (v := (-1001)) hx hb dX5_told_179 (by decide) ?_
      exact W.iret (v := (-1001)) hx hb hr (fun t ht hW => ⟨_, rfl, (by first | rfl | decide | (unfold toldS; first | (simp [k0_1, k1_2, k2_4, k3_7, k4_11, k5_14, k6_15, k7_17, k8_18, c156_19, c162_20]; done) | ((try first | rw [if_pos k0_1] | rw [if_neg k0_1]); (try first | rw [if_pos k1_2] | rw [if_neg k1_2]); (try first | rw [if_pos k2_4] | rw [if_neg k2_4]); (try first | rw [if_pos k3_7] | rw [if_neg k3_7]); (try first | rw [if_pos k4_11] | rw [if_neg k4_11]); (try first | rw [if_pos k5_14] | rw [if_neg k5_14]); (try first | rw [if_pos k6_15] | rw [if_neg k6_15]); (try first | rw [if_pos k7_17] | rw [if_neg k7_17]); (try first | rw [if_pos k8_18] | rw [if_neg k8_18]); (try first | rw [if_pos c156_19] | rw [if_neg c156_19]); (try first | rw [if_pos c162_20] | rw [if_neg c162_20]); first | done | rfl | trivial))), ht⟩) (fun q hq => absurd hq List.not_mem_nil) dX5_told_182
    · skip
      refine lv_aload_n hx hb dX5_told_165 rfl (lv_at hl 0 rfl) ?_
      refine va_get (D := D) (ci := 5) (v := .ref th) (C := RX5) (T := TX5) (N := 12) hx hb hts in_X5_told_X5 hown hK hP 0 rfl rfl 4 (by decide) (hts _ wd_X5_told_0) (fun _ h9 => h9) rfl dX5_told_166 ?_
      refine lv_iload_n hx hb dX5_told_169 rfl (lv_at hl 1 rfl) ?_
      refine lv_bipush (v := 10) hx hb dX5_told_170 (by decide) ?_
      refine lv_isub hx hb dX5_told_172 ?_
      have hPc := hP.sub (ws' := [(th, .inr (1, [.ref uh, .int 0, .int 0, .int 0])), (uh, .inl (cI, 12, .inl (fun _ => 0)))]) [3, 4] rfl
      refine vp_callSi (W.runV (As := [.int (p0 - 10)]) (rest := []) ⟨hx, hb, hml, hown, hts⟩ (c_X1_card0 l D cI cJ cQ th uh (p0 - 10) (m10 c156_19 c162_20)) (cwV 1 hts gX5_told_X1_card rfl rfl rfl (by decide +kernel) ⟨Nat.le_of_ble_eq_true rfl, Nat.le_of_ble_eq_true rfl⟩) (rP_preV (ci := 1) (q0 := 0) hPc hK rfl rfl) rfl rfl hl.1 rfl (lv_room (Nat.le_of_ble_eq_true rfl)) dX5_told_173 ⟨Nat.le_of_ble_eq_true rfl, Nat.le_of_ble_eq_true rfl⟩) (fun r_21 hr_21 => ?_)
      subst hr_21
      refine lv_goto (tgt := 182) hx hb dX5_told_176 (by decide) ?_
      exact W.iret (v := (-1)) hx hb hr (fun t ht hW => ⟨_, rfl, (by first | rfl | decide | (unfold toldS; first | (simp [k0_1, k1_2, k2_4, k3_7, k4_11, k5_14, k6_15, k7_17, k8_18, c156_19, c162_20]; done) | ((try first | rw [if_pos k0_1] | rw [if_neg k0_1]); (try first | rw [if_pos k1_2] | rw [if_neg k1_2]); (try first | rw [if_pos k2_4] | rw [if_neg k2_4]); (try first | rw [if_pos k3_7] | rw [if_neg k3_7]); (try first | rw [if_pos k4_11] | rw [if_neg k4_11]); (try first | rw [if_pos k5_14] | rw [if_neg k5_14]); (try first | rw [if_pos k6_15] | rw [if_neg k6_15]); (try first | rw [if_pos k7_17] | rw [if_neg k7_17]); (try first | rw [if_pos k8_18] | rw [if_neg k8_18]); (try first | rw [if_pos c156_19] | rw [if_neg c156_19]); (try first | rw [if_pos c162_20] | rw [if_neg c162_20]); first | done | rfl | trivial))), ht⟩) (fun q hq => absurd hq List.not_mem_nil) dX5_told_182

set_option maxRecDepth 20000 in
theorem in_X5_settle_X5 : ∀ w ∈ wsX50, w ∈ wsX5_settle := by decide +kernel
set_option maxRecDepth 20000 in
theorem wd_X5_settle_0 : Cond.fieldLink RX5 32 "ShoeTable" "hand" "LShoeTable$Hand;" ∈ wsX5_settle := by decide +kernel
set_option maxRecDepth 20000 in
theorem in_X5_settle_X1 : ∀ w ∈ wsX10, w ∈ wsX5_settle := by decide +kernel
set_option maxRecDepth 20000 in
theorem wd_X5_settle_1 : Cond.fieldLink RX5 112 "ShoeTable$Hand" "size" "I" ∈ wsX5_settle := by decide +kernel
set_option maxHeartbeats 400000 in
set_option maxRecDepth 100000 in
/-- X5_settle -/
theorem c_X5_settle (l : Launch) (D : va_G) (cI cJ cQ : ClassId) (h0 : Nat) (tr : Nat) (tc : Nat) (tg : Nat) (tf : Nat) (th : Nat) (tm : Nat) (to : Nat) (tp : Nat) (uh : Nat)  : Met l yX5_settle wsX5_settle ({ frames := 0, cells := 0, slots := 0, locals := 0 }) (va_Pc [.ref h0] (rP D (gTy cI cJ cQ) [(h0, .inr (5, [.ref tr, .ref tc, .ref tg, .ref tf, .ref th, .ref tm, .ref to, .ref tp, .int (-1), .int 0, .long 1, .int 0])), (th, .inr (1, [.ref uh, .int 0, .int 0, .int 0]))])) (vp_Si (fun r => r = (-1002))) 0 0 (fun _ => False) := by
  refine Met.ofW (cc := cX5_settle) (maxL := 4) (ret := (some .int)) (by decide) rfl ?_
  intro p e s m args below meth c s₁ B hml hv
  obtain ⟨rfl, hP, hK⟩ := hv
  have hx := B.exec
  have hb := B.bytes
  have hr := B.returns
  have hts := atoms_spec (ws := wsX5_settle) B.pre
  have hown : s.vm.findClass RX5 = some m.cls := findClass_of_methodNamed B.named
  have hlocks := B.notSynchronized
  have hl := lv_entry ([.ref h0]) (n := 4) (Nat.le_of_ble_eq_true rfl)
  rw [lg_entry_eq]
  generalize (lg_sl ([.ref h0]) ++ List.replicate (4 - (lg_sl ([.ref h0])).length) Slot.unset).toArray = ls at hl ⊢
  have hl : lv_has ls 4 [(0, .ref h0)] := hl
  refine lv_aload_n hx hb dX5_settle_0 rfl (lv_at hl 0 rfl) ?_
  refine va_get (D := D) (ci := 5) (v := .ref th) (C := RX5) (T := TX5) (N := 12) hx hb hts in_X5_settle_X5 hown hK hP 0 rfl rfl 4 (by decide) (hts _ wd_X5_settle_0) (fun _ h9 => h9) rfl dX5_settle_1 ?_
  refine va_get (D := D) (ci := 1) (v := .int 0) (C := RX1) (T := TX1) (N := 4) hx hb hts in_X5_settle_X1 hown hK hP 1 rfl rfl 1 (by decide) (hts _ wd_X5_settle_1) (fun _ h9 => h9) rfl dX5_settle_4 ?_
  refine lv_if_eq (tgt := 18) hx hb dX5_settle_7 (by decide) (fun c7_1 => ?_) (fun c7_1 => ?_)
  · skip
    refine lv_sipush (v := (-1002)) hx hb dX5_settle_18 (by decide) ?_
    exact W.iret (v := (-1002)) hx hb hr (fun t ht hW => ⟨_, rfl, (by first | rfl | trivial | (simp [c7_1]; done) | ((try first | rw [if_pos c7_1] | rw [if_neg c7_1]); first | done | rfl | trivial) | (simp_all; done)), ht⟩) (fun q hq => absurd hq List.not_mem_nil) dX5_settle_21
  · exact absurd c7_1 (by decide)
