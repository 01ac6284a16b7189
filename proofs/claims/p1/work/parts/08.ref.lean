set_option maxRecDepth 20000 in
theorem wd_X6_init_0 : Cond.methodLink RX6 1 objectInit ∈ wsX6_init := by decide +kernel
set_option maxRecDepth 20000 in
theorem wd_X6_init_1 : Cond.instanceMethod objectInit ∈ wsX6_init := by decide +kernel
set_option maxRecDepth 20000 in
theorem wd_X6_init_2 : Cond.code objectInit ⟨#[0xb1]⟩ 1 none ∈ wsX6_init := by decide +kernel
set_option maxRecDepth 20000 in
theorem wd_X6_init_3 : Cond.arrayClass .int ∈ wsX6_init := by decide +kernel
set_option maxRecDepth 20000 in
theorem in_X6_init_X6 : ∀ w ∈ wsX60, w ∈ wsX6_init := by decide +kernel
set_option maxRecDepth 20000 in
theorem wd_X6_init_4 : Cond.fieldLink RX6 7 "ShoeTableModel" "shoe" "[I" ∈ wsX6_init := by decide +kernel
set_option maxRecDepth 20000 in
theorem wd_X6_init_5 : Cond.fieldLink RX6 13 "ShoeTableModel" "atFresh" "[I" ∈ wsX6_init := by decide +kernel
set_option maxRecDepth 20000 in
theorem wd_X6_init_6 : Cond.fieldLink RX6 16 "ShoeTableModel" "went" "[I" ∈ wsX6_init := by decide +kernel
set_option maxRecDepth 20000 in
theorem wd_X6_init_7 : Cond.fieldLink RX6 19 "ShoeTableModel" "marks" "[I" ∈ wsX6_init := by decide +kernel
set_option maxRecDepth 20000 in
theorem wd_X6_init_8 : Cond.fieldLink RX6 22 "ShoeTableModel" "hand" "[I" ∈ wsX6_init := by decide +kernel
set_option maxRecDepth 20000 in
theorem wd_X6_init_9 : Cond.fieldLink RX6 25 "ShoeTableModel" "target" "I" ∈ wsX6_init := by decide +kernel
set_option maxRecDepth 20000 in
theorem wd_X6_init_10 : Cond.fieldLink RX6 29 "ShoeTableModel" "stands" "I" ∈ wsX6_init := by decide +kernel
set_option maxRecDepth 20000 in
theorem wd_X6_init_11 : Cond.fieldLink RX6 32 "ShoeTableModel" "doubles" "I" ∈ wsX6_init := by decide +kernel
set_option maxRecDepth 20000 in
theorem wd_X6_init_12 : Cond.fieldLink RX6 35 "ShoeTableModel" "splits" "I" ∈ wsX6_init := by decide +kernel
set_option maxRecDepth 20000 in
theorem wd_X6_init_13 : Cond.fieldLink RX6 38 "ShoeTableModel" "gives" "I" ∈ wsX6_init := by decide +kernel
set_option maxRecDepth 20000 in
theorem wd_X6_init_14 : Cond.fieldLink RX6 41 "ShoeTableModel" "bonus" "I" ∈ wsX6_init := by decide +kernel
set_option maxRecDepth 20000 in
theorem wd_X6_init_15 : Cond.fieldLink RX6 44 "ShoeTableModel" "draw" "J" ∈ wsX6_init := by decide +kernel
set_option maxRecDepth 20000 in
theorem wd_X6_init_16 : Cond.arrayClass .long ∈ wsX6_init := by decide +kernel
set_option maxRecDepth 20000 in
theorem wd_X6_init_17 : Cond.fieldLink RX6 48 "ShoeTableModel" "orders" "[J" ∈ wsX6_init := by decide +kernel
set_option maxRecDepth 20000 in
theorem wd_X6_init_18 : Cond.fieldLink RX6 52 "ShoeTableModel" "cap" "[I" ∈ wsX6_init := by decide +kernel
set_option maxRecDepth 20000 in
theorem wd_X6_init_19 : Cond.fieldLink RX6 55 "ShoeTableModel" "step" "[I" ∈ wsX6_init := by decide +kernel
set_option maxRecDepth 20000 in
theorem wd_X6_init_20 : Cond.fieldLink RX6 58 "ShoeTableModel" "size" "[I" ∈ wsX6_init := by decide +kernel
set_option maxRecDepth 20000 in
theorem wd_X6_init_21 : Cond.fieldLink RX6 61 "ShoeTableModel" "points" "[I" ∈ wsX6_init := by decide +kernel
set_option maxRecDepth 20000 in
theorem wd_X6_init_22 : Cond.constant RX6 64 (105600) ∈ wsX6_init := by decide +kernel
set_option maxRecDepth 20000 in
theorem wd_X6_init_23 : Cond.fieldLink RX6 65 "ShoeTableModel" "house" "[J" ∈ wsX6_init := by decide +kernel
set_option maxRecDepth 20000 in
theorem wd_X6_init_24 : Cond.fieldLink RX6 68 "ShoeTableModel" "stand" "[J" ∈ wsX6_init := by decide +kernel
set_option maxRecDepth 20000 in
theorem wd_X6_init_25 : Cond.fieldLink RX6 71 "ShoeTableModel" "best" "[J" ∈ wsX6_init := by decide +kernel
set_option maxRecDepth 20000 in
theorem wd_X6_init_26 : Cond.fieldLink RX6 74 "ShoeTableModel" "ways" "[J" ∈ wsX6_init := by decide +kernel
set_option maxRecDepth 20000 in
theorem wd_X6_init_27 : Cond.fieldLink RX6 77 "ShoeTableModel" "taken" "[J" ∈ wsX6_init := by decide +kernel
set_option maxRecDepth 20000 in
theorem wd_X6_init_28 : Cond.fieldLink RX6 80 "ShoeTableModel" "nextWays" "[J" ∈ wsX6_init := by decide +kernel
set_option maxRecDepth 20000 in
theorem wd_X6_init_29 : Cond.fieldLink RX6 83 "ShoeTableModel" "nextTaken" "[J" ∈ wsX6_init := by decide +kernel
set_option maxHeartbeats 400000 in
set_option maxRecDepth 100000 in
/-- X6_init -/
theorem c_X6_init (l : Launch) (D : va_G) (cI cJ cQ : ClassId) (sz : Nat) (m0 : Nat)  : Met l yX6_init wsX6_init ({ frames := 1, cells := 17, slots := 117487, locals := 12 }) (va_Pc [.ref m0] (mP D (gTy cI cJ cQ) [(m0, .inr (6, [.null, .null, .null, .null, .int 0, .null, .int 0, .int 0, .int 0, .int 0, .int 0, .int 0, .int 0, .int 0, .int 0, .long 0, .int 0, .null, .null, .null, .int 0, .null, .null, .null, .null, .null, .int 0, .int 0, .int 0, .int 0, .int 0, .int 0, .int 0, .int 0, .int 0, .null, .null, .null, .null]))] sz)) (va_Qv (fun (u : Unit) => match u with | _ => True) (fun (u : Unit) t => match u with | _ => ∃ (ms mf mw mk mh q0 q1 q2 q3 q4 q5 q6 q7 k0 k1 k2 k3 : Nat), mB D (gTy cI cJ cQ) (va_A [(m0, .inr (6, [.null, .null, .null, .null, .int 0, .null, .int 0, .int 0, .int 0, .int 0, .int 0, .int 0, .int 0, .int 0, .int 0, .long 0, .int 0, .null, .null, .null, .int 0, .null, .null, .null, .null, .null, .int 0, .int 0, .int 0, .int 0, .int 0, .int 0, .int 0, .int 0, .int 0, .null, .null, .null, .null]))] sz) [(m0, .inr (6, [.ref ms, .ref mf, .ref mw, .ref mk, .int 0, .ref mh, .int 0, .int 0, .int 21, .int 17, .int 0, .int 1, .int 1, .int 1, .int 3, .long 1, .int 0, .ref q0, .ref q1, .ref q2, .int 0, .ref q3, .ref q4, .ref q5, .ref q6, .ref q7, .int 0, .int 0, .int 0, .int 0, .int 0, .int 0, .int 0, .int 0, .int 0, .ref k0, .ref k1, .ref k2, .ref k3])), (ms, .inl (cI, 11, .inl (fun _ => 0))), (mf, .inl (cI, 11, .inl (fun _ => 0))), (mw, .inl (cI, 11, .inl (fun _ => 0))), (mk, .inl (cI, 11, .inl (fun _ => 0))), (mh, .inl (cI, 12, .inl (fun _ => 0))), (k0, .inl (cJ, 549, .inr (.inl (fun _ => 0)))), (k1, .inl (cJ, 549, .inr (.inl (fun _ => 0)))), (k2, .inl (cJ, 549, .inr (.inl (fun _ => 0)))), (k3, .inl (cJ, 549, .inr (.inl (fun _ => 0))))] t) (va_A [(m0, .inr (6, [.null, .null, .null, .null, .int 0, .null, .int 0, .int 0, .int 0, .int 0, .int 0, .int 0, .int 0, .int 0, .int 0, .long 0, .int 0, .null, .null, .null, .int 0, .null, .null, .null, .null, .null, .int 0, .int 0, .int 0, .int 0, .int 0, .int 0, .int 0, .int 0, .int 0, .null, .null, .null, .null]))] sz)) 17 117487 (va_A [(m0, .inr (6, [.null, .null, .null, .null, .int 0, .null, .int 0, .int 0, .int 0, .int 0, .int 0, .int 0, .int 0, .int 0, .int 0, .long 0, .int 0, .null, .null, .null, .int 0, .null, .null, .null, .null, .null, .int 0, .int 0, .int 0, .int 0, .int 0, .int 0, .int 0, .int 0, .int 0, .null, .null, .null, .null]))] sz) := by
  refine Met.ofW (cc := cX6_init) (maxL := 4) (ret := none) (by decide) rfl ?_
  intro p e s m args below meth c s₁ B hml hv
  obtain ⟨rfl, hsz, hP, hK, hD0⟩ := hv
  have hx := B.exec
  have hb := B.bytes
  have hr := B.returns
  have hts := atoms_spec (ws := wsX6_init) B.pre
  have hown : s.vm.findClass RX6 = some m.cls := findClass_of_methodNamed B.named
  have hlocks := B.notSynchronized
  have hin : meth.name = "<init>" := (name_of_methodNamed B.named B.method).1
  subst hsz
  have hD := hD0.self (sz := s.heap.size)
  generalize hAe : va_A [(m0, .inr (6, [.null, .null, .null, .null, .int 0, .null, .int 0, .int 0, .int 0, .int 0, .int 0, .int 0, .int 0, .int 0, .int 0, .long 0, .int 0, .null, .null, .null, .int 0, .null, .null, .null, .null, .null, .int 0, .int 0, .int 0, .int 0, .int 0, .int 0, .int 0, .int 0, .int 0, .null, .null, .null, .null]))] s.heap.size = A at hD ⊢
  have hA : ∀ q : Nat, s.heap.size ≤ q → A q := fun q h => by rw [← hAe]; exact Or.inr h
  have hS : va_S A s.heap s.heap [] := va_S.rf
  have hP : va_P D vwCl [(m0, .inr (6, [.null, .null, .null, .null, .int 0, .null, .int 0, .int 0, .int 0, .int 0, .int 0, .int 0, .int 0, .int 0, .int 0, .long 0, .int 0, .null, .null, .null, .int 0, .null, .null, .null, .null, .null, .int 0, .int 0, .int 0, .int 0, .int 0, .int 0, .int 0, .int 0, .int 0, .null, .null, .null, .null]))] s.heap := hP
  have hl := lv_entry ([.ref m0]) (n := 4) (Nat.le_of_ble_eq_true rfl)
  rw [lg_entry_eq]
  generalize (lg_sl ([.ref m0]) ++ List.replicate (4 - (lg_sl ([.ref m0])).length) Slot.unset).toArray = ls at hl ⊢
  have hl : lv_has ls 4 [(0, .ref m0)] := hl
  refine lv_aload_n hx hb dX6_init_0 rfl (lv_at hl 0 rfl) ?_
  refine W.objInit hx hb hown (hts _ wd_X6_init_0) (hts _ wd_X6_init_1) (hts _ wd_X6_init_2) rfl (by rw [hml]; exact hl.1) rfl dX6_init_1 (Nat.le_of_ble_eq_true rfl) (Nat.le_of_ble_eq_true rfl) ?_
  refine W.eq (g2 := F0 m 4 ls []) rfl ?_
  refine lv_aload_n hx hb dX6_init_4 rfl (lv_at hl 0 rfl) ?_
  refine lv_bipush (v := 11) hx hb dX6_init_5 (by decide) ?_
  refine va_newa (atype := .int) (a0 := (11, .inl (fun _ => 0))) (ty := .int) (N' := 11) hx hb (hts _ wd_X6_init_3) rfl hK hP hD hS hA (fun cA => newI cA 11) (by decide) (by decide) (Nat.le_of_ble_eq_true rfl) (Nat.le_of_ble_eq_true rfl) (Nat.le_of_ble_eq_true rfl) dX6_init_7 (fun q_1 cA H hK0 hP hD hS => ?_)
  have ecA := va_Ksame (i := 0) (j := 3) hK0 rfl rfl
  subst ecA
  have hP : va_P D vwCl [(m0, .inr (6, [.null, .null, .null, .null, .int 0, .null, .int 0, .int 0, .int 0, .int 0, .int 0, .int 0, .int 0, .int 0, .int 0, .long 0, .int 0, .null, .null, .null, .int 0, .null, .null, .null, .null, .null, .int 0, .int 0, .int 0, .int 0, .int 0, .int 0, .int 0, .int 0, .int 0, .null, .null, .null, .null])), (q_1, .inl (cI, 11, .inl (fun _ => 0)))] H := hP
  have hD : va_D A [(m0, .inr (6, [.null, .null, .null, .null, .int 0, .null, .int 0, .int 0, .int 0, .int 0, .int 0, .int 0, .int 0, .int 0, .int 0, .long 0, .int 0, .null, .null, .null, .int 0, .null, .null, .null, .null, .null, .int 0, .int 0, .int 0, .int 0, .int 0, .int 0, .int 0, .int 0, .int 0, .null, .null, .null, .null])), (q_1, .inl (cI, 11, .inl (fun _ => 0)))] := hD
  refine W.widen (k := 1) (n := 11) (by omega) (by omega) ?_
  refine va_putF (D := D) (ci := 6) (v := .ref q_1) (ty := .array .int) (C := RX6) (T := TX6) (N := 39) hx hb hts in_X6_init_X6 tyX6 tyX6_ok nmX6 hown hK hP hD hS 0 rfl rfl 0 (by decide) (hts _ wd_X6_init_4) (fun _ h9 => h9) rfl hin rfl (by decide +kernel) rfl rfl (Nat.le_of_ble_eq_true rfl) dX6_init_9 (fun H locs hP hD hS => ?_)
  have hP : va_P D vwCl [(m0, .inr (6, [.ref q_1, .null, .null, .null, .int 0, .null, .int 0, .int 0, .int 0, .int 0, .int 0, .int 0, .int 0, .int 0, .int 0, .long 0, .int 0, .null, .null, .null, .int 0, .null, .null, .null, .null, .null, .int 0, .int 0, .int 0, .int 0, .int 0, .int 0, .int 0, .int 0, .int 0, .null, .null, .null, .null])), (q_1, .inl (cI, 11, .inl (fun _ => 0)))] H := hP
  have hD : va_D A [(m0, .inr (6, [.ref q_1, .null, .null, .null, .int 0, .null, .int 0, .int 0, .int 0, .int 0, .int 0, .int 0, .int 0, .int 0, .int 0, .long 0, .int 0, .null, .null, .null, .int 0, .null, .null, .null, .null, .null, .int 0, .int 0, .int 0, .int 0, .int 0, .int 0, .int 0, .int 0, .int 0, .null, .null, .null, .null])), (q_1, .inl (cI, 11, .inl (fun _ => 0)))] := hD
  refine lv_aload_n hx hb dX6_init_12 rfl (lv_at hl 0 rfl) ?_
  refine lv_bipush (v := 11) hx hb dX6_init_13 (by decide) ?_
  refine va_newa (atype := .int) (a0 := (11, .inl (fun _ => 0))) (ty := .int) (N' := 11) hx hb (hts _ wd_X6_init_3) rfl hK hP hD hS hA (fun cA => newI cA 11) (by decide) (by decide) (Nat.le_of_ble_eq_true rfl) (Nat.le_of_ble_eq_true rfl) (Nat.le_of_ble_eq_true rfl) dX6_init_15 (fun q_2 cA H hK0 hP hD hS => ?_)
  have ecA := va_Ksame (i := 0) (j := 3) hK0 rfl rfl
  subst ecA
  have hP : va_P D vwCl [(m0, .inr (6, [.ref q_1, .null, .null, .null, .int 0, .null, .int 0, .int 0, .int 0, .int 0, .int 0, .int 0, .int 0, .int 0, .int 0, .long 0, .int 0, .null, .null, .null, .int 0, .null, .null, .null, .null, .null, .int 0, .int 0, .int 0, .int 0, .int 0, .int 0, .int 0, .int 0, .int 0, .null, .null, .null, .null])), (q_1, .inl (cI, 11, .inl (fun _ => 0))), (q_2, .inl (cI, 11, .inl (fun _ => 0)))] H := hP
  have hD : va_D A [(m0, .inr (6, [.ref q_1, .null, .null, .null, .int 0, .null, .int 0, .int 0, .int 0, .int 0, .int 0, .int 0, .int 0, .int 0, .int 0, .long 0, .int 0, .null, .null, .null, .int 0, .null, .null, .null, .null, .null, .int 0, .int 0, .int 0, .int 0, .int 0, .int 0, .int 0, .int 0, .int 0, .null, .null, .null, .null])), (q_1, .inl (cI, 11, .inl (fun _ => 0))), (q_2, .inl (cI, 11, .inl (fun _ => 0)))] := hD
  refine W.widen (k := 2) (n := 22) (by omega) (by omega) ?_
  refine va_putF (D := D) (ci := 6) (v := .ref q_2) (ty := .array .int) (C := RX6) (T := TX6) (N := 39) hx hb hts in_X6_init_X6 tyX6 tyX6_ok nmX6 hown hK hP hD hS 0 rfl rfl 1 (by decide) (hts _ wd_X6_init_5) (fun _ h9 => h9) rfl hin rfl (by decide +kernel) rfl rfl (Nat.le_of_ble_eq_true rfl) dX6_init_17 (fun H locs hP hD hS => ?_)
  have hP : va_P D vwCl [(m0, .inr (6, [.ref q_1, .ref q_2, .null, .null, .int 0, .null, .int 0, .int 0, .int 0, .int 0, .int 0, .int 0, .int 0, .int 0, .int 0, .long 0, .int 0, .null, .null, .null, .int 0, .null, .null, .null, .null, .null, .int 0, .int 0, .int 0, .int 0, .int 0, .int 0, .int 0, .int 0, .int 0, .null, .null, .null, .null])), (q_1, .inl (cI, 11, .inl (fun _ => 0))), (q_2, .inl (cI, 11, .inl (fun _ => 0)))] H := hP
  have hD : va_D A [(m0, .inr (6, [.ref q_1, .ref q_2, .null, .null, .int 0, .null, .int 0, .int 0, .int 0, .int 0, .int 0, .int 0, .int 0, .int 0, .int 0, .long 0, .int 0, .null, .null, .null, .int 0, .null, .null, .null, .null, .null, .int 0, .int 0, .int 0, .int 0, .int 0, .int 0, .int 0, .int 0, .int 0, .null, .null, .null, .null])), (q_1, .inl (cI, 11, .inl (fun _ => 0))), (q_2, .inl (cI, 11, .inl (fun _ => 0)))] := hD
  refine lv_aload_n hx hb dX6_init_20 rfl (lv_at hl 0 rfl) ?_
  refine lv_bipush (v := 11) hx hb dX6_init_21 (by decide) ?_
  refine va_newa (atype := .int) (a0 := (11, .inl (fun _ => 0))) (ty := .int) (N' := 11) hx hb (hts _ wd_X6_init_3) rfl hK hP hD hS hA (fun cA => newI cA 11) (by decide) (by decide) (Nat.le_of_ble_eq_true rfl) (Nat.le_of_ble_eq_true rfl) (Nat.le_of_ble_eq_true rfl) dX6_init_23 (fun q_3 cA H hK0 hP hD hS => ?_)
  have ecA := va_Ksame (i := 0) (j := 3) hK0 rfl rfl
  subst ecA
  have hP : va_P D vwCl [(m0, .inr (6, [.ref q_1, .ref q_2, .null, .null, .int 0, .null, .int 0, .int 0, .int 0, .int 0, .int 0, .int 0, .int 0, .int 0, .int 0, .long 0, .int 0, .null, .null, .null, .int 0, .null, .null, .null, .null, .null, .int 0, .int 0, .int 0, .int 0, .int 0, .int 0, .int 0, .int 0, .int 0, .null, .null, .null, .null])), (q_1, .inl (cI, 11, .inl (fun _ => 0))), (q_2, .inl (cI, 11, .inl (fun _ => 0))), (q_3, .inl (cI, 11, .inl (fun _ => 0)))] H := hP
  have hD : va_D A [(m0, .inr (6, [.ref q_1, .ref q_2, .null, .null, .int 0, .null, .int 0, .int 0, .int 0, .int 0, .int 0, .int 0, .int 0, .int 0, .int 0, .long 0, .int 0, .null, .null, .null, .int 0, .null, .null, .null, .null, .null, .int 0, .int 0, .int 0, .int 0, .int 0, .int 0, .int 0, .int 0, .int 0, .null, .null, .null, .null])), (q_1, .inl (cI, 11, .inl (fun _ => 0))), (q_2, .inl (cI, 11, .inl (fun _ => 0))), (q_3, .inl (cI, 11, .inl (fun _ => 0)))] := hD
  refine W.widen (k := 3) (n := 33) (by omega) (by omega) ?_
  refine va_putF (D := D) (ci := 6) (v := .ref q_3) (ty := .array .int) (C := RX6) (T := TX6) (N := 39) hx hb hts in_X6_init_X6 tyX6 tyX6_ok nmX6 hown hK hP hD hS 0 rfl rfl 2 (by decide) (hts _ wd_X6_init_6) (fun _ h9 => h9) rfl hin rfl (by decide +kernel) rfl rfl (Nat.le_of_ble_eq_true rfl) dX6_init_25 (fun H locs hP hD hS => ?_)
  have hP : va_P D vwCl [(m0, .inr (6, [.ref q_1, .ref q_2, .ref q_3, .null, .int 0, .null, .int 0, .int 0, .int 0, .int 0, .int 0, .int 0, .int 0, .int 0, .int 0, .long 0, .int 0, .null, .null, .null, .int 0, .null, .null, .null, .null, .null, .int 0, .int 0, .int 0, .int 0, .int 0, .int 0, .int 0, .int 0, .int 0, .null, .null, .null, .null])), (q_1, .inl (cI, 11, .inl (fun _ => 0))), (q_2, .inl (cI, 11, .inl (fun _ => 0))), (q_3, .inl (cI, 11, .inl (fun _ => 0)))] H := hP
  have hD : va_D A [(m0, .inr (6, [.ref q_1, .ref q_2, .ref q_3, .null, .int 0, .null, .int 0, .int 0, .int 0, .int 0, .int 0, .int 0, .int 0, .int 0, .int 0, .long 0, .int 0, .null, .null, .null, .int 0, .null, .null, .null, .null, .null, .int 0, .int 0, .int 0, .int 0, .int 0, .int 0, .int 0, .int 0, .int 0, .null, .null, .null, .null])), (q_1, .inl (cI, 11, .inl (fun _ => 0))), (q_2, .inl (cI, 11, .inl (fun _ => 0))), (q_3, .inl (cI, 11, .inl (fun _ => 0)))] := hD
  refine lv_aload_n hx hb dX6_init_28 rfl (lv_at hl 0 rfl) ?_
  refine lv_bipush (v := 11) hx hb dX6_init_29 (by decide) ?_
  refine va_newa (atype := .int) (a0 := (11, .inl (fun _ => 0))) (ty := .int) (N' := 11) hx hb (hts _ wd_X6_init_3) rfl hK hP hD hS hA (fun cA => newI cA 11) (by decide) (by decide) (Nat.le_of_ble_eq_true rfl) (Nat.le_of_ble_eq_true rfl) (Nat.le_of_ble_eq_true rfl) dX6_init_31 (fun q_4 cA H hK0 hP hD hS => ?_)
  have ecA := va_Ksame (i := 0) (j := 3) hK0 rfl rfl
  subst ecA
  have hP : va_P D vwCl [(m0, .inr (6, [.ref q_1, .ref q_2, .ref q_3, .null, .int 0, .null, .int 0, .int 0, .int 0, .int 0, .int 0, .int 0, .int 0, .int 0, .int 0, .long 0, .int 0, .null, .null, .null, .int 0, .null, .null, .null, .null, .null, .int 0, .int 0, .int 0, .int 0, .int 0, .int 0, .int 0, .int 0, .int 0, .null, .null, .null, .null])), (q_1, .inl (cI, 11, .inl (fun _ => 0))), (q_2, .inl (cI, 11, .inl (fun _ => 0))), (q_3, .inl (cI, 11, .inl (fun _ => 0))), (q_4, .inl (cI, 11, .inl (fun _ => 0)))] H := hP
  have hD : va_D A [(m0, .inr (6, [.ref q_1, .ref q_2, .ref q_3, .null, .int 0, .null, .int 0, .int 0, .int 0, .int 0, .int 0, .int 0, .int 0, .int 0, .int 0, .long 0, .int 0, .null, .null, .null, .int 0, .null, .null, .null, .null, .null, .int 0, .int 0, .int 0, .int 0, .int 0, .int 0, .int 0, .int 0, .int 0, .null, .null, .null, .null])), (q_1, .inl (cI, 11, .inl (fun _ => 0))), (q_2, .inl (cI, 11, .inl (fun _ => 0))), (q_3, .inl (cI, 11, .inl (fun _ => 0))), (q_4, .inl (cI, 11, .inl (fun _ => 0)))] := hD
  refine W.widen (k := 4) (n := 44) (by omega) (by omega) ?_
  refine va_putF (D := D) (ci := 6) (v := .ref q_4) (ty := .array .int) (C := RX6) (T := TX6) (N := 39) hx hb hts in_X6_init_X6 tyX6 tyX6_ok nmX6 hown hK hP hD hS 0 rfl rfl 3 (by decide) (hts _ wd_X6_init_7) (fun _ h9 => h9) rfl hin rfl (by decide +kernel) rfl rfl (Nat.le_of_ble_eq_true rfl) dX6_init_33 (fun H locs hP hD hS => ?_)
  have hP : va_P D vwCl [(m0, .inr (6, [.ref q_1, .ref q_2, .ref q_3, .ref q_4, .int 0, .null, .int 0, .int 0, .int 0, .int 0, .int 0, .int 0, .int 0, .int 0, .int 0, .long 0, .int 0, .null, .null, .null, .int 0, .null, .null, .null, .null, .null, .int 0, .int 0, .int 0, .int 0, .int 0, .int 0, .int 0, .int 0, .int 0, .null, .null, .null, .null])), (q_1, .inl (cI, 11, .inl (fun _ => 0))), (q_2, .inl (cI, 11, .inl (fun _ => 0))), (q_3, .inl (cI, 11, .inl (fun _ => 0))), (q_4, .inl (cI, 11, .inl (fun _ => 0)))] H := hP
  have hD : va_D A [(m0, .inr (6, [.ref q_1, .ref q_2, .ref q_3, .ref q_4, .int 0, .null, .int 0, .int 0, .int 0, .int 0, .int 0, .int 0, .int 0, .int 0, .int 0, .long 0, .int 0, .null, .null, .null, .int 0, .null, .null, .null, .null, .null, .int 0, .int 0, .int 0, .int 0, .int 0, .int 0, .int 0, .int 0, .int 0, .null, .null, .null, .null])), (q_1, .inl (cI, 11, .inl (fun _ => 0))), (q_2, .inl (cI, 11, .inl (fun _ => 0))), (q_3, .inl (cI, 11, .inl (fun _ => 0))), (q_4, .inl (cI, 11, .inl (fun _ => 0)))] := hD
  refine lv_aload_n hx hb dX6_init_36 rfl (lv_at hl 0 rfl) ?_
  refine lv_bipush (v := 12) hx hb dX6_init_37 (by decide) ?_
  refine va_newa (atype := .int) (a0 := (12, .inl (fun _ => 0))) (ty := .int) (N' := 12) hx hb (hts _ wd_X6_init_3) rfl hK hP hD hS hA (fun cA => newI cA 12) (by decide) (by decide) (Nat.le_of_ble_eq_true rfl) (Nat.le_of_ble_eq_true rfl) (Nat.le_of_ble_eq_true rfl) dX6_init_39 (fun q_5 cA H hK0 hP hD hS => ?_)
  have ecA := va_Ksame (i := 0) (j := 3) hK0 rfl rfl
  subst ecA
  have hP : va_P D vwCl [(m0, .inr (6, [.ref q_1, .ref q_2, .ref q_3, .ref q_4, .int 0, .null, .int 0, .int 0, .int 0, .int 0, .int 0, .int 0, .int 0, .int 0, .int 0, .long 0, .int 0, .null, .null, .null, .int 0, .null, .null, .null, .null, .null, .int 0, .int 0, .int 0, .int 0, .int 0, .int 0, .int 0, .int 0, .int 0, .null, .null, .null, .null])), (q_1, .inl (cI, 11, .inl (fun _ => 0))), (q_2, .inl (cI, 11, .inl (fun _ => 0))), (q_3, .inl (cI, 11, .inl (fun _ => 0))), (q_4, .inl (cI, 11, .inl (fun _ => 0))), (q_5, .inl (cI, 12, .inl (fun _ => 0)))] H := hP
  have hD : va_D A [(m0, .inr (6, [.ref q_1, .ref q_2, .ref q_3, .ref q_4, .int 0, .null, .int 0, .int 0, .int 0, .int 0, .int 0, .int 0, .int 0, .int 0, .int 0, .long 0, .int 0, .null, .null, .null, .int 0, .null, .null, .null, .null, .null, .int 0, .int 0, .int 0, .int 0, .int 0, .int 0, .int 0, .int 0, .int 0, .null, .null, .null, .null])), (q_1, .inl (cI, 11, .inl (fun _ => 0))), (q_2, .inl (cI, 11, .inl (fun _ => 0))), (q_3, .inl (cI, 11, .inl (fun _ => 0))), (q_4, .inl (cI, 11, .inl (fun _ => 0))), (q_5, .inl (cI, 12, .inl (fun _ => 0)))] := hD
  refine W.widen (k := 5) (n := 56) (by omega) (by omega) ?_
  refine va_putF (D := D) (ci := 6) (v := .ref q_5) (ty := .array .int) (C := RX6) (T := TX6) (N := 39) hx hb hts in_X6_init_X6 tyX6 tyX6_ok nmX6 hown hK hP hD hS 0 rfl rfl 5 (by decide) (hts _ wd_X6_init_8) (fun _ h9 => h9) rfl hin rfl (by decide +kernel) rfl rfl (Nat.le_of_ble_eq_true rfl) dX6_init_41 (fun H locs hP hD hS => ?_)
  have hP : va_P D vwCl [(m0, .inr (6, [.ref q_1, .ref q_2, .ref q_3, .ref q_4, .int 0, .ref q_5, .int 0, .int 0, .int 0, .int 0, .int 0, .int 0, .int 0, .int 0, .int 0, .long 0, .int 0, .null, .null, .null, .int 0, .null, .null, .null, .null, .null, .int 0, .int 0, .int 0, .int 0, .int 0, .int 0, .int 0, .int 0, .int 0, .null, .null, .null, .null])), (q_1, .inl (cI, 11, .inl (fun _ => 0))), (q_2, .inl (cI, 11, .inl (fun _ => 0))), (q_3, .inl (cI, 11, .inl (fun _ => 0))), (q_4, .inl (cI, 11, .inl (fun _ => 0))), (q_5, .inl (cI, 12, .inl (fun _ => 0)))] H := hP
  have hD : va_D A [(m0, .inr (6, [.ref q_1, .ref q_2, .ref q_3, .ref q_4, .int 0, .ref q_5, .int 0, .int 0, .int 0, .int 0, .int 0, .int 0, .int 0, .int 0, .int 0, .long 0, .int 0, .null, .null, .null, .int 0, .null, .null, .null, .null, .null, .int 0, .int 0, .int 0, .int 0, .int 0, .int 0, .int 0, .int 0, .int 0, .null, .null, .null, .null])), (q_1, .inl (cI, 11, .inl (fun _ => 0))), (q_2, .inl (cI, 11, .inl (fun _ => 0))), (q_3, .inl (cI, 11, .inl (fun _ => 0))), (q_4, .inl (cI, 11, .inl (fun _ => 0))), (q_5, .inl (cI, 12, .inl (fun _ => 0)))] := hD
  refine lv_aload_n hx hb dX6_init_44 rfl (lv_at hl 0 rfl) ?_
  refine lv_bipush (v := 21) hx hb dX6_init_45 (by decide) ?_
  refine va_put (D := D) (ci := 6) (v := .int 21) (ty := .int) (C := RX6) (T := TX6) (N := 39) hx hb hts in_X6_init_X6 tyX6 tyX6_ok nmX6 hown hK hP hD hS 0 rfl rfl 8 (by decide) (hts _ wd_X6_init_9) (fun _ h9 => h9) rfl (by decide +kernel) rfl rfl (Nat.le_of_ble_eq_true rfl) dX6_init_47 (fun H locs hP hD hS => ?_)
  have hP : va_P D vwCl [(m0, .inr (6, [.ref q_1, .ref q_2, .ref q_3, .ref q_4, .int 0, .ref q_5, .int 0, .int 0, .int 21, .int 0, .int 0, .int 0, .int 0, .int 0, .int 0, .long 0, .int 0, .null, .null, .null, .int 0, .null, .null, .null, .null, .null, .int 0, .int 0, .int 0, .int 0, .int 0, .int 0, .int 0, .int 0, .int 0, .null, .null, .null, .null])), (q_1, .inl (cI, 11, .inl (fun _ => 0))), (q_2, .inl (cI, 11, .inl (fun _ => 0))), (q_3, .inl (cI, 11, .inl (fun _ => 0))), (q_4, .inl (cI, 11, .inl (fun _ => 0))), (q_5, .inl (cI, 12, .inl (fun _ => 0)))] H := hP
  have hD : va_D A [(m0, .inr (6, [.ref q_1, .ref q_2, .ref q_3, .ref q_4, .int 0, .ref q_5, .int 0, .int 0, .int 21, .int 0, .int 0, .int 0, .int 0, .int 0, .int 0, .long 0, .int 0, .null, .null, .null, .int 0, .null, .null, .null, .null, .null, .int 0, .int 0, .int 0, .int 0, .int 0, .int 0, .int 0, .int 0, .int 0, .null, .null, .null, .null])), (q_1, .inl (cI, 11, .inl (fun _ => 0))), (q_2, .inl (cI, 11, .inl (fun _ => 0))), (q_3, .inl (cI, 11, .inl (fun _ => 0))), (q_4, .inl (cI, 11, .inl (fun _ => 0))), (q_5, .inl (cI, 12, .inl (fun _ => 0)))] := hD
  refine lv_aload_n hx hb dX6_init_50 rfl (lv_at hl 0 rfl) ?_
  refine lv_bipush (v := 17) hx hb dX6_init_51 (by decide) ?_
  refine va_put (D := D) (ci := 6) (v := .int 17) (ty := .int) (C := RX6) (T := TX6) (N := 39) hx hb hts in_X6_init_X6 tyX6 tyX6_ok nmX6 hown hK hP hD hS 0 rfl rfl 9 (by decide) (hts _ wd_X6_init_10) (fun _ h9 => h9) rfl (by decide +kernel) rfl rfl (Nat.le_of_ble_eq_true rfl) dX6_init_53 (fun H locs hP hD hS => ?_)
  have hP : va_P D vwCl [(m0, .inr (6, [.ref q_1, .ref q_2, .ref q_3, .ref q_4, .int 0, .ref q_5, .int 0, .int 0, .int 21, .int 17, .int 0, .int 0, .int 0, .int 0, .int 0, .long 0, .int 0, .null, .null, .null, .int 0, .null, .null, .null, .null, .null, .int 0, .int 0, .int 0, .int 0, .int 0, .int 0, .int 0, .int 0, .int 0, .null, .null, .null, .null])), (q_1, .inl (cI, 11, .inl (fun _ => 0))), (q_2, .inl (cI, 11, .inl (fun _ => 0))), (q_3, .inl (cI, 11, .inl (fun _ => 0))), (q_4, .inl (cI, 11, .inl (fun _ => 0))), (q_5, .inl (cI, 12, .inl (fun _ => 0)))] H := hP
  have hD : va_D A [(m0, .inr (6, [.ref q_1, .ref q_2, .ref q_3, .ref q_4, .int 0, .ref q_5, .int 0, .int 0, .int 21, .int 17, .int 0, .int 0, .int 0, .int 0, .int 0, .long 0, .int 0, .null, .null, .null, .int 0, .null, .null, .null, .null, .null, .int 0, .int 0, .int 0, .int 0, .int 0, .int 0, .int 0, .int 0, .int 0, .null, .null, .null, .null])), (q_1, .inl (cI, 11, .inl (fun _ => 0))), (q_2, .inl (cI, 11, .inl (fun _ => 0))), (q_3, .inl (cI, 11, .inl (fun _ => 0))), (q_4, .inl (cI, 11, .inl (fun _ => 0))), (q_5, .inl (cI, 12, .inl (fun _ => 0)))] := hD
  refine lv_aload_n hx hb dX6_init_56 rfl (lv_at hl 0 rfl) ?_
  refine lv_iconst (v := 1) hx hb dX6_init_57 (by decide) ?_
  refine va_put (D := D) (ci := 6) (v := .int 1) (ty := .int) (C := RX6) (T := TX6) (N := 39) hx hb hts in_X6_init_X6 tyX6 tyX6_ok nmX6 hown hK hP hD hS 0 rfl rfl 11 (by decide) (hts _ wd_X6_init_11) (fun _ h9 => h9) rfl (by decide +kernel) rfl rfl (Nat.le_of_ble_eq_true rfl) dX6_init_58 (fun H locs hP hD hS => ?_)
  have hP : va_P D vwCl [(m0, .inr (6, [.ref q_1, .ref q_2, .ref q_3, .ref q_4, .int 0, .ref q_5, .int 0, .int 0, .int 21, .int 17, .int 0, .int 1, .int 0, .int 0, .int 0, .long 0, .int 0, .null, .null, .null, .int 0, .null, .null, .null, .null, .null, .int 0, .int 0, .int 0, .int 0, .int 0, .int 0, .int 0, .int 0, .int 0, .null, .null, .null, .null])), (q_1, .inl (cI, 11, .inl (fun _ => 0))), (q_2, .inl (cI, 11, .inl (fun _ => 0))), (q_3, .inl (cI, 11, .inl (fun _ => 0))), (q_4, .inl (cI, 11, .inl (fun _ => 0))), (q_5, .inl (cI, 12, .inl (fun _ => 0)))] H := hP
  have hD : va_D A [(m0, .inr (6, [.ref q_1, .ref q_2, .ref q_3, .ref q_4, .int 0, .ref q_5, .int 0, .int 0, .int 21, .int 17, .int 0, .int 1, .int 0, .int 0, .int 0, .long 0, .int 0, .null, .null, .null, .int 0, .null, .null, .null, .null, .null, .int 0, .int 0, .int 0, .int 0, .int 0, .int 0, .int 0, .int 0, .int 0, .null, .null, .null, .null])), (q_1, .inl (cI, 11, .inl (fun _ => 0))), (q_2, .inl (cI, 11, .inl (fun _ => 0))), (q_3, .inl (cI, 11, .inl (fun _ => 0))), (q_4, .inl (cI, 11, .inl (fun _ => 0))), (q_5, .inl (cI, 12, .inl (fun _ => 0)))] := hD
  refine lv_aload_n hx hb dX6_init_61 rfl (lv_at hl 0 rfl) ?_
  refine lv_iconst (v := 1) hx hb dX6_init_62 (by decide) ?_
  refine va_put (D := D) (ci := 6) (v := .int 1) (ty := .int) (C := RX6) (T := TX6) (N := 39) hx hb hts in_X6_init_X6 tyX6 tyX6_ok nmX6 hown hK hP hD hS 0 rfl rfl 12 (by decide) (hts _ wd_X6_init_12) (fun _ h9 => h9) rfl (by decide +kernel) rfl rfl (Nat.le_of_ble_eq_true rfl) dX6_init_63 (fun H locs hP hD hS => ?_)
  have hP : va_P D vwCl [(m0, .inr (6, [.ref q_1, .ref q_2, .ref q_3, .ref q_4, .int 0, .ref q_5, .int 0, .int 0, .int 21, .int 17, .int 0, .int 1, .int 1, .int 0, .int 0, .long 0, .int 0, .null, .null, .null, .int 0, .null, .null, .null, .null, .null, .int 0, .int 0, .int 0, .int 0, .int 0, .int 0, .int 0, .int 0, .int 0, .null, .null, .null, .null])), (q_1, .inl (cI, 11, .inl (fun _ => 0))), (q_2, .inl (cI, 11, .inl (fun _ => 0))), (q_3, .inl (cI, 11, .inl (fun _ => 0))), (q_4, .inl (cI, 11, .inl (fun _ => 0))), (q_5, .inl (cI, 12, .inl (fun _ => 0)))] H := hP
  have hD : va_D A [(m0, .inr (6, [.ref q_1, .ref q_2, .ref q_3, .ref q_4, .int 0, .ref q_5, .int 0, .int 0, .int 21, .int 17, .int 0, .int 1, .int 1, .int 0, .int 0, .long 0, .int 0, .null, .null, .null, .int 0, .null, .null, .null, .null, .null, .int 0, .int 0, .int 0, .int 0, .int 0, .int 0, .int 0, .int 0, .int 0, .null, .null, .null, .null])), (q_1, .inl (cI, 11, .inl (fun _ => 0))), (q_2, .inl (cI, 11, .inl (fun _ => 0))), (q_3, .inl (cI, 11, .inl (fun _ => 0))), (q_4, .inl (cI, 11, .inl (fun _ => 0))), (q_5, .inl (cI, 12, .inl (fun _ => 0)))] := hD
  refine lv_aload_n hx hb dX6_init_66 rfl (lv_at hl 0 rfl) ?_
  refine lv_iconst (v := 1) hx hb dX6_init_67 (by decide) ?_
  refine va_put (D := D) (ci := 6) (v := .int 1) (ty := .int) (C := RX6) (T := TX6) (N := 39) hx hb hts in_X6_init_X6 tyX6 tyX6_ok nmX6 hown hK hP hD hS 0 rfl rfl 13 (by decide) (hts _ wd_X6_init_13) (fun _ h9 => h9) rfl (by decide +kernel) rfl rfl (Nat.le_of_ble_eq_true rfl) dX6_init_68 (fun H locs hP hD hS => ?_)
  have hP : va_P D vwCl [(m0, .inr (6, [.ref q_1, .ref q_2, .ref q_3, .ref q_4, .int 0, .ref q_5, .int 0, .int 0, .int 21, .int 17, .int 0, .int 1, .int 1, .int 1, .int 0, .long 0, .int 0, .null, .null, .null, .int 0, .null, .null, .null, .null, .null, .int 0, .int 0, .int 0, .int 0, .int 0, .int 0, .int 0, .int 0, .int 0, .null, .null, .null, .null])), (q_1, .inl (cI, 11, .inl (fun _ => 0))), (q_2, .inl (cI, 11, .inl (fun _ => 0))), (q_3, .inl (cI, 11, .inl (fun _ => 0))), (q_4, .inl (cI, 11, .inl (fun _ => 0))), (q_5, .inl (cI, 12, .inl (fun _ => 0)))] H := hP
  have hD : va_D A [(m0, .inr (6, [.ref q_1, .ref q_2, .ref q_3, .ref q_4, .int 0, .ref q_5, .int 0, .int 0, .int 21, .int 17, .int 0, .int 1, .int 1, .int 1, .int 0, .long 0, .int 0, .null, .null, .null, .int 0, .null, .null, .null, .null, .null, .int 0, .int 0, .int 0, .int 0, .int 0, .int 0, .int 0, .int 0, .int 0, .null, .null, .null, .null])), (q_1, .inl (cI, 11, .inl (fun _ => 0))), (q_2, .inl (cI, 11, .inl (fun _ => 0))), (q_3, .inl (cI, 11, .inl (fun _ => 0))), (q_4, .inl (cI, 11, .inl (fun _ => 0))), (q_5, .inl (cI, 12, .inl (fun _ => 0)))] := hD
  refine lv_aload_n hx hb dX6_init_71 rfl (lv_at hl 0 rfl) ?_
  refine lv_iconst (v := 3) hx hb dX6_init_72 (by decide) ?_
  refine va_put (D := D) (ci := 6) (v := .int 3) (ty := .int) (C := RX6) (T := TX6) (N := 39) hx hb hts in_X6_init_X6 tyX6 tyX6_ok nmX6 hown hK hP hD hS 0 rfl rfl 14 (by decide) (hts _ wd_X6_init_14) (fun _ h9 => h9) rfl (by decide +kernel) rfl rfl (Nat.le_of_ble_eq_true rfl) dX6_init_73 (fun H locs hP hD hS => ?_)
  have hP : va_P D vwCl [(m0, .inr (6, [.ref q_1, .ref q_2, .ref q_3, .ref q_4, .int 0, .ref q_5, .int 0, .int 0, .int 21, .int 17, .int 0, .int 1, .int 1, .int 1, .int 3, .long 0, .int 0, .null, .null, .null, .int 0, .null, .null, .null, .null, .null, .int 0, .int 0, .int 0, .int 0, .int 0, .int 0, .int 0, .int 0, .int 0, .null, .null, .null, .null])), (q_1, .inl (cI, 11, .inl (fun _ => 0))), (q_2, .inl (cI, 11, .inl (fun _ => 0))), (q_3, .inl (cI, 11, .inl (fun _ => 0))), (q_4, .inl (cI, 11, .inl (fun _ => 0))), (q_5, .inl (cI, 12, .inl (fun _ => 0)))] H := hP
  have hD : va_D A [(m0, .inr (6, [.ref q_1, .ref q_2, .ref q_3, .ref q_4, .int 0, .ref q_5, .int 0, .int 0, .int 21, .int 17, .int 0, .int 1, .int 1, .int 1, .int 3, .long 0, .int 0, .null, .null, .null, .int 0, .null, .null, .null, .null, .null, .int 0, .int 0, .int 0, .int 0, .int 0, .int 0, .int 0, .int 0, .int 0, .null, .null, .null, .null])), (q_1, .inl (cI, 11, .inl (fun _ => 0))), (q_2, .inl (cI, 11, .inl (fun _ => 0))), (q_3, .inl (cI, 11, .inl (fun _ => 0))), (q_4, .inl (cI, 11, .inl (fun _ => 0))), (q_5, .inl (cI, 12, .inl (fun _ => 0)))] := hD
  refine lv_aload_n hx hb dX6_init_76 rfl (lv_at hl 0 rfl) ?_
  refine lv_lconst (v := 1) hx hb dX6_init_77 (by decide) ?_
  refine va_put (D := D) (ci := 6) (v := .long 1) (ty := .long) (C := RX6) (T := TX6) (N := 39) hx hb hts in_X6_init_X6 tyX6 tyX6_ok nmX6 hown hK hP hD hS 0 rfl rfl 15 (by decide) (hts _ wd_X6_init_15) (fun _ h9 => h9) rfl (by decide +kernel) rfl rfl (Nat.le_of_ble_eq_true rfl) dX6_init_78 (fun H locs hP hD hS => ?_)
  have hP : va_P D vwCl [(m0, .inr (6, [.ref q_1, .ref q_2, .ref q_3, .ref q_4, .int 0, .ref q_5, .int 0, .int 0, .int 21, .int 17, .int 0, .int 1, .int 1, .int 1, .int 3, .long 1, .int 0, .null, .null, .null, .int 0, .null, .null, .null, .null, .null, .int 0, .int 0, .int 0, .int 0, .int 0, .int 0, .int 0, .int 0, .int 0, .null, .null, .null, .null])), (q_1, .inl (cI, 11, .inl (fun _ => 0))), (q_2, .inl (cI, 11, .inl (fun _ => 0))), (q_3, .inl (cI, 11, .inl (fun _ => 0))), (q_4, .inl (cI, 11, .inl (fun _ => 0))), (q_5, .inl (cI, 12, .inl (fun _ => 0)))] H := hP
  have hD : va_D A [(m0, .inr (6, [.ref q_1, .ref q_2, .ref q_3, .ref q_4, .int 0, .ref q_5, .int 0, .int 0, .int 21, .int 17, .int 0, .int 1, .int 1, .int 1, .int 3, .long 1, .int 0, .null, .null, .null, .int 0, .null, .null, .null, .null, .null, .int 0, .int 0, .int 0, .int 0, .int 0, .int 0, .int 0, .int 0, .int 0, .null, .null, .null, .null])), (q_1, .inl (cI, 11, .inl (fun _ => 0))), (q_2, .inl (cI, 11, .inl (fun _ => 0))), (q_3, .inl (cI, 11, .inl (fun _ => 0))), (q_4, .inl (cI, 11, .inl (fun _ => 0))), (q_5, .inl (cI, 12, .inl (fun _ => 0)))] := hD
  refine lv_aload_n hx hb dX6_init_81 rfl (lv_at hl 0 rfl) ?_
  refine lv_bipush (v := 13) hx hb dX6_init_82 (by decide) ?_
  refine va_newa (atype := .long) (a0 := (13, .inr (.inl (fun _ => 0)))) (ty := .long) (N' := 13) hx hb (hts _ wd_X6_init_16) rfl hK hP hD hS hA (fun cA => newL cA 13) (by decide) (by decide) (Nat.le_of_ble_eq_true rfl) (Nat.le_of_ble_eq_true rfl) (Nat.le_of_ble_eq_true rfl) dX6_init_84 (fun q_6 cA H hK0 hP hD hS => ?_)
  have ecA := va_Ksame (i := 1) (j := 3) hK0 rfl rfl
  subst ecA
  have hP : va_P D vwCl [(m0, .inr (6, [.ref q_1, .ref q_2, .ref q_3, .ref q_4, .int 0, .ref q_5, .int 0, .int 0, .int 21, .int 17, .int 0, .int 1, .int 1, .int 1, .int 3, .long 1, .int 0, .null, .null, .null, .int 0, .null, .null, .null, .null, .null, .int 0, .int 0, .int 0, .int 0, .int 0, .int 0, .int 0, .int 0, .int 0, .null, .null, .null, .null])), (q_1, .inl (cI, 11, .inl (fun _ => 0))), (q_2, .inl (cI, 11, .inl (fun _ => 0))), (q_3, .inl (cI, 11, .inl (fun _ => 0))), (q_4, .inl (cI, 11, .inl (fun _ => 0))), (q_5, .inl (cI, 12, .inl (fun _ => 0))), (q_6, .inl (cJ, 13, .inr (.inl (fun _ => 0))))] H := hP
  have hD : va_D A [(m0, .inr (6, [.ref q_1, .ref q_2, .ref q_3, .ref q_4, .int 0, .ref q_5, .int 0, .int 0, .int 21, .int 17, .int 0, .int 1, .int 1, .int 1, .int 3, .long 1, .int 0, .null, .null, .null, .int 0, .null, .null, .null, .null, .null, .int 0, .int 0, .int 0, .int 0, .int 0, .int 0, .int 0, .int 0, .int 0, .null, .null, .null, .null])), (q_1, .inl (cI, 11, .inl (fun _ => 0))), (q_2, .inl (cI, 11, .inl (fun _ => 0))), (q_3, .inl (cI, 11, .inl (fun _ => 0))), (q_4, .inl (cI, 11, .inl (fun _ => 0))), (q_5, .inl (cI, 12, .inl (fun _ => 0))), (q_6, .inl (cJ, 13, .inr (.inl (fun _ => 0))))] := hD
  refine W.widen (k := 6) (n := 69) (by omega) (by omega) ?_
  refine va_putF (D := D) (ci := 6) (v := .ref q_6) (ty := .array .long) (C := RX6) (T := TX6) (N := 39) hx hb hts in_X6_init_X6 tyX6 tyX6_ok nmX6 hown hK hP hD hS 0 rfl rfl 17 (by decide) (hts _ wd_X6_init_17) (fun _ h9 => h9) rfl hin rfl (by decide +kernel) rfl rfl (Nat.le_of_ble_eq_true rfl) dX6_init_86 (fun H locs hP hD hS => ?_)
  have hP : va_P D vwCl [(m0, .inr (6, [.ref q_1, .ref q_2, .ref q_3, .ref q_4, .int 0, .ref q_5, .int 0, .int 0, .int 21, .int 17, .int 0, .int 1, .int 1, .int 1, .int 3, .long 1, .int 0, .ref q_6, .null, .null, .int 0, .null, .null, .null, .null, .null, .int 0, .int 0, .int 0, .int 0, .int 0, .int 0, .int 0, .int 0, .int 0, .null, .null, .null, .null])), (q_1, .inl (cI, 11, .inl (fun _ => 0))), (q_2, .inl (cI, 11, .inl (fun _ => 0))), (q_3, .inl (cI, 11, .inl (fun _ => 0))), (q_4, .inl (cI, 11, .inl (fun _ => 0))), (q_5, .inl (cI, 12, .inl (fun _ => 0))), (q_6, .inl (cJ, 13, .inr (.inl (fun _ => 0))))] H := hP
  have hD : va_D A [(m0, .inr (6, [.ref q_1, .ref q_2, .ref q_3, .ref q_4, .int 0, .ref q_5, .int 0, .int 0, .int 21, .int 17, .int 0, .int 1, .int 1, .int 1, .int 3, .long 1, .int 0, .ref q_6, .null, .null, .int 0, .null, .null, .null, .null, .null, .int 0, .int 0, .int 0, .int 0, .int 0, .int 0, .int 0, .int 0, .int 0, .null, .null, .null, .null])), (q_1, .inl (cI, 11, .inl (fun _ => 0))), (q_2, .inl (cI, 11, .inl (fun _ => 0))), (q_3, .inl (cI, 11, .inl (fun _ => 0))), (q_4, .inl (cI, 11, .inl (fun _ => 0))), (q_5, .inl (cI, 12, .inl (fun _ => 0))), (q_6, .inl (cJ, 13, .inr (.inl (fun _ => 0))))] := hD
  refine lv_aload_n hx hb dX6_init_89 rfl (lv_at hl 0 rfl) ?_
  refine lv_bipush (v := 11) hx hb dX6_init_90 (by decide) ?_
  refine va_newa (atype := .int) (a0 := (11, .inl (fun _ => 0))) (ty := .int) (N' := 11) hx hb (hts _ wd_X6_init_3) rfl hK hP hD hS hA (fun cA => newI cA 11) (by decide) (by decide) (Nat.le_of_ble_eq_true rfl) (Nat.le_of_ble_eq_true rfl) (Nat.le_of_ble_eq_true rfl) dX6_init_92 (fun q_7 cA H hK0 hP hD hS => ?_)
  have ecA := va_Ksame (i := 0) (j := 3) hK0 rfl rfl
  subst ecA
  have hP : va_P D vwCl [(m0, .inr (6, [.ref q_1, .ref q_2, .ref q_3, .ref q_4, .int 0, .ref q_5, .int 0, .int 0, .int 21, .int 17, .int 0, .int 1, .int 1, .int 1, .int 3, .long 1, .int 0, .ref q_6, .null, .null, .int 0, .null, .null, .null, .null, .null, .int 0, .int 0, .int 0, .int 0, .int 0, .int 0, .int 0, .int 0, .int 0, .null, .null, .null, .null])), (q_1, .inl (cI, 11, .inl (fun _ => 0))), (q_2, .inl (cI, 11, .inl (fun _ => 0))), (q_3, .inl (cI, 11, .inl (fun _ => 0))), (q_4, .inl (cI, 11, .inl (fun _ => 0))), (q_5, .inl (cI, 12, .inl (fun _ => 0))), (q_6, .inl (cJ, 13, .inr (.inl (fun _ => 0)))), (q_7, .inl (cI, 11, .inl (fun _ => 0)))] H := hP
  have hD : va_D A [(m0, .inr (6, [.ref q_1, .ref q_2, .ref q_3, .ref q_4, .int 0, .ref q_5, .int 0, .int 0, .int 21, .int 17, .int 0, .int 1, .int 1, .int 1, .int 3, .long 1, .int 0, .ref q_6, .null, .null, .int 0, .null, .null, .null, .null, .null, .int 0, .int 0, .int 0, .int 0, .int 0, .int 0, .int 0, .int 0, .int 0, .null, .null, .null, .null])), (q_1, .inl (cI, 11, .inl (fun _ => 0))), (q_2, .inl (cI, 11, .inl (fun _ => 0))), (q_3, .inl (cI, 11, .inl (fun _ => 0))), (q_4, .inl (cI, 11, .inl (fun _ => 0))), (q_5, .inl (cI, 12, .inl (fun _ => 0))), (q_6, .inl (cJ, 13, .inr (.inl (fun _ => 0)))), (q_7, .inl (cI, 11, .inl (fun _ => 0)))] := hD
  refine W.widen (k := 7) (n := 80) (by omega) (by omega) ?_
  refine va_putF (D := D) (ci := 6) (v := .ref q_7) (ty := .array .int) (C := RX6) (T := TX6) (N := 39) hx hb hts in_X6_init_X6 tyX6 tyX6_ok nmX6 hown hK hP hD hS 0 rfl rfl 18 (by decide) (hts _ wd_X6_init_18) (fun _ h9 => h9) rfl hin rfl (by decide +kernel) rfl rfl (Nat.le_of_ble_eq_true rfl) dX6_init_94 (fun H locs hP hD hS => ?_)
  have hP : va_P D vwCl [(m0, .inr (6, [.ref q_1, .ref q_2, .ref q_3, .ref q_4, .int 0, .ref q_5, .int 0, .int 0, .int 21, .int 17, .int 0, .int 1, .int 1, .int 1, .int 3, .long 1, .int 0, .ref q_6, .ref q_7, .null, .int 0, .null, .null, .null, .null, .null, .int 0, .int 0, .int 0, .int 0, .int 0, .int 0, .int 0, .int 0, .int 0, .null, .null, .null, .null])), (q_1, .inl (cI, 11, .inl (fun _ => 0))), (q_2, .inl (cI, 11, .inl (fun _ => 0))), (q_3, .inl (cI, 11, .inl (fun _ => 0))), (q_4, .inl (cI, 11, .inl (fun _ => 0))), (q_5, .inl (cI, 12, .inl (fun _ => 0))), (q_6, .inl (cJ, 13, .inr (.inl (fun _ => 0)))), (q_7, .inl (cI, 11, .inl (fun _ => 0)))] H := hP
  have hD : va_D A [(m0, .inr (6, [.ref q_1, .ref q_2, .ref q_3, .ref q_4, .int 0, .ref q_5, .int 0, .int 0, .int 21, .int 17, .int 0, .int 1, .int 1, .int 1, .int 3, .long 1, .int 0, .ref q_6, .ref q_7, .null, .int 0, .null, .null, .null, .null, .null, .int 0, .int 0, .int 0, .int 0, .int 0, .int 0, .int 0, .int 0, .int 0, .null, .null, .null, .null])), (q_1, .inl (cI, 11, .inl (fun _ => 0))), (q_2, .inl (cI, 11, .inl (fun _ => 0))), (q_3, .inl (cI, 11, .inl (fun _ => 0))), (q_4, .inl (cI, 11, .inl (fun _ => 0))), (q_5, .inl (cI, 12, .inl (fun _ => 0))), (q_6, .inl (cJ, 13, .inr (.inl (fun _ => 0)))), (q_7, .inl (cI, 11, .inl (fun _ => 0)))] := hD
  refine lv_aload_n hx hb dX6_init_97 rfl (lv_at hl 0 rfl) ?_
  refine lv_bipush (v := 11) hx hb dX6_init_98 (by decide) ?_
  refine va_newa (atype := .int) (a0 := (11, .inl (fun _ => 0))) (ty := .int) (N' := 11) hx hb (hts _ wd_X6_init_3) rfl hK hP hD hS hA (fun cA => newI cA 11) (by decide) (by decide) (Nat.le_of_ble_eq_true rfl) (Nat.le_of_ble_eq_true rfl) (Nat.le_of_ble_eq_true rfl) dX6_init_100 (fun q_8 cA H hK0 hP hD hS => ?_)
  have ecA := va_Ksame (i := 0) (j := 3) hK0 rfl rfl
  subst ecA
  have hP : va_P D vwCl [(m0, .inr (6, [.ref q_1, .ref q_2, .ref q_3, .ref q_4, .int 0, .ref q_5, .int 0, .int 0, .int 21, .int 17, .int 0, .int 1, .int 1, .int 1, .int 3, .long 1, .int 0, .ref q_6, .ref q_7, .null, .int 0, .null, .null, .null, .null, .null, .int 0, .int 0, .int 0, .int 0, .int 0, .int 0, .int 0, .int 0, .int 0, .null, .null, .null, .null])), (q_1, .inl (cI, 11, .inl (fun _ => 0))), (q_2, .inl (cI, 11, .inl (fun _ => 0))), (q_3, .inl (cI, 11, .inl (fun _ => 0))), (q_4, .inl (cI, 11, .inl (fun _ => 0))), (q_5, .inl (cI, 12, .inl (fun _ => 0))), (q_6, .inl (cJ, 13, .inr (.inl (fun _ => 0)))), (q_7, .inl (cI, 11, .inl (fun _ => 0))), (q_8, .inl (cI, 11, .inl (fun _ => 0)))] H := hP
  have hD : va_D A [(m0, .inr (6, [.ref q_1, .ref q_2, .ref q_3, .ref q_4, .int 0, .ref q_5, .int 0, .int 0, .int 21, .int 17, .int 0, .int 1, .int 1, .int 1, .int 3, .long 1, .int 0, .ref q_6, .ref q_7, .null, .int 0, .null, .null, .null, .null, .null, .int 0, .int 0, .int 0, .int 0, .int 0, .int 0, .int 0, .int 0, .int 0, .null, .null, .null, .null])), (q_1, .inl (cI, 11, .inl (fun _ => 0))), (q_2, .inl (cI, 11, .inl (fun _ => 0))), (q_3, .inl (cI, 11, .inl (fun _ => 0))), (q_4, .inl (cI, 11, .inl (fun _ => 0))), (q_5, .inl (cI, 12, .inl (fun _ => 0))), (q_6, .inl (cJ, 13, .inr (.inl (fun _ => 0)))), (q_7, .inl (cI, 11, .inl (fun _ => 0))), (q_8, .inl (cI, 11, .inl (fun _ => 0)))] := hD
  refine W.widen (k := 8) (n := 91) (by omega) (by omega) ?_
  refine va_putF (D := D) (ci := 6) (v := .ref q_8) (ty := .array .int) (C := RX6) (T := TX6) (N := 39) hx hb hts in_X6_init_X6 tyX6 tyX6_ok nmX6 hown hK hP hD hS 0 rfl rfl 19 (by decide) (hts _ wd_X6_init_19) (fun _ h9 => h9) rfl hin rfl (by decide +kernel) rfl rfl (Nat.le_of_ble_eq_true rfl) dX6_init_102 (fun H locs hP hD hS => ?_)
  have hP : va_P D vwCl [(m0, .inr (6, [.ref q_1, .ref q_2, .ref q_3, .ref q_4, .int 0, .ref q_5, .int 0, .int 0, .int 21, .int 17, .int 0, .int 1, .int 1, .int 1, .int 3, .long 1, .int 0, .ref q_6, .ref q_7, .ref q_8, .int 0, .null, .null, .null, .null, .null, .int 0, .int 0, .int 0, .int 0, .int 0, .int 0, .int 0, .int 0, .int 0, .null, .null, .null, .null])), (q_1, .inl (cI, 11, .inl (fun _ => 0))), (q_2, .inl (cI, 11, .inl (fun _ => 0))), (q_3, .inl (cI, 11, .inl (fun _ => 0))), (q_4, .inl (cI, 11, .inl (fun _ => 0))), (q_5, .inl (cI, 12, .inl (fun _ => 0))), (q_6, .inl (cJ, 13, .inr (.inl (fun _ => 0)))), (q_7, .inl (cI, 11, .inl (fun _ => 0))), (q_8, .inl (cI, 11, .inl (fun _ => 0)))] H := hP
  have hD : va_D A [(m0, .inr (6, [.ref q_1, .ref q_2, .ref q_3, .ref q_4, .int 0, .ref q_5, .int 0, .int 0, .int 21, .int 17, .int 0, .int 1, .int 1, .int 1, .int 3, .long 1, .int 0, .ref q_6, .ref q_7, .ref q_8, .int 0, .null, .null, .null, .null, .null, .int 0, .int 0, .int 0, .int 0, .int 0, .int 0, .int 0, .int 0, .int 0, .null, .null, .null, .null])), (q_1, .inl (cI, 11, .inl (fun _ => 0))), (q_2, .inl (cI, 11, .inl (fun _ => 0))), (q_3, .inl (cI, 11, .inl (fun _ => 0))), (q_4, .inl (cI, 11, .inl (fun _ => 0))), (q_5, .inl (cI, 12, .inl (fun _ => 0))), (q_6, .inl (cJ, 13, .inr (.inl (fun _ => 0)))), (q_7, .inl (cI, 11, .inl (fun _ => 0))), (q_8, .inl (cI, 11, .inl (fun _ => 0)))] := hD
  refine lv_aload_n hx hb dX6_init_105 rfl (lv_at hl 0 rfl) ?_
  refine lv_sipush (v := 2400) hx hb dX6_init_106 (by decide) ?_
  refine va_newa (atype := .int) (a0 := (2400, .inl (fun _ => 0))) (ty := .int) (N' := 2400) hx hb (hts _ wd_X6_init_3) rfl hK hP hD hS hA (fun cA => newI cA 2400) (by decide) (by decide) (Nat.le_of_ble_eq_true rfl) (Nat.le_of_ble_eq_true rfl) (Nat.le_of_ble_eq_true rfl) dX6_init_109 (fun q_9 cA H hK0 hP hD hS => ?_)
  have ecA := va_Ksame (i := 0) (j := 3) hK0 rfl rfl
  subst ecA
  have hP : va_P D vwCl [(m0, .inr (6, [.ref q_1, .ref q_2, .ref q_3, .ref q_4, .int 0, .ref q_5, .int 0, .int 0, .int 21, .int 17, .int 0, .int 1, .int 1, .int 1, .int 3, .long 1, .int 0, .ref q_6, .ref q_7, .ref q_8, .int 0, .null, .null, .null, .null, .null, .int 0, .int 0, .int 0, .int 0, .int 0, .int 0, .int 0, .int 0, .int 0, .null, .null, .null, .null])), (q_1, .inl (cI, 11, .inl (fun _ => 0))), (q_2, .inl (cI, 11, .inl (fun _ => 0))), (q_3, .inl (cI, 11, .inl (fun _ => 0))), (q_4, .inl (cI, 11, .inl (fun _ => 0))), (q_5, .inl (cI, 12, .inl (fun _ => 0))), (q_6, .inl (cJ, 13, .inr (.inl (fun _ => 0)))), (q_7, .inl (cI, 11, .inl (fun _ => 0))), (q_8, .inl (cI, 11, .inl (fun _ => 0))), (q_9, .inl (cI, 2400, .inl (fun _ => 0)))] H := hP
  have hD : va_D A [(m0, .inr (6, [.ref q_1, .ref q_2, .ref q_3, .ref q_4, .int 0, .ref q_5, .int 0, .int 0, .int 21, .int 17, .int 0, .int 1, .int 1, .int 1, .int 3, .long 1, .int 0, .ref q_6, .ref q_7, .ref q_8, .int 0, .null, .null, .null, .null, .null, .int 0, .int 0, .int 0, .int 0, .int 0, .int 0, .int 0, .int 0, .int 0, .null, .null, .null, .null])), (q_1, .inl (cI, 11, .inl (fun _ => 0))), (q_2, .inl (cI, 11, .inl (fun _ => 0))), (q_3, .inl (cI, 11, .inl (fun _ => 0))), (q_4, .inl (cI, 11, .inl (fun _ => 0))), (q_5, .inl (cI, 12, .inl (fun _ => 0))), (q_6, .inl (cJ, 13, .inr (.inl (fun _ => 0)))), (q_7, .inl (cI, 11, .inl (fun _ => 0))), (q_8, .inl (cI, 11, .inl (fun _ => 0))), (q_9, .inl (cI, 2400, .inl (fun _ => 0)))] := hD
  refine W.widen (k := 9) (n := 2491) (by omega) (by omega) ?_
  refine va_putF (D := D) (ci := 6) (v := .ref q_9) (ty := .array .int) (C := RX6) (T := TX6) (N := 39) hx hb hts in_X6_init_X6 tyX6 tyX6_ok nmX6 hown hK hP hD hS 0 rfl rfl 21 (by decide) (hts _ wd_X6_init_20) (fun _ h9 => h9) rfl hin rfl (by decide +kernel) rfl rfl (Nat.le_of_ble_eq_true rfl) dX6_init_111 (fun H locs hP hD hS => ?_)
  have hP : va_P D vwCl [(m0, .inr (6, [.ref q_1, .ref q_2, .ref q_3, .ref q_4, .int 0, .ref q_5, .int 0, .int 0, .int 21, .int 17, .int 0, .int 1, .int 1, .int 1, .int 3, .long 1, .int 0, .ref q_6, .ref q_7, .ref q_8, .int 0, .ref q_9, .null, .null, .null, .null, .int 0, .int 0, .int 0, .int 0, .int 0, .int 0, .int 0, .int 0, .int 0, .null, .null, .null, .null])), (q_1, .inl (cI, 11, .inl (fun _ => 0))), (q_2, .inl (cI, 11, .inl (fun _ => 0))), (q_3, .inl (cI, 11, .inl (fun _ => 0))), (q_4, .inl (cI, 11, .inl (fun _ => 0))), (q_5, .inl (cI, 12, .inl (fun _ => 0))), (q_6, .inl (cJ, 13, .inr (.inl (fun _ => 0)))), (q_7, .inl (cI, 11, .inl (fun _ => 0))), (q_8, .inl (cI, 11, .inl (fun _ => 0))), (q_9, .inl (cI, 2400, .inl (fun _ => 0)))] H := hP
  have hD : va_D A [(m0, .inr (6, [.ref q_1, .ref q_2, .ref q_3, .ref q_4, .int 0, .ref q_5, .int 0, .int 0, .int 21, .int 17, .int 0, .int 1, .int 1, .int 1, .int 3, .long 1, .int 0, .ref q_6, .ref q_7, .ref q_8, .int 0, .ref q_9, .null, .null, .null, .null, .int 0, .int 0, .int 0, .int 0, .int 0, .int 0, .int 0, .int 0, .int 0, .null, .null, .null, .null])), (q_1, .inl (cI, 11, .inl (fun _ => 0))), (q_2, .inl (cI, 11, .inl (fun _ => 0))), (q_3, .inl (cI, 11, .inl (fun _ => 0))), (q_4, .inl (cI, 11, .inl (fun _ => 0))), (q_5, .inl (cI, 12, .inl (fun _ => 0))), (q_6, .inl (cJ, 13, .inr (.inl (fun _ => 0)))), (q_7, .inl (cI, 11, .inl (fun _ => 0))), (q_8, .inl (cI, 11, .inl (fun _ => 0))), (q_9, .inl (cI, 2400, .inl (fun _ => 0)))] := hD
  refine lv_aload_n hx hb dX6_init_114 rfl (lv_at hl 0 rfl) ?_
  refine lv_sipush (v := 2400) hx hb dX6_init_115 (by decide) ?_
  refine va_newa (atype := .int) (a0 := (2400, .inl (fun _ => 0))) (ty := .int) (N' := 2400) hx hb (hts _ wd_X6_init_3) rfl hK hP hD hS hA (fun cA => newI cA 2400) (by decide) (by decide) (Nat.le_of_ble_eq_true rfl) (Nat.le_of_ble_eq_true rfl) (Nat.le_of_ble_eq_true rfl) dX6_init_118 (fun q_10 cA H hK0 hP hD hS => ?_)
  have ecA := va_Ksame (i := 0) (j := 3) hK0 rfl rfl
  subst ecA
  have hP : va_P D vwCl [(m0, .inr (6, [.ref q_1, .ref q_2, .ref q_3, .ref q_4, .int 0, .ref q_5, .int 0, .int 0, .int 21, .int 17, .int 0, .int 1, .int 1, .int 1, .int 3, .long 1, .int 0, .ref q_6, .ref q_7, .ref q_8, .int 0, .ref q_9, .null, .null, .null, .null, .int 0, .int 0, .int 0, .int 0, .int 0, .int 0, .int 0, .int 0, .int 0, .null, .null, .null, .null])), (q_1, .inl (cI, 11, .inl (fun _ => 0))), (q_2, .inl (cI, 11, .inl (fun _ => 0))), (q_3, .inl (cI, 11, .inl (fun _ => 0))), (q_4, .inl (cI, 11, .inl (fun _ => 0))), (q_5, .inl (cI, 12, .inl (fun _ => 0))), (q_6, .inl (cJ, 13, .inr (.inl (fun _ => 0)))), (q_7, .inl (cI, 11, .inl (fun _ => 0))), (q_8, .inl (cI, 11, .inl (fun _ => 0))), (q_9, .inl (cI, 2400, .inl (fun _ => 0))), (q_10, .inl (cI, 2400, .inl (fun _ => 0)))] H := hP
  have hD : va_D A [(m0, .inr (6, [.ref q_1, .ref q_2, .ref q_3, .ref q_4, .int 0, .ref q_5, .int 0, .int 0, .int 21, .int 17, .int 0, .int 1, .int 1, .int 1, .int 3, .long 1, .int 0, .ref q_6, .ref q_7, .ref q_8, .int 0, .ref q_9, .null, .null, .null, .null, .int 0, .int 0, .int 0, .int 0, .int 0, .int 0, .int 0, .int 0, .int 0, .null, .null, .null, .null])), (q_1, .inl (cI, 11, .inl (fun _ => 0))), (q_2, .inl (cI, 11, .inl (fun _ => 0))), (q_3, .inl (cI, 11, .inl (fun _ => 0))), (q_4, .inl (cI, 11, .inl (fun _ => 0))), (q_5, .inl (cI, 12, .inl (fun _ => 0))), (q_6, .inl (cJ, 13, .inr (.inl (fun _ => 0)))), (q_7, .inl (cI, 11, .inl (fun _ => 0))), (q_8, .inl (cI, 11, .inl (fun _ => 0))), (q_9, .inl (cI, 2400, .inl (fun _ => 0))), (q_10, .inl (cI, 2400, .inl (fun _ => 0)))] := hD
  refine W.widen (k := 10) (n := 4891) (by omega) (by omega) ?_
  refine va_putF (D := D) (ci := 6) (v := .ref q_10) (ty := .array .int) (C := RX6) (T := TX6) (N := 39) hx hb hts in_X6_init_X6 tyX6 tyX6_ok nmX6 hown hK hP hD hS 0 rfl rfl 22 (by decide) (hts _ wd_X6_init_21) (fun _ h9 => h9) rfl hin rfl (by decide +kernel) rfl rfl (Nat.le_of_ble_eq_true rfl) dX6_init_120 (fun H locs hP hD hS => ?_)
  have hP : va_P D vwCl [(m0, .inr (6, [.ref q_1, .ref q_2, .ref q_3, .ref q_4, .int 0, .ref q_5, .int 0, .int 0, .int 21, .int 17, .int 0, .int 1, .int 1, .int 1, .int 3, .long 1, .int 0, .ref q_6, .ref q_7, .ref q_8, .int 0, .ref q_9, .ref q_10, .null, .null, .null, .int 0, .int 0, .int 0, .int 0, .int 0, .int 0, .int 0, .int 0, .int 0, .null, .null, .null, .null])), (q_1, .inl (cI, 11, .inl (fun _ => 0))), (q_2, .inl (cI, 11, .inl (fun _ => 0))), (q_3, .inl (cI, 11, .inl (fun _ => 0))), (q_4, .inl (cI, 11, .inl (fun _ => 0))), (q_5, .inl (cI, 12, .inl (fun _ => 0))), (q_6, .inl (cJ, 13, .inr (.inl (fun _ => 0)))), (q_7, .inl (cI, 11, .inl (fun _ => 0))), (q_8, .inl (cI, 11, .inl (fun _ => 0))), (q_9, .inl (cI, 2400, .inl (fun _ => 0))), (q_10, .inl (cI, 2400, .inl (fun _ => 0)))] H := hP
  have hD : va_D A [(m0, .inr (6, [.ref q_1, .ref q_2, .ref q_3, .ref q_4, .int 0, .ref q_5, .int 0, .int 0, .int 21, .int 17, .int 0, .int 1, .int 1, .int 1, .int 3, .long 1, .int 0, .ref q_6, .ref q_7, .ref q_8, .int 0, .ref q_9, .ref q_10, .null, .null, .null, .int 0, .int 0, .int 0, .int 0, .int 0, .int 0, .int 0, .int 0, .int 0, .null, .null, .null, .null])), (q_1, .inl (cI, 11, .inl (fun _ => 0))), (q_2, .inl (cI, 11, .inl (fun _ => 0))), (q_3, .inl (cI, 11, .inl (fun _ => 0))), (q_4, .inl (cI, 11, .inl (fun _ => 0))), (q_5, .inl (cI, 12, .inl (fun _ => 0))), (q_6, .inl (cJ, 13, .inr (.inl (fun _ => 0)))), (q_7, .inl (cI, 11, .inl (fun _ => 0))), (q_8, .inl (cI, 11, .inl (fun _ => 0))), (q_9, .inl (cI, 2400, .inl (fun _ => 0))), (q_10, .inl (cI, 2400, .inl (fun _ => 0)))] := hD
  refine lv_aload_n hx hb dX6_init_123 rfl (lv_at hl 0 rfl) ?_
  refine lv_ldc hx hb hown (hts _ wd_X6_init_22) dX6_init_124 ?_
  refine va_newa (atype := .long) (a0 := (105600, .inr (.inl (fun _ => 0)))) (ty := .long) (N' := 105600) hx hb (hts _ wd_X6_init_16) rfl hK hP hD hS hA (fun cA => newL cA 105600) (by decide) (by decide) (Nat.le_of_ble_eq_true rfl) (Nat.le_of_ble_eq_true rfl) (Nat.le_of_ble_eq_true rfl) dX6_init_126 (fun q_11 cA H hK0 hP hD hS => ?_)
  have ecA := va_Ksame (i := 1) (j := 3) hK0 rfl rfl
  subst ecA
  have hP : va_P D vwCl [(m0, .inr (6, [.ref q_1, .ref q_2, .ref q_3, .ref q_4, .int 0, .ref q_5, .int 0, .int 0, .int 21, .int 17, .int 0, .int 1, .int 1, .int 1, .int 3, .long 1, .int 0, .ref q_6, .ref q_7, .ref q_8, .int 0, .ref q_9, .ref q_10, .null, .null, .null, .int 0, .int 0, .int 0, .int 0, .int 0, .int 0, .int 0, .int 0, .int 0, .null, .null, .null, .null])), (q_1, .inl (cI, 11, .inl (fun _ => 0))), (q_2, .inl (cI, 11, .inl (fun _ => 0))), (q_3, .inl (cI, 11, .inl (fun _ => 0))), (q_4, .inl (cI, 11, .inl (fun _ => 0))), (q_5, .inl (cI, 12, .inl (fun _ => 0))), (q_6, .inl (cJ, 13, .inr (.inl (fun _ => 0)))), (q_7, .inl (cI, 11, .inl (fun _ => 0))), (q_8, .inl (cI, 11, .inl (fun _ => 0))), (q_9, .inl (cI, 2400, .inl (fun _ => 0))), (q_10, .inl (cI, 2400, .inl (fun _ => 0))), (q_11, .inl (cJ, 105600, .inr (.inl (fun _ => 0))))] H := hP
  have hD : va_D A [(m0, .inr (6, [.ref q_1, .ref q_2, .ref q_3, .ref q_4, .int 0, .ref q_5, .int 0, .int 0, .int 21, .int 17, .int 0, .int 1, .int 1, .int 1, .int 3, .long 1, .int 0, .ref q_6, .ref q_7, .ref q_8, .int 0, .ref q_9, .ref q_10, .null, .null, .null, .int 0, .int 0, .int 0, .int 0, .int 0, .int 0, .int 0, .int 0, .int 0, .null, .null, .null, .null])), (q_1, .inl (cI, 11, .inl (fun _ => 0))), (q_2, .inl (cI, 11, .inl (fun _ => 0))), (q_3, .inl (cI, 11, .inl (fun _ => 0))), (q_4, .inl (cI, 11, .inl (fun _ => 0))), (q_5, .inl (cI, 12, .inl (fun _ => 0))), (q_6, .inl (cJ, 13, .inr (.inl (fun _ => 0)))), (q_7, .inl (cI, 11, .inl (fun _ => 0))), (q_8, .inl (cI, 11, .inl (fun _ => 0))), (q_9, .inl (cI, 2400, .inl (fun _ => 0))), (q_10, .inl (cI, 2400, .inl (fun _ => 0))), (q_11, .inl (cJ, 105600, .inr (.inl (fun _ => 0))))] := hD
  refine W.widen (k := 11) (n := 110491) (by omega) (by omega) ?_
  refine va_putF (D := D) (ci := 6) (v := .ref q_11) (ty := .array .long) (C := RX6) (T := TX6) (N := 39) hx hb hts in_X6_init_X6 tyX6 tyX6_ok nmX6 hown hK hP hD hS 0 rfl rfl 23 (by decide) (hts _ wd_X6_init_23) (fun _ h9 => h9) rfl hin rfl (by decide +kernel) rfl rfl (Nat.le_of_ble_eq_true rfl) dX6_init_128 (fun H locs hP hD hS => ?_)
  have hP : va_P D vwCl [(m0, .inr (6, [.ref q_1, .ref q_2, .ref q_3, .ref q_4, .int 0, .ref q_5, .int 0, .int 0, .int 21, .int 17, .int 0, .int 1, .int 1, .int 1, .int 3, .long 1, .int 0, .ref q_6, .ref q_7, .ref q_8, .int 0, .ref q_9, .ref q_10, .ref q_11, .null, .null, .int 0, .int 0, .int 0, .int 0, .int 0, .int 0, .int 0, .int 0, .int 0, .null, .null, .null, .null])), (q_1, .inl (cI, 11, .inl (fun _ => 0))), (q_2, .inl (cI, 11, .inl (fun _ => 0))), (q_3, .inl (cI, 11, .inl (fun _ => 0))), (q_4, .inl (cI, 11, .inl (fun _ => 0))), (q_5, .inl (cI, 12, .inl (fun _ => 0))), (q_6, .inl (cJ, 13, .inr (.inl (fun _ => 0)))), (q_7, .inl (cI, 11, .inl (fun _ => 0))), (q_8, .inl (cI, 11, .inl (fun _ => 0))), (q_9, .inl (cI, 2400, .inl (fun _ => 0))), (q_10, .inl (cI, 2400, .inl (fun _ => 0))), (q_11, .inl (cJ, 105600, .inr (.inl (fun _ => 0))))] H := hP
  have hD : va_D A [(m0, .inr (6, [.ref q_1, .ref q_2, .ref q_3, .ref q_4, .int 0, .ref q_5, .int 0, .int 0, .int 21, .int 17, .int 0, .int 1, .int 1, .int 1, .int 3, .long 1, .int 0, .ref q_6, .ref q_7, .ref q_8, .int 0, .ref q_9, .ref q_10, .ref q_11, .null, .null, .int 0, .int 0, .int 0, .int 0, .int 0, .int 0, .int 0, .int 0, .int 0, .null, .null, .null, .null])), (q_1, .inl (cI, 11, .inl (fun _ => 0))), (q_2, .inl (cI, 11, .inl (fun _ => 0))), (q_3, .inl (cI, 11, .inl (fun _ => 0))), (q_4, .inl (cI, 11, .inl (fun _ => 0))), (q_5, .inl (cI, 12, .inl (fun _ => 0))), (q_6, .inl (cJ, 13, .inr (.inl (fun _ => 0)))), (q_7, .inl (cI, 11, .inl (fun _ => 0))), (q_8, .inl (cI, 11, .inl (fun _ => 0))), (q_9, .inl (cI, 2400, .inl (fun _ => 0))), (q_10, .inl (cI, 2400, .inl (fun _ => 0))), (q_11, .inl (cJ, 105600, .inr (.inl (fun _ => 0))))] := hD
  refine lv_aload_n hx hb dX6_init_131 rfl (lv_at hl 0 rfl) ?_
  refine lv_sipush (v := 2400) hx hb dX6_init_132 (by decide) ?_
  refine va_newa (atype := .long) (a0 := (2400, .inr (.inl (fun _ => 0)))) (ty := .long) (N' := 2400) hx hb (hts _ wd_X6_init_16) rfl hK hP hD hS hA (fun cA => newL cA 2400) (by decide) (by decide) (Nat.le_of_ble_eq_true rfl) (Nat.le_of_ble_eq_true rfl) (Nat.le_of_ble_eq_true rfl) dX6_init_135 (fun q_12 cA H hK0 hP hD hS => ?_)
  have ecA := va_Ksame (i := 1) (j := 3) hK0 rfl rfl
  subst ecA
  have hP : va_P D vwCl [(m0, .inr (6, [.ref q_1, .ref q_2, .ref q_3, .ref q_4, .int 0, .ref q_5, .int 0, .int 0, .int 21, .int 17, .int 0, .int 1, .int 1, .int 1, .int 3, .long 1, .int 0, .ref q_6, .ref q_7, .ref q_8, .int 0, .ref q_9, .ref q_10, .ref q_11, .null, .null, .int 0, .int 0, .int 0, .int 0, .int 0, .int 0, .int 0, .int 0, .int 0, .null, .null, .null, .null])), (q_1, .inl (cI, 11, .inl (fun _ => 0))), (q_2, .inl (cI, 11, .inl (fun _ => 0))), (q_3, .inl (cI, 11, .inl (fun _ => 0))), (q_4, .inl (cI, 11, .inl (fun _ => 0))), (q_5, .inl (cI, 12, .inl (fun _ => 0))), (q_6, .inl (cJ, 13, .inr (.inl (fun _ => 0)))), (q_7, .inl (cI, 11, .inl (fun _ => 0))), (q_8, .inl (cI, 11, .inl (fun _ => 0))), (q_9, .inl (cI, 2400, .inl (fun _ => 0))), (q_10, .inl (cI, 2400, .inl (fun _ => 0))), (q_11, .inl (cJ, 105600, .inr (.inl (fun _ => 0)))), (q_12, .inl (cJ, 2400, .inr (.inl (fun _ => 0))))] H := hP
  have hD : va_D A [(m0, .inr (6, [.ref q_1, .ref q_2, .ref q_3, .ref q_4, .int 0, .ref q_5, .int 0, .int 0, .int 21, .int 17, .int 0, .int 1, .int 1, .int 1, .int 3, .long 1, .int 0, .ref q_6, .ref q_7, .ref q_8, .int 0, .ref q_9, .ref q_10, .ref q_11, .null, .null, .int 0, .int 0, .int 0, .int 0, .int 0, .int 0, .int 0, .int 0, .int 0, .null, .null, .null, .null])), (q_1, .inl (cI, 11, .inl (fun _ => 0))), (q_2, .inl (cI, 11, .inl (fun _ => 0))), (q_3, .inl (cI, 11, .inl (fun _ => 0))), (q_4, .inl (cI, 11, .inl (fun _ => 0))), (q_5, .inl (cI, 12, .inl (fun _ => 0))), (q_6, .inl (cJ, 13, .inr (.inl (fun _ => 0)))), (q_7, .inl (cI, 11, .inl (fun _ => 0))), (q_8, .inl (cI, 11, .inl (fun _ => 0))), (q_9, .inl (cI, 2400, .inl (fun _ => 0))), (q_10, .inl (cI, 2400, .inl (fun _ => 0))), (q_11, .inl (cJ, 105600, .inr (.inl (fun _ => 0)))), (q_12, .inl (cJ, 2400, .inr (.inl (fun _ => 0))))] := hD
  refine W.widen (k := 12) (n := 112891) (by omega) (by omega) ?_
  refine va_putF (D := D) (ci := 6) (v := .ref q_12) (ty := .array .long) (C := RX6) (T := TX6) (N := 39) hx hb hts in_X6_init_X6 tyX6 tyX6_ok nmX6 hown hK hP hD hS 0 rfl rfl 24 (by decide) (hts _ wd_X6_init_24) (fun _ h9 => h9) rfl hin rfl (by decide +kernel) rfl rfl (Nat.le_of_ble_eq_true rfl) dX6_init_137 (fun H locs hP hD hS => ?_)
  have hP : va_P D vwCl [(m0, .inr (6, [.ref q_1, .ref q_2, .ref q_3, .ref q_4, .int 0, .ref q_5, .int 0, .int 0, .int 21, .int 17, .int 0, .int 1, .int 1, .int 1, .int 3, .long 1, .int 0, .ref q_6, .ref q_7, .ref q_8, .int 0, .ref q_9, .ref q_10, .ref q_11, .ref q_12, .null, .int 0, .int 0, .int 0, .int 0, .int 0, .int 0, .int 0, .int 0, .int 0, .null, .null, .null, .null])), (q_1, .inl (cI, 11, .inl (fun _ => 0))), (q_2, .inl (cI, 11, .inl (fun _ => 0))), (q_3, .inl (cI, 11, .inl (fun _ => 0))), (q_4, .inl (cI, 11, .inl (fun _ => 0))), (q_5, .inl (cI, 12, .inl (fun _ => 0))), (q_6, .inl (cJ, 13, .inr (.inl (fun _ => 0)))), (q_7, .inl (cI, 11, .inl (fun _ => 0))), (q_8, .inl (cI, 11, .inl (fun _ => 0))), (q_9, .inl (cI, 2400, .inl (fun _ => 0))), (q_10, .inl (cI, 2400, .inl (fun _ => 0))), (q_11, .inl (cJ, 105600, .inr (.inl (fun _ => 0)))), (q_12, .inl (cJ, 2400, .inr (.inl (fun _ => 0))))] H := hP
  have hD : va_D A [(m0, .inr (6, [.ref q_1, .ref q_2, .ref q_3, .ref q_4, .int 0, .ref q_5, .int 0, .int 0, .int 21, .int 17, .int 0, .int 1, .int 1, .int 1, .int 3, .long 1, .int 0, .ref q_6, .ref q_7, .ref q_8, .int 0, .ref q_9, .ref q_10, .ref q_11, .ref q_12, .null, .int 0, .int 0, .int 0, .int 0, .int 0, .int 0, .int 0, .int 0, .int 0, .null, .null, .null, .null])), (q_1, .inl (cI, 11, .inl (fun _ => 0))), (q_2, .inl (cI, 11, .inl (fun _ => 0))), (q_3, .inl (cI, 11, .inl (fun _ => 0))), (q_4, .inl (cI, 11, .inl (fun _ => 0))), (q_5, .inl (cI, 12, .inl (fun _ => 0))), (q_6, .inl (cJ, 13, .inr (.inl (fun _ => 0)))), (q_7, .inl (cI, 11, .inl (fun _ => 0))), (q_8, .inl (cI, 11, .inl (fun _ => 0))), (q_9, .inl (cI, 2400, .inl (fun _ => 0))), (q_10, .inl (cI, 2400, .inl (fun _ => 0))), (q_11, .inl (cJ, 105600, .inr (.inl (fun _ => 0)))), (q_12, .inl (cJ, 2400, .inr (.inl (fun _ => 0))))] := hD
  refine lv_aload_n hx hb dX6_init_140 rfl (lv_at hl 0 rfl) ?_
  refine lv_sipush (v := 2400) hx hb dX6_init_141 (by decide) ?_
  refine va_newa (atype := .long) (a0 := (2400, .inr (.inl (fun _ => 0)))) (ty := .long) (N' := 2400) hx hb (hts _ wd_X6_init_16) rfl hK hP hD hS hA (fun cA => newL cA 2400) (by decide) (by decide) (Nat.le_of_ble_eq_true rfl) (Nat.le_of_ble_eq_true rfl) (Nat.le_of_ble_eq_true rfl) dX6_init_144 (fun q_13 cA H hK0 hP hD hS => ?_)
  have ecA := va_Ksame (i := 1) (j := 3) hK0 rfl rfl
  subst ecA
  have hP : va_P D vwCl [(m0, .inr (6, [.ref q_1, .ref q_2, .ref q_3, .ref q_4, .int 0, .ref q_5, .int 0, .int 0, .int 21, .int 17, .int 0, .int 1, .int 1, .int 1, .int 3, .long 1, .int 0, .ref q_6, .ref q_7, .ref q_8, .int 0, .ref q_9, .ref q_10, .ref q_11, .ref q_12, .null, .int 0, .int 0, .int 0, .int 0, .int 0, .int 0, .int 0, .int 0, .int 0, .null, .null, .null, .null])), (q_1, .inl (cI, 11, .inl (fun _ => 0))), (q_2, .inl (cI, 11, .inl (fun _ => 0))), (q_3, .inl (cI, 11, .inl (fun _ => 0))), (q_4, .inl (cI, 11, .inl (fun _ => 0))), (q_5, .inl (cI, 12, .inl (fun _ => 0))), (q_6, .inl (cJ, 13, .inr (.inl (fun _ => 0)))), (q_7, .inl (cI, 11, .inl (fun _ => 0))), (q_8, .inl (cI, 11, .inl (fun _ => 0))), (q_9, .inl (cI, 2400, .inl (fun _ => 0))), (q_10, .inl (cI, 2400, .inl (fun _ => 0))), (q_11, .inl (cJ, 105600, .inr (.inl (fun _ => 0)))), (q_12, .inl (cJ, 2400, .inr (.inl (fun _ => 0)))), (q_13, .inl (cJ, 2400, .inr (.inl (fun _ => 0))))] H := hP
  have hD : va_D A [(m0, .inr (6, [.ref q_1, .ref q_2, .ref q_3, .ref q_4, .int 0, .ref q_5, .int 0, .int 0, .int 21, .int 17, .int 0, .int 1, .int 1, .int 1, .int 3, .long 1, .int 0, .ref q_6, .ref q_7, .ref q_8, .int 0, .ref q_9, .ref q_10, .ref q_11, .ref q_12, .null, .int 0, .int 0, .int 0, .int 0, .int 0, .int 0, .int 0, .int 0, .int 0, .null, .null, .null, .null])), (q_1, .inl (cI, 11, .inl (fun _ => 0))), (q_2, .inl (cI, 11, .inl (fun _ => 0))), (q_3, .inl (cI, 11, .inl (fun _ => 0))), (q_4, .inl (cI, 11, .inl (fun _ => 0))), (q_5, .inl (cI, 12, .inl (fun _ => 0))), (q_6, .inl (cJ, 13, .inr (.inl (fun _ => 0)))), (q_7, .inl (cI, 11, .inl (fun _ => 0))), (q_8, .inl (cI, 11, .inl (fun _ => 0))), (q_9, .inl (cI, 2400, .inl (fun _ => 0))), (q_10, .inl (cI, 2400, .inl (fun _ => 0))), (q_11, .inl (cJ, 105600, .inr (.inl (fun _ => 0)))), (q_12, .inl (cJ, 2400, .inr (.inl (fun _ => 0)))), (q_13, .inl (cJ, 2400, .inr (.inl (fun _ => 0))))] := hD
  refine W.widen (k := 13) (n := 115291) (by omega) (by omega) ?_
  refine va_putF (D := D) (ci := 6) (v := .ref q_13) (ty := .array .long) (C := RX6) (T := TX6) (N := 39) hx hb hts in_X6_init_X6 tyX6 tyX6_ok nmX6 hown hK hP hD hS 0 rfl rfl 25 (by decide) (hts _ wd_X6_init_25) (fun _ h9 => h9) rfl hin rfl (by decide +kernel) rfl rfl (Nat.le_of_ble_eq_true rfl) dX6_init_146 (fun H locs hP hD hS => ?_)
  have hP : va_P D vwCl [(m0, .inr (6, [.ref q_1, .ref q_2, .ref q_3, .ref q_4, .int 0, .ref q_5, .int 0, .int 0, .int 21, .int 17, .int 0, .int 1, .int 1, .int 1, .int 3, .long 1, .int 0, .ref q_6, .ref q_7, .ref q_8, .int 0, .ref q_9, .ref q_10, .ref q_11, .ref q_12, .ref q_13, .int 0, .int 0, .int 0, .int 0, .int 0, .int 0, .int 0, .int 0, .int 0, .null, .null, .null, .null])), (q_1, .inl (cI, 11, .inl (fun _ => 0))), (q_2, .inl (cI, 11, .inl (fun _ => 0))), (q_3, .inl (cI, 11, .inl (fun _ => 0))), (q_4, .inl (cI, 11, .inl (fun _ => 0))), (q_5, .inl (cI, 12, .inl (fun _ => 0))), (q_6, .inl (cJ, 13, .inr (.inl (fun _ => 0)))), (q_7, .inl (cI, 11, .inl (fun _ => 0))), (q_8, .inl (cI, 11, .inl (fun _ => 0))), (q_9, .inl (cI, 2400, .inl (fun _ => 0))), (q_10, .inl (cI, 2400, .inl (fun _ => 0))), (q_11, .inl (cJ, 105600, .inr (.inl (fun _ => 0)))), (q_12, .inl (cJ, 2400, .inr (.inl (fun _ => 0)))), (q_13, .inl (cJ, 2400, .inr (.inl (fun _ => 0))))] H := hP
  have hD : va_D A [(m0, .inr (6, [.ref q_1, .ref q_2, .ref q_3, .ref q_4, .int 0, .ref q_5, .int 0, .int 0, .int 21, .int 17, .int 0, .int 1, .int 1, .int 1, .int 3, .long 1, .int 0, .ref q_6, .ref q_7, .ref q_8, .int 0, .ref q_9, .ref q_10, .ref q_11, .ref q_12, .ref q_13, .int 0, .int 0, .int 0, .int 0, .int 0, .int 0, .int 0, .int 0, .int 0, .null, .null, .null, .null])), (q_1, .inl (cI, 11, .inl (fun _ => 0))), (q_2, .inl (cI, 11, .inl (fun _ => 0))), (q_3, .inl (cI, 11, .inl (fun _ => 0))), (q_4, .inl (cI, 11, .inl (fun _ => 0))), (q_5, .inl (cI, 12, .inl (fun _ => 0))), (q_6, .inl (cJ, 13, .inr (.inl (fun _ => 0)))), (q_7, .inl (cI, 11, .inl (fun _ => 0))), (q_8, .inl (cI, 11, .inl (fun _ => 0))), (q_9, .inl (cI, 2400, .inl (fun _ => 0))), (q_10, .inl (cI, 2400, .inl (fun _ => 0))), (q_11, .inl (cJ, 105600, .inr (.inl (fun _ => 0)))), (q_12, .inl (cJ, 2400, .inr (.inl (fun _ => 0)))), (q_13, .inl (cJ, 2400, .inr (.inl (fun _ => 0))))] := hD
  refine lv_aload_n hx hb dX6_init_149 rfl (lv_at hl 0 rfl) ?_
  refine lv_sipush (v := 549) hx hb dX6_init_150 (by decide) ?_
  refine va_newa (atype := .long) (a0 := (549, .inr (.inl (fun _ => 0)))) (ty := .long) (N' := 549) hx hb (hts _ wd_X6_init_16) rfl hK hP hD hS hA (fun cA => newL cA 549) (by decide) (by decide) (Nat.le_of_ble_eq_true rfl) (Nat.le_of_ble_eq_true rfl) (Nat.le_of_ble_eq_true rfl) dX6_init_153 (fun q_14 cA H hK0 hP hD hS => ?_)
  have ecA := va_Ksame (i := 1) (j := 3) hK0 rfl rfl
  subst ecA
  have hP : va_P D vwCl [(m0, .inr (6, [.ref q_1, .ref q_2, .ref q_3, .ref q_4, .int 0, .ref q_5, .int 0, .int 0, .int 21, .int 17, .int 0, .int 1, .int 1, .int 1, .int 3, .long 1, .int 0, .ref q_6, .ref q_7, .ref q_8, .int 0, .ref q_9, .ref q_10, .ref q_11, .ref q_12, .ref q_13, .int 0, .int 0, .int 0, .int 0, .int 0, .int 0, .int 0, .int 0, .int 0, .null, .null, .null, .null])), (q_1, .inl (cI, 11, .inl (fun _ => 0))), (q_2, .inl (cI, 11, .inl (fun _ => 0))), (q_3, .inl (cI, 11, .inl (fun _ => 0))), (q_4, .inl (cI, 11, .inl (fun _ => 0))), (q_5, .inl (cI, 12, .inl (fun _ => 0))), (q_6, .inl (cJ, 13, .inr (.inl (fun _ => 0)))), (q_7, .inl (cI, 11, .inl (fun _ => 0))), (q_8, .inl (cI, 11, .inl (fun _ => 0))), (q_9, .inl (cI, 2400, .inl (fun _ => 0))), (q_10, .inl (cI, 2400, .inl (fun _ => 0))), (q_11, .inl (cJ, 105600, .inr (.inl (fun _ => 0)))), (q_12, .inl (cJ, 2400, .inr (.inl (fun _ => 0)))), (q_13, .inl (cJ, 2400, .inr (.inl (fun _ => 0)))), (q_14, .inl (cJ, 549, .inr (.inl (fun _ => 0))))] H := hP
  have hD : va_D A [(m0, .inr (6, [.ref q_1, .ref q_2, .ref q_3, .ref q_4, .int 0, .ref q_5, .int 0, .int 0, .int 21, .int 17, .int 0, .int 1, .int 1, .int 1, .int 3, .long 1, .int 0, .ref q_6, .ref q_7, .ref q_8, .int 0, .ref q_9, .ref q_10, .ref q_11, .ref q_12, .ref q_13, .int 0, .int 0, .int 0, .int 0, .int 0, .int 0, .int 0, .int 0, .int 0, .null, .null, .null, .null])), (q_1, .inl (cI, 11, .inl (fun _ => 0))), (q_2, .inl (cI, 11, .inl (fun _ => 0))), (q_3, .inl (cI, 11, .inl (fun _ => 0))), (q_4, .inl (cI, 11, .inl (fun _ => 0))), (q_5, .inl (cI, 12, .inl (fun _ => 0))), (q_6, .inl (cJ, 13, .inr (.inl (fun _ => 0)))), (q_7, .inl (cI, 11, .inl (fun _ => 0))), (q_8, .inl (cI, 11, .inl (fun _ => 0))), (q_9, .inl (cI, 2400, .inl (fun _ => 0))), (q_10, .inl (cI, 2400, .inl (fun _ => 0))), (q_11, .inl (cJ, 105600, .inr (.inl (fun _ => 0)))), (q_12, .inl (cJ, 2400, .inr (.inl (fun _ => 0)))), (q_13, .inl (cJ, 2400, .inr (.inl (fun _ => 0)))), (q_14, .inl (cJ, 549, .inr (.inl (fun _ => 0))))] := hD
  refine W.widen (k := 14) (n := 115840) (by omega) (by omega) ?_
  refine va_putF (D := D) (ci := 6) (v := .ref q_14) (ty := .array .long) (C := RX6) (T := TX6) (N := 39) hx hb hts in_X6_init_X6 tyX6 tyX6_ok nmX6 hown hK hP hD hS 0 rfl rfl 35 (by decide) (hts _ wd_X6_init_26) (fun _ h9 => h9) rfl hin rfl (by decide +kernel) rfl rfl (Nat.le_of_ble_eq_true rfl) dX6_init_155 (fun H locs hP hD hS => ?_)
  have hP : va_P D vwCl [(m0, .inr (6, [.ref q_1, .ref q_2, .ref q_3, .ref q_4, .int 0, .ref q_5, .int 0, .int 0, .int 21, .int 17, .int 0, .int 1, .int 1, .int 1, .int 3, .long 1, .int 0, .ref q_6, .ref q_7, .ref q_8, .int 0, .ref q_9, .ref q_10, .ref q_11, .ref q_12, .ref q_13, .int 0, .int 0, .int 0, .int 0, .int 0, .int 0, .int 0, .int 0, .int 0, .ref q_14, .null, .null, .null])), (q_1, .inl (cI, 11, .inl (fun _ => 0))), (q_2, .inl (cI, 11, .inl (fun _ => 0))), (q_3, .inl (cI, 11, .inl (fun _ => 0))), (q_4, .inl (cI, 11, .inl (fun _ => 0))), (q_5, .inl (cI, 12, .inl (fun _ => 0))), (q_6, .inl (cJ, 13, .inr (.inl (fun _ => 0)))), (q_7, .inl (cI, 11, .inl (fun _ => 0))), (q_8, .inl (cI, 11, .inl (fun _ => 0))), (q_9, .inl (cI, 2400, .inl (fun _ => 0))), (q_10, .inl (cI, 2400, .inl (fun _ => 0))), (q_11, .inl (cJ, 105600, .inr (.inl (fun _ => 0)))), (q_12, .inl (cJ, 2400, .inr (.inl (fun _ => 0)))), (q_13, .inl (cJ, 2400, .inr (.inl (fun _ => 0)))), (q_14, .inl (cJ, 549, .inr (.inl (fun _ => 0))))] H := hP
  have hD : va_D A [(m0, .inr (6, [.ref q_1, .ref q_2, .ref q_3, .ref q_4, .int 0, .ref q_5, .int 0, .int 0, .int 21, .int 17, .int 0, .int 1, .int 1, .int 1, .int 3, .long 1, .int 0, .ref q_6, .ref q_7, .ref q_8, .int 0, .ref q_9, .ref q_10, .ref q_11, .ref q_12, .ref q_13, .int 0, .int 0, .int 0, .int 0, .int 0, .int 0, .int 0, .int 0, .int 0, .ref q_14, .null, .null, .null])), (q_1, .inl (cI, 11, .inl (fun _ => 0))), (q_2, .inl (cI, 11, .inl (fun _ => 0))), (q_3, .inl (cI, 11, .inl (fun _ => 0))), (q_4, .inl (cI, 11, .inl (fun _ => 0))), (q_5, .inl (cI, 12, .inl (fun _ => 0))), (q_6, .inl (cJ, 13, .inr (.inl (fun _ => 0)))), (q_7, .inl (cI, 11, .inl (fun _ => 0))), (q_8, .inl (cI, 11, .inl (fun _ => 0))), (q_9, .inl (cI, 2400, .inl (fun _ => 0))), (q_10, .inl (cI, 2400, .inl (fun _ => 0))), (q_11, .inl (cJ, 105600, .inr (.inl (fun _ => 0)))), (q_12, .inl (cJ, 2400, .inr (.inl (fun _ => 0)))), (q_13, .inl (cJ, 2400, .inr (.inl (fun _ => 0)))), (q_14, .inl (cJ, 549, .inr (.inl (fun _ => 0))))] := hD
  refine lv_aload_n hx hb dX6_init_158 rfl (lv_at hl 0 rfl) ?_
  refine lv_sipush (v := 549) hx hb dX6_init_159 (by decide) ?_
  refine va_newa (atype := .long) (a0 := (549, .inr (.inl (fun _ => 0)))) (ty := .long) (N' := 549) hx hb (hts _ wd_X6_init_16) rfl hK hP hD hS hA (fun cA => newL cA 549) (by decide) (by decide) (Nat.le_of_ble_eq_true rfl) (Nat.le_of_ble_eq_true rfl) (Nat.le_of_ble_eq_true rfl) dX6_init_162 (fun q_15 cA H hK0 hP hD hS => ?_)
  have ecA := va_Ksame (i := 1) (j := 3) hK0 rfl rfl
  subst ecA
  have hP : va_P D vwCl [(m0, .inr (6, [.ref q_1, .ref q_2, .ref q_3, .ref q_4, .int 0, .ref q_5, .int 0, .int 0, .int 21, .int 17, .int 0, .int 1, .int 1, .int 1, .int 3, .long 1, .int 0, .ref q_6, .ref q_7, .ref q_8, .int 0, .ref q_9, .ref q_10, .ref q_11, .ref q_12, .ref q_13, .int 0, .int 0, .int 0, .int 0, .int 0, .int 0, .int 0, .int 0, .int 0, .ref q_14, .null, .null, .null])), (q_1, .inl (cI, 11, .inl (fun _ => 0))), (q_2, .inl (cI, 11, .inl (fun _ => 0))), (q_3, .inl (cI, 11, .inl (fun _ => 0))), (q_4, .inl (cI, 11, .inl (fun _ => 0))), (q_5, .inl (cI, 12, .inl (fun _ => 0))), (q_6, .inl (cJ, 13, .inr (.inl (fun _ => 0)))), (q_7, .inl (cI, 11, .inl (fun _ => 0))), (q_8, .inl (cI, 11, .inl (fun _ => 0))), (q_9, .inl (cI, 2400, .inl (fun _ => 0))), (q_10, .inl (cI, 2400, .inl (fun _ => 0))), (q_11, .inl (cJ, 105600, .inr (.inl (fun _ => 0)))), (q_12, .inl (cJ, 2400, .inr (.inl (fun _ => 0)))), (q_13, .inl (cJ, 2400, .inr (.inl (fun _ => 0)))), (q_14, .inl (cJ, 549, .inr (.inl (fun _ => 0)))), (q_15, .inl (cJ, 549, .inr (.inl (fun _ => 0))))] H := hP
  have hD : va_D A [(m0, .inr (6, [.ref q_1, .ref q_2, .ref q_3, .ref q_4, .int 0, .ref q_5, .int 0, .int 0, .int 21, .int 17, .int 0, .int 1, .int 1, .int 1, .int 3, .long 1, .int 0, .ref q_6, .ref q_7, .ref q_8, .int 0, .ref q_9, .ref q_10, .ref q_11, .ref q_12, .ref q_13, .int 0, .int 0, .int 0, .int 0, .int 0, .int 0, .int 0, .int 0, .int 0, .ref q_14, .null, .null, .null])), (q_1, .inl (cI, 11, .inl (fun _ => 0))), (q_2, .inl (cI, 11, .inl (fun _ => 0))), (q_3, .inl (cI, 11, .inl (fun _ => 0))), (q_4, .inl (cI, 11, .inl (fun _ => 0))), (q_5, .inl (cI, 12, .inl (fun _ => 0))), (q_6, .inl (cJ, 13, .inr (.inl (fun _ => 0)))), (q_7, .inl (cI, 11, .inl (fun _ => 0))), (q_8, .inl (cI, 11, .inl (fun _ => 0))), (q_9, .inl (cI, 2400, .inl (fun _ => 0))), (q_10, .inl (cI, 2400, .inl (fun _ => 0))), (q_11, .inl (cJ, 105600, .inr (.inl (fun _ => 0)))), (q_12, .inl (cJ, 2400, .inr (.inl (fun _ => 0)))), (q_13, .inl (cJ, 2400, .inr (.inl (fun _ => 0)))), (q_14, .inl (cJ, 549, .inr (.inl (fun _ => 0)))), (q_15, .inl (cJ, 549, .inr (.inl (fun _ => 0))))] := hD
  refine W.widen (k := 15) (n := 116389) (by omega) (by omega) ?_
  refine va_putF (D := D) (ci := 6) (v := .ref q_15) (ty := .array .long) (C := RX6) (T := TX6) (N := 39) hx hb hts in_X6_init_X6 tyX6 tyX6_ok nmX6 hown hK hP hD hS 0 rfl rfl 36 (by decide) (hts _ wd_X6_init_27) (fun _ h9 => h9) rfl hin rfl (by decide +kernel) rfl rfl (Nat.le_of_ble_eq_true rfl) dX6_init_164 (fun H locs hP hD hS => ?_)
  have hP : va_P D vwCl [(m0, .inr (6, [.ref q_1, .ref q_2, .ref q_3, .ref q_4, .int 0, .ref q_5, .int 0, .int 0, .int 21, .int 17, .int 0, .int 1, .int 1, .int 1, .int 3, .long 1, .int 0, .ref q_6, .ref q_7, .ref q_8, .int 0, .ref q_9, .ref q_10, .ref q_11, .ref q_12, .ref q_13, .int 0, .int 0, .int 0, .int 0, .int 0, .int 0, .int 0, .int 0, .int 0, .ref q_14, .ref q_15, .null, .null])), (q_1, .inl (cI, 11, .inl (fun _ => 0))), (q_2, .inl (cI, 11, .inl (fun _ => 0))), (q_3, .inl (cI, 11, .inl (fun _ => 0))), (q_4, .inl (cI, 11, .inl (fun _ => 0))), (q_5, .inl (cI, 12, .inl (fun _ => 0))), (q_6, .inl (cJ, 13, .inr (.inl (fun _ => 0)))), (q_7, .inl (cI, 11, .inl (fun _ => 0))), (q_8, .inl (cI, 11, .inl (fun _ => 0))), (q_9, .inl (cI, 2400, .inl (fun _ => 0))), (q_10, .inl (cI, 2400, .inl (fun _ => 0))), (q_11, .inl (cJ, 105600, .inr (.inl (fun _ => 0)))), (q_12, .inl (cJ, 2400, .inr (.inl (fun _ => 0)))), (q_13, .inl (cJ, 2400, .inr (.inl (fun _ => 0)))), (q_14, .inl (cJ, 549, .inr (.inl (fun _ => 0)))), (q_15, .inl (cJ, 549, .inr (.inl (fun _ => 0))))] H := hP
  have hD : va_D A [(m0, .inr (6, [.ref q_1, .ref q_2, .ref q_3, .ref q_4, .int 0, .ref q_5, .int 0, .int 0, .int 21, .int 17, .int 0, .int 1, .int 1, .int 1, .int 3, .long 1, .int 0, .ref q_6, .ref q_7, .ref q_8, .int 0, .ref q_9, .ref q_10, .ref q_11, .ref q_12, .ref q_13, .int 0, .int 0, .int 0, .int 0, .int 0, .int 0, .int 0, .int 0, .int 0, .ref q_14, .ref q_15, .null, .null])), (q_1, .inl (cI, 11, .inl (fun _ => 0))), (q_2, .inl (cI, 11, .inl (fun _ => 0))), (q_3, .inl (cI, 11, .inl (fun _ => 0))), (q_4, .inl (cI, 11, .inl (fun _ => 0))), (q_5, .inl (cI, 12, .inl (fun _ => 0))), (q_6, .inl (cJ, 13, .inr (.inl (fun _ => 0)))), (q_7, .inl (cI, 11, .inl (fun _ => 0))), (q_8, .inl (cI, 11, .inl (fun _ => 0))), (q_9, .inl (cI, 2400, .inl (fun _ => 0))), (q_10, .inl (cI, 2400, .inl (fun _ => 0))), (q_11, .inl (cJ, 105600, .inr (.inl (fun _ => 0)))), (q_12, .inl (cJ, 2400, .inr (.inl (fun _ => 0)))), (q_13, .inl (cJ, 2400, .inr (.inl (fun _ => 0)))), (q_14, .inl (cJ, 549, .inr (.inl (fun _ => 0)))), (q_15, .inl (cJ, 549, .inr (.inl (fun _ => 0))))] := hD
  refine lv_aload_n hx hb dX6_init_167 rfl (lv_at hl 0 rfl) ?_
  refine lv_sipush (v := 549) hx hb dX6_init_168 (by decide) ?_
  refine va_newa (atype := .long) (a0 := (549, .inr (.inl (fun _ => 0)))) (ty := .long) (N' := 549) hx hb (hts _ wd_X6_init_16) rfl hK hP hD hS hA (fun cA => newL cA 549) (by decide) (by decide) (Nat.le_of_ble_eq_true rfl) (Nat.le_of_ble_eq_true rfl) (Nat.le_of_ble_eq_true rfl) dX6_init_171 (fun q_16 cA H hK0 hP hD hS => ?_)
  have ecA := va_Ksame (i := 1) (j := 3) hK0 rfl rfl
  subst ecA
  have hP : va_P D vwCl [(m0, .inr (6, [.ref q_1, .ref q_2, .ref q_3, .ref q_4, .int 0, .ref q_5, .int 0, .int 0, .int 21, .int 17, .int 0, .int 1, .int 1, .int 1, .int 3, .long 1, .int 0, .ref q_6, .ref q_7, .ref q_8, .int 0, .ref q_9, .ref q_10, .ref q_11, .ref q_12, .ref q_13, .int 0, .int 0, .int 0, .int 0, .int 0, .int 0, .int 0, .int 0, .int 0, .ref q_14, .ref q_15, .null, .null])), (q_1, .inl (cI, 11, .inl (fun _ => 0))), (q_2, .inl (cI, 11, .inl (fun _ => 0))), (q_3, .inl (cI, 11, .inl (fun _ => 0))), (q_4, .inl (cI, 11, .inl (fun _ => 0))), (q_5, .inl (cI, 12, .inl (fun _ => 0))), (q_6, .inl (cJ, 13, .inr (.inl (fun _ => 0)))), (q_7, .inl (cI, 11, .inl (fun _ => 0))), (q_8, .inl (cI, 11, .inl (fun _ => 0))), (q_9, .inl (cI, 2400, .inl (fun _ => 0))), (q_10, .inl (cI, 2400, .inl (fun _ => 0))), (q_11, .inl (cJ, 105600, .inr (.inl (fun _ => 0)))), (q_12, .inl (cJ, 2400, .inr (.inl (fun _ => 0)))), (q_13, .inl (cJ, 2400, .inr (.inl (fun _ => 0)))), (q_14, .inl (cJ, 549, .inr (.inl (fun _ => 0)))), (q_15, .inl (cJ, 549, .inr (.inl (fun _ => 0)))), (q_16, .inl (cJ, 549, .inr (.inl (fun _ => 0))))] H := hP
  have hD : va_D A [(m0, .inr (6, [.ref q_1, .ref q_2, .ref q_3, .ref q_4, .int 0, .ref q_5, .int 0, .int 0, .int 21, .int 17, .int 0, .int 1, .int 1, .int 1, .int 3, .long 1, .int 0, .ref q_6, .ref q_7, .ref q_8, .int 0, .ref q_9, .ref q_10, .ref q_11, .ref q_12, .ref q_13, .int 0, .int 0, .int 0, .int 0, .int 0, .int 0, .int 0, .int 0, .int 0, .ref q_14, .ref q_15, .null, .null])), (q_1, .inl (cI, 11, .inl (fun _ => 0))), (q_2, .inl (cI, 11, .inl (fun _ => 0))), (q_3, .inl (cI, 11, .inl (fun _ => 0))), (q_4, .inl (cI, 11, .inl (fun _ => 0))), (q_5, .inl (cI, 12, .inl (fun _ => 0))), (q_6, .inl (cJ, 13, .inr (.inl (fun _ => 0)))), (q_7, .inl (cI, 11, .inl (fun _ => 0))), (q_8, .inl (cI, 11, .inl (fun _ => 0))), (q_9, .inl (cI, 2400, .inl (fun _ => 0))), (q_10, .inl (cI, 2400, .inl (fun _ => 0))), (q_11, .inl (cJ, 105600, .inr (.inl (fun _ => 0)))), (q_12, .inl (cJ, 2400, .inr (.inl (fun _ => 0)))), (q_13, .inl (cJ, 2400, .inr (.inl (fun _ => 0)))), (q_14, .inl (cJ, 549, .inr (.inl (fun _ => 0)))), (q_15, .inl (cJ, 549, .inr (.inl (fun _ => 0)))), (q_16, .inl (cJ, 549, .inr (.inl (fun _ => 0))))] := hD
  refine W.widen (k := 16) (n := 116938) (by omega) (by omega) ?_
  refine va_putF (D := D) (ci := 6) (v := .ref q_16) (ty := .array .long) (C := RX6) (T := TX6) (N := 39) hx hb hts in_X6_init_X6 tyX6 tyX6_ok nmX6 hown hK hP hD hS 0 rfl rfl 37 (by decide) (hts _ wd_X6_init_28) (fun _ h9 => h9) rfl hin rfl (by decide +kernel) rfl rfl (Nat.le_of_ble_eq_true rfl) dX6_init_173 (fun H locs hP hD hS => ?_)
  have hP : va_P D vwCl [(m0, .inr (6, [.ref q_1, .ref q_2, .ref q_3, .ref q_4, .int 0, .ref q_5, .int 0, .int 0, .int 21, .int 17, .int 0, .int 1, .int 1, .int 1, .int 3, .long 1, .int 0, .ref q_6, .ref q_7, .ref q_8, .int 0, .ref q_9, .ref q_10, .ref q_11, .ref q_12, .ref q_13, .int 0, .int 0, .int 0, .int 0, .int 0, .int 0, .int 0, .int 0, .int 0, .ref q_14, .ref q_15, .ref q_16, .null])), (q_1, .inl (cI, 11, .inl (fun _ => 0))), (q_2, .inl (cI, 11, .inl (fun _ => 0))), (q_3, .inl (cI, 11, .inl (fun _ => 0))), (q_4, .inl (cI, 11, .inl (fun _ => 0))), (q_5, .inl (cI, 12, .inl (fun _ => 0))), (q_6, .inl (cJ, 13, .inr (.inl (fun _ => 0)))), (q_7, .inl (cI, 11, .inl (fun _ => 0))), (q_8, .inl (cI, 11, .inl (fun _ => 0))), (q_9, .inl (cI, 2400, .inl (fun _ => 0))), (q_10, .inl (cI, 2400, .inl (fun _ => 0))), (q_11, .inl (cJ, 105600, .inr (.inl (fun _ => 0)))), (q_12, .inl (cJ, 2400, .inr (.inl (fun _ => 0)))), (q_13, .inl (cJ, 2400, .inr (.inl (fun _ => 0)))), (q_14, .inl (cJ, 549, .inr (.inl (fun _ => 0)))), (q_15, .inl (cJ, 549, .inr (.inl (fun _ => 0)))), (q_16, .inl (cJ, 549, .inr (.inl (fun _ => 0))))] H := hP
  have hD : va_D A [(m0, .inr (6, [.ref q_1, .ref q_2, .ref q_3, .ref q_4, .int 0, .ref q_5, .int 0, .int 0, .int 21, .int 17, .int 0, .int 1, .int 1, .int 1, .int 3, .long 1, .int 0, .ref q_6, .ref q_7, .ref q_8, .int 0, .ref q_9, .ref q_10, .ref q_11, .ref q_12, .ref q_13, .int 0, .int 0, .int 0, .int 0, .int 0, .int 0, .int 0, .int 0, .int 0, .ref q_14, .ref q_15, .ref q_16, .null])), (q_1, .inl (cI, 11, .inl (fun _ => 0))), (q_2, .inl (cI, 11, .inl (fun _ => 0))), (q_3, .inl (cI, 11, .inl (fun _ => 0))), (q_4, .inl (cI, 11, .inl (fun _ => 0))), (q_5, .inl (cI, 12, .inl (fun _ => 0))), (q_6, .inl (cJ, 13, .inr (.inl (fun _ => 0)))), (q_7, .inl (cI, 11, .inl (fun _ => 0))), (q_8, .inl (cI, 11, .inl (fun _ => 0))), (q_9, .inl (cI, 2400, .inl (fun _ => 0))), (q_10, .inl (cI, 2400, .inl (fun _ => 0))), (q_11, .inl (cJ, 105600, .inr (.inl (fun _ => 0)))), (q_12, .inl (cJ, 2400, .inr (.inl (fun _ => 0)))), (q_13, .inl (cJ, 2400, .inr (.inl (fun _ => 0)))), (q_14, .inl (cJ, 549, .inr (.inl (fun _ => 0)))), (q_15, .inl (cJ, 549, .inr (.inl (fun _ => 0)))), (q_16, .inl (cJ, 549, .inr (.inl (fun _ => 0))))] := hD
  refine lv_aload_n hx hb dX6_init_176 rfl (lv_at hl 0 rfl) ?_
  refine lv_sipush (v := 549) hx hb dX6_init_177 (by decide) ?_
  refine va_newa (atype := .long) (a0 := (549, .inr (.inl (fun _ => 0)))) (ty := .long) (N' := 549) hx hb (hts _ wd_X6_init_16) rfl hK hP hD hS hA (fun cA => newL cA 549) (by decide) (by decide) (Nat.le_of_ble_eq_true rfl) (Nat.le_of_ble_eq_true rfl) (Nat.le_of_ble_eq_true rfl) dX6_init_180 (fun q_17 cA H hK0 hP hD hS => ?_)
  have ecA := va_Ksame (i := 1) (j := 3) hK0 rfl rfl
  subst ecA
  have hP : va_P D vwCl [(m0, .inr (6, [.ref q_1, .ref q_2, .ref q_3, .ref q_4, .int 0, .ref q_5, .int 0, .int 0, .int 21, .int 17, .int 0, .int 1, .int 1, .int 1, .int 3, .long 1, .int 0, .ref q_6, .ref q_7, .ref q_8, .int 0, .ref q_9, .ref q_10, .ref q_11, .ref q_12, .ref q_13, .int 0, .int 0, .int 0, .int 0, .int 0, .int 0, .int 0, .int 0, .int 0, .ref q_14, .ref q_15, .ref q_16, .null])), (q_1, .inl (cI, 11, .inl (fun _ => 0))), (q_2, .inl (cI, 11, .inl (fun _ => 0))), (q_3, .inl (cI, 11, .inl (fun _ => 0))), (q_4, .inl (cI, 11, .inl (fun _ => 0))), (q_5, .inl (cI, 12, .inl (fun _ => 0))), (q_6, .inl (cJ, 13, .inr (.inl (fun _ => 0)))), (q_7, .inl (cI, 11, .inl (fun _ => 0))), (q_8, .inl (cI, 11, .inl (fun _ => 0))), (q_9, .inl (cI, 2400, .inl (fun _ => 0))), (q_10, .inl (cI, 2400, .inl (fun _ => 0))), (q_11, .inl (cJ, 105600, .inr (.inl (fun _ => 0)))), (q_12, .inl (cJ, 2400, .inr (.inl (fun _ => 0)))), (q_13, .inl (cJ, 2400, .inr (.inl (fun _ => 0)))), (q_14, .inl (cJ, 549, .inr (.inl (fun _ => 0)))), (q_15, .inl (cJ, 549, .inr (.inl (fun _ => 0)))), (q_16, .inl (cJ, 549, .inr (.inl (fun _ => 0)))), (q_17, .inl (cJ, 549, .inr (.inl (fun _ => 0))))] H := hP
  have hD : va_D A [(m0, .inr (6, [.ref q_1, .ref q_2, .ref q_3, .ref q_4, .int 0, .ref q_5, .int 0, .int 0, .int 21, .int 17, .int 0, .int 1, .int 1, .int 1, .int 3, .long 1, .int 0, .ref q_6, .ref q_7, .ref q_8, .int 0, .ref q_9, .ref q_10, .ref q_11, .ref q_12, .ref q_13, .int 0, .int 0, .int 0, .int 0, .int 0, .int 0, .int 0, .int 0, .int 0, .ref q_14, .ref q_15, .ref q_16, .null])), (q_1, .inl (cI, 11, .inl (fun _ => 0))), (q_2, .inl (cI, 11, .inl (fun _ => 0))), (q_3, .inl (cI, 11, .inl (fun _ => 0))), (q_4, .inl (cI, 11, .inl (fun _ => 0))), (q_5, .inl (cI, 12, .inl (fun _ => 0))), (q_6, .inl (cJ, 13, .inr (.inl (fun _ => 0)))), (q_7, .inl (cI, 11, .inl (fun _ => 0))), (q_8, .inl (cI, 11, .inl (fun _ => 0))), (q_9, .inl (cI, 2400, .inl (fun _ => 0))), (q_10, .inl (cI, 2400, .inl (fun _ => 0))), (q_11, .inl (cJ, 105600, .inr (.inl (fun _ => 0)))), (q_12, .inl (cJ, 2400, .inr (.inl (fun _ => 0)))), (q_13, .inl (cJ, 2400, .inr (.inl (fun _ => 0)))), (q_14, .inl (cJ, 549, .inr (.inl (fun _ => 0)))), (q_15, .inl (cJ, 549, .inr (.inl (fun _ => 0)))), (q_16, .inl (cJ, 549, .inr (.inl (fun _ => 0)))), (q_17, .inl (cJ, 549, .inr (.inl (fun _ => 0))))] := hD
  refine W.widen (k := 17) (n := 117487) (by omega) (by omega) ?_
  refine va_putF (D := D) (ci := 6) (v := .ref q_17) (ty := .array .long) (C := RX6) (T := TX6) (N := 39) hx hb hts in_X6_init_X6 tyX6 tyX6_ok nmX6 hown hK hP hD hS 0 rfl rfl 38 (by decide) (hts _ wd_X6_init_29) (fun _ h9 => h9) rfl hin rfl (by decide +kernel) rfl rfl (Nat.le_of_ble_eq_true rfl) dX6_init_182 (fun H locs hP hD hS => ?_)
  have hP : va_P D vwCl [(m0, .inr (6, [.ref q_1, .ref q_2, .ref q_3, .ref q_4, .int 0, .ref q_5, .int 0, .int 0, .int 21, .int 17, .int 0, .int 1, .int 1, .int 1, .int 3, .long 1, .int 0, .ref q_6, .ref q_7, .ref q_8, .int 0, .ref q_9, .ref q_10, .ref q_11, .ref q_12, .ref q_13, .int 0, .int 0, .int 0, .int 0, .int 0, .int 0, .int 0, .int 0, .int 0, .ref q_14, .ref q_15, .ref q_16, .ref q_17])), (q_1, .inl (cI, 11, .inl (fun _ => 0))), (q_2, .inl (cI, 11, .inl (fun _ => 0))), (q_3, .inl (cI, 11, .inl (fun _ => 0))), (q_4, .inl (cI, 11, .inl (fun _ => 0))), (q_5, .inl (cI, 12, .inl (fun _ => 0))), (q_6, .inl (cJ, 13, .inr (.inl (fun _ => 0)))), (q_7, .inl (cI, 11, .inl (fun _ => 0))), (q_8, .inl (cI, 11, .inl (fun _ => 0))), (q_9, .inl (cI, 2400, .inl (fun _ => 0))), (q_10, .inl (cI, 2400, .inl (fun _ => 0))), (q_11, .inl (cJ, 105600, .inr (.inl (fun _ => 0)))), (q_12, .inl (cJ, 2400, .inr (.inl (fun _ => 0)))), (q_13, .inl (cJ, 2400, .inr (.inl (fun _ => 0)))), (q_14, .inl (cJ, 549, .inr (.inl (fun _ => 0)))), (q_15, .inl (cJ, 549, .inr (.inl (fun _ => 0)))), (q_16, .inl (cJ, 549, .inr (.inl (fun _ => 0)))), (q_17, .inl (cJ, 549, .inr (.inl (fun _ => 0))))] H := hP
  have hD : va_D A [(m0, .inr (6, [.ref q_1, .ref q_2, .ref q_3, .ref q_4, .int 0, .ref q_5, .int 0, .int 0, .int 21, .int 17, .int 0, .int 1, .int 1, .int 1, .int 3, .long 1, .int 0, .ref q_6, .ref q_7, .ref q_8, .int 0, .ref q_9, .ref q_10, .ref q_11, .ref q_12, .ref q_13, .int 0, .int 0, .int 0, .int 0, .int 0, .int 0, .int 0, .int 0, .int 0, .ref q_14, .ref q_15, .ref q_16, .ref q_17])), (q_1, .inl (cI, 11, .inl (fun _ => 0))), (q_2, .inl (cI, 11, .inl (fun _ => 0))), (q_3, .inl (cI, 11, .inl (fun _ => 0))), (q_4, .inl (cI, 11, .inl (fun _ => 0))), (q_5, .inl (cI, 12, .inl (fun _ => 0))), (q_6, .inl (cJ, 13, .inr (.inl (fun _ => 0)))), (q_7, .inl (cI, 11, .inl (fun _ => 0))), (q_8, .inl (cI, 11, .inl (fun _ => 0))), (q_9, .inl (cI, 2400, .inl (fun _ => 0))), (q_10, .inl (cI, 2400, .inl (fun _ => 0))), (q_11, .inl (cJ, 105600, .inr (.inl (fun _ => 0)))), (q_12, .inl (cJ, 2400, .inr (.inl (fun _ => 0)))), (q_13, .inl (cJ, 2400, .inr (.inl (fun _ => 0)))), (q_14, .inl (cJ, 549, .inr (.inl (fun _ => 0)))), (q_15, .inl (cJ, 549, .inr (.inl (fun _ => 0)))), (q_16, .inl (cJ, 549, .inr (.inl (fun _ => 0)))), (q_17, .inl (cJ, 549, .inr (.inl (fun _ => 0))))] := hD
  refine lv_lconst (v := 1) hx hb dX6_init_185 (by decide) ?_
  refine lv_lstore_n (lv' := [(1, .long 1), (0, .ref m0)]) hx hb dX6_init_186 rfl hl (by decide) rfl (fun ls hl => ?_)
  refine lv_iconst (v := 0) hx hb dX6_init_187 (by decide) ?_
  refine lv_istore_n (lv' := [(3, .int 0), (1, .long 1), (0, .ref m0)]) hx hb dX6_init_188 rfl hl (by decide) rfl (fun ls hl => ?_)
  refine lv_iload_n hx hb dX6_init_189 rfl (lv_at hl 0 rfl) ?_
  refine lv_bipush (v := 12) hx hb dX6_init_190 (by decide) ?_
  refine lv_icmp_gt (tgt := 215) hx hb dX6_init_192 (by decide) (fun c192_18 => ?_) (fun c192_18 => ?_)
  · exact absurd c192_18 (by decide)
  refine lv_aload_n hx hb dX6_init_195 rfl (lv_at hl 2 rfl) ?_
  refine va_get (D := D) (ci := 6) (v := .ref q_6) (C := RX6) (T := TX6) (N := 39) hx hb hts in_X6_init_X6 hown hK hP 0 rfl rfl 17 (by decide) (hts _ wd_X6_init_17) (fun _ h9 => h9) rfl dX6_init_196 ?_
  refine lv_iload_n hx hb dX6_init_199 rfl (lv_at hl 0 rfl) ?_
  refine lv_lload_n hx hb dX6_init_200 rfl (lv_at hl 1 rfl) ?_
  refine va_last hx hb hK hP hD hS 6 1 rfl rfl (show ¬ ((0 : Int32) < 0 ∨ 13 ≤ (0 : Int32).toNatClampNeg) by decide) dX6_init_201 (fun H locs hP hD hS => ?_)
  have hP : va_P D vwCl [(m0, .inr (6, [.ref q_1, .ref q_2, .ref q_3, .ref q_4, .int 0, .ref q_5, .int 0, .int 0, .int 21, .int 17, .int 0, .int 1, .int 1, .int 1, .int 3, .long 1, .int 0, .ref q_6, .ref q_7, .ref q_8, .int 0, .ref q_9, .ref q_10, .ref q_11, .ref q_12, .ref q_13, .int 0, .int 0, .int 0, .int 0, .int 0, .int 0, .int 0, .int 0, .int 0, .ref q_14, .ref q_15, .ref q_16, .ref q_17])), (q_1, .inl (cI, 11, .inl (fun _ => 0))), (q_2, .inl (cI, 11, .inl (fun _ => 0))), (q_3, .inl (cI, 11, .inl (fun _ => 0))), (q_4, .inl (cI, 11, .inl (fun _ => 0))), (q_5, .inl (cI, 12, .inl (fun _ => 0))), (q_6, .inl (cJ, 13, .inr (.inl (vp_updL (fun _ => 0) (0 : Int32).toNatClampNeg 1)))), (q_7, .inl (cI, 11, .inl (fun _ => 0))), (q_8, .inl (cI, 11, .inl (fun _ => 0))), (q_9, .inl (cI, 2400, .inl (fun _ => 0))), (q_10, .inl (cI, 2400, .inl (fun _ => 0))), (q_11, .inl (cJ, 105600, .inr (.inl (fun _ => 0)))), (q_12, .inl (cJ, 2400, .inr (.inl (fun _ => 0)))), (q_13, .inl (cJ, 2400, .inr (.inl (fun _ => 0)))), (q_14, .inl (cJ, 549, .inr (.inl (fun _ => 0)))), (q_15, .inl (cJ, 549, .inr (.inl (fun _ => 0)))), (q_16, .inl (cJ, 549, .inr (.inl (fun _ => 0)))), (q_17, .inl (cJ, 549, .inr (.inl (fun _ => 0))))] H := hP
  have hD : va_D A [(m0, .inr (6, [.ref q_1, .ref q_2, .ref q_3, .ref q_4, .int 0, .ref q_5, .int 0, .int 0, .int 21, .int 17, .int 0, .int 1, .int 1, .int 1, .int 3, .long 1, .int 0, .ref q_6, .ref q_7, .ref q_8, .int 0, .ref q_9, .ref q_10, .ref q_11, .ref q_12, .ref q_13, .int 0, .int 0, .int 0, .int 0, .int 0, .int 0, .int 0, .int 0, .int 0, .ref q_14, .ref q_15, .ref q_16, .ref q_17])), (q_1, .inl (cI, 11, .inl (fun _ => 0))), (q_2, .inl (cI, 11, .inl (fun _ => 0))), (q_3, .inl (cI, 11, .inl (fun _ => 0))), (q_4, .inl (cI, 11, .inl (fun _ => 0))), (q_5, .inl (cI, 12, .inl (fun _ => 0))), (q_6, .inl (cJ, 13, .inr (.inl (vp_updL (fun _ => 0) (0 : Int32).toNatClampNeg 1)))), (q_7, .inl (cI, 11, .inl (fun _ => 0))), (q_8, .inl (cI, 11, .inl (fun _ => 0))), (q_9, .inl (cI, 2400, .inl (fun _ => 0))), (q_10, .inl (cI, 2400, .inl (fun _ => 0))), (q_11, .inl (cJ, 105600, .inr (.inl (fun _ => 0)))), (q_12, .inl (cJ, 2400, .inr (.inl (fun _ => 0)))), (q_13, .inl (cJ, 2400, .inr (.inl (fun _ => 0)))), (q_14, .inl (cJ, 549, .inr (.inl (fun _ => 0)))), (q_15, .inl (cJ, 549, .inr (.inl (fun _ => 0)))), (q_16, .inl (cJ, 549, .inr (.inl (fun _ => 0)))), (q_17, .inl (cJ, 549, .inr (.inl (fun _ => 0))))] := hD
  refine lv_lload_n hx hb dX6_init_202 rfl (lv_at hl 1 rfl) ?_
  refine lv_iload_n hx hb dX6_init_203 rfl (lv_at hl 0 rfl) ?_
  refine lv_i2l (v := 0) hx hb dX6_init_204 (by decide) ?_
  refine lv_lconst (v := 1) hx hb dX6_init_205 (by decide) ?_
  refine lv_ladd hx hb dX6_init_206 ?_
  refine lv_topl (fun z_19 ez_19 => ?_)
  obtain rfl : z_19 = 1 := ez_19.trans (by decide)
  refine lv_lmul hx hb dX6_init_207 ?_
  refine lv_topl (fun z_20 ez_20 => ?_)
  obtain rfl : z_20 = 1 := ez_20.trans (by decide)
  refine lv_lstore_n (lv' := [(1, .long 1), (3, .int 0), (0, .ref m0)]) hx hb dX6_init_208 rfl hl (by decide) rfl (fun ls hl => ?_)
  refine lv_iinc (v := 1) (lv' := [(3, .int 1), (1, .long 1), (0, .ref m0)]) hx hb dX6_init_209 hl (k := 1) rfl (by decide) (by decide) rfl (fun ls hl => ?_)
  refine lv_goto (tgt := 189) hx hb dX6_init_212 (by decide) ?_
  refine lv_iload_n hx hb dX6_init_189 rfl (lv_at hl 0 rfl) ?_
  refine lv_bipush (v := 12) hx hb dX6_init_190 (by decide) ?_
  refine lv_icmp_gt (tgt := 215) hx hb dX6_init_192 (by decide) (fun c192_21 => ?_) (fun c192_21 => ?_)
  · exact absurd c192_21 (by decide)
  refine lv_aload_n hx hb dX6_init_195 rfl (lv_at hl 2 rfl) ?_
  refine va_get (D := D) (ci := 6) (v := .ref q_6) (C := RX6) (T := TX6) (N := 39) hx hb hts in_X6_init_X6 hown hK hP 0 rfl rfl 17 (by decide) (hts _ wd_X6_init_17) (fun _ h9 => h9) rfl dX6_init_196 ?_
  refine lv_iload_n hx hb dX6_init_199 rfl (lv_at hl 0 rfl) ?_
  refine lv_lload_n hx hb dX6_init_200 rfl (lv_at hl 1 rfl) ?_
  refine va_last hx hb hK hP hD hS 6 1 rfl rfl (show ¬ ((1 : Int32) < 0 ∨ 13 ≤ (1 : Int32).toNatClampNeg) by decide) dX6_init_201 (fun H locs hP hD hS => ?_)
  have hP : va_P D vwCl [(m0, .inr (6, [.ref q_1, .ref q_2, .ref q_3, .ref q_4, .int 0, .ref q_5, .int 0, .int 0, .int 21, .int 17, .int 0, .int 1, .int 1, .int 1, .int 3, .long 1, .int 0, .ref q_6, .ref q_7, .ref q_8, .int 0, .ref q_9, .ref q_10, .ref q_11, .ref q_12, .ref q_13, .int 0, .int 0, .int 0, .int 0, .int 0, .int 0, .int 0, .int 0, .int 0, .ref q_14, .ref q_15, .ref q_16, .ref q_17])), (q_1, .inl (cI, 11, .inl (fun _ => 0))), (q_2, .inl (cI, 11, .inl (fun _ => 0))), (q_3, .inl (cI, 11, .inl (fun _ => 0))), (q_4, .inl (cI, 11, .inl (fun _ => 0))), (q_5, .inl (cI, 12, .inl (fun _ => 0))), (q_6, .inl (cJ, 13, .inr (.inl (vp_updL (vp_updL (fun _ => 0) (0 : Int32).toNatClampNeg 1) (1 : Int32).toNatClampNeg 1)))), (q_7, .inl (cI, 11, .inl (fun _ => 0))), (q_8, .inl (cI, 11, .inl (fun _ => 0))), (q_9, .inl (cI, 2400, .inl (fun _ => 0))), (q_10, .inl (cI, 2400, .inl (fun _ => 0))), (q_11, .inl (cJ, 105600, .inr (.inl (fun _ => 0)))), (q_12, .inl (cJ, 2400, .inr (.inl (fun _ => 0)))), (q_13, .inl (cJ, 2400, .inr (.inl (fun _ => 0)))), (q_14, .inl (cJ, 549, .inr (.inl (fun _ => 0)))), (q_15, .inl (cJ, 549, .inr (.inl (fun _ => 0)))), (q_16, .inl (cJ, 549, .inr (.inl (fun _ => 0)))), (q_17, .inl (cJ, 549, .inr (.inl (fun _ => 0))))] H := hP
  have hD : va_D A [(m0, .inr (6, [.ref q_1, .ref q_2, .ref q_3, .ref q_4, .int 0, .ref q_5, .int 0, .int 0, .int 21, .int 17, .int 0, .int 1, .int 1, .int 1, .int 3, .long 1, .int 0, .ref q_6, .ref q_7, .ref q_8, .int 0, .ref q_9, .ref q_10, .ref q_11, .ref q_12, .ref q_13, .int 0, .int 0, .int 0, .int 0, .int 0, .int 0, .int 0, .int 0, .int 0, .ref q_14, .ref q_15, .ref q_16, .ref q_17])), (q_1, .inl (cI, 11, .inl (fun _ => 0))), (q_2, .inl (cI, 11, .inl (fun _ => 0))), (q_3, .inl (cI, 11, .inl (fun _ => 0))), (q_4, .inl (cI, 11, .inl (fun _ => 0))), (q_5, .inl (cI, 12, .inl (fun _ => 0))), (q_6, .inl (cJ, 13, .inr (.inl (vp_updL (vp_updL (fun _ => 0) (0 : Int32).toNatClampNeg 1) (1 : Int32).toNatClampNeg 1)))), (q_7, .inl (cI, 11, .inl (fun _ => 0))), (q_8, .inl (cI, 11, .inl (fun _ => 0))), (q_9, .inl (cI, 2400, .inl (fun _ => 0))), (q_10, .inl (cI, 2400, .inl (fun _ => 0))), (q_11, .inl (cJ, 105600, .inr (.inl (fun _ => 0)))), (q_12, .inl (cJ, 2400, .inr (.inl (fun _ => 0)))), (q_13, .inl (cJ, 2400, .inr (.inl (fun _ => 0)))), (q_14, .inl (cJ, 549, .inr (.inl (fun _ => 0)))), (q_15, .inl (cJ, 549, .inr (.inl (fun _ => 0)))), (q_16, .inl (cJ, 549, .inr (.inl (fun _ => 0)))), (q_17, .inl (cJ, 549, .inr (.inl (fun _ => 0))))] := hD
  refine lv_lload_n hx hb dX6_init_202 rfl (lv_at hl 1 rfl) ?_
  refine lv_iload_n hx hb dX6_init_203 rfl (lv_at hl 0 rfl) ?_
  refine lv_i2l (v := 1) hx hb dX6_init_204 (by decide) ?_
  refine lv_lconst (v := 1) hx hb dX6_init_205 (by decide) ?_
  refine lv_ladd hx hb dX6_init_206 ?_
  refine lv_topl (fun z_22 ez_22 => ?_)
  obtain rfl : z_22 = 2 := ez_22.trans (by decide)
  refine lv_lmul hx hb dX6_init_207 ?_
  refine lv_topl (fun z_23 ez_23 => ?_)
  obtain rfl : z_23 = 2 := ez_23.trans (by decide)
  refine lv_lstore_n (lv' := [(1, .long 2), (3, .int 1), (0, .ref m0)]) hx hb dX6_init_208 rfl hl (by decide) rfl (fun ls hl => ?_)
  refine lv_iinc (v := 2) (lv' := [(3, .int 2), (1, .long 2), (0, .ref m0)]) hx hb dX6_init_209 hl (k := 1) rfl (by decide) (by decide) rfl (fun ls hl => ?_)
  refine lv_goto (tgt := 189) hx hb dX6_init_212 (by decide) ?_
  refine lv_iload_n hx hb dX6_init_189 rfl (lv_at hl 0 rfl) ?_
  refine lv_bipush (v := 12) hx hb dX6_init_190 (by decide) ?_
  refine lv_icmp_gt (tgt := 215) hx hb dX6_init_192 (by decide) (fun c192_24 => ?_) (fun c192_24 => ?_)
  · exact absurd c192_24 (by decide)
  refine lv_aload_n hx hb dX6_init_195 rfl (lv_at hl 2 rfl) ?_
  refine va_get (D := D) (ci := 6) (v := .ref q_6) (C := RX6) (T := TX6) (N := 39) hx hb hts in_X6_init_X6 hown hK hP 0 rfl rfl 17 (by decide) (hts _ wd_X6_init_17) (fun _ h9 => h9) rfl dX6_init_196 ?_
  refine lv_iload_n hx hb dX6_init_199 rfl (lv_at hl 0 rfl) ?_
  refine lv_lload_n hx hb dX6_init_200 rfl (lv_at hl 1 rfl) ?_
  refine va_last hx hb hK hP hD hS 6 1 rfl rfl (show ¬ ((2 : Int32) < 0 ∨ 13 ≤ (2 : Int32).toNatClampNeg) by decide) dX6_init_201 (fun H locs hP hD hS => ?_)
  have hP : va_P D vwCl [(m0, .inr (6, [.ref q_1, .ref q_2, .ref q_3, .ref q_4, .int 0, .ref q_5, .int 0, .int 0, .int 21, .int 17, .int 0, .int 1, .int 1, .int 1, .int 3, .long 1, .int 0, .ref q_6, .ref q_7, .ref q_8, .int 0, .ref q_9, .ref q_10, .ref q_11, .ref q_12, .ref q_13, .int 0, .int 0, .int 0, .int 0, .int 0, .int 0, .int 0, .int 0, .int 0, .ref q_14, .ref q_15, .ref q_16, .ref q_17])), (q_1, .inl (cI, 11, .inl (fun _ => 0))), (q_2, .inl (cI, 11, .inl (fun _ => 0))), (q_3, .inl (cI, 11, .inl (fun _ => 0))), (q_4, .inl (cI, 11, .inl (fun _ => 0))), (q_5, .inl (cI, 12, .inl (fun _ => 0))), (q_6, .inl (cJ, 13, .inr (.inl (vp_updL (vp_updL (vp_updL (fun _ => 0) (0 : Int32).toNatClampNeg 1) (1 : Int32).toNatClampNeg 1) (2 : Int32).toNatClampNeg 2)))), (q_7, .inl (cI, 11, .inl (fun _ => 0))), (q_8, .inl (cI, 11, .inl (fun _ => 0))), (q_9, .inl (cI, 2400, .inl (fun _ => 0))), (q_10, .inl (cI, 2400, .inl (fun _ => 0))), (q_11, .inl (cJ, 105600, .inr (.inl (fun _ => 0)))), (q_12, .inl (cJ, 2400, .inr (.inl (fun _ => 0)))), (q_13, .inl (cJ, 2400, .inr (.inl (fun _ => 0)))), (q_14, .inl (cJ, 549, .inr (.inl (fun _ => 0)))), (q_15, .inl (cJ, 549, .inr (.inl (fun _ => 0)))), (q_16, .inl (cJ, 549, .inr (.inl (fun _ => 0)))), (q_17, .inl (cJ, 549, .inr (.inl (fun _ => 0))))] H := hP
  have hD : va_D A [(m0, .inr (6, [.ref q_1, .ref q_2, .ref q_3, .ref q_4, .int 0, .ref q_5, .int 0, .int 0, .int 21, .int 17, .int 0, .int 1, .int 1, .int 1, .int 3, .long 1, .int 0, .ref q_6, .ref q_7, .ref q_8, .int 0, .ref q_9, .ref q_10, .ref q_11, .ref q_12, .ref q_13, .int 0, .int 0, .int 0, .int 0, .int 0, .int 0, .int 0, .int 0, .int 0, .ref q_14, .ref q_15, .ref q_16, .ref q_17])), (q_1, .inl (cI, 11, .inl (fun _ => 0))), (q_2, .inl (cI, 11, .inl (fun _ => 0))), (q_3, .inl (cI, 11, .inl (fun _ => 0))), (q_4, .inl (cI, 11, .inl (fun _ => 0))), (q_5, .inl (cI, 12, .inl (fun _ => 0))), (q_6, .inl (cJ, 13, .inr (.inl (vp_updL (vp_updL (vp_updL (fun _ => 0) (0 : Int32).toNatClampNeg 1) (1 : Int32).toNatClampNeg 1) (2 : Int32).toNatClampNeg 2)))), (q_7, .inl (cI, 11, .inl (fun _ => 0))), (q_8, .inl (cI, 11, .inl (fun _ => 0))), (q_9, .inl (cI, 2400, .inl (fun _ => 0))), (q_10, .inl (cI, 2400, .inl (fun _ => 0))), (q_11, .inl (cJ, 105600, .inr (.inl (fun _ => 0)))), (q_12, .inl (cJ, 2400, .inr (.inl (fun _ => 0)))), (q_13, .inl (cJ, 2400, .inr (.inl (fun _ => 0)))), (q_14, .inl (cJ, 549, .inr (.inl (fun _ => 0)))), (q_15, .inl (cJ, 549, .inr (.inl (fun _ => 0)))), (q_16, .inl (cJ, 549, .inr (.inl (fun _ => 0)))), (q_17, .inl (cJ, 549, .inr (.inl (fun _ => 0))))] := hD
  refine lv_lload_n hx hb dX6_init_202 rfl (lv_at hl 1 rfl) ?_
  refine lv_iload_n hx hb dX6_init_203 rfl (lv_at hl 0 rfl) ?_
  refine lv_i2l (v := 2) hx hb dX6_init_204 (by decide) ?_
  refine lv_lconst (v := 1) hx hb dX6_init_205 (by decide) ?_
  refine lv_ladd hx hb dX6_init_206 ?_
  refine lv_topl (fun z_25 ez_25 => ?_)
  obtain rfl : z_25 = 3 := ez_25.trans (by decide)
  refine lv_lmul hx hb dX6_init_207 ?_
  refine lv_topl (fun z_26 ez_26 => ?_)
  obtain rfl : z_26 = 6 := ez_26.trans (by decide)
  refine lv_lstore_n (lv' := [(1, .long 6), (3, .int 2), (0, .ref m0)]) hx hb dX6_init_208 rfl hl (by decide) rfl (fun ls hl => ?_)
  refine lv_iinc (v := 3) (lv' := [(3, .int 3), (1, .long 6), (0, .ref m0)]) hx hb dX6_init_209 hl (k := 1) rfl (by decide) (by decide) rfl (fun ls hl => ?_)
  refine lv_goto (tgt := 189) hx hb dX6_init_212 (by decide) ?_
  refine lv_iload_n hx hb dX6_init_189 rfl (lv_at hl 0 rfl) ?_
  refine lv_bipush (v := 12) hx hb dX6_init_190 (by decide) ?_
  refine lv_icmp_gt (tgt := 215) hx hb dX6_init_192 (by decide) (fun c192_27 => ?_) (fun c192_27 => ?_)
  · exact absurd c192_27 (by decide)
  refine lv_aload_n hx hb dX6_init_195 rfl (lv_at hl 2 rfl) ?_
  refine va_get (D := D) (ci := 6) (v := .ref q_6) (C := RX6) (T := TX6) (N := 39) hx hb hts in_X6_init_X6 hown hK hP 0 rfl rfl 17 (by decide) (hts _ wd_X6_init_17) (fun _ h9 => h9) rfl dX6_init_196 ?_
  refine lv_iload_n hx hb dX6_init_199 rfl (lv_at hl 0 rfl) ?_
  refine lv_lload_n hx hb dX6_init_200 rfl (lv_at hl 1 rfl) ?_
  refine va_last hx hb hK hP hD hS 6 1 rfl rfl (show ¬ ((3 : Int32) < 0 ∨ 13 ≤ (3 : Int32).toNatClampNeg) by decide) dX6_init_201 (fun H locs hP hD hS => ?_)
  have hP : va_P D vwCl [(m0, .inr (6, [.ref q_1, .ref q_2, .ref q_3, .ref q_4, .int 0, .ref q_5, .int 0, .int 0, .int 21, .int 17, .int 0, .int 1, .int 1, .int 1, .int 3, .long 1, .int 0, .ref q_6, .ref q_7, .ref q_8, .int 0, .ref q_9, .ref q_10, .ref q_11, .ref q_12, .ref q_13, .int 0, .int 0, .int 0, .int 0, .int 0, .int 0, .int 0, .int 0, .int 0, .ref q_14, .ref q_15, .ref q_16, .ref q_17])), (q_1, .inl (cI, 11, .inl (fun _ => 0))), (q_2, .inl (cI, 11, .inl (fun _ => 0))), (q_3, .inl (cI, 11, .inl (fun _ => 0))), (q_4, .inl (cI, 11, .inl (fun _ => 0))), (q_5, .inl (cI, 12, .inl (fun _ => 0))), (q_6, .inl (cJ, 13, .inr (.inl (vp_updL (vp_updL (vp_updL (vp_updL (fun _ => 0) (0 : Int32).toNatClampNeg 1) (1 : Int32).toNatClampNeg 1) (2 : Int32).toNatClampNeg 2) (3 : Int32).toNatClampNeg 6)))), (q_7, .inl (cI, 11, .inl (fun _ => 0))), (q_8, .inl (cI, 11, .inl (fun _ => 0))), (q_9, .inl (cI, 2400, .inl (fun _ => 0))), (q_10, .inl (cI, 2400, .inl (fun _ => 0))), (q_11, .inl (cJ, 105600, .inr (.inl (fun _ => 0)))), (q_12, .inl (cJ, 2400, .inr (.inl (fun _ => 0)))), (q_13, .inl (cJ, 2400, .inr (.inl (fun _ => 0)))), (q_14, .inl (cJ, 549, .inr (.inl (fun _ => 0)))), (q_15, .inl (cJ, 549, .inr (.inl (fun _ => 0)))), (q_16, .inl (cJ, 549, .inr (.inl (fun _ => 0)))), (q_17, .inl (cJ, 549, .inr (.inl (fun _ => 0))))] H := hP
  have hD : va_D A [(m0, .inr (6, [.ref q_1, .ref q_2, .ref q_3, .ref q_4, .int 0, .ref q_5, .int 0, .int 0, .int 21, .int 17, .int 0, .int 1, .int 1, .int 1, .int 3, .long 1, .int 0, .ref q_6, .ref q_7, .ref q_8, .int 0, .ref q_9, .ref q_10, .ref q_11, .ref q_12, .ref q_13, .int 0, .int 0, .int 0, .int 0, .int 0, .int 0, .int 0, .int 0, .int 0, .ref q_14, .ref q_15, .ref q_16, .ref q_17])), (q_1, .inl (cI, 11, .inl (fun _ => 0))), (q_2, .inl (cI, 11, .inl (fun _ => 0))), (q_3, .inl (cI, 11, .inl (fun _ => 0))), (q_4, .inl (cI, 11, .inl (fun _ => 0))), (q_5, .inl (cI, 12, .inl (fun _ => 0))), (q_6, .inl (cJ, 13, .inr (.inl (vp_updL (vp_updL (vp_updL (vp_updL (fun _ => 0) (0 : Int32).toNatClampNeg 1) (1 : Int32).toNatClampNeg 1) (2 : Int32).toNatClampNeg 2) (3 : Int32).toNatClampNeg 6)))), (q_7, .inl (cI, 11, .inl (fun _ => 0))), (q_8, .inl (cI, 11, .inl (fun _ => 0))), (q_9, .inl (cI, 2400, .inl (fun _ => 0))), (q_10, .inl (cI, 2400, .inl (fun _ => 0))), (q_11, .inl (cJ, 105600, .inr (.inl (fun _ => 0)))), (q_12, .inl (cJ, 2400, .inr (.inl (fun _ => 0)))), (q_13, .inl (cJ, 2400, .inr (.inl (fun _ => 0)))), (q_14, .inl (cJ, 549, .inr (.inl (fun _ => 0)))), (q_15, .inl (cJ, 549, .inr (.inl (fun _ => 0)))), (q_16, .inl (cJ, 549, .inr (.inl (fun _ => 0)))), (q_17, .inl (cJ, 549, .inr (.inl (fun _ => 0))))] := hD
  refine lv_lload_n hx hb dX6_init_202 rfl (lv_at hl 1 rfl) ?_
  refine lv_iload_n hx hb dX6_init_203 rfl (lv_at hl 0 rfl) ?_
  refine lv_i2l (v := 3) hx hb dX6_init_204 (by decide) ?_
  refine lv_lconst (v := 1) hx hb dX6_init_205 (by decide) ?_
  refine lv_ladd hx hb dX6_init_206 ?_
  refine lv_topl (fun z_28 ez_28 => ?_)
  obtain rfl : z_28 = 4 := ez_28.trans (by decide)
  refine lv_lmul hx hb dX6_init_207 ?_
  refine lv_topl (fun z_29 ez_29 => ?_)
  obtain rfl : z_29 = 24 := ez_29.trans (by decide)
  refine lv_lstore_n (lv' := [(1, .long 24), (3, .int 3), (0, .ref m0)]) hx hb dX6_init_208 rfl hl (by decide) rfl (fun ls hl => ?_)
  refine lv_iinc (v := 4) (lv' := [(3, .int 4), (1, .long 24), (0, .ref m0)]) hx hb dX6_init_209 hl (k := 1) rfl (by decide) (by decide) rfl (fun ls hl => ?_)
  refine lv_goto (tgt := 189) hx hb dX6_init_212 (by decide) ?_
  refine lv_iload_n hx hb dX6_init_189 rfl (lv_at hl 0 rfl) ?_
  refine lv_bipush (v := 12) hx hb dX6_init_190 (by decide) ?_
  refine lv_icmp_gt (tgt := 215) hx hb dX6_init_192 (by decide) (fun c192_30 => ?_) (fun c192_30 => ?_)
  · exact absurd c192_30 (by decide)
  refine lv_aload_n hx hb dX6_init_195 rfl (lv_at hl 2 rfl) ?_
  refine va_get (D := D) (ci := 6) (v := .ref q_6) (C := RX6) (T := TX6) (N := 39) hx hb hts in_X6_init_X6 hown hK hP 0 rfl rfl 17 (by decide) (hts _ wd_X6_init_17) (fun _ h9 => h9) rfl dX6_init_196 ?_
  refine lv_iload_n hx hb dX6_init_199 rfl (lv_at hl 0 rfl) ?_
  refine lv_lload_n hx hb dX6_init_200 rfl (lv_at hl 1 rfl) ?_
  refine va_last hx hb hK hP hD hS 6 1 rfl rfl (show ¬ ((4 : Int32) < 0 ∨ 13 ≤ (4 : Int32).toNatClampNeg) by decide) dX6_init_201 (fun H locs hP hD hS => ?_)
  have hP : va_P D vwCl [(m0, .inr (6, [.ref q_1, .ref q_2, .ref q_3, .ref q_4, .int 0, .ref q_5, .int 0, .int 0, .int 21, .int 17, .int 0, .int 1, .int 1, .int 1, .int 3, .long 1, .int 0, .ref q_6, .ref q_7, .ref q_8, .int 0, .ref q_9, .ref q_10, .ref q_11, .ref q_12, .ref q_13, .int 0, .int 0, .int 0, .int 0, .int 0, .int 0, .int 0, .int 0, .int 0, .ref q_14, .ref q_15, .ref q_16, .ref q_17])), (q_1, .inl (cI, 11, .inl (fun _ => 0))), (q_2, .inl (cI, 11, .inl (fun _ => 0))), (q_3, .inl (cI, 11, .inl (fun _ => 0))), (q_4, .inl (cI, 11, .inl (fun _ => 0))), (q_5, .inl (cI, 12, .inl (fun _ => 0))), (q_6, .inl (cJ, 13, .inr (.inl (vp_updL (vp_updL (vp_updL (vp_updL (vp_updL (fun _ => 0) (0 : Int32).toNatClampNeg 1) (1 : Int32).toNatClampNeg 1) (2 : Int32).toNatClampNeg 2) (3 : Int32).toNatClampNeg 6) (4 : Int32).toNatClampNeg 24)))), (q_7, .inl (cI, 11, .inl (fun _ => 0))), (q_8, .inl (cI, 11, .inl (fun _ => 0))), (q_9, .inl (cI, 2400, .inl (fun _ => 0))), (q_10, .inl (cI, 2400, .inl (fun _ => 0))), (q_11, .inl (cJ, 105600, .inr (.inl (fun _ => 0)))), (q_12, .inl (cJ, 2400, .inr (.inl (fun _ => 0)))), (q_13, .inl (cJ, 2400, .inr (.inl (fun _ => 0)))), (q_14, .inl (cJ, 549, .inr (.inl (fun _ => 0)))), (q_15, .inl (cJ, 549, .inr (.inl (fun _ => 0)))), (q_16, .inl (cJ, 549, .inr (.inl (fun _ => 0)))), (q_17, .inl (cJ, 549, .inr (.inl (fun _ => 0))))] H := hP
  have hD : va_D A [(m0, .inr (6, [.ref q_1, .ref q_2, .ref q_3, .ref q_4, .int 0, .ref q_5, .int 0, .int 0, .int 21, .int 17, .int 0, .int 1, .int 1, .int 1, .int 3, .long 1, .int 0, .ref q_6, .ref q_7, .ref q_8, .int 0, .ref q_9, .ref q_10, .ref q_11, .ref q_12, .ref q_13, .int 0, .int 0, .int 0, .int 0, .int 0, .int 0, .int 0, .int 0, .int 0, .ref q_14, .ref q_15, .ref q_16, .ref q_17])), (q_1, .inl (cI, 11, .inl (fun _ => 0))), (q_2, .inl (cI, 11, .inl (fun _ => 0))), (q_3, .inl (cI, 11, .inl (fun _ => 0))), (q_4, .inl (cI, 11, .inl (fun _ => 0))), (q_5, .inl (cI, 12, .inl (fun _ => 0))), (q_6, .inl (cJ, 13, .inr (.inl (vp_updL (vp_updL (vp_updL (vp_updL (vp_updL (fun _ => 0) (0 : Int32).toNatClampNeg 1) (1 : Int32).toNatClampNeg 1) (2 : Int32).toNatClampNeg 2) (3 : Int32).toNatClampNeg 6) (4 : Int32).toNatClampNeg 24)))), (q_7, .inl (cI, 11, .inl (fun _ => 0))), (q_8, .inl (cI, 11, .inl (fun _ => 0))), (q_9, .inl (cI, 2400, .inl (fun _ => 0))), (q_10, .inl (cI, 2400, .inl (fun _ => 0))), (q_11, .inl (cJ, 105600, .inr (.inl (fun _ => 0)))), (q_12, .inl (cJ, 2400, .inr (.inl (fun _ => 0)))), (q_13, .inl (cJ, 2400, .inr (.inl (fun _ => 0)))), (q_14, .inl (cJ, 549, .inr (.inl (fun _ => 0)))), (q_15, .inl (cJ, 549, .inr (.inl (fun _ => 0)))), (q_16, .inl (cJ, 549, .inr (.inl (fun _ => 0)))), (q_17, .inl (cJ, 549, .inr (.inl (fun _ => 0))))] := hD
  refine lv_lload_n hx hb dX6_init_202 rfl (lv_at hl 1 rfl) ?_
  refine lv_iload_n hx hb dX6_init_203 rfl (lv_at hl 0 rfl) ?_
  refine lv_i2l (v := 4) hx hb dX6_init_204 (by decide) ?_
  refine lv_lconst (v := 1) hx hb dX6_init_205 (by decide) ?_
  refine lv_ladd hx hb dX6_init_206 ?_
  refine lv_topl (fun z_31 ez_31 => ?_)
  obtain rfl : z_31 = 5 := ez_31.trans (by decide)
  refine lv_lmul hx hb dX6_init_207 ?_
  refine lv_topl (fun z_32 ez_32 => ?_)
  obtain rfl : z_32 = 120 := ez_32.trans (by decide)
  refine lv_lstore_n (lv' := [(1, .long 120), (3, .int 4), (0, .ref m0)]) hx hb dX6_init_208 rfl hl (by decide) rfl (fun ls hl => ?_)
  refine lv_iinc (v := 5) (lv' := [(3, .int 5), (1, .long 120), (0, .ref m0)]) hx hb dX6_init_209 hl (k := 1) rfl (by decide) (by decide) rfl (fun ls hl => ?_)
  refine lv_goto (tgt := 189) hx hb dX6_init_212 (by decide) ?_
  refine lv_iload_n hx hb dX6_init_189 rfl (lv_at hl 0 rfl) ?_
  refine lv_bipush (v := 12) hx hb dX6_init_190 (by decide) ?_
  refine lv_icmp_gt (tgt := 215) hx hb dX6_init_192 (by decide) (fun c192_33 => ?_) (fun c192_33 => ?_)
  · exact absurd c192_33 (by decide)
  refine lv_aload_n hx hb dX6_init_195 rfl (lv_at hl 2 rfl) ?_
  refine va_get (D := D) (ci := 6) (v := .ref q_6) (C := RX6) (T := TX6) (N := 39) hx hb hts in_X6_init_X6 hown hK hP 0 rfl rfl 17 (by decide) (hts _ wd_X6_init_17) (fun _ h9 => h9) rfl dX6_init_196 ?_
  refine lv_iload_n hx hb dX6_init_199 rfl (lv_at hl 0 rfl) ?_
  refine lv_lload_n hx hb dX6_init_200 rfl (lv_at hl 1 rfl) ?_
  refine va_last hx hb hK hP hD hS 6 1 rfl rfl (show ¬ ((5 : Int32) < 0 ∨ 13 ≤ (5 : Int32).toNatClampNeg) by decide) dX6_init_201 (fun H locs hP hD hS => ?_)
  have hP : va_P D vwCl [(m0, .inr (6, [.ref q_1, .ref q_2, .ref q_3, .ref q_4, .int 0, .ref q_5, .int 0, .int 0, .int 21, .int 17, .int 0, .int 1, .int 1, .int 1, .int 3, .long 1, .int 0, .ref q_6, .ref q_7, .ref q_8, .int 0, .ref q_9, .ref q_10, .ref q_11, .ref q_12, .ref q_13, .int 0, .int 0, .int 0, .int 0, .int 0, .int 0, .int 0, .int 0, .int 0, .ref q_14, .ref q_15, .ref q_16, .ref q_17])), (q_1, .inl (cI, 11, .inl (fun _ => 0))), (q_2, .inl (cI, 11, .inl (fun _ => 0))), (q_3, .inl (cI, 11, .inl (fun _ => 0))), (q_4, .inl (cI, 11, .inl (fun _ => 0))), (q_5, .inl (cI, 12, .inl (fun _ => 0))), (q_6, .inl (cJ, 13, .inr (.inl (vp_updL (vp_updL (vp_updL (vp_updL (vp_updL (vp_updL (fun _ => 0) (0 : Int32).toNatClampNeg 1) (1 : Int32).toNatClampNeg 1) (2 : Int32).toNatClampNeg 2) (3 : Int32).toNatClampNeg 6) (4 : Int32).toNatClampNeg 24) (5 : Int32).toNatClampNeg 120)))), (q_7, .inl (cI, 11, .inl (fun _ => 0))), (q_8, .inl (cI, 11, .inl (fun _ => 0))), (q_9, .inl (cI, 2400, .inl (fun _ => 0))), (q_10, .inl (cI, 2400, .inl (fun _ => 0))), (q_11, .inl (cJ, 105600, .inr (.inl (fun _ => 0)))), (q_12, .inl (cJ, 2400, .inr (.inl (fun _ => 0)))), (q_13, .inl (cJ, 2400, .inr (.inl (fun _ => 0)))), (q_14, .inl (cJ, 549, .inr (.inl (fun _ => 0)))), (q_15, .inl (cJ, 549, .inr (.inl (fun _ => 0)))), (q_16, .inl (cJ, 549, .inr (.inl (fun _ => 0)))), (q_17, .inl (cJ, 549, .inr (.inl (fun _ => 0))))] H := hP
  have hD : va_D A [(m0, .inr (6, [.ref q_1, .ref q_2, .ref q_3, .ref q_4, .int 0, .ref q_5, .int 0, .int 0, .int 21, .int 17, .int 0, .int 1, .int 1, .int 1, .int 3, .long 1, .int 0, .ref q_6, .ref q_7, .ref q_8, .int 0, .ref q_9, .ref q_10, .ref q_11, .ref q_12, .ref q_13, .int 0, .int 0, .int 0, .int 0, .int 0, .int 0, .int 0, .int 0, .int 0, .ref q_14, .ref q_15, .ref q_16, .ref q_17])), (q_1, .inl (cI, 11, .inl (fun _ => 0))), (q_2, .inl (cI, 11, .inl (fun _ => 0))), (q_3, .inl (cI, 11, .inl (fun _ => 0))), (q_4, .inl (cI, 11, .inl (fun _ => 0))), (q_5, .inl (cI, 12, .inl (fun _ => 0))), (q_6, .inl (cJ, 13, .inr (.inl (vp_updL (vp_updL (vp_updL (vp_updL (vp_updL (vp_updL (fun _ => 0) (0 : Int32).toNatClampNeg 1) (1 : Int32).toNatClampNeg 1) (2 : Int32).toNatClampNeg 2) (3 : Int32).toNatClampNeg 6) (4 : Int32).toNatClampNeg 24) (5 : Int32).toNatClampNeg 120)))), (q_7, .inl (cI, 11, .inl (fun _ => 0))), (q_8, .inl (cI, 11, .inl (fun _ => 0))), (q_9, .inl (cI, 2400, .inl (fun _ => 0))), (q_10, .inl (cI, 2400, .inl (fun _ => 0))), (q_11, .inl (cJ, 105600, .inr (.inl (fun _ => 0)))), (q_12, .inl (cJ, 2400, .inr (.inl (fun _ => 0)))), (q_13, .inl (cJ, 2400, .inr (.inl (fun _ => 0)))), (q_14, .inl (cJ, 549, .inr (.inl (fun _ => 0)))), (q_15, .inl (cJ, 549, .inr (.inl (fun _ => 0)))), (q_16, .inl (cJ, 549, .inr (.inl (fun _ => 0)))), (q_17, .inl (cJ, 549, .inr (.inl (fun _ => 0))))] := hD
  refine lv_lload_n hx hb dX6_init_202 rfl (lv_at hl 1 rfl) ?_
  refine lv_iload_n hx hb dX6_init_203 rfl (lv_at hl 0 rfl) ?_
  refine lv_i2l (v := 5) hx hb dX6_init_204 (by decide) ?_
  refine lv_lconst (v := 1) hx hb dX6_init_205 (by decide) ?_
  refine lv_ladd hx hb dX6_init_206 ?_
  refine lv_topl (fun z_34 ez_34 => ?_)
  obtain rfl : z_34 = 6 := ez_34.trans (by decide)
  refine lv_lmul hx hb dX6_init_207 ?_
  refine lv_topl (fun z_35 ez_35 => ?_)
  obtain rfl : z_35 = 720 := ez_35.trans (by decide)
  refine lv_lstore_n (lv' := [(1, .long 720), (3, .int 5), (0, .ref m0)]) hx hb dX6_init_208 rfl hl (by decide) rfl (fun ls hl => ?_)
  refine lv_iinc (v := 6) (lv' := [(3, .int 6), (1, .long 720), (0, .ref m0)]) hx hb dX6_init_209 hl (k := 1) rfl (by decide) (by decide) rfl (fun ls hl => ?_)
  refine lv_goto (tgt := 189) hx hb dX6_init_212 (by decide) ?_
  refine lv_iload_n hx hb dX6_init_189 rfl (lv_at hl 0 rfl) ?_
  refine lv_bipush (v := 12) hx hb dX6_init_190 (by decide) ?_
  refine lv_icmp_gt (tgt := 215) hx hb dX6_init_192 (by decide) (fun c192_36 => ?_) (fun c192_36 => ?_)
  · exact absurd c192_36 (by decide)
  refine lv_aload_n hx hb dX6_init_195 rfl (lv_at hl 2 rfl) ?_
  refine va_get (D := D) (ci := 6) (v := .ref q_6) (C := RX6) (T := TX6) (N := 39) hx hb hts in_X6_init_X6 hown hK hP 0 rfl rfl 17 (by decide) (hts _ wd_X6_init_17) (fun _ h9 => h9) rfl dX6_init_196 ?_
  refine lv_iload_n hx hb dX6_init_199 rfl (lv_at hl 0 rfl) ?_
  refine lv_lload_n hx hb dX6_init_200 rfl (lv_at hl 1 rfl) ?_
  refine va_last hx hb hK hP hD hS 6 1 rfl rfl (show ¬ ((6 : Int32) < 0 ∨ 13 ≤ (6 : Int32).toNatClampNeg) by decide) dX6_init_201 (fun H locs hP hD hS => ?_)
  have hP : va_P D vwCl [(m0, .inr (6, [.ref q_1, .ref q_2, .ref q_3, .ref q_4, .int 0, .ref q_5, .int 0, .int 0, .int 21, .int 17, .int 0, .int 1, .int 1, .int 1, .int 3, .long 1, .int 0, .ref q_6, .ref q_7, .ref q_8, .int 0, .ref q_9, .ref q_10, .ref q_11, .ref q_12, .ref q_13, .int 0, .int 0, .int 0, .int 0, .int 0, .int 0, .int 0, .int 0, .int 0, .ref q_14, .ref q_15, .ref q_16, .ref q_17])), (q_1, .inl (cI, 11, .inl (fun _ => 0))), (q_2, .inl (cI, 11, .inl (fun _ => 0))), (q_3, .inl (cI, 11, .inl (fun _ => 0))), (q_4, .inl (cI, 11, .inl (fun _ => 0))), (q_5, .inl (cI, 12, .inl (fun _ => 0))), (q_6, .inl (cJ, 13, .inr (.inl (vp_updL (vp_updL (vp_updL (vp_updL (vp_updL (vp_updL (vp_updL (fun _ => 0) (0 : Int32).toNatClampNeg 1) (1 : Int32).toNatClampNeg 1) (2 : Int32).toNatClampNeg 2) (3 : Int32).toNatClampNeg 6) (4 : Int32).toNatClampNeg 24) (5 : Int32).toNatClampNeg 120) (6 : Int32).toNatClampNeg 720)))), (q_7, .inl (cI, 11, .inl (fun _ => 0))), (q_8, .inl (cI, 11, .inl (fun _ => 0))), (q_9, .inl (cI, 2400, .inl (fun _ => 0))), (q_10, .inl (cI, 2400, .inl (fun _ => 0))), (q_11, .inl (cJ, 105600, .inr (.inl (fun _ => 0)))), (q_12, .inl (cJ, 2400, .inr (.inl (fun _ => 0)))), (q_13, .inl (cJ, 2400, .inr (.inl (fun _ => 0)))), (q_14, .inl (cJ, 549, .inr (.inl (fun _ => 0)))), (q_15, .inl (cJ, 549, .inr (.inl (fun _ => 0)))), (q_16, .inl (cJ, 549, .inr (.inl (fun _ => 0)))), (q_17, .inl (cJ, 549, .inr (.inl (fun _ => 0))))] H := hP
  have hD : va_D A [(m0, .inr (6, [.ref q_1, .ref q_2, .ref q_3, .ref q_4, .int 0, .ref q_5, .int 0, .int 0, .int 21, .int 17, .int 0, .int 1, .int 1, .int 1, .int 3, .long 1, .int 0, .ref q_6, .ref q_7, .ref q_8, .int 0, .ref q_9, .ref q_10, .ref q_11, .ref q_12, .ref q_13, .int 0, .int 0, .int 0, .int 0, .int 0, .int 0, .int 0, .int 0, .int 0, .ref q_14, .ref q_15, .ref q_16, .ref q_17])), (q_1, .inl (cI, 11, .inl (fun _ => 0))), (q_2, .inl (cI, 11, .inl (fun _ => 0))), (q_3, .inl (cI, 11, .inl (fun _ => 0))), (q_4, .inl (cI, 11, .inl (fun _ => 0))), (q_5, .inl (cI, 12, .inl (fun _ => 0))), (q_6, .inl (cJ, 13, .inr (.inl (vp_updL (vp_updL (vp_updL (vp_updL (vp_updL (vp_updL (vp_updL (fun _ => 0) (0 : Int32).toNatClampNeg 1) (1 : Int32).toNatClampNeg 1) (2 : Int32).toNatClampNeg 2) (3 : Int32).toNatClampNeg 6) (4 : Int32).toNatClampNeg 24) (5 : Int32).toNatClampNeg 120) (6 : Int32).toNatClampNeg 720)))), (q_7, .inl (cI, 11, .inl (fun _ => 0))), (q_8, .inl (cI, 11, .inl (fun _ => 0))), (q_9, .inl (cI, 2400, .inl (fun _ => 0))), (q_10, .inl (cI, 2400, .inl (fun _ => 0))), (q_11, .inl (cJ, 105600, .inr (.inl (fun _ => 0)))), (q_12, .inl (cJ, 2400, .inr (.inl (fun _ => 0)))), (q_13, .inl (cJ, 2400, .inr (.inl (fun _ => 0)))), (q_14, .inl (cJ, 549, .inr (.inl (fun _ => 0)))), (q_15, .inl (cJ, 549, .inr (.inl (fun _ => 0)))), (q_16, .inl (cJ, 549, .inr (.inl (fun _ => 0)))), (q_17, .inl (cJ, 549, .inr (.inl (fun _ => 0))))] := hD
  refine lv_lload_n hx hb dX6_init_202 rfl (lv_at hl 1 rfl) ?_
  refine lv_iload_n hx hb dX6_init_203 rfl (lv_at hl 0 rfl) ?_
  refine lv_i2l (v := 6) hx hb dX6_init_204 (by decide) ?_
  refine lv_lconst (v := 1) hx hb dX6_init_205 (by decide) ?_
  refine lv_ladd hx hb dX6_init_206 ?_
  refine lv_topl (fun z_37 ez_37 => ?_)
  obtain rfl : z_37 = 7 := ez_37.trans (by decide)
  refine lv_lmul hx hb dX6_init_207 ?_
  refine lv_topl (fun z_38 ez_38 => ?_)
  obtain rfl : z_38 = 5040 := ez_38.trans (by decide)
  refine lv_lstore_n (lv' := [(1, .long 5040), (3, .int 6), (0, .ref m0)]) hx hb dX6_init_208 rfl hl (by decide) rfl (fun ls hl => ?_)
  refine lv_iinc (v := 7) (lv' := [(3, .int 7), (1, .long 5040), (0, .ref m0)]) hx hb dX6_init_209 hl (k := 1) rfl (by decide) (by decide) rfl (fun ls hl => ?_)
  refine lv_goto (tgt := 189) hx hb dX6_init_212 (by decide) ?_
  refine lv_iload_n hx hb dX6_init_189 rfl (lv_at hl 0 rfl) ?_
  refine lv_bipush (v := 12) hx hb dX6_init_190 (by decide) ?_
  refine lv_icmp_gt (tgt := 215) hx hb dX6_init_192 (by decide) (fun c192_39 => ?_) (fun c192_39 => ?_)
  · exact absurd c192_39 (by decide)
  refine lv_aload_n hx hb dX6_init_195 rfl (lv_at hl 2 rfl) ?_
  refine va_get (D := D) (ci := 6) (v := .ref q_6) (C := RX6) (T := TX6) (N := 39) hx hb hts in_X6_init_X6 hown hK hP 0 rfl rfl 17 (by decide) (hts _ wd_X6_init_17) (fun _ h9 => h9) rfl dX6_init_196 ?_
  refine lv_iload_n hx hb dX6_init_199 rfl (lv_at hl 0 rfl) ?_
  refine lv_lload_n hx hb dX6_init_200 rfl (lv_at hl 1 rfl) ?_
  refine va_last hx hb hK hP hD hS 6 1 rfl rfl (show ¬ ((7 : Int32) < 0 ∨ 13 ≤ (7 : Int32).toNatClampNeg) by decide) dX6_init_201 (fun H locs hP hD hS => ?_)
  have hP : va_P D vwCl [(m0, .inr (6, [.ref q_1, .ref q_2, .ref q_3, .ref q_4, .int 0, .ref q_5, .int 0, .int 0, .int 21, .int 17, .int 0, .int 1, .int 1, .int 1, .int 3, .long 1, .int 0, .ref q_6, .ref q_7, .ref q_8, .int 0, .ref q_9, .ref q_10, .ref q_11, .ref q_12, .ref q_13, .int 0, .int 0, .int 0, .int 0, .int 0, .int 0, .int 0, .int 0, .int 0, .ref q_14, .ref q_15, .ref q_16, .ref q_17])), (q_1, .inl (cI, 11, .inl (fun _ => 0))), (q_2, .inl (cI, 11, .inl (fun _ => 0))), (q_3, .inl (cI, 11, .inl (fun _ => 0))), (q_4, .inl (cI, 11, .inl (fun _ => 0))), (q_5, .inl (cI, 12, .inl (fun _ => 0))), (q_6, .inl (cJ, 13, .inr (.inl (vp_updL (vp_updL (vp_updL (vp_updL (vp_updL (vp_updL (vp_updL (vp_updL (fun _ => 0) (0 : Int32).toNatClampNeg 1) (1 : Int32).toNatClampNeg 1) (2 : Int32).toNatClampNeg 2) (3 : Int32).toNatClampNeg 6) (4 : Int32).toNatClampNeg 24) (5 : Int32).toNatClampNeg 120) (6 : Int32).toNatClampNeg 720) (7 : Int32).toNatClampNeg 5040)))), (q_7, .inl (cI, 11, .inl (fun _ => 0))), (q_8, .inl (cI, 11, .inl (fun _ => 0))), (q_9, .inl (cI, 2400, .inl (fun _ => 0))), (q_10, .inl (cI, 2400, .inl (fun _ => 0))), (q_11, .inl (cJ, 105600, .inr (.inl (fun _ => 0)))), (q_12, .inl (cJ, 2400, .inr (.inl (fun _ => 0)))), (q_13, .inl (cJ, 2400, .inr (.inl (fun _ => 0)))), (q_14, .inl (cJ, 549, .inr (.inl (fun _ => 0)))), (q_15, .inl (cJ, 549, .inr (.inl (fun _ => 0)))), (q_16, .inl (cJ, 549, .inr (.inl (fun _ => 0)))), (q_17, .inl (cJ, 549, .inr (.inl (fun _ => 0))))] H := hP
  have hD : va_D A [(m0, .inr (6, [.ref q_1, .ref q_2, .ref q_3, .ref q_4, .int 0, .ref q_5, .int 0, .int 0, .int 21, .int 17, .int 0, .int 1, .int 1, .int 1, .int 3, .long 1, .int 0, .ref q_6, .ref q_7, .ref q_8, .int 0, .ref q_9, .ref q_10, .ref q_11, .ref q_12, .ref q_13, .int 0, .int 0, .int 0, .int 0, .int 0, .int 0, .int 0, .int 0, .int 0, .ref q_14, .ref q_15, .ref q_16, .ref q_17])), (q_1, .inl (cI, 11, .inl (fun _ => 0))), (q_2, .inl (cI, 11, .inl (fun _ => 0))), (q_3, .inl (cI, 11, .inl (fun _ => 0))), (q_4, .inl (cI, 11, .inl (fun _ => 0))), (q_5, .inl (cI, 12, .inl (fun _ => 0))), (q_6, .inl (cJ, 13, .inr (.inl (vp_updL (vp_updL (vp_updL (vp_updL (vp_updL (vp_updL (vp_updL (vp_updL (fun _ => 0) (0 : Int32).toNatClampNeg 1) (1 : Int32).toNatClampNeg 1) (2 : Int32).toNatClampNeg 2) (3 : Int32).toNatClampNeg 6) (4 : Int32).toNatClampNeg 24) (5 : Int32).toNatClampNeg 120) (6 : Int32).toNatClampNeg 720) (7 : Int32).toNatClampNeg 5040)))), (q_7, .inl (cI, 11, .inl (fun _ => 0))), (q_8, .inl (cI, 11, .inl (fun _ => 0))), (q_9, .inl (cI, 2400, .inl (fun _ => 0))), (q_10, .inl (cI, 2400, .inl (fun _ => 0))), (q_11, .inl (cJ, 105600, .inr (.inl (fun _ => 0)))), (q_12, .inl (cJ, 2400, .inr (.inl (fun _ => 0)))), (q_13, .inl (cJ, 2400, .inr (.inl (fun _ => 0)))), (q_14, .inl (cJ, 549, .inr (.inl (fun _ => 0)))), (q_15, .inl (cJ, 549, .inr (.inl (fun _ => 0)))), (q_16, .inl (cJ, 549, .inr (.inl (fun _ => 0)))), (q_17, .inl (cJ, 549, .inr (.inl (fun _ => 0))))] := hD
  refine lv_lload_n hx hb dX6_init_202 rfl (lv_at hl 1 rfl) ?_
  refine lv_iload_n hx hb dX6_init_203 rfl (lv_at hl 0 rfl) ?_
  refine lv_i2l (v := 7) hx hb dX6_init_204 (by decide) ?_
  refine lv_lconst (v := 1) hx hb dX6_init_205 (by decide) ?_
  refine lv_ladd hx hb dX6_init_206 ?_
  refine lv_topl (fun z_40 ez_40 => ?_)
  obtain rfl : z_40 = 8 := ez_40.trans (by decide)
  refine lv_lmul hx hb dX6_init_207 ?_
  refine lv_topl (fun z_41 ez_41 => ?_)
  obtain rfl : z_41 = 40320 := ez_41.trans (by decide)
  refine lv_lstore_n (lv' := [(1, .long 40320), (3, .int 7), (0, .ref m0)]) hx hb dX6_init_208 rfl hl (by decide) rfl (fun ls hl => ?_)
  refine lv_iinc (v := 8) (lv' := [(3, .int 8), (1, .long 40320), (0, .ref m0)]) hx hb dX6_init_209 hl (k := 1) rfl (by decide) (by decide) rfl (fun ls hl => ?_)
  refine lv_goto (tgt := 189) hx hb dX6_init_212 (by decide) ?_
  refine lv_iload_n hx hb dX6_init_189 rfl (lv_at hl 0 rfl) ?_
  refine lv_bipush (v := 12) hx hb dX6_init_190 (by decide) ?_
  refine lv_icmp_gt (tgt := 215) hx hb dX6_init_192 (by decide) (fun c192_42 => ?_) (fun c192_42 => ?_)
  · exact absurd c192_42 (by decide)
  refine lv_aload_n hx hb dX6_init_195 rfl (lv_at hl 2 rfl) ?_
  refine va_get (D := D) (ci := 6) (v := .ref q_6) (C := RX6) (T := TX6) (N := 39) hx hb hts in_X6_init_X6 hown hK hP 0 rfl rfl 17 (by decide) (hts _ wd_X6_init_17) (fun _ h9 => h9) rfl dX6_init_196 ?_
  refine lv_iload_n hx hb dX6_init_199 rfl (lv_at hl 0 rfl) ?_
  refine lv_lload_n hx hb dX6_init_200 rfl (lv_at hl 1 rfl) ?_
  refine va_last hx hb hK hP hD hS 6 1 rfl rfl (show ¬ ((8 : Int32) < 0 ∨ 13 ≤ (8 : Int32).toNatClampNeg) by decide) dX6_init_201 (fun H locs hP hD hS => ?_)
  have hP : va_P D vwCl [(m0, .inr (6, [.ref q_1, .ref q_2, .ref q_3, .ref q_4, .int 0, .ref q_5, .int 0, .int 0, .int 21, .int 17, .int 0, .int 1, .int 1, .int 1, .int 3, .long 1, .int 0, .ref q_6, .ref q_7, .ref q_8, .int 0, .ref q_9, .ref q_10, .ref q_11, .ref q_12, .ref q_13, .int 0, .int 0, .int 0, .int 0, .int 0, .int 0, .int 0, .int 0, .int 0, .ref q_14, .ref q_15, .ref q_16, .ref q_17])), (q_1, .inl (cI, 11, .inl (fun _ => 0))), (q_2, .inl (cI, 11, .inl (fun _ => 0))), (q_3, .inl (cI, 11, .inl (fun _ => 0))), (q_4, .inl (cI, 11, .inl (fun _ => 0))), (q_5, .inl (cI, 12, .inl (fun _ => 0))), (q_6, .inl (cJ, 13, .inr (.inl (vp_updL (vp_updL (vp_updL (vp_updL (vp_updL (vp_updL (vp_updL (vp_updL (vp_updL (fun _ => 0) (0 : Int32).toNatClampNeg 1) (1 : Int32).toNatClampNeg 1) (2 : Int32).toNatClampNeg 2) (3 : Int32).toNatClampNeg 6) (4 : Int32).toNatClampNeg 24) (5 : Int32).toNatClampNeg 120) (6 : Int32).toNatClampNeg 720) (7 : Int32).toNatClampNeg 5040) (8 : Int32).toNatClampNeg 40320)))), (q_7, .inl (cI, 11, .inl (fun _ => 0))), (q_8, .inl (cI, 11, .inl (fun _ => 0))), (q_9, .inl (cI, 2400, .inl (fun _ => 0))), (q_10, .inl (cI, 2400, .inl (fun _ => 0))), (q_11, .inl (cJ, 105600, .inr (.inl (fun _ => 0)))), (q_12, .inl (cJ, 2400, .inr (.inl (fun _ => 0)))), (q_13, .inl (cJ, 2400, .inr (.inl (fun _ => 0)))), (q_14, .inl (cJ, 549, .inr (.inl (fun _ => 0)))), (q_15, .inl (cJ, 549, .inr (.inl (fun _ => 0)))), (q_16, .inl (cJ, 549, .inr (.inl (fun _ => 0)))), (q_17, .inl (cJ, 549, .inr (.inl (fun _ => 0))))] H := hP
  have hD : va_D A [(m0, .inr (6, [.ref q_1, .ref q_2, .ref q_3, .ref q_4, .int 0, .ref q_5, .int 0, .int 0, .int 21, .int 17, .int 0, .int 1, .int 1, .int 1, .int 3, .long 1, .int 0, .ref q_6, .ref q_7, .ref q_8, .int 0, .ref q_9, .ref q_10, .ref q_11, .ref q_12, .ref q_13, .int 0, .int 0, .int 0, .int 0, .int 0, .int 0, .int 0, .int 0, .int 0, .ref q_14, .ref q_15, .ref q_16, .ref q_17])), (q_1, .inl (cI, 11, .inl (fun _ => 0))), (q_2, .inl (cI, 11, .inl (fun _ => 0))), (q_3, .inl (cI, 11, .inl (fun _ => 0))), (q_4, .inl (cI, 11, .inl (fun _ => 0))), (q_5, .inl (cI, 12, .inl (fun _ => 0))), (q_6, .inl (cJ, 13, .inr (.inl (vp_updL (vp_updL (vp_updL (vp_updL (vp_updL (vp_updL (vp_updL (vp_updL (vp_updL (fun _ => 0) (0 : Int32).toNatClampNeg 1) (1 : Int32).toNatClampNeg 1) (2 : Int32).toNatClampNeg 2) (3 : Int32).toNatClampNeg 6) (4 : Int32).toNatClampNeg 24) (5 : Int32).toNatClampNeg 120) (6 : Int32).toNatClampNeg 720) (7 : Int32).toNatClampNeg 5040) (8 : Int32).toNatClampNeg 40320)))), (q_7, .inl (cI, 11, .inl (fun _ => 0))), (q_8, .inl (cI, 11, .inl (fun _ => 0))), (q_9, .inl (cI, 2400, .inl (fun _ => 0))), (q_10, .inl (cI, 2400, .inl (fun _ => 0))), (q_11, .inl (cJ, 105600, .inr (.inl (fun _ => 0)))), (q_12, .inl (cJ, 2400, .inr (.inl (fun _ => 0)))), (q_13, .inl (cJ, 2400, .inr (.inl (fun _ => 0)))), (q_14, .inl (cJ, 549, .inr (.inl (fun _ => 0)))), (q_15, .inl (cJ, 549, .inr (.inl (fun _ => 0)))), (q_16, .inl (cJ, 549, .inr (.inl (fun _ => 0)))), (q_17, .inl (cJ, 549, .inr (.inl (fun _ => 0))))] := hD
  refine lv_lload_n hx hb dX6_init_202 rfl (lv_at hl 1 rfl) ?_
  refine lv_iload_n hx hb dX6_init_203 rfl (lv_at hl 0 rfl) ?_
  refine lv_i2l (v := 8) hx hb dX6_init_204 (by decide) ?_
  refine lv_lconst (v := 1) hx hb dX6_init_205 (by decide) ?_
  refine lv_ladd hx hb dX6_init_206 ?_
  refine lv_topl (fun z_43 ez_43 => ?_)
  obtain rfl : z_43 = 9 := ez_43.trans (by decide)
  refine lv_lmul hx hb dX6_init_207 ?_
  refine lv_topl (fun z_44 ez_44 => ?_)
  obtain rfl : z_44 = 362880 := ez_44.trans (by decide)
  refine lv_lstore_n (lv' := [(1, .long 362880), (3, .int 8), (0, .ref m0)]) hx hb dX6_init_208 rfl hl (by decide) rfl (fun ls hl => ?_)
  refine lv_iinc (v := 9) (lv' := [(3, .int 9), (1, .long 362880), (0, .ref m0)]) hx hb dX6_init_209 hl (k := 1) rfl (by decide) (by decide) rfl (fun ls hl => ?_)
  refine lv_goto (tgt := 189) hx hb dX6_init_212 (by decide) ?_
  refine lv_iload_n hx hb dX6_init_189 rfl (lv_at hl 0 rfl) ?_
  refine lv_bipush (v := 12) hx hb dX6_init_190 (by decide) ?_
  refine lv_icmp_gt (tgt := 215) hx hb dX6_init_192 (by decide) (fun c192_45 => ?_) (fun c192_45 => ?_)
  · exact absurd c192_45 (by decide)
  refine lv_aload_n hx hb dX6_init_195 rfl (lv_at hl 2 rfl) ?_
  refine va_get (D := D) (ci := 6) (v := .ref q_6) (C := RX6) (T := TX6) (N := 39) hx hb hts in_X6_init_X6 hown hK hP 0 rfl rfl 17 (by decide) (hts _ wd_X6_init_17) (fun _ h9 => h9) rfl dX6_init_196 ?_
  refine lv_iload_n hx hb dX6_init_199 rfl (lv_at hl 0 rfl) ?_
  refine lv_lload_n hx hb dX6_init_200 rfl (lv_at hl 1 rfl) ?_
  refine va_last hx hb hK hP hD hS 6 1 rfl rfl (show ¬ ((9 : Int32) < 0 ∨ 13 ≤ (9 : Int32).toNatClampNeg) by decide) dX6_init_201 (fun H locs hP hD hS => ?_)
  have hP : va_P D vwCl [(m0, .inr (6, [.ref q_1, .ref q_2, .ref q_3, .ref q_4, .int 0, .ref q_5, .int 0, .int 0, .int 21, .int 17, .int 0, .int 1, .int 1, .int 1, .int 3, .long 1, .int 0, .ref q_6, .ref q_7, .ref q_8, .int 0, .ref q_9, .ref q_10, .ref q_11, .ref q_12, .ref q_13, .int 0, .int 0, .int 0, .int 0, .int 0, .int 0, .int 0, .int 0, .int 0, .ref q_14, .ref q_15, .ref q_16, .ref q_17])), (q_1, .inl (cI, 11, .inl (fun _ => 0))), (q_2, .inl (cI, 11, .inl (fun _ => 0))), (q_3, .inl (cI, 11, .inl (fun _ => 0))), (q_4, .inl (cI, 11, .inl (fun _ => 0))), (q_5, .inl (cI, 12, .inl (fun _ => 0))), (q_6, .inl (cJ, 13, .inr (.inl (vp_updL (vp_updL (vp_updL (vp_updL (vp_updL (vp_updL (vp_updL (vp_updL (vp_updL (vp_updL (fun _ => 0) (0 : Int32).toNatClampNeg 1) (1 : Int32).toNatClampNeg 1) (2 : Int32).toNatClampNeg 2) (3 : Int32).toNatClampNeg 6) (4 : Int32).toNatClampNeg 24) (5 : Int32).toNatClampNeg 120) (6 : Int32).toNatClampNeg 720) (7 : Int32).toNatClampNeg 5040) (8 : Int32).toNatClampNeg 40320) (9 : Int32).toNatClampNeg 362880)))), (q_7, .inl (cI, 11, .inl (fun _ => 0))), (q_8, .inl (cI, 11, .inl (fun _ => 0))), (q_9, .inl (cI, 2400, .inl (fun _ => 0))), (q_10, .inl (cI, 2400, .inl (fun _ => 0))), (q_11, .inl (cJ, 105600, .inr (.inl (fun _ => 0)))), (q_12, .inl (cJ, 2400, .inr (.inl (fun _ => 0)))), (q_13, .inl (cJ, 2400, .inr (.inl (fun _ => 0)))), (q_14, .inl (cJ, 549, .inr (.inl (fun _ => 0)))), (q_15, .inl (cJ, 549, .inr (.inl (fun _ => 0)))), (q_16, .inl (cJ, 549, .inr (.inl (fun _ => 0)))), (q_17, .inl (cJ, 549, .inr (.inl (fun _ => 0))))] H := hP
  have hD : va_D A [(m0, .inr (6, [.ref q_1, .ref q_2, .ref q_3, .ref q_4, .int 0, .ref q_5, .int 0, .int 0, .int 21, .int 17, .int 0, .int 1, .int 1, .int 1, .int 3, .long 1, .int 0, .ref q_6, .ref q_7, .ref q_8, .int 0, .ref q_9, .ref q_10, .ref q_11, .ref q_12, .ref q_13, .int 0, .int 0, .int 0, .int 0, .int 0, .int 0, .int 0, .int 0, .int 0, .ref q_14, .ref q_15, .ref q_16, .ref q_17])), (q_1, .inl (cI, 11, .inl (fun _ => 0))), (q_2, .inl (cI, 11, .inl (fun _ => 0))), (q_3, .inl (cI, 11, .inl (fun _ => 0))), (q_4, .inl (cI, 11, .inl (fun _ => 0))), (q_5, .inl (cI, 12, .inl (fun _ => 0))), (q_6, .inl (cJ, 13, .inr (.inl (vp_updL (vp_updL (vp_updL (vp_updL (vp_updL (vp_updL (vp_updL (vp_updL (vp_updL (vp_updL (fun _ => 0) (0 : Int32).toNatClampNeg 1) (1 : Int32).toNatClampNeg 1) (2 : Int32).toNatClampNeg 2) (3 : Int32).toNatClampNeg 6) (4 : Int32).toNatClampNeg 24) (5 : Int32).toNatClampNeg 120) (6 : Int32).toNatClampNeg 720) (7 : Int32).toNatClampNeg 5040) (8 : Int32).toNatClampNeg 40320) (9 : Int32).toNatClampNeg 362880)))), (q_7, .inl (cI, 11, .inl (fun _ => 0))), (q_8, .inl (cI, 11, .inl (fun _ => 0))), (q_9, .inl (cI, 2400, .inl (fun _ => 0))), (q_10, .inl (cI, 2400, .inl (fun _ => 0))), (q_11, .inl (cJ, 105600, .inr (.inl (fun _ => 0)))), (q_12, .inl (cJ, 2400, .inr (.inl (fun _ => 0)))), (q_13, .inl (cJ, 2400, .inr (.inl (fun _ => 0)))), (q_14, .inl (cJ, 549, .inr (.inl (fun _ => 0)))), (q_15, .inl (cJ, 549, .inr (.inl (fun _ => 0)))), (q_16, .inl (cJ, 549, .inr (.inl (fun _ => 0)))), (q_17, .inl (cJ, 549, .inr (.inl (fun _ => 0))))] := hD
  refine lv_lload_n hx hb dX6_init_202 rfl (lv_at hl 1 rfl) ?_
  refine lv_iload_n hx hb dX6_init_203 rfl (lv_at hl 0 rfl) ?_
  refine lv_i2l (v := 9) hx hb dX6_init_204 (by decide) ?_
  refine lv_lconst (v := 1) hx hb dX6_init_205 (by decide) ?_
  refine lv_ladd hx hb dX6_init_206 ?_
  refine lv_topl (fun z_46 ez_46 => ?_)
  obtain rfl : z_46 = 10 := ez_46.trans (by decide)
  refine lv_lmul hx hb dX6_init_207 ?_
  refine lv_topl (fun z_47 ez_47 => ?_)
  obtain rfl : z_47 = 3628800 := ez_47.trans (by decide)
  refine lv_lstore_n (lv' := [(1, .long 3628800), (3, .int 9), (0, .ref m0)]) hx hb dX6_init_208 rfl hl (by decide) rfl (fun ls hl => ?_)
  refine lv_iinc (v := 10) (lv' := [(3, .int 10), (1, .long 3628800), (0, .ref m0)]) hx hb dX6_init_209 hl (k := 1) rfl (by decide) (by decide) rfl (fun ls hl => ?_)
  refine lv_goto (tgt := 189) hx hb dX6_init_212 (by decide) ?_
  refine lv_iload_n hx hb dX6_init_189 rfl (lv_at hl 0 rfl) ?_
  refine lv_bipush (v := 12) hx hb dX6_init_190 (by decide) ?_
  refine lv_icmp_gt (tgt := 215) hx hb dX6_init_192 (by decide) (fun c192_48 => ?_) (fun c192_48 => ?_)
  · exact absurd c192_48 (by decide)
  refine lv_aload_n hx hb dX6_init_195 rfl (lv_at hl 2 rfl) ?_
  refine va_get (D := D) (ci := 6) (v := .ref q_6) (C := RX6) (T := TX6) (N := 39) hx hb hts in_X6_init_X6 hown hK hP 0 rfl rfl 17 (by decide) (hts _ wd_X6_init_17) (fun _ h9 => h9) rfl dX6_init_196 ?_
  refine lv_iload_n hx hb dX6_init_199 rfl (lv_at hl 0 rfl) ?_
  refine lv_lload_n hx hb dX6_init_200 rfl (lv_at hl 1 rfl) ?_
  refine va_last hx hb hK hP hD hS 6 1 rfl rfl (show ¬ ((10 : Int32) < 0 ∨ 13 ≤ (10 : Int32).toNatClampNeg) by decide) dX6_init_201 (fun H locs hP hD hS => ?_)
  have hP : va_P D vwCl [(m0, .inr (6, [.ref q_1, .ref q_2, .ref q_3, .ref q_4, .int 0, .ref q_5, .int 0, .int 0, .int 21, .int 17, .int 0, .int 1, .int 1, .int 1, .int 3, .long 1, .int 0, .ref q_6, .ref q_7, .ref q_8, .int 0, .ref q_9, .ref q_10, .ref q_11, .ref q_12, .ref q_13, .int 0, .int 0, .int 0, .int 0, .int 0, .int 0, .int 0, .int 0, .int 0, .ref q_14, .ref q_15, .ref q_16, .ref q_17])), (q_1, .inl (cI, 11, .inl (fun _ => 0))), (q_2, .inl (cI, 11, .inl (fun _ => 0))), (q_3, .inl (cI, 11, .inl (fun _ => 0))), (q_4, .inl (cI, 11, .inl (fun _ => 0))), (q_5, .inl (cI, 12, .inl (fun _ => 0))), (q_6, .inl (cJ, 13, .inr (.inl (vp_updL (vp_updL (vp_updL (vp_updL (vp_updL (vp_updL (vp_updL (vp_updL (vp_updL (vp_updL (vp_updL (fun _ => 0) (0 : Int32).toNatClampNeg 1) (1 : Int32).toNatClampNeg 1) (2 : Int32).toNatClampNeg 2) (3 : Int32).toNatClampNeg 6) (4 : Int32).toNatClampNeg 24) (5 : Int32).toNatClampNeg 120) (6 : Int32).toNatClampNeg 720) (7 : Int32).toNatClampNeg 5040) (8 : Int32).toNatClampNeg 40320) (9 : Int32).toNatClampNeg 362880) (10 : Int32).toNatClampNeg 3628800)))), (q_7, .inl (cI, 11, .inl (fun _ => 0))), (q_8, .inl (cI, 11, .inl (fun _ => 0))), (q_9, .inl (cI, 2400, .inl (fun _ => 0))), (q_10, .inl (cI, 2400, .inl (fun _ => 0))), (q_11, .inl (cJ, 105600, .inr (.inl (fun _ => 0)))), (q_12, .inl (cJ, 2400, .inr (.inl (fun _ => 0)))), (q_13, .inl (cJ, 2400, .inr (.inl (fun _ => 0)))), (q_14, .inl (cJ, 549, .inr (.inl (fun _ => 0)))), (q_15, .inl (cJ, 549, .inr (.inl (fun _ => 0)))), (q_16, .inl (cJ, 549, .inr (.inl (fun _ => 0)))), (q_17, .inl (cJ, 549, .inr (.inl (fun _ => 0))))] H := hP
  have hD : va_D A [(m0, .inr (6, [.ref q_1, .ref q_2, .ref q_3, .ref q_4, .int 0, .ref q_5, .int 0, .int 0, .int 21, .int 17, .int 0, .int 1, .int 1, .int 1, .int 3, .long 1, .int 0, .ref q_6, .ref q_7, .ref q_8, .int 0, .ref q_9, .ref q_10, .ref q_11, .ref q_12, .ref q_13, .int 0, .int 0, .int 0, .int 0, .int 0, .int 0, .int 0, .int 0, .int 0, .ref q_14, .ref q_15, .ref q_16, .ref q_17])), (q_1, .inl (cI, 11, .inl (fun _ => 0))), (q_2, .inl (cI, 11, .inl (fun _ => 0))), (q_3, .inl (cI, 11, .inl (fun _ => 0))), (q_4, .inl (cI, 11, .inl (fun _ => 0))), (q_5, .inl (cI, 12, .inl (fun _ => 0))), (q_6, .inl (cJ, 13, .inr (.inl (vp_updL (vp_updL (vp_updL (vp_updL (vp_updL (vp_updL (vp_updL (vp_updL (vp_updL (vp_updL (vp_updL (fun _ => 0) (0 : Int32).toNatClampNeg 1) (1 : Int32).toNatClampNeg 1) (2 : Int32).toNatClampNeg 2) (3 : Int32).toNatClampNeg 6) (4 : Int32).toNatClampNeg 24) (5 : Int32).toNatClampNeg 120) (6 : Int32).toNatClampNeg 720) (7 : Int32).toNatClampNeg 5040) (8 : Int32).toNatClampNeg 40320) (9 : Int32).toNatClampNeg 362880) (10 : Int32).toNatClampNeg 3628800)))), (q_7, .inl (cI, 11, .inl (fun _ => 0))), (q_8, .inl (cI, 11, .inl (fun _ => 0))), (q_9, .inl (cI, 2400, .inl (fun _ => 0))), (q_10, .inl (cI, 2400, .inl (fun _ => 0))), (q_11, .inl (cJ, 105600, .inr (.inl (fun _ => 0)))), (q_12, .inl (cJ, 2400, .inr (.inl (fun _ => 0)))), (q_13, .inl (cJ, 2400, .inr (.inl (fun _ => 0)))), (q_14, .inl (cJ, 549, .inr (.inl (fun _ => 0)))), (q_15, .inl (cJ, 549, .inr (.inl (fun _ => 0)))), (q_16, .inl (cJ, 549, .inr (.inl (fun _ => 0)))), (q_17, .inl (cJ, 549, .inr (.inl (fun _ => 0))))] := hD
  refine lv_lload_n hx hb dX6_init_202 rfl (lv_at hl 1 rfl) ?_
  refine lv_iload_n hx hb dX6_init_203 rfl (lv_at hl 0 rfl) ?_
  refine lv_i2l (v := 10) hx hb dX6_init_204 (by decide) ?_
  refine lv_lconst (v := 1) hx hb dX6_init_205 (by decide) ?_
  refine lv_ladd hx hb dX6_init_206 ?_
  refine lv_topl (fun z_49 ez_49 => ?_)
  obtain rfl : z_49 = 11 := ez_49.trans (by decide)
  refine lv_lmul hx hb dX6_init_207 ?_
  refine lv_topl (fun z_50 ez_50 => ?_)
  obtain rfl : z_50 = 39916800 := ez_50.trans (by decide)
  refine lv_lstore_n (lv' := [(1, .long 39916800), (3, .int 10), (0, .ref m0)]) hx hb dX6_init_208 rfl hl (by decide) rfl (fun ls hl => ?_)
  refine lv_iinc (v := 11) (lv' := [(3, .int 11), (1, .long 39916800), (0, .ref m0)]) hx hb dX6_init_209 hl (k := 1) rfl (by decide) (by decide) rfl (fun ls hl => ?_)
  refine lv_goto (tgt := 189) hx hb dX6_init_212 (by decide) ?_
  refine lv_iload_n hx hb dX6_init_189 rfl (lv_at hl 0 rfl) ?_
  refine lv_bipush (v := 12) hx hb dX6_init_190 (by decide) ?_
  refine lv_icmp_gt (tgt := 215) hx hb dX6_init_192 (by decide) (fun c192_51 => ?_) (fun c192_51 => ?_)
  · exact absurd c192_51 (by decide)
  refine lv_aload_n hx hb dX6_init_195 rfl (lv_at hl 2 rfl) ?_
  refine va_get (D := D) (ci := 6) (v := .ref q_6) (C := RX6) (T := TX6) (N := 39) hx hb hts in_X6_init_X6 hown hK hP 0 rfl rfl 17 (by decide) (hts _ wd_X6_init_17) (fun _ h9 => h9) rfl dX6_init_196 ?_
  refine lv_iload_n hx hb dX6_init_199 rfl (lv_at hl 0 rfl) ?_
  refine lv_lload_n hx hb dX6_init_200 rfl (lv_at hl 1 rfl) ?_
  refine va_last hx hb hK hP hD hS 6 1 rfl rfl (show ¬ ((11 : Int32) < 0 ∨ 13 ≤ (11 : Int32).toNatClampNeg) by decide) dX6_init_201 (fun H locs hP hD hS => ?_)
  have hP : va_P D vwCl [(m0, .inr (6, [.ref q_1, .ref q_2, .ref q_3, .ref q_4, .int 0, .ref q_5, .int 0, .int 0, .int 21, .int 17, .int 0, .int 1, .int 1, .int 1, .int 3, .long 1, .int 0, .ref q_6, .ref q_7, .ref q_8, .int 0, .ref q_9, .ref q_10, .ref q_11, .ref q_12, .ref q_13, .int 0, .int 0, .int 0, .int 0, .int 0, .int 0, .int 0, .int 0, .int 0, .ref q_14, .ref q_15, .ref q_16, .ref q_17])), (q_1, .inl (cI, 11, .inl (fun _ => 0))), (q_2, .inl (cI, 11, .inl (fun _ => 0))), (q_3, .inl (cI, 11, .inl (fun _ => 0))), (q_4, .inl (cI, 11, .inl (fun _ => 0))), (q_5, .inl (cI, 12, .inl (fun _ => 0))), (q_6, .inl (cJ, 13, .inr (.inl (vp_updL (vp_updL (vp_updL (vp_updL (vp_updL (vp_updL (vp_updL (vp_updL (vp_updL (vp_updL (vp_updL (vp_updL (fun _ => 0) (0 : Int32).toNatClampNeg 1) (1 : Int32).toNatClampNeg 1) (2 : Int32).toNatClampNeg 2) (3 : Int32).toNatClampNeg 6) (4 : Int32).toNatClampNeg 24) (5 : Int32).toNatClampNeg 120) (6 : Int32).toNatClampNeg 720) (7 : Int32).toNatClampNeg 5040) (8 : Int32).toNatClampNeg 40320) (9 : Int32).toNatClampNeg 362880) (10 : Int32).toNatClampNeg 3628800) (11 : Int32).toNatClampNeg 39916800)))), (q_7, .inl (cI, 11, .inl (fun _ => 0))), (q_8, .inl (cI, 11, .inl (fun _ => 0))), (q_9, .inl (cI, 2400, .inl (fun _ => 0))), (q_10, .inl (cI, 2400, .inl (fun _ => 0))), (q_11, .inl (cJ, 105600, .inr (.inl (fun _ => 0)))), (q_12, .inl (cJ, 2400, .inr (.inl (fun _ => 0)))), (q_13, .inl (cJ, 2400, .inr (.inl (fun _ => 0)))), (q_14, .inl (cJ, 549, .inr (.inl (fun _ => 0)))), (q_15, .inl (cJ, 549, .inr (.inl (fun _ => 0)))), (q_16, .inl (cJ, 549, .inr (.inl (fun _ => 0)))), (q_17, .inl (cJ, 549, .inr (.inl (fun _ => 0))))] H := hP
  have hD : va_D A [(m0, .inr (6, [.ref q_1, .ref q_2, .ref q_3, .ref q_4, .int 0, .ref q_5, .int 0, .int 0, .int 21, .int 17, .int 0, .int 1, .int 1, .int 1, .int 3, .long 1, .int 0, .ref q_6, .ref q_7, .ref q_8, .int 0, .ref q_9, .ref q_10, .ref q_11, .ref q_12, .ref q_13, .int 0, .int 0, .int 0, .int 0, .int 0, .int 0, .int 0, .int 0, .int 0, .ref q_14, .ref q_15, .ref q_16, .ref q_17])), (q_1, .inl (cI, 11, .inl (fun _ => 0))), (q_2, .inl (cI, 11, .inl (fun _ => 0))), (q_3, .inl (cI, 11, .inl (fun _ => 0))), (q_4, .inl (cI, 11, .inl (fun _ => 0))), (q_5, .inl (cI, 12, .inl (fun _ => 0))), (q_6, .inl (cJ, 13, .inr (.inl (vp_updL (vp_updL (vp_updL (vp_updL (vp_updL (vp_updL (vp_updL (vp_updL (vp_updL (vp_updL (vp_updL (vp_updL (fun _ => 0) (0 : Int32).toNatClampNeg 1) (1 : Int32).toNatClampNeg 1) (2 : Int32).toNatClampNeg 2) (3 : Int32).toNatClampNeg 6) (4 : Int32).toNatClampNeg 24) (5 : Int32).toNatClampNeg 120) (6 : Int32).toNatClampNeg 720) (7 : Int32).toNatClampNeg 5040) (8 : Int32).toNatClampNeg 40320) (9 : Int32).toNatClampNeg 362880) (10 : Int32).toNatClampNeg 3628800) (11 : Int32).toNatClampNeg 39916800)))), (q_7, .inl (cI, 11, .inl (fun _ => 0))), (q_8, .inl (cI, 11, .inl (fun _ => 0))), (q_9, .inl (cI, 2400, .inl (fun _ => 0))), (q_10, .inl (cI, 2400, .inl (fun _ => 0))), (q_11, .inl (cJ, 105600, .inr (.inl (fun _ => 0)))), (q_12, .inl (cJ, 2400, .inr (.inl (fun _ => 0)))), (q_13, .inl (cJ, 2400, .inr (.inl (fun _ => 0)))), (q_14, .inl (cJ, 549, .inr (.inl (fun _ => 0)))), (q_15, .inl (cJ, 549, .inr (.inl (fun _ => 0)))), (q_16, .inl (cJ, 549, .inr (.inl (fun _ => 0)))), (q_17, .inl (cJ, 549, .inr (.inl (fun _ => 0))))] := hD
  refine lv_lload_n hx hb dX6_init_202 rfl (lv_at hl 1 rfl) ?_
  refine lv_iload_n hx hb dX6_init_203 rfl (lv_at hl 0 rfl) ?_
  refine lv_i2l (v := 11) hx hb dX6_init_204 (by decide) ?_
  refine lv_lconst (v := 1) hx hb dX6_init_205 (by decide) ?_
  refine lv_ladd hx hb dX6_init_206 ?_
  refine lv_topl (fun z_52 ez_52 => ?_)
  obtain rfl : z_52 = 12 := ez_52.trans (by decide)
  refine lv_lmul hx hb dX6_init_207 ?_
  refine lv_topl (fun z_53 ez_53 => ?_)
  obtain rfl : z_53 = 479001600 := ez_53.trans (by decide)
  refine lv_lstore_n (lv' := [(1, .long 479001600), (3, .int 11), (0, .ref m0)]) hx hb dX6_init_208 rfl hl (by decide) rfl (fun ls hl => ?_)
  refine lv_iinc (v := 12) (lv' := [(3, .int 12), (1, .long 479001600), (0, .ref m0)]) hx hb dX6_init_209 hl (k := 1) rfl (by decide) (by decide) rfl (fun ls hl => ?_)
  refine lv_goto (tgt := 189) hx hb dX6_init_212 (by decide) ?_
  refine lv_iload_n hx hb dX6_init_189 rfl (lv_at hl 0 rfl) ?_
  refine lv_bipush (v := 12) hx hb dX6_init_190 (by decide) ?_
  refine lv_icmp_gt (tgt := 215) hx hb dX6_init_192 (by decide) (fun c192_54 => ?_) (fun c192_54 => ?_)
  · exact absurd c192_54 (by decide)
  refine lv_aload_n hx hb dX6_init_195 rfl (lv_at hl 2 rfl) ?_
  refine va_get (D := D) (ci := 6) (v := .ref q_6) (C := RX6) (T := TX6) (N := 39) hx hb hts in_X6_init_X6 hown hK hP 0 rfl rfl 17 (by decide) (hts _ wd_X6_init_17) (fun _ h9 => h9) rfl dX6_init_196 ?_
  refine lv_iload_n hx hb dX6_init_199 rfl (lv_at hl 0 rfl) ?_
  refine lv_lload_n hx hb dX6_init_200 rfl (lv_at hl 1 rfl) ?_
  refine va_last hx hb hK hP hD hS 6 1 rfl rfl (show ¬ ((12 : Int32) < 0 ∨ 13 ≤ (12 : Int32).toNatClampNeg) by decide) dX6_init_201 (fun H locs hP hD hS => ?_)
  have hP : va_P D vwCl [(m0, .inr (6, [.ref q_1, .ref q_2, .ref q_3, .ref q_4, .int 0, .ref q_5, .int 0, .int 0, .int 21, .int 17, .int 0, .int 1, .int 1, .int 1, .int 3, .long 1, .int 0, .ref q_6, .ref q_7, .ref q_8, .int 0, .ref q_9, .ref q_10, .ref q_11, .ref q_12, .ref q_13, .int 0, .int 0, .int 0, .int 0, .int 0, .int 0, .int 0, .int 0, .int 0, .ref q_14, .ref q_15, .ref q_16, .ref q_17])), (q_1, .inl (cI, 11, .inl (fun _ => 0))), (q_2, .inl (cI, 11, .inl (fun _ => 0))), (q_3, .inl (cI, 11, .inl (fun _ => 0))), (q_4, .inl (cI, 11, .inl (fun _ => 0))), (q_5, .inl (cI, 12, .inl (fun _ => 0))), (q_6, .inl (cJ, 13, .inr (.inl (vp_updL (vp_updL (vp_updL (vp_updL (vp_updL (vp_updL (vp_updL (vp_updL (vp_updL (vp_updL (vp_updL (vp_updL (vp_updL (fun _ => 0) (0 : Int32).toNatClampNeg 1) (1 : Int32).toNatClampNeg 1) (2 : Int32).toNatClampNeg 2) (3 : Int32).toNatClampNeg 6) (4 : Int32).toNatClampNeg 24) (5 : Int32).toNatClampNeg 120) (6 : Int32).toNatClampNeg 720) (7 : Int32).toNatClampNeg 5040) (8 : Int32).toNatClampNeg 40320) (9 : Int32).toNatClampNeg 362880) (10 : Int32).toNatClampNeg 3628800) (11 : Int32).toNatClampNeg 39916800) (12 : Int32).toNatClampNeg 479001600)))), (q_7, .inl (cI, 11, .inl (fun _ => 0))), (q_8, .inl (cI, 11, .inl (fun _ => 0))), (q_9, .inl (cI, 2400, .inl (fun _ => 0))), (q_10, .inl (cI, 2400, .inl (fun _ => 0))), (q_11, .inl (cJ, 105600, .inr (.inl (fun _ => 0)))), (q_12, .inl (cJ, 2400, .inr (.inl (fun _ => 0)))), (q_13, .inl (cJ, 2400, .inr (.inl (fun _ => 0)))), (q_14, .inl (cJ, 549, .inr (.inl (fun _ => 0)))), (q_15, .inl (cJ, 549, .inr (.inl (fun _ => 0)))), (q_16, .inl (cJ, 549, .inr (.inl (fun _ => 0)))), (q_17, .inl (cJ, 549, .inr (.inl (fun _ => 0))))] H := hP
  have hD : va_D A [(m0, .inr (6, [.ref q_1, .ref q_2, .ref q_3, .ref q_4, .int 0, .ref q_5, .int 0, .int 0, .int 21, .int 17, .int 0, .int 1, .int 1, .int 1, .int 3, .long 1, .int 0, .ref q_6, .ref q_7, .ref q_8, .int 0, .ref q_9, .ref q_10, .ref q_11, .ref q_12, .ref q_13, .int 0, .int 0, .int 0, .int 0, .int 0, .int 0, .int 0, .int 0, .int 0, .ref q_14, .ref q_15, .ref q_16, .ref q_17])), (q_1, .inl (cI, 11, .inl (fun _ => 0))), (q_2, .inl (cI, 11, .inl (fun _ => 0))), (q_3, .inl (cI, 11, .inl (fun _ => 0))), (q_4, .inl (cI, 11, .inl (fun _ => 0))), (q_5, .inl (cI, 12, .inl (fun _ => 0))), (q_6, .inl (cJ, 13, .inr (.inl (vp_updL (vp_updL (vp_updL (vp_updL (vp_updL (vp_updL (vp_updL (vp_updL (vp_updL (vp_updL (vp_updL (vp_updL (vp_updL (fun _ => 0) (0 : Int32).toNatClampNeg 1) (1 : Int32).toNatClampNeg 1) (2 : Int32).toNatClampNeg 2) (3 : Int32).toNatClampNeg 6) (4 : Int32).toNatClampNeg 24) (5 : Int32).toNatClampNeg 120) (6 : Int32).toNatClampNeg 720) (7 : Int32).toNatClampNeg 5040) (8 : Int32).toNatClampNeg 40320) (9 : Int32).toNatClampNeg 362880) (10 : Int32).toNatClampNeg 3628800) (11 : Int32).toNatClampNeg 39916800) (12 : Int32).toNatClampNeg 479001600)))), (q_7, .inl (cI, 11, .inl (fun _ => 0))), (q_8, .inl (cI, 11, .inl (fun _ => 0))), (q_9, .inl (cI, 2400, .inl (fun _ => 0))), (q_10, .inl (cI, 2400, .inl (fun _ => 0))), (q_11, .inl (cJ, 105600, .inr (.inl (fun _ => 0)))), (q_12, .inl (cJ, 2400, .inr (.inl (fun _ => 0)))), (q_13, .inl (cJ, 2400, .inr (.inl (fun _ => 0)))), (q_14, .inl (cJ, 549, .inr (.inl (fun _ => 0)))), (q_15, .inl (cJ, 549, .inr (.inl (fun _ => 0)))), (q_16, .inl (cJ, 549, .inr (.inl (fun _ => 0)))), (q_17, .inl (cJ, 549, .inr (.inl (fun _ => 0))))] := hD
  refine lv_lload_n hx hb dX6_init_202 rfl (lv_at hl 1 rfl) ?_
  refine lv_iload_n hx hb dX6_init_203 rfl (lv_at hl 0 rfl) ?_
  refine lv_i2l (v := 12) hx hb dX6_init_204 (by decide) ?_
  refine lv_lconst (v := 1) hx hb dX6_init_205 (by decide) ?_
  refine lv_ladd hx hb dX6_init_206 ?_
  refine lv_topl (fun z_55 ez_55 => ?_)
  obtain rfl : z_55 = 13 := ez_55.trans (by decide)
  refine lv_lmul hx hb dX6_init_207 ?_
  refine lv_topl (fun z_56 ez_56 => ?_)
  obtain rfl : z_56 = 6227020800 := ez_56.trans (by decide)
  refine lv_lstore_n (lv' := [(1, .long 6227020800), (3, .int 12), (0, .ref m0)]) hx hb dX6_init_208 rfl hl (by decide) rfl (fun ls hl => ?_)
  refine lv_iinc (v := 13) (lv' := [(3, .int 13), (1, .long 6227020800), (0, .ref m0)]) hx hb dX6_init_209 hl (k := 1) rfl (by decide) (by decide) rfl (fun ls hl => ?_)
  refine lv_goto (tgt := 189) hx hb dX6_init_212 (by decide) ?_
  refine lv_iload_n hx hb dX6_init_189 rfl (lv_at hl 0 rfl) ?_
  refine lv_bipush (v := 12) hx hb dX6_init_190 (by decide) ?_
  refine lv_icmp_gt (tgt := 215) hx hb dX6_init_192 (by decide) (fun c192_57 => ?_) (fun c192_57 => ?_)
  · skip
    have hP9 := hP.sub (ws' := [(m0, .inr (6, [.ref q_1, .ref q_2, .ref q_3, .ref q_4, .int 0, .ref q_5, .int 0, .int 0, .int 21, .int 17, .int 0, .int 1, .int 1, .int 1, .int 3, .long 1, .int 0, .ref q_6, .ref q_7, .ref q_8, .int 0, .ref q_9, .ref q_10, .ref q_11, .ref q_12, .ref q_13, .int 0, .int 0, .int 0, .int 0, .int 0, .int 0, .int 0, .int 0, .int 0, .ref q_14, .ref q_15, .ref q_16, .ref q_17])), (q_1, .inl (cI, 11, .inl (fun _ => 0))), (q_2, .inl (cI, 11, .inl (fun _ => 0))), (q_3, .inl (cI, 11, .inl (fun _ => 0))), (q_4, .inl (cI, 11, .inl (fun _ => 0))), (q_5, .inl (cI, 12, .inl (fun _ => 0))), (q_14, .inl (cJ, 549, .inr (.inl (fun _ => 0)))), (q_15, .inl (cJ, 549, .inr (.inl (fun _ => 0)))), (q_16, .inl (cJ, 549, .inr (.inl (fun _ => 0)))), (q_17, .inl (cJ, 549, .inr (.inl (fun _ => 0))))]) [0, 1, 2, 3, 4, 5, 14, 15, 16, 17] rfl
    have hD9 := hD.sub (ws' := [(m0, .inr (6, [.ref q_1, .ref q_2, .ref q_3, .ref q_4, .int 0, .ref q_5, .int 0, .int 0, .int 21, .int 17, .int 0, .int 1, .int 1, .int 1, .int 3, .long 1, .int 0, .ref q_6, .ref q_7, .ref q_8, .int 0, .ref q_9, .ref q_10, .ref q_11, .ref q_12, .ref q_13, .int 0, .int 0, .int 0, .int 0, .int 0, .int 0, .int 0, .int 0, .int 0, .ref q_14, .ref q_15, .ref q_16, .ref q_17])), (q_1, .inl (cI, 11, .inl (fun _ => 0))), (q_2, .inl (cI, 11, .inl (fun _ => 0))), (q_3, .inl (cI, 11, .inl (fun _ => 0))), (q_4, .inl (cI, 11, .inl (fun _ => 0))), (q_5, .inl (cI, 12, .inl (fun _ => 0))), (q_14, .inl (cJ, 549, .inr (.inl (fun _ => 0)))), (q_15, .inl (cJ, 549, .inr (.inl (fun _ => 0)))), (q_16, .inl (cJ, 549, .inr (.inl (fun _ => 0)))), (q_17, .inl (cJ, 549, .inr (.inl (fun _ => 0))))]) [0, 1, 2, 3, 4, 5, 14, 15, 16, 17] (by decide) rfl
    refine W.widen (k := 17) (n := 117487) (Nat.le_of_ble_eq_true rfl) (Nat.le_of_ble_eq_true rfl) ?_
    exact W.vret hx hb hr (fun t ht hW => ⟨⟨(), rfl, (by first | rfl | trivial | (simp [c192_57]; done) | ((try first | rw [if_pos c192_57] | rw [if_neg c192_57]); first | done | rfl | trivial) | (simp_all; done)), q_1, q_2, q_3, q_4, q_5, q_6, q_7, q_8, q_9, q_10, q_11, q_12, q_13, q_14, q_15, q_16, q_17, by rw [ht]; exact hP9, va_K.moved hW.alike hK, hD9⟩, hS.F ht⟩) hS.2.2 dX6_init_215
  · exact absurd c192_57 (by decide)

set_option maxHeartbeats 400000 in
set_option maxRecDepth 100000 in
/-- X6_in -/
theorem c_X6_in (l : Launch) (D : va_G) (cI cJ cQ : ClassId) (v : Int64) (lo : Int64) (hi : Int64)  : Met l yX6_in wsX6_in ({ frames := 0, cells := 0, slots := 0, locals := 0 }) (va_Pc [.long v, .long lo, .long hi] (rP D (gTy cI cJ cQ) [])) (vp_Si (fun r => r = inB v lo hi)) 0 0 (fun _ => False) := by
  refine Met.ofW (cc := cX6_in) (maxL := 6) (ret := (some .boolean)) (by decide) rfl ?_
  intro p e s m args below meth c s₁ B hml hv
  obtain ⟨rfl, hP, hK⟩ := hv
  have hx := B.exec
  have hb := B.bytes
  have hr := B.returns
  have hts := atoms_spec (ws := wsX6_in) B.pre
  have hown : s.vm.findClass RX6 = some m.cls := findClass_of_methodNamed B.named
  have hlocks := B.notSynchronized
  have hl := lv_entry ([.long v, .long lo, .long hi]) (n := 6) (Nat.le_of_ble_eq_true rfl)
  rw [lg_entry_eq]
  generalize (lg_sl ([.long v, .long lo, .long hi]) ++ List.replicate (6 - (lg_sl ([.long v, .long lo, .long hi])).length) Slot.unset).toArray = ls at hl ⊢
  have hl : lv_has ls 6 [(0, .long v), (2, .long lo), (4, .long hi)] := hl
  refine lv_lload_n hx hb dX6_in_0 rfl (lv_at hl 0 rfl) ?_
  refine lv_lload_n hx hb dX6_in_1 rfl (lv_at hl 1 rfl) ?_
  refine W.lcmp hx hb dX6_in_2 ?_
  refine lv_if_lt (tgt := 17) hx hb dX6_in_3 (by decide) (fun c3_1 => ?_) (fun c3_1 => ?_)
  · skip
    refine lv_iconst (v := 0) hx hb dX6_in_17 (by decide) ?_
    exact W.zret (v := 0) hx hb hr rfl (fun t ht hW => ⟨_, rfl, (by unfold inB; rw [lg_cmp_lt] at c3_1; ((try first | rw [if_pos c3_1] | rw [if_neg c3_1]); first | done | rfl | trivial)), ht⟩) (fun q hq => absurd hq List.not_mem_nil) dX6_in_18
  · skip
    refine lv_lload_n hx hb dX6_in_6 rfl (lv_at hl 0 rfl) ?_
    refine lv_lload hx hb dX6_in_7 (lv_at hl 2 rfl) ?_
    refine W.lcmp hx hb dX6_in_9 ?_
    refine lv_if_gt (tgt := 17) hx hb dX6_in_10 (by decide) (fun c10_2 => ?_) (fun c10_2 => ?_)
    · skip
      refine lv_iconst (v := 0) hx hb dX6_in_17 (by decide) ?_
      exact W.zret (v := 0) hx hb hr rfl (fun t ht hW => ⟨_, rfl, (by unfold inB; rw [lg_cmp_lt] at c3_1; rw [lg_cmp_gt] at c10_2; ((try first | rw [if_pos c3_1] | rw [if_neg c3_1]); (try first | rw [if_pos c10_2] | rw [if_neg c10_2]); first | done | rfl | trivial)), ht⟩) (fun q hq => absurd hq List.not_mem_nil) dX6_in_18
    · skip
      refine lv_iconst (v := 1) hx hb dX6_in_13 (by decide) ?_
      refine lv_goto (tgt := 18) hx hb dX6_in_14 (by decide) ?_
      exact W.zret (v := 1) hx hb hr rfl (fun t ht hW => ⟨_, rfl, (by unfold inB; rw [lg_cmp_lt] at c3_1; rw [lg_cmp_gt] at c10_2; ((try first | rw [if_pos c3_1] | rw [if_neg c3_1]); (try first | rw [if_pos c10_2] | rw [if_neg c10_2]); first | done | rfl | trivial)), ht⟩) (fun q hq => absurd hq List.not_mem_nil) dX6_in_18

set_option maxRecDepth 20000 in
theorem in_X6_all_X6 : ∀ w ∈ wsX60, w ∈ wsX6_all := by decide +kernel
set_option maxRecDepth 20000 in
theorem wd_X6_all_0 : Cond.fieldLink RX6 7 "ShoeTableModel" "shoe" "[I" ∈ wsX6_all := by decide +kernel
set_option maxHeartbeats 400000 in
set_option maxRecDepth 100000 in
/-- X6_all -/
theorem c_X6_all (l : Launch) (D : va_G) (cI cJ cQ : ClassId) (m0 : Nat) (ms : Nat) (mf : Nat) (mw : Nat) (mk : Nat) (mh : Nat) (q0 : Nat) (q1 : Nat) (q2 : Nat) (q3 : Nat) (q4 : Nat) (q5 : Nat) (q6 : Nat) (q7 : Nat) (k0 : Nat) (k1 : Nat) (k2 : Nat) (k3 : Nat)  : Met l yX6_all wsX6_all ({ frames := 0, cells := 0, slots := 0, locals := 0 }) (va_Pc [.ref m0] (rP D (gTy cI cJ cQ) [(m0, .inr (6, [.ref ms, .ref mf, .ref mw, .ref mk, .int 0, .ref mh, .int 0, .int 0, .int 21, .int 17, .int 0, .int 1, .int 1, .int 1, .int 3, .long 1, .int 0, .ref q0, .ref q1, .ref q2, .int 0, .ref q3, .ref q4, .ref q5, .ref q6, .ref q7, .int 0, .int 0, .int 0, .int 0, .int 0, .int 0, .int 0, .int 0, .int 0, .ref k0, .ref k1, .ref k2, .ref k3])), (ms, .inl (cI, 11, .inl (fun _ => 0)))])) (vp_Si (fun r => r = 0)) 0 0 (fun _ => False) := by
  refine Met.ofW (cc := cX6_all) (maxL := 3) (ret := (some .int)) (by decide) rfl ?_
  intro p e s m args below meth c s₁ B hml hv
  obtain ⟨rfl, hP, hK⟩ := hv
  have hx := B.exec
  have hb := B.bytes
  have hr := B.returns
  have hts := atoms_spec (ws := wsX6_all) B.pre
  have hown : s.vm.findClass RX6 = some m.cls := findClass_of_methodNamed B.named
  have hlocks := B.notSynchronized
  have hl := lv_entry ([.ref m0]) (n := 3) (Nat.le_of_ble_eq_true rfl)
  rw [lg_entry_eq]
  generalize (lg_sl ([.ref m0]) ++ List.replicate (3 - (lg_sl ([.ref m0])).length) Slot.unset).toArray = ls at hl ⊢
  have hl : lv_has ls 3 [(0, .ref m0)] := hl
  refine lv_iconst (v := 0) hx hb dX6_all_0 (by decide) ?_
  refine lv_istore_n (lv' := [(1, .int 0), (0, .ref m0)]) hx hb dX6_all_1 rfl hl (by decide) rfl (fun ls hl => ?_)
  refine lv_iconst (v := 1) hx hb dX6_all_2 (by decide) ?_
  refine lv_istore_n (lv' := [(2, .int 1), (1, .int 0), (0, .ref m0)]) hx hb dX6_all_3 rfl hl (by decide) rfl (fun ls hl => ?_)
  refine lv_iload_n hx hb dX6_all_4 rfl (lv_at hl 0 rfl) ?_
  refine lv_bipush (v := 11) hx hb dX6_all_5 (by decide) ?_
  refine lv_icmp_ge (tgt := 25) hx hb dX6_all_7 (by decide) (fun c7_1 => ?_) (fun c7_1 => ?_)
  · exact absurd c7_1 (by decide)
  refine lv_iload_n hx hb dX6_all_10 rfl (lv_at hl 1 rfl) ?_
  refine lv_aload_n hx hb dX6_all_11 rfl (lv_at hl 2 rfl) ?_
  refine va_get (D := D) (ci := 6) (v := .ref ms) (C := RX6) (T := TX6) (N := 39) hx hb hts in_X6_all_X6 hown hK hP 0 rfl rfl 0 (by decide) (hts _ wd_X6_all_0) (fun _ h9 => h9) rfl dX6_all_12 ?_
  refine lv_iload_n hx hb dX6_all_15 rfl (lv_at hl 0 rfl) ?_
  refine va_iald hx hb hK hP 1 0 rfl rfl (show ¬ ((1 : Int32) < 0 ∨ 11 ≤ (1 : Int32).toNatClampNeg) by decide) dX6_all_16 ?_
  refine lv_topi (fun z_2 ez_2 => ?_)
  obtain rfl : z_2 = 0 := ez_2
  refine lv_iadd hx hb dX6_all_17 ?_
  refine lv_topi (fun z_3 ez_3 => ?_)
  obtain rfl : z_3 = 0 := ez_3.trans (by decide)
  refine lv_istore_n (lv' := [(1, .int 0), (2, .int 1), (0, .ref m0)]) hx hb dX6_all_18 rfl hl (by decide) rfl (fun ls hl => ?_)
  refine lv_iinc (v := 2) (lv' := [(2, .int 2), (1, .int 0), (0, .ref m0)]) hx hb dX6_all_19 hl (k := 1) rfl (by decide) (by decide) rfl (fun ls hl => ?_)
  refine lv_goto (tgt := 4) hx hb dX6_all_22 (by decide) ?_
  refine lv_iload_n hx hb dX6_all_4 rfl (lv_at hl 0 rfl) ?_
  refine lv_bipush (v := 11) hx hb dX6_all_5 (by decide) ?_
  refine lv_icmp_ge (tgt := 25) hx hb dX6_all_7 (by decide) (fun c7_4 => ?_) (fun c7_4 => ?_)
  · exact absurd c7_4 (by decide)
  refine lv_iload_n hx hb dX6_all_10 rfl (lv_at hl 1 rfl) ?_
  refine lv_aload_n hx hb dX6_all_11 rfl (lv_at hl 2 rfl) ?_
  refine va_get (D := D) (ci := 6) (v := .ref ms) (C := RX6) (T := TX6) (N := 39) hx hb hts in_X6_all_X6 hown hK hP 0 rfl rfl 0 (by decide) (hts _ wd_X6_all_0) (fun _ h9 => h9) rfl dX6_all_12 ?_
  refine lv_iload_n hx hb dX6_all_15 rfl (lv_at hl 0 rfl) ?_
  refine va_iald hx hb hK hP 1 0 rfl rfl (show ¬ ((2 : Int32) < 0 ∨ 11 ≤ (2 : Int32).toNatClampNeg) by decide) dX6_all_16 ?_
  refine lv_topi (fun z_5 ez_5 => ?_)
  obtain rfl : z_5 = 0 := ez_5
  refine lv_iadd hx hb dX6_all_17 ?_
  refine lv_topi (fun z_6 ez_6 => ?_)
  obtain rfl : z_6 = 0 := ez_6.trans (by decide)
  refine lv_istore_n (lv' := [(1, .int 0), (2, .int 2), (0, .ref m0)]) hx hb dX6_all_18 rfl hl (by decide) rfl (fun ls hl => ?_)
  refine lv_iinc (v := 3) (lv' := [(2, .int 3), (1, .int 0), (0, .ref m0)]) hx hb dX6_all_19 hl (k := 1) rfl (by decide) (by decide) rfl (fun ls hl => ?_)
  refine lv_goto (tgt := 4) hx hb dX6_all_22 (by decide) ?_
  refine lv_iload_n hx hb dX6_all_4 rfl (lv_at hl 0 rfl) ?_
  refine lv_bipush (v := 11) hx hb dX6_all_5 (by decide) ?_
  refine lv_icmp_ge (tgt := 25) hx hb dX6_all_7 (by decide) (fun c7_7 => ?_) (fun c7_7 => ?_)
  · exact absurd c7_7 (by decide)
  refine lv_iload_n hx hb dX6_all_10 rfl (lv_at hl 1 rfl) ?_
  refine lv_aload_n hx hb dX6_all_11 rfl (lv_at hl 2 rfl) ?_
  refine va_get (D := D) (ci := 6) (v := .ref ms) (C := RX6) (T := TX6) (N := 39) hx hb hts in_X6_all_X6 hown hK hP 0 rfl rfl 0 (by decide) (hts _ wd_X6_all_0) (fun _ h9 => h9) rfl dX6_all_12 ?_
  refine lv_iload_n hx hb dX6_all_15 rfl (lv_at hl 0 rfl) ?_
  refine va_iald hx hb hK hP 1 0 rfl rfl (show ¬ ((3 : Int32) < 0 ∨ 11 ≤ (3 : Int32).toNatClampNeg) by decide) dX6_all_16 ?_
  refine lv_topi (fun z_8 ez_8 => ?_)
  obtain rfl : z_8 = 0 := ez_8
  refine lv_iadd hx hb dX6_all_17 ?_
  refine lv_topi (fun z_9 ez_9 => ?_)
  obtain rfl : z_9 = 0 := ez_9.trans (by decide)
  refine lv_istore_n (lv' := [(1, .int 0), (2, .int 3), (0, .ref m0)]) hx hb dX6_all_18 rfl hl (by decide) rfl (fun ls hl => ?_)
  refine lv_iinc (v := 4) (lv' := [(2, .int 4), (1, .int 0), (0, .ref m0)]) hx hb dX6_all_19 hl (k := 1) rfl (by decide) (by decide) rfl (fun ls hl => ?_)
  refine lv_goto (tgt := 4) hx hb dX6_all_22 (by decide) ?_
  refine lv_iload_n hx hb dX6_all_4 rfl (lv_at hl 0 rfl) ?_
  refine lv_bipush (v := 11) hx hb dX6_all_5 (by decide) ?_
  refine lv_icmp_ge (tgt := 25) hx hb dX6_all_7 (by decide) (fun c7_10 => ?_) (fun c7_10 => ?_)
  · exact absurd c7_10 (by decide)
  refine lv_iload_n hx hb dX6_all_10 rfl (lv_at hl 1 rfl) ?_
  refine lv_aload_n hx hb dX6_all_11 rfl (lv_at hl 2 rfl) ?_
  refine va_get (D := D) (ci := 6) (v := .ref ms) (C := RX6) (T := TX6) (N := 39) hx hb hts in_X6_all_X6 hown hK hP 0 rfl rfl 0 (by decide) (hts _ wd_X6_all_0) (fun _ h9 => h9) rfl dX6_all_12 ?_
  refine lv_iload_n hx hb dX6_all_15 rfl (lv_at hl 0 rfl) ?_
  refine va_iald hx hb hK hP 1 0 rfl rfl (show ¬ ((4 : Int32) < 0 ∨ 11 ≤ (4 : Int32).toNatClampNeg) by decide) dX6_all_16 ?_
  refine lv_topi (fun z_11 ez_11 => ?_)
  obtain rfl : z_11 = 0 := ez_11
  refine lv_iadd hx hb dX6_all_17 ?_
  refine lv_topi (fun z_12 ez_12 => ?_)
  obtain rfl : z_12 = 0 := ez_12.trans (by decide)
  refine lv_istore_n (lv' := [(1, .int 0), (2, .int 4), (0, .ref m0)]) hx hb dX6_all_18 rfl hl (by decide) rfl (fun ls hl => ?_)
  refine lv_iinc (v := 5) (lv' := [(2, .int 5), (1, .int 0), (0, .ref m0)]) hx hb dX6_all_19 hl (k := 1) rfl (by decide) (by decide) rfl (fun ls hl => ?_)
  refine lv_goto (tgt := 4) hx hb dX6_all_22 (by decide) ?_
  refine lv_iload_n hx hb dX6_all_4 rfl (lv_at hl 0 rfl) ?_
  refine lv_bipush (v := 11) hx hb dX6_all_5 (by decide) ?_
  refine lv_icmp_ge (tgt := 25) hx hb dX6_all_7 (by decide) (fun c7_13 => ?_) (fun c7_13 => ?_)
  · exact absurd c7_13 (by decide)
  refine lv_iload_n hx hb dX6_all_10 rfl (lv_at hl 1 rfl) ?_
  refine lv_aload_n hx hb dX6_all_11 rfl (lv_at hl 2 rfl) ?_
  refine va_get (D := D) (ci := 6) (v := .ref ms) (C := RX6) (T := TX6) (N := 39) hx hb hts in_X6_all_X6 hown hK hP 0 rfl rfl 0 (by decide) (hts _ wd_X6_all_0) (fun _ h9 => h9) rfl dX6_all_12 ?_
  refine lv_iload_n hx hb dX6_all_15 rfl (lv_at hl 0 rfl) ?_
  refine va_iald hx hb hK hP 1 0 rfl rfl (show ¬ ((5 : Int32) < 0 ∨ 11 ≤ (5 : Int32).toNatClampNeg) by decide) dX6_all_16 ?_
  refine lv_topi (fun z_14 ez_14 => ?_)
  obtain rfl : z_14 = 0 := ez_14
  refine lv_iadd hx hb dX6_all_17 ?_
  refine lv_topi (fun z_15 ez_15 => ?_)
  obtain rfl : z_15 = 0 := ez_15.trans (by decide)
  refine lv_istore_n (lv' := [(1, .int 0), (2, .int 5), (0, .ref m0)]) hx hb dX6_all_18 rfl hl (by decide) rfl (fun ls hl => ?_)
  refine lv_iinc (v := 6) (lv' := [(2, .int 6), (1, .int 0), (0, .ref m0)]) hx hb dX6_all_19 hl (k := 1) rfl (by decide) (by decide) rfl (fun ls hl => ?_)
  refine lv_goto (tgt := 4) hx hb dX6_all_22 (by decide) ?_
  refine lv_iload_n hx hb dX6_all_4 rfl (lv_at hl 0 rfl) ?_
  refine lv_bipush (v := 11) hx hb dX6_all_5 (by decide) ?_
  refine lv_icmp_ge (tgt := 25) hx hb dX6_all_7 (by decide) (fun c7_16 => ?_) (fun c7_16 => ?_)
  · exact absurd c7_16 (by decide)
  refine lv_iload_n hx hb dX6_all_10 rfl (lv_at hl 1 rfl) ?_
  refine lv_aload_n hx hb dX6_all_11 rfl (lv_at hl 2 rfl) ?_
  refine va_get (D := D) (ci := 6) (v := .ref ms) (C := RX6) (T := TX6) (N := 39) hx hb hts in_X6_all_X6 hown hK hP 0 rfl rfl 0 (by decide) (hts _ wd_X6_all_0) (fun _ h9 => h9) rfl dX6_all_12 ?_
  refine lv_iload_n hx hb dX6_all_15 rfl (lv_at hl 0 rfl) ?_
  refine va_iald hx hb hK hP 1 0 rfl rfl (show ¬ ((6 : Int32) < 0 ∨ 11 ≤ (6 : Int32).toNatClampNeg) by decide) dX6_all_16 ?_
  refine lv_topi (fun z_17 ez_17 => ?_)
  obtain rfl : z_17 = 0 := ez_17
  refine lv_iadd hx hb dX6_all_17 ?_
  refine lv_topi (fun z_18 ez_18 => ?_)
  obtain rfl : z_18 = 0 := ez_18.trans (by decide)
  refine lv_istore_n (lv' := [(1, .int 0), (2, .int 6), (0, .ref m0)]) hx hb dX6_all_18 rfl hl (by decide) rfl (fun ls hl => ?_)
  refine lv_iinc (v := 7) (lv' := [(2, .int 7), (1, .int 0), (0, .ref m0)]) hx hb dX6_all_19 hl (k := 1) rfl (by decide) (by decide) rfl (fun ls hl => ?_)
  refine lv_goto (tgt := 4) hx hb dX6_all_22 (by decide) ?_
  refine lv_iload_n hx hb dX6_all_4 rfl (lv_at hl 0 rfl) ?_
  refine lv_bipush (v := 11) hx hb dX6_all_5 (by decide) ?_
  refine lv_icmp_ge (tgt := 25) hx hb dX6_all_7 (by decide) (fun c7_19 => ?_) (fun c7_19 => ?_)
  · exact absurd c7_19 (by decide)
  refine lv_iload_n hx hb dX6_all_10 rfl (lv_at hl 1 rfl) ?_
  refine lv_aload_n hx hb dX6_all_11 rfl (lv_at hl 2 rfl) ?_
  refine va_get (D := D) (ci := 6) (v := .ref ms) (C := RX6) (T := TX6) (N := 39) hx hb hts in_X6_all_X6 hown hK hP 0 rfl rfl 0 (by decide) (hts _ wd_X6_all_0) (fun _ h9 => h9) rfl dX6_all_12 ?_
  refine lv_iload_n hx hb dX6_all_15 rfl (lv_at hl 0 rfl) ?_
  refine va_iald hx hb hK hP 1 0 rfl rfl (show ¬ ((7 : Int32) < 0 ∨ 11 ≤ (7 : Int32).toNatClampNeg) by decide) dX6_all_16 ?_
  refine lv_topi (fun z_20 ez_20 => ?_)
  obtain rfl : z_20 = 0 := ez_20
  refine lv_iadd hx hb dX6_all_17 ?_
  refine lv_topi (fun z_21 ez_21 => ?_)
  obtain rfl : z_21 = 0 := ez_21.trans (by decide)
  refine lv_istore_n (lv' := [(1, .int 0), (2, .int 7), (0, .ref m0)]) hx hb dX6_all_18 rfl hl (by decide) rfl (fun ls hl => ?_)
  refine lv_iinc (v := 8) (lv' := [(2, .int 8), (1, .int 0), (0, .ref m0)]) hx hb dX6_all_19 hl (k := 1) rfl (by decide) (by decide) rfl (fun ls hl => ?_)
  refine lv_goto (tgt := 4) hx hb dX6_all_22 (by decide) ?_
  refine lv_iload_n hx hb dX6_all_4 rfl (lv_at hl 0 rfl) ?_
  refine lv_bipush (v := 11) hx hb dX6_all_5 (by decide) ?_
  refine lv_icmp_ge (tgt := 25) hx hb dX6_all_7 (by decide) (fun c7_22 => ?_) (fun c7_22 => ?_)
  · exact absurd c7_22 (by decide)
  refine lv_iload_n hx hb dX6_all_10 rfl (lv_at hl 1 rfl) ?_
  refine lv_aload_n hx hb dX6_all_11 rfl (lv_at hl 2 rfl) ?_
  refine va_get (D := D) (ci := 6) (v := .ref ms) (C := RX6) (T := TX6) (N := 39) hx hb hts in_X6_all_X6 hown hK hP 0 rfl rfl 0 (by decide) (hts _ wd_X6_all_0) (fun _ h9 => h9) rfl dX6_all_12 ?_
  refine lv_iload_n hx hb dX6_all_15 rfl (lv_at hl 0 rfl) ?_
  refine va_iald hx hb hK hP 1 0 rfl rfl (show ¬ ((8 : Int32) < 0 ∨ 11 ≤ (8 : Int32).toNatClampNeg) by decide) dX6_all_16 ?_
  refine lv_topi (fun z_23 ez_23 => ?_)
  obtain rfl : z_23 = 0 := ez_23
  refine lv_iadd hx hb dX6_all_17 ?_
  refine lv_topi (fun z_24 ez_24 => ?_)
  obtain rfl : z_24 = 0 := ez_24.trans (by decide)
  refine lv_istore_n (lv' := [(1, .int 0), (2, .int 8), (0, .ref m0)]) hx hb dX6_all_18 rfl hl (by decide) rfl (fun ls hl => ?_)
  refine lv_iinc (v := 9) (lv' := [(2, .int 9), (1, .int 0), (0, .ref m0)]) hx hb dX6_all_19 hl (k := 1) rfl (by decide) (by decide) rfl (fun ls hl => ?_)
  refine lv_goto (tgt := 4) hx hb dX6_all_22 (by decide) ?_
  refine lv_iload_n hx hb dX6_all_4 rfl (lv_at hl 0 rfl) ?_
  refine lv_bipush (v := 11) hx hb dX6_all_5 (by decide) ?_
  refine lv_icmp_ge (tgt := 25) hx hb dX6_all_7 (by decide) (fun c7_25 => ?_) (fun c7_25 => ?_)
  · exact absurd c7_25 (by decide)
  refine lv_iload_n hx hb dX6_all_10 rfl (lv_at hl 1 rfl) ?_
  refine lv_aload_n hx hb dX6_all_11 rfl (lv_at hl 2 rfl) ?_
  refine va_get (D := D) (ci := 6) (v := .ref ms) (C := RX6) (T := TX6) (N := 39) hx hb hts in_X6_all_X6 hown hK hP 0 rfl rfl 0 (by decide) (hts _ wd_X6_all_0) (fun _ h9 => h9) rfl dX6_all_12 ?_
  refine lv_iload_n hx hb dX6_all_15 rfl (lv_at hl 0 rfl) ?_
  refine va_iald hx hb hK hP 1 0 rfl rfl (show ¬ ((9 : Int32) < 0 ∨ 11 ≤ (9 : Int32).toNatClampNeg) by decide) dX6_all_16 ?_
  refine lv_topi (fun z_26 ez_26 => ?_)
  obtain rfl : z_26 = 0 := ez_26
  refine lv_iadd hx hb dX6_all_17 ?_
  refine lv_topi (fun z_27 ez_27 => ?_)
  obtain rfl : z_27 = 0 := ez_27.trans (by decide)
  refine lv_istore_n (lv' := [(1, .int 0), (2, .int 9), (0, .ref m0)]) hx hb dX6_all_18 rfl hl (by decide) rfl (fun ls hl => ?_)
  refine lv_iinc (v := 10) (lv' := [(2, .int 10), (1, .int 0), (0, .ref m0)]) hx hb dX6_all_19 hl (k := 1) rfl (by decide) (by decide) rfl (fun ls hl => ?_)
  refine lv_goto (tgt := 4) hx hb dX6_all_22 (by decide) ?_
  refine lv_iload_n hx hb dX6_all_4 rfl (lv_at hl 0 rfl) ?_
  refine lv_bipush (v := 11) hx hb dX6_all_5 (by decide) ?_
  refine lv_icmp_ge (tgt := 25) hx hb dX6_all_7 (by decide) (fun c7_28 => ?_) (fun c7_28 => ?_)
  · exact absurd c7_28 (by decide)
  refine lv_iload_n hx hb dX6_all_10 rfl (lv_at hl 1 rfl) ?_
  refine lv_aload_n hx hb dX6_all_11 rfl (lv_at hl 2 rfl) ?_
  refine va_get (D := D) (ci := 6) (v := .ref ms) (C := RX6) (T := TX6) (N := 39) hx hb hts in_X6_all_X6 hown hK hP 0 rfl rfl 0 (by decide) (hts _ wd_X6_all_0) (fun _ h9 => h9) rfl dX6_all_12 ?_
  refine lv_iload_n hx hb dX6_all_15 rfl (lv_at hl 0 rfl) ?_
  refine va_iald hx hb hK hP 1 0 rfl rfl (show ¬ ((10 : Int32) < 0 ∨ 11 ≤ (10 : Int32).toNatClampNeg) by decide) dX6_all_16 ?_
  refine lv_topi (fun z_29 ez_29 => ?_)
  obtain rfl : z_29 = 0 := ez_29
  refine lv_iadd hx hb dX6_all_17 ?_
  refine lv_topi (fun z_30 ez_30 => ?_)
  obtain rfl : z_30 = 0 := ez_30.trans (by decide)
  refine lv_istore_n (lv' := [(1, .int 0), (2, .int 10), (0, .ref m0)]) hx hb dX6_all_18 rfl hl (by decide) rfl (fun ls hl => ?_)
  refine lv_iinc (v := 11) (lv' := [(2, .int 11), (1, .int 0), (0, .ref m0)]) hx hb dX6_all_19 hl (k := 1) rfl (by decide) (by decide) rfl (fun ls hl => ?_)
  refine lv_goto (tgt := 4) hx hb dX6_all_22 (by decide) ?_
  refine lv_iload_n hx hb dX6_all_4 rfl (lv_at hl 0 rfl) ?_
  refine lv_bipush (v := 11) hx hb dX6_all_5 (by decide) ?_
  refine lv_icmp_ge (tgt := 25) hx hb dX6_all_7 (by decide) (fun c7_31 => ?_) (fun c7_31 => ?_)
  · skip
    refine lv_iload_n hx hb dX6_all_25 rfl (lv_at hl 1 rfl) ?_
    exact W.iret (v := 0) hx hb hr (fun t ht hW => ⟨_, rfl, (by first | rfl | trivial | (simp [c7_31]; done) | ((try first | rw [if_pos c7_31] | rw [if_neg c7_31]); first | done | rfl | trivial) | (simp_all; done)), ht⟩) (fun q hq => absurd hq List.not_mem_nil) dX6_all_26
  · exact absurd c7_31 (by decide)

set_option maxRecDepth 20000 in
theorem wd_X6_shoe_0 : Cond.constantLong RX6 86 (10) ∈ wsX6_shoe := by decide +kernel
set_option maxRecDepth 20000 in
theorem ggX6_shoe_X6_in : GoodIn wsX6_shoe wsX6_in := goodIn_r _ [8] (by decide +kernel) (by decide +kernel)
set_option maxRecDepth 20000 in
theorem gX6_shoe_X6_in : GoodIn wsX6_shoe (va_wsS RX6 88 yX6_in wsX6_in) := goodIn_app (goodIn_of _ (by decide +kernel)) ggX6_shoe_X6_in
set_option maxRecDepth 20000 in
theorem wd_X6_shoe_1 : Cond.constantLong RX6 92 (32) ∈ wsX6_shoe := by decide +kernel
set_option maxRecDepth 20000 in
theorem in_X6_shoe_X6 : ∀ w ∈ wsX60, w ∈ wsX6_shoe := by decide +kernel
set_option maxRecDepth 20000 in
theorem wd_X6_shoe_2 : Cond.fieldLink RX6 7 "ShoeTableModel" "shoe" "[I" ∈ wsX6_shoe := by decide +kernel
set_option maxRecDepth 20000 in
theorem wd_X6_shoe_3 : Cond.fieldLink RX6 94 "ShoeTableModel" "told" "Z" ∈ wsX6_shoe := by decide +kernel
set_option maxHeartbeats 400000 in
set_option maxRecDepth 100000 in
/-- X6_shoe -/
theorem c_X6_shoe (l : Launch) (D : va_G) (cI cJ cQ : ClassId) (sz : Nat) (m0 : Nat) (ms : Nat) (mf : Nat) (mw : Nat) (mk : Nat) (mh : Nat) (q0 : Nat) (q1 : Nat) (q2 : Nat) (q3 : Nat) (q4 : Nat) (q5 : Nat) (q6 : Nat) (q7 : Nat) (k0 : Nat) (k1 : Nat) (k2 : Nat) (k3 : Nat) (p0 : Int32) (p1 : Int32)  : Met l yX6_shoe wsX6_shoe ({ frames := 1, cells := 0, slots := 0, locals := 25 }) (va_Pc [.ref m0, .int p0, .int p1] (mP D (gTy cI cJ cQ) [(m0, .inr (6, [.ref ms, .ref mf, .ref mw, .ref mk, .int 0, .ref mh, .int 0, .int 0, .int 21, .int 17, .int 0, .int 1, .int 1, .int 1, .int 3, .long 1, .int 0, .ref q0, .ref q1, .ref q2, .int 0, .ref q3, .ref q4, .ref q5, .ref q6, .ref q7, .int 0, .int 0, .int 0, .int 0, .int 0, .int 0, .int 0, .int 0, .int 0, .ref k0, .ref k1, .ref k2, .ref k3])), (ms, .inl (cI, 11, .inl (fun _ => 0)))] sz)) (va_Qi (fun (r : Int32) (u : Unit) => match u with | _ => r = shoeM p0 p1) (fun (u : Unit) t => match u with | _ => mB D (gTy cI cJ cQ) (va_A [(m0, .inr (6, [.ref ms, .ref mf, .ref mw, .ref mk, .int 0, .ref mh, .int 0, .int 0, .int 21, .int 17, .int 0, .int 1, .int 1, .int 1, .int 3, .long 1, .int 0, .ref q0, .ref q1, .ref q2, .int 0, .ref q3, .ref q4, .ref q5, .ref q6, .ref q7, .int 0, .int 0, .int 0, .int 0, .int 0, .int 0, .int 0, .int 0, .int 0, .ref k0, .ref k1, .ref k2, .ref k3])), (ms, .inl (cI, 11, .inl (fun _ => 0)))] sz) [] t) (va_A [(m0, .inr (6, [.ref ms, .ref mf, .ref mw, .ref mk, .int 0, .ref mh, .int 0, .int 0, .int 21, .int 17, .int 0, .int 1, .int 1, .int 1, .int 3, .long 1, .int 0, .ref q0, .ref q1, .ref q2, .int 0, .ref q3, .ref q4, .ref q5, .ref q6, .ref q7, .int 0, .int 0, .int 0, .int 0, .int 0, .int 0, .int 0, .int 0, .int 0, .ref k0, .ref k1, .ref k2, .ref k3])), (ms, .inl (cI, 11, .inl (fun _ => 0)))] sz)) 0 0 (va_A [(m0, .inr (6, [.ref ms, .ref mf, .ref mw, .ref mk, .int 0, .ref mh, .int 0, .int 0, .int 21, .int 17, .int 0, .int 1, .int 1, .int 1, .int 3, .long 1, .int 0, .ref q0, .ref q1, .ref q2, .int 0, .ref q3, .ref q4, .ref q5, .ref q6, .ref q7, .int 0, .int 0, .int 0, .int 0, .int 0, .int 0, .int 0, .int 0, .int 0, .ref k0, .ref k1, .ref k2, .ref k3])), (ms, .inl (cI, 11, .inl (fun _ => 0)))] sz) := by
  refine Met.ofW (cc := cX6_shoe) (maxL := 4) (ret := (some .int)) (by decide) rfl ?_
  intro p e s m args below meth c s₁ B hml hv
  obtain ⟨rfl, hsz, hP, hK, hD0⟩ := hv
  have hx := B.exec
  have hb := B.bytes
  have hr := B.returns
  have hts := atoms_spec (ws := wsX6_shoe) B.pre
  have hown : s.vm.findClass RX6 = some m.cls := findClass_of_methodNamed B.named
  have hlocks := B.notSynchronized
  subst hsz
  have hD := hD0.self (sz := s.heap.size)
  generalize hAe : va_A [(m0, .inr (6, [.ref ms, .ref mf, .ref mw, .ref mk, .int 0, .ref mh, .int 0, .int 0, .int 21, .int 17, .int 0, .int 1, .int 1, .int 1, .int 3, .long 1, .int 0, .ref q0, .ref q1, .ref q2, .int 0, .ref q3, .ref q4, .ref q5, .ref q6, .ref q7, .int 0, .int 0, .int 0, .int 0, .int 0, .int 0, .int 0, .int 0, .int 0, .ref k0, .ref k1, .ref k2, .ref k3])), (ms, .inl (cI, 11, .inl (fun _ => 0)))] s.heap.size = A at hD ⊢
  have hA : ∀ q : Nat, s.heap.size ≤ q → A q := fun q h => by rw [← hAe]; exact Or.inr h
  have hS : va_S A s.heap s.heap [] := va_S.rf
  have hP : va_P D vwCl [(m0, .inr (6, [.ref ms, .ref mf, .ref mw, .ref mk, .int 0, .ref mh, .int 0, .int 0, .int 21, .int 17, .int 0, .int 1, .int 1, .int 1, .int 3, .long 1, .int 0, .ref q0, .ref q1, .ref q2, .int 0, .ref q3, .ref q4, .ref q5, .ref q6, .ref q7, .int 0, .int 0, .int 0, .int 0, .int 0, .int 0, .int 0, .int 0, .int 0, .ref k0, .ref k1, .ref k2, .ref k3])), (ms, .inl (cI, 11, .inl (fun _ => 0)))] s.heap := hP
  have hl := lv_entry ([.ref m0, .int p0, .int p1]) (n := 4) (Nat.le_of_ble_eq_true rfl)
  rw [lg_entry_eq]
  generalize (lg_sl ([.ref m0, .int p0, .int p1]) ++ List.replicate (4 - (lg_sl ([.ref m0, .int p0, .int p1])).length) Slot.unset).toArray = ls at hl ⊢
  have hl : lv_has ls 4 [(0, .ref m0), (1, .int p0), (2, .int p1)] := hl
  refine lv_iload_n hx hb dX6_shoe_0 rfl (lv_at hl 1 rfl) ?_
  refine lv_i2l (v := p0.toInt64) hx hb dX6_shoe_1 rfl ?_
  refine lv_lconst (v := 1) hx hb dX6_shoe_2 (by decide) ?_
  refine lv_ldc2 hx hb hown (hts _ wd_X6_shoe_0) dX6_shoe_3 ?_
  have hPc := hP.sub (ws' := []) [] rfl
  refine vp_callSi (W.runS (As := [.long p0.toInt64, .long 1, .long 10]) (rest := []) ⟨hx, hb, hml, hown, hts⟩ (c_X6_in l D cI cJ cQ p0.toInt64 1 10) (va_cwS 3 hts gX6_shoe_X6_in rfl rfl rfl (by decide +kernel) ⟨Nat.le_of_ble_eq_true rfl, Nat.le_of_ble_eq_true rfl⟩) (rP_preS hPc hK) rfl rfl hl.1 rfl (lv_room (Nat.le_of_ble_eq_true rfl)) dX6_shoe_6 ⟨Nat.le_of_ble_eq_true rfl, Nat.le_of_ble_eq_true rfl⟩) (fun r_1 hr_1 => ?_)
  subst hr_1
  refine lv_if_eq (tgt := 24) hx hb dX6_shoe_9 (by decide) (fun c9_2 => ?_) (fun c9_2 => ?_)
  · skip
    refine lv_sipush (v := (-1001)) hx hb dX6_shoe_24 (by decide) ?_
    have hP9 := hP.sub (ws' := []) [] rfl
    have hD9 := hD.sub (ws' := []) [] (by decide) rfl
    exact W.iret (v := (-1001)) hx hb hr (fun t ht hW => ⟨⟨(-1001), (), rfl, (by unfold shoeM; first | (simp [c9_2]; done) | ((try first | rw [if_pos c9_2] | rw [if_neg c9_2]); first | done | rfl | trivial)), by rw [ht]; exact hP9, va_K.moved hW.alike hK, hD9⟩, hS.F ht⟩) hS.2.2 dX6_shoe_27
  · skip
    refine lv_iload_n hx hb dX6_shoe_12 rfl (lv_at hl 2 rfl) ?_
    refine lv_i2l (v := p1.toInt64) hx hb dX6_shoe_13 rfl ?_
    refine lv_lconst (v := 0) hx hb dX6_shoe_14 (by decide) ?_
    refine lv_ldc2 hx hb hown (hts _ wd_X6_shoe_1) dX6_shoe_15 ?_
    have hPc := hP.sub (ws' := []) [] rfl
    refine vp_callSi (W.runS (As := [.long p1.toInt64, .long 0, .long 32]) (rest := []) ⟨hx, hb, hml, hown, hts⟩ (c_X6_in l D cI cJ cQ p1.toInt64 0 32) (va_cwS 3 hts gX6_shoe_X6_in rfl rfl rfl (by decide +kernel) ⟨Nat.le_of_ble_eq_true rfl, Nat.le_of_ble_eq_true rfl⟩) (rP_preS hPc hK) rfl rfl hl.1 rfl (lv_room (Nat.le_of_ble_eq_true rfl)) dX6_shoe_18 ⟨Nat.le_of_ble_eq_true rfl, Nat.le_of_ble_eq_true rfl⟩) (fun r_3 hr_3 => ?_)
    subst hr_3
    refine lv_if_ne (tgt := 28) hx hb dX6_shoe_21 (by decide) (fun c21_4 => ?_) (fun c21_4 => ?_)
    · skip
      refine lv_aload_n hx hb dX6_shoe_28 rfl (lv_at hl 0 rfl) ?_
      refine va_get (D := D) (ci := 6) (v := .ref ms) (C := RX6) (T := TX6) (N := 39) hx hb hts in_X6_shoe_X6 hown hK hP 0 rfl rfl 0 (by decide) (hts _ wd_X6_shoe_2) (fun _ h9 => h9) rfl dX6_shoe_29 ?_
      refine lv_iload_n hx hb dX6_shoe_32 rfl (lv_at hl 1 rfl) ?_
      refine va_iald hx hb hK hP 1 0 rfl rfl (rkB_in (by rw [← in_rk]; exact c9_2)) dX6_shoe_33 ?_
      refine lv_topi (fun z_5 ez_5 => ?_)
      obtain rfl : z_5 = 0 := ez_5
      refine lv_istore_n (lv' := [(3, .int 0), (0, .ref m0), (1, .int p0), (2, .int p1)]) hx hb dX6_shoe_34 rfl hl (by decide) rfl (fun ls hl => ?_)
      refine lv_aload_n hx hb dX6_shoe_35 rfl (lv_at hl 1 rfl) ?_
      refine va_get (D := D) (ci := 6) (v := .ref ms) (C := RX6) (T := TX6) (N := 39) hx hb hts in_X6_shoe_X6 hown hK hP 0 rfl rfl 0 (by decide) (hts _ wd_X6_shoe_2) (fun _ h9 => h9) rfl dX6_shoe_36 ?_
      refine lv_iload_n hx hb dX6_shoe_39 rfl (lv_at hl 2 rfl) ?_
      refine lv_iload_n hx hb dX6_shoe_40 rfl (lv_at hl 3 rfl) ?_
      refine va_iast hx hb hK hP hD hS 1 0 rfl rfl (rkB_in (by rw [← in_rk]; exact c9_2)) dX6_shoe_41 (fun H locs hP hD hS => ?_)
      have hP : va_P D vwCl [(m0, .inr (6, [.ref ms, .ref mf, .ref mw, .ref mk, .int 0, .ref mh, .int 0, .int 0, .int 21, .int 17, .int 0, .int 1, .int 1, .int 1, .int 3, .long 1, .int 0, .ref q0, .ref q1, .ref q2, .int 0, .ref q3, .ref q4, .ref q5, .ref q6, .ref q7, .int 0, .int 0, .int 0, .int 0, .int 0, .int 0, .int 0, .int 0, .int 0, .ref k0, .ref k1, .ref k2, .ref k3])), (ms, .inl (cI, 11, .inl (upd (fun _ => 0) p0.toNatClampNeg p1)))] H := hP
      have hD : va_D A [(m0, .inr (6, [.ref ms, .ref mf, .ref mw, .ref mk, .int 0, .ref mh, .int 0, .int 0, .int 21, .int 17, .int 0, .int 1, .int 1, .int 1, .int 3, .long 1, .int 0, .ref q0, .ref q1, .ref q2, .int 0, .ref q3, .ref q4, .ref q5, .ref q6, .ref q7, .int 0, .int 0, .int 0, .int 0, .int 0, .int 0, .int 0, .int 0, .int 0, .ref k0, .ref k1, .ref k2, .ref k3])), (ms, .inl (cI, 11, .inl (upd (fun _ => 0) p0.toNatClampNeg p1)))] := hD
      refine lv_aload_n hx hb dX6_shoe_42 rfl (lv_at hl 1 rfl) ?_
      refine lv_iconst (v := 1) hx hb dX6_shoe_43 (by decide) ?_
      refine va_put (D := D) (ci := 6) (v := .int 1) (ty := .boolean) (C := RX6) (T := TX6) (N := 39) hx hb hts in_X6_shoe_X6 tyX6 tyX6_ok nmX6 hown hK hP hD hS 0 rfl rfl 4 (by decide) (hts _ wd_X6_shoe_3) (fun _ h9 => h9) rfl (by decide +kernel) rfl rfl (Nat.le_of_ble_eq_true rfl) dX6_shoe_44 (fun H locs hP hD hS => ?_)
      have hP : va_P D vwCl [(m0, .inr (6, [.ref ms, .ref mf, .ref mw, .ref mk, .int 1, .ref mh, .int 0, .int 0, .int 21, .int 17, .int 0, .int 1, .int 1, .int 1, .int 3, .long 1, .int 0, .ref q0, .ref q1, .ref q2, .int 0, .ref q3, .ref q4, .ref q5, .ref q6, .ref q7, .int 0, .int 0, .int 0, .int 0, .int 0, .int 0, .int 0, .int 0, .int 0, .ref k0, .ref k1, .ref k2, .ref k3])), (ms, .inl (cI, 11, .inl (upd (fun _ => 0) p0.toNatClampNeg p1)))] H := hP
      have hD : va_D A [(m0, .inr (6, [.ref ms, .ref mf, .ref mw, .ref mk, .int 1, .ref mh, .int 0, .int 0, .int 21, .int 17, .int 0, .int 1, .int 1, .int 1, .int 3, .long 1, .int 0, .ref q0, .ref q1, .ref q2, .int 0, .ref q3, .ref q4, .ref q5, .ref q6, .ref q7, .int 0, .int 0, .int 0, .int 0, .int 0, .int 0, .int 0, .int 0, .int 0, .ref k0, .ref k1, .ref k2, .ref k3])), (ms, .inl (cI, 11, .inl (upd (fun _ => 0) p0.toNatClampNeg p1)))] := hD
      refine lv_iload_n hx hb dX6_shoe_47 rfl (lv_at hl 0 rfl) ?_
      have hP9 := hP.sub (ws' := []) [] rfl
      have hD9 := hD.sub (ws' := []) [] (by decide) rfl
      exact W.iret (v := 0) hx hb hr (fun t ht hW => ⟨⟨0, (), rfl, (by unfold shoeM; first | (simp [c9_2, c21_4]; done) | ((try first | rw [if_pos c9_2] | rw [if_neg c9_2]); (try first | rw [if_pos c21_4] | rw [if_neg c21_4]); first | done | rfl | trivial)), by rw [ht]; exact hP9, va_K.moved hW.alike hK, hD9⟩, hS.F ht⟩) hS.2.2 dX6_shoe_48
    · skip
      refine lv_sipush (v := (-1001)) hx hb dX6_shoe_24 (by decide) ?_
      have hP9 := hP.sub (ws' := []) [] rfl
      have hD9 := hD.sub (ws' := []) [] (by decide) rfl
      exact W.iret (v := (-1001)) hx hb hr (fun t ht hW => ⟨⟨(-1001), (), rfl, (by unfold shoeM; first | (simp [c9_2, c21_4]; done) | ((try first | rw [if_pos c9_2] | rw [if_neg c9_2]); (try first | rw [if_pos c21_4] | rw [if_neg c21_4]); first | done | rfl | trivial)), by rw [ht]; exact hP9, va_K.moved hW.alike hK, hD9⟩, hS.F ht⟩) hS.2.2 dX6_shoe_27

set_option maxRecDepth 20000 in
theorem in_X6_fresh_X6 : ∀ w ∈ wsX60, w ∈ wsX6_fresh := by decide +kernel
set_option maxRecDepth 20000 in
theorem wd_X6_fresh_0 : Cond.fieldLink RX6 13 "ShoeTableModel" "atFresh" "[I" ∈ wsX6_fresh := by decide +kernel
set_option maxRecDepth 20000 in
theorem wd_X6_fresh_1 : Cond.fieldLink RX6 7 "ShoeTableModel" "shoe" "[I" ∈ wsX6_fresh := by decide +kernel
set_option maxRecDepth 20000 in
theorem wd_X6_fresh_2 : Cond.fieldLink RX6 16 "ShoeTableModel" "went" "[I" ∈ wsX6_fresh := by decide +kernel
set_option maxRecDepth 20000 in
theorem wd_X6_fresh_3 : Cond.fieldLink RX6 94 "ShoeTableModel" "told" "Z" ∈ wsX6_fresh := by decide +kernel
set_option maxRecDepth 20000 in
theorem wd_X6_fresh_4 : Cond.fieldLink RX6 98 "ShoeTableModel" "hands" "I" ∈ wsX6_fresh := by decide +kernel
set_option maxRecDepth 20000 in
theorem wd_X6_fresh_5 : Cond.fieldLink RX6 101 "ShoeTableModel" "up" "I" ∈ wsX6_fresh := by decide +kernel
set_option maxRecDepth 20000 in
theorem ggX6_fresh_X6_all : GoodIn wsX6_fresh wsX6_all := goodIn_r _ [11, 2, 12, 13, 14, 15, 16, 17, 18, 19, 20, 21, 22, 23, 24, 25, 26, 27, 28, 29, 30, 31, 32, 33, 34, 35, 36, 37, 38, 39, 40, 41, 42, 43, 44, 45, 46, 47, 48, 49, 50] (by decide +kernel) (by decide +kernel)
set_option maxRecDepth 20000 in
theorem gX6_fresh_X6_all : GoodIn wsX6_fresh (wsV RX6 104 RX6 yX6_all wsX6_all) := goodIn_app (goodIn_of _ (by decide +kernel)) ggX6_fresh_X6_all
set_option maxHeartbeats 400000 in
set_option maxRecDepth 100000 in
/-- X6_fresh -/
theorem c_X6_fresh (l : Launch) (D : va_G) (cI cJ cQ : ClassId) (sz : Nat) (m0 : Nat) (ms : Nat) (mf : Nat) (mw : Nat) (mk : Nat) (mh : Nat) (q0 : Nat) (q1 : Nat) (q2 : Nat) (q3 : Nat) (q4 : Nat) (q5 : Nat) (q6 : Nat) (q7 : Nat) (k0 : Nat) (k1 : Nat) (k2 : Nat) (k3 : Nat)  : Met l yX6_fresh wsX6_fresh ({ frames := 1, cells := 0, slots := 0, locals := 22 }) (va_Pc [.ref m0] (mP D (gTy cI cJ cQ) [(m0, .inr (6, [.ref ms, .ref mf, .ref mw, .ref mk, .int 0, .ref mh, .int 0, .int 0, .int 21, .int 17, .int 0, .int 1, .int 1, .int 1, .int 3, .long 1, .int 0, .ref q0, .ref q1, .ref q2, .int 0, .ref q3, .ref q4, .ref q5, .ref q6, .ref q7, .int 0, .int 0, .int 0, .int 0, .int 0, .int 0, .int 0, .int 0, .int 0, .ref k0, .ref k1, .ref k2, .ref k3])), (ms, .inl (cI, 11, .inl (fun _ => 0))), (mf, .inl (cI, 11, .inl (fun _ => 0))), (mw, .inl (cI, 11, .inl (fun _ => 0)))] sz)) (va_Qi (fun (r : Int32) (u : Unit) => match u with | _ => r = 0) (fun (u : Unit) t => match u with | _ => mB D (gTy cI cJ cQ) (va_A [(m0, .inr (6, [.ref ms, .ref mf, .ref mw, .ref mk, .int 0, .ref mh, .int 0, .int 0, .int 21, .int 17, .int 0, .int 1, .int 1, .int 1, .int 3, .long 1, .int 0, .ref q0, .ref q1, .ref q2, .int 0, .ref q3, .ref q4, .ref q5, .ref q6, .ref q7, .int 0, .int 0, .int 0, .int 0, .int 0, .int 0, .int 0, .int 0, .int 0, .ref k0, .ref k1, .ref k2, .ref k3])), (ms, .inl (cI, 11, .inl (fun _ => 0))), (mf, .inl (cI, 11, .inl (fun _ => 0))), (mw, .inl (cI, 11, .inl (fun _ => 0)))] sz) [] t) (va_A [(m0, .inr (6, [.ref ms, .ref mf, .ref mw, .ref mk, .int 0, .ref mh, .int 0, .int 0, .int 21, .int 17, .int 0, .int 1, .int 1, .int 1, .int 3, .long 1, .int 0, .ref q0, .ref q1, .ref q2, .int 0, .ref q3, .ref q4, .ref q5, .ref q6, .ref q7, .int 0, .int 0, .int 0, .int 0, .int 0, .int 0, .int 0, .int 0, .int 0, .ref k0, .ref k1, .ref k2, .ref k3])), (ms, .inl (cI, 11, .inl (fun _ => 0))), (mf, .inl (cI, 11, .inl (fun _ => 0))), (mw, .inl (cI, 11, .inl (fun _ => 0)))] sz)) 0 0 (va_A [(m0, .inr (6, [.ref ms, .ref mf, .ref mw, .ref mk, .int 0, .ref mh, .int 0, .int 0, .int 21, .int 17, .int 0, .int 1, .int 1, .int 1, .int 3, .long 1, .int 0, .ref q0, .ref q1, .ref q2, .int 0, .ref q3, .ref q4, .ref q5, .ref q6, .ref q7, .int 0, .int 0, .int 0, .int 0, .int 0, .int 0, .int 0, .int 0, .int 0, .ref k0, .ref k1, .ref k2, .ref k3])), (ms, .inl (cI, 11, .inl (fun _ => 0))), (mf, .inl (cI, 11, .inl (fun _ => 0))), (mw, .inl (cI, 11, .inl (fun _ => 0)))] sz) := by
  refine Met.ofW (cc := cX6_fresh) (maxL := 2) (ret := (some .int)) (by decide) rfl ?_
  intro p e s m args below meth c s₁ B hml hv
  obtain ⟨rfl, hsz, hP, hK, hD0⟩ := hv
  have hx := B.exec
  have hb := B.bytes
  have hr := B.returns
  have hts := atoms_spec (ws := wsX6_fresh) B.pre
  have hown : s.vm.findClass RX6 = some m.cls := findClass_of_methodNamed B.named
  have hlocks := B.notSynchronized
  subst hsz
  have hD := hD0.self (sz := s.heap.size)
  generalize hAe : va_A [(m0, .inr (6, [.ref ms, .ref mf, .ref mw, .ref mk, .int 0, .ref mh, .int 0, .int 0, .int 21, .int 17, .int 0, .int 1, .int 1, .int 1, .int 3, .long 1, .int 0, .ref q0, .ref q1, .ref q2, .int 0, .ref q3, .ref q4, .ref q5, .ref q6, .ref q7, .int 0, .int 0, .int 0, .int 0, .int 0, .int 0, .int 0, .int 0, .int 0, .ref k0, .ref k1, .ref k2, .ref k3])), (ms, .inl (cI, 11, .inl (fun _ => 0))), (mf, .inl (cI, 11, .inl (fun _ => 0))), (mw, .inl (cI, 11, .inl (fun _ => 0)))] s.heap.size = A at hD ⊢
  have hA : ∀ q : Nat, s.heap.size ≤ q → A q := fun q h => by rw [← hAe]; exact Or.inr h
  have hS : va_S A s.heap s.heap [] := va_S.rf
  have hP : va_P D vwCl [(m0, .inr (6, [.ref ms, .ref mf, .ref mw, .ref mk, .int 0, .ref mh, .int 0, .int 0, .int 21, .int 17, .int 0, .int 1, .int 1, .int 1, .int 3, .long 1, .int 0, .ref q0, .ref q1, .ref q2, .int 0, .ref q3, .ref q4, .ref q5, .ref q6, .ref q7, .int 0, .int 0, .int 0, .int 0, .int 0, .int 0, .int 0, .int 0, .int 0, .ref k0, .ref k1, .ref k2, .ref k3])), (ms, .inl (cI, 11, .inl (fun _ => 0))), (mf, .inl (cI, 11, .inl (fun _ => 0))), (mw, .inl (cI, 11, .inl (fun _ => 0)))] s.heap := hP
  have hl := lv_entry ([.ref m0]) (n := 2) (Nat.le_of_ble_eq_true rfl)
  rw [lg_entry_eq]
  generalize (lg_sl ([.ref m0]) ++ List.replicate (2 - (lg_sl ([.ref m0])).length) Slot.unset).toArray = ls at hl ⊢
  have hl : lv_has ls 2 [(0, .ref m0)] := hl
  refine lv_iconst (v := 1) hx hb dX6_fresh_0 (by decide) ?_
  refine lv_istore_n (lv' := [(1, .int 1), (0, .ref m0)]) hx hb dX6_fresh_1 rfl hl (by decide) rfl (fun ls hl => ?_)
  refine lv_iload_n hx hb dX6_fresh_2 rfl (lv_at hl 0 rfl) ?_
  refine lv_bipush (v := 11) hx hb dX6_fresh_3 (by decide) ?_
  refine lv_icmp_ge (tgt := 33) hx hb dX6_fresh_5 (by decide) (fun c5_1 => ?_) (fun c5_1 => ?_)
  · exact absurd c5_1 (by decide)
  refine lv_aload_n hx hb dX6_fresh_8 rfl (lv_at hl 1 rfl) ?_
  refine va_get (D := D) (ci := 6) (v := .ref mf) (C := RX6) (T := TX6) (N := 39) hx hb hts in_X6_fresh_X6 hown hK hP 0 rfl rfl 1 (by decide) (hts _ wd_X6_fresh_0) (fun _ h9 => h9) rfl dX6_fresh_9 ?_
  refine lv_iload_n hx hb dX6_fresh_12 rfl (lv_at hl 0 rfl) ?_
  refine lv_aload_n hx hb dX6_fresh_13 rfl (lv_at hl 1 rfl) ?_
  refine va_get (D := D) (ci := 6) (v := .ref ms) (C := RX6) (T := TX6) (N := 39) hx hb hts in_X6_fresh_X6 hown hK hP 0 rfl rfl 0 (by decide) (hts _ wd_X6_fresh_1) (fun _ h9 => h9) rfl dX6_fresh_14 ?_
  refine lv_iload_n hx hb dX6_fresh_17 rfl (lv_at hl 0 rfl) ?_
  refine va_iald hx hb hK hP 1 0 rfl rfl (show ¬ ((1 : Int32) < 0 ∨ 11 ≤ (1 : Int32).toNatClampNeg) by decide) dX6_fresh_18 ?_
  refine lv_topi (fun z_2 ez_2 => ?_)
  obtain rfl : z_2 = 0 := ez_2
  refine va_iast hx hb hK hP hD hS 2 0 rfl rfl (show ¬ ((1 : Int32) < 0 ∨ 11 ≤ (1 : Int32).toNatClampNeg) by decide) dX6_fresh_19 (fun H locs hP hD hS => ?_)
  have hP : va_P D vwCl [(m0, .inr (6, [.ref ms, .ref mf, .ref mw, .ref mk, .int 0, .ref mh, .int 0, .int 0, .int 21, .int 17, .int 0, .int 1, .int 1, .int 1, .int 3, .long 1, .int 0, .ref q0, .ref q1, .ref q2, .int 0, .ref q3, .ref q4, .ref q5, .ref q6, .ref q7, .int 0, .int 0, .int 0, .int 0, .int 0, .int 0, .int 0, .int 0, .int 0, .ref k0, .ref k1, .ref k2, .ref k3])), (ms, .inl (cI, 11, .inl (fun _ => 0))), (mf, .inl (cI, 11, .inl (upd (fun _ => 0) (1 : Int32).toNatClampNeg 0))), (mw, .inl (cI, 11, .inl (fun _ => 0)))] H := hP
  have hD : va_D A [(m0, .inr (6, [.ref ms, .ref mf, .ref mw, .ref mk, .int 0, .ref mh, .int 0, .int 0, .int 21, .int 17, .int 0, .int 1, .int 1, .int 1, .int 3, .long 1, .int 0, .ref q0, .ref q1, .ref q2, .int 0, .ref q3, .ref q4, .ref q5, .ref q6, .ref q7, .int 0, .int 0, .int 0, .int 0, .int 0, .int 0, .int 0, .int 0, .int 0, .ref k0, .ref k1, .ref k2, .ref k3])), (ms, .inl (cI, 11, .inl (fun _ => 0))), (mf, .inl (cI, 11, .inl (upd (fun _ => 0) (1 : Int32).toNatClampNeg 0))), (mw, .inl (cI, 11, .inl (fun _ => 0)))] := hD
  refine lv_aload_n hx hb dX6_fresh_20 rfl (lv_at hl 1 rfl) ?_
  refine va_get (D := D) (ci := 6) (v := .ref mw) (C := RX6) (T := TX6) (N := 39) hx hb hts in_X6_fresh_X6 hown hK hP 0 rfl rfl 2 (by decide) (hts _ wd_X6_fresh_2) (fun _ h9 => h9) rfl dX6_fresh_21 ?_
  refine lv_iload_n hx hb dX6_fresh_24 rfl (lv_at hl 0 rfl) ?_
  refine lv_iconst (v := 0) hx hb dX6_fresh_25 (by decide) ?_
  refine va_iast hx hb hK hP hD hS 3 0 rfl rfl (show ¬ ((1 : Int32) < 0 ∨ 11 ≤ (1 : Int32).toNatClampNeg) by decide) dX6_fresh_26 (fun H locs hP hD hS => ?_)
  have hP : va_P D vwCl [(m0, .inr (6, [.ref ms, .ref mf, .ref mw, .ref mk, .int 0, .ref mh, .int 0, .int 0, .int 21, .int 17, .int 0, .int 1, .int 1, .int 1, .int 3, .long 1, .int 0, .ref q0, .ref q1, .ref q2, .int 0, .ref q3, .ref q4, .ref q5, .ref q6, .ref q7, .int 0, .int 0, .int 0, .int 0, .int 0, .int 0, .int 0, .int 0, .int 0, .ref k0, .ref k1, .ref k2, .ref k3])), (ms, .inl (cI, 11, .inl (fun _ => 0))), (mf, .inl (cI, 11, .inl (upd (fun _ => 0) (1 : Int32).toNatClampNeg 0))), (mw, .inl (cI, 11, .inl (upd (fun _ => 0) (1 : Int32).toNatClampNeg 0)))] H := hP
  have hD : va_D A [(m0, .inr (6, [.ref ms, .ref mf, .ref mw, .ref mk, .int 0, .ref mh, .int 0, .int 0, .int 21, .int 17, .int 0, .int 1, .int 1, .int 1, .int 3, .long 1, .int 0, .ref q0, .ref q1, .ref q2, .int 0, .ref q3, .ref q4, .ref q5, .ref q6, .ref q7, .int 0, .int 0, .int 0, .int 0, .int 0, .int 0, .int 0, .int 0, .int 0, .ref k0, .ref k1, .ref k2, .ref k3])), (ms, .inl (cI, 11, .inl (fun _ => 0))), (mf, .inl (cI, 11, .inl (upd (fun _ => 0) (1 : Int32).toNatClampNeg 0))), (mw, .inl (cI, 11, .inl (upd (fun _ => 0) (1 : Int32).toNatClampNeg 0)))] := hD
  refine lv_iinc (v := 2) (lv' := [(1, .int 2), (0, .ref m0)]) hx hb dX6_fresh_27 hl (k := 0) rfl (by decide) (by decide) rfl (fun ls hl => ?_)
  refine lv_goto (tgt := 2) hx hb dX6_fresh_30 (by decide) ?_
  refine lv_iload_n hx hb dX6_fresh_2 rfl (lv_at hl 0 rfl) ?_
  refine lv_bipush (v := 11) hx hb dX6_fresh_3 (by decide) ?_
  refine lv_icmp_ge (tgt := 33) hx hb dX6_fresh_5 (by decide) (fun c5_3 => ?_) (fun c5_3 => ?_)
  · exact absurd c5_3 (by decide)
  refine lv_aload_n hx hb dX6_fresh_8 rfl (lv_at hl 1 rfl) ?_
  refine va_get (D := D) (ci := 6) (v := .ref mf) (C := RX6) (T := TX6) (N := 39) hx hb hts in_X6_fresh_X6 hown hK hP 0 rfl rfl 1 (by decide) (hts _ wd_X6_fresh_0) (fun _ h9 => h9) rfl dX6_fresh_9 ?_
  refine lv_iload_n hx hb dX6_fresh_12 rfl (lv_at hl 0 rfl) ?_
  refine lv_aload_n hx hb dX6_fresh_13 rfl (lv_at hl 1 rfl) ?_
  refine va_get (D := D) (ci := 6) (v := .ref ms) (C := RX6) (T := TX6) (N := 39) hx hb hts in_X6_fresh_X6 hown hK hP 0 rfl rfl 0 (by decide) (hts _ wd_X6_fresh_1) (fun _ h9 => h9) rfl dX6_fresh_14 ?_
  refine lv_iload_n hx hb dX6_fresh_17 rfl (lv_at hl 0 rfl) ?_
  refine va_iald hx hb hK hP 1 0 rfl rfl (show ¬ ((2 : Int32) < 0 ∨ 11 ≤ (2 : Int32).toNatClampNeg) by decide) dX6_fresh_18 ?_
  refine lv_topi (fun z_4 ez_4 => ?_)
  obtain rfl : z_4 = 0 := ez_4
  refine va_iast hx hb hK hP hD hS 2 0 rfl rfl (show ¬ ((2 : Int32) < 0 ∨ 11 ≤ (2 : Int32).toNatClampNeg) by decide) dX6_fresh_19 (fun H locs hP hD hS => ?_)
  have hP : va_P D vwCl [(m0, .inr (6, [.ref ms, .ref mf, .ref mw, .ref mk, .int 0, .ref mh, .int 0, .int 0, .int 21, .int 17, .int 0, .int 1, .int 1, .int 1, .int 3, .long 1, .int 0, .ref q0, .ref q1, .ref q2, .int 0, .ref q3, .ref q4, .ref q5, .ref q6, .ref q7, .int 0, .int 0, .int 0, .int 0, .int 0, .int 0, .int 0, .int 0, .int 0, .ref k0, .ref k1, .ref k2, .ref k3])), (ms, .inl (cI, 11, .inl (fun _ => 0))), (mf, .inl (cI, 11, .inl (upd (upd (fun _ => 0) (1 : Int32).toNatClampNeg 0) (2 : Int32).toNatClampNeg 0))), (mw, .inl (cI, 11, .inl (upd (fun _ => 0) (1 : Int32).toNatClampNeg 0)))] H := hP
  have hD : va_D A [(m0, .inr (6, [.ref ms, .ref mf, .ref mw, .ref mk, .int 0, .ref mh, .int 0, .int 0, .int 21, .int 17, .int 0, .int 1, .int 1, .int 1, .int 3, .long 1, .int 0, .ref q0, .ref q1, .ref q2, .int 0, .ref q3, .ref q4, .ref q5, .ref q6, .ref q7, .int 0, .int 0, .int 0, .int 0, .int 0, .int 0, .int 0, .int 0, .int 0, .ref k0, .ref k1, .ref k2, .ref k3])), (ms, .inl (cI, 11, .inl (fun _ => 0))), (mf, .inl (cI, 11, .inl (upd (upd (fun _ => 0) (1 : Int32).toNatClampNeg 0) (2 : Int32).toNatClampNeg 0))), (mw, .inl (cI, 11, .inl (upd (fun _ => 0) (1 : Int32).toNatClampNeg 0)))] := hD
  refine lv_aload_n hx hb dX6_fresh_20 rfl (lv_at hl 1 rfl) ?_
  refine va_get (D := D) (ci := 6) (v := .ref mw) (C := RX6) (T := TX6) (N := 39) hx hb hts in_X6_fresh_X6 hown hK hP 0 rfl rfl 2 (by decide) (hts _ wd_X6_fresh_2) (fun _ h9 => h9) rfl dX6_fresh_21 ?_
  refine lv_iload_n hx hb dX6_fresh_24 rfl (lv_at hl 0 rfl) ?_
  refine lv_iconst (v := 0) hx hb dX6_fresh_25 (by decide) ?_
  refine va_iast hx hb hK hP hD hS 3 0 rfl rfl (show ¬ ((2 : Int32) < 0 ∨ 11 ≤ (2 : Int32).toNatClampNeg) by decide) dX6_fresh_26 (fun H locs hP hD hS => ?_)
  have hP : va_P D vwCl [(m0, .inr (6, [.ref ms, .ref mf, .ref mw, .ref mk, .int 0, .ref mh, .int 0, .int 0, .int 21, .int 17, .int 0, .int 1, .int 1, .int 1, .int 3, .long 1, .int 0, .ref q0, .ref q1, .ref q2, .int 0, .ref q3, .ref q4, .ref q5, .ref q6, .ref q7, .int 0, .int 0, .int 0, .int 0, .int 0, .int 0, .int 0, .int 0, .int 0, .ref k0, .ref k1, .ref k2, .ref k3])), (ms, .inl (cI, 11, .inl (fun _ => 0))), (mf, .inl (cI, 11, .inl (upd (upd (fun _ => 0) (1 : Int32).toNatClampNeg 0) (2 : Int32).toNatClampNeg 0))), (mw, .inl (cI, 11, .inl (upd (upd (fun _ => 0) (1 : Int32).toNatClampNeg 0) (2 : Int32).toNatClampNeg 0)))] H := hP
  have hD : va_D A [(m0, .inr (6, [.ref ms, .ref mf, .ref mw, .ref mk, .int 0, .ref mh, .int 0, .int 0, .int 21, .int 17, .int 0, .int 1, .int 1, .int 1, .int 3, .long 1, .int 0, .ref q0, .ref q1, .ref q2, .int 0, .ref q3, .ref q4, .ref q5, .ref q6, .ref q7, .int 0, .int 0, .int 0, .int 0, .int 0, .int 0, .int 0, .int 0, .int 0, .ref k0, .ref k1, .ref k2, .ref k3])), (ms, .inl (cI, 11, .inl (fun _ => 0))), (mf, .inl (cI, 11, .inl (upd (upd (fun _ => 0) (1 : Int32).toNatClampNeg 0) (2 : Int32).toNatClampNeg 0))), (mw, .inl (cI, 11, .inl (upd (upd (fun _ => 0) (1 : Int32).toNatClampNeg 0) (2 : Int32).toNatClampNeg 0)))] := hD
  refine lv_iinc (v := 3) (lv' := [(1, .int 3), (0, .ref m0)]) hx hb dX6_fresh_27 hl (k := 0) rfl (by decide) (by decide) rfl (fun ls hl => ?_)
  refine lv_goto (tgt := 2) hx hb dX6_fresh_30 (by decide) ?_
  refine lv_iload_n hx hb dX6_fresh_2 rfl (lv_at hl 0 rfl) ?_
  refine lv_bipush (v := 11) hx hb dX6_fresh_3 (by decide) ?_
  refine lv_icmp_ge (tgt := 33) hx hb dX6_fresh_5 (by decide) (fun c5_5 => ?_) (fun c5_5 => ?_)
  · exact absurd c5_5 (by decide)
  refine lv_aload_n hx hb dX6_fresh_8 rfl (lv_at hl 1 rfl) ?_
  refine va_get (D := D) (ci := 6) (v := .ref mf) (C := RX6) (T := TX6) (N := 39) hx hb hts in_X6_fresh_X6 hown hK hP 0 rfl rfl 1 (by decide) (hts _ wd_X6_fresh_0) (fun _ h9 => h9) rfl dX6_fresh_9 ?_
  refine lv_iload_n hx hb dX6_fresh_12 rfl (lv_at hl 0 rfl) ?_
  refine lv_aload_n hx hb dX6_fresh_13 rfl (lv_at hl 1 rfl) ?_
  refine va_get (D := D) (ci := 6) (v := .ref ms) (C := RX6) (T := TX6) (N := 39) hx hb hts in_X6_fresh_X6 hown hK hP 0 rfl rfl 0 (by decide) (hts _ wd_X6_fresh_1) (fun _ h9 => h9) rfl dX6_fresh_14 ?_
  refine lv_iload_n hx hb dX6_fresh_17 rfl (lv_at hl 0 rfl) ?_
  refine va_iald hx hb hK hP 1 0 rfl rfl (show ¬ ((3 : Int32) < 0 ∨ 11 ≤ (3 : Int32).toNatClampNeg) by decide) dX6_fresh_18 ?_
  refine lv_topi (fun z_6 ez_6 => ?_)
  obtain rfl : z_6 = 0 := ez_6
  refine va_iast hx hb hK hP hD hS 2 0 rfl rfl (show ¬ ((3 : Int32) < 0 ∨ 11 ≤ (3 : Int32).toNatClampNeg) by decide) dX6_fresh_19 (fun H locs hP hD hS => ?_)
  have hP : va_P D vwCl [(m0, .inr (6, [.ref ms, .ref mf, .ref mw, .ref mk, .int 0, .ref mh, .int 0, .int 0, .int 21, .int 17, .int 0, .int 1, .int 1, .int 1, .int 3, .long 1, .int 0, .ref q0, .ref q1, .ref q2, .int 0, .ref q3, .ref q4, .ref q5, .ref q6, .ref q7, .int 0, .int 0, .int 0, .int 0, .int 0, .int 0, .int 0, .int 0, .int 0, .ref k0, .ref k1, .ref k2, .ref k3])), (ms, .inl (cI, 11, .inl (fun _ => 0))), (mf, .inl (cI, 11, .inl (upd (upd (upd (fun _ => 0) (1 : Int32).toNatClampNeg 0) (2 : Int32).toNatClampNeg 0) (3 : Int32).toNatClampNeg 0))), (mw, .inl (cI, 11, .inl (upd (upd (fun _ => 0) (1 : Int32).toNatClampNeg 0) (2 : Int32).toNatClampNeg 0)))] H := hP
  have hD : va_D A [(m0, .inr (6, [.ref ms, .ref mf, .ref mw, .ref mk, .int 0, .ref mh, .int 0, .int 0, .int 21, .int 17, .int 0, .int 1, .int 1, .int 1, .int 3, .long 1, .int 0, .ref q0, .ref q1, .ref q2, .int 0, .ref q3, .ref q4, .ref q5, .ref q6, .ref q7, .int 0, .int 0, .int 0, .int 0, .int 0, .int 0, .int 0, .int 0, .int 0, .ref k0, .ref k1, .ref k2, .ref k3])), (ms, .inl (cI, 11, .inl (fun _ => 0))), (mf, .inl (cI, 11, .inl (upd (upd (upd (fun _ => 0) (1 : Int32).toNatClampNeg 0) (2 : Int32).toNatClampNeg 0) (3 : Int32).toNatClampNeg 0))), (mw, .inl (cI, 11, .inl (upd (upd (fun _ => 0) (1 : Int32).toNatClampNeg 0) (2 : Int32).toNatClampNeg 0)))] := hD
  refine lv_aload_n hx hb dX6_fresh_20 rfl (lv_at hl 1 rfl) ?_
  refine va_get (D := D) (ci := 6) (v := .ref mw) (C := RX6) (T := TX6) (N := 39) hx hb hts in_X6_fresh_X6 hown hK hP 0 rfl rfl 2 (by decide) (hts _ wd_X6_fresh_2) (fun _ h9 => h9) rfl dX6_fresh_21 ?_
  refine lv_iload_n hx hb dX6_fresh_24 rfl (lv_at hl 0 rfl) ?_
  refine lv_iconst (v := 0) hx hb dX6_fresh_25 (by decide) ?_
  refine va_iast hx hb hK hP hD hS 3 0 rfl rfl (show ¬ ((3 : Int32) < 0 ∨ 11 ≤ (3 : Int32).toNatClampNeg) by decide) dX6_fresh_26 (fun H locs hP hD hS => ?_)
  have hP : va_P D vwCl [(m0, .inr (6, [.ref ms, .ref mf, .ref mw, .ref mk, .int 0, .ref mh, .int 0, .int 0, .int 21, .int 17, .int 0, .int 1, .int 1, .int 1, .int 3, .long 1, .int 0, .ref q0, .ref q1, .ref q2, .int 0, .ref q3, .ref q4, .ref q5, .ref q6, .ref q7, .int 0, .int 0, .int 0, .int 0, .int 0, .int 0, .int 0, .int 0, .int 0, .ref k0, .ref k1, .ref k2, .ref k3])), (ms, .inl (cI, 11, .inl (fun _ => 0))), (mf, .inl (cI, 11, .inl (upd (upd (upd (fun _ => 0) (1 : Int32).toNatClampNeg 0) (2 : Int32).toNatClampNeg 0) (3 : Int32).toNatClampNeg 0))), (mw, .inl (cI, 11, .inl (upd (upd (upd (fun _ => 0) (1 : Int32).toNatClampNeg 0) (2 : Int32).toNatClampNeg 0) (3 : Int32).toNatClampNeg 0)))] H := hP
  have hD : va_D A [(m0, .inr (6, [.ref ms, .ref mf, .ref mw, .ref mk, .int 0, .ref mh, .int 0, .int 0, .int 21, .int 17, .int 0, .int 1, .int 1, .int 1, .int 3, .long 1, .int 0, .ref q0, .ref q1, .ref q2, .int 0, .ref q3, .ref q4, .ref q5, .ref q6, .ref q7, .int 0, .int 0, .int 0, .int 0, .int 0, .int 0, .int 0, .int 0, .int 0, .ref k0, .ref k1, .ref k2, .ref k3])), (ms, .inl (cI, 11, .inl (fun _ => 0))), (mf, .inl (cI, 11, .inl (upd (upd (upd (fun _ => 0) (1 : Int32).toNatClampNeg 0) (2 : Int32).toNatClampNeg 0) (3 : Int32).toNatClampNeg 0))), (mw, .inl (cI, 11, .inl (upd (upd (upd (fun _ => 0) (1 : Int32).toNatClampNeg 0) (2 : Int32).toNatClampNeg 0) (3 : Int32).toNatClampNeg 0)))] := hD
  refine lv_iinc (v := 4) (lv' := [(1, .int 4), (0, .ref m0)]) hx hb dX6_fresh_27 hl (k := 0) rfl (by decide) (by decide) rfl (fun ls hl => ?_)
  refine lv_goto (tgt := 2) hx hb dX6_fresh_30 (by decide) ?_
  refine lv_iload_n hx hb dX6_fresh_2 rfl (lv_at hl 0 rfl) ?_
  refine lv_bipush (v := 11) hx hb dX6_fresh_3 (by decide) ?_
  refine lv_icmp_ge (tgt := 33) hx hb dX6_fresh_5 (by decide) (fun c5_7 => ?_) (fun c5_7 => ?_)
  · exact absurd c5_7 (by decide)
  refine lv_aload_n hx hb dX6_fresh_8 rfl (lv_at hl 1 rfl) ?_
  refine va_get (D := D) (ci := 6) (v := .ref mf) (C := RX6) (T := TX6) (N := 39) hx hb hts in_X6_fresh_X6 hown hK hP 0 rfl rfl 1 (by decide) (hts _ wd_X6_fresh_0) (fun _ h9 => h9) rfl dX6_fresh_9 ?_
  refine lv_iload_n hx hb dX6_fresh_12 rfl (lv_at hl 0 rfl) ?_
  refine lv_aload_n hx hb dX6_fresh_13 rfl (lv_at hl 1 rfl) ?_
  refine va_get (D := D) (ci := 6) (v := .ref ms) (C := RX6) (T := TX6) (N := 39) hx hb hts in_X6_fresh_X6 hown hK hP 0 rfl rfl 0 (by decide) (hts _ wd_X6_fresh_1) (fun _ h9 => h9) rfl dX6_fresh_14 ?_
  refine lv_iload_n hx hb dX6_fresh_17 rfl (lv_at hl 0 rfl) ?_
  refine va_iald hx hb hK hP 1 0 rfl rfl (show ¬ ((4 : Int32) < 0 ∨ 11 ≤ (4 : Int32).toNatClampNeg) by decide) dX6_fresh_18 ?_
  refine lv_topi (fun z_8 ez_8 => ?_)
  obtain rfl : z_8 = 0 := ez_8
  refine va_iast hx hb hK hP hD hS 2 0 rfl rfl (show ¬ ((4 : Int32) < 0 ∨ 11 ≤ (4 : Int32).toNatClampNeg) by decide) dX6_fresh_19 (fun H locs hP hD hS => ?_)
  have hP : va_P D vwCl [(m0, .inr (6, [.ref ms, .ref mf, .ref mw, .ref mk, .int 0, .ref mh, .int 0, .int 0, .int 21, .int 17, .int 0, .int 1, .int 1, .int 1, .int 3, .long 1, .int 0, .ref q0, .ref q1, .ref q2, .int 0, .ref q3, .ref q4, .ref q5, .ref q6, .ref q7, .int 0, .int 0, .int 0, .int 0, .int 0, .int 0, .int 0, .int 0, .int 0, .ref k0, .ref k1, .ref k2, .ref k3])), (ms, .inl (cI, 11, .inl (fun _ => 0))), (mf, .inl (cI, 11, .inl (upd (upd (upd (upd (fun _ => 0) (1 : Int32).toNatClampNeg 0) (2 : Int32).toNatClampNeg 0) (3 : Int32).toNatClampNeg 0) (4 : Int32).toNatClampNeg 0))), (mw, .inl (cI, 11, .inl (upd (upd (upd (fun _ => 0) (1 : Int32).toNatClampNeg 0) (2 : Int32).toNatClampNeg 0) (3 : Int32).toNatClampNeg 0)))] H := hP
  have hD : va_D A [(m0, .inr (6, [.ref ms, .ref mf, .ref mw, .ref mk, .int 0, .ref mh, .int 0, .int 0, .int 21, .int 17, .int 0, .int 1, .int 1, .int 1, .int 3, .long 1, .int 0, .ref q0, .ref q1, .ref q2, .int 0, .ref q3, .ref q4, .ref q5, .ref q6, .ref q7, .int 0, .int 0, .int 0, .int 0, .int 0, .int 0, .int 0, .int 0, .int 0, .ref k0, .ref k1, .ref k2, .ref k3])), (ms, .inl (cI, 11, .inl (fun _ => 0))), (mf, .inl (cI, 11, .inl (upd (upd (upd (upd (fun _ => 0) (1 : Int32).toNatClampNeg 0) (2 : Int32).toNatClampNeg 0) (3 : Int32).toNatClampNeg 0) (4 : Int32).toNatClampNeg 0))), (mw, .inl (cI, 11, .inl (upd (upd (upd (fun _ => 0) (1 : Int32).toNatClampNeg 0) (2 : Int32).toNatClampNeg 0) (3 : Int32).toNatClampNeg 0)))] := hD
  refine lv_aload_n hx hb dX6_fresh_20 rfl (lv_at hl 1 rfl) ?_
  refine va_get (D := D) (ci := 6) (v := .ref mw) (C := RX6) (T := TX6) (N := 39) hx hb hts in_X6_fresh_X6 hown hK hP 0 rfl rfl 2 (by decide) (hts _ wd_X6_fresh_2) (fun _ h9 => h9) rfl dX6_fresh_21 ?_
  refine lv_iload_n hx hb dX6_fresh_24 rfl (lv_at hl 0 rfl) ?_
  refine lv_iconst (v := 0) hx hb dX6_fresh_25 (by decide) ?_
  refine va_iast hx hb hK hP hD hS 3 0 rfl rfl (show ¬ ((4 : Int32) < 0 ∨ 11 ≤ (4 : Int32).toNatClampNeg) by decide) dX6_fresh_26 (fun H locs hP hD hS => ?_)
  have hP : va_P D vwCl [(m0, .inr (6, [.ref ms, .ref mf, .ref mw, .ref mk, .int 0, .ref mh, .int 0, .int 0, .int 21, .int 17, .int 0, .int 1, .int 1, .int 1, .int 3, .long 1, .int 0, .ref q0, .ref q1, .ref q2, .int 0, .ref q3, .ref q4, .ref q5, .ref q6, .ref q7, .int 0, .int 0, .int 0, .int 0, .int 0, .int 0, .int 0, .int 0, .int 0, .ref k0, .ref k1, .ref k2, .ref k3])), (ms, .inl (cI, 11, .inl (fun _ => 0))), (mf, .inl (cI, 11, .inl (upd (upd (upd (upd (fun _ => 0) (1 : Int32).toNatClampNeg 0) (2 : Int32).toNatClampNeg 0) (3 : Int32).toNatClampNeg 0) (4 : Int32).toNatClampNeg 0))), (mw, .inl (cI, 11, .inl (upd (upd (upd (upd (fun _ => 0) (1 : Int32).toNatClampNeg 0) (2 : Int32).toNatClampNeg 0) (3 : Int32).toNatClampNeg 0) (4 : Int32).toNatClampNeg 0)))] H := hP
  have hD : va_D A [(m0, .inr (6, [.ref ms, .ref mf, .ref mw, .ref mk, .int 0, .ref mh, .int 0, .int 0, .int 21, .int 17, .int 0, .int 1, .int 1, .int 1, .int 3, .long 1, .int 0, .ref q0, .ref q1, .ref q2, .int 0, .ref q3, .ref q4, .ref q5, .ref q6, .ref q7, .int 0, .int 0, .int 0, .int 0, .int 0, .int 0, .int 0, .int 0, .int 0, .ref k0, .ref k1, .ref k2, .ref k3])), (ms, .inl (cI, 11, .inl (fun _ => 0))), (mf, .inl (cI, 11, .inl (upd (upd (upd (upd (fun _ => 0) (1 : Int32).toNatClampNeg 0) (2 : Int32).toNatClampNeg 0) (3 : Int32).toNatClampNeg 0) (4 : Int32).toNatClampNeg 0))), (mw, .inl (cI, 11, .inl (upd (upd (upd (upd (fun _ => 0) (1 : Int32).toNatClampNeg 0) (2 : Int32).toNatClampNeg 0) (3 : Int32).toNatClampNeg 0) (4 : Int32).toNatClampNeg 0)))] := hD
  refine lv_iinc (v := 5) (lv' := [(1, .int 5), (0, .ref m0)]) hx hb dX6_fresh_27 hl (k := 0) rfl (by decide) (by decide) rfl (fun ls hl => ?_)
  refine lv_goto (tgt := 2) hx hb dX6_fresh_30 (by decide) ?_
  refine lv_iload_n hx hb dX6_fresh_2 rfl (lv_at hl 0 rfl) ?_
  refine lv_bipush (v := 11) hx hb dX6_fresh_3 (by decide) ?_
  refine lv_icmp_ge (tgt := 33) hx hb dX6_fresh_5 (by decide) (fun c5_9 => ?_) (fun c5_9 => ?_)
  · exact absurd c5_9 (by decide)
  refine lv_aload_n hx hb dX6_fresh_8 rfl (lv_at hl 1 rfl) ?_
  refine va_get (D := D) (ci := 6) (v := .ref mf) (C := RX6) (T := TX6) (N := 39) hx hb hts in_X6_fresh_X6 hown hK hP 0 rfl rfl 1 (by decide) (hts _ wd_X6_fresh_0) (fun _ h9 => h9) rfl dX6_fresh_9 ?_
  refine lv_iload_n hx hb dX6_fresh_12 rfl (lv_at hl 0 rfl) ?_
  refine lv_aload_n hx hb dX6_fresh_13 rfl (lv_at hl 1 rfl) ?_
  refine va_get (D := D) (ci := 6) (v := .ref ms) (C := RX6) (T := TX6) (N := 39) hx hb hts in_X6_fresh_X6 hown hK hP 0 rfl rfl 0 (by decide) (hts _ wd_X6_fresh_1) (fun _ h9 => h9) rfl dX6_fresh_14 ?_
  refine lv_iload_n hx hb dX6_fresh_17 rfl (lv_at hl 0 rfl) ?_
  refine va_iald hx hb hK hP 1 0 rfl rfl (show ¬ ((5 : Int32) < 0 ∨ 11 ≤ (5 : Int32).toNatClampNeg) by decide) dX6_fresh_18 ?_
  refine lv_topi (fun z_10 ez_10 => ?_)
  obtain rfl : z_10 = 0 := ez_10
  refine va_iast hx hb hK hP hD hS 2 0 rfl rfl (show ¬ ((5 : Int32) < 0 ∨ 11 ≤ (5 : Int32).toNatClampNeg) by decide) dX6_fresh_19 (fun H locs hP hD hS => ?_)
  have hP : va_P D vwCl [(m0, .inr (6, [.ref ms, .ref mf, .ref mw, .ref mk, .int 0, .ref mh, .int 0, .int 0, .int 21, .int 17, .int 0, .int 1, .int 1, .int 1, .int 3, .long 1, .int 0, .ref q0, .ref q1, .ref q2, .int 0, .ref q3, .ref q4, .ref q5, .ref q6, .ref q7, .int 0, .int 0, .int 0, .int 0, .int 0, .int 0, .int 0, .int 0, .int 0, .ref k0, .ref k1, .ref k2, .ref k3])), (ms, .inl (cI, 11, .inl (fun _ => 0))), (mf, .inl (cI, 11, .inl (upd (upd (upd (upd (upd (fun _ => 0) (1 : Int32).toNatClampNeg 0) (2 : Int32).toNatClampNeg 0) (3 : Int32).toNatClampNeg 0) (4 : Int32).toNatClampNeg 0) (5 : Int32).toNatClampNeg 0))), (mw, .inl (cI, 11, .inl (upd (upd (upd (upd (fun _ => 0) (1 : Int32).toNatClampNeg 0) (2 : Int32).toNatClampNeg 0) (3 : Int32).toNatClampNeg 0) (4 : Int32).toNatClampNeg 0)))] H := hP
  have hD : va_D A [(m0, .inr (6, [.ref ms, .ref mf, .ref mw, .ref mk, .int 0, .ref mh, .int 0, .int 0, .int 21, .int 17, .int 0, .int 1, .int 1, .int 1, .int 3, .long 1, .int 0, .ref q0, .ref q1, .ref q2, .int 0, .ref q3, .ref q4, .ref q5, .ref q6, .ref q7, .int 0, .int 0, .int 0, .int 0, .int 0, .int 0, .int 0, .int 0, .int 0, .ref k0, .ref k1, .ref k2, .ref k3])), (ms, .inl (cI, 11, .inl (fun _ => 0))), (mf, .inl (cI, 11, .inl (upd (upd (upd (upd (upd (fun _ => 0) (1 : Int32).toNatClampNeg 0) (2 : Int32).toNatClampNeg 0) (3 : Int32).toNatClampNeg 0) (4 : Int32).toNatClampNeg 0) (5 : Int32).toNatClampNeg 0))), (mw, .inl (cI, 11, .inl (upd (upd (upd (upd (fun _ => 0) (1 : Int32).toNatClampNeg 0) (2 : Int32).toNatClampNeg 0) (3 : Int32).toNatClampNeg 0) (4 : Int32).toNatClampNeg 0)))] := hD
  refine lv_aload_n hx hb dX6_fresh_20 rfl (lv_at hl 1 rfl) ?_
  refine va_get (D := D) (ci := 6) (v := .ref mw) (C := RX6) (T := TX6) (N := 39) hx hb hts in_X6_fresh_X6 hown hK hP 0 rfl rfl 2 (by decide) (hts _ wd_X6_fresh_2) (fun _ h9 => h9) rfl dX6_fresh_21 ?_
  refine lv_iload_n hx hb dX6_fresh_24 rfl (lv_at hl 0 rfl) ?_
  refine lv_iconst (v := 0) hx hb dX6_fresh_25 (by decide) ?_
  refine va_iast hx hb hK hP hD hS 3 0 rfl rfl (show ¬ ((5 : Int32) < 0 ∨ 11 ≤ (5 : Int32).toNatClampNeg) by decide) dX6_fresh_26 (fun H locs hP hD hS => ?_)
  have hP : va_P D vwCl [(m0, .inr (6, [.ref ms, .ref mf, .ref mw, .ref mk, .int 0, .ref mh, .int 0, .int 0, .int 21, .int 17, .int 0, .int 1, .int 1, .int 1, .int 3, .long 1, .int 0, .ref q0, .ref q1, .ref q2, .int 0, .ref q3, .ref q4, .ref q5, .ref q6, .ref q7, .int 0, .int 0, .int 0, .int 0, .int 0, .int 0, .int 0, .int 0, .int 0, .ref k0, .ref k1, .ref k2, .ref k3])), (ms, .inl (cI, 11, .inl (fun _ => 0))), (mf, .inl (cI, 11, .inl (upd (upd (upd (upd (upd (fun _ => 0) (1 : Int32).toNatClampNeg 0) (2 : Int32).toNatClampNeg 0) (3 : Int32).toNatClampNeg 0) (4 : Int32).toNatClampNeg 0) (5 : Int32).toNatClampNeg 0))), (mw, .inl (cI, 11, .inl (upd (upd (upd (upd (upd (fun _ => 0) (1 : Int32).toNatClampNeg 0) (2 : Int32).toNatClampNeg 0) (3 : Int32).toNatClampNeg 0) (4 : Int32).toNatClampNeg 0) (5 : Int32).toNatClampNeg 0)))] H := hP
  have hD : va_D A [(m0, .inr (6, [.ref ms, .ref mf, .ref mw, .ref mk, .int 0, .ref mh, .int 0, .int 0, .int 21, .int 17, .int 0, .int 1, .int 1, .int 1, .int 3, .long 1, .int 0, .ref q0, .ref q1, .ref q2, .int 0, .ref q3, .ref q4, .ref q5, .ref q6, .ref q7, .int 0, .int 0, .int 0, .int 0, .int 0, .int 0, .int 0, .int 0, .int 0, .ref k0, .ref k1, .ref k2, .ref k3])), (ms, .inl (cI, 11, .inl (fun _ => 0))), (mf, .inl (cI, 11, .inl (upd (upd (upd (upd (upd (fun _ => 0) (1 : Int32).toNatClampNeg 0) (2 : Int32).toNatClampNeg 0) (3 : Int32).toNatClampNeg 0) (4 : Int32).toNatClampNeg 0) (5 : Int32).toNatClampNeg 0))), (mw, .inl (cI, 11, .inl (upd (upd (upd (upd (upd (fun _ => 0) (1 : Int32).toNatClampNeg 0) (2 : Int32).toNatClampNeg 0) (3 : Int32).toNatClampNeg 0) (4 : Int32).toNatClampNeg 0) (5 : Int32).toNatClampNeg 0)))] := hD
  refine lv_iinc (v := 6) (lv' := [(1, .int 6), (0, .ref m0)]) hx hb dX6_fresh_27 hl (k := 0) rfl (by decide) (by decide) rfl (fun ls hl => ?_)
  refine lv_goto (tgt := 2) hx hb dX6_fresh_30 (by decide) ?_
  refine lv_iload_n hx hb dX6_fresh_2 rfl (lv_at hl 0 rfl) ?_
  refine lv_bipush (v := 11) hx hb dX6_fresh_3 (by decide) ?_
  refine lv_icmp_ge (tgt := 33) hx hb dX6_fresh_5 (by decide) (fun c5_11 => ?_) (fun c5_11 => ?_)
  · exact absurd c5_11 (by decide)
  refine lv_aload_n hx hb dX6_fresh_8 rfl (lv_at hl 1 rfl) ?_
  refine va_get (D := D) (ci := 6) (v := .ref mf) (C := RX6) (T := TX6) (N := 39) hx hb hts in_X6_fresh_X6 hown hK hP 0 rfl rfl 1 (by decide) (hts _ wd_X6_fresh_0) (fun _ h9 => h9) rfl dX6_fresh_9 ?_
  refine lv_iload_n hx hb dX6_fresh_12 rfl (lv_at hl 0 rfl) ?_
  refine lv_aload_n hx hb dX6_fresh_13 rfl (lv_at hl 1 rfl) ?_
  refine va_get (D := D) (ci := 6) (v := .ref ms) (C := RX6) (T := TX6) (N := 39) hx hb hts in_X6_fresh_X6 hown hK hP 0 rfl rfl 0 (by decide) (hts _ wd_X6_fresh_1) (fun _ h9 => h9) rfl dX6_fresh_14 ?_
  refine lv_iload_n hx hb dX6_fresh_17 rfl (lv_at hl 0 rfl) ?_
  refine va_iald hx hb hK hP 1 0 rfl rfl (show ¬ ((6 : Int32) < 0 ∨ 11 ≤ (6 : Int32).toNatClampNeg) by decide) dX6_fresh_18 ?_
  refine lv_topi (fun z_12 ez_12 => ?_)
  obtain rfl : z_12 = 0 := ez_12
  refine va_iast hx hb hK hP hD hS 2 0 rfl rfl (show ¬ ((6 : Int32) < 0 ∨ 11 ≤ (6 : Int32).toNatClampNeg) by decide) dX6_fresh_19 (fun H locs hP hD hS => ?_)
  have hP : va_P D vwCl [(m0, .inr (6, [.ref ms, .ref mf, .ref mw, .ref mk, .int 0, .ref mh, .int 0, .int 0, .int 21, .int 17, .int 0, .int 1, .int 1, .int 1, .int 3, .long 1, .int 0, .ref q0, .ref q1, .ref q2, .int 0, .ref q3, .ref q4, .ref q5, .ref q6, .ref q7, .int 0, .int 0, .int 0, .int 0, .int 0, .int 0, .int 0, .int 0, .int 0, .ref k0, .ref k1, .ref k2, .ref k3])), (ms, .inl (cI, 11, .inl (fun _ => 0))), (mf, .inl (cI, 11, .inl (upd (upd (upd (upd (upd (upd (fun _ => 0) (1 : Int32).toNatClampNeg 0) (2 : Int32).toNatClampNeg 0) (3 : Int32).toNatClampNeg 0) (4 : Int32).toNatClampNeg 0) (5 : Int32).toNatClampNeg 0) (6 : Int32).toNatClampNeg 0))), (mw, .inl (cI, 11, .inl (upd (upd (upd (upd (upd (fun _ => 0) (1 : Int32).toNatClampNeg 0) (2 : Int32).toNatClampNeg 0) (3 : Int32).toNatClampNeg 0) (4 : Int32).toNatClampNeg 0) (5 : Int32).toNatClampNeg 0)))] H := hP
  have hD : va_D A [(m0, .inr (6, [.ref ms, .ref mf, .ref mw, .ref mk, .int 0, .ref mh, .int 0, .int 0, .int 21, .int 17, .int 0, .int 1, .int 1, .int 1, .int 3, .long 1, .int 0, .ref q0, .ref q1, .ref q2, .int 0, .ref q3, .ref q4, .ref q5, .ref q6, .ref q7, .int 0, .int 0, .int 0, .int 0, .int 0, .int 0, .int 0, .int 0, .int 0, .ref k0, .ref k1, .ref k2, .ref k3])), (ms, .inl (cI, 11, .inl (fun _ => 0))), (mf, .inl (cI, 11, .inl (upd (upd (upd (upd (upd (upd (fun _ => 0) (1 : Int32).toNatClampNeg 0) (2 : Int32).toNatClampNeg 0) (3 : Int32).toNatClampNeg 0) (4 : Int32).toNatClampNeg 0) (5 : Int32).toNatClampNeg 0) (6 : Int32).toNatClampNeg 0))), (mw, .inl (cI, 11, .inl (upd (upd (upd (upd (upd (fun _ => 0) (1 : Int32).toNatClampNeg 0) (2 : Int32).toNatClampNeg 0) (3 : Int32).toNatClampNeg 0) (4 : Int32).toNatClampNeg 0) (5 : Int32).toNatClampNeg 0)))] := hD
  refine lv_aload_n hx hb dX6_fresh_20 rfl (lv_at hl 1 rfl) ?_
  refine va_get (D := D) (ci := 6) (v := .ref mw) (C := RX6) (T := TX6) (N := 39) hx hb hts in_X6_fresh_X6 hown hK hP 0 rfl rfl 2 (by decide) (hts _ wd_X6_fresh_2) (fun _ h9 => h9) rfl dX6_fresh_21 ?_
  refine lv_iload_n hx hb dX6_fresh_24 rfl (lv_at hl 0 rfl) ?_
  refine lv_iconst (v := 0) hx hb dX6_fresh_25 (by decide) ?_
  refine va_iast hx hb hK hP hD hS 3 0 rfl rfl (show ¬ ((6 : Int32) < 0 ∨ 11 ≤ (6 : Int32).toNatClampNeg) by decide) dX6_fresh_26 (fun H locs hP hD hS => ?_)
  have hP : va_P D vwCl [(m0, .inr (6, [.ref ms, .ref mf, .ref mw, .ref mk, .int 0, .ref mh, .int 0, .int 0, .int 21, .int 17, .int 0, .int 1, .int 1, .int 1, .int 3, .long 1, .int 0, .ref q0, .ref q1, .ref q2, .int 0, .ref q3, .ref q4, .ref q5, .ref q6, .ref q7, .int 0, .int 0, .int 0, .int 0, .int 0, .int 0, .int 0, .int 0, .int 0, .ref k0, .ref k1, .ref k2, .ref k3])), (ms, .inl (cI, 11, .inl (fun _ => 0))), (mf, .inl (cI, 11, .inl (upd (upd (upd (upd (upd (upd (fun _ => 0) (1 : Int32).toNatClampNeg 0) (2 : Int32).toNatClampNeg 0) (3 : Int32).toNatClampNeg 0) (4 : Int32).toNatClampNeg 0) (5 : Int32).toNatClampNeg 0) (6 : Int32).toNatClampNeg 0))), (mw, .inl (cI, 11, .inl (upd (upd (upd (upd (upd (upd (fun _ => 0) (1 : Int32).toNatClampNeg 0) (2 : Int32).toNatClampNeg 0) (3 : Int32).toNatClampNeg 0) (4 : Int32).toNatClampNeg 0) (5 : Int32).toNatClampNeg 0) (6 : Int32).toNatClampNeg 0)))] H := hP
  have hD : va_D A [(m0, .inr (6, [.ref ms, .ref mf, .ref mw, .ref mk, .int 0, .ref mh, .int 0, .int 0, .int 21, .int 17, .int 0, .int 1, .int 1, .int 1, .int 3, .long 1, .int 0, .ref q0, .ref q1, .ref q2, .int 0, .ref q3, .ref q4, .ref q5, .ref q6, .ref q7, .int 0, .int 0, .int 0, .int 0, .int 0, .int 0, .int 0, .int 0, .int 0, .ref k0, .ref k1, .ref k2, .ref k3])), (ms, .inl (cI, 11, .inl (fun _ => 0))), (mf, .inl (cI, 11, .inl (upd (upd (upd (upd (upd (upd (fun _ => 0) (1 : Int32).toNatClampNeg 0) (2 : Int32).toNatClampNeg 0) (3 : Int32).toNatClampNeg 0) (4 : Int32).toNatClampNeg 0) (5 : Int32).toNatClampNeg 0) (6 : Int32).toNatClampNeg 0))), (mw, .inl (cI, 11, .inl (upd (upd (upd (upd (upd (upd (fun _ => 0) (1 : Int32).toNatClampNeg 0) (2 : Int32).toNatClampNeg 0) (3 : Int32).toNatClampNeg 0) (4 : Int32).toNatClampNeg 0) (5 : Int32).toNatClampNeg 0) (6 : Int32).toNatClampNeg 0)))] := hD
  refine lv_iinc (v := 7) (lv' := [(1, .int 7), (0, .ref m0)]) hx hb dX6_fresh_27 hl (k := 0) rfl (by decide) (by decide) rfl (fun ls hl => ?_)
  refine lv_goto (tgt := 2) hx hb dX6_fresh_30 (by decide) ?_
  refine lv_iload_n hx hb dX6_fresh_2 rfl (lv_at hl 0 rfl) ?_
  refine lv_bipush (v := 11) hx hb dX6_fresh_3 (by decide) ?_
  refine lv_icmp_ge (tgt := 33) hx hb dX6_fresh_5 (by decide) (fun c5_13 => ?_) (fun c5_13 => ?_)
  · exact absurd c5_13 (by decide)
  refine lv_aload_n hx hb dX6_fresh_8 rfl (lv_at hl 1 rfl) ?_
  refine va_get (D := D) (ci := 6) (v := .ref mf) (C := RX6) (T := TX6) (N := 39) hx hb hts in_X6_fresh_X6 hown hK hP 0 rfl rfl 1 (by decide) (hts _ wd_X6_fresh_0) (fun _ h9 => h9) rfl dX6_fresh_9 ?_
  refine lv_iload_n hx hb dX6_fresh_12 rfl (lv_at hl 0 rfl) ?_
  refine lv_aload_n hx hb dX6_fresh_13 rfl (lv_at hl 1 rfl) ?_
  refine va_get (D := D) (ci := 6) (v := .ref ms) (C := RX6) (T := TX6) (N := 39) hx hb hts in_X6_fresh_X6 hown hK hP 0 rfl rfl 0 (by decide) (hts _ wd_X6_fresh_1) (fun _ h9 => h9) rfl dX6_fresh_14 ?_
  refine lv_iload_n hx hb dX6_fresh_17 rfl (lv_at hl 0 rfl) ?_
  refine va_iald hx hb hK hP 1 0 rfl rfl (show ¬ ((7 : Int32) < 0 ∨ 11 ≤ (7 : Int32).toNatClampNeg) by decide) dX6_fresh_18 ?_
  refine lv_topi (fun z_14 ez_14 => ?_)
  obtain rfl : z_14 = 0 := ez_14
  refine va_iast hx hb hK hP hD hS 2 0 rfl rfl (show ¬ ((7 : Int32) < 0 ∨ 11 ≤ (7 : Int32).toNatClampNeg) by decide) dX6_fresh_19 (fun H locs hP hD hS => ?_)
  have hP : va_P D vwCl [(m0, .inr (6, [.ref ms, .ref mf, .ref mw, .ref mk, .int 0, .ref mh, .int 0, .int 0, .int 21, .int 17, .int 0, .int 1, .int 1, .int 1, .int 3, .long 1, .int 0, .ref q0, .ref q1, .ref q2, .int 0, .ref q3, .ref q4, .ref q5, .ref q6, .ref q7, .int 0, .int 0, .int 0, .int 0, .int 0, .int 0, .int 0, .int 0, .int 0, .ref k0, .ref k1, .ref k2, .ref k3])), (ms, .inl (cI, 11, .inl (fun _ => 0))), (mf, .inl (cI, 11, .inl (upd (upd (upd (upd (upd (upd (upd (fun _ => 0) (1 : Int32).toNatClampNeg 0) (2 : Int32).toNatClampNeg 0) (3 : Int32).toNatClampNeg 0) (4 : Int32).toNatClampNeg 0) (5 : Int32).toNatClampNeg 0) (6 : Int32).toNatClampNeg 0) (7 : Int32).toNatClampNeg 0))), (mw, .inl (cI, 11, .inl (upd (upd (upd (upd (upd (upd (fun _ => 0) (1 : Int32).toNatClampNeg 0) (2 : Int32).toNatClampNeg 0) (3 : Int32).toNatClampNeg 0) (4 : Int32).toNatClampNeg 0) (5 : Int32).toNatClampNeg 0) (6 : Int32).toNatClampNeg 0)))] H := hP
  have hD : va_D A [(m0, .inr (6, [.ref ms, .ref mf, .ref mw, .ref mk, .int 0, .ref mh, .int 0, .int 0, .int 21, .int 17, .int 0, .int 1, .int 1, .int 1, .int 3, .long 1, .int 0, .ref q0, .ref q1, .ref q2, .int 0, .ref q3, .ref q4, .ref q5, .ref q6, .ref q7, .int 0, .int 0, .int 0, .int 0, .int 0, .int 0, .int 0, .int 0, .int 0, .ref k0, .ref k1, .ref k2, .ref k3])), (ms, .inl (cI, 11, .inl (fun _ => 0))), (mf, .inl (cI, 11, .inl (upd (upd (upd (upd (upd (upd (upd (fun _ => 0) (1 : Int32).toNatClampNeg 0) (2 : Int32).toNatClampNeg 0) (3 : Int32).toNatClampNeg 0) (4 : Int32).toNatClampNeg 0) (5 : Int32).toNatClampNeg 0) (6 : Int32).toNatClampNeg 0) (7 : Int32).toNatClampNeg 0))), (mw, .inl (cI, 11, .inl (upd (upd (upd (upd (upd (upd (fun _ => 0) (1 : Int32).toNatClampNeg 0) (2 : Int32).toNatClampNeg 0) (3 : Int32).toNatClampNeg 0) (4 : Int32).toNatClampNeg 0) (5 : Int32).toNatClampNeg 0) (6 : Int32).toNatClampNeg 0)))] := hD
  refine lv_aload_n hx hb dX6_fresh_20 rfl (lv_at hl 1 rfl) ?_
  refine va_get (D := D) (ci := 6) (v := .ref mw) (C := RX6) (T := TX6) (N := 39) hx hb hts in_X6_fresh_X6 hown hK hP 0 rfl rfl 2 (by decide) (hts _ wd_X6_fresh_2) (fun _ h9 => h9) rfl dX6_fresh_21 ?_
  refine lv_iload_n hx hb dX6_fresh_24 rfl (lv_at hl 0 rfl) ?_
  refine lv_iconst (v := 0) hx hb dX6_fresh_25 (by decide) ?_
  refine va_iast hx hb hK hP hD hS 3 0 rfl rfl (show ¬ ((7 : Int32) < 0 ∨ 11 ≤ (7 : Int32).toNatClampNeg) by decide) dX6_fresh_26 (fun H locs hP hD hS => ?_)
  have hP : va_P D vwCl [(m0, .inr (6, [.ref ms, .ref mf, .ref mw, .ref mk, .int 0, .ref mh, .int 0, .int 0, .int 21, .int 17, .int 0, .int 1, .int 1, .int 1, .int 3, .long 1, .int 0, .ref q0, .ref q1, .ref q2, .int 0, .ref q3, .ref q4, .ref q5, .ref q6, .ref q7, .int 0, .int 0, .int 0, .int 0, .int 0, .int 0, .int 0, .int 0, .int 0, .ref k0, .ref k1, .ref k2, .ref k3])), (ms, .inl (cI, 11, .inl (fun _ => 0))), (mf, .inl (cI, 11, .inl (upd (upd (upd (upd (upd (upd (upd (fun _ => 0) (1 : Int32).toNatClampNeg 0) (2 : Int32).toNatClampNeg 0) (3 : Int32).toNatClampNeg 0) (4 : Int32).toNatClampNeg 0) (5 : Int32).toNatClampNeg 0) (6 : Int32).toNatClampNeg 0) (7 : Int32).toNatClampNeg 0))), (mw, .inl (cI, 11, .inl (upd (upd (upd (upd (upd (upd (upd (fun _ => 0) (1 : Int32).toNatClampNeg 0) (2 : Int32).toNatClampNeg 0) (3 : Int32).toNatClampNeg 0) (4 : Int32).toNatClampNeg 0) (5 : Int32).toNatClampNeg 0) (6 : Int32).toNatClampNeg 0) (7 : Int32).toNatClampNeg 0)))] H := hP
  have hD : va_D A [(m0, .inr (6, [.ref ms, .ref mf, .ref mw, .ref mk, .int 0, .ref mh, .int 0, .int 0, .int 21, .int 17, .int 0, .int 1, .int 1, .int 1, .int 3, .long 1, .int 0, .ref q0, .ref q1, .ref q2, .int 0, .ref q3, .ref q4, .ref q5, .ref q6, .ref q7, .int 0, .int 0, .int 0, .int 0, .int 0, .int 0, .int 0, .int 0, .int 0, .ref k0, .ref k1, .ref k2, .ref k3])), (ms, .inl (cI, 11, .inl (fun _ => 0))), (mf, .inl (cI, 11, .inl (upd (upd (upd (upd (upd (upd (upd (fun _ => 0) (1 : Int32).toNatClampNeg 0) (2 : Int32).toNatClampNeg 0) (3 : Int32).toNatClampNeg 0) (4 : Int32).toNatClampNeg 0) (5 : Int32).toNatClampNeg 0) (6 : Int32).toNatClampNeg 0) (7 : Int32).toNatClampNeg 0))), (mw, .inl (cI, 11, .inl (upd (upd (upd (upd (upd (upd (upd (fun _ => 0) (1 : Int32).toNatClampNeg 0) (2 : Int32).toNatClampNeg 0) (3 : Int32).toNatClampNeg 0) (4 : Int32).toNatClampNeg 0) (5 : Int32).toNatClampNeg 0) (6 : Int32).toNatClampNeg 0) (7 : Int32).toNatClampNeg 0)))] := hD
  refine lv_iinc (v := 8) (lv' := [(1, .int 8), (0, .ref m0)]) hx hb dX6_fresh_27 hl (k := 0) rfl (by decide) (by decide) rfl (fun ls hl => ?_)
  refine lv_goto (tgt := 2) hx hb dX6_fresh_30 (by decide) ?_
  refine lv_iload_n hx hb dX6_fresh_2 rfl (lv_at hl 0 rfl) ?_
  refine lv_bipush (v := 11) hx hb dX6_fresh_3 (by decide) ?_
  refine lv_icmp_ge (tgt := 33) hx hb dX6_fresh_5 (by decide) (fun c5_15 => ?_) (fun c5_15 => ?_)
  · exact absurd c5_15 (by decide)
  refine lv_aload_n hx hb dX6_fresh_8 rfl (lv_at hl 1 rfl) ?_
  refine va_get (D := D) (ci := 6) (v := .ref mf) (C := RX6) (T := TX6) (N := 39) hx hb hts in_X6_fresh_X6 hown hK hP 0 rfl rfl 1 (by decide) (hts _ wd_X6_fresh_0) (fun _ h9 => h9) rfl dX6_fresh_9 ?_
  refine lv_iload_n hx hb dX6_fresh_12 rfl (lv_at hl 0 rfl) ?_
  refine lv_aload_n hx hb dX6_fresh_13 rfl (lv_at hl 1 rfl) ?_
  refine va_get (D := D) (ci := 6) (v := .ref ms) (C := RX6) (T := TX6) (N := 39) hx hb hts in_X6_fresh_X6 hown hK hP 0 rfl rfl 0 (by decide) (hts _ wd_X6_fresh_1) (fun _ h9 => h9) rfl dX6_fresh_14 ?_
  refine lv_iload_n hx hb dX6_fresh_17 rfl (lv_at hl 0 rfl) ?_
  refine va_iald hx hb hK hP 1 0 rfl rfl (show ¬ ((8 : Int32) < 0 ∨ 11 ≤ (8 : Int32).toNatClampNeg) by decide) dX6_fresh_18 ?_
  refine lv_topi (fun z_16 ez_16 => ?_)
  obtain rfl : z_16 = 0 := ez_16
  refine va_iast hx hb hK hP hD hS 2 0 rfl rfl (show ¬ ((8 : Int32) < 0 ∨ 11 ≤ (8 : Int32).toNatClampNeg) by decide) dX6_fresh_19 (fun H locs hP hD hS => ?_)
  have hP : va_P D vwCl [(m0, .inr (6, [.ref ms, .ref mf, .ref mw, .ref mk, .int 0, .ref mh, .int 0, .int 0, .int 21, .int 17, .int 0, .int 1, .int 1, .int 1, .int 3, .long 1, .int 0, .ref q0, .ref q1, .ref q2, .int 0, .ref q3, .ref q4, .ref q5, .ref q6, .ref q7, .int 0, .int 0, .int 0, .int 0, .int 0, .int 0, .int 0, .int 0, .int 0, .ref k0, .ref k1, .ref k2, .ref k3])), (ms, .inl (cI, 11, .inl (fun _ => 0))), (mf, .inl (cI, 11, .inl (upd (upd (upd (upd (upd (upd (upd (upd (fun _ => 0) (1 : Int32).toNatClampNeg 0) (2 : Int32).toNatClampNeg 0) (3 : Int32).toNatClampNeg 0) (4 : Int32).toNatClampNeg 0) (5 : Int32).toNatClampNeg 0) (6 : Int32).toNatClampNeg 0) (7 : Int32).toNatClampNeg 0) (8 : Int32).toNatClampNeg 0))), (mw, .inl (cI, 11, .inl (upd (upd (upd (upd (upd (upd (upd (fun _ => 0) (1 : Int32).toNatClampNeg 0) (2 : Int32).toNatClampNeg 0) (3 : Int32).toNatClampNeg 0) (4 : Int32).toNatClampNeg 0) (5 : Int32).toNatClampNeg 0) (6 : Int32).toNatClampNeg 0) (7 : Int32).toNatClampNeg 0)))] H := hP
  have hD : va_D A [(m0, .inr (6, [.ref ms, .ref mf, .ref mw, .ref mk, .int 0, .ref mh, .int 0, .int 0, .int 21, .int 17, .int 0, .int 1, .int 1, .int 1, .int 3, .long 1, .int 0, .ref q0, .ref q1, .ref q2, .int 0, .ref q3, .ref q4, .ref q5, .ref q6, .ref q7, .int 0, .int 0, .int 0, .int 0, .int 0, .int 0, .int 0, .int 0, .int 0, .ref k0, .ref k1, .ref k2, .ref k3])), (ms, .inl (cI, 11, .inl (fun _ => 0))), (mf, .inl (cI, 11, .inl (upd (upd (upd (upd (upd (upd (upd (upd (fun _ => 0) (1 : Int32).toNatClampNeg 0) (2 : Int32).toNatClampNeg 0) (3 : Int32).toNatClampNeg 0) (4 : Int32).toNatClampNeg 0) (5 : Int32).toNatClampNeg 0) (6 : Int32).toNatClampNeg 0) (7 : Int32).toNatClampNeg 0) (8 : Int32).toNatClampNeg 0))), (mw, .inl (cI, 11, .inl (upd (upd (upd (upd (upd (upd (upd (fun _ => 0) (1 : Int32).toNatClampNeg 0) (2 : Int32).toNatClampNeg 0) (3 : Int32).toNatClampNeg 0) (4 : Int32).toNatClampNeg 0) (5 : Int32).toNatClampNeg 0) (6 : Int32).toNatClampNeg 0) (7 : Int32).toNatClampNeg 0)))] := hD
  refine lv_aload_n hx hb dX6_fresh_20 rfl (lv_at hl 1 rfl) ?_
  refine va_get (D := D) (ci := 6) (v := .ref mw) (C := RX6) (T := TX6) (N := 39) hx hb hts in_X6_fresh_X6 hown hK hP 0 rfl rfl 2 (by decide) (hts _ wd_X6_fresh_2) (fun _ h9 => h9) rfl dX6_fresh_21 ?_
  refine lv_iload_n hx hb dX6_fresh_24 rfl (lv_at hl 0 rfl) ?_
  refine lv_iconst (v := 0) hx hb dX6_fresh_25 (by decide) ?_
  refine va_iast hx hb hK hP hD hS 3 0 rfl rfl (show ¬ ((8 : Int32) < 0 ∨ 11 ≤ (8 : Int32).toNatClampNeg) by decide) dX6_fresh_26 (fun H locs hP hD hS => ?_)
  have hP : va_P D vwCl [(m0, .inr (6, [.ref ms, .ref mf, .ref mw, .ref mk, .int 0, .ref mh, .int 0, .int 0, .int 21, .int 17, .int 0, .int 1, .int 1, .int 1, .int 3, .long 1, .int 0, .ref q0, .ref q1, .ref q2, .int 0, .ref q3, .ref q4, .ref q5, .ref q6, .ref q7, .int 0, .int 0, .int 0, .int 0, .int 0, .int 0, .int 0, .int 0, .int 0, .ref k0, .ref k1, .ref k2, .ref k3])), (ms, .inl (cI, 11, .inl (fun _ => 0))), (mf, .inl (cI, 11, .inl (upd (upd (upd (upd (upd (upd (upd (upd (fun _ => 0) (1 : Int32).toNatClampNeg 0) (2 : Int32).toNatClampNeg 0) (3 : Int32).toNatClampNeg 0) (4 : Int32).toNatClampNeg 0) (5 : Int32).toNatClampNeg 0) (6 : Int32).toNatClampNeg 0) (7 : Int32).toNatClampNeg 0) (8 : Int32).toNatClampNeg 0))), (mw, .inl (cI, 11, .inl (upd (upd (upd (upd (upd (upd (upd (upd (fun _ => 0) (1 : Int32).toNatClampNeg 0) (2 : Int32).toNatClampNeg 0) (3 : Int32).toNatClampNeg 0) (4 : Int32).toNatClampNeg 0) (5 : Int32).toNatClampNeg 0) (6 : Int32).toNatClampNeg 0) (7 : Int32).toNatClampNeg 0) (8 : Int32).toNatClampNeg 0)))] H := hP
  have hD : va_D A [(m0, .inr (6, [.ref ms, .ref mf, .ref mw, .ref mk, .int 0, .ref mh, .int 0, .int 0, .int 21, .int 17, .int 0, .int 1, .int 1, .int 1, .int 3, .long 1, .int 0, .ref q0, .ref q1, .ref q2, .int 0, .ref q3, .ref q4, .ref q5, .ref q6, .ref q7, .int 0, .int 0, .int 0, .int 0, .int 0, .int 0, .int 0, .int 0, .int 0, .ref k0, .ref k1, .ref k2, .ref k3])), (ms, .inl (cI, 11, .inl (fun _ => 0))), (mf, .inl (cI, 11, .inl (upd (upd (upd (upd (upd (upd (upd (upd (fun _ => 0) (1 : Int32).toNatClampNeg 0) (2 : Int32).toNatClampNeg 0) (3 : Int32).toNatClampNeg 0) (4 : Int32).toNatClampNeg 0) (5 : Int32).toNatClampNeg 0) (6 : Int32).toNatClampNeg 0) (7 : Int32).toNatClampNeg 0) (8 : Int32).toNatClampNeg 0))), (mw, .inl (cI, 11, .inl (upd (upd (upd (upd (upd (upd (upd (upd (fun _ => 0) (1 : Int32).toNatClampNeg 0) (2 : Int32).toNatClampNeg 0) (3 : Int32).toNatClampNeg 0) (4 : Int32).toNatClampNeg 0) (5 : Int32).toNatClampNeg 0) (6 : Int32).toNatClampNeg 0) (7 : Int32).toNatClampNeg 0) (8 : Int32).toNatClampNeg 0)))] := hD
  refine lv_iinc (v := 9) (lv' := [(1, .int 9), (0, .ref m0)]) hx hb dX6_fresh_27 hl (k := 0) rfl (by decide) (by decide) rfl (fun ls hl => ?_)
  refine lv_goto (tgt := 2) hx hb dX6_fresh_30 (by decide) ?_
  refine lv_iload_n hx hb dX6_fresh_2 rfl (lv_at hl 0 rfl) ?_
  refine lv_bipush (v := 11) hx hb dX6_fresh_3 (by decide) ?_
  refine lv_icmp_ge (tgt := 33) hx hb dX6_fresh_5 (by decide) (fun c5_17 => ?_) (fun c5_17 => ?_)
  · exact absurd c5_17 (by decide)
  refine lv_aload_n hx hb dX6_fresh_8 rfl (lv_at hl 1 rfl) ?_
  refine va_get (D := D) (ci := 6) (v := .ref mf) (C := RX6) (T := TX6) (N := 39) hx hb hts in_X6_fresh_X6 hown hK hP 0 rfl rfl 1 (by decide) (hts _ wd_X6_fresh_0) (fun _ h9 => h9) rfl dX6_fresh_9 ?_
  refine lv_iload_n hx hb dX6_fresh_12 rfl (lv_at hl 0 rfl) ?_
  refine lv_aload_n hx hb dX6_fresh_13 rfl (lv_at hl 1 rfl) ?_
  refine va_get (D := D) (ci := 6) (v := .ref ms) (C := RX6) (T := TX6) (N := 39) hx hb hts in_X6_fresh_X6 hown hK hP 0 rfl rfl 0 (by decide) (hts _ wd_X6_fresh_1) (fun _ h9 => h9) rfl dX6_fresh_14 ?_
  refine lv_iload_n hx hb dX6_fresh_17 rfl (lv_at hl 0 rfl) ?_
  refine va_iald hx hb hK hP 1 0 rfl rfl (show ¬ ((9 : Int32) < 0 ∨ 11 ≤ (9 : Int32).toNatClampNeg) by decide) dX6_fresh_18 ?_
  refine lv_topi (fun z_18 ez_18 => ?_)
  obtain rfl : z_18 = 0 := ez_18
  refine va_iast hx hb hK hP hD hS 2 0 rfl rfl (show ¬ ((9 : Int32) < 0 ∨ 11 ≤ (9 : Int32).toNatClampNeg) by decide) dX6_fresh_19 (fun H locs hP hD hS => ?_)
  have hP : va_P D vwCl [(m0, .inr (6, [.ref ms, .ref mf, .ref mw, .ref mk, .int 0, .ref mh, .int 0, .int 0, .int 21, .int 17, .int 0, .int 1, .int 1, .int 1, .int 3, .long 1, .int 0, .ref q0, .ref q1, .ref q2, .int 0, .ref q3, .ref q4, .ref q5, .ref q6, .ref q7, .int 0, .int 0, .int 0, .int 0, .int 0, .int 0, .int 0, .int 0, .int 0, .ref k0, .ref k1, .ref k2, .ref k3])), (ms, .inl (cI, 11, .inl (fun _ => 0))), (mf, .inl (cI, 11, .inl (upd (upd (upd (upd (upd (upd (upd (upd (upd (fun _ => 0) (1 : Int32).toNatClampNeg 0) (2 : Int32).toNatClampNeg 0) (3 : Int32).toNatClampNeg 0) (4 : Int32).toNatClampNeg 0) (5 : Int32).toNatClampNeg 0) (6 : Int32).toNatClampNeg 0) (7 : Int32).toNatClampNeg 0) (8 : Int32).toNatClampNeg 0) (9 : Int32).toNatClampNeg 0))), (mw, .inl (cI, 11, .inl (upd (upd (upd (upd (upd (upd (upd (upd (fun _ => 0) (1 : Int32).toNatClampNeg 0) (2 : Int32).toNatClampNeg 0) (3 : Int32).toNatClampNeg 0) (4 : Int32).toNatClampNeg 0) (5 : Int32).toNatClampNeg 0) (6 : Int32).toNatClampNeg 0) (7 : Int32).toNatClampNeg 0) (8 : Int32).toNatClampNeg 0)))] H := hP
  have hD : va_D A [(m0, .inr (6, [.ref ms, .ref mf, .ref mw, .ref mk, .int 0, .ref mh, .int 0, .int 0, .int 21, .int 17, .int 0, .int 1, .int 1, .int 1, .int 3, .long 1, .int 0, .ref q0, .ref q1, .ref q2, .int 0, .ref q3, .ref q4, .ref q5, .ref q6, .ref q7, .int 0, .int 0, .int 0, .int 0, .int 0, .int 0, .int 0, .int 0, .int 0, .ref k0, .ref k1, .ref k2, .ref k3])), (ms, .inl (cI, 11, .inl (fun _ => 0))), (mf, .inl (cI, 11, .inl (upd (upd (upd (upd (upd (upd (upd (upd (upd (fun _ => 0) (1 : Int32).toNatClampNeg 0) (2 : Int32).toNatClampNeg 0) (3 : Int32).toNatClampNeg 0) (4 : Int32).toNatClampNeg 0) (5 : Int32).toNatClampNeg 0) (6 : Int32).toNatClampNeg 0) (7 : Int32).toNatClampNeg 0) (8 : Int32).toNatClampNeg 0) (9 : Int32).toNatClampNeg 0))), (mw, .inl (cI, 11, .inl (upd (upd (upd (upd (upd (upd (upd (upd (fun _ => 0) (1 : Int32).toNatClampNeg 0) (2 : Int32).toNatClampNeg 0) (3 : Int32).toNatClampNeg 0) (4 : Int32).toNatClampNeg 0) (5 : Int32).toNatClampNeg 0) (6 : Int32).toNatClampNeg 0) (7 : Int32).toNatClampNeg 0) (8 : Int32).toNatClampNeg 0)))] := hD
  refine lv_aload_n hx hb dX6_fresh_20 rfl (lv_at hl 1 rfl) ?_
  refine va_get (D := D) (ci := 6) (v := .ref mw) (C := RX6) (T := TX6) (N := 39) hx hb hts in_X6_fresh_X6 hown hK hP 0 rfl rfl 2 (by decide) (hts _ wd_X6_fresh_2) (fun _ h9 => h9) rfl dX6_fresh_21 ?_
  refine lv_iload_n hx hb dX6_fresh_24 rfl (lv_at hl 0 rfl) ?_
  refine lv_iconst (v := 0) hx hb dX6_fresh_25 (by decide) ?_
  refine va_iast hx hb hK hP hD hS 3 0 rfl rfl (show ¬ ((9 : Int32) < 0 ∨ 11 ≤ (9 : Int32).toNatClampNeg) by decide) dX6_fresh_26 (fun H locs hP hD hS => ?_)
  have hP : va_P D vwCl [(m0, .inr (6, [.ref ms, .ref mf, .ref mw, .ref mk, .int 0, .ref mh, .int 0, .int 0, .int 21, .int 17, .int 0, .int 1, .int 1, .int 1, .int 3, .long 1, .int 0, .ref q0, .ref q1, .ref q2, .int 0, .ref q3, .ref q4, .ref q5, .ref q6, .ref q7, .int 0, .int 0, .int 0, .int 0, .int 0, .int 0, .int 0, .int 0, .int 0, .ref k0, .ref k1, .ref k2, .ref k3])), (ms, .inl (cI, 11, .inl (fun _ => 0))), (mf, .inl (cI, 11, .inl (upd (upd (upd (upd (upd (upd (upd (upd (upd (fun _ => 0) (1 : Int32).toNatClampNeg 0) (2 : Int32).toNatClampNeg 0) (3 : Int32).toNatClampNeg 0) (4 : Int32).toNatClampNeg 0) (5 : Int32).toNatClampNeg 0) (6 : Int32).toNatClampNeg 0) (7 : Int32).toNatClampNeg 0) (8 : Int32).toNatClampNeg 0) (9 : Int32).toNatClampNeg 0))), (mw, .inl (cI, 11, .inl (upd (upd (upd (upd (upd (upd (upd (upd (upd (fun _ => 0) (1 : Int32).toNatClampNeg 0) (2 : Int32).toNatClampNeg 0) (3 : Int32).toNatClampNeg 0) (4 : Int32).toNatClampNeg 0) (5 : Int32).toNatClampNeg 0) (6 : Int32).toNatClampNeg 0) (7 : Int32).toNatClampNeg 0) (8 : Int32).toNatClampNeg 0) (9 : Int32).toNatClampNeg 0)))] H := hP
  have hD : va_D A [(m0, .inr (6, [.ref ms, .ref mf, .ref mw, .ref mk, .int 0, .ref mh, .int 0, .int 0, .int 21, .int 17, .int 0, .int 1, .int 1, .int 1, .int 3, .long 1, .int 0, .ref q0, .ref q1, .ref q2, .int 0, .ref q3, .ref q4, .ref q5, .ref q6, .ref q7, .int 0, .int 0, .int 0, .int 0, .int 0, .int 0, .int 0, .int 0, .int 0, .ref k0, .ref k1, .ref k2, .ref k3])), (ms, .inl (cI, 11, .inl (fun _ => 0))), (mf, .inl (cI, 11, .inl (upd (upd (upd (upd (upd (upd (upd (upd (upd (fun _ => 0) (1 : Int32).toNatClampNeg 0) (2 : Int32).toNatClampNeg 0) (3 : Int32).toNatClampNeg 0) (4 : Int32).toNatClampNeg 0) (5 : Int32).toNatClampNeg 0) (6 : Int32).toNatClampNeg 0) (7 : Int32).toNatClampNeg 0) (8 : Int32).toNatClampNeg 0) (9 : Int32).toNatClampNeg 0))), (mw, .inl (cI, 11, .inl (upd (upd (upd (upd (upd (upd (upd (upd (upd (fun _ => 0) (1 : Int32).toNatClampNeg 0) (2 : Int32).toNatClampNeg 0) (3 : Int32).toNatClampNeg 0) (4 : Int32).toNatClampNeg 0) (5 : Int32).toNatClampNeg 0) (6 : Int32).toNatClampNeg 0) (7 : Int32).toNatClampNeg 0) (8 : Int32).toNatClampNeg 0) (9 : Int32).toNatClampNeg 0)))] := hD
  refine lv_iinc (v := 10) (lv' := [(1, .int 10), (0, .ref m0)]) hx hb dX6_fresh_27 hl (k := 0) rfl (by decide) (by decide) rfl (fun ls hl => ?_)
  refine lv_goto (tgt := 2) hx hb dX6_fresh_30 (by decide) ?_
  refine lv_iload_n hx hb dX6_fresh_2 rfl (lv_at hl 0 rfl) ?_
  refine lv_bipush (v := 11) hx hb dX6_fresh_3 (by decide) ?_
  refine lv_icmp_ge (tgt := 33) hx hb dX6_fresh_5 (by decide) (fun c5_19 => ?_) (fun c5_19 => ?_)
  · exact absurd c5_19 (by decide)
  refine lv_aload_n hx hb dX6_fresh_8 rfl (lv_at hl 1 rfl) ?_
  refine va_get (D := D) (ci := 6) (v := .ref mf) (C := RX6) (T := TX6) (N := 39) hx hb hts in_X6_fresh_X6 hown hK hP 0 rfl rfl 1 (by decide) (hts _ wd_X6_fresh_0) (fun _ h9 => h9) rfl dX6_fresh_9 ?_
  refine lv_iload_n hx hb dX6_fresh_12 rfl (lv_at hl 0 rfl) ?_
  refine lv_aload_n hx hb dX6_fresh_13 rfl (lv_at hl 1 rfl) ?_
  refine va_get (D := D) (ci := 6) (v := .ref ms) (C := RX6) (T := TX6) (N := 39) hx hb hts in_X6_fresh_X6 hown hK hP 0 rfl rfl 0 (by decide) (hts _ wd_X6_fresh_1) (fun _ h9 => h9) rfl dX6_fresh_14 ?_
  refine lv_iload_n hx hb dX6_fresh_17 rfl (lv_at hl 0 rfl) ?_
  refine va_iald hx hb hK hP 1 0 rfl rfl (show ¬ ((10 : Int32) < 0 ∨ 11 ≤ (10 : Int32).toNatClampNeg) by decide) dX6_fresh_18 ?_
  refine lv_topi (fun z_20 ez_20 => ?_)
  obtain rfl : z_20 = 0 := ez_20
  refine va_iast hx hb hK hP hD hS 2 0 rfl rfl (show ¬ ((10 : Int32) < 0 ∨ 11 ≤ (10 : Int32).toNatClampNeg) by decide) dX6_fresh_19 (fun H locs hP hD hS => ?_)
  have hP : va_P D vwCl [(m0, .inr (6, [.ref ms, .ref mf, .ref mw, .ref mk, .int 0, .ref mh, .int 0, .int 0, .int 21, .int 17, .int 0, .int 1, .int 1, .int 1, .int 3, .long 1, .int 0, .ref q0, .ref q1, .ref q2, .int 0, .ref q3, .ref q4, .ref q5, .ref q6, .ref q7, .int 0, .int 0, .int 0, .int 0, .int 0, .int 0, .int 0, .int 0, .int 0, .ref k0, .ref k1, .ref k2, .ref k3])), (ms, .inl (cI, 11, .inl (fun _ => 0))), (mf, .inl (cI, 11, .inl (upd (upd (upd (upd (upd (upd (upd (upd (upd (upd (fun _ => 0) (1 : Int32).toNatClampNeg 0) (2 : Int32).toNatClampNeg 0) (3 : Int32).toNatClampNeg 0) (4 : Int32).toNatClampNeg 0) (5 : Int32).toNatClampNeg 0) (6 : Int32).toNatClampNeg 0) (7 : Int32).toNatClampNeg 0) (8 : Int32).toNatClampNeg 0) (9 : Int32).toNatClampNeg 0) (10 : Int32).toNatClampNeg 0))), (mw, .inl (cI, 11, .inl (upd (upd (upd (upd (upd (upd (upd (upd (upd (fun _ => 0) (1 : Int32).toNatClampNeg 0) (2 : Int32).toNatClampNeg 0) (3 : Int32).toNatClampNeg 0) (4 : Int32).toNatClampNeg 0) (5 : Int32).toNatClampNeg 0) (6 : Int32).toNatClampNeg 0) (7 : Int32).toNatClampNeg 0) (8 : Int32).toNatClampNeg 0) (9 : Int32).toNatClampNeg 0)))] H := hP
  have hD : va_D A [(m0, .inr (6, [.ref ms, .ref mf, .ref mw, .ref mk, .int 0, .ref mh, .int 0, .int 0, .int 21, .int 17, .int 0, .int 1, .int 1, .int 1, .int 3, .long 1, .int 0, .ref q0, .ref q1, .ref q2, .int 0, .ref q3, .ref q4, .ref q5, .ref q6, .ref q7, .int 0, .int 0, .int 0, .int 0, .int 0, .int 0, .int 0, .int 0, .int 0, .ref k0, .ref k1, .ref k2, .ref k3])), (ms, .inl (cI, 11, .inl (fun _ => 0))), (mf, .inl (cI, 11, .inl (upd (upd (upd (upd (upd (upd (upd (upd (upd (upd (fun _ => 0) (1 : Int32).toNatClampNeg 0) (2 : Int32).toNatClampNeg 0) (3 : Int32).toNatClampNeg 0) (4 : Int32).toNatClampNeg 0) (5 : Int32).toNatClampNeg 0) (6 : Int32).toNatClampNeg 0) (7 : Int32).toNatClampNeg 0) (8 : Int32).toNatClampNeg 0) (9 : Int32).toNatClampNeg 0) (10 : Int32).toNatClampNeg 0))), (mw, .inl (cI, 11, .inl (upd (upd (upd (upd (upd (upd (upd (upd (upd (fun _ => 0) (1 : Int32).toNatClampNeg 0) (2 : Int32).toNatClampNeg 0) (3 : Int32).toNatClampNeg 0) (4 : Int32).toNatClampNeg 0) (5 : Int32).toNatClampNeg 0) (6 : Int32).toNatClampNeg 0) (7 : Int32).toNatClampNeg 0) (8 : Int32).toNatClampNeg 0) (9 : Int32).toNatClampNeg 0)))] := hD
  refine lv_aload_n hx hb dX6_fresh_20 rfl (lv_at hl 1 rfl) ?_
  refine va_get (D := D) (ci := 6) (v := .ref mw) (C := RX6) (T := TX6) (N := 39) hx hb hts in_X6_fresh_X6 hown hK hP 0 rfl rfl 2 (by decide) (hts _ wd_X6_fresh_2) (fun _ h9 => h9) rfl dX6_fresh_21 ?_
  refine lv_iload_n hx hb dX6_fresh_24 rfl (lv_at hl 0 rfl) ?_
  refine lv_iconst (v := 0) hx hb dX6_fresh_25 (by decide) ?_
  refine va_iast hx hb hK hP hD hS 3 0 rfl rfl (show ¬ ((10 : Int32) < 0 ∨ 11 ≤ (10 : Int32).toNatClampNeg) by decide) dX6_fresh_26 (fun H locs hP hD hS => ?_)
  have hP : va_P D vwCl [(m0, .inr (6, [.ref ms, .ref mf, .ref mw, .ref mk, .int 0, .ref mh, .int 0, .int 0, .int 21, .int 17, .int 0, .int 1, .int 1, .int 1, .int 3, .long 1, .int 0, .ref q0, .ref q1, .ref q2, .int 0, .ref q3, .ref q4, .ref q5, .ref q6, .ref q7, .int 0, .int 0, .int 0, .int 0, .int 0, .int 0, .int 0, .int 0, .int 0, .ref k0, .ref k1, .ref k2, .ref k3])), (ms, .inl (cI, 11, .inl (fun _ => 0))), (mf, .inl (cI, 11, .inl (upd (upd (upd (upd (upd (upd (upd (upd (upd (upd (fun _ => 0) (1 : Int32).toNatClampNeg 0) (2 : Int32).toNatClampNeg 0) (3 : Int32).toNatClampNeg 0) (4 : Int32).toNatClampNeg 0) (5 : Int32).toNatClampNeg 0) (6 : Int32).toNatClampNeg 0) (7 : Int32).toNatClampNeg 0) (8 : Int32).toNatClampNeg 0) (9 : Int32).toNatClampNeg 0) (10 : Int32).toNatClampNeg 0))), (mw, .inl (cI, 11, .inl (upd (upd (upd (upd (upd (upd (upd (upd (upd (upd (fun _ => 0) (1 : Int32).toNatClampNeg 0) (2 : Int32).toNatClampNeg 0) (3 : Int32).toNatClampNeg 0) (4 : Int32).toNatClampNeg 0) (5 : Int32).toNatClampNeg 0) (6 : Int32).toNatClampNeg 0) (7 : Int32).toNatClampNeg 0) (8 : Int32).toNatClampNeg 0) (9 : Int32).toNatClampNeg 0) (10 : Int32).toNatClampNeg 0)))] H := hP
  have hD : va_D A [(m0, .inr (6, [.ref ms, .ref mf, .ref mw, .ref mk, .int 0, .ref mh, .int 0, .int 0, .int 21, .int 17, .int 0, .int 1, .int 1, .int 1, .int 3, .long 1, .int 0, .ref q0, .ref q1, .ref q2, .int 0, .ref q3, .ref q4, .ref q5, .ref q6, .ref q7, .int 0, .int 0, .int 0, .int 0, .int 0, .int 0, .int 0, .int 0, .int 0, .ref k0, .ref k1, .ref k2, .ref k3])), (ms, .inl (cI, 11, .inl (fun _ => 0))), (mf, .inl (cI, 11, .inl (upd (upd (upd (upd (upd (upd (upd (upd (upd (upd (fun _ => 0) (1 : Int32).toNatClampNeg 0) (2 : Int32).toNatClampNeg 0) (3 : Int32).toNatClampNeg 0) (4 : Int32).toNatClampNeg 0) (5 : Int32).toNatClampNeg 0) (6 : Int32).toNatClampNeg 0) (7 : Int32).toNatClampNeg 0) (8 : Int32).toNatClampNeg 0) (9 : Int32).toNatClampNeg 0) (10 : Int32).toNatClampNeg 0))), (mw, .inl (cI, 11, .inl (upd (upd (upd (upd (upd (upd (upd (upd (upd (upd (fun _ => 0) (1 : Int32).toNatClampNeg 0) (2 : Int32).toNatClampNeg 0) (3 : Int32).toNatClampNeg 0) (4 : Int32).toNatClampNeg 0) (5 : Int32).toNatClampNeg 0) (6 : Int32).toNatClampNeg 0) (7 : Int32).toNatClampNeg 0) (8 : Int32).toNatClampNeg 0) (9 : Int32).toNatClampNeg 0) (10 : Int32).toNatClampNeg 0)))] := hD
  refine lv_iinc (v := 11) (lv' := [(1, .int 11), (0, .ref m0)]) hx hb dX6_fresh_27 hl (k := 0) rfl (by decide) (by decide) rfl (fun ls hl => ?_)
  refine lv_goto (tgt := 2) hx hb dX6_fresh_30 (by decide) ?_
  refine lv_iload_n hx hb dX6_fresh_2 rfl (lv_at hl 0 rfl) ?_
  refine lv_bipush (v := 11) hx hb dX6_fresh_3 (by decide) ?_
  refine lv_icmp_ge (tgt := 33) hx hb dX6_fresh_5 (by decide) (fun c5_21 => ?_) (fun c5_21 => ?_)
  · skip
    refine lv_aload_n hx hb dX6_fresh_33 rfl (lv_at hl 1 rfl) ?_
    refine lv_iconst (v := 0) hx hb dX6_fresh_34 (by decide) ?_
    refine va_put (D := D) (ci := 6) (v := .int 0) (ty := .boolean) (C := RX6) (T := TX6) (N := 39) hx hb hts in_X6_fresh_X6 tyX6 tyX6_ok nmX6 hown hK hP hD hS 0 rfl rfl 4 (by decide) (hts _ wd_X6_fresh_3) (fun _ h9 => h9) rfl (by decide +kernel) rfl rfl (Nat.le_of_ble_eq_true rfl) dX6_fresh_35 (fun H locs hP hD hS => ?_)
    have hP : va_P D vwCl [(m0, .inr (6, [.ref ms, .ref mf, .ref mw, .ref mk, .int 0, .ref mh, .int 0, .int 0, .int 21, .int 17, .int 0, .int 1, .int 1, .int 1, .int 3, .long 1, .int 0, .ref q0, .ref q1, .ref q2, .int 0, .ref q3, .ref q4, .ref q5, .ref q6, .ref q7, .int 0, .int 0, .int 0, .int 0, .int 0, .int 0, .int 0, .int 0, .int 0, .ref k0, .ref k1, .ref k2, .ref k3])), (ms, .inl (cI, 11, .inl (fun _ => 0))), (mf, .inl (cI, 11, .inl (upd (upd (upd (upd (upd (upd (upd (upd (upd (upd (fun _ => 0) (1 : Int32).toNatClampNeg 0) (2 : Int32).toNatClampNeg 0) (3 : Int32).toNatClampNeg 0) (4 : Int32).toNatClampNeg 0) (5 : Int32).toNatClampNeg 0) (6 : Int32).toNatClampNeg 0) (7 : Int32).toNatClampNeg 0) (8 : Int32).toNatClampNeg 0) (9 : Int32).toNatClampNeg 0) (10 : Int32).toNatClampNeg 0))), (mw, .inl (cI, 11, .inl (upd (upd (upd (upd (upd (upd (upd (upd (upd (upd (fun _ => 0) (1 : Int32).toNatClampNeg 0) (2 : Int32).toNatClampNeg 0) (3 : Int32).toNatClampNeg 0) (4 : Int32).toNatClampNeg 0) (5 : Int32).toNatClampNeg 0) (6 : Int32).toNatClampNeg 0) (7 : Int32).toNatClampNeg 0) (8 : Int32).toNatClampNeg 0) (9 : Int32).toNatClampNeg 0) (10 : Int32).toNatClampNeg 0)))] H := hP
    have hD : va_D A [(m0, .inr (6, [.ref ms, .ref mf, .ref mw, .ref mk, .int 0, .ref mh, .int 0, .int 0, .int 21, .int 17, .int 0, .int 1, .int 1, .int 1, .int 3, .long 1, .int 0, .ref q0, .ref q1, .ref q2, .int 0, .ref q3, .ref q4, .ref q5, .ref q6, .ref q7, .int 0, .int 0, .int 0, .int 0, .int 0, .int 0, .int 0, .int 0, .int 0, .ref k0, .ref k1, .ref k2, .ref k3])), (ms, .inl (cI, 11, .inl (fun _ => 0))), (mf, .inl (cI, 11, .inl (upd (upd (upd (upd (upd (upd (upd (upd (upd (upd (fun _ => 0) (1 : Int32).toNatClampNeg 0) (2 : Int32).toNatClampNeg 0) (3 : Int32).toNatClampNeg 0) (4 : Int32).toNatClampNeg 0) (5 : Int32).toNatClampNeg 0) (6 : Int32).toNatClampNeg 0) (7 : Int32).toNatClampNeg 0) (8 : Int32).toNatClampNeg 0) (9 : Int32).toNatClampNeg 0) (10 : Int32).toNatClampNeg 0))), (mw, .inl (cI, 11, .inl (upd (upd (upd (upd (upd (upd (upd (upd (upd (upd (fun _ => 0) (1 : Int32).toNatClampNeg 0) (2 : Int32).toNatClampNeg 0) (3 : Int32).toNatClampNeg 0) (4 : Int32).toNatClampNeg 0) (5 : Int32).toNatClampNeg 0) (6 : Int32).toNatClampNeg 0) (7 : Int32).toNatClampNeg 0) (8 : Int32).toNatClampNeg 0) (9 : Int32).toNatClampNeg 0) (10 : Int32).toNatClampNeg 0)))] := hD
    refine lv_aload_n hx hb dX6_fresh_38 rfl (lv_at hl 1 rfl) ?_
    refine lv_iconst (v := 0) hx hb dX6_fresh_39 (by decide) ?_
    refine va_put (D := D) (ci := 6) (v := .int 0) (ty := .int) (C := RX6) (T := TX6) (N := 39) hx hb hts in_X6_fresh_X6 tyX6 tyX6_ok nmX6 hown hK hP hD hS 0 rfl rfl 6 (by decide) (hts _ wd_X6_fresh_4) (fun _ h9 => h9) rfl (by decide +kernel) rfl rfl (Nat.le_of_ble_eq_true rfl) dX6_fresh_40 (fun H locs hP hD hS => ?_)
    have hP : va_P D vwCl [(m0, .inr (6, [.ref ms, .ref mf, .ref mw, .ref mk, .int 0, .ref mh, .int 0, .int 0, .int 21, .int 17, .int 0, .int 1, .int 1, .int 1, .int 3, .long 1, .int 0, .ref q0, .ref q1, .ref q2, .int 0, .ref q3, .ref q4, .ref q5, .ref q6, .ref q7, .int 0, .int 0, .int 0, .int 0, .int 0, .int 0, .int 0, .int 0, .int 0, .ref k0, .ref k1, .ref k2, .ref k3])), (ms, .inl (cI, 11, .inl (fun _ => 0))), (mf, .inl (cI, 11, .inl (upd (upd (upd (upd (upd (upd (upd (upd (upd (upd (fun _ => 0) (1 : Int32).toNatClampNeg 0) (2 : Int32).toNatClampNeg 0) (3 : Int32).toNatClampNeg 0) (4 : Int32).toNatClampNeg 0) (5 : Int32).toNatClampNeg 0) (6 : Int32).toNatClampNeg 0) (7 : Int32).toNatClampNeg 0) (8 : Int32).toNatClampNeg 0) (9 : Int32).toNatClampNeg 0) (10 : Int32).toNatClampNeg 0))), (mw, .inl (cI, 11, .inl (upd (upd (upd (upd (upd (upd (upd (upd (upd (upd (fun _ => 0) (1 : Int32).toNatClampNeg 0) (2 : Int32).toNatClampNeg 0) (3 : Int32).toNatClampNeg 0) (4 : Int32).toNatClampNeg 0) (5 : Int32).toNatClampNeg 0) (6 : Int32).toNatClampNeg 0) (7 : Int32).toNatClampNeg 0) (8 : Int32).toNatClampNeg 0) (9 : Int32).toNatClampNeg 0) (10 : Int32).toNatClampNeg 0)))] H := hP
    have hD : va_D A [(m0, .inr (6, [.ref ms, .ref mf, .ref mw, .ref mk, .int 0, .ref mh, .int 0, .int 0, .int 21, .int 17, .int 0, .int 1, .int 1, .int 1, .int 3, .long 1, .int 0, .ref q0, .ref q1, .ref q2, .int 0, .ref q3, .ref q4, .ref q5, .ref q6, .ref q7, .int 0, .int 0, .int 0, .int 0, .int 0, .int 0, .int 0, .int 0, .int 0, .ref k0, .ref k1, .ref k2, .ref k3])), (ms, .inl (cI, 11, .inl (fun _ => 0))), (mf, .inl (cI, 11, .inl (upd (upd (upd (upd (upd (upd (upd (upd (upd (upd (fun _ => 0) (1 : Int32).toNatClampNeg 0) (2 : Int32).toNatClampNeg 0) (3 : Int32).toNatClampNeg 0) (4 : Int32).toNatClampNeg 0) (5 : Int32).toNatClampNeg 0) (6 : Int32).toNatClampNeg 0) (7 : Int32).toNatClampNeg 0) (8 : Int32).toNatClampNeg 0) (9 : Int32).toNatClampNeg 0) (10 : Int32).toNatClampNeg 0))), (mw, .inl (cI, 11, .inl (upd (upd (upd (upd (upd (upd (upd (upd (upd (upd (fun _ => 0) (1 : Int32).toNatClampNeg 0) (2 : Int32).toNatClampNeg 0) (3 : Int32).toNatClampNeg 0) (4 : Int32).toNatClampNeg 0) (5 : Int32).toNatClampNeg 0) (6 : Int32).toNatClampNeg 0) (7 : Int32).toNatClampNeg 0) (8 : Int32).toNatClampNeg 0) (9 : Int32).toNatClampNeg 0) (10 : Int32).toNatClampNeg 0)))] := hD
    refine lv_aload_n hx hb dX6_fresh_43 rfl (lv_at hl 1 rfl) ?_
    refine lv_iconst (v := 0) hx hb dX6_fresh_44 (by decide) ?_
    refine va_put (D := D) (ci := 6) (v := .int 0) (ty := .int) (C := RX6) (T := TX6) (N := 39) hx hb hts in_X6_fresh_X6 tyX6 tyX6_ok nmX6 hown hK hP hD hS 0 rfl rfl 7 (by decide) (hts _ wd_X6_fresh_5) (fun _ h9 => h9) rfl (by decide +kernel) rfl rfl (Nat.le_of_ble_eq_true rfl) dX6_fresh_45 (fun H locs hP hD hS => ?_)
    have hP : va_P D vwCl [(m0, .inr (6, [.ref ms, .ref mf, .ref mw, .ref mk, .int 0, .ref mh, .int 0, .int 0, .int 21, .int 17, .int 0, .int 1, .int 1, .int 1, .int 3, .long 1, .int 0, .ref q0, .ref q1, .ref q2, .int 0, .ref q3, .ref q4, .ref q5, .ref q6, .ref q7, .int 0, .int 0, .int 0, .int 0, .int 0, .int 0, .int 0, .int 0, .int 0, .ref k0, .ref k1, .ref k2, .ref k3])), (ms, .inl (cI, 11, .inl (fun _ => 0))), (mf, .inl (cI, 11, .inl (upd (upd (upd (upd (upd (upd (upd (upd (upd (upd (fun _ => 0) (1 : Int32).toNatClampNeg 0) (2 : Int32).toNatClampNeg 0) (3 : Int32).toNatClampNeg 0) (4 : Int32).toNatClampNeg 0) (5 : Int32).toNatClampNeg 0) (6 : Int32).toNatClampNeg 0) (7 : Int32).toNatClampNeg 0) (8 : Int32).toNatClampNeg 0) (9 : Int32).toNatClampNeg 0) (10 : Int32).toNatClampNeg 0))), (mw, .inl (cI, 11, .inl (upd (upd (upd (upd (upd (upd (upd (upd (upd (upd (fun _ => 0) (1 : Int32).toNatClampNeg 0) (2 : Int32).toNatClampNeg 0) (3 : Int32).toNatClampNeg 0) (4 : Int32).toNatClampNeg 0) (5 : Int32).toNatClampNeg 0) (6 : Int32).toNatClampNeg 0) (7 : Int32).toNatClampNeg 0) (8 : Int32).toNatClampNeg 0) (9 : Int32).toNatClampNeg 0) (10 : Int32).toNatClampNeg 0)))] H := hP
    have hD : va_D A [(m0, .inr (6, [.ref ms, .ref mf, .ref mw, .ref mk, .int 0, .ref mh, .int 0, .int 0, .int 21, .int 17, .int 0, .int 1, .int 1, .int 1, .int 3, .long 1, .int 0, .ref q0, .ref q1, .ref q2, .int 0, .ref q3, .ref q4, .ref q5, .ref q6, .ref q7, .int 0, .int 0, .int 0, .int 0, .int 0, .int 0, .int 0, .int 0, .int 0, .ref k0, .ref k1, .ref k2, .ref k3])), (ms, .inl (cI, 11, .inl (fun _ => 0))), (mf, .inl (cI, 11, .inl (upd (upd (upd (upd (upd (upd (upd (upd (upd (upd (fun _ => 0) (1 : Int32).toNatClampNeg 0) (2 : Int32).toNatClampNeg 0) (3 : Int32).toNatClampNeg 0) (4 : Int32).toNatClampNeg 0) (5 : Int32).toNatClampNeg 0) (6 : Int32).toNatClampNeg 0) (7 : Int32).toNatClampNeg 0) (8 : Int32).toNatClampNeg 0) (9 : Int32).toNatClampNeg 0) (10 : Int32).toNatClampNeg 0))), (mw, .inl (cI, 11, .inl (upd (upd (upd (upd (upd (upd (upd (upd (upd (upd (fun _ => 0) (1 : Int32).toNatClampNeg 0) (2 : Int32).toNatClampNeg 0) (3 : Int32).toNatClampNeg 0) (4 : Int32).toNatClampNeg 0) (5 : Int32).toNatClampNeg 0) (6 : Int32).toNatClampNeg 0) (7 : Int32).toNatClampNeg 0) (8 : Int32).toNatClampNeg 0) (9 : Int32).toNatClampNeg 0) (10 : Int32).toNatClampNeg 0)))] := hD
    refine lv_aload_n hx hb dX6_fresh_48 rfl (lv_at hl 1 rfl) ?_
    have hPc := hP.sub (ws' := [(m0, .inr (6, [.ref ms, .ref mf, .ref mw, .ref mk, .int 0, .ref mh, .int 0, .int 0, .int 21, .int 17, .int 0, .int 1, .int 1, .int 1, .int 3, .long 1, .int 0, .ref q0, .ref q1, .ref q2, .int 0, .ref q3, .ref q4, .ref q5, .ref q6, .ref q7, .int 0, .int 0, .int 0, .int 0, .int 0, .int 0, .int 0, .int 0, .int 0, .ref k0, .ref k1, .ref k2, .ref k3])), (ms, .inl (cI, 11, .inl (fun _ => 0)))]) [0, 1] rfl
    refine vp_callSi (W.runV (As := []) (rest := []) ⟨hx, hb, hml, hown, hts⟩ (c_X6_all l D cI cJ cQ m0 ms mf mw mk mh q0 q1 q2 q3 q4 q5 q6 q7 k0 k1 k2 k3) (cwV 0 hts gX6_fresh_X6_all rfl rfl rfl (by decide +kernel) ⟨Nat.le_of_ble_eq_true rfl, Nat.le_of_ble_eq_true rfl⟩) (rP_preV (ci := 6) (q0 := 0) hPc hK rfl rfl) rfl rfl hl.1 rfl (lv_room (Nat.le_of_ble_eq_true rfl)) dX6_fresh_49 ⟨Nat.le_of_ble_eq_true rfl, Nat.le_of_ble_eq_true rfl⟩) (fun r_22 hr_22 => ?_)
    subst hr_22
    have hP9 := hP.sub (ws' := []) [] rfl
    have hD9 := hD.sub (ws' := []) [] (by decide) rfl
    exact W.iret (v := 0) hx hb hr (fun t ht hW => ⟨⟨0, (), rfl, (by first | rfl | trivial | (simp [c5_21]; done) | ((try first | rw [if_pos c5_21] | rw [if_neg c5_21]); first | done | rfl | trivial) | (simp_all; done)), by rw [ht]; exact hP9, va_K.moved hW.alike hK, hD9⟩, hS.F ht⟩) hS.2.2 dX6_fresh_52
  · exact absurd c5_21 (by decide)

set_option maxRecDepth 20000 in
theorem wd_X6_mark_0 : Cond.constantLong RX6 86 (10) ∈ wsX6_mark := by decide +kernel
set_option maxRecDepth 20000 in
theorem ggX6_mark_X6_in : GoodIn wsX6_mark wsX6_in := goodIn_r _ [8] (by decide +kernel) (by decide +kernel)
set_option maxRecDepth 20000 in
theorem gX6_mark_X6_in : GoodIn wsX6_mark (va_wsS RX6 88 yX6_in wsX6_in) := goodIn_app (goodIn_of _ (by decide +kernel)) ggX6_mark_X6_in
set_option maxRecDepth 20000 in
theorem wd_X6_mark_1 : Cond.constantLong RX6 121 (-3) ∈ wsX6_mark := by decide +kernel
set_option maxRecDepth 20000 in
theorem wd_X6_mark_2 : Cond.constantLong RX6 123 (3) ∈ wsX6_mark := by decide +kernel
set_option maxRecDepth 20000 in
theorem in_X6_mark_X6 : ∀ w ∈ wsX60, w ∈ wsX6_mark := by decide +kernel
set_option maxRecDepth 20000 in
theorem wd_X6_mark_3 : Cond.fieldLink RX6 19 "ShoeTableModel" "marks" "[I" ∈ wsX6_mark := by decide +kernel
set_option maxHeartbeats 400000 in
set_option maxRecDepth 100000 in
/-- X6_mark -/
theorem c_X6_mark (l : Launch) (D : va_G) (cI cJ cQ : ClassId) (sz : Nat) (m0 : Nat) (mk : Nat) (ms : Nat) (mf : Nat) (mw : Nat) (mh : Nat) (q0 : Nat) (q1 : Nat) (q2 : Nat) (q3 : Nat) (q4 : Nat) (q5 : Nat) (q6 : Nat) (q7 : Nat) (k0 : Nat) (k1 : Nat) (k2 : Nat) (k3 : Nat) (p0 : Int32) (p1 : Int32)  : Met l yX6_mark wsX6_mark ({ frames := 1, cells := 0, slots := 0, locals := 25 }) (va_Pc [.ref m0, .int p0, .int p1] (mP D (gTy cI cJ cQ) [(m0, .inr (6, [.ref ms, .ref mf, .ref mw, .ref mk, .int 0, .ref mh, .int 0, .int 0, .int 21, .int 17, .int 0, .int 1, .int 1, .int 1, .int 3, .long 1, .int 0, .ref q0, .ref q1, .ref q2, .int 0, .ref q3, .ref q4, .ref q5, .ref q6, .ref q7, .int 0, .int 0, .int 0, .int 0, .int 0, .int 0, .int 0, .int 0, .int 0, .ref k0, .ref k1, .ref k2, .ref k3])), (mk, .inl (cI, 11, .inl (fun _ => 0)))] sz)) (va_Qi (fun (r : Int32) (u : Unit) => match u with | _ => r = markM p0 p1) (fun (u : Unit) t => match u with | _ => mB D (gTy cI cJ cQ) (va_A [(m0, .inr (6, [.ref ms, .ref mf, .ref mw, .ref mk, .int 0, .ref mh, .int 0, .int 0, .int 21, .int 17, .int 0, .int 1, .int 1, .int 1, .int 3, .long 1, .int 0, .ref q0, .ref q1, .ref q2, .int 0, .ref q3, .ref q4, .ref q5, .ref q6, .ref q7, .int 0, .int 0, .int 0, .int 0, .int 0, .int 0, .int 0, .int 0, .int 0, .ref k0, .ref k1, .ref k2, .ref k3])), (mk, .inl (cI, 11, .inl (fun _ => 0)))] sz) [] t) (va_A [(m0, .inr (6, [.ref ms, .ref mf, .ref mw, .ref mk, .int 0, .ref mh, .int 0, .int 0, .int 21, .int 17, .int 0, .int 1, .int 1, .int 1, .int 3, .long 1, .int 0, .ref q0, .ref q1, .ref q2, .int 0, .ref q3, .ref q4, .ref q5, .ref q6, .ref q7, .int 0, .int 0, .int 0, .int 0, .int 0, .int 0, .int 0, .int 0, .int 0, .ref k0, .ref k1, .ref k2, .ref k3])), (mk, .inl (cI, 11, .inl (fun _ => 0)))] sz)) 0 0 (va_A [(m0, .inr (6, [.ref ms, .ref mf, .ref mw, .ref mk, .int 0, .ref mh, .int 0, .int 0, .int 21, .int 17, .int 0, .int 1, .int 1, .int 1, .int 3, .long 1, .int 0, .ref q0, .ref q1, .ref q2, .int 0, .ref q3, .ref q4, .ref q5, .ref q6, .ref q7, .int 0, .int 0, .int 0, .int 0, .int 0, .int 0, .int 0, .int 0, .int 0, .ref k0, .ref k1, .ref k2, .ref k3])), (mk, .inl (cI, 11, .inl (fun _ => 0)))] sz) := by
  refine Met.ofW (cc := cX6_mark) (maxL := 4) (ret := (some .int)) (by decide) rfl ?_
  intro p e s m args below meth c s₁ B hml hv
  obtain ⟨rfl, hsz, hP, hK, hD0⟩ := hv
  have hx := B.exec
  have hb := B.bytes
  have hr := B.returns
  have hts := atoms_spec (ws := wsX6_mark) B.pre
  have hown : s.vm.findClass RX6 = some m.cls := findClass_of_methodNamed B.named
  have hlocks := B.notSynchronized
  subst hsz
  have hD := hD0.self (sz := s.heap.size)
  generalize hAe : va_A [(m0, .inr (6, [.ref ms, .ref mf, .ref mw, .ref mk, .int 0, .ref mh, .int 0, .int 0, .int 21, .int 17, .int 0, .int 1, .int 1, .int 1, .int 3, .long 1, .int 0, .ref q0, .ref q1, .ref q2, .int 0, .ref q3, .ref q4, .ref q5, .ref q6, .ref q7, .int 0, .int 0, .int 0, .int 0, .int 0, .int 0, .int 0, .int 0, .int 0, .ref k0, .ref k1, .ref k2, .ref k3])), (mk, .inl (cI, 11, .inl (fun _ => 0)))] s.heap.size = A at hD ⊢
  have hA : ∀ q : Nat, s.heap.size ≤ q → A q := fun q h => by rw [← hAe]; exact Or.inr h
  have hS : va_S A s.heap s.heap [] := va_S.rf
  have hP : va_P D vwCl [(m0, .inr (6, [.ref ms, .ref mf, .ref mw, .ref mk, .int 0, .ref mh, .int 0, .int 0, .int 21, .int 17, .int 0, .int 1, .int 1, .int 1, .int 3, .long 1, .int 0, .ref q0, .ref q1, .ref q2, .int 0, .ref q3, .ref q4, .ref q5, .ref q6, .ref q7, .int 0, .int 0, .int 0, .int 0, .int 0, .int 0, .int 0, .int 0, .int 0, .ref k0, .ref k1, .ref k2, .ref k3])), (mk, .inl (cI, 11, .inl (fun _ => 0)))] s.heap := hP
  have hl := lv_entry ([.ref m0, .int p0, .int p1]) (n := 4) (Nat.le_of_ble_eq_true rfl)
  rw [lg_entry_eq]
  generalize (lg_sl ([.ref m0, .int p0, .int p1]) ++ List.replicate (4 - (lg_sl ([.ref m0, .int p0, .int p1])).length) Slot.unset).toArray = ls at hl ⊢
  have hl : lv_has ls 4 [(0, .ref m0), (1, .int p0), (2, .int p1)] := hl
  refine lv_iload_n hx hb dX6_mark_0 rfl (lv_at hl 1 rfl) ?_
  refine lv_i2l (v := p0.toInt64) hx hb dX6_mark_1 rfl ?_
  refine lv_lconst (v := 1) hx hb dX6_mark_2 (by decide) ?_
  refine lv_ldc2 hx hb hown (hts _ wd_X6_mark_0) dX6_mark_3 ?_
  have hPc := hP.sub (ws' := []) [] rfl
  refine vp_callSi (W.runS (As := [.long p0.toInt64, .long 1, .long 10]) (rest := []) ⟨hx, hb, hml, hown, hts⟩ (c_X6_in l D cI cJ cQ p0.toInt64 1 10) (va_cwS 3 hts gX6_mark_X6_in rfl rfl rfl (by decide +kernel) ⟨Nat.le_of_ble_eq_true rfl, Nat.le_of_ble_eq_true rfl⟩) (rP_preS hPc hK) rfl rfl hl.1 rfl (lv_room (Nat.le_of_ble_eq_true rfl)) dX6_mark_6 ⟨Nat.le_of_ble_eq_true rfl, Nat.le_of_ble_eq_true rfl⟩) (fun r_1 hr_1 => ?_)
  subst hr_1
  refine lv_if_eq (tgt := 26) hx hb dX6_mark_9 (by decide) (fun c9_2 => ?_) (fun c9_2 => ?_)
  · skip
    refine lv_sipush (v := (-1001)) hx hb dX6_mark_26 (by decide) ?_
    have hP9 := hP.sub (ws' := []) [] rfl
    have hD9 := hD.sub (ws' := []) [] (by decide) rfl
    exact W.iret (v := (-1001)) hx hb hr (fun t ht hW => ⟨⟨(-1001), (), rfl, (by unfold markM; first | (simp [c9_2]; done) | ((try first | rw [if_pos c9_2] | rw [if_neg c9_2]); first | done | rfl | trivial)), by rw [ht]; exact hP9, va_K.moved hW.alike hK, hD9⟩, hS.F ht⟩) hS.2.2 dX6_mark_29
  · skip
    refine lv_iload_n hx hb dX6_mark_12 rfl (lv_at hl 2 rfl) ?_
    refine lv_i2l (v := p1.toInt64) hx hb dX6_mark_13 rfl ?_
    refine lv_ldc2 hx hb hown (hts _ wd_X6_mark_1) dX6_mark_14 ?_
    refine lv_ldc2 hx hb hown (hts _ wd_X6_mark_2) dX6_mark_17 ?_
    have hPc := hP.sub (ws' := []) [] rfl
    refine vp_callSi (W.runS (As := [.long p1.toInt64, .long (-3), .long 3]) (rest := []) ⟨hx, hb, hml, hown, hts⟩ (c_X6_in l D cI cJ cQ p1.toInt64 (-3) 3) (va_cwS 3 hts gX6_mark_X6_in rfl rfl rfl (by decide +kernel) ⟨Nat.le_of_ble_eq_true rfl, Nat.le_of_ble_eq_true rfl⟩) (rP_preS hPc hK) rfl rfl hl.1 rfl (lv_room (Nat.le_of_ble_eq_true rfl)) dX6_mark_20 ⟨Nat.le_of_ble_eq_true rfl, Nat.le_of_ble_eq_true rfl⟩) (fun r_3 hr_3 => ?_)
    subst hr_3
    refine lv_if_ne (tgt := 30) hx hb dX6_mark_23 (by decide) (fun c23_4 => ?_) (fun c23_4 => ?_)
    · skip
      refine lv_aload_n hx hb dX6_mark_30 rfl (lv_at hl 0 rfl) ?_
      refine va_get (D := D) (ci := 6) (v := .ref mk) (C := RX6) (T := TX6) (N := 39) hx hb hts in_X6_mark_X6 hown hK hP 0 rfl rfl 3 (by decide) (hts _ wd_X6_mark_3) (fun _ h9 => h9) rfl dX6_mark_31 ?_
      refine lv_iload_n hx hb dX6_mark_34 rfl (lv_at hl 1 rfl) ?_
      refine va_iald hx hb hK hP 1 0 rfl rfl (rkB_in (by rw [← in_rk]; exact c9_2)) dX6_mark_35 ?_
      refine lv_topi (fun z_5 ez_5 => ?_)
      obtain rfl : z_5 = 0 := ez_5
      refine lv_istore_n (lv' := [(3, .int 0), (0, .ref m0), (1, .int p0), (2, .int p1)]) hx hb dX6_mark_36 rfl hl (by decide) rfl (fun ls hl => ?_)
      refine lv_aload_n hx hb dX6_mark_37 rfl (lv_at hl 1 rfl) ?_
      refine va_get (D := D) (ci := 6) (v := .ref mk) (C := RX6) (T := TX6) (N := 39) hx hb hts in_X6_mark_X6 hown hK hP 0 rfl rfl 3 (by decide) (hts _ wd_X6_mark_3) (fun _ h9 => h9) rfl dX6_mark_38 ?_
      refine lv_iload_n hx hb dX6_mark_41 rfl (lv_at hl 2 rfl) ?_
      refine lv_iload_n hx hb dX6_mark_42 rfl (lv_at hl 3 rfl) ?_
      refine va_iast hx hb hK hP hD hS 1 0 rfl rfl (rkB_in (by rw [← in_rk]; exact c9_2)) dX6_mark_43 (fun H locs hP hD hS => ?_)
      have hP : va_P D vwCl [(m0, .inr (6, [.ref ms, .ref mf, .ref mw, .ref mk, .int 0, .ref mh, .int 0, .int 0, .int 21, .int 17, .int 0, .int 1, .int 1, .int 1, .int 3, .long 1, .int 0, .ref q0, .ref q1, .ref q2, .int 0, .ref q3, .ref q4, .ref q5, .ref q6, .ref q7, .int 0, .int 0, .int 0, .int 0, .int 0, .int 0, .int 0, .int 0, .int 0, .ref k0, .ref k1, .ref k2, .ref k3])), (mk, .inl (cI, 11, .inl (upd (fun _ => 0) p0.toNatClampNeg p1)))] H := hP
      have hD : va_D A [(m0, .inr (6, [.ref ms, .ref mf, .ref mw, .ref mk, .int 0, .ref mh, .int 0, .int 0, .int 21, .int 17, .int 0, .int 1, .int 1, .int 1, .int 3, .long 1, .int 0, .ref q0, .ref q1, .ref q2, .int 0, .ref q3, .ref q4, .ref q5, .ref q6, .ref q7, .int 0, .int 0, .int 0, .int 0, .int 0, .int 0, .int 0, .int 0, .int 0, .ref k0, .ref k1, .ref k2, .ref k3])), (mk, .inl (cI, 11, .inl (upd (fun _ => 0) p0.toNatClampNeg p1)))] := hD
      refine lv_iload_n hx hb dX6_mark_44 rfl (lv_at hl 0 rfl) ?_
      have hP9 := hP.sub (ws' := []) [] rfl
      have hD9 := hD.sub (ws' := []) [] (by decide) rfl
      exact W.iret (v := 0) hx hb hr (fun t ht hW => ⟨⟨0, (), rfl, (by unfold markM; first | (simp [c9_2, c23_4]; done) | ((try first | rw [if_pos c9_2] | rw [if_neg c9_2]); (try first | rw [if_pos c23_4] | rw [if_neg c23_4]); first | done | rfl | trivial)), by rw [ht]; exact hP9, va_K.moved hW.alike hK, hD9⟩, hS.F ht⟩) hS.2.2 dX6_mark_45
    · skip
      refine lv_sipush (v := (-1001)) hx hb dX6_mark_26 (by decide) ?_
      have hP9 := hP.sub (ws' := []) [] rfl
      have hD9 := hD.sub (ws' := []) [] (by decide) rfl
      exact W.iret (v := (-1001)) hx hb hr (fun t ht hW => ⟨⟨(-1001), (), rfl, (by unfold markM; first | (simp [c9_2, c23_4]; done) | ((try first | rw [if_pos c9_2] | rw [if_neg c9_2]); (try first | rw [if_pos c23_4] | rw [if_neg c23_4]); first | done | rfl | trivial)), by rw [ht]; exact hP9, va_K.moved hW.alike hK, hD9⟩, hS.F ht⟩) hS.2.2 dX6_mark_29

set_option maxRecDepth 20000 in
theorem wd_X6_left_0 : Cond.constantLong RX6 86 (10) ∈ wsX6_left := by decide +kernel
set_option maxRecDepth 20000 in
theorem ggX6_left_X6_in : GoodIn wsX6_left wsX6_in := goodIn_r _ [6] (by decide +kernel) (by decide +kernel)
set_option maxRecDepth 20000 in
theorem gX6_left_X6_in : GoodIn wsX6_left (va_wsS RX6 88 yX6_in wsX6_in) := goodIn_app (goodIn_of _ (by decide +kernel)) ggX6_left_X6_in
set_option maxRecDepth 20000 in
theorem in_X6_left_X6 : ∀ w ∈ wsX60, w ∈ wsX6_left := by decide +kernel
set_option maxRecDepth 20000 in
theorem wd_X6_left_1 : Cond.fieldLink RX6 7 "ShoeTableModel" "shoe" "[I" ∈ wsX6_left := by decide +kernel
set_option maxRecDepth 20000 in
theorem ggX6_left_X6_all : GoodIn wsX6_left wsX6_all := goodIn_r _ [10, 2, 11, 12, 13, 14, 15, 16, 17, 18, 19, 20, 21, 22, 23, 24, 25, 26, 27, 28, 29, 30, 31, 32, 33, 34, 35, 36, 37, 38, 39, 40, 41, 42, 43, 44, 45, 46, 47, 48, 49] (by decide +kernel) (by decide +kernel)
set_option maxRecDepth 20000 in
theorem gX6_left_X6_all : GoodIn wsX6_left (wsV RX6 104 RX6 yX6_all wsX6_all) := goodIn_app (goodIn_of _ (by decide +kernel)) ggX6_left_X6_all
set_option maxHeartbeats 400000 in
set_option maxRecDepth 100000 in
/-- X6_left -/
theorem c_X6_left (l : Launch) (D : va_G) (cI cJ cQ : ClassId) (m0 : Nat) (ms : Nat) (mf : Nat) (mw : Nat) (mk : Nat) (mh : Nat) (q0 : Nat) (q1 : Nat) (q2 : Nat) (q3 : Nat) (q4 : Nat) (q5 : Nat) (q6 : Nat) (q7 : Nat) (k0 : Nat) (k1 : Nat) (k2 : Nat) (k3 : Nat) (p0 : Int32)  : Met l yX6_left wsX6_left ({ frames := 1, cells := 0, slots := 0, locals := 25 }) (va_Pc [.ref m0, .int p0] (rP D (gTy cI cJ cQ) [(m0, .inr (6, [.ref ms, .ref mf, .ref mw, .ref mk, .int 0, .ref mh, .int 0, .int 0, .int 21, .int 17, .int 0, .int 1, .int 1, .int 1, .int 3, .long 1, .int 0, .ref q0, .ref q1, .ref q2, .int 0, .ref q3, .ref q4, .ref q5, .ref q6, .ref q7, .int 0, .int 0, .int 0, .int 0, .int 0, .int 0, .int 0, .int 0, .int 0, .ref k0, .ref k1, .ref k2, .ref k3])), (ms, .inl (cI, 11, .inl (fun _ => 0)))])) (vp_Si (fun r => r = leftM p0)) 0 0 (fun _ => False) := by
  refine Met.ofW (cc := cX6_left) (maxL := 2) (ret := (some .int)) (by decide) rfl ?_
  intro p e s m args below meth c s₁ B hml hv
  obtain ⟨rfl, hP, hK⟩ := hv
  have hx := B.exec
  have hb := B.bytes
  have hr := B.returns
  have hts := atoms_spec (ws := wsX6_left) B.pre
  have hown : s.vm.findClass RX6 = some m.cls := findClass_of_methodNamed B.named
  have hlocks := B.notSynchronized
  have hl := lv_entry ([.ref m0, .int p0]) (n := 2) (Nat.le_of_ble_eq_true rfl)
  rw [lg_entry_eq]
  generalize (lg_sl ([.ref m0, .int p0]) ++ List.replicate (2 - (lg_sl ([.ref m0, .int p0])).length) Slot.unset).toArray = ls at hl ⊢
  have hl : lv_has ls 2 [(0, .ref m0), (1, .int p0)] := hl
  refine lv_iload_n hx hb dX6_left_0 rfl (lv_at hl 1 rfl) ?_
  refine lv_i2l (v := p0.toInt64) hx hb dX6_left_1 rfl ?_
  refine lv_lconst (v := 0) hx hb dX6_left_2 (by decide) ?_
  refine lv_ldc2 hx hb hown (hts _ wd_X6_left_0) dX6_left_3 ?_
  have hPc := hP.sub (ws' := []) [] rfl
  refine vp_callSi (W.runS (As := [.long p0.toInt64, .long 0, .long 10]) (rest := []) ⟨hx, hb, hml, hown, hts⟩ (c_X6_in l D cI cJ cQ p0.toInt64 0 10) (va_cwS 3 hts gX6_left_X6_in rfl rfl rfl (by decide +kernel) ⟨Nat.le_of_ble_eq_true rfl, Nat.le_of_ble_eq_true rfl⟩) (rP_preS hPc hK) rfl rfl hl.1 rfl (lv_room (Nat.le_of_ble_eq_true rfl)) dX6_left_6 ⟨Nat.le_of_ble_eq_true rfl, Nat.le_of_ble_eq_true rfl⟩) (fun r_1 hr_1 => ?_)
  subst hr_1
  refine lv_if_ne (tgt := 16) hx hb dX6_left_9 (by decide) (fun c9_2 => ?_) (fun c9_2 => ?_)
  · skip
    refine lv_iload_n hx hb dX6_left_16 rfl (lv_at hl 1 rfl) ?_
    refine lv_if_ne (tgt := 27) hx hb dX6_left_17 (by decide) (fun c17_3 => ?_) (fun c17_3 => ?_)
    · skip
      refine lv_aload_n hx hb dX6_left_27 rfl (lv_at hl 0 rfl) ?_
      refine va_get (D := D) (ci := 6) (v := .ref ms) (C := RX6) (T := TX6) (N := 39) hx hb hts in_X6_left_X6 hown hK hP 0 rfl rfl 0 (by decide) (hts _ wd_X6_left_1) (fun _ h9 => h9) rfl dX6_left_28 ?_
      refine lv_iload_n hx hb dX6_left_31 rfl (lv_at hl 1 rfl) ?_
      refine va_iald hx hb hK hP 1 0 rfl rfl (left_in c9_2) dX6_left_32 ?_
      refine lv_topi (fun z_4 ez_4 => ?_)
      obtain rfl : z_4 = 0 := ez_4
      exact W.iret (v := 0) hx hb hr (fun t ht hW => ⟨_, rfl, (by unfold leftM; first | (simp [c9_2, c17_3]; done) | ((try first | rw [if_pos c9_2] | rw [if_neg c9_2]); (try first | rw [if_pos c17_3] | rw [if_neg c17_3]); first | done | rfl | trivial)), ht⟩) (fun q hq => absurd hq List.not_mem_nil) dX6_left_33
    · skip
      refine lv_aload_n hx hb dX6_left_20 rfl (lv_at hl 0 rfl) ?_
      have hPc := hP.sub (ws' := [(m0, .inr (6, [.ref ms, .ref mf, .ref mw, .ref mk, .int 0, .ref mh, .int 0, .int 0, .int 21, .int 17, .int 0, .int 1, .int 1, .int 1, .int 3, .long 1, .int 0, .ref q0, .ref q1, .ref q2, .int 0, .ref q3, .ref q4, .ref q5, .ref q6, .ref q7, .int 0, .int 0, .int 0, .int 0, .int 0, .int 0, .int 0, .int 0, .int 0, .ref k0, .ref k1, .ref k2, .ref k3])), (ms, .inl (cI, 11, .inl (fun _ => 0)))]) [0, 1] rfl
      refine vp_callSi (W.runV (As := []) (rest := []) ⟨hx, hb, hml, hown, hts⟩ (c_X6_all l D cI cJ cQ m0 ms mf mw mk mh q0 q1 q2 q3 q4 q5 q6 q7 k0 k1 k2 k3) (cwV 0 hts gX6_left_X6_all rfl rfl rfl (by decide +kernel) ⟨Nat.le_of_ble_eq_true rfl, Nat.le_of_ble_eq_true rfl⟩) (rP_preV (ci := 6) (q0 := 0) hPc hK rfl rfl) rfl rfl hl.1 rfl (lv_room (Nat.le_of_ble_eq_true rfl)) dX6_left_21 ⟨Nat.le_of_ble_eq_true rfl, Nat.le_of_ble_eq_true rfl⟩) (fun r_5 hr_5 => ?_)
      subst hr_5
      refine lv_goto (tgt := 33) hx hb dX6_left_24 (by decide) ?_
      exact W.iret (v := 0) hx hb hr (fun t ht hW => ⟨_, rfl, (by unfold leftM; first | (simp [c9_2, c17_3]; done) | ((try first | rw [if_pos c9_2] | rw [if_neg c9_2]); (try first | rw [if_pos c17_3] | rw [if_neg c17_3]); first | done | rfl | trivial)), ht⟩) (fun q hq => absurd hq List.not_mem_nil) dX6_left_33
  · skip
    refine lv_sipush (v := (-1001)) hx hb dX6_left_12 (by decide) ?_
    exact W.iret (v := (-1001)) hx hb hr (fun t ht hW => ⟨_, rfl, (by unfold leftM; first | (simp [c9_2]; done) | ((try first | rw [if_pos c9_2] | rw [if_neg c9_2]); first | done | rfl | trivial)), ht⟩) (fun q hq => absurd hq List.not_mem_nil) dX6_left_15

set_option maxRecDepth 20000 in
theorem wd_X6_take_0 : Cond.constantLong RX6 86 (10) ∈ wsX6_take := by decide +kernel
set_option maxRecDepth 20000 in
theorem ggX6_take_X6_in : GoodIn wsX6_take wsX6_in := goodIn_r _ [8] (by decide +kernel) (by decide +kernel)
set_option maxRecDepth 20000 in
theorem gX6_take_X6_in : GoodIn wsX6_take (va_wsS RX6 88 yX6_in wsX6_in) := goodIn_app (goodIn_of _ (by decide +kernel)) ggX6_take_X6_in
set_option maxRecDepth 20000 in
theorem wd_X6_take_1 : Cond.constantLong RX6 112 (2) ∈ wsX6_take := by decide +kernel
set_option maxRecDepth 20000 in
theorem in_X6_take_X6 : ∀ w ∈ wsX60, w ∈ wsX6_take := by decide +kernel
set_option maxRecDepth 20000 in
theorem wd_X6_take_2 : Cond.fieldLink RX6 7 "ShoeTableModel" "shoe" "[I" ∈ wsX6_take := by decide +kernel
set_option maxHeartbeats 400000 in
set_option maxRecDepth 100000 in
/-- X6_take -/
theorem c_X6_take (l : Launch) (D : va_G) (cI cJ cQ : ClassId) (m0 : Nat) (ms : Nat) (mf : Nat) (mw : Nat) (mk : Nat) (mh : Nat) (q0 : Nat) (q1 : Nat) (q2 : Nat) (q3 : Nat) (q4 : Nat) (q5 : Nat) (q6 : Nat) (q7 : Nat) (k0 : Nat) (k1 : Nat) (k2 : Nat) (k3 : Nat) (p0 : Int32) (p1 : Int32)  : Met l yX6_take wsX6_take ({ frames := 1, cells := 0, slots := 0, locals := 25 }) (va_Pc [.ref m0, .int p0, .int p1] (rP D (gTy cI cJ cQ) [(m0, .inr (6, [.ref ms, .ref mf, .ref mw, .ref mk, .int 0, .ref mh, .int 0, .int 0, .int 21, .int 17, .int 0, .int 1, .int 1, .int 1, .int 3, .long 1, .int 0, .ref q0, .ref q1, .ref q2, .int 0, .ref q3, .ref q4, .ref q5, .ref q6, .ref q7, .int 0, .int 0, .int 0, .int 0, .int 0, .int 0, .int 0, .int 0, .int 0, .ref k0, .ref k1, .ref k2, .ref k3])), (ms, .inl (cI, 11, .inl (fun _ => 0)))])) (vp_Si (fun r => r = takeM p0 p1)) 0 0 (fun _ => False) := by
  refine Met.ofW (cc := cX6_take) (maxL := 3) (ret := (some .int)) (by decide) rfl ?_
  intro p e s m args below meth c s₁ B hml hv
  obtain ⟨rfl, hP, hK⟩ := hv
  have hx := B.exec
  have hb := B.bytes
  have hr := B.returns
  have hts := atoms_spec (ws := wsX6_take) B.pre
  have hown : s.vm.findClass RX6 = some m.cls := findClass_of_methodNamed B.named
  have hlocks := B.notSynchronized
  have hl := lv_entry ([.ref m0, .int p0, .int p1]) (n := 3) (Nat.le_of_ble_eq_true rfl)
  rw [lg_entry_eq]
  generalize (lg_sl ([.ref m0, .int p0, .int p1]) ++ List.replicate (3 - (lg_sl ([.ref m0, .int p0, .int p1])).length) Slot.unset).toArray = ls at hl ⊢
  have hl : lv_has ls 3 [(0, .ref m0), (1, .int p0), (2, .int p1)] := hl
  refine lv_iload_n hx hb dX6_take_0 rfl (lv_at hl 1 rfl) ?_
  refine lv_i2l (v := p0.toInt64) hx hb dX6_take_1 rfl ?_
  refine lv_lconst (v := 1) hx hb dX6_take_2 (by decide) ?_
  refine lv_ldc2 hx hb hown (hts _ wd_X6_take_0) dX6_take_3 ?_
  have hPc := hP.sub (ws' := []) [] rfl
  refine vp_callSi (W.runS (As := [.long p0.toInt64, .long 1, .long 10]) (rest := []) ⟨hx, hb, hml, hown, hts⟩ (c_X6_in l D cI cJ cQ p0.toInt64 1 10) (va_cwS 3 hts gX6_take_X6_in rfl rfl rfl (by decide +kernel) ⟨Nat.le_of_ble_eq_true rfl, Nat.le_of_ble_eq_true rfl⟩) (rP_preS hPc hK) rfl rfl hl.1 rfl (lv_room (Nat.le_of_ble_eq_true rfl)) dX6_take_6 ⟨Nat.le_of_ble_eq_true rfl, Nat.le_of_ble_eq_true rfl⟩) (fun r_1 hr_1 => ?_)
  subst hr_1
  refine lv_if_eq (tgt := 24) hx hb dX6_take_9 (by decide) (fun c9_2 => ?_) (fun c9_2 => ?_)
  · skip
    refine lv_sipush (v := (-1001)) hx hb dX6_take_24 (by decide) ?_
    exact W.iret (v := (-1001)) hx hb hr (fun t ht hW => ⟨_, rfl, (by unfold takeM; first | (simp [c9_2]; done) | ((try first | rw [if_pos c9_2] | rw [if_neg c9_2]); first | done | rfl | trivial)), ht⟩) (fun q hq => absurd hq List.not_mem_nil) dX6_take_27
  · skip
    refine lv_iload_n hx hb dX6_take_12 rfl (lv_at hl 2 rfl) ?_
    refine lv_i2l (v := p1.toInt64) hx hb dX6_take_13 rfl ?_
    refine lv_lconst (v := 0) hx hb dX6_take_14 (by decide) ?_
    refine lv_ldc2 hx hb hown (hts _ wd_X6_take_1) dX6_take_15 ?_
    have hPc := hP.sub (ws' := []) [] rfl
    refine vp_callSi (W.runS (As := [.long p1.toInt64, .long 0, .long 2]) (rest := []) ⟨hx, hb, hml, hown, hts⟩ (c_X6_in l D cI cJ cQ p1.toInt64 0 2) (va_cwS 3 hts gX6_take_X6_in rfl rfl rfl (by decide +kernel) ⟨Nat.le_of_ble_eq_true rfl, Nat.le_of_ble_eq_true rfl⟩) (rP_preS hPc hK) rfl rfl hl.1 rfl (lv_room (Nat.le_of_ble_eq_true rfl)) dX6_take_18 ⟨Nat.le_of_ble_eq_true rfl, Nat.le_of_ble_eq_true rfl⟩) (fun r_3 hr_3 => ?_)
    subst hr_3
    refine lv_if_ne (tgt := 28) hx hb dX6_take_21 (by decide) (fun c21_4 => ?_) (fun c21_4 => ?_)
    · skip
      refine lv_aload_n hx hb dX6_take_28 rfl (lv_at hl 0 rfl) ?_
      refine va_get (D := D) (ci := 6) (v := .ref ms) (C := RX6) (T := TX6) (N := 39) hx hb hts in_X6_take_X6 hown hK hP 0 rfl rfl 0 (by decide) (hts _ wd_X6_take_2) (fun _ h9 => h9) rfl dX6_take_29 ?_
      refine lv_iload_n hx hb dX6_take_32 rfl (lv_at hl 1 rfl) ?_
      refine va_iald hx hb hK hP 1 0 rfl rfl (rkB_in (by rw [← in_rk]; exact c9_2)) dX6_take_33 ?_
      refine lv_topi (fun z_5 ez_5 => ?_)
      obtain rfl : z_5 = 0 := ez_5
      refine lv_if_ne (tgt := 41) hx hb dX6_take_34 (by decide) (fun c34_6 => ?_) (fun c34_6 => ?_)
      · exact absurd c34_6 (by decide)
      refine lv_sipush (v := (-1002)) hx hb dX6_take_37 (by decide) ?_
      exact W.iret (v := (-1002)) hx hb hr (fun t ht hW => ⟨_, rfl, (by unfold takeM; first | (simp [c9_2, c21_4]; done) | ((try first | rw [if_pos c9_2] | rw [if_neg c9_2]); (try first | rw [if_pos c21_4] | rw [if_neg c21_4]); first | done | rfl | trivial)), ht⟩) (fun q hq => absurd hq List.not_mem_nil) dX6_take_40
    · skip
      refine lv_sipush (v := (-1001)) hx hb dX6_take_24 (by decide) ?_
      exact W.iret (v := (-1001)) hx hb hr (fun t ht hW => ⟨_, rfl, (by unfold takeM; first | (simp [c9_2, c21_4]; done) | ((try first | rw [if_pos c9_2] | rw [if_neg c9_2]); (try first | rw [if_pos c21_4] | rw [if_neg c21_4]); first | done | rfl | trivial)), ht⟩) (fun q hq => absurd hq List.not_mem_nil) dX6_take_27

set_option maxRecDepth 20000 in
theorem wd_X6_draw_0 : Cond.constantLong RX6 112 (2) ∈ wsX6_draw := by decide +kernel
set_option maxRecDepth 20000 in
theorem ggX6_draw_X6_in : GoodIn wsX6_draw wsX6_in := goodIn_r _ [6] (by decide +kernel) (by decide +kernel)
set_option maxRecDepth 20000 in
theorem gX6_draw_X6_in : GoodIn wsX6_draw (va_wsS RX6 88 yX6_in wsX6_in) := goodIn_app (goodIn_of _ (by decide +kernel)) ggX6_draw_X6_in
set_option maxRecDepth 20000 in
theorem ggX6_draw_X6_all : GoodIn wsX6_draw wsX6_all := goodIn_r _ [10, 11, 26, 27, 28, 29, 30, 31, 32, 33, 34, 35, 36, 37, 38, 39, 40, 41, 42, 43, 44, 45, 46, 47, 48, 49, 50, 51, 52, 53, 54, 55, 56, 57, 58, 59, 60, 61, 62, 63, 64] (by decide +kernel) (by decide +kernel)
set_option maxRecDepth 20000 in
theorem gX6_draw_X6_all : GoodIn wsX6_draw (wsV RX6 104 RX6 yX6_all wsX6_all) := goodIn_app (goodIn_of _ (by decide +kernel)) ggX6_draw_X6_all
set_option maxHeartbeats 400000 in
set_option maxRecDepth 100000 in
/-- X6_draw -/
theorem c_X6_draw (l : Launch) (D : va_G) (cI cJ cQ : ClassId) (m0 : Nat) (ms : Nat) (mf : Nat) (mw : Nat) (mk : Nat) (mh : Nat) (q0 : Nat) (q1 : Nat) (q2 : Nat) (q3 : Nat) (q4 : Nat) (q5 : Nat) (q6 : Nat) (q7 : Nat) (k0 : Nat) (k1 : Nat) (k2 : Nat) (k3 : Nat) (p0 : Int32)  : Met l yX6_draw wsX6_draw ({ frames := 1, cells := 0, slots := 0, locals := 25 }) (va_Pc [.ref m0, .int p0] (rP D (gTy cI cJ cQ) [(m0, .inr (6, [.ref ms, .ref mf, .ref mw, .ref mk, .int 0, .ref mh, .int 0, .int 0, .int 21, .int 17, .int 0, .int 1, .int 1, .int 1, .int 3, .long 1, .int 0, .ref q0, .ref q1, .ref q2, .int 0, .ref q3, .ref q4, .ref q5, .ref q6, .ref q7, .int 0, .int 0, .int 0, .int 0, .int 0, .int 0, .int 0, .int 0, .int 0, .ref k0, .ref k1, .ref k2, .ref k3])), (ms, .inl (cI, 11, .inl (fun _ => 0)))])) (vp_Si (fun r => r = drawM p0)) 0 0 (fun _ => False) := by
  refine Met.ofW (cc := cX6_draw) (maxL := 3) (ret := (some .int)) (by decide) rfl ?_
  intro p e s m args below meth c s₁ B hml hv
  obtain ⟨rfl, hP, hK⟩ := hv
  have hx := B.exec
  have hb := B.bytes
  have hr := B.returns
  have hts := atoms_spec (ws := wsX6_draw) B.pre
  have hown : s.vm.findClass RX6 = some m.cls := findClass_of_methodNamed B.named
  have hlocks := B.notSynchronized
  have hl := lv_entry ([.ref m0, .int p0]) (n := 3) (Nat.le_of_ble_eq_true rfl)
  rw [lg_entry_eq]
  generalize (lg_sl ([.ref m0, .int p0]) ++ List.replicate (3 - (lg_sl ([.ref m0, .int p0])).length) Slot.unset).toArray = ls at hl ⊢
  have hl : lv_has ls 3 [(0, .ref m0), (1, .int p0)] := hl
  refine lv_iload_n hx hb dX6_draw_0 rfl (lv_at hl 1 rfl) ?_
  refine lv_i2l (v := p0.toInt64) hx hb dX6_draw_1 rfl ?_
  refine lv_lconst (v := 0) hx hb dX6_draw_2 (by decide) ?_
  refine lv_ldc2 hx hb hown (hts _ wd_X6_draw_0) dX6_draw_3 ?_
  have hPc := hP.sub (ws' := []) [] rfl
  refine vp_callSi (W.runS (As := [.long p0.toInt64, .long 0, .long 2]) (rest := []) ⟨hx, hb, hml, hown, hts⟩ (c_X6_in l D cI cJ cQ p0.toInt64 0 2) (va_cwS 3 hts gX6_draw_X6_in rfl rfl rfl (by decide +kernel) ⟨Nat.le_of_ble_eq_true rfl, Nat.le_of_ble_eq_true rfl⟩) (rP_preS hPc hK) rfl rfl hl.1 rfl (lv_room (Nat.le_of_ble_eq_true rfl)) dX6_draw_6 ⟨Nat.le_of_ble_eq_true rfl, Nat.le_of_ble_eq_true rfl⟩) (fun r_1 hr_1 => ?_)
  subst hr_1
  refine lv_if_ne (tgt := 16) hx hb dX6_draw_9 (by decide) (fun c9_2 => ?_) (fun c9_2 => ?_)
  · skip
    refine lv_aload_n hx hb dX6_draw_16 rfl (lv_at hl 0 rfl) ?_
    have hPc := hP.sub (ws' := [(m0, .inr (6, [.ref ms, .ref mf, .ref mw, .ref mk, .int 0, .ref mh, .int 0, .int 0, .int 21, .int 17, .int 0, .int 1, .int 1, .int 1, .int 3, .long 1, .int 0, .ref q0, .ref q1, .ref q2, .int 0, .ref q3, .ref q4, .ref q5, .ref q6, .ref q7, .int 0, .int 0, .int 0, .int 0, .int 0, .int 0, .int 0, .int 0, .int 0, .ref k0, .ref k1, .ref k2, .ref k3])), (ms, .inl (cI, 11, .inl (fun _ => 0)))]) [0, 1] rfl
    refine vp_callSi (W.runV (As := []) (rest := []) ⟨hx, hb, hml, hown, hts⟩ (c_X6_all l D cI cJ cQ m0 ms mf mw mk mh q0 q1 q2 q3 q4 q5 q6 q7 k0 k1 k2 k3) (cwV 0 hts gX6_draw_X6_all rfl rfl rfl (by decide +kernel) ⟨Nat.le_of_ble_eq_true rfl, Nat.le_of_ble_eq_true rfl⟩) (rP_preV (ci := 6) (q0 := 0) hPc hK rfl rfl) rfl rfl hl.1 rfl (lv_room (Nat.le_of_ble_eq_true rfl)) dX6_draw_17 ⟨Nat.le_of_ble_eq_true rfl, Nat.le_of_ble_eq_true rfl⟩) (fun r_3 hr_3 => ?_)
    subst hr_3
    refine lv_if_ne (tgt := 27) hx hb dX6_draw_20 (by decide) (fun c20_4 => ?_) (fun c20_4 => ?_)
    · exact absurd c20_4 (by decide)
    refine lv_sipush (v := (-1002)) hx hb dX6_draw_23 (by decide) ?_
    exact W.iret (v := (-1002)) hx hb hr (fun t ht hW => ⟨_, rfl, (by unfold drawM; first | (simp [c9_2]; done) | ((try first | rw [if_pos c9_2] | rw [if_neg c9_2]); first | done | rfl | trivial)), ht⟩) (fun q hq => absurd hq List.not_mem_nil) dX6_draw_26
  · skip
    refine lv_sipush (v := (-1001)) hx hb dX6_draw_12 (by decide) ?_
    exact W.iret (v := (-1001)) hx hb hr (fun t ht hW => ⟨_, rfl, (by unfold drawM; first | (simp [c9_2]; done) | ((try first | rw [if_pos c9_2] | rw [if_neg c9_2]); first | done | rfl | trivial)), ht⟩) (fun q hq => absurd hq List.not_mem_nil) dX6_draw_15

set_option maxRecDepth 20000 in
theorem in_X6_seed_X6 : ∀ w ∈ wsX60, w ∈ wsX6_seed := by decide +kernel
set_option maxRecDepth 20000 in
theorem wd_X6_seed_0 : Cond.fieldLink RX6 44 "ShoeTableModel" "draw" "J" ∈ wsX6_seed := by decide +kernel
set_option maxHeartbeats 400000 in
set_option maxRecDepth 100000 in
/-- X6_seed -/
theorem c_X6_seed (l : Launch) (D : va_G) (cI cJ cQ : ClassId) (sz : Nat) (m0 : Nat) (ms : Nat) (mf : Nat) (mw : Nat) (mk : Nat) (mh : Nat) (q0 : Nat) (q1 : Nat) (q2 : Nat) (q3 : Nat) (q4 : Nat) (q5 : Nat) (q6 : Nat) (q7 : Nat) (k0 : Nat) (k1 : Nat) (k2 : Nat) (k3 : Nat) (p0 : Int32)  : Met l yX6_seed wsX6_seed ({ frames := 0, cells := 0, slots := 0, locals := 0 }) (va_Pc [.ref m0, .int p0] (mP D (gTy cI cJ cQ) [(m0, .inr (6, [.ref ms, .ref mf, .ref mw, .ref mk, .int 0, .ref mh, .int 0, .int 0, .int 21, .int 17, .int 0, .int 1, .int 1, .int 1, .int 3, .long 1, .int 0, .ref q0, .ref q1, .ref q2, .int 0, .ref q3, .ref q4, .ref q5, .ref q6, .ref q7, .int 0, .int 0, .int 0, .int 0, .int 0, .int 0, .int 0, .int 0, .int 0, .ref k0, .ref k1, .ref k2, .ref k3]))] sz)) (va_Qi (fun (r : Int32) (u : Unit) => match u with | _ => r = 1) (fun (u : Unit) t => match u with | _ => mB D (gTy cI cJ cQ) (va_A [(m0, .inr (6, [.ref ms, .ref mf, .ref mw, .ref mk, .int 0, .ref mh, .int 0, .int 0, .int 21, .int 17, .int 0, .int 1, .int 1, .int 1, .int 3, .long 1, .int 0, .ref q0, .ref q1, .ref q2, .int 0, .ref q3, .ref q4, .ref q5, .ref q6, .ref q7, .int 0, .int 0, .int 0, .int 0, .int 0, .int 0, .int 0, .int 0, .int 0, .ref k0, .ref k1, .ref k2, .ref k3]))] sz) [] t) (va_A [(m0, .inr (6, [.ref ms, .ref mf, .ref mw, .ref mk, .int 0, .ref mh, .int 0, .int 0, .int 21, .int 17, .int 0, .int 1, .int 1, .int 1, .int 3, .long 1, .int 0, .ref q0, .ref q1, .ref q2, .int 0, .ref q3, .ref q4, .ref q5, .ref q6, .ref q7, .int 0, .int 0, .int 0, .int 0, .int 0, .int 0, .int 0, .int 0, .int 0, .ref k0, .ref k1, .ref k2, .ref k3]))] sz)) 0 0 (va_A [(m0, .inr (6, [.ref ms, .ref mf, .ref mw, .ref mk, .int 0, .ref mh, .int 0, .int 0, .int 21, .int 17, .int 0, .int 1, .int 1, .int 1, .int 3, .long 1, .int 0, .ref q0, .ref q1, .ref q2, .int 0, .ref q3, .ref q4, .ref q5, .ref q6, .ref q7, .int 0, .int 0, .int 0, .int 0, .int 0, .int 0, .int 0, .int 0, .int 0, .ref k0, .ref k1, .ref k2, .ref k3]))] sz) := by
  refine Met.ofW (cc := cX6_seed) (maxL := 2) (ret := (some .int)) (by decide) rfl ?_
  intro p e s m args below meth c s₁ B hml hv
  obtain ⟨rfl, hsz, hP, hK, hD0⟩ := hv
  have hx := B.exec
  have hb := B.bytes
  have hr := B.returns
  have hts := atoms_spec (ws := wsX6_seed) B.pre
  have hown : s.vm.findClass RX6 = some m.cls := findClass_of_methodNamed B.named
  have hlocks := B.notSynchronized
  subst hsz
  have hD := hD0.self (sz := s.heap.size)
  generalize hAe : va_A [(m0, .inr (6, [.ref ms, .ref mf, .ref mw, .ref mk, .int 0, .ref mh, .int 0, .int 0, .int 21, .int 17, .int 0, .int 1, .int 1, .int 1, .int 3, .long 1, .int 0, .ref q0, .ref q1, .ref q2, .int 0, .ref q3, .ref q4, .ref q5, .ref q6, .ref q7, .int 0, .int 0, .int 0, .int 0, .int 0, .int 0, .int 0, .int 0, .int 0, .ref k0, .ref k1, .ref k2, .ref k3]))] s.heap.size = A at hD ⊢
  have hA : ∀ q : Nat, s.heap.size ≤ q → A q := fun q h => by rw [← hAe]; exact Or.inr h
  have hS : va_S A s.heap s.heap [] := va_S.rf
  have hP : va_P D vwCl [(m0, .inr (6, [.ref ms, .ref mf, .ref mw, .ref mk, .int 0, .ref mh, .int 0, .int 0, .int 21, .int 17, .int 0, .int 1, .int 1, .int 1, .int 3, .long 1, .int 0, .ref q0, .ref q1, .ref q2, .int 0, .ref q3, .ref q4, .ref q5, .ref q6, .ref q7, .int 0, .int 0, .int 0, .int 0, .int 0, .int 0, .int 0, .int 0, .int 0, .ref k0, .ref k1, .ref k2, .ref k3]))] s.heap := hP
  have hl := lv_entry ([.ref m0, .int p0]) (n := 2) (Nat.le_of_ble_eq_true rfl)
  rw [lg_entry_eq]
  generalize (lg_sl ([.ref m0, .int p0]) ++ List.replicate (2 - (lg_sl ([.ref m0, .int p0])).length) Slot.unset).toArray = ls at hl ⊢
  have hl : lv_has ls 2 [(0, .ref m0), (1, .int p0)] := hl
  refine lv_aload_n hx hb dX6_seed_0 rfl (lv_at hl 0 rfl) ?_
  refine lv_iload_n hx hb dX6_seed_1 rfl (lv_at hl 1 rfl) ?_
  refine lv_i2l (v := p0.toInt64) hx hb dX6_seed_2 rfl ?_
  refine va_put (D := D) (ci := 6) (v := .long p0.toInt64) (ty := .long) (C := RX6) (T := TX6) (N := 39) hx hb hts in_X6_seed_X6 tyX6 tyX6_ok nmX6 hown hK hP hD hS 0 rfl rfl 15 (by decide) (hts _ wd_X6_seed_0) (fun _ h9 => h9) rfl (by decide +kernel) rfl rfl (Nat.le_of_ble_eq_true rfl) dX6_seed_3 (fun H locs hP hD hS => ?_)
  have hP : va_P D vwCl [(m0, .inr (6, [.ref ms, .ref mf, .ref mw, .ref mk, .int 0, .ref mh, .int 0, .int 0, .int 21, .int 17, .int 0, .int 1, .int 1, .int 1, .int 3, .long p0.toInt64, .int 0, .ref q0, .ref q1, .ref q2, .int 0, .ref q3, .ref q4, .ref q5, .ref q6, .ref q7, .int 0, .int 0, .int 0, .int 0, .int 0, .int 0, .int 0, .int 0, .int 0, .ref k0, .ref k1, .ref k2, .ref k3]))] H := hP
  have hD : va_D A [(m0, .inr (6, [.ref ms, .ref mf, .ref mw, .ref mk, .int 0, .ref mh, .int 0, .int 0, .int 21, .int 17, .int 0, .int 1, .int 1, .int 1, .int 3, .long p0.toInt64, .int 0, .ref q0, .ref q1, .ref q2, .int 0, .ref q3, .ref q4, .ref q5, .ref q6, .ref q7, .int 0, .int 0, .int 0, .int 0, .int 0, .int 0, .int 0, .int 0, .int 0, .ref k0, .ref k1, .ref k2, .ref k3]))] := hD
  refine lv_iconst (v := 1) hx hb dX6_seed_6 (by decide) ?_
  have hP9 := hP.sub (ws' := []) [] rfl
  have hD9 := hD.sub (ws' := []) [] (by decide) rfl
  exact W.iret (v := 1) hx hb hr (fun t ht hW => ⟨⟨1, (), rfl, (by first | rfl | trivial | (simp []; done) | rfl | (simp_all; done)), by rw [ht]; exact hP9, va_K.moved hW.alike hK, hD9⟩, hS.F ht⟩) hS.2.2 dX6_seed_7

set_option maxRecDepth 20000 in
theorem in_X6_lay_X6 : ∀ w ∈ wsX60, w ∈ wsX6_lay := by decide +kernel
set_option maxRecDepth 20000 in
theorem wd_X6_lay_0 : Cond.fieldLink RX6 98 "ShoeTableModel" "hands" "I" ∈ wsX6_lay := by decide +kernel
set_option maxRecDepth 20000 in
theorem wd_X6_lay_1 : Cond.fieldLink RX6 101 "ShoeTableModel" "up" "I" ∈ wsX6_lay := by decide +kernel
set_option maxHeartbeats 400000 in
set_option maxRecDepth 100000 in
/-- X6_lay -/
theorem c_X6_lay (l : Launch) (D : va_G) (cI cJ cQ : ClassId) (sz : Nat) (m0 : Nat) (ms : Nat) (mf : Nat) (mw : Nat) (mk : Nat) (mh : Nat) (q0 : Nat) (q1 : Nat) (q2 : Nat) (q3 : Nat) (q4 : Nat) (q5 : Nat) (q6 : Nat) (q7 : Nat) (k0 : Nat) (k1 : Nat) (k2 : Nat) (k3 : Nat)  : Met l yX6_lay wsX6_lay ({ frames := 0, cells := 0, slots := 0, locals := 0 }) (va_Pc [.ref m0] (mP D (gTy cI cJ cQ) [(m0, .inr (6, [.ref ms, .ref mf, .ref mw, .ref mk, .int 0, .ref mh, .int 0, .int 0, .int 21, .int 17, .int 0, .int 1, .int 1, .int 1, .int 3, .long 1, .int 0, .ref q0, .ref q1, .ref q2, .int 0, .ref q3, .ref q4, .ref q5, .ref q6, .ref q7, .int 0, .int 0, .int 0, .int 0, .int 0, .int 0, .int 0, .int 0, .int 0, .ref k0, .ref k1, .ref k2, .ref k3]))] sz)) (va_Qi (fun (r : Int32) (u : Unit) => match u with | _ => r = 0) (fun (u : Unit) t => match u with | _ => mB D (gTy cI cJ cQ) (va_A [(m0, .inr (6, [.ref ms, .ref mf, .ref mw, .ref mk, .int 0, .ref mh, .int 0, .int 0, .int 21, .int 17, .int 0, .int 1, .int 1, .int 1, .int 3, .long 1, .int 0, .ref q0, .ref q1, .ref q2, .int 0, .ref q3, .ref q4, .ref q5, .ref q6, .ref q7, .int 0, .int 0, .int 0, .int 0, .int 0, .int 0, .int 0, .int 0, .int 0, .ref k0, .ref k1, .ref k2, .ref k3]))] sz) [] t) (va_A [(m0, .inr (6, [.ref ms, .ref mf, .ref mw, .ref mk, .int 0, .ref mh, .int 0, .int 0, .int 21, .int 17, .int 0, .int 1, .int 1, .int 1, .int 3, .long 1, .int 0, .ref q0, .ref q1, .ref q2, .int 0, .ref q3, .ref q4, .ref q5, .ref q6, .ref q7, .int 0, .int 0, .int 0, .int 0, .int 0, .int 0, .int 0, .int 0, .int 0, .ref k0, .ref k1, .ref k2, .ref k3]))] sz)) 0 0 (va_A [(m0, .inr (6, [.ref ms, .ref mf, .ref mw, .ref mk, .int 0, .ref mh, .int 0, .int 0, .int 21, .int 17, .int 0, .int 1, .int 1, .int 1, .int 3, .long 1, .int 0, .ref q0, .ref q1, .ref q2, .int 0, .ref q3, .ref q4, .ref q5, .ref q6, .ref q7, .int 0, .int 0, .int 0, .int 0, .int 0, .int 0, .int 0, .int 0, .int 0, .ref k0, .ref k1, .ref k2, .ref k3]))] sz) := by
  refine Met.ofW (cc := cX6_lay) (maxL := 2) (ret := (some .int)) (by decide) rfl ?_
  intro p e s m args below meth c s₁ B hml hv
  obtain ⟨rfl, hsz, hP, hK, hD0⟩ := hv
  have hx := B.exec
  have hb := B.bytes
  have hr := B.returns
  have hts := atoms_spec (ws := wsX6_lay) B.pre
  have hown : s.vm.findClass RX6 = some m.cls := findClass_of_methodNamed B.named
  have hlocks := B.notSynchronized
  subst hsz
  have hD := hD0.self (sz := s.heap.size)
  generalize hAe : va_A [(m0, .inr (6, [.ref ms, .ref mf, .ref mw, .ref mk, .int 0, .ref mh, .int 0, .int 0, .int 21, .int 17, .int 0, .int 1, .int 1, .int 1, .int 3, .long 1, .int 0, .ref q0, .ref q1, .ref q2, .int 0, .ref q3, .ref q4, .ref q5, .ref q6, .ref q7, .int 0, .int 0, .int 0, .int 0, .int 0, .int 0, .int 0, .int 0, .int 0, .ref k0, .ref k1, .ref k2, .ref k3]))] s.heap.size = A at hD ⊢
  have hA : ∀ q : Nat, s.heap.size ≤ q → A q := fun q h => by rw [← hAe]; exact Or.inr h
  have hS : va_S A s.heap s.heap [] := va_S.rf
  have hP : va_P D vwCl [(m0, .inr (6, [.ref ms, .ref mf, .ref mw, .ref mk, .int 0, .ref mh, .int 0, .int 0, .int 21, .int 17, .int 0, .int 1, .int 1, .int 1, .int 3, .long 1, .int 0, .ref q0, .ref q1, .ref q2, .int 0, .ref q3, .ref q4, .ref q5, .ref q6, .ref q7, .int 0, .int 0, .int 0, .int 0, .int 0, .int 0, .int 0, .int 0, .int 0, .ref k0, .ref k1, .ref k2, .ref k3]))] s.heap := hP
  have hl := lv_entry ([.ref m0]) (n := 2) (Nat.le_of_ble_eq_true rfl)
  rw [lg_entry_eq]
  generalize (lg_sl ([.ref m0]) ++ List.replicate (2 - (lg_sl ([.ref m0])).length) Slot.unset).toArray = ls at hl ⊢
  have hl : lv_has ls 2 [(0, .ref m0)] := hl
  refine lv_aload_n hx hb dX6_lay_0 rfl (lv_at hl 0 rfl) ?_
  refine va_get (D := D) (ci := 6) (v := .int 0) (C := RX6) (T := TX6) (N := 39) hx hb hts in_X6_lay_X6 hown hK hP 0 rfl rfl 6 (by decide) (hts _ wd_X6_lay_0) (fun _ h9 => h9) rfl dX6_lay_1 ?_
  refine lv_aload_n hx hb dX6_lay_4 rfl (lv_at hl 0 rfl) ?_
  refine va_get (D := D) (ci := 6) (v := .int 0) (C := RX6) (T := TX6) (N := 39) hx hb hts in_X6_lay_X6 hown hK hP 0 rfl rfl 7 (by decide) (hts _ wd_X6_lay_1) (fun _ h9 => h9) rfl dX6_lay_5 ?_
  refine lv_if_le (tgt := 15) hx hb dX6_lay_8 (by decide) (fun c8_1 => ?_) (fun c8_1 => ?_)
  · skip
    refine lv_iconst (v := 0) hx hb dX6_lay_15 (by decide) ?_
    refine lv_iadd hx hb dX6_lay_16 ?_
    refine lv_topi (fun z_2 ez_2 => ?_)
    obtain rfl : z_2 = 0 := ez_2.trans (by decide)
    refine lv_istore_n (lv' := [(1, .int 0), (0, .ref m0)]) hx hb dX6_lay_17 rfl hl (by decide) rfl (fun ls hl => ?_)
    refine lv_aload_n hx hb dX6_lay_18 rfl (lv_at hl 1 rfl) ?_
    refine lv_iconst (v := 0) hx hb dX6_lay_19 (by decide) ?_
    refine va_put (D := D) (ci := 6) (v := .int 0) (ty := .int) (C := RX6) (T := TX6) (N := 39) hx hb hts in_X6_lay_X6 tyX6 tyX6_ok nmX6 hown hK hP hD hS 0 rfl rfl 6 (by decide) (hts _ wd_X6_lay_0) (fun _ h9 => h9) rfl (by decide +kernel) rfl rfl (Nat.le_of_ble_eq_true rfl) dX6_lay_20 (fun H locs hP hD hS => ?_)
    have hP : va_P D vwCl [(m0, .inr (6, [.ref ms, .ref mf, .ref mw, .ref mk, .int 0, .ref mh, .int 0, .int 0, .int 21, .int 17, .int 0, .int 1, .int 1, .int 1, .int 3, .long 1, .int 0, .ref q0, .ref q1, .ref q2, .int 0, .ref q3, .ref q4, .ref q5, .ref q6, .ref q7, .int 0, .int 0, .int 0, .int 0, .int 0, .int 0, .int 0, .int 0, .int 0, .ref k0, .ref k1, .ref k2, .ref k3]))] H := hP
    have hD : va_D A [(m0, .inr (6, [.ref ms, .ref mf, .ref mw, .ref mk, .int 0, .ref mh, .int 0, .int 0, .int 21, .int 17, .int 0, .int 1, .int 1, .int 1, .int 3, .long 1, .int 0, .ref q0, .ref q1, .ref q2, .int 0, .ref q3, .ref q4, .ref q5, .ref q6, .ref q7, .int 0, .int 0, .int 0, .int 0, .int 0, .int 0, .int 0, .int 0, .int 0, .ref k0, .ref k1, .ref k2, .ref k3]))] := hD
    refine lv_aload_n hx hb dX6_lay_23 rfl (lv_at hl 1 rfl) ?_
    refine lv_iconst (v := 0) hx hb dX6_lay_24 (by decide) ?_
    refine va_put (D := D) (ci := 6) (v := .int 0) (ty := .int) (C := RX6) (T := TX6) (N := 39) hx hb hts in_X6_lay_X6 tyX6 tyX6_ok nmX6 hown hK hP hD hS 0 rfl rfl 7 (by decide) (hts _ wd_X6_lay_1) (fun _ h9 => h9) rfl (by decide +kernel) rfl rfl (Nat.le_of_ble_eq_true rfl) dX6_lay_25 (fun H locs hP hD hS => ?_)
    have hP : va_P D vwCl [(m0, .inr (6, [.ref ms, .ref mf, .ref mw, .ref mk, .int 0, .ref mh, .int 0, .int 0, .int 21, .int 17, .int 0, .int 1, .int 1, .int 1, .int 3, .long 1, .int 0, .ref q0, .ref q1, .ref q2, .int 0, .ref q3, .ref q4, .ref q5, .ref q6, .ref q7, .int 0, .int 0, .int 0, .int 0, .int 0, .int 0, .int 0, .int 0, .int 0, .ref k0, .ref k1, .ref k2, .ref k3]))] H := hP
    have hD : va_D A [(m0, .inr (6, [.ref ms, .ref mf, .ref mw, .ref mk, .int 0, .ref mh, .int 0, .int 0, .int 21, .int 17, .int 0, .int 1, .int 1, .int 1, .int 3, .long 1, .int 0, .ref q0, .ref q1, .ref q2, .int 0, .ref q3, .ref q4, .ref q5, .ref q6, .ref q7, .int 0, .int 0, .int 0, .int 0, .int 0, .int 0, .int 0, .int 0, .int 0, .ref k0, .ref k1, .ref k2, .ref k3]))] := hD
    refine lv_iload_n hx hb dX6_lay_28 rfl (lv_at hl 0 rfl) ?_
    have hP9 := hP.sub (ws' := []) [] rfl
    have hD9 := hD.sub (ws' := []) [] (by decide) rfl
    exact W.iret (v := 0) hx hb hr (fun t ht hW => ⟨⟨0, (), rfl, (by first | rfl | trivial | (simp [c8_1]; done) | ((try first | rw [if_pos c8_1] | rw [if_neg c8_1]); first | done | rfl | trivial) | (simp_all; done)), by rw [ht]; exact hP9, va_K.moved hW.alike hK, hD9⟩, hS.F ht⟩) hS.2.2 dX6_lay_29
  · exact absurd c8_1 (by decide)

set_option maxRecDepth 20000 in
theorem in_X6_handSum_X6 : ∀ w ∈ wsX60, w ∈ wsX6_handSum := by decide +kernel
set_option maxRecDepth 20000 in
theorem wd_X6_handSum_0 : Cond.fieldLink RX6 98 "ShoeTableModel" "hands" "I" ∈ wsX6_handSum := by decide +kernel
set_option maxHeartbeats 400000 in
set_option maxRecDepth 100000 in
/-- X6_handSum -/
theorem c_X6_handSum (l : Launch) (D : va_G) (cI cJ cQ : ClassId) (m0 : Nat) (mh : Nat) (ms : Nat) (mf : Nat) (mw : Nat) (mk : Nat) (q0 : Nat) (q1 : Nat) (q2 : Nat) (q3 : Nat) (q4 : Nat) (q5 : Nat) (q6 : Nat) (q7 : Nat) (k0 : Nat) (k1 : Nat) (k2 : Nat) (k3 : Nat)  : Met l yX6_handSum wsX6_handSum ({ frames := 0, cells := 0, slots := 0, locals := 0 }) (va_Pc [.ref m0] (rP D (gTy cI cJ cQ) [(m0, .inr (6, [.ref ms, .ref mf, .ref mw, .ref mk, .int 0, .ref mh, .int 0, .int 0, .int 21, .int 17, .int 0, .int 1, .int 1, .int 1, .int 3, .long 1, .int 0, .ref q0, .ref q1, .ref q2, .int 0, .ref q3, .ref q4, .ref q5, .ref q6, .ref q7, .int 0, .int 0, .int 0, .int 0, .int 0, .int 0, .int 0, .int 0, .int 0, .ref k0, .ref k1, .ref k2, .ref k3])), (mh, .inl (cI, 12, .inl (fun _ => 0)))])) (vp_Si (fun r => r = 0)) 0 0 (fun _ => False) := by
  refine Met.ofW (cc := cX6_handSum) (maxL := 3) (ret := (some .int)) (by decide) rfl ?_
  intro p e s m args below meth c s₁ B hml hv
  obtain ⟨rfl, hP, hK⟩ := hv
  have hx := B.exec
  have hb := B.bytes
  have hr := B.returns
  have hts := atoms_spec (ws := wsX6_handSum) B.pre
  have hown : s.vm.findClass RX6 = some m.cls := findClass_of_methodNamed B.named
  have hlocks := B.notSynchronized
  have hl := lv_entry ([.ref m0]) (n := 3) (Nat.le_of_ble_eq_true rfl)
  rw [lg_entry_eq]
  generalize (lg_sl ([.ref m0]) ++ List.replicate (3 - (lg_sl ([.ref m0])).length) Slot.unset).toArray = ls at hl ⊢
  have hl : lv_has ls 3 [(0, .ref m0)] := hl
  refine lv_iconst (v := 0) hx hb dX6_handSum_0 (by decide) ?_
  refine lv_istore_n (lv' := [(1, .int 0), (0, .ref m0)]) hx hb dX6_handSum_1 rfl hl (by decide) rfl (fun ls hl => ?_)
  refine lv_iconst (v := 0) hx hb dX6_handSum_2 (by decide) ?_
  refine lv_istore_n (lv' := [(2, .int 0), (1, .int 0), (0, .ref m0)]) hx hb dX6_handSum_3 rfl hl (by decide) rfl (fun ls hl => ?_)
  refine lv_iload_n hx hb dX6_handSum_4 rfl (lv_at hl 0 rfl) ?_
  refine lv_aload_n hx hb dX6_handSum_5 rfl (lv_at hl 2 rfl) ?_
  refine va_get (D := D) (ci := 6) (v := .int 0) (C := RX6) (T := TX6) (N := 39) hx hb hts in_X6_handSum_X6 hown hK hP 0 rfl rfl 6 (by decide) (hts _ wd_X6_handSum_0) (fun _ h9 => h9) rfl dX6_handSum_6 ?_
  refine lv_icmp_ge (tgt := 27) hx hb dX6_handSum_9 (by decide) (fun c9_1 => ?_) (fun c9_1 => ?_)
  · skip
    refine lv_iload_n hx hb dX6_handSum_27 rfl (lv_at hl 1 rfl) ?_
    exact W.iret (v := 0) hx hb hr (fun t ht hW => ⟨_, rfl, (by first | rfl | trivial | (simp [c9_1]; done) | ((try first | rw [if_pos c9_1] | rw [if_neg c9_1]); first | done | rfl | trivial) | (simp_all; done)), ht⟩) (fun q hq => absurd hq List.not_mem_nil) dX6_handSum_28
  · exact absurd c9_1 (by decide)

set_option maxRecDepth 20000 in
theorem in_X6_handAce_X6 : ∀ w ∈ wsX60, w ∈ wsX6_handAce := by decide +kernel
set_option maxRecDepth 20000 in
theorem wd_X6_handAce_0 : Cond.fieldLink RX6 98 "ShoeTableModel" "hands" "I" ∈ wsX6_handAce := by decide +kernel
set_option maxHeartbeats 400000 in
set_option maxRecDepth 100000 in
/-- X6_handAce -/
theorem c_X6_handAce (l : Launch) (D : va_G) (cI cJ cQ : ClassId) (m0 : Nat) (mh : Nat) (ms : Nat) (mf : Nat) (mw : Nat) (mk : Nat) (q0 : Nat) (q1 : Nat) (q2 : Nat) (q3 : Nat) (q4 : Nat) (q5 : Nat) (q6 : Nat) (q7 : Nat) (k0 : Nat) (k1 : Nat) (k2 : Nat) (k3 : Nat)  : Met l yX6_handAce wsX6_handAce ({ frames := 0, cells := 0, slots := 0, locals := 0 }) (va_Pc [.ref m0] (rP D (gTy cI cJ cQ) [(m0, .inr (6, [.ref ms, .ref mf, .ref mw, .ref mk, .int 0, .ref mh, .int 0, .int 0, .int 21, .int 17, .int 0, .int 1, .int 1, .int 1, .int 3, .long 1, .int 0, .ref q0, .ref q1, .ref q2, .int 0, .ref q3, .ref q4, .ref q5, .ref q6, .ref q7, .int 0, .int 0, .int 0, .int 0, .int 0, .int 0, .int 0, .int 0, .int 0, .ref k0, .ref k1, .ref k2, .ref k3])), (mh, .inl (cI, 12, .inl (fun _ => 0)))])) (vp_Si (fun r => r = 0)) 0 0 (fun _ => False) := by
  refine Met.ofW (cc := cX6_handAce) (maxL := 3) (ret := (some .boolean)) (by decide) rfl ?_
  intro p e s m args below meth c s₁ B hml hv
  obtain ⟨rfl, hP, hK⟩ := hv
  have hx := B.exec
  have hb := B.bytes
  have hr := B.returns
  have hts := atoms_spec (ws := wsX6_handAce) B.pre
  have hown : s.vm.findClass RX6 = some m.cls := findClass_of_methodNamed B.named
  have hlocks := B.notSynchronized
  have hl := lv_entry ([.ref m0]) (n := 3) (Nat.le_of_ble_eq_true rfl)
  rw [lg_entry_eq]
  generalize (lg_sl ([.ref m0]) ++ List.replicate (3 - (lg_sl ([.ref m0])).length) Slot.unset).toArray = ls at hl ⊢
  have hl : lv_has ls 3 [(0, .ref m0)] := hl
  refine lv_iconst (v := 0) hx hb dX6_handAce_0 (by decide) ?_
  refine lv_istore_n (lv' := [(1, .int 0), (0, .ref m0)]) hx hb dX6_handAce_1 rfl hl (by decide) rfl (fun ls hl => ?_)
  refine lv_iconst (v := 0) hx hb dX6_handAce_2 (by decide) ?_
  refine lv_istore_n (lv' := [(2, .int 0), (1, .int 0), (0, .ref m0)]) hx hb dX6_handAce_3 rfl hl (by decide) rfl (fun ls hl => ?_)
  refine lv_iload_n hx hb dX6_handAce_4 rfl (lv_at hl 0 rfl) ?_
  refine lv_aload_n hx hb dX6_handAce_5 rfl (lv_at hl 2 rfl) ?_
  refine va_get (D := D) (ci := 6) (v := .int 0) (C := RX6) (T := TX6) (N := 39) hx hb hts in_X6_handAce_X6 hown hK hP 0 rfl rfl 6 (by decide) (hts _ wd_X6_handAce_0) (fun _ h9 => h9) rfl dX6_handAce_6 ?_
  refine lv_icmp_ge (tgt := 38) hx hb dX6_handAce_9 (by decide) (fun c9_1 => ?_) (fun c9_1 => ?_)
  · skip
    refine lv_iload_n hx hb dX6_handAce_38 rfl (lv_at hl 1 rfl) ?_
    exact W.zret (v := 0) hx hb hr rfl (fun t ht hW => ⟨_, rfl, (by first | rfl | trivial | (simp [c9_1]; done) | ((try first | rw [if_pos c9_1] | rw [if_neg c9_1]); first | done | rfl | trivial) | (simp_all; done)), ht⟩) (fun q hq => absurd hq List.not_mem_nil) dX6_handAce_39
  · exact absurd c9_1 (by decide)

set_option maxHeartbeats 400000 in
set_option maxRecDepth 100000 in
/-- X6_valueOf -/
theorem c_X6_valueOf (l : Launch) (D : va_G) (cI cJ cQ : ClassId) (m0 : Nat) (ms : Nat) (mf : Nat) (mw : Nat) (mk : Nat) (mh : Nat) (q0 : Nat) (q1 : Nat) (q2 : Nat) (q3 : Nat) (q4 : Nat) (q5 : Nat) (q6 : Nat) (q7 : Nat) (k0 : Nat) (k1 : Nat) (k2 : Nat) (k3 : Nat)  : Met l yX6_valueOf wsX6_valueOf ({ frames := 0, cells := 0, slots := 0, locals := 0 }) (va_Pc [.ref m0, .int 0, .int 0] (rP D (gTy cI cJ cQ) [(m0, .inr (6, [.ref ms, .ref mf, .ref mw, .ref mk, .int 0, .ref mh, .int 0, .int 0, .int 21, .int 17, .int 0, .int 1, .int 1, .int 1, .int 3, .long 1, .int 0, .ref q0, .ref q1, .ref q2, .int 0, .ref q3, .ref q4, .ref q5, .ref q6, .ref q7, .int 0, .int 0, .int 0, .int 0, .int 0, .int 0, .int 0, .int 0, .int 0, .ref k0, .ref k1, .ref k2, .ref k3]))])) (vp_Si (fun r => r = 0)) 0 0 (fun _ => False) := by
  refine Met.ofW (cc := cX6_valueOf) (maxL := 3) (ret := (some .int)) (by decide) rfl ?_
  intro p e s m args below meth c s₁ B hml hv
  obtain ⟨rfl, hP, hK⟩ := hv
  have hx := B.exec
  have hb := B.bytes
  have hr := B.returns
  have hts := atoms_spec (ws := wsX6_valueOf) B.pre
  have hown : s.vm.findClass RX6 = some m.cls := findClass_of_methodNamed B.named
  have hlocks := B.notSynchronized
  have hl := lv_entry ([.ref m0, .int 0, .int 0]) (n := 3) (Nat.le_of_ble_eq_true rfl)
  rw [lg_entry_eq]
  generalize (lg_sl ([.ref m0, .int 0, .int 0]) ++ List.replicate (3 - (lg_sl ([.ref m0, .int 0, .int 0])).length) Slot.unset).toArray = ls at hl ⊢
  have hl : lv_has ls 3 [(0, .ref m0), (1, .int 0), (2, .int 0)] := hl
  refine lv_iload_n hx hb dX6_valueOf_0 rfl (lv_at hl 2 rfl) ?_
  refine lv_if_eq (tgt := 22) hx hb dX6_valueOf_1 (by decide) (fun c1_1 => ?_) (fun c1_1 => ?_)
  · skip
    refine lv_iload_n hx hb dX6_valueOf_22 rfl (lv_at hl 1 rfl) ?_
    exact W.iret (v := 0) hx hb hr (fun t ht hW => ⟨_, rfl, (by first | rfl | trivial | (simp [c1_1]; done) | ((try first | rw [if_pos c1_1] | rw [if_neg c1_1]); first | done | rfl | trivial) | (simp_all; done)), ht⟩) (fun q hq => absurd hq List.not_mem_nil) dX6_valueOf_23
  · exact absurd c1_1 (by decide)

set_option maxRecDepth 20000 in
theorem ggX6_handValue_X6_handSum : GoodIn wsX6_handValue wsX6_handSum := goodIn_r _ [5, 6, 7, 17, 18, 19, 20, 21, 22, 23, 24, 25, 26, 27, 28, 29, 30, 31, 32, 33, 34, 35, 36, 37, 38, 39, 40, 41, 42, 43, 44, 45, 46, 47, 48, 49, 50, 51, 52, 53, 54, 55] (by decide +kernel) (by decide +kernel)
set_option maxRecDepth 20000 in
theorem gX6_handValue_X6_handSum : GoodIn wsX6_handValue (wsV RX6 136 RX6 yX6_handSum wsX6_handSum) := goodIn_app (goodIn_of _ (by decide +kernel)) ggX6_handValue_X6_handSum
set_option maxRecDepth 20000 in
theorem ggX6_handValue_X6_handAce : GoodIn wsX6_handValue wsX6_handAce := goodIn_r _ [11, 6, 7, 17, 18, 19, 20, 21, 22, 23, 24, 25, 26, 27, 28, 29, 30, 31, 32, 33, 34, 35, 36, 37, 38, 39, 40, 41, 42, 43, 44, 45, 46, 47, 48, 49, 50, 51, 52, 53, 54, 55] (by decide +kernel) (by decide +kernel)
set_option maxRecDepth 20000 in
theorem gX6_handValue_X6_handAce : GoodIn wsX6_handValue (wsV RX6 139 RX6 yX6_handAce wsX6_handAce) := goodIn_app (goodIn_of _ (by decide +kernel)) ggX6_handValue_X6_handAce
set_option maxRecDepth 20000 in
theorem ggX6_handValue_X6_valueOf : GoodIn wsX6_handValue wsX6_valueOf := goodIn_r _ [15, 16, 17, 18, 19, 20, 21, 22, 23, 24, 25, 26, 27, 28, 29, 30, 31, 32, 33, 34, 35, 36, 37, 38, 39, 40, 41, 42, 43, 44, 45, 46, 47, 48, 49, 50, 51, 52, 53, 54, 55] (by decide +kernel) (by decide +kernel)
set_option maxRecDepth 20000 in
theorem gX6_handValue_X6_valueOf : GoodIn wsX6_handValue (wsV RX6 143 RX6 yX6_valueOf wsX6_valueOf) := goodIn_app (goodIn_of _ (by decide +kernel)) ggX6_handValue_X6_valueOf
set_option maxHeartbeats 400000 in
set_option maxRecDepth 100000 in
/-- X6_handValue -/
theorem c_X6_handValue (l : Launch) (D : va_G) (cI cJ cQ : ClassId) (m0 : Nat) (mh : Nat) (ms : Nat) (mf : Nat) (mw : Nat) (mk : Nat) (q0 : Nat) (q1 : Nat) (q2 : Nat) (q3 : Nat) (q4 : Nat) (q5 : Nat) (q6 : Nat) (q7 : Nat) (k0 : Nat) (k1 : Nat) (k2 : Nat) (k3 : Nat)  : Met l yX6_handValue wsX6_handValue ({ frames := 1, cells := 0, slots := 0, locals := 22 }) (va_Pc [.ref m0] (rP D (gTy cI cJ cQ) [(m0, .inr (6, [.ref ms, .ref mf, .ref mw, .ref mk, .int 0, .ref mh, .int 0, .int 0, .int 21, .int 17, .int 0, .int 1, .int 1, .int 1, .int 3, .long 1, .int 0, .ref q0, .ref q1, .ref q2, .int 0, .ref q3, .ref q4, .ref q5, .ref q6, .ref q7, .int 0, .int 0, .int 0, .int 0, .int 0, .int 0, .int 0, .int 0, .int 0, .ref k0, .ref k1, .ref k2, .ref k3])), (mh, .inl (cI, 12, .inl (fun _ => 0)))])) (vp_Si (fun r => r = 0)) 0 0 (fun _ => False) := by
  refine Met.ofW (cc := cX6_handValue) (maxL := 1) (ret := (some .int)) (by decide) rfl ?_
  intro p e s m args below meth c s₁ B hml hv
  obtain ⟨rfl, hP, hK⟩ := hv
  have hx := B.exec
  have hb := B.bytes
  have hr := B.returns
  have hts := atoms_spec (ws := wsX6_handValue) B.pre
  have hown : s.vm.findClass RX6 = some m.cls := findClass_of_methodNamed B.named
  have hlocks := B.notSynchronized
  have hl := lv_entry ([.ref m0]) (n := 1) (Nat.le_of_ble_eq_true rfl)
  rw [lg_entry_eq]
  generalize (lg_sl ([.ref m0]) ++ List.replicate (1 - (lg_sl ([.ref m0])).length) Slot.unset).toArray = ls at hl ⊢
  have hl : lv_has ls 1 [(0, .ref m0)] := hl
  refine lv_aload_n hx hb dX6_handValue_0 rfl (lv_at hl 0 rfl) ?_
  refine lv_aload_n hx hb dX6_handValue_1 rfl (lv_at hl 0 rfl) ?_
  have hPc := hP.sub (ws' := [(m0, .inr (6, [.ref ms, .ref mf, .ref mw, .ref mk, .int 0, .ref mh, .int 0, .int 0, .int 21, .int 17, .int 0, .int 1, .int 1, .int 1, .int 3, .long 1, .int 0, .ref q0, .ref q1, .ref q2, .int 0, .ref q3, .ref q4, .ref q5, .ref q6, .ref q7, .int 0, .int 0, .int 0, .int 0, .int 0, .int 0, .int 0, .int 0, .int 0, .ref k0, .ref k1, .ref k2, .ref k3])), (mh, .inl (cI, 12, .inl (fun _ => 0)))]) [0, 1] rfl
  refine vp_callSi (W.runV (As := []) (rest := [.ref m0]) ⟨hx, hb, hml, hown, hts⟩ (c_X6_handSum l D cI cJ cQ m0 mh ms mf mw mk q0 q1 q2 q3 q4 q5 q6 q7 k0 k1 k2 k3) (cwV 0 hts gX6_handValue_X6_handSum rfl rfl rfl (by decide +kernel) ⟨Nat.le_of_ble_eq_true rfl, Nat.le_of_ble_eq_true rfl⟩) (rP_preV (ci := 6) (q0 := 0) hPc hK rfl rfl) rfl rfl hl.1 rfl (lv_room (Nat.le_of_ble_eq_true rfl)) dX6_handValue_2 ⟨Nat.le_of_ble_eq_true rfl, Nat.le_of_ble_eq_true rfl⟩) (fun r_1 hr_1 => ?_)
  subst hr_1
  refine lv_aload_n hx hb dX6_handValue_5 rfl (lv_at hl 0 rfl) ?_
  have hPc := hP.sub (ws' := [(m0, .inr (6, [.ref ms, .ref mf, .ref mw, .ref mk, .int 0, .ref mh, .int 0, .int 0, .int 21, .int 17, .int 0, .int 1, .int 1, .int 1, .int 3, .long 1, .int 0, .ref q0, .ref q1, .ref q2, .int 0, .ref q3, .ref q4, .ref q5, .ref q6, .ref q7, .int 0, .int 0, .int 0, .int 0, .int 0, .int 0, .int 0, .int 0, .int 0, .ref k0, .ref k1, .ref k2, .ref k3])), (mh, .inl (cI, 12, .inl (fun _ => 0)))]) [0, 1] rfl
  refine vp_callSi (W.runV (As := []) (rest := [.int 0, .ref m0]) ⟨hx, hb, hml, hown, hts⟩ (c_X6_handAce l D cI cJ cQ m0 mh ms mf mw mk q0 q1 q2 q3 q4 q5 q6 q7 k0 k1 k2 k3) (cwV 0 hts gX6_handValue_X6_handAce rfl rfl rfl (by decide +kernel) ⟨Nat.le_of_ble_eq_true rfl, Nat.le_of_ble_eq_true rfl⟩) (rP_preV (ci := 6) (q0 := 0) hPc hK rfl rfl) rfl rfl hl.1 rfl (lv_room (Nat.le_of_ble_eq_true rfl)) dX6_handValue_6 ⟨Nat.le_of_ble_eq_true rfl, Nat.le_of_ble_eq_true rfl⟩) (fun r_2 hr_2 => ?_)
  subst hr_2
  have hPc := hP.sub (ws' := [(m0, .inr (6, [.ref ms, .ref mf, .ref mw, .ref mk, .int 0, .ref mh, .int 0, .int 0, .int 21, .int 17, .int 0, .int 1, .int 1, .int 1, .int 3, .long 1, .int 0, .ref q0, .ref q1, .ref q2, .int 0, .ref q3, .ref q4, .ref q5, .ref q6, .ref q7, .int 0, .int 0, .int 0, .int 0, .int 0, .int 0, .int 0, .int 0, .int 0, .ref k0, .ref k1, .ref k2, .ref k3]))]) [0] rfl
  refine vp_callSi (W.runV (As := [.int 0, .int 0]) (rest := []) ⟨hx, hb, hml, hown, hts⟩ (c_X6_valueOf l D cI cJ cQ m0 ms mf mw mk mh q0 q1 q2 q3 q4 q5 q6 q7 k0 k1 k2 k3) (cwV 2 hts gX6_handValue_X6_valueOf rfl rfl rfl (by decide +kernel) ⟨Nat.le_of_ble_eq_true rfl, Nat.le_of_ble_eq_true rfl⟩) (rP_preV (ci := 6) (q0 := 0) hPc hK rfl rfl) rfl rfl hl.1 rfl (lv_room (Nat.le_of_ble_eq_true rfl)) dX6_handValue_9 ⟨Nat.le_of_ble_eq_true rfl, Nat.le_of_ble_eq_true rfl⟩) (fun r_3 hr_3 => ?_)
  subst hr_3
  exact W.iret (v := 0) hx hb hr (fun t ht hW => ⟨_, rfl, (by first | rfl | trivial | (simp []; done) | rfl | (simp_all; done)), ht⟩) (fun q hq => absurd hq List.not_mem_nil) dX6_handValue_12

set_option maxRecDepth 20000 in
theorem in_X6_isNatural_X6 : ∀ w ∈ wsX60, w ∈ wsX6_isNatural := by decide +kernel
set_option maxRecDepth 20000 in
theorem wd_X6_isNatural_0 : Cond.fieldLink RX6 98 "ShoeTableModel" "hands" "I" ∈ wsX6_isNatural := by decide +kernel
set_option maxHeartbeats 400000 in
set_option maxRecDepth 100000 in
/-- X6_isNatural -/
theorem c_X6_isNatural (l : Launch) (D : va_G) (cI cJ cQ : ClassId) (m0 : Nat) (mh : Nat) (ms : Nat) (mf : Nat) (mw : Nat) (mk : Nat) (q0 : Nat) (q1 : Nat) (q2 : Nat) (q3 : Nat) (q4 : Nat) (q5 : Nat) (q6 : Nat) (q7 : Nat) (k0 : Nat) (k1 : Nat) (k2 : Nat) (k3 : Nat)  : Met l yX6_isNatural wsX6_isNatural ({ frames := 0, cells := 0, slots := 0, locals := 0 }) (va_Pc [.ref m0] (rP D (gTy cI cJ cQ) [(m0, .inr (6, [.ref ms, .ref mf, .ref mw, .ref mk, .int 0, .ref mh, .int 0, .int 0, .int 21, .int 17, .int 0, .int 1, .int 1, .int 1, .int 3, .long 1, .int 0, .ref q0, .ref q1, .ref q2, .int 0, .ref q3, .ref q4, .ref q5, .ref q6, .ref q7, .int 0, .int 0, .int 0, .int 0, .int 0, .int 0, .int 0, .int 0, .int 0, .ref k0, .ref k1, .ref k2, .ref k3])), (mh, .inl (cI, 12, .inl (fun _ => 0)))])) (vp_Si (fun r => r = 0)) 0 0 (fun _ => False) := by
  refine Met.ofW (cc := cX6_isNatural) (maxL := 1) (ret := (some .boolean)) (by decide) rfl ?_
  intro p e s m args below meth c s₁ B hml hv
  obtain ⟨rfl, hP, hK⟩ := hv
  have hx := B.exec
  have hb := B.bytes
  have hr := B.returns
  have hts := atoms_spec (ws := wsX6_isNatural) B.pre
  have hown : s.vm.findClass RX6 = some m.cls := findClass_of_methodNamed B.named
  have hlocks := B.notSynchronized
  have hl := lv_entry ([.ref m0]) (n := 1) (Nat.le_of_ble_eq_true rfl)
  rw [lg_entry_eq]
  generalize (lg_sl ([.ref m0]) ++ List.replicate (1 - (lg_sl ([.ref m0])).length) Slot.unset).toArray = ls at hl ⊢
  have hl : lv_has ls 1 [(0, .ref m0)] := hl
  refine lv_aload_n hx hb dX6_isNatural_0 rfl (lv_at hl 0 rfl) ?_
  refine va_get (D := D) (ci := 6) (v := .int 0) (C := RX6) (T := TX6) (N := 39) hx hb hts in_X6_isNatural_X6 hown hK hP 0 rfl rfl 6 (by decide) (hts _ wd_X6_isNatural_0) (fun _ h9 => h9) rfl dX6_isNatural_1 ?_
  refine lv_iconst (v := 2) hx hb dX6_isNatural_4 (by decide) ?_
  refine lv_icmp_ne (tgt := 23) hx hb dX6_isNatural_5 (by decide) (fun c5_1 => ?_) (fun c5_1 => ?_)
  · skip
    refine lv_iconst (v := 0) hx hb dX6_isNatural_23 (by decide) ?_
    exact W.zret (v := 0) hx hb hr rfl (fun t ht hW => ⟨_, rfl, (by first | rfl | trivial | (simp [c5_1]; done) | ((try first | rw [if_pos c5_1] | rw [if_neg c5_1]); first | done | rfl | trivial) | (simp_all; done)), ht⟩) (fun q hq => absurd hq List.not_mem_nil) dX6_isNatural_24
  · exact absurd c5_1 (by decide)

set_option maxRecDepth 20000 in
theorem in_X6_counted_X6 : ∀ w ∈ wsX60, w ∈ wsX6_counted := by decide +kernel
set_option maxRecDepth 20000 in
theorem wd_X6_counted_0 : Cond.fieldLink RX6 19 "ShoeTableModel" "marks" "[I" ∈ wsX6_counted := by decide +kernel
set_option maxRecDepth 20000 in
theorem wd_X6_counted_1 : Cond.fieldLink RX6 16 "ShoeTableModel" "went" "[I" ∈ wsX6_counted := by decide +kernel
set_option maxHeartbeats 400000 in
set_option maxRecDepth 100000 in
/-- X6_counted -/
theorem c_X6_counted (l : Launch) (D : va_G) (cI cJ cQ : ClassId) (m0 : Nat) (mk : Nat) (mw : Nat) (ms : Nat) (mf : Nat) (mh : Nat) (q0 : Nat) (q1 : Nat) (q2 : Nat) (q3 : Nat) (q4 : Nat) (q5 : Nat) (q6 : Nat) (q7 : Nat) (k0 : Nat) (k1 : Nat) (k2 : Nat) (k3 : Nat)  : Met l yX6_counted wsX6_counted ({ frames := 0, cells := 0, slots := 0, locals := 0 }) (va_Pc [.ref m0] (rP D (gTy cI cJ cQ) [(m0, .inr (6, [.ref ms, .ref mf, .ref mw, .ref mk, .int 0, .ref mh, .int 0, .int 0, .int 21, .int 17, .int 0, .int 1, .int 1, .int 1, .int 3, .long 1, .int 0, .ref q0, .ref q1, .ref q2, .int 0, .ref q3, .ref q4, .ref q5, .ref q6, .ref q7, .int 0, .int 0, .int 0, .int 0, .int 0, .int 0, .int 0, .int 0, .int 0, .ref k0, .ref k1, .ref k2, .ref k3])), (mk, .inl (cI, 11, .inl (fun _ => 0))), (mw, .inl (cI, 11, .inl (fun _ => 0)))])) (vp_Si (fun r => r = 0)) 0 0 (fun _ => False) := by
  refine Met.ofW (cc := cX6_counted) (maxL := 3) (ret := (some .int)) (by decide) rfl ?_
  intro p e s m args below meth c s₁ B hml hv
  obtain ⟨rfl, hP, hK⟩ := hv
  have hx := B.exec
  have hb := B.bytes
  have hr := B.returns
  have hts := atoms_spec (ws := wsX6_counted) B.pre
  have hown : s.vm.findClass RX6 = some m.cls := findClass_of_methodNamed B.named
  have hlocks := B.notSynchronized
  have hl := lv_entry ([.ref m0]) (n := 3) (Nat.le_of_ble_eq_true rfl)
  rw [lg_entry_eq]
  generalize (lg_sl ([.ref m0]) ++ List.replicate (3 - (lg_sl ([.ref m0])).length) Slot.unset).toArray = ls at hl ⊢
  have hl : lv_has ls 3 [(0, .ref m0)] := hl
  refine lv_iconst (v := 0) hx hb dX6_counted_0 (by decide) ?_
  refine lv_istore_n (lv' := [(1, .int 0), (0, .ref m0)]) hx hb dX6_counted_1 rfl hl (by decide) rfl (fun ls hl => ?_)
  refine lv_iconst (v := 1) hx hb dX6_counted_2 (by decide) ?_
  refine lv_istore_n (lv' := [(2, .int 1), (1, .int 0), (0, .ref m0)]) hx hb dX6_counted_3 rfl hl (by decide) rfl (fun ls hl => ?_)
  refine lv_iload_n hx hb dX6_counted_4 rfl (lv_at hl 0 rfl) ?_
  refine lv_bipush (v := 11) hx hb dX6_counted_5 (by decide) ?_
  refine lv_icmp_ge (tgt := 32) hx hb dX6_counted_7 (by decide) (fun c7_1 => ?_) (fun c7_1 => ?_)
  · exact absurd c7_1 (by decide)
  refine lv_iload_n hx hb dX6_counted_10 rfl (lv_at hl 1 rfl) ?_
  refine lv_aload_n hx hb dX6_counted_11 rfl (lv_at hl 2 rfl) ?_
  refine va_get (D := D) (ci := 6) (v := .ref mk) (C := RX6) (T := TX6) (N := 39) hx hb hts in_X6_counted_X6 hown hK hP 0 rfl rfl 3 (by decide) (hts _ wd_X6_counted_0) (fun _ h9 => h9) rfl dX6_counted_12 ?_
  refine lv_iload_n hx hb dX6_counted_15 rfl (lv_at hl 0 rfl) ?_
  refine va_iald hx hb hK hP 1 0 rfl rfl (show ¬ ((1 : Int32) < 0 ∨ 11 ≤ (1 : Int32).toNatClampNeg) by decide) dX6_counted_16 ?_
  refine lv_topi (fun z_2 ez_2 => ?_)
  obtain rfl : z_2 = 0 := ez_2
  refine lv_aload_n hx hb dX6_counted_17 rfl (lv_at hl 2 rfl) ?_
  refine va_get (D := D) (ci := 6) (v := .ref mw) (C := RX6) (T := TX6) (N := 39) hx hb hts in_X6_counted_X6 hown hK hP 0 rfl rfl 2 (by decide) (hts _ wd_X6_counted_1) (fun _ h9 => h9) rfl dX6_counted_18 ?_
  refine lv_iload_n hx hb dX6_counted_21 rfl (lv_at hl 0 rfl) ?_
  refine va_iald hx hb hK hP 2 0 rfl rfl (show ¬ ((1 : Int32) < 0 ∨ 11 ≤ (1 : Int32).toNatClampNeg) by decide) dX6_counted_22 ?_
  refine lv_topi (fun z_3 ez_3 => ?_)
  obtain rfl : z_3 = 0 := ez_3
  refine lv_imul hx hb dX6_counted_23 ?_
  refine lv_topi (fun z_4 ez_4 => ?_)
  obtain rfl : z_4 = 0 := ez_4.trans (by decide)
  refine lv_iadd hx hb dX6_counted_24 ?_
  refine lv_topi (fun z_5 ez_5 => ?_)
  obtain rfl : z_5 = 0 := ez_5.trans (by decide)
  refine lv_istore_n (lv' := [(1, .int 0), (2, .int 1), (0, .ref m0)]) hx hb dX6_counted_25 rfl hl (by decide) rfl (fun ls hl => ?_)
  refine lv_iinc (v := 2) (lv' := [(2, .int 2), (1, .int 0), (0, .ref m0)]) hx hb dX6_counted_26 hl (k := 1) rfl (by decide) (by decide) rfl (fun ls hl => ?_)
  refine lv_goto (tgt := 4) hx hb dX6_counted_29 (by decide) ?_
  refine lv_iload_n hx hb dX6_counted_4 rfl (lv_at hl 0 rfl) ?_
  refine lv_bipush (v := 11) hx hb dX6_counted_5 (by decide) ?_
  refine lv_icmp_ge (tgt := 32) hx hb dX6_counted_7 (by decide) (fun c7_6 => ?_) (fun c7_6 => ?_)
  · exact absurd c7_6 (by decide)
  refine lv_iload_n hx hb dX6_counted_10 rfl (lv_at hl 1 rfl) ?_
  refine lv_aload_n hx hb dX6_counted_11 rfl (lv_at hl 2 rfl) ?_
  refine va_get (D := D) (ci := 6) (v := .ref mk) (C := RX6) (T := TX6) (N := 39) hx hb hts in_X6_counted_X6 hown hK hP 0 rfl rfl 3 (by decide) (hts _ wd_X6_counted_0) (fun _ h9 => h9) rfl dX6_counted_12 ?_
  refine lv_iload_n hx hb dX6_counted_15 rfl (lv_at hl 0 rfl) ?_
  refine va_iald hx hb hK hP 1 0 rfl rfl (show ¬ ((2 : Int32) < 0 ∨ 11 ≤ (2 : Int32).toNatClampNeg) by decide) dX6_counted_16 ?_
  refine lv_topi (fun z_7 ez_7 => ?_)
  obtain rfl : z_7 = 0 := ez_7
  refine lv_aload_n hx hb dX6_counted_17 rfl (lv_at hl 2 rfl) ?_
  refine va_get (D := D) (ci := 6) (v := .ref mw) (C := RX6) (T := TX6) (N := 39) hx hb hts in_X6_counted_X6 hown hK hP 0 rfl rfl 2 (by decide) (hts _ wd_X6_counted_1) (fun _ h9 => h9) rfl dX6_counted_18 ?_
  refine lv_iload_n hx hb dX6_counted_21 rfl (lv_at hl 0 rfl) ?_
  refine va_iald hx hb hK hP 2 0 rfl rfl (show ¬ ((2 : Int32) < 0 ∨ 11 ≤ (2 : Int32).toNatClampNeg) by decide) dX6_counted_22 ?_
  refine lv_topi (fun z_8 ez_8 => ?_)
  obtain rfl : z_8 = 0 := ez_8
  refine lv_imul hx hb dX6_counted_23 ?_
  refine lv_topi (fun z_9 ez_9 => ?_)
  obtain rfl : z_9 = 0 := ez_9.trans (by decide)
  refine lv_iadd hx hb dX6_counted_24 ?_
  refine lv_topi (fun z_10 ez_10 => ?_)
  obtain rfl : z_10 = 0 := ez_10.trans (by decide)
  refine lv_istore_n (lv' := [(1, .int 0), (2, .int 2), (0, .ref m0)]) hx hb dX6_counted_25 rfl hl (by decide) rfl (fun ls hl => ?_)
  refine lv_iinc (v := 3) (lv' := [(2, .int 3), (1, .int 0), (0, .ref m0)]) hx hb dX6_counted_26 hl (k := 1) rfl (by decide) (by decide) rfl (fun ls hl => ?_)
  refine lv_goto (tgt := 4) hx hb dX6_counted_29 (by decide) ?_
  refine lv_iload_n hx hb dX6_counted_4 rfl (lv_at hl 0 rfl) ?_
  refine lv_bipush (v := 11) hx hb dX6_counted_5 (by decide) ?_
  refine lv_icmp_ge (tgt := 32) hx hb dX6_counted_7 (by decide) (fun c7_11 => ?_) (fun c7_11 => ?_)
  · exact absurd c7_11 (by decide)
  refine lv_iload_n hx hb dX6_counted_10 rfl (lv_at hl 1 rfl) ?_
  refine lv_aload_n hx hb dX6_counted_11 rfl (lv_at hl 2 rfl) ?_
  refine va_get (D := D) (ci := 6) (v := .ref mk) (C := RX6) (T := TX6) (N := 39) hx hb hts in_X6_counted_X6 hown hK hP 0 rfl rfl 3 (by decide) (hts _ wd_X6_counted_0) (fun _ h9 => h9) rfl dX6_counted_12 ?_
  refine lv_iload_n hx hb dX6_counted_15 rfl (lv_at hl 0 rfl) ?_
  refine va_iald hx hb hK hP 1 0 rfl rfl (show ¬ ((3 : Int32) < 0 ∨ 11 ≤ (3 : Int32).toNatClampNeg) by decide) dX6_counted_16 ?_
  refine lv_topi (fun z_12 ez_12 => ?_)
  obtain rfl : z_12 = 0 := ez_12
  refine lv_aload_n hx hb dX6_counted_17 rfl (lv_at hl 2 rfl) ?_
  refine va_get (D := D) (ci := 6) (v := .ref mw) (C := RX6) (T := TX6) (N := 39) hx hb hts in_X6_counted_X6 hown hK hP 0 rfl rfl 2 (by decide) (hts _ wd_X6_counted_1) (fun _ h9 => h9) rfl dX6_counted_18 ?_
  refine lv_iload_n hx hb dX6_counted_21 rfl (lv_at hl 0 rfl) ?_
  refine va_iald hx hb hK hP 2 0 rfl rfl (show ¬ ((3 : Int32) < 0 ∨ 11 ≤ (3 : Int32).toNatClampNeg) by decide) dX6_counted_22 ?_
  refine lv_topi (fun z_13 ez_13 => ?_)
  obtain rfl : z_13 = 0 := ez_13
  refine lv_imul hx hb dX6_counted_23 ?_
  refine lv_topi (fun z_14 ez_14 => ?_)
  obtain rfl : z_14 = 0 := ez_14.trans (by decide)
  refine lv_iadd hx hb dX6_counted_24 ?_
  refine lv_topi (fun z_15 ez_15 => ?_)
  obtain rfl : z_15 = 0 := ez_15.trans (by decide)
  refine lv_istore_n (lv' := [(1, .int 0), (2, .int 3), (0, .ref m0)]) hx hb dX6_counted_25 rfl hl (by decide) rfl (fun ls hl => ?_)
  refine lv_iinc (v := 4) (lv' := [(2, .int 4), (1, .int 0), (0, .ref m0)]) hx hb dX6_counted_26 hl (k := 1) rfl (by decide) (by decide) rfl (fun ls hl => ?_)
  refine lv_goto (tgt := 4) hx hb dX6_counted_29 (by decide) ?_
  refine lv_iload_n hx hb dX6_counted_4 rfl (lv_at hl 0 rfl) ?_
  refine lv_bipush (v := 11) hx hb dX6_counted_5 (by decide) ?_
  refine lv_icmp_ge (tgt := 32) hx hb dX6_counted_7 (by decide) (fun c7_16 => ?_) (fun c7_16 => ?_)
  · exact absurd c7_16 (by decide)
  refine lv_iload_n hx hb dX6_counted_10 rfl (lv_at hl 1 rfl) ?_
  refine lv_aload_n hx hb dX6_counted_11 rfl (lv_at hl 2 rfl) ?_
  refine va_get (D := D) (ci := 6) (v := .ref mk) (C := RX6) (T := TX6) (N := 39) hx hb hts in_X6_counted_X6 hown hK hP 0 rfl rfl 3 (by decide) (hts _ wd_X6_counted_0) (fun _ h9 => h9) rfl dX6_counted_12 ?_
  refine lv_iload_n hx hb dX6_counted_15 rfl (lv_at hl 0 rfl) ?_
  refine va_iald hx hb hK hP 1 0 rfl rfl (show ¬ ((4 : Int32) < 0 ∨ 11 ≤ (4 : Int32).toNatClampNeg) by decide) dX6_counted_16 ?_
  refine lv_topi (fun z_17 ez_17 => ?_)
  obtain rfl : z_17 = 0 := ez_17
  refine lv_aload_n hx hb dX6_counted_17 rfl (lv_at hl 2 rfl) ?_
  refine va_get (D := D) (ci := 6) (v := .ref mw) (C := RX6) (T := TX6) (N := 39) hx hb hts in_X6_counted_X6 hown hK hP 0 rfl rfl 2 (by decide) (hts _ wd_X6_counted_1) (fun _ h9 => h9) rfl dX6_counted_18 ?_
  refine lv_iload_n hx hb dX6_counted_21 rfl (lv_at hl 0 rfl) ?_
  refine va_iald hx hb hK hP 2 0 rfl rfl (show ¬ ((4 : Int32) < 0 ∨ 11 ≤ (4 : Int32).toNatClampNeg) by decide) dX6_counted_22 ?_
  refine lv_topi (fun z_18 ez_18 => ?_)
  obtain rfl : z_18 = 0 := ez_18
  refine lv_imul hx hb dX6_counted_23 ?_
  refine lv_topi (fun z_19 ez_19 => ?_)
  obtain rfl : z_19 = 0 := ez_19.trans (by decide)
  refine lv_iadd hx hb dX6_counted_24 ?_
  refine lv_topi (fun z_20 ez_20 => ?_)
  obtain rfl : z_20 = 0 := ez_20.trans (by decide)
  refine lv_istore_n (lv' := [(1, .int 0), (2, .int 4), (0, .ref m0)]) hx hb dX6_counted_25 rfl hl (by decide) rfl (fun ls hl => ?_)
  refine lv_iinc (v := 5) (lv' := [(2, .int 5), (1, .int 0), (0, .ref m0)]) hx hb dX6_counted_26 hl (k := 1) rfl (by decide) (by decide) rfl (fun ls hl => ?_)
  refine lv_goto (tgt := 4) hx hb dX6_counted_29 (by decide) ?_
  refine lv_iload_n hx hb dX6_counted_4 rfl (lv_at hl 0 rfl) ?_
  refine lv_bipush (v := 11) hx hb dX6_counted_5 (by decide) ?_
  refine lv_icmp_ge (tgt := 32) hx hb dX6_counted_7 (by decide) (fun c7_21 => ?_) (fun c7_21 => ?_)
  · exact absurd c7_21 (by decide)
  refine lv_iload_n hx hb dX6_counted_10 rfl (lv_at hl 1 rfl) ?_
  refine lv_aload_n hx hb dX6_counted_11 rfl (lv_at hl 2 rfl) ?_
  refine va_get (D := D) (ci := 6) (v := .ref mk) (C := RX6) (T := TX6) (N := 39) hx hb hts in_X6_counted_X6 hown hK hP 0 rfl rfl 3 (by decide) (hts _ wd_X6_counted_0) (fun _ h9 => h9) rfl dX6_counted_12 ?_
  refine lv_iload_n hx hb dX6_counted_15 rfl (lv_at hl 0 rfl) ?_
  refine va_iald hx hb hK hP 1 0 rfl rfl (show ¬ ((5 : Int32) < 0 ∨ 11 ≤ (5 : Int32).toNatClampNeg) by decide) dX6_counted_16 ?_
  refine lv_topi (fun z_22 ez_22 => ?_)
  obtain rfl : z_22 = 0 := ez_22
  refine lv_aload_n hx hb dX6_counted_17 rfl (lv_at hl 2 rfl) ?_
  refine va_get (D := D) (ci := 6) (v := .ref mw) (C := RX6) (T := TX6) (N := 39) hx hb hts in_X6_counted_X6 hown hK hP 0 rfl rfl 2 (by decide) (hts _ wd_X6_counted_1) (fun _ h9 => h9) rfl dX6_counted_18 ?_
  refine lv_iload_n hx hb dX6_counted_21 rfl (lv_at hl 0 rfl) ?_
  refine va_iald hx hb hK hP 2 0 rfl rfl (show ¬ ((5 : Int32) < 0 ∨ 11 ≤ (5 : Int32).toNatClampNeg) by decide) dX6_counted_22 ?_
  refine lv_topi (fun z_23 ez_23 => ?_)
  obtain rfl : z_23 = 0 := ez_23
  refine lv_imul hx hb dX6_counted_23 ?_
  refine lv_topi (fun z_24 ez_24 => ?_)
  obtain rfl : z_24 = 0 := ez_24.trans (by decide)
  refine lv_iadd hx hb dX6_counted_24 ?_
  refine lv_topi (fun z_25 ez_25 => ?_)
  obtain rfl : z_25 = 0 := ez_25.trans (by decide)
  refine lv_istore_n (lv' := [(1, .int 0), (2, .int 5), (0, .ref m0)]) hx hb dX6_counted_25 rfl hl (by decide) rfl (fun ls hl => ?_)
  refine lv_iinc (v := 6) (lv' := [(2, .int 6), (1, .int 0), (0, .ref m0)]) hx hb dX6_counted_26 hl (k := 1) rfl (by decide) (by decide) rfl (fun ls hl => ?_)
  refine lv_goto (tgt := 4) hx hb dX6_counted_29 (by decide) ?_
  refine lv_iload_n hx hb dX6_counted_4 rfl (lv_at hl 0 rfl) ?_
  refine lv_bipush (v := 11) hx hb dX6_counted_5 (by decide) ?_
  refine lv_icmp_ge (tgt := 32) hx hb dX6_counted_7 (by decide) (fun c7_26 => ?_) (fun c7_26 => ?_)
  · exact absurd c7_26 (by decide)
  refine lv_iload_n hx hb dX6_counted_10 rfl (lv_at hl 1 rfl) ?_
  refine lv_aload_n hx hb dX6_counted_11 rfl (lv_at hl 2 rfl) ?_
  refine va_get (D := D) (ci := 6) (v := .ref mk) (C := RX6) (T := TX6) (N := 39) hx hb hts in_X6_counted_X6 hown hK hP 0 rfl rfl 3 (by decide) (hts _ wd_X6_counted_0) (fun _ h9 => h9) rfl dX6_counted_12 ?_
  refine lv_iload_n hx hb dX6_counted_15 rfl (lv_at hl 0 rfl) ?_
  refine va_iald hx hb hK hP 1 0 rfl rfl (show ¬ ((6 : Int32) < 0 ∨ 11 ≤ (6 : Int32).toNatClampNeg) by decide) dX6_counted_16 ?_
  refine lv_topi (fun z_27 ez_27 => ?_)
  obtain rfl : z_27 = 0 := ez_27
  refine lv_aload_n hx hb dX6_counted_17 rfl (lv_at hl 2 rfl) ?_
  refine va_get (D := D) (ci := 6) (v := .ref mw) (C := RX6) (T := TX6) (N := 39) hx hb hts in_X6_counted_X6 hown hK hP 0 rfl rfl 2 (by decide) (hts _ wd_X6_counted_1) (fun _ h9 => h9) rfl dX6_counted_18 ?_
  refine lv_iload_n hx hb dX6_counted_21 rfl (lv_at hl 0 rfl) ?_
  refine va_iald hx hb hK hP 2 0 rfl rfl (show ¬ ((6 : Int32) < 0 ∨ 11 ≤ (6 : Int32).toNatClampNeg) by decide) dX6_counted_22 ?_
  refine lv_topi (fun z_28 ez_28 => ?_)
  obtain rfl : z_28 = 0 := ez_28
  refine lv_imul hx hb dX6_counted_23 ?_
  refine lv_topi (fun z_29 ez_29 => ?_)
  obtain rfl : z_29 = 0 := ez_29.trans (by decide)
  refine lv_iadd hx hb dX6_counted_24 ?_
  refine lv_topi (fun z_30 ez_30 => ?_)
  obtain rfl : z_30 = 0 := ez_30.trans (by decide)
  refine lv_istore_n (lv' := [(1, .int 0), (2, .int 6), (0, .ref m0)]) hx hb dX6_counted_25 rfl hl (by decide) rfl (fun ls hl => ?_)
  refine lv_iinc (v := 7) (lv' := [(2, .int 7), (1, .int 0), (0, .ref m0)]) hx hb dX6_counted_26 hl (k := 1) rfl (by decide) (by decide) rfl (fun ls hl => ?_)
  refine lv_goto (tgt := 4) hx hb dX6_counted_29 (by decide) ?_
  refine lv_iload_n hx hb dX6_counted_4 rfl (lv_at hl 0 rfl) ?_
  refine lv_bipush (v := 11) hx hb dX6_counted_5 (by decide) ?_
  refine lv_icmp_ge (tgt := 32) hx hb dX6_counted_7 (by decide) (fun c7_31 => ?_) (fun c7_31 => ?_)
  · exact absurd c7_31 (by decide)
  refine lv_iload_n hx hb dX6_counted_10 rfl (lv_at hl 1 rfl) ?_
  refine lv_aload_n hx hb dX6_counted_11 rfl (lv_at hl 2 rfl) ?_
  refine va_get (D := D) (ci := 6) (v := .ref mk) (C := RX6) (T := TX6) (N := 39) hx hb hts in_X6_counted_X6 hown hK hP 0 rfl rfl 3 (by decide) (hts _ wd_X6_counted_0) (fun _ h9 => h9) rfl dX6_counted_12 ?_
  refine lv_iload_n hx hb dX6_counted_15 rfl (lv_at hl 0 rfl) ?_
  refine va_iald hx hb hK hP 1 0 rfl rfl (show ¬ ((7 : Int32) < 0 ∨ 11 ≤ (7 : Int32).toNatClampNeg) by decide) dX6_counted_16 ?_
  refine lv_topi (fun z_32 ez_32 => ?_)
  obtain rfl : z_32 = 0 := ez_32
  refine lv_aload_n hx hb dX6_counted_17 rfl (lv_at hl 2 rfl) ?_
  refine va_get (D := D) (ci := 6) (v := .ref mw) (C := RX6) (T := TX6) (N := 39) hx hb hts in_X6_counted_X6 hown hK hP 0 rfl rfl 2 (by decide) (hts _ wd_X6_counted_1) (fun _ h9 => h9) rfl dX6_counted_18 ?_
  refine lv_iload_n hx hb dX6_counted_21 rfl (lv_at hl 0 rfl) ?_
  refine va_iald hx hb hK hP 2 0 rfl rfl (show ¬ ((7 : Int32) < 0 ∨ 11 ≤ (7 : Int32).toNatClampNeg) by decide) dX6_counted_22 ?_
  refine lv_topi (fun z_33 ez_33 => ?_)
  obtain rfl : z_33 = 0 := ez_33
  refine lv_imul hx hb dX6_counted_23 ?_
  refine lv_topi (fun z_34 ez_34 => ?_)
  obtain rfl : z_34 = 0 := ez_34.trans (by decide)
  refine lv_iadd hx hb dX6_counted_24 ?_
  refine lv_topi (fun z_35 ez_35 => ?_)
  obtain rfl : z_35 = 0 := ez_35.trans (by decide)
  refine lv_istore_n (lv' := [(1, .int 0), (2, .int 7), (0, .ref m0)]) hx hb dX6_counted_25 rfl hl (by decide) rfl (fun ls hl => ?_)
  refine lv_iinc (v := 8) (lv' := [(2, .int 8), (1, .int 0), (0, .ref m0)]) hx hb dX6_counted_26 hl (k := 1) rfl (by decide) (by decide) rfl (fun ls hl => ?_)
  refine lv_goto (tgt := 4) hx hb dX6_counted_29 (by decide) ?_
  refine lv_iload_n hx hb dX6_counted_4 rfl (lv_at hl 0 rfl) ?_
  refine lv_bipush (v := 11) hx hb dX6_counted_5 (by decide) ?_
  refine lv_icmp_ge (tgt := 32) hx hb dX6_counted_7 (by decide) (fun c7_36 => ?_) (fun c7_36 => ?_)
  · exact absurd c7_36 (by decide)
  refine lv_iload_n hx hb dX6_counted_10 rfl (lv_at hl 1 rfl) ?_
  refine lv_aload_n hx hb dX6_counted_11 rfl (lv_at hl 2 rfl) ?_
  refine va_get (D := D) (ci := 6) (v := .ref mk) (C := RX6) (T := TX6) (N := 39) hx hb hts in_X6_counted_X6 hown hK hP 0 rfl rfl 3 (by decide) (hts _ wd_X6_counted_0) (fun _ h9 => h9) rfl dX6_counted_12 ?_
  refine lv_iload_n hx hb dX6_counted_15 rfl (lv_at hl 0 rfl) ?_
  refine va_iald hx hb hK hP 1 0 rfl rfl (show ¬ ((8 : Int32) < 0 ∨ 11 ≤ (8 : Int32).toNatClampNeg) by decide) dX6_counted_16 ?_
  refine lv_topi (fun z_37 ez_37 => ?_)
  obtain rfl : z_37 = 0 := ez_37
  refine lv_aload_n hx hb dX6_counted_17 rfl (lv_at hl 2 rfl) ?_
  refine va_get (D := D) (ci := 6) (v := .ref mw) (C := RX6) (T := TX6) (N := 39) hx hb hts in_X6_counted_X6 hown hK hP 0 rfl rfl 2 (by decide) (hts _ wd_X6_counted_1) (fun _ h9 => h9) rfl dX6_counted_18 ?_
  refine lv_iload_n hx hb dX6_counted_21 rfl (lv_at hl 0 rfl) ?_
  refine va_iald hx hb hK hP 2 0 rfl rfl (show ¬ ((8 : Int32) < 0 ∨ 11 ≤ (8 : Int32).toNatClampNeg) by decide) dX6_counted_22 ?_
  refine lv_topi (fun z_38 ez_38 => ?_)
  obtain rfl : z_38 = 0 := ez_38
  refine lv_imul hx hb dX6_counted_23 ?_
  refine lv_topi (fun z_39 ez_39 => ?_)
  obtain rfl : z_39 = 0 := ez_39.trans (by decide)
  refine lv_iadd hx hb dX6_counted_24 ?_
  refine lv_topi (fun z_40 ez_40 => ?_)
  obtain rfl : z_40 = 0 := ez_40.trans (by decide)
  refine lv_istore_n (lv' := [(1, .int 0), (2, .int 8), (0, .ref m0)]) hx hb dX6_counted_25 rfl hl (by decide) rfl (fun ls hl => ?_)
  refine lv_iinc (v := 9) (lv' := [(2, .int 9), (1, .int 0), (0, .ref m0)]) hx hb dX6_counted_26 hl (k := 1) rfl (by decide) (by decide) rfl (fun ls hl => ?_)
  refine lv_goto (tgt := 4) hx hb dX6_counted_29 (by decide) ?_
  refine lv_iload_n hx hb dX6_counted_4 rfl (lv_at hl 0 rfl) ?_
  refine lv_bipush (v := 11) hx hb dX6_counted_5 (by decide) ?_
  refine lv_icmp_ge (tgt := 32) hx hb dX6_counted_7 (by decide) (fun c7_41 => ?_) (fun c7_41 => ?_)
  · exact absurd c7_41 (by decide)
  refine lv_iload_n hx hb dX6_counted_10 rfl (lv_at hl 1 rfl) ?_
  refine lv_aload_n hx hb dX6_counted_11 rfl (lv_at hl 2 rfl) ?_
  refine va_get (D := D) (ci := 6) (v := .ref mk) (C := RX6) (T := TX6) (N := 39) hx hb hts in_X6_counted_X6 hown hK hP 0 rfl rfl 3 (by decide) (hts _ wd_X6_counted_0) (fun _ h9 => h9) rfl dX6_counted_12 ?_
  refine lv_iload_n hx hb dX6_counted_15 rfl (lv_at hl 0 rfl) ?_
  refine va_iald hx hb hK hP 1 0 rfl rfl (show ¬ ((9 : Int32) < 0 ∨ 11 ≤ (9 : Int32).toNatClampNeg) by decide) dX6_counted_16 ?_
  refine lv_topi (fun z_42 ez_42 => ?_)
  obtain rfl : z_42 = 0 := ez_42
  refine lv_aload_n hx hb dX6_counted_17 rfl (lv_at hl 2 rfl) ?_
  refine va_get (D := D) (ci := 6) (v := .ref mw) (C := RX6) (T := TX6) (N := 39) hx hb hts in_X6_counted_X6 hown hK hP 0 rfl rfl 2 (by decide) (hts _ wd_X6_counted_1) (fun _ h9 => h9) rfl dX6_counted_18 ?_
  refine lv_iload_n hx hb dX6_counted_21 rfl (lv_at hl 0 rfl) ?_
  refine va_iald hx hb hK hP 2 0 rfl rfl (show ¬ ((9 : Int32) < 0 ∨ 11 ≤ (9 : Int32).toNatClampNeg) by decide) dX6_counted_22 ?_
  refine lv_topi (fun z_43 ez_43 => ?_)
  obtain rfl : z_43 = 0 := ez_43
  refine lv_imul hx hb dX6_counted_23 ?_
  refine lv_topi (fun z_44 ez_44 => ?_)
  obtain rfl : z_44 = 0 := ez_44.trans (by decide)
  refine lv_iadd hx hb dX6_counted_24 ?_
  refine lv_topi (fun z_45 ez_45 => ?_)
  obtain rfl : z_45 = 0 := ez_45.trans (by decide)
  refine lv_istore_n (lv' := [(1, .int 0), (2, .int 9), (0, .ref m0)]) hx hb dX6_counted_25 rfl hl (by decide) rfl (fun ls hl => ?_)
  refine lv_iinc (v := 10) (lv' := [(2, .int 10), (1, .int 0), (0, .ref m0)]) hx hb dX6_counted_26 hl (k := 1) rfl (by decide) (by decide) rfl (fun ls hl => ?_)
  refine lv_goto (tgt := 4) hx hb dX6_counted_29 (by decide) ?_
  refine lv_iload_n hx hb dX6_counted_4 rfl (lv_at hl 0 rfl) ?_
  refine lv_bipush (v := 11) hx hb dX6_counted_5 (by decide) ?_
  refine lv_icmp_ge (tgt := 32) hx hb dX6_counted_7 (by decide) (fun c7_46 => ?_) (fun c7_46 => ?_)
  · exact absurd c7_46 (by decide)
  refine lv_iload_n hx hb dX6_counted_10 rfl (lv_at hl 1 rfl) ?_
  refine lv_aload_n hx hb dX6_counted_11 rfl (lv_at hl 2 rfl) ?_
  refine va_get (D := D) (ci := 6) (v := .ref mk) (C := RX6) (T := TX6) (N := 39) hx hb hts in_X6_counted_X6 hown hK hP 0 rfl rfl 3 (by decide) (hts _ wd_X6_counted_0) (fun _ h9 => h9) rfl dX6_counted_12 ?_
  refine lv_iload_n hx hb dX6_counted_15 rfl (lv_at hl 0 rfl) ?_
  refine va_iald hx hb hK hP 1 0 rfl rfl (show ¬ ((10 : Int32) < 0 ∨ 11 ≤ (10 : Int32).toNatClampNeg) by decide) dX6_counted_16 ?_
  refine lv_topi (fun z_47 ez_47 => ?_)
  obtain rfl : z_47 = 0 := ez_47
  refine lv_aload_n hx hb dX6_counted_17 rfl (lv_at hl 2 rfl) ?_
  refine va_get (D := D) (ci := 6) (v := .ref mw) (C := RX6) (T := TX6) (N := 39) hx hb hts in_X6_counted_X6 hown hK hP 0 rfl rfl 2 (by decide) (hts _ wd_X6_counted_1) (fun _ h9 => h9) rfl dX6_counted_18 ?_
  refine lv_iload_n hx hb dX6_counted_21 rfl (lv_at hl 0 rfl) ?_
  refine va_iald hx hb hK hP 2 0 rfl rfl (show ¬ ((10 : Int32) < 0 ∨ 11 ≤ (10 : Int32).toNatClampNeg) by decide) dX6_counted_22 ?_
  refine lv_topi (fun z_48 ez_48 => ?_)
  obtain rfl : z_48 = 0 := ez_48
  refine lv_imul hx hb dX6_counted_23 ?_
  refine lv_topi (fun z_49 ez_49 => ?_)
  obtain rfl : z_49 = 0 := ez_49.trans (by decide)
  refine lv_iadd hx hb dX6_counted_24 ?_
  refine lv_topi (fun z_50 ez_50 => ?_)
  obtain rfl : z_50 = 0 := ez_50.trans (by decide)
  refine lv_istore_n (lv' := [(1, .int 0), (2, .int 10), (0, .ref m0)]) hx hb dX6_counted_25 rfl hl (by decide) rfl (fun ls hl => ?_)
  refine lv_iinc (v := 11) (lv' := [(2, .int 11), (1, .int 0), (0, .ref m0)]) hx hb dX6_counted_26 hl (k := 1) rfl (by decide) (by decide) rfl (fun ls hl => ?_)
  refine lv_goto (tgt := 4) hx hb dX6_counted_29 (by decide) ?_
  refine lv_iload_n hx hb dX6_counted_4 rfl (lv_at hl 0 rfl) ?_
  refine lv_bipush (v := 11) hx hb dX6_counted_5 (by decide) ?_
  refine lv_icmp_ge (tgt := 32) hx hb dX6_counted_7 (by decide) (fun c7_51 => ?_) (fun c7_51 => ?_)
  · skip
    refine lv_iload_n hx hb dX6_counted_32 rfl (lv_at hl 1 rfl) ?_
    exact W.iret (v := 0) hx hb hr (fun t ht hW => ⟨_, rfl, (by first | rfl | trivial | (simp [c7_51]; done) | ((try first | rw [if_pos c7_51] | rw [if_neg c7_51]); first | done | rfl | trivial) | (simp_all; done)), ht⟩) (fun q hq => absurd hq List.not_mem_nil) dX6_counted_33
  · exact absurd c7_51 (by decide)

set_option maxRecDepth 20000 in
theorem in_X6_gone_X6 : ∀ w ∈ wsX60, w ∈ wsX6_gone := by decide +kernel
set_option maxRecDepth 20000 in
theorem wd_X6_gone_0 : Cond.fieldLink RX6 16 "ShoeTableModel" "went" "[I" ∈ wsX6_gone := by decide +kernel
set_option maxHeartbeats 400000 in
set_option maxRecDepth 100000 in
/-- X6_gone -/
theorem c_X6_gone (l : Launch) (D : va_G) (cI cJ cQ : ClassId) (m0 : Nat) (mw : Nat) (ms : Nat) (mf : Nat) (mk : Nat) (mh : Nat) (q0 : Nat) (q1 : Nat) (q2 : Nat) (q3 : Nat) (q4 : Nat) (q5 : Nat) (q6 : Nat) (q7 : Nat) (k0 : Nat) (k1 : Nat) (k2 : Nat) (k3 : Nat)  : Met l yX6_gone wsX6_gone ({ frames := 0, cells := 0, slots := 0, locals := 0 }) (va_Pc [.ref m0] (rP D (gTy cI cJ cQ) [(m0, .inr (6, [.ref ms, .ref mf, .ref mw, .ref mk, .int 0, .ref mh, .int 0, .int 0, .int 21, .int 17, .int 0, .int 1, .int 1, .int 1, .int 3, .long 1, .int 0, .ref q0, .ref q1, .ref q2, .int 0, .ref q3, .ref q4, .ref q5, .ref q6, .ref q7, .int 0, .int 0, .int 0, .int 0, .int 0, .int 0, .int 0, .int 0, .int 0, .ref k0, .ref k1, .ref k2, .ref k3])), (mw, .inl (cI, 11, .inl (fun _ => 0)))])) (vp_Si (fun r => r = 0)) 0 0 (fun _ => False) := by
  refine Met.ofW (cc := cX6_gone) (maxL := 3) (ret := (some .int)) (by decide) rfl ?_
  intro p e s m args below meth c s₁ B hml hv
  obtain ⟨rfl, hP, hK⟩ := hv
  have hx := B.exec
  have hb := B.bytes
  have hr := B.returns
  have hts := atoms_spec (ws := wsX6_gone) B.pre
  have hown : s.vm.findClass RX6 = some m.cls := findClass_of_methodNamed B.named
  have hlocks := B.notSynchronized
  have hl := lv_entry ([.ref m0]) (n := 3) (Nat.le_of_ble_eq_true rfl)
  rw [lg_entry_eq]
  generalize (lg_sl ([.ref m0]) ++ List.replicate (3 - (lg_sl ([.ref m0])).length) Slot.unset).toArray = ls at hl ⊢
  have hl : lv_has ls 3 [(0, .ref m0)] := hl
  refine lv_iconst (v := 0) hx hb dX6_gone_0 (by decide) ?_
  refine lv_istore_n (lv' := [(1, .int 0), (0, .ref m0)]) hx hb dX6_gone_1 rfl hl (by decide) rfl (fun ls hl => ?_)
  refine lv_iconst (v := 1) hx hb dX6_gone_2 (by decide) ?_
  refine lv_istore_n (lv' := [(2, .int 1), (1, .int 0), (0, .ref m0)]) hx hb dX6_gone_3 rfl hl (by decide) rfl (fun ls hl => ?_)
  refine lv_iload_n hx hb dX6_gone_4 rfl (lv_at hl 0 rfl) ?_
  refine lv_bipush (v := 11) hx hb dX6_gone_5 (by decide) ?_
  refine lv_icmp_ge (tgt := 25) hx hb dX6_gone_7 (by decide) (fun c7_1 => ?_) (fun c7_1 => ?_)
  · exact absurd c7_1 (by decide)
  refine lv_iload_n hx hb dX6_gone_10 rfl (lv_at hl 1 rfl) ?_
  refine lv_aload_n hx hb dX6_gone_11 rfl (lv_at hl 2 rfl) ?_
  refine va_get (D := D) (ci := 6) (v := .ref mw) (C := RX6) (T := TX6) (N := 39) hx hb hts in_X6_gone_X6 hown hK hP 0 rfl rfl 2 (by decide) (hts _ wd_X6_gone_0) (fun _ h9 => h9) rfl dX6_gone_12 ?_
  refine lv_iload_n hx hb dX6_gone_15 rfl (lv_at hl 0 rfl) ?_
  refine va_iald hx hb hK hP 1 0 rfl rfl (show ¬ ((1 : Int32) < 0 ∨ 11 ≤ (1 : Int32).toNatClampNeg) by decide) dX6_gone_16 ?_
  refine lv_topi (fun z_2 ez_2 => ?_)
  obtain rfl : z_2 = 0 := ez_2
  refine lv_iadd hx hb dX6_gone_17 ?_
  refine lv_topi (fun z_3 ez_3 => ?_)
  obtain rfl : z_3 = 0 := ez_3.trans (by decide)
  refine lv_istore_n (lv' := [(1, .int 0), (2, .int 1), (0, .ref m0)]) hx hb dX6_gone_18 rfl hl (by decide) rfl (fun ls hl => ?_)
  refine lv_iinc (v := 2) (lv' := [(2, .int 2), (1, .int 0), (0, .ref m0)]) hx hb dX6_gone_19 hl (k := 1) rfl (by decide) (by decide) rfl (fun ls hl => ?_)
  refine lv_goto (tgt := 4) hx hb dX6_gone_22 (by decide) ?_
  refine lv_iload_n hx hb dX6_gone_4 rfl (lv_at hl 0 rfl) ?_
  refine lv_bipush (v := 11) hx hb dX6_gone_5 (by decide) ?_
  refine lv_icmp_ge (tgt := 25) hx hb dX6_gone_7 (by decide) (fun c7_4 => ?_) (fun c7_4 => ?_)
  · exact absurd c7_4 (by decide)
  refine lv_iload_n hx hb dX6_gone_10 rfl (lv_at hl 1 rfl) ?_
  refine lv_aload_n hx hb dX6_gone_11 rfl (lv_at hl 2 rfl) ?_
  refine va_get (D := D) (ci := 6) (v := .ref mw) (C := RX6) (T := TX6) (N := 39) hx hb hts in_X6_gone_X6 hown hK hP 0 rfl rfl 2 (by decide) (hts _ wd_X6_gone_0) (fun _ h9 => h9) rfl dX6_gone_12 ?_
  refine lv_iload_n hx hb dX6_gone_15 rfl (lv_at hl 0 rfl) ?_
  refine va_iald hx hb hK hP 1 0 rfl rfl (show ¬ ((2 : Int32) < 0 ∨ 11 ≤ (2 : Int32).toNatClampNeg) by decide) dX6_gone_16 ?_
  refine lv_topi (fun z_5 ez_5 => ?_)
  obtain rfl : z_5 = 0 := ez_5
  refine lv_iadd hx hb dX6_gone_17 ?_
  refine lv_topi (fun z_6 ez_6 => ?_)
  obtain rfl : z_6 = 0 := ez_6.trans (by decide)
  refine lv_istore_n (lv' := [(1, .int 0), (2, .int 2), (0, .ref m0)]) hx hb dX6_gone_18 rfl hl (by decide) rfl (fun ls hl => ?_)
  refine lv_iinc (v := 3) (lv' := [(2, .int 3), (1, .int 0), (0, .ref m0)]) hx hb dX6_gone_19 hl (k := 1) rfl (by decide) (by decide) rfl (fun ls hl => ?_)
  refine lv_goto (tgt := 4) hx hb dX6_gone_22 (by decide) ?_
  refine lv_iload_n hx hb dX6_gone_4 rfl (lv_at hl 0 rfl) ?_
  refine lv_bipush (v := 11) hx hb dX6_gone_5 (by decide) ?_
  refine lv_icmp_ge (tgt := 25) hx hb dX6_gone_7 (by decide) (fun c7_7 => ?_) (fun c7_7 => ?_)
  · exact absurd c7_7 (by decide)
  refine lv_iload_n hx hb dX6_gone_10 rfl (lv_at hl 1 rfl) ?_
  refine lv_aload_n hx hb dX6_gone_11 rfl (lv_at hl 2 rfl) ?_
  refine va_get (D := D) (ci := 6) (v := .ref mw) (C := RX6) (T := TX6) (N := 39) hx hb hts in_X6_gone_X6 hown hK hP 0 rfl rfl 2 (by decide) (hts _ wd_X6_gone_0) (fun _ h9 => h9) rfl dX6_gone_12 ?_
  refine lv_iload_n hx hb dX6_gone_15 rfl (lv_at hl 0 rfl) ?_
  refine va_iald hx hb hK hP 1 0 rfl rfl (show ¬ ((3 : Int32) < 0 ∨ 11 ≤ (3 : Int32).toNatClampNeg) by decide) dX6_gone_16 ?_
  refine lv_topi (fun z_8 ez_8 => ?_)
  obtain rfl : z_8 = 0 := ez_8
  refine lv_iadd hx hb dX6_gone_17 ?_
  refine lv_topi (fun z_9 ez_9 => ?_)
  obtain rfl : z_9 = 0 := ez_9.trans (by decide)
  refine lv_istore_n (lv' := [(1, .int 0), (2, .int 3), (0, .ref m0)]) hx hb dX6_gone_18 rfl hl (by decide) rfl (fun ls hl => ?_)
  refine lv_iinc (v := 4) (lv' := [(2, .int 4), (1, .int 0), (0, .ref m0)]) hx hb dX6_gone_19 hl (k := 1) rfl (by decide) (by decide) rfl (fun ls hl => ?_)
  refine lv_goto (tgt := 4) hx hb dX6_gone_22 (by decide) ?_
  refine lv_iload_n hx hb dX6_gone_4 rfl (lv_at hl 0 rfl) ?_
  refine lv_bipush (v := 11) hx hb dX6_gone_5 (by decide) ?_
  refine lv_icmp_ge (tgt := 25) hx hb dX6_gone_7 (by decide) (fun c7_10 => ?_) (fun c7_10 => ?_)
  · exact absurd c7_10 (by decide)
  refine lv_iload_n hx hb dX6_gone_10 rfl (lv_at hl 1 rfl) ?_
  refine lv_aload_n hx hb dX6_gone_11 rfl (lv_at hl 2 rfl) ?_
  refine va_get (D := D) (ci := 6) (v := .ref mw) (C := RX6) (T := TX6) (N := 39) hx hb hts in_X6_gone_X6 hown hK hP 0 rfl rfl 2 (by decide) (hts _ wd_X6_gone_0) (fun _ h9 => h9) rfl dX6_gone_12 ?_
  refine lv_iload_n hx hb dX6_gone_15 rfl (lv_at hl 0 rfl) ?_
  refine va_iald hx hb hK hP 1 0 rfl rfl (show ¬ ((4 : Int32) < 0 ∨ 11 ≤ (4 : Int32).toNatClampNeg) by decide) dX6_gone_16 ?_
  refine lv_topi (fun z_11 ez_11 => ?_)
  obtain rfl : z_11 = 0 := ez_11
  refine lv_iadd hx hb dX6_gone_17 ?_
  refine lv_topi (fun z_12 ez_12 => ?_)
  obtain rfl : z_12 = 0 := ez_12.trans (by decide)
  refine lv_istore_n (lv' := [(1, .int 0), (2, .int 4), (0, .ref m0)]) hx hb dX6_gone_18 rfl hl (by decide) rfl (fun ls hl => ?_)
  refine lv_iinc (v := 5) (lv' := [(2, .int 5), (1, .int 0), (0, .ref m0)]) hx hb dX6_gone_19 hl (k := 1) rfl (by decide) (by decide) rfl (fun ls hl => ?_)
  refine lv_goto (tgt := 4) hx hb dX6_gone_22 (by decide) ?_
  refine lv_iload_n hx hb dX6_gone_4 rfl (lv_at hl 0 rfl) ?_
  refine lv_bipush (v := 11) hx hb dX6_gone_5 (by decide) ?_
  refine lv_icmp_ge (tgt := 25) hx hb dX6_gone_7 (by decide) (fun c7_13 => ?_) (fun c7_13 => ?_)
  · exact absurd c7_13 (by decide)
  refine lv_iload_n hx hb dX6_gone_10 rfl (lv_at hl 1 rfl) ?_
  refine lv_aload_n hx hb dX6_gone_11 rfl (lv_at hl 2 rfl) ?_
  refine va_get (D := D) (ci := 6) (v := .ref mw) (C := RX6) (T := TX6) (N := 39) hx hb hts in_X6_gone_X6 hown hK hP 0 rfl rfl 2 (by decide) (hts _ wd_X6_gone_0) (fun _ h9 => h9) rfl dX6_gone_12 ?_
  refine lv_iload_n hx hb dX6_gone_15 rfl (lv_at hl 0 rfl) ?_
  refine va_iald hx hb hK hP 1 0 rfl rfl (show ¬ ((5 : Int32) < 0 ∨ 11 ≤ (5 : Int32).toNatClampNeg) by decide) dX6_gone_16 ?_
  refine lv_topi (fun z_14 ez_14 => ?_)
  obtain rfl : z_14 = 0 := ez_14
  refine lv_iadd hx hb dX6_gone_17 ?_
  refine lv_topi (fun z_15 ez_15 => ?_)
  obtain rfl : z_15 = 0 := ez_15.trans (by decide)
  refine lv_istore_n (lv' := [(1, .int 0), (2, .int 5), (0, .ref m0)]) hx hb dX6_gone_18 rfl hl (by decide) rfl (fun ls hl => ?_)
  refine lv_iinc (v := 6) (lv' := [(2, .int 6), (1, .int 0), (0, .ref m0)]) hx hb dX6_gone_19 hl (k := 1) rfl (by decide) (by decide) rfl (fun ls hl => ?_)
  refine lv_goto (tgt := 4) hx hb dX6_gone_22 (by decide) ?_
  refine lv_iload_n hx hb dX6_gone_4 rfl (lv_at hl 0 rfl) ?_
  refine lv_bipush (v := 11) hx hb dX6_gone_5 (by decide) ?_
  refine lv_icmp_ge (tgt := 25) hx hb dX6_gone_7 (by decide) (fun c7_16 => ?_) (fun c7_16 => ?_)
  · exact absurd c7_16 (by decide)
  refine lv_iload_n hx hb dX6_gone_10 rfl (lv_at hl 1 rfl) ?_
  refine lv_aload_n hx hb dX6_gone_11 rfl (lv_at hl 2 rfl) ?_
  refine va_get (D := D) (ci := 6) (v := .ref mw) (C := RX6) (T := TX6) (N := 39) hx hb hts in_X6_gone_X6 hown hK hP 0 rfl rfl 2 (by decide) (hts _ wd_X6_gone_0) (fun _ h9 => h9) rfl dX6_gone_12 ?_
  refine lv_iload_n hx hb dX6_gone_15 rfl (lv_at hl 0 rfl) ?_
  refine va_iald hx hb hK hP 1 0 rfl rfl (show ¬ ((6 : Int32) < 0 ∨ 11 ≤ (6 : Int32).toNatClampNeg) by decide) dX6_gone_16 ?_
  refine lv_topi (fun z_17 ez_17 => ?_)
  obtain rfl : z_17 = 0 := ez_17
  refine lv_iadd hx hb dX6_gone_17 ?_
  refine lv_topi (fun z_18 ez_18 => ?_)
  obtain rfl : z_18 = 0 := ez_18.trans (by decide)
  refine lv_istore_n (lv' := [(1, .int 0), (2, .int 6), (0, .ref m0)]) hx hb dX6_gone_18 rfl hl (by decide) rfl (fun ls hl => ?_)
  refine lv_iinc (v := 7) (lv' := [(2, .int 7), (1, .int 0), (0, .ref m0)]) hx hb dX6_gone_19 hl (k := 1) rfl (by decide) (by decide) rfl (fun ls hl => ?_)
  refine lv_goto (tgt := 4) hx hb dX6_gone_22 (by decide) ?_
  refine lv_iload_n hx hb dX6_gone_4 rfl (lv_at hl 0 rfl) ?_
  refine lv_bipush (v := 11) hx hb dX6_gone_5 (by decide) ?_
  refine lv_icmp_ge (tgt := 25) hx hb dX6_gone_7 (by decide) (fun c7_19 => ?_) (fun c7_19 => ?_)
  · exact absurd c7_19 (by decide)
  refine lv_iload_n hx hb dX6_gone_10 rfl (lv_at hl 1 rfl) ?_
  refine lv_aload_n hx hb dX6_gone_11 rfl (lv_at hl 2 rfl) ?_
  refine va_get (D := D) (ci := 6) (v := .ref mw) (C := RX6) (T := TX6) (N := 39) hx hb hts in_X6_gone_X6 hown hK hP 0 rfl rfl 2 (by decide) (hts _ wd_X6_gone_0) (fun _ h9 => h9) rfl dX6_gone_12 ?_
  refine lv_iload_n hx hb dX6_gone_15 rfl (lv_at hl 0 rfl) ?_
  refine va_iald hx hb hK hP 1 0 rfl rfl (show ¬ ((7 : Int32) < 0 ∨ 11 ≤ (7 : Int32).toNatClampNeg) by decide) dX6_gone_16 ?_
  refine lv_topi (fun z_20 ez_20 => ?_)
  obtain rfl : z_20 = 0 := ez_20
  refine lv_iadd hx hb dX6_gone_17 ?_
  refine lv_topi (fun z_21 ez_21 => ?_)
  obtain rfl : z_21 = 0 := ez_21.trans (by decide)
  refine lv_istore_n (lv' := [(1, .int 0), (2, .int 7), (0, .ref m0)]) hx hb dX6_gone_18 rfl hl (by decide) rfl (fun ls hl => ?_)
  refine lv_iinc (v := 8) (lv' := [(2, .int 8), (1, .int 0), (0, .ref m0)]) hx hb dX6_gone_19 hl (k := 1) rfl (by decide) (by decide) rfl (fun ls hl => ?_)
  refine lv_goto (tgt := 4) hx hb dX6_gone_22 (by decide) ?_
  refine lv_iload_n hx hb dX6_gone_4 rfl (lv_at hl 0 rfl) ?_
  refine lv_bipush (v := 11) hx hb dX6_gone_5 (by decide) ?_
  refine lv_icmp_ge (tgt := 25) hx hb dX6_gone_7 (by decide) (fun c7_22 => ?_) (fun c7_22 => ?_)
  · exact absurd c7_22 (by decide)
  refine lv_iload_n hx hb dX6_gone_10 rfl (lv_at hl 1 rfl) ?_
  refine lv_aload_n hx hb dX6_gone_11 rfl (lv_at hl 2 rfl) ?_
  refine va_get (D := D) (ci := 6) (v := .ref mw) (C := RX6) (T := TX6) (N := 39) hx hb hts in_X6_gone_X6 hown hK hP 0 rfl rfl 2 (by decide) (hts _ wd_X6_gone_0) (fun _ h9 => h9) rfl dX6_gone_12 ?_
  refine lv_iload_n hx hb dX6_gone_15 rfl (lv_at hl 0 rfl) ?_
  refine va_iald hx hb hK hP 1 0 rfl rfl (show ¬ ((8 : Int32) < 0 ∨ 11 ≤ (8 : Int32).toNatClampNeg) by decide) dX6_gone_16 ?_
  refine lv_topi (fun z_23 ez_23 => ?_)
  obtain rfl : z_23 = 0 := ez_23
  refine lv_iadd hx hb dX6_gone_17 ?_
  refine lv_topi (fun z_24 ez_24 => ?_)
  obtain rfl : z_24 = 0 := ez_24.trans (by decide)
  refine lv_istore_n (lv' := [(1, .int 0), (2, .int 8), (0, .ref m0)]) hx hb dX6_gone_18 rfl hl (by decide) rfl (fun ls hl => ?_)
  refine lv_iinc (v := 9) (lv' := [(2, .int 9), (1, .int 0), (0, .ref m0)]) hx hb dX6_gone_19 hl (k := 1) rfl (by decide) (by decide) rfl (fun ls hl => ?_)
  refine lv_goto (tgt := 4) hx hb dX6_gone_22 (by decide) ?_
  refine lv_iload_n hx hb dX6_gone_4 rfl (lv_at hl 0 rfl) ?_
  refine lv_bipush (v := 11) hx hb dX6_gone_5 (by decide) ?_
  refine lv_icmp_ge (tgt := 25) hx hb dX6_gone_7 (by decide) (fun c7_25 => ?_) (fun c7_25 => ?_)
  · exact absurd c7_25 (by decide)
  refine lv_iload_n hx hb dX6_gone_10 rfl (lv_at hl 1 rfl) ?_
  refine lv_aload_n hx hb dX6_gone_11 rfl (lv_at hl 2 rfl) ?_
  refine va_get (D := D) (ci := 6) (v := .ref mw) (C := RX6) (T := TX6) (N := 39) hx hb hts in_X6_gone_X6 hown hK hP 0 rfl rfl 2 (by decide) (hts _ wd_X6_gone_0) (fun _ h9 => h9) rfl dX6_gone_12 ?_
  refine lv_iload_n hx hb dX6_gone_15 rfl (lv_at hl 0 rfl) ?_
  refine va_iald hx hb hK hP 1 0 rfl rfl (show ¬ ((9 : Int32) < 0 ∨ 11 ≤ (9 : Int32).toNatClampNeg) by decide) dX6_gone_16 ?_
  refine lv_topi (fun z_26 ez_26 => ?_)
  obtain rfl : z_26 = 0 := ez_26
  refine lv_iadd hx hb dX6_gone_17 ?_
  refine lv_topi (fun z_27 ez_27 => ?_)
  obtain rfl : z_27 = 0 := ez_27.trans (by decide)
  refine lv_istore_n (lv' := [(1, .int 0), (2, .int 9), (0, .ref m0)]) hx hb dX6_gone_18 rfl hl (by decide) rfl (fun ls hl => ?_)
  refine lv_iinc (v := 10) (lv' := [(2, .int 10), (1, .int 0), (0, .ref m0)]) hx hb dX6_gone_19 hl (k := 1) rfl (by decide) (by decide) rfl (fun ls hl => ?_)
  refine lv_goto (tgt := 4) hx hb dX6_gone_22 (by decide) ?_
  refine lv_iload_n hx hb dX6_gone_4 rfl (lv_at hl 0 rfl) ?_
  refine lv_bipush (v := 11) hx hb dX6_gone_5 (by decide) ?_
  refine lv_icmp_ge (tgt := 25) hx hb dX6_gone_7 (by decide) (fun c7_28 => ?_) (fun c7_28 => ?_)
  · exact absurd c7_28 (by decide)
  refine lv_iload_n hx hb dX6_gone_10 rfl (lv_at hl 1 rfl) ?_
  refine lv_aload_n hx hb dX6_gone_11 rfl (lv_at hl 2 rfl) ?_
  refine va_get (D := D) (ci := 6) (v := .ref mw) (C := RX6) (T := TX6) (N := 39) hx hb hts in_X6_gone_X6 hown hK hP 0 rfl rfl 2 (by decide) (hts _ wd_X6_gone_0) (fun _ h9 => h9) rfl dX6_gone_12 ?_
  refine lv_iload_n hx hb dX6_gone_15 rfl (lv_at hl 0 rfl) ?_
  refine va_iald hx hb hK hP 1 0 rfl rfl (show ¬ ((10 : Int32) < 0 ∨ 11 ≤ (10 : Int32).toNatClampNeg) by decide) dX6_gone_16 ?_
  refine lv_topi (fun z_29 ez_29 => ?_)
  obtain rfl : z_29 = 0 := ez_29
  refine lv_iadd hx hb dX6_gone_17 ?_
  refine lv_topi (fun z_30 ez_30 => ?_)
  obtain rfl : z_30 = 0 := ez_30.trans (by decide)
  refine lv_istore_n (lv' := [(1, .int 0), (2, .int 10), (0, .ref m0)]) hx hb dX6_gone_18 rfl hl (by decide) rfl (fun ls hl => ?_)
  refine lv_iinc (v := 11) (lv' := [(2, .int 11), (1, .int 0), (0, .ref m0)]) hx hb dX6_gone_19 hl (k := 1) rfl (by decide) (by decide) rfl (fun ls hl => ?_)
  refine lv_goto (tgt := 4) hx hb dX6_gone_22 (by decide) ?_
  refine lv_iload_n hx hb dX6_gone_4 rfl (lv_at hl 0 rfl) ?_
  refine lv_bipush (v := 11) hx hb dX6_gone_5 (by decide) ?_
  refine lv_icmp_ge (tgt := 25) hx hb dX6_gone_7 (by decide) (fun c7_31 => ?_) (fun c7_31 => ?_)
  · skip
    refine lv_iload_n hx hb dX6_gone_25 rfl (lv_at hl 1 rfl) ?_
    exact W.iret (v := 0) hx hb hr (fun t ht hW => ⟨_, rfl, (by first | rfl | trivial | (simp [c7_31]; done) | ((try first | rw [if_pos c7_31] | rw [if_neg c7_31]); first | done | rfl | trivial) | (simp_all; done)), ht⟩) (fun q hq => absurd hq List.not_mem_nil) dX6_gone_26
  · exact absurd c7_31 (by decide)

set_option maxRecDepth 20000 in
theorem in_X6_told_X6 : ∀ w ∈ wsX60, w ∈ wsX6_told := by decide +kernel
set_option maxRecDepth 20000 in
theorem wd_X6_told_0 : Cond.fieldLink RX6 98 "ShoeTableModel" "hands" "I" ∈ wsX6_told := by decide +kernel
set_option maxRecDepth 20000 in
theorem ggX6_told_X6_handValue : GoodIn wsX6_told wsX6_handValue := goodIn_r _ [12, 13, 14, 15, 11, 16, 1, 7, 17, 18, 19, 20, 21, 22, 23, 24, 2, 42, 43, 44, 45, 46, 47, 48, 49, 50, 51, 52, 53, 54, 55, 56, 57, 58, 59, 60, 61, 62, 63, 64, 65, 66, 67, 68, 69, 70, 71, 72, 73, 74, 75, 76, 77, 78, 79, 80] (by decide +kernel) (by decide +kernel)
set_option maxRecDepth 20000 in
theorem gX6_told_X6_handValue : GoodIn wsX6_told (wsV RX6 147 RX6 yX6_handValue wsX6_handValue) := goodIn_app (goodIn_of _ (by decide +kernel)) ggX6_told_X6_handValue
set_option maxRecDepth 20000 in
theorem ggX6_told_X6_handSum : GoodIn wsX6_told wsX6_handSum := goodIn_r _ [16, 1, 7, 42, 43, 44, 45, 46, 47, 48, 49, 50, 51, 52, 53, 54, 55, 56, 57, 58, 59, 60, 61, 62, 63, 64, 65, 66, 67, 68, 69, 70, 71, 72, 73, 74, 75, 76, 77, 78, 79, 80] (by decide +kernel) (by decide +kernel)
set_option maxRecDepth 20000 in
theorem gX6_told_X6_handSum : GoodIn wsX6_told (wsV RX6 136 RX6 yX6_handSum wsX6_handSum) := goodIn_app (goodIn_of _ (by decide +kernel)) ggX6_told_X6_handSum
set_option maxRecDepth 20000 in
theorem ggX6_told_X6_isNatural : GoodIn wsX6_told wsX6_isNatural := goodIn_r _ [28, 1, 2, 8, 9, 10, 11, 12, 13, 14, 15, 16, 7, 17, 18, 19, 20, 21, 22, 23, 24, 42, 43, 44, 45, 46, 47, 48, 49, 50, 51, 52, 53, 54, 55, 56, 57, 58, 59, 60, 61, 62, 63, 64, 65, 66, 67, 68, 69, 70, 71, 72, 73, 74, 75, 76, 77, 78, 79, 80] (by decide +kernel) (by decide +kernel)
set_option maxRecDepth 20000 in
theorem gX6_told_X6_isNatural : GoodIn wsX6_told (wsV RX6 150 RX6 yX6_isNatural wsX6_isNatural) := goodIn_app (goodIn_of _ (by decide +kernel)) ggX6_told_X6_isNatural
set_option maxRecDepth 20000 in
theorem wd_X6_told_1 : Cond.fieldLink RX6 25 "ShoeTableModel" "target" "I" ∈ wsX6_told := by decide +kernel
set_option maxRecDepth 20000 in
theorem wd_X6_told_2 : Cond.fieldLink RX6 101 "ShoeTableModel" "up" "I" ∈ wsX6_told := by decide +kernel
set_option maxRecDepth 20000 in
theorem ggX6_told_X6_counted : GoodIn wsX6_told wsX6_counted := goodIn_r _ [32, 33, 34, 42, 43, 44, 45, 46, 47, 48, 49, 50, 51, 52, 53, 54, 55, 56, 57, 58, 59, 60, 61, 62, 63, 64, 65, 66, 67, 68, 69, 70, 71, 72, 73, 74, 75, 76, 77, 78, 79, 80] (by decide +kernel) (by decide +kernel)
set_option maxRecDepth 20000 in
theorem gX6_told_X6_counted : GoodIn wsX6_told (wsV RX6 153 RX6 yX6_counted wsX6_counted) := goodIn_app (goodIn_of _ (by decide +kernel)) ggX6_told_X6_counted
set_option maxRecDepth 20000 in
theorem wd_X6_told_3 : Cond.fieldLink RX6 156 "ShoeTableModel" "bank" "I" ∈ wsX6_told := by decide +kernel
set_option maxRecDepth 20000 in
theorem ggX6_told_X6_gone : GoodIn wsX6_told wsX6_gone := goodIn_r _ [38, 34, 42, 43, 44, 45, 46, 47, 48, 49, 50, 51, 52, 53, 54, 55, 56, 57, 58, 59, 60, 61, 62, 63, 64, 65, 66, 67, 68, 69, 70, 71, 72, 73, 74, 75, 76, 77, 78, 79, 80] (by decide +kernel) (by decide +kernel)
set_option maxRecDepth 20000 in
theorem gX6_told_X6_gone : GoodIn wsX6_told (wsV RX6 159 RX6 yX6_gone wsX6_gone) := goodIn_app (goodIn_of _ (by decide +kernel)) ggX6_told_X6_gone
set_option maxRecDepth 20000 in
theorem wd_X6_told_4 : Cond.constantLong RX6 86 (10) ∈ wsX6_told := by decide +kernel
set_option maxRecDepth 20000 in
theorem wd_X6_told_5 : Cond.constantLong RX6 110 (21) ∈ wsX6_told := by decide +kernel
set_option maxRecDepth 20000 in
theorem ggX6_told_X6_in : GoodIn wsX6_told wsX6_in := goodIn_r _ [41] (by decide +kernel) (by decide +kernel)
set_option maxRecDepth 20000 in
theorem gX6_told_X6_in : GoodIn wsX6_told (va_wsS RX6 88 yX6_in wsX6_in) := goodIn_app (goodIn_of _ (by decide +kernel)) ggX6_told_X6_in
set_option maxHeartbeats 400000 in
set_option maxRecDepth 100000 in
/-- X6_told -/
theorem c_X6_told (l : Launch) (D : va_G) (cI cJ cQ : ClassId) (m0 : Nat) (mh : Nat) (mk : Nat) (mw : Nat) (ms : Nat) (mf : Nat) (q0 : Nat) (q1 : Nat) (q2 : Nat) (q3 : Nat) (q4 : Nat) (q5 : Nat) (q6 : Nat) (q7 : Nat) (k0 : Nat) (k1 : Nat) (k2 : Nat) (k3 : Nat) (p0 : Int32)  : Met l yX6_told wsX6_told ({ frames := 2, cells := 0, slots := 0, locals := 42 }) (va_Pc [.ref m0, .int p0] (rP D (gTy cI cJ cQ) [(m0, .inr (6, [.ref ms, .ref mf, .ref mw, .ref mk, .int 0, .ref mh, .int 0, .int 0, .int 21, .int 17, .int 0, .int 1, .int 1, .int 1, .int 3, .long 1, .int 0, .ref q0, .ref q1, .ref q2, .int 0, .ref q3, .ref q4, .ref q5, .ref q6, .ref q7, .int 0, .int 0, .int 0, .int 0, .int 0, .int 0, .int 0, .int 0, .int 0, .ref k0, .ref k1, .ref k2, .ref k3])), (mh, .inl (cI, 12, .inl (fun _ => 0))), (mk, .inl (cI, 11, .inl (fun _ => 0))), (mw, .inl (cI, 11, .inl (fun _ => 0)))])) (vp_Si (fun r => r = toldM p0)) 0 0 (fun _ => False) := by
  refine Met.ofW (cc := cX6_told) (maxL := 2) (ret := (some .int)) (by decide) rfl ?_
  intro p e s m args below meth c s₁ B hml hv
  obtain ⟨rfl, hP, hK⟩ := hv
  have hx := B.exec
  have hb := B.bytes
  have hr := B.returns
  have hts := atoms_spec (ws := wsX6_told) B.pre
  have hown : s.vm.findClass RX6 = some m.cls := findClass_of_methodNamed B.named
  have hlocks := B.notSynchronized
  have hl := lv_entry ([.ref m0, .int p0]) (n := 2) (Nat.le_of_ble_eq_true rfl)
  rw [lg_entry_eq]
  generalize (lg_sl ([.ref m0, .int p0]) ++ List.replicate (2 - (lg_sl ([.ref m0, .int p0])).length) Slot.unset).toArray = ls at hl ⊢
  have hl : lv_has ls 2 [(0, .ref m0), (1, .int p0)] := hl
  refine lv_iload_n hx hb dX6_told_0 rfl (lv_at hl 1 rfl) ?_
  by_cases k0_1 : p0 = 0
  · subst k0_1
    refine lv_tableIn (off := 51) (tgt := 52) hx hb dX6_told_1 (by decide) (by decide) (by decide) (by decide) ?_
    refine lv_aload_n hx hb dX6_told_52 rfl (lv_at hl 0 rfl) ?_
    refine va_get (D := D) (ci := 6) (v := .int 0) (C := RX6) (T := TX6) (N := 39) hx hb hts in_X6_told_X6 hown hK hP 0 rfl rfl 6 (by decide) (hts _ wd_X6_told_0) (fun _ h9 => h9) rfl dX6_told_53 ?_
    exact W.iret (v := 0) hx hb hr (fun t ht hW => ⟨_, rfl, (by first | rfl | decide | (unfold toldM; first | (simp []; done) | rfl)), ht⟩) (fun q hq => absurd hq List.not_mem_nil) dX6_told_56
  by_cases k1_2 : p0 = 1
  · subst k1_2
    refine lv_tableIn (off := 56) (tgt := 57) hx hb dX6_told_1 (by decide) (by decide) (by decide) (by decide) ?_
    refine lv_aload_n hx hb dX6_told_57 rfl (lv_at hl 0 rfl) ?_
    have hPc := hP.sub (ws' := [(m0, .inr (6, [.ref ms, .ref mf, .ref mw, .ref mk, .int 0, .ref mh, .int 0, .int 0, .int 21, .int 17, .int 0, .int 1, .int 1, .int 1, .int 3, .long 1, .int 0, .ref q0, .ref q1, .ref q2, .int 0, .ref q3, .ref q4, .ref q5, .ref q6, .ref q7, .int 0, .int 0, .int 0, .int 0, .int 0, .int 0, .int 0, .int 0, .int 0, .ref k0, .ref k1, .ref k2, .ref k3])), (mh, .inl (cI, 12, .inl (fun _ => 0)))]) [0, 1] rfl
    refine vp_callSi (W.runV (As := []) (rest := []) ⟨hx, hb, hml, hown, hts⟩ (c_X6_handValue l D cI cJ cQ m0 mh ms mf mw mk q0 q1 q2 q3 q4 q5 q6 q7 k0 k1 k2 k3) (cwV 0 hts gX6_told_X6_handValue rfl rfl rfl (by decide +kernel) ⟨Nat.le_of_ble_eq_true rfl, Nat.le_of_ble_eq_true rfl⟩) (rP_preV (ci := 6) (q0 := 0) hPc hK rfl rfl) rfl rfl hl.1 rfl (lv_room (Nat.le_of_ble_eq_true rfl)) dX6_told_58 ⟨Nat.le_of_ble_eq_true rfl, Nat.le_of_ble_eq_true rfl⟩) (fun r_3 hr_3 => ?_)
    subst hr_3
    exact W.iret (v := 0) hx hb hr (fun t ht hW => ⟨_, rfl, (by first | rfl | decide | (unfold toldM; first | (simp []; done) | rfl)), ht⟩) (fun q hq => absurd hq List.not_mem_nil) dX6_told_61
  by_cases k2_4 : p0 = 2
  · subst k2_4
    refine lv_tableIn (off := 61) (tgt := 62) hx hb dX6_told_1 (by decide) (by decide) (by decide) (by decide) ?_
    refine lv_aload_n hx hb dX6_told_62 rfl (lv_at hl 0 rfl) ?_
    have hPc := hP.sub (ws' := [(m0, .inr (6, [.ref ms, .ref mf, .ref mw, .ref mk, .int 0, .ref mh, .int 0, .int 0, .int 21, .int 17, .int 0, .int 1, .int 1, .int 1, .int 3, .long 1, .int 0, .ref q0, .ref q1, .ref q2, .int 0, .ref q3, .ref q4, .ref q5, .ref q6, .ref q7, .int 0, .int 0, .int 0, .int 0, .int 0, .int 0, .int 0, .int 0, .int 0, .ref k0, .ref k1, .ref k2, .ref k3])), (mh, .inl (cI, 12, .inl (fun _ => 0)))]) [0, 1] rfl
    refine vp_callSi (W.runV (As := []) (rest := []) ⟨hx, hb, hml, hown, hts⟩ (c_X6_handValue l D cI cJ cQ m0 mh ms mf mw mk q0 q1 q2 q3 q4 q5 q6 q7 k0 k1 k2 k3) (cwV 0 hts gX6_told_X6_handValue rfl rfl rfl (by decide +kernel) ⟨Nat.le_of_ble_eq_true rfl, Nat.le_of_ble_eq_true rfl⟩) (rP_preV (ci := 6) (q0 := 0) hPc hK rfl rfl) rfl rfl hl.1 rfl (lv_room (Nat.le_of_ble_eq_true rfl)) dX6_told_63 ⟨Nat.le_of_ble_eq_true rfl, Nat.le_of_ble_eq_true rfl⟩) (fun r_5 hr_5 => ?_)
    subst hr_5
    refine lv_aload_n hx hb dX6_told_66 rfl (lv_at hl 0 rfl) ?_
    have hPc := hP.sub (ws' := [(m0, .inr (6, [.ref ms, .ref mf, .ref mw, .ref mk, .int 0, .ref mh, .int 0, .int 0, .int 21, .int 17, .int 0, .int 1, .int 1, .int 1, .int 3, .long 1, .int 0, .ref q0, .ref q1, .ref q2, .int 0, .ref q3, .ref q4, .ref q5, .ref q6, .ref q7, .int 0, .int 0, .int 0, .int 0, .int 0, .int 0, .int 0, .int 0, .int 0, .ref k0, .ref k1, .ref k2, .ref k3])), (mh, .inl (cI, 12, .inl (fun _ => 0)))]) [0, 1] rfl
    refine vp_callSi (W.runV (As := []) (rest := [.int 0]) ⟨hx, hb, hml, hown, hts⟩ (c_X6_handSum l D cI cJ cQ m0 mh ms mf mw mk q0 q1 q2 q3 q4 q5 q6 q7 k0 k1 k2 k3) (cwV 0 hts gX6_told_X6_handSum rfl rfl rfl (by decide +kernel) ⟨Nat.le_of_ble_eq_true rfl, Nat.le_of_ble_eq_true rfl⟩) (rP_preV (ci := 6) (q0 := 0) hPc hK rfl rfl) rfl rfl hl.1 rfl (lv_room (Nat.le_of_ble_eq_true rfl)) dX6_told_67 ⟨Nat.le_of_ble_eq_true rfl, Nat.le_of_ble_eq_true rfl⟩) (fun r_6 hr_6 => ?_)
    subst hr_6
    refine lv_icmp_le (tgt := 77) hx hb dX6_told_70 (by decide) (fun c70_7 => ?_) (fun c70_7 => ?_)
    · skip
      refine lv_iconst (v := 0) hx hb dX6_told_77 (by decide) ?_
      exact W.iret (v := 0) hx hb hr (fun t ht hW => ⟨_, rfl, (by first | rfl | decide | (unfold toldM; first | (simp [c70_7]; done) | ((try first | rw [if_pos c70_7] | rw [if_neg c70_7]); first | done | rfl | trivial))), ht⟩) (fun q hq => absurd hq List.not_mem_nil) dX6_told_78
    · exact absurd c70_7 (by decide)
  by_cases k3_8 : p0 = 3
  · subst k3_8
    refine lv_tableIn (off := 78) (tgt := 79) hx hb dX6_told_1 (by decide) (by decide) (by decide) (by decide) ?_
    refine lv_aload_n hx hb dX6_told_79 rfl (lv_at hl 0 rfl) ?_
    have hPc := hP.sub (ws' := [(m0, .inr (6, [.ref ms, .ref mf, .ref mw, .ref mk, .int 0, .ref mh, .int 0, .int 0, .int 21, .int 17, .int 0, .int 1, .int 1, .int 1, .int 3, .long 1, .int 0, .ref q0, .ref q1, .ref q2, .int 0, .ref q3, .ref q4, .ref q5, .ref q6, .ref q7, .int 0, .int 0, .int 0, .int 0, .int 0, .int 0, .int 0, .int 0, .int 0, .ref k0, .ref k1, .ref k2, .ref k3])), (mh, .inl (cI, 12, .inl (fun _ => 0)))]) [0, 1] rfl
    refine vp_callSi (W.runV (As := []) (rest := []) ⟨hx, hb, hml, hown, hts⟩ (c_X6_isNatural l D cI cJ cQ m0 mh ms mf mw mk q0 q1 q2 q3 q4 q5 q6 q7 k0 k1 k2 k3) (cwV 0 hts gX6_told_X6_isNatural rfl rfl rfl (by decide +kernel) ⟨Nat.le_of_ble_eq_true rfl, Nat.le_of_ble_eq_true rfl⟩) (rP_preV (ci := 6) (q0 := 0) hPc hK rfl rfl) rfl rfl hl.1 rfl (lv_room (Nat.le_of_ble_eq_true rfl)) dX6_told_80 ⟨Nat.le_of_ble_eq_true rfl, Nat.le_of_ble_eq_true rfl⟩) (fun r_9 hr_9 => ?_)
    subst hr_9
    refine lv_if_eq (tgt := 90) hx hb dX6_told_83 (by decide) (fun c83_10 => ?_) (fun c83_10 => ?_)
    · skip
      refine lv_iconst (v := 0) hx hb dX6_told_90 (by decide) ?_
      exact W.iret (v := 0) hx hb hr (fun t ht hW => ⟨_, rfl, (by first | rfl | decide | (unfold toldM; first | (simp [c83_10]; done) | ((try first | rw [if_pos c83_10] | rw [if_neg c83_10]); first | done | rfl | trivial))), ht⟩) (fun q hq => absurd hq List.not_mem_nil) dX6_told_91
    · exact absurd c83_10 (by decide)
  by_cases k4_11 : p0 = 4
  · subst k4_11
    refine lv_tableIn (off := 91) (tgt := 92) hx hb dX6_told_1 (by decide) (by decide) (by decide) (by decide) ?_
    refine lv_aload_n hx hb dX6_told_92 rfl (lv_at hl 0 rfl) ?_
    have hPc := hP.sub (ws' := [(m0, .inr (6, [.ref ms, .ref mf, .ref mw, .ref mk, .int 0, .ref mh, .int 0, .int 0, .int 21, .int 17, .int 0, .int 1, .int 1, .int 1, .int 3, .long 1, .int 0, .ref q0, .ref q1, .ref q2, .int 0, .ref q3, .ref q4, .ref q5, .ref q6, .ref q7, .int 0, .int 0, .int 0, .int 0, .int 0, .int 0, .int 0, .int 0, .int 0, .ref k0, .ref k1, .ref k2, .ref k3])), (mh, .inl (cI, 12, .inl (fun _ => 0)))]) [0, 1] rfl
    refine vp_callSi (W.runV (As := []) (rest := []) ⟨hx, hb, hml, hown, hts⟩ (c_X6_handValue l D cI cJ cQ m0 mh ms mf mw mk q0 q1 q2 q3 q4 q5 q6 q7 k0 k1 k2 k3) (cwV 0 hts gX6_told_X6_handValue rfl rfl rfl (by decide +kernel) ⟨Nat.le_of_ble_eq_true rfl, Nat.le_of_ble_eq_true rfl⟩) (rP_preV (ci := 6) (q0 := 0) hPc hK rfl rfl) rfl rfl hl.1 rfl (lv_room (Nat.le_of_ble_eq_true rfl)) dX6_told_93 ⟨Nat.le_of_ble_eq_true rfl, Nat.le_of_ble_eq_true rfl⟩) (fun r_12 hr_12 => ?_)
    subst hr_12
    refine lv_aload_n hx hb dX6_told_96 rfl (lv_at hl 0 rfl) ?_
    refine va_get (D := D) (ci := 6) (v := .int 21) (C := RX6) (T := TX6) (N := 39) hx hb hts in_X6_told_X6 hown hK hP 0 rfl rfl 8 (by decide) (hts _ wd_X6_told_1) (fun _ h9 => h9) rfl dX6_told_97 ?_
    refine lv_icmp_le (tgt := 107) hx hb dX6_told_100 (by decide) (fun c100_13 => ?_) (fun c100_13 => ?_)
    · skip
      refine lv_iconst (v := 0) hx hb dX6_told_107 (by decide) ?_
      exact W.iret (v := 0) hx hb hr (fun t ht hW => ⟨_, rfl, (by first | rfl | decide | (unfold toldM; first | (simp [c100_13]; done) | ((try first | rw [if_pos c100_13] | rw [if_neg c100_13]); first | done | rfl | trivial))), ht⟩) (fun q hq => absurd hq List.not_mem_nil) dX6_told_108
    · exact absurd c100_13 (by decide)
  by_cases k5_14 : p0 = 5
  · subst k5_14
    refine lv_tableIn (off := 108) (tgt := 109) hx hb dX6_told_1 (by decide) (by decide) (by decide) (by decide) ?_
    refine lv_aload_n hx hb dX6_told_109 rfl (lv_at hl 0 rfl) ?_
    refine va_get (D := D) (ci := 6) (v := .int 0) (C := RX6) (T := TX6) (N := 39) hx hb hts in_X6_told_X6 hown hK hP 0 rfl rfl 7 (by decide) (hts _ wd_X6_told_2) (fun _ h9 => h9) rfl dX6_told_110 ?_
    refine lv_if_le (tgt := 123) hx hb dX6_told_113 (by decide) (fun c113_15 => ?_) (fun c113_15 => ?_)
    · skip
      refine lv_iconst (v := (-1)) hx hb dX6_told_123 (by decide) ?_
      exact W.iret (v := (-1)) hx hb hr (fun t ht hW => ⟨_, rfl, (by first | rfl | decide | (unfold toldM; first | (simp [c113_15]; done) | ((try first | rw [if_pos c113_15] | rw [if_neg c113_15]); first | done | rfl | trivial))), ht⟩) (fun q hq => absurd hq List.not_mem_nil) dX6_told_124
    · exact absurd c113_15 (by decide)
  by_cases k6_16 : p0 = 6
  · subst k6_16
    refine lv_tableIn (off := 124) (tgt := 125) hx hb dX6_told_1 (by decide) (by decide) (by decide) (by decide) ?_
    refine lv_aload_n hx hb dX6_told_125 rfl (lv_at hl 0 rfl) ?_
    have hPc := hP.sub (ws' := [(m0, .inr (6, [.ref ms, .ref mf, .ref mw, .ref mk, .int 0, .ref mh, .int 0, .int 0, .int 21, .int 17, .int 0, .int 1, .int 1, .int 1, .int 3, .long 1, .int 0, .ref q0, .ref q1, .ref q2, .int 0, .ref q3, .ref q4, .ref q5, .ref q6, .ref q7, .int 0, .int 0, .int 0, .int 0, .int 0, .int 0, .int 0, .int 0, .int 0, .ref k0, .ref k1, .ref k2, .ref k3])), (mk, .inl (cI, 11, .inl (fun _ => 0))), (mw, .inl (cI, 11, .inl (fun _ => 0)))]) [0, 2, 3] rfl
    refine vp_callSi (W.runV (As := []) (rest := []) ⟨hx, hb, hml, hown, hts⟩ (c_X6_counted l D cI cJ cQ m0 mk mw ms mf mh q0 q1 q2 q3 q4 q5 q6 q7 k0 k1 k2 k3) (cwV 0 hts gX6_told_X6_counted rfl rfl rfl (by decide +kernel) ⟨Nat.le_of_ble_eq_true rfl, Nat.le_of_ble_eq_true rfl⟩) (rP_preV (ci := 6) (q0 := 0) hPc hK rfl rfl) rfl rfl hl.1 rfl (lv_room (Nat.le_of_ble_eq_true rfl)) dX6_told_126 ⟨Nat.le_of_ble_eq_true rfl, Nat.le_of_ble_eq_true rfl⟩) (fun r_17 hr_17 => ?_)
    subst hr_17
    exact W.iret (v := 0) hx hb hr (fun t ht hW => ⟨_, rfl, (by first | rfl | decide | (unfold toldM; first | (simp []; done) | rfl)), ht⟩) (fun q hq => absurd hq List.not_mem_nil) dX6_told_129
  by_cases k7_18 : p0 = 7
  · subst k7_18
    refine lv_tableIn (off := 129) (tgt := 130) hx hb dX6_told_1 (by decide) (by decide) (by decide) (by decide) ?_
    refine lv_aload_n hx hb dX6_told_130 rfl (lv_at hl 0 rfl) ?_
    refine va_get (D := D) (ci := 6) (v := .int 0) (C := RX6) (T := TX6) (N := 39) hx hb hts in_X6_told_X6 hown hK hP 0 rfl rfl 16 (by decide) (hts _ wd_X6_told_3) (fun _ h9 => h9) rfl dX6_told_131 ?_
    exact W.iret (v := 0) hx hb hr (fun t ht hW => ⟨_, rfl, (by first | rfl | decide | (unfold toldM; first | (simp []; done) | rfl)), ht⟩) (fun q hq => absurd hq List.not_mem_nil) dX6_told_134
  by_cases k8_19 : p0 = 8
  · subst k8_19
    refine lv_tableIn (off := 134) (tgt := 135) hx hb dX6_told_1 (by decide) (by decide) (by decide) (by decide) ?_
    refine lv_aload_n hx hb dX6_told_135 rfl (lv_at hl 0 rfl) ?_
    have hPc := hP.sub (ws' := [(m0, .inr (6, [.ref ms, .ref mf, .ref mw, .ref mk, .int 0, .ref mh, .int 0, .int 0, .int 21, .int 17, .int 0, .int 1, .int 1, .int 1, .int 3, .long 1, .int 0, .ref q0, .ref q1, .ref q2, .int 0, .ref q3, .ref q4, .ref q5, .ref q6, .ref q7, .int 0, .int 0, .int 0, .int 0, .int 0, .int 0, .int 0, .int 0, .int 0, .ref k0, .ref k1, .ref k2, .ref k3])), (mw, .inl (cI, 11, .inl (fun _ => 0)))]) [0, 3] rfl
    refine vp_callSi (W.runV (As := []) (rest := []) ⟨hx, hb, hml, hown, hts⟩ (c_X6_gone l D cI cJ cQ m0 mw ms mf mk mh q0 q1 q2 q3 q4 q5 q6 q7 k0 k1 k2 k3) (cwV 0 hts gX6_told_X6_gone rfl rfl rfl (by decide +kernel) ⟨Nat.le_of_ble_eq_true rfl, Nat.le_of_ble_eq_true rfl⟩) (rP_preV (ci := 6) (q0 := 0) hPc hK rfl rfl) rfl rfl hl.1 rfl (lv_room (Nat.le_of_ble_eq_true rfl)) dX6_told_136 ⟨Nat.le_of_ble_eq_true rfl, Nat.le_of_ble_eq_true rfl⟩) (fun r_20 hr_20 => ?_)
    subst hr_20
    exact W.iret (v := 0) hx hb hr (fun t ht hW => ⟨_, rfl, (by first | rfl | decide | (unfold toldM; first | (simp []; done) | rfl)), ht⟩) (fun q hq => absurd hq List.not_mem_nil) dX6_told_139
  refine lv_tableOut (tgt := 140) hx hb dX6_told_1 (by have := lv_neT k0_1 (a := 0) (by decide); have := lv_neT k1_2 (a := 1) (by decide); have := lv_neT k2_4 (a := 2) (by decide); have := lv_neT k3_8 (a := 3) (by decide); have := lv_neT k4_11 (a := 4) (by decide); have := lv_neT k5_14 (a := 5) (by decide); have := lv_neT k6_16 (a := 6) (by decide); have := lv_neT k7_18 (a := 7) (by decide); have := lv_neT k8_19 (a := 8) (by decide); omega) (by decide) ?_
  refine lv_iload_n hx hb dX6_told_140 rfl (lv_at hl 1 rfl) ?_
  refine lv_i2l (v := p0.toInt64) hx hb dX6_told_141 rfl ?_
  refine lv_ldc2 hx hb hown (hts _ wd_X6_told_4) dX6_told_142 ?_
  refine lv_ldc2 hx hb hown (hts _ wd_X6_told_5) dX6_told_145 ?_
  have hPc := hP.sub (ws' := []) [] rfl
  refine vp_callSi (W.runS (As := [.long p0.toInt64, .long 10, .long 21]) (rest := []) ⟨hx, hb, hml, hown, hts⟩ (c_X6_in l D cI cJ cQ p0.toInt64 10 21) (va_cwS 3 hts gX6_told_X6_in rfl rfl rfl (by decide +kernel) ⟨Nat.le_of_ble_eq_true rfl, Nat.le_of_ble_eq_true rfl⟩) (rP_preS hPc hK) rfl rfl hl.1 rfl (lv_room (Nat.le_of_ble_eq_true rfl)) dX6_told_148 ⟨Nat.le_of_ble_eq_true rfl, Nat.le_of_ble_eq_true rfl⟩) (fun r_21 hr_21 => ?_)
  subst hr_21
  refine lv_if_ne (tgt := 160) hx hb dX6_told_151 (by decide) (fun c151_22 => ?_) (fun c151_22 => ?_)
  · skip
    refine lv_iload_n hx hb dX6_told_160 rfl (lv_at hl 1 rfl) ?_
    refine lv_bipush (v := 10) hx hb dX6_told_161 (by decide) ?_
    refine lv_isub hx hb dX6_told_163 ?_
    refine lv_aload_n hx hb dX6_told_164 rfl (lv_at hl 0 rfl) ?_
    refine va_get (D := D) (ci := 6) (v := .int 0) (C := RX6) (T := TX6) (N := 39) hx hb hts in_X6_told_X6 hown hK hP 0 rfl rfl 6 (by decide) (hts _ wd_X6_told_0) (fun _ h9 => h9) rfl dX6_told_165 ?_
    refine lv_icmp_ge (tgt := 183) hx hb dX6_told_168 (by decide) (fun c168_23 => ?_) (fun c168_23 => ?_)
    · skip
      refine lv_iconst (v := (-1)) hx hb dX6_told_183 (by decide) ?_
      exact W.iret (v := (-1)) hx hb hr (fun t ht hW => ⟨_, rfl, (by first | rfl | decide | (unfold toldM; first | (simp [k0_1, k1_2, k2_4, k3_8, k4_11, k5_14, k6_16, k7_18, k8_19, c151_22, c168_23]; done) | ((try first | rw [if_pos k0_1] | rw [if_neg k0_1]); (try first | rw [if_pos k1_2] | rw [if_neg k1_2]); (try first | rw [if_pos k2_4] | rw [if_neg k2_4]); (try first | rw [if_pos k3_8] | rw [if_neg k3_8]); (try first | rw [if_pos k4_11] | rw [if_neg k4_11]); (try first | rw [if_pos k5_14] | rw [if_neg k5_14]); (try first | rw [if_pos k6_16] | rw [if_neg k6_16]); (try first | rw [if_pos k7_18] | rw [if_neg k7_18]); (try first | rw [if_pos k8_19] | rw [if_neg k8_19]); (try first | rw [if_pos c151_22] | rw [if_neg c151_22]); (try first | rw [if_pos c168_23] | rw [if_neg c168_23]); first | done | rfl | trivial))), ht⟩) (fun q hq => absurd hq List.not_mem_nil) dX6_told_184
    · exact absurd (told_ge c151_22) c168_23
  · skip
    refine lv_sipush (v := (-1001)) hx hb dX6_told_154 (by decide) ?_
    refine lv_goto (tgt := 184) hx hb dX6_told_157 (by decide) ?_
    exact W.iret (v := (-1001)) hx hb hr (fun t ht hW => ⟨_, rfl, (by first | rfl | decide | (unfold toldM; first | (simp [k0_1, k1_2, k2_4, k3_8, k4_11, k5_14, k6_16, k7_18, k8_19, c151_22]; done) | ((try first | rw [if_pos k0_1] | rw [if_neg k0_1]); (try first | rw [if_pos k1_2] | rw [if_neg k1_2]); (try first | rw [if_pos k2_4] | rw [if_neg k2_4]); (try first | rw [if_pos k3_8] | rw [if_neg k3_8]); (try first | rw [if_pos k4_11] | rw [if_neg k4_11]); (try first | rw [if_pos k5_14] | rw [if_neg k5_14]); (try first | rw [if_pos k6_16] | rw [if_neg k6_16]); (try first | rw [if_pos k7_18] | rw [if_neg k7_18]); (try first | rw [if_pos k8_19] | rw [if_neg k8_19]); (try first | rw [if_pos c151_22] | rw [if_neg c151_22]); first | done | rfl | trivial))), ht⟩) (fun q hq => absurd hq List.not_mem_nil) dX6_told_184

set_option maxRecDepth 20000 in
theorem in_X6_settle_X6 : ∀ w ∈ wsX60, w ∈ wsX6_settle := by decide +kernel
set_option maxRecDepth 20000 in
theorem wd_X6_settle_0 : Cond.fieldLink RX6 98 "ShoeTableModel" "hands" "I" ∈ wsX6_settle := by decide +kernel
set_option maxHeartbeats 400000 in
set_option maxRecDepth 100000 in
/-- X6_settle -/
theorem c_X6_settle (l : Launch) (D : va_G) (cI cJ cQ : ClassId) (m0 : Nat) (ms : Nat) (mf : Nat) (mw : Nat) (mk : Nat) (mh : Nat) (q0 : Nat) (q1 : Nat) (q2 : Nat) (q3 : Nat) (q4 : Nat) (q5 : Nat) (q6 : Nat) (q7 : Nat) (k0 : Nat) (k1 : Nat) (k2 : Nat) (k3 : Nat)  : Met l yX6_settle wsX6_settle ({ frames := 0, cells := 0, slots := 0, locals := 0 }) (va_Pc [.ref m0] (rP D (gTy cI cJ cQ) [(m0, .inr (6, [.ref ms, .ref mf, .ref mw, .ref mk, .int 0, .ref mh, .int 0, .int 0, .int 21, .int 17, .int 0, .int 1, .int 1, .int 1, .int 3, .long 1, .int 0, .ref q0, .ref q1, .ref q2, .int 0, .ref q3, .ref q4, .ref q5, .ref q6, .ref q7, .int 0, .int 0, .int 0, .int 0, .int 0, .int 0, .int 0, .int 0, .int 0, .ref k0, .ref k1, .ref k2, .ref k3]))])) (vp_Si (fun r => r = (-1002))) 0 0 (fun _ => False) := by
  refine Met.ofW (cc := cX6_settle) (maxL := 6) (ret := (some .int)) (by decide) rfl ?_
  intro p e s m args below meth c s₁ B hml hv
  obtain ⟨rfl, hP, hK⟩ := hv
  have hx := B.exec
  have hb := B.bytes
  have hr := B.returns
  have hts := atoms_spec (ws := wsX6_settle) B.pre
  have hown : s.vm.findClass RX6 = some m.cls := findClass_of_methodNamed B.named
  have hlocks := B.notSynchronized
  have hl := lv_entry ([.ref m0]) (n := 6) (Nat.le_of_ble_eq_true rfl)
  rw [lg_entry_eq]
  generalize (lg_sl ([.ref m0]) ++ List.replicate (6 - (lg_sl ([.ref m0])).length) Slot.unset).toArray = ls at hl ⊢
  have hl : lv_has ls 6 [(0, .ref m0)] := hl
  refine lv_aload_n hx hb dX6_settle_0 rfl (lv_at hl 0 rfl) ?_
  refine va_get (D := D) (ci := 6) (v := .int 0) (C := RX6) (T := TX6) (N := 39) hx hb hts in_X6_settle_X6 hown hK hP 0 rfl rfl 6 (by decide) (hts _ wd_X6_settle_0) (fun _ h9 => h9) rfl dX6_settle_1 ?_
  refine lv_if_eq (tgt := 14) hx hb dX6_settle_4 (by decide) (fun c4_1 => ?_) (fun c4_1 => ?_)
  · skip
    refine lv_sipush (v := (-1002)) hx hb dX6_settle_14 (by decide) ?_
    exact W.iret (v := (-1002)) hx hb hr (fun t ht hW => ⟨_, rfl, (by first | rfl | trivial | (simp [c4_1]; done) | ((try first | rw [if_pos c4_1] | rw [if_neg c4_1]); first | done | rfl | trivial) | (simp_all; done)), ht⟩) (fun q hq => absurd hq List.not_mem_nil) dX6_settle_17
  · exact absurd c4_1 (by decide)

set_option maxRecDepth 20000 in
theorem ggX6_isThereNow_X6_all : GoodIn wsX6_isThereNow wsX6_all := goodIn_r _ [12, 13, 30, 31, 32, 33, 34, 35, 36, 37, 38, 39, 40, 41, 42, 43, 44, 45, 46, 47, 48, 49, 50, 51, 52, 53, 54, 55, 56, 57, 58, 59, 60, 61, 62, 63, 64, 65, 66, 67, 68] (by decide +kernel) (by decide +kernel)
set_option maxRecDepth 20000 in
theorem gX6_isThereNow_X6_all : GoodIn wsX6_isThereNow (wsV RX6 104 RX6 yX6_all wsX6_all) := goodIn_app (goodIn_of _ (by decide +kernel)) ggX6_isThereNow_X6_all
set_option maxRecDepth 20000 in
theorem in_X6_isThereNow_X6 : ∀ w ∈ wsX60, w ∈ wsX6_isThereNow := by decide +kernel
set_option maxRecDepth 20000 in
theorem wd_X6_isThereNow_0 : Cond.fieldLink RX6 98 "ShoeTableModel" "hands" "I" ∈ wsX6_isThereNow := by decide +kernel
set_option maxHeartbeats 400000 in
set_option maxRecDepth 100000 in
/-- X6_isThereNow -/
theorem c_X6_isThereNow (l : Launch) (D : va_G) (cI cJ cQ : ClassId) (m0 : Nat) (ms : Nat) (mf : Nat) (mw : Nat) (mk : Nat) (mh : Nat) (q0 : Nat) (q1 : Nat) (q2 : Nat) (q3 : Nat) (q4 : Nat) (q5 : Nat) (q6 : Nat) (q7 : Nat) (k0 : Nat) (k1 : Nat) (k2 : Nat) (k3 : Nat) (p0 : Int32)  : Met l yX6_isThereNow wsX6_isThereNow ({ frames := 1, cells := 0, slots := 0, locals := 22 }) (va_Pc [.ref m0, .int p0] (rP D (gTy cI cJ cQ) [(m0, .inr (6, [.ref ms, .ref mf, .ref mw, .ref mk, .int 0, .ref mh, .int 0, .int 0, .int 21, .int 17, .int 0, .int 1, .int 1, .int 1, .int 3, .long 1, .int 0, .ref q0, .ref q1, .ref q2, .int 0, .ref q3, .ref q4, .ref q5, .ref q6, .ref q7, .int 0, .int 0, .int 0, .int 0, .int 0, .int 0, .int 0, .int 0, .int 0, .ref k0, .ref k1, .ref k2, .ref k3])), (ms, .inl (cI, 11, .inl (fun _ => 0)))])) (vp_Si (fun r => r = 0)) 0 0 (fun _ => False) := by
  refine Met.ofW (cc := cX6_isThereNow) (maxL := 3) (ret := (some .boolean)) (by decide) rfl ?_
  intro p e s m args below meth c s₁ B hml hv
  obtain ⟨rfl, hP, hK⟩ := hv
  have hx := B.exec
  have hb := B.bytes
  have hr := B.returns
  have hts := atoms_spec (ws := wsX6_isThereNow) B.pre
  have hown : s.vm.findClass RX6 = some m.cls := findClass_of_methodNamed B.named
  have hlocks := B.notSynchronized
  have hl := lv_entry ([.ref m0, .int p0]) (n := 3) (Nat.le_of_ble_eq_true rfl)
  rw [lg_entry_eq]
  generalize (lg_sl ([.ref m0, .int p0]) ++ List.replicate (3 - (lg_sl ([.ref m0, .int p0])).length) Slot.unset).toArray = ls at hl ⊢
  have hl : lv_has ls 3 [(0, .ref m0), (1, .int p0)] := hl
  refine lv_aload_n hx hb dX6_isThereNow_0 rfl (lv_at hl 0 rfl) ?_
  have hPc := hP.sub (ws' := [(m0, .inr (6, [.ref ms, .ref mf, .ref mw, .ref mk, .int 0, .ref mh, .int 0, .int 0, .int 21, .int 17, .int 0, .int 1, .int 1, .int 1, .int 3, .long 1, .int 0, .ref q0, .ref q1, .ref q2, .int 0, .ref q3, .ref q4, .ref q5, .ref q6, .ref q7, .int 0, .int 0, .int 0, .int 0, .int 0, .int 0, .int 0, .int 0, .int 0, .ref k0, .ref k1, .ref k2, .ref k3])), (ms, .inl (cI, 11, .inl (fun _ => 0)))]) [0, 1] rfl
  refine vp_callSi (W.runV (As := []) (rest := []) ⟨hx, hb, hml, hown, hts⟩ (c_X6_all l D cI cJ cQ m0 ms mf mw mk mh q0 q1 q2 q3 q4 q5 q6 q7 k0 k1 k2 k3) (cwV 0 hts gX6_isThereNow_X6_all rfl rfl rfl (by decide +kernel) ⟨Nat.le_of_ble_eq_true rfl, Nat.le_of_ble_eq_true rfl⟩) (rP_preV (ci := 6) (q0 := 0) hPc hK rfl rfl) rfl rfl hl.1 rfl (lv_room (Nat.le_of_ble_eq_true rfl)) dX6_isThereNow_1 ⟨Nat.le_of_ble_eq_true rfl, Nat.le_of_ble_eq_true rfl⟩) (fun r_1 hr_1 => ?_)
  subst hr_1
  refine lv_istore_n (lv' := [(2, .int 0), (0, .ref m0), (1, .int p0)]) hx hb dX6_isThereNow_4 rfl hl (by decide) rfl (fun ls hl => ?_)
  refine lv_aload_n hx hb dX6_isThereNow_5 rfl (lv_at hl 1 rfl) ?_
  refine va_get (D := D) (ci := 6) (v := .int 0) (C := RX6) (T := TX6) (N := 39) hx hb hts in_X6_isThereNow_X6 hown hK hP 0 rfl rfl 6 (by decide) (hts _ wd_X6_isThereNow_0) (fun _ h9 => h9) rfl dX6_isThereNow_6 ?_
  refine lv_if_eq (tgt := 30) hx hb dX6_isThereNow_9 (by decide) (fun c9_2 => ?_) (fun c9_2 => ?_)
  · skip
    refine lv_iconst (v := 0) hx hb dX6_isThereNow_30 (by decide) ?_
    exact W.zret (v := 0) hx hb hr rfl (fun t ht hW => ⟨_, rfl, (by first | rfl | trivial | (simp [c9_2]; done) | ((try first | rw [if_pos c9_2] | rw [if_neg c9_2]); first | done | rfl | trivial) | (simp_all; done)), ht⟩) (fun q hq => absurd hq List.not_mem_nil) dX6_isThereNow_31
  · exact absurd c9_2 (by decide)

set_option maxRecDepth 20000 in
theorem wd_X6_there_0 : Cond.constantLong RX6 114 (4) ∈ wsX6_there := by decide +kernel
set_option maxRecDepth 20000 in
theorem ggX6_there_X6_in : GoodIn wsX6_there wsX6_in := goodIn_r _ [5] (by decide +kernel) (by decide +kernel)
set_option maxRecDepth 20000 in
theorem gX6_there_X6_in : GoodIn wsX6_there (va_wsS RX6 88 yX6_in wsX6_in) := goodIn_app (goodIn_of _ (by decide +kernel)) ggX6_there_X6_in
set_option maxRecDepth 20000 in
theorem ggX6_there_X6_isThereNow : GoodIn wsX6_there wsX6_isThereNow := goodIn_r _ [9, 10, 11, 12, 13, 14, 15, 16, 17, 18, 19, 4, 20, 21, 22, 23, 24, 25, 26, 27, 28, 29, 30, 31, 32, 33, 34, 35, 36, 37, 38, 39, 40, 41, 42, 43, 44, 45, 46, 47, 48, 49, 50, 51, 52, 53, 54, 55, 56, 57, 58, 59, 60, 61, 62, 63, 64, 65, 66, 67, 68, 69, 70, 71, 72, 73, 74, 75, 76] (by decide +kernel) (by decide +kernel)
set_option maxRecDepth 20000 in
theorem gX6_there_X6_isThereNow : GoodIn wsX6_there (wsV RX6 254 RX6 yX6_isThereNow wsX6_isThereNow) := goodIn_app (goodIn_of _ (by decide +kernel)) ggX6_there_X6_isThereNow
set_option maxHeartbeats 400000 in
set_option maxRecDepth 100000 in
/-- X6_there -/
theorem c_X6_there (l : Launch) (D : va_G) (cI cJ cQ : ClassId) (m0 : Nat) (ms : Nat) (mf : Nat) (mw : Nat) (mk : Nat) (mh : Nat) (q0 : Nat) (q1 : Nat) (q2 : Nat) (q3 : Nat) (q4 : Nat) (q5 : Nat) (q6 : Nat) (q7 : Nat) (k0 : Nat) (k1 : Nat) (k2 : Nat) (k3 : Nat) (p0 : Int32)  : Met l yX6_there wsX6_there ({ frames := 2, cells := 0, slots := 0, locals := 44 }) (va_Pc [.ref m0, .int p0] (rP D (gTy cI cJ cQ) [(m0, .inr (6, [.ref ms, .ref mf, .ref mw, .ref mk, .int 0, .ref mh, .int 0, .int 0, .int 21, .int 17, .int 0, .int 1, .int 1, .int 1, .int 3, .long 1, .int 0, .ref q0, .ref q1, .ref q2, .int 0, .ref q3, .ref q4, .ref q5, .ref q6, .ref q7, .int 0, .int 0, .int 0, .int 0, .int 0, .int 0, .int 0, .int 0, .int 0, .ref k0, .ref k1, .ref k2, .ref k3])), (ms, .inl (cI, 11, .inl (fun _ => 0)))])) (vp_Si (fun r => r = thereM p0)) 0 0 (fun _ => False) := by
  refine Met.ofW (cc := cX6_there) (maxL := 2) (ret := (some .int)) (by decide) rfl ?_
  intro p e s m args below meth c s₁ B hml hv
  obtain ⟨rfl, hP, hK⟩ := hv
  have hx := B.exec
  have hb := B.bytes
  have hr := B.returns
  have hts := atoms_spec (ws := wsX6_there) B.pre
  have hown : s.vm.findClass RX6 = some m.cls := findClass_of_methodNamed B.named
  have hlocks := B.notSynchronized
  have hl := lv_entry ([.ref m0, .int p0]) (n := 2) (Nat.le_of_ble_eq_true rfl)
  rw [lg_entry_eq]
  generalize (lg_sl ([.ref m0, .int p0]) ++ List.replicate (2 - (lg_sl ([.ref m0, .int p0])).length) Slot.unset).toArray = ls at hl ⊢
  have hl : lv_has ls 2 [(0, .ref m0), (1, .int p0)] := hl
  refine lv_iload_n hx hb dX6_there_0 rfl (lv_at hl 1 rfl) ?_
  refine lv_i2l (v := p0.toInt64) hx hb dX6_there_1 rfl ?_
  refine lv_lconst (v := 0) hx hb dX6_there_2 (by decide) ?_
  refine lv_ldc2 hx hb hown (hts _ wd_X6_there_0) dX6_there_3 ?_
  have hPc := hP.sub (ws' := []) [] rfl
  refine vp_callSi (W.runS (As := [.long p0.toInt64, .long 0, .long 4]) (rest := []) ⟨hx, hb, hml, hown, hts⟩ (c_X6_in l D cI cJ cQ p0.toInt64 0 4) (va_cwS 3 hts gX6_there_X6_in rfl rfl rfl (by decide +kernel) ⟨Nat.le_of_ble_eq_true rfl, Nat.le_of_ble_eq_true rfl⟩) (rP_preS hPc hK) rfl rfl hl.1 rfl (lv_room (Nat.le_of_ble_eq_true rfl)) dX6_there_6 ⟨Nat.le_of_ble_eq_true rfl, Nat.le_of_ble_eq_true rfl⟩) (fun r_1 hr_1 => ?_)
  subst hr_1
  refine lv_if_ne (tgt := 18) hx hb dX6_there_9 (by decide) (fun c9_2 => ?_) (fun c9_2 => ?_)
  · skip
    refine lv_aload_n hx hb dX6_there_18 rfl (lv_at hl 0 rfl) ?_
    refine lv_iload_n hx hb dX6_there_19 rfl (lv_at hl 1 rfl) ?_
    have hPc := hP.sub (ws' := [(m0, .inr (6, [.ref ms, .ref mf, .ref mw, .ref mk, .int 0, .ref mh, .int 0, .int 0, .int 21, .int 17, .int 0, .int 1, .int 1, .int 1, .int 3, .long 1, .int 0, .ref q0, .ref q1, .ref q2, .int 0, .ref q3, .ref q4, .ref q5, .ref q6, .ref q7, .int 0, .int 0, .int 0, .int 0, .int 0, .int 0, .int 0, .int 0, .int 0, .ref k0, .ref k1, .ref k2, .ref k3])), (ms, .inl (cI, 11, .inl (fun _ => 0)))]) [0, 1] rfl
    refine vp_callSi (W.runV (As := [.int p0]) (rest := []) ⟨hx, hb, hml, hown, hts⟩ (c_X6_isThereNow l D cI cJ cQ m0 ms mf mw mk mh q0 q1 q2 q3 q4 q5 q6 q7 k0 k1 k2 k3 p0) (cwV 1 hts gX6_there_X6_isThereNow rfl rfl rfl (by decide +kernel) ⟨Nat.le_of_ble_eq_true rfl, Nat.le_of_ble_eq_true rfl⟩) (rP_preV (ci := 6) (q0 := 0) hPc hK rfl rfl) rfl rfl hl.1 rfl (lv_room (Nat.le_of_ble_eq_true rfl)) dX6_there_20 ⟨Nat.le_of_ble_eq_true rfl, Nat.le_of_ble_eq_true rfl⟩) (fun r_3 hr_3 => ?_)
    subst hr_3
    refine lv_if_eq (tgt := 30) hx hb dX6_there_23 (by decide) (fun c23_4 => ?_) (fun c23_4 => ?_)
    · skip
      refine lv_iconst (v := 0) hx hb dX6_there_30 (by decide) ?_
      exact W.iret (v := 0) hx hb hr (fun t ht hW => ⟨_, rfl, (by unfold thereM; first | (simp [c9_2, c23_4]; done) | ((try first | rw [if_pos c9_2] | rw [if_neg c9_2]); (try first | rw [if_pos c23_4] | rw [if_neg c23_4]); first | done | rfl | trivial)), ht⟩) (fun q hq => absurd hq List.not_mem_nil) dX6_there_31
    · exact absurd c23_4 (by decide)
  · skip
    refine lv_sipush (v := (-1001)) hx hb dX6_there_12 (by decide) ?_
    refine lv_goto (tgt := 31) hx hb dX6_there_15 (by decide) ?_
    exact W.iret (v := (-1001)) hx hb hr (fun t ht hW => ⟨_, rfl, (by unfold thereM; first | (simp [c9_2]; done) | ((try first | rw [if_pos c9_2] | rw [if_neg c9_2]); first | done | rfl | trivial)), ht⟩) (fun q hq => absurd hq List.not_mem_nil) dX6_there_31

set_option maxRecDepth 20000 in
theorem wd_X6_worth_0 : Cond.constantLong RX6 114 (4) ∈ wsX6_worth := by decide +kernel
set_option maxRecDepth 20000 in
theorem ggX6_worth_X6_in : GoodIn wsX6_worth wsX6_in := goodIn_r _ [9] (by decide +kernel) (by decide +kernel)
set_option maxRecDepth 20000 in
theorem gX6_worth_X6_in : GoodIn wsX6_worth (va_wsS RX6 88 yX6_in wsX6_in) := goodIn_app (goodIn_of _ (by decide +kernel)) ggX6_worth_X6_in
set_option maxRecDepth 20000 in
theorem wd_X6_worth_1 : Cond.constantLong RX6 261 (-1001) ∈ wsX6_worth := by decide +kernel
set_option maxRecDepth 20000 in
theorem ggX6_worth_X6_isThereNow : GoodIn wsX6_worth wsX6_isThereNow := goodIn_r _ [13, 14, 15, 16, 17, 18, 19, 20, 21, 22, 23, 8, 24, 25, 26, 27, 28, 29, 30, 31, 32, 33, 34, 35, 36, 37, 38, 39, 40, 41, 137, 138, 139, 140, 141, 142, 143, 144, 145, 146, 147, 148, 149, 150, 151, 152, 153, 154, 155, 156, 157, 158, 159, 160, 161, 162, 163, 164, 165, 166, 167, 168, 169, 170, 171, 172, 173, 174, 175] (by decide +kernel) (by decide +kernel)
set_option maxRecDepth 20000 in
theorem gX6_worth_X6_isThereNow : GoodIn wsX6_worth (wsV RX6 254 RX6 yX6_isThereNow wsX6_isThereNow) := goodIn_app (goodIn_of _ (by decide +kernel)) ggX6_worth_X6_isThereNow
set_option maxRecDepth 20000 in
theorem wd_X6_worth_2 : Cond.constantLong RX6 263 (-1002) ∈ wsX6_worth := by decide +kernel
set_option maxHeartbeats 400000 in
set_option maxRecDepth 100000 in
/-- X6_worth -/
theorem c_X6_worth (l : Launch) (D : va_G) (cI cJ cQ : ClassId) (m0 : Nat) (ms : Nat) (mf : Nat) (mw : Nat) (mk : Nat) (mh : Nat) (q0 : Nat) (q1 : Nat) (q2 : Nat) (q3 : Nat) (q4 : Nat) (q5 : Nat) (q6 : Nat) (q7 : Nat) (k0 : Nat) (k1 : Nat) (k2 : Nat) (k3 : Nat) (p0 : Int32) (p1 : Int32)  : Met l yX6_worth wsX6_worth ({ frames := 2, cells := 0, slots := 0, locals := 44 }) (va_Pc [.ref m0, .int p0, .int p1] (rP D (gTy cI cJ cQ) [(m0, .inr (6, [.ref ms, .ref mf, .ref mw, .ref mk, .int 0, .ref mh, .int 0, .int 0, .int 21, .int 17, .int 0, .int 1, .int 1, .int 1, .int 3, .long 1, .int 0, .ref q0, .ref q1, .ref q2, .int 0, .ref q3, .ref q4, .ref q5, .ref q6, .ref q7, .int 0, .int 0, .int 0, .int 0, .int 0, .int 0, .int 0, .int 0, .int 0, .ref k0, .ref k1, .ref k2, .ref k3])), (ms, .inl (cI, 11, .inl (fun _ => 0)))])) (vp_Sl (fun r => r = worthM p0 p1)) 0 0 (fun _ => False) := by
  refine Met.ofW (cc := cX6_worth) (maxL := 3) (ret := (some .long)) (by decide) rfl ?_
  intro p e s m args below meth c s₁ B hml hv
  obtain ⟨rfl, hP, hK⟩ := hv
  have hx := B.exec
  have hb := B.bytes
  have hr := B.returns
  have hts := atoms_spec (ws := wsX6_worth) B.pre
  have hown : s.vm.findClass RX6 = some m.cls := findClass_of_methodNamed B.named
  have hlocks := B.notSynchronized
  have hl := lv_entry ([.ref m0, .int p0, .int p1]) (n := 3) (Nat.le_of_ble_eq_true rfl)
  rw [lg_entry_eq]
  generalize (lg_sl ([.ref m0, .int p0, .int p1]) ++ List.replicate (3 - (lg_sl ([.ref m0, .int p0, .int p1])).length) Slot.unset).toArray = ls at hl ⊢
  have hl : lv_has ls 3 [(0, .ref m0), (1, .int p0), (2, .int p1)] := hl
  refine lv_iload_n hx hb dX6_worth_0 rfl (lv_at hl 1 rfl) ?_
  refine lv_i2l (v := p0.toInt64) hx hb dX6_worth_1 rfl ?_
  refine lv_lconst (v := 0) hx hb dX6_worth_2 (by decide) ?_
  refine lv_ldc2 hx hb hown (hts _ wd_X6_worth_0) dX6_worth_3 ?_
  have hPc := hP.sub (ws' := []) [] rfl
  refine vp_callSi (W.runS (As := [.long p0.toInt64, .long 0, .long 4]) (rest := []) ⟨hx, hb, hml, hown, hts⟩ (c_X6_in l D cI cJ cQ p0.toInt64 0 4) (va_cwS 3 hts gX6_worth_X6_in rfl rfl rfl (by decide +kernel) ⟨Nat.le_of_ble_eq_true rfl, Nat.le_of_ble_eq_true rfl⟩) (rP_preS hPc hK) rfl rfl hl.1 rfl (lv_room (Nat.le_of_ble_eq_true rfl)) dX6_worth_6 ⟨Nat.le_of_ble_eq_true rfl, Nat.le_of_ble_eq_true rfl⟩) (fun r_1 hr_1 => ?_)
  subst hr_1
  refine lv_if_eq (tgt := 22) hx hb dX6_worth_9 (by decide) (fun c9_2 => ?_) (fun c9_2 => ?_)
  · skip
    refine lv_ldc2 hx hb hown (hts _ wd_X6_worth_1) dX6_worth_22 ?_
    exact W.lret (v := (-1001)) hx hb hr (fun t ht hW => ⟨_, rfl, (by unfold worthM; first | (simp [c9_2]; done) | ((try first | rw [if_pos c9_2] | rw [if_neg c9_2]); first | done | rfl | trivial)), ht⟩) (fun q hq => absurd hq List.not_mem_nil) dX6_worth_25
  · skip
    refine lv_iload_n hx hb dX6_worth_12 rfl (lv_at hl 2 rfl) ?_
    refine lv_i2l (v := p1.toInt64) hx hb dX6_worth_13 rfl ?_
    refine lv_lconst (v := 0) hx hb dX6_worth_14 (by decide) ?_
    refine lv_lconst (v := 1) hx hb dX6_worth_15 (by decide) ?_
    have hPc := hP.sub (ws' := []) [] rfl
    refine vp_callSi (W.runS (As := [.long p1.toInt64, .long 0, .long 1]) (rest := []) ⟨hx, hb, hml, hown, hts⟩ (c_X6_in l D cI cJ cQ p1.toInt64 0 1) (va_cwS 3 hts gX6_worth_X6_in rfl rfl rfl (by decide +kernel) ⟨Nat.le_of_ble_eq_true rfl, Nat.le_of_ble_eq_true rfl⟩) (rP_preS hPc hK) rfl rfl hl.1 rfl (lv_room (Nat.le_of_ble_eq_true rfl)) dX6_worth_16 ⟨Nat.le_of_ble_eq_true rfl, Nat.le_of_ble_eq_true rfl⟩) (fun r_3 hr_3 => ?_)
    subst hr_3
    refine lv_if_ne (tgt := 26) hx hb dX6_worth_19 (by decide) (fun c19_4 => ?_) (fun c19_4 => ?_)
    · skip
      refine lv_aload_n hx hb dX6_worth_26 rfl (lv_at hl 0 rfl) ?_
      refine lv_iload_n hx hb dX6_worth_27 rfl (lv_at hl 1 rfl) ?_
      have hPc := hP.sub (ws' := [(m0, .inr (6, [.ref ms, .ref mf, .ref mw, .ref mk, .int 0, .ref mh, .int 0, .int 0, .int 21, .int 17, .int 0, .int 1, .int 1, .int 1, .int 3, .long 1, .int 0, .ref q0, .ref q1, .ref q2, .int 0, .ref q3, .ref q4, .ref q5, .ref q6, .ref q7, .int 0, .int 0, .int 0, .int 0, .int 0, .int 0, .int 0, .int 0, .int 0, .ref k0, .ref k1, .ref k2, .ref k3])), (ms, .inl (cI, 11, .inl (fun _ => 0)))]) [0, 1] rfl
      refine vp_callSi (W.runV (As := [.int p0]) (rest := []) ⟨hx, hb, hml, hown, hts⟩ (c_X6_isThereNow l D cI cJ cQ m0 ms mf mw mk mh q0 q1 q2 q3 q4 q5 q6 q7 k0 k1 k2 k3 p0) (cwV 1 hts gX6_worth_X6_isThereNow rfl rfl rfl (by decide +kernel) ⟨Nat.le_of_ble_eq_true rfl, Nat.le_of_ble_eq_true rfl⟩) (rP_preV (ci := 6) (q0 := 0) hPc hK rfl rfl) rfl rfl hl.1 rfl (lv_room (Nat.le_of_ble_eq_true rfl)) dX6_worth_28 ⟨Nat.le_of_ble_eq_true rfl, Nat.le_of_ble_eq_true rfl⟩) (fun r_5 hr_5 => ?_)
      subst hr_5
      refine lv_if_ne (tgt := 38) hx hb dX6_worth_31 (by decide) (fun c31_6 => ?_) (fun c31_6 => ?_)
      · exact absurd c31_6 (by decide)
      refine lv_ldc2 hx hb hown (hts _ wd_X6_worth_2) dX6_worth_34 ?_
      exact W.lret (v := (-1002)) hx hb hr (fun t ht hW => ⟨_, rfl, (by unfold worthM; first | (simp [c9_2, c19_4]; done) | ((try first | rw [if_pos c9_2] | rw [if_neg c9_2]); (try first | rw [if_pos c19_4] | rw [if_neg c19_4]); first | done | rfl | trivial)), ht⟩) (fun q hq => absurd hq List.not_mem_nil) dX6_worth_37
    · skip
      refine lv_ldc2 hx hb hown (hts _ wd_X6_worth_1) dX6_worth_22 ?_
      exact W.lret (v := (-1001)) hx hb hr (fun t ht hW => ⟨_, rfl, (by unfold worthM; first | (simp [c9_2, c19_4]; done) | ((try first | rw [if_pos c9_2] | rw [if_neg c9_2]); (try first | rw [if_pos c19_4] | rw [if_neg c19_4]); first | done | rfl | trivial)), ht⟩) (fun q hq => absurd hq List.not_mem_nil) dX6_worth_25

set_option maxRecDepth 20000 in
theorem ggX6_best_X6_isThereNow : GoodIn wsX6_best wsX6_isThereNow := goodIn_r _ [6, 7, 8, 9, 10, 11, 12, 13, 14, 15, 16, 5, 17, 18, 19, 20, 21, 22, 23, 24, 25, 26, 27, 28, 29, 30, 31, 32, 33, 34, 133, 134, 135, 136, 137, 138, 139, 140, 141, 142, 143, 144, 145, 146, 147, 148, 149, 150, 151, 152, 153, 154, 155, 156, 157, 158, 159, 160, 161, 162, 163, 164, 165, 166, 167, 168, 169, 170, 171] (by decide +kernel) (by decide +kernel)
set_option maxRecDepth 20000 in
theorem gX6_best_X6_isThereNow : GoodIn wsX6_best (wsV RX6 254 RX6 yX6_isThereNow wsX6_isThereNow) := goodIn_app (goodIn_of _ (by decide +kernel)) ggX6_best_X6_isThereNow
set_option maxHeartbeats 400000 in
set_option maxRecDepth 100000 in
/-- X6_best -/
theorem c_X6_best (l : Launch) (D : va_G) (cI cJ cQ : ClassId) (m0 : Nat) (ms : Nat) (mf : Nat) (mw : Nat) (mk : Nat) (mh : Nat) (q0 : Nat) (q1 : Nat) (q2 : Nat) (q3 : Nat) (q4 : Nat) (q5 : Nat) (q6 : Nat) (q7 : Nat) (k0 : Nat) (k1 : Nat) (k2 : Nat) (k3 : Nat)  : Met l yX6_best wsX6_best ({ frames := 2, cells := 0, slots := 0, locals := 44 }) (va_Pc [.ref m0] (rP D (gTy cI cJ cQ) [(m0, .inr (6, [.ref ms, .ref mf, .ref mw, .ref mk, .int 0, .ref mh, .int 0, .int 0, .int 21, .int 17, .int 0, .int 1, .int 1, .int 1, .int 3, .long 1, .int 0, .ref q0, .ref q1, .ref q2, .int 0, .ref q3, .ref q4, .ref q5, .ref q6, .ref q7, .int 0, .int 0, .int 0, .int 0, .int 0, .int 0, .int 0, .int 0, .int 0, .ref k0, .ref k1, .ref k2, .ref k3])), (ms, .inl (cI, 11, .inl (fun _ => 0)))])) (vp_Si (fun r => r = (-1002))) 0 0 (fun _ => False) := by
  refine Met.ofW (cc := cX6_best) (maxL := 3) (ret := (some .int)) (by decide) rfl ?_
  intro p e s m args below meth c s₁ B hml hv
  obtain ⟨rfl, hP, hK⟩ := hv
  have hx := B.exec
  have hb := B.bytes
  have hr := B.returns
  have hts := atoms_spec (ws := wsX6_best) B.pre
  have hown : s.vm.findClass RX6 = some m.cls := findClass_of_methodNamed B.named
  have hlocks := B.notSynchronized
  have hl := lv_entry ([.ref m0]) (n := 3) (Nat.le_of_ble_eq_true rfl)
  rw [lg_entry_eq]
  generalize (lg_sl ([.ref m0]) ++ List.replicate (3 - (lg_sl ([.ref m0])).length) Slot.unset).toArray = ls at hl ⊢
  have hl : lv_has ls 3 [(0, .ref m0)] := hl
  refine lv_aload_n hx hb dX6_best_0 rfl (lv_at hl 0 rfl) ?_
  refine lv_iconst (v := 0) hx hb dX6_best_1 (by decide) ?_
  have hPc := hP.sub (ws' := [(m0, .inr (6, [.ref ms, .ref mf, .ref mw, .ref mk, .int 0, .ref mh, .int 0, .int 0, .int 21, .int 17, .int 0, .int 1, .int 1, .int 1, .int 3, .long 1, .int 0, .ref q0, .ref q1, .ref q2, .int 0, .ref q3, .ref q4, .ref q5, .ref q6, .ref q7, .int 0, .int 0, .int 0, .int 0, .int 0, .int 0, .int 0, .int 0, .int 0, .ref k0, .ref k1, .ref k2, .ref k3])), (ms, .inl (cI, 11, .inl (fun _ => 0)))]) [0, 1] rfl
  refine vp_callSi (W.runV (As := [.int 0]) (rest := []) ⟨hx, hb, hml, hown, hts⟩ (c_X6_isThereNow l D cI cJ cQ m0 ms mf mw mk mh q0 q1 q2 q3 q4 q5 q6 q7 k0 k1 k2 k3 0) (cwV 1 hts gX6_best_X6_isThereNow rfl rfl rfl (by decide +kernel) ⟨Nat.le_of_ble_eq_true rfl, Nat.le_of_ble_eq_true rfl⟩) (rP_preV (ci := 6) (q0 := 0) hPc hK rfl rfl) rfl rfl hl.1 rfl (lv_room (Nat.le_of_ble_eq_true rfl)) dX6_best_2 ⟨Nat.le_of_ble_eq_true rfl, Nat.le_of_ble_eq_true rfl⟩) (fun r_1 hr_1 => ?_)
  subst hr_1
  refine lv_if_ne (tgt := 12) hx hb dX6_best_5 (by decide) (fun c5_2 => ?_) (fun c5_2 => ?_)
  · exact absurd c5_2 (by decide)
  refine lv_sipush (v := (-1002)) hx hb dX6_best_8 (by decide) ?_
  exact W.iret (v := (-1002)) hx hb hr (fun t ht hW => ⟨_, rfl, (by first | rfl | trivial | (simp []; done) | rfl | (simp_all; done)), ht⟩) (fun q hq => absurd hq List.not_mem_nil) dX6_best_11

set_option maxRecDepth 20000 in
theorem ggX6_chance_X6_in : GoodIn wsX6_chance wsX6_in := goodIn_r _ [14] (by decide +kernel) (by decide +kernel)
set_option maxRecDepth 20000 in
theorem gX6_chance_X6_in : GoodIn wsX6_chance (va_wsS RX6 88 yX6_in wsX6_in) := goodIn_app (goodIn_of _ (by decide +kernel)) ggX6_chance_X6_in
set_option maxRecDepth 20000 in
theorem in_X6_chance_X6 : ∀ w ∈ wsX60, w ∈ wsX6_chance := by decide +kernel
set_option maxRecDepth 20000 in
theorem wd_X6_chance_0 : Cond.fieldLink RX6 101 "ShoeTableModel" "up" "I" ∈ wsX6_chance := by decide +kernel
set_option maxRecDepth 20000 in
theorem wd_X6_chance_1 : Cond.constantLong RX6 263 (-1002) ∈ wsX6_chance := by decide +kernel
set_option maxRecDepth 20000 in
theorem wd_X6_chance_2 : Cond.constantLong RX6 261 (-1001) ∈ wsX6_chance := by decide +kernel
set_option maxRecDepth 20000 in
theorem wd_X6_chance_3 : Cond.constantLong RX6 112 (2) ∈ wsX6_chance := by decide +kernel
set_option maxRecDepth 20000 in
theorem wd_X6_chance_4 : Cond.constantLong RX6 110 (21) ∈ wsX6_chance := by decide +kernel
set_option maxHeartbeats 400000 in
set_option maxRecDepth 100000 in
/-- X6_chance -/
theorem c_X6_chance (l : Launch) (D : va_G) (cI cJ cQ : ClassId) (m0 : Nat) (ms : Nat) (mf : Nat) (mw : Nat) (mk : Nat) (mh : Nat) (q0 : Nat) (q1 : Nat) (q2 : Nat) (q3 : Nat) (q4 : Nat) (q5 : Nat) (q6 : Nat) (q7 : Nat) (k0 : Nat) (k1 : Nat) (k2 : Nat) (k3 : Nat) (p0 : Int32) (p1 : Int32)  : Met l yX6_chance wsX6_chance ({ frames := 1, cells := 0, slots := 0, locals := 25 }) (va_Pc [.ref m0, .int p0, .int p1] (rP D (gTy cI cJ cQ) [(m0, .inr (6, [.ref ms, .ref mf, .ref mw, .ref mk, .int 0, .ref mh, .int 0, .int 0, .int 21, .int 17, .int 0, .int 1, .int 1, .int 1, .int 3, .long 1, .int 0, .ref q0, .ref q1, .ref q2, .int 0, .ref q3, .ref q4, .ref q5, .ref q6, .ref q7, .int 0, .int 0, .int 0, .int 0, .int 0, .int 0, .int 0, .int 0, .int 0, .ref k0, .ref k1, .ref k2, .ref k3]))])) (vp_Sl (fun r => r = chanceM p0 p1)) 0 0 (fun _ => False) := by
  refine Met.ofW (cc := cX6_chance) (maxL := 3) (ret := (some .long)) (by decide) rfl ?_
  intro p e s m args below meth c s₁ B hml hv
  obtain ⟨rfl, hP, hK⟩ := hv
  have hx := B.exec
  have hb := B.bytes
  have hr := B.returns
  have hts := atoms_spec (ws := wsX6_chance) B.pre
  have hown : s.vm.findClass RX6 = some m.cls := findClass_of_methodNamed B.named
  have hlocks := B.notSynchronized
  have hl := lv_entry ([.ref m0, .int p0, .int p1]) (n := 3) (Nat.le_of_ble_eq_true rfl)
  rw [lg_entry_eq]
  generalize (lg_sl ([.ref m0, .int p0, .int p1]) ++ List.replicate (3 - (lg_sl ([.ref m0, .int p0, .int p1])).length) Slot.unset).toArray = ls at hl ⊢
  have hl : lv_has ls 3 [(0, .ref m0), (1, .int p0), (2, .int p1)] := hl
  refine lv_iload_n hx hb dX6_chance_0 rfl (lv_at hl 1 rfl) ?_
  refine lv_if_eq (tgt := 18) hx hb dX6_chance_1 (by decide) (fun c1_1 => ?_) (fun c1_1 => ?_)
  · skip
    refine lv_iload_n hx hb dX6_chance_18 rfl (lv_at hl 2 rfl) ?_
    refine lv_i2l (v := p1.toInt64) hx hb dX6_chance_19 rfl ?_
    refine lv_lconst (v := 0) hx hb dX6_chance_20 (by decide) ?_
    refine lv_lconst (v := 1) hx hb dX6_chance_21 (by decide) ?_
    have hPc := hP.sub (ws' := []) [] rfl
    refine vp_callSi (W.runS (As := [.long p1.toInt64, .long 0, .long 1]) (rest := []) ⟨hx, hb, hml, hown, hts⟩ (c_X6_in l D cI cJ cQ p1.toInt64 0 1) (va_cwS 3 hts gX6_chance_X6_in rfl rfl rfl (by decide +kernel) ⟨Nat.le_of_ble_eq_true rfl, Nat.le_of_ble_eq_true rfl⟩) (rP_preS hPc hK) rfl rfl hl.1 rfl (lv_room (Nat.le_of_ble_eq_true rfl)) dX6_chance_22 ⟨Nat.le_of_ble_eq_true rfl, Nat.le_of_ble_eq_true rfl⟩) (fun r_2 hr_2 => ?_)
    subst hr_2
    refine lv_if_ne (tgt := 32) hx hb dX6_chance_25 (by decide) (fun c25_3 => ?_) (fun c25_3 => ?_)
    · skip
      refine lv_aload_n hx hb dX6_chance_32 rfl (lv_at hl 0 rfl) ?_
      refine va_get (D := D) (ci := 6) (v := .int 0) (C := RX6) (T := TX6) (N := 39) hx hb hts in_X6_chance_X6 hown hK hP 0 rfl rfl 7 (by decide) (hts _ wd_X6_chance_0) (fun _ h9 => h9) rfl dX6_chance_33 ?_
      refine lv_if_ne (tgt := 43) hx hb dX6_chance_36 (by decide) (fun c36_4 => ?_) (fun c36_4 => ?_)
      · exact absurd c36_4 (by decide)
      refine lv_ldc2 hx hb hown (hts _ wd_X6_chance_1) dX6_chance_39 ?_
      exact W.lret (v := (-1002)) hx hb hr (fun t ht hW => ⟨_, rfl, (by unfold chanceM; first | (simp [c1_1, c25_3]; done) | ((try first | rw [if_pos c1_1] | rw [if_neg c1_1]); (try first | rw [if_pos c25_3] | rw [if_neg c25_3]); first | done | rfl | trivial)), ht⟩) (fun q hq => absurd hq List.not_mem_nil) dX6_chance_42
    · skip
      refine lv_ldc2 hx hb hown (hts _ wd_X6_chance_2) dX6_chance_28 ?_
      exact W.lret (v := (-1001)) hx hb hr (fun t ht hW => ⟨_, rfl, (by unfold chanceM; first | (simp [c1_1, c25_3]; done) | ((try first | rw [if_pos c1_1] | rw [if_neg c1_1]); (try first | rw [if_pos c25_3] | rw [if_neg c25_3]); first | done | rfl | trivial)), ht⟩) (fun q hq => absurd hq List.not_mem_nil) dX6_chance_31
  · skip
    refine lv_iload_n hx hb dX6_chance_4 rfl (lv_at hl 1 rfl) ?_
    refine lv_i2l (v := p0.toInt64) hx hb dX6_chance_5 rfl ?_
    refine lv_ldc2 hx hb hown (hts _ wd_X6_chance_3) dX6_chance_6 ?_
    refine lv_ldc2 hx hb hown (hts _ wd_X6_chance_4) dX6_chance_9 ?_
    have hPc := hP.sub (ws' := []) [] rfl
    refine vp_callSi (W.runS (As := [.long p0.toInt64, .long 2, .long 21]) (rest := []) ⟨hx, hb, hml, hown, hts⟩ (c_X6_in l D cI cJ cQ p0.toInt64 2 21) (va_cwS 3 hts gX6_chance_X6_in rfl rfl rfl (by decide +kernel) ⟨Nat.le_of_ble_eq_true rfl, Nat.le_of_ble_eq_true rfl⟩) (rP_preS hPc hK) rfl rfl hl.1 rfl (lv_room (Nat.le_of_ble_eq_true rfl)) dX6_chance_12 ⟨Nat.le_of_ble_eq_true rfl, Nat.le_of_ble_eq_true rfl⟩) (fun r_5 hr_5 => ?_)
    subst hr_5
    refine lv_if_eq (tgt := 28) hx hb dX6_chance_15 (by decide) (fun c15_6 => ?_) (fun c15_6 => ?_)
    · skip
      refine lv_ldc2 hx hb hown (hts _ wd_X6_chance_2) dX6_chance_28 ?_
      exact W.lret (v := (-1001)) hx hb hr (fun t ht hW => ⟨_, rfl, (by unfold chanceM; first | (simp [c1_1, c15_6]; done) | ((try first | rw [if_pos c1_1] | rw [if_neg c1_1]); (try first | rw [if_pos c15_6] | rw [if_neg c15_6]); first | done | rfl | trivial)), ht⟩) (fun q hq => absurd hq List.not_mem_nil) dX6_chance_31
    · skip
      refine lv_iload_n hx hb dX6_chance_18 rfl (lv_at hl 2 rfl) ?_
      refine lv_i2l (v := p1.toInt64) hx hb dX6_chance_19 rfl ?_
      refine lv_lconst (v := 0) hx hb dX6_chance_20 (by decide) ?_
      refine lv_lconst (v := 1) hx hb dX6_chance_21 (by decide) ?_
      have hPc := hP.sub (ws' := []) [] rfl
      refine vp_callSi (W.runS (As := [.long p1.toInt64, .long 0, .long 1]) (rest := []) ⟨hx, hb, hml, hown, hts⟩ (c_X6_in l D cI cJ cQ p1.toInt64 0 1) (va_cwS 3 hts gX6_chance_X6_in rfl rfl rfl (by decide +kernel) ⟨Nat.le_of_ble_eq_true rfl, Nat.le_of_ble_eq_true rfl⟩) (rP_preS hPc hK) rfl rfl hl.1 rfl (lv_room (Nat.le_of_ble_eq_true rfl)) dX6_chance_22 ⟨Nat.le_of_ble_eq_true rfl, Nat.le_of_ble_eq_true rfl⟩) (fun r_7 hr_7 => ?_)
      subst hr_7
      refine lv_if_ne (tgt := 32) hx hb dX6_chance_25 (by decide) (fun c25_8 => ?_) (fun c25_8 => ?_)
      · skip
        refine lv_aload_n hx hb dX6_chance_32 rfl (lv_at hl 0 rfl) ?_
        refine va_get (D := D) (ci := 6) (v := .int 0) (C := RX6) (T := TX6) (N := 39) hx hb hts in_X6_chance_X6 hown hK hP 0 rfl rfl 7 (by decide) (hts _ wd_X6_chance_0) (fun _ h9 => h9) rfl dX6_chance_33 ?_
        refine lv_if_ne (tgt := 43) hx hb dX6_chance_36 (by decide) (fun c36_9 => ?_) (fun c36_9 => ?_)
        · exact absurd c36_9 (by decide)
        refine lv_ldc2 hx hb hown (hts _ wd_X6_chance_1) dX6_chance_39 ?_
        exact W.lret (v := (-1002)) hx hb hr (fun t ht hW => ⟨_, rfl, (by unfold chanceM; first | (simp [c1_1, c15_6, c25_8]; done) | ((try first | rw [if_pos c1_1] | rw [if_neg c1_1]); (try first | rw [if_pos c15_6] | rw [if_neg c15_6]); (try first | rw [if_pos c25_8] | rw [if_neg c25_8]); first | done | rfl | trivial)), ht⟩) (fun q hq => absurd hq List.not_mem_nil) dX6_chance_42
      · skip
        refine lv_ldc2 hx hb hown (hts _ wd_X6_chance_2) dX6_chance_28 ?_
        exact W.lret (v := (-1001)) hx hb hr (fun t ht hW => ⟨_, rfl, (by unfold chanceM; first | (simp [c1_1, c15_6, c25_8]; done) | ((try first | rw [if_pos c1_1] | rw [if_neg c1_1]); (try first | rw [if_pos c15_6] | rw [if_neg c15_6]); (try first | rw [if_pos c25_8] | rw [if_neg c25_8]); first | done | rfl | trivial)), ht⟩) (fun q hq => absurd hq List.not_mem_nil) dX6_chance_31

set_option maxRecDepth 20000 in
theorem ggX6_deal_X6_in : GoodIn wsX6_deal wsX6_in := goodIn_r _ [9] (by decide +kernel) (by decide +kernel)
set_option maxRecDepth 20000 in
theorem gX6_deal_X6_in : GoodIn wsX6_deal (va_wsS RX6 88 yX6_in wsX6_in) := goodIn_app (goodIn_of _ (by decide +kernel)) ggX6_deal_X6_in
set_option maxRecDepth 20000 in
theorem ggX6_deal_X6_all : GoodIn wsX6_deal wsX6_all := goodIn_r _ [13, 14, 126, 127, 128, 129, 130, 131, 132, 133, 134, 135, 136, 137, 138, 139, 140, 141, 142, 143, 144, 145, 146, 147, 148, 149, 150, 151, 152, 153, 154, 155, 156, 157, 158, 159, 160, 161, 162, 163, 164] (by decide +kernel) (by decide +kernel)
set_option maxRecDepth 20000 in
theorem gX6_deal_X6_all : GoodIn wsX6_deal (wsV RX6 104 RX6 yX6_all wsX6_all) := goodIn_app (goodIn_of _ (by decide +kernel)) ggX6_deal_X6_all
set_option maxRecDepth 20000 in
theorem wd_X6_deal_0 : Cond.constantLong RX6 263 (-1002) ∈ wsX6_deal := by decide +kernel
set_option maxRecDepth 20000 in
theorem wd_X6_deal_1 : Cond.constantLong RX6 261 (-1001) ∈ wsX6_deal := by decide +kernel
set_option maxHeartbeats 400000 in
set_option maxRecDepth 100000 in
/-- X6_deal -/
theorem c_X6_deal (l : Launch) (D : va_G) (cI cJ cQ : ClassId) (m0 : Nat) (ms : Nat) (mf : Nat) (mw : Nat) (mk : Nat) (mh : Nat) (q0 : Nat) (q1 : Nat) (q2 : Nat) (q3 : Nat) (q4 : Nat) (q5 : Nat) (q6 : Nat) (q7 : Nat) (k0 : Nat) (k1 : Nat) (k2 : Nat) (k3 : Nat) (p0 : Int32)  : Met l yX6_deal wsX6_deal ({ frames := 1, cells := 0, slots := 0, locals := 25 }) (va_Pc [.ref m0, .int p0] (rP D (gTy cI cJ cQ) [(m0, .inr (6, [.ref ms, .ref mf, .ref mw, .ref mk, .int 0, .ref mh, .int 0, .int 0, .int 21, .int 17, .int 0, .int 1, .int 1, .int 1, .int 3, .long 1, .int 0, .ref q0, .ref q1, .ref q2, .int 0, .ref q3, .ref q4, .ref q5, .ref q6, .ref q7, .int 0, .int 0, .int 0, .int 0, .int 0, .int 0, .int 0, .int 0, .int 0, .ref k0, .ref k1, .ref k2, .ref k3])), (ms, .inl (cI, 11, .inl (fun _ => 0)))])) (vp_Sl (fun r => r = dealM p0)) 0 0 (fun _ => False) := by
  refine Met.ofW (cc := cX6_deal) (maxL := 7) (ret := (some .long)) (by decide) rfl ?_
  intro p e s m args below meth c s₁ B hml hv
  obtain ⟨rfl, hP, hK⟩ := hv
  have hx := B.exec
  have hb := B.bytes
  have hr := B.returns
  have hts := atoms_spec (ws := wsX6_deal) B.pre
  have hown : s.vm.findClass RX6 = some m.cls := findClass_of_methodNamed B.named
  have hlocks := B.notSynchronized
  have hl := lv_entry ([.ref m0, .int p0]) (n := 7) (Nat.le_of_ble_eq_true rfl)
  rw [lg_entry_eq]
  generalize (lg_sl ([.ref m0, .int p0]) ++ List.replicate (7 - (lg_sl ([.ref m0, .int p0])).length) Slot.unset).toArray = ls at hl ⊢
  have hl : lv_has ls 7 [(0, .ref m0), (1, .int p0)] := hl
  refine lv_iload_n hx hb dX6_deal_0 rfl (lv_at hl 1 rfl) ?_
  refine lv_i2l (v := p0.toInt64) hx hb dX6_deal_1 rfl ?_
  refine lv_lconst (v := 0) hx hb dX6_deal_2 (by decide) ?_
  refine lv_lconst (v := 1) hx hb dX6_deal_3 (by decide) ?_
  have hPc := hP.sub (ws' := []) [] rfl
  refine vp_callSi (W.runS (As := [.long p0.toInt64, .long 0, .long 1]) (rest := []) ⟨hx, hb, hml, hown, hts⟩ (c_X6_in l D cI cJ cQ p0.toInt64 0 1) (va_cwS 3 hts gX6_deal_X6_in rfl rfl rfl (by decide +kernel) ⟨Nat.le_of_ble_eq_true rfl, Nat.le_of_ble_eq_true rfl⟩) (rP_preS hPc hK) rfl rfl hl.1 rfl (lv_room (Nat.le_of_ble_eq_true rfl)) dX6_deal_4 ⟨Nat.le_of_ble_eq_true rfl, Nat.le_of_ble_eq_true rfl⟩) (fun r_1 hr_1 => ?_)
  subst hr_1
  refine lv_if_ne (tgt := 14) hx hb dX6_deal_7 (by decide) (fun c7_2 => ?_) (fun c7_2 => ?_)
  · skip
    refine lv_aload_n hx hb dX6_deal_14 rfl (lv_at hl 0 rfl) ?_
    have hPc := hP.sub (ws' := [(m0, .inr (6, [.ref ms, .ref mf, .ref mw, .ref mk, .int 0, .ref mh, .int 0, .int 0, .int 21, .int 17, .int 0, .int 1, .int 1, .int 1, .int 3, .long 1, .int 0, .ref q0, .ref q1, .ref q2, .int 0, .ref q3, .ref q4, .ref q5, .ref q6, .ref q7, .int 0, .int 0, .int 0, .int 0, .int 0, .int 0, .int 0, .int 0, .int 0, .ref k0, .ref k1, .ref k2, .ref k3])), (ms, .inl (cI, 11, .inl (fun _ => 0)))]) [0, 1] rfl
    refine vp_callSi (W.runV (As := []) (rest := []) ⟨hx, hb, hml, hown, hts⟩ (c_X6_all l D cI cJ cQ m0 ms mf mw mk mh q0 q1 q2 q3 q4 q5 q6 q7 k0 k1 k2 k3) (cwV 0 hts gX6_deal_X6_all rfl rfl rfl (by decide +kernel) ⟨Nat.le_of_ble_eq_true rfl, Nat.le_of_ble_eq_true rfl⟩) (rP_preV (ci := 6) (q0 := 0) hPc hK rfl rfl) rfl rfl hl.1 rfl (lv_room (Nat.le_of_ble_eq_true rfl)) dX6_deal_15 ⟨Nat.le_of_ble_eq_true rfl, Nat.le_of_ble_eq_true rfl⟩) (fun r_3 hr_3 => ?_)
    subst hr_3
    refine lv_iconst (v := 3) hx hb dX6_deal_18 (by decide) ?_
    refine lv_icmp_ge (tgt := 26) hx hb dX6_deal_19 (by decide) (fun c19_4 => ?_) (fun c19_4 => ?_)
    · exact absurd c19_4 (by decide)
    refine lv_ldc2 hx hb hown (hts _ wd_X6_deal_0) dX6_deal_22 ?_
    exact W.lret (v := (-1002)) hx hb hr (fun t ht hW => ⟨_, rfl, (by unfold dealM; first | (simp [c7_2]; done) | ((try first | rw [if_pos c7_2] | rw [if_neg c7_2]); first | done | rfl | trivial)), ht⟩) (fun q hq => absurd hq List.not_mem_nil) dX6_deal_25
  · skip
    refine lv_ldc2 hx hb hown (hts _ wd_X6_deal_1) dX6_deal_10 ?_
    exact W.lret (v := (-1001)) hx hb hr (fun t ht hW => ⟨_, rfl, (by unfold dealM; first | (simp [c7_2]; done) | ((try first | rw [if_pos c7_2] | rw [if_neg c7_2]); first | done | rfl | trivial)), ht⟩) (fun q hq => absurd hq List.not_mem_nil) dX6_deal_13

set_option maxRecDepth 20000 in
theorem wd_X6_moved_0 : Cond.constantLong RX6 86 (10) ∈ wsX6_moved := by decide +kernel
set_option maxRecDepth 20000 in
theorem ggX6_moved_X6_in : GoodIn wsX6_moved wsX6_in := goodIn_r _ [10] (by decide +kernel) (by decide +kernel)
set_option maxRecDepth 20000 in
theorem gX6_moved_X6_in : GoodIn wsX6_moved (va_wsS RX6 88 yX6_in wsX6_in) := goodIn_app (goodIn_of _ (by decide +kernel)) ggX6_moved_X6_in
set_option maxRecDepth 20000 in
theorem wd_X6_moved_1 : Cond.constantLong RX6 261 (-1001) ∈ wsX6_moved := by decide +kernel
set_option maxRecDepth 20000 in
theorem in_X6_moved_X6 : ∀ w ∈ wsX60, w ∈ wsX6_moved := by decide +kernel
set_option maxRecDepth 20000 in
theorem wd_X6_moved_2 : Cond.fieldLink RX6 7 "ShoeTableModel" "shoe" "[I" ∈ wsX6_moved := by decide +kernel
set_option maxRecDepth 20000 in
theorem wd_X6_moved_3 : Cond.constantLong RX6 263 (-1002) ∈ wsX6_moved := by decide +kernel
set_option maxHeartbeats 400000 in
set_option maxRecDepth 100000 in
/-- X6_moved -/
theorem c_X6_moved (l : Launch) (D : va_G) (cI cJ cQ : ClassId) (m0 : Nat) (ms : Nat) (mf : Nat) (mw : Nat) (mk : Nat) (mh : Nat) (q0 : Nat) (q1 : Nat) (q2 : Nat) (q3 : Nat) (q4 : Nat) (q5 : Nat) (q6 : Nat) (q7 : Nat) (k0 : Nat) (k1 : Nat) (k2 : Nat) (k3 : Nat) (p0 : Int32) (p1 : Int32)  : Met l yX6_moved wsX6_moved ({ frames := 1, cells := 0, slots := 0, locals := 25 }) (va_Pc [.ref m0, .int p0, .int p1] (rP D (gTy cI cJ cQ) [(m0, .inr (6, [.ref ms, .ref mf, .ref mw, .ref mk, .int 0, .ref mh, .int 0, .int 0, .int 21, .int 17, .int 0, .int 1, .int 1, .int 1, .int 3, .long 1, .int 0, .ref q0, .ref q1, .ref q2, .int 0, .ref q3, .ref q4, .ref q5, .ref q6, .ref q7, .int 0, .int 0, .int 0, .int 0, .int 0, .int 0, .int 0, .int 0, .int 0, .ref k0, .ref k1, .ref k2, .ref k3])), (ms, .inl (cI, 11, .inl (fun _ => 0)))])) (vp_Sl (fun r => r = movedM p0 p1)) 0 0 (fun _ => False) := by
  refine Met.ofW (cc := cX6_moved) (maxL := 7) (ret := (some .long)) (by decide) rfl ?_
  intro p e s m args below meth c s₁ B hml hv
  obtain ⟨rfl, hP, hK⟩ := hv
  have hx := B.exec
  have hb := B.bytes
  have hr := B.returns
  have hts := atoms_spec (ws := wsX6_moved) B.pre
  have hown : s.vm.findClass RX6 = some m.cls := findClass_of_methodNamed B.named
  have hlocks := B.notSynchronized
  have hl := lv_entry ([.ref m0, .int p0, .int p1]) (n := 7) (Nat.le_of_ble_eq_true rfl)
  rw [lg_entry_eq]
  generalize (lg_sl ([.ref m0, .int p0, .int p1]) ++ List.replicate (7 - (lg_sl ([.ref m0, .int p0, .int p1])).length) Slot.unset).toArray = ls at hl ⊢
  have hl : lv_has ls 7 [(0, .ref m0), (1, .int p0), (2, .int p1)] := hl
  refine lv_iload_n hx hb dX6_moved_0 rfl (lv_at hl 1 rfl) ?_
  refine lv_i2l (v := p0.toInt64) hx hb dX6_moved_1 rfl ?_
  refine lv_lconst (v := 1) hx hb dX6_moved_2 (by decide) ?_
  refine lv_ldc2 hx hb hown (hts _ wd_X6_moved_0) dX6_moved_3 ?_
  have hPc := hP.sub (ws' := []) [] rfl
  refine vp_callSi (W.runS (As := [.long p0.toInt64, .long 1, .long 10]) (rest := []) ⟨hx, hb, hml, hown, hts⟩ (c_X6_in l D cI cJ cQ p0.toInt64 1 10) (va_cwS 3 hts gX6_moved_X6_in rfl rfl rfl (by decide +kernel) ⟨Nat.le_of_ble_eq_true rfl, Nat.le_of_ble_eq_true rfl⟩) (rP_preS hPc hK) rfl rfl hl.1 rfl (lv_room (Nat.le_of_ble_eq_true rfl)) dX6_moved_6 ⟨Nat.le_of_ble_eq_true rfl, Nat.le_of_ble_eq_true rfl⟩) (fun r_1 hr_1 => ?_)
  subst hr_1
  refine lv_if_eq (tgt := 22) hx hb dX6_moved_9 (by decide) (fun c9_2 => ?_) (fun c9_2 => ?_)
  · skip
    refine lv_ldc2 hx hb hown (hts _ wd_X6_moved_1) dX6_moved_22 ?_
    exact W.lret (v := (-1001)) hx hb hr (fun t ht hW => ⟨_, rfl, (by unfold movedM; first | (simp [c9_2]; done) | ((try first | rw [if_pos c9_2] | rw [if_neg c9_2]); first | done | rfl | trivial)), ht⟩) (fun q hq => absurd hq List.not_mem_nil) dX6_moved_25
  · skip
    refine lv_iload_n hx hb dX6_moved_12 rfl (lv_at hl 2 rfl) ?_
    refine lv_i2l (v := p1.toInt64) hx hb dX6_moved_13 rfl ?_
    refine lv_lconst (v := 0) hx hb dX6_moved_14 (by decide) ?_
    refine lv_lconst (v := 1) hx hb dX6_moved_15 (by decide) ?_
    have hPc := hP.sub (ws' := []) [] rfl
    refine vp_callSi (W.runS (As := [.long p1.toInt64, .long 0, .long 1]) (rest := []) ⟨hx, hb, hml, hown, hts⟩ (c_X6_in l D cI cJ cQ p1.toInt64 0 1) (va_cwS 3 hts gX6_moved_X6_in rfl rfl rfl (by decide +kernel) ⟨Nat.le_of_ble_eq_true rfl, Nat.le_of_ble_eq_true rfl⟩) (rP_preS hPc hK) rfl rfl hl.1 rfl (lv_room (Nat.le_of_ble_eq_true rfl)) dX6_moved_16 ⟨Nat.le_of_ble_eq_true rfl, Nat.le_of_ble_eq_true rfl⟩) (fun r_3 hr_3 => ?_)
    subst hr_3
    refine lv_if_ne (tgt := 26) hx hb dX6_moved_19 (by decide) (fun c19_4 => ?_) (fun c19_4 => ?_)
    · skip
      refine lv_aload_n hx hb dX6_moved_26 rfl (lv_at hl 0 rfl) ?_
      refine va_get (D := D) (ci := 6) (v := .ref ms) (C := RX6) (T := TX6) (N := 39) hx hb hts in_X6_moved_X6 hown hK hP 0 rfl rfl 0 (by decide) (hts _ wd_X6_moved_2) (fun _ h9 => h9) rfl dX6_moved_27 ?_
      refine lv_iload_n hx hb dX6_moved_30 rfl (lv_at hl 1 rfl) ?_
      refine va_iald hx hb hK hP 1 0 rfl rfl (rkB_in (by rw [← in_rk]; exact c9_2)) dX6_moved_31 ?_
      refine lv_topi (fun z_5 ez_5 => ?_)
      obtain rfl : z_5 = 0 := ez_5
      refine lv_if_eq (tgt := 43) hx hb dX6_moved_32 (by decide) (fun c32_6 => ?_) (fun c32_6 => ?_)
      · skip
        refine lv_ldc2 hx hb hown (hts _ wd_X6_moved_3) dX6_moved_43 ?_
        exact W.lret (v := (-1002)) hx hb hr (fun t ht hW => ⟨_, rfl, (by unfold movedM; first | (simp [c9_2, c19_4, c32_6]; done) | ((try first | rw [if_pos c9_2] | rw [if_neg c9_2]); (try first | rw [if_pos c19_4] | rw [if_neg c19_4]); (try first | rw [if_pos c32_6] | rw [if_neg c32_6]); first | done | rfl | trivial)), ht⟩) (fun q hq => absurd hq List.not_mem_nil) dX6_moved_46
      · exact absurd c32_6 (by decide)
    · skip
      refine lv_ldc2 hx hb hown (hts _ wd_X6_moved_1) dX6_moved_22 ?_
      exact W.lret (v := (-1001)) hx hb hr (fun t ht hW => ⟨_, rfl, (by unfold movedM; first | (simp [c9_2, c19_4]; done) | ((try first | rw [if_pos c9_2] | rw [if_neg c9_2]); (try first | rw [if_pos c19_4] | rw [if_neg c19_4]); first | done | rfl | trivial)), ht⟩) (fun q hq => absurd hq List.not_mem_nil) dX6_moved_25
