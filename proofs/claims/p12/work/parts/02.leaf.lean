set_option maxRecDepth 20000 in
theorem wd_X0_init_0 : Cond.methodLink RX0 3 objectInit ∈ wsX0_init := by decide +kernel
set_option maxRecDepth 20000 in
theorem wd_X0_init_1 : Cond.instanceMethod objectInit ∈ wsX0_init := by decide +kernel
set_option maxRecDepth 20000 in
theorem wd_X0_init_2 : Cond.code objectInit ⟨#[0xb1]⟩ 1 none ∈ wsX0_init := by decide +kernel
set_option maxRecDepth 20000 in
theorem wd_X0_init_3 : Cond.arrayClass .int ∈ wsX0_init := by decide +kernel
set_option maxRecDepth 20000 in
theorem in_X0_init_X0 : ∀ w ∈ wsX00, w ∈ wsX0_init := by decide +kernel
set_option maxRecDepth 20000 in
theorem wd_X0_init_4 : Cond.fieldLink RX0 9 "ShoeTable$Cards" "counts" "[I" ∈ wsX0_init := by decide +kernel
set_option maxRecDepth 20000 in
theorem wd_X0_init_5 : Cond.fieldLink RX0 15 "ShoeTable$Cards" "total" "I" ∈ wsX0_init := by decide +kernel
set_option maxHeartbeats 400000 in
set_option maxRecDepth 100000 in
/-- X0_init -/
theorem c_X0_init (l : Launch) (D : va_G) (cI cJ cQ : ClassId) (sz : Nat) (h0 : Nat)  : Met l yX0_init wsX0_init ({ frames := 1, cells := 1, slots := 11, locals := 12 }) (va_Pc [.ref h0] (mP D (gTy cI cJ cQ) [(h0, .inr (0, [.null, .int 0]))] sz)) (va_Qv (fun (u : Unit) => match u with | _ => True) (fun (u : Unit) t => match u with | _ => ∃ (h1 : Nat), mB D (gTy cI cJ cQ) (va_A [(h0, .inr (0, [.null, .int 0]))] sz) [(h0, .inr (0, [.ref h1, .int 0])), (h1, .inl (cI, 11, .inl (fun _ => 0)))] t) (va_A [(h0, .inr (0, [.null, .int 0]))] sz)) 1 11 (va_A [(h0, .inr (0, [.null, .int 0]))] sz) := by
  refine Met.ofW (cc := cX0_init) (maxL := 1) (ret := none) (by decide) rfl ?_
  intro p e s m args below meth c s₁ B hml hv
  obtain ⟨rfl, hsz, hP, hK, hD0⟩ := hv
  have hx := B.exec
  have hb := B.bytes
  have hr := B.returns
  have hts := atoms_spec (ws := wsX0_init) B.pre
  have hown : s.vm.findClass RX0 = some m.cls := findClass_of_methodNamed B.named
  have hlocks := B.notSynchronized
  have hin : meth.name = "<init>" := (name_of_methodNamed B.named B.method).1
  subst hsz
  have hD := hD0.self (sz := s.heap.size)
  generalize hAe : va_A [(h0, .inr (0, [.null, .int 0]))] s.heap.size = A at hD ⊢
  have hA : ∀ q : Nat, s.heap.size ≤ q → A q := fun q h => by rw [← hAe]; exact Or.inr h
  have hS : va_S A s.heap s.heap [] := va_S.rf
  have hP : va_P D vwCl [(h0, .inr (0, [.null, .int 0]))] s.heap := hP
  have hl := lv_entry ([.ref h0]) (n := 1) (Nat.le_of_ble_eq_true rfl)
  rw [lg_entry_eq]
  generalize (lg_sl ([.ref h0]) ++ List.replicate (1 - (lg_sl ([.ref h0])).length) Slot.unset).toArray = ls at hl ⊢
  have hl : lv_has ls 1 [(0, .ref h0)] := hl
  refine lv_aload_n hx hb dX0_init_0 rfl (lv_at hl 0 rfl) ?_
  refine W.objInit hx hb hown (hts _ wd_X0_init_0) (hts _ wd_X0_init_1) (hts _ wd_X0_init_2) rfl (by rw [hml]; exact hl.1) rfl dX0_init_1 (Nat.le_of_ble_eq_true rfl) (Nat.le_of_ble_eq_true rfl) ?_
  refine W.eq (g2 := F0 m 4 ls []) rfl ?_
  refine lv_aload_n hx hb dX0_init_4 rfl (lv_at hl 0 rfl) ?_
  refine lv_bipush (v := 11) hx hb dX0_init_5 (by decide) ?_
  refine va_newa (atype := .int) (a0 := (11, .inl (fun _ => 0))) (ty := .int) (N' := 11) hx hb (hts _ wd_X0_init_3) rfl hK hP hD hS hA (fun cA => newI cA 11) (by decide) (by decide) (Nat.le_of_ble_eq_true rfl) (Nat.le_of_ble_eq_true rfl) (Nat.le_of_ble_eq_true rfl) dX0_init_7 (fun q_1 cA H hK0 hP hD hS => ?_)
  have ecA := va_Ksame (i := 0) (j := 3) hK0 rfl rfl
  subst ecA
  have hP : va_P D vwCl [(h0, .inr (0, [.null, .int 0])), (q_1, .inl (cI, 11, .inl (fun _ => 0)))] H := hP
  have hD : va_D A [(h0, .inr (0, [.null, .int 0])), (q_1, .inl (cI, 11, .inl (fun _ => 0)))] := hD
  refine W.widen (k := 1) (n := 11) (by omega) (by omega) ?_
  refine va_putF (D := D) (ci := 0) (v := .ref q_1) (ty := .array .int) (C := RX0) (T := TX0) (N := 2) hx hb hts in_X0_init_X0 tyX0 tyX0_ok nmX0 hown hK hP hD hS 0 rfl rfl 0 (by decide) (hts _ wd_X0_init_4) (fun _ h9 => h9) rfl hin rfl (by decide +kernel) rfl rfl (Nat.le_of_ble_eq_true rfl) dX0_init_9 (fun H locs hP hD hS => ?_)
  have hP : va_P D vwCl [(h0, .inr (0, [.ref q_1, .int 0])), (q_1, .inl (cI, 11, .inl (fun _ => 0)))] H := hP
  have hD : va_D A [(h0, .inr (0, [.ref q_1, .int 0])), (q_1, .inl (cI, 11, .inl (fun _ => 0)))] := hD
  refine lv_aload_n hx hb dX0_init_12 rfl (lv_at hl 0 rfl) ?_
  refine lv_iconst (v := 0) hx hb dX0_init_13 (by decide) ?_
  refine va_put (D := D) (ci := 0) (v := .int 0) (ty := .int) (C := RX0) (T := TX0) (N := 2) hx hb hts in_X0_init_X0 tyX0 tyX0_ok nmX0 hown hK hP hD hS 0 rfl rfl 1 (by decide) (hts _ wd_X0_init_5) (fun _ h9 => h9) rfl (by decide +kernel) rfl rfl (Nat.le_of_ble_eq_true rfl) dX0_init_14 (fun H locs hP hD hS => ?_)
  have hP : va_P D vwCl [(h0, .inr (0, [.ref q_1, .int 0])), (q_1, .inl (cI, 11, .inl (fun _ => 0)))] H := hP
  have hD : va_D A [(h0, .inr (0, [.ref q_1, .int 0])), (q_1, .inl (cI, 11, .inl (fun _ => 0)))] := hD
  have hP9 := hP.sub (ws' := [(h0, .inr (0, [.ref q_1, .int 0])), (q_1, .inl (cI, 11, .inl (fun _ => 0)))]) [0, 1] rfl
  have hD9 := hD.sub (ws' := [(h0, .inr (0, [.ref q_1, .int 0])), (q_1, .inl (cI, 11, .inl (fun _ => 0)))]) [0, 1] (by decide) rfl
  refine W.widen (k := 1) (n := 11) (Nat.le_of_ble_eq_true rfl) (Nat.le_of_ble_eq_true rfl) ?_
  exact W.vret hx hb hr (fun t ht hW => ⟨⟨(), rfl, (by first | rfl | trivial | (simp []; done) | rfl | (simp_all; done)), q_1, by rw [ht]; exact hP9, va_K.moved hW.alike hK, hD9⟩, hS.F ht⟩) hS.2.2 dX0_init_17

set_option maxRecDepth 20000 in
theorem in_X0_count_X0 : ∀ w ∈ wsX00, w ∈ wsX0_count := by decide +kernel
set_option maxRecDepth 20000 in
theorem wd_X0_count_0 : Cond.fieldLink RX0 9 "ShoeTable$Cards" "counts" "[I" ∈ wsX0_count := by decide +kernel
set_option maxHeartbeats 400000 in
set_option maxRecDepth 100000 in
/-- X0_count -/
theorem c_X0_count (l : Launch) (D : va_G) (cI cJ cQ : ClassId) (h0 : Nat) (h1 : Nat) (tot : Int32) (f : Nat → Int32) (p0 : Int32)  : Met l yX0_count wsX0_count ({ frames := 0, cells := 0, slots := 0, locals := 0 }) (va_Pc [.ref h0, .int p0] (rP D (gTy cI cJ cQ) [(h0, .inr (0, [.ref h1, .int tot])), (h1, .inl (cI, 11, .inl f))])) (vp_Si (fun r => r = if p0 < 1 then 0 else if 10 < p0 then 0 else f p0.toNatClampNeg)) 0 0 (fun _ => False) := by
  refine Met.ofW (cc := cX0_count) (maxL := 2) (ret := (some .int)) (by decide) rfl ?_
  intro p e s m args below meth c s₁ B hml hv
  obtain ⟨rfl, hP, hK⟩ := hv
  have hx := B.exec
  have hb := B.bytes
  have hr := B.returns
  have hts := atoms_spec (ws := wsX0_count) B.pre
  have hown : s.vm.findClass RX0 = some m.cls := findClass_of_methodNamed B.named
  have hlocks := B.notSynchronized
  have hl := lv_entry ([.ref h0, .int p0]) (n := 2) (Nat.le_of_ble_eq_true rfl)
  rw [lg_entry_eq]
  generalize (lg_sl ([.ref h0, .int p0]) ++ List.replicate (2 - (lg_sl ([.ref h0, .int p0])).length) Slot.unset).toArray = ls at hl ⊢
  have hl : lv_has ls 2 [(0, .ref h0), (1, .int p0)] := hl
  refine lv_iload_n hx hb dX0_count_0 rfl (lv_at hl 1 rfl) ?_
  refine lv_iconst (v := 1) hx hb dX0_count_1 (by decide) ?_
  refine lv_icmp_lt (tgt := 20) hx hb dX0_count_2 (by decide) (fun c2_1 => ?_) (fun c2_1 => ?_)
  · skip
    refine lv_iconst (v := 0) hx hb dX0_count_20 (by decide) ?_
    exact W.iret (v := 0) hx hb hr (fun t ht hW => ⟨_, rfl, (by first | rfl | trivial | (simp [c2_1]; done) | ((try first | rw [if_pos c2_1] | rw [if_neg c2_1]); first | done | rfl | trivial) | (simp_all; done)), ht⟩) (fun q hq => absurd hq List.not_mem_nil) dX0_count_21
  · skip
    refine lv_iload_n hx hb dX0_count_5 rfl (lv_at hl 1 rfl) ?_
    refine lv_bipush (v := 10) hx hb dX0_count_6 (by decide) ?_
    refine lv_icmp_gt (tgt := 20) hx hb dX0_count_8 (by decide) (fun c8_2 => ?_) (fun c8_2 => ?_)
    · skip
      refine lv_iconst (v := 0) hx hb dX0_count_20 (by decide) ?_
      exact W.iret (v := 0) hx hb hr (fun t ht hW => ⟨_, rfl, (by first | rfl | trivial | (simp [c2_1, c8_2]; done) | ((try first | rw [if_pos c2_1] | rw [if_neg c2_1]); (try first | rw [if_pos c8_2] | rw [if_neg c8_2]); first | done | rfl | trivial) | (simp_all; done)), ht⟩) (fun q hq => absurd hq List.not_mem_nil) dX0_count_21
    · skip
      refine lv_aload_n hx hb dX0_count_11 rfl (lv_at hl 0 rfl) ?_
      refine va_get (D := D) (ci := 0) (v := .ref h1) (C := RX0) (T := TX0) (N := 2) hx hb hts in_X0_count_X0 hown hK hP 0 rfl rfl 0 (by decide) (hts _ wd_X0_count_0) (fun _ h9 => h9) rfl dX0_count_12 ?_
      refine lv_iload_n hx hb dX0_count_15 rfl (lv_at hl 1 rfl) ?_
      refine va_iald hx hb hK hP 1 0 rfl rfl (rk_in c2_1 c8_2) dX0_count_16 ?_
      refine lv_goto (tgt := 21) hx hb dX0_count_17 (by decide) ?_
      exact W.iret (v := (f p0.toNatClampNeg)) hx hb hr (fun t ht hW => ⟨_, rfl, (by first | rfl | trivial | (simp [c2_1, c8_2]; done) | ((try first | rw [if_pos c2_1] | rw [if_neg c2_1]); (try first | rw [if_pos c8_2] | rw [if_neg c8_2]); first | done | rfl | trivial) | (simp_all; done)), ht⟩) (fun q hq => absurd hq List.not_mem_nil) dX0_count_21

set_option maxRecDepth 20000 in
theorem in_X0_put_X0 : ∀ w ∈ wsX00, w ∈ wsX0_put := by decide +kernel
set_option maxRecDepth 20000 in
theorem wd_X0_put_0 : Cond.fieldLink RX0 15 "ShoeTable$Cards" "total" "I" ∈ wsX0_put := by decide +kernel
set_option maxRecDepth 20000 in
theorem wd_X0_put_1 : Cond.fieldLink RX0 9 "ShoeTable$Cards" "counts" "[I" ∈ wsX0_put := by decide +kernel
set_option maxHeartbeats 400000 in
set_option maxRecDepth 100000 in
/-- X0_put -/
theorem c_X0_put (l : Launch) (D : va_G) (cI cJ cQ : ClassId) (sz : Nat) (h0 : Nat) (h1 : Nat) (tot : Int32) (f : Nat → Int32) (p0 : Int32) (p1 : Int32)  : Met l yX0_put wsX0_put ({ frames := 0, cells := 0, slots := 0, locals := 0 }) (va_Pc [.ref h0, .int p0, .int p1] (mP D (gTy cI cJ cQ) [(h0, .inr (0, [.ref h1, .int tot])), (h1, .inl (cI, 11, .inl f))] sz)) (va_Qv (fun (u : Int32 × (Nat → Int32)) => match u with | (tot2, f2) => if p0 < 1 then tot2 = tot ∧ f2 = f else if 10 < p0 then tot2 = tot ∧ f2 = f else tot2 = tot + (p1 - f p0.toNatClampNeg) ∧ f2 = upd f p0.toNatClampNeg p1) (fun (u : Int32 × (Nat → Int32)) t => match u with | (tot2, f2) => mB D (gTy cI cJ cQ) (va_A [(h0, .inr (0, [.ref h1, .int tot])), (h1, .inl (cI, 11, .inl f))] sz) [(h0, .inr (0, [.ref h1, .int tot2])), (h1, .inl (cI, 11, .inl f2))] t) (va_A [(h0, .inr (0, [.ref h1, .int tot])), (h1, .inl (cI, 11, .inl f))] sz)) 0 0 (va_A [(h0, .inr (0, [.ref h1, .int tot])), (h1, .inl (cI, 11, .inl f))] sz) := by
  refine Met.ofW (cc := cX0_put) (maxL := 3) (ret := none) (by decide) rfl ?_
  intro p e s m args below meth c s₁ B hml hv
  obtain ⟨rfl, hsz, hP, hK, hD0⟩ := hv
  have hx := B.exec
  have hb := B.bytes
  have hr := B.returns
  have hts := atoms_spec (ws := wsX0_put) B.pre
  have hown : s.vm.findClass RX0 = some m.cls := findClass_of_methodNamed B.named
  have hlocks := B.notSynchronized
  subst hsz
  have hD := hD0.self (sz := s.heap.size)
  generalize hAe : va_A [(h0, .inr (0, [.ref h1, .int tot])), (h1, .inl (cI, 11, .inl f))] s.heap.size = A at hD ⊢
  have hA : ∀ q : Nat, s.heap.size ≤ q → A q := fun q h => by rw [← hAe]; exact Or.inr h
  have hS : va_S A s.heap s.heap [] := va_S.rf
  have hP : va_P D vwCl [(h0, .inr (0, [.ref h1, .int tot])), (h1, .inl (cI, 11, .inl f))] s.heap := hP
  have hl := lv_entry ([.ref h0, .int p0, .int p1]) (n := 3) (Nat.le_of_ble_eq_true rfl)
  rw [lg_entry_eq]
  generalize (lg_sl ([.ref h0, .int p0, .int p1]) ++ List.replicate (3 - (lg_sl ([.ref h0, .int p0, .int p1])).length) Slot.unset).toArray = ls at hl ⊢
  have hl : lv_has ls 3 [(0, .ref h0), (1, .int p0), (2, .int p1)] := hl
  refine lv_iload_n hx hb dX0_put_0 rfl (lv_at hl 1 rfl) ?_
  refine lv_iconst (v := 1) hx hb dX0_put_1 (by decide) ?_
  refine lv_icmp_lt (tgt := 35) hx hb dX0_put_2 (by decide) (fun c2_1 => ?_) (fun c2_1 => ?_)
  · skip
    have hP9 := hP.sub (ws' := [(h0, .inr (0, [.ref h1, .int tot])), (h1, .inl (cI, 11, .inl f))]) [0, 1] rfl
    have hD9 := hD.sub (ws' := [(h0, .inr (0, [.ref h1, .int tot])), (h1, .inl (cI, 11, .inl f))]) [0, 1] (by decide) rfl
    exact W.vret hx hb hr (fun t ht hW => ⟨⟨(tot, (f)), rfl, (by first | rfl | trivial | (simp [c2_1]; done) | ((try first | rw [if_pos c2_1] | rw [if_neg c2_1]); first | done | rfl | trivial) | (simp_all; done)), by rw [ht]; exact hP9, va_K.moved hW.alike hK, hD9⟩, hS.F ht⟩) hS.2.2 dX0_put_35
  · skip
    refine lv_iload_n hx hb dX0_put_5 rfl (lv_at hl 1 rfl) ?_
    refine lv_bipush (v := 10) hx hb dX0_put_6 (by decide) ?_
    refine lv_icmp_gt (tgt := 35) hx hb dX0_put_8 (by decide) (fun c8_2 => ?_) (fun c8_2 => ?_)
    · skip
      have hP9 := hP.sub (ws' := [(h0, .inr (0, [.ref h1, .int tot])), (h1, .inl (cI, 11, .inl f))]) [0, 1] rfl
      have hD9 := hD.sub (ws' := [(h0, .inr (0, [.ref h1, .int tot])), (h1, .inl (cI, 11, .inl f))]) [0, 1] (by decide) rfl
      exact W.vret hx hb hr (fun t ht hW => ⟨⟨(tot, (f)), rfl, (by first | rfl | trivial | (simp [c2_1, c8_2]; done) | ((try first | rw [if_pos c2_1] | rw [if_neg c2_1]); (try first | rw [if_pos c8_2] | rw [if_neg c8_2]); first | done | rfl | trivial) | (simp_all; done)), by rw [ht]; exact hP9, va_K.moved hW.alike hK, hD9⟩, hS.F ht⟩) hS.2.2 dX0_put_35
    · skip
      refine lv_aload_n hx hb dX0_put_11 rfl (lv_at hl 0 rfl) ?_
      refine lv_dup hx hb dX0_put_12 rfl ?_
      refine va_get (D := D) (ci := 0) (v := .int tot) (C := RX0) (T := TX0) (N := 2) hx hb hts in_X0_put_X0 hown hK hP 0 rfl rfl 1 (by decide) (hts _ wd_X0_put_0) (fun _ h9 => h9) rfl dX0_put_13 ?_
      refine lv_iload_n hx hb dX0_put_16 rfl (lv_at hl 2 rfl) ?_
      refine lv_aload_n hx hb dX0_put_17 rfl (lv_at hl 0 rfl) ?_
      refine va_get (D := D) (ci := 0) (v := .ref h1) (C := RX0) (T := TX0) (N := 2) hx hb hts in_X0_put_X0 hown hK hP 0 rfl rfl 0 (by decide) (hts _ wd_X0_put_1) (fun _ h9 => h9) rfl dX0_put_18 ?_
      refine lv_iload_n hx hb dX0_put_21 rfl (lv_at hl 1 rfl) ?_
      refine va_iald hx hb hK hP 1 0 rfl rfl (rk_in c2_1 c8_2) dX0_put_22 ?_
      refine lv_isub hx hb dX0_put_23 ?_
      refine lv_iadd hx hb dX0_put_24 ?_
      refine va_put (D := D) (ci := 0) (v := .int (tot + (p1 - (f p0.toNatClampNeg)))) (ty := .int) (C := RX0) (T := TX0) (N := 2) hx hb hts in_X0_put_X0 tyX0 tyX0_ok nmX0 hown hK hP hD hS 0 rfl rfl 1 (by decide) (hts _ wd_X0_put_0) (fun _ h9 => h9) rfl (by decide +kernel) rfl rfl (Nat.le_of_ble_eq_true rfl) dX0_put_25 (fun H locs hP hD hS => ?_)
      have hP : va_P D vwCl [(h0, .inr (0, [.ref h1, .int (tot + (p1 - (f p0.toNatClampNeg)))])), (h1, .inl (cI, 11, .inl f))] H := hP
      have hD : va_D A [(h0, .inr (0, [.ref h1, .int (tot + (p1 - (f p0.toNatClampNeg)))])), (h1, .inl (cI, 11, .inl f))] := hD
      refine lv_aload_n hx hb dX0_put_28 rfl (lv_at hl 0 rfl) ?_
      refine va_get (D := D) (ci := 0) (v := .ref h1) (C := RX0) (T := TX0) (N := 2) hx hb hts in_X0_put_X0 hown hK hP 0 rfl rfl 0 (by decide) (hts _ wd_X0_put_1) (fun _ h9 => h9) rfl dX0_put_29 ?_
      refine lv_iload_n hx hb dX0_put_32 rfl (lv_at hl 1 rfl) ?_
      refine lv_iload_n hx hb dX0_put_33 rfl (lv_at hl 2 rfl) ?_
      refine va_iast hx hb hK hP hD hS 1 0 rfl rfl (rk_in c2_1 c8_2) dX0_put_34 (fun H locs hP hD hS => ?_)
      have hP : va_P D vwCl [(h0, .inr (0, [.ref h1, .int (tot + (p1 - (f p0.toNatClampNeg)))])), (h1, .inl (cI, 11, .inl (upd f p0.toNatClampNeg p1)))] H := hP
      have hD : va_D A [(h0, .inr (0, [.ref h1, .int (tot + (p1 - (f p0.toNatClampNeg)))])), (h1, .inl (cI, 11, .inl (upd f p0.toNatClampNeg p1)))] := hD
      have hP9 := hP.sub (ws' := [(h0, .inr (0, [.ref h1, .int (tot + (p1 - (f p0.toNatClampNeg)))])), (h1, .inl (cI, 11, .inl (upd f p0.toNatClampNeg p1)))]) [0, 1] rfl
      have hD9 := hD.sub (ws' := [(h0, .inr (0, [.ref h1, .int (tot + (p1 - (f p0.toNatClampNeg)))])), (h1, .inl (cI, 11, .inl (upd f p0.toNatClampNeg p1)))]) [0, 1] (by decide) rfl
      exact W.vret hx hb hr (fun t ht hW => ⟨⟨((tot + (p1 - (f p0.toNatClampNeg))), (upd f p0.toNatClampNeg p1)), rfl, (by first | rfl | trivial | (simp [c2_1, c8_2]; done) | ((try first | rw [if_pos c2_1] | rw [if_neg c2_1]); (try first | rw [if_pos c8_2] | rw [if_neg c8_2]); first | done | rfl | trivial) | (simp_all; done)), by rw [ht]; exact hP9, va_K.moved hW.alike hK, hD9⟩, hS.F ht⟩) hS.2.2 dX0_put_35

set_option maxHeartbeats 400000 in
set_option maxRecDepth 100000 in
/-- J7_fill_53178 -/
theorem c_J7_fill_53178 (l : Launch) (D : va_G) (cI cJ cQ : ClassId) (sz : Nat) (h0 : Nat) (f : Nat → Int32) (p1 : Int32)  : Met l yJ7_fill_53178 wsJ7_fill_53178 ({ frames := 0, cells := 0, slots := 0, locals := 0 }) (va_Pc [.ref h0, .int p1] (mP D (gTy cI cJ cQ) [(h0, .inl (cI, 11, .inl f))] sz)) (va_Qv (fun (u : (Nat → Int32)) => match u with | f2 => ∀ j, j < 11 → f2 j = p1) (fun (u : (Nat → Int32)) t => match u with | f2 => mB D (gTy cI cJ cQ) (va_A [(h0, .inl (cI, 11, .inl f))] sz) [(h0, .inl (cI, 11, .inl f2))] t) (va_A [(h0, .inl (cI, 11, .inl f))] sz)) 0 0 (va_A [(h0, .inl (cI, 11, .inl f))] sz) := by
  refine Met.ofW (cc := cJ7_fill_53178) (maxL := 4) (ret := none) (by decide) rfl ?_
  intro p e s m args below meth c s₁ B hml hv
  obtain ⟨rfl, hsz, hP, hK, hD0⟩ := hv
  have hx := B.exec
  have hb := B.bytes
  have hr := B.returns
  have hts := atoms_spec (ws := wsJ7_fill_53178) B.pre
  have hown : s.vm.findClass RJ7 = some m.cls := findClass_of_methodNamed B.named
  have hlocks := B.notSynchronized
  subst hsz
  have hD := hD0.self (sz := s.heap.size)
  generalize hAe : va_A [(h0, .inl (cI, 11, .inl f))] s.heap.size = A at hD ⊢
  have hA : ∀ q : Nat, s.heap.size ≤ q → A q := fun q h => by rw [← hAe]; exact Or.inr h
  have hS : va_S A s.heap s.heap [] := va_S.rf
  have hP : va_P D vwCl [(h0, .inl (cI, 11, .inl f))] s.heap := hP
  have hl := lv_entry ([.ref h0, .int p1]) (n := 4) (Nat.le_of_ble_eq_true rfl)
  rw [lg_entry_eq]
  generalize (lg_sl ([.ref h0, .int p1]) ++ List.replicate (4 - (lg_sl ([.ref h0, .int p1])).length) Slot.unset).toArray = ls at hl ⊢
  have hl : lv_has ls 4 [(0, .ref h0), (1, .int p1)] := hl
  refine lv_iconst (v := 0) hx hb dJ7_fill_53178_0 (by decide) ?_
  refine lv_istore_n (lv' := [(2, .int 0), (0, .ref h0), (1, .int p1)]) hx hb dJ7_fill_53178_1 rfl hl (by decide) rfl (fun ls hl => ?_)
  refine lv_aload_n hx hb dJ7_fill_53178_2 rfl (lv_at hl 1 rfl) ?_
  refine va_alen hx hb hK hP 0 0 rfl rfl (v := 11) (by rfl) dJ7_fill_53178_3 ?_
  refine lv_istore_n (lv' := [(3, .int 11), (2, .int 0), (0, .ref h0), (1, .int p1)]) hx hb dJ7_fill_53178_4 rfl hl (by decide) rfl (fun ls hl => ?_)
  refine lv_iload_n hx hb dJ7_fill_53178_5 rfl (lv_at hl 1 rfl) ?_
  refine lv_iload_n hx hb dJ7_fill_53178_6 rfl (lv_at hl 0 rfl) ?_
  refine lv_icmp_ge (tgt := 20) hx hb dJ7_fill_53178_7 (by decide) (fun c7_1 => ?_) (fun c7_1 => ?_)
  · exact absurd c7_1 (by decide)
  refine lv_aload_n hx hb dJ7_fill_53178_10 rfl (lv_at hl 2 rfl) ?_
  refine lv_iload_n hx hb dJ7_fill_53178_11 rfl (lv_at hl 1 rfl) ?_
  refine lv_iload_n hx hb dJ7_fill_53178_12 rfl (lv_at hl 3 rfl) ?_
  refine va_iast hx hb hK hP hD hS 0 0 rfl rfl (show ¬ ((0 : Int32) < 0 ∨ 11 ≤ (0 : Int32).toNatClampNeg) by decide) dJ7_fill_53178_13 (fun H locs hP hD hS => ?_)
  have hP : va_P D vwCl [(h0, .inl (cI, 11, .inl (upd f (0 : Int32).toNatClampNeg p1)))] H := hP
  have hD : va_D A [(h0, .inl (cI, 11, .inl (upd f (0 : Int32).toNatClampNeg p1)))] := hD
  refine lv_iinc (v := 1) (lv' := [(2, .int 1), (3, .int 11), (0, .ref h0), (1, .int p1)]) hx hb dJ7_fill_53178_14 hl (k := 1) rfl (by decide) (by decide) rfl (fun ls hl => ?_)
  refine lv_goto (tgt := 5) hx hb dJ7_fill_53178_17 (by decide) ?_
  refine lv_iload_n hx hb dJ7_fill_53178_5 rfl (lv_at hl 0 rfl) ?_
  refine lv_iload_n hx hb dJ7_fill_53178_6 rfl (lv_at hl 1 rfl) ?_
  refine lv_icmp_ge (tgt := 20) hx hb dJ7_fill_53178_7 (by decide) (fun c7_2 => ?_) (fun c7_2 => ?_)
  · exact absurd c7_2 (by decide)
  refine lv_aload_n hx hb dJ7_fill_53178_10 rfl (lv_at hl 2 rfl) ?_
  refine lv_iload_n hx hb dJ7_fill_53178_11 rfl (lv_at hl 0 rfl) ?_
  refine lv_iload_n hx hb dJ7_fill_53178_12 rfl (lv_at hl 3 rfl) ?_
  refine va_iast hx hb hK hP hD hS 0 0 rfl rfl (show ¬ ((1 : Int32) < 0 ∨ 11 ≤ (1 : Int32).toNatClampNeg) by decide) dJ7_fill_53178_13 (fun H locs hP hD hS => ?_)
  have hP : va_P D vwCl [(h0, .inl (cI, 11, .inl (upd (upd f (0 : Int32).toNatClampNeg p1) (1 : Int32).toNatClampNeg p1)))] H := hP
  have hD : va_D A [(h0, .inl (cI, 11, .inl (upd (upd f (0 : Int32).toNatClampNeg p1) (1 : Int32).toNatClampNeg p1)))] := hD
  refine lv_iinc (v := 2) (lv' := [(2, .int 2), (3, .int 11), (0, .ref h0), (1, .int p1)]) hx hb dJ7_fill_53178_14 hl (k := 0) rfl (by decide) (by decide) rfl (fun ls hl => ?_)
  refine lv_goto (tgt := 5) hx hb dJ7_fill_53178_17 (by decide) ?_
  refine lv_iload_n hx hb dJ7_fill_53178_5 rfl (lv_at hl 0 rfl) ?_
  refine lv_iload_n hx hb dJ7_fill_53178_6 rfl (lv_at hl 1 rfl) ?_
  refine lv_icmp_ge (tgt := 20) hx hb dJ7_fill_53178_7 (by decide) (fun c7_3 => ?_) (fun c7_3 => ?_)
  · exact absurd c7_3 (by decide)
  refine lv_aload_n hx hb dJ7_fill_53178_10 rfl (lv_at hl 2 rfl) ?_
  refine lv_iload_n hx hb dJ7_fill_53178_11 rfl (lv_at hl 0 rfl) ?_
  refine lv_iload_n hx hb dJ7_fill_53178_12 rfl (lv_at hl 3 rfl) ?_
  refine va_iast hx hb hK hP hD hS 0 0 rfl rfl (show ¬ ((2 : Int32) < 0 ∨ 11 ≤ (2 : Int32).toNatClampNeg) by decide) dJ7_fill_53178_13 (fun H locs hP hD hS => ?_)
  have hP : va_P D vwCl [(h0, .inl (cI, 11, .inl (upd (upd (upd f (0 : Int32).toNatClampNeg p1) (1 : Int32).toNatClampNeg p1) (2 : Int32).toNatClampNeg p1)))] H := hP
  have hD : va_D A [(h0, .inl (cI, 11, .inl (upd (upd (upd f (0 : Int32).toNatClampNeg p1) (1 : Int32).toNatClampNeg p1) (2 : Int32).toNatClampNeg p1)))] := hD
  refine lv_iinc (v := 3) (lv' := [(2, .int 3), (3, .int 11), (0, .ref h0), (1, .int p1)]) hx hb dJ7_fill_53178_14 hl (k := 0) rfl (by decide) (by decide) rfl (fun ls hl => ?_)
  refine lv_goto (tgt := 5) hx hb dJ7_fill_53178_17 (by decide) ?_
  refine lv_iload_n hx hb dJ7_fill_53178_5 rfl (lv_at hl 0 rfl) ?_
  refine lv_iload_n hx hb dJ7_fill_53178_6 rfl (lv_at hl 1 rfl) ?_
  refine lv_icmp_ge (tgt := 20) hx hb dJ7_fill_53178_7 (by decide) (fun c7_4 => ?_) (fun c7_4 => ?_)
  · exact absurd c7_4 (by decide)
  refine lv_aload_n hx hb dJ7_fill_53178_10 rfl (lv_at hl 2 rfl) ?_
  refine lv_iload_n hx hb dJ7_fill_53178_11 rfl (lv_at hl 0 rfl) ?_
  refine lv_iload_n hx hb dJ7_fill_53178_12 rfl (lv_at hl 3 rfl) ?_
  refine va_iast hx hb hK hP hD hS 0 0 rfl rfl (show ¬ ((3 : Int32) < 0 ∨ 11 ≤ (3 : Int32).toNatClampNeg) by decide) dJ7_fill_53178_13 (fun H locs hP hD hS => ?_)
  have hP : va_P D vwCl [(h0, .inl (cI, 11, .inl (upd (upd (upd (upd f (0 : Int32).toNatClampNeg p1) (1 : Int32).toNatClampNeg p1) (2 : Int32).toNatClampNeg p1) (3 : Int32).toNatClampNeg p1)))] H := hP
  have hD : va_D A [(h0, .inl (cI, 11, .inl (upd (upd (upd (upd f (0 : Int32).toNatClampNeg p1) (1 : Int32).toNatClampNeg p1) (2 : Int32).toNatClampNeg p1) (3 : Int32).toNatClampNeg p1)))] := hD
  refine lv_iinc (v := 4) (lv' := [(2, .int 4), (3, .int 11), (0, .ref h0), (1, .int p1)]) hx hb dJ7_fill_53178_14 hl (k := 0) rfl (by decide) (by decide) rfl (fun ls hl => ?_)
  refine lv_goto (tgt := 5) hx hb dJ7_fill_53178_17 (by decide) ?_
  refine lv_iload_n hx hb dJ7_fill_53178_5 rfl (lv_at hl 0 rfl) ?_
  refine lv_iload_n hx hb dJ7_fill_53178_6 rfl (lv_at hl 1 rfl) ?_
  refine lv_icmp_ge (tgt := 20) hx hb dJ7_fill_53178_7 (by decide) (fun c7_5 => ?_) (fun c7_5 => ?_)
  · exact absurd c7_5 (by decide)
  refine lv_aload_n hx hb dJ7_fill_53178_10 rfl (lv_at hl 2 rfl) ?_
  refine lv_iload_n hx hb dJ7_fill_53178_11 rfl (lv_at hl 0 rfl) ?_
  refine lv_iload_n hx hb dJ7_fill_53178_12 rfl (lv_at hl 3 rfl) ?_
  refine va_iast hx hb hK hP hD hS 0 0 rfl rfl (show ¬ ((4 : Int32) < 0 ∨ 11 ≤ (4 : Int32).toNatClampNeg) by decide) dJ7_fill_53178_13 (fun H locs hP hD hS => ?_)
  have hP : va_P D vwCl [(h0, .inl (cI, 11, .inl (upd (upd (upd (upd (upd f (0 : Int32).toNatClampNeg p1) (1 : Int32).toNatClampNeg p1) (2 : Int32).toNatClampNeg p1) (3 : Int32).toNatClampNeg p1) (4 : Int32).toNatClampNeg p1)))] H := hP
  have hD : va_D A [(h0, .inl (cI, 11, .inl (upd (upd (upd (upd (upd f (0 : Int32).toNatClampNeg p1) (1 : Int32).toNatClampNeg p1) (2 : Int32).toNatClampNeg p1) (3 : Int32).toNatClampNeg p1) (4 : Int32).toNatClampNeg p1)))] := hD
  refine lv_iinc (v := 5) (lv' := [(2, .int 5), (3, .int 11), (0, .ref h0), (1, .int p1)]) hx hb dJ7_fill_53178_14 hl (k := 0) rfl (by decide) (by decide) rfl (fun ls hl => ?_)
  refine lv_goto (tgt := 5) hx hb dJ7_fill_53178_17 (by decide) ?_
  refine lv_iload_n hx hb dJ7_fill_53178_5 rfl (lv_at hl 0 rfl) ?_
  refine lv_iload_n hx hb dJ7_fill_53178_6 rfl (lv_at hl 1 rfl) ?_
  refine lv_icmp_ge (tgt := 20) hx hb dJ7_fill_53178_7 (by decide) (fun c7_6 => ?_) (fun c7_6 => ?_)
  · exact absurd c7_6 (by decide)
  refine lv_aload_n hx hb dJ7_fill_53178_10 rfl (lv_at hl 2 rfl) ?_
  refine lv_iload_n hx hb dJ7_fill_53178_11 rfl (lv_at hl 0 rfl) ?_
  refine lv_iload_n hx hb dJ7_fill_53178_12 rfl (lv_at hl 3 rfl) ?_
  refine va_iast hx hb hK hP hD hS 0 0 rfl rfl (show ¬ ((5 : Int32) < 0 ∨ 11 ≤ (5 : Int32).toNatClampNeg) by decide) dJ7_fill_53178_13 (fun H locs hP hD hS => ?_)
  have hP : va_P D vwCl [(h0, .inl (cI, 11, .inl (upd (upd (upd (upd (upd (upd f (0 : Int32).toNatClampNeg p1) (1 : Int32).toNatClampNeg p1) (2 : Int32).toNatClampNeg p1) (3 : Int32).toNatClampNeg p1) (4 : Int32).toNatClampNeg p1) (5 : Int32).toNatClampNeg p1)))] H := hP
  have hD : va_D A [(h0, .inl (cI, 11, .inl (upd (upd (upd (upd (upd (upd f (0 : Int32).toNatClampNeg p1) (1 : Int32).toNatClampNeg p1) (2 : Int32).toNatClampNeg p1) (3 : Int32).toNatClampNeg p1) (4 : Int32).toNatClampNeg p1) (5 : Int32).toNatClampNeg p1)))] := hD
  refine lv_iinc (v := 6) (lv' := [(2, .int 6), (3, .int 11), (0, .ref h0), (1, .int p1)]) hx hb dJ7_fill_53178_14 hl (k := 0) rfl (by decide) (by decide) rfl (fun ls hl => ?_)
  refine lv_goto (tgt := 5) hx hb dJ7_fill_53178_17 (by decide) ?_
  refine lv_iload_n hx hb dJ7_fill_53178_5 rfl (lv_at hl 0 rfl) ?_
  refine lv_iload_n hx hb dJ7_fill_53178_6 rfl (lv_at hl 1 rfl) ?_
  refine lv_icmp_ge (tgt := 20) hx hb dJ7_fill_53178_7 (by decide) (fun c7_7 => ?_) (fun c7_7 => ?_)
  · exact absurd c7_7 (by decide)
  refine lv_aload_n hx hb dJ7_fill_53178_10 rfl (lv_at hl 2 rfl) ?_
  refine lv_iload_n hx hb dJ7_fill_53178_11 rfl (lv_at hl 0 rfl) ?_
  refine lv_iload_n hx hb dJ7_fill_53178_12 rfl (lv_at hl 3 rfl) ?_
  refine va_iast hx hb hK hP hD hS 0 0 rfl rfl (show ¬ ((6 : Int32) < 0 ∨ 11 ≤ (6 : Int32).toNatClampNeg) by decide) dJ7_fill_53178_13 (fun H locs hP hD hS => ?_)
  have hP : va_P D vwCl [(h0, .inl (cI, 11, .inl (upd (upd (upd (upd (upd (upd (upd f (0 : Int32).toNatClampNeg p1) (1 : Int32).toNatClampNeg p1) (2 : Int32).toNatClampNeg p1) (3 : Int32).toNatClampNeg p1) (4 : Int32).toNatClampNeg p1) (5 : Int32).toNatClampNeg p1) (6 : Int32).toNatClampNeg p1)))] H := hP
  have hD : va_D A [(h0, .inl (cI, 11, .inl (upd (upd (upd (upd (upd (upd (upd f (0 : Int32).toNatClampNeg p1) (1 : Int32).toNatClampNeg p1) (2 : Int32).toNatClampNeg p1) (3 : Int32).toNatClampNeg p1) (4 : Int32).toNatClampNeg p1) (5 : Int32).toNatClampNeg p1) (6 : Int32).toNatClampNeg p1)))] := hD
  refine lv_iinc (v := 7) (lv' := [(2, .int 7), (3, .int 11), (0, .ref h0), (1, .int p1)]) hx hb dJ7_fill_53178_14 hl (k := 0) rfl (by decide) (by decide) rfl (fun ls hl => ?_)
  refine lv_goto (tgt := 5) hx hb dJ7_fill_53178_17 (by decide) ?_
  refine lv_iload_n hx hb dJ7_fill_53178_5 rfl (lv_at hl 0 rfl) ?_
  refine lv_iload_n hx hb dJ7_fill_53178_6 rfl (lv_at hl 1 rfl) ?_
  refine lv_icmp_ge (tgt := 20) hx hb dJ7_fill_53178_7 (by decide) (fun c7_8 => ?_) (fun c7_8 => ?_)
  · exact absurd c7_8 (by decide)
  refine lv_aload_n hx hb dJ7_fill_53178_10 rfl (lv_at hl 2 rfl) ?_
  refine lv_iload_n hx hb dJ7_fill_53178_11 rfl (lv_at hl 0 rfl) ?_
  refine lv_iload_n hx hb dJ7_fill_53178_12 rfl (lv_at hl 3 rfl) ?_
  refine va_iast hx hb hK hP hD hS 0 0 rfl rfl (show ¬ ((7 : Int32) < 0 ∨ 11 ≤ (7 : Int32).toNatClampNeg) by decide) dJ7_fill_53178_13 (fun H locs hP hD hS => ?_)
  have hP : va_P D vwCl [(h0, .inl (cI, 11, .inl (upd (upd (upd (upd (upd (upd (upd (upd f (0 : Int32).toNatClampNeg p1) (1 : Int32).toNatClampNeg p1) (2 : Int32).toNatClampNeg p1) (3 : Int32).toNatClampNeg p1) (4 : Int32).toNatClampNeg p1) (5 : Int32).toNatClampNeg p1) (6 : Int32).toNatClampNeg p1) (7 : Int32).toNatClampNeg p1)))] H := hP
  have hD : va_D A [(h0, .inl (cI, 11, .inl (upd (upd (upd (upd (upd (upd (upd (upd f (0 : Int32).toNatClampNeg p1) (1 : Int32).toNatClampNeg p1) (2 : Int32).toNatClampNeg p1) (3 : Int32).toNatClampNeg p1) (4 : Int32).toNatClampNeg p1) (5 : Int32).toNatClampNeg p1) (6 : Int32).toNatClampNeg p1) (7 : Int32).toNatClampNeg p1)))] := hD
  refine lv_iinc (v := 8) (lv' := [(2, .int 8), (3, .int 11), (0, .ref h0), (1, .int p1)]) hx hb dJ7_fill_53178_14 hl (k := 0) rfl (by decide) (by decide) rfl (fun ls hl => ?_)
  refine lv_goto (tgt := 5) hx hb dJ7_fill_53178_17 (by decide) ?_
  refine lv_iload_n hx hb dJ7_fill_53178_5 rfl (lv_at hl 0 rfl) ?_
  refine lv_iload_n hx hb dJ7_fill_53178_6 rfl (lv_at hl 1 rfl) ?_
  refine lv_icmp_ge (tgt := 20) hx hb dJ7_fill_53178_7 (by decide) (fun c7_9 => ?_) (fun c7_9 => ?_)
  · exact absurd c7_9 (by decide)
  refine lv_aload_n hx hb dJ7_fill_53178_10 rfl (lv_at hl 2 rfl) ?_
  refine lv_iload_n hx hb dJ7_fill_53178_11 rfl (lv_at hl 0 rfl) ?_
  refine lv_iload_n hx hb dJ7_fill_53178_12 rfl (lv_at hl 3 rfl) ?_
  refine va_iast hx hb hK hP hD hS 0 0 rfl rfl (show ¬ ((8 : Int32) < 0 ∨ 11 ≤ (8 : Int32).toNatClampNeg) by decide) dJ7_fill_53178_13 (fun H locs hP hD hS => ?_)
  have hP : va_P D vwCl [(h0, .inl (cI, 11, .inl (upd (upd (upd (upd (upd (upd (upd (upd (upd f (0 : Int32).toNatClampNeg p1) (1 : Int32).toNatClampNeg p1) (2 : Int32).toNatClampNeg p1) (3 : Int32).toNatClampNeg p1) (4 : Int32).toNatClampNeg p1) (5 : Int32).toNatClampNeg p1) (6 : Int32).toNatClampNeg p1) (7 : Int32).toNatClampNeg p1) (8 : Int32).toNatClampNeg p1)))] H := hP
  have hD : va_D A [(h0, .inl (cI, 11, .inl (upd (upd (upd (upd (upd (upd (upd (upd (upd f (0 : Int32).toNatClampNeg p1) (1 : Int32).toNatClampNeg p1) (2 : Int32).toNatClampNeg p1) (3 : Int32).toNatClampNeg p1) (4 : Int32).toNatClampNeg p1) (5 : Int32).toNatClampNeg p1) (6 : Int32).toNatClampNeg p1) (7 : Int32).toNatClampNeg p1) (8 : Int32).toNatClampNeg p1)))] := hD
  refine lv_iinc (v := 9) (lv' := [(2, .int 9), (3, .int 11), (0, .ref h0), (1, .int p1)]) hx hb dJ7_fill_53178_14 hl (k := 0) rfl (by decide) (by decide) rfl (fun ls hl => ?_)
  refine lv_goto (tgt := 5) hx hb dJ7_fill_53178_17 (by decide) ?_
  refine lv_iload_n hx hb dJ7_fill_53178_5 rfl (lv_at hl 0 rfl) ?_
  refine lv_iload_n hx hb dJ7_fill_53178_6 rfl (lv_at hl 1 rfl) ?_
  refine lv_icmp_ge (tgt := 20) hx hb dJ7_fill_53178_7 (by decide) (fun c7_10 => ?_) (fun c7_10 => ?_)
  · exact absurd c7_10 (by decide)
  refine lv_aload_n hx hb dJ7_fill_53178_10 rfl (lv_at hl 2 rfl) ?_
  refine lv_iload_n hx hb dJ7_fill_53178_11 rfl (lv_at hl 0 rfl) ?_
  refine lv_iload_n hx hb dJ7_fill_53178_12 rfl (lv_at hl 3 rfl) ?_
  refine va_iast hx hb hK hP hD hS 0 0 rfl rfl (show ¬ ((9 : Int32) < 0 ∨ 11 ≤ (9 : Int32).toNatClampNeg) by decide) dJ7_fill_53178_13 (fun H locs hP hD hS => ?_)
  have hP : va_P D vwCl [(h0, .inl (cI, 11, .inl (upd (upd (upd (upd (upd (upd (upd (upd (upd (upd f (0 : Int32).toNatClampNeg p1) (1 : Int32).toNatClampNeg p1) (2 : Int32).toNatClampNeg p1) (3 : Int32).toNatClampNeg p1) (4 : Int32).toNatClampNeg p1) (5 : Int32).toNatClampNeg p1) (6 : Int32).toNatClampNeg p1) (7 : Int32).toNatClampNeg p1) (8 : Int32).toNatClampNeg p1) (9 : Int32).toNatClampNeg p1)))] H := hP
  have hD : va_D A [(h0, .inl (cI, 11, .inl (upd (upd (upd (upd (upd (upd (upd (upd (upd (upd f (0 : Int32).toNatClampNeg p1) (1 : Int32).toNatClampNeg p1) (2 : Int32).toNatClampNeg p1) (3 : Int32).toNatClampNeg p1) (4 : Int32).toNatClampNeg p1) (5 : Int32).toNatClampNeg p1) (6 : Int32).toNatClampNeg p1) (7 : Int32).toNatClampNeg p1) (8 : Int32).toNatClampNeg p1) (9 : Int32).toNatClampNeg p1)))] := hD
  refine lv_iinc (v := 10) (lv' := [(2, .int 10), (3, .int 11), (0, .ref h0), (1, .int p1)]) hx hb dJ7_fill_53178_14 hl (k := 0) rfl (by decide) (by decide) rfl (fun ls hl => ?_)
  refine lv_goto (tgt := 5) hx hb dJ7_fill_53178_17 (by decide) ?_
  refine lv_iload_n hx hb dJ7_fill_53178_5 rfl (lv_at hl 0 rfl) ?_
  refine lv_iload_n hx hb dJ7_fill_53178_6 rfl (lv_at hl 1 rfl) ?_
  refine lv_icmp_ge (tgt := 20) hx hb dJ7_fill_53178_7 (by decide) (fun c7_11 => ?_) (fun c7_11 => ?_)
  · exact absurd c7_11 (by decide)
  refine lv_aload_n hx hb dJ7_fill_53178_10 rfl (lv_at hl 2 rfl) ?_
  refine lv_iload_n hx hb dJ7_fill_53178_11 rfl (lv_at hl 0 rfl) ?_
  refine lv_iload_n hx hb dJ7_fill_53178_12 rfl (lv_at hl 3 rfl) ?_
  refine va_iast hx hb hK hP hD hS 0 0 rfl rfl (show ¬ ((10 : Int32) < 0 ∨ 11 ≤ (10 : Int32).toNatClampNeg) by decide) dJ7_fill_53178_13 (fun H locs hP hD hS => ?_)
  have hP : va_P D vwCl [(h0, .inl (cI, 11, .inl (upd (upd (upd (upd (upd (upd (upd (upd (upd (upd (upd f (0 : Int32).toNatClampNeg p1) (1 : Int32).toNatClampNeg p1) (2 : Int32).toNatClampNeg p1) (3 : Int32).toNatClampNeg p1) (4 : Int32).toNatClampNeg p1) (5 : Int32).toNatClampNeg p1) (6 : Int32).toNatClampNeg p1) (7 : Int32).toNatClampNeg p1) (8 : Int32).toNatClampNeg p1) (9 : Int32).toNatClampNeg p1) (10 : Int32).toNatClampNeg p1)))] H := hP
  have hD : va_D A [(h0, .inl (cI, 11, .inl (upd (upd (upd (upd (upd (upd (upd (upd (upd (upd (upd f (0 : Int32).toNatClampNeg p1) (1 : Int32).toNatClampNeg p1) (2 : Int32).toNatClampNeg p1) (3 : Int32).toNatClampNeg p1) (4 : Int32).toNatClampNeg p1) (5 : Int32).toNatClampNeg p1) (6 : Int32).toNatClampNeg p1) (7 : Int32).toNatClampNeg p1) (8 : Int32).toNatClampNeg p1) (9 : Int32).toNatClampNeg p1) (10 : Int32).toNatClampNeg p1)))] := hD
  refine lv_iinc (v := 11) (lv' := [(2, .int 11), (3, .int 11), (0, .ref h0), (1, .int p1)]) hx hb dJ7_fill_53178_14 hl (k := 0) rfl (by decide) (by decide) rfl (fun ls hl => ?_)
  refine lv_goto (tgt := 5) hx hb dJ7_fill_53178_17 (by decide) ?_
  refine lv_iload_n hx hb dJ7_fill_53178_5 rfl (lv_at hl 0 rfl) ?_
  refine lv_iload_n hx hb dJ7_fill_53178_6 rfl (lv_at hl 1 rfl) ?_
  refine lv_icmp_ge (tgt := 20) hx hb dJ7_fill_53178_7 (by decide) (fun c7_12 => ?_) (fun c7_12 => ?_)
  · skip
    have hP9 := hP.sub (ws' := [(h0, .inl (cI, 11, .inl (upd (upd (upd (upd (upd (upd (upd (upd (upd (upd (upd f (0 : Int32).toNatClampNeg p1) (1 : Int32).toNatClampNeg p1) (2 : Int32).toNatClampNeg p1) (3 : Int32).toNatClampNeg p1) (4 : Int32).toNatClampNeg p1) (5 : Int32).toNatClampNeg p1) (6 : Int32).toNatClampNeg p1) (7 : Int32).toNatClampNeg p1) (8 : Int32).toNatClampNeg p1) (9 : Int32).toNatClampNeg p1) (10 : Int32).toNatClampNeg p1)))]) [0] rfl
    have hD9 := hD.sub (ws' := [(h0, .inl (cI, 11, .inl (upd (upd (upd (upd (upd (upd (upd (upd (upd (upd (upd f (0 : Int32).toNatClampNeg p1) (1 : Int32).toNatClampNeg p1) (2 : Int32).toNatClampNeg p1) (3 : Int32).toNatClampNeg p1) (4 : Int32).toNatClampNeg p1) (5 : Int32).toNatClampNeg p1) (6 : Int32).toNatClampNeg p1) (7 : Int32).toNatClampNeg p1) (8 : Int32).toNatClampNeg p1) (9 : Int32).toNatClampNeg p1) (10 : Int32).toNatClampNeg p1)))]) [0] (by decide) rfl
    exact W.vret hx hb hr (fun t ht hW => ⟨⟨(upd (upd (upd (upd (upd (upd (upd (upd (upd (upd (upd f (0 : Int32).toNatClampNeg p1) (1 : Int32).toNatClampNeg p1) (2 : Int32).toNatClampNeg p1) (3 : Int32).toNatClampNeg p1) (4 : Int32).toNatClampNeg p1) (5 : Int32).toNatClampNeg p1) (6 : Int32).toNatClampNeg p1) (7 : Int32).toNatClampNeg p1) (8 : Int32).toNatClampNeg p1) (9 : Int32).toNatClampNeg p1) (10 : Int32).toNatClampNeg p1), rfl, (fun j hj => by rcases (show j = 0 ∨ j = 1 ∨ j = 2 ∨ j = 3 ∨ j = 4 ∨ j = 5 ∨ j = 6 ∨ j = 7 ∨ j = 8 ∨ j = 9 ∨ j = 10 by omega) with rfl | rfl | rfl | rfl | rfl | rfl | rfl | rfl | rfl | rfl | rfl <;> rfl), by rw [ht]; exact hP9, va_K.moved hW.alike hK, hD9⟩, hS.F ht⟩) hS.2.2 dJ7_fill_53178_20
  · exact absurd c7_12 (by decide)

set_option maxRecDepth 20000 in
theorem in_X0_clear_X0 : ∀ w ∈ wsX00, w ∈ wsX0_clear := by decide +kernel
set_option maxRecDepth 20000 in
theorem wd_X0_clear_0 : Cond.fieldLink RX0 9 "ShoeTable$Cards" "counts" "[I" ∈ wsX0_clear := by decide +kernel
set_option maxRecDepth 20000 in
theorem wd_X0_clear_1 : Cond.fieldLink RX0 15 "ShoeTable$Cards" "total" "I" ∈ wsX0_clear := by decide +kernel
set_option maxHeartbeats 400000 in
set_option maxRecDepth 100000 in
/-- X0_clear -/
theorem c_X0_clear (l : Launch) (D : va_G) (cI cJ cQ : ClassId) (sz : Nat) (h0 : Nat) (h1 : Nat) (tot : Int32) (f : Nat → Int32)  : Met l yX0_clear wsX0_clear ({ frames := 1, cells := 0, slots := 0, locals := 23 }) (va_Pc [.ref h0] (mP D (gTy cI cJ cQ) [(h0, .inr (0, [.ref h1, .int tot])), (h1, .inl (cI, 11, .inl f))] sz)) (va_Qv (fun (u : Int32 × (Nat → Int32)) => match u with | (tot2, f2) => tot2 = 0 ∧ ∀ j, j < 11 → f2 j = 0) (fun (u : Int32 × (Nat → Int32)) t => match u with | (tot2, f2) => mB D (gTy cI cJ cQ) (va_A [(h0, .inr (0, [.ref h1, .int tot])), (h1, .inl (cI, 11, .inl f))] sz) [(h0, .inr (0, [.ref h1, .int tot2])), (h1, .inl (cI, 11, .inl f2))] t) (va_A [(h0, .inr (0, [.ref h1, .int tot])), (h1, .inl (cI, 11, .inl f))] sz)) 0 0 (va_A [(h0, .inr (0, [.ref h1, .int tot])), (h1, .inl (cI, 11, .inl f))] sz) := by
  refine Met.ofW (cc := cX0_clear) (maxL := 1) (ret := none) (by decide) rfl ?_
  intro p e s m args below meth c s₁ B hml hv
  obtain ⟨rfl, hsz, hP, hK, hD0⟩ := hv
  have hx := B.exec
  have hb := B.bytes
  have hr := B.returns
  have hts := atoms_spec (ws := wsX0_clear) B.pre
  have hown : s.vm.findClass RX0 = some m.cls := findClass_of_methodNamed B.named
  have hlocks := B.notSynchronized
  subst hsz
  have hD := hD0.self (sz := s.heap.size)
  generalize hAe : va_A [(h0, .inr (0, [.ref h1, .int tot])), (h1, .inl (cI, 11, .inl f))] s.heap.size = A at hD ⊢
  have hA : ∀ q : Nat, s.heap.size ≤ q → A q := fun q h => by rw [← hAe]; exact Or.inr h
  have hS : va_S A s.heap s.heap [] := va_S.rf
  have hP : va_P D vwCl [(h0, .inr (0, [.ref h1, .int tot])), (h1, .inl (cI, 11, .inl f))] s.heap := hP
  have hl := lv_entry ([.ref h0]) (n := 1) (Nat.le_of_ble_eq_true rfl)
  rw [lg_entry_eq]
  generalize (lg_sl ([.ref h0]) ++ List.replicate (1 - (lg_sl ([.ref h0])).length) Slot.unset).toArray = ls at hl ⊢
  have hl : lv_has ls 1 [(0, .ref h0)] := hl
  refine lv_aload_n hx hb dX0_clear_0 rfl (lv_at hl 0 rfl) ?_
  refine va_get (D := D) (ci := 0) (v := .ref h1) (C := RX0) (T := TX0) (N := 2) hx hb hts in_X0_clear_X0 hown hK hP 0 rfl rfl 0 (by decide) (hts _ wd_X0_clear_0) (fun _ h9 => h9) rfl dX0_clear_1 ?_
  refine lv_iconst (v := 0) hx hb dX0_clear_4 (by decide) ?_
  have hPc := hP.sub (ws' := [(h1, .inl (cI, 11, .inl f))]) [1] rfl
  have hDc := hD.sub (ws' := [(h1, .inl (cI, 11, .inl f))]) [1] (by decide) rfl
  have hFc := va_free (wc := [(h1, .inl (cI, 11, .inl f))]) hD hS hA [1] rfl
  refine va_callv (va_runS (As := [.ref h1, .int 0]) (rest := []) ⟨hx, hb, hml, hown, hts⟩ (c_J7_fill_53178 l D cI cJ cQ _ h1 (f) 0) (va_cwS 2 hts gX0_clear_J7_fill_53178 rfl rfl rfl (by decide +kernel) ⟨Nat.le_of_ble_eq_true rfl, Nat.le_of_ble_eq_true rfl⟩) (mP_preS hPc hK hDc) rfl rfl hl.1 rfl (lv_room (Nat.le_of_ble_eq_true rfl)) dX0_clear_5 ⟨Nat.le_of_ble_eq_true rfl, Nat.le_of_ble_eq_true rfl⟩) hS (fun q _ h => hFc q h) hFc (fun u_r_1 t H1 locs ht hvm hr_1 hB hz1 hk1 hS => ?_)
  obtain ⟨f2_2, rfl⟩ : ∃ z, z = u_r_1 := ⟨_, rfl⟩
  obtain ⟨hP1, hK1, hD1⟩ := hB
  rw [ht] at hP1
  try dsimp only at hr_1
  obtain ⟨hP, hD⟩ := va_join (wr := [(h0, .inr (0, [.ref h1, .int tot]))]) (w1 := [(h1, .inl (cI, 11, .inl f2_2))]) hP hD [1] [0] rfl rfl (by decide) (by decide) hk1 hFc hP1 hD1
  generalize H1 = H at hP hS ⊢
  have hP : va_P D vwCl [(h0, .inr (0, [.ref h1, .int tot])), (h1, .inl (cI, 11, .inl f2_2))] H := hP
  have hD : va_D A [(h0, .inr (0, [.ref h1, .int tot])), (h1, .inl (cI, 11, .inl f2_2))] := hD
  refine lv_aload_n hx hb dX0_clear_8 rfl (lv_at hl 0 rfl) ?_
  refine lv_iconst (v := 0) hx hb dX0_clear_9 (by decide) ?_
  refine va_put (D := D) (ci := 0) (v := .int 0) (ty := .int) (C := RX0) (T := TX0) (N := 2) hx hb hts in_X0_clear_X0 tyX0 tyX0_ok nmX0 hown hK hP hD hS 0 rfl rfl 1 (by decide) (hts _ wd_X0_clear_1) (fun _ h9 => h9) rfl (by decide +kernel) rfl rfl (Nat.le_of_ble_eq_true rfl) dX0_clear_10 (fun H locs hP hD hS => ?_)
  have hP : va_P D vwCl [(h0, .inr (0, [.ref h1, .int 0])), (h1, .inl (cI, 11, .inl f2_2))] H := hP
  have hD : va_D A [(h0, .inr (0, [.ref h1, .int 0])), (h1, .inl (cI, 11, .inl f2_2))] := hD
  have hP9 := hP.sub (ws' := [(h0, .inr (0, [.ref h1, .int 0])), (h1, .inl (cI, 11, .inl f2_2))]) [0, 1] rfl
  have hD9 := hD.sub (ws' := [(h0, .inr (0, [.ref h1, .int 0])), (h1, .inl (cI, 11, .inl f2_2))]) [0, 1] (by decide) rfl
  exact W.vret hx hb hr (fun t ht hW => ⟨⟨(0, (f2_2)), rfl, ⟨rfl, hr_1⟩, by rw [ht]; exact hP9, va_K.moved hW.alike hK, hD9⟩, hS.F ht⟩) hS.2.2 dX0_clear_13

set_option maxRecDepth 20000 in
theorem in_X0_copy_X0 : ∀ w ∈ wsX00, w ∈ wsX0_copy := by decide +kernel
set_option maxRecDepth 20000 in
theorem wd_X0_copy_0 : Cond.fieldLink RX0 9 "ShoeTable$Cards" "counts" "[I" ∈ wsX0_copy := by decide +kernel
set_option maxRecDepth 20000 in
theorem wd_X0_copy_1 : Cond.methodLink RX0 25 arraycopyName ∈ wsX0_copy := by decide +kernel
set_option maxRecDepth 20000 in
theorem wd_X0_copy_2 : Cond.native arraycopyName ∈ wsX0_copy := by decide +kernel
set_option maxRecDepth 20000 in
theorem wd_X0_copy_3 : Cond.static arraycopyName ∈ wsX0_copy := by decide +kernel
set_option maxRecDepth 20000 in
theorem wd_X0_copy_4 : Cond.initialized "java/lang/System" ∈ wsX0_copy := by decide +kernel
set_option maxRecDepth 20000 in
theorem wd_X0_copy_5 : Cond.fieldLink RX0 15 "ShoeTable$Cards" "total" "I" ∈ wsX0_copy := by decide +kernel
set_option maxHeartbeats 400000 in
set_option maxRecDepth 100000 in
/-- X0_copy -/
theorem c_X0_copy (l : Launch) (D : va_G) (cI cJ cQ : ClassId) (sz : Nat) (h0 : Nat) (h1 : Nat) (tot : Int32) (f : Nat → Int32) (k0 : Nat) (k1 : Nat) (tot3 : Int32) (f3 : Nat → Int32)  : Met l yX0_copy wsX0_copy ({ frames := 1, cells := 0, slots := 0, locals := 40 }) (va_Pc [.ref h0, .ref k0] (mP D (gTy cI cJ cQ) [(h0, .inr (0, [.ref h1, .int tot])), (h1, .inl (cI, 11, .inl f)), (k0, .inr (0, [.ref k1, .int tot3])), (k1, .inl (cI, 11, .inl f3))] sz)) (va_Qv (fun (u : Int32 × (Nat → Int32)) => match u with | (tot2, f2) => tot2 = tot3 ∧ ∀ j, j < 11 → f2 j = f3 j) (fun (u : Int32 × (Nat → Int32)) t => match u with | (tot2, f2) => mB D (gTy cI cJ cQ) (va_A [(h0, .inr (0, [.ref h1, .int tot])), (h1, .inl (cI, 11, .inl f)), (k0, .inr (0, [.ref k1, .int tot3])), (k1, .inl (cI, 11, .inl f3))] sz) [(h0, .inr (0, [.ref h1, .int tot2])), (h1, .inl (cI, 11, .inl f2)), (k0, .inr (0, [.ref k1, .int tot3])), (k1, .inl (cI, 11, .inl f3))] t) (va_A [(h0, .inr (0, [.ref h1, .int tot])), (h1, .inl (cI, 11, .inl f)), (k0, .inr (0, [.ref k1, .int tot3])), (k1, .inl (cI, 11, .inl f3))] sz)) 0 0 (va_A [(h0, .inr (0, [.ref h1, .int tot])), (h1, .inl (cI, 11, .inl f)), (k0, .inr (0, [.ref k1, .int tot3])), (k1, .inl (cI, 11, .inl f3))] sz) := by
  refine Met.ofW (cc := cX0_copy) (maxL := 2) (ret := none) (by decide) rfl ?_
  intro p e s m args below meth c s₁ B hml hv
  obtain ⟨rfl, hsz, hP, hK, hD0⟩ := hv
  have hx := B.exec
  have hb := B.bytes
  have hr := B.returns
  have hts := atoms_spec (ws := wsX0_copy) B.pre
  have hown : s.vm.findClass RX0 = some m.cls := findClass_of_methodNamed B.named
  have hlocks := B.notSynchronized
  subst hsz
  have hD := hD0.self (sz := s.heap.size)
  generalize hAe : va_A [(h0, .inr (0, [.ref h1, .int tot])), (h1, .inl (cI, 11, .inl f)), (k0, .inr (0, [.ref k1, .int tot3])), (k1, .inl (cI, 11, .inl f3))] s.heap.size = A at hD ⊢
  have hA : ∀ q : Nat, s.heap.size ≤ q → A q := fun q h => by rw [← hAe]; exact Or.inr h
  have hS : va_S A s.heap s.heap [] := va_S.rf
  have hP : va_P D vwCl [(h0, .inr (0, [.ref h1, .int tot])), (h1, .inl (cI, 11, .inl f)), (k0, .inr (0, [.ref k1, .int tot3])), (k1, .inl (cI, 11, .inl f3))] s.heap := hP
  have hl := lv_entry ([.ref h0, .ref k0]) (n := 2) (Nat.le_of_ble_eq_true rfl)
  rw [lg_entry_eq]
  generalize (lg_sl ([.ref h0, .ref k0]) ++ List.replicate (2 - (lg_sl ([.ref h0, .ref k0])).length) Slot.unset).toArray = ls at hl ⊢
  have hl : lv_has ls 2 [(0, .ref h0), (1, .ref k0)] := hl
  refine lv_aload_n hx hb dX0_copy_0 rfl (lv_at hl 1 rfl) ?_
  refine va_get (D := D) (ci := 0) (v := .ref k1) (C := RX0) (T := TX0) (N := 2) hx hb hts in_X0_copy_X0 hown hK hP 2 rfl rfl 0 (by decide) (hts _ wd_X0_copy_0) (fun _ h9 => h9) rfl dX0_copy_1 ?_
  refine lv_iconst (v := 0) hx hb dX0_copy_4 (by decide) ?_
  refine lv_aload_n hx hb dX0_copy_5 rfl (lv_at hl 0 rfl) ?_
  refine va_get (D := D) (ci := 0) (v := .ref h1) (C := RX0) (T := TX0) (N := 2) hx hb hts in_X0_copy_X0 hown hK hP 0 rfl rfl 0 (by decide) (hts _ wd_X0_copy_0) (fun _ h9 => h9) rfl dX0_copy_6 ?_
  refine lv_iconst (v := 0) hx hb dX0_copy_9 (by decide) ?_
  refine lv_aload_n hx hb dX0_copy_10 rfl (lv_at hl 0 rfl) ?_
  refine va_get (D := D) (ci := 0) (v := .ref h1) (C := RX0) (T := TX0) (N := 2) hx hb hts in_X0_copy_X0 hown hK hP 0 rfl rfl 0 (by decide) (hts _ wd_X0_copy_0) (fun _ h9 => h9) rfl dX0_copy_11 ?_
  refine va_alen hx hb hK hP 1 0 rfl rfl (v := 11) (by rfl) dX0_copy_14 ?_
  refine va_copyi (ty := .int) hx hb (by rw [hml]; exact hl.1.symm) hown (hts _ wd_X0_copy_1) (hts _ wd_X0_copy_2) (hts _ wd_X0_copy_3) (hts _ wd_X0_copy_4) hK hP hD hS 3 1 0 0 rfl rfl rfl rfl rfl (by decide) (by decide) (by decide) (by decide) (by decide) (fun i _ => rfl) (Nat.le_of_ble_eq_true rfl) (Nat.le_of_ble_eq_true rfl) dX0_copy_15 (fun H locs hP hD hS => ?_)
  have hP : va_P D vwCl [(h0, .inr (0, [.ref h1, .int tot])), (h1, .inl (cI, 11, .inl (va_cpy f3 f 0 0 11))), (k0, .inr (0, [.ref k1, .int tot3])), (k1, .inl (cI, 11, .inl f3))] H := hP
  have hD : va_D A [(h0, .inr (0, [.ref h1, .int tot])), (h1, .inl (cI, 11, .inl (va_cpy f3 f 0 0 11))), (k0, .inr (0, [.ref k1, .int tot3])), (k1, .inl (cI, 11, .inl f3))] := hD
  refine lv_aload_n hx hb dX0_copy_18 rfl (lv_at hl 0 rfl) ?_
  refine lv_aload_n hx hb dX0_copy_19 rfl (lv_at hl 1 rfl) ?_
  refine va_get (D := D) (ci := 0) (v := .int tot3) (C := RX0) (T := TX0) (N := 2) hx hb hts in_X0_copy_X0 hown hK hP 2 rfl rfl 1 (by decide) (hts _ wd_X0_copy_5) (fun _ h9 => h9) rfl dX0_copy_20 ?_
  refine va_put (D := D) (ci := 0) (v := .int tot3) (ty := .int) (C := RX0) (T := TX0) (N := 2) hx hb hts in_X0_copy_X0 tyX0 tyX0_ok nmX0 hown hK hP hD hS 0 rfl rfl 1 (by decide) (hts _ wd_X0_copy_5) (fun _ h9 => h9) rfl (by decide +kernel) rfl rfl (Nat.le_of_ble_eq_true rfl) dX0_copy_23 (fun H locs hP hD hS => ?_)
  have hP : va_P D vwCl [(h0, .inr (0, [.ref h1, .int tot3])), (h1, .inl (cI, 11, .inl (va_cpy f3 f 0 0 11))), (k0, .inr (0, [.ref k1, .int tot3])), (k1, .inl (cI, 11, .inl f3))] H := hP
  have hD : va_D A [(h0, .inr (0, [.ref h1, .int tot3])), (h1, .inl (cI, 11, .inl (va_cpy f3 f 0 0 11))), (k0, .inr (0, [.ref k1, .int tot3])), (k1, .inl (cI, 11, .inl f3))] := hD
  have hP9 := hP.sub (ws' := [(h0, .inr (0, [.ref h1, .int tot3])), (h1, .inl (cI, 11, .inl (va_cpy f3 f 0 0 11))), (k0, .inr (0, [.ref k1, .int tot3])), (k1, .inl (cI, 11, .inl f3))]) [0, 1, 2, 3] rfl
  have hD9 := hD.sub (ws' := [(h0, .inr (0, [.ref h1, .int tot3])), (h1, .inl (cI, 11, .inl (va_cpy f3 f 0 0 11))), (k0, .inr (0, [.ref k1, .int tot3])), (k1, .inl (cI, 11, .inl f3))]) [0, 1, 2, 3] (by decide) rfl
  exact W.vret hx hb hr (fun t ht hW => ⟨⟨(tot3, (va_cpy f3 f 0 0 11)), rfl, ⟨rfl, fun j hj => by simp [va_cpy, hj]⟩, by rw [ht]; exact hP9, va_K.moved hW.alike hK, hD9⟩, hS.F ht⟩) hS.2.2 dX0_copy_26

set_option maxRecDepth 20000 in
theorem wd_X1_init_0 : Cond.methodLink RX1 3 objectInit ∈ wsX1_init := by decide +kernel
set_option maxRecDepth 20000 in
theorem wd_X1_init_1 : Cond.instanceMethod objectInit ∈ wsX1_init := by decide +kernel
set_option maxRecDepth 20000 in
theorem wd_X1_init_2 : Cond.code objectInit ⟨#[0xb1]⟩ 1 none ∈ wsX1_init := by decide +kernel
set_option maxRecDepth 20000 in
theorem wd_X1_init_3 : Cond.arrayClass .int ∈ wsX1_init := by decide +kernel
set_option maxRecDepth 20000 in
theorem in_X1_init_X1 : ∀ w ∈ wsX10, w ∈ wsX1_init := by decide +kernel
set_option maxRecDepth 20000 in
theorem wd_X1_init_4 : Cond.fieldLink RX1 9 "ShoeTable$Hand" "row" "[I" ∈ wsX1_init := by decide +kernel
set_option maxRecDepth 20000 in
theorem wd_X1_init_5 : Cond.fieldLink RX1 15 "ShoeTable$Hand" "size" "I" ∈ wsX1_init := by decide +kernel
set_option maxRecDepth 20000 in
theorem wd_X1_init_6 : Cond.fieldLink RX1 19 "ShoeTable$Hand" "sum" "I" ∈ wsX1_init := by decide +kernel
set_option maxRecDepth 20000 in
theorem wd_X1_init_7 : Cond.fieldLink RX1 22 "ShoeTable$Hand" "ace" "Z" ∈ wsX1_init := by decide +kernel
set_option maxHeartbeats 400000 in
set_option maxRecDepth 100000 in
/-- X1_init -/
theorem c_X1_init (l : Launch) (D : va_G) (cI cJ cQ : ClassId) (sz : Nat) (h0 : Nat)  : Met l yX1_init wsX1_init ({ frames := 1, cells := 1, slots := 12, locals := 12 }) (va_Pc [.ref h0] (mP D (gTy cI cJ cQ) [(h0, .inr (1, [.null, .int 0, .int 0, .int 0]))] sz)) (va_Qv (fun (u : Unit) => match u with | _ => True) (fun (u : Unit) t => match u with | _ => ∃ (h1 : Nat), mB D (gTy cI cJ cQ) (va_A [(h0, .inr (1, [.null, .int 0, .int 0, .int 0]))] sz) [(h0, .inr (1, [.ref h1, .int 0, .int 0, .int 0])), (h1, .inl (cI, 12, .inl (fun _ => 0)))] t) (va_A [(h0, .inr (1, [.null, .int 0, .int 0, .int 0]))] sz)) 1 12 (va_A [(h0, .inr (1, [.null, .int 0, .int 0, .int 0]))] sz) := by
  refine Met.ofW (cc := cX1_init) (maxL := 1) (ret := none) (by decide) rfl ?_
  intro p e s m args below meth c s₁ B hml hv
  obtain ⟨rfl, hsz, hP, hK, hD0⟩ := hv
  have hx := B.exec
  have hb := B.bytes
  have hr := B.returns
  have hts := atoms_spec (ws := wsX1_init) B.pre
  have hown : s.vm.findClass RX1 = some m.cls := findClass_of_methodNamed B.named
  have hlocks := B.notSynchronized
  have hin : meth.name = "<init>" := (name_of_methodNamed B.named B.method).1
  subst hsz
  have hD := hD0.self (sz := s.heap.size)
  generalize hAe : va_A [(h0, .inr (1, [.null, .int 0, .int 0, .int 0]))] s.heap.size = A at hD ⊢
  have hA : ∀ q : Nat, s.heap.size ≤ q → A q := fun q h => by rw [← hAe]; exact Or.inr h
  have hS : va_S A s.heap s.heap [] := va_S.rf
  have hP : va_P D vwCl [(h0, .inr (1, [.null, .int 0, .int 0, .int 0]))] s.heap := hP
  have hl := lv_entry ([.ref h0]) (n := 1) (Nat.le_of_ble_eq_true rfl)
  rw [lg_entry_eq]
  generalize (lg_sl ([.ref h0]) ++ List.replicate (1 - (lg_sl ([.ref h0])).length) Slot.unset).toArray = ls at hl ⊢
  have hl : lv_has ls 1 [(0, .ref h0)] := hl
  refine lv_aload_n hx hb dX1_init_0 rfl (lv_at hl 0 rfl) ?_
  refine W.objInit hx hb hown (hts _ wd_X1_init_0) (hts _ wd_X1_init_1) (hts _ wd_X1_init_2) rfl (by rw [hml]; exact hl.1) rfl dX1_init_1 (Nat.le_of_ble_eq_true rfl) (Nat.le_of_ble_eq_true rfl) ?_
  refine W.eq (g2 := F0 m 4 ls []) rfl ?_
  refine lv_aload_n hx hb dX1_init_4 rfl (lv_at hl 0 rfl) ?_
  refine lv_bipush (v := 12) hx hb dX1_init_5 (by decide) ?_
  refine va_newa (atype := .int) (a0 := (12, .inl (fun _ => 0))) (ty := .int) (N' := 12) hx hb (hts _ wd_X1_init_3) rfl hK hP hD hS hA (fun cA => newI cA 12) (by decide) (by decide) (Nat.le_of_ble_eq_true rfl) (Nat.le_of_ble_eq_true rfl) (Nat.le_of_ble_eq_true rfl) dX1_init_7 (fun q_1 cA H hK0 hP hD hS => ?_)
  have ecA := va_Ksame (i := 0) (j := 3) hK0 rfl rfl
  subst ecA
  have hP : va_P D vwCl [(h0, .inr (1, [.null, .int 0, .int 0, .int 0])), (q_1, .inl (cI, 12, .inl (fun _ => 0)))] H := hP
  have hD : va_D A [(h0, .inr (1, [.null, .int 0, .int 0, .int 0])), (q_1, .inl (cI, 12, .inl (fun _ => 0)))] := hD
  refine W.widen (k := 1) (n := 12) (by omega) (by omega) ?_
  refine va_putF (D := D) (ci := 1) (v := .ref q_1) (ty := .array .int) (C := RX1) (T := TX1) (N := 4) hx hb hts in_X1_init_X1 tyX1 tyX1_ok nmX1 hown hK hP hD hS 0 rfl rfl 0 (by decide) (hts _ wd_X1_init_4) (fun _ h9 => h9) rfl hin rfl (by decide +kernel) rfl rfl (Nat.le_of_ble_eq_true rfl) dX1_init_9 (fun H locs hP hD hS => ?_)
  have hP : va_P D vwCl [(h0, .inr (1, [.ref q_1, .int 0, .int 0, .int 0])), (q_1, .inl (cI, 12, .inl (fun _ => 0)))] H := hP
  have hD : va_D A [(h0, .inr (1, [.ref q_1, .int 0, .int 0, .int 0])), (q_1, .inl (cI, 12, .inl (fun _ => 0)))] := hD
  refine lv_aload_n hx hb dX1_init_12 rfl (lv_at hl 0 rfl) ?_
  refine lv_iconst (v := 0) hx hb dX1_init_13 (by decide) ?_
  refine va_put (D := D) (ci := 1) (v := .int 0) (ty := .int) (C := RX1) (T := TX1) (N := 4) hx hb hts in_X1_init_X1 tyX1 tyX1_ok nmX1 hown hK hP hD hS 0 rfl rfl 1 (by decide) (hts _ wd_X1_init_5) (fun _ h9 => h9) rfl (by decide +kernel) rfl rfl (Nat.le_of_ble_eq_true rfl) dX1_init_14 (fun H locs hP hD hS => ?_)
  have hP : va_P D vwCl [(h0, .inr (1, [.ref q_1, .int 0, .int 0, .int 0])), (q_1, .inl (cI, 12, .inl (fun _ => 0)))] H := hP
  have hD : va_D A [(h0, .inr (1, [.ref q_1, .int 0, .int 0, .int 0])), (q_1, .inl (cI, 12, .inl (fun _ => 0)))] := hD
  refine lv_aload_n hx hb dX1_init_17 rfl (lv_at hl 0 rfl) ?_
  refine lv_iconst (v := 0) hx hb dX1_init_18 (by decide) ?_
  refine va_put (D := D) (ci := 1) (v := .int 0) (ty := .int) (C := RX1) (T := TX1) (N := 4) hx hb hts in_X1_init_X1 tyX1 tyX1_ok nmX1 hown hK hP hD hS 0 rfl rfl 2 (by decide) (hts _ wd_X1_init_6) (fun _ h9 => h9) rfl (by decide +kernel) rfl rfl (Nat.le_of_ble_eq_true rfl) dX1_init_19 (fun H locs hP hD hS => ?_)
  have hP : va_P D vwCl [(h0, .inr (1, [.ref q_1, .int 0, .int 0, .int 0])), (q_1, .inl (cI, 12, .inl (fun _ => 0)))] H := hP
  have hD : va_D A [(h0, .inr (1, [.ref q_1, .int 0, .int 0, .int 0])), (q_1, .inl (cI, 12, .inl (fun _ => 0)))] := hD
  refine lv_aload_n hx hb dX1_init_22 rfl (lv_at hl 0 rfl) ?_
  refine lv_iconst (v := 0) hx hb dX1_init_23 (by decide) ?_
  refine va_put (D := D) (ci := 1) (v := .int 0) (ty := .boolean) (C := RX1) (T := TX1) (N := 4) hx hb hts in_X1_init_X1 tyX1 tyX1_ok nmX1 hown hK hP hD hS 0 rfl rfl 3 (by decide) (hts _ wd_X1_init_7) (fun _ h9 => h9) rfl (by decide +kernel) rfl rfl (Nat.le_of_ble_eq_true rfl) dX1_init_24 (fun H locs hP hD hS => ?_)
  have hP : va_P D vwCl [(h0, .inr (1, [.ref q_1, .int 0, .int 0, .int 0])), (q_1, .inl (cI, 12, .inl (fun _ => 0)))] H := hP
  have hD : va_D A [(h0, .inr (1, [.ref q_1, .int 0, .int 0, .int 0])), (q_1, .inl (cI, 12, .inl (fun _ => 0)))] := hD
  have hP9 := hP.sub (ws' := [(h0, .inr (1, [.ref q_1, .int 0, .int 0, .int 0])), (q_1, .inl (cI, 12, .inl (fun _ => 0)))]) [0, 1] rfl
  have hD9 := hD.sub (ws' := [(h0, .inr (1, [.ref q_1, .int 0, .int 0, .int 0])), (q_1, .inl (cI, 12, .inl (fun _ => 0)))]) [0, 1] (by decide) rfl
  refine W.widen (k := 1) (n := 12) (Nat.le_of_ble_eq_true rfl) (Nat.le_of_ble_eq_true rfl) ?_
  exact W.vret hx hb hr (fun t ht hW => ⟨⟨(), rfl, (by first | rfl | trivial | (simp []; done) | rfl | (simp_all; done)), q_1, by rw [ht]; exact hP9, va_K.moved hW.alike hK, hD9⟩, hS.F ht⟩) hS.2.2 dX1_init_27

set_option maxRecDepth 20000 in
theorem in_X1_isFull_X1 : ∀ w ∈ wsX10, w ∈ wsX1_isFull := by decide +kernel
set_option maxRecDepth 20000 in
theorem wd_X1_isFull_0 : Cond.fieldLink RX1 15 "ShoeTable$Hand" "size" "I" ∈ wsX1_isFull := by decide +kernel
set_option maxHeartbeats 400000 in
set_option maxRecDepth 100000 in
/-- X1_isFull -/
theorem c_X1_isFull (l : Launch) (D : va_G) (cI cJ cQ : ClassId) (h0 : Nat) (h1 : Nat) (n0 : Int32) (sm : Int32) (ace : Bool) (g : Nat → Int32)  : Met l yX1_isFull wsX1_isFull ({ frames := 0, cells := 0, slots := 0, locals := 0 }) (va_Pc [.ref h0] (rP D (gTy cI cJ cQ) [(h0, .inr (1, [.ref h1, .int n0, .int sm, .int (bI ace)])), (h1, .inl (cI, 12, .inl g))])) (vp_Si (fun r => r = if n0 < 12 then 0 else 1)) 0 0 (fun _ => False) := by
  refine Met.ofW (cc := cX1_isFull) (maxL := 1) (ret := (some .boolean)) (by decide) rfl ?_
  intro p e s m args below meth c s₁ B hml hv
  obtain ⟨rfl, hP, hK⟩ := hv
  have hx := B.exec
  have hb := B.bytes
  have hr := B.returns
  have hts := atoms_spec (ws := wsX1_isFull) B.pre
  have hown : s.vm.findClass RX1 = some m.cls := findClass_of_methodNamed B.named
  have hlocks := B.notSynchronized
  have hl := lv_entry ([.ref h0]) (n := 1) (Nat.le_of_ble_eq_true rfl)
  rw [lg_entry_eq]
  generalize (lg_sl ([.ref h0]) ++ List.replicate (1 - (lg_sl ([.ref h0])).length) Slot.unset).toArray = ls at hl ⊢
  have hl : lv_has ls 1 [(0, .ref h0)] := hl
  refine lv_aload_n hx hb dX1_isFull_0 rfl (lv_at hl 0 rfl) ?_
  refine va_get (D := D) (ci := 1) (v := .int n0) (C := RX1) (T := TX1) (N := 4) hx hb hts in_X1_isFull_X1 hown hK hP 0 rfl rfl 1 (by decide) (hts _ wd_X1_isFull_0) (fun _ h9 => h9) rfl dX1_isFull_1 ?_
  refine lv_bipush (v := 12) hx hb dX1_isFull_4 (by decide) ?_
  refine lv_icmp_lt (tgt := 13) hx hb dX1_isFull_6 (by decide) (fun c6_1 => ?_) (fun c6_1 => ?_)
  · skip
    refine lv_iconst (v := 0) hx hb dX1_isFull_13 (by decide) ?_
    exact W.zret (v := 0) hx hb hr rfl (fun t ht hW => ⟨_, rfl, (by first | rfl | trivial | (simp [c6_1]; done) | ((try first | rw [if_pos c6_1] | rw [if_neg c6_1]); first | done | rfl | trivial) | (simp_all; done)), ht⟩) (fun q hq => absurd hq List.not_mem_nil) dX1_isFull_14
  · skip
    refine lv_iconst (v := 1) hx hb dX1_isFull_9 (by decide) ?_
    refine lv_goto (tgt := 14) hx hb dX1_isFull_10 (by decide) ?_
    exact W.zret (v := 1) hx hb hr rfl (fun t ht hW => ⟨_, rfl, (by first | rfl | trivial | (simp [c6_1]; done) | ((try first | rw [if_pos c6_1] | rw [if_neg c6_1]); first | done | rfl | trivial) | (simp_all; done)), ht⟩) (fun q hq => absurd hq List.not_mem_nil) dX1_isFull_14

set_option maxRecDepth 20000 in
theorem in_X1_clear_X1 : ∀ w ∈ wsX10, w ∈ wsX1_clear := by decide +kernel
set_option maxRecDepth 20000 in
theorem wd_X1_clear_0 : Cond.fieldLink RX1 15 "ShoeTable$Hand" "size" "I" ∈ wsX1_clear := by decide +kernel
set_option maxRecDepth 20000 in
theorem wd_X1_clear_1 : Cond.fieldLink RX1 19 "ShoeTable$Hand" "sum" "I" ∈ wsX1_clear := by decide +kernel
set_option maxRecDepth 20000 in
theorem wd_X1_clear_2 : Cond.fieldLink RX1 22 "ShoeTable$Hand" "ace" "Z" ∈ wsX1_clear := by decide +kernel
set_option maxHeartbeats 400000 in
set_option maxRecDepth 100000 in
/-- X1_clear -/
theorem c_X1_clear (l : Launch) (D : va_G) (cI cJ cQ : ClassId) (sz : Nat) (h0 : Nat) (h1 : Nat) (n0 : Int32) (sm : Int32) (ace : Bool) (g : Nat → Int32)  : Met l yX1_clear wsX1_clear ({ frames := 0, cells := 0, slots := 0, locals := 0 }) (va_Pc [.ref h0] (mP D (gTy cI cJ cQ) [(h0, .inr (1, [.ref h1, .int n0, .int sm, .int (bI ace)])), (h1, .inl (cI, 12, .inl g))] sz)) (va_Qv (fun (u : Unit) => match u with | _ => True) (fun (u : Unit) t => match u with | _ => mB D (gTy cI cJ cQ) (va_A [(h0, .inr (1, [.ref h1, .int n0, .int sm, .int (bI ace)])), (h1, .inl (cI, 12, .inl g))] sz) [(h0, .inr (1, [.ref h1, .int 0, .int 0, .int 0])), (h1, .inl (cI, 12, .inl g))] t) (va_A [(h0, .inr (1, [.ref h1, .int n0, .int sm, .int (bI ace)])), (h1, .inl (cI, 12, .inl g))] sz)) 0 0 (va_A [(h0, .inr (1, [.ref h1, .int n0, .int sm, .int (bI ace)])), (h1, .inl (cI, 12, .inl g))] sz) := by
  refine Met.ofW (cc := cX1_clear) (maxL := 1) (ret := none) (by decide) rfl ?_
  intro p e s m args below meth c s₁ B hml hv
  obtain ⟨rfl, hsz, hP, hK, hD0⟩ := hv
  have hx := B.exec
  have hb := B.bytes
  have hr := B.returns
  have hts := atoms_spec (ws := wsX1_clear) B.pre
  have hown : s.vm.findClass RX1 = some m.cls := findClass_of_methodNamed B.named
  have hlocks := B.notSynchronized
  subst hsz
  have hD := hD0.self (sz := s.heap.size)
  generalize hAe : va_A [(h0, .inr (1, [.ref h1, .int n0, .int sm, .int (bI ace)])), (h1, .inl (cI, 12, .inl g))] s.heap.size = A at hD ⊢
  have hA : ∀ q : Nat, s.heap.size ≤ q → A q := fun q h => by rw [← hAe]; exact Or.inr h
  have hS : va_S A s.heap s.heap [] := va_S.rf
  have hP : va_P D vwCl [(h0, .inr (1, [.ref h1, .int n0, .int sm, .int (bI ace)])), (h1, .inl (cI, 12, .inl g))] s.heap := hP
  have hl := lv_entry ([.ref h0]) (n := 1) (Nat.le_of_ble_eq_true rfl)
  rw [lg_entry_eq]
  generalize (lg_sl ([.ref h0]) ++ List.replicate (1 - (lg_sl ([.ref h0])).length) Slot.unset).toArray = ls at hl ⊢
  have hl : lv_has ls 1 [(0, .ref h0)] := hl
  refine lv_aload_n hx hb dX1_clear_0 rfl (lv_at hl 0 rfl) ?_
  refine lv_iconst (v := 0) hx hb dX1_clear_1 (by decide) ?_
  refine va_put (D := D) (ci := 1) (v := .int 0) (ty := .int) (C := RX1) (T := TX1) (N := 4) hx hb hts in_X1_clear_X1 tyX1 tyX1_ok nmX1 hown hK hP hD hS 0 rfl rfl 1 (by decide) (hts _ wd_X1_clear_0) (fun _ h9 => h9) rfl (by decide +kernel) rfl rfl (Nat.le_of_ble_eq_true rfl) dX1_clear_2 (fun H locs hP hD hS => ?_)
  have hP : va_P D vwCl [(h0, .inr (1, [.ref h1, .int 0, .int sm, .int (bI ace)])), (h1, .inl (cI, 12, .inl g))] H := hP
  have hD : va_D A [(h0, .inr (1, [.ref h1, .int 0, .int sm, .int (bI ace)])), (h1, .inl (cI, 12, .inl g))] := hD
  refine lv_aload_n hx hb dX1_clear_5 rfl (lv_at hl 0 rfl) ?_
  refine lv_iconst (v := 0) hx hb dX1_clear_6 (by decide) ?_
  refine va_put (D := D) (ci := 1) (v := .int 0) (ty := .int) (C := RX1) (T := TX1) (N := 4) hx hb hts in_X1_clear_X1 tyX1 tyX1_ok nmX1 hown hK hP hD hS 0 rfl rfl 2 (by decide) (hts _ wd_X1_clear_1) (fun _ h9 => h9) rfl (by decide +kernel) rfl rfl (Nat.le_of_ble_eq_true rfl) dX1_clear_7 (fun H locs hP hD hS => ?_)
  have hP : va_P D vwCl [(h0, .inr (1, [.ref h1, .int 0, .int 0, .int (bI ace)])), (h1, .inl (cI, 12, .inl g))] H := hP
  have hD : va_D A [(h0, .inr (1, [.ref h1, .int 0, .int 0, .int (bI ace)])), (h1, .inl (cI, 12, .inl g))] := hD
  refine lv_aload_n hx hb dX1_clear_10 rfl (lv_at hl 0 rfl) ?_
  refine lv_iconst (v := 0) hx hb dX1_clear_11 (by decide) ?_
  refine va_put (D := D) (ci := 1) (v := .int 0) (ty := .boolean) (C := RX1) (T := TX1) (N := 4) hx hb hts in_X1_clear_X1 tyX1 tyX1_ok nmX1 hown hK hP hD hS 0 rfl rfl 3 (by decide) (hts _ wd_X1_clear_2) (fun _ h9 => h9) rfl (by decide +kernel) rfl rfl (Nat.le_of_ble_eq_true rfl) dX1_clear_12 (fun H locs hP hD hS => ?_)
  have hP : va_P D vwCl [(h0, .inr (1, [.ref h1, .int 0, .int 0, .int 0])), (h1, .inl (cI, 12, .inl g))] H := hP
  have hD : va_D A [(h0, .inr (1, [.ref h1, .int 0, .int 0, .int 0])), (h1, .inl (cI, 12, .inl g))] := hD
  have hP9 := hP.sub (ws' := [(h0, .inr (1, [.ref h1, .int 0, .int 0, .int 0])), (h1, .inl (cI, 12, .inl g))]) [0, 1] rfl
  have hD9 := hD.sub (ws' := [(h0, .inr (1, [.ref h1, .int 0, .int 0, .int 0])), (h1, .inl (cI, 12, .inl g))]) [0, 1] (by decide) rfl
  exact W.vret hx hb hr (fun t ht hW => ⟨⟨(), rfl, (by first | rfl | trivial | (simp []; done) | rfl | (simp_all; done)), by rw [ht]; exact hP9, va_K.moved hW.alike hK, hD9⟩, hS.F ht⟩) hS.2.2 dX1_clear_15

set_option maxRecDepth 20000 in
theorem in_X1_card_X1 : ∀ w ∈ wsX10, w ∈ wsX1_card := by decide +kernel
set_option maxRecDepth 20000 in
theorem wd_X1_card_0 : Cond.fieldLink RX1 15 "ShoeTable$Hand" "size" "I" ∈ wsX1_card := by decide +kernel
set_option maxRecDepth 20000 in
theorem wd_X1_card_1 : Cond.fieldLink RX1 9 "ShoeTable$Hand" "row" "[I" ∈ wsX1_card := by decide +kernel
set_option maxHeartbeats 400000 in
set_option maxRecDepth 100000 in
/-- X1_card -/
theorem c_X1_card (l : Launch) (D : va_G) (cI cJ cQ : ClassId) (h0 : Nat) (h1 : Nat) (n0 : Int32) (sm : Int32) (ace : Bool) (g : Nat → Int32) (p0 : Int32) (hn : n0 ≤ 12) : Met l yX1_card wsX1_card ({ frames := 0, cells := 0, slots := 0, locals := 0 }) (va_Pc [.ref h0, .int p0] (rP D (gTy cI cJ cQ) [(h0, .inr (1, [.ref h1, .int n0, .int sm, .int (bI ace)])), (h1, .inl (cI, 12, .inl g))])) (vp_Si (fun r => r = if p0 < 0 then -1 else if n0 ≤ p0 then -1 else g p0.toNatClampNeg)) 0 0 (fun _ => False) := by
  refine Met.ofW (cc := cX1_card) (maxL := 2) (ret := (some .int)) (by decide) rfl ?_
  intro p e s m args below meth c s₁ B hml hv
  obtain ⟨rfl, hP, hK⟩ := hv
  have hx := B.exec
  have hb := B.bytes
  have hr := B.returns
  have hts := atoms_spec (ws := wsX1_card) B.pre
  have hown : s.vm.findClass RX1 = some m.cls := findClass_of_methodNamed B.named
  have hlocks := B.notSynchronized
  have hl := lv_entry ([.ref h0, .int p0]) (n := 2) (Nat.le_of_ble_eq_true rfl)
  rw [lg_entry_eq]
  generalize (lg_sl ([.ref h0, .int p0]) ++ List.replicate (2 - (lg_sl ([.ref h0, .int p0])).length) Slot.unset).toArray = ls at hl ⊢
  have hl : lv_has ls 2 [(0, .ref h0), (1, .int p0)] := hl
  refine lv_iload_n hx hb dX1_card_0 rfl (lv_at hl 1 rfl) ?_
  refine lv_if_lt (tgt := 21) hx hb dX1_card_1 (by decide) (fun c1_1 => ?_) (fun c1_1 => ?_)
  · skip
    refine lv_iconst (v := (-1)) hx hb dX1_card_21 (by decide) ?_
    exact W.iret (v := (-1)) hx hb hr (fun t ht hW => ⟨_, rfl, (by first | rfl | trivial | (simp [c1_1]; done) | ((try first | rw [if_pos c1_1] | rw [if_neg c1_1]); first | done | rfl | trivial) | (simp_all; done)), ht⟩) (fun q hq => absurd hq List.not_mem_nil) dX1_card_22
  · skip
    refine lv_iload_n hx hb dX1_card_4 rfl (lv_at hl 1 rfl) ?_
    refine lv_aload_n hx hb dX1_card_5 rfl (lv_at hl 0 rfl) ?_
    refine va_get (D := D) (ci := 1) (v := .int n0) (C := RX1) (T := TX1) (N := 4) hx hb hts in_X1_card_X1 hown hK hP 0 rfl rfl 1 (by decide) (hts _ wd_X1_card_0) (fun _ h9 => h9) rfl dX1_card_6 ?_
    refine lv_icmp_ge (tgt := 21) hx hb dX1_card_9 (by decide) (fun c9_2 => ?_) (fun c9_2 => ?_)
    · skip
      refine lv_iconst (v := (-1)) hx hb dX1_card_21 (by decide) ?_
      exact W.iret (v := (-1)) hx hb hr (fun t ht hW => ⟨_, rfl, (by first | rfl | trivial | (simp [c1_1, c9_2]; done) | ((try first | rw [if_pos c1_1] | rw [if_neg c1_1]); (try first | rw [if_pos c9_2] | rw [if_neg c9_2]); first | done | rfl | trivial) | (simp_all; done)), ht⟩) (fun q hq => absurd hq List.not_mem_nil) dX1_card_22
    · skip
      refine lv_aload_n hx hb dX1_card_12 rfl (lv_at hl 0 rfl) ?_
      refine va_get (D := D) (ci := 1) (v := .ref h1) (C := RX1) (T := TX1) (N := 4) hx hb hts in_X1_card_X1 hown hK hP 0 rfl rfl 0 (by decide) (hts _ wd_X1_card_1) (fun _ h9 => h9) rfl dX1_card_13 ?_
      refine lv_iload_n hx hb dX1_card_16 rfl (lv_at hl 1 rfl) ?_
      refine va_iald hx hb hK hP 1 0 rfl rfl (c12_in c1_1 c9_2 hn) dX1_card_17 ?_
      refine lv_goto (tgt := 22) hx hb dX1_card_18 (by decide) ?_
      exact W.iret (v := (g p0.toNatClampNeg)) hx hb hr (fun t ht hW => ⟨_, rfl, (by first | rfl | trivial | (simp [c1_1, c9_2]; done) | ((try first | rw [if_pos c1_1] | rw [if_neg c1_1]); (try first | rw [if_pos c9_2] | rw [if_neg c9_2]); first | done | rfl | trivial) | (simp_all; done)), ht⟩) (fun q hq => absurd hq List.not_mem_nil) dX1_card_22

set_option maxRecDepth 20000 in
theorem in_X1_copy_X1 : ∀ w ∈ wsX10, w ∈ wsX1_copy := by decide +kernel
set_option maxRecDepth 20000 in
theorem wd_X1_copy_0 : Cond.fieldLink RX1 9 "ShoeTable$Hand" "row" "[I" ∈ wsX1_copy := by decide +kernel
set_option maxRecDepth 20000 in
theorem wd_X1_copy_1 : Cond.methodLink RX1 26 arraycopyName ∈ wsX1_copy := by decide +kernel
set_option maxRecDepth 20000 in
theorem wd_X1_copy_2 : Cond.native arraycopyName ∈ wsX1_copy := by decide +kernel
set_option maxRecDepth 20000 in
theorem wd_X1_copy_3 : Cond.static arraycopyName ∈ wsX1_copy := by decide +kernel
set_option maxRecDepth 20000 in
theorem wd_X1_copy_4 : Cond.initialized "java/lang/System" ∈ wsX1_copy := by decide +kernel
set_option maxRecDepth 20000 in
theorem wd_X1_copy_5 : Cond.fieldLink RX1 15 "ShoeTable$Hand" "size" "I" ∈ wsX1_copy := by decide +kernel
set_option maxRecDepth 20000 in
theorem wd_X1_copy_6 : Cond.fieldLink RX1 19 "ShoeTable$Hand" "sum" "I" ∈ wsX1_copy := by decide +kernel
set_option maxRecDepth 20000 in
theorem wd_X1_copy_7 : Cond.fieldLink RX1 22 "ShoeTable$Hand" "ace" "Z" ∈ wsX1_copy := by decide +kernel
set_option maxHeartbeats 400000 in
set_option maxRecDepth 100000 in
/-- X1_copy -/
theorem c_X1_copy (l : Launch) (D : va_G) (cI cJ cQ : ClassId) (sz : Nat) (h0 : Nat) (h1 : Nat) (n0 : Int32) (sm : Int32) (ace : Bool) (g : Nat → Int32) (k0 : Nat) (k1 : Nat) (n3 : Int32) (sm3 : Int32) (ace3 : Bool) (g3 : Nat → Int32)  : Met l yX1_copy wsX1_copy ({ frames := 1, cells := 0, slots := 0, locals := 40 }) (va_Pc [.ref h0, .ref k0] (mP D (gTy cI cJ cQ) [(h0, .inr (1, [.ref h1, .int n0, .int sm, .int (bI ace)])), (h1, .inl (cI, 12, .inl g)), (k0, .inr (1, [.ref k1, .int n3, .int sm3, .int (bI ace3)])), (k1, .inl (cI, 12, .inl g3))] sz)) (va_Qv (fun (u : (Nat → Int32)) => match u with | g2 => ∀ j, j < 12 → g2 j = g3 j) (fun (u : (Nat → Int32)) t => match u with | g2 => mB D (gTy cI cJ cQ) (va_A [(h0, .inr (1, [.ref h1, .int n0, .int sm, .int (bI ace)])), (h1, .inl (cI, 12, .inl g)), (k0, .inr (1, [.ref k1, .int n3, .int sm3, .int (bI ace3)])), (k1, .inl (cI, 12, .inl g3))] sz) [(h0, .inr (1, [.ref h1, .int n3, .int sm3, .int (bI ace3)])), (h1, .inl (cI, 12, .inl g2)), (k0, .inr (1, [.ref k1, .int n3, .int sm3, .int (bI ace3)])), (k1, .inl (cI, 12, .inl g3))] t) (va_A [(h0, .inr (1, [.ref h1, .int n0, .int sm, .int (bI ace)])), (h1, .inl (cI, 12, .inl g)), (k0, .inr (1, [.ref k1, .int n3, .int sm3, .int (bI ace3)])), (k1, .inl (cI, 12, .inl g3))] sz)) 0 0 (va_A [(h0, .inr (1, [.ref h1, .int n0, .int sm, .int (bI ace)])), (h1, .inl (cI, 12, .inl g)), (k0, .inr (1, [.ref k1, .int n3, .int sm3, .int (bI ace3)])), (k1, .inl (cI, 12, .inl g3))] sz) := by
  refine Met.ofW (cc := cX1_copy) (maxL := 2) (ret := none) (by decide) rfl ?_
  intro p e s m args below meth c s₁ B hml hv
  obtain ⟨rfl, hsz, hP, hK, hD0⟩ := hv
  have hx := B.exec
  have hb := B.bytes
  have hr := B.returns
  have hts := atoms_spec (ws := wsX1_copy) B.pre
  have hown : s.vm.findClass RX1 = some m.cls := findClass_of_methodNamed B.named
  have hlocks := B.notSynchronized
  subst hsz
  have hD := hD0.self (sz := s.heap.size)
  generalize hAe : va_A [(h0, .inr (1, [.ref h1, .int n0, .int sm, .int (bI ace)])), (h1, .inl (cI, 12, .inl g)), (k0, .inr (1, [.ref k1, .int n3, .int sm3, .int (bI ace3)])), (k1, .inl (cI, 12, .inl g3))] s.heap.size = A at hD ⊢
  have hA : ∀ q : Nat, s.heap.size ≤ q → A q := fun q h => by rw [← hAe]; exact Or.inr h
  have hS : va_S A s.heap s.heap [] := va_S.rf
  have hP : va_P D vwCl [(h0, .inr (1, [.ref h1, .int n0, .int sm, .int (bI ace)])), (h1, .inl (cI, 12, .inl g)), (k0, .inr (1, [.ref k1, .int n3, .int sm3, .int (bI ace3)])), (k1, .inl (cI, 12, .inl g3))] s.heap := hP
  have hl := lv_entry ([.ref h0, .ref k0]) (n := 2) (Nat.le_of_ble_eq_true rfl)
  rw [lg_entry_eq]
  generalize (lg_sl ([.ref h0, .ref k0]) ++ List.replicate (2 - (lg_sl ([.ref h0, .ref k0])).length) Slot.unset).toArray = ls at hl ⊢
  have hl : lv_has ls 2 [(0, .ref h0), (1, .ref k0)] := hl
  refine lv_aload_n hx hb dX1_copy_0 rfl (lv_at hl 1 rfl) ?_
  refine va_get (D := D) (ci := 1) (v := .ref k1) (C := RX1) (T := TX1) (N := 4) hx hb hts in_X1_copy_X1 hown hK hP 2 rfl rfl 0 (by decide) (hts _ wd_X1_copy_0) (fun _ h9 => h9) rfl dX1_copy_1 ?_
  refine lv_iconst (v := 0) hx hb dX1_copy_4 (by decide) ?_
  refine lv_aload_n hx hb dX1_copy_5 rfl (lv_at hl 0 rfl) ?_
  refine va_get (D := D) (ci := 1) (v := .ref h1) (C := RX1) (T := TX1) (N := 4) hx hb hts in_X1_copy_X1 hown hK hP 0 rfl rfl 0 (by decide) (hts _ wd_X1_copy_0) (fun _ h9 => h9) rfl dX1_copy_6 ?_
  refine lv_iconst (v := 0) hx hb dX1_copy_9 (by decide) ?_
  refine lv_aload_n hx hb dX1_copy_10 rfl (lv_at hl 0 rfl) ?_
  refine va_get (D := D) (ci := 1) (v := .ref h1) (C := RX1) (T := TX1) (N := 4) hx hb hts in_X1_copy_X1 hown hK hP 0 rfl rfl 0 (by decide) (hts _ wd_X1_copy_0) (fun _ h9 => h9) rfl dX1_copy_11 ?_
  refine va_alen hx hb hK hP 1 0 rfl rfl (v := 12) (by rfl) dX1_copy_14 ?_
  refine va_copyi (ty := .int) hx hb (by rw [hml]; exact hl.1.symm) hown (hts _ wd_X1_copy_1) (hts _ wd_X1_copy_2) (hts _ wd_X1_copy_3) (hts _ wd_X1_copy_4) hK hP hD hS 3 1 0 0 rfl rfl rfl rfl rfl (by decide) (by decide) (by decide) (by decide) (by decide) (fun i _ => rfl) (Nat.le_of_ble_eq_true rfl) (Nat.le_of_ble_eq_true rfl) dX1_copy_15 (fun H locs hP hD hS => ?_)
  have hP : va_P D vwCl [(h0, .inr (1, [.ref h1, .int n0, .int sm, .int (bI ace)])), (h1, .inl (cI, 12, .inl (va_cpy g3 g 0 0 12))), (k0, .inr (1, [.ref k1, .int n3, .int sm3, .int (bI ace3)])), (k1, .inl (cI, 12, .inl g3))] H := hP
  have hD : va_D A [(h0, .inr (1, [.ref h1, .int n0, .int sm, .int (bI ace)])), (h1, .inl (cI, 12, .inl (va_cpy g3 g 0 0 12))), (k0, .inr (1, [.ref k1, .int n3, .int sm3, .int (bI ace3)])), (k1, .inl (cI, 12, .inl g3))] := hD
  refine lv_aload_n hx hb dX1_copy_18 rfl (lv_at hl 0 rfl) ?_
  refine lv_aload_n hx hb dX1_copy_19 rfl (lv_at hl 1 rfl) ?_
  refine va_get (D := D) (ci := 1) (v := .int n3) (C := RX1) (T := TX1) (N := 4) hx hb hts in_X1_copy_X1 hown hK hP 2 rfl rfl 1 (by decide) (hts _ wd_X1_copy_5) (fun _ h9 => h9) rfl dX1_copy_20 ?_
  refine va_put (D := D) (ci := 1) (v := .int n3) (ty := .int) (C := RX1) (T := TX1) (N := 4) hx hb hts in_X1_copy_X1 tyX1 tyX1_ok nmX1 hown hK hP hD hS 0 rfl rfl 1 (by decide) (hts _ wd_X1_copy_5) (fun _ h9 => h9) rfl (by decide +kernel) rfl rfl (Nat.le_of_ble_eq_true rfl) dX1_copy_23 (fun H locs hP hD hS => ?_)
  have hP : va_P D vwCl [(h0, .inr (1, [.ref h1, .int n3, .int sm, .int (bI ace)])), (h1, .inl (cI, 12, .inl (va_cpy g3 g 0 0 12))), (k0, .inr (1, [.ref k1, .int n3, .int sm3, .int (bI ace3)])), (k1, .inl (cI, 12, .inl g3))] H := hP
  have hD : va_D A [(h0, .inr (1, [.ref h1, .int n3, .int sm, .int (bI ace)])), (h1, .inl (cI, 12, .inl (va_cpy g3 g 0 0 12))), (k0, .inr (1, [.ref k1, .int n3, .int sm3, .int (bI ace3)])), (k1, .inl (cI, 12, .inl g3))] := hD
  refine lv_aload_n hx hb dX1_copy_26 rfl (lv_at hl 0 rfl) ?_
  refine lv_aload_n hx hb dX1_copy_27 rfl (lv_at hl 1 rfl) ?_
  refine va_get (D := D) (ci := 1) (v := .int sm3) (C := RX1) (T := TX1) (N := 4) hx hb hts in_X1_copy_X1 hown hK hP 2 rfl rfl 2 (by decide) (hts _ wd_X1_copy_6) (fun _ h9 => h9) rfl dX1_copy_28 ?_
  refine va_put (D := D) (ci := 1) (v := .int sm3) (ty := .int) (C := RX1) (T := TX1) (N := 4) hx hb hts in_X1_copy_X1 tyX1 tyX1_ok nmX1 hown hK hP hD hS 0 rfl rfl 2 (by decide) (hts _ wd_X1_copy_6) (fun _ h9 => h9) rfl (by decide +kernel) rfl rfl (Nat.le_of_ble_eq_true rfl) dX1_copy_31 (fun H locs hP hD hS => ?_)
  have hP : va_P D vwCl [(h0, .inr (1, [.ref h1, .int n3, .int sm3, .int (bI ace)])), (h1, .inl (cI, 12, .inl (va_cpy g3 g 0 0 12))), (k0, .inr (1, [.ref k1, .int n3, .int sm3, .int (bI ace3)])), (k1, .inl (cI, 12, .inl g3))] H := hP
  have hD : va_D A [(h0, .inr (1, [.ref h1, .int n3, .int sm3, .int (bI ace)])), (h1, .inl (cI, 12, .inl (va_cpy g3 g 0 0 12))), (k0, .inr (1, [.ref k1, .int n3, .int sm3, .int (bI ace3)])), (k1, .inl (cI, 12, .inl g3))] := hD
  refine lv_aload_n hx hb dX1_copy_34 rfl (lv_at hl 0 rfl) ?_
  refine lv_aload_n hx hb dX1_copy_35 rfl (lv_at hl 1 rfl) ?_
  refine va_get (D := D) (ci := 1) (v := .int (bI ace3)) (C := RX1) (T := TX1) (N := 4) hx hb hts in_X1_copy_X1 hown hK hP 2 rfl rfl 3 (by decide) (hts _ wd_X1_copy_7) (fun _ h9 => h9) rfl dX1_copy_36 ?_
  refine va_put (D := D) (ci := 1) (v := .int (bI ace3)) (ty := .boolean) (C := RX1) (T := TX1) (N := 4) hx hb hts in_X1_copy_X1 tyX1 tyX1_ok nmX1 hown hK hP hD hS 0 rfl rfl 3 (by decide) (hts _ wd_X1_copy_7) (fun _ h9 => h9) rfl (by decide +kernel) (bI_nar _) (bI_fit _) (Nat.le_of_ble_eq_true rfl) dX1_copy_39 (fun H locs hP hD hS => ?_)
  have hP : va_P D vwCl [(h0, .inr (1, [.ref h1, .int n3, .int sm3, .int (bI ace3)])), (h1, .inl (cI, 12, .inl (va_cpy g3 g 0 0 12))), (k0, .inr (1, [.ref k1, .int n3, .int sm3, .int (bI ace3)])), (k1, .inl (cI, 12, .inl g3))] H := hP
  have hD : va_D A [(h0, .inr (1, [.ref h1, .int n3, .int sm3, .int (bI ace3)])), (h1, .inl (cI, 12, .inl (va_cpy g3 g 0 0 12))), (k0, .inr (1, [.ref k1, .int n3, .int sm3, .int (bI ace3)])), (k1, .inl (cI, 12, .inl g3))] := hD
  have hP9 := hP.sub (ws' := [(h0, .inr (1, [.ref h1, .int n3, .int sm3, .int (bI ace3)])), (h1, .inl (cI, 12, .inl (va_cpy g3 g 0 0 12))), (k0, .inr (1, [.ref k1, .int n3, .int sm3, .int (bI ace3)])), (k1, .inl (cI, 12, .inl g3))]) [0, 1, 2, 3] rfl
  have hD9 := hD.sub (ws' := [(h0, .inr (1, [.ref h1, .int n3, .int sm3, .int (bI ace3)])), (h1, .inl (cI, 12, .inl (va_cpy g3 g 0 0 12))), (k0, .inr (1, [.ref k1, .int n3, .int sm3, .int (bI ace3)])), (k1, .inl (cI, 12, .inl g3))]) [0, 1, 2, 3] (by decide) rfl
  exact W.vret hx hb hr (fun t ht hW => ⟨⟨(va_cpy g3 g 0 0 12), rfl, (fun j hj => by simp [va_cpy, hj]), by rw [ht]; exact hP9, va_K.moved hW.alike hK, hD9⟩, hS.F ht⟩) hS.2.2 dX1_copy_42

set_option maxRecDepth 20000 in
theorem wd_X4_init_0 : Cond.methodLink RX4 3 objectInit ∈ wsX4_init := by decide +kernel
set_option maxRecDepth 20000 in
theorem wd_X4_init_1 : Cond.instanceMethod objectInit ∈ wsX4_init := by decide +kernel
set_option maxRecDepth 20000 in
theorem wd_X4_init_2 : Cond.code objectInit ⟨#[0xb1]⟩ 1 none ∈ wsX4_init := by decide +kernel
set_option maxRecDepth 20000 in
theorem wd_X4_init_3 : Cond.arrayClass .int ∈ wsX4_init := by decide +kernel
set_option maxRecDepth 20000 in
theorem in_X4_init_X4 : ∀ w ∈ wsX40, w ∈ wsX4_init := by decide +kernel
set_option maxRecDepth 20000 in
theorem wd_X4_init_4 : Cond.fieldLink RX4 9 "ShoeTable$Rules" "now" "[I" ∈ wsX4_init := by decide +kernel
set_option maxHeartbeats 400000 in
set_option maxRecDepth 100000 in
/-- X4_init -/
theorem c_X4_init (l : Launch) (D : va_G) (cI cJ cQ : ClassId) (sz : Nat) (h0 : Nat)  : Met l yX4_init wsX4_init ({ frames := 1, cells := 1, slots := 7, locals := 12 }) (va_Pc [.ref h0] (mP D (gTy cI cJ cQ) [(h0, .inr (4, [.null]))] sz)) (va_Qv (fun (u : (Nat → Int32)) => match u with | w2 => ∀ j, j < 7 → w2 j = rules0 j) (fun (u : (Nat → Int32)) t => match u with | w2 => ∃ (h1 : Nat), mB D (gTy cI cJ cQ) (va_A [(h0, .inr (4, [.null]))] sz) [(h0, .inr (4, [.ref h1])), (h1, .inl (cI, 7, .inl w2))] t) (va_A [(h0, .inr (4, [.null]))] sz)) 1 7 (va_A [(h0, .inr (4, [.null]))] sz) := by
  refine Met.ofW (cc := cX4_init) (maxL := 1) (ret := none) (by decide) rfl ?_
  intro p e s m args below meth c s₁ B hml hv
  obtain ⟨rfl, hsz, hP, hK, hD0⟩ := hv
  have hx := B.exec
  have hb := B.bytes
  have hr := B.returns
  have hts := atoms_spec (ws := wsX4_init) B.pre
  have hown : s.vm.findClass RX4 = some m.cls := findClass_of_methodNamed B.named
  have hlocks := B.notSynchronized
  have hin : meth.name = "<init>" := (name_of_methodNamed B.named B.method).1
  subst hsz
  have hD := hD0.self (sz := s.heap.size)
  generalize hAe : va_A [(h0, .inr (4, [.null]))] s.heap.size = A at hD ⊢
  have hA : ∀ q : Nat, s.heap.size ≤ q → A q := fun q h => by rw [← hAe]; exact Or.inr h
  have hS : va_S A s.heap s.heap [] := va_S.rf
  have hP : va_P D vwCl [(h0, .inr (4, [.null]))] s.heap := hP
  have hl := lv_entry ([.ref h0]) (n := 1) (Nat.le_of_ble_eq_true rfl)
  rw [lg_entry_eq]
  generalize (lg_sl ([.ref h0]) ++ List.replicate (1 - (lg_sl ([.ref h0])).length) Slot.unset).toArray = ls at hl ⊢
  have hl : lv_has ls 1 [(0, .ref h0)] := hl
  refine lv_aload_n hx hb dX4_init_0 rfl (lv_at hl 0 rfl) ?_
  refine W.objInit hx hb hown (hts _ wd_X4_init_0) (hts _ wd_X4_init_1) (hts _ wd_X4_init_2) rfl (by rw [hml]; exact hl.1) rfl dX4_init_1 (Nat.le_of_ble_eq_true rfl) (Nat.le_of_ble_eq_true rfl) ?_
  refine W.eq (g2 := F0 m 4 ls []) rfl ?_
  refine lv_aload_n hx hb dX4_init_4 rfl (lv_at hl 0 rfl) ?_
  refine lv_bipush (v := 7) hx hb dX4_init_5 (by decide) ?_
  refine va_newa (atype := .int) (a0 := (7, .inl (fun _ => 0))) (ty := .int) (N' := 7) hx hb (hts _ wd_X4_init_3) rfl hK hP hD hS hA (fun cA => newI cA 7) (by decide) (by decide) (Nat.le_of_ble_eq_true rfl) (Nat.le_of_ble_eq_true rfl) (Nat.le_of_ble_eq_true rfl) dX4_init_7 (fun q_1 cA H hK0 hP hD hS => ?_)
  have ecA := va_Ksame (i := 0) (j := 3) hK0 rfl rfl
  subst ecA
  have hP : va_P D vwCl [(h0, .inr (4, [.null])), (q_1, .inl (cI, 7, .inl (fun _ => 0)))] H := hP
  have hD : va_D A [(h0, .inr (4, [.null])), (q_1, .inl (cI, 7, .inl (fun _ => 0)))] := hD
  refine W.widen (k := 1) (n := 7) (by omega) (by omega) ?_
  refine lv_dup hx hb dX4_init_9 rfl ?_
  refine lv_iconst (v := 0) hx hb dX4_init_10 (by decide) ?_
  refine lv_bipush (v := 21) hx hb dX4_init_11 (by decide) ?_
  refine va_iast hx hb hK hP hD hS 1 0 rfl rfl (show ¬ ((0 : Int32) < 0 ∨ 7 ≤ (0 : Int32).toNatClampNeg) by decide) dX4_init_13 (fun H locs hP hD hS => ?_)
  have hP : va_P D vwCl [(h0, .inr (4, [.null])), (q_1, .inl (cI, 7, .inl (upd (fun _ => 0) (0 : Int32).toNatClampNeg 21)))] H := hP
  have hD : va_D A [(h0, .inr (4, [.null])), (q_1, .inl (cI, 7, .inl (upd (fun _ => 0) (0 : Int32).toNatClampNeg 21)))] := hD
  refine lv_dup hx hb dX4_init_14 rfl ?_
  refine lv_iconst (v := 1) hx hb dX4_init_15 (by decide) ?_
  refine lv_bipush (v := 17) hx hb dX4_init_16 (by decide) ?_
  refine va_iast hx hb hK hP hD hS 1 0 rfl rfl (show ¬ ((1 : Int32) < 0 ∨ 7 ≤ (1 : Int32).toNatClampNeg) by decide) dX4_init_18 (fun H locs hP hD hS => ?_)
  have hP : va_P D vwCl [(h0, .inr (4, [.null])), (q_1, .inl (cI, 7, .inl (upd (upd (fun _ => 0) (0 : Int32).toNatClampNeg 21) (1 : Int32).toNatClampNeg 17)))] H := hP
  have hD : va_D A [(h0, .inr (4, [.null])), (q_1, .inl (cI, 7, .inl (upd (upd (fun _ => 0) (0 : Int32).toNatClampNeg 21) (1 : Int32).toNatClampNeg 17)))] := hD
  refine lv_dup hx hb dX4_init_19 rfl ?_
  refine lv_iconst (v := 2) hx hb dX4_init_20 (by decide) ?_
  refine lv_iconst (v := 0) hx hb dX4_init_21 (by decide) ?_
  refine va_iast hx hb hK hP hD hS 1 0 rfl rfl (show ¬ ((2 : Int32) < 0 ∨ 7 ≤ (2 : Int32).toNatClampNeg) by decide) dX4_init_22 (fun H locs hP hD hS => ?_)
  have hP : va_P D vwCl [(h0, .inr (4, [.null])), (q_1, .inl (cI, 7, .inl (upd (upd (upd (fun _ => 0) (0 : Int32).toNatClampNeg 21) (1 : Int32).toNatClampNeg 17) (2 : Int32).toNatClampNeg 0)))] H := hP
  have hD : va_D A [(h0, .inr (4, [.null])), (q_1, .inl (cI, 7, .inl (upd (upd (upd (fun _ => 0) (0 : Int32).toNatClampNeg 21) (1 : Int32).toNatClampNeg 17) (2 : Int32).toNatClampNeg 0)))] := hD
  refine lv_dup hx hb dX4_init_23 rfl ?_
  refine lv_iconst (v := 3) hx hb dX4_init_24 (by decide) ?_
  refine lv_iconst (v := 1) hx hb dX4_init_25 (by decide) ?_
  refine va_iast hx hb hK hP hD hS 1 0 rfl rfl (show ¬ ((3 : Int32) < 0 ∨ 7 ≤ (3 : Int32).toNatClampNeg) by decide) dX4_init_26 (fun H locs hP hD hS => ?_)
  have hP : va_P D vwCl [(h0, .inr (4, [.null])), (q_1, .inl (cI, 7, .inl (upd (upd (upd (upd (fun _ => 0) (0 : Int32).toNatClampNeg 21) (1 : Int32).toNatClampNeg 17) (2 : Int32).toNatClampNeg 0) (3 : Int32).toNatClampNeg 1)))] H := hP
  have hD : va_D A [(h0, .inr (4, [.null])), (q_1, .inl (cI, 7, .inl (upd (upd (upd (upd (fun _ => 0) (0 : Int32).toNatClampNeg 21) (1 : Int32).toNatClampNeg 17) (2 : Int32).toNatClampNeg 0) (3 : Int32).toNatClampNeg 1)))] := hD
  refine lv_dup hx hb dX4_init_27 rfl ?_
  refine lv_iconst (v := 4) hx hb dX4_init_28 (by decide) ?_
  refine lv_iconst (v := 1) hx hb dX4_init_29 (by decide) ?_
  refine va_iast hx hb hK hP hD hS 1 0 rfl rfl (show ¬ ((4 : Int32) < 0 ∨ 7 ≤ (4 : Int32).toNatClampNeg) by decide) dX4_init_30 (fun H locs hP hD hS => ?_)
  have hP : va_P D vwCl [(h0, .inr (4, [.null])), (q_1, .inl (cI, 7, .inl (upd (upd (upd (upd (upd (fun _ => 0) (0 : Int32).toNatClampNeg 21) (1 : Int32).toNatClampNeg 17) (2 : Int32).toNatClampNeg 0) (3 : Int32).toNatClampNeg 1) (4 : Int32).toNatClampNeg 1)))] H := hP
  have hD : va_D A [(h0, .inr (4, [.null])), (q_1, .inl (cI, 7, .inl (upd (upd (upd (upd (upd (fun _ => 0) (0 : Int32).toNatClampNeg 21) (1 : Int32).toNatClampNeg 17) (2 : Int32).toNatClampNeg 0) (3 : Int32).toNatClampNeg 1) (4 : Int32).toNatClampNeg 1)))] := hD
  refine lv_dup hx hb dX4_init_31 rfl ?_
  refine lv_iconst (v := 5) hx hb dX4_init_32 (by decide) ?_
  refine lv_iconst (v := 1) hx hb dX4_init_33 (by decide) ?_
  refine va_iast hx hb hK hP hD hS 1 0 rfl rfl (show ¬ ((5 : Int32) < 0 ∨ 7 ≤ (5 : Int32).toNatClampNeg) by decide) dX4_init_34 (fun H locs hP hD hS => ?_)
  have hP : va_P D vwCl [(h0, .inr (4, [.null])), (q_1, .inl (cI, 7, .inl (upd (upd (upd (upd (upd (upd (fun _ => 0) (0 : Int32).toNatClampNeg 21) (1 : Int32).toNatClampNeg 17) (2 : Int32).toNatClampNeg 0) (3 : Int32).toNatClampNeg 1) (4 : Int32).toNatClampNeg 1) (5 : Int32).toNatClampNeg 1)))] H := hP
  have hD : va_D A [(h0, .inr (4, [.null])), (q_1, .inl (cI, 7, .inl (upd (upd (upd (upd (upd (upd (fun _ => 0) (0 : Int32).toNatClampNeg 21) (1 : Int32).toNatClampNeg 17) (2 : Int32).toNatClampNeg 0) (3 : Int32).toNatClampNeg 1) (4 : Int32).toNatClampNeg 1) (5 : Int32).toNatClampNeg 1)))] := hD
  refine lv_dup hx hb dX4_init_35 rfl ?_
  refine lv_bipush (v := 6) hx hb dX4_init_36 (by decide) ?_
  refine lv_iconst (v := 3) hx hb dX4_init_38 (by decide) ?_
  refine va_iast hx hb hK hP hD hS 1 0 rfl rfl (show ¬ ((6 : Int32) < 0 ∨ 7 ≤ (6 : Int32).toNatClampNeg) by decide) dX4_init_39 (fun H locs hP hD hS => ?_)
  have hP : va_P D vwCl [(h0, .inr (4, [.null])), (q_1, .inl (cI, 7, .inl (upd (upd (upd (upd (upd (upd (upd (fun _ => 0) (0 : Int32).toNatClampNeg 21) (1 : Int32).toNatClampNeg 17) (2 : Int32).toNatClampNeg 0) (3 : Int32).toNatClampNeg 1) (4 : Int32).toNatClampNeg 1) (5 : Int32).toNatClampNeg 1) (6 : Int32).toNatClampNeg 3)))] H := hP
  have hD : va_D A [(h0, .inr (4, [.null])), (q_1, .inl (cI, 7, .inl (upd (upd (upd (upd (upd (upd (upd (fun _ => 0) (0 : Int32).toNatClampNeg 21) (1 : Int32).toNatClampNeg 17) (2 : Int32).toNatClampNeg 0) (3 : Int32).toNatClampNeg 1) (4 : Int32).toNatClampNeg 1) (5 : Int32).toNatClampNeg 1) (6 : Int32).toNatClampNeg 3)))] := hD
  refine va_putF (D := D) (ci := 4) (v := .ref q_1) (ty := .array .int) (C := RX4) (T := TX4) (N := 1) hx hb hts in_X4_init_X4 tyX4 tyX4_ok nmX4 hown hK hP hD hS 0 rfl rfl 0 (by decide) (hts _ wd_X4_init_4) (fun _ h9 => h9) rfl hin rfl (by decide +kernel) rfl rfl (Nat.le_of_ble_eq_true rfl) dX4_init_40 (fun H locs hP hD hS => ?_)
  have hP : va_P D vwCl [(h0, .inr (4, [.ref q_1])), (q_1, .inl (cI, 7, .inl (upd (upd (upd (upd (upd (upd (upd (fun _ => 0) (0 : Int32).toNatClampNeg 21) (1 : Int32).toNatClampNeg 17) (2 : Int32).toNatClampNeg 0) (3 : Int32).toNatClampNeg 1) (4 : Int32).toNatClampNeg 1) (5 : Int32).toNatClampNeg 1) (6 : Int32).toNatClampNeg 3)))] H := hP
  have hD : va_D A [(h0, .inr (4, [.ref q_1])), (q_1, .inl (cI, 7, .inl (upd (upd (upd (upd (upd (upd (upd (fun _ => 0) (0 : Int32).toNatClampNeg 21) (1 : Int32).toNatClampNeg 17) (2 : Int32).toNatClampNeg 0) (3 : Int32).toNatClampNeg 1) (4 : Int32).toNatClampNeg 1) (5 : Int32).toNatClampNeg 1) (6 : Int32).toNatClampNeg 3)))] := hD
  have hP9 := hP.sub (ws' := [(h0, .inr (4, [.ref q_1])), (q_1, .inl (cI, 7, .inl (upd (upd (upd (upd (upd (upd (upd (fun _ => 0) (0 : Int32).toNatClampNeg 21) (1 : Int32).toNatClampNeg 17) (2 : Int32).toNatClampNeg 0) (3 : Int32).toNatClampNeg 1) (4 : Int32).toNatClampNeg 1) (5 : Int32).toNatClampNeg 1) (6 : Int32).toNatClampNeg 3)))]) [0, 1] rfl
  have hD9 := hD.sub (ws' := [(h0, .inr (4, [.ref q_1])), (q_1, .inl (cI, 7, .inl (upd (upd (upd (upd (upd (upd (upd (fun _ => 0) (0 : Int32).toNatClampNeg 21) (1 : Int32).toNatClampNeg 17) (2 : Int32).toNatClampNeg 0) (3 : Int32).toNatClampNeg 1) (4 : Int32).toNatClampNeg 1) (5 : Int32).toNatClampNeg 1) (6 : Int32).toNatClampNeg 3)))]) [0, 1] (by decide) rfl
  refine W.widen (k := 1) (n := 7) (Nat.le_of_ble_eq_true rfl) (Nat.le_of_ble_eq_true rfl) ?_
  exact W.vret hx hb hr (fun t ht hW => ⟨⟨(upd (upd (upd (upd (upd (upd (upd (fun _ => 0) (0 : Int32).toNatClampNeg 21) (1 : Int32).toNatClampNeg 17) (2 : Int32).toNatClampNeg 0) (3 : Int32).toNatClampNeg 1) (4 : Int32).toNatClampNeg 1) (5 : Int32).toNatClampNeg 1) (6 : Int32).toNatClampNeg 3), rfl, (fun j hj => by rcases (show j = 0 ∨ j = 1 ∨ j = 2 ∨ j = 3 ∨ j = 4 ∨ j = 5 ∨ j = 6 by omega) with rfl | rfl | rfl | rfl | rfl | rfl | rfl <;> rfl), q_1, by rw [ht]; exact hP9, va_K.moved hW.alike hK, hD9⟩, hS.F ht⟩) hS.2.2 dX4_init_43

set_option maxRecDepth 20000 in
theorem in_X4_isSoft_X4 : ∀ w ∈ wsX40, w ∈ wsX4_isSoft := by decide +kernel
set_option maxRecDepth 20000 in
theorem wd_X4_isSoft_0 : Cond.fieldLink RX4 9 "ShoeTable$Rules" "now" "[I" ∈ wsX4_isSoft := by decide +kernel
set_option maxHeartbeats 400000 in
set_option maxRecDepth 100000 in
/-- X4_isSoft -/
theorem c_X4_isSoft (l : Launch) (D : va_G) (cI cJ cQ : ClassId) (h0 : Nat) (h1 : Nat) (w : Nat → Int32) (p0 : Int32) (p1 : Bool)  : Met l yX4_isSoft wsX4_isSoft ({ frames := 0, cells := 0, slots := 0, locals := 0 }) (va_Pc [.ref h0, .int p0, .int (bI p1)] (rP D (gTy cI cJ cQ) [(h0, .inr (4, [.ref h1])), (h1, .inl (cI, 7, .inl w))])) (vp_Si (fun r => r = if bI p1 = 0 then 0 else if w 0 < p0 + 10 then 0 else 1)) 0 0 (fun _ => False) := by
  refine Met.ofW (cc := cX4_isSoft) (maxL := 3) (ret := (some .boolean)) (by decide) rfl ?_
  intro p e s m args below meth c s₁ B hml hv
  obtain ⟨rfl, hP, hK⟩ := hv
  have hx := B.exec
  have hb := B.bytes
  have hr := B.returns
  have hts := atoms_spec (ws := wsX4_isSoft) B.pre
  have hown : s.vm.findClass RX4 = some m.cls := findClass_of_methodNamed B.named
  have hlocks := B.notSynchronized
  have hl := lv_entry ([.ref h0, .int p0, .int (bI p1)]) (n := 3) (Nat.le_of_ble_eq_true rfl)
  rw [lg_entry_eq]
  generalize (lg_sl ([.ref h0, .int p0, .int (bI p1)]) ++ List.replicate (3 - (lg_sl ([.ref h0, .int p0, .int (bI p1)])).length) Slot.unset).toArray = ls at hl ⊢
  have hl : lv_has ls 3 [(0, .ref h0), (1, .int p0), (2, .int (bI p1))] := hl
  refine lv_iload_n hx hb dX4_isSoft_0 rfl (lv_at hl 2 rfl) ?_
  refine lv_if_eq (tgt := 21) hx hb dX4_isSoft_1 (by decide) (fun c1_1 => ?_) (fun c1_1 => ?_)
  · skip
    refine lv_iconst (v := 0) hx hb dX4_isSoft_21 (by decide) ?_
    exact W.zret (v := 0) hx hb hr rfl (fun t ht hW => ⟨_, rfl, (by first | rfl | trivial | (simp [c1_1]; done) | ((try first | rw [if_pos c1_1] | rw [if_neg c1_1]); first | done | rfl | trivial) | (simp_all; done)), ht⟩) (fun q hq => absurd hq List.not_mem_nil) dX4_isSoft_22
  · skip
    refine lv_iload_n hx hb dX4_isSoft_4 rfl (lv_at hl 1 rfl) ?_
    refine lv_bipush (v := 10) hx hb dX4_isSoft_5 (by decide) ?_
    refine lv_iadd hx hb dX4_isSoft_7 ?_
    refine lv_aload_n hx hb dX4_isSoft_8 rfl (lv_at hl 0 rfl) ?_
    refine va_get (D := D) (ci := 4) (v := .ref h1) (C := RX4) (T := TX4) (N := 1) hx hb hts in_X4_isSoft_X4 hown hK hP 0 rfl rfl 0 (by decide) (hts _ wd_X4_isSoft_0) (fun _ h9 => h9) rfl dX4_isSoft_9 ?_
    refine lv_iconst (v := 0) hx hb dX4_isSoft_12 (by decide) ?_
    refine va_iald hx hb hK hP 1 0 rfl rfl (show ¬ ((0 : Int32) < 0 ∨ 7 ≤ (0 : Int32).toNatClampNeg) by decide) dX4_isSoft_13 ?_
    refine lv_topi (fun z_2 ez_2 => ?_)
    obtain rfl : z_2 = (w 0) := ez_2
    refine lv_icmp_gt (tgt := 21) hx hb dX4_isSoft_14 (by decide) (fun c14_3 => ?_) (fun c14_3 => ?_)
    · skip
      refine lv_iconst (v := 0) hx hb dX4_isSoft_21 (by decide) ?_
      exact W.zret (v := 0) hx hb hr rfl (fun t ht hW => ⟨_, rfl, (by first | rfl | trivial | (simp [c1_1, c14_3]; done) | ((try first | rw [if_pos c1_1] | rw [if_neg c1_1]); (try first | rw [if_pos c14_3] | rw [if_neg c14_3]); first | done | rfl | trivial) | (simp_all; done)), ht⟩) (fun q hq => absurd hq List.not_mem_nil) dX4_isSoft_22
    · skip
      refine lv_iconst (v := 1) hx hb dX4_isSoft_17 (by decide) ?_
      refine lv_goto (tgt := 22) hx hb dX4_isSoft_18 (by decide) ?_
      exact W.zret (v := 1) hx hb hr rfl (fun t ht hW => ⟨_, rfl, (by first | rfl | trivial | (simp [c1_1, c14_3]; done) | ((try first | rw [if_pos c1_1] | rw [if_neg c1_1]); (try first | rw [if_pos c14_3] | rw [if_neg c14_3]); first | done | rfl | trivial) | (simp_all; done)), ht⟩) (fun q hq => absurd hq List.not_mem_nil) dX4_isSoft_22

set_option maxRecDepth 20000 in
theorem in_X4_value_X4 : ∀ w ∈ wsX40, w ∈ wsX4_value := by decide +kernel
set_option maxRecDepth 20000 in
theorem wd_X4_value_0 : Cond.fieldLink RX4 9 "ShoeTable$Rules" "now" "[I" ∈ wsX4_value := by decide +kernel
set_option maxHeartbeats 400000 in
set_option maxRecDepth 100000 in
/-- X4_value -/
theorem c_X4_value (l : Launch) (D : va_G) (cI cJ cQ : ClassId) (h0 : Nat) (h1 : Nat) (w : Nat → Int32) (p0 : Int32) (p1 : Bool)  : Met l yX4_value wsX4_value ({ frames := 0, cells := 0, slots := 0, locals := 0 }) (va_Pc [.ref h0, .int p0, .int (bI p1)] (rP D (gTy cI cJ cQ) [(h0, .inr (4, [.ref h1])), (h1, .inl (cI, 7, .inl w))])) (vp_Si (fun r => r = if bI p1 = 0 then p0 else if w 0 < p0 + 10 then p0 else p0 + 10)) 0 0 (fun _ => False) := by
  refine Met.ofW (cc := cX4_value) (maxL := 3) (ret := (some .int)) (by decide) rfl ?_
  intro p e s m args below meth c s₁ B hml hv
  obtain ⟨rfl, hP, hK⟩ := hv
  have hx := B.exec
  have hb := B.bytes
  have hr := B.returns
  have hts := atoms_spec (ws := wsX4_value) B.pre
  have hown : s.vm.findClass RX4 = some m.cls := findClass_of_methodNamed B.named
  have hlocks := B.notSynchronized
  have hl := lv_entry ([.ref h0, .int p0, .int (bI p1)]) (n := 3) (Nat.le_of_ble_eq_true rfl)
  rw [lg_entry_eq]
  generalize (lg_sl ([.ref h0, .int p0, .int (bI p1)]) ++ List.replicate (3 - (lg_sl ([.ref h0, .int p0, .int (bI p1)])).length) Slot.unset).toArray = ls at hl ⊢
  have hl : lv_has ls 3 [(0, .ref h0), (1, .int p0), (2, .int (bI p1))] := hl
  refine lv_iload_n hx hb dX4_value_0 rfl (lv_at hl 2 rfl) ?_
  refine lv_if_eq (tgt := 24) hx hb dX4_value_1 (by decide) (fun c1_1 => ?_) (fun c1_1 => ?_)
  · skip
    refine lv_iload_n hx hb dX4_value_24 rfl (lv_at hl 1 rfl) ?_
    exact W.iret (v := p0) hx hb hr (fun t ht hW => ⟨_, rfl, (by first | rfl | trivial | (simp [c1_1]; done) | ((try first | rw [if_pos c1_1] | rw [if_neg c1_1]); first | done | rfl | trivial) | (simp_all; done)), ht⟩) (fun q hq => absurd hq List.not_mem_nil) dX4_value_25
  · skip
    refine lv_iload_n hx hb dX4_value_4 rfl (lv_at hl 1 rfl) ?_
    refine lv_bipush (v := 10) hx hb dX4_value_5 (by decide) ?_
    refine lv_iadd hx hb dX4_value_7 ?_
    refine lv_aload_n hx hb dX4_value_8 rfl (lv_at hl 0 rfl) ?_
    refine va_get (D := D) (ci := 4) (v := .ref h1) (C := RX4) (T := TX4) (N := 1) hx hb hts in_X4_value_X4 hown hK hP 0 rfl rfl 0 (by decide) (hts _ wd_X4_value_0) (fun _ h9 => h9) rfl dX4_value_9 ?_
    refine lv_iconst (v := 0) hx hb dX4_value_12 (by decide) ?_
    refine va_iald hx hb hK hP 1 0 rfl rfl (show ¬ ((0 : Int32) < 0 ∨ 7 ≤ (0 : Int32).toNatClampNeg) by decide) dX4_value_13 ?_
    refine lv_topi (fun z_2 ez_2 => ?_)
    obtain rfl : z_2 = (w 0) := ez_2
    refine lv_icmp_gt (tgt := 24) hx hb dX4_value_14 (by decide) (fun c14_3 => ?_) (fun c14_3 => ?_)
    · skip
      refine lv_iload_n hx hb dX4_value_24 rfl (lv_at hl 1 rfl) ?_
      exact W.iret (v := p0) hx hb hr (fun t ht hW => ⟨_, rfl, (by first | rfl | trivial | (simp [c1_1, c14_3]; done) | ((try first | rw [if_pos c1_1] | rw [if_neg c1_1]); (try first | rw [if_pos c14_3] | rw [if_neg c14_3]); first | done | rfl | trivial) | (simp_all; done)), ht⟩) (fun q hq => absurd hq List.not_mem_nil) dX4_value_25
    · skip
      refine lv_iload_n hx hb dX4_value_17 rfl (lv_at hl 1 rfl) ?_
      refine lv_bipush (v := 10) hx hb dX4_value_18 (by decide) ?_
      refine lv_iadd hx hb dX4_value_20 ?_
      refine lv_goto (tgt := 25) hx hb dX4_value_21 (by decide) ?_
      exact W.iret (v := (p0 + 10)) hx hb hr (fun t ht hW => ⟨_, rfl, (by first | rfl | trivial | (simp [c1_1, c14_3]; done) | ((try first | rw [if_pos c1_1] | rw [if_neg c1_1]); (try first | rw [if_pos c14_3] | rw [if_neg c14_3]); first | done | rfl | trivial) | (simp_all; done)), ht⟩) (fun q hq => absurd hq List.not_mem_nil) dX4_value_25

set_option maxRecDepth 20000 in
theorem in_X4_isBust_X4 : ∀ w ∈ wsX40, w ∈ wsX4_isBust := by decide +kernel
set_option maxRecDepth 20000 in
theorem wd_X4_isBust_0 : Cond.fieldLink RX4 9 "ShoeTable$Rules" "now" "[I" ∈ wsX4_isBust := by decide +kernel
set_option maxHeartbeats 400000 in
set_option maxRecDepth 100000 in
/-- X4_isBust -/
theorem c_X4_isBust (l : Launch) (D : va_G) (cI cJ cQ : ClassId) (h0 : Nat) (h1 : Nat) (w : Nat → Int32) (p0 : Int32)  : Met l yX4_isBust wsX4_isBust ({ frames := 0, cells := 0, slots := 0, locals := 0 }) (va_Pc [.ref h0, .int p0] (rP D (gTy cI cJ cQ) [(h0, .inr (4, [.ref h1])), (h1, .inl (cI, 7, .inl w))])) (vp_Si (fun r => r = if p0 ≤ w 0 then 0 else 1)) 0 0 (fun _ => False) := by
  refine Met.ofW (cc := cX4_isBust) (maxL := 2) (ret := (some .boolean)) (by decide) rfl ?_
  intro p e s m args below meth c s₁ B hml hv
  obtain ⟨rfl, hP, hK⟩ := hv
  have hx := B.exec
  have hb := B.bytes
  have hr := B.returns
  have hts := atoms_spec (ws := wsX4_isBust) B.pre
  have hown : s.vm.findClass RX4 = some m.cls := findClass_of_methodNamed B.named
  have hlocks := B.notSynchronized
  have hl := lv_entry ([.ref h0, .int p0]) (n := 2) (Nat.le_of_ble_eq_true rfl)
  rw [lg_entry_eq]
  generalize (lg_sl ([.ref h0, .int p0]) ++ List.replicate (2 - (lg_sl ([.ref h0, .int p0])).length) Slot.unset).toArray = ls at hl ⊢
  have hl : lv_has ls 2 [(0, .ref h0), (1, .int p0)] := hl
  refine lv_iload_n hx hb dX4_isBust_0 rfl (lv_at hl 1 rfl) ?_
  refine lv_aload_n hx hb dX4_isBust_1 rfl (lv_at hl 0 rfl) ?_
  refine va_get (D := D) (ci := 4) (v := .ref h1) (C := RX4) (T := TX4) (N := 1) hx hb hts in_X4_isBust_X4 hown hK hP 0 rfl rfl 0 (by decide) (hts _ wd_X4_isBust_0) (fun _ h9 => h9) rfl dX4_isBust_2 ?_
  refine lv_iconst (v := 0) hx hb dX4_isBust_5 (by decide) ?_
  refine va_iald hx hb hK hP 1 0 rfl rfl (show ¬ ((0 : Int32) < 0 ∨ 7 ≤ (0 : Int32).toNatClampNeg) by decide) dX4_isBust_6 ?_
  refine lv_topi (fun z_1 ez_1 => ?_)
  obtain rfl : z_1 = (w 0) := ez_1
  refine lv_icmp_le (tgt := 14) hx hb dX4_isBust_7 (by decide) (fun c7_2 => ?_) (fun c7_2 => ?_)
  · skip
    refine lv_iconst (v := 0) hx hb dX4_isBust_14 (by decide) ?_
    exact W.zret (v := 0) hx hb hr rfl (fun t ht hW => ⟨_, rfl, (by first | rfl | trivial | (simp [c7_2]; done) | ((try first | rw [if_pos c7_2] | rw [if_neg c7_2]); first | done | rfl | trivial) | (simp_all; done)), ht⟩) (fun q hq => absurd hq List.not_mem_nil) dX4_isBust_15
  · skip
    refine lv_iconst (v := 1) hx hb dX4_isBust_10 (by decide) ?_
    refine lv_goto (tgt := 15) hx hb dX4_isBust_11 (by decide) ?_
    exact W.zret (v := 1) hx hb hr rfl (fun t ht hW => ⟨_, rfl, (by first | rfl | trivial | (simp [c7_2]; done) | ((try first | rw [if_pos c7_2] | rw [if_neg c7_2]); first | done | rfl | trivial) | (simp_all; done)), ht⟩) (fun q hq => absurd hq List.not_mem_nil) dX4_isBust_15

set_option maxRecDepth 20000 in
theorem in_X4_isNatural_X4 : ∀ w ∈ wsX40, w ∈ wsX4_isNatural := by decide +kernel
set_option maxRecDepth 20000 in
theorem wd_X4_isNatural_0 : Cond.fieldLink RX4 9 "ShoeTable$Rules" "now" "[I" ∈ wsX4_isNatural := by decide +kernel
set_option maxHeartbeats 400000 in
set_option maxRecDepth 100000 in
/-- X4_isNatural -/
theorem c_X4_isNatural (l : Launch) (D : va_G) (cI cJ cQ : ClassId) (h0 : Nat) (h1 : Nat) (w : Nat → Int32) (p0 : Int32) (p1 : Int32)  : Met l yX4_isNatural wsX4_isNatural ({ frames := 0, cells := 0, slots := 0, locals := 0 }) (va_Pc [.ref h0, .int p0, .int p1] (rP D (gTy cI cJ cQ) [(h0, .inr (4, [.ref h1])), (h1, .inl (cI, 7, .inl w))])) (vp_Si (fun r => r = if p1 = 2 then (if p0 = w 0 then 1 else 0) else 0)) 0 0 (fun _ => False) := by
  refine Met.ofW (cc := cX4_isNatural) (maxL := 3) (ret := (some .boolean)) (by decide) rfl ?_
  intro p e s m args below meth c s₁ B hml hv
  obtain ⟨rfl, hP, hK⟩ := hv
  have hx := B.exec
  have hb := B.bytes
  have hr := B.returns
  have hts := atoms_spec (ws := wsX4_isNatural) B.pre
  have hown : s.vm.findClass RX4 = some m.cls := findClass_of_methodNamed B.named
  have hlocks := B.notSynchronized
  have hl := lv_entry ([.ref h0, .int p0, .int p1]) (n := 3) (Nat.le_of_ble_eq_true rfl)
  rw [lg_entry_eq]
  generalize (lg_sl ([.ref h0, .int p0, .int p1]) ++ List.replicate (3 - (lg_sl ([.ref h0, .int p0, .int p1])).length) Slot.unset).toArray = ls at hl ⊢
  have hl : lv_has ls 3 [(0, .ref h0), (1, .int p0), (2, .int p1)] := hl
  refine lv_iload_n hx hb dX4_isNatural_0 rfl (lv_at hl 2 rfl) ?_
  refine lv_iconst (v := 2) hx hb dX4_isNatural_1 (by decide) ?_
  refine lv_icmp_ne (tgt := 19) hx hb dX4_isNatural_2 (by decide) (fun c2_1 => ?_) (fun c2_1 => ?_)
  · skip
    refine lv_iconst (v := 0) hx hb dX4_isNatural_19 (by decide) ?_
    exact W.zret (v := 0) hx hb hr rfl (fun t ht hW => ⟨_, rfl, (by first | rfl | trivial | (simp [c2_1]; done) | ((try first | rw [if_pos c2_1] | rw [if_neg c2_1]); first | done | rfl | trivial) | (simp_all; done)), ht⟩) (fun q hq => absurd hq List.not_mem_nil) dX4_isNatural_20
  · skip
    refine lv_iload_n hx hb dX4_isNatural_5 rfl (lv_at hl 1 rfl) ?_
    refine lv_aload_n hx hb dX4_isNatural_6 rfl (lv_at hl 0 rfl) ?_
    refine va_get (D := D) (ci := 4) (v := .ref h1) (C := RX4) (T := TX4) (N := 1) hx hb hts in_X4_isNatural_X4 hown hK hP 0 rfl rfl 0 (by decide) (hts _ wd_X4_isNatural_0) (fun _ h9 => h9) rfl dX4_isNatural_7 ?_
    refine lv_iconst (v := 0) hx hb dX4_isNatural_10 (by decide) ?_
    refine va_iald hx hb hK hP 1 0 rfl rfl (show ¬ ((0 : Int32) < 0 ∨ 7 ≤ (0 : Int32).toNatClampNeg) by decide) dX4_isNatural_11 ?_
    refine lv_topi (fun z_2 ez_2 => ?_)
    obtain rfl : z_2 = (w 0) := ez_2
    refine lv_icmp_ne (tgt := 19) hx hb dX4_isNatural_12 (by decide) (fun c12_3 => ?_) (fun c12_3 => ?_)
    · skip
      refine lv_iconst (v := 0) hx hb dX4_isNatural_19 (by decide) ?_
      exact W.zret (v := 0) hx hb hr rfl (fun t ht hW => ⟨_, rfl, (by first | rfl | trivial | (simp [c2_1, c12_3]; done) | ((try first | rw [if_pos c2_1] | rw [if_neg c2_1]); (try first | rw [if_pos c12_3] | rw [if_neg c12_3]); first | done | rfl | trivial) | (simp_all; done)), ht⟩) (fun q hq => absurd hq List.not_mem_nil) dX4_isNatural_20
    · skip
      refine lv_iconst (v := 1) hx hb dX4_isNatural_15 (by decide) ?_
      refine lv_goto (tgt := 20) hx hb dX4_isNatural_16 (by decide) ?_
      exact W.zret (v := 1) hx hb hr rfl (fun t ht hW => ⟨_, rfl, (by first | rfl | trivial | (simp [c2_1, c12_3]; done) | ((try first | rw [if_pos c2_1] | rw [if_neg c2_1]); (try first | rw [if_pos c12_3] | rw [if_neg c12_3]); first | done | rfl | trivial) | (simp_all; done)), ht⟩) (fun q hq => absurd hq List.not_mem_nil) dX4_isNatural_20

set_option maxRecDepth 20000 in
theorem in_X4_copy_X4 : ∀ w ∈ wsX40, w ∈ wsX4_copy := by decide +kernel
set_option maxRecDepth 20000 in
theorem wd_X4_copy_0 : Cond.fieldLink RX4 9 "ShoeTable$Rules" "now" "[I" ∈ wsX4_copy := by decide +kernel
set_option maxRecDepth 20000 in
theorem wd_X4_copy_1 : Cond.methodLink RX4 25 arraycopyName ∈ wsX4_copy := by decide +kernel
set_option maxRecDepth 20000 in
theorem wd_X4_copy_2 : Cond.native arraycopyName ∈ wsX4_copy := by decide +kernel
set_option maxRecDepth 20000 in
theorem wd_X4_copy_3 : Cond.static arraycopyName ∈ wsX4_copy := by decide +kernel
set_option maxRecDepth 20000 in
theorem wd_X4_copy_4 : Cond.initialized "java/lang/System" ∈ wsX4_copy := by decide +kernel
set_option maxHeartbeats 400000 in
set_option maxRecDepth 100000 in
/-- X4_copy -/
theorem c_X4_copy (l : Launch) (D : va_G) (cI cJ cQ : ClassId) (sz : Nat) (h0 : Nat) (h1 : Nat) (w : Nat → Int32) (k0 : Nat) (k1 : Nat) (w3 : Nat → Int32)  : Met l yX4_copy wsX4_copy ({ frames := 1, cells := 0, slots := 0, locals := 40 }) (va_Pc [.ref h0, .ref k0] (mP D (gTy cI cJ cQ) [(h0, .inr (4, [.ref h1])), (h1, .inl (cI, 7, .inl w)), (k0, .inr (4, [.ref k1])), (k1, .inl (cI, 7, .inl w3))] sz)) (va_Qv (fun (u : (Nat → Int32)) => match u with | w2 => ∀ j, j < 7 → w2 j = w3 j) (fun (u : (Nat → Int32)) t => match u with | w2 => mB D (gTy cI cJ cQ) (va_A [(h0, .inr (4, [.ref h1])), (h1, .inl (cI, 7, .inl w)), (k0, .inr (4, [.ref k1])), (k1, .inl (cI, 7, .inl w3))] sz) [(h0, .inr (4, [.ref h1])), (h1, .inl (cI, 7, .inl w2)), (k0, .inr (4, [.ref k1])), (k1, .inl (cI, 7, .inl w3))] t) (va_A [(h0, .inr (4, [.ref h1])), (h1, .inl (cI, 7, .inl w)), (k0, .inr (4, [.ref k1])), (k1, .inl (cI, 7, .inl w3))] sz)) 0 0 (va_A [(h0, .inr (4, [.ref h1])), (h1, .inl (cI, 7, .inl w)), (k0, .inr (4, [.ref k1])), (k1, .inl (cI, 7, .inl w3))] sz) := by
  refine Met.ofW (cc := cX4_copy) (maxL := 2) (ret := none) (by decide) rfl ?_
  intro p e s m args below meth c s₁ B hml hv
  obtain ⟨rfl, hsz, hP, hK, hD0⟩ := hv
  have hx := B.exec
  have hb := B.bytes
  have hr := B.returns
  have hts := atoms_spec (ws := wsX4_copy) B.pre
  have hown : s.vm.findClass RX4 = some m.cls := findClass_of_methodNamed B.named
  have hlocks := B.notSynchronized
  subst hsz
  have hD := hD0.self (sz := s.heap.size)
  generalize hAe : va_A [(h0, .inr (4, [.ref h1])), (h1, .inl (cI, 7, .inl w)), (k0, .inr (4, [.ref k1])), (k1, .inl (cI, 7, .inl w3))] s.heap.size = A at hD ⊢
  have hA : ∀ q : Nat, s.heap.size ≤ q → A q := fun q h => by rw [← hAe]; exact Or.inr h
  have hS : va_S A s.heap s.heap [] := va_S.rf
  have hP : va_P D vwCl [(h0, .inr (4, [.ref h1])), (h1, .inl (cI, 7, .inl w)), (k0, .inr (4, [.ref k1])), (k1, .inl (cI, 7, .inl w3))] s.heap := hP
  have hl := lv_entry ([.ref h0, .ref k0]) (n := 2) (Nat.le_of_ble_eq_true rfl)
  rw [lg_entry_eq]
  generalize (lg_sl ([.ref h0, .ref k0]) ++ List.replicate (2 - (lg_sl ([.ref h0, .ref k0])).length) Slot.unset).toArray = ls at hl ⊢
  have hl : lv_has ls 2 [(0, .ref h0), (1, .ref k0)] := hl
  refine lv_aload_n hx hb dX4_copy_0 rfl (lv_at hl 1 rfl) ?_
  refine va_get (D := D) (ci := 4) (v := .ref k1) (C := RX4) (T := TX4) (N := 1) hx hb hts in_X4_copy_X4 hown hK hP 2 rfl rfl 0 (by decide) (hts _ wd_X4_copy_0) (fun _ h9 => h9) rfl dX4_copy_1 ?_
  refine lv_iconst (v := 0) hx hb dX4_copy_4 (by decide) ?_
  refine lv_aload_n hx hb dX4_copy_5 rfl (lv_at hl 0 rfl) ?_
  refine va_get (D := D) (ci := 4) (v := .ref h1) (C := RX4) (T := TX4) (N := 1) hx hb hts in_X4_copy_X4 hown hK hP 0 rfl rfl 0 (by decide) (hts _ wd_X4_copy_0) (fun _ h9 => h9) rfl dX4_copy_6 ?_
  refine lv_iconst (v := 0) hx hb dX4_copy_9 (by decide) ?_
  refine lv_aload_n hx hb dX4_copy_10 rfl (lv_at hl 0 rfl) ?_
  refine va_get (D := D) (ci := 4) (v := .ref h1) (C := RX4) (T := TX4) (N := 1) hx hb hts in_X4_copy_X4 hown hK hP 0 rfl rfl 0 (by decide) (hts _ wd_X4_copy_0) (fun _ h9 => h9) rfl dX4_copy_11 ?_
  refine va_alen hx hb hK hP 1 0 rfl rfl (v := 7) (by rfl) dX4_copy_14 ?_
  refine va_copyi (ty := .int) hx hb (by rw [hml]; exact hl.1.symm) hown (hts _ wd_X4_copy_1) (hts _ wd_X4_copy_2) (hts _ wd_X4_copy_3) (hts _ wd_X4_copy_4) hK hP hD hS 3 1 0 0 rfl rfl rfl rfl rfl (by decide) (by decide) (by decide) (by decide) (by decide) (fun i _ => rfl) (Nat.le_of_ble_eq_true rfl) (Nat.le_of_ble_eq_true rfl) dX4_copy_15 (fun H locs hP hD hS => ?_)
  have hP : va_P D vwCl [(h0, .inr (4, [.ref h1])), (h1, .inl (cI, 7, .inl (va_cpy w3 w 0 0 7))), (k0, .inr (4, [.ref k1])), (k1, .inl (cI, 7, .inl w3))] H := hP
  have hD : va_D A [(h0, .inr (4, [.ref h1])), (h1, .inl (cI, 7, .inl (va_cpy w3 w 0 0 7))), (k0, .inr (4, [.ref k1])), (k1, .inl (cI, 7, .inl w3))] := hD
  have hP9 := hP.sub (ws' := [(h0, .inr (4, [.ref h1])), (h1, .inl (cI, 7, .inl (va_cpy w3 w 0 0 7))), (k0, .inr (4, [.ref k1])), (k1, .inl (cI, 7, .inl w3))]) [0, 1, 2, 3] rfl
  have hD9 := hD.sub (ws' := [(h0, .inr (4, [.ref h1])), (h1, .inl (cI, 7, .inl (va_cpy w3 w 0 0 7))), (k0, .inr (4, [.ref k1])), (k1, .inl (cI, 7, .inl w3))]) [0, 1, 2, 3] (by decide) rfl
  exact W.vret hx hb hr (fun t ht hW => ⟨⟨(va_cpy w3 w 0 0 7), rfl, (fun j hj => by simp [va_cpy, hj]), by rw [ht]; exact hP9, va_K.moved hW.alike hK, hD9⟩, hS.F ht⟩) hS.2.2 dX4_copy_18

set_option maxRecDepth 20000 in
theorem wd_X4_allows_0 : Cond.fieldLink RX4 15 "ShoeTable$Rules" "LEAST" "[I" ∈ wsX4_allows := by decide +kernel
set_option maxRecDepth 20000 in
theorem wd_X4_allows_1 : Cond.fieldLink RX4 18 "ShoeTable$Rules" "MOST" "[I" ∈ wsX4_allows := by decide +kernel
set_option maxRecDepth 20000 in
theorem in_X4_allows_X4 : ∀ w ∈ wsX40, w ∈ wsX4_allows := by decide +kernel
set_option maxRecDepth 20000 in
theorem wd_X4_allows_2 : Cond.fieldLink RX4 9 "ShoeTable$Rules" "now" "[I" ∈ wsX4_allows := by decide +kernel
set_option maxHeartbeats 400000 in
set_option maxRecDepth 100000 in
/-- X4_allows -/
theorem c_X4_allows (l : Launch) (D : va_G) (cI cJ cQ : ClassId) (h0 : Nat) (h1 : Nat) (w : Nat → Int32) (p0 : Int32) (p1 : Int32) (tL : Nat) (tM : Nat)  : Met l yX4_allows wsX4_allows ({ frames := 0, cells := 0, slots := 0, locals := 0 }) (va_Pc [.ref h0, .int p0, .int p1] (rPs D (gTy cI cJ cQ) [(h0, .inr (4, [.ref h1])), (h1, .inl (cI, 7, .inl w))] tL tM)) (vp_Si (fun r => r = alw w p0 p1 ∧ (r = 0 ∨ vp_in p0 7))) 0 0 (fun _ => False) := by
  refine Met.ofW (cc := cX4_allows) (maxL := 3) (ret := (some .boolean)) (by decide) rfl ?_
  intro p e s m args below meth c s₁ B hml hv
  obtain ⟨rfl, ⟨hP, hK⟩, hZ⟩ := hv
  have hS : va_S (fun _ => False) s.heap s.heap [] := va_S.rf
  have hx := B.exec
  have hb := B.bytes
  have hr := B.returns
  have hts := atoms_spec (ws := wsX4_allows) B.pre
  have hown : s.vm.findClass RX4 = some m.cls := findClass_of_methodNamed B.named
  have hlocks := B.notSynchronized
  have hl := lv_entry ([.ref h0, .int p0, .int p1]) (n := 3) (Nat.le_of_ble_eq_true rfl)
  rw [lg_entry_eq]
  generalize (lg_sl ([.ref h0, .int p0, .int p1]) ++ List.replicate (3 - (lg_sl ([.ref h0, .int p0, .int p1])).length) Slot.unset).toArray = ls at hl ⊢
  have hl : lv_has ls 3 [(0, .ref h0), (1, .int p0), (2, .int p1)] := hl
  refine lv_iload_n hx hb dX4_allows_0 rfl (lv_at hl 1 rfl) ?_
  refine lv_if_lt (tgt := 28) hx hb dX4_allows_1 (by decide) (fun c1_1 => ?_) (fun c1_1 => ?_)
  · skip
    refine lv_iconst (v := 0) hx hb dX4_allows_28 (by decide) ?_
    exact W.zret (v := 0) hx hb hr rfl (fun t ht hW => ⟨_, rfl, ⟨by unfold alw; first | (simp [c1_1]; done) | ((try first | rw [if_pos c1_1] | rw [if_neg c1_1]); first | done | rfl | trivial), Or.inl rfl⟩, ht⟩) (fun q hq => absurd hq List.not_mem_nil) dX4_allows_29
  · skip
    refine lv_iload_n hx hb dX4_allows_4 rfl (lv_at hl 1 rfl) ?_
    refine lv_bipush (v := 6) hx hb dX4_allows_5 (by decide) ?_
    refine lv_icmp_gt (tgt := 28) hx hb dX4_allows_7 (by decide) (fun c7_2 => ?_) (fun c7_2 => ?_)
    · skip
      refine lv_iconst (v := 0) hx hb dX4_allows_28 (by decide) ?_
      exact W.zret (v := 0) hx hb hr rfl (fun t ht hW => ⟨_, rfl, ⟨by unfold alw; first | (simp [c1_1, c7_2]; done) | ((try first | rw [if_pos c1_1] | rw [if_neg c1_1]); (try first | rw [if_pos c7_2] | rw [if_neg c7_2]); first | done | rfl | trivial), Or.inl rfl⟩, ht⟩) (fun q hq => absurd hq List.not_mem_nil) dX4_allows_29
    · skip
      refine lv_iload_n hx hb dX4_allows_10 rfl (lv_at hl 2 rfl) ?_
      refine va_gets hx hb hZ.1 hS hown (hts _ wd_X4_allows_0) (fun _ h9 => h9) dX4_allows_11 ?_
      refine lv_iload_n hx hb dX4_allows_14 rfl (lv_at hl 1 rfl) ?_
      refine va_ti hx hb hZ.2.1 hS (r7_in c1_1 c7_2) (v := .int (least0 p0.toNatClampNeg)) rfl dX4_allows_15 ?_
      refine lv_icmp_lt (tgt := 28) hx hb dX4_allows_16 (by decide) (fun c16_3 => ?_) (fun c16_3 => ?_)
      · skip
        refine lv_iconst (v := 0) hx hb dX4_allows_28 (by decide) ?_
        exact W.zret (v := 0) hx hb hr rfl (fun t ht hW => ⟨_, rfl, ⟨by unfold alw; first | (simp [c1_1, c7_2, c16_3]; done) | ((try first | rw [if_pos c1_1] | rw [if_neg c1_1]); (try first | rw [if_pos c7_2] | rw [if_neg c7_2]); (try first | rw [if_pos c16_3] | rw [if_neg c16_3]); first | done | rfl | trivial), Or.inl rfl⟩, ht⟩) (fun q hq => absurd hq List.not_mem_nil) dX4_allows_29
      · skip
        refine lv_iload_n hx hb dX4_allows_19 rfl (lv_at hl 2 rfl) ?_
        refine va_gets hx hb hZ.2.2.1 hS hown (hts _ wd_X4_allows_1) (fun _ h9 => h9) dX4_allows_20 ?_
        refine lv_iload_n hx hb dX4_allows_23 rfl (lv_at hl 1 rfl) ?_
        refine va_ti hx hb hZ.2.2.2 hS (r7_in c1_1 c7_2) (v := .int (most0 p0.toNatClampNeg)) rfl dX4_allows_24 ?_
        refine lv_icmp_le (tgt := 30) hx hb dX4_allows_25 (by decide) (fun c25_4 => ?_) (fun c25_4 => ?_)
        · skip
          refine lv_iload_n hx hb dX4_allows_30 rfl (lv_at hl 1 rfl) ?_
          refine lv_if_ne (tgt := 50) hx hb dX4_allows_31 (by decide) (fun c31_5 => ?_) (fun c31_5 => ?_)
          · skip
            refine lv_iload_n hx hb dX4_allows_50 rfl (lv_at hl 1 rfl) ?_
            refine lv_iconst (v := 1) hx hb dX4_allows_51 (by decide) ?_
            refine lv_icmp_ne (tgt := 65) hx hb dX4_allows_52 (by decide) (fun c52_6 => ?_) (fun c52_6 => ?_)
            · skip
              refine lv_iconst (v := 1) hx hb dX4_allows_65 (by decide) ?_
              refine lv_goto (tgt := 70) hx hb dX4_allows_66 (by decide) ?_
              exact W.zret (v := 1) hx hb hr rfl (fun t ht hW => ⟨_, rfl, ⟨by unfold alw; first | (simp [c1_1, c7_2, c16_3, c25_4, c31_5, c52_6]; done) | ((try first | rw [if_pos c1_1] | rw [if_neg c1_1]); (try first | rw [if_pos c7_2] | rw [if_neg c7_2]); (try first | rw [if_pos c16_3] | rw [if_neg c16_3]); (try first | rw [if_pos c25_4] | rw [if_neg c25_4]); (try first | rw [if_pos c31_5] | rw [if_neg c31_5]); (try first | rw [if_pos c52_6] | rw [if_neg c52_6]); first | done | rfl | trivial), Or.inr (r7_in c1_1 c7_2)⟩, ht⟩) (fun q hq => absurd hq List.not_mem_nil) dX4_allows_70
            · skip
              refine lv_iload_n hx hb dX4_allows_55 rfl (lv_at hl 2 rfl) ?_
              refine lv_aload_n hx hb dX4_allows_56 rfl (lv_at hl 0 rfl) ?_
              refine va_get (D := D) (ci := 4) (v := .ref h1) (C := RX4) (T := TX4) (N := 1) hx hb hts in_X4_allows_X4 hown hK hP 0 rfl rfl 0 (by decide) (hts _ wd_X4_allows_2) (fun _ h9 => h9) rfl dX4_allows_57 ?_
              refine lv_iconst (v := 0) hx hb dX4_allows_60 (by decide) ?_
              refine va_iald hx hb hK hP 1 0 rfl rfl (show ¬ ((0 : Int32) < 0 ∨ 7 ≤ (0 : Int32).toNatClampNeg) by decide) dX4_allows_61 ?_
              refine lv_topi (fun z_7 ez_7 => ?_)
              obtain rfl : z_7 = (w 0) := ez_7
              refine lv_icmp_gt (tgt := 69) hx hb dX4_allows_62 (by decide) (fun c62_8 => ?_) (fun c62_8 => ?_)
              · skip
                refine lv_iconst (v := 0) hx hb dX4_allows_69 (by decide) ?_
                exact W.zret (v := 0) hx hb hr rfl (fun t ht hW => ⟨_, rfl, ⟨by unfold alw; first | (simp [c1_1, c7_2, c16_3, c25_4, c31_5, c52_6, c62_8]; done) | ((try first | rw [if_pos c1_1] | rw [if_neg c1_1]); (try first | rw [if_pos c7_2] | rw [if_neg c7_2]); (try first | rw [if_pos c16_3] | rw [if_neg c16_3]); (try first | rw [if_pos c25_4] | rw [if_neg c25_4]); (try first | rw [if_pos c31_5] | rw [if_neg c31_5]); (try first | rw [if_pos c52_6] | rw [if_neg c52_6]); (try first | rw [if_pos c62_8] | rw [if_neg c62_8]); first | done | rfl | trivial), Or.inl rfl⟩, ht⟩) (fun q hq => absurd hq List.not_mem_nil) dX4_allows_70
              · skip
                refine lv_iconst (v := 1) hx hb dX4_allows_65 (by decide) ?_
                refine lv_goto (tgt := 70) hx hb dX4_allows_66 (by decide) ?_
                exact W.zret (v := 1) hx hb hr rfl (fun t ht hW => ⟨_, rfl, ⟨by unfold alw; first | (simp [c1_1, c7_2, c16_3, c25_4, c31_5, c52_6, c62_8]; done) | ((try first | rw [if_pos c1_1] | rw [if_neg c1_1]); (try first | rw [if_pos c7_2] | rw [if_neg c7_2]); (try first | rw [if_pos c16_3] | rw [if_neg c16_3]); (try first | rw [if_pos c25_4] | rw [if_neg c25_4]); (try first | rw [if_pos c31_5] | rw [if_neg c31_5]); (try first | rw [if_pos c52_6] | rw [if_neg c52_6]); (try first | rw [if_pos c62_8] | rw [if_neg c62_8]); first | done | rfl | trivial), Or.inr (r7_in c1_1 c7_2)⟩, ht⟩) (fun q hq => absurd hq List.not_mem_nil) dX4_allows_70
          · skip
            refine lv_iload_n hx hb dX4_allows_34 rfl (lv_at hl 2 rfl) ?_
            refine lv_aload_n hx hb dX4_allows_35 rfl (lv_at hl 0 rfl) ?_
            refine va_get (D := D) (ci := 4) (v := .ref h1) (C := RX4) (T := TX4) (N := 1) hx hb hts in_X4_allows_X4 hown hK hP 0 rfl rfl 0 (by decide) (hts _ wd_X4_allows_2) (fun _ h9 => h9) rfl dX4_allows_36 ?_
            refine lv_iconst (v := 1) hx hb dX4_allows_39 (by decide) ?_
            refine va_iald hx hb hK hP 1 0 rfl rfl (show ¬ ((1 : Int32) < 0 ∨ 7 ≤ (1 : Int32).toNatClampNeg) by decide) dX4_allows_40 ?_
            refine lv_topi (fun z_9 ez_9 => ?_)
            obtain rfl : z_9 = (w 1) := ez_9
            refine lv_icmp_lt (tgt := 48) hx hb dX4_allows_41 (by decide) (fun c41_10 => ?_) (fun c41_10 => ?_)
            · skip
              refine lv_iconst (v := 0) hx hb dX4_allows_48 (by decide) ?_
              exact W.zret (v := 0) hx hb hr rfl (fun t ht hW => ⟨_, rfl, ⟨by unfold alw; first | (simp [c1_1, c7_2, c16_3, c25_4, c31_5, c41_10]; done) | ((try first | rw [if_pos c1_1] | rw [if_neg c1_1]); (try first | rw [if_pos c7_2] | rw [if_neg c7_2]); (try first | rw [if_pos c16_3] | rw [if_neg c16_3]); (try first | rw [if_pos c25_4] | rw [if_neg c25_4]); (try first | rw [if_pos c31_5] | rw [if_neg c31_5]); (try first | rw [if_pos c41_10] | rw [if_neg c41_10]); first | done | rfl | trivial), Or.inl rfl⟩, ht⟩) (fun q hq => absurd hq List.not_mem_nil) dX4_allows_49
            · skip
              refine lv_iconst (v := 1) hx hb dX4_allows_44 (by decide) ?_
              refine lv_goto (tgt := 49) hx hb dX4_allows_45 (by decide) ?_
              exact W.zret (v := 1) hx hb hr rfl (fun t ht hW => ⟨_, rfl, ⟨by unfold alw; first | (simp [c1_1, c7_2, c16_3, c25_4, c31_5, c41_10]; done) | ((try first | rw [if_pos c1_1] | rw [if_neg c1_1]); (try first | rw [if_pos c7_2] | rw [if_neg c7_2]); (try first | rw [if_pos c16_3] | rw [if_neg c16_3]); (try first | rw [if_pos c25_4] | rw [if_neg c25_4]); (try first | rw [if_pos c31_5] | rw [if_neg c31_5]); (try first | rw [if_pos c41_10] | rw [if_neg c41_10]); first | done | rfl | trivial), Or.inr (r7_in c1_1 c7_2)⟩, ht⟩) (fun q hq => absurd hq List.not_mem_nil) dX4_allows_49
        · skip
          refine lv_iconst (v := 0) hx hb dX4_allows_28 (by decide) ?_
          exact W.zret (v := 0) hx hb hr rfl (fun t ht hW => ⟨_, rfl, ⟨by unfold alw; first | (simp [c1_1, c7_2, c16_3, c25_4]; done) | ((try first | rw [if_pos c1_1] | rw [if_neg c1_1]); (try first | rw [if_pos c7_2] | rw [if_neg c7_2]); (try first | rw [if_pos c16_3] | rw [if_neg c16_3]); (try first | rw [if_pos c25_4] | rw [if_neg c25_4]); first | done | rfl | trivial), Or.inl rfl⟩, ht⟩) (fun q hq => absurd hq List.not_mem_nil) dX4_allows_29

set_option maxRecDepth 20000 in
theorem in_X4_change_X4 : ∀ w ∈ wsX40, w ∈ wsX4_change := by decide +kernel
set_option maxRecDepth 20000 in
theorem wd_X4_change_0 : Cond.fieldLink RX4 9 "ShoeTable$Rules" "now" "[I" ∈ wsX4_change := by decide +kernel
set_option maxHeartbeats 400000 in
set_option maxRecDepth 100000 in
/-- X4_change -/
theorem c_X4_change (l : Launch) (D : va_G) (cI cJ cQ : ClassId) (sz : Nat) (h0 : Nat) (h1 : Nat) (w : Nat → Int32) (p0 : Int32) (p1 : Int32) (tL : Nat) (tM : Nat)  : Met l yX4_change wsX4_change ({ frames := 1, cells := 0, slots := 0, locals := 22 }) (va_Pc [.ref h0, .int p0, .int p1] (mPs D (gTy cI cJ cQ) [(h0, .inr (4, [.ref h1])), (h1, .inl (cI, 7, .inl w))] sz tL tM)) (va_Qi (fun (r : Int32) (u : (Nat → Int32)) => match u with | w2 => if alw w p0 p1 = 0 then r = -1001 ∧ w2 = w else r = w p0.toNatClampNeg ∧ w2 = upd w p0.toNatClampNeg p1) (fun (u : (Nat → Int32)) t => match u with | w2 => mB D (gTy cI cJ cQ) (va_A [(h0, .inr (4, [.ref h1])), (h1, .inl (cI, 7, .inl w))] sz) [(h0, .inr (4, [.ref h1])), (h1, .inl (cI, 7, .inl w2))] t) (va_A [(h0, .inr (4, [.ref h1])), (h1, .inl (cI, 7, .inl w))] sz)) 0 0 (va_A [(h0, .inr (4, [.ref h1])), (h1, .inl (cI, 7, .inl w))] sz) := by
  refine Met.ofW (cc := cX4_change) (maxL := 4) (ret := (some .int)) (by decide) rfl ?_
  intro p e s m args below meth c s₁ B hml hv
  obtain ⟨rfl, ⟨hsz, hP, hK, hD0⟩, hZ⟩ := hv
  have hx := B.exec
  have hb := B.bytes
  have hr := B.returns
  have hts := atoms_spec (ws := wsX4_change) B.pre
  have hown : s.vm.findClass RX4 = some m.cls := findClass_of_methodNamed B.named
  have hlocks := B.notSynchronized
  subst hsz
  have hD := hD0.self (sz := s.heap.size)
  generalize hAe : va_A [(h0, .inr (4, [.ref h1])), (h1, .inl (cI, 7, .inl w))] s.heap.size = A at hD hZ ⊢
  have hA : ∀ q : Nat, s.heap.size ≤ q → A q := fun q h => by rw [← hAe]; exact Or.inr h
  have hS : va_S A s.heap s.heap [] := va_S.rf
  have hP : va_P D vwCl [(h0, .inr (4, [.ref h1])), (h1, .inl (cI, 7, .inl w))] s.heap := hP
  have hl := lv_entry ([.ref h0, .int p0, .int p1]) (n := 4) (Nat.le_of_ble_eq_true rfl)
  rw [lg_entry_eq]
  generalize (lg_sl ([.ref h0, .int p0, .int p1]) ++ List.replicate (4 - (lg_sl ([.ref h0, .int p0, .int p1])).length) Slot.unset).toArray = ls at hl ⊢
  have hl : lv_has ls 4 [(0, .ref h0), (1, .int p0), (2, .int p1)] := hl
  refine lv_aload_n hx hb dX4_change_0 rfl (lv_at hl 0 rfl) ?_
  refine lv_iload_n hx hb dX4_change_1 rfl (lv_at hl 1 rfl) ?_
  refine lv_iload_n hx hb dX4_change_2 rfl (lv_at hl 2 rfl) ?_
  have hPc := hP.sub (ws' := [(h0, .inr (4, [.ref h1])), (h1, .inl (cI, 7, .inl w))]) [0, 1] rfl
  refine vp_callSi (W.runV (As := [.int p0, .int p1]) (rest := []) ⟨hx, hb, hml, hown, hts⟩ (c_X4_allows l D cI cJ cQ h0 h1 (w) p0 p1 tL tM) (cwV 2 hts gX4_change_X4_allows rfl rfl rfl (by decide +kernel) ⟨Nat.le_of_ble_eq_true rfl, Nat.le_of_ble_eq_true rfl⟩) (rPs_preV (ci := 4) (q0 := 0) hPc hK hZ hS rfl rfl) rfl rfl hl.1 rfl (lv_room (Nat.le_of_ble_eq_true rfl)) dX4_change_3 ⟨Nat.le_of_ble_eq_true rfl, Nat.le_of_ble_eq_true rfl⟩) (fun r_1 hr_1 => ?_)
  refine lv_if_ne (tgt := 13) hx hb dX4_change_6 (by decide) (fun c6_2 => ?_) (fun c6_2 => ?_)
  · skip
    refine lv_aload_n hx hb dX4_change_13 rfl (lv_at hl 0 rfl) ?_
    refine va_get (D := D) (ci := 4) (v := .ref h1) (C := RX4) (T := TX4) (N := 1) hx hb hts in_X4_change_X4 hown hK hP 0 rfl rfl 0 (by decide) (hts _ wd_X4_change_0) (fun _ h9 => h9) rfl dX4_change_14 ?_
    refine lv_iload_n hx hb dX4_change_17 rfl (lv_at hl 1 rfl) ?_
    refine va_iald hx hb hK hP 1 0 rfl rfl (hr_1.2.resolve_left c6_2) dX4_change_18 ?_
    refine lv_istore_n (lv' := [(3, .int (w p0.toNatClampNeg)), (0, .ref h0), (1, .int p0), (2, .int p1)]) hx hb dX4_change_19 rfl hl (by decide) rfl (fun ls hl => ?_)
    refine lv_aload_n hx hb dX4_change_20 rfl (lv_at hl 1 rfl) ?_
    refine va_get (D := D) (ci := 4) (v := .ref h1) (C := RX4) (T := TX4) (N := 1) hx hb hts in_X4_change_X4 hown hK hP 0 rfl rfl 0 (by decide) (hts _ wd_X4_change_0) (fun _ h9 => h9) rfl dX4_change_21 ?_
    refine lv_iload_n hx hb dX4_change_24 rfl (lv_at hl 2 rfl) ?_
    refine lv_iload_n hx hb dX4_change_25 rfl (lv_at hl 3 rfl) ?_
    refine va_iast hx hb hK hP hD hS 1 0 rfl rfl (hr_1.2.resolve_left c6_2) dX4_change_26 (fun H locs hP hD hS => ?_)
    have hP : va_P D vwCl [(h0, .inr (4, [.ref h1])), (h1, .inl (cI, 7, .inl (upd w p0.toNatClampNeg p1)))] H := hP
    have hD : va_D A [(h0, .inr (4, [.ref h1])), (h1, .inl (cI, 7, .inl (upd w p0.toNatClampNeg p1)))] := hD
    refine lv_iload_n hx hb dX4_change_27 rfl (lv_at hl 0 rfl) ?_
    have hP9 := hP.sub (ws' := [(h0, .inr (4, [.ref h1])), (h1, .inl (cI, 7, .inl (upd w p0.toNatClampNeg p1)))]) [0, 1] rfl
    have hD9 := hD.sub (ws' := [(h0, .inr (4, [.ref h1])), (h1, .inl (cI, 7, .inl (upd w p0.toNatClampNeg p1)))]) [0, 1] (by decide) rfl
    exact W.iret (v := (w p0.toNatClampNeg)) hx hb hr (fun t ht hW => ⟨⟨(w p0.toNatClampNeg), (upd w p0.toNatClampNeg p1), rfl, (by rw [← hr_1.1]; simp [c6_2]), by rw [ht]; exact hP9, va_K.moved hW.alike hK, hD9⟩, hS.F ht⟩) hS.2.2 dX4_change_28
  · skip
    refine lv_sipush (v := (-1001)) hx hb dX4_change_9 (by decide) ?_
    have hP9 := hP.sub (ws' := [(h0, .inr (4, [.ref h1])), (h1, .inl (cI, 7, .inl w))]) [0, 1] rfl
    have hD9 := hD.sub (ws' := [(h0, .inr (4, [.ref h1])), (h1, .inl (cI, 7, .inl w))]) [0, 1] (by decide) rfl
    exact W.iret (v := (-1001)) hx hb hr (fun t ht hW => ⟨⟨(-1001), (w), rfl, (by rw [← hr_1.1]; simp [c6_2]), by rw [ht]; exact hP9, va_K.moved hW.alike hK, hD9⟩, hS.F ht⟩) hS.2.2 dX4_change_12
