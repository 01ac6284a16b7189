set_option maxRecDepth 20000 in
theorem in_X0_add_X0 : ∀ w ∈ wsX00, w ∈ wsX0_add := by decide +kernel
set_option maxRecDepth 20000 in
theorem wd_X0_add_0 : Cond.fieldLink RX0 9 "ShoeTable$Cards" "counts" "[I" ∈ wsX0_add := by decide +kernel
set_option maxRecDepth 20000 in
theorem wd_X0_add_1 : Cond.fieldLink RX0 15 "ShoeTable$Cards" "total" "I" ∈ wsX0_add := by decide +kernel
set_option maxHeartbeats 400000 in
set_option maxRecDepth 100000 in
/-- X0_add -/
theorem c_X0_add (l : Launch) (D : va_G) (cI cJ cQ : ClassId) (sz : Nat) (h0 : Nat) (h1 : Nat) (tot : Int32) (f : Nat → Int32) (p0 : Int32)  : Met l yX0_add wsX0_add ({ frames := 0, cells := 0, slots := 0, locals := 0 }) (va_Pc [.ref h0, .int p0] (mP D (gTy cI cJ cQ) [(h0, .inr (0, [.ref h1, .int tot])), (h1, .inl (cI, 11, .inl f))] sz)) (va_Qv (fun (u : Int32 × (Nat → Int32)) => match u with | (tot2, f2) => if p0 < 1 then tot2 = tot ∧ f2 = f else if 10 < p0 then tot2 = tot ∧ f2 = f else tot2 = tot + 1 ∧ f2 = upd f p0.toNatClampNeg (f p0.toNatClampNeg + 1)) (fun (u : Int32 × (Nat → Int32)) t => match u with | (tot2, f2) => mB D (gTy cI cJ cQ) (va_A [(h0, .inr (0, [.ref h1, .int tot])), (h1, .inl (cI, 11, .inl f))] sz) [(h0, .inr (0, [.ref h1, .int tot2])), (h1, .inl (cI, 11, .inl f2))] t) (va_A [(h0, .inr (0, [.ref h1, .int tot])), (h1, .inl (cI, 11, .inl f))] sz)) 0 0 (va_A [(h0, .inr (0, [.ref h1, .int tot])), (h1, .inl (cI, 11, .inl f))] sz) := by
  refine Met.ofW (cc := cX0_add) (maxL := 2) (ret := none) (by decide) rfl ?_
  intro p e s m args below meth c s₁ B hml hv
  obtain ⟨rfl, hsz, hP, hK, hD0⟩ := hv
  have hx := B.exec
  have hb := B.bytes
  have hr := B.returns
  have hts := atoms_spec (ws := wsX0_add) B.pre
  have hown : s.vm.findClass RX0 = some m.cls := findClass_of_methodNamed B.named
  have hlocks := B.notSynchronized
  subst hsz
  have hD := hD0.self (sz := s.heap.size)
  generalize hAe : va_A [(h0, .inr (0, [.ref h1, .int tot])), (h1, .inl (cI, 11, .inl f))] s.heap.size = A at hD ⊢
  have hA : ∀ q : Nat, s.heap.size ≤ q → A q := fun q h => by rw [← hAe]; exact Or.inr h
  have hS : va_S A s.heap s.heap [] := va_S.rf
  have hP : va_P D vwCl [(h0, .inr (0, [.ref h1, .int tot])), (h1, .inl (cI, 11, .inl f))] s.heap := hP
  have hl := lv_entry ([.ref h0, .int p0]) (n := 2) (Nat.le_of_ble_eq_true rfl)
  rw [lg_entry_eq]
  generalize (lg_sl ([.ref h0, .int p0]) ++ List.replicate (2 - (lg_sl ([.ref h0, .int p0])).length) Slot.unset).toArray = ls at hl ⊢
  have hl : lv_has ls 2 [(0, .ref h0), (1, .int p0)] := hl
  refine lv_iload_n hx hb dX0_add_0 rfl (lv_at hl 1 rfl) ?_
  refine lv_iconst (v := 1) hx hb dX0_add_1 (by decide) ?_
  refine lv_icmp_lt (tgt := 31) hx hb dX0_add_2 (by decide) (fun c2_1 => ?_) (fun c2_1 => ?_)
  · skip
    have hP9 := hP.sub (ws' := [(h0, .inr (0, [.ref h1, .int tot])), (h1, .inl (cI, 11, .inl f))]) [0, 1] rfl
    have hD9 := hD.sub (ws' := [(h0, .inr (0, [.ref h1, .int tot])), (h1, .inl (cI, 11, .inl f))]) [0, 1] (by decide) rfl
    exact W.vret hx hb hr (fun t ht hW => ⟨⟨(tot, (f)), rfl, (by first | rfl | trivial | (simp [c2_1]; done) | ((try first | rw [if_pos c2_1] | rw [if_neg c2_1]); first | done | rfl | trivial) | (simp_all; done)), by rw [ht]; exact hP9, va_K.moved hW.alike hK, hD9⟩, hS.F ht⟩) hS.2.2 dX0_add_31
  · skip
    refine lv_iload_n hx hb dX0_add_5 rfl (lv_at hl 1 rfl) ?_
    refine lv_bipush (v := 10) hx hb dX0_add_6 (by decide) ?_
    refine lv_icmp_gt (tgt := 31) hx hb dX0_add_8 (by decide) (fun c8_2 => ?_) (fun c8_2 => ?_)
    · skip
      have hP9 := hP.sub (ws' := [(h0, .inr (0, [.ref h1, .int tot])), (h1, .inl (cI, 11, .inl f))]) [0, 1] rfl
      have hD9 := hD.sub (ws' := [(h0, .inr (0, [.ref h1, .int tot])), (h1, .inl (cI, 11, .inl f))]) [0, 1] (by decide) rfl
      exact W.vret hx hb hr (fun t ht hW => ⟨⟨(tot, (f)), rfl, (by first | rfl | trivial | (simp [c2_1, c8_2]; done) | ((try first | rw [if_pos c2_1] | rw [if_neg c2_1]); (try first | rw [if_pos c8_2] | rw [if_neg c8_2]); first | done | rfl | trivial) | (simp_all; done)), by rw [ht]; exact hP9, va_K.moved hW.alike hK, hD9⟩, hS.F ht⟩) hS.2.2 dX0_add_31
    · skip
      refine lv_aload_n hx hb dX0_add_11 rfl (lv_at hl 0 rfl) ?_
      refine va_get (D := D) (ci := 0) (v := .ref h1) (C := RX0) (T := TX0) (N := 2) hx hb hts in_X0_add_X0 hown hK hP 0 rfl rfl 0 (by decide) (hts _ wd_X0_add_0) (fun _ h9 => h9) rfl dX0_add_12 ?_
      refine lv_iload_n hx hb dX0_add_15 rfl (lv_at hl 1 rfl) ?_
      refine lv_dup2_11 hx hb dX0_add_16 rfl rfl ?_
      refine va_iald hx hb hK hP 1 0 rfl rfl (rk_in c2_1 c8_2) dX0_add_17 ?_
      refine lv_iconst (v := 1) hx hb dX0_add_18 (by decide) ?_
      refine lv_iadd hx hb dX0_add_19 ?_
      refine va_iast hx hb hK hP hD hS 1 0 rfl rfl (rk_in c2_1 c8_2) dX0_add_20 (fun H locs hP hD hS => ?_)
      have hP : va_P D vwCl [(h0, .inr (0, [.ref h1, .int tot])), (h1, .inl (cI, 11, .inl (upd f p0.toNatClampNeg ((f p0.toNatClampNeg) + 1))))] H := hP
      have hD : va_D A [(h0, .inr (0, [.ref h1, .int tot])), (h1, .inl (cI, 11, .inl (upd f p0.toNatClampNeg ((f p0.toNatClampNeg) + 1))))] := hD
      refine lv_aload_n hx hb dX0_add_21 rfl (lv_at hl 0 rfl) ?_
      refine lv_dup hx hb dX0_add_22 rfl ?_
      refine va_get (D := D) (ci := 0) (v := .int tot) (C := RX0) (T := TX0) (N := 2) hx hb hts in_X0_add_X0 hown hK hP 0 rfl rfl 1 (by decide) (hts _ wd_X0_add_1) (fun _ h9 => h9) rfl dX0_add_23 ?_
      refine lv_iconst (v := 1) hx hb dX0_add_26 (by decide) ?_
      refine lv_iadd hx hb dX0_add_27 ?_
      refine va_put (D := D) (ci := 0) (v := .int (tot + 1)) (ty := .int) (C := RX0) (T := TX0) (N := 2) hx hb hts in_X0_add_X0 tyX0 tyX0_ok nmX0 hown hK hP hD hS 0 rfl rfl 1 (by decide) (hts _ wd_X0_add_1) (fun _ h9 => h9) rfl (by decide +kernel) rfl rfl (Nat.le_of_ble_eq_true rfl) dX0_add_28 (fun H locs hP hD hS => ?_)
      have hP : va_P D vwCl [(h0, .inr (0, [.ref h1, .int (tot + 1)])), (h1, .inl (cI, 11, .inl (upd f p0.toNatClampNeg ((f p0.toNatClampNeg) + 1))))] H := hP
      have hD : va_D A [(h0, .inr (0, [.ref h1, .int (tot + 1)])), (h1, .inl (cI, 11, .inl (upd f p0.toNatClampNeg ((f p0.toNatClampNeg) + 1))))] := hD
      have hP9 := hP.sub (ws' := [(h0, .inr (0, [.ref h1, .int (tot + 1)])), (h1, .inl (cI, 11, .inl (upd f p0.toNatClampNeg ((f p0.toNatClampNeg) + 1))))]) [0, 1] rfl
      have hD9 := hD.sub (ws' := [(h0, .inr (0, [.ref h1, .int (tot + 1)])), (h1, .inl (cI, 11, .inl (upd f p0.toNatClampNeg ((f p0.toNatClampNeg) + 1))))]) [0, 1] (by decide) rfl
      exact W.vret hx hb hr (fun t ht hW => ⟨⟨((tot + 1), (upd f p0.toNatClampNeg ((f p0.toNatClampNeg) + 1))), rfl, (by first | rfl | trivial | (simp [c2_1, c8_2]; done) | ((try first | rw [if_pos c2_1] | rw [if_neg c2_1]); (try first | rw [if_pos c8_2] | rw [if_neg c8_2]); first | done | rfl | trivial) | (simp_all; done)), by rw [ht]; exact hP9, va_K.moved hW.alike hK, hD9⟩, hS.F ht⟩) hS.2.2 dX0_add_31

set_option maxRecDepth 20000 in
theorem in_X0_remove_X0 : ∀ w ∈ wsX00, w ∈ wsX0_remove := by decide +kernel
set_option maxRecDepth 20000 in
theorem wd_X0_remove_0 : Cond.fieldLink RX0 9 "ShoeTable$Cards" "counts" "[I" ∈ wsX0_remove := by decide +kernel
set_option maxRecDepth 20000 in
theorem wd_X0_remove_1 : Cond.fieldLink RX0 15 "ShoeTable$Cards" "total" "I" ∈ wsX0_remove := by decide +kernel
set_option maxHeartbeats 400000 in
set_option maxRecDepth 100000 in
/-- X0_remove -/
theorem c_X0_remove (l : Launch) (D : va_G) (cI cJ cQ : ClassId) (sz : Nat) (h0 : Nat) (h1 : Nat) (tot : Int32) (f : Nat → Int32) (p0 : Int32)  : Met l yX0_remove wsX0_remove ({ frames := 0, cells := 0, slots := 0, locals := 0 }) (va_Pc [.ref h0, .int p0] (mP D (gTy cI cJ cQ) [(h0, .inr (0, [.ref h1, .int tot])), (h1, .inl (cI, 11, .inl f))] sz)) (va_Qi (fun (r : Int32) (u : Int32 × (Nat → Int32)) => match u with | (tot2, f2) => r = hdC f p0 ∧ if hdC f p0 ≤ 0 then tot2 = tot ∧ f2 = f else tot2 = tot - 1 ∧ f2 = upd f p0.toNatClampNeg (f p0.toNatClampNeg - 1)) (fun (u : Int32 × (Nat → Int32)) t => match u with | (tot2, f2) => mB D (gTy cI cJ cQ) (va_A [(h0, .inr (0, [.ref h1, .int tot])), (h1, .inl (cI, 11, .inl f))] sz) [(h0, .inr (0, [.ref h1, .int tot2])), (h1, .inl (cI, 11, .inl f2))] t) (va_A [(h0, .inr (0, [.ref h1, .int tot])), (h1, .inl (cI, 11, .inl f))] sz)) 0 0 (va_A [(h0, .inr (0, [.ref h1, .int tot])), (h1, .inl (cI, 11, .inl f))] sz) := by
  refine Met.ofW (cc := cX0_remove) (maxL := 3) (ret := (some .int)) (by decide) rfl ?_
  intro p e s m args below meth c s₁ B hml hv
  obtain ⟨rfl, hsz, hP, hK, hD0⟩ := hv
  have hx := B.exec
  have hb := B.bytes
  have hr := B.returns
  have hts := atoms_spec (ws := wsX0_remove) B.pre
  have hown : s.vm.findClass RX0 = some m.cls := findClass_of_methodNamed B.named
  have hlocks := B.notSynchronized
  subst hsz
  have hD := hD0.self (sz := s.heap.size)
  generalize hAe : va_A [(h0, .inr (0, [.ref h1, .int tot])), (h1, .inl (cI, 11, .inl f))] s.heap.size = A at hD ⊢
  have hA : ∀ q : Nat, s.heap.size ≤ q → A q := fun q h => by rw [← hAe]; exact Or.inr h
  have hS : va_S A s.heap s.heap [] := va_S.rf
  have hP : va_P D vwCl [(h0, .inr (0, [.ref h1, .int tot])), (h1, .inl (cI, 11, .inl f))] s.heap := hP
  have hl := lv_entry ([.ref h0, .int p0]) (n := 3) (Nat.le_of_ble_eq_true rfl)
  rw [lg_entry_eq]
  generalize (lg_sl ([.ref h0, .int p0]) ++ List.replicate (3 - (lg_sl ([.ref h0, .int p0])).length) Slot.unset).toArray = ls at hl ⊢
  have hl : lv_has ls 3 [(0, .ref h0), (1, .int p0)] := hl
  refine lv_iload_n hx hb dX0_remove_0 rfl (lv_at hl 1 rfl) ?_
  refine lv_iconst (v := 1) hx hb dX0_remove_1 (by decide) ?_
  refine lv_icmp_lt (tgt := 20) hx hb dX0_remove_2 (by decide) (fun c2_1 => ?_) (fun c2_1 => ?_)
  · skip
    refine lv_iconst (v := 0) hx hb dX0_remove_20 (by decide) ?_
    refine lv_istore_n (lv' := [(2, .int 0), (0, .ref h0), (1, .int p0)]) hx hb dX0_remove_21 rfl hl (by decide) rfl (fun ls hl => ?_)
    refine lv_iload_n hx hb dX0_remove_22 rfl (lv_at hl 0 rfl) ?_
    refine lv_if_le (tgt := 46) hx hb dX0_remove_23 (by decide) (fun c23_2 => ?_) (fun c23_2 => ?_)
    · skip
      refine lv_iload_n hx hb dX0_remove_46 rfl (lv_at hl 0 rfl) ?_
      have hP9 := hP.sub (ws' := [(h0, .inr (0, [.ref h1, .int tot])), (h1, .inl (cI, 11, .inl f))]) [0, 1] rfl
      have hD9 := hD.sub (ws' := [(h0, .inr (0, [.ref h1, .int tot])), (h1, .inl (cI, 11, .inl f))]) [0, 1] (by decide) rfl
      exact W.iret (v := 0) hx hb hr (fun t ht hW => ⟨⟨0, (tot, (f)), rfl, (by simp [hdC, c2_1, c23_2]), by rw [ht]; exact hP9, va_K.moved hW.alike hK, hD9⟩, hS.F ht⟩) hS.2.2 dX0_remove_47
    · exact absurd c23_2 (by decide)
  · skip
    refine lv_iload_n hx hb dX0_remove_5 rfl (lv_at hl 1 rfl) ?_
    refine lv_bipush (v := 10) hx hb dX0_remove_6 (by decide) ?_
    refine lv_icmp_gt (tgt := 20) hx hb dX0_remove_8 (by decide) (fun c8_3 => ?_) (fun c8_3 => ?_)
    · skip
      refine lv_iconst (v := 0) hx hb dX0_remove_20 (by decide) ?_
      refine lv_istore_n (lv' := [(2, .int 0), (0, .ref h0), (1, .int p0)]) hx hb dX0_remove_21 rfl hl (by decide) rfl (fun ls hl => ?_)
      refine lv_iload_n hx hb dX0_remove_22 rfl (lv_at hl 0 rfl) ?_
      refine lv_if_le (tgt := 46) hx hb dX0_remove_23 (by decide) (fun c23_4 => ?_) (fun c23_4 => ?_)
      · skip
        refine lv_iload_n hx hb dX0_remove_46 rfl (lv_at hl 0 rfl) ?_
        have hP9 := hP.sub (ws' := [(h0, .inr (0, [.ref h1, .int tot])), (h1, .inl (cI, 11, .inl f))]) [0, 1] rfl
        have hD9 := hD.sub (ws' := [(h0, .inr (0, [.ref h1, .int tot])), (h1, .inl (cI, 11, .inl f))]) [0, 1] (by decide) rfl
        exact W.iret (v := 0) hx hb hr (fun t ht hW => ⟨⟨0, (tot, (f)), rfl, (by simp [hdC, c2_1, c8_3, c23_4]), by rw [ht]; exact hP9, va_K.moved hW.alike hK, hD9⟩, hS.F ht⟩) hS.2.2 dX0_remove_47
      · exact absurd c23_4 (by decide)
    · skip
      refine lv_aload_n hx hb dX0_remove_11 rfl (lv_at hl 0 rfl) ?_
      refine va_get (D := D) (ci := 0) (v := .ref h1) (C := RX0) (T := TX0) (N := 2) hx hb hts in_X0_remove_X0 hown hK hP 0 rfl rfl 0 (by decide) (hts _ wd_X0_remove_0) (fun _ h9 => h9) rfl dX0_remove_12 ?_
      refine lv_iload_n hx hb dX0_remove_15 rfl (lv_at hl 1 rfl) ?_
      refine va_iald hx hb hK hP 1 0 rfl rfl (rk_in c2_1 c8_3) dX0_remove_16 ?_
      refine lv_goto (tgt := 21) hx hb dX0_remove_17 (by decide) ?_
      refine lv_istore_n (lv' := [(2, .int (f p0.toNatClampNeg)), (0, .ref h0), (1, .int p0)]) hx hb dX0_remove_21 rfl hl (by decide) rfl (fun ls hl => ?_)
      refine lv_iload_n hx hb dX0_remove_22 rfl (lv_at hl 0 rfl) ?_
      refine lv_if_le (tgt := 46) hx hb dX0_remove_23 (by decide) (fun c23_5 => ?_) (fun c23_5 => ?_)
      · skip
        refine lv_iload_n hx hb dX0_remove_46 rfl (lv_at hl 0 rfl) ?_
        have hP9 := hP.sub (ws' := [(h0, .inr (0, [.ref h1, .int tot])), (h1, .inl (cI, 11, .inl f))]) [0, 1] rfl
        have hD9 := hD.sub (ws' := [(h0, .inr (0, [.ref h1, .int tot])), (h1, .inl (cI, 11, .inl f))]) [0, 1] (by decide) rfl
        exact W.iret (v := (f p0.toNatClampNeg)) hx hb hr (fun t ht hW => ⟨⟨(f p0.toNatClampNeg), (tot, (f)), rfl, (by simp [hdC, c2_1, c8_3, c23_5]), by rw [ht]; exact hP9, va_K.moved hW.alike hK, hD9⟩, hS.F ht⟩) hS.2.2 dX0_remove_47
      · skip
        refine lv_aload_n hx hb dX0_remove_26 rfl (lv_at hl 1 rfl) ?_
        refine va_get (D := D) (ci := 0) (v := .ref h1) (C := RX0) (T := TX0) (N := 2) hx hb hts in_X0_remove_X0 hown hK hP 0 rfl rfl 0 (by decide) (hts _ wd_X0_remove_0) (fun _ h9 => h9) rfl dX0_remove_27 ?_
        refine lv_iload_n hx hb dX0_remove_30 rfl (lv_at hl 2 rfl) ?_
        refine lv_dup2_11 hx hb dX0_remove_31 rfl rfl ?_
        refine va_iald hx hb hK hP 1 0 rfl rfl (rk_in c2_1 c8_3) dX0_remove_32 ?_
        refine lv_iconst (v := 1) hx hb dX0_remove_33 (by decide) ?_
        refine lv_isub hx hb dX0_remove_34 ?_
        refine va_iast hx hb hK hP hD hS 1 0 rfl rfl (rk_in c2_1 c8_3) dX0_remove_35 (fun H locs hP hD hS => ?_)
        have hP : va_P D vwCl [(h0, .inr (0, [.ref h1, .int tot])), (h1, .inl (cI, 11, .inl (upd f p0.toNatClampNeg ((f p0.toNatClampNeg) - 1))))] H := hP
        have hD : va_D A [(h0, .inr (0, [.ref h1, .int tot])), (h1, .inl (cI, 11, .inl (upd f p0.toNatClampNeg ((f p0.toNatClampNeg) - 1))))] := hD
        refine lv_aload_n hx hb dX0_remove_36 rfl (lv_at hl 1 rfl) ?_
        refine lv_dup hx hb dX0_remove_37 rfl ?_
        refine va_get (D := D) (ci := 0) (v := .int tot) (C := RX0) (T := TX0) (N := 2) hx hb hts in_X0_remove_X0 hown hK hP 0 rfl rfl 1 (by decide) (hts _ wd_X0_remove_1) (fun _ h9 => h9) rfl dX0_remove_38 ?_
        refine lv_iconst (v := 1) hx hb dX0_remove_41 (by decide) ?_
        refine lv_isub hx hb dX0_remove_42 ?_
        refine va_put (D := D) (ci := 0) (v := .int (tot - 1)) (ty := .int) (C := RX0) (T := TX0) (N := 2) hx hb hts in_X0_remove_X0 tyX0 tyX0_ok nmX0 hown hK hP hD hS 0 rfl rfl 1 (by decide) (hts _ wd_X0_remove_1) (fun _ h9 => h9) rfl (by decide +kernel) rfl rfl (Nat.le_of_ble_eq_true rfl) dX0_remove_43 (fun H locs hP hD hS => ?_)
        have hP : va_P D vwCl [(h0, .inr (0, [.ref h1, .int (tot - 1)])), (h1, .inl (cI, 11, .inl (upd f p0.toNatClampNeg ((f p0.toNatClampNeg) - 1))))] H := hP
        have hD : va_D A [(h0, .inr (0, [.ref h1, .int (tot - 1)])), (h1, .inl (cI, 11, .inl (upd f p0.toNatClampNeg ((f p0.toNatClampNeg) - 1))))] := hD
        refine lv_iload_n hx hb dX0_remove_46 rfl (lv_at hl 0 rfl) ?_
        have hP9 := hP.sub (ws' := [(h0, .inr (0, [.ref h1, .int (tot - 1)])), (h1, .inl (cI, 11, .inl (upd f p0.toNatClampNeg ((f p0.toNatClampNeg) - 1))))]) [0, 1] rfl
        have hD9 := hD.sub (ws' := [(h0, .inr (0, [.ref h1, .int (tot - 1)])), (h1, .inl (cI, 11, .inl (upd f p0.toNatClampNeg ((f p0.toNatClampNeg) - 1))))]) [0, 1] (by decide) rfl
        exact W.iret (v := (f p0.toNatClampNeg)) hx hb hr (fun t ht hW => ⟨⟨(f p0.toNatClampNeg), ((tot - 1), (upd f p0.toNatClampNeg ((f p0.toNatClampNeg) - 1))), rfl, (by simp [hdC, c2_1, c8_3, c23_5]), by rw [ht]; exact hP9, va_K.moved hW.alike hK, hD9⟩, hS.F ht⟩) hS.2.2 dX0_remove_47

set_option maxRecDepth 20000 in
theorem in_X0_rankAt_X0 : ∀ w ∈ wsX00, w ∈ wsX0_rankAt := by decide +kernel
set_option maxRecDepth 20000 in
theorem wd_X0_rankAt_0 : Cond.fieldLink RX0 9 "ShoeTable$Cards" "counts" "[I" ∈ wsX0_rankAt := by decide +kernel
set_option maxHeartbeats 400000 in
set_option maxRecDepth 100000 in
/-- X0_rankAt -/
theorem c_X0_rankAt (l : Launch) (D : va_G) (cI cJ cQ : ClassId) (h0 : Nat) (h1 : Nat) (tot : Int32) (f : Nat → Int32) (p0 : Int32)  : Met l yX0_rankAt wsX0_rankAt ({ frames := 0, cells := 0, slots := 0, locals := 0 }) (va_Pc [.ref h0, .int p0] (rP D (gTy cI cJ cQ) [(h0, .inr (0, [.ref h1, .int tot])), (h1, .inl (cI, 11, .inl f))])) (vp_Si (fun r => r = rkAt f p0)) 0 0 (fun _ => False) := by
  refine Met.ofW (cc := cX0_rankAt) (maxL := 4) (ret := (some .int)) (by decide) rfl ?_
  intro p e s m args below meth c s₁ B hml hv
  obtain ⟨rfl, hP, hK⟩ := hv
  have hx := B.exec
  have hb := B.bytes
  have hr := B.returns
  have hts := atoms_spec (ws := wsX0_rankAt) B.pre
  have hown : s.vm.findClass RX0 = some m.cls := findClass_of_methodNamed B.named
  have hlocks := B.notSynchronized
  have hl := lv_entry ([.ref h0, .int p0]) (n := 4) (Nat.le_of_ble_eq_true rfl)
  rw [lg_entry_eq]
  generalize (lg_sl ([.ref h0, .int p0]) ++ List.replicate (4 - (lg_sl ([.ref h0, .int p0])).length) Slot.unset).toArray = ls at hl ⊢
  have hl : lv_has ls 4 [(0, .ref h0), (1, .int p0)] := hl
  refine lv_iload_n hx hb dX0_rankAt_0 rfl (lv_at hl 1 rfl) ?_
  refine lv_istore_n (lv' := [(2, .int p0), (0, .ref h0), (1, .int p0)]) hx hb dX0_rankAt_1 rfl hl (by decide) rfl (fun ls hl => ?_)
  refine lv_iconst (v := 1) hx hb dX0_rankAt_2 (by decide) ?_
  refine lv_istore_n (lv' := [(3, .int 1), (2, .int p0), (0, .ref h0), (1, .int p0)]) hx hb dX0_rankAt_3 rfl hl (by decide) rfl (fun ls hl => ?_)
  refine lv_iload_n hx hb dX0_rankAt_4 rfl (lv_at hl 0 rfl) ?_
  refine lv_bipush (v := 10) hx hb dX0_rankAt_5 (by decide) ?_
  refine lv_icmp_ge (tgt := 37) hx hb dX0_rankAt_7 (by decide) (fun c7_1 => ?_) (fun c7_1 => ?_)
  · exact absurd c7_1 (by decide)
  refine lv_iload_n hx hb dX0_rankAt_10 rfl (lv_at hl 1 rfl) ?_
  refine lv_aload_n hx hb dX0_rankAt_11 rfl (lv_at hl 2 rfl) ?_
  refine va_get (D := D) (ci := 0) (v := .ref h1) (C := RX0) (T := TX0) (N := 2) hx hb hts in_X0_rankAt_X0 hown hK hP 0 rfl rfl 0 (by decide) (hts _ wd_X0_rankAt_0) (fun _ h9 => h9) rfl dX0_rankAt_12 ?_
  refine lv_iload_n hx hb dX0_rankAt_15 rfl (lv_at hl 0 rfl) ?_
  refine va_iald hx hb hK hP 1 0 rfl rfl (show ¬ ((1 : Int32) < 0 ∨ 11 ≤ (1 : Int32).toNatClampNeg) by decide) dX0_rankAt_16 ?_
  refine lv_topi (fun z_2 ez_2 => ?_)
  obtain rfl : z_2 = (f 1) := ez_2
  refine lv_icmp_ge (tgt := 22) hx hb dX0_rankAt_17 (by decide) (fun c17_3 => ?_) (fun c17_3 => ?_)
  · skip
    refine lv_iload_n hx hb dX0_rankAt_22 rfl (lv_at hl 1 rfl) ?_
    refine lv_aload_n hx hb dX0_rankAt_23 rfl (lv_at hl 2 rfl) ?_
    refine va_get (D := D) (ci := 0) (v := .ref h1) (C := RX0) (T := TX0) (N := 2) hx hb hts in_X0_rankAt_X0 hown hK hP 0 rfl rfl 0 (by decide) (hts _ wd_X0_rankAt_0) (fun _ h9 => h9) rfl dX0_rankAt_24 ?_
    refine lv_iload_n hx hb dX0_rankAt_27 rfl (lv_at hl 0 rfl) ?_
    refine va_iald hx hb hK hP 1 0 rfl rfl (show ¬ ((1 : Int32) < 0 ∨ 11 ≤ (1 : Int32).toNatClampNeg) by decide) dX0_rankAt_28 ?_
    refine lv_topi (fun z_4 ez_4 => ?_)
    obtain rfl : z_4 = (f 1) := ez_4
    refine lv_isub hx hb dX0_rankAt_29 ?_
    refine lv_istore_n (lv' := [(2, .int (p0 - (f 1))), (3, .int 1), (0, .ref h0), (1, .int p0)]) hx hb dX0_rankAt_30 rfl hl (by decide) rfl (fun ls hl => ?_)
    refine lv_iinc (v := 2) (lv' := [(3, .int 2), (2, .int (p0 - (f 1))), (0, .ref h0), (1, .int p0)]) hx hb dX0_rankAt_31 hl (k := 1) rfl (by decide) (by decide) rfl (fun ls hl => ?_)
    refine lv_goto (tgt := 4) hx hb dX0_rankAt_34 (by decide) ?_
    refine lv_iload_n hx hb dX0_rankAt_4 rfl (lv_at hl 0 rfl) ?_
    refine lv_bipush (v := 10) hx hb dX0_rankAt_5 (by decide) ?_
    refine lv_icmp_ge (tgt := 37) hx hb dX0_rankAt_7 (by decide) (fun c7_5 => ?_) (fun c7_5 => ?_)
    · exact absurd c7_5 (by decide)
    refine lv_iload_n hx hb dX0_rankAt_10 rfl (lv_at hl 1 rfl) ?_
    refine lv_aload_n hx hb dX0_rankAt_11 rfl (lv_at hl 2 rfl) ?_
    refine va_get (D := D) (ci := 0) (v := .ref h1) (C := RX0) (T := TX0) (N := 2) hx hb hts in_X0_rankAt_X0 hown hK hP 0 rfl rfl 0 (by decide) (hts _ wd_X0_rankAt_0) (fun _ h9 => h9) rfl dX0_rankAt_12 ?_
    refine lv_iload_n hx hb dX0_rankAt_15 rfl (lv_at hl 0 rfl) ?_
    refine va_iald hx hb hK hP 1 0 rfl rfl (show ¬ ((2 : Int32) < 0 ∨ 11 ≤ (2 : Int32).toNatClampNeg) by decide) dX0_rankAt_16 ?_
    refine lv_topi (fun z_6 ez_6 => ?_)
    obtain rfl : z_6 = (f 2) := ez_6
    refine lv_icmp_ge (tgt := 22) hx hb dX0_rankAt_17 (by decide) (fun c17_7 => ?_) (fun c17_7 => ?_)
    · skip
      refine lv_iload_n hx hb dX0_rankAt_22 rfl (lv_at hl 1 rfl) ?_
      refine lv_aload_n hx hb dX0_rankAt_23 rfl (lv_at hl 2 rfl) ?_
      refine va_get (D := D) (ci := 0) (v := .ref h1) (C := RX0) (T := TX0) (N := 2) hx hb hts in_X0_rankAt_X0 hown hK hP 0 rfl rfl 0 (by decide) (hts _ wd_X0_rankAt_0) (fun _ h9 => h9) rfl dX0_rankAt_24 ?_
      refine lv_iload_n hx hb dX0_rankAt_27 rfl (lv_at hl 0 rfl) ?_
      refine va_iald hx hb hK hP 1 0 rfl rfl (show ¬ ((2 : Int32) < 0 ∨ 11 ≤ (2 : Int32).toNatClampNeg) by decide) dX0_rankAt_28 ?_
      refine lv_topi (fun z_8 ez_8 => ?_)
      obtain rfl : z_8 = (f 2) := ez_8
      refine lv_isub hx hb dX0_rankAt_29 ?_
      refine lv_istore_n (lv' := [(2, .int ((p0 - (f 1)) - (f 2))), (3, .int 2), (0, .ref h0), (1, .int p0)]) hx hb dX0_rankAt_30 rfl hl (by decide) rfl (fun ls hl => ?_)
      refine lv_iinc (v := 3) (lv' := [(3, .int 3), (2, .int ((p0 - (f 1)) - (f 2))), (0, .ref h0), (1, .int p0)]) hx hb dX0_rankAt_31 hl (k := 1) rfl (by decide) (by decide) rfl (fun ls hl => ?_)
      refine lv_goto (tgt := 4) hx hb dX0_rankAt_34 (by decide) ?_
      refine lv_iload_n hx hb dX0_rankAt_4 rfl (lv_at hl 0 rfl) ?_
      refine lv_bipush (v := 10) hx hb dX0_rankAt_5 (by decide) ?_
      refine lv_icmp_ge (tgt := 37) hx hb dX0_rankAt_7 (by decide) (fun c7_9 => ?_) (fun c7_9 => ?_)
      · exact absurd c7_9 (by decide)
      refine lv_iload_n hx hb dX0_rankAt_10 rfl (lv_at hl 1 rfl) ?_
      refine lv_aload_n hx hb dX0_rankAt_11 rfl (lv_at hl 2 rfl) ?_
      refine va_get (D := D) (ci := 0) (v := .ref h1) (C := RX0) (T := TX0) (N := 2) hx hb hts in_X0_rankAt_X0 hown hK hP 0 rfl rfl 0 (by decide) (hts _ wd_X0_rankAt_0) (fun _ h9 => h9) rfl dX0_rankAt_12 ?_
      refine lv_iload_n hx hb dX0_rankAt_15 rfl (lv_at hl 0 rfl) ?_
      refine va_iald hx hb hK hP 1 0 rfl rfl (show ¬ ((3 : Int32) < 0 ∨ 11 ≤ (3 : Int32).toNatClampNeg) by decide) dX0_rankAt_16 ?_
      refine lv_topi (fun z_10 ez_10 => ?_)
      obtain rfl : z_10 = (f 3) := ez_10
      refine lv_icmp_ge (tgt := 22) hx hb dX0_rankAt_17 (by decide) (fun c17_11 => ?_) (fun c17_11 => ?_)
      · skip
        refine lv_iload_n hx hb dX0_rankAt_22 rfl (lv_at hl 1 rfl) ?_
        refine lv_aload_n hx hb dX0_rankAt_23 rfl (lv_at hl 2 rfl) ?_
        refine va_get (D := D) (ci := 0) (v := .ref h1) (C := RX0) (T := TX0) (N := 2) hx hb hts in_X0_rankAt_X0 hown hK hP 0 rfl rfl 0 (by decide) (hts _ wd_X0_rankAt_0) (fun _ h9 => h9) rfl dX0_rankAt_24 ?_
        refine lv_iload_n hx hb dX0_rankAt_27 rfl (lv_at hl 0 rfl) ?_
        refine va_iald hx hb hK hP 1 0 rfl rfl (show ¬ ((3 : Int32) < 0 ∨ 11 ≤ (3 : Int32).toNatClampNeg) by decide) dX0_rankAt_28 ?_
        refine lv_topi (fun z_12 ez_12 => ?_)
        obtain rfl : z_12 = (f 3) := ez_12
        refine lv_isub hx hb dX0_rankAt_29 ?_
        refine lv_istore_n (lv' := [(2, .int (((p0 - (f 1)) - (f 2)) - (f 3))), (3, .int 3), (0, .ref h0), (1, .int p0)]) hx hb dX0_rankAt_30 rfl hl (by decide) rfl (fun ls hl => ?_)
        refine lv_iinc (v := 4) (lv' := [(3, .int 4), (2, .int (((p0 - (f 1)) - (f 2)) - (f 3))), (0, .ref h0), (1, .int p0)]) hx hb dX0_rankAt_31 hl (k := 1) rfl (by decide) (by decide) rfl (fun ls hl => ?_)
        refine lv_goto (tgt := 4) hx hb dX0_rankAt_34 (by decide) ?_
        refine lv_iload_n hx hb dX0_rankAt_4 rfl (lv_at hl 0 rfl) ?_
        refine lv_bipush (v := 10) hx hb dX0_rankAt_5 (by decide) ?_
        refine lv_icmp_ge (tgt := 37) hx hb dX0_rankAt_7 (by decide) (fun c7_13 => ?_) (fun c7_13 => ?_)
        · exact absurd c7_13 (by decide)
        refine lv_iload_n hx hb dX0_rankAt_10 rfl (lv_at hl 1 rfl) ?_
        refine lv_aload_n hx hb dX0_rankAt_11 rfl (lv_at hl 2 rfl) ?_
        refine va_get (D := D) (ci := 0) (v := .ref h1) (C := RX0) (T := TX0) (N := 2) hx hb hts in_X0_rankAt_X0 hown hK hP 0 rfl rfl 0 (by decide) (hts _ wd_X0_rankAt_0) (fun _ h9 => h9) rfl dX0_rankAt_12 ?_
        refine lv_iload_n hx hb dX0_rankAt_15 rfl (lv_at hl 0 rfl) ?_
        refine va_iald hx hb hK hP 1 0 rfl rfl (show ¬ ((4 : Int32) < 0 ∨ 11 ≤ (4 : Int32).toNatClampNeg) by decide) dX0_rankAt_16 ?_
        refine lv_topi (fun z_14 ez_14 => ?_)
        obtain rfl : z_14 = (f 4) := ez_14
        refine lv_icmp_ge (tgt := 22) hx hb dX0_rankAt_17 (by decide) (fun c17_15 => ?_) (fun c17_15 => ?_)
        · skip
          refine lv_iload_n hx hb dX0_rankAt_22 rfl (lv_at hl 1 rfl) ?_
          refine lv_aload_n hx hb dX0_rankAt_23 rfl (lv_at hl 2 rfl) ?_
          refine va_get (D := D) (ci := 0) (v := .ref h1) (C := RX0) (T := TX0) (N := 2) hx hb hts in_X0_rankAt_X0 hown hK hP 0 rfl rfl 0 (by decide) (hts _ wd_X0_rankAt_0) (fun _ h9 => h9) rfl dX0_rankAt_24 ?_
          refine lv_iload_n hx hb dX0_rankAt_27 rfl (lv_at hl 0 rfl) ?_
          refine va_iald hx hb hK hP 1 0 rfl rfl (show ¬ ((4 : Int32) < 0 ∨ 11 ≤ (4 : Int32).toNatClampNeg) by decide) dX0_rankAt_28 ?_
          refine lv_topi (fun z_16 ez_16 => ?_)
          obtain rfl : z_16 = (f 4) := ez_16
          refine lv_isub hx hb dX0_rankAt_29 ?_
          refine lv_istore_n (lv' := [(2, .int ((((p0 - (f 1)) - (f 2)) - (f 3)) - (f 4))), (3, .int 4), (0, .ref h0), (1, .int p0)]) hx hb dX0_rankAt_30 rfl hl (by decide) rfl (fun ls hl => ?_)
          refine lv_iinc (v := 5) (lv' := [(3, .int 5), (2, .int ((((p0 - (f 1)) - (f 2)) - (f 3)) - (f 4))), (0, .ref h0), (1, .int p0)]) hx hb dX0_rankAt_31 hl (k := 1) rfl (by decide) (by decide) rfl (fun ls hl => ?_)
          refine lv_goto (tgt := 4) hx hb dX0_rankAt_34 (by decide) ?_
          refine lv_iload_n hx hb dX0_rankAt_4 rfl (lv_at hl 0 rfl) ?_
          refine lv_bipush (v := 10) hx hb dX0_rankAt_5 (by decide) ?_
          refine lv_icmp_ge (tgt := 37) hx hb dX0_rankAt_7 (by decide) (fun c7_17 => ?_) (fun c7_17 => ?_)
          · exact absurd c7_17 (by decide)
          refine lv_iload_n hx hb dX0_rankAt_10 rfl (lv_at hl 1 rfl) ?_
          refine lv_aload_n hx hb dX0_rankAt_11 rfl (lv_at hl 2 rfl) ?_
          refine va_get (D := D) (ci := 0) (v := .ref h1) (C := RX0) (T := TX0) (N := 2) hx hb hts in_X0_rankAt_X0 hown hK hP 0 rfl rfl 0 (by decide) (hts _ wd_X0_rankAt_0) (fun _ h9 => h9) rfl dX0_rankAt_12 ?_
          refine lv_iload_n hx hb dX0_rankAt_15 rfl (lv_at hl 0 rfl) ?_
          refine va_iald hx hb hK hP 1 0 rfl rfl (show ¬ ((5 : Int32) < 0 ∨ 11 ≤ (5 : Int32).toNatClampNeg) by decide) dX0_rankAt_16 ?_
          refine lv_topi (fun z_18 ez_18 => ?_)
          obtain rfl : z_18 = (f 5) := ez_18
          refine lv_icmp_ge (tgt := 22) hx hb dX0_rankAt_17 (by decide) (fun c17_19 => ?_) (fun c17_19 => ?_)
          · skip
            refine lv_iload_n hx hb dX0_rankAt_22 rfl (lv_at hl 1 rfl) ?_
            refine lv_aload_n hx hb dX0_rankAt_23 rfl (lv_at hl 2 rfl) ?_
            refine va_get (D := D) (ci := 0) (v := .ref h1) (C := RX0) (T := TX0) (N := 2) hx hb hts in_X0_rankAt_X0 hown hK hP 0 rfl rfl 0 (by decide) (hts _ wd_X0_rankAt_0) (fun _ h9 => h9) rfl dX0_rankAt_24 ?_
            refine lv_iload_n hx hb dX0_rankAt_27 rfl (lv_at hl 0 rfl) ?_
            refine va_iald hx hb hK hP 1 0 rfl rfl (show ¬ ((5 : Int32) < 0 ∨ 11 ≤ (5 : Int32).toNatClampNeg) by decide) dX0_rankAt_28 ?_
            refine lv_topi (fun z_20 ez_20 => ?_)
            obtain rfl : z_20 = (f 5) := ez_20
            refine lv_isub hx hb dX0_rankAt_29 ?_
            refine lv_istore_n (lv' := [(2, .int (((((p0 - (f 1)) - (f 2)) - (f 3)) - (f 4)) - (f 5))), (3, .int 5), (0, .ref h0), (1, .int p0)]) hx hb dX0_rankAt_30 rfl hl (by decide) rfl (fun ls hl => ?_)
            refine lv_iinc (v := 6) (lv' := [(3, .int 6), (2, .int (((((p0 - (f 1)) - (f 2)) - (f 3)) - (f 4)) - (f 5))), (0, .ref h0), (1, .int p0)]) hx hb dX0_rankAt_31 hl (k := 1) rfl (by decide) (by decide) rfl (fun ls hl => ?_)
            refine lv_goto (tgt := 4) hx hb dX0_rankAt_34 (by decide) ?_
            refine lv_iload_n hx hb dX0_rankAt_4 rfl (lv_at hl 0 rfl) ?_
            refine lv_bipush (v := 10) hx hb dX0_rankAt_5 (by decide) ?_
            refine lv_icmp_ge (tgt := 37) hx hb dX0_rankAt_7 (by decide) (fun c7_21 => ?_) (fun c7_21 => ?_)
            · exact absurd c7_21 (by decide)
            refine lv_iload_n hx hb dX0_rankAt_10 rfl (lv_at hl 1 rfl) ?_
            refine lv_aload_n hx hb dX0_rankAt_11 rfl (lv_at hl 2 rfl) ?_
            refine va_get (D := D) (ci := 0) (v := .ref h1) (C := RX0) (T := TX0) (N := 2) hx hb hts in_X0_rankAt_X0 hown hK hP 0 rfl rfl 0 (by decide) (hts _ wd_X0_rankAt_0) (fun _ h9 => h9) rfl dX0_rankAt_12 ?_
            refine lv_iload_n hx hb dX0_rankAt_15 rfl (lv_at hl 0 rfl) ?_
            refine va_iald hx hb hK hP 1 0 rfl rfl (show ¬ ((6 : Int32) < 0 ∨ 11 ≤ (6 : Int32).toNatClampNeg) by decide) dX0_rankAt_16 ?_
            refine lv_topi (fun z_22 ez_22 => ?_)
            obtain rfl : z_22 = (f 6) := ez_22
            refine lv_icmp_ge (tgt := 22) hx hb dX0_rankAt_17 (by decide) (fun c17_23 => ?_) (fun c17_23 => ?_)
            · skip
              refine lv_iload_n hx hb dX0_rankAt_22 rfl (lv_at hl 1 rfl) ?_
              refine lv_aload_n hx hb dX0_rankAt_23 rfl (lv_at hl 2 rfl) ?_
              refine va_get (D := D) (ci := 0) (v := .ref h1) (C := RX0) (T := TX0) (N := 2) hx hb hts in_X0_rankAt_X0 hown hK hP 0 rfl rfl 0 (by decide) (hts _ wd_X0_rankAt_0) (fun _ h9 => h9) rfl dX0_rankAt_24 ?_
              refine lv_iload_n hx hb dX0_rankAt_27 rfl (lv_at hl 0 rfl) ?_
              refine va_iald hx hb hK hP 1 0 rfl rfl (show ¬ ((6 : Int32) < 0 ∨ 11 ≤ (6 : Int32).toNatClampNeg) by decide) dX0_rankAt_28 ?_
              refine lv_topi (fun z_24 ez_24 => ?_)
              obtain rfl : z_24 = (f 6) := ez_24
              refine lv_isub hx hb dX0_rankAt_29 ?_
              refine lv_istore_n (lv' := [(2, .int ((((((p0 - (f 1)) - (f 2)) - (f 3)) - (f 4)) - (f 5)) - (f 6))), (3, .int 6), (0, .ref h0), (1, .int p0)]) hx hb dX0_rankAt_30 rfl hl (by decide) rfl (fun ls hl => ?_)
              refine lv_iinc (v := 7) (lv' := [(3, .int 7), (2, .int ((((((p0 - (f 1)) - (f 2)) - (f 3)) - (f 4)) - (f 5)) - (f 6))), (0, .ref h0), (1, .int p0)]) hx hb dX0_rankAt_31 hl (k := 1) rfl (by decide) (by decide) rfl (fun ls hl => ?_)
              refine lv_goto (tgt := 4) hx hb dX0_rankAt_34 (by decide) ?_
              refine lv_iload_n hx hb dX0_rankAt_4 rfl (lv_at hl 0 rfl) ?_
              refine lv_bipush (v := 10) hx hb dX0_rankAt_5 (by decide) ?_
              refine lv_icmp_ge (tgt := 37) hx hb dX0_rankAt_7 (by decide) (fun c7_25 => ?_) (fun c7_25 => ?_)
              · exact absurd c7_25 (by decide)
              refine lv_iload_n hx hb dX0_rankAt_10 rfl (lv_at hl 1 rfl) ?_
              refine lv_aload_n hx hb dX0_rankAt_11 rfl (lv_at hl 2 rfl) ?_
              refine va_get (D := D) (ci := 0) (v := .ref h1) (C := RX0) (T := TX0) (N := 2) hx hb hts in_X0_rankAt_X0 hown hK hP 0 rfl rfl 0 (by decide) (hts _ wd_X0_rankAt_0) (fun _ h9 => h9) rfl dX0_rankAt_12 ?_
              refine lv_iload_n hx hb dX0_rankAt_15 rfl (lv_at hl 0 rfl) ?_
              refine va_iald hx hb hK hP 1 0 rfl rfl (show ¬ ((7 : Int32) < 0 ∨ 11 ≤ (7 : Int32).toNatClampNeg) by decide) dX0_rankAt_16 ?_
              refine lv_topi (fun z_26 ez_26 => ?_)
              obtain rfl : z_26 = (f 7) := ez_26
              refine lv_icmp_ge (tgt := 22) hx hb dX0_rankAt_17 (by decide) (fun c17_27 => ?_) (fun c17_27 => ?_)
              · skip
                refine lv_iload_n hx hb dX0_rankAt_22 rfl (lv_at hl 1 rfl) ?_
                refine lv_aload_n hx hb dX0_rankAt_23 rfl (lv_at hl 2 rfl) ?_
                refine va_get (D := D) (ci := 0) (v := .ref h1) (C := RX0) (T := TX0) (N := 2) hx hb hts in_X0_rankAt_X0 hown hK hP 0 rfl rfl 0 (by decide) (hts _ wd_X0_rankAt_0) (fun _ h9 => h9) rfl dX0_rankAt_24 ?_
                refine lv_iload_n hx hb dX0_rankAt_27 rfl (lv_at hl 0 rfl) ?_
                refine va_iald hx hb hK hP 1 0 rfl rfl (show ¬ ((7 : Int32) < 0 ∨ 11 ≤ (7 : Int32).toNatClampNeg) by decide) dX0_rankAt_28 ?_
                refine lv_topi (fun z_28 ez_28 => ?_)
                obtain rfl : z_28 = (f 7) := ez_28
                refine lv_isub hx hb dX0_rankAt_29 ?_
                refine lv_istore_n (lv' := [(2, .int (((((((p0 - (f 1)) - (f 2)) - (f 3)) - (f 4)) - (f 5)) - (f 6)) - (f 7))), (3, .int 7), (0, .ref h0), (1, .int p0)]) hx hb dX0_rankAt_30 rfl hl (by decide) rfl (fun ls hl => ?_)
                refine lv_iinc (v := 8) (lv' := [(3, .int 8), (2, .int (((((((p0 - (f 1)) - (f 2)) - (f 3)) - (f 4)) - (f 5)) - (f 6)) - (f 7))), (0, .ref h0), (1, .int p0)]) hx hb dX0_rankAt_31 hl (k := 1) rfl (by decide) (by decide) rfl (fun ls hl => ?_)
                refine lv_goto (tgt := 4) hx hb dX0_rankAt_34 (by decide) ?_
                refine lv_iload_n hx hb dX0_rankAt_4 rfl (lv_at hl 0 rfl) ?_
                refine lv_bipush (v := 10) hx hb dX0_rankAt_5 (by decide) ?_
                refine lv_icmp_ge (tgt := 37) hx hb dX0_rankAt_7 (by decide) (fun c7_29 => ?_) (fun c7_29 => ?_)
                · exact absurd c7_29 (by decide)
                refine lv_iload_n hx hb dX0_rankAt_10 rfl (lv_at hl 1 rfl) ?_
                refine lv_aload_n hx hb dX0_rankAt_11 rfl (lv_at hl 2 rfl) ?_
                refine va_get (D := D) (ci := 0) (v := .ref h1) (C := RX0) (T := TX0) (N := 2) hx hb hts in_X0_rankAt_X0 hown hK hP 0 rfl rfl 0 (by decide) (hts _ wd_X0_rankAt_0) (fun _ h9 => h9) rfl dX0_rankAt_12 ?_
                refine lv_iload_n hx hb dX0_rankAt_15 rfl (lv_at hl 0 rfl) ?_
                refine va_iald hx hb hK hP 1 0 rfl rfl (show ¬ ((8 : Int32) < 0 ∨ 11 ≤ (8 : Int32).toNatClampNeg) by decide) dX0_rankAt_16 ?_
                refine lv_topi (fun z_30 ez_30 => ?_)
                obtain rfl : z_30 = (f 8) := ez_30
                refine lv_icmp_ge (tgt := 22) hx hb dX0_rankAt_17 (by decide) (fun c17_31 => ?_) (fun c17_31 => ?_)
                · skip
                  refine lv_iload_n hx hb dX0_rankAt_22 rfl (lv_at hl 1 rfl) ?_
                  refine lv_aload_n hx hb dX0_rankAt_23 rfl (lv_at hl 2 rfl) ?_
                  refine va_get (D := D) (ci := 0) (v := .ref h1) (C := RX0) (T := TX0) (N := 2) hx hb hts in_X0_rankAt_X0 hown hK hP 0 rfl rfl 0 (by decide) (hts _ wd_X0_rankAt_0) (fun _ h9 => h9) rfl dX0_rankAt_24 ?_
                  refine lv_iload_n hx hb dX0_rankAt_27 rfl (lv_at hl 0 rfl) ?_
                  refine va_iald hx hb hK hP 1 0 rfl rfl (show ¬ ((8 : Int32) < 0 ∨ 11 ≤ (8 : Int32).toNatClampNeg) by decide) dX0_rankAt_28 ?_
                  refine lv_topi (fun z_32 ez_32 => ?_)
                  obtain rfl : z_32 = (f 8) := ez_32
                  refine lv_isub hx hb dX0_rankAt_29 ?_
                  refine lv_istore_n (lv' := [(2, .int ((((((((p0 - (f 1)) - (f 2)) - (f 3)) - (f 4)) - (f 5)) - (f 6)) - (f 7)) - (f 8))), (3, .int 8), (0, .ref h0), (1, .int p0)]) hx hb dX0_rankAt_30 rfl hl (by decide) rfl (fun ls hl => ?_)
                  refine lv_iinc (v := 9) (lv' := [(3, .int 9), (2, .int ((((((((p0 - (f 1)) - (f 2)) - (f 3)) - (f 4)) - (f 5)) - (f 6)) - (f 7)) - (f 8))), (0, .ref h0), (1, .int p0)]) hx hb dX0_rankAt_31 hl (k := 1) rfl (by decide) (by decide) rfl (fun ls hl => ?_)
                  refine lv_goto (tgt := 4) hx hb dX0_rankAt_34 (by decide) ?_
                  refine lv_iload_n hx hb dX0_rankAt_4 rfl (lv_at hl 0 rfl) ?_
                  refine lv_bipush (v := 10) hx hb dX0_rankAt_5 (by decide) ?_
                  refine lv_icmp_ge (tgt := 37) hx hb dX0_rankAt_7 (by decide) (fun c7_33 => ?_) (fun c7_33 => ?_)
                  · exact absurd c7_33 (by decide)
                  refine lv_iload_n hx hb dX0_rankAt_10 rfl (lv_at hl 1 rfl) ?_
                  refine lv_aload_n hx hb dX0_rankAt_11 rfl (lv_at hl 2 rfl) ?_
                  refine va_get (D := D) (ci := 0) (v := .ref h1) (C := RX0) (T := TX0) (N := 2) hx hb hts in_X0_rankAt_X0 hown hK hP 0 rfl rfl 0 (by decide) (hts _ wd_X0_rankAt_0) (fun _ h9 => h9) rfl dX0_rankAt_12 ?_
                  refine lv_iload_n hx hb dX0_rankAt_15 rfl (lv_at hl 0 rfl) ?_
                  refine va_iald hx hb hK hP 1 0 rfl rfl (show ¬ ((9 : Int32) < 0 ∨ 11 ≤ (9 : Int32).toNatClampNeg) by decide) dX0_rankAt_16 ?_
                  refine lv_topi (fun z_34 ez_34 => ?_)
                  obtain rfl : z_34 = (f 9) := ez_34
                  refine lv_icmp_ge (tgt := 22) hx hb dX0_rankAt_17 (by decide) (fun c17_35 => ?_) (fun c17_35 => ?_)
                  · skip
                    refine lv_iload_n hx hb dX0_rankAt_22 rfl (lv_at hl 1 rfl) ?_
                    refine lv_aload_n hx hb dX0_rankAt_23 rfl (lv_at hl 2 rfl) ?_
                    refine va_get (D := D) (ci := 0) (v := .ref h1) (C := RX0) (T := TX0) (N := 2) hx hb hts in_X0_rankAt_X0 hown hK hP 0 rfl rfl 0 (by decide) (hts _ wd_X0_rankAt_0) (fun _ h9 => h9) rfl dX0_rankAt_24 ?_
                    refine lv_iload_n hx hb dX0_rankAt_27 rfl (lv_at hl 0 rfl) ?_
                    refine va_iald hx hb hK hP 1 0 rfl rfl (show ¬ ((9 : Int32) < 0 ∨ 11 ≤ (9 : Int32).toNatClampNeg) by decide) dX0_rankAt_28 ?_
                    refine lv_topi (fun z_36 ez_36 => ?_)
                    obtain rfl : z_36 = (f 9) := ez_36
                    refine lv_isub hx hb dX0_rankAt_29 ?_
                    refine lv_istore_n (lv' := [(2, .int (((((((((p0 - (f 1)) - (f 2)) - (f 3)) - (f 4)) - (f 5)) - (f 6)) - (f 7)) - (f 8)) - (f 9))), (3, .int 9), (0, .ref h0), (1, .int p0)]) hx hb dX0_rankAt_30 rfl hl (by decide) rfl (fun ls hl => ?_)
                    refine lv_iinc (v := 10) (lv' := [(3, .int 10), (2, .int (((((((((p0 - (f 1)) - (f 2)) - (f 3)) - (f 4)) - (f 5)) - (f 6)) - (f 7)) - (f 8)) - (f 9))), (0, .ref h0), (1, .int p0)]) hx hb dX0_rankAt_31 hl (k := 1) rfl (by decide) (by decide) rfl (fun ls hl => ?_)
                    refine lv_goto (tgt := 4) hx hb dX0_rankAt_34 (by decide) ?_
                    refine lv_iload_n hx hb dX0_rankAt_4 rfl (lv_at hl 0 rfl) ?_
                    refine lv_bipush (v := 10) hx hb dX0_rankAt_5 (by decide) ?_
                    refine lv_icmp_ge (tgt := 37) hx hb dX0_rankAt_7 (by decide) (fun c7_37 => ?_) (fun c7_37 => ?_)
                    · skip
                      refine lv_bipush (v := 10) hx hb dX0_rankAt_37 (by decide) ?_
                      exact W.iret (v := 10) hx hb hr (fun t ht hW => ⟨_, rfl, (by unfold rkAt; first | (simp [c17_3, c17_7, c17_11, c17_15, c17_19, c17_23, c17_27, c17_31, c17_35, c7_37]; done) | ((try first | rw [if_pos c17_3] | rw [if_neg c17_3]); (try first | rw [if_pos c17_7] | rw [if_neg c17_7]); (try first | rw [if_pos c17_11] | rw [if_neg c17_11]); (try first | rw [if_pos c17_15] | rw [if_neg c17_15]); (try first | rw [if_pos c17_19] | rw [if_neg c17_19]); (try first | rw [if_pos c17_23] | rw [if_neg c17_23]); (try first | rw [if_pos c17_27] | rw [if_neg c17_27]); (try first | rw [if_pos c17_31] | rw [if_neg c17_31]); (try first | rw [if_pos c17_35] | rw [if_neg c17_35]); (try first | rw [if_pos c7_37] | rw [if_neg c7_37]); first | done | rfl | trivial)), ht⟩) (fun q hq => absurd hq List.not_mem_nil) dX0_rankAt_39
                    · exact absurd c7_37 (by decide)
                  · skip
                    refine lv_iload_n hx hb dX0_rankAt_20 rfl (lv_at hl 0 rfl) ?_
                    exact W.iret (v := 9) hx hb hr (fun t ht hW => ⟨_, rfl, (by unfold rkAt; first | (simp [c17_3, c17_7, c17_11, c17_15, c17_19, c17_23, c17_27, c17_31, c17_35]; done) | ((try first | rw [if_pos c17_3] | rw [if_neg c17_3]); (try first | rw [if_pos c17_7] | rw [if_neg c17_7]); (try first | rw [if_pos c17_11] | rw [if_neg c17_11]); (try first | rw [if_pos c17_15] | rw [if_neg c17_15]); (try first | rw [if_pos c17_19] | rw [if_neg c17_19]); (try first | rw [if_pos c17_23] | rw [if_neg c17_23]); (try first | rw [if_pos c17_27] | rw [if_neg c17_27]); (try first | rw [if_pos c17_31] | rw [if_neg c17_31]); (try first | rw [if_pos c17_35] | rw [if_neg c17_35]); first | done | rfl | trivial)), ht⟩) (fun q hq => absurd hq List.not_mem_nil) dX0_rankAt_21
                · skip
                  refine lv_iload_n hx hb dX0_rankAt_20 rfl (lv_at hl 0 rfl) ?_
                  exact W.iret (v := 8) hx hb hr (fun t ht hW => ⟨_, rfl, (by unfold rkAt; first | (simp [c17_3, c17_7, c17_11, c17_15, c17_19, c17_23, c17_27, c17_31]; done) | ((try first | rw [if_pos c17_3] | rw [if_neg c17_3]); (try first | rw [if_pos c17_7] | rw [if_neg c17_7]); (try first | rw [if_pos c17_11] | rw [if_neg c17_11]); (try first | rw [if_pos c17_15] | rw [if_neg c17_15]); (try first | rw [if_pos c17_19] | rw [if_neg c17_19]); (try first | rw [if_pos c17_23] | rw [if_neg c17_23]); (try first | rw [if_pos c17_27] | rw [if_neg c17_27]); (try first | rw [if_pos c17_31] | rw [if_neg c17_31]); first | done | rfl | trivial)), ht⟩) (fun q hq => absurd hq List.not_mem_nil) dX0_rankAt_21
              · skip
                refine lv_iload_n hx hb dX0_rankAt_20 rfl (lv_at hl 0 rfl) ?_
                exact W.iret (v := 7) hx hb hr (fun t ht hW => ⟨_, rfl, (by unfold rkAt; first | (simp [c17_3, c17_7, c17_11, c17_15, c17_19, c17_23, c17_27]; done) | ((try first | rw [if_pos c17_3] | rw [if_neg c17_3]); (try first | rw [if_pos c17_7] | rw [if_neg c17_7]); (try first | rw [if_pos c17_11] | rw [if_neg c17_11]); (try first | rw [if_pos c17_15] | rw [if_neg c17_15]); (try first | rw [if_pos c17_19] | rw [if_neg c17_19]); (try first | rw [if_pos c17_23] | rw [if_neg c17_23]); (try first | rw [if_pos c17_27] | rw [if_neg c17_27]); first | done | rfl | trivial)), ht⟩) (fun q hq => absurd hq List.not_mem_nil) dX0_rankAt_21
            · skip
              refine lv_iload_n hx hb dX0_rankAt_20 rfl (lv_at hl 0 rfl) ?_
              exact W.iret (v := 6) hx hb hr (fun t ht hW => ⟨_, rfl, (by unfold rkAt; first | (simp [c17_3, c17_7, c17_11, c17_15, c17_19, c17_23]; done) | ((try first | rw [if_pos c17_3] | rw [if_neg c17_3]); (try first | rw [if_pos c17_7] | rw [if_neg c17_7]); (try first | rw [if_pos c17_11] | rw [if_neg c17_11]); (try first | rw [if_pos c17_15] | rw [if_neg c17_15]); (try first | rw [if_pos c17_19] | rw [if_neg c17_19]); (try first | rw [if_pos c17_23] | rw [if_neg c17_23]); first | done | rfl | trivial)), ht⟩) (fun q hq => absurd hq List.not_mem_nil) dX0_rankAt_21
          · skip
            refine lv_iload_n hx hb dX0_rankAt_20 rfl (lv_at hl 0 rfl) ?_
            exact W.iret (v := 5) hx hb hr (fun t ht hW => ⟨_, rfl, (by unfold rkAt; first | (simp [c17_3, c17_7, c17_11, c17_15, c17_19]; done) | ((try first | rw [if_pos c17_3] | rw [if_neg c17_3]); (try first | rw [if_pos c17_7] | rw [if_neg c17_7]); (try first | rw [if_pos c17_11] | rw [if_neg c17_11]); (try first | rw [if_pos c17_15] | rw [if_neg c17_15]); (try first | rw [if_pos c17_19] | rw [if_neg c17_19]); first | done | rfl | trivial)), ht⟩) (fun q hq => absurd hq List.not_mem_nil) dX0_rankAt_21
        · skip
          refine lv_iload_n hx hb dX0_rankAt_20 rfl (lv_at hl 0 rfl) ?_
          exact W.iret (v := 4) hx hb hr (fun t ht hW => ⟨_, rfl, (by unfold rkAt; first | (simp [c17_3, c17_7, c17_11, c17_15]; done) | ((try first | rw [if_pos c17_3] | rw [if_neg c17_3]); (try first | rw [if_pos c17_7] | rw [if_neg c17_7]); (try first | rw [if_pos c17_11] | rw [if_neg c17_11]); (try first | rw [if_pos c17_15] | rw [if_neg c17_15]); first | done | rfl | trivial)), ht⟩) (fun q hq => absurd hq List.not_mem_nil) dX0_rankAt_21
      · skip
        refine lv_iload_n hx hb dX0_rankAt_20 rfl (lv_at hl 0 rfl) ?_
        exact W.iret (v := 3) hx hb hr (fun t ht hW => ⟨_, rfl, (by unfold rkAt; first | (simp [c17_3, c17_7, c17_11]; done) | ((try first | rw [if_pos c17_3] | rw [if_neg c17_3]); (try first | rw [if_pos c17_7] | rw [if_neg c17_7]); (try first | rw [if_pos c17_11] | rw [if_neg c17_11]); first | done | rfl | trivial)), ht⟩) (fun q hq => absurd hq List.not_mem_nil) dX0_rankAt_21
    · skip
      refine lv_iload_n hx hb dX0_rankAt_20 rfl (lv_at hl 0 rfl) ?_
      exact W.iret (v := 2) hx hb hr (fun t ht hW => ⟨_, rfl, (by unfold rkAt; first | (simp [c17_3, c17_7]; done) | ((try first | rw [if_pos c17_3] | rw [if_neg c17_3]); (try first | rw [if_pos c17_7] | rw [if_neg c17_7]); first | done | rfl | trivial)), ht⟩) (fun q hq => absurd hq List.not_mem_nil) dX0_rankAt_21
  · skip
    refine lv_iload_n hx hb dX0_rankAt_20 rfl (lv_at hl 0 rfl) ?_
    exact W.iret (v := 1) hx hb hr (fun t ht hW => ⟨_, rfl, (by unfold rkAt; first | (simp [c17_3]; done) | ((try first | rw [if_pos c17_3] | rw [if_neg c17_3]); first | done | rfl | trivial)), ht⟩) (fun q hq => absurd hq List.not_mem_nil) dX0_rankAt_21

set_option maxRecDepth 20000 in
theorem in_X1_add_X1 : ∀ w ∈ wsX10, w ∈ wsX1_add := by decide +kernel
set_option maxRecDepth 20000 in
theorem wd_X1_add_0 : Cond.fieldLink RX1 15 "ShoeTable$Hand" "size" "I" ∈ wsX1_add := by decide +kernel
set_option maxRecDepth 20000 in
theorem wd_X1_add_1 : Cond.fieldLink RX1 9 "ShoeTable$Hand" "row" "[I" ∈ wsX1_add := by decide +kernel
set_option maxRecDepth 20000 in
theorem wd_X1_add_2 : Cond.fieldLink RX1 19 "ShoeTable$Hand" "sum" "I" ∈ wsX1_add := by decide +kernel
set_option maxRecDepth 20000 in
theorem wd_X1_add_3 : Cond.fieldLink RX1 22 "ShoeTable$Hand" "ace" "Z" ∈ wsX1_add := by decide +kernel
set_option maxHeartbeats 400000 in
set_option maxRecDepth 100000 in
/-- X1_add -/
theorem c_X1_add (l : Launch) (D : va_G) (cI cJ cQ : ClassId) (sz : Nat) (h0 : Nat) (h1 : Nat) (n0 : Int32) (sm : Int32) (ace : Bool) (g : Nat → Int32) (p0 : Int32) (hn0 : ¬ n0 < 0) : Met l yX1_add wsX1_add ({ frames := 0, cells := 0, slots := 0, locals := 0 }) (va_Pc [.ref h0, .int p0] (mP D (gTy cI cJ cQ) [(h0, .inr (1, [.ref h1, .int n0, .int sm, .int (bI ace)])), (h1, .inl (cI, 12, .inl g))] sz)) (va_Qv (fun (u : Int32 × Int32 × Bool × (Nat → Int32)) => match u with | (n2, sm2, ace2, g2) => if n0 < 12 then n2 = n0 + 1 ∧ sm2 = sm + p0 ∧ ace2 = (ace || decide (p0 = 1)) ∧ g2 = upd g n0.toNatClampNeg p0 else n2 = n0 ∧ sm2 = sm ∧ ace2 = ace ∧ g2 = g) (fun (u : Int32 × Int32 × Bool × (Nat → Int32)) t => match u with | (n2, sm2, ace2, g2) => mB D (gTy cI cJ cQ) (va_A [(h0, .inr (1, [.ref h1, .int n0, .int sm, .int (bI ace)])), (h1, .inl (cI, 12, .inl g))] sz) [(h0, .inr (1, [.ref h1, .int n2, .int sm2, .int (bI ace2)])), (h1, .inl (cI, 12, .inl g2))] t) (va_A [(h0, .inr (1, [.ref h1, .int n0, .int sm, .int (bI ace)])), (h1, .inl (cI, 12, .inl g))] sz)) 0 0 (va_A [(h0, .inr (1, [.ref h1, .int n0, .int sm, .int (bI ace)])), (h1, .inl (cI, 12, .inl g))] sz) := by
  refine Met.ofW (cc := cX1_add) (maxL := 2) (ret := none) (by decide) rfl ?_
  intro p e s m args below meth c s₁ B hml hv
  obtain ⟨rfl, hsz, hP, hK, hD0⟩ := hv
  have hx := B.exec
  have hb := B.bytes
  have hr := B.returns
  have hts := atoms_spec (ws := wsX1_add) B.pre
  have hown : s.vm.findClass RX1 = some m.cls := findClass_of_methodNamed B.named
  have hlocks := B.notSynchronized
  subst hsz
  have hD := hD0.self (sz := s.heap.size)
  generalize hAe : va_A [(h0, .inr (1, [.ref h1, .int n0, .int sm, .int (bI ace)])), (h1, .inl (cI, 12, .inl g))] s.heap.size = A at hD ⊢
  have hA : ∀ q : Nat, s.heap.size ≤ q → A q := fun q h => by rw [← hAe]; exact Or.inr h
  have hS : va_S A s.heap s.heap [] := va_S.rf
  have hP : va_P D vwCl [(h0, .inr (1, [.ref h1, .int n0, .int sm, .int (bI ace)])), (h1, .inl (cI, 12, .inl g))] s.heap := hP
  have hl := lv_entry ([.ref h0, .int p0]) (n := 2) (Nat.le_of_ble_eq_true rfl)
  rw [lg_entry_eq]
  generalize (lg_sl ([.ref h0, .int p0]) ++ List.replicate (2 - (lg_sl ([.ref h0, .int p0])).length) Slot.unset).toArray = ls at hl ⊢
  have hl : lv_has ls 2 [(0, .ref h0), (1, .int p0)] := hl
  refine lv_aload_n hx hb dX1_add_0 rfl (lv_at hl 0 rfl) ?_
  refine va_get (D := D) (ci := 1) (v := .int n0) (C := RX1) (T := TX1) (N := 4) hx hb hts in_X1_add_X1 hown hK hP 0 rfl rfl 1 (by decide) (hts _ wd_X1_add_0) (fun _ h9 => h9) rfl dX1_add_1 ?_
  refine lv_bipush (v := 12) hx hb dX1_add_4 (by decide) ?_
  refine lv_icmp_lt (tgt := 10) hx hb dX1_add_6 (by decide) (fun c6_1 => ?_) (fun c6_1 => ?_)
  · skip
    refine lv_aload_n hx hb dX1_add_10 rfl (lv_at hl 0 rfl) ?_
    refine va_get (D := D) (ci := 1) (v := .ref h1) (C := RX1) (T := TX1) (N := 4) hx hb hts in_X1_add_X1 hown hK hP 0 rfl rfl 0 (by decide) (hts _ wd_X1_add_1) (fun _ h9 => h9) rfl dX1_add_11 ?_
    refine lv_aload_n hx hb dX1_add_14 rfl (lv_at hl 0 rfl) ?_
    refine va_get (D := D) (ci := 1) (v := .int n0) (C := RX1) (T := TX1) (N := 4) hx hb hts in_X1_add_X1 hown hK hP 0 rfl rfl 1 (by decide) (hts _ wd_X1_add_0) (fun _ h9 => h9) rfl dX1_add_15 ?_
    refine lv_iload_n hx hb dX1_add_18 rfl (lv_at hl 1 rfl) ?_
    refine va_iast hx hb hK hP hD hS 1 0 rfl rfl (n12_in hn0 c6_1) dX1_add_19 (fun H locs hP hD hS => ?_)
    have hP : va_P D vwCl [(h0, .inr (1, [.ref h1, .int n0, .int sm, .int (bI ace)])), (h1, .inl (cI, 12, .inl (upd g n0.toNatClampNeg p0)))] H := hP
    have hD : va_D A [(h0, .inr (1, [.ref h1, .int n0, .int sm, .int (bI ace)])), (h1, .inl (cI, 12, .inl (upd g n0.toNatClampNeg p0)))] := hD
    refine lv_aload_n hx hb dX1_add_20 rfl (lv_at hl 0 rfl) ?_
    refine lv_dup hx hb dX1_add_21 rfl ?_
    refine va_get (D := D) (ci := 1) (v := .int n0) (C := RX1) (T := TX1) (N := 4) hx hb hts in_X1_add_X1 hown hK hP 0 rfl rfl 1 (by decide) (hts _ wd_X1_add_0) (fun _ h9 => h9) rfl dX1_add_22 ?_
    refine lv_iconst (v := 1) hx hb dX1_add_25 (by decide) ?_
    refine lv_iadd hx hb dX1_add_26 ?_
    refine va_put (D := D) (ci := 1) (v := .int (n0 + 1)) (ty := .int) (C := RX1) (T := TX1) (N := 4) hx hb hts in_X1_add_X1 tyX1 tyX1_ok nmX1 hown hK hP hD hS 0 rfl rfl 1 (by decide) (hts _ wd_X1_add_0) (fun _ h9 => h9) rfl (by decide +kernel) rfl rfl (Nat.le_of_ble_eq_true rfl) dX1_add_27 (fun H locs hP hD hS => ?_)
    have hP : va_P D vwCl [(h0, .inr (1, [.ref h1, .int (n0 + 1), .int sm, .int (bI ace)])), (h1, .inl (cI, 12, .inl (upd g n0.toNatClampNeg p0)))] H := hP
    have hD : va_D A [(h0, .inr (1, [.ref h1, .int (n0 + 1), .int sm, .int (bI ace)])), (h1, .inl (cI, 12, .inl (upd g n0.toNatClampNeg p0)))] := hD
    refine lv_aload_n hx hb dX1_add_30 rfl (lv_at hl 0 rfl) ?_
    refine lv_dup hx hb dX1_add_31 rfl ?_
    refine va_get (D := D) (ci := 1) (v := .int sm) (C := RX1) (T := TX1) (N := 4) hx hb hts in_X1_add_X1 hown hK hP 0 rfl rfl 2 (by decide) (hts _ wd_X1_add_2) (fun _ h9 => h9) rfl dX1_add_32 ?_
    refine lv_iload_n hx hb dX1_add_35 rfl (lv_at hl 1 rfl) ?_
    refine lv_iadd hx hb dX1_add_36 ?_
    refine va_put (D := D) (ci := 1) (v := .int (sm + p0)) (ty := .int) (C := RX1) (T := TX1) (N := 4) hx hb hts in_X1_add_X1 tyX1 tyX1_ok nmX1 hown hK hP hD hS 0 rfl rfl 2 (by decide) (hts _ wd_X1_add_2) (fun _ h9 => h9) rfl (by decide +kernel) rfl rfl (Nat.le_of_ble_eq_true rfl) dX1_add_37 (fun H locs hP hD hS => ?_)
    have hP : va_P D vwCl [(h0, .inr (1, [.ref h1, .int (n0 + 1), .int (sm + p0), .int (bI ace)])), (h1, .inl (cI, 12, .inl (upd g n0.toNatClampNeg p0)))] H := hP
    have hD : va_D A [(h0, .inr (1, [.ref h1, .int (n0 + 1), .int (sm + p0), .int (bI ace)])), (h1, .inl (cI, 12, .inl (upd g n0.toNatClampNeg p0)))] := hD
    refine lv_aload_n hx hb dX1_add_40 rfl (lv_at hl 0 rfl) ?_
    refine lv_aload_n hx hb dX1_add_41 rfl (lv_at hl 0 rfl) ?_
    refine va_get (D := D) (ci := 1) (v := .int (bI ace)) (C := RX1) (T := TX1) (N := 4) hx hb hts in_X1_add_X1 hown hK hP 0 rfl rfl 3 (by decide) (hts _ wd_X1_add_3) (fun _ h9 => h9) rfl dX1_add_42 ?_
    refine lv_if_ne (tgt := 53) hx hb dX1_add_45 (by decide) (fun c45_2 => ?_) (fun c45_2 => ?_)
    · skip
      refine lv_iconst (v := 1) hx hb dX1_add_53 (by decide) ?_
      refine lv_goto (tgt := 58) hx hb dX1_add_54 (by decide) ?_
      refine va_put (D := D) (ci := 1) (v := .int 1) (ty := .boolean) (C := RX1) (T := TX1) (N := 4) hx hb hts in_X1_add_X1 tyX1 tyX1_ok nmX1 hown hK hP hD hS 0 rfl rfl 3 (by decide) (hts _ wd_X1_add_3) (fun _ h9 => h9) rfl (by decide +kernel) rfl rfl (Nat.le_of_ble_eq_true rfl) dX1_add_58 (fun H locs hP hD hS => ?_)
      have hP : va_P D vwCl [(h0, .inr (1, [.ref h1, .int (n0 + 1), .int (sm + p0), .int 1])), (h1, .inl (cI, 12, .inl (upd g n0.toNatClampNeg p0)))] H := hP
      have hD : va_D A [(h0, .inr (1, [.ref h1, .int (n0 + 1), .int (sm + p0), .int 1])), (h1, .inl (cI, 12, .inl (upd g n0.toNatClampNeg p0)))] := hD
      have hP9 := hP.sub (ws' := [(h0, .inr (1, [.ref h1, .int (n0 + 1), .int (sm + p0), .int 1])), (h1, .inl (cI, 12, .inl (upd g n0.toNatClampNeg p0)))]) [0, 1] rfl
      have hD9 := hD.sub (ws' := [(h0, .inr (1, [.ref h1, .int (n0 + 1), .int (sm + p0), .int 1])), (h1, .inl (cI, 12, .inl (upd g n0.toNatClampNeg p0)))]) [0, 1] (by decide) rfl
      exact W.vret hx hb hr (fun t ht hW => ⟨⟨((n0 + 1), (sm + p0), true, (upd g n0.toNatClampNeg p0)), rfl, (by cases ace <;> simp_all [bI]), by rw [ht]; exact hP9, va_K.moved hW.alike hK, hD9⟩, hS.F ht⟩) hS.2.2 dX1_add_61
    · skip
      refine lv_iload_n hx hb dX1_add_48 rfl (lv_at hl 1 rfl) ?_
      refine lv_iconst (v := 1) hx hb dX1_add_49 (by decide) ?_
      refine lv_icmp_ne (tgt := 57) hx hb dX1_add_50 (by decide) (fun c50_3 => ?_) (fun c50_3 => ?_)
      · skip
        refine lv_iconst (v := 0) hx hb dX1_add_57 (by decide) ?_
        refine va_put (D := D) (ci := 1) (v := .int 0) (ty := .boolean) (C := RX1) (T := TX1) (N := 4) hx hb hts in_X1_add_X1 tyX1 tyX1_ok nmX1 hown hK hP hD hS 0 rfl rfl 3 (by decide) (hts _ wd_X1_add_3) (fun _ h9 => h9) rfl (by decide +kernel) rfl rfl (Nat.le_of_ble_eq_true rfl) dX1_add_58 (fun H locs hP hD hS => ?_)
        have hP : va_P D vwCl [(h0, .inr (1, [.ref h1, .int (n0 + 1), .int (sm + p0), .int 0])), (h1, .inl (cI, 12, .inl (upd g n0.toNatClampNeg p0)))] H := hP
        have hD : va_D A [(h0, .inr (1, [.ref h1, .int (n0 + 1), .int (sm + p0), .int 0])), (h1, .inl (cI, 12, .inl (upd g n0.toNatClampNeg p0)))] := hD
        have hP9 := hP.sub (ws' := [(h0, .inr (1, [.ref h1, .int (n0 + 1), .int (sm + p0), .int 0])), (h1, .inl (cI, 12, .inl (upd g n0.toNatClampNeg p0)))]) [0, 1] rfl
        have hD9 := hD.sub (ws' := [(h0, .inr (1, [.ref h1, .int (n0 + 1), .int (sm + p0), .int 0])), (h1, .inl (cI, 12, .inl (upd g n0.toNatClampNeg p0)))]) [0, 1] (by decide) rfl
        exact W.vret hx hb hr (fun t ht hW => ⟨⟨((n0 + 1), (sm + p0), false, (upd g n0.toNatClampNeg p0)), rfl, (by cases ace <;> simp_all [bI]), by rw [ht]; exact hP9, va_K.moved hW.alike hK, hD9⟩, hS.F ht⟩) hS.2.2 dX1_add_61
      · skip
        refine lv_iconst (v := 1) hx hb dX1_add_53 (by decide) ?_
        refine lv_goto (tgt := 58) hx hb dX1_add_54 (by decide) ?_
        refine va_put (D := D) (ci := 1) (v := .int 1) (ty := .boolean) (C := RX1) (T := TX1) (N := 4) hx hb hts in_X1_add_X1 tyX1 tyX1_ok nmX1 hown hK hP hD hS 0 rfl rfl 3 (by decide) (hts _ wd_X1_add_3) (fun _ h9 => h9) rfl (by decide +kernel) rfl rfl (Nat.le_of_ble_eq_true rfl) dX1_add_58 (fun H locs hP hD hS => ?_)
        have hP : va_P D vwCl [(h0, .inr (1, [.ref h1, .int (n0 + 1), .int (sm + p0), .int 1])), (h1, .inl (cI, 12, .inl (upd g n0.toNatClampNeg p0)))] H := hP
        have hD : va_D A [(h0, .inr (1, [.ref h1, .int (n0 + 1), .int (sm + p0), .int 1])), (h1, .inl (cI, 12, .inl (upd g n0.toNatClampNeg p0)))] := hD
        have hP9 := hP.sub (ws' := [(h0, .inr (1, [.ref h1, .int (n0 + 1), .int (sm + p0), .int 1])), (h1, .inl (cI, 12, .inl (upd g n0.toNatClampNeg p0)))]) [0, 1] rfl
        have hD9 := hD.sub (ws' := [(h0, .inr (1, [.ref h1, .int (n0 + 1), .int (sm + p0), .int 1])), (h1, .inl (cI, 12, .inl (upd g n0.toNatClampNeg p0)))]) [0, 1] (by decide) rfl
        exact W.vret hx hb hr (fun t ht hW => ⟨⟨((n0 + 1), (sm + p0), true, (upd g n0.toNatClampNeg p0)), rfl, (by cases ace <;> simp_all [bI]), by rw [ht]; exact hP9, va_K.moved hW.alike hK, hD9⟩, hS.F ht⟩) hS.2.2 dX1_add_61
  · skip
    have hP9 := hP.sub (ws' := [(h0, .inr (1, [.ref h1, .int n0, .int sm, .int (bI ace)])), (h1, .inl (cI, 12, .inl g))]) [0, 1] rfl
    have hD9 := hD.sub (ws' := [(h0, .inr (1, [.ref h1, .int n0, .int sm, .int (bI ace)])), (h1, .inl (cI, 12, .inl g))]) [0, 1] (by decide) rfl
    exact W.vret hx hb hr (fun t ht hW => ⟨⟨(n0, sm, ace, (g)), rfl, (by cases ace <;> simp_all [bI]), by rw [ht]; exact hP9, va_K.moved hW.alike hK, hD9⟩, hS.F ht⟩) hS.2.2 dX1_add_9

set_option maxRecDepth 20000 in
theorem in_X1_isPair_X1 : ∀ w ∈ wsX10, w ∈ wsX1_isPair := by decide +kernel
set_option maxRecDepth 20000 in
theorem wd_X1_isPair_0 : Cond.fieldLink RX1 15 "ShoeTable$Hand" "size" "I" ∈ wsX1_isPair := by decide +kernel
set_option maxRecDepth 20000 in
theorem wd_X1_isPair_1 : Cond.fieldLink RX1 9 "ShoeTable$Hand" "row" "[I" ∈ wsX1_isPair := by decide +kernel
set_option maxHeartbeats 400000 in
set_option maxRecDepth 100000 in
/-- X1_isPair -/
theorem c_X1_isPair (l : Launch) (D : va_G) (cI cJ cQ : ClassId) (h0 : Nat) (h1 : Nat) (n0 : Int32) (sm : Int32) (ace : Bool) (g : Nat → Int32)  : Met l yX1_isPair wsX1_isPair ({ frames := 0, cells := 0, slots := 0, locals := 0 }) (va_Pc [.ref h0] (rP D (gTy cI cJ cQ) [(h0, .inr (1, [.ref h1, .int n0, .int sm, .int (bI ace)])), (h1, .inl (cI, 12, .inl g))])) (vp_Si (fun r => r = if n0 = 2 then (if g 0 = g 1 then 1 else 0) else 0)) 0 0 (fun _ => False) := by
  refine Met.ofW (cc := cX1_isPair) (maxL := 1) (ret := (some .boolean)) (by decide) rfl ?_
  intro p e s m args below meth c s₁ B hml hv
  obtain ⟨rfl, hP, hK⟩ := hv
  have hx := B.exec
  have hb := B.bytes
  have hr := B.returns
  have hts := atoms_spec (ws := wsX1_isPair) B.pre
  have hown : s.vm.findClass RX1 = some m.cls := findClass_of_methodNamed B.named
  have hlocks := B.notSynchronized
  have hl := lv_entry ([.ref h0]) (n := 1) (Nat.le_of_ble_eq_true rfl)
  rw [lg_entry_eq]
  generalize (lg_sl ([.ref h0]) ++ List.replicate (1 - (lg_sl ([.ref h0])).length) Slot.unset).toArray = ls at hl ⊢
  have hl : lv_has ls 1 [(0, .ref h0)] := hl
  refine lv_aload_n hx hb dX1_isPair_0 rfl (lv_at hl 0 rfl) ?_
  refine va_get (D := D) (ci := 1) (v := .int n0) (C := RX1) (T := TX1) (N := 4) hx hb hts in_X1_isPair_X1 hown hK hP 0 rfl rfl 1 (by decide) (hts _ wd_X1_isPair_0) (fun _ h9 => h9) rfl dX1_isPair_1 ?_
  refine lv_iconst (v := 2) hx hb dX1_isPair_4 (by decide) ?_
  refine lv_icmp_ne (tgt := 27) hx hb dX1_isPair_5 (by decide) (fun c5_1 => ?_) (fun c5_1 => ?_)
  · skip
    refine lv_iconst (v := 0) hx hb dX1_isPair_27 (by decide) ?_
    exact W.zret (v := 0) hx hb hr rfl (fun t ht hW => ⟨_, rfl, (by first | rfl | trivial | (simp [c5_1]; done) | ((try first | rw [if_pos c5_1] | rw [if_neg c5_1]); first | done | rfl | trivial) | (simp_all; done)), ht⟩) (fun q hq => absurd hq List.not_mem_nil) dX1_isPair_28
  · skip
    refine lv_aload_n hx hb dX1_isPair_8 rfl (lv_at hl 0 rfl) ?_
    refine va_get (D := D) (ci := 1) (v := .ref h1) (C := RX1) (T := TX1) (N := 4) hx hb hts in_X1_isPair_X1 hown hK hP 0 rfl rfl 0 (by decide) (hts _ wd_X1_isPair_1) (fun _ h9 => h9) rfl dX1_isPair_9 ?_
    refine lv_iconst (v := 0) hx hb dX1_isPair_12 (by decide) ?_
    refine va_iald hx hb hK hP 1 0 rfl rfl (show ¬ ((0 : Int32) < 0 ∨ 12 ≤ (0 : Int32).toNatClampNeg) by decide) dX1_isPair_13 ?_
    refine lv_topi (fun z_2 ez_2 => ?_)
    obtain rfl : z_2 = (g 0) := ez_2
    refine lv_aload_n hx hb dX1_isPair_14 rfl (lv_at hl 0 rfl) ?_
    refine va_get (D := D) (ci := 1) (v := .ref h1) (C := RX1) (T := TX1) (N := 4) hx hb hts in_X1_isPair_X1 hown hK hP 0 rfl rfl 0 (by decide) (hts _ wd_X1_isPair_1) (fun _ h9 => h9) rfl dX1_isPair_15 ?_
    refine lv_iconst (v := 1) hx hb dX1_isPair_18 (by decide) ?_
    refine va_iald hx hb hK hP 1 0 rfl rfl (show ¬ ((1 : Int32) < 0 ∨ 12 ≤ (1 : Int32).toNatClampNeg) by decide) dX1_isPair_19 ?_
    refine lv_topi (fun z_3 ez_3 => ?_)
    obtain rfl : z_3 = (g 1) := ez_3
    refine lv_icmp_ne (tgt := 27) hx hb dX1_isPair_20 (by decide) (fun c20_4 => ?_) (fun c20_4 => ?_)
    · skip
      refine lv_iconst (v := 0) hx hb dX1_isPair_27 (by decide) ?_
      exact W.zret (v := 0) hx hb hr rfl (fun t ht hW => ⟨_, rfl, (by first | rfl | trivial | (simp [c5_1, c20_4]; done) | ((try first | rw [if_pos c5_1] | rw [if_neg c5_1]); (try first | rw [if_pos c20_4] | rw [if_neg c20_4]); first | done | rfl | trivial) | (simp_all; done)), ht⟩) (fun q hq => absurd hq List.not_mem_nil) dX1_isPair_28
    · skip
      refine lv_iconst (v := 1) hx hb dX1_isPair_23 (by decide) ?_
      refine lv_goto (tgt := 28) hx hb dX1_isPair_24 (by decide) ?_
      exact W.zret (v := 1) hx hb hr rfl (fun t ht hW => ⟨_, rfl, (by first | rfl | trivial | (simp [c5_1, c20_4]; done) | ((try first | rw [if_pos c5_1] | rw [if_neg c5_1]); (try first | rw [if_pos c20_4] | rw [if_neg c20_4]); first | done | rfl | trivial) | (simp_all; done)), ht⟩) (fun q hq => absurd hq List.not_mem_nil) dX1_isPair_28

set_option maxRecDepth 20000 in
theorem in_X4_doubles_X4 : ∀ w ∈ wsX40, w ∈ wsX4_doubles := by decide +kernel
set_option maxRecDepth 20000 in
theorem wd_X4_doubles_0 : Cond.fieldLink RX4 9 "ShoeTable$Rules" "now" "[I" ∈ wsX4_doubles := by decide +kernel
set_option maxHeartbeats 400000 in
set_option maxRecDepth 100000 in
/-- X4_doubles -/
theorem c_X4_doubles (l : Launch) (D : va_G) (cI cJ cQ : ClassId) (h0 : Nat) (h1 : Nat) (w : Nat → Int32)  : Met l yX4_doubles wsX4_doubles ({ frames := 0, cells := 0, slots := 0, locals := 0 }) (va_Pc [.ref h0] (rP D (gTy cI cJ cQ) [(h0, .inr (4, [.ref h1])), (h1, .inl (cI, 7, .inl w))])) (vp_Si (fun r => r = if w 3 = 1 then 1 else 0)) 0 0 (fun _ => False) := by
  refine Met.ofW (cc := cX4_doubles) (maxL := 1) (ret := (some .boolean)) (by decide) rfl ?_
  intro p e s m args below meth c s₁ B hml hv
  obtain ⟨rfl, hP, hK⟩ := hv
  have hx := B.exec
  have hb := B.bytes
  have hr := B.returns
  have hts := atoms_spec (ws := wsX4_doubles) B.pre
  have hown : s.vm.findClass RX4 = some m.cls := findClass_of_methodNamed B.named
  have hlocks := B.notSynchronized
  have hl := lv_entry ([.ref h0]) (n := 1) (Nat.le_of_ble_eq_true rfl)
  rw [lg_entry_eq]
  generalize (lg_sl ([.ref h0]) ++ List.replicate (1 - (lg_sl ([.ref h0])).length) Slot.unset).toArray = ls at hl ⊢
  have hl : lv_has ls 1 [(0, .ref h0)] := hl
  refine lv_aload_n hx hb dX4_doubles_0 rfl (lv_at hl 0 rfl) ?_
  refine va_get (D := D) (ci := 4) (v := .ref h1) (C := RX4) (T := TX4) (N := 1) hx hb hts in_X4_doubles_X4 hown hK hP 0 rfl rfl 0 (by decide) (hts _ wd_X4_doubles_0) (fun _ h9 => h9) rfl dX4_doubles_1 ?_
  refine lv_iconst (v := 3) hx hb dX4_doubles_4 (by decide) ?_
  refine va_iald hx hb hK hP 1 0 rfl rfl (show ¬ ((3 : Int32) < 0 ∨ 7 ≤ (3 : Int32).toNatClampNeg) by decide) dX4_doubles_5 ?_
  refine lv_topi (fun z_1 ez_1 => ?_)
  obtain rfl : z_1 = (w 3) := ez_1
  refine lv_iconst (v := 1) hx hb dX4_doubles_6 (by decide) ?_
  refine lv_icmp_ne (tgt := 14) hx hb dX4_doubles_7 (by decide) (fun c7_2 => ?_) (fun c7_2 => ?_)
  · skip
    refine lv_iconst (v := 0) hx hb dX4_doubles_14 (by decide) ?_
    exact W.zret (v := 0) hx hb hr rfl (fun t ht hW => ⟨_, rfl, (by first | rfl | trivial | (simp [c7_2]; done) | ((try first | rw [if_pos c7_2] | rw [if_neg c7_2]); first | done | rfl | trivial) | (simp_all; done)), ht⟩) (fun q hq => absurd hq List.not_mem_nil) dX4_doubles_15
  · skip
    refine lv_iconst (v := 1) hx hb dX4_doubles_10 (by decide) ?_
    refine lv_goto (tgt := 15) hx hb dX4_doubles_11 (by decide) ?_
    exact W.zret (v := 1) hx hb hr rfl (fun t ht hW => ⟨_, rfl, (by first | rfl | trivial | (simp [c7_2]; done) | ((try first | rw [if_pos c7_2] | rw [if_neg c7_2]); first | done | rfl | trivial) | (simp_all; done)), ht⟩) (fun q hq => absurd hq List.not_mem_nil) dX4_doubles_15

set_option maxRecDepth 20000 in
theorem in_X4_splits_X4 : ∀ w ∈ wsX40, w ∈ wsX4_splits := by decide +kernel
set_option maxRecDepth 20000 in
theorem wd_X4_splits_0 : Cond.fieldLink RX4 9 "ShoeTable$Rules" "now" "[I" ∈ wsX4_splits := by decide +kernel
set_option maxHeartbeats 400000 in
set_option maxRecDepth 100000 in
/-- X4_splits -/
theorem c_X4_splits (l : Launch) (D : va_G) (cI cJ cQ : ClassId) (h0 : Nat) (h1 : Nat) (w : Nat → Int32)  : Met l yX4_splits wsX4_splits ({ frames := 0, cells := 0, slots := 0, locals := 0 }) (va_Pc [.ref h0] (rP D (gTy cI cJ cQ) [(h0, .inr (4, [.ref h1])), (h1, .inl (cI, 7, .inl w))])) (vp_Si (fun r => r = if w 4 = 1 then 1 else 0)) 0 0 (fun _ => False) := by
  refine Met.ofW (cc := cX4_splits) (maxL := 1) (ret := (some .boolean)) (by decide) rfl ?_
  intro p e s m args below meth c s₁ B hml hv
  obtain ⟨rfl, hP, hK⟩ := hv
  have hx := B.exec
  have hb := B.bytes
  have hr := B.returns
  have hts := atoms_spec (ws := wsX4_splits) B.pre
  have hown : s.vm.findClass RX4 = some m.cls := findClass_of_methodNamed B.named
  have hlocks := B.notSynchronized
  have hl := lv_entry ([.ref h0]) (n := 1) (Nat.le_of_ble_eq_true rfl)
  rw [lg_entry_eq]
  generalize (lg_sl ([.ref h0]) ++ List.replicate (1 - (lg_sl ([.ref h0])).length) Slot.unset).toArray = ls at hl ⊢
  have hl : lv_has ls 1 [(0, .ref h0)] := hl
  refine lv_aload_n hx hb dX4_splits_0 rfl (lv_at hl 0 rfl) ?_
  refine va_get (D := D) (ci := 4) (v := .ref h1) (C := RX4) (T := TX4) (N := 1) hx hb hts in_X4_splits_X4 hown hK hP 0 rfl rfl 0 (by decide) (hts _ wd_X4_splits_0) (fun _ h9 => h9) rfl dX4_splits_1 ?_
  refine lv_iconst (v := 4) hx hb dX4_splits_4 (by decide) ?_
  refine va_iald hx hb hK hP 1 0 rfl rfl (show ¬ ((4 : Int32) < 0 ∨ 7 ≤ (4 : Int32).toNatClampNeg) by decide) dX4_splits_5 ?_
  refine lv_topi (fun z_1 ez_1 => ?_)
  obtain rfl : z_1 = (w 4) := ez_1
  refine lv_iconst (v := 1) hx hb dX4_splits_6 (by decide) ?_
  refine lv_icmp_ne (tgt := 14) hx hb dX4_splits_7 (by decide) (fun c7_2 => ?_) (fun c7_2 => ?_)
  · skip
    refine lv_iconst (v := 0) hx hb dX4_splits_14 (by decide) ?_
    exact W.zret (v := 0) hx hb hr rfl (fun t ht hW => ⟨_, rfl, (by first | rfl | trivial | (simp [c7_2]; done) | ((try first | rw [if_pos c7_2] | rw [if_neg c7_2]); first | done | rfl | trivial) | (simp_all; done)), ht⟩) (fun q hq => absurd hq List.not_mem_nil) dX4_splits_15
  · skip
    refine lv_iconst (v := 1) hx hb dX4_splits_10 (by decide) ?_
    refine lv_goto (tgt := 15) hx hb dX4_splits_11 (by decide) ?_
    exact W.zret (v := 1) hx hb hr rfl (fun t ht hW => ⟨_, rfl, (by first | rfl | trivial | (simp [c7_2]; done) | ((try first | rw [if_pos c7_2] | rw [if_neg c7_2]); first | done | rfl | trivial) | (simp_all; done)), ht⟩) (fun q hq => absurd hq List.not_mem_nil) dX4_splits_15

set_option maxRecDepth 20000 in
theorem in_X4_gives_X4 : ∀ w ∈ wsX40, w ∈ wsX4_gives := by decide +kernel
set_option maxRecDepth 20000 in
theorem wd_X4_gives_0 : Cond.fieldLink RX4 9 "ShoeTable$Rules" "now" "[I" ∈ wsX4_gives := by decide +kernel
set_option maxHeartbeats 400000 in
set_option maxRecDepth 100000 in
/-- X4_gives -/
theorem c_X4_gives (l : Launch) (D : va_G) (cI cJ cQ : ClassId) (h0 : Nat) (h1 : Nat) (w : Nat → Int32)  : Met l yX4_gives wsX4_gives ({ frames := 0, cells := 0, slots := 0, locals := 0 }) (va_Pc [.ref h0] (rP D (gTy cI cJ cQ) [(h0, .inr (4, [.ref h1])), (h1, .inl (cI, 7, .inl w))])) (vp_Si (fun r => r = if w 5 = 1 then 1 else 0)) 0 0 (fun _ => False) := by
  refine Met.ofW (cc := cX4_gives) (maxL := 1) (ret := (some .boolean)) (by decide) rfl ?_
  intro p e s m args below meth c s₁ B hml hv
  obtain ⟨rfl, hP, hK⟩ := hv
  have hx := B.exec
  have hb := B.bytes
  have hr := B.returns
  have hts := atoms_spec (ws := wsX4_gives) B.pre
  have hown : s.vm.findClass RX4 = some m.cls := findClass_of_methodNamed B.named
  have hlocks := B.notSynchronized
  have hl := lv_entry ([.ref h0]) (n := 1) (Nat.le_of_ble_eq_true rfl)
  rw [lg_entry_eq]
  generalize (lg_sl ([.ref h0]) ++ List.replicate (1 - (lg_sl ([.ref h0])).length) Slot.unset).toArray = ls at hl ⊢
  have hl : lv_has ls 1 [(0, .ref h0)] := hl
  refine lv_aload_n hx hb dX4_gives_0 rfl (lv_at hl 0 rfl) ?_
  refine va_get (D := D) (ci := 4) (v := .ref h1) (C := RX4) (T := TX4) (N := 1) hx hb hts in_X4_gives_X4 hown hK hP 0 rfl rfl 0 (by decide) (hts _ wd_X4_gives_0) (fun _ h9 => h9) rfl dX4_gives_1 ?_
  refine lv_iconst (v := 5) hx hb dX4_gives_4 (by decide) ?_
  refine va_iald hx hb hK hP 1 0 rfl rfl (show ¬ ((5 : Int32) < 0 ∨ 7 ≤ (5 : Int32).toNatClampNeg) by decide) dX4_gives_5 ?_
  refine lv_topi (fun z_1 ez_1 => ?_)
  obtain rfl : z_1 = (w 5) := ez_1
  refine lv_iconst (v := 1) hx hb dX4_gives_6 (by decide) ?_
  refine lv_icmp_ne (tgt := 14) hx hb dX4_gives_7 (by decide) (fun c7_2 => ?_) (fun c7_2 => ?_)
  · skip
    refine lv_iconst (v := 0) hx hb dX4_gives_14 (by decide) ?_
    exact W.zret (v := 0) hx hb hr rfl (fun t ht hW => ⟨_, rfl, (by first | rfl | trivial | (simp [c7_2]; done) | ((try first | rw [if_pos c7_2] | rw [if_neg c7_2]); first | done | rfl | trivial) | (simp_all; done)), ht⟩) (fun q hq => absurd hq List.not_mem_nil) dX4_gives_15
  · skip
    refine lv_iconst (v := 1) hx hb dX4_gives_10 (by decide) ?_
    refine lv_goto (tgt := 15) hx hb dX4_gives_11 (by decide) ?_
    exact W.zret (v := 1) hx hb hr rfl (fun t ht hW => ⟨_, rfl, (by first | rfl | trivial | (simp [c7_2]; done) | ((try first | rw [if_pos c7_2] | rw [if_neg c7_2]); first | done | rfl | trivial) | (simp_all; done)), ht⟩) (fun q hq => absurd hq List.not_mem_nil) dX4_gives_15

set_option maxRecDepth 20000 in
theorem in_X4_goesOn_X4 : ∀ w ∈ wsX40, w ∈ wsX4_goesOn := by decide +kernel
set_option maxRecDepth 20000 in
theorem wd_X4_goesOn_0 : Cond.fieldLink RX4 9 "ShoeTable$Rules" "now" "[I" ∈ wsX4_goesOn := by decide +kernel
set_option maxHeartbeats 400000 in
set_option maxRecDepth 100000 in
/-- X4_goesOn -/
theorem c_X4_goesOn (l : Launch) (D : va_G) (cI cJ cQ : ClassId) (h0 : Nat) (h1 : Nat) (w : Nat → Int32) (p0 : Int32) (p1 : Bool)  : Met l yX4_goesOn wsX4_goesOn ({ frames := 0, cells := 0, slots := 0, locals := 0 }) (va_Pc [.ref h0, .int p0, .int (bI p1)] (rP D (gTy cI cJ cQ) [(h0, .inr (4, [.ref h1])), (h1, .inl (cI, 7, .inl w))])) (vp_Si (fun r => r = if p0 < w 1 then 1 else if p0 = w 1 then (if bI p1 = 0 then 0 else if w 2 = 1 then 1 else 0) else 0)) 0 0 (fun _ => False) := by
  refine Met.ofW (cc := cX4_goesOn) (maxL := 3) (ret := (some .boolean)) (by decide) rfl ?_
  intro p e s m args below meth c s₁ B hml hv
  obtain ⟨rfl, hP, hK⟩ := hv
  have hx := B.exec
  have hb := B.bytes
  have hr := B.returns
  have hts := atoms_spec (ws := wsX4_goesOn) B.pre
  have hown : s.vm.findClass RX4 = some m.cls := findClass_of_methodNamed B.named
  have hlocks := B.notSynchronized
  have hl := lv_entry ([.ref h0, .int p0, .int (bI p1)]) (n := 3) (Nat.le_of_ble_eq_true rfl)
  rw [lg_entry_eq]
  generalize (lg_sl ([.ref h0, .int p0, .int (bI p1)]) ++ List.replicate (3 - (lg_sl ([.ref h0, .int p0, .int (bI p1)])).length) Slot.unset).toArray = ls at hl ⊢
  have hl : lv_has ls 3 [(0, .ref h0), (1, .int p0), (2, .int (bI p1))] := hl
  refine lv_iload_n hx hb dX4_goesOn_0 rfl (lv_at hl 1 rfl) ?_
  refine lv_aload_n hx hb dX4_goesOn_1 rfl (lv_at hl 0 rfl) ?_
  refine va_get (D := D) (ci := 4) (v := .ref h1) (C := RX4) (T := TX4) (N := 1) hx hb hts in_X4_goesOn_X4 hown hK hP 0 rfl rfl 0 (by decide) (hts _ wd_X4_goesOn_0) (fun _ h9 => h9) rfl dX4_goesOn_2 ?_
  refine lv_iconst (v := 1) hx hb dX4_goesOn_5 (by decide) ?_
  refine va_iald hx hb hK hP 1 0 rfl rfl (show ¬ ((1 : Int32) < 0 ∨ 7 ≤ (1 : Int32).toNatClampNeg) by decide) dX4_goesOn_6 ?_
  refine lv_topi (fun z_1 ez_1 => ?_)
  obtain rfl : z_1 = (w 1) := ez_1
  refine lv_icmp_lt (tgt := 34) hx hb dX4_goesOn_7 (by decide) (fun c7_2 => ?_) (fun c7_2 => ?_)
  · skip
    refine lv_iconst (v := 1) hx hb dX4_goesOn_34 (by decide) ?_
    refine lv_goto (tgt := 39) hx hb dX4_goesOn_35 (by decide) ?_
    exact W.zret (v := 1) hx hb hr rfl (fun t ht hW => ⟨_, rfl, (by first | rfl | trivial | (simp [c7_2]; done) | ((try first | rw [if_pos c7_2] | rw [if_neg c7_2]); first | done | rfl | trivial) | (simp_all; done)), ht⟩) (fun q hq => absurd hq List.not_mem_nil) dX4_goesOn_39
  · skip
    refine lv_iload_n hx hb dX4_goesOn_10 rfl (lv_at hl 1 rfl) ?_
    refine lv_aload_n hx hb dX4_goesOn_11 rfl (lv_at hl 0 rfl) ?_
    refine va_get (D := D) (ci := 4) (v := .ref h1) (C := RX4) (T := TX4) (N := 1) hx hb hts in_X4_goesOn_X4 hown hK hP 0 rfl rfl 0 (by decide) (hts _ wd_X4_goesOn_0) (fun _ h9 => h9) rfl dX4_goesOn_12 ?_
    refine lv_iconst (v := 1) hx hb dX4_goesOn_15 (by decide) ?_
    refine va_iald hx hb hK hP 1 0 rfl rfl (show ¬ ((1 : Int32) < 0 ∨ 7 ≤ (1 : Int32).toNatClampNeg) by decide) dX4_goesOn_16 ?_
    refine lv_topi (fun z_3 ez_3 => ?_)
    obtain rfl : z_3 = (w 1) := ez_3
    refine lv_icmp_ne (tgt := 38) hx hb dX4_goesOn_17 (by decide) (fun c17_4 => ?_) (fun c17_4 => ?_)
    · skip
      refine lv_iconst (v := 0) hx hb dX4_goesOn_38 (by decide) ?_
      exact W.zret (v := 0) hx hb hr rfl (fun t ht hW => ⟨_, rfl, (by first | rfl | trivial | (simp [c7_2, c17_4]; done) | ((try first | rw [if_pos c7_2] | rw [if_neg c7_2]); (try first | rw [if_pos c17_4] | rw [if_neg c17_4]); first | done | rfl | trivial) | (simp_all; done)), ht⟩) (fun q hq => absurd hq List.not_mem_nil) dX4_goesOn_39
    · skip
      refine lv_iload_n hx hb dX4_goesOn_20 rfl (lv_at hl 2 rfl) ?_
      refine lv_if_eq (tgt := 38) hx hb dX4_goesOn_21 (by decide) (fun c21_5 => ?_) (fun c21_5 => ?_)
      · skip
        refine lv_iconst (v := 0) hx hb dX4_goesOn_38 (by decide) ?_
        exact W.zret (v := 0) hx hb hr rfl (fun t ht hW => ⟨_, rfl, (by first | rfl | trivial | (simp [c7_2, c17_4, c21_5]; done) | ((try first | rw [if_pos c7_2] | rw [if_neg c7_2]); (try first | rw [if_pos c17_4] | rw [if_neg c17_4]); (try first | rw [if_pos c21_5] | rw [if_neg c21_5]); first | done | rfl | trivial) | (simp_all; done)), ht⟩) (fun q hq => absurd hq List.not_mem_nil) dX4_goesOn_39
      · skip
        refine lv_aload_n hx hb dX4_goesOn_24 rfl (lv_at hl 0 rfl) ?_
        refine va_get (D := D) (ci := 4) (v := .ref h1) (C := RX4) (T := TX4) (N := 1) hx hb hts in_X4_goesOn_X4 hown hK hP 0 rfl rfl 0 (by decide) (hts _ wd_X4_goesOn_0) (fun _ h9 => h9) rfl dX4_goesOn_25 ?_
        refine lv_iconst (v := 2) hx hb dX4_goesOn_28 (by decide) ?_
        refine va_iald hx hb hK hP 1 0 rfl rfl (show ¬ ((2 : Int32) < 0 ∨ 7 ≤ (2 : Int32).toNatClampNeg) by decide) dX4_goesOn_29 ?_
        refine lv_topi (fun z_6 ez_6 => ?_)
        obtain rfl : z_6 = (w 2) := ez_6
        refine lv_iconst (v := 1) hx hb dX4_goesOn_30 (by decide) ?_
        refine lv_icmp_ne (tgt := 38) hx hb dX4_goesOn_31 (by decide) (fun c31_7 => ?_) (fun c31_7 => ?_)
        · skip
          refine lv_iconst (v := 0) hx hb dX4_goesOn_38 (by decide) ?_
          exact W.zret (v := 0) hx hb hr rfl (fun t ht hW => ⟨_, rfl, (by first | rfl | trivial | (simp [c7_2, c17_4, c21_5, c31_7]; done) | ((try first | rw [if_pos c7_2] | rw [if_neg c7_2]); (try first | rw [if_pos c17_4] | rw [if_neg c17_4]); (try first | rw [if_pos c21_5] | rw [if_neg c21_5]); (try first | rw [if_pos c31_7] | rw [if_neg c31_7]); first | done | rfl | trivial) | (simp_all; done)), ht⟩) (fun q hq => absurd hq List.not_mem_nil) dX4_goesOn_39
        · skip
          refine lv_iconst (v := 1) hx hb dX4_goesOn_34 (by decide) ?_
          refine lv_goto (tgt := 39) hx hb dX4_goesOn_35 (by decide) ?_
          exact W.zret (v := 1) hx hb hr rfl (fun t ht hW => ⟨_, rfl, (by first | rfl | trivial | (simp [c7_2, c17_4, c21_5, c31_7]; done) | ((try first | rw [if_pos c7_2] | rw [if_neg c7_2]); (try first | rw [if_pos c17_4] | rw [if_neg c17_4]); (try first | rw [if_pos c21_5] | rw [if_neg c21_5]); (try first | rw [if_pos c31_7] | rw [if_neg c31_7]); first | done | rfl | trivial) | (simp_all; done)), ht⟩) (fun q hq => absurd hq List.not_mem_nil) dX4_goesOn_39

set_option maxRecDepth 20000 in
theorem in_X4_end_X4 : ∀ w ∈ wsX40, w ∈ wsX4_end := by decide +kernel
set_option maxRecDepth 20000 in
theorem wd_X4_end_0 : Cond.fieldLink RX4 9 "ShoeTable$Rules" "now" "[I" ∈ wsX4_end := by decide +kernel
set_option maxHeartbeats 400000 in
set_option maxRecDepth 100000 in
/-- X4_end -/
theorem c_X4_end (l : Launch) (D : va_G) (cI cJ cQ : ClassId) (h0 : Nat) (h1 : Nat) (w : Nat → Int32) (p0 : Int32)  : Met l yX4_end wsX4_end ({ frames := 0, cells := 0, slots := 0, locals := 0 }) (va_Pc [.ref h0, .int p0] (rP D (gTy cI cJ cQ) [(h0, .inr (4, [.ref h1])), (h1, .inl (cI, 7, .inl w))])) (vp_Si (fun r => r = if p0 ≤ w 0 then p0 else 0)) 0 0 (fun _ => False) := by
  refine Met.ofW (cc := cX4_end) (maxL := 2) (ret := (some .int)) (by decide) rfl ?_
  intro p e s m args below meth c s₁ B hml hv
  obtain ⟨rfl, hP, hK⟩ := hv
  have hx := B.exec
  have hb := B.bytes
  have hr := B.returns
  have hts := atoms_spec (ws := wsX4_end) B.pre
  have hown : s.vm.findClass RX4 = some m.cls := findClass_of_methodNamed B.named
  have hlocks := B.notSynchronized
  have hl := lv_entry ([.ref h0, .int p0]) (n := 2) (Nat.le_of_ble_eq_true rfl)
  rw [lg_entry_eq]
  generalize (lg_sl ([.ref h0, .int p0]) ++ List.replicate (2 - (lg_sl ([.ref h0, .int p0])).length) Slot.unset).toArray = ls at hl ⊢
  have hl : lv_has ls 2 [(0, .ref h0), (1, .int p0)] := hl
  refine lv_iload_n hx hb dX4_end_0 rfl (lv_at hl 1 rfl) ?_
  refine lv_aload_n hx hb dX4_end_1 rfl (lv_at hl 0 rfl) ?_
  refine va_get (D := D) (ci := 4) (v := .ref h1) (C := RX4) (T := TX4) (N := 1) hx hb hts in_X4_end_X4 hown hK hP 0 rfl rfl 0 (by decide) (hts _ wd_X4_end_0) (fun _ h9 => h9) rfl dX4_end_2 ?_
  refine lv_iconst (v := 0) hx hb dX4_end_5 (by decide) ?_
  refine va_iald hx hb hK hP 1 0 rfl rfl (show ¬ ((0 : Int32) < 0 ∨ 7 ≤ (0 : Int32).toNatClampNeg) by decide) dX4_end_6 ?_
  refine lv_topi (fun z_1 ez_1 => ?_)
  obtain rfl : z_1 = (w 0) := ez_1
  refine lv_icmp_le (tgt := 14) hx hb dX4_end_7 (by decide) (fun c7_2 => ?_) (fun c7_2 => ?_)
  · skip
    refine lv_iload_n hx hb dX4_end_14 rfl (lv_at hl 1 rfl) ?_
    exact W.iret (v := p0) hx hb hr (fun t ht hW => ⟨_, rfl, (by first | rfl | trivial | (simp [c7_2]; done) | ((try first | rw [if_pos c7_2] | rw [if_neg c7_2]); first | done | rfl | trivial) | (simp_all; done)), ht⟩) (fun q hq => absurd hq List.not_mem_nil) dX4_end_15
  · skip
    refine lv_iconst (v := 0) hx hb dX4_end_10 (by decide) ?_
    refine lv_goto (tgt := 15) hx hb dX4_end_11 (by decide) ?_
    exact W.iret (v := 0) hx hb hr (fun t ht hW => ⟨_, rfl, (by first | rfl | trivial | (simp [c7_2]; done) | ((try first | rw [if_pos c7_2] | rw [if_neg c7_2]); first | done | rfl | trivial) | (simp_all; done)), ht⟩) (fun q hq => absurd hq List.not_mem_nil) dX4_end_15

set_option maxRecDepth 20000 in
theorem in_X4_settled_X4 : ∀ w ∈ wsX40, w ∈ wsX4_settled := by decide +kernel
set_option maxRecDepth 20000 in
theorem wd_X4_settled_0 : Cond.fieldLink RX4 9 "ShoeTable$Rules" "now" "[I" ∈ wsX4_settled := by decide +kernel
set_option maxHeartbeats 400000 in
set_option maxRecDepth 100000 in
/-- X4_settled -/
theorem c_X4_settled (l : Launch) (D : va_G) (cI cJ cQ : ClassId) (h0 : Nat) (h1 : Nat) (w : Nat → Int32) (p0 : Int32) (p1 : Bool) (p2 : Int32)  : Met l yX4_settled wsX4_settled ({ frames := 0, cells := 0, slots := 0, locals := 0 }) (va_Pc [.ref h0, .int p0, .int (bI p1), .int p2] (rP D (gTy cI cJ cQ) [(h0, .inr (4, [.ref h1])), (h1, .inl (cI, 7, .inl w))])) (vp_Si (fun r => r = if w 0 < p0 then (-2) else if p2 ≤ p0 then (if p2 = p0 then 0 else if bI p1 = 0 then 2 else w 6) else (-2))) 0 0 (fun _ => False) := by
  refine Met.ofW (cc := cX4_settled) (maxL := 4) (ret := (some .int)) (by decide) rfl ?_
  intro p e s m args below meth c s₁ B hml hv
  obtain ⟨rfl, hP, hK⟩ := hv
  have hx := B.exec
  have hb := B.bytes
  have hr := B.returns
  have hts := atoms_spec (ws := wsX4_settled) B.pre
  have hown : s.vm.findClass RX4 = some m.cls := findClass_of_methodNamed B.named
  have hlocks := B.notSynchronized
  have hl := lv_entry ([.ref h0, .int p0, .int (bI p1), .int p2]) (n := 4) (Nat.le_of_ble_eq_true rfl)
  rw [lg_entry_eq]
  generalize (lg_sl ([.ref h0, .int p0, .int (bI p1), .int p2]) ++ List.replicate (4 - (lg_sl ([.ref h0, .int p0, .int (bI p1), .int p2])).length) Slot.unset).toArray = ls at hl ⊢
  have hl : lv_has ls 4 [(0, .ref h0), (1, .int p0), (2, .int (bI p1)), (3, .int p2)] := hl
  refine lv_iload_n hx hb dX4_settled_0 rfl (lv_at hl 1 rfl) ?_
  refine lv_aload_n hx hb dX4_settled_1 rfl (lv_at hl 0 rfl) ?_
  refine va_get (D := D) (ci := 4) (v := .ref h1) (C := RX4) (T := TX4) (N := 1) hx hb hts in_X4_settled_X4 hown hK hP 0 rfl rfl 0 (by decide) (hts _ wd_X4_settled_0) (fun _ h9 => h9) rfl dX4_settled_2 ?_
  refine lv_iconst (v := 0) hx hb dX4_settled_5 (by decide) ?_
  refine va_iald hx hb hK hP 1 0 rfl rfl (show ¬ ((0 : Int32) < 0 ∨ 7 ≤ (0 : Int32).toNatClampNeg) by decide) dX4_settled_6 ?_
  refine lv_topi (fun z_1 ez_1 => ?_)
  obtain rfl : z_1 = (w 0) := ez_1
  refine lv_icmp_gt (tgt := 15) hx hb dX4_settled_7 (by decide) (fun c7_2 => ?_) (fun c7_2 => ?_)
  · skip
    refine lv_bipush (v := (-2)) hx hb dX4_settled_15 (by decide) ?_
    exact W.iret (v := (-2)) hx hb hr (fun t ht hW => ⟨_, rfl, (by first | rfl | trivial | (simp [c7_2]; done) | ((try first | rw [if_pos c7_2] | rw [if_neg c7_2]); first | done | rfl | trivial) | (simp_all; done)), ht⟩) (fun q hq => absurd hq List.not_mem_nil) dX4_settled_17
  · skip
    refine lv_iload_n hx hb dX4_settled_10 rfl (lv_at hl 3 rfl) ?_
    refine lv_iload_n hx hb dX4_settled_11 rfl (lv_at hl 1 rfl) ?_
    refine lv_icmp_le (tgt := 18) hx hb dX4_settled_12 (by decide) (fun c12_3 => ?_) (fun c12_3 => ?_)
    · skip
      refine lv_iload_n hx hb dX4_settled_18 rfl (lv_at hl 3 rfl) ?_
      refine lv_iload_n hx hb dX4_settled_19 rfl (lv_at hl 1 rfl) ?_
      refine lv_icmp_ne (tgt := 25) hx hb dX4_settled_20 (by decide) (fun c20_4 => ?_) (fun c20_4 => ?_)
      · skip
        refine lv_iload_n hx hb dX4_settled_25 rfl (lv_at hl 2 rfl) ?_
        refine lv_if_eq (tgt := 39) hx hb dX4_settled_26 (by decide) (fun c26_5 => ?_) (fun c26_5 => ?_)
        · skip
          refine lv_iconst (v := 2) hx hb dX4_settled_39 (by decide) ?_
          exact W.iret (v := 2) hx hb hr (fun t ht hW => ⟨_, rfl, (by first | rfl | trivial | (simp [c7_2, c12_3, c20_4, c26_5]; done) | ((try first | rw [if_pos c7_2] | rw [if_neg c7_2]); (try first | rw [if_pos c12_3] | rw [if_neg c12_3]); (try first | rw [if_pos c20_4] | rw [if_neg c20_4]); (try first | rw [if_pos c26_5] | rw [if_neg c26_5]); first | done | rfl | trivial) | (simp_all; done)), ht⟩) (fun q hq => absurd hq List.not_mem_nil) dX4_settled_40
        · skip
          refine lv_aload_n hx hb dX4_settled_29 rfl (lv_at hl 0 rfl) ?_
          refine va_get (D := D) (ci := 4) (v := .ref h1) (C := RX4) (T := TX4) (N := 1) hx hb hts in_X4_settled_X4 hown hK hP 0 rfl rfl 0 (by decide) (hts _ wd_X4_settled_0) (fun _ h9 => h9) rfl dX4_settled_30 ?_
          refine lv_bipush (v := 6) hx hb dX4_settled_33 (by decide) ?_
          refine va_iald hx hb hK hP 1 0 rfl rfl (show ¬ ((6 : Int32) < 0 ∨ 7 ≤ (6 : Int32).toNatClampNeg) by decide) dX4_settled_35 ?_
          refine lv_topi (fun z_6 ez_6 => ?_)
          obtain rfl : z_6 = (w 6) := ez_6
          refine lv_goto (tgt := 40) hx hb dX4_settled_36 (by decide) ?_
          exact W.iret (v := (w 6)) hx hb hr (fun t ht hW => ⟨_, rfl, (by first | rfl | trivial | (simp [c7_2, c12_3, c20_4, c26_5]; done) | ((try first | rw [if_pos c7_2] | rw [if_neg c7_2]); (try first | rw [if_pos c12_3] | rw [if_neg c12_3]); (try first | rw [if_pos c20_4] | rw [if_neg c20_4]); (try first | rw [if_pos c26_5] | rw [if_neg c26_5]); first | done | rfl | trivial) | (simp_all; done)), ht⟩) (fun q hq => absurd hq List.not_mem_nil) dX4_settled_40
      · skip
        refine lv_iconst (v := 0) hx hb dX4_settled_23 (by decide) ?_
        exact W.iret (v := 0) hx hb hr (fun t ht hW => ⟨_, rfl, (by first | rfl | trivial | (simp [c7_2, c12_3, c20_4]; done) | ((try first | rw [if_pos c7_2] | rw [if_neg c7_2]); (try first | rw [if_pos c12_3] | rw [if_neg c12_3]); (try first | rw [if_pos c20_4] | rw [if_neg c20_4]); first | done | rfl | trivial) | (simp_all; done)), ht⟩) (fun q hq => absurd hq List.not_mem_nil) dX4_settled_24
    · skip
      refine lv_bipush (v := (-2)) hx hb dX4_settled_15 (by decide) ?_
      exact W.iret (v := (-2)) hx hb hr (fun t ht hW => ⟨_, rfl, (by first | rfl | trivial | (simp [c7_2, c12_3]; done) | ((try first | rw [if_pos c7_2] | rw [if_neg c7_2]); (try first | rw [if_pos c12_3] | rw [if_neg c12_3]); first | done | rfl | trivial) | (simp_all; done)), ht⟩) (fun q hq => absurd hq List.not_mem_nil) dX4_settled_17
