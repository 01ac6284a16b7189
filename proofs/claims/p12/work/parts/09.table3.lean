set_option maxHeartbeats 400000 in
set_option maxRecDepth 100000 in
/-- X4_value -/
theorem c_X4_valueV (l : Launch) (D : va_G) (cI cJ cQ : ClassId) (h0 : Nat) (h1 : Nat) (w : Nat → Int32) (p0 : Int32) (p1 : Bool)  : Met l yX4_value wsX4_value ({ frames := 0, cells := 0, slots := 0, locals := 0 }) (va_Pc [.ref h0, .int p0, .int (bI p1)] (rP D (gTy cI cJ cQ) [(h0, .inr (4, [.ref h1])), (h1, .inl (cI, 7, .inl w))])) (vp_Si (fun r => r = vlC w p0 p1)) 0 0 (fun _ => False) := by
  refine Met.ofW (cc := cX4_value) (maxL := 3) (ret := (some .int)) (by decide) rfl ?_
  intro p e s m args below meth c s₁ B hml hv
  obtain ⟨rfl, hP, hK⟩ := hv
  have hx := B.exec
  have hb := B.bytes
  have hr := B.returns
  have hts := atoms_spec (ws := wsX4_value) B.pre
  have hown : s.vm.findClass RX4 = some m.cls := findClass_of_methodNamed B.named
  have hlocks := B.notSynchronized
  have hl := lv_entry ([.ref h0, .int p0, .int (bI p1)]) (n := 3) (Nat.le_of_ble_eq_true rfl)
  rw [lg_entry_eq]
  generalize (lg_sl ([.ref h0, .int p0, .int (bI p1)]) ++ List.replicate (3 - (lg_sl ([.ref h0, .int p0, .int (bI p1)])).length) Slot.unset).toArray = ls at hl ⊢
  have hl : lv_has ls 3 [(0, .ref h0), (1, .int p0), (2, .int (bI p1))] := hl
  refine lv_iload_n hx hb dX4_value_0 rfl (lv_at hl 2 rfl) ?_
  refine lv_if_eq (tgt := 24) hx hb dX4_value_1 (by decide) (fun c1_1 => ?_) (fun c1_1 => ?_)
  · skip
    refine lv_iload_n hx hb dX4_value_24 rfl (lv_at hl 1 rfl) ?_
    exact W.iret (v := p0) hx hb hr (fun t ht hW => ⟨_, rfl, (by unfold vlC; first | (simp [c1_1]; done) | ((try first | rw [if_pos c1_1] | rw [if_neg c1_1]); first | done | rfl | trivial)), ht⟩) (fun q hq => absurd hq List.not_mem_nil) dX4_value_25
  · skip
    refine lv_iload_n hx hb dX4_value_4 rfl (lv_at hl 1 rfl) ?_
    refine lv_bipush (v := 10) hx hb dX4_value_5 (by decide) ?_
    refine lv_iadd hx hb dX4_value_7 ?_
    refine lv_aload_n hx hb dX4_value_8 rfl (lv_at hl 0 rfl) ?_
    refine va_get (D := D) (ci := 4) (v := .ref h1) (C := RX4) (T := TX4) (N := 1) hx hb hts in_X4_value_X4 hown hK hP 0 rfl rfl 0 (by decide) (hts _ wd_X4_value_0) (fun _ h9 => h9) rfl dX4_value_9 ?_
    refine lv_iconst (v := 0) hx hb dX4_value_12 (by decide) ?_
    refine va_iald hx hb hK hP 1 0 rfl rfl (show ¬ ((0 : Int32) < 0 ∨ 7 ≤ (0 : Int32).toNatClampNeg) by decide) dX4_value_13 ?_
    refine lv_topi (fun z_2 ez_2 => ?_)
    obtain rfl : z_2 = (w 0) := ez_2
    refine lv_icmp_gt (tgt := 24) hx hb dX4_value_14 (by decide) (fun c14_3 => ?_) (fun c14_3 => ?_)
    · skip
      refine lv_iload_n hx hb dX4_value_24 rfl (lv_at hl 1 rfl) ?_
      exact W.iret (v := p0) hx hb hr (fun t ht hW => ⟨_, rfl, (by unfold vlC; first | (simp [c1_1, c14_3]; done) | ((try first | rw [if_pos c1_1] | rw [if_neg c1_1]); (try first | rw [if_pos c14_3] | rw [if_neg c14_3]); first | done | rfl | trivial)), ht⟩) (fun q hq => absurd hq List.not_mem_nil) dX4_value_25
    · skip
      refine lv_iload_n hx hb dX4_value_17 rfl (lv_at hl 1 rfl) ?_
      refine lv_bipush (v := 10) hx hb dX4_value_18 (by decide) ?_
      refine lv_iadd hx hb dX4_value_20 ?_
      refine lv_goto (tgt := 25) hx hb dX4_value_21 (by decide) ?_
      exact W.iret (v := (p0 + 10)) hx hb hr (fun t ht hW => ⟨_, rfl, (by unfold vlC; first | (simp [c1_1, c14_3]; done) | ((try first | rw [if_pos c1_1] | rw [if_neg c1_1]); (try first | rw [if_pos c14_3] | rw [if_neg c14_3]); first | done | rfl | trivial)), ht⟩) (fun q hq => absurd hq List.not_mem_nil) dX4_value_25

set_option maxHeartbeats 400000 in
set_option maxRecDepth 100000 in
/-- X4_isSoft -/
theorem c_X4_isSoftV (l : Launch) (D : va_G) (cI cJ cQ : ClassId) (h0 : Nat) (h1 : Nat) (w : Nat → Int32) (p0 : Int32) (p1 : Bool)  : Met l yX4_isSoft wsX4_isSoft ({ frames := 0, cells := 0, slots := 0, locals := 0 }) (va_Pc [.ref h0, .int p0, .int (bI p1)] (rP D (gTy cI cJ cQ) [(h0, .inr (4, [.ref h1])), (h1, .inl (cI, 7, .inl w))])) (vp_Si (fun r => r = sfC w p0 p1)) 0 0 (fun _ => False) := by
  refine Met.ofW (cc := cX4_isSoft) (maxL := 3) (ret := (some .boolean)) (by decide) rfl ?_
  intro p e s m args below meth c s₁ B hml hv
  obtain ⟨rfl, hP, hK⟩ := hv
  have hx := B.exec
  have hb := B.bytes
  have hr := B.returns
  have hts := atoms_spec (ws := wsX4_isSoft) B.pre
  have hown : s.vm.findClass RX4 = some m.cls := findClass_of_methodNamed B.named
  have hlocks := B.notSynchronized
  have hl := lv_entry ([.ref h0, .int p0, .int (bI p1)]) (n := 3) (Nat.le_of_ble_eq_true rfl)
  rw [lg_entry_eq]
  generalize (lg_sl ([.ref h0, .int p0, .int (bI p1)]) ++ List.replicate (3 - (lg_sl ([.ref h0, .int p0, .int (bI p1)])).length) Slot.unset).toArray = ls at hl ⊢
  have hl : lv_has ls 3 [(0, .ref h0), (1, .int p0), (2, .int (bI p1))] := hl
  refine lv_iload_n hx hb dX4_isSoft_0 rfl (lv_at hl 2 rfl) ?_
  refine lv_if_eq (tgt := 21) hx hb dX4_isSoft_1 (by decide) (fun c1_1 => ?_) (fun c1_1 => ?_)
  · skip
    refine lv_iconst (v := 0) hx hb dX4_isSoft_21 (by decide) ?_
    exact W.zret (v := 0) hx hb hr rfl (fun t ht hW => ⟨_, rfl, (by unfold sfC; first | (simp [c1_1]; done) | ((try first | rw [if_pos c1_1] | rw [if_neg c1_1]); first | done | rfl | trivial)), ht⟩) (fun q hq => absurd hq List.not_mem_nil) dX4_isSoft_22
  · skip
    refine lv_iload_n hx hb dX4_isSoft_4 rfl (lv_at hl 1 rfl) ?_
    refine lv_bipush (v := 10) hx hb dX4_isSoft_5 (by decide) ?_
    refine lv_iadd hx hb dX4_isSoft_7 ?_
    refine lv_aload_n hx hb dX4_isSoft_8 rfl (lv_at hl 0 rfl) ?_
    refine va_get (D := D) (ci := 4) (v := .ref h1) (C := RX4) (T := TX4) (N := 1) hx hb hts in_X4_isSoft_X4 hown hK hP 0 rfl rfl 0 (by decide) (hts _ wd_X4_isSoft_0) (fun _ h9 => h9) rfl dX4_isSoft_9 ?_
    refine lv_iconst (v := 0) hx hb dX4_isSoft_12 (by decide) ?_
    refine va_iald hx hb hK hP 1 0 rfl rfl (show ¬ ((0 : Int32) < 0 ∨ 7 ≤ (0 : Int32).toNatClampNeg) by decide) dX4_isSoft_13 ?_
    refine lv_topi (fun z_2 ez_2 => ?_)
    obtain rfl : z_2 = (w 0) := ez_2
    refine lv_icmp_gt (tgt := 21) hx hb dX4_isSoft_14 (by decide) (fun c14_3 => ?_) (fun c14_3 => ?_)
    · skip
      refine lv_iconst (v := 0) hx hb dX4_isSoft_21 (by decide) ?_
      exact W.zret (v := 0) hx hb hr rfl (fun t ht hW => ⟨_, rfl, (by unfold sfC; first | (simp [c1_1, c14_3]; done) | ((try first | rw [if_pos c1_1] | rw [if_neg c1_1]); (try first | rw [if_pos c14_3] | rw [if_neg c14_3]); first | done | rfl | trivial)), ht⟩) (fun q hq => absurd hq List.not_mem_nil) dX4_isSoft_22
    · skip
      refine lv_iconst (v := 1) hx hb dX4_isSoft_17 (by decide) ?_
      refine lv_goto (tgt := 22) hx hb dX4_isSoft_18 (by decide) ?_
      exact W.zret (v := 1) hx hb hr rfl (fun t ht hW => ⟨_, rfl, (by unfold sfC; first | (simp [c1_1, c14_3]; done) | ((try first | rw [if_pos c1_1] | rw [if_neg c1_1]); (try first | rw [if_pos c14_3] | rw [if_neg c14_3]); first | done | rfl | trivial)), ht⟩) (fun q hq => absurd hq List.not_mem_nil) dX4_isSoft_22

set_option maxHeartbeats 400000 in
set_option maxRecDepth 100000 in
/-- X4_isBust -/
theorem c_X4_isBustV (l : Launch) (D : va_G) (cI cJ cQ : ClassId) (h0 : Nat) (h1 : Nat) (w : Nat → Int32) (p0 : Int32)  : Met l yX4_isBust wsX4_isBust ({ frames := 0, cells := 0, slots := 0, locals := 0 }) (va_Pc [.ref h0, .int p0] (rP D (gTy cI cJ cQ) [(h0, .inr (4, [.ref h1])), (h1, .inl (cI, 7, .inl w))])) (vp_Si (fun r => r = buC w p0)) 0 0 (fun _ => False) := by
  refine Met.ofW (cc := cX4_isBust) (maxL := 2) (ret := (some .boolean)) (by decide) rfl ?_
  intro p e s m args below meth c s₁ B hml hv
  obtain ⟨rfl, hP, hK⟩ := hv
  have hx := B.exec
  have hb := B.bytes
  have hr := B.returns
  have hts := atoms_spec (ws := wsX4_isBust) B.pre
  have hown : s.vm.findClass RX4 = some m.cls := findClass_of_methodNamed B.named
  have hlocks := B.notSynchronized
  have hl := lv_entry ([.ref h0, .int p0]) (n := 2) (Nat.le_of_ble_eq_true rfl)
  rw [lg_entry_eq]
  generalize (lg_sl ([.ref h0, .int p0]) ++ List.replicate (2 - (lg_sl ([.ref h0, .int p0])).length) Slot.unset).toArray = ls at hl ⊢
  have hl : lv_has ls 2 [(0, .ref h0), (1, .int p0)] := hl
  refine lv_iload_n hx hb dX4_isBust_0 rfl (lv_at hl 1 rfl) ?_
  refine lv_aload_n hx hb dX4_isBust_1 rfl (lv_at hl 0 rfl) ?_
  refine va_get (D := D) (ci := 4) (v := .ref h1) (C := RX4) (T := TX4) (N := 1) hx hb hts in_X4_isBust_X4 hown hK hP 0 rfl rfl 0 (by decide) (hts _ wd_X4_isBust_0) (fun _ h9 => h9) rfl dX4_isBust_2 ?_
  refine lv_iconst (v := 0) hx hb dX4_isBust_5 (by decide) ?_
  refine va_iald hx hb hK hP 1 0 rfl rfl (show ¬ ((0 : Int32) < 0 ∨ 7 ≤ (0 : Int32).toNatClampNeg) by decide) dX4_isBust_6 ?_
  refine lv_topi (fun z_1 ez_1 => ?_)
  obtain rfl : z_1 = (w 0) := ez_1
  refine lv_icmp_le (tgt := 14) hx hb dX4_isBust_7 (by decide) (fun c7_2 => ?_) (fun c7_2 => ?_)
  · skip
    refine lv_iconst (v := 0) hx hb dX4_isBust_14 (by decide) ?_
    exact W.zret (v := 0) hx hb hr rfl (fun t ht hW => ⟨_, rfl, (by unfold buC; first | (simp [c7_2]; done) | ((try first | rw [if_pos c7_2] | rw [if_neg c7_2]); first | done | rfl | trivial)), ht⟩) (fun q hq => absurd hq List.not_mem_nil) dX4_isBust_15
  · skip
    refine lv_iconst (v := 1) hx hb dX4_isBust_10 (by decide) ?_
    refine lv_goto (tgt := 15) hx hb dX4_isBust_11 (by decide) ?_
    exact W.zret (v := 1) hx hb hr rfl (fun t ht hW => ⟨_, rfl, (by unfold buC; first | (simp [c7_2]; done) | ((try first | rw [if_pos c7_2] | rw [if_neg c7_2]); first | done | rfl | trivial)), ht⟩) (fun q hq => absurd hq List.not_mem_nil) dX4_isBust_15

set_option maxHeartbeats 400000 in
set_option maxRecDepth 100000 in
/-- X4_isNatural -/
theorem c_X4_isNaturalV (l : Launch) (D : va_G) (cI cJ cQ : ClassId) (h0 : Nat) (h1 : Nat) (w : Nat → Int32) (p0 : Int32) (p1 : Int32)  : Met l yX4_isNatural wsX4_isNatural ({ frames := 0, cells := 0, slots := 0, locals := 0 }) (va_Pc [.ref h0, .int p0, .int p1] (rP D (gTy cI cJ cQ) [(h0, .inr (4, [.ref h1])), (h1, .inl (cI, 7, .inl w))])) (vp_Si (fun r => r = naC w p0 p1)) 0 0 (fun _ => False) := by
  refine Met.ofW (cc := cX4_isNatural) (maxL := 3) (ret := (some .boolean)) (by decide) rfl ?_
  intro p e s m args below meth c s₁ B hml hv
  obtain ⟨rfl, hP, hK⟩ := hv
  have hx := B.exec
  have hb := B.bytes
  have hr := B.returns
  have hts := atoms_spec (ws := wsX4_isNatural) B.pre
  have hown : s.vm.findClass RX4 = some m.cls := findClass_of_methodNamed B.named
  have hlocks := B.notSynchronized
  have hl := lv_entry ([.ref h0, .int p0, .int p1]) (n := 3) (Nat.le_of_ble_eq_true rfl)
  rw [lg_entry_eq]
  generalize (lg_sl ([.ref h0, .int p0, .int p1]) ++ List.replicate (3 - (lg_sl ([.ref h0, .int p0, .int p1])).length) Slot.unset).toArray = ls at hl ⊢
  have hl : lv_has ls 3 [(0, .ref h0), (1, .int p0), (2, .int p1)] := hl
  refine lv_iload_n hx hb dX4_isNatural_0 rfl (lv_at hl 2 rfl) ?_
  refine lv_iconst (v := 2) hx hb dX4_isNatural_1 (by decide) ?_
  refine lv_icmp_ne (tgt := 19) hx hb dX4_isNatural_2 (by decide) (fun c2_1 => ?_) (fun c2_1 => ?_)
  · skip
    refine lv_iconst (v := 0) hx hb dX4_isNatural_19 (by decide) ?_
    exact W.zret (v := 0) hx hb hr rfl (fun t ht hW => ⟨_, rfl, (by unfold naC; first | (simp [c2_1]; done) | ((try first | rw [if_pos c2_1] | rw [if_neg c2_1]); first | done | rfl | trivial)), ht⟩) (fun q hq => absurd hq List.not_mem_nil) dX4_isNatural_20
  · skip
    refine lv_iload_n hx hb dX4_isNatural_5 rfl (lv_at hl 1 rfl) ?_
    refine lv_aload_n hx hb dX4_isNatural_6 rfl (lv_at hl 0 rfl) ?_
    refine va_get (D := D) (ci := 4) (v := .ref h1) (C := RX4) (T := TX4) (N := 1) hx hb hts in_X4_isNatural_X4 hown hK hP 0 rfl rfl 0 (by decide) (hts _ wd_X4_isNatural_0) (fun _ h9 => h9) rfl dX4_isNatural_7 ?_
    refine lv_iconst (v := 0) hx hb dX4_isNatural_10 (by decide) ?_
    refine va_iald hx hb hK hP 1 0 rfl rfl (show ¬ ((0 : Int32) < 0 ∨ 7 ≤ (0 : Int32).toNatClampNeg) by decide) dX4_isNatural_11 ?_
    refine lv_topi (fun z_2 ez_2 => ?_)
    obtain rfl : z_2 = (w 0) := ez_2
    refine lv_icmp_ne (tgt := 19) hx hb dX4_isNatural_12 (by decide) (fun c12_3 => ?_) (fun c12_3 => ?_)
    · skip
      refine lv_iconst (v := 0) hx hb dX4_isNatural_19 (by decide) ?_
      exact W.zret (v := 0) hx hb hr rfl (fun t ht hW => ⟨_, rfl, (by unfold naC; first | (simp [c2_1, c12_3]; done) | ((try first | rw [if_pos c2_1] | rw [if_neg c2_1]); (try first | rw [if_pos c12_3] | rw [if_neg c12_3]); first | done | rfl | trivial)), ht⟩) (fun q hq => absurd hq List.not_mem_nil) dX4_isNatural_20
    · skip
      refine lv_iconst (v := 1) hx hb dX4_isNatural_15 (by decide) ?_
      refine lv_goto (tgt := 20) hx hb dX4_isNatural_16 (by decide) ?_
      exact W.zret (v := 1) hx hb hr rfl (fun t ht hW => ⟨_, rfl, (by unfold naC; first | (simp [c2_1, c12_3]; done) | ((try first | rw [if_pos c2_1] | rw [if_neg c2_1]); (try first | rw [if_pos c12_3] | rw [if_neg c12_3]); first | done | rfl | trivial)), ht⟩) (fun q hq => absurd hq List.not_mem_nil) dX4_isNatural_20

set_option maxRecDepth 20000 in
theorem in_X5_handValue_X5 : ∀ w ∈ wsX50, w ∈ wsX5_handValue := by decide +kernel
set_option maxRecDepth 20000 in
theorem wd_X5_handValue_0 : Cond.fieldLink RX5 10 "ShoeTable" "rules" "LShoeTable$Rules;" ∈ wsX5_handValue := by decide +kernel
set_option maxRecDepth 20000 in
theorem wd_X5_handValue_1 : Cond.fieldLink RX5 32 "ShoeTable" "hand" "LShoeTable$Hand;" ∈ wsX5_handValue := by decide +kernel
set_option maxRecDepth 20000 in
theorem in_X5_handValue_X1 : ∀ w ∈ wsX10, w ∈ wsX5_handValue := by decide +kernel
set_option maxRecDepth 20000 in
theorem wd_X5_handValue_2 : Cond.fieldLink RX5 122 "ShoeTable$Hand" "sum" "I" ∈ wsX5_handValue := by decide +kernel
set_option maxRecDepth 20000 in
theorem wd_X5_handValue_3 : Cond.fieldLink RX5 125 "ShoeTable$Hand" "ace" "Z" ∈ wsX5_handValue := by decide +kernel
set_option maxHeartbeats 400000 in
set_option maxRecDepth 100000 in
/-- X5_handValue -/
theorem c_X5_handValue (l : Launch) (D : va_G) (cI cJ cQ : ClassId) (h0 : Nat) (tr : Nat) (tc : Nat) (tg : Nat) (tf : Nat) (th : Nat) (tm : Nat) (to : Nat) (tp : Nat) (up : Int32) (bank : Int32) (chain : Int64) (told : Bool) (ur : Nat) (w : Nat → Int32) (uh : Nat) (n0 : Int32) (sm : Int32) (ace : Bool)  : Met l yX5_handValue wsX5_handValue ({ frames := 1, cells := 0, slots := 0, locals := 22 }) (va_Pc [.ref h0] (rP D (gTy cI cJ cQ) [(h0, .inr (5, [.ref tr, .ref tc, .ref tg, .ref tf, .ref th, .ref tm, .ref to, .ref tp, .int up, .int bank, .long chain, .int (bI told)])), (tr, .inr (4, [.ref ur])), (ur, .inl (cI, 7, .inl w)), (th, .inr (1, [.ref uh, .int n0, .int sm, .int (bI ace)]))])) (vp_Si (fun r => r = vlC w sm ace)) 0 0 (fun _ => False) := by
  refine Met.ofW (cc := cX5_handValue) (maxL := 1) (ret := (some .int)) (by decide) rfl ?_
  intro p e s m args below meth c s₁ B hml hv
  obtain ⟨rfl, hP, hK⟩ := hv
  have hx := B.exec
  have hb := B.bytes
  have hr := B.returns
  have hts := atoms_spec (ws := wsX5_handValue) B.pre
  have hown : s.vm.findClass RX5 = some m.cls := findClass_of_methodNamed B.named
  have hlocks := B.notSynchronized
  have hl := lv_entry ([.ref h0]) (n := 1) (Nat.le_of_ble_eq_true rfl)
  rw [lg_entry_eq]
  generalize (lg_sl ([.ref h0]) ++ List.replicate (1 - (lg_sl ([.ref h0])).length) Slot.unset).toArray = ls at hl ⊢
  have hl : lv_has ls 1 [(0, .ref h0)] := hl
  refine lv_aload_n hx hb dX5_handValue_0 rfl (lv_at hl 0 rfl) ?_
  refine va_get (D := D) (ci := 5) (v := .ref tr) (C := RX5) (T := TX5) (N := 12) hx hb hts in_X5_handValue_X5 hown hK hP 0 rfl rfl 0 (by decide) (hts _ wd_X5_handValue_0) (fun _ h9 => h9) rfl dX5_handValue_1 ?_
  refine lv_aload_n hx hb dX5_handValue_4 rfl (lv_at hl 0 rfl) ?_
  refine va_get (D := D) (ci := 5) (v := .ref th) (C := RX5) (T := TX5) (N := 12) hx hb hts in_X5_handValue_X5 hown hK hP 0 rfl rfl 4 (by decide) (hts _ wd_X5_handValue_1) (fun _ h9 => h9) rfl dX5_handValue_5 ?_
  refine va_get (D := D) (ci := 1) (v := .int sm) (C := RX1) (T := TX1) (N := 4) hx hb hts in_X5_handValue_X1 hown hK hP 3 rfl rfl 2 (by decide) (hts _ wd_X5_handValue_2) (fun _ h9 => h9) rfl dX5_handValue_8 ?_
  refine lv_aload_n hx hb dX5_handValue_11 rfl (lv_at hl 0 rfl) ?_
  refine va_get (D := D) (ci := 5) (v := .ref th) (C := RX5) (T := TX5) (N := 12) hx hb hts in_X5_handValue_X5 hown hK hP 0 rfl rfl 4 (by decide) (hts _ wd_X5_handValue_1) (fun _ h9 => h9) rfl dX5_handValue_12 ?_
  refine va_get (D := D) (ci := 1) (v := .int (bI ace)) (C := RX1) (T := TX1) (N := 4) hx hb hts in_X5_handValue_X1 hown hK hP 3 rfl rfl 3 (by decide) (hts _ wd_X5_handValue_3) (fun _ h9 => h9) rfl dX5_handValue_15 ?_
  have hPc := hP.sub (ws' := [(tr, .inr (4, [.ref ur])), (ur, .inl (cI, 7, .inl w))]) [1, 2] rfl
  refine vp_callSi (W.runV (As := [.int sm, .int (bI ace)]) (rest := []) ⟨hx, hb, hml, hown, hts⟩ (c_X4_valueV l D cI cJ cQ tr ur (w) sm ace) (cwV 2 hts gX5_handValue_X4_value rfl rfl rfl (by decide +kernel) ⟨Nat.le_of_ble_eq_true rfl, Nat.le_of_ble_eq_true rfl⟩) (rP_preV (ci := 4) (q0 := 0) hPc hK rfl rfl) rfl rfl hl.1 rfl (lv_room (Nat.le_of_ble_eq_true rfl)) dX5_handValue_18 ⟨Nat.le_of_ble_eq_true rfl, Nat.le_of_ble_eq_true rfl⟩) (fun r_1 hr_1 => ?_)
  subst hr_1
  exact W.iret (v := (vlC (w) sm ace)) hx hb hr (fun t ht hW => ⟨_, rfl, (by first | rfl | trivial | (simp []; done) | rfl | (simp_all; done)), ht⟩) (fun q hq => absurd hq List.not_mem_nil) dX5_handValue_21

set_option maxRecDepth 20000 in
theorem in_X5_countOfGone_X5 : ∀ w ∈ wsX50, w ∈ wsX5_countOfGone := by decide +kernel
set_option maxRecDepth 20000 in
theorem wd_X5_countOfGone_0 : Cond.fieldLink RX5 36 "ShoeTable" "marks" "[I" ∈ wsX5_countOfGone := by decide +kernel
set_option maxRecDepth 20000 in
theorem wd_X5_countOfGone_1 : Cond.fieldLink RX5 23 "ShoeTable" "gone" "LShoeTable$Cards;" ∈ wsX5_countOfGone := by decide +kernel
set_option maxHeartbeats 400000 in
set_option maxRecDepth 100000 in
/-- X5_countOfGone -/
theorem c_X5_countOfGone (l : Launch) (D : va_G) (cI cJ cQ : ClassId) (h0 : Nat) (tr : Nat) (tc : Nat) (tg : Nat) (tf : Nat) (th : Nat) (tm : Nat) (to : Nat) (tp : Nat) (up : Int32) (bank : Int32) (chain : Int64) (told : Bool) (ug : Nat) (totg : Int32) (fg : Nat → Int32) (mk : Nat → Int32)  : Met l yX5_countOfGone wsX5_countOfGone ({ frames := 1, cells := 0, slots := 0, locals := 21 }) (va_Pc [.ref h0] (rP D (gTy cI cJ cQ) [(h0, .inr (5, [.ref tr, .ref tc, .ref tg, .ref tf, .ref th, .ref tm, .ref to, .ref tp, .int up, .int bank, .long chain, .int (bI told)])), (tg, .inr (0, [.ref ug, .int totg])), (ug, .inl (cI, 11, .inl fg)), (tm, .inl (cI, 11, .inl mk))])) (vp_Si (fun r => r = cntG mk fg)) 0 0 (fun _ => False) := by
  refine Met.ofW (cc := cX5_countOfGone) (maxL := 3) (ret := (some .int)) (by decide) rfl ?_
  intro p e s m args below meth c s₁ B hml hv
  obtain ⟨rfl, hP, hK⟩ := hv
  have hx := B.exec
  have hb := B.bytes
  have hr := B.returns
  have hts := atoms_spec (ws := wsX5_countOfGone) B.pre
  have hown : s.vm.findClass RX5 = some m.cls := findClass_of_methodNamed B.named
  have hlocks := B.notSynchronized
  have hl := lv_entry ([.ref h0]) (n := 3) (Nat.le_of_ble_eq_true rfl)
  rw [lg_entry_eq]
  generalize (lg_sl ([.ref h0]) ++ List.replicate (3 - (lg_sl ([.ref h0])).length) Slot.unset).toArray = ls at hl ⊢
  have hl : lv_has ls 3 [(0, .ref h0)] := hl
  refine lv_iconst (v := 0) hx hb dX5_countOfGone_0 (by decide) ?_
  refine lv_istore_n (lv' := [(1, .int 0), (0, .ref h0)]) hx hb dX5_countOfGone_1 rfl hl (by decide) rfl (fun ls hl => ?_)
  refine lv_iconst (v := 1) hx hb dX5_countOfGone_2 (by decide) ?_
  refine lv_istore_n (lv' := [(2, .int 1), (1, .int 0), (0, .ref h0)]) hx hb dX5_countOfGone_3 rfl hl (by decide) rfl (fun ls hl => ?_)
  refine lv_iload_n hx hb dX5_countOfGone_4 rfl (lv_at hl 0 rfl) ?_
  refine lv_bipush (v := 10) hx hb dX5_countOfGone_5 (by decide) ?_
  refine lv_icmp_gt (tgt := 34) hx hb dX5_countOfGone_7 (by decide) (fun c7_1 => ?_) (fun c7_1 => ?_)
  · exact absurd c7_1 (by decide)
  refine lv_iload_n hx hb dX5_countOfGone_10 rfl (lv_at hl 1 rfl) ?_
  refine lv_aload_n hx hb dX5_countOfGone_11 rfl (lv_at hl 2 rfl) ?_
  refine va_get (D := D) (ci := 5) (v := .ref tm) (C := RX5) (T := TX5) (N := 12) hx hb hts in_X5_countOfGone_X5 hown hK hP 0 rfl rfl 5 (by decide) (hts _ wd_X5_countOfGone_0) (fun _ h9 => h9) rfl dX5_countOfGone_12 ?_
  refine lv_iload_n hx hb dX5_countOfGone_15 rfl (lv_at hl 0 rfl) ?_
  refine va_iald hx hb hK hP 3 0 rfl rfl (show ¬ ((1 : Int32) < 0 ∨ 11 ≤ (1 : Int32).toNatClampNeg) by decide) dX5_countOfGone_16 ?_
  refine lv_topi (fun z_2 ez_2 => ?_)
  obtain rfl : z_2 = (mk 1) := ez_2
  refine lv_aload_n hx hb dX5_countOfGone_17 rfl (lv_at hl 2 rfl) ?_
  refine va_get (D := D) (ci := 5) (v := .ref tg) (C := RX5) (T := TX5) (N := 12) hx hb hts in_X5_countOfGone_X5 hown hK hP 0 rfl rfl 2 (by decide) (hts _ wd_X5_countOfGone_1) (fun _ h9 => h9) rfl dX5_countOfGone_18 ?_
  refine lv_iload_n hx hb dX5_countOfGone_21 rfl (lv_at hl 0 rfl) ?_
  have hPc := hP.sub (ws' := [(tg, .inr (0, [.ref ug, .int totg])), (ug, .inl (cI, 11, .inl fg))]) [1, 2] rfl
  refine vp_callSi (W.runV (As := [.int 1]) (rest := [.int (mk 1), .int 0]) ⟨hx, hb, hml, hown, hts⟩ (c_X0_countV l D cI cJ cQ tg ug totg (fg) 1 (by decide)) (cwV 1 hts gX5_countOfGone_X0_count rfl rfl rfl (by decide +kernel) ⟨Nat.le_of_ble_eq_true rfl, Nat.le_of_ble_eq_true rfl⟩) (rP_preV (ci := 0) (q0 := 0) hPc hK rfl rfl) rfl rfl hl.1 rfl (lv_room (Nat.le_of_ble_eq_true rfl)) dX5_countOfGone_22 ⟨Nat.le_of_ble_eq_true rfl, Nat.le_of_ble_eq_true rfl⟩) (fun r_3 hr_3 => ?_)
  subst hr_3
  refine lv_imul hx hb dX5_countOfGone_25 ?_
  refine lv_iadd hx hb dX5_countOfGone_26 ?_
  refine lv_istore_n (lv' := [(1, .int (0 + ((mk 1) * ((fg) (1 : Int32).toNatClampNeg)))), (2, .int 1), (0, .ref h0)]) hx hb dX5_countOfGone_27 rfl hl (by decide) rfl (fun ls hl => ?_)
  refine lv_iinc (v := 2) (lv' := [(2, .int 2), (1, .int (0 + ((mk 1) * ((fg) (1 : Int32).toNatClampNeg)))), (0, .ref h0)]) hx hb dX5_countOfGone_28 hl (k := 1) rfl (by decide) (by decide) rfl (fun ls hl => ?_)
  refine lv_goto (tgt := 4) hx hb dX5_countOfGone_31 (by decide) ?_
  refine lv_iload_n hx hb dX5_countOfGone_4 rfl (lv_at hl 0 rfl) ?_
  refine lv_bipush (v := 10) hx hb dX5_countOfGone_5 (by decide) ?_
  refine lv_icmp_gt (tgt := 34) hx hb dX5_countOfGone_7 (by decide) (fun c7_4 => ?_) (fun c7_4 => ?_)
  · exact absurd c7_4 (by decide)
  refine lv_iload_n hx hb dX5_countOfGone_10 rfl (lv_at hl 1 rfl) ?_
  refine lv_aload_n hx hb dX5_countOfGone_11 rfl (lv_at hl 2 rfl) ?_
  refine va_get (D := D) (ci := 5) (v := .ref tm) (C := RX5) (T := TX5) (N := 12) hx hb hts in_X5_countOfGone_X5 hown hK hP 0 rfl rfl 5 (by decide) (hts _ wd_X5_countOfGone_0) (fun _ h9 => h9) rfl dX5_countOfGone_12 ?_
  refine lv_iload_n hx hb dX5_countOfGone_15 rfl (lv_at hl 0 rfl) ?_
  refine va_iald hx hb hK hP 3 0 rfl rfl (show ¬ ((2 : Int32) < 0 ∨ 11 ≤ (2 : Int32).toNatClampNeg) by decide) dX5_countOfGone_16 ?_
  refine lv_topi (fun z_5 ez_5 => ?_)
  obtain rfl : z_5 = (mk 2) := ez_5
  refine lv_aload_n hx hb dX5_countOfGone_17 rfl (lv_at hl 2 rfl) ?_
  refine va_get (D := D) (ci := 5) (v := .ref tg) (C := RX5) (T := TX5) (N := 12) hx hb hts in_X5_countOfGone_X5 hown hK hP 0 rfl rfl 2 (by decide) (hts _ wd_X5_countOfGone_1) (fun _ h9 => h9) rfl dX5_countOfGone_18 ?_
  refine lv_iload_n hx hb dX5_countOfGone_21 rfl (lv_at hl 0 rfl) ?_
  have hPc := hP.sub (ws' := [(tg, .inr (0, [.ref ug, .int totg])), (ug, .inl (cI, 11, .inl fg))]) [1, 2] rfl
  refine vp_callSi (W.runV (As := [.int 2]) (rest := [.int (mk 2), .int (0 + ((mk 1) * ((fg) (1 : Int32).toNatClampNeg)))]) ⟨hx, hb, hml, hown, hts⟩ (c_X0_countV l D cI cJ cQ tg ug totg (fg) 2 (by decide)) (cwV 1 hts gX5_countOfGone_X0_count rfl rfl rfl (by decide +kernel) ⟨Nat.le_of_ble_eq_true rfl, Nat.le_of_ble_eq_true rfl⟩) (rP_preV (ci := 0) (q0 := 0) hPc hK rfl rfl) rfl rfl hl.1 rfl (lv_room (Nat.le_of_ble_eq_true rfl)) dX5_countOfGone_22 ⟨Nat.le_of_ble_eq_true rfl, Nat.le_of_ble_eq_true rfl⟩) (fun r_6 hr_6 => ?_)
  subst hr_6
  refine lv_imul hx hb dX5_countOfGone_25 ?_
  refine lv_iadd hx hb dX5_countOfGone_26 ?_
  refine lv_istore_n (lv' := [(1, .int ((0 + ((mk 1) * ((fg) (1 : Int32).toNatClampNeg))) + ((mk 2) * ((fg) (2 : Int32).toNatClampNeg)))), (2, .int 2), (0, .ref h0)]) hx hb dX5_countOfGone_27 rfl hl (by decide) rfl (fun ls hl => ?_)
  refine lv_iinc (v := 3) (lv' := [(2, .int 3), (1, .int ((0 + ((mk 1) * ((fg) (1 : Int32).toNatClampNeg))) + ((mk 2) * ((fg) (2 : Int32).toNatClampNeg)))), (0, .ref h0)]) hx hb dX5_countOfGone_28 hl (k := 1) rfl (by decide) (by decide) rfl (fun ls hl => ?_)
  refine lv_goto (tgt := 4) hx hb dX5_countOfGone_31 (by decide) ?_
  refine lv_iload_n hx hb dX5_countOfGone_4 rfl (lv_at hl 0 rfl) ?_
  refine lv_bipush (v := 10) hx hb dX5_countOfGone_5 (by decide) ?_
  refine lv_icmp_gt (tgt := 34) hx hb dX5_countOfGone_7 (by decide) (fun c7_7 => ?_) (fun c7_7 => ?_)
  · exact absurd c7_7 (by decide)
  refine lv_iload_n hx hb dX5_countOfGone_10 rfl (lv_at hl 1 rfl) ?_
  refine lv_aload_n hx hb dX5_countOfGone_11 rfl (lv_at hl 2 rfl) ?_
  refine va_get (D := D) (ci := 5) (v := .ref tm) (C := RX5) (T := TX5) (N := 12) hx hb hts in_X5_countOfGone_X5 hown hK hP 0 rfl rfl 5 (by decide) (hts _ wd_X5_countOfGone_0) (fun _ h9 => h9) rfl dX5_countOfGone_12 ?_
  refine lv_iload_n hx hb dX5_countOfGone_15 rfl (lv_at hl 0 rfl) ?_
  refine va_iald hx hb hK hP 3 0 rfl rfl (show ¬ ((3 : Int32) < 0 ∨ 11 ≤ (3 : Int32).toNatClampNeg) by decide) dX5_countOfGone_16 ?_
  refine lv_topi (fun z_8 ez_8 => ?_)
  obtain rfl : z_8 = (mk 3) := ez_8
  refine lv_aload_n hx hb dX5_countOfGone_17 rfl (lv_at hl 2 rfl) ?_
  refine va_get (D := D) (ci := 5) (v := .ref tg) (C := RX5) (T := TX5) (N := 12) hx hb hts in_X5_countOfGone_X5 hown hK hP 0 rfl rfl 2 (by decide) (hts _ wd_X5_countOfGone_1) (fun _ h9 => h9) rfl dX5_countOfGone_18 ?_
  refine lv_iload_n hx hb dX5_countOfGone_21 rfl (lv_at hl 0 rfl) ?_
  have hPc := hP.sub (ws' := [(tg, .inr (0, [.ref ug, .int totg])), (ug, .inl (cI, 11, .inl fg))]) [1, 2] rfl
  refine vp_callSi (W.runV (As := [.int 3]) (rest := [.int (mk 3), .int ((0 + ((mk 1) * ((fg) (1 : Int32).toNatClampNeg))) + ((mk 2) * ((fg) (2 : Int32).toNatClampNeg)))]) ⟨hx, hb, hml, hown, hts⟩ (c_X0_countV l D cI cJ cQ tg ug totg (fg) 3 (by decide)) (cwV 1 hts gX5_countOfGone_X0_count rfl rfl rfl (by decide +kernel) ⟨Nat.le_of_ble_eq_true rfl, Nat.le_of_ble_eq_true rfl⟩) (rP_preV (ci := 0) (q0 := 0) hPc hK rfl rfl) rfl rfl hl.1 rfl (lv_room (Nat.le_of_ble_eq_true rfl)) dX5_countOfGone_22 ⟨Nat.le_of_ble_eq_true rfl, Nat.le_of_ble_eq_true rfl⟩) (fun r_9 hr_9 => ?_)
  subst hr_9
  refine lv_imul hx hb dX5_countOfGone_25 ?_
  refine lv_iadd hx hb dX5_countOfGone_26 ?_
  refine lv_istore_n (lv' := [(1, .int (((0 + ((mk 1) * ((fg) (1 : Int32).toNatClampNeg))) + ((mk 2) * ((fg) (2 : Int32).toNatClampNeg))) + ((mk 3) * ((fg) (3 : Int32).toNatClampNeg)))), (2, .int 3), (0, .ref h0)]) hx hb dX5_countOfGone_27 rfl hl (by decide) rfl (fun ls hl => ?_)
  refine lv_iinc (v := 4) (lv' := [(2, .int 4), (1, .int (((0 + ((mk 1) * ((fg) (1 : Int32).toNatClampNeg))) + ((mk 2) * ((fg) (2 : Int32).toNatClampNeg))) + ((mk 3) * ((fg) (3 : Int32).toNatClampNeg)))), (0, .ref h0)]) hx hb dX5_countOfGone_28 hl (k := 1) rfl (by decide) (by decide) rfl (fun ls hl => ?_)
  refine lv_goto (tgt := 4) hx hb dX5_countOfGone_31 (by decide) ?_
  refine lv_iload_n hx hb dX5_countOfGone_4 rfl (lv_at hl 0 rfl) ?_
  refine lv_bipush (v := 10) hx hb dX5_countOfGone_5 (by decide) ?_
  refine lv_icmp_gt (tgt := 34) hx hb dX5_countOfGone_7 (by decide) (fun c7_10 => ?_) (fun c7_10 => ?_)
  · exact absurd c7_10 (by decide)
  refine lv_iload_n hx hb dX5_countOfGone_10 rfl (lv_at hl 1 rfl) ?_
  refine lv_aload_n hx hb dX5_countOfGone_11 rfl (lv_at hl 2 rfl) ?_
  refine va_get (D := D) (ci := 5) (v := .ref tm) (C := RX5) (T := TX5) (N := 12) hx hb hts in_X5_countOfGone_X5 hown hK hP 0 rfl rfl 5 (by decide) (hts _ wd_X5_countOfGone_0) (fun _ h9 => h9) rfl dX5_countOfGone_12 ?_
  refine lv_iload_n hx hb dX5_countOfGone_15 rfl (lv_at hl 0 rfl) ?_
  refine va_iald hx hb hK hP 3 0 rfl rfl (show ¬ ((4 : Int32) < 0 ∨ 11 ≤ (4 : Int32).toNatClampNeg) by decide) dX5_countOfGone_16 ?_
  refine lv_topi (fun z_11 ez_11 => ?_)
  obtain rfl : z_11 = (mk 4) := ez_11
  refine lv_aload_n hx hb dX5_countOfGone_17 rfl (lv_at hl 2 rfl) ?_
  refine va_get (D := D) (ci := 5) (v := .ref tg) (C := RX5) (T := TX5) (N := 12) hx hb hts in_X5_countOfGone_X5 hown hK hP 0 rfl rfl 2 (by decide) (hts _ wd_X5_countOfGone_1) (fun _ h9 => h9) rfl dX5_countOfGone_18 ?_
  refine lv_iload_n hx hb dX5_countOfGone_21 rfl (lv_at hl 0 rfl) ?_
  have hPc := hP.sub (ws' := [(tg, .inr (0, [.ref ug, .int totg])), (ug, .inl (cI, 11, .inl fg))]) [1, 2] rfl
  refine vp_callSi (W.runV (As := [.int 4]) (rest := [.int (mk 4), .int (((0 + ((mk 1) * ((fg) (1 : Int32).toNatClampNeg))) + ((mk 2) * ((fg) (2 : Int32).toNatClampNeg))) + ((mk 3) * ((fg) (3 : Int32).toNatClampNeg)))]) ⟨hx, hb, hml, hown, hts⟩ (c_X0_countV l D cI cJ cQ tg ug totg (fg) 4 (by decide)) (cwV 1 hts gX5_countOfGone_X0_count rfl rfl rfl (by decide +kernel) ⟨Nat.le_of_ble_eq_true rfl, Nat.le_of_ble_eq_true rfl⟩) (rP_preV (ci := 0) (q0 := 0) hPc hK rfl rfl) rfl rfl hl.1 rfl (lv_room (Nat.le_of_ble_eq_true rfl)) dX5_countOfGone_22 ⟨Nat.le_of_ble_eq_true rfl, Nat.le_of_ble_eq_true rfl⟩) (fun r_12 hr_12 => ?_)
  subst hr_12
  refine lv_imul hx hb dX5_countOfGone_25 ?_
  refine lv_iadd hx hb dX5_countOfGone_26 ?_
  refine lv_istore_n (lv' := [(1, .int ((((0 + ((mk 1) * ((fg) (1 : Int32).toNatClampNeg))) + ((mk 2) * ((fg) (2 : Int32).toNatClampNeg))) + ((mk 3) * ((fg) (3 : Int32).toNatClampNeg))) + ((mk 4) * ((fg) (4 : Int32).toNatClampNeg)))), (2, .int 4), (0, .ref h0)]) hx hb dX5_countOfGone_27 rfl hl (by decide) rfl (fun ls hl => ?_)
  refine lv_iinc (v := 5) (lv' := [(2, .int 5), (1, .int ((((0 + ((mk 1) * ((fg) (1 : Int32).toNatClampNeg))) + ((mk 2) * ((fg) (2 : Int32).toNatClampNeg))) + ((mk 3) * ((fg) (3 : Int32).toNatClampNeg))) + ((mk 4) * ((fg) (4 : Int32).toNatClampNeg)))), (0, .ref h0)]) hx hb dX5_countOfGone_28 hl (k := 1) rfl (by decide) (by decide) rfl (fun ls hl => ?_)
  refine lv_goto (tgt := 4) hx hb dX5_countOfGone_31 (by decide) ?_
  refine lv_iload_n hx hb dX5_countOfGone_4 rfl (lv_at hl 0 rfl) ?_
  refine lv_bipush (v := 10) hx hb dX5_countOfGone_5 (by decide) ?_
  refine lv_icmp_gt (tgt := 34) hx hb dX5_countOfGone_7 (by decide) (fun c7_13 => ?_) (fun c7_13 => ?_)
  · exact absurd c7_13 (by decide)
  refine lv_iload_n hx hb dX5_countOfGone_10 rfl (lv_at hl 1 rfl) ?_
  refine lv_aload_n hx hb dX5_countOfGone_11 rfl (lv_at hl 2 rfl) ?_
  refine va_get (D := D) (ci := 5) (v := .ref tm) (C := RX5) (T := TX5) (N := 12) hx hb hts in_X5_countOfGone_X5 hown hK hP 0 rfl rfl 5 (by decide) (hts _ wd_X5_countOfGone_0) (fun _ h9 => h9) rfl dX5_countOfGone_12 ?_
  refine lv_iload_n hx hb dX5_countOfGone_15 rfl (lv_at hl 0 rfl) ?_
  refine va_iald hx hb hK hP 3 0 rfl rfl (show ¬ ((5 : Int32) < 0 ∨ 11 ≤ (5 : Int32).toNatClampNeg) by decide) dX5_countOfGone_16 ?_
  refine lv_topi (fun z_14 ez_14 => ?_)
  obtain rfl : z_14 = (mk 5) := ez_14
  refine lv_aload_n hx hb dX5_countOfGone_17 rfl (lv_at hl 2 rfl) ?_
  refine va_get (D := D) (ci := 5) (v := .ref tg) (C := RX5) (T := TX5) (N := 12) hx hb hts in_X5_countOfGone_X5 hown hK hP 0 rfl rfl 2 (by decide) (hts _ wd_X5_countOfGone_1) (fun _ h9 => h9) rfl dX5_countOfGone_18 ?_
  refine lv_iload_n hx hb dX5_countOfGone_21 rfl (lv_at hl 0 rfl) ?_
  have hPc := hP.sub (ws' := [(tg, .inr (0, [.ref ug, .int totg])), (ug, .inl (cI, 11, .inl fg))]) [1, 2] rfl
  refine vp_callSi (W.runV (As := [.int 5]) (rest := [.int (mk 5), .int ((((0 + ((mk 1) * ((fg) (1 : Int32).toNatClampNeg))) + ((mk 2) * ((fg) (2 : Int32).toNatClampNeg))) + ((mk 3) * ((fg) (3 : Int32).toNatClampNeg))) + ((mk 4) * ((fg) (4 : Int32).toNatClampNeg)))]) ⟨hx, hb, hml, hown, hts⟩ (c_X0_countV l D cI cJ cQ tg ug totg (fg) 5 (by decide)) (cwV 1 hts gX5_countOfGone_X0_count rfl rfl rfl (by decide +kernel) ⟨Nat.le_of_ble_eq_true rfl, Nat.le_of_ble_eq_true rfl⟩) (rP_preV (ci := 0) (q0 := 0) hPc hK rfl rfl) rfl rfl hl.1 rfl (lv_room (Nat.le_of_ble_eq_true rfl)) dX5_countOfGone_22 ⟨Nat.le_of_ble_eq_true rfl, Nat.le_of_ble_eq_true rfl⟩) (fun r_15 hr_15 => ?_)
  subst hr_15
  refine lv_imul hx hb dX5_countOfGone_25 ?_
  refine lv_iadd hx hb dX5_countOfGone_26 ?_
  refine lv_istore_n (lv' := [(1, .int (((((0 + ((mk 1) * ((fg) (1 : Int32).toNatClampNeg))) + ((mk 2) * ((fg) (2 : Int32).toNatClampNeg))) + ((mk 3) * ((fg) (3 : Int32).toNatClampNeg))) + ((mk 4) * ((fg) (4 : Int32).toNatClampNeg))) + ((mk 5) * ((fg) (5 : Int32).toNatClampNeg)))), (2, .int 5), (0, .ref h0)]) hx hb dX5_countOfGone_27 rfl hl (by decide) rfl (fun ls hl => ?_)
  refine lv_iinc (v := 6) (lv' := [(2, .int 6), (1, .int (((((0 + ((mk 1) * ((fg) (1 : Int32).toNatClampNeg))) + ((mk 2) * ((fg) (2 : Int32).toNatClampNeg))) + ((mk 3) * ((fg) (3 : Int32).toNatClampNeg))) + ((mk 4) * ((fg) (4 : Int32).toNatClampNeg))) + ((mk 5) * ((fg) (5 : Int32).toNatClampNeg)))), (0, .ref h0)]) hx hb dX5_countOfGone_28 hl (k := 1) rfl (by decide) (by decide) rfl (fun ls hl => ?_)
  refine lv_goto (tgt := 4) hx hb dX5_countOfGone_31 (by decide) ?_
  refine lv_iload_n hx hb dX5_countOfGone_4 rfl (lv_at hl 0 rfl) ?_
  refine lv_bipush (v := 10) hx hb dX5_countOfGone_5 (by decide) ?_
  refine lv_icmp_gt (tgt := 34) hx hb dX5_countOfGone_7 (by decide) (fun c7_16 => ?_) (fun c7_16 => ?_)
  · exact absurd c7_16 (by decide)
  refine lv_iload_n hx hb dX5_countOfGone_10 rfl (lv_at hl 1 rfl) ?_
  refine lv_aload_n hx hb dX5_countOfGone_11 rfl (lv_at hl 2 rfl) ?_
  refine va_get (D := D) (ci := 5) (v := .ref tm) (C := RX5) (T := TX5) (N := 12) hx hb hts in_X5_countOfGone_X5 hown hK hP 0 rfl rfl 5 (by decide) (hts _ wd_X5_countOfGone_0) (fun _ h9 => h9) rfl dX5_countOfGone_12 ?_
  refine lv_iload_n hx hb dX5_countOfGone_15 rfl (lv_at hl 0 rfl) ?_
  refine va_iald hx hb hK hP 3 0 rfl rfl (show ¬ ((6 : Int32) < 0 ∨ 11 ≤ (6 : Int32).toNatClampNeg) by decide) dX5_countOfGone_16 ?_
  refine lv_topi (fun z_17 ez_17 => ?_)
  obtain rfl : z_17 = (mk 6) := ez_17
  refine lv_aload_n hx hb dX5_countOfGone_17 rfl (lv_at hl 2 rfl) ?_
  refine va_get (D := D) (ci := 5) (v := .ref tg) (C := RX5) (T := TX5) (N := 12) hx hb hts in_X5_countOfGone_X5 hown hK hP 0 rfl rfl 2 (by decide) (hts _ wd_X5_countOfGone_1) (fun _ h9 => h9) rfl dX5_countOfGone_18 ?_
  refine lv_iload_n hx hb dX5_countOfGone_21 rfl (lv_at hl 0 rfl) ?_
  have hPc := hP.sub (ws' := [(tg, .inr (0, [.ref ug, .int totg])), (ug, .inl (cI, 11, .inl fg))]) [1, 2] rfl
  refine vp_callSi (W.runV (As := [.int 6]) (rest := [.int (mk 6), .int (((((0 + ((mk 1) * ((fg) (1 : Int32).toNatClampNeg))) + ((mk 2) * ((fg) (2 : Int32).toNatClampNeg))) + ((mk 3) * ((fg) (3 : Int32).toNatClampNeg))) + ((mk 4) * ((fg) (4 : Int32).toNatClampNeg))) + ((mk 5) * ((fg) (5 : Int32).toNatClampNeg)))]) ⟨hx, hb, hml, hown, hts⟩ (c_X0_countV l D cI cJ cQ tg ug totg (fg) 6 (by decide)) (cwV 1 hts gX5_countOfGone_X0_count rfl rfl rfl (by decide +kernel) ⟨Nat.le_of_ble_eq_true rfl, Nat.le_of_ble_eq_true rfl⟩) (rP_preV (ci := 0) (q0 := 0) hPc hK rfl rfl) rfl rfl hl.1 rfl (lv_room (Nat.le_of_ble_eq_true rfl)) dX5_countOfGone_22 ⟨Nat.le_of_ble_eq_true rfl, Nat.le_of_ble_eq_true rfl⟩) (fun r_18 hr_18 => ?_)
  subst hr_18
  refine lv_imul hx hb dX5_countOfGone_25 ?_
  refine lv_iadd hx hb dX5_countOfGone_26 ?_
  refine lv_istore_n (lv' := [(1, .int ((((((0 + ((mk 1) * ((fg) (1 : Int32).toNatClampNeg))) + ((mk 2) * ((fg) (2 : Int32).toNatClampNeg))) + ((mk 3) * ((fg) (3 : Int32).toNatClampNeg))) + ((mk 4) * ((fg) (4 : Int32).toNatClampNeg))) + ((mk 5) * ((fg) (5 : Int32).toNatClampNeg))) + ((mk 6) * ((fg) (6 : Int32).toNatClampNeg)))), (2, .int 6), (0, .ref h0)]) hx hb dX5_countOfGone_27 rfl hl (by decide) rfl (fun ls hl => ?_)
  refine lv_iinc (v := 7) (lv' := [(2, .int 7), (1, .int ((((((0 + ((mk 1) * ((fg) (1 : Int32).toNatClampNeg))) + ((mk 2) * ((fg) (2 : Int32).toNatClampNeg))) + ((mk 3) * ((fg) (3 : Int32).toNatClampNeg))) + ((mk 4) * ((fg) (4 : Int32).toNatClampNeg))) + ((mk 5) * ((fg) (5 : Int32).toNatClampNeg))) + ((mk 6) * ((fg) (6 : Int32).toNatClampNeg)))), (0, .ref h0)]) hx hb dX5_countOfGone_28 hl (k := 1) rfl (by decide) (by decide) rfl (fun ls hl => ?_)
  refine lv_goto (tgt := 4) hx hb dX5_countOfGone_31 (by decide) ?_
  refine lv_iload_n hx hb dX5_countOfGone_4 rfl (lv_at hl 0 rfl) ?_
  refine lv_bipush (v := 10) hx hb dX5_countOfGone_5 (by decide) ?_
  refine lv_icmp_gt (tgt := 34) hx hb dX5_countOfGone_7 (by decide) (fun c7_19 => ?_) (fun c7_19 => ?_)
  · exact absurd c7_19 (by decide)
  refine lv_iload_n hx hb dX5_countOfGone_10 rfl (lv_at hl 1 rfl) ?_
  refine lv_aload_n hx hb dX5_countOfGone_11 rfl (lv_at hl 2 rfl) ?_
  refine va_get (D := D) (ci := 5) (v := .ref tm) (C := RX5) (T := TX5) (N := 12) hx hb hts in_X5_countOfGone_X5 hown hK hP 0 rfl rfl 5 (by decide) (hts _ wd_X5_countOfGone_0) (fun _ h9 => h9) rfl dX5_countOfGone_12 ?_
  refine lv_iload_n hx hb dX5_countOfGone_15 rfl (lv_at hl 0 rfl) ?_
  refine va_iald hx hb hK hP 3 0 rfl rfl (show ¬ ((7 : Int32) < 0 ∨ 11 ≤ (7 : Int32).toNatClampNeg) by decide) dX5_countOfGone_16 ?_
  refine lv_topi (fun z_20 ez_20 => ?_)
  obtain rfl : z_20 = (mk 7) := ez_20
  refine lv_aload_n hx hb dX5_countOfGone_17 rfl (lv_at hl 2 rfl) ?_
  refine va_get (D := D) (ci := 5) (v := .ref tg) (C := RX5) (T := TX5) (N := 12) hx hb hts in_X5_countOfGone_X5 hown hK hP 0 rfl rfl 2 (by decide) (hts _ wd_X5_countOfGone_1) (fun _ h9 => h9) rfl dX5_countOfGone_18 ?_
  refine lv_iload_n hx hb dX5_countOfGone_21 rfl (lv_at hl 0 rfl) ?_
  have hPc := hP.sub (ws' := [(tg, .inr (0, [.ref ug, .int totg])), (ug, .inl (cI, 11, .inl fg))]) [1, 2] rfl
  refine vp_callSi (W.runV (As := [.int 7]) (rest := [.int (mk 7), .int ((((((0 + ((mk 1) * ((fg) (1 : Int32).toNatClampNeg))) + ((mk 2) * ((fg) (2 : Int32).toNatClampNeg))) + ((mk 3) * ((fg) (3 : Int32).toNatClampNeg))) + ((mk 4) * ((fg) (4 : Int32).toNatClampNeg))) + ((mk 5) * ((fg) (5 : Int32).toNatClampNeg))) + ((mk 6) * ((fg) (6 : Int32).toNatClampNeg)))]) ⟨hx, hb, hml, hown, hts⟩ (c_X0_countV l D cI cJ cQ tg ug totg (fg) 7 (by decide)) (cwV 1 hts gX5_countOfGone_X0_count rfl rfl rfl (by decide +kernel) ⟨Nat.le_of_ble_eq_true rfl, Nat.le_of_ble_eq_true rfl⟩) (rP_preV (ci := 0) (q0 := 0) hPc hK rfl rfl) rfl rfl hl.1 rfl (lv_room (Nat.le_of_ble_eq_true rfl)) dX5_countOfGone_22 ⟨Nat.le_of_ble_eq_true rfl, Nat.le_of_ble_eq_true rfl⟩) (fun r_21 hr_21 => ?_)
  subst hr_21
  refine lv_imul hx hb dX5_countOfGone_25 ?_
  refine lv_iadd hx hb dX5_countOfGone_26 ?_
  refine lv_istore_n (lv' := [(1, .int (((((((0 + ((mk 1) * ((fg) (1 : Int32).toNatClampNeg))) + ((mk 2) * ((fg) (2 : Int32).toNatClampNeg))) + ((mk 3) * ((fg) (3 : Int32).toNatClampNeg))) + ((mk 4) * ((fg) (4 : Int32).toNatClampNeg))) + ((mk 5) * ((fg) (5 : Int32).toNatClampNeg))) + ((mk 6) * ((fg) (6 : Int32).toNatClampNeg))) + ((mk 7) * ((fg) (7 : Int32).toNatClampNeg)))), (2, .int 7), (0, .ref h0)]) hx hb dX5_countOfGone_27 rfl hl (by decide) rfl (fun ls hl => ?_)
  refine lv_iinc (v := 8) (lv' := [(2, .int 8), (1, .int (((((((0 + ((mk 1) * ((fg) (1 : Int32).toNatClampNeg))) + ((mk 2) * ((fg) (2 : Int32).toNatClampNeg))) + ((mk 3) * ((fg) (3 : Int32).toNatClampNeg))) + ((mk 4) * ((fg) (4 : Int32).toNatClampNeg))) + ((mk 5) * ((fg) (5 : Int32).toNatClampNeg))) + ((mk 6) * ((fg) (6 : Int32).toNatClampNeg))) + ((mk 7) * ((fg) (7 : Int32).toNatClampNeg)))), (0, .ref h0)]) hx hb dX5_countOfGone_28 hl (k := 1) rfl (by decide) (by decide) rfl (fun ls hl => ?_)
  refine lv_goto (tgt := 4) hx hb dX5_countOfGone_31 (by decide) ?_
  refine lv_iload_n hx hb dX5_countOfGone_4 rfl (lv_at hl 0 rfl) ?_
  refine lv_bipush (v := 10) hx hb dX5_countOfGone_5 (by decide) ?_
  refine lv_icmp_gt (tgt := 34) hx hb dX5_countOfGone_7 (by decide) (fun c7_22 => ?_) (fun c7_22 => ?_)
  · exact absurd c7_22 (by decide)
  refine lv_iload_n hx hb dX5_countOfGone_10 rfl (lv_at hl 1 rfl) ?_
  refine lv_aload_n hx hb dX5_countOfGone_11 rfl (lv_at hl 2 rfl) ?_
  refine va_get (D := D) (ci := 5) (v := .ref tm) (C := RX5) (T := TX5) (N := 12) hx hb hts in_X5_countOfGone_X5 hown hK hP 0 rfl rfl 5 (by decide) (hts _ wd_X5_countOfGone_0) (fun _ h9 => h9) rfl dX5_countOfGone_12 ?_
  refine lv_iload_n hx hb dX5_countOfGone_15 rfl (lv_at hl 0 rfl) ?_
  refine va_iald hx hb hK hP 3 0 rfl rfl (show ¬ ((8 : Int32) < 0 ∨ 11 ≤ (8 : Int32).toNatClampNeg) by decide) dX5_countOfGone_16 ?_
  refine lv_topi (fun z_23 ez_23 => ?_)
  obtain rfl : z_23 = (mk 8) := ez_23
  refine lv_aload_n hx hb dX5_countOfGone_17 rfl (lv_at hl 2 rfl) ?_
  refine va_get (D := D) (ci := 5) (v := .ref tg) (C := RX5) (T := TX5) (N := 12) hx hb hts in_X5_countOfGone_X5 hown hK hP 0 rfl rfl 2 (by decide) (hts _ wd_X5_countOfGone_1) (fun _ h9 => h9) rfl dX5_countOfGone_18 ?_
  refine lv_iload_n hx hb dX5_countOfGone_21 rfl (lv_at hl 0 rfl) ?_
  have hPc := hP.sub (ws' := [(tg, .inr (0, [.ref ug, .int totg])), (ug, .inl (cI, 11, .inl fg))]) [1, 2] rfl
  refine vp_callSi (W.runV (As := [.int 8]) (rest := [.int (mk 8), .int (((((((0 + ((mk 1) * ((fg) (1 : Int32).toNatClampNeg))) + ((mk 2) * ((fg) (2 : Int32).toNatClampNeg))) + ((mk 3) * ((fg) (3 : Int32).toNatClampNeg))) + ((mk 4) * ((fg) (4 : Int32).toNatClampNeg))) + ((mk 5) * ((fg) (5 : Int32).toNatClampNeg))) + ((mk 6) * ((fg) (6 : Int32).toNatClampNeg))) + ((mk 7) * ((fg) (7 : Int32).toNatClampNeg)))]) ⟨hx, hb, hml, hown, hts⟩ (c_X0_countV l D cI cJ cQ tg ug totg (fg) 8 (by decide)) (cwV 1 hts gX5_countOfGone_X0_count rfl rfl rfl (by decide +kernel) ⟨Nat.le_of_ble_eq_true rfl, Nat.le_of_ble_eq_true rfl⟩) (rP_preV (ci := 0) (q0 := 0) hPc hK rfl rfl) rfl rfl hl.1 rfl (lv_room (Nat.le_of_ble_eq_true rfl)) dX5_countOfGone_22 ⟨Nat.le_of_ble_eq_true rfl, Nat.le_of_ble_eq_true rfl⟩) (fun r_24 hr_24 => ?_)
  subst hr_24
  refine lv_imul hx hb dX5_countOfGone_25 ?_
  refine lv_iadd hx hb dX5_countOfGone_26 ?_
  refine lv_istore_n (lv' := [(1, .int ((((((((0 + ((mk 1) * ((fg) (1 : Int32).toNatClampNeg))) + ((mk 2) * ((fg) (2 : Int32).toNatClampNeg))) + ((mk 3) * ((fg) (3 : Int32).toNatClampNeg))) + ((mk 4) * ((fg) (4 : Int32).toNatClampNeg))) + ((mk 5) * ((fg) (5 : Int32).toNatClampNeg))) + ((mk 6) * ((fg) (6 : Int32).toNatClampNeg))) + ((mk 7) * ((fg) (7 : Int32).toNatClampNeg))) + ((mk 8) * ((fg) (8 : Int32).toNatClampNeg)))), (2, .int 8), (0, .ref h0)]) hx hb dX5_countOfGone_27 rfl hl (by decide) rfl (fun ls hl => ?_)
  refine lv_iinc (v := 9) (lv' := [(2, .int 9), (1, .int ((((((((0 + ((mk 1) * ((fg) (1 : Int32).toNatClampNeg))) + ((mk 2) * ((fg) (2 : Int32).toNatClampNeg))) + ((mk 3) * ((fg) (3 : Int32).toNatClampNeg))) + ((mk 4) * ((fg) (4 : Int32).toNatClampNeg))) + ((mk 5) * ((fg) (5 : Int32).toNatClampNeg))) + ((mk 6) * ((fg) (6 : Int32).toNatClampNeg))) + ((mk 7) * ((fg) (7 : Int32).toNatClampNeg))) + ((mk 8) * ((fg) (8 : Int32).toNatClampNeg)))), (0, .ref h0)]) hx hb dX5_countOfGone_28 hl (k := 1) rfl (by decide) (by decide) rfl (fun ls hl => ?_)
  refine lv_goto (tgt := 4) hx hb dX5_countOfGone_31 (by decide) ?_
  refine lv_iload_n hx hb dX5_countOfGone_4 rfl (lv_at hl 0 rfl) ?_
  refine lv_bipush (v := 10) hx hb dX5_countOfGone_5 (by decide) ?_
  refine lv_icmp_gt (tgt := 34) hx hb dX5_countOfGone_7 (by decide) (fun c7_25 => ?_) (fun c7_25 => ?_)
  · exact absurd c7_25 (by decide)
  refine lv_iload_n hx hb dX5_countOfGone_10 rfl (lv_at hl 1 rfl) ?_
  refine lv_aload_n hx hb dX5_countOfGone_11 rfl (lv_at hl 2 rfl) ?_
  refine va_get (D := D) (ci := 5) (v := .ref tm) (C := RX5) (T := TX5) (N := 12) hx hb hts in_X5_countOfGone_X5 hown hK hP 0 rfl rfl 5 (by decide) (hts _ wd_X5_countOfGone_0) (fun _ h9 => h9) rfl dX5_countOfGone_12 ?_
  refine lv_iload_n hx hb dX5_countOfGone_15 rfl (lv_at hl 0 rfl) ?_
  refine va_iald hx hb hK hP 3 0 rfl rfl (show ¬ ((9 : Int32) < 0 ∨ 11 ≤ (9 : Int32).toNatClampNeg) by decide) dX5_countOfGone_16 ?_
  refine lv_topi (fun z_26 ez_26 => ?_)
  obtain rfl : z_26 = (mk 9) := ez_26
  refine lv_aload_n hx hb dX5_countOfGone_17 rfl (lv_at hl 2 rfl) ?_
  refine va_get (D := D) (ci := 5) (v := .ref tg) (C := RX5) (T := TX5) (N := 12) hx hb hts in_X5_countOfGone_X5 hown hK hP 0 rfl rfl 2 (by decide) (hts _ wd_X5_countOfGone_1) (fun _ h9 => h9) rfl dX5_countOfGone_18 ?_
  refine lv_iload_n hx hb dX5_countOfGone_21 rfl (lv_at hl 0 rfl) ?_
  have hPc := hP.sub (ws' := [(tg, .inr (0, [.ref ug, .int totg])), (ug, .inl (cI, 11, .inl fg))]) [1, 2] rfl
  refine vp_callSi (W.runV (As := [.int 9]) (rest := [.int (mk 9), .int ((((((((0 + ((mk 1) * ((fg) (1 : Int32).toNatClampNeg))) + ((mk 2) * ((fg) (2 : Int32).toNatClampNeg))) + ((mk 3) * ((fg) (3 : Int32).toNatClampNeg))) + ((mk 4) * ((fg) (4 : Int32).toNatClampNeg))) + ((mk 5) * ((fg) (5 : Int32).toNatClampNeg))) + ((mk 6) * ((fg) (6 : Int32).toNatClampNeg))) + ((mk 7) * ((fg) (7 : Int32).toNatClampNeg))) + ((mk 8) * ((fg) (8 : Int32).toNatClampNeg)))]) ⟨hx, hb, hml, hown, hts⟩ (c_X0_countV l D cI cJ cQ tg ug totg (fg) 9 (by decide)) (cwV 1 hts gX5_countOfGone_X0_count rfl rfl rfl (by decide +kernel) ⟨Nat.le_of_ble_eq_true rfl, Nat.le_of_ble_eq_true rfl⟩) (rP_preV (ci := 0) (q0 := 0) hPc hK rfl rfl) rfl rfl hl.1 rfl (lv_room (Nat.le_of_ble_eq_true rfl)) dX5_countOfGone_22 ⟨Nat.le_of_ble_eq_true rfl, Nat.le_of_ble_eq_true rfl⟩) (fun r_27 hr_27 => ?_)
  subst hr_27
  refine lv_imul hx hb dX5_countOfGone_25 ?_
  refine lv_iadd hx hb dX5_countOfGone_26 ?_
  refine lv_istore_n (lv' := [(1, .int (((((((((0 + ((mk 1) * ((fg) (1 : Int32).toNatClampNeg))) + ((mk 2) * ((fg) (2 : Int32).toNatClampNeg))) + ((mk 3) * ((fg) (3 : Int32).toNatClampNeg))) + ((mk 4) * ((fg) (4 : Int32).toNatClampNeg))) + ((mk 5) * ((fg) (5 : Int32).toNatClampNeg))) + ((mk 6) * ((fg) (6 : Int32).toNatClampNeg))) + ((mk 7) * ((fg) (7 : Int32).toNatClampNeg))) + ((mk 8) * ((fg) (8 : Int32).toNatClampNeg))) + ((mk 9) * ((fg) (9 : Int32).toNatClampNeg)))), (2, .int 9), (0, .ref h0)]) hx hb dX5_countOfGone_27 rfl hl (by decide) rfl (fun ls hl => ?_)
  refine lv_iinc (v := 10) (lv' := [(2, .int 10), (1, .int (((((((((0 + ((mk 1) * ((fg) (1 : Int32).toNatClampNeg))) + ((mk 2) * ((fg) (2 : Int32).toNatClampNeg))) + ((mk 3) * ((fg) (3 : Int32).toNatClampNeg))) + ((mk 4) * ((fg) (4 : Int32).toNatClampNeg))) + ((mk 5) * ((fg) (5 : Int32).toNatClampNeg))) + ((mk 6) * ((fg) (6 : Int32).toNatClampNeg))) + ((mk 7) * ((fg) (7 : Int32).toNatClampNeg))) + ((mk 8) * ((fg) (8 : Int32).toNatClampNeg))) + ((mk 9) * ((fg) (9 : Int32).toNatClampNeg)))), (0, .ref h0)]) hx hb dX5_countOfGone_28 hl (k := 1) rfl (by decide) (by decide) rfl (fun ls hl => ?_)
  refine lv_goto (tgt := 4) hx hb dX5_countOfGone_31 (by decide) ?_
  refine lv_iload_n hx hb dX5_countOfGone_4 rfl (lv_at hl 0 rfl) ?_
  refine lv_bipush (v := 10) hx hb dX5_countOfGone_5 (by decide) ?_
  refine lv_icmp_gt (tgt := 34) hx hb dX5_countOfGone_7 (by decide) (fun c7_28 => ?_) (fun c7_28 => ?_)
  · exact absurd c7_28 (by decide)
  refine lv_iload_n hx hb dX5_countOfGone_10 rfl (lv_at hl 1 rfl) ?_
  refine lv_aload_n hx hb dX5_countOfGone_11 rfl (lv_at hl 2 rfl) ?_
  refine va_get (D := D) (ci := 5) (v := .ref tm) (C := RX5) (T := TX5) (N := 12) hx hb hts in_X5_countOfGone_X5 hown hK hP 0 rfl rfl 5 (by decide) (hts _ wd_X5_countOfGone_0) (fun _ h9 => h9) rfl dX5_countOfGone_12 ?_
  refine lv_iload_n hx hb dX5_countOfGone_15 rfl (lv_at hl 0 rfl) ?_
  refine va_iald hx hb hK hP 3 0 rfl rfl (show ¬ ((10 : Int32) < 0 ∨ 11 ≤ (10 : Int32).toNatClampNeg) by decide) dX5_countOfGone_16 ?_
  refine lv_topi (fun z_29 ez_29 => ?_)
  obtain rfl : z_29 = (mk 10) := ez_29
  refine lv_aload_n hx hb dX5_countOfGone_17 rfl (lv_at hl 2 rfl) ?_
  refine va_get (D := D) (ci := 5) (v := .ref tg) (C := RX5) (T := TX5) (N := 12) hx hb hts in_X5_countOfGone_X5 hown hK hP 0 rfl rfl 2 (by decide) (hts _ wd_X5_countOfGone_1) (fun _ h9 => h9) rfl dX5_countOfGone_18 ?_
  refine lv_iload_n hx hb dX5_countOfGone_21 rfl (lv_at hl 0 rfl) ?_
  have hPc := hP.sub (ws' := [(tg, .inr (0, [.ref ug, .int totg])), (ug, .inl (cI, 11, .inl fg))]) [1, 2] rfl
  refine vp_callSi (W.runV (As := [.int 10]) (rest := [.int (mk 10), .int (((((((((0 + ((mk 1) * ((fg) (1 : Int32).toNatClampNeg))) + ((mk 2) * ((fg) (2 : Int32).toNatClampNeg))) + ((mk 3) * ((fg) (3 : Int32).toNatClampNeg))) + ((mk 4) * ((fg) (4 : Int32).toNatClampNeg))) + ((mk 5) * ((fg) (5 : Int32).toNatClampNeg))) + ((mk 6) * ((fg) (6 : Int32).toNatClampNeg))) + ((mk 7) * ((fg) (7 : Int32).toNatClampNeg))) + ((mk 8) * ((fg) (8 : Int32).toNatClampNeg))) + ((mk 9) * ((fg) (9 : Int32).toNatClampNeg)))]) ⟨hx, hb, hml, hown, hts⟩ (c_X0_countV l D cI cJ cQ tg ug totg (fg) 10 (by decide)) (cwV 1 hts gX5_countOfGone_X0_count rfl rfl rfl (by decide +kernel) ⟨Nat.le_of_ble_eq_true rfl, Nat.le_of_ble_eq_true rfl⟩) (rP_preV (ci := 0) (q0 := 0) hPc hK rfl rfl) rfl rfl hl.1 rfl (lv_room (Nat.le_of_ble_eq_true rfl)) dX5_countOfGone_22 ⟨Nat.le_of_ble_eq_true rfl, Nat.le_of_ble_eq_true rfl⟩) (fun r_30 hr_30 => ?_)
  subst hr_30
  refine lv_imul hx hb dX5_countOfGone_25 ?_
  refine lv_iadd hx hb dX5_countOfGone_26 ?_
  refine lv_istore_n (lv' := [(1, .int ((((((((((0 + ((mk 1) * ((fg) (1 : Int32).toNatClampNeg))) + ((mk 2) * ((fg) (2 : Int32).toNatClampNeg))) + ((mk 3) * ((fg) (3 : Int32).toNatClampNeg))) + ((mk 4) * ((fg) (4 : Int32).toNatClampNeg))) + ((mk 5) * ((fg) (5 : Int32).toNatClampNeg))) + ((mk 6) * ((fg) (6 : Int32).toNatClampNeg))) + ((mk 7) * ((fg) (7 : Int32).toNatClampNeg))) + ((mk 8) * ((fg) (8 : Int32).toNatClampNeg))) + ((mk 9) * ((fg) (9 : Int32).toNatClampNeg))) + ((mk 10) * ((fg) (10 : Int32).toNatClampNeg)))), (2, .int 10), (0, .ref h0)]) hx hb dX5_countOfGone_27 rfl hl (by decide) rfl (fun ls hl => ?_)
  refine lv_iinc (v := 11) (lv' := [(2, .int 11), (1, .int ((((((((((0 + ((mk 1) * ((fg) (1 : Int32).toNatClampNeg))) + ((mk 2) * ((fg) (2 : Int32).toNatClampNeg))) + ((mk 3) * ((fg) (3 : Int32).toNatClampNeg))) + ((mk 4) * ((fg) (4 : Int32).toNatClampNeg))) + ((mk 5) * ((fg) (5 : Int32).toNatClampNeg))) + ((mk 6) * ((fg) (6 : Int32).toNatClampNeg))) + ((mk 7) * ((fg) (7 : Int32).toNatClampNeg))) + ((mk 8) * ((fg) (8 : Int32).toNatClampNeg))) + ((mk 9) * ((fg) (9 : Int32).toNatClampNeg))) + ((mk 10) * ((fg) (10 : Int32).toNatClampNeg)))), (0, .ref h0)]) hx hb dX5_countOfGone_28 hl (k := 1) rfl (by decide) (by decide) rfl (fun ls hl => ?_)
  refine lv_goto (tgt := 4) hx hb dX5_countOfGone_31 (by decide) ?_
  refine lv_iload_n hx hb dX5_countOfGone_4 rfl (lv_at hl 0 rfl) ?_
  refine lv_bipush (v := 10) hx hb dX5_countOfGone_5 (by decide) ?_
  refine lv_icmp_gt (tgt := 34) hx hb dX5_countOfGone_7 (by decide) (fun c7_31 => ?_) (fun c7_31 => ?_)
  · skip
    refine lv_iload_n hx hb dX5_countOfGone_34 rfl (lv_at hl 1 rfl) ?_
    exact W.iret (v := ((((((((((0 + ((mk 1) * ((fg) (1 : Int32).toNatClampNeg))) + ((mk 2) * ((fg) (2 : Int32).toNatClampNeg))) + ((mk 3) * ((fg) (3 : Int32).toNatClampNeg))) + ((mk 4) * ((fg) (4 : Int32).toNatClampNeg))) + ((mk 5) * ((fg) (5 : Int32).toNatClampNeg))) + ((mk 6) * ((fg) (6 : Int32).toNatClampNeg))) + ((mk 7) * ((fg) (7 : Int32).toNatClampNeg))) + ((mk 8) * ((fg) (8 : Int32).toNatClampNeg))) + ((mk 9) * ((fg) (9 : Int32).toNatClampNeg))) + ((mk 10) * ((fg) (10 : Int32).toNatClampNeg)))) hx hb hr (fun t ht hW => ⟨_, rfl, rfl, ht⟩) (fun q hq => absurd hq List.not_mem_nil) dX5_countOfGone_35
  · exact absurd c7_31 (by decide)
