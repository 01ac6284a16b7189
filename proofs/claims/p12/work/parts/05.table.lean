set_option maxHeartbeats 400000 in
set_option maxRecDepth 100000 in
/-- X5_isRank -/
theorem c_X5_isRank (l : Launch) (D : va_G) (cI cJ cQ : ClassId) (p0 : Int32)  : Met l yX5_isRank wsX5_isRank ({ frames := 0, cells := 0, slots := 0, locals := 0 }) (va_Pc [.int p0] (rP D (gTy cI cJ cQ) [])) (vp_Si (fun r => r = rkB p0)) 0 0 (fun _ => False) := by
  refine Met.ofW (cc := cX5_isRank) (maxL := 1) (ret := (some .boolean)) (by decide) rfl ?_
  intro p e s m args below meth c s₁ B hml hv
  obtain ⟨rfl, hP, hK⟩ := hv
  have hx := B.exec
  have hb := B.bytes
  have hr := B.returns
  have hts := atoms_spec (ws := wsX5_isRank) B.pre
  have hown : s.vm.findClass RX5 = some m.cls := findClass_of_methodNamed B.named
  have hlocks := B.notSynchronized
  have hl := lv_entry ([.int p0]) (n := 1) (Nat.le_of_ble_eq_true rfl)
  rw [lg_entry_eq]
  generalize (lg_sl ([.int p0]) ++ List.replicate (1 - (lg_sl ([.int p0])).length) Slot.unset).toArray = ls at hl ⊢
  have hl : lv_has ls 1 [(0, .int p0)] := hl
  refine lv_iload_n hx hb dX5_isRank_0 rfl (lv_at hl 0 rfl) ?_
  refine lv_iconst (v := 1) hx hb dX5_isRank_1 (by decide) ?_
  refine lv_icmp_lt (tgt := 15) hx hb dX5_isRank_2 (by decide) (fun c2_1 => ?_) (fun c2_1 => ?_)
  · skip
    refine lv_iconst (v := 0) hx hb dX5_isRank_15 (by decide) ?_
    exact W.zret (v := 0) hx hb hr rfl (fun t ht hW => ⟨_, rfl, (by unfold rkB; first | (simp [c2_1]; done) | ((try first | rw [if_pos c2_1] | rw [if_neg c2_1]); first | done | rfl | trivial)), ht⟩) (fun q hq => absurd hq List.not_mem_nil) dX5_isRank_16
  · skip
    refine lv_iload_n hx hb dX5_isRank_5 rfl (lv_at hl 0 rfl) ?_
    refine lv_bipush (v := 10) hx hb dX5_isRank_6 (by decide) ?_
    refine lv_icmp_gt (tgt := 15) hx hb dX5_isRank_8 (by decide) (fun c8_2 => ?_) (fun c8_2 => ?_)
    · skip
      refine lv_iconst (v := 0) hx hb dX5_isRank_15 (by decide) ?_
      exact W.zret (v := 0) hx hb hr rfl (fun t ht hW => ⟨_, rfl, (by unfold rkB; first | (simp [c2_1, c8_2]; done) | ((try first | rw [if_pos c2_1] | rw [if_neg c2_1]); (try first | rw [if_pos c8_2] | rw [if_neg c8_2]); first | done | rfl | trivial)), ht⟩) (fun q hq => absurd hq List.not_mem_nil) dX5_isRank_16
    · skip
      refine lv_iconst (v := 1) hx hb dX5_isRank_11 (by decide) ?_
      refine lv_goto (tgt := 16) hx hb dX5_isRank_12 (by decide) ?_
      exact W.zret (v := 1) hx hb hr rfl (fun t ht hW => ⟨_, rfl, (by unfold rkB; first | (simp [c2_1, c8_2]; done) | ((try first | rw [if_pos c2_1] | rw [if_neg c2_1]); (try first | rw [if_pos c8_2] | rw [if_neg c8_2]); first | done | rfl | trivial)), ht⟩) (fun q hq => absurd hq List.not_mem_nil) dX5_isRank_16

set_option maxHeartbeats 400000 in
set_option maxRecDepth 100000 in
/-- X5_isGoal -/
theorem c_X5_isGoal (l : Launch) (D : va_G) (cI cJ cQ : ClassId) (p0 : Int32)  : Met l yX5_isGoal wsX5_isGoal ({ frames := 0, cells := 0, slots := 0, locals := 0 }) (va_Pc [.int p0] (rP D (gTy cI cJ cQ) [])) (vp_Si (fun r => r = glB p0)) 0 0 (fun _ => False) := by
  refine Met.ofW (cc := cX5_isGoal) (maxL := 1) (ret := (some .boolean)) (by decide) rfl ?_
  intro p e s m args below meth c s₁ B hml hv
  obtain ⟨rfl, hP, hK⟩ := hv
  have hx := B.exec
  have hb := B.bytes
  have hr := B.returns
  have hts := atoms_spec (ws := wsX5_isGoal) B.pre
  have hown : s.vm.findClass RX5 = some m.cls := findClass_of_methodNamed B.named
  have hlocks := B.notSynchronized
  have hl := lv_entry ([.int p0]) (n := 1) (Nat.le_of_ble_eq_true rfl)
  rw [lg_entry_eq]
  generalize (lg_sl ([.int p0]) ++ List.replicate (1 - (lg_sl ([.int p0])).length) Slot.unset).toArray = ls at hl ⊢
  have hl : lv_has ls 1 [(0, .int p0)] := hl
  refine lv_iload_n hx hb dX5_isGoal_0 rfl (lv_at hl 0 rfl) ?_
  refine lv_if_lt (tgt := 13) hx hb dX5_isGoal_1 (by decide) (fun c1_1 => ?_) (fun c1_1 => ?_)
  · skip
    refine lv_iconst (v := 0) hx hb dX5_isGoal_13 (by decide) ?_
    exact W.zret (v := 0) hx hb hr rfl (fun t ht hW => ⟨_, rfl, (by unfold glB; first | (simp [c1_1]; done) | ((try first | rw [if_pos c1_1] | rw [if_neg c1_1]); first | done | rfl | trivial)), ht⟩) (fun q hq => absurd hq List.not_mem_nil) dX5_isGoal_14
  · skip
    refine lv_iload_n hx hb dX5_isGoal_4 rfl (lv_at hl 0 rfl) ?_
    refine lv_iconst (v := 2) hx hb dX5_isGoal_5 (by decide) ?_
    refine lv_icmp_gt (tgt := 13) hx hb dX5_isGoal_6 (by decide) (fun c6_2 => ?_) (fun c6_2 => ?_)
    · skip
      refine lv_iconst (v := 0) hx hb dX5_isGoal_13 (by decide) ?_
      exact W.zret (v := 0) hx hb hr rfl (fun t ht hW => ⟨_, rfl, (by unfold glB; first | (simp [c1_1, c6_2]; done) | ((try first | rw [if_pos c1_1] | rw [if_neg c1_1]); (try first | rw [if_pos c6_2] | rw [if_neg c6_2]); first | done | rfl | trivial)), ht⟩) (fun q hq => absurd hq List.not_mem_nil) dX5_isGoal_14
    · skip
      refine lv_iconst (v := 1) hx hb dX5_isGoal_9 (by decide) ?_
      refine lv_goto (tgt := 14) hx hb dX5_isGoal_10 (by decide) ?_
      exact W.zret (v := 1) hx hb hr rfl (fun t ht hW => ⟨_, rfl, (by unfold glB; first | (simp [c1_1, c6_2]; done) | ((try first | rw [if_pos c1_1] | rw [if_neg c1_1]); (try first | rw [if_pos c6_2] | rw [if_neg c6_2]); first | done | rfl | trivial)), ht⟩) (fun q hq => absurd hq List.not_mem_nil) dX5_isGoal_14

set_option maxHeartbeats 400000 in
set_option maxRecDepth 100000 in
/-- X5_isAct -/
theorem c_X5_isAct (l : Launch) (D : va_G) (cI cJ cQ : ClassId) (p0 : Int32)  : Met l yX5_isAct wsX5_isAct ({ frames := 0, cells := 0, slots := 0, locals := 0 }) (va_Pc [.int p0] (rP D (gTy cI cJ cQ) [])) (vp_Si (fun r => r = acB p0)) 0 0 (fun _ => False) := by
  refine Met.ofW (cc := cX5_isAct) (maxL := 1) (ret := (some .boolean)) (by decide) rfl ?_
  intro p e s m args below meth c s₁ B hml hv
  obtain ⟨rfl, hP, hK⟩ := hv
  have hx := B.exec
  have hb := B.bytes
  have hr := B.returns
  have hts := atoms_spec (ws := wsX5_isAct) B.pre
  have hown : s.vm.findClass RX5 = some m.cls := findClass_of_methodNamed B.named
  have hlocks := B.notSynchronized
  have hl := lv_entry ([.int p0]) (n := 1) (Nat.le_of_ble_eq_true rfl)
  rw [lg_entry_eq]
  generalize (lg_sl ([.int p0]) ++ List.replicate (1 - (lg_sl ([.int p0])).length) Slot.unset).toArray = ls at hl ⊢
  have hl : lv_has ls 1 [(0, .int p0)] := hl
  refine lv_iload_n hx hb dX5_isAct_0 rfl (lv_at hl 0 rfl) ?_
  refine lv_if_lt (tgt := 13) hx hb dX5_isAct_1 (by decide) (fun c1_1 => ?_) (fun c1_1 => ?_)
  · skip
    refine lv_iconst (v := 0) hx hb dX5_isAct_13 (by decide) ?_
    exact W.zret (v := 0) hx hb hr rfl (fun t ht hW => ⟨_, rfl, (by unfold acB; first | (simp [c1_1]; done) | ((try first | rw [if_pos c1_1] | rw [if_neg c1_1]); first | done | rfl | trivial)), ht⟩) (fun q hq => absurd hq List.not_mem_nil) dX5_isAct_14
  · skip
    refine lv_iload_n hx hb dX5_isAct_4 rfl (lv_at hl 0 rfl) ?_
    refine lv_iconst (v := 4) hx hb dX5_isAct_5 (by decide) ?_
    refine lv_icmp_gt (tgt := 13) hx hb dX5_isAct_6 (by decide) (fun c6_2 => ?_) (fun c6_2 => ?_)
    · skip
      refine lv_iconst (v := 0) hx hb dX5_isAct_13 (by decide) ?_
      exact W.zret (v := 0) hx hb hr rfl (fun t ht hW => ⟨_, rfl, (by unfold acB; first | (simp [c1_1, c6_2]; done) | ((try first | rw [if_pos c1_1] | rw [if_neg c1_1]); (try first | rw [if_pos c6_2] | rw [if_neg c6_2]); first | done | rfl | trivial)), ht⟩) (fun q hq => absurd hq List.not_mem_nil) dX5_isAct_14
    · skip
      refine lv_iconst (v := 1) hx hb dX5_isAct_9 (by decide) ?_
      refine lv_goto (tgt := 14) hx hb dX5_isAct_10 (by decide) ?_
      exact W.zret (v := 1) hx hb hr rfl (fun t ht hW => ⟨_, rfl, (by unfold acB; first | (simp [c1_1, c6_2]; done) | ((try first | rw [if_pos c1_1] | rw [if_neg c1_1]); (try first | rw [if_pos c6_2] | rw [if_neg c6_2]); first | done | rfl | trivial)), ht⟩) (fun q hq => absurd hq List.not_mem_nil) dX5_isAct_14

set_option maxHeartbeats 400000 in
set_option maxRecDepth 100000 in
/-- X5_isPart -/
theorem c_X5_isPart (l : Launch) (D : va_G) (cI cJ cQ : ClassId) (p0 : Int32)  : Met l yX5_isPart wsX5_isPart ({ frames := 0, cells := 0, slots := 0, locals := 0 }) (va_Pc [.int p0] (rP D (gTy cI cJ cQ) [])) (vp_Si (fun r => r = ptB p0)) 0 0 (fun _ => False) := by
  refine Met.ofW (cc := cX5_isPart) (maxL := 1) (ret := (some .boolean)) (by decide) rfl ?_
  intro p e s m args below meth c s₁ B hml hv
  obtain ⟨rfl, hP, hK⟩ := hv
  have hx := B.exec
  have hb := B.bytes
  have hr := B.returns
  have hts := atoms_spec (ws := wsX5_isPart) B.pre
  have hown : s.vm.findClass RX5 = some m.cls := findClass_of_methodNamed B.named
  have hlocks := B.notSynchronized
  have hl := lv_entry ([.int p0]) (n := 1) (Nat.le_of_ble_eq_true rfl)
  rw [lg_entry_eq]
  generalize (lg_sl ([.int p0]) ++ List.replicate (1 - (lg_sl ([.int p0])).length) Slot.unset).toArray = ls at hl ⊢
  have hl : lv_has ls 1 [(0, .int p0)] := hl
  refine lv_iload_n hx hb dX5_isPart_0 rfl (lv_at hl 0 rfl) ?_
  refine lv_if_eq (tgt := 9) hx hb dX5_isPart_1 (by decide) (fun c1_1 => ?_) (fun c1_1 => ?_)
  · skip
    refine lv_iconst (v := 1) hx hb dX5_isPart_9 (by decide) ?_
    refine lv_goto (tgt := 14) hx hb dX5_isPart_10 (by decide) ?_
    exact W.zret (v := 1) hx hb hr rfl (fun t ht hW => ⟨_, rfl, (by unfold ptB; first | (simp [c1_1]; done) | ((try first | rw [if_pos c1_1] | rw [if_neg c1_1]); first | done | rfl | trivial)), ht⟩) (fun q hq => absurd hq List.not_mem_nil) dX5_isPart_14
  · skip
    refine lv_iload_n hx hb dX5_isPart_4 rfl (lv_at hl 0 rfl) ?_
    refine lv_iconst (v := 1) hx hb dX5_isPart_5 (by decide) ?_
    refine lv_icmp_ne (tgt := 13) hx hb dX5_isPart_6 (by decide) (fun c6_2 => ?_) (fun c6_2 => ?_)
    · skip
      refine lv_iconst (v := 0) hx hb dX5_isPart_13 (by decide) ?_
      exact W.zret (v := 0) hx hb hr rfl (fun t ht hW => ⟨_, rfl, (by unfold ptB; first | (simp [c1_1, c6_2]; done) | ((try first | rw [if_pos c1_1] | rw [if_neg c1_1]); (try first | rw [if_pos c6_2] | rw [if_neg c6_2]); first | done | rfl | trivial)), ht⟩) (fun q hq => absurd hq List.not_mem_nil) dX5_isPart_14
    · skip
      refine lv_iconst (v := 1) hx hb dX5_isPart_9 (by decide) ?_
      refine lv_goto (tgt := 14) hx hb dX5_isPart_10 (by decide) ?_
      exact W.zret (v := 1) hx hb hr rfl (fun t ht hW => ⟨_, rfl, (by unfold ptB; first | (simp [c1_1, c6_2]; done) | ((try first | rw [if_pos c1_1] | rw [if_neg c1_1]); (try first | rw [if_pos c6_2] | rw [if_neg c6_2]); first | done | rfl | trivial)), ht⟩) (fun q hq => absurd hq List.not_mem_nil) dX5_isPart_14

set_option maxHeartbeats 400000 in
set_option maxRecDepth 100000 in
/-- X5_asNumber -/
theorem c_X5_asNumber (l : Launch) (D : va_G) (cI cJ cQ : ClassId) (p0 : Int32)  : Met l yX5_asNumber wsX5_asNumber ({ frames := 0, cells := 0, slots := 0, locals := 0 }) (va_Pc [.int p0] (rP D (gTy cI cJ cQ) [])) (vp_Si (fun r => r = nuB p0)) 0 0 (fun _ => False) := by
  refine Met.ofW (cc := cX5_asNumber) (maxL := 1) (ret := (some .int)) (by decide) rfl ?_
  intro p e s m args below meth c s₁ B hml hv
  obtain ⟨rfl, hP, hK⟩ := hv
  have hx := B.exec
  have hb := B.bytes
  have hr := B.returns
  have hts := atoms_spec (ws := wsX5_asNumber) B.pre
  have hown : s.vm.findClass RX5 = some m.cls := findClass_of_methodNamed B.named
  have hlocks := B.notSynchronized
  have hl := lv_entry ([.int p0]) (n := 1) (Nat.le_of_ble_eq_true rfl)
  rw [lg_entry_eq]
  generalize (lg_sl ([.int p0]) ++ List.replicate (1 - (lg_sl ([.int p0])).length) Slot.unset).toArray = ls at hl ⊢
  have hl : lv_has ls 1 [(0, .int p0)] := hl
  refine lv_iload_n hx hb dX5_asNumber_0 rfl (lv_at hl 0 rfl) ?_
  refine lv_if_eq (tgt := 8) hx hb dX5_asNumber_1 (by decide) (fun c1_1 => ?_) (fun c1_1 => ?_)
  · skip
    refine lv_iconst (v := 0) hx hb dX5_asNumber_8 (by decide) ?_
    exact W.iret (v := 0) hx hb hr (fun t ht hW => ⟨_, rfl, (by unfold nuB; first | (simp [c1_1]; done) | ((try first | rw [if_pos c1_1] | rw [if_neg c1_1]); first | done | rfl | trivial)), ht⟩) (fun q hq => absurd hq List.not_mem_nil) dX5_asNumber_9
  · skip
    refine lv_iconst (v := 1) hx hb dX5_asNumber_4 (by decide) ?_
    refine lv_goto (tgt := 9) hx hb dX5_asNumber_5 (by decide) ?_
    exact W.iret (v := 1) hx hb hr (fun t ht hW => ⟨_, rfl, (by unfold nuB; first | (simp [c1_1]; done) | ((try first | rw [if_pos c1_1] | rw [if_neg c1_1]); first | done | rfl | trivial)), ht⟩) (fun q hq => absurd hq List.not_mem_nil) dX5_asNumber_9

set_option maxRecDepth 20000 in
theorem in_X5_shoe_X5 : ∀ w ∈ wsX50, w ∈ wsX5_shoe := by decide +kernel
set_option maxRecDepth 20000 in
theorem wd_X5_shoe_0 : Cond.fieldLink RX5 19 "ShoeTable" "cards" "LShoeTable$Cards;" ∈ wsX5_shoe := by decide +kernel
set_option maxRecDepth 20000 in
theorem wd_X5_shoe_1 : Cond.fieldLink RX5 65 "ShoeTable" "shoeTold" "Z" ∈ wsX5_shoe := by decide +kernel
set_option maxHeartbeats 400000 in
set_option maxRecDepth 100000 in
/-- X5_shoe -/
theorem c_X5_shoe (l : Launch) (D : va_G) (cI cJ cQ : ClassId) (sz : Nat) (h0 : Nat) (tr : Nat) (tc : Nat) (tg : Nat) (tf : Nat) (th : Nat) (tm : Nat) (to : Nat) (tp : Nat) (up : Int32) (bank : Int32) (chain : Int64) (told : Bool) (uc : Nat) (tot : Int32) (f : Nat → Int32) (p0 : Int32) (p1 : Int32)  : Met l yX5_shoe wsX5_shoe ({ frames := 1, cells := 0, slots := 0, locals := 22 }) (va_Pc [.ref h0, .int p0, .int p1] (mP D (gTy cI cJ cQ) [(h0, .inr (5, [.ref tr, .ref tc, .ref tg, .ref tf, .ref th, .ref tm, .ref to, .ref tp, .int up, .int bank, .long chain, .int (bI told)])), (tc, .inr (0, [.ref uc, .int tot])), (uc, .inl (cI, 11, .inl f))] sz)) (va_Qi (fun (r : Int32) (u : Int32 × (Nat → Int32) × Bool) => match u with | (tot2, f2, told2) => if rkB p0 = 0 then r = -1001 ∧ tot2 = tot ∧ f2 = f ∧ told2 = told else if p1 < 0 then r = -1001 ∧ tot2 = tot ∧ f2 = f ∧ told2 = told else if p1 ≤ 32 then r = f p0.toNatClampNeg ∧ tot2 = tot + (p1 - f p0.toNatClampNeg) ∧ f2 = upd f p0.toNatClampNeg p1 ∧ told2 = true else r = -1001 ∧ tot2 = tot ∧ f2 = f ∧ told2 = told) (fun (u : Int32 × (Nat → Int32) × Bool) t => match u with | (tot2, f2, told2) => mB D (gTy cI cJ cQ) (va_A [(h0, .inr (5, [.ref tr, .ref tc, .ref tg, .ref tf, .ref th, .ref tm, .ref to, .ref tp, .int up, .int bank, .long chain, .int (bI told)])), (tc, .inr (0, [.ref uc, .int tot])), (uc, .inl (cI, 11, .inl f))] sz) [(h0, .inr (5, [.ref tr, .ref tc, .ref tg, .ref tf, .ref th, .ref tm, .ref to, .ref tp, .int up, .int bank, .long chain, .int (bI told2)])), (tc, .inr (0, [.ref uc, .int tot2])), (uc, .inl (cI, 11, .inl f2))] t) (va_A [(h0, .inr (5, [.ref tr, .ref tc, .ref tg, .ref tf, .ref th, .ref tm, .ref to, .ref tp, .int up, .int bank, .long chain, .int (bI told)])), (tc, .inr (0, [.ref uc, .int tot])), (uc, .inl (cI, 11, .inl f))] sz)) 0 0 (va_A [(h0, .inr (5, [.ref tr, .ref tc, .ref tg, .ref tf, .ref th, .ref tm, .ref to, .ref tp, .int up, .int bank, .long chain, .int (bI told)])), (tc, .inr (0, [.ref uc, .int tot])), (uc, .inl (cI, 11, .inl f))] sz) := by
  refine Met.ofW (cc := cX5_shoe) (maxL := 4) (ret := (some .int)) (by decide) rfl ?_
  intro p e s m args below meth c s₁ B hml hv
  obtain ⟨rfl, hsz, hP, hK, hD0⟩ := hv
  have hx := B.exec
  have hb := B.bytes
  have hr := B.returns
  have hts := atoms_spec (ws := wsX5_shoe) B.pre
  have hown : s.vm.findClass RX5 = some m.cls := findClass_of_methodNamed B.named
  have hlocks := B.notSynchronized
  subst hsz
  have hD := hD0.self (sz := s.heap.size)
  generalize hAe : va_A [(h0, .inr (5, [.ref tr, .ref tc, .ref tg, .ref tf, .ref th, .ref tm, .ref to, .ref tp, .int up, .int bank, .long chain, .int (bI told)])), (tc, .inr (0, [.ref uc, .int tot])), (uc, .inl (cI, 11, .inl f))] s.heap.size = A at hD ⊢
  have hA : ∀ q : Nat, s.heap.size ≤ q → A q := fun q h => by rw [← hAe]; exact Or.inr h
  have hS : va_S A s.heap s.heap [] := va_S.rf
  have hP : va_P D vwCl [(h0, .inr (5, [.ref tr, .ref tc, .ref tg, .ref tf, .ref th, .ref tm, .ref to, .ref tp, .int up, .int bank, .long chain, .int (bI told)])), (tc, .inr (0, [.ref uc, .int tot])), (uc, .inl (cI, 11, .inl f))] s.heap := hP
  have hl := lv_entry ([.ref h0, .int p0, .int p1]) (n := 4) (Nat.le_of_ble_eq_true rfl)
  rw [lg_entry_eq]
  generalize (lg_sl ([.ref h0, .int p0, .int p1]) ++ List.replicate (4 - (lg_sl ([.ref h0, .int p0, .int p1])).length) Slot.unset).toArray = ls at hl ⊢
  have hl : lv_has ls 4 [(0, .ref h0), (1, .int p0), (2, .int p1)] := hl
  refine lv_iload_n hx hb dX5_shoe_0 rfl (lv_at hl 1 rfl) ?_
  have hPc := hP.sub (ws' := []) [] rfl
  refine vp_callSi (W.runS (As := [.int p0]) (rest := []) ⟨hx, hb, hml, hown, hts⟩ (c_X5_isRank l D cI cJ cQ p0) (va_cwS 1 hts gX5_shoe_X5_isRank rfl rfl rfl (by decide +kernel) ⟨Nat.le_of_ble_eq_true rfl, Nat.le_of_ble_eq_true rfl⟩) (rP_preS hPc hK) rfl rfl hl.1 rfl (lv_room (Nat.le_of_ble_eq_true rfl)) dX5_shoe_1 ⟨Nat.le_of_ble_eq_true rfl, Nat.le_of_ble_eq_true rfl⟩) (fun r_1 hr_1 => ?_)
  subst hr_1
  refine lv_if_eq (tgt := 17) hx hb dX5_shoe_4 (by decide) (fun c4_2 => ?_) (fun c4_2 => ?_)
  · skip
    refine lv_sipush (v := (-1001)) hx hb dX5_shoe_17 (by decide) ?_
    have hP9 := hP.sub (ws' := [(h0, .inr (5, [.ref tr, .ref tc, .ref tg, .ref tf, .ref th, .ref tm, .ref to, .ref tp, .int up, .int bank, .long chain, .int (bI told)])), (tc, .inr (0, [.ref uc, .int tot])), (uc, .inl (cI, 11, .inl f))]) [0, 1, 2] rfl
    have hD9 := hD.sub (ws' := [(h0, .inr (5, [.ref tr, .ref tc, .ref tg, .ref tf, .ref th, .ref tm, .ref to, .ref tp, .int up, .int bank, .long chain, .int (bI told)])), (tc, .inr (0, [.ref uc, .int tot])), (uc, .inl (cI, 11, .inl f))]) [0, 1, 2] (by decide) rfl
    exact W.iret (v := (-1001)) hx hb hr (fun t ht hW => ⟨⟨(-1001), (tot, (f), told), rfl, (by first | (simp [c4_2]; done) | (have q := rkB_rng c4_2; simp only [q.1, q.2, if_false] at *; simp [*]; done) | (have q := rkB_rng c4_2; simp_all)), by rw [ht]; exact hP9, va_K.moved hW.alike hK, hD9⟩, hS.F ht⟩) hS.2.2 dX5_shoe_20
  · skip
    refine lv_iload_n hx hb dX5_shoe_7 rfl (lv_at hl 2 rfl) ?_
    refine lv_if_lt (tgt := 17) hx hb dX5_shoe_8 (by decide) (fun c8_3 => ?_) (fun c8_3 => ?_)
    · skip
      refine lv_sipush (v := (-1001)) hx hb dX5_shoe_17 (by decide) ?_
      have hP9 := hP.sub (ws' := [(h0, .inr (5, [.ref tr, .ref tc, .ref tg, .ref tf, .ref th, .ref tm, .ref to, .ref tp, .int up, .int bank, .long chain, .int (bI told)])), (tc, .inr (0, [.ref uc, .int tot])), (uc, .inl (cI, 11, .inl f))]) [0, 1, 2] rfl
      have hD9 := hD.sub (ws' := [(h0, .inr (5, [.ref tr, .ref tc, .ref tg, .ref tf, .ref th, .ref tm, .ref to, .ref tp, .int up, .int bank, .long chain, .int (bI told)])), (tc, .inr (0, [.ref uc, .int tot])), (uc, .inl (cI, 11, .inl f))]) [0, 1, 2] (by decide) rfl
      exact W.iret (v := (-1001)) hx hb hr (fun t ht hW => ⟨⟨(-1001), (tot, (f), told), rfl, (by first | (simp [c4_2, c8_3]; done) | (have q := rkB_rng c4_2; simp only [q.1, q.2, if_false] at *; simp [*]; done) | (have q := rkB_rng c4_2; simp_all)), by rw [ht]; exact hP9, va_K.moved hW.alike hK, hD9⟩, hS.F ht⟩) hS.2.2 dX5_shoe_20
    · skip
      refine lv_iload_n hx hb dX5_shoe_11 rfl (lv_at hl 2 rfl) ?_
      refine lv_bipush (v := 32) hx hb dX5_shoe_12 (by decide) ?_
      refine lv_icmp_le (tgt := 21) hx hb dX5_shoe_14 (by decide) (fun c14_4 => ?_) (fun c14_4 => ?_)
      · skip
        refine lv_aload_n hx hb dX5_shoe_21 rfl (lv_at hl 0 rfl) ?_
        refine va_get (D := D) (ci := 5) (v := .ref tc) (C := RX5) (T := TX5) (N := 12) hx hb hts in_X5_shoe_X5 hown hK hP 0 rfl rfl 1 (by decide) (hts _ wd_X5_shoe_0) (fun _ h9 => h9) rfl dX5_shoe_22 ?_
        refine lv_iload_n hx hb dX5_shoe_25 rfl (lv_at hl 1 rfl) ?_
        have hPc := hP.sub (ws' := [(tc, .inr (0, [.ref uc, .int tot])), (uc, .inl (cI, 11, .inl f))]) [1, 2] rfl
        refine vp_callSi (W.runV (As := [.int p0]) (rest := []) ⟨hx, hb, hml, hown, hts⟩ (c_X0_count l D cI cJ cQ tc uc tot (f) p0) (cwV 1 hts gX5_shoe_X0_count rfl rfl rfl (by decide +kernel) ⟨Nat.le_of_ble_eq_true rfl, Nat.le_of_ble_eq_true rfl⟩) (rP_preV (ci := 0) (q0 := 0) hPc hK rfl rfl) rfl rfl hl.1 rfl (lv_room (Nat.le_of_ble_eq_true rfl)) dX5_shoe_26 ⟨Nat.le_of_ble_eq_true rfl, Nat.le_of_ble_eq_true rfl⟩) (fun r_5 hr_5 => ?_)
        refine lv_istore_n (lv' := [(3, .int r_5), (0, .ref h0), (1, .int p0), (2, .int p1)]) hx hb dX5_shoe_29 rfl hl (by decide) rfl (fun ls hl => ?_)
        refine lv_aload_n hx hb dX5_shoe_30 rfl (lv_at hl 1 rfl) ?_
        refine va_get (D := D) (ci := 5) (v := .ref tc) (C := RX5) (T := TX5) (N := 12) hx hb hts in_X5_shoe_X5 hown hK hP 0 rfl rfl 1 (by decide) (hts _ wd_X5_shoe_0) (fun _ h9 => h9) rfl dX5_shoe_31 ?_
        refine lv_iload_n hx hb dX5_shoe_34 rfl (lv_at hl 2 rfl) ?_
        refine lv_iload_n hx hb dX5_shoe_35 rfl (lv_at hl 3 rfl) ?_
        have hPc := hP.sub (ws' := [(tc, .inr (0, [.ref uc, .int tot])), (uc, .inl (cI, 11, .inl f))]) [1, 2] rfl
        have hDc := hD.sub (ws' := [(tc, .inr (0, [.ref uc, .int tot])), (uc, .inl (cI, 11, .inl f))]) [1, 2] (by decide) rfl
        have hFc := va_free (wc := [(tc, .inr (0, [.ref uc, .int tot])), (uc, .inl (cI, 11, .inl f))]) hD hS hA [1, 2] rfl
        refine va_callv (va_runV (As := [.int p0, .int p1]) (rest := []) ⟨hx, hb, hml, hown, hts⟩ (c_X0_put l D cI cJ cQ _ tc uc tot (f) p0 p1) (cwV 2 hts gX5_shoe_X0_put rfl rfl rfl (by decide +kernel) ⟨Nat.le_of_ble_eq_true rfl, Nat.le_of_ble_eq_true rfl⟩) (mP_preV (ci := 0) (q0 := 0) hPc hK hDc rfl rfl) rfl rfl hl.1 rfl (lv_room (Nat.le_of_ble_eq_true rfl)) dX5_shoe_36 ⟨Nat.le_of_ble_eq_true rfl, Nat.le_of_ble_eq_true rfl⟩) hS (fun q _ h => hFc q h) hFc (fun u_r_6 t H1 locs ht hvm hr_6 hB hz1 hk1 hS => ?_)
        obtain ⟨tot2_7, f2_8⟩ := u_r_6
        obtain ⟨hP1, hK1, hD1⟩ := hB
        rw [ht] at hP1
        try dsimp only at hr_6
        obtain ⟨hP, hD⟩ := va_join (wr := [(h0, .inr (5, [.ref tr, .ref tc, .ref tg, .ref tf, .ref th, .ref tm, .ref to, .ref tp, .int up, .int bank, .long chain, .int (bI told)]))]) (w1 := [(tc, .inr (0, [.ref uc, .int tot2_7])), (uc, .inl (cI, 11, .inl f2_8))]) hP hD [1, 2] [0] rfl rfl (by decide) (by decide) hk1 hFc hP1 hD1
        generalize H1 = H at hP hS ⊢
        have hP : va_P D vwCl [(h0, .inr (5, [.ref tr, .ref tc, .ref tg, .ref tf, .ref th, .ref tm, .ref to, .ref tp, .int up, .int bank, .long chain, .int (bI told)])), (tc, .inr (0, [.ref uc, .int tot2_7])), (uc, .inl (cI, 11, .inl f2_8))] H := hP
        have hD : va_D A [(h0, .inr (5, [.ref tr, .ref tc, .ref tg, .ref tf, .ref th, .ref tm, .ref to, .ref tp, .int up, .int bank, .long chain, .int (bI told)])), (tc, .inr (0, [.ref uc, .int tot2_7])), (uc, .inl (cI, 11, .inl f2_8))] := hD
        refine lv_aload_n hx hb dX5_shoe_39 rfl (lv_at hl 1 rfl) ?_
        refine lv_iconst (v := 1) hx hb dX5_shoe_40 (by decide) ?_
        refine va_put (D := D) (ci := 5) (v := .int 1) (ty := .boolean) (C := RX5) (T := TX5) (N := 12) hx hb hts in_X5_shoe_X5 tyX5 tyX5_ok nmX5 hown hK hP hD hS 0 rfl rfl 11 (by decide) (hts _ wd_X5_shoe_1) (fun _ h9 => h9) rfl (by decide +kernel) rfl rfl (Nat.le_of_ble_eq_true rfl) dX5_shoe_41 (fun H locs hP hD hS => ?_)
        have hP : va_P D vwCl [(h0, .inr (5, [.ref tr, .ref tc, .ref tg, .ref tf, .ref th, .ref tm, .ref to, .ref tp, .int up, .int bank, .long chain, .int 1])), (tc, .inr (0, [.ref uc, .int tot2_7])), (uc, .inl (cI, 11, .inl f2_8))] H := hP
        have hD : va_D A [(h0, .inr (5, [.ref tr, .ref tc, .ref tg, .ref tf, .ref th, .ref tm, .ref to, .ref tp, .int up, .int bank, .long chain, .int 1])), (tc, .inr (0, [.ref uc, .int tot2_7])), (uc, .inl (cI, 11, .inl f2_8))] := hD
        refine lv_iload_n hx hb dX5_shoe_44 rfl (lv_at hl 0 rfl) ?_
        have hP9 := hP.sub (ws' := [(h0, .inr (5, [.ref tr, .ref tc, .ref tg, .ref tf, .ref th, .ref tm, .ref to, .ref tp, .int up, .int bank, .long chain, .int 1])), (tc, .inr (0, [.ref uc, .int tot2_7])), (uc, .inl (cI, 11, .inl f2_8))]) [0, 1, 2] rfl
        have hD9 := hD.sub (ws' := [(h0, .inr (5, [.ref tr, .ref tc, .ref tg, .ref tf, .ref th, .ref tm, .ref to, .ref tp, .int up, .int bank, .long chain, .int 1])), (tc, .inr (0, [.ref uc, .int tot2_7])), (uc, .inl (cI, 11, .inl f2_8))]) [0, 1, 2] (by decide) rfl
        exact W.iret (v := r_5) hx hb hr (fun t ht hW => ⟨⟨r_5, (tot2_7, (f2_8), true), rfl, (by first | (simp [c4_2, c8_3, c14_4, hr_5, hr_6]; done) | (have q := rkB_rng c4_2; simp only [q.1, q.2, if_false] at *; simp [*]; done) | (have q := rkB_rng c4_2; simp_all)), by rw [ht]; exact hP9, va_K.moved hW.alike hK, hD9⟩, hS.F ht⟩) hS.2.2 dX5_shoe_45
      · skip
        refine lv_sipush (v := (-1001)) hx hb dX5_shoe_17 (by decide) ?_
        have hP9 := hP.sub (ws' := [(h0, .inr (5, [.ref tr, .ref tc, .ref tg, .ref tf, .ref th, .ref tm, .ref to, .ref tp, .int up, .int bank, .long chain, .int (bI told)])), (tc, .inr (0, [.ref uc, .int tot])), (uc, .inl (cI, 11, .inl f))]) [0, 1, 2] rfl
        have hD9 := hD.sub (ws' := [(h0, .inr (5, [.ref tr, .ref tc, .ref tg, .ref tf, .ref th, .ref tm, .ref to, .ref tp, .int up, .int bank, .long chain, .int (bI told)])), (tc, .inr (0, [.ref uc, .int tot])), (uc, .inl (cI, 11, .inl f))]) [0, 1, 2] (by decide) rfl
        exact W.iret (v := (-1001)) hx hb hr (fun t ht hW => ⟨⟨(-1001), (tot, (f), told), rfl, (by first | (simp [c4_2, c8_3, c14_4]; done) | (have q := rkB_rng c4_2; simp only [q.1, q.2, if_false] at *; simp [*]; done) | (have q := rkB_rng c4_2; simp_all)), by rw [ht]; exact hP9, va_K.moved hW.alike hK, hD9⟩, hS.F ht⟩) hS.2.2 dX5_shoe_20

set_option maxRecDepth 20000 in
theorem in_X5_mark_X5 : ∀ w ∈ wsX50, w ∈ wsX5_mark := by decide +kernel
set_option maxRecDepth 20000 in
theorem wd_X5_mark_0 : Cond.fieldLink RX5 36 "ShoeTable" "marks" "[I" ∈ wsX5_mark := by decide +kernel
set_option maxHeartbeats 400000 in
set_option maxRecDepth 100000 in
/-- X5_mark -/
theorem c_X5_mark (l : Launch) (D : va_G) (cI cJ cQ : ClassId) (sz : Nat) (h0 : Nat) (tr : Nat) (tc : Nat) (tg : Nat) (tf : Nat) (th : Nat) (tm : Nat) (to : Nat) (tp : Nat) (up : Int32) (bank : Int32) (chain : Int64) (told : Bool) (f : Nat → Int32) (p0 : Int32) (p1 : Int32)  : Met l yX5_mark wsX5_mark ({ frames := 1, cells := 0, slots := 0, locals := 20 }) (va_Pc [.ref h0, .int p0, .int p1] (mP D (gTy cI cJ cQ) [(h0, .inr (5, [.ref tr, .ref tc, .ref tg, .ref tf, .ref th, .ref tm, .ref to, .ref tp, .int up, .int bank, .long chain, .int (bI told)])), (tm, .inl (cI, 11, .inl f))] sz)) (va_Qi (fun (r : Int32) (u : (Nat → Int32)) => match u with | f2 => if rkB p0 = 0 then r = -1001 ∧ f2 = f else if p1 < -3 then r = -1001 ∧ f2 = f else if p1 ≤ 3 then r = f p0.toNatClampNeg ∧ f2 = upd f p0.toNatClampNeg p1 else r = -1001 ∧ f2 = f) (fun (u : (Nat → Int32)) t => match u with | f2 => mB D (gTy cI cJ cQ) (va_A [(h0, .inr (5, [.ref tr, .ref tc, .ref tg, .ref tf, .ref th, .ref tm, .ref to, .ref tp, .int up, .int bank, .long chain, .int (bI told)])), (tm, .inl (cI, 11, .inl f))] sz) [(h0, .inr (5, [.ref tr, .ref tc, .ref tg, .ref tf, .ref th, .ref tm, .ref to, .ref tp, .int up, .int bank, .long chain, .int (bI told)])), (tm, .inl (cI, 11, .inl f2))] t) (va_A [(h0, .inr (5, [.ref tr, .ref tc, .ref tg, .ref tf, .ref th, .ref tm, .ref to, .ref tp, .int up, .int bank, .long chain, .int (bI told)])), (tm, .inl (cI, 11, .inl f))] sz)) 0 0 (va_A [(h0, .inr (5, [.ref tr, .ref tc, .ref tg, .ref tf, .ref th, .ref tm, .ref to, .ref tp, .int up, .int bank, .long chain, .int (bI told)])), (tm, .inl (cI, 11, .inl f))] sz) := by
  refine Met.ofW (cc := cX5_mark) (maxL := 4) (ret := (some .int)) (by decide) rfl ?_
  intro p e s m args below meth c s₁ B hml hv
  obtain ⟨rfl, hsz, hP, hK, hD0⟩ := hv
  have hx := B.exec
  have hb := B.bytes
  have hr := B.returns
  have hts := atoms_spec (ws := wsX5_mark) B.pre
  have hown : s.vm.findClass RX5 = some m.cls := findClass_of_methodNamed B.named
  have hlocks := B.notSynchronized
  subst hsz
  have hD := hD0.self (sz := s.heap.size)
  generalize hAe : va_A [(h0, .inr (5, [.ref tr, .ref tc, .ref tg, .ref tf, .ref th, .ref tm, .ref to, .ref tp, .int up, .int bank, .long chain, .int (bI told)])), (tm, .inl (cI, 11, .inl f))] s.heap.size = A at hD ⊢
  have hA : ∀ q : Nat, s.heap.size ≤ q → A q := fun q h => by rw [← hAe]; exact Or.inr h
  have hS : va_S A s.heap s.heap [] := va_S.rf
  have hP : va_P D vwCl [(h0, .inr (5, [.ref tr, .ref tc, .ref tg, .ref tf, .ref th, .ref tm, .ref to, .ref tp, .int up, .int bank, .long chain, .int (bI told)])), (tm, .inl (cI, 11, .inl f))] s.heap := hP
  have hl := lv_entry ([.ref h0, .int p0, .int p1]) (n := 4) (Nat.le_of_ble_eq_true rfl)
  rw [lg_entry_eq]
  generalize (lg_sl ([.ref h0, .int p0, .int p1]) ++ List.replicate (4 - (lg_sl ([.ref h0, .int p0, .int p1])).length) Slot.unset).toArray = ls at hl ⊢
  have hl : lv_has ls 4 [(0, .ref h0), (1, .int p0), (2, .int p1)] := hl
  refine lv_iload_n hx hb dX5_mark_0 rfl (lv_at hl 1 rfl) ?_
  have hPc := hP.sub (ws' := []) [] rfl
  refine vp_callSi (W.runS (As := [.int p0]) (rest := []) ⟨hx, hb, hml, hown, hts⟩ (c_X5_isRank l D cI cJ cQ p0) (va_cwS 1 hts gX5_mark_X5_isRank rfl rfl rfl (by decide +kernel) ⟨Nat.le_of_ble_eq_true rfl, Nat.le_of_ble_eq_true rfl⟩) (rP_preS hPc hK) rfl rfl hl.1 rfl (lv_room (Nat.le_of_ble_eq_true rfl)) dX5_mark_1 ⟨Nat.le_of_ble_eq_true rfl, Nat.le_of_ble_eq_true rfl⟩) (fun r_1 hr_1 => ?_)
  subst hr_1
  refine lv_if_eq (tgt := 18) hx hb dX5_mark_4 (by decide) (fun c4_2 => ?_) (fun c4_2 => ?_)
  · skip
    refine lv_sipush (v := (-1001)) hx hb dX5_mark_18 (by decide) ?_
    have hP9 := hP.sub (ws' := [(h0, .inr (5, [.ref tr, .ref tc, .ref tg, .ref tf, .ref th, .ref tm, .ref to, .ref tp, .int up, .int bank, .long chain, .int (bI told)])), (tm, .inl (cI, 11, .inl f))]) [0, 1] rfl
    have hD9 := hD.sub (ws' := [(h0, .inr (5, [.ref tr, .ref tc, .ref tg, .ref tf, .ref th, .ref tm, .ref to, .ref tp, .int up, .int bank, .long chain, .int (bI told)])), (tm, .inl (cI, 11, .inl f))]) [0, 1] (by decide) rfl
    exact W.iret (v := (-1001)) hx hb hr (fun t ht hW => ⟨⟨(-1001), (f), rfl, (by first | rfl | trivial | (simp [c4_2]; done) | ((try first | rw [if_pos c4_2] | rw [if_neg c4_2]); first | done | rfl | trivial) | (simp_all; done)), by rw [ht]; exact hP9, va_K.moved hW.alike hK, hD9⟩, hS.F ht⟩) hS.2.2 dX5_mark_21
  · skip
    refine lv_iload_n hx hb dX5_mark_7 rfl (lv_at hl 2 rfl) ?_
    refine lv_bipush (v := (-3)) hx hb dX5_mark_8 (by decide) ?_
    refine lv_icmp_lt (tgt := 18) hx hb dX5_mark_10 (by decide) (fun c10_3 => ?_) (fun c10_3 => ?_)
    · skip
      refine lv_sipush (v := (-1001)) hx hb dX5_mark_18 (by decide) ?_
      have hP9 := hP.sub (ws' := [(h0, .inr (5, [.ref tr, .ref tc, .ref tg, .ref tf, .ref th, .ref tm, .ref to, .ref tp, .int up, .int bank, .long chain, .int (bI told)])), (tm, .inl (cI, 11, .inl f))]) [0, 1] rfl
      have hD9 := hD.sub (ws' := [(h0, .inr (5, [.ref tr, .ref tc, .ref tg, .ref tf, .ref th, .ref tm, .ref to, .ref tp, .int up, .int bank, .long chain, .int (bI told)])), (tm, .inl (cI, 11, .inl f))]) [0, 1] (by decide) rfl
      exact W.iret (v := (-1001)) hx hb hr (fun t ht hW => ⟨⟨(-1001), (f), rfl, (by first | rfl | trivial | (simp [c4_2, c10_3]; done) | ((try first | rw [if_pos c4_2] | rw [if_neg c4_2]); (try first | rw [if_pos c10_3] | rw [if_neg c10_3]); first | done | rfl | trivial) | (simp_all; done)), by rw [ht]; exact hP9, va_K.moved hW.alike hK, hD9⟩, hS.F ht⟩) hS.2.2 dX5_mark_21
    · skip
      refine lv_iload_n hx hb dX5_mark_13 rfl (lv_at hl 2 rfl) ?_
      refine lv_iconst (v := 3) hx hb dX5_mark_14 (by decide) ?_
      refine lv_icmp_le (tgt := 22) hx hb dX5_mark_15 (by decide) (fun c15_4 => ?_) (fun c15_4 => ?_)
      · skip
        refine lv_aload_n hx hb dX5_mark_22 rfl (lv_at hl 0 rfl) ?_
        refine va_get (D := D) (ci := 5) (v := .ref tm) (C := RX5) (T := TX5) (N := 12) hx hb hts in_X5_mark_X5 hown hK hP 0 rfl rfl 5 (by decide) (hts _ wd_X5_mark_0) (fun _ h9 => h9) rfl dX5_mark_23 ?_
        refine lv_iload_n hx hb dX5_mark_26 rfl (lv_at hl 1 rfl) ?_
        refine va_iald hx hb hK hP 1 0 rfl rfl (rkB_in c4_2) dX5_mark_27 ?_
        refine lv_istore_n (lv' := [(3, .int (f p0.toNatClampNeg)), (0, .ref h0), (1, .int p0), (2, .int p1)]) hx hb dX5_mark_28 rfl hl (by decide) rfl (fun ls hl => ?_)
        refine lv_aload_n hx hb dX5_mark_29 rfl (lv_at hl 1 rfl) ?_
        refine va_get (D := D) (ci := 5) (v := .ref tm) (C := RX5) (T := TX5) (N := 12) hx hb hts in_X5_mark_X5 hown hK hP 0 rfl rfl 5 (by decide) (hts _ wd_X5_mark_0) (fun _ h9 => h9) rfl dX5_mark_30 ?_
        refine lv_iload_n hx hb dX5_mark_33 rfl (lv_at hl 2 rfl) ?_
        refine lv_iload_n hx hb dX5_mark_34 rfl (lv_at hl 3 rfl) ?_
        refine va_iast hx hb hK hP hD hS 1 0 rfl rfl (rkB_in c4_2) dX5_mark_35 (fun H locs hP hD hS => ?_)
        have hP : va_P D vwCl [(h0, .inr (5, [.ref tr, .ref tc, .ref tg, .ref tf, .ref th, .ref tm, .ref to, .ref tp, .int up, .int bank, .long chain, .int (bI told)])), (tm, .inl (cI, 11, .inl (upd f p0.toNatClampNeg p1)))] H := hP
        have hD : va_D A [(h0, .inr (5, [.ref tr, .ref tc, .ref tg, .ref tf, .ref th, .ref tm, .ref to, .ref tp, .int up, .int bank, .long chain, .int (bI told)])), (tm, .inl (cI, 11, .inl (upd f p0.toNatClampNeg p1)))] := hD
        refine lv_iload_n hx hb dX5_mark_36 rfl (lv_at hl 0 rfl) ?_
        have hP9 := hP.sub (ws' := [(h0, .inr (5, [.ref tr, .ref tc, .ref tg, .ref tf, .ref th, .ref tm, .ref to, .ref tp, .int up, .int bank, .long chain, .int (bI told)])), (tm, .inl (cI, 11, .inl (upd f p0.toNatClampNeg p1)))]) [0, 1] rfl
        have hD9 := hD.sub (ws' := [(h0, .inr (5, [.ref tr, .ref tc, .ref tg, .ref tf, .ref th, .ref tm, .ref to, .ref tp, .int up, .int bank, .long chain, .int (bI told)])), (tm, .inl (cI, 11, .inl (upd f p0.toNatClampNeg p1)))]) [0, 1] (by decide) rfl
        exact W.iret (v := (f p0.toNatClampNeg)) hx hb hr (fun t ht hW => ⟨⟨(f p0.toNatClampNeg), (upd f p0.toNatClampNeg p1), rfl, (by first | rfl | trivial | (simp [c4_2, c10_3, c15_4]; done) | ((try first | rw [if_pos c4_2] | rw [if_neg c4_2]); (try first | rw [if_pos c10_3] | rw [if_neg c10_3]); (try first | rw [if_pos c15_4] | rw [if_neg c15_4]); first | done | rfl | trivial) | (simp_all; done)), by rw [ht]; exact hP9, va_K.moved hW.alike hK, hD9⟩, hS.F ht⟩) hS.2.2 dX5_mark_37
      · skip
        refine lv_sipush (v := (-1001)) hx hb dX5_mark_18 (by decide) ?_
        have hP9 := hP.sub (ws' := [(h0, .inr (5, [.ref tr, .ref tc, .ref tg, .ref tf, .ref th, .ref tm, .ref to, .ref tp, .int up, .int bank, .long chain, .int (bI told)])), (tm, .inl (cI, 11, .inl f))]) [0, 1] rfl
        have hD9 := hD.sub (ws' := [(h0, .inr (5, [.ref tr, .ref tc, .ref tg, .ref tf, .ref th, .ref tm, .ref to, .ref tp, .int up, .int bank, .long chain, .int (bI told)])), (tm, .inl (cI, 11, .inl f))]) [0, 1] (by decide) rfl
        exact W.iret (v := (-1001)) hx hb hr (fun t ht hW => ⟨⟨(-1001), (f), rfl, (by first | rfl | trivial | (simp [c4_2, c10_3, c15_4]; done) | ((try first | rw [if_pos c4_2] | rw [if_neg c4_2]); (try first | rw [if_pos c10_3] | rw [if_neg c10_3]); (try first | rw [if_pos c15_4] | rw [if_neg c15_4]); first | done | rfl | trivial) | (simp_all; done)), by rw [ht]; exact hP9, va_K.moved hW.alike hK, hD9⟩, hS.F ht⟩) hS.2.2 dX5_mark_21

set_option maxRecDepth 20000 in
theorem in_X5_left_X5 : ∀ w ∈ wsX50, w ∈ wsX5_left := by decide +kernel
set_option maxRecDepth 20000 in
theorem wd_X5_left_0 : Cond.fieldLink RX5 19 "ShoeTable" "cards" "LShoeTable$Cards;" ∈ wsX5_left := by decide +kernel
set_option maxRecDepth 20000 in
theorem in_X5_left_X0 : ∀ w ∈ wsX00, w ∈ wsX5_left := by decide +kernel
set_option maxRecDepth 20000 in
theorem wd_X5_left_1 : Cond.fieldLink RX5 91 "ShoeTable$Cards" "total" "I" ∈ wsX5_left := by decide +kernel
set_option maxHeartbeats 400000 in
set_option maxRecDepth 100000 in
/-- X5_left -/
theorem c_X5_left (l : Launch) (D : va_G) (cI cJ cQ : ClassId) (h0 : Nat) (tr : Nat) (tc : Nat) (tg : Nat) (tf : Nat) (th : Nat) (tm : Nat) (to : Nat) (tp : Nat) (up : Int32) (bank : Int32) (chain : Int64) (told : Bool) (uc : Nat) (tot : Int32) (f : Nat → Int32) (p0 : Int32)  : Met l yX5_left wsX5_left ({ frames := 1, cells := 0, slots := 0, locals := 21 }) (va_Pc [.ref h0, .int p0] (rP D (gTy cI cJ cQ) [(h0, .inr (5, [.ref tr, .ref tc, .ref tg, .ref tf, .ref th, .ref tm, .ref to, .ref tp, .int up, .int bank, .long chain, .int (bI told)])), (tc, .inr (0, [.ref uc, .int tot])), (uc, .inl (cI, 11, .inl f))])) (vp_Si (fun r => r = if p0 = 0 then tot else if rkB p0 = 0 then -1001 else f p0.toNatClampNeg)) 0 0 (fun _ => False) := by
  refine Met.ofW (cc := cX5_left) (maxL := 2) (ret := (some .int)) (by decide) rfl ?_
  intro p e s m args below meth c s₁ B hml hv
  obtain ⟨rfl, hP, hK⟩ := hv
  have hx := B.exec
  have hb := B.bytes
  have hr := B.returns
  have hts := atoms_spec (ws := wsX5_left) B.pre
  have hown : s.vm.findClass RX5 = some m.cls := findClass_of_methodNamed B.named
  have hlocks := B.notSynchronized
  have hl := lv_entry ([.ref h0, .int p0]) (n := 2) (Nat.le_of_ble_eq_true rfl)
  rw [lg_entry_eq]
  generalize (lg_sl ([.ref h0, .int p0]) ++ List.replicate (2 - (lg_sl ([.ref h0, .int p0])).length) Slot.unset).toArray = ls at hl ⊢
  have hl : lv_has ls 2 [(0, .ref h0), (1, .int p0)] := hl
  refine lv_iload_n hx hb dX5_left_0 rfl (lv_at hl 1 rfl) ?_
  refine lv_if_ne (tgt := 12) hx hb dX5_left_1 (by decide) (fun c1_1 => ?_) (fun c1_1 => ?_)
  · skip
    refine lv_iload_n hx hb dX5_left_12 rfl (lv_at hl 1 rfl) ?_
    have hPc := hP.sub (ws' := []) [] rfl
    refine vp_callSi (W.runS (As := [.int p0]) (rest := []) ⟨hx, hb, hml, hown, hts⟩ (c_X5_isRank l D cI cJ cQ p0) (va_cwS 1 hts gX5_left_X5_isRank rfl rfl rfl (by decide +kernel) ⟨Nat.le_of_ble_eq_true rfl, Nat.le_of_ble_eq_true rfl⟩) (rP_preS hPc hK) rfl rfl hl.1 rfl (lv_room (Nat.le_of_ble_eq_true rfl)) dX5_left_13 ⟨Nat.le_of_ble_eq_true rfl, Nat.le_of_ble_eq_true rfl⟩) (fun r_2 hr_2 => ?_)
    subst hr_2
    refine lv_if_eq (tgt := 30) hx hb dX5_left_16 (by decide) (fun c16_3 => ?_) (fun c16_3 => ?_)
    · skip
      refine lv_sipush (v := (-1001)) hx hb dX5_left_30 (by decide) ?_
      exact W.iret (v := (-1001)) hx hb hr (fun t ht hW => ⟨_, rfl, (by first | (simp [c1_1, c16_3]; done) | (have q := rkB_rng c16_3; simp_all; done)), ht⟩) (fun q hq => absurd hq List.not_mem_nil) dX5_left_33
    · skip
      refine lv_aload_n hx hb dX5_left_19 rfl (lv_at hl 0 rfl) ?_
      refine va_get (D := D) (ci := 5) (v := .ref tc) (C := RX5) (T := TX5) (N := 12) hx hb hts in_X5_left_X5 hown hK hP 0 rfl rfl 1 (by decide) (hts _ wd_X5_left_0) (fun _ h9 => h9) rfl dX5_left_20 ?_
      refine lv_iload_n hx hb dX5_left_23 rfl (lv_at hl 1 rfl) ?_
      have hPc := hP.sub (ws' := [(tc, .inr (0, [.ref uc, .int tot])), (uc, .inl (cI, 11, .inl f))]) [1, 2] rfl
      refine vp_callSi (W.runV (As := [.int p0]) (rest := []) ⟨hx, hb, hml, hown, hts⟩ (c_X0_count l D cI cJ cQ tc uc tot (f) p0) (cwV 1 hts gX5_left_X0_count rfl rfl rfl (by decide +kernel) ⟨Nat.le_of_ble_eq_true rfl, Nat.le_of_ble_eq_true rfl⟩) (rP_preV (ci := 0) (q0 := 0) hPc hK rfl rfl) rfl rfl hl.1 rfl (lv_room (Nat.le_of_ble_eq_true rfl)) dX5_left_24 ⟨Nat.le_of_ble_eq_true rfl, Nat.le_of_ble_eq_true rfl⟩) (fun r_4 hr_4 => ?_)
      refine lv_goto (tgt := 33) hx hb dX5_left_27 (by decide) ?_
      exact W.iret (v := r_4) hx hb hr (fun t ht hW => ⟨_, rfl, (by first | (simp [c1_1, c16_3, hr_4]; done) | (have q := rkB_rng c16_3; simp_all; done)), ht⟩) (fun q hq => absurd hq List.not_mem_nil) dX5_left_33
  · skip
    refine lv_aload_n hx hb dX5_left_4 rfl (lv_at hl 0 rfl) ?_
    refine va_get (D := D) (ci := 5) (v := .ref tc) (C := RX5) (T := TX5) (N := 12) hx hb hts in_X5_left_X5 hown hK hP 0 rfl rfl 1 (by decide) (hts _ wd_X5_left_0) (fun _ h9 => h9) rfl dX5_left_5 ?_
    refine va_get (D := D) (ci := 0) (v := .int tot) (C := RX0) (T := TX0) (N := 2) hx hb hts in_X5_left_X0 hown hK hP 1 rfl rfl 1 (by decide) (hts _ wd_X5_left_1) (fun _ h9 => h9) rfl dX5_left_8 ?_
    exact W.iret (v := tot) hx hb hr (fun t ht hW => ⟨_, rfl, (by first | (simp [c1_1]; done) | (have q := rkB_rng c1_1; simp_all; done)), ht⟩) (fun q hq => absurd hq List.not_mem_nil) dX5_left_11

set_option maxRecDepth 20000 in
theorem in_X5_seed_X5 : ∀ w ∈ wsX50, w ∈ wsX5_seed := by decide +kernel
set_option maxRecDepth 20000 in
theorem wd_X5_seed_0 : Cond.fieldLink RX5 61 "ShoeTable" "chain" "J" ∈ wsX5_seed := by decide +kernel
set_option maxHeartbeats 400000 in
set_option maxRecDepth 100000 in
/-- X5_seed -/
theorem c_X5_seed (l : Launch) (D : va_G) (cI cJ cQ : ClassId) (sz : Nat) (h0 : Nat) (tr : Nat) (tc : Nat) (tg : Nat) (tf : Nat) (th : Nat) (tm : Nat) (to : Nat) (tp : Nat) (up : Int32) (bank : Int32) (chain : Int64) (told : Bool) (p0 : Int32)  : Met l yX5_seed wsX5_seed ({ frames := 0, cells := 0, slots := 0, locals := 0 }) (va_Pc [.ref h0, .int p0] (mP D (gTy cI cJ cQ) [(h0, .inr (5, [.ref tr, .ref tc, .ref tg, .ref tf, .ref th, .ref tm, .ref to, .ref tp, .int up, .int bank, .long chain, .int (bI told)]))] sz)) (va_Qi (fun (r : Int32) (u : Int64) => match u with | ch2 => r = 1 ∧ ch2 = p0.toInt64) (fun (u : Int64) t => match u with | ch2 => mB D (gTy cI cJ cQ) (va_A [(h0, .inr (5, [.ref tr, .ref tc, .ref tg, .ref tf, .ref th, .ref tm, .ref to, .ref tp, .int up, .int bank, .long chain, .int (bI told)]))] sz) [(h0, .inr (5, [.ref tr, .ref tc, .ref tg, .ref tf, .ref th, .ref tm, .ref to, .ref tp, .int up, .int bank, .long ch2, .int (bI told)]))] t) (va_A [(h0, .inr (5, [.ref tr, .ref tc, .ref tg, .ref tf, .ref th, .ref tm, .ref to, .ref tp, .int up, .int bank, .long chain, .int (bI told)]))] sz)) 0 0 (va_A [(h0, .inr (5, [.ref tr, .ref tc, .ref tg, .ref tf, .ref th, .ref tm, .ref to, .ref tp, .int up, .int bank, .long chain, .int (bI told)]))] sz) := by
  refine Met.ofW (cc := cX5_seed) (maxL := 2) (ret := (some .int)) (by decide) rfl ?_
  intro p e s m args below meth c s₁ B hml hv
  obtain ⟨rfl, hsz, hP, hK, hD0⟩ := hv
  have hx := B.exec
  have hb := B.bytes
  have hr := B.returns
  have hts := atoms_spec (ws := wsX5_seed) B.pre
  have hown : s.vm.findClass RX5 = some m.cls := findClass_of_methodNamed B.named
  have hlocks := B.notSynchronized
  subst hsz
  have hD := hD0.self (sz := s.heap.size)
  generalize hAe : va_A [(h0, .inr (5, [.ref tr, .ref tc, .ref tg, .ref tf, .ref th, .ref tm, .ref to, .ref tp, .int up, .int bank, .long chain, .int (bI told)]))] s.heap.size = A at hD ⊢
  have hA : ∀ q : Nat, s.heap.size ≤ q → A q := fun q h => by rw [← hAe]; exact Or.inr h
  have hS : va_S A s.heap s.heap [] := va_S.rf
  have hP : va_P D vwCl [(h0, .inr (5, [.ref tr, .ref tc, .ref tg, .ref tf, .ref th, .ref tm, .ref to, .ref tp, .int up, .int bank, .long chain, .int (bI told)]))] s.heap := hP
  have hl := lv_entry ([.ref h0, .int p0]) (n := 2) (Nat.le_of_ble_eq_true rfl)
  rw [lg_entry_eq]
  generalize (lg_sl ([.ref h0, .int p0]) ++ List.replicate (2 - (lg_sl ([.ref h0, .int p0])).length) Slot.unset).toArray = ls at hl ⊢
  have hl : lv_has ls 2 [(0, .ref h0), (1, .int p0)] := hl
  refine lv_aload_n hx hb dX5_seed_0 rfl (lv_at hl 0 rfl) ?_
  refine lv_iload_n hx hb dX5_seed_1 rfl (lv_at hl 1 rfl) ?_
  refine lv_i2l (v := p0.toInt64) hx hb dX5_seed_2 rfl ?_
  refine va_put (D := D) (ci := 5) (v := .long p0.toInt64) (ty := .long) (C := RX5) (T := TX5) (N := 12) hx hb hts in_X5_seed_X5 tyX5 tyX5_ok nmX5 hown hK hP hD hS 0 rfl rfl 10 (by decide) (hts _ wd_X5_seed_0) (fun _ h9 => h9) rfl (by decide +kernel) rfl rfl (Nat.le_of_ble_eq_true rfl) dX5_seed_3 (fun H locs hP hD hS => ?_)
  have hP : va_P D vwCl [(h0, .inr (5, [.ref tr, .ref tc, .ref tg, .ref tf, .ref th, .ref tm, .ref to, .ref tp, .int up, .int bank, .long p0.toInt64, .int (bI told)]))] H := hP
  have hD : va_D A [(h0, .inr (5, [.ref tr, .ref tc, .ref tg, .ref tf, .ref th, .ref tm, .ref to, .ref tp, .int up, .int bank, .long p0.toInt64, .int (bI told)]))] := hD
  refine lv_iconst (v := 1) hx hb dX5_seed_6 (by decide) ?_
  have hP9 := hP.sub (ws' := [(h0, .inr (5, [.ref tr, .ref tc, .ref tg, .ref tf, .ref th, .ref tm, .ref to, .ref tp, .int up, .int bank, .long p0.toInt64, .int (bI told)]))]) [0] rfl
  have hD9 := hD.sub (ws' := [(h0, .inr (5, [.ref tr, .ref tc, .ref tg, .ref tf, .ref th, .ref tm, .ref to, .ref tp, .int up, .int bank, .long p0.toInt64, .int (bI told)]))]) [0] (by decide) rfl
  exact W.iret (v := 1) hx hb hr (fun t ht hW => ⟨⟨1, p0.toInt64, rfl, (by first | rfl | trivial | (simp []; done) | rfl | (simp_all; done)), by rw [ht]; exact hP9, va_K.moved hW.alike hK, hD9⟩, hS.F ht⟩) hS.2.2 dX5_seed_7

set_option maxRecDepth 20000 in
theorem in_X5_clearTable_X5 : ∀ w ∈ wsX50, w ∈ wsX5_clearTable := by decide +kernel
set_option maxRecDepth 20000 in
theorem wd_X5_clearTable_0 : Cond.fieldLink RX5 32 "ShoeTable" "hand" "LShoeTable$Hand;" ∈ wsX5_clearTable := by decide +kernel
set_option maxRecDepth 20000 in
theorem wd_X5_clearTable_1 : Cond.fieldLink RX5 54 "ShoeTable" "up" "I" ∈ wsX5_clearTable := by decide +kernel
set_option maxHeartbeats 400000 in
set_option maxRecDepth 100000 in
/-- X5_clearTable -/
theorem c_X5_clearTable (l : Launch) (D : va_G) (cI cJ cQ : ClassId) (sz : Nat) (h0 : Nat) (tr : Nat) (tc : Nat) (tg : Nat) (tf : Nat) (th : Nat) (tm : Nat) (to : Nat) (tp : Nat) (up : Int32) (bank : Int32) (chain : Int64) (told : Bool) (uh : Nat) (n0 : Int32) (sm : Int32) (ace : Bool) (g : Nat → Int32)  : Met l yX5_clearTable wsX5_clearTable ({ frames := 1, cells := 0, slots := 0, locals := 20 }) (va_Pc [.ref h0] (mP D (gTy cI cJ cQ) [(h0, .inr (5, [.ref tr, .ref tc, .ref tg, .ref tf, .ref th, .ref tm, .ref to, .ref tp, .int up, .int bank, .long chain, .int (bI told)])), (th, .inr (1, [.ref uh, .int n0, .int sm, .int (bI ace)])), (uh, .inl (cI, 12, .inl g))] sz)) (va_Qv (fun (u : Unit) => match u with | _ => True) (fun (u : Unit) t => match u with | _ => mB D (gTy cI cJ cQ) (va_A [(h0, .inr (5, [.ref tr, .ref tc, .ref tg, .ref tf, .ref th, .ref tm, .ref to, .ref tp, .int up, .int bank, .long chain, .int (bI told)])), (th, .inr (1, [.ref uh, .int n0, .int sm, .int (bI ace)])), (uh, .inl (cI, 12, .inl g))] sz) [(h0, .inr (5, [.ref tr, .ref tc, .ref tg, .ref tf, .ref th, .ref tm, .ref to, .ref tp, .int (-1), .int bank, .long chain, .int (bI told)])), (th, .inr (1, [.ref uh, .int 0, .int 0, .int 0])), (uh, .inl (cI, 12, .inl g))] t) (va_A [(h0, .inr (5, [.ref tr, .ref tc, .ref tg, .ref tf, .ref th, .ref tm, .ref to, .ref tp, .int up, .int bank, .long chain, .int (bI told)])), (th, .inr (1, [.ref uh, .int n0, .int sm, .int (bI ace)])), (uh, .inl (cI, 12, .inl g))] sz)) 0 0 (va_A [(h0, .inr (5, [.ref tr, .ref tc, .ref tg, .ref tf, .ref th, .ref tm, .ref to, .ref tp, .int up, .int bank, .long chain, .int (bI told)])), (th, .inr (1, [.ref uh, .int n0, .int sm, .int (bI ace)])), (uh, .inl (cI, 12, .inl g))] sz) := by
  refine Met.ofW (cc := cX5_clearTable) (maxL := 1) (ret := none) (by decide) rfl ?_
  intro p e s m args below meth c s₁ B hml hv
  obtain ⟨rfl, hsz, hP, hK, hD0⟩ := hv
  have hx := B.exec
  have hb := B.bytes
  have hr := B.returns
  have hts := atoms_spec (ws := wsX5_clearTable) B.pre
  have hown : s.vm.findClass RX5 = some m.cls := findClass_of_methodNamed B.named
  have hlocks := B.notSynchronized
  subst hsz
  have hD := hD0.self (sz := s.heap.size)
  generalize hAe : va_A [(h0, .inr (5, [.ref tr, .ref tc, .ref tg, .ref tf, .ref th, .ref tm, .ref to, .ref tp, .int up, .int bank, .long chain, .int (bI told)])), (th, .inr (1, [.ref uh, .int n0, .int sm, .int (bI ace)])), (uh, .inl (cI, 12, .inl g))] s.heap.size = A at hD ⊢
  have hA : ∀ q : Nat, s.heap.size ≤ q → A q := fun q h => by rw [← hAe]; exact Or.inr h
  have hS : va_S A s.heap s.heap [] := va_S.rf
  have hP : va_P D vwCl [(h0, .inr (5, [.ref tr, .ref tc, .ref tg, .ref tf, .ref th, .ref tm, .ref to, .ref tp, .int up, .int bank, .long chain, .int (bI told)])), (th, .inr (1, [.ref uh, .int n0, .int sm, .int (bI ace)])), (uh, .inl (cI, 12, .inl g))] s.heap := hP
  have hl := lv_entry ([.ref h0]) (n := 1) (Nat.le_of_ble_eq_true rfl)
  rw [lg_entry_eq]
  generalize (lg_sl ([.ref h0]) ++ List.replicate (1 - (lg_sl ([.ref h0])).length) Slot.unset).toArray = ls at hl ⊢
  have hl : lv_has ls 1 [(0, .ref h0)] := hl
  refine lv_aload_n hx hb dX5_clearTable_0 rfl (lv_at hl 0 rfl) ?_
  refine va_get (D := D) (ci := 5) (v := .ref th) (C := RX5) (T := TX5) (N := 12) hx hb hts in_X5_clearTable_X5 hown hK hP 0 rfl rfl 4 (by decide) (hts _ wd_X5_clearTable_0) (fun _ h9 => h9) rfl dX5_clearTable_1 ?_
  have hPc := hP.sub (ws' := [(th, .inr (1, [.ref uh, .int n0, .int sm, .int (bI ace)])), (uh, .inl (cI, 12, .inl g))]) [1, 2] rfl
  have hDc := hD.sub (ws' := [(th, .inr (1, [.ref uh, .int n0, .int sm, .int (bI ace)])), (uh, .inl (cI, 12, .inl g))]) [1, 2] (by decide) rfl
  have hFc := va_free (wc := [(th, .inr (1, [.ref uh, .int n0, .int sm, .int (bI ace)])), (uh, .inl (cI, 12, .inl g))]) hD hS hA [1, 2] rfl
  refine va_callv (va_runV (As := []) (rest := []) ⟨hx, hb, hml, hown, hts⟩ (c_X1_clear l D cI cJ cQ _ th uh n0 sm ace (g)) (cwV 0 hts gX5_clearTable_X1_clear rfl rfl rfl (by decide +kernel) ⟨Nat.le_of_ble_eq_true rfl, Nat.le_of_ble_eq_true rfl⟩) (mP_preV (ci := 1) (q0 := 0) hPc hK hDc rfl rfl) rfl rfl hl.1 rfl (lv_room (Nat.le_of_ble_eq_true rfl)) dX5_clearTable_4 ⟨Nat.le_of_ble_eq_true rfl, Nat.le_of_ble_eq_true rfl⟩) hS (fun q _ h => hFc q h) hFc (fun u_r_1 t H1 locs ht hvm hr_1 hB hz1 hk1 hS => ?_)
  obtain ⟨hP1, hK1, hD1⟩ := hB
  rw [ht] at hP1
  try dsimp only at hr_1
  obtain ⟨hP, hD⟩ := va_join (wr := [(h0, .inr (5, [.ref tr, .ref tc, .ref tg, .ref tf, .ref th, .ref tm, .ref to, .ref tp, .int up, .int bank, .long chain, .int (bI told)]))]) (w1 := [(th, .inr (1, [.ref uh, .int 0, .int 0, .int 0])), (uh, .inl (cI, 12, .inl (g)))]) hP hD [1, 2] [0] rfl rfl (by decide) (by decide) hk1 hFc hP1 hD1
  generalize H1 = H at hP hS ⊢
  have hP : va_P D vwCl [(h0, .inr (5, [.ref tr, .ref tc, .ref tg, .ref tf, .ref th, .ref tm, .ref to, .ref tp, .int up, .int bank, .long chain, .int (bI told)])), (th, .inr (1, [.ref uh, .int 0, .int 0, .int 0])), (uh, .inl (cI, 12, .inl (g)))] H := hP
  have hD : va_D A [(h0, .inr (5, [.ref tr, .ref tc, .ref tg, .ref tf, .ref th, .ref tm, .ref to, .ref tp, .int up, .int bank, .long chain, .int (bI told)])), (th, .inr (1, [.ref uh, .int 0, .int 0, .int 0])), (uh, .inl (cI, 12, .inl (g)))] := hD
  refine lv_aload_n hx hb dX5_clearTable_7 rfl (lv_at hl 0 rfl) ?_
  refine lv_iconst (v := (-1)) hx hb dX5_clearTable_8 (by decide) ?_
  refine va_put (D := D) (ci := 5) (v := .int (-1)) (ty := .int) (C := RX5) (T := TX5) (N := 12) hx hb hts in_X5_clearTable_X5 tyX5 tyX5_ok nmX5 hown hK hP hD hS 0 rfl rfl 8 (by decide) (hts _ wd_X5_clearTable_1) (fun _ h9 => h9) rfl (by decide +kernel) rfl rfl (Nat.le_of_ble_eq_true rfl) dX5_clearTable_9 (fun H locs hP hD hS => ?_)
  have hP : va_P D vwCl [(h0, .inr (5, [.ref tr, .ref tc, .ref tg, .ref tf, .ref th, .ref tm, .ref to, .ref tp, .int (-1), .int bank, .long chain, .int (bI told)])), (th, .inr (1, [.ref uh, .int 0, .int 0, .int 0])), (uh, .inl (cI, 12, .inl (g)))] H := hP
  have hD : va_D A [(h0, .inr (5, [.ref tr, .ref tc, .ref tg, .ref tf, .ref th, .ref tm, .ref to, .ref tp, .int (-1), .int bank, .long chain, .int (bI told)])), (th, .inr (1, [.ref uh, .int 0, .int 0, .int 0])), (uh, .inl (cI, 12, .inl (g)))] := hD
  have hP9 := hP.sub (ws' := [(h0, .inr (5, [.ref tr, .ref tc, .ref tg, .ref tf, .ref th, .ref tm, .ref to, .ref tp, .int (-1), .int bank, .long chain, .int (bI told)])), (th, .inr (1, [.ref uh, .int 0, .int 0, .int 0])), (uh, .inl (cI, 12, .inl (g)))]) [0, 1, 2] rfl
  have hD9 := hD.sub (ws' := [(h0, .inr (5, [.ref tr, .ref tc, .ref tg, .ref tf, .ref th, .ref tm, .ref to, .ref tp, .int (-1), .int bank, .long chain, .int (bI told)])), (th, .inr (1, [.ref uh, .int 0, .int 0, .int 0])), (uh, .inl (cI, 12, .inl (g)))]) [0, 1, 2] (by decide) rfl
  exact W.vret hx hb hr (fun t ht hW => ⟨⟨(), rfl, (by first | rfl | trivial | (simp [hr_1]; done) | ((try first | rw [if_pos hr_1] | rw [if_neg hr_1]); first | done | rfl | trivial) | (simp_all; done)), by rw [ht]; exact hP9, va_K.moved hW.alike hK, hD9⟩, hS.F ht⟩) hS.2.2 dX5_clearTable_12

set_option maxRecDepth 20000 in
theorem in_X5_lay_X5 : ∀ w ∈ wsX50, w ∈ wsX5_lay := by decide +kernel
set_option maxRecDepth 20000 in
theorem wd_X5_lay_0 : Cond.fieldLink RX5 32 "ShoeTable" "hand" "LShoeTable$Hand;" ∈ wsX5_lay := by decide +kernel
set_option maxRecDepth 20000 in
theorem in_X5_lay_X1 : ∀ w ∈ wsX10, w ∈ wsX5_lay := by decide +kernel
set_option maxRecDepth 20000 in
theorem wd_X5_lay_1 : Cond.fieldLink RX5 112 "ShoeTable$Hand" "size" "I" ∈ wsX5_lay := by decide +kernel
set_option maxRecDepth 20000 in
theorem wd_X5_lay_2 : Cond.fieldLink RX5 54 "ShoeTable" "up" "I" ∈ wsX5_lay := by decide +kernel
set_option maxHeartbeats 400000 in
set_option maxRecDepth 100000 in
/-- X5_lay -/
theorem c_X5_lay (l : Launch) (D : va_G) (cI cJ cQ : ClassId) (sz : Nat) (h0 : Nat) (tr : Nat) (tc : Nat) (tg : Nat) (tf : Nat) (th : Nat) (tm : Nat) (to : Nat) (tp : Nat) (up : Int32) (bank : Int32) (chain : Int64) (told : Bool) (uh : Nat) (n0 : Int32) (sm : Int32) (ace : Bool) (g : Nat → Int32)  : Met l yX5_lay wsX5_lay ({ frames := 2, cells := 0, slots := 0, locals := 40 }) (va_Pc [.ref h0] (mP D (gTy cI cJ cQ) [(h0, .inr (5, [.ref tr, .ref tc, .ref tg, .ref tf, .ref th, .ref tm, .ref to, .ref tp, .int up, .int bank, .long chain, .int (bI told)])), (th, .inr (1, [.ref uh, .int n0, .int sm, .int (bI ace)])), (uh, .inl (cI, 12, .inl g))] sz)) (va_Qi (fun (r : Int32) (u : Unit) => match u with | _ => r = n0 + (if up = -1 then 0 else 1)) (fun (u : Unit) t => match u with | _ => mB D (gTy cI cJ cQ) (va_A [(h0, .inr (5, [.ref tr, .ref tc, .ref tg, .ref tf, .ref th, .ref tm, .ref to, .ref tp, .int up, .int bank, .long chain, .int (bI told)])), (th, .inr (1, [.ref uh, .int n0, .int sm, .int (bI ace)])), (uh, .inl (cI, 12, .inl g))] sz) [(h0, .inr (5, [.ref tr, .ref tc, .ref tg, .ref tf, .ref th, .ref tm, .ref to, .ref tp, .int (-1), .int bank, .long chain, .int (bI told)])), (th, .inr (1, [.ref uh, .int 0, .int 0, .int 0])), (uh, .inl (cI, 12, .inl g))] t) (va_A [(h0, .inr (5, [.ref tr, .ref tc, .ref tg, .ref tf, .ref th, .ref tm, .ref to, .ref tp, .int up, .int bank, .long chain, .int (bI told)])), (th, .inr (1, [.ref uh, .int n0, .int sm, .int (bI ace)])), (uh, .inl (cI, 12, .inl g))] sz)) 0 0 (va_A [(h0, .inr (5, [.ref tr, .ref tc, .ref tg, .ref tf, .ref th, .ref tm, .ref to, .ref tp, .int up, .int bank, .long chain, .int (bI told)])), (th, .inr (1, [.ref uh, .int n0, .int sm, .int (bI ace)])), (uh, .inl (cI, 12, .inl g))] sz) := by
  refine Met.ofW (cc := cX5_lay) (maxL := 2) (ret := (some .int)) (by decide) rfl ?_
  intro p e s m args below meth c s₁ B hml hv
  obtain ⟨rfl, hsz, hP, hK, hD0⟩ := hv
  have hx := B.exec
  have hb := B.bytes
  have hr := B.returns
  have hts := atoms_spec (ws := wsX5_lay) B.pre
  have hown : s.vm.findClass RX5 = some m.cls := findClass_of_methodNamed B.named
  have hlocks := B.notSynchronized
  subst hsz
  have hD := hD0.self (sz := s.heap.size)
  generalize hAe : va_A [(h0, .inr (5, [.ref tr, .ref tc, .ref tg, .ref tf, .ref th, .ref tm, .ref to, .ref tp, .int up, .int bank, .long chain, .int (bI told)])), (th, .inr (1, [.ref uh, .int n0, .int sm, .int (bI ace)])), (uh, .inl (cI, 12, .inl g))] s.heap.size = A at hD ⊢
  have hA : ∀ q : Nat, s.heap.size ≤ q → A q := fun q h => by rw [← hAe]; exact Or.inr h
  have hS : va_S A s.heap s.heap [] := va_S.rf
  have hP : va_P D vwCl [(h0, .inr (5, [.ref tr, .ref tc, .ref tg, .ref tf, .ref th, .ref tm, .ref to, .ref tp, .int up, .int bank, .long chain, .int (bI told)])), (th, .inr (1, [.ref uh, .int n0, .int sm, .int (bI ace)])), (uh, .inl (cI, 12, .inl g))] s.heap := hP
  have hl := lv_entry ([.ref h0]) (n := 2) (Nat.le_of_ble_eq_true rfl)
  rw [lg_entry_eq]
  generalize (lg_sl ([.ref h0]) ++ List.replicate (2 - (lg_sl ([.ref h0])).length) Slot.unset).toArray = ls at hl ⊢
  have hl : lv_has ls 2 [(0, .ref h0)] := hl
  refine lv_aload_n hx hb dX5_lay_0 rfl (lv_at hl 0 rfl) ?_
  refine va_get (D := D) (ci := 5) (v := .ref th) (C := RX5) (T := TX5) (N := 12) hx hb hts in_X5_lay_X5 hown hK hP 0 rfl rfl 4 (by decide) (hts _ wd_X5_lay_0) (fun _ h9 => h9) rfl dX5_lay_1 ?_
  refine va_get (D := D) (ci := 1) (v := .int n0) (C := RX1) (T := TX1) (N := 4) hx hb hts in_X5_lay_X1 hown hK hP 1 rfl rfl 1 (by decide) (hts _ wd_X5_lay_1) (fun _ h9 => h9) rfl dX5_lay_4 ?_
  refine lv_aload_n hx hb dX5_lay_7 rfl (lv_at hl 0 rfl) ?_
  refine va_get (D := D) (ci := 5) (v := .int up) (C := RX5) (T := TX5) (N := 12) hx hb hts in_X5_lay_X5 hown hK hP 0 rfl rfl 8 (by decide) (hts _ wd_X5_lay_2) (fun _ h9 => h9) rfl dX5_lay_8 ?_
  refine lv_iconst (v := (-1)) hx hb dX5_lay_11 (by decide) ?_
  refine lv_icmp_ne (tgt := 19) hx hb dX5_lay_12 (by decide) (fun c12_1 => ?_) (fun c12_1 => ?_)
  · skip
    refine lv_iconst (v := 1) hx hb dX5_lay_19 (by decide) ?_
    refine lv_iadd hx hb dX5_lay_20 ?_
    refine lv_istore_n (lv' := [(1, .int (n0 + 1)), (0, .ref h0)]) hx hb dX5_lay_21 rfl hl (by decide) rfl (fun ls hl => ?_)
    refine lv_aload_n hx hb dX5_lay_22 rfl (lv_at hl 1 rfl) ?_
    have hPc := hP.sub (ws' := [(h0, .inr (5, [.ref tr, .ref tc, .ref tg, .ref tf, .ref th, .ref tm, .ref to, .ref tp, .int up, .int bank, .long chain, .int (bI told)])), (th, .inr (1, [.ref uh, .int n0, .int sm, .int (bI ace)])), (uh, .inl (cI, 12, .inl g))]) [0, 1, 2] rfl
    have hDc := hD.sub (ws' := [(h0, .inr (5, [.ref tr, .ref tc, .ref tg, .ref tf, .ref th, .ref tm, .ref to, .ref tp, .int up, .int bank, .long chain, .int (bI told)])), (th, .inr (1, [.ref uh, .int n0, .int sm, .int (bI ace)])), (uh, .inl (cI, 12, .inl g))]) [0, 1, 2] (by decide) rfl
    have hFc := va_free (wc := [(h0, .inr (5, [.ref tr, .ref tc, .ref tg, .ref tf, .ref th, .ref tm, .ref to, .ref tp, .int up, .int bank, .long chain, .int (bI told)])), (th, .inr (1, [.ref uh, .int n0, .int sm, .int (bI ace)])), (uh, .inl (cI, 12, .inl g))]) hD hS hA [0, 1, 2] rfl
    refine va_callv (va_runV (As := []) (rest := []) ⟨hx, hb, hml, hown, hts⟩ (c_X5_clearTable l D cI cJ cQ _ h0 tr tc tg tf th tm to tp up bank chain told uh n0 sm ace (g)) (cwV 0 hts gX5_lay_X5_clearTable rfl rfl rfl (by decide +kernel) ⟨Nat.le_of_ble_eq_true rfl, Nat.le_of_ble_eq_true rfl⟩) (mP_preV (ci := 5) (q0 := 0) hPc hK hDc rfl rfl) rfl rfl hl.1 rfl (lv_room (Nat.le_of_ble_eq_true rfl)) dX5_lay_23 ⟨Nat.le_of_ble_eq_true rfl, Nat.le_of_ble_eq_true rfl⟩) hS (fun q _ h => hFc q h) hFc (fun u_r_2 t H1 locs ht hvm hr_2 hB hz1 hk1 hS => ?_)
    obtain ⟨hP1, hK1, hD1⟩ := hB
    rw [ht] at hP1
    try dsimp only at hr_2
    obtain ⟨hP, hD⟩ := va_join (wr := []) (w1 := [(h0, .inr (5, [.ref tr, .ref tc, .ref tg, .ref tf, .ref th, .ref tm, .ref to, .ref tp, .int (-1), .int bank, .long chain, .int (bI told)])), (th, .inr (1, [.ref uh, .int 0, .int 0, .int 0])), (uh, .inl (cI, 12, .inl (g)))]) hP hD [0, 1, 2] [] rfl rfl (by decide) (by decide) hk1 hFc hP1 hD1
    generalize H1 = H at hP hS ⊢
    have hP : va_P D vwCl [(h0, .inr (5, [.ref tr, .ref tc, .ref tg, .ref tf, .ref th, .ref tm, .ref to, .ref tp, .int (-1), .int bank, .long chain, .int (bI told)])), (th, .inr (1, [.ref uh, .int 0, .int 0, .int 0])), (uh, .inl (cI, 12, .inl (g)))] H := hP
    have hD : va_D A [(h0, .inr (5, [.ref tr, .ref tc, .ref tg, .ref tf, .ref th, .ref tm, .ref to, .ref tp, .int (-1), .int bank, .long chain, .int (bI told)])), (th, .inr (1, [.ref uh, .int 0, .int 0, .int 0])), (uh, .inl (cI, 12, .inl (g)))] := hD
    refine lv_iload_n hx hb dX5_lay_26 rfl (lv_at hl 0 rfl) ?_
    have hP9 := hP.sub (ws' := [(h0, .inr (5, [.ref tr, .ref tc, .ref tg, .ref tf, .ref th, .ref tm, .ref to, .ref tp, .int (-1), .int bank, .long chain, .int (bI told)])), (th, .inr (1, [.ref uh, .int 0, .int 0, .int 0])), (uh, .inl (cI, 12, .inl (g)))]) [0, 1, 2] rfl
    have hD9 := hD.sub (ws' := [(h0, .inr (5, [.ref tr, .ref tc, .ref tg, .ref tf, .ref th, .ref tm, .ref to, .ref tp, .int (-1), .int bank, .long chain, .int (bI told)])), (th, .inr (1, [.ref uh, .int 0, .int 0, .int 0])), (uh, .inl (cI, 12, .inl (g)))]) [0, 1, 2] (by decide) rfl
    exact W.iret (v := (n0 + 1)) hx hb hr (fun t ht hW => ⟨⟨(n0 + 1), (), rfl, (by first | rfl | trivial | (simp [c12_1, hr_2]; done) | ((try first | rw [if_pos c12_1] | rw [if_neg c12_1]); (try first | rw [if_pos hr_2] | rw [if_neg hr_2]); first | done | rfl | trivial) | (simp_all; done)), by rw [ht]; exact hP9, va_K.moved hW.alike hK, hD9⟩, hS.F ht⟩) hS.2.2 dX5_lay_27
  · skip
    refine lv_iconst (v := 0) hx hb dX5_lay_15 (by decide) ?_
    refine lv_goto (tgt := 20) hx hb dX5_lay_16 (by decide) ?_
    refine lv_iadd hx hb dX5_lay_20 ?_
    refine lv_istore_n (lv' := [(1, .int (n0 + 0)), (0, .ref h0)]) hx hb dX5_lay_21 rfl hl (by decide) rfl (fun ls hl => ?_)
    refine lv_aload_n hx hb dX5_lay_22 rfl (lv_at hl 1 rfl) ?_
    have hPc := hP.sub (ws' := [(h0, .inr (5, [.ref tr, .ref tc, .ref tg, .ref tf, .ref th, .ref tm, .ref to, .ref tp, .int up, .int bank, .long chain, .int (bI told)])), (th, .inr (1, [.ref uh, .int n0, .int sm, .int (bI ace)])), (uh, .inl (cI, 12, .inl g))]) [0, 1, 2] rfl
    have hDc := hD.sub (ws' := [(h0, .inr (5, [.ref tr, .ref tc, .ref tg, .ref tf, .ref th, .ref tm, .ref to, .ref tp, .int up, .int bank, .long chain, .int (bI told)])), (th, .inr (1, [.ref uh, .int n0, .int sm, .int (bI ace)])), (uh, .inl (cI, 12, .inl g))]) [0, 1, 2] (by decide) rfl
    have hFc := va_free (wc := [(h0, .inr (5, [.ref tr, .ref tc, .ref tg, .ref tf, .ref th, .ref tm, .ref to, .ref tp, .int up, .int bank, .long chain, .int (bI told)])), (th, .inr (1, [.ref uh, .int n0, .int sm, .int (bI ace)])), (uh, .inl (cI, 12, .inl g))]) hD hS hA [0, 1, 2] rfl
    refine va_callv (va_runV (As := []) (rest := []) ⟨hx, hb, hml, hown, hts⟩ (c_X5_clearTable l D cI cJ cQ _ h0 tr tc tg tf th tm to tp up bank chain told uh n0 sm ace (g)) (cwV 0 hts gX5_lay_X5_clearTable rfl rfl rfl (by decide +kernel) ⟨Nat.le_of_ble_eq_true rfl, Nat.le_of_ble_eq_true rfl⟩) (mP_preV (ci := 5) (q0 := 0) hPc hK hDc rfl rfl) rfl rfl hl.1 rfl (lv_room (Nat.le_of_ble_eq_true rfl)) dX5_lay_23 ⟨Nat.le_of_ble_eq_true rfl, Nat.le_of_ble_eq_true rfl⟩) hS (fun q _ h => hFc q h) hFc (fun u_r_3 t H1 locs ht hvm hr_3 hB hz1 hk1 hS => ?_)
    obtain ⟨hP1, hK1, hD1⟩ := hB
    rw [ht] at hP1
    try dsimp only at hr_3
    obtain ⟨hP, hD⟩ := va_join (wr := []) (w1 := [(h0, .inr (5, [.ref tr, .ref tc, .ref tg, .ref tf, .ref th, .ref tm, .ref to, .ref tp, .int (-1), .int bank, .long chain, .int (bI told)])), (th, .inr (1, [.ref uh, .int 0, .int 0, .int 0])), (uh, .inl (cI, 12, .inl (g)))]) hP hD [0, 1, 2] [] rfl rfl (by decide) (by decide) hk1 hFc hP1 hD1
    generalize H1 = H at hP hS ⊢
    have hP : va_P D vwCl [(h0, .inr (5, [.ref tr, .ref tc, .ref tg, .ref tf, .ref th, .ref tm, .ref to, .ref tp, .int (-1), .int bank, .long chain, .int (bI told)])), (th, .inr (1, [.ref uh, .int 0, .int 0, .int 0])), (uh, .inl (cI, 12, .inl (g)))] H := hP
    have hD : va_D A [(h0, .inr (5, [.ref tr, .ref tc, .ref tg, .ref tf, .ref th, .ref tm, .ref to, .ref tp, .int (-1), .int bank, .long chain, .int (bI told)])), (th, .inr (1, [.ref uh, .int 0, .int 0, .int 0])), (uh, .inl (cI, 12, .inl (g)))] := hD
    refine lv_iload_n hx hb dX5_lay_26 rfl (lv_at hl 0 rfl) ?_
    have hP9 := hP.sub (ws' := [(h0, .inr (5, [.ref tr, .ref tc, .ref tg, .ref tf, .ref th, .ref tm, .ref to, .ref tp, .int (-1), .int bank, .long chain, .int (bI told)])), (th, .inr (1, [.ref uh, .int 0, .int 0, .int 0])), (uh, .inl (cI, 12, .inl (g)))]) [0, 1, 2] rfl
    have hD9 := hD.sub (ws' := [(h0, .inr (5, [.ref tr, .ref tc, .ref tg, .ref tf, .ref th, .ref tm, .ref to, .ref tp, .int (-1), .int bank, .long chain, .int (bI told)])), (th, .inr (1, [.ref uh, .int 0, .int 0, .int 0])), (uh, .inl (cI, 12, .inl (g)))]) [0, 1, 2] (by decide) rfl
    exact W.iret (v := (n0 + 0)) hx hb hr (fun t ht hW => ⟨⟨(n0 + 0), (), rfl, (by first | rfl | trivial | (simp [c12_1, hr_3]; done) | ((try first | rw [if_pos c12_1] | rw [if_neg c12_1]); (try first | rw [if_pos hr_3] | rw [if_neg hr_3]); first | done | rfl | trivial) | (simp_all; done)), by rw [ht]; exact hP9, va_K.moved hW.alike hK, hD9⟩, hS.F ht⟩) hS.2.2 dX5_lay_27

set_option maxRecDepth 20000 in
theorem in_X5_fresh_X5 : ∀ w ∈ wsX50, w ∈ wsX5_fresh := by decide +kernel
set_option maxRecDepth 20000 in
theorem wd_X5_fresh_0 : Cond.fieldLink RX5 23 "ShoeTable" "gone" "LShoeTable$Cards;" ∈ wsX5_fresh := by decide +kernel
set_option maxRecDepth 20000 in
theorem wd_X5_fresh_1 : Cond.fieldLink RX5 26 "ShoeTable" "atFresh" "LShoeTable$Cards;" ∈ wsX5_fresh := by decide +kernel
set_option maxRecDepth 20000 in
theorem wd_X5_fresh_2 : Cond.fieldLink RX5 19 "ShoeTable" "cards" "LShoeTable$Cards;" ∈ wsX5_fresh := by decide +kernel
set_option maxRecDepth 20000 in
theorem wd_X5_fresh_3 : Cond.fieldLink RX5 65 "ShoeTable" "shoeTold" "Z" ∈ wsX5_fresh := by decide +kernel
set_option maxRecDepth 20000 in
theorem in_X5_fresh_X0 : ∀ w ∈ wsX00, w ∈ wsX5_fresh := by decide +kernel
set_option maxRecDepth 20000 in
theorem wd_X5_fresh_4 : Cond.fieldLink RX5 91 "ShoeTable$Cards" "total" "I" ∈ wsX5_fresh := by decide +kernel
set_option maxHeartbeats 400000 in
set_option maxRecDepth 100000 in
/-- X5_fresh -/
theorem c_X5_fresh (l : Launch) (D : va_G) (cI cJ cQ : ClassId) (sz : Nat) (h0 : Nat) (tr : Nat) (tc : Nat) (tg : Nat) (tf : Nat) (th : Nat) (tm : Nat) (to : Nat) (tp : Nat) (up : Int32) (bank : Int32) (chain : Int64) (told : Bool) (ug : Nat) (totg : Int32) (fg : Nat → Int32) (uf : Nat) (totf : Int32) (ff : Nat → Int32) (uc : Nat) (tot : Int32) (f : Nat → Int32) (uh : Nat) (n0 : Int32) (sm : Int32) (ace : Bool) (g : Nat → Int32)  : Met l yX5_fresh wsX5_fresh ({ frames := 2, cells := 0, slots := 0, locals := 61 }) (va_Pc [.ref h0] (mP D (gTy cI cJ cQ) [(h0, .inr (5, [.ref tr, .ref tc, .ref tg, .ref tf, .ref th, .ref tm, .ref to, .ref tp, .int up, .int bank, .long chain, .int (bI told)])), (tg, .inr (0, [.ref ug, .int totg])), (ug, .inl (cI, 11, .inl fg)), (tf, .inr (0, [.ref uf, .int totf])), (uf, .inl (cI, 11, .inl ff)), (tc, .inr (0, [.ref uc, .int tot])), (uc, .inl (cI, 11, .inl f)), (th, .inr (1, [.ref uh, .int n0, .int sm, .int (bI ace)])), (uh, .inl (cI, 12, .inl g))] sz)) (va_Qi (fun (r : Int32) (u : Int32 × (Nat → Int32) × Int32 × (Nat → Int32)) => match u with | (totg2, fg2, totf2, ff2) => r = tot ∧ totg2 = 0 ∧ (∀ j, j < 11 → fg2 j = 0) ∧ totf2 = tot ∧ (∀ j, j < 11 → ff2 j = f j)) (fun (u : Int32 × (Nat → Int32) × Int32 × (Nat → Int32)) t => match u with | (totg2, fg2, totf2, ff2) => mB D (gTy cI cJ cQ) (va_A [(h0, .inr (5, [.ref tr, .ref tc, .ref tg, .ref tf, .ref th, .ref tm, .ref to, .ref tp, .int up, .int bank, .long chain, .int (bI told)])), (tg, .inr (0, [.ref ug, .int totg])), (ug, .inl (cI, 11, .inl fg)), (tf, .inr (0, [.ref uf, .int totf])), (uf, .inl (cI, 11, .inl ff)), (tc, .inr (0, [.ref uc, .int tot])), (uc, .inl (cI, 11, .inl f)), (th, .inr (1, [.ref uh, .int n0, .int sm, .int (bI ace)])), (uh, .inl (cI, 12, .inl g))] sz) [(h0, .inr (5, [.ref tr, .ref tc, .ref tg, .ref tf, .ref th, .ref tm, .ref to, .ref tp, .int (-1), .int bank, .long chain, .int 0])), (tg, .inr (0, [.ref ug, .int totg2])), (ug, .inl (cI, 11, .inl fg2)), (tf, .inr (0, [.ref uf, .int totf2])), (uf, .inl (cI, 11, .inl ff2)), (tc, .inr (0, [.ref uc, .int tot])), (uc, .inl (cI, 11, .inl f)), (th, .inr (1, [.ref uh, .int 0, .int 0, .int 0])), (uh, .inl (cI, 12, .inl g))] t) (va_A [(h0, .inr (5, [.ref tr, .ref tc, .ref tg, .ref tf, .ref th, .ref tm, .ref to, .ref tp, .int up, .int bank, .long chain, .int (bI told)])), (tg, .inr (0, [.ref ug, .int totg])), (ug, .inl (cI, 11, .inl fg)), (tf, .inr (0, [.ref uf, .int totf])), (uf, .inl (cI, 11, .inl ff)), (tc, .inr (0, [.ref uc, .int tot])), (uc, .inl (cI, 11, .inl f)), (th, .inr (1, [.ref uh, .int n0, .int sm, .int (bI ace)])), (uh, .inl (cI, 12, .inl g))] sz)) 0 0 (va_A [(h0, .inr (5, [.ref tr, .ref tc, .ref tg, .ref tf, .ref th, .ref tm, .ref to, .ref tp, .int up, .int bank, .long chain, .int (bI told)])), (tg, .inr (0, [.ref ug, .int totg])), (ug, .inl (cI, 11, .inl fg)), (tf, .inr (0, [.ref uf, .int totf])), (uf, .inl (cI, 11, .inl ff)), (tc, .inr (0, [.ref uc, .int tot])), (uc, .inl (cI, 11, .inl f)), (th, .inr (1, [.ref uh, .int n0, .int sm, .int (bI ace)])), (uh, .inl (cI, 12, .inl g))] sz) := by
  refine Met.ofW (cc := cX5_fresh) (maxL := 1) (ret := (some .int)) (by decide) rfl ?_
  intro p e s m args below meth c s₁ B hml hv
  obtain ⟨rfl, hsz, hP, hK, hD0⟩ := hv
  have hx := B.exec
  have hb := B.bytes
  have hr := B.returns
  have hts := atoms_spec (ws := wsX5_fresh) B.pre
  have hown : s.vm.findClass RX5 = some m.cls := findClass_of_methodNamed B.named
  have hlocks := B.notSynchronized
  subst hsz
  have hD := hD0.self (sz := s.heap.size)
  generalize hAe : va_A [(h0, .inr (5, [.ref tr, .ref tc, .ref tg, .ref tf, .ref th, .ref tm, .ref to, .ref tp, .int up, .int bank, .long chain, .int (bI told)])), (tg, .inr (0, [.ref ug, .int totg])), (ug, .inl (cI, 11, .inl fg)), (tf, .inr (0, [.ref uf, .int totf])), (uf, .inl (cI, 11, .inl ff)), (tc, .inr (0, [.ref uc, .int tot])), (uc, .inl (cI, 11, .inl f)), (th, .inr (1, [.ref uh, .int n0, .int sm, .int (bI ace)])), (uh, .inl (cI, 12, .inl g))] s.heap.size = A at hD ⊢
  have hA : ∀ q : Nat, s.heap.size ≤ q → A q := fun q h => by rw [← hAe]; exact Or.inr h
  have hS : va_S A s.heap s.heap [] := va_S.rf
  have hP : va_P D vwCl [(h0, .inr (5, [.ref tr, .ref tc, .ref tg, .ref tf, .ref th, .ref tm, .ref to, .ref tp, .int up, .int bank, .long chain, .int (bI told)])), (tg, .inr (0, [.ref ug, .int totg])), (ug, .inl (cI, 11, .inl fg)), (tf, .inr (0, [.ref uf, .int totf])), (uf, .inl (cI, 11, .inl ff)), (tc, .inr (0, [.ref uc, .int tot])), (uc, .inl (cI, 11, .inl f)), (th, .inr (1, [.ref uh, .int n0, .int sm, .int (bI ace)])), (uh, .inl (cI, 12, .inl g))] s.heap := hP
  have hl := lv_entry ([.ref h0]) (n := 1) (Nat.le_of_ble_eq_true rfl)
  rw [lg_entry_eq]
  generalize (lg_sl ([.ref h0]) ++ List.replicate (1 - (lg_sl ([.ref h0])).length) Slot.unset).toArray = ls at hl ⊢
  have hl : lv_has ls 1 [(0, .ref h0)] := hl
  refine lv_aload_n hx hb dX5_fresh_0 rfl (lv_at hl 0 rfl) ?_
  refine va_get (D := D) (ci := 5) (v := .ref tg) (C := RX5) (T := TX5) (N := 12) hx hb hts in_X5_fresh_X5 hown hK hP 0 rfl rfl 2 (by decide) (hts _ wd_X5_fresh_0) (fun _ h9 => h9) rfl dX5_fresh_1 ?_
  have hPc := hP.sub (ws' := [(tg, .inr (0, [.ref ug, .int totg])), (ug, .inl (cI, 11, .inl fg))]) [1, 2] rfl
  have hDc := hD.sub (ws' := [(tg, .inr (0, [.ref ug, .int totg])), (ug, .inl (cI, 11, .inl fg))]) [1, 2] (by decide) rfl
  have hFc := va_free (wc := [(tg, .inr (0, [.ref ug, .int totg])), (ug, .inl (cI, 11, .inl fg))]) hD hS hA [1, 2] rfl
  refine va_callv (va_runV (As := []) (rest := []) ⟨hx, hb, hml, hown, hts⟩ (c_X0_clear l D cI cJ cQ _ tg ug totg (fg)) (cwV 0 hts gX5_fresh_X0_clear rfl rfl rfl (by decide +kernel) ⟨Nat.le_of_ble_eq_true rfl, Nat.le_of_ble_eq_true rfl⟩) (mP_preV (ci := 0) (q0 := 0) hPc hK hDc rfl rfl) rfl rfl hl.1 rfl (lv_room (Nat.le_of_ble_eq_true rfl)) dX5_fresh_4 ⟨Nat.le_of_ble_eq_true rfl, Nat.le_of_ble_eq_true rfl⟩) hS (fun q _ h => hFc q h) hFc (fun u_r_1 t H1 locs ht hvm hr_1 hB hz1 hk1 hS => ?_)
  obtain ⟨tot2_2, f2_3⟩ := u_r_1
  obtain ⟨hP1, hK1, hD1⟩ := hB
  rw [ht] at hP1
  try dsimp only at hr_1
  obtain ⟨hP, hD⟩ := va_join (wr := [(h0, .inr (5, [.ref tr, .ref tc, .ref tg, .ref tf, .ref th, .ref tm, .ref to, .ref tp, .int up, .int bank, .long chain, .int (bI told)])), (tf, .inr (0, [.ref uf, .int totf])), (uf, .inl (cI, 11, .inl ff)), (tc, .inr (0, [.ref uc, .int tot])), (uc, .inl (cI, 11, .inl f)), (th, .inr (1, [.ref uh, .int n0, .int sm, .int (bI ace)])), (uh, .inl (cI, 12, .inl g))]) (w1 := [(tg, .inr (0, [.ref ug, .int tot2_2])), (ug, .inl (cI, 11, .inl f2_3))]) hP hD [1, 2] [0, 3, 4, 5, 6, 7, 8] rfl rfl (by decide) (by decide) hk1 hFc hP1 hD1
  generalize H1 = H at hP hS ⊢
  have hP : va_P D vwCl [(h0, .inr (5, [.ref tr, .ref tc, .ref tg, .ref tf, .ref th, .ref tm, .ref to, .ref tp, .int up, .int bank, .long chain, .int (bI told)])), (tf, .inr (0, [.ref uf, .int totf])), (uf, .inl (cI, 11, .inl ff)), (tc, .inr (0, [.ref uc, .int tot])), (uc, .inl (cI, 11, .inl f)), (th, .inr (1, [.ref uh, .int n0, .int sm, .int (bI ace)])), (uh, .inl (cI, 12, .inl g)), (tg, .inr (0, [.ref ug, .int tot2_2])), (ug, .inl (cI, 11, .inl f2_3))] H := hP
  have hD : va_D A [(h0, .inr (5, [.ref tr, .ref tc, .ref tg, .ref tf, .ref th, .ref tm, .ref to, .ref tp, .int up, .int bank, .long chain, .int (bI told)])), (tf, .inr (0, [.ref uf, .int totf])), (uf, .inl (cI, 11, .inl ff)), (tc, .inr (0, [.ref uc, .int tot])), (uc, .inl (cI, 11, .inl f)), (th, .inr (1, [.ref uh, .int n0, .int sm, .int (bI ace)])), (uh, .inl (cI, 12, .inl g)), (tg, .inr (0, [.ref ug, .int tot2_2])), (ug, .inl (cI, 11, .inl f2_3))] := hD
  refine lv_aload_n hx hb dX5_fresh_7 rfl (lv_at hl 0 rfl) ?_
  refine va_get (D := D) (ci := 5) (v := .ref tf) (C := RX5) (T := TX5) (N := 12) hx hb hts in_X5_fresh_X5 hown hK hP 0 rfl rfl 3 (by decide) (hts _ wd_X5_fresh_1) (fun _ h9 => h9) rfl dX5_fresh_8 ?_
  refine lv_aload_n hx hb dX5_fresh_11 rfl (lv_at hl 0 rfl) ?_
  refine va_get (D := D) (ci := 5) (v := .ref tc) (C := RX5) (T := TX5) (N := 12) hx hb hts in_X5_fresh_X5 hown hK hP 0 rfl rfl 1 (by decide) (hts _ wd_X5_fresh_2) (fun _ h9 => h9) rfl dX5_fresh_12 ?_
  have hPc := hP.sub (ws' := [(tf, .inr (0, [.ref uf, .int totf])), (uf, .inl (cI, 11, .inl ff)), (tc, .inr (0, [.ref uc, .int tot])), (uc, .inl (cI, 11, .inl f))]) [1, 2, 3, 4] rfl
  have hDc := hD.sub (ws' := [(tf, .inr (0, [.ref uf, .int totf])), (uf, .inl (cI, 11, .inl ff)), (tc, .inr (0, [.ref uc, .int tot])), (uc, .inl (cI, 11, .inl f))]) [1, 2, 3, 4] (by decide) rfl
  have hFc := va_free (wc := [(tf, .inr (0, [.ref uf, .int totf])), (uf, .inl (cI, 11, .inl ff)), (tc, .inr (0, [.ref uc, .int tot])), (uc, .inl (cI, 11, .inl f))]) hD hS hA [1, 2, 3, 4] rfl
  refine va_callv (va_runV (As := [.ref tc]) (rest := []) ⟨hx, hb, hml, hown, hts⟩ (c_X0_copy l D cI cJ cQ _ tf uf totf (ff) tc uc tot (f)) (cwV 1 hts gX5_fresh_X0_copy rfl rfl rfl (by decide +kernel) ⟨Nat.le_of_ble_eq_true rfl, Nat.le_of_ble_eq_true rfl⟩) (mP_preV (ci := 0) (q0 := 0) hPc hK hDc rfl rfl) rfl rfl hl.1 rfl (lv_room (Nat.le_of_ble_eq_true rfl)) dX5_fresh_15 ⟨Nat.le_of_ble_eq_true rfl, Nat.le_of_ble_eq_true rfl⟩) hS (fun q _ h => hFc q h) hFc (fun u_r_4 t H1 locs ht hvm hr_4 hB hz1 hk1 hS => ?_)
  obtain ⟨tot2_5, f2_6⟩ := u_r_4
  obtain ⟨hP1, hK1, hD1⟩ := hB
  rw [ht] at hP1
  try dsimp only at hr_4
  obtain ⟨hP, hD⟩ := va_join (wr := [(h0, .inr (5, [.ref tr, .ref tc, .ref tg, .ref tf, .ref th, .ref tm, .ref to, .ref tp, .int up, .int bank, .long chain, .int (bI told)])), (th, .inr (1, [.ref uh, .int n0, .int sm, .int (bI ace)])), (uh, .inl (cI, 12, .inl g)), (tg, .inr (0, [.ref ug, .int tot2_2])), (ug, .inl (cI, 11, .inl f2_3))]) (w1 := [(tf, .inr (0, [.ref uf, .int tot2_5])), (uf, .inl (cI, 11, .inl f2_6)), (tc, .inr (0, [.ref uc, .int tot])), (uc, .inl (cI, 11, .inl (f)))]) hP hD [1, 2, 3, 4] [0, 5, 6, 7, 8] rfl rfl (by decide) (by decide) hk1 hFc hP1 hD1
  generalize H1 = H at hP hS ⊢
  have hP : va_P D vwCl [(h0, .inr (5, [.ref tr, .ref tc, .ref tg, .ref tf, .ref th, .ref tm, .ref to, .ref tp, .int up, .int bank, .long chain, .int (bI told)])), (th, .inr (1, [.ref uh, .int n0, .int sm, .int (bI ace)])), (uh, .inl (cI, 12, .inl g)), (tg, .inr (0, [.ref ug, .int tot2_2])), (ug, .inl (cI, 11, .inl f2_3)), (tf, .inr (0, [.ref uf, .int tot2_5])), (uf, .inl (cI, 11, .inl f2_6)), (tc, .inr (0, [.ref uc, .int tot])), (uc, .inl (cI, 11, .inl (f)))] H := hP
  have hD : va_D A [(h0, .inr (5, [.ref tr, .ref tc, .ref tg, .ref tf, .ref th, .ref tm, .ref to, .ref tp, .int up, .int bank, .long chain, .int (bI told)])), (th, .inr (1, [.ref uh, .int n0, .int sm, .int (bI ace)])), (uh, .inl (cI, 12, .inl g)), (tg, .inr (0, [.ref ug, .int tot2_2])), (ug, .inl (cI, 11, .inl f2_3)), (tf, .inr (0, [.ref uf, .int tot2_5])), (uf, .inl (cI, 11, .inl f2_6)), (tc, .inr (0, [.ref uc, .int tot])), (uc, .inl (cI, 11, .inl (f)))] := hD
  refine lv_aload_n hx hb dX5_fresh_18 rfl (lv_at hl 0 rfl) ?_
  refine lv_iconst (v := 0) hx hb dX5_fresh_19 (by decide) ?_
  refine va_put (D := D) (ci := 5) (v := .int 0) (ty := .boolean) (C := RX5) (T := TX5) (N := 12) hx hb hts in_X5_fresh_X5 tyX5 tyX5_ok nmX5 hown hK hP hD hS 0 rfl rfl 11 (by decide) (hts _ wd_X5_fresh_3) (fun _ h9 => h9) rfl (by decide +kernel) rfl rfl (Nat.le_of_ble_eq_true rfl) dX5_fresh_20 (fun H locs hP hD hS => ?_)
  have hP : va_P D vwCl [(h0, .inr (5, [.ref tr, .ref tc, .ref tg, .ref tf, .ref th, .ref tm, .ref to, .ref tp, .int up, .int bank, .long chain, .int 0])), (th, .inr (1, [.ref uh, .int n0, .int sm, .int (bI ace)])), (uh, .inl (cI, 12, .inl g)), (tg, .inr (0, [.ref ug, .int tot2_2])), (ug, .inl (cI, 11, .inl f2_3)), (tf, .inr (0, [.ref uf, .int tot2_5])), (uf, .inl (cI, 11, .inl f2_6)), (tc, .inr (0, [.ref uc, .int tot])), (uc, .inl (cI, 11, .inl (f)))] H := hP
  have hD : va_D A [(h0, .inr (5, [.ref tr, .ref tc, .ref tg, .ref tf, .ref th, .ref tm, .ref to, .ref tp, .int up, .int bank, .long chain, .int 0])), (th, .inr (1, [.ref uh, .int n0, .int sm, .int (bI ace)])), (uh, .inl (cI, 12, .inl g)), (tg, .inr (0, [.ref ug, .int tot2_2])), (ug, .inl (cI, 11, .inl f2_3)), (tf, .inr (0, [.ref uf, .int tot2_5])), (uf, .inl (cI, 11, .inl f2_6)), (tc, .inr (0, [.ref uc, .int tot])), (uc, .inl (cI, 11, .inl (f)))] := hD
  refine lv_aload_n hx hb dX5_fresh_23 rfl (lv_at hl 0 rfl) ?_
  have hPc := hP.sub (ws' := [(h0, .inr (5, [.ref tr, .ref tc, .ref tg, .ref tf, .ref th, .ref tm, .ref to, .ref tp, .int up, .int bank, .long chain, .int 0])), (th, .inr (1, [.ref uh, .int n0, .int sm, .int (bI ace)])), (uh, .inl (cI, 12, .inl g))]) [0, 1, 2] rfl
  have hDc := hD.sub (ws' := [(h0, .inr (5, [.ref tr, .ref tc, .ref tg, .ref tf, .ref th, .ref tm, .ref to, .ref tp, .int up, .int bank, .long chain, .int 0])), (th, .inr (1, [.ref uh, .int n0, .int sm, .int (bI ace)])), (uh, .inl (cI, 12, .inl g))]) [0, 1, 2] (by decide) rfl
  have hFc := va_free (wc := [(h0, .inr (5, [.ref tr, .ref tc, .ref tg, .ref tf, .ref th, .ref tm, .ref to, .ref tp, .int up, .int bank, .long chain, .int 0])), (th, .inr (1, [.ref uh, .int n0, .int sm, .int (bI ace)])), (uh, .inl (cI, 12, .inl g))]) hD hS hA [0, 1, 2] rfl
  refine va_callv (va_runV (As := []) (rest := []) ⟨hx, hb, hml, hown, hts⟩ (c_X5_clearTable l D cI cJ cQ _ h0 tr tc tg tf th tm to tp up bank chain false uh n0 sm ace (g)) (cwV 0 hts gX5_fresh_X5_clearTable rfl rfl rfl (by decide +kernel) ⟨Nat.le_of_ble_eq_true rfl, Nat.le_of_ble_eq_true rfl⟩) (mP_preV (ci := 5) (q0 := 0) hPc hK hDc rfl rfl) rfl rfl hl.1 rfl (lv_room (Nat.le_of_ble_eq_true rfl)) dX5_fresh_24 ⟨Nat.le_of_ble_eq_true rfl, Nat.le_of_ble_eq_true rfl⟩) hS (fun q _ h => hFc q h) hFc (fun u_r_7 t H1 locs ht hvm hr_7 hB hz1 hk1 hS => ?_)
  obtain ⟨hP1, hK1, hD1⟩ := hB
  rw [ht] at hP1
  try dsimp only at hr_7
  obtain ⟨hP, hD⟩ := va_join (wr := [(tg, .inr (0, [.ref ug, .int tot2_2])), (ug, .inl (cI, 11, .inl f2_3)), (tf, .inr (0, [.ref uf, .int tot2_5])), (uf, .inl (cI, 11, .inl f2_6)), (tc, .inr (0, [.ref uc, .int tot])), (uc, .inl (cI, 11, .inl (f)))]) (w1 := [(h0, .inr (5, [.ref tr, .ref tc, .ref tg, .ref tf, .ref th, .ref tm, .ref to, .ref tp, .int (-1), .int bank, .long chain, .int 0])), (th, .inr (1, [.ref uh, .int 0, .int 0, .int 0])), (uh, .inl (cI, 12, .inl (g)))]) hP hD [0, 1, 2] [3, 4, 5, 6, 7, 8] rfl rfl (by decide) (by decide) hk1 hFc hP1 hD1
  generalize H1 = H at hP hS ⊢
  have hP : va_P D vwCl [(tg, .inr (0, [.ref ug, .int tot2_2])), (ug, .inl (cI, 11, .inl f2_3)), (tf, .inr (0, [.ref uf, .int tot2_5])), (uf, .inl (cI, 11, .inl f2_6)), (tc, .inr (0, [.ref uc, .int tot])), (uc, .inl (cI, 11, .inl (f))), (h0, .inr (5, [.ref tr, .ref tc, .ref tg, .ref tf, .ref th, .ref tm, .ref to, .ref tp, .int (-1), .int bank, .long chain, .int 0])), (th, .inr (1, [.ref uh, .int 0, .int 0, .int 0])), (uh, .inl (cI, 12, .inl (g)))] H := hP
  have hD : va_D A [(tg, .inr (0, [.ref ug, .int tot2_2])), (ug, .inl (cI, 11, .inl f2_3)), (tf, .inr (0, [.ref uf, .int tot2_5])), (uf, .inl (cI, 11, .inl f2_6)), (tc, .inr (0, [.ref uc, .int tot])), (uc, .inl (cI, 11, .inl (f))), (h0, .inr (5, [.ref tr, .ref tc, .ref tg, .ref tf, .ref th, .ref tm, .ref to, .ref tp, .int (-1), .int bank, .long chain, .int 0])), (th, .inr (1, [.ref uh, .int 0, .int 0, .int 0])), (uh, .inl (cI, 12, .inl (g)))] := hD
  refine lv_aload_n hx hb dX5_fresh_27 rfl (lv_at hl 0 rfl) ?_
  refine va_get (D := D) (ci := 5) (v := .ref tc) (C := RX5) (T := TX5) (N := 12) hx hb hts in_X5_fresh_X5 hown hK hP 6 rfl rfl 1 (by decide) (hts _ wd_X5_fresh_2) (fun _ h9 => h9) rfl dX5_fresh_28 ?_
  refine va_get (D := D) (ci := 0) (v := .int tot) (C := RX0) (T := TX0) (N := 2) hx hb hts in_X5_fresh_X0 hown hK hP 4 rfl rfl 1 (by decide) (hts _ wd_X5_fresh_4) (fun _ h9 => h9) rfl dX5_fresh_31 ?_
  have hP9 := hP.sub (ws' := [(h0, .inr (5, [.ref tr, .ref tc, .ref tg, .ref tf, .ref th, .ref tm, .ref to, .ref tp, .int (-1), .int bank, .long chain, .int 0])), (tg, .inr (0, [.ref ug, .int tot2_2])), (ug, .inl (cI, 11, .inl f2_3)), (tf, .inr (0, [.ref uf, .int tot2_5])), (uf, .inl (cI, 11, .inl f2_6)), (tc, .inr (0, [.ref uc, .int tot])), (uc, .inl (cI, 11, .inl (f))), (th, .inr (1, [.ref uh, .int 0, .int 0, .int 0])), (uh, .inl (cI, 12, .inl (g)))]) [6, 0, 1, 2, 3, 4, 5, 7, 8] rfl
  have hD9 := hD.sub (ws' := [(h0, .inr (5, [.ref tr, .ref tc, .ref tg, .ref tf, .ref th, .ref tm, .ref to, .ref tp, .int (-1), .int bank, .long chain, .int 0])), (tg, .inr (0, [.ref ug, .int tot2_2])), (ug, .inl (cI, 11, .inl f2_3)), (tf, .inr (0, [.ref uf, .int tot2_5])), (uf, .inl (cI, 11, .inl f2_6)), (tc, .inr (0, [.ref uc, .int tot])), (uc, .inl (cI, 11, .inl (f))), (th, .inr (1, [.ref uh, .int 0, .int 0, .int 0])), (uh, .inl (cI, 12, .inl (g)))]) [6, 0, 1, 2, 3, 4, 5, 7, 8] (by decide) rfl
  exact W.iret (v := tot) hx hb hr (fun t ht hW => ⟨⟨tot, (tot2_2, (f2_3), tot2_5, (f2_6)), rfl, ⟨rfl, hr_1.1, hr_1.2, hr_4.1, hr_4.2⟩, by rw [ht]; exact hP9, va_K.moved hW.alike hK, hD9⟩, hS.F ht⟩) hS.2.2 dX5_fresh_34

set_option maxRecDepth 20000 in
theorem in_X5_rule_X5 : ∀ w ∈ wsX50, w ∈ wsX5_rule := by decide +kernel
set_option maxRecDepth 20000 in
theorem wd_X5_rule_0 : Cond.fieldLink RX5 10 "ShoeTable" "rules" "LShoeTable$Rules;" ∈ wsX5_rule := by decide +kernel
set_option maxHeartbeats 400000 in
set_option maxRecDepth 100000 in
/-- X5_rule -/
theorem c_X5_rule (l : Launch) (D : va_G) (cI cJ cQ : ClassId) (sz : Nat) (h0 : Nat) (tr : Nat) (tc : Nat) (tg : Nat) (tf : Nat) (th : Nat) (tm : Nat) (to : Nat) (tp : Nat) (up : Int32) (bank : Int32) (chain : Int64) (told : Bool) (ur : Nat) (w : Nat → Int32) (p0 : Int32) (p1 : Int32) (tL : Nat) (tM : Nat)  : Met l yX5_rule wsX5_rule ({ frames := 2, cells := 0, slots := 0, locals := 45 }) (va_Pc [.ref h0, .int p0, .int p1] (mPs D (gTy cI cJ cQ) [(h0, .inr (5, [.ref tr, .ref tc, .ref tg, .ref tf, .ref th, .ref tm, .ref to, .ref tp, .int up, .int bank, .long chain, .int (bI told)])), (tr, .inr (4, [.ref ur])), (ur, .inl (cI, 7, .inl w))] sz tL tM)) (va_Qi (fun (r : Int32) (u : (Nat → Int32)) => match u with | w2 => if alw w p0 p1 = 0 then r = -1001 ∧ w2 = w else r = w p0.toNatClampNeg ∧ w2 = upd w p0.toNatClampNeg p1) (fun (u : (Nat → Int32)) t => match u with | w2 => mB D (gTy cI cJ cQ) (va_A [(h0, .inr (5, [.ref tr, .ref tc, .ref tg, .ref tf, .ref th, .ref tm, .ref to, .ref tp, .int up, .int bank, .long chain, .int (bI told)])), (tr, .inr (4, [.ref ur])), (ur, .inl (cI, 7, .inl w))] sz) [(h0, .inr (5, [.ref tr, .ref tc, .ref tg, .ref tf, .ref th, .ref tm, .ref to, .ref tp, .int up, .int bank, .long chain, .int (bI told)])), (tr, .inr (4, [.ref ur])), (ur, .inl (cI, 7, .inl w2))] t) (va_A [(h0, .inr (5, [.ref tr, .ref tc, .ref tg, .ref tf, .ref th, .ref tm, .ref to, .ref tp, .int up, .int bank, .long chain, .int (bI told)])), (tr, .inr (4, [.ref ur])), (ur, .inl (cI, 7, .inl w))] sz)) 0 0 (va_A [(h0, .inr (5, [.ref tr, .ref tc, .ref tg, .ref tf, .ref th, .ref tm, .ref to, .ref tp, .int up, .int bank, .long chain, .int (bI told)])), (tr, .inr (4, [.ref ur])), (ur, .inl (cI, 7, .inl w))] sz) := by
  refine Met.ofW (cc := cX5_rule) (maxL := 3) (ret := (some .int)) (by decide) rfl ?_
  intro p e s m args below meth c s₁ B hml hv
  obtain ⟨rfl, ⟨hsz, hP, hK, hD0⟩, hZ⟩ := hv
  have hx := B.exec
  have hb := B.bytes
  have hr := B.returns
  have hts := atoms_spec (ws := wsX5_rule) B.pre
  have hown : s.vm.findClass RX5 = some m.cls := findClass_of_methodNamed B.named
  have hlocks := B.notSynchronized
  subst hsz
  have hD := hD0.self (sz := s.heap.size)
  generalize hAe : va_A [(h0, .inr (5, [.ref tr, .ref tc, .ref tg, .ref tf, .ref th, .ref tm, .ref to, .ref tp, .int up, .int bank, .long chain, .int (bI told)])), (tr, .inr (4, [.ref ur])), (ur, .inl (cI, 7, .inl w))] s.heap.size = A at hD hZ ⊢
  have hA : ∀ q : Nat, s.heap.size ≤ q → A q := fun q h => by rw [← hAe]; exact Or.inr h
  have hS : va_S A s.heap s.heap [] := va_S.rf
  have hP : va_P D vwCl [(h0, .inr (5, [.ref tr, .ref tc, .ref tg, .ref tf, .ref th, .ref tm, .ref to, .ref tp, .int up, .int bank, .long chain, .int (bI told)])), (tr, .inr (4, [.ref ur])), (ur, .inl (cI, 7, .inl w))] s.heap := hP
  have hl := lv_entry ([.ref h0, .int p0, .int p1]) (n := 3) (Nat.le_of_ble_eq_true rfl)
  rw [lg_entry_eq]
  generalize (lg_sl ([.ref h0, .int p0, .int p1]) ++ List.replicate (3 - (lg_sl ([.ref h0, .int p0, .int p1])).length) Slot.unset).toArray = ls at hl ⊢
  have hl : lv_has ls 3 [(0, .ref h0), (1, .int p0), (2, .int p1)] := hl
  refine lv_aload_n hx hb dX5_rule_0 rfl (lv_at hl 0 rfl) ?_
  refine va_get (D := D) (ci := 5) (v := .ref tr) (C := RX5) (T := TX5) (N := 12) hx hb hts in_X5_rule_X5 hown hK hP 0 rfl rfl 0 (by decide) (hts _ wd_X5_rule_0) (fun _ h9 => h9) rfl dX5_rule_1 ?_
  refine lv_iload_n hx hb dX5_rule_4 rfl (lv_at hl 1 rfl) ?_
  refine lv_iload_n hx hb dX5_rule_5 rfl (lv_at hl 2 rfl) ?_
  have hPc := hP.sub (ws' := [(tr, .inr (4, [.ref ur])), (ur, .inl (cI, 7, .inl w))]) [1, 2] rfl
  have hDc := hD.sub (ws' := [(tr, .inr (4, [.ref ur])), (ur, .inl (cI, 7, .inl w))]) [1, 2] (by decide) rfl
  have hFc := va_free (wc := [(tr, .inr (4, [.ref ur])), (ur, .inl (cI, 7, .inl w))]) hD hS hA [1, 2] rfl
  refine va_calli (va_runV (As := [.int p0, .int p1]) (rest := []) ⟨hx, hb, hml, hown, hts⟩ (c_X4_change l D cI cJ cQ _ tr ur (w) p0 p1 tL tM) (cwV 2 hts gX5_rule_X4_change rfl rfl rfl (by decide +kernel) ⟨Nat.le_of_ble_eq_true rfl, Nat.le_of_ble_eq_true rfl⟩) (mPs_preV (ci := 4) (q0 := 0) hPc hK hDc hZ hS hFc rfl rfl) rfl rfl hl.1 rfl (lv_room (Nat.le_of_ble_eq_true rfl)) dX5_rule_6 ⟨Nat.le_of_ble_eq_true rfl, Nat.le_of_ble_eq_true rfl⟩) hS (fun q _ h => hFc q h) hFc (fun r_1 u_r_1 t H1 locs ht hvm hr_1 hB hz1 hk1 hS => ?_)
  obtain ⟨w2_2, rfl⟩ : ∃ z, z = u_r_1 := ⟨_, rfl⟩
  obtain ⟨hP1, hK1, hD1⟩ := hB
  rw [ht] at hP1
  try dsimp only at hr_1
  obtain ⟨hP, hD⟩ := va_join (wr := [(h0, .inr (5, [.ref tr, .ref tc, .ref tg, .ref tf, .ref th, .ref tm, .ref to, .ref tp, .int up, .int bank, .long chain, .int (bI told)]))]) (w1 := [(tr, .inr (4, [.ref ur])), (ur, .inl (cI, 7, .inl w2_2))]) hP hD [1, 2] [0] rfl rfl (by decide) (by decide) hk1 hFc hP1 hD1
  generalize H1 = H at hP hS ⊢
  have hP : va_P D vwCl [(h0, .inr (5, [.ref tr, .ref tc, .ref tg, .ref tf, .ref th, .ref tm, .ref to, .ref tp, .int up, .int bank, .long chain, .int (bI told)])), (tr, .inr (4, [.ref ur])), (ur, .inl (cI, 7, .inl w2_2))] H := hP
  have hD : va_D A [(h0, .inr (5, [.ref tr, .ref tc, .ref tg, .ref tf, .ref th, .ref tm, .ref to, .ref tp, .int up, .int bank, .long chain, .int (bI told)])), (tr, .inr (4, [.ref ur])), (ur, .inl (cI, 7, .inl w2_2))] := hD
  have hP9 := hP.sub (ws' := [(h0, .inr (5, [.ref tr, .ref tc, .ref tg, .ref tf, .ref th, .ref tm, .ref to, .ref tp, .int up, .int bank, .long chain, .int (bI told)])), (tr, .inr (4, [.ref ur])), (ur, .inl (cI, 7, .inl w2_2))]) [0, 1, 2] rfl
  have hD9 := hD.sub (ws' := [(h0, .inr (5, [.ref tr, .ref tc, .ref tg, .ref tf, .ref th, .ref tm, .ref to, .ref tp, .int up, .int bank, .long chain, .int (bI told)])), (tr, .inr (4, [.ref ur])), (ur, .inl (cI, 7, .inl w2_2))]) [0, 1, 2] (by decide) rfl
  exact W.iret (v := r_1) hx hb hr (fun t ht hW => ⟨⟨r_1, (w2_2), rfl, hr_1, by rw [ht]; exact hP9, va_K.moved hW.alike hK, hD9⟩, hS.F ht⟩) hS.2.2 dX5_rule_9

set_option maxRecDepth 20000 in
theorem in_X5_moveOut_X5 : ∀ w ∈ wsX50, w ∈ wsX5_moveOut := by decide +kernel
set_option maxRecDepth 20000 in
theorem wd_X5_moveOut_0 : Cond.fieldLink RX5 19 "ShoeTable" "cards" "LShoeTable$Cards;" ∈ wsX5_moveOut := by decide +kernel
set_option maxRecDepth 20000 in
theorem wd_X5_moveOut_1 : Cond.fieldLink RX5 23 "ShoeTable" "gone" "LShoeTable$Cards;" ∈ wsX5_moveOut := by decide +kernel
set_option maxHeartbeats 400000 in
set_option maxRecDepth 100000 in
/-- X5_moveOut -/
theorem c_X5_moveOut (l : Launch) (D : va_G) (cI cJ cQ : ClassId) (sz : Nat) (h0 : Nat) (tr : Nat) (tc : Nat) (tg : Nat) (tf : Nat) (th : Nat) (tm : Nat) (to : Nat) (tp : Nat) (up : Int32) (bank : Int32) (chain : Int64) (told : Bool) (uc : Nat) (tot : Int32) (f : Nat → Int32) (ug : Nat) (totg : Int32) (fg : Nat → Int32) (p0 : Int32) (hp : ¬ rkB p0 = 0) (hf : 0 < f p0.toNatClampNeg) : Met l yX5_moveOut wsX5_moveOut ({ frames := 1, cells := 0, slots := 0, locals := 22 }) (va_Pc [.ref h0, .int p0] (mP D (gTy cI cJ cQ) [(h0, .inr (5, [.ref tr, .ref tc, .ref tg, .ref tf, .ref th, .ref tm, .ref to, .ref tp, .int up, .int bank, .long chain, .int (bI told)])), (tc, .inr (0, [.ref uc, .int tot])), (uc, .inl (cI, 11, .inl f)), (tg, .inr (0, [.ref ug, .int totg])), (ug, .inl (cI, 11, .inl fg))] sz)) (va_Qv (fun (u : Int32 × (Nat → Int32) × Int32 × (Nat → Int32)) => match u with | (tot2, f2, totg2, fg2) => tot2 = tot - 1 ∧ f2 = upd f p0.toNatClampNeg (f p0.toNatClampNeg - 1) ∧ totg2 = totg + 1 ∧ fg2 = upd fg p0.toNatClampNeg (fg p0.toNatClampNeg + 1)) (fun (u : Int32 × (Nat → Int32) × Int32 × (Nat → Int32)) t => match u with | (tot2, f2, totg2, fg2) => mB D (gTy cI cJ cQ) (va_A [(h0, .inr (5, [.ref tr, .ref tc, .ref tg, .ref tf, .ref th, .ref tm, .ref to, .ref tp, .int up, .int bank, .long chain, .int (bI told)])), (tc, .inr (0, [.ref uc, .int tot])), (uc, .inl (cI, 11, .inl f)), (tg, .inr (0, [.ref ug, .int totg])), (ug, .inl (cI, 11, .inl fg))] sz) [(h0, .inr (5, [.ref tr, .ref tc, .ref tg, .ref tf, .ref th, .ref tm, .ref to, .ref tp, .int up, .int bank, .long chain, .int (bI told)])), (tc, .inr (0, [.ref uc, .int tot2])), (uc, .inl (cI, 11, .inl f2)), (tg, .inr (0, [.ref ug, .int totg2])), (ug, .inl (cI, 11, .inl fg2))] t) (va_A [(h0, .inr (5, [.ref tr, .ref tc, .ref tg, .ref tf, .ref th, .ref tm, .ref to, .ref tp, .int up, .int bank, .long chain, .int (bI told)])), (tc, .inr (0, [.ref uc, .int tot])), (uc, .inl (cI, 11, .inl f)), (tg, .inr (0, [.ref ug, .int totg])), (ug, .inl (cI, 11, .inl fg))] sz)) 0 0 (va_A [(h0, .inr (5, [.ref tr, .ref tc, .ref tg, .ref tf, .ref th, .ref tm, .ref to, .ref tp, .int up, .int bank, .long chain, .int (bI told)])), (tc, .inr (0, [.ref uc, .int tot])), (uc, .inl (cI, 11, .inl f)), (tg, .inr (0, [.ref ug, .int totg])), (ug, .inl (cI, 11, .inl fg))] sz) := by
  refine Met.ofW (cc := cX5_moveOut) (maxL := 2) (ret := none) (by decide) rfl ?_
  intro p e s m args below meth c s₁ B hml hv
  obtain ⟨rfl, hsz, hP, hK, hD0⟩ := hv
  have hx := B.exec
  have hb := B.bytes
  have hr := B.returns
  have hts := atoms_spec (ws := wsX5_moveOut) B.pre
  have hown : s.vm.findClass RX5 = some m.cls := findClass_of_methodNamed B.named
  have hlocks := B.notSynchronized
  subst hsz
  have hD := hD0.self (sz := s.heap.size)
  generalize hAe : va_A [(h0, .inr (5, [.ref tr, .ref tc, .ref tg, .ref tf, .ref th, .ref tm, .ref to, .ref tp, .int up, .int bank, .long chain, .int (bI told)])), (tc, .inr (0, [.ref uc, .int tot])), (uc, .inl (cI, 11, .inl f)), (tg, .inr (0, [.ref ug, .int totg])), (ug, .inl (cI, 11, .inl fg))] s.heap.size = A at hD ⊢
  have hA : ∀ q : Nat, s.heap.size ≤ q → A q := fun q h => by rw [← hAe]; exact Or.inr h
  have hS : va_S A s.heap s.heap [] := va_S.rf
  have hP : va_P D vwCl [(h0, .inr (5, [.ref tr, .ref tc, .ref tg, .ref tf, .ref th, .ref tm, .ref to, .ref tp, .int up, .int bank, .long chain, .int (bI told)])), (tc, .inr (0, [.ref uc, .int tot])), (uc, .inl (cI, 11, .inl f)), (tg, .inr (0, [.ref ug, .int totg])), (ug, .inl (cI, 11, .inl fg))] s.heap := hP
  have hl := lv_entry ([.ref h0, .int p0]) (n := 2) (Nat.le_of_ble_eq_true rfl)
  rw [lg_entry_eq]
  generalize (lg_sl ([.ref h0, .int p0]) ++ List.replicate (2 - (lg_sl ([.ref h0, .int p0])).length) Slot.unset).toArray = ls at hl ⊢
  have hl : lv_has ls 2 [(0, .ref h0), (1, .int p0)] := hl
  refine lv_aload_n hx hb dX5_moveOut_0 rfl (lv_at hl 0 rfl) ?_
  refine va_get (D := D) (ci := 5) (v := .ref tc) (C := RX5) (T := TX5) (N := 12) hx hb hts in_X5_moveOut_X5 hown hK hP 0 rfl rfl 1 (by decide) (hts _ wd_X5_moveOut_0) (fun _ h9 => h9) rfl dX5_moveOut_1 ?_
  refine lv_iload_n hx hb dX5_moveOut_4 rfl (lv_at hl 1 rfl) ?_
  have hPc := hP.sub (ws' := [(tc, .inr (0, [.ref uc, .int tot])), (uc, .inl (cI, 11, .inl f))]) [1, 2] rfl
  have hDc := hD.sub (ws' := [(tc, .inr (0, [.ref uc, .int tot])), (uc, .inl (cI, 11, .inl f))]) [1, 2] (by decide) rfl
  have hFc := va_free (wc := [(tc, .inr (0, [.ref uc, .int tot])), (uc, .inl (cI, 11, .inl f))]) hD hS hA [1, 2] rfl
  refine va_calli (va_runV (As := [.int p0]) (rest := []) ⟨hx, hb, hml, hown, hts⟩ (c_X0_remove l D cI cJ cQ _ tc uc tot (f) p0) (cwV 1 hts gX5_moveOut_X0_remove rfl rfl rfl (by decide +kernel) ⟨Nat.le_of_ble_eq_true rfl, Nat.le_of_ble_eq_true rfl⟩) (mP_preV (ci := 0) (q0 := 0) hPc hK hDc rfl rfl) rfl rfl hl.1 rfl (lv_room (Nat.le_of_ble_eq_true rfl)) dX5_moveOut_5 ⟨Nat.le_of_ble_eq_true rfl, Nat.le_of_ble_eq_true rfl⟩) hS (fun q _ h => hFc q h) hFc (fun r_1 u_r_1 t H1 locs ht hvm hr_1 hB hz1 hk1 hS => ?_)
  obtain ⟨tot2_2, f2_3⟩ := u_r_1
  obtain ⟨hP1, hK1, hD1⟩ := hB
  rw [ht] at hP1
  try dsimp only at hr_1
  obtain ⟨hP, hD⟩ := va_join (wr := [(h0, .inr (5, [.ref tr, .ref tc, .ref tg, .ref tf, .ref th, .ref tm, .ref to, .ref tp, .int up, .int bank, .long chain, .int (bI told)])), (tg, .inr (0, [.ref ug, .int totg])), (ug, .inl (cI, 11, .inl fg))]) (w1 := [(tc, .inr (0, [.ref uc, .int tot2_2])), (uc, .inl (cI, 11, .inl f2_3))]) hP hD [1, 2] [0, 3, 4] rfl rfl (by decide) (by decide) hk1 hFc hP1 hD1
  generalize H1 = H at hP hS ⊢
  have hP : va_P D vwCl [(h0, .inr (5, [.ref tr, .ref tc, .ref tg, .ref tf, .ref th, .ref tm, .ref to, .ref tp, .int up, .int bank, .long chain, .int (bI told)])), (tg, .inr (0, [.ref ug, .int totg])), (ug, .inl (cI, 11, .inl fg)), (tc, .inr (0, [.ref uc, .int tot2_2])), (uc, .inl (cI, 11, .inl f2_3))] H := hP
  have hD : va_D A [(h0, .inr (5, [.ref tr, .ref tc, .ref tg, .ref tf, .ref th, .ref tm, .ref to, .ref tp, .int up, .int bank, .long chain, .int (bI told)])), (tg, .inr (0, [.ref ug, .int totg])), (ug, .inl (cI, 11, .inl fg)), (tc, .inr (0, [.ref uc, .int tot2_2])), (uc, .inl (cI, 11, .inl f2_3))] := hD
  refine lv_pop hx hb dX5_moveOut_8 rfl ?_
  refine lv_aload_n hx hb dX5_moveOut_9 rfl (lv_at hl 0 rfl) ?_
  refine va_get (D := D) (ci := 5) (v := .ref tg) (C := RX5) (T := TX5) (N := 12) hx hb hts in_X5_moveOut_X5 hown hK hP 0 rfl rfl 2 (by decide) (hts _ wd_X5_moveOut_1) (fun _ h9 => h9) rfl dX5_moveOut_10 ?_
  refine lv_iload_n hx hb dX5_moveOut_13 rfl (lv_at hl 1 rfl) ?_
  have hPc := hP.sub (ws' := [(tg, .inr (0, [.ref ug, .int totg])), (ug, .inl (cI, 11, .inl fg))]) [1, 2] rfl
  have hDc := hD.sub (ws' := [(tg, .inr (0, [.ref ug, .int totg])), (ug, .inl (cI, 11, .inl fg))]) [1, 2] (by decide) rfl
  have hFc := va_free (wc := [(tg, .inr (0, [.ref ug, .int totg])), (ug, .inl (cI, 11, .inl fg))]) hD hS hA [1, 2] rfl
  refine va_callv (va_runV (As := [.int p0]) (rest := []) ⟨hx, hb, hml, hown, hts⟩ (c_X0_add l D cI cJ cQ _ tg ug totg (fg) p0) (cwV 1 hts gX5_moveOut_X0_add rfl rfl rfl (by decide +kernel) ⟨Nat.le_of_ble_eq_true rfl, Nat.le_of_ble_eq_true rfl⟩) (mP_preV (ci := 0) (q0 := 0) hPc hK hDc rfl rfl) rfl rfl hl.1 rfl (lv_room (Nat.le_of_ble_eq_true rfl)) dX5_moveOut_14 ⟨Nat.le_of_ble_eq_true rfl, Nat.le_of_ble_eq_true rfl⟩) hS (fun q _ h => hFc q h) hFc (fun u_r_4 t H1 locs ht hvm hr_4 hB hz1 hk1 hS => ?_)
  obtain ⟨tot2_5, f2_6⟩ := u_r_4
  obtain ⟨hP1, hK1, hD1⟩ := hB
  rw [ht] at hP1
  try dsimp only at hr_4
  obtain ⟨hP, hD⟩ := va_join (wr := [(h0, .inr (5, [.ref tr, .ref tc, .ref tg, .ref tf, .ref th, .ref tm, .ref to, .ref tp, .int up, .int bank, .long chain, .int (bI told)])), (tc, .inr (0, [.ref uc, .int tot2_2])), (uc, .inl (cI, 11, .inl f2_3))]) (w1 := [(tg, .inr (0, [.ref ug, .int tot2_5])), (ug, .inl (cI, 11, .inl f2_6))]) hP hD [1, 2] [0, 3, 4] rfl rfl (by decide) (by decide) hk1 hFc hP1 hD1
  generalize H1 = H at hP hS ⊢
  have hP : va_P D vwCl [(h0, .inr (5, [.ref tr, .ref tc, .ref tg, .ref tf, .ref th, .ref tm, .ref to, .ref tp, .int up, .int bank, .long chain, .int (bI told)])), (tc, .inr (0, [.ref uc, .int tot2_2])), (uc, .inl (cI, 11, .inl f2_3)), (tg, .inr (0, [.ref ug, .int tot2_5])), (ug, .inl (cI, 11, .inl f2_6))] H := hP
  have hD : va_D A [(h0, .inr (5, [.ref tr, .ref tc, .ref tg, .ref tf, .ref th, .ref tm, .ref to, .ref tp, .int up, .int bank, .long chain, .int (bI told)])), (tc, .inr (0, [.ref uc, .int tot2_2])), (uc, .inl (cI, 11, .inl f2_3)), (tg, .inr (0, [.ref ug, .int tot2_5])), (ug, .inl (cI, 11, .inl f2_6))] := hD
  have hP9 := hP.sub (ws' := [(h0, .inr (5, [.ref tr, .ref tc, .ref tg, .ref tf, .ref th, .ref tm, .ref to, .ref tp, .int up, .int bank, .long chain, .int (bI told)])), (tc, .inr (0, [.ref uc, .int tot2_2])), (uc, .inl (cI, 11, .inl f2_3)), (tg, .inr (0, [.ref ug, .int tot2_5])), (ug, .inl (cI, 11, .inl f2_6))]) [0, 1, 2, 3, 4] rfl
  have hD9 := hD.sub (ws' := [(h0, .inr (5, [.ref tr, .ref tc, .ref tg, .ref tf, .ref th, .ref tm, .ref to, .ref tp, .int up, .int bank, .long chain, .int (bI told)])), (tc, .inr (0, [.ref uc, .int tot2_2])), (uc, .inl (cI, 11, .inl f2_3)), (tg, .inr (0, [.ref ug, .int tot2_5])), (ug, .inl (cI, 11, .inl f2_6))]) [0, 1, 2, 3, 4] (by decide) rfl
  exact W.vret hx hb hr (fun t ht hW => ⟨⟨(tot2_2, (f2_3), tot2_5, (f2_6)), rfl, (mvO hp hf hr_1 hr_4), by rw [ht]; exact hP9, va_K.moved hW.alike hK, hD9⟩, hS.F ht⟩) hS.2.2 dX5_moveOut_17

set_option maxRecDepth 20000 in
theorem in_X5_bring_X5 : ∀ w ∈ wsX50, w ∈ wsX5_bring := by decide +kernel
set_option maxRecDepth 20000 in
theorem wd_X5_bring_0 : Cond.fieldLink RX5 54 "ShoeTable" "up" "I" ∈ wsX5_bring := by decide +kernel
set_option maxRecDepth 20000 in
theorem wd_X5_bring_1 : Cond.fieldLink RX5 32 "ShoeTable" "hand" "LShoeTable$Hand;" ∈ wsX5_bring := by decide +kernel
set_option maxHeartbeats 400000 in
set_option maxRecDepth 100000 in
/-- X5_bring -/
theorem c_X5_bring (l : Launch) (D : va_G) (cI cJ cQ : ClassId) (sz : Nat) (h0 : Nat) (tr : Nat) (tc : Nat) (tg : Nat) (tf : Nat) (th : Nat) (tm : Nat) (to : Nat) (tp : Nat) (up : Int32) (bank : Int32) (chain : Int64) (told : Bool) (uh : Nat) (n0 : Int32) (sm : Int32) (ace : Bool) (g : Nat → Int32) (p0 : Int32) (p1 : Int32) (hn0 : ¬ n0 < 0) : Met l yX5_bring wsX5_bring ({ frames := 1, cells := 0, slots := 0, locals := 21 }) (va_Pc [.ref h0, .int p0, .int p1] (mP D (gTy cI cJ cQ) [(h0, .inr (5, [.ref tr, .ref tc, .ref tg, .ref tf, .ref th, .ref tm, .ref to, .ref tp, .int up, .int bank, .long chain, .int (bI told)])), (th, .inr (1, [.ref uh, .int n0, .int sm, .int (bI ace)])), (uh, .inl (cI, 12, .inl g))] sz)) (va_Qv (fun (u : Int32 × Int32 × Int32 × Bool × (Nat → Int32)) => match u with | (up2, n2, sm2, ace2, g2) => if p1 = 0 then up2 = up ∧ (if n0 < 12 then n2 = n0 + 1 ∧ sm2 = sm + p0 ∧ ace2 = (ace || decide (p0 = 1)) ∧ g2 = upd g n0.toNatClampNeg p0 else n2 = n0 ∧ sm2 = sm ∧ ace2 = ace ∧ g2 = g) else if p1 = 1 then up2 = p0 ∧ n2 = n0 ∧ sm2 = sm ∧ ace2 = ace ∧ g2 = g else up2 = up ∧ n2 = n0 ∧ sm2 = sm ∧ ace2 = ace ∧ g2 = g) (fun (u : Int32 × Int32 × Int32 × Bool × (Nat → Int32)) t => match u with | (up2, n2, sm2, ace2, g2) => mB D (gTy cI cJ cQ) (va_A [(h0, .inr (5, [.ref tr, .ref tc, .ref tg, .ref tf, .ref th, .ref tm, .ref to, .ref tp, .int up, .int bank, .long chain, .int (bI told)])), (th, .inr (1, [.ref uh, .int n0, .int sm, .int (bI ace)])), (uh, .inl (cI, 12, .inl g))] sz) [(h0, .inr (5, [.ref tr, .ref tc, .ref tg, .ref tf, .ref th, .ref tm, .ref to, .ref tp, .int up2, .int bank, .long chain, .int (bI told)])), (th, .inr (1, [.ref uh, .int n2, .int sm2, .int (bI ace2)])), (uh, .inl (cI, 12, .inl g2))] t) (va_A [(h0, .inr (5, [.ref tr, .ref tc, .ref tg, .ref tf, .ref th, .ref tm, .ref to, .ref tp, .int up, .int bank, .long chain, .int (bI told)])), (th, .inr (1, [.ref uh, .int n0, .int sm, .int (bI ace)])), (uh, .inl (cI, 12, .inl g))] sz)) 0 0 (va_A [(h0, .inr (5, [.ref tr, .ref tc, .ref tg, .ref tf, .ref th, .ref tm, .ref to, .ref tp, .int up, .int bank, .long chain, .int (bI told)])), (th, .inr (1, [.ref uh, .int n0, .int sm, .int (bI ace)])), (uh, .inl (cI, 12, .inl g))] sz) := by
  refine Met.ofW (cc := cX5_bring) (maxL := 3) (ret := none) (by decide) rfl ?_
  intro p e s m args below meth c s₁ B hml hv
  obtain ⟨rfl, hsz, hP, hK, hD0⟩ := hv
  have hx := B.exec
  have hb := B.bytes
  have hr := B.returns
  have hts := atoms_spec (ws := wsX5_bring) B.pre
  have hown : s.vm.findClass RX5 = some m.cls := findClass_of_methodNamed B.named
  have hlocks := B.notSynchronized
  subst hsz
  have hD := hD0.self (sz := s.heap.size)
  generalize hAe : va_A [(h0, .inr (5, [.ref tr, .ref tc, .ref tg, .ref tf, .ref th, .ref tm, .ref to, .ref tp, .int up, .int bank, .long chain, .int (bI told)])), (th, .inr (1, [.ref uh, .int n0, .int sm, .int (bI ace)])), (uh, .inl (cI, 12, .inl g))] s.heap.size = A at hD ⊢
  have hA : ∀ q : Nat, s.heap.size ≤ q → A q := fun q h => by rw [← hAe]; exact Or.inr h
  have hS : va_S A s.heap s.heap [] := va_S.rf
  have hP : va_P D vwCl [(h0, .inr (5, [.ref tr, .ref tc, .ref tg, .ref tf, .ref th, .ref tm, .ref to, .ref tp, .int up, .int bank, .long chain, .int (bI told)])), (th, .inr (1, [.ref uh, .int n0, .int sm, .int (bI ace)])), (uh, .inl (cI, 12, .inl g))] s.heap := hP
  have hl := lv_entry ([.ref h0, .int p0, .int p1]) (n := 3) (Nat.le_of_ble_eq_true rfl)
  rw [lg_entry_eq]
  generalize (lg_sl ([.ref h0, .int p0, .int p1]) ++ List.replicate (3 - (lg_sl ([.ref h0, .int p0, .int p1])).length) Slot.unset).toArray = ls at hl ⊢
  have hl : lv_has ls 3 [(0, .ref h0), (1, .int p0), (2, .int p1)] := hl
  refine lv_iload_n hx hb dX5_bring_0 rfl (lv_at hl 2 rfl) ?_
  refine lv_if_ne (tgt := 15) hx hb dX5_bring_1 (by decide) (fun c1_1 => ?_) (fun c1_1 => ?_)
  · skip
    refine lv_iload_n hx hb dX5_bring_15 rfl (lv_at hl 2 rfl) ?_
    refine lv_iconst (v := 1) hx hb dX5_bring_16 (by decide) ?_
    refine lv_icmp_ne (tgt := 25) hx hb dX5_bring_17 (by decide) (fun c17_2 => ?_) (fun c17_2 => ?_)
    · skip
      have hP9 := hP.sub (ws' := [(h0, .inr (5, [.ref tr, .ref tc, .ref tg, .ref tf, .ref th, .ref tm, .ref to, .ref tp, .int up, .int bank, .long chain, .int (bI told)])), (th, .inr (1, [.ref uh, .int n0, .int sm, .int (bI ace)])), (uh, .inl (cI, 12, .inl g))]) [0, 1, 2] rfl
      have hD9 := hD.sub (ws' := [(h0, .inr (5, [.ref tr, .ref tc, .ref tg, .ref tf, .ref th, .ref tm, .ref to, .ref tp, .int up, .int bank, .long chain, .int (bI told)])), (th, .inr (1, [.ref uh, .int n0, .int sm, .int (bI ace)])), (uh, .inl (cI, 12, .inl g))]) [0, 1, 2] (by decide) rfl
      exact W.vret hx hb hr (fun t ht hW => ⟨⟨(up, n0, sm, ace, (g)), rfl, (by simp [c1_1, c17_2]), by rw [ht]; exact hP9, va_K.moved hW.alike hK, hD9⟩, hS.F ht⟩) hS.2.2 dX5_bring_25
    · skip
      refine lv_aload_n hx hb dX5_bring_20 rfl (lv_at hl 0 rfl) ?_
      refine lv_iload_n hx hb dX5_bring_21 rfl (lv_at hl 1 rfl) ?_
      refine va_put (D := D) (ci := 5) (v := .int p0) (ty := .int) (C := RX5) (T := TX5) (N := 12) hx hb hts in_X5_bring_X5 tyX5 tyX5_ok nmX5 hown hK hP hD hS 0 rfl rfl 8 (by decide) (hts _ wd_X5_bring_0) (fun _ h9 => h9) rfl (by decide +kernel) rfl rfl (Nat.le_of_ble_eq_true rfl) dX5_bring_22 (fun H locs hP hD hS => ?_)
      have hP : va_P D vwCl [(h0, .inr (5, [.ref tr, .ref tc, .ref tg, .ref tf, .ref th, .ref tm, .ref to, .ref tp, .int p0, .int bank, .long chain, .int (bI told)])), (th, .inr (1, [.ref uh, .int n0, .int sm, .int (bI ace)])), (uh, .inl (cI, 12, .inl g))] H := hP
      have hD : va_D A [(h0, .inr (5, [.ref tr, .ref tc, .ref tg, .ref tf, .ref th, .ref tm, .ref to, .ref tp, .int p0, .int bank, .long chain, .int (bI told)])), (th, .inr (1, [.ref uh, .int n0, .int sm, .int (bI ace)])), (uh, .inl (cI, 12, .inl g))] := hD
      have hP9 := hP.sub (ws' := [(h0, .inr (5, [.ref tr, .ref tc, .ref tg, .ref tf, .ref th, .ref tm, .ref to, .ref tp, .int p0, .int bank, .long chain, .int (bI told)])), (th, .inr (1, [.ref uh, .int n0, .int sm, .int (bI ace)])), (uh, .inl (cI, 12, .inl g))]) [0, 1, 2] rfl
      have hD9 := hD.sub (ws' := [(h0, .inr (5, [.ref tr, .ref tc, .ref tg, .ref tf, .ref th, .ref tm, .ref to, .ref tp, .int p0, .int bank, .long chain, .int (bI told)])), (th, .inr (1, [.ref uh, .int n0, .int sm, .int (bI ace)])), (uh, .inl (cI, 12, .inl g))]) [0, 1, 2] (by decide) rfl
      exact W.vret hx hb hr (fun t ht hW => ⟨⟨(p0, n0, sm, ace, (g)), rfl, (by simp [c1_1, c17_2]), by rw [ht]; exact hP9, va_K.moved hW.alike hK, hD9⟩, hS.F ht⟩) hS.2.2 dX5_bring_25
  · skip
    refine lv_aload_n hx hb dX5_bring_4 rfl (lv_at hl 0 rfl) ?_
    refine va_get (D := D) (ci := 5) (v := .ref th) (C := RX5) (T := TX5) (N := 12) hx hb hts in_X5_bring_X5 hown hK hP 0 rfl rfl 4 (by decide) (hts _ wd_X5_bring_1) (fun _ h9 => h9) rfl dX5_bring_5 ?_
    refine lv_iload_n hx hb dX5_bring_8 rfl (lv_at hl 1 rfl) ?_
    have hPc := hP.sub (ws' := [(th, .inr (1, [.ref uh, .int n0, .int sm, .int (bI ace)])), (uh, .inl (cI, 12, .inl g))]) [1, 2] rfl
    have hDc := hD.sub (ws' := [(th, .inr (1, [.ref uh, .int n0, .int sm, .int (bI ace)])), (uh, .inl (cI, 12, .inl g))]) [1, 2] (by decide) rfl
    have hFc := va_free (wc := [(th, .inr (1, [.ref uh, .int n0, .int sm, .int (bI ace)])), (uh, .inl (cI, 12, .inl g))]) hD hS hA [1, 2] rfl
    refine va_callv (va_runV (As := [.int p0]) (rest := []) ⟨hx, hb, hml, hown, hts⟩ (c_X1_add l D cI cJ cQ _ th uh n0 sm ace (g) p0 (by first | assumption | decide | omega)) (cwV 1 hts gX5_bring_X1_add rfl rfl rfl (by decide +kernel) ⟨Nat.le_of_ble_eq_true rfl, Nat.le_of_ble_eq_true rfl⟩) (mP_preV (ci := 1) (q0 := 0) hPc hK hDc rfl rfl) rfl rfl hl.1 rfl (lv_room (Nat.le_of_ble_eq_true rfl)) dX5_bring_9 ⟨Nat.le_of_ble_eq_true rfl, Nat.le_of_ble_eq_true rfl⟩) hS (fun q _ h => hFc q h) hFc (fun u_r_3 t H1 locs ht hvm hr_3 hB hz1 hk1 hS => ?_)
    obtain ⟨n2_4, sm2_5, ace2_6, g2_7⟩ := u_r_3
    obtain ⟨hP1, hK1, hD1⟩ := hB
    rw [ht] at hP1
    try dsimp only at hr_3
    obtain ⟨hP, hD⟩ := va_join (wr := [(h0, .inr (5, [.ref tr, .ref tc, .ref tg, .ref tf, .ref th, .ref tm, .ref to, .ref tp, .int up, .int bank, .long chain, .int (bI told)]))]) (w1 := [(th, .inr (1, [.ref uh, .int n2_4, .int sm2_5, .int (bI ace2_6)])), (uh, .inl (cI, 12, .inl g2_7))]) hP hD [1, 2] [0] rfl rfl (by decide) (by decide) hk1 hFc hP1 hD1
    generalize H1 = H at hP hS ⊢
    have hP : va_P D vwCl [(h0, .inr (5, [.ref tr, .ref tc, .ref tg, .ref tf, .ref th, .ref tm, .ref to, .ref tp, .int up, .int bank, .long chain, .int (bI told)])), (th, .inr (1, [.ref uh, .int n2_4, .int sm2_5, .int (bI ace2_6)])), (uh, .inl (cI, 12, .inl g2_7))] H := hP
    have hD : va_D A [(h0, .inr (5, [.ref tr, .ref tc, .ref tg, .ref tf, .ref th, .ref tm, .ref to, .ref tp, .int up, .int bank, .long chain, .int (bI told)])), (th, .inr (1, [.ref uh, .int n2_4, .int sm2_5, .int (bI ace2_6)])), (uh, .inl (cI, 12, .inl g2_7))] := hD
    refine lv_goto (tgt := 25) hx hb dX5_bring_12 (by decide) ?_
    have hP9 := hP.sub (ws' := [(h0, .inr (5, [.ref tr, .ref tc, .ref tg, .ref tf, .ref th, .ref tm, .ref to, .ref tp, .int up, .int bank, .long chain, .int (bI told)])), (th, .inr (1, [.ref uh, .int n2_4, .int sm2_5, .int (bI ace2_6)])), (uh, .inl (cI, 12, .inl g2_7))]) [0, 1, 2] rfl
    have hD9 := hD.sub (ws' := [(h0, .inr (5, [.ref tr, .ref tc, .ref tg, .ref tf, .ref th, .ref tm, .ref to, .ref tp, .int up, .int bank, .long chain, .int (bI told)])), (th, .inr (1, [.ref uh, .int n2_4, .int sm2_5, .int (bI ace2_6)])), (uh, .inl (cI, 12, .inl g2_7))]) [0, 1, 2] (by decide) rfl
    exact W.vret hx hb hr (fun t ht hW => ⟨⟨(up, n2_4, sm2_5, ace2_6, (g2_7)), rfl, (by first | (simp [c1_1]; done) | (simpa [c1_1] using hr_3)), by rw [ht]; exact hP9, va_K.moved hW.alike hK, hD9⟩, hS.F ht⟩) hS.2.2 dX5_bring_25

set_option maxRecDepth 20000 in
theorem in_X5_drawnRank_X5 : ∀ w ∈ wsX50, w ∈ wsX5_drawnRank := by decide +kernel
set_option maxRecDepth 20000 in
theorem wd_X5_drawnRank_0 : Cond.fieldLink RX5 19 "ShoeTable" "cards" "LShoeTable$Cards;" ∈ wsX5_drawnRank := by decide +kernel
set_option maxRecDepth 20000 in
theorem in_X5_drawnRank_X0 : ∀ w ∈ wsX00, w ∈ wsX5_drawnRank := by decide +kernel
set_option maxRecDepth 20000 in
theorem wd_X5_drawnRank_1 : Cond.fieldLink RX5 91 "ShoeTable$Cards" "total" "I" ∈ wsX5_drawnRank := by decide +kernel
set_option maxRecDepth 20000 in
theorem wd_X5_drawnRank_2 : Cond.fieldLink RX5 61 "ShoeTable" "chain" "J" ∈ wsX5_drawnRank := by decide +kernel
set_option maxRecDepth 20000 in
theorem wd_X5_drawnRank_3 : Cond.constantLong RX5 220 (6364136223846793005) ∈ wsX5_drawnRank := by decide +kernel
set_option maxRecDepth 20000 in
theorem wd_X5_drawnRank_4 : Cond.constantLong RX5 222 (1442695040888963407) ∈ wsX5_drawnRank := by decide +kernel
set_option maxHeartbeats 400000 in
set_option maxRecDepth 100000 in
/-- X5_drawnRank -/
theorem c_X5_drawnRank (l : Launch) (D : va_G) (cI cJ cQ : ClassId) (sz : Nat) (h0 : Nat) (tr : Nat) (tc : Nat) (tg : Nat) (tf : Nat) (th : Nat) (tm : Nat) (to : Nat) (tp : Nat) (up : Int32) (bank : Int32) (chain : Int64) (told : Bool) (uc : Nat) (tot : Int32) (f : Nat → Int32) (ug : Nat) (totg : Int32) (fg : Nat → Int32) (ht0 : 0 < tot) (hdr : ¬ rkB (rkAt f (plc (chain * 6364136223846793005 + 1442695040888963407) tot)) = 0 ∧ 0 < f (rkAt f (plc (chain * 6364136223846793005 + 1442695040888963407) tot)).toNatClampNeg) : Met l yX5_drawnRank wsX5_drawnRank ({ frames := 2, cells := 0, slots := 0, locals := 43 }) (va_Pc [.ref h0] (mP D (gTy cI cJ cQ) [(h0, .inr (5, [.ref tr, .ref tc, .ref tg, .ref tf, .ref th, .ref tm, .ref to, .ref tp, .int up, .int bank, .long chain, .int (bI told)])), (tc, .inr (0, [.ref uc, .int tot])), (uc, .inl (cI, 11, .inl f)), (tg, .inr (0, [.ref ug, .int totg])), (ug, .inl (cI, 11, .inl fg))] sz)) (va_Qi (fun (r : Int32) (u : Int32 × (Nat → Int32) × Int32 × (Nat → Int32) × Int64) => match u with | (tot2, f2, totg2, fg2, ch2) => tot2 = tot - 1 ∧ f2 = upd f r.toNatClampNeg (f r.toNatClampNeg - 1) ∧ totg2 = totg + 1 ∧ fg2 = upd fg r.toNatClampNeg (fg r.toNatClampNeg + 1) ∧ ch2 = (chain * 6364136223846793005 + 1442695040888963407) ∧ r = rkAt f (plc (chain * 6364136223846793005 + 1442695040888963407) tot)) (fun (u : Int32 × (Nat → Int32) × Int32 × (Nat → Int32) × Int64) t => match u with | (tot2, f2, totg2, fg2, ch2) => mB D (gTy cI cJ cQ) (va_A [(h0, .inr (5, [.ref tr, .ref tc, .ref tg, .ref tf, .ref th, .ref tm, .ref to, .ref tp, .int up, .int bank, .long chain, .int (bI told)])), (tc, .inr (0, [.ref uc, .int tot])), (uc, .inl (cI, 11, .inl f)), (tg, .inr (0, [.ref ug, .int totg])), (ug, .inl (cI, 11, .inl fg))] sz) [(h0, .inr (5, [.ref tr, .ref tc, .ref tg, .ref tf, .ref th, .ref tm, .ref to, .ref tp, .int up, .int bank, .long ch2, .int (bI told)])), (tc, .inr (0, [.ref uc, .int tot2])), (uc, .inl (cI, 11, .inl f2)), (tg, .inr (0, [.ref ug, .int totg2])), (ug, .inl (cI, 11, .inl fg2))] t) (va_A [(h0, .inr (5, [.ref tr, .ref tc, .ref tg, .ref tf, .ref th, .ref tm, .ref to, .ref tp, .int up, .int bank, .long chain, .int (bI told)])), (tc, .inr (0, [.ref uc, .int tot])), (uc, .inl (cI, 11, .inl f)), (tg, .inr (0, [.ref ug, .int totg])), (ug, .inl (cI, 11, .inl fg))] sz)) 0 0 (va_A [(h0, .inr (5, [.ref tr, .ref tc, .ref tg, .ref tf, .ref th, .ref tm, .ref to, .ref tp, .int up, .int bank, .long chain, .int (bI told)])), (tc, .inr (0, [.ref uc, .int tot])), (uc, .inl (cI, 11, .inl f)), (tg, .inr (0, [.ref ug, .int totg])), (ug, .inl (cI, 11, .inl fg))] sz) := by
  refine Met.ofW (cc := cX5_drawnRank) (maxL := 2) (ret := (some .int)) (by decide) rfl ?_
  intro p e s m args below meth c s₁ B hml hv
  obtain ⟨rfl, hsz, hP, hK, hD0⟩ := hv
  have hx := B.exec
  have hb := B.bytes
  have hr := B.returns
  have hts := atoms_spec (ws := wsX5_drawnRank) B.pre
  have hown : s.vm.findClass RX5 = some m.cls := findClass_of_methodNamed B.named
  have hlocks := B.notSynchronized
  subst hsz
  have hD := hD0.self (sz := s.heap.size)
  generalize hAe : va_A [(h0, .inr (5, [.ref tr, .ref tc, .ref tg, .ref tf, .ref th, .ref tm, .ref to, .ref tp, .int up, .int bank, .long chain, .int (bI told)])), (tc, .inr (0, [.ref uc, .int tot])), (uc, .inl (cI, 11, .inl f)), (tg, .inr (0, [.ref ug, .int totg])), (ug, .inl (cI, 11, .inl fg))] s.heap.size = A at hD ⊢
  have hA : ∀ q : Nat, s.heap.size ≤ q → A q := fun q h => by rw [← hAe]; exact Or.inr h
  have hS : va_S A s.heap s.heap [] := va_S.rf
  have hP : va_P D vwCl [(h0, .inr (5, [.ref tr, .ref tc, .ref tg, .ref tf, .ref th, .ref tm, .ref to, .ref tp, .int up, .int bank, .long chain, .int (bI told)])), (tc, .inr (0, [.ref uc, .int tot])), (uc, .inl (cI, 11, .inl f)), (tg, .inr (0, [.ref ug, .int totg])), (ug, .inl (cI, 11, .inl fg))] s.heap := hP
  have hl := lv_entry ([.ref h0]) (n := 2) (Nat.le_of_ble_eq_true rfl)
  rw [lg_entry_eq]
  generalize (lg_sl ([.ref h0]) ++ List.replicate (2 - (lg_sl ([.ref h0])).length) Slot.unset).toArray = ls at hl ⊢
  have hl : lv_has ls 2 [(0, .ref h0)] := hl
  refine lv_aload_n hx hb dX5_drawnRank_0 rfl (lv_at hl 0 rfl) ?_
  refine va_get (D := D) (ci := 5) (v := .ref tc) (C := RX5) (T := TX5) (N := 12) hx hb hts in_X5_drawnRank_X5 hown hK hP 0 rfl rfl 1 (by decide) (hts _ wd_X5_drawnRank_0) (fun _ h9 => h9) rfl dX5_drawnRank_1 ?_
  refine va_get (D := D) (ci := 0) (v := .int tot) (C := RX0) (T := TX0) (N := 2) hx hb hts in_X5_drawnRank_X0 hown hK hP 1 rfl rfl 1 (by decide) (hts _ wd_X5_drawnRank_1) (fun _ h9 => h9) rfl dX5_drawnRank_4 ?_
  refine lv_if_gt (tgt := 12) hx hb dX5_drawnRank_7 (by decide) (fun c7_1 => ?_) (fun c7_1 => ?_)
  · skip
    refine lv_aload_n hx hb dX5_drawnRank_12 rfl (lv_at hl 0 rfl) ?_
    refine lv_aload_n hx hb dX5_drawnRank_13 rfl (lv_at hl 0 rfl) ?_
    refine va_get (D := D) (ci := 5) (v := .long chain) (C := RX5) (T := TX5) (N := 12) hx hb hts in_X5_drawnRank_X5 hown hK hP 0 rfl rfl 10 (by decide) (hts _ wd_X5_drawnRank_2) (fun _ h9 => h9) rfl dX5_drawnRank_14 ?_
    refine lv_ldc2 hx hb hown (hts _ wd_X5_drawnRank_3) dX5_drawnRank_17 ?_
    refine lv_lmul hx hb dX5_drawnRank_20 ?_
    refine lv_ldc2 hx hb hown (hts _ wd_X5_drawnRank_4) dX5_drawnRank_21 ?_
    refine lv_ladd hx hb dX5_drawnRank_24 ?_
    refine va_put (D := D) (ci := 5) (v := .long ((chain * 6364136223846793005) + 1442695040888963407)) (ty := .long) (C := RX5) (T := TX5) (N := 12) hx hb hts in_X5_drawnRank_X5 tyX5 tyX5_ok nmX5 hown hK hP hD hS 0 rfl rfl 10 (by decide) (hts _ wd_X5_drawnRank_2) (fun _ h9 => h9) rfl (by decide +kernel) rfl rfl (Nat.le_of_ble_eq_true rfl) dX5_drawnRank_25 (fun H locs hP hD hS => ?_)
    have hP : va_P D vwCl [(h0, .inr (5, [.ref tr, .ref tc, .ref tg, .ref tf, .ref th, .ref tm, .ref to, .ref tp, .int up, .int bank, .long ((chain * 6364136223846793005) + 1442695040888963407), .int (bI told)])), (tc, .inr (0, [.ref uc, .int tot])), (uc, .inl (cI, 11, .inl f)), (tg, .inr (0, [.ref ug, .int totg])), (ug, .inl (cI, 11, .inl fg))] H := hP
    have hD : va_D A [(h0, .inr (5, [.ref tr, .ref tc, .ref tg, .ref tf, .ref th, .ref tm, .ref to, .ref tp, .int up, .int bank, .long ((chain * 6364136223846793005) + 1442695040888963407), .int (bI told)])), (tc, .inr (0, [.ref uc, .int tot])), (uc, .inl (cI, 11, .inl f)), (tg, .inr (0, [.ref ug, .int totg])), (ug, .inl (cI, 11, .inl fg))] := hD
    refine lv_aload_n hx hb dX5_drawnRank_28 rfl (lv_at hl 0 rfl) ?_
    refine va_get (D := D) (ci := 5) (v := .ref tc) (C := RX5) (T := TX5) (N := 12) hx hb hts in_X5_drawnRank_X5 hown hK hP 0 rfl rfl 1 (by decide) (hts _ wd_X5_drawnRank_0) (fun _ h9 => h9) rfl dX5_drawnRank_29 ?_
    refine lv_aload_n hx hb dX5_drawnRank_32 rfl (lv_at hl 0 rfl) ?_
    refine va_get (D := D) (ci := 5) (v := .long ((chain * 6364136223846793005) + 1442695040888963407)) (C := RX5) (T := TX5) (N := 12) hx hb hts in_X5_drawnRank_X5 hown hK hP 0 rfl rfl 10 (by decide) (hts _ wd_X5_drawnRank_2) (fun _ h9 => h9) rfl dX5_drawnRank_33 ?_
    refine lv_bipush (v := 33) hx hb dX5_drawnRank_36 (by decide) ?_
    refine lv_lushr (v := ((((chain * 6364136223846793005) + 1442695040888963407)).toUInt64 >>> ((33 : Int32).toInt64.toUInt64 &&& Int64.toUInt64 63)).toInt64) hx hb dX5_drawnRank_38 rfl ?_
    refine lv_aload_n hx hb dX5_drawnRank_39 rfl (lv_at hl 0 rfl) ?_
    refine va_get (D := D) (ci := 5) (v := .ref tc) (C := RX5) (T := TX5) (N := 12) hx hb hts in_X5_drawnRank_X5 hown hK hP 0 rfl rfl 1 (by decide) (hts _ wd_X5_drawnRank_0) (fun _ h9 => h9) rfl dX5_drawnRank_40 ?_
    refine va_get (D := D) (ci := 0) (v := .int tot) (C := RX0) (T := TX0) (N := 2) hx hb hts in_X5_drawnRank_X0 hown hK hP 1 rfl rfl 1 (by decide) (hts _ wd_X5_drawnRank_1) (fun _ h9 => h9) rfl dX5_drawnRank_43 ?_
    refine lv_i2l (v := tot.toInt64) hx hb dX5_drawnRank_46 rfl ?_
    refine lv_lrem hx hb dX5_drawnRank_47 (tot64 ht0) ?_
    refine lv_l2i (v := (((((chain * 6364136223846793005) + 1442695040888963407)).toUInt64 >>> ((33 : Int32).toInt64.toUInt64 &&& Int64.toUInt64 63)).toInt64 - ((((chain * 6364136223846793005) + 1442695040888963407)).toUInt64 >>> ((33 : Int32).toInt64.toUInt64 &&& Int64.toUInt64 63)).toInt64 / tot.toInt64 * tot.toInt64).toInt32) hx hb dX5_drawnRank_48 rfl ?_
    have hPc := hP.sub (ws' := [(tc, .inr (0, [.ref uc, .int tot])), (uc, .inl (cI, 11, .inl f))]) [1, 2] rfl
    refine vp_callSi (W.runV (As := [.int ((((((chain * 6364136223846793005) + 1442695040888963407)).toUInt64 >>> ((33 : Int32).toInt64.toUInt64 &&& Int64.toUInt64 63)).toInt64 - ((((chain * 6364136223846793005) + 1442695040888963407)).toUInt64 >>> ((33 : Int32).toInt64.toUInt64 &&& Int64.toUInt64 63)).toInt64 / tot.toInt64 * tot.toInt64).toInt32)]) (rest := []) ⟨hx, hb, hml, hown, hts⟩ (c_X0_rankAt l D cI cJ cQ tc uc tot (f) ((((((chain * 6364136223846793005) + 1442695040888963407)).toUInt64 >>> ((33 : Int32).toInt64.toUInt64 &&& Int64.toUInt64 63)).toInt64 - ((((chain * 6364136223846793005) + 1442695040888963407)).toUInt64 >>> ((33 : Int32).toInt64.toUInt64 &&& Int64.toUInt64 63)).toInt64 / tot.toInt64 * tot.toInt64).toInt32)) (cwV 1 hts gX5_drawnRank_X0_rankAt rfl rfl rfl (by decide +kernel) ⟨Nat.le_of_ble_eq_true rfl, Nat.le_of_ble_eq_true rfl⟩) (rP_preV (ci := 0) (q0 := 0) hPc hK rfl rfl) rfl rfl hl.1 rfl (lv_room (Nat.le_of_ble_eq_true rfl)) dX5_drawnRank_49 ⟨Nat.le_of_ble_eq_true rfl, Nat.le_of_ble_eq_true rfl⟩) (fun r_2 hr_2 => ?_)
    subst hr_2
    refine lv_istore_n (lv' := [(1, .int (rkAt (f) ((((((chain * 6364136223846793005) + 1442695040888963407)).toUInt64 >>> ((33 : Int32).toInt64.toUInt64 &&& Int64.toUInt64 63)).toInt64 - ((((chain * 6364136223846793005) + 1442695040888963407)).toUInt64 >>> ((33 : Int32).toInt64.toUInt64 &&& Int64.toUInt64 63)).toInt64 / tot.toInt64 * tot.toInt64).toInt32))), (0, .ref h0)]) hx hb dX5_drawnRank_52 rfl hl (by decide) rfl (fun ls hl => ?_)
    refine lv_aload_n hx hb dX5_drawnRank_53 rfl (lv_at hl 1 rfl) ?_
    refine lv_iload_n hx hb dX5_drawnRank_54 rfl (lv_at hl 0 rfl) ?_
    have hPc := hP.sub (ws' := [(h0, .inr (5, [.ref tr, .ref tc, .ref tg, .ref tf, .ref th, .ref tm, .ref to, .ref tp, .int up, .int bank, .long ((chain * 6364136223846793005) + 1442695040888963407), .int (bI told)])), (tc, .inr (0, [.ref uc, .int tot])), (uc, .inl (cI, 11, .inl f)), (tg, .inr (0, [.ref ug, .int totg])), (ug, .inl (cI, 11, .inl fg))]) [0, 1, 2, 3, 4] rfl
    have hDc := hD.sub (ws' := [(h0, .inr (5, [.ref tr, .ref tc, .ref tg, .ref tf, .ref th, .ref tm, .ref to, .ref tp, .int up, .int bank, .long ((chain * 6364136223846793005) + 1442695040888963407), .int (bI told)])), (tc, .inr (0, [.ref uc, .int tot])), (uc, .inl (cI, 11, .inl f)), (tg, .inr (0, [.ref ug, .int totg])), (ug, .inl (cI, 11, .inl fg))]) [0, 1, 2, 3, 4] (by decide) rfl
    have hFc := va_free (wc := [(h0, .inr (5, [.ref tr, .ref tc, .ref tg, .ref tf, .ref th, .ref tm, .ref to, .ref tp, .int up, .int bank, .long ((chain * 6364136223846793005) + 1442695040888963407), .int (bI told)])), (tc, .inr (0, [.ref uc, .int tot])), (uc, .inl (cI, 11, .inl f)), (tg, .inr (0, [.ref ug, .int totg])), (ug, .inl (cI, 11, .inl fg))]) hD hS hA [0, 1, 2, 3, 4] rfl
    refine va_callv (va_runV (As := [.int (rkAt (f) ((((((chain * 6364136223846793005) + 1442695040888963407)).toUInt64 >>> ((33 : Int32).toInt64.toUInt64 &&& Int64.toUInt64 63)).toInt64 - ((((chain * 6364136223846793005) + 1442695040888963407)).toUInt64 >>> ((33 : Int32).toInt64.toUInt64 &&& Int64.toUInt64 63)).toInt64 / tot.toInt64 * tot.toInt64).toInt32))]) (rest := []) ⟨hx, hb, hml, hown, hts⟩ (c_X5_moveOut l D cI cJ cQ _ h0 tr tc tg tf th tm to tp up bank ((chain * 6364136223846793005) + 1442695040888963407) told uc tot (f) ug totg (fg) (rkAt (f) ((((((chain * 6364136223846793005) + 1442695040888963407)).toUInt64 >>> ((33 : Int32).toInt64.toUInt64 &&& Int64.toUInt64 63)).toInt64 - ((((chain * 6364136223846793005) + 1442695040888963407)).toUInt64 >>> ((33 : Int32).toInt64.toUInt64 &&& Int64.toUInt64 63)).toInt64 / tot.toInt64 * tot.toInt64).toInt32)) hdr.1 hdr.2) (cwV 1 hts gX5_drawnRank_X5_moveOut rfl rfl rfl (by decide +kernel) ⟨Nat.le_of_ble_eq_true rfl, Nat.le_of_ble_eq_true rfl⟩) (mP_preV (ci := 5) (q0 := 0) hPc hK hDc rfl rfl) rfl rfl hl.1 rfl (lv_room (Nat.le_of_ble_eq_true rfl)) dX5_drawnRank_55 ⟨Nat.le_of_ble_eq_true rfl, Nat.le_of_ble_eq_true rfl⟩) hS (fun q _ h => hFc q h) hFc (fun u_r_3 t H1 locs ht hvm hr_3 hB hz1 hk1 hS => ?_)
    obtain ⟨tot2_4, f2_5, totg2_6, fg2_7⟩ := u_r_3
    obtain ⟨hP1, hK1, hD1⟩ := hB
    rw [ht] at hP1
    try dsimp only at hr_3
    obtain ⟨hP, hD⟩ := va_join (wr := []) (w1 := [(h0, .inr (5, [.ref tr, .ref tc, .ref tg, .ref tf, .ref th, .ref tm, .ref to, .ref tp, .int up, .int bank, .long ((chain * 6364136223846793005) + 1442695040888963407), .int (bI told)])), (tc, .inr (0, [.ref uc, .int tot2_4])), (uc, .inl (cI, 11, .inl f2_5)), (tg, .inr (0, [.ref ug, .int totg2_6])), (ug, .inl (cI, 11, .inl fg2_7))]) hP hD [0, 1, 2, 3, 4] [] rfl rfl (by decide) (by decide) hk1 hFc hP1 hD1
    generalize H1 = H at hP hS ⊢
    have hP : va_P D vwCl [(h0, .inr (5, [.ref tr, .ref tc, .ref tg, .ref tf, .ref th, .ref tm, .ref to, .ref tp, .int up, .int bank, .long ((chain * 6364136223846793005) + 1442695040888963407), .int (bI told)])), (tc, .inr (0, [.ref uc, .int tot2_4])), (uc, .inl (cI, 11, .inl f2_5)), (tg, .inr (0, [.ref ug, .int totg2_6])), (ug, .inl (cI, 11, .inl fg2_7))] H := hP
    have hD : va_D A [(h0, .inr (5, [.ref tr, .ref tc, .ref tg, .ref tf, .ref th, .ref tm, .ref to, .ref tp, .int up, .int bank, .long ((chain * 6364136223846793005) + 1442695040888963407), .int (bI told)])), (tc, .inr (0, [.ref uc, .int tot2_4])), (uc, .inl (cI, 11, .inl f2_5)), (tg, .inr (0, [.ref ug, .int totg2_6])), (ug, .inl (cI, 11, .inl fg2_7))] := hD
    refine lv_iload_n hx hb dX5_drawnRank_58 rfl (lv_at hl 0 rfl) ?_
    have hP9 := hP.sub (ws' := [(h0, .inr (5, [.ref tr, .ref tc, .ref tg, .ref tf, .ref th, .ref tm, .ref to, .ref tp, .int up, .int bank, .long ((chain * 6364136223846793005) + 1442695040888963407), .int (bI told)])), (tc, .inr (0, [.ref uc, .int tot2_4])), (uc, .inl (cI, 11, .inl f2_5)), (tg, .inr (0, [.ref ug, .int totg2_6])), (ug, .inl (cI, 11, .inl fg2_7))]) [0, 1, 2, 3, 4] rfl
    have hD9 := hD.sub (ws' := [(h0, .inr (5, [.ref tr, .ref tc, .ref tg, .ref tf, .ref th, .ref tm, .ref to, .ref tp, .int up, .int bank, .long ((chain * 6364136223846793005) + 1442695040888963407), .int (bI told)])), (tc, .inr (0, [.ref uc, .int tot2_4])), (uc, .inl (cI, 11, .inl f2_5)), (tg, .inr (0, [.ref ug, .int totg2_6])), (ug, .inl (cI, 11, .inl fg2_7))]) [0, 1, 2, 3, 4] (by decide) rfl
    exact W.iret (v := (rkAt (f) ((((((chain * 6364136223846793005) + 1442695040888963407)).toUInt64 >>> ((33 : Int32).toInt64.toUInt64 &&& Int64.toUInt64 63)).toInt64 - ((((chain * 6364136223846793005) + 1442695040888963407)).toUInt64 >>> ((33 : Int32).toInt64.toUInt64 &&& Int64.toUInt64 63)).toInt64 / tot.toInt64 * tot.toInt64).toInt32))) hx hb hr (fun t ht hW => ⟨⟨(rkAt (f) ((((((chain * 6364136223846793005) + 1442695040888963407)).toUInt64 >>> ((33 : Int32).toInt64.toUInt64 &&& Int64.toUInt64 63)).toInt64 - ((((chain * 6364136223846793005) + 1442695040888963407)).toUInt64 >>> ((33 : Int32).toInt64.toUInt64 &&& Int64.toUInt64 63)).toInt64 / tot.toInt64 * tot.toInt64).toInt32)), (tot2_4, (f2_5), totg2_6, (fg2_7), ((chain * 6364136223846793005) + 1442695040888963407)), rfl, ⟨hr_3.1, hr_3.2.1, hr_3.2.2.1, hr_3.2.2.2, rfl, rfl⟩, by rw [ht]; exact hP9, va_K.moved hW.alike hK, hD9⟩, hS.F ht⟩) hS.2.2 dX5_drawnRank_59
  · exact absurd ht0 c7_1
