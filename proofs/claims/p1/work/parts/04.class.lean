set_option maxHeartbeats 400000 in
set_option maxRecDepth 100000 in
/-- X5_isRank -/
theorem c_X5_isRank (l : Launch) (D : va_G) (cI cJ cQ : ClassId) (p0 : Int32)  : Met l yX5_isRank wsX5_isRank ({ frames := 0, cells := 0, slots := 0, locals := 0 }) (va_Pc [.int p0] (rP D (gTy cI cJ cQ) [])) (vp_Si (fun r => r = rkB p0)) 0 0 (fun _ => False) := by
  refine Met.ofW (cc := cX5_isRank) (maxL := 1) (ret := (some .boolean)) (by decide) rfl ?_
  intro p e s m args below meth c s₁ B hml hv
  obtain ⟨rfl, hP, hK⟩ := hv
  have hx := B.exec
  have hb := B.bytes
  have hr := B.returns
  have hts := atoms_spec (ws := wsX5_isRank) B.pre
  have hown : s.vm.findClass RX5 = some m.cls := findClass_of_methodNamed B.named
  have hlocks := B.notSynchronized
  have hl := lv_entry ([.int p0]) (n := 1) (Nat.le_of_ble_eq_true rfl)
  rw [lg_entry_eq]
  generalize (lg_sl ([.int p0]) ++ List.replicate (1 - (lg_sl ([.int p0])).length) Slot.unset).toArray = ls at hl ⊢
  have hl : lv_has ls 1 [(0, .int p0)] := hl
  refine lv_iload_n hx hb dX5_isRank_0 rfl (lv_at hl 0 rfl) ?_
  refine lv_iconst (v := 1) hx hb dX5_isRank_1 (by decide) ?_
  refine lv_icmp_lt (tgt := 15) hx hb dX5_isRank_2 (by decide) (fun c2_1 => ?_) (fun c2_1 => ?_)
  · skip
    refine lv_iconst (v := 0) hx hb dX5_isRank_15 (by decide) ?_
    exact W.zret (v := 0) hx hb hr rfl (fun t ht hW => ⟨_, rfl, (by unfold rkB; first | (simp [c2_1]; done) | ((try first | rw [if_pos c2_1] | rw [if_neg c2_1]); first | done | rfl | trivial)), ht⟩) (fun q hq => absurd hq List.not_mem_nil) dX5_isRank_16
  · skip
    refine lv_iload_n hx hb dX5_isRank_5 rfl (lv_at hl 0 rfl) ?_
    refine lv_bipush (v := 10) hx hb dX5_isRank_6 (by decide) ?_
    refine lv_icmp_gt (tgt := 15) hx hb dX5_isRank_8 (by decide) (fun c8_2 => ?_) (fun c8_2 => ?_)
    · skip
      refine lv_iconst (v := 0) hx hb dX5_isRank_15 (by decide) ?_
      exact W.zret (v := 0) hx hb hr rfl (fun t ht hW => ⟨_, rfl, (by unfold rkB; first | (simp [c2_1, c8_2]; done) | ((try first | rw [if_pos c2_1] | rw [if_neg c2_1]); (try first | rw [if_pos c8_2] | rw [if_neg c8_2]); first | done | rfl | trivial)), ht⟩) (fun q hq => absurd hq List.not_mem_nil) dX5_isRank_16
    · skip
      refine lv_iconst (v := 1) hx hb dX5_isRank_11 (by decide) ?_
      refine lv_goto (tgt := 16) hx hb dX5_isRank_12 (by decide) ?_
      exact W.zret (v := 1) hx hb hr rfl (fun t ht hW => ⟨_, rfl, (by unfold rkB; first | (simp [c2_1, c8_2]; done) | ((try first | rw [if_pos c2_1] | rw [if_neg c2_1]); (try first | rw [if_pos c8_2] | rw [if_neg c8_2]); first | done | rfl | trivial)), ht⟩) (fun q hq => absurd hq List.not_mem_nil) dX5_isRank_16

set_option maxHeartbeats 400000 in
set_option maxRecDepth 100000 in
/-- X5_isGoal -/
theorem c_X5_isGoal (l : Launch) (D : va_G) (cI cJ cQ : ClassId) (p0 : Int32)  : Met l yX5_isGoal wsX5_isGoal ({ frames := 0, cells := 0, slots := 0, locals := 0 }) (va_Pc [.int p0] (rP D (gTy cI cJ cQ) [])) (vp_Si (fun r => r = glB p0)) 0 0 (fun _ => False) := by
  refine Met.ofW (cc := cX5_isGoal) (maxL := 1) (ret := (some .boolean)) (by decide) rfl ?_
  intro p e s m args below meth c s₁ B hml hv
  obtain ⟨rfl, hP, hK⟩ := hv
  have hx := B.exec
  have hb := B.bytes
  have hr := B.returns
  have hts := atoms_spec (ws := wsX5_isGoal) B.pre
  have hown : s.vm.findClass RX5 = some m.cls := findClass_of_methodNamed B.named
  have hlocks := B.notSynchronized
  have hl := lv_entry ([.int p0]) (n := 1) (Nat.le_of_ble_eq_true rfl)
  rw [lg_entry_eq]
  generalize (lg_sl ([.int p0]) ++ List.replicate (1 - (lg_sl ([.int p0])).length) Slot.unset).toArray = ls at hl ⊢
  have hl : lv_has ls 1 [(0, .int p0)] := hl
  refine lv_iload_n hx hb dX5_isGoal_0 rfl (lv_at hl 0 rfl) ?_
  refine lv_if_lt (tgt := 13) hx hb dX5_isGoal_1 (by decide) (fun c1_1 => ?_) (fun c1_1 => ?_)
  · skip
    refine lv_iconst (v := 0) hx hb dX5_isGoal_13 (by decide) ?_
    exact W.zret (v := 0) hx hb hr rfl (fun t ht hW => ⟨_, rfl, (by unfold glB; first | (simp [c1_1]; done) | ((try first | rw [if_pos c1_1] | rw [if_neg c1_1]); first | done | rfl | trivial)), ht⟩) (fun q hq => absurd hq List.not_mem_nil) dX5_isGoal_14
  · skip
    refine lv_iload_n hx hb dX5_isGoal_4 rfl (lv_at hl 0 rfl) ?_
    refine lv_iconst (v := 2) hx hb dX5_isGoal_5 (by decide) ?_
    refine lv_icmp_gt (tgt := 13) hx hb dX5_isGoal_6 (by decide) (fun c6_2 => ?_) (fun c6_2 => ?_)
    · skip
      refine lv_iconst (v := 0) hx hb dX5_isGoal_13 (by decide) ?_
      exact W.zret (v := 0) hx hb hr rfl (fun t ht hW => ⟨_, rfl, (by unfold glB; first | (simp [c1_1, c6_2]; done) | ((try first | rw [if_pos c1_1] | rw [if_neg c1_1]); (try first | rw [if_pos c6_2] | rw [if_neg c6_2]); first | done | rfl | trivial)), ht⟩) (fun q hq => absurd hq List.not_mem_nil) dX5_isGoal_14
    · skip
      refine lv_iconst (v := 1) hx hb dX5_isGoal_9 (by decide) ?_
      refine lv_goto (tgt := 14) hx hb dX5_isGoal_10 (by decide) ?_
      exact W.zret (v := 1) hx hb hr rfl (fun t ht hW => ⟨_, rfl, (by unfold glB; first | (simp [c1_1, c6_2]; done) | ((try first | rw [if_pos c1_1] | rw [if_neg c1_1]); (try first | rw [if_pos c6_2] | rw [if_neg c6_2]); first | done | rfl | trivial)), ht⟩) (fun q hq => absurd hq List.not_mem_nil) dX5_isGoal_14

set_option maxHeartbeats 400000 in
set_option maxRecDepth 100000 in
/-- X5_isAct -/
theorem c_X5_isAct (l : Launch) (D : va_G) (cI cJ cQ : ClassId) (p0 : Int32)  : Met l yX5_isAct wsX5_isAct ({ frames := 0, cells := 0, slots := 0, locals := 0 }) (va_Pc [.int p0] (rP D (gTy cI cJ cQ) [])) (vp_Si (fun r => r = acB p0)) 0 0 (fun _ => False) := by
  refine Met.ofW (cc := cX5_isAct) (maxL := 1) (ret := (some .boolean)) (by decide) rfl ?_
  intro p e s m args below meth c s₁ B hml hv
  obtain ⟨rfl, hP, hK⟩ := hv
  have hx := B.exec
  have hb := B.bytes
  have hr := B.returns
  have hts := atoms_spec (ws := wsX5_isAct) B.pre
  have hown : s.vm.findClass RX5 = some m.cls := findClass_of_methodNamed B.named
  have hlocks := B.notSynchronized
  have hl := lv_entry ([.int p0]) (n := 1) (Nat.le_of_ble_eq_true rfl)
  rw [lg_entry_eq]
  generalize (lg_sl ([.int p0]) ++ List.replicate (1 - (lg_sl ([.int p0])).length) Slot.unset).toArray = ls at hl ⊢
  have hl : lv_has ls 1 [(0, .int p0)] := hl
  refine lv_iload_n hx hb dX5_isAct_0 rfl (lv_at hl 0 rfl) ?_
  refine lv_if_lt (tgt := 13) hx hb dX5_isAct_1 (by decide) (fun c1_1 => ?_) (fun c1_1 => ?_)
  · skip
    refine lv_iconst (v := 0) hx hb dX5_isAct_13 (by decide) ?_
    exact W.zret (v := 0) hx hb hr rfl (fun t ht hW => ⟨_, rfl, (by unfold acB; first | (simp [c1_1]; done) | ((try first | rw [if_pos c1_1] | rw [if_neg c1_1]); first | done | rfl | trivial)), ht⟩) (fun q hq => absurd hq List.not_mem_nil) dX5_isAct_14
  · skip
    refine lv_iload_n hx hb dX5_isAct_4 rfl (lv_at hl 0 rfl) ?_
    refine lv_iconst (v := 4) hx hb dX5_isAct_5 (by decide) ?_
    refine lv_icmp_gt (tgt := 13) hx hb dX5_isAct_6 (by decide) (fun c6_2 => ?_) (fun c6_2 => ?_)
    · skip
      refine lv_iconst (v := 0) hx hb dX5_isAct_13 (by decide) ?_
      exact W.zret (v := 0) hx hb hr rfl (fun t ht hW => ⟨_, rfl, (by unfold acB; first | (simp [c1_1, c6_2]; done) | ((try first | rw [if_pos c1_1] | rw [if_neg c1_1]); (try first | rw [if_pos c6_2] | rw [if_neg c6_2]); first | done | rfl | trivial)), ht⟩) (fun q hq => absurd hq List.not_mem_nil) dX5_isAct_14
    · skip
      refine lv_iconst (v := 1) hx hb dX5_isAct_9 (by decide) ?_
      refine lv_goto (tgt := 14) hx hb dX5_isAct_10 (by decide) ?_
      exact W.zret (v := 1) hx hb hr rfl (fun t ht hW => ⟨_, rfl, (by unfold acB; first | (simp [c1_1, c6_2]; done) | ((try first | rw [if_pos c1_1] | rw [if_neg c1_1]); (try first | rw [if_pos c6_2] | rw [if_neg c6_2]); first | done | rfl | trivial)), ht⟩) (fun q hq => absurd hq List.not_mem_nil) dX5_isAct_14

set_option maxHeartbeats 400000 in
set_option maxRecDepth 100000 in
/-- X5_isPart -/
theorem c_X5_isPart (l : Launch) (D : va_G) (cI cJ cQ : ClassId) (p0 : Int32)  : Met l yX5_isPart wsX5_isPart ({ frames := 0, cells := 0, slots := 0, locals := 0 }) (va_Pc [.int p0] (rP D (gTy cI cJ cQ) [])) (vp_Si (fun r => r = ptB p0)) 0 0 (fun _ => False) := by
  refine Met.ofW (cc := cX5_isPart) (maxL := 1) (ret := (some .boolean)) (by decide) rfl ?_
  intro p e s m args below meth c s₁ B hml hv
  obtain ⟨rfl, hP, hK⟩ := hv
  have hx := B.exec
  have hb := B.bytes
  have hr := B.returns
  have hts := atoms_spec (ws := wsX5_isPart) B.pre
  have hown : s.vm.findClass RX5 = some m.cls := findClass_of_methodNamed B.named
  have hlocks := B.notSynchronized
  have hl := lv_entry ([.int p0]) (n := 1) (Nat.le_of_ble_eq_true rfl)
  rw [lg_entry_eq]
  generalize (lg_sl ([.int p0]) ++ List.replicate (1 - (lg_sl ([.int p0])).length) Slot.unset).toArray = ls at hl ⊢
  have hl : lv_has ls 1 [(0, .int p0)] := hl
  refine lv_iload_n hx hb dX5_isPart_0 rfl (lv_at hl 0 rfl) ?_
  refine lv_if_eq (tgt := 9) hx hb dX5_isPart_1 (by decide) (fun c1_1 => ?_) (fun c1_1 => ?_)
  · skip
    refine lv_iconst (v := 1) hx hb dX5_isPart_9 (by decide) ?_
    refine lv_goto (tgt := 14) hx hb dX5_isPart_10 (by decide) ?_
    exact W.zret (v := 1) hx hb hr rfl (fun t ht hW => ⟨_, rfl, (by unfold ptB; first | (simp [c1_1]; done) | ((try first | rw [if_pos c1_1] | rw [if_neg c1_1]); first | done | rfl | trivial)), ht⟩) (fun q hq => absurd hq List.not_mem_nil) dX5_isPart_14
  · skip
    refine lv_iload_n hx hb dX5_isPart_4 rfl (lv_at hl 0 rfl) ?_
    refine lv_iconst (v := 1) hx hb dX5_isPart_5 (by decide) ?_
    refine lv_icmp_ne (tgt := 13) hx hb dX5_isPart_6 (by decide) (fun c6_2 => ?_) (fun c6_2 => ?_)
    · skip
      refine lv_iconst (v := 0) hx hb dX5_isPart_13 (by decide) ?_
      exact W.zret (v := 0) hx hb hr rfl (fun t ht hW => ⟨_, rfl, (by unfold ptB; first | (simp [c1_1, c6_2]; done) | ((try first | rw [if_pos c1_1] | rw [if_neg c1_1]); (try first | rw [if_pos c6_2] | rw [if_neg c6_2]); first | done | rfl | trivial)), ht⟩) (fun q hq => absurd hq List.not_mem_nil) dX5_isPart_14
    · skip
      refine lv_iconst (v := 1) hx hb dX5_isPart_9 (by decide) ?_
      refine lv_goto (tgt := 14) hx hb dX5_isPart_10 (by decide) ?_
      exact W.zret (v := 1) hx hb hr rfl (fun t ht hW => ⟨_, rfl, (by unfold ptB; first | (simp [c1_1, c6_2]; done) | ((try first | rw [if_pos c1_1] | rw [if_neg c1_1]); (try first | rw [if_pos c6_2] | rw [if_neg c6_2]); first | done | rfl | trivial)), ht⟩) (fun q hq => absurd hq List.not_mem_nil) dX5_isPart_14

set_option maxHeartbeats 400000 in
set_option maxRecDepth 100000 in
/-- X5_asNumber -/
theorem c_X5_asNumber (l : Launch) (D : va_G) (cI cJ cQ : ClassId) (p0 : Int32)  : Met l yX5_asNumber wsX5_asNumber ({ frames := 0, cells := 0, slots := 0, locals := 0 }) (va_Pc [.int p0] (rP D (gTy cI cJ cQ) [])) (vp_Si (fun r => r = nuB p0)) 0 0 (fun _ => False) := by
  refine Met.ofW (cc := cX5_asNumber) (maxL := 1) (ret := (some .int)) (by decide) rfl ?_
  intro p e s m args below meth c s₁ B hml hv
  obtain ⟨rfl, hP, hK⟩ := hv
  have hx := B.exec
  have hb := B.bytes
  have hr := B.returns
  have hts := atoms_spec (ws := wsX5_asNumber) B.pre
  have hown : s.vm.findClass RX5 = some m.cls := findClass_of_methodNamed B.named
  have hlocks := B.notSynchronized
  have hl := lv_entry ([.int p0]) (n := 1) (Nat.le_of_ble_eq_true rfl)
  rw [lg_entry_eq]
  generalize (lg_sl ([.int p0]) ++ List.replicate (1 - (lg_sl ([.int p0])).length) Slot.unset).toArray = ls at hl ⊢
  have hl : lv_has ls 1 [(0, .int p0)] := hl
  refine lv_iload_n hx hb dX5_asNumber_0 rfl (lv_at hl 0 rfl) ?_
  refine lv_if_eq (tgt := 8) hx hb dX5_asNumber_1 (by decide) (fun c1_1 => ?_) (fun c1_1 => ?_)
  · skip
    refine lv_iconst (v := 0) hx hb dX5_asNumber_8 (by decide) ?_
    exact W.iret (v := 0) hx hb hr (fun t ht hW => ⟨_, rfl, (by unfold nuB; first | (simp [c1_1]; done) | ((try first | rw [if_pos c1_1] | rw [if_neg c1_1]); first | done | rfl | trivial)), ht⟩) (fun q hq => absurd hq List.not_mem_nil) dX5_asNumber_9
  · skip
    refine lv_iconst (v := 1) hx hb dX5_asNumber_4 (by decide) ?_
    refine lv_goto (tgt := 9) hx hb dX5_asNumber_5 (by decide) ?_
    exact W.iret (v := 1) hx hb hr (fun t ht hW => ⟨_, rfl, (by unfold nuB; first | (simp [c1_1]; done) | ((try first | rw [if_pos c1_1] | rw [if_neg c1_1]); first | done | rfl | trivial)), ht⟩) (fun q hq => absurd hq List.not_mem_nil) dX5_asNumber_9

set_option maxHeartbeats 400000 in
set_option maxRecDepth 100000 in
/-- X0_count -/
theorem c_X0_count0 (l : Launch) (D : va_G) (cI cJ cQ : ClassId) (h0 : Nat) (h1 : Nat) (p0 : Int32)  : Met l yX0_count wsX0_count ({ frames := 0, cells := 0, slots := 0, locals := 0 }) (va_Pc [.ref h0, .int p0] (rP D (gTy cI cJ cQ) [(h0, .inr (0, [.ref h1, .int 0])), (h1, .inl (cI, 11, .inl (fun _ => 0)))])) (vp_Si (fun r => r = 0)) 0 0 (fun _ => False) := by
  refine Met.ofW (cc := cX0_count) (maxL := 2) (ret := (some .int)) (by decide) rfl ?_
  intro p e s m args below meth c s₁ B hml hv
  obtain ⟨rfl, hP, hK⟩ := hv
  have hx := B.exec
  have hb := B.bytes
  have hr := B.returns
  have hts := atoms_spec (ws := wsX0_count) B.pre
  have hown : s.vm.findClass RX0 = some m.cls := findClass_of_methodNamed B.named
  have hlocks := B.notSynchronized
  have hl := lv_entry ([.ref h0, .int p0]) (n := 2) (Nat.le_of_ble_eq_true rfl)
  rw [lg_entry_eq]
  generalize (lg_sl ([.ref h0, .int p0]) ++ List.replicate (2 - (lg_sl ([.ref h0, .int p0])).length) Slot.unset).toArray = ls at hl ⊢
  have hl : lv_has ls 2 [(0, .ref h0), (1, .int p0)] := hl
  refine lv_iload_n hx hb dX0_count_0 rfl (lv_at hl 1 rfl) ?_
  refine lv_iconst (v := 1) hx hb dX0_count_1 (by decide) ?_
  refine lv_icmp_lt (tgt := 20) hx hb dX0_count_2 (by decide) (fun c2_1 => ?_) (fun c2_1 => ?_)
  · skip
    refine lv_iconst (v := 0) hx hb dX0_count_20 (by decide) ?_
    exact W.iret (v := 0) hx hb hr (fun t ht hW => ⟨_, rfl, (by first | rfl | trivial | (simp [c2_1]; done) | ((try first | rw [if_pos c2_1] | rw [if_neg c2_1]); first | done | rfl | trivial) | (simp_all; done)), ht⟩) (fun q hq => absurd hq List.not_mem_nil) dX0_count_21
  · skip
    refine lv_iload_n hx hb dX0_count_5 rfl (lv_at hl 1 rfl) ?_
    refine lv_bipush (v := 10) hx hb dX0_count_6 (by decide) ?_
    refine lv_icmp_gt (tgt := 20) hx hb dX0_count_8 (by decide) (fun c8_2 => ?_) (fun c8_2 => ?_)
    · skip
      refine lv_iconst (v := 0) hx hb dX0_count_20 (by decide) ?_
      exact W.iret (v := 0) hx hb hr (fun t ht hW => ⟨_, rfl, (by first | rfl | trivial | (simp [c2_1, c8_2]; done) | ((try first | rw [if_pos c2_1] | rw [if_neg c2_1]); (try first | rw [if_pos c8_2] | rw [if_neg c8_2]); first | done | rfl | trivial) | (simp_all; done)), ht⟩) (fun q hq => absurd hq List.not_mem_nil) dX0_count_21
    · skip
      refine lv_aload_n hx hb dX0_count_11 rfl (lv_at hl 0 rfl) ?_
      refine va_get (D := D) (ci := 0) (v := .ref h1) (C := RX0) (T := TX0) (N := 2) hx hb hts in_X0_count_X0 hown hK hP 0 rfl rfl 0 (by decide) (hts _ wd_X0_count_0) (fun _ h9 => h9) rfl dX0_count_12 ?_
      refine lv_iload_n hx hb dX0_count_15 rfl (lv_at hl 1 rfl) ?_
      refine va_iald hx hb hK hP 1 0 rfl rfl (rk_in c2_1 c8_2) dX0_count_16 ?_
      refine lv_topi (fun z_3 ez_3 => ?_)
      obtain rfl : z_3 = 0 := ez_3
      refine lv_goto (tgt := 21) hx hb dX0_count_17 (by decide) ?_
      exact W.iret (v := 0) hx hb hr (fun t ht hW => ⟨_, rfl, (by first | rfl | trivial | (simp [c2_1, c8_2]; done) | ((try first | rw [if_pos c2_1] | rw [if_neg c2_1]); (try first | rw [if_pos c8_2] | rw [if_neg c8_2]); first | done | rfl | trivial) | (simp_all; done)), ht⟩) (fun q hq => absurd hq List.not_mem_nil) dX0_count_21

set_option maxRecDepth 20000 in
theorem wd_X3_init_0 : Cond.methodLink RX3 3 objectInit ∈ wsX3_init := by decide +kernel
set_option maxRecDepth 20000 in
theorem wd_X3_init_1 : Cond.instanceMethod objectInit ∈ wsX3_init := by decide +kernel
set_option maxRecDepth 20000 in
theorem wd_X3_init_2 : Cond.code objectInit ⟨#[0xb1]⟩ 1 none ∈ wsX3_init := by decide +kernel
set_option maxRecDepth 20000 in
theorem in_X3_init_X4 : ∀ w ∈ wsX40, w ∈ wsX3_init := by decide +kernel
set_option maxRecDepth 20000 in
theorem wd_X3_init_3 : Cond.classLink RX3 9 RX4 ∈ wsX3_init := by decide +kernel
set_option maxRecDepth 20000 in
theorem wd_X3_init_4 : Cond.instantiable RX4 1 ∈ wsX3_init := by decide +kernel
set_option maxRecDepth 20000 in
theorem wd_X3_init_5 : Cond.initialized RX4 ∈ wsX3_init := by decide +kernel
set_option maxRecDepth 20000 in
theorem wd_X3_init_6 : Cond.instanceMethod yX4_init ∈ wsX3_init := by decide +kernel
set_option maxRecDepth 20000 in
theorem in_X3_init_X3 : ∀ w ∈ wsX30, w ∈ wsX3_init := by decide +kernel
set_option maxRecDepth 20000 in
theorem wd_X3_init_7 : Cond.fieldLink RX3 12 "ShoeTable$Odds" "rules" "LShoeTable$Rules;" ∈ wsX3_init := by decide +kernel
set_option maxRecDepth 20000 in
theorem in_X3_init_X0 : ∀ w ∈ wsX00, w ∈ wsX3_init := by decide +kernel
set_option maxRecDepth 20000 in
theorem wd_X3_init_8 : Cond.classLink RX3 18 RX0 ∈ wsX3_init := by decide +kernel
set_option maxRecDepth 20000 in
theorem wd_X3_init_9 : Cond.instantiable RX0 2 ∈ wsX3_init := by decide +kernel
set_option maxRecDepth 20000 in
theorem wd_X3_init_10 : Cond.initialized RX0 ∈ wsX3_init := by decide +kernel
set_option maxRecDepth 20000 in
theorem wd_X3_init_11 : Cond.instanceMethod yX0_init ∈ wsX3_init := by decide +kernel
set_option maxRecDepth 20000 in
theorem wd_X3_init_12 : Cond.fieldLink RX3 21 "ShoeTable$Odds" "shoe" "LShoeTable$Cards;" ∈ wsX3_init := by decide +kernel
set_option maxRecDepth 20000 in
theorem wd_X3_init_13 : Cond.fieldLink RX3 25 "ShoeTable$Odds" "whole" "LShoeTable$Cards;" ∈ wsX3_init := by decide +kernel
set_option maxRecDepth 20000 in
theorem in_X3_init_X1 : ∀ w ∈ wsX10, w ∈ wsX3_init := by decide +kernel
set_option maxRecDepth 20000 in
theorem wd_X3_init_14 : Cond.classLink RX3 28 RX1 ∈ wsX3_init := by decide +kernel
set_option maxRecDepth 20000 in
theorem wd_X3_init_15 : Cond.instantiable RX1 4 ∈ wsX3_init := by decide +kernel
set_option maxRecDepth 20000 in
theorem wd_X3_init_16 : Cond.initialized RX1 ∈ wsX3_init := by decide +kernel
set_option maxRecDepth 20000 in
theorem wd_X3_init_17 : Cond.instanceMethod yX1_init ∈ wsX3_init := by decide +kernel
set_option maxRecDepth 20000 in
theorem wd_X3_init_18 : Cond.fieldLink RX3 31 "ShoeTable$Odds" "hand" "LShoeTable$Hand;" ∈ wsX3_init := by decide +kernel
set_option maxRecDepth 20000 in
theorem wd_X3_init_19 : Cond.fieldLink RX3 35 "ShoeTable$Odds" "up" "I" ∈ wsX3_init := by decide +kernel
set_option maxRecDepth 20000 in
theorem wd_X3_init_20 : Cond.fieldLink RX3 39 "ShoeTable$Odds" "bestAct" "I" ∈ wsX3_init := by decide +kernel
set_option maxRecDepth 20000 in
theorem wd_X3_init_21 : Cond.fieldLink RX3 42 "ShoeTable$Odds" "bestTotal" "J" ∈ wsX3_init := by decide +kernel
set_option maxRecDepth 20000 in
theorem wd_X3_init_22 : Cond.arrayClass .long ∈ wsX3_init := by decide +kernel
set_option maxRecDepth 20000 in
theorem wd_X3_init_23 : Cond.fieldLink RX3 46 "ShoeTable$Odds" "pay" "[J" ∈ wsX3_init := by decide +kernel
set_option maxRecDepth 20000 in
theorem wd_X3_init_24 : Cond.arrayClass .int ∈ wsX3_init := by decide +kernel
set_option maxRecDepth 20000 in
theorem wd_X3_init_25 : Cond.fieldLink RX3 50 "ShoeTable$Odds" "step" "[I" ∈ wsX3_init := by decide +kernel
set_option maxRecDepth 20000 in
theorem wd_X3_init_26 : Cond.fieldLink RX3 54 "ShoeTable$Odds" "houseTotals" "[J" ∈ wsX3_init := by decide +kernel
set_option maxRecDepth 20000 in
theorem wd_X3_init_27 : Cond.fieldLink RX3 57 "ShoeTable$Odds" "houseRounds" "[I" ∈ wsX3_init := by decide +kernel
set_option maxRecDepth 20000 in
theorem wd_X3_init_28 : Cond.fieldLink RX3 60 "ShoeTable$Odds" "houseRound" "I" ∈ wsX3_init := by decide +kernel
set_option maxRecDepth 20000 in
theorem wd_X3_init_29 : Cond.fieldLink RX3 63 "ShoeTable$Odds" "playerTotals" "[J" ∈ wsX3_init := by decide +kernel
set_option maxRecDepth 20000 in
theorem wd_X3_init_30 : Cond.fieldLink RX3 66 "ShoeTable$Odds" "playerRounds" "[I" ∈ wsX3_init := by decide +kernel
set_option maxRecDepth 20000 in
theorem wd_X3_init_31 : Cond.fieldLink RX3 69 "ShoeTable$Odds" "playerRound" "I" ∈ wsX3_init := by decide +kernel
set_option maxHeartbeats 400000 in
set_option maxRecDepth 100000 in
/-- X3_init -/
theorem c_X3_init (l : Launch) (D : va_G) (cI cJ cQ : ClassId) (sz : Nat) (h0 : Nat)  : Met l yX3_init wsX3_init ({ frames := 2, cells := 14, slots := 9299, locals := 32 }) (va_Pc [.ref h0] (mPn D (gTy cI cJ cQ) [(h0, .inr (3, [.null, .null, .null, .null, .int 0, .int 0, .long 0, .null, .null, .null, .null, .int 0, .null, .null, .int 0]))] sz)) (va_Qv (fun (u : (Nat → Int32)) => match u with | w2 => True) (fun (u : (Nat → Int32)) t => match u with | w2 => ∃ (a0 a1 a2 a3 a4 a5 a6 a7 a8 a9 b0 b1 b3 : Nat), mB D (gTy cI cJ cQ) (va_A [(h0, .inr (3, [.null, .null, .null, .null, .int 0, .int 0, .long 0, .null, .null, .null, .null, .int 0, .null, .null, .int 0]))] sz) [(h0, .inr (3, [.ref a0, .ref a1, .ref a2, .ref a3, .int (-1), .int (-1), .long 0, .ref a4, .ref a5, .ref a6, .ref a7, .int 0, .ref a8, .ref a9, .int 0])), (a0, .inr (4, [.ref b0])), (b0, .inl (cI, 7, .inl w2)), (a1, .inr (0, [.ref b1, .int 0])), (b1, .inl (cI, 11, .inl (fun _ => 0))), (a3, .inr (1, [.ref b3, .int 0, .int 0, .int 0])), (b3, .inl (cI, 12, .inl (fun _ => 0)))] t) (va_A [(h0, .inr (3, [.null, .null, .null, .null, .int 0, .int 0, .long 0, .null, .null, .null, .null, .int 0, .null, .null, .int 0]))] sz)) 14 9299 (va_A [(h0, .inr (3, [.null, .null, .null, .null, .int 0, .int 0, .long 0, .null, .null, .null, .null, .int 0, .null, .null, .int 0]))] sz) := by
  refine Met.ofW (cc := cX3_init) (maxL := 1) (ret := none) (by decide) rfl ?_
  intro p e s m args below meth c s₁ B hml hv
  obtain ⟨rfl, ⟨hsz, hP, hK, hD0⟩, hZ⟩ := hv
  have hx := B.exec
  have hb := B.bytes
  have hr := B.returns
  have hts := atoms_spec (ws := wsX3_init) B.pre
  have hown : s.vm.findClass RX3 = some m.cls := findClass_of_methodNamed B.named
  have hlocks := B.notSynchronized
  have hin : meth.name = "<init>" := (name_of_methodNamed B.named B.method).1
  subst hsz
  have hD := hD0.self (sz := s.heap.size)
  generalize hAe : va_A [(h0, .inr (3, [.null, .null, .null, .null, .int 0, .int 0, .long 0, .null, .null, .null, .null, .int 0, .null, .null, .int 0]))] s.heap.size = A at hD ⊢
  have hA : ∀ q : Nat, s.heap.size ≤ q → A q := fun q h => by rw [← hAe]; exact Or.inr h
  have hS : va_S A s.heap s.heap [] := va_S.rf
  have hP : va_P D vwCl [(h0, .inr (3, [.null, .null, .null, .null, .int 0, .int 0, .long 0, .null, .null, .null, .null, .int 0, .null, .null, .int 0]))] s.heap := hP
  have hl := lv_entry ([.ref h0]) (n := 1) (Nat.le_of_ble_eq_true rfl)
  rw [lg_entry_eq]
  generalize (lg_sl ([.ref h0]) ++ List.replicate (1 - (lg_sl ([.ref h0])).length) Slot.unset).toArray = ls at hl ⊢
  have hl : lv_has ls 1 [(0, .ref h0)] := hl
  refine lv_aload_n hx hb dX3_init_0 rfl (lv_at hl 0 rfl) ?_
  refine W.objInit hx hb hown (hts _ wd_X3_init_0) (hts _ wd_X3_init_1) (hts _ wd_X3_init_2) rfl (by rw [hml]; exact hl.1) rfl dX3_init_1 (Nat.le_of_ble_eq_true rfl) (Nat.le_of_ble_eq_true rfl) ?_
  refine W.eq (g2 := F0 m 4 ls []) rfl ?_
  refine lv_aload_n hx hb dX3_init_4 rfl (lv_at hl 0 rfl) ?_
  refine va_new (ci := 4) (fs := [.null]) (C := RX4) (T := TX4) (N := 1) hx hb hts in_X3_init_X4 tyX4 tyX4_ok hown (hts _ wd_X3_init_3) (hts _ wd_X3_init_4) (hts _ wd_X3_init_5) hK hP hD hS hA rfl (fun j hj => by rcases (show j = 0 by omega) with rfl <;> rfl) (Nat.le_of_ble_eq_true rfl) (Nat.le_of_ble_eq_true rfl) dX3_init_5 (fun q_1 H hP hD hS => ?_)
  have hP : va_P D vwCl [(h0, .inr (3, [.null, .null, .null, .null, .int 0, .int 0, .long 0, .null, .null, .null, .null, .int 0, .null, .null, .int 0])), (q_1, .inr (4, [.null]))] H := hP
  have hD : va_D A [(h0, .inr (3, [.null, .null, .null, .null, .int 0, .int 0, .long 0, .null, .null, .null, .null, .int 0, .null, .null, .int 0])), (q_1, .inr (4, [.null]))] := hD
  refine W.widen (k := 1) (n := 1) (by omega) (by omega) ?_
  refine lv_dup hx hb dX3_init_8 rfl ?_
  have hPc := hP.sub (ws' := [(q_1, .inr (4, [.null]))]) [1] rfl
  have hDc := hD.sub (ws' := [(q_1, .inr (4, [.null]))]) [1] (by decide) rfl
  have hFc := va_free (wc := [(q_1, .inr (4, [.null]))]) hD hS hA [1] rfl
  refine va_callv (va_runIN (As := []) (rest := [.ref q_1, .ref h0]) ⟨hx, hb, hml, hown, hts⟩ (c_X4_init l D cI cJ cQ _ q_1) (⟨va_cnB 0 hts gX3_init_X4_init_n11 rfl rfl rfl hZ.2.2.2.2.2.1 (hts _ wd_X3_init_5) (by decide +kernel) ⟨Nat.le_of_ble_eq_true rfl, Nat.le_of_ble_eq_true rfl⟩, rfl, (hts _ wd_X3_init_6)⟩) (mP_preS hPc hK hDc) rfl rfl hl.1 rfl (lv_room (Nat.le_of_ble_eq_true rfl)) dX3_init_9 ⟨Nat.le_of_ble_eq_true rfl, Nat.le_of_ble_eq_true rfl⟩) hS (fun q _ h => hFc q h) hFc (fun u_r_2 t H1 locs ht hvm hr_2 hB hz1 hk1 hS => ?_)
  obtain ⟨w2_3, rfl⟩ : ∃ z, z = u_r_2 := ⟨_, rfl⟩
  obtain ⟨h1_4, hP1, hK1, hD1⟩ := hB
  rw [ht] at hP1
  try dsimp only at hr_2
  obtain ⟨hP, hD⟩ := va_join (wr := [(h0, .inr (3, [.null, .null, .null, .null, .int 0, .int 0, .long 0, .null, .null, .null, .null, .int 0, .null, .null, .int 0]))]) (w1 := [(q_1, .inr (4, [.ref h1_4])), (h1_4, .inl (cI, 7, .inl w2_3))]) hP hD [1] [0] rfl rfl (by decide) (by decide) hk1 hFc hP1 hD1
  generalize H1 = H at hP hS ⊢
  have hP : va_P D vwCl [(h0, .inr (3, [.null, .null, .null, .null, .int 0, .int 0, .long 0, .null, .null, .null, .null, .int 0, .null, .null, .int 0])), (q_1, .inr (4, [.ref h1_4])), (h1_4, .inl (cI, 7, .inl w2_3))] H := hP
  have hD : va_D A [(h0, .inr (3, [.null, .null, .null, .null, .int 0, .int 0, .long 0, .null, .null, .null, .null, .int 0, .null, .null, .int 0])), (q_1, .inr (4, [.ref h1_4])), (h1_4, .inl (cI, 7, .inl w2_3))] := hD
  refine W.widen (k := 2) (n := 8) (by omega) (by omega) ?_
  refine va_putF (D := D) (ci := 3) (v := .ref q_1) (ty := .object "ShoeTable$Rules") (C := RX3) (T := TX3) (N := 15) hx hb hts in_X3_init_X3 tyX3 tyX3_ok nmX3 hown hK hP hD hS 0 rfl rfl 0 (by decide) (hts _ wd_X3_init_7) (fun _ h9 => h9) rfl hin rfl (by decide +kernel) rfl rfl (Nat.le_of_ble_eq_true rfl) dX3_init_12 (fun H locs hP hD hS => ?_)
  have hP : va_P D vwCl [(h0, .inr (3, [.ref q_1, .null, .null, .null, .int 0, .int 0, .long 0, .null, .null, .null, .null, .int 0, .null, .null, .int 0])), (q_1, .inr (4, [.ref h1_4])), (h1_4, .inl (cI, 7, .inl w2_3))] H := hP
  have hD : va_D A [(h0, .inr (3, [.ref q_1, .null, .null, .null, .int 0, .int 0, .long 0, .null, .null, .null, .null, .int 0, .null, .null, .int 0])), (q_1, .inr (4, [.ref h1_4])), (h1_4, .inl (cI, 7, .inl w2_3))] := hD
  refine lv_aload_n hx hb dX3_init_15 rfl (lv_at hl 0 rfl) ?_
  refine va_new (ci := 0) (fs := [.null, .int 0]) (C := RX0) (T := TX0) (N := 2) hx hb hts in_X3_init_X0 tyX0 tyX0_ok hown (hts _ wd_X3_init_8) (hts _ wd_X3_init_9) (hts _ wd_X3_init_10) hK hP hD hS hA rfl (fun j hj => by rcases (show j = 0 ∨ j = 1 by omega) with rfl | rfl <;> rfl) (Nat.le_of_ble_eq_true rfl) (Nat.le_of_ble_eq_true rfl) dX3_init_16 (fun q_5 H hP hD hS => ?_)
  have hP : va_P D vwCl [(h0, .inr (3, [.ref q_1, .null, .null, .null, .int 0, .int 0, .long 0, .null, .null, .null, .null, .int 0, .null, .null, .int 0])), (q_1, .inr (4, [.ref h1_4])), (h1_4, .inl (cI, 7, .inl w2_3)), (q_5, .inr (0, [.null, .int 0]))] H := hP
  have hD : va_D A [(h0, .inr (3, [.ref q_1, .null, .null, .null, .int 0, .int 0, .long 0, .null, .null, .null, .null, .int 0, .null, .null, .int 0])), (q_1, .inr (4, [.ref h1_4])), (h1_4, .inl (cI, 7, .inl w2_3)), (q_5, .inr (0, [.null, .int 0]))] := hD
  refine W.widen (k := 3) (n := 10) (by omega) (by omega) ?_
  refine lv_dup hx hb dX3_init_19 rfl ?_
  have hPc := hP.sub (ws' := [(q_5, .inr (0, [.null, .int 0]))]) [3] rfl
  have hDc := hD.sub (ws' := [(q_5, .inr (0, [.null, .int 0]))]) [3] (by decide) rfl
  have hFc := va_free (wc := [(q_5, .inr (0, [.null, .int 0]))]) hD hS hA [3] rfl
  refine va_callv (va_runIN (As := []) (rest := [.ref q_5, .ref h0]) ⟨hx, hb, hml, hown, hts⟩ (c_X0_init l D cI cJ cQ _ q_5) (⟨va_cnB 0 hts gX3_init_X0_init_n20 rfl rfl rfl hZ.2.2.2.2.2.2.1 (hts _ wd_X3_init_10) (by decide +kernel) ⟨Nat.le_of_ble_eq_true rfl, Nat.le_of_ble_eq_true rfl⟩, rfl, (hts _ wd_X3_init_11)⟩) (mP_preS hPc hK hDc) rfl rfl hl.1 rfl (lv_room (Nat.le_of_ble_eq_true rfl)) dX3_init_20 ⟨Nat.le_of_ble_eq_true rfl, Nat.le_of_ble_eq_true rfl⟩) hS (fun q _ h => hFc q h) hFc (fun u_r_6 t H1 locs ht hvm hr_6 hB hz1 hk1 hS => ?_)
  obtain ⟨h1_7, hP1, hK1, hD1⟩ := hB
  rw [ht] at hP1
  try dsimp only at hr_6
  obtain ⟨hP, hD⟩ := va_join (wr := [(h0, .inr (3, [.ref q_1, .null, .null, .null, .int 0, .int 0, .long 0, .null, .null, .null, .null, .int 0, .null, .null, .int 0])), (q_1, .inr (4, [.ref h1_4])), (h1_4, .inl (cI, 7, .inl w2_3))]) (w1 := [(q_5, .inr (0, [.ref h1_7, .int 0])), (h1_7, .inl (cI, 11, .inl (fun _ => 0)))]) hP hD [3] [0, 1, 2] rfl rfl (by decide) (by decide) hk1 hFc hP1 hD1
  generalize H1 = H at hP hS ⊢
  have hP : va_P D vwCl [(h0, .inr (3, [.ref q_1, .null, .null, .null, .int 0, .int 0, .long 0, .null, .null, .null, .null, .int 0, .null, .null, .int 0])), (q_1, .inr (4, [.ref h1_4])), (h1_4, .inl (cI, 7, .inl w2_3)), (q_5, .inr (0, [.ref h1_7, .int 0])), (h1_7, .inl (cI, 11, .inl (fun _ => 0)))] H := hP
  have hD : va_D A [(h0, .inr (3, [.ref q_1, .null, .null, .null, .int 0, .int 0, .long 0, .null, .null, .null, .null, .int 0, .null, .null, .int 0])), (q_1, .inr (4, [.ref h1_4])), (h1_4, .inl (cI, 7, .inl w2_3)), (q_5, .inr (0, [.ref h1_7, .int 0])), (h1_7, .inl (cI, 11, .inl (fun _ => 0)))] := hD
  refine W.widen (k := 4) (n := 21) (by omega) (by omega) ?_
  refine va_putF (D := D) (ci := 3) (v := .ref q_5) (ty := .object "ShoeTable$Cards") (C := RX3) (T := TX3) (N := 15) hx hb hts in_X3_init_X3 tyX3 tyX3_ok nmX3 hown hK hP hD hS 0 rfl rfl 1 (by decide) (hts _ wd_X3_init_12) (fun _ h9 => h9) rfl hin rfl (by decide +kernel) rfl rfl (Nat.le_of_ble_eq_true rfl) dX3_init_23 (fun H locs hP hD hS => ?_)
  have hP : va_P D vwCl [(h0, .inr (3, [.ref q_1, .ref q_5, .null, .null, .int 0, .int 0, .long 0, .null, .null, .null, .null, .int 0, .null, .null, .int 0])), (q_1, .inr (4, [.ref h1_4])), (h1_4, .inl (cI, 7, .inl w2_3)), (q_5, .inr (0, [.ref h1_7, .int 0])), (h1_7, .inl (cI, 11, .inl (fun _ => 0)))] H := hP
  have hD : va_D A [(h0, .inr (3, [.ref q_1, .ref q_5, .null, .null, .int 0, .int 0, .long 0, .null, .null, .null, .null, .int 0, .null, .null, .int 0])), (q_1, .inr (4, [.ref h1_4])), (h1_4, .inl (cI, 7, .inl w2_3)), (q_5, .inr (0, [.ref h1_7, .int 0])), (h1_7, .inl (cI, 11, .inl (fun _ => 0)))] := hD
  refine lv_aload_n hx hb dX3_init_26 rfl (lv_at hl 0 rfl) ?_
  refine va_new (ci := 0) (fs := [.null, .int 0]) (C := RX0) (T := TX0) (N := 2) hx hb hts in_X3_init_X0 tyX0 tyX0_ok hown (hts _ wd_X3_init_8) (hts _ wd_X3_init_9) (hts _ wd_X3_init_10) hK hP hD hS hA rfl (fun j hj => by rcases (show j = 0 ∨ j = 1 by omega) with rfl | rfl <;> rfl) (Nat.le_of_ble_eq_true rfl) (Nat.le_of_ble_eq_true rfl) dX3_init_27 (fun q_8 H hP hD hS => ?_)
  have hP : va_P D vwCl [(h0, .inr (3, [.ref q_1, .ref q_5, .null, .null, .int 0, .int 0, .long 0, .null, .null, .null, .null, .int 0, .null, .null, .int 0])), (q_1, .inr (4, [.ref h1_4])), (h1_4, .inl (cI, 7, .inl w2_3)), (q_5, .inr (0, [.ref h1_7, .int 0])), (h1_7, .inl (cI, 11, .inl (fun _ => 0))), (q_8, .inr (0, [.null, .int 0]))] H := hP
  have hD : va_D A [(h0, .inr (3, [.ref q_1, .ref q_5, .null, .null, .int 0, .int 0, .long 0, .null, .null, .null, .null, .int 0, .null, .null, .int 0])), (q_1, .inr (4, [.ref h1_4])), (h1_4, .inl (cI, 7, .inl w2_3)), (q_5, .inr (0, [.ref h1_7, .int 0])), (h1_7, .inl (cI, 11, .inl (fun _ => 0))), (q_8, .inr (0, [.null, .int 0]))] := hD
  refine W.widen (k := 5) (n := 23) (by omega) (by omega) ?_
  refine lv_dup hx hb dX3_init_30 rfl ?_
  have hPc := hP.sub (ws' := [(q_8, .inr (0, [.null, .int 0]))]) [5] rfl
  have hDc := hD.sub (ws' := [(q_8, .inr (0, [.null, .int 0]))]) [5] (by decide) rfl
  have hFc := va_free (wc := [(q_8, .inr (0, [.null, .int 0]))]) hD hS hA [5] rfl
  refine va_callv (va_runIN (As := []) (rest := [.ref q_8, .ref h0]) ⟨hx, hb, hml, hown, hts⟩ (c_X0_init l D cI cJ cQ _ q_8) (⟨va_cnB 0 hts gX3_init_X0_init_n20 rfl rfl rfl hZ.2.2.2.2.2.2.1 (hts _ wd_X3_init_10) (by decide +kernel) ⟨Nat.le_of_ble_eq_true rfl, Nat.le_of_ble_eq_true rfl⟩, rfl, (hts _ wd_X3_init_11)⟩) (mP_preS hPc hK hDc) rfl rfl hl.1 rfl (lv_room (Nat.le_of_ble_eq_true rfl)) dX3_init_31 ⟨Nat.le_of_ble_eq_true rfl, Nat.le_of_ble_eq_true rfl⟩) hS (fun q _ h => hFc q h) hFc (fun u_r_9 t H1 locs ht hvm hr_9 hB hz1 hk1 hS => ?_)
  obtain ⟨h1_10, hP1, hK1, hD1⟩ := hB
  rw [ht] at hP1
  try dsimp only at hr_9
  obtain ⟨hP, hD⟩ := va_join (wr := [(h0, .inr (3, [.ref q_1, .ref q_5, .null, .null, .int 0, .int 0, .long 0, .null, .null, .null, .null, .int 0, .null, .null, .int 0])), (q_1, .inr (4, [.ref h1_4])), (h1_4, .inl (cI, 7, .inl w2_3)), (q_5, .inr (0, [.ref h1_7, .int 0])), (h1_7, .inl (cI, 11, .inl (fun _ => 0)))]) (w1 := [(q_8, .inr (0, [.ref h1_10, .int 0])), (h1_10, .inl (cI, 11, .inl (fun _ => 0)))]) hP hD [5] [0, 1, 2, 3, 4] rfl rfl (by decide) (by decide) hk1 hFc hP1 hD1
  generalize H1 = H at hP hS ⊢
  have hP : va_P D vwCl [(h0, .inr (3, [.ref q_1, .ref q_5, .null, .null, .int 0, .int 0, .long 0, .null, .null, .null, .null, .int 0, .null, .null, .int 0])), (q_1, .inr (4, [.ref h1_4])), (h1_4, .inl (cI, 7, .inl w2_3)), (q_5, .inr (0, [.ref h1_7, .int 0])), (h1_7, .inl (cI, 11, .inl (fun _ => 0))), (q_8, .inr (0, [.ref h1_10, .int 0])), (h1_10, .inl (cI, 11, .inl (fun _ => 0)))] H := hP
  have hD : va_D A [(h0, .inr (3, [.ref q_1, .ref q_5, .null, .null, .int 0, .int 0, .long 0, .null, .null, .null, .null, .int 0, .null, .null, .int 0])), (q_1, .inr (4, [.ref h1_4])), (h1_4, .inl (cI, 7, .inl w2_3)), (q_5, .inr (0, [.ref h1_7, .int 0])), (h1_7, .inl (cI, 11, .inl (fun _ => 0))), (q_8, .inr (0, [.ref h1_10, .int 0])), (h1_10, .inl (cI, 11, .inl (fun _ => 0)))] := hD
  refine W.widen (k := 6) (n := 34) (by omega) (by omega) ?_
  refine va_putF (D := D) (ci := 3) (v := .ref q_8) (ty := .object "ShoeTable$Cards") (C := RX3) (T := TX3) (N := 15) hx hb hts in_X3_init_X3 tyX3 tyX3_ok nmX3 hown hK hP hD hS 0 rfl rfl 2 (by decide) (hts _ wd_X3_init_13) (fun _ h9 => h9) rfl hin rfl (by decide +kernel) rfl rfl (Nat.le_of_ble_eq_true rfl) dX3_init_34 (fun H locs hP hD hS => ?_)
  have hP : va_P D vwCl [(h0, .inr (3, [.ref q_1, .ref q_5, .ref q_8, .null, .int 0, .int 0, .long 0, .null, .null, .null, .null, .int 0, .null, .null, .int 0])), (q_1, .inr (4, [.ref h1_4])), (h1_4, .inl (cI, 7, .inl w2_3)), (q_5, .inr (0, [.ref h1_7, .int 0])), (h1_7, .inl (cI, 11, .inl (fun _ => 0))), (q_8, .inr (0, [.ref h1_10, .int 0])), (h1_10, .inl (cI, 11, .inl (fun _ => 0)))] H := hP
  have hD : va_D A [(h0, .inr (3, [.ref q_1, .ref q_5, .ref q_8, .null, .int 0, .int 0, .long 0, .null, .null, .null, .null, .int 0, .null, .null, .int 0])), (q_1, .inr (4, [.ref h1_4])), (h1_4, .inl (cI, 7, .inl w2_3)), (q_5, .inr (0, [.ref h1_7, .int 0])), (h1_7, .inl (cI, 11, .inl (fun _ => 0))), (q_8, .inr (0, [.ref h1_10, .int 0])), (h1_10, .inl (cI, 11, .inl (fun _ => 0)))] := hD
  refine lv_aload_n hx hb dX3_init_37 rfl (lv_at hl 0 rfl) ?_
  refine va_new (ci := 1) (fs := [.null, .int 0, .int 0, .int 0]) (C := RX1) (T := TX1) (N := 4) hx hb hts in_X3_init_X1 tyX1 tyX1_ok hown (hts _ wd_X3_init_14) (hts _ wd_X3_init_15) (hts _ wd_X3_init_16) hK hP hD hS hA rfl (fun j hj => by rcases (show j = 0 ∨ j = 1 ∨ j = 2 ∨ j = 3 by omega) with rfl | rfl | rfl | rfl <;> rfl) (Nat.le_of_ble_eq_true rfl) (Nat.le_of_ble_eq_true rfl) dX3_init_38 (fun q_11 H hP hD hS => ?_)
  have hP : va_P D vwCl [(h0, .inr (3, [.ref q_1, .ref q_5, .ref q_8, .null, .int 0, .int 0, .long 0, .null, .null, .null, .null, .int 0, .null, .null, .int 0])), (q_1, .inr (4, [.ref h1_4])), (h1_4, .inl (cI, 7, .inl w2_3)), (q_5, .inr (0, [.ref h1_7, .int 0])), (h1_7, .inl (cI, 11, .inl (fun _ => 0))), (q_8, .inr (0, [.ref h1_10, .int 0])), (h1_10, .inl (cI, 11, .inl (fun _ => 0))), (q_11, .inr (1, [.null, .int 0, .int 0, .int 0]))] H := hP
  have hD : va_D A [(h0, .inr (3, [.ref q_1, .ref q_5, .ref q_8, .null, .int 0, .int 0, .long 0, .null, .null, .null, .null, .int 0, .null, .null, .int 0])), (q_1, .inr (4, [.ref h1_4])), (h1_4, .inl (cI, 7, .inl w2_3)), (q_5, .inr (0, [.ref h1_7, .int 0])), (h1_7, .inl (cI, 11, .inl (fun _ => 0))), (q_8, .inr (0, [.ref h1_10, .int 0])), (h1_10, .inl (cI, 11, .inl (fun _ => 0))), (q_11, .inr (1, [.null, .int 0, .int 0, .int 0]))] := hD
  refine W.widen (k := 7) (n := 38) (by omega) (by omega) ?_
  refine lv_dup hx hb dX3_init_41 rfl ?_
  have hPc := hP.sub (ws' := [(q_11, .inr (1, [.null, .int 0, .int 0, .int 0]))]) [7] rfl
  have hDc := hD.sub (ws' := [(q_11, .inr (1, [.null, .int 0, .int 0, .int 0]))]) [7] (by decide) rfl
  have hFc := va_free (wc := [(q_11, .inr (1, [.null, .int 0, .int 0, .int 0]))]) hD hS hA [7] rfl
  refine va_callv (va_runIN (As := []) (rest := [.ref q_11, .ref h0]) ⟨hx, hb, hml, hown, hts⟩ (c_X1_init l D cI cJ cQ _ q_11) (⟨va_cnB 0 hts gX3_init_X1_init_n30 rfl rfl rfl hZ.2.2.2.2.2.2.2.1 (hts _ wd_X3_init_16) (by decide +kernel) ⟨Nat.le_of_ble_eq_true rfl, Nat.le_of_ble_eq_true rfl⟩, rfl, (hts _ wd_X3_init_17)⟩) (mP_preS hPc hK hDc) rfl rfl hl.1 rfl (lv_room (Nat.le_of_ble_eq_true rfl)) dX3_init_42 ⟨Nat.le_of_ble_eq_true rfl, Nat.le_of_ble_eq_true rfl⟩) hS (fun q _ h => hFc q h) hFc (fun u_r_12 t H1 locs ht hvm hr_12 hB hz1 hk1 hS => ?_)
  obtain ⟨h1_13, hP1, hK1, hD1⟩ := hB
  rw [ht] at hP1
  try dsimp only at hr_12
  obtain ⟨hP, hD⟩ := va_join (wr := [(h0, .inr (3, [.ref q_1, .ref q_5, .ref q_8, .null, .int 0, .int 0, .long 0, .null, .null, .null, .null, .int 0, .null, .null, .int 0])), (q_1, .inr (4, [.ref h1_4])), (h1_4, .inl (cI, 7, .inl w2_3)), (q_5, .inr (0, [.ref h1_7, .int 0])), (h1_7, .inl (cI, 11, .inl (fun _ => 0))), (q_8, .inr (0, [.ref h1_10, .int 0])), (h1_10, .inl (cI, 11, .inl (fun _ => 0)))]) (w1 := [(q_11, .inr (1, [.ref h1_13, .int 0, .int 0, .int 0])), (h1_13, .inl (cI, 12, .inl (fun _ => 0)))]) hP hD [7] [0, 1, 2, 3, 4, 5, 6] rfl rfl (by decide) (by decide) hk1 hFc hP1 hD1
  generalize H1 = H at hP hS ⊢
  have hP : va_P D vwCl [(h0, .inr (3, [.ref q_1, .ref q_5, .ref q_8, .null, .int 0, .int 0, .long 0, .null, .null, .null, .null, .int 0, .null, .null, .int 0])), (q_1, .inr (4, [.ref h1_4])), (h1_4, .inl (cI, 7, .inl w2_3)), (q_5, .inr (0, [.ref h1_7, .int 0])), (h1_7, .inl (cI, 11, .inl (fun _ => 0))), (q_8, .inr (0, [.ref h1_10, .int 0])), (h1_10, .inl (cI, 11, .inl (fun _ => 0))), (q_11, .inr (1, [.ref h1_13, .int 0, .int 0, .int 0])), (h1_13, .inl (cI, 12, .inl (fun _ => 0)))] H := hP
  have hD : va_D A [(h0, .inr (3, [.ref q_1, .ref q_5, .ref q_8, .null, .int 0, .int 0, .long 0, .null, .null, .null, .null, .int 0, .null, .null, .int 0])), (q_1, .inr (4, [.ref h1_4])), (h1_4, .inl (cI, 7, .inl w2_3)), (q_5, .inr (0, [.ref h1_7, .int 0])), (h1_7, .inl (cI, 11, .inl (fun _ => 0))), (q_8, .inr (0, [.ref h1_10, .int 0])), (h1_10, .inl (cI, 11, .inl (fun _ => 0))), (q_11, .inr (1, [.ref h1_13, .int 0, .int 0, .int 0])), (h1_13, .inl (cI, 12, .inl (fun _ => 0)))] := hD
  refine W.widen (k := 8) (n := 50) (by omega) (by omega) ?_
  refine va_putF (D := D) (ci := 3) (v := .ref q_11) (ty := .object "ShoeTable$Hand") (C := RX3) (T := TX3) (N := 15) hx hb hts in_X3_init_X3 tyX3 tyX3_ok nmX3 hown hK hP hD hS 0 rfl rfl 3 (by decide) (hts _ wd_X3_init_18) (fun _ h9 => h9) rfl hin rfl (by decide +kernel) rfl rfl (Nat.le_of_ble_eq_true rfl) dX3_init_45 (fun H locs hP hD hS => ?_)
  have hP : va_P D vwCl [(h0, .inr (3, [.ref q_1, .ref q_5, .ref q_8, .ref q_11, .int 0, .int 0, .long 0, .null, .null, .null, .null, .int 0, .null, .null, .int 0])), (q_1, .inr (4, [.ref h1_4])), (h1_4, .inl (cI, 7, .inl w2_3)), (q_5, .inr (0, [.ref h1_7, .int 0])), (h1_7, .inl (cI, 11, .inl (fun _ => 0))), (q_8, .inr (0, [.ref h1_10, .int 0])), (h1_10, .inl (cI, 11, .inl (fun _ => 0))), (q_11, .inr (1, [.ref h1_13, .int 0, .int 0, .int 0])), (h1_13, .inl (cI, 12, .inl (fun _ => 0)))] H := hP
  have hD : va_D A [(h0, .inr (3, [.ref q_1, .ref q_5, .ref q_8, .ref q_11, .int 0, .int 0, .long 0, .null, .null, .null, .null, .int 0, .null, .null, .int 0])), (q_1, .inr (4, [.ref h1_4])), (h1_4, .inl (cI, 7, .inl w2_3)), (q_5, .inr (0, [.ref h1_7, .int 0])), (h1_7, .inl (cI, 11, .inl (fun _ => 0))), (q_8, .inr (0, [.ref h1_10, .int 0])), (h1_10, .inl (cI, 11, .inl (fun _ => 0))), (q_11, .inr (1, [.ref h1_13, .int 0, .int 0, .int 0])), (h1_13, .inl (cI, 12, .inl (fun _ => 0)))] := hD
  refine lv_aload_n hx hb dX3_init_48 rfl (lv_at hl 0 rfl) ?_
  refine lv_iconst (v := (-1)) hx hb dX3_init_49 (by decide) ?_
  refine va_put (D := D) (ci := 3) (v := .int (-1)) (ty := .int) (C := RX3) (T := TX3) (N := 15) hx hb hts in_X3_init_X3 tyX3 tyX3_ok nmX3 hown hK hP hD hS 0 rfl rfl 4 (by decide) (hts _ wd_X3_init_19) (fun _ h9 => h9) rfl (by decide +kernel) rfl rfl (Nat.le_of_ble_eq_true rfl) dX3_init_50 (fun H locs hP hD hS => ?_)
  have hP : va_P D vwCl [(h0, .inr (3, [.ref q_1, .ref q_5, .ref q_8, .ref q_11, .int (-1), .int 0, .long 0, .null, .null, .null, .null, .int 0, .null, .null, .int 0])), (q_1, .inr (4, [.ref h1_4])), (h1_4, .inl (cI, 7, .inl w2_3)), (q_5, .inr (0, [.ref h1_7, .int 0])), (h1_7, .inl (cI, 11, .inl (fun _ => 0))), (q_8, .inr (0, [.ref h1_10, .int 0])), (h1_10, .inl (cI, 11, .inl (fun _ => 0))), (q_11, .inr (1, [.ref h1_13, .int 0, .int 0, .int 0])), (h1_13, .inl (cI, 12, .inl (fun _ => 0)))] H := hP
  have hD : va_D A [(h0, .inr (3, [.ref q_1, .ref q_5, .ref q_8, .ref q_11, .int (-1), .int 0, .long 0, .null, .null, .null, .null, .int 0, .null, .null, .int 0])), (q_1, .inr (4, [.ref h1_4])), (h1_4, .inl (cI, 7, .inl w2_3)), (q_5, .inr (0, [.ref h1_7, .int 0])), (h1_7, .inl (cI, 11, .inl (fun _ => 0))), (q_8, .inr (0, [.ref h1_10, .int 0])), (h1_10, .inl (cI, 11, .inl (fun _ => 0))), (q_11, .inr (1, [.ref h1_13, .int 0, .int 0, .int 0])), (h1_13, .inl (cI, 12, .inl (fun _ => 0)))] := hD
  refine lv_aload_n hx hb dX3_init_53 rfl (lv_at hl 0 rfl) ?_
  refine lv_iconst (v := (-1)) hx hb dX3_init_54 (by decide) ?_
  refine va_put (D := D) (ci := 3) (v := .int (-1)) (ty := .int) (C := RX3) (T := TX3) (N := 15) hx hb hts in_X3_init_X3 tyX3 tyX3_ok nmX3 hown hK hP hD hS 0 rfl rfl 5 (by decide) (hts _ wd_X3_init_20) (fun _ h9 => h9) rfl (by decide +kernel) rfl rfl (Nat.le_of_ble_eq_true rfl) dX3_init_55 (fun H locs hP hD hS => ?_)
  have hP : va_P D vwCl [(h0, .inr (3, [.ref q_1, .ref q_5, .ref q_8, .ref q_11, .int (-1), .int (-1), .long 0, .null, .null, .null, .null, .int 0, .null, .null, .int 0])), (q_1, .inr (4, [.ref h1_4])), (h1_4, .inl (cI, 7, .inl w2_3)), (q_5, .inr (0, [.ref h1_7, .int 0])), (h1_7, .inl (cI, 11, .inl (fun _ => 0))), (q_8, .inr (0, [.ref h1_10, .int 0])), (h1_10, .inl (cI, 11, .inl (fun _ => 0))), (q_11, .inr (1, [.ref h1_13, .int 0, .int 0, .int 0])), (h1_13, .inl (cI, 12, .inl (fun _ => 0)))] H := hP
  have hD : va_D A [(h0, .inr (3, [.ref q_1, .ref q_5, .ref q_8, .ref q_11, .int (-1), .int (-1), .long 0, .null, .null, .null, .null, .int 0, .null, .null, .int 0])), (q_1, .inr (4, [.ref h1_4])), (h1_4, .inl (cI, 7, .inl w2_3)), (q_5, .inr (0, [.ref h1_7, .int 0])), (h1_7, .inl (cI, 11, .inl (fun _ => 0))), (q_8, .inr (0, [.ref h1_10, .int 0])), (h1_10, .inl (cI, 11, .inl (fun _ => 0))), (q_11, .inr (1, [.ref h1_13, .int 0, .int 0, .int 0])), (h1_13, .inl (cI, 12, .inl (fun _ => 0)))] := hD
  refine lv_aload_n hx hb dX3_init_58 rfl (lv_at hl 0 rfl) ?_
  refine lv_lconst (v := 0) hx hb dX3_init_59 (by decide) ?_
  refine va_put (D := D) (ci := 3) (v := .long 0) (ty := .long) (C := RX3) (T := TX3) (N := 15) hx hb hts in_X3_init_X3 tyX3 tyX3_ok nmX3 hown hK hP hD hS 0 rfl rfl 6 (by decide) (hts _ wd_X3_init_21) (fun _ h9 => h9) rfl (by decide +kernel) rfl rfl (Nat.le_of_ble_eq_true rfl) dX3_init_60 (fun H locs hP hD hS => ?_)
  have hP : va_P D vwCl [(h0, .inr (3, [.ref q_1, .ref q_5, .ref q_8, .ref q_11, .int (-1), .int (-1), .long 0, .null, .null, .null, .null, .int 0, .null, .null, .int 0])), (q_1, .inr (4, [.ref h1_4])), (h1_4, .inl (cI, 7, .inl w2_3)), (q_5, .inr (0, [.ref h1_7, .int 0])), (h1_7, .inl (cI, 11, .inl (fun _ => 0))), (q_8, .inr (0, [.ref h1_10, .int 0])), (h1_10, .inl (cI, 11, .inl (fun _ => 0))), (q_11, .inr (1, [.ref h1_13, .int 0, .int 0, .int 0])), (h1_13, .inl (cI, 12, .inl (fun _ => 0)))] H := hP
  have hD : va_D A [(h0, .inr (3, [.ref q_1, .ref q_5, .ref q_8, .ref q_11, .int (-1), .int (-1), .long 0, .null, .null, .null, .null, .int 0, .null, .null, .int 0])), (q_1, .inr (4, [.ref h1_4])), (h1_4, .inl (cI, 7, .inl w2_3)), (q_5, .inr (0, [.ref h1_7, .int 0])), (h1_7, .inl (cI, 11, .inl (fun _ => 0))), (q_8, .inr (0, [.ref h1_10, .int 0])), (h1_10, .inl (cI, 11, .inl (fun _ => 0))), (q_11, .inr (1, [.ref h1_13, .int 0, .int 0, .int 0])), (h1_13, .inl (cI, 12, .inl (fun _ => 0)))] := hD
  refine lv_aload_n hx hb dX3_init_63 rfl (lv_at hl 0 rfl) ?_
  refine lv_bipush (v := 22) hx hb dX3_init_64 (by decide) ?_
  refine va_newa (atype := .long) (a0 := (22, .inr (.inl (fun _ => 0)))) (ty := .long) (N' := 22) hx hb (hts _ wd_X3_init_22) rfl hK hP hD hS hA (fun cA => newL cA 22) (by decide) (by decide) (Nat.le_of_ble_eq_true rfl) (Nat.le_of_ble_eq_true rfl) (Nat.le_of_ble_eq_true rfl) dX3_init_66 (fun q_14 cA H hK0 hP hD hS => ?_)
  have ecA := va_Ksame (i := 1) (j := 3) hK0 rfl rfl
  subst ecA
  have hP : va_P D vwCl [(h0, .inr (3, [.ref q_1, .ref q_5, .ref q_8, .ref q_11, .int (-1), .int (-1), .long 0, .null, .null, .null, .null, .int 0, .null, .null, .int 0])), (q_1, .inr (4, [.ref h1_4])), (h1_4, .inl (cI, 7, .inl w2_3)), (q_5, .inr (0, [.ref h1_7, .int 0])), (h1_7, .inl (cI, 11, .inl (fun _ => 0))), (q_8, .inr (0, [.ref h1_10, .int 0])), (h1_10, .inl (cI, 11, .inl (fun _ => 0))), (q_11, .inr (1, [.ref h1_13, .int 0, .int 0, .int 0])), (h1_13, .inl (cI, 12, .inl (fun _ => 0))), (q_14, .inl (cJ, 22, .inr (.inl (fun _ => 0))))] H := hP
  have hD : va_D A [(h0, .inr (3, [.ref q_1, .ref q_5, .ref q_8, .ref q_11, .int (-1), .int (-1), .long 0, .null, .null, .null, .null, .int 0, .null, .null, .int 0])), (q_1, .inr (4, [.ref h1_4])), (h1_4, .inl (cI, 7, .inl w2_3)), (q_5, .inr (0, [.ref h1_7, .int 0])), (h1_7, .inl (cI, 11, .inl (fun _ => 0))), (q_8, .inr (0, [.ref h1_10, .int 0])), (h1_10, .inl (cI, 11, .inl (fun _ => 0))), (q_11, .inr (1, [.ref h1_13, .int 0, .int 0, .int 0])), (h1_13, .inl (cI, 12, .inl (fun _ => 0))), (q_14, .inl (cJ, 22, .inr (.inl (fun _ => 0))))] := hD
  refine W.widen (k := 9) (n := 72) (by omega) (by omega) ?_
  refine va_putF (D := D) (ci := 3) (v := .ref q_14) (ty := .array .long) (C := RX3) (T := TX3) (N := 15) hx hb hts in_X3_init_X3 tyX3 tyX3_ok nmX3 hown hK hP hD hS 0 rfl rfl 7 (by decide) (hts _ wd_X3_init_23) (fun _ h9 => h9) rfl hin rfl (by decide +kernel) rfl rfl (Nat.le_of_ble_eq_true rfl) dX3_init_68 (fun H locs hP hD hS => ?_)
  have hP : va_P D vwCl [(h0, .inr (3, [.ref q_1, .ref q_5, .ref q_8, .ref q_11, .int (-1), .int (-1), .long 0, .ref q_14, .null, .null, .null, .int 0, .null, .null, .int 0])), (q_1, .inr (4, [.ref h1_4])), (h1_4, .inl (cI, 7, .inl w2_3)), (q_5, .inr (0, [.ref h1_7, .int 0])), (h1_7, .inl (cI, 11, .inl (fun _ => 0))), (q_8, .inr (0, [.ref h1_10, .int 0])), (h1_10, .inl (cI, 11, .inl (fun _ => 0))), (q_11, .inr (1, [.ref h1_13, .int 0, .int 0, .int 0])), (h1_13, .inl (cI, 12, .inl (fun _ => 0))), (q_14, .inl (cJ, 22, .inr (.inl (fun _ => 0))))] H := hP
  have hD : va_D A [(h0, .inr (3, [.ref q_1, .ref q_5, .ref q_8, .ref q_11, .int (-1), .int (-1), .long 0, .ref q_14, .null, .null, .null, .int 0, .null, .null, .int 0])), (q_1, .inr (4, [.ref h1_4])), (h1_4, .inl (cI, 7, .inl w2_3)), (q_5, .inr (0, [.ref h1_7, .int 0])), (h1_7, .inl (cI, 11, .inl (fun _ => 0))), (q_8, .inr (0, [.ref h1_10, .int 0])), (h1_10, .inl (cI, 11, .inl (fun _ => 0))), (q_11, .inr (1, [.ref h1_13, .int 0, .int 0, .int 0])), (h1_13, .inl (cI, 12, .inl (fun _ => 0))), (q_14, .inl (cJ, 22, .inr (.inl (fun _ => 0))))] := hD
  refine lv_aload_n hx hb dX3_init_71 rfl (lv_at hl 0 rfl) ?_
  refine lv_bipush (v := 11) hx hb dX3_init_72 (by decide) ?_
  refine va_newa (atype := .int) (a0 := (11, .inl (fun _ => 0))) (ty := .int) (N' := 11) hx hb (hts _ wd_X3_init_24) rfl hK hP hD hS hA (fun cA => newI cA 11) (by decide) (by decide) (Nat.le_of_ble_eq_true rfl) (Nat.le_of_ble_eq_true rfl) (Nat.le_of_ble_eq_true rfl) dX3_init_74 (fun q_15 cA H hK0 hP hD hS => ?_)
  have ecA := va_Ksame (i := 0) (j := 3) hK0 rfl rfl
  subst ecA
  have hP : va_P D vwCl [(h0, .inr (3, [.ref q_1, .ref q_5, .ref q_8, .ref q_11, .int (-1), .int (-1), .long 0, .ref q_14, .null, .null, .null, .int 0, .null, .null, .int 0])), (q_1, .inr (4, [.ref h1_4])), (h1_4, .inl (cI, 7, .inl w2_3)), (q_5, .inr (0, [.ref h1_7, .int 0])), (h1_7, .inl (cI, 11, .inl (fun _ => 0))), (q_8, .inr (0, [.ref h1_10, .int 0])), (h1_10, .inl (cI, 11, .inl (fun _ => 0))), (q_11, .inr (1, [.ref h1_13, .int 0, .int 0, .int 0])), (h1_13, .inl (cI, 12, .inl (fun _ => 0))), (q_14, .inl (cJ, 22, .inr (.inl (fun _ => 0)))), (q_15, .inl (cI, 11, .inl (fun _ => 0)))] H := hP
  have hD : va_D A [(h0, .inr (3, [.ref q_1, .ref q_5, .ref q_8, .ref q_11, .int (-1), .int (-1), .long 0, .ref q_14, .null, .null, .null, .int 0, .null, .null, .int 0])), (q_1, .inr (4, [.ref h1_4])), (h1_4, .inl (cI, 7, .inl w2_3)), (q_5, .inr (0, [.ref h1_7, .int 0])), (h1_7, .inl (cI, 11, .inl (fun _ => 0))), (q_8, .inr (0, [.ref h1_10, .int 0])), (h1_10, .inl (cI, 11, .inl (fun _ => 0))), (q_11, .inr (1, [.ref h1_13, .int 0, .int 0, .int 0])), (h1_13, .inl (cI, 12, .inl (fun _ => 0))), (q_14, .inl (cJ, 22, .inr (.inl (fun _ => 0)))), (q_15, .inl (cI, 11, .inl (fun _ => 0)))] := hD
  refine W.widen (k := 10) (n := 83) (by omega) (by omega) ?_
  refine va_putF (D := D) (ci := 3) (v := .ref q_15) (ty := .array .int) (C := RX3) (T := TX3) (N := 15) hx hb hts in_X3_init_X3 tyX3 tyX3_ok nmX3 hown hK hP hD hS 0 rfl rfl 8 (by decide) (hts _ wd_X3_init_25) (fun _ h9 => h9) rfl hin rfl (by decide +kernel) rfl rfl (Nat.le_of_ble_eq_true rfl) dX3_init_76 (fun H locs hP hD hS => ?_)
  have hP : va_P D vwCl [(h0, .inr (3, [.ref q_1, .ref q_5, .ref q_8, .ref q_11, .int (-1), .int (-1), .long 0, .ref q_14, .ref q_15, .null, .null, .int 0, .null, .null, .int 0])), (q_1, .inr (4, [.ref h1_4])), (h1_4, .inl (cI, 7, .inl w2_3)), (q_5, .inr (0, [.ref h1_7, .int 0])), (h1_7, .inl (cI, 11, .inl (fun _ => 0))), (q_8, .inr (0, [.ref h1_10, .int 0])), (h1_10, .inl (cI, 11, .inl (fun _ => 0))), (q_11, .inr (1, [.ref h1_13, .int 0, .int 0, .int 0])), (h1_13, .inl (cI, 12, .inl (fun _ => 0))), (q_14, .inl (cJ, 22, .inr (.inl (fun _ => 0)))), (q_15, .inl (cI, 11, .inl (fun _ => 0)))] H := hP
  have hD : va_D A [(h0, .inr (3, [.ref q_1, .ref q_5, .ref q_8, .ref q_11, .int (-1), .int (-1), .long 0, .ref q_14, .ref q_15, .null, .null, .int 0, .null, .null, .int 0])), (q_1, .inr (4, [.ref h1_4])), (h1_4, .inl (cI, 7, .inl w2_3)), (q_5, .inr (0, [.ref h1_7, .int 0])), (h1_7, .inl (cI, 11, .inl (fun _ => 0))), (q_8, .inr (0, [.ref h1_10, .int 0])), (h1_10, .inl (cI, 11, .inl (fun _ => 0))), (q_11, .inr (1, [.ref h1_13, .int 0, .int 0, .int 0])), (h1_13, .inl (cI, 12, .inl (fun _ => 0))), (q_14, .inl (cJ, 22, .inr (.inl (fun _ => 0)))), (q_15, .inl (cI, 11, .inl (fun _ => 0)))] := hD
  refine lv_aload_n hx hb dX3_init_79 rfl (lv_at hl 0 rfl) ?_
  refine lv_sipush (v := 2304) hx hb dX3_init_80 (by decide) ?_
  refine va_newa (atype := .long) (a0 := (2304, .inr (.inl (fun _ => 0)))) (ty := .long) (N' := 2304) hx hb (hts _ wd_X3_init_22) rfl hK hP hD hS hA (fun cA => newL cA 2304) (by decide) (by decide) (Nat.le_of_ble_eq_true rfl) (Nat.le_of_ble_eq_true rfl) (Nat.le_of_ble_eq_true rfl) dX3_init_83 (fun q_16 cA H hK0 hP hD hS => ?_)
  have ecA := va_Ksame (i := 1) (j := 3) hK0 rfl rfl
  subst ecA
  have hP : va_P D vwCl [(h0, .inr (3, [.ref q_1, .ref q_5, .ref q_8, .ref q_11, .int (-1), .int (-1), .long 0, .ref q_14, .ref q_15, .null, .null, .int 0, .null, .null, .int 0])), (q_1, .inr (4, [.ref h1_4])), (h1_4, .inl (cI, 7, .inl w2_3)), (q_5, .inr (0, [.ref h1_7, .int 0])), (h1_7, .inl (cI, 11, .inl (fun _ => 0))), (q_8, .inr (0, [.ref h1_10, .int 0])), (h1_10, .inl (cI, 11, .inl (fun _ => 0))), (q_11, .inr (1, [.ref h1_13, .int 0, .int 0, .int 0])), (h1_13, .inl (cI, 12, .inl (fun _ => 0))), (q_14, .inl (cJ, 22, .inr (.inl (fun _ => 0)))), (q_15, .inl (cI, 11, .inl (fun _ => 0))), (q_16, .inl (cJ, 2304, .inr (.inl (fun _ => 0))))] H := hP
  have hD : va_D A [(h0, .inr (3, [.ref q_1, .ref q_5, .ref q_8, .ref q_11, .int (-1), .int (-1), .long 0, .ref q_14, .ref q_15, .null, .null, .int 0, .null, .null, .int 0])), (q_1, .inr (4, [.ref h1_4])), (h1_4, .inl (cI, 7, .inl w2_3)), (q_5, .inr (0, [.ref h1_7, .int 0])), (h1_7, .inl (cI, 11, .inl (fun _ => 0))), (q_8, .inr (0, [.ref h1_10, .int 0])), (h1_10, .inl (cI, 11, .inl (fun _ => 0))), (q_11, .inr (1, [.ref h1_13, .int 0, .int 0, .int 0])), (h1_13, .inl (cI, 12, .inl (fun _ => 0))), (q_14, .inl (cJ, 22, .inr (.inl (fun _ => 0)))), (q_15, .inl (cI, 11, .inl (fun _ => 0))), (q_16, .inl (cJ, 2304, .inr (.inl (fun _ => 0))))] := hD
  refine W.widen (k := 11) (n := 2387) (by omega) (by omega) ?_
  refine va_putF (D := D) (ci := 3) (v := .ref q_16) (ty := .array .long) (C := RX3) (T := TX3) (N := 15) hx hb hts in_X3_init_X3 tyX3 tyX3_ok nmX3 hown hK hP hD hS 0 rfl rfl 9 (by decide) (hts _ wd_X3_init_26) (fun _ h9 => h9) rfl hin rfl (by decide +kernel) rfl rfl (Nat.le_of_ble_eq_true rfl) dX3_init_85 (fun H locs hP hD hS => ?_)
  have hP : va_P D vwCl [(h0, .inr (3, [.ref q_1, .ref q_5, .ref q_8, .ref q_11, .int (-1), .int (-1), .long 0, .ref q_14, .ref q_15, .ref q_16, .null, .int 0, .null, .null, .int 0])), (q_1, .inr (4, [.ref h1_4])), (h1_4, .inl (cI, 7, .inl w2_3)), (q_5, .inr (0, [.ref h1_7, .int 0])), (h1_7, .inl (cI, 11, .inl (fun _ => 0))), (q_8, .inr (0, [.ref h1_10, .int 0])), (h1_10, .inl (cI, 11, .inl (fun _ => 0))), (q_11, .inr (1, [.ref h1_13, .int 0, .int 0, .int 0])), (h1_13, .inl (cI, 12, .inl (fun _ => 0))), (q_14, .inl (cJ, 22, .inr (.inl (fun _ => 0)))), (q_15, .inl (cI, 11, .inl (fun _ => 0))), (q_16, .inl (cJ, 2304, .inr (.inl (fun _ => 0))))] H := hP
  have hD : va_D A [(h0, .inr (3, [.ref q_1, .ref q_5, .ref q_8, .ref q_11, .int (-1), .int (-1), .long 0, .ref q_14, .ref q_15, .ref q_16, .null, .int 0, .null, .null, .int 0])), (q_1, .inr (4, [.ref h1_4])), (h1_4, .inl (cI, 7, .inl w2_3)), (q_5, .inr (0, [.ref h1_7, .int 0])), (h1_7, .inl (cI, 11, .inl (fun _ => 0))), (q_8, .inr (0, [.ref h1_10, .int 0])), (h1_10, .inl (cI, 11, .inl (fun _ => 0))), (q_11, .inr (1, [.ref h1_13, .int 0, .int 0, .int 0])), (h1_13, .inl (cI, 12, .inl (fun _ => 0))), (q_14, .inl (cJ, 22, .inr (.inl (fun _ => 0)))), (q_15, .inl (cI, 11, .inl (fun _ => 0))), (q_16, .inl (cJ, 2304, .inr (.inl (fun _ => 0))))] := hD
  refine lv_aload_n hx hb dX3_init_88 rfl (lv_at hl 0 rfl) ?_
  refine lv_sipush (v := 2304) hx hb dX3_init_89 (by decide) ?_
  refine va_newa (atype := .int) (a0 := (2304, .inl (fun _ => 0))) (ty := .int) (N' := 2304) hx hb (hts _ wd_X3_init_24) rfl hK hP hD hS hA (fun cA => newI cA 2304) (by decide) (by decide) (Nat.le_of_ble_eq_true rfl) (Nat.le_of_ble_eq_true rfl) (Nat.le_of_ble_eq_true rfl) dX3_init_92 (fun q_17 cA H hK0 hP hD hS => ?_)
  have ecA := va_Ksame (i := 0) (j := 3) hK0 rfl rfl
  subst ecA
  have hP : va_P D vwCl [(h0, .inr (3, [.ref q_1, .ref q_5, .ref q_8, .ref q_11, .int (-1), .int (-1), .long 0, .ref q_14, .ref q_15, .ref q_16, .null, .int 0, .null, .null, .int 0])), (q_1, .inr (4, [.ref h1_4])), (h1_4, .inl (cI, 7, .inl w2_3)), (q_5, .inr (0, [.ref h1_7, .int 0])), (h1_7, .inl (cI, 11, .inl (fun _ => 0))), (q_8, .inr (0, [.ref h1_10, .int 0])), (h1_10, .inl (cI, 11, .inl (fun _ => 0))), (q_11, .inr (1, [.ref h1_13, .int 0, .int 0, .int 0])), (h1_13, .inl (cI, 12, .inl (fun _ => 0))), (q_14, .inl (cJ, 22, .inr (.inl (fun _ => 0)))), (q_15, .inl (cI, 11, .inl (fun _ => 0))), (q_16, .inl (cJ, 2304, .inr (.inl (fun _ => 0)))), (q_17, .inl (cI, 2304, .inl (fun _ => 0)))] H := hP
  have hD : va_D A [(h0, .inr (3, [.ref q_1, .ref q_5, .ref q_8, .ref q_11, .int (-1), .int (-1), .long 0, .ref q_14, .ref q_15, .ref q_16, .null, .int 0, .null, .null, .int 0])), (q_1, .inr (4, [.ref h1_4])), (h1_4, .inl (cI, 7, .inl w2_3)), (q_5, .inr (0, [.ref h1_7, .int 0])), (h1_7, .inl (cI, 11, .inl (fun _ => 0))), (q_8, .inr (0, [.ref h1_10, .int 0])), (h1_10, .inl (cI, 11, .inl (fun _ => 0))), (q_11, .inr (1, [.ref h1_13, .int 0, .int 0, .int 0])), (h1_13, .inl (cI, 12, .inl (fun _ => 0))), (q_14, .inl (cJ, 22, .inr (.inl (fun _ => 0)))), (q_15, .inl (cI, 11, .inl (fun _ => 0))), (q_16, .inl (cJ, 2304, .inr (.inl (fun _ => 0)))), (q_17, .inl (cI, 2304, .inl (fun _ => 0)))] := hD
  refine W.widen (k := 12) (n := 4691) (by omega) (by omega) ?_
  refine va_putF (D := D) (ci := 3) (v := .ref q_17) (ty := .array .int) (C := RX3) (T := TX3) (N := 15) hx hb hts in_X3_init_X3 tyX3 tyX3_ok nmX3 hown hK hP hD hS 0 rfl rfl 10 (by decide) (hts _ wd_X3_init_27) (fun _ h9 => h9) rfl hin rfl (by decide +kernel) rfl rfl (Nat.le_of_ble_eq_true rfl) dX3_init_94 (fun H locs hP hD hS => ?_)
  have hP : va_P D vwCl [(h0, .inr (3, [.ref q_1, .ref q_5, .ref q_8, .ref q_11, .int (-1), .int (-1), .long 0, .ref q_14, .ref q_15, .ref q_16, .ref q_17, .int 0, .null, .null, .int 0])), (q_1, .inr (4, [.ref h1_4])), (h1_4, .inl (cI, 7, .inl w2_3)), (q_5, .inr (0, [.ref h1_7, .int 0])), (h1_7, .inl (cI, 11, .inl (fun _ => 0))), (q_8, .inr (0, [.ref h1_10, .int 0])), (h1_10, .inl (cI, 11, .inl (fun _ => 0))), (q_11, .inr (1, [.ref h1_13, .int 0, .int 0, .int 0])), (h1_13, .inl (cI, 12, .inl (fun _ => 0))), (q_14, .inl (cJ, 22, .inr (.inl (fun _ => 0)))), (q_15, .inl (cI, 11, .inl (fun _ => 0))), (q_16, .inl (cJ, 2304, .inr (.inl (fun _ => 0)))), (q_17, .inl (cI, 2304, .inl (fun _ => 0)))] H := hP
  have hD : va_D A [(h0, .inr (3, [.ref q_1, .ref q_5, .ref q_8, .ref q_11, .int (-1), .int (-1), .long 0, .ref q_14, .ref q_15, .ref q_16, .ref q_17, .int 0, .null, .null, .int 0])), (q_1, .inr (4, [.ref h1_4])), (h1_4, .inl (cI, 7, .inl w2_3)), (q_5, .inr (0, [.ref h1_7, .int 0])), (h1_7, .inl (cI, 11, .inl (fun _ => 0))), (q_8, .inr (0, [.ref h1_10, .int 0])), (h1_10, .inl (cI, 11, .inl (fun _ => 0))), (q_11, .inr (1, [.ref h1_13, .int 0, .int 0, .int 0])), (h1_13, .inl (cI, 12, .inl (fun _ => 0))), (q_14, .inl (cJ, 22, .inr (.inl (fun _ => 0)))), (q_15, .inl (cI, 11, .inl (fun _ => 0))), (q_16, .inl (cJ, 2304, .inr (.inl (fun _ => 0)))), (q_17, .inl (cI, 2304, .inl (fun _ => 0)))] := hD
  refine lv_aload_n hx hb dX3_init_97 rfl (lv_at hl 0 rfl) ?_
  refine lv_iconst (v := 0) hx hb dX3_init_98 (by decide) ?_
  refine va_put (D := D) (ci := 3) (v := .int 0) (ty := .int) (C := RX3) (T := TX3) (N := 15) hx hb hts in_X3_init_X3 tyX3 tyX3_ok nmX3 hown hK hP hD hS 0 rfl rfl 11 (by decide) (hts _ wd_X3_init_28) (fun _ h9 => h9) rfl (by decide +kernel) rfl rfl (Nat.le_of_ble_eq_true rfl) dX3_init_99 (fun H locs hP hD hS => ?_)
  have hP : va_P D vwCl [(h0, .inr (3, [.ref q_1, .ref q_5, .ref q_8, .ref q_11, .int (-1), .int (-1), .long 0, .ref q_14, .ref q_15, .ref q_16, .ref q_17, .int 0, .null, .null, .int 0])), (q_1, .inr (4, [.ref h1_4])), (h1_4, .inl (cI, 7, .inl w2_3)), (q_5, .inr (0, [.ref h1_7, .int 0])), (h1_7, .inl (cI, 11, .inl (fun _ => 0))), (q_8, .inr (0, [.ref h1_10, .int 0])), (h1_10, .inl (cI, 11, .inl (fun _ => 0))), (q_11, .inr (1, [.ref h1_13, .int 0, .int 0, .int 0])), (h1_13, .inl (cI, 12, .inl (fun _ => 0))), (q_14, .inl (cJ, 22, .inr (.inl (fun _ => 0)))), (q_15, .inl (cI, 11, .inl (fun _ => 0))), (q_16, .inl (cJ, 2304, .inr (.inl (fun _ => 0)))), (q_17, .inl (cI, 2304, .inl (fun _ => 0)))] H := hP
  have hD : va_D A [(h0, .inr (3, [.ref q_1, .ref q_5, .ref q_8, .ref q_11, .int (-1), .int (-1), .long 0, .ref q_14, .ref q_15, .ref q_16, .ref q_17, .int 0, .null, .null, .int 0])), (q_1, .inr (4, [.ref h1_4])), (h1_4, .inl (cI, 7, .inl w2_3)), (q_5, .inr (0, [.ref h1_7, .int 0])), (h1_7, .inl (cI, 11, .inl (fun _ => 0))), (q_8, .inr (0, [.ref h1_10, .int 0])), (h1_10, .inl (cI, 11, .inl (fun _ => 0))), (q_11, .inr (1, [.ref h1_13, .int 0, .int 0, .int 0])), (h1_13, .inl (cI, 12, .inl (fun _ => 0))), (q_14, .inl (cJ, 22, .inr (.inl (fun _ => 0)))), (q_15, .inl (cI, 11, .inl (fun _ => 0))), (q_16, .inl (cJ, 2304, .inr (.inl (fun _ => 0)))), (q_17, .inl (cI, 2304, .inl (fun _ => 0)))] := hD
  refine lv_aload_n hx hb dX3_init_102 rfl (lv_at hl 0 rfl) ?_
  refine lv_sipush (v := 2304) hx hb dX3_init_103 (by decide) ?_
  refine va_newa (atype := .long) (a0 := (2304, .inr (.inl (fun _ => 0)))) (ty := .long) (N' := 2304) hx hb (hts _ wd_X3_init_22) rfl hK hP hD hS hA (fun cA => newL cA 2304) (by decide) (by decide) (Nat.le_of_ble_eq_true rfl) (Nat.le_of_ble_eq_true rfl) (Nat.le_of_ble_eq_true rfl) dX3_init_106 (fun q_18 cA H hK0 hP hD hS => ?_)
  have ecA := va_Ksame (i := 1) (j := 3) hK0 rfl rfl
  subst ecA
  have hP : va_P D vwCl [(h0, .inr (3, [.ref q_1, .ref q_5, .ref q_8, .ref q_11, .int (-1), .int (-1), .long 0, .ref q_14, .ref q_15, .ref q_16, .ref q_17, .int 0, .null, .null, .int 0])), (q_1, .inr (4, [.ref h1_4])), (h1_4, .inl (cI, 7, .inl w2_3)), (q_5, .inr (0, [.ref h1_7, .int 0])), (h1_7, .inl (cI, 11, .inl (fun _ => 0))), (q_8, .inr (0, [.ref h1_10, .int 0])), (h1_10, .inl (cI, 11, .inl (fun _ => 0))), (q_11, .inr (1, [.ref h1_13, .int 0, .int 0, .int 0])), (h1_13, .inl (cI, 12, .inl (fun _ => 0))), (q_14, .inl (cJ, 22, .inr (.inl (fun _ => 0)))), (q_15, .inl (cI, 11, .inl (fun _ => 0))), (q_16, .inl (cJ, 2304, .inr (.inl (fun _ => 0)))), (q_17, .inl (cI, 2304, .inl (fun _ => 0))), (q_18, .inl (cJ, 2304, .inr (.inl (fun _ => 0))))] H := hP
  have hD : va_D A [(h0, .inr (3, [.ref q_1, .ref q_5, .ref q_8, .ref q_11, .int (-1), .int (-1), .long 0, .ref q_14, .ref q_15, .ref q_16, .ref q_17, .int 0, .null, .null, .int 0])), (q_1, .inr (4, [.ref h1_4])), (h1_4, .inl (cI, 7, .inl w2_3)), (q_5, .inr (0, [.ref h1_7, .int 0])), (h1_7, .inl (cI, 11, .inl (fun _ => 0))), (q_8, .inr (0, [.ref h1_10, .int 0])), (h1_10, .inl (cI, 11, .inl (fun _ => 0))), (q_11, .inr (1, [.ref h1_13, .int 0, .int 0, .int 0])), (h1_13, .inl (cI, 12, .inl (fun _ => 0))), (q_14, .inl (cJ, 22, .inr (.inl (fun _ => 0)))), (q_15, .inl (cI, 11, .inl (fun _ => 0))), (q_16, .inl (cJ, 2304, .inr (.inl (fun _ => 0)))), (q_17, .inl (cI, 2304, .inl (fun _ => 0))), (q_18, .inl (cJ, 2304, .inr (.inl (fun _ => 0))))] := hD
  refine W.widen (k := 13) (n := 6995) (by omega) (by omega) ?_
  refine va_putF (D := D) (ci := 3) (v := .ref q_18) (ty := .array .long) (C := RX3) (T := TX3) (N := 15) hx hb hts in_X3_init_X3 tyX3 tyX3_ok nmX3 hown hK hP hD hS 0 rfl rfl 12 (by decide) (hts _ wd_X3_init_29) (fun _ h9 => h9) rfl hin rfl (by decide +kernel) rfl rfl (Nat.le_of_ble_eq_true rfl) dX3_init_108 (fun H locs hP hD hS => ?_)
  have hP : va_P D vwCl [(h0, .inr (3, [.ref q_1, .ref q_5, .ref q_8, .ref q_11, .int (-1), .int (-1), .long 0, .ref q_14, .ref q_15, .ref q_16, .ref q_17, .int 0, .ref q_18, .null, .int 0])), (q_1, .inr (4, [.ref h1_4])), (h1_4, .inl (cI, 7, .inl w2_3)), (q_5, .inr (0, [.ref h1_7, .int 0])), (h1_7, .inl (cI, 11, .inl (fun _ => 0))), (q_8, .inr (0, [.ref h1_10, .int 0])), (h1_10, .inl (cI, 11, .inl (fun _ => 0))), (q_11, .inr (1, [.ref h1_13, .int 0, .int 0, .int 0])), (h1_13, .inl (cI, 12, .inl (fun _ => 0))), (q_14, .inl (cJ, 22, .inr (.inl (fun _ => 0)))), (q_15, .inl (cI, 11, .inl (fun _ => 0))), (q_16, .inl (cJ, 2304, .inr (.inl (fun _ => 0)))), (q_17, .inl (cI, 2304, .inl (fun _ => 0))), (q_18, .inl (cJ, 2304, .inr (.inl (fun _ => 0))))] H := hP
  have hD : va_D A [(h0, .inr (3, [.ref q_1, .ref q_5, .ref q_8, .ref q_11, .int (-1), .int (-1), .long 0, .ref q_14, .ref q_15, .ref q_16, .ref q_17, .int 0, .ref q_18, .null, .int 0])), (q_1, .inr (4, [.ref h1_4])), (h1_4, .inl (cI, 7, .inl w2_3)), (q_5, .inr (0, [.ref h1_7, .int 0])), (h1_7, .inl (cI, 11, .inl (fun _ => 0))), (q_8, .inr (0, [.ref h1_10, .int 0])), (h1_10, .inl (cI, 11, .inl (fun _ => 0))), (q_11, .inr (1, [.ref h1_13, .int 0, .int 0, .int 0])), (h1_13, .inl (cI, 12, .inl (fun _ => 0))), (q_14, .inl (cJ, 22, .inr (.inl (fun _ => 0)))), (q_15, .inl (cI, 11, .inl (fun _ => 0))), (q_16, .inl (cJ, 2304, .inr (.inl (fun _ => 0)))), (q_17, .inl (cI, 2304, .inl (fun _ => 0))), (q_18, .inl (cJ, 2304, .inr (.inl (fun _ => 0))))] := hD
  refine lv_aload_n hx hb dX3_init_111 rfl (lv_at hl 0 rfl) ?_
  refine lv_sipush (v := 2304) hx hb dX3_init_112 (by decide) ?_
  refine va_newa (atype := .int) (a0 := (2304, .inl (fun _ => 0))) (ty := .int) (N' := 2304) hx hb (hts _ wd_X3_init_24) rfl hK hP hD hS hA (fun cA => newI cA 2304) (by decide) (by decide) (Nat.le_of_ble_eq_true rfl) (Nat.le_of_ble_eq_true rfl) (Nat.le_of_ble_eq_true rfl) dX3_init_115 (fun q_19 cA H hK0 hP hD hS => ?_)
  have ecA := va_Ksame (i := 0) (j := 3) hK0 rfl rfl
  subst ecA
  have hP : va_P D vwCl [(h0, .inr (3, [.ref q_1, .ref q_5, .ref q_8, .ref q_11, .int (-1), .int (-1), .long 0, .ref q_14, .ref q_15, .ref q_16, .ref q_17, .int 0, .ref q_18, .null, .int 0])), (q_1, .inr (4, [.ref h1_4])), (h1_4, .inl (cI, 7, .inl w2_3)), (q_5, .inr (0, [.ref h1_7, .int 0])), (h1_7, .inl (cI, 11, .inl (fun _ => 0))), (q_8, .inr (0, [.ref h1_10, .int 0])), (h1_10, .inl (cI, 11, .inl (fun _ => 0))), (q_11, .inr (1, [.ref h1_13, .int 0, .int 0, .int 0])), (h1_13, .inl (cI, 12, .inl (fun _ => 0))), (q_14, .inl (cJ, 22, .inr (.inl (fun _ => 0)))), (q_15, .inl (cI, 11, .inl (fun _ => 0))), (q_16, .inl (cJ, 2304, .inr (.inl (fun _ => 0)))), (q_17, .inl (cI, 2304, .inl (fun _ => 0))), (q_18, .inl (cJ, 2304, .inr (.inl (fun _ => 0)))), (q_19, .inl (cI, 2304, .inl (fun _ => 0)))] H := hP
  have hD : va_D A [(h0, .inr (3, [.ref q_1, .ref q_5, .ref q_8, .ref q_11, .int (-1), .int (-1), .long 0, .ref q_14, .ref q_15, .ref q_16, .ref q_17, .int 0, .ref q_18, .null, .int 0])), (q_1, .inr (4, [.ref h1_4])), (h1_4, .inl (cI, 7, .inl w2_3)), (q_5, .inr (0, [.ref h1_7, .int 0])), (h1_7, .inl (cI, 11, .inl (fun _ => 0))), (q_8, .inr (0, [.ref h1_10, .int 0])), (h1_10, .inl (cI, 11, .inl (fun _ => 0))), (q_11, .inr (1, [.ref h1_13, .int 0, .int 0, .int 0])), (h1_13, .inl (cI, 12, .inl (fun _ => 0))), (q_14, .inl (cJ, 22, .inr (.inl (fun _ => 0)))), (q_15, .inl (cI, 11, .inl (fun _ => 0))), (q_16, .inl (cJ, 2304, .inr (.inl (fun _ => 0)))), (q_17, .inl (cI, 2304, .inl (fun _ => 0))), (q_18, .inl (cJ, 2304, .inr (.inl (fun _ => 0)))), (q_19, .inl (cI, 2304, .inl (fun _ => 0)))] := hD
  refine W.widen (k := 14) (n := 9299) (by omega) (by omega) ?_
  refine va_putF (D := D) (ci := 3) (v := .ref q_19) (ty := .array .int) (C := RX3) (T := TX3) (N := 15) hx hb hts in_X3_init_X3 tyX3 tyX3_ok nmX3 hown hK hP hD hS 0 rfl rfl 13 (by decide) (hts _ wd_X3_init_30) (fun _ h9 => h9) rfl hin rfl (by decide +kernel) rfl rfl (Nat.le_of_ble_eq_true rfl) dX3_init_117 (fun H locs hP hD hS => ?_)
  have hP : va_P D vwCl [(h0, .inr (3, [.ref q_1, .ref q_5, .ref q_8, .ref q_11, .int (-1), .int (-1), .long 0, .ref q_14, .ref q_15, .ref q_16, .ref q_17, .int 0, .ref q_18, .ref q_19, .int 0])), (q_1, .inr (4, [.ref h1_4])), (h1_4, .inl (cI, 7, .inl w2_3)), (q_5, .inr (0, [.ref h1_7, .int 0])), (h1_7, .inl (cI, 11, .inl (fun _ => 0))), (q_8, .inr (0, [.ref h1_10, .int 0])), (h1_10, .inl (cI, 11, .inl (fun _ => 0))), (q_11, .inr (1, [.ref h1_13, .int 0, .int 0, .int 0])), (h1_13, .inl (cI, 12, .inl (fun _ => 0))), (q_14, .inl (cJ, 22, .inr (.inl (fun _ => 0)))), (q_15, .inl (cI, 11, .inl (fun _ => 0))), (q_16, .inl (cJ, 2304, .inr (.inl (fun _ => 0)))), (q_17, .inl (cI, 2304, .inl (fun _ => 0))), (q_18, .inl (cJ, 2304, .inr (.inl (fun _ => 0)))), (q_19, .inl (cI, 2304, .inl (fun _ => 0)))] H := hP
  have hD : va_D A [(h0, .inr (3, [.ref q_1, .ref q_5, .ref q_8, .ref q_11, .int (-1), .int (-1), .long 0, .ref q_14, .ref q_15, .ref q_16, .ref q_17, .int 0, .ref q_18, .ref q_19, .int 0])), (q_1, .inr (4, [.ref h1_4])), (h1_4, .inl (cI, 7, .inl w2_3)), (q_5, .inr (0, [.ref h1_7, .int 0])), (h1_7, .inl (cI, 11, .inl (fun _ => 0))), (q_8, .inr (0, [.ref h1_10, .int 0])), (h1_10, .inl (cI, 11, .inl (fun _ => 0))), (q_11, .inr (1, [.ref h1_13, .int 0, .int 0, .int 0])), (h1_13, .inl (cI, 12, .inl (fun _ => 0))), (q_14, .inl (cJ, 22, .inr (.inl (fun _ => 0)))), (q_15, .inl (cI, 11, .inl (fun _ => 0))), (q_16, .inl (cJ, 2304, .inr (.inl (fun _ => 0)))), (q_17, .inl (cI, 2304, .inl (fun _ => 0))), (q_18, .inl (cJ, 2304, .inr (.inl (fun _ => 0)))), (q_19, .inl (cI, 2304, .inl (fun _ => 0)))] := hD
  refine lv_aload_n hx hb dX3_init_120 rfl (lv_at hl 0 rfl) ?_
  refine lv_iconst (v := 0) hx hb dX3_init_121 (by decide) ?_
  refine va_put (D := D) (ci := 3) (v := .int 0) (ty := .int) (C := RX3) (T := TX3) (N := 15) hx hb hts in_X3_init_X3 tyX3 tyX3_ok nmX3 hown hK hP hD hS 0 rfl rfl 14 (by decide) (hts _ wd_X3_init_31) (fun _ h9 => h9) rfl (by decide +kernel) rfl rfl (Nat.le_of_ble_eq_true rfl) dX3_init_122 (fun H locs hP hD hS => ?_)
  have hP : va_P D vwCl [(h0, .inr (3, [.ref q_1, .ref q_5, .ref q_8, .ref q_11, .int (-1), .int (-1), .long 0, .ref q_14, .ref q_15, .ref q_16, .ref q_17, .int 0, .ref q_18, .ref q_19, .int 0])), (q_1, .inr (4, [.ref h1_4])), (h1_4, .inl (cI, 7, .inl w2_3)), (q_5, .inr (0, [.ref h1_7, .int 0])), (h1_7, .inl (cI, 11, .inl (fun _ => 0))), (q_8, .inr (0, [.ref h1_10, .int 0])), (h1_10, .inl (cI, 11, .inl (fun _ => 0))), (q_11, .inr (1, [.ref h1_13, .int 0, .int 0, .int 0])), (h1_13, .inl (cI, 12, .inl (fun _ => 0))), (q_14, .inl (cJ, 22, .inr (.inl (fun _ => 0)))), (q_15, .inl (cI, 11, .inl (fun _ => 0))), (q_16, .inl (cJ, 2304, .inr (.inl (fun _ => 0)))), (q_17, .inl (cI, 2304, .inl (fun _ => 0))), (q_18, .inl (cJ, 2304, .inr (.inl (fun _ => 0)))), (q_19, .inl (cI, 2304, .inl (fun _ => 0)))] H := hP
  have hD : va_D A [(h0, .inr (3, [.ref q_1, .ref q_5, .ref q_8, .ref q_11, .int (-1), .int (-1), .long 0, .ref q_14, .ref q_15, .ref q_16, .ref q_17, .int 0, .ref q_18, .ref q_19, .int 0])), (q_1, .inr (4, [.ref h1_4])), (h1_4, .inl (cI, 7, .inl w2_3)), (q_5, .inr (0, [.ref h1_7, .int 0])), (h1_7, .inl (cI, 11, .inl (fun _ => 0))), (q_8, .inr (0, [.ref h1_10, .int 0])), (h1_10, .inl (cI, 11, .inl (fun _ => 0))), (q_11, .inr (1, [.ref h1_13, .int 0, .int 0, .int 0])), (h1_13, .inl (cI, 12, .inl (fun _ => 0))), (q_14, .inl (cJ, 22, .inr (.inl (fun _ => 0)))), (q_15, .inl (cI, 11, .inl (fun _ => 0))), (q_16, .inl (cJ, 2304, .inr (.inl (fun _ => 0)))), (q_17, .inl (cI, 2304, .inl (fun _ => 0))), (q_18, .inl (cJ, 2304, .inr (.inl (fun _ => 0)))), (q_19, .inl (cI, 2304, .inl (fun _ => 0)))] := hD
  have hP9 := hP.sub (ws' := [(h0, .inr (3, [.ref q_1, .ref q_5, .ref q_8, .ref q_11, .int (-1), .int (-1), .long 0, .ref q_14, .ref q_15, .ref q_16, .ref q_17, .int 0, .ref q_18, .ref q_19, .int 0])), (q_1, .inr (4, [.ref h1_4])), (h1_4, .inl (cI, 7, .inl w2_3)), (q_5, .inr (0, [.ref h1_7, .int 0])), (h1_7, .inl (cI, 11, .inl (fun _ => 0))), (q_11, .inr (1, [.ref h1_13, .int 0, .int 0, .int 0])), (h1_13, .inl (cI, 12, .inl (fun _ => 0)))]) [0, 1, 2, 3, 4, 7, 8] rfl
  have hD9 := hD.sub (ws' := [(h0, .inr (3, [.ref q_1, .ref q_5, .ref q_8, .ref q_11, .int (-1), .int (-1), .long 0, .ref q_14, .ref q_15, .ref q_16, .ref q_17, .int 0, .ref q_18, .ref q_19, .int 0])), (q_1, .inr (4, [.ref h1_4])), (h1_4, .inl (cI, 7, .inl w2_3)), (q_5, .inr (0, [.ref h1_7, .int 0])), (h1_7, .inl (cI, 11, .inl (fun _ => 0))), (q_11, .inr (1, [.ref h1_13, .int 0, .int 0, .int 0])), (h1_13, .inl (cI, 12, .inl (fun _ => 0)))]) [0, 1, 2, 3, 4, 7, 8] (by decide) rfl
  refine W.widen (k := 14) (n := 9299) (Nat.le_of_ble_eq_true rfl) (Nat.le_of_ble_eq_true rfl) ?_
  exact W.vret hx hb hr (fun t ht hW => ⟨⟨(w2_3), rfl, (by first | rfl | trivial | (simp [hr_2, hr_6, hr_9, hr_12]; done) | ((try first | rw [if_pos hr_2] | rw [if_neg hr_2]); (try first | rw [if_pos hr_6] | rw [if_neg hr_6]); (try first | rw [if_pos hr_9] | rw [if_neg hr_9]); (try first | rw [if_pos hr_12] | rw [if_neg hr_12]); first | done | rfl | trivial) | (simp_all; done)), q_1, q_5, q_8, q_11, q_14, q_15, q_16, q_17, q_18, q_19, h1_4, h1_7, h1_13, by rw [ht]; exact hP9, va_K.moved hW.alike hK, hD9⟩, hS.F ht⟩) hS.2.2 dX3_init_125
