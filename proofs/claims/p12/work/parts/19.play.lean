set_option maxHeartbeats 400000 in
set_option maxRecDepth 100000 in
/-- X4_goesOn -/
theorem c_X4_goesOnV (l : Launch) (D : va_G) (cI cJ cQ : ClassId) (h0 : Nat) (h1 : Nat) (w : Nat → Int32) (p0 : Int32) (p1 : Bool)  : Met l yX4_goesOn wsX4_goesOn ({ frames := 0, cells := 0, slots := 0, locals := 0 }) (va_Pc [.ref h0, .int p0, .int (bI p1)] (rP D (gTy cI cJ cQ) [(h0, .inr (4, [.ref h1])), (h1, .inl (cI, 7, .inl w))])) (vp_Si (fun r => r = gnC w p0 p1)) 0 0 (fun _ => False) := by
  refine Met.ofW (cc := cX4_goesOn) (maxL := 3) (ret := (some .boolean)) (by decide) rfl ?_
  intro p e s m args below meth c s₁ B hml hv
  obtain ⟨rfl, hP, hK⟩ := hv
  have hx := B.exec
  have hb := B.bytes
  have hr := B.returns
  have hts := atoms_spec (ws := wsX4_goesOn) B.pre
  have hown : s.vm.findClass RX4 = some m.cls := findClass_of_methodNamed B.named
  have hlocks := B.notSynchronized
  have hl := lv_entry ([.ref h0, .int p0, .int (bI p1)]) (n := 3) (Nat.le_of_ble_eq_true rfl)
  rw [lg_entry_eq]
  generalize (lg_sl ([.ref h0, .int p0, .int (bI p1)]) ++ List.replicate (3 - (lg_sl ([.ref h0, .int p0, .int (bI p1)])).length) Slot.unset).toArray = ls at hl ⊢
  have hl : lv_has ls 3 [(0, .ref h0), (1, .int p0), (2, .int (bI p1))] := hl
  refine lv_iload_n hx hb dX4_goesOn_0 rfl (lv_at hl 1 rfl) ?_
  refine lv_aload_n hx hb dX4_goesOn_1 rfl (lv_at hl 0 rfl) ?_
  refine va_get (D := D) (ci := 4) (v := .ref h1) (C := RX4) (T := TX4) (N := 1) hx hb hts in_X4_goesOn_X4 hown hK hP 0 rfl rfl 0 (by decide) (hts _ wd_X4_goesOn_0) (fun _ h9 => h9) rfl dX4_goesOn_2 ?_
  refine lv_iconst (v := 1) hx hb dX4_goesOn_5 (by decide) ?_
  refine va_iald hx hb hK hP 1 0 rfl rfl (show ¬ ((1 : Int32) < 0 ∨ 7 ≤ (1 : Int32).toNatClampNeg) by decide) dX4_goesOn_6 ?_
  refine lv_topi (fun z_1 ez_1 => ?_)
  obtain rfl : z_1 = (w 1) := ez_1
  refine lv_icmp_lt (tgt := 34) hx hb dX4_goesOn_7 (by decide) (fun c7_2 => ?_) (fun c7_2 => ?_)
  · skip
    refine lv_iconst (v := 1) hx hb dX4_goesOn_34 (by decide) ?_
    refine lv_goto (tgt := 39) hx hb dX4_goesOn_35 (by decide) ?_
    exact W.zret (v := 1) hx hb hr rfl (fun t ht hW => ⟨_, rfl, (by unfold gnC; first | (simp [c7_2]; done) | ((try first | rw [if_pos c7_2] | rw [if_neg c7_2]); first | done | rfl | trivial)), ht⟩) (fun q hq => absurd hq List.not_mem_nil) dX4_goesOn_39
  · skip
    refine lv_iload_n hx hb dX4_goesOn_10 rfl (lv_at hl 1 rfl) ?_
    refine lv_aload_n hx hb dX4_goesOn_11 rfl (lv_at hl 0 rfl) ?_
    refine va_get (D := D) (ci := 4) (v := .ref h1) (C := RX4) (T := TX4) (N := 1) hx hb hts in_X4_goesOn_X4 hown hK hP 0 rfl rfl 0 (by decide) (hts _ wd_X4_goesOn_0) (fun _ h9 => h9) rfl dX4_goesOn_12 ?_
    refine lv_iconst (v := 1) hx hb dX4_goesOn_15 (by decide) ?_
    refine va_iald hx hb hK hP 1 0 rfl rfl (show ¬ ((1 : Int32) < 0 ∨ 7 ≤ (1 : Int32).toNatClampNeg) by decide) dX4_goesOn_16 ?_
    refine lv_topi (fun z_3 ez_3 => ?_)
    obtain rfl : z_3 = (w 1) := ez_3
    refine lv_icmp_ne (tgt := 38) hx hb dX4_goesOn_17 (by decide) (fun c17_4 => ?_) (fun c17_4 => ?_)
    · skip
      refine lv_iconst (v := 0) hx hb dX4_goesOn_38 (by decide) ?_
      exact W.zret (v := 0) hx hb hr rfl (fun t ht hW => ⟨_, rfl, (by unfold gnC; first | (simp [c7_2, c17_4]; done) | ((try first | rw [if_pos c7_2] | rw [if_neg c7_2]); (try first | rw [if_pos c17_4] | rw [if_neg c17_4]); first | done | rfl | trivial)), ht⟩) (fun q hq => absurd hq List.not_mem_nil) dX4_goesOn_39
    · skip
      refine lv_iload_n hx hb dX4_goesOn_20 rfl (lv_at hl 2 rfl) ?_
      refine lv_if_eq (tgt := 38) hx hb dX4_goesOn_21 (by decide) (fun c21_5 => ?_) (fun c21_5 => ?_)
      · skip
        have nc21_5 : p1 = false := (bI_0 _).mp c21_5
        refine lv_iconst (v := 0) hx hb dX4_goesOn_38 (by decide) ?_
        exact W.zret (v := 0) hx hb hr rfl (fun t ht hW => ⟨_, rfl, (by unfold gnC; first | (simp [c7_2, c17_4, c21_5, nc21_5]; done) | ((try first | rw [if_pos c7_2] | rw [if_neg c7_2]); (try first | rw [if_pos c17_4] | rw [if_neg c17_4]); (try first | rw [if_pos c21_5] | rw [if_neg c21_5]); (try first | rw [if_pos nc21_5] | rw [if_neg nc21_5]); first | done | rfl | trivial)), ht⟩) (fun q hq => absurd hq List.not_mem_nil) dX4_goesOn_39
      · skip
        have nc21_5 : p1 = true := bI_1 c21_5
        refine lv_aload_n hx hb dX4_goesOn_24 rfl (lv_at hl 0 rfl) ?_
        refine va_get (D := D) (ci := 4) (v := .ref h1) (C := RX4) (T := TX4) (N := 1) hx hb hts in_X4_goesOn_X4 hown hK hP 0 rfl rfl 0 (by decide) (hts _ wd_X4_goesOn_0) (fun _ h9 => h9) rfl dX4_goesOn_25 ?_
        refine lv_iconst (v := 2) hx hb dX4_goesOn_28 (by decide) ?_
        refine va_iald hx hb hK hP 1 0 rfl rfl (show ¬ ((2 : Int32) < 0 ∨ 7 ≤ (2 : Int32).toNatClampNeg) by decide) dX4_goesOn_29 ?_
        refine lv_topi (fun z_6 ez_6 => ?_)
        obtain rfl : z_6 = (w 2) := ez_6
        refine lv_iconst (v := 1) hx hb dX4_goesOn_30 (by decide) ?_
        refine lv_icmp_ne (tgt := 38) hx hb dX4_goesOn_31 (by decide) (fun c31_7 => ?_) (fun c31_7 => ?_)
        · skip
          refine lv_iconst (v := 0) hx hb dX4_goesOn_38 (by decide) ?_
          exact W.zret (v := 0) hx hb hr rfl (fun t ht hW => ⟨_, rfl, (by unfold gnC; first | (simp [c7_2, c17_4, c21_5, nc21_5, c31_7]; done) | ((try first | rw [if_pos c7_2] | rw [if_neg c7_2]); (try first | rw [if_pos c17_4] | rw [if_neg c17_4]); (try first | rw [if_pos c21_5] | rw [if_neg c21_5]); (try first | rw [if_pos nc21_5] | rw [if_neg nc21_5]); (try first | rw [if_pos c31_7] | rw [if_neg c31_7]); first | done | rfl | trivial)), ht⟩) (fun q hq => absurd hq List.not_mem_nil) dX4_goesOn_39
        · skip
          refine lv_iconst (v := 1) hx hb dX4_goesOn_34 (by decide) ?_
          refine lv_goto (tgt := 39) hx hb dX4_goesOn_35 (by decide) ?_
          exact W.zret (v := 1) hx hb hr rfl (fun t ht hW => ⟨_, rfl, (by unfold gnC; first | (simp [c7_2, c17_4, c21_5, nc21_5, c31_7]; done) | ((try first | rw [if_pos c7_2] | rw [if_neg c7_2]); (try first | rw [if_pos c17_4] | rw [if_neg c17_4]); (try first | rw [if_pos c21_5] | rw [if_neg c21_5]); (try first | rw [if_pos nc21_5] | rw [if_neg nc21_5]); (try first | rw [if_pos c31_7] | rw [if_neg c31_7]); first | done | rfl | trivial)), ht⟩) (fun q hq => absurd hq List.not_mem_nil) dX4_goesOn_39

set_option maxHeartbeats 400000 in
set_option maxRecDepth 100000 in
/-- X4_end -/
theorem c_X4_endV (l : Launch) (D : va_G) (cI cJ cQ : ClassId) (h0 : Nat) (h1 : Nat) (w : Nat → Int32) (p0 : Int32)  : Met l yX4_end wsX4_end ({ frames := 0, cells := 0, slots := 0, locals := 0 }) (va_Pc [.ref h0, .int p0] (rP D (gTy cI cJ cQ) [(h0, .inr (4, [.ref h1])), (h1, .inl (cI, 7, .inl w))])) (vp_Si (fun r => r = enC w p0)) 0 0 (fun _ => False) := by
  refine Met.ofW (cc := cX4_end) (maxL := 2) (ret := (some .int)) (by decide) rfl ?_
  intro p e s m args below meth c s₁ B hml hv
  obtain ⟨rfl, hP, hK⟩ := hv
  have hx := B.exec
  have hb := B.bytes
  have hr := B.returns
  have hts := atoms_spec (ws := wsX4_end) B.pre
  have hown : s.vm.findClass RX4 = some m.cls := findClass_of_methodNamed B.named
  have hlocks := B.notSynchronized
  have hl := lv_entry ([.ref h0, .int p0]) (n := 2) (Nat.le_of_ble_eq_true rfl)
  rw [lg_entry_eq]
  generalize (lg_sl ([.ref h0, .int p0]) ++ List.replicate (2 - (lg_sl ([.ref h0, .int p0])).length) Slot.unset).toArray = ls at hl ⊢
  have hl : lv_has ls 2 [(0, .ref h0), (1, .int p0)] := hl
  refine lv_iload_n hx hb dX4_end_0 rfl (lv_at hl 1 rfl) ?_
  refine lv_aload_n hx hb dX4_end_1 rfl (lv_at hl 0 rfl) ?_
  refine va_get (D := D) (ci := 4) (v := .ref h1) (C := RX4) (T := TX4) (N := 1) hx hb hts in_X4_end_X4 hown hK hP 0 rfl rfl 0 (by decide) (hts _ wd_X4_end_0) (fun _ h9 => h9) rfl dX4_end_2 ?_
  refine lv_iconst (v := 0) hx hb dX4_end_5 (by decide) ?_
  refine va_iald hx hb hK hP 1 0 rfl rfl (show ¬ ((0 : Int32) < 0 ∨ 7 ≤ (0 : Int32).toNatClampNeg) by decide) dX4_end_6 ?_
  refine lv_topi (fun z_1 ez_1 => ?_)
  obtain rfl : z_1 = (w 0) := ez_1
  refine lv_icmp_le (tgt := 14) hx hb dX4_end_7 (by decide) (fun c7_2 => ?_) (fun c7_2 => ?_)
  · skip
    refine lv_iload_n hx hb dX4_end_14 rfl (lv_at hl 1 rfl) ?_
    exact W.iret (v := p0) hx hb hr (fun t ht hW => ⟨_, rfl, (by unfold enC; first | (simp [c7_2]; done) | ((try first | rw [if_pos c7_2] | rw [if_neg c7_2]); first | done | rfl | trivial)), ht⟩) (fun q hq => absurd hq List.not_mem_nil) dX4_end_15
  · skip
    refine lv_iconst (v := 0) hx hb dX4_end_10 (by decide) ?_
    refine lv_goto (tgt := 15) hx hb dX4_end_11 (by decide) ?_
    exact W.iret (v := 0) hx hb hr (fun t ht hW => ⟨_, rfl, (by unfold enC; first | (simp [c7_2]; done) | ((try first | rw [if_pos c7_2] | rw [if_neg c7_2]); first | done | rfl | trivial)), ht⟩) (fun q hq => absurd hq List.not_mem_nil) dX4_end_15

set_option maxHeartbeats 400000 in
set_option maxRecDepth 100000 in
/-- X4_settled -/
theorem c_X4_settledV (l : Launch) (D : va_G) (cI cJ cQ : ClassId) (h0 : Nat) (h1 : Nat) (w : Nat → Int32) (p0 : Int32) (p1 : Bool) (p2 : Int32)  : Met l yX4_settled wsX4_settled ({ frames := 0, cells := 0, slots := 0, locals := 0 }) (va_Pc [.ref h0, .int p0, .int (bI p1), .int p2] (rP D (gTy cI cJ cQ) [(h0, .inr (4, [.ref h1])), (h1, .inl (cI, 7, .inl w))])) (vp_Si (fun r => r = stC w p0 p1 p2)) 0 0 (fun _ => False) := by
  refine Met.ofW (cc := cX4_settled) (maxL := 4) (ret := (some .int)) (by decide) rfl ?_
  intro p e s m args below meth c s₁ B hml hv
  obtain ⟨rfl, hP, hK⟩ := hv
  have hx := B.exec
  have hb := B.bytes
  have hr := B.returns
  have hts := atoms_spec (ws := wsX4_settled) B.pre
  have hown : s.vm.findClass RX4 = some m.cls := findClass_of_methodNamed B.named
  have hlocks := B.notSynchronized
  have hl := lv_entry ([.ref h0, .int p0, .int (bI p1), .int p2]) (n := 4) (Nat.le_of_ble_eq_true rfl)
  rw [lg_entry_eq]
  generalize (lg_sl ([.ref h0, .int p0, .int (bI p1), .int p2]) ++ List.replicate (4 - (lg_sl ([.ref h0, .int p0, .int (bI p1), .int p2])).length) Slot.unset).toArray = ls at hl ⊢
  have hl : lv_has ls 4 [(0, .ref h0), (1, .int p0), (2, .int (bI p1)), (3, .int p2)] := hl
  refine lv_iload_n hx hb dX4_settled_0 rfl (lv_at hl 1 rfl) ?_
  refine lv_aload_n hx hb dX4_settled_1 rfl (lv_at hl 0 rfl) ?_
  refine va_get (D := D) (ci := 4) (v := .ref h1) (C := RX4) (T := TX4) (N := 1) hx hb hts in_X4_settled_X4 hown hK hP 0 rfl rfl 0 (by decide) (hts _ wd_X4_settled_0) (fun _ h9 => h9) rfl dX4_settled_2 ?_
  refine lv_iconst (v := 0) hx hb dX4_settled_5 (by decide) ?_
  refine va_iald hx hb hK hP 1 0 rfl rfl (show ¬ ((0 : Int32) < 0 ∨ 7 ≤ (0 : Int32).toNatClampNeg) by decide) dX4_settled_6 ?_
  refine lv_topi (fun z_1 ez_1 => ?_)
  obtain rfl : z_1 = (w 0) := ez_1
  refine lv_icmp_gt (tgt := 15) hx hb dX4_settled_7 (by decide) (fun c7_2 => ?_) (fun c7_2 => ?_)
  · skip
    refine lv_bipush (v := (-2)) hx hb dX4_settled_15 (by decide) ?_
    exact W.iret (v := (-2)) hx hb hr (fun t ht hW => ⟨_, rfl, (by unfold stC; first | (simp [c7_2]; done) | ((try first | rw [if_pos c7_2] | rw [if_neg c7_2]); first | done | rfl | trivial)), ht⟩) (fun q hq => absurd hq List.not_mem_nil) dX4_settled_17
  · skip
    refine lv_iload_n hx hb dX4_settled_10 rfl (lv_at hl 3 rfl) ?_
    refine lv_iload_n hx hb dX4_settled_11 rfl (lv_at hl 1 rfl) ?_
    refine lv_icmp_le (tgt := 18) hx hb dX4_settled_12 (by decide) (fun c12_3 => ?_) (fun c12_3 => ?_)
    · skip
      refine lv_iload_n hx hb dX4_settled_18 rfl (lv_at hl 3 rfl) ?_
      refine lv_iload_n hx hb dX4_settled_19 rfl (lv_at hl 1 rfl) ?_
      refine lv_icmp_ne (tgt := 25) hx hb dX4_settled_20 (by decide) (fun c20_4 => ?_) (fun c20_4 => ?_)
      · skip
        refine lv_iload_n hx hb dX4_settled_25 rfl (lv_at hl 2 rfl) ?_
        refine lv_if_eq (tgt := 39) hx hb dX4_settled_26 (by decide) (fun c26_5 => ?_) (fun c26_5 => ?_)
        · skip
          have nc26_5 : p1 = false := (bI_0 _).mp c26_5
          refine lv_iconst (v := 2) hx hb dX4_settled_39 (by decide) ?_
          exact W.iret (v := 2) hx hb hr (fun t ht hW => ⟨_, rfl, (by unfold stC; first | (simp [c7_2, c12_3, c20_4, c26_5, nc26_5]; done) | ((try first | rw [if_pos c7_2] | rw [if_neg c7_2]); (try first | rw [if_pos c12_3] | rw [if_neg c12_3]); (try first | rw [if_pos c20_4] | rw [if_neg c20_4]); (try first | rw [if_pos c26_5] | rw [if_neg c26_5]); (try first | rw [if_pos nc26_5] | rw [if_neg nc26_5]); first | done | rfl | trivial)), ht⟩) (fun q hq => absurd hq List.not_mem_nil) dX4_settled_40
        · skip
          have nc26_5 : p1 = true := bI_1 c26_5
          refine lv_aload_n hx hb dX4_settled_29 rfl (lv_at hl 0 rfl) ?_
          refine va_get (D := D) (ci := 4) (v := .ref h1) (C := RX4) (T := TX4) (N := 1) hx hb hts in_X4_settled_X4 hown hK hP 0 rfl rfl 0 (by decide) (hts _ wd_X4_settled_0) (fun _ h9 => h9) rfl dX4_settled_30 ?_
          refine lv_bipush (v := 6) hx hb dX4_settled_33 (by decide) ?_
          refine va_iald hx hb hK hP 1 0 rfl rfl (show ¬ ((6 : Int32) < 0 ∨ 7 ≤ (6 : Int32).toNatClampNeg) by decide) dX4_settled_35 ?_
          refine lv_topi (fun z_6 ez_6 => ?_)
          obtain rfl : z_6 = (w 6) := ez_6
          refine lv_goto (tgt := 40) hx hb dX4_settled_36 (by decide) ?_
          exact W.iret (v := (w 6)) hx hb hr (fun t ht hW => ⟨_, rfl, (by unfold stC; first | (simp [c7_2, c12_3, c20_4, c26_5, nc26_5]; done) | ((try first | rw [if_pos c7_2] | rw [if_neg c7_2]); (try first | rw [if_pos c12_3] | rw [if_neg c12_3]); (try first | rw [if_pos c20_4] | rw [if_neg c20_4]); (try first | rw [if_pos c26_5] | rw [if_neg c26_5]); (try first | rw [if_pos nc26_5] | rw [if_neg nc26_5]); first | done | rfl | trivial)), ht⟩) (fun q hq => absurd hq List.not_mem_nil) dX4_settled_40
      · skip
        refine lv_iconst (v := 0) hx hb dX4_settled_23 (by decide) ?_
        exact W.iret (v := 0) hx hb hr (fun t ht hW => ⟨_, rfl, (by unfold stC; first | (simp [c7_2, c12_3, c20_4]; done) | ((try first | rw [if_pos c7_2] | rw [if_neg c7_2]); (try first | rw [if_pos c12_3] | rw [if_neg c12_3]); (try first | rw [if_pos c20_4] | rw [if_neg c20_4]); first | done | rfl | trivial)), ht⟩) (fun q hq => absurd hq List.not_mem_nil) dX4_settled_24
    · skip
      refine lv_bipush (v := (-2)) hx hb dX4_settled_15 (by decide) ?_
      exact W.iret (v := (-2)) hx hb hr (fun t ht hW => ⟨_, rfl, (by unfold stC; first | (simp [c7_2, c12_3]; done) | ((try first | rw [if_pos c7_2] | rw [if_neg c7_2]); (try first | rw [if_pos c12_3] | rw [if_neg c12_3]); first | done | rfl | trivial)), ht⟩) (fun q hq => absurd hq List.not_mem_nil) dX4_settled_17

set_option maxRecDepth 20000 in
theorem in_X5_playHouse_X5 : ∀ w ∈ wsX50, w ∈ wsX5_playHouse := by decide +kernel
set_option maxRecDepth 20000 in
theorem wd_X5_playHouse_0 : Cond.fieldLink RX5 19 "ShoeTable" "cards" "LShoeTable$Cards;" ∈ wsX5_playHouse := by decide +kernel
set_option maxRecDepth 20000 in
theorem in_X5_playHouse_X0 : ∀ w ∈ wsX00, w ∈ wsX5_playHouse := by decide +kernel
set_option maxRecDepth 20000 in
theorem wd_X5_playHouse_1 : Cond.fieldLink RX5 91 "ShoeTable$Cards" "total" "I" ∈ wsX5_playHouse := by decide +kernel
set_option maxRecDepth 20000 in
theorem wd_X5_playHouse_2 : Cond.fieldLink RX5 10 "ShoeTable" "rules" "LShoeTable$Rules;" ∈ wsX5_playHouse := by decide +kernel
set_option maxHeartbeats 400000 in
set_option maxRecDepth 100000 in
theorem lpPlay {p : Program} {l : Launch} {e : Env} {R : Room} {s : State} {m : MethodId} {args : Array Value} {below : List Frame} {meth : Method} {c : Code} {Q : State → Prop} {D : va_G} {cI cJ cQ : ClassId} {A : Nat → Prop} {cells slots : Nat} (hx : p.tables.exec = Jvm.exec) (hb : c.code = cX5_playHouse) (hml : c.maxLocals = 6) (hown : s.vm.findClass RX5 = some m.cls) (hts : ∀ w ∈ wsX5_playHouse, w.before args s = true) (hK : va_K D vwCl (gTy cI cJ cQ) s) (hA : ∀ q : Nat, s.heap.size ≤ q → A q) (h0 : Nat) (tr : Nat) (tc : Nat) (tg : Nat) (tf : Nat) (th : Nat) (tm : Nat) (to : Nat) (tp : Nat) (up : Int32) (bank : Int32) (told : Bool) (ur : Nat) (w : Nat → Int32) (uc : Nat) (ug : Nat) (PL : (Nat → Int32) × (Nat → Int32) × Int64 × Int32 × Bool) (hRf : 3 ≤ R.frames) (hRl : 64 ≤ R.locals) (hRc : cells ≤ R.cells) (hRs : slots ≤ R.slots)  : ∀ (n9 : Nat) (k : Nat) (f : Nat → Int32) (fg : Nat → Int32) (tot : Int32) (totg : Int32) (chain : Int64) (sum : Int32) (ace : Bool) (cc : Nat → Nat) (H : Heap) (locs : List Loc) (ls : Array Slot), 320 - k < n9 → (k ≤ 320) → (cntI f cc) → (tot = sm10 f) → (totg = sm10 fg) → (plH w (320 - k) f fg chain sum ace = PL) → va_P D vwCl [(h0, .inr (5, [.ref tr, .ref tc, .ref tg, .ref tf, .ref th, .ref tm, .ref to, .ref tp, .int up, .int bank, .long chain, .int (bI told)])), (tr, .inr (4, [.ref ur])), (ur, .inl (cI, 7, .inl w)), (tc, .inr (0, [.ref uc, .int tot])), (uc, .inl (cI, 11, .inl f)), (tg, .inr (0, [.ref ug, .int totg])), (ug, .inl (cI, 11, .inl fg))] H → va_D A [(h0, .inr (5, [.ref tr, .ref tc, .ref tg, .ref tf, .ref th, .ref tm, .ref to, .ref tp, .int up, .int bank, .long chain, .int (bI told)])), (tr, .inr (4, [.ref ur])), (ur, .inl (cI, 7, .inl w)), (tc, .inr (0, [.ref uc, .int tot])), (uc, .inl (cI, 11, .inl f)), (tg, .inr (0, [.ref ug, .int totg])), (ug, .inl (cI, 11, .inl fg))] → va_S A s.heap H locs → lv_has ls 6 [(4, .int (nI k)), (3, .int (vlC w sum ace)), (2, .int (bI ace)), (1, .int sum), (0, .ref h0)] → (∀ (f : Nat → Int32) (fg : Nat → Int32) (tot : Int32) (totg : Int32) (chain : Int64) (sum : Int32) (ace : Bool) (H : Heap) (locs : List Loc) (ls : Array Slot), (tot = sm10 f) → (totg = sm10 fg) → ((f, fg, chain, sum, ace) = PL) → va_P D vwCl [(h0, .inr (5, [.ref tr, .ref tc, .ref tg, .ref tf, .ref th, .ref tm, .ref to, .ref tp, .int up, .int bank, .long chain, .int (bI told)])), (tr, .inr (4, [.ref ur])), (ur, .inl (cI, 7, .inl w)), (tc, .inr (0, [.ref uc, .int tot])), (uc, .inl (cI, 11, .inl f)), (tg, .inr (0, [.ref ug, .int totg])), (ug, .inl (cI, 11, .inl fg))] H → va_D A [(h0, .inr (5, [.ref tr, .ref tc, .ref tg, .ref tf, .ref th, .ref tm, .ref to, .ref tp, .int up, .int bank, .long chain, .int (bI told)])), (tr, .inr (4, [.ref ur])), (ur, .inl (cI, 7, .inl w)), (tc, .inr (0, [.ref uc, .int tot])), (uc, .inl (cI, 11, .inl f)), (tg, .inr (0, [.ref ug, .int totg])), (ug, .inl (cI, 11, .inl fg))] → va_S A s.heap H locs → lv_has ls 6 [(3, .int (vlC w sum ace)), (2, .int (bI ace)), (1, .int sum), (0, .ref h0)] → W p l e R s m args below meth c H locs cells slots Q (F0 m 114 ls [])) → W p l e R s m args below meth c H locs cells slots Q (F0 m 32 ls []) := by
  intro n9
  induction n9 with
  | zero => intro k f fg tot totg chain sum ace cc H locs ls hms9; exact absurd hms9 (Nat.not_lt_zero _)
  | succ n9 ih =>
    intro k f fg tot totg chain sum ace cc H locs ls hms9 hk hc htt htg hpl hP hD hS hl kk0
    refine lv_iload hx hb dX5_playHouse_32 (lv_at hl 0 rfl) ?_
    refine lv_sipush (v := 320) hx hb dX5_playHouse_34 (by decide) ?_
    refine lv_icmp_ge (tgt := 114) hx hb dX5_playHouse_37 (by decide) (fun c37_1 => ?_) (fun c37_1 => ?_)
    · skip
      have nc37_1 : 320 ≤ k := (nI_leI (a := 320) (b := k) (by omega) (by omega)).mp c37_1
      exact kk0 f fg tot totg chain sum ace _ _ _ htt htg (by rw [show 320 - k = 0 by omega] at hpl; exact hpl) hP hD hS (lv_sub hl [1, 2, 3, 4] rfl)
    · skip
      have nc37_1 : ¬ (320 ≤ k) := fun z9 => c37_1 ((nI_leI (a := 320) (b := k) (by omega) (by omega)).mpr z9)
      refine lv_aload_n hx hb dX5_playHouse_40 rfl (lv_at hl 4 rfl) ?_
      refine va_get (D := D) (ci := 5) (v := .ref tc) (C := RX5) (T := TX5) (N := 12) hx hb hts in_X5_playHouse_X5 hown hK hP 0 rfl rfl 1 (by decide) (hts _ wd_X5_playHouse_0) (fun _ h9 => h9) rfl dX5_playHouse_41 ?_
      refine va_get (D := D) (ci := 0) (v := .int tot) (C := RX0) (T := TX0) (N := 2) hx hb hts in_X5_playHouse_X0 hown hK hP 3 rfl rfl 1 (by decide) (hts _ wd_X5_playHouse_1) (fun _ h9 => h9) rfl dX5_playHouse_44 ?_
      refine lv_if_le (tgt := 114) hx hb dX5_playHouse_47 (by decide) (fun c47_2 => ?_) (fun c47_2 => ?_)
      · skip
        exact kk0 f fg tot totg chain sum ace _ _ _ htt htg (by rw [← hpl, plH_0 (by rw [← htt]; exact c47_2)]) hP hD hS (lv_sub hl [1, 2, 3, 4] rfl)
      · skip
        refine lv_aload_n hx hb dX5_playHouse_50 rfl (lv_at hl 4 rfl) ?_
        refine va_get (D := D) (ci := 5) (v := .ref tr) (C := RX5) (T := TX5) (N := 12) hx hb hts in_X5_playHouse_X5 hown hK hP 0 rfl rfl 0 (by decide) (hts _ wd_X5_playHouse_2) (fun _ h9 => h9) rfl dX5_playHouse_51 ?_
        refine lv_iload_n hx hb dX5_playHouse_54 rfl (lv_at hl 1 rfl) ?_
        refine lv_join (α := Bool) 65 6 (fun a9 => [(4, .int (nI k)), (3, .int (vlC w sum ace)), (2, .int (bI ace)), (1, .int sum), (0, .ref h0)]) (fun a9 => [.int (bI a9), .int (vlC w sum ace), .ref tr]) (fun a9 => a9 = (!decide (vlC w sum ace = sum))) (fun a_5 ls hl hp_4 => ?_) (fun hJ_3 => ?_)
        · skip
          have hp_4 : a_5 = (!decide (vlC w sum ace = sum)) := hp_4
          subst hp_4
          have hPc := hP.sub (ws' := [(tr, .inr (4, [.ref ur])), (ur, .inl (cI, 7, .inl w))]) [1, 2] rfl
          refine vp_callSi (W.runV (As := [.int (vlC w sum ace), .int (bI (!decide (vlC w sum ace = sum)))]) (rest := []) ⟨hx, hb, hml, hown, hts⟩ (c_X4_goesOnV l D cI cJ cQ tr ur (w) (vlC w sum ace) (!decide (vlC w sum ace = sum))) (cwV 2 hts gX5_playHouse_X4_goesOn rfl rfl rfl (by decide +kernel) ⟨Nat.le_trans (show 0 + 1 ≤ 3 by omega) hRf, Nat.le_trans (show 8 + (3 + 11) + (0) ≤ 64 by omega) hRl⟩) (rP_preV (ci := 4) (q0 := 0) hPc hK rfl rfl) rfl rfl hl.1 rfl (lv_room (Nat.le_of_ble_eq_true rfl)) dX5_playHouse_65 ⟨hRc, hRs⟩) (fun r_6 hr_6 => ?_)
          subst hr_6
          refine lv_if_eq (tgt := 114) hx hb dX5_playHouse_68 (by decide) (fun c68_7 => ?_) (fun c68_7 => ?_)
          · skip
            exact kk0 f fg tot totg chain sum ace _ _ _ htt htg (by rw [← hpl, plH_1 c68_7]) hP hD hS (lv_sub hl [1, 2, 3, 4] rfl)
          · skip
            refine lv_aload_n hx hb dX5_playHouse_71 rfl (lv_at hl 4 rfl) ?_
            have hPc := hP.sub (ws' := [(h0, .inr (5, [.ref tr, .ref tc, .ref tg, .ref tf, .ref th, .ref tm, .ref to, .ref tp, .int up, .int bank, .long chain, .int (bI told)])), (tc, .inr (0, [.ref uc, .int tot])), (uc, .inl (cI, 11, .inl f)), (tg, .inr (0, [.ref ug, .int totg])), (ug, .inl (cI, 11, .inl fg))]) [0, 3, 4, 5, 6] rfl
            have hDc := hD.sub (ws' := [(h0, .inr (5, [.ref tr, .ref tc, .ref tg, .ref tf, .ref th, .ref tm, .ref to, .ref tp, .int up, .int bank, .long chain, .int (bI told)])), (tc, .inr (0, [.ref uc, .int tot])), (uc, .inl (cI, 11, .inl f)), (tg, .inr (0, [.ref ug, .int totg])), (ug, .inl (cI, 11, .inl fg))]) [0, 3, 4, 5, 6] (by decide) rfl
            have hFc := va_free (wc := [(h0, .inr (5, [.ref tr, .ref tc, .ref tg, .ref tf, .ref th, .ref tm, .ref to, .ref tp, .int up, .int bank, .long chain, .int (bI told)])), (tc, .inr (0, [.ref uc, .int tot])), (uc, .inl (cI, 11, .inl f)), (tg, .inr (0, [.ref ug, .int totg])), (ug, .inl (cI, 11, .inl fg))]) hD hS hA [0, 3, 4, 5, 6] rfl
            refine va_calli (va_runV (As := []) (rest := []) ⟨hx, hb, hml, hown, hts⟩ (c_X5_drawnRank l D cI cJ cQ _ h0 tr tc tg tf th tm to tp up bank chain told uc tot (f) ug totg (fg) (not_le_lt c47_2) (dr_ok hc htt c47_2)) (cwV 0 hts gX5_playHouse_X5_drawnRank rfl rfl rfl (by decide +kernel) ⟨Nat.le_trans (show 2 + 1 ≤ 3 by omega) hRf, Nat.le_trans (show 8 + (2 + 11) + (43) ≤ 64 by omega) hRl⟩) (mP_preV (ci := 5) (q0 := 0) hPc hK hDc rfl rfl) rfl rfl hl.1 rfl (lv_room (Nat.le_of_ble_eq_true rfl)) dX5_playHouse_72 ⟨hRc, hRs⟩) hS (fun q _ h => hFc q h) hFc (fun r_8 u_r_8 t H1 locs ht hvm hr_8 hB hz1 hk1 hS => ?_)
            obtain ⟨tot2_9, f2_10, totg2_11, fg2_12, ch2_13⟩ := u_r_8
            obtain ⟨hP1, hK1, hD1⟩ := hB
            rw [ht] at hP1
            try dsimp only at hr_8
            obtain ⟨hP, hD⟩ := va_join (wr := [(tr, .inr (4, [.ref ur])), (ur, .inl (cI, 7, .inl w))]) (w1 := [(h0, .inr (5, [.ref tr, .ref tc, .ref tg, .ref tf, .ref th, .ref tm, .ref to, .ref tp, .int up, .int bank, .long ch2_13, .int (bI told)])), (tc, .inr (0, [.ref uc, .int tot2_9])), (uc, .inl (cI, 11, .inl f2_10)), (tg, .inr (0, [.ref ug, .int totg2_11])), (ug, .inl (cI, 11, .inl fg2_12))]) hP hD [0, 3, 4, 5, 6] [1, 2] rfl rfl (by decide) (by decide) hk1 hFc hP1 hD1
            generalize H1 = H at hP hS ⊢
            have hP : va_P D vwCl [(tr, .inr (4, [.ref ur])), (ur, .inl (cI, 7, .inl w)), (h0, .inr (5, [.ref tr, .ref tc, .ref tg, .ref tf, .ref th, .ref tm, .ref to, .ref tp, .int up, .int bank, .long ch2_13, .int (bI told)])), (tc, .inr (0, [.ref uc, .int tot2_9])), (uc, .inl (cI, 11, .inl f2_10)), (tg, .inr (0, [.ref ug, .int totg2_11])), (ug, .inl (cI, 11, .inl fg2_12))] H := hP
            have hD : va_D A [(tr, .inr (4, [.ref ur])), (ur, .inl (cI, 7, .inl w)), (h0, .inr (5, [.ref tr, .ref tc, .ref tg, .ref tf, .ref th, .ref tm, .ref to, .ref tp, .int up, .int bank, .long ch2_13, .int (bI told)])), (tc, .inr (0, [.ref uc, .int tot2_9])), (uc, .inl (cI, 11, .inl f2_10)), (tg, .inr (0, [.ref ug, .int totg2_11])), (ug, .inl (cI, 11, .inl fg2_12))] := hD
            refine lv_istore (lv' := [(5, .int r_8), (4, .int (nI k)), (3, .int (vlC w sum ace)), (2, .int (bI ace)), (1, .int sum), (0, .ref h0)]) hx hb dX5_playHouse_75 hl (by decide) rfl (fun ls hl => ?_)
            refine lv_iload_n hx hb dX5_playHouse_77 rfl (lv_at hl 4 rfl) ?_
            refine lv_iload hx hb dX5_playHouse_78 (lv_at hl 0 rfl) ?_
            refine lv_iadd hx hb dX5_playHouse_80 ?_
            refine lv_istore_n (lv' := [(1, .int (sum + r_8)), (5, .int r_8), (4, .int (nI k)), (3, .int (vlC w sum ace)), (2, .int (bI ace)), (0, .ref h0)]) hx hb dX5_playHouse_81 rfl hl (by decide) rfl (fun ls hl => ?_)
            refine lv_join (α := Bool) 97 6 (fun a9 => [(1, .int (sum + r_8)), (5, .int r_8), (4, .int (nI k)), (3, .int (vlC w sum ace)), (2, .int (bI ace)), (0, .ref h0)]) (fun a9 => [.int (bI a9)]) (fun a9 => a9 = (ace || decide (r_8 = 1))) (fun a_16 ls hl hp_15 => ?_) (fun hJ_14 => ?_)
            · skip
              have hp_15 : a_16 = (ace || decide (r_8 = 1)) := hp_15
              subst hp_15
              refine lv_istore_n (lv' := [(2, .int (bI (ace || decide (r_8 = 1)))), (1, .int (sum + r_8)), (5, .int r_8), (4, .int (nI k)), (3, .int (vlC w sum ace)), (0, .ref h0)]) hx hb dX5_playHouse_97 rfl hl (by decide) rfl (fun ls hl => ?_)
              refine lv_aload_n hx hb dX5_playHouse_98 rfl (lv_at hl 5 rfl) ?_
              refine va_get (D := D) (ci := 5) (v := .ref tr) (C := RX5) (T := TX5) (N := 12) hx hb hts in_X5_playHouse_X5 hown hK hP 2 rfl rfl 0 (by decide) (hts _ wd_X5_playHouse_2) (fun _ h9 => h9) rfl dX5_playHouse_99 ?_
              refine lv_iload_n hx hb dX5_playHouse_102 rfl (lv_at hl 1 rfl) ?_
              refine lv_iload_n hx hb dX5_playHouse_103 rfl (lv_at hl 0 rfl) ?_
              have hPc := hP.sub (ws' := [(tr, .inr (4, [.ref ur])), (ur, .inl (cI, 7, .inl w))]) [0, 1] rfl
              refine vp_callSi (W.runV (As := [.int (sum + r_8), .int (bI (ace || decide (r_8 = 1)))]) (rest := []) ⟨hx, hb, hml, hown, hts⟩ (c_X4_valueV l D cI cJ cQ tr ur (w) (sum + r_8) (ace || decide (r_8 = 1))) (cwV 2 hts gX5_playHouse_X4_value rfl rfl rfl (by decide +kernel) ⟨Nat.le_trans (show 0 + 1 ≤ 3 by omega) hRf, Nat.le_trans (show 8 + (3 + 11) + (0) ≤ 64 by omega) hRl⟩) (rP_preV (ci := 4) (q0 := 0) hPc hK rfl rfl) rfl rfl hl.1 rfl (lv_room (Nat.le_of_ble_eq_true rfl)) dX5_playHouse_104 ⟨hRc, hRs⟩) (fun r_17 hr_17 => ?_)
              subst hr_17
              refine lv_istore_n (lv' := [(3, .int (vlC (w) (sum + r_8) (ace || decide (r_8 = 1)))), (2, .int (bI (ace || decide (r_8 = 1)))), (1, .int (sum + r_8)), (5, .int r_8), (4, .int (nI k)), (0, .ref h0)]) hx hb dX5_playHouse_107 rfl hl (by decide) rfl (fun ls hl => ?_)
              obtain ⟨c2, q1, q2, q3, q4⟩ := plH_go (PL := PL) (n := 319 - k) hc htt htg c47_2 c68_7 hr_8 (by rw [show 319 - k + 1 = 320 - k by omega]; exact hpl)
              refine lv_iinc (v := (nI (k + 1))) (lv' := [(4, .int (nI (k + 1))), (3, .int (vlC (w) (sum + r_8) (ace || decide (r_8 = 1)))), (2, .int (bI (ace || decide (r_8 = 1)))), (1, .int (sum + r_8)), (5, .int r_8), (0, .ref h0)]) hx hb dX5_playHouse_108 hl (k := 4) rfl (nI_incT (by decide)) (by decide) rfl (fun ls hl => ?_)
              refine lv_goto (tgt := 32) hx hb dX5_playHouse_111 (by decide) ?_
              exact ih (k + 1) f2_10 fg2_12 tot2_9 totg2_11 ch2_13 (sum + r_8) (ace || decide (r_8 = 1)) c2 _ _ _ (by omega) (by omega) q1 q2 q3 (by rw [show 320 - (k + 1) = 319 - k by omega]; exact q4) (hP.sub [2, 0, 1, 3, 4, 5, 6] rfl) (hD.sub [2, 0, 1, 3, 4, 5, 6] (by decide) rfl) hS (lv_sub hl [0, 1, 2, 3, 5] rfl) kk0
            · skip
              refine lv_iload_n hx hb dX5_playHouse_82 rfl (lv_at hl 4 rfl) ?_
              refine lv_if_ne (tgt := 92) hx hb dX5_playHouse_83 (by decide) (fun c83_18 => ?_) (fun c83_18 => ?_)
              · skip
                have nc83_18 : ace = true := bI_1 c83_18
                refine lv_iconst (v := 1) hx hb dX5_playHouse_92 (by decide) ?_
                refine lv_goto (tgt := 97) hx hb dX5_playHouse_93 (by decide) ?_
                exact hJ_14 true ls (lv_sub hl [0, 1, 2, 3, 4, 5] rfl) (by first | assumption | (simp [c83_18, nc83_18]; done) | ((try first | rw [if_pos c83_18] | rw [if_neg c83_18]); (try first | rw [if_pos nc83_18] | rw [if_neg nc83_18]); first | done | rfl | trivial) | (simp_all; done))
              · skip
                have nc83_18 : ace = false := (bI_0 _).mp c83_18
                refine lv_iload hx hb dX5_playHouse_86 (lv_at hl 1 rfl) ?_
                refine lv_iconst (v := 1) hx hb dX5_playHouse_88 (by decide) ?_
                refine lv_icmp_ne (tgt := 96) hx hb dX5_playHouse_89 (by decide) (fun c89_19 => ?_) (fun c89_19 => ?_)
                · skip
                  refine lv_iconst (v := 0) hx hb dX5_playHouse_96 (by decide) ?_
                  exact hJ_14 false ls (lv_sub hl [0, 1, 2, 3, 4, 5] rfl) (by first | assumption | (simp [c83_18, nc83_18, c89_19]; done) | ((try first | rw [if_pos c83_18] | rw [if_neg c83_18]); (try first | rw [if_pos nc83_18] | rw [if_neg nc83_18]); (try first | rw [if_pos c89_19] | rw [if_neg c89_19]); first | done | rfl | trivial) | (simp_all; done))
                · skip
                  refine lv_iconst (v := 1) hx hb dX5_playHouse_92 (by decide) ?_
                  refine lv_goto (tgt := 97) hx hb dX5_playHouse_93 (by decide) ?_
                  exact hJ_14 true ls (lv_sub hl [0, 1, 2, 3, 4, 5] rfl) (by first | assumption | (simp [c83_18, nc83_18, c89_19]; done) | ((try first | rw [if_pos c83_18] | rw [if_neg c83_18]); (try first | rw [if_pos nc83_18] | rw [if_neg nc83_18]); (try first | rw [if_pos c89_19] | rw [if_neg c89_19]); first | done | rfl | trivial) | (simp_all; done))
        · skip
          refine lv_iload_n hx hb dX5_playHouse_55 rfl (lv_at hl 1 rfl) ?_
          refine lv_iload_n hx hb dX5_playHouse_56 rfl (lv_at hl 3 rfl) ?_
          refine lv_icmp_eq (tgt := 64) hx hb dX5_playHouse_57 (by decide) (fun c57_20 => ?_) (fun c57_20 => ?_)
          · skip
            refine lv_iconst (v := 0) hx hb dX5_playHouse_64 (by decide) ?_
            exact hJ_3 false ls (lv_sub hl [0, 1, 2, 3, 4] rfl) (by first | assumption | (simp [c57_20]; done) | ((try first | rw [if_pos c57_20] | rw [if_neg c57_20]); first | done | rfl | trivial) | (simp_all; done))
          · skip
            refine lv_iconst (v := 1) hx hb dX5_playHouse_60 (by decide) ?_
            refine lv_goto (tgt := 65) hx hb dX5_playHouse_61 (by decide) ?_
            exact hJ_3 true ls (lv_sub hl [0, 1, 2, 3, 4] rfl) (by first | assumption | (simp [c57_20]; done) | ((try first | rw [if_pos c57_20] | rw [if_neg c57_20]); first | done | rfl | trivial) | (simp_all; done))

set_option maxRecDepth 20000 in
theorem wd_X5_playHouse_3 : Cond.fieldLink RX5 54 "ShoeTable" "up" "I" ∈ wsX5_playHouse := by decide +kernel
set_option maxHeartbeats 400000 in
set_option maxRecDepth 100000 in
/-- X5_playHouse -/
theorem c_X5_playHouse (l : Launch) (D : va_G) (cI cJ cQ : ClassId) (sz : Nat) (h0 : Nat) (tr : Nat) (tc : Nat) (tg : Nat) (tf : Nat) (th : Nat) (tm : Nat) (to : Nat) (tp : Nat) (up : Int32) (bank : Int32) (chain : Int64) (told : Bool) (ur : Nat) (w : Nat → Int32) (uc : Nat) (tot : Int32) (f : Nat → Int32) (ug : Nat) (totg : Int32) (fg : Nat → Int32) (cc : Nat → Nat) (hc : cntI f cc) (htt : tot = sm10 f) (htg : totg = sm10 fg) : Met l yX5_playHouse wsX5_playHouse ({ frames := 3, cells := 0, slots := 0, locals := 64 }) (va_Pc [.ref h0] (mP D (gTy cI cJ cQ) [(h0, .inr (5, [.ref tr, .ref tc, .ref tg, .ref tf, .ref th, .ref tm, .ref to, .ref tp, .int up, .int bank, .long chain, .int (bI told)])), (tr, .inr (4, [.ref ur])), (ur, .inl (cI, 7, .inl w)), (tc, .inr (0, [.ref uc, .int tot])), (uc, .inl (cI, 11, .inl f)), (tg, .inr (0, [.ref ug, .int totg])), (ug, .inl (cI, 11, .inl fg))] sz)) (va_Qi (fun (r : Int32) (u : Int32 × (Nat → Int32) × Int32 × (Nat → Int32) × Int64) => match u with | (tot2, f2, totg2, fg2, ch2) => tot2 = sm10 f2 ∧ totg2 = sm10 fg2 ∧ ∃ (s2 : Int32) (a2 : Bool), plH w 320 f fg chain up (decide (up = 1)) = (f2, fg2, ch2, s2, a2) ∧ r = enC w (vlC w s2 a2)) (fun (u : Int32 × (Nat → Int32) × Int32 × (Nat → Int32) × Int64) t => match u with | (tot2, f2, totg2, fg2, ch2) => mB D (gTy cI cJ cQ) (va_A [(h0, .inr (5, [.ref tr, .ref tc, .ref tg, .ref tf, .ref th, .ref tm, .ref to, .ref tp, .int up, .int bank, .long chain, .int (bI told)])), (tr, .inr (4, [.ref ur])), (ur, .inl (cI, 7, .inl w)), (tc, .inr (0, [.ref uc, .int tot])), (uc, .inl (cI, 11, .inl f)), (tg, .inr (0, [.ref ug, .int totg])), (ug, .inl (cI, 11, .inl fg))] sz) [(h0, .inr (5, [.ref tr, .ref tc, .ref tg, .ref tf, .ref th, .ref tm, .ref to, .ref tp, .int up, .int bank, .long ch2, .int (bI told)])), (tr, .inr (4, [.ref ur])), (ur, .inl (cI, 7, .inl w)), (tc, .inr (0, [.ref uc, .int tot2])), (uc, .inl (cI, 11, .inl f2)), (tg, .inr (0, [.ref ug, .int totg2])), (ug, .inl (cI, 11, .inl fg2))] t) (va_A [(h0, .inr (5, [.ref tr, .ref tc, .ref tg, .ref tf, .ref th, .ref tm, .ref to, .ref tp, .int up, .int bank, .long chain, .int (bI told)])), (tr, .inr (4, [.ref ur])), (ur, .inl (cI, 7, .inl w)), (tc, .inr (0, [.ref uc, .int tot])), (uc, .inl (cI, 11, .inl f)), (tg, .inr (0, [.ref ug, .int totg])), (ug, .inl (cI, 11, .inl fg))] sz)) 0 0 (va_A [(h0, .inr (5, [.ref tr, .ref tc, .ref tg, .ref tf, .ref th, .ref tm, .ref to, .ref tp, .int up, .int bank, .long chain, .int (bI told)])), (tr, .inr (4, [.ref ur])), (ur, .inl (cI, 7, .inl w)), (tc, .inr (0, [.ref uc, .int tot])), (uc, .inl (cI, 11, .inl f)), (tg, .inr (0, [.ref ug, .int totg])), (ug, .inl (cI, 11, .inl fg))] sz) := by
  refine Met.ofW (cc := cX5_playHouse) (maxL := 6) (ret := (some .int)) (by decide) rfl ?_
  intro p e s m args below meth c s₁ B hml hv
  obtain ⟨rfl, hsz, hP, hK, hD0⟩ := hv
  have hx := B.exec
  have hb := B.bytes
  have hr := B.returns
  have hts := atoms_spec (ws := wsX5_playHouse) B.pre
  have hown : s.vm.findClass RX5 = some m.cls := findClass_of_methodNamed B.named
  have hlocks := B.notSynchronized
  subst hsz
  have hD := hD0.self (sz := s.heap.size)
  generalize hAe : va_A [(h0, .inr (5, [.ref tr, .ref tc, .ref tg, .ref tf, .ref th, .ref tm, .ref to, .ref tp, .int up, .int bank, .long chain, .int (bI told)])), (tr, .inr (4, [.ref ur])), (ur, .inl (cI, 7, .inl w)), (tc, .inr (0, [.ref uc, .int tot])), (uc, .inl (cI, 11, .inl f)), (tg, .inr (0, [.ref ug, .int totg])), (ug, .inl (cI, 11, .inl fg))] s.heap.size = A at hD ⊢
  have hA : ∀ q : Nat, s.heap.size ≤ q → A q := fun q h => by rw [← hAe]; exact Or.inr h
  have hS : va_S A s.heap s.heap [] := va_S.rf
  have hP : va_P D vwCl [(h0, .inr (5, [.ref tr, .ref tc, .ref tg, .ref tf, .ref th, .ref tm, .ref to, .ref tp, .int up, .int bank, .long chain, .int (bI told)])), (tr, .inr (4, [.ref ur])), (ur, .inl (cI, 7, .inl w)), (tc, .inr (0, [.ref uc, .int tot])), (uc, .inl (cI, 11, .inl f)), (tg, .inr (0, [.ref ug, .int totg])), (ug, .inl (cI, 11, .inl fg))] s.heap := hP
  have hl := lv_entry ([.ref h0]) (n := 6) (Nat.le_of_ble_eq_true rfl)
  rw [lg_entry_eq]
  generalize (lg_sl ([.ref h0]) ++ List.replicate (6 - (lg_sl ([.ref h0])).length) Slot.unset).toArray = ls at hl ⊢
  have hl : lv_has ls 6 [(0, .ref h0)] := hl
  refine lv_aload_n hx hb dX5_playHouse_0 rfl (lv_at hl 0 rfl) ?_
  refine va_get (D := D) (ci := 5) (v := .int up) (C := RX5) (T := TX5) (N := 12) hx hb hts in_X5_playHouse_X5 hown hK hP 0 rfl rfl 8 (by decide) (hts _ wd_X5_playHouse_3) (fun _ h9 => h9) rfl dX5_playHouse_1 ?_
  refine lv_istore_n (lv' := [(1, .int up), (0, .ref h0)]) hx hb dX5_playHouse_4 rfl hl (by decide) rfl (fun ls hl => ?_)
  refine lv_join (α := Bool) 18 6 (fun a9 => [(1, .int up), (0, .ref h0)]) (fun a9 => [.int (bI a9)]) (fun a9 => a9 = (decide (up = 1))) (fun a_3 ls hl hp_2 => ?_) (fun hJ_1 => ?_)
  · skip
    have hp_2 : a_3 = (decide (up = 1)) := hp_2
    subst hp_2
    refine lv_istore_n (lv' := [(2, .int (bI (decide (up = 1)))), (1, .int up), (0, .ref h0)]) hx hb dX5_playHouse_18 rfl hl (by decide) rfl (fun ls hl => ?_)
    refine lv_aload_n hx hb dX5_playHouse_19 rfl (lv_at hl 2 rfl) ?_
    refine va_get (D := D) (ci := 5) (v := .ref tr) (C := RX5) (T := TX5) (N := 12) hx hb hts in_X5_playHouse_X5 hown hK hP 0 rfl rfl 0 (by decide) (hts _ wd_X5_playHouse_2) (fun _ h9 => h9) rfl dX5_playHouse_20 ?_
    refine lv_iload_n hx hb dX5_playHouse_23 rfl (lv_at hl 1 rfl) ?_
    refine lv_iload_n hx hb dX5_playHouse_24 rfl (lv_at hl 0 rfl) ?_
    have hPc := hP.sub (ws' := [(tr, .inr (4, [.ref ur])), (ur, .inl (cI, 7, .inl w))]) [1, 2] rfl
    refine vp_callSi (W.runV (As := [.int up, .int (bI (decide (up = 1)))]) (rest := []) ⟨hx, hb, hml, hown, hts⟩ (c_X4_valueV l D cI cJ cQ tr ur (w) up (decide (up = 1))) (cwV 2 hts gX5_playHouse_X4_value rfl rfl rfl (by decide +kernel) ⟨Nat.le_of_ble_eq_true rfl, Nat.le_of_ble_eq_true rfl⟩) (rP_preV (ci := 4) (q0 := 0) hPc hK rfl rfl) rfl rfl hl.1 rfl (lv_room (Nat.le_of_ble_eq_true rfl)) dX5_playHouse_25 ⟨Nat.le_of_ble_eq_true rfl, Nat.le_of_ble_eq_true rfl⟩) (fun r_4 hr_4 => ?_)
    subst hr_4
    refine lv_istore_n (lv' := [(3, .int (vlC (w) up (decide (up = 1)))), (2, .int (bI (decide (up = 1)))), (1, .int up), (0, .ref h0)]) hx hb dX5_playHouse_28 rfl hl (by decide) rfl (fun ls hl => ?_)
    refine lv_iconst (v := 0) hx hb dX5_playHouse_29 (by decide) ?_
    refine lv_istore (lv' := [(4, .int 0), (3, .int (vlC (w) up (decide (up = 1)))), (2, .int (bI (decide (up = 1)))), (1, .int up), (0, .ref h0)]) hx hb dX5_playHouse_30 hl (by decide) rfl (fun ls hl => ?_)
    refine lpPlay hx hb hml hown hts hK hA h0 tr tc tg tf th tm to tp up bank told ur w uc ug (plH w 320 f fg chain up (decide (up = 1))) (Nat.le_of_ble_eq_true rfl) (Nat.le_of_ble_eq_true rfl) (Nat.zero_le _) (Nat.zero_le _)  (320 - 0 + 1) 0 f fg tot totg chain up (decide (up = 1)) cc _ _ _ (Nat.lt_succ_self _) (by omega) hc htt htg rfl hP hD hS (lv_sub hl [0, 1, 2, 3, 4] rfl) (fun f_5 fg_6 tot_7 totg_8 chain_9 sum_10 ace_11 H locs ls htt_12 htg_13 hpl_14 hP hD hS hl => ?_)
    have hP : va_P D vwCl [(h0, .inr (5, [.ref tr, .ref tc, .ref tg, .ref tf, .ref th, .ref tm, .ref to, .ref tp, .int up, .int bank, .long chain_9, .int (bI told)])), (tr, .inr (4, [.ref ur])), (ur, .inl (cI, 7, .inl w)), (tc, .inr (0, [.ref uc, .int tot_7])), (uc, .inl (cI, 11, .inl f_5)), (tg, .inr (0, [.ref ug, .int totg_8])), (ug, .inl (cI, 11, .inl fg_6))] H := hP
    have hD : va_D A [(h0, .inr (5, [.ref tr, .ref tc, .ref tg, .ref tf, .ref th, .ref tm, .ref to, .ref tp, .int up, .int bank, .long chain_9, .int (bI told)])), (tr, .inr (4, [.ref ur])), (ur, .inl (cI, 7, .inl w)), (tc, .inr (0, [.ref uc, .int tot_7])), (uc, .inl (cI, 11, .inl f_5)), (tg, .inr (0, [.ref ug, .int totg_8])), (ug, .inl (cI, 11, .inl fg_6))] := hD
    refine lv_aload_n hx hb dX5_playHouse_114 rfl (lv_at hl 3 rfl) ?_
    refine va_get (D := D) (ci := 5) (v := .ref tr) (C := RX5) (T := TX5) (N := 12) hx hb hts in_X5_playHouse_X5 hown hK hP 0 rfl rfl 0 (by decide) (hts _ wd_X5_playHouse_2) (fun _ h9 => h9) rfl dX5_playHouse_115 ?_
    refine lv_iload_n hx hb dX5_playHouse_118 rfl (lv_at hl 0 rfl) ?_
    have hPc := hP.sub (ws' := [(tr, .inr (4, [.ref ur])), (ur, .inl (cI, 7, .inl w))]) [1, 2] rfl
    refine vp_callSi (W.runV (As := [.int (vlC w sum_10 ace_11)]) (rest := []) ⟨hx, hb, hml, hown, hts⟩ (c_X4_endV l D cI cJ cQ tr ur (w) (vlC w sum_10 ace_11)) (cwV 1 hts gX5_playHouse_X4_end rfl rfl rfl (by decide +kernel) ⟨Nat.le_of_ble_eq_true rfl, Nat.le_of_ble_eq_true rfl⟩) (rP_preV (ci := 4) (q0 := 0) hPc hK rfl rfl) rfl rfl hl.1 rfl (lv_room (Nat.le_of_ble_eq_true rfl)) dX5_playHouse_119 ⟨Nat.le_of_ble_eq_true rfl, Nat.le_of_ble_eq_true rfl⟩) (fun r_15 hr_15 => ?_)
    subst hr_15
    have hP9 := hP.sub (ws' := [(h0, .inr (5, [.ref tr, .ref tc, .ref tg, .ref tf, .ref th, .ref tm, .ref to, .ref tp, .int up, .int bank, .long chain_9, .int (bI told)])), (tr, .inr (4, [.ref ur])), (ur, .inl (cI, 7, .inl w)), (tc, .inr (0, [.ref uc, .int tot_7])), (uc, .inl (cI, 11, .inl f_5)), (tg, .inr (0, [.ref ug, .int totg_8])), (ug, .inl (cI, 11, .inl fg_6))]) [0, 1, 2, 3, 4, 5, 6] rfl
    have hD9 := hD.sub (ws' := [(h0, .inr (5, [.ref tr, .ref tc, .ref tg, .ref tf, .ref th, .ref tm, .ref to, .ref tp, .int up, .int bank, .long chain_9, .int (bI told)])), (tr, .inr (4, [.ref ur])), (ur, .inl (cI, 7, .inl w)), (tc, .inr (0, [.ref uc, .int tot_7])), (uc, .inl (cI, 11, .inl f_5)), (tg, .inr (0, [.ref ug, .int totg_8])), (ug, .inl (cI, 11, .inl fg_6))]) [0, 1, 2, 3, 4, 5, 6] (by decide) rfl
    exact W.iret (v := (enC (w) (vlC w sum_10 ace_11))) hx hb hr (fun t ht hW => ⟨⟨(enC (w) (vlC w sum_10 ace_11)), (tot_7, (f_5), totg_8, (fg_6), chain_9), rfl, ⟨htt_12, htg_13, _, _, hpl_14.symm, rfl⟩, by rw [ht]; exact hP9, va_K.moved hW.alike hK, hD9⟩, hS.F ht⟩) hS.2.2 dX5_playHouse_122
  · skip
    refine lv_aload_n hx hb dX5_playHouse_5 rfl (lv_at hl 1 rfl) ?_
    refine va_get (D := D) (ci := 5) (v := .int up) (C := RX5) (T := TX5) (N := 12) hx hb hts in_X5_playHouse_X5 hown hK hP 0 rfl rfl 8 (by decide) (hts _ wd_X5_playHouse_3) (fun _ h9 => h9) rfl dX5_playHouse_6 ?_
    refine lv_iconst (v := 1) hx hb dX5_playHouse_9 (by decide) ?_
    refine lv_icmp_ne (tgt := 17) hx hb dX5_playHouse_10 (by decide) (fun c10_16 => ?_) (fun c10_16 => ?_)
    · skip
      refine lv_iconst (v := 0) hx hb dX5_playHouse_17 (by decide) ?_
      exact hJ_1 false ls (lv_sub hl [0, 1] rfl) (by first | assumption | (simp [c10_16]; done) | ((try first | rw [if_pos c10_16] | rw [if_neg c10_16]); first | done | rfl | trivial) | (simp_all; done))
    · skip
      refine lv_iconst (v := 1) hx hb dX5_playHouse_13 (by decide) ?_
      refine lv_goto (tgt := 18) hx hb dX5_playHouse_14 (by decide) ?_
      exact hJ_1 true ls (lv_sub hl [0, 1] rfl) (by first | assumption | (simp [c10_16]; done) | ((try first | rw [if_pos c10_16] | rw [if_neg c10_16]); first | done | rfl | trivial) | (simp_all; done))
