set_option maxHeartbeats 400000 in
set_option maxRecDepth 100000 in
/-- X1_card -/
theorem c_X1_cardV (l : Launch) (D : va_G) (cI cJ cQ : ClassId) (h0 : Nat) (h1 : Nat) (n0 : Int32) (sm : Int32) (ace : Bool) (g : Nat → Int32) (p0 : Int32) (hn : n0 ≤ 12) : Met l yX1_card wsX1_card ({ frames := 0, cells := 0, slots := 0, locals := 0 }) (va_Pc [.ref h0, .int p0] (rP D (gTy cI cJ cQ) [(h0, .inr (1, [.ref h1, .int n0, .int sm, .int (bI ace)])), (h1, .inl (cI, 12, .inl g))])) (vp_Si (fun r => r = crdC g n0 p0)) 0 0 (fun _ => False) := by
  refine Met.ofW (cc := cX1_card) (maxL := 2) (ret := (some .int)) (by decide) rfl ?_
  intro p e s m args below meth c s₁ B hml hv
  obtain ⟨rfl, hP, hK⟩ := hv
  have hx := B.exec
  have hb := B.bytes
  have hr := B.returns
  have hts := atoms_spec (ws := wsX1_card) B.pre
  have hown : s.vm.findClass RX1 = some m.cls := findClass_of_methodNamed B.named
  have hlocks := B.notSynchronized
  have hl := lv_entry ([.ref h0, .int p0]) (n := 2) (Nat.le_of_ble_eq_true rfl)
  rw [lg_entry_eq]
  generalize (lg_sl ([.ref h0, .int p0]) ++ List.replicate (2 - (lg_sl ([.ref h0, .int p0])).length) Slot.unset).toArray = ls at hl ⊢
  have hl : lv_has ls 2 [(0, .ref h0), (1, .int p0)] := hl
  refine lv_iload_n hx hb dX1_card_0 rfl (lv_at hl 1 rfl) ?_
  refine lv_if_lt (tgt := 21) hx hb dX1_card_1 (by decide) (fun c1_1 => ?_) (fun c1_1 => ?_)
  · skip
    refine lv_iconst (v := (-1)) hx hb dX1_card_21 (by decide) ?_
    exact W.iret (v := (-1)) hx hb hr (fun t ht hW => ⟨_, rfl, (by unfold crdC; first | (simp [c1_1]; done) | ((try first | rw [if_pos c1_1] | rw [if_neg c1_1]); first | done | rfl | trivial)), ht⟩) (fun q hq => absurd hq List.not_mem_nil) dX1_card_22
  · skip
    refine lv_iload_n hx hb dX1_card_4 rfl (lv_at hl 1 rfl) ?_
    refine lv_aload_n hx hb dX1_card_5 rfl (lv_at hl 0 rfl) ?_
    refine va_get (D := D) (ci := 1) (v := .int n0) (C := RX1) (T := TX1) (N := 4) hx hb hts in_X1_card_X1 hown hK hP 0 rfl rfl 1 (by decide) (hts _ wd_X1_card_0) (fun _ h9 => h9) rfl dX1_card_6 ?_
    refine lv_icmp_ge (tgt := 21) hx hb dX1_card_9 (by decide) (fun c9_2 => ?_) (fun c9_2 => ?_)
    · skip
      refine lv_iconst (v := (-1)) hx hb dX1_card_21 (by decide) ?_
      exact W.iret (v := (-1)) hx hb hr (fun t ht hW => ⟨_, rfl, (by unfold crdC; first | (simp [c1_1, c9_2]; done) | ((try first | rw [if_pos c1_1] | rw [if_neg c1_1]); (try first | rw [if_pos c9_2] | rw [if_neg c9_2]); first | done | rfl | trivial)), ht⟩) (fun q hq => absurd hq List.not_mem_nil) dX1_card_22
    · skip
      refine lv_aload_n hx hb dX1_card_12 rfl (lv_at hl 0 rfl) ?_
      refine va_get (D := D) (ci := 1) (v := .ref h1) (C := RX1) (T := TX1) (N := 4) hx hb hts in_X1_card_X1 hown hK hP 0 rfl rfl 0 (by decide) (hts _ wd_X1_card_1) (fun _ h9 => h9) rfl dX1_card_13 ?_
      refine lv_iload_n hx hb dX1_card_16 rfl (lv_at hl 1 rfl) ?_
      refine va_iald hx hb hK hP 1 0 rfl rfl (c12_in c1_1 c9_2 hn) dX1_card_17 ?_
      refine lv_goto (tgt := 22) hx hb dX1_card_18 (by decide) ?_
      exact W.iret (v := (g p0.toNatClampNeg)) hx hb hr (fun t ht hW => ⟨_, rfl, (by unfold crdC; first | (simp [c1_1, c9_2]; done) | ((try first | rw [if_pos c1_1] | rw [if_neg c1_1]); (try first | rw [if_pos c9_2] | rw [if_neg c9_2]); first | done | rfl | trivial)), ht⟩) (fun q hq => absurd hq List.not_mem_nil) dX1_card_22

set_option maxRecDepth 20000 in
theorem in_X5_told_X5 : ∀ w ∈ wsX50, w ∈ wsX5_told := by decide +kernel
set_option maxRecDepth 20000 in
theorem wd_X5_told_0 : Cond.fieldLink RX5 32 "ShoeTable" "hand" "LShoeTable$Hand;" ∈ wsX5_told := by decide +kernel
set_option maxRecDepth 20000 in
theorem in_X5_told_X1 : ∀ w ∈ wsX10, w ∈ wsX5_told := by decide +kernel
set_option maxRecDepth 20000 in
theorem wd_X5_told_1 : Cond.fieldLink RX5 112 "ShoeTable$Hand" "size" "I" ∈ wsX5_told := by decide +kernel
set_option maxRecDepth 20000 in
theorem wd_X5_told_2 : Cond.fieldLink RX5 10 "ShoeTable" "rules" "LShoeTable$Rules;" ∈ wsX5_told := by decide +kernel
set_option maxRecDepth 20000 in
theorem wd_X5_told_3 : Cond.fieldLink RX5 122 "ShoeTable$Hand" "sum" "I" ∈ wsX5_told := by decide +kernel
set_option maxRecDepth 20000 in
theorem wd_X5_told_4 : Cond.fieldLink RX5 125 "ShoeTable$Hand" "ace" "Z" ∈ wsX5_told := by decide +kernel
set_option maxRecDepth 20000 in
theorem wd_X5_told_5 : Cond.fieldLink RX5 54 "ShoeTable" "up" "I" ∈ wsX5_told := by decide +kernel
set_option maxRecDepth 20000 in
theorem wd_X5_told_6 : Cond.fieldLink RX5 58 "ShoeTable" "bank" "I" ∈ wsX5_told := by decide +kernel
set_option maxRecDepth 20000 in
theorem wd_X5_told_7 : Cond.fieldLink RX5 23 "ShoeTable" "gone" "LShoeTable$Cards;" ∈ wsX5_told := by decide +kernel
set_option maxRecDepth 20000 in
theorem in_X5_told_X0 : ∀ w ∈ wsX00, w ∈ wsX5_told := by decide +kernel
set_option maxRecDepth 20000 in
theorem wd_X5_told_8 : Cond.fieldLink RX5 91 "ShoeTable$Cards" "total" "I" ∈ wsX5_told := by decide +kernel
set_option maxHeartbeats 400000 in
set_option maxRecDepth 100000 in
/-- X5_told -/
theorem c_X5_told (l : Launch) (D : va_G) (cI cJ cQ : ClassId) (h0 : Nat) (tr : Nat) (tc : Nat) (tg : Nat) (tf : Nat) (th : Nat) (tm : Nat) (to : Nat) (tp : Nat) (up : Int32) (bank : Int32) (chain : Int64) (told : Bool) (ur : Nat) (w : Nat → Int32) (uh : Nat) (n0 : Int32) (sm : Int32) (ace : Bool) (g : Nat → Int32) (ug : Nat) (totg : Int32) (fg : Nat → Int32) (mk : Nat → Int32) (p0 : Int32) (hn : n0 ≤ 12) : Met l yX5_told wsX5_told ({ frames := 2, cells := 0, slots := 0, locals := 43 }) (va_Pc [.ref h0, .int p0] (rP D (gTy cI cJ cQ) [(h0, .inr (5, [.ref tr, .ref tc, .ref tg, .ref tf, .ref th, .ref tm, .ref to, .ref tp, .int up, .int bank, .long chain, .int (bI told)])), (tr, .inr (4, [.ref ur])), (ur, .inl (cI, 7, .inl w)), (th, .inr (1, [.ref uh, .int n0, .int sm, .int (bI ace)])), (uh, .inl (cI, 12, .inl g)), (tg, .inr (0, [.ref ug, .int totg])), (ug, .inl (cI, 11, .inl fg)), (tm, .inl (cI, 11, .inl mk))])) (vp_Si (fun r => r = tldC w n0 sm ace g up mk fg totg bank p0)) 0 0 (fun _ => False) := by
  refine Met.ofW (cc := cX5_told) (maxL := 2) (ret := (some .int)) (by decide) rfl ?_
  intro p e s m args below meth c s₁ B hml hv
  obtain ⟨rfl, hP, hK⟩ := hv
  have hx := B.exec
  have hb := B.bytes
  have hr := B.returns
  have hts := atoms_spec (ws := wsX5_told) B.pre
  have hown : s.vm.findClass RX5 = some m.cls := findClass_of_methodNamed B.named
  have hlocks := B.notSynchronized
  have hl := lv_entry ([.ref h0, .int p0]) (n := 2) (Nat.le_of_ble_eq_true rfl)
  rw [lg_entry_eq]
  generalize (lg_sl ([.ref h0, .int p0]) ++ List.replicate (2 - (lg_sl ([.ref h0, .int p0])).length) Slot.unset).toArray = ls at hl ⊢
  have hl : lv_has ls 2 [(0, .ref h0), (1, .int p0)] := hl
  refine lv_iload_n hx hb dX5_told_0 rfl (lv_at hl 1 rfl) ?_
  by_cases k0_1 : p0 = 0
  · subst k0_1
    refine lv_tableIn (off := 51) (tgt := 52) hx hb dX5_told_1 (by decide) (by decide) (by decide) (by decide) ?_
    refine lv_aload_n hx hb dX5_told_52 rfl (lv_at hl 0 rfl) ?_
    refine va_get (D := D) (ci := 5) (v := .ref th) (C := RX5) (T := TX5) (N := 12) hx hb hts in_X5_told_X5 hown hK hP 0 rfl rfl 4 (by decide) (hts _ wd_X5_told_0) (fun _ h9 => h9) rfl dX5_told_53 ?_
    refine va_get (D := D) (ci := 1) (v := .int n0) (C := RX1) (T := TX1) (N := 4) hx hb hts in_X5_told_X1 hown hK hP 3 rfl rfl 1 (by decide) (hts _ wd_X5_told_1) (fun _ h9 => h9) rfl dX5_told_56 ?_
    exact W.iret (v := n0) hx hb hr (fun t ht hW => ⟨_, rfl, (by first | rfl | (unfold tldC; first | (simp []; done) | rfl)), ht⟩) (fun q hq => absurd hq List.not_mem_nil) dX5_told_59
  by_cases k1_2 : p0 = 1
  · subst k1_2
    refine lv_tableIn (off := 59) (tgt := 60) hx hb dX5_told_1 (by decide) (by decide) (by decide) (by decide) ?_
    refine lv_aload_n hx hb dX5_told_60 rfl (lv_at hl 0 rfl) ?_
    have hPc := hP.sub (ws' := [(h0, .inr (5, [.ref tr, .ref tc, .ref tg, .ref tf, .ref th, .ref tm, .ref to, .ref tp, .int up, .int bank, .long chain, .int (bI told)])), (tr, .inr (4, [.ref ur])), (ur, .inl (cI, 7, .inl w)), (th, .inr (1, [.ref uh, .int n0, .int sm, .int (bI ace)]))]) [0, 1, 2, 3] rfl
    refine vp_callSi (W.runV (As := []) (rest := []) ⟨hx, hb, hml, hown, hts⟩ (c_X5_handValue l D cI cJ cQ h0 tr tc tg tf th tm to tp up bank chain told ur (w) uh n0 sm ace) (cwV 0 hts gX5_told_X5_handValue rfl rfl rfl (by decide +kernel) ⟨Nat.le_of_ble_eq_true rfl, Nat.le_of_ble_eq_true rfl⟩) (rP_preV (ci := 5) (q0 := 0) hPc hK rfl rfl) rfl rfl hl.1 rfl (lv_room (Nat.le_of_ble_eq_true rfl)) dX5_told_61 ⟨Nat.le_of_ble_eq_true rfl, Nat.le_of_ble_eq_true rfl⟩) (fun r_3 hr_3 => ?_)
    subst hr_3
    exact W.iret (v := (vlC (w) sm ace)) hx hb hr (fun t ht hW => ⟨_, rfl, (by first | rfl | (unfold tldC; first | (simp []; done) | rfl)), ht⟩) (fun q hq => absurd hq List.not_mem_nil) dX5_told_64
  by_cases k2_4 : p0 = 2
  · subst k2_4
    refine lv_tableIn (off := 64) (tgt := 65) hx hb dX5_told_1 (by decide) (by decide) (by decide) (by decide) ?_
    refine lv_aload_n hx hb dX5_told_65 rfl (lv_at hl 0 rfl) ?_
    refine va_get (D := D) (ci := 5) (v := .ref tr) (C := RX5) (T := TX5) (N := 12) hx hb hts in_X5_told_X5 hown hK hP 0 rfl rfl 0 (by decide) (hts _ wd_X5_told_2) (fun _ h9 => h9) rfl dX5_told_66 ?_
    refine lv_aload_n hx hb dX5_told_69 rfl (lv_at hl 0 rfl) ?_
    refine va_get (D := D) (ci := 5) (v := .ref th) (C := RX5) (T := TX5) (N := 12) hx hb hts in_X5_told_X5 hown hK hP 0 rfl rfl 4 (by decide) (hts _ wd_X5_told_0) (fun _ h9 => h9) rfl dX5_told_70 ?_
    refine va_get (D := D) (ci := 1) (v := .int sm) (C := RX1) (T := TX1) (N := 4) hx hb hts in_X5_told_X1 hown hK hP 3 rfl rfl 2 (by decide) (hts _ wd_X5_told_3) (fun _ h9 => h9) rfl dX5_told_73 ?_
    refine lv_aload_n hx hb dX5_told_76 rfl (lv_at hl 0 rfl) ?_
    refine va_get (D := D) (ci := 5) (v := .ref th) (C := RX5) (T := TX5) (N := 12) hx hb hts in_X5_told_X5 hown hK hP 0 rfl rfl 4 (by decide) (hts _ wd_X5_told_0) (fun _ h9 => h9) rfl dX5_told_77 ?_
    refine va_get (D := D) (ci := 1) (v := .int (bI ace)) (C := RX1) (T := TX1) (N := 4) hx hb hts in_X5_told_X1 hown hK hP 3 rfl rfl 3 (by decide) (hts _ wd_X5_told_4) (fun _ h9 => h9) rfl dX5_told_80 ?_
    have hPc := hP.sub (ws' := [(tr, .inr (4, [.ref ur])), (ur, .inl (cI, 7, .inl w))]) [1, 2] rfl
    refine vp_callSi (W.runV (As := [.int sm, .int (bI ace)]) (rest := []) ⟨hx, hb, hml, hown, hts⟩ (c_X4_isSoftV l D cI cJ cQ tr ur (w) sm ace) (cwV 2 hts gX5_told_X4_isSoft rfl rfl rfl (by decide +kernel) ⟨Nat.le_of_ble_eq_true rfl, Nat.le_of_ble_eq_true rfl⟩) (rP_preV (ci := 4) (q0 := 0) hPc hK rfl rfl) rfl rfl hl.1 rfl (lv_room (Nat.le_of_ble_eq_true rfl)) dX5_told_83 ⟨Nat.le_of_ble_eq_true rfl, Nat.le_of_ble_eq_true rfl⟩) (fun r_5 hr_5 => ?_)
    subst hr_5
    have hPc := hP.sub (ws' := []) [] rfl
    refine vp_callSi (W.runS (As := [.int (sfC (w) sm ace)]) (rest := []) ⟨hx, hb, hml, hown, hts⟩ (c_X5_asNumber l D cI cJ cQ (sfC (w) sm ace)) (va_cwS 1 hts gX5_told_X5_asNumber rfl rfl rfl (by decide +kernel) ⟨Nat.le_of_ble_eq_true rfl, Nat.le_of_ble_eq_true rfl⟩) (rP_preS hPc hK) rfl rfl hl.1 rfl (lv_room (Nat.le_of_ble_eq_true rfl)) dX5_told_86 ⟨Nat.le_of_ble_eq_true rfl, Nat.le_of_ble_eq_true rfl⟩) (fun r_6 hr_6 => ?_)
    subst hr_6
    exact W.iret (v := (nuB (sfC (w) sm ace))) hx hb hr (fun t ht hW => ⟨_, rfl, (by first | rfl | (unfold tldC; first | (simp []; done) | rfl)), ht⟩) (fun q hq => absurd hq List.not_mem_nil) dX5_told_89
  by_cases k3_7 : p0 = 3
  · subst k3_7
    refine lv_tableIn (off := 89) (tgt := 90) hx hb dX5_told_1 (by decide) (by decide) (by decide) (by decide) ?_
    refine lv_aload_n hx hb dX5_told_90 rfl (lv_at hl 0 rfl) ?_
    refine va_get (D := D) (ci := 5) (v := .ref tr) (C := RX5) (T := TX5) (N := 12) hx hb hts in_X5_told_X5 hown hK hP 0 rfl rfl 0 (by decide) (hts _ wd_X5_told_2) (fun _ h9 => h9) rfl dX5_told_91 ?_
    refine lv_aload_n hx hb dX5_told_94 rfl (lv_at hl 0 rfl) ?_
    have hPc := hP.sub (ws' := [(h0, .inr (5, [.ref tr, .ref tc, .ref tg, .ref tf, .ref th, .ref tm, .ref to, .ref tp, .int up, .int bank, .long chain, .int (bI told)])), (tr, .inr (4, [.ref ur])), (ur, .inl (cI, 7, .inl w)), (th, .inr (1, [.ref uh, .int n0, .int sm, .int (bI ace)]))]) [0, 1, 2, 3] rfl
    refine vp_callSi (W.runV (As := []) (rest := [.ref tr]) ⟨hx, hb, hml, hown, hts⟩ (c_X5_handValue l D cI cJ cQ h0 tr tc tg tf th tm to tp up bank chain told ur (w) uh n0 sm ace) (cwV 0 hts gX5_told_X5_handValue rfl rfl rfl (by decide +kernel) ⟨Nat.le_of_ble_eq_true rfl, Nat.le_of_ble_eq_true rfl⟩) (rP_preV (ci := 5) (q0 := 0) hPc hK rfl rfl) rfl rfl hl.1 rfl (lv_room (Nat.le_of_ble_eq_true rfl)) dX5_told_95 ⟨Nat.le_of_ble_eq_true rfl, Nat.le_of_ble_eq_true rfl⟩) (fun r_8 hr_8 => ?_)
    subst hr_8
    refine lv_aload_n hx hb dX5_told_98 rfl (lv_at hl 0 rfl) ?_
    refine va_get (D := D) (ci := 5) (v := .ref th) (C := RX5) (T := TX5) (N := 12) hx hb hts in_X5_told_X5 hown hK hP 0 rfl rfl 4 (by decide) (hts _ wd_X5_told_0) (fun _ h9 => h9) rfl dX5_told_99 ?_
    refine va_get (D := D) (ci := 1) (v := .int n0) (C := RX1) (T := TX1) (N := 4) hx hb hts in_X5_told_X1 hown hK hP 3 rfl rfl 1 (by decide) (hts _ wd_X5_told_1) (fun _ h9 => h9) rfl dX5_told_102 ?_
    have hPc := hP.sub (ws' := [(tr, .inr (4, [.ref ur])), (ur, .inl (cI, 7, .inl w))]) [1, 2] rfl
    refine vp_callSi (W.runV (As := [.int (vlC (w) sm ace), .int n0]) (rest := []) ⟨hx, hb, hml, hown, hts⟩ (c_X4_isNaturalV l D cI cJ cQ tr ur (w) (vlC (w) sm ace) n0) (cwV 2 hts gX5_told_X4_isNatural rfl rfl rfl (by decide +kernel) ⟨Nat.le_of_ble_eq_true rfl, Nat.le_of_ble_eq_true rfl⟩) (rP_preV (ci := 4) (q0 := 0) hPc hK rfl rfl) rfl rfl hl.1 rfl (lv_room (Nat.le_of_ble_eq_true rfl)) dX5_told_105 ⟨Nat.le_of_ble_eq_true rfl, Nat.le_of_ble_eq_true rfl⟩) (fun r_9 hr_9 => ?_)
    subst hr_9
    have hPc := hP.sub (ws' := []) [] rfl
    refine vp_callSi (W.runS (As := [.int (naC (w) (vlC (w) sm ace) n0)]) (rest := []) ⟨hx, hb, hml, hown, hts⟩ (c_X5_asNumber l D cI cJ cQ (naC (w) (vlC (w) sm ace) n0)) (va_cwS 1 hts gX5_told_X5_asNumber rfl rfl rfl (by decide +kernel) ⟨Nat.le_of_ble_eq_true rfl, Nat.le_of_ble_eq_true rfl⟩) (rP_preS hPc hK) rfl rfl hl.1 rfl (lv_room (Nat.le_of_ble_eq_true rfl)) dX5_told_108 ⟨Nat.le_of_ble_eq_true rfl, Nat.le_of_ble_eq_true rfl⟩) (fun r_10 hr_10 => ?_)
    subst hr_10
    exact W.iret (v := (nuB (naC (w) (vlC (w) sm ace) n0))) hx hb hr (fun t ht hW => ⟨_, rfl, (by first | rfl | (unfold tldC; first | (simp []; done) | rfl)), ht⟩) (fun q hq => absurd hq List.not_mem_nil) dX5_told_111
  by_cases k4_11 : p0 = 4
  · subst k4_11
    refine lv_tableIn (off := 111) (tgt := 112) hx hb dX5_told_1 (by decide) (by decide) (by decide) (by decide) ?_
    refine lv_aload_n hx hb dX5_told_112 rfl (lv_at hl 0 rfl) ?_
    refine va_get (D := D) (ci := 5) (v := .ref tr) (C := RX5) (T := TX5) (N := 12) hx hb hts in_X5_told_X5 hown hK hP 0 rfl rfl 0 (by decide) (hts _ wd_X5_told_2) (fun _ h9 => h9) rfl dX5_told_113 ?_
    refine lv_aload_n hx hb dX5_told_116 rfl (lv_at hl 0 rfl) ?_
    refine va_get (D := D) (ci := 5) (v := .ref th) (C := RX5) (T := TX5) (N := 12) hx hb hts in_X5_told_X5 hown hK hP 0 rfl rfl 4 (by decide) (hts _ wd_X5_told_0) (fun _ h9 => h9) rfl dX5_told_117 ?_
    refine va_get (D := D) (ci := 1) (v := .int sm) (C := RX1) (T := TX1) (N := 4) hx hb hts in_X5_told_X1 hown hK hP 3 rfl rfl 2 (by decide) (hts _ wd_X5_told_3) (fun _ h9 => h9) rfl dX5_told_120 ?_
    have hPc := hP.sub (ws' := [(tr, .inr (4, [.ref ur])), (ur, .inl (cI, 7, .inl w))]) [1, 2] rfl
    refine vp_callSi (W.runV (As := [.int sm]) (rest := []) ⟨hx, hb, hml, hown, hts⟩ (c_X4_isBustV l D cI cJ cQ tr ur (w) sm) (cwV 1 hts gX5_told_X4_isBust rfl rfl rfl (by decide +kernel) ⟨Nat.le_of_ble_eq_true rfl, Nat.le_of_ble_eq_true rfl⟩) (rP_preV (ci := 4) (q0 := 0) hPc hK rfl rfl) rfl rfl hl.1 rfl (lv_room (Nat.le_of_ble_eq_true rfl)) dX5_told_123 ⟨Nat.le_of_ble_eq_true rfl, Nat.le_of_ble_eq_true rfl⟩) (fun r_12 hr_12 => ?_)
    subst hr_12
    have hPc := hP.sub (ws' := []) [] rfl
    refine vp_callSi (W.runS (As := [.int (buC (w) sm)]) (rest := []) ⟨hx, hb, hml, hown, hts⟩ (c_X5_asNumber l D cI cJ cQ (buC (w) sm)) (va_cwS 1 hts gX5_told_X5_asNumber rfl rfl rfl (by decide +kernel) ⟨Nat.le_of_ble_eq_true rfl, Nat.le_of_ble_eq_true rfl⟩) (rP_preS hPc hK) rfl rfl hl.1 rfl (lv_room (Nat.le_of_ble_eq_true rfl)) dX5_told_126 ⟨Nat.le_of_ble_eq_true rfl, Nat.le_of_ble_eq_true rfl⟩) (fun r_13 hr_13 => ?_)
    subst hr_13
    exact W.iret (v := (nuB (buC (w) sm))) hx hb hr (fun t ht hW => ⟨_, rfl, (by first | rfl | (unfold tldC; first | (simp []; done) | rfl)), ht⟩) (fun q hq => absurd hq List.not_mem_nil) dX5_told_129
  by_cases k5_14 : p0 = 5
  · subst k5_14
    refine lv_tableIn (off := 129) (tgt := 130) hx hb dX5_told_1 (by decide) (by decide) (by decide) (by decide) ?_
    refine lv_aload_n hx hb dX5_told_130 rfl (lv_at hl 0 rfl) ?_
    refine va_get (D := D) (ci := 5) (v := .int up) (C := RX5) (T := TX5) (N := 12) hx hb hts in_X5_told_X5 hown hK hP 0 rfl rfl 8 (by decide) (hts _ wd_X5_told_5) (fun _ h9 => h9) rfl dX5_told_131 ?_
    exact W.iret (v := up) hx hb hr (fun t ht hW => ⟨_, rfl, (by first | rfl | (unfold tldC; first | (simp []; done) | rfl)), ht⟩) (fun q hq => absurd hq List.not_mem_nil) dX5_told_134
  by_cases k6_15 : p0 = 6
  · subst k6_15
    refine lv_tableIn (off := 134) (tgt := 135) hx hb dX5_told_1 (by decide) (by decide) (by decide) (by decide) ?_
    refine lv_aload_n hx hb dX5_told_135 rfl (lv_at hl 0 rfl) ?_
    have hPc := hP.sub (ws' := [(h0, .inr (5, [.ref tr, .ref tc, .ref tg, .ref tf, .ref th, .ref tm, .ref to, .ref tp, .int up, .int bank, .long chain, .int (bI told)])), (tg, .inr (0, [.ref ug, .int totg])), (ug, .inl (cI, 11, .inl fg)), (tm, .inl (cI, 11, .inl mk))]) [0, 5, 6, 7] rfl
    refine vp_callSi (W.runV (As := []) (rest := []) ⟨hx, hb, hml, hown, hts⟩ (c_X5_countOfGone l D cI cJ cQ h0 tr tc tg tf th tm to tp up bank chain told ug totg (fg) (mk)) (cwV 0 hts gX5_told_X5_countOfGone rfl rfl rfl (by decide +kernel) ⟨Nat.le_of_ble_eq_true rfl, Nat.le_of_ble_eq_true rfl⟩) (rP_preV (ci := 5) (q0 := 0) hPc hK rfl rfl) rfl rfl hl.1 rfl (lv_room (Nat.le_of_ble_eq_true rfl)) dX5_told_136 ⟨Nat.le_of_ble_eq_true rfl, Nat.le_of_ble_eq_true rfl⟩) (fun r_16 hr_16 => ?_)
    subst hr_16
    exact W.iret (v := (cntG (mk) (fg))) hx hb hr (fun t ht hW => ⟨_, rfl, (by first | rfl | (unfold tldC; first | (simp []; done) | rfl)), ht⟩) (fun q hq => absurd hq List.not_mem_nil) dX5_told_139
  by_cases k7_17 : p0 = 7
  · subst k7_17
    refine lv_tableIn (off := 139) (tgt := 140) hx hb dX5_told_1 (by decide) (by decide) (by decide) (by decide) ?_
    refine lv_aload_n hx hb dX5_told_140 rfl (lv_at hl 0 rfl) ?_
    refine va_get (D := D) (ci := 5) (v := .int bank) (C := RX5) (T := TX5) (N := 12) hx hb hts in_X5_told_X5 hown hK hP 0 rfl rfl 9 (by decide) (hts _ wd_X5_told_6) (fun _ h9 => h9) rfl dX5_told_141 ?_
    exact W.iret (v := bank) hx hb hr (fun t ht hW => ⟨_, rfl, (by first | rfl | (unfold tldC; first | (simp []; done) | rfl)), ht⟩) (fun q hq => absurd hq List.not_mem_nil) dX5_told_144
  by_cases k8_18 : p0 = 8
  · subst k8_18
    refine lv_tableIn (off := 144) (tgt := 145) hx hb dX5_told_1 (by decide) (by decide) (by decide) (by decide) ?_
    refine lv_aload_n hx hb dX5_told_145 rfl (lv_at hl 0 rfl) ?_
    refine va_get (D := D) (ci := 5) (v := .ref tg) (C := RX5) (T := TX5) (N := 12) hx hb hts in_X5_told_X5 hown hK hP 0 rfl rfl 2 (by decide) (hts _ wd_X5_told_7) (fun _ h9 => h9) rfl dX5_told_146 ?_
    refine va_get (D := D) (ci := 0) (v := .int totg) (C := RX0) (T := TX0) (N := 2) hx hb hts in_X5_told_X0 hown hK hP 5 rfl rfl 1 (by decide) (hts _ wd_X5_told_8) (fun _ h9 => h9) rfl dX5_told_149 ?_
    exact W.iret (v := totg) hx hb hr (fun t ht hW => ⟨_, rfl, (by first | rfl | (unfold tldC; first | (simp []; done) | rfl)), ht⟩) (fun q hq => absurd hq List.not_mem_nil) dX5_told_152
  refine lv_tableOut (tgt := 153) hx hb dX5_told_1 (by have := lv_neT k0_1 (a := 0) (by decide); have := lv_neT k1_2 (a := 1) (by decide); have := lv_neT k2_4 (a := 2) (by decide); have := lv_neT k3_7 (a := 3) (by decide); have := lv_neT k4_11 (a := 4) (by decide); have := lv_neT k5_14 (a := 5) (by decide); have := lv_neT k6_15 (a := 6) (by decide); have := lv_neT k7_17 (a := 7) (by decide); have := lv_neT k8_18 (a := 8) (by decide); omega) (by decide) ?_
  refine lv_iload_n hx hb dX5_told_153 rfl (lv_at hl 1 rfl) ?_
  refine lv_bipush (v := 10) hx hb dX5_told_154 (by decide) ?_
  refine lv_icmp_lt (tgt := 179) hx hb dX5_told_156 (by decide) (fun c156_19 => ?_) (fun c156_19 => ?_)
  · skip
    refine lv_sipush (v := (-1001)) hx hb dX5_told_179 (by decide) ?_
    exact W.iret (v := (-1001)) hx hb hr (fun t ht hW => ⟨_, rfl, (by first | rfl | (unfold tldC; first | (simp [k0_1, k1_2, k2_4, k3_7, k4_11, k5_14, k6_15, k7_17, k8_18, c156_19]; done) | ((try first | rw [if_pos k0_1] | rw [if_neg k0_1]); (try first | rw [if_pos k1_2] | rw [if_neg k1_2]); (try first | rw [if_pos k2_4] | rw [if_neg k2_4]); (try first | rw [if_pos k3_7] | rw [if_neg k3_7]); (try first | rw [if_pos k4_11] | rw [if_neg k4_11]); (try first | rw [if_pos k5_14] | rw [if_neg k5_14]); (try first | rw [if_pos k6_15] | rw [if_neg k6_15]); (try first | rw [if_pos k7_17] | rw [if_neg k7_17]); (try first | rw [if_pos k8_18] | rw [if_neg k8_18]); (try first | rw [if_pos c156_19] | rw [if_neg c156_19]); first | done | rfl | trivial))), ht⟩) (fun q hq => absurd hq List.not_mem_nil) dX5_told_182
  · skip
    refine lv_iload_n hx hb dX5_told_159 rfl (lv_at hl 1 rfl) ?_
    refine lv_bipush (v := 22) hx hb dX5_told_160 (by decide) ?_
    refine lv_icmp_ge (tgt := 179) hx hb dX5_told_162 (by decide) (fun c162_20 => ?_) (fun c162_20 => ?_)
    · skip
      refine lv_sipush (v := (-1001)) hx hb dX5_told_179 (by decide) ?_
      exact W.iret (v := (-1001)) hx hb hr (fun t ht hW => ⟨_, rfl, (by first | rfl | (unfold tldC; first | (simp [k0_1, k1_2, k2_4, k3_7, k4_11, k5_14, k6_15, k7_17, k8_18, c156_19, c162_20]; done) | ((try first | rw [if_pos k0_1] | rw [if_neg k0_1]); (try first | rw [if_pos k1_2] | rw [if_neg k1_2]); (try first | rw [if_pos k2_4] | rw [if_neg k2_4]); (try first | rw [if_pos k3_7] | rw [if_neg k3_7]); (try first | rw [if_pos k4_11] | rw [if_neg k4_11]); (try first | rw [if_pos k5_14] | rw [if_neg k5_14]); (try first | rw [if_pos k6_15] | rw [if_neg k6_15]); (try first | rw [if_pos k7_17] | rw [if_neg k7_17]); (try first | rw [if_pos k8_18] | rw [if_neg k8_18]); (try first | rw [if_pos c156_19] | rw [if_neg c156_19]); (try first | rw [if_pos c162_20] | rw [if_neg c162_20]); first | done | rfl | trivial))), ht⟩) (fun q hq => absurd hq List.not_mem_nil) dX5_told_182
    · skip
      refine lv_aload_n hx hb dX5_told_165 rfl (lv_at hl 0 rfl) ?_
      refine va_get (D := D) (ci := 5) (v := .ref th) (C := RX5) (T := TX5) (N := 12) hx hb hts in_X5_told_X5 hown hK hP 0 rfl rfl 4 (by decide) (hts _ wd_X5_told_0) (fun _ h9 => h9) rfl dX5_told_166 ?_
      refine lv_iload_n hx hb dX5_told_169 rfl (lv_at hl 1 rfl) ?_
      refine lv_bipush (v := 10) hx hb dX5_told_170 (by decide) ?_
      refine lv_isub hx hb dX5_told_172 ?_
      have hPc := hP.sub (ws' := [(th, .inr (1, [.ref uh, .int n0, .int sm, .int (bI ace)])), (uh, .inl (cI, 12, .inl g))]) [3, 4] rfl
      refine vp_callSi (W.runV (As := [.int (p0 - 10)]) (rest := []) ⟨hx, hb, hml, hown, hts⟩ (c_X1_cardV l D cI cJ cQ th uh n0 sm ace (g) (p0 - 10) hn) (cwV 1 hts gX5_told_X1_card rfl rfl rfl (by decide +kernel) ⟨Nat.le_of_ble_eq_true rfl, Nat.le_of_ble_eq_true rfl⟩) (rP_preV (ci := 1) (q0 := 0) hPc hK rfl rfl) rfl rfl hl.1 rfl (lv_room (Nat.le_of_ble_eq_true rfl)) dX5_told_173 ⟨Nat.le_of_ble_eq_true rfl, Nat.le_of_ble_eq_true rfl⟩) (fun r_21 hr_21 => ?_)
      subst hr_21
      refine lv_goto (tgt := 182) hx hb dX5_told_176 (by decide) ?_
      exact W.iret (v := (crdC (g) n0 (p0 - 10))) hx hb hr (fun t ht hW => ⟨_, rfl, (by first | rfl | (unfold tldC; first | (simp [k0_1, k1_2, k2_4, k3_7, k4_11, k5_14, k6_15, k7_17, k8_18, c156_19, c162_20]; done) | ((try first | rw [if_pos k0_1] | rw [if_neg k0_1]); (try first | rw [if_pos k1_2] | rw [if_neg k1_2]); (try first | rw [if_pos k2_4] | rw [if_neg k2_4]); (try first | rw [if_pos k3_7] | rw [if_neg k3_7]); (try first | rw [if_pos k4_11] | rw [if_neg k4_11]); (try first | rw [if_pos k5_14] | rw [if_neg k5_14]); (try first | rw [if_pos k6_15] | rw [if_neg k6_15]); (try first | rw [if_pos k7_17] | rw [if_neg k7_17]); (try first | rw [if_pos k8_18] | rw [if_neg k8_18]); (try first | rw [if_pos c156_19] | rw [if_neg c156_19]); (try first | rw [if_pos c162_20] | rw [if_neg c162_20]); first | done | rfl | trivial))), ht⟩) (fun q hq => absurd hq List.not_mem_nil) dX5_told_182
