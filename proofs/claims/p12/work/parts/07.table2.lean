set_option maxHeartbeats 400000 in
set_option maxRecDepth 100000 in
/-- X0_count -/
theorem c_X0_countV (l : Launch) (D : va_G) (cI cJ cQ : ClassId) (h0 : Nat) (h1 : Nat) (tot : Int32) (f : Nat → Int32) (p0 : Int32) (hp : ¬ rkB p0 = 0) : Met l yX0_count wsX0_count ({ frames := 0, cells := 0, slots := 0, locals := 0 }) (va_Pc [.ref h0, .int p0] (rP D (gTy cI cJ cQ) [(h0, .inr (0, [.ref h1, .int tot])), (h1, .inl (cI, 11, .inl f))])) (vp_Si (fun r => r = f p0.toNatClampNeg)) 0 0 (fun _ => False) := by
  refine Met.ofW (cc := cX0_count) (maxL := 2) (ret := (some .int)) (by decide) rfl ?_
  intro p e s m args below meth c s₁ B hml hv
  obtain ⟨rfl, hP, hK⟩ := hv
  have hx := B.exec
  have hb := B.bytes
  have hr := B.returns
  have hts := atoms_spec (ws := wsX0_count) B.pre
  have hown : s.vm.findClass RX0 = some m.cls := findClass_of_methodNamed B.named
  have hlocks := B.notSynchronized
  have hl := lv_entry ([.ref h0, .int p0]) (n := 2) (Nat.le_of_ble_eq_true rfl)
  rw [lg_entry_eq]
  generalize (lg_sl ([.ref h0, .int p0]) ++ List.replicate (2 - (lg_sl ([.ref h0, .int p0])).length) Slot.unset).toArray = ls at hl ⊢
  have hl : lv_has ls 2 [(0, .ref h0), (1, .int p0)] := hl
  refine lv_iload_n hx hb dX0_count_0 rfl (lv_at hl 1 rfl) ?_
  refine lv_iconst (v := 1) hx hb dX0_count_1 (by decide) ?_
  refine lv_icmp_lt (tgt := 20) hx hb dX0_count_2 (by decide) (fun c2_1 => ?_) (fun c2_1 => ?_)
  · exact absurd c2_1 (rkB_rng hp).1
  refine lv_iload_n hx hb dX0_count_5 rfl (lv_at hl 1 rfl) ?_
  refine lv_bipush (v := 10) hx hb dX0_count_6 (by decide) ?_
  refine lv_icmp_gt (tgt := 20) hx hb dX0_count_8 (by decide) (fun c8_2 => ?_) (fun c8_2 => ?_)
  · exact absurd c8_2 (rkB_rng hp).2
  refine lv_aload_n hx hb dX0_count_11 rfl (lv_at hl 0 rfl) ?_
  refine va_get (D := D) (ci := 0) (v := .ref h1) (C := RX0) (T := TX0) (N := 2) hx hb hts in_X0_count_X0 hown hK hP 0 rfl rfl 0 (by decide) (hts _ wd_X0_count_0) (fun _ h9 => h9) rfl dX0_count_12 ?_
  refine lv_iload_n hx hb dX0_count_15 rfl (lv_at hl 1 rfl) ?_
  refine va_iald hx hb hK hP 1 0 rfl rfl (rkB_in hp) dX0_count_16 ?_
  refine lv_goto (tgt := 21) hx hb dX0_count_17 (by decide) ?_
  exact W.iret (v := (f p0.toNatClampNeg)) hx hb hr (fun t ht hW => ⟨_, rfl, (by first | rfl | trivial | (simp [c2_1, c8_2]; done) | ((try first | rw [if_pos c2_1] | rw [if_neg c2_1]); (try first | rw [if_pos c8_2] | rw [if_neg c8_2]); first | done | rfl | trivial) | (simp_all; done)), ht⟩) (fun q hq => absurd hq List.not_mem_nil) dX0_count_21

set_option maxHeartbeats 400000 in
set_option maxRecDepth 100000 in
/-- X1_isFull -/
theorem c_X1_isFullV (l : Launch) (D : va_G) (cI cJ cQ : ClassId) (h0 : Nat) (h1 : Nat) (n0 : Int32) (sm : Int32) (ace : Bool) (g : Nat → Int32)  : Met l yX1_isFull wsX1_isFull ({ frames := 0, cells := 0, slots := 0, locals := 0 }) (va_Pc [.ref h0] (rP D (gTy cI cJ cQ) [(h0, .inr (1, [.ref h1, .int n0, .int sm, .int (bI ace)])), (h1, .inl (cI, 12, .inl g))])) (vp_Si (fun r => r = flB n0)) 0 0 (fun _ => False) := by
  refine Met.ofW (cc := cX1_isFull) (maxL := 1) (ret := (some .boolean)) (by decide) rfl ?_
  intro p e s m args below meth c s₁ B hml hv
  obtain ⟨rfl, hP, hK⟩ := hv
  have hx := B.exec
  have hb := B.bytes
  have hr := B.returns
  have hts := atoms_spec (ws := wsX1_isFull) B.pre
  have hown : s.vm.findClass RX1 = some m.cls := findClass_of_methodNamed B.named
  have hlocks := B.notSynchronized
  have hl := lv_entry ([.ref h0]) (n := 1) (Nat.le_of_ble_eq_true rfl)
  rw [lg_entry_eq]
  generalize (lg_sl ([.ref h0]) ++ List.replicate (1 - (lg_sl ([.ref h0])).length) Slot.unset).toArray = ls at hl ⊢
  have hl : lv_has ls 1 [(0, .ref h0)] := hl
  refine lv_aload_n hx hb dX1_isFull_0 rfl (lv_at hl 0 rfl) ?_
  refine va_get (D := D) (ci := 1) (v := .int n0) (C := RX1) (T := TX1) (N := 4) hx hb hts in_X1_isFull_X1 hown hK hP 0 rfl rfl 1 (by decide) (hts _ wd_X1_isFull_0) (fun _ h9 => h9) rfl dX1_isFull_1 ?_
  refine lv_bipush (v := 12) hx hb dX1_isFull_4 (by decide) ?_
  refine lv_icmp_lt (tgt := 13) hx hb dX1_isFull_6 (by decide) (fun c6_1 => ?_) (fun c6_1 => ?_)
  · skip
    refine lv_iconst (v := 0) hx hb dX1_isFull_13 (by decide) ?_
    exact W.zret (v := 0) hx hb hr rfl (fun t ht hW => ⟨_, rfl, (by unfold flB; first | (simp [c6_1]; done) | ((try first | rw [if_pos c6_1] | rw [if_neg c6_1]); first | done | rfl | trivial)), ht⟩) (fun q hq => absurd hq List.not_mem_nil) dX1_isFull_14
  · skip
    refine lv_iconst (v := 1) hx hb dX1_isFull_9 (by decide) ?_
    refine lv_goto (tgt := 14) hx hb dX1_isFull_10 (by decide) ?_
    exact W.zret (v := 1) hx hb hr rfl (fun t ht hW => ⟨_, rfl, (by unfold flB; first | (simp [c6_1]; done) | ((try first | rw [if_pos c6_1] | rw [if_neg c6_1]); first | done | rfl | trivial)), ht⟩) (fun q hq => absurd hq List.not_mem_nil) dX1_isFull_14

set_option maxRecDepth 20000 in
theorem in_X5_take_X5 : ∀ w ∈ wsX50, w ∈ wsX5_take := by decide +kernel
set_option maxRecDepth 20000 in
theorem wd_X5_take_0 : Cond.fieldLink RX5 19 "ShoeTable" "cards" "LShoeTable$Cards;" ∈ wsX5_take := by decide +kernel
set_option maxRecDepth 20000 in
theorem wd_X5_take_1 : Cond.fieldLink RX5 32 "ShoeTable" "hand" "LShoeTable$Hand;" ∈ wsX5_take := by decide +kernel
set_option maxRecDepth 20000 in
theorem in_X5_take_X1 : ∀ w ∈ wsX10, w ∈ wsX5_take := by decide +kernel
set_option maxRecDepth 20000 in
theorem wd_X5_take_2 : Cond.fieldLink RX5 112 "ShoeTable$Hand" "size" "I" ∈ wsX5_take := by decide +kernel
set_option maxHeartbeats 400000 in
set_option maxRecDepth 100000 in
/-- X5_take -/
theorem c_X5_take (l : Launch) (D : va_G) (cI cJ cQ : ClassId) (sz : Nat) (h0 : Nat) (tr : Nat) (tc : Nat) (tg : Nat) (tf : Nat) (th : Nat) (tm : Nat) (to : Nat) (tp : Nat) (up : Int32) (bank : Int32) (chain : Int64) (told : Bool) (uc : Nat) (tot : Int32) (f : Nat → Int32) (ug : Nat) (totg : Int32) (fg : Nat → Int32) (uh : Nat) (n0 : Int32) (sm : Int32) (ace : Bool) (g : Nat → Int32) (p0 : Int32) (p1 : Int32) (hn0 : ¬ n0 < 0) (hfp : ¬ rkB p0 = 0 → 0 ≤ f p0.toNatClampNeg) : Met l yX5_take wsX5_take ({ frames := 2, cells := 0, slots := 0, locals := 43 }) (va_Pc [.ref h0, .int p0, .int p1] (mP D (gTy cI cJ cQ) [(h0, .inr (5, [.ref tr, .ref tc, .ref tg, .ref tf, .ref th, .ref tm, .ref to, .ref tp, .int up, .int bank, .long chain, .int (bI told)])), (tc, .inr (0, [.ref uc, .int tot])), (uc, .inl (cI, 11, .inl f)), (tg, .inr (0, [.ref ug, .int totg])), (ug, .inl (cI, 11, .inl fg)), (th, .inr (1, [.ref uh, .int n0, .int sm, .int (bI ace)])), (uh, .inl (cI, 12, .inl g))] sz)) (va_Qi (fun (r : Int32) (u : Int32 × Int32 × (Nat → Int32) × Int32 × (Nat → Int32) × Int32 × Int32 × Bool × (Nat → Int32)) => match u with | (up2, tot2, f2, totg2, fg2, n2, sm2, ace2, g2) => if rkB p0 = 0 then r = -1001 ∧ up2 = up ∧ tot2 = tot ∧ f2 = f ∧ totg2 = totg ∧ fg2 = fg ∧ n2 = n0 ∧ sm2 = sm ∧ ace2 = ace ∧ g2 = g else if glB p1 = 0 then r = -1001 ∧ up2 = up ∧ tot2 = tot ∧ f2 = f ∧ totg2 = totg ∧ fg2 = fg ∧ n2 = n0 ∧ sm2 = sm ∧ ace2 = ace ∧ g2 = g else if f p0.toNatClampNeg = 0 then r = -1002 ∧ up2 = up ∧ tot2 = tot ∧ f2 = f ∧ totg2 = totg ∧ fg2 = fg ∧ n2 = n0 ∧ sm2 = sm ∧ ace2 = ace ∧ g2 = g else if p1 = 0 ∧ ¬ n0 < 12 then r = -1003 ∧ up2 = up ∧ tot2 = tot ∧ f2 = f ∧ totg2 = totg ∧ fg2 = fg ∧ n2 = n0 ∧ sm2 = sm ∧ ace2 = ace ∧ g2 = g else r = n2 ∧ tot2 = tot - 1 ∧ f2 = upd f p0.toNatClampNeg (f p0.toNatClampNeg - 1) ∧ totg2 = totg + 1 ∧ fg2 = upd fg p0.toNatClampNeg (fg p0.toNatClampNeg + 1) ∧ (if p1 = 0 then up2 = up ∧ (if n0 < 12 then n2 = n0 + 1 ∧ sm2 = sm + p0 ∧ ace2 = (ace || decide (p0 = 1)) ∧ g2 = upd g n0.toNatClampNeg p0 else n2 = n0 ∧ sm2 = sm ∧ ace2 = ace ∧ g2 = g) else if p1 = 1 then up2 = p0 ∧ n2 = n0 ∧ sm2 = sm ∧ ace2 = ace ∧ g2 = g else up2 = up ∧ n2 = n0 ∧ sm2 = sm ∧ ace2 = ace ∧ g2 = g)) (fun (u : Int32 × Int32 × (Nat → Int32) × Int32 × (Nat → Int32) × Int32 × Int32 × Bool × (Nat → Int32)) t => match u with | (up2, tot2, f2, totg2, fg2, n2, sm2, ace2, g2) => mB D (gTy cI cJ cQ) (va_A [(h0, .inr (5, [.ref tr, .ref tc, .ref tg, .ref tf, .ref th, .ref tm, .ref to, .ref tp, .int up, .int bank, .long chain, .int (bI told)])), (tc, .inr (0, [.ref uc, .int tot])), (uc, .inl (cI, 11, .inl f)), (tg, .inr (0, [.ref ug, .int totg])), (ug, .inl (cI, 11, .inl fg)), (th, .inr (1, [.ref uh, .int n0, .int sm, .int (bI ace)])), (uh, .inl (cI, 12, .inl g))] sz) [(h0, .inr (5, [.ref tr, .ref tc, .ref tg, .ref tf, .ref th, .ref tm, .ref to, .ref tp, .int up2, .int bank, .long chain, .int (bI told)])), (tc, .inr (0, [.ref uc, .int tot2])), (uc, .inl (cI, 11, .inl f2)), (tg, .inr (0, [.ref ug, .int totg2])), (ug, .inl (cI, 11, .inl fg2)), (th, .inr (1, [.ref uh, .int n2, .int sm2, .int (bI ace2)])), (uh, .inl (cI, 12, .inl g2))] t) (va_A [(h0, .inr (5, [.ref tr, .ref tc, .ref tg, .ref tf, .ref th, .ref tm, .ref to, .ref tp, .int up, .int bank, .long chain, .int (bI told)])), (tc, .inr (0, [.ref uc, .int tot])), (uc, .inl (cI, 11, .inl f)), (tg, .inr (0, [.ref ug, .int totg])), (ug, .inl (cI, 11, .inl fg)), (th, .inr (1, [.ref uh, .int n0, .int sm, .int (bI ace)])), (uh, .inl (cI, 12, .inl g))] sz)) 0 0 (va_A [(h0, .inr (5, [.ref tr, .ref tc, .ref tg, .ref tf, .ref th, .ref tm, .ref to, .ref tp, .int up, .int bank, .long chain, .int (bI told)])), (tc, .inr (0, [.ref uc, .int tot])), (uc, .inl (cI, 11, .inl f)), (tg, .inr (0, [.ref ug, .int totg])), (ug, .inl (cI, 11, .inl fg)), (th, .inr (1, [.ref uh, .int n0, .int sm, .int (bI ace)])), (uh, .inl (cI, 12, .inl g))] sz) := by
  refine Met.ofW (cc := cX5_take) (maxL := 3) (ret := (some .int)) (by decide) rfl ?_
  intro p e s m args below meth c s₁ B hml hv
  obtain ⟨rfl, hsz, hP, hK, hD0⟩ := hv
  have hx := B.exec
  have hb := B.bytes
  have hr := B.returns
  have hts := atoms_spec (ws := wsX5_take) B.pre
  have hown : s.vm.findClass RX5 = some m.cls := findClass_of_methodNamed B.named
  have hlocks := B.notSynchronized
  subst hsz
  have hD := hD0.self (sz := s.heap.size)
  generalize hAe : va_A [(h0, .inr (5, [.ref tr, .ref tc, .ref tg, .ref tf, .ref th, .ref tm, .ref to, .ref tp, .int up, .int bank, .long chain, .int (bI told)])), (tc, .inr (0, [.ref uc, .int tot])), (uc, .inl (cI, 11, .inl f)), (tg, .inr (0, [.ref ug, .int totg])), (ug, .inl (cI, 11, .inl fg)), (th, .inr (1, [.ref uh, .int n0, .int sm, .int (bI ace)])), (uh, .inl (cI, 12, .inl g))] s.heap.size = A at hD ⊢
  have hA : ∀ q : Nat, s.heap.size ≤ q → A q := fun q h => by rw [← hAe]; exact Or.inr h
  have hS : va_S A s.heap s.heap [] := va_S.rf
  have hP : va_P D vwCl [(h0, .inr (5, [.ref tr, .ref tc, .ref tg, .ref tf, .ref th, .ref tm, .ref to, .ref tp, .int up, .int bank, .long chain, .int (bI told)])), (tc, .inr (0, [.ref uc, .int tot])), (uc, .inl (cI, 11, .inl f)), (tg, .inr (0, [.ref ug, .int totg])), (ug, .inl (cI, 11, .inl fg)), (th, .inr (1, [.ref uh, .int n0, .int sm, .int (bI ace)])), (uh, .inl (cI, 12, .inl g))] s.heap := hP
  have hl := lv_entry ([.ref h0, .int p0, .int p1]) (n := 3) (Nat.le_of_ble_eq_true rfl)
  rw [lg_entry_eq]
  generalize (lg_sl ([.ref h0, .int p0, .int p1]) ++ List.replicate (3 - (lg_sl ([.ref h0, .int p0, .int p1])).length) Slot.unset).toArray = ls at hl ⊢
  have hl : lv_has ls 3 [(0, .ref h0), (1, .int p0), (2, .int p1)] := hl
  refine lv_iload_n hx hb dX5_take_0 rfl (lv_at hl 1 rfl) ?_
  have hPc := hP.sub (ws' := []) [] rfl
  refine vp_callSi (W.runS (As := [.int p0]) (rest := []) ⟨hx, hb, hml, hown, hts⟩ (c_X5_isRank l D cI cJ cQ p0) (va_cwS 1 hts gX5_take_X5_isRank rfl rfl rfl (by decide +kernel) ⟨Nat.le_of_ble_eq_true rfl, Nat.le_of_ble_eq_true rfl⟩) (rP_preS hPc hK) rfl rfl hl.1 rfl (lv_room (Nat.le_of_ble_eq_true rfl)) dX5_take_1 ⟨Nat.le_of_ble_eq_true rfl, Nat.le_of_ble_eq_true rfl⟩) (fun r_1 hr_1 => ?_)
  subst hr_1
  refine lv_if_eq (tgt := 14) hx hb dX5_take_4 (by decide) (fun c4_2 => ?_) (fun c4_2 => ?_)
  · skip
    refine lv_sipush (v := (-1001)) hx hb dX5_take_14 (by decide) ?_
    have hP9 := hP.sub (ws' := [(h0, .inr (5, [.ref tr, .ref tc, .ref tg, .ref tf, .ref th, .ref tm, .ref to, .ref tp, .int up, .int bank, .long chain, .int (bI told)])), (tc, .inr (0, [.ref uc, .int tot])), (uc, .inl (cI, 11, .inl f)), (tg, .inr (0, [.ref ug, .int totg])), (ug, .inl (cI, 11, .inl fg)), (th, .inr (1, [.ref uh, .int n0, .int sm, .int (bI ace)])), (uh, .inl (cI, 12, .inl g))]) [0, 1, 2, 3, 4, 5, 6] rfl
    have hD9 := hD.sub (ws' := [(h0, .inr (5, [.ref tr, .ref tc, .ref tg, .ref tf, .ref th, .ref tm, .ref to, .ref tp, .int up, .int bank, .long chain, .int (bI told)])), (tc, .inr (0, [.ref uc, .int tot])), (uc, .inl (cI, 11, .inl f)), (tg, .inr (0, [.ref ug, .int totg])), (ug, .inl (cI, 11, .inl fg)), (th, .inr (1, [.ref uh, .int n0, .int sm, .int (bI ace)])), (uh, .inl (cI, 12, .inl g))]) [0, 1, 2, 3, 4, 5, 6] (by decide) rfl
    exact W.iret (v := (-1001)) hx hb hr (fun t ht hW => ⟨⟨(-1001), (up, tot, (f), totg, (fg), n0, sm, ace, (g)), rfl, (by dsimp only; rw [if_pos c4_2]; exact ⟨rfl, rfl, rfl, rfl, rfl, rfl, rfl, rfl, rfl, rfl⟩), by rw [ht]; exact hP9, va_K.moved hW.alike hK, hD9⟩, hS.F ht⟩) hS.2.2 dX5_take_17
  · skip
    refine lv_iload_n hx hb dX5_take_7 rfl (lv_at hl 2 rfl) ?_
    have hPc := hP.sub (ws' := []) [] rfl
    refine vp_callSi (W.runS (As := [.int p1]) (rest := []) ⟨hx, hb, hml, hown, hts⟩ (c_X5_isGoal l D cI cJ cQ p1) (va_cwS 1 hts gX5_take_X5_isGoal rfl rfl rfl (by decide +kernel) ⟨Nat.le_of_ble_eq_true rfl, Nat.le_of_ble_eq_true rfl⟩) (rP_preS hPc hK) rfl rfl hl.1 rfl (lv_room (Nat.le_of_ble_eq_true rfl)) dX5_take_8 ⟨Nat.le_of_ble_eq_true rfl, Nat.le_of_ble_eq_true rfl⟩) (fun r_3 hr_3 => ?_)
    subst hr_3
    refine lv_if_ne (tgt := 18) hx hb dX5_take_11 (by decide) (fun c11_4 => ?_) (fun c11_4 => ?_)
    · skip
      refine lv_aload_n hx hb dX5_take_18 rfl (lv_at hl 0 rfl) ?_
      refine va_get (D := D) (ci := 5) (v := .ref tc) (C := RX5) (T := TX5) (N := 12) hx hb hts in_X5_take_X5 hown hK hP 0 rfl rfl 1 (by decide) (hts _ wd_X5_take_0) (fun _ h9 => h9) rfl dX5_take_19 ?_
      refine lv_iload_n hx hb dX5_take_22 rfl (lv_at hl 1 rfl) ?_
      have hPc := hP.sub (ws' := [(tc, .inr (0, [.ref uc, .int tot])), (uc, .inl (cI, 11, .inl f))]) [1, 2] rfl
      refine vp_callSi (W.runV (As := [.int p0]) (rest := []) ⟨hx, hb, hml, hown, hts⟩ (c_X0_countV l D cI cJ cQ tc uc tot (f) p0 c4_2) (cwV 1 hts gX5_take_X0_count rfl rfl rfl (by decide +kernel) ⟨Nat.le_of_ble_eq_true rfl, Nat.le_of_ble_eq_true rfl⟩) (rP_preV (ci := 0) (q0 := 0) hPc hK rfl rfl) rfl rfl hl.1 rfl (lv_room (Nat.le_of_ble_eq_true rfl)) dX5_take_23 ⟨Nat.le_of_ble_eq_true rfl, Nat.le_of_ble_eq_true rfl⟩) (fun r_5 hr_5 => ?_)
      subst hr_5
      refine lv_if_ne (tgt := 33) hx hb dX5_take_26 (by decide) (fun c26_6 => ?_) (fun c26_6 => ?_)
      · skip
        refine lv_iload_n hx hb dX5_take_33 rfl (lv_at hl 2 rfl) ?_
        refine lv_if_ne (tgt := 51) hx hb dX5_take_34 (by decide) (fun c34_7 => ?_) (fun c34_7 => ?_)
        · skip
          refine lv_aload_n hx hb dX5_take_51 rfl (lv_at hl 0 rfl) ?_
          refine lv_iload_n hx hb dX5_take_52 rfl (lv_at hl 1 rfl) ?_
          have hPc := hP.sub (ws' := [(h0, .inr (5, [.ref tr, .ref tc, .ref tg, .ref tf, .ref th, .ref tm, .ref to, .ref tp, .int up, .int bank, .long chain, .int (bI told)])), (tc, .inr (0, [.ref uc, .int tot])), (uc, .inl (cI, 11, .inl f)), (tg, .inr (0, [.ref ug, .int totg])), (ug, .inl (cI, 11, .inl fg))]) [0, 1, 2, 3, 4] rfl
          have hDc := hD.sub (ws' := [(h0, .inr (5, [.ref tr, .ref tc, .ref tg, .ref tf, .ref th, .ref tm, .ref to, .ref tp, .int up, .int bank, .long chain, .int (bI told)])), (tc, .inr (0, [.ref uc, .int tot])), (uc, .inl (cI, 11, .inl f)), (tg, .inr (0, [.ref ug, .int totg])), (ug, .inl (cI, 11, .inl fg))]) [0, 1, 2, 3, 4] (by decide) rfl
          have hFc := va_free (wc := [(h0, .inr (5, [.ref tr, .ref tc, .ref tg, .ref tf, .ref th, .ref tm, .ref to, .ref tp, .int up, .int bank, .long chain, .int (bI told)])), (tc, .inr (0, [.ref uc, .int tot])), (uc, .inl (cI, 11, .inl f)), (tg, .inr (0, [.ref ug, .int totg])), (ug, .inl (cI, 11, .inl fg))]) hD hS hA [0, 1, 2, 3, 4] rfl
          refine va_callv (va_runV (As := [.int p0]) (rest := []) ⟨hx, hb, hml, hown, hts⟩ (c_X5_moveOut l D cI cJ cQ _ h0 tr tc tg tf th tm to tp up bank chain told uc tot (f) ug totg (fg) p0 c4_2 (pos_ne (hfp c4_2) c26_6)) (cwV 1 hts gX5_take_X5_moveOut rfl rfl rfl (by decide +kernel) ⟨Nat.le_of_ble_eq_true rfl, Nat.le_of_ble_eq_true rfl⟩) (mP_preV (ci := 5) (q0 := 0) hPc hK hDc rfl rfl) rfl rfl hl.1 rfl (lv_room (Nat.le_of_ble_eq_true rfl)) dX5_take_53 ⟨Nat.le_of_ble_eq_true rfl, Nat.le_of_ble_eq_true rfl⟩) hS (fun q _ h => hFc q h) hFc (fun u_r_8 t H1 locs ht hvm hr_8 hB hz1 hk1 hS => ?_)
          obtain ⟨tot2_9, f2_10, totg2_11, fg2_12⟩ := u_r_8
          obtain ⟨hP1, hK1, hD1⟩ := hB
          rw [ht] at hP1
          try dsimp only at hr_8
          obtain ⟨hP, hD⟩ := va_join (wr := [(th, .inr (1, [.ref uh, .int n0, .int sm, .int (bI ace)])), (uh, .inl (cI, 12, .inl g))]) (w1 := [(h0, .inr (5, [.ref tr, .ref tc, .ref tg, .ref tf, .ref th, .ref tm, .ref to, .ref tp, .int up, .int bank, .long chain, .int (bI told)])), (tc, .inr (0, [.ref uc, .int tot2_9])), (uc, .inl (cI, 11, .inl f2_10)), (tg, .inr (0, [.ref ug, .int totg2_11])), (ug, .inl (cI, 11, .inl fg2_12))]) hP hD [0, 1, 2, 3, 4] [5, 6] rfl rfl (by decide) (by decide) hk1 hFc hP1 hD1
          generalize H1 = H at hP hS ⊢
          have hP : va_P D vwCl [(th, .inr (1, [.ref uh, .int n0, .int sm, .int (bI ace)])), (uh, .inl (cI, 12, .inl g)), (h0, .inr (5, [.ref tr, .ref tc, .ref tg, .ref tf, .ref th, .ref tm, .ref to, .ref tp, .int up, .int bank, .long chain, .int (bI told)])), (tc, .inr (0, [.ref uc, .int tot2_9])), (uc, .inl (cI, 11, .inl f2_10)), (tg, .inr (0, [.ref ug, .int totg2_11])), (ug, .inl (cI, 11, .inl fg2_12))] H := hP
          have hD : va_D A [(th, .inr (1, [.ref uh, .int n0, .int sm, .int (bI ace)])), (uh, .inl (cI, 12, .inl g)), (h0, .inr (5, [.ref tr, .ref tc, .ref tg, .ref tf, .ref th, .ref tm, .ref to, .ref tp, .int up, .int bank, .long chain, .int (bI told)])), (tc, .inr (0, [.ref uc, .int tot2_9])), (uc, .inl (cI, 11, .inl f2_10)), (tg, .inr (0, [.ref ug, .int totg2_11])), (ug, .inl (cI, 11, .inl fg2_12))] := hD
          refine lv_aload_n hx hb dX5_take_56 rfl (lv_at hl 0 rfl) ?_
          refine lv_iload_n hx hb dX5_take_57 rfl (lv_at hl 1 rfl) ?_
          refine lv_iload_n hx hb dX5_take_58 rfl (lv_at hl 2 rfl) ?_
          have hPc := hP.sub (ws' := [(h0, .inr (5, [.ref tr, .ref tc, .ref tg, .ref tf, .ref th, .ref tm, .ref to, .ref tp, .int up, .int bank, .long chain, .int (bI told)])), (th, .inr (1, [.ref uh, .int n0, .int sm, .int (bI ace)])), (uh, .inl (cI, 12, .inl g))]) [2, 0, 1] rfl
          have hDc := hD.sub (ws' := [(h0, .inr (5, [.ref tr, .ref tc, .ref tg, .ref tf, .ref th, .ref tm, .ref to, .ref tp, .int up, .int bank, .long chain, .int (bI told)])), (th, .inr (1, [.ref uh, .int n0, .int sm, .int (bI ace)])), (uh, .inl (cI, 12, .inl g))]) [2, 0, 1] (by decide) rfl
          have hFc := va_free (wc := [(h0, .inr (5, [.ref tr, .ref tc, .ref tg, .ref tf, .ref th, .ref tm, .ref to, .ref tp, .int up, .int bank, .long chain, .int (bI told)])), (th, .inr (1, [.ref uh, .int n0, .int sm, .int (bI ace)])), (uh, .inl (cI, 12, .inl g))]) hD hS hA [2, 0, 1] rfl
          refine va_callv (va_runV (As := [.int p0, .int p1]) (rest := []) ⟨hx, hb, hml, hown, hts⟩ (c_X5_bring l D cI cJ cQ _ h0 tr tc tg tf th tm to tp up bank chain told uh n0 sm ace (g) p0 p1 hn0) (cwV 2 hts gX5_take_X5_bring rfl rfl rfl (by decide +kernel) ⟨Nat.le_of_ble_eq_true rfl, Nat.le_of_ble_eq_true rfl⟩) (mP_preV (ci := 5) (q0 := 0) hPc hK hDc rfl rfl) rfl rfl hl.1 rfl (lv_room (Nat.le_of_ble_eq_true rfl)) dX5_take_59 ⟨Nat.le_of_ble_eq_true rfl, Nat.le_of_ble_eq_true rfl⟩) hS (fun q _ h => hFc q h) hFc (fun u_r_13 t H1 locs ht hvm hr_13 hB hz1 hk1 hS => ?_)
          obtain ⟨up2_14, n2_15, sm2_16, ace2_17, g2_18⟩ := u_r_13
          obtain ⟨hP1, hK1, hD1⟩ := hB
          rw [ht] at hP1
          try dsimp only at hr_13
          obtain ⟨hP, hD⟩ := va_join (wr := [(tc, .inr (0, [.ref uc, .int tot2_9])), (uc, .inl (cI, 11, .inl f2_10)), (tg, .inr (0, [.ref ug, .int totg2_11])), (ug, .inl (cI, 11, .inl fg2_12))]) (w1 := [(h0, .inr (5, [.ref tr, .ref tc, .ref tg, .ref tf, .ref th, .ref tm, .ref to, .ref tp, .int up2_14, .int bank, .long chain, .int (bI told)])), (th, .inr (1, [.ref uh, .int n2_15, .int sm2_16, .int (bI ace2_17)])), (uh, .inl (cI, 12, .inl g2_18))]) hP hD [2, 0, 1] [3, 4, 5, 6] rfl rfl (by decide) (by decide) hk1 hFc hP1 hD1
          generalize H1 = H at hP hS ⊢
          have hP : va_P D vwCl [(tc, .inr (0, [.ref uc, .int tot2_9])), (uc, .inl (cI, 11, .inl f2_10)), (tg, .inr (0, [.ref ug, .int totg2_11])), (ug, .inl (cI, 11, .inl fg2_12)), (h0, .inr (5, [.ref tr, .ref tc, .ref tg, .ref tf, .ref th, .ref tm, .ref to, .ref tp, .int up2_14, .int bank, .long chain, .int (bI told)])), (th, .inr (1, [.ref uh, .int n2_15, .int sm2_16, .int (bI ace2_17)])), (uh, .inl (cI, 12, .inl g2_18))] H := hP
          have hD : va_D A [(tc, .inr (0, [.ref uc, .int tot2_9])), (uc, .inl (cI, 11, .inl f2_10)), (tg, .inr (0, [.ref ug, .int totg2_11])), (ug, .inl (cI, 11, .inl fg2_12)), (h0, .inr (5, [.ref tr, .ref tc, .ref tg, .ref tf, .ref th, .ref tm, .ref to, .ref tp, .int up2_14, .int bank, .long chain, .int (bI told)])), (th, .inr (1, [.ref uh, .int n2_15, .int sm2_16, .int (bI ace2_17)])), (uh, .inl (cI, 12, .inl g2_18))] := hD
          refine lv_aload_n hx hb dX5_take_62 rfl (lv_at hl 0 rfl) ?_
          refine va_get (D := D) (ci := 5) (v := .ref th) (C := RX5) (T := TX5) (N := 12) hx hb hts in_X5_take_X5 hown hK hP 4 rfl rfl 4 (by decide) (hts _ wd_X5_take_1) (fun _ h9 => h9) rfl dX5_take_63 ?_
          refine va_get (D := D) (ci := 1) (v := .int n2_15) (C := RX1) (T := TX1) (N := 4) hx hb hts in_X5_take_X1 hown hK hP 5 rfl rfl 1 (by decide) (hts _ wd_X5_take_2) (fun _ h9 => h9) rfl dX5_take_66 ?_
          have hP9 := hP.sub (ws' := [(h0, .inr (5, [.ref tr, .ref tc, .ref tg, .ref tf, .ref th, .ref tm, .ref to, .ref tp, .int up2_14, .int bank, .long chain, .int (bI told)])), (tc, .inr (0, [.ref uc, .int tot2_9])), (uc, .inl (cI, 11, .inl f2_10)), (tg, .inr (0, [.ref ug, .int totg2_11])), (ug, .inl (cI, 11, .inl fg2_12)), (th, .inr (1, [.ref uh, .int n2_15, .int sm2_16, .int (bI ace2_17)])), (uh, .inl (cI, 12, .inl g2_18))]) [4, 0, 1, 2, 3, 5, 6] rfl
          have hD9 := hD.sub (ws' := [(h0, .inr (5, [.ref tr, .ref tc, .ref tg, .ref tf, .ref th, .ref tm, .ref to, .ref tp, .int up2_14, .int bank, .long chain, .int (bI told)])), (tc, .inr (0, [.ref uc, .int tot2_9])), (uc, .inl (cI, 11, .inl f2_10)), (tg, .inr (0, [.ref ug, .int totg2_11])), (ug, .inl (cI, 11, .inl fg2_12)), (th, .inr (1, [.ref uh, .int n2_15, .int sm2_16, .int (bI ace2_17)])), (uh, .inl (cI, 12, .inl g2_18))]) [4, 0, 1, 2, 3, 5, 6] (by decide) rfl
          exact W.iret (v := n2_15) hx hb hr (fun t ht hW => ⟨⟨n2_15, (up2_14, tot2_9, (f2_10), totg2_11, (fg2_12), n2_15, sm2_16, ace2_17, (g2_18)), rfl, (by dsimp only; rw [if_neg c4_2, if_neg c11_4, if_neg c26_6, if_neg (fun z => c34_7 z.1)]; exact ⟨rfl, hr_8.1, hr_8.2.1, hr_8.2.2.1, hr_8.2.2.2, hr_13⟩), by rw [ht]; exact hP9, va_K.moved hW.alike hK, hD9⟩, hS.F ht⟩) hS.2.2 dX5_take_69
        · skip
          refine lv_aload_n hx hb dX5_take_37 rfl (lv_at hl 0 rfl) ?_
          refine va_get (D := D) (ci := 5) (v := .ref th) (C := RX5) (T := TX5) (N := 12) hx hb hts in_X5_take_X5 hown hK hP 0 rfl rfl 4 (by decide) (hts _ wd_X5_take_1) (fun _ h9 => h9) rfl dX5_take_38 ?_
          have hPc := hP.sub (ws' := [(th, .inr (1, [.ref uh, .int n0, .int sm, .int (bI ace)])), (uh, .inl (cI, 12, .inl g))]) [5, 6] rfl
          refine vp_callSi (W.runV (As := []) (rest := []) ⟨hx, hb, hml, hown, hts⟩ (c_X1_isFullV l D cI cJ cQ th uh n0 sm ace (g)) (cwV 0 hts gX5_take_X1_isFull rfl rfl rfl (by decide +kernel) ⟨Nat.le_of_ble_eq_true rfl, Nat.le_of_ble_eq_true rfl⟩) (rP_preV (ci := 1) (q0 := 0) hPc hK rfl rfl) rfl rfl hl.1 rfl (lv_room (Nat.le_of_ble_eq_true rfl)) dX5_take_41 ⟨Nat.le_of_ble_eq_true rfl, Nat.le_of_ble_eq_true rfl⟩) (fun r_19 hr_19 => ?_)
          subst hr_19
          refine lv_if_eq (tgt := 51) hx hb dX5_take_44 (by decide) (fun c44_20 => ?_) (fun c44_20 => ?_)
          · skip
            refine lv_aload_n hx hb dX5_take_51 rfl (lv_at hl 0 rfl) ?_
            refine lv_iload_n hx hb dX5_take_52 rfl (lv_at hl 1 rfl) ?_
            have hPc := hP.sub (ws' := [(h0, .inr (5, [.ref tr, .ref tc, .ref tg, .ref tf, .ref th, .ref tm, .ref to, .ref tp, .int up, .int bank, .long chain, .int (bI told)])), (tc, .inr (0, [.ref uc, .int tot])), (uc, .inl (cI, 11, .inl f)), (tg, .inr (0, [.ref ug, .int totg])), (ug, .inl (cI, 11, .inl fg))]) [0, 1, 2, 3, 4] rfl
            have hDc := hD.sub (ws' := [(h0, .inr (5, [.ref tr, .ref tc, .ref tg, .ref tf, .ref th, .ref tm, .ref to, .ref tp, .int up, .int bank, .long chain, .int (bI told)])), (tc, .inr (0, [.ref uc, .int tot])), (uc, .inl (cI, 11, .inl f)), (tg, .inr (0, [.ref ug, .int totg])), (ug, .inl (cI, 11, .inl fg))]) [0, 1, 2, 3, 4] (by decide) rfl
            have hFc := va_free (wc := [(h0, .inr (5, [.ref tr, .ref tc, .ref tg, .ref tf, .ref th, .ref tm, .ref to, .ref tp, .int up, .int bank, .long chain, .int (bI told)])), (tc, .inr (0, [.ref uc, .int tot])), (uc, .inl (cI, 11, .inl f)), (tg, .inr (0, [.ref ug, .int totg])), (ug, .inl (cI, 11, .inl fg))]) hD hS hA [0, 1, 2, 3, 4] rfl
            refine va_callv (va_runV (As := [.int p0]) (rest := []) ⟨hx, hb, hml, hown, hts⟩ (c_X5_moveOut l D cI cJ cQ _ h0 tr tc tg tf th tm to tp up bank chain told uc tot (f) ug totg (fg) p0 c4_2 (pos_ne (hfp c4_2) c26_6)) (cwV 1 hts gX5_take_X5_moveOut rfl rfl rfl (by decide +kernel) ⟨Nat.le_of_ble_eq_true rfl, Nat.le_of_ble_eq_true rfl⟩) (mP_preV (ci := 5) (q0 := 0) hPc hK hDc rfl rfl) rfl rfl hl.1 rfl (lv_room (Nat.le_of_ble_eq_true rfl)) dX5_take_53 ⟨Nat.le_of_ble_eq_true rfl, Nat.le_of_ble_eq_true rfl⟩) hS (fun q _ h => hFc q h) hFc (fun u_r_21 t H1 locs ht hvm hr_21 hB hz1 hk1 hS => ?_)
            obtain ⟨tot2_22, f2_23, totg2_24, fg2_25⟩ := u_r_21
            obtain ⟨hP1, hK1, hD1⟩ := hB
            rw [ht] at hP1
            try dsimp only at hr_21
            obtain ⟨hP, hD⟩ := va_join (wr := [(th, .inr (1, [.ref uh, .int n0, .int sm, .int (bI ace)])), (uh, .inl (cI, 12, .inl g))]) (w1 := [(h0, .inr (5, [.ref tr, .ref tc, .ref tg, .ref tf, .ref th, .ref tm, .ref to, .ref tp, .int up, .int bank, .long chain, .int (bI told)])), (tc, .inr (0, [.ref uc, .int tot2_22])), (uc, .inl (cI, 11, .inl f2_23)), (tg, .inr (0, [.ref ug, .int totg2_24])), (ug, .inl (cI, 11, .inl fg2_25))]) hP hD [0, 1, 2, 3, 4] [5, 6] rfl rfl (by decide) (by decide) hk1 hFc hP1 hD1
            generalize H1 = H at hP hS ⊢
            have hP : va_P D vwCl [(th, .inr (1, [.ref uh, .int n0, .int sm, .int (bI ace)])), (uh, .inl (cI, 12, .inl g)), (h0, .inr (5, [.ref tr, .ref tc, .ref tg, .ref tf, .ref th, .ref tm, .ref to, .ref tp, .int up, .int bank, .long chain, .int (bI told)])), (tc, .inr (0, [.ref uc, .int tot2_22])), (uc, .inl (cI, 11, .inl f2_23)), (tg, .inr (0, [.ref ug, .int totg2_24])), (ug, .inl (cI, 11, .inl fg2_25))] H := hP
            have hD : va_D A [(th, .inr (1, [.ref uh, .int n0, .int sm, .int (bI ace)])), (uh, .inl (cI, 12, .inl g)), (h0, .inr (5, [.ref tr, .ref tc, .ref tg, .ref tf, .ref th, .ref tm, .ref to, .ref tp, .int up, .int bank, .long chain, .int (bI told)])), (tc, .inr (0, [.ref uc, .int tot2_22])), (uc, .inl (cI, 11, .inl f2_23)), (tg, .inr (0, [.ref ug, .int totg2_24])), (ug, .inl (cI, 11, .inl fg2_25))] := hD
            refine lv_aload_n hx hb dX5_take_56 rfl (lv_at hl 0 rfl) ?_
            refine lv_iload_n hx hb dX5_take_57 rfl (lv_at hl 1 rfl) ?_
            refine lv_iload_n hx hb dX5_take_58 rfl (lv_at hl 2 rfl) ?_
            have hPc := hP.sub (ws' := [(h0, .inr (5, [.ref tr, .ref tc, .ref tg, .ref tf, .ref th, .ref tm, .ref to, .ref tp, .int up, .int bank, .long chain, .int (bI told)])), (th, .inr (1, [.ref uh, .int n0, .int sm, .int (bI ace)])), (uh, .inl (cI, 12, .inl g))]) [2, 0, 1] rfl
            have hDc := hD.sub (ws' := [(h0, .inr (5, [.ref tr, .ref tc, .ref tg, .ref tf, .ref th, .ref tm, .ref to, .ref tp, .int up, .int bank, .long chain, .int (bI told)])), (th, .inr (1, [.ref uh, .int n0, .int sm, .int (bI ace)])), (uh, .inl (cI, 12, .inl g))]) [2, 0, 1] (by decide) rfl
            have hFc := va_free (wc := [(h0, .inr (5, [.ref tr, .ref tc, .ref tg, .ref tf, .ref th, .ref tm, .ref to, .ref tp, .int up, .int bank, .long chain, .int (bI told)])), (th, .inr (1, [.ref uh, .int n0, .int sm, .int (bI ace)])), (uh, .inl (cI, 12, .inl g))]) hD hS hA [2, 0, 1] rfl
            refine va_callv (va_runV (As := [.int p0, .int p1]) (rest := []) ⟨hx, hb, hml, hown, hts⟩ (c_X5_bring l D cI cJ cQ _ h0 tr tc tg tf th tm to tp up bank chain told uh n0 sm ace (g) p0 p1 hn0) (cwV 2 hts gX5_take_X5_bring rfl rfl rfl (by decide +kernel) ⟨Nat.le_of_ble_eq_true rfl, Nat.le_of_ble_eq_true rfl⟩) (mP_preV (ci := 5) (q0 := 0) hPc hK hDc rfl rfl) rfl rfl hl.1 rfl (lv_room (Nat.le_of_ble_eq_true rfl)) dX5_take_59 ⟨Nat.le_of_ble_eq_true rfl, Nat.le_of_ble_eq_true rfl⟩) hS (fun q _ h => hFc q h) hFc (fun u_r_26 t H1 locs ht hvm hr_26 hB hz1 hk1 hS => ?_)
            obtain ⟨up2_27, n2_28, sm2_29, ace2_30, g2_31⟩ := u_r_26
            obtain ⟨hP1, hK1, hD1⟩ := hB
            rw [ht] at hP1
            try dsimp only at hr_26
            obtain ⟨hP, hD⟩ := va_join (wr := [(tc, .inr (0, [.ref uc, .int tot2_22])), (uc, .inl (cI, 11, .inl f2_23)), (tg, .inr (0, [.ref ug, .int totg2_24])), (ug, .inl (cI, 11, .inl fg2_25))]) (w1 := [(h0, .inr (5, [.ref tr, .ref tc, .ref tg, .ref tf, .ref th, .ref tm, .ref to, .ref tp, .int up2_27, .int bank, .long chain, .int (bI told)])), (th, .inr (1, [.ref uh, .int n2_28, .int sm2_29, .int (bI ace2_30)])), (uh, .inl (cI, 12, .inl g2_31))]) hP hD [2, 0, 1] [3, 4, 5, 6] rfl rfl (by decide) (by decide) hk1 hFc hP1 hD1
            generalize H1 = H at hP hS ⊢
            have hP : va_P D vwCl [(tc, .inr (0, [.ref uc, .int tot2_22])), (uc, .inl (cI, 11, .inl f2_23)), (tg, .inr (0, [.ref ug, .int totg2_24])), (ug, .inl (cI, 11, .inl fg2_25)), (h0, .inr (5, [.ref tr, .ref tc, .ref tg, .ref tf, .ref th, .ref tm, .ref to, .ref tp, .int up2_27, .int bank, .long chain, .int (bI told)])), (th, .inr (1, [.ref uh, .int n2_28, .int sm2_29, .int (bI ace2_30)])), (uh, .inl (cI, 12, .inl g2_31))] H := hP
            have hD : va_D A [(tc, .inr (0, [.ref uc, .int tot2_22])), (uc, .inl (cI, 11, .inl f2_23)), (tg, .inr (0, [.ref ug, .int totg2_24])), (ug, .inl (cI, 11, .inl fg2_25)), (h0, .inr (5, [.ref tr, .ref tc, .ref tg, .ref tf, .ref th, .ref tm, .ref to, .ref tp, .int up2_27, .int bank, .long chain, .int (bI told)])), (th, .inr (1, [.ref uh, .int n2_28, .int sm2_29, .int (bI ace2_30)])), (uh, .inl (cI, 12, .inl g2_31))] := hD
            refine lv_aload_n hx hb dX5_take_62 rfl (lv_at hl 0 rfl) ?_
            refine va_get (D := D) (ci := 5) (v := .ref th) (C := RX5) (T := TX5) (N := 12) hx hb hts in_X5_take_X5 hown hK hP 4 rfl rfl 4 (by decide) (hts _ wd_X5_take_1) (fun _ h9 => h9) rfl dX5_take_63 ?_
            refine va_get (D := D) (ci := 1) (v := .int n2_28) (C := RX1) (T := TX1) (N := 4) hx hb hts in_X5_take_X1 hown hK hP 5 rfl rfl 1 (by decide) (hts _ wd_X5_take_2) (fun _ h9 => h9) rfl dX5_take_66 ?_
            have hP9 := hP.sub (ws' := [(h0, .inr (5, [.ref tr, .ref tc, .ref tg, .ref tf, .ref th, .ref tm, .ref to, .ref tp, .int up2_27, .int bank, .long chain, .int (bI told)])), (tc, .inr (0, [.ref uc, .int tot2_22])), (uc, .inl (cI, 11, .inl f2_23)), (tg, .inr (0, [.ref ug, .int totg2_24])), (ug, .inl (cI, 11, .inl fg2_25)), (th, .inr (1, [.ref uh, .int n2_28, .int sm2_29, .int (bI ace2_30)])), (uh, .inl (cI, 12, .inl g2_31))]) [4, 0, 1, 2, 3, 5, 6] rfl
            have hD9 := hD.sub (ws' := [(h0, .inr (5, [.ref tr, .ref tc, .ref tg, .ref tf, .ref th, .ref tm, .ref to, .ref tp, .int up2_27, .int bank, .long chain, .int (bI told)])), (tc, .inr (0, [.ref uc, .int tot2_22])), (uc, .inl (cI, 11, .inl f2_23)), (tg, .inr (0, [.ref ug, .int totg2_24])), (ug, .inl (cI, 11, .inl fg2_25)), (th, .inr (1, [.ref uh, .int n2_28, .int sm2_29, .int (bI ace2_30)])), (uh, .inl (cI, 12, .inl g2_31))]) [4, 0, 1, 2, 3, 5, 6] (by decide) rfl
            exact W.iret (v := n2_28) hx hb hr (fun t ht hW => ⟨⟨n2_28, (up2_27, tot2_22, (f2_23), totg2_24, (fg2_25), n2_28, sm2_29, ace2_30, (g2_31)), rfl, (by dsimp only; rw [if_neg c4_2, if_neg c11_4, if_neg c26_6, if_neg (fun z => z.2 (flB_0 c44_20))]; exact ⟨rfl, hr_21.1, hr_21.2.1, hr_21.2.2.1, hr_21.2.2.2, hr_26⟩), by rw [ht]; exact hP9, va_K.moved hW.alike hK, hD9⟩, hS.F ht⟩) hS.2.2 dX5_take_69
          · skip
            refine lv_sipush (v := (-1003)) hx hb dX5_take_47 (by decide) ?_
            have hP9 := hP.sub (ws' := [(h0, .inr (5, [.ref tr, .ref tc, .ref tg, .ref tf, .ref th, .ref tm, .ref to, .ref tp, .int up, .int bank, .long chain, .int (bI told)])), (tc, .inr (0, [.ref uc, .int tot])), (uc, .inl (cI, 11, .inl f)), (tg, .inr (0, [.ref ug, .int totg])), (ug, .inl (cI, 11, .inl fg)), (th, .inr (1, [.ref uh, .int n0, .int sm, .int (bI ace)])), (uh, .inl (cI, 12, .inl g))]) [0, 1, 2, 3, 4, 5, 6] rfl
            have hD9 := hD.sub (ws' := [(h0, .inr (5, [.ref tr, .ref tc, .ref tg, .ref tf, .ref th, .ref tm, .ref to, .ref tp, .int up, .int bank, .long chain, .int (bI told)])), (tc, .inr (0, [.ref uc, .int tot])), (uc, .inl (cI, 11, .inl f)), (tg, .inr (0, [.ref ug, .int totg])), (ug, .inl (cI, 11, .inl fg)), (th, .inr (1, [.ref uh, .int n0, .int sm, .int (bI ace)])), (uh, .inl (cI, 12, .inl g))]) [0, 1, 2, 3, 4, 5, 6] (by decide) rfl
            exact W.iret (v := (-1003)) hx hb hr (fun t ht hW => ⟨⟨(-1003), (up, tot, (f), totg, (fg), n0, sm, ace, (g)), rfl, (by dsimp only; rw [if_neg c4_2, if_neg c11_4, if_neg c26_6, if_pos ⟨c34_7, flB_1 c44_20⟩]; exact ⟨rfl, rfl, rfl, rfl, rfl, rfl, rfl, rfl, rfl, rfl⟩), by rw [ht]; exact hP9, va_K.moved hW.alike hK, hD9⟩, hS.F ht⟩) hS.2.2 dX5_take_50
      · skip
        refine lv_sipush (v := (-1002)) hx hb dX5_take_29 (by decide) ?_
        have hP9 := hP.sub (ws' := [(h0, .inr (5, [.ref tr, .ref tc, .ref tg, .ref tf, .ref th, .ref tm, .ref to, .ref tp, .int up, .int bank, .long chain, .int (bI told)])), (tc, .inr (0, [.ref uc, .int tot])), (uc, .inl (cI, 11, .inl f)), (tg, .inr (0, [.ref ug, .int totg])), (ug, .inl (cI, 11, .inl fg)), (th, .inr (1, [.ref uh, .int n0, .int sm, .int (bI ace)])), (uh, .inl (cI, 12, .inl g))]) [0, 1, 2, 3, 4, 5, 6] rfl
        have hD9 := hD.sub (ws' := [(h0, .inr (5, [.ref tr, .ref tc, .ref tg, .ref tf, .ref th, .ref tm, .ref to, .ref tp, .int up, .int bank, .long chain, .int (bI told)])), (tc, .inr (0, [.ref uc, .int tot])), (uc, .inl (cI, 11, .inl f)), (tg, .inr (0, [.ref ug, .int totg])), (ug, .inl (cI, 11, .inl fg)), (th, .inr (1, [.ref uh, .int n0, .int sm, .int (bI ace)])), (uh, .inl (cI, 12, .inl g))]) [0, 1, 2, 3, 4, 5, 6] (by decide) rfl
        exact W.iret (v := (-1002)) hx hb hr (fun t ht hW => ⟨⟨(-1002), (up, tot, (f), totg, (fg), n0, sm, ace, (g)), rfl, (by dsimp only; rw [if_neg c4_2, if_neg c11_4, if_pos c26_6]; exact ⟨rfl, rfl, rfl, rfl, rfl, rfl, rfl, rfl, rfl, rfl⟩), by rw [ht]; exact hP9, va_K.moved hW.alike hK, hD9⟩, hS.F ht⟩) hS.2.2 dX5_take_32
    · skip
      refine lv_sipush (v := (-1001)) hx hb dX5_take_14 (by decide) ?_
      have hP9 := hP.sub (ws' := [(h0, .inr (5, [.ref tr, .ref tc, .ref tg, .ref tf, .ref th, .ref tm, .ref to, .ref tp, .int up, .int bank, .long chain, .int (bI told)])), (tc, .inr (0, [.ref uc, .int tot])), (uc, .inl (cI, 11, .inl f)), (tg, .inr (0, [.ref ug, .int totg])), (ug, .inl (cI, 11, .inl fg)), (th, .inr (1, [.ref uh, .int n0, .int sm, .int (bI ace)])), (uh, .inl (cI, 12, .inl g))]) [0, 1, 2, 3, 4, 5, 6] rfl
      have hD9 := hD.sub (ws' := [(h0, .inr (5, [.ref tr, .ref tc, .ref tg, .ref tf, .ref th, .ref tm, .ref to, .ref tp, .int up, .int bank, .long chain, .int (bI told)])), (tc, .inr (0, [.ref uc, .int tot])), (uc, .inl (cI, 11, .inl f)), (tg, .inr (0, [.ref ug, .int totg])), (ug, .inl (cI, 11, .inl fg)), (th, .inr (1, [.ref uh, .int n0, .int sm, .int (bI ace)])), (uh, .inl (cI, 12, .inl g))]) [0, 1, 2, 3, 4, 5, 6] (by decide) rfl
      exact W.iret (v := (-1001)) hx hb hr (fun t ht hW => ⟨⟨(-1001), (up, tot, (f), totg, (fg), n0, sm, ace, (g)), rfl, (by dsimp only; rw [if_neg c4_2, if_pos c11_4]; exact ⟨rfl, rfl, rfl, rfl, rfl, rfl, rfl, rfl, rfl, rfl⟩), by rw [ht]; exact hP9, va_K.moved hW.alike hK, hD9⟩, hS.F ht⟩) hS.2.2 dX5_take_17

set_option maxRecDepth 20000 in
theorem in_X5_draw_X5 : ∀ w ∈ wsX50, w ∈ wsX5_draw := by decide +kernel
set_option maxRecDepth 20000 in
theorem wd_X5_draw_0 : Cond.fieldLink RX5 19 "ShoeTable" "cards" "LShoeTable$Cards;" ∈ wsX5_draw := by decide +kernel
set_option maxRecDepth 20000 in
theorem in_X5_draw_X0 : ∀ w ∈ wsX00, w ∈ wsX5_draw := by decide +kernel
set_option maxRecDepth 20000 in
theorem wd_X5_draw_1 : Cond.fieldLink RX5 91 "ShoeTable$Cards" "total" "I" ∈ wsX5_draw := by decide +kernel
set_option maxRecDepth 20000 in
theorem wd_X5_draw_2 : Cond.fieldLink RX5 32 "ShoeTable" "hand" "LShoeTable$Hand;" ∈ wsX5_draw := by decide +kernel
set_option maxHeartbeats 400000 in
set_option maxRecDepth 100000 in
/-- X5_draw -/
theorem c_X5_draw (l : Launch) (D : va_G) (cI cJ cQ : ClassId) (sz : Nat) (h0 : Nat) (tr : Nat) (tc : Nat) (tg : Nat) (tf : Nat) (th : Nat) (tm : Nat) (to : Nat) (tp : Nat) (up : Int32) (bank : Int32) (chain : Int64) (told : Bool) (uc : Nat) (tot : Int32) (f : Nat → Int32) (ug : Nat) (totg : Int32) (fg : Nat → Int32) (uh : Nat) (n0 : Int32) (sm : Int32) (ace : Bool) (g : Nat → Int32) (p0 : Int32) (hn0 : ¬ n0 < 0) (htp : 0 ≤ tot) (hdr : ¬ tot = 0 → ¬ rkB (rkAt f (plc (chain * 6364136223846793005 + 1442695040888963407) tot)) = 0 ∧ 0 < f (rkAt f (plc (chain * 6364136223846793005 + 1442695040888963407) tot)).toNatClampNeg) : Met l yX5_draw wsX5_draw ({ frames := 3, cells := 0, slots := 0, locals := 64 }) (va_Pc [.ref h0, .int p0] (mP D (gTy cI cJ cQ) [(h0, .inr (5, [.ref tr, .ref tc, .ref tg, .ref tf, .ref th, .ref tm, .ref to, .ref tp, .int up, .int bank, .long chain, .int (bI told)])), (tc, .inr (0, [.ref uc, .int tot])), (uc, .inl (cI, 11, .inl f)), (tg, .inr (0, [.ref ug, .int totg])), (ug, .inl (cI, 11, .inl fg)), (th, .inr (1, [.ref uh, .int n0, .int sm, .int (bI ace)])), (uh, .inl (cI, 12, .inl g))] sz)) (va_Qi (fun (r : Int32) (u : Int32 × Int32 × (Nat → Int32) × Int32 × (Nat → Int32) × Int32 × Int32 × Bool × (Nat → Int32) × Int64) => match u with | (up2, tot2, f2, totg2, fg2, n2, sm2, ace2, g2, ch2) => if glB p0 = 0 then r = -1001 ∧ up2 = up ∧ tot2 = tot ∧ f2 = f ∧ totg2 = totg ∧ fg2 = fg ∧ n2 = n0 ∧ sm2 = sm ∧ ace2 = ace ∧ g2 = g ∧ ch2 = chain else if tot = 0 then r = -1002 ∧ up2 = up ∧ tot2 = tot ∧ f2 = f ∧ totg2 = totg ∧ fg2 = fg ∧ n2 = n0 ∧ sm2 = sm ∧ ace2 = ace ∧ g2 = g ∧ ch2 = chain else if p0 = 0 ∧ ¬ n0 < 12 then r = -1003 ∧ up2 = up ∧ tot2 = tot ∧ f2 = f ∧ totg2 = totg ∧ fg2 = fg ∧ n2 = n0 ∧ sm2 = sm ∧ ace2 = ace ∧ g2 = g ∧ ch2 = chain else tot2 = tot - 1 ∧ f2 = upd f r.toNatClampNeg (f r.toNatClampNeg - 1) ∧ totg2 = totg + 1 ∧ fg2 = upd fg r.toNatClampNeg (fg r.toNatClampNeg + 1) ∧ ch2 = (chain * 6364136223846793005 + 1442695040888963407) ∧ r = rkAt f (plc (chain * 6364136223846793005 + 1442695040888963407) tot) ∧ (if p0 = 0 then up2 = up ∧ (if n0 < 12 then n2 = n0 + 1 ∧ sm2 = sm + r ∧ ace2 = (ace || decide (r = 1)) ∧ g2 = upd g n0.toNatClampNeg r else n2 = n0 ∧ sm2 = sm ∧ ace2 = ace ∧ g2 = g) else if p0 = 1 then up2 = r ∧ n2 = n0 ∧ sm2 = sm ∧ ace2 = ace ∧ g2 = g else up2 = up ∧ n2 = n0 ∧ sm2 = sm ∧ ace2 = ace ∧ g2 = g)) (fun (u : Int32 × Int32 × (Nat → Int32) × Int32 × (Nat → Int32) × Int32 × Int32 × Bool × (Nat → Int32) × Int64) t => match u with | (up2, tot2, f2, totg2, fg2, n2, sm2, ace2, g2, ch2) => mB D (gTy cI cJ cQ) (va_A [(h0, .inr (5, [.ref tr, .ref tc, .ref tg, .ref tf, .ref th, .ref tm, .ref to, .ref tp, .int up, .int bank, .long chain, .int (bI told)])), (tc, .inr (0, [.ref uc, .int tot])), (uc, .inl (cI, 11, .inl f)), (tg, .inr (0, [.ref ug, .int totg])), (ug, .inl (cI, 11, .inl fg)), (th, .inr (1, [.ref uh, .int n0, .int sm, .int (bI ace)])), (uh, .inl (cI, 12, .inl g))] sz) [(h0, .inr (5, [.ref tr, .ref tc, .ref tg, .ref tf, .ref th, .ref tm, .ref to, .ref tp, .int up2, .int bank, .long ch2, .int (bI told)])), (tc, .inr (0, [.ref uc, .int tot2])), (uc, .inl (cI, 11, .inl f2)), (tg, .inr (0, [.ref ug, .int totg2])), (ug, .inl (cI, 11, .inl fg2)), (th, .inr (1, [.ref uh, .int n2, .int sm2, .int (bI ace2)])), (uh, .inl (cI, 12, .inl g2))] t) (va_A [(h0, .inr (5, [.ref tr, .ref tc, .ref tg, .ref tf, .ref th, .ref tm, .ref to, .ref tp, .int up, .int bank, .long chain, .int (bI told)])), (tc, .inr (0, [.ref uc, .int tot])), (uc, .inl (cI, 11, .inl f)), (tg, .inr (0, [.ref ug, .int totg])), (ug, .inl (cI, 11, .inl fg)), (th, .inr (1, [.ref uh, .int n0, .int sm, .int (bI ace)])), (uh, .inl (cI, 12, .inl g))] sz)) 0 0 (va_A [(h0, .inr (5, [.ref tr, .ref tc, .ref tg, .ref tf, .ref th, .ref tm, .ref to, .ref tp, .int up, .int bank, .long chain, .int (bI told)])), (tc, .inr (0, [.ref uc, .int tot])), (uc, .inl (cI, 11, .inl f)), (tg, .inr (0, [.ref ug, .int totg])), (ug, .inl (cI, 11, .inl fg)), (th, .inr (1, [.ref uh, .int n0, .int sm, .int (bI ace)])), (uh, .inl (cI, 12, .inl g))] sz) := by
  refine Met.ofW (cc := cX5_draw) (maxL := 3) (ret := (some .int)) (by decide) rfl ?_
  intro p e s m args below meth c s₁ B hml hv
  obtain ⟨rfl, hsz, hP, hK, hD0⟩ := hv
  have hx := B.exec
  have hb := B.bytes
  have hr := B.returns
  have hts := atoms_spec (ws := wsX5_draw) B.pre
  have hown : s.vm.findClass RX5 = some m.cls := findClass_of_methodNamed B.named
  have hlocks := B.notSynchronized
  subst hsz
  have hD := hD0.self (sz := s.heap.size)
  generalize hAe : va_A [(h0, .inr (5, [.ref tr, .ref tc, .ref tg, .ref tf, .ref th, .ref tm, .ref to, .ref tp, .int up, .int bank, .long chain, .int (bI told)])), (tc, .inr (0, [.ref uc, .int tot])), (uc, .inl (cI, 11, .inl f)), (tg, .inr (0, [.ref ug, .int totg])), (ug, .inl (cI, 11, .inl fg)), (th, .inr (1, [.ref uh, .int n0, .int sm, .int (bI ace)])), (uh, .inl (cI, 12, .inl g))] s.heap.size = A at hD ⊢
  have hA : ∀ q : Nat, s.heap.size ≤ q → A q := fun q h => by rw [← hAe]; exact Or.inr h
  have hS : va_S A s.heap s.heap [] := va_S.rf
  have hP : va_P D vwCl [(h0, .inr (5, [.ref tr, .ref tc, .ref tg, .ref tf, .ref th, .ref tm, .ref to, .ref tp, .int up, .int bank, .long chain, .int (bI told)])), (tc, .inr (0, [.ref uc, .int tot])), (uc, .inl (cI, 11, .inl f)), (tg, .inr (0, [.ref ug, .int totg])), (ug, .inl (cI, 11, .inl fg)), (th, .inr (1, [.ref uh, .int n0, .int sm, .int (bI ace)])), (uh, .inl (cI, 12, .inl g))] s.heap := hP
  have hl := lv_entry ([.ref h0, .int p0]) (n := 3) (Nat.le_of_ble_eq_true rfl)
  rw [lg_entry_eq]
  generalize (lg_sl ([.ref h0, .int p0]) ++ List.replicate (3 - (lg_sl ([.ref h0, .int p0])).length) Slot.unset).toArray = ls at hl ⊢
  have hl : lv_has ls 3 [(0, .ref h0), (1, .int p0)] := hl
  refine lv_iload_n hx hb dX5_draw_0 rfl (lv_at hl 1 rfl) ?_
  have hPc := hP.sub (ws' := []) [] rfl
  refine vp_callSi (W.runS (As := [.int p0]) (rest := []) ⟨hx, hb, hml, hown, hts⟩ (c_X5_isGoal l D cI cJ cQ p0) (va_cwS 1 hts gX5_draw_X5_isGoal rfl rfl rfl (by decide +kernel) ⟨Nat.le_of_ble_eq_true rfl, Nat.le_of_ble_eq_true rfl⟩) (rP_preS hPc hK) rfl rfl hl.1 rfl (lv_room (Nat.le_of_ble_eq_true rfl)) dX5_draw_1 ⟨Nat.le_of_ble_eq_true rfl, Nat.le_of_ble_eq_true rfl⟩) (fun r_1 hr_1 => ?_)
  subst hr_1
  refine lv_if_ne (tgt := 11) hx hb dX5_draw_4 (by decide) (fun c4_2 => ?_) (fun c4_2 => ?_)
  · skip
    refine lv_aload_n hx hb dX5_draw_11 rfl (lv_at hl 0 rfl) ?_
    refine va_get (D := D) (ci := 5) (v := .ref tc) (C := RX5) (T := TX5) (N := 12) hx hb hts in_X5_draw_X5 hown hK hP 0 rfl rfl 1 (by decide) (hts _ wd_X5_draw_0) (fun _ h9 => h9) rfl dX5_draw_12 ?_
    refine va_get (D := D) (ci := 0) (v := .int tot) (C := RX0) (T := TX0) (N := 2) hx hb hts in_X5_draw_X0 hown hK hP 1 rfl rfl 1 (by decide) (hts _ wd_X5_draw_1) (fun _ h9 => h9) rfl dX5_draw_15 ?_
    refine lv_if_ne (tgt := 25) hx hb dX5_draw_18 (by decide) (fun c18_3 => ?_) (fun c18_3 => ?_)
    · skip
      refine lv_iload_n hx hb dX5_draw_25 rfl (lv_at hl 1 rfl) ?_
      refine lv_if_ne (tgt := 43) hx hb dX5_draw_26 (by decide) (fun c26_4 => ?_) (fun c26_4 => ?_)
      · skip
        refine lv_aload_n hx hb dX5_draw_43 rfl (lv_at hl 0 rfl) ?_
        have hPc := hP.sub (ws' := [(h0, .inr (5, [.ref tr, .ref tc, .ref tg, .ref tf, .ref th, .ref tm, .ref to, .ref tp, .int up, .int bank, .long chain, .int (bI told)])), (tc, .inr (0, [.ref uc, .int tot])), (uc, .inl (cI, 11, .inl f)), (tg, .inr (0, [.ref ug, .int totg])), (ug, .inl (cI, 11, .inl fg))]) [0, 1, 2, 3, 4] rfl
        have hDc := hD.sub (ws' := [(h0, .inr (5, [.ref tr, .ref tc, .ref tg, .ref tf, .ref th, .ref tm, .ref to, .ref tp, .int up, .int bank, .long chain, .int (bI told)])), (tc, .inr (0, [.ref uc, .int tot])), (uc, .inl (cI, 11, .inl f)), (tg, .inr (0, [.ref ug, .int totg])), (ug, .inl (cI, 11, .inl fg))]) [0, 1, 2, 3, 4] (by decide) rfl
        have hFc := va_free (wc := [(h0, .inr (5, [.ref tr, .ref tc, .ref tg, .ref tf, .ref th, .ref tm, .ref to, .ref tp, .int up, .int bank, .long chain, .int (bI told)])), (tc, .inr (0, [.ref uc, .int tot])), (uc, .inl (cI, 11, .inl f)), (tg, .inr (0, [.ref ug, .int totg])), (ug, .inl (cI, 11, .inl fg))]) hD hS hA [0, 1, 2, 3, 4] rfl
        refine va_calli (va_runV (As := []) (rest := []) ⟨hx, hb, hml, hown, hts⟩ (c_X5_drawnRank l D cI cJ cQ _ h0 tr tc tg tf th tm to tp up bank chain told uc tot (f) ug totg (fg) (pos_ne htp c18_3) (hdr c18_3)) (cwV 0 hts gX5_draw_X5_drawnRank rfl rfl rfl (by decide +kernel) ⟨Nat.le_of_ble_eq_true rfl, Nat.le_of_ble_eq_true rfl⟩) (mP_preV (ci := 5) (q0 := 0) hPc hK hDc rfl rfl) rfl rfl hl.1 rfl (lv_room (Nat.le_of_ble_eq_true rfl)) dX5_draw_44 ⟨Nat.le_of_ble_eq_true rfl, Nat.le_of_ble_eq_true rfl⟩) hS (fun q _ h => hFc q h) hFc (fun r_5 u_r_5 t H1 locs ht hvm hr_5 hB hz1 hk1 hS => ?_)
        obtain ⟨tot2_6, f2_7, totg2_8, fg2_9, ch2_10⟩ := u_r_5
        obtain ⟨hP1, hK1, hD1⟩ := hB
        rw [ht] at hP1
        try dsimp only at hr_5
        obtain ⟨hP, hD⟩ := va_join (wr := [(th, .inr (1, [.ref uh, .int n0, .int sm, .int (bI ace)])), (uh, .inl (cI, 12, .inl g))]) (w1 := [(h0, .inr (5, [.ref tr, .ref tc, .ref tg, .ref tf, .ref th, .ref tm, .ref to, .ref tp, .int up, .int bank, .long ch2_10, .int (bI told)])), (tc, .inr (0, [.ref uc, .int tot2_6])), (uc, .inl (cI, 11, .inl f2_7)), (tg, .inr (0, [.ref ug, .int totg2_8])), (ug, .inl (cI, 11, .inl fg2_9))]) hP hD [0, 1, 2, 3, 4] [5, 6] rfl rfl (by decide) (by decide) hk1 hFc hP1 hD1
        generalize H1 = H at hP hS ⊢
        have hP : va_P D vwCl [(th, .inr (1, [.ref uh, .int n0, .int sm, .int (bI ace)])), (uh, .inl (cI, 12, .inl g)), (h0, .inr (5, [.ref tr, .ref tc, .ref tg, .ref tf, .ref th, .ref tm, .ref to, .ref tp, .int up, .int bank, .long ch2_10, .int (bI told)])), (tc, .inr (0, [.ref uc, .int tot2_6])), (uc, .inl (cI, 11, .inl f2_7)), (tg, .inr (0, [.ref ug, .int totg2_8])), (ug, .inl (cI, 11, .inl fg2_9))] H := hP
        have hD : va_D A [(th, .inr (1, [.ref uh, .int n0, .int sm, .int (bI ace)])), (uh, .inl (cI, 12, .inl g)), (h0, .inr (5, [.ref tr, .ref tc, .ref tg, .ref tf, .ref th, .ref tm, .ref to, .ref tp, .int up, .int bank, .long ch2_10, .int (bI told)])), (tc, .inr (0, [.ref uc, .int tot2_6])), (uc, .inl (cI, 11, .inl f2_7)), (tg, .inr (0, [.ref ug, .int totg2_8])), (ug, .inl (cI, 11, .inl fg2_9))] := hD
        refine lv_istore_n (lv' := [(2, .int r_5), (0, .ref h0), (1, .int p0)]) hx hb dX5_draw_47 rfl hl (by decide) rfl (fun ls hl => ?_)
        refine lv_aload_n hx hb dX5_draw_48 rfl (lv_at hl 1 rfl) ?_
        refine lv_iload_n hx hb dX5_draw_49 rfl (lv_at hl 0 rfl) ?_
        refine lv_iload_n hx hb dX5_draw_50 rfl (lv_at hl 2 rfl) ?_
        have hPc := hP.sub (ws' := [(h0, .inr (5, [.ref tr, .ref tc, .ref tg, .ref tf, .ref th, .ref tm, .ref to, .ref tp, .int up, .int bank, .long ch2_10, .int (bI told)])), (th, .inr (1, [.ref uh, .int n0, .int sm, .int (bI ace)])), (uh, .inl (cI, 12, .inl g))]) [2, 0, 1] rfl
        have hDc := hD.sub (ws' := [(h0, .inr (5, [.ref tr, .ref tc, .ref tg, .ref tf, .ref th, .ref tm, .ref to, .ref tp, .int up, .int bank, .long ch2_10, .int (bI told)])), (th, .inr (1, [.ref uh, .int n0, .int sm, .int (bI ace)])), (uh, .inl (cI, 12, .inl g))]) [2, 0, 1] (by decide) rfl
        have hFc := va_free (wc := [(h0, .inr (5, [.ref tr, .ref tc, .ref tg, .ref tf, .ref th, .ref tm, .ref to, .ref tp, .int up, .int bank, .long ch2_10, .int (bI told)])), (th, .inr (1, [.ref uh, .int n0, .int sm, .int (bI ace)])), (uh, .inl (cI, 12, .inl g))]) hD hS hA [2, 0, 1] rfl
        refine va_callv (va_runV (As := [.int r_5, .int p0]) (rest := []) ⟨hx, hb, hml, hown, hts⟩ (c_X5_bring l D cI cJ cQ _ h0 tr tc tg tf th tm to tp up bank ch2_10 told uh n0 sm ace (g) r_5 p0 hn0) (cwV 2 hts gX5_draw_X5_bring rfl rfl rfl (by decide +kernel) ⟨Nat.le_of_ble_eq_true rfl, Nat.le_of_ble_eq_true rfl⟩) (mP_preV (ci := 5) (q0 := 0) hPc hK hDc rfl rfl) rfl rfl hl.1 rfl (lv_room (Nat.le_of_ble_eq_true rfl)) dX5_draw_51 ⟨Nat.le_of_ble_eq_true rfl, Nat.le_of_ble_eq_true rfl⟩) hS (fun q _ h => hFc q h) hFc (fun u_r_11 t H1 locs ht hvm hr_11 hB hz1 hk1 hS => ?_)
        obtain ⟨up2_12, n2_13, sm2_14, ace2_15, g2_16⟩ := u_r_11
        obtain ⟨hP1, hK1, hD1⟩ := hB
        rw [ht] at hP1
        try dsimp only at hr_11
        obtain ⟨hP, hD⟩ := va_join (wr := [(tc, .inr (0, [.ref uc, .int tot2_6])), (uc, .inl (cI, 11, .inl f2_7)), (tg, .inr (0, [.ref ug, .int totg2_8])), (ug, .inl (cI, 11, .inl fg2_9))]) (w1 := [(h0, .inr (5, [.ref tr, .ref tc, .ref tg, .ref tf, .ref th, .ref tm, .ref to, .ref tp, .int up2_12, .int bank, .long ch2_10, .int (bI told)])), (th, .inr (1, [.ref uh, .int n2_13, .int sm2_14, .int (bI ace2_15)])), (uh, .inl (cI, 12, .inl g2_16))]) hP hD [2, 0, 1] [3, 4, 5, 6] rfl rfl (by decide) (by decide) hk1 hFc hP1 hD1
        generalize H1 = H at hP hS ⊢
        have hP : va_P D vwCl [(tc, .inr (0, [.ref uc, .int tot2_6])), (uc, .inl (cI, 11, .inl f2_7)), (tg, .inr (0, [.ref ug, .int totg2_8])), (ug, .inl (cI, 11, .inl fg2_9)), (h0, .inr (5, [.ref tr, .ref tc, .ref tg, .ref tf, .ref th, .ref tm, .ref to, .ref tp, .int up2_12, .int bank, .long ch2_10, .int (bI told)])), (th, .inr (1, [.ref uh, .int n2_13, .int sm2_14, .int (bI ace2_15)])), (uh, .inl (cI, 12, .inl g2_16))] H := hP
        have hD : va_D A [(tc, .inr (0, [.ref uc, .int tot2_6])), (uc, .inl (cI, 11, .inl f2_7)), (tg, .inr (0, [.ref ug, .int totg2_8])), (ug, .inl (cI, 11, .inl fg2_9)), (h0, .inr (5, [.ref tr, .ref tc, .ref tg, .ref tf, .ref th, .ref tm, .ref to, .ref tp, .int up2_12, .int bank, .long ch2_10, .int (bI told)])), (th, .inr (1, [.ref uh, .int n2_13, .int sm2_14, .int (bI ace2_15)])), (uh, .inl (cI, 12, .inl g2_16))] := hD
        refine lv_iload_n hx hb dX5_draw_54 rfl (lv_at hl 0 rfl) ?_
        have hP9 := hP.sub (ws' := [(h0, .inr (5, [.ref tr, .ref tc, .ref tg, .ref tf, .ref th, .ref tm, .ref to, .ref tp, .int up2_12, .int bank, .long ch2_10, .int (bI told)])), (tc, .inr (0, [.ref uc, .int tot2_6])), (uc, .inl (cI, 11, .inl f2_7)), (tg, .inr (0, [.ref ug, .int totg2_8])), (ug, .inl (cI, 11, .inl fg2_9)), (th, .inr (1, [.ref uh, .int n2_13, .int sm2_14, .int (bI ace2_15)])), (uh, .inl (cI, 12, .inl g2_16))]) [4, 0, 1, 2, 3, 5, 6] rfl
        have hD9 := hD.sub (ws' := [(h0, .inr (5, [.ref tr, .ref tc, .ref tg, .ref tf, .ref th, .ref tm, .ref to, .ref tp, .int up2_12, .int bank, .long ch2_10, .int (bI told)])), (tc, .inr (0, [.ref uc, .int tot2_6])), (uc, .inl (cI, 11, .inl f2_7)), (tg, .inr (0, [.ref ug, .int totg2_8])), (ug, .inl (cI, 11, .inl fg2_9)), (th, .inr (1, [.ref uh, .int n2_13, .int sm2_14, .int (bI ace2_15)])), (uh, .inl (cI, 12, .inl g2_16))]) [4, 0, 1, 2, 3, 5, 6] (by decide) rfl
        exact W.iret (v := r_5) hx hb hr (fun t ht hW => ⟨⟨r_5, (up2_12, tot2_6, (f2_7), totg2_8, (fg2_9), n2_13, sm2_14, ace2_15, (g2_16), ch2_10), rfl, (by dsimp only; rw [if_neg c4_2, if_neg c18_3, if_neg (fun z => c26_4 z.1)]; exact ⟨hr_5.1, hr_5.2.1, hr_5.2.2.1, hr_5.2.2.2.1, hr_5.2.2.2.2.1, hr_5.2.2.2.2.2, hr_11⟩), by rw [ht]; exact hP9, va_K.moved hW.alike hK, hD9⟩, hS.F ht⟩) hS.2.2 dX5_draw_55
      · skip
        refine lv_aload_n hx hb dX5_draw_29 rfl (lv_at hl 0 rfl) ?_
        refine va_get (D := D) (ci := 5) (v := .ref th) (C := RX5) (T := TX5) (N := 12) hx hb hts in_X5_draw_X5 hown hK hP 0 rfl rfl 4 (by decide) (hts _ wd_X5_draw_2) (fun _ h9 => h9) rfl dX5_draw_30 ?_
        have hPc := hP.sub (ws' := [(th, .inr (1, [.ref uh, .int n0, .int sm, .int (bI ace)])), (uh, .inl (cI, 12, .inl g))]) [5, 6] rfl
        refine vp_callSi (W.runV (As := []) (rest := []) ⟨hx, hb, hml, hown, hts⟩ (c_X1_isFullV l D cI cJ cQ th uh n0 sm ace (g)) (cwV 0 hts gX5_draw_X1_isFull rfl rfl rfl (by decide +kernel) ⟨Nat.le_of_ble_eq_true rfl, Nat.le_of_ble_eq_true rfl⟩) (rP_preV (ci := 1) (q0 := 0) hPc hK rfl rfl) rfl rfl hl.1 rfl (lv_room (Nat.le_of_ble_eq_true rfl)) dX5_draw_33 ⟨Nat.le_of_ble_eq_true rfl, Nat.le_of_ble_eq_true rfl⟩) (fun r_17 hr_17 => ?_)
        subst hr_17
        refine lv_if_eq (tgt := 43) hx hb dX5_draw_36 (by decide) (fun c36_18 => ?_) (fun c36_18 => ?_)
        · skip
          refine lv_aload_n hx hb dX5_draw_43 rfl (lv_at hl 0 rfl) ?_
          have hPc := hP.sub (ws' := [(h0, .inr (5, [.ref tr, .ref tc, .ref tg, .ref tf, .ref th, .ref tm, .ref to, .ref tp, .int up, .int bank, .long chain, .int (bI told)])), (tc, .inr (0, [.ref uc, .int tot])), (uc, .inl (cI, 11, .inl f)), (tg, .inr (0, [.ref ug, .int totg])), (ug, .inl (cI, 11, .inl fg))]) [0, 1, 2, 3, 4] rfl
          have hDc := hD.sub (ws' := [(h0, .inr (5, [.ref tr, .ref tc, .ref tg, .ref tf, .ref th, .ref tm, .ref to, .ref tp, .int up, .int bank, .long chain, .int (bI told)])), (tc, .inr (0, [.ref uc, .int tot])), (uc, .inl (cI, 11, .inl f)), (tg, .inr (0, [.ref ug, .int totg])), (ug, .inl (cI, 11, .inl fg))]) [0, 1, 2, 3, 4] (by decide) rfl
          have hFc := va_free (wc := [(h0, .inr (5, [.ref tr, .ref tc, .ref tg, .ref tf, .ref th, .ref tm, .ref to, .ref tp, .int up, .int bank, .long chain, .int (bI told)])), (tc, .inr (0, [.ref uc, .int tot])), (uc, .inl (cI, 11, .inl f)), (tg, .inr (0, [.ref ug, .int totg])), (ug, .inl (cI, 11, .inl fg))]) hD hS hA [0, 1, 2, 3, 4] rfl
          refine va_calli (va_runV (As := []) (rest := []) ⟨hx, hb, hml, hown, hts⟩ (c_X5_drawnRank l D cI cJ cQ _ h0 tr tc tg tf th tm to tp up bank chain told uc tot (f) ug totg (fg) (pos_ne htp c18_3) (hdr c18_3)) (cwV 0 hts gX5_draw_X5_drawnRank rfl rfl rfl (by decide +kernel) ⟨Nat.le_of_ble_eq_true rfl, Nat.le_of_ble_eq_true rfl⟩) (mP_preV (ci := 5) (q0 := 0) hPc hK hDc rfl rfl) rfl rfl hl.1 rfl (lv_room (Nat.le_of_ble_eq_true rfl)) dX5_draw_44 ⟨Nat.le_of_ble_eq_true rfl, Nat.le_of_ble_eq_true rfl⟩) hS (fun q _ h => hFc q h) hFc (fun r_19 u_r_19 t H1 locs ht hvm hr_19 hB hz1 hk1 hS => ?_)
          obtain ⟨tot2_20, f2_21, totg2_22, fg2_23, ch2_24⟩ := u_r_19
          obtain ⟨hP1, hK1, hD1⟩ := hB
          rw [ht] at hP1
          try dsimp only at hr_19
          obtain ⟨hP, hD⟩ := va_join (wr := [(th, .inr (1, [.ref uh, .int n0, .int sm, .int (bI ace)])), (uh, .inl (cI, 12, .inl g))]) (w1 := [(h0, .inr (5, [.ref tr, .ref tc, .ref tg, .ref tf, .ref th, .ref tm, .ref to, .ref tp, .int up, .int bank, .long ch2_24, .int (bI told)])), (tc, .inr (0, [.ref uc, .int tot2_20])), (uc, .inl (cI, 11, .inl f2_21)), (tg, .inr (0, [.ref ug, .int totg2_22])), (ug, .inl (cI, 11, .inl fg2_23))]) hP hD [0, 1, 2, 3, 4] [5, 6] rfl rfl (by decide) (by decide) hk1 hFc hP1 hD1
          generalize H1 = H at hP hS ⊢
          have hP : va_P D vwCl [(th, .inr (1, [.ref uh, .int n0, .int sm, .int (bI ace)])), (uh, .inl (cI, 12, .inl g)), (h0, .inr (5, [.ref tr, .ref tc, .ref tg, .ref tf, .ref th, .ref tm, .ref to, .ref tp, .int up, .int bank, .long ch2_24, .int (bI told)])), (tc, .inr (0, [.ref uc, .int tot2_20])), (uc, .inl (cI, 11, .inl f2_21)), (tg, .inr (0, [.ref ug, .int totg2_22])), (ug, .inl (cI, 11, .inl fg2_23))] H := hP
          have hD : va_D A [(th, .inr (1, [.ref uh, .int n0, .int sm, .int (bI ace)])), (uh, .inl (cI, 12, .inl g)), (h0, .inr (5, [.ref tr, .ref tc, .ref tg, .ref tf, .ref th, .ref tm, .ref to, .ref tp, .int up, .int bank, .long ch2_24, .int (bI told)])), (tc, .inr (0, [.ref uc, .int tot2_20])), (uc, .inl (cI, 11, .inl f2_21)), (tg, .inr (0, [.ref ug, .int totg2_22])), (ug, .inl (cI, 11, .inl fg2_23))] := hD
          refine lv_istore_n (lv' := [(2, .int r_19), (0, .ref h0), (1, .int p0)]) hx hb dX5_draw_47 rfl hl (by decide) rfl (fun ls hl => ?_)
          refine lv_aload_n hx hb dX5_draw_48 rfl (lv_at hl 1 rfl) ?_
          refine lv_iload_n hx hb dX5_draw_49 rfl (lv_at hl 0 rfl) ?_
          refine lv_iload_n hx hb dX5_draw_50 rfl (lv_at hl 2 rfl) ?_
          have hPc := hP.sub (ws' := [(h0, .inr (5, [.ref tr, .ref tc, .ref tg, .ref tf, .ref th, .ref tm, .ref to, .ref tp, .int up, .int bank, .long ch2_24, .int (bI told)])), (th, .inr (1, [.ref uh, .int n0, .int sm, .int (bI ace)])), (uh, .inl (cI, 12, .inl g))]) [2, 0, 1] rfl
          have hDc := hD.sub (ws' := [(h0, .inr (5, [.ref tr, .ref tc, .ref tg, .ref tf, .ref th, .ref tm, .ref to, .ref tp, .int up, .int bank, .long ch2_24, .int (bI told)])), (th, .inr (1, [.ref uh, .int n0, .int sm, .int (bI ace)])), (uh, .inl (cI, 12, .inl g))]) [2, 0, 1] (by decide) rfl
          have hFc := va_free (wc := [(h0, .inr (5, [.ref tr, .ref tc, .ref tg, .ref tf, .ref th, .ref tm, .ref to, .ref tp, .int up, .int bank, .long ch2_24, .int (bI told)])), (th, .inr (1, [.ref uh, .int n0, .int sm, .int (bI ace)])), (uh, .inl (cI, 12, .inl g))]) hD hS hA [2, 0, 1] rfl
          refine va_callv (va_runV (As := [.int r_19, .int p0]) (rest := []) ⟨hx, hb, hml, hown, hts⟩ (c_X5_bring l D cI cJ cQ _ h0 tr tc tg tf th tm to tp up bank ch2_24 told uh n0 sm ace (g) r_19 p0 hn0) (cwV 2 hts gX5_draw_X5_bring rfl rfl rfl (by decide +kernel) ⟨Nat.le_of_ble_eq_true rfl, Nat.le_of_ble_eq_true rfl⟩) (mP_preV (ci := 5) (q0 := 0) hPc hK hDc rfl rfl) rfl rfl hl.1 rfl (lv_room (Nat.le_of_ble_eq_true rfl)) dX5_draw_51 ⟨Nat.le_of_ble_eq_true rfl, Nat.le_of_ble_eq_true rfl⟩) hS (fun q _ h => hFc q h) hFc (fun u_r_25 t H1 locs ht hvm hr_25 hB hz1 hk1 hS => ?_)
          obtain ⟨up2_26, n2_27, sm2_28, ace2_29, g2_30⟩ := u_r_25
          obtain ⟨hP1, hK1, hD1⟩ := hB
          rw [ht] at hP1
          try dsimp only at hr_25
          obtain ⟨hP, hD⟩ := va_join (wr := [(tc, .inr (0, [.ref uc, .int tot2_20])), (uc, .inl (cI, 11, .inl f2_21)), (tg, .inr (0, [.ref ug, .int totg2_22])), (ug, .inl (cI, 11, .inl fg2_23))]) (w1 := [(h0, .inr (5, [.ref tr, .ref tc, .ref tg, .ref tf, .ref th, .ref tm, .ref to, .ref tp, .int up2_26, .int bank, .long ch2_24, .int (bI told)])), (th, .inr (1, [.ref uh, .int n2_27, .int sm2_28, .int (bI ace2_29)])), (uh, .inl (cI, 12, .inl g2_30))]) hP hD [2, 0, 1] [3, 4, 5, 6] rfl rfl (by decide) (by decide) hk1 hFc hP1 hD1
          generalize H1 = H at hP hS ⊢
          have hP : va_P D vwCl [(tc, .inr (0, [.ref uc, .int tot2_20])), (uc, .inl (cI, 11, .inl f2_21)), (tg, .inr (0, [.ref ug, .int totg2_22])), (ug, .inl (cI, 11, .inl fg2_23)), (h0, .inr (5, [.ref tr, .ref tc, .ref tg, .ref tf, .ref th, .ref tm, .ref to, .ref tp, .int up2_26, .int bank, .long ch2_24, .int (bI told)])), (th, .inr (1, [.ref uh, .int n2_27, .int sm2_28, .int (bI ace2_29)])), (uh, .inl (cI, 12, .inl g2_30))] H := hP
          have hD : va_D A [(tc, .inr (0, [.ref uc, .int tot2_20])), (uc, .inl (cI, 11, .inl f2_21)), (tg, .inr (0, [.ref ug, .int totg2_22])), (ug, .inl (cI, 11, .inl fg2_23)), (h0, .inr (5, [.ref tr, .ref tc, .ref tg, .ref tf, .ref th, .ref tm, .ref to, .ref tp, .int up2_26, .int bank, .long ch2_24, .int (bI told)])), (th, .inr (1, [.ref uh, .int n2_27, .int sm2_28, .int (bI ace2_29)])), (uh, .inl (cI, 12, .inl g2_30))] := hD
          refine lv_iload_n hx hb dX5_draw_54 rfl (lv_at hl 0 rfl) ?_
          have hP9 := hP.sub (ws' := [(h0, .inr (5, [.ref tr, .ref tc, .ref tg, .ref tf, .ref th, .ref tm, .ref to, .ref tp, .int up2_26, .int bank, .long ch2_24, .int (bI told)])), (tc, .inr (0, [.ref uc, .int tot2_20])), (uc, .inl (cI, 11, .inl f2_21)), (tg, .inr (0, [.ref ug, .int totg2_22])), (ug, .inl (cI, 11, .inl fg2_23)), (th, .inr (1, [.ref uh, .int n2_27, .int sm2_28, .int (bI ace2_29)])), (uh, .inl (cI, 12, .inl g2_30))]) [4, 0, 1, 2, 3, 5, 6] rfl
          have hD9 := hD.sub (ws' := [(h0, .inr (5, [.ref tr, .ref tc, .ref tg, .ref tf, .ref th, .ref tm, .ref to, .ref tp, .int up2_26, .int bank, .long ch2_24, .int (bI told)])), (tc, .inr (0, [.ref uc, .int tot2_20])), (uc, .inl (cI, 11, .inl f2_21)), (tg, .inr (0, [.ref ug, .int totg2_22])), (ug, .inl (cI, 11, .inl fg2_23)), (th, .inr (1, [.ref uh, .int n2_27, .int sm2_28, .int (bI ace2_29)])), (uh, .inl (cI, 12, .inl g2_30))]) [4, 0, 1, 2, 3, 5, 6] (by decide) rfl
          exact W.iret (v := r_19) hx hb hr (fun t ht hW => ⟨⟨r_19, (up2_26, tot2_20, (f2_21), totg2_22, (fg2_23), n2_27, sm2_28, ace2_29, (g2_30), ch2_24), rfl, (by dsimp only; rw [if_neg c4_2, if_neg c18_3, if_neg (fun z => z.2 (flB_0 c36_18))]; exact ⟨hr_19.1, hr_19.2.1, hr_19.2.2.1, hr_19.2.2.2.1, hr_19.2.2.2.2.1, hr_19.2.2.2.2.2, hr_25⟩), by rw [ht]; exact hP9, va_K.moved hW.alike hK, hD9⟩, hS.F ht⟩) hS.2.2 dX5_draw_55
        · skip
          refine lv_sipush (v := (-1003)) hx hb dX5_draw_39 (by decide) ?_
          have hP9 := hP.sub (ws' := [(h0, .inr (5, [.ref tr, .ref tc, .ref tg, .ref tf, .ref th, .ref tm, .ref to, .ref tp, .int up, .int bank, .long chain, .int (bI told)])), (tc, .inr (0, [.ref uc, .int tot])), (uc, .inl (cI, 11, .inl f)), (tg, .inr (0, [.ref ug, .int totg])), (ug, .inl (cI, 11, .inl fg)), (th, .inr (1, [.ref uh, .int n0, .int sm, .int (bI ace)])), (uh, .inl (cI, 12, .inl g))]) [0, 1, 2, 3, 4, 5, 6] rfl
          have hD9 := hD.sub (ws' := [(h0, .inr (5, [.ref tr, .ref tc, .ref tg, .ref tf, .ref th, .ref tm, .ref to, .ref tp, .int up, .int bank, .long chain, .int (bI told)])), (tc, .inr (0, [.ref uc, .int tot])), (uc, .inl (cI, 11, .inl f)), (tg, .inr (0, [.ref ug, .int totg])), (ug, .inl (cI, 11, .inl fg)), (th, .inr (1, [.ref uh, .int n0, .int sm, .int (bI ace)])), (uh, .inl (cI, 12, .inl g))]) [0, 1, 2, 3, 4, 5, 6] (by decide) rfl
          exact W.iret (v := (-1003)) hx hb hr (fun t ht hW => ⟨⟨(-1003), (up, tot, (f), totg, (fg), n0, sm, ace, (g), chain), rfl, (by dsimp only; rw [if_neg c4_2, if_neg c18_3, if_pos ⟨c26_4, flB_1 c36_18⟩]; exact ⟨rfl, rfl, rfl, rfl, rfl, rfl, rfl, rfl, rfl, rfl, rfl⟩), by rw [ht]; exact hP9, va_K.moved hW.alike hK, hD9⟩, hS.F ht⟩) hS.2.2 dX5_draw_42
    · skip
      refine lv_sipush (v := (-1002)) hx hb dX5_draw_21 (by decide) ?_
      have hP9 := hP.sub (ws' := [(h0, .inr (5, [.ref tr, .ref tc, .ref tg, .ref tf, .ref th, .ref tm, .ref to, .ref tp, .int up, .int bank, .long chain, .int (bI told)])), (tc, .inr (0, [.ref uc, .int tot])), (uc, .inl (cI, 11, .inl f)), (tg, .inr (0, [.ref ug, .int totg])), (ug, .inl (cI, 11, .inl fg)), (th, .inr (1, [.ref uh, .int n0, .int sm, .int (bI ace)])), (uh, .inl (cI, 12, .inl g))]) [0, 1, 2, 3, 4, 5, 6] rfl
      have hD9 := hD.sub (ws' := [(h0, .inr (5, [.ref tr, .ref tc, .ref tg, .ref tf, .ref th, .ref tm, .ref to, .ref tp, .int up, .int bank, .long chain, .int (bI told)])), (tc, .inr (0, [.ref uc, .int tot])), (uc, .inl (cI, 11, .inl f)), (tg, .inr (0, [.ref ug, .int totg])), (ug, .inl (cI, 11, .inl fg)), (th, .inr (1, [.ref uh, .int n0, .int sm, .int (bI ace)])), (uh, .inl (cI, 12, .inl g))]) [0, 1, 2, 3, 4, 5, 6] (by decide) rfl
      exact W.iret (v := (-1002)) hx hb hr (fun t ht hW => ⟨⟨(-1002), (up, tot, (f), totg, (fg), n0, sm, ace, (g), chain), rfl, (by dsimp only; rw [if_neg c4_2, if_pos c18_3]; exact ⟨rfl, rfl, rfl, rfl, rfl, rfl, rfl, rfl, rfl, rfl, rfl⟩), by rw [ht]; exact hP9, va_K.moved hW.alike hK, hD9⟩, hS.F ht⟩) hS.2.2 dX5_draw_24
  · skip
    refine lv_sipush (v := (-1001)) hx hb dX5_draw_7 (by decide) ?_
    have hP9 := hP.sub (ws' := [(h0, .inr (5, [.ref tr, .ref tc, .ref tg, .ref tf, .ref th, .ref tm, .ref to, .ref tp, .int up, .int bank, .long chain, .int (bI told)])), (tc, .inr (0, [.ref uc, .int tot])), (uc, .inl (cI, 11, .inl f)), (tg, .inr (0, [.ref ug, .int totg])), (ug, .inl (cI, 11, .inl fg)), (th, .inr (1, [.ref uh, .int n0, .int sm, .int (bI ace)])), (uh, .inl (cI, 12, .inl g))]) [0, 1, 2, 3, 4, 5, 6] rfl
    have hD9 := hD.sub (ws' := [(h0, .inr (5, [.ref tr, .ref tc, .ref tg, .ref tf, .ref th, .ref tm, .ref to, .ref tp, .int up, .int bank, .long chain, .int (bI told)])), (tc, .inr (0, [.ref uc, .int tot])), (uc, .inl (cI, 11, .inl f)), (tg, .inr (0, [.ref ug, .int totg])), (ug, .inl (cI, 11, .inl fg)), (th, .inr (1, [.ref uh, .int n0, .int sm, .int (bI ace)])), (uh, .inl (cI, 12, .inl g))]) [0, 1, 2, 3, 4, 5, 6] (by decide) rfl
    exact W.iret (v := (-1001)) hx hb hr (fun t ht hW => ⟨⟨(-1001), (up, tot, (f), totg, (fg), n0, sm, ace, (g), chain), rfl, (by dsimp only; rw [if_pos c4_2]; exact ⟨rfl, rfl, rfl, rfl, rfl, rfl, rfl, rfl, rfl, rfl, rfl⟩), by rw [ht]; exact hP9, va_K.moved hW.alike hK, hD9⟩, hS.F ht⟩) hS.2.2 dX5_draw_10
