set_option maxHeartbeats 400000 in
set_option maxRecDepth 100000 in
/-- X4_isNatural -/
theorem c_X4_isNaturalB (l : Launch) (D : va_G) (cI cJ cQ : ClassId) (h0 : Nat) (h1 : Nat) (w : Nat → Int32) (p0 : Int32) (p1 : Int32)  : Met l yX4_isNatural wsX4_isNatural ({ frames := 0, cells := 0, slots := 0, locals := 0 }) (va_Pc [.ref h0, .int p0, .int p1] (rP D (gTy cI cJ cQ) [(h0, .inr (4, [.ref h1])), (h1, .inl (cI, 7, .inl w))])) (vp_Si (fun r => r = bI (naB w p0 p1))) 0 0 (fun _ => False) := by
  refine Met.ofW (cc := cX4_isNatural) (maxL := 3) (ret := (some .boolean)) (by decide) rfl ?_
  intro p e s m args below meth c s₁ B hml hv
  obtain ⟨rfl, hP, hK⟩ := hv
  have hx := B.exec
  have hb := B.bytes
  have hr := B.returns
  have hts := atoms_spec (ws := wsX4_isNatural) B.pre
  have hown : s.vm.findClass RX4 = some m.cls := findClass_of_methodNamed B.named
  have hlocks := B.notSynchronized
  have hl := lv_entry ([.ref h0, .int p0, .int p1]) (n := 3) (Nat.le_of_ble_eq_true rfl)
  rw [lg_entry_eq]
  generalize (lg_sl ([.ref h0, .int p0, .int p1]) ++ List.replicate (3 - (lg_sl ([.ref h0, .int p0, .int p1])).length) Slot.unset).toArray = ls at hl ⊢
  have hl : lv_has ls 3 [(0, .ref h0), (1, .int p0), (2, .int p1)] := hl
  refine lv_iload_n hx hb dX4_isNatural_0 rfl (lv_at hl 2 rfl) ?_
  refine lv_iconst (v := 2) hx hb dX4_isNatural_1 (by decide) ?_
  refine lv_icmp_ne (tgt := 19) hx hb dX4_isNatural_2 (by decide) (fun c2_1 => ?_) (fun c2_1 => ?_)
  · skip
    refine lv_iconst (v := 0) hx hb dX4_isNatural_19 (by decide) ?_
    exact W.zret (v := 0) hx hb hr rfl (fun t ht hW => ⟨_, rfl, (by unfold naB; simp [c2_1, bI]; done), ht⟩) (fun q hq => absurd hq List.not_mem_nil) dX4_isNatural_20
  · skip
    refine lv_iload_n hx hb dX4_isNatural_5 rfl (lv_at hl 1 rfl) ?_
    refine lv_aload_n hx hb dX4_isNatural_6 rfl (lv_at hl 0 rfl) ?_
    refine va_get (D := D) (ci := 4) (v := .ref h1) (C := RX4) (T := TX4) (N := 1) hx hb hts in_X4_isNatural_X4 hown hK hP 0 rfl rfl 0 (by decide) (hts _ wd_X4_isNatural_0) (fun _ h9 => h9) rfl dX4_isNatural_7 ?_
    refine lv_iconst (v := 0) hx hb dX4_isNatural_10 (by decide) ?_
    refine va_iald hx hb hK hP 1 0 rfl rfl (show ¬ ((0 : Int32) < 0 ∨ 7 ≤ (0 : Int32).toNatClampNeg) by decide) dX4_isNatural_11 ?_
    refine lv_topi (fun z_2 ez_2 => ?_)
    obtain rfl : z_2 = (w 0) := ez_2
    refine lv_icmp_ne (tgt := 19) hx hb dX4_isNatural_12 (by decide) (fun c12_3 => ?_) (fun c12_3 => ?_)
    · skip
      refine lv_iconst (v := 0) hx hb dX4_isNatural_19 (by decide) ?_
      exact W.zret (v := 0) hx hb hr rfl (fun t ht hW => ⟨_, rfl, (by unfold naB; simp [c2_1, c12_3, bI]; done), ht⟩) (fun q hq => absurd hq List.not_mem_nil) dX4_isNatural_20
    · skip
      refine lv_iconst (v := 1) hx hb dX4_isNatural_15 (by decide) ?_
      refine lv_goto (tgt := 20) hx hb dX4_isNatural_16 (by decide) ?_
      exact W.zret (v := 1) hx hb hr rfl (fun t ht hW => ⟨_, rfl, (by unfold naB; simp [c2_1, c12_3, bI]; done), ht⟩) (fun q hq => absurd hq List.not_mem_nil) dX4_isNatural_20

set_option maxRecDepth 20000 in
theorem in_X5_settle_X5 : ∀ w ∈ wsX50, w ∈ wsX5_settle := by decide +kernel
set_option maxRecDepth 20000 in
theorem wd_X5_settle_0 : Cond.fieldLink RX5 32 "ShoeTable" "hand" "LShoeTable$Hand;" ∈ wsX5_settle := by decide +kernel
set_option maxRecDepth 20000 in
theorem in_X5_settle_X1 : ∀ w ∈ wsX10, w ∈ wsX5_settle := by decide +kernel
set_option maxRecDepth 20000 in
theorem wd_X5_settle_1 : Cond.fieldLink RX5 112 "ShoeTable$Hand" "size" "I" ∈ wsX5_settle := by decide +kernel
set_option maxRecDepth 20000 in
theorem wd_X5_settle_2 : Cond.fieldLink RX5 54 "ShoeTable" "up" "I" ∈ wsX5_settle := by decide +kernel
set_option maxRecDepth 20000 in
theorem wd_X5_settle_3 : Cond.fieldLink RX5 10 "ShoeTable" "rules" "LShoeTable$Rules;" ∈ wsX5_settle := by decide +kernel
set_option maxRecDepth 20000 in
theorem wd_X5_settle_4 : Cond.fieldLink RX5 122 "ShoeTable$Hand" "sum" "I" ∈ wsX5_settle := by decide +kernel
set_option maxRecDepth 20000 in
theorem wd_X5_settle_5 : Cond.fieldLink RX5 58 "ShoeTable" "bank" "I" ∈ wsX5_settle := by decide +kernel
set_option maxHeartbeats 400000 in
set_option maxRecDepth 100000 in
/-- X5_settle -/
theorem c_X5_settle (l : Launch) (D : va_G) (cI cJ cQ : ClassId) (sz : Nat) (h0 : Nat) (tr : Nat) (tc : Nat) (tg : Nat) (tf : Nat) (th : Nat) (tm : Nat) (to : Nat) (tp : Nat) (up : Int32) (bank : Int32) (chain : Int64) (told : Bool) (ur : Nat) (w : Nat → Int32) (uc : Nat) (tot : Int32) (f : Nat → Int32) (ug : Nat) (totg : Int32) (fg : Nat → Int32) (uh : Nat) (n0 : Int32) (sm : Int32) (ace : Bool) (g : Nat → Int32) (cc : Nat → Nat) (hc : cntI f cc) (htt : tot = sm10 f) (htg : totg = sm10 fg) : Met l yX5_settle wsX5_settle ({ frames := 4, cells := 0, slots := 0, locals := 89 }) (va_Pc [.ref h0] (mP D (gTy cI cJ cQ) [(h0, .inr (5, [.ref tr, .ref tc, .ref tg, .ref tf, .ref th, .ref tm, .ref to, .ref tp, .int up, .int bank, .long chain, .int (bI told)])), (tr, .inr (4, [.ref ur])), (ur, .inl (cI, 7, .inl w)), (tc, .inr (0, [.ref uc, .int tot])), (uc, .inl (cI, 11, .inl f)), (tg, .inr (0, [.ref ug, .int totg])), (ug, .inl (cI, 11, .inl fg)), (th, .inr (1, [.ref uh, .int n0, .int sm, .int (bI ace)])), (uh, .inl (cI, 12, .inl g))] sz)) (va_Qi (fun (r : Int32) (u : Int32 × Int32 × Int32 × Int32 × Bool × (Nat → Int32) × (Nat → Int32) × Int64 × Int32 × Int32) => match u with | (bank2, up2, n2, sm2, ace2, f2, fg2, ch2, tot2, totg2) => if n0 = 0 ∨ up = -1 then r = -1002 ∧ bank2 = bank ∧ up2 = up ∧ n2 = n0 ∧ sm2 = sm ∧ ace2 = ace ∧ f2 = f ∧ fg2 = fg ∧ ch2 = chain ∧ tot2 = tot ∧ totg2 = totg else bank2 = bank + r ∧ up2 = -1 ∧ n2 = 0 ∧ sm2 = 0 ∧ ace2 = false ∧ ∃ e : Int32, (f2, fg2, ch2, e) = sePl w f fg chain up sm ∧ tot2 = sm10 f2 ∧ totg2 = sm10 fg2 ∧ r = stC w (vlC w sm ace) (naB w (vlC w sm ace) n0) e) (fun (u : Int32 × Int32 × Int32 × Int32 × Bool × (Nat → Int32) × (Nat → Int32) × Int64 × Int32 × Int32) t => match u with | (bank2, up2, n2, sm2, ace2, f2, fg2, ch2, tot2, totg2) => mB D (gTy cI cJ cQ) (va_A [(h0, .inr (5, [.ref tr, .ref tc, .ref tg, .ref tf, .ref th, .ref tm, .ref to, .ref tp, .int up, .int bank, .long chain, .int (bI told)])), (tr, .inr (4, [.ref ur])), (ur, .inl (cI, 7, .inl w)), (tc, .inr (0, [.ref uc, .int tot])), (uc, .inl (cI, 11, .inl f)), (tg, .inr (0, [.ref ug, .int totg])), (ug, .inl (cI, 11, .inl fg)), (th, .inr (1, [.ref uh, .int n0, .int sm, .int (bI ace)])), (uh, .inl (cI, 12, .inl g))] sz) [(h0, .inr (5, [.ref tr, .ref tc, .ref tg, .ref tf, .ref th, .ref tm, .ref to, .ref tp, .int up2, .int bank2, .long ch2, .int (bI told)])), (tr, .inr (4, [.ref ur])), (ur, .inl (cI, 7, .inl w)), (tc, .inr (0, [.ref uc, .int tot2])), (uc, .inl (cI, 11, .inl f2)), (tg, .inr (0, [.ref ug, .int totg2])), (ug, .inl (cI, 11, .inl fg2)), (th, .inr (1, [.ref uh, .int n2, .int sm2, .int (bI ace2)])), (uh, .inl (cI, 12, .inl g))] t) (va_A [(h0, .inr (5, [.ref tr, .ref tc, .ref tg, .ref tf, .ref th, .ref tm, .ref to, .ref tp, .int up, .int bank, .long chain, .int (bI told)])), (tr, .inr (4, [.ref ur])), (ur, .inl (cI, 7, .inl w)), (tc, .inr (0, [.ref uc, .int tot])), (uc, .inl (cI, 11, .inl f)), (tg, .inr (0, [.ref ug, .int totg])), (ug, .inl (cI, 11, .inl fg)), (th, .inr (1, [.ref uh, .int n0, .int sm, .int (bI ace)])), (uh, .inl (cI, 12, .inl g))] sz)) 0 0 (va_A [(h0, .inr (5, [.ref tr, .ref tc, .ref tg, .ref tf, .ref th, .ref tm, .ref to, .ref tp, .int up, .int bank, .long chain, .int (bI told)])), (tr, .inr (4, [.ref ur])), (ur, .inl (cI, 7, .inl w)), (tc, .inr (0, [.ref uc, .int tot])), (uc, .inl (cI, 11, .inl f)), (tg, .inr (0, [.ref ug, .int totg])), (ug, .inl (cI, 11, .inl fg)), (th, .inr (1, [.ref uh, .int n0, .int sm, .int (bI ace)])), (uh, .inl (cI, 12, .inl g))] sz) := by
  refine Met.ofW (cc := cX5_settle) (maxL := 4) (ret := (some .int)) (by decide) rfl ?_
  intro p e s m args below meth c s₁ B hml hv
  obtain ⟨rfl, hsz, hP, hK, hD0⟩ := hv
  have hx := B.exec
  have hb := B.bytes
  have hr := B.returns
  have hts := atoms_spec (ws := wsX5_settle) B.pre
  have hown : s.vm.findClass RX5 = some m.cls := findClass_of_methodNamed B.named
  have hlocks := B.notSynchronized
  subst hsz
  have hD := hD0.self (sz := s.heap.size)
  generalize hAe : va_A [(h0, .inr (5, [.ref tr, .ref tc, .ref tg, .ref tf, .ref th, .ref tm, .ref to, .ref tp, .int up, .int bank, .long chain, .int (bI told)])), (tr, .inr (4, [.ref ur])), (ur, .inl (cI, 7, .inl w)), (tc, .inr (0, [.ref uc, .int tot])), (uc, .inl (cI, 11, .inl f)), (tg, .inr (0, [.ref ug, .int totg])), (ug, .inl (cI, 11, .inl fg)), (th, .inr (1, [.ref uh, .int n0, .int sm, .int (bI ace)])), (uh, .inl (cI, 12, .inl g))] s.heap.size = A at hD ⊢
  have hA : ∀ q : Nat, s.heap.size ≤ q → A q := fun q h => by rw [← hAe]; exact Or.inr h
  have hS : va_S A s.heap s.heap [] := va_S.rf
  have hP : va_P D vwCl [(h0, .inr (5, [.ref tr, .ref tc, .ref tg, .ref tf, .ref th, .ref tm, .ref to, .ref tp, .int up, .int bank, .long chain, .int (bI told)])), (tr, .inr (4, [.ref ur])), (ur, .inl (cI, 7, .inl w)), (tc, .inr (0, [.ref uc, .int tot])), (uc, .inl (cI, 11, .inl f)), (tg, .inr (0, [.ref ug, .int totg])), (ug, .inl (cI, 11, .inl fg)), (th, .inr (1, [.ref uh, .int n0, .int sm, .int (bI ace)])), (uh, .inl (cI, 12, .inl g))] s.heap := hP
  have hl := lv_entry ([.ref h0]) (n := 4) (Nat.le_of_ble_eq_true rfl)
  rw [lg_entry_eq]
  generalize (lg_sl ([.ref h0]) ++ List.replicate (4 - (lg_sl ([.ref h0])).length) Slot.unset).toArray = ls at hl ⊢
  have hl : lv_has ls 4 [(0, .ref h0)] := hl
  refine lv_aload_n hx hb dX5_settle_0 rfl (lv_at hl 0 rfl) ?_
  refine va_get (D := D) (ci := 5) (v := .ref th) (C := RX5) (T := TX5) (N := 12) hx hb hts in_X5_settle_X5 hown hK hP 0 rfl rfl 4 (by decide) (hts _ wd_X5_settle_0) (fun _ h9 => h9) rfl dX5_settle_1 ?_
  refine va_get (D := D) (ci := 1) (v := .int n0) (C := RX1) (T := TX1) (N := 4) hx hb hts in_X5_settle_X1 hown hK hP 7 rfl rfl 1 (by decide) (hts _ wd_X5_settle_1) (fun _ h9 => h9) rfl dX5_settle_4 ?_
  refine lv_if_eq (tgt := 18) hx hb dX5_settle_7 (by decide) (fun c7_1 => ?_) (fun c7_1 => ?_)
  · skip
    refine lv_sipush (v := (-1002)) hx hb dX5_settle_18 (by decide) ?_
    have hP9 := hP.sub (ws' := [(h0, .inr (5, [.ref tr, .ref tc, .ref tg, .ref tf, .ref th, .ref tm, .ref to, .ref tp, .int up, .int bank, .long chain, .int (bI told)])), (tr, .inr (4, [.ref ur])), (ur, .inl (cI, 7, .inl w)), (tc, .inr (0, [.ref uc, .int tot])), (uc, .inl (cI, 11, .inl f)), (tg, .inr (0, [.ref ug, .int totg])), (ug, .inl (cI, 11, .inl fg)), (th, .inr (1, [.ref uh, .int n0, .int sm, .int (bI ace)])), (uh, .inl (cI, 12, .inl g))]) [0, 1, 2, 3, 4, 5, 6, 7, 8] rfl
    have hD9 := hD.sub (ws' := [(h0, .inr (5, [.ref tr, .ref tc, .ref tg, .ref tf, .ref th, .ref tm, .ref to, .ref tp, .int up, .int bank, .long chain, .int (bI told)])), (tr, .inr (4, [.ref ur])), (ur, .inl (cI, 7, .inl w)), (tc, .inr (0, [.ref uc, .int tot])), (uc, .inl (cI, 11, .inl f)), (tg, .inr (0, [.ref ug, .int totg])), (ug, .inl (cI, 11, .inl fg)), (th, .inr (1, [.ref uh, .int n0, .int sm, .int (bI ace)])), (uh, .inl (cI, 12, .inl g))]) [0, 1, 2, 3, 4, 5, 6, 7, 8] (by decide) rfl
    exact W.iret (v := (-1002)) hx hb hr (fun t ht hW => ⟨⟨(-1002), (bank, up, n0, sm, ace, (f), (fg), chain, tot, totg), rfl, (by dsimp only; rw [if_pos (Or.inl c7_1)]; exact ⟨rfl, rfl, rfl, rfl, rfl, rfl, rfl, rfl, rfl, rfl, rfl⟩), by rw [ht]; exact hP9, va_K.moved hW.alike hK, hD9⟩, hS.F ht⟩) hS.2.2 dX5_settle_21
  · skip
    refine lv_aload_n hx hb dX5_settle_10 rfl (lv_at hl 0 rfl) ?_
    refine va_get (D := D) (ci := 5) (v := .int up) (C := RX5) (T := TX5) (N := 12) hx hb hts in_X5_settle_X5 hown hK hP 0 rfl rfl 8 (by decide) (hts _ wd_X5_settle_2) (fun _ h9 => h9) rfl dX5_settle_11 ?_
    refine lv_iconst (v := (-1)) hx hb dX5_settle_14 (by decide) ?_
    refine lv_icmp_ne (tgt := 22) hx hb dX5_settle_15 (by decide) (fun c15_2 => ?_) (fun c15_2 => ?_)
    · skip
      refine lv_aload_n hx hb dX5_settle_22 rfl (lv_at hl 0 rfl) ?_
      refine va_get (D := D) (ci := 5) (v := .ref tr) (C := RX5) (T := TX5) (N := 12) hx hb hts in_X5_settle_X5 hown hK hP 0 rfl rfl 0 (by decide) (hts _ wd_X5_settle_3) (fun _ h9 => h9) rfl dX5_settle_23 ?_
      refine lv_aload_n hx hb dX5_settle_26 rfl (lv_at hl 0 rfl) ?_
      refine va_get (D := D) (ci := 5) (v := .ref th) (C := RX5) (T := TX5) (N := 12) hx hb hts in_X5_settle_X5 hown hK hP 0 rfl rfl 4 (by decide) (hts _ wd_X5_settle_0) (fun _ h9 => h9) rfl dX5_settle_27 ?_
      refine va_get (D := D) (ci := 1) (v := .int sm) (C := RX1) (T := TX1) (N := 4) hx hb hts in_X5_settle_X1 hown hK hP 7 rfl rfl 2 (by decide) (hts _ wd_X5_settle_4) (fun _ h9 => h9) rfl dX5_settle_30 ?_
      have hPc := hP.sub (ws' := [(tr, .inr (4, [.ref ur])), (ur, .inl (cI, 7, .inl w))]) [1, 2] rfl
      refine vp_callSi (W.runV (As := [.int sm]) (rest := []) ⟨hx, hb, hml, hown, hts⟩ (c_X4_isBustV l D cI cJ cQ tr ur (w) sm) (cwV 1 hts gX5_settle_X4_isBust rfl rfl rfl (by decide +kernel) ⟨Nat.le_of_ble_eq_true rfl, Nat.le_of_ble_eq_true rfl⟩) (rP_preV (ci := 4) (q0 := 0) hPc hK rfl rfl) rfl rfl hl.1 rfl (lv_room (Nat.le_of_ble_eq_true rfl)) dX5_settle_33 ⟨Nat.le_of_ble_eq_true rfl, Nat.le_of_ble_eq_true rfl⟩) (fun r_3 hr_3 => ?_)
      subst hr_3
      refine lv_if_eq (tgt := 43) hx hb dX5_settle_36 (by decide) (fun c36_4 => ?_) (fun c36_4 => ?_)
      · skip
        refine lv_aload_n hx hb dX5_settle_43 rfl (lv_at hl 0 rfl) ?_
        have hPc := hP.sub (ws' := [(h0, .inr (5, [.ref tr, .ref tc, .ref tg, .ref tf, .ref th, .ref tm, .ref to, .ref tp, .int up, .int bank, .long chain, .int (bI told)])), (tr, .inr (4, [.ref ur])), (ur, .inl (cI, 7, .inl w)), (tc, .inr (0, [.ref uc, .int tot])), (uc, .inl (cI, 11, .inl f)), (tg, .inr (0, [.ref ug, .int totg])), (ug, .inl (cI, 11, .inl fg))]) [0, 1, 2, 3, 4, 5, 6] rfl
        have hDc := hD.sub (ws' := [(h0, .inr (5, [.ref tr, .ref tc, .ref tg, .ref tf, .ref th, .ref tm, .ref to, .ref tp, .int up, .int bank, .long chain, .int (bI told)])), (tr, .inr (4, [.ref ur])), (ur, .inl (cI, 7, .inl w)), (tc, .inr (0, [.ref uc, .int tot])), (uc, .inl (cI, 11, .inl f)), (tg, .inr (0, [.ref ug, .int totg])), (ug, .inl (cI, 11, .inl fg))]) [0, 1, 2, 3, 4, 5, 6] (by decide) rfl
        have hFc := va_free (wc := [(h0, .inr (5, [.ref tr, .ref tc, .ref tg, .ref tf, .ref th, .ref tm, .ref to, .ref tp, .int up, .int bank, .long chain, .int (bI told)])), (tr, .inr (4, [.ref ur])), (ur, .inl (cI, 7, .inl w)), (tc, .inr (0, [.ref uc, .int tot])), (uc, .inl (cI, 11, .inl f)), (tg, .inr (0, [.ref ug, .int totg])), (ug, .inl (cI, 11, .inl fg))]) hD hS hA [0, 1, 2, 3, 4, 5, 6] rfl
        refine va_calli (va_runV (As := []) (rest := []) ⟨hx, hb, hml, hown, hts⟩ (c_X5_playHouse l D cI cJ cQ _ h0 tr tc tg tf th tm to tp up bank chain told ur (w) uc tot (f) ug totg (fg) cc hc htt htg) (cwV 0 hts gX5_settle_X5_playHouse rfl rfl rfl (by decide +kernel) ⟨Nat.le_of_ble_eq_true rfl, Nat.le_of_ble_eq_true rfl⟩) (mP_preV (ci := 5) (q0 := 0) hPc hK hDc rfl rfl) rfl rfl hl.1 rfl (lv_room (Nat.le_of_ble_eq_true rfl)) dX5_settle_44 ⟨Nat.le_of_ble_eq_true rfl, Nat.le_of_ble_eq_true rfl⟩) hS (fun q _ h => hFc q h) hFc (fun r_5 u_r_5 t H1 locs ht hvm hr_5 hB hz1 hk1 hS => ?_)
        obtain ⟨tot2_6, f2_7, totg2_8, fg2_9, ch2_10⟩ := u_r_5
        obtain ⟨hP1, hK1, hD1⟩ := hB
        rw [ht] at hP1
        try dsimp only at hr_5
        obtain ⟨hP, hD⟩ := va_join (wr := [(th, .inr (1, [.ref uh, .int n0, .int sm, .int (bI ace)])), (uh, .inl (cI, 12, .inl g))]) (w1 := [(h0, .inr (5, [.ref tr, .ref tc, .ref tg, .ref tf, .ref th, .ref tm, .ref to, .ref tp, .int up, .int bank, .long ch2_10, .int (bI told)])), (tr, .inr (4, [.ref ur])), (ur, .inl (cI, 7, .inl (w))), (tc, .inr (0, [.ref uc, .int tot2_6])), (uc, .inl (cI, 11, .inl f2_7)), (tg, .inr (0, [.ref ug, .int totg2_8])), (ug, .inl (cI, 11, .inl fg2_9))]) hP hD [0, 1, 2, 3, 4, 5, 6] [7, 8] rfl rfl (by decide) (by decide) hk1 hFc hP1 hD1
        generalize H1 = H at hP hS ⊢
        have hP : va_P D vwCl [(th, .inr (1, [.ref uh, .int n0, .int sm, .int (bI ace)])), (uh, .inl (cI, 12, .inl g)), (h0, .inr (5, [.ref tr, .ref tc, .ref tg, .ref tf, .ref th, .ref tm, .ref to, .ref tp, .int up, .int bank, .long ch2_10, .int (bI told)])), (tr, .inr (4, [.ref ur])), (ur, .inl (cI, 7, .inl (w))), (tc, .inr (0, [.ref uc, .int tot2_6])), (uc, .inl (cI, 11, .inl f2_7)), (tg, .inr (0, [.ref ug, .int totg2_8])), (ug, .inl (cI, 11, .inl fg2_9))] H := hP
        have hD : va_D A [(th, .inr (1, [.ref uh, .int n0, .int sm, .int (bI ace)])), (uh, .inl (cI, 12, .inl g)), (h0, .inr (5, [.ref tr, .ref tc, .ref tg, .ref tf, .ref th, .ref tm, .ref to, .ref tp, .int up, .int bank, .long ch2_10, .int (bI told)])), (tr, .inr (4, [.ref ur])), (ur, .inl (cI, 7, .inl (w))), (tc, .inr (0, [.ref uc, .int tot2_6])), (uc, .inl (cI, 11, .inl f2_7)), (tg, .inr (0, [.ref ug, .int totg2_8])), (ug, .inl (cI, 11, .inl fg2_9))] := hD
        refine lv_istore_n (lv' := [(1, .int r_5), (0, .ref h0)]) hx hb dX5_settle_47 rfl hl (by decide) rfl (fun ls hl => ?_)
        refine lv_aload_n hx hb dX5_settle_48 rfl (lv_at hl 1 rfl) ?_
        refine va_get (D := D) (ci := 5) (v := .ref tr) (C := RX5) (T := TX5) (N := 12) hx hb hts in_X5_settle_X5 hown hK hP 2 rfl rfl 0 (by decide) (hts _ wd_X5_settle_3) (fun _ h9 => h9) rfl dX5_settle_49 ?_
        refine lv_aload_n hx hb dX5_settle_52 rfl (lv_at hl 1 rfl) ?_
        have hPc := hP.sub (ws' := [(h0, .inr (5, [.ref tr, .ref tc, .ref tg, .ref tf, .ref th, .ref tm, .ref to, .ref tp, .int up, .int bank, .long ch2_10, .int (bI told)])), (tr, .inr (4, [.ref ur])), (ur, .inl (cI, 7, .inl (w))), (th, .inr (1, [.ref uh, .int n0, .int sm, .int (bI ace)]))]) [2, 3, 4, 0] rfl
        refine vp_callSi (W.runV (As := []) (rest := [.ref tr]) ⟨hx, hb, hml, hown, hts⟩ (c_X5_handValue l D cI cJ cQ h0 tr tc tg tf th tm to tp up bank ch2_10 told ur ((w)) uh n0 sm ace) (cwV 0 hts gX5_settle_X5_handValue rfl rfl rfl (by decide +kernel) ⟨Nat.le_of_ble_eq_true rfl, Nat.le_of_ble_eq_true rfl⟩) (rP_preV (ci := 5) (q0 := 0) hPc hK rfl rfl) rfl rfl hl.1 rfl (lv_room (Nat.le_of_ble_eq_true rfl)) dX5_settle_53 ⟨Nat.le_of_ble_eq_true rfl, Nat.le_of_ble_eq_true rfl⟩) (fun r_11 hr_11 => ?_)
        subst hr_11
        refine lv_aload_n hx hb dX5_settle_56 rfl (lv_at hl 1 rfl) ?_
        refine va_get (D := D) (ci := 5) (v := .ref th) (C := RX5) (T := TX5) (N := 12) hx hb hts in_X5_settle_X5 hown hK hP 2 rfl rfl 4 (by decide) (hts _ wd_X5_settle_0) (fun _ h9 => h9) rfl dX5_settle_57 ?_
        refine va_get (D := D) (ci := 1) (v := .int n0) (C := RX1) (T := TX1) (N := 4) hx hb hts in_X5_settle_X1 hown hK hP 0 rfl rfl 1 (by decide) (hts _ wd_X5_settle_1) (fun _ h9 => h9) rfl dX5_settle_60 ?_
        have hPc := hP.sub (ws' := [(tr, .inr (4, [.ref ur])), (ur, .inl (cI, 7, .inl (w)))]) [3, 4] rfl
        refine vp_callSi (W.runV (As := [.int (vlC ((w)) sm ace), .int n0]) (rest := []) ⟨hx, hb, hml, hown, hts⟩ (c_X4_isNaturalB l D cI cJ cQ tr ur ((w)) (vlC ((w)) sm ace) n0) (cwV 2 hts gX5_settle_X4_isNatural rfl rfl rfl (by decide +kernel) ⟨Nat.le_of_ble_eq_true rfl, Nat.le_of_ble_eq_true rfl⟩) (rP_preV (ci := 4) (q0 := 0) hPc hK rfl rfl) rfl rfl hl.1 rfl (lv_room (Nat.le_of_ble_eq_true rfl)) dX5_settle_63 ⟨Nat.le_of_ble_eq_true rfl, Nat.le_of_ble_eq_true rfl⟩) (fun r_12 hr_12 => ?_)
        subst hr_12
        refine lv_istore_n (lv' := [(2, .int (bI (naB ((w)) (vlC ((w)) sm ace) n0))), (1, .int r_5), (0, .ref h0)]) hx hb dX5_settle_66 rfl hl (by decide) rfl (fun ls hl => ?_)
        refine lv_aload_n hx hb dX5_settle_67 rfl (lv_at hl 2 rfl) ?_
        refine va_get (D := D) (ci := 5) (v := .ref tr) (C := RX5) (T := TX5) (N := 12) hx hb hts in_X5_settle_X5 hown hK hP 2 rfl rfl 0 (by decide) (hts _ wd_X5_settle_3) (fun _ h9 => h9) rfl dX5_settle_68 ?_
        refine lv_aload_n hx hb dX5_settle_71 rfl (lv_at hl 2 rfl) ?_
        have hPc := hP.sub (ws' := [(h0, .inr (5, [.ref tr, .ref tc, .ref tg, .ref tf, .ref th, .ref tm, .ref to, .ref tp, .int up, .int bank, .long ch2_10, .int (bI told)])), (tr, .inr (4, [.ref ur])), (ur, .inl (cI, 7, .inl (w))), (th, .inr (1, [.ref uh, .int n0, .int sm, .int (bI ace)]))]) [2, 3, 4, 0] rfl
        refine vp_callSi (W.runV (As := []) (rest := [.ref tr]) ⟨hx, hb, hml, hown, hts⟩ (c_X5_handValue l D cI cJ cQ h0 tr tc tg tf th tm to tp up bank ch2_10 told ur ((w)) uh n0 sm ace) (cwV 0 hts gX5_settle_X5_handValue rfl rfl rfl (by decide +kernel) ⟨Nat.le_of_ble_eq_true rfl, Nat.le_of_ble_eq_true rfl⟩) (rP_preV (ci := 5) (q0 := 0) hPc hK rfl rfl) rfl rfl hl.1 rfl (lv_room (Nat.le_of_ble_eq_true rfl)) dX5_settle_72 ⟨Nat.le_of_ble_eq_true rfl, Nat.le_of_ble_eq_true rfl⟩) (fun r_13 hr_13 => ?_)
        subst hr_13
        refine lv_iload_n hx hb dX5_settle_75 rfl (lv_at hl 0 rfl) ?_
        refine lv_iload_n hx hb dX5_settle_76 rfl (lv_at hl 1 rfl) ?_
        have hPc := hP.sub (ws' := [(tr, .inr (4, [.ref ur])), (ur, .inl (cI, 7, .inl (w)))]) [3, 4] rfl
        refine vp_callSi (W.runV (As := [.int (vlC ((w)) sm ace), .int (bI (naB ((w)) (vlC ((w)) sm ace) n0)), .int r_5]) (rest := []) ⟨hx, hb, hml, hown, hts⟩ (c_X4_settledV l D cI cJ cQ tr ur ((w)) (vlC ((w)) sm ace) (naB ((w)) (vlC ((w)) sm ace) n0) r_5) (cwV 3 hts gX5_settle_X4_settled rfl rfl rfl (by decide +kernel) ⟨Nat.le_of_ble_eq_true rfl, Nat.le_of_ble_eq_true rfl⟩) (rP_preV (ci := 4) (q0 := 0) hPc hK rfl rfl) rfl rfl hl.1 rfl (lv_room (Nat.le_of_ble_eq_true rfl)) dX5_settle_77 ⟨Nat.le_of_ble_eq_true rfl, Nat.le_of_ble_eq_true rfl⟩) (fun r_14 hr_14 => ?_)
        subst hr_14
        refine lv_istore_n (lv' := [(3, .int (stC ((w)) (vlC ((w)) sm ace) (naB ((w)) (vlC ((w)) sm ace) n0) r_5)), (2, .int (bI (naB ((w)) (vlC ((w)) sm ace) n0))), (1, .int r_5), (0, .ref h0)]) hx hb dX5_settle_80 rfl hl (by decide) rfl (fun ls hl => ?_)
        refine lv_aload_n hx hb dX5_settle_81 rfl (lv_at hl 3 rfl) ?_
        refine lv_dup hx hb dX5_settle_82 rfl ?_
        refine va_get (D := D) (ci := 5) (v := .int bank) (C := RX5) (T := TX5) (N := 12) hx hb hts in_X5_settle_X5 hown hK hP 2 rfl rfl 9 (by decide) (hts _ wd_X5_settle_5) (fun _ h9 => h9) rfl dX5_settle_83 ?_
        refine lv_iload_n hx hb dX5_settle_86 rfl (lv_at hl 0 rfl) ?_
        refine lv_iadd hx hb dX5_settle_87 ?_
        refine va_put (D := D) (ci := 5) (v := .int (bank + (stC ((w)) (vlC ((w)) sm ace) (naB ((w)) (vlC ((w)) sm ace) n0) r_5))) (ty := .int) (C := RX5) (T := TX5) (N := 12) hx hb hts in_X5_settle_X5 tyX5 tyX5_ok nmX5 hown hK hP hD hS 2 rfl rfl 9 (by decide) (hts _ wd_X5_settle_5) (fun _ h9 => h9) rfl (by decide +kernel) rfl rfl (Nat.le_of_ble_eq_true rfl) dX5_settle_88 (fun H locs hP hD hS => ?_)
        have hP : va_P D vwCl [(th, .inr (1, [.ref uh, .int n0, .int sm, .int (bI ace)])), (uh, .inl (cI, 12, .inl g)), (h0, .inr (5, [.ref tr, .ref tc, .ref tg, .ref tf, .ref th, .ref tm, .ref to, .ref tp, .int up, .int (bank + (stC ((w)) (vlC ((w)) sm ace) (naB ((w)) (vlC ((w)) sm ace) n0) r_5)), .long ch2_10, .int (bI told)])), (tr, .inr (4, [.ref ur])), (ur, .inl (cI, 7, .inl (w))), (tc, .inr (0, [.ref uc, .int tot2_6])), (uc, .inl (cI, 11, .inl f2_7)), (tg, .inr (0, [.ref ug, .int totg2_8])), (ug, .inl (cI, 11, .inl fg2_9))] H := hP
        have hD : va_D A [(th, .inr (1, [.ref uh, .int n0, .int sm, .int (bI ace)])), (uh, .inl (cI, 12, .inl g)), (h0, .inr (5, [.ref tr, .ref tc, .ref tg, .ref tf, .ref th, .ref tm, .ref to, .ref tp, .int up, .int (bank + (stC ((w)) (vlC ((w)) sm ace) (naB ((w)) (vlC ((w)) sm ace) n0) r_5)), .long ch2_10, .int (bI told)])), (tr, .inr (4, [.ref ur])), (ur, .inl (cI, 7, .inl (w))), (tc, .inr (0, [.ref uc, .int tot2_6])), (uc, .inl (cI, 11, .inl f2_7)), (tg, .inr (0, [.ref ug, .int totg2_8])), (ug, .inl (cI, 11, .inl fg2_9))] := hD
        refine lv_aload_n hx hb dX5_settle_91 rfl (lv_at hl 3 rfl) ?_
        have hPc := hP.sub (ws' := [(h0, .inr (5, [.ref tr, .ref tc, .ref tg, .ref tf, .ref th, .ref tm, .ref to, .ref tp, .int up, .int (bank + (stC ((w)) (vlC ((w)) sm ace) (naB ((w)) (vlC ((w)) sm ace) n0) r_5)), .long ch2_10, .int (bI told)])), (th, .inr (1, [.ref uh, .int n0, .int sm, .int (bI ace)])), (uh, .inl (cI, 12, .inl g))]) [2, 0, 1] rfl
        have hDc := hD.sub (ws' := [(h0, .inr (5, [.ref tr, .ref tc, .ref tg, .ref tf, .ref th, .ref tm, .ref to, .ref tp, .int up, .int (bank + (stC ((w)) (vlC ((w)) sm ace) (naB ((w)) (vlC ((w)) sm ace) n0) r_5)), .long ch2_10, .int (bI told)])), (th, .inr (1, [.ref uh, .int n0, .int sm, .int (bI ace)])), (uh, .inl (cI, 12, .inl g))]) [2, 0, 1] (by decide) rfl
        have hFc := va_free (wc := [(h0, .inr (5, [.ref tr, .ref tc, .ref tg, .ref tf, .ref th, .ref tm, .ref to, .ref tp, .int up, .int (bank + (stC ((w)) (vlC ((w)) sm ace) (naB ((w)) (vlC ((w)) sm ace) n0) r_5)), .long ch2_10, .int (bI told)])), (th, .inr (1, [.ref uh, .int n0, .int sm, .int (bI ace)])), (uh, .inl (cI, 12, .inl g))]) hD hS hA [2, 0, 1] rfl
        refine va_callv (va_runV (As := []) (rest := []) ⟨hx, hb, hml, hown, hts⟩ (c_X5_clearTable l D cI cJ cQ _ h0 tr tc tg tf th tm to tp up (bank + (stC ((w)) (vlC ((w)) sm ace) (naB ((w)) (vlC ((w)) sm ace) n0) r_5)) ch2_10 told uh n0 sm ace (g)) (cwV 0 hts gX5_settle_X5_clearTable rfl rfl rfl (by decide +kernel) ⟨Nat.le_of_ble_eq_true rfl, Nat.le_of_ble_eq_true rfl⟩) (mP_preV (ci := 5) (q0 := 0) hPc hK hDc rfl rfl) rfl rfl hl.1 rfl (lv_room (Nat.le_of_ble_eq_true rfl)) dX5_settle_92 ⟨Nat.le_of_ble_eq_true rfl, Nat.le_of_ble_eq_true rfl⟩) hS (fun q _ h => hFc q h) hFc (fun u_r_15 t H1 locs ht hvm hr_15 hB hz1 hk1 hS => ?_)
        obtain ⟨hP1, hK1, hD1⟩ := hB
        rw [ht] at hP1
        try dsimp only at hr_15
        obtain ⟨hP, hD⟩ := va_join (wr := [(tr, .inr (4, [.ref ur])), (ur, .inl (cI, 7, .inl (w))), (tc, .inr (0, [.ref uc, .int tot2_6])), (uc, .inl (cI, 11, .inl f2_7)), (tg, .inr (0, [.ref ug, .int totg2_8])), (ug, .inl (cI, 11, .inl fg2_9))]) (w1 := [(h0, .inr (5, [.ref tr, .ref tc, .ref tg, .ref tf, .ref th, .ref tm, .ref to, .ref tp, .int (-1), .int (bank + (stC ((w)) (vlC ((w)) sm ace) (naB ((w)) (vlC ((w)) sm ace) n0) r_5)), .long ch2_10, .int (bI told)])), (th, .inr (1, [.ref uh, .int 0, .int 0, .int 0])), (uh, .inl (cI, 12, .inl (g)))]) hP hD [2, 0, 1] [3, 4, 5, 6, 7, 8] rfl rfl (by decide) (by decide) hk1 hFc hP1 hD1
        generalize H1 = H at hP hS ⊢
        have hP : va_P D vwCl [(tr, .inr (4, [.ref ur])), (ur, .inl (cI, 7, .inl (w))), (tc, .inr (0, [.ref uc, .int tot2_6])), (uc, .inl (cI, 11, .inl f2_7)), (tg, .inr (0, [.ref ug, .int totg2_8])), (ug, .inl (cI, 11, .inl fg2_9)), (h0, .inr (5, [.ref tr, .ref tc, .ref tg, .ref tf, .ref th, .ref tm, .ref to, .ref tp, .int (-1), .int (bank + (stC ((w)) (vlC ((w)) sm ace) (naB ((w)) (vlC ((w)) sm ace) n0) r_5)), .long ch2_10, .int (bI told)])), (th, .inr (1, [.ref uh, .int 0, .int 0, .int 0])), (uh, .inl (cI, 12, .inl (g)))] H := hP
        have hD : va_D A [(tr, .inr (4, [.ref ur])), (ur, .inl (cI, 7, .inl (w))), (tc, .inr (0, [.ref uc, .int tot2_6])), (uc, .inl (cI, 11, .inl f2_7)), (tg, .inr (0, [.ref ug, .int totg2_8])), (ug, .inl (cI, 11, .inl fg2_9)), (h0, .inr (5, [.ref tr, .ref tc, .ref tg, .ref tf, .ref th, .ref tm, .ref to, .ref tp, .int (-1), .int (bank + (stC ((w)) (vlC ((w)) sm ace) (naB ((w)) (vlC ((w)) sm ace) n0) r_5)), .long ch2_10, .int (bI told)])), (th, .inr (1, [.ref uh, .int 0, .int 0, .int 0])), (uh, .inl (cI, 12, .inl (g)))] := hD
        refine lv_iload_n hx hb dX5_settle_95 rfl (lv_at hl 0 rfl) ?_
        have hP9 := hP.sub (ws' := [(h0, .inr (5, [.ref tr, .ref tc, .ref tg, .ref tf, .ref th, .ref tm, .ref to, .ref tp, .int (-1), .int (bank + (stC ((w)) (vlC ((w)) sm ace) (naB ((w)) (vlC ((w)) sm ace) n0) r_5)), .long ch2_10, .int (bI told)])), (tr, .inr (4, [.ref ur])), (ur, .inl (cI, 7, .inl (w))), (tc, .inr (0, [.ref uc, .int tot2_6])), (uc, .inl (cI, 11, .inl f2_7)), (tg, .inr (0, [.ref ug, .int totg2_8])), (ug, .inl (cI, 11, .inl fg2_9)), (th, .inr (1, [.ref uh, .int 0, .int 0, .int 0])), (uh, .inl (cI, 12, .inl (g)))]) [6, 0, 1, 2, 3, 4, 5, 7, 8] rfl
        have hD9 := hD.sub (ws' := [(h0, .inr (5, [.ref tr, .ref tc, .ref tg, .ref tf, .ref th, .ref tm, .ref to, .ref tp, .int (-1), .int (bank + (stC ((w)) (vlC ((w)) sm ace) (naB ((w)) (vlC ((w)) sm ace) n0) r_5)), .long ch2_10, .int (bI told)])), (tr, .inr (4, [.ref ur])), (ur, .inl (cI, 7, .inl (w))), (tc, .inr (0, [.ref uc, .int tot2_6])), (uc, .inl (cI, 11, .inl f2_7)), (tg, .inr (0, [.ref ug, .int totg2_8])), (ug, .inl (cI, 11, .inl fg2_9)), (th, .inr (1, [.ref uh, .int 0, .int 0, .int 0])), (uh, .inl (cI, 12, .inl (g)))]) [6, 0, 1, 2, 3, 4, 5, 7, 8] (by decide) rfl
        exact W.iret (v := (stC ((w)) (vlC ((w)) sm ace) (naB ((w)) (vlC ((w)) sm ace) n0) r_5)) hx hb hr (fun t ht hW => ⟨⟨(stC ((w)) (vlC ((w)) sm ace) (naB ((w)) (vlC ((w)) sm ace) n0) r_5), ((bank + (stC ((w)) (vlC ((w)) sm ace) (naB ((w)) (vlC ((w)) sm ace) n0) r_5)), (-1), 0, 0, false, (f2_7), (fg2_9), ch2_10, tot2_6, totg2_8), rfl, (by dsimp only; rw [if_neg (fun z9 => z9.elim c7_1 c15_2)]; exact ⟨rfl, rfl, rfl, rfl, rfl, _, sePl_0 c36_4 hr_5.2.2, hr_5.1, hr_5.2.1, rfl⟩), by rw [ht]; exact hP9, va_K.moved hW.alike hK, hD9⟩, hS.F ht⟩) hS.2.2 dX5_settle_96
      · skip
        refine lv_iconst (v := 0) hx hb dX5_settle_39 (by decide) ?_
        refine lv_goto (tgt := 47) hx hb dX5_settle_40 (by decide) ?_
        refine lv_istore_n (lv' := [(1, .int 0), (0, .ref h0)]) hx hb dX5_settle_47 rfl hl (by decide) rfl (fun ls hl => ?_)
        refine lv_aload_n hx hb dX5_settle_48 rfl (lv_at hl 1 rfl) ?_
        refine va_get (D := D) (ci := 5) (v := .ref tr) (C := RX5) (T := TX5) (N := 12) hx hb hts in_X5_settle_X5 hown hK hP 0 rfl rfl 0 (by decide) (hts _ wd_X5_settle_3) (fun _ h9 => h9) rfl dX5_settle_49 ?_
        refine lv_aload_n hx hb dX5_settle_52 rfl (lv_at hl 1 rfl) ?_
        have hPc := hP.sub (ws' := [(h0, .inr (5, [.ref tr, .ref tc, .ref tg, .ref tf, .ref th, .ref tm, .ref to, .ref tp, .int up, .int bank, .long chain, .int (bI told)])), (tr, .inr (4, [.ref ur])), (ur, .inl (cI, 7, .inl w)), (th, .inr (1, [.ref uh, .int n0, .int sm, .int (bI ace)]))]) [0, 1, 2, 7] rfl
        refine vp_callSi (W.runV (As := []) (rest := [.ref tr]) ⟨hx, hb, hml, hown, hts⟩ (c_X5_handValue l D cI cJ cQ h0 tr tc tg tf th tm to tp up bank chain told ur (w) uh n0 sm ace) (cwV 0 hts gX5_settle_X5_handValue rfl rfl rfl (by decide +kernel) ⟨Nat.le_of_ble_eq_true rfl, Nat.le_of_ble_eq_true rfl⟩) (rP_preV (ci := 5) (q0 := 0) hPc hK rfl rfl) rfl rfl hl.1 rfl (lv_room (Nat.le_of_ble_eq_true rfl)) dX5_settle_53 ⟨Nat.le_of_ble_eq_true rfl, Nat.le_of_ble_eq_true rfl⟩) (fun r_16 hr_16 => ?_)
        subst hr_16
        refine lv_aload_n hx hb dX5_settle_56 rfl (lv_at hl 1 rfl) ?_
        refine va_get (D := D) (ci := 5) (v := .ref th) (C := RX5) (T := TX5) (N := 12) hx hb hts in_X5_settle_X5 hown hK hP 0 rfl rfl 4 (by decide) (hts _ wd_X5_settle_0) (fun _ h9 => h9) rfl dX5_settle_57 ?_
        refine va_get (D := D) (ci := 1) (v := .int n0) (C := RX1) (T := TX1) (N := 4) hx hb hts in_X5_settle_X1 hown hK hP 7 rfl rfl 1 (by decide) (hts _ wd_X5_settle_1) (fun _ h9 => h9) rfl dX5_settle_60 ?_
        have hPc := hP.sub (ws' := [(tr, .inr (4, [.ref ur])), (ur, .inl (cI, 7, .inl w))]) [1, 2] rfl
        refine vp_callSi (W.runV (As := [.int (vlC (w) sm ace), .int n0]) (rest := []) ⟨hx, hb, hml, hown, hts⟩ (c_X4_isNaturalB l D cI cJ cQ tr ur (w) (vlC (w) sm ace) n0) (cwV 2 hts gX5_settle_X4_isNatural rfl rfl rfl (by decide +kernel) ⟨Nat.le_of_ble_eq_true rfl, Nat.le_of_ble_eq_true rfl⟩) (rP_preV (ci := 4) (q0 := 0) hPc hK rfl rfl) rfl rfl hl.1 rfl (lv_room (Nat.le_of_ble_eq_true rfl)) dX5_settle_63 ⟨Nat.le_of_ble_eq_true rfl, Nat.le_of_ble_eq_true rfl⟩) (fun r_17 hr_17 => ?_)
        subst hr_17
        refine lv_istore_n (lv' := [(2, .int (bI (naB (w) (vlC (w) sm ace) n0))), (1, .int 0), (0, .ref h0)]) hx hb dX5_settle_66 rfl hl (by decide) rfl (fun ls hl => ?_)
        refine lv_aload_n hx hb dX5_settle_67 rfl (lv_at hl 2 rfl) ?_
        refine va_get (D := D) (ci := 5) (v := .ref tr) (C := RX5) (T := TX5) (N := 12) hx hb hts in_X5_settle_X5 hown hK hP 0 rfl rfl 0 (by decide) (hts _ wd_X5_settle_3) (fun _ h9 => h9) rfl dX5_settle_68 ?_
        refine lv_aload_n hx hb dX5_settle_71 rfl (lv_at hl 2 rfl) ?_
        have hPc := hP.sub (ws' := [(h0, .inr (5, [.ref tr, .ref tc, .ref tg, .ref tf, .ref th, .ref tm, .ref to, .ref tp, .int up, .int bank, .long chain, .int (bI told)])), (tr, .inr (4, [.ref ur])), (ur, .inl (cI, 7, .inl w)), (th, .inr (1, [.ref uh, .int n0, .int sm, .int (bI ace)]))]) [0, 1, 2, 7] rfl
        refine vp_callSi (W.runV (As := []) (rest := [.ref tr]) ⟨hx, hb, hml, hown, hts⟩ (c_X5_handValue l D cI cJ cQ h0 tr tc tg tf th tm to tp up bank chain told ur (w) uh n0 sm ace) (cwV 0 hts gX5_settle_X5_handValue rfl rfl rfl (by decide +kernel) ⟨Nat.le_of_ble_eq_true rfl, Nat.le_of_ble_eq_true rfl⟩) (rP_preV (ci := 5) (q0 := 0) hPc hK rfl rfl) rfl rfl hl.1 rfl (lv_room (Nat.le_of_ble_eq_true rfl)) dX5_settle_72 ⟨Nat.le_of_ble_eq_true rfl, Nat.le_of_ble_eq_true rfl⟩) (fun r_18 hr_18 => ?_)
        subst hr_18
        refine lv_iload_n hx hb dX5_settle_75 rfl (lv_at hl 0 rfl) ?_
        refine lv_iload_n hx hb dX5_settle_76 rfl (lv_at hl 1 rfl) ?_
        have hPc := hP.sub (ws' := [(tr, .inr (4, [.ref ur])), (ur, .inl (cI, 7, .inl w))]) [1, 2] rfl
        refine vp_callSi (W.runV (As := [.int (vlC (w) sm ace), .int (bI (naB (w) (vlC (w) sm ace) n0)), .int 0]) (rest := []) ⟨hx, hb, hml, hown, hts⟩ (c_X4_settledV l D cI cJ cQ tr ur (w) (vlC (w) sm ace) (naB (w) (vlC (w) sm ace) n0) 0) (cwV 3 hts gX5_settle_X4_settled rfl rfl rfl (by decide +kernel) ⟨Nat.le_of_ble_eq_true rfl, Nat.le_of_ble_eq_true rfl⟩) (rP_preV (ci := 4) (q0 := 0) hPc hK rfl rfl) rfl rfl hl.1 rfl (lv_room (Nat.le_of_ble_eq_true rfl)) dX5_settle_77 ⟨Nat.le_of_ble_eq_true rfl, Nat.le_of_ble_eq_true rfl⟩) (fun r_19 hr_19 => ?_)
        subst hr_19
        refine lv_istore_n (lv' := [(3, .int (stC (w) (vlC (w) sm ace) (naB (w) (vlC (w) sm ace) n0) (0 : Int32))), (2, .int (bI (naB (w) (vlC (w) sm ace) n0))), (1, .int 0), (0, .ref h0)]) hx hb dX5_settle_80 rfl hl (by decide) rfl (fun ls hl => ?_)
        refine lv_aload_n hx hb dX5_settle_81 rfl (lv_at hl 3 rfl) ?_
        refine lv_dup hx hb dX5_settle_82 rfl ?_
        refine va_get (D := D) (ci := 5) (v := .int bank) (C := RX5) (T := TX5) (N := 12) hx hb hts in_X5_settle_X5 hown hK hP 0 rfl rfl 9 (by decide) (hts _ wd_X5_settle_5) (fun _ h9 => h9) rfl dX5_settle_83 ?_
        refine lv_iload_n hx hb dX5_settle_86 rfl (lv_at hl 0 rfl) ?_
        refine lv_iadd hx hb dX5_settle_87 ?_
        refine va_put (D := D) (ci := 5) (v := .int (bank + (stC (w) (vlC (w) sm ace) (naB (w) (vlC (w) sm ace) n0) (0 : Int32)))) (ty := .int) (C := RX5) (T := TX5) (N := 12) hx hb hts in_X5_settle_X5 tyX5 tyX5_ok nmX5 hown hK hP hD hS 0 rfl rfl 9 (by decide) (hts _ wd_X5_settle_5) (fun _ h9 => h9) rfl (by decide +kernel) rfl rfl (Nat.le_of_ble_eq_true rfl) dX5_settle_88 (fun H locs hP hD hS => ?_)
        have hP : va_P D vwCl [(h0, .inr (5, [.ref tr, .ref tc, .ref tg, .ref tf, .ref th, .ref tm, .ref to, .ref tp, .int up, .int (bank + (stC (w) (vlC (w) sm ace) (naB (w) (vlC (w) sm ace) n0) (0 : Int32))), .long chain, .int (bI told)])), (tr, .inr (4, [.ref ur])), (ur, .inl (cI, 7, .inl w)), (tc, .inr (0, [.ref uc, .int tot])), (uc, .inl (cI, 11, .inl f)), (tg, .inr (0, [.ref ug, .int totg])), (ug, .inl (cI, 11, .inl fg)), (th, .inr (1, [.ref uh, .int n0, .int sm, .int (bI ace)])), (uh, .inl (cI, 12, .inl g))] H := hP
        have hD : va_D A [(h0, .inr (5, [.ref tr, .ref tc, .ref tg, .ref tf, .ref th, .ref tm, .ref to, .ref tp, .int up, .int (bank + (stC (w) (vlC (w) sm ace) (naB (w) (vlC (w) sm ace) n0) (0 : Int32))), .long chain, .int (bI told)])), (tr, .inr (4, [.ref ur])), (ur, .inl (cI, 7, .inl w)), (tc, .inr (0, [.ref uc, .int tot])), (uc, .inl (cI, 11, .inl f)), (tg, .inr (0, [.ref ug, .int totg])), (ug, .inl (cI, 11, .inl fg)), (th, .inr (1, [.ref uh, .int n0, .int sm, .int (bI ace)])), (uh, .inl (cI, 12, .inl g))] := hD
        refine lv_aload_n hx hb dX5_settle_91 rfl (lv_at hl 3 rfl) ?_
        have hPc := hP.sub (ws' := [(h0, .inr (5, [.ref tr, .ref tc, .ref tg, .ref tf, .ref th, .ref tm, .ref to, .ref tp, .int up, .int (bank + (stC (w) (vlC (w) sm ace) (naB (w) (vlC (w) sm ace) n0) (0 : Int32))), .long chain, .int (bI told)])), (th, .inr (1, [.ref uh, .int n0, .int sm, .int (bI ace)])), (uh, .inl (cI, 12, .inl g))]) [0, 7, 8] rfl
        have hDc := hD.sub (ws' := [(h0, .inr (5, [.ref tr, .ref tc, .ref tg, .ref tf, .ref th, .ref tm, .ref to, .ref tp, .int up, .int (bank + (stC (w) (vlC (w) sm ace) (naB (w) (vlC (w) sm ace) n0) (0 : Int32))), .long chain, .int (bI told)])), (th, .inr (1, [.ref uh, .int n0, .int sm, .int (bI ace)])), (uh, .inl (cI, 12, .inl g))]) [0, 7, 8] (by decide) rfl
        have hFc := va_free (wc := [(h0, .inr (5, [.ref tr, .ref tc, .ref tg, .ref tf, .ref th, .ref tm, .ref to, .ref tp, .int up, .int (bank + (stC (w) (vlC (w) sm ace) (naB (w) (vlC (w) sm ace) n0) (0 : Int32))), .long chain, .int (bI told)])), (th, .inr (1, [.ref uh, .int n0, .int sm, .int (bI ace)])), (uh, .inl (cI, 12, .inl g))]) hD hS hA [0, 7, 8] rfl
        refine va_callv (va_runV (As := []) (rest := []) ⟨hx, hb, hml, hown, hts⟩ (c_X5_clearTable l D cI cJ cQ _ h0 tr tc tg tf th tm to tp up (bank + (stC (w) (vlC (w) sm ace) (naB (w) (vlC (w) sm ace) n0) (0 : Int32))) chain told uh n0 sm ace (g)) (cwV 0 hts gX5_settle_X5_clearTable rfl rfl rfl (by decide +kernel) ⟨Nat.le_of_ble_eq_true rfl, Nat.le_of_ble_eq_true rfl⟩) (mP_preV (ci := 5) (q0 := 0) hPc hK hDc rfl rfl) rfl rfl hl.1 rfl (lv_room (Nat.le_of_ble_eq_true rfl)) dX5_settle_92 ⟨Nat.le_of_ble_eq_true rfl, Nat.le_of_ble_eq_true rfl⟩) hS (fun q _ h => hFc q h) hFc (fun u_r_20 t H1 locs ht hvm hr_20 hB hz1 hk1 hS => ?_)
        obtain ⟨hP1, hK1, hD1⟩ := hB
        rw [ht] at hP1
        try dsimp only at hr_20
        obtain ⟨hP, hD⟩ := va_join (wr := [(tr, .inr (4, [.ref ur])), (ur, .inl (cI, 7, .inl w)), (tc, .inr (0, [.ref uc, .int tot])), (uc, .inl (cI, 11, .inl f)), (tg, .inr (0, [.ref ug, .int totg])), (ug, .inl (cI, 11, .inl fg))]) (w1 := [(h0, .inr (5, [.ref tr, .ref tc, .ref tg, .ref tf, .ref th, .ref tm, .ref to, .ref tp, .int (-1), .int (bank + (stC (w) (vlC (w) sm ace) (naB (w) (vlC (w) sm ace) n0) (0 : Int32))), .long chain, .int (bI told)])), (th, .inr (1, [.ref uh, .int 0, .int 0, .int 0])), (uh, .inl (cI, 12, .inl (g)))]) hP hD [0, 7, 8] [1, 2, 3, 4, 5, 6] rfl rfl (by decide) (by decide) hk1 hFc hP1 hD1
        generalize H1 = H at hP hS ⊢
        have hP : va_P D vwCl [(tr, .inr (4, [.ref ur])), (ur, .inl (cI, 7, .inl w)), (tc, .inr (0, [.ref uc, .int tot])), (uc, .inl (cI, 11, .inl f)), (tg, .inr (0, [.ref ug, .int totg])), (ug, .inl (cI, 11, .inl fg)), (h0, .inr (5, [.ref tr, .ref tc, .ref tg, .ref tf, .ref th, .ref tm, .ref to, .ref tp, .int (-1), .int (bank + (stC (w) (vlC (w) sm ace) (naB (w) (vlC (w) sm ace) n0) (0 : Int32))), .long chain, .int (bI told)])), (th, .inr (1, [.ref uh, .int 0, .int 0, .int 0])), (uh, .inl (cI, 12, .inl (g)))] H := hP
        have hD : va_D A [(tr, .inr (4, [.ref ur])), (ur, .inl (cI, 7, .inl w)), (tc, .inr (0, [.ref uc, .int tot])), (uc, .inl (cI, 11, .inl f)), (tg, .inr (0, [.ref ug, .int totg])), (ug, .inl (cI, 11, .inl fg)), (h0, .inr (5, [.ref tr, .ref tc, .ref tg, .ref tf, .ref th, .ref tm, .ref to, .ref tp, .int (-1), .int (bank + (stC (w) (vlC (w) sm ace) (naB (w) (vlC (w) sm ace) n0) (0 : Int32))), .long chain, .int (bI told)])), (th, .inr (1, [.ref uh, .int 0, .int 0, .int 0])), (uh, .inl (cI, 12, .inl (g)))] := hD
        refine lv_iload_n hx hb dX5_settle_95 rfl (lv_at hl 0 rfl) ?_
        have hP9 := hP.sub (ws' := [(h0, .inr (5, [.ref tr, .ref tc, .ref tg, .ref tf, .ref th, .ref tm, .ref to, .ref tp, .int (-1), .int (bank + (stC (w) (vlC (w) sm ace) (naB (w) (vlC (w) sm ace) n0) (0 : Int32))), .long chain, .int (bI told)])), (tr, .inr (4, [.ref ur])), (ur, .inl (cI, 7, .inl w)), (tc, .inr (0, [.ref uc, .int tot])), (uc, .inl (cI, 11, .inl f)), (tg, .inr (0, [.ref ug, .int totg])), (ug, .inl (cI, 11, .inl fg)), (th, .inr (1, [.ref uh, .int 0, .int 0, .int 0])), (uh, .inl (cI, 12, .inl (g)))]) [6, 0, 1, 2, 3, 4, 5, 7, 8] rfl
        have hD9 := hD.sub (ws' := [(h0, .inr (5, [.ref tr, .ref tc, .ref tg, .ref tf, .ref th, .ref tm, .ref to, .ref tp, .int (-1), .int (bank + (stC (w) (vlC (w) sm ace) (naB (w) (vlC (w) sm ace) n0) (0 : Int32))), .long chain, .int (bI told)])), (tr, .inr (4, [.ref ur])), (ur, .inl (cI, 7, .inl w)), (tc, .inr (0, [.ref uc, .int tot])), (uc, .inl (cI, 11, .inl f)), (tg, .inr (0, [.ref ug, .int totg])), (ug, .inl (cI, 11, .inl fg)), (th, .inr (1, [.ref uh, .int 0, .int 0, .int 0])), (uh, .inl (cI, 12, .inl (g)))]) [6, 0, 1, 2, 3, 4, 5, 7, 8] (by decide) rfl
        exact W.iret (v := (stC (w) (vlC (w) sm ace) (naB (w) (vlC (w) sm ace) n0) (0 : Int32))) hx hb hr (fun t ht hW => ⟨⟨(stC (w) (vlC (w) sm ace) (naB (w) (vlC (w) sm ace) n0) (0 : Int32)), ((bank + (stC (w) (vlC (w) sm ace) (naB (w) (vlC (w) sm ace) n0) (0 : Int32))), (-1), 0, 0, false, (f), (fg), chain, tot, totg), rfl, (by dsimp only; rw [if_neg (fun z9 => z9.elim c7_1 c15_2)]; exact ⟨rfl, rfl, rfl, rfl, rfl, _, sePl_1 c36_4, htt, htg, rfl⟩), by rw [ht]; exact hP9, va_K.moved hW.alike hK, hD9⟩, hS.F ht⟩) hS.2.2 dX5_settle_96
    · skip
      refine lv_sipush (v := (-1002)) hx hb dX5_settle_18 (by decide) ?_
      have hP9 := hP.sub (ws' := [(h0, .inr (5, [.ref tr, .ref tc, .ref tg, .ref tf, .ref th, .ref tm, .ref to, .ref tp, .int up, .int bank, .long chain, .int (bI told)])), (tr, .inr (4, [.ref ur])), (ur, .inl (cI, 7, .inl w)), (tc, .inr (0, [.ref uc, .int tot])), (uc, .inl (cI, 11, .inl f)), (tg, .inr (0, [.ref ug, .int totg])), (ug, .inl (cI, 11, .inl fg)), (th, .inr (1, [.ref uh, .int n0, .int sm, .int (bI ace)])), (uh, .inl (cI, 12, .inl g))]) [0, 1, 2, 3, 4, 5, 6, 7, 8] rfl
      have hD9 := hD.sub (ws' := [(h0, .inr (5, [.ref tr, .ref tc, .ref tg, .ref tf, .ref th, .ref tm, .ref to, .ref tp, .int up, .int bank, .long chain, .int (bI told)])), (tr, .inr (4, [.ref ur])), (ur, .inl (cI, 7, .inl w)), (tc, .inr (0, [.ref uc, .int tot])), (uc, .inl (cI, 11, .inl f)), (tg, .inr (0, [.ref ug, .int totg])), (ug, .inl (cI, 11, .inl fg)), (th, .inr (1, [.ref uh, .int n0, .int sm, .int (bI ace)])), (uh, .inl (cI, 12, .inl g))]) [0, 1, 2, 3, 4, 5, 6, 7, 8] (by decide) rfl
      exact W.iret (v := (-1002)) hx hb hr (fun t ht hW => ⟨⟨(-1002), (bank, up, n0, sm, ace, (f), (fg), chain, tot, totg), rfl, (by dsimp only; rw [if_pos (Or.inr c15_2)]; exact ⟨rfl, rfl, rfl, rfl, rfl, rfl, rfl, rfl, rfl, rfl, rfl⟩), by rw [ht]; exact hP9, va_K.moved hW.alike hK, hD9⟩, hS.F ht⟩) hS.2.2 dX5_settle_21
