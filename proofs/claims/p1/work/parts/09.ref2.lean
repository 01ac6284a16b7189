set_option maxRecDepth 20000 in
theorem in_X6_rule_X6 : ∀ w ∈ wsX60, w ∈ wsX6_rule := by decide +kernel
set_option maxRecDepth 20000 in
theorem wd_X6_rule_0 : Cond.fieldLink RX6 29 "ShoeTableModel" "stands" "I" ∈ wsX6_rule := by decide +kernel
set_option maxRecDepth 20000 in
theorem wd_X6_rule_1 : Cond.constantLong RX6 108 (11) ∈ wsX6_rule := by decide +kernel
set_option maxRecDepth 20000 in
theorem wd_X6_rule_2 : Cond.constantLong RX6 110 (21) ∈ wsX6_rule := by decide +kernel
set_option maxRecDepth 20000 in
theorem ggX6_rule_X6_in : GoodIn wsX6_rule wsX6_in := goodIn_r _ [17] (by decide +kernel) (by decide +kernel)
set_option maxRecDepth 20000 in
theorem gX6_rule_X6_in : GoodIn wsX6_rule (va_wsS RX6 88 yX6_in wsX6_in) := goodIn_app (goodIn_of _ (by decide +kernel)) ggX6_rule_X6_in
set_option maxRecDepth 20000 in
theorem wd_X6_rule_3 : Cond.constantLong RX6 116 (6) ∈ wsX6_rule := by decide +kernel
set_option maxRecDepth 20000 in
theorem wd_X6_rule_4 : Cond.constantLong RX6 86 (10) ∈ wsX6_rule := by decide +kernel
set_option maxRecDepth 20000 in
theorem wd_X6_rule_5 : Cond.fieldLink RX6 25 "ShoeTableModel" "target" "I" ∈ wsX6_rule := by decide +kernel
set_option maxHeartbeats 400000 in
set_option maxRecDepth 100000 in
/-- X6_rule -/
theorem c_X6_rule_0 (l : Launch) (D : va_G) (cI cJ cQ : ClassId) (sz : Nat) (m0 : Nat) (ms : Nat) (mf : Nat) (mw : Nat) (mk : Nat) (mh : Nat) (q0 : Nat) (q1 : Nat) (q2 : Nat) (q3 : Nat) (q4 : Nat) (q5 : Nat) (q6 : Nat) (q7 : Nat) (k0 : Nat) (k1 : Nat) (k2 : Nat) (k3 : Nat) (p1 : Int32)  : Met l yX6_rule wsX6_rule ({ frames := 1, cells := 0, slots := 0, locals := 25 }) (va_Pc [.ref m0, .int 0, .int p1] (mP D (gTy cI cJ cQ) [(m0, .inr (6, [.ref ms, .ref mf, .ref mw, .ref mk, .int 0, .ref mh, .int 0, .int 0, .int 21, .int 17, .int 0, .int 1, .int 1, .int 1, .int 3, .long 1, .int 0, .ref q0, .ref q1, .ref q2, .int 0, .ref q3, .ref q4, .ref q5, .ref q6, .ref q7, .int 0, .int 0, .int 0, .int 0, .int 0, .int 0, .int 0, .int 0, .int 0, .ref k0, .ref k1, .ref k2, .ref k3]))] sz)) (va_Qi (fun (r : Int32) (u : Unit) => match u with | _ => r = ruleS 0 p1) (fun (u : Unit) t => match u with | _ => mB D (gTy cI cJ cQ) (va_A [(m0, .inr (6, [.ref ms, .ref mf, .ref mw, .ref mk, .int 0, .ref mh, .int 0, .int 0, .int 21, .int 17, .int 0, .int 1, .int 1, .int 1, .int 3, .long 1, .int 0, .ref q0, .ref q1, .ref q2, .int 0, .ref q3, .ref q4, .ref q5, .ref q6, .ref q7, .int 0, .int 0, .int 0, .int 0, .int 0, .int 0, .int 0, .int 0, .int 0, .ref k0, .ref k1, .ref k2, .ref k3]))] sz) [] t) (va_A [(m0, .inr (6, [.ref ms, .ref mf, .ref mw, .ref mk, .int 0, .ref mh, .int 0, .int 0, .int 21, .int 17, .int 0, .int 1, .int 1, .int 1, .int 3, .long 1, .int 0, .ref q0, .ref q1, .ref q2, .int 0, .ref q3, .ref q4, .ref q5, .ref q6, .ref q7, .int 0, .int 0, .int 0, .int 0, .int 0, .int 0, .int 0, .int 0, .int 0, .ref k0, .ref k1, .ref k2, .ref k3]))] sz)) 0 0 (va_A [(m0, .inr (6, [.ref ms, .ref mf, .ref mw, .ref mk, .int 0, .ref mh, .int 0, .int 0, .int 21, .int 17, .int 0, .int 1, .int 1, .int 1, .int 3, .long 1, .int 0, .ref q0, .ref q1, .ref q2, .int 0, .ref q3, .ref q4, .ref q5, .ref q6, .ref q7, .int 0, .int 0, .int 0, .int 0, .int 0, .int 0, .int 0, .int 0, .int 0, .ref k0, .ref k1, .ref k2, .ref k3]))] sz) := by
  refine Met.ofW (cc := cX6_rule) (maxL := 7) (ret := (some .int)) (by decide) rfl ?_
  intro p e s m args below meth c s₁ B hml hv
  obtain ⟨rfl, hsz, hP, hK, hD0⟩ := hv
  have hx := B.exec
  have hb := B.bytes
  have hr := B.returns
  have hts := atoms_spec (ws := wsX6_rule) B.pre
  have hown : s.vm.findClass RX6 = some m.cls := findClass_of_methodNamed B.named
  have hlocks := B.notSynchronized
  subst hsz
  have hD := hD0.self (sz := s.heap.size)
  generalize hAe : va_A [(m0, .inr (6, [.ref ms, .ref mf, .ref mw, .ref mk, .int 0, .ref mh, .int 0, .int 0, .int 21, .int 17, .int 0, .int 1, .int 1, .int 1, .int 3, .long 1, .int 0, .ref q0, .ref q1, .ref q2, .int 0, .ref q3, .ref q4, .ref q5, .ref q6, .ref q7, .int 0, .int 0, .int 0, .int 0, .int 0, .int 0, .int 0, .int 0, .int 0, .ref k0, .ref k1, .ref k2, .ref k3]))] s.heap.size = A at hD ⊢
  have hA : ∀ q : Nat, s.heap.size ≤ q → A q := fun q h => by rw [← hAe]; exact Or.inr h
  have hS : va_S A s.heap s.heap [] := va_S.rf
  have hP : va_P D vwCl [(m0, .inr (6, [.ref ms, .ref mf, .ref mw, .ref mk, .int 0, .ref mh, .int 0, .int 0, .int 21, .int 17, .int 0, .int 1, .int 1, .int 1, .int 3, .long 1, .int 0, .ref q0, .ref q1, .ref q2, .int 0, .ref q3, .ref q4, .ref q5, .ref q6, .ref q7, .int 0, .int 0, .int 0, .int 0, .int 0, .int 0, .int 0, .int 0, .int 0, .ref k0, .ref k1, .ref k2, .ref k3]))] s.heap := hP
  have hl := lv_entry ([.ref m0, .int 0, .int p1]) (n := 7) (Nat.le_of_ble_eq_true rfl)
  rw [lg_entry_eq]
  generalize (lg_sl ([.ref m0, .int 0, .int p1]) ++ List.replicate (7 - (lg_sl ([.ref m0, .int 0, .int p1])).length) Slot.unset).toArray = ls at hl ⊢
  have hl : lv_has ls 7 [(0, .ref m0), (1, .int 0), (2, .int p1)] := hl
  refine lv_iload_n hx hb dX6_rule_0 rfl (lv_at hl 1 rfl) ?_
  refine lv_if_ne (tgt := 8) hx hb dX6_rule_1 (by decide) (fun c1_1 => ?_) (fun c1_1 => ?_)
  · exact absurd c1_1 (by decide)
  refine lv_iload_n hx hb dX6_rule_4 rfl (lv_at hl 2 rfl) ?_
  refine lv_goto (tgt := 12) hx hb dX6_rule_5 (by decide) ?_
  refine lv_istore_n (lv' := [(3, .int p1), (0, .ref m0), (1, .int 0), (2, .int p1)]) hx hb dX6_rule_12 rfl hl (by decide) rfl (fun ls hl => ?_)
  refine lv_iload_n hx hb dX6_rule_13 rfl (lv_at hl 2 rfl) ?_
  refine lv_iconst (v := 1) hx hb dX6_rule_14 (by decide) ?_
  refine lv_icmp_ne (tgt := 22) hx hb dX6_rule_15 (by decide) (fun c15_2 => ?_) (fun c15_2 => ?_)
  · skip
    refine lv_aload_n hx hb dX6_rule_22 rfl (lv_at hl 1 rfl) ?_
    refine va_get (D := D) (ci := 6) (v := .int 17) (C := RX6) (T := TX6) (N := 39) hx hb hts in_X6_rule_X6 hown hK hP 0 rfl rfl 9 (by decide) (hts _ wd_X6_rule_0) (fun _ h9 => h9) rfl dX6_rule_23 ?_
    refine lv_istore (lv' := [(4, .int 17), (3, .int p1), (0, .ref m0), (1, .int 0), (2, .int p1)]) hx hb dX6_rule_26 hl (by decide) rfl (fun ls hl => ?_)
    refine lv_iload_n hx hb dX6_rule_28 rfl (lv_at hl 3 rfl) ?_
    refine lv_iconst (v := 2) hx hb dX6_rule_29 (by decide) ?_
    refine lv_icmp_ge (tgt := 69) hx hb dX6_rule_30 (by decide) (fun c30_3 => ?_) (fun c30_3 => ?_)
    · exact absurd c30_3 (by decide)
    refine lv_iload_n hx hb dX6_rule_33 rfl (lv_at hl 1 rfl) ?_
    refine lv_i2l (v := p1.toInt64) hx hb dX6_rule_34 rfl ?_
    refine lv_ldc2 hx hb hown (hts _ wd_X6_rule_1) dX6_rule_35 ?_
    refine lv_ldc2 hx hb hown (hts _ wd_X6_rule_2) dX6_rule_38 ?_
    have hPc := hP.sub (ws' := []) [] rfl
    refine vp_callSi (W.runS (As := [.long p1.toInt64, .long 11, .long 21]) (rest := []) ⟨hx, hb, hml, hown, hts⟩ (c_X6_in l D cI cJ cQ p1.toInt64 11 21) (va_cwS 3 hts gX6_rule_X6_in rfl rfl rfl (by decide +kernel) ⟨Nat.le_of_ble_eq_true rfl, Nat.le_of_ble_eq_true rfl⟩) (rP_preS hPc hK) rfl rfl hl.1 rfl (lv_room (Nat.le_of_ble_eq_true rfl)) dX6_rule_41 ⟨Nat.le_of_ble_eq_true rfl, Nat.le_of_ble_eq_true rfl⟩) (fun r_4 hr_4 => ?_)
    subst hr_4
    refine lv_if_eq (tgt := 65) hx hb dX6_rule_44 (by decide) (fun c44_5 => ?_) (fun c44_5 => ?_)
    · skip
      refine lv_iconst (v := 0) hx hb dX6_rule_65 (by decide) ?_
      refine lv_goto (tgt := 96) hx hb dX6_rule_66 (by decide) ?_
      refine lv_istore (lv' := [(5, .int 0), (4, .int 17), (3, .int p1), (0, .ref m0), (1, .int 0), (2, .int p1)]) hx hb dX6_rule_96 hl (by decide) rfl (fun ls hl => ?_)
      refine lv_iload_n hx hb dX6_rule_98 rfl (lv_at hl 4 rfl) ?_
      refine lv_i2l (v := 0) hx hb dX6_rule_99 (by decide) ?_
      refine lv_lconst (v := 0) hx hb dX6_rule_100 (by decide) ?_
      refine lv_ldc2 hx hb hown (hts _ wd_X6_rule_3) dX6_rule_101 ?_
      have hPc := hP.sub (ws' := []) [] rfl
      refine vp_callSi (W.runS (As := [.long 0, .long 0, .long 6]) (rest := []) ⟨hx, hb, hml, hown, hts⟩ (c_X6_in l D cI cJ cQ 0 0 6) (va_cwS 3 hts gX6_rule_X6_in rfl rfl rfl (by decide +kernel) ⟨Nat.le_of_ble_eq_true rfl, Nat.le_of_ble_eq_true rfl⟩) (rP_preS hPc hK) rfl rfl hl.1 rfl (lv_room (Nat.le_of_ble_eq_true rfl)) dX6_rule_104 ⟨Nat.le_of_ble_eq_true rfl, Nat.le_of_ble_eq_true rfl⟩) (fun r_6 hr_6 => ?_)
      subst hr_6
      refine lv_topi (fun z_7 ez_7 => ?_)
      obtain rfl : z_7 = 1 := ez_7.trans (by decide)
      refine lv_if_eq (tgt := 115) hx hb dX6_rule_107 (by decide) (fun c107_8 => ?_) (fun c107_8 => ?_)
      · exact absurd c107_8 (by decide)
      refine lv_iload hx hb dX6_rule_110 (lv_at hl 0 rfl) ?_
      refine lv_if_ne (tgt := 119) hx hb dX6_rule_112 (by decide) (fun c112_9 => ?_) (fun c112_9 => ?_)
      · exact absurd c112_9 (by decide)
      refine lv_sipush (v := (-1001)) hx hb dX6_rule_115 (by decide) ?_
      have hP9 := hP.sub (ws' := []) [] rfl
      have hD9 := hD.sub (ws' := []) [] (by decide) rfl
      exact W.iret (v := (-1001)) hx hb hr (fun t ht hW => ⟨⟨(-1001), (), rfl, (rule_bad (fun z => by unfold okR at z; have e9 : (0 : Int32).toInt = 0 := (by decide); (try simp only [rl1, rl2, rl3, rl6, rl7, rl8] at c15_2); (try simp only [rl1, rl2, rl3, rl6, rl7, rl8] at c44_5); omega)), by rw [ht]; exact hP9, va_K.moved hW.alike hK, hD9⟩, hS.F ht⟩) hS.2.2 dX6_rule_118
    · skip
      refine lv_iload hx hb dX6_rule_47 (lv_at hl 0 rfl) ?_
      refine lv_i2l (v := 17) hx hb dX6_rule_49 (by decide) ?_
      refine lv_ldc2 hx hb hown (hts _ wd_X6_rule_4) dX6_rule_50 ?_
      refine lv_iload_n hx hb dX6_rule_53 rfl (lv_at hl 1 rfl) ?_
      refine lv_i2l (v := p1.toInt64) hx hb dX6_rule_54 rfl ?_
      have hPc := hP.sub (ws' := []) [] rfl
      refine vp_callSi (W.runS (As := [.long 17, .long 10, .long p1.toInt64]) (rest := []) ⟨hx, hb, hml, hown, hts⟩ (c_X6_in l D cI cJ cQ 17 10 p1.toInt64) (va_cwS 3 hts gX6_rule_X6_in rfl rfl rfl (by decide +kernel) ⟨Nat.le_of_ble_eq_true rfl, Nat.le_of_ble_eq_true rfl⟩) (rP_preS hPc hK) rfl rfl hl.1 rfl (lv_room (Nat.le_of_ble_eq_true rfl)) dX6_rule_55 ⟨Nat.le_of_ble_eq_true rfl, Nat.le_of_ble_eq_true rfl⟩) (fun r_10 hr_10 => ?_)
      subst hr_10
      refine lv_if_eq (tgt := 65) hx hb dX6_rule_58 (by decide) (fun c58_11 => ?_) (fun c58_11 => ?_)
      · skip
        refine lv_iconst (v := 0) hx hb dX6_rule_65 (by decide) ?_
        refine lv_goto (tgt := 96) hx hb dX6_rule_66 (by decide) ?_
        refine lv_istore (lv' := [(5, .int 0), (4, .int 17), (3, .int p1), (0, .ref m0), (1, .int 0), (2, .int p1)]) hx hb dX6_rule_96 hl (by decide) rfl (fun ls hl => ?_)
        refine lv_iload_n hx hb dX6_rule_98 rfl (lv_at hl 4 rfl) ?_
        refine lv_i2l (v := 0) hx hb dX6_rule_99 (by decide) ?_
        refine lv_lconst (v := 0) hx hb dX6_rule_100 (by decide) ?_
        refine lv_ldc2 hx hb hown (hts _ wd_X6_rule_3) dX6_rule_101 ?_
        have hPc := hP.sub (ws' := []) [] rfl
        refine vp_callSi (W.runS (As := [.long 0, .long 0, .long 6]) (rest := []) ⟨hx, hb, hml, hown, hts⟩ (c_X6_in l D cI cJ cQ 0 0 6) (va_cwS 3 hts gX6_rule_X6_in rfl rfl rfl (by decide +kernel) ⟨Nat.le_of_ble_eq_true rfl, Nat.le_of_ble_eq_true rfl⟩) (rP_preS hPc hK) rfl rfl hl.1 rfl (lv_room (Nat.le_of_ble_eq_true rfl)) dX6_rule_104 ⟨Nat.le_of_ble_eq_true rfl, Nat.le_of_ble_eq_true rfl⟩) (fun r_12 hr_12 => ?_)
        subst hr_12
        refine lv_topi (fun z_13 ez_13 => ?_)
        obtain rfl : z_13 = 1 := ez_13.trans (by decide)
        refine lv_if_eq (tgt := 115) hx hb dX6_rule_107 (by decide) (fun c107_14 => ?_) (fun c107_14 => ?_)
        · exact absurd c107_14 (by decide)
        refine lv_iload hx hb dX6_rule_110 (lv_at hl 0 rfl) ?_
        refine lv_if_ne (tgt := 119) hx hb dX6_rule_112 (by decide) (fun c112_15 => ?_) (fun c112_15 => ?_)
        · exact absurd c112_15 (by decide)
        refine lv_sipush (v := (-1001)) hx hb dX6_rule_115 (by decide) ?_
        have hP9 := hP.sub (ws' := []) [] rfl
        have hD9 := hD.sub (ws' := []) [] (by decide) rfl
        exact W.iret (v := (-1001)) hx hb hr (fun t ht hW => ⟨⟨(-1001), (), rfl, (rule_bad (fun z => by unfold okR at z; have e9 : (0 : Int32).toInt = 0 := (by decide); (try simp only [rl1, rl2, rl3, rl6, rl7, rl8] at c15_2); (try simp only [rl1, rl2, rl3, rl6, rl7, rl8] at c44_5); (try simp only [rl1, rl2, rl3, rl6, rl7, rl8] at c58_11); omega)), by rw [ht]; exact hP9, va_K.moved hW.alike hK, hD9⟩, hS.F ht⟩) hS.2.2 dX6_rule_118
      · skip
        refine lv_iconst (v := 1) hx hb dX6_rule_61 (by decide) ?_
        refine lv_goto (tgt := 96) hx hb dX6_rule_62 (by decide) ?_
        refine lv_istore (lv' := [(5, .int 1), (4, .int 17), (3, .int p1), (0, .ref m0), (1, .int 0), (2, .int p1)]) hx hb dX6_rule_96 hl (by decide) rfl (fun ls hl => ?_)
        refine lv_iload_n hx hb dX6_rule_98 rfl (lv_at hl 4 rfl) ?_
        refine lv_i2l (v := 0) hx hb dX6_rule_99 (by decide) ?_
        refine lv_lconst (v := 0) hx hb dX6_rule_100 (by decide) ?_
        refine lv_ldc2 hx hb hown (hts _ wd_X6_rule_3) dX6_rule_101 ?_
        have hPc := hP.sub (ws' := []) [] rfl
        refine vp_callSi (W.runS (As := [.long 0, .long 0, .long 6]) (rest := []) ⟨hx, hb, hml, hown, hts⟩ (c_X6_in l D cI cJ cQ 0 0 6) (va_cwS 3 hts gX6_rule_X6_in rfl rfl rfl (by decide +kernel) ⟨Nat.le_of_ble_eq_true rfl, Nat.le_of_ble_eq_true rfl⟩) (rP_preS hPc hK) rfl rfl hl.1 rfl (lv_room (Nat.le_of_ble_eq_true rfl)) dX6_rule_104 ⟨Nat.le_of_ble_eq_true rfl, Nat.le_of_ble_eq_true rfl⟩) (fun r_16 hr_16 => ?_)
        subst hr_16
        refine lv_topi (fun z_17 ez_17 => ?_)
        obtain rfl : z_17 = 1 := ez_17.trans (by decide)
        refine lv_if_eq (tgt := 115) hx hb dX6_rule_107 (by decide) (fun c107_18 => ?_) (fun c107_18 => ?_)
        · exact absurd c107_18 (by decide)
        refine lv_iload hx hb dX6_rule_110 (lv_at hl 0 rfl) ?_
        refine lv_if_ne (tgt := 119) hx hb dX6_rule_112 (by decide) (fun c112_19 => ?_) (fun c112_19 => ?_)
        · skip
          refine lv_iconst (v := 0) hx hb dX6_rule_119 (by decide) ?_
          refine lv_istore (lv' := [(6, .int 0), (5, .int 1), (4, .int 17), (3, .int p1), (0, .ref m0), (1, .int 0), (2, .int p1)]) hx hb dX6_rule_120 hl (by decide) rfl (fun ls hl => ?_)
          refine lv_iload_n hx hb dX6_rule_122 rfl (lv_at hl 5 rfl) ?_
          refine lv_tableIn (off := 37) (tgt := 160) hx hb dX6_rule_123 (by decide) (by decide) (by decide) (by decide) ?_
          refine lv_aload_n hx hb dX6_rule_160 rfl (lv_at hl 4 rfl) ?_
          refine va_get (D := D) (ci := 6) (v := .int 21) (C := RX6) (T := TX6) (N := 39) hx hb hts in_X6_rule_X6 hown hK hP 0 rfl rfl 8 (by decide) (hts _ wd_X6_rule_5) (fun _ h9 => h9) rfl dX6_rule_161 ?_
          refine lv_istore (lv' := [(6, .int 21), (5, .int 1), (4, .int 17), (3, .int p1), (0, .ref m0), (1, .int 0), (2, .int p1)]) hx hb dX6_rule_164 hl (by decide) rfl (fun ls hl => ?_)
          refine lv_aload_n hx hb dX6_rule_166 rfl (lv_at hl 4 rfl) ?_
          refine lv_iload_n hx hb dX6_rule_167 rfl (lv_at hl 6 rfl) ?_
          refine va_put (D := D) (ci := 6) (v := .int p1) (ty := .int) (C := RX6) (T := TX6) (N := 39) hx hb hts in_X6_rule_X6 tyX6 tyX6_ok nmX6 hown hK hP hD hS 0 rfl rfl 8 (by decide) (hts _ wd_X6_rule_5) (fun _ h9 => h9) rfl (by decide +kernel) rfl rfl (Nat.le_of_ble_eq_true rfl) dX6_rule_168 (fun H locs hP hD hS => ?_)
          have hP : va_P D vwCl [(m0, .inr (6, [.ref ms, .ref mf, .ref mw, .ref mk, .int 0, .ref mh, .int 0, .int 0, .int p1, .int 17, .int 0, .int 1, .int 1, .int 1, .int 3, .long 1, .int 0, .ref q0, .ref q1, .ref q2, .int 0, .ref q3, .ref q4, .ref q5, .ref q6, .ref q7, .int 0, .int 0, .int 0, .int 0, .int 0, .int 0, .int 0, .int 0, .int 0, .ref k0, .ref k1, .ref k2, .ref k3]))] H := hP
          have hD : va_D A [(m0, .inr (6, [.ref ms, .ref mf, .ref mw, .ref mk, .int 0, .ref mh, .int 0, .int 0, .int p1, .int 17, .int 0, .int 1, .int 1, .int 1, .int 3, .long 1, .int 0, .ref q0, .ref q1, .ref q2, .int 0, .ref q3, .ref q4, .ref q5, .ref q6, .ref q7, .int 0, .int 0, .int 0, .int 0, .int 0, .int 0, .int 0, .int 0, .int 0, .ref k0, .ref k1, .ref k2, .ref k3]))] := hD
          refine lv_goto (tgt := 255) hx hb dX6_rule_171 (by decide) ?_
          refine lv_iload hx hb dX6_rule_255 (lv_at hl 0 rfl) ?_
          have hP9 := hP.sub (ws' := []) [] rfl
          have hD9 := hD.sub (ws' := []) [] (by decide) rfl
          exact W.iret (v := 21) hx hb hr (fun t ht hW => ⟨⟨21, (), rfl, (rule_good (by unfold okR; have e9 : (0 : Int32).toInt = 0 := (by decide); (try simp only [rl1, rl2, rl3, rl6, rl7, rl8] at c15_2); (try simp only [rl1, rl2, rl3, rl6, rl7, rl8] at c44_5); (try simp only [rl1, rl2, rl3, rl6, rl7, rl8] at c58_11); (try simp only [rl1, rl2, rl3, rl6, rl7, rl8] at c112_19); omega) rfl), by rw [ht]; exact hP9, va_K.moved hW.alike hK, hD9⟩, hS.F ht⟩) hS.2.2 dX6_rule_257
        · exact absurd c112_19 (by decide)
  · exact absurd c15_2 (by decide)

set_option maxHeartbeats 400000 in
set_option maxRecDepth 100000 in
/-- X6_rule -/
theorem c_X6_rule_1 (l : Launch) (D : va_G) (cI cJ cQ : ClassId) (sz : Nat) (m0 : Nat) (ms : Nat) (mf : Nat) (mw : Nat) (mk : Nat) (mh : Nat) (q0 : Nat) (q1 : Nat) (q2 : Nat) (q3 : Nat) (q4 : Nat) (q5 : Nat) (q6 : Nat) (q7 : Nat) (k0 : Nat) (k1 : Nat) (k2 : Nat) (k3 : Nat) (p1 : Int32)  : Met l yX6_rule wsX6_rule ({ frames := 1, cells := 0, slots := 0, locals := 25 }) (va_Pc [.ref m0, .int 1, .int p1] (mP D (gTy cI cJ cQ) [(m0, .inr (6, [.ref ms, .ref mf, .ref mw, .ref mk, .int 0, .ref mh, .int 0, .int 0, .int 21, .int 17, .int 0, .int 1, .int 1, .int 1, .int 3, .long 1, .int 0, .ref q0, .ref q1, .ref q2, .int 0, .ref q3, .ref q4, .ref q5, .ref q6, .ref q7, .int 0, .int 0, .int 0, .int 0, .int 0, .int 0, .int 0, .int 0, .int 0, .ref k0, .ref k1, .ref k2, .ref k3]))] sz)) (va_Qi (fun (r : Int32) (u : Unit) => match u with | _ => r = ruleS 1 p1) (fun (u : Unit) t => match u with | _ => mB D (gTy cI cJ cQ) (va_A [(m0, .inr (6, [.ref ms, .ref mf, .ref mw, .ref mk, .int 0, .ref mh, .int 0, .int 0, .int 21, .int 17, .int 0, .int 1, .int 1, .int 1, .int 3, .long 1, .int 0, .ref q0, .ref q1, .ref q2, .int 0, .ref q3, .ref q4, .ref q5, .ref q6, .ref q7, .int 0, .int 0, .int 0, .int 0, .int 0, .int 0, .int 0, .int 0, .int 0, .ref k0, .ref k1, .ref k2, .ref k3]))] sz) [] t) (va_A [(m0, .inr (6, [.ref ms, .ref mf, .ref mw, .ref mk, .int 0, .ref mh, .int 0, .int 0, .int 21, .int 17, .int 0, .int 1, .int 1, .int 1, .int 3, .long 1, .int 0, .ref q0, .ref q1, .ref q2, .int 0, .ref q3, .ref q4, .ref q5, .ref q6, .ref q7, .int 0, .int 0, .int 0, .int 0, .int 0, .int 0, .int 0, .int 0, .int 0, .ref k0, .ref k1, .ref k2, .ref k3]))] sz)) 0 0 (va_A [(m0, .inr (6, [.ref ms, .ref mf, .ref mw, .ref mk, .int 0, .ref mh, .int 0, .int 0, .int 21, .int 17, .int 0, .int 1, .int 1, .int 1, .int 3, .long 1, .int 0, .ref q0, .ref q1, .ref q2, .int 0, .ref q3, .ref q4, .ref q5, .ref q6, .ref q7, .int 0, .int 0, .int 0, .int 0, .int 0, .int 0, .int 0, .int 0, .int 0, .ref k0, .ref k1, .ref k2, .ref k3]))] sz) := by
  refine Met.ofW (cc := cX6_rule) (maxL := 7) (ret := (some .int)) (by decide) rfl ?_
  intro p e s m args below meth c s₁ B hml hv
  obtain ⟨rfl, hsz, hP, hK, hD0⟩ := hv
  have hx := B.exec
  have hb := B.bytes
  have hr := B.returns
  have hts := atoms_spec (ws := wsX6_rule) B.pre
  have hown : s.vm.findClass RX6 = some m.cls := findClass_of_methodNamed B.named
  have hlocks := B.notSynchronized
  subst hsz
  have hD := hD0.self (sz := s.heap.size)
  generalize hAe : va_A [(m0, .inr (6, [.ref ms, .ref mf, .ref mw, .ref mk, .int 0, .ref mh, .int 0, .int 0, .int 21, .int 17, .int 0, .int 1, .int 1, .int 1, .int 3, .long 1, .int 0, .ref q0, .ref q1, .ref q2, .int 0, .ref q3, .ref q4, .ref q5, .ref q6, .ref q7, .int 0, .int 0, .int 0, .int 0, .int 0, .int 0, .int 0, .int 0, .int 0, .ref k0, .ref k1, .ref k2, .ref k3]))] s.heap.size = A at hD ⊢
  have hA : ∀ q : Nat, s.heap.size ≤ q → A q := fun q h => by rw [← hAe]; exact Or.inr h
  have hS : va_S A s.heap s.heap [] := va_S.rf
  have hP : va_P D vwCl [(m0, .inr (6, [.ref ms, .ref mf, .ref mw, .ref mk, .int 0, .ref mh, .int 0, .int 0, .int 21, .int 17, .int 0, .int 1, .int 1, .int 1, .int 3, .long 1, .int 0, .ref q0, .ref q1, .ref q2, .int 0, .ref q3, .ref q4, .ref q5, .ref q6, .ref q7, .int 0, .int 0, .int 0, .int 0, .int 0, .int 0, .int 0, .int 0, .int 0, .ref k0, .ref k1, .ref k2, .ref k3]))] s.heap := hP
  have hl := lv_entry ([.ref m0, .int 1, .int p1]) (n := 7) (Nat.le_of_ble_eq_true rfl)
  rw [lg_entry_eq]
  generalize (lg_sl ([.ref m0, .int 1, .int p1]) ++ List.replicate (7 - (lg_sl ([.ref m0, .int 1, .int p1])).length) Slot.unset).toArray = ls at hl ⊢
  have hl : lv_has ls 7 [(0, .ref m0), (1, .int 1), (2, .int p1)] := hl
  refine lv_iload_n hx hb dX6_rule_0 rfl (lv_at hl 1 rfl) ?_
  refine lv_if_ne (tgt := 8) hx hb dX6_rule_1 (by decide) (fun c1_1 => ?_) (fun c1_1 => ?_)
  · skip
    refine lv_aload_n hx hb dX6_rule_8 rfl (lv_at hl 0 rfl) ?_
    refine va_get (D := D) (ci := 6) (v := .int 21) (C := RX6) (T := TX6) (N := 39) hx hb hts in_X6_rule_X6 hown hK hP 0 rfl rfl 8 (by decide) (hts _ wd_X6_rule_5) (fun _ h9 => h9) rfl dX6_rule_9 ?_
    refine lv_istore_n (lv' := [(3, .int 21), (0, .ref m0), (1, .int 1), (2, .int p1)]) hx hb dX6_rule_12 rfl hl (by decide) rfl (fun ls hl => ?_)
    refine lv_iload_n hx hb dX6_rule_13 rfl (lv_at hl 2 rfl) ?_
    refine lv_iconst (v := 1) hx hb dX6_rule_14 (by decide) ?_
    refine lv_icmp_ne (tgt := 22) hx hb dX6_rule_15 (by decide) (fun c15_2 => ?_) (fun c15_2 => ?_)
    · exact absurd c15_2 (by decide)
    refine lv_iload_n hx hb dX6_rule_18 rfl (lv_at hl 3 rfl) ?_
    refine lv_goto (tgt := 26) hx hb dX6_rule_19 (by decide) ?_
    refine lv_istore (lv' := [(4, .int p1), (3, .int 21), (0, .ref m0), (1, .int 1), (2, .int p1)]) hx hb dX6_rule_26 hl (by decide) rfl (fun ls hl => ?_)
    refine lv_iload_n hx hb dX6_rule_28 rfl (lv_at hl 3 rfl) ?_
    refine lv_iconst (v := 2) hx hb dX6_rule_29 (by decide) ?_
    refine lv_icmp_ge (tgt := 69) hx hb dX6_rule_30 (by decide) (fun c30_3 => ?_) (fun c30_3 => ?_)
    · exact absurd c30_3 (by decide)
    refine lv_iload_n hx hb dX6_rule_33 rfl (lv_at hl 1 rfl) ?_
    refine lv_i2l (v := 21) hx hb dX6_rule_34 (by decide) ?_
    refine lv_ldc2 hx hb hown (hts _ wd_X6_rule_1) dX6_rule_35 ?_
    refine lv_ldc2 hx hb hown (hts _ wd_X6_rule_2) dX6_rule_38 ?_
    have hPc := hP.sub (ws' := []) [] rfl
    refine vp_callSi (W.runS (As := [.long 21, .long 11, .long 21]) (rest := []) ⟨hx, hb, hml, hown, hts⟩ (c_X6_in l D cI cJ cQ 21 11 21) (va_cwS 3 hts gX6_rule_X6_in rfl rfl rfl (by decide +kernel) ⟨Nat.le_of_ble_eq_true rfl, Nat.le_of_ble_eq_true rfl⟩) (rP_preS hPc hK) rfl rfl hl.1 rfl (lv_room (Nat.le_of_ble_eq_true rfl)) dX6_rule_41 ⟨Nat.le_of_ble_eq_true rfl, Nat.le_of_ble_eq_true rfl⟩) (fun r_4 hr_4 => ?_)
    subst hr_4
    refine lv_topi (fun z_5 ez_5 => ?_)
    obtain rfl : z_5 = 1 := ez_5.trans (by decide)
    refine lv_if_eq (tgt := 65) hx hb dX6_rule_44 (by decide) (fun c44_6 => ?_) (fun c44_6 => ?_)
    · exact absurd c44_6 (by decide)
    refine lv_iload hx hb dX6_rule_47 (lv_at hl 0 rfl) ?_
    refine lv_i2l (v := p1.toInt64) hx hb dX6_rule_49 rfl ?_
    refine lv_ldc2 hx hb hown (hts _ wd_X6_rule_4) dX6_rule_50 ?_
    refine lv_iload_n hx hb dX6_rule_53 rfl (lv_at hl 1 rfl) ?_
    refine lv_i2l (v := 21) hx hb dX6_rule_54 (by decide) ?_
    have hPc := hP.sub (ws' := []) [] rfl
    refine vp_callSi (W.runS (As := [.long p1.toInt64, .long 10, .long 21]) (rest := []) ⟨hx, hb, hml, hown, hts⟩ (c_X6_in l D cI cJ cQ p1.toInt64 10 21) (va_cwS 3 hts gX6_rule_X6_in rfl rfl rfl (by decide +kernel) ⟨Nat.le_of_ble_eq_true rfl, Nat.le_of_ble_eq_true rfl⟩) (rP_preS hPc hK) rfl rfl hl.1 rfl (lv_room (Nat.le_of_ble_eq_true rfl)) dX6_rule_55 ⟨Nat.le_of_ble_eq_true rfl, Nat.le_of_ble_eq_true rfl⟩) (fun r_7 hr_7 => ?_)
    subst hr_7
    refine lv_if_eq (tgt := 65) hx hb dX6_rule_58 (by decide) (fun c58_8 => ?_) (fun c58_8 => ?_)
    · skip
      refine lv_iconst (v := 0) hx hb dX6_rule_65 (by decide) ?_
      refine lv_goto (tgt := 96) hx hb dX6_rule_66 (by decide) ?_
      refine lv_istore (lv' := [(5, .int 0), (4, .int p1), (3, .int 21), (0, .ref m0), (1, .int 1), (2, .int p1)]) hx hb dX6_rule_96 hl (by decide) rfl (fun ls hl => ?_)
      refine lv_iload_n hx hb dX6_rule_98 rfl (lv_at hl 4 rfl) ?_
      refine lv_i2l (v := 1) hx hb dX6_rule_99 (by decide) ?_
      refine lv_lconst (v := 0) hx hb dX6_rule_100 (by decide) ?_
      refine lv_ldc2 hx hb hown (hts _ wd_X6_rule_3) dX6_rule_101 ?_
      have hPc := hP.sub (ws' := []) [] rfl
      refine vp_callSi (W.runS (As := [.long 1, .long 0, .long 6]) (rest := []) ⟨hx, hb, hml, hown, hts⟩ (c_X6_in l D cI cJ cQ 1 0 6) (va_cwS 3 hts gX6_rule_X6_in rfl rfl rfl (by decide +kernel) ⟨Nat.le_of_ble_eq_true rfl, Nat.le_of_ble_eq_true rfl⟩) (rP_preS hPc hK) rfl rfl hl.1 rfl (lv_room (Nat.le_of_ble_eq_true rfl)) dX6_rule_104 ⟨Nat.le_of_ble_eq_true rfl, Nat.le_of_ble_eq_true rfl⟩) (fun r_9 hr_9 => ?_)
      subst hr_9
      refine lv_topi (fun z_10 ez_10 => ?_)
      obtain rfl : z_10 = 1 := ez_10.trans (by decide)
      refine lv_if_eq (tgt := 115) hx hb dX6_rule_107 (by decide) (fun c107_11 => ?_) (fun c107_11 => ?_)
      · exact absurd c107_11 (by decide)
      refine lv_iload hx hb dX6_rule_110 (lv_at hl 0 rfl) ?_
      refine lv_if_ne (tgt := 119) hx hb dX6_rule_112 (by decide) (fun c112_12 => ?_) (fun c112_12 => ?_)
      · exact absurd c112_12 (by decide)
      refine lv_sipush (v := (-1001)) hx hb dX6_rule_115 (by decide) ?_
      have hP9 := hP.sub (ws' := []) [] rfl
      have hD9 := hD.sub (ws' := []) [] (by decide) rfl
      exact W.iret (v := (-1001)) hx hb hr (fun t ht hW => ⟨⟨(-1001), (), rfl, (rule_bad (fun z => by unfold okR at z; have e9 : (1 : Int32).toInt = 1 := (by decide); (try simp only [rl1, rl2, rl3, rl6, rl7, rl8] at c1_1); (try simp only [rl1, rl2, rl3, rl6, rl7, rl8] at c58_8); omega)), by rw [ht]; exact hP9, va_K.moved hW.alike hK, hD9⟩, hS.F ht⟩) hS.2.2 dX6_rule_118
    · skip
      refine lv_iconst (v := 1) hx hb dX6_rule_61 (by decide) ?_
      refine lv_goto (tgt := 96) hx hb dX6_rule_62 (by decide) ?_
      refine lv_istore (lv' := [(5, .int 1), (4, .int p1), (3, .int 21), (0, .ref m0), (1, .int 1), (2, .int p1)]) hx hb dX6_rule_96 hl (by decide) rfl (fun ls hl => ?_)
      refine lv_iload_n hx hb dX6_rule_98 rfl (lv_at hl 4 rfl) ?_
      refine lv_i2l (v := 1) hx hb dX6_rule_99 (by decide) ?_
      refine lv_lconst (v := 0) hx hb dX6_rule_100 (by decide) ?_
      refine lv_ldc2 hx hb hown (hts _ wd_X6_rule_3) dX6_rule_101 ?_
      have hPc := hP.sub (ws' := []) [] rfl
      refine vp_callSi (W.runS (As := [.long 1, .long 0, .long 6]) (rest := []) ⟨hx, hb, hml, hown, hts⟩ (c_X6_in l D cI cJ cQ 1 0 6) (va_cwS 3 hts gX6_rule_X6_in rfl rfl rfl (by decide +kernel) ⟨Nat.le_of_ble_eq_true rfl, Nat.le_of_ble_eq_true rfl⟩) (rP_preS hPc hK) rfl rfl hl.1 rfl (lv_room (Nat.le_of_ble_eq_true rfl)) dX6_rule_104 ⟨Nat.le_of_ble_eq_true rfl, Nat.le_of_ble_eq_true rfl⟩) (fun r_13 hr_13 => ?_)
      subst hr_13
      refine lv_topi (fun z_14 ez_14 => ?_)
      obtain rfl : z_14 = 1 := ez_14.trans (by decide)
      refine lv_if_eq (tgt := 115) hx hb dX6_rule_107 (by decide) (fun c107_15 => ?_) (fun c107_15 => ?_)
      · exact absurd c107_15 (by decide)
      refine lv_iload hx hb dX6_rule_110 (lv_at hl 0 rfl) ?_
      refine lv_if_ne (tgt := 119) hx hb dX6_rule_112 (by decide) (fun c112_16 => ?_) (fun c112_16 => ?_)
      · skip
        refine lv_iconst (v := 0) hx hb dX6_rule_119 (by decide) ?_
        refine lv_istore (lv' := [(6, .int 0), (5, .int 1), (4, .int p1), (3, .int 21), (0, .ref m0), (1, .int 1), (2, .int p1)]) hx hb dX6_rule_120 hl (by decide) rfl (fun ls hl => ?_)
        refine lv_iload_n hx hb dX6_rule_122 rfl (lv_at hl 5 rfl) ?_
        refine lv_tableIn (off := 51) (tgt := 174) hx hb dX6_rule_123 (by decide) (by decide) (by decide) (by decide) ?_
        refine lv_aload_n hx hb dX6_rule_174 rfl (lv_at hl 4 rfl) ?_
        refine va_get (D := D) (ci := 6) (v := .int 17) (C := RX6) (T := TX6) (N := 39) hx hb hts in_X6_rule_X6 hown hK hP 0 rfl rfl 9 (by decide) (hts _ wd_X6_rule_0) (fun _ h9 => h9) rfl dX6_rule_175 ?_
        refine lv_istore (lv' := [(6, .int 17), (5, .int 1), (4, .int p1), (3, .int 21), (0, .ref m0), (1, .int 1), (2, .int p1)]) hx hb dX6_rule_178 hl (by decide) rfl (fun ls hl => ?_)
        refine lv_aload_n hx hb dX6_rule_180 rfl (lv_at hl 4 rfl) ?_
        refine lv_iload_n hx hb dX6_rule_181 rfl (lv_at hl 6 rfl) ?_
        refine va_put (D := D) (ci := 6) (v := .int p1) (ty := .int) (C := RX6) (T := TX6) (N := 39) hx hb hts in_X6_rule_X6 tyX6 tyX6_ok nmX6 hown hK hP hD hS 0 rfl rfl 9 (by decide) (hts _ wd_X6_rule_0) (fun _ h9 => h9) rfl (by decide +kernel) rfl rfl (Nat.le_of_ble_eq_true rfl) dX6_rule_182 (fun H locs hP hD hS => ?_)
        have hP : va_P D vwCl [(m0, .inr (6, [.ref ms, .ref mf, .ref mw, .ref mk, .int 0, .ref mh, .int 0, .int 0, .int 21, .int p1, .int 0, .int 1, .int 1, .int 1, .int 3, .long 1, .int 0, .ref q0, .ref q1, .ref q2, .int 0, .ref q3, .ref q4, .ref q5, .ref q6, .ref q7, .int 0, .int 0, .int 0, .int 0, .int 0, .int 0, .int 0, .int 0, .int 0, .ref k0, .ref k1, .ref k2, .ref k3]))] H := hP
        have hD : va_D A [(m0, .inr (6, [.ref ms, .ref mf, .ref mw, .ref mk, .int 0, .ref mh, .int 0, .int 0, .int 21, .int p1, .int 0, .int 1, .int 1, .int 1, .int 3, .long 1, .int 0, .ref q0, .ref q1, .ref q2, .int 0, .ref q3, .ref q4, .ref q5, .ref q6, .ref q7, .int 0, .int 0, .int 0, .int 0, .int 0, .int 0, .int 0, .int 0, .int 0, .ref k0, .ref k1, .ref k2, .ref k3]))] := hD
        refine lv_goto (tgt := 255) hx hb dX6_rule_185 (by decide) ?_
        refine lv_iload hx hb dX6_rule_255 (lv_at hl 0 rfl) ?_
        have hP9 := hP.sub (ws' := []) [] rfl
        have hD9 := hD.sub (ws' := []) [] (by decide) rfl
        exact W.iret (v := 17) hx hb hr (fun t ht hW => ⟨⟨17, (), rfl, (rule_good (by unfold okR; have e9 : (1 : Int32).toInt = 1 := (by decide); (try simp only [rl1, rl2, rl3, rl6, rl7, rl8] at c1_1); (try simp only [rl1, rl2, rl3, rl6, rl7, rl8] at c58_8); (try simp only [rl1, rl2, rl3, rl6, rl7, rl8] at c112_16); omega) rfl), by rw [ht]; exact hP9, va_K.moved hW.alike hK, hD9⟩, hS.F ht⟩) hS.2.2 dX6_rule_257
      · exact absurd c112_16 (by decide)
  · exact absurd c1_1 (by decide)

set_option maxRecDepth 20000 in
theorem wd_X6_rule_6 : Cond.fieldLink RX6 118 "ShoeTableModel" "softly" "I" ∈ wsX6_rule := by decide +kernel
set_option maxHeartbeats 400000 in
set_option maxRecDepth 100000 in
/-- X6_rule -/
theorem c_X6_rule_2 (l : Launch) (D : va_G) (cI cJ cQ : ClassId) (sz : Nat) (m0 : Nat) (ms : Nat) (mf : Nat) (mw : Nat) (mk : Nat) (mh : Nat) (q0 : Nat) (q1 : Nat) (q2 : Nat) (q3 : Nat) (q4 : Nat) (q5 : Nat) (q6 : Nat) (q7 : Nat) (k0 : Nat) (k1 : Nat) (k2 : Nat) (k3 : Nat) (p1 : Int32)  : Met l yX6_rule wsX6_rule ({ frames := 1, cells := 0, slots := 0, locals := 25 }) (va_Pc [.ref m0, .int 2, .int p1] (mP D (gTy cI cJ cQ) [(m0, .inr (6, [.ref ms, .ref mf, .ref mw, .ref mk, .int 0, .ref mh, .int 0, .int 0, .int 21, .int 17, .int 0, .int 1, .int 1, .int 1, .int 3, .long 1, .int 0, .ref q0, .ref q1, .ref q2, .int 0, .ref q3, .ref q4, .ref q5, .ref q6, .ref q7, .int 0, .int 0, .int 0, .int 0, .int 0, .int 0, .int 0, .int 0, .int 0, .ref k0, .ref k1, .ref k2, .ref k3]))] sz)) (va_Qi (fun (r : Int32) (u : Unit) => match u with | _ => r = ruleS 2 p1) (fun (u : Unit) t => match u with | _ => mB D (gTy cI cJ cQ) (va_A [(m0, .inr (6, [.ref ms, .ref mf, .ref mw, .ref mk, .int 0, .ref mh, .int 0, .int 0, .int 21, .int 17, .int 0, .int 1, .int 1, .int 1, .int 3, .long 1, .int 0, .ref q0, .ref q1, .ref q2, .int 0, .ref q3, .ref q4, .ref q5, .ref q6, .ref q7, .int 0, .int 0, .int 0, .int 0, .int 0, .int 0, .int 0, .int 0, .int 0, .ref k0, .ref k1, .ref k2, .ref k3]))] sz) [] t) (va_A [(m0, .inr (6, [.ref ms, .ref mf, .ref mw, .ref mk, .int 0, .ref mh, .int 0, .int 0, .int 21, .int 17, .int 0, .int 1, .int 1, .int 1, .int 3, .long 1, .int 0, .ref q0, .ref q1, .ref q2, .int 0, .ref q3, .ref q4, .ref q5, .ref q6, .ref q7, .int 0, .int 0, .int 0, .int 0, .int 0, .int 0, .int 0, .int 0, .int 0, .ref k0, .ref k1, .ref k2, .ref k3]))] sz)) 0 0 (va_A [(m0, .inr (6, [.ref ms, .ref mf, .ref mw, .ref mk, .int 0, .ref mh, .int 0, .int 0, .int 21, .int 17, .int 0, .int 1, .int 1, .int 1, .int 3, .long 1, .int 0, .ref q0, .ref q1, .ref q2, .int 0, .ref q3, .ref q4, .ref q5, .ref q6, .ref q7, .int 0, .int 0, .int 0, .int 0, .int 0, .int 0, .int 0, .int 0, .int 0, .ref k0, .ref k1, .ref k2, .ref k3]))] sz) := by
  refine Met.ofW (cc := cX6_rule) (maxL := 7) (ret := (some .int)) (by decide) rfl ?_
  intro p e s m args below meth c s₁ B hml hv
  obtain ⟨rfl, hsz, hP, hK, hD0⟩ := hv
  have hx := B.exec
  have hb := B.bytes
  have hr := B.returns
  have hts := atoms_spec (ws := wsX6_rule) B.pre
  have hown : s.vm.findClass RX6 = some m.cls := findClass_of_methodNamed B.named
  have hlocks := B.notSynchronized
  subst hsz
  have hD := hD0.self (sz := s.heap.size)
  generalize hAe : va_A [(m0, .inr (6, [.ref ms, .ref mf, .ref mw, .ref mk, .int 0, .ref mh, .int 0, .int 0, .int 21, .int 17, .int 0, .int 1, .int 1, .int 1, .int 3, .long 1, .int 0, .ref q0, .ref q1, .ref q2, .int 0, .ref q3, .ref q4, .ref q5, .ref q6, .ref q7, .int 0, .int 0, .int 0, .int 0, .int 0, .int 0, .int 0, .int 0, .int 0, .ref k0, .ref k1, .ref k2, .ref k3]))] s.heap.size = A at hD ⊢
  have hA : ∀ q : Nat, s.heap.size ≤ q → A q := fun q h => by rw [← hAe]; exact Or.inr h
  have hS : va_S A s.heap s.heap [] := va_S.rf
  have hP : va_P D vwCl [(m0, .inr (6, [.ref ms, .ref mf, .ref mw, .ref mk, .int 0, .ref mh, .int 0, .int 0, .int 21, .int 17, .int 0, .int 1, .int 1, .int 1, .int 3, .long 1, .int 0, .ref q0, .ref q1, .ref q2, .int 0, .ref q3, .ref q4, .ref q5, .ref q6, .ref q7, .int 0, .int 0, .int 0, .int 0, .int 0, .int 0, .int 0, .int 0, .int 0, .ref k0, .ref k1, .ref k2, .ref k3]))] s.heap := hP
  have hl := lv_entry ([.ref m0, .int 2, .int p1]) (n := 7) (Nat.le_of_ble_eq_true rfl)
  rw [lg_entry_eq]
  generalize (lg_sl ([.ref m0, .int 2, .int p1]) ++ List.replicate (7 - (lg_sl ([.ref m0, .int 2, .int p1])).length) Slot.unset).toArray = ls at hl ⊢
  have hl : lv_has ls 7 [(0, .ref m0), (1, .int 2), (2, .int p1)] := hl
  refine lv_iload_n hx hb dX6_rule_0 rfl (lv_at hl 1 rfl) ?_
  refine lv_if_ne (tgt := 8) hx hb dX6_rule_1 (by decide) (fun c1_1 => ?_) (fun c1_1 => ?_)
  · skip
    refine lv_aload_n hx hb dX6_rule_8 rfl (lv_at hl 0 rfl) ?_
    refine va_get (D := D) (ci := 6) (v := .int 21) (C := RX6) (T := TX6) (N := 39) hx hb hts in_X6_rule_X6 hown hK hP 0 rfl rfl 8 (by decide) (hts _ wd_X6_rule_5) (fun _ h9 => h9) rfl dX6_rule_9 ?_
    refine lv_istore_n (lv' := [(3, .int 21), (0, .ref m0), (1, .int 2), (2, .int p1)]) hx hb dX6_rule_12 rfl hl (by decide) rfl (fun ls hl => ?_)
    refine lv_iload_n hx hb dX6_rule_13 rfl (lv_at hl 2 rfl) ?_
    refine lv_iconst (v := 1) hx hb dX6_rule_14 (by decide) ?_
    refine lv_icmp_ne (tgt := 22) hx hb dX6_rule_15 (by decide) (fun c15_2 => ?_) (fun c15_2 => ?_)
    · skip
      refine lv_aload_n hx hb dX6_rule_22 rfl (lv_at hl 1 rfl) ?_
      refine va_get (D := D) (ci := 6) (v := .int 17) (C := RX6) (T := TX6) (N := 39) hx hb hts in_X6_rule_X6 hown hK hP 0 rfl rfl 9 (by decide) (hts _ wd_X6_rule_0) (fun _ h9 => h9) rfl dX6_rule_23 ?_
      refine lv_istore (lv' := [(4, .int 17), (3, .int 21), (0, .ref m0), (1, .int 2), (2, .int p1)]) hx hb dX6_rule_26 hl (by decide) rfl (fun ls hl => ?_)
      refine lv_iload_n hx hb dX6_rule_28 rfl (lv_at hl 3 rfl) ?_
      refine lv_iconst (v := 2) hx hb dX6_rule_29 (by decide) ?_
      refine lv_icmp_ge (tgt := 69) hx hb dX6_rule_30 (by decide) (fun c30_3 => ?_) (fun c30_3 => ?_)
      · skip
        refine lv_iload_n hx hb dX6_rule_69 rfl (lv_at hl 3 rfl) ?_
        refine lv_bipush (v := 6) hx hb dX6_rule_70 (by decide) ?_
        refine lv_icmp_ge (tgt := 85) hx hb dX6_rule_72 (by decide) (fun c72_4 => ?_) (fun c72_4 => ?_)
        · exact absurd c72_4 (by decide)
        refine lv_iload_n hx hb dX6_rule_75 rfl (lv_at hl 4 rfl) ?_
        refine lv_i2l (v := p1.toInt64) hx hb dX6_rule_76 rfl ?_
        refine lv_lconst (v := 0) hx hb dX6_rule_77 (by decide) ?_
        refine lv_lconst (v := 1) hx hb dX6_rule_78 (by decide) ?_
        have hPc := hP.sub (ws' := []) [] rfl
        refine vp_callSi (W.runS (As := [.long p1.toInt64, .long 0, .long 1]) (rest := []) ⟨hx, hb, hml, hown, hts⟩ (c_X6_in l D cI cJ cQ p1.toInt64 0 1) (va_cwS 3 hts gX6_rule_X6_in rfl rfl rfl (by decide +kernel) ⟨Nat.le_of_ble_eq_true rfl, Nat.le_of_ble_eq_true rfl⟩) (rP_preS hPc hK) rfl rfl hl.1 rfl (lv_room (Nat.le_of_ble_eq_true rfl)) dX6_rule_79 ⟨Nat.le_of_ble_eq_true rfl, Nat.le_of_ble_eq_true rfl⟩) (fun r_5 hr_5 => ?_)
        subst hr_5
        refine lv_goto (tgt := 96) hx hb dX6_rule_82 (by decide) ?_
        refine lv_istore (lv' := [(5, .int (inB p1.toInt64 0 1)), (4, .int 17), (3, .int 21), (0, .ref m0), (1, .int 2), (2, .int p1)]) hx hb dX6_rule_96 hl (by decide) rfl (fun ls hl => ?_)
        refine lv_iload_n hx hb dX6_rule_98 rfl (lv_at hl 4 rfl) ?_
        refine lv_i2l (v := 2) hx hb dX6_rule_99 (by decide) ?_
        refine lv_lconst (v := 0) hx hb dX6_rule_100 (by decide) ?_
        refine lv_ldc2 hx hb hown (hts _ wd_X6_rule_3) dX6_rule_101 ?_
        have hPc := hP.sub (ws' := []) [] rfl
        refine vp_callSi (W.runS (As := [.long 2, .long 0, .long 6]) (rest := []) ⟨hx, hb, hml, hown, hts⟩ (c_X6_in l D cI cJ cQ 2 0 6) (va_cwS 3 hts gX6_rule_X6_in rfl rfl rfl (by decide +kernel) ⟨Nat.le_of_ble_eq_true rfl, Nat.le_of_ble_eq_true rfl⟩) (rP_preS hPc hK) rfl rfl hl.1 rfl (lv_room (Nat.le_of_ble_eq_true rfl)) dX6_rule_104 ⟨Nat.le_of_ble_eq_true rfl, Nat.le_of_ble_eq_true rfl⟩) (fun r_6 hr_6 => ?_)
        subst hr_6
        refine lv_topi (fun z_7 ez_7 => ?_)
        obtain rfl : z_7 = 1 := ez_7.trans (by decide)
        refine lv_if_eq (tgt := 115) hx hb dX6_rule_107 (by decide) (fun c107_8 => ?_) (fun c107_8 => ?_)
        · exact absurd c107_8 (by decide)
        refine lv_iload hx hb dX6_rule_110 (lv_at hl 0 rfl) ?_
        refine lv_if_ne (tgt := 119) hx hb dX6_rule_112 (by decide) (fun c112_9 => ?_) (fun c112_9 => ?_)
        · skip
          refine lv_iconst (v := 0) hx hb dX6_rule_119 (by decide) ?_
          refine lv_istore (lv' := [(6, .int 0), (5, .int (inB p1.toInt64 0 1)), (4, .int 17), (3, .int 21), (0, .ref m0), (1, .int 2), (2, .int p1)]) hx hb dX6_rule_120 hl (by decide) rfl (fun ls hl => ?_)
          refine lv_iload_n hx hb dX6_rule_122 rfl (lv_at hl 5 rfl) ?_
          refine lv_tableIn (off := 65) (tgt := 188) hx hb dX6_rule_123 (by decide) (by decide) (by decide) (by decide) ?_
          refine lv_aload_n hx hb dX6_rule_188 rfl (lv_at hl 4 rfl) ?_
          refine va_get (D := D) (ci := 6) (v := .int 0) (C := RX6) (T := TX6) (N := 39) hx hb hts in_X6_rule_X6 hown hK hP 0 rfl rfl 10 (by decide) (hts _ wd_X6_rule_6) (fun _ h9 => h9) rfl dX6_rule_189 ?_
          refine lv_istore (lv' := [(6, .int 0), (5, .int (inB p1.toInt64 0 1)), (4, .int 17), (3, .int 21), (0, .ref m0), (1, .int 2), (2, .int p1)]) hx hb dX6_rule_192 hl (by decide) rfl (fun ls hl => ?_)
          refine lv_aload_n hx hb dX6_rule_194 rfl (lv_at hl 4 rfl) ?_
          refine lv_iload_n hx hb dX6_rule_195 rfl (lv_at hl 6 rfl) ?_
          refine va_put (D := D) (ci := 6) (v := .int p1) (ty := .int) (C := RX6) (T := TX6) (N := 39) hx hb hts in_X6_rule_X6 tyX6 tyX6_ok nmX6 hown hK hP hD hS 0 rfl rfl 10 (by decide) (hts _ wd_X6_rule_6) (fun _ h9 => h9) rfl (by decide +kernel) rfl rfl (Nat.le_of_ble_eq_true rfl) dX6_rule_196 (fun H locs hP hD hS => ?_)
          have hP : va_P D vwCl [(m0, .inr (6, [.ref ms, .ref mf, .ref mw, .ref mk, .int 0, .ref mh, .int 0, .int 0, .int 21, .int 17, .int p1, .int 1, .int 1, .int 1, .int 3, .long 1, .int 0, .ref q0, .ref q1, .ref q2, .int 0, .ref q3, .ref q4, .ref q5, .ref q6, .ref q7, .int 0, .int 0, .int 0, .int 0, .int 0, .int 0, .int 0, .int 0, .int 0, .ref k0, .ref k1, .ref k2, .ref k3]))] H := hP
          have hD : va_D A [(m0, .inr (6, [.ref ms, .ref mf, .ref mw, .ref mk, .int 0, .ref mh, .int 0, .int 0, .int 21, .int 17, .int p1, .int 1, .int 1, .int 1, .int 3, .long 1, .int 0, .ref q0, .ref q1, .ref q2, .int 0, .ref q3, .ref q4, .ref q5, .ref q6, .ref q7, .int 0, .int 0, .int 0, .int 0, .int 0, .int 0, .int 0, .int 0, .int 0, .ref k0, .ref k1, .ref k2, .ref k3]))] := hD
          refine lv_goto (tgt := 255) hx hb dX6_rule_199 (by decide) ?_
          refine lv_iload hx hb dX6_rule_255 (lv_at hl 0 rfl) ?_
          have hP9 := hP.sub (ws' := []) [] rfl
          have hD9 := hD.sub (ws' := []) [] (by decide) rfl
          exact W.iret (v := 0) hx hb hr (fun t ht hW => ⟨⟨0, (), rfl, (rule_good (by unfold okR; have e9 : (2 : Int32).toInt = 2 := (by decide); (try simp only [rl1, rl2, rl3, rl6, rl7, rl8] at c1_1); (try simp only [rl1, rl2, rl3, rl6, rl7, rl8] at c15_2); (try simp only [rl1, rl2, rl3, rl6, rl7, rl8] at c30_3); (try simp only [rl1, rl2, rl3, rl6, rl7, rl8] at c112_9); omega) rfl), by rw [ht]; exact hP9, va_K.moved hW.alike hK, hD9⟩, hS.F ht⟩) hS.2.2 dX6_rule_257
        · skip
          refine lv_sipush (v := (-1001)) hx hb dX6_rule_115 (by decide) ?_
          have hP9 := hP.sub (ws' := []) [] rfl
          have hD9 := hD.sub (ws' := []) [] (by decide) rfl
          exact W.iret (v := (-1001)) hx hb hr (fun t ht hW => ⟨⟨(-1001), (), rfl, (rule_bad (fun z => by unfold okR at z; have e9 : (2 : Int32).toInt = 2 := (by decide); (try simp only [rl1, rl2, rl3, rl6, rl7, rl8] at c1_1); (try simp only [rl1, rl2, rl3, rl6, rl7, rl8] at c15_2); (try simp only [rl1, rl2, rl3, rl6, rl7, rl8] at c30_3); (try simp only [rl1, rl2, rl3, rl6, rl7, rl8] at c112_9); omega)), by rw [ht]; exact hP9, va_K.moved hW.alike hK, hD9⟩, hS.F ht⟩) hS.2.2 dX6_rule_118
      · exact absurd c30_3 (by decide)
    · exact absurd c15_2 (by decide)
  · exact absurd c1_1 (by decide)

set_option maxRecDepth 20000 in
theorem wd_X6_rule_7 : Cond.fieldLink RX6 32 "ShoeTableModel" "doubles" "I" ∈ wsX6_rule := by decide +kernel
set_option maxHeartbeats 400000 in
set_option maxRecDepth 100000 in
/-- X6_rule -/
theorem c_X6_rule_3 (l : Launch) (D : va_G) (cI cJ cQ : ClassId) (sz : Nat) (m0 : Nat) (ms : Nat) (mf : Nat) (mw : Nat) (mk : Nat) (mh : Nat) (q0 : Nat) (q1 : Nat) (q2 : Nat) (q3 : Nat) (q4 : Nat) (q5 : Nat) (q6 : Nat) (q7 : Nat) (k0 : Nat) (k1 : Nat) (k2 : Nat) (k3 : Nat) (p1 : Int32)  : Met l yX6_rule wsX6_rule ({ frames := 1, cells := 0, slots := 0, locals := 25 }) (va_Pc [.ref m0, .int 3, .int p1] (mP D (gTy cI cJ cQ) [(m0, .inr (6, [.ref ms, .ref mf, .ref mw, .ref mk, .int 0, .ref mh, .int 0, .int 0, .int 21, .int 17, .int 0, .int 1, .int 1, .int 1, .int 3, .long 1, .int 0, .ref q0, .ref q1, .ref q2, .int 0, .ref q3, .ref q4, .ref q5, .ref q6, .ref q7, .int 0, .int 0, .int 0, .int 0, .int 0, .int 0, .int 0, .int 0, .int 0, .ref k0, .ref k1, .ref k2, .ref k3]))] sz)) (va_Qi (fun (r : Int32) (u : Unit) => match u with | _ => r = ruleS 3 p1) (fun (u : Unit) t => match u with | _ => mB D (gTy cI cJ cQ) (va_A [(m0, .inr (6, [.ref ms, .ref mf, .ref mw, .ref mk, .int 0, .ref mh, .int 0, .int 0, .int 21, .int 17, .int 0, .int 1, .int 1, .int 1, .int 3, .long 1, .int 0, .ref q0, .ref q1, .ref q2, .int 0, .ref q3, .ref q4, .ref q5, .ref q6, .ref q7, .int 0, .int 0, .int 0, .int 0, .int 0, .int 0, .int 0, .int 0, .int 0, .ref k0, .ref k1, .ref k2, .ref k3]))] sz) [] t) (va_A [(m0, .inr (6, [.ref ms, .ref mf, .ref mw, .ref mk, .int 0, .ref mh, .int 0, .int 0, .int 21, .int 17, .int 0, .int 1, .int 1, .int 1, .int 3, .long 1, .int 0, .ref q0, .ref q1, .ref q2, .int 0, .ref q3, .ref q4, .ref q5, .ref q6, .ref q7, .int 0, .int 0, .int 0, .int 0, .int 0, .int 0, .int 0, .int 0, .int 0, .ref k0, .ref k1, .ref k2, .ref k3]))] sz)) 0 0 (va_A [(m0, .inr (6, [.ref ms, .ref mf, .ref mw, .ref mk, .int 0, .ref mh, .int 0, .int 0, .int 21, .int 17, .int 0, .int 1, .int 1, .int 1, .int 3, .long 1, .int 0, .ref q0, .ref q1, .ref q2, .int 0, .ref q3, .ref q4, .ref q5, .ref q6, .ref q7, .int 0, .int 0, .int 0, .int 0, .int 0, .int 0, .int 0, .int 0, .int 0, .ref k0, .ref k1, .ref k2, .ref k3]))] sz) := by
  refine Met.ofW (cc := cX6_rule) (maxL := 7) (ret := (some .int)) (by decide) rfl ?_
  intro p e s m args below meth c s₁ B hml hv
  obtain ⟨rfl, hsz, hP, hK, hD0⟩ := hv
  have hx := B.exec
  have hb := B.bytes
  have hr := B.returns
  have hts := atoms_spec (ws := wsX6_rule) B.pre
  have hown : s.vm.findClass RX6 = some m.cls := findClass_of_methodNamed B.named
  have hlocks := B.notSynchronized
  subst hsz
  have hD := hD0.self (sz := s.heap.size)
  generalize hAe : va_A [(m0, .inr (6, [.ref ms, .ref mf, .ref mw, .ref mk, .int 0, .ref mh, .int 0, .int 0, .int 21, .int 17, .int 0, .int 1, .int 1, .int 1, .int 3, .long 1, .int 0, .ref q0, .ref q1, .ref q2, .int 0, .ref q3, .ref q4, .ref q5, .ref q6, .ref q7, .int 0, .int 0, .int 0, .int 0, .int 0, .int 0, .int 0, .int 0, .int 0, .ref k0, .ref k1, .ref k2, .ref k3]))] s.heap.size = A at hD ⊢
  have hA : ∀ q : Nat, s.heap.size ≤ q → A q := fun q h => by rw [← hAe]; exact Or.inr h
  have hS : va_S A s.heap s.heap [] := va_S.rf
  have hP : va_P D vwCl [(m0, .inr (6, [.ref ms, .ref mf, .ref mw, .ref mk, .int 0, .ref mh, .int 0, .int 0, .int 21, .int 17, .int 0, .int 1, .int 1, .int 1, .int 3, .long 1, .int 0, .ref q0, .ref q1, .ref q2, .int 0, .ref q3, .ref q4, .ref q5, .ref q6, .ref q7, .int 0, .int 0, .int 0, .int 0, .int 0, .int 0, .int 0, .int 0, .int 0, .ref k0, .ref k1, .ref k2, .ref k3]))] s.heap := hP
  have hl := lv_entry ([.ref m0, .int 3, .int p1]) (n := 7) (Nat.le_of_ble_eq_true rfl)
  rw [lg_entry_eq]
  generalize (lg_sl ([.ref m0, .int 3, .int p1]) ++ List.replicate (7 - (lg_sl ([.ref m0, .int 3, .int p1])).length) Slot.unset).toArray = ls at hl ⊢
  have hl : lv_has ls 7 [(0, .ref m0), (1, .int 3), (2, .int p1)] := hl
  refine lv_iload_n hx hb dX6_rule_0 rfl (lv_at hl 1 rfl) ?_
  refine lv_if_ne (tgt := 8) hx hb dX6_rule_1 (by decide) (fun c1_1 => ?_) (fun c1_1 => ?_)
  · skip
    refine lv_aload_n hx hb dX6_rule_8 rfl (lv_at hl 0 rfl) ?_
    refine va_get (D := D) (ci := 6) (v := .int 21) (C := RX6) (T := TX6) (N := 39) hx hb hts in_X6_rule_X6 hown hK hP 0 rfl rfl 8 (by decide) (hts _ wd_X6_rule_5) (fun _ h9 => h9) rfl dX6_rule_9 ?_
    refine lv_istore_n (lv' := [(3, .int 21), (0, .ref m0), (1, .int 3), (2, .int p1)]) hx hb dX6_rule_12 rfl hl (by decide) rfl (fun ls hl => ?_)
    refine lv_iload_n hx hb dX6_rule_13 rfl (lv_at hl 2 rfl) ?_
    refine lv_iconst (v := 1) hx hb dX6_rule_14 (by decide) ?_
    refine lv_icmp_ne (tgt := 22) hx hb dX6_rule_15 (by decide) (fun c15_2 => ?_) (fun c15_2 => ?_)
    · skip
      refine lv_aload_n hx hb dX6_rule_22 rfl (lv_at hl 1 rfl) ?_
      refine va_get (D := D) (ci := 6) (v := .int 17) (C := RX6) (T := TX6) (N := 39) hx hb hts in_X6_rule_X6 hown hK hP 0 rfl rfl 9 (by decide) (hts _ wd_X6_rule_0) (fun _ h9 => h9) rfl dX6_rule_23 ?_
      refine lv_istore (lv' := [(4, .int 17), (3, .int 21), (0, .ref m0), (1, .int 3), (2, .int p1)]) hx hb dX6_rule_26 hl (by decide) rfl (fun ls hl => ?_)
      refine lv_iload_n hx hb dX6_rule_28 rfl (lv_at hl 3 rfl) ?_
      refine lv_iconst (v := 2) hx hb dX6_rule_29 (by decide) ?_
      refine lv_icmp_ge (tgt := 69) hx hb dX6_rule_30 (by decide) (fun c30_3 => ?_) (fun c30_3 => ?_)
      · skip
        refine lv_iload_n hx hb dX6_rule_69 rfl (lv_at hl 3 rfl) ?_
        refine lv_bipush (v := 6) hx hb dX6_rule_70 (by decide) ?_
        refine lv_icmp_ge (tgt := 85) hx hb dX6_rule_72 (by decide) (fun c72_4 => ?_) (fun c72_4 => ?_)
        · exact absurd c72_4 (by decide)
        refine lv_iload_n hx hb dX6_rule_75 rfl (lv_at hl 4 rfl) ?_
        refine lv_i2l (v := p1.toInt64) hx hb dX6_rule_76 rfl ?_
        refine lv_lconst (v := 0) hx hb dX6_rule_77 (by decide) ?_
        refine lv_lconst (v := 1) hx hb dX6_rule_78 (by decide) ?_
        have hPc := hP.sub (ws' := []) [] rfl
        refine vp_callSi (W.runS (As := [.long p1.toInt64, .long 0, .long 1]) (rest := []) ⟨hx, hb, hml, hown, hts⟩ (c_X6_in l D cI cJ cQ p1.toInt64 0 1) (va_cwS 3 hts gX6_rule_X6_in rfl rfl rfl (by decide +kernel) ⟨Nat.le_of_ble_eq_true rfl, Nat.le_of_ble_eq_true rfl⟩) (rP_preS hPc hK) rfl rfl hl.1 rfl (lv_room (Nat.le_of_ble_eq_true rfl)) dX6_rule_79 ⟨Nat.le_of_ble_eq_true rfl, Nat.le_of_ble_eq_true rfl⟩) (fun r_5 hr_5 => ?_)
        subst hr_5
        refine lv_goto (tgt := 96) hx hb dX6_rule_82 (by decide) ?_
        refine lv_istore (lv' := [(5, .int (inB p1.toInt64 0 1)), (4, .int 17), (3, .int 21), (0, .ref m0), (1, .int 3), (2, .int p1)]) hx hb dX6_rule_96 hl (by decide) rfl (fun ls hl => ?_)
        refine lv_iload_n hx hb dX6_rule_98 rfl (lv_at hl 4 rfl) ?_
        refine lv_i2l (v := 3) hx hb dX6_rule_99 (by decide) ?_
        refine lv_lconst (v := 0) hx hb dX6_rule_100 (by decide) ?_
        refine lv_ldc2 hx hb hown (hts _ wd_X6_rule_3) dX6_rule_101 ?_
        have hPc := hP.sub (ws' := []) [] rfl
        refine vp_callSi (W.runS (As := [.long 3, .long 0, .long 6]) (rest := []) ⟨hx, hb, hml, hown, hts⟩ (c_X6_in l D cI cJ cQ 3 0 6) (va_cwS 3 hts gX6_rule_X6_in rfl rfl rfl (by decide +kernel) ⟨Nat.le_of_ble_eq_true rfl, Nat.le_of_ble_eq_true rfl⟩) (rP_preS hPc hK) rfl rfl hl.1 rfl (lv_room (Nat.le_of_ble_eq_true rfl)) dX6_rule_104 ⟨Nat.le_of_ble_eq_true rfl, Nat.le_of_ble_eq_true rfl⟩) (fun r_6 hr_6 => ?_)
        subst hr_6
        refine lv_topi (fun z_7 ez_7 => ?_)
        obtain rfl : z_7 = 1 := ez_7.trans (by decide)
        refine lv_if_eq (tgt := 115) hx hb dX6_rule_107 (by decide) (fun c107_8 => ?_) (fun c107_8 => ?_)
        · exact absurd c107_8 (by decide)
        refine lv_iload hx hb dX6_rule_110 (lv_at hl 0 rfl) ?_
        refine lv_if_ne (tgt := 119) hx hb dX6_rule_112 (by decide) (fun c112_9 => ?_) (fun c112_9 => ?_)
        · skip
          refine lv_iconst (v := 0) hx hb dX6_rule_119 (by decide) ?_
          refine lv_istore (lv' := [(6, .int 0), (5, .int (inB p1.toInt64 0 1)), (4, .int 17), (3, .int 21), (0, .ref m0), (1, .int 3), (2, .int p1)]) hx hb dX6_rule_120 hl (by decide) rfl (fun ls hl => ?_)
          refine lv_iload_n hx hb dX6_rule_122 rfl (lv_at hl 5 rfl) ?_
          refine lv_tableIn (off := 79) (tgt := 202) hx hb dX6_rule_123 (by decide) (by decide) (by decide) (by decide) ?_
          refine lv_aload_n hx hb dX6_rule_202 rfl (lv_at hl 4 rfl) ?_
          refine va_get (D := D) (ci := 6) (v := .int 1) (C := RX6) (T := TX6) (N := 39) hx hb hts in_X6_rule_X6 hown hK hP 0 rfl rfl 11 (by decide) (hts _ wd_X6_rule_7) (fun _ h9 => h9) rfl dX6_rule_203 ?_
          refine lv_istore (lv' := [(6, .int 1), (5, .int (inB p1.toInt64 0 1)), (4, .int 17), (3, .int 21), (0, .ref m0), (1, .int 3), (2, .int p1)]) hx hb dX6_rule_206 hl (by decide) rfl (fun ls hl => ?_)
          refine lv_aload_n hx hb dX6_rule_208 rfl (lv_at hl 4 rfl) ?_
          refine lv_iload_n hx hb dX6_rule_209 rfl (lv_at hl 6 rfl) ?_
          refine va_put (D := D) (ci := 6) (v := .int p1) (ty := .int) (C := RX6) (T := TX6) (N := 39) hx hb hts in_X6_rule_X6 tyX6 tyX6_ok nmX6 hown hK hP hD hS 0 rfl rfl 11 (by decide) (hts _ wd_X6_rule_7) (fun _ h9 => h9) rfl (by decide +kernel) rfl rfl (Nat.le_of_ble_eq_true rfl) dX6_rule_210 (fun H locs hP hD hS => ?_)
          have hP : va_P D vwCl [(m0, .inr (6, [.ref ms, .ref mf, .ref mw, .ref mk, .int 0, .ref mh, .int 0, .int 0, .int 21, .int 17, .int 0, .int p1, .int 1, .int 1, .int 3, .long 1, .int 0, .ref q0, .ref q1, .ref q2, .int 0, .ref q3, .ref q4, .ref q5, .ref q6, .ref q7, .int 0, .int 0, .int 0, .int 0, .int 0, .int 0, .int 0, .int 0, .int 0, .ref k0, .ref k1, .ref k2, .ref k3]))] H := hP
          have hD : va_D A [(m0, .inr (6, [.ref ms, .ref mf, .ref mw, .ref mk, .int 0, .ref mh, .int 0, .int 0, .int 21, .int 17, .int 0, .int p1, .int 1, .int 1, .int 3, .long 1, .int 0, .ref q0, .ref q1, .ref q2, .int 0, .ref q3, .ref q4, .ref q5, .ref q6, .ref q7, .int 0, .int 0, .int 0, .int 0, .int 0, .int 0, .int 0, .int 0, .int 0, .ref k0, .ref k1, .ref k2, .ref k3]))] := hD
          refine lv_goto (tgt := 255) hx hb dX6_rule_213 (by decide) ?_
          refine lv_iload hx hb dX6_rule_255 (lv_at hl 0 rfl) ?_
          have hP9 := hP.sub (ws' := []) [] rfl
          have hD9 := hD.sub (ws' := []) [] (by decide) rfl
          exact W.iret (v := 1) hx hb hr (fun t ht hW => ⟨⟨1, (), rfl, (rule_good (by unfold okR; have e9 : (3 : Int32).toInt = 3 := (by decide); (try simp only [rl1, rl2, rl3, rl6, rl7, rl8] at c1_1); (try simp only [rl1, rl2, rl3, rl6, rl7, rl8] at c15_2); (try simp only [rl1, rl2, rl3, rl6, rl7, rl8] at c30_3); (try simp only [rl1, rl2, rl3, rl6, rl7, rl8] at c112_9); omega) rfl), by rw [ht]; exact hP9, va_K.moved hW.alike hK, hD9⟩, hS.F ht⟩) hS.2.2 dX6_rule_257
        · skip
          refine lv_sipush (v := (-1001)) hx hb dX6_rule_115 (by decide) ?_
          have hP9 := hP.sub (ws' := []) [] rfl
          have hD9 := hD.sub (ws' := []) [] (by decide) rfl
          exact W.iret (v := (-1001)) hx hb hr (fun t ht hW => ⟨⟨(-1001), (), rfl, (rule_bad (fun z => by unfold okR at z; have e9 : (3 : Int32).toInt = 3 := (by decide); (try simp only [rl1, rl2, rl3, rl6, rl7, rl8] at c1_1); (try simp only [rl1, rl2, rl3, rl6, rl7, rl8] at c15_2); (try simp only [rl1, rl2, rl3, rl6, rl7, rl8] at c30_3); (try simp only [rl1, rl2, rl3, rl6, rl7, rl8] at c112_9); omega)), by rw [ht]; exact hP9, va_K.moved hW.alike hK, hD9⟩, hS.F ht⟩) hS.2.2 dX6_rule_118
      · exact absurd c30_3 (by decide)
    · exact absurd c15_2 (by decide)
  · exact absurd c1_1 (by decide)

set_option maxRecDepth 20000 in
theorem wd_X6_rule_8 : Cond.fieldLink RX6 35 "ShoeTableModel" "splits" "I" ∈ wsX6_rule := by decide +kernel
set_option maxHeartbeats 400000 in
set_option maxRecDepth 100000 in
/-- X6_rule -/
theorem c_X6_rule_4 (l : Launch) (D : va_G) (cI cJ cQ : ClassId) (sz : Nat) (m0 : Nat) (ms : Nat) (mf : Nat) (mw : Nat) (mk : Nat) (mh : Nat) (q0 : Nat) (q1 : Nat) (q2 : Nat) (q3 : Nat) (q4 : Nat) (q5 : Nat) (q6 : Nat) (q7 : Nat) (k0 : Nat) (k1 : Nat) (k2 : Nat) (k3 : Nat) (p1 : Int32)  : Met l yX6_rule wsX6_rule ({ frames := 1, cells := 0, slots := 0, locals := 25 }) (va_Pc [.ref m0, .int 4, .int p1] (mP D (gTy cI cJ cQ) [(m0, .inr (6, [.ref ms, .ref mf, .ref mw, .ref mk, .int 0, .ref mh, .int 0, .int 0, .int 21, .int 17, .int 0, .int 1, .int 1, .int 1, .int 3, .long 1, .int 0, .ref q0, .ref q1, .ref q2, .int 0, .ref q3, .ref q4, .ref q5, .ref q6, .ref q7, .int 0, .int 0, .int 0, .int 0, .int 0, .int 0, .int 0, .int 0, .int 0, .ref k0, .ref k1, .ref k2, .ref k3]))] sz)) (va_Qi (fun (r : Int32) (u : Unit) => match u with | _ => r = ruleS 4 p1) (fun (u : Unit) t => match u with | _ => mB D (gTy cI cJ cQ) (va_A [(m0, .inr (6, [.ref ms, .ref mf, .ref mw, .ref mk, .int 0, .ref mh, .int 0, .int 0, .int 21, .int 17, .int 0, .int 1, .int 1, .int 1, .int 3, .long 1, .int 0, .ref q0, .ref q1, .ref q2, .int 0, .ref q3, .ref q4, .ref q5, .ref q6, .ref q7, .int 0, .int 0, .int 0, .int 0, .int 0, .int 0, .int 0, .int 0, .int 0, .ref k0, .ref k1, .ref k2, .ref k3]))] sz) [] t) (va_A [(m0, .inr (6, [.ref ms, .ref mf, .ref mw, .ref mk, .int 0, .ref mh, .int 0, .int 0, .int 21, .int 17, .int 0, .int 1, .int 1, .int 1, .int 3, .long 1, .int 0, .ref q0, .ref q1, .ref q2, .int 0, .ref q3, .ref q4, .ref q5, .ref q6, .ref q7, .int 0, .int 0, .int 0, .int 0, .int 0, .int 0, .int 0, .int 0, .int 0, .ref k0, .ref k1, .ref k2, .ref k3]))] sz)) 0 0 (va_A [(m0, .inr (6, [.ref ms, .ref mf, .ref mw, .ref mk, .int 0, .ref mh, .int 0, .int 0, .int 21, .int 17, .int 0, .int 1, .int 1, .int 1, .int 3, .long 1, .int 0, .ref q0, .ref q1, .ref q2, .int 0, .ref q3, .ref q4, .ref q5, .ref q6, .ref q7, .int 0, .int 0, .int 0, .int 0, .int 0, .int 0, .int 0, .int 0, .int 0, .ref k0, .ref k1, .ref k2, .ref k3]))] sz) := by
  refine Met.ofW (cc := cX6_rule) (maxL := 7) (ret := (some .int)) (by decide) rfl ?_
  intro p e s m args below meth c s₁ B hml hv
  obtain ⟨rfl, hsz, hP, hK, hD0⟩ := hv
  have hx := B.exec
  have hb := B.bytes
  have hr := B.returns
  have hts := atoms_spec (ws := wsX6_rule) B.pre
  have hown : s.vm.findClass RX6 = some m.cls := findClass_of_methodNamed B.named
  have hlocks := B.notSynchronized
  subst hsz
  have hD := hD0.self (sz := s.heap.size)
  generalize hAe : va_A [(m0, .inr (6, [.ref ms, .ref mf, .ref mw, .ref mk, .int 0, .ref mh, .int 0, .int 0, .int 21, .int 17, .int 0, .int 1, .int 1, .int 1, .int 3, .long 1, .int 0, .ref q0, .ref q1, .ref q2, .int 0, .ref q3, .ref q4, .ref q5, .ref q6, .ref q7, .int 0, .int 0, .int 0, .int 0, .int 0, .int 0, .int 0, .int 0, .int 0, .ref k0, .ref k1, .ref k2, .ref k3]))] s.heap.size = A at hD ⊢
  have hA : ∀ q : Nat, s.heap.size ≤ q → A q := fun q h => by rw [← hAe]; exact Or.inr h
  have hS : va_S A s.heap s.heap [] := va_S.rf
  have hP : va_P D vwCl [(m0, .inr (6, [.ref ms, .ref mf, .ref mw, .ref mk, .int 0, .ref mh, .int 0, .int 0, .int 21, .int 17, .int 0, .int 1, .int 1, .int 1, .int 3, .long 1, .int 0, .ref q0, .ref q1, .ref q2, .int 0, .ref q3, .ref q4, .ref q5, .ref q6, .ref q7, .int 0, .int 0, .int 0, .int 0, .int 0, .int 0, .int 0, .int 0, .int 0, .ref k0, .ref k1, .ref k2, .ref k3]))] s.heap := hP
  have hl := lv_entry ([.ref m0, .int 4, .int p1]) (n := 7) (Nat.le_of_ble_eq_true rfl)
  rw [lg_entry_eq]
  generalize (lg_sl ([.ref m0, .int 4, .int p1]) ++ List.replicate (7 - (lg_sl ([.ref m0, .int 4, .int p1])).length) Slot.unset).toArray = ls at hl ⊢
  have hl : lv_has ls 7 [(0, .ref m0), (1, .int 4), (2, .int p1)] := hl
  refine lv_iload_n hx hb dX6_rule_0 rfl (lv_at hl 1 rfl) ?_
  refine lv_if_ne (tgt := 8) hx hb dX6_rule_1 (by decide) (fun c1_1 => ?_) (fun c1_1 => ?_)
  · skip
    refine lv_aload_n hx hb dX6_rule_8 rfl (lv_at hl 0 rfl) ?_
    refine va_get (D := D) (ci := 6) (v := .int 21) (C := RX6) (T := TX6) (N := 39) hx hb hts in_X6_rule_X6 hown hK hP 0 rfl rfl 8 (by decide) (hts _ wd_X6_rule_5) (fun _ h9 => h9) rfl dX6_rule_9 ?_
    refine lv_istore_n (lv' := [(3, .int 21), (0, .ref m0), (1, .int 4), (2, .int p1)]) hx hb dX6_rule_12 rfl hl (by decide) rfl (fun ls hl => ?_)
    refine lv_iload_n hx hb dX6_rule_13 rfl (lv_at hl 2 rfl) ?_
    refine lv_iconst (v := 1) hx hb dX6_rule_14 (by decide) ?_
    refine lv_icmp_ne (tgt := 22) hx hb dX6_rule_15 (by decide) (fun c15_2 => ?_) (fun c15_2 => ?_)
    · skip
      refine lv_aload_n hx hb dX6_rule_22 rfl (lv_at hl 1 rfl) ?_
      refine va_get (D := D) (ci := 6) (v := .int 17) (C := RX6) (T := TX6) (N := 39) hx hb hts in_X6_rule_X6 hown hK hP 0 rfl rfl 9 (by decide) (hts _ wd_X6_rule_0) (fun _ h9 => h9) rfl dX6_rule_23 ?_
      refine lv_istore (lv' := [(4, .int 17), (3, .int 21), (0, .ref m0), (1, .int 4), (2, .int p1)]) hx hb dX6_rule_26 hl (by decide) rfl (fun ls hl => ?_)
      refine lv_iload_n hx hb dX6_rule_28 rfl (lv_at hl 3 rfl) ?_
      refine lv_iconst (v := 2) hx hb dX6_rule_29 (by decide) ?_
      refine lv_icmp_ge (tgt := 69) hx hb dX6_rule_30 (by decide) (fun c30_3 => ?_) (fun c30_3 => ?_)
      · skip
        refine lv_iload_n hx hb dX6_rule_69 rfl (lv_at hl 3 rfl) ?_
        refine lv_bipush (v := 6) hx hb dX6_rule_70 (by decide) ?_
        refine lv_icmp_ge (tgt := 85) hx hb dX6_rule_72 (by decide) (fun c72_4 => ?_) (fun c72_4 => ?_)
        · exact absurd c72_4 (by decide)
        refine lv_iload_n hx hb dX6_rule_75 rfl (lv_at hl 4 rfl) ?_
        refine lv_i2l (v := p1.toInt64) hx hb dX6_rule_76 rfl ?_
        refine lv_lconst (v := 0) hx hb dX6_rule_77 (by decide) ?_
        refine lv_lconst (v := 1) hx hb dX6_rule_78 (by decide) ?_
        have hPc := hP.sub (ws' := []) [] rfl
        refine vp_callSi (W.runS (As := [.long p1.toInt64, .long 0, .long 1]) (rest := []) ⟨hx, hb, hml, hown, hts⟩ (c_X6_in l D cI cJ cQ p1.toInt64 0 1) (va_cwS 3 hts gX6_rule_X6_in rfl rfl rfl (by decide +kernel) ⟨Nat.le_of_ble_eq_true rfl, Nat.le_of_ble_eq_true rfl⟩) (rP_preS hPc hK) rfl rfl hl.1 rfl (lv_room (Nat.le_of_ble_eq_true rfl)) dX6_rule_79 ⟨Nat.le_of_ble_eq_true rfl, Nat.le_of_ble_eq_true rfl⟩) (fun r_5 hr_5 => ?_)
        subst hr_5
        refine lv_goto (tgt := 96) hx hb dX6_rule_82 (by decide) ?_
        refine lv_istore (lv' := [(5, .int (inB p1.toInt64 0 1)), (4, .int 17), (3, .int 21), (0, .ref m0), (1, .int 4), (2, .int p1)]) hx hb dX6_rule_96 hl (by decide) rfl (fun ls hl => ?_)
        refine lv_iload_n hx hb dX6_rule_98 rfl (lv_at hl 4 rfl) ?_
        refine lv_i2l (v := 4) hx hb dX6_rule_99 (by decide) ?_
        refine lv_lconst (v := 0) hx hb dX6_rule_100 (by decide) ?_
        refine lv_ldc2 hx hb hown (hts _ wd_X6_rule_3) dX6_rule_101 ?_
        have hPc := hP.sub (ws' := []) [] rfl
        refine vp_callSi (W.runS (As := [.long 4, .long 0, .long 6]) (rest := []) ⟨hx, hb, hml, hown, hts⟩ (c_X6_in l D cI cJ cQ 4 0 6) (va_cwS 3 hts gX6_rule_X6_in rfl rfl rfl (by decide +kernel) ⟨Nat.le_of_ble_eq_true rfl, Nat.le_of_ble_eq_true rfl⟩) (rP_preS hPc hK) rfl rfl hl.1 rfl (lv_room (Nat.le_of_ble_eq_true rfl)) dX6_rule_104 ⟨Nat.le_of_ble_eq_true rfl, Nat.le_of_ble_eq_true rfl⟩) (fun r_6 hr_6 => ?_)
        subst hr_6
        refine lv_topi (fun z_7 ez_7 => ?_)
        obtain rfl : z_7 = 1 := ez_7.trans (by decide)
        refine lv_if_eq (tgt := 115) hx hb dX6_rule_107 (by decide) (fun c107_8 => ?_) (fun c107_8 => ?_)
        · exact absurd c107_8 (by decide)
        refine lv_iload hx hb dX6_rule_110 (lv_at hl 0 rfl) ?_
        refine lv_if_ne (tgt := 119) hx hb dX6_rule_112 (by decide) (fun c112_9 => ?_) (fun c112_9 => ?_)
        · skip
          refine lv_iconst (v := 0) hx hb dX6_rule_119 (by decide) ?_
          refine lv_istore (lv' := [(6, .int 0), (5, .int (inB p1.toInt64 0 1)), (4, .int 17), (3, .int 21), (0, .ref m0), (1, .int 4), (2, .int p1)]) hx hb dX6_rule_120 hl (by decide) rfl (fun ls hl => ?_)
          refine lv_iload_n hx hb dX6_rule_122 rfl (lv_at hl 5 rfl) ?_
          refine lv_tableIn (off := 93) (tgt := 216) hx hb dX6_rule_123 (by decide) (by decide) (by decide) (by decide) ?_
          refine lv_aload_n hx hb dX6_rule_216 rfl (lv_at hl 4 rfl) ?_
          refine va_get (D := D) (ci := 6) (v := .int 1) (C := RX6) (T := TX6) (N := 39) hx hb hts in_X6_rule_X6 hown hK hP 0 rfl rfl 12 (by decide) (hts _ wd_X6_rule_8) (fun _ h9 => h9) rfl dX6_rule_217 ?_
          refine lv_istore (lv' := [(6, .int 1), (5, .int (inB p1.toInt64 0 1)), (4, .int 17), (3, .int 21), (0, .ref m0), (1, .int 4), (2, .int p1)]) hx hb dX6_rule_220 hl (by decide) rfl (fun ls hl => ?_)
          refine lv_aload_n hx hb dX6_rule_222 rfl (lv_at hl 4 rfl) ?_
          refine lv_iload_n hx hb dX6_rule_223 rfl (lv_at hl 6 rfl) ?_
          refine va_put (D := D) (ci := 6) (v := .int p1) (ty := .int) (C := RX6) (T := TX6) (N := 39) hx hb hts in_X6_rule_X6 tyX6 tyX6_ok nmX6 hown hK hP hD hS 0 rfl rfl 12 (by decide) (hts _ wd_X6_rule_8) (fun _ h9 => h9) rfl (by decide +kernel) rfl rfl (Nat.le_of_ble_eq_true rfl) dX6_rule_224 (fun H locs hP hD hS => ?_)
          have hP : va_P D vwCl [(m0, .inr (6, [.ref ms, .ref mf, .ref mw, .ref mk, .int 0, .ref mh, .int 0, .int 0, .int 21, .int 17, .int 0, .int 1, .int p1, .int 1, .int 3, .long 1, .int 0, .ref q0, .ref q1, .ref q2, .int 0, .ref q3, .ref q4, .ref q5, .ref q6, .ref q7, .int 0, .int 0, .int 0, .int 0, .int 0, .int 0, .int 0, .int 0, .int 0, .ref k0, .ref k1, .ref k2, .ref k3]))] H := hP
          have hD : va_D A [(m0, .inr (6, [.ref ms, .ref mf, .ref mw, .ref mk, .int 0, .ref mh, .int 0, .int 0, .int 21, .int 17, .int 0, .int 1, .int p1, .int 1, .int 3, .long 1, .int 0, .ref q0, .ref q1, .ref q2, .int 0, .ref q3, .ref q4, .ref q5, .ref q6, .ref q7, .int 0, .int 0, .int 0, .int 0, .int 0, .int 0, .int 0, .int 0, .int 0, .ref k0, .ref k1, .ref k2, .ref k3]))] := hD
          refine lv_goto (tgt := 255) hx hb dX6_rule_227 (by decide) ?_
          refine lv_iload hx hb dX6_rule_255 (lv_at hl 0 rfl) ?_
          have hP9 := hP.sub (ws' := []) [] rfl
          have hD9 := hD.sub (ws' := []) [] (by decide) rfl
          exact W.iret (v := 1) hx hb hr (fun t ht hW => ⟨⟨1, (), rfl, (rule_good (by unfold okR; have e9 : (4 : Int32).toInt = 4 := (by decide); (try simp only [rl1, rl2, rl3, rl6, rl7, rl8] at c1_1); (try simp only [rl1, rl2, rl3, rl6, rl7, rl8] at c15_2); (try simp only [rl1, rl2, rl3, rl6, rl7, rl8] at c30_3); (try simp only [rl1, rl2, rl3, rl6, rl7, rl8] at c112_9); omega) rfl), by rw [ht]; exact hP9, va_K.moved hW.alike hK, hD9⟩, hS.F ht⟩) hS.2.2 dX6_rule_257
        · skip
          refine lv_sipush (v := (-1001)) hx hb dX6_rule_115 (by decide) ?_
          have hP9 := hP.sub (ws' := []) [] rfl
          have hD9 := hD.sub (ws' := []) [] (by decide) rfl
          exact W.iret (v := (-1001)) hx hb hr (fun t ht hW => ⟨⟨(-1001), (), rfl, (rule_bad (fun z => by unfold okR at z; have e9 : (4 : Int32).toInt = 4 := (by decide); (try simp only [rl1, rl2, rl3, rl6, rl7, rl8] at c1_1); (try simp only [rl1, rl2, rl3, rl6, rl7, rl8] at c15_2); (try simp only [rl1, rl2, rl3, rl6, rl7, rl8] at c30_3); (try simp only [rl1, rl2, rl3, rl6, rl7, rl8] at c112_9); omega)), by rw [ht]; exact hP9, va_K.moved hW.alike hK, hD9⟩, hS.F ht⟩) hS.2.2 dX6_rule_118
      · exact absurd c30_3 (by decide)
    · exact absurd c15_2 (by decide)
  · exact absurd c1_1 (by decide)

set_option maxRecDepth 20000 in
theorem wd_X6_rule_9 : Cond.fieldLink RX6 38 "ShoeTableModel" "gives" "I" ∈ wsX6_rule := by decide +kernel
set_option maxHeartbeats 400000 in
set_option maxRecDepth 100000 in
/-- X6_rule -/
theorem c_X6_rule_5 (l : Launch) (D : va_G) (cI cJ cQ : ClassId) (sz : Nat) (m0 : Nat) (ms : Nat) (mf : Nat) (mw : Nat) (mk : Nat) (mh : Nat) (q0 : Nat) (q1 : Nat) (q2 : Nat) (q3 : Nat) (q4 : Nat) (q5 : Nat) (q6 : Nat) (q7 : Nat) (k0 : Nat) (k1 : Nat) (k2 : Nat) (k3 : Nat) (p1 : Int32)  : Met l yX6_rule wsX6_rule ({ frames := 1, cells := 0, slots := 0, locals := 25 }) (va_Pc [.ref m0, .int 5, .int p1] (mP D (gTy cI cJ cQ) [(m0, .inr (6, [.ref ms, .ref mf, .ref mw, .ref mk, .int 0, .ref mh, .int 0, .int 0, .int 21, .int 17, .int 0, .int 1, .int 1, .int 1, .int 3, .long 1, .int 0, .ref q0, .ref q1, .ref q2, .int 0, .ref q3, .ref q4, .ref q5, .ref q6, .ref q7, .int 0, .int 0, .int 0, .int 0, .int 0, .int 0, .int 0, .int 0, .int 0, .ref k0, .ref k1, .ref k2, .ref k3]))] sz)) (va_Qi (fun (r : Int32) (u : Unit) => match u with | _ => r = ruleS 5 p1) (fun (u : Unit) t => match u with | _ => mB D (gTy cI cJ cQ) (va_A [(m0, .inr (6, [.ref ms, .ref mf, .ref mw, .ref mk, .int 0, .ref mh, .int 0, .int 0, .int 21, .int 17, .int 0, .int 1, .int 1, .int 1, .int 3, .long 1, .int 0, .ref q0, .ref q1, .ref q2, .int 0, .ref q3, .ref q4, .ref q5, .ref q6, .ref q7, .int 0, .int 0, .int 0, .int 0, .int 0, .int 0, .int 0, .int 0, .int 0, .ref k0, .ref k1, .ref k2, .ref k3]))] sz) [] t) (va_A [(m0, .inr (6, [.ref ms, .ref mf, .ref mw, .ref mk, .int 0, .ref mh, .int 0, .int 0, .int 21, .int 17, .int 0, .int 1, .int 1, .int 1, .int 3, .long 1, .int 0, .ref q0, .ref q1, .ref q2, .int 0, .ref q3, .ref q4, .ref q5, .ref q6, .ref q7, .int 0, .int 0, .int 0, .int 0, .int 0, .int 0, .int 0, .int 0, .int 0, .ref k0, .ref k1, .ref k2, .ref k3]))] sz)) 0 0 (va_A [(m0, .inr (6, [.ref ms, .ref mf, .ref mw, .ref mk, .int 0, .ref mh, .int 0, .int 0, .int 21, .int 17, .int 0, .int 1, .int 1, .int 1, .int 3, .long 1, .int 0, .ref q0, .ref q1, .ref q2, .int 0, .ref q3, .ref q4, .ref q5, .ref q6, .ref q7, .int 0, .int 0, .int 0, .int 0, .int 0, .int 0, .int 0, .int 0, .int 0, .ref k0, .ref k1, .ref k2, .ref k3]))] sz) := by
  refine Met.ofW (cc := cX6_rule) (maxL := 7) (ret := (some .int)) (by decide) rfl ?_
  intro p e s m args below meth c s₁ B hml hv
  obtain ⟨rfl, hsz, hP, hK, hD0⟩ := hv
  have hx := B.exec
  have hb := B.bytes
  have hr := B.returns
  have hts := atoms_spec (ws := wsX6_rule) B.pre
  have hown : s.vm.findClass RX6 = some m.cls := findClass_of_methodNamed B.named
  have hlocks := B.notSynchronized
  subst hsz
  have hD := hD0.self (sz := s.heap.size)
  generalize hAe : va_A [(m0, .inr (6, [.ref ms, .ref mf, .ref mw, .ref mk, .int 0, .ref mh, .int 0, .int 0, .int 21, .int 17, .int 0, .int 1, .int 1, .int 1, .int 3, .long 1, .int 0, .ref q0, .ref q1, .ref q2, .int 0, .ref q3, .ref q4, .ref q5, .ref q6, .ref q7, .int 0, .int 0, .int 0, .int 0, .int 0, .int 0, .int 0, .int 0, .int 0, .ref k0, .ref k1, .ref k2, .ref k3]))] s.heap.size = A at hD ⊢
  have hA : ∀ q : Nat, s.heap.size ≤ q → A q := fun q h => by rw [← hAe]; exact Or.inr h
  have hS : va_S A s.heap s.heap [] := va_S.rf
  have hP : va_P D vwCl [(m0, .inr (6, [.ref ms, .ref mf, .ref mw, .ref mk, .int 0, .ref mh, .int 0, .int 0, .int 21, .int 17, .int 0, .int 1, .int 1, .int 1, .int 3, .long 1, .int 0, .ref q0, .ref q1, .ref q2, .int 0, .ref q3, .ref q4, .ref q5, .ref q6, .ref q7, .int 0, .int 0, .int 0, .int 0, .int 0, .int 0, .int 0, .int 0, .int 0, .ref k0, .ref k1, .ref k2, .ref k3]))] s.heap := hP
  have hl := lv_entry ([.ref m0, .int 5, .int p1]) (n := 7) (Nat.le_of_ble_eq_true rfl)
  rw [lg_entry_eq]
  generalize (lg_sl ([.ref m0, .int 5, .int p1]) ++ List.replicate (7 - (lg_sl ([.ref m0, .int 5, .int p1])).length) Slot.unset).toArray = ls at hl ⊢
  have hl : lv_has ls 7 [(0, .ref m0), (1, .int 5), (2, .int p1)] := hl
  refine lv_iload_n hx hb dX6_rule_0 rfl (lv_at hl 1 rfl) ?_
  refine lv_if_ne (tgt := 8) hx hb dX6_rule_1 (by decide) (fun c1_1 => ?_) (fun c1_1 => ?_)
  · skip
    refine lv_aload_n hx hb dX6_rule_8 rfl (lv_at hl 0 rfl) ?_
    refine va_get (D := D) (ci := 6) (v := .int 21) (C := RX6) (T := TX6) (N := 39) hx hb hts in_X6_rule_X6 hown hK hP 0 rfl rfl 8 (by decide) (hts _ wd_X6_rule_5) (fun _ h9 => h9) rfl dX6_rule_9 ?_
    refine lv_istore_n (lv' := [(3, .int 21), (0, .ref m0), (1, .int 5), (2, .int p1)]) hx hb dX6_rule_12 rfl hl (by decide) rfl (fun ls hl => ?_)
    refine lv_iload_n hx hb dX6_rule_13 rfl (lv_at hl 2 rfl) ?_
    refine lv_iconst (v := 1) hx hb dX6_rule_14 (by decide) ?_
    refine lv_icmp_ne (tgt := 22) hx hb dX6_rule_15 (by decide) (fun c15_2 => ?_) (fun c15_2 => ?_)
    · skip
      refine lv_aload_n hx hb dX6_rule_22 rfl (lv_at hl 1 rfl) ?_
      refine va_get (D := D) (ci := 6) (v := .int 17) (C := RX6) (T := TX6) (N := 39) hx hb hts in_X6_rule_X6 hown hK hP 0 rfl rfl 9 (by decide) (hts _ wd_X6_rule_0) (fun _ h9 => h9) rfl dX6_rule_23 ?_
      refine lv_istore (lv' := [(4, .int 17), (3, .int 21), (0, .ref m0), (1, .int 5), (2, .int p1)]) hx hb dX6_rule_26 hl (by decide) rfl (fun ls hl => ?_)
      refine lv_iload_n hx hb dX6_rule_28 rfl (lv_at hl 3 rfl) ?_
      refine lv_iconst (v := 2) hx hb dX6_rule_29 (by decide) ?_
      refine lv_icmp_ge (tgt := 69) hx hb dX6_rule_30 (by decide) (fun c30_3 => ?_) (fun c30_3 => ?_)
      · skip
        refine lv_iload_n hx hb dX6_rule_69 rfl (lv_at hl 3 rfl) ?_
        refine lv_bipush (v := 6) hx hb dX6_rule_70 (by decide) ?_
        refine lv_icmp_ge (tgt := 85) hx hb dX6_rule_72 (by decide) (fun c72_4 => ?_) (fun c72_4 => ?_)
        · exact absurd c72_4 (by decide)
        refine lv_iload_n hx hb dX6_rule_75 rfl (lv_at hl 4 rfl) ?_
        refine lv_i2l (v := p1.toInt64) hx hb dX6_rule_76 rfl ?_
        refine lv_lconst (v := 0) hx hb dX6_rule_77 (by decide) ?_
        refine lv_lconst (v := 1) hx hb dX6_rule_78 (by decide) ?_
        have hPc := hP.sub (ws' := []) [] rfl
        refine vp_callSi (W.runS (As := [.long p1.toInt64, .long 0, .long 1]) (rest := []) ⟨hx, hb, hml, hown, hts⟩ (c_X6_in l D cI cJ cQ p1.toInt64 0 1) (va_cwS 3 hts gX6_rule_X6_in rfl rfl rfl (by decide +kernel) ⟨Nat.le_of_ble_eq_true rfl, Nat.le_of_ble_eq_true rfl⟩) (rP_preS hPc hK) rfl rfl hl.1 rfl (lv_room (Nat.le_of_ble_eq_true rfl)) dX6_rule_79 ⟨Nat.le_of_ble_eq_true rfl, Nat.le_of_ble_eq_true rfl⟩) (fun r_5 hr_5 => ?_)
        subst hr_5
        refine lv_goto (tgt := 96) hx hb dX6_rule_82 (by decide) ?_
        refine lv_istore (lv' := [(5, .int (inB p1.toInt64 0 1)), (4, .int 17), (3, .int 21), (0, .ref m0), (1, .int 5), (2, .int p1)]) hx hb dX6_rule_96 hl (by decide) rfl (fun ls hl => ?_)
        refine lv_iload_n hx hb dX6_rule_98 rfl (lv_at hl 4 rfl) ?_
        refine lv_i2l (v := 5) hx hb dX6_rule_99 (by decide) ?_
        refine lv_lconst (v := 0) hx hb dX6_rule_100 (by decide) ?_
        refine lv_ldc2 hx hb hown (hts _ wd_X6_rule_3) dX6_rule_101 ?_
        have hPc := hP.sub (ws' := []) [] rfl
        refine vp_callSi (W.runS (As := [.long 5, .long 0, .long 6]) (rest := []) ⟨hx, hb, hml, hown, hts⟩ (c_X6_in l D cI cJ cQ 5 0 6) (va_cwS 3 hts gX6_rule_X6_in rfl rfl rfl (by decide +kernel) ⟨Nat.le_of_ble_eq_true rfl, Nat.le_of_ble_eq_true rfl⟩) (rP_preS hPc hK) rfl rfl hl.1 rfl (lv_room (Nat.le_of_ble_eq_true rfl)) dX6_rule_104 ⟨Nat.le_of_ble_eq_true rfl, Nat.le_of_ble_eq_true rfl⟩) (fun r_6 hr_6 => ?_)
        subst hr_6
        refine lv_topi (fun z_7 ez_7 => ?_)
        obtain rfl : z_7 = 1 := ez_7.trans (by decide)
        refine lv_if_eq (tgt := 115) hx hb dX6_rule_107 (by decide) (fun c107_8 => ?_) (fun c107_8 => ?_)
        · exact absurd c107_8 (by decide)
        refine lv_iload hx hb dX6_rule_110 (lv_at hl 0 rfl) ?_
        refine lv_if_ne (tgt := 119) hx hb dX6_rule_112 (by decide) (fun c112_9 => ?_) (fun c112_9 => ?_)
        · skip
          refine lv_iconst (v := 0) hx hb dX6_rule_119 (by decide) ?_
          refine lv_istore (lv' := [(6, .int 0), (5, .int (inB p1.toInt64 0 1)), (4, .int 17), (3, .int 21), (0, .ref m0), (1, .int 5), (2, .int p1)]) hx hb dX6_rule_120 hl (by decide) rfl (fun ls hl => ?_)
          refine lv_iload_n hx hb dX6_rule_122 rfl (lv_at hl 5 rfl) ?_
          refine lv_tableIn (off := 107) (tgt := 230) hx hb dX6_rule_123 (by decide) (by decide) (by decide) (by decide) ?_
          refine lv_aload_n hx hb dX6_rule_230 rfl (lv_at hl 4 rfl) ?_
          refine va_get (D := D) (ci := 6) (v := .int 1) (C := RX6) (T := TX6) (N := 39) hx hb hts in_X6_rule_X6 hown hK hP 0 rfl rfl 13 (by decide) (hts _ wd_X6_rule_9) (fun _ h9 => h9) rfl dX6_rule_231 ?_
          refine lv_istore (lv' := [(6, .int 1), (5, .int (inB p1.toInt64 0 1)), (4, .int 17), (3, .int 21), (0, .ref m0), (1, .int 5), (2, .int p1)]) hx hb dX6_rule_234 hl (by decide) rfl (fun ls hl => ?_)
          refine lv_aload_n hx hb dX6_rule_236 rfl (lv_at hl 4 rfl) ?_
          refine lv_iload_n hx hb dX6_rule_237 rfl (lv_at hl 6 rfl) ?_
          refine va_put (D := D) (ci := 6) (v := .int p1) (ty := .int) (C := RX6) (T := TX6) (N := 39) hx hb hts in_X6_rule_X6 tyX6 tyX6_ok nmX6 hown hK hP hD hS 0 rfl rfl 13 (by decide) (hts _ wd_X6_rule_9) (fun _ h9 => h9) rfl (by decide +kernel) rfl rfl (Nat.le_of_ble_eq_true rfl) dX6_rule_238 (fun H locs hP hD hS => ?_)
          have hP : va_P D vwCl [(m0, .inr (6, [.ref ms, .ref mf, .ref mw, .ref mk, .int 0, .ref mh, .int 0, .int 0, .int 21, .int 17, .int 0, .int 1, .int 1, .int p1, .int 3, .long 1, .int 0, .ref q0, .ref q1, .ref q2, .int 0, .ref q3, .ref q4, .ref q5, .ref q6, .ref q7, .int 0, .int 0, .int 0, .int 0, .int 0, .int 0, .int 0, .int 0, .int 0, .ref k0, .ref k1, .ref k2, .ref k3]))] H := hP
          have hD : va_D A [(m0, .inr (6, [.ref ms, .ref mf, .ref mw, .ref mk, .int 0, .ref mh, .int 0, .int 0, .int 21, .int 17, .int 0, .int 1, .int 1, .int p1, .int 3, .long 1, .int 0, .ref q0, .ref q1, .ref q2, .int 0, .ref q3, .ref q4, .ref q5, .ref q6, .ref q7, .int 0, .int 0, .int 0, .int 0, .int 0, .int 0, .int 0, .int 0, .int 0, .ref k0, .ref k1, .ref k2, .ref k3]))] := hD
          refine lv_goto (tgt := 255) hx hb dX6_rule_241 (by decide) ?_
          refine lv_iload hx hb dX6_rule_255 (lv_at hl 0 rfl) ?_
          have hP9 := hP.sub (ws' := []) [] rfl
          have hD9 := hD.sub (ws' := []) [] (by decide) rfl
          exact W.iret (v := 1) hx hb hr (fun t ht hW => ⟨⟨1, (), rfl, (rule_good (by unfold okR; have e9 : (5 : Int32).toInt = 5 := (by decide); (try simp only [rl1, rl2, rl3, rl6, rl7, rl8] at c1_1); (try simp only [rl1, rl2, rl3, rl6, rl7, rl8] at c15_2); (try simp only [rl1, rl2, rl3, rl6, rl7, rl8] at c30_3); (try simp only [rl1, rl2, rl3, rl6, rl7, rl8] at c112_9); omega) rfl), by rw [ht]; exact hP9, va_K.moved hW.alike hK, hD9⟩, hS.F ht⟩) hS.2.2 dX6_rule_257
        · skip
          refine lv_sipush (v := (-1001)) hx hb dX6_rule_115 (by decide) ?_
          have hP9 := hP.sub (ws' := []) [] rfl
          have hD9 := hD.sub (ws' := []) [] (by decide) rfl
          exact W.iret (v := (-1001)) hx hb hr (fun t ht hW => ⟨⟨(-1001), (), rfl, (rule_bad (fun z => by unfold okR at z; have e9 : (5 : Int32).toInt = 5 := (by decide); (try simp only [rl1, rl2, rl3, rl6, rl7, rl8] at c1_1); (try simp only [rl1, rl2, rl3, rl6, rl7, rl8] at c15_2); (try simp only [rl1, rl2, rl3, rl6, rl7, rl8] at c30_3); (try simp only [rl1, rl2, rl3, rl6, rl7, rl8] at c112_9); omega)), by rw [ht]; exact hP9, va_K.moved hW.alike hK, hD9⟩, hS.F ht⟩) hS.2.2 dX6_rule_118
      · exact absurd c30_3 (by decide)
    · exact absurd c15_2 (by decide)
  · exact absurd c1_1 (by decide)

set_option maxRecDepth 20000 in
theorem wd_X6_rule_10 : Cond.constantLong RX6 112 (2) ∈ wsX6_rule := by decide +kernel
set_option maxRecDepth 20000 in
theorem wd_X6_rule_11 : Cond.constantLong RX6 114 (4) ∈ wsX6_rule := by decide +kernel
set_option maxRecDepth 20000 in
theorem wd_X6_rule_12 : Cond.fieldLink RX6 41 "ShoeTableModel" "bonus" "I" ∈ wsX6_rule := by decide +kernel
set_option maxHeartbeats 400000 in
set_option maxRecDepth 100000 in
/-- X6_rule -/
theorem c_X6_rule_6 (l : Launch) (D : va_G) (cI cJ cQ : ClassId) (sz : Nat) (m0 : Nat) (ms : Nat) (mf : Nat) (mw : Nat) (mk : Nat) (mh : Nat) (q0 : Nat) (q1 : Nat) (q2 : Nat) (q3 : Nat) (q4 : Nat) (q5 : Nat) (q6 : Nat) (q7 : Nat) (k0 : Nat) (k1 : Nat) (k2 : Nat) (k3 : Nat) (p1 : Int32)  : Met l yX6_rule wsX6_rule ({ frames := 1, cells := 0, slots := 0, locals := 25 }) (va_Pc [.ref m0, .int 6, .int p1] (mP D (gTy cI cJ cQ) [(m0, .inr (6, [.ref ms, .ref mf, .ref mw, .ref mk, .int 0, .ref mh, .int 0, .int 0, .int 21, .int 17, .int 0, .int 1, .int 1, .int 1, .int 3, .long 1, .int 0, .ref q0, .ref q1, .ref q2, .int 0, .ref q3, .ref q4, .ref q5, .ref q6, .ref q7, .int 0, .int 0, .int 0, .int 0, .int 0, .int 0, .int 0, .int 0, .int 0, .ref k0, .ref k1, .ref k2, .ref k3]))] sz)) (va_Qi (fun (r : Int32) (u : Unit) => match u with | _ => r = ruleS 6 p1) (fun (u : Unit) t => match u with | _ => mB D (gTy cI cJ cQ) (va_A [(m0, .inr (6, [.ref ms, .ref mf, .ref mw, .ref mk, .int 0, .ref mh, .int 0, .int 0, .int 21, .int 17, .int 0, .int 1, .int 1, .int 1, .int 3, .long 1, .int 0, .ref q0, .ref q1, .ref q2, .int 0, .ref q3, .ref q4, .ref q5, .ref q6, .ref q7, .int 0, .int 0, .int 0, .int 0, .int 0, .int 0, .int 0, .int 0, .int 0, .ref k0, .ref k1, .ref k2, .ref k3]))] sz) [] t) (va_A [(m0, .inr (6, [.ref ms, .ref mf, .ref mw, .ref mk, .int 0, .ref mh, .int 0, .int 0, .int 21, .int 17, .int 0, .int 1, .int 1, .int 1, .int 3, .long 1, .int 0, .ref q0, .ref q1, .ref q2, .int 0, .ref q3, .ref q4, .ref q5, .ref q6, .ref q7, .int 0, .int 0, .int 0, .int 0, .int 0, .int 0, .int 0, .int 0, .int 0, .ref k0, .ref k1, .ref k2, .ref k3]))] sz)) 0 0 (va_A [(m0, .inr (6, [.ref ms, .ref mf, .ref mw, .ref mk, .int 0, .ref mh, .int 0, .int 0, .int 21, .int 17, .int 0, .int 1, .int 1, .int 1, .int 3, .long 1, .int 0, .ref q0, .ref q1, .ref q2, .int 0, .ref q3, .ref q4, .ref q5, .ref q6, .ref q7, .int 0, .int 0, .int 0, .int 0, .int 0, .int 0, .int 0, .int 0, .int 0, .ref k0, .ref k1, .ref k2, .ref k3]))] sz) := by
  refine Met.ofW (cc := cX6_rule) (maxL := 7) (ret := (some .int)) (by decide) rfl ?_
  intro p e s m args below meth c s₁ B hml hv
  obtain ⟨rfl, hsz, hP, hK, hD0⟩ := hv
  have hx := B.exec
  have hb := B.bytes
  have hr := B.returns
  have hts := atoms_spec (ws := wsX6_rule) B.pre
  have hown : s.vm.findClass RX6 = some m.cls := findClass_of_methodNamed B.named
  have hlocks := B.notSynchronized
  subst hsz
  have hD := hD0.self (sz := s.heap.size)
  generalize hAe : va_A [(m0, .inr (6, [.ref ms, .ref mf, .ref mw, .ref mk, .int 0, .ref mh, .int 0, .int 0, .int 21, .int 17, .int 0, .int 1, .int 1, .int 1, .int 3, .long 1, .int 0, .ref q0, .ref q1, .ref q2, .int 0, .ref q3, .ref q4, .ref q5, .ref q6, .ref q7, .int 0, .int 0, .int 0, .int 0, .int 0, .int 0, .int 0, .int 0, .int 0, .ref k0, .ref k1, .ref k2, .ref k3]))] s.heap.size = A at hD ⊢
  have hA : ∀ q : Nat, s.heap.size ≤ q → A q := fun q h => by rw [← hAe]; exact Or.inr h
  have hS : va_S A s.heap s.heap [] := va_S.rf
  have hP : va_P D vwCl [(m0, .inr (6, [.ref ms, .ref mf, .ref mw, .ref mk, .int 0, .ref mh, .int 0, .int 0, .int 21, .int 17, .int 0, .int 1, .int 1, .int 1, .int 3, .long 1, .int 0, .ref q0, .ref q1, .ref q2, .int 0, .ref q3, .ref q4, .ref q5, .ref q6, .ref q7, .int 0, .int 0, .int 0, .int 0, .int 0, .int 0, .int 0, .int 0, .int 0, .ref k0, .ref k1, .ref k2, .ref k3]))] s.heap := hP
  have hl := lv_entry ([.ref m0, .int 6, .int p1]) (n := 7) (Nat.le_of_ble_eq_true rfl)
  rw [lg_entry_eq]
  generalize (lg_sl ([.ref m0, .int 6, .int p1]) ++ List.replicate (7 - (lg_sl ([.ref m0, .int 6, .int p1])).length) Slot.unset).toArray = ls at hl ⊢
  have hl : lv_has ls 7 [(0, .ref m0), (1, .int 6), (2, .int p1)] := hl
  refine lv_iload_n hx hb dX6_rule_0 rfl (lv_at hl 1 rfl) ?_
  refine lv_if_ne (tgt := 8) hx hb dX6_rule_1 (by decide) (fun c1_1 => ?_) (fun c1_1 => ?_)
  · skip
    refine lv_aload_n hx hb dX6_rule_8 rfl (lv_at hl 0 rfl) ?_
    refine va_get (D := D) (ci := 6) (v := .int 21) (C := RX6) (T := TX6) (N := 39) hx hb hts in_X6_rule_X6 hown hK hP 0 rfl rfl 8 (by decide) (hts _ wd_X6_rule_5) (fun _ h9 => h9) rfl dX6_rule_9 ?_
    refine lv_istore_n (lv' := [(3, .int 21), (0, .ref m0), (1, .int 6), (2, .int p1)]) hx hb dX6_rule_12 rfl hl (by decide) rfl (fun ls hl => ?_)
    refine lv_iload_n hx hb dX6_rule_13 rfl (lv_at hl 2 rfl) ?_
    refine lv_iconst (v := 1) hx hb dX6_rule_14 (by decide) ?_
    refine lv_icmp_ne (tgt := 22) hx hb dX6_rule_15 (by decide) (fun c15_2 => ?_) (fun c15_2 => ?_)
    · skip
      refine lv_aload_n hx hb dX6_rule_22 rfl (lv_at hl 1 rfl) ?_
      refine va_get (D := D) (ci := 6) (v := .int 17) (C := RX6) (T := TX6) (N := 39) hx hb hts in_X6_rule_X6 hown hK hP 0 rfl rfl 9 (by decide) (hts _ wd_X6_rule_0) (fun _ h9 => h9) rfl dX6_rule_23 ?_
      refine lv_istore (lv' := [(4, .int 17), (3, .int 21), (0, .ref m0), (1, .int 6), (2, .int p1)]) hx hb dX6_rule_26 hl (by decide) rfl (fun ls hl => ?_)
      refine lv_iload_n hx hb dX6_rule_28 rfl (lv_at hl 3 rfl) ?_
      refine lv_iconst (v := 2) hx hb dX6_rule_29 (by decide) ?_
      refine lv_icmp_ge (tgt := 69) hx hb dX6_rule_30 (by decide) (fun c30_3 => ?_) (fun c30_3 => ?_)
      · skip
        refine lv_iload_n hx hb dX6_rule_69 rfl (lv_at hl 3 rfl) ?_
        refine lv_bipush (v := 6) hx hb dX6_rule_70 (by decide) ?_
        refine lv_icmp_ge (tgt := 85) hx hb dX6_rule_72 (by decide) (fun c72_4 => ?_) (fun c72_4 => ?_)
        · skip
          refine lv_iload_n hx hb dX6_rule_85 rfl (lv_at hl 4 rfl) ?_
          refine lv_i2l (v := p1.toInt64) hx hb dX6_rule_86 rfl ?_
          refine lv_ldc2 hx hb hown (hts _ wd_X6_rule_10) dX6_rule_87 ?_
          refine lv_ldc2 hx hb hown (hts _ wd_X6_rule_11) dX6_rule_90 ?_
          have hPc := hP.sub (ws' := []) [] rfl
          refine vp_callSi (W.runS (As := [.long p1.toInt64, .long 2, .long 4]) (rest := []) ⟨hx, hb, hml, hown, hts⟩ (c_X6_in l D cI cJ cQ p1.toInt64 2 4) (va_cwS 3 hts gX6_rule_X6_in rfl rfl rfl (by decide +kernel) ⟨Nat.le_of_ble_eq_true rfl, Nat.le_of_ble_eq_true rfl⟩) (rP_preS hPc hK) rfl rfl hl.1 rfl (lv_room (Nat.le_of_ble_eq_true rfl)) dX6_rule_93 ⟨Nat.le_of_ble_eq_true rfl, Nat.le_of_ble_eq_true rfl⟩) (fun r_5 hr_5 => ?_)
          subst hr_5
          refine lv_istore (lv' := [(5, .int (inB p1.toInt64 2 4)), (4, .int 17), (3, .int 21), (0, .ref m0), (1, .int 6), (2, .int p1)]) hx hb dX6_rule_96 hl (by decide) rfl (fun ls hl => ?_)
          refine lv_iload_n hx hb dX6_rule_98 rfl (lv_at hl 4 rfl) ?_
          refine lv_i2l (v := 6) hx hb dX6_rule_99 (by decide) ?_
          refine lv_lconst (v := 0) hx hb dX6_rule_100 (by decide) ?_
          refine lv_ldc2 hx hb hown (hts _ wd_X6_rule_3) dX6_rule_101 ?_
          have hPc := hP.sub (ws' := []) [] rfl
          refine vp_callSi (W.runS (As := [.long 6, .long 0, .long 6]) (rest := []) ⟨hx, hb, hml, hown, hts⟩ (c_X6_in l D cI cJ cQ 6 0 6) (va_cwS 3 hts gX6_rule_X6_in rfl rfl rfl (by decide +kernel) ⟨Nat.le_of_ble_eq_true rfl, Nat.le_of_ble_eq_true rfl⟩) (rP_preS hPc hK) rfl rfl hl.1 rfl (lv_room (Nat.le_of_ble_eq_true rfl)) dX6_rule_104 ⟨Nat.le_of_ble_eq_true rfl, Nat.le_of_ble_eq_true rfl⟩) (fun r_6 hr_6 => ?_)
          subst hr_6
          refine lv_topi (fun z_7 ez_7 => ?_)
          obtain rfl : z_7 = 1 := ez_7.trans (by decide)
          refine lv_if_eq (tgt := 115) hx hb dX6_rule_107 (by decide) (fun c107_8 => ?_) (fun c107_8 => ?_)
          · exact absurd c107_8 (by decide)
          refine lv_iload hx hb dX6_rule_110 (lv_at hl 0 rfl) ?_
          refine lv_if_ne (tgt := 119) hx hb dX6_rule_112 (by decide) (fun c112_9 => ?_) (fun c112_9 => ?_)
          · skip
            refine lv_iconst (v := 0) hx hb dX6_rule_119 (by decide) ?_
            refine lv_istore (lv' := [(6, .int 0), (5, .int (inB p1.toInt64 2 4)), (4, .int 17), (3, .int 21), (0, .ref m0), (1, .int 6), (2, .int p1)]) hx hb dX6_rule_120 hl (by decide) rfl (fun ls hl => ?_)
            refine lv_iload_n hx hb dX6_rule_122 rfl (lv_at hl 5 rfl) ?_
            refine lv_tableOut (tgt := 244) hx hb dX6_rule_123 (by decide) (by decide) ?_
            refine lv_aload_n hx hb dX6_rule_244 rfl (lv_at hl 4 rfl) ?_
            refine va_get (D := D) (ci := 6) (v := .int 3) (C := RX6) (T := TX6) (N := 39) hx hb hts in_X6_rule_X6 hown hK hP 0 rfl rfl 14 (by decide) (hts _ wd_X6_rule_12) (fun _ h9 => h9) rfl dX6_rule_245 ?_
            refine lv_istore (lv' := [(6, .int 3), (5, .int (inB p1.toInt64 2 4)), (4, .int 17), (3, .int 21), (0, .ref m0), (1, .int 6), (2, .int p1)]) hx hb dX6_rule_248 hl (by decide) rfl (fun ls hl => ?_)
            refine lv_aload_n hx hb dX6_rule_250 rfl (lv_at hl 4 rfl) ?_
            refine lv_iload_n hx hb dX6_rule_251 rfl (lv_at hl 6 rfl) ?_
            refine va_put (D := D) (ci := 6) (v := .int p1) (ty := .int) (C := RX6) (T := TX6) (N := 39) hx hb hts in_X6_rule_X6 tyX6 tyX6_ok nmX6 hown hK hP hD hS 0 rfl rfl 14 (by decide) (hts _ wd_X6_rule_12) (fun _ h9 => h9) rfl (by decide +kernel) rfl rfl (Nat.le_of_ble_eq_true rfl) dX6_rule_252 (fun H locs hP hD hS => ?_)
            have hP : va_P D vwCl [(m0, .inr (6, [.ref ms, .ref mf, .ref mw, .ref mk, .int 0, .ref mh, .int 0, .int 0, .int 21, .int 17, .int 0, .int 1, .int 1, .int 1, .int p1, .long 1, .int 0, .ref q0, .ref q1, .ref q2, .int 0, .ref q3, .ref q4, .ref q5, .ref q6, .ref q7, .int 0, .int 0, .int 0, .int 0, .int 0, .int 0, .int 0, .int 0, .int 0, .ref k0, .ref k1, .ref k2, .ref k3]))] H := hP
            have hD : va_D A [(m0, .inr (6, [.ref ms, .ref mf, .ref mw, .ref mk, .int 0, .ref mh, .int 0, .int 0, .int 21, .int 17, .int 0, .int 1, .int 1, .int 1, .int p1, .long 1, .int 0, .ref q0, .ref q1, .ref q2, .int 0, .ref q3, .ref q4, .ref q5, .ref q6, .ref q7, .int 0, .int 0, .int 0, .int 0, .int 0, .int 0, .int 0, .int 0, .int 0, .ref k0, .ref k1, .ref k2, .ref k3]))] := hD
            refine lv_iload hx hb dX6_rule_255 (lv_at hl 0 rfl) ?_
            have hP9 := hP.sub (ws' := []) [] rfl
            have hD9 := hD.sub (ws' := []) [] (by decide) rfl
            exact W.iret (v := 3) hx hb hr (fun t ht hW => ⟨⟨3, (), rfl, (rule_good (by unfold okR; have e9 : (6 : Int32).toInt = 6 := (by decide); (try simp only [rl1, rl2, rl3, rl6, rl7, rl8] at c1_1); (try simp only [rl1, rl2, rl3, rl6, rl7, rl8] at c15_2); (try simp only [rl1, rl2, rl3, rl6, rl7, rl8] at c30_3); (try simp only [rl1, rl2, rl3, rl6, rl7, rl8] at c72_4); (try simp only [rl1, rl2, rl3, rl6, rl7, rl8] at c112_9); omega) rfl), by rw [ht]; exact hP9, va_K.moved hW.alike hK, hD9⟩, hS.F ht⟩) hS.2.2 dX6_rule_257
          · skip
            refine lv_sipush (v := (-1001)) hx hb dX6_rule_115 (by decide) ?_
            have hP9 := hP.sub (ws' := []) [] rfl
            have hD9 := hD.sub (ws' := []) [] (by decide) rfl
            exact W.iret (v := (-1001)) hx hb hr (fun t ht hW => ⟨⟨(-1001), (), rfl, (rule_bad (fun z => by unfold okR at z; have e9 : (6 : Int32).toInt = 6 := (by decide); (try simp only [rl1, rl2, rl3, rl6, rl7, rl8] at c1_1); (try simp only [rl1, rl2, rl3, rl6, rl7, rl8] at c15_2); (try simp only [rl1, rl2, rl3, rl6, rl7, rl8] at c30_3); (try simp only [rl1, rl2, rl3, rl6, rl7, rl8] at c72_4); (try simp only [rl1, rl2, rl3, rl6, rl7, rl8] at c112_9); omega)), by rw [ht]; exact hP9, va_K.moved hW.alike hK, hD9⟩, hS.F ht⟩) hS.2.2 dX6_rule_118
        · exact absurd c72_4 (by decide)
      · exact absurd c30_3 (by decide)
    · exact absurd c15_2 (by decide)
  · exact absurd c1_1 (by decide)

set_option maxHeartbeats 400000 in
set_option maxRecDepth 100000 in
/-- X6_rule -/
theorem c_X6_rule_x (l : Launch) (D : va_G) (cI cJ cQ : ClassId) (sz : Nat) (m0 : Nat) (ms : Nat) (mf : Nat) (mw : Nat) (mk : Nat) (mh : Nat) (q0 : Nat) (q1 : Nat) (q2 : Nat) (q3 : Nat) (q4 : Nat) (q5 : Nat) (q6 : Nat) (q7 : Nat) (k0 : Nat) (k1 : Nat) (k2 : Nat) (k3 : Nat) (p0 : Int32) (p1 : Int32) (hk : p0.toInt < 0 ∨ 6 < p0.toInt) : Met l yX6_rule wsX6_rule ({ frames := 1, cells := 0, slots := 0, locals := 25 }) (va_Pc [.ref m0, .int p0, .int p1] (mP D (gTy cI cJ cQ) [(m0, .inr (6, [.ref ms, .ref mf, .ref mw, .ref mk, .int 0, .ref mh, .int 0, .int 0, .int 21, .int 17, .int 0, .int 1, .int 1, .int 1, .int 3, .long 1, .int 0, .ref q0, .ref q1, .ref q2, .int 0, .ref q3, .ref q4, .ref q5, .ref q6, .ref q7, .int 0, .int 0, .int 0, .int 0, .int 0, .int 0, .int 0, .int 0, .int 0, .ref k0, .ref k1, .ref k2, .ref k3]))] sz)) (va_Qi (fun (r : Int32) (u : Unit) => match u with | _ => r = ruleS p0 p1) (fun (u : Unit) t => match u with | _ => mB D (gTy cI cJ cQ) (va_A [(m0, .inr (6, [.ref ms, .ref mf, .ref mw, .ref mk, .int 0, .ref mh, .int 0, .int 0, .int 21, .int 17, .int 0, .int 1, .int 1, .int 1, .int 3, .long 1, .int 0, .ref q0, .ref q1, .ref q2, .int 0, .ref q3, .ref q4, .ref q5, .ref q6, .ref q7, .int 0, .int 0, .int 0, .int 0, .int 0, .int 0, .int 0, .int 0, .int 0, .ref k0, .ref k1, .ref k2, .ref k3]))] sz) [] t) (va_A [(m0, .inr (6, [.ref ms, .ref mf, .ref mw, .ref mk, .int 0, .ref mh, .int 0, .int 0, .int 21, .int 17, .int 0, .int 1, .int 1, .int 1, .int 3, .long 1, .int 0, .ref q0, .ref q1, .ref q2, .int 0, .ref q3, .ref q4, .ref q5, .ref q6, .ref q7, .int 0, .int 0, .int 0, .int 0, .int 0, .int 0, .int 0, .int 0, .int 0, .ref k0, .ref k1, .ref k2, .ref k3]))] sz)) 0 0 (va_A [(m0, .inr (6, [.ref ms, .ref mf, .ref mw, .ref mk, .int 0, .ref mh, .int 0, .int 0, .int 21, .int 17, .int 0, .int 1, .int 1, .int 1, .int 3, .long 1, .int 0, .ref q0, .ref q1, .ref q2, .int 0, .ref q3, .ref q4, .ref q5, .ref q6, .ref q7, .int 0, .int 0, .int 0, .int 0, .int 0, .int 0, .int 0, .int 0, .int 0, .ref k0, .ref k1, .ref k2, .ref k3]))] sz) := by
  refine Met.ofW (cc := cX6_rule) (maxL := 7) (ret := (some .int)) (by decide) rfl ?_
  intro p e s m args below meth c s₁ B hml hv
  obtain ⟨rfl, hsz, hP, hK, hD0⟩ := hv
  have hx := B.exec
  have hb := B.bytes
  have hr := B.returns
  have hts := atoms_spec (ws := wsX6_rule) B.pre
  have hown : s.vm.findClass RX6 = some m.cls := findClass_of_methodNamed B.named
  have hlocks := B.notSynchronized
  subst hsz
  have hD := hD0.self (sz := s.heap.size)
  generalize hAe : va_A [(m0, .inr (6, [.ref ms, .ref mf, .ref mw, .ref mk, .int 0, .ref mh, .int 0, .int 0, .int 21, .int 17, .int 0, .int 1, .int 1, .int 1, .int 3, .long 1, .int 0, .ref q0, .ref q1, .ref q2, .int 0, .ref q3, .ref q4, .ref q5, .ref q6, .ref q7, .int 0, .int 0, .int 0, .int 0, .int 0, .int 0, .int 0, .int 0, .int 0, .ref k0, .ref k1, .ref k2, .ref k3]))] s.heap.size = A at hD ⊢
  have hA : ∀ q : Nat, s.heap.size ≤ q → A q := fun q h => by rw [← hAe]; exact Or.inr h
  have hS : va_S A s.heap s.heap [] := va_S.rf
  have hP : va_P D vwCl [(m0, .inr (6, [.ref ms, .ref mf, .ref mw, .ref mk, .int 0, .ref mh, .int 0, .int 0, .int 21, .int 17, .int 0, .int 1, .int 1, .int 1, .int 3, .long 1, .int 0, .ref q0, .ref q1, .ref q2, .int 0, .ref q3, .ref q4, .ref q5, .ref q6, .ref q7, .int 0, .int 0, .int 0, .int 0, .int 0, .int 0, .int 0, .int 0, .int 0, .ref k0, .ref k1, .ref k2, .ref k3]))] s.heap := hP
  have hl := lv_entry ([.ref m0, .int p0, .int p1]) (n := 7) (Nat.le_of_ble_eq_true rfl)
  rw [lg_entry_eq]
  generalize (lg_sl ([.ref m0, .int p0, .int p1]) ++ List.replicate (7 - (lg_sl ([.ref m0, .int p0, .int p1])).length) Slot.unset).toArray = ls at hl ⊢
  have hl : lv_has ls 7 [(0, .ref m0), (1, .int p0), (2, .int p1)] := hl
  refine lv_iload_n hx hb dX6_rule_0 rfl (lv_at hl 1 rfl) ?_
  refine lv_if_ne (tgt := 8) hx hb dX6_rule_1 (by decide) (fun c1_1 => ?_) (fun c1_1 => ?_)
  · skip
    refine lv_aload_n hx hb dX6_rule_8 rfl (lv_at hl 0 rfl) ?_
    refine va_get (D := D) (ci := 6) (v := .int 21) (C := RX6) (T := TX6) (N := 39) hx hb hts in_X6_rule_X6 hown hK hP 0 rfl rfl 8 (by decide) (hts _ wd_X6_rule_5) (fun _ h9 => h9) rfl dX6_rule_9 ?_
    refine lv_istore_n (lv' := [(3, .int 21), (0, .ref m0), (1, .int p0), (2, .int p1)]) hx hb dX6_rule_12 rfl hl (by decide) rfl (fun ls hl => ?_)
    refine lv_iload_n hx hb dX6_rule_13 rfl (lv_at hl 2 rfl) ?_
    refine lv_iconst (v := 1) hx hb dX6_rule_14 (by decide) ?_
    refine lv_icmp_ne (tgt := 22) hx hb dX6_rule_15 (by decide) (fun c15_2 => ?_) (fun c15_2 => ?_)
    · skip
      refine lv_aload_n hx hb dX6_rule_22 rfl (lv_at hl 1 rfl) ?_
      refine va_get (D := D) (ci := 6) (v := .int 17) (C := RX6) (T := TX6) (N := 39) hx hb hts in_X6_rule_X6 hown hK hP 0 rfl rfl 9 (by decide) (hts _ wd_X6_rule_0) (fun _ h9 => h9) rfl dX6_rule_23 ?_
      refine lv_istore (lv' := [(4, .int 17), (3, .int 21), (0, .ref m0), (1, .int p0), (2, .int p1)]) hx hb dX6_rule_26 hl (by decide) rfl (fun ls hl => ?_)
      refine lv_iload_n hx hb dX6_rule_28 rfl (lv_at hl 3 rfl) ?_
      refine lv_iconst (v := 2) hx hb dX6_rule_29 (by decide) ?_
      refine lv_icmp_ge (tgt := 69) hx hb dX6_rule_30 (by decide) (fun c30_3 => ?_) (fun c30_3 => ?_)
      · skip
        refine lv_iload_n hx hb dX6_rule_69 rfl (lv_at hl 3 rfl) ?_
        refine lv_bipush (v := 6) hx hb dX6_rule_70 (by decide) ?_
        refine lv_icmp_ge (tgt := 85) hx hb dX6_rule_72 (by decide) (fun c72_4 => ?_) (fun c72_4 => ?_)
        · skip
          refine lv_iload_n hx hb dX6_rule_85 rfl (lv_at hl 4 rfl) ?_
          refine lv_i2l (v := p1.toInt64) hx hb dX6_rule_86 rfl ?_
          refine lv_ldc2 hx hb hown (hts _ wd_X6_rule_10) dX6_rule_87 ?_
          refine lv_ldc2 hx hb hown (hts _ wd_X6_rule_11) dX6_rule_90 ?_
          have hPc := hP.sub (ws' := []) [] rfl
          refine vp_callSi (W.runS (As := [.long p1.toInt64, .long 2, .long 4]) (rest := []) ⟨hx, hb, hml, hown, hts⟩ (c_X6_in l D cI cJ cQ p1.toInt64 2 4) (va_cwS 3 hts gX6_rule_X6_in rfl rfl rfl (by decide +kernel) ⟨Nat.le_of_ble_eq_true rfl, Nat.le_of_ble_eq_true rfl⟩) (rP_preS hPc hK) rfl rfl hl.1 rfl (lv_room (Nat.le_of_ble_eq_true rfl)) dX6_rule_93 ⟨Nat.le_of_ble_eq_true rfl, Nat.le_of_ble_eq_true rfl⟩) (fun r_5 hr_5 => ?_)
          subst hr_5
          refine lv_istore (lv' := [(5, .int (inB p1.toInt64 2 4)), (4, .int 17), (3, .int 21), (0, .ref m0), (1, .int p0), (2, .int p1)]) hx hb dX6_rule_96 hl (by decide) rfl (fun ls hl => ?_)
          refine lv_iload_n hx hb dX6_rule_98 rfl (lv_at hl 4 rfl) ?_
          refine lv_i2l (v := p0.toInt64) hx hb dX6_rule_99 rfl ?_
          refine lv_lconst (v := 0) hx hb dX6_rule_100 (by decide) ?_
          refine lv_ldc2 hx hb hown (hts _ wd_X6_rule_3) dX6_rule_101 ?_
          have hPc := hP.sub (ws' := []) [] rfl
          refine vp_callSi (W.runS (As := [.long p0.toInt64, .long 0, .long 6]) (rest := []) ⟨hx, hb, hml, hown, hts⟩ (c_X6_in l D cI cJ cQ p0.toInt64 0 6) (va_cwS 3 hts gX6_rule_X6_in rfl rfl rfl (by decide +kernel) ⟨Nat.le_of_ble_eq_true rfl, Nat.le_of_ble_eq_true rfl⟩) (rP_preS hPc hK) rfl rfl hl.1 rfl (lv_room (Nat.le_of_ble_eq_true rfl)) dX6_rule_104 ⟨Nat.le_of_ble_eq_true rfl, Nat.le_of_ble_eq_true rfl⟩) (fun r_6 hr_6 => ?_)
          subst hr_6
          refine lv_if_eq (tgt := 115) hx hb dX6_rule_107 (by decide) (fun c107_7 => ?_) (fun c107_7 => ?_)
          · skip
            refine lv_sipush (v := (-1001)) hx hb dX6_rule_115 (by decide) ?_
            have hP9 := hP.sub (ws' := []) [] rfl
            have hD9 := hD.sub (ws' := []) [] (by decide) rfl
            exact W.iret (v := (-1001)) hx hb hr (fun t ht hW => ⟨⟨(-1001), (), rfl, (rule_bad (fun z => by unfold okR at z; omega)), by rw [ht]; exact hP9, va_K.moved hW.alike hK, hD9⟩, hS.F ht⟩) hS.2.2 dX6_rule_118
          · exact absurd ((rl8 p0).mpr hk) c107_7
        · skip
          refine lv_iload_n hx hb dX6_rule_75 rfl (lv_at hl 4 rfl) ?_
          refine lv_i2l (v := p1.toInt64) hx hb dX6_rule_76 rfl ?_
          refine lv_lconst (v := 0) hx hb dX6_rule_77 (by decide) ?_
          refine lv_lconst (v := 1) hx hb dX6_rule_78 (by decide) ?_
          have hPc := hP.sub (ws' := []) [] rfl
          refine vp_callSi (W.runS (As := [.long p1.toInt64, .long 0, .long 1]) (rest := []) ⟨hx, hb, hml, hown, hts⟩ (c_X6_in l D cI cJ cQ p1.toInt64 0 1) (va_cwS 3 hts gX6_rule_X6_in rfl rfl rfl (by decide +kernel) ⟨Nat.le_of_ble_eq_true rfl, Nat.le_of_ble_eq_true rfl⟩) (rP_preS hPc hK) rfl rfl hl.1 rfl (lv_room (Nat.le_of_ble_eq_true rfl)) dX6_rule_79 ⟨Nat.le_of_ble_eq_true rfl, Nat.le_of_ble_eq_true rfl⟩) (fun r_8 hr_8 => ?_)
          subst hr_8
          refine lv_goto (tgt := 96) hx hb dX6_rule_82 (by decide) ?_
          refine lv_istore (lv' := [(5, .int (inB p1.toInt64 0 1)), (4, .int 17), (3, .int 21), (0, .ref m0), (1, .int p0), (2, .int p1)]) hx hb dX6_rule_96 hl (by decide) rfl (fun ls hl => ?_)
          refine lv_iload_n hx hb dX6_rule_98 rfl (lv_at hl 4 rfl) ?_
          refine lv_i2l (v := p0.toInt64) hx hb dX6_rule_99 rfl ?_
          refine lv_lconst (v := 0) hx hb dX6_rule_100 (by decide) ?_
          refine lv_ldc2 hx hb hown (hts _ wd_X6_rule_3) dX6_rule_101 ?_
          have hPc := hP.sub (ws' := []) [] rfl
          refine vp_callSi (W.runS (As := [.long p0.toInt64, .long 0, .long 6]) (rest := []) ⟨hx, hb, hml, hown, hts⟩ (c_X6_in l D cI cJ cQ p0.toInt64 0 6) (va_cwS 3 hts gX6_rule_X6_in rfl rfl rfl (by decide +kernel) ⟨Nat.le_of_ble_eq_true rfl, Nat.le_of_ble_eq_true rfl⟩) (rP_preS hPc hK) rfl rfl hl.1 rfl (lv_room (Nat.le_of_ble_eq_true rfl)) dX6_rule_104 ⟨Nat.le_of_ble_eq_true rfl, Nat.le_of_ble_eq_true rfl⟩) (fun r_9 hr_9 => ?_)
          subst hr_9
          refine lv_if_eq (tgt := 115) hx hb dX6_rule_107 (by decide) (fun c107_10 => ?_) (fun c107_10 => ?_)
          · skip
            refine lv_sipush (v := (-1001)) hx hb dX6_rule_115 (by decide) ?_
            have hP9 := hP.sub (ws' := []) [] rfl
            have hD9 := hD.sub (ws' := []) [] (by decide) rfl
            exact W.iret (v := (-1001)) hx hb hr (fun t ht hW => ⟨⟨(-1001), (), rfl, (rule_bad (fun z => by unfold okR at z; omega)), by rw [ht]; exact hP9, va_K.moved hW.alike hK, hD9⟩, hS.F ht⟩) hS.2.2 dX6_rule_118
          · exact absurd ((rl8 p0).mpr hk) c107_10
      · skip
        refine lv_iload_n hx hb dX6_rule_33 rfl (lv_at hl 1 rfl) ?_
        refine lv_i2l (v := 21) hx hb dX6_rule_34 (by decide) ?_
        refine lv_ldc2 hx hb hown (hts _ wd_X6_rule_1) dX6_rule_35 ?_
        refine lv_ldc2 hx hb hown (hts _ wd_X6_rule_2) dX6_rule_38 ?_
        have hPc := hP.sub (ws' := []) [] rfl
        refine vp_callSi (W.runS (As := [.long 21, .long 11, .long 21]) (rest := []) ⟨hx, hb, hml, hown, hts⟩ (c_X6_in l D cI cJ cQ 21 11 21) (va_cwS 3 hts gX6_rule_X6_in rfl rfl rfl (by decide +kernel) ⟨Nat.le_of_ble_eq_true rfl, Nat.le_of_ble_eq_true rfl⟩) (rP_preS hPc hK) rfl rfl hl.1 rfl (lv_room (Nat.le_of_ble_eq_true rfl)) dX6_rule_41 ⟨Nat.le_of_ble_eq_true rfl, Nat.le_of_ble_eq_true rfl⟩) (fun r_11 hr_11 => ?_)
        subst hr_11
        refine lv_topi (fun z_12 ez_12 => ?_)
        obtain rfl : z_12 = 1 := ez_12.trans (by decide)
        refine lv_if_eq (tgt := 65) hx hb dX6_rule_44 (by decide) (fun c44_13 => ?_) (fun c44_13 => ?_)
        · exact absurd c44_13 (by decide)
        refine lv_iload hx hb dX6_rule_47 (lv_at hl 0 rfl) ?_
        refine lv_i2l (v := 17) hx hb dX6_rule_49 (by decide) ?_
        refine lv_ldc2 hx hb hown (hts _ wd_X6_rule_4) dX6_rule_50 ?_
        refine lv_iload_n hx hb dX6_rule_53 rfl (lv_at hl 1 rfl) ?_
        refine lv_i2l (v := 21) hx hb dX6_rule_54 (by decide) ?_
        have hPc := hP.sub (ws' := []) [] rfl
        refine vp_callSi (W.runS (As := [.long 17, .long 10, .long 21]) (rest := []) ⟨hx, hb, hml, hown, hts⟩ (c_X6_in l D cI cJ cQ 17 10 21) (va_cwS 3 hts gX6_rule_X6_in rfl rfl rfl (by decide +kernel) ⟨Nat.le_of_ble_eq_true rfl, Nat.le_of_ble_eq_true rfl⟩) (rP_preS hPc hK) rfl rfl hl.1 rfl (lv_room (Nat.le_of_ble_eq_true rfl)) dX6_rule_55 ⟨Nat.le_of_ble_eq_true rfl, Nat.le_of_ble_eq_true rfl⟩) (fun r_14 hr_14 => ?_)
        subst hr_14
        refine lv_topi (fun z_15 ez_15 => ?_)
        obtain rfl : z_15 = 1 := ez_15.trans (by decide)
        refine lv_if_eq (tgt := 65) hx hb dX6_rule_58 (by decide) (fun c58_16 => ?_) (fun c58_16 => ?_)
        · exact absurd c58_16 (by decide)
        refine lv_iconst (v := 1) hx hb dX6_rule_61 (by decide) ?_
        refine lv_goto (tgt := 96) hx hb dX6_rule_62 (by decide) ?_
        refine lv_istore (lv' := [(5, .int 1), (4, .int 17), (3, .int 21), (0, .ref m0), (1, .int p0), (2, .int p1)]) hx hb dX6_rule_96 hl (by decide) rfl (fun ls hl => ?_)
        refine lv_iload_n hx hb dX6_rule_98 rfl (lv_at hl 4 rfl) ?_
        refine lv_i2l (v := p0.toInt64) hx hb dX6_rule_99 rfl ?_
        refine lv_lconst (v := 0) hx hb dX6_rule_100 (by decide) ?_
        refine lv_ldc2 hx hb hown (hts _ wd_X6_rule_3) dX6_rule_101 ?_
        have hPc := hP.sub (ws' := []) [] rfl
        refine vp_callSi (W.runS (As := [.long p0.toInt64, .long 0, .long 6]) (rest := []) ⟨hx, hb, hml, hown, hts⟩ (c_X6_in l D cI cJ cQ p0.toInt64 0 6) (va_cwS 3 hts gX6_rule_X6_in rfl rfl rfl (by decide +kernel) ⟨Nat.le_of_ble_eq_true rfl, Nat.le_of_ble_eq_true rfl⟩) (rP_preS hPc hK) rfl rfl hl.1 rfl (lv_room (Nat.le_of_ble_eq_true rfl)) dX6_rule_104 ⟨Nat.le_of_ble_eq_true rfl, Nat.le_of_ble_eq_true rfl⟩) (fun r_17 hr_17 => ?_)
        subst hr_17
        refine lv_if_eq (tgt := 115) hx hb dX6_rule_107 (by decide) (fun c107_18 => ?_) (fun c107_18 => ?_)
        · skip
          refine lv_sipush (v := (-1001)) hx hb dX6_rule_115 (by decide) ?_
          have hP9 := hP.sub (ws' := []) [] rfl
          have hD9 := hD.sub (ws' := []) [] (by decide) rfl
          exact W.iret (v := (-1001)) hx hb hr (fun t ht hW => ⟨⟨(-1001), (), rfl, (rule_bad (fun z => by unfold okR at z; omega)), by rw [ht]; exact hP9, va_K.moved hW.alike hK, hD9⟩, hS.F ht⟩) hS.2.2 dX6_rule_118
        · exact absurd ((rl8 p0).mpr hk) c107_18
    · exact absurd ((eqI p0 1).mp c15_2) (by have e9 : (1 : Int32).toInt = 1 := (by decide); omega)
  · exact absurd ((eqI p0 0).mp c1_1) (by have e9 : (0 : Int32).toInt = 0 := (by decide); omega)

set_option maxHeartbeats 400000 in
set_option maxRecDepth 100000 in
/-- X6_gcd -/
theorem c_X6_gcd01 (l : Launch) (D : va_G) (cI cJ cQ : ClassId)   : Met l yX6_gcd wsX6_gcd ({ frames := 0, cells := 0, slots := 0, locals := 0 }) (va_Pc [.long 0, .long 1] (rP D (gTy cI cJ cQ) [])) (vp_Sl (fun r => r = 1)) 0 0 (fun _ => False) := by
  refine Met.ofW (cc := cX6_gcd) (maxL := 10) (ret := (some .long)) (by decide) rfl ?_
  intro p e s m args below meth c s₁ B hml hv
  obtain ⟨rfl, hP, hK⟩ := hv
  have hx := B.exec
  have hb := B.bytes
  have hr := B.returns
  have hts := atoms_spec (ws := wsX6_gcd) B.pre
  have hown : s.vm.findClass RX6 = some m.cls := findClass_of_methodNamed B.named
  have hlocks := B.notSynchronized
  have hl := lv_entry ([.long 0, .long 1]) (n := 10) (Nat.le_of_ble_eq_true rfl)
  rw [lg_entry_eq]
  generalize (lg_sl ([.long 0, .long 1]) ++ List.replicate (10 - (lg_sl ([.long 0, .long 1])).length) Slot.unset).toArray = ls at hl ⊢
  have hl : lv_has ls 10 [(0, .long 0), (2, .long 1)] := hl
  refine lv_lload_n hx hb dX6_gcd_0 rfl (lv_at hl 0 rfl) ?_
  refine lv_lconst (v := 0) hx hb dX6_gcd_1 (by decide) ?_
  refine W.lcmp hx hb dX6_gcd_2 ?_
  refine lv_topi (fun z_1 ez_1 => ?_)
  obtain rfl : z_1 = 0 := ez_1.trans (by decide)
  refine lv_if_ge (tgt := 11) hx hb dX6_gcd_3 (by decide) (fun c3_2 => ?_) (fun c3_2 => ?_)
  · skip
    refine lv_lload_n hx hb dX6_gcd_11 rfl (lv_at hl 0 rfl) ?_
    refine lv_lstore (lv' := [(4, .long 0), (0, .long 0), (2, .long 1)]) hx hb dX6_gcd_12 hl (by decide) rfl (fun ls hl => ?_)
    refine lv_lload_n hx hb dX6_gcd_14 rfl (lv_at hl 2 rfl) ?_
    refine lv_lstore (lv' := [(6, .long 1), (4, .long 0), (0, .long 0), (2, .long 1)]) hx hb dX6_gcd_15 hl (by decide) rfl (fun ls hl => ?_)
    refine lv_lload hx hb dX6_gcd_17 (lv_at hl 0 rfl) ?_
    refine lv_lconst (v := 0) hx hb dX6_gcd_19 (by decide) ?_
    refine W.lcmp hx hb dX6_gcd_20 ?_
    refine lv_topi (fun z_3 ez_3 => ?_)
    obtain rfl : z_3 = 1 := ez_3.trans (by decide)
    refine lv_if_eq (tgt := 42) hx hb dX6_gcd_21 (by decide) (fun c21_4 => ?_) (fun c21_4 => ?_)
    · exact absurd c21_4 (by decide)
    refine lv_lload hx hb dX6_gcd_24 (lv_at hl 1 rfl) ?_
    refine lv_lload hx hb dX6_gcd_26 (lv_at hl 0 rfl) ?_
    refine lv_lrem hx hb dX6_gcd_28 (by decide) ?_
    refine lv_topl (fun z_5 ez_5 => ?_)
    obtain rfl : z_5 = 0 := ez_5.trans (by decide)
    refine lv_lstore (lv' := [(8, .long 0), (6, .long 1), (4, .long 0), (0, .long 0), (2, .long 1)]) hx hb dX6_gcd_29 hl (by decide) rfl (fun ls hl => ?_)
    refine lv_lload hx hb dX6_gcd_31 (lv_at hl 1 rfl) ?_
    refine lv_lstore (lv' := [(4, .long 1), (8, .long 0), (6, .long 1), (0, .long 0), (2, .long 1)]) hx hb dX6_gcd_33 hl (by decide) rfl (fun ls hl => ?_)
    refine lv_lload hx hb dX6_gcd_35 (lv_at hl 1 rfl) ?_
    refine lv_lstore (lv' := [(6, .long 0), (4, .long 1), (8, .long 0), (0, .long 0), (2, .long 1)]) hx hb dX6_gcd_37 hl (by decide) rfl (fun ls hl => ?_)
    refine lv_goto (tgt := 17) hx hb dX6_gcd_39 (by decide) ?_
    refine lv_lload hx hb dX6_gcd_17 (lv_at hl 0 rfl) ?_
    refine lv_lconst (v := 0) hx hb dX6_gcd_19 (by decide) ?_
    refine W.lcmp hx hb dX6_gcd_20 ?_
    refine lv_topi (fun z_6 ez_6 => ?_)
    obtain rfl : z_6 = 0 := ez_6.trans (by decide)
    refine lv_if_eq (tgt := 42) hx hb dX6_gcd_21 (by decide) (fun c21_7 => ?_) (fun c21_7 => ?_)
    · skip
      refine lv_lload hx hb dX6_gcd_42 (lv_at hl 1 rfl) ?_
      exact W.lret (v := 1) hx hb hr (fun t ht hW => ⟨_, rfl, (by first | rfl | trivial | (simp [c3_2, c21_7]; done) | ((try first | rw [if_pos c3_2] | rw [if_neg c3_2]); (try first | rw [if_pos c21_7] | rw [if_neg c21_7]); first | done | rfl | trivial) | (simp_all; done)), ht⟩) (fun q hq => absurd hq List.not_mem_nil) dX6_gcd_44
    · exact absurd c21_7 (by decide)
  · exact absurd c3_2 (by decide)

set_option maxRecDepth 20000 in
theorem ggX6_part_X6_gcd : GoodIn wsX6_part wsX6_gcd := goodIn_r _ [4] (by decide +kernel) (by decide +kernel)
set_option maxRecDepth 20000 in
theorem gX6_part_X6_gcd : GoodIn wsX6_part (va_wsS RX6 257 yX6_gcd wsX6_gcd) := goodIn_app (goodIn_of _ (by decide +kernel)) ggX6_part_X6_gcd
set_option maxHeartbeats 400000 in
set_option maxRecDepth 100000 in
/-- X6_part -/
theorem c_X6_part01 (l : Launch) (D : va_G) (cI cJ cQ : ClassId) (p0 : Int32)  : Met l yX6_part wsX6_part ({ frames := 1, cells := 0, slots := 0, locals := 29 }) (va_Pc [.long 0, .long 1, .int p0] (rP D (gTy cI cJ cQ) [])) (vp_Sl (fun r => r = if p0 = 0 then 0 else 1)) 0 0 (fun _ => False) := by
  refine Met.ofW (cc := cX6_part) (maxL := 7) (ret := (some .long)) (by decide) rfl ?_
  intro p e s m args below meth c s₁ B hml hv
  obtain ⟨rfl, hP, hK⟩ := hv
  have hx := B.exec
  have hb := B.bytes
  have hr := B.returns
  have hts := atoms_spec (ws := wsX6_part) B.pre
  have hown : s.vm.findClass RX6 = some m.cls := findClass_of_methodNamed B.named
  have hlocks := B.notSynchronized
  have hl := lv_entry ([.long 0, .long 1, .int p0]) (n := 7) (Nat.le_of_ble_eq_true rfl)
  rw [lg_entry_eq]
  generalize (lg_sl ([.long 0, .long 1, .int p0]) ++ List.replicate (7 - (lg_sl ([.long 0, .long 1, .int p0])).length) Slot.unset).toArray = ls at hl ⊢
  have hl : lv_has ls 7 [(0, .long 0), (2, .long 1), (4, .int p0)] := hl
  refine lv_lload_n hx hb dX6_part_0 rfl (lv_at hl 0 rfl) ?_
  refine lv_lload_n hx hb dX6_part_1 rfl (lv_at hl 1 rfl) ?_
  have hPc := hP.sub (ws' := []) [] rfl
  refine vp_callSl (W.runS (As := [.long 0, .long 1]) (rest := []) ⟨hx, hb, hml, hown, hts⟩ (c_X6_gcd01 l D cI cJ cQ ) (va_cwS 2 hts gX6_part_X6_gcd rfl rfl rfl (by decide +kernel) ⟨Nat.le_of_ble_eq_true rfl, Nat.le_of_ble_eq_true rfl⟩) (rP_preS hPc hK) rfl rfl hl.1 rfl (lv_room (Nat.le_of_ble_eq_true rfl)) dX6_part_2 ⟨Nat.le_of_ble_eq_true rfl, Nat.le_of_ble_eq_true rfl⟩) (fun r_1 hr_1 => ?_)
  subst hr_1
  refine lv_lstore (lv' := [(5, .long 1), (0, .long 0), (2, .long 1), (4, .int p0)]) hx hb dX6_part_5 hl (by decide) rfl (fun ls hl => ?_)
  refine lv_iload hx hb dX6_part_7 (lv_at hl 3 rfl) ?_
  refine lv_if_ne (tgt := 19) hx hb dX6_part_9 (by decide) (fun c9_2 => ?_) (fun c9_2 => ?_)
  · skip
    refine lv_lload_n hx hb dX6_part_19 rfl (lv_at hl 2 rfl) ?_
    refine lv_lload hx hb dX6_part_20 (lv_at hl 0 rfl) ?_
    refine lv_ldiv hx hb dX6_part_22 (by decide) ?_
    refine lv_topl (fun z_3 ez_3 => ?_)
    obtain rfl : z_3 = 1 := ez_3.trans (by decide)
    exact W.lret (v := 1) hx hb hr (fun t ht hW => ⟨_, rfl, (by first | rfl | trivial | (simp [c9_2]; done) | ((try first | rw [if_pos c9_2] | rw [if_neg c9_2]); first | done | rfl | trivial) | (simp_all; done)), ht⟩) (fun q hq => absurd hq List.not_mem_nil) dX6_part_23
  · skip
    refine lv_lload_n hx hb dX6_part_12 rfl (lv_at hl 1 rfl) ?_
    refine lv_lload hx hb dX6_part_13 (lv_at hl 0 rfl) ?_
    refine lv_ldiv hx hb dX6_part_15 (by decide) ?_
    refine lv_topl (fun z_4 ez_4 => ?_)
    obtain rfl : z_4 = 0 := ez_4.trans (by decide)
    refine lv_goto (tgt := 23) hx hb dX6_part_16 (by decide) ?_
    exact W.lret (v := 0) hx hb hr (fun t ht hW => ⟨_, rfl, (by first | rfl | trivial | (simp [c9_2]; done) | ((try first | rw [if_pos c9_2] | rw [if_neg c9_2]); first | done | rfl | trivial) | (simp_all; done)), ht⟩) (fun q hq => absurd hq List.not_mem_nil) dX6_part_23

set_option maxHeartbeats 400000 in
set_option maxRecDepth 100000 in
/-- X6_choose -/
theorem c_X6_choose00 (l : Launch) (D : va_G) (cI cJ cQ : ClassId)   : Met l yX6_choose wsX6_choose ({ frames := 0, cells := 0, slots := 0, locals := 0 }) (va_Pc [.int 0, .int 0] (rP D (gTy cI cJ cQ) [])) (vp_Sl (fun r => r = 1)) 0 0 (fun _ => False) := by
  refine Met.ofW (cc := cX6_choose) (maxL := 5) (ret := (some .long)) (by decide) rfl ?_
  intro p e s m args below meth c s₁ B hml hv
  obtain ⟨rfl, hP, hK⟩ := hv
  have hx := B.exec
  have hb := B.bytes
  have hr := B.returns
  have hts := atoms_spec (ws := wsX6_choose) B.pre
  have hown : s.vm.findClass RX6 = some m.cls := findClass_of_methodNamed B.named
  have hlocks := B.notSynchronized
  have hl := lv_entry ([.int 0, .int 0]) (n := 5) (Nat.le_of_ble_eq_true rfl)
  rw [lg_entry_eq]
  generalize (lg_sl ([.int 0, .int 0]) ++ List.replicate (5 - (lg_sl ([.int 0, .int 0])).length) Slot.unset).toArray = ls at hl ⊢
  have hl : lv_has ls 5 [(0, .int 0), (1, .int 0)] := hl
  refine lv_lconst (v := 1) hx hb dX6_choose_0 (by decide) ?_
  refine lv_lstore_n (lv' := [(2, .long 1), (0, .int 0), (1, .int 0)]) hx hb dX6_choose_1 rfl hl (by decide) rfl (fun ls hl => ?_)
  refine lv_iconst (v := 0) hx hb dX6_choose_2 (by decide) ?_
  refine lv_istore (lv' := [(4, .int 0), (2, .long 1), (0, .int 0), (1, .int 0)]) hx hb dX6_choose_3 hl (by decide) rfl (fun ls hl => ?_)
  refine lv_iload hx hb dX6_choose_5 (lv_at hl 0 rfl) ?_
  refine lv_iload_n hx hb dX6_choose_7 rfl (lv_at hl 3 rfl) ?_
  refine lv_icmp_ge (tgt := 31) hx hb dX6_choose_8 (by decide) (fun c8_1 => ?_) (fun c8_1 => ?_)
  · skip
    refine lv_lload_n hx hb dX6_choose_31 rfl (lv_at hl 1 rfl) ?_
    exact W.lret (v := 1) hx hb hr (fun t ht hW => ⟨_, rfl, (by first | rfl | trivial | (simp [c8_1]; done) | ((try first | rw [if_pos c8_1] | rw [if_neg c8_1]); first | done | rfl | trivial) | (simp_all; done)), ht⟩) (fun q hq => absurd hq List.not_mem_nil) dX6_choose_32
  · exact absurd c8_1 (by decide)
