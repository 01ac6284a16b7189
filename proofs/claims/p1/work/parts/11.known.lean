set_option maxRecDepth 20000 in
theorem wd_X6_addRank_4 : Cond.fieldLink RX6 13 "ShoeTableModel" "atFresh" "[I" ∈ wsX6_addRank := by decide +kernel
set_option maxRecDepth 20000 in
theorem ggX6_addRank_X6_choose : GoodIn wsX6_addRank wsX6_choose := goodIn_r _ [10] (by decide +kernel) (by decide +kernel)
set_option maxRecDepth 20000 in
theorem gX6_addRank_X6_choose : GoodIn wsX6_addRank (va_wsS RX6 282 yX6_choose wsX6_choose) := goodIn_app (goodIn_of _ (by decide +kernel)) ggX6_addRank_X6_choose
set_option maxRecDepth 20000 in
theorem wd_X6_addRank_5 : Cond.fieldLink RX6 19 "ShoeTableModel" "marks" "[I" ∈ wsX6_addRank := by decide +kernel
set_option maxHeartbeats 400000 in
set_option maxRecDepth 100000 in
/-- X6_addRank -/
theorem c_X6_addRank (l : Launch) (D : va_G) (cI cJ cQ : ClassId) (sz : Nat) (m0 : Nat) (ms : Nat) (mf : Nat) (mw : Nat) (mk : Nat) (mh : Nat) (q0 : Nat) (q1 : Nat) (q2 : Nat) (q3 : Nat) (q4 : Nat) (q5 : Nat) (q6 : Nat) (q7 : Nat) (k0 : Nat) (k1 : Nat) (k2 : Nat) (k3 : Nat) (a : Nat → Int64) (b : Nat → Int64) (g1 : Nat → Int64) (g2 : Nat → Int64) (p0 : Int32) (p1 : Int32) (hp : vp_in p0 11) (ha : ∀ j, j < 549 → a j = e30 j) (hbz : ∀ j, j < 549 → b j = 0) : Met l yX6_addRank wsX6_addRank ({ frames := 1, cells := 0, slots := 0, locals := 24 }) (va_Pc [.ref m0, .int p0, .int p1, .int 0] (mP D (gTy cI cJ cQ) [(m0, .inr (6, [.ref ms, .ref mf, .ref mw, .ref mk, .int 0, .ref mh, .int 0, .int 0, .int 21, .int 17, .int 0, .int 1, .int 1, .int 1, .int 3, .long 1, .int 0, .ref q0, .ref q1, .ref q2, .int 0, .ref q3, .ref q4, .ref q5, .ref q6, .ref q7, .int 0, .int 0, .int 0, .int 0, .int 0, .int 0, .int 0, .int 0, .int 0, .ref k0, .ref k1, .ref k2, .ref k3])), (mf, .inl (cI, 11, .inl (fun _ => 0))), (mk, .inl (cI, 11, .inl (fun _ => 0))), (k0, .inl (cJ, 549, .inr (.inl a))), (k1, .inl (cJ, 549, .inr (.inl b))), (k2, .inl (cJ, 549, .inr (.inl g1))), (k3, .inl (cJ, 549, .inr (.inl g2)))] sz)) (va_Qv (fun (u : (Nat → Int64) × (Nat → Int64) × (Nat → Int64) × (Nat → Int64)) => match u with | (a2, b2, c2, d2) => (∀ j, j < 549 → a2 j = e30 j) ∧ (∀ j, j < 549 → b2 j = 0)) (fun (u : (Nat → Int64) × (Nat → Int64) × (Nat → Int64) × (Nat → Int64)) t => match u with | (a2, b2, c2, d2) => mB D (gTy cI cJ cQ) (va_A [(m0, .inr (6, [.ref ms, .ref mf, .ref mw, .ref mk, .int 0, .ref mh, .int 0, .int 0, .int 21, .int 17, .int 0, .int 1, .int 1, .int 1, .int 3, .long 1, .int 0, .ref q0, .ref q1, .ref q2, .int 0, .ref q3, .ref q4, .ref q5, .ref q6, .ref q7, .int 0, .int 0, .int 0, .int 0, .int 0, .int 0, .int 0, .int 0, .int 0, .ref k0, .ref k1, .ref k2, .ref k3])), (mf, .inl (cI, 11, .inl (fun _ => 0))), (mk, .inl (cI, 11, .inl (fun _ => 0))), (k0, .inl (cJ, 549, .inr (.inl a))), (k1, .inl (cJ, 549, .inr (.inl b))), (k2, .inl (cJ, 549, .inr (.inl g1))), (k3, .inl (cJ, 549, .inr (.inl g2)))] sz) [(m0, .inr (6, [.ref ms, .ref mf, .ref mw, .ref mk, .int 0, .ref mh, .int 0, .int 0, .int 21, .int 17, .int 0, .int 1, .int 1, .int 1, .int 3, .long 1, .int 0, .ref q0, .ref q1, .ref q2, .int 0, .ref q3, .ref q4, .ref q5, .ref q6, .ref q7, .int 0, .int 0, .int 0, .int 0, .int 0, .int 0, .int 0, .int 0, .int 0, .ref k0, .ref k1, .ref k2, .ref k3])), (mf, .inl (cI, 11, .inl (fun _ => 0))), (mk, .inl (cI, 11, .inl (fun _ => 0))), (k0, .inl (cJ, 549, .inr (.inl a2))), (k1, .inl (cJ, 549, .inr (.inl b2))), (k2, .inl (cJ, 549, .inr (.inl c2))), (k3, .inl (cJ, 549, .inr (.inl d2)))] t) (va_A [(m0, .inr (6, [.ref ms, .ref mf, .ref mw, .ref mk, .int 0, .ref mh, .int 0, .int 0, .int 21, .int 17, .int 0, .int 1, .int 1, .int 1, .int 3, .long 1, .int 0, .ref q0, .ref q1, .ref q2, .int 0, .ref q3, .ref q4, .ref q5, .ref q6, .ref q7, .int 0, .int 0, .int 0, .int 0, .int 0, .int 0, .int 0, .int 0, .int 0, .ref k0, .ref k1, .ref k2, .ref k3])), (mf, .inl (cI, 11, .inl (fun _ => 0))), (mk, .inl (cI, 11, .inl (fun _ => 0))), (k0, .inl (cJ, 549, .inr (.inl a))), (k1, .inl (cJ, 549, .inr (.inl b))), (k2, .inl (cJ, 549, .inr (.inl g1))), (k3, .inl (cJ, 549, .inr (.inl g2)))] sz)) 0 0 (va_A [(m0, .inr (6, [.ref ms, .ref mf, .ref mw, .ref mk, .int 0, .ref mh, .int 0, .int 0, .int 21, .int 17, .int 0, .int 1, .int 1, .int 1, .int 3, .long 1, .int 0, .ref q0, .ref q1, .ref q2, .int 0, .ref q3, .ref q4, .ref q5, .ref q6, .ref q7, .int 0, .int 0, .int 0, .int 0, .int 0, .int 0, .int 0, .int 0, .int 0, .ref k0, .ref k1, .ref k2, .ref k3])), (mf, .inl (cI, 11, .inl (fun _ => 0))), (mk, .inl (cI, 11, .inl (fun _ => 0))), (k0, .inl (cJ, 549, .inr (.inl a))), (k1, .inl (cJ, 549, .inr (.inl b))), (k2, .inl (cJ, 549, .inr (.inl g1))), (k3, .inl (cJ, 549, .inr (.inl g2)))] sz) := by
  refine Met.ofW (cc := cX6_addRank) (maxL := 10) (ret := none) (by decide) rfl ?_
  intro p e s m args below meth c s₁ B hml hv
  obtain ⟨rfl, hsz, hP, hK, hD0⟩ := hv
  have hx := B.exec
  have hb := B.bytes
  have hr := B.returns
  have hts := atoms_spec (ws := wsX6_addRank) B.pre
  have hown : s.vm.findClass RX6 = some m.cls := findClass_of_methodNamed B.named
  have hlocks := B.notSynchronized
  subst hsz
  have hD := hD0.self (sz := s.heap.size)
  generalize hAe : va_A [(m0, .inr (6, [.ref ms, .ref mf, .ref mw, .ref mk, .int 0, .ref mh, .int 0, .int 0, .int 21, .int 17, .int 0, .int 1, .int 1, .int 1, .int 3, .long 1, .int 0, .ref q0, .ref q1, .ref q2, .int 0, .ref q3, .ref q4, .ref q5, .ref q6, .ref q7, .int 0, .int 0, .int 0, .int 0, .int 0, .int 0, .int 0, .int 0, .int 0, .ref k0, .ref k1, .ref k2, .ref k3])), (mf, .inl (cI, 11, .inl (fun _ => 0))), (mk, .inl (cI, 11, .inl (fun _ => 0))), (k0, .inl (cJ, 549, .inr (.inl a))), (k1, .inl (cJ, 549, .inr (.inl b))), (k2, .inl (cJ, 549, .inr (.inl g1))), (k3, .inl (cJ, 549, .inr (.inl g2)))] s.heap.size = A at hD ⊢
  have hA : ∀ q : Nat, s.heap.size ≤ q → A q := fun q h => by rw [← hAe]; exact Or.inr h
  have hS : va_S A s.heap s.heap [] := va_S.rf
  have hP : va_P D vwCl [(m0, .inr (6, [.ref ms, .ref mf, .ref mw, .ref mk, .int 0, .ref mh, .int 0, .int 0, .int 21, .int 17, .int 0, .int 1, .int 1, .int 1, .int 3, .long 1, .int 0, .ref q0, .ref q1, .ref q2, .int 0, .ref q3, .ref q4, .ref q5, .ref q6, .ref q7, .int 0, .int 0, .int 0, .int 0, .int 0, .int 0, .int 0, .int 0, .int 0, .ref k0, .ref k1, .ref k2, .ref k3])), (mf, .inl (cI, 11, .inl (fun _ => 0))), (mk, .inl (cI, 11, .inl (fun _ => 0))), (k0, .inl (cJ, 549, .inr (.inl a))), (k1, .inl (cJ, 549, .inr (.inl b))), (k2, .inl (cJ, 549, .inr (.inl g1))), (k3, .inl (cJ, 549, .inr (.inl g2)))] s.heap := hP
  have hl := lv_entry ([.ref m0, .int p0, .int p1, .int 0]) (n := 10) (Nat.le_of_ble_eq_true rfl)
  rw [lg_entry_eq]
  generalize (lg_sl ([.ref m0, .int p0, .int p1, .int 0]) ++ List.replicate (10 - (lg_sl ([.ref m0, .int p0, .int p1, .int 0])).length) Slot.unset).toArray = ls at hl ⊢
  have hl : lv_has ls 10 [(0, .ref m0), (1, .int p0), (2, .int p1), (3, .int 0)] := hl
  refine lv_iconst (v := 0) hx hb dX6_addRank_0 (by decide) ?_
  refine lv_istore (lv' := [(4, .int 0), (0, .ref m0), (1, .int p0), (2, .int p1), (3, .int 0)]) hx hb dX6_addRank_1 hl (by decide) rfl (fun ls hl => ?_)
  refine lpA hx hb hml hown hts hK m0 ms mf mw mk mh q0 q1 q2 q3 q4 q5 q6 q7 k0 k1 k2 k3 p0 p1 a b 549 0 g1 g2 _ _ _ (by decide) (fun j hj => absurd hj (Nat.not_lt_zero j)) (fun j hj => absurd hj (Nat.not_lt_zero j)) hP hD hS (lv_sub hl [0, 4, 1, 2, 3] rfl) (fun g1_1 g2_2 H locs ls hz_3 hz_4 hP hD hS hl => ?_)
  refine lv_iconst (v := 0) hx hb dX6_addRank_33 (by decide) ?_
  refine lv_istore (lv' := [(4, .int 0), (3, .int 0), (0, .ref m0), (1, .int p0), (2, .int p1)]) hx hb dX6_addRank_34 hl (by decide) rfl (fun ls hl => ?_)
  refine lv_iload hx hb dX6_addRank_36 (lv_at hl 0 rfl) ?_
  refine lv_iload_n hx hb dX6_addRank_38 rfl (lv_at hl 1 rfl) ?_
  refine lv_icmp_gt (tgt := 229) hx hb dX6_addRank_39 (by decide) (fun c39_5 => ?_) (fun c39_5 => ?_)
  · exact absurd c39_5 (by decide)
  refine lv_iconst (v := 0) hx hb dX6_addRank_42 (by decide) ?_
  refine lv_istore (lv' := [(5, .int 0), (4, .int 0), (3, .int 0), (0, .ref m0), (1, .int p0), (2, .int p1)]) hx hb dX6_addRank_43 hl (by decide) rfl (fun ls hl => ?_)
  refine lpS (A := A) hx hb hml hown hts hK m0 ms mf mw mk mh q0 q1 q2 q3 q4 q5 q6 q7 k0 k1 k2 k3 p0 p1 a b g1_1 g2_2 hP 30 0 ls (by decide) (fun j h1 h2 => (ha j (by omega)).trans (if_neg (by omega))) (lv_sub hl [0, 1, 2, 3, 4, 5] rfl) (fun ls hl => ?_)
  have hl : lv_has ls 10 [(5, .int 30), (4, .int 0), (3, .int 0), (0, .ref m0), (1, .int p0), (2, .int p1)] := hl
  refine lv_iload hx hb dX6_addRank_45 (lv_at hl 0 rfl) ?_
  refine lv_bipush (v := 61) hx hb dX6_addRank_47 (by decide) ?_
  refine lv_icmp_ge (tgt := 223) hx hb dX6_addRank_49 (by decide) (fun c49_6 => ?_) (fun c49_6 => ?_)
  · exact absurd c49_6 (by decide)
  refine lv_iconst (v := 0) hx hb dX6_addRank_52 (by decide) ?_
  refine lv_istore (lv' := [(6, .int 0), (5, .int 30), (4, .int 0), (3, .int 0), (0, .ref m0), (1, .int p0), (2, .int p1)]) hx hb dX6_addRank_53 hl (by decide) rfl (fun ls hl => ?_)
  refine lv_aload_n hx hb dX6_addRank_55 rfl (lv_at hl 4 rfl) ?_
  refine va_get (D := D) (ci := 6) (v := .ref k0) (C := RX6) (T := TX6) (N := 39) hx hb hts in_X6_addRank_X6 hown hK hP 0 rfl rfl 35 (by decide) (hts _ wd_X6_addRank_2) (fun _ h9 => h9) rfl dX6_addRank_56 ?_
  refine lv_bipush (v := 61) hx hb dX6_addRank_59 (by decide) ?_
  refine lv_iload hx hb dX6_addRank_61 (lv_at hl 2 rfl) ?_
  refine lv_imul hx hb dX6_addRank_63 ?_
  refine lv_topi (fun z_7 ez_7 => ?_)
  obtain rfl : z_7 = 0 := ez_7.trans (by decide)
  refine lv_iload hx hb dX6_addRank_64 (lv_at hl 1 rfl) ?_
  refine lv_iadd hx hb dX6_addRank_66 ?_
  refine lv_topi (fun z_8 ez_8 => ?_)
  obtain rfl : z_8 = 30 := ez_8.trans (by decide)
  refine va_lald hx hb hK hP 3 1 rfl rfl (show ¬ ((30 : Int32) < 0 ∨ 549 ≤ (30 : Int32).toNatClampNeg) by decide) dX6_addRank_67 ?_
  refine lv_topl (fun z_9 ez_9 => ?_)
  obtain rfl : z_9 = 1 := ez_9.trans ((ha 30 (by decide)).trans (by decide))
  refine lv_lconst (v := 0) hx hb dX6_addRank_68 (by decide) ?_
  refine W.lcmp hx hb dX6_addRank_69 ?_
  refine lv_topi (fun z_10 ez_10 => ?_)
  obtain rfl : z_10 = 1 := ez_10.trans (by decide)
  refine lv_if_le (tgt := 217) hx hb dX6_addRank_70 (by decide) (fun c70_11 => ?_) (fun c70_11 => ?_)
  · exact absurd c70_11 (by decide)
  refine lv_iload hx hb dX6_addRank_73 (lv_at hl 0 rfl) ?_
  refine lv_aload_n hx hb dX6_addRank_75 rfl (lv_at hl 4 rfl) ?_
  refine va_get (D := D) (ci := 6) (v := .ref mf) (C := RX6) (T := TX6) (N := 39) hx hb hts in_X6_addRank_X6 hown hK hP 0 rfl rfl 1 (by decide) (hts _ wd_X6_addRank_4) (fun _ h9 => h9) rfl dX6_addRank_76 ?_
  refine lv_iload_n hx hb dX6_addRank_79 rfl (lv_at hl 5 rfl) ?_
  refine va_iald hx hb hK hP 1 0 rfl rfl hp dX6_addRank_80 ?_
  refine lv_topi (fun z_12 ez_12 => ?_)
  obtain rfl : z_12 = 0 := ez_12
  refine lv_icmp_gt (tgt := 217) hx hb dX6_addRank_81 (by decide) (fun c81_13 => ?_) (fun c81_13 => ?_)
  · exact absurd c81_13 (by decide)
  refine lv_iload hx hb dX6_addRank_84 (lv_at hl 2 rfl) ?_
  refine lv_iload hx hb dX6_addRank_86 (lv_at hl 0 rfl) ?_
  refine lv_iadd hx hb dX6_addRank_88 ?_
  refine lv_topi (fun z_14 ez_14 => ?_)
  obtain rfl : z_14 = 0 := ez_14.trans (by decide)
  refine lv_iload_n hx hb dX6_addRank_89 rfl (lv_at hl 3 rfl) ?_
  refine lv_icmp_gt (tgt := 217) hx hb dX6_addRank_90 (by decide) (fun c90_15 => ?_) (fun c90_15 => ?_)
  · exact absurd c90_15 (by decide)
  refine lv_aload_n hx hb dX6_addRank_93 rfl (lv_at hl 4 rfl) ?_
  refine va_get (D := D) (ci := 6) (v := .ref mf) (C := RX6) (T := TX6) (N := 39) hx hb hts in_X6_addRank_X6 hown hK hP 0 rfl rfl 1 (by decide) (hts _ wd_X6_addRank_4) (fun _ h9 => h9) rfl dX6_addRank_94 ?_
  refine lv_iload_n hx hb dX6_addRank_97 rfl (lv_at hl 5 rfl) ?_
  refine va_iald hx hb hK hP 1 0 rfl rfl hp dX6_addRank_98 ?_
  refine lv_topi (fun z_16 ez_16 => ?_)
  obtain rfl : z_16 = 0 := ez_16
  refine lv_iload hx hb dX6_addRank_99 (lv_at hl 0 rfl) ?_
  have hPc := hP.sub (ws' := []) [] rfl
  refine vp_callSl (W.runS (As := [.int 0, .int 0]) (rest := []) ⟨hx, hb, hml, hown, hts⟩ (c_X6_choose00 l D cI cJ cQ ) (va_cwS 2 hts gX6_addRank_X6_choose rfl rfl rfl (by decide +kernel) ⟨Nat.le_of_ble_eq_true rfl, Nat.le_of_ble_eq_true rfl⟩) (rP_preS hPc hK) rfl rfl hl.1 rfl (lv_room (Nat.le_of_ble_eq_true rfl)) dX6_addRank_101 ⟨Nat.le_of_ble_eq_true rfl, Nat.le_of_ble_eq_true rfl⟩) (fun r_17 hr_17 => ?_)
  subst hr_17
  refine lv_lstore (lv' := [(7, .long 1), (6, .int 0), (5, .int 30), (4, .int 0), (3, .int 0), (0, .ref m0), (1, .int p0), (2, .int p1)]) hx hb dX6_addRank_104 hl (by decide) rfl (fun ls hl => ?_)
  refine lv_bipush (v := 61) hx hb dX6_addRank_106 (by decide) ?_
  refine lv_iload hx hb dX6_addRank_108 (lv_at hl 3 rfl) ?_
  refine lv_iload hx hb dX6_addRank_110 (lv_at hl 1 rfl) ?_
  refine lv_iadd hx hb dX6_addRank_112 ?_
  refine lv_topi (fun z_18 ez_18 => ?_)
  obtain rfl : z_18 = 0 := ez_18.trans (by decide)
  refine lv_imul hx hb dX6_addRank_113 ?_
  refine lv_topi (fun z_19 ez_19 => ?_)
  obtain rfl : z_19 = 0 := ez_19.trans (by decide)
  refine lv_iload hx hb dX6_addRank_114 (lv_at hl 2 rfl) ?_
  refine lv_iadd hx hb dX6_addRank_116 ?_
  refine lv_topi (fun z_20 ez_20 => ?_)
  obtain rfl : z_20 = 30 := ez_20.trans (by decide)
  refine lv_iload hx hb dX6_addRank_117 (lv_at hl 1 rfl) ?_
  refine lv_aload_n hx hb dX6_addRank_119 rfl (lv_at hl 5 rfl) ?_
  refine va_get (D := D) (ci := 6) (v := .ref mk) (C := RX6) (T := TX6) (N := 39) hx hb hts in_X6_addRank_X6 hown hK hP 0 rfl rfl 3 (by decide) (hts _ wd_X6_addRank_5) (fun _ h9 => h9) rfl dX6_addRank_120 ?_
  refine lv_iload_n hx hb dX6_addRank_123 rfl (lv_at hl 6 rfl) ?_
  refine va_iald hx hb hK hP 2 0 rfl rfl hp dX6_addRank_124 ?_
  refine lv_topi (fun z_21 ez_21 => ?_)
  obtain rfl : z_21 = 0 := ez_21
  refine lv_imul hx hb dX6_addRank_125 ?_
  refine lv_topi (fun z_22 ez_22 => ?_)
  obtain rfl : z_22 = 0 := ez_22.trans (by decide)
  refine lv_iadd hx hb dX6_addRank_126 ?_
  refine lv_topi (fun z_23 ez_23 => ?_)
  obtain rfl : z_23 = 30 := ez_23.trans (by decide)
  refine lv_istore (lv' := [(9, .int 30), (7, .long 1), (6, .int 0), (5, .int 30), (4, .int 0), (3, .int 0), (0, .ref m0), (1, .int p0), (2, .int p1)]) hx hb dX6_addRank_127 hl (by decide) rfl (fun ls hl => ?_)
  refine lv_aload_n hx hb dX6_addRank_129 rfl (lv_at hl 6 rfl) ?_
  refine va_get (D := D) (ci := 6) (v := .ref k2) (C := RX6) (T := TX6) (N := 39) hx hb hts in_X6_addRank_X6 hown hK hP 0 rfl rfl 37 (by decide) (hts _ wd_X6_addRank_0) (fun _ h9 => h9) rfl dX6_addRank_130 ?_
  refine lv_iload hx hb dX6_addRank_133 (lv_at hl 0 rfl) ?_
  refine lv_dup2_11 hx hb dX6_addRank_135 rfl rfl ?_
  refine va_lald hx hb hK hP 5 1 rfl rfl (show ¬ ((30 : Int32) < 0 ∨ 549 ≤ (30 : Int32).toNatClampNeg) by decide) dX6_addRank_136 ?_
  refine lv_topl (fun z_24 ez_24 => ?_)
  obtain rfl : z_24 = 0 := ez_24.trans (hz_3 30 (by decide))
  refine lv_lload hx hb dX6_addRank_137 (lv_at hl 1 rfl) ?_
  refine lv_aload_n hx hb dX6_addRank_139 rfl (lv_at hl 6 rfl) ?_
  refine va_get (D := D) (ci := 6) (v := .ref k0) (C := RX6) (T := TX6) (N := 39) hx hb hts in_X6_addRank_X6 hown hK hP 0 rfl rfl 35 (by decide) (hts _ wd_X6_addRank_2) (fun _ h9 => h9) rfl dX6_addRank_140 ?_
  refine lv_bipush (v := 61) hx hb dX6_addRank_143 (by decide) ?_
  refine lv_iload hx hb dX6_addRank_145 (lv_at hl 4 rfl) ?_
  refine lv_imul hx hb dX6_addRank_147 ?_
  refine lv_topi (fun z_25 ez_25 => ?_)
  obtain rfl : z_25 = 0 := ez_25.trans (by decide)
  refine lv_iload hx hb dX6_addRank_148 (lv_at hl 3 rfl) ?_
  refine lv_iadd hx hb dX6_addRank_150 ?_
  refine lv_topi (fun z_26 ez_26 => ?_)
  obtain rfl : z_26 = 30 := ez_26.trans (by decide)
  refine va_lald hx hb hK hP 3 1 rfl rfl (show ¬ ((30 : Int32) < 0 ∨ 549 ≤ (30 : Int32).toNatClampNeg) by decide) dX6_addRank_151 ?_
  refine lv_topl (fun z_27 ez_27 => ?_)
  obtain rfl : z_27 = 1 := ez_27.trans ((ha 30 (by decide)).trans (by decide))
  refine lv_lmul hx hb dX6_addRank_152 ?_
  refine lv_topl (fun z_28 ez_28 => ?_)
  obtain rfl : z_28 = 1 := ez_28.trans (by decide)
  refine lv_ladd hx hb dX6_addRank_153 ?_
  refine lv_topl (fun z_29 ez_29 => ?_)
  obtain rfl : z_29 = 1 := ez_29.trans (by decide)
  refine va_last hx hb hK hP hD hS 5 1 rfl rfl (show ¬ ((30 : Int32) < 0 ∨ 549 ≤ (30 : Int32).toNatClampNeg) by decide) dX6_addRank_154 (fun H locs hP hD hS => ?_)
  have hP : va_P D vwCl [(m0, .inr (6, [.ref ms, .ref mf, .ref mw, .ref mk, .int 0, .ref mh, .int 0, .int 0, .int 21, .int 17, .int 0, .int 1, .int 1, .int 1, .int 3, .long 1, .int 0, .ref q0, .ref q1, .ref q2, .int 0, .ref q3, .ref q4, .ref q5, .ref q6, .ref q7, .int 0, .int 0, .int 0, .int 0, .int 0, .int 0, .int 0, .int 0, .int 0, .ref k0, .ref k1, .ref k2, .ref k3])), (mf, .inl (cI, 11, .inl (fun _ => 0))), (mk, .inl (cI, 11, .inl (fun _ => 0))), (k0, .inl (cJ, 549, .inr (.inl a))), (k1, .inl (cJ, 549, .inr (.inl b))), (k2, .inl (cJ, 549, .inr (.inl (vp_updL g1_1 (30 : Int32).toNatClampNeg 1)))), (k3, .inl (cJ, 549, .inr (.inl g2_2)))] H := hP
  have hD : va_D A [(m0, .inr (6, [.ref ms, .ref mf, .ref mw, .ref mk, .int 0, .ref mh, .int 0, .int 0, .int 21, .int 17, .int 0, .int 1, .int 1, .int 1, .int 3, .long 1, .int 0, .ref q0, .ref q1, .ref q2, .int 0, .ref q3, .ref q4, .ref q5, .ref q6, .ref q7, .int 0, .int 0, .int 0, .int 0, .int 0, .int 0, .int 0, .int 0, .int 0, .ref k0, .ref k1, .ref k2, .ref k3])), (mf, .inl (cI, 11, .inl (fun _ => 0))), (mk, .inl (cI, 11, .inl (fun _ => 0))), (k0, .inl (cJ, 549, .inr (.inl a))), (k1, .inl (cJ, 549, .inr (.inl b))), (k2, .inl (cJ, 549, .inr (.inl (vp_updL g1_1 (30 : Int32).toNatClampNeg 1)))), (k3, .inl (cJ, 549, .inr (.inl g2_2)))] := hD
  refine lv_aload_n hx hb dX6_addRank_155 rfl (lv_at hl 6 rfl) ?_
  refine va_get (D := D) (ci := 6) (v := .ref k3) (C := RX6) (T := TX6) (N := 39) hx hb hts in_X6_addRank_X6 hown hK hP 0 rfl rfl 38 (by decide) (hts _ wd_X6_addRank_1) (fun _ h9 => h9) rfl dX6_addRank_156 ?_
  refine lv_iload hx hb dX6_addRank_159 (lv_at hl 0 rfl) ?_
  refine lv_dup2_11 hx hb dX6_addRank_161 rfl rfl ?_
  refine va_lald hx hb hK hP 6 1 rfl rfl (show ¬ ((30 : Int32) < 0 ∨ 549 ≤ (30 : Int32).toNatClampNeg) by decide) dX6_addRank_162 ?_
  refine lv_topl (fun z_30 ez_30 => ?_)
  obtain rfl : z_30 = 0 := ez_30.trans (hz_4 30 (by decide))
  refine lv_lload hx hb dX6_addRank_163 (lv_at hl 1 rfl) ?_
  refine lv_aload_n hx hb dX6_addRank_165 rfl (lv_at hl 6 rfl) ?_
  refine va_get (D := D) (ci := 6) (v := .ref k1) (C := RX6) (T := TX6) (N := 39) hx hb hts in_X6_addRank_X6 hown hK hP 0 rfl rfl 36 (by decide) (hts _ wd_X6_addRank_3) (fun _ h9 => h9) rfl dX6_addRank_166 ?_
  refine lv_bipush (v := 61) hx hb dX6_addRank_169 (by decide) ?_
  refine lv_iload hx hb dX6_addRank_171 (lv_at hl 4 rfl) ?_
  refine lv_imul hx hb dX6_addRank_173 ?_
  refine lv_topi (fun z_31 ez_31 => ?_)
  obtain rfl : z_31 = 0 := ez_31.trans (by decide)
  refine lv_iload hx hb dX6_addRank_174 (lv_at hl 3 rfl) ?_
  refine lv_iadd hx hb dX6_addRank_176 ?_
  refine lv_topi (fun z_32 ez_32 => ?_)
  obtain rfl : z_32 = 30 := ez_32.trans (by decide)
  refine va_lald hx hb hK hP 4 1 rfl rfl (show ¬ ((30 : Int32) < 0 ∨ 549 ≤ (30 : Int32).toNatClampNeg) by decide) dX6_addRank_177 ?_
  refine lv_topl (fun z_33 ez_33 => ?_)
  obtain rfl : z_33 = 0 := ez_33.trans (hbz 30 (by decide))
  refine lv_lmul hx hb dX6_addRank_178 ?_
  refine lv_topl (fun z_34 ez_34 => ?_)
  obtain rfl : z_34 = 0 := ez_34.trans (by decide)
  refine lv_iload_n hx hb dX6_addRank_179 rfl (lv_at hl 7 rfl) ?_
  refine lv_iload_n hx hb dX6_addRank_180 rfl (lv_at hl 8 rfl) ?_
  refine lv_icmp_ne (tgt := 207) hx hb dX6_addRank_181 (by decide) (fun c181_35 => ?_) (fun c181_35 => ?_)
  · skip
    refine lv_lconst (v := 0) hx hb dX6_addRank_207 (by decide) ?_
    refine lv_ladd hx hb dX6_addRank_208 ?_
    refine lv_topl (fun z_36 ez_36 => ?_)
    obtain rfl : z_36 = 0 := ez_36.trans (by decide)
    refine lv_ladd hx hb dX6_addRank_209 ?_
    refine lv_topl (fun z_37 ez_37 => ?_)
    obtain rfl : z_37 = 0 := ez_37.trans (by decide)
    refine va_last hx hb hK hP hD hS 6 1 rfl rfl (show ¬ ((30 : Int32) < 0 ∨ 549 ≤ (30 : Int32).toNatClampNeg) by decide) dX6_addRank_210 (fun H locs hP hD hS => ?_)
    have hP : va_P D vwCl [(m0, .inr (6, [.ref ms, .ref mf, .ref mw, .ref mk, .int 0, .ref mh, .int 0, .int 0, .int 21, .int 17, .int 0, .int 1, .int 1, .int 1, .int 3, .long 1, .int 0, .ref q0, .ref q1, .ref q2, .int 0, .ref q3, .ref q4, .ref q5, .ref q6, .ref q7, .int 0, .int 0, .int 0, .int 0, .int 0, .int 0, .int 0, .int 0, .int 0, .ref k0, .ref k1, .ref k2, .ref k3])), (mf, .inl (cI, 11, .inl (fun _ => 0))), (mk, .inl (cI, 11, .inl (fun _ => 0))), (k0, .inl (cJ, 549, .inr (.inl a))), (k1, .inl (cJ, 549, .inr (.inl b))), (k2, .inl (cJ, 549, .inr (.inl (vp_updL g1_1 (30 : Int32).toNatClampNeg 1)))), (k3, .inl (cJ, 549, .inr (.inl (vp_updL g2_2 (30 : Int32).toNatClampNeg 0))))] H := hP
    have hD : va_D A [(m0, .inr (6, [.ref ms, .ref mf, .ref mw, .ref mk, .int 0, .ref mh, .int 0, .int 0, .int 21, .int 17, .int 0, .int 1, .int 1, .int 1, .int 3, .long 1, .int 0, .ref q0, .ref q1, .ref q2, .int 0, .ref q3, .ref q4, .ref q5, .ref q6, .ref q7, .int 0, .int 0, .int 0, .int 0, .int 0, .int 0, .int 0, .int 0, .int 0, .ref k0, .ref k1, .ref k2, .ref k3])), (mf, .inl (cI, 11, .inl (fun _ => 0))), (mk, .inl (cI, 11, .inl (fun _ => 0))), (k0, .inl (cJ, 549, .inr (.inl a))), (k1, .inl (cJ, 549, .inr (.inl b))), (k2, .inl (cJ, 549, .inr (.inl (vp_updL g1_1 (30 : Int32).toNatClampNeg 1)))), (k3, .inl (cJ, 549, .inr (.inl (vp_updL g2_2 (30 : Int32).toNatClampNeg 0))))] := hD
    refine lv_iinc (v := 1) (lv' := [(6, .int 1), (9, .int 30), (7, .long 1), (5, .int 30), (4, .int 0), (3, .int 0), (0, .ref m0), (1, .int p0), (2, .int p1)]) hx hb dX6_addRank_211 hl (k := 2) rfl (by decide) (by decide) rfl (fun ls hl => ?_)
    refine lv_goto (tgt := 55) hx hb dX6_addRank_214 (by decide) ?_
    refine lv_aload_n hx hb dX6_addRank_55 rfl (lv_at hl 6 rfl) ?_
    refine va_get (D := D) (ci := 6) (v := .ref k0) (C := RX6) (T := TX6) (N := 39) hx hb hts in_X6_addRank_X6 hown hK hP 0 rfl rfl 35 (by decide) (hts _ wd_X6_addRank_2) (fun _ h9 => h9) rfl dX6_addRank_56 ?_
    refine lv_bipush (v := 61) hx hb dX6_addRank_59 (by decide) ?_
    refine lv_iload hx hb dX6_addRank_61 (lv_at hl 4 rfl) ?_
    refine lv_imul hx hb dX6_addRank_63 ?_
    refine lv_topi (fun z_38 ez_38 => ?_)
    obtain rfl : z_38 = 0 := ez_38.trans (by decide)
    refine lv_iload hx hb dX6_addRank_64 (lv_at hl 3 rfl) ?_
    refine lv_iadd hx hb dX6_addRank_66 ?_
    refine lv_topi (fun z_39 ez_39 => ?_)
    obtain rfl : z_39 = 30 := ez_39.trans (by decide)
    refine va_lald hx hb hK hP 3 1 rfl rfl (show ¬ ((30 : Int32) < 0 ∨ 549 ≤ (30 : Int32).toNatClampNeg) by decide) dX6_addRank_67 ?_
    refine lv_topl (fun z_40 ez_40 => ?_)
    obtain rfl : z_40 = 1 := ez_40.trans ((ha 30 (by decide)).trans (by decide))
    refine lv_lconst (v := 0) hx hb dX6_addRank_68 (by decide) ?_
    refine W.lcmp hx hb dX6_addRank_69 ?_
    refine lv_topi (fun z_41 ez_41 => ?_)
    obtain rfl : z_41 = 1 := ez_41.trans (by decide)
    refine lv_if_le (tgt := 217) hx hb dX6_addRank_70 (by decide) (fun c70_42 => ?_) (fun c70_42 => ?_)
    · exact absurd c70_42 (by decide)
    refine lv_iload hx hb dX6_addRank_73 (lv_at hl 0 rfl) ?_
    refine lv_aload_n hx hb dX6_addRank_75 rfl (lv_at hl 6 rfl) ?_
    refine va_get (D := D) (ci := 6) (v := .ref mf) (C := RX6) (T := TX6) (N := 39) hx hb hts in_X6_addRank_X6 hown hK hP 0 rfl rfl 1 (by decide) (hts _ wd_X6_addRank_4) (fun _ h9 => h9) rfl dX6_addRank_76 ?_
    refine lv_iload_n hx hb dX6_addRank_79 rfl (lv_at hl 7 rfl) ?_
    refine va_iald hx hb hK hP 1 0 rfl rfl hp dX6_addRank_80 ?_
    refine lv_topi (fun z_43 ez_43 => ?_)
    obtain rfl : z_43 = 0 := ez_43
    refine lv_icmp_gt (tgt := 217) hx hb dX6_addRank_81 (by decide) (fun c81_44 => ?_) (fun c81_44 => ?_)
    · skip
      refine lv_iinc (v := 31) (lv' := [(5, .int 31), (6, .int 1), (9, .int 30), (7, .long 1), (4, .int 0), (3, .int 0), (0, .ref m0), (1, .int p0), (2, .int p1)]) hx hb dX6_addRank_217 hl (k := 3) rfl (by decide) (by decide) rfl (fun ls hl => ?_)
      refine lv_goto (tgt := 45) hx hb dX6_addRank_220 (by decide) ?_
      refine lpS (A := A) hx hb hml hown hts hK m0 ms mf mw mk mh q0 q1 q2 q3 q4 q5 q6 q7 k0 k1 k2 k3 p0 p1 a b (vp_updL g1_1 (30 : Int32).toNatClampNeg 1) (vp_updL g2_2 (30 : Int32).toNatClampNeg 0) hP 30 31 ls (by decide) (fun j h1 h2 => (ha j (by omega)).trans (if_neg (by omega))) (lv_sub hl [0, 4, 5, 6, 7, 8] rfl) (fun ls hl => ?_)
      have hl : lv_has ls 10 [(5, .int 61), (4, .int 0), (3, .int 0), (0, .ref m0), (1, .int p0), (2, .int p1)] := hl
      refine lv_iload hx hb dX6_addRank_45 (lv_at hl 0 rfl) ?_
      refine lv_bipush (v := 61) hx hb dX6_addRank_47 (by decide) ?_
      refine lv_icmp_ge (tgt := 223) hx hb dX6_addRank_49 (by decide) (fun c49_45 => ?_) (fun c49_45 => ?_)
      · skip
        refine lv_iinc (v := 1) (lv' := [(4, .int 1), (5, .int 61), (3, .int 0), (0, .ref m0), (1, .int p0), (2, .int p1)]) hx hb dX6_addRank_223 hl (k := 1) rfl (by decide) (by decide) rfl (fun ls hl => ?_)
        refine lv_goto (tgt := 36) hx hb dX6_addRank_226 (by decide) ?_
        refine lv_iload hx hb dX6_addRank_36 (lv_at hl 0 rfl) ?_
        refine lv_iload_n hx hb dX6_addRank_38 rfl (lv_at hl 2 rfl) ?_
        refine lv_icmp_gt (tgt := 229) hx hb dX6_addRank_39 (by decide) (fun c39_46 => ?_) (fun c39_46 => ?_)
        · skip
          refine lv_iconst (v := 0) hx hb dX6_addRank_229 (by decide) ?_
          refine lv_istore (lv' := [(4, .int 0), (5, .int 61), (3, .int 0), (0, .ref m0), (1, .int p0), (2, .int p1)]) hx hb dX6_addRank_230 hl (by decide) rfl (fun ls hl => ?_)
          refine lpC hx hb hml hown hts hK m0 ms mf mw mk mh q0 q1 q2 q3 q4 q5 q6 q7 k0 k1 k2 k3 p0 p1 (vp_updL g1_1 (30 : Int32).toNatClampNeg 1) (vp_updL g2_2 (30 : Int32).toNatClampNeg 0) 549 0 a b _ _ _ (by decide) (fun j hj => absurd hj (Nat.not_lt_zero j)) (fun j hj => absurd hj (Nat.not_lt_zero j)) hP hD hS (lv_sub hl [0, 2, 3, 4, 5] rfl) (fun a2_47 b2_48 H locs ls hc_49 hc_50 hP hD hS hl => ?_)
          have hP9 := hP.sub (ws' := [(m0, .inr (6, [.ref ms, .ref mf, .ref mw, .ref mk, .int 0, .ref mh, .int 0, .int 0, .int 21, .int 17, .int 0, .int 1, .int 1, .int 1, .int 3, .long 1, .int 0, .ref q0, .ref q1, .ref q2, .int 0, .ref q3, .ref q4, .ref q5, .ref q6, .ref q7, .int 0, .int 0, .int 0, .int 0, .int 0, .int 0, .int 0, .int 0, .int 0, .ref k0, .ref k1, .ref k2, .ref k3])), (mf, .inl (cI, 11, .inl (fun _ => 0))), (mk, .inl (cI, 11, .inl (fun _ => 0))), (k0, .inl (cJ, 549, .inr (.inl a2_47))), (k1, .inl (cJ, 549, .inr (.inl b2_48))), (k2, .inl (cJ, 549, .inr (.inl (vp_updL g1_1 (30 : Int32).toNatClampNeg 1)))), (k3, .inl (cJ, 549, .inr (.inl (vp_updL g2_2 (30 : Int32).toNatClampNeg 0))))]) [0, 1, 2, 3, 4, 5, 6] rfl
          have hD9 := hD.sub (ws' := [(m0, .inr (6, [.ref ms, .ref mf, .ref mw, .ref mk, .int 0, .ref mh, .int 0, .int 0, .int 21, .int 17, .int 0, .int 1, .int 1, .int 1, .int 3, .long 1, .int 0, .ref q0, .ref q1, .ref q2, .int 0, .ref q3, .ref q4, .ref q5, .ref q6, .ref q7, .int 0, .int 0, .int 0, .int 0, .int 0, .int 0, .int 0, .int 0, .int 0, .ref k0, .ref k1, .ref k2, .ref k3])), (mf, .inl (cI, 11, .inl (fun _ => 0))), (mk, .inl (cI, 11, .inl (fun _ => 0))), (k0, .inl (cJ, 549, .inr (.inl a2_47))), (k1, .inl (cJ, 549, .inr (.inl b2_48))), (k2, .inl (cJ, 549, .inr (.inl (vp_updL g1_1 (30 : Int32).toNatClampNeg 1)))), (k3, .inl (cJ, 549, .inr (.inl (vp_updL g2_2 (30 : Int32).toNatClampNeg 0))))]) [0, 1, 2, 3, 4, 5, 6] (by decide) rfl
          exact W.vret hx hb hr (fun t ht hW => ⟨⟨((a2_47), (b2_48), (vp_updL g1_1 (30 : Int32).toNatClampNeg 1), (vp_updL g2_2 (30 : Int32).toNatClampNeg 0)), rfl, ⟨fun j hj => (hc_49 j hj).trans (e30_of hz_3 j hj), fun j hj => (hc_50 j hj).trans (z30_of hz_4 j hj)⟩, by rw [ht]; exact hP9, va_K.moved hW.alike hK, hD9⟩, hS.F ht⟩) hS.2.2 dX6_addRank_274
        · exact absurd c39_46 (by decide)
      · exact absurd c49_45 (by decide)
    · exact absurd c81_44 (by decide)
  · skip
    refine lv_iload hx hb dX6_addRank_184 (lv_at hl 2 rfl) ?_
    refine lv_i2l (v := 0) hx hb dX6_addRank_186 (by decide) ?_
    refine lv_lload hx hb dX6_addRank_187 (lv_at hl 1 rfl) ?_
    refine lv_lmul hx hb dX6_addRank_189 ?_
    refine lv_topl (fun z_51 ez_51 => ?_)
    obtain rfl : z_51 = 0 := ez_51.trans (by decide)
    refine lv_aload_n hx hb dX6_addRank_190 rfl (lv_at hl 6 rfl) ?_
    refine va_get (D := D) (ci := 6) (v := .ref k0) (C := RX6) (T := TX6) (N := 39) hx hb hts in_X6_addRank_X6 hown hK hP 0 rfl rfl 35 (by decide) (hts _ wd_X6_addRank_2) (fun _ h9 => h9) rfl dX6_addRank_191 ?_
    refine lv_bipush (v := 61) hx hb dX6_addRank_194 (by decide) ?_
    refine lv_iload hx hb dX6_addRank_196 (lv_at hl 4 rfl) ?_
    refine lv_imul hx hb dX6_addRank_198 ?_
    refine lv_topi (fun z_52 ez_52 => ?_)
    obtain rfl : z_52 = 0 := ez_52.trans (by decide)
    refine lv_iload hx hb dX6_addRank_199 (lv_at hl 3 rfl) ?_
    refine lv_iadd hx hb dX6_addRank_201 ?_
    refine lv_topi (fun z_53 ez_53 => ?_)
    obtain rfl : z_53 = 30 := ez_53.trans (by decide)
    refine va_lald hx hb hK hP 3 1 rfl rfl (show ¬ ((30 : Int32) < 0 ∨ 549 ≤ (30 : Int32).toNatClampNeg) by decide) dX6_addRank_202 ?_
    refine lv_topl (fun z_54 ez_54 => ?_)
    obtain rfl : z_54 = 1 := ez_54.trans ((ha 30 (by decide)).trans (by decide))
    refine lv_lmul hx hb dX6_addRank_203 ?_
    refine lv_topl (fun z_55 ez_55 => ?_)
    obtain rfl : z_55 = 0 := ez_55.trans (by decide)
    refine lv_goto (tgt := 208) hx hb dX6_addRank_204 (by decide) ?_
    refine lv_ladd hx hb dX6_addRank_208 ?_
    refine lv_topl (fun z_56 ez_56 => ?_)
    obtain rfl : z_56 = 0 := ez_56.trans (by decide)
    refine lv_ladd hx hb dX6_addRank_209 ?_
    refine lv_topl (fun z_57 ez_57 => ?_)
    obtain rfl : z_57 = 0 := ez_57.trans (by decide)
    refine va_last hx hb hK hP hD hS 6 1 rfl rfl (show ¬ ((30 : Int32) < 0 ∨ 549 ≤ (30 : Int32).toNatClampNeg) by decide) dX6_addRank_210 (fun H locs hP hD hS => ?_)
    have hP : va_P D vwCl [(m0, .inr (6, [.ref ms, .ref mf, .ref mw, .ref mk, .int 0, .ref mh, .int 0, .int 0, .int 21, .int 17, .int 0, .int 1, .int 1, .int 1, .int 3, .long 1, .int 0, .ref q0, .ref q1, .ref q2, .int 0, .ref q3, .ref q4, .ref q5, .ref q6, .ref q7, .int 0, .int 0, .int 0, .int 0, .int 0, .int 0, .int 0, .int 0, .int 0, .ref k0, .ref k1, .ref k2, .ref k3])), (mf, .inl (cI, 11, .inl (fun _ => 0))), (mk, .inl (cI, 11, .inl (fun _ => 0))), (k0, .inl (cJ, 549, .inr (.inl a))), (k1, .inl (cJ, 549, .inr (.inl b))), (k2, .inl (cJ, 549, .inr (.inl (vp_updL g1_1 (30 : Int32).toNatClampNeg 1)))), (k3, .inl (cJ, 549, .inr (.inl (vp_updL g2_2 (30 : Int32).toNatClampNeg 0))))] H := hP
    have hD : va_D A [(m0, .inr (6, [.ref ms, .ref mf, .ref mw, .ref mk, .int 0, .ref mh, .int 0, .int 0, .int 21, .int 17, .int 0, .int 1, .int 1, .int 1, .int 3, .long 1, .int 0, .ref q0, .ref q1, .ref q2, .int 0, .ref q3, .ref q4, .ref q5, .ref q6, .ref q7, .int 0, .int 0, .int 0, .int 0, .int 0, .int 0, .int 0, .int 0, .int 0, .ref k0, .ref k1, .ref k2, .ref k3])), (mf, .inl (cI, 11, .inl (fun _ => 0))), (mk, .inl (cI, 11, .inl (fun _ => 0))), (k0, .inl (cJ, 549, .inr (.inl a))), (k1, .inl (cJ, 549, .inr (.inl b))), (k2, .inl (cJ, 549, .inr (.inl (vp_updL g1_1 (30 : Int32).toNatClampNeg 1)))), (k3, .inl (cJ, 549, .inr (.inl (vp_updL g2_2 (30 : Int32).toNatClampNeg 0))))] := hD
    refine lv_iinc (v := 1) (lv' := [(6, .int 1), (9, .int 30), (7, .long 1), (5, .int 30), (4, .int 0), (3, .int 0), (0, .ref m0), (1, .int p0), (2, .int p1)]) hx hb dX6_addRank_211 hl (k := 2) rfl (by decide) (by decide) rfl (fun ls hl => ?_)
    refine lv_goto (tgt := 55) hx hb dX6_addRank_214 (by decide) ?_
    refine lv_aload_n hx hb dX6_addRank_55 rfl (lv_at hl 6 rfl) ?_
    refine va_get (D := D) (ci := 6) (v := .ref k0) (C := RX6) (T := TX6) (N := 39) hx hb hts in_X6_addRank_X6 hown hK hP 0 rfl rfl 35 (by decide) (hts _ wd_X6_addRank_2) (fun _ h9 => h9) rfl dX6_addRank_56 ?_
    refine lv_bipush (v := 61) hx hb dX6_addRank_59 (by decide) ?_
    refine lv_iload hx hb dX6_addRank_61 (lv_at hl 4 rfl) ?_
    refine lv_imul hx hb dX6_addRank_63 ?_
    refine lv_topi (fun z_58 ez_58 => ?_)
    obtain rfl : z_58 = 0 := ez_58.trans (by decide)
    refine lv_iload hx hb dX6_addRank_64 (lv_at hl 3 rfl) ?_
    refine lv_iadd hx hb dX6_addRank_66 ?_
    refine lv_topi (fun z_59 ez_59 => ?_)
    obtain rfl : z_59 = 30 := ez_59.trans (by decide)
    refine va_lald hx hb hK hP 3 1 rfl rfl (show ¬ ((30 : Int32) < 0 ∨ 549 ≤ (30 : Int32).toNatClampNeg) by decide) dX6_addRank_67 ?_
    refine lv_topl (fun z_60 ez_60 => ?_)
    obtain rfl : z_60 = 1 := ez_60.trans ((ha 30 (by decide)).trans (by decide))
    refine lv_lconst (v := 0) hx hb dX6_addRank_68 (by decide) ?_
    refine W.lcmp hx hb dX6_addRank_69 ?_
    refine lv_topi (fun z_61 ez_61 => ?_)
    obtain rfl : z_61 = 1 := ez_61.trans (by decide)
    refine lv_if_le (tgt := 217) hx hb dX6_addRank_70 (by decide) (fun c70_62 => ?_) (fun c70_62 => ?_)
    · exact absurd c70_62 (by decide)
    refine lv_iload hx hb dX6_addRank_73 (lv_at hl 0 rfl) ?_
    refine lv_aload_n hx hb dX6_addRank_75 rfl (lv_at hl 6 rfl) ?_
    refine va_get (D := D) (ci := 6) (v := .ref mf) (C := RX6) (T := TX6) (N := 39) hx hb hts in_X6_addRank_X6 hown hK hP 0 rfl rfl 1 (by decide) (hts _ wd_X6_addRank_4) (fun _ h9 => h9) rfl dX6_addRank_76 ?_
    refine lv_iload_n hx hb dX6_addRank_79 rfl (lv_at hl 7 rfl) ?_
    refine va_iald hx hb hK hP 1 0 rfl rfl hp dX6_addRank_80 ?_
    refine lv_topi (fun z_63 ez_63 => ?_)
    obtain rfl : z_63 = 0 := ez_63
    refine lv_icmp_gt (tgt := 217) hx hb dX6_addRank_81 (by decide) (fun c81_64 => ?_) (fun c81_64 => ?_)
    · skip
      refine lv_iinc (v := 31) (lv' := [(5, .int 31), (6, .int 1), (9, .int 30), (7, .long 1), (4, .int 0), (3, .int 0), (0, .ref m0), (1, .int p0), (2, .int p1)]) hx hb dX6_addRank_217 hl (k := 3) rfl (by decide) (by decide) rfl (fun ls hl => ?_)
      refine lv_goto (tgt := 45) hx hb dX6_addRank_220 (by decide) ?_
      refine lpS (A := A) hx hb hml hown hts hK m0 ms mf mw mk mh q0 q1 q2 q3 q4 q5 q6 q7 k0 k1 k2 k3 p0 p1 a b (vp_updL g1_1 (30 : Int32).toNatClampNeg 1) (vp_updL g2_2 (30 : Int32).toNatClampNeg 0) hP 30 31 ls (by decide) (fun j h1 h2 => (ha j (by omega)).trans (if_neg (by omega))) (lv_sub hl [0, 4, 5, 6, 7, 8] rfl) (fun ls hl => ?_)
      have hl : lv_has ls 10 [(5, .int 61), (4, .int 0), (3, .int 0), (0, .ref m0), (1, .int p0), (2, .int p1)] := hl
      refine lv_iload hx hb dX6_addRank_45 (lv_at hl 0 rfl) ?_
      refine lv_bipush (v := 61) hx hb dX6_addRank_47 (by decide) ?_
      refine lv_icmp_ge (tgt := 223) hx hb dX6_addRank_49 (by decide) (fun c49_65 => ?_) (fun c49_65 => ?_)
      · skip
        refine lv_iinc (v := 1) (lv' := [(4, .int 1), (5, .int 61), (3, .int 0), (0, .ref m0), (1, .int p0), (2, .int p1)]) hx hb dX6_addRank_223 hl (k := 1) rfl (by decide) (by decide) rfl (fun ls hl => ?_)
        refine lv_goto (tgt := 36) hx hb dX6_addRank_226 (by decide) ?_
        refine lv_iload hx hb dX6_addRank_36 (lv_at hl 0 rfl) ?_
        refine lv_iload_n hx hb dX6_addRank_38 rfl (lv_at hl 2 rfl) ?_
        refine lv_icmp_gt (tgt := 229) hx hb dX6_addRank_39 (by decide) (fun c39_66 => ?_) (fun c39_66 => ?_)
        · skip
          refine lv_iconst (v := 0) hx hb dX6_addRank_229 (by decide) ?_
          refine lv_istore (lv' := [(4, .int 0), (5, .int 61), (3, .int 0), (0, .ref m0), (1, .int p0), (2, .int p1)]) hx hb dX6_addRank_230 hl (by decide) rfl (fun ls hl => ?_)
          refine lpC hx hb hml hown hts hK m0 ms mf mw mk mh q0 q1 q2 q3 q4 q5 q6 q7 k0 k1 k2 k3 p0 p1 (vp_updL g1_1 (30 : Int32).toNatClampNeg 1) (vp_updL g2_2 (30 : Int32).toNatClampNeg 0) 549 0 a b _ _ _ (by decide) (fun j hj => absurd hj (Nat.not_lt_zero j)) (fun j hj => absurd hj (Nat.not_lt_zero j)) hP hD hS (lv_sub hl [0, 2, 3, 4, 5] rfl) (fun a2_67 b2_68 H locs ls hc_69 hc_70 hP hD hS hl => ?_)
          have hP9 := hP.sub (ws' := [(m0, .inr (6, [.ref ms, .ref mf, .ref mw, .ref mk, .int 0, .ref mh, .int 0, .int 0, .int 21, .int 17, .int 0, .int 1, .int 1, .int 1, .int 3, .long 1, .int 0, .ref q0, .ref q1, .ref q2, .int 0, .ref q3, .ref q4, .ref q5, .ref q6, .ref q7, .int 0, .int 0, .int 0, .int 0, .int 0, .int 0, .int 0, .int 0, .int 0, .ref k0, .ref k1, .ref k2, .ref k3])), (mf, .inl (cI, 11, .inl (fun _ => 0))), (mk, .inl (cI, 11, .inl (fun _ => 0))), (k0, .inl (cJ, 549, .inr (.inl a2_67))), (k1, .inl (cJ, 549, .inr (.inl b2_68))), (k2, .inl (cJ, 549, .inr (.inl (vp_updL g1_1 (30 : Int32).toNatClampNeg 1)))), (k3, .inl (cJ, 549, .inr (.inl (vp_updL g2_2 (30 : Int32).toNatClampNeg 0))))]) [0, 1, 2, 3, 4, 5, 6] rfl
          have hD9 := hD.sub (ws' := [(m0, .inr (6, [.ref ms, .ref mf, .ref mw, .ref mk, .int 0, .ref mh, .int 0, .int 0, .int 21, .int 17, .int 0, .int 1, .int 1, .int 1, .int 3, .long 1, .int 0, .ref q0, .ref q1, .ref q2, .int 0, .ref q3, .ref q4, .ref q5, .ref q6, .ref q7, .int 0, .int 0, .int 0, .int 0, .int 0, .int 0, .int 0, .int 0, .int 0, .ref k0, .ref k1, .ref k2, .ref k3])), (mf, .inl (cI, 11, .inl (fun _ => 0))), (mk, .inl (cI, 11, .inl (fun _ => 0))), (k0, .inl (cJ, 549, .inr (.inl a2_67))), (k1, .inl (cJ, 549, .inr (.inl b2_68))), (k2, .inl (cJ, 549, .inr (.inl (vp_updL g1_1 (30 : Int32).toNatClampNeg 1)))), (k3, .inl (cJ, 549, .inr (.inl (vp_updL g2_2 (30 : Int32).toNatClampNeg 0))))]) [0, 1, 2, 3, 4, 5, 6] (by decide) rfl
          exact W.vret hx hb hr (fun t ht hW => ⟨⟨((a2_67), (b2_68), (vp_updL g1_1 (30 : Int32).toNatClampNeg 1), (vp_updL g2_2 (30 : Int32).toNatClampNeg 0)), rfl, ⟨fun j hj => (hc_69 j hj).trans (e30_of hz_3 j hj), fun j hj => (hc_70 j hj).trans (z30_of hz_4 j hj)⟩, by rw [ht]; exact hP9, va_K.moved hW.alike hK, hD9⟩, hS.F ht⟩) hS.2.2 dX6_addRank_274
        · exact absurd c39_66 (by decide)
      · exact absurd c49_65 (by decide)
    · exact absurd c81_64 (by decide)

set_option maxRecDepth 20000 in
theorem wd_X6_known_2 : Cond.constantLong RX6 86 (10) ∈ wsX6_known := by decide +kernel
set_option maxRecDepth 20000 in
theorem ggX6_known_X6_in : GoodIn wsX6_known wsX6_in := goodIn_r _ [12] (by decide +kernel) (by decide +kernel)
set_option maxRecDepth 20000 in
theorem gX6_known_X6_in : GoodIn wsX6_known (va_wsS RX6 88 yX6_in wsX6_in) := goodIn_app (goodIn_of _ (by decide +kernel)) ggX6_known_X6_in
set_option maxRecDepth 20000 in
theorem wd_X6_known_3 : Cond.constantLong RX6 261 (-1001) ∈ wsX6_known := by decide +kernel
set_option maxRecDepth 20000 in
theorem wd_X6_known_4 : Cond.fieldLink RX6 94 "ShoeTableModel" "told" "Z" ∈ wsX6_known := by decide +kernel
set_option maxRecDepth 20000 in
theorem wd_X6_known_5 : Cond.fieldLink RX6 13 "ShoeTableModel" "atFresh" "[I" ∈ wsX6_known := by decide +kernel
set_option maxRecDepth 20000 in
theorem ggX6_known_X6_gone : GoodIn wsX6_known wsX6_gone := goodIn_r _ [16, 17, 38, 39, 40, 41, 42, 43, 44, 45, 46, 47, 48, 49, 50, 51, 52, 53, 54, 55, 56, 57, 58, 59, 60, 61, 62, 63, 64, 65, 66, 67, 68, 69, 70, 71, 72, 73, 74, 75, 76] (by decide +kernel) (by decide +kernel)
set_option maxRecDepth 20000 in
theorem gX6_known_X6_gone : GoodIn wsX6_known (wsV RX6 159 RX6 yX6_gone wsX6_gone) := goodIn_app (goodIn_of _ (by decide +kernel)) ggX6_known_X6_gone
set_option maxRecDepth 20000 in
theorem ggX6_known_X6_addRank : GoodIn wsX6_known wsX6_addRank := goodIn_r _ [21, 22, 23, 7, 5, 24, 8, 25, 26, 11, 27, 38, 39, 40, 41, 42, 43, 44, 45, 46, 47, 48, 49, 50, 51, 52, 53, 54, 55, 56, 57, 58, 59, 60, 61, 62, 63, 64, 65, 66, 67, 68, 69, 70, 71, 72, 73, 74, 75, 76] (by decide +kernel) (by decide +kernel)
set_option maxRecDepth 20000 in
theorem gX6_known_X6_addRank : GoodIn wsX6_known (wsV RX6 286 RX6 yX6_addRank wsX6_addRank) := goodIn_app (goodIn_of _ (by decide +kernel)) ggX6_known_X6_addRank
set_option maxRecDepth 20000 in
theorem ggX6_known_X6_counted : GoodIn wsX6_known wsX6_counted := goodIn_r _ [31, 24, 17, 38, 39, 40, 41, 42, 43, 44, 45, 46, 47, 48, 49, 50, 51, 52, 53, 54, 55, 56, 57, 58, 59, 60, 61, 62, 63, 64, 65, 66, 67, 68, 69, 70, 71, 72, 73, 74, 75, 76] (by decide +kernel) (by decide +kernel)
set_option maxRecDepth 20000 in
theorem gX6_known_X6_counted : GoodIn wsX6_known (wsV RX6 153 RX6 yX6_counted wsX6_counted) := goodIn_app (goodIn_of _ (by decide +kernel)) ggX6_known_X6_counted
set_option maxRecDepth 20000 in
theorem ggX6_known_X6_part : GoodIn wsX6_known wsX6_part := goodIn_r _ [34, 35, 36, 11, 37] (by decide +kernel) (by decide +kernel)
set_option maxRecDepth 20000 in
theorem gX6_known_X6_part : GoodIn wsX6_known (va_wsS RX6 271 yX6_part wsX6_part) := goodIn_app (goodIn_of _ (by decide +kernel)) ggX6_known_X6_part
set_option maxHeartbeats 400000 in
set_option maxRecDepth 100000 in
/-- X6_known -/
theorem c_X6_known (l : Launch) (D : va_G) (cI cJ cQ : ClassId) (sz : Nat) (m0 : Nat) (ms : Nat) (mf : Nat) (mw : Nat) (mk : Nat) (mh : Nat) (q0 : Nat) (q1 : Nat) (q2 : Nat) (q3 : Nat) (q4 : Nat) (q5 : Nat) (q6 : Nat) (q7 : Nat) (k0 : Nat) (k1 : Nat) (k2 : Nat) (k3 : Nat) (p0 : Int32) (p1 : Int32)  : Met l yX6_known wsX6_known ({ frames := 2, cells := 0, slots := 0, locals := 55 }) (va_Pc [.ref m0, .int p0, .int p1] (mP D (gTy cI cJ cQ) [(m0, .inr (6, [.ref ms, .ref mf, .ref mw, .ref mk, .int 0, .ref mh, .int 0, .int 0, .int 21, .int 17, .int 0, .int 1, .int 1, .int 1, .int 3, .long 1, .int 0, .ref q0, .ref q1, .ref q2, .int 0, .ref q3, .ref q4, .ref q5, .ref q6, .ref q7, .int 0, .int 0, .int 0, .int 0, .int 0, .int 0, .int 0, .int 0, .int 0, .ref k0, .ref k1, .ref k2, .ref k3])), (mf, .inl (cI, 11, .inl (fun _ => 0))), (mw, .inl (cI, 11, .inl (fun _ => 0))), (mk, .inl (cI, 11, .inl (fun _ => 0))), (k0, .inl (cJ, 549, .inr (.inl (fun _ => 0)))), (k1, .inl (cJ, 549, .inr (.inl (fun _ => 0)))), (k2, .inl (cJ, 549, .inr (.inl (fun _ => 0)))), (k3, .inl (cJ, 549, .inr (.inl (fun _ => 0))))] sz)) (va_Ql (fun (r : Int64) (u : Unit) => match u with | _ => r = knownM p0 p1) (fun (u : Unit) t => match u with | _ => mB D (gTy cI cJ cQ) (va_A [(m0, .inr (6, [.ref ms, .ref mf, .ref mw, .ref mk, .int 0, .ref mh, .int 0, .int 0, .int 21, .int 17, .int 0, .int 1, .int 1, .int 1, .int 3, .long 1, .int 0, .ref q0, .ref q1, .ref q2, .int 0, .ref q3, .ref q4, .ref q5, .ref q6, .ref q7, .int 0, .int 0, .int 0, .int 0, .int 0, .int 0, .int 0, .int 0, .int 0, .ref k0, .ref k1, .ref k2, .ref k3])), (mf, .inl (cI, 11, .inl (fun _ => 0))), (mw, .inl (cI, 11, .inl (fun _ => 0))), (mk, .inl (cI, 11, .inl (fun _ => 0))), (k0, .inl (cJ, 549, .inr (.inl (fun _ => 0)))), (k1, .inl (cJ, 549, .inr (.inl (fun _ => 0)))), (k2, .inl (cJ, 549, .inr (.inl (fun _ => 0)))), (k3, .inl (cJ, 549, .inr (.inl (fun _ => 0))))] sz) [] t) (va_A [(m0, .inr (6, [.ref ms, .ref mf, .ref mw, .ref mk, .int 0, .ref mh, .int 0, .int 0, .int 21, .int 17, .int 0, .int 1, .int 1, .int 1, .int 3, .long 1, .int 0, .ref q0, .ref q1, .ref q2, .int 0, .ref q3, .ref q4, .ref q5, .ref q6, .ref q7, .int 0, .int 0, .int 0, .int 0, .int 0, .int 0, .int 0, .int 0, .int 0, .ref k0, .ref k1, .ref k2, .ref k3])), (mf, .inl (cI, 11, .inl (fun _ => 0))), (mw, .inl (cI, 11, .inl (fun _ => 0))), (mk, .inl (cI, 11, .inl (fun _ => 0))), (k0, .inl (cJ, 549, .inr (.inl (fun _ => 0)))), (k1, .inl (cJ, 549, .inr (.inl (fun _ => 0)))), (k2, .inl (cJ, 549, .inr (.inl (fun _ => 0)))), (k3, .inl (cJ, 549, .inr (.inl (fun _ => 0))))] sz)) 0 0 (va_A [(m0, .inr (6, [.ref ms, .ref mf, .ref mw, .ref mk, .int 0, .ref mh, .int 0, .int 0, .int 21, .int 17, .int 0, .int 1, .int 1, .int 1, .int 3, .long 1, .int 0, .ref q0, .ref q1, .ref q2, .int 0, .ref q3, .ref q4, .ref q5, .ref q6, .ref q7, .int 0, .int 0, .int 0, .int 0, .int 0, .int 0, .int 0, .int 0, .int 0, .ref k0, .ref k1, .ref k2, .ref k3])), (mf, .inl (cI, 11, .inl (fun _ => 0))), (mw, .inl (cI, 11, .inl (fun _ => 0))), (mk, .inl (cI, 11, .inl (fun _ => 0))), (k0, .inl (cJ, 549, .inr (.inl (fun _ => 0)))), (k1, .inl (cJ, 549, .inr (.inl (fun _ => 0)))), (k2, .inl (cJ, 549, .inr (.inl (fun _ => 0)))), (k3, .inl (cJ, 549, .inr (.inl (fun _ => 0))))] sz) := by
  refine Met.ofW (cc := cX6_known) (maxL := 6) (ret := (some .long)) (by decide) rfl ?_
  intro p e s m args below meth c s₁ B hml hv
  obtain ⟨rfl, hsz, hP, hK, hD0⟩ := hv
  have hx := B.exec
  have hb := B.bytes
  have hr := B.returns
  have hts := atoms_spec (ws := wsX6_known) B.pre
  have hown : s.vm.findClass RX6 = some m.cls := findClass_of_methodNamed B.named
  have hlocks := B.notSynchronized
  subst hsz
  have hD := hD0.self (sz := s.heap.size)
  generalize hAe : va_A [(m0, .inr (6, [.ref ms, .ref mf, .ref mw, .ref mk, .int 0, .ref mh, .int 0, .int 0, .int 21, .int 17, .int 0, .int 1, .int 1, .int 1, .int 3, .long 1, .int 0, .ref q0, .ref q1, .ref q2, .int 0, .ref q3, .ref q4, .ref q5, .ref q6, .ref q7, .int 0, .int 0, .int 0, .int 0, .int 0, .int 0, .int 0, .int 0, .int 0, .ref k0, .ref k1, .ref k2, .ref k3])), (mf, .inl (cI, 11, .inl (fun _ => 0))), (mw, .inl (cI, 11, .inl (fun _ => 0))), (mk, .inl (cI, 11, .inl (fun _ => 0))), (k0, .inl (cJ, 549, .inr (.inl (fun _ => 0)))), (k1, .inl (cJ, 549, .inr (.inl (fun _ => 0)))), (k2, .inl (cJ, 549, .inr (.inl (fun _ => 0)))), (k3, .inl (cJ, 549, .inr (.inl (fun _ => 0))))] s.heap.size = A at hD ⊢
  have hA : ∀ q : Nat, s.heap.size ≤ q → A q := fun q h => by rw [← hAe]; exact Or.inr h
  have hS : va_S A s.heap s.heap [] := va_S.rf
  have hP : va_P D vwCl [(m0, .inr (6, [.ref ms, .ref mf, .ref mw, .ref mk, .int 0, .ref mh, .int 0, .int 0, .int 21, .int 17, .int 0, .int 1, .int 1, .int 1, .int 3, .long 1, .int 0, .ref q0, .ref q1, .ref q2, .int 0, .ref q3, .ref q4, .ref q5, .ref q6, .ref q7, .int 0, .int 0, .int 0, .int 0, .int 0, .int 0, .int 0, .int 0, .int 0, .ref k0, .ref k1, .ref k2, .ref k3])), (mf, .inl (cI, 11, .inl (fun _ => 0))), (mw, .inl (cI, 11, .inl (fun _ => 0))), (mk, .inl (cI, 11, .inl (fun _ => 0))), (k0, .inl (cJ, 549, .inr (.inl (fun _ => 0)))), (k1, .inl (cJ, 549, .inr (.inl (fun _ => 0)))), (k2, .inl (cJ, 549, .inr (.inl (fun _ => 0)))), (k3, .inl (cJ, 549, .inr (.inl (fun _ => 0))))] s.heap := hP
  have hl := lv_entry ([.ref m0, .int p0, .int p1]) (n := 6) (Nat.le_of_ble_eq_true rfl)
  rw [lg_entry_eq]
  generalize (lg_sl ([.ref m0, .int p0, .int p1]) ++ List.replicate (6 - (lg_sl ([.ref m0, .int p0, .int p1])).length) Slot.unset).toArray = ls at hl ⊢
  have hl : lv_has ls 6 [(0, .ref m0), (1, .int p0), (2, .int p1)] := hl
  refine lv_iload_n hx hb dX6_known_0 rfl (lv_at hl 1 rfl) ?_
  refine lv_i2l (v := p0.toInt64) hx hb dX6_known_1 rfl ?_
  refine lv_lconst (v := 1) hx hb dX6_known_2 (by decide) ?_
  refine lv_ldc2 hx hb hown (hts _ wd_X6_known_2) dX6_known_3 ?_
  have hPc := hP.sub (ws' := []) [] rfl
  refine vp_callSi (W.runS (As := [.long p0.toInt64, .long 1, .long 10]) (rest := []) ⟨hx, hb, hml, hown, hts⟩ (c_X6_in l D cI cJ cQ p0.toInt64 1 10) (va_cwS 3 hts gX6_known_X6_in rfl rfl rfl (by decide +kernel) ⟨Nat.le_of_ble_eq_true rfl, Nat.le_of_ble_eq_true rfl⟩) (rP_preS hPc hK) rfl rfl hl.1 rfl (lv_room (Nat.le_of_ble_eq_true rfl)) dX6_known_6 ⟨Nat.le_of_ble_eq_true rfl, Nat.le_of_ble_eq_true rfl⟩) (fun r_1 hr_1 => ?_)
  subst hr_1
  refine lv_if_eq (tgt := 22) hx hb dX6_known_9 (by decide) (fun c9_2 => ?_) (fun c9_2 => ?_)
  · skip
    refine lv_ldc2 hx hb hown (hts _ wd_X6_known_3) dX6_known_22 ?_
    have hP9 := hP.sub (ws' := []) [] rfl
    have hD9 := hD.sub (ws' := []) [] (by decide) rfl
    exact W.lret (v := (-1001)) hx hb hr (fun t ht hW => ⟨⟨(-1001), (), rfl, (by unfold knownM; first | (simp [c9_2]; done) | ((try first | rw [if_pos c9_2] | rw [if_neg c9_2]); first | done | rfl | trivial)), by rw [ht]; exact hP9, va_K.moved hW.alike hK, hD9⟩, hS.F ht⟩) hS.2.2 dX6_known_25
  · skip
    refine lv_iload_n hx hb dX6_known_12 rfl (lv_at hl 2 rfl) ?_
    refine lv_i2l (v := p1.toInt64) hx hb dX6_known_13 rfl ?_
    refine lv_lconst (v := 0) hx hb dX6_known_14 (by decide) ?_
    refine lv_lconst (v := 1) hx hb dX6_known_15 (by decide) ?_
    have hPc := hP.sub (ws' := []) [] rfl
    refine vp_callSi (W.runS (As := [.long p1.toInt64, .long 0, .long 1]) (rest := []) ⟨hx, hb, hml, hown, hts⟩ (c_X6_in l D cI cJ cQ p1.toInt64 0 1) (va_cwS 3 hts gX6_known_X6_in rfl rfl rfl (by decide +kernel) ⟨Nat.le_of_ble_eq_true rfl, Nat.le_of_ble_eq_true rfl⟩) (rP_preS hPc hK) rfl rfl hl.1 rfl (lv_room (Nat.le_of_ble_eq_true rfl)) dX6_known_16 ⟨Nat.le_of_ble_eq_true rfl, Nat.le_of_ble_eq_true rfl⟩) (fun r_3 hr_3 => ?_)
    subst hr_3
    refine lv_if_ne (tgt := 26) hx hb dX6_known_19 (by decide) (fun c19_4 => ?_) (fun c19_4 => ?_)
    · skip
      refine lv_aload_n hx hb dX6_known_26 rfl (lv_at hl 0 rfl) ?_
      refine va_get (D := D) (ci := 6) (v := .int 0) (C := RX6) (T := TX6) (N := 39) hx hb hts in_X6_known_X6 hown hK hP 0 rfl rfl 4 (by decide) (hts _ wd_X6_known_4) (fun _ h9 => h9) rfl dX6_known_27 ?_
      refine lv_if_eq (tgt := 37) hx hb dX6_known_30 (by decide) (fun c30_5 => ?_) (fun c30_5 => ?_)
      · skip
        refine lv_iconst (v := 0) hx hb dX6_known_37 (by decide) ?_
        refine lv_istore_n (lv' := [(3, .int 0), (0, .ref m0), (1, .int p0), (2, .int p1)]) hx hb dX6_known_38 rfl hl (by decide) rfl (fun ls hl => ?_)
        refine lv_iconst (v := 1) hx hb dX6_known_39 (by decide) ?_
        refine lv_istore (lv' := [(4, .int 1), (3, .int 0), (0, .ref m0), (1, .int p0), (2, .int p1)]) hx hb dX6_known_40 hl (by decide) rfl (fun ls hl => ?_)
        refine lv_iload hx hb dX6_known_42 (lv_at hl 0 rfl) ?_
        refine lv_bipush (v := 11) hx hb dX6_known_44 (by decide) ?_
        refine lv_icmp_ge (tgt := 65) hx hb dX6_known_46 (by decide) (fun c46_6 => ?_) (fun c46_6 => ?_)
        · exact absurd c46_6 (by decide)
        refine lv_iload_n hx hb dX6_known_49 rfl (lv_at hl 1 rfl) ?_
        refine lv_aload_n hx hb dX6_known_50 rfl (lv_at hl 2 rfl) ?_
        refine va_get (D := D) (ci := 6) (v := .ref mf) (C := RX6) (T := TX6) (N := 39) hx hb hts in_X6_known_X6 hown hK hP 0 rfl rfl 1 (by decide) (hts _ wd_X6_known_5) (fun _ h9 => h9) rfl dX6_known_51 ?_
        refine lv_iload hx hb dX6_known_54 (lv_at hl 0 rfl) ?_
        refine va_iald hx hb hK hP 1 0 rfl rfl (show ¬ ((1 : Int32) < 0 ∨ 11 ≤ (1 : Int32).toNatClampNeg) by decide) dX6_known_56 ?_
        refine lv_topi (fun z_7 ez_7 => ?_)
        obtain rfl : z_7 = 0 := ez_7
        refine lv_iadd hx hb dX6_known_57 ?_
        refine lv_topi (fun z_8 ez_8 => ?_)
        obtain rfl : z_8 = 0 := ez_8.trans (by decide)
        refine lv_istore_n (lv' := [(3, .int 0), (4, .int 1), (0, .ref m0), (1, .int p0), (2, .int p1)]) hx hb dX6_known_58 rfl hl (by decide) rfl (fun ls hl => ?_)
        refine lv_iinc (v := 2) (lv' := [(4, .int 2), (3, .int 0), (0, .ref m0), (1, .int p0), (2, .int p1)]) hx hb dX6_known_59 hl (k := 1) rfl (by decide) (by decide) rfl (fun ls hl => ?_)
        refine lv_goto (tgt := 42) hx hb dX6_known_62 (by decide) ?_
        refine lv_iload hx hb dX6_known_42 (lv_at hl 0 rfl) ?_
        refine lv_bipush (v := 11) hx hb dX6_known_44 (by decide) ?_
        refine lv_icmp_ge (tgt := 65) hx hb dX6_known_46 (by decide) (fun c46_9 => ?_) (fun c46_9 => ?_)
        · exact absurd c46_9 (by decide)
        refine lv_iload_n hx hb dX6_known_49 rfl (lv_at hl 1 rfl) ?_
        refine lv_aload_n hx hb dX6_known_50 rfl (lv_at hl 2 rfl) ?_
        refine va_get (D := D) (ci := 6) (v := .ref mf) (C := RX6) (T := TX6) (N := 39) hx hb hts in_X6_known_X6 hown hK hP 0 rfl rfl 1 (by decide) (hts _ wd_X6_known_5) (fun _ h9 => h9) rfl dX6_known_51 ?_
        refine lv_iload hx hb dX6_known_54 (lv_at hl 0 rfl) ?_
        refine va_iald hx hb hK hP 1 0 rfl rfl (show ¬ ((2 : Int32) < 0 ∨ 11 ≤ (2 : Int32).toNatClampNeg) by decide) dX6_known_56 ?_
        refine lv_topi (fun z_10 ez_10 => ?_)
        obtain rfl : z_10 = 0 := ez_10
        refine lv_iadd hx hb dX6_known_57 ?_
        refine lv_topi (fun z_11 ez_11 => ?_)
        obtain rfl : z_11 = 0 := ez_11.trans (by decide)
        refine lv_istore_n (lv' := [(3, .int 0), (4, .int 2), (0, .ref m0), (1, .int p0), (2, .int p1)]) hx hb dX6_known_58 rfl hl (by decide) rfl (fun ls hl => ?_)
        refine lv_iinc (v := 3) (lv' := [(4, .int 3), (3, .int 0), (0, .ref m0), (1, .int p0), (2, .int p1)]) hx hb dX6_known_59 hl (k := 1) rfl (by decide) (by decide) rfl (fun ls hl => ?_)
        refine lv_goto (tgt := 42) hx hb dX6_known_62 (by decide) ?_
        refine lv_iload hx hb dX6_known_42 (lv_at hl 0 rfl) ?_
        refine lv_bipush (v := 11) hx hb dX6_known_44 (by decide) ?_
        refine lv_icmp_ge (tgt := 65) hx hb dX6_known_46 (by decide) (fun c46_12 => ?_) (fun c46_12 => ?_)
        · exact absurd c46_12 (by decide)
        refine lv_iload_n hx hb dX6_known_49 rfl (lv_at hl 1 rfl) ?_
        refine lv_aload_n hx hb dX6_known_50 rfl (lv_at hl 2 rfl) ?_
        refine va_get (D := D) (ci := 6) (v := .ref mf) (C := RX6) (T := TX6) (N := 39) hx hb hts in_X6_known_X6 hown hK hP 0 rfl rfl 1 (by decide) (hts _ wd_X6_known_5) (fun _ h9 => h9) rfl dX6_known_51 ?_
        refine lv_iload hx hb dX6_known_54 (lv_at hl 0 rfl) ?_
        refine va_iald hx hb hK hP 1 0 rfl rfl (show ¬ ((3 : Int32) < 0 ∨ 11 ≤ (3 : Int32).toNatClampNeg) by decide) dX6_known_56 ?_
        refine lv_topi (fun z_13 ez_13 => ?_)
        obtain rfl : z_13 = 0 := ez_13
        refine lv_iadd hx hb dX6_known_57 ?_
        refine lv_topi (fun z_14 ez_14 => ?_)
        obtain rfl : z_14 = 0 := ez_14.trans (by decide)
        refine lv_istore_n (lv' := [(3, .int 0), (4, .int 3), (0, .ref m0), (1, .int p0), (2, .int p1)]) hx hb dX6_known_58 rfl hl (by decide) rfl (fun ls hl => ?_)
        refine lv_iinc (v := 4) (lv' := [(4, .int 4), (3, .int 0), (0, .ref m0), (1, .int p0), (2, .int p1)]) hx hb dX6_known_59 hl (k := 1) rfl (by decide) (by decide) rfl (fun ls hl => ?_)
        refine lv_goto (tgt := 42) hx hb dX6_known_62 (by decide) ?_
        refine lv_iload hx hb dX6_known_42 (lv_at hl 0 rfl) ?_
        refine lv_bipush (v := 11) hx hb dX6_known_44 (by decide) ?_
        refine lv_icmp_ge (tgt := 65) hx hb dX6_known_46 (by decide) (fun c46_15 => ?_) (fun c46_15 => ?_)
        · exact absurd c46_15 (by decide)
        refine lv_iload_n hx hb dX6_known_49 rfl (lv_at hl 1 rfl) ?_
        refine lv_aload_n hx hb dX6_known_50 rfl (lv_at hl 2 rfl) ?_
        refine va_get (D := D) (ci := 6) (v := .ref mf) (C := RX6) (T := TX6) (N := 39) hx hb hts in_X6_known_X6 hown hK hP 0 rfl rfl 1 (by decide) (hts _ wd_X6_known_5) (fun _ h9 => h9) rfl dX6_known_51 ?_
        refine lv_iload hx hb dX6_known_54 (lv_at hl 0 rfl) ?_
        refine va_iald hx hb hK hP 1 0 rfl rfl (show ¬ ((4 : Int32) < 0 ∨ 11 ≤ (4 : Int32).toNatClampNeg) by decide) dX6_known_56 ?_
        refine lv_topi (fun z_16 ez_16 => ?_)
        obtain rfl : z_16 = 0 := ez_16
        refine lv_iadd hx hb dX6_known_57 ?_
        refine lv_topi (fun z_17 ez_17 => ?_)
        obtain rfl : z_17 = 0 := ez_17.trans (by decide)
        refine lv_istore_n (lv' := [(3, .int 0), (4, .int 4), (0, .ref m0), (1, .int p0), (2, .int p1)]) hx hb dX6_known_58 rfl hl (by decide) rfl (fun ls hl => ?_)
        refine lv_iinc (v := 5) (lv' := [(4, .int 5), (3, .int 0), (0, .ref m0), (1, .int p0), (2, .int p1)]) hx hb dX6_known_59 hl (k := 1) rfl (by decide) (by decide) rfl (fun ls hl => ?_)
        refine lv_goto (tgt := 42) hx hb dX6_known_62 (by decide) ?_
        refine lv_iload hx hb dX6_known_42 (lv_at hl 0 rfl) ?_
        refine lv_bipush (v := 11) hx hb dX6_known_44 (by decide) ?_
        refine lv_icmp_ge (tgt := 65) hx hb dX6_known_46 (by decide) (fun c46_18 => ?_) (fun c46_18 => ?_)
        · exact absurd c46_18 (by decide)
        refine lv_iload_n hx hb dX6_known_49 rfl (lv_at hl 1 rfl) ?_
        refine lv_aload_n hx hb dX6_known_50 rfl (lv_at hl 2 rfl) ?_
        refine va_get (D := D) (ci := 6) (v := .ref mf) (C := RX6) (T := TX6) (N := 39) hx hb hts in_X6_known_X6 hown hK hP 0 rfl rfl 1 (by decide) (hts _ wd_X6_known_5) (fun _ h9 => h9) rfl dX6_known_51 ?_
        refine lv_iload hx hb dX6_known_54 (lv_at hl 0 rfl) ?_
        refine va_iald hx hb hK hP 1 0 rfl rfl (show ¬ ((5 : Int32) < 0 ∨ 11 ≤ (5 : Int32).toNatClampNeg) by decide) dX6_known_56 ?_
        refine lv_topi (fun z_19 ez_19 => ?_)
        obtain rfl : z_19 = 0 := ez_19
        refine lv_iadd hx hb dX6_known_57 ?_
        refine lv_topi (fun z_20 ez_20 => ?_)
        obtain rfl : z_20 = 0 := ez_20.trans (by decide)
        refine lv_istore_n (lv' := [(3, .int 0), (4, .int 5), (0, .ref m0), (1, .int p0), (2, .int p1)]) hx hb dX6_known_58 rfl hl (by decide) rfl (fun ls hl => ?_)
        refine lv_iinc (v := 6) (lv' := [(4, .int 6), (3, .int 0), (0, .ref m0), (1, .int p0), (2, .int p1)]) hx hb dX6_known_59 hl (k := 1) rfl (by decide) (by decide) rfl (fun ls hl => ?_)
        refine lv_goto (tgt := 42) hx hb dX6_known_62 (by decide) ?_
        refine lv_iload hx hb dX6_known_42 (lv_at hl 0 rfl) ?_
        refine lv_bipush (v := 11) hx hb dX6_known_44 (by decide) ?_
        refine lv_icmp_ge (tgt := 65) hx hb dX6_known_46 (by decide) (fun c46_21 => ?_) (fun c46_21 => ?_)
        · exact absurd c46_21 (by decide)
        refine lv_iload_n hx hb dX6_known_49 rfl (lv_at hl 1 rfl) ?_
        refine lv_aload_n hx hb dX6_known_50 rfl (lv_at hl 2 rfl) ?_
        refine va_get (D := D) (ci := 6) (v := .ref mf) (C := RX6) (T := TX6) (N := 39) hx hb hts in_X6_known_X6 hown hK hP 0 rfl rfl 1 (by decide) (hts _ wd_X6_known_5) (fun _ h9 => h9) rfl dX6_known_51 ?_
        refine lv_iload hx hb dX6_known_54 (lv_at hl 0 rfl) ?_
        refine va_iald hx hb hK hP 1 0 rfl rfl (show ¬ ((6 : Int32) < 0 ∨ 11 ≤ (6 : Int32).toNatClampNeg) by decide) dX6_known_56 ?_
        refine lv_topi (fun z_22 ez_22 => ?_)
        obtain rfl : z_22 = 0 := ez_22
        refine lv_iadd hx hb dX6_known_57 ?_
        refine lv_topi (fun z_23 ez_23 => ?_)
        obtain rfl : z_23 = 0 := ez_23.trans (by decide)
        refine lv_istore_n (lv' := [(3, .int 0), (4, .int 6), (0, .ref m0), (1, .int p0), (2, .int p1)]) hx hb dX6_known_58 rfl hl (by decide) rfl (fun ls hl => ?_)
        refine lv_iinc (v := 7) (lv' := [(4, .int 7), (3, .int 0), (0, .ref m0), (1, .int p0), (2, .int p1)]) hx hb dX6_known_59 hl (k := 1) rfl (by decide) (by decide) rfl (fun ls hl => ?_)
        refine lv_goto (tgt := 42) hx hb dX6_known_62 (by decide) ?_
        refine lv_iload hx hb dX6_known_42 (lv_at hl 0 rfl) ?_
        refine lv_bipush (v := 11) hx hb dX6_known_44 (by decide) ?_
        refine lv_icmp_ge (tgt := 65) hx hb dX6_known_46 (by decide) (fun c46_24 => ?_) (fun c46_24 => ?_)
        · exact absurd c46_24 (by decide)
        refine lv_iload_n hx hb dX6_known_49 rfl (lv_at hl 1 rfl) ?_
        refine lv_aload_n hx hb dX6_known_50 rfl (lv_at hl 2 rfl) ?_
        refine va_get (D := D) (ci := 6) (v := .ref mf) (C := RX6) (T := TX6) (N := 39) hx hb hts in_X6_known_X6 hown hK hP 0 rfl rfl 1 (by decide) (hts _ wd_X6_known_5) (fun _ h9 => h9) rfl dX6_known_51 ?_
        refine lv_iload hx hb dX6_known_54 (lv_at hl 0 rfl) ?_
        refine va_iald hx hb hK hP 1 0 rfl rfl (show ¬ ((7 : Int32) < 0 ∨ 11 ≤ (7 : Int32).toNatClampNeg) by decide) dX6_known_56 ?_
        refine lv_topi (fun z_25 ez_25 => ?_)
        obtain rfl : z_25 = 0 := ez_25
        refine lv_iadd hx hb dX6_known_57 ?_
        refine lv_topi (fun z_26 ez_26 => ?_)
        obtain rfl : z_26 = 0 := ez_26.trans (by decide)
        refine lv_istore_n (lv' := [(3, .int 0), (4, .int 7), (0, .ref m0), (1, .int p0), (2, .int p1)]) hx hb dX6_known_58 rfl hl (by decide) rfl (fun ls hl => ?_)
        refine lv_iinc (v := 8) (lv' := [(4, .int 8), (3, .int 0), (0, .ref m0), (1, .int p0), (2, .int p1)]) hx hb dX6_known_59 hl (k := 1) rfl (by decide) (by decide) rfl (fun ls hl => ?_)
        refine lv_goto (tgt := 42) hx hb dX6_known_62 (by decide) ?_
        refine lv_iload hx hb dX6_known_42 (lv_at hl 0 rfl) ?_
        refine lv_bipush (v := 11) hx hb dX6_known_44 (by decide) ?_
        refine lv_icmp_ge (tgt := 65) hx hb dX6_known_46 (by decide) (fun c46_27 => ?_) (fun c46_27 => ?_)
        · exact absurd c46_27 (by decide)
        refine lv_iload_n hx hb dX6_known_49 rfl (lv_at hl 1 rfl) ?_
        refine lv_aload_n hx hb dX6_known_50 rfl (lv_at hl 2 rfl) ?_
        refine va_get (D := D) (ci := 6) (v := .ref mf) (C := RX6) (T := TX6) (N := 39) hx hb hts in_X6_known_X6 hown hK hP 0 rfl rfl 1 (by decide) (hts _ wd_X6_known_5) (fun _ h9 => h9) rfl dX6_known_51 ?_
        refine lv_iload hx hb dX6_known_54 (lv_at hl 0 rfl) ?_
        refine va_iald hx hb hK hP 1 0 rfl rfl (show ¬ ((8 : Int32) < 0 ∨ 11 ≤ (8 : Int32).toNatClampNeg) by decide) dX6_known_56 ?_
        refine lv_topi (fun z_28 ez_28 => ?_)
        obtain rfl : z_28 = 0 := ez_28
        refine lv_iadd hx hb dX6_known_57 ?_
        refine lv_topi (fun z_29 ez_29 => ?_)
        obtain rfl : z_29 = 0 := ez_29.trans (by decide)
        refine lv_istore_n (lv' := [(3, .int 0), (4, .int 8), (0, .ref m0), (1, .int p0), (2, .int p1)]) hx hb dX6_known_58 rfl hl (by decide) rfl (fun ls hl => ?_)
        refine lv_iinc (v := 9) (lv' := [(4, .int 9), (3, .int 0), (0, .ref m0), (1, .int p0), (2, .int p1)]) hx hb dX6_known_59 hl (k := 1) rfl (by decide) (by decide) rfl (fun ls hl => ?_)
        refine lv_goto (tgt := 42) hx hb dX6_known_62 (by decide) ?_
        refine lv_iload hx hb dX6_known_42 (lv_at hl 0 rfl) ?_
        refine lv_bipush (v := 11) hx hb dX6_known_44 (by decide) ?_
        refine lv_icmp_ge (tgt := 65) hx hb dX6_known_46 (by decide) (fun c46_30 => ?_) (fun c46_30 => ?_)
        · exact absurd c46_30 (by decide)
        refine lv_iload_n hx hb dX6_known_49 rfl (lv_at hl 1 rfl) ?_
        refine lv_aload_n hx hb dX6_known_50 rfl (lv_at hl 2 rfl) ?_
        refine va_get (D := D) (ci := 6) (v := .ref mf) (C := RX6) (T := TX6) (N := 39) hx hb hts in_X6_known_X6 hown hK hP 0 rfl rfl 1 (by decide) (hts _ wd_X6_known_5) (fun _ h9 => h9) rfl dX6_known_51 ?_
        refine lv_iload hx hb dX6_known_54 (lv_at hl 0 rfl) ?_
        refine va_iald hx hb hK hP 1 0 rfl rfl (show ¬ ((9 : Int32) < 0 ∨ 11 ≤ (9 : Int32).toNatClampNeg) by decide) dX6_known_56 ?_
        refine lv_topi (fun z_31 ez_31 => ?_)
        obtain rfl : z_31 = 0 := ez_31
        refine lv_iadd hx hb dX6_known_57 ?_
        refine lv_topi (fun z_32 ez_32 => ?_)
        obtain rfl : z_32 = 0 := ez_32.trans (by decide)
        refine lv_istore_n (lv' := [(3, .int 0), (4, .int 9), (0, .ref m0), (1, .int p0), (2, .int p1)]) hx hb dX6_known_58 rfl hl (by decide) rfl (fun ls hl => ?_)
        refine lv_iinc (v := 10) (lv' := [(4, .int 10), (3, .int 0), (0, .ref m0), (1, .int p0), (2, .int p1)]) hx hb dX6_known_59 hl (k := 1) rfl (by decide) (by decide) rfl (fun ls hl => ?_)
        refine lv_goto (tgt := 42) hx hb dX6_known_62 (by decide) ?_
        refine lv_iload hx hb dX6_known_42 (lv_at hl 0 rfl) ?_
        refine lv_bipush (v := 11) hx hb dX6_known_44 (by decide) ?_
        refine lv_icmp_ge (tgt := 65) hx hb dX6_known_46 (by decide) (fun c46_33 => ?_) (fun c46_33 => ?_)
        · exact absurd c46_33 (by decide)
        refine lv_iload_n hx hb dX6_known_49 rfl (lv_at hl 1 rfl) ?_
        refine lv_aload_n hx hb dX6_known_50 rfl (lv_at hl 2 rfl) ?_
        refine va_get (D := D) (ci := 6) (v := .ref mf) (C := RX6) (T := TX6) (N := 39) hx hb hts in_X6_known_X6 hown hK hP 0 rfl rfl 1 (by decide) (hts _ wd_X6_known_5) (fun _ h9 => h9) rfl dX6_known_51 ?_
        refine lv_iload hx hb dX6_known_54 (lv_at hl 0 rfl) ?_
        refine va_iald hx hb hK hP 1 0 rfl rfl (show ¬ ((10 : Int32) < 0 ∨ 11 ≤ (10 : Int32).toNatClampNeg) by decide) dX6_known_56 ?_
        refine lv_topi (fun z_34 ez_34 => ?_)
        obtain rfl : z_34 = 0 := ez_34
        refine lv_iadd hx hb dX6_known_57 ?_
        refine lv_topi (fun z_35 ez_35 => ?_)
        obtain rfl : z_35 = 0 := ez_35.trans (by decide)
        refine lv_istore_n (lv' := [(3, .int 0), (4, .int 10), (0, .ref m0), (1, .int p0), (2, .int p1)]) hx hb dX6_known_58 rfl hl (by decide) rfl (fun ls hl => ?_)
        refine lv_iinc (v := 11) (lv' := [(4, .int 11), (3, .int 0), (0, .ref m0), (1, .int p0), (2, .int p1)]) hx hb dX6_known_59 hl (k := 1) rfl (by decide) (by decide) rfl (fun ls hl => ?_)
        refine lv_goto (tgt := 42) hx hb dX6_known_62 (by decide) ?_
        refine lv_iload hx hb dX6_known_42 (lv_at hl 0 rfl) ?_
        refine lv_bipush (v := 11) hx hb dX6_known_44 (by decide) ?_
        refine lv_icmp_ge (tgt := 65) hx hb dX6_known_46 (by decide) (fun c46_36 => ?_) (fun c46_36 => ?_)
        · skip
          refine lv_aload_n hx hb dX6_known_65 rfl (lv_at hl 2 rfl) ?_
          have hPc := hP.sub (ws' := [(m0, .inr (6, [.ref ms, .ref mf, .ref mw, .ref mk, .int 0, .ref mh, .int 0, .int 0, .int 21, .int 17, .int 0, .int 1, .int 1, .int 1, .int 3, .long 1, .int 0, .ref q0, .ref q1, .ref q2, .int 0, .ref q3, .ref q4, .ref q5, .ref q6, .ref q7, .int 0, .int 0, .int 0, .int 0, .int 0, .int 0, .int 0, .int 0, .int 0, .ref k0, .ref k1, .ref k2, .ref k3])), (mw, .inl (cI, 11, .inl (fun _ => 0)))]) [0, 2] rfl
          refine vp_callSi (W.runV (As := []) (rest := []) ⟨hx, hb, hml, hown, hts⟩ (c_X6_gone l D cI cJ cQ m0 mw ms mf mk mh q0 q1 q2 q3 q4 q5 q6 q7 k0 k1 k2 k3) (cwV 0 hts gX6_known_X6_gone rfl rfl rfl (by decide +kernel) ⟨Nat.le_of_ble_eq_true rfl, Nat.le_of_ble_eq_true rfl⟩) (rP_preV (ci := 6) (q0 := 0) hPc hK rfl rfl) rfl rfl hl.1 rfl (lv_room (Nat.le_of_ble_eq_true rfl)) dX6_known_66 ⟨Nat.le_of_ble_eq_true rfl, Nat.le_of_ble_eq_true rfl⟩) (fun r_37 hr_37 => ?_)
          subst hr_37
          refine lv_istore (lv' := [(4, .int 0), (3, .int 0), (0, .ref m0), (1, .int p0), (2, .int p1)]) hx hb dX6_known_69 hl (by decide) rfl (fun ls hl => ?_)
          refine lv_iload_n hx hb dX6_known_71 rfl (lv_at hl 1 rfl) ?_
          refine lv_bipush (v := 60) hx hb dX6_known_72 (by decide) ?_
          refine lv_icmp_gt (tgt := 84) hx hb dX6_known_74 (by decide) (fun c74_38 => ?_) (fun c74_38 => ?_)
          · exact absurd c74_38 (by decide)
          refine lv_iload hx hb dX6_known_77 (lv_at hl 0 rfl) ?_
          refine lv_bipush (v := 8) hx hb dX6_known_79 (by decide) ?_
          refine lv_icmp_le (tgt := 88) hx hb dX6_known_81 (by decide) (fun c81_39 => ?_) (fun c81_39 => ?_)
          · skip
            refine lv_iconst (v := 0) hx hb dX6_known_88 (by decide) ?_
            refine lv_istore (lv' := [(5, .int 0), (4, .int 0), (3, .int 0), (0, .ref m0), (1, .int p0), (2, .int p1)]) hx hb dX6_known_89 hl (by decide) rfl (fun ls hl => ?_)
            refine lpK hx hb hml hown hts hK m0 ms mf mw mk mh q0 q1 q2 q3 q4 q5 q6 q7 k0 k1 k2 k3 p0 p1 (fun _ => 0) (fun _ => 0) 549 0 (fun _ => 0) (fun _ => 0) _ _ _ (by decide) (fun j hj => absurd hj (Nat.not_lt_zero j)) (fun j hj => absurd hj (Nat.not_lt_zero j)) hP hD hS (lv_sub hl [0, 1, 2, 3, 4, 5] rfl) (fun g1_40 g2_41 H locs ls hz_42 hz_43 hP hD hS hl => ?_)
            refine lv_aload_n hx hb dX6_known_121 rfl (lv_at hl 3 rfl) ?_
            refine va_get (D := D) (ci := 6) (v := .ref k0) (C := RX6) (T := TX6) (N := 39) hx hb hts in_X6_known_X6 hown hK hP 0 rfl rfl 35 (by decide) (hts _ wd_X6_known_0) (fun _ h9 => h9) rfl dX6_known_122 ?_
            refine lv_bipush (v := 30) hx hb dX6_known_125 (by decide) ?_
            refine lv_lconst (v := 1) hx hb dX6_known_127 (by decide) ?_
            refine va_last hx hb hK hP hD hS 4 1 rfl rfl (show ¬ ((30 : Int32) < 0 ∨ 549 ≤ (30 : Int32).toNatClampNeg) by decide) dX6_known_128 (fun H locs hP hD hS => ?_)
            have hP : va_P D vwCl [(m0, .inr (6, [.ref ms, .ref mf, .ref mw, .ref mk, .int 0, .ref mh, .int 0, .int 0, .int 21, .int 17, .int 0, .int 1, .int 1, .int 1, .int 3, .long 1, .int 0, .ref q0, .ref q1, .ref q2, .int 0, .ref q3, .ref q4, .ref q5, .ref q6, .ref q7, .int 0, .int 0, .int 0, .int 0, .int 0, .int 0, .int 0, .int 0, .int 0, .ref k0, .ref k1, .ref k2, .ref k3])), (mf, .inl (cI, 11, .inl (fun _ => 0))), (mw, .inl (cI, 11, .inl (fun _ => 0))), (mk, .inl (cI, 11, .inl (fun _ => 0))), (k0, .inl (cJ, 549, .inr (.inl (vp_updL g1_40 (30 : Int32).toNatClampNeg 1)))), (k1, .inl (cJ, 549, .inr (.inl g2_41))), (k2, .inl (cJ, 549, .inr (.inl (fun _ => 0)))), (k3, .inl (cJ, 549, .inr (.inl (fun _ => 0))))] H := hP
            have hD : va_D A [(m0, .inr (6, [.ref ms, .ref mf, .ref mw, .ref mk, .int 0, .ref mh, .int 0, .int 0, .int 21, .int 17, .int 0, .int 1, .int 1, .int 1, .int 3, .long 1, .int 0, .ref q0, .ref q1, .ref q2, .int 0, .ref q3, .ref q4, .ref q5, .ref q6, .ref q7, .int 0, .int 0, .int 0, .int 0, .int 0, .int 0, .int 0, .int 0, .int 0, .ref k0, .ref k1, .ref k2, .ref k3])), (mf, .inl (cI, 11, .inl (fun _ => 0))), (mw, .inl (cI, 11, .inl (fun _ => 0))), (mk, .inl (cI, 11, .inl (fun _ => 0))), (k0, .inl (cJ, 549, .inr (.inl (vp_updL g1_40 (30 : Int32).toNatClampNeg 1)))), (k1, .inl (cJ, 549, .inr (.inl g2_41))), (k2, .inl (cJ, 549, .inr (.inl (fun _ => 0)))), (k3, .inl (cJ, 549, .inr (.inl (fun _ => 0))))] := hD
            refine lv_iconst (v := 1) hx hb dX6_known_129 (by decide) ?_
            refine lv_istore (lv' := [(5, .int 1), (4, .int 0), (3, .int 0), (0, .ref m0), (1, .int p0), (2, .int p1)]) hx hb dX6_known_130 hl (by decide) rfl (fun ls hl => ?_)
            refine lv_iload hx hb dX6_known_132 (lv_at hl 0 rfl) ?_
            refine lv_bipush (v := 11) hx hb dX6_known_134 (by decide) ?_
            refine lv_icmp_ge (tgt := 154) hx hb dX6_known_136 (by decide) (fun c136_44 => ?_) (fun c136_44 => ?_)
            · exact absurd c136_44 (by decide)
            refine lv_aload_n hx hb dX6_known_139 rfl (lv_at hl 3 rfl) ?_
            refine lv_iload hx hb dX6_known_140 (lv_at hl 0 rfl) ?_
            refine lv_iload_n hx hb dX6_known_142 rfl (lv_at hl 4 rfl) ?_
            refine lv_iload hx hb dX6_known_143 (lv_at hl 1 rfl) ?_
            have hPc := hP.sub (ws' := [(m0, .inr (6, [.ref ms, .ref mf, .ref mw, .ref mk, .int 0, .ref mh, .int 0, .int 0, .int 21, .int 17, .int 0, .int 1, .int 1, .int 1, .int 3, .long 1, .int 0, .ref q0, .ref q1, .ref q2, .int 0, .ref q3, .ref q4, .ref q5, .ref q6, .ref q7, .int 0, .int 0, .int 0, .int 0, .int 0, .int 0, .int 0, .int 0, .int 0, .ref k0, .ref k1, .ref k2, .ref k3])), (mf, .inl (cI, 11, .inl (fun _ => 0))), (mk, .inl (cI, 11, .inl (fun _ => 0))), (k0, .inl (cJ, 549, .inr (.inl (vp_updL g1_40 (30 : Int32).toNatClampNeg 1)))), (k1, .inl (cJ, 549, .inr (.inl g2_41))), (k2, .inl (cJ, 549, .inr (.inl (fun _ => 0)))), (k3, .inl (cJ, 549, .inr (.inl (fun _ => 0))))]) [0, 1, 3, 4, 5, 6, 7] rfl
            have hDc := hD.sub (ws' := [(m0, .inr (6, [.ref ms, .ref mf, .ref mw, .ref mk, .int 0, .ref mh, .int 0, .int 0, .int 21, .int 17, .int 0, .int 1, .int 1, .int 1, .int 3, .long 1, .int 0, .ref q0, .ref q1, .ref q2, .int 0, .ref q3, .ref q4, .ref q5, .ref q6, .ref q7, .int 0, .int 0, .int 0, .int 0, .int 0, .int 0, .int 0, .int 0, .int 0, .ref k0, .ref k1, .ref k2, .ref k3])), (mf, .inl (cI, 11, .inl (fun _ => 0))), (mk, .inl (cI, 11, .inl (fun _ => 0))), (k0, .inl (cJ, 549, .inr (.inl (vp_updL g1_40 (30 : Int32).toNatClampNeg 1)))), (k1, .inl (cJ, 549, .inr (.inl g2_41))), (k2, .inl (cJ, 549, .inr (.inl (fun _ => 0)))), (k3, .inl (cJ, 549, .inr (.inl (fun _ => 0))))]) [0, 1, 3, 4, 5, 6, 7] (by decide) rfl
            have hFc := va_free (wc := [(m0, .inr (6, [.ref ms, .ref mf, .ref mw, .ref mk, .int 0, .ref mh, .int 0, .int 0, .int 21, .int 17, .int 0, .int 1, .int 1, .int 1, .int 3, .long 1, .int 0, .ref q0, .ref q1, .ref q2, .int 0, .ref q3, .ref q4, .ref q5, .ref q6, .ref q7, .int 0, .int 0, .int 0, .int 0, .int 0, .int 0, .int 0, .int 0, .int 0, .ref k0, .ref k1, .ref k2, .ref k3])), (mf, .inl (cI, 11, .inl (fun _ => 0))), (mk, .inl (cI, 11, .inl (fun _ => 0))), (k0, .inl (cJ, 549, .inr (.inl (vp_updL g1_40 (30 : Int32).toNatClampNeg 1)))), (k1, .inl (cJ, 549, .inr (.inl g2_41))), (k2, .inl (cJ, 549, .inr (.inl (fun _ => 0)))), (k3, .inl (cJ, 549, .inr (.inl (fun _ => 0))))]) hD hS hA [0, 1, 3, 4, 5, 6, 7] rfl
            refine va_callv (va_runV (As := [.int 1, .int p0, .int 0]) (rest := []) ⟨hx, hb, hml, hown, hts⟩ (c_X6_addRank l D cI cJ cQ _ m0 ms mf mw mk mh q0 q1 q2 q3 q4 q5 q6 q7 k0 k1 k2 k3 (vp_updL g1_40 (30 : Int32).toNatClampNeg 1) (g2_41) (fun _ => 0) (fun _ => 0) 1 p0 (show ¬ ((1 : Int32) < 0 ∨ 11 ≤ (1 : Int32).toNatClampNeg) by decide) (e30_of hz_42) hz_43) (cwV 3 hts gX6_known_X6_addRank rfl rfl rfl (by decide +kernel) ⟨Nat.le_of_ble_eq_true rfl, Nat.le_of_ble_eq_true rfl⟩) (mP_preV (ci := 6) (q0 := 0) hPc hK hDc rfl rfl) rfl rfl hl.1 rfl (lv_room (Nat.le_of_ble_eq_true rfl)) dX6_known_145 ⟨Nat.le_of_ble_eq_true rfl, Nat.le_of_ble_eq_true rfl⟩) hS (fun q _ h => hFc q h) hFc (fun u_r_45 t H1 locs ht hvm hr_45 hB hz1 hk1 hS => ?_)
            obtain ⟨a2_46, b2_47, c2_48, d2_49⟩ := u_r_45
            obtain ⟨hP1, hK1, hD1⟩ := hB
            rw [ht] at hP1
            try dsimp only at hr_45
            obtain ⟨hP, hD⟩ := va_join (wr := [(mw, .inl (cI, 11, .inl (fun _ => 0)))]) (w1 := [(m0, .inr (6, [.ref ms, .ref mf, .ref mw, .ref mk, .int 0, .ref mh, .int 0, .int 0, .int 21, .int 17, .int 0, .int 1, .int 1, .int 1, .int 3, .long 1, .int 0, .ref q0, .ref q1, .ref q2, .int 0, .ref q3, .ref q4, .ref q5, .ref q6, .ref q7, .int 0, .int 0, .int 0, .int 0, .int 0, .int 0, .int 0, .int 0, .int 0, .ref k0, .ref k1, .ref k2, .ref k3])), (mf, .inl (cI, 11, .inl (fun _ => 0))), (mk, .inl (cI, 11, .inl (fun _ => 0))), (k0, .inl (cJ, 549, .inr (.inl a2_46))), (k1, .inl (cJ, 549, .inr (.inl b2_47))), (k2, .inl (cJ, 549, .inr (.inl c2_48))), (k3, .inl (cJ, 549, .inr (.inl d2_49)))]) hP hD [0, 1, 3, 4, 5, 6, 7] [2] rfl rfl (by decide) (by decide) hk1 hFc hP1 hD1
            generalize H1 = H at hP hS ⊢
            have hP : va_P D vwCl [(mw, .inl (cI, 11, .inl (fun _ => 0))), (m0, .inr (6, [.ref ms, .ref mf, .ref mw, .ref mk, .int 0, .ref mh, .int 0, .int 0, .int 21, .int 17, .int 0, .int 1, .int 1, .int 1, .int 3, .long 1, .int 0, .ref q0, .ref q1, .ref q2, .int 0, .ref q3, .ref q4, .ref q5, .ref q6, .ref q7, .int 0, .int 0, .int 0, .int 0, .int 0, .int 0, .int 0, .int 0, .int 0, .ref k0, .ref k1, .ref k2, .ref k3])), (mf, .inl (cI, 11, .inl (fun _ => 0))), (mk, .inl (cI, 11, .inl (fun _ => 0))), (k0, .inl (cJ, 549, .inr (.inl a2_46))), (k1, .inl (cJ, 549, .inr (.inl b2_47))), (k2, .inl (cJ, 549, .inr (.inl c2_48))), (k3, .inl (cJ, 549, .inr (.inl d2_49)))] H := hP
            have hD : va_D A [(mw, .inl (cI, 11, .inl (fun _ => 0))), (m0, .inr (6, [.ref ms, .ref mf, .ref mw, .ref mk, .int 0, .ref mh, .int 0, .int 0, .int 21, .int 17, .int 0, .int 1, .int 1, .int 1, .int 3, .long 1, .int 0, .ref q0, .ref q1, .ref q2, .int 0, .ref q3, .ref q4, .ref q5, .ref q6, .ref q7, .int 0, .int 0, .int 0, .int 0, .int 0, .int 0, .int 0, .int 0, .int 0, .ref k0, .ref k1, .ref k2, .ref k3])), (mf, .inl (cI, 11, .inl (fun _ => 0))), (mk, .inl (cI, 11, .inl (fun _ => 0))), (k0, .inl (cJ, 549, .inr (.inl a2_46))), (k1, .inl (cJ, 549, .inr (.inl b2_47))), (k2, .inl (cJ, 549, .inr (.inl c2_48))), (k3, .inl (cJ, 549, .inr (.inl d2_49)))] := hD
            refine lv_iinc (v := 2) (lv' := [(5, .int 2), (4, .int 0), (3, .int 0), (0, .ref m0), (1, .int p0), (2, .int p1)]) hx hb dX6_known_148 hl (k := 0) rfl (by decide) (by decide) rfl (fun ls hl => ?_)
            refine lv_goto (tgt := 132) hx hb dX6_known_151 (by decide) ?_
            refine lv_iload hx hb dX6_known_132 (lv_at hl 0 rfl) ?_
            refine lv_bipush (v := 11) hx hb dX6_known_134 (by decide) ?_
            refine lv_icmp_ge (tgt := 154) hx hb dX6_known_136 (by decide) (fun c136_50 => ?_) (fun c136_50 => ?_)
            · exact absurd c136_50 (by decide)
            refine lv_aload_n hx hb dX6_known_139 rfl (lv_at hl 3 rfl) ?_
            refine lv_iload hx hb dX6_known_140 (lv_at hl 0 rfl) ?_
            refine lv_iload_n hx hb dX6_known_142 rfl (lv_at hl 4 rfl) ?_
            refine lv_iload hx hb dX6_known_143 (lv_at hl 1 rfl) ?_
            have hPc := hP.sub (ws' := [(m0, .inr (6, [.ref ms, .ref mf, .ref mw, .ref mk, .int 0, .ref mh, .int 0, .int 0, .int 21, .int 17, .int 0, .int 1, .int 1, .int 1, .int 3, .long 1, .int 0, .ref q0, .ref q1, .ref q2, .int 0, .ref q3, .ref q4, .ref q5, .ref q6, .ref q7, .int 0, .int 0, .int 0, .int 0, .int 0, .int 0, .int 0, .int 0, .int 0, .ref k0, .ref k1, .ref k2, .ref k3])), (mf, .inl (cI, 11, .inl (fun _ => 0))), (mk, .inl (cI, 11, .inl (fun _ => 0))), (k0, .inl (cJ, 549, .inr (.inl a2_46))), (k1, .inl (cJ, 549, .inr (.inl b2_47))), (k2, .inl (cJ, 549, .inr (.inl c2_48))), (k3, .inl (cJ, 549, .inr (.inl d2_49)))]) [1, 2, 3, 4, 5, 6, 7] rfl
            have hDc := hD.sub (ws' := [(m0, .inr (6, [.ref ms, .ref mf, .ref mw, .ref mk, .int 0, .ref mh, .int 0, .int 0, .int 21, .int 17, .int 0, .int 1, .int 1, .int 1, .int 3, .long 1, .int 0, .ref q0, .ref q1, .ref q2, .int 0, .ref q3, .ref q4, .ref q5, .ref q6, .ref q7, .int 0, .int 0, .int 0, .int 0, .int 0, .int 0, .int 0, .int 0, .int 0, .ref k0, .ref k1, .ref k2, .ref k3])), (mf, .inl (cI, 11, .inl (fun _ => 0))), (mk, .inl (cI, 11, .inl (fun _ => 0))), (k0, .inl (cJ, 549, .inr (.inl a2_46))), (k1, .inl (cJ, 549, .inr (.inl b2_47))), (k2, .inl (cJ, 549, .inr (.inl c2_48))), (k3, .inl (cJ, 549, .inr (.inl d2_49)))]) [1, 2, 3, 4, 5, 6, 7] (by decide) rfl
            have hFc := va_free (wc := [(m0, .inr (6, [.ref ms, .ref mf, .ref mw, .ref mk, .int 0, .ref mh, .int 0, .int 0, .int 21, .int 17, .int 0, .int 1, .int 1, .int 1, .int 3, .long 1, .int 0, .ref q0, .ref q1, .ref q2, .int 0, .ref q3, .ref q4, .ref q5, .ref q6, .ref q7, .int 0, .int 0, .int 0, .int 0, .int 0, .int 0, .int 0, .int 0, .int 0, .ref k0, .ref k1, .ref k2, .ref k3])), (mf, .inl (cI, 11, .inl (fun _ => 0))), (mk, .inl (cI, 11, .inl (fun _ => 0))), (k0, .inl (cJ, 549, .inr (.inl a2_46))), (k1, .inl (cJ, 549, .inr (.inl b2_47))), (k2, .inl (cJ, 549, .inr (.inl c2_48))), (k3, .inl (cJ, 549, .inr (.inl d2_49)))]) hD hS hA [1, 2, 3, 4, 5, 6, 7] rfl
            refine va_callv (va_runV (As := [.int 2, .int p0, .int 0]) (rest := []) ⟨hx, hb, hml, hown, hts⟩ (c_X6_addRank l D cI cJ cQ _ m0 ms mf mw mk mh q0 q1 q2 q3 q4 q5 q6 q7 k0 k1 k2 k3 (a2_46) (b2_47) (c2_48) (d2_49) 2 p0 (show ¬ ((2 : Int32) < 0 ∨ 11 ≤ (2 : Int32).toNatClampNeg) by decide) hr_45.1 hr_45.2) (cwV 3 hts gX6_known_X6_addRank rfl rfl rfl (by decide +kernel) ⟨Nat.le_of_ble_eq_true rfl, Nat.le_of_ble_eq_true rfl⟩) (mP_preV (ci := 6) (q0 := 0) hPc hK hDc rfl rfl) rfl rfl hl.1 rfl (lv_room (Nat.le_of_ble_eq_true rfl)) dX6_known_145 ⟨Nat.le_of_ble_eq_true rfl, Nat.le_of_ble_eq_true rfl⟩) hS (fun q _ h => hFc q h) hFc (fun u_r_51 t H1 locs ht hvm hr_51 hB hz1 hk1 hS => ?_)
            obtain ⟨a2_52, b2_53, c2_54, d2_55⟩ := u_r_51
            obtain ⟨hP1, hK1, hD1⟩ := hB
            rw [ht] at hP1
            try dsimp only at hr_51
            obtain ⟨hP, hD⟩ := va_join (wr := [(mw, .inl (cI, 11, .inl (fun _ => 0)))]) (w1 := [(m0, .inr (6, [.ref ms, .ref mf, .ref mw, .ref mk, .int 0, .ref mh, .int 0, .int 0, .int 21, .int 17, .int 0, .int 1, .int 1, .int 1, .int 3, .long 1, .int 0, .ref q0, .ref q1, .ref q2, .int 0, .ref q3, .ref q4, .ref q5, .ref q6, .ref q7, .int 0, .int 0, .int 0, .int 0, .int 0, .int 0, .int 0, .int 0, .int 0, .ref k0, .ref k1, .ref k2, .ref k3])), (mf, .inl (cI, 11, .inl (fun _ => 0))), (mk, .inl (cI, 11, .inl (fun _ => 0))), (k0, .inl (cJ, 549, .inr (.inl a2_52))), (k1, .inl (cJ, 549, .inr (.inl b2_53))), (k2, .inl (cJ, 549, .inr (.inl c2_54))), (k3, .inl (cJ, 549, .inr (.inl d2_55)))]) hP hD [1, 2, 3, 4, 5, 6, 7] [0] rfl rfl (by decide) (by decide) hk1 hFc hP1 hD1
            generalize H1 = H at hP hS ⊢
            have hP : va_P D vwCl [(mw, .inl (cI, 11, .inl (fun _ => 0))), (m0, .inr (6, [.ref ms, .ref mf, .ref mw, .ref mk, .int 0, .ref mh, .int 0, .int 0, .int 21, .int 17, .int 0, .int 1, .int 1, .int 1, .int 3, .long 1, .int 0, .ref q0, .ref q1, .ref q2, .int 0, .ref q3, .ref q4, .ref q5, .ref q6, .ref q7, .int 0, .int 0, .int 0, .int 0, .int 0, .int 0, .int 0, .int 0, .int 0, .ref k0, .ref k1, .ref k2, .ref k3])), (mf, .inl (cI, 11, .inl (fun _ => 0))), (mk, .inl (cI, 11, .inl (fun _ => 0))), (k0, .inl (cJ, 549, .inr (.inl a2_52))), (k1, .inl (cJ, 549, .inr (.inl b2_53))), (k2, .inl (cJ, 549, .inr (.inl c2_54))), (k3, .inl (cJ, 549, .inr (.inl d2_55)))] H := hP
            have hD : va_D A [(mw, .inl (cI, 11, .inl (fun _ => 0))), (m0, .inr (6, [.ref ms, .ref mf, .ref mw, .ref mk, .int 0, .ref mh, .int 0, .int 0, .int 21, .int 17, .int 0, .int 1, .int 1, .int 1, .int 3, .long 1, .int 0, .ref q0, .ref q1, .ref q2, .int 0, .ref q3, .ref q4, .ref q5, .ref q6, .ref q7, .int 0, .int 0, .int 0, .int 0, .int 0, .int 0, .int 0, .int 0, .int 0, .ref k0, .ref k1, .ref k2, .ref k3])), (mf, .inl (cI, 11, .inl (fun _ => 0))), (mk, .inl (cI, 11, .inl (fun _ => 0))), (k0, .inl (cJ, 549, .inr (.inl a2_52))), (k1, .inl (cJ, 549, .inr (.inl b2_53))), (k2, .inl (cJ, 549, .inr (.inl c2_54))), (k3, .inl (cJ, 549, .inr (.inl d2_55)))] := hD
            refine lv_iinc (v := 3) (lv' := [(5, .int 3), (4, .int 0), (3, .int 0), (0, .ref m0), (1, .int p0), (2, .int p1)]) hx hb dX6_known_148 hl (k := 0) rfl (by decide) (by decide) rfl (fun ls hl => ?_)
            refine lv_goto (tgt := 132) hx hb dX6_known_151 (by decide) ?_
            refine lv_iload hx hb dX6_known_132 (lv_at hl 0 rfl) ?_
            refine lv_bipush (v := 11) hx hb dX6_known_134 (by decide) ?_
            refine lv_icmp_ge (tgt := 154) hx hb dX6_known_136 (by decide) (fun c136_56 => ?_) (fun c136_56 => ?_)
            · exact absurd c136_56 (by decide)
            refine lv_aload_n hx hb dX6_known_139 rfl (lv_at hl 3 rfl) ?_
            refine lv_iload hx hb dX6_known_140 (lv_at hl 0 rfl) ?_
            refine lv_iload_n hx hb dX6_known_142 rfl (lv_at hl 4 rfl) ?_
            refine lv_iload hx hb dX6_known_143 (lv_at hl 1 rfl) ?_
            have hPc := hP.sub (ws' := [(m0, .inr (6, [.ref ms, .ref mf, .ref mw, .ref mk, .int 0, .ref mh, .int 0, .int 0, .int 21, .int 17, .int 0, .int 1, .int 1, .int 1, .int 3, .long 1, .int 0, .ref q0, .ref q1, .ref q2, .int 0, .ref q3, .ref q4, .ref q5, .ref q6, .ref q7, .int 0, .int 0, .int 0, .int 0, .int 0, .int 0, .int 0, .int 0, .int 0, .ref k0, .ref k1, .ref k2, .ref k3])), (mf, .inl (cI, 11, .inl (fun _ => 0))), (mk, .inl (cI, 11, .inl (fun _ => 0))), (k0, .inl (cJ, 549, .inr (.inl a2_52))), (k1, .inl (cJ, 549, .inr (.inl b2_53))), (k2, .inl (cJ, 549, .inr (.inl c2_54))), (k3, .inl (cJ, 549, .inr (.inl d2_55)))]) [1, 2, 3, 4, 5, 6, 7] rfl
            have hDc := hD.sub (ws' := [(m0, .inr (6, [.ref ms, .ref mf, .ref mw, .ref mk, .int 0, .ref mh, .int 0, .int 0, .int 21, .int 17, .int 0, .int 1, .int 1, .int 1, .int 3, .long 1, .int 0, .ref q0, .ref q1, .ref q2, .int 0, .ref q3, .ref q4, .ref q5, .ref q6, .ref q7, .int 0, .int 0, .int 0, .int 0, .int 0, .int 0, .int 0, .int 0, .int 0, .ref k0, .ref k1, .ref k2, .ref k3])), (mf, .inl (cI, 11, .inl (fun _ => 0))), (mk, .inl (cI, 11, .inl (fun _ => 0))), (k0, .inl (cJ, 549, .inr (.inl a2_52))), (k1, .inl (cJ, 549, .inr (.inl b2_53))), (k2, .inl (cJ, 549, .inr (.inl c2_54))), (k3, .inl (cJ, 549, .inr (.inl d2_55)))]) [1, 2, 3, 4, 5, 6, 7] (by decide) rfl
            have hFc := va_free (wc := [(m0, .inr (6, [.ref ms, .ref mf, .ref mw, .ref mk, .int 0, .ref mh, .int 0, .int 0, .int 21, .int 17, .int 0, .int 1, .int 1, .int 1, .int 3, .long 1, .int 0, .ref q0, .ref q1, .ref q2, .int 0, .ref q3, .ref q4, .ref q5, .ref q6, .ref q7, .int 0, .int 0, .int 0, .int 0, .int 0, .int 0, .int 0, .int 0, .int 0, .ref k0, .ref k1, .ref k2, .ref k3])), (mf, .inl (cI, 11, .inl (fun _ => 0))), (mk, .inl (cI, 11, .inl (fun _ => 0))), (k0, .inl (cJ, 549, .inr (.inl a2_52))), (k1, .inl (cJ, 549, .inr (.inl b2_53))), (k2, .inl (cJ, 549, .inr (.inl c2_54))), (k3, .inl (cJ, 549, .inr (.inl d2_55)))]) hD hS hA [1, 2, 3, 4, 5, 6, 7] rfl
            refine va_callv (va_runV (As := [.int 3, .int p0, .int 0]) (rest := []) ⟨hx, hb, hml, hown, hts⟩ (c_X6_addRank l D cI cJ cQ _ m0 ms mf mw mk mh q0 q1 q2 q3 q4 q5 q6 q7 k0 k1 k2 k3 (a2_52) (b2_53) (c2_54) (d2_55) 3 p0 (show ¬ ((3 : Int32) < 0 ∨ 11 ≤ (3 : Int32).toNatClampNeg) by decide) hr_51.1 hr_51.2) (cwV 3 hts gX6_known_X6_addRank rfl rfl rfl (by decide +kernel) ⟨Nat.le_of_ble_eq_true rfl, Nat.le_of_ble_eq_true rfl⟩) (mP_preV (ci := 6) (q0 := 0) hPc hK hDc rfl rfl) rfl rfl hl.1 rfl (lv_room (Nat.le_of_ble_eq_true rfl)) dX6_known_145 ⟨Nat.le_of_ble_eq_true rfl, Nat.le_of_ble_eq_true rfl⟩) hS (fun q _ h => hFc q h) hFc (fun u_r_57 t H1 locs ht hvm hr_57 hB hz1 hk1 hS => ?_)
            obtain ⟨a2_58, b2_59, c2_60, d2_61⟩ := u_r_57
            obtain ⟨hP1, hK1, hD1⟩ := hB
            rw [ht] at hP1
            try dsimp only at hr_57
            obtain ⟨hP, hD⟩ := va_join (wr := [(mw, .inl (cI, 11, .inl (fun _ => 0)))]) (w1 := [(m0, .inr (6, [.ref ms, .ref mf, .ref mw, .ref mk, .int 0, .ref mh, .int 0, .int 0, .int 21, .int 17, .int 0, .int 1, .int 1, .int 1, .int 3, .long 1, .int 0, .ref q0, .ref q1, .ref q2, .int 0, .ref q3, .ref q4, .ref q5, .ref q6, .ref q7, .int 0, .int 0, .int 0, .int 0, .int 0, .int 0, .int 0, .int 0, .int 0, .ref k0, .ref k1, .ref k2, .ref k3])), (mf, .inl (cI, 11, .inl (fun _ => 0))), (mk, .inl (cI, 11, .inl (fun _ => 0))), (k0, .inl (cJ, 549, .inr (.inl a2_58))), (k1, .inl (cJ, 549, .inr (.inl b2_59))), (k2, .inl (cJ, 549, .inr (.inl c2_60))), (k3, .inl (cJ, 549, .inr (.inl d2_61)))]) hP hD [1, 2, 3, 4, 5, 6, 7] [0] rfl rfl (by decide) (by decide) hk1 hFc hP1 hD1
            generalize H1 = H at hP hS ⊢
            have hP : va_P D vwCl [(mw, .inl (cI, 11, .inl (fun _ => 0))), (m0, .inr (6, [.ref ms, .ref mf, .ref mw, .ref mk, .int 0, .ref mh, .int 0, .int 0, .int 21, .int 17, .int 0, .int 1, .int 1, .int 1, .int 3, .long 1, .int 0, .ref q0, .ref q1, .ref q2, .int 0, .ref q3, .ref q4, .ref q5, .ref q6, .ref q7, .int 0, .int 0, .int 0, .int 0, .int 0, .int 0, .int 0, .int 0, .int 0, .ref k0, .ref k1, .ref k2, .ref k3])), (mf, .inl (cI, 11, .inl (fun _ => 0))), (mk, .inl (cI, 11, .inl (fun _ => 0))), (k0, .inl (cJ, 549, .inr (.inl a2_58))), (k1, .inl (cJ, 549, .inr (.inl b2_59))), (k2, .inl (cJ, 549, .inr (.inl c2_60))), (k3, .inl (cJ, 549, .inr (.inl d2_61)))] H := hP
            have hD : va_D A [(mw, .inl (cI, 11, .inl (fun _ => 0))), (m0, .inr (6, [.ref ms, .ref mf, .ref mw, .ref mk, .int 0, .ref mh, .int 0, .int 0, .int 21, .int 17, .int 0, .int 1, .int 1, .int 1, .int 3, .long 1, .int 0, .ref q0, .ref q1, .ref q2, .int 0, .ref q3, .ref q4, .ref q5, .ref q6, .ref q7, .int 0, .int 0, .int 0, .int 0, .int 0, .int 0, .int 0, .int 0, .int 0, .ref k0, .ref k1, .ref k2, .ref k3])), (mf, .inl (cI, 11, .inl (fun _ => 0))), (mk, .inl (cI, 11, .inl (fun _ => 0))), (k0, .inl (cJ, 549, .inr (.inl a2_58))), (k1, .inl (cJ, 549, .inr (.inl b2_59))), (k2, .inl (cJ, 549, .inr (.inl c2_60))), (k3, .inl (cJ, 549, .inr (.inl d2_61)))] := hD
            refine lv_iinc (v := 4) (lv' := [(5, .int 4), (4, .int 0), (3, .int 0), (0, .ref m0), (1, .int p0), (2, .int p1)]) hx hb dX6_known_148 hl (k := 0) rfl (by decide) (by decide) rfl (fun ls hl => ?_)
            refine lv_goto (tgt := 132) hx hb dX6_known_151 (by decide) ?_
            refine lv_iload hx hb dX6_known_132 (lv_at hl 0 rfl) ?_
            refine lv_bipush (v := 11) hx hb dX6_known_134 (by decide) ?_
            refine lv_icmp_ge (tgt := 154) hx hb dX6_known_136 (by decide) (fun c136_62 => ?_) (fun c136_62 => ?_)
            · exact absurd c136_62 (by decide)
            refine lv_aload_n hx hb dX6_known_139 rfl (lv_at hl 3 rfl) ?_
            refine lv_iload hx hb dX6_known_140 (lv_at hl 0 rfl) ?_
            refine lv_iload_n hx hb dX6_known_142 rfl (lv_at hl 4 rfl) ?_
            refine lv_iload hx hb dX6_known_143 (lv_at hl 1 rfl) ?_
            have hPc := hP.sub (ws' := [(m0, .inr (6, [.ref ms, .ref mf, .ref mw, .ref mk, .int 0, .ref mh, .int 0, .int 0, .int 21, .int 17, .int 0, .int 1, .int 1, .int 1, .int 3, .long 1, .int 0, .ref q0, .ref q1, .ref q2, .int 0, .ref q3, .ref q4, .ref q5, .ref q6, .ref q7, .int 0, .int 0, .int 0, .int 0, .int 0, .int 0, .int 0, .int 0, .int 0, .ref k0, .ref k1, .ref k2, .ref k3])), (mf, .inl (cI, 11, .inl (fun _ => 0))), (mk, .inl (cI, 11, .inl (fun _ => 0))), (k0, .inl (cJ, 549, .inr (.inl a2_58))), (k1, .inl (cJ, 549, .inr (.inl b2_59))), (k2, .inl (cJ, 549, .inr (.inl c2_60))), (k3, .inl (cJ, 549, .inr (.inl d2_61)))]) [1, 2, 3, 4, 5, 6, 7] rfl
            have hDc := hD.sub (ws' := [(m0, .inr (6, [.ref ms, .ref mf, .ref mw, .ref mk, .int 0, .ref mh, .int 0, .int 0, .int 21, .int 17, .int 0, .int 1, .int 1, .int 1, .int 3, .long 1, .int 0, .ref q0, .ref q1, .ref q2, .int 0, .ref q3, .ref q4, .ref q5, .ref q6, .ref q7, .int 0, .int 0, .int 0, .int 0, .int 0, .int 0, .int 0, .int 0, .int 0, .ref k0, .ref k1, .ref k2, .ref k3])), (mf, .inl (cI, 11, .inl (fun _ => 0))), (mk, .inl (cI, 11, .inl (fun _ => 0))), (k0, .inl (cJ, 549, .inr (.inl a2_58))), (k1, .inl (cJ, 549, .inr (.inl b2_59))), (k2, .inl (cJ, 549, .inr (.inl c2_60))), (k3, .inl (cJ, 549, .inr (.inl d2_61)))]) [1, 2, 3, 4, 5, 6, 7] (by decide) rfl
            have hFc := va_free (wc := [(m0, .inr (6, [.ref ms, .ref mf, .ref mw, .ref mk, .int 0, .ref mh, .int 0, .int 0, .int 21, .int 17, .int 0, .int 1, .int 1, .int 1, .int 3, .long 1, .int 0, .ref q0, .ref q1, .ref q2, .int 0, .ref q3, .ref q4, .ref q5, .ref q6, .ref q7, .int 0, .int 0, .int 0, .int 0, .int 0, .int 0, .int 0, .int 0, .int 0, .ref k0, .ref k1, .ref k2, .ref k3])), (mf, .inl (cI, 11, .inl (fun _ => 0))), (mk, .inl (cI, 11, .inl (fun _ => 0))), (k0, .inl (cJ, 549, .inr (.inl a2_58))), (k1, .inl (cJ, 549, .inr (.inl b2_59))), (k2, .inl (cJ, 549, .inr (.inl c2_60))), (k3, .inl (cJ, 549, .inr (.inl d2_61)))]) hD hS hA [1, 2, 3, 4, 5, 6, 7] rfl
            refine va_callv (va_runV (As := [.int 4, .int p0, .int 0]) (rest := []) ⟨hx, hb, hml, hown, hts⟩ (c_X6_addRank l D cI cJ cQ _ m0 ms mf mw mk mh q0 q1 q2 q3 q4 q5 q6 q7 k0 k1 k2 k3 (a2_58) (b2_59) (c2_60) (d2_61) 4 p0 (show ¬ ((4 : Int32) < 0 ∨ 11 ≤ (4 : Int32).toNatClampNeg) by decide) hr_57.1 hr_57.2) (cwV 3 hts gX6_known_X6_addRank rfl rfl rfl (by decide +kernel) ⟨Nat.le_of_ble_eq_true rfl, Nat.le_of_ble_eq_true rfl⟩) (mP_preV (ci := 6) (q0 := 0) hPc hK hDc rfl rfl) rfl rfl hl.1 rfl (lv_room (Nat.le_of_ble_eq_true rfl)) dX6_known_145 ⟨Nat.le_of_ble_eq_true rfl, Nat.le_of_ble_eq_true rfl⟩) hS (fun q _ h => hFc q h) hFc (fun u_r_63 t H1 locs ht hvm hr_63 hB hz1 hk1 hS => ?_)
            obtain ⟨a2_64, b2_65, c2_66, d2_67⟩ := u_r_63
            obtain ⟨hP1, hK1, hD1⟩ := hB
            rw [ht] at hP1
            try dsimp only at hr_63
            obtain ⟨hP, hD⟩ := va_join (wr := [(mw, .inl (cI, 11, .inl (fun _ => 0)))]) (w1 := [(m0, .inr (6, [.ref ms, .ref mf, .ref mw, .ref mk, .int 0, .ref mh, .int 0, .int 0, .int 21, .int 17, .int 0, .int 1, .int 1, .int 1, .int 3, .long 1, .int 0, .ref q0, .ref q1, .ref q2, .int 0, .ref q3, .ref q4, .ref q5, .ref q6, .ref q7, .int 0, .int 0, .int 0, .int 0, .int 0, .int 0, .int 0, .int 0, .int 0, .ref k0, .ref k1, .ref k2, .ref k3])), (mf, .inl (cI, 11, .inl (fun _ => 0))), (mk, .inl (cI, 11, .inl (fun _ => 0))), (k0, .inl (cJ, 549, .inr (.inl a2_64))), (k1, .inl (cJ, 549, .inr (.inl b2_65))), (k2, .inl (cJ, 549, .inr (.inl c2_66))), (k3, .inl (cJ, 549, .inr (.inl d2_67)))]) hP hD [1, 2, 3, 4, 5, 6, 7] [0] rfl rfl (by decide) (by decide) hk1 hFc hP1 hD1
            generalize H1 = H at hP hS ⊢
            have hP : va_P D vwCl [(mw, .inl (cI, 11, .inl (fun _ => 0))), (m0, .inr (6, [.ref ms, .ref mf, .ref mw, .ref mk, .int 0, .ref mh, .int 0, .int 0, .int 21, .int 17, .int 0, .int 1, .int 1, .int 1, .int 3, .long 1, .int 0, .ref q0, .ref q1, .ref q2, .int 0, .ref q3, .ref q4, .ref q5, .ref q6, .ref q7, .int 0, .int 0, .int 0, .int 0, .int 0, .int 0, .int 0, .int 0, .int 0, .ref k0, .ref k1, .ref k2, .ref k3])), (mf, .inl (cI, 11, .inl (fun _ => 0))), (mk, .inl (cI, 11, .inl (fun _ => 0))), (k0, .inl (cJ, 549, .inr (.inl a2_64))), (k1, .inl (cJ, 549, .inr (.inl b2_65))), (k2, .inl (cJ, 549, .inr (.inl c2_66))), (k3, .inl (cJ, 549, .inr (.inl d2_67)))] H := hP
            have hD : va_D A [(mw, .inl (cI, 11, .inl (fun _ => 0))), (m0, .inr (6, [.ref ms, .ref mf, .ref mw, .ref mk, .int 0, .ref mh, .int 0, .int 0, .int 21, .int 17, .int 0, .int 1, .int 1, .int 1, .int 3, .long 1, .int 0, .ref q0, .ref q1, .ref q2, .int 0, .ref q3, .ref q4, .ref q5, .ref q6, .ref q7, .int 0, .int 0, .int 0, .int 0, .int 0, .int 0, .int 0, .int 0, .int 0, .ref k0, .ref k1, .ref k2, .ref k3])), (mf, .inl (cI, 11, .inl (fun _ => 0))), (mk, .inl (cI, 11, .inl (fun _ => 0))), (k0, .inl (cJ, 549, .inr (.inl a2_64))), (k1, .inl (cJ, 549, .inr (.inl b2_65))), (k2, .inl (cJ, 549, .inr (.inl c2_66))), (k3, .inl (cJ, 549, .inr (.inl d2_67)))] := hD
            refine lv_iinc (v := 5) (lv' := [(5, .int 5), (4, .int 0), (3, .int 0), (0, .ref m0), (1, .int p0), (2, .int p1)]) hx hb dX6_known_148 hl (k := 0) rfl (by decide) (by decide) rfl (fun ls hl => ?_)
            refine lv_goto (tgt := 132) hx hb dX6_known_151 (by decide) ?_
            refine lv_iload hx hb dX6_known_132 (lv_at hl 0 rfl) ?_
            refine lv_bipush (v := 11) hx hb dX6_known_134 (by decide) ?_
            refine lv_icmp_ge (tgt := 154) hx hb dX6_known_136 (by decide) (fun c136_68 => ?_) (fun c136_68 => ?_)
            · exact absurd c136_68 (by decide)
            refine lv_aload_n hx hb dX6_known_139 rfl (lv_at hl 3 rfl) ?_
            refine lv_iload hx hb dX6_known_140 (lv_at hl 0 rfl) ?_
            refine lv_iload_n hx hb dX6_known_142 rfl (lv_at hl 4 rfl) ?_
            refine lv_iload hx hb dX6_known_143 (lv_at hl 1 rfl) ?_
            have hPc := hP.sub (ws' := [(m0, .inr (6, [.ref ms, .ref mf, .ref mw, .ref mk, .int 0, .ref mh, .int 0, .int 0, .int 21, .int 17, .int 0, .int 1, .int 1, .int 1, .int 3, .long 1, .int 0, .ref q0, .ref q1, .ref q2, .int 0, .ref q3, .ref q4, .ref q5, .ref q6, .ref q7, .int 0, .int 0, .int 0, .int 0, .int 0, .int 0, .int 0, .int 0, .int 0, .ref k0, .ref k1, .ref k2, .ref k3])), (mf, .inl (cI, 11, .inl (fun _ => 0))), (mk, .inl (cI, 11, .inl (fun _ => 0))), (k0, .inl (cJ, 549, .inr (.inl a2_64))), (k1, .inl (cJ, 549, .inr (.inl b2_65))), (k2, .inl (cJ, 549, .inr (.inl c2_66))), (k3, .inl (cJ, 549, .inr (.inl d2_67)))]) [1, 2, 3, 4, 5, 6, 7] rfl
            have hDc := hD.sub (ws' := [(m0, .inr (6, [.ref ms, .ref mf, .ref mw, .ref mk, .int 0, .ref mh, .int 0, .int 0, .int 21, .int 17, .int 0, .int 1, .int 1, .int 1, .int 3, .long 1, .int 0, .ref q0, .ref q1, .ref q2, .int 0, .ref q3, .ref q4, .ref q5, .ref q6, .ref q7, .int 0, .int 0, .int 0, .int 0, .int 0, .int 0, .int 0, .int 0, .int 0, .ref k0, .ref k1, .ref k2, .ref k3])), (mf, .inl (cI, 11, .inl (fun _ => 0))), (mk, .inl (cI, 11, .inl (fun _ => 0))), (k0, .inl (cJ, 549, .inr (.inl a2_64))), (k1, .inl (cJ, 549, .inr (.inl b2_65))), (k2, .inl (cJ, 549, .inr (.inl c2_66))), (k3, .inl (cJ, 549, .inr (.inl d2_67)))]) [1, 2, 3, 4, 5, 6, 7] (by decide) rfl
            have hFc := va_free (wc := [(m0, .inr (6, [.ref ms, .ref mf, .ref mw, .ref mk, .int 0, .ref mh, .int 0, .int 0, .int 21, .int 17, .int 0, .int 1, .int 1, .int 1, .int 3, .long 1, .int 0, .ref q0, .ref q1, .ref q2, .int 0, .ref q3, .ref q4, .ref q5, .ref q6, .ref q7, .int 0, .int 0, .int 0, .int 0, .int 0, .int 0, .int 0, .int 0, .int 0, .ref k0, .ref k1, .ref k2, .ref k3])), (mf, .inl (cI, 11, .inl (fun _ => 0))), (mk, .inl (cI, 11, .inl (fun _ => 0))), (k0, .inl (cJ, 549, .inr (.inl a2_64))), (k1, .inl (cJ, 549, .inr (.inl b2_65))), (k2, .inl (cJ, 549, .inr (.inl c2_66))), (k3, .inl (cJ, 549, .inr (.inl d2_67)))]) hD hS hA [1, 2, 3, 4, 5, 6, 7] rfl
            refine va_callv (va_runV (As := [.int 5, .int p0, .int 0]) (rest := []) ⟨hx, hb, hml, hown, hts⟩ (c_X6_addRank l D cI cJ cQ _ m0 ms mf mw mk mh q0 q1 q2 q3 q4 q5 q6 q7 k0 k1 k2 k3 (a2_64) (b2_65) (c2_66) (d2_67) 5 p0 (show ¬ ((5 : Int32) < 0 ∨ 11 ≤ (5 : Int32).toNatClampNeg) by decide) hr_63.1 hr_63.2) (cwV 3 hts gX6_known_X6_addRank rfl rfl rfl (by decide +kernel) ⟨Nat.le_of_ble_eq_true rfl, Nat.le_of_ble_eq_true rfl⟩) (mP_preV (ci := 6) (q0 := 0) hPc hK hDc rfl rfl) rfl rfl hl.1 rfl (lv_room (Nat.le_of_ble_eq_true rfl)) dX6_known_145 ⟨Nat.le_of_ble_eq_true rfl, Nat.le_of_ble_eq_true rfl⟩) hS (fun q _ h => hFc q h) hFc (fun u_r_69 t H1 locs ht hvm hr_69 hB hz1 hk1 hS => ?_)
            obtain ⟨a2_70, b2_71, c2_72, d2_73⟩ := u_r_69
            obtain ⟨hP1, hK1, hD1⟩ := hB
            rw [ht] at hP1
            try dsimp only at hr_69
            obtain ⟨hP, hD⟩ := va_join (wr := [(mw, .inl (cI, 11, .inl (fun _ => 0)))]) (w1 := [(m0, .inr (6, [.ref ms, .ref mf, .ref mw, .ref mk, .int 0, .ref mh, .int 0, .int 0, .int 21, .int 17, .int 0, .int 1, .int 1, .int 1, .int 3, .long 1, .int 0, .ref q0, .ref q1, .ref q2, .int 0, .ref q3, .ref q4, .ref q5, .ref q6, .ref q7, .int 0, .int 0, .int 0, .int 0, .int 0, .int 0, .int 0, .int 0, .int 0, .ref k0, .ref k1, .ref k2, .ref k3])), (mf, .inl (cI, 11, .inl (fun _ => 0))), (mk, .inl (cI, 11, .inl (fun _ => 0))), (k0, .inl (cJ, 549, .inr (.inl a2_70))), (k1, .inl (cJ, 549, .inr (.inl b2_71))), (k2, .inl (cJ, 549, .inr (.inl c2_72))), (k3, .inl (cJ, 549, .inr (.inl d2_73)))]) hP hD [1, 2, 3, 4, 5, 6, 7] [0] rfl rfl (by decide) (by decide) hk1 hFc hP1 hD1
            generalize H1 = H at hP hS ⊢
            have hP : va_P D vwCl [(mw, .inl (cI, 11, .inl (fun _ => 0))), (m0, .inr (6, [.ref ms, .ref mf, .ref mw, .ref mk, .int 0, .ref mh, .int 0, .int 0, .int 21, .int 17, .int 0, .int 1, .int 1, .int 1, .int 3, .long 1, .int 0, .ref q0, .ref q1, .ref q2, .int 0, .ref q3, .ref q4, .ref q5, .ref q6, .ref q7, .int 0, .int 0, .int 0, .int 0, .int 0, .int 0, .int 0, .int 0, .int 0, .ref k0, .ref k1, .ref k2, .ref k3])), (mf, .inl (cI, 11, .inl (fun _ => 0))), (mk, .inl (cI, 11, .inl (fun _ => 0))), (k0, .inl (cJ, 549, .inr (.inl a2_70))), (k1, .inl (cJ, 549, .inr (.inl b2_71))), (k2, .inl (cJ, 549, .inr (.inl c2_72))), (k3, .inl (cJ, 549, .inr (.inl d2_73)))] H := hP
            have hD : va_D A [(mw, .inl (cI, 11, .inl (fun _ => 0))), (m0, .inr (6, [.ref ms, .ref mf, .ref mw, .ref mk, .int 0, .ref mh, .int 0, .int 0, .int 21, .int 17, .int 0, .int 1, .int 1, .int 1, .int 3, .long 1, .int 0, .ref q0, .ref q1, .ref q2, .int 0, .ref q3, .ref q4, .ref q5, .ref q6, .ref q7, .int 0, .int 0, .int 0, .int 0, .int 0, .int 0, .int 0, .int 0, .int 0, .ref k0, .ref k1, .ref k2, .ref k3])), (mf, .inl (cI, 11, .inl (fun _ => 0))), (mk, .inl (cI, 11, .inl (fun _ => 0))), (k0, .inl (cJ, 549, .inr (.inl a2_70))), (k1, .inl (cJ, 549, .inr (.inl b2_71))), (k2, .inl (cJ, 549, .inr (.inl c2_72))), (k3, .inl (cJ, 549, .inr (.inl d2_73)))] := hD
            refine lv_iinc (v := 6) (lv' := [(5, .int 6), (4, .int 0), (3, .int 0), (0, .ref m0), (1, .int p0), (2, .int p1)]) hx hb dX6_known_148 hl (k := 0) rfl (by decide) (by decide) rfl (fun ls hl => ?_)
            refine lv_goto (tgt := 132) hx hb dX6_known_151 (by decide) ?_
            refine lv_iload hx hb dX6_known_132 (lv_at hl 0 rfl) ?_
            refine lv_bipush (v := 11) hx hb dX6_known_134 (by decide) ?_
            refine lv_icmp_ge (tgt := 154) hx hb dX6_known_136 (by decide) (fun c136_74 => ?_) (fun c136_74 => ?_)
            · exact absurd c136_74 (by decide)
            refine lv_aload_n hx hb dX6_known_139 rfl (lv_at hl 3 rfl) ?_
            refine lv_iload hx hb dX6_known_140 (lv_at hl 0 rfl) ?_
            refine lv_iload_n hx hb dX6_known_142 rfl (lv_at hl 4 rfl) ?_
            refine lv_iload hx hb dX6_known_143 (lv_at hl 1 rfl) ?_
            have hPc := hP.sub (ws' := [(m0, .inr (6, [.ref ms, .ref mf, .ref mw, .ref mk, .int 0, .ref mh, .int 0, .int 0, .int 21, .int 17, .int 0, .int 1, .int 1, .int 1, .int 3, .long 1, .int 0, .ref q0, .ref q1, .ref q2, .int 0, .ref q3, .ref q4, .ref q5, .ref q6, .ref q7, .int 0, .int 0, .int 0, .int 0, .int 0, .int 0, .int 0, .int 0, .int 0, .ref k0, .ref k1, .ref k2, .ref k3])), (mf, .inl (cI, 11, .inl (fun _ => 0))), (mk, .inl (cI, 11, .inl (fun _ => 0))), (k0, .inl (cJ, 549, .inr (.inl a2_70))), (k1, .inl (cJ, 549, .inr (.inl b2_71))), (k2, .inl (cJ, 549, .inr (.inl c2_72))), (k3, .inl (cJ, 549, .inr (.inl d2_73)))]) [1, 2, 3, 4, 5, 6, 7] rfl
            have hDc := hD.sub (ws' := [(m0, .inr (6, [.ref ms, .ref mf, .ref mw, .ref mk, .int 0, .ref mh, .int 0, .int 0, .int 21, .int 17, .int 0, .int 1, .int 1, .int 1, .int 3, .long 1, .int 0, .ref q0, .ref q1, .ref q2, .int 0, .ref q3, .ref q4, .ref q5, .ref q6, .ref q7, .int 0, .int 0, .int 0, .int 0, .int 0, .int 0, .int 0, .int 0, .int 0, .ref k0, .ref k1, .ref k2, .ref k3])), (mf, .inl (cI, 11, .inl (fun _ => 0))), (mk, .inl (cI, 11, .inl (fun _ => 0))), (k0, .inl (cJ, 549, .inr (.inl a2_70))), (k1, .inl (cJ, 549, .inr (.inl b2_71))), (k2, .inl (cJ, 549, .inr (.inl c2_72))), (k3, .inl (cJ, 549, .inr (.inl d2_73)))]) [1, 2, 3, 4, 5, 6, 7] (by decide) rfl
            have hFc := va_free (wc := [(m0, .inr (6, [.ref ms, .ref mf, .ref mw, .ref mk, .int 0, .ref mh, .int 0, .int 0, .int 21, .int 17, .int 0, .int 1, .int 1, .int 1, .int 3, .long 1, .int 0, .ref q0, .ref q1, .ref q2, .int 0, .ref q3, .ref q4, .ref q5, .ref q6, .ref q7, .int 0, .int 0, .int 0, .int 0, .int 0, .int 0, .int 0, .int 0, .int 0, .ref k0, .ref k1, .ref k2, .ref k3])), (mf, .inl (cI, 11, .inl (fun _ => 0))), (mk, .inl (cI, 11, .inl (fun _ => 0))), (k0, .inl (cJ, 549, .inr (.inl a2_70))), (k1, .inl (cJ, 549, .inr (.inl b2_71))), (k2, .inl (cJ, 549, .inr (.inl c2_72))), (k3, .inl (cJ, 549, .inr (.inl d2_73)))]) hD hS hA [1, 2, 3, 4, 5, 6, 7] rfl
            refine va_callv (va_runV (As := [.int 6, .int p0, .int 0]) (rest := []) ⟨hx, hb, hml, hown, hts⟩ (c_X6_addRank l D cI cJ cQ _ m0 ms mf mw mk mh q0 q1 q2 q3 q4 q5 q6 q7 k0 k1 k2 k3 (a2_70) (b2_71) (c2_72) (d2_73) 6 p0 (show ¬ ((6 : Int32) < 0 ∨ 11 ≤ (6 : Int32).toNatClampNeg) by decide) hr_69.1 hr_69.2) (cwV 3 hts gX6_known_X6_addRank rfl rfl rfl (by decide +kernel) ⟨Nat.le_of_ble_eq_true rfl, Nat.le_of_ble_eq_true rfl⟩) (mP_preV (ci := 6) (q0 := 0) hPc hK hDc rfl rfl) rfl rfl hl.1 rfl (lv_room (Nat.le_of_ble_eq_true rfl)) dX6_known_145 ⟨Nat.le_of_ble_eq_true rfl, Nat.le_of_ble_eq_true rfl⟩) hS (fun q _ h => hFc q h) hFc (fun u_r_75 t H1 locs ht hvm hr_75 hB hz1 hk1 hS => ?_)
            obtain ⟨a2_76, b2_77, c2_78, d2_79⟩ := u_r_75
            obtain ⟨hP1, hK1, hD1⟩ := hB
            rw [ht] at hP1
            try dsimp only at hr_75
            obtain ⟨hP, hD⟩ := va_join (wr := [(mw, .inl (cI, 11, .inl (fun _ => 0)))]) (w1 := [(m0, .inr (6, [.ref ms, .ref mf, .ref mw, .ref mk, .int 0, .ref mh, .int 0, .int 0, .int 21, .int 17, .int 0, .int 1, .int 1, .int 1, .int 3, .long 1, .int 0, .ref q0, .ref q1, .ref q2, .int 0, .ref q3, .ref q4, .ref q5, .ref q6, .ref q7, .int 0, .int 0, .int 0, .int 0, .int 0, .int 0, .int 0, .int 0, .int 0, .ref k0, .ref k1, .ref k2, .ref k3])), (mf, .inl (cI, 11, .inl (fun _ => 0))), (mk, .inl (cI, 11, .inl (fun _ => 0))), (k0, .inl (cJ, 549, .inr (.inl a2_76))), (k1, .inl (cJ, 549, .inr (.inl b2_77))), (k2, .inl (cJ, 549, .inr (.inl c2_78))), (k3, .inl (cJ, 549, .inr (.inl d2_79)))]) hP hD [1, 2, 3, 4, 5, 6, 7] [0] rfl rfl (by decide) (by decide) hk1 hFc hP1 hD1
            generalize H1 = H at hP hS ⊢
            have hP : va_P D vwCl [(mw, .inl (cI, 11, .inl (fun _ => 0))), (m0, .inr (6, [.ref ms, .ref mf, .ref mw, .ref mk, .int 0, .ref mh, .int 0, .int 0, .int 21, .int 17, .int 0, .int 1, .int 1, .int 1, .int 3, .long 1, .int 0, .ref q0, .ref q1, .ref q2, .int 0, .ref q3, .ref q4, .ref q5, .ref q6, .ref q7, .int 0, .int 0, .int 0, .int 0, .int 0, .int 0, .int 0, .int 0, .int 0, .ref k0, .ref k1, .ref k2, .ref k3])), (mf, .inl (cI, 11, .inl (fun _ => 0))), (mk, .inl (cI, 11, .inl (fun _ => 0))), (k0, .inl (cJ, 549, .inr (.inl a2_76))), (k1, .inl (cJ, 549, .inr (.inl b2_77))), (k2, .inl (cJ, 549, .inr (.inl c2_78))), (k3, .inl (cJ, 549, .inr (.inl d2_79)))] H := hP
            have hD : va_D A [(mw, .inl (cI, 11, .inl (fun _ => 0))), (m0, .inr (6, [.ref ms, .ref mf, .ref mw, .ref mk, .int 0, .ref mh, .int 0, .int 0, .int 21, .int 17, .int 0, .int 1, .int 1, .int 1, .int 3, .long 1, .int 0, .ref q0, .ref q1, .ref q2, .int 0, .ref q3, .ref q4, .ref q5, .ref q6, .ref q7, .int 0, .int 0, .int 0, .int 0, .int 0, .int 0, .int 0, .int 0, .int 0, .ref k0, .ref k1, .ref k2, .ref k3])), (mf, .inl (cI, 11, .inl (fun _ => 0))), (mk, .inl (cI, 11, .inl (fun _ => 0))), (k0, .inl (cJ, 549, .inr (.inl a2_76))), (k1, .inl (cJ, 549, .inr (.inl b2_77))), (k2, .inl (cJ, 549, .inr (.inl c2_78))), (k3, .inl (cJ, 549, .inr (.inl d2_79)))] := hD
            refine lv_iinc (v := 7) (lv' := [(5, .int 7), (4, .int 0), (3, .int 0), (0, .ref m0), (1, .int p0), (2, .int p1)]) hx hb dX6_known_148 hl (k := 0) rfl (by decide) (by decide) rfl (fun ls hl => ?_)
            refine lv_goto (tgt := 132) hx hb dX6_known_151 (by decide) ?_
            refine lv_iload hx hb dX6_known_132 (lv_at hl 0 rfl) ?_
            refine lv_bipush (v := 11) hx hb dX6_known_134 (by decide) ?_
            refine lv_icmp_ge (tgt := 154) hx hb dX6_known_136 (by decide) (fun c136_80 => ?_) (fun c136_80 => ?_)
            · exact absurd c136_80 (by decide)
            refine lv_aload_n hx hb dX6_known_139 rfl (lv_at hl 3 rfl) ?_
            refine lv_iload hx hb dX6_known_140 (lv_at hl 0 rfl) ?_
            refine lv_iload_n hx hb dX6_known_142 rfl (lv_at hl 4 rfl) ?_
            refine lv_iload hx hb dX6_known_143 (lv_at hl 1 rfl) ?_
            have hPc := hP.sub (ws' := [(m0, .inr (6, [.ref ms, .ref mf, .ref mw, .ref mk, .int 0, .ref mh, .int 0, .int 0, .int 21, .int 17, .int 0, .int 1, .int 1, .int 1, .int 3, .long 1, .int 0, .ref q0, .ref q1, .ref q2, .int 0, .ref q3, .ref q4, .ref q5, .ref q6, .ref q7, .int 0, .int 0, .int 0, .int 0, .int 0, .int 0, .int 0, .int 0, .int 0, .ref k0, .ref k1, .ref k2, .ref k3])), (mf, .inl (cI, 11, .inl (fun _ => 0))), (mk, .inl (cI, 11, .inl (fun _ => 0))), (k0, .inl (cJ, 549, .inr (.inl a2_76))), (k1, .inl (cJ, 549, .inr (.inl b2_77))), (k2, .inl (cJ, 549, .inr (.inl c2_78))), (k3, .inl (cJ, 549, .inr (.inl d2_79)))]) [1, 2, 3, 4, 5, 6, 7] rfl
            have hDc := hD.sub (ws' := [(m0, .inr (6, [.ref ms, .ref mf, .ref mw, .ref mk, .int 0, .ref mh, .int 0, .int 0, .int 21, .int 17, .int 0, .int 1, .int 1, .int 1, .int 3, .long 1, .int 0, .ref q0, .ref q1, .ref q2, .int 0, .ref q3, .ref q4, .ref q5, .ref q6, .ref q7, .int 0, .int 0, .int 0, .int 0, .int 0, .int 0, .int 0, .int 0, .int 0, .ref k0, .ref k1, .ref k2, .ref k3])), (mf, .inl (cI, 11, .inl (fun _ => 0))), (mk, .inl (cI, 11, .inl (fun _ => 0))), (k0, .inl (cJ, 549, .inr (.inl a2_76))), (k1, .inl (cJ, 549, .inr (.inl b2_77))), (k2, .inl (cJ, 549, .inr (.inl c2_78))), (k3, .inl (cJ, 549, .inr (.inl d2_79)))]) [1, 2, 3, 4, 5, 6, 7] (by decide) rfl
            have hFc := va_free (wc := [(m0, .inr (6, [.ref ms, .ref mf, .ref mw, .ref mk, .int 0, .ref mh, .int 0, .int 0, .int 21, .int 17, .int 0, .int 1, .int 1, .int 1, .int 3, .long 1, .int 0, .ref q0, .ref q1, .ref q2, .int 0, .ref q3, .ref q4, .ref q5, .ref q6, .ref q7, .int 0, .int 0, .int 0, .int 0, .int 0, .int 0, .int 0, .int 0, .int 0, .ref k0, .ref k1, .ref k2, .ref k3])), (mf, .inl (cI, 11, .inl (fun _ => 0))), (mk, .inl (cI, 11, .inl (fun _ => 0))), (k0, .inl (cJ, 549, .inr (.inl a2_76))), (k1, .inl (cJ, 549, .inr (.inl b2_77))), (k2, .inl (cJ, 549, .inr (.inl c2_78))), (k3, .inl (cJ, 549, .inr (.inl d2_79)))]) hD hS hA [1, 2, 3, 4, 5, 6, 7] rfl
            refine va_callv (va_runV (As := [.int 7, .int p0, .int 0]) (rest := []) ⟨hx, hb, hml, hown, hts⟩ (c_X6_addRank l D cI cJ cQ _ m0 ms mf mw mk mh q0 q1 q2 q3 q4 q5 q6 q7 k0 k1 k2 k3 (a2_76) (b2_77) (c2_78) (d2_79) 7 p0 (show ¬ ((7 : Int32) < 0 ∨ 11 ≤ (7 : Int32).toNatClampNeg) by decide) hr_75.1 hr_75.2) (cwV 3 hts gX6_known_X6_addRank rfl rfl rfl (by decide +kernel) ⟨Nat.le_of_ble_eq_true rfl, Nat.le_of_ble_eq_true rfl⟩) (mP_preV (ci := 6) (q0 := 0) hPc hK hDc rfl rfl) rfl rfl hl.1 rfl (lv_room (Nat.le_of_ble_eq_true rfl)) dX6_known_145 ⟨Nat.le_of_ble_eq_true rfl, Nat.le_of_ble_eq_true rfl⟩) hS (fun q _ h => hFc q h) hFc (fun u_r_81 t H1 locs ht hvm hr_81 hB hz1 hk1 hS => ?_)
            obtain ⟨a2_82, b2_83, c2_84, d2_85⟩ := u_r_81
            obtain ⟨hP1, hK1, hD1⟩ := hB
            rw [ht] at hP1
            try dsimp only at hr_81
            obtain ⟨hP, hD⟩ := va_join (wr := [(mw, .inl (cI, 11, .inl (fun _ => 0)))]) (w1 := [(m0, .inr (6, [.ref ms, .ref mf, .ref mw, .ref mk, .int 0, .ref mh, .int 0, .int 0, .int 21, .int 17, .int 0, .int 1, .int 1, .int 1, .int 3, .long 1, .int 0, .ref q0, .ref q1, .ref q2, .int 0, .ref q3, .ref q4, .ref q5, .ref q6, .ref q7, .int 0, .int 0, .int 0, .int 0, .int 0, .int 0, .int 0, .int 0, .int 0, .ref k0, .ref k1, .ref k2, .ref k3])), (mf, .inl (cI, 11, .inl (fun _ => 0))), (mk, .inl (cI, 11, .inl (fun _ => 0))), (k0, .inl (cJ, 549, .inr (.inl a2_82))), (k1, .inl (cJ, 549, .inr (.inl b2_83))), (k2, .inl (cJ, 549, .inr (.inl c2_84))), (k3, .inl (cJ, 549, .inr (.inl d2_85)))]) hP hD [1, 2, 3, 4, 5, 6, 7] [0] rfl rfl (by decide) (by decide) hk1 hFc hP1 hD1
            generalize H1 = H at hP hS ⊢
            have hP : va_P D vwCl [(mw, .inl (cI, 11, .inl (fun _ => 0))), (m0, .inr (6, [.ref ms, .ref mf, .ref mw, .ref mk, .int 0, .ref mh, .int 0, .int 0, .int 21, .int 17, .int 0, .int 1, .int 1, .int 1, .int 3, .long 1, .int 0, .ref q0, .ref q1, .ref q2, .int 0, .ref q3, .ref q4, .ref q5, .ref q6, .ref q7, .int 0, .int 0, .int 0, .int 0, .int 0, .int 0, .int 0, .int 0, .int 0, .ref k0, .ref k1, .ref k2, .ref k3])), (mf, .inl (cI, 11, .inl (fun _ => 0))), (mk, .inl (cI, 11, .inl (fun _ => 0))), (k0, .inl (cJ, 549, .inr (.inl a2_82))), (k1, .inl (cJ, 549, .inr (.inl b2_83))), (k2, .inl (cJ, 549, .inr (.inl c2_84))), (k3, .inl (cJ, 549, .inr (.inl d2_85)))] H := hP
            have hD : va_D A [(mw, .inl (cI, 11, .inl (fun _ => 0))), (m0, .inr (6, [.ref ms, .ref mf, .ref mw, .ref mk, .int 0, .ref mh, .int 0, .int 0, .int 21, .int 17, .int 0, .int 1, .int 1, .int 1, .int 3, .long 1, .int 0, .ref q0, .ref q1, .ref q2, .int 0, .ref q3, .ref q4, .ref q5, .ref q6, .ref q7, .int 0, .int 0, .int 0, .int 0, .int 0, .int 0, .int 0, .int 0, .int 0, .ref k0, .ref k1, .ref k2, .ref k3])), (mf, .inl (cI, 11, .inl (fun _ => 0))), (mk, .inl (cI, 11, .inl (fun _ => 0))), (k0, .inl (cJ, 549, .inr (.inl a2_82))), (k1, .inl (cJ, 549, .inr (.inl b2_83))), (k2, .inl (cJ, 549, .inr (.inl c2_84))), (k3, .inl (cJ, 549, .inr (.inl d2_85)))] := hD
            refine lv_iinc (v := 8) (lv' := [(5, .int 8), (4, .int 0), (3, .int 0), (0, .ref m0), (1, .int p0), (2, .int p1)]) hx hb dX6_known_148 hl (k := 0) rfl (by decide) (by decide) rfl (fun ls hl => ?_)
            refine lv_goto (tgt := 132) hx hb dX6_known_151 (by decide) ?_
            refine lv_iload hx hb dX6_known_132 (lv_at hl 0 rfl) ?_
            refine lv_bipush (v := 11) hx hb dX6_known_134 (by decide) ?_
            refine lv_icmp_ge (tgt := 154) hx hb dX6_known_136 (by decide) (fun c136_86 => ?_) (fun c136_86 => ?_)
            · exact absurd c136_86 (by decide)
            refine lv_aload_n hx hb dX6_known_139 rfl (lv_at hl 3 rfl) ?_
            refine lv_iload hx hb dX6_known_140 (lv_at hl 0 rfl) ?_
            refine lv_iload_n hx hb dX6_known_142 rfl (lv_at hl 4 rfl) ?_
            refine lv_iload hx hb dX6_known_143 (lv_at hl 1 rfl) ?_
            have hPc := hP.sub (ws' := [(m0, .inr (6, [.ref ms, .ref mf, .ref mw, .ref mk, .int 0, .ref mh, .int 0, .int 0, .int 21, .int 17, .int 0, .int 1, .int 1, .int 1, .int 3, .long 1, .int 0, .ref q0, .ref q1, .ref q2, .int 0, .ref q3, .ref q4, .ref q5, .ref q6, .ref q7, .int 0, .int 0, .int 0, .int 0, .int 0, .int 0, .int 0, .int 0, .int 0, .ref k0, .ref k1, .ref k2, .ref k3])), (mf, .inl (cI, 11, .inl (fun _ => 0))), (mk, .inl (cI, 11, .inl (fun _ => 0))), (k0, .inl (cJ, 549, .inr (.inl a2_82))), (k1, .inl (cJ, 549, .inr (.inl b2_83))), (k2, .inl (cJ, 549, .inr (.inl c2_84))), (k3, .inl (cJ, 549, .inr (.inl d2_85)))]) [1, 2, 3, 4, 5, 6, 7] rfl
            have hDc := hD.sub (ws' := [(m0, .inr (6, [.ref ms, .ref mf, .ref mw, .ref mk, .int 0, .ref mh, .int 0, .int 0, .int 21, .int 17, .int 0, .int 1, .int 1, .int 1, .int 3, .long 1, .int 0, .ref q0, .ref q1, .ref q2, .int 0, .ref q3, .ref q4, .ref q5, .ref q6, .ref q7, .int 0, .int 0, .int 0, .int 0, .int 0, .int 0, .int 0, .int 0, .int 0, .ref k0, .ref k1, .ref k2, .ref k3])), (mf, .inl (cI, 11, .inl (fun _ => 0))), (mk, .inl (cI, 11, .inl (fun _ => 0))), (k0, .inl (cJ, 549, .inr (.inl a2_82))), (k1, .inl (cJ, 549, .inr (.inl b2_83))), (k2, .inl (cJ, 549, .inr (.inl c2_84))), (k3, .inl (cJ, 549, .inr (.inl d2_85)))]) [1, 2, 3, 4, 5, 6, 7] (by decide) rfl
            have hFc := va_free (wc := [(m0, .inr (6, [.ref ms, .ref mf, .ref mw, .ref mk, .int 0, .ref mh, .int 0, .int 0, .int 21, .int 17, .int 0, .int 1, .int 1, .int 1, .int 3, .long 1, .int 0, .ref q0, .ref q1, .ref q2, .int 0, .ref q3, .ref q4, .ref q5, .ref q6, .ref q7, .int 0, .int 0, .int 0, .int 0, .int 0, .int 0, .int 0, .int 0, .int 0, .ref k0, .ref k1, .ref k2, .ref k3])), (mf, .inl (cI, 11, .inl (fun _ => 0))), (mk, .inl (cI, 11, .inl (fun _ => 0))), (k0, .inl (cJ, 549, .inr (.inl a2_82))), (k1, .inl (cJ, 549, .inr (.inl b2_83))), (k2, .inl (cJ, 549, .inr (.inl c2_84))), (k3, .inl (cJ, 549, .inr (.inl d2_85)))]) hD hS hA [1, 2, 3, 4, 5, 6, 7] rfl
            refine va_callv (va_runV (As := [.int 8, .int p0, .int 0]) (rest := []) ⟨hx, hb, hml, hown, hts⟩ (c_X6_addRank l D cI cJ cQ _ m0 ms mf mw mk mh q0 q1 q2 q3 q4 q5 q6 q7 k0 k1 k2 k3 (a2_82) (b2_83) (c2_84) (d2_85) 8 p0 (show ¬ ((8 : Int32) < 0 ∨ 11 ≤ (8 : Int32).toNatClampNeg) by decide) hr_81.1 hr_81.2) (cwV 3 hts gX6_known_X6_addRank rfl rfl rfl (by decide +kernel) ⟨Nat.le_of_ble_eq_true rfl, Nat.le_of_ble_eq_true rfl⟩) (mP_preV (ci := 6) (q0 := 0) hPc hK hDc rfl rfl) rfl rfl hl.1 rfl (lv_room (Nat.le_of_ble_eq_true rfl)) dX6_known_145 ⟨Nat.le_of_ble_eq_true rfl, Nat.le_of_ble_eq_true rfl⟩) hS (fun q _ h => hFc q h) hFc (fun u_r_87 t H1 locs ht hvm hr_87 hB hz1 hk1 hS => ?_)
            obtain ⟨a2_88, b2_89, c2_90, d2_91⟩ := u_r_87
            obtain ⟨hP1, hK1, hD1⟩ := hB
            rw [ht] at hP1
            try dsimp only at hr_87
            obtain ⟨hP, hD⟩ := va_join (wr := [(mw, .inl (cI, 11, .inl (fun _ => 0)))]) (w1 := [(m0, .inr (6, [.ref ms, .ref mf, .ref mw, .ref mk, .int 0, .ref mh, .int 0, .int 0, .int 21, .int 17, .int 0, .int 1, .int 1, .int 1, .int 3, .long 1, .int 0, .ref q0, .ref q1, .ref q2, .int 0, .ref q3, .ref q4, .ref q5, .ref q6, .ref q7, .int 0, .int 0, .int 0, .int 0, .int 0, .int 0, .int 0, .int 0, .int 0, .ref k0, .ref k1, .ref k2, .ref k3])), (mf, .inl (cI, 11, .inl (fun _ => 0))), (mk, .inl (cI, 11, .inl (fun _ => 0))), (k0, .inl (cJ, 549, .inr (.inl a2_88))), (k1, .inl (cJ, 549, .inr (.inl b2_89))), (k2, .inl (cJ, 549, .inr (.inl c2_90))), (k3, .inl (cJ, 549, .inr (.inl d2_91)))]) hP hD [1, 2, 3, 4, 5, 6, 7] [0] rfl rfl (by decide) (by decide) hk1 hFc hP1 hD1
            generalize H1 = H at hP hS ⊢
            have hP : va_P D vwCl [(mw, .inl (cI, 11, .inl (fun _ => 0))), (m0, .inr (6, [.ref ms, .ref mf, .ref mw, .ref mk, .int 0, .ref mh, .int 0, .int 0, .int 21, .int 17, .int 0, .int 1, .int 1, .int 1, .int 3, .long 1, .int 0, .ref q0, .ref q1, .ref q2, .int 0, .ref q3, .ref q4, .ref q5, .ref q6, .ref q7, .int 0, .int 0, .int 0, .int 0, .int 0, .int 0, .int 0, .int 0, .int 0, .ref k0, .ref k1, .ref k2, .ref k3])), (mf, .inl (cI, 11, .inl (fun _ => 0))), (mk, .inl (cI, 11, .inl (fun _ => 0))), (k0, .inl (cJ, 549, .inr (.inl a2_88))), (k1, .inl (cJ, 549, .inr (.inl b2_89))), (k2, .inl (cJ, 549, .inr (.inl c2_90))), (k3, .inl (cJ, 549, .inr (.inl d2_91)))] H := hP
            have hD : va_D A [(mw, .inl (cI, 11, .inl (fun _ => 0))), (m0, .inr (6, [.ref ms, .ref mf, .ref mw, .ref mk, .int 0, .ref mh, .int 0, .int 0, .int 21, .int 17, .int 0, .int 1, .int 1, .int 1, .int 3, .long 1, .int 0, .ref q0, .ref q1, .ref q2, .int 0, .ref q3, .ref q4, .ref q5, .ref q6, .ref q7, .int 0, .int 0, .int 0, .int 0, .int 0, .int 0, .int 0, .int 0, .int 0, .ref k0, .ref k1, .ref k2, .ref k3])), (mf, .inl (cI, 11, .inl (fun _ => 0))), (mk, .inl (cI, 11, .inl (fun _ => 0))), (k0, .inl (cJ, 549, .inr (.inl a2_88))), (k1, .inl (cJ, 549, .inr (.inl b2_89))), (k2, .inl (cJ, 549, .inr (.inl c2_90))), (k3, .inl (cJ, 549, .inr (.inl d2_91)))] := hD
            refine lv_iinc (v := 9) (lv' := [(5, .int 9), (4, .int 0), (3, .int 0), (0, .ref m0), (1, .int p0), (2, .int p1)]) hx hb dX6_known_148 hl (k := 0) rfl (by decide) (by decide) rfl (fun ls hl => ?_)
            refine lv_goto (tgt := 132) hx hb dX6_known_151 (by decide) ?_
            refine lv_iload hx hb dX6_known_132 (lv_at hl 0 rfl) ?_
            refine lv_bipush (v := 11) hx hb dX6_known_134 (by decide) ?_
            refine lv_icmp_ge (tgt := 154) hx hb dX6_known_136 (by decide) (fun c136_92 => ?_) (fun c136_92 => ?_)
            · exact absurd c136_92 (by decide)
            refine lv_aload_n hx hb dX6_known_139 rfl (lv_at hl 3 rfl) ?_
            refine lv_iload hx hb dX6_known_140 (lv_at hl 0 rfl) ?_
            refine lv_iload_n hx hb dX6_known_142 rfl (lv_at hl 4 rfl) ?_
            refine lv_iload hx hb dX6_known_143 (lv_at hl 1 rfl) ?_
            have hPc := hP.sub (ws' := [(m0, .inr (6, [.ref ms, .ref mf, .ref mw, .ref mk, .int 0, .ref mh, .int 0, .int 0, .int 21, .int 17, .int 0, .int 1, .int 1, .int 1, .int 3, .long 1, .int 0, .ref q0, .ref q1, .ref q2, .int 0, .ref q3, .ref q4, .ref q5, .ref q6, .ref q7, .int 0, .int 0, .int 0, .int 0, .int 0, .int 0, .int 0, .int 0, .int 0, .ref k0, .ref k1, .ref k2, .ref k3])), (mf, .inl (cI, 11, .inl (fun _ => 0))), (mk, .inl (cI, 11, .inl (fun _ => 0))), (k0, .inl (cJ, 549, .inr (.inl a2_88))), (k1, .inl (cJ, 549, .inr (.inl b2_89))), (k2, .inl (cJ, 549, .inr (.inl c2_90))), (k3, .inl (cJ, 549, .inr (.inl d2_91)))]) [1, 2, 3, 4, 5, 6, 7] rfl
            have hDc := hD.sub (ws' := [(m0, .inr (6, [.ref ms, .ref mf, .ref mw, .ref mk, .int 0, .ref mh, .int 0, .int 0, .int 21, .int 17, .int 0, .int 1, .int 1, .int 1, .int 3, .long 1, .int 0, .ref q0, .ref q1, .ref q2, .int 0, .ref q3, .ref q4, .ref q5, .ref q6, .ref q7, .int 0, .int 0, .int 0, .int 0, .int 0, .int 0, .int 0, .int 0, .int 0, .ref k0, .ref k1, .ref k2, .ref k3])), (mf, .inl (cI, 11, .inl (fun _ => 0))), (mk, .inl (cI, 11, .inl (fun _ => 0))), (k0, .inl (cJ, 549, .inr (.inl a2_88))), (k1, .inl (cJ, 549, .inr (.inl b2_89))), (k2, .inl (cJ, 549, .inr (.inl c2_90))), (k3, .inl (cJ, 549, .inr (.inl d2_91)))]) [1, 2, 3, 4, 5, 6, 7] (by decide) rfl
            have hFc := va_free (wc := [(m0, .inr (6, [.ref ms, .ref mf, .ref mw, .ref mk, .int 0, .ref mh, .int 0, .int 0, .int 21, .int 17, .int 0, .int 1, .int 1, .int 1, .int 3, .long 1, .int 0, .ref q0, .ref q1, .ref q2, .int 0, .ref q3, .ref q4, .ref q5, .ref q6, .ref q7, .int 0, .int 0, .int 0, .int 0, .int 0, .int 0, .int 0, .int 0, .int 0, .ref k0, .ref k1, .ref k2, .ref k3])), (mf, .inl (cI, 11, .inl (fun _ => 0))), (mk, .inl (cI, 11, .inl (fun _ => 0))), (k0, .inl (cJ, 549, .inr (.inl a2_88))), (k1, .inl (cJ, 549, .inr (.inl b2_89))), (k2, .inl (cJ, 549, .inr (.inl c2_90))), (k3, .inl (cJ, 549, .inr (.inl d2_91)))]) hD hS hA [1, 2, 3, 4, 5, 6, 7] rfl
            refine va_callv (va_runV (As := [.int 9, .int p0, .int 0]) (rest := []) ⟨hx, hb, hml, hown, hts⟩ (c_X6_addRank l D cI cJ cQ _ m0 ms mf mw mk mh q0 q1 q2 q3 q4 q5 q6 q7 k0 k1 k2 k3 (a2_88) (b2_89) (c2_90) (d2_91) 9 p0 (show ¬ ((9 : Int32) < 0 ∨ 11 ≤ (9 : Int32).toNatClampNeg) by decide) hr_87.1 hr_87.2) (cwV 3 hts gX6_known_X6_addRank rfl rfl rfl (by decide +kernel) ⟨Nat.le_of_ble_eq_true rfl, Nat.le_of_ble_eq_true rfl⟩) (mP_preV (ci := 6) (q0 := 0) hPc hK hDc rfl rfl) rfl rfl hl.1 rfl (lv_room (Nat.le_of_ble_eq_true rfl)) dX6_known_145 ⟨Nat.le_of_ble_eq_true rfl, Nat.le_of_ble_eq_true rfl⟩) hS (fun q _ h => hFc q h) hFc (fun u_r_93 t H1 locs ht hvm hr_93 hB hz1 hk1 hS => ?_)
            obtain ⟨a2_94, b2_95, c2_96, d2_97⟩ := u_r_93
            obtain ⟨hP1, hK1, hD1⟩ := hB
            rw [ht] at hP1
            try dsimp only at hr_93
            obtain ⟨hP, hD⟩ := va_join (wr := [(mw, .inl (cI, 11, .inl (fun _ => 0)))]) (w1 := [(m0, .inr (6, [.ref ms, .ref mf, .ref mw, .ref mk, .int 0, .ref mh, .int 0, .int 0, .int 21, .int 17, .int 0, .int 1, .int 1, .int 1, .int 3, .long 1, .int 0, .ref q0, .ref q1, .ref q2, .int 0, .ref q3, .ref q4, .ref q5, .ref q6, .ref q7, .int 0, .int 0, .int 0, .int 0, .int 0, .int 0, .int 0, .int 0, .int 0, .ref k0, .ref k1, .ref k2, .ref k3])), (mf, .inl (cI, 11, .inl (fun _ => 0))), (mk, .inl (cI, 11, .inl (fun _ => 0))), (k0, .inl (cJ, 549, .inr (.inl a2_94))), (k1, .inl (cJ, 549, .inr (.inl b2_95))), (k2, .inl (cJ, 549, .inr (.inl c2_96))), (k3, .inl (cJ, 549, .inr (.inl d2_97)))]) hP hD [1, 2, 3, 4, 5, 6, 7] [0] rfl rfl (by decide) (by decide) hk1 hFc hP1 hD1
            generalize H1 = H at hP hS ⊢
            have hP : va_P D vwCl [(mw, .inl (cI, 11, .inl (fun _ => 0))), (m0, .inr (6, [.ref ms, .ref mf, .ref mw, .ref mk, .int 0, .ref mh, .int 0, .int 0, .int 21, .int 17, .int 0, .int 1, .int 1, .int 1, .int 3, .long 1, .int 0, .ref q0, .ref q1, .ref q2, .int 0, .ref q3, .ref q4, .ref q5, .ref q6, .ref q7, .int 0, .int 0, .int 0, .int 0, .int 0, .int 0, .int 0, .int 0, .int 0, .ref k0, .ref k1, .ref k2, .ref k3])), (mf, .inl (cI, 11, .inl (fun _ => 0))), (mk, .inl (cI, 11, .inl (fun _ => 0))), (k0, .inl (cJ, 549, .inr (.inl a2_94))), (k1, .inl (cJ, 549, .inr (.inl b2_95))), (k2, .inl (cJ, 549, .inr (.inl c2_96))), (k3, .inl (cJ, 549, .inr (.inl d2_97)))] H := hP
            have hD : va_D A [(mw, .inl (cI, 11, .inl (fun _ => 0))), (m0, .inr (6, [.ref ms, .ref mf, .ref mw, .ref mk, .int 0, .ref mh, .int 0, .int 0, .int 21, .int 17, .int 0, .int 1, .int 1, .int 1, .int 3, .long 1, .int 0, .ref q0, .ref q1, .ref q2, .int 0, .ref q3, .ref q4, .ref q5, .ref q6, .ref q7, .int 0, .int 0, .int 0, .int 0, .int 0, .int 0, .int 0, .int 0, .int 0, .ref k0, .ref k1, .ref k2, .ref k3])), (mf, .inl (cI, 11, .inl (fun _ => 0))), (mk, .inl (cI, 11, .inl (fun _ => 0))), (k0, .inl (cJ, 549, .inr (.inl a2_94))), (k1, .inl (cJ, 549, .inr (.inl b2_95))), (k2, .inl (cJ, 549, .inr (.inl c2_96))), (k3, .inl (cJ, 549, .inr (.inl d2_97)))] := hD
            refine lv_iinc (v := 10) (lv' := [(5, .int 10), (4, .int 0), (3, .int 0), (0, .ref m0), (1, .int p0), (2, .int p1)]) hx hb dX6_known_148 hl (k := 0) rfl (by decide) (by decide) rfl (fun ls hl => ?_)
            refine lv_goto (tgt := 132) hx hb dX6_known_151 (by decide) ?_
            refine lv_iload hx hb dX6_known_132 (lv_at hl 0 rfl) ?_
            refine lv_bipush (v := 11) hx hb dX6_known_134 (by decide) ?_
            refine lv_icmp_ge (tgt := 154) hx hb dX6_known_136 (by decide) (fun c136_98 => ?_) (fun c136_98 => ?_)
            · exact absurd c136_98 (by decide)
            refine lv_aload_n hx hb dX6_known_139 rfl (lv_at hl 3 rfl) ?_
            refine lv_iload hx hb dX6_known_140 (lv_at hl 0 rfl) ?_
            refine lv_iload_n hx hb dX6_known_142 rfl (lv_at hl 4 rfl) ?_
            refine lv_iload hx hb dX6_known_143 (lv_at hl 1 rfl) ?_
            have hPc := hP.sub (ws' := [(m0, .inr (6, [.ref ms, .ref mf, .ref mw, .ref mk, .int 0, .ref mh, .int 0, .int 0, .int 21, .int 17, .int 0, .int 1, .int 1, .int 1, .int 3, .long 1, .int 0, .ref q0, .ref q1, .ref q2, .int 0, .ref q3, .ref q4, .ref q5, .ref q6, .ref q7, .int 0, .int 0, .int 0, .int 0, .int 0, .int 0, .int 0, .int 0, .int 0, .ref k0, .ref k1, .ref k2, .ref k3])), (mf, .inl (cI, 11, .inl (fun _ => 0))), (mk, .inl (cI, 11, .inl (fun _ => 0))), (k0, .inl (cJ, 549, .inr (.inl a2_94))), (k1, .inl (cJ, 549, .inr (.inl b2_95))), (k2, .inl (cJ, 549, .inr (.inl c2_96))), (k3, .inl (cJ, 549, .inr (.inl d2_97)))]) [1, 2, 3, 4, 5, 6, 7] rfl
            have hDc := hD.sub (ws' := [(m0, .inr (6, [.ref ms, .ref mf, .ref mw, .ref mk, .int 0, .ref mh, .int 0, .int 0, .int 21, .int 17, .int 0, .int 1, .int 1, .int 1, .int 3, .long 1, .int 0, .ref q0, .ref q1, .ref q2, .int 0, .ref q3, .ref q4, .ref q5, .ref q6, .ref q7, .int 0, .int 0, .int 0, .int 0, .int 0, .int 0, .int 0, .int 0, .int 0, .ref k0, .ref k1, .ref k2, .ref k3])), (mf, .inl (cI, 11, .inl (fun _ => 0))), (mk, .inl (cI, 11, .inl (fun _ => 0))), (k0, .inl (cJ, 549, .inr (.inl a2_94))), (k1, .inl (cJ, 549, .inr (.inl b2_95))), (k2, .inl (cJ, 549, .inr (.inl c2_96))), (k3, .inl (cJ, 549, .inr (.inl d2_97)))]) [1, 2, 3, 4, 5, 6, 7] (by decide) rfl
            have hFc := va_free (wc := [(m0, .inr (6, [.ref ms, .ref mf, .ref mw, .ref mk, .int 0, .ref mh, .int 0, .int 0, .int 21, .int 17, .int 0, .int 1, .int 1, .int 1, .int 3, .long 1, .int 0, .ref q0, .ref q1, .ref q2, .int 0, .ref q3, .ref q4, .ref q5, .ref q6, .ref q7, .int 0, .int 0, .int 0, .int 0, .int 0, .int 0, .int 0, .int 0, .int 0, .ref k0, .ref k1, .ref k2, .ref k3])), (mf, .inl (cI, 11, .inl (fun _ => 0))), (mk, .inl (cI, 11, .inl (fun _ => 0))), (k0, .inl (cJ, 549, .inr (.inl a2_94))), (k1, .inl (cJ, 549, .inr (.inl b2_95))), (k2, .inl (cJ, 549, .inr (.inl c2_96))), (k3, .inl (cJ, 549, .inr (.inl d2_97)))]) hD hS hA [1, 2, 3, 4, 5, 6, 7] rfl
            refine va_callv (va_runV (As := [.int 10, .int p0, .int 0]) (rest := []) ⟨hx, hb, hml, hown, hts⟩ (c_X6_addRank l D cI cJ cQ _ m0 ms mf mw mk mh q0 q1 q2 q3 q4 q5 q6 q7 k0 k1 k2 k3 (a2_94) (b2_95) (c2_96) (d2_97) 10 p0 (show ¬ ((10 : Int32) < 0 ∨ 11 ≤ (10 : Int32).toNatClampNeg) by decide) hr_93.1 hr_93.2) (cwV 3 hts gX6_known_X6_addRank rfl rfl rfl (by decide +kernel) ⟨Nat.le_of_ble_eq_true rfl, Nat.le_of_ble_eq_true rfl⟩) (mP_preV (ci := 6) (q0 := 0) hPc hK hDc rfl rfl) rfl rfl hl.1 rfl (lv_room (Nat.le_of_ble_eq_true rfl)) dX6_known_145 ⟨Nat.le_of_ble_eq_true rfl, Nat.le_of_ble_eq_true rfl⟩) hS (fun q _ h => hFc q h) hFc (fun u_r_99 t H1 locs ht hvm hr_99 hB hz1 hk1 hS => ?_)
            obtain ⟨a2_100, b2_101, c2_102, d2_103⟩ := u_r_99
            obtain ⟨hP1, hK1, hD1⟩ := hB
            rw [ht] at hP1
            try dsimp only at hr_99
            obtain ⟨hP, hD⟩ := va_join (wr := [(mw, .inl (cI, 11, .inl (fun _ => 0)))]) (w1 := [(m0, .inr (6, [.ref ms, .ref mf, .ref mw, .ref mk, .int 0, .ref mh, .int 0, .int 0, .int 21, .int 17, .int 0, .int 1, .int 1, .int 1, .int 3, .long 1, .int 0, .ref q0, .ref q1, .ref q2, .int 0, .ref q3, .ref q4, .ref q5, .ref q6, .ref q7, .int 0, .int 0, .int 0, .int 0, .int 0, .int 0, .int 0, .int 0, .int 0, .ref k0, .ref k1, .ref k2, .ref k3])), (mf, .inl (cI, 11, .inl (fun _ => 0))), (mk, .inl (cI, 11, .inl (fun _ => 0))), (k0, .inl (cJ, 549, .inr (.inl a2_100))), (k1, .inl (cJ, 549, .inr (.inl b2_101))), (k2, .inl (cJ, 549, .inr (.inl c2_102))), (k3, .inl (cJ, 549, .inr (.inl d2_103)))]) hP hD [1, 2, 3, 4, 5, 6, 7] [0] rfl rfl (by decide) (by decide) hk1 hFc hP1 hD1
            generalize H1 = H at hP hS ⊢
            have hP : va_P D vwCl [(mw, .inl (cI, 11, .inl (fun _ => 0))), (m0, .inr (6, [.ref ms, .ref mf, .ref mw, .ref mk, .int 0, .ref mh, .int 0, .int 0, .int 21, .int 17, .int 0, .int 1, .int 1, .int 1, .int 3, .long 1, .int 0, .ref q0, .ref q1, .ref q2, .int 0, .ref q3, .ref q4, .ref q5, .ref q6, .ref q7, .int 0, .int 0, .int 0, .int 0, .int 0, .int 0, .int 0, .int 0, .int 0, .ref k0, .ref k1, .ref k2, .ref k3])), (mf, .inl (cI, 11, .inl (fun _ => 0))), (mk, .inl (cI, 11, .inl (fun _ => 0))), (k0, .inl (cJ, 549, .inr (.inl a2_100))), (k1, .inl (cJ, 549, .inr (.inl b2_101))), (k2, .inl (cJ, 549, .inr (.inl c2_102))), (k3, .inl (cJ, 549, .inr (.inl d2_103)))] H := hP
            have hD : va_D A [(mw, .inl (cI, 11, .inl (fun _ => 0))), (m0, .inr (6, [.ref ms, .ref mf, .ref mw, .ref mk, .int 0, .ref mh, .int 0, .int 0, .int 21, .int 17, .int 0, .int 1, .int 1, .int 1, .int 3, .long 1, .int 0, .ref q0, .ref q1, .ref q2, .int 0, .ref q3, .ref q4, .ref q5, .ref q6, .ref q7, .int 0, .int 0, .int 0, .int 0, .int 0, .int 0, .int 0, .int 0, .int 0, .ref k0, .ref k1, .ref k2, .ref k3])), (mf, .inl (cI, 11, .inl (fun _ => 0))), (mk, .inl (cI, 11, .inl (fun _ => 0))), (k0, .inl (cJ, 549, .inr (.inl a2_100))), (k1, .inl (cJ, 549, .inr (.inl b2_101))), (k2, .inl (cJ, 549, .inr (.inl c2_102))), (k3, .inl (cJ, 549, .inr (.inl d2_103)))] := hD
            refine lv_iinc (v := 11) (lv' := [(5, .int 11), (4, .int 0), (3, .int 0), (0, .ref m0), (1, .int p0), (2, .int p1)]) hx hb dX6_known_148 hl (k := 0) rfl (by decide) (by decide) rfl (fun ls hl => ?_)
            refine lv_goto (tgt := 132) hx hb dX6_known_151 (by decide) ?_
            refine lv_iload hx hb dX6_known_132 (lv_at hl 0 rfl) ?_
            refine lv_bipush (v := 11) hx hb dX6_known_134 (by decide) ?_
            refine lv_icmp_ge (tgt := 154) hx hb dX6_known_136 (by decide) (fun c136_104 => ?_) (fun c136_104 => ?_)
            · skip
              refine lv_bipush (v := 61) hx hb dX6_known_154 (by decide) ?_
              refine lv_iload hx hb dX6_known_156 (lv_at hl 1 rfl) ?_
              refine lv_imul hx hb dX6_known_158 ?_
              refine lv_topi (fun z_105 ez_105 => ?_)
              obtain rfl : z_105 = 0 := ez_105.trans (by decide)
              refine lv_bipush (v := 30) hx hb dX6_known_159 (by decide) ?_
              refine lv_iadd hx hb dX6_known_161 ?_
              refine lv_topi (fun z_106 ez_106 => ?_)
              obtain rfl : z_106 = 30 := ez_106.trans (by decide)
              refine lv_aload_n hx hb dX6_known_162 rfl (lv_at hl 3 rfl) ?_
              have hPc := hP.sub (ws' := [(m0, .inr (6, [.ref ms, .ref mf, .ref mw, .ref mk, .int 0, .ref mh, .int 0, .int 0, .int 21, .int 17, .int 0, .int 1, .int 1, .int 1, .int 3, .long 1, .int 0, .ref q0, .ref q1, .ref q2, .int 0, .ref q3, .ref q4, .ref q5, .ref q6, .ref q7, .int 0, .int 0, .int 0, .int 0, .int 0, .int 0, .int 0, .int 0, .int 0, .ref k0, .ref k1, .ref k2, .ref k3])), (mk, .inl (cI, 11, .inl (fun _ => 0))), (mw, .inl (cI, 11, .inl (fun _ => 0)))]) [1, 3, 0] rfl
              refine vp_callSi (W.runV (As := []) (rest := [.int 30]) ⟨hx, hb, hml, hown, hts⟩ (c_X6_counted l D cI cJ cQ m0 mk mw ms mf mh q0 q1 q2 q3 q4 q5 q6 q7 k0 k1 k2 k3) (cwV 0 hts gX6_known_X6_counted rfl rfl rfl (by decide +kernel) ⟨Nat.le_of_ble_eq_true rfl, Nat.le_of_ble_eq_true rfl⟩) (rP_preV (ci := 6) (q0 := 0) hPc hK rfl rfl) rfl rfl hl.1 rfl (lv_room (Nat.le_of_ble_eq_true rfl)) dX6_known_163 ⟨Nat.le_of_ble_eq_true rfl, Nat.le_of_ble_eq_true rfl⟩) (fun r_107 hr_107 => ?_)
              subst hr_107
              refine lv_iadd hx hb dX6_known_166 ?_
              refine lv_topi (fun z_108 ez_108 => ?_)
              obtain rfl : z_108 = 30 := ez_108.trans (by decide)
              refine lv_istore (lv' := [(5, .int 30), (4, .int 0), (3, .int 0), (0, .ref m0), (1, .int p0), (2, .int p1)]) hx hb dX6_known_167 hl (by decide) rfl (fun ls hl => ?_)
              refine lv_aload_n hx hb dX6_known_169 rfl (lv_at hl 3 rfl) ?_
              refine va_get (D := D) (ci := 6) (v := .ref mf) (C := RX6) (T := TX6) (N := 39) hx hb hts in_X6_known_X6 hown hK hP 1 rfl rfl 1 (by decide) (hts _ wd_X6_known_5) (fun _ h9 => h9) rfl dX6_known_170 ?_
              refine lv_iload_n hx hb dX6_known_173 rfl (lv_at hl 4 rfl) ?_
              refine va_iald hx hb hK hP 2 0 rfl rfl (rkB_in (by rw [← in_rk]; exact c9_2)) dX6_known_174 ?_
              refine lv_topi (fun z_109 ez_109 => ?_)
              obtain rfl : z_109 = 0 := ez_109
              refine lv_i2l (v := 0) hx hb dX6_known_175 (by decide) ?_
              refine lv_aload_n hx hb dX6_known_176 rfl (lv_at hl 3 rfl) ?_
              refine va_get (D := D) (ci := 6) (v := .ref k0) (C := RX6) (T := TX6) (N := 39) hx hb hts in_X6_known_X6 hown hK hP 1 rfl rfl 35 (by decide) (hts _ wd_X6_known_0) (fun _ h9 => h9) rfl dX6_known_177 ?_
              refine lv_iload hx hb dX6_known_180 (lv_at hl 0 rfl) ?_
              refine va_lald hx hb hK hP 4 1 rfl rfl (show ¬ ((30 : Int32) < 0 ∨ 549 ≤ (30 : Int32).toNatClampNeg) by decide) dX6_known_182 ?_
              refine lv_topl (fun z_110 ez_110 => ?_)
              obtain rfl : z_110 = 1 := ez_110.trans ((hr_99.1 30 (by decide)).trans (by decide))
              refine lv_lmul hx hb dX6_known_183 ?_
              refine lv_topl (fun z_111 ez_111 => ?_)
              obtain rfl : z_111 = 0 := ez_111.trans (by decide)
              refine lv_aload_n hx hb dX6_known_184 rfl (lv_at hl 3 rfl) ?_
              refine va_get (D := D) (ci := 6) (v := .ref k1) (C := RX6) (T := TX6) (N := 39) hx hb hts in_X6_known_X6 hown hK hP 1 rfl rfl 36 (by decide) (hts _ wd_X6_known_1) (fun _ h9 => h9) rfl dX6_known_185 ?_
              refine lv_iload hx hb dX6_known_188 (lv_at hl 0 rfl) ?_
              refine va_lald hx hb hK hP 5 1 rfl rfl (show ¬ ((30 : Int32) < 0 ∨ 549 ≤ (30 : Int32).toNatClampNeg) by decide) dX6_known_190 ?_
              refine lv_topl (fun z_112 ez_112 => ?_)
              obtain rfl : z_112 = 0 := ez_112.trans (hr_99.2 30 (by decide))
              refine lv_lsub hx hb dX6_known_191 ?_
              refine lv_topl (fun z_113 ez_113 => ?_)
              obtain rfl : z_113 = 0 := ez_113.trans (by decide)
              refine lv_aload_n hx hb dX6_known_192 rfl (lv_at hl 3 rfl) ?_
              refine va_get (D := D) (ci := 6) (v := .ref k0) (C := RX6) (T := TX6) (N := 39) hx hb hts in_X6_known_X6 hown hK hP 1 rfl rfl 35 (by decide) (hts _ wd_X6_known_0) (fun _ h9 => h9) rfl dX6_known_193 ?_
              refine lv_iload hx hb dX6_known_196 (lv_at hl 0 rfl) ?_
              refine va_lald hx hb hK hP 4 1 rfl rfl (show ¬ ((30 : Int32) < 0 ∨ 549 ≤ (30 : Int32).toNatClampNeg) by decide) dX6_known_198 ?_
              refine lv_topl (fun z_114 ez_114 => ?_)
              obtain rfl : z_114 = 1 := ez_114.trans ((hr_99.1 30 (by decide)).trans (by decide))
              refine lv_iload_n hx hb dX6_known_199 rfl (lv_at hl 5 rfl) ?_
              have hPc := hP.sub (ws' := []) [] rfl
              refine vp_callSl (W.runS (As := [.long 0, .long 1, .int p1]) (rest := []) ⟨hx, hb, hml, hown, hts⟩ (c_X6_part01 l D cI cJ cQ p1) (va_cwS 3 hts gX6_known_X6_part rfl rfl rfl (by decide +kernel) ⟨Nat.le_of_ble_eq_true rfl, Nat.le_of_ble_eq_true rfl⟩) (rP_preS hPc hK) rfl rfl hl.1 rfl (lv_room (Nat.le_of_ble_eq_true rfl)) dX6_known_200 ⟨Nat.le_of_ble_eq_true rfl, Nat.le_of_ble_eq_true rfl⟩) (fun r_115 hr_115 => ?_)
              subst hr_115
              have hP9 := hP.sub (ws' := []) [] rfl
              have hD9 := hD.sub (ws' := []) [] (by decide) rfl
              exact W.lret (v := (if p1 = 0 then 0 else 1)) hx hb hr (fun t ht hW => ⟨⟨(if p1 = 0 then 0 else 1), (), rfl, (by unfold knownM; first | (simp [c9_2, c19_4, c30_5, c46_36, c81_39, hr_45, hr_51, hr_57, hr_63, hr_69, hr_75, hr_81, hr_87, hr_93, hr_99, c136_104]; done) | ((try first | rw [if_pos c9_2] | rw [if_neg c9_2]); (try first | rw [if_pos c19_4] | rw [if_neg c19_4]); (try first | rw [if_pos c30_5] | rw [if_neg c30_5]); (try first | rw [if_pos c46_36] | rw [if_neg c46_36]); (try first | rw [if_pos c81_39] | rw [if_neg c81_39]); (try first | rw [if_pos hr_45] | rw [if_neg hr_45]); (try first | rw [if_pos hr_51] | rw [if_neg hr_51]); (try first | rw [if_pos hr_57] | rw [if_neg hr_57]); (try first | rw [if_pos hr_63] | rw [if_neg hr_63]); (try first | rw [if_pos hr_69] | rw [if_neg hr_69]); (try first | rw [if_pos hr_75] | rw [if_neg hr_75]); (try first | rw [if_pos hr_81] | rw [if_neg hr_81]); (try first | rw [if_pos hr_87] | rw [if_neg hr_87]); (try first | rw [if_pos hr_93] | rw [if_neg hr_93]); (try first | rw [if_pos hr_99] | rw [if_neg hr_99]); (try first | rw [if_pos c136_104] | rw [if_neg c136_104]); first | done | rfl | trivial)), by rw [ht]; exact hP9, va_K.moved hW.alike hK, hD9⟩, hS.F ht⟩) hS.2.2 dX6_known_203
            · exact absurd c136_104 (by decide)
          · exact absurd c81_39 (by decide)
        · exact absurd c46_36 (by decide)
      · exact absurd c30_5 (by decide)
    · skip
      refine lv_ldc2 hx hb hown (hts _ wd_X6_known_3) dX6_known_22 ?_
      have hP9 := hP.sub (ws' := []) [] rfl
      have hD9 := hD.sub (ws' := []) [] (by decide) rfl
      exact W.lret (v := (-1001)) hx hb hr (fun t ht hW => ⟨⟨(-1001), (), rfl, (by unfold knownM; first | (simp [c9_2, c19_4]; done) | ((try first | rw [if_pos c9_2] | rw [if_neg c9_2]); (try first | rw [if_pos c19_4] | rw [if_neg c19_4]); first | done | rfl | trivial)), by rw [ht]; exact hP9, va_K.moved hW.alike hK, hD9⟩, hS.F ht⟩) hS.2.2 dX6_known_25
