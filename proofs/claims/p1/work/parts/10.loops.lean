set_option maxRecDepth 20000 in
theorem in_X6_addRank_X6 : ∀ w ∈ wsX60, w ∈ wsX6_addRank := by decide +kernel
set_option maxRecDepth 20000 in
theorem wd_X6_addRank_0 : Cond.fieldLink RX6 80 "ShoeTableModel" "nextWays" "[J" ∈ wsX6_addRank := by decide +kernel
set_option maxRecDepth 20000 in
theorem wd_X6_addRank_1 : Cond.fieldLink RX6 83 "ShoeTableModel" "nextTaken" "[J" ∈ wsX6_addRank := by decide +kernel
set_option maxHeartbeats 400000 in
set_option maxRecDepth 100000 in
theorem lpA {p : Program} {l : Launch} {e : Env} {R : Room} {s : State} {m : MethodId} {args : Array Value} {below : List Frame} {meth : Method} {c : Code} {Q : State → Prop} {D : va_G} {cI cJ cQ : ClassId} {A : Nat → Prop} {cells slots : Nat} (hx : p.tables.exec = Jvm.exec) (hb : c.code = cX6_addRank) (hml : c.maxLocals = 10) (hown : s.vm.findClass RX6 = some m.cls) (hts : ∀ w ∈ wsX6_addRank, w.before args s = true) (hK : va_K D vwCl (gTy cI cJ cQ) s) (m0 : Nat) (ms : Nat) (mf : Nat) (mw : Nat) (mk : Nat) (mh : Nat) (q0 : Nat) (q1 : Nat) (q2 : Nat) (q3 : Nat) (q4 : Nat) (q5 : Nat) (q6 : Nat) (q7 : Nat) (k0 : Nat) (k1 : Nat) (k2 : Nat) (k3 : Nat) (p0 p1 : Int32) (a b : Nat → Int64) : ∀ (n k : Nat) (g1 : Nat → Int64) (g2 : Nat → Int64) (H : Heap) (locs : List Loc) (ls : Array Slot), k + n = 549 → (∀ j, j < k → g1 j = 0) → (∀ j, j < k → g2 j = 0) → va_P D vwCl [(m0, .inr (6, [.ref ms, .ref mf, .ref mw, .ref mk, .int 0, .ref mh, .int 0, .int 0, .int 21, .int 17, .int 0, .int 1, .int 1, .int 1, .int 3, .long 1, .int 0, .ref q0, .ref q1, .ref q2, .int 0, .ref q3, .ref q4, .ref q5, .ref q6, .ref q7, .int 0, .int 0, .int 0, .int 0, .int 0, .int 0, .int 0, .int 0, .int 0, .ref k0, .ref k1, .ref k2, .ref k3])), (mf, .inl (cI, 11, .inl (fun _ => 0))), (mk, .inl (cI, 11, .inl (fun _ => 0))), (k0, .inl (cJ, 549, .inr (.inl a))), (k1, .inl (cJ, 549, .inr (.inl b))), (k2, .inl (cJ, 549, .inr (.inl g1))), (k3, .inl (cJ, 549, .inr (.inl g2)))] H → va_D A [(m0, .inr (6, [.ref ms, .ref mf, .ref mw, .ref mk, .int 0, .ref mh, .int 0, .int 0, .int 21, .int 17, .int 0, .int 1, .int 1, .int 1, .int 3, .long 1, .int 0, .ref q0, .ref q1, .ref q2, .int 0, .ref q3, .ref q4, .ref q5, .ref q6, .ref q7, .int 0, .int 0, .int 0, .int 0, .int 0, .int 0, .int 0, .int 0, .int 0, .ref k0, .ref k1, .ref k2, .ref k3])), (mf, .inl (cI, 11, .inl (fun _ => 0))), (mk, .inl (cI, 11, .inl (fun _ => 0))), (k0, .inl (cJ, 549, .inr (.inl a))), (k1, .inl (cJ, 549, .inr (.inl b))), (k2, .inl (cJ, 549, .inr (.inl g1))), (k3, .inl (cJ, 549, .inr (.inl g2)))] → va_S A s.heap H locs → lv_has ls 10 [(4, .int (nI k)), (3, .int 0), (0, .ref m0), (1, .int p0), (2, .int p1)] → (∀ (g1 : Nat → Int64) (g2 : Nat → Int64) (H : Heap) (locs : List Loc) (ls : Array Slot), (∀ j, j < 549 → g1 j = 0) → (∀ j, j < 549 → g2 j = 0) → va_P D vwCl [(m0, .inr (6, [.ref ms, .ref mf, .ref mw, .ref mk, .int 0, .ref mh, .int 0, .int 0, .int 21, .int 17, .int 0, .int 1, .int 1, .int 1, .int 3, .long 1, .int 0, .ref q0, .ref q1, .ref q2, .int 0, .ref q3, .ref q4, .ref q5, .ref q6, .ref q7, .int 0, .int 0, .int 0, .int 0, .int 0, .int 0, .int 0, .int 0, .int 0, .ref k0, .ref k1, .ref k2, .ref k3])), (mf, .inl (cI, 11, .inl (fun _ => 0))), (mk, .inl (cI, 11, .inl (fun _ => 0))), (k0, .inl (cJ, 549, .inr (.inl a))), (k1, .inl (cJ, 549, .inr (.inl b))), (k2, .inl (cJ, 549, .inr (.inl g1))), (k3, .inl (cJ, 549, .inr (.inl g2)))] H → va_D A [(m0, .inr (6, [.ref ms, .ref mf, .ref mw, .ref mk, .int 0, .ref mh, .int 0, .int 0, .int 21, .int 17, .int 0, .int 1, .int 1, .int 1, .int 3, .long 1, .int 0, .ref q0, .ref q1, .ref q2, .int 0, .ref q3, .ref q4, .ref q5, .ref q6, .ref q7, .int 0, .int 0, .int 0, .int 0, .int 0, .int 0, .int 0, .int 0, .int 0, .ref k0, .ref k1, .ref k2, .ref k3])), (mf, .inl (cI, 11, .inl (fun _ => 0))), (mk, .inl (cI, 11, .inl (fun _ => 0))), (k0, .inl (cJ, 549, .inr (.inl a))), (k1, .inl (cJ, 549, .inr (.inl b))), (k2, .inl (cJ, 549, .inr (.inl g1))), (k3, .inl (cJ, 549, .inr (.inl g2)))] → va_S A s.heap H locs → lv_has ls 10 [(4, .int 549), (3, .int 0), (0, .ref m0), (1, .int p0), (2, .int p1)] → W p l e R s m args below meth c H locs cells slots Q (F0 m 33 ls [])) → W p l e R s m args below meth c H locs cells slots Q (F0 m 3 ls []) := by
  intro n
  induction n with
  | zero =>
    intro k g1 g2 H locs ls hn hvg1 hvg2 hP hD hS hl kk
    obtain rfl : k = 549 := by omega
    refine lv_iload hx hb dX6_addRank_3 (lv_at hl 0 rfl) ?_
    refine lv_sipush (v := 549) hx hb dX6_addRank_5 (by decide) ?_
    refine lv_icmp_ge (tgt := 33) hx hb dX6_addRank_8 (by decide) (fun c8_1 => ?_) (fun c8_1 => ?_)
    · skip
      exact kk g1 g2 _ _ _ hvg1 hvg2 hP hD hS (lv_sub hl [0, 1, 2, 3, 4] rfl)
    · exact absurd (show (549 : Int32) ≤ nI 549 by decide) c8_1
  | succ n ih =>
    intro k g1 g2 H locs ls hn hvg1 hvg2 hP hD hS hl kk
    have hk : k < 549 := by omega
    refine lv_iload hx hb dX6_addRank_3 (lv_at hl 0 rfl) ?_
    refine lv_sipush (v := 549) hx hb dX6_addRank_5 (by decide) ?_
    refine lv_icmp_ge (tgt := 33) hx hb dX6_addRank_8 (by decide) (fun c8_1 => ?_) (fun c8_1 => ?_)
    · exact absurd c8_1 (nI_ge hk (by decide))
    refine lv_aload_n hx hb dX6_addRank_11 rfl (lv_at hl 2 rfl) ?_
    refine va_get (D := D) (ci := 6) (v := .ref k2) (C := RX6) (T := TX6) (N := 39) hx hb hts in_X6_addRank_X6 hown hK hP 0 rfl rfl 37 (by decide) (hts _ wd_X6_addRank_0) (fun _ h9 => h9) rfl dX6_addRank_12 ?_
    refine lv_iload hx hb dX6_addRank_15 (lv_at hl 0 rfl) ?_
    refine lv_lconst (v := 0) hx hb dX6_addRank_17 (by decide) ?_
    refine va_last hx hb hK hP hD hS 5 1 rfl rfl (vp_in_nI hk (by decide)) dX6_addRank_18 (fun H locs hP hD hS => ?_)
    have hP : va_P D vwCl [(m0, .inr (6, [.ref ms, .ref mf, .ref mw, .ref mk, .int 0, .ref mh, .int 0, .int 0, .int 21, .int 17, .int 0, .int 1, .int 1, .int 1, .int 3, .long 1, .int 0, .ref q0, .ref q1, .ref q2, .int 0, .ref q3, .ref q4, .ref q5, .ref q6, .ref q7, .int 0, .int 0, .int 0, .int 0, .int 0, .int 0, .int 0, .int 0, .int 0, .ref k0, .ref k1, .ref k2, .ref k3])), (mf, .inl (cI, 11, .inl (fun _ => 0))), (mk, .inl (cI, 11, .inl (fun _ => 0))), (k0, .inl (cJ, 549, .inr (.inl a))), (k1, .inl (cJ, 549, .inr (.inl b))), (k2, .inl (cJ, 549, .inr (.inl (vp_updL g1 (nI k).toNatClampNeg 0)))), (k3, .inl (cJ, 549, .inr (.inl g2)))] H := hP
    have hD : va_D A [(m0, .inr (6, [.ref ms, .ref mf, .ref mw, .ref mk, .int 0, .ref mh, .int 0, .int 0, .int 21, .int 17, .int 0, .int 1, .int 1, .int 1, .int 3, .long 1, .int 0, .ref q0, .ref q1, .ref q2, .int 0, .ref q3, .ref q4, .ref q5, .ref q6, .ref q7, .int 0, .int 0, .int 0, .int 0, .int 0, .int 0, .int 0, .int 0, .int 0, .ref k0, .ref k1, .ref k2, .ref k3])), (mf, .inl (cI, 11, .inl (fun _ => 0))), (mk, .inl (cI, 11, .inl (fun _ => 0))), (k0, .inl (cJ, 549, .inr (.inl a))), (k1, .inl (cJ, 549, .inr (.inl b))), (k2, .inl (cJ, 549, .inr (.inl (vp_updL g1 (nI k).toNatClampNeg 0)))), (k3, .inl (cJ, 549, .inr (.inl g2)))] := hD
    refine lv_aload_n hx hb dX6_addRank_19 rfl (lv_at hl 2 rfl) ?_
    refine va_get (D := D) (ci := 6) (v := .ref k3) (C := RX6) (T := TX6) (N := 39) hx hb hts in_X6_addRank_X6 hown hK hP 0 rfl rfl 38 (by decide) (hts _ wd_X6_addRank_1) (fun _ h9 => h9) rfl dX6_addRank_20 ?_
    refine lv_iload hx hb dX6_addRank_23 (lv_at hl 0 rfl) ?_
    refine lv_lconst (v := 0) hx hb dX6_addRank_25 (by decide) ?_
    refine va_last hx hb hK hP hD hS 6 1 rfl rfl (vp_in_nI hk (by decide)) dX6_addRank_26 (fun H locs hP hD hS => ?_)
    have hP : va_P D vwCl [(m0, .inr (6, [.ref ms, .ref mf, .ref mw, .ref mk, .int 0, .ref mh, .int 0, .int 0, .int 21, .int 17, .int 0, .int 1, .int 1, .int 1, .int 3, .long 1, .int 0, .ref q0, .ref q1, .ref q2, .int 0, .ref q3, .ref q4, .ref q5, .ref q6, .ref q7, .int 0, .int 0, .int 0, .int 0, .int 0, .int 0, .int 0, .int 0, .int 0, .ref k0, .ref k1, .ref k2, .ref k3])), (mf, .inl (cI, 11, .inl (fun _ => 0))), (mk, .inl (cI, 11, .inl (fun _ => 0))), (k0, .inl (cJ, 549, .inr (.inl a))), (k1, .inl (cJ, 549, .inr (.inl b))), (k2, .inl (cJ, 549, .inr (.inl (vp_updL g1 (nI k).toNatClampNeg 0)))), (k3, .inl (cJ, 549, .inr (.inl (vp_updL g2 (nI k).toNatClampNeg 0))))] H := hP
    have hD : va_D A [(m0, .inr (6, [.ref ms, .ref mf, .ref mw, .ref mk, .int 0, .ref mh, .int 0, .int 0, .int 21, .int 17, .int 0, .int 1, .int 1, .int 1, .int 3, .long 1, .int 0, .ref q0, .ref q1, .ref q2, .int 0, .ref q3, .ref q4, .ref q5, .ref q6, .ref q7, .int 0, .int 0, .int 0, .int 0, .int 0, .int 0, .int 0, .int 0, .int 0, .ref k0, .ref k1, .ref k2, .ref k3])), (mf, .inl (cI, 11, .inl (fun _ => 0))), (mk, .inl (cI, 11, .inl (fun _ => 0))), (k0, .inl (cJ, 549, .inr (.inl a))), (k1, .inl (cJ, 549, .inr (.inl b))), (k2, .inl (cJ, 549, .inr (.inl (vp_updL g1 (nI k).toNatClampNeg 0)))), (k3, .inl (cJ, 549, .inr (.inl (vp_updL g2 (nI k).toNatClampNeg 0))))] := hD
    refine lv_iinc (v := (nI k + 1)) (lv' := [(4, .int (nI k + 1)), (3, .int 0), (0, .ref m0), (1, .int p0), (2, .int p1)]) hx hb dX6_addRank_27 hl (k := 0) rfl (by rfl) (by decide) rfl (fun ls hl => ?_)
    refine lv_goto (tgt := 3) hx hb dX6_addRank_30 (by decide) ?_
    exact ih (k + 1) (vp_updL g1 (nI k).toNatClampNeg 0) (vp_updL g2 (nI k).toNatClampNeg 0) _ _ _ (by omega) (clr0 hk hvg1) (clr0 hk hvg2) hP hD hS (by rw [nI_succ]; exact lv_sub hl [0, 1, 2, 3, 4] rfl) kk

set_option maxRecDepth 20000 in
theorem wd_X6_addRank_2 : Cond.fieldLink RX6 74 "ShoeTableModel" "ways" "[J" ∈ wsX6_addRank := by decide +kernel
set_option maxRecDepth 20000 in
theorem wd_X6_addRank_3 : Cond.fieldLink RX6 77 "ShoeTableModel" "taken" "[J" ∈ wsX6_addRank := by decide +kernel
set_option maxHeartbeats 400000 in
set_option maxRecDepth 100000 in
theorem lpC {p : Program} {l : Launch} {e : Env} {R : Room} {s : State} {m : MethodId} {args : Array Value} {below : List Frame} {meth : Method} {c : Code} {Q : State → Prop} {D : va_G} {cI cJ cQ : ClassId} {A : Nat → Prop} {cells slots : Nat} (hx : p.tables.exec = Jvm.exec) (hb : c.code = cX6_addRank) (hml : c.maxLocals = 10) (hown : s.vm.findClass RX6 = some m.cls) (hts : ∀ w ∈ wsX6_addRank, w.before args s = true) (hK : va_K D vwCl (gTy cI cJ cQ) s) (m0 : Nat) (ms : Nat) (mf : Nat) (mw : Nat) (mk : Nat) (mh : Nat) (q0 : Nat) (q1 : Nat) (q2 : Nat) (q3 : Nat) (q4 : Nat) (q5 : Nat) (q6 : Nat) (q7 : Nat) (k0 : Nat) (k1 : Nat) (k2 : Nat) (k3 : Nat) (p0 p1 : Int32) (g1 g2 : Nat → Int64) : ∀ (n k : Nat) (a : Nat → Int64) (b : Nat → Int64) (H : Heap) (locs : List Loc) (ls : Array Slot), k + n = 549 → (∀ j, j < k → a j = g1 j) → (∀ j, j < k → b j = g2 j) → va_P D vwCl [(m0, .inr (6, [.ref ms, .ref mf, .ref mw, .ref mk, .int 0, .ref mh, .int 0, .int 0, .int 21, .int 17, .int 0, .int 1, .int 1, .int 1, .int 3, .long 1, .int 0, .ref q0, .ref q1, .ref q2, .int 0, .ref q3, .ref q4, .ref q5, .ref q6, .ref q7, .int 0, .int 0, .int 0, .int 0, .int 0, .int 0, .int 0, .int 0, .int 0, .ref k0, .ref k1, .ref k2, .ref k3])), (mf, .inl (cI, 11, .inl (fun _ => 0))), (mk, .inl (cI, 11, .inl (fun _ => 0))), (k0, .inl (cJ, 549, .inr (.inl a))), (k1, .inl (cJ, 549, .inr (.inl b))), (k2, .inl (cJ, 549, .inr (.inl g1))), (k3, .inl (cJ, 549, .inr (.inl g2)))] H → va_D A [(m0, .inr (6, [.ref ms, .ref mf, .ref mw, .ref mk, .int 0, .ref mh, .int 0, .int 0, .int 21, .int 17, .int 0, .int 1, .int 1, .int 1, .int 3, .long 1, .int 0, .ref q0, .ref q1, .ref q2, .int 0, .ref q3, .ref q4, .ref q5, .ref q6, .ref q7, .int 0, .int 0, .int 0, .int 0, .int 0, .int 0, .int 0, .int 0, .int 0, .ref k0, .ref k1, .ref k2, .ref k3])), (mf, .inl (cI, 11, .inl (fun _ => 0))), (mk, .inl (cI, 11, .inl (fun _ => 0))), (k0, .inl (cJ, 549, .inr (.inl a))), (k1, .inl (cJ, 549, .inr (.inl b))), (k2, .inl (cJ, 549, .inr (.inl g1))), (k3, .inl (cJ, 549, .inr (.inl g2)))] → va_S A s.heap H locs → lv_has ls 10 [(4, .int (nI k)), (3, .int 0), (0, .ref m0), (1, .int p0), (2, .int p1)] → (∀ (a : Nat → Int64) (b : Nat → Int64) (H : Heap) (locs : List Loc) (ls : Array Slot), (∀ j, j < 549 → a j = g1 j) → (∀ j, j < 549 → b j = g2 j) → va_P D vwCl [(m0, .inr (6, [.ref ms, .ref mf, .ref mw, .ref mk, .int 0, .ref mh, .int 0, .int 0, .int 21, .int 17, .int 0, .int 1, .int 1, .int 1, .int 3, .long 1, .int 0, .ref q0, .ref q1, .ref q2, .int 0, .ref q3, .ref q4, .ref q5, .ref q6, .ref q7, .int 0, .int 0, .int 0, .int 0, .int 0, .int 0, .int 0, .int 0, .int 0, .ref k0, .ref k1, .ref k2, .ref k3])), (mf, .inl (cI, 11, .inl (fun _ => 0))), (mk, .inl (cI, 11, .inl (fun _ => 0))), (k0, .inl (cJ, 549, .inr (.inl a))), (k1, .inl (cJ, 549, .inr (.inl b))), (k2, .inl (cJ, 549, .inr (.inl g1))), (k3, .inl (cJ, 549, .inr (.inl g2)))] H → va_D A [(m0, .inr (6, [.ref ms, .ref mf, .ref mw, .ref mk, .int 0, .ref mh, .int 0, .int 0, .int 21, .int 17, .int 0, .int 1, .int 1, .int 1, .int 3, .long 1, .int 0, .ref q0, .ref q1, .ref q2, .int 0, .ref q3, .ref q4, .ref q5, .ref q6, .ref q7, .int 0, .int 0, .int 0, .int 0, .int 0, .int 0, .int 0, .int 0, .int 0, .ref k0, .ref k1, .ref k2, .ref k3])), (mf, .inl (cI, 11, .inl (fun _ => 0))), (mk, .inl (cI, 11, .inl (fun _ => 0))), (k0, .inl (cJ, 549, .inr (.inl a))), (k1, .inl (cJ, 549, .inr (.inl b))), (k2, .inl (cJ, 549, .inr (.inl g1))), (k3, .inl (cJ, 549, .inr (.inl g2)))] → va_S A s.heap H locs → lv_has ls 10 [(4, .int 549), (3, .int 0), (0, .ref m0), (1, .int p0), (2, .int p1)] → W p l e R s m args below meth c H locs cells slots Q (F0 m 274 ls [])) → W p l e R s m args below meth c H locs cells slots Q (F0 m 232 ls []) := by
  intro n
  induction n with
  | zero =>
    intro k a b H locs ls hn hva hvb hP hD hS hl kk
    obtain rfl : k = 549 := by omega
    refine lv_iload hx hb dX6_addRank_232 (lv_at hl 0 rfl) ?_
    refine lv_sipush (v := 549) hx hb dX6_addRank_234 (by decide) ?_
    refine lv_icmp_ge (tgt := 274) hx hb dX6_addRank_237 (by decide) (fun c237_1 => ?_) (fun c237_1 => ?_)
    · skip
      exact kk a b _ _ _ hva hvb hP hD hS (lv_sub hl [0, 1, 2, 3, 4] rfl)
    · exact absurd (show (549 : Int32) ≤ nI 549 by decide) c237_1
  | succ n ih =>
    intro k a b H locs ls hn hva hvb hP hD hS hl kk
    have hk : k < 549 := by omega
    refine lv_iload hx hb dX6_addRank_232 (lv_at hl 0 rfl) ?_
    refine lv_sipush (v := 549) hx hb dX6_addRank_234 (by decide) ?_
    refine lv_icmp_ge (tgt := 274) hx hb dX6_addRank_237 (by decide) (fun c237_1 => ?_) (fun c237_1 => ?_)
    · exact absurd c237_1 (nI_ge hk (by decide))
    refine lv_aload_n hx hb dX6_addRank_240 rfl (lv_at hl 2 rfl) ?_
    refine va_get (D := D) (ci := 6) (v := .ref k0) (C := RX6) (T := TX6) (N := 39) hx hb hts in_X6_addRank_X6 hown hK hP 0 rfl rfl 35 (by decide) (hts _ wd_X6_addRank_2) (fun _ h9 => h9) rfl dX6_addRank_241 ?_
    refine lv_iload hx hb dX6_addRank_244 (lv_at hl 0 rfl) ?_
    refine lv_aload_n hx hb dX6_addRank_246 rfl (lv_at hl 2 rfl) ?_
    refine va_get (D := D) (ci := 6) (v := .ref k2) (C := RX6) (T := TX6) (N := 39) hx hb hts in_X6_addRank_X6 hown hK hP 0 rfl rfl 37 (by decide) (hts _ wd_X6_addRank_0) (fun _ h9 => h9) rfl dX6_addRank_247 ?_
    refine lv_iload hx hb dX6_addRank_250 (lv_at hl 0 rfl) ?_
    refine va_lald hx hb hK hP 5 1 rfl rfl (vp_in_nI hk (by decide)) dX6_addRank_252 ?_
    refine va_last hx hb hK hP hD hS 3 1 rfl rfl (vp_in_nI hk (by decide)) dX6_addRank_253 (fun H locs hP hD hS => ?_)
    have hP : va_P D vwCl [(m0, .inr (6, [.ref ms, .ref mf, .ref mw, .ref mk, .int 0, .ref mh, .int 0, .int 0, .int 21, .int 17, .int 0, .int 1, .int 1, .int 1, .int 3, .long 1, .int 0, .ref q0, .ref q1, .ref q2, .int 0, .ref q3, .ref q4, .ref q5, .ref q6, .ref q7, .int 0, .int 0, .int 0, .int 0, .int 0, .int 0, .int 0, .int 0, .int 0, .ref k0, .ref k1, .ref k2, .ref k3])), (mf, .inl (cI, 11, .inl (fun _ => 0))), (mk, .inl (cI, 11, .inl (fun _ => 0))), (k0, .inl (cJ, 549, .inr (.inl (vp_updL a (nI k).toNatClampNeg (g1 (nI k).toNatClampNeg))))), (k1, .inl (cJ, 549, .inr (.inl b))), (k2, .inl (cJ, 549, .inr (.inl g1))), (k3, .inl (cJ, 549, .inr (.inl g2)))] H := hP
    have hD : va_D A [(m0, .inr (6, [.ref ms, .ref mf, .ref mw, .ref mk, .int 0, .ref mh, .int 0, .int 0, .int 21, .int 17, .int 0, .int 1, .int 1, .int 1, .int 3, .long 1, .int 0, .ref q0, .ref q1, .ref q2, .int 0, .ref q3, .ref q4, .ref q5, .ref q6, .ref q7, .int 0, .int 0, .int 0, .int 0, .int 0, .int 0, .int 0, .int 0, .int 0, .ref k0, .ref k1, .ref k2, .ref k3])), (mf, .inl (cI, 11, .inl (fun _ => 0))), (mk, .inl (cI, 11, .inl (fun _ => 0))), (k0, .inl (cJ, 549, .inr (.inl (vp_updL a (nI k).toNatClampNeg (g1 (nI k).toNatClampNeg))))), (k1, .inl (cJ, 549, .inr (.inl b))), (k2, .inl (cJ, 549, .inr (.inl g1))), (k3, .inl (cJ, 549, .inr (.inl g2)))] := hD
    refine lv_aload_n hx hb dX6_addRank_254 rfl (lv_at hl 2 rfl) ?_
    refine va_get (D := D) (ci := 6) (v := .ref k1) (C := RX6) (T := TX6) (N := 39) hx hb hts in_X6_addRank_X6 hown hK hP 0 rfl rfl 36 (by decide) (hts _ wd_X6_addRank_3) (fun _ h9 => h9) rfl dX6_addRank_255 ?_
    refine lv_iload hx hb dX6_addRank_258 (lv_at hl 0 rfl) ?_
    refine lv_aload_n hx hb dX6_addRank_260 rfl (lv_at hl 2 rfl) ?_
    refine va_get (D := D) (ci := 6) (v := .ref k3) (C := RX6) (T := TX6) (N := 39) hx hb hts in_X6_addRank_X6 hown hK hP 0 rfl rfl 38 (by decide) (hts _ wd_X6_addRank_1) (fun _ h9 => h9) rfl dX6_addRank_261 ?_
    refine lv_iload hx hb dX6_addRank_264 (lv_at hl 0 rfl) ?_
    refine va_lald hx hb hK hP 6 1 rfl rfl (vp_in_nI hk (by decide)) dX6_addRank_266 ?_
    refine va_last hx hb hK hP hD hS 4 1 rfl rfl (vp_in_nI hk (by decide)) dX6_addRank_267 (fun H locs hP hD hS => ?_)
    have hP : va_P D vwCl [(m0, .inr (6, [.ref ms, .ref mf, .ref mw, .ref mk, .int 0, .ref mh, .int 0, .int 0, .int 21, .int 17, .int 0, .int 1, .int 1, .int 1, .int 3, .long 1, .int 0, .ref q0, .ref q1, .ref q2, .int 0, .ref q3, .ref q4, .ref q5, .ref q6, .ref q7, .int 0, .int 0, .int 0, .int 0, .int 0, .int 0, .int 0, .int 0, .int 0, .ref k0, .ref k1, .ref k2, .ref k3])), (mf, .inl (cI, 11, .inl (fun _ => 0))), (mk, .inl (cI, 11, .inl (fun _ => 0))), (k0, .inl (cJ, 549, .inr (.inl (vp_updL a (nI k).toNatClampNeg (g1 (nI k).toNatClampNeg))))), (k1, .inl (cJ, 549, .inr (.inl (vp_updL b (nI k).toNatClampNeg (g2 (nI k).toNatClampNeg))))), (k2, .inl (cJ, 549, .inr (.inl g1))), (k3, .inl (cJ, 549, .inr (.inl g2)))] H := hP
    have hD : va_D A [(m0, .inr (6, [.ref ms, .ref mf, .ref mw, .ref mk, .int 0, .ref mh, .int 0, .int 0, .int 21, .int 17, .int 0, .int 1, .int 1, .int 1, .int 3, .long 1, .int 0, .ref q0, .ref q1, .ref q2, .int 0, .ref q3, .ref q4, .ref q5, .ref q6, .ref q7, .int 0, .int 0, .int 0, .int 0, .int 0, .int 0, .int 0, .int 0, .int 0, .ref k0, .ref k1, .ref k2, .ref k3])), (mf, .inl (cI, 11, .inl (fun _ => 0))), (mk, .inl (cI, 11, .inl (fun _ => 0))), (k0, .inl (cJ, 549, .inr (.inl (vp_updL a (nI k).toNatClampNeg (g1 (nI k).toNatClampNeg))))), (k1, .inl (cJ, 549, .inr (.inl (vp_updL b (nI k).toNatClampNeg (g2 (nI k).toNatClampNeg))))), (k2, .inl (cJ, 549, .inr (.inl g1))), (k3, .inl (cJ, 549, .inr (.inl g2)))] := hD
    refine lv_iinc (v := (nI k + 1)) (lv' := [(4, .int (nI k + 1)), (3, .int 0), (0, .ref m0), (1, .int p0), (2, .int p1)]) hx hb dX6_addRank_268 hl (k := 0) rfl (by rfl) (by decide) rfl (fun ls hl => ?_)
    refine lv_goto (tgt := 232) hx hb dX6_addRank_271 (by decide) ?_
    exact ih (k + 1) (vp_updL a (nI k).toNatClampNeg (g1 (nI k).toNatClampNeg)) (vp_updL b (nI k).toNatClampNeg (g2 (nI k).toNatClampNeg)) _ _ _ (by omega) (clrc hk hva) (clrc hk hvb) hP hD hS (by rw [nI_succ]; exact lv_sub hl [0, 1, 2, 3, 4] rfl) kk

set_option maxRecDepth 20000 in
theorem in_X6_known_X6 : ∀ w ∈ wsX60, w ∈ wsX6_known := by decide +kernel
set_option maxRecDepth 20000 in
theorem wd_X6_known_0 : Cond.fieldLink RX6 74 "ShoeTableModel" "ways" "[J" ∈ wsX6_known := by decide +kernel
set_option maxRecDepth 20000 in
theorem wd_X6_known_1 : Cond.fieldLink RX6 77 "ShoeTableModel" "taken" "[J" ∈ wsX6_known := by decide +kernel
set_option maxHeartbeats 400000 in
set_option maxRecDepth 100000 in
theorem lpK {p : Program} {l : Launch} {e : Env} {R : Room} {s : State} {m : MethodId} {args : Array Value} {below : List Frame} {meth : Method} {c : Code} {Q : State → Prop} {D : va_G} {cI cJ cQ : ClassId} {A : Nat → Prop} {cells slots : Nat} (hx : p.tables.exec = Jvm.exec) (hb : c.code = cX6_known) (hml : c.maxLocals = 6) (hown : s.vm.findClass RX6 = some m.cls) (hts : ∀ w ∈ wsX6_known, w.before args s = true) (hK : va_K D vwCl (gTy cI cJ cQ) s) (m0 : Nat) (ms : Nat) (mf : Nat) (mw : Nat) (mk : Nat) (mh : Nat) (q0 : Nat) (q1 : Nat) (q2 : Nat) (q3 : Nat) (q4 : Nat) (q5 : Nat) (q6 : Nat) (q7 : Nat) (k0 : Nat) (k1 : Nat) (k2 : Nat) (k3 : Nat) (p0 p1 : Int32) (a b : Nat → Int64) : ∀ (n k : Nat) (g1 : Nat → Int64) (g2 : Nat → Int64) (H : Heap) (locs : List Loc) (ls : Array Slot), k + n = 549 → (∀ j, j < k → g1 j = 0) → (∀ j, j < k → g2 j = 0) → va_P D vwCl [(m0, .inr (6, [.ref ms, .ref mf, .ref mw, .ref mk, .int 0, .ref mh, .int 0, .int 0, .int 21, .int 17, .int 0, .int 1, .int 1, .int 1, .int 3, .long 1, .int 0, .ref q0, .ref q1, .ref q2, .int 0, .ref q3, .ref q4, .ref q5, .ref q6, .ref q7, .int 0, .int 0, .int 0, .int 0, .int 0, .int 0, .int 0, .int 0, .int 0, .ref k0, .ref k1, .ref k2, .ref k3])), (mf, .inl (cI, 11, .inl (fun _ => 0))), (mw, .inl (cI, 11, .inl (fun _ => 0))), (mk, .inl (cI, 11, .inl (fun _ => 0))), (k0, .inl (cJ, 549, .inr (.inl g1))), (k1, .inl (cJ, 549, .inr (.inl g2))), (k2, .inl (cJ, 549, .inr (.inl a))), (k3, .inl (cJ, 549, .inr (.inl b)))] H → va_D A [(m0, .inr (6, [.ref ms, .ref mf, .ref mw, .ref mk, .int 0, .ref mh, .int 0, .int 0, .int 21, .int 17, .int 0, .int 1, .int 1, .int 1, .int 3, .long 1, .int 0, .ref q0, .ref q1, .ref q2, .int 0, .ref q3, .ref q4, .ref q5, .ref q6, .ref q7, .int 0, .int 0, .int 0, .int 0, .int 0, .int 0, .int 0, .int 0, .int 0, .ref k0, .ref k1, .ref k2, .ref k3])), (mf, .inl (cI, 11, .inl (fun _ => 0))), (mw, .inl (cI, 11, .inl (fun _ => 0))), (mk, .inl (cI, 11, .inl (fun _ => 0))), (k0, .inl (cJ, 549, .inr (.inl g1))), (k1, .inl (cJ, 549, .inr (.inl g2))), (k2, .inl (cJ, 549, .inr (.inl a))), (k3, .inl (cJ, 549, .inr (.inl b)))] → va_S A s.heap H locs → lv_has ls 6 [(5, .int (nI k)), (4, .int 0), (3, .int 0), (0, .ref m0), (1, .int p0), (2, .int p1)] → (∀ (g1 : Nat → Int64) (g2 : Nat → Int64) (H : Heap) (locs : List Loc) (ls : Array Slot), (∀ j, j < 549 → g1 j = 0) → (∀ j, j < 549 → g2 j = 0) → va_P D vwCl [(m0, .inr (6, [.ref ms, .ref mf, .ref mw, .ref mk, .int 0, .ref mh, .int 0, .int 0, .int 21, .int 17, .int 0, .int 1, .int 1, .int 1, .int 3, .long 1, .int 0, .ref q0, .ref q1, .ref q2, .int 0, .ref q3, .ref q4, .ref q5, .ref q6, .ref q7, .int 0, .int 0, .int 0, .int 0, .int 0, .int 0, .int 0, .int 0, .int 0, .ref k0, .ref k1, .ref k2, .ref k3])), (mf, .inl (cI, 11, .inl (fun _ => 0))), (mw, .inl (cI, 11, .inl (fun _ => 0))), (mk, .inl (cI, 11, .inl (fun _ => 0))), (k0, .inl (cJ, 549, .inr (.inl g1))), (k1, .inl (cJ, 549, .inr (.inl g2))), (k2, .inl (cJ, 549, .inr (.inl a))), (k3, .inl (cJ, 549, .inr (.inl b)))] H → va_D A [(m0, .inr (6, [.ref ms, .ref mf, .ref mw, .ref mk, .int 0, .ref mh, .int 0, .int 0, .int 21, .int 17, .int 0, .int 1, .int 1, .int 1, .int 3, .long 1, .int 0, .ref q0, .ref q1, .ref q2, .int 0, .ref q3, .ref q4, .ref q5, .ref q6, .ref q7, .int 0, .int 0, .int 0, .int 0, .int 0, .int 0, .int 0, .int 0, .int 0, .ref k0, .ref k1, .ref k2, .ref k3])), (mf, .inl (cI, 11, .inl (fun _ => 0))), (mw, .inl (cI, 11, .inl (fun _ => 0))), (mk, .inl (cI, 11, .inl (fun _ => 0))), (k0, .inl (cJ, 549, .inr (.inl g1))), (k1, .inl (cJ, 549, .inr (.inl g2))), (k2, .inl (cJ, 549, .inr (.inl a))), (k3, .inl (cJ, 549, .inr (.inl b)))] → va_S A s.heap H locs → lv_has ls 6 [(5, .int 549), (4, .int 0), (3, .int 0), (0, .ref m0), (1, .int p0), (2, .int p1)] → W p l e R s m args below meth c H locs cells slots Q (F0 m 121 ls [])) → W p l e R s m args below meth c H locs cells slots Q (F0 m 91 ls []) := by
  intro n
  induction n with
  | zero =>
    intro k g1 g2 H locs ls hn hvg1 hvg2 hP hD hS hl kk
    obtain rfl : k = 549 := by omega
    refine lv_iload hx hb dX6_known_91 (lv_at hl 0 rfl) ?_
    refine lv_sipush (v := 549) hx hb dX6_known_93 (by decide) ?_
    refine lv_icmp_ge (tgt := 121) hx hb dX6_known_96 (by decide) (fun c96_1 => ?_) (fun c96_1 => ?_)
    · skip
      exact kk g1 g2 _ _ _ hvg1 hvg2 hP hD hS (lv_sub hl [0, 1, 2, 3, 4, 5] rfl)
    · exact absurd (show (549 : Int32) ≤ nI 549 by decide) c96_1
  | succ n ih =>
    intro k g1 g2 H locs ls hn hvg1 hvg2 hP hD hS hl kk
    have hk : k < 549 := by omega
    refine lv_iload hx hb dX6_known_91 (lv_at hl 0 rfl) ?_
    refine lv_sipush (v := 549) hx hb dX6_known_93 (by decide) ?_
    refine lv_icmp_ge (tgt := 121) hx hb dX6_known_96 (by decide) (fun c96_1 => ?_) (fun c96_1 => ?_)
    · exact absurd c96_1 (nI_ge hk (by decide))
    refine lv_aload_n hx hb dX6_known_99 rfl (lv_at hl 3 rfl) ?_
    refine va_get (D := D) (ci := 6) (v := .ref k0) (C := RX6) (T := TX6) (N := 39) hx hb hts in_X6_known_X6 hown hK hP 0 rfl rfl 35 (by decide) (hts _ wd_X6_known_0) (fun _ h9 => h9) rfl dX6_known_100 ?_
    refine lv_iload hx hb dX6_known_103 (lv_at hl 0 rfl) ?_
    refine lv_lconst (v := 0) hx hb dX6_known_105 (by decide) ?_
    refine va_last hx hb hK hP hD hS 4 1 rfl rfl (vp_in_nI hk (by decide)) dX6_known_106 (fun H locs hP hD hS => ?_)
    have hP : va_P D vwCl [(m0, .inr (6, [.ref ms, .ref mf, .ref mw, .ref mk, .int 0, .ref mh, .int 0, .int 0, .int 21, .int 17, .int 0, .int 1, .int 1, .int 1, .int 3, .long 1, .int 0, .ref q0, .ref q1, .ref q2, .int 0, .ref q3, .ref q4, .ref q5, .ref q6, .ref q7, .int 0, .int 0, .int 0, .int 0, .int 0, .int 0, .int 0, .int 0, .int 0, .ref k0, .ref k1, .ref k2, .ref k3])), (mf, .inl (cI, 11, .inl (fun _ => 0))), (mw, .inl (cI, 11, .inl (fun _ => 0))), (mk, .inl (cI, 11, .inl (fun _ => 0))), (k0, .inl (cJ, 549, .inr (.inl (vp_updL g1 (nI k).toNatClampNeg 0)))), (k1, .inl (cJ, 549, .inr (.inl g2))), (k2, .inl (cJ, 549, .inr (.inl a))), (k3, .inl (cJ, 549, .inr (.inl b)))] H := hP
    have hD : va_D A [(m0, .inr (6, [.ref ms, .ref mf, .ref mw, .ref mk, .int 0, .ref mh, .int 0, .int 0, .int 21, .int 17, .int 0, .int 1, .int 1, .int 1, .int 3, .long 1, .int 0, .ref q0, .ref q1, .ref q2, .int 0, .ref q3, .ref q4, .ref q5, .ref q6, .ref q7, .int 0, .int 0, .int 0, .int 0, .int 0, .int 0, .int 0, .int 0, .int 0, .ref k0, .ref k1, .ref k2, .ref k3])), (mf, .inl (cI, 11, .inl (fun _ => 0))), (mw, .inl (cI, 11, .inl (fun _ => 0))), (mk, .inl (cI, 11, .inl (fun _ => 0))), (k0, .inl (cJ, 549, .inr (.inl (vp_updL g1 (nI k).toNatClampNeg 0)))), (k1, .inl (cJ, 549, .inr (.inl g2))), (k2, .inl (cJ, 549, .inr (.inl a))), (k3, .inl (cJ, 549, .inr (.inl b)))] := hD
    refine lv_aload_n hx hb dX6_known_107 rfl (lv_at hl 3 rfl) ?_
    refine va_get (D := D) (ci := 6) (v := .ref k1) (C := RX6) (T := TX6) (N := 39) hx hb hts in_X6_known_X6 hown hK hP 0 rfl rfl 36 (by decide) (hts _ wd_X6_known_1) (fun _ h9 => h9) rfl dX6_known_108 ?_
    refine lv_iload hx hb dX6_known_111 (lv_at hl 0 rfl) ?_
    refine lv_lconst (v := 0) hx hb dX6_known_113 (by decide) ?_
    refine va_last hx hb hK hP hD hS 5 1 rfl rfl (vp_in_nI hk (by decide)) dX6_known_114 (fun H locs hP hD hS => ?_)
    have hP : va_P D vwCl [(m0, .inr (6, [.ref ms, .ref mf, .ref mw, .ref mk, .int 0, .ref mh, .int 0, .int 0, .int 21, .int 17, .int 0, .int 1, .int 1, .int 1, .int 3, .long 1, .int 0, .ref q0, .ref q1, .ref q2, .int 0, .ref q3, .ref q4, .ref q5, .ref q6, .ref q7, .int 0, .int 0, .int 0, .int 0, .int 0, .int 0, .int 0, .int 0, .int 0, .ref k0, .ref k1, .ref k2, .ref k3])), (mf, .inl (cI, 11, .inl (fun _ => 0))), (mw, .inl (cI, 11, .inl (fun _ => 0))), (mk, .inl (cI, 11, .inl (fun _ => 0))), (k0, .inl (cJ, 549, .inr (.inl (vp_updL g1 (nI k).toNatClampNeg 0)))), (k1, .inl (cJ, 549, .inr (.inl (vp_updL g2 (nI k).toNatClampNeg 0)))), (k2, .inl (cJ, 549, .inr (.inl a))), (k3, .inl (cJ, 549, .inr (.inl b)))] H := hP
    have hD : va_D A [(m0, .inr (6, [.ref ms, .ref mf, .ref mw, .ref mk, .int 0, .ref mh, .int 0, .int 0, .int 21, .int 17, .int 0, .int 1, .int 1, .int 1, .int 3, .long 1, .int 0, .ref q0, .ref q1, .ref q2, .int 0, .ref q3, .ref q4, .ref q5, .ref q6, .ref q7, .int 0, .int 0, .int 0, .int 0, .int 0, .int 0, .int 0, .int 0, .int 0, .ref k0, .ref k1, .ref k2, .ref k3])), (mf, .inl (cI, 11, .inl (fun _ => 0))), (mw, .inl (cI, 11, .inl (fun _ => 0))), (mk, .inl (cI, 11, .inl (fun _ => 0))), (k0, .inl (cJ, 549, .inr (.inl (vp_updL g1 (nI k).toNatClampNeg 0)))), (k1, .inl (cJ, 549, .inr (.inl (vp_updL g2 (nI k).toNatClampNeg 0)))), (k2, .inl (cJ, 549, .inr (.inl a))), (k3, .inl (cJ, 549, .inr (.inl b)))] := hD
    refine lv_iinc (v := (nI k + 1)) (lv' := [(5, .int (nI k + 1)), (4, .int 0), (3, .int 0), (0, .ref m0), (1, .int p0), (2, .int p1)]) hx hb dX6_known_115 hl (k := 0) rfl (by rfl) (by decide) rfl (fun ls hl => ?_)
    refine lv_goto (tgt := 91) hx hb dX6_known_118 (by decide) ?_
    exact ih (k + 1) (vp_updL g1 (nI k).toNatClampNeg 0) (vp_updL g2 (nI k).toNatClampNeg 0) _ _ _ (by omega) (clr0 hk hvg1) (clr0 hk hvg2) hP hD hS (by rw [nI_succ]; exact lv_sub hl [0, 1, 2, 3, 4, 5] rfl) kk


set_option maxHeartbeats 400000 in
set_option maxRecDepth 100000 in
theorem lpS {p : Program} {l : Launch} {e : Env} {R : Room} {s : State} {m : MethodId} {args : Array Value} {below : List Frame} {meth : Method} {c : Code} {Q : State → Prop} {D : va_G} {cI cJ cQ : ClassId} {A : Nat → Prop} {cells slots : Nat} (hx : p.tables.exec = Jvm.exec) (hb : c.code = cX6_addRank) (hml : c.maxLocals = 10) (hown : s.vm.findClass RX6 = some m.cls) (hts : ∀ w ∈ wsX6_addRank, w.before args s = true) (hK : va_K D vwCl (gTy cI cJ cQ) s) {H : Heap} {locs : List Loc} (m0 : Nat) (ms : Nat) (mf : Nat) (mw : Nat) (mk : Nat) (mh : Nat) (q0 : Nat) (q1 : Nat) (q2 : Nat) (q3 : Nat) (q4 : Nat) (q5 : Nat) (q6 : Nat) (q7 : Nat) (k0 : Nat) (k1 : Nat) (k2 : Nat) (k3 : Nat) (p0 p1 : Int32) (a b g1 g2 : Nat → Int64) (hP : va_P D vwCl [(m0, .inr (6, [.ref ms, .ref mf, .ref mw, .ref mk, .int 0, .ref mh, .int 0, .int 0, .int 21, .int 17, .int 0, .int 1, .int 1, .int 1, .int 3, .long 1, .int 0, .ref q0, .ref q1, .ref q2, .int 0, .ref q3, .ref q4, .ref q5, .ref q6, .ref q7, .int 0, .int 0, .int 0, .int 0, .int 0, .int 0, .int 0, .int 0, .int 0, .ref k0, .ref k1, .ref k2, .ref k3])), (mf, .inl (cI, 11, .inl (fun _ => 0))), (mk, .inl (cI, 11, .inl (fun _ => 0))), (k0, .inl (cJ, 549, .inr (.inl a))), (k1, .inl (cJ, 549, .inr (.inl b))), (k2, .inl (cJ, 549, .inr (.inl g1))), (k3, .inl (cJ, 549, .inr (.inl g2)))] H) : ∀ (n k : Nat) (ls : Array Slot), k + n ≤ 61 → (∀ j, k ≤ j → j < k + n → a j = 0) → lv_has ls 10 [(5, .int (nI k)), (4, .int 0), (3, .int 0), (0, .ref m0), (1, .int p0), (2, .int p1)] → (∀ (ls : Array Slot), lv_has ls 10 [(5, .int (nI (k + n))), (4, .int 0), (3, .int 0), (0, .ref m0), (1, .int p0), (2, .int p1)] → W p l e R s m args below meth c H locs cells slots Q (F0 m 45 ls [])) → W p l e R s m args below meth c H locs cells slots Q (F0 m 45 ls []) := by
  intro n
  induction n with
  | zero =>
    intro k ls hn hz hl kk
    exact kk ls hl
  | succ n ih =>
    intro k ls hn hz hl kk
    have hk : k < 549 := by omega
    have hk2 : k < 61 := by omega
    refine lv_iload hx hb dX6_addRank_45 (lv_at hl 0 rfl) ?_
    refine lv_bipush (v := 61) hx hb dX6_addRank_47 (by decide) ?_
    refine lv_icmp_ge (tgt := 223) hx hb dX6_addRank_49 (by decide) (fun c49_1 => ?_) (fun c49_1 => ?_)
    · exact absurd c49_1 (nI_ge hk2 (by decide))
    refine lv_iconst (v := 0) hx hb dX6_addRank_52 (by decide) ?_
    refine lv_istore (lv' := [(6, .int 0), (5, .int (nI k)), (4, .int 0), (3, .int 0), (0, .ref m0), (1, .int p0), (2, .int p1)]) hx hb dX6_addRank_53 hl (by decide) rfl (fun ls hl => ?_)
    refine lv_aload_n hx hb dX6_addRank_55 rfl (lv_at hl 4 rfl) ?_
    refine va_get (D := D) (ci := 6) (v := .ref k0) (C := RX6) (T := TX6) (N := 39) hx hb hts in_X6_addRank_X6 hown hK hP 0 rfl rfl 35 (by decide) (hts _ wd_X6_addRank_2) (fun _ h9 => h9) rfl dX6_addRank_56 ?_
    refine lv_bipush (v := 61) hx hb dX6_addRank_59 (by decide) ?_
    refine lv_iload hx hb dX6_addRank_61 (lv_at hl 2 rfl) ?_
    refine lv_imul hx hb dX6_addRank_63 ?_
    refine lv_topi (fun z_2 ez_2 => ?_)
    obtain rfl : z_2 = 0 := ez_2.trans (by decide)
    refine lv_iload hx hb dX6_addRank_64 (lv_at hl 1 rfl) ?_
    refine lv_iadd hx hb dX6_addRank_66 ?_
    refine va_lald hx hb hK hP 3 1 rfl rfl (z_in hk) dX6_addRank_67 ?_
    refine lv_topl (fun z9 ez9 => ?_)
    obtain rfl : z9 = 0 := ez9.trans (by rw [z_cl hk]; exact hz k (Nat.le_refl k) (by omega))
    refine lv_lconst (v := 0) hx hb dX6_addRank_68 (by decide) ?_
    refine W.lcmp hx hb dX6_addRank_69 ?_
    refine lv_topi (fun z_3 ez_3 => ?_)
    obtain rfl : z_3 = 0 := ez_3.trans (by decide)
    refine lv_if_le (tgt := 217) hx hb dX6_addRank_70 (by decide) (fun c70_4 => ?_) (fun c70_4 => ?_)
    · skip
      refine lv_iinc (v := (nI k + 1)) (lv' := [(5, .int (nI k + 1)), (6, .int 0), (4, .int 0), (3, .int 0), (0, .ref m0), (1, .int p0), (2, .int p1)]) hx hb dX6_addRank_217 hl (k := 1) rfl (by rfl) (by decide) rfl (fun ls hl => ?_)
      refine lv_goto (tgt := 45) hx hb dX6_addRank_220 (by decide) ?_
      exact ih (k + 1) _ (by omega) (fun j h1 h2 => hz j (by omega) (by omega)) (by rw [nI_succ]; exact lv_sub hl [0, 2, 3, 4, 5, 6] rfl) (fun ls hl => kk ls (by rw [show k + (n + 1) = k + 1 + n by omega]; exact hl))
    · exact absurd c70_4 (by decide)
