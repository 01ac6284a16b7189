set_option maxRecDepth 20000 in
theorem wd_X5_orders_0 : Cond.fieldLink RX5 237 "ShoeTable" "ORDERS" "[J" ∈ wsX5_orders := by decide +kernel
set_option maxHeartbeats 400000 in
set_option maxRecDepth 100000 in
/-- X5_orders -/
theorem c_X5_orders (l : Launch) (D : va_G) (cI cJ cQ : ClassId) (p0 : Int32) (tO : Nat)  : Met l yX5_orders wsX5_orders ({ frames := 0, cells := 0, slots := 0, locals := 0 }) (va_Pc [.int p0] (rPo D (gTy cI cJ cQ) [] tO)) (vp_Sl (fun r => r = orC p0)) 0 0 (fun _ => False) := by
  refine Met.ofW (cc := cX5_orders) (maxL := 1) (ret := (some .long)) (by decide) rfl ?_
  intro p e s m args below meth c s₁ B hml hv
  obtain ⟨rfl, ⟨hP, hK⟩, hZ⟩ := hv
  have hS : va_S (fun _ => False) s.heap s.heap [] := va_S.rf
  have hx := B.exec
  have hb := B.bytes
  have hr := B.returns
  have hts := atoms_spec (ws := wsX5_orders) B.pre
  have hown : s.vm.findClass RX5 = some m.cls := findClass_of_methodNamed B.named
  have hlocks := B.notSynchronized
  have hl := lv_entry ([.int p0]) (n := 1) (Nat.le_of_ble_eq_true rfl)
  rw [lg_entry_eq]
  generalize (lg_sl ([.int p0]) ++ List.replicate (1 - (lg_sl ([.int p0])).length) Slot.unset).toArray = ls at hl ⊢
  have hl : lv_has ls 1 [(0, .int p0)] := hl
  refine lv_iload_n hx hb dX5_orders_0 rfl (lv_at hl 0 rfl) ?_
  refine lv_if_lt (tgt := 20) hx hb dX5_orders_1 (by decide) (fun c1_1 => ?_) (fun c1_1 => ?_)
  · skip
    refine lv_lconst (v := 0) hx hb dX5_orders_20 (by decide) ?_
    exact W.lret (v := 0) hx hb hr (fun t ht hW => ⟨_, rfl, (by unfold orC; first | (simp [c1_1]; done) | ((try first | rw [if_pos c1_1] | rw [if_neg c1_1]); first | done | rfl | trivial)), ht⟩) (fun q hq => absurd hq List.not_mem_nil) dX5_orders_21
  · skip
    refine lv_iload_n hx hb dX5_orders_4 rfl (lv_at hl 0 rfl) ?_
    refine va_gets hx hb hZ.1 hS hown (hts _ wd_X5_orders_0) (fun _ h9 => h9) dX5_orders_5 ?_
    refine va_tlen hx hb hZ.2.1 hS (v := 13) (by decide) dX5_orders_8 ?_
    refine lv_icmp_ge (tgt := 20) hx hb dX5_orders_9 (by decide) (fun c9_2 => ?_) (fun c9_2 => ?_)
    · skip
      refine lv_lconst (v := 0) hx hb dX5_orders_20 (by decide) ?_
      exact W.lret (v := 0) hx hb hr (fun t ht hW => ⟨_, rfl, (by unfold orC; first | (simp [c1_1, c9_2]; done) | ((try first | rw [if_pos c1_1] | rw [if_neg c1_1]); (try first | rw [if_pos c9_2] | rw [if_neg c9_2]); first | done | rfl | trivial)), ht⟩) (fun q hq => absurd hq List.not_mem_nil) dX5_orders_21
    · skip
      refine va_gets hx hb hZ.1 hS hown (hts _ wd_X5_orders_0) (fun _ h9 => h9) dX5_orders_12 ?_
      refine lv_iload_n hx hb dX5_orders_15 rfl (lv_at hl 0 rfl) ?_
      refine va_tl hx hb hZ.2.1 hS (or_in c1_1 c9_2) (v := .long (ord0 p0.toNatClampNeg)) rfl dX5_orders_16 ?_
      refine lv_goto (tgt := 21) hx hb dX5_orders_17 (by decide) ?_
      exact W.lret (v := (ord0 p0.toNatClampNeg)) hx hb hr (fun t ht hW => ⟨_, rfl, (by unfold orC; first | (simp [c1_1, c9_2]; done) | ((try first | rw [if_pos c1_1] | rw [if_neg c1_1]); (try first | rw [if_pos c9_2] | rw [if_neg c9_2]); first | done | rfl | trivial)), ht⟩) (fun q hq => absurd hq List.not_mem_nil) dX5_orders_21


set_option maxHeartbeats 400000 in
set_option maxRecDepth 100000 in
theorem lpGcd {p : Program} {l : Launch} {e : Env} {R : Room} {s : State} {m : MethodId} {args : Array Value} {below : List Frame} {meth : Method} {c : Code} {Q : State → Prop} {D : va_G} {cI cJ cQ : ClassId} {cells slots : Nat} (hx : p.tables.exec = Jvm.exec) (hb : c.code = cX5_commonDivisor) (hml : c.maxLocals = 11) (hown : s.vm.findClass RX5 = some m.cls) (hts : ∀ w ∈ wsX5_commonDivisor, w.before args s = true) (hK : va_K D vwCl (gTy cI cJ cQ) s) (p0 : Int64) (p1 : Int64) (hRf : 0 ≤ R.frames) (hRl : 0 ≤ R.locals) (hRc : cells ≤ R.cells) (hRs : slots ≤ R.slots) {H : Heap} {locs : List Loc} (hP : va_P D vwCl [] H)  : ∀ (n9 : Nat) (k : Nat) (x : Int64) (y : Int64) (ls : Array Slot), 200 - k < n9 → (k ≤ 200) → lv_has ls 11 [(8, .int (nI k)), (6, .long y), (4, .long x)] → (∀ (x : Int64) (ls : Array Slot), lv_has ls 11 [(4, .long x)] → W p l e R s m args below meth c H locs cells slots Q (F0 m 45 ls [])) → W p l e R s m args below meth c H locs cells slots Q (F0 m 9 ls []) := by
  intro n9
  induction n9 with
  | zero => intro k x y ls hms9; exact absurd hms9 (Nat.not_lt_zero _)
  | succ n9 ih =>
    intro k x y ls hms9 hk hl kk0
    refine lv_iload hx hb dX5_commonDivisor_9 (lv_at hl 0 rfl) ?_
    refine lv_sipush (v := 200) hx hb dX5_commonDivisor_11 (by decide) ?_
    refine lv_icmp_ge (tgt := 45) hx hb dX5_commonDivisor_14 (by decide) (fun c14_1 => ?_) (fun c14_1 => ?_)
    · skip
      have nc14_1 : 200 ≤ k := (nI_leI (a := 200) (b := k) (by omega) (by omega)).mp c14_1
      exact kk0 x _ (lv_sub hl [2] rfl)
    · skip
      have nc14_1 : ¬ (200 ≤ k) := fun z9 => c14_1 ((nI_leI (a := 200) (b := k) (by omega) (by omega)).mpr z9)
      refine lv_lload hx hb dX5_commonDivisor_17 (lv_at hl 1 rfl) ?_
      refine lv_lconst (v := 0) hx hb dX5_commonDivisor_19 (by decide) ?_
      refine W.lcmp hx hb dX5_commonDivisor_20 ?_
      refine lv_if_eq (tgt := 45) hx hb dX5_commonDivisor_21 (by decide) (fun c21_2 => ?_) (fun c21_2 => ?_)
      · skip
        exact kk0 x _ (lv_sub hl [2] rfl)
      · skip
        refine lv_lload hx hb dX5_commonDivisor_24 (lv_at hl 2 rfl) ?_
        have hy : ¬ y = 0 := fun z9 => c21_2 ((lg_cmp_eq _ _).mpr z9)
        refine lv_lload hx hb dX5_commonDivisor_26 (lv_at hl 1 rfl) ?_
        refine lv_lrem hx hb dX5_commonDivisor_28 hy ?_
        refine lv_lstore (lv' := [(9, .long (x - x / y * y)), (8, .int (nI k)), (6, .long y), (4, .long x)]) hx hb dX5_commonDivisor_29 hl (by decide) rfl (fun ls hl => ?_)
        refine lv_lload hx hb dX5_commonDivisor_31 (lv_at hl 2 rfl) ?_
        refine lv_lstore (lv' := [(4, .long y), (9, .long (x - x / y * y)), (8, .int (nI k)), (6, .long y)]) hx hb dX5_commonDivisor_33 hl (by decide) rfl (fun ls hl => ?_)
        refine lv_lload hx hb dX5_commonDivisor_35 (lv_at hl 1 rfl) ?_
        refine lv_lstore (lv' := [(6, .long (x - x / y * y)), (4, .long y), (9, .long (x - x / y * y)), (8, .int (nI k))]) hx hb dX5_commonDivisor_37 hl (by decide) rfl (fun ls hl => ?_)
        refine lv_iinc (v := (nI (k + 1))) (lv' := [(8, .int (nI (k + 1))), (6, .long (x - x / y * y)), (4, .long y), (9, .long (x - x / y * y))]) hx hb dX5_commonDivisor_39 hl (k := 3) rfl (nI_incT (by decide)) (by decide) rfl (fun ls hl => ?_)
        refine lv_goto (tgt := 9) hx hb dX5_commonDivisor_42 (by decide) ?_
        exact ih (k + 1) y (x - x / y * y) _ (by omega) (by omega) (lv_sub hl [0, 1, 2] rfl) kk0

set_option maxHeartbeats 400000 in
set_option maxRecDepth 100000 in
/-- X5_commonDivisor -/
theorem c_X5_commonDivisor (l : Launch) (D : va_G) (cI cJ cQ : ClassId) (p0 : Int64) (p1 : Int64)  : Met l yX5_commonDivisor wsX5_commonDivisor ({ frames := 0, cells := 0, slots := 0, locals := 0 }) (va_Pc [.long p0, .long p1] (rP D (gTy cI cJ cQ) [])) (vp_Sl (fun r => True)) 0 0 (fun _ => False) := by
  refine Met.ofW (cc := cX5_commonDivisor) (maxL := 11) (ret := (some .long)) (by decide) rfl ?_
  intro p e s m args below meth c s₁ B hml hv
  obtain ⟨rfl, hP, hK⟩ := hv
  have hx := B.exec
  have hb := B.bytes
  have hr := B.returns
  have hts := atoms_spec (ws := wsX5_commonDivisor) B.pre
  have hown : s.vm.findClass RX5 = some m.cls := findClass_of_methodNamed B.named
  have hlocks := B.notSynchronized
  have hl := lv_entry ([.long p0, .long p1]) (n := 11) (Nat.le_of_ble_eq_true rfl)
  rw [lg_entry_eq]
  generalize (lg_sl ([.long p0, .long p1]) ++ List.replicate (11 - (lg_sl ([.long p0, .long p1])).length) Slot.unset).toArray = ls at hl ⊢
  have hl : lv_has ls 11 [(0, .long p0), (2, .long p1)] := hl
  refine lv_lload_n hx hb dX5_commonDivisor_0 rfl (lv_at hl 0 rfl) ?_
  refine lv_lstore (lv' := [(4, .long p0), (0, .long p0), (2, .long p1)]) hx hb dX5_commonDivisor_1 hl (by decide) rfl (fun ls hl => ?_)
  refine lv_lload_n hx hb dX5_commonDivisor_3 rfl (lv_at hl 2 rfl) ?_
  refine lv_lstore (lv' := [(6, .long p1), (4, .long p0), (0, .long p0), (2, .long p1)]) hx hb dX5_commonDivisor_4 hl (by decide) rfl (fun ls hl => ?_)
  refine lv_iconst (v := 0) hx hb dX5_commonDivisor_6 (by decide) ?_
  refine lv_istore (lv' := [(8, .int 0), (6, .long p1), (4, .long p0), (0, .long p0), (2, .long p1)]) hx hb dX5_commonDivisor_7 hl (by decide) rfl (fun ls hl => ?_)
  refine lpGcd hx hb hml hown hts hK p0 p1 (Nat.le_of_ble_eq_true rfl) (Nat.le_of_ble_eq_true rfl) (Nat.zero_le _) (Nat.zero_le _) hP  (200 - 0 + 1) 0 p0 p1 _ (Nat.lt_succ_self _) (by omega) (lv_sub hl [0, 1, 2] rfl) (fun x_1 ls  hl => ?_)
  refine lv_lload hx hb dX5_commonDivisor_45 (lv_at hl 0 rfl) ?_
  exact W.lret (v := x_1) hx hb hr (fun t ht hW => ⟨_, rfl, trivial, ht⟩) (fun q hq => absurd hq List.not_mem_nil) dX5_commonDivisor_47

set_option maxRecDepth 20000 in
theorem wd_X5_part_0 : Cond.methodLink RX5 241 Lib.MathLoose.abs_long.x ∈ wsX5_part := by decide +kernel
set_option maxRecDepth 20000 in
theorem wd_X5_part_1 : Cond.static Lib.MathLoose.abs_long.x ∈ wsX5_part := by decide +kernel
set_option maxRecDepth 20000 in
theorem wd_X5_part_2 : Cond.initialized "java/lang/Math" ∈ wsX5_part := by decide +kernel
set_option maxRecDepth 20000 in
theorem wd_X5_part_3 : Cond.code Lib.MathLoose.abs_long.x Lib.MathLoose.abs_long.code 2 (some .long) ∈ wsX5_part := by decide +kernel
set_option maxHeartbeats 400000 in
set_option maxRecDepth 100000 in
/-- X5_part -/
theorem c_X5_part (l : Launch) (D : va_G) (cI cJ cQ : ClassId) (p0 : Int64) (p1 : Int64) (p2 : Int32)  : Met l yX5_part wsX5_part ({ frames := 1, cells := 0, slots := 0, locals := 40 }) (va_Pc [.long p0, .long p1, .int p2] (rP D (gTy cI cJ cQ) [])) (vp_Sl (fun r => True)) 0 0 (fun _ => False) := by
  refine Met.ofW (cc := cX5_part) (maxL := 7) (ret := (some .long)) (by decide) rfl ?_
  intro p e s m args below meth c s₁ B hml hv
  obtain ⟨rfl, hP, hK⟩ := hv
  have hx := B.exec
  have hb := B.bytes
  have hr := B.returns
  have hts := atoms_spec (ws := wsX5_part) B.pre
  have hown : s.vm.findClass RX5 = some m.cls := findClass_of_methodNamed B.named
  have hlocks := B.notSynchronized
  have hl := lv_entry ([.long p0, .long p1, .int p2]) (n := 7) (Nat.le_of_ble_eq_true rfl)
  rw [lg_entry_eq]
  generalize (lg_sl ([.long p0, .long p1, .int p2]) ++ List.replicate (7 - (lg_sl ([.long p0, .long p1, .int p2])).length) Slot.unset).toArray = ls at hl ⊢
  have hl : lv_has ls 7 [(0, .long p0), (2, .long p1), (4, .int p2)] := hl
  refine lv_lload_n hx hb dX5_part_0 rfl (lv_at hl 0 rfl) ?_
  refine va_mabs_long hx hb (by rw [hml]; exact hl.1.symm) hown (hts _ wd_X5_part_0) (hts _ wd_X5_part_1) (hts _ wd_X5_part_2) (hts _ wd_X5_part_3) (Nat.le_of_ble_eq_true rfl) (Nat.le_of_ble_eq_true rfl) (Nat.zero_le _) (Nat.zero_le _) dX5_part_1 ?_
  refine lv_lload_n hx hb dX5_part_4 rfl (lv_at hl 1 rfl) ?_
  have hPc := hP.sub (ws' := []) [] rfl
  refine vp_callSl (W.runS (As := [.long (if 0 < p0 then p0 else -p0), .long p1]) (rest := []) ⟨hx, hb, hml, hown, hts⟩ (c_X5_commonDivisor l D cI cJ cQ (if 0 < p0 then p0 else -p0) p1) (va_cwS 2 hts gX5_part_X5_commonDivisor rfl rfl rfl (by decide +kernel) ⟨Nat.le_of_ble_eq_true rfl, Nat.le_of_ble_eq_true rfl⟩) (rP_preS hPc hK) rfl rfl hl.1 rfl (lv_room (Nat.le_of_ble_eq_true rfl)) dX5_part_5 ⟨Nat.le_of_ble_eq_true rfl, Nat.le_of_ble_eq_true rfl⟩) (fun r_1 hr_1 => ?_)
  refine lv_lstore (lv' := [(5, .long r_1), (0, .long p0), (2, .long p1), (4, .int p2)]) hx hb dX5_part_8 hl (by decide) rfl (fun ls hl => ?_)
  refine lv_lload hx hb dX5_part_10 (lv_at hl 0 rfl) ?_
  refine lv_lconst (v := 0) hx hb dX5_part_12 (by decide) ?_
  refine W.lcmp hx hb dX5_part_13 ?_
  refine lv_if_gt (tgt := 19) hx hb dX5_part_14 (by decide) (fun c14_2 => ?_) (fun c14_2 => ?_)
  · skip
    have hy : ¬ r_1 = 0 := fun z9 => by rw [lg_cmp_gt, z9] at c14_2; exact absurd c14_2 (by decide)
    refine lv_iload hx hb dX5_part_19 (lv_at hl 3 rfl) ?_
    refine lv_if_ne (tgt := 31) hx hb dX5_part_21 (by decide) (fun c21_3 => ?_) (fun c21_3 => ?_)
    · skip
      refine lv_lload_n hx hb dX5_part_31 rfl (lv_at hl 2 rfl) ?_
      refine lv_lload hx hb dX5_part_32 (lv_at hl 0 rfl) ?_
      refine lv_ldiv hx hb dX5_part_34 hy ?_
      exact W.lret (v := (p1 / r_1)) hx hb hr (fun t ht hW => ⟨_, rfl, trivial, ht⟩) (fun q hq => absurd hq List.not_mem_nil) dX5_part_35
    · skip
      refine lv_lload_n hx hb dX5_part_24 rfl (lv_at hl 1 rfl) ?_
      refine lv_lload hx hb dX5_part_25 (lv_at hl 0 rfl) ?_
      refine lv_ldiv hx hb dX5_part_27 hy ?_
      refine lv_goto (tgt := 35) hx hb dX5_part_28 (by decide) ?_
      exact W.lret (v := (p0 / r_1)) hx hb hr (fun t ht hW => ⟨_, rfl, trivial, ht⟩) (fun q hq => absurd hq List.not_mem_nil) dX5_part_35
  · skip
    refine lv_lconst (v := 0) hx hb dX5_part_17 (by decide) ?_
    exact W.lret (v := 0) hx hb hr (fun t ht hW => ⟨_, rfl, trivial, ht⟩) (fun q hq => absurd hq List.not_mem_nil) dX5_part_18

set_option maxRecDepth 20000 in
theorem in_X3_look_X3 : ∀ w ∈ wsX30, w ∈ wsX3_look := by decide +kernel
set_option maxRecDepth 20000 in
theorem wd_X3_look_0 : Cond.fieldLink RX3 12 "ShoeTable$Odds" "rules" "LShoeTable$Rules;" ∈ wsX3_look := by decide +kernel
set_option maxRecDepth 20000 in
theorem wd_X3_look_1 : Cond.fieldLink RX3 21 "ShoeTable$Odds" "shoe" "LShoeTable$Cards;" ∈ wsX3_look := by decide +kernel
set_option maxRecDepth 20000 in
theorem wd_X3_look_2 : Cond.fieldLink RX3 31 "ShoeTable$Odds" "hand" "LShoeTable$Hand;" ∈ wsX3_look := by decide +kernel
set_option maxRecDepth 20000 in
theorem wd_X3_look_3 : Cond.fieldLink RX3 35 "ShoeTable$Odds" "up" "I" ∈ wsX3_look := by decide +kernel
set_option maxHeartbeats 400000 in
set_option maxRecDepth 100000 in
/-- X3_look -/
theorem c_X3_look (l : Launch) (D : va_G) (cI cJ cQ : ClassId) (sz : Nat) (h0 : Nat) (orr : Nat) (os : Nat) (ow : Nat) (oh : Nat) (oup : Int32) (obA : Int32) (obT : Int64) (pay : Nat) (stp : Nat) (hT : Nat) (hR : Nat) (hrd : Int32) (pT : Nat) (pR : Nat) (prd : Int32) (ur : Nat) (w : Nat → Int32) (uc : Nat) (tot : Int32) (f : Nat → Int32) (uh : Nat) (n0 : Int32) (sm : Int32) (ace : Bool) (g : Nat → Int32) (r0 : Nat) (r1 : Nat) (w3 : Nat → Int32) (c0 : Nat) (c1 : Nat) (tot3 : Int32) (f3 : Nat → Int32) (d0 : Nat) (d1 : Nat) (n3 : Int32) (sm3 : Int32) (ace3 : Bool) (g3 : Nat → Int32) (p3 : Int32)  : Met l yX3_look wsX3_look ({ frames := 2, cells := 0, slots := 0, locals := 61 }) (va_Pc [.ref h0, .ref r0, .ref c0, .ref d0, .int p3] (mP D (gTy cI cJ cQ) [(h0, .inr (3, [.ref orr, .ref os, .ref ow, .ref oh, .int oup, .int obA, .long obT, .ref pay, .ref stp, .ref hT, .ref hR, .int hrd, .ref pT, .ref pR, .int prd])), (orr, .inr (4, [.ref ur])), (ur, .inl (cI, 7, .inl w)), (os, .inr (0, [.ref uc, .int tot])), (uc, .inl (cI, 11, .inl f)), (oh, .inr (1, [.ref uh, .int n0, .int sm, .int (bI ace)])), (uh, .inl (cI, 12, .inl g)), (r0, .inr (4, [.ref r1])), (r1, .inl (cI, 7, .inl w3)), (c0, .inr (0, [.ref c1, .int tot3])), (c1, .inl (cI, 11, .inl f3)), (d0, .inr (1, [.ref d1, .int n3, .int sm3, .int (bI ace3)])), (d1, .inl (cI, 12, .inl g3))] sz)) (va_Qv (fun (u : (Nat → Int32) × Int32 × (Nat → Int32) × (Nat → Int32)) => match u with | (w2, tot2, f2, g2) => (∀ j, j < 7 → w2 j = w3 j) ∧ (∀ j, j < 11 → f2 j = f3 j) ∧ tot2 = tot3 ∧ (∀ j, j < 12 → g2 j = g3 j)) (fun (u : (Nat → Int32) × Int32 × (Nat → Int32) × (Nat → Int32)) t => match u with | (w2, tot2, f2, g2) => mB D (gTy cI cJ cQ) (va_A [(h0, .inr (3, [.ref orr, .ref os, .ref ow, .ref oh, .int oup, .int obA, .long obT, .ref pay, .ref stp, .ref hT, .ref hR, .int hrd, .ref pT, .ref pR, .int prd])), (orr, .inr (4, [.ref ur])), (ur, .inl (cI, 7, .inl w)), (os, .inr (0, [.ref uc, .int tot])), (uc, .inl (cI, 11, .inl f)), (oh, .inr (1, [.ref uh, .int n0, .int sm, .int (bI ace)])), (uh, .inl (cI, 12, .inl g)), (r0, .inr (4, [.ref r1])), (r1, .inl (cI, 7, .inl w3)), (c0, .inr (0, [.ref c1, .int tot3])), (c1, .inl (cI, 11, .inl f3)), (d0, .inr (1, [.ref d1, .int n3, .int sm3, .int (bI ace3)])), (d1, .inl (cI, 12, .inl g3))] sz) [(h0, .inr (3, [.ref orr, .ref os, .ref ow, .ref oh, .int p3, .int obA, .long obT, .ref pay, .ref stp, .ref hT, .ref hR, .int hrd, .ref pT, .ref pR, .int prd])), (orr, .inr (4, [.ref ur])), (ur, .inl (cI, 7, .inl w2)), (os, .inr (0, [.ref uc, .int tot2])), (uc, .inl (cI, 11, .inl f2)), (oh, .inr (1, [.ref uh, .int n3, .int sm3, .int (bI ace3)])), (uh, .inl (cI, 12, .inl g2)), (r0, .inr (4, [.ref r1])), (r1, .inl (cI, 7, .inl w3)), (c0, .inr (0, [.ref c1, .int tot3])), (c1, .inl (cI, 11, .inl f3)), (d0, .inr (1, [.ref d1, .int n3, .int sm3, .int (bI ace3)])), (d1, .inl (cI, 12, .inl g3))] t) (va_A [(h0, .inr (3, [.ref orr, .ref os, .ref ow, .ref oh, .int oup, .int obA, .long obT, .ref pay, .ref stp, .ref hT, .ref hR, .int hrd, .ref pT, .ref pR, .int prd])), (orr, .inr (4, [.ref ur])), (ur, .inl (cI, 7, .inl w)), (os, .inr (0, [.ref uc, .int tot])), (uc, .inl (cI, 11, .inl f)), (oh, .inr (1, [.ref uh, .int n0, .int sm, .int (bI ace)])), (uh, .inl (cI, 12, .inl g)), (r0, .inr (4, [.ref r1])), (r1, .inl (cI, 7, .inl w3)), (c0, .inr (0, [.ref c1, .int tot3])), (c1, .inl (cI, 11, .inl f3)), (d0, .inr (1, [.ref d1, .int n3, .int sm3, .int (bI ace3)])), (d1, .inl (cI, 12, .inl g3))] sz)) 0 0 (va_A [(h0, .inr (3, [.ref orr, .ref os, .ref ow, .ref oh, .int oup, .int obA, .long obT, .ref pay, .ref stp, .ref hT, .ref hR, .int hrd, .ref pT, .ref pR, .int prd])), (orr, .inr (4, [.ref ur])), (ur, .inl (cI, 7, .inl w)), (os, .inr (0, [.ref uc, .int tot])), (uc, .inl (cI, 11, .inl f)), (oh, .inr (1, [.ref uh, .int n0, .int sm, .int (bI ace)])), (uh, .inl (cI, 12, .inl g)), (r0, .inr (4, [.ref r1])), (r1, .inl (cI, 7, .inl w3)), (c0, .inr (0, [.ref c1, .int tot3])), (c1, .inl (cI, 11, .inl f3)), (d0, .inr (1, [.ref d1, .int n3, .int sm3, .int (bI ace3)])), (d1, .inl (cI, 12, .inl g3))] sz) := by
  refine Met.ofW (cc := cX3_look) (maxL := 5) (ret := none) (by decide) rfl ?_
  intro p e s m args below meth c s₁ B hml hv
  obtain ⟨rfl, hsz, hP, hK, hD0⟩ := hv
  have hx := B.exec
  have hb := B.bytes
  have hr := B.returns
  have hts := atoms_spec (ws := wsX3_look) B.pre
  have hown : s.vm.findClass RX3 = some m.cls := findClass_of_methodNamed B.named
  have hlocks := B.notSynchronized
  subst hsz
  have hD := hD0.self (sz := s.heap.size)
  generalize hAe : va_A [(h0, .inr (3, [.ref orr, .ref os, .ref ow, .ref oh, .int oup, .int obA, .long obT, .ref pay, .ref stp, .ref hT, .ref hR, .int hrd, .ref pT, .ref pR, .int prd])), (orr, .inr (4, [.ref ur])), (ur, .inl (cI, 7, .inl w)), (os, .inr (0, [.ref uc, .int tot])), (uc, .inl (cI, 11, .inl f)), (oh, .inr (1, [.ref uh, .int n0, .int sm, .int (bI ace)])), (uh, .inl (cI, 12, .inl g)), (r0, .inr (4, [.ref r1])), (r1, .inl (cI, 7, .inl w3)), (c0, .inr (0, [.ref c1, .int tot3])), (c1, .inl (cI, 11, .inl f3)), (d0, .inr (1, [.ref d1, .int n3, .int sm3, .int (bI ace3)])), (d1, .inl (cI, 12, .inl g3))] s.heap.size = A at hD ⊢
  have hA : ∀ q : Nat, s.heap.size ≤ q → A q := fun q h => by rw [← hAe]; exact Or.inr h
  have hS : va_S A s.heap s.heap [] := va_S.rf
  have hP : va_P D vwCl [(h0, .inr (3, [.ref orr, .ref os, .ref ow, .ref oh, .int oup, .int obA, .long obT, .ref pay, .ref stp, .ref hT, .ref hR, .int hrd, .ref pT, .ref pR, .int prd])), (orr, .inr (4, [.ref ur])), (ur, .inl (cI, 7, .inl w)), (os, .inr (0, [.ref uc, .int tot])), (uc, .inl (cI, 11, .inl f)), (oh, .inr (1, [.ref uh, .int n0, .int sm, .int (bI ace)])), (uh, .inl (cI, 12, .inl g)), (r0, .inr (4, [.ref r1])), (r1, .inl (cI, 7, .inl w3)), (c0, .inr (0, [.ref c1, .int tot3])), (c1, .inl (cI, 11, .inl f3)), (d0, .inr (1, [.ref d1, .int n3, .int sm3, .int (bI ace3)])), (d1, .inl (cI, 12, .inl g3))] s.heap := hP
  have hl := lv_entry ([.ref h0, .ref r0, .ref c0, .ref d0, .int p3]) (n := 5) (Nat.le_of_ble_eq_true rfl)
  rw [lg_entry_eq]
  generalize (lg_sl ([.ref h0, .ref r0, .ref c0, .ref d0, .int p3]) ++ List.replicate (5 - (lg_sl ([.ref h0, .ref r0, .ref c0, .ref d0, .int p3])).length) Slot.unset).toArray = ls at hl ⊢
  have hl : lv_has ls 5 [(0, .ref h0), (1, .ref r0), (2, .ref c0), (3, .ref d0), (4, .int p3)] := hl
  refine lv_aload_n hx hb dX3_look_0 rfl (lv_at hl 0 rfl) ?_
  refine va_get (D := D) (ci := 3) (v := .ref orr) (C := RX3) (T := TX3) (N := 15) hx hb hts in_X3_look_X3 hown hK hP 0 rfl rfl 0 (by decide) (hts _ wd_X3_look_0) (fun _ h9 => h9) rfl dX3_look_1 ?_
  refine lv_aload_n hx hb dX3_look_4 rfl (lv_at hl 1 rfl) ?_
  have hPc := hP.sub (ws' := [(orr, .inr (4, [.ref ur])), (ur, .inl (cI, 7, .inl w)), (r0, .inr (4, [.ref r1])), (r1, .inl (cI, 7, .inl w3))]) [1, 2, 7, 8] rfl
  have hDc := hD.sub (ws' := [(orr, .inr (4, [.ref ur])), (ur, .inl (cI, 7, .inl w)), (r0, .inr (4, [.ref r1])), (r1, .inl (cI, 7, .inl w3))]) [1, 2, 7, 8] (by decide) rfl
  have hFc := va_free (wc := [(orr, .inr (4, [.ref ur])), (ur, .inl (cI, 7, .inl w)), (r0, .inr (4, [.ref r1])), (r1, .inl (cI, 7, .inl w3))]) hD hS hA [1, 2, 7, 8] rfl
  refine va_callv (va_runV (As := [.ref r0]) (rest := []) ⟨hx, hb, hml, hown, hts⟩ (c_X4_copy l D cI cJ cQ _ orr ur (w) r0 r1 (w3)) (cwV 1 hts gX3_look_X4_copy rfl rfl rfl (by decide +kernel) ⟨Nat.le_of_ble_eq_true rfl, Nat.le_of_ble_eq_true rfl⟩) (mP_preV (ci := 4) (q0 := 0) hPc hK hDc rfl rfl) rfl rfl hl.1 rfl (lv_room (Nat.le_of_ble_eq_true rfl)) dX3_look_5 ⟨Nat.le_of_ble_eq_true rfl, Nat.le_of_ble_eq_true rfl⟩) hS (fun q _ h => hFc q h) hFc (fun u_r_1 t H1 locs ht hvm hr_1 hB hz1 hk1 hS => ?_)
  obtain ⟨w2_2, rfl⟩ : ∃ z, z = u_r_1 := ⟨_, rfl⟩
  obtain ⟨hP1, hK1, hD1⟩ := hB
  rw [ht] at hP1
  try dsimp only at hr_1
  obtain ⟨hP, hD⟩ := va_join (wr := [(h0, .inr (3, [.ref orr, .ref os, .ref ow, .ref oh, .int oup, .int obA, .long obT, .ref pay, .ref stp, .ref hT, .ref hR, .int hrd, .ref pT, .ref pR, .int prd])), (os, .inr (0, [.ref uc, .int tot])), (uc, .inl (cI, 11, .inl f)), (oh, .inr (1, [.ref uh, .int n0, .int sm, .int (bI ace)])), (uh, .inl (cI, 12, .inl g)), (c0, .inr (0, [.ref c1, .int tot3])), (c1, .inl (cI, 11, .inl f3)), (d0, .inr (1, [.ref d1, .int n3, .int sm3, .int (bI ace3)])), (d1, .inl (cI, 12, .inl g3))]) (w1 := [(orr, .inr (4, [.ref ur])), (ur, .inl (cI, 7, .inl w2_2)), (r0, .inr (4, [.ref r1])), (r1, .inl (cI, 7, .inl (w3)))]) hP hD [1, 2, 7, 8] [0, 3, 4, 5, 6, 9, 10, 11, 12] rfl rfl (by decide) (by decide) hk1 hFc hP1 hD1
  generalize H1 = H at hP hS ⊢
  have hP : va_P D vwCl [(h0, .inr (3, [.ref orr, .ref os, .ref ow, .ref oh, .int oup, .int obA, .long obT, .ref pay, .ref stp, .ref hT, .ref hR, .int hrd, .ref pT, .ref pR, .int prd])), (os, .inr (0, [.ref uc, .int tot])), (uc, .inl (cI, 11, .inl f)), (oh, .inr (1, [.ref uh, .int n0, .int sm, .int (bI ace)])), (uh, .inl (cI, 12, .inl g)), (c0, .inr (0, [.ref c1, .int tot3])), (c1, .inl (cI, 11, .inl f3)), (d0, .inr (1, [.ref d1, .int n3, .int sm3, .int (bI ace3)])), (d1, .inl (cI, 12, .inl g3)), (orr, .inr (4, [.ref ur])), (ur, .inl (cI, 7, .inl w2_2)), (r0, .inr (4, [.ref r1])), (r1, .inl (cI, 7, .inl (w3)))] H := hP
  have hD : va_D A [(h0, .inr (3, [.ref orr, .ref os, .ref ow, .ref oh, .int oup, .int obA, .long obT, .ref pay, .ref stp, .ref hT, .ref hR, .int hrd, .ref pT, .ref pR, .int prd])), (os, .inr (0, [.ref uc, .int tot])), (uc, .inl (cI, 11, .inl f)), (oh, .inr (1, [.ref uh, .int n0, .int sm, .int (bI ace)])), (uh, .inl (cI, 12, .inl g)), (c0, .inr (0, [.ref c1, .int tot3])), (c1, .inl (cI, 11, .inl f3)), (d0, .inr (1, [.ref d1, .int n3, .int sm3, .int (bI ace3)])), (d1, .inl (cI, 12, .inl g3)), (orr, .inr (4, [.ref ur])), (ur, .inl (cI, 7, .inl w2_2)), (r0, .inr (4, [.ref r1])), (r1, .inl (cI, 7, .inl (w3)))] := hD
  refine lv_aload_n hx hb dX3_look_8 rfl (lv_at hl 0 rfl) ?_
  refine va_get (D := D) (ci := 3) (v := .ref os) (C := RX3) (T := TX3) (N := 15) hx hb hts in_X3_look_X3 hown hK hP 0 rfl rfl 1 (by decide) (hts _ wd_X3_look_1) (fun _ h9 => h9) rfl dX3_look_9 ?_
  refine lv_aload_n hx hb dX3_look_12 rfl (lv_at hl 2 rfl) ?_
  have hPc := hP.sub (ws' := [(os, .inr (0, [.ref uc, .int tot])), (uc, .inl (cI, 11, .inl f)), (c0, .inr (0, [.ref c1, .int tot3])), (c1, .inl (cI, 11, .inl f3))]) [1, 2, 5, 6] rfl
  have hDc := hD.sub (ws' := [(os, .inr (0, [.ref uc, .int tot])), (uc, .inl (cI, 11, .inl f)), (c0, .inr (0, [.ref c1, .int tot3])), (c1, .inl (cI, 11, .inl f3))]) [1, 2, 5, 6] (by decide) rfl
  have hFc := va_free (wc := [(os, .inr (0, [.ref uc, .int tot])), (uc, .inl (cI, 11, .inl f)), (c0, .inr (0, [.ref c1, .int tot3])), (c1, .inl (cI, 11, .inl f3))]) hD hS hA [1, 2, 5, 6] rfl
  refine va_callv (va_runV (As := [.ref c0]) (rest := []) ⟨hx, hb, hml, hown, hts⟩ (c_X0_copy l D cI cJ cQ _ os uc tot (f) c0 c1 tot3 (f3)) (cwV 1 hts gX3_look_X0_copy rfl rfl rfl (by decide +kernel) ⟨Nat.le_of_ble_eq_true rfl, Nat.le_of_ble_eq_true rfl⟩) (mP_preV (ci := 0) (q0 := 0) hPc hK hDc rfl rfl) rfl rfl hl.1 rfl (lv_room (Nat.le_of_ble_eq_true rfl)) dX3_look_13 ⟨Nat.le_of_ble_eq_true rfl, Nat.le_of_ble_eq_true rfl⟩) hS (fun q _ h => hFc q h) hFc (fun u_r_3 t H1 locs ht hvm hr_3 hB hz1 hk1 hS => ?_)
  obtain ⟨tot2_4, f2_5⟩ := u_r_3
  obtain ⟨hP1, hK1, hD1⟩ := hB
  rw [ht] at hP1
  try dsimp only at hr_3
  obtain ⟨hP, hD⟩ := va_join (wr := [(h0, .inr (3, [.ref orr, .ref os, .ref ow, .ref oh, .int oup, .int obA, .long obT, .ref pay, .ref stp, .ref hT, .ref hR, .int hrd, .ref pT, .ref pR, .int prd])), (oh, .inr (1, [.ref uh, .int n0, .int sm, .int (bI ace)])), (uh, .inl (cI, 12, .inl g)), (d0, .inr (1, [.ref d1, .int n3, .int sm3, .int (bI ace3)])), (d1, .inl (cI, 12, .inl g3)), (orr, .inr (4, [.ref ur])), (ur, .inl (cI, 7, .inl w2_2)), (r0, .inr (4, [.ref r1])), (r1, .inl (cI, 7, .inl (w3)))]) (w1 := [(os, .inr (0, [.ref uc, .int tot2_4])), (uc, .inl (cI, 11, .inl f2_5)), (c0, .inr (0, [.ref c1, .int tot3])), (c1, .inl (cI, 11, .inl (f3)))]) hP hD [1, 2, 5, 6] [0, 3, 4, 7, 8, 9, 10, 11, 12] rfl rfl (by decide) (by decide) hk1 hFc hP1 hD1
  generalize H1 = H at hP hS ⊢
  have hP : va_P D vwCl [(h0, .inr (3, [.ref orr, .ref os, .ref ow, .ref oh, .int oup, .int obA, .long obT, .ref pay, .ref stp, .ref hT, .ref hR, .int hrd, .ref pT, .ref pR, .int prd])), (oh, .inr (1, [.ref uh, .int n0, .int sm, .int (bI ace)])), (uh, .inl (cI, 12, .inl g)), (d0, .inr (1, [.ref d1, .int n3, .int sm3, .int (bI ace3)])), (d1, .inl (cI, 12, .inl g3)), (orr, .inr (4, [.ref ur])), (ur, .inl (cI, 7, .inl w2_2)), (r0, .inr (4, [.ref r1])), (r1, .inl (cI, 7, .inl (w3))), (os, .inr (0, [.ref uc, .int tot2_4])), (uc, .inl (cI, 11, .inl f2_5)), (c0, .inr (0, [.ref c1, .int tot3])), (c1, .inl (cI, 11, .inl (f3)))] H := hP
  have hD : va_D A [(h0, .inr (3, [.ref orr, .ref os, .ref ow, .ref oh, .int oup, .int obA, .long obT, .ref pay, .ref stp, .ref hT, .ref hR, .int hrd, .ref pT, .ref pR, .int prd])), (oh, .inr (1, [.ref uh, .int n0, .int sm, .int (bI ace)])), (uh, .inl (cI, 12, .inl g)), (d0, .inr (1, [.ref d1, .int n3, .int sm3, .int (bI ace3)])), (d1, .inl (cI, 12, .inl g3)), (orr, .inr (4, [.ref ur])), (ur, .inl (cI, 7, .inl w2_2)), (r0, .inr (4, [.ref r1])), (r1, .inl (cI, 7, .inl (w3))), (os, .inr (0, [.ref uc, .int tot2_4])), (uc, .inl (cI, 11, .inl f2_5)), (c0, .inr (0, [.ref c1, .int tot3])), (c1, .inl (cI, 11, .inl (f3)))] := hD
  refine lv_aload_n hx hb dX3_look_16 rfl (lv_at hl 0 rfl) ?_
  refine va_get (D := D) (ci := 3) (v := .ref oh) (C := RX3) (T := TX3) (N := 15) hx hb hts in_X3_look_X3 hown hK hP 0 rfl rfl 3 (by decide) (hts _ wd_X3_look_2) (fun _ h9 => h9) rfl dX3_look_17 ?_
  refine lv_aload_n hx hb dX3_look_20 rfl (lv_at hl 3 rfl) ?_
  have hPc := hP.sub (ws' := [(oh, .inr (1, [.ref uh, .int n0, .int sm, .int (bI ace)])), (uh, .inl (cI, 12, .inl g)), (d0, .inr (1, [.ref d1, .int n3, .int sm3, .int (bI ace3)])), (d1, .inl (cI, 12, .inl g3))]) [1, 2, 3, 4] rfl
  have hDc := hD.sub (ws' := [(oh, .inr (1, [.ref uh, .int n0, .int sm, .int (bI ace)])), (uh, .inl (cI, 12, .inl g)), (d0, .inr (1, [.ref d1, .int n3, .int sm3, .int (bI ace3)])), (d1, .inl (cI, 12, .inl g3))]) [1, 2, 3, 4] (by decide) rfl
  have hFc := va_free (wc := [(oh, .inr (1, [.ref uh, .int n0, .int sm, .int (bI ace)])), (uh, .inl (cI, 12, .inl g)), (d0, .inr (1, [.ref d1, .int n3, .int sm3, .int (bI ace3)])), (d1, .inl (cI, 12, .inl g3))]) hD hS hA [1, 2, 3, 4] rfl
  refine va_callv (va_runV (As := [.ref d0]) (rest := []) ⟨hx, hb, hml, hown, hts⟩ (c_X1_copy l D cI cJ cQ _ oh uh n0 sm ace (g) d0 d1 n3 sm3 ace3 (g3)) (cwV 1 hts gX3_look_X1_copy rfl rfl rfl (by decide +kernel) ⟨Nat.le_of_ble_eq_true rfl, Nat.le_of_ble_eq_true rfl⟩) (mP_preV (ci := 1) (q0 := 0) hPc hK hDc rfl rfl) rfl rfl hl.1 rfl (lv_room (Nat.le_of_ble_eq_true rfl)) dX3_look_21 ⟨Nat.le_of_ble_eq_true rfl, Nat.le_of_ble_eq_true rfl⟩) hS (fun q _ h => hFc q h) hFc (fun u_r_6 t H1 locs ht hvm hr_6 hB hz1 hk1 hS => ?_)
  obtain ⟨g2_7, rfl⟩ : ∃ z, z = u_r_6 := ⟨_, rfl⟩
  obtain ⟨hP1, hK1, hD1⟩ := hB
  rw [ht] at hP1
  try dsimp only at hr_6
  obtain ⟨hP, hD⟩ := va_join (wr := [(h0, .inr (3, [.ref orr, .ref os, .ref ow, .ref oh, .int oup, .int obA, .long obT, .ref pay, .ref stp, .ref hT, .ref hR, .int hrd, .ref pT, .ref pR, .int prd])), (orr, .inr (4, [.ref ur])), (ur, .inl (cI, 7, .inl w2_2)), (r0, .inr (4, [.ref r1])), (r1, .inl (cI, 7, .inl (w3))), (os, .inr (0, [.ref uc, .int tot2_4])), (uc, .inl (cI, 11, .inl f2_5)), (c0, .inr (0, [.ref c1, .int tot3])), (c1, .inl (cI, 11, .inl (f3)))]) (w1 := [(oh, .inr (1, [.ref uh, .int n3, .int sm3, .int (bI ace3)])), (uh, .inl (cI, 12, .inl g2_7)), (d0, .inr (1, [.ref d1, .int n3, .int sm3, .int (bI ace3)])), (d1, .inl (cI, 12, .inl (g3)))]) hP hD [1, 2, 3, 4] [0, 5, 6, 7, 8, 9, 10, 11, 12] rfl rfl (by decide) (by decide) hk1 hFc hP1 hD1
  generalize H1 = H at hP hS ⊢
  have hP : va_P D vwCl [(h0, .inr (3, [.ref orr, .ref os, .ref ow, .ref oh, .int oup, .int obA, .long obT, .ref pay, .ref stp, .ref hT, .ref hR, .int hrd, .ref pT, .ref pR, .int prd])), (orr, .inr (4, [.ref ur])), (ur, .inl (cI, 7, .inl w2_2)), (r0, .inr (4, [.ref r1])), (r1, .inl (cI, 7, .inl (w3))), (os, .inr (0, [.ref uc, .int tot2_4])), (uc, .inl (cI, 11, .inl f2_5)), (c0, .inr (0, [.ref c1, .int tot3])), (c1, .inl (cI, 11, .inl (f3))), (oh, .inr (1, [.ref uh, .int n3, .int sm3, .int (bI ace3)])), (uh, .inl (cI, 12, .inl g2_7)), (d0, .inr (1, [.ref d1, .int n3, .int sm3, .int (bI ace3)])), (d1, .inl (cI, 12, .inl (g3)))] H := hP
  have hD : va_D A [(h0, .inr (3, [.ref orr, .ref os, .ref ow, .ref oh, .int oup, .int obA, .long obT, .ref pay, .ref stp, .ref hT, .ref hR, .int hrd, .ref pT, .ref pR, .int prd])), (orr, .inr (4, [.ref ur])), (ur, .inl (cI, 7, .inl w2_2)), (r0, .inr (4, [.ref r1])), (r1, .inl (cI, 7, .inl (w3))), (os, .inr (0, [.ref uc, .int tot2_4])), (uc, .inl (cI, 11, .inl f2_5)), (c0, .inr (0, [.ref c1, .int tot3])), (c1, .inl (cI, 11, .inl (f3))), (oh, .inr (1, [.ref uh, .int n3, .int sm3, .int (bI ace3)])), (uh, .inl (cI, 12, .inl g2_7)), (d0, .inr (1, [.ref d1, .int n3, .int sm3, .int (bI ace3)])), (d1, .inl (cI, 12, .inl (g3)))] := hD
  refine lv_aload_n hx hb dX3_look_24 rfl (lv_at hl 0 rfl) ?_
  refine lv_iload hx hb dX3_look_25 (lv_at hl 4 rfl) ?_
  refine va_put (D := D) (ci := 3) (v := .int p3) (ty := .int) (C := RX3) (T := TX3) (N := 15) hx hb hts in_X3_look_X3 tyX3 tyX3_ok nmX3 hown hK hP hD hS 0 rfl rfl 4 (by decide) (hts _ wd_X3_look_3) (fun _ h9 => h9) rfl (by decide +kernel) rfl rfl (Nat.le_of_ble_eq_true rfl) dX3_look_27 (fun H locs hP hD hS => ?_)
  have hP : va_P D vwCl [(h0, .inr (3, [.ref orr, .ref os, .ref ow, .ref oh, .int p3, .int obA, .long obT, .ref pay, .ref stp, .ref hT, .ref hR, .int hrd, .ref pT, .ref pR, .int prd])), (orr, .inr (4, [.ref ur])), (ur, .inl (cI, 7, .inl w2_2)), (r0, .inr (4, [.ref r1])), (r1, .inl (cI, 7, .inl (w3))), (os, .inr (0, [.ref uc, .int tot2_4])), (uc, .inl (cI, 11, .inl f2_5)), (c0, .inr (0, [.ref c1, .int tot3])), (c1, .inl (cI, 11, .inl (f3))), (oh, .inr (1, [.ref uh, .int n3, .int sm3, .int (bI ace3)])), (uh, .inl (cI, 12, .inl g2_7)), (d0, .inr (1, [.ref d1, .int n3, .int sm3, .int (bI ace3)])), (d1, .inl (cI, 12, .inl (g3)))] H := hP
  have hD : va_D A [(h0, .inr (3, [.ref orr, .ref os, .ref ow, .ref oh, .int p3, .int obA, .long obT, .ref pay, .ref stp, .ref hT, .ref hR, .int hrd, .ref pT, .ref pR, .int prd])), (orr, .inr (4, [.ref ur])), (ur, .inl (cI, 7, .inl w2_2)), (r0, .inr (4, [.ref r1])), (r1, .inl (cI, 7, .inl (w3))), (os, .inr (0, [.ref uc, .int tot2_4])), (uc, .inl (cI, 11, .inl f2_5)), (c0, .inr (0, [.ref c1, .int tot3])), (c1, .inl (cI, 11, .inl (f3))), (oh, .inr (1, [.ref uh, .int n3, .int sm3, .int (bI ace3)])), (uh, .inl (cI, 12, .inl g2_7)), (d0, .inr (1, [.ref d1, .int n3, .int sm3, .int (bI ace3)])), (d1, .inl (cI, 12, .inl (g3)))] := hD
  have hP9 := hP.sub (ws' := [(h0, .inr (3, [.ref orr, .ref os, .ref ow, .ref oh, .int p3, .int obA, .long obT, .ref pay, .ref stp, .ref hT, .ref hR, .int hrd, .ref pT, .ref pR, .int prd])), (orr, .inr (4, [.ref ur])), (ur, .inl (cI, 7, .inl w2_2)), (os, .inr (0, [.ref uc, .int tot2_4])), (uc, .inl (cI, 11, .inl f2_5)), (oh, .inr (1, [.ref uh, .int n3, .int sm3, .int (bI ace3)])), (uh, .inl (cI, 12, .inl g2_7)), (r0, .inr (4, [.ref r1])), (r1, .inl (cI, 7, .inl (w3))), (c0, .inr (0, [.ref c1, .int tot3])), (c1, .inl (cI, 11, .inl (f3))), (d0, .inr (1, [.ref d1, .int n3, .int sm3, .int (bI ace3)])), (d1, .inl (cI, 12, .inl (g3)))]) [0, 1, 2, 5, 6, 9, 10, 3, 4, 7, 8, 11, 12] rfl
  have hD9 := hD.sub (ws' := [(h0, .inr (3, [.ref orr, .ref os, .ref ow, .ref oh, .int p3, .int obA, .long obT, .ref pay, .ref stp, .ref hT, .ref hR, .int hrd, .ref pT, .ref pR, .int prd])), (orr, .inr (4, [.ref ur])), (ur, .inl (cI, 7, .inl w2_2)), (os, .inr (0, [.ref uc, .int tot2_4])), (uc, .inl (cI, 11, .inl f2_5)), (oh, .inr (1, [.ref uh, .int n3, .int sm3, .int (bI ace3)])), (uh, .inl (cI, 12, .inl g2_7)), (r0, .inr (4, [.ref r1])), (r1, .inl (cI, 7, .inl (w3))), (c0, .inr (0, [.ref c1, .int tot3])), (c1, .inl (cI, 11, .inl (f3))), (d0, .inr (1, [.ref d1, .int n3, .int sm3, .int (bI ace3)])), (d1, .inl (cI, 12, .inl (g3)))]) [0, 1, 2, 5, 6, 9, 10, 3, 4, 7, 8, 11, 12] (by decide) rfl
  exact W.vret hx hb hr (fun t ht hW => ⟨⟨((w2_2), tot2_4, (f2_5), (g2_7)), rfl, ⟨hr_1, hr_3.2, hr_3.1, hr_6⟩, by rw [ht]; exact hP9, va_K.moved hW.alike hK, hD9⟩, hS.F ht⟩) hS.2.2 dX3_look_30

set_option maxRecDepth 20000 in
theorem in_X3_isThere_X3 : ∀ w ∈ wsX30, w ∈ wsX3_isThere := by decide +kernel
set_option maxRecDepth 20000 in
theorem wd_X3_isThere_0 : Cond.fieldLink RX3 31 "ShoeTable$Odds" "hand" "LShoeTable$Hand;" ∈ wsX3_isThere := by decide +kernel
set_option maxRecDepth 20000 in
theorem in_X3_isThere_X1 : ∀ w ∈ wsX10, w ∈ wsX3_isThere := by decide +kernel
set_option maxRecDepth 20000 in
theorem wd_X3_isThere_1 : Cond.fieldLink RX3 82 "ShoeTable$Hand" "size" "I" ∈ wsX3_isThere := by decide +kernel
set_option maxRecDepth 20000 in
theorem wd_X3_isThere_2 : Cond.fieldLink RX3 12 "ShoeTable$Odds" "rules" "LShoeTable$Rules;" ∈ wsX3_isThere := by decide +kernel
set_option maxRecDepth 20000 in
theorem wd_X3_isThere_3 : Cond.fieldLink RX3 85 "ShoeTable$Hand" "sum" "I" ∈ wsX3_isThere := by decide +kernel
set_option maxRecDepth 20000 in
theorem wd_X3_isThere_4 : Cond.fieldLink RX3 35 "ShoeTable$Odds" "up" "I" ∈ wsX3_isThere := by decide +kernel
set_option maxRecDepth 20000 in
theorem wd_X3_isThere_5 : Cond.fieldLink RX3 21 "ShoeTable$Odds" "shoe" "LShoeTable$Cards;" ∈ wsX3_isThere := by decide +kernel
set_option maxRecDepth 20000 in
theorem in_X3_isThere_X0 : ∀ w ∈ wsX00, w ∈ wsX3_isThere := by decide +kernel
set_option maxRecDepth 20000 in
theorem wd_X3_isThere_6 : Cond.fieldLink RX3 92 "ShoeTable$Cards" "total" "I" ∈ wsX3_isThere := by decide +kernel
set_option maxHeartbeats 400000 in
set_option maxRecDepth 100000 in
/-- X3_isThere -/
theorem c_X3_isThere (l : Launch) (D : va_G) (cI cJ cQ : ClassId) (h0 : Nat) (orr : Nat) (os : Nat) (ow : Nat) (oh : Nat) (oup : Int32) (obA : Int32) (obT : Int64) (pay : Nat) (stp : Nat) (hT : Nat) (hR : Nat) (hrd : Int32) (pT : Nat) (pR : Nat) (prd : Int32) (ur : Nat) (w : Nat → Int32) (uc : Nat) (tot : Int32) (f : Nat → Int32) (uh : Nat) (n0 : Int32) (sm : Int32) (ace : Bool) (g : Nat → Int32) (p0 : Int32)  : Met l yX3_isThere wsX3_isThere ({ frames := 1, cells := 0, slots := 0, locals := 21 }) (va_Pc [.ref h0, .int p0] (rP D (gTy cI cJ cQ) [(h0, .inr (3, [.ref orr, .ref os, .ref ow, .ref oh, .int oup, .int obA, .long obT, .ref pay, .ref stp, .ref hT, .ref hR, .int hrd, .ref pT, .ref pR, .int prd])), (orr, .inr (4, [.ref ur])), (ur, .inl (cI, 7, .inl w)), (os, .inr (0, [.ref uc, .int tot])), (uc, .inl (cI, 11, .inl f)), (oh, .inr (1, [.ref uh, .int n0, .int sm, .int (bI ace)])), (uh, .inl (cI, 12, .inl g))])) (vp_Si (fun r => r = thC w n0 sm g oup tot p0)) 0 0 (fun _ => False) := by
  refine Met.ofW (cc := cX3_isThere) (maxL := 2) (ret := (some .boolean)) (by decide) rfl ?_
  intro p e s m args below meth c s₁ B hml hv
  obtain ⟨rfl, hP, hK⟩ := hv
  have hx := B.exec
  have hb := B.bytes
  have hr := B.returns
  have hts := atoms_spec (ws := wsX3_isThere) B.pre
  have hown : s.vm.findClass RX3 = some m.cls := findClass_of_methodNamed B.named
  have hlocks := B.notSynchronized
  have hl := lv_entry ([.ref h0, .int p0]) (n := 2) (Nat.le_of_ble_eq_true rfl)
  rw [lg_entry_eq]
  generalize (lg_sl ([.ref h0, .int p0]) ++ List.replicate (2 - (lg_sl ([.ref h0, .int p0])).length) Slot.unset).toArray = ls at hl ⊢
  have hl : lv_has ls 2 [(0, .ref h0), (1, .int p0)] := hl
  refine lv_aload_n hx hb dX3_isThere_0 rfl (lv_at hl 0 rfl) ?_
  refine va_get (D := D) (ci := 3) (v := .ref oh) (C := RX3) (T := TX3) (N := 15) hx hb hts in_X3_isThere_X3 hown hK hP 0 rfl rfl 3 (by decide) (hts _ wd_X3_isThere_0) (fun _ h9 => h9) rfl dX3_isThere_1 ?_
  refine va_get (D := D) (ci := 1) (v := .int n0) (C := RX1) (T := TX1) (N := 4) hx hb hts in_X3_isThere_X1 hown hK hP 5 rfl rfl 1 (by decide) (hts _ wd_X3_isThere_1) (fun _ h9 => h9) rfl dX3_isThere_4 ?_
  refine lv_if_eq (tgt := 35) hx hb dX3_isThere_7 (by decide) (fun c7_1 => ?_) (fun c7_1 => ?_)
  · skip
    refine lv_iconst (v := 0) hx hb dX3_isThere_35 (by decide) ?_
    exact W.zret (v := 0) hx hb hr rfl (fun t ht hW => ⟨_, rfl, (by unfold thC; first | (simp [c7_1]; done) | ((try first | rw [if_pos c7_1] | rw [if_neg c7_1]); first | done | rfl | trivial)), ht⟩) (fun q hq => absurd hq List.not_mem_nil) dX3_isThere_36
  · skip
    refine lv_aload_n hx hb dX3_isThere_10 rfl (lv_at hl 0 rfl) ?_
    refine va_get (D := D) (ci := 3) (v := .ref orr) (C := RX3) (T := TX3) (N := 15) hx hb hts in_X3_isThere_X3 hown hK hP 0 rfl rfl 0 (by decide) (hts _ wd_X3_isThere_2) (fun _ h9 => h9) rfl dX3_isThere_11 ?_
    refine lv_aload_n hx hb dX3_isThere_14 rfl (lv_at hl 0 rfl) ?_
    refine va_get (D := D) (ci := 3) (v := .ref oh) (C := RX3) (T := TX3) (N := 15) hx hb hts in_X3_isThere_X3 hown hK hP 0 rfl rfl 3 (by decide) (hts _ wd_X3_isThere_0) (fun _ h9 => h9) rfl dX3_isThere_15 ?_
    refine va_get (D := D) (ci := 1) (v := .int sm) (C := RX1) (T := TX1) (N := 4) hx hb hts in_X3_isThere_X1 hown hK hP 5 rfl rfl 2 (by decide) (hts _ wd_X3_isThere_3) (fun _ h9 => h9) rfl dX3_isThere_18 ?_
    have hPc := hP.sub (ws' := [(orr, .inr (4, [.ref ur])), (ur, .inl (cI, 7, .inl w))]) [1, 2] rfl
    refine vp_callSi (W.runV (As := [.int sm]) (rest := []) ⟨hx, hb, hml, hown, hts⟩ (c_X4_isBustV l D cI cJ cQ orr ur (w) sm) (cwV 1 hts gX3_isThere_X4_isBust rfl rfl rfl (by decide +kernel) ⟨Nat.le_of_ble_eq_true rfl, Nat.le_of_ble_eq_true rfl⟩) (rP_preV (ci := 4) (q0 := 0) hPc hK rfl rfl) rfl rfl hl.1 rfl (lv_room (Nat.le_of_ble_eq_true rfl)) dX3_isThere_21 ⟨Nat.le_of_ble_eq_true rfl, Nat.le_of_ble_eq_true rfl⟩) (fun r_2 hr_2 => ?_)
    subst hr_2
    refine lv_if_ne (tgt := 35) hx hb dX3_isThere_24 (by decide) (fun c24_3 => ?_) (fun c24_3 => ?_)
    · skip
      refine lv_iconst (v := 0) hx hb dX3_isThere_35 (by decide) ?_
      exact W.zret (v := 0) hx hb hr rfl (fun t ht hW => ⟨_, rfl, (by unfold thC; first | (simp [c7_1, c24_3]; done) | ((try first | rw [if_pos c7_1] | rw [if_neg c7_1]); (try first | rw [if_pos c24_3] | rw [if_neg c24_3]); first | done | rfl | trivial)), ht⟩) (fun q hq => absurd hq List.not_mem_nil) dX3_isThere_36
    · skip
      refine lv_aload_n hx hb dX3_isThere_27 rfl (lv_at hl 0 rfl) ?_
      refine va_get (D := D) (ci := 3) (v := .int oup) (C := RX3) (T := TX3) (N := 15) hx hb hts in_X3_isThere_X3 hown hK hP 0 rfl rfl 4 (by decide) (hts _ wd_X3_isThere_4) (fun _ h9 => h9) rfl dX3_isThere_28 ?_
      refine lv_iconst (v := (-1)) hx hb dX3_isThere_31 (by decide) ?_
      refine lv_icmp_ne (tgt := 37) hx hb dX3_isThere_32 (by decide) (fun c32_4 => ?_) (fun c32_4 => ?_)
      · skip
        refine lv_iload_n hx hb dX3_isThere_37 rfl (lv_at hl 1 rfl) ?_
        by_cases k0_5 : p0 = 0
        · subst k0_5
          refine lv_tableIn (off := 34) (tgt := 72) hx hb dX3_isThere_38 (by decide) (by decide) (by decide) (by decide) ?_
          refine lv_iconst (v := 1) hx hb dX3_isThere_72 (by decide) ?_
          exact W.zret (v := 1) hx hb hr rfl (fun t ht hW => ⟨_, rfl, (by unfold thC; first | (simp [c7_1, c24_3, c32_4]; done) | ((try first | rw [if_pos c7_1] | rw [if_neg c7_1]); (try first | rw [if_pos c24_3] | rw [if_neg c24_3]); (try first | rw [if_pos c32_4] | rw [if_neg c32_4]); first | done | rfl | trivial)), ht⟩) (fun q hq => absurd hq List.not_mem_nil) dX3_isThere_73
        by_cases k1_6 : p0 = 1
        · subst k1_6
          refine lv_tableIn (off := 36) (tgt := 74) hx hb dX3_isThere_38 (by decide) (by decide) (by decide) (by decide) ?_
          refine lv_aload_n hx hb dX3_isThere_74 rfl (lv_at hl 0 rfl) ?_
          refine va_get (D := D) (ci := 3) (v := .ref os) (C := RX3) (T := TX3) (N := 15) hx hb hts in_X3_isThere_X3 hown hK hP 0 rfl rfl 1 (by decide) (hts _ wd_X3_isThere_5) (fun _ h9 => h9) rfl dX3_isThere_75 ?_
          refine va_get (D := D) (ci := 0) (v := .int tot) (C := RX0) (T := TX0) (N := 2) hx hb hts in_X3_isThere_X0 hown hK hP 3 rfl rfl 1 (by decide) (hts _ wd_X3_isThere_6) (fun _ h9 => h9) rfl dX3_isThere_78 ?_
          refine lv_iconst (v := 1) hx hb dX3_isThere_81 (by decide) ?_
          refine lv_icmp_lt (tgt := 99) hx hb dX3_isThere_82 (by decide) (fun c82_7 => ?_) (fun c82_7 => ?_)
          · skip
            refine lv_iconst (v := 0) hx hb dX3_isThere_99 (by decide) ?_
            exact W.zret (v := 0) hx hb hr rfl (fun t ht hW => ⟨_, rfl, (by unfold thC; first | (simp [c7_1, c24_3, c32_4, c82_7]; done) | ((try first | rw [if_pos c7_1] | rw [if_neg c7_1]); (try first | rw [if_pos c24_3] | rw [if_neg c24_3]); (try first | rw [if_pos c32_4] | rw [if_neg c32_4]); (try first | rw [if_pos c82_7] | rw [if_neg c82_7]); first | done | rfl | trivial)), ht⟩) (fun q hq => absurd hq List.not_mem_nil) dX3_isThere_100
          · skip
            refine lv_aload_n hx hb dX3_isThere_85 rfl (lv_at hl 0 rfl) ?_
            refine va_get (D := D) (ci := 3) (v := .ref oh) (C := RX3) (T := TX3) (N := 15) hx hb hts in_X3_isThere_X3 hown hK hP 0 rfl rfl 3 (by decide) (hts _ wd_X3_isThere_0) (fun _ h9 => h9) rfl dX3_isThere_86 ?_
            have hPc := hP.sub (ws' := [(oh, .inr (1, [.ref uh, .int n0, .int sm, .int (bI ace)])), (uh, .inl (cI, 12, .inl g))]) [5, 6] rfl
            refine vp_callSi (W.runV (As := []) (rest := []) ⟨hx, hb, hml, hown, hts⟩ (c_X1_isFullV l D cI cJ cQ oh uh n0 sm ace (g)) (cwV 0 hts gX3_isThere_X1_isFull rfl rfl rfl (by decide +kernel) ⟨Nat.le_of_ble_eq_true rfl, Nat.le_of_ble_eq_true rfl⟩) (rP_preV (ci := 1) (q0 := 0) hPc hK rfl rfl) rfl rfl hl.1 rfl (lv_room (Nat.le_of_ble_eq_true rfl)) dX3_isThere_89 ⟨Nat.le_of_ble_eq_true rfl, Nat.le_of_ble_eq_true rfl⟩) (fun r_8 hr_8 => ?_)
            subst hr_8
            refine lv_if_ne (tgt := 99) hx hb dX3_isThere_92 (by decide) (fun c92_9 => ?_) (fun c92_9 => ?_)
            · skip
              refine lv_iconst (v := 0) hx hb dX3_isThere_99 (by decide) ?_
              exact W.zret (v := 0) hx hb hr rfl (fun t ht hW => ⟨_, rfl, (by unfold thC; first | (simp [c7_1, c24_3, c32_4, c82_7, c92_9]; done) | ((try first | rw [if_pos c7_1] | rw [if_neg c7_1]); (try first | rw [if_pos c24_3] | rw [if_neg c24_3]); (try first | rw [if_pos c32_4] | rw [if_neg c32_4]); (try first | rw [if_pos c82_7] | rw [if_neg c82_7]); (try first | rw [if_pos c92_9] | rw [if_neg c92_9]); first | done | rfl | trivial)), ht⟩) (fun q hq => absurd hq List.not_mem_nil) dX3_isThere_100
            · skip
              refine lv_iconst (v := 1) hx hb dX3_isThere_95 (by decide) ?_
              refine lv_goto (tgt := 100) hx hb dX3_isThere_96 (by decide) ?_
              exact W.zret (v := 1) hx hb hr rfl (fun t ht hW => ⟨_, rfl, (by unfold thC; first | (simp [c7_1, c24_3, c32_4, c82_7, c92_9]; done) | ((try first | rw [if_pos c7_1] | rw [if_neg c7_1]); (try first | rw [if_pos c24_3] | rw [if_neg c24_3]); (try first | rw [if_pos c32_4] | rw [if_neg c32_4]); (try first | rw [if_pos c82_7] | rw [if_neg c82_7]); (try first | rw [if_pos c92_9] | rw [if_neg c92_9]); first | done | rfl | trivial)), ht⟩) (fun q hq => absurd hq List.not_mem_nil) dX3_isThere_100
        by_cases k2_10 : p0 = 2
        · subst k2_10
          refine lv_tableIn (off := 63) (tgt := 101) hx hb dX3_isThere_38 (by decide) (by decide) (by decide) (by decide) ?_
          refine lv_aload_n hx hb dX3_isThere_101 rfl (lv_at hl 0 rfl) ?_
          refine va_get (D := D) (ci := 3) (v := .ref oh) (C := RX3) (T := TX3) (N := 15) hx hb hts in_X3_isThere_X3 hown hK hP 0 rfl rfl 3 (by decide) (hts _ wd_X3_isThere_0) (fun _ h9 => h9) rfl dX3_isThere_102 ?_
          refine va_get (D := D) (ci := 1) (v := .int n0) (C := RX1) (T := TX1) (N := 4) hx hb hts in_X3_isThere_X1 hown hK hP 5 rfl rfl 1 (by decide) (hts _ wd_X3_isThere_1) (fun _ h9 => h9) rfl dX3_isThere_105 ?_
          refine lv_iconst (v := 2) hx hb dX3_isThere_108 (by decide) ?_
          refine lv_icmp_ne (tgt := 137) hx hb dX3_isThere_109 (by decide) (fun c109_11 => ?_) (fun c109_11 => ?_)
          · skip
            refine lv_iconst (v := 0) hx hb dX3_isThere_137 (by decide) ?_
            exact W.zret (v := 0) hx hb hr rfl (fun t ht hW => ⟨_, rfl, (by unfold thC; first | (simp [c7_1, c24_3, c32_4, c109_11]; done) | ((try first | rw [if_pos c7_1] | rw [if_neg c7_1]); (try first | rw [if_pos c24_3] | rw [if_neg c24_3]); (try first | rw [if_pos c32_4] | rw [if_neg c32_4]); (try first | rw [if_pos c109_11] | rw [if_neg c109_11]); first | done | rfl | trivial)), ht⟩) (fun q hq => absurd hq List.not_mem_nil) dX3_isThere_138
          · skip
            refine lv_aload_n hx hb dX3_isThere_112 rfl (lv_at hl 0 rfl) ?_
            refine va_get (D := D) (ci := 3) (v := .ref orr) (C := RX3) (T := TX3) (N := 15) hx hb hts in_X3_isThere_X3 hown hK hP 0 rfl rfl 0 (by decide) (hts _ wd_X3_isThere_2) (fun _ h9 => h9) rfl dX3_isThere_113 ?_
            have hPc := hP.sub (ws' := [(orr, .inr (4, [.ref ur])), (ur, .inl (cI, 7, .inl w))]) [1, 2] rfl
            refine vp_callSi (W.runV (As := []) (rest := []) ⟨hx, hb, hml, hown, hts⟩ (c_X4_doubles l D cI cJ cQ orr ur (w)) (cwV 0 hts gX3_isThere_X4_doubles rfl rfl rfl (by decide +kernel) ⟨Nat.le_of_ble_eq_true rfl, Nat.le_of_ble_eq_true rfl⟩) (rP_preV (ci := 4) (q0 := 0) hPc hK rfl rfl) rfl rfl hl.1 rfl (lv_room (Nat.le_of_ble_eq_true rfl)) dX3_isThere_116 ⟨Nat.le_of_ble_eq_true rfl, Nat.le_of_ble_eq_true rfl⟩) (fun r_12 hr_12 => ?_)
            subst hr_12
            refine lv_if_eq (tgt := 137) hx hb dX3_isThere_119 (by decide) (fun c119_13 => ?_) (fun c119_13 => ?_)
            · skip
              refine lv_iconst (v := 0) hx hb dX3_isThere_137 (by decide) ?_
              exact W.zret (v := 0) hx hb hr rfl (fun t ht hW => ⟨_, rfl, (by unfold thC; first | (simp [c7_1, c24_3, c32_4, c109_11, c119_13]; done) | ((try first | rw [if_pos c7_1] | rw [if_neg c7_1]); (try first | rw [if_pos c24_3] | rw [if_neg c24_3]); (try first | rw [if_pos c32_4] | rw [if_neg c32_4]); (try first | rw [if_pos c109_11] | rw [if_neg c109_11]); (try first | rw [if_pos c119_13] | rw [if_neg c119_13]); first | done | rfl | trivial)), ht⟩) (fun q hq => absurd hq List.not_mem_nil) dX3_isThere_138
            · skip
              refine lv_aload_n hx hb dX3_isThere_122 rfl (lv_at hl 0 rfl) ?_
              refine va_get (D := D) (ci := 3) (v := .ref os) (C := RX3) (T := TX3) (N := 15) hx hb hts in_X3_isThere_X3 hown hK hP 0 rfl rfl 1 (by decide) (hts _ wd_X3_isThere_5) (fun _ h9 => h9) rfl dX3_isThere_123 ?_
              refine va_get (D := D) (ci := 0) (v := .int tot) (C := RX0) (T := TX0) (N := 2) hx hb hts in_X3_isThere_X0 hown hK hP 3 rfl rfl 1 (by decide) (hts _ wd_X3_isThere_6) (fun _ h9 => h9) rfl dX3_isThere_126 ?_
              refine lv_iconst (v := 1) hx hb dX3_isThere_129 (by decide) ?_
              refine lv_icmp_lt (tgt := 137) hx hb dX3_isThere_130 (by decide) (fun c130_14 => ?_) (fun c130_14 => ?_)
              · skip
                refine lv_iconst (v := 0) hx hb dX3_isThere_137 (by decide) ?_
                exact W.zret (v := 0) hx hb hr rfl (fun t ht hW => ⟨_, rfl, (by unfold thC; first | (simp [c7_1, c24_3, c32_4, c109_11, c119_13, c130_14]; done) | ((try first | rw [if_pos c7_1] | rw [if_neg c7_1]); (try first | rw [if_pos c24_3] | rw [if_neg c24_3]); (try first | rw [if_pos c32_4] | rw [if_neg c32_4]); (try first | rw [if_pos c109_11] | rw [if_neg c109_11]); (try first | rw [if_pos c119_13] | rw [if_neg c119_13]); (try first | rw [if_pos c130_14] | rw [if_neg c130_14]); first | done | rfl | trivial)), ht⟩) (fun q hq => absurd hq List.not_mem_nil) dX3_isThere_138
              · skip
                refine lv_iconst (v := 1) hx hb dX3_isThere_133 (by decide) ?_
                refine lv_goto (tgt := 138) hx hb dX3_isThere_134 (by decide) ?_
                exact W.zret (v := 1) hx hb hr rfl (fun t ht hW => ⟨_, rfl, (by unfold thC; first | (simp [c7_1, c24_3, c32_4, c109_11, c119_13, c130_14]; done) | ((try first | rw [if_pos c7_1] | rw [if_neg c7_1]); (try first | rw [if_pos c24_3] | rw [if_neg c24_3]); (try first | rw [if_pos c32_4] | rw [if_neg c32_4]); (try first | rw [if_pos c109_11] | rw [if_neg c109_11]); (try first | rw [if_pos c119_13] | rw [if_neg c119_13]); (try first | rw [if_pos c130_14] | rw [if_neg c130_14]); first | done | rfl | trivial)), ht⟩) (fun q hq => absurd hq List.not_mem_nil) dX3_isThere_138
        by_cases k3_15 : p0 = 3
        · subst k3_15
          refine lv_tableIn (off := 101) (tgt := 139) hx hb dX3_isThere_38 (by decide) (by decide) (by decide) (by decide) ?_
          refine lv_aload_n hx hb dX3_isThere_139 rfl (lv_at hl 0 rfl) ?_
          refine va_get (D := D) (ci := 3) (v := .ref oh) (C := RX3) (T := TX3) (N := 15) hx hb hts in_X3_isThere_X3 hown hK hP 0 rfl rfl 3 (by decide) (hts _ wd_X3_isThere_0) (fun _ h9 => h9) rfl dX3_isThere_140 ?_
          have hPc := hP.sub (ws' := [(oh, .inr (1, [.ref uh, .int n0, .int sm, .int (bI ace)])), (uh, .inl (cI, 12, .inl g))]) [5, 6] rfl
          refine vp_callSi (W.runV (As := []) (rest := []) ⟨hx, hb, hml, hown, hts⟩ (c_X1_isPair l D cI cJ cQ oh uh n0 sm ace (g)) (cwV 0 hts gX3_isThere_X1_isPair rfl rfl rfl (by decide +kernel) ⟨Nat.le_of_ble_eq_true rfl, Nat.le_of_ble_eq_true rfl⟩) (rP_preV (ci := 1) (q0 := 0) hPc hK rfl rfl) rfl rfl hl.1 rfl (lv_room (Nat.le_of_ble_eq_true rfl)) dX3_isThere_143 ⟨Nat.le_of_ble_eq_true rfl, Nat.le_of_ble_eq_true rfl⟩) (fun r_16 hr_16 => ?_)
          subst hr_16
          refine lv_if_eq (tgt := 174) hx hb dX3_isThere_146 (by decide) (fun c146_17 => ?_) (fun c146_17 => ?_)
          · skip
            refine lv_iconst (v := 0) hx hb dX3_isThere_174 (by decide) ?_
            exact W.zret (v := 0) hx hb hr rfl (fun t ht hW => ⟨_, rfl, (by unfold thC; first | (simp [c7_1, c24_3, c32_4, c146_17]; done) | ((try first | rw [if_pos c7_1] | rw [if_neg c7_1]); (try first | rw [if_pos c24_3] | rw [if_neg c24_3]); (try first | rw [if_pos c32_4] | rw [if_neg c32_4]); (try first | rw [if_pos c146_17] | rw [if_neg c146_17]); first | done | rfl | trivial)), ht⟩) (fun q hq => absurd hq List.not_mem_nil) dX3_isThere_175
          · skip
            refine lv_aload_n hx hb dX3_isThere_149 rfl (lv_at hl 0 rfl) ?_
            refine va_get (D := D) (ci := 3) (v := .ref orr) (C := RX3) (T := TX3) (N := 15) hx hb hts in_X3_isThere_X3 hown hK hP 0 rfl rfl 0 (by decide) (hts _ wd_X3_isThere_2) (fun _ h9 => h9) rfl dX3_isThere_150 ?_
            have hPc := hP.sub (ws' := [(orr, .inr (4, [.ref ur])), (ur, .inl (cI, 7, .inl w))]) [1, 2] rfl
            refine vp_callSi (W.runV (As := []) (rest := []) ⟨hx, hb, hml, hown, hts⟩ (c_X4_splits l D cI cJ cQ orr ur (w)) (cwV 0 hts gX3_isThere_X4_splits rfl rfl rfl (by decide +kernel) ⟨Nat.le_of_ble_eq_true rfl, Nat.le_of_ble_eq_true rfl⟩) (rP_preV (ci := 4) (q0 := 0) hPc hK rfl rfl) rfl rfl hl.1 rfl (lv_room (Nat.le_of_ble_eq_true rfl)) dX3_isThere_153 ⟨Nat.le_of_ble_eq_true rfl, Nat.le_of_ble_eq_true rfl⟩) (fun r_18 hr_18 => ?_)
            subst hr_18
            refine lv_if_eq (tgt := 174) hx hb dX3_isThere_156 (by decide) (fun c156_19 => ?_) (fun c156_19 => ?_)
            · skip
              refine lv_iconst (v := 0) hx hb dX3_isThere_174 (by decide) ?_
              exact W.zret (v := 0) hx hb hr rfl (fun t ht hW => ⟨_, rfl, (by unfold thC; first | (simp [c7_1, c24_3, c32_4, c146_17, c156_19]; done) | ((try first | rw [if_pos c7_1] | rw [if_neg c7_1]); (try first | rw [if_pos c24_3] | rw [if_neg c24_3]); (try first | rw [if_pos c32_4] | rw [if_neg c32_4]); (try first | rw [if_pos c146_17] | rw [if_neg c146_17]); (try first | rw [if_pos c156_19] | rw [if_neg c156_19]); first | done | rfl | trivial)), ht⟩) (fun q hq => absurd hq List.not_mem_nil) dX3_isThere_175
            · skip
              refine lv_aload_n hx hb dX3_isThere_159 rfl (lv_at hl 0 rfl) ?_
              refine va_get (D := D) (ci := 3) (v := .ref os) (C := RX3) (T := TX3) (N := 15) hx hb hts in_X3_isThere_X3 hown hK hP 0 rfl rfl 1 (by decide) (hts _ wd_X3_isThere_5) (fun _ h9 => h9) rfl dX3_isThere_160 ?_
              refine va_get (D := D) (ci := 0) (v := .int tot) (C := RX0) (T := TX0) (N := 2) hx hb hts in_X3_isThere_X0 hown hK hP 3 rfl rfl 1 (by decide) (hts _ wd_X3_isThere_6) (fun _ h9 => h9) rfl dX3_isThere_163 ?_
              refine lv_iconst (v := 2) hx hb dX3_isThere_166 (by decide) ?_
              refine lv_icmp_lt (tgt := 174) hx hb dX3_isThere_167 (by decide) (fun c167_20 => ?_) (fun c167_20 => ?_)
              · skip
                refine lv_iconst (v := 0) hx hb dX3_isThere_174 (by decide) ?_
                exact W.zret (v := 0) hx hb hr rfl (fun t ht hW => ⟨_, rfl, (by unfold thC; first | (simp [c7_1, c24_3, c32_4, c146_17, c156_19, c167_20]; done) | ((try first | rw [if_pos c7_1] | rw [if_neg c7_1]); (try first | rw [if_pos c24_3] | rw [if_neg c24_3]); (try first | rw [if_pos c32_4] | rw [if_neg c32_4]); (try first | rw [if_pos c146_17] | rw [if_neg c146_17]); (try first | rw [if_pos c156_19] | rw [if_neg c156_19]); (try first | rw [if_pos c167_20] | rw [if_neg c167_20]); first | done | rfl | trivial)), ht⟩) (fun q hq => absurd hq List.not_mem_nil) dX3_isThere_175
              · skip
                refine lv_iconst (v := 1) hx hb dX3_isThere_170 (by decide) ?_
                refine lv_goto (tgt := 175) hx hb dX3_isThere_171 (by decide) ?_
                exact W.zret (v := 1) hx hb hr rfl (fun t ht hW => ⟨_, rfl, (by unfold thC; first | (simp [c7_1, c24_3, c32_4, c146_17, c156_19, c167_20]; done) | ((try first | rw [if_pos c7_1] | rw [if_neg c7_1]); (try first | rw [if_pos c24_3] | rw [if_neg c24_3]); (try first | rw [if_pos c32_4] | rw [if_neg c32_4]); (try first | rw [if_pos c146_17] | rw [if_neg c146_17]); (try first | rw [if_pos c156_19] | rw [if_neg c156_19]); (try first | rw [if_pos c167_20] | rw [if_neg c167_20]); first | done | rfl | trivial)), ht⟩) (fun q hq => absurd hq List.not_mem_nil) dX3_isThere_175
        by_cases k4_21 : p0 = 4
        · subst k4_21
          refine lv_tableIn (off := 138) (tgt := 176) hx hb dX3_isThere_38 (by decide) (by decide) (by decide) (by decide) ?_
          refine lv_aload_n hx hb dX3_isThere_176 rfl (lv_at hl 0 rfl) ?_
          refine va_get (D := D) (ci := 3) (v := .ref oh) (C := RX3) (T := TX3) (N := 15) hx hb hts in_X3_isThere_X3 hown hK hP 0 rfl rfl 3 (by decide) (hts _ wd_X3_isThere_0) (fun _ h9 => h9) rfl dX3_isThere_177 ?_
          refine va_get (D := D) (ci := 1) (v := .int n0) (C := RX1) (T := TX1) (N := 4) hx hb hts in_X3_isThere_X1 hown hK hP 5 rfl rfl 1 (by decide) (hts _ wd_X3_isThere_1) (fun _ h9 => h9) rfl dX3_isThere_180 ?_
          refine lv_iconst (v := 2) hx hb dX3_isThere_183 (by decide) ?_
          refine lv_icmp_ne (tgt := 201) hx hb dX3_isThere_184 (by decide) (fun c184_22 => ?_) (fun c184_22 => ?_)
          · skip
            refine lv_iconst (v := 0) hx hb dX3_isThere_201 (by decide) ?_
            exact W.zret (v := 0) hx hb hr rfl (fun t ht hW => ⟨_, rfl, (by unfold thC; first | (simp [c7_1, c24_3, c32_4, c184_22]; done) | ((try first | rw [if_pos c7_1] | rw [if_neg c7_1]); (try first | rw [if_pos c24_3] | rw [if_neg c24_3]); (try first | rw [if_pos c32_4] | rw [if_neg c32_4]); (try first | rw [if_pos c184_22] | rw [if_neg c184_22]); first | done | rfl | trivial)), ht⟩) (fun q hq => absurd hq List.not_mem_nil) dX3_isThere_202
          · skip
            refine lv_aload_n hx hb dX3_isThere_187 rfl (lv_at hl 0 rfl) ?_
            refine va_get (D := D) (ci := 3) (v := .ref orr) (C := RX3) (T := TX3) (N := 15) hx hb hts in_X3_isThere_X3 hown hK hP 0 rfl rfl 0 (by decide) (hts _ wd_X3_isThere_2) (fun _ h9 => h9) rfl dX3_isThere_188 ?_
            have hPc := hP.sub (ws' := [(orr, .inr (4, [.ref ur])), (ur, .inl (cI, 7, .inl w))]) [1, 2] rfl
            refine vp_callSi (W.runV (As := []) (rest := []) ⟨hx, hb, hml, hown, hts⟩ (c_X4_gives l D cI cJ cQ orr ur (w)) (cwV 0 hts gX3_isThere_X4_gives rfl rfl rfl (by decide +kernel) ⟨Nat.le_of_ble_eq_true rfl, Nat.le_of_ble_eq_true rfl⟩) (rP_preV (ci := 4) (q0 := 0) hPc hK rfl rfl) rfl rfl hl.1 rfl (lv_room (Nat.le_of_ble_eq_true rfl)) dX3_isThere_191 ⟨Nat.le_of_ble_eq_true rfl, Nat.le_of_ble_eq_true rfl⟩) (fun r_23 hr_23 => ?_)
            subst hr_23
            refine lv_if_eq (tgt := 201) hx hb dX3_isThere_194 (by decide) (fun c194_24 => ?_) (fun c194_24 => ?_)
            · skip
              refine lv_iconst (v := 0) hx hb dX3_isThere_201 (by decide) ?_
              exact W.zret (v := 0) hx hb hr rfl (fun t ht hW => ⟨_, rfl, (by unfold thC; first | (simp [c7_1, c24_3, c32_4, c184_22, c194_24]; done) | ((try first | rw [if_pos c7_1] | rw [if_neg c7_1]); (try first | rw [if_pos c24_3] | rw [if_neg c24_3]); (try first | rw [if_pos c32_4] | rw [if_neg c32_4]); (try first | rw [if_pos c184_22] | rw [if_neg c184_22]); (try first | rw [if_pos c194_24] | rw [if_neg c194_24]); first | done | rfl | trivial)), ht⟩) (fun q hq => absurd hq List.not_mem_nil) dX3_isThere_202
            · skip
              refine lv_iconst (v := 1) hx hb dX3_isThere_197 (by decide) ?_
              refine lv_goto (tgt := 202) hx hb dX3_isThere_198 (by decide) ?_
              exact W.zret (v := 1) hx hb hr rfl (fun t ht hW => ⟨_, rfl, (by unfold thC; first | (simp [c7_1, c24_3, c32_4, c184_22, c194_24]; done) | ((try first | rw [if_pos c7_1] | rw [if_neg c7_1]); (try first | rw [if_pos c24_3] | rw [if_neg c24_3]); (try first | rw [if_pos c32_4] | rw [if_neg c32_4]); (try first | rw [if_pos c184_22] | rw [if_neg c184_22]); (try first | rw [if_pos c194_24] | rw [if_neg c194_24]); first | done | rfl | trivial)), ht⟩) (fun q hq => absurd hq List.not_mem_nil) dX3_isThere_202
        refine lv_tableOut (tgt := 203) hx hb dX3_isThere_38 (by have := lv_neT k0_5 (a := 0) (by decide); have := lv_neT k1_6 (a := 1) (by decide); have := lv_neT k2_10 (a := 2) (by decide); have := lv_neT k3_15 (a := 3) (by decide); have := lv_neT k4_21 (a := 4) (by decide); omega) (by decide) ?_
        refine lv_iconst (v := 0) hx hb dX3_isThere_203 (by decide) ?_
        exact W.zret (v := 0) hx hb hr rfl (fun t ht hW => ⟨_, rfl, (by unfold thC; first | (simp [c7_1, c24_3, c32_4, k0_5, k1_6, k2_10, k3_15, k4_21]; done) | ((try first | rw [if_pos c7_1] | rw [if_neg c7_1]); (try first | rw [if_pos c24_3] | rw [if_neg c24_3]); (try first | rw [if_pos c32_4] | rw [if_neg c32_4]); (try first | rw [if_pos k0_5] | rw [if_neg k0_5]); (try first | rw [if_pos k1_6] | rw [if_neg k1_6]); (try first | rw [if_pos k2_10] | rw [if_neg k2_10]); (try first | rw [if_pos k3_15] | rw [if_neg k3_15]); (try first | rw [if_pos k4_21] | rw [if_neg k4_21]); first | done | rfl | trivial)), ht⟩) (fun q hq => absurd hq List.not_mem_nil) dX3_isThere_204
      · skip
        refine lv_iconst (v := 0) hx hb dX3_isThere_35 (by decide) ?_
        exact W.zret (v := 0) hx hb hr rfl (fun t ht hW => ⟨_, rfl, (by unfold thC; first | (simp [c7_1, c24_3, c32_4]; done) | ((try first | rw [if_pos c7_1] | rw [if_neg c7_1]); (try first | rw [if_pos c24_3] | rw [if_neg c24_3]); (try first | rw [if_pos c32_4] | rw [if_neg c32_4]); first | done | rfl | trivial)), ht⟩) (fun q hq => absurd hq List.not_mem_nil) dX3_isThere_36

set_option maxHeartbeats 400000 in
set_option maxRecDepth 100000 in
/-- X3_anyThere -/
theorem c_X3_anyThere (l : Launch) (D : va_G) (cI cJ cQ : ClassId) (h0 : Nat) (orr : Nat) (os : Nat) (ow : Nat) (oh : Nat) (oup : Int32) (obA : Int32) (obT : Int64) (pay : Nat) (stp : Nat) (hT : Nat) (hR : Nat) (hrd : Int32) (pT : Nat) (pR : Nat) (prd : Int32) (ur : Nat) (w : Nat → Int32) (uc : Nat) (tot : Int32) (f : Nat → Int32) (uh : Nat) (n0 : Int32) (sm : Int32) (ace : Bool) (g : Nat → Int32)  : Met l yX3_anyThere wsX3_anyThere ({ frames := 2, cells := 0, slots := 0, locals := 42 }) (va_Pc [.ref h0] (rP D (gTy cI cJ cQ) [(h0, .inr (3, [.ref orr, .ref os, .ref ow, .ref oh, .int oup, .int obA, .long obT, .ref pay, .ref stp, .ref hT, .ref hR, .int hrd, .ref pT, .ref pR, .int prd])), (orr, .inr (4, [.ref ur])), (ur, .inl (cI, 7, .inl w)), (os, .inr (0, [.ref uc, .int tot])), (uc, .inl (cI, 11, .inl f)), (oh, .inr (1, [.ref uh, .int n0, .int sm, .int (bI ace)])), (uh, .inl (cI, 12, .inl g))])) (vp_Si (fun r => r = thC w n0 sm g oup tot 0)) 0 0 (fun _ => False) := by
  refine Met.ofW (cc := cX3_anyThere) (maxL := 1) (ret := (some .boolean)) (by decide) rfl ?_
  intro p e s m args below meth c s₁ B hml hv
  obtain ⟨rfl, hP, hK⟩ := hv
  have hx := B.exec
  have hb := B.bytes
  have hr := B.returns
  have hts := atoms_spec (ws := wsX3_anyThere) B.pre
  have hown : s.vm.findClass RX3 = some m.cls := findClass_of_methodNamed B.named
  have hlocks := B.notSynchronized
  have hl := lv_entry ([.ref h0]) (n := 1) (Nat.le_of_ble_eq_true rfl)
  rw [lg_entry_eq]
  generalize (lg_sl ([.ref h0]) ++ List.replicate (1 - (lg_sl ([.ref h0])).length) Slot.unset).toArray = ls at hl ⊢
  have hl : lv_has ls 1 [(0, .ref h0)] := hl
  refine lv_aload_n hx hb dX3_anyThere_0 rfl (lv_at hl 0 rfl) ?_
  refine lv_iconst (v := 0) hx hb dX3_anyThere_1 (by decide) ?_
  have hPc := hP.sub (ws' := [(h0, .inr (3, [.ref orr, .ref os, .ref ow, .ref oh, .int oup, .int obA, .long obT, .ref pay, .ref stp, .ref hT, .ref hR, .int hrd, .ref pT, .ref pR, .int prd])), (orr, .inr (4, [.ref ur])), (ur, .inl (cI, 7, .inl w)), (os, .inr (0, [.ref uc, .int tot])), (uc, .inl (cI, 11, .inl f)), (oh, .inr (1, [.ref uh, .int n0, .int sm, .int (bI ace)])), (uh, .inl (cI, 12, .inl g))]) [0, 1, 2, 3, 4, 5, 6] rfl
  refine vp_callSi (W.runV (As := [.int 0]) (rest := []) ⟨hx, hb, hml, hown, hts⟩ (c_X3_isThere l D cI cJ cQ h0 orr os ow oh oup obA obT pay stp hT hR hrd pT pR prd ur (w) uc tot (f) uh n0 sm ace (g) 0) (cwV 1 hts gX3_anyThere_X3_isThere rfl rfl rfl (by decide +kernel) ⟨Nat.le_of_ble_eq_true rfl, Nat.le_of_ble_eq_true rfl⟩) (rP_preV (ci := 3) (q0 := 0) hPc hK rfl rfl) rfl rfl hl.1 rfl (lv_room (Nat.le_of_ble_eq_true rfl)) dX3_anyThere_2 ⟨Nat.le_of_ble_eq_true rfl, Nat.le_of_ble_eq_true rfl⟩) (fun r_1 hr_1 => ?_)
  subst hr_1
  exact W.zret (v := (thC (w) n0 sm (g) oup tot (0 : Int32))) hx hb hr (nar01 (thC_01 _ _ _ _ _ _ _)) (fun t ht hW => ⟨_, rfl, rfl, ht⟩) (fun q hq => absurd hq List.not_mem_nil) dX3_anyThere_5
