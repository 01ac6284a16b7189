
set_option maxHeartbeats 400000 in
set_option maxRecDepth 100000 in
theorem lpGcdV {p : Program} {l : Launch} {e : Env} {R : Room} {s : State} {m : MethodId} {args : Array Value} {below : List Frame} {meth : Method} {c : Code} {Q : State → Prop} {D : va_G} {cI cJ cQ : ClassId} {cells slots : Nat} (hx : p.tables.exec = Jvm.exec) (hb : c.code = cX5_commonDivisor) (hml : c.maxLocals = 11) (hown : s.vm.findClass RX5 = some m.cls) (hts : ∀ w ∈ wsX5_commonDivisor, w.before args s = true) (hK : va_K D vwCl (gTy cI cJ cQ) s) (gg : Nat) (hRf : 0 ≤ R.frames) (hRl : 0 ≤ R.locals) (hRc : cells ≤ R.cells) (hRs : slots ≤ R.slots) {H : Heap} {locs : List Loc} (hP : va_P D vwCl [] H)  : ∀ (n9 : Nat) (k : Nat) (x : Int64) (y : Int64) (xn : Nat) (yn : Nat) (ls : Array Slot), 200 - k < n9 → (k ≤ 200) → (x = lN xn) → (y = lN yn) → (gcI k xn yn) → (Nat.gcd xn yn = gg) → lv_has ls 11 [(8, .int (nI k)), (6, .long y), (4, .long x)] → (∀ (x : Int64) (ls : Array Slot), (x = lN gg) → lv_has ls 11 [(4, .long x)] → W p l e R s m args below meth c H locs cells slots Q (F0 m 45 ls [])) → W p l e R s m args below meth c H locs cells slots Q (F0 m 9 ls []) := by
  intro n9
  induction n9 with
  | zero => intro k x y xn yn ls hms9; exact absurd hms9 (Nat.not_lt_zero _)
  | succ n9 ih =>
    intro k x y xn yn ls hms9 hk ex ey hI hG hl kk0
    refine lv_iload hx hb dX5_commonDivisor_9 (lv_at hl 0 rfl) ?_
    refine lv_sipush (v := 200) hx hb dX5_commonDivisor_11 (by decide) ?_
    refine lv_icmp_ge (tgt := 45) hx hb dX5_commonDivisor_14 (by decide) (fun c14_1 => ?_) (fun c14_1 => ?_)
    · skip
      have nc14_1 : 200 ≤ k := (nI_leI (a := 200) (b := k) (by omega) (by omega)).mp c14_1
      exact kk0 x _ (by have z0 : yn = 0 := gcI_e hI (by omega); rw [z0, Nat.gcd_zero_right] at hG; rw [ex, hG]) (lv_sub hl [2] rfl)
    · skip
      have nc14_1 : ¬ (200 ≤ k) := fun z9 => c14_1 ((nI_leI (a := 200) (b := k) (by omega) (by omega)).mpr z9)
      refine lv_lload hx hb dX5_commonDivisor_17 (lv_at hl 1 rfl) ?_
      refine lv_lconst (v := 0) hx hb dX5_commonDivisor_19 (by decide) ?_
      refine W.lcmp hx hb dX5_commonDivisor_20 ?_
      refine lv_if_eq (tgt := 45) hx hb dX5_commonDivisor_21 (by decide) (fun c21_2 => ?_) (fun c21_2 => ?_)
      · skip
        exact kk0 x _ (by have z0 : yn = 0 := (lB_z (Nat.lt_trans hI.2.1 (by decide))).mp (ey.symm.trans ((lg_cmp_eq _ _).mp c21_2)); rw [z0, Nat.gcd_zero_right] at hG; rw [ex, hG]) (lv_sub hl [2] rfl)
      · skip
        refine lv_lload hx hb dX5_commonDivisor_24 (lv_at hl 2 rfl) ?_
        have hy : ¬ y = 0 := fun z9 => c21_2 ((lg_cmp_eq _ _).mpr z9)
        have yp : 0 < yn := Nat.pos_of_ne_zero (fun z9 => hy (ey.trans ((lB_z (Nat.lt_trans hI.2.1 (by decide))).mpr z9)))
        refine lv_lload hx hb dX5_commonDivisor_26 (lv_at hl 1 rfl) ?_
        refine lv_lrem hx hb dX5_commonDivisor_28 hy ?_
        refine lv_lstore (lv' := [(9, .long (x - x / y * y)), (8, .int (nI k)), (6, .long y), (4, .long x)]) hx hb dX5_commonDivisor_29 hl (by decide) rfl (fun ls hl => ?_)
        refine lv_lload hx hb dX5_commonDivisor_31 (lv_at hl 2 rfl) ?_
        refine lv_lstore (lv' := [(4, .long y), (9, .long (x - x / y * y)), (8, .int (nI k)), (6, .long y)]) hx hb dX5_commonDivisor_33 hl (by decide) rfl (fun ls hl => ?_)
        refine lv_lload hx hb dX5_commonDivisor_35 (lv_at hl 1 rfl) ?_
        refine lv_lstore (lv' := [(6, .long (x - x / y * y)), (4, .long y), (9, .long (x - x / y * y)), (8, .int (nI k))]) hx hb dX5_commonDivisor_37 hl (by decide) rfl (fun ls hl => ?_)
        refine lv_iinc (v := (nI (k + 1))) (lv' := [(8, .int (nI (k + 1))), (6, .long (x - x / y * y)), (4, .long y), (9, .long (x - x / y * y))]) hx hb dX5_commonDivisor_39 hl (k := 3) rfl (nI_incT (by decide)) (by decide) rfl (fun ls hl => ?_)
        refine lv_goto (tgt := 9) hx hb dX5_commonDivisor_42 (by decide) ?_
        exact ih (k + 1) y (x - x / y * y) yn (xn % yn) _ (by omega) (by omega) ey (by rw [ex, ey]; exact lB_rem hI.1 hI.2.1) (gcI_s hI yp) ((gcd_st _ _).trans hG) (lv_sub hl [0, 1, 2] rfl) kk0

set_option maxHeartbeats 400000 in
set_option maxRecDepth 100000 in
/-- X5_commonDivisor -/
theorem c_X5_commonDivisorV (l : Launch) (D : va_G) (cI cJ cQ : ClassId) (xn : Nat) (yn : Nat) (hx62 : xn < 2 ^ 62) (hy62 : yn < 2 ^ 62) : Met l yX5_commonDivisor wsX5_commonDivisor ({ frames := 0, cells := 0, slots := 0, locals := 0 }) (va_Pc [.long (lN xn), .long (lN yn)] (rP D (gTy cI cJ cQ) [])) (vp_Sl (fun r => r = lN (Nat.gcd xn yn))) 0 0 (fun _ => False) := by
  refine Met.ofW (cc := cX5_commonDivisor) (maxL := 11) (ret := (some .long)) (by decide) rfl ?_
  intro p e s m args below meth c s₁ B hml hv
  obtain ⟨rfl, hP, hK⟩ := hv
  have hx := B.exec
  have hb := B.bytes
  have hr := B.returns
  have hts := atoms_spec (ws := wsX5_commonDivisor) B.pre
  have hown : s.vm.findClass RX5 = some m.cls := findClass_of_methodNamed B.named
  have hlocks := B.notSynchronized
  have hl := lv_entry ([.long (lN xn), .long (lN yn)]) (n := 11) (Nat.le_of_ble_eq_true rfl)
  rw [lg_entry_eq]
  generalize (lg_sl ([.long (lN xn), .long (lN yn)]) ++ List.replicate (11 - (lg_sl ([.long (lN xn), .long (lN yn)])).length) Slot.unset).toArray = ls at hl ⊢
  have hl : lv_has ls 11 [(0, .long (lN xn)), (2, .long (lN yn))] := hl
  refine lv_lload_n hx hb dX5_commonDivisor_0 rfl (lv_at hl 0 rfl) ?_
  refine lv_lstore (lv' := [(4, .long (lN xn)), (0, .long (lN xn)), (2, .long (lN yn))]) hx hb dX5_commonDivisor_1 hl (by decide) rfl (fun ls hl => ?_)
  refine lv_lload_n hx hb dX5_commonDivisor_3 rfl (lv_at hl 2 rfl) ?_
  refine lv_lstore (lv' := [(6, .long (lN yn)), (4, .long (lN xn)), (0, .long (lN xn)), (2, .long (lN yn))]) hx hb dX5_commonDivisor_4 hl (by decide) rfl (fun ls hl => ?_)
  refine lv_iconst (v := 0) hx hb dX5_commonDivisor_6 (by decide) ?_
  refine lv_istore (lv' := [(8, .int 0), (6, .long (lN yn)), (4, .long (lN xn)), (0, .long (lN xn)), (2, .long (lN yn))]) hx hb dX5_commonDivisor_7 hl (by decide) rfl (fun ls hl => ?_)
  refine lpGcdV hx hb hml hown hts hK (Nat.gcd xn yn) (Nat.le_of_ble_eq_true rfl) (Nat.le_of_ble_eq_true rfl) (Nat.zero_le _) (Nat.zero_le _) hP  (200 - 0 + 1) 0 (lN xn) (lN yn) xn yn _ (Nat.lt_succ_self _) (by omega) rfl rfl (gcI_0 hx62 hy62) rfl (lv_sub hl [0, 1, 2] rfl) (fun x_1 ls er_2 hl => ?_)
  refine lv_lload hx hb dX5_commonDivisor_45 (lv_at hl 0 rfl) ?_
  exact W.lret (v := x_1) hx hb hr (fun t ht hW => ⟨_, rfl, er_2, ht⟩) (fun q hq => absurd hq List.not_mem_nil) dX5_commonDivisor_47

set_option maxHeartbeats 400000 in
set_option maxRecDepth 100000 in
/-- X5_part -/
theorem c_X5_partV (l : Launch) (D : va_G) (cI cJ cQ : ClassId) (p0 : Int64) (y : Nat) (p2 : Int32) (h62 : p0.toInt.natAbs < 2 ^ 62) (y0 : 0 < y) (y62 : y < 2 ^ 62) : Met l yX5_part wsX5_part ({ frames := 1, cells := 0, slots := 0, locals := 40 }) (va_Pc [.long p0, .long (lN y), .int p2] (rP D (gTy cI cJ cQ) [])) (vp_Sl (fun r => r = ptV p0 y p2)) 0 0 (fun _ => False) := by
  refine Met.ofW (cc := cX5_part) (maxL := 7) (ret := (some .long)) (by decide) rfl ?_
  intro p e s m args below meth c s₁ B hml hv
  obtain ⟨rfl, hP, hK⟩ := hv
  have hx := B.exec
  have hb := B.bytes
  have hr := B.returns
  have hts := atoms_spec (ws := wsX5_part) B.pre
  have hown : s.vm.findClass RX5 = some m.cls := findClass_of_methodNamed B.named
  have hlocks := B.notSynchronized
  have hl := lv_entry ([.long p0, .long (lN y), .int p2]) (n := 7) (Nat.le_of_ble_eq_true rfl)
  rw [lg_entry_eq]
  generalize (lg_sl ([.long p0, .long (lN y), .int p2]) ++ List.replicate (7 - (lg_sl ([.long p0, .long (lN y), .int p2])).length) Slot.unset).toArray = ls at hl ⊢
  have hl : lv_has ls 7 [(0, .long p0), (2, .long (lN y)), (4, .int p2)] := hl
  refine lv_lload_n hx hb dX5_part_0 rfl (lv_at hl 0 rfl) ?_
  refine va_mabs_long hx hb (by rw [hml]; exact hl.1.symm) hown (hts _ wd_X5_part_0) (hts _ wd_X5_part_1) (hts _ wd_X5_part_2) (hts _ wd_X5_part_3) (Nat.le_of_ble_eq_true rfl) (Nat.le_of_ble_eq_true rfl) (Nat.zero_le _) (Nat.zero_le _) dX5_part_1 ?_
  refine lv_topl (fun z_1 ez_1 => ?_)
  obtain rfl : z_1 = lN p0.toInt.natAbs := ez_1.trans (abs_l h62)
  refine lv_lload_n hx hb dX5_part_4 rfl (lv_at hl 1 rfl) ?_
  have hPc := hP.sub (ws' := []) [] rfl
  refine vp_callSl (W.runS (As := [.long (lN p0.toInt.natAbs), .long (lN y)]) (rest := []) ⟨hx, hb, hml, hown, hts⟩ (c_X5_commonDivisorV l D cI cJ cQ (p0.toInt.natAbs) y h62 y62) (va_cwS 2 hts gX5_part_X5_commonDivisor rfl rfl rfl (by decide +kernel) ⟨Nat.le_of_ble_eq_true rfl, Nat.le_of_ble_eq_true rfl⟩) (rP_preS hPc hK) rfl rfl hl.1 rfl (lv_room (Nat.le_of_ble_eq_true rfl)) dX5_part_5 ⟨Nat.le_of_ble_eq_true rfl, Nat.le_of_ble_eq_true rfl⟩) (fun r_2 hr_2 => ?_)
  subst hr_2
  refine lv_lstore (lv' := [(5, .long (lN (Nat.gcd (p0.toInt.natAbs) y))), (0, .long p0), (2, .long (lN y)), (4, .int p2)]) hx hb dX5_part_8 hl (by decide) rfl (fun ls hl => ?_)
  refine lv_lload hx hb dX5_part_10 (lv_at hl 0 rfl) ?_
  refine lv_lconst (v := 0) hx hb dX5_part_12 (by decide) ?_
  refine W.lcmp hx hb dX5_part_13 ?_
  refine lv_if_gt (tgt := 19) hx hb dX5_part_14 (by decide) (fun c14_3 => ?_) (fun c14_3 => ?_)
  · skip
    have hy : ¬ lN (Nat.gcd p0.toInt.natAbs y) = 0 := lB_ne (Nat.lt_trans (gcd_b (x := p0.toInt.natAbs) y0 y62).2 (by decide)) (gcd_b y0 y62).1
    refine lv_iload hx hb dX5_part_19 (lv_at hl 3 rfl) ?_
    refine lv_if_ne (tgt := 31) hx hb dX5_part_21 (by decide) (fun c21_4 => ?_) (fun c21_4 => ?_)
    · skip
      refine lv_lload_n hx hb dX5_part_31 rfl (lv_at hl 2 rfl) ?_
      refine lv_lload hx hb dX5_part_32 (lv_at hl 0 rfl) ?_
      refine lv_ldiv hx hb dX5_part_34 hy ?_
      exact W.lret (v := (lN y / (lN (Nat.gcd (p0.toInt.natAbs) y)))) hx hb hr (fun t ht hW => ⟨_, rfl, (by unfold ptV; first | (simp [c14_3, c21_4]; done) | ((try first | rw [if_pos c14_3] | rw [if_neg c14_3]); (try first | rw [if_pos c21_4] | rw [if_neg c21_4]); first | done | rfl | trivial)), ht⟩) (fun q hq => absurd hq List.not_mem_nil) dX5_part_35
    · skip
      refine lv_lload_n hx hb dX5_part_24 rfl (lv_at hl 1 rfl) ?_
      refine lv_lload hx hb dX5_part_25 (lv_at hl 0 rfl) ?_
      refine lv_ldiv hx hb dX5_part_27 hy ?_
      refine lv_goto (tgt := 35) hx hb dX5_part_28 (by decide) ?_
      exact W.lret (v := (p0 / (lN (Nat.gcd (p0.toInt.natAbs) y)))) hx hb hr (fun t ht hW => ⟨_, rfl, (by unfold ptV; first | (simp [c14_3, c21_4]; done) | ((try first | rw [if_pos c14_3] | rw [if_neg c14_3]); (try first | rw [if_pos c21_4] | rw [if_neg c21_4]); first | done | rfl | trivial)), ht⟩) (fun q hq => absurd hq List.not_mem_nil) dX5_part_35
  · exact absurd ((lg_cmp_gt _ _).mpr (lB_gt (gcd_b y0 y62).1 (Nat.lt_trans (gcd_b (x := p0.toInt.natAbs) y0 y62).2 (by decide)))) c14_3


set_option maxHeartbeats 400000 in
set_option maxRecDepth 100000 in
theorem lpGcdMV {p : Program} {l : Launch} {e : Env} {R : Room} {s : State} {m : MethodId} {args : Array Value} {below : List Frame} {meth : Method} {c : Code} {Q : State → Prop} {D : va_G} {cI cJ cQ : ClassId} {cells slots : Nat} (hx : p.tables.exec = Jvm.exec) (hb : c.code = cX6_gcd) (hml : c.maxLocals = 10) (hown : s.vm.findClass RX6 = some m.cls) (hts : ∀ w ∈ wsX6_gcd, w.before args s = true) (hK : va_K D vwCl (gTy cI cJ cQ) s) (gg : Nat) (hRf : 0 ≤ R.frames) (hRl : 0 ≤ R.locals) (hRc : cells ≤ R.cells) (hRs : slots ≤ R.slots) {H : Heap} {locs : List Loc} (hP : va_P D vwCl [] H)  : ∀ (n9 : Nat) (x : Int64) (y : Int64) (xn : Nat) (yn : Nat) (ls : Array Slot), yn < n9 → (x = lN xn) → (y = lN yn) → (xn < 2 ^ 62 ∧ yn < 2 ^ 62) → (Nat.gcd xn yn = gg) → lv_has ls 10 [(6, .long y), (4, .long x)] → (∀ (x : Int64) (ls : Array Slot), (x = lN gg) → lv_has ls 10 [(4, .long x)] → W p l e R s m args below meth c H locs cells slots Q (F0 m 42 ls [])) → W p l e R s m args below meth c H locs cells slots Q (F0 m 17 ls []) := by
  intro n9
  induction n9 with
  | zero => intro x y xn yn ls hms9; exact absurd hms9 (Nat.not_lt_zero _)
  | succ n9 ih =>
    intro x y xn yn ls hms9 ex ey b62 hG hl kk0
    refine lv_lload hx hb dX6_gcd_17 (lv_at hl 0 rfl) ?_
    refine lv_lconst (v := 0) hx hb dX6_gcd_19 (by decide) ?_
    refine W.lcmp hx hb dX6_gcd_20 ?_
    refine lv_if_eq (tgt := 42) hx hb dX6_gcd_21 (by decide) (fun c21_1 => ?_) (fun c21_1 => ?_)
    · skip
      exact kk0 x _ (by have z0 : yn = 0 := (lB_z (Nat.lt_trans b62.2 (by decide))).mp (ey.symm.trans ((lg_cmp_eq _ _).mp c21_1)); rw [z0, Nat.gcd_zero_right] at hG; rw [ex, hG]) (lv_sub hl [1] rfl)
    · skip
      have hy : ¬ y = 0 := fun z9 => c21_1 ((lg_cmp_eq _ _).mpr z9)
      have yp : 0 < yn := Nat.pos_of_ne_zero (fun z9 => hy (ey.trans ((lB_z (Nat.lt_trans b62.2 (by decide))).mpr z9)))
      refine lv_lload hx hb dX6_gcd_24 (lv_at hl 1 rfl) ?_
      refine lv_lload hx hb dX6_gcd_26 (lv_at hl 0 rfl) ?_
      refine lv_lrem hx hb dX6_gcd_28 hy ?_
      refine lv_lstore (lv' := [(8, .long (x - x / y * y)), (6, .long y), (4, .long x)]) hx hb dX6_gcd_29 hl (by decide) rfl (fun ls hl => ?_)
      refine lv_lload hx hb dX6_gcd_31 (lv_at hl 1 rfl) ?_
      refine lv_lstore (lv' := [(4, .long y), (8, .long (x - x / y * y)), (6, .long y)]) hx hb dX6_gcd_33 hl (by decide) rfl (fun ls hl => ?_)
      refine lv_lload hx hb dX6_gcd_35 (lv_at hl 1 rfl) ?_
      refine lv_lstore (lv' := [(6, .long (x - x / y * y)), (4, .long y), (8, .long (x - x / y * y))]) hx hb dX6_gcd_37 hl (by decide) rfl (fun ls hl => ?_)
      refine lv_goto (tgt := 17) hx hb dX6_gcd_39 (by decide) ?_
      exact ih y (x - x / y * y) yn (xn % yn) _ (by have hm7 := Nat.mod_lt xn yp; omega) ey (by rw [ex, ey]; exact lB_rem b62.1 b62.2) ⟨b62.2, Nat.lt_trans (Nat.mod_lt _ yp) b62.2⟩ ((gcd_st _ _).trans hG) (lv_sub hl [0, 1] rfl) kk0

set_option maxHeartbeats 400000 in
set_option maxRecDepth 100000 in
/-- X6_gcd -/
theorem c_X6_gcdV (l : Launch) (D : va_G) (cI cJ cQ : ClassId) (p0 : Int64) (yn : Nat) (h62 : p0.toInt.natAbs < 2 ^ 62) (y62 : yn < 2 ^ 62) : Met l yX6_gcd wsX6_gcd ({ frames := 0, cells := 0, slots := 0, locals := 0 }) (va_Pc [.long p0, .long (lN yn)] (rP D (gTy cI cJ cQ) [])) (vp_Sl (fun r => r = lN (Nat.gcd p0.toInt.natAbs yn))) 0 0 (fun _ => False) := by
  refine Met.ofW (cc := cX6_gcd) (maxL := 10) (ret := (some .long)) (by decide) rfl ?_
  intro p e s m args below meth c s₁ B hml hv
  obtain ⟨rfl, hP, hK⟩ := hv
  have hx := B.exec
  have hb := B.bytes
  have hr := B.returns
  have hts := atoms_spec (ws := wsX6_gcd) B.pre
  have hown : s.vm.findClass RX6 = some m.cls := findClass_of_methodNamed B.named
  have hlocks := B.notSynchronized
  have hl := lv_entry ([.long p0, .long (lN yn)]) (n := 10) (Nat.le_of_ble_eq_true rfl)
  rw [lg_entry_eq]
  generalize (lg_sl ([.long p0, .long (lN yn)]) ++ List.replicate (10 - (lg_sl ([.long p0, .long (lN yn)])).length) Slot.unset).toArray = ls at hl ⊢
  have hl : lv_has ls 10 [(0, .long p0), (2, .long (lN yn))] := hl
  refine lv_lload_n hx hb dX6_gcd_0 rfl (lv_at hl 0 rfl) ?_
  refine lv_lconst (v := 0) hx hb dX6_gcd_1 (by decide) ?_
  refine W.lcmp hx hb dX6_gcd_2 ?_
  refine lv_if_ge (tgt := 11) hx hb dX6_gcd_3 (by decide) (fun c3_1 => ?_) (fun c3_1 => ?_)
  · skip
    refine lv_lload_n hx hb dX6_gcd_11 rfl (lv_at hl 0 rfl) ?_
    refine lv_lstore (lv' := [(4, .long p0), (0, .long p0), (2, .long (lN yn))]) hx hb dX6_gcd_12 hl (by decide) rfl (fun ls hl => ?_)
    refine lv_lload_n hx hb dX6_gcd_14 rfl (lv_at hl 2 rfl) ?_
    refine lv_lstore (lv' := [(6, .long (lN yn)), (4, .long p0), (0, .long p0), (2, .long (lN yn))]) hx hb dX6_gcd_15 hl (by decide) rfl (fun ls hl => ?_)
    refine lpGcdMV hx hb hml hown hts hK (Nat.gcd p0.toInt.natAbs yn) (Nat.le_of_ble_eq_true rfl) (Nat.le_of_ble_eq_true rfl) (Nat.zero_le _) (Nat.zero_le _) hP  (yn + 1) p0 (lN yn) (p0.toInt.natAbs) yn _ (Nat.lt_succ_self _) (abs_p c3_1 h62) rfl ⟨h62, y62⟩ rfl (lv_sub hl [0, 1] rfl) (fun x_2 ls er_3 hl => ?_)
    refine lv_lload hx hb dX6_gcd_42 (lv_at hl 0 rfl) ?_
    exact W.lret (v := x_2) hx hb hr (fun t ht hW => ⟨_, rfl, er_3, ht⟩) (fun q hq => absurd hq List.not_mem_nil) dX6_gcd_44
  · skip
    refine lv_lload_n hx hb dX6_gcd_6 rfl (lv_at hl 0 rfl) ?_
    refine lv_lneg hx hb dX6_gcd_7 ?_
    refine lv_goto (tgt := 12) hx hb dX6_gcd_8 (by decide) ?_
    refine lv_lstore (lv' := [(4, .long (-p0)), (0, .long p0), (2, .long (lN yn))]) hx hb dX6_gcd_12 hl (by decide) rfl (fun ls hl => ?_)
    refine lv_lload_n hx hb dX6_gcd_14 rfl (lv_at hl 2 rfl) ?_
    refine lv_lstore (lv' := [(6, .long (lN yn)), (4, .long (-p0)), (0, .long p0), (2, .long (lN yn))]) hx hb dX6_gcd_15 hl (by decide) rfl (fun ls hl => ?_)
    refine lpGcdMV hx hb hml hown hts hK (Nat.gcd p0.toInt.natAbs yn) (Nat.le_of_ble_eq_true rfl) (Nat.le_of_ble_eq_true rfl) (Nat.zero_le _) (Nat.zero_le _) hP  (yn + 1) (-p0) (lN yn) (p0.toInt.natAbs) yn _ (Nat.lt_succ_self _) (abs_n c3_1 h62) rfl ⟨h62, y62⟩ rfl (lv_sub hl [0, 1] rfl) (fun x_4 ls er_5 hl => ?_)
    refine lv_lload hx hb dX6_gcd_42 (lv_at hl 0 rfl) ?_
    exact W.lret (v := x_4) hx hb hr (fun t ht hW => ⟨_, rfl, er_5, ht⟩) (fun q hq => absurd hq List.not_mem_nil) dX6_gcd_44

set_option maxHeartbeats 400000 in
set_option maxRecDepth 100000 in
/-- X6_part -/
theorem c_X6_partV (l : Launch) (D : va_G) (cI cJ cQ : ClassId) (p0 : Int64) (y : Nat) (p2 : Int32) (h62 : p0.toInt.natAbs < 2 ^ 62) (y0 : 0 < y) (y62 : y < 2 ^ 62) : Met l yX6_part wsX6_part ({ frames := 1, cells := 0, slots := 0, locals := 29 }) (va_Pc [.long p0, .long (lN y), .int p2] (rP D (gTy cI cJ cQ) [])) (vp_Sl (fun r => r = ptV p0 y p2)) 0 0 (fun _ => False) := by
  refine Met.ofW (cc := cX6_part) (maxL := 7) (ret := (some .long)) (by decide) rfl ?_
  intro p e s m args below meth c s₁ B hml hv
  obtain ⟨rfl, hP, hK⟩ := hv
  have hx := B.exec
  have hb := B.bytes
  have hr := B.returns
  have hts := atoms_spec (ws := wsX6_part) B.pre
  have hown : s.vm.findClass RX6 = some m.cls := findClass_of_methodNamed B.named
  have hlocks := B.notSynchronized
  have hl := lv_entry ([.long p0, .long (lN y), .int p2]) (n := 7) (Nat.le_of_ble_eq_true rfl)
  rw [lg_entry_eq]
  generalize (lg_sl ([.long p0, .long (lN y), .int p2]) ++ List.replicate (7 - (lg_sl ([.long p0, .long (lN y), .int p2])).length) Slot.unset).toArray = ls at hl ⊢
  have hl : lv_has ls 7 [(0, .long p0), (2, .long (lN y)), (4, .int p2)] := hl
  refine lv_lload_n hx hb dX6_part_0 rfl (lv_at hl 0 rfl) ?_
  refine lv_lload_n hx hb dX6_part_1 rfl (lv_at hl 1 rfl) ?_
  have hPc := hP.sub (ws' := []) [] rfl
  refine vp_callSl (W.runS (As := [.long p0, .long (lN y)]) (rest := []) ⟨hx, hb, hml, hown, hts⟩ (c_X6_gcdV l D cI cJ cQ p0 y h62 y62) (va_cwS 2 hts gX6_part_X6_gcd rfl rfl rfl (by decide +kernel) ⟨Nat.le_of_ble_eq_true rfl, Nat.le_of_ble_eq_true rfl⟩) (rP_preS hPc hK) rfl rfl hl.1 rfl (lv_room (Nat.le_of_ble_eq_true rfl)) dX6_part_2 ⟨Nat.le_of_ble_eq_true rfl, Nat.le_of_ble_eq_true rfl⟩) (fun r_1 hr_1 => ?_)
  subst hr_1
  refine lv_lstore (lv' := [(5, .long (lN (Nat.gcd p0.toInt.natAbs y))), (0, .long p0), (2, .long (lN y)), (4, .int p2)]) hx hb dX6_part_5 hl (by decide) rfl (fun ls hl => ?_)
  have hy : ¬ lN (Nat.gcd p0.toInt.natAbs y) = 0 := lB_ne (Nat.lt_trans (gcd_b (x := p0.toInt.natAbs) y0 y62).2 (by decide)) (gcd_b y0 y62).1
  refine lv_iload hx hb dX6_part_7 (lv_at hl 3 rfl) ?_
  refine lv_if_ne (tgt := 19) hx hb dX6_part_9 (by decide) (fun c9_2 => ?_) (fun c9_2 => ?_)
  · skip
    refine lv_lload_n hx hb dX6_part_19 rfl (lv_at hl 2 rfl) ?_
    refine lv_lload hx hb dX6_part_20 (lv_at hl 0 rfl) ?_
    refine lv_ldiv hx hb dX6_part_22 hy ?_
    exact W.lret (v := (lN y / (lN (Nat.gcd p0.toInt.natAbs y)))) hx hb hr (fun t ht hW => ⟨_, rfl, (by unfold ptV; first | (simp [c9_2]; done) | ((try first | rw [if_pos c9_2] | rw [if_neg c9_2]); first | done | rfl | trivial)), ht⟩) (fun q hq => absurd hq List.not_mem_nil) dX6_part_23
  · skip
    refine lv_lload_n hx hb dX6_part_12 rfl (lv_at hl 1 rfl) ?_
    refine lv_lload hx hb dX6_part_13 (lv_at hl 0 rfl) ?_
    refine lv_ldiv hx hb dX6_part_15 hy ?_
    refine lv_goto (tgt := 23) hx hb dX6_part_16 (by decide) ?_
    exact W.lret (v := (p0 / (lN (Nat.gcd p0.toInt.natAbs y)))) hx hb hr (fun t ht hW => ⟨_, rfl, (by unfold ptV; first | (simp [c9_2]; done) | ((try first | rw [if_pos c9_2] | rw [if_neg c9_2]); first | done | rfl | trivial)), ht⟩) (fun q hq => absurd hq List.not_mem_nil) dX6_part_23
