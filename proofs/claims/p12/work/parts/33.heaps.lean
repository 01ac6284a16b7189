
set_option maxHeartbeats 400000 in
set_option maxRecDepth 100000 in
theorem lpFillJ {p : Program} {l : Launch} {e : Env} {R : Room} {s : State} {m : MethodId} {args : Array Value} {below : List Frame} {meth : Method} {c : Code} {Q : State → Prop} {D : va_G} {cI cJ cQ : ClassId} {A : Nat → Prop} {cells slots : Nat} (hx : p.tables.exec = Jvm.exec) (hb : c.code = cJ7_fill_d0a16) (hml : c.maxLocals = 5) (hown : s.vm.findClass RJ7 = some m.cls) (hts : ∀ w ∈ wsJ7_fill_d0a16, w.before args s = true) (hK : va_K D vwCl (gTy cI cJ cQ) s) (hA : ∀ q : Nat, s.heap.size ≤ q → A q) (h0 : Nat) (p1 : Int64) (hRf : 0 ≤ R.frames) (hRl : 0 ≤ R.locals) (hRc : cells ≤ R.cells) (hRs : slots ≤ R.slots)  : ∀ (n9 : Nat) (k : Nat) (f : Nat → Int64) (H : Heap) (locs : List Loc) (ls : Array Slot), 49 - k < n9 → (k ≤ 49) → (∀ j, j < k → f j = p1) → va_P D vwCl [(h0, .inl (cJ, 49, .inr (.inl f)))] H → va_D A [(h0, .inl (cJ, 49, .inr (.inl f)))] → va_S A s.heap H locs → lv_has ls 5 [(3, .int (nI k)), (4, .int 49), (1, .long p1), (0, .ref h0)] → (∀ (f : Nat → Int64) (H : Heap) (locs : List Loc) (ls : Array Slot), (∀ j, j < 49 → f j = p1) → va_P D vwCl [(h0, .inl (cJ, 49, .inr (.inl f)))] H → va_D A [(h0, .inl (cJ, 49, .inr (.inl f)))] → va_S A s.heap H locs → lv_has ls 5 [(0, .ref h0)] → W p l e R s m args below meth c H locs cells slots Q (F0 m 22 ls [])) → W p l e R s m args below meth c H locs cells slots Q (F0 m 6 ls []) := by
  intro n9
  induction n9 with
  | zero => intro k f H locs ls hms9; exact absurd hms9 (Nat.not_lt_zero _)
  | succ n9 ih =>
    intro k f H locs ls hms9 k2 hv hP hD hS hl kk0
    refine lv_iload_n hx hb dJ7_fill_d0a16_6 rfl (lv_at hl 0 rfl) ?_
    refine lv_iload hx hb dJ7_fill_d0a16_7 (lv_at hl 1 rfl) ?_
    refine lv_icmp_ge (tgt := 22) hx hb dJ7_fill_d0a16_9 (by decide) (fun c9_1 => ?_) (fun c9_1 => ?_)
    · skip
      have nc9_1 : 49 ≤ k := (nI_leI (a := 49) (b := k) (by omega) (by omega)).mp c9_1
      exact kk0 f _ _ _ (fun j a => hv j (by omega)) hP hD hS (lv_sub hl [3] rfl)
    · skip
      have nc9_1 : ¬ (49 ≤ k) := fun z9 => c9_1 ((nI_leI (a := 49) (b := k) (by omega) (by omega)).mpr z9)
      refine lv_aload_n hx hb dJ7_fill_d0a16_12 rfl (lv_at hl 3 rfl) ?_
      refine lv_iload_n hx hb dJ7_fill_d0a16_13 rfl (lv_at hl 0 rfl) ?_
      refine lv_lload_n hx hb dJ7_fill_d0a16_14 rfl (lv_at hl 2 rfl) ?_
      refine va_last hx hb hK hP hD hS 0 1 rfl rfl (vp_in_nI (by omega) (by decide)) dJ7_fill_d0a16_15 (fun H locs hP hD hS => ?_)
      have e9 : (vp_updL f (nI k).toNatClampNeg p1) = vp_updL f k p1 := by rw [nI_clamp (show k < 2 ^ 31 by omega)]
      have hP : va_P D vwCl [(h0, .inl (cJ, 49, .inr (.inl (vp_updL f k p1))))] H := by rw [← e9]; exact hP
      have hD : va_D A [(h0, .inl (cJ, 49, .inr (.inl (vp_updL f k p1))))] := by rw [← e9]; exact hD
      clear e9
      refine lv_iinc (v := (nI (k + 1))) (lv' := [(3, .int (nI (k + 1))), (4, .int 49), (1, .long p1), (0, .ref h0)]) hx hb dJ7_fill_d0a16_16 hl (k := 0) rfl (nI_incT (by decide)) (by decide) rfl (fun ls hl => ?_)
      refine lv_goto (tgt := 6) hx hb dJ7_fill_d0a16_19 (by decide) ?_
      exact ih (k + 1) (vp_updL f k p1) _ _ _ (by omega) (by omega) (fun j a => by unfold vp_updL; by_cases z : j = k; rw [if_pos z]; rw [if_neg z]; exact hv j (by omega)) hP hD hS (lv_sub hl [0, 1, 2, 3] rfl) kk0

set_option maxHeartbeats 400000 in
set_option maxRecDepth 100000 in
/-- J7_fill_d0a16 -/
theorem c_J7_fill_d0a16 (l : Launch) (D : va_G) (cI cJ cQ : ClassId) (sz : Nat) (h0 : Nat) (f : Nat → Int64) (p1 : Int64)  : Met l yJ7_fill_d0a16 wsJ7_fill_d0a16 ({ frames := 0, cells := 0, slots := 0, locals := 0 }) (va_Pc [.ref h0, .long p1] (mP D (gTy cI cJ cQ) [(h0, .inl (cJ, 49, .inr (.inl f)))] sz)) (va_Qv (fun (u : (Nat → Int64)) => match u with | f2 => ∀ j, j < 49 → f2 j = p1) (fun (u : (Nat → Int64)) t => match u with | f2 => mB D (gTy cI cJ cQ) (va_A [(h0, .inl (cJ, 49, .inr (.inl f)))] sz) [(h0, .inl (cJ, 49, .inr (.inl f2)))] t) (va_A [(h0, .inl (cJ, 49, .inr (.inl f)))] sz)) 0 0 (va_A [(h0, .inl (cJ, 49, .inr (.inl f)))] sz) := by
  refine Met.ofW (cc := cJ7_fill_d0a16) (maxL := 5) (ret := none) (by decide) rfl ?_
  intro p e s m args below meth c s₁ B hml hv
  obtain ⟨rfl, hsz, hP, hK, hD0⟩ := hv
  have hx := B.exec
  have hb := B.bytes
  have hr := B.returns
  have hts := atoms_spec (ws := wsJ7_fill_d0a16) B.pre
  have hown : s.vm.findClass RJ7 = some m.cls := findClass_of_methodNamed B.named
  have hlocks := B.notSynchronized
  subst hsz
  have hD := hD0.self (sz := s.heap.size)
  generalize hAe : va_A [(h0, .inl (cJ, 49, .inr (.inl f)))] s.heap.size = A at hD ⊢
  have hA : ∀ q : Nat, s.heap.size ≤ q → A q := fun q h => by rw [← hAe]; exact Or.inr h
  have hS : va_S A s.heap s.heap [] := va_S.rf
  have hP : va_P D vwCl [(h0, .inl (cJ, 49, .inr (.inl f)))] s.heap := hP
  have hl := lv_entry ([.ref h0, .long p1]) (n := 5) (Nat.le_of_ble_eq_true rfl)
  rw [lg_entry_eq]
  generalize (lg_sl ([.ref h0, .long p1]) ++ List.replicate (5 - (lg_sl ([.ref h0, .long p1])).length) Slot.unset).toArray = ls at hl ⊢
  have hl : lv_has ls 5 [(0, .ref h0), (1, .long p1)] := hl
  refine lv_iconst (v := 0) hx hb dJ7_fill_d0a16_0 (by decide) ?_
  refine lv_istore_n (lv' := [(3, .int 0), (0, .ref h0), (1, .long p1)]) hx hb dJ7_fill_d0a16_1 rfl hl (by decide) rfl (fun ls hl => ?_)
  refine lv_aload_n hx hb dJ7_fill_d0a16_2 rfl (lv_at hl 1 rfl) ?_
  refine va_alen hx hb hK hP 0 1 rfl rfl (v := 49) (by rfl) dJ7_fill_d0a16_3 ?_
  refine lv_istore (lv' := [(4, .int 49), (3, .int 0), (0, .ref h0), (1, .long p1)]) hx hb dJ7_fill_d0a16_4 hl (by decide) rfl (fun ls hl => ?_)
  refine lpFillJ hx hb hml hown hts hK hA h0 p1 (Nat.le_of_ble_eq_true rfl) (Nat.le_of_ble_eq_true rfl) (Nat.zero_le _) (Nat.zero_le _)  (49 - 0 + 1) 0 f _ _ _ (Nat.lt_succ_self _) (by omega) (fun j a => absurd a (by omega)) hP hD hS (lv_sub hl [1, 0, 3, 2] rfl) (fun f_1 H locs ls hv_2 hP hD hS hl => ?_)
  have hP : va_P D vwCl [(h0, .inl (cJ, 49, .inr (.inl f_1)))] H := hP
  have hD : va_D A [(h0, .inl (cJ, 49, .inr (.inl f_1)))] := hD
  have hP9 := hP.sub (ws' := [(h0, .inl (cJ, 49, .inr (.inl f_1)))]) [0] rfl
  have hD9 := hD.sub (ws' := [(h0, .inl (cJ, 49, .inr (.inl f_1)))]) [0] (by decide) rfl
  exact W.vret hx hb hr (fun t ht hW => ⟨⟨(f_1), rfl, hv_2, by rw [ht]; exact hP9, va_K.moved hW.alike hK, hD9⟩, hS.F ht⟩) hS.2.2 dJ7_fill_d0a16_22

set_option maxRecDepth 20000 in
theorem in_X2_addCard_X2 : ∀ w ∈ wsX20, w ∈ wsX2_addCard := by decide +kernel
set_option maxRecDepth 20000 in
theorem wd_X2_addCard_0 : Cond.fieldLink RX2 13 "ShoeTable$Heaps" "ways" "[[J" ∈ wsX2_addCard := by decide +kernel
set_option maxHeartbeats 400000 in
set_option maxRecDepth 100000 in
theorem lpAdd1 {p : Program} {l : Launch} {e : Env} {R : Room} {s : State} {m : MethodId} {args : Array Value} {below : List Frame} {meth : Method} {c : Code} {Q : State → Prop} {D : va_G} {cI cJ cQ : ClassId} {A : Nat → Prop} {cells slots : Nat} (hx : p.tables.exec = Jvm.exec) (hb : c.code = cX2_addCard) (hml : c.maxLocals = 7) (hown : s.vm.findClass RX2 = some m.cls) (hts : ∀ w ∈ wsX2_addCard, w.before args s = true) (hK : va_K D vwCl (gTy cI cJ cQ) s) (hA : ∀ q : Nat, s.heap.size ≤ q → A q) (h0 : Nat) (hw : Nat) (gq : Nat → Option Nat) (ra : Nat) (rb : Nat) (sz : Nat) (a : Nat) (b : Nat) (p1 : Int32) (p2 : Int32) (B : Nat → Int64) (rest : va_W) (hRf : 0 ≤ R.frames) (hRl : 0 ≤ R.locals) (hRc : cells ≤ R.cells) (hRs : slots ≤ R.slots) (hb49 : b ≤ 49) (hab : a ≤ 3) (hr9 : ∀ i : Nat, a ≤ i → i < b → 0 ≤ (i : Int) - p1.toInt ∧ (i : Int) - p1.toInt < 49) (s1 : 1 ≤ sz) (s8 : sz ≤ 8) (hga : gq sz = some ra) (hgb : gq (sz - 1) = some rb) : ∀ (n9 : Nat) (i : Nat) (A9 : Nat → Int64) (H : Heap) (locs : List Loc) (ls : Array Slot), b - i < n9 → (a ≤ i) → (i ≤ 60) → va_P D vwCl ((h0, .inr (2, [.ref hw])) :: (hw, .inl (cQ, 9, .inr (.inr (.inr (.inr gq))))) :: (ra, .inl (cJ, 49, .inr (.inl A9))) :: (rb, .inl (cJ, 49, .inr (.inl B))) :: rest) H → va_D A ((h0, .inr (2, [.ref hw])) :: (hw, .inl (cQ, 9, .inr (.inr (.inr (.inr gq))))) :: (ra, .inl (cJ, 49, .inr (.inl A9))) :: (rb, .inl (cJ, 49, .inr (.inl B))) :: rest) → va_S A s.heap H locs → lv_has ls 7 [(6, .int (nI i)), (5, .int (nI sz)), (4, .int (nI b)), (3, .int (nI a)), (2, .int p2), (1, .int p1), (0, .ref h0)] → (∀ (A9 : Nat → Int64) (H : Heap) (locs : List Loc) (ls : Array Slot), va_P D vwCl ((h0, .inr (2, [.ref hw])) :: (hw, .inl (cQ, 9, .inr (.inr (.inr (.inr gq))))) :: (ra, .inl (cJ, 49, .inr (.inl A9))) :: (rb, .inl (cJ, 49, .inr (.inl B))) :: rest) H → va_D A ((h0, .inr (2, [.ref hw])) :: (hw, .inl (cQ, 9, .inr (.inr (.inr (.inr gq))))) :: (ra, .inl (cJ, 49, .inr (.inl A9))) :: (rb, .inl (cJ, 49, .inr (.inl B))) :: rest) → va_S A s.heap H locs → lv_has ls 7 [(5, .int (nI sz)), (4, .int (nI b)), (3, .int (nI a)), (2, .int p2), (1, .int p1), (0, .ref h0)] → W p l e R s m args below meth c H locs cells slots Q (F0 m 68 ls [])) → W p l e R s m args below meth c H locs cells slots Q (F0 m 28 ls []) := by
  intro n9
  induction n9 with
  | zero => intro i A9 H locs ls hms9; exact absurd hms9 (Nat.not_lt_zero _)
  | succ n9 ih =>
    intro i A9 H locs ls hms9 i1 i2 hP hD hS hl kk0
    refine lv_iload hx hb dX2_addCard_28 (lv_at hl 0 rfl) ?_
    refine lv_iload hx hb dX2_addCard_30 (lv_at hl 2 rfl) ?_
    refine lv_icmp_ge (tgt := 68) hx hb dX2_addCard_32 (by decide) (fun c32_1 => ?_) (fun c32_1 => ?_)
    · skip
      have nc32_1 : b ≤ i := (nI_leI (a := b) (b := i) (by omega) (by omega)).mp c32_1
      exact kk0 A9 _ _ _ hP hD hS (lv_sub hl [1, 2, 3, 4, 5, 6] rfl)
    · skip
      have nc32_1 : ¬ (b ≤ i) := fun z9 => c32_1 ((nI_leI (a := b) (b := i) (by omega) (by omega)).mpr z9)
      refine lv_aload_n hx hb dX2_addCard_35 rfl (lv_at hl 6 rfl) ?_
      refine va_get (D := D) (ci := 2) (v := .ref hw) (C := RX2) (T := TX2) (N := 1) hx hb hts in_X2_addCard_X2 hown hK hP 0 rfl rfl 0 (by decide) (hts _ wd_X2_addCard_0) (fun _ h9 => h9) rfl dX2_addCard_36 ?_
      refine lv_iload hx hb dX2_addCard_39 (lv_at hl 1 rfl) ?_
      refine va_aldA hx hb hK hP 1 2 rfl rfl (vp_in_nI (by omega) (by decide)) (by rw [nI_clamp (by omega)]; exact hga) dX2_addCard_41 ?_
      refine lv_iload hx hb dX2_addCard_42 (lv_at hl 0 rfl) ?_
      refine lv_dup2_11 hx hb dX2_addCard_44 rfl rfl ?_
      refine va_lald hx hb hK hP 2 1 rfl rfl (vp_in_nI (by omega) (by decide)) dX2_addCard_45 ?_
      refine lv_topl (fun z_2 ez_2 => ?_)
      obtain rfl : z_2 = (A9 i) := ez_2.trans (by rw [nI_clamp (by omega)])
      refine lv_aload_n hx hb dX2_addCard_46 rfl (lv_at hl 6 rfl) ?_
      refine va_get (D := D) (ci := 2) (v := .ref hw) (C := RX2) (T := TX2) (N := 1) hx hb hts in_X2_addCard_X2 hown hK hP 0 rfl rfl 0 (by decide) (hts _ wd_X2_addCard_0) (fun _ h9 => h9) rfl dX2_addCard_47 ?_
      refine lv_iload hx hb dX2_addCard_50 (lv_at hl 1 rfl) ?_
      refine lv_iconst (v := 1) hx hb dX2_addCard_52 (by decide) ?_
      refine lv_isub hx hb dX2_addCard_53 ?_
      refine lv_topi (fun z_3 ez_3 => ?_)
      obtain rfl : z_3 = nI (sz - 1) := ez_3.trans (nI_subT (by omega))
      refine va_aldA hx hb hK hP 1 2 rfl rfl (vp_in_nI (by omega) (by decide)) (by rw [nI_clamp (by omega)]; exact hgb) dX2_addCard_54 ?_
      refine lv_iload hx hb dX2_addCard_55 (lv_at hl 0 rfl) ?_
      refine lv_iload_n hx hb dX2_addCard_57 rfl (lv_at hl 5 rfl) ?_
      refine lv_isub hx hb dX2_addCard_58 ?_
      refine va_lald hx hb hK hP 3 1 rfl rfl (sub_in (by omega) (hr9 i i1 (by omega)).1 (hr9 i i1 (by omega)).2) dX2_addCard_59 ?_
      refine lv_ladd hx hb dX2_addCard_60 ?_
      refine va_last hx hb hK hP hD hS 2 1 rfl rfl (vp_in_nI (by omega) (by decide)) dX2_addCard_61 (fun H locs hP hD hS => ?_)
      have e9 : (vp_updL A9 (nI i).toNatClampNeg ((A9 i) + (B ((nI i) - p1).toNatClampNeg))) = vp_updL A9 i ((A9 i) + (B ((nI i) - p1).toNatClampNeg)) := by rw [nI_clamp (show i < 2 ^ 31 by omega)]
      have hP : va_P D vwCl ((h0, .inr (2, [.ref hw])) :: (hw, .inl (cQ, 9, .inr (.inr (.inr (.inr gq))))) :: (ra, .inl (cJ, 49, .inr (.inl (vp_updL A9 i ((A9 i) + (B ((nI i) - p1).toNatClampNeg)))))) :: (rb, .inl (cJ, 49, .inr (.inl B))) :: rest) H := by rw [← e9]; exact hP
      have hD : va_D A ((h0, .inr (2, [.ref hw])) :: (hw, .inl (cQ, 9, .inr (.inr (.inr (.inr gq))))) :: (ra, .inl (cJ, 49, .inr (.inl (vp_updL A9 i ((A9 i) + (B ((nI i) - p1).toNatClampNeg)))))) :: (rb, .inl (cJ, 49, .inr (.inl B))) :: rest) := by rw [← e9]; exact hD
      clear e9
      refine lv_iinc (v := (nI (i + 1))) (lv' := [(6, .int (nI (i + 1))), (5, .int (nI sz)), (4, .int (nI b)), (3, .int (nI a)), (2, .int p2), (1, .int p1), (0, .ref h0)]) hx hb dX2_addCard_62 hl (k := 0) rfl (nI_incT (by decide)) (by decide) rfl (fun ls hl => ?_)
      refine lv_goto (tgt := 28) hx hb dX2_addCard_65 (by decide) ?_
      exact ih (i + 1) (vp_updL A9 i ((A9 i) + (B ((nI i) - p1).toNatClampNeg))) _ _ _ (by omega) (by omega) (by omega) hP hD hS (lv_sub hl [0, 1, 2, 3, 4, 5, 6] rfl) kk0


set_option maxHeartbeats 400000 in
set_option maxRecDepth 100000 in
theorem lpAdd2 {p : Program} {l : Launch} {e : Env} {R : Room} {s : State} {m : MethodId} {args : Array Value} {below : List Frame} {meth : Method} {c : Code} {Q : State → Prop} {D : va_G} {cI cJ cQ : ClassId} {A : Nat → Prop} {cells slots : Nat} (hx : p.tables.exec = Jvm.exec) (hb : c.code = cX2_addCard) (hml : c.maxLocals = 7) (hown : s.vm.findClass RX2 = some m.cls) (hts : ∀ w ∈ wsX2_addCard, w.before args s = true) (hK : va_K D vwCl (gTy cI cJ cQ) s) (hA : ∀ q : Nat, s.heap.size ≤ q → A q) (h0 : Nat) (hw : Nat) (gq : Nat → Option Nat) (r0 : Nat) (r1 : Nat) (r2 : Nat) (r3 : Nat) (r4 : Nat) (r5 : Nat) (r6 : Nat) (r7 : Nat) (r8 : Nat) (a : Nat) (b : Nat) (p1 : Int32) (p2 : Int32) (hRf : 0 ≤ R.frames) (hRl : 0 ≤ R.locals) (hRc : cells ≤ R.cells) (hRs : slots ≤ R.slots) (hb49 : b ≤ 49) (hab : a ≤ 3) (hr9 : ∀ i : Nat, a ≤ i → i < b → 0 ≤ (i : Int) - p1.toInt ∧ (i : Int) - p1.toInt < 49) (hg : gq 0 = some r0 ∧ gq 1 = some r1 ∧ gq 2 = some r2 ∧ gq 3 = some r3 ∧ gq 4 = some r4 ∧ gq 5 = some r5 ∧ gq 6 = some r6 ∧ gq 7 = some r7 ∧ gq 8 = some r8) : ∀ (n9 : Nat) (sz : Nat) (a0 : Nat → Int64) (a1 : Nat → Int64) (a2 : Nat → Int64) (a3 : Nat → Int64) (a4 : Nat → Int64) (a5 : Nat → Int64) (a6 : Nat → Int64) (a7 : Nat → Int64) (a8 : Nat → Int64) (H : Heap) (locs : List Loc) (ls : Array Slot), sz < n9 → (sz ≤ 8) → va_P D vwCl [(h0, .inr (2, [.ref hw])), (hw, .inl (cQ, 9, .inr (.inr (.inr (.inr gq))))), (r0, .inl (cJ, 49, .inr (.inl a0))), (r1, .inl (cJ, 49, .inr (.inl a1))), (r2, .inl (cJ, 49, .inr (.inl a2))), (r3, .inl (cJ, 49, .inr (.inl a3))), (r4, .inl (cJ, 49, .inr (.inl a4))), (r5, .inl (cJ, 49, .inr (.inl a5))), (r6, .inl (cJ, 49, .inr (.inl a6))), (r7, .inl (cJ, 49, .inr (.inl a7))), (r8, .inl (cJ, 49, .inr (.inl a8)))] H → va_D A [(h0, .inr (2, [.ref hw])), (hw, .inl (cQ, 9, .inr (.inr (.inr (.inr gq))))), (r0, .inl (cJ, 49, .inr (.inl a0))), (r1, .inl (cJ, 49, .inr (.inl a1))), (r2, .inl (cJ, 49, .inr (.inl a2))), (r3, .inl (cJ, 49, .inr (.inl a3))), (r4, .inl (cJ, 49, .inr (.inl a4))), (r5, .inl (cJ, 49, .inr (.inl a5))), (r6, .inl (cJ, 49, .inr (.inl a6))), (r7, .inl (cJ, 49, .inr (.inl a7))), (r8, .inl (cJ, 49, .inr (.inl a8)))] → va_S A s.heap H locs → lv_has ls 7 [(5, .int (nI sz)), (4, .int (nI b)), (3, .int (nI a)), (2, .int p2), (1, .int p1), (0, .ref h0)] → (∀ (a0 : Nat → Int64) (a1 : Nat → Int64) (a2 : Nat → Int64) (a3 : Nat → Int64) (a4 : Nat → Int64) (a5 : Nat → Int64) (a6 : Nat → Int64) (a7 : Nat → Int64) (a8 : Nat → Int64) (H : Heap) (locs : List Loc) (ls : Array Slot), va_P D vwCl [(h0, .inr (2, [.ref hw])), (hw, .inl (cQ, 9, .inr (.inr (.inr (.inr gq))))), (r0, .inl (cJ, 49, .inr (.inl a0))), (r1, .inl (cJ, 49, .inr (.inl a1))), (r2, .inl (cJ, 49, .inr (.inl a2))), (r3, .inl (cJ, 49, .inr (.inl a3))), (r4, .inl (cJ, 49, .inr (.inl a4))), (r5, .inl (cJ, 49, .inr (.inl a5))), (r6, .inl (cJ, 49, .inr (.inl a6))), (r7, .inl (cJ, 49, .inr (.inl a7))), (r8, .inl (cJ, 49, .inr (.inl a8)))] H → va_D A [(h0, .inr (2, [.ref hw])), (hw, .inl (cQ, 9, .inr (.inr (.inr (.inr gq))))), (r0, .inl (cJ, 49, .inr (.inl a0))), (r1, .inl (cJ, 49, .inr (.inl a1))), (r2, .inl (cJ, 49, .inr (.inl a2))), (r3, .inl (cJ, 49, .inr (.inl a3))), (r4, .inl (cJ, 49, .inr (.inl a4))), (r5, .inl (cJ, 49, .inr (.inl a5))), (r6, .inl (cJ, 49, .inr (.inl a6))), (r7, .inl (cJ, 49, .inr (.inl a7))), (r8, .inl (cJ, 49, .inr (.inl a8)))] → va_S A s.heap H locs → lv_has ls 7 [(0, .ref h0)] → W p l e R s m args below meth c H locs cells slots Q (F0 m 74 ls [])) → W p l e R s m args below meth c H locs cells slots Q (F0 m 20 ls []) := by
  intro n9
  induction n9 with
  | zero => intro sz a0 a1 a2 a3 a4 a5 a6 a7 a8 H locs ls hms9; exact absurd hms9 (Nat.not_lt_zero _)
  | succ n9 ih =>
    intro sz a0 a1 a2 a3 a4 a5 a6 a7 a8 H locs ls hms9 s8 hP hD hS hl kk0
    refine lv_iload hx hb dX2_addCard_20 (lv_at hl 0 rfl) ?_
    refine lv_if_le (tgt := 74) hx hb dX2_addCard_22 (by decide) (fun c22_1 => ?_) (fun c22_1 => ?_)
    · skip
      have nc22_1 : sz ≤ 0 := (nI_leI (a := sz) (b := 0) (by omega) (by omega)).mp c22_1
      exact kk0 a0 a1 a2 a3 a4 a5 a6 a7 a8 _ _ _ hP hD hS (lv_sub hl [5] rfl)
    · skip
      have nc22_1 : ¬ (sz ≤ 0) := fun z9 => c22_1 ((nI_leI (a := sz) (b := 0) (by omega) (by omega)).mpr z9)
      rcases (show sz = 1 ∨ sz = 2 ∨ sz = 3 ∨ sz = 4 ∨ sz = 5 ∨ sz = 6 ∨ sz = 7 ∨ sz = 8 by omega) with rfl | rfl | rfl | rfl | rfl | rfl | rfl | rfl
      · skip
        refine lv_iload_n hx hb dX2_addCard_25 rfl (lv_at hl 2 rfl) ?_
        refine lv_istore (lv' := [(6, .int (nI a)), (5, .int 1), (4, .int (nI b)), (3, .int (nI a)), (2, .int p2), (1, .int p1), (0, .ref h0)]) hx hb dX2_addCard_26 hl (by decide) rfl (fun ls hl => ?_)
        refine lpAdd1 hx hb hml hown hts hK hA h0 hw gq r1 r0 1 a b p1 p2 a0 ([(r2, .inl (cJ, 49, .inr (.inl a2))), (r3, .inl (cJ, 49, .inr (.inl a3))), (r4, .inl (cJ, 49, .inr (.inl a4))), (r5, .inl (cJ, 49, .inr (.inl a5))), (r6, .inl (cJ, 49, .inr (.inl a6))), (r7, .inl (cJ, 49, .inr (.inl a7))), (r8, .inl (cJ, 49, .inr (.inl a8)))]) (Nat.le_trans (show 0 ≤ 0 by omega) hRf) (Nat.le_trans (show 0 ≤ 0 by omega) hRl) hRc hRs hb49 hab hr9 (by omega) (by omega) hg.2.1 hg.1 (b - a + 1) a a1 _ _ _ (Nat.lt_succ_self _) (by omega) (by omega) (hP.sub [0, 1, 3, 2, 4, 5, 6, 7, 8, 9, 10] rfl) (hD.sub [0, 1, 3, 2, 4, 5, 6, 7, 8, 9, 10] (by decide) rfl) hS (lv_sub hl [0, 1, 2, 3, 4, 5, 6] rfl) (fun A9_2 H locs ls  hP hD hS hl => ?_)
        have hP : va_P D vwCl [(h0, .inr (2, [.ref hw])), (hw, .inl (cQ, 9, .inr (.inr (.inr (.inr gq))))), (r1, .inl (cJ, 49, .inr (.inl A9_2))), (r0, .inl (cJ, 49, .inr (.inl a0))), (r2, .inl (cJ, 49, .inr (.inl a2))), (r3, .inl (cJ, 49, .inr (.inl a3))), (r4, .inl (cJ, 49, .inr (.inl a4))), (r5, .inl (cJ, 49, .inr (.inl a5))), (r6, .inl (cJ, 49, .inr (.inl a6))), (r7, .inl (cJ, 49, .inr (.inl a7))), (r8, .inl (cJ, 49, .inr (.inl a8)))] H := hP
        have hD : va_D A [(h0, .inr (2, [.ref hw])), (hw, .inl (cQ, 9, .inr (.inr (.inr (.inr gq))))), (r1, .inl (cJ, 49, .inr (.inl A9_2))), (r0, .inl (cJ, 49, .inr (.inl a0))), (r2, .inl (cJ, 49, .inr (.inl a2))), (r3, .inl (cJ, 49, .inr (.inl a3))), (r4, .inl (cJ, 49, .inr (.inl a4))), (r5, .inl (cJ, 49, .inr (.inl a5))), (r6, .inl (cJ, 49, .inr (.inl a6))), (r7, .inl (cJ, 49, .inr (.inl a7))), (r8, .inl (cJ, 49, .inr (.inl a8)))] := hD
        refine lv_iinc (v := 0) (lv' := [(5, .int 0), (4, .int (nI b)), (3, .int (nI a)), (2, .int p2), (1, .int p1), (0, .ref h0)]) hx hb dX2_addCard_68 hl (k := 0) rfl (by decide) (by decide) rfl (fun ls hl => ?_)
        refine lv_goto (tgt := 20) hx hb dX2_addCard_71 (by decide) ?_
        exact ih 0 a0 A9_2 a2 a3 a4 a5 a6 a7 a8 _ _ _ (by omega) (by omega) (hP.sub [0, 1, 3, 2, 4, 5, 6, 7, 8, 9, 10] rfl) (hD.sub [0, 1, 3, 2, 4, 5, 6, 7, 8, 9, 10] (by decide) rfl) hS (lv_sub hl [0, 1, 2, 3, 4, 5] rfl) kk0
      · skip
        refine lv_iload_n hx hb dX2_addCard_25 rfl (lv_at hl 2 rfl) ?_
        refine lv_istore (lv' := [(6, .int (nI a)), (5, .int 2), (4, .int (nI b)), (3, .int (nI a)), (2, .int p2), (1, .int p1), (0, .ref h0)]) hx hb dX2_addCard_26 hl (by decide) rfl (fun ls hl => ?_)
        refine lpAdd1 hx hb hml hown hts hK hA h0 hw gq r2 r1 2 a b p1 p2 a1 ([(r0, .inl (cJ, 49, .inr (.inl a0))), (r3, .inl (cJ, 49, .inr (.inl a3))), (r4, .inl (cJ, 49, .inr (.inl a4))), (r5, .inl (cJ, 49, .inr (.inl a5))), (r6, .inl (cJ, 49, .inr (.inl a6))), (r7, .inl (cJ, 49, .inr (.inl a7))), (r8, .inl (cJ, 49, .inr (.inl a8)))]) (Nat.le_trans (show 0 ≤ 0 by omega) hRf) (Nat.le_trans (show 0 ≤ 0 by omega) hRl) hRc hRs hb49 hab hr9 (by omega) (by omega) hg.2.2.1 hg.2.1 (b - a + 1) a a2 _ _ _ (Nat.lt_succ_self _) (by omega) (by omega) (hP.sub [0, 1, 4, 3, 2, 5, 6, 7, 8, 9, 10] rfl) (hD.sub [0, 1, 4, 3, 2, 5, 6, 7, 8, 9, 10] (by decide) rfl) hS (lv_sub hl [0, 1, 2, 3, 4, 5, 6] rfl) (fun A9_3 H locs ls  hP hD hS hl => ?_)
        have hP : va_P D vwCl [(h0, .inr (2, [.ref hw])), (hw, .inl (cQ, 9, .inr (.inr (.inr (.inr gq))))), (r2, .inl (cJ, 49, .inr (.inl A9_3))), (r1, .inl (cJ, 49, .inr (.inl a1))), (r0, .inl (cJ, 49, .inr (.inl a0))), (r3, .inl (cJ, 49, .inr (.inl a3))), (r4, .inl (cJ, 49, .inr (.inl a4))), (r5, .inl (cJ, 49, .inr (.inl a5))), (r6, .inl (cJ, 49, .inr (.inl a6))), (r7, .inl (cJ, 49, .inr (.inl a7))), (r8, .inl (cJ, 49, .inr (.inl a8)))] H := hP
        have hD : va_D A [(h0, .inr (2, [.ref hw])), (hw, .inl (cQ, 9, .inr (.inr (.inr (.inr gq))))), (r2, .inl (cJ, 49, .inr (.inl A9_3))), (r1, .inl (cJ, 49, .inr (.inl a1))), (r0, .inl (cJ, 49, .inr (.inl a0))), (r3, .inl (cJ, 49, .inr (.inl a3))), (r4, .inl (cJ, 49, .inr (.inl a4))), (r5, .inl (cJ, 49, .inr (.inl a5))), (r6, .inl (cJ, 49, .inr (.inl a6))), (r7, .inl (cJ, 49, .inr (.inl a7))), (r8, .inl (cJ, 49, .inr (.inl a8)))] := hD
        refine lv_iinc (v := 1) (lv' := [(5, .int 1), (4, .int (nI b)), (3, .int (nI a)), (2, .int p2), (1, .int p1), (0, .ref h0)]) hx hb dX2_addCard_68 hl (k := 0) rfl (by decide) (by decide) rfl (fun ls hl => ?_)
        refine lv_goto (tgt := 20) hx hb dX2_addCard_71 (by decide) ?_
        exact ih 1 a0 a1 A9_3 a3 a4 a5 a6 a7 a8 _ _ _ (by omega) (by omega) (hP.sub [0, 1, 4, 3, 2, 5, 6, 7, 8, 9, 10] rfl) (hD.sub [0, 1, 4, 3, 2, 5, 6, 7, 8, 9, 10] (by decide) rfl) hS (lv_sub hl [0, 1, 2, 3, 4, 5] rfl) kk0
      · skip
        refine lv_iload_n hx hb dX2_addCard_25 rfl (lv_at hl 2 rfl) ?_
        refine lv_istore (lv' := [(6, .int (nI a)), (5, .int 3), (4, .int (nI b)), (3, .int (nI a)), (2, .int p2), (1, .int p1), (0, .ref h0)]) hx hb dX2_addCard_26 hl (by decide) rfl (fun ls hl => ?_)
        refine lpAdd1 hx hb hml hown hts hK hA h0 hw gq r3 r2 3 a b p1 p2 a2 ([(r0, .inl (cJ, 49, .inr (.inl a0))), (r1, .inl (cJ, 49, .inr (.inl a1))), (r4, .inl (cJ, 49, .inr (.inl a4))), (r5, .inl (cJ, 49, .inr (.inl a5))), (r6, .inl (cJ, 49, .inr (.inl a6))), (r7, .inl (cJ, 49, .inr (.inl a7))), (r8, .inl (cJ, 49, .inr (.inl a8)))]) (Nat.le_trans (show 0 ≤ 0 by omega) hRf) (Nat.le_trans (show 0 ≤ 0 by omega) hRl) hRc hRs hb49 hab hr9 (by omega) (by omega) hg.2.2.2.1 hg.2.2.1 (b - a + 1) a a3 _ _ _ (Nat.lt_succ_self _) (by omega) (by omega) (hP.sub [0, 1, 5, 4, 2, 3, 6, 7, 8, 9, 10] rfl) (hD.sub [0, 1, 5, 4, 2, 3, 6, 7, 8, 9, 10] (by decide) rfl) hS (lv_sub hl [0, 1, 2, 3, 4, 5, 6] rfl) (fun A9_4 H locs ls  hP hD hS hl => ?_)
        have hP : va_P D vwCl [(h0, .inr (2, [.ref hw])), (hw, .inl (cQ, 9, .inr (.inr (.inr (.inr gq))))), (r3, .inl (cJ, 49, .inr (.inl A9_4))), (r2, .inl (cJ, 49, .inr (.inl a2))), (r0, .inl (cJ, 49, .inr (.inl a0))), (r1, .inl (cJ, 49, .inr (.inl a1))), (r4, .inl (cJ, 49, .inr (.inl a4))), (r5, .inl (cJ, 49, .inr (.inl a5))), (r6, .inl (cJ, 49, .inr (.inl a6))), (r7, .inl (cJ, 49, .inr (.inl a7))), (r8, .inl (cJ, 49, .inr (.inl a8)))] H := hP
        have hD : va_D A [(h0, .inr (2, [.ref hw])), (hw, .inl (cQ, 9, .inr (.inr (.inr (.inr gq))))), (r3, .inl (cJ, 49, .inr (.inl A9_4))), (r2, .inl (cJ, 49, .inr (.inl a2))), (r0, .inl (cJ, 49, .inr (.inl a0))), (r1, .inl (cJ, 49, .inr (.inl a1))), (r4, .inl (cJ, 49, .inr (.inl a4))), (r5, .inl (cJ, 49, .inr (.inl a5))), (r6, .inl (cJ, 49, .inr (.inl a6))), (r7, .inl (cJ, 49, .inr (.inl a7))), (r8, .inl (cJ, 49, .inr (.inl a8)))] := hD
        refine lv_iinc (v := 2) (lv' := [(5, .int 2), (4, .int (nI b)), (3, .int (nI a)), (2, .int p2), (1, .int p1), (0, .ref h0)]) hx hb dX2_addCard_68 hl (k := 0) rfl (by decide) (by decide) rfl (fun ls hl => ?_)
        refine lv_goto (tgt := 20) hx hb dX2_addCard_71 (by decide) ?_
        exact ih 2 a0 a1 a2 A9_4 a4 a5 a6 a7 a8 _ _ _ (by omega) (by omega) (hP.sub [0, 1, 4, 5, 3, 2, 6, 7, 8, 9, 10] rfl) (hD.sub [0, 1, 4, 5, 3, 2, 6, 7, 8, 9, 10] (by decide) rfl) hS (lv_sub hl [0, 1, 2, 3, 4, 5] rfl) kk0
      · skip
        refine lv_iload_n hx hb dX2_addCard_25 rfl (lv_at hl 2 rfl) ?_
        refine lv_istore (lv' := [(6, .int (nI a)), (5, .int 4), (4, .int (nI b)), (3, .int (nI a)), (2, .int p2), (1, .int p1), (0, .ref h0)]) hx hb dX2_addCard_26 hl (by decide) rfl (fun ls hl => ?_)
        refine lpAdd1 hx hb hml hown hts hK hA h0 hw gq r4 r3 4 a b p1 p2 a3 ([(r0, .inl (cJ, 49, .inr (.inl a0))), (r1, .inl (cJ, 49, .inr (.inl a1))), (r2, .inl (cJ, 49, .inr (.inl a2))), (r5, .inl (cJ, 49, .inr (.inl a5))), (r6, .inl (cJ, 49, .inr (.inl a6))), (r7, .inl (cJ, 49, .inr (.inl a7))), (r8, .inl (cJ, 49, .inr (.inl a8)))]) (Nat.le_trans (show 0 ≤ 0 by omega) hRf) (Nat.le_trans (show 0 ≤ 0 by omega) hRl) hRc hRs hb49 hab hr9 (by omega) (by omega) hg.2.2.2.2.1 hg.2.2.2.1 (b - a + 1) a a4 _ _ _ (Nat.lt_succ_self _) (by omega) (by omega) (hP.sub [0, 1, 6, 5, 2, 3, 4, 7, 8, 9, 10] rfl) (hD.sub [0, 1, 6, 5, 2, 3, 4, 7, 8, 9, 10] (by decide) rfl) hS (lv_sub hl [0, 1, 2, 3, 4, 5, 6] rfl) (fun A9_5 H locs ls  hP hD hS hl => ?_)
        have hP : va_P D vwCl [(h0, .inr (2, [.ref hw])), (hw, .inl (cQ, 9, .inr (.inr (.inr (.inr gq))))), (r4, .inl (cJ, 49, .inr (.inl A9_5))), (r3, .inl (cJ, 49, .inr (.inl a3))), (r0, .inl (cJ, 49, .inr (.inl a0))), (r1, .inl (cJ, 49, .inr (.inl a1))), (r2, .inl (cJ, 49, .inr (.inl a2))), (r5, .inl (cJ, 49, .inr (.inl a5))), (r6, .inl (cJ, 49, .inr (.inl a6))), (r7, .inl (cJ, 49, .inr (.inl a7))), (r8, .inl (cJ, 49, .inr (.inl a8)))] H := hP
        have hD : va_D A [(h0, .inr (2, [.ref hw])), (hw, .inl (cQ, 9, .inr (.inr (.inr (.inr gq))))), (r4, .inl (cJ, 49, .inr (.inl A9_5))), (r3, .inl (cJ, 49, .inr (.inl a3))), (r0, .inl (cJ, 49, .inr (.inl a0))), (r1, .inl (cJ, 49, .inr (.inl a1))), (r2, .inl (cJ, 49, .inr (.inl a2))), (r5, .inl (cJ, 49, .inr (.inl a5))), (r6, .inl (cJ, 49, .inr (.inl a6))), (r7, .inl (cJ, 49, .inr (.inl a7))), (r8, .inl (cJ, 49, .inr (.inl a8)))] := hD
        refine lv_iinc (v := 3) (lv' := [(5, .int 3), (4, .int (nI b)), (3, .int (nI a)), (2, .int p2), (1, .int p1), (0, .ref h0)]) hx hb dX2_addCard_68 hl (k := 0) rfl (by decide) (by decide) rfl (fun ls hl => ?_)
        refine lv_goto (tgt := 20) hx hb dX2_addCard_71 (by decide) ?_
        exact ih 3 a0 a1 a2 a3 A9_5 a5 a6 a7 a8 _ _ _ (by omega) (by omega) (hP.sub [0, 1, 4, 5, 6, 3, 2, 7, 8, 9, 10] rfl) (hD.sub [0, 1, 4, 5, 6, 3, 2, 7, 8, 9, 10] (by decide) rfl) hS (lv_sub hl [0, 1, 2, 3, 4, 5] rfl) kk0
      · skip
        refine lv_iload_n hx hb dX2_addCard_25 rfl (lv_at hl 2 rfl) ?_
        refine lv_istore (lv' := [(6, .int (nI a)), (5, .int 5), (4, .int (nI b)), (3, .int (nI a)), (2, .int p2), (1, .int p1), (0, .ref h0)]) hx hb dX2_addCard_26 hl (by decide) rfl (fun ls hl => ?_)
        refine lpAdd1 hx hb hml hown hts hK hA h0 hw gq r5 r4 5 a b p1 p2 a4 ([(r0, .inl (cJ, 49, .inr (.inl a0))), (r1, .inl (cJ, 49, .inr (.inl a1))), (r2, .inl (cJ, 49, .inr (.inl a2))), (r3, .inl (cJ, 49, .inr (.inl a3))), (r6, .inl (cJ, 49, .inr (.inl a6))), (r7, .inl (cJ, 49, .inr (.inl a7))), (r8, .inl (cJ, 49, .inr (.inl a8)))]) (Nat.le_trans (show 0 ≤ 0 by omega) hRf) (Nat.le_trans (show 0 ≤ 0 by omega) hRl) hRc hRs hb49 hab hr9 (by omega) (by omega) hg.2.2.2.2.2.1 hg.2.2.2.2.1 (b - a + 1) a a5 _ _ _ (Nat.lt_succ_self _) (by omega) (by omega) (hP.sub [0, 1, 7, 6, 2, 3, 4, 5, 8, 9, 10] rfl) (hD.sub [0, 1, 7, 6, 2, 3, 4, 5, 8, 9, 10] (by decide) rfl) hS (lv_sub hl [0, 1, 2, 3, 4, 5, 6] rfl) (fun A9_6 H locs ls  hP hD hS hl => ?_)
        have hP : va_P D vwCl [(h0, .inr (2, [.ref hw])), (hw, .inl (cQ, 9, .inr (.inr (.inr (.inr gq))))), (r5, .inl (cJ, 49, .inr (.inl A9_6))), (r4, .inl (cJ, 49, .inr (.inl a4))), (r0, .inl (cJ, 49, .inr (.inl a0))), (r1, .inl (cJ, 49, .inr (.inl a1))), (r2, .inl (cJ, 49, .inr (.inl a2))), (r3, .inl (cJ, 49, .inr (.inl a3))), (r6, .inl (cJ, 49, .inr (.inl a6))), (r7, .inl (cJ, 49, .inr (.inl a7))), (r8, .inl (cJ, 49, .inr (.inl a8)))] H := hP
        have hD : va_D A [(h0, .inr (2, [.ref hw])), (hw, .inl (cQ, 9, .inr (.inr (.inr (.inr gq))))), (r5, .inl (cJ, 49, .inr (.inl A9_6))), (r4, .inl (cJ, 49, .inr (.inl a4))), (r0, .inl (cJ, 49, .inr (.inl a0))), (r1, .inl (cJ, 49, .inr (.inl a1))), (r2, .inl (cJ, 49, .inr (.inl a2))), (r3, .inl (cJ, 49, .inr (.inl a3))), (r6, .inl (cJ, 49, .inr (.inl a6))), (r7, .inl (cJ, 49, .inr (.inl a7))), (r8, .inl (cJ, 49, .inr (.inl a8)))] := hD
        refine lv_iinc (v := 4) (lv' := [(5, .int 4), (4, .int (nI b)), (3, .int (nI a)), (2, .int p2), (1, .int p1), (0, .ref h0)]) hx hb dX2_addCard_68 hl (k := 0) rfl (by decide) (by decide) rfl (fun ls hl => ?_)
        refine lv_goto (tgt := 20) hx hb dX2_addCard_71 (by decide) ?_
        exact ih 4 a0 a1 a2 a3 a4 A9_6 a6 a7 a8 _ _ _ (by omega) (by omega) (hP.sub [0, 1, 4, 5, 6, 7, 3, 2, 8, 9, 10] rfl) (hD.sub [0, 1, 4, 5, 6, 7, 3, 2, 8, 9, 10] (by decide) rfl) hS (lv_sub hl [0, 1, 2, 3, 4, 5] rfl) kk0
      · skip
        refine lv_iload_n hx hb dX2_addCard_25 rfl (lv_at hl 2 rfl) ?_
        refine lv_istore (lv' := [(6, .int (nI a)), (5, .int 6), (4, .int (nI b)), (3, .int (nI a)), (2, .int p2), (1, .int p1), (0, .ref h0)]) hx hb dX2_addCard_26 hl (by decide) rfl (fun ls hl => ?_)
        refine lpAdd1 hx hb hml hown hts hK hA h0 hw gq r6 r5 6 a b p1 p2 a5 ([(r0, .inl (cJ, 49, .inr (.inl a0))), (r1, .inl (cJ, 49, .inr (.inl a1))), (r2, .inl (cJ, 49, .inr (.inl a2))), (r3, .inl (cJ, 49, .inr (.inl a3))), (r4, .inl (cJ, 49, .inr (.inl a4))), (r7, .inl (cJ, 49, .inr (.inl a7))), (r8, .inl (cJ, 49, .inr (.inl a8)))]) (Nat.le_trans (show 0 ≤ 0 by omega) hRf) (Nat.le_trans (show 0 ≤ 0 by omega) hRl) hRc hRs hb49 hab hr9 (by omega) (by omega) hg.2.2.2.2.2.2.1 hg.2.2.2.2.2.1 (b - a + 1) a a6 _ _ _ (Nat.lt_succ_self _) (by omega) (by omega) (hP.sub [0, 1, 8, 7, 2, 3, 4, 5, 6, 9, 10] rfl) (hD.sub [0, 1, 8, 7, 2, 3, 4, 5, 6, 9, 10] (by decide) rfl) hS (lv_sub hl [0, 1, 2, 3, 4, 5, 6] rfl) (fun A9_7 H locs ls  hP hD hS hl => ?_)
        have hP : va_P D vwCl [(h0, .inr (2, [.ref hw])), (hw, .inl (cQ, 9, .inr (.inr (.inr (.inr gq))))), (r6, .inl (cJ, 49, .inr (.inl A9_7))), (r5, .inl (cJ, 49, .inr (.inl a5))), (r0, .inl (cJ, 49, .inr (.inl a0))), (r1, .inl (cJ, 49, .inr (.inl a1))), (r2, .inl (cJ, 49, .inr (.inl a2))), (r3, .inl (cJ, 49, .inr (.inl a3))), (r4, .inl (cJ, 49, .inr (.inl a4))), (r7, .inl (cJ, 49, .inr (.inl a7))), (r8, .inl (cJ, 49, .inr (.inl a8)))] H := hP
        have hD : va_D A [(h0, .inr (2, [.ref hw])), (hw, .inl (cQ, 9, .inr (.inr (.inr (.inr gq))))), (r6, .inl (cJ, 49, .inr (.inl A9_7))), (r5, .inl (cJ, 49, .inr (.inl a5))), (r0, .inl (cJ, 49, .inr (.inl a0))), (r1, .inl (cJ, 49, .inr (.inl a1))), (r2, .inl (cJ, 49, .inr (.inl a2))), (r3, .inl (cJ, 49, .inr (.inl a3))), (r4, .inl (cJ, 49, .inr (.inl a4))), (r7, .inl (cJ, 49, .inr (.inl a7))), (r8, .inl (cJ, 49, .inr (.inl a8)))] := hD
        refine lv_iinc (v := 5) (lv' := [(5, .int 5), (4, .int (nI b)), (3, .int (nI a)), (2, .int p2), (1, .int p1), (0, .ref h0)]) hx hb dX2_addCard_68 hl (k := 0) rfl (by decide) (by decide) rfl (fun ls hl => ?_)
        refine lv_goto (tgt := 20) hx hb dX2_addCard_71 (by decide) ?_
        exact ih 5 a0 a1 a2 a3 a4 a5 A9_7 a7 a8 _ _ _ (by omega) (by omega) (hP.sub [0, 1, 4, 5, 6, 7, 8, 3, 2, 9, 10] rfl) (hD.sub [0, 1, 4, 5, 6, 7, 8, 3, 2, 9, 10] (by decide) rfl) hS (lv_sub hl [0, 1, 2, 3, 4, 5] rfl) kk0
      · skip
        refine lv_iload_n hx hb dX2_addCard_25 rfl (lv_at hl 2 rfl) ?_
        refine lv_istore (lv' := [(6, .int (nI a)), (5, .int 7), (4, .int (nI b)), (3, .int (nI a)), (2, .int p2), (1, .int p1), (0, .ref h0)]) hx hb dX2_addCard_26 hl (by decide) rfl (fun ls hl => ?_)
        refine lpAdd1 hx hb hml hown hts hK hA h0 hw gq r7 r6 7 a b p1 p2 a6 ([(r0, .inl (cJ, 49, .inr (.inl a0))), (r1, .inl (cJ, 49, .inr (.inl a1))), (r2, .inl (cJ, 49, .inr (.inl a2))), (r3, .inl (cJ, 49, .inr (.inl a3))), (r4, .inl (cJ, 49, .inr (.inl a4))), (r5, .inl (cJ, 49, .inr (.inl a5))), (r8, .inl (cJ, 49, .inr (.inl a8)))]) (Nat.le_trans (show 0 ≤ 0 by omega) hRf) (Nat.le_trans (show 0 ≤ 0 by omega) hRl) hRc hRs hb49 hab hr9 (by omega) (by omega) hg.2.2.2.2.2.2.2.1 hg.2.2.2.2.2.2.1 (b - a + 1) a a7 _ _ _ (Nat.lt_succ_self _) (by omega) (by omega) (hP.sub [0, 1, 9, 8, 2, 3, 4, 5, 6, 7, 10] rfl) (hD.sub [0, 1, 9, 8, 2, 3, 4, 5, 6, 7, 10] (by decide) rfl) hS (lv_sub hl [0, 1, 2, 3, 4, 5, 6] rfl) (fun A9_8 H locs ls  hP hD hS hl => ?_)
        have hP : va_P D vwCl [(h0, .inr (2, [.ref hw])), (hw, .inl (cQ, 9, .inr (.inr (.inr (.inr gq))))), (r7, .inl (cJ, 49, .inr (.inl A9_8))), (r6, .inl (cJ, 49, .inr (.inl a6))), (r0, .inl (cJ, 49, .inr (.inl a0))), (r1, .inl (cJ, 49, .inr (.inl a1))), (r2, .inl (cJ, 49, .inr (.inl a2))), (r3, .inl (cJ, 49, .inr (.inl a3))), (r4, .inl (cJ, 49, .inr (.inl a4))), (r5, .inl (cJ, 49, .inr (.inl a5))), (r8, .inl (cJ, 49, .inr (.inl a8)))] H := hP
        have hD : va_D A [(h0, .inr (2, [.ref hw])), (hw, .inl (cQ, 9, .inr (.inr (.inr (.inr gq))))), (r7, .inl (cJ, 49, .inr (.inl A9_8))), (r6, .inl (cJ, 49, .inr (.inl a6))), (r0, .inl (cJ, 49, .inr (.inl a0))), (r1, .inl (cJ, 49, .inr (.inl a1))), (r2, .inl (cJ, 49, .inr (.inl a2))), (r3, .inl (cJ, 49, .inr (.inl a3))), (r4, .inl (cJ, 49, .inr (.inl a4))), (r5, .inl (cJ, 49, .inr (.inl a5))), (r8, .inl (cJ, 49, .inr (.inl a8)))] := hD
        refine lv_iinc (v := 6) (lv' := [(5, .int 6), (4, .int (nI b)), (3, .int (nI a)), (2, .int p2), (1, .int p1), (0, .ref h0)]) hx hb dX2_addCard_68 hl (k := 0) rfl (by decide) (by decide) rfl (fun ls hl => ?_)
        refine lv_goto (tgt := 20) hx hb dX2_addCard_71 (by decide) ?_
        exact ih 6 a0 a1 a2 a3 a4 a5 a6 A9_8 a8 _ _ _ (by omega) (by omega) (hP.sub [0, 1, 4, 5, 6, 7, 8, 9, 3, 2, 10] rfl) (hD.sub [0, 1, 4, 5, 6, 7, 8, 9, 3, 2, 10] (by decide) rfl) hS (lv_sub hl [0, 1, 2, 3, 4, 5] rfl) kk0
      · skip
        refine lv_iload_n hx hb dX2_addCard_25 rfl (lv_at hl 2 rfl) ?_
        refine lv_istore (lv' := [(6, .int (nI a)), (5, .int 8), (4, .int (nI b)), (3, .int (nI a)), (2, .int p2), (1, .int p1), (0, .ref h0)]) hx hb dX2_addCard_26 hl (by decide) rfl (fun ls hl => ?_)
        refine lpAdd1 hx hb hml hown hts hK hA h0 hw gq r8 r7 8 a b p1 p2 a7 ([(r0, .inl (cJ, 49, .inr (.inl a0))), (r1, .inl (cJ, 49, .inr (.inl a1))), (r2, .inl (cJ, 49, .inr (.inl a2))), (r3, .inl (cJ, 49, .inr (.inl a3))), (r4, .inl (cJ, 49, .inr (.inl a4))), (r5, .inl (cJ, 49, .inr (.inl a5))), (r6, .inl (cJ, 49, .inr (.inl a6)))]) (Nat.le_trans (show 0 ≤ 0 by omega) hRf) (Nat.le_trans (show 0 ≤ 0 by omega) hRl) hRc hRs hb49 hab hr9 (by omega) (by omega) hg.2.2.2.2.2.2.2.2 hg.2.2.2.2.2.2.2.1 (b - a + 1) a a8 _ _ _ (Nat.lt_succ_self _) (by omega) (by omega) (hP.sub [0, 1, 10, 9, 2, 3, 4, 5, 6, 7, 8] rfl) (hD.sub [0, 1, 10, 9, 2, 3, 4, 5, 6, 7, 8] (by decide) rfl) hS (lv_sub hl [0, 1, 2, 3, 4, 5, 6] rfl) (fun A9_9 H locs ls  hP hD hS hl => ?_)
        have hP : va_P D vwCl [(h0, .inr (2, [.ref hw])), (hw, .inl (cQ, 9, .inr (.inr (.inr (.inr gq))))), (r8, .inl (cJ, 49, .inr (.inl A9_9))), (r7, .inl (cJ, 49, .inr (.inl a7))), (r0, .inl (cJ, 49, .inr (.inl a0))), (r1, .inl (cJ, 49, .inr (.inl a1))), (r2, .inl (cJ, 49, .inr (.inl a2))), (r3, .inl (cJ, 49, .inr (.inl a3))), (r4, .inl (cJ, 49, .inr (.inl a4))), (r5, .inl (cJ, 49, .inr (.inl a5))), (r6, .inl (cJ, 49, .inr (.inl a6)))] H := hP
        have hD : va_D A [(h0, .inr (2, [.ref hw])), (hw, .inl (cQ, 9, .inr (.inr (.inr (.inr gq))))), (r8, .inl (cJ, 49, .inr (.inl A9_9))), (r7, .inl (cJ, 49, .inr (.inl a7))), (r0, .inl (cJ, 49, .inr (.inl a0))), (r1, .inl (cJ, 49, .inr (.inl a1))), (r2, .inl (cJ, 49, .inr (.inl a2))), (r3, .inl (cJ, 49, .inr (.inl a3))), (r4, .inl (cJ, 49, .inr (.inl a4))), (r5, .inl (cJ, 49, .inr (.inl a5))), (r6, .inl (cJ, 49, .inr (.inl a6)))] := hD
        refine lv_iinc (v := 7) (lv' := [(5, .int 7), (4, .int (nI b)), (3, .int (nI a)), (2, .int p2), (1, .int p1), (0, .ref h0)]) hx hb dX2_addCard_68 hl (k := 0) rfl (by decide) (by decide) rfl (fun ls hl => ?_)
        refine lv_goto (tgt := 20) hx hb dX2_addCard_71 (by decide) ?_
        exact ih 7 a0 a1 a2 a3 a4 a5 a6 a7 A9_9 _ _ _ (by omega) (by omega) (hP.sub [0, 1, 4, 5, 6, 7, 8, 9, 10, 3, 2] rfl) (hD.sub [0, 1, 4, 5, 6, 7, 8, 9, 10, 3, 2] (by decide) rfl) hS (lv_sub hl [0, 1, 2, 3, 4, 5] rfl) kk0

set_option maxRecDepth 20000 in
theorem wd_X2_addCard_1 : Cond.methodLink RX2 32 Lib.Math.max.name ∈ wsX2_addCard := by decide +kernel
set_option maxRecDepth 20000 in
theorem wd_X2_addCard_2 : Cond.static Lib.Math.max.name ∈ wsX2_addCard := by decide +kernel
set_option maxRecDepth 20000 in
theorem wd_X2_addCard_3 : Cond.initialized "java/lang/Math" ∈ wsX2_addCard := by decide +kernel
set_option maxRecDepth 20000 in
theorem wd_X2_addCard_4 : Cond.code Lib.Math.max.name Lib.Math.max.code 2 (some .int) ∈ wsX2_addCard := by decide +kernel
set_option maxRecDepth 20000 in
theorem wd_X2_addCard_5 : Cond.methodLink RX2 38 Lib.Math.min.name ∈ wsX2_addCard := by decide +kernel
set_option maxRecDepth 20000 in
theorem wd_X2_addCard_6 : Cond.static Lib.Math.min.name ∈ wsX2_addCard := by decide +kernel
set_option maxRecDepth 20000 in
theorem wd_X2_addCard_7 : Cond.code Lib.Math.min.name Lib.Math.min.code 2 (some .int) ∈ wsX2_addCard := by decide +kernel
set_option maxHeartbeats 400000 in
set_option maxRecDepth 100000 in
/-- X2_addCard -/
theorem c_X2_addCard (l : Launch) (D : va_G) (cI cJ cQ : ClassId) (sz : Nat) (h0 : Nat) (hw : Nat) (gq : Nat → Option Nat) (r0 : Nat) (r1 : Nat) (r2 : Nat) (r3 : Nat) (r4 : Nat) (r5 : Nat) (r6 : Nat) (r7 : Nat) (r8 : Nat) (a0 : Nat → Int64) (a1 : Nat → Int64) (a2 : Nat → Int64) (a3 : Nat → Int64) (a4 : Nat → Int64) (a5 : Nat → Int64) (a6 : Nat → Int64) (a7 : Nat → Int64) (a8 : Nat → Int64) (p1 : Int32) (most : Nat) (hm : -3 ≤ p1.toInt ∧ p1.toInt ≤ 3) (h8 : most ≤ 8) (hg : gq 0 = some r0 ∧ gq 1 = some r1 ∧ gq 2 = some r2 ∧ gq 3 = some r3 ∧ gq 4 = some r4 ∧ gq 5 = some r5 ∧ gq 6 = some r6 ∧ gq 7 = some r7 ∧ gq 8 = some r8) : Met l yX2_addCard wsX2_addCard ({ frames := 1, cells := 0, slots := 0, locals := 40 }) (va_Pc [.ref h0, .int p1, .int (nI most)] (mP D (gTy cI cJ cQ) [(h0, .inr (2, [.ref hw])), (hw, .inl (cQ, 9, .inr (.inr (.inr (.inr gq))))), (r0, .inl (cJ, 49, .inr (.inl a0))), (r1, .inl (cJ, 49, .inr (.inl a1))), (r2, .inl (cJ, 49, .inr (.inl a2))), (r3, .inl (cJ, 49, .inr (.inl a3))), (r4, .inl (cJ, 49, .inr (.inl a4))), (r5, .inl (cJ, 49, .inr (.inl a5))), (r6, .inl (cJ, 49, .inr (.inl a6))), (r7, .inl (cJ, 49, .inr (.inl a7))), (r8, .inl (cJ, 49, .inr (.inl a8)))] sz)) (va_Qv (fun (u : (Nat → Int64) × (Nat → Int64) × (Nat → Int64) × (Nat → Int64) × (Nat → Int64) × (Nat → Int64) × (Nat → Int64) × (Nat → Int64) × (Nat → Int64)) => match u with | (a0x, a1x, a2x, a3x, a4x, a5x, a6x, a7x, a8x) => True) (fun (u : (Nat → Int64) × (Nat → Int64) × (Nat → Int64) × (Nat → Int64) × (Nat → Int64) × (Nat → Int64) × (Nat → Int64) × (Nat → Int64) × (Nat → Int64)) t => match u with | (a0x, a1x, a2x, a3x, a4x, a5x, a6x, a7x, a8x) => mB D (gTy cI cJ cQ) (va_A [(h0, .inr (2, [.ref hw])), (hw, .inl (cQ, 9, .inr (.inr (.inr (.inr gq))))), (r0, .inl (cJ, 49, .inr (.inl a0))), (r1, .inl (cJ, 49, .inr (.inl a1))), (r2, .inl (cJ, 49, .inr (.inl a2))), (r3, .inl (cJ, 49, .inr (.inl a3))), (r4, .inl (cJ, 49, .inr (.inl a4))), (r5, .inl (cJ, 49, .inr (.inl a5))), (r6, .inl (cJ, 49, .inr (.inl a6))), (r7, .inl (cJ, 49, .inr (.inl a7))), (r8, .inl (cJ, 49, .inr (.inl a8)))] sz) [(h0, .inr (2, [.ref hw])), (hw, .inl (cQ, 9, .inr (.inr (.inr (.inr gq))))), (r0, .inl (cJ, 49, .inr (.inl a0x))), (r1, .inl (cJ, 49, .inr (.inl a1x))), (r2, .inl (cJ, 49, .inr (.inl a2x))), (r3, .inl (cJ, 49, .inr (.inl a3x))), (r4, .inl (cJ, 49, .inr (.inl a4x))), (r5, .inl (cJ, 49, .inr (.inl a5x))), (r6, .inl (cJ, 49, .inr (.inl a6x))), (r7, .inl (cJ, 49, .inr (.inl a7x))), (r8, .inl (cJ, 49, .inr (.inl a8x)))] t) (va_A [(h0, .inr (2, [.ref hw])), (hw, .inl (cQ, 9, .inr (.inr (.inr (.inr gq))))), (r0, .inl (cJ, 49, .inr (.inl a0))), (r1, .inl (cJ, 49, .inr (.inl a1))), (r2, .inl (cJ, 49, .inr (.inl a2))), (r3, .inl (cJ, 49, .inr (.inl a3))), (r4, .inl (cJ, 49, .inr (.inl a4))), (r5, .inl (cJ, 49, .inr (.inl a5))), (r6, .inl (cJ, 49, .inr (.inl a6))), (r7, .inl (cJ, 49, .inr (.inl a7))), (r8, .inl (cJ, 49, .inr (.inl a8)))] sz)) 0 0 (va_A [(h0, .inr (2, [.ref hw])), (hw, .inl (cQ, 9, .inr (.inr (.inr (.inr gq))))), (r0, .inl (cJ, 49, .inr (.inl a0))), (r1, .inl (cJ, 49, .inr (.inl a1))), (r2, .inl (cJ, 49, .inr (.inl a2))), (r3, .inl (cJ, 49, .inr (.inl a3))), (r4, .inl (cJ, 49, .inr (.inl a4))), (r5, .inl (cJ, 49, .inr (.inl a5))), (r6, .inl (cJ, 49, .inr (.inl a6))), (r7, .inl (cJ, 49, .inr (.inl a7))), (r8, .inl (cJ, 49, .inr (.inl a8)))] sz) := by
  refine Met.ofW (cc := cX2_addCard) (maxL := 7) (ret := none) (by decide) rfl ?_
  intro p e s m args below meth c s₁ B hml hv
  obtain ⟨rfl, hsz, hP, hK, hD0⟩ := hv
  have hx := B.exec
  have hb := B.bytes
  have hr := B.returns
  have hts := atoms_spec (ws := wsX2_addCard) B.pre
  have hown : s.vm.findClass RX2 = some m.cls := findClass_of_methodNamed B.named
  have hlocks := B.notSynchronized
  subst hsz
  have hD := hD0.self (sz := s.heap.size)
  generalize hAe : va_A [(h0, .inr (2, [.ref hw])), (hw, .inl (cQ, 9, .inr (.inr (.inr (.inr gq))))), (r0, .inl (cJ, 49, .inr (.inl a0))), (r1, .inl (cJ, 49, .inr (.inl a1))), (r2, .inl (cJ, 49, .inr (.inl a2))), (r3, .inl (cJ, 49, .inr (.inl a3))), (r4, .inl (cJ, 49, .inr (.inl a4))), (r5, .inl (cJ, 49, .inr (.inl a5))), (r6, .inl (cJ, 49, .inr (.inl a6))), (r7, .inl (cJ, 49, .inr (.inl a7))), (r8, .inl (cJ, 49, .inr (.inl a8)))] s.heap.size = A at hD ⊢
  have hA : ∀ q : Nat, s.heap.size ≤ q → A q := fun q h => by rw [← hAe]; exact Or.inr h
  have hS : va_S A s.heap s.heap [] := va_S.rf
  have hP : va_P D vwCl [(h0, .inr (2, [.ref hw])), (hw, .inl (cQ, 9, .inr (.inr (.inr (.inr gq))))), (r0, .inl (cJ, 49, .inr (.inl a0))), (r1, .inl (cJ, 49, .inr (.inl a1))), (r2, .inl (cJ, 49, .inr (.inl a2))), (r3, .inl (cJ, 49, .inr (.inl a3))), (r4, .inl (cJ, 49, .inr (.inl a4))), (r5, .inl (cJ, 49, .inr (.inl a5))), (r6, .inl (cJ, 49, .inr (.inl a6))), (r7, .inl (cJ, 49, .inr (.inl a7))), (r8, .inl (cJ, 49, .inr (.inl a8)))] s.heap := hP
  have hl := lv_entry ([.ref h0, .int p1, .int (nI most)]) (n := 7) (Nat.le_of_ble_eq_true rfl)
  rw [lg_entry_eq]
  generalize (lg_sl ([.ref h0, .int p1, .int (nI most)]) ++ List.replicate (7 - (lg_sl ([.ref h0, .int p1, .int (nI most)])).length) Slot.unset).toArray = ls at hl ⊢
  have hl : lv_has ls 7 [(0, .ref h0), (1, .int p1), (2, .int (nI most))] := hl
  refine lv_iconst (v := 0) hx hb dX2_addCard_0 (by decide) ?_
  refine lv_iload_n hx hb dX2_addCard_1 rfl (lv_at hl 1 rfl) ?_
  refine va_mmax hx hb (by rw [hml]; exact hl.1.symm) hown (hts _ wd_X2_addCard_1) (hts _ wd_X2_addCard_2) (hts _ wd_X2_addCard_3) (hts _ wd_X2_addCard_4) (Nat.le_of_ble_eq_true rfl) (Nat.le_of_ble_eq_true rfl) (Nat.zero_le _) (Nat.zero_le _) dX2_addCard_2 ?_
  obtain ⟨a, b, ea, eb, hb49, hab, hr9⟩ := mk_rng hm.1 hm.2
  refine lv_topi (fun z ez => ?_)
  obtain rfl : z = nI a := ez.trans ea
  refine lv_istore_n (lv' := [(3, .int (nI a)), (0, .ref h0), (1, .int p1), (2, .int (nI most))]) hx hb dX2_addCard_5 rfl hl (by decide) rfl (fun ls hl => ?_)
  refine lv_bipush (v := 49) hx hb dX2_addCard_6 (by decide) ?_
  refine lv_bipush (v := 49) hx hb dX2_addCard_8 (by decide) ?_
  refine lv_iload_n hx hb dX2_addCard_10 rfl (lv_at hl 2 rfl) ?_
  refine lv_iadd hx hb dX2_addCard_11 ?_
  refine va_mmin hx hb (by rw [hml]; exact hl.1.symm) hown (hts _ wd_X2_addCard_5) (hts _ wd_X2_addCard_6) (hts _ wd_X2_addCard_3) (hts _ wd_X2_addCard_7) (Nat.le_of_ble_eq_true rfl) (Nat.le_of_ble_eq_true rfl) (Nat.zero_le _) (Nat.zero_le _) dX2_addCard_12 ?_
  refine lv_topi (fun z ez => ?_)
  obtain rfl : z = nI b := ez.trans eb
  refine lv_istore (lv' := [(4, .int (nI b)), (3, .int (nI a)), (0, .ref h0), (1, .int p1), (2, .int (nI most))]) hx hb dX2_addCard_15 hl (by decide) rfl (fun ls hl => ?_)
  refine lv_iload_n hx hb dX2_addCard_17 rfl (lv_at hl 4 rfl) ?_
  refine lv_istore (lv' := [(5, .int (nI most)), (4, .int (nI b)), (3, .int (nI a)), (0, .ref h0), (1, .int p1), (2, .int (nI most))]) hx hb dX2_addCard_18 hl (by decide) rfl (fun ls hl => ?_)
  refine lpAdd2 hx hb hml hown hts hK hA h0 hw gq r0 r1 r2 r3 r4 r5 r6 r7 r8 a b p1 (nI most) (Nat.le_of_ble_eq_true rfl) (Nat.le_of_ble_eq_true rfl) (Nat.zero_le _) (Nat.zero_le _) hb49 hab hr9 hg (most + 1) most a0 a1 a2 a3 a4 a5 a6 a7 a8 _ _ _ (Nat.lt_succ_self _) h8 hP hD hS (lv_sub hl [0, 1, 2, 5, 4, 3] rfl) (fun a0_1 a1_2 a2_3 a3_4 a4_5 a5_6 a6_7 a7_8 a8_9 H locs ls  hP hD hS hl => ?_)
  have hP : va_P D vwCl [(h0, .inr (2, [.ref hw])), (hw, .inl (cQ, 9, .inr (.inr (.inr (.inr gq))))), (r0, .inl (cJ, 49, .inr (.inl a0_1))), (r1, .inl (cJ, 49, .inr (.inl a1_2))), (r2, .inl (cJ, 49, .inr (.inl a2_3))), (r3, .inl (cJ, 49, .inr (.inl a3_4))), (r4, .inl (cJ, 49, .inr (.inl a4_5))), (r5, .inl (cJ, 49, .inr (.inl a5_6))), (r6, .inl (cJ, 49, .inr (.inl a6_7))), (r7, .inl (cJ, 49, .inr (.inl a7_8))), (r8, .inl (cJ, 49, .inr (.inl a8_9)))] H := hP
  have hD : va_D A [(h0, .inr (2, [.ref hw])), (hw, .inl (cQ, 9, .inr (.inr (.inr (.inr gq))))), (r0, .inl (cJ, 49, .inr (.inl a0_1))), (r1, .inl (cJ, 49, .inr (.inl a1_2))), (r2, .inl (cJ, 49, .inr (.inl a2_3))), (r3, .inl (cJ, 49, .inr (.inl a3_4))), (r4, .inl (cJ, 49, .inr (.inl a4_5))), (r5, .inl (cJ, 49, .inr (.inl a5_6))), (r6, .inl (cJ, 49, .inr (.inl a6_7))), (r7, .inl (cJ, 49, .inr (.inl a7_8))), (r8, .inl (cJ, 49, .inr (.inl a8_9)))] := hD
  have hP9 := hP.sub (ws' := [(h0, .inr (2, [.ref hw])), (hw, .inl (cQ, 9, .inr (.inr (.inr (.inr gq))))), (r0, .inl (cJ, 49, .inr (.inl a0_1))), (r1, .inl (cJ, 49, .inr (.inl a1_2))), (r2, .inl (cJ, 49, .inr (.inl a2_3))), (r3, .inl (cJ, 49, .inr (.inl a3_4))), (r4, .inl (cJ, 49, .inr (.inl a4_5))), (r5, .inl (cJ, 49, .inr (.inl a5_6))), (r6, .inl (cJ, 49, .inr (.inl a6_7))), (r7, .inl (cJ, 49, .inr (.inl a7_8))), (r8, .inl (cJ, 49, .inr (.inl a8_9)))]) [0, 1, 2, 3, 4, 5, 6, 7, 8, 9, 10] rfl
  have hD9 := hD.sub (ws' := [(h0, .inr (2, [.ref hw])), (hw, .inl (cQ, 9, .inr (.inr (.inr (.inr gq))))), (r0, .inl (cJ, 49, .inr (.inl a0_1))), (r1, .inl (cJ, 49, .inr (.inl a1_2))), (r2, .inl (cJ, 49, .inr (.inl a2_3))), (r3, .inl (cJ, 49, .inr (.inl a3_4))), (r4, .inl (cJ, 49, .inr (.inl a4_5))), (r5, .inl (cJ, 49, .inr (.inl a5_6))), (r6, .inl (cJ, 49, .inr (.inl a6_7))), (r7, .inl (cJ, 49, .inr (.inl a7_8))), (r8, .inl (cJ, 49, .inr (.inl a8_9)))]) [0, 1, 2, 3, 4, 5, 6, 7, 8, 9, 10] (by decide) rfl
  exact W.vret hx hb hr (fun t ht hW => ⟨⟨((a0_1), (a1_2), (a2_3), (a3_4), (a4_5), (a5_6), (a6_7), (a7_8), (a8_9)), rfl, trivial, by rw [ht]; exact hP9, va_K.moved hW.alike hK, hD9⟩, hS.F ht⟩) hS.2.2 dX2_addCard_74

set_option maxRecDepth 20000 in
theorem in_X2_ways_X2 : ∀ w ∈ wsX20, w ∈ wsX2_ways := by decide +kernel
set_option maxRecDepth 20000 in
theorem wd_X2_ways_0 : Cond.fieldLink RX2 13 "ShoeTable$Heaps" "ways" "[[J" ∈ wsX2_ways := by decide +kernel
set_option maxHeartbeats 400000 in
set_option maxRecDepth 100000 in
theorem lpWays1 {p : Program} {l : Launch} {e : Env} {R : Room} {s : State} {m : MethodId} {args : Array Value} {below : List Frame} {meth : Method} {c : Code} {Q : State → Prop} {D : va_G} {cI cJ cQ : ClassId} {A : Nat → Prop} {cells slots : Nat} (hx : p.tables.exec = Jvm.exec) (hb : c.code = cX2_ways) (hml : c.maxLocals = 7) (hown : s.vm.findClass RX2 = some m.cls) (hts : ∀ w ∈ wsX2_ways, w.before args s = true) (hK : va_K D vwCl (gTy cI cJ cQ) s) (hA : ∀ q : Nat, s.heap.size ≤ q → A q) (h0 : Nat) (hw : Nat) (gq : Nat → Option Nat) (r0 : Nat) (r1 : Nat) (r2 : Nat) (r3 : Nat) (r4 : Nat) (r5 : Nat) (r6 : Nat) (r7 : Nat) (r8 : Nat) (c0 : Nat) (c1 : Nat) (tot : Int32) (f : Nat → Int32) (tm : Nat) (mk : Nat → Int32) (sz : Nat) (p3 : Int32) (hRf : 1 ≤ R.frames) (hRl : 24 ≤ R.locals) (hRc : cells ≤ R.cells) (hRs : slots ≤ R.slots) (s8 : sz ≤ 8) (hg : gq 0 = some r0 ∧ gq 1 = some r1 ∧ gq 2 = some r2 ∧ gq 3 = some r3 ∧ gq 4 = some r4 ∧ gq 5 = some r5 ∧ gq 6 = some r6 ∧ gq 7 = some r7 ∧ gq 8 = some r8) : ∀ (n9 : Nat) (k : Nat) (a0 : Nat → Int64) (a1 : Nat → Int64) (a2 : Nat → Int64) (a3 : Nat → Int64) (a4 : Nat → Int64) (a5 : Nat → Int64) (a6 : Nat → Int64) (a7 : Nat → Int64) (a8 : Nat → Int64) (H : Heap) (locs : List Loc) (ls : Array Slot), 9 - k < n9 → (k ≤ 9) → va_P D vwCl [(h0, .inr (2, [.ref hw])), (hw, .inl (cQ, 9, .inr (.inr (.inr (.inr gq))))), (r0, .inl (cJ, 49, .inr (.inl a0))), (r1, .inl (cJ, 49, .inr (.inl a1))), (r2, .inl (cJ, 49, .inr (.inl a2))), (r3, .inl (cJ, 49, .inr (.inl a3))), (r4, .inl (cJ, 49, .inr (.inl a4))), (r5, .inl (cJ, 49, .inr (.inl a5))), (r6, .inl (cJ, 49, .inr (.inl a6))), (r7, .inl (cJ, 49, .inr (.inl a7))), (r8, .inl (cJ, 49, .inr (.inl a8))), (c0, .inr (0, [.ref c1, .int tot])), (c1, .inl (cI, 11, .inl f)), (tm, .inl (cI, 11, .inl mk))] H → va_D A [(h0, .inr (2, [.ref hw])), (hw, .inl (cQ, 9, .inr (.inr (.inr (.inr gq))))), (r0, .inl (cJ, 49, .inr (.inl a0))), (r1, .inl (cJ, 49, .inr (.inl a1))), (r2, .inl (cJ, 49, .inr (.inl a2))), (r3, .inl (cJ, 49, .inr (.inl a3))), (r4, .inl (cJ, 49, .inr (.inl a4))), (r5, .inl (cJ, 49, .inr (.inl a5))), (r6, .inl (cJ, 49, .inr (.inl a6))), (r7, .inl (cJ, 49, .inr (.inl a7))), (r8, .inl (cJ, 49, .inr (.inl a8))), (c0, .inr (0, [.ref c1, .int tot])), (c1, .inl (cI, 11, .inl f)), (tm, .inl (cI, 11, .inl mk))] → va_S A s.heap H locs → lv_has ls 7 [(5, .int (nI k)), (4, .int p3), (3, .int (nI sz)), (2, .ref tm), (1, .ref c0), (0, .ref h0)] → (∀ (a0 : Nat → Int64) (a1 : Nat → Int64) (a2 : Nat → Int64) (a3 : Nat → Int64) (a4 : Nat → Int64) (a5 : Nat → Int64) (a6 : Nat → Int64) (a7 : Nat → Int64) (a8 : Nat → Int64) (H : Heap) (locs : List Loc) (ls : Array Slot), va_P D vwCl [(h0, .inr (2, [.ref hw])), (hw, .inl (cQ, 9, .inr (.inr (.inr (.inr gq))))), (r0, .inl (cJ, 49, .inr (.inl a0))), (r1, .inl (cJ, 49, .inr (.inl a1))), (r2, .inl (cJ, 49, .inr (.inl a2))), (r3, .inl (cJ, 49, .inr (.inl a3))), (r4, .inl (cJ, 49, .inr (.inl a4))), (r5, .inl (cJ, 49, .inr (.inl a5))), (r6, .inl (cJ, 49, .inr (.inl a6))), (r7, .inl (cJ, 49, .inr (.inl a7))), (r8, .inl (cJ, 49, .inr (.inl a8))), (c0, .inr (0, [.ref c1, .int tot])), (c1, .inl (cI, 11, .inl f)), (tm, .inl (cI, 11, .inl mk))] H → va_D A [(h0, .inr (2, [.ref hw])), (hw, .inl (cQ, 9, .inr (.inr (.inr (.inr gq))))), (r0, .inl (cJ, 49, .inr (.inl a0))), (r1, .inl (cJ, 49, .inr (.inl a1))), (r2, .inl (cJ, 49, .inr (.inl a2))), (r3, .inl (cJ, 49, .inr (.inl a3))), (r4, .inl (cJ, 49, .inr (.inl a4))), (r5, .inl (cJ, 49, .inr (.inl a5))), (r6, .inl (cJ, 49, .inr (.inl a6))), (r7, .inl (cJ, 49, .inr (.inl a7))), (r8, .inl (cJ, 49, .inr (.inl a8))), (c0, .inr (0, [.ref c1, .int tot])), (c1, .inl (cI, 11, .inl f)), (tm, .inl (cI, 11, .inl mk))] → va_S A s.heap H locs → lv_has ls 7 [(4, .int p3), (3, .int (nI sz)), (2, .ref tm), (1, .ref c0), (0, .ref h0)] → W p l e R s m args below meth c H locs cells slots Q (F0 m 52 ls [])) → W p l e R s m args below meth c H locs cells slots Q (F0 m 29 ls []) := by
  intro n9
  induction n9 with
  | zero => intro k a0 a1 a2 a3 a4 a5 a6 a7 a8 H locs ls hms9; exact absurd hms9 (Nat.not_lt_zero _)
  | succ n9 ih =>
    intro k a0 a1 a2 a3 a4 a5 a6 a7 a8 H locs ls hms9 k9 hP hD hS hl kk0
    refine lv_iload hx hb dX2_ways_29 (lv_at hl 0 rfl) ?_
    refine lv_iload_n hx hb dX2_ways_31 rfl (lv_at hl 2 rfl) ?_
    refine lv_icmp_gt (tgt := 52) hx hb dX2_ways_32 (by decide) (fun c32_1 => ?_) (fun c32_1 => ?_)
    · skip
      have nc32_1 : sz < k := (nI_ltI (a := sz) (b := k) (by omega) (by omega)).mp c32_1
      exact kk0 a0 a1 a2 a3 a4 a5 a6 a7 a8 _ _ _ hP hD hS (lv_sub hl [1, 2, 3, 4, 5] rfl)
    · skip
      have nc32_1 : ¬ (sz < k) := fun z9 => c32_1 ((nI_ltI (a := sz) (b := k) (by omega) (by omega)).mpr z9)
      rcases (show k = 0 ∨ k = 1 ∨ k = 2 ∨ k = 3 ∨ k = 4 ∨ k = 5 ∨ k = 6 ∨ k = 7 ∨ k = 8 by omega) with rfl | rfl | rfl | rfl | rfl | rfl | rfl | rfl | rfl
      · skip
        refine lv_aload_n hx hb dX2_ways_35 rfl (lv_at hl 5 rfl) ?_
        refine va_get (D := D) (ci := 2) (v := .ref hw) (C := RX2) (T := TX2) (N := 1) hx hb hts in_X2_ways_X2 hown hK hP 0 rfl rfl 0 (by decide) (hts _ wd_X2_ways_0) (fun _ h9 => h9) rfl dX2_ways_36 ?_
        refine lv_iload hx hb dX2_ways_39 (lv_at hl 0 rfl) ?_
        refine va_aldA hx hb hK hP 1 2 rfl rfl (show ¬ ((0 : Int32) < 0 ∨ 9 ≤ (0 : Int32).toNatClampNeg) by decide) (by exact hg.1) dX2_ways_41 ?_
        refine lv_lconst (v := 0) hx hb dX2_ways_42 (by decide) ?_
        have hPc := hP.sub (ws' := [(r0, .inl (cJ, 49, .inr (.inl a0)))]) [2] rfl
        have hDc := hD.sub (ws' := [(r0, .inl (cJ, 49, .inr (.inl a0)))]) [2] (by decide) rfl
        have hFc := va_free (wc := [(r0, .inl (cJ, 49, .inr (.inl a0)))]) hD hS hA [2] rfl
        refine va_callv (va_runS (As := [.ref r0, .long 0]) (rest := []) ⟨hx, hb, hml, hown, hts⟩ (c_J7_fill_d0a16 l D cI cJ cQ _ r0 (a0) 0) (va_cwS 2 hts gX2_ways_J7_fill_d0a16 rfl rfl rfl (by decide +kernel) ⟨Nat.le_trans (show 0 + 1 ≤ 1 by omega) hRf, Nat.le_trans (show 8 + (5 + 11) + (0) ≤ 24 by omega) hRl⟩) (mP_preS hPc hK hDc) rfl rfl hl.1 rfl (lv_room (Nat.le_of_ble_eq_true rfl)) dX2_ways_43 ⟨hRc, hRs⟩) hS (fun q _ h => hFc q h) hFc (fun u_r_2 t H1 locs ht hvm hr_2 hB hz1 hk1 hS => ?_)
        obtain ⟨f2_3, rfl⟩ : ∃ z, z = u_r_2 := ⟨_, rfl⟩
        obtain ⟨hP1, hK1, hD1⟩ := hB
        rw [ht] at hP1
        try dsimp only at hr_2
        obtain ⟨hP, hD⟩ := va_join (wr := [(h0, .inr (2, [.ref hw])), (hw, .inl (cQ, 9, .inr (.inr (.inr (.inr gq))))), (r1, .inl (cJ, 49, .inr (.inl a1))), (r2, .inl (cJ, 49, .inr (.inl a2))), (r3, .inl (cJ, 49, .inr (.inl a3))), (r4, .inl (cJ, 49, .inr (.inl a4))), (r5, .inl (cJ, 49, .inr (.inl a5))), (r6, .inl (cJ, 49, .inr (.inl a6))), (r7, .inl (cJ, 49, .inr (.inl a7))), (r8, .inl (cJ, 49, .inr (.inl a8))), (c0, .inr (0, [.ref c1, .int tot])), (c1, .inl (cI, 11, .inl f)), (tm, .inl (cI, 11, .inl mk))]) (w1 := [(r0, .inl (cJ, 49, .inr (.inl f2_3)))]) hP hD [2] [0, 1, 3, 4, 5, 6, 7, 8, 9, 10, 11, 12, 13] rfl rfl (by decide) (by decide) hk1 hFc hP1 hD1
        generalize H1 = H at hP hS ⊢
        have hP : va_P D vwCl [(h0, .inr (2, [.ref hw])), (hw, .inl (cQ, 9, .inr (.inr (.inr (.inr gq))))), (r1, .inl (cJ, 49, .inr (.inl a1))), (r2, .inl (cJ, 49, .inr (.inl a2))), (r3, .inl (cJ, 49, .inr (.inl a3))), (r4, .inl (cJ, 49, .inr (.inl a4))), (r5, .inl (cJ, 49, .inr (.inl a5))), (r6, .inl (cJ, 49, .inr (.inl a6))), (r7, .inl (cJ, 49, .inr (.inl a7))), (r8, .inl (cJ, 49, .inr (.inl a8))), (c0, .inr (0, [.ref c1, .int tot])), (c1, .inl (cI, 11, .inl f)), (tm, .inl (cI, 11, .inl mk)), (r0, .inl (cJ, 49, .inr (.inl f2_3)))] H := hP
        have hD : va_D A [(h0, .inr (2, [.ref hw])), (hw, .inl (cQ, 9, .inr (.inr (.inr (.inr gq))))), (r1, .inl (cJ, 49, .inr (.inl a1))), (r2, .inl (cJ, 49, .inr (.inl a2))), (r3, .inl (cJ, 49, .inr (.inl a3))), (r4, .inl (cJ, 49, .inr (.inl a4))), (r5, .inl (cJ, 49, .inr (.inl a5))), (r6, .inl (cJ, 49, .inr (.inl a6))), (r7, .inl (cJ, 49, .inr (.inl a7))), (r8, .inl (cJ, 49, .inr (.inl a8))), (c0, .inr (0, [.ref c1, .int tot])), (c1, .inl (cI, 11, .inl f)), (tm, .inl (cI, 11, .inl mk)), (r0, .inl (cJ, 49, .inr (.inl f2_3)))] := hD
        refine lv_iinc (v := 1) (lv' := [(5, .int 1), (4, .int p3), (3, .int (nI sz)), (2, .ref tm), (1, .ref c0), (0, .ref h0)]) hx hb dX2_ways_46 hl (k := 0) rfl (by decide) (by decide) rfl (fun ls hl => ?_)
        refine lv_goto (tgt := 29) hx hb dX2_ways_49 (by decide) ?_
        exact ih 1 f2_3 a1 a2 a3 a4 a5 a6 a7 a8 _ _ _ (by omega) (by omega) (hP.sub [0, 1, 13, 2, 3, 4, 5, 6, 7, 8, 9, 10, 11, 12] rfl) (hD.sub [0, 1, 13, 2, 3, 4, 5, 6, 7, 8, 9, 10, 11, 12] (by decide) rfl) hS (lv_sub hl [0, 1, 2, 3, 4, 5] rfl) kk0
      · skip
        refine lv_aload_n hx hb dX2_ways_35 rfl (lv_at hl 5 rfl) ?_
        refine va_get (D := D) (ci := 2) (v := .ref hw) (C := RX2) (T := TX2) (N := 1) hx hb hts in_X2_ways_X2 hown hK hP 0 rfl rfl 0 (by decide) (hts _ wd_X2_ways_0) (fun _ h9 => h9) rfl dX2_ways_36 ?_
        refine lv_iload hx hb dX2_ways_39 (lv_at hl 0 rfl) ?_
        refine va_aldA hx hb hK hP 1 2 rfl rfl (show ¬ ((1 : Int32) < 0 ∨ 9 ≤ (1 : Int32).toNatClampNeg) by decide) (by exact hg.2.1) dX2_ways_41 ?_
        refine lv_lconst (v := 0) hx hb dX2_ways_42 (by decide) ?_
        have hPc := hP.sub (ws' := [(r1, .inl (cJ, 49, .inr (.inl a1)))]) [3] rfl
        have hDc := hD.sub (ws' := [(r1, .inl (cJ, 49, .inr (.inl a1)))]) [3] (by decide) rfl
        have hFc := va_free (wc := [(r1, .inl (cJ, 49, .inr (.inl a1)))]) hD hS hA [3] rfl
        refine va_callv (va_runS (As := [.ref r1, .long 0]) (rest := []) ⟨hx, hb, hml, hown, hts⟩ (c_J7_fill_d0a16 l D cI cJ cQ _ r1 (a1) 0) (va_cwS 2 hts gX2_ways_J7_fill_d0a16 rfl rfl rfl (by decide +kernel) ⟨Nat.le_trans (show 0 + 1 ≤ 1 by omega) hRf, Nat.le_trans (show 8 + (5 + 11) + (0) ≤ 24 by omega) hRl⟩) (mP_preS hPc hK hDc) rfl rfl hl.1 rfl (lv_room (Nat.le_of_ble_eq_true rfl)) dX2_ways_43 ⟨hRc, hRs⟩) hS (fun q _ h => hFc q h) hFc (fun u_r_4 t H1 locs ht hvm hr_4 hB hz1 hk1 hS => ?_)
        obtain ⟨f2_5, rfl⟩ : ∃ z, z = u_r_4 := ⟨_, rfl⟩
        obtain ⟨hP1, hK1, hD1⟩ := hB
        rw [ht] at hP1
        try dsimp only at hr_4
        obtain ⟨hP, hD⟩ := va_join (wr := [(h0, .inr (2, [.ref hw])), (hw, .inl (cQ, 9, .inr (.inr (.inr (.inr gq))))), (r0, .inl (cJ, 49, .inr (.inl a0))), (r2, .inl (cJ, 49, .inr (.inl a2))), (r3, .inl (cJ, 49, .inr (.inl a3))), (r4, .inl (cJ, 49, .inr (.inl a4))), (r5, .inl (cJ, 49, .inr (.inl a5))), (r6, .inl (cJ, 49, .inr (.inl a6))), (r7, .inl (cJ, 49, .inr (.inl a7))), (r8, .inl (cJ, 49, .inr (.inl a8))), (c0, .inr (0, [.ref c1, .int tot])), (c1, .inl (cI, 11, .inl f)), (tm, .inl (cI, 11, .inl mk))]) (w1 := [(r1, .inl (cJ, 49, .inr (.inl f2_5)))]) hP hD [3] [0, 1, 2, 4, 5, 6, 7, 8, 9, 10, 11, 12, 13] rfl rfl (by decide) (by decide) hk1 hFc hP1 hD1
        generalize H1 = H at hP hS ⊢
        have hP : va_P D vwCl [(h0, .inr (2, [.ref hw])), (hw, .inl (cQ, 9, .inr (.inr (.inr (.inr gq))))), (r0, .inl (cJ, 49, .inr (.inl a0))), (r2, .inl (cJ, 49, .inr (.inl a2))), (r3, .inl (cJ, 49, .inr (.inl a3))), (r4, .inl (cJ, 49, .inr (.inl a4))), (r5, .inl (cJ, 49, .inr (.inl a5))), (r6, .inl (cJ, 49, .inr (.inl a6))), (r7, .inl (cJ, 49, .inr (.inl a7))), (r8, .inl (cJ, 49, .inr (.inl a8))), (c0, .inr (0, [.ref c1, .int tot])), (c1, .inl (cI, 11, .inl f)), (tm, .inl (cI, 11, .inl mk)), (r1, .inl (cJ, 49, .inr (.inl f2_5)))] H := hP
        have hD : va_D A [(h0, .inr (2, [.ref hw])), (hw, .inl (cQ, 9, .inr (.inr (.inr (.inr gq))))), (r0, .inl (cJ, 49, .inr (.inl a0))), (r2, .inl (cJ, 49, .inr (.inl a2))), (r3, .inl (cJ, 49, .inr (.inl a3))), (r4, .inl (cJ, 49, .inr (.inl a4))), (r5, .inl (cJ, 49, .inr (.inl a5))), (r6, .inl (cJ, 49, .inr (.inl a6))), (r7, .inl (cJ, 49, .inr (.inl a7))), (r8, .inl (cJ, 49, .inr (.inl a8))), (c0, .inr (0, [.ref c1, .int tot])), (c1, .inl (cI, 11, .inl f)), (tm, .inl (cI, 11, .inl mk)), (r1, .inl (cJ, 49, .inr (.inl f2_5)))] := hD
        refine lv_iinc (v := 2) (lv' := [(5, .int 2), (4, .int p3), (3, .int (nI sz)), (2, .ref tm), (1, .ref c0), (0, .ref h0)]) hx hb dX2_ways_46 hl (k := 0) rfl (by decide) (by decide) rfl (fun ls hl => ?_)
        refine lv_goto (tgt := 29) hx hb dX2_ways_49 (by decide) ?_
        exact ih 2 a0 f2_5 a2 a3 a4 a5 a6 a7 a8 _ _ _ (by omega) (by omega) (hP.sub [0, 1, 2, 13, 3, 4, 5, 6, 7, 8, 9, 10, 11, 12] rfl) (hD.sub [0, 1, 2, 13, 3, 4, 5, 6, 7, 8, 9, 10, 11, 12] (by decide) rfl) hS (lv_sub hl [0, 1, 2, 3, 4, 5] rfl) kk0
      · skip
        refine lv_aload_n hx hb dX2_ways_35 rfl (lv_at hl 5 rfl) ?_
        refine va_get (D := D) (ci := 2) (v := .ref hw) (C := RX2) (T := TX2) (N := 1) hx hb hts in_X2_ways_X2 hown hK hP 0 rfl rfl 0 (by decide) (hts _ wd_X2_ways_0) (fun _ h9 => h9) rfl dX2_ways_36 ?_
        refine lv_iload hx hb dX2_ways_39 (lv_at hl 0 rfl) ?_
        refine va_aldA hx hb hK hP 1 2 rfl rfl (show ¬ ((2 : Int32) < 0 ∨ 9 ≤ (2 : Int32).toNatClampNeg) by decide) (by exact hg.2.2.1) dX2_ways_41 ?_
        refine lv_lconst (v := 0) hx hb dX2_ways_42 (by decide) ?_
        have hPc := hP.sub (ws' := [(r2, .inl (cJ, 49, .inr (.inl a2)))]) [4] rfl
        have hDc := hD.sub (ws' := [(r2, .inl (cJ, 49, .inr (.inl a2)))]) [4] (by decide) rfl
        have hFc := va_free (wc := [(r2, .inl (cJ, 49, .inr (.inl a2)))]) hD hS hA [4] rfl
        refine va_callv (va_runS (As := [.ref r2, .long 0]) (rest := []) ⟨hx, hb, hml, hown, hts⟩ (c_J7_fill_d0a16 l D cI cJ cQ _ r2 (a2) 0) (va_cwS 2 hts gX2_ways_J7_fill_d0a16 rfl rfl rfl (by decide +kernel) ⟨Nat.le_trans (show 0 + 1 ≤ 1 by omega) hRf, Nat.le_trans (show 8 + (5 + 11) + (0) ≤ 24 by omega) hRl⟩) (mP_preS hPc hK hDc) rfl rfl hl.1 rfl (lv_room (Nat.le_of_ble_eq_true rfl)) dX2_ways_43 ⟨hRc, hRs⟩) hS (fun q _ h => hFc q h) hFc (fun u_r_6 t H1 locs ht hvm hr_6 hB hz1 hk1 hS => ?_)
        obtain ⟨f2_7, rfl⟩ : ∃ z, z = u_r_6 := ⟨_, rfl⟩
        obtain ⟨hP1, hK1, hD1⟩ := hB
        rw [ht] at hP1
        try dsimp only at hr_6
        obtain ⟨hP, hD⟩ := va_join (wr := [(h0, .inr (2, [.ref hw])), (hw, .inl (cQ, 9, .inr (.inr (.inr (.inr gq))))), (r0, .inl (cJ, 49, .inr (.inl a0))), (r1, .inl (cJ, 49, .inr (.inl a1))), (r3, .inl (cJ, 49, .inr (.inl a3))), (r4, .inl (cJ, 49, .inr (.inl a4))), (r5, .inl (cJ, 49, .inr (.inl a5))), (r6, .inl (cJ, 49, .inr (.inl a6))), (r7, .inl (cJ, 49, .inr (.inl a7))), (r8, .inl (cJ, 49, .inr (.inl a8))), (c0, .inr (0, [.ref c1, .int tot])), (c1, .inl (cI, 11, .inl f)), (tm, .inl (cI, 11, .inl mk))]) (w1 := [(r2, .inl (cJ, 49, .inr (.inl f2_7)))]) hP hD [4] [0, 1, 2, 3, 5, 6, 7, 8, 9, 10, 11, 12, 13] rfl rfl (by decide) (by decide) hk1 hFc hP1 hD1
        generalize H1 = H at hP hS ⊢
        have hP : va_P D vwCl [(h0, .inr (2, [.ref hw])), (hw, .inl (cQ, 9, .inr (.inr (.inr (.inr gq))))), (r0, .inl (cJ, 49, .inr (.inl a0))), (r1, .inl (cJ, 49, .inr (.inl a1))), (r3, .inl (cJ, 49, .inr (.inl a3))), (r4, .inl (cJ, 49, .inr (.inl a4))), (r5, .inl (cJ, 49, .inr (.inl a5))), (r6, .inl (cJ, 49, .inr (.inl a6))), (r7, .inl (cJ, 49, .inr (.inl a7))), (r8, .inl (cJ, 49, .inr (.inl a8))), (c0, .inr (0, [.ref c1, .int tot])), (c1, .inl (cI, 11, .inl f)), (tm, .inl (cI, 11, .inl mk)), (r2, .inl (cJ, 49, .inr (.inl f2_7)))] H := hP
        have hD : va_D A [(h0, .inr (2, [.ref hw])), (hw, .inl (cQ, 9, .inr (.inr (.inr (.inr gq))))), (r0, .inl (cJ, 49, .inr (.inl a0))), (r1, .inl (cJ, 49, .inr (.inl a1))), (r3, .inl (cJ, 49, .inr (.inl a3))), (r4, .inl (cJ, 49, .inr (.inl a4))), (r5, .inl (cJ, 49, .inr (.inl a5))), (r6, .inl (cJ, 49, .inr (.inl a6))), (r7, .inl (cJ, 49, .inr (.inl a7))), (r8, .inl (cJ, 49, .inr (.inl a8))), (c0, .inr (0, [.ref c1, .int tot])), (c1, .inl (cI, 11, .inl f)), (tm, .inl (cI, 11, .inl mk)), (r2, .inl (cJ, 49, .inr (.inl f2_7)))] := hD
        refine lv_iinc (v := 3) (lv' := [(5, .int 3), (4, .int p3), (3, .int (nI sz)), (2, .ref tm), (1, .ref c0), (0, .ref h0)]) hx hb dX2_ways_46 hl (k := 0) rfl (by decide) (by decide) rfl (fun ls hl => ?_)
        refine lv_goto (tgt := 29) hx hb dX2_ways_49 (by decide) ?_
        exact ih 3 a0 a1 f2_7 a3 a4 a5 a6 a7 a8 _ _ _ (by omega) (by omega) (hP.sub [0, 1, 2, 3, 13, 4, 5, 6, 7, 8, 9, 10, 11, 12] rfl) (hD.sub [0, 1, 2, 3, 13, 4, 5, 6, 7, 8, 9, 10, 11, 12] (by decide) rfl) hS (lv_sub hl [0, 1, 2, 3, 4, 5] rfl) kk0
      · skip
        refine lv_aload_n hx hb dX2_ways_35 rfl (lv_at hl 5 rfl) ?_
        refine va_get (D := D) (ci := 2) (v := .ref hw) (C := RX2) (T := TX2) (N := 1) hx hb hts in_X2_ways_X2 hown hK hP 0 rfl rfl 0 (by decide) (hts _ wd_X2_ways_0) (fun _ h9 => h9) rfl dX2_ways_36 ?_
        refine lv_iload hx hb dX2_ways_39 (lv_at hl 0 rfl) ?_
        refine va_aldA hx hb hK hP 1 2 rfl rfl (show ¬ ((3 : Int32) < 0 ∨ 9 ≤ (3 : Int32).toNatClampNeg) by decide) (by exact hg.2.2.2.1) dX2_ways_41 ?_
        refine lv_lconst (v := 0) hx hb dX2_ways_42 (by decide) ?_
        have hPc := hP.sub (ws' := [(r3, .inl (cJ, 49, .inr (.inl a3)))]) [5] rfl
        have hDc := hD.sub (ws' := [(r3, .inl (cJ, 49, .inr (.inl a3)))]) [5] (by decide) rfl
        have hFc := va_free (wc := [(r3, .inl (cJ, 49, .inr (.inl a3)))]) hD hS hA [5] rfl
        refine va_callv (va_runS (As := [.ref r3, .long 0]) (rest := []) ⟨hx, hb, hml, hown, hts⟩ (c_J7_fill_d0a16 l D cI cJ cQ _ r3 (a3) 0) (va_cwS 2 hts gX2_ways_J7_fill_d0a16 rfl rfl rfl (by decide +kernel) ⟨Nat.le_trans (show 0 + 1 ≤ 1 by omega) hRf, Nat.le_trans (show 8 + (5 + 11) + (0) ≤ 24 by omega) hRl⟩) (mP_preS hPc hK hDc) rfl rfl hl.1 rfl (lv_room (Nat.le_of_ble_eq_true rfl)) dX2_ways_43 ⟨hRc, hRs⟩) hS (fun q _ h => hFc q h) hFc (fun u_r_8 t H1 locs ht hvm hr_8 hB hz1 hk1 hS => ?_)
        obtain ⟨f2_9, rfl⟩ : ∃ z, z = u_r_8 := ⟨_, rfl⟩
        obtain ⟨hP1, hK1, hD1⟩ := hB
        rw [ht] at hP1
        try dsimp only at hr_8
        obtain ⟨hP, hD⟩ := va_join (wr := [(h0, .inr (2, [.ref hw])), (hw, .inl (cQ, 9, .inr (.inr (.inr (.inr gq))))), (r0, .inl (cJ, 49, .inr (.inl a0))), (r1, .inl (cJ, 49, .inr (.inl a1))), (r2, .inl (cJ, 49, .inr (.inl a2))), (r4, .inl (cJ, 49, .inr (.inl a4))), (r5, .inl (cJ, 49, .inr (.inl a5))), (r6, .inl (cJ, 49, .inr (.inl a6))), (r7, .inl (cJ, 49, .inr (.inl a7))), (r8, .inl (cJ, 49, .inr (.inl a8))), (c0, .inr (0, [.ref c1, .int tot])), (c1, .inl (cI, 11, .inl f)), (tm, .inl (cI, 11, .inl mk))]) (w1 := [(r3, .inl (cJ, 49, .inr (.inl f2_9)))]) hP hD [5] [0, 1, 2, 3, 4, 6, 7, 8, 9, 10, 11, 12, 13] rfl rfl (by decide) (by decide) hk1 hFc hP1 hD1
        generalize H1 = H at hP hS ⊢
        have hP : va_P D vwCl [(h0, .inr (2, [.ref hw])), (hw, .inl (cQ, 9, .inr (.inr (.inr (.inr gq))))), (r0, .inl (cJ, 49, .inr (.inl a0))), (r1, .inl (cJ, 49, .inr (.inl a1))), (r2, .inl (cJ, 49, .inr (.inl a2))), (r4, .inl (cJ, 49, .inr (.inl a4))), (r5, .inl (cJ, 49, .inr (.inl a5))), (r6, .inl (cJ, 49, .inr (.inl a6))), (r7, .inl (cJ, 49, .inr (.inl a7))), (r8, .inl (cJ, 49, .inr (.inl a8))), (c0, .inr (0, [.ref c1, .int tot])), (c1, .inl (cI, 11, .inl f)), (tm, .inl (cI, 11, .inl mk)), (r3, .inl (cJ, 49, .inr (.inl f2_9)))] H := hP
        have hD : va_D A [(h0, .inr (2, [.ref hw])), (hw, .inl (cQ, 9, .inr (.inr (.inr (.inr gq))))), (r0, .inl (cJ, 49, .inr (.inl a0))), (r1, .inl (cJ, 49, .inr (.inl a1))), (r2, .inl (cJ, 49, .inr (.inl a2))), (r4, .inl (cJ, 49, .inr (.inl a4))), (r5, .inl (cJ, 49, .inr (.inl a5))), (r6, .inl (cJ, 49, .inr (.inl a6))), (r7, .inl (cJ, 49, .inr (.inl a7))), (r8, .inl (cJ, 49, .inr (.inl a8))), (c0, .inr (0, [.ref c1, .int tot])), (c1, .inl (cI, 11, .inl f)), (tm, .inl (cI, 11, .inl mk)), (r3, .inl (cJ, 49, .inr (.inl f2_9)))] := hD
        refine lv_iinc (v := 4) (lv' := [(5, .int 4), (4, .int p3), (3, .int (nI sz)), (2, .ref tm), (1, .ref c0), (0, .ref h0)]) hx hb dX2_ways_46 hl (k := 0) rfl (by decide) (by decide) rfl (fun ls hl => ?_)
        refine lv_goto (tgt := 29) hx hb dX2_ways_49 (by decide) ?_
        exact ih 4 a0 a1 a2 f2_9 a4 a5 a6 a7 a8 _ _ _ (by omega) (by omega) (hP.sub [0, 1, 2, 3, 4, 13, 5, 6, 7, 8, 9, 10, 11, 12] rfl) (hD.sub [0, 1, 2, 3, 4, 13, 5, 6, 7, 8, 9, 10, 11, 12] (by decide) rfl) hS (lv_sub hl [0, 1, 2, 3, 4, 5] rfl) kk0
      · skip
        refine lv_aload_n hx hb dX2_ways_35 rfl (lv_at hl 5 rfl) ?_
        refine va_get (D := D) (ci := 2) (v := .ref hw) (C := RX2) (T := TX2) (N := 1) hx hb hts in_X2_ways_X2 hown hK hP 0 rfl rfl 0 (by decide) (hts _ wd_X2_ways_0) (fun _ h9 => h9) rfl dX2_ways_36 ?_
        refine lv_iload hx hb dX2_ways_39 (lv_at hl 0 rfl) ?_
        refine va_aldA hx hb hK hP 1 2 rfl rfl (show ¬ ((4 : Int32) < 0 ∨ 9 ≤ (4 : Int32).toNatClampNeg) by decide) (by exact hg.2.2.2.2.1) dX2_ways_41 ?_
        refine lv_lconst (v := 0) hx hb dX2_ways_42 (by decide) ?_
        have hPc := hP.sub (ws' := [(r4, .inl (cJ, 49, .inr (.inl a4)))]) [6] rfl
        have hDc := hD.sub (ws' := [(r4, .inl (cJ, 49, .inr (.inl a4)))]) [6] (by decide) rfl
        have hFc := va_free (wc := [(r4, .inl (cJ, 49, .inr (.inl a4)))]) hD hS hA [6] rfl
        refine va_callv (va_runS (As := [.ref r4, .long 0]) (rest := []) ⟨hx, hb, hml, hown, hts⟩ (c_J7_fill_d0a16 l D cI cJ cQ _ r4 (a4) 0) (va_cwS 2 hts gX2_ways_J7_fill_d0a16 rfl rfl rfl (by decide +kernel) ⟨Nat.le_trans (show 0 + 1 ≤ 1 by omega) hRf, Nat.le_trans (show 8 + (5 + 11) + (0) ≤ 24 by omega) hRl⟩) (mP_preS hPc hK hDc) rfl rfl hl.1 rfl (lv_room (Nat.le_of_ble_eq_true rfl)) dX2_ways_43 ⟨hRc, hRs⟩) hS (fun q _ h => hFc q h) hFc (fun u_r_10 t H1 locs ht hvm hr_10 hB hz1 hk1 hS => ?_)
        obtain ⟨f2_11, rfl⟩ : ∃ z, z = u_r_10 := ⟨_, rfl⟩
        obtain ⟨hP1, hK1, hD1⟩ := hB
        rw [ht] at hP1
        try dsimp only at hr_10
        obtain ⟨hP, hD⟩ := va_join (wr := [(h0, .inr (2, [.ref hw])), (hw, .inl (cQ, 9, .inr (.inr (.inr (.inr gq))))), (r0, .inl (cJ, 49, .inr (.inl a0))), (r1, .inl (cJ, 49, .inr (.inl a1))), (r2, .inl (cJ, 49, .inr (.inl a2))), (r3, .inl (cJ, 49, .inr (.inl a3))), (r5, .inl (cJ, 49, .inr (.inl a5))), (r6, .inl (cJ, 49, .inr (.inl a6))), (r7, .inl (cJ, 49, .inr (.inl a7))), (r8, .inl (cJ, 49, .inr (.inl a8))), (c0, .inr (0, [.ref c1, .int tot])), (c1, .inl (cI, 11, .inl f)), (tm, .inl (cI, 11, .inl mk))]) (w1 := [(r4, .inl (cJ, 49, .inr (.inl f2_11)))]) hP hD [6] [0, 1, 2, 3, 4, 5, 7, 8, 9, 10, 11, 12, 13] rfl rfl (by decide) (by decide) hk1 hFc hP1 hD1
        generalize H1 = H at hP hS ⊢
        have hP : va_P D vwCl [(h0, .inr (2, [.ref hw])), (hw, .inl (cQ, 9, .inr (.inr (.inr (.inr gq))))), (r0, .inl (cJ, 49, .inr (.inl a0))), (r1, .inl (cJ, 49, .inr (.inl a1))), (r2, .inl (cJ, 49, .inr (.inl a2))), (r3, .inl (cJ, 49, .inr (.inl a3))), (r5, .inl (cJ, 49, .inr (.inl a5))), (r6, .inl (cJ, 49, .inr (.inl a6))), (r7, .inl (cJ, 49, .inr (.inl a7))), (r8, .inl (cJ, 49, .inr (.inl a8))), (c0, .inr (0, [.ref c1, .int tot])), (c1, .inl (cI, 11, .inl f)), (tm, .inl (cI, 11, .inl mk)), (r4, .inl (cJ, 49, .inr (.inl f2_11)))] H := hP
        have hD : va_D A [(h0, .inr (2, [.ref hw])), (hw, .inl (cQ, 9, .inr (.inr (.inr (.inr gq))))), (r0, .inl (cJ, 49, .inr (.inl a0))), (r1, .inl (cJ, 49, .inr (.inl a1))), (r2, .inl (cJ, 49, .inr (.inl a2))), (r3, .inl (cJ, 49, .inr (.inl a3))), (r5, .inl (cJ, 49, .inr (.inl a5))), (r6, .inl (cJ, 49, .inr (.inl a6))), (r7, .inl (cJ, 49, .inr (.inl a7))), (r8, .inl (cJ, 49, .inr (.inl a8))), (c0, .inr (0, [.ref c1, .int tot])), (c1, .inl (cI, 11, .inl f)), (tm, .inl (cI, 11, .inl mk)), (r4, .inl (cJ, 49, .inr (.inl f2_11)))] := hD
        refine lv_iinc (v := 5) (lv' := [(5, .int 5), (4, .int p3), (3, .int (nI sz)), (2, .ref tm), (1, .ref c0), (0, .ref h0)]) hx hb dX2_ways_46 hl (k := 0) rfl (by decide) (by decide) rfl (fun ls hl => ?_)
        refine lv_goto (tgt := 29) hx hb dX2_ways_49 (by decide) ?_
        exact ih 5 a0 a1 a2 a3 f2_11 a5 a6 a7 a8 _ _ _ (by omega) (by omega) (hP.sub [0, 1, 2, 3, 4, 5, 13, 6, 7, 8, 9, 10, 11, 12] rfl) (hD.sub [0, 1, 2, 3, 4, 5, 13, 6, 7, 8, 9, 10, 11, 12] (by decide) rfl) hS (lv_sub hl [0, 1, 2, 3, 4, 5] rfl) kk0
      · skip
        refine lv_aload_n hx hb dX2_ways_35 rfl (lv_at hl 5 rfl) ?_
        refine va_get (D := D) (ci := 2) (v := .ref hw) (C := RX2) (T := TX2) (N := 1) hx hb hts in_X2_ways_X2 hown hK hP 0 rfl rfl 0 (by decide) (hts _ wd_X2_ways_0) (fun _ h9 => h9) rfl dX2_ways_36 ?_
        refine lv_iload hx hb dX2_ways_39 (lv_at hl 0 rfl) ?_
        refine va_aldA hx hb hK hP 1 2 rfl rfl (show ¬ ((5 : Int32) < 0 ∨ 9 ≤ (5 : Int32).toNatClampNeg) by decide) (by exact hg.2.2.2.2.2.1) dX2_ways_41 ?_
        refine lv_lconst (v := 0) hx hb dX2_ways_42 (by decide) ?_
        have hPc := hP.sub (ws' := [(r5, .inl (cJ, 49, .inr (.inl a5)))]) [7] rfl
        have hDc := hD.sub (ws' := [(r5, .inl (cJ, 49, .inr (.inl a5)))]) [7] (by decide) rfl
        have hFc := va_free (wc := [(r5, .inl (cJ, 49, .inr (.inl a5)))]) hD hS hA [7] rfl
        refine va_callv (va_runS (As := [.ref r5, .long 0]) (rest := []) ⟨hx, hb, hml, hown, hts⟩ (c_J7_fill_d0a16 l D cI cJ cQ _ r5 (a5) 0) (va_cwS 2 hts gX2_ways_J7_fill_d0a16 rfl rfl rfl (by decide +kernel) ⟨Nat.le_trans (show 0 + 1 ≤ 1 by omega) hRf, Nat.le_trans (show 8 + (5 + 11) + (0) ≤ 24 by omega) hRl⟩) (mP_preS hPc hK hDc) rfl rfl hl.1 rfl (lv_room (Nat.le_of_ble_eq_true rfl)) dX2_ways_43 ⟨hRc, hRs⟩) hS (fun q _ h => hFc q h) hFc (fun u_r_12 t H1 locs ht hvm hr_12 hB hz1 hk1 hS => ?_)
        obtain ⟨f2_13, rfl⟩ : ∃ z, z = u_r_12 := ⟨_, rfl⟩
        obtain ⟨hP1, hK1, hD1⟩ := hB
        rw [ht] at hP1
        try dsimp only at hr_12
        obtain ⟨hP, hD⟩ := va_join (wr := [(h0, .inr (2, [.ref hw])), (hw, .inl (cQ, 9, .inr (.inr (.inr (.inr gq))))), (r0, .inl (cJ, 49, .inr (.inl a0))), (r1, .inl (cJ, 49, .inr (.inl a1))), (r2, .inl (cJ, 49, .inr (.inl a2))), (r3, .inl (cJ, 49, .inr (.inl a3))), (r4, .inl (cJ, 49, .inr (.inl a4))), (r6, .inl (cJ, 49, .inr (.inl a6))), (r7, .inl (cJ, 49, .inr (.inl a7))), (r8, .inl (cJ, 49, .inr (.inl a8))), (c0, .inr (0, [.ref c1, .int tot])), (c1, .inl (cI, 11, .inl f)), (tm, .inl (cI, 11, .inl mk))]) (w1 := [(r5, .inl (cJ, 49, .inr (.inl f2_13)))]) hP hD [7] [0, 1, 2, 3, 4, 5, 6, 8, 9, 10, 11, 12, 13] rfl rfl (by decide) (by decide) hk1 hFc hP1 hD1
        generalize H1 = H at hP hS ⊢
        have hP : va_P D vwCl [(h0, .inr (2, [.ref hw])), (hw, .inl (cQ, 9, .inr (.inr (.inr (.inr gq))))), (r0, .inl (cJ, 49, .inr (.inl a0))), (r1, .inl (cJ, 49, .inr (.inl a1))), (r2, .inl (cJ, 49, .inr (.inl a2))), (r3, .inl (cJ, 49, .inr (.inl a3))), (r4, .inl (cJ, 49, .inr (.inl a4))), (r6, .inl (cJ, 49, .inr (.inl a6))), (r7, .inl (cJ, 49, .inr (.inl a7))), (r8, .inl (cJ, 49, .inr (.inl a8))), (c0, .inr (0, [.ref c1, .int tot])), (c1, .inl (cI, 11, .inl f)), (tm, .inl (cI, 11, .inl mk)), (r5, .inl (cJ, 49, .inr (.inl f2_13)))] H := hP
        have hD : va_D A [(h0, .inr (2, [.ref hw])), (hw, .inl (cQ, 9, .inr (.inr (.inr (.inr gq))))), (r0, .inl (cJ, 49, .inr (.inl a0))), (r1, .inl (cJ, 49, .inr (.inl a1))), (r2, .inl (cJ, 49, .inr (.inl a2))), (r3, .inl (cJ, 49, .inr (.inl a3))), (r4, .inl (cJ, 49, .inr (.inl a4))), (r6, .inl (cJ, 49, .inr (.inl a6))), (r7, .inl (cJ, 49, .inr (.inl a7))), (r8, .inl (cJ, 49, .inr (.inl a8))), (c0, .inr (0, [.ref c1, .int tot])), (c1, .inl (cI, 11, .inl f)), (tm, .inl (cI, 11, .inl mk)), (r5, .inl (cJ, 49, .inr (.inl f2_13)))] := hD
        refine lv_iinc (v := 6) (lv' := [(5, .int 6), (4, .int p3), (3, .int (nI sz)), (2, .ref tm), (1, .ref c0), (0, .ref h0)]) hx hb dX2_ways_46 hl (k := 0) rfl (by decide) (by decide) rfl (fun ls hl => ?_)
        refine lv_goto (tgt := 29) hx hb dX2_ways_49 (by decide) ?_
        exact ih 6 a0 a1 a2 a3 a4 f2_13 a6 a7 a8 _ _ _ (by omega) (by omega) (hP.sub [0, 1, 2, 3, 4, 5, 6, 13, 7, 8, 9, 10, 11, 12] rfl) (hD.sub [0, 1, 2, 3, 4, 5, 6, 13, 7, 8, 9, 10, 11, 12] (by decide) rfl) hS (lv_sub hl [0, 1, 2, 3, 4, 5] rfl) kk0
      · skip
        refine lv_aload_n hx hb dX2_ways_35 rfl (lv_at hl 5 rfl) ?_
        refine va_get (D := D) (ci := 2) (v := .ref hw) (C := RX2) (T := TX2) (N := 1) hx hb hts in_X2_ways_X2 hown hK hP 0 rfl rfl 0 (by decide) (hts _ wd_X2_ways_0) (fun _ h9 => h9) rfl dX2_ways_36 ?_
        refine lv_iload hx hb dX2_ways_39 (lv_at hl 0 rfl) ?_
        refine va_aldA hx hb hK hP 1 2 rfl rfl (show ¬ ((6 : Int32) < 0 ∨ 9 ≤ (6 : Int32).toNatClampNeg) by decide) (by exact hg.2.2.2.2.2.2.1) dX2_ways_41 ?_
        refine lv_lconst (v := 0) hx hb dX2_ways_42 (by decide) ?_
        have hPc := hP.sub (ws' := [(r6, .inl (cJ, 49, .inr (.inl a6)))]) [8] rfl
        have hDc := hD.sub (ws' := [(r6, .inl (cJ, 49, .inr (.inl a6)))]) [8] (by decide) rfl
        have hFc := va_free (wc := [(r6, .inl (cJ, 49, .inr (.inl a6)))]) hD hS hA [8] rfl
        refine va_callv (va_runS (As := [.ref r6, .long 0]) (rest := []) ⟨hx, hb, hml, hown, hts⟩ (c_J7_fill_d0a16 l D cI cJ cQ _ r6 (a6) 0) (va_cwS 2 hts gX2_ways_J7_fill_d0a16 rfl rfl rfl (by decide +kernel) ⟨Nat.le_trans (show 0 + 1 ≤ 1 by omega) hRf, Nat.le_trans (show 8 + (5 + 11) + (0) ≤ 24 by omega) hRl⟩) (mP_preS hPc hK hDc) rfl rfl hl.1 rfl (lv_room (Nat.le_of_ble_eq_true rfl)) dX2_ways_43 ⟨hRc, hRs⟩) hS (fun q _ h => hFc q h) hFc (fun u_r_14 t H1 locs ht hvm hr_14 hB hz1 hk1 hS => ?_)
        obtain ⟨f2_15, rfl⟩ : ∃ z, z = u_r_14 := ⟨_, rfl⟩
        obtain ⟨hP1, hK1, hD1⟩ := hB
        rw [ht] at hP1
        try dsimp only at hr_14
        obtain ⟨hP, hD⟩ := va_join (wr := [(h0, .inr (2, [.ref hw])), (hw, .inl (cQ, 9, .inr (.inr (.inr (.inr gq))))), (r0, .inl (cJ, 49, .inr (.inl a0))), (r1, .inl (cJ, 49, .inr (.inl a1))), (r2, .inl (cJ, 49, .inr (.inl a2))), (r3, .inl (cJ, 49, .inr (.inl a3))), (r4, .inl (cJ, 49, .inr (.inl a4))), (r5, .inl (cJ, 49, .inr (.inl a5))), (r7, .inl (cJ, 49, .inr (.inl a7))), (r8, .inl (cJ, 49, .inr (.inl a8))), (c0, .inr (0, [.ref c1, .int tot])), (c1, .inl (cI, 11, .inl f)), (tm, .inl (cI, 11, .inl mk))]) (w1 := [(r6, .inl (cJ, 49, .inr (.inl f2_15)))]) hP hD [8] [0, 1, 2, 3, 4, 5, 6, 7, 9, 10, 11, 12, 13] rfl rfl (by decide) (by decide) hk1 hFc hP1 hD1
        generalize H1 = H at hP hS ⊢
        have hP : va_P D vwCl [(h0, .inr (2, [.ref hw])), (hw, .inl (cQ, 9, .inr (.inr (.inr (.inr gq))))), (r0, .inl (cJ, 49, .inr (.inl a0))), (r1, .inl (cJ, 49, .inr (.inl a1))), (r2, .inl (cJ, 49, .inr (.inl a2))), (r3, .inl (cJ, 49, .inr (.inl a3))), (r4, .inl (cJ, 49, .inr (.inl a4))), (r5, .inl (cJ, 49, .inr (.inl a5))), (r7, .inl (cJ, 49, .inr (.inl a7))), (r8, .inl (cJ, 49, .inr (.inl a8))), (c0, .inr (0, [.ref c1, .int tot])), (c1, .inl (cI, 11, .inl f)), (tm, .inl (cI, 11, .inl mk)), (r6, .inl (cJ, 49, .inr (.inl f2_15)))] H := hP
        have hD : va_D A [(h0, .inr (2, [.ref hw])), (hw, .inl (cQ, 9, .inr (.inr (.inr (.inr gq))))), (r0, .inl (cJ, 49, .inr (.inl a0))), (r1, .inl (cJ, 49, .inr (.inl a1))), (r2, .inl (cJ, 49, .inr (.inl a2))), (r3, .inl (cJ, 49, .inr (.inl a3))), (r4, .inl (cJ, 49, .inr (.inl a4))), (r5, .inl (cJ, 49, .inr (.inl a5))), (r7, .inl (cJ, 49, .inr (.inl a7))), (r8, .inl (cJ, 49, .inr (.inl a8))), (c0, .inr (0, [.ref c1, .int tot])), (c1, .inl (cI, 11, .inl f)), (tm, .inl (cI, 11, .inl mk)), (r6, .inl (cJ, 49, .inr (.inl f2_15)))] := hD
        refine lv_iinc (v := 7) (lv' := [(5, .int 7), (4, .int p3), (3, .int (nI sz)), (2, .ref tm), (1, .ref c0), (0, .ref h0)]) hx hb dX2_ways_46 hl (k := 0) rfl (by decide) (by decide) rfl (fun ls hl => ?_)
        refine lv_goto (tgt := 29) hx hb dX2_ways_49 (by decide) ?_
        exact ih 7 a0 a1 a2 a3 a4 a5 f2_15 a7 a8 _ _ _ (by omega) (by omega) (hP.sub [0, 1, 2, 3, 4, 5, 6, 7, 13, 8, 9, 10, 11, 12] rfl) (hD.sub [0, 1, 2, 3, 4, 5, 6, 7, 13, 8, 9, 10, 11, 12] (by decide) rfl) hS (lv_sub hl [0, 1, 2, 3, 4, 5] rfl) kk0
      · skip
        refine lv_aload_n hx hb dX2_ways_35 rfl (lv_at hl 5 rfl) ?_
        refine va_get (D := D) (ci := 2) (v := .ref hw) (C := RX2) (T := TX2) (N := 1) hx hb hts in_X2_ways_X2 hown hK hP 0 rfl rfl 0 (by decide) (hts _ wd_X2_ways_0) (fun _ h9 => h9) rfl dX2_ways_36 ?_
        refine lv_iload hx hb dX2_ways_39 (lv_at hl 0 rfl) ?_
        refine va_aldA hx hb hK hP 1 2 rfl rfl (show ¬ ((7 : Int32) < 0 ∨ 9 ≤ (7 : Int32).toNatClampNeg) by decide) (by exact hg.2.2.2.2.2.2.2.1) dX2_ways_41 ?_
        refine lv_lconst (v := 0) hx hb dX2_ways_42 (by decide) ?_
        have hPc := hP.sub (ws' := [(r7, .inl (cJ, 49, .inr (.inl a7)))]) [9] rfl
        have hDc := hD.sub (ws' := [(r7, .inl (cJ, 49, .inr (.inl a7)))]) [9] (by decide) rfl
        have hFc := va_free (wc := [(r7, .inl (cJ, 49, .inr (.inl a7)))]) hD hS hA [9] rfl
        refine va_callv (va_runS (As := [.ref r7, .long 0]) (rest := []) ⟨hx, hb, hml, hown, hts⟩ (c_J7_fill_d0a16 l D cI cJ cQ _ r7 (a7) 0) (va_cwS 2 hts gX2_ways_J7_fill_d0a16 rfl rfl rfl (by decide +kernel) ⟨Nat.le_trans (show 0 + 1 ≤ 1 by omega) hRf, Nat.le_trans (show 8 + (5 + 11) + (0) ≤ 24 by omega) hRl⟩) (mP_preS hPc hK hDc) rfl rfl hl.1 rfl (lv_room (Nat.le_of_ble_eq_true rfl)) dX2_ways_43 ⟨hRc, hRs⟩) hS (fun q _ h => hFc q h) hFc (fun u_r_16 t H1 locs ht hvm hr_16 hB hz1 hk1 hS => ?_)
        obtain ⟨f2_17, rfl⟩ : ∃ z, z = u_r_16 := ⟨_, rfl⟩
        obtain ⟨hP1, hK1, hD1⟩ := hB
        rw [ht] at hP1
        try dsimp only at hr_16
        obtain ⟨hP, hD⟩ := va_join (wr := [(h0, .inr (2, [.ref hw])), (hw, .inl (cQ, 9, .inr (.inr (.inr (.inr gq))))), (r0, .inl (cJ, 49, .inr (.inl a0))), (r1, .inl (cJ, 49, .inr (.inl a1))), (r2, .inl (cJ, 49, .inr (.inl a2))), (r3, .inl (cJ, 49, .inr (.inl a3))), (r4, .inl (cJ, 49, .inr (.inl a4))), (r5, .inl (cJ, 49, .inr (.inl a5))), (r6, .inl (cJ, 49, .inr (.inl a6))), (r8, .inl (cJ, 49, .inr (.inl a8))), (c0, .inr (0, [.ref c1, .int tot])), (c1, .inl (cI, 11, .inl f)), (tm, .inl (cI, 11, .inl mk))]) (w1 := [(r7, .inl (cJ, 49, .inr (.inl f2_17)))]) hP hD [9] [0, 1, 2, 3, 4, 5, 6, 7, 8, 10, 11, 12, 13] rfl rfl (by decide) (by decide) hk1 hFc hP1 hD1
        generalize H1 = H at hP hS ⊢
        have hP : va_P D vwCl [(h0, .inr (2, [.ref hw])), (hw, .inl (cQ, 9, .inr (.inr (.inr (.inr gq))))), (r0, .inl (cJ, 49, .inr (.inl a0))), (r1, .inl (cJ, 49, .inr (.inl a1))), (r2, .inl (cJ, 49, .inr (.inl a2))), (r3, .inl (cJ, 49, .inr (.inl a3))), (r4, .inl (cJ, 49, .inr (.inl a4))), (r5, .inl (cJ, 49, .inr (.inl a5))), (r6, .inl (cJ, 49, .inr (.inl a6))), (r8, .inl (cJ, 49, .inr (.inl a8))), (c0, .inr (0, [.ref c1, .int tot])), (c1, .inl (cI, 11, .inl f)), (tm, .inl (cI, 11, .inl mk)), (r7, .inl (cJ, 49, .inr (.inl f2_17)))] H := hP
        have hD : va_D A [(h0, .inr (2, [.ref hw])), (hw, .inl (cQ, 9, .inr (.inr (.inr (.inr gq))))), (r0, .inl (cJ, 49, .inr (.inl a0))), (r1, .inl (cJ, 49, .inr (.inl a1))), (r2, .inl (cJ, 49, .inr (.inl a2))), (r3, .inl (cJ, 49, .inr (.inl a3))), (r4, .inl (cJ, 49, .inr (.inl a4))), (r5, .inl (cJ, 49, .inr (.inl a5))), (r6, .inl (cJ, 49, .inr (.inl a6))), (r8, .inl (cJ, 49, .inr (.inl a8))), (c0, .inr (0, [.ref c1, .int tot])), (c1, .inl (cI, 11, .inl f)), (tm, .inl (cI, 11, .inl mk)), (r7, .inl (cJ, 49, .inr (.inl f2_17)))] := hD
        refine lv_iinc (v := 8) (lv' := [(5, .int 8), (4, .int p3), (3, .int (nI sz)), (2, .ref tm), (1, .ref c0), (0, .ref h0)]) hx hb dX2_ways_46 hl (k := 0) rfl (by decide) (by decide) rfl (fun ls hl => ?_)
        refine lv_goto (tgt := 29) hx hb dX2_ways_49 (by decide) ?_
        exact ih 8 a0 a1 a2 a3 a4 a5 a6 f2_17 a8 _ _ _ (by omega) (by omega) (hP.sub [0, 1, 2, 3, 4, 5, 6, 7, 8, 13, 9, 10, 11, 12] rfl) (hD.sub [0, 1, 2, 3, 4, 5, 6, 7, 8, 13, 9, 10, 11, 12] (by decide) rfl) hS (lv_sub hl [0, 1, 2, 3, 4, 5] rfl) kk0
      · skip
        refine lv_aload_n hx hb dX2_ways_35 rfl (lv_at hl 5 rfl) ?_
        refine va_get (D := D) (ci := 2) (v := .ref hw) (C := RX2) (T := TX2) (N := 1) hx hb hts in_X2_ways_X2 hown hK hP 0 rfl rfl 0 (by decide) (hts _ wd_X2_ways_0) (fun _ h9 => h9) rfl dX2_ways_36 ?_
        refine lv_iload hx hb dX2_ways_39 (lv_at hl 0 rfl) ?_
        refine va_aldA hx hb hK hP 1 2 rfl rfl (show ¬ ((8 : Int32) < 0 ∨ 9 ≤ (8 : Int32).toNatClampNeg) by decide) (by exact hg.2.2.2.2.2.2.2.2) dX2_ways_41 ?_
        refine lv_lconst (v := 0) hx hb dX2_ways_42 (by decide) ?_
        have hPc := hP.sub (ws' := [(r8, .inl (cJ, 49, .inr (.inl a8)))]) [10] rfl
        have hDc := hD.sub (ws' := [(r8, .inl (cJ, 49, .inr (.inl a8)))]) [10] (by decide) rfl
        have hFc := va_free (wc := [(r8, .inl (cJ, 49, .inr (.inl a8)))]) hD hS hA [10] rfl
        refine va_callv (va_runS (As := [.ref r8, .long 0]) (rest := []) ⟨hx, hb, hml, hown, hts⟩ (c_J7_fill_d0a16 l D cI cJ cQ _ r8 (a8) 0) (va_cwS 2 hts gX2_ways_J7_fill_d0a16 rfl rfl rfl (by decide +kernel) ⟨Nat.le_trans (show 0 + 1 ≤ 1 by omega) hRf, Nat.le_trans (show 8 + (5 + 11) + (0) ≤ 24 by omega) hRl⟩) (mP_preS hPc hK hDc) rfl rfl hl.1 rfl (lv_room (Nat.le_of_ble_eq_true rfl)) dX2_ways_43 ⟨hRc, hRs⟩) hS (fun q _ h => hFc q h) hFc (fun u_r_18 t H1 locs ht hvm hr_18 hB hz1 hk1 hS => ?_)
        obtain ⟨f2_19, rfl⟩ : ∃ z, z = u_r_18 := ⟨_, rfl⟩
        obtain ⟨hP1, hK1, hD1⟩ := hB
        rw [ht] at hP1
        try dsimp only at hr_18
        obtain ⟨hP, hD⟩ := va_join (wr := [(h0, .inr (2, [.ref hw])), (hw, .inl (cQ, 9, .inr (.inr (.inr (.inr gq))))), (r0, .inl (cJ, 49, .inr (.inl a0))), (r1, .inl (cJ, 49, .inr (.inl a1))), (r2, .inl (cJ, 49, .inr (.inl a2))), (r3, .inl (cJ, 49, .inr (.inl a3))), (r4, .inl (cJ, 49, .inr (.inl a4))), (r5, .inl (cJ, 49, .inr (.inl a5))), (r6, .inl (cJ, 49, .inr (.inl a6))), (r7, .inl (cJ, 49, .inr (.inl a7))), (c0, .inr (0, [.ref c1, .int tot])), (c1, .inl (cI, 11, .inl f)), (tm, .inl (cI, 11, .inl mk))]) (w1 := [(r8, .inl (cJ, 49, .inr (.inl f2_19)))]) hP hD [10] [0, 1, 2, 3, 4, 5, 6, 7, 8, 9, 11, 12, 13] rfl rfl (by decide) (by decide) hk1 hFc hP1 hD1
        generalize H1 = H at hP hS ⊢
        have hP : va_P D vwCl [(h0, .inr (2, [.ref hw])), (hw, .inl (cQ, 9, .inr (.inr (.inr (.inr gq))))), (r0, .inl (cJ, 49, .inr (.inl a0))), (r1, .inl (cJ, 49, .inr (.inl a1))), (r2, .inl (cJ, 49, .inr (.inl a2))), (r3, .inl (cJ, 49, .inr (.inl a3))), (r4, .inl (cJ, 49, .inr (.inl a4))), (r5, .inl (cJ, 49, .inr (.inl a5))), (r6, .inl (cJ, 49, .inr (.inl a6))), (r7, .inl (cJ, 49, .inr (.inl a7))), (c0, .inr (0, [.ref c1, .int tot])), (c1, .inl (cI, 11, .inl f)), (tm, .inl (cI, 11, .inl mk)), (r8, .inl (cJ, 49, .inr (.inl f2_19)))] H := hP
        have hD : va_D A [(h0, .inr (2, [.ref hw])), (hw, .inl (cQ, 9, .inr (.inr (.inr (.inr gq))))), (r0, .inl (cJ, 49, .inr (.inl a0))), (r1, .inl (cJ, 49, .inr (.inl a1))), (r2, .inl (cJ, 49, .inr (.inl a2))), (r3, .inl (cJ, 49, .inr (.inl a3))), (r4, .inl (cJ, 49, .inr (.inl a4))), (r5, .inl (cJ, 49, .inr (.inl a5))), (r6, .inl (cJ, 49, .inr (.inl a6))), (r7, .inl (cJ, 49, .inr (.inl a7))), (c0, .inr (0, [.ref c1, .int tot])), (c1, .inl (cI, 11, .inl f)), (tm, .inl (cI, 11, .inl mk)), (r8, .inl (cJ, 49, .inr (.inl f2_19)))] := hD
        refine lv_iinc (v := 9) (lv' := [(5, .int 9), (4, .int p3), (3, .int (nI sz)), (2, .ref tm), (1, .ref c0), (0, .ref h0)]) hx hb dX2_ways_46 hl (k := 0) rfl (by decide) (by decide) rfl (fun ls hl => ?_)
        refine lv_goto (tgt := 29) hx hb dX2_ways_49 (by decide) ?_
        exact ih 9 a0 a1 a2 a3 a4 a5 a6 a7 f2_19 _ _ _ (by omega) (by omega) (hP.sub [0, 1, 2, 3, 4, 5, 6, 7, 8, 9, 13, 10, 11, 12] rfl) (hD.sub [0, 1, 2, 3, 4, 5, 6, 7, 8, 9, 13, 10, 11, 12] (by decide) rfl) hS (lv_sub hl [0, 1, 2, 3, 4, 5] rfl) kk0


set_option maxHeartbeats 400000 in
set_option maxRecDepth 100000 in
theorem lpWays3 {p : Program} {l : Launch} {e : Env} {R : Room} {s : State} {m : MethodId} {args : Array Value} {below : List Frame} {meth : Method} {c : Code} {Q : State → Prop} {D : va_G} {cI cJ cQ : ClassId} {A : Nat → Prop} {cells slots : Nat} (hx : p.tables.exec = Jvm.exec) (hb : c.code = cX2_ways) (hml : c.maxLocals = 7) (hown : s.vm.findClass RX2 = some m.cls) (hts : ∀ w ∈ wsX2_ways, w.before args s = true) (hK : va_K D vwCl (gTy cI cJ cQ) s) (hA : ∀ q : Nat, s.heap.size ≤ q → A q) (h0 : Nat) (hw : Nat) (gq : Nat → Option Nat) (r0 : Nat) (r1 : Nat) (r2 : Nat) (r3 : Nat) (r4 : Nat) (r5 : Nat) (r6 : Nat) (r7 : Nat) (r8 : Nat) (c0 : Nat) (c1 : Nat) (tot : Int32) (f : Nat → Int32) (tm : Nat) (mk : Nat → Int32) (sz : Nat) (p3 : Int32) (rk : Nat) (cc : Nat → Nat) (hRf : 2 ≤ R.frames) (hRl : 66 ≤ R.locals) (hRc : cells ≤ R.cells) (hRs : slots ≤ R.slots) (s8 : sz ≤ 8) (hg : gq 0 = some r0 ∧ gq 1 = some r1 ∧ gq 2 = some r2 ∧ gq 3 = some r3 ∧ gq 4 = some r4 ∧ gq 5 = some r5 ∧ gq 6 = some r6 ∧ gq 7 = some r7 ∧ gq 8 = some r8) (hmk : ∀ j, 1 ≤ j → j ≤ 10 → -3 ≤ (mk j).toInt ∧ (mk j).toInt ≤ 3) (hc : cntI f cc) (rr1 : 1 ≤ rk) (rr10 : rk ≤ 10) : ∀ (n9 : Nat) (i : Nat) (a0 : Nat → Int64) (a1 : Nat → Int64) (a2 : Nat → Int64) (a3 : Nat → Int64) (a4 : Nat → Int64) (a5 : Nat → Int64) (a6 : Nat → Int64) (a7 : Nat → Int64) (a8 : Nat → Int64) (H : Heap) (locs : List Loc) (ls : Array Slot), 33 - i < n9 → (i ≤ 32) → va_P D vwCl [(h0, .inr (2, [.ref hw])), (hw, .inl (cQ, 9, .inr (.inr (.inr (.inr gq))))), (r0, .inl (cJ, 49, .inr (.inl a0))), (r1, .inl (cJ, 49, .inr (.inl a1))), (r2, .inl (cJ, 49, .inr (.inl a2))), (r3, .inl (cJ, 49, .inr (.inl a3))), (r4, .inl (cJ, 49, .inr (.inl a4))), (r5, .inl (cJ, 49, .inr (.inl a5))), (r6, .inl (cJ, 49, .inr (.inl a6))), (r7, .inl (cJ, 49, .inr (.inl a7))), (r8, .inl (cJ, 49, .inr (.inl a8))), (c0, .inr (0, [.ref c1, .int tot])), (c1, .inl (cI, 11, .inl f)), (tm, .inl (cI, 11, .inl mk))] H → va_D A [(h0, .inr (2, [.ref hw])), (hw, .inl (cQ, 9, .inr (.inr (.inr (.inr gq))))), (r0, .inl (cJ, 49, .inr (.inl a0))), (r1, .inl (cJ, 49, .inr (.inl a1))), (r2, .inl (cJ, 49, .inr (.inl a2))), (r3, .inl (cJ, 49, .inr (.inl a3))), (r4, .inl (cJ, 49, .inr (.inl a4))), (r5, .inl (cJ, 49, .inr (.inl a5))), (r6, .inl (cJ, 49, .inr (.inl a6))), (r7, .inl (cJ, 49, .inr (.inl a7))), (r8, .inl (cJ, 49, .inr (.inl a8))), (c0, .inr (0, [.ref c1, .int tot])), (c1, .inl (cI, 11, .inl f)), (tm, .inl (cI, 11, .inl mk))] → va_S A s.heap H locs → lv_has ls 7 [(6, .int (nI i)), (5, .int (nI rk)), (4, .int p3), (3, .int (nI sz)), (2, .ref tm), (1, .ref c0), (0, .ref h0)] → (∀ (a0 : Nat → Int64) (a1 : Nat → Int64) (a2 : Nat → Int64) (a3 : Nat → Int64) (a4 : Nat → Int64) (a5 : Nat → Int64) (a6 : Nat → Int64) (a7 : Nat → Int64) (a8 : Nat → Int64) (H : Heap) (locs : List Loc) (ls : Array Slot), va_P D vwCl [(h0, .inr (2, [.ref hw])), (hw, .inl (cQ, 9, .inr (.inr (.inr (.inr gq))))), (r0, .inl (cJ, 49, .inr (.inl a0))), (r1, .inl (cJ, 49, .inr (.inl a1))), (r2, .inl (cJ, 49, .inr (.inl a2))), (r3, .inl (cJ, 49, .inr (.inl a3))), (r4, .inl (cJ, 49, .inr (.inl a4))), (r5, .inl (cJ, 49, .inr (.inl a5))), (r6, .inl (cJ, 49, .inr (.inl a6))), (r7, .inl (cJ, 49, .inr (.inl a7))), (r8, .inl (cJ, 49, .inr (.inl a8))), (c0, .inr (0, [.ref c1, .int tot])), (c1, .inl (cI, 11, .inl f)), (tm, .inl (cI, 11, .inl mk))] H → va_D A [(h0, .inr (2, [.ref hw])), (hw, .inl (cQ, 9, .inr (.inr (.inr (.inr gq))))), (r0, .inl (cJ, 49, .inr (.inl a0))), (r1, .inl (cJ, 49, .inr (.inl a1))), (r2, .inl (cJ, 49, .inr (.inl a2))), (r3, .inl (cJ, 49, .inr (.inl a3))), (r4, .inl (cJ, 49, .inr (.inl a4))), (r5, .inl (cJ, 49, .inr (.inl a5))), (r6, .inl (cJ, 49, .inr (.inl a6))), (r7, .inl (cJ, 49, .inr (.inl a7))), (r8, .inl (cJ, 49, .inr (.inl a8))), (c0, .inr (0, [.ref c1, .int tot])), (c1, .inl (cI, 11, .inl f)), (tm, .inl (cI, 11, .inl mk))] → va_S A s.heap H locs → lv_has ls 7 [(5, .int (nI rk)), (4, .int p3), (3, .int (nI sz)), (2, .ref tm), (1, .ref c0), (0, .ref h0)] → W p l e R s m args below meth c H locs cells slots Q (F0 m 101 ls [])) → W p l e R s m args below meth c H locs cells slots Q (F0 m 75 ls []) := by
  intro n9
  induction n9 with
  | zero => intro i a0 a1 a2 a3 a4 a5 a6 a7 a8 H locs ls hms9; exact absurd hms9 (Nat.not_lt_zero _)
  | succ n9 ih =>
    intro i a0 a1 a2 a3 a4 a5 a6 a7 a8 H locs ls hms9 i33 hP hD hS hl kk0
    refine lv_iload hx hb dX2_ways_75 (lv_at hl 0 rfl) ?_
    refine lv_aload_n hx hb dX2_ways_77 rfl (lv_at hl 5 rfl) ?_
    refine lv_iload hx hb dX2_ways_78 (lv_at hl 1 rfl) ?_
    have hPc := hP.sub (ws' := [(c0, .inr (0, [.ref c1, .int tot])), (c1, .inl (cI, 11, .inl f))]) [11, 12] rfl
    refine vp_callSi (W.runV (As := [.int (nI rk)]) (rest := [.int (nI i)]) ⟨hx, hb, hml, hown, hts⟩ (c_X0_countV l D cI cJ cQ c0 c1 tot (f) (nI rk) (rkB_k rr1 rr10)) (cwV 1 hts gX2_ways_X0_count rfl rfl rfl (by decide +kernel) ⟨Nat.le_trans (show 0 + 1 ≤ 2 by omega) hRf, Nat.le_trans (show 8 + (2 + 11) + (0) ≤ 66 by omega) hRl⟩) (rP_preV (ci := 0) (q0 := 0) hPc hK rfl rfl) rfl rfl hl.1 rfl (lv_room (Nat.le_of_ble_eq_true rfl)) dX2_ways_80 ⟨hRc, hRs⟩) (fun r_1 hr_1 => ?_)
    subst hr_1
    have hck := hc rk rr1 rr10
    refine lv_topi (fun z ez => ?_)
    obtain rfl : z = nI (cc rk) := ez.trans (by rw [nI_clamp (by omega)]; exact hck.1)
    have hck2 := hck.2
    refine lv_icmp_ge (tgt := 101) hx hb dX2_ways_83 (by decide) (fun c83_2 => ?_) (fun c83_2 => ?_)
    · skip
      have nc83_2 : (cc rk) ≤ i := (nI_leI (a := (cc rk)) (b := i) (by omega) (by omega)).mp c83_2
      exact kk0 a0 a1 a2 a3 a4 a5 a6 a7 a8 _ _ _ hP hD hS (lv_sub hl [1, 2, 3, 4, 5, 6] rfl)
    · skip
      have nc83_2 : ¬ ((cc rk) ≤ i) := fun z9 => c83_2 ((nI_leI (a := (cc rk)) (b := i) (by omega) (by omega)).mpr z9)
      refine lv_aload_n hx hb dX2_ways_86 rfl (lv_at hl 6 rfl) ?_
      refine lv_aload_n hx hb dX2_ways_87 rfl (lv_at hl 4 rfl) ?_
      refine lv_iload hx hb dX2_ways_88 (lv_at hl 1 rfl) ?_
      refine va_iald hx hb hK hP 13 0 rfl rfl (vp_in_nI (by omega) (by decide)) dX2_ways_90 ?_
      refine lv_topi (fun z_3 ez_3 => ?_)
      obtain rfl : z_3 = (mk rk) := ez_3.trans (by rw [nI_clamp (by omega)])
      refine lv_iload_n hx hb dX2_ways_91 rfl (lv_at hl 3 rfl) ?_
      have hPc := hP.sub (ws' := [(h0, .inr (2, [.ref hw])), (hw, .inl (cQ, 9, .inr (.inr (.inr (.inr gq))))), (r0, .inl (cJ, 49, .inr (.inl a0))), (r1, .inl (cJ, 49, .inr (.inl a1))), (r2, .inl (cJ, 49, .inr (.inl a2))), (r3, .inl (cJ, 49, .inr (.inl a3))), (r4, .inl (cJ, 49, .inr (.inl a4))), (r5, .inl (cJ, 49, .inr (.inl a5))), (r6, .inl (cJ, 49, .inr (.inl a6))), (r7, .inl (cJ, 49, .inr (.inl a7))), (r8, .inl (cJ, 49, .inr (.inl a8)))]) [0, 1, 2, 3, 4, 5, 6, 7, 8, 9, 10] rfl
      have hDc := hD.sub (ws' := [(h0, .inr (2, [.ref hw])), (hw, .inl (cQ, 9, .inr (.inr (.inr (.inr gq))))), (r0, .inl (cJ, 49, .inr (.inl a0))), (r1, .inl (cJ, 49, .inr (.inl a1))), (r2, .inl (cJ, 49, .inr (.inl a2))), (r3, .inl (cJ, 49, .inr (.inl a3))), (r4, .inl (cJ, 49, .inr (.inl a4))), (r5, .inl (cJ, 49, .inr (.inl a5))), (r6, .inl (cJ, 49, .inr (.inl a6))), (r7, .inl (cJ, 49, .inr (.inl a7))), (r8, .inl (cJ, 49, .inr (.inl a8)))]) [0, 1, 2, 3, 4, 5, 6, 7, 8, 9, 10] (by decide) rfl
      have hFc := va_free (wc := [(h0, .inr (2, [.ref hw])), (hw, .inl (cQ, 9, .inr (.inr (.inr (.inr gq))))), (r0, .inl (cJ, 49, .inr (.inl a0))), (r1, .inl (cJ, 49, .inr (.inl a1))), (r2, .inl (cJ, 49, .inr (.inl a2))), (r3, .inl (cJ, 49, .inr (.inl a3))), (r4, .inl (cJ, 49, .inr (.inl a4))), (r5, .inl (cJ, 49, .inr (.inl a5))), (r6, .inl (cJ, 49, .inr (.inl a6))), (r7, .inl (cJ, 49, .inr (.inl a7))), (r8, .inl (cJ, 49, .inr (.inl a8)))]) hD hS hA [0, 1, 2, 3, 4, 5, 6, 7, 8, 9, 10] rfl
      refine va_callv (va_runV (As := [.int (mk rk), .int (nI sz)]) (rest := []) ⟨hx, hb, hml, hown, hts⟩ (c_X2_addCard l D cI cJ cQ _ h0 hw (gq) r0 r1 r2 r3 r4 r5 r6 r7 r8 (a0) (a1) (a2) (a3) (a4) (a5) (a6) (a7) (a8) (mk rk) sz (hmk rk rr1 rr10) s8 hg) (cwV 2 hts gX2_ways_X2_addCard rfl rfl rfl (by decide +kernel) ⟨Nat.le_trans (show 1 + 1 ≤ 2 by omega) hRf, Nat.le_trans (show 8 + (7 + 11) + (40) ≤ 66 by omega) hRl⟩) (mP_preV (ci := 2) (q0 := 0) hPc hK hDc rfl rfl) rfl rfl hl.1 rfl (lv_room (Nat.le_of_ble_eq_true rfl)) dX2_ways_92 ⟨hRc, hRs⟩) hS (fun q _ h => hFc q h) hFc (fun u_r_4 t H1 locs ht hvm hr_4 hB hz1 hk1 hS => ?_)
      obtain ⟨a0x_5, a1x_6, a2x_7, a3x_8, a4x_9, a5x_10, a6x_11, a7x_12, a8x_13⟩ := u_r_4
      obtain ⟨hP1, hK1, hD1⟩ := hB
      rw [ht] at hP1
      try dsimp only at hr_4
      obtain ⟨hP, hD⟩ := va_join (wr := [(c0, .inr (0, [.ref c1, .int tot])), (c1, .inl (cI, 11, .inl f)), (tm, .inl (cI, 11, .inl mk))]) (w1 := [(h0, .inr (2, [.ref hw])), (hw, .inl (cQ, 9, .inr (.inr (.inr (.inr (gq)))))), (r0, .inl (cJ, 49, .inr (.inl a0x_5))), (r1, .inl (cJ, 49, .inr (.inl a1x_6))), (r2, .inl (cJ, 49, .inr (.inl a2x_7))), (r3, .inl (cJ, 49, .inr (.inl a3x_8))), (r4, .inl (cJ, 49, .inr (.inl a4x_9))), (r5, .inl (cJ, 49, .inr (.inl a5x_10))), (r6, .inl (cJ, 49, .inr (.inl a6x_11))), (r7, .inl (cJ, 49, .inr (.inl a7x_12))), (r8, .inl (cJ, 49, .inr (.inl a8x_13)))]) hP hD [0, 1, 2, 3, 4, 5, 6, 7, 8, 9, 10] [11, 12, 13] rfl rfl (by decide) (by decide) hk1 hFc hP1 hD1
      generalize H1 = H at hP hS ⊢
      have hP : va_P D vwCl [(c0, .inr (0, [.ref c1, .int tot])), (c1, .inl (cI, 11, .inl f)), (tm, .inl (cI, 11, .inl mk)), (h0, .inr (2, [.ref hw])), (hw, .inl (cQ, 9, .inr (.inr (.inr (.inr (gq)))))), (r0, .inl (cJ, 49, .inr (.inl a0x_5))), (r1, .inl (cJ, 49, .inr (.inl a1x_6))), (r2, .inl (cJ, 49, .inr (.inl a2x_7))), (r3, .inl (cJ, 49, .inr (.inl a3x_8))), (r4, .inl (cJ, 49, .inr (.inl a4x_9))), (r5, .inl (cJ, 49, .inr (.inl a5x_10))), (r6, .inl (cJ, 49, .inr (.inl a6x_11))), (r7, .inl (cJ, 49, .inr (.inl a7x_12))), (r8, .inl (cJ, 49, .inr (.inl a8x_13)))] H := hP
      have hD : va_D A [(c0, .inr (0, [.ref c1, .int tot])), (c1, .inl (cI, 11, .inl f)), (tm, .inl (cI, 11, .inl mk)), (h0, .inr (2, [.ref hw])), (hw, .inl (cQ, 9, .inr (.inr (.inr (.inr (gq)))))), (r0, .inl (cJ, 49, .inr (.inl a0x_5))), (r1, .inl (cJ, 49, .inr (.inl a1x_6))), (r2, .inl (cJ, 49, .inr (.inl a2x_7))), (r3, .inl (cJ, 49, .inr (.inl a3x_8))), (r4, .inl (cJ, 49, .inr (.inl a4x_9))), (r5, .inl (cJ, 49, .inr (.inl a5x_10))), (r6, .inl (cJ, 49, .inr (.inl a6x_11))), (r7, .inl (cJ, 49, .inr (.inl a7x_12))), (r8, .inl (cJ, 49, .inr (.inl a8x_13)))] := hD
      refine lv_iinc (v := (nI (i + 1))) (lv' := [(6, .int (nI (i + 1))), (5, .int (nI rk)), (4, .int p3), (3, .int (nI sz)), (2, .ref tm), (1, .ref c0), (0, .ref h0)]) hx hb dX2_ways_95 hl (k := 0) rfl (nI_incT (by decide)) (by decide) rfl (fun ls hl => ?_)
      refine lv_goto (tgt := 75) hx hb dX2_ways_98 (by decide) ?_
      exact ih (i + 1) a0x_5 a1x_6 a2x_7 a3x_8 a4x_9 a5x_10 a6x_11 a7x_12 a8x_13 _ _ _ (by omega) (by omega) (hP.sub [3, 4, 5, 6, 7, 8, 9, 10, 11, 12, 13, 0, 1, 2] rfl) (hD.sub [3, 4, 5, 6, 7, 8, 9, 10, 11, 12, 13, 0, 1, 2] (by decide) rfl) hS (lv_sub hl [0, 1, 2, 3, 4, 5, 6] rfl) kk0


set_option maxHeartbeats 400000 in
set_option maxRecDepth 100000 in
theorem lpWays2 {p : Program} {l : Launch} {e : Env} {R : Room} {s : State} {m : MethodId} {args : Array Value} {below : List Frame} {meth : Method} {c : Code} {Q : State → Prop} {D : va_G} {cI cJ cQ : ClassId} {A : Nat → Prop} {cells slots : Nat} (hx : p.tables.exec = Jvm.exec) (hb : c.code = cX2_ways) (hml : c.maxLocals = 7) (hown : s.vm.findClass RX2 = some m.cls) (hts : ∀ w ∈ wsX2_ways, w.before args s = true) (hK : va_K D vwCl (gTy cI cJ cQ) s) (hA : ∀ q : Nat, s.heap.size ≤ q → A q) (h0 : Nat) (hw : Nat) (gq : Nat → Option Nat) (r0 : Nat) (r1 : Nat) (r2 : Nat) (r3 : Nat) (r4 : Nat) (r5 : Nat) (r6 : Nat) (r7 : Nat) (r8 : Nat) (c0 : Nat) (c1 : Nat) (tot : Int32) (f : Nat → Int32) (tm : Nat) (mk : Nat → Int32) (sz : Nat) (p3 : Int32) (cc : Nat → Nat) (hRf : 2 ≤ R.frames) (hRl : 66 ≤ R.locals) (hRc : cells ≤ R.cells) (hRs : slots ≤ R.slots) (s8 : sz ≤ 8) (hg : gq 0 = some r0 ∧ gq 1 = some r1 ∧ gq 2 = some r2 ∧ gq 3 = some r3 ∧ gq 4 = some r4 ∧ gq 5 = some r5 ∧ gq 6 = some r6 ∧ gq 7 = some r7 ∧ gq 8 = some r8) (hmk : ∀ j, 1 ≤ j → j ≤ 10 → -3 ≤ (mk j).toInt ∧ (mk j).toInt ≤ 3) (hc : cntI f cc) : ∀ (n9 : Nat) (rk : Nat) (a0 : Nat → Int64) (a1 : Nat → Int64) (a2 : Nat → Int64) (a3 : Nat → Int64) (a4 : Nat → Int64) (a5 : Nat → Int64) (a6 : Nat → Int64) (a7 : Nat → Int64) (a8 : Nat → Int64) (H : Heap) (locs : List Loc) (ls : Array Slot), 11 - rk < n9 → (1 ≤ rk) → (rk ≤ 11) → va_P D vwCl [(h0, .inr (2, [.ref hw])), (hw, .inl (cQ, 9, .inr (.inr (.inr (.inr gq))))), (r0, .inl (cJ, 49, .inr (.inl a0))), (r1, .inl (cJ, 49, .inr (.inl a1))), (r2, .inl (cJ, 49, .inr (.inl a2))), (r3, .inl (cJ, 49, .inr (.inl a3))), (r4, .inl (cJ, 49, .inr (.inl a4))), (r5, .inl (cJ, 49, .inr (.inl a5))), (r6, .inl (cJ, 49, .inr (.inl a6))), (r7, .inl (cJ, 49, .inr (.inl a7))), (r8, .inl (cJ, 49, .inr (.inl a8))), (c0, .inr (0, [.ref c1, .int tot])), (c1, .inl (cI, 11, .inl f)), (tm, .inl (cI, 11, .inl mk))] H → va_D A [(h0, .inr (2, [.ref hw])), (hw, .inl (cQ, 9, .inr (.inr (.inr (.inr gq))))), (r0, .inl (cJ, 49, .inr (.inl a0))), (r1, .inl (cJ, 49, .inr (.inl a1))), (r2, .inl (cJ, 49, .inr (.inl a2))), (r3, .inl (cJ, 49, .inr (.inl a3))), (r4, .inl (cJ, 49, .inr (.inl a4))), (r5, .inl (cJ, 49, .inr (.inl a5))), (r6, .inl (cJ, 49, .inr (.inl a6))), (r7, .inl (cJ, 49, .inr (.inl a7))), (r8, .inl (cJ, 49, .inr (.inl a8))), (c0, .inr (0, [.ref c1, .int tot])), (c1, .inl (cI, 11, .inl f)), (tm, .inl (cI, 11, .inl mk))] → va_S A s.heap H locs → lv_has ls 7 [(5, .int (nI rk)), (4, .int p3), (3, .int (nI sz)), (2, .ref tm), (1, .ref c0), (0, .ref h0)] → (∀ (a0 : Nat → Int64) (a1 : Nat → Int64) (a2 : Nat → Int64) (a3 : Nat → Int64) (a4 : Nat → Int64) (a5 : Nat → Int64) (a6 : Nat → Int64) (a7 : Nat → Int64) (a8 : Nat → Int64) (H : Heap) (locs : List Loc) (ls : Array Slot), va_P D vwCl [(h0, .inr (2, [.ref hw])), (hw, .inl (cQ, 9, .inr (.inr (.inr (.inr gq))))), (r0, .inl (cJ, 49, .inr (.inl a0))), (r1, .inl (cJ, 49, .inr (.inl a1))), (r2, .inl (cJ, 49, .inr (.inl a2))), (r3, .inl (cJ, 49, .inr (.inl a3))), (r4, .inl (cJ, 49, .inr (.inl a4))), (r5, .inl (cJ, 49, .inr (.inl a5))), (r6, .inl (cJ, 49, .inr (.inl a6))), (r7, .inl (cJ, 49, .inr (.inl a7))), (r8, .inl (cJ, 49, .inr (.inl a8))), (c0, .inr (0, [.ref c1, .int tot])), (c1, .inl (cI, 11, .inl f)), (tm, .inl (cI, 11, .inl mk))] H → va_D A [(h0, .inr (2, [.ref hw])), (hw, .inl (cQ, 9, .inr (.inr (.inr (.inr gq))))), (r0, .inl (cJ, 49, .inr (.inl a0))), (r1, .inl (cJ, 49, .inr (.inl a1))), (r2, .inl (cJ, 49, .inr (.inl a2))), (r3, .inl (cJ, 49, .inr (.inl a3))), (r4, .inl (cJ, 49, .inr (.inl a4))), (r5, .inl (cJ, 49, .inr (.inl a5))), (r6, .inl (cJ, 49, .inr (.inl a6))), (r7, .inl (cJ, 49, .inr (.inl a7))), (r8, .inl (cJ, 49, .inr (.inl a8))), (c0, .inr (0, [.ref c1, .int tot])), (c1, .inl (cI, 11, .inl f)), (tm, .inl (cI, 11, .inl mk))] → va_S A s.heap H locs → lv_has ls 7 [(4, .int p3), (3, .int (nI sz)), (0, .ref h0)] → W p l e R s m args below meth c H locs cells slots Q (F0 m 107 ls [])) → W p l e R s m args below meth c H locs cells slots Q (F0 m 65 ls []) := by
  intro n9
  induction n9 with
  | zero => intro rk a0 a1 a2 a3 a4 a5 a6 a7 a8 H locs ls hms9; exact absurd hms9 (Nat.not_lt_zero _)
  | succ n9 ih =>
    intro rk a0 a1 a2 a3 a4 a5 a6 a7 a8 H locs ls hms9 rr1 rr11 hP hD hS hl kk0
    refine lv_iload hx hb dX2_ways_65 (lv_at hl 0 rfl) ?_
    refine lv_bipush (v := 10) hx hb dX2_ways_67 (by decide) ?_
    refine lv_icmp_gt (tgt := 107) hx hb dX2_ways_69 (by decide) (fun c69_1 => ?_) (fun c69_1 => ?_)
    · skip
      have nc69_1 : 10 < rk := (nI_ltI (a := 10) (b := rk) (by omega) (by omega)).mp c69_1
      exact kk0 a0 a1 a2 a3 a4 a5 a6 a7 a8 _ _ _ hP hD hS (lv_sub hl [1, 2, 5] rfl)
    · skip
      have nc69_1 : ¬ (10 < rk) := fun z9 => c69_1 ((nI_ltI (a := 10) (b := rk) (by omega) (by omega)).mpr z9)
      refine lv_iconst (v := 0) hx hb dX2_ways_72 (by decide) ?_
      refine lv_istore (lv' := [(6, .int 0), (5, .int (nI rk)), (4, .int p3), (3, .int (nI sz)), (2, .ref tm), (1, .ref c0), (0, .ref h0)]) hx hb dX2_ways_73 hl (by decide) rfl (fun ls hl => ?_)
      refine lpWays3 hx hb hml hown hts hK hA h0 hw gq r0 r1 r2 r3 r4 r5 r6 r7 r8 c0 c1 tot f tm mk sz p3 rk cc (Nat.le_trans (show 2 ≤ 2 by omega) hRf) (Nat.le_trans (show 66 ≤ 66 by omega) hRl) hRc hRs s8 hg hmk hc rr1 (by omega) (33 - 0 + 1) 0 a0 a1 a2 a3 a4 a5 a6 a7 a8 _ _ _ (Nat.lt_succ_self _) (by omega) hP hD hS (lv_sub hl [0, 1, 2, 3, 4, 5, 6] rfl) (fun a0_2 a1_3 a2_4 a3_5 a4_6 a5_7 a6_8 a7_9 a8_10 H locs ls  hP hD hS hl => ?_)
      have hP : va_P D vwCl [(h0, .inr (2, [.ref hw])), (hw, .inl (cQ, 9, .inr (.inr (.inr (.inr gq))))), (r0, .inl (cJ, 49, .inr (.inl a0_2))), (r1, .inl (cJ, 49, .inr (.inl a1_3))), (r2, .inl (cJ, 49, .inr (.inl a2_4))), (r3, .inl (cJ, 49, .inr (.inl a3_5))), (r4, .inl (cJ, 49, .inr (.inl a4_6))), (r5, .inl (cJ, 49, .inr (.inl a5_7))), (r6, .inl (cJ, 49, .inr (.inl a6_8))), (r7, .inl (cJ, 49, .inr (.inl a7_9))), (r8, .inl (cJ, 49, .inr (.inl a8_10))), (c0, .inr (0, [.ref c1, .int tot])), (c1, .inl (cI, 11, .inl f)), (tm, .inl (cI, 11, .inl mk))] H := hP
      have hD : va_D A [(h0, .inr (2, [.ref hw])), (hw, .inl (cQ, 9, .inr (.inr (.inr (.inr gq))))), (r0, .inl (cJ, 49, .inr (.inl a0_2))), (r1, .inl (cJ, 49, .inr (.inl a1_3))), (r2, .inl (cJ, 49, .inr (.inl a2_4))), (r3, .inl (cJ, 49, .inr (.inl a3_5))), (r4, .inl (cJ, 49, .inr (.inl a4_6))), (r5, .inl (cJ, 49, .inr (.inl a5_7))), (r6, .inl (cJ, 49, .inr (.inl a6_8))), (r7, .inl (cJ, 49, .inr (.inl a7_9))), (r8, .inl (cJ, 49, .inr (.inl a8_10))), (c0, .inr (0, [.ref c1, .int tot])), (c1, .inl (cI, 11, .inl f)), (tm, .inl (cI, 11, .inl mk))] := hD
      refine lv_iinc (v := (nI (rk + 1))) (lv' := [(5, .int (nI (rk + 1))), (4, .int p3), (3, .int (nI sz)), (2, .ref tm), (1, .ref c0), (0, .ref h0)]) hx hb dX2_ways_101 hl (k := 0) rfl (nI_incT (by decide)) (by decide) rfl (fun ls hl => ?_)
      refine lv_goto (tgt := 65) hx hb dX2_ways_104 (by decide) ?_
      exact ih (rk + 1) a0_2 a1_3 a2_4 a3_5 a4_6 a5_7 a6_8 a7_9 a8_10 _ _ _ (by omega) (by omega) (by omega) hP hD hS (lv_sub hl [0, 1, 2, 3, 4, 5] rfl) kk0

set_option maxHeartbeats 400000 in
set_option maxRecDepth 100000 in
/-- X2_ways -/
theorem c_X2_ways (l : Launch) (D : va_G) (cI cJ cQ : ClassId) (sz : Nat) (h0 : Nat) (hw : Nat) (gq : Nat → Option Nat) (r0 : Nat) (r1 : Nat) (r2 : Nat) (r3 : Nat) (r4 : Nat) (r5 : Nat) (r6 : Nat) (r7 : Nat) (r8 : Nat) (c0 : Nat) (c1 : Nat) (tot : Int32) (f : Nat → Int32) (tm : Nat) (mk : Nat → Int32) (a0 : Nat → Int64) (a1 : Nat → Int64) (a2 : Nat → Int64) (a3 : Nat → Int64) (a4 : Nat → Int64) (a5 : Nat → Int64) (a6 : Nat → Int64) (a7 : Nat → Int64) (a8 : Nat → Int64) (p2 : Int32) (p3 : Int32) (cc : Nat → Nat) (hg : gq 0 = some r0 ∧ gq 1 = some r1 ∧ gq 2 = some r2 ∧ gq 3 = some r3 ∧ gq 4 = some r4 ∧ gq 5 = some r5 ∧ gq 6 = some r6 ∧ gq 7 = some r7 ∧ gq 8 = some r8) (hmk : ∀ j, 1 ≤ j → j ≤ 10 → -3 ≤ (mk j).toInt ∧ (mk j).toInt ≤ 3) (hc : cntI f cc) : Met l yX2_ways wsX2_ways ({ frames := 2, cells := 0, slots := 0, locals := 66 }) (va_Pc [.ref h0, .ref c0, .ref tm, .int p2, .int p3] (mP D (gTy cI cJ cQ) [(h0, .inr (2, [.ref hw])), (hw, .inl (cQ, 9, .inr (.inr (.inr (.inr gq))))), (r0, .inl (cJ, 49, .inr (.inl a0))), (r1, .inl (cJ, 49, .inr (.inl a1))), (r2, .inl (cJ, 49, .inr (.inl a2))), (r3, .inl (cJ, 49, .inr (.inl a3))), (r4, .inl (cJ, 49, .inr (.inl a4))), (r5, .inl (cJ, 49, .inr (.inl a5))), (r6, .inl (cJ, 49, .inr (.inl a6))), (r7, .inl (cJ, 49, .inr (.inl a7))), (r8, .inl (cJ, 49, .inr (.inl a8))), (c0, .inr (0, [.ref c1, .int tot])), (c1, .inl (cI, 11, .inl f)), (tm, .inl (cI, 11, .inl mk))] sz)) (va_Ql (fun (r : Int64) (u : (Nat → Int64) × (Nat → Int64) × (Nat → Int64) × (Nat → Int64) × (Nat → Int64) × (Nat → Int64) × (Nat → Int64) × (Nat → Int64) × (Nat → Int64)) => match u with | (a0x, a1x, a2x, a3x, a4x, a5x, a6x, a7x, a8x) => True) (fun (u : (Nat → Int64) × (Nat → Int64) × (Nat → Int64) × (Nat → Int64) × (Nat → Int64) × (Nat → Int64) × (Nat → Int64) × (Nat → Int64) × (Nat → Int64)) t => match u with | (a0x, a1x, a2x, a3x, a4x, a5x, a6x, a7x, a8x) => mB D (gTy cI cJ cQ) (va_A [(h0, .inr (2, [.ref hw])), (hw, .inl (cQ, 9, .inr (.inr (.inr (.inr gq))))), (r0, .inl (cJ, 49, .inr (.inl a0))), (r1, .inl (cJ, 49, .inr (.inl a1))), (r2, .inl (cJ, 49, .inr (.inl a2))), (r3, .inl (cJ, 49, .inr (.inl a3))), (r4, .inl (cJ, 49, .inr (.inl a4))), (r5, .inl (cJ, 49, .inr (.inl a5))), (r6, .inl (cJ, 49, .inr (.inl a6))), (r7, .inl (cJ, 49, .inr (.inl a7))), (r8, .inl (cJ, 49, .inr (.inl a8))), (c0, .inr (0, [.ref c1, .int tot])), (c1, .inl (cI, 11, .inl f)), (tm, .inl (cI, 11, .inl mk))] sz) [(h0, .inr (2, [.ref hw])), (hw, .inl (cQ, 9, .inr (.inr (.inr (.inr gq))))), (r0, .inl (cJ, 49, .inr (.inl a0x))), (r1, .inl (cJ, 49, .inr (.inl a1x))), (r2, .inl (cJ, 49, .inr (.inl a2x))), (r3, .inl (cJ, 49, .inr (.inl a3x))), (r4, .inl (cJ, 49, .inr (.inl a4x))), (r5, .inl (cJ, 49, .inr (.inl a5x))), (r6, .inl (cJ, 49, .inr (.inl a6x))), (r7, .inl (cJ, 49, .inr (.inl a7x))), (r8, .inl (cJ, 49, .inr (.inl a8x))), (c0, .inr (0, [.ref c1, .int tot])), (c1, .inl (cI, 11, .inl f)), (tm, .inl (cI, 11, .inl mk))] t) (va_A [(h0, .inr (2, [.ref hw])), (hw, .inl (cQ, 9, .inr (.inr (.inr (.inr gq))))), (r0, .inl (cJ, 49, .inr (.inl a0))), (r1, .inl (cJ, 49, .inr (.inl a1))), (r2, .inl (cJ, 49, .inr (.inl a2))), (r3, .inl (cJ, 49, .inr (.inl a3))), (r4, .inl (cJ, 49, .inr (.inl a4))), (r5, .inl (cJ, 49, .inr (.inl a5))), (r6, .inl (cJ, 49, .inr (.inl a6))), (r7, .inl (cJ, 49, .inr (.inl a7))), (r8, .inl (cJ, 49, .inr (.inl a8))), (c0, .inr (0, [.ref c1, .int tot])), (c1, .inl (cI, 11, .inl f)), (tm, .inl (cI, 11, .inl mk))] sz)) 0 0 (va_A [(h0, .inr (2, [.ref hw])), (hw, .inl (cQ, 9, .inr (.inr (.inr (.inr gq))))), (r0, .inl (cJ, 49, .inr (.inl a0))), (r1, .inl (cJ, 49, .inr (.inl a1))), (r2, .inl (cJ, 49, .inr (.inl a2))), (r3, .inl (cJ, 49, .inr (.inl a3))), (r4, .inl (cJ, 49, .inr (.inl a4))), (r5, .inl (cJ, 49, .inr (.inl a5))), (r6, .inl (cJ, 49, .inr (.inl a6))), (r7, .inl (cJ, 49, .inr (.inl a7))), (r8, .inl (cJ, 49, .inr (.inl a8))), (c0, .inr (0, [.ref c1, .int tot])), (c1, .inl (cI, 11, .inl f)), (tm, .inl (cI, 11, .inl mk))] sz) := by
  refine Met.ofW (cc := cX2_ways) (maxL := 7) (ret := (some .long)) (by decide) rfl ?_
  intro p e s m args below meth c s₁ B hml hv
  obtain ⟨rfl, hsz, hP, hK, hD0⟩ := hv
  have hx := B.exec
  have hb := B.bytes
  have hr := B.returns
  have hts := atoms_spec (ws := wsX2_ways) B.pre
  have hown : s.vm.findClass RX2 = some m.cls := findClass_of_methodNamed B.named
  have hlocks := B.notSynchronized
  subst hsz
  have hD := hD0.self (sz := s.heap.size)
  generalize hAe : va_A [(h0, .inr (2, [.ref hw])), (hw, .inl (cQ, 9, .inr (.inr (.inr (.inr gq))))), (r0, .inl (cJ, 49, .inr (.inl a0))), (r1, .inl (cJ, 49, .inr (.inl a1))), (r2, .inl (cJ, 49, .inr (.inl a2))), (r3, .inl (cJ, 49, .inr (.inl a3))), (r4, .inl (cJ, 49, .inr (.inl a4))), (r5, .inl (cJ, 49, .inr (.inl a5))), (r6, .inl (cJ, 49, .inr (.inl a6))), (r7, .inl (cJ, 49, .inr (.inl a7))), (r8, .inl (cJ, 49, .inr (.inl a8))), (c0, .inr (0, [.ref c1, .int tot])), (c1, .inl (cI, 11, .inl f)), (tm, .inl (cI, 11, .inl mk))] s.heap.size = A at hD ⊢
  have hA : ∀ q : Nat, s.heap.size ≤ q → A q := fun q h => by rw [← hAe]; exact Or.inr h
  have hS : va_S A s.heap s.heap [] := va_S.rf
  have hP : va_P D vwCl [(h0, .inr (2, [.ref hw])), (hw, .inl (cQ, 9, .inr (.inr (.inr (.inr gq))))), (r0, .inl (cJ, 49, .inr (.inl a0))), (r1, .inl (cJ, 49, .inr (.inl a1))), (r2, .inl (cJ, 49, .inr (.inl a2))), (r3, .inl (cJ, 49, .inr (.inl a3))), (r4, .inl (cJ, 49, .inr (.inl a4))), (r5, .inl (cJ, 49, .inr (.inl a5))), (r6, .inl (cJ, 49, .inr (.inl a6))), (r7, .inl (cJ, 49, .inr (.inl a7))), (r8, .inl (cJ, 49, .inr (.inl a8))), (c0, .inr (0, [.ref c1, .int tot])), (c1, .inl (cI, 11, .inl f)), (tm, .inl (cI, 11, .inl mk))] s.heap := hP
  have hl := lv_entry ([.ref h0, .ref c0, .ref tm, .int p2, .int p3]) (n := 7) (Nat.le_of_ble_eq_true rfl)
  rw [lg_entry_eq]
  generalize (lg_sl ([.ref h0, .ref c0, .ref tm, .int p2, .int p3]) ++ List.replicate (7 - (lg_sl ([.ref h0, .ref c0, .ref tm, .int p2, .int p3])).length) Slot.unset).toArray = ls at hl ⊢
  have hl : lv_has ls 7 [(0, .ref h0), (1, .ref c0), (2, .ref tm), (3, .int p2), (4, .int p3)] := hl
  refine lv_iload_n hx hb dX2_ways_0 rfl (lv_at hl 3 rfl) ?_
  refine lv_if_lt (tgt := 24) hx hb dX2_ways_1 (by decide) (fun c1_1 => ?_) (fun c1_1 => ?_)
  · skip
    refine lv_lconst (v := 0) hx hb dX2_ways_24 (by decide) ?_
    have hP9 := hP.sub (ws' := [(h0, .inr (2, [.ref hw])), (hw, .inl (cQ, 9, .inr (.inr (.inr (.inr gq))))), (r0, .inl (cJ, 49, .inr (.inl a0))), (r1, .inl (cJ, 49, .inr (.inl a1))), (r2, .inl (cJ, 49, .inr (.inl a2))), (r3, .inl (cJ, 49, .inr (.inl a3))), (r4, .inl (cJ, 49, .inr (.inl a4))), (r5, .inl (cJ, 49, .inr (.inl a5))), (r6, .inl (cJ, 49, .inr (.inl a6))), (r7, .inl (cJ, 49, .inr (.inl a7))), (r8, .inl (cJ, 49, .inr (.inl a8))), (c0, .inr (0, [.ref c1, .int tot])), (c1, .inl (cI, 11, .inl f)), (tm, .inl (cI, 11, .inl mk))]) [0, 1, 2, 3, 4, 5, 6, 7, 8, 9, 10, 11, 12, 13] rfl
    have hD9 := hD.sub (ws' := [(h0, .inr (2, [.ref hw])), (hw, .inl (cQ, 9, .inr (.inr (.inr (.inr gq))))), (r0, .inl (cJ, 49, .inr (.inl a0))), (r1, .inl (cJ, 49, .inr (.inl a1))), (r2, .inl (cJ, 49, .inr (.inl a2))), (r3, .inl (cJ, 49, .inr (.inl a3))), (r4, .inl (cJ, 49, .inr (.inl a4))), (r5, .inl (cJ, 49, .inr (.inl a5))), (r6, .inl (cJ, 49, .inr (.inl a6))), (r7, .inl (cJ, 49, .inr (.inl a7))), (r8, .inl (cJ, 49, .inr (.inl a8))), (c0, .inr (0, [.ref c1, .int tot])), (c1, .inl (cI, 11, .inl f)), (tm, .inl (cI, 11, .inl mk))]) [0, 1, 2, 3, 4, 5, 6, 7, 8, 9, 10, 11, 12, 13] (by decide) rfl
    exact W.lret (v := 0) hx hb hr (fun t ht hW => ⟨⟨0, ((a0), (a1), (a2), (a3), (a4), (a5), (a6), (a7), (a8)), rfl, trivial, by rw [ht]; exact hP9, va_K.moved hW.alike hK, hD9⟩, hS.F ht⟩) hS.2.2 dX2_ways_25
  · skip
    refine lv_iload_n hx hb dX2_ways_4 rfl (lv_at hl 3 rfl) ?_
    refine lv_bipush (v := 8) hx hb dX2_ways_5 (by decide) ?_
    refine lv_icmp_gt (tgt := 24) hx hb dX2_ways_7 (by decide) (fun c7_2 => ?_) (fun c7_2 => ?_)
    · skip
      refine lv_lconst (v := 0) hx hb dX2_ways_24 (by decide) ?_
      have hP9 := hP.sub (ws' := [(h0, .inr (2, [.ref hw])), (hw, .inl (cQ, 9, .inr (.inr (.inr (.inr gq))))), (r0, .inl (cJ, 49, .inr (.inl a0))), (r1, .inl (cJ, 49, .inr (.inl a1))), (r2, .inl (cJ, 49, .inr (.inl a2))), (r3, .inl (cJ, 49, .inr (.inl a3))), (r4, .inl (cJ, 49, .inr (.inl a4))), (r5, .inl (cJ, 49, .inr (.inl a5))), (r6, .inl (cJ, 49, .inr (.inl a6))), (r7, .inl (cJ, 49, .inr (.inl a7))), (r8, .inl (cJ, 49, .inr (.inl a8))), (c0, .inr (0, [.ref c1, .int tot])), (c1, .inl (cI, 11, .inl f)), (tm, .inl (cI, 11, .inl mk))]) [0, 1, 2, 3, 4, 5, 6, 7, 8, 9, 10, 11, 12, 13] rfl
      have hD9 := hD.sub (ws' := [(h0, .inr (2, [.ref hw])), (hw, .inl (cQ, 9, .inr (.inr (.inr (.inr gq))))), (r0, .inl (cJ, 49, .inr (.inl a0))), (r1, .inl (cJ, 49, .inr (.inl a1))), (r2, .inl (cJ, 49, .inr (.inl a2))), (r3, .inl (cJ, 49, .inr (.inl a3))), (r4, .inl (cJ, 49, .inr (.inl a4))), (r5, .inl (cJ, 49, .inr (.inl a5))), (r6, .inl (cJ, 49, .inr (.inl a6))), (r7, .inl (cJ, 49, .inr (.inl a7))), (r8, .inl (cJ, 49, .inr (.inl a8))), (c0, .inr (0, [.ref c1, .int tot])), (c1, .inl (cI, 11, .inl f)), (tm, .inl (cI, 11, .inl mk))]) [0, 1, 2, 3, 4, 5, 6, 7, 8, 9, 10, 11, 12, 13] (by decide) rfl
      exact W.lret (v := 0) hx hb hr (fun t ht hW => ⟨⟨0, ((a0), (a1), (a2), (a3), (a4), (a5), (a6), (a7), (a8)), rfl, trivial, by rw [ht]; exact hP9, va_K.moved hW.alike hK, hD9⟩, hS.F ht⟩) hS.2.2 dX2_ways_25
    · skip
      refine lv_iload hx hb dX2_ways_10 (lv_at hl 4 rfl) ?_
      refine lv_bipush (v := (-24)) hx hb dX2_ways_12 (by decide) ?_
      refine lv_icmp_lt (tgt := 24) hx hb dX2_ways_14 (by decide) (fun c14_3 => ?_) (fun c14_3 => ?_)
      · skip
        refine lv_lconst (v := 0) hx hb dX2_ways_24 (by decide) ?_
        have hP9 := hP.sub (ws' := [(h0, .inr (2, [.ref hw])), (hw, .inl (cQ, 9, .inr (.inr (.inr (.inr gq))))), (r0, .inl (cJ, 49, .inr (.inl a0))), (r1, .inl (cJ, 49, .inr (.inl a1))), (r2, .inl (cJ, 49, .inr (.inl a2))), (r3, .inl (cJ, 49, .inr (.inl a3))), (r4, .inl (cJ, 49, .inr (.inl a4))), (r5, .inl (cJ, 49, .inr (.inl a5))), (r6, .inl (cJ, 49, .inr (.inl a6))), (r7, .inl (cJ, 49, .inr (.inl a7))), (r8, .inl (cJ, 49, .inr (.inl a8))), (c0, .inr (0, [.ref c1, .int tot])), (c1, .inl (cI, 11, .inl f)), (tm, .inl (cI, 11, .inl mk))]) [0, 1, 2, 3, 4, 5, 6, 7, 8, 9, 10, 11, 12, 13] rfl
        have hD9 := hD.sub (ws' := [(h0, .inr (2, [.ref hw])), (hw, .inl (cQ, 9, .inr (.inr (.inr (.inr gq))))), (r0, .inl (cJ, 49, .inr (.inl a0))), (r1, .inl (cJ, 49, .inr (.inl a1))), (r2, .inl (cJ, 49, .inr (.inl a2))), (r3, .inl (cJ, 49, .inr (.inl a3))), (r4, .inl (cJ, 49, .inr (.inl a4))), (r5, .inl (cJ, 49, .inr (.inl a5))), (r6, .inl (cJ, 49, .inr (.inl a6))), (r7, .inl (cJ, 49, .inr (.inl a7))), (r8, .inl (cJ, 49, .inr (.inl a8))), (c0, .inr (0, [.ref c1, .int tot])), (c1, .inl (cI, 11, .inl f)), (tm, .inl (cI, 11, .inl mk))]) [0, 1, 2, 3, 4, 5, 6, 7, 8, 9, 10, 11, 12, 13] (by decide) rfl
        exact W.lret (v := 0) hx hb hr (fun t ht hW => ⟨⟨0, ((a0), (a1), (a2), (a3), (a4), (a5), (a6), (a7), (a8)), rfl, trivial, by rw [ht]; exact hP9, va_K.moved hW.alike hK, hD9⟩, hS.F ht⟩) hS.2.2 dX2_ways_25
      · skip
        refine lv_iload hx hb dX2_ways_17 (lv_at hl 4 rfl) ?_
        refine lv_bipush (v := 24) hx hb dX2_ways_19 (by decide) ?_
        refine lv_icmp_le (tgt := 26) hx hb dX2_ways_21 (by decide) (fun c21_4 => ?_) (fun c21_4 => ?_)
        · skip
          obtain ⟨sz, s8, rfl⟩ := n8_of c1_1 c7_2
          have s31 : sz < 2 ^ 31 := by omega
          have hl : lv_has ls 7 [(0, .ref h0), (1, .ref c0), (2, .ref tm), (3, .int (nI sz)), (4, .int p3)] := hl
          refine lv_iconst (v := 0) hx hb dX2_ways_26 (by decide) ?_
          refine lv_istore (lv' := [(5, .int 0), (0, .ref h0), (1, .ref c0), (2, .ref tm), (3, .int (nI sz)), (4, .int p3)]) hx hb dX2_ways_27 hl (by decide) rfl (fun ls hl => ?_)
          refine lpWays1 hx hb hml hown hts hK hA h0 hw gq r0 r1 r2 r3 r4 r5 r6 r7 r8 c0 c1 tot f tm mk sz p3 (Nat.le_of_ble_eq_true rfl) (Nat.le_of_ble_eq_true rfl) (Nat.zero_le _) (Nat.zero_le _) s8 hg (9 - 0 + 1) 0 a0 a1 a2 a3 a4 a5 a6 a7 a8 _ _ _ (Nat.lt_succ_self _) (by omega) hP hD hS (lv_sub hl [0, 5, 4, 3, 2, 1] rfl) (fun a0_5 a1_6 a2_7 a3_8 a4_9 a5_10 a6_11 a7_12 a8_13 H locs ls  hP hD hS hl => ?_)
          have hP : va_P D vwCl [(h0, .inr (2, [.ref hw])), (hw, .inl (cQ, 9, .inr (.inr (.inr (.inr gq))))), (r0, .inl (cJ, 49, .inr (.inl a0_5))), (r1, .inl (cJ, 49, .inr (.inl a1_6))), (r2, .inl (cJ, 49, .inr (.inl a2_7))), (r3, .inl (cJ, 49, .inr (.inl a3_8))), (r4, .inl (cJ, 49, .inr (.inl a4_9))), (r5, .inl (cJ, 49, .inr (.inl a5_10))), (r6, .inl (cJ, 49, .inr (.inl a6_11))), (r7, .inl (cJ, 49, .inr (.inl a7_12))), (r8, .inl (cJ, 49, .inr (.inl a8_13))), (c0, .inr (0, [.ref c1, .int tot])), (c1, .inl (cI, 11, .inl f)), (tm, .inl (cI, 11, .inl mk))] H := hP
          have hD : va_D A [(h0, .inr (2, [.ref hw])), (hw, .inl (cQ, 9, .inr (.inr (.inr (.inr gq))))), (r0, .inl (cJ, 49, .inr (.inl a0_5))), (r1, .inl (cJ, 49, .inr (.inl a1_6))), (r2, .inl (cJ, 49, .inr (.inl a2_7))), (r3, .inl (cJ, 49, .inr (.inl a3_8))), (r4, .inl (cJ, 49, .inr (.inl a4_9))), (r5, .inl (cJ, 49, .inr (.inl a5_10))), (r6, .inl (cJ, 49, .inr (.inl a6_11))), (r7, .inl (cJ, 49, .inr (.inl a7_12))), (r8, .inl (cJ, 49, .inr (.inl a8_13))), (c0, .inr (0, [.ref c1, .int tot])), (c1, .inl (cI, 11, .inl f)), (tm, .inl (cI, 11, .inl mk))] := hD
          refine lv_aload_n hx hb dX2_ways_52 rfl (lv_at hl 4 rfl) ?_
          refine va_get (D := D) (ci := 2) (v := .ref hw) (C := RX2) (T := TX2) (N := 1) hx hb hts in_X2_ways_X2 hown hK hP 0 rfl rfl 0 (by decide) (hts _ wd_X2_ways_0) (fun _ h9 => h9) rfl dX2_ways_53 ?_
          refine lv_iconst (v := 0) hx hb dX2_ways_56 (by decide) ?_
          refine va_aldA hx hb hK hP 1 2 rfl rfl (show ¬ ((0 : Int32) < 0 ∨ 9 ≤ (0 : Int32).toNatClampNeg) by decide) (by exact hg.1) dX2_ways_57 ?_
          refine lv_bipush (v := 24) hx hb dX2_ways_58 (by decide) ?_
          refine lv_lconst (v := 1) hx hb dX2_ways_60 (by decide) ?_
          refine va_last hx hb hK hP hD hS 2 1 rfl rfl (show ¬ ((24 : Int32) < 0 ∨ 49 ≤ (24 : Int32).toNatClampNeg) by decide) dX2_ways_61 (fun H locs hP hD hS => ?_)
          have hP : va_P D vwCl [(h0, .inr (2, [.ref hw])), (hw, .inl (cQ, 9, .inr (.inr (.inr (.inr gq))))), (r0, .inl (cJ, 49, .inr (.inl (vp_updL a0_5 (24 : Int32).toNatClampNeg 1)))), (r1, .inl (cJ, 49, .inr (.inl a1_6))), (r2, .inl (cJ, 49, .inr (.inl a2_7))), (r3, .inl (cJ, 49, .inr (.inl a3_8))), (r4, .inl (cJ, 49, .inr (.inl a4_9))), (r5, .inl (cJ, 49, .inr (.inl a5_10))), (r6, .inl (cJ, 49, .inr (.inl a6_11))), (r7, .inl (cJ, 49, .inr (.inl a7_12))), (r8, .inl (cJ, 49, .inr (.inl a8_13))), (c0, .inr (0, [.ref c1, .int tot])), (c1, .inl (cI, 11, .inl f)), (tm, .inl (cI, 11, .inl mk))] H := hP
          have hD : va_D A [(h0, .inr (2, [.ref hw])), (hw, .inl (cQ, 9, .inr (.inr (.inr (.inr gq))))), (r0, .inl (cJ, 49, .inr (.inl (vp_updL a0_5 (24 : Int32).toNatClampNeg 1)))), (r1, .inl (cJ, 49, .inr (.inl a1_6))), (r2, .inl (cJ, 49, .inr (.inl a2_7))), (r3, .inl (cJ, 49, .inr (.inl a3_8))), (r4, .inl (cJ, 49, .inr (.inl a4_9))), (r5, .inl (cJ, 49, .inr (.inl a5_10))), (r6, .inl (cJ, 49, .inr (.inl a6_11))), (r7, .inl (cJ, 49, .inr (.inl a7_12))), (r8, .inl (cJ, 49, .inr (.inl a8_13))), (c0, .inr (0, [.ref c1, .int tot])), (c1, .inl (cI, 11, .inl f)), (tm, .inl (cI, 11, .inl mk))] := hD
          refine lv_iconst (v := 1) hx hb dX2_ways_62 (by decide) ?_
          refine lv_istore (lv' := [(5, .int 1), (4, .int p3), (3, .int (nI sz)), (2, .ref tm), (1, .ref c0), (0, .ref h0)]) hx hb dX2_ways_63 hl (by decide) rfl (fun ls hl => ?_)
          refine lpWays2 hx hb hml hown hts hK hA h0 hw gq r0 r1 r2 r3 r4 r5 r6 r7 r8 c0 c1 tot f tm mk sz p3 cc (Nat.le_of_ble_eq_true rfl) (Nat.le_of_ble_eq_true rfl) (Nat.zero_le _) (Nat.zero_le _) s8 hg hmk hc (11 - 1 + 1) 1 (vp_updL a0_5 (24 : Int32).toNatClampNeg 1) a1_6 a2_7 a3_8 a4_9 a5_10 a6_11 a7_12 a8_13 _ _ _ (Nat.lt_succ_self _) (by omega) (by omega) hP hD hS (lv_sub hl [0, 1, 2, 3, 4, 5] rfl) (fun a0_14 a1_15 a2_16 a3_17 a4_18 a5_19 a6_20 a7_21 a8_22 H locs ls  hP hD hS hl => ?_)
          have hP : va_P D vwCl [(h0, .inr (2, [.ref hw])), (hw, .inl (cQ, 9, .inr (.inr (.inr (.inr gq))))), (r0, .inl (cJ, 49, .inr (.inl a0_14))), (r1, .inl (cJ, 49, .inr (.inl a1_15))), (r2, .inl (cJ, 49, .inr (.inl a2_16))), (r3, .inl (cJ, 49, .inr (.inl a3_17))), (r4, .inl (cJ, 49, .inr (.inl a4_18))), (r5, .inl (cJ, 49, .inr (.inl a5_19))), (r6, .inl (cJ, 49, .inr (.inl a6_20))), (r7, .inl (cJ, 49, .inr (.inl a7_21))), (r8, .inl (cJ, 49, .inr (.inl a8_22))), (c0, .inr (0, [.ref c1, .int tot])), (c1, .inl (cI, 11, .inl f)), (tm, .inl (cI, 11, .inl mk))] H := hP
          have hD : va_D A [(h0, .inr (2, [.ref hw])), (hw, .inl (cQ, 9, .inr (.inr (.inr (.inr gq))))), (r0, .inl (cJ, 49, .inr (.inl a0_14))), (r1, .inl (cJ, 49, .inr (.inl a1_15))), (r2, .inl (cJ, 49, .inr (.inl a2_16))), (r3, .inl (cJ, 49, .inr (.inl a3_17))), (r4, .inl (cJ, 49, .inr (.inl a4_18))), (r5, .inl (cJ, 49, .inr (.inl a5_19))), (r6, .inl (cJ, 49, .inr (.inl a6_20))), (r7, .inl (cJ, 49, .inr (.inl a7_21))), (r8, .inl (cJ, 49, .inr (.inl a8_22))), (c0, .inr (0, [.ref c1, .int tot])), (c1, .inl (cI, 11, .inl f)), (tm, .inl (cI, 11, .inl mk))] := hD
          rcases (show sz = 0 ∨ sz = 1 ∨ sz = 2 ∨ sz = 3 ∨ sz = 4 ∨ sz = 5 ∨ sz = 6 ∨ sz = 7 ∨ sz = 8 by omega) with rfl | rfl | rfl | rfl | rfl | rfl | rfl | rfl | rfl
          · skip
            refine lv_aload_n hx hb dX2_ways_107 rfl (lv_at hl 2 rfl) ?_
            refine va_get (D := D) (ci := 2) (v := .ref hw) (C := RX2) (T := TX2) (N := 1) hx hb hts in_X2_ways_X2 hown hK hP 0 rfl rfl 0 (by decide) (hts _ wd_X2_ways_0) (fun _ h9 => h9) rfl dX2_ways_108 ?_
            refine lv_iload_n hx hb dX2_ways_111 rfl (lv_at hl 1 rfl) ?_
            refine va_aldA hx hb hK hP 1 2 rfl rfl (show ¬ ((0 : Int32) < 0 ∨ 9 ≤ (0 : Int32).toNatClampNeg) by decide) (by exact hg.1) dX2_ways_112 ?_
            refine lv_bipush (v := 24) hx hb dX2_ways_113 (by decide) ?_
            refine lv_iload hx hb dX2_ways_115 (lv_at hl 0 rfl) ?_
            refine lv_iadd hx hb dX2_ways_117 ?_
            refine va_lald hx hb hK hP 2 1 rfl rfl (sum_in c14_3 c21_4) dX2_ways_118 ?_
            have hP9 := hP.sub (ws' := [(h0, .inr (2, [.ref hw])), (hw, .inl (cQ, 9, .inr (.inr (.inr (.inr gq))))), (r0, .inl (cJ, 49, .inr (.inl a0_14))), (r1, .inl (cJ, 49, .inr (.inl a1_15))), (r2, .inl (cJ, 49, .inr (.inl a2_16))), (r3, .inl (cJ, 49, .inr (.inl a3_17))), (r4, .inl (cJ, 49, .inr (.inl a4_18))), (r5, .inl (cJ, 49, .inr (.inl a5_19))), (r6, .inl (cJ, 49, .inr (.inl a6_20))), (r7, .inl (cJ, 49, .inr (.inl a7_21))), (r8, .inl (cJ, 49, .inr (.inl a8_22))), (c0, .inr (0, [.ref c1, .int tot])), (c1, .inl (cI, 11, .inl f)), (tm, .inl (cI, 11, .inl mk))]) [0, 1, 2, 3, 4, 5, 6, 7, 8, 9, 10, 11, 12, 13] rfl
            have hD9 := hD.sub (ws' := [(h0, .inr (2, [.ref hw])), (hw, .inl (cQ, 9, .inr (.inr (.inr (.inr gq))))), (r0, .inl (cJ, 49, .inr (.inl a0_14))), (r1, .inl (cJ, 49, .inr (.inl a1_15))), (r2, .inl (cJ, 49, .inr (.inl a2_16))), (r3, .inl (cJ, 49, .inr (.inl a3_17))), (r4, .inl (cJ, 49, .inr (.inl a4_18))), (r5, .inl (cJ, 49, .inr (.inl a5_19))), (r6, .inl (cJ, 49, .inr (.inl a6_20))), (r7, .inl (cJ, 49, .inr (.inl a7_21))), (r8, .inl (cJ, 49, .inr (.inl a8_22))), (c0, .inr (0, [.ref c1, .int tot])), (c1, .inl (cI, 11, .inl f)), (tm, .inl (cI, 11, .inl mk))]) [0, 1, 2, 3, 4, 5, 6, 7, 8, 9, 10, 11, 12, 13] (by decide) rfl
            exact W.lret (v := (a0_14 (24 + p3).toNatClampNeg)) hx hb hr (fun t ht hW => ⟨⟨(a0_14 (24 + p3).toNatClampNeg), ((a0_14), (a1_15), (a2_16), (a3_17), (a4_18), (a5_19), (a6_20), (a7_21), (a8_22)), rfl, trivial, by rw [ht]; exact hP9, va_K.moved hW.alike hK, hD9⟩, hS.F ht⟩) hS.2.2 dX2_ways_119
          · skip
            refine lv_aload_n hx hb dX2_ways_107 rfl (lv_at hl 2 rfl) ?_
            refine va_get (D := D) (ci := 2) (v := .ref hw) (C := RX2) (T := TX2) (N := 1) hx hb hts in_X2_ways_X2 hown hK hP 0 rfl rfl 0 (by decide) (hts _ wd_X2_ways_0) (fun _ h9 => h9) rfl dX2_ways_108 ?_
            refine lv_iload_n hx hb dX2_ways_111 rfl (lv_at hl 1 rfl) ?_
            refine va_aldA hx hb hK hP 1 2 rfl rfl (show ¬ ((1 : Int32) < 0 ∨ 9 ≤ (1 : Int32).toNatClampNeg) by decide) (by exact hg.2.1) dX2_ways_112 ?_
            refine lv_bipush (v := 24) hx hb dX2_ways_113 (by decide) ?_
            refine lv_iload hx hb dX2_ways_115 (lv_at hl 0 rfl) ?_
            refine lv_iadd hx hb dX2_ways_117 ?_
            refine va_lald hx hb hK hP 3 1 rfl rfl (sum_in c14_3 c21_4) dX2_ways_118 ?_
            have hP9 := hP.sub (ws' := [(h0, .inr (2, [.ref hw])), (hw, .inl (cQ, 9, .inr (.inr (.inr (.inr gq))))), (r0, .inl (cJ, 49, .inr (.inl a0_14))), (r1, .inl (cJ, 49, .inr (.inl a1_15))), (r2, .inl (cJ, 49, .inr (.inl a2_16))), (r3, .inl (cJ, 49, .inr (.inl a3_17))), (r4, .inl (cJ, 49, .inr (.inl a4_18))), (r5, .inl (cJ, 49, .inr (.inl a5_19))), (r6, .inl (cJ, 49, .inr (.inl a6_20))), (r7, .inl (cJ, 49, .inr (.inl a7_21))), (r8, .inl (cJ, 49, .inr (.inl a8_22))), (c0, .inr (0, [.ref c1, .int tot])), (c1, .inl (cI, 11, .inl f)), (tm, .inl (cI, 11, .inl mk))]) [0, 1, 2, 3, 4, 5, 6, 7, 8, 9, 10, 11, 12, 13] rfl
            have hD9 := hD.sub (ws' := [(h0, .inr (2, [.ref hw])), (hw, .inl (cQ, 9, .inr (.inr (.inr (.inr gq))))), (r0, .inl (cJ, 49, .inr (.inl a0_14))), (r1, .inl (cJ, 49, .inr (.inl a1_15))), (r2, .inl (cJ, 49, .inr (.inl a2_16))), (r3, .inl (cJ, 49, .inr (.inl a3_17))), (r4, .inl (cJ, 49, .inr (.inl a4_18))), (r5, .inl (cJ, 49, .inr (.inl a5_19))), (r6, .inl (cJ, 49, .inr (.inl a6_20))), (r7, .inl (cJ, 49, .inr (.inl a7_21))), (r8, .inl (cJ, 49, .inr (.inl a8_22))), (c0, .inr (0, [.ref c1, .int tot])), (c1, .inl (cI, 11, .inl f)), (tm, .inl (cI, 11, .inl mk))]) [0, 1, 2, 3, 4, 5, 6, 7, 8, 9, 10, 11, 12, 13] (by decide) rfl
            exact W.lret (v := (a1_15 (24 + p3).toNatClampNeg)) hx hb hr (fun t ht hW => ⟨⟨(a1_15 (24 + p3).toNatClampNeg), ((a0_14), (a1_15), (a2_16), (a3_17), (a4_18), (a5_19), (a6_20), (a7_21), (a8_22)), rfl, trivial, by rw [ht]; exact hP9, va_K.moved hW.alike hK, hD9⟩, hS.F ht⟩) hS.2.2 dX2_ways_119
          · skip
            refine lv_aload_n hx hb dX2_ways_107 rfl (lv_at hl 2 rfl) ?_
            refine va_get (D := D) (ci := 2) (v := .ref hw) (C := RX2) (T := TX2) (N := 1) hx hb hts in_X2_ways_X2 hown hK hP 0 rfl rfl 0 (by decide) (hts _ wd_X2_ways_0) (fun _ h9 => h9) rfl dX2_ways_108 ?_
            refine lv_iload_n hx hb dX2_ways_111 rfl (lv_at hl 1 rfl) ?_
            refine va_aldA hx hb hK hP 1 2 rfl rfl (show ¬ ((2 : Int32) < 0 ∨ 9 ≤ (2 : Int32).toNatClampNeg) by decide) (by exact hg.2.2.1) dX2_ways_112 ?_
            refine lv_bipush (v := 24) hx hb dX2_ways_113 (by decide) ?_
            refine lv_iload hx hb dX2_ways_115 (lv_at hl 0 rfl) ?_
            refine lv_iadd hx hb dX2_ways_117 ?_
            refine va_lald hx hb hK hP 4 1 rfl rfl (sum_in c14_3 c21_4) dX2_ways_118 ?_
            have hP9 := hP.sub (ws' := [(h0, .inr (2, [.ref hw])), (hw, .inl (cQ, 9, .inr (.inr (.inr (.inr gq))))), (r0, .inl (cJ, 49, .inr (.inl a0_14))), (r1, .inl (cJ, 49, .inr (.inl a1_15))), (r2, .inl (cJ, 49, .inr (.inl a2_16))), (r3, .inl (cJ, 49, .inr (.inl a3_17))), (r4, .inl (cJ, 49, .inr (.inl a4_18))), (r5, .inl (cJ, 49, .inr (.inl a5_19))), (r6, .inl (cJ, 49, .inr (.inl a6_20))), (r7, .inl (cJ, 49, .inr (.inl a7_21))), (r8, .inl (cJ, 49, .inr (.inl a8_22))), (c0, .inr (0, [.ref c1, .int tot])), (c1, .inl (cI, 11, .inl f)), (tm, .inl (cI, 11, .inl mk))]) [0, 1, 2, 3, 4, 5, 6, 7, 8, 9, 10, 11, 12, 13] rfl
            have hD9 := hD.sub (ws' := [(h0, .inr (2, [.ref hw])), (hw, .inl (cQ, 9, .inr (.inr (.inr (.inr gq))))), (r0, .inl (cJ, 49, .inr (.inl a0_14))), (r1, .inl (cJ, 49, .inr (.inl a1_15))), (r2, .inl (cJ, 49, .inr (.inl a2_16))), (r3, .inl (cJ, 49, .inr (.inl a3_17))), (r4, .inl (cJ, 49, .inr (.inl a4_18))), (r5, .inl (cJ, 49, .inr (.inl a5_19))), (r6, .inl (cJ, 49, .inr (.inl a6_20))), (r7, .inl (cJ, 49, .inr (.inl a7_21))), (r8, .inl (cJ, 49, .inr (.inl a8_22))), (c0, .inr (0, [.ref c1, .int tot])), (c1, .inl (cI, 11, .inl f)), (tm, .inl (cI, 11, .inl mk))]) [0, 1, 2, 3, 4, 5, 6, 7, 8, 9, 10, 11, 12, 13] (by decide) rfl
            exact W.lret (v := (a2_16 (24 + p3).toNatClampNeg)) hx hb hr (fun t ht hW => ⟨⟨(a2_16 (24 + p3).toNatClampNeg), ((a0_14), (a1_15), (a2_16), (a3_17), (a4_18), (a5_19), (a6_20), (a7_21), (a8_22)), rfl, trivial, by rw [ht]; exact hP9, va_K.moved hW.alike hK, hD9⟩, hS.F ht⟩) hS.2.2 dX2_ways_119
          · skip
            refine lv_aload_n hx hb dX2_ways_107 rfl (lv_at hl 2 rfl) ?_
            refine va_get (D := D) (ci := 2) (v := .ref hw) (C := RX2) (T := TX2) (N := 1) hx hb hts in_X2_ways_X2 hown hK hP 0 rfl rfl 0 (by decide) (hts _ wd_X2_ways_0) (fun _ h9 => h9) rfl dX2_ways_108 ?_
            refine lv_iload_n hx hb dX2_ways_111 rfl (lv_at hl 1 rfl) ?_
            refine va_aldA hx hb hK hP 1 2 rfl rfl (show ¬ ((3 : Int32) < 0 ∨ 9 ≤ (3 : Int32).toNatClampNeg) by decide) (by exact hg.2.2.2.1) dX2_ways_112 ?_
            refine lv_bipush (v := 24) hx hb dX2_ways_113 (by decide) ?_
            refine lv_iload hx hb dX2_ways_115 (lv_at hl 0 rfl) ?_
            refine lv_iadd hx hb dX2_ways_117 ?_
            refine va_lald hx hb hK hP 5 1 rfl rfl (sum_in c14_3 c21_4) dX2_ways_118 ?_
            have hP9 := hP.sub (ws' := [(h0, .inr (2, [.ref hw])), (hw, .inl (cQ, 9, .inr (.inr (.inr (.inr gq))))), (r0, .inl (cJ, 49, .inr (.inl a0_14))), (r1, .inl (cJ, 49, .inr (.inl a1_15))), (r2, .inl (cJ, 49, .inr (.inl a2_16))), (r3, .inl (cJ, 49, .inr (.inl a3_17))), (r4, .inl (cJ, 49, .inr (.inl a4_18))), (r5, .inl (cJ, 49, .inr (.inl a5_19))), (r6, .inl (cJ, 49, .inr (.inl a6_20))), (r7, .inl (cJ, 49, .inr (.inl a7_21))), (r8, .inl (cJ, 49, .inr (.inl a8_22))), (c0, .inr (0, [.ref c1, .int tot])), (c1, .inl (cI, 11, .inl f)), (tm, .inl (cI, 11, .inl mk))]) [0, 1, 2, 3, 4, 5, 6, 7, 8, 9, 10, 11, 12, 13] rfl
            have hD9 := hD.sub (ws' := [(h0, .inr (2, [.ref hw])), (hw, .inl (cQ, 9, .inr (.inr (.inr (.inr gq))))), (r0, .inl (cJ, 49, .inr (.inl a0_14))), (r1, .inl (cJ, 49, .inr (.inl a1_15))), (r2, .inl (cJ, 49, .inr (.inl a2_16))), (r3, .inl (cJ, 49, .inr (.inl a3_17))), (r4, .inl (cJ, 49, .inr (.inl a4_18))), (r5, .inl (cJ, 49, .inr (.inl a5_19))), (r6, .inl (cJ, 49, .inr (.inl a6_20))), (r7, .inl (cJ, 49, .inr (.inl a7_21))), (r8, .inl (cJ, 49, .inr (.inl a8_22))), (c0, .inr (0, [.ref c1, .int tot])), (c1, .inl (cI, 11, .inl f)), (tm, .inl (cI, 11, .inl mk))]) [0, 1, 2, 3, 4, 5, 6, 7, 8, 9, 10, 11, 12, 13] (by decide) rfl
            exact W.lret (v := (a3_17 (24 + p3).toNatClampNeg)) hx hb hr (fun t ht hW => ⟨⟨(a3_17 (24 + p3).toNatClampNeg), ((a0_14), (a1_15), (a2_16), (a3_17), (a4_18), (a5_19), (a6_20), (a7_21), (a8_22)), rfl, trivial, by rw [ht]; exact hP9, va_K.moved hW.alike hK, hD9⟩, hS.F ht⟩) hS.2.2 dX2_ways_119
          · skip
            refine lv_aload_n hx hb dX2_ways_107 rfl (lv_at hl 2 rfl) ?_
            refine va_get (D := D) (ci := 2) (v := .ref hw) (C := RX2) (T := TX2) (N := 1) hx hb hts in_X2_ways_X2 hown hK hP 0 rfl rfl 0 (by decide) (hts _ wd_X2_ways_0) (fun _ h9 => h9) rfl dX2_ways_108 ?_
            refine lv_iload_n hx hb dX2_ways_111 rfl (lv_at hl 1 rfl) ?_
            refine va_aldA hx hb hK hP 1 2 rfl rfl (show ¬ ((4 : Int32) < 0 ∨ 9 ≤ (4 : Int32).toNatClampNeg) by decide) (by exact hg.2.2.2.2.1) dX2_ways_112 ?_
            refine lv_bipush (v := 24) hx hb dX2_ways_113 (by decide) ?_
            refine lv_iload hx hb dX2_ways_115 (lv_at hl 0 rfl) ?_
            refine lv_iadd hx hb dX2_ways_117 ?_
            refine va_lald hx hb hK hP 6 1 rfl rfl (sum_in c14_3 c21_4) dX2_ways_118 ?_
            have hP9 := hP.sub (ws' := [(h0, .inr (2, [.ref hw])), (hw, .inl (cQ, 9, .inr (.inr (.inr (.inr gq))))), (r0, .inl (cJ, 49, .inr (.inl a0_14))), (r1, .inl (cJ, 49, .inr (.inl a1_15))), (r2, .inl (cJ, 49, .inr (.inl a2_16))), (r3, .inl (cJ, 49, .inr (.inl a3_17))), (r4, .inl (cJ, 49, .inr (.inl a4_18))), (r5, .inl (cJ, 49, .inr (.inl a5_19))), (r6, .inl (cJ, 49, .inr (.inl a6_20))), (r7, .inl (cJ, 49, .inr (.inl a7_21))), (r8, .inl (cJ, 49, .inr (.inl a8_22))), (c0, .inr (0, [.ref c1, .int tot])), (c1, .inl (cI, 11, .inl f)), (tm, .inl (cI, 11, .inl mk))]) [0, 1, 2, 3, 4, 5, 6, 7, 8, 9, 10, 11, 12, 13] rfl
            have hD9 := hD.sub (ws' := [(h0, .inr (2, [.ref hw])), (hw, .inl (cQ, 9, .inr (.inr (.inr (.inr gq))))), (r0, .inl (cJ, 49, .inr (.inl a0_14))), (r1, .inl (cJ, 49, .inr (.inl a1_15))), (r2, .inl (cJ, 49, .inr (.inl a2_16))), (r3, .inl (cJ, 49, .inr (.inl a3_17))), (r4, .inl (cJ, 49, .inr (.inl a4_18))), (r5, .inl (cJ, 49, .inr (.inl a5_19))), (r6, .inl (cJ, 49, .inr (.inl a6_20))), (r7, .inl (cJ, 49, .inr (.inl a7_21))), (r8, .inl (cJ, 49, .inr (.inl a8_22))), (c0, .inr (0, [.ref c1, .int tot])), (c1, .inl (cI, 11, .inl f)), (tm, .inl (cI, 11, .inl mk))]) [0, 1, 2, 3, 4, 5, 6, 7, 8, 9, 10, 11, 12, 13] (by decide) rfl
            exact W.lret (v := (a4_18 (24 + p3).toNatClampNeg)) hx hb hr (fun t ht hW => ⟨⟨(a4_18 (24 + p3).toNatClampNeg), ((a0_14), (a1_15), (a2_16), (a3_17), (a4_18), (a5_19), (a6_20), (a7_21), (a8_22)), rfl, trivial, by rw [ht]; exact hP9, va_K.moved hW.alike hK, hD9⟩, hS.F ht⟩) hS.2.2 dX2_ways_119
          · skip
            refine lv_aload_n hx hb dX2_ways_107 rfl (lv_at hl 2 rfl) ?_
            refine va_get (D := D) (ci := 2) (v := .ref hw) (C := RX2) (T := TX2) (N := 1) hx hb hts in_X2_ways_X2 hown hK hP 0 rfl rfl 0 (by decide) (hts _ wd_X2_ways_0) (fun _ h9 => h9) rfl dX2_ways_108 ?_
            refine lv_iload_n hx hb dX2_ways_111 rfl (lv_at hl 1 rfl) ?_
            refine va_aldA hx hb hK hP 1 2 rfl rfl (show ¬ ((5 : Int32) < 0 ∨ 9 ≤ (5 : Int32).toNatClampNeg) by decide) (by exact hg.2.2.2.2.2.1) dX2_ways_112 ?_
            refine lv_bipush (v := 24) hx hb dX2_ways_113 (by decide) ?_
            refine lv_iload hx hb dX2_ways_115 (lv_at hl 0 rfl) ?_
            refine lv_iadd hx hb dX2_ways_117 ?_
            refine va_lald hx hb hK hP 7 1 rfl rfl (sum_in c14_3 c21_4) dX2_ways_118 ?_
            have hP9 := hP.sub (ws' := [(h0, .inr (2, [.ref hw])), (hw, .inl (cQ, 9, .inr (.inr (.inr (.inr gq))))), (r0, .inl (cJ, 49, .inr (.inl a0_14))), (r1, .inl (cJ, 49, .inr (.inl a1_15))), (r2, .inl (cJ, 49, .inr (.inl a2_16))), (r3, .inl (cJ, 49, .inr (.inl a3_17))), (r4, .inl (cJ, 49, .inr (.inl a4_18))), (r5, .inl (cJ, 49, .inr (.inl a5_19))), (r6, .inl (cJ, 49, .inr (.inl a6_20))), (r7, .inl (cJ, 49, .inr (.inl a7_21))), (r8, .inl (cJ, 49, .inr (.inl a8_22))), (c0, .inr (0, [.ref c1, .int tot])), (c1, .inl (cI, 11, .inl f)), (tm, .inl (cI, 11, .inl mk))]) [0, 1, 2, 3, 4, 5, 6, 7, 8, 9, 10, 11, 12, 13] rfl
            have hD9 := hD.sub (ws' := [(h0, .inr (2, [.ref hw])), (hw, .inl (cQ, 9, .inr (.inr (.inr (.inr gq))))), (r0, .inl (cJ, 49, .inr (.inl a0_14))), (r1, .inl (cJ, 49, .inr (.inl a1_15))), (r2, .inl (cJ, 49, .inr (.inl a2_16))), (r3, .inl (cJ, 49, .inr (.inl a3_17))), (r4, .inl (cJ, 49, .inr (.inl a4_18))), (r5, .inl (cJ, 49, .inr (.inl a5_19))), (r6, .inl (cJ, 49, .inr (.inl a6_20))), (r7, .inl (cJ, 49, .inr (.inl a7_21))), (r8, .inl (cJ, 49, .inr (.inl a8_22))), (c0, .inr (0, [.ref c1, .int tot])), (c1, .inl (cI, 11, .inl f)), (tm, .inl (cI, 11, .inl mk))]) [0, 1, 2, 3, 4, 5, 6, 7, 8, 9, 10, 11, 12, 13] (by decide) rfl
            exact W.lret (v := (a5_19 (24 + p3).toNatClampNeg)) hx hb hr (fun t ht hW => ⟨⟨(a5_19 (24 + p3).toNatClampNeg), ((a0_14), (a1_15), (a2_16), (a3_17), (a4_18), (a5_19), (a6_20), (a7_21), (a8_22)), rfl, trivial, by rw [ht]; exact hP9, va_K.moved hW.alike hK, hD9⟩, hS.F ht⟩) hS.2.2 dX2_ways_119
          · skip
            refine lv_aload_n hx hb dX2_ways_107 rfl (lv_at hl 2 rfl) ?_
            refine va_get (D := D) (ci := 2) (v := .ref hw) (C := RX2) (T := TX2) (N := 1) hx hb hts in_X2_ways_X2 hown hK hP 0 rfl rfl 0 (by decide) (hts _ wd_X2_ways_0) (fun _ h9 => h9) rfl dX2_ways_108 ?_
            refine lv_iload_n hx hb dX2_ways_111 rfl (lv_at hl 1 rfl) ?_
            refine va_aldA hx hb hK hP 1 2 rfl rfl (show ¬ ((6 : Int32) < 0 ∨ 9 ≤ (6 : Int32).toNatClampNeg) by decide) (by exact hg.2.2.2.2.2.2.1) dX2_ways_112 ?_
            refine lv_bipush (v := 24) hx hb dX2_ways_113 (by decide) ?_
            refine lv_iload hx hb dX2_ways_115 (lv_at hl 0 rfl) ?_
            refine lv_iadd hx hb dX2_ways_117 ?_
            refine va_lald hx hb hK hP 8 1 rfl rfl (sum_in c14_3 c21_4) dX2_ways_118 ?_
            have hP9 := hP.sub (ws' := [(h0, .inr (2, [.ref hw])), (hw, .inl (cQ, 9, .inr (.inr (.inr (.inr gq))))), (r0, .inl (cJ, 49, .inr (.inl a0_14))), (r1, .inl (cJ, 49, .inr (.inl a1_15))), (r2, .inl (cJ, 49, .inr (.inl a2_16))), (r3, .inl (cJ, 49, .inr (.inl a3_17))), (r4, .inl (cJ, 49, .inr (.inl a4_18))), (r5, .inl (cJ, 49, .inr (.inl a5_19))), (r6, .inl (cJ, 49, .inr (.inl a6_20))), (r7, .inl (cJ, 49, .inr (.inl a7_21))), (r8, .inl (cJ, 49, .inr (.inl a8_22))), (c0, .inr (0, [.ref c1, .int tot])), (c1, .inl (cI, 11, .inl f)), (tm, .inl (cI, 11, .inl mk))]) [0, 1, 2, 3, 4, 5, 6, 7, 8, 9, 10, 11, 12, 13] rfl
            have hD9 := hD.sub (ws' := [(h0, .inr (2, [.ref hw])), (hw, .inl (cQ, 9, .inr (.inr (.inr (.inr gq))))), (r0, .inl (cJ, 49, .inr (.inl a0_14))), (r1, .inl (cJ, 49, .inr (.inl a1_15))), (r2, .inl (cJ, 49, .inr (.inl a2_16))), (r3, .inl (cJ, 49, .inr (.inl a3_17))), (r4, .inl (cJ, 49, .inr (.inl a4_18))), (r5, .inl (cJ, 49, .inr (.inl a5_19))), (r6, .inl (cJ, 49, .inr (.inl a6_20))), (r7, .inl (cJ, 49, .inr (.inl a7_21))), (r8, .inl (cJ, 49, .inr (.inl a8_22))), (c0, .inr (0, [.ref c1, .int tot])), (c1, .inl (cI, 11, .inl f)), (tm, .inl (cI, 11, .inl mk))]) [0, 1, 2, 3, 4, 5, 6, 7, 8, 9, 10, 11, 12, 13] (by decide) rfl
            exact W.lret (v := (a6_20 (24 + p3).toNatClampNeg)) hx hb hr (fun t ht hW => ⟨⟨(a6_20 (24 + p3).toNatClampNeg), ((a0_14), (a1_15), (a2_16), (a3_17), (a4_18), (a5_19), (a6_20), (a7_21), (a8_22)), rfl, trivial, by rw [ht]; exact hP9, va_K.moved hW.alike hK, hD9⟩, hS.F ht⟩) hS.2.2 dX2_ways_119
          · skip
            refine lv_aload_n hx hb dX2_ways_107 rfl (lv_at hl 2 rfl) ?_
            refine va_get (D := D) (ci := 2) (v := .ref hw) (C := RX2) (T := TX2) (N := 1) hx hb hts in_X2_ways_X2 hown hK hP 0 rfl rfl 0 (by decide) (hts _ wd_X2_ways_0) (fun _ h9 => h9) rfl dX2_ways_108 ?_
            refine lv_iload_n hx hb dX2_ways_111 rfl (lv_at hl 1 rfl) ?_
            refine va_aldA hx hb hK hP 1 2 rfl rfl (show ¬ ((7 : Int32) < 0 ∨ 9 ≤ (7 : Int32).toNatClampNeg) by decide) (by exact hg.2.2.2.2.2.2.2.1) dX2_ways_112 ?_
            refine lv_bipush (v := 24) hx hb dX2_ways_113 (by decide) ?_
            refine lv_iload hx hb dX2_ways_115 (lv_at hl 0 rfl) ?_
            refine lv_iadd hx hb dX2_ways_117 ?_
            refine va_lald hx hb hK hP 9 1 rfl rfl (sum_in c14_3 c21_4) dX2_ways_118 ?_
            have hP9 := hP.sub (ws' := [(h0, .inr (2, [.ref hw])), (hw, .inl (cQ, 9, .inr (.inr (.inr (.inr gq))))), (r0, .inl (cJ, 49, .inr (.inl a0_14))), (r1, .inl (cJ, 49, .inr (.inl a1_15))), (r2, .inl (cJ, 49, .inr (.inl a2_16))), (r3, .inl (cJ, 49, .inr (.inl a3_17))), (r4, .inl (cJ, 49, .inr (.inl a4_18))), (r5, .inl (cJ, 49, .inr (.inl a5_19))), (r6, .inl (cJ, 49, .inr (.inl a6_20))), (r7, .inl (cJ, 49, .inr (.inl a7_21))), (r8, .inl (cJ, 49, .inr (.inl a8_22))), (c0, .inr (0, [.ref c1, .int tot])), (c1, .inl (cI, 11, .inl f)), (tm, .inl (cI, 11, .inl mk))]) [0, 1, 2, 3, 4, 5, 6, 7, 8, 9, 10, 11, 12, 13] rfl
            have hD9 := hD.sub (ws' := [(h0, .inr (2, [.ref hw])), (hw, .inl (cQ, 9, .inr (.inr (.inr (.inr gq))))), (r0, .inl (cJ, 49, .inr (.inl a0_14))), (r1, .inl (cJ, 49, .inr (.inl a1_15))), (r2, .inl (cJ, 49, .inr (.inl a2_16))), (r3, .inl (cJ, 49, .inr (.inl a3_17))), (r4, .inl (cJ, 49, .inr (.inl a4_18))), (r5, .inl (cJ, 49, .inr (.inl a5_19))), (r6, .inl (cJ, 49, .inr (.inl a6_20))), (r7, .inl (cJ, 49, .inr (.inl a7_21))), (r8, .inl (cJ, 49, .inr (.inl a8_22))), (c0, .inr (0, [.ref c1, .int tot])), (c1, .inl (cI, 11, .inl f)), (tm, .inl (cI, 11, .inl mk))]) [0, 1, 2, 3, 4, 5, 6, 7, 8, 9, 10, 11, 12, 13] (by decide) rfl
            exact W.lret (v := (a7_21 (24 + p3).toNatClampNeg)) hx hb hr (fun t ht hW => ⟨⟨(a7_21 (24 + p3).toNatClampNeg), ((a0_14), (a1_15), (a2_16), (a3_17), (a4_18), (a5_19), (a6_20), (a7_21), (a8_22)), rfl, trivial, by rw [ht]; exact hP9, va_K.moved hW.alike hK, hD9⟩, hS.F ht⟩) hS.2.2 dX2_ways_119
          · skip
            refine lv_aload_n hx hb dX2_ways_107 rfl (lv_at hl 2 rfl) ?_
            refine va_get (D := D) (ci := 2) (v := .ref hw) (C := RX2) (T := TX2) (N := 1) hx hb hts in_X2_ways_X2 hown hK hP 0 rfl rfl 0 (by decide) (hts _ wd_X2_ways_0) (fun _ h9 => h9) rfl dX2_ways_108 ?_
            refine lv_iload_n hx hb dX2_ways_111 rfl (lv_at hl 1 rfl) ?_
            refine va_aldA hx hb hK hP 1 2 rfl rfl (show ¬ ((8 : Int32) < 0 ∨ 9 ≤ (8 : Int32).toNatClampNeg) by decide) (by exact hg.2.2.2.2.2.2.2.2) dX2_ways_112 ?_
            refine lv_bipush (v := 24) hx hb dX2_ways_113 (by decide) ?_
            refine lv_iload hx hb dX2_ways_115 (lv_at hl 0 rfl) ?_
            refine lv_iadd hx hb dX2_ways_117 ?_
            refine va_lald hx hb hK hP 10 1 rfl rfl (sum_in c14_3 c21_4) dX2_ways_118 ?_
            have hP9 := hP.sub (ws' := [(h0, .inr (2, [.ref hw])), (hw, .inl (cQ, 9, .inr (.inr (.inr (.inr gq))))), (r0, .inl (cJ, 49, .inr (.inl a0_14))), (r1, .inl (cJ, 49, .inr (.inl a1_15))), (r2, .inl (cJ, 49, .inr (.inl a2_16))), (r3, .inl (cJ, 49, .inr (.inl a3_17))), (r4, .inl (cJ, 49, .inr (.inl a4_18))), (r5, .inl (cJ, 49, .inr (.inl a5_19))), (r6, .inl (cJ, 49, .inr (.inl a6_20))), (r7, .inl (cJ, 49, .inr (.inl a7_21))), (r8, .inl (cJ, 49, .inr (.inl a8_22))), (c0, .inr (0, [.ref c1, .int tot])), (c1, .inl (cI, 11, .inl f)), (tm, .inl (cI, 11, .inl mk))]) [0, 1, 2, 3, 4, 5, 6, 7, 8, 9, 10, 11, 12, 13] rfl
            have hD9 := hD.sub (ws' := [(h0, .inr (2, [.ref hw])), (hw, .inl (cQ, 9, .inr (.inr (.inr (.inr gq))))), (r0, .inl (cJ, 49, .inr (.inl a0_14))), (r1, .inl (cJ, 49, .inr (.inl a1_15))), (r2, .inl (cJ, 49, .inr (.inl a2_16))), (r3, .inl (cJ, 49, .inr (.inl a3_17))), (r4, .inl (cJ, 49, .inr (.inl a4_18))), (r5, .inl (cJ, 49, .inr (.inl a5_19))), (r6, .inl (cJ, 49, .inr (.inl a6_20))), (r7, .inl (cJ, 49, .inr (.inl a7_21))), (r8, .inl (cJ, 49, .inr (.inl a8_22))), (c0, .inr (0, [.ref c1, .int tot])), (c1, .inl (cI, 11, .inl f)), (tm, .inl (cI, 11, .inl mk))]) [0, 1, 2, 3, 4, 5, 6, 7, 8, 9, 10, 11, 12, 13] (by decide) rfl
            exact W.lret (v := (a8_22 (24 + p3).toNatClampNeg)) hx hb hr (fun t ht hW => ⟨⟨(a8_22 (24 + p3).toNatClampNeg), ((a0_14), (a1_15), (a2_16), (a3_17), (a4_18), (a5_19), (a6_20), (a7_21), (a8_22)), rfl, trivial, by rw [ht]; exact hP9, va_K.moved hW.alike hK, hD9⟩, hS.F ht⟩) hS.2.2 dX2_ways_119
        · skip
          refine lv_lconst (v := 0) hx hb dX2_ways_24 (by decide) ?_
          have hP9 := hP.sub (ws' := [(h0, .inr (2, [.ref hw])), (hw, .inl (cQ, 9, .inr (.inr (.inr (.inr gq))))), (r0, .inl (cJ, 49, .inr (.inl a0))), (r1, .inl (cJ, 49, .inr (.inl a1))), (r2, .inl (cJ, 49, .inr (.inl a2))), (r3, .inl (cJ, 49, .inr (.inl a3))), (r4, .inl (cJ, 49, .inr (.inl a4))), (r5, .inl (cJ, 49, .inr (.inl a5))), (r6, .inl (cJ, 49, .inr (.inl a6))), (r7, .inl (cJ, 49, .inr (.inl a7))), (r8, .inl (cJ, 49, .inr (.inl a8))), (c0, .inr (0, [.ref c1, .int tot])), (c1, .inl (cI, 11, .inl f)), (tm, .inl (cI, 11, .inl mk))]) [0, 1, 2, 3, 4, 5, 6, 7, 8, 9, 10, 11, 12, 13] rfl
          have hD9 := hD.sub (ws' := [(h0, .inr (2, [.ref hw])), (hw, .inl (cQ, 9, .inr (.inr (.inr (.inr gq))))), (r0, .inl (cJ, 49, .inr (.inl a0))), (r1, .inl (cJ, 49, .inr (.inl a1))), (r2, .inl (cJ, 49, .inr (.inl a2))), (r3, .inl (cJ, 49, .inr (.inl a3))), (r4, .inl (cJ, 49, .inr (.inl a4))), (r5, .inl (cJ, 49, .inr (.inl a5))), (r6, .inl (cJ, 49, .inr (.inl a6))), (r7, .inl (cJ, 49, .inr (.inl a7))), (r8, .inl (cJ, 49, .inr (.inl a8))), (c0, .inr (0, [.ref c1, .int tot])), (c1, .inl (cI, 11, .inl f)), (tm, .inl (cI, 11, .inl mk))]) [0, 1, 2, 3, 4, 5, 6, 7, 8, 9, 10, 11, 12, 13] (by decide) rfl
          exact W.lret (v := 0) hx hb hr (fun t ht hW => ⟨⟨0, ((a0), (a1), (a2), (a3), (a4), (a5), (a6), (a7), (a8)), rfl, trivial, by rw [ht]; exact hP9, va_K.moved hW.alike hK, hD9⟩, hS.F ht⟩) hS.2.2 dX2_ways_25
