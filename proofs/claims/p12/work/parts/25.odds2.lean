set_option maxRecDepth 20000 in
theorem in_X3_numberHeaps_X3 : ∀ w ∈ wsX30, w ∈ wsX3_numberHeaps := by decide +kernel
set_option maxRecDepth 20000 in
theorem wd_X3_numberHeaps_0 : Cond.fieldLink RX3 50 "ShoeTable$Odds" "step" "[I" ∈ wsX3_numberHeaps := by decide +kernel
set_option maxRecDepth 20000 in
theorem wd_X3_numberHeaps_1 : Cond.fieldLink RX3 21 "ShoeTable$Odds" "shoe" "LShoeTable$Cards;" ∈ wsX3_numberHeaps := by decide +kernel
set_option maxHeartbeats 400000 in
set_option maxRecDepth 100000 in
theorem lpNum {p : Program} {l : Launch} {e : Env} {R : Room} {s : State} {m : MethodId} {args : Array Value} {below : List Frame} {meth : Method} {c : Code} {Q : State → Prop} {D : va_G} {cI cJ cQ : ClassId} {A : Nat → Prop} {cells slots : Nat} (hx : p.tables.exec = Jvm.exec) (hb : c.code = cX3_numberHeaps) (hml : c.maxLocals = 3) (hown : s.vm.findClass RX3 = some m.cls) (hts : ∀ w ∈ wsX3_numberHeaps, w.before args s = true) (hK : va_K D vwCl (gTy cI cJ cQ) s) (hA : ∀ q : Nat, s.heap.size ≤ q → A q) (h0 : Nat) (orr : Nat) (os : Nat) (ow : Nat) (oh : Nat) (oup : Int32) (obA : Int32) (obT : Int64) (pay : Nat) (stp : Nat) (hT : Nat) (hR : Nat) (hrd : Int32) (pT : Nat) (pR : Nat) (prd : Int32) (uc : Nat) (tot : Int32) (f : Nat → Int32) (hRf : 1 ≤ R.frames) (hRl : 21 ≤ R.locals) (hRc : cells ≤ R.cells) (hRs : slots ≤ R.slots)  : ∀ (n9 : Nat) (k : Nat) (hp : Int32) (sp : Nat → Int32) (H : Heap) (locs : List Loc) (ls : Array Slot), 11 - k < n9 → (1 ≤ k) → (k ≤ 11) → (hp = hpC f (k - 1)) → (∀ j, 1 ≤ j → j < k → sp j = hpC f (j - 1)) → va_P D vwCl [(h0, .inr (3, [.ref orr, .ref os, .ref ow, .ref oh, .int oup, .int obA, .long obT, .ref pay, .ref stp, .ref hT, .ref hR, .int hrd, .ref pT, .ref pR, .int prd])), (os, .inr (0, [.ref uc, .int tot])), (uc, .inl (cI, 11, .inl f)), (stp, .inl (cI, 11, .inl sp))] H → va_D A [(h0, .inr (3, [.ref orr, .ref os, .ref ow, .ref oh, .int oup, .int obA, .long obT, .ref pay, .ref stp, .ref hT, .ref hR, .int hrd, .ref pT, .ref pR, .int prd])), (os, .inr (0, [.ref uc, .int tot])), (uc, .inl (cI, 11, .inl f)), (stp, .inl (cI, 11, .inl sp))] → va_S A s.heap H locs → lv_has ls 3 [(2, .int (nI k)), (1, .int hp), (0, .ref h0)] → (∀ (sp : Nat → Int32) (H : Heap) (locs : List Loc) (ls : Array Slot), (∀ j, 1 ≤ j → j ≤ 10 → sp j = hpC f (j - 1)) → va_P D vwCl [(h0, .inr (3, [.ref orr, .ref os, .ref ow, .ref oh, .int oup, .int obA, .long obT, .ref pay, .ref stp, .ref hT, .ref hR, .int hrd, .ref pT, .ref pR, .int prd])), (os, .inr (0, [.ref uc, .int tot])), (uc, .inl (cI, 11, .inl f)), (stp, .inl (cI, 11, .inl sp))] H → va_D A [(h0, .inr (3, [.ref orr, .ref os, .ref ow, .ref oh, .int oup, .int obA, .long obT, .ref pay, .ref stp, .ref hT, .ref hR, .int hrd, .ref pT, .ref pR, .int prd])), (os, .inr (0, [.ref uc, .int tot])), (uc, .inl (cI, 11, .inl f)), (stp, .inl (cI, 11, .inl sp))] → va_S A s.heap H locs → lv_has ls 3 [(0, .ref h0)] → W p l e R s m args below meth c H locs cells slots Q (F0 m 36 ls [])) → W p l e R s m args below meth c H locs cells slots Q (F0 m 4 ls []) := by
  intro n9
  induction n9 with
  | zero => intro k hp sp H locs ls hms9; exact absurd hms9 (Nat.not_lt_zero _)
  | succ n9 ih =>
    intro k hp sp H locs ls hms9 k1 k2 hh hs hP hD hS hl kk0
    refine lv_iload_n hx hb dX3_numberHeaps_4 rfl (lv_at hl 0 rfl) ?_
    refine lv_bipush (v := 10) hx hb dX3_numberHeaps_5 (by decide) ?_
    refine lv_icmp_gt (tgt := 36) hx hb dX3_numberHeaps_7 (by decide) (fun c7_1 => ?_) (fun c7_1 => ?_)
    · skip
      have nc7_1 : 10 < k := (nI_ltI (a := 10) (b := k) (by omega) (by omega)).mp c7_1
      exact kk0 sp _ _ _ (fun j a b => hs j a (by omega)) hP hD hS (lv_sub hl [2] rfl)
    · skip
      have nc7_1 : ¬ (10 < k) := fun z9 => c7_1 ((nI_ltI (a := 10) (b := k) (by omega) (by omega)).mpr z9)
      refine lv_aload_n hx hb dX3_numberHeaps_10 rfl (lv_at hl 2 rfl) ?_
      refine va_get (D := D) (ci := 3) (v := .ref stp) (C := RX3) (T := TX3) (N := 15) hx hb hts in_X3_numberHeaps_X3 hown hK hP 0 rfl rfl 8 (by decide) (hts _ wd_X3_numberHeaps_0) (fun _ h9 => h9) rfl dX3_numberHeaps_11 ?_
      refine lv_iload_n hx hb dX3_numberHeaps_14 rfl (lv_at hl 0 rfl) ?_
      refine lv_iload_n hx hb dX3_numberHeaps_15 rfl (lv_at hl 1 rfl) ?_
      refine va_iast hx hb hK hP hD hS 3 0 rfl rfl (vp_in_nI (by omega) (by decide)) dX3_numberHeaps_16 (fun H locs hP hD hS => ?_)
      have e9 : (upd sp (nI k).toNatClampNeg hp) = upd sp k hp := by rw [nI_clamp (show k < 2 ^ 31 by omega)]
      have hP : va_P D vwCl [(h0, .inr (3, [.ref orr, .ref os, .ref ow, .ref oh, .int oup, .int obA, .long obT, .ref pay, .ref stp, .ref hT, .ref hR, .int hrd, .ref pT, .ref pR, .int prd])), (os, .inr (0, [.ref uc, .int tot])), (uc, .inl (cI, 11, .inl f)), (stp, .inl (cI, 11, .inl (upd sp k hp)))] H := by rw [← e9]; exact hP
      have hD : va_D A [(h0, .inr (3, [.ref orr, .ref os, .ref ow, .ref oh, .int oup, .int obA, .long obT, .ref pay, .ref stp, .ref hT, .ref hR, .int hrd, .ref pT, .ref pR, .int prd])), (os, .inr (0, [.ref uc, .int tot])), (uc, .inl (cI, 11, .inl f)), (stp, .inl (cI, 11, .inl (upd sp k hp)))] := by rw [← e9]; exact hD
      clear e9
      refine lv_iload_n hx hb dX3_numberHeaps_17 rfl (lv_at hl 1 rfl) ?_
      refine lv_aload_n hx hb dX3_numberHeaps_18 rfl (lv_at hl 2 rfl) ?_
      refine va_get (D := D) (ci := 3) (v := .ref os) (C := RX3) (T := TX3) (N := 15) hx hb hts in_X3_numberHeaps_X3 hown hK hP 0 rfl rfl 1 (by decide) (hts _ wd_X3_numberHeaps_1) (fun _ h9 => h9) rfl dX3_numberHeaps_19 ?_
      refine lv_iload_n hx hb dX3_numberHeaps_22 rfl (lv_at hl 0 rfl) ?_
      have hPc := hP.sub (ws' := [(os, .inr (0, [.ref uc, .int tot])), (uc, .inl (cI, 11, .inl f))]) [1, 2] rfl
      refine vp_callSi (W.runV (As := [.int (nI k)]) (rest := [.int hp]) ⟨hx, hb, hml, hown, hts⟩ (c_X0_countV l D cI cJ cQ os uc tot (f) (nI k) (rkB_k k1 (by omega))) (cwV 1 hts gX3_numberHeaps_X0_count rfl rfl rfl (by decide +kernel) ⟨Nat.le_trans (show 0 + 1 ≤ 1 by omega) hRf, Nat.le_trans (show 8 + (2 + 11) + (0) ≤ 21 by omega) hRl⟩) (rP_preV (ci := 0) (q0 := 0) hPc hK rfl rfl) rfl rfl hl.1 rfl (lv_room (Nat.le_of_ble_eq_true rfl)) dX3_numberHeaps_23 ⟨hRc, hRs⟩) (fun r_2 hr_2 => ?_)
      subst hr_2
      refine lv_iconst (v := 1) hx hb dX3_numberHeaps_26 (by decide) ?_
      refine lv_iadd hx hb dX3_numberHeaps_27 ?_
      refine lv_imul hx hb dX3_numberHeaps_28 ?_
      refine lv_istore_n (lv' := [(1, .int (hp * (((f) (nI k).toNatClampNeg) + 1))), (2, .int (nI k)), (0, .ref h0)]) hx hb dX3_numberHeaps_29 rfl hl (by decide) rfl (fun ls hl => ?_)
      refine lv_iinc (v := (nI (k + 1))) (lv' := [(2, .int (nI (k + 1))), (1, .int (hp * (((f) (nI k).toNatClampNeg) + 1))), (0, .ref h0)]) hx hb dX3_numberHeaps_30 hl (k := 1) rfl (nI_incT (by decide)) (by decide) rfl (fun ls hl => ?_)
      refine lv_goto (tgt := 4) hx hb dX3_numberHeaps_33 (by decide) ?_
      exact ih (k + 1) (hp * (((f) (nI k).toNatClampNeg) + 1)) (upd sp k hp) _ _ _ (by omega) (by omega) (by omega) (by rw [nI_clamp (by omega), hh]; obtain ⟨i, rfl⟩ : ∃ i, k = i + 1 := ⟨k - 1, by omega⟩; rfl) (fun j a b => by unfold upd; by_cases z : j = k; rw [if_pos z, z, hh]; rw [if_neg z]; exact hs j a (by omega)) hP hD hS (lv_sub hl [0, 1, 2] rfl) kk0

set_option maxHeartbeats 400000 in
set_option maxRecDepth 100000 in
/-- X3_numberHeaps -/
theorem c_X3_numberHeaps (l : Launch) (D : va_G) (cI cJ cQ : ClassId) (sz : Nat) (h0 : Nat) (orr : Nat) (os : Nat) (ow : Nat) (oh : Nat) (oup : Int32) (obA : Int32) (obT : Int64) (pay : Nat) (stp : Nat) (hT : Nat) (hR : Nat) (hrd : Int32) (pT : Nat) (pR : Nat) (prd : Int32) (uc : Nat) (tot : Int32) (f : Nat → Int32) (sp : Nat → Int32)  : Met l yX3_numberHeaps wsX3_numberHeaps ({ frames := 1, cells := 0, slots := 0, locals := 21 }) (va_Pc [.ref h0] (mP D (gTy cI cJ cQ) [(h0, .inr (3, [.ref orr, .ref os, .ref ow, .ref oh, .int oup, .int obA, .long obT, .ref pay, .ref stp, .ref hT, .ref hR, .int hrd, .ref pT, .ref pR, .int prd])), (os, .inr (0, [.ref uc, .int tot])), (uc, .inl (cI, 11, .inl f)), (stp, .inl (cI, 11, .inl sp))] sz)) (va_Qv (fun (u : (Nat → Int32)) => match u with | sp2 => ∀ j, 1 ≤ j → j ≤ 10 → sp2 j = hpC f (j - 1)) (fun (u : (Nat → Int32)) t => match u with | sp2 => mB D (gTy cI cJ cQ) (va_A [(h0, .inr (3, [.ref orr, .ref os, .ref ow, .ref oh, .int oup, .int obA, .long obT, .ref pay, .ref stp, .ref hT, .ref hR, .int hrd, .ref pT, .ref pR, .int prd])), (os, .inr (0, [.ref uc, .int tot])), (uc, .inl (cI, 11, .inl f)), (stp, .inl (cI, 11, .inl sp))] sz) [(h0, .inr (3, [.ref orr, .ref os, .ref ow, .ref oh, .int oup, .int obA, .long obT, .ref pay, .ref stp, .ref hT, .ref hR, .int hrd, .ref pT, .ref pR, .int prd])), (os, .inr (0, [.ref uc, .int tot])), (uc, .inl (cI, 11, .inl f)), (stp, .inl (cI, 11, .inl sp2))] t) (va_A [(h0, .inr (3, [.ref orr, .ref os, .ref ow, .ref oh, .int oup, .int obA, .long obT, .ref pay, .ref stp, .ref hT, .ref hR, .int hrd, .ref pT, .ref pR, .int prd])), (os, .inr (0, [.ref uc, .int tot])), (uc, .inl (cI, 11, .inl f)), (stp, .inl (cI, 11, .inl sp))] sz)) 0 0 (va_A [(h0, .inr (3, [.ref orr, .ref os, .ref ow, .ref oh, .int oup, .int obA, .long obT, .ref pay, .ref stp, .ref hT, .ref hR, .int hrd, .ref pT, .ref pR, .int prd])), (os, .inr (0, [.ref uc, .int tot])), (uc, .inl (cI, 11, .inl f)), (stp, .inl (cI, 11, .inl sp))] sz) := by
  refine Met.ofW (cc := cX3_numberHeaps) (maxL := 3) (ret := none) (by decide) rfl ?_
  intro p e s m args below meth c s₁ B hml hv
  obtain ⟨rfl, hsz, hP, hK, hD0⟩ := hv
  have hx := B.exec
  have hb := B.bytes
  have hr := B.returns
  have hts := atoms_spec (ws := wsX3_numberHeaps) B.pre
  have hown : s.vm.findClass RX3 = some m.cls := findClass_of_methodNamed B.named
  have hlocks := B.notSynchronized
  subst hsz
  have hD := hD0.self (sz := s.heap.size)
  generalize hAe : va_A [(h0, .inr (3, [.ref orr, .ref os, .ref ow, .ref oh, .int oup, .int obA, .long obT, .ref pay, .ref stp, .ref hT, .ref hR, .int hrd, .ref pT, .ref pR, .int prd])), (os, .inr (0, [.ref uc, .int tot])), (uc, .inl (cI, 11, .inl f)), (stp, .inl (cI, 11, .inl sp))] s.heap.size = A at hD ⊢
  have hA : ∀ q : Nat, s.heap.size ≤ q → A q := fun q h => by rw [← hAe]; exact Or.inr h
  have hS : va_S A s.heap s.heap [] := va_S.rf
  have hP : va_P D vwCl [(h0, .inr (3, [.ref orr, .ref os, .ref ow, .ref oh, .int oup, .int obA, .long obT, .ref pay, .ref stp, .ref hT, .ref hR, .int hrd, .ref pT, .ref pR, .int prd])), (os, .inr (0, [.ref uc, .int tot])), (uc, .inl (cI, 11, .inl f)), (stp, .inl (cI, 11, .inl sp))] s.heap := hP
  have hl := lv_entry ([.ref h0]) (n := 3) (Nat.le_of_ble_eq_true rfl)
  rw [lg_entry_eq]
  generalize (lg_sl ([.ref h0]) ++ List.replicate (3 - (lg_sl ([.ref h0])).length) Slot.unset).toArray = ls at hl ⊢
  have hl : lv_has ls 3 [(0, .ref h0)] := hl
  refine lv_iconst (v := 1) hx hb dX3_numberHeaps_0 (by decide) ?_
  refine lv_istore_n (lv' := [(1, .int 1), (0, .ref h0)]) hx hb dX3_numberHeaps_1 rfl hl (by decide) rfl (fun ls hl => ?_)
  refine lv_iconst (v := 1) hx hb dX3_numberHeaps_2 (by decide) ?_
  refine lv_istore_n (lv' := [(2, .int 1), (1, .int 1), (0, .ref h0)]) hx hb dX3_numberHeaps_3 rfl hl (by decide) rfl (fun ls hl => ?_)
  refine lpNum hx hb hml hown hts hK hA h0 orr os ow oh oup obA obT pay stp hT hR hrd pT pR prd uc tot f (Nat.le_of_ble_eq_true rfl) (Nat.le_of_ble_eq_true rfl) (Nat.zero_le _) (Nat.zero_le _)  (11 - 1 + 1) 1 (1 : Int32) sp _ _ _ (Nat.lt_succ_self _) (by omega) (by omega) rfl (fun j a b => absurd b (by omega)) hP hD hS (lv_sub hl [0, 1, 2] rfl) (fun sp_1 H locs ls hs_2 hP hD hS hl => ?_)
  have hP : va_P D vwCl [(h0, .inr (3, [.ref orr, .ref os, .ref ow, .ref oh, .int oup, .int obA, .long obT, .ref pay, .ref stp, .ref hT, .ref hR, .int hrd, .ref pT, .ref pR, .int prd])), (os, .inr (0, [.ref uc, .int tot])), (uc, .inl (cI, 11, .inl f)), (stp, .inl (cI, 11, .inl sp_1))] H := hP
  have hD : va_D A [(h0, .inr (3, [.ref orr, .ref os, .ref ow, .ref oh, .int oup, .int obA, .long obT, .ref pay, .ref stp, .ref hT, .ref hR, .int hrd, .ref pT, .ref pR, .int prd])), (os, .inr (0, [.ref uc, .int tot])), (uc, .inl (cI, 11, .inl f)), (stp, .inl (cI, 11, .inl sp_1))] := hD
  have hP9 := hP.sub (ws' := [(h0, .inr (3, [.ref orr, .ref os, .ref ow, .ref oh, .int oup, .int obA, .long obT, .ref pay, .ref stp, .ref hT, .ref hR, .int hrd, .ref pT, .ref pR, .int prd])), (os, .inr (0, [.ref uc, .int tot])), (uc, .inl (cI, 11, .inl f)), (stp, .inl (cI, 11, .inl sp_1))]) [0, 1, 2, 3] rfl
  have hD9 := hD.sub (ws' := [(h0, .inr (3, [.ref orr, .ref os, .ref ow, .ref oh, .int oup, .int obA, .long obT, .ref pay, .ref stp, .ref hT, .ref hR, .int hrd, .ref pT, .ref pR, .int prd])), (os, .inr (0, [.ref uc, .int tot])), (uc, .inl (cI, 11, .inl f)), (stp, .inl (cI, 11, .inl sp_1))]) [0, 1, 2, 3] (by decide) rfl
  exact W.vret hx hb hr (fun t ht hW => ⟨⟨(sp_1), rfl, hs_2, by rw [ht]; exact hP9, va_K.moved hW.alike hK, hD9⟩, hS.F ht⟩) hS.2.2 dX3_numberHeaps_36

set_option maxRecDepth 20000 in
theorem in_X3_houseTotal_X3 : ∀ w ∈ wsX30, w ∈ wsX3_houseTotal := by decide +kernel
set_option maxRecDepth 20000 in
theorem wd_X3_houseTotal_0 : Cond.fieldLink RX3 21 "ShoeTable$Odds" "shoe" "LShoeTable$Cards;" ∈ wsX3_houseTotal := by decide +kernel
set_option maxRecDepth 20000 in
theorem wd_X3_houseTotal_1 : Cond.fieldLink RX3 50 "ShoeTable$Odds" "step" "[I" ∈ wsX3_houseTotal := by decide +kernel
set_option maxHeartbeats 400000 in
set_option maxRecDepth 100000 in
theorem lpHouse {p : Program} {l : Launch} {e : Env} {R : Room} {s : State} {m : MethodId} {args : Array Value} {below : List Frame} {meth : Method} {c : Code} {Q : State → Prop} {D : va_G} {cI cJ cQ : ClassId} {A : Nat → Prop} {cells slots : Nat} (hx : p.tables.exec = Jvm.exec) (hb : c.code = cX3_houseTotal) (hml : c.maxLocals = 10) (hown : s.vm.findClass RX3 = some m.cls) (hts : ∀ w ∈ wsX3_houseTotal, w.before args s = true) (hK : va_K D vwCl (gTy cI cJ cQ) s) (hA : ∀ q : Nat, s.heap.size ≤ q → A q) (d : Nat) (h0 : Nat) (orr : Nat) (os : Nat) (ow : Nat) (oh : Nat) (oup : Int32) (obA : Int32) (obT : Int64) (pay : Nat) (stp : Nat) (hT : Nat) (hR : Nat) (hrd : Int32) (pT : Nat) (pR : Nat) (prd : Int32) (ur : Nat) (w : Nat → Int32) (uc : Nat) (tot : Int32) (f : Nat → Int32) (py : Nat → Int64) (sp : Nat → Int32) (p0 : Int32) (p1 : Int32) (p2 : Bool) (p3 : Int32) (tO : Nat) (hRf : 1 + d ≤ R.frames) (hRl : 60 + d * 29 ≤ R.locals) (hRc : cells ≤ R.cells) (hRs : slots ≤ R.slots) (hZ : stO tO A s s.heap) (IH : ∀ e9 : Nat, e9 < d → ∀ (sz : Nat), ∀ (h0 : Nat), ∀ (orr : Nat), ∀ (os : Nat), ∀ (ow : Nat), ∀ (oh : Nat), ∀ (oup : Int32), ∀ (obA : Int32), ∀ (obT : Int64), ∀ (pay : Nat), ∀ (stp : Nat), ∀ (hT : Nat), ∀ (hR : Nat), ∀ (hrd : Int32), ∀ (pT : Nat), ∀ (pR : Nat), ∀ (prd : Int32), ∀ (ur : Nat), ∀ (w : Nat → Int32), ∀ (uc : Nat), ∀ (tot : Int32), ∀ (f : Nat → Int32), ∀ (py : Nat → Int64), ∀ (sp : Nat → Int32), ∀ (hta : Nat → Int64), ∀ (hra : Nat → Int32), ∀ (p0 : Int32), ∀ (p1 : Int32), ∀ (p2 : Bool), ∀ (p3 : Int32), ∀ (tO : Nat), ((w 0).toInt ≤ 21) → (p1.toInt ≤ 1000) → (p1.toInt + 10 * p3.toInt ≤ 1000) → (p3.toInt ≤ (e9 : Int)) → Met l yX3_houseTotal wsX3_houseTotal ({ frames := 1 + e9, cells := 0, slots := 0, locals := 60 + e9 * 29 }) (va_Pc [.ref h0, .int p0, .int p1, .int (bI p2), .int p3] (mPo D (gTy cI cJ cQ) [(h0, .inr (3, [.ref orr, .ref os, .ref ow, .ref oh, .int oup, .int obA, .long obT, .ref pay, .ref stp, .ref hT, .ref hR, .int hrd, .ref pT, .ref pR, .int prd])), (orr, .inr (4, [.ref ur])), (ur, .inl (cI, 7, .inl w)), (os, .inr (0, [.ref uc, .int tot])), (uc, .inl (cI, 11, .inl f)), (pay, .inl (cJ, 22, .inr (.inl py))), (stp, .inl (cI, 11, .inl sp)), (hT, .inl (cJ, 2304, .inr (.inl hta))), (hR, .inl (cI, 2304, .inl hra))] sz tO)) (va_Ql (fun (r : Int64) (u : (Nat → Int64) × (Nat → Int32)) => match u with | (ht2, hr2) => True) (fun (u : (Nat → Int64) × (Nat → Int32)) t => match u with | (ht2, hr2) => mB D (gTy cI cJ cQ) (va_A [(h0, .inr (3, [.ref orr, .ref os, .ref ow, .ref oh, .int oup, .int obA, .long obT, .ref pay, .ref stp, .ref hT, .ref hR, .int hrd, .ref pT, .ref pR, .int prd])), (orr, .inr (4, [.ref ur])), (ur, .inl (cI, 7, .inl w)), (os, .inr (0, [.ref uc, .int tot])), (uc, .inl (cI, 11, .inl f)), (pay, .inl (cJ, 22, .inr (.inl py))), (stp, .inl (cI, 11, .inl sp)), (hT, .inl (cJ, 2304, .inr (.inl hta))), (hR, .inl (cI, 2304, .inl hra))] sz) [(h0, .inr (3, [.ref orr, .ref os, .ref ow, .ref oh, .int oup, .int obA, .long obT, .ref pay, .ref stp, .ref hT, .ref hR, .int hrd, .ref pT, .ref pR, .int prd])), (orr, .inr (4, [.ref ur])), (ur, .inl (cI, 7, .inl w)), (os, .inr (0, [.ref uc, .int tot])), (uc, .inl (cI, 11, .inl f)), (pay, .inl (cJ, 22, .inr (.inl py))), (stp, .inl (cI, 11, .inl sp)), (hT, .inl (cJ, 2304, .inr (.inl ht2))), (hR, .inl (cI, 2304, .inl hr2))] t) (va_A [(h0, .inr (3, [.ref orr, .ref os, .ref ow, .ref oh, .int oup, .int obA, .long obT, .ref pay, .ref stp, .ref hT, .ref hR, .int hrd, .ref pT, .ref pR, .int prd])), (orr, .inr (4, [.ref ur])), (ur, .inl (cI, 7, .inl w)), (os, .inr (0, [.ref uc, .int tot])), (uc, .inl (cI, 11, .inl f)), (pay, .inl (cJ, 22, .inr (.inl py))), (stp, .inl (cI, 11, .inl sp)), (hT, .inl (cJ, 2304, .inr (.inl hta))), (hR, .inl (cI, 2304, .inl hra))] sz)) 0 0 (va_A [(h0, .inr (3, [.ref orr, .ref os, .ref ow, .ref oh, .int oup, .int obA, .long obT, .ref pay, .ref stp, .ref hT, .ref hR, .int hrd, .ref pT, .ref pR, .int prd])), (orr, .inr (4, [.ref ur])), (ur, .inl (cI, 7, .inl w)), (os, .inr (0, [.ref uc, .int tot])), (uc, .inl (cI, 11, .inl f)), (pay, .inl (cJ, 22, .inr (.inl py))), (stp, .inl (cI, 11, .inl sp)), (hT, .inl (cJ, 2304, .inr (.inl hta))), (hR, .inl (cI, 2304, .inl hra))] sz)) (hw : (w 0).toInt ≤ 21) (hs0 : p1.toInt ≤ 1000) (hs : p1.toInt + 10 * p3.toInt ≤ 1000) (hd : p3.toInt ≤ (d : Int)) (g1 : 0 ≤ p1.toInt) (g3 : 0 < p3.toInt) : ∀ (n9 : Nat) (k : Nat) (al : Int64) (hta : Nat → Int64) (hra : Nat → Int32) (H : Heap) (locs : List Loc) (ls : Array Slot), 11 - k < n9 → (1 ≤ k) → (k ≤ 11) → va_P D vwCl [(h0, .inr (3, [.ref orr, .ref os, .ref ow, .ref oh, .int oup, .int obA, .long obT, .ref pay, .ref stp, .ref hT, .ref hR, .int hrd, .ref pT, .ref pR, .int prd])), (orr, .inr (4, [.ref ur])), (ur, .inl (cI, 7, .inl w)), (os, .inr (0, [.ref uc, .int tot])), (uc, .inl (cI, 11, .inl f)), (pay, .inl (cJ, 22, .inr (.inl py))), (stp, .inl (cI, 11, .inl sp)), (hT, .inl (cJ, 2304, .inr (.inl hta))), (hR, .inl (cI, 2304, .inl hra))] H → va_D A [(h0, .inr (3, [.ref orr, .ref os, .ref ow, .ref oh, .int oup, .int obA, .long obT, .ref pay, .ref stp, .ref hT, .ref hR, .int hrd, .ref pT, .ref pR, .int prd])), (orr, .inr (4, [.ref ur])), (ur, .inl (cI, 7, .inl w)), (os, .inr (0, [.ref uc, .int tot])), (uc, .inl (cI, 11, .inl f)), (pay, .inl (cJ, 22, .inr (.inl py))), (stp, .inl (cI, 11, .inl sp)), (hT, .inl (cJ, 2304, .inr (.inl hta))), (hR, .inl (cI, 2304, .inl hra))] → va_S A s.heap H locs → lv_has ls 10 [(8, .int (nI k)), (6, .long al), (5, .int (vlC w p1 p2)), (4, .int p3), (3, .int (bI p2)), (2, .int p1), (1, .int p0), (0, .ref h0)] → (∀ (al : Int64) (hta : Nat → Int64) (hra : Nat → Int32) (H : Heap) (locs : List Loc) (ls : Array Slot), va_P D vwCl [(h0, .inr (3, [.ref orr, .ref os, .ref ow, .ref oh, .int oup, .int obA, .long obT, .ref pay, .ref stp, .ref hT, .ref hR, .int hrd, .ref pT, .ref pR, .int prd])), (orr, .inr (4, [.ref ur])), (ur, .inl (cI, 7, .inl w)), (os, .inr (0, [.ref uc, .int tot])), (uc, .inl (cI, 11, .inl f)), (pay, .inl (cJ, 22, .inr (.inl py))), (stp, .inl (cI, 11, .inl sp)), (hT, .inl (cJ, 2304, .inr (.inl hta))), (hR, .inl (cI, 2304, .inl hra))] H → va_D A [(h0, .inr (3, [.ref orr, .ref os, .ref ow, .ref oh, .int oup, .int obA, .long obT, .ref pay, .ref stp, .ref hT, .ref hR, .int hrd, .ref pT, .ref pR, .int prd])), (orr, .inr (4, [.ref ur])), (ur, .inl (cI, 7, .inl w)), (os, .inr (0, [.ref uc, .int tot])), (uc, .inl (cI, 11, .inl f)), (pay, .inl (cJ, 22, .inr (.inl py))), (stp, .inl (cI, 11, .inl sp)), (hT, .inl (cJ, 2304, .inr (.inl hta))), (hR, .inl (cI, 2304, .inl hra))] → va_S A s.heap H locs → lv_has ls 10 [(6, .long al), (1, .int p0), (0, .ref h0)] → W p l e R s m args below meth c H locs cells slots Q (F0 m 186 ls [])) → W p l e R s m args below meth c H locs cells slots Q (F0 m 103 ls []) := by
  intro n9
  induction n9 with
  | zero => intro k al hta hra H locs ls hms9; exact absurd hms9 (Nat.not_lt_zero _)
  | succ n9 ih =>
    intro k al hta hra H locs ls hms9 k1 k2 hP hD hS hl kk0
    refine lv_iload hx hb dX3_houseTotal_103 (lv_at hl 0 rfl) ?_
    refine lv_bipush (v := 10) hx hb dX3_houseTotal_105 (by decide) ?_
    refine lv_icmp_gt (tgt := 186) hx hb dX3_houseTotal_107 (by decide) (fun c107_1 => ?_) (fun c107_1 => ?_)
    · skip
      have nc107_1 : 10 < k := (nI_ltI (a := 10) (b := k) (by omega) (by omega)).mp c107_1
      exact kk0 al hta hra _ _ _ hP hD hS (lv_sub hl [1, 6, 7] rfl)
    · skip
      have nc107_1 : ¬ (10 < k) := fun z9 => c107_1 ((nI_ltI (a := 10) (b := k) (by omega) (by omega)).mpr z9)
      refine lv_aload_n hx hb dX3_houseTotal_110 rfl (lv_at hl 7 rfl) ?_
      refine va_get (D := D) (ci := 3) (v := .ref os) (C := RX3) (T := TX3) (N := 15) hx hb hts in_X3_houseTotal_X3 hown hK hP 0 rfl rfl 1 (by decide) (hts _ wd_X3_houseTotal_0) (fun _ h9 => h9) rfl dX3_houseTotal_111 ?_
      refine lv_iload hx hb dX3_houseTotal_114 (lv_at hl 0 rfl) ?_
      have hPc := hP.sub (ws' := [(os, .inr (0, [.ref uc, .int tot])), (uc, .inl (cI, 11, .inl f))]) [3, 4] rfl
      have hDc := hD.sub (ws' := [(os, .inr (0, [.ref uc, .int tot])), (uc, .inl (cI, 11, .inl f))]) [3, 4] (by decide) rfl
      have hFc := va_free (wc := [(os, .inr (0, [.ref uc, .int tot])), (uc, .inl (cI, 11, .inl f))]) hD hS hA [3, 4] rfl
      refine va_calli (va_runV (As := [.int (nI k)]) (rest := []) ⟨hx, hb, hml, hown, hts⟩ (c_X0_remove l D cI cJ cQ _ os uc tot (f) (nI k)) (cwV 1 hts gX3_houseTotal_X0_remove rfl rfl rfl (by decide +kernel) ⟨Nat.le_trans (show 0 + 1 ≤ 1 + d by omega) hRf, Nat.le_trans (show 8 + (3 + 11) + (0) ≤ 60 + d * 29 by omega) hRl⟩) (mP_preV (ci := 0) (q0 := 0) hPc hK hDc rfl rfl) rfl rfl hl.1 rfl (lv_room (Nat.le_of_ble_eq_true rfl)) dX3_houseTotal_116 ⟨hRc, hRs⟩) hS (fun q _ h => hFc q h) hFc (fun r_2 u_r_2 t H1 locs ht hvm hr_2 hB hz1 hk1 hS => ?_)
      obtain ⟨tot2_3, f2_4⟩ := u_r_2
      obtain ⟨hP1, hK1, hD1⟩ := hB
      rw [ht] at hP1
      try dsimp only at hr_2
      obtain ⟨hP, hD⟩ := va_join (wr := [(h0, .inr (3, [.ref orr, .ref os, .ref ow, .ref oh, .int oup, .int obA, .long obT, .ref pay, .ref stp, .ref hT, .ref hR, .int hrd, .ref pT, .ref pR, .int prd])), (orr, .inr (4, [.ref ur])), (ur, .inl (cI, 7, .inl w)), (pay, .inl (cJ, 22, .inr (.inl py))), (stp, .inl (cI, 11, .inl sp)), (hT, .inl (cJ, 2304, .inr (.inl hta))), (hR, .inl (cI, 2304, .inl hra))]) (w1 := [(os, .inr (0, [.ref uc, .int tot2_3])), (uc, .inl (cI, 11, .inl f2_4))]) hP hD [3, 4] [0, 1, 2, 5, 6, 7, 8] rfl rfl (by decide) (by decide) hk1 hFc hP1 hD1
      generalize H1 = H at hP hS ⊢
      have hP : va_P D vwCl [(h0, .inr (3, [.ref orr, .ref os, .ref ow, .ref oh, .int oup, .int obA, .long obT, .ref pay, .ref stp, .ref hT, .ref hR, .int hrd, .ref pT, .ref pR, .int prd])), (orr, .inr (4, [.ref ur])), (ur, .inl (cI, 7, .inl w)), (pay, .inl (cJ, 22, .inr (.inl py))), (stp, .inl (cI, 11, .inl sp)), (hT, .inl (cJ, 2304, .inr (.inl hta))), (hR, .inl (cI, 2304, .inl hra)), (os, .inr (0, [.ref uc, .int tot2_3])), (uc, .inl (cI, 11, .inl f2_4))] H := hP
      have hD : va_D A [(h0, .inr (3, [.ref orr, .ref os, .ref ow, .ref oh, .int oup, .int obA, .long obT, .ref pay, .ref stp, .ref hT, .ref hR, .int hrd, .ref pT, .ref pR, .int prd])), (orr, .inr (4, [.ref ur])), (ur, .inl (cI, 7, .inl w)), (pay, .inl (cJ, 22, .inr (.inl py))), (stp, .inl (cI, 11, .inl sp)), (hT, .inl (cJ, 2304, .inr (.inl hta))), (hR, .inl (cI, 2304, .inl hra)), (os, .inr (0, [.ref uc, .int tot2_3])), (uc, .inl (cI, 11, .inl f2_4))] := hD
      refine lv_istore (lv' := [(9, .int r_2), (8, .int (nI k)), (6, .long al), (5, .int (vlC w p1 p2)), (4, .int p3), (3, .int (bI p2)), (2, .int p1), (1, .int p0), (0, .ref h0)]) hx hb dX3_houseTotal_119 hl (by decide) rfl (fun ls hl => ?_)
      refine lv_iload hx hb dX3_houseTotal_121 (lv_at hl 0 rfl) ?_
      refine lv_if_le (tgt := 180) hx hb dX3_houseTotal_123 (by decide) (fun c123_5 => ?_) (fun c123_5 => ?_)
      · skip
        have e9 := rm_no hr_2 c123_5
        rw [e9.1, e9.2] at hP hD
        clear e9
        have hP : va_P D vwCl [(h0, .inr (3, [.ref orr, .ref os, .ref ow, .ref oh, .int oup, .int obA, .long obT, .ref pay, .ref stp, .ref hT, .ref hR, .int hrd, .ref pT, .ref pR, .int prd])), (orr, .inr (4, [.ref ur])), (ur, .inl (cI, 7, .inl w)), (pay, .inl (cJ, 22, .inr (.inl py))), (stp, .inl (cI, 11, .inl sp)), (hT, .inl (cJ, 2304, .inr (.inl hta))), (hR, .inl (cI, 2304, .inl hra)), (os, .inr (0, [.ref uc, .int tot])), (uc, .inl (cI, 11, .inl f))] H := hP
        have hD : va_D A [(h0, .inr (3, [.ref orr, .ref os, .ref ow, .ref oh, .int oup, .int obA, .long obT, .ref pay, .ref stp, .ref hT, .ref hR, .int hrd, .ref pT, .ref pR, .int prd])), (orr, .inr (4, [.ref ur])), (ur, .inl (cI, 7, .inl w)), (pay, .inl (cJ, 22, .inr (.inl py))), (stp, .inl (cI, 11, .inl sp)), (hT, .inl (cJ, 2304, .inr (.inl hta))), (hR, .inl (cI, 2304, .inl hra)), (os, .inr (0, [.ref uc, .int tot])), (uc, .inl (cI, 11, .inl f))] := hD
        refine lv_iinc (v := (nI (k + 1))) (lv' := [(8, .int (nI (k + 1))), (9, .int r_2), (6, .long al), (5, .int (vlC w p1 p2)), (4, .int p3), (3, .int (bI p2)), (2, .int p1), (1, .int p0), (0, .ref h0)]) hx hb dX3_houseTotal_180 hl (k := 1) rfl (nI_incT (by decide)) (by decide) rfl (fun ls hl => ?_)
        refine lv_goto (tgt := 103) hx hb dX3_houseTotal_183 (by decide) ?_
        exact ih (k + 1) al hta hra _ _ _ (by omega) (by omega) (by omega) (hP.sub [0, 1, 2, 7, 8, 3, 4, 5, 6] rfl) (hD.sub [0, 1, 2, 7, 8, 3, 4, 5, 6] (by decide) rfl) hS (lv_sub hl [0, 2, 3, 4, 5, 6, 7, 8] rfl) kk0
      · skip
        refine lv_lload hx hb dX3_houseTotal_126 (lv_at hl 2 rfl) ?_
        refine lv_iload hx hb dX3_houseTotal_128 (lv_at hl 0 rfl) ?_
        refine lv_i2l (v := r_2.toInt64) hx hb dX3_houseTotal_130 rfl ?_
        refine lv_aload_n hx hb dX3_houseTotal_131 rfl (lv_at hl 8 rfl) ?_
        refine lv_iload_n hx hb dX3_houseTotal_132 rfl (lv_at hl 7 rfl) ?_
        refine lv_aload_n hx hb dX3_houseTotal_133 rfl (lv_at hl 8 rfl) ?_
        refine va_get (D := D) (ci := 3) (v := .ref stp) (C := RX3) (T := TX3) (N := 15) hx hb hts in_X3_houseTotal_X3 hown hK hP 0 rfl rfl 8 (by decide) (hts _ wd_X3_houseTotal_1) (fun _ h9 => h9) rfl dX3_houseTotal_134 ?_
        refine lv_iload hx hb dX3_houseTotal_137 (lv_at hl 1 rfl) ?_
        refine va_iald hx hb hK hP 4 0 rfl rfl (vp_in_nI (by omega) (by decide)) dX3_houseTotal_139 ?_
        refine lv_topi (fun z_6 ez_6 => ?_)
        obtain rfl : z_6 = (sp k) := ez_6.trans (by rw [nI_clamp (by omega)])
        refine lv_iadd hx hb dX3_houseTotal_140 ?_
        refine lv_iload_n hx hb dX3_houseTotal_141 rfl (lv_at hl 6 rfl) ?_
        refine lv_iload hx hb dX3_houseTotal_142 (lv_at hl 1 rfl) ?_
        refine lv_iadd hx hb dX3_houseTotal_144 ?_
        refine lv_join (α := Bool) 160 10 (fun a9 => [(9, .int r_2), (8, .int (nI k)), (6, .long al), (5, .int (vlC w p1 p2)), (4, .int p3), (3, .int (bI p2)), (2, .int p1), (1, .int p0), (0, .ref h0)]) (fun a9 => [.int (bI a9), .int (p1 + (nI k)), .int (p0 + (sp k)), .ref h0, .long r_2.toInt64, .long al]) (fun a9 => a9 = (p2 || decide ((nI k) = 1))) (fun a_9 ls hl hp_8 => ?_) (fun hJ_7 => ?_)
        · skip
          have hp_8 : a_9 = (p2 || decide ((nI k) = 1)) := hp_8
          subst hp_8
          have i1 : ((p1 + (nI k))).toInt = p1.toInt + k := by rw [i32_add (by rw [toInt_nI (by omega)]; omega) (by rw [toInt_nI (by omega)]; omega), toInt_nI (by omega)]
          have i3 : (p3 - 1).toInt = p3.toInt - 1 := by rw [i32_sub (by rw [t1]; omega) (by rw [t1]; omega), t1]
          have d1 : 1 ≤ d := by omega
          refine lv_iload hx hb dX3_houseTotal_160 (lv_at hl 4 rfl) ?_
          refine lv_iconst (v := 1) hx hb dX3_houseTotal_162 (by decide) ?_
          refine lv_isub hx hb dX3_houseTotal_163 ?_
          have hPc := hP.sub (ws' := [(h0, .inr (3, [.ref orr, .ref os, .ref ow, .ref oh, .int oup, .int obA, .long obT, .ref pay, .ref stp, .ref hT, .ref hR, .int hrd, .ref pT, .ref pR, .int prd])), (orr, .inr (4, [.ref ur])), (ur, .inl (cI, 7, .inl w)), (os, .inr (0, [.ref uc, .int tot2_3])), (uc, .inl (cI, 11, .inl f2_4)), (pay, .inl (cJ, 22, .inr (.inl py))), (stp, .inl (cI, 11, .inl sp)), (hT, .inl (cJ, 2304, .inr (.inl hta))), (hR, .inl (cI, 2304, .inl hra))]) [0, 1, 2, 7, 8, 3, 4, 5, 6] rfl
          have hDc := hD.sub (ws' := [(h0, .inr (3, [.ref orr, .ref os, .ref ow, .ref oh, .int oup, .int obA, .long obT, .ref pay, .ref stp, .ref hT, .ref hR, .int hrd, .ref pT, .ref pR, .int prd])), (orr, .inr (4, [.ref ur])), (ur, .inl (cI, 7, .inl w)), (os, .inr (0, [.ref uc, .int tot2_3])), (uc, .inl (cI, 11, .inl f2_4)), (pay, .inl (cJ, 22, .inr (.inl py))), (stp, .inl (cI, 11, .inl sp)), (hT, .inl (cJ, 2304, .inr (.inl hta))), (hR, .inl (cI, 2304, .inl hra))]) [0, 1, 2, 7, 8, 3, 4, 5, 6] (by decide) rfl
          have hFc := va_free (wc := [(h0, .inr (3, [.ref orr, .ref os, .ref ow, .ref oh, .int oup, .int obA, .long obT, .ref pay, .ref stp, .ref hT, .ref hR, .int hrd, .ref pT, .ref pR, .int prd])), (orr, .inr (4, [.ref ur])), (ur, .inl (cI, 7, .inl w)), (os, .inr (0, [.ref uc, .int tot2_3])), (uc, .inl (cI, 11, .inl f2_4)), (pay, .inl (cJ, 22, .inr (.inl py))), (stp, .inl (cI, 11, .inl sp)), (hT, .inl (cJ, 2304, .inr (.inl hta))), (hR, .inl (cI, 2304, .inl hra))]) hD hS hA [0, 1, 2, 7, 8, 3, 4, 5, 6] rfl
          refine va_calll (va_runV (As := [.int (p0 + (sp k)), .int (p1 + (nI k)), .int (bI (p2 || decide ((nI k) = 1))), .int (p3 - 1)]) (rest := [.long r_2.toInt64, .long al]) ⟨hx, hb, hml, hown, hts⟩ ((IH (d - 1) (by omega)) _ h0 orr os ow oh oup obA obT pay stp hT hR hrd pT pR prd ur (w) uc tot2_3 (f2_4) (py) (sp) (hta) (hra) (p0 + (sp k)) (p1 + (nI k)) (p2 || decide ((nI k) = 1)) (p3 - 1) tO hw (by rw [i1]; omega) (by rw [i1, i3]; omega) (by rw [i3]; omega)) (cwV 4 hts gX3_houseTotal_X3_houseTotal rfl rfl rfl (by decide +kernel) ⟨Nat.le_trans (show 1 + (d - 1) + 1 ≤ 1 + d by omega) hRf, Nat.le_trans (show 8 + (10 + 11) + (60 + (d - 1) * 29) ≤ 60 + d * 29 by omega) hRl⟩) (mPo_preV (ci := 3) (q0 := 0) hPc hK hDc hZ hS hFc rfl rfl) rfl rfl hl.1 rfl (lv_room (Nat.le_of_ble_eq_true rfl)) dX3_houseTotal_164 ⟨hRc, hRs⟩) hS (fun q _ h => hFc q h) hFc (fun r_10 u_r_10 t H1 locs ht hvm hr_10 hB hz1 hk1 hS => ?_)
          obtain ⟨ht2_11, hr2_12⟩ := u_r_10
          obtain ⟨hP1, hK1, hD1⟩ := hB
          rw [ht] at hP1
          try dsimp only at hr_10
          obtain ⟨hP, hD⟩ := va_join (wr := []) (w1 := [(h0, .inr (3, [.ref orr, .ref os, .ref ow, .ref oh, .int oup, .int obA, .long obT, .ref pay, .ref stp, .ref hT, .ref hR, .int hrd, .ref pT, .ref pR, .int prd])), (orr, .inr (4, [.ref ur])), (ur, .inl (cI, 7, .inl (w))), (os, .inr (0, [.ref uc, .int tot2_3])), (uc, .inl (cI, 11, .inl (f2_4))), (pay, .inl (cJ, 22, .inr (.inl (py)))), (stp, .inl (cI, 11, .inl (sp))), (hT, .inl (cJ, 2304, .inr (.inl ht2_11))), (hR, .inl (cI, 2304, .inl hr2_12))]) hP hD [0, 1, 2, 7, 8, 3, 4, 5, 6] [] rfl rfl (by decide) (by decide) hk1 hFc hP1 hD1
          generalize H1 = H at hP hS ⊢
          have hP : va_P D vwCl [(h0, .inr (3, [.ref orr, .ref os, .ref ow, .ref oh, .int oup, .int obA, .long obT, .ref pay, .ref stp, .ref hT, .ref hR, .int hrd, .ref pT, .ref pR, .int prd])), (orr, .inr (4, [.ref ur])), (ur, .inl (cI, 7, .inl (w))), (os, .inr (0, [.ref uc, .int tot2_3])), (uc, .inl (cI, 11, .inl (f2_4))), (pay, .inl (cJ, 22, .inr (.inl (py)))), (stp, .inl (cI, 11, .inl (sp))), (hT, .inl (cJ, 2304, .inr (.inl ht2_11))), (hR, .inl (cI, 2304, .inl hr2_12))] H := hP
          have hD : va_D A [(h0, .inr (3, [.ref orr, .ref os, .ref ow, .ref oh, .int oup, .int obA, .long obT, .ref pay, .ref stp, .ref hT, .ref hR, .int hrd, .ref pT, .ref pR, .int prd])), (orr, .inr (4, [.ref ur])), (ur, .inl (cI, 7, .inl (w))), (os, .inr (0, [.ref uc, .int tot2_3])), (uc, .inl (cI, 11, .inl (f2_4))), (pay, .inl (cJ, 22, .inr (.inl (py)))), (stp, .inl (cI, 11, .inl (sp))), (hT, .inl (cJ, 2304, .inr (.inl ht2_11))), (hR, .inl (cI, 2304, .inl hr2_12))] := hD
          refine lv_lmul hx hb dX3_houseTotal_167 ?_
          refine lv_ladd hx hb dX3_houseTotal_168 ?_
          refine lv_lstore (lv' := [(6, .long (al + (r_2.toInt64 * r_10))), (9, .int r_2), (8, .int (nI k)), (5, .int (vlC w p1 p2)), (4, .int p3), (3, .int (bI p2)), (2, .int p1), (1, .int p0), (0, .ref h0)]) hx hb dX3_houseTotal_169 hl (by decide) rfl (fun ls hl => ?_)
          refine lv_aload_n hx hb dX3_houseTotal_171 rfl (lv_at hl 8 rfl) ?_
          refine va_get (D := D) (ci := 3) (v := .ref os) (C := RX3) (T := TX3) (N := 15) hx hb hts in_X3_houseTotal_X3 hown hK hP 0 rfl rfl 1 (by decide) (hts _ wd_X3_houseTotal_0) (fun _ h9 => h9) rfl dX3_houseTotal_172 ?_
          refine lv_iload hx hb dX3_houseTotal_175 (lv_at hl 2 rfl) ?_
          have hPc := hP.sub (ws' := [(os, .inr (0, [.ref uc, .int tot2_3])), (uc, .inl (cI, 11, .inl (f2_4)))]) [3, 4] rfl
          have hDc := hD.sub (ws' := [(os, .inr (0, [.ref uc, .int tot2_3])), (uc, .inl (cI, 11, .inl (f2_4)))]) [3, 4] (by decide) rfl
          have hFc := va_free (wc := [(os, .inr (0, [.ref uc, .int tot2_3])), (uc, .inl (cI, 11, .inl (f2_4)))]) hD hS hA [3, 4] rfl
          refine va_callv (va_runV (As := [.int (nI k)]) (rest := []) ⟨hx, hb, hml, hown, hts⟩ (c_X0_add l D cI cJ cQ _ os uc tot2_3 ((f2_4)) (nI k)) (cwV 1 hts gX3_houseTotal_X0_add rfl rfl rfl (by decide +kernel) ⟨Nat.le_trans (show 0 + 1 ≤ 1 + d by omega) hRf, Nat.le_trans (show 8 + (2 + 11) + (0) ≤ 60 + d * 29 by omega) hRl⟩) (mP_preV (ci := 0) (q0 := 0) hPc hK hDc rfl rfl) rfl rfl hl.1 rfl (lv_room (Nat.le_of_ble_eq_true rfl)) dX3_houseTotal_177 ⟨hRc, hRs⟩) hS (fun q _ h => hFc q h) hFc (fun u_r_13 t H1 locs ht hvm hr_13 hB hz1 hk1 hS => ?_)
          obtain ⟨tot2_14, f2_15⟩ := u_r_13
          obtain ⟨hP1, hK1, hD1⟩ := hB
          rw [ht] at hP1
          try dsimp only at hr_13
          obtain ⟨hP, hD⟩ := va_join (wr := [(h0, .inr (3, [.ref orr, .ref os, .ref ow, .ref oh, .int oup, .int obA, .long obT, .ref pay, .ref stp, .ref hT, .ref hR, .int hrd, .ref pT, .ref pR, .int prd])), (orr, .inr (4, [.ref ur])), (ur, .inl (cI, 7, .inl (w))), (pay, .inl (cJ, 22, .inr (.inl (py)))), (stp, .inl (cI, 11, .inl (sp))), (hT, .inl (cJ, 2304, .inr (.inl ht2_11))), (hR, .inl (cI, 2304, .inl hr2_12))]) (w1 := [(os, .inr (0, [.ref uc, .int tot2_14])), (uc, .inl (cI, 11, .inl f2_15))]) hP hD [3, 4] [0, 1, 2, 5, 6, 7, 8] rfl rfl (by decide) (by decide) hk1 hFc hP1 hD1
          generalize H1 = H at hP hS ⊢
          have hP : va_P D vwCl [(h0, .inr (3, [.ref orr, .ref os, .ref ow, .ref oh, .int oup, .int obA, .long obT, .ref pay, .ref stp, .ref hT, .ref hR, .int hrd, .ref pT, .ref pR, .int prd])), (orr, .inr (4, [.ref ur])), (ur, .inl (cI, 7, .inl (w))), (pay, .inl (cJ, 22, .inr (.inl (py)))), (stp, .inl (cI, 11, .inl (sp))), (hT, .inl (cJ, 2304, .inr (.inl ht2_11))), (hR, .inl (cI, 2304, .inl hr2_12)), (os, .inr (0, [.ref uc, .int tot2_14])), (uc, .inl (cI, 11, .inl f2_15))] H := hP
          have hD : va_D A [(h0, .inr (3, [.ref orr, .ref os, .ref ow, .ref oh, .int oup, .int obA, .long obT, .ref pay, .ref stp, .ref hT, .ref hR, .int hrd, .ref pT, .ref pR, .int prd])), (orr, .inr (4, [.ref ur])), (ur, .inl (cI, 7, .inl (w))), (pay, .inl (cJ, 22, .inr (.inl (py)))), (stp, .inl (cI, 11, .inl (sp))), (hT, .inl (cJ, 2304, .inr (.inl ht2_11))), (hR, .inl (cI, 2304, .inl hr2_12)), (os, .inr (0, [.ref uc, .int tot2_14])), (uc, .inl (cI, 11, .inl f2_15))] := hD
          have e9 := rm_add k1 (by omega) hr_2 c123_5 hr_13
          rw [e9.1, e9.2] at hP hD
          clear e9
          have hP : va_P D vwCl [(h0, .inr (3, [.ref orr, .ref os, .ref ow, .ref oh, .int oup, .int obA, .long obT, .ref pay, .ref stp, .ref hT, .ref hR, .int hrd, .ref pT, .ref pR, .int prd])), (orr, .inr (4, [.ref ur])), (ur, .inl (cI, 7, .inl (w))), (pay, .inl (cJ, 22, .inr (.inl (py)))), (stp, .inl (cI, 11, .inl (sp))), (hT, .inl (cJ, 2304, .inr (.inl ht2_11))), (hR, .inl (cI, 2304, .inl hr2_12)), (os, .inr (0, [.ref uc, .int tot])), (uc, .inl (cI, 11, .inl f))] H := hP
          have hD : va_D A [(h0, .inr (3, [.ref orr, .ref os, .ref ow, .ref oh, .int oup, .int obA, .long obT, .ref pay, .ref stp, .ref hT, .ref hR, .int hrd, .ref pT, .ref pR, .int prd])), (orr, .inr (4, [.ref ur])), (ur, .inl (cI, 7, .inl (w))), (pay, .inl (cJ, 22, .inr (.inl (py)))), (stp, .inl (cI, 11, .inl (sp))), (hT, .inl (cJ, 2304, .inr (.inl ht2_11))), (hR, .inl (cI, 2304, .inl hr2_12)), (os, .inr (0, [.ref uc, .int tot])), (uc, .inl (cI, 11, .inl f))] := hD
          refine lv_iinc (v := (nI (k + 1))) (lv' := [(8, .int (nI (k + 1))), (6, .long (al + (r_2.toInt64 * r_10))), (9, .int r_2), (5, .int (vlC w p1 p2)), (4, .int p3), (3, .int (bI p2)), (2, .int p1), (1, .int p0), (0, .ref h0)]) hx hb dX3_houseTotal_180 hl (k := 2) rfl (nI_incT (by decide)) (by decide) rfl (fun ls hl => ?_)
          refine lv_goto (tgt := 103) hx hb dX3_houseTotal_183 (by decide) ?_
          exact ih (k + 1) (al + (r_2.toInt64 * r_10)) ht2_11 hr2_12 _ _ _ (by omega) (by omega) (by omega) (hP.sub [0, 1, 2, 7, 8, 3, 4, 5, 6] rfl) (hD.sub [0, 1, 2, 7, 8, 3, 4, 5, 6] (by decide) rfl) hS (lv_sub hl [0, 1, 3, 4, 5, 6, 7, 8] rfl) kk0
        · skip
          refine lv_iload_n hx hb dX3_houseTotal_145 rfl (lv_at hl 5 rfl) ?_
          refine lv_if_ne (tgt := 155) hx hb dX3_houseTotal_146 (by decide) (fun c146_16 => ?_) (fun c146_16 => ?_)
          · skip
            have nc146_16 : p2 = true := bI_1 c146_16
            refine lv_iconst (v := 1) hx hb dX3_houseTotal_155 (by decide) ?_
            refine lv_goto (tgt := 160) hx hb dX3_houseTotal_156 (by decide) ?_
            exact hJ_7 true ls (lv_sub hl [0, 1, 2, 3, 4, 5, 6, 7, 8] rfl) (by first | assumption | (simp [c146_16, nc146_16]; done) | ((try first | rw [if_pos c146_16] | rw [if_neg c146_16]); (try first | rw [if_pos nc146_16] | rw [if_neg nc146_16]); first | done | rfl | trivial) | (simp_all; done))
          · skip
            have nc146_16 : p2 = false := (bI_0 _).mp c146_16
            refine lv_iload hx hb dX3_houseTotal_149 (lv_at hl 1 rfl) ?_
            refine lv_iconst (v := 1) hx hb dX3_houseTotal_151 (by decide) ?_
            refine lv_icmp_ne (tgt := 159) hx hb dX3_houseTotal_152 (by decide) (fun c152_17 => ?_) (fun c152_17 => ?_)
            · skip
              have nc152_17 : ¬ (k = 1) := fun z9 => c152_17 ((nI_eq (a := k) (b := 1) (by omega) (by omega)).mpr z9)
              refine lv_iconst (v := 0) hx hb dX3_houseTotal_159 (by decide) ?_
              exact hJ_7 false ls (lv_sub hl [0, 1, 2, 3, 4, 5, 6, 7, 8] rfl) (by first | assumption | (simp [c146_16, nc146_16, c152_17]; done) | ((try first | rw [if_pos c146_16] | rw [if_neg c146_16]); (try first | rw [if_pos nc146_16] | rw [if_neg nc146_16]); (try first | rw [if_pos c152_17] | rw [if_neg c152_17]); first | done | rfl | trivial) | (simp_all; done))
            · skip
              have nc152_17 : k = 1 := (nI_eq (a := k) (b := 1) (by omega) (by omega)).mp c152_17
              refine lv_iconst (v := 1) hx hb dX3_houseTotal_155 (by decide) ?_
              refine lv_goto (tgt := 160) hx hb dX3_houseTotal_156 (by decide) ?_
              exact hJ_7 true ls (lv_sub hl [0, 1, 2, 3, 4, 5, 6, 7, 8] rfl) (by first | assumption | (simp [c146_16, nc146_16, c152_17]; done) | ((try first | rw [if_pos c146_16] | rw [if_neg c146_16]); (try first | rw [if_pos nc146_16] | rw [if_neg nc146_16]); (try first | rw [if_pos c152_17] | rw [if_neg c152_17]); first | done | rfl | trivial) | (simp_all; done))

set_option maxRecDepth 20000 in
theorem wd_X3_houseTotal_2 : Cond.fieldLink RX3 12 "ShoeTable$Odds" "rules" "LShoeTable$Rules;" ∈ wsX3_houseTotal := by decide +kernel
set_option maxRecDepth 20000 in
theorem wd_X3_houseTotal_3 : Cond.fieldLink RX3 46 "ShoeTable$Odds" "pay" "[J" ∈ wsX3_houseTotal := by decide +kernel
set_option maxRecDepth 20000 in
theorem wd_X3_houseTotal_4 : Cond.initialized RX5 ∈ wsX3_houseTotal := by decide +kernel
set_option maxRecDepth 20000 in
theorem wd_X3_houseTotal_5 : Cond.static yX5_orders ∈ wsX3_houseTotal := by decide +kernel
set_option maxRecDepth 20000 in
theorem wd_X3_houseTotal_6 : Cond.fieldLink RX3 57 "ShoeTable$Odds" "houseRounds" "[I" ∈ wsX3_houseTotal := by decide +kernel
set_option maxRecDepth 20000 in
theorem wd_X3_houseTotal_7 : Cond.fieldLink RX3 60 "ShoeTable$Odds" "houseRound" "I" ∈ wsX3_houseTotal := by decide +kernel
set_option maxRecDepth 20000 in
theorem wd_X3_houseTotal_8 : Cond.fieldLink RX3 54 "ShoeTable$Odds" "houseTotals" "[J" ∈ wsX3_houseTotal := by decide +kernel
set_option maxHeartbeats 400000 in
set_option maxRecDepth 100000 in
/-- X3_houseTotal -/
theorem c_X3_houseTotal_step (l : Launch) (D : va_G) (cI cJ cQ : ClassId) (d : Nat) (IH : ∀ e9 : Nat, e9 < d → ∀ (sz : Nat), ∀ (h0 : Nat), ∀ (orr : Nat), ∀ (os : Nat), ∀ (ow : Nat), ∀ (oh : Nat), ∀ (oup : Int32), ∀ (obA : Int32), ∀ (obT : Int64), ∀ (pay : Nat), ∀ (stp : Nat), ∀ (hT : Nat), ∀ (hR : Nat), ∀ (hrd : Int32), ∀ (pT : Nat), ∀ (pR : Nat), ∀ (prd : Int32), ∀ (ur : Nat), ∀ (w : Nat → Int32), ∀ (uc : Nat), ∀ (tot : Int32), ∀ (f : Nat → Int32), ∀ (py : Nat → Int64), ∀ (sp : Nat → Int32), ∀ (hta : Nat → Int64), ∀ (hra : Nat → Int32), ∀ (p0 : Int32), ∀ (p1 : Int32), ∀ (p2 : Bool), ∀ (p3 : Int32), ∀ (tO : Nat), ((w 0).toInt ≤ 21) → (p1.toInt ≤ 1000) → (p1.toInt + 10 * p3.toInt ≤ 1000) → (p3.toInt ≤ (e9 : Int)) → Met l yX3_houseTotal wsX3_houseTotal ({ frames := 1 + e9, cells := 0, slots := 0, locals := 60 + e9 * 29 }) (va_Pc [.ref h0, .int p0, .int p1, .int (bI p2), .int p3] (mPo D (gTy cI cJ cQ) [(h0, .inr (3, [.ref orr, .ref os, .ref ow, .ref oh, .int oup, .int obA, .long obT, .ref pay, .ref stp, .ref hT, .ref hR, .int hrd, .ref pT, .ref pR, .int prd])), (orr, .inr (4, [.ref ur])), (ur, .inl (cI, 7, .inl w)), (os, .inr (0, [.ref uc, .int tot])), (uc, .inl (cI, 11, .inl f)), (pay, .inl (cJ, 22, .inr (.inl py))), (stp, .inl (cI, 11, .inl sp)), (hT, .inl (cJ, 2304, .inr (.inl hta))), (hR, .inl (cI, 2304, .inl hra))] sz tO)) (va_Ql (fun (r : Int64) (u : (Nat → Int64) × (Nat → Int32)) => match u with | (ht2, hr2) => True) (fun (u : (Nat → Int64) × (Nat → Int32)) t => match u with | (ht2, hr2) => mB D (gTy cI cJ cQ) (va_A [(h0, .inr (3, [.ref orr, .ref os, .ref ow, .ref oh, .int oup, .int obA, .long obT, .ref pay, .ref stp, .ref hT, .ref hR, .int hrd, .ref pT, .ref pR, .int prd])), (orr, .inr (4, [.ref ur])), (ur, .inl (cI, 7, .inl w)), (os, .inr (0, [.ref uc, .int tot])), (uc, .inl (cI, 11, .inl f)), (pay, .inl (cJ, 22, .inr (.inl py))), (stp, .inl (cI, 11, .inl sp)), (hT, .inl (cJ, 2304, .inr (.inl hta))), (hR, .inl (cI, 2304, .inl hra))] sz) [(h0, .inr (3, [.ref orr, .ref os, .ref ow, .ref oh, .int oup, .int obA, .long obT, .ref pay, .ref stp, .ref hT, .ref hR, .int hrd, .ref pT, .ref pR, .int prd])), (orr, .inr (4, [.ref ur])), (ur, .inl (cI, 7, .inl w)), (os, .inr (0, [.ref uc, .int tot])), (uc, .inl (cI, 11, .inl f)), (pay, .inl (cJ, 22, .inr (.inl py))), (stp, .inl (cI, 11, .inl sp)), (hT, .inl (cJ, 2304, .inr (.inl ht2))), (hR, .inl (cI, 2304, .inl hr2))] t) (va_A [(h0, .inr (3, [.ref orr, .ref os, .ref ow, .ref oh, .int oup, .int obA, .long obT, .ref pay, .ref stp, .ref hT, .ref hR, .int hrd, .ref pT, .ref pR, .int prd])), (orr, .inr (4, [.ref ur])), (ur, .inl (cI, 7, .inl w)), (os, .inr (0, [.ref uc, .int tot])), (uc, .inl (cI, 11, .inl f)), (pay, .inl (cJ, 22, .inr (.inl py))), (stp, .inl (cI, 11, .inl sp)), (hT, .inl (cJ, 2304, .inr (.inl hta))), (hR, .inl (cI, 2304, .inl hra))] sz)) 0 0 (va_A [(h0, .inr (3, [.ref orr, .ref os, .ref ow, .ref oh, .int oup, .int obA, .long obT, .ref pay, .ref stp, .ref hT, .ref hR, .int hrd, .ref pT, .ref pR, .int prd])), (orr, .inr (4, [.ref ur])), (ur, .inl (cI, 7, .inl w)), (os, .inr (0, [.ref uc, .int tot])), (uc, .inl (cI, 11, .inl f)), (pay, .inl (cJ, 22, .inr (.inl py))), (stp, .inl (cI, 11, .inl sp)), (hT, .inl (cJ, 2304, .inr (.inl hta))), (hR, .inl (cI, 2304, .inl hra))] sz)) (sz : Nat) (h0 : Nat) (orr : Nat) (os : Nat) (ow : Nat) (oh : Nat) (oup : Int32) (obA : Int32) (obT : Int64) (pay : Nat) (stp : Nat) (hT : Nat) (hR : Nat) (hrd : Int32) (pT : Nat) (pR : Nat) (prd : Int32) (ur : Nat) (w : Nat → Int32) (uc : Nat) (tot : Int32) (f : Nat → Int32) (py : Nat → Int64) (sp : Nat → Int32) (hta : Nat → Int64) (hra : Nat → Int32) (p0 : Int32) (p1 : Int32) (p2 : Bool) (p3 : Int32) (tO : Nat) (hw : (w 0).toInt ≤ 21) (hs0 : p1.toInt ≤ 1000) (hs : p1.toInt + 10 * p3.toInt ≤ 1000) (hd : p3.toInt ≤ (d : Int)) : Met l yX3_houseTotal wsX3_houseTotal ({ frames := 1 + d, cells := 0, slots := 0, locals := 60 + d * 29 }) (va_Pc [.ref h0, .int p0, .int p1, .int (bI p2), .int p3] (mPo D (gTy cI cJ cQ) [(h0, .inr (3, [.ref orr, .ref os, .ref ow, .ref oh, .int oup, .int obA, .long obT, .ref pay, .ref stp, .ref hT, .ref hR, .int hrd, .ref pT, .ref pR, .int prd])), (orr, .inr (4, [.ref ur])), (ur, .inl (cI, 7, .inl w)), (os, .inr (0, [.ref uc, .int tot])), (uc, .inl (cI, 11, .inl f)), (pay, .inl (cJ, 22, .inr (.inl py))), (stp, .inl (cI, 11, .inl sp)), (hT, .inl (cJ, 2304, .inr (.inl hta))), (hR, .inl (cI, 2304, .inl hra))] sz tO)) (va_Ql (fun (r : Int64) (u : (Nat → Int64) × (Nat → Int32)) => match u with | (ht2, hr2) => True) (fun (u : (Nat → Int64) × (Nat → Int32)) t => match u with | (ht2, hr2) => mB D (gTy cI cJ cQ) (va_A [(h0, .inr (3, [.ref orr, .ref os, .ref ow, .ref oh, .int oup, .int obA, .long obT, .ref pay, .ref stp, .ref hT, .ref hR, .int hrd, .ref pT, .ref pR, .int prd])), (orr, .inr (4, [.ref ur])), (ur, .inl (cI, 7, .inl w)), (os, .inr (0, [.ref uc, .int tot])), (uc, .inl (cI, 11, .inl f)), (pay, .inl (cJ, 22, .inr (.inl py))), (stp, .inl (cI, 11, .inl sp)), (hT, .inl (cJ, 2304, .inr (.inl hta))), (hR, .inl (cI, 2304, .inl hra))] sz) [(h0, .inr (3, [.ref orr, .ref os, .ref ow, .ref oh, .int oup, .int obA, .long obT, .ref pay, .ref stp, .ref hT, .ref hR, .int hrd, .ref pT, .ref pR, .int prd])), (orr, .inr (4, [.ref ur])), (ur, .inl (cI, 7, .inl w)), (os, .inr (0, [.ref uc, .int tot])), (uc, .inl (cI, 11, .inl f)), (pay, .inl (cJ, 22, .inr (.inl py))), (stp, .inl (cI, 11, .inl sp)), (hT, .inl (cJ, 2304, .inr (.inl ht2))), (hR, .inl (cI, 2304, .inl hr2))] t) (va_A [(h0, .inr (3, [.ref orr, .ref os, .ref ow, .ref oh, .int oup, .int obA, .long obT, .ref pay, .ref stp, .ref hT, .ref hR, .int hrd, .ref pT, .ref pR, .int prd])), (orr, .inr (4, [.ref ur])), (ur, .inl (cI, 7, .inl w)), (os, .inr (0, [.ref uc, .int tot])), (uc, .inl (cI, 11, .inl f)), (pay, .inl (cJ, 22, .inr (.inl py))), (stp, .inl (cI, 11, .inl sp)), (hT, .inl (cJ, 2304, .inr (.inl hta))), (hR, .inl (cI, 2304, .inl hra))] sz)) 0 0 (va_A [(h0, .inr (3, [.ref orr, .ref os, .ref ow, .ref oh, .int oup, .int obA, .long obT, .ref pay, .ref stp, .ref hT, .ref hR, .int hrd, .ref pT, .ref pR, .int prd])), (orr, .inr (4, [.ref ur])), (ur, .inl (cI, 7, .inl w)), (os, .inr (0, [.ref uc, .int tot])), (uc, .inl (cI, 11, .inl f)), (pay, .inl (cJ, 22, .inr (.inl py))), (stp, .inl (cI, 11, .inl sp)), (hT, .inl (cJ, 2304, .inr (.inl hta))), (hR, .inl (cI, 2304, .inl hra))] sz) := by
  refine Met.ofW (cc := cX3_houseTotal) (maxL := 10) (ret := (some .long)) (by decide) rfl ?_
  intro p e s m args below meth c s₁ B hml hv
  obtain ⟨rfl, ⟨hsz, hP, hK, hD0⟩, hZ⟩ := hv
  have hx := B.exec
  have hb := B.bytes
  have hr := B.returns
  have hts := atoms_spec (ws := wsX3_houseTotal) B.pre
  have hown : s.vm.findClass RX3 = some m.cls := findClass_of_methodNamed B.named
  have hlocks := B.notSynchronized
  subst hsz
  have hD := hD0.self (sz := s.heap.size)
  generalize hAe : va_A [(h0, .inr (3, [.ref orr, .ref os, .ref ow, .ref oh, .int oup, .int obA, .long obT, .ref pay, .ref stp, .ref hT, .ref hR, .int hrd, .ref pT, .ref pR, .int prd])), (orr, .inr (4, [.ref ur])), (ur, .inl (cI, 7, .inl w)), (os, .inr (0, [.ref uc, .int tot])), (uc, .inl (cI, 11, .inl f)), (pay, .inl (cJ, 22, .inr (.inl py))), (stp, .inl (cI, 11, .inl sp)), (hT, .inl (cJ, 2304, .inr (.inl hta))), (hR, .inl (cI, 2304, .inl hra))] s.heap.size = A at hD hZ ⊢
  have hA : ∀ q : Nat, s.heap.size ≤ q → A q := fun q h => by rw [← hAe]; exact Or.inr h
  have hS : va_S A s.heap s.heap [] := va_S.rf
  have hP : va_P D vwCl [(h0, .inr (3, [.ref orr, .ref os, .ref ow, .ref oh, .int oup, .int obA, .long obT, .ref pay, .ref stp, .ref hT, .ref hR, .int hrd, .ref pT, .ref pR, .int prd])), (orr, .inr (4, [.ref ur])), (ur, .inl (cI, 7, .inl w)), (os, .inr (0, [.ref uc, .int tot])), (uc, .inl (cI, 11, .inl f)), (pay, .inl (cJ, 22, .inr (.inl py))), (stp, .inl (cI, 11, .inl sp)), (hT, .inl (cJ, 2304, .inr (.inl hta))), (hR, .inl (cI, 2304, .inl hra))] s.heap := hP
  have hl := lv_entry ([.ref h0, .int p0, .int p1, .int (bI p2), .int p3]) (n := 10) (Nat.le_of_ble_eq_true rfl)
  rw [lg_entry_eq]
  generalize (lg_sl ([.ref h0, .int p0, .int p1, .int (bI p2), .int p3]) ++ List.replicate (10 - (lg_sl ([.ref h0, .int p0, .int p1, .int (bI p2), .int p3])).length) Slot.unset).toArray = ls at hl ⊢
  have hl : lv_has ls 10 [(0, .ref h0), (1, .int p0), (2, .int p1), (3, .int (bI p2)), (4, .int p3)] := hl
  refine lv_iload_n hx hb dX3_houseTotal_0 rfl (lv_at hl 1 rfl) ?_
  refine lv_if_lt (tgt := 15) hx hb dX3_houseTotal_1 (by decide) (fun c1_1 => ?_) (fun c1_1 => ?_)
  · skip
    refine lv_lconst (v := 0) hx hb dX3_houseTotal_15 (by decide) ?_
    have hP9 := hP.sub (ws' := [(h0, .inr (3, [.ref orr, .ref os, .ref ow, .ref oh, .int oup, .int obA, .long obT, .ref pay, .ref stp, .ref hT, .ref hR, .int hrd, .ref pT, .ref pR, .int prd])), (orr, .inr (4, [.ref ur])), (ur, .inl (cI, 7, .inl w)), (os, .inr (0, [.ref uc, .int tot])), (uc, .inl (cI, 11, .inl f)), (pay, .inl (cJ, 22, .inr (.inl py))), (stp, .inl (cI, 11, .inl sp)), (hT, .inl (cJ, 2304, .inr (.inl hta))), (hR, .inl (cI, 2304, .inl hra))]) [0, 1, 2, 3, 4, 5, 6, 7, 8] rfl
    have hD9 := hD.sub (ws' := [(h0, .inr (3, [.ref orr, .ref os, .ref ow, .ref oh, .int oup, .int obA, .long obT, .ref pay, .ref stp, .ref hT, .ref hR, .int hrd, .ref pT, .ref pR, .int prd])), (orr, .inr (4, [.ref ur])), (ur, .inl (cI, 7, .inl w)), (os, .inr (0, [.ref uc, .int tot])), (uc, .inl (cI, 11, .inl f)), (pay, .inl (cJ, 22, .inr (.inl py))), (stp, .inl (cI, 11, .inl sp)), (hT, .inl (cJ, 2304, .inr (.inl hta))), (hR, .inl (cI, 2304, .inl hra))]) [0, 1, 2, 3, 4, 5, 6, 7, 8] (by decide) rfl
    exact W.lret (v := 0) hx hb hr (fun t ht hW => ⟨⟨0, ((hta), (hra)), rfl, trivial, by rw [ht]; exact hP9, va_K.moved hW.alike hK, hD9⟩, hS.F ht⟩) hS.2.2 dX3_houseTotal_16
  · skip
    refine lv_iload_n hx hb dX3_houseTotal_4 rfl (lv_at hl 1 rfl) ?_
    refine lv_sipush (v := 2304) hx hb dX3_houseTotal_5 (by decide) ?_
    refine lv_icmp_ge (tgt := 15) hx hb dX3_houseTotal_8 (by decide) (fun c8_2 => ?_) (fun c8_2 => ?_)
    · skip
      refine lv_lconst (v := 0) hx hb dX3_houseTotal_15 (by decide) ?_
      have hP9 := hP.sub (ws' := [(h0, .inr (3, [.ref orr, .ref os, .ref ow, .ref oh, .int oup, .int obA, .long obT, .ref pay, .ref stp, .ref hT, .ref hR, .int hrd, .ref pT, .ref pR, .int prd])), (orr, .inr (4, [.ref ur])), (ur, .inl (cI, 7, .inl w)), (os, .inr (0, [.ref uc, .int tot])), (uc, .inl (cI, 11, .inl f)), (pay, .inl (cJ, 22, .inr (.inl py))), (stp, .inl (cI, 11, .inl sp)), (hT, .inl (cJ, 2304, .inr (.inl hta))), (hR, .inl (cI, 2304, .inl hra))]) [0, 1, 2, 3, 4, 5, 6, 7, 8] rfl
      have hD9 := hD.sub (ws' := [(h0, .inr (3, [.ref orr, .ref os, .ref ow, .ref oh, .int oup, .int obA, .long obT, .ref pay, .ref stp, .ref hT, .ref hR, .int hrd, .ref pT, .ref pR, .int prd])), (orr, .inr (4, [.ref ur])), (ur, .inl (cI, 7, .inl w)), (os, .inr (0, [.ref uc, .int tot])), (uc, .inl (cI, 11, .inl f)), (pay, .inl (cJ, 22, .inr (.inl py))), (stp, .inl (cI, 11, .inl sp)), (hT, .inl (cJ, 2304, .inr (.inl hta))), (hR, .inl (cI, 2304, .inl hra))]) [0, 1, 2, 3, 4, 5, 6, 7, 8] (by decide) rfl
      exact W.lret (v := 0) hx hb hr (fun t ht hW => ⟨⟨0, ((hta), (hra)), rfl, trivial, by rw [ht]; exact hP9, va_K.moved hW.alike hK, hD9⟩, hS.F ht⟩) hS.2.2 dX3_houseTotal_16
    · skip
      refine lv_iload_n hx hb dX3_houseTotal_11 rfl (lv_at hl 2 rfl) ?_
      refine lv_if_ge (tgt := 17) hx hb dX3_houseTotal_12 (by decide) (fun c12_3 => ?_) (fun c12_3 => ?_)
      · skip
        have hpi : vp_in p0 2304 := hp_in c1_1 c8_2
        have g1 : 0 ≤ p1.toInt := by have q := (leI _ _).mp c12_3; rw [t0] at q; exact q
        refine lv_aload_n hx hb dX3_houseTotal_17 rfl (lv_at hl 0 rfl) ?_
        refine va_get (D := D) (ci := 3) (v := .ref orr) (C := RX3) (T := TX3) (N := 15) hx hb hts in_X3_houseTotal_X3 hown hK hP 0 rfl rfl 0 (by decide) (hts _ wd_X3_houseTotal_2) (fun _ h9 => h9) rfl dX3_houseTotal_18 ?_
        refine lv_iload_n hx hb dX3_houseTotal_21 rfl (lv_at hl 2 rfl) ?_
        refine lv_iload_n hx hb dX3_houseTotal_22 rfl (lv_at hl 3 rfl) ?_
        have hPc := hP.sub (ws' := [(orr, .inr (4, [.ref ur])), (ur, .inl (cI, 7, .inl w))]) [1, 2] rfl
        refine vp_callSi (W.runV (As := [.int p1, .int (bI p2)]) (rest := []) ⟨hx, hb, hml, hown, hts⟩ (c_X4_valueV l D cI cJ cQ orr ur (w) p1 p2) (cwV 2 hts gX3_houseTotal_X4_value rfl rfl rfl (by decide +kernel) ⟨show 0 + 1 ≤ 1 + d by omega, show 8 + (3 + 11) + (0) ≤ 60 + d * 29 by omega⟩) (rP_preV (ci := 4) (q0 := 0) hPc hK rfl rfl) rfl rfl hl.1 rfl (lv_room (Nat.le_of_ble_eq_true rfl)) dX3_houseTotal_23 ⟨Nat.le_of_ble_eq_true rfl, Nat.le_of_ble_eq_true rfl⟩) (fun r_4 hr_4 => ?_)
        subst hr_4
        refine lv_istore (lv' := [(5, .int (vlC (w) p1 p2)), (0, .ref h0), (1, .int p0), (2, .int p1), (3, .int (bI p2)), (4, .int p3)]) hx hb dX3_houseTotal_26 hl (by decide) rfl (fun ls hl => ?_)
        refine lv_iload hx hb dX3_houseTotal_28 (lv_at hl 5 rfl) ?_
        refine lv_if_le (tgt := 56) hx hb dX3_houseTotal_30 (by decide) (fun c30_5 => ?_) (fun c30_5 => ?_)
        · skip
          refine lv_aload_n hx hb dX3_houseTotal_56 rfl (lv_at hl 1 rfl) ?_
          refine va_get (D := D) (ci := 3) (v := .ref pay) (C := RX3) (T := TX3) (N := 15) hx hb hts in_X3_houseTotal_X3 hown hK hP 0 rfl rfl 7 (by decide) (hts _ wd_X3_houseTotal_3) (fun _ h9 => h9) rfl dX3_houseTotal_57 ?_
          refine lv_aload_n hx hb dX3_houseTotal_60 rfl (lv_at hl 1 rfl) ?_
          refine va_get (D := D) (ci := 3) (v := .ref orr) (C := RX3) (T := TX3) (N := 15) hx hb hts in_X3_houseTotal_X3 hown hK hP 0 rfl rfl 0 (by decide) (hts _ wd_X3_houseTotal_2) (fun _ h9 => h9) rfl dX3_houseTotal_61 ?_
          refine lv_iload hx hb dX3_houseTotal_64 (lv_at hl 0 rfl) ?_
          have hPc := hP.sub (ws' := [(orr, .inr (4, [.ref ur])), (ur, .inl (cI, 7, .inl w))]) [1, 2] rfl
          refine vp_callSi (W.runV (As := [.int (vlC (w) p1 p2)]) (rest := [.ref pay]) ⟨hx, hb, hml, hown, hts⟩ (c_X4_endV l D cI cJ cQ orr ur (w) (vlC (w) p1 p2)) (cwV 1 hts gX3_houseTotal_X4_end rfl rfl rfl (by decide +kernel) ⟨show 0 + 1 ≤ 1 + d by omega, show 8 + (2 + 11) + (0) ≤ 60 + d * 29 by omega⟩) (rP_preV (ci := 4) (q0 := 0) hPc hK rfl rfl) rfl rfl hl.1 rfl (lv_room (Nat.le_of_ble_eq_true rfl)) dX3_houseTotal_66 ⟨Nat.le_of_ble_eq_true rfl, Nat.le_of_ble_eq_true rfl⟩) (fun r_6 hr_6 => ?_)
          subst hr_6
          refine va_lald hx hb hK hP 5 1 rfl rfl (en_in g1 hs0 hw) dX3_houseTotal_69 ?_
          refine lv_iload hx hb dX3_houseTotal_70 (lv_at hl 5 rfl) ?_
          have hPc := hP.sub (ws' := []) [] rfl
          refine vp_callSl (va_Run.toC (va_runSN (As := [.int p3]) (rest := [.long (py (enC (w) (vlC (w) p1 p2)).toNatClampNeg)]) ⟨hx, hb, hml, hown, hts⟩ (c_X5_orders l D cI cJ cQ p3 tO) (⟨va_cnB 1 hts gX3_houseTotal_X5_orders_n143 rfl rfl rfl hZ.2.2 (hts _ wd_X3_houseTotal_4) (by decide +kernel) ⟨show 0 + 1 ≤ 1 + d by omega, show 8 + (1 + 11) + (0) ≤ 60 + d * 29 by omega⟩, (hts _ wd_X3_houseTotal_5), trivial⟩) (rPo_preS hPc hK hZ hS) rfl rfl hl.1 rfl (lv_room (Nat.le_of_ble_eq_true rfl)) dX3_houseTotal_72 ⟨Nat.le_of_ble_eq_true rfl, Nat.le_of_ble_eq_true rfl⟩)) (fun r_7 hr_7 => ?_)
          subst hr_7
          refine lv_lmul hx hb dX3_houseTotal_75 ?_
          have hP9 := hP.sub (ws' := [(h0, .inr (3, [.ref orr, .ref os, .ref ow, .ref oh, .int oup, .int obA, .long obT, .ref pay, .ref stp, .ref hT, .ref hR, .int hrd, .ref pT, .ref pR, .int prd])), (orr, .inr (4, [.ref ur])), (ur, .inl (cI, 7, .inl w)), (os, .inr (0, [.ref uc, .int tot])), (uc, .inl (cI, 11, .inl f)), (pay, .inl (cJ, 22, .inr (.inl py))), (stp, .inl (cI, 11, .inl sp)), (hT, .inl (cJ, 2304, .inr (.inl hta))), (hR, .inl (cI, 2304, .inl hra))]) [0, 1, 2, 3, 4, 5, 6, 7, 8] rfl
          have hD9 := hD.sub (ws' := [(h0, .inr (3, [.ref orr, .ref os, .ref ow, .ref oh, .int oup, .int obA, .long obT, .ref pay, .ref stp, .ref hT, .ref hR, .int hrd, .ref pT, .ref pR, .int prd])), (orr, .inr (4, [.ref ur])), (ur, .inl (cI, 7, .inl w)), (os, .inr (0, [.ref uc, .int tot])), (uc, .inl (cI, 11, .inl f)), (pay, .inl (cJ, 22, .inr (.inl py))), (stp, .inl (cI, 11, .inl sp)), (hT, .inl (cJ, 2304, .inr (.inl hta))), (hR, .inl (cI, 2304, .inl hra))]) [0, 1, 2, 3, 4, 5, 6, 7, 8] (by decide) rfl
          exact W.lret (v := ((py (enC (w) (vlC (w) p1 p2)).toNatClampNeg) * (orC p3))) hx hb hr (fun t ht hW => ⟨⟨((py (enC (w) (vlC (w) p1 p2)).toNatClampNeg) * (orC p3)), ((hta), (hra)), rfl, trivial, by rw [ht]; exact hP9, va_K.moved hW.alike hK, hD9⟩, hS.F ht⟩) hS.2.2 dX3_houseTotal_76
        · skip
          refine lv_aload_n hx hb dX3_houseTotal_33 rfl (lv_at hl 1 rfl) ?_
          refine va_get (D := D) (ci := 3) (v := .ref orr) (C := RX3) (T := TX3) (N := 15) hx hb hts in_X3_houseTotal_X3 hown hK hP 0 rfl rfl 0 (by decide) (hts _ wd_X3_houseTotal_2) (fun _ h9 => h9) rfl dX3_houseTotal_34 ?_
          refine lv_iload hx hb dX3_houseTotal_37 (lv_at hl 0 rfl) ?_
          refine lv_join (α := Bool) 50 10 (fun a9 => [(5, .int (vlC (w) p1 p2)), (0, .ref h0), (1, .int p0), (2, .int p1), (3, .int (bI p2)), (4, .int p3)]) (fun a9 => [.int (bI a9), .int (vlC (w) p1 p2), .ref orr]) (fun a9 => a9 = (!decide ((vlC (w) p1 p2) = p1))) (fun a_10 ls hl hp_9 => ?_) (fun hJ_8 => ?_)
          · skip
            have hp_9 : a_10 = (!decide ((vlC (w) p1 p2) = p1)) := hp_9
            subst hp_9
            have hPc := hP.sub (ws' := [(orr, .inr (4, [.ref ur])), (ur, .inl (cI, 7, .inl w))]) [1, 2] rfl
            refine vp_callSi (W.runV (As := [.int (vlC (w) p1 p2), .int (bI (!decide ((vlC (w) p1 p2) = p1)))]) (rest := []) ⟨hx, hb, hml, hown, hts⟩ (c_X4_goesOnV l D cI cJ cQ orr ur (w) (vlC (w) p1 p2) (!decide ((vlC (w) p1 p2) = p1))) (cwV 2 hts gX3_houseTotal_X4_goesOn rfl rfl rfl (by decide +kernel) ⟨show 0 + 1 ≤ 1 + d by omega, show 8 + (3 + 11) + (0) ≤ 60 + d * 29 by omega⟩) (rP_preV (ci := 4) (q0 := 0) hPc hK rfl rfl) rfl rfl hl.1 rfl (lv_room (Nat.le_of_ble_eq_true rfl)) dX3_houseTotal_50 ⟨Nat.le_of_ble_eq_true rfl, Nat.le_of_ble_eq_true rfl⟩) (fun r_11 hr_11 => ?_)
            subst hr_11
            refine lv_if_ne (tgt := 77) hx hb dX3_houseTotal_53 (by decide) (fun c53_12 => ?_) (fun c53_12 => ?_)
            · skip
              refine lv_aload_n hx hb dX3_houseTotal_77 rfl (lv_at hl 1 rfl) ?_
              refine va_get (D := D) (ci := 3) (v := .ref hR) (C := RX3) (T := TX3) (N := 15) hx hb hts in_X3_houseTotal_X3 hown hK hP 0 rfl rfl 10 (by decide) (hts _ wd_X3_houseTotal_6) (fun _ h9 => h9) rfl dX3_houseTotal_78 ?_
              refine lv_iload_n hx hb dX3_houseTotal_81 rfl (lv_at hl 2 rfl) ?_
              refine va_iald hx hb hK hP 8 0 rfl rfl hpi dX3_houseTotal_82 ?_
              refine lv_aload_n hx hb dX3_houseTotal_83 rfl (lv_at hl 1 rfl) ?_
              refine va_get (D := D) (ci := 3) (v := .int hrd) (C := RX3) (T := TX3) (N := 15) hx hb hts in_X3_houseTotal_X3 hown hK hP 0 rfl rfl 11 (by decide) (hts _ wd_X3_houseTotal_7) (fun _ h9 => h9) rfl dX3_houseTotal_84 ?_
              refine lv_icmp_ne (tgt := 97) hx hb dX3_houseTotal_87 (by decide) (fun c87_13 => ?_) (fun c87_13 => ?_)
              · skip
                have g3 : 0 < p3.toInt := by have q := mt (leI p3 0).mpr c30_5; rw [t0] at q; omega
                refine lv_lconst (v := 0) hx hb dX3_houseTotal_97 (by decide) ?_
                refine lv_lstore (lv' := [(6, .long 0), (5, .int (vlC (w) p1 p2)), (0, .ref h0), (1, .int p0), (2, .int p1), (3, .int (bI p2)), (4, .int p3)]) hx hb dX3_houseTotal_98 hl (by decide) rfl (fun ls hl => ?_)
                refine lv_iconst (v := 1) hx hb dX3_houseTotal_100 (by decide) ?_
                refine lv_istore (lv' := [(8, .int 1), (6, .long 0), (5, .int (vlC (w) p1 p2)), (0, .ref h0), (1, .int p0), (2, .int p1), (3, .int (bI p2)), (4, .int p3)]) hx hb dX3_houseTotal_101 hl (by decide) rfl (fun ls hl => ?_)
                refine lpHouse hx hb hml hown hts hK hA d h0 orr os ow oh oup obA obT pay stp hT hR hrd pT pR prd ur w uc tot f py sp p0 p1 p2 p3 tO (show 1 + d ≤ 1 + d by omega) (show 60 + d * 29 ≤ 60 + d * 29 by omega) (Nat.zero_le _) (Nat.zero_le _) hZ IH hw hs0 hs hd g1 g3 (11 - 1 + 1) 1 (0 : Int64) hta hra _ _ _ (Nat.lt_succ_self _) (by omega) (by omega) hP hD hS (lv_sub hl [0, 1, 2, 7, 6, 5, 4, 3] rfl) (fun al_14 hta_15 hra_16 H locs ls  hP hD hS hl => ?_)
                have hP : va_P D vwCl [(h0, .inr (3, [.ref orr, .ref os, .ref ow, .ref oh, .int oup, .int obA, .long obT, .ref pay, .ref stp, .ref hT, .ref hR, .int hrd, .ref pT, .ref pR, .int prd])), (orr, .inr (4, [.ref ur])), (ur, .inl (cI, 7, .inl w)), (os, .inr (0, [.ref uc, .int tot])), (uc, .inl (cI, 11, .inl f)), (pay, .inl (cJ, 22, .inr (.inl py))), (stp, .inl (cI, 11, .inl sp)), (hT, .inl (cJ, 2304, .inr (.inl hta_15))), (hR, .inl (cI, 2304, .inl hra_16))] H := hP
                have hD : va_D A [(h0, .inr (3, [.ref orr, .ref os, .ref ow, .ref oh, .int oup, .int obA, .long obT, .ref pay, .ref stp, .ref hT, .ref hR, .int hrd, .ref pT, .ref pR, .int prd])), (orr, .inr (4, [.ref ur])), (ur, .inl (cI, 7, .inl w)), (os, .inr (0, [.ref uc, .int tot])), (uc, .inl (cI, 11, .inl f)), (pay, .inl (cJ, 22, .inr (.inl py))), (stp, .inl (cI, 11, .inl sp)), (hT, .inl (cJ, 2304, .inr (.inl hta_15))), (hR, .inl (cI, 2304, .inl hra_16))] := hD
                refine lv_aload_n hx hb dX3_houseTotal_186 rfl (lv_at hl 2 rfl) ?_
                refine va_get (D := D) (ci := 3) (v := .ref hR) (C := RX3) (T := TX3) (N := 15) hx hb hts in_X3_houseTotal_X3 hown hK hP 0 rfl rfl 10 (by decide) (hts _ wd_X3_houseTotal_6) (fun _ h9 => h9) rfl dX3_houseTotal_187 ?_
                refine lv_iload_n hx hb dX3_houseTotal_190 rfl (lv_at hl 1 rfl) ?_
                refine lv_aload_n hx hb dX3_houseTotal_191 rfl (lv_at hl 2 rfl) ?_
                refine va_get (D := D) (ci := 3) (v := .int hrd) (C := RX3) (T := TX3) (N := 15) hx hb hts in_X3_houseTotal_X3 hown hK hP 0 rfl rfl 11 (by decide) (hts _ wd_X3_houseTotal_7) (fun _ h9 => h9) rfl dX3_houseTotal_192 ?_
                refine va_iast hx hb hK hP hD hS 8 0 rfl rfl hpi dX3_houseTotal_195 (fun H locs hP hD hS => ?_)
                have hP : va_P D vwCl [(h0, .inr (3, [.ref orr, .ref os, .ref ow, .ref oh, .int oup, .int obA, .long obT, .ref pay, .ref stp, .ref hT, .ref hR, .int hrd, .ref pT, .ref pR, .int prd])), (orr, .inr (4, [.ref ur])), (ur, .inl (cI, 7, .inl w)), (os, .inr (0, [.ref uc, .int tot])), (uc, .inl (cI, 11, .inl f)), (pay, .inl (cJ, 22, .inr (.inl py))), (stp, .inl (cI, 11, .inl sp)), (hT, .inl (cJ, 2304, .inr (.inl hta_15))), (hR, .inl (cI, 2304, .inl (upd hra_16 p0.toNatClampNeg hrd)))] H := hP
                have hD : va_D A [(h0, .inr (3, [.ref orr, .ref os, .ref ow, .ref oh, .int oup, .int obA, .long obT, .ref pay, .ref stp, .ref hT, .ref hR, .int hrd, .ref pT, .ref pR, .int prd])), (orr, .inr (4, [.ref ur])), (ur, .inl (cI, 7, .inl w)), (os, .inr (0, [.ref uc, .int tot])), (uc, .inl (cI, 11, .inl f)), (pay, .inl (cJ, 22, .inr (.inl py))), (stp, .inl (cI, 11, .inl sp)), (hT, .inl (cJ, 2304, .inr (.inl hta_15))), (hR, .inl (cI, 2304, .inl (upd hra_16 p0.toNatClampNeg hrd)))] := hD
                refine lv_aload_n hx hb dX3_houseTotal_196 rfl (lv_at hl 2 rfl) ?_
                refine va_get (D := D) (ci := 3) (v := .ref hT) (C := RX3) (T := TX3) (N := 15) hx hb hts in_X3_houseTotal_X3 hown hK hP 0 rfl rfl 9 (by decide) (hts _ wd_X3_houseTotal_8) (fun _ h9 => h9) rfl dX3_houseTotal_197 ?_
                refine lv_iload_n hx hb dX3_houseTotal_200 rfl (lv_at hl 1 rfl) ?_
                refine lv_lload hx hb dX3_houseTotal_201 (lv_at hl 0 rfl) ?_
                refine va_last hx hb hK hP hD hS 7 1 rfl rfl hpi dX3_houseTotal_203 (fun H locs hP hD hS => ?_)
                have hP : va_P D vwCl [(h0, .inr (3, [.ref orr, .ref os, .ref ow, .ref oh, .int oup, .int obA, .long obT, .ref pay, .ref stp, .ref hT, .ref hR, .int hrd, .ref pT, .ref pR, .int prd])), (orr, .inr (4, [.ref ur])), (ur, .inl (cI, 7, .inl w)), (os, .inr (0, [.ref uc, .int tot])), (uc, .inl (cI, 11, .inl f)), (pay, .inl (cJ, 22, .inr (.inl py))), (stp, .inl (cI, 11, .inl sp)), (hT, .inl (cJ, 2304, .inr (.inl (vp_updL hta_15 p0.toNatClampNeg al_14)))), (hR, .inl (cI, 2304, .inl (upd hra_16 p0.toNatClampNeg hrd)))] H := hP
                have hD : va_D A [(h0, .inr (3, [.ref orr, .ref os, .ref ow, .ref oh, .int oup, .int obA, .long obT, .ref pay, .ref stp, .ref hT, .ref hR, .int hrd, .ref pT, .ref pR, .int prd])), (orr, .inr (4, [.ref ur])), (ur, .inl (cI, 7, .inl w)), (os, .inr (0, [.ref uc, .int tot])), (uc, .inl (cI, 11, .inl f)), (pay, .inl (cJ, 22, .inr (.inl py))), (stp, .inl (cI, 11, .inl sp)), (hT, .inl (cJ, 2304, .inr (.inl (vp_updL hta_15 p0.toNatClampNeg al_14)))), (hR, .inl (cI, 2304, .inl (upd hra_16 p0.toNatClampNeg hrd)))] := hD
                refine lv_lload hx hb dX3_houseTotal_204 (lv_at hl 0 rfl) ?_
                have hP9 := hP.sub (ws' := [(h0, .inr (3, [.ref orr, .ref os, .ref ow, .ref oh, .int oup, .int obA, .long obT, .ref pay, .ref stp, .ref hT, .ref hR, .int hrd, .ref pT, .ref pR, .int prd])), (orr, .inr (4, [.ref ur])), (ur, .inl (cI, 7, .inl w)), (os, .inr (0, [.ref uc, .int tot])), (uc, .inl (cI, 11, .inl f)), (pay, .inl (cJ, 22, .inr (.inl py))), (stp, .inl (cI, 11, .inl sp)), (hT, .inl (cJ, 2304, .inr (.inl (vp_updL hta_15 p0.toNatClampNeg al_14)))), (hR, .inl (cI, 2304, .inl (upd hra_16 p0.toNatClampNeg hrd)))]) [0, 1, 2, 3, 4, 5, 6, 7, 8] rfl
                have hD9 := hD.sub (ws' := [(h0, .inr (3, [.ref orr, .ref os, .ref ow, .ref oh, .int oup, .int obA, .long obT, .ref pay, .ref stp, .ref hT, .ref hR, .int hrd, .ref pT, .ref pR, .int prd])), (orr, .inr (4, [.ref ur])), (ur, .inl (cI, 7, .inl w)), (os, .inr (0, [.ref uc, .int tot])), (uc, .inl (cI, 11, .inl f)), (pay, .inl (cJ, 22, .inr (.inl py))), (stp, .inl (cI, 11, .inl sp)), (hT, .inl (cJ, 2304, .inr (.inl (vp_updL hta_15 p0.toNatClampNeg al_14)))), (hR, .inl (cI, 2304, .inl (upd hra_16 p0.toNatClampNeg hrd)))]) [0, 1, 2, 3, 4, 5, 6, 7, 8] (by decide) rfl
                exact W.lret (v := al_14) hx hb hr (fun t ht hW => ⟨⟨al_14, ((vp_updL hta_15 p0.toNatClampNeg al_14), (upd hra_16 p0.toNatClampNeg hrd)), rfl, trivial, by rw [ht]; exact hP9, va_K.moved hW.alike hK, hD9⟩, hS.F ht⟩) hS.2.2 dX3_houseTotal_206
              · skip
                refine lv_aload_n hx hb dX3_houseTotal_90 rfl (lv_at hl 1 rfl) ?_
                refine va_get (D := D) (ci := 3) (v := .ref hT) (C := RX3) (T := TX3) (N := 15) hx hb hts in_X3_houseTotal_X3 hown hK hP 0 rfl rfl 9 (by decide) (hts _ wd_X3_houseTotal_8) (fun _ h9 => h9) rfl dX3_houseTotal_91 ?_
                refine lv_iload_n hx hb dX3_houseTotal_94 rfl (lv_at hl 2 rfl) ?_
                refine va_lald hx hb hK hP 7 1 rfl rfl hpi dX3_houseTotal_95 ?_
                have hP9 := hP.sub (ws' := [(h0, .inr (3, [.ref orr, .ref os, .ref ow, .ref oh, .int oup, .int obA, .long obT, .ref pay, .ref stp, .ref hT, .ref hR, .int hrd, .ref pT, .ref pR, .int prd])), (orr, .inr (4, [.ref ur])), (ur, .inl (cI, 7, .inl w)), (os, .inr (0, [.ref uc, .int tot])), (uc, .inl (cI, 11, .inl f)), (pay, .inl (cJ, 22, .inr (.inl py))), (stp, .inl (cI, 11, .inl sp)), (hT, .inl (cJ, 2304, .inr (.inl hta))), (hR, .inl (cI, 2304, .inl hra))]) [0, 1, 2, 3, 4, 5, 6, 7, 8] rfl
                have hD9 := hD.sub (ws' := [(h0, .inr (3, [.ref orr, .ref os, .ref ow, .ref oh, .int oup, .int obA, .long obT, .ref pay, .ref stp, .ref hT, .ref hR, .int hrd, .ref pT, .ref pR, .int prd])), (orr, .inr (4, [.ref ur])), (ur, .inl (cI, 7, .inl w)), (os, .inr (0, [.ref uc, .int tot])), (uc, .inl (cI, 11, .inl f)), (pay, .inl (cJ, 22, .inr (.inl py))), (stp, .inl (cI, 11, .inl sp)), (hT, .inl (cJ, 2304, .inr (.inl hta))), (hR, .inl (cI, 2304, .inl hra))]) [0, 1, 2, 3, 4, 5, 6, 7, 8] (by decide) rfl
                exact W.lret (v := (hta p0.toNatClampNeg)) hx hb hr (fun t ht hW => ⟨⟨(hta p0.toNatClampNeg), ((hta), (hra)), rfl, trivial, by rw [ht]; exact hP9, va_K.moved hW.alike hK, hD9⟩, hS.F ht⟩) hS.2.2 dX3_houseTotal_96
            · skip
              refine lv_aload_n hx hb dX3_houseTotal_56 rfl (lv_at hl 1 rfl) ?_
              refine va_get (D := D) (ci := 3) (v := .ref pay) (C := RX3) (T := TX3) (N := 15) hx hb hts in_X3_houseTotal_X3 hown hK hP 0 rfl rfl 7 (by decide) (hts _ wd_X3_houseTotal_3) (fun _ h9 => h9) rfl dX3_houseTotal_57 ?_
              refine lv_aload_n hx hb dX3_houseTotal_60 rfl (lv_at hl 1 rfl) ?_
              refine va_get (D := D) (ci := 3) (v := .ref orr) (C := RX3) (T := TX3) (N := 15) hx hb hts in_X3_houseTotal_X3 hown hK hP 0 rfl rfl 0 (by decide) (hts _ wd_X3_houseTotal_2) (fun _ h9 => h9) rfl dX3_houseTotal_61 ?_
              refine lv_iload hx hb dX3_houseTotal_64 (lv_at hl 0 rfl) ?_
              have hPc := hP.sub (ws' := [(orr, .inr (4, [.ref ur])), (ur, .inl (cI, 7, .inl w))]) [1, 2] rfl
              refine vp_callSi (W.runV (As := [.int (vlC (w) p1 p2)]) (rest := [.ref pay]) ⟨hx, hb, hml, hown, hts⟩ (c_X4_endV l D cI cJ cQ orr ur (w) (vlC (w) p1 p2)) (cwV 1 hts gX3_houseTotal_X4_end rfl rfl rfl (by decide +kernel) ⟨show 0 + 1 ≤ 1 + d by omega, show 8 + (2 + 11) + (0) ≤ 60 + d * 29 by omega⟩) (rP_preV (ci := 4) (q0 := 0) hPc hK rfl rfl) rfl rfl hl.1 rfl (lv_room (Nat.le_of_ble_eq_true rfl)) dX3_houseTotal_66 ⟨Nat.le_of_ble_eq_true rfl, Nat.le_of_ble_eq_true rfl⟩) (fun r_17 hr_17 => ?_)
              subst hr_17
              refine va_lald hx hb hK hP 5 1 rfl rfl (en_in g1 hs0 hw) dX3_houseTotal_69 ?_
              refine lv_iload hx hb dX3_houseTotal_70 (lv_at hl 5 rfl) ?_
              have hPc := hP.sub (ws' := []) [] rfl
              refine vp_callSl (va_Run.toC (va_runSN (As := [.int p3]) (rest := [.long (py (enC (w) (vlC (w) p1 p2)).toNatClampNeg)]) ⟨hx, hb, hml, hown, hts⟩ (c_X5_orders l D cI cJ cQ p3 tO) (⟨va_cnB 1 hts gX3_houseTotal_X5_orders_n143 rfl rfl rfl hZ.2.2 (hts _ wd_X3_houseTotal_4) (by decide +kernel) ⟨show 0 + 1 ≤ 1 + d by omega, show 8 + (1 + 11) + (0) ≤ 60 + d * 29 by omega⟩, (hts _ wd_X3_houseTotal_5), trivial⟩) (rPo_preS hPc hK hZ hS) rfl rfl hl.1 rfl (lv_room (Nat.le_of_ble_eq_true rfl)) dX3_houseTotal_72 ⟨Nat.le_of_ble_eq_true rfl, Nat.le_of_ble_eq_true rfl⟩)) (fun r_18 hr_18 => ?_)
              subst hr_18
              refine lv_lmul hx hb dX3_houseTotal_75 ?_
              have hP9 := hP.sub (ws' := [(h0, .inr (3, [.ref orr, .ref os, .ref ow, .ref oh, .int oup, .int obA, .long obT, .ref pay, .ref stp, .ref hT, .ref hR, .int hrd, .ref pT, .ref pR, .int prd])), (orr, .inr (4, [.ref ur])), (ur, .inl (cI, 7, .inl w)), (os, .inr (0, [.ref uc, .int tot])), (uc, .inl (cI, 11, .inl f)), (pay, .inl (cJ, 22, .inr (.inl py))), (stp, .inl (cI, 11, .inl sp)), (hT, .inl (cJ, 2304, .inr (.inl hta))), (hR, .inl (cI, 2304, .inl hra))]) [0, 1, 2, 3, 4, 5, 6, 7, 8] rfl
              have hD9 := hD.sub (ws' := [(h0, .inr (3, [.ref orr, .ref os, .ref ow, .ref oh, .int oup, .int obA, .long obT, .ref pay, .ref stp, .ref hT, .ref hR, .int hrd, .ref pT, .ref pR, .int prd])), (orr, .inr (4, [.ref ur])), (ur, .inl (cI, 7, .inl w)), (os, .inr (0, [.ref uc, .int tot])), (uc, .inl (cI, 11, .inl f)), (pay, .inl (cJ, 22, .inr (.inl py))), (stp, .inl (cI, 11, .inl sp)), (hT, .inl (cJ, 2304, .inr (.inl hta))), (hR, .inl (cI, 2304, .inl hra))]) [0, 1, 2, 3, 4, 5, 6, 7, 8] (by decide) rfl
              exact W.lret (v := ((py (enC (w) (vlC (w) p1 p2)).toNatClampNeg) * (orC p3))) hx hb hr (fun t ht hW => ⟨⟨((py (enC (w) (vlC (w) p1 p2)).toNatClampNeg) * (orC p3)), ((hta), (hra)), rfl, trivial, by rw [ht]; exact hP9, va_K.moved hW.alike hK, hD9⟩, hS.F ht⟩) hS.2.2 dX3_houseTotal_76
          · skip
            refine lv_iload hx hb dX3_houseTotal_39 (lv_at hl 0 rfl) ?_
            refine lv_iload_n hx hb dX3_houseTotal_41 rfl (lv_at hl 3 rfl) ?_
            refine lv_icmp_eq (tgt := 49) hx hb dX3_houseTotal_42 (by decide) (fun c42_19 => ?_) (fun c42_19 => ?_)
            · skip
              refine lv_iconst (v := 0) hx hb dX3_houseTotal_49 (by decide) ?_
              exact hJ_8 false ls (lv_sub hl [0, 1, 2, 3, 4, 5] rfl) (by first | assumption | (simp [c42_19]; done) | ((try first | rw [if_pos c42_19] | rw [if_neg c42_19]); first | done | rfl | trivial) | (simp_all; done))
            · skip
              refine lv_iconst (v := 1) hx hb dX3_houseTotal_45 (by decide) ?_
              refine lv_goto (tgt := 50) hx hb dX3_houseTotal_46 (by decide) ?_
              exact hJ_8 true ls (lv_sub hl [0, 1, 2, 3, 4, 5] rfl) (by first | assumption | (simp [c42_19]; done) | ((try first | rw [if_pos c42_19] | rw [if_neg c42_19]); first | done | rfl | trivial) | (simp_all; done))
      · skip
        refine lv_lconst (v := 0) hx hb dX3_houseTotal_15 (by decide) ?_
        have hP9 := hP.sub (ws' := [(h0, .inr (3, [.ref orr, .ref os, .ref ow, .ref oh, .int oup, .int obA, .long obT, .ref pay, .ref stp, .ref hT, .ref hR, .int hrd, .ref pT, .ref pR, .int prd])), (orr, .inr (4, [.ref ur])), (ur, .inl (cI, 7, .inl w)), (os, .inr (0, [.ref uc, .int tot])), (uc, .inl (cI, 11, .inl f)), (pay, .inl (cJ, 22, .inr (.inl py))), (stp, .inl (cI, 11, .inl sp)), (hT, .inl (cJ, 2304, .inr (.inl hta))), (hR, .inl (cI, 2304, .inl hra))]) [0, 1, 2, 3, 4, 5, 6, 7, 8] rfl
        have hD9 := hD.sub (ws' := [(h0, .inr (3, [.ref orr, .ref os, .ref ow, .ref oh, .int oup, .int obA, .long obT, .ref pay, .ref stp, .ref hT, .ref hR, .int hrd, .ref pT, .ref pR, .int prd])), (orr, .inr (4, [.ref ur])), (ur, .inl (cI, 7, .inl w)), (os, .inr (0, [.ref uc, .int tot])), (uc, .inl (cI, 11, .inl f)), (pay, .inl (cJ, 22, .inr (.inl py))), (stp, .inl (cI, 11, .inl sp)), (hT, .inl (cJ, 2304, .inr (.inl hta))), (hR, .inl (cI, 2304, .inl hra))]) [0, 1, 2, 3, 4, 5, 6, 7, 8] (by decide) rfl
        exact W.lret (v := 0) hx hb hr (fun t ht hW => ⟨⟨0, ((hta), (hra)), rfl, trivial, by rw [ht]; exact hP9, va_K.moved hW.alike hK, hD9⟩, hS.F ht⟩) hS.2.2 dX3_houseTotal_16

theorem c_X3_houseTotal_all (l : Launch) (D : va_G) (cI cJ cQ : ClassId) : ∀ (d : Nat), ∀ (sz : Nat), ∀ (h0 : Nat), ∀ (orr : Nat), ∀ (os : Nat), ∀ (ow : Nat), ∀ (oh : Nat), ∀ (oup : Int32), ∀ (obA : Int32), ∀ (obT : Int64), ∀ (pay : Nat), ∀ (stp : Nat), ∀ (hT : Nat), ∀ (hR : Nat), ∀ (hrd : Int32), ∀ (pT : Nat), ∀ (pR : Nat), ∀ (prd : Int32), ∀ (ur : Nat), ∀ (w : Nat → Int32), ∀ (uc : Nat), ∀ (tot : Int32), ∀ (f : Nat → Int32), ∀ (py : Nat → Int64), ∀ (sp : Nat → Int32), ∀ (hta : Nat → Int64), ∀ (hra : Nat → Int32), ∀ (p0 : Int32), ∀ (p1 : Int32), ∀ (p2 : Bool), ∀ (p3 : Int32), ∀ (tO : Nat), ((w 0).toInt ≤ 21) → (p1.toInt ≤ 1000) → (p1.toInt + 10 * p3.toInt ≤ 1000) → (p3.toInt ≤ (d : Int)) → Met l yX3_houseTotal wsX3_houseTotal ({ frames := 1 + d, cells := 0, slots := 0, locals := 60 + d * 29 }) (va_Pc [.ref h0, .int p0, .int p1, .int (bI p2), .int p3] (mPo D (gTy cI cJ cQ) [(h0, .inr (3, [.ref orr, .ref os, .ref ow, .ref oh, .int oup, .int obA, .long obT, .ref pay, .ref stp, .ref hT, .ref hR, .int hrd, .ref pT, .ref pR, .int prd])), (orr, .inr (4, [.ref ur])), (ur, .inl (cI, 7, .inl w)), (os, .inr (0, [.ref uc, .int tot])), (uc, .inl (cI, 11, .inl f)), (pay, .inl (cJ, 22, .inr (.inl py))), (stp, .inl (cI, 11, .inl sp)), (hT, .inl (cJ, 2304, .inr (.inl hta))), (hR, .inl (cI, 2304, .inl hra))] sz tO)) (va_Ql (fun (r : Int64) (u : (Nat → Int64) × (Nat → Int32)) => match u with | (ht2, hr2) => True) (fun (u : (Nat → Int64) × (Nat → Int32)) t => match u with | (ht2, hr2) => mB D (gTy cI cJ cQ) (va_A [(h0, .inr (3, [.ref orr, .ref os, .ref ow, .ref oh, .int oup, .int obA, .long obT, .ref pay, .ref stp, .ref hT, .ref hR, .int hrd, .ref pT, .ref pR, .int prd])), (orr, .inr (4, [.ref ur])), (ur, .inl (cI, 7, .inl w)), (os, .inr (0, [.ref uc, .int tot])), (uc, .inl (cI, 11, .inl f)), (pay, .inl (cJ, 22, .inr (.inl py))), (stp, .inl (cI, 11, .inl sp)), (hT, .inl (cJ, 2304, .inr (.inl hta))), (hR, .inl (cI, 2304, .inl hra))] sz) [(h0, .inr (3, [.ref orr, .ref os, .ref ow, .ref oh, .int oup, .int obA, .long obT, .ref pay, .ref stp, .ref hT, .ref hR, .int hrd, .ref pT, .ref pR, .int prd])), (orr, .inr (4, [.ref ur])), (ur, .inl (cI, 7, .inl w)), (os, .inr (0, [.ref uc, .int tot])), (uc, .inl (cI, 11, .inl f)), (pay, .inl (cJ, 22, .inr (.inl py))), (stp, .inl (cI, 11, .inl sp)), (hT, .inl (cJ, 2304, .inr (.inl ht2))), (hR, .inl (cI, 2304, .inl hr2))] t) (va_A [(h0, .inr (3, [.ref orr, .ref os, .ref ow, .ref oh, .int oup, .int obA, .long obT, .ref pay, .ref stp, .ref hT, .ref hR, .int hrd, .ref pT, .ref pR, .int prd])), (orr, .inr (4, [.ref ur])), (ur, .inl (cI, 7, .inl w)), (os, .inr (0, [.ref uc, .int tot])), (uc, .inl (cI, 11, .inl f)), (pay, .inl (cJ, 22, .inr (.inl py))), (stp, .inl (cI, 11, .inl sp)), (hT, .inl (cJ, 2304, .inr (.inl hta))), (hR, .inl (cI, 2304, .inl hra))] sz)) 0 0 (va_A [(h0, .inr (3, [.ref orr, .ref os, .ref ow, .ref oh, .int oup, .int obA, .long obT, .ref pay, .ref stp, .ref hT, .ref hR, .int hrd, .ref pT, .ref pR, .int prd])), (orr, .inr (4, [.ref ur])), (ur, .inl (cI, 7, .inl w)), (os, .inr (0, [.ref uc, .int tot])), (uc, .inl (cI, 11, .inl f)), (pay, .inl (cJ, 22, .inr (.inl py))), (stp, .inl (cI, 11, .inl sp)), (hT, .inl (cJ, 2304, .inr (.inl hta))), (hR, .inl (cI, 2304, .inl hra))] sz) := by
  intro d
  induction d using Nat.strongRecOn with
  | ind d ih => exact fun sz h0 orr os ow oh oup obA obT pay stp hT hR hrd pT pR prd ur w uc tot f py sp hta hra p0 p1 p2 p3 tO hw hs0 hs hd => c_X3_houseTotal_step l D cI cJ cQ d ih sz h0 orr os ow oh oup obA obT pay stp hT hR hrd pT pR prd ur w uc tot f py sp hta hra p0 p1 p2 p3 tO hw hs0 hs hd
