
set_option maxHeartbeats 400000 in
set_option maxRecDepth 100000 in
theorem lpPayV {p : Program} {l : Launch} {e : Env} {R : Room} {s : State} {m : MethodId} {args : Array Value} {below : List Frame} {meth : Method} {c : Code} {Q : State → Prop} {D : va_G} {cI cJ cQ : ClassId} {A : Nat → Prop} {cells slots : Nat} (hx : p.tables.exec = Jvm.exec) (hb : c.code = cX3_standTotal) (hml : c.maxLocals = 8) (hown : s.vm.findClass RX3 = some m.cls) (hts : ∀ w ∈ wsX3_standTotal, w.before args s = true) (hK : va_K D vwCl (gTy cI cJ cQ) s) (hA : ∀ q : Nat, s.heap.size ≤ q → A q) (h0 : Nat) (orr : Nat) (os : Nat) (ow : Nat) (oh : Nat) (oup : Int32) (obA : Int32) (obT : Int64) (pay : Nat) (stp : Nat) (hT : Nat) (hR : Nat) (hrd : Int32) (pT : Nat) (pR : Nat) (prd : Int32) (ur : Nat) (w : Nat → Int32) (uc : Nat) (tot : Int32) (f : Nat → Int32) (sp : Nat → Int32) (hta : Nat → Int64) (hra : Nat → Int32) (p0 : Int32) (p1 : Int32) (p2 : Bool) (p3 : Int32) (v5 : Int32) (b6 : Bool) (hRf : 1 ≤ R.frames) (hRl : 23 ≤ R.locals) (hRc : cells ≤ R.cells) (hRs : slots ≤ R.slots)  : ∀ (n9 : Nat) (k : Nat) (py : Nat → Int64) (H : Heap) (locs : List Loc) (ls : Array Slot), 22 - k < n9 → (k ≤ 22) → (∀ j, j < k → py j = pyS w v5 b6 j) → va_P D vwCl [(h0, .inr (3, [.ref orr, .ref os, .ref ow, .ref oh, .int oup, .int obA, .long obT, .ref pay, .ref stp, .ref hT, .ref hR, .int hrd, .ref pT, .ref pR, .int prd])), (orr, .inr (4, [.ref ur])), (ur, .inl (cI, 7, .inl w)), (os, .inr (0, [.ref uc, .int tot])), (uc, .inl (cI, 11, .inl f)), (pay, .inl (cJ, 22, .inr (.inl py))), (stp, .inl (cI, 11, .inl sp)), (hT, .inl (cJ, 2304, .inr (.inl hta))), (hR, .inl (cI, 2304, .inl hra))] H → va_D A [(h0, .inr (3, [.ref orr, .ref os, .ref ow, .ref oh, .int oup, .int obA, .long obT, .ref pay, .ref stp, .ref hT, .ref hR, .int hrd, .ref pT, .ref pR, .int prd])), (orr, .inr (4, [.ref ur])), (ur, .inl (cI, 7, .inl w)), (os, .inr (0, [.ref uc, .int tot])), (uc, .inl (cI, 11, .inl f)), (pay, .inl (cJ, 22, .inr (.inl py))), (stp, .inl (cI, 11, .inl sp)), (hT, .inl (cJ, 2304, .inr (.inl hta))), (hR, .inl (cI, 2304, .inl hra))] → va_S A s.heap H locs → lv_has ls 8 [(7, .int (nI k)), (6, .int (bI b6)), (5, .int v5), (4, .int p3), (3, .int (bI p2)), (2, .int p1), (1, .int p0), (0, .ref h0)] → (∀ (py : Nat → Int64) (H : Heap) (locs : List Loc) (ls : Array Slot), (∀ j, j < 22 → py j = pyS w v5 b6 j) → va_P D vwCl [(h0, .inr (3, [.ref orr, .ref os, .ref ow, .ref oh, .int oup, .int obA, .long obT, .ref pay, .ref stp, .ref hT, .ref hR, .int hrd, .ref pT, .ref pR, .int prd])), (orr, .inr (4, [.ref ur])), (ur, .inl (cI, 7, .inl w)), (os, .inr (0, [.ref uc, .int tot])), (uc, .inl (cI, 11, .inl f)), (pay, .inl (cJ, 22, .inr (.inl py))), (stp, .inl (cI, 11, .inl sp)), (hT, .inl (cJ, 2304, .inr (.inl hta))), (hR, .inl (cI, 2304, .inl hra))] H → va_D A [(h0, .inr (3, [.ref orr, .ref os, .ref ow, .ref oh, .int oup, .int obA, .long obT, .ref pay, .ref stp, .ref hT, .ref hR, .int hrd, .ref pT, .ref pR, .int prd])), (orr, .inr (4, [.ref ur])), (ur, .inl (cI, 7, .inl w)), (os, .inr (0, [.ref uc, .int tot])), (uc, .inl (cI, 11, .inl f)), (pay, .inl (cJ, 22, .inr (.inl py))), (stp, .inl (cI, 11, .inl sp)), (hT, .inl (cJ, 2304, .inr (.inl hta))), (hR, .inl (cI, 2304, .inl hra))] → va_S A s.heap H locs → lv_has ls 8 [(1, .int p0), (0, .ref h0)] → W p l e R s m args below meth c H locs cells slots Q (F0 m 87 ls [])) → W p l e R s m args below meth c H locs cells slots Q (F0 m 53 ls []) := by
  intro n9
  induction n9 with
  | zero => intro k py H locs ls hms9; exact absurd hms9 (Nat.not_lt_zero _)
  | succ n9 ih =>
    intro k py H locs ls hms9 k2 hpy hP hD hS hl kk0
    refine lv_iload hx hb dX3_standTotal_53 (lv_at hl 0 rfl) ?_
    refine lv_bipush (v := 21) hx hb dX3_standTotal_55 (by decide) ?_
    refine lv_icmp_gt (tgt := 87) hx hb dX3_standTotal_57 (by decide) (fun c57_1 => ?_) (fun c57_1 => ?_)
    · skip
      have nc57_1 : 21 < k := (nI_ltI (a := 21) (b := k) (by omega) (by omega)).mp c57_1
      exact kk0 py _ _ _ (fun j a => hpy j (by omega)) hP hD hS (lv_sub hl [6, 7] rfl)
    · skip
      have nc57_1 : ¬ (21 < k) := fun z9 => c57_1 ((nI_ltI (a := 21) (b := k) (by omega) (by omega)).mpr z9)
      refine lv_aload_n hx hb dX3_standTotal_60 rfl (lv_at hl 7 rfl) ?_
      refine va_get (D := D) (ci := 3) (v := .ref pay) (C := RX3) (T := TX3) (N := 15) hx hb hts in_X3_standTotal_X3 hown hK hP 0 rfl rfl 7 (by decide) (hts _ wd_X3_standTotal_0) (fun _ h9 => h9) rfl dX3_standTotal_61 ?_
      refine lv_iload hx hb dX3_standTotal_64 (lv_at hl 0 rfl) ?_
      refine lv_aload_n hx hb dX3_standTotal_66 rfl (lv_at hl 7 rfl) ?_
      refine va_get (D := D) (ci := 3) (v := .ref orr) (C := RX3) (T := TX3) (N := 15) hx hb hts in_X3_standTotal_X3 hown hK hP 0 rfl rfl 0 (by decide) (hts _ wd_X3_standTotal_1) (fun _ h9 => h9) rfl dX3_standTotal_67 ?_
      refine lv_iload hx hb dX3_standTotal_70 (lv_at hl 2 rfl) ?_
      refine lv_iload hx hb dX3_standTotal_72 (lv_at hl 1 rfl) ?_
      refine lv_iload hx hb dX3_standTotal_74 (lv_at hl 0 rfl) ?_
      have hPc := hP.sub (ws' := [(orr, .inr (4, [.ref ur])), (ur, .inl (cI, 7, .inl w))]) [1, 2] rfl
      refine vp_callSi (W.runV (As := [.int v5, .int (bI b6), .int (nI k)]) (rest := [.int (nI k), .ref pay]) ⟨hx, hb, hml, hown, hts⟩ (c_X4_settledV l D cI cJ cQ orr ur (w) v5 b6 (nI k)) (cwV 3 hts gX3_standTotal_X4_settled rfl rfl rfl (by decide +kernel) ⟨Nat.le_trans (show 0 + 1 ≤ 1 by omega) hRf, Nat.le_trans (show 8 + (4 + 11) + (0) ≤ 23 by omega) hRl⟩) (rP_preV (ci := 4) (q0 := 0) hPc hK rfl rfl) rfl rfl hl.1 rfl (lv_room (Nat.le_of_ble_eq_true rfl)) dX3_standTotal_76 ⟨hRc, hRs⟩) (fun r_2 hr_2 => ?_)
      subst hr_2
      refine lv_i2l (v := (stC (w) v5 b6 (nI k)).toInt64) hx hb dX3_standTotal_79 rfl ?_
      refine va_last hx hb hK hP hD hS 5 1 rfl rfl (vp_in_nI (by omega) (by decide)) dX3_standTotal_80 (fun H locs hP hD hS => ?_)
      have e9 : (vp_updL py (nI k).toNatClampNeg ((stC (w) v5 b6 (nI k)).toInt64)) = vp_updL py k ((stC (w) v5 b6 (nI k)).toInt64) := by rw [nI_clamp (show k < 2 ^ 31 by omega)]
      have hP : va_P D vwCl [(h0, .inr (3, [.ref orr, .ref os, .ref ow, .ref oh, .int oup, .int obA, .long obT, .ref pay, .ref stp, .ref hT, .ref hR, .int hrd, .ref pT, .ref pR, .int prd])), (orr, .inr (4, [.ref ur])), (ur, .inl (cI, 7, .inl w)), (os, .inr (0, [.ref uc, .int tot])), (uc, .inl (cI, 11, .inl f)), (pay, .inl (cJ, 22, .inr (.inl (vp_updL py k ((stC (w) v5 b6 (nI k)).toInt64))))), (stp, .inl (cI, 11, .inl sp)), (hT, .inl (cJ, 2304, .inr (.inl hta))), (hR, .inl (cI, 2304, .inl hra))] H := by rw [← e9]; exact hP
      have hD : va_D A [(h0, .inr (3, [.ref orr, .ref os, .ref ow, .ref oh, .int oup, .int obA, .long obT, .ref pay, .ref stp, .ref hT, .ref hR, .int hrd, .ref pT, .ref pR, .int prd])), (orr, .inr (4, [.ref ur])), (ur, .inl (cI, 7, .inl w)), (os, .inr (0, [.ref uc, .int tot])), (uc, .inl (cI, 11, .inl f)), (pay, .inl (cJ, 22, .inr (.inl (vp_updL py k ((stC (w) v5 b6 (nI k)).toInt64))))), (stp, .inl (cI, 11, .inl sp)), (hT, .inl (cJ, 2304, .inr (.inl hta))), (hR, .inl (cI, 2304, .inl hra))] := by rw [← e9]; exact hD
      clear e9
      refine lv_iinc (v := (nI (k + 1))) (lv' := [(7, .int (nI (k + 1))), (6, .int (bI b6)), (5, .int v5), (4, .int p3), (3, .int (bI p2)), (2, .int p1), (1, .int p0), (0, .ref h0)]) hx hb dX3_standTotal_81 hl (k := 0) rfl (nI_incT (by decide)) (by decide) rfl (fun ls hl => ?_)
      refine lv_goto (tgt := 53) hx hb dX3_standTotal_84 (by decide) ?_
      exact ih (k + 1) (vp_updL py k ((stC (w) v5 b6 (nI k)).toInt64)) _ _ _ (by omega) (by omega) (updL_s hpy rfl) hP hD hS (lv_sub hl [0, 1, 2, 3, 4, 5, 6, 7] rfl) kk0

set_option maxHeartbeats 400000 in
set_option maxRecDepth 100000 in
/-- X3_standTotal -/
theorem c_X3_standTotalV (l : Launch) (D : va_G) (cI cJ cQ : ClassId) (sz : Nat) (h0 : Nat) (orr : Nat) (os : Nat) (ow : Nat) (oh : Nat) (oup : Int32) (obA : Int32) (obT : Int64) (pay : Nat) (stp : Nat) (hT : Nat) (hR : Nat) (hrd : Int32) (pT : Nat) (pR : Nat) (prd : Int32) (ur : Nat) (w : Nat → Int32) (uc : Nat) (tot : Int32) (f : Nat → Int32) (py : Nat → Int64) (sp : Nat → Int32) (hta : Nat → Int64) (hra : Nat → Int32) (p0 : Int32) (p1 : Int32) (p2 : Bool) (p3 : Int32) (tO : Nat) (cap : Nat → Nat) (cz : Nat → Nat) (un : Nat) (hw : (w 0).toInt ≤ 21) (hcap : smN cap ≤ 12) (hlc : le10 cz cap) (hcn : cntI f cz) (hst : ∀ j, 1 ≤ j → j ≤ 10 → sp j = nI (hpN cap (j - 1))) (hup : oup = nI un) (hun : un ≤ 10) (htt : tot = nI (smN cz)) (hI : RI hra hrd) (hrb : hrd.toInt < 2147483647) (hp0 : p0 = nI (ixC cap cz)) : Met l yX3_standTotal wsX3_standTotal ({ frames := 14, cells := 0, slots := 0, locals := 437 }) (va_Pc [.ref h0, .int p0, .int p1, .int (bI p2), .int p3] (mPo D (gTy cI cJ cQ) [(h0, .inr (3, [.ref orr, .ref os, .ref ow, .ref oh, .int oup, .int obA, .long obT, .ref pay, .ref stp, .ref hT, .ref hR, .int hrd, .ref pT, .ref pR, .int prd])), (orr, .inr (4, [.ref ur])), (ur, .inl (cI, 7, .inl w)), (os, .inr (0, [.ref uc, .int tot])), (uc, .inl (cI, 11, .inl f)), (pay, .inl (cJ, 22, .inr (.inl py))), (stp, .inl (cI, 11, .inl sp)), (hT, .inl (cJ, 2304, .inr (.inl hta))), (hR, .inl (cI, 2304, .inl hra))] sz tO)) (va_Ql (fun (r : Int64) (u : (Nat → Int64) × Int32 × (Nat → Int64) × (Nat → Int32)) => match u with | (py2, hrd2, ht2, hr2) => r = stV w un cz p1 p2 p3 ∧ RI hr2 hrd2 ∧ hrd.toInt ≤ hrd2.toInt ∧ hrd2.toInt ≤ hrd.toInt + 1) (fun (u : (Nat → Int64) × Int32 × (Nat → Int64) × (Nat → Int32)) t => match u with | (py2, hrd2, ht2, hr2) => mB D (gTy cI cJ cQ) (va_A [(h0, .inr (3, [.ref orr, .ref os, .ref ow, .ref oh, .int oup, .int obA, .long obT, .ref pay, .ref stp, .ref hT, .ref hR, .int hrd, .ref pT, .ref pR, .int prd])), (orr, .inr (4, [.ref ur])), (ur, .inl (cI, 7, .inl w)), (os, .inr (0, [.ref uc, .int tot])), (uc, .inl (cI, 11, .inl f)), (pay, .inl (cJ, 22, .inr (.inl py))), (stp, .inl (cI, 11, .inl sp)), (hT, .inl (cJ, 2304, .inr (.inl hta))), (hR, .inl (cI, 2304, .inl hra))] sz) [(h0, .inr (3, [.ref orr, .ref os, .ref ow, .ref oh, .int oup, .int obA, .long obT, .ref pay, .ref stp, .ref hT, .ref hR, .int hrd2, .ref pT, .ref pR, .int prd])), (orr, .inr (4, [.ref ur])), (ur, .inl (cI, 7, .inl w)), (os, .inr (0, [.ref uc, .int tot])), (uc, .inl (cI, 11, .inl f)), (pay, .inl (cJ, 22, .inr (.inl py2))), (stp, .inl (cI, 11, .inl sp)), (hT, .inl (cJ, 2304, .inr (.inl ht2))), (hR, .inl (cI, 2304, .inl hr2))] t) (va_A [(h0, .inr (3, [.ref orr, .ref os, .ref ow, .ref oh, .int oup, .int obA, .long obT, .ref pay, .ref stp, .ref hT, .ref hR, .int hrd, .ref pT, .ref pR, .int prd])), (orr, .inr (4, [.ref ur])), (ur, .inl (cI, 7, .inl w)), (os, .inr (0, [.ref uc, .int tot])), (uc, .inl (cI, 11, .inl f)), (pay, .inl (cJ, 22, .inr (.inl py))), (stp, .inl (cI, 11, .inl sp)), (hT, .inl (cJ, 2304, .inr (.inl hta))), (hR, .inl (cI, 2304, .inl hra))] sz)) 0 0 (va_A [(h0, .inr (3, [.ref orr, .ref os, .ref ow, .ref oh, .int oup, .int obA, .long obT, .ref pay, .ref stp, .ref hT, .ref hR, .int hrd, .ref pT, .ref pR, .int prd])), (orr, .inr (4, [.ref ur])), (ur, .inl (cI, 7, .inl w)), (os, .inr (0, [.ref uc, .int tot])), (uc, .inl (cI, 11, .inl f)), (pay, .inl (cJ, 22, .inr (.inl py))), (stp, .inl (cI, 11, .inl sp)), (hT, .inl (cJ, 2304, .inr (.inl hta))), (hR, .inl (cI, 2304, .inl hra))] sz) := by
  refine Met.ofW (cc := cX3_standTotal) (maxL := 8) (ret := (some .long)) (by decide) rfl ?_
  intro p e s m args below meth c s₁ B hml hv
  obtain ⟨rfl, ⟨hsz, hP, hK, hD0⟩, hZ⟩ := hv
  have hx := B.exec
  have hb := B.bytes
  have hr := B.returns
  have hts := atoms_spec (ws := wsX3_standTotal) B.pre
  have hown : s.vm.findClass RX3 = some m.cls := findClass_of_methodNamed B.named
  have hlocks := B.notSynchronized
  subst hsz
  have hD := hD0.self (sz := s.heap.size)
  generalize hAe : va_A [(h0, .inr (3, [.ref orr, .ref os, .ref ow, .ref oh, .int oup, .int obA, .long obT, .ref pay, .ref stp, .ref hT, .ref hR, .int hrd, .ref pT, .ref pR, .int prd])), (orr, .inr (4, [.ref ur])), (ur, .inl (cI, 7, .inl w)), (os, .inr (0, [.ref uc, .int tot])), (uc, .inl (cI, 11, .inl f)), (pay, .inl (cJ, 22, .inr (.inl py))), (stp, .inl (cI, 11, .inl sp)), (hT, .inl (cJ, 2304, .inr (.inl hta))), (hR, .inl (cI, 2304, .inl hra))] s.heap.size = A at hD hZ ⊢
  have hA : ∀ q : Nat, s.heap.size ≤ q → A q := fun q h => by rw [← hAe]; exact Or.inr h
  have hS : va_S A s.heap s.heap [] := va_S.rf
  have hP : va_P D vwCl [(h0, .inr (3, [.ref orr, .ref os, .ref ow, .ref oh, .int oup, .int obA, .long obT, .ref pay, .ref stp, .ref hT, .ref hR, .int hrd, .ref pT, .ref pR, .int prd])), (orr, .inr (4, [.ref ur])), (ur, .inl (cI, 7, .inl w)), (os, .inr (0, [.ref uc, .int tot])), (uc, .inl (cI, 11, .inl f)), (pay, .inl (cJ, 22, .inr (.inl py))), (stp, .inl (cI, 11, .inl sp)), (hT, .inl (cJ, 2304, .inr (.inl hta))), (hR, .inl (cI, 2304, .inl hra))] s.heap := hP
  have hl := lv_entry ([.ref h0, .int p0, .int p1, .int (bI p2), .int p3]) (n := 8) (Nat.le_of_ble_eq_true rfl)
  rw [lg_entry_eq]
  generalize (lg_sl ([.ref h0, .int p0, .int p1, .int (bI p2), .int p3]) ++ List.replicate (8 - (lg_sl ([.ref h0, .int p0, .int p1, .int (bI p2), .int p3])).length) Slot.unset).toArray = ls at hl ⊢
  have hl : lv_has ls 8 [(0, .ref h0), (1, .int p0), (2, .int p1), (3, .int (bI p2)), (4, .int p3)] := hl
  refine lv_aload_n hx hb dX3_standTotal_0 rfl (lv_at hl 0 rfl) ?_
  refine va_get (D := D) (ci := 3) (v := .ref orr) (C := RX3) (T := TX3) (N := 15) hx hb hts in_X3_standTotal_X3 hown hK hP 0 rfl rfl 0 (by decide) (hts _ wd_X3_standTotal_1) (fun _ h9 => h9) rfl dX3_standTotal_1 ?_
  refine lv_iload_n hx hb dX3_standTotal_4 rfl (lv_at hl 2 rfl) ?_
  have hPc := hP.sub (ws' := [(orr, .inr (4, [.ref ur])), (ur, .inl (cI, 7, .inl w))]) [1, 2] rfl
  refine vp_callSi (W.runV (As := [.int p1]) (rest := []) ⟨hx, hb, hml, hown, hts⟩ (c_X4_isBustV l D cI cJ cQ orr ur (w) p1) (cwV 1 hts gX3_standTotal_X4_isBust rfl rfl rfl (by decide +kernel) ⟨Nat.le_of_ble_eq_true rfl, Nat.le_of_ble_eq_true rfl⟩) (rP_preV (ci := 4) (q0 := 0) hPc hK rfl rfl) rfl rfl hl.1 rfl (lv_room (Nat.le_of_ble_eq_true rfl)) dX3_standTotal_5 ⟨Nat.le_of_ble_eq_true rfl, Nat.le_of_ble_eq_true rfl⟩) (fun r_1 hr_1 => ?_)
  subst hr_1
  refine lv_if_eq (tgt := 26) hx hb dX3_standTotal_8 (by decide) (fun c8_2 => ?_) (fun c8_2 => ?_)
  · skip
    refine lv_aload_n hx hb dX3_standTotal_26 rfl (lv_at hl 0 rfl) ?_
    refine va_get (D := D) (ci := 3) (v := .ref orr) (C := RX3) (T := TX3) (N := 15) hx hb hts in_X3_standTotal_X3 hown hK hP 0 rfl rfl 0 (by decide) (hts _ wd_X3_standTotal_1) (fun _ h9 => h9) rfl dX3_standTotal_27 ?_
    refine lv_iload_n hx hb dX3_standTotal_30 rfl (lv_at hl 2 rfl) ?_
    refine lv_iload_n hx hb dX3_standTotal_31 rfl (lv_at hl 3 rfl) ?_
    have hPc := hP.sub (ws' := [(orr, .inr (4, [.ref ur])), (ur, .inl (cI, 7, .inl w))]) [1, 2] rfl
    refine vp_callSi (W.runV (As := [.int p1, .int (bI p2)]) (rest := []) ⟨hx, hb, hml, hown, hts⟩ (c_X4_valueV l D cI cJ cQ orr ur (w) p1 p2) (cwV 2 hts gX3_standTotal_X4_value rfl rfl rfl (by decide +kernel) ⟨Nat.le_of_ble_eq_true rfl, Nat.le_of_ble_eq_true rfl⟩) (rP_preV (ci := 4) (q0 := 0) hPc hK rfl rfl) rfl rfl hl.1 rfl (lv_room (Nat.le_of_ble_eq_true rfl)) dX3_standTotal_32 ⟨Nat.le_of_ble_eq_true rfl, Nat.le_of_ble_eq_true rfl⟩) (fun r_3 hr_3 => ?_)
    subst hr_3
    refine lv_istore (lv' := [(5, .int (vlC (w) p1 p2)), (0, .ref h0), (1, .int p0), (2, .int p1), (3, .int (bI p2)), (4, .int p3)]) hx hb dX3_standTotal_35 hl (by decide) rfl (fun ls hl => ?_)
    refine lv_aload_n hx hb dX3_standTotal_37 rfl (lv_at hl 1 rfl) ?_
    refine va_get (D := D) (ci := 3) (v := .ref orr) (C := RX3) (T := TX3) (N := 15) hx hb hts in_X3_standTotal_X3 hown hK hP 0 rfl rfl 0 (by decide) (hts _ wd_X3_standTotal_1) (fun _ h9 => h9) rfl dX3_standTotal_38 ?_
    refine lv_iload hx hb dX3_standTotal_41 (lv_at hl 0 rfl) ?_
    refine lv_iload hx hb dX3_standTotal_43 (lv_at hl 5 rfl) ?_
    have hPc := hP.sub (ws' := [(orr, .inr (4, [.ref ur])), (ur, .inl (cI, 7, .inl w))]) [1, 2] rfl
    refine vp_callSi (W.runV (As := [.int (vlC (w) p1 p2), .int p3]) (rest := []) ⟨hx, hb, hml, hown, hts⟩ (c_X4_isNaturalB l D cI cJ cQ orr ur (w) (vlC (w) p1 p2) p3) (cwV 2 hts gX3_standTotal_X4_isNatural rfl rfl rfl (by decide +kernel) ⟨Nat.le_of_ble_eq_true rfl, Nat.le_of_ble_eq_true rfl⟩) (rP_preV (ci := 4) (q0 := 0) hPc hK rfl rfl) rfl rfl hl.1 rfl (lv_room (Nat.le_of_ble_eq_true rfl)) dX3_standTotal_45 ⟨Nat.le_of_ble_eq_true rfl, Nat.le_of_ble_eq_true rfl⟩) (fun r_4 hr_4 => ?_)
    subst hr_4
    refine lv_istore (lv' := [(6, .int (bI (naB (w) (vlC (w) p1 p2) p3))), (5, .int (vlC (w) p1 p2)), (0, .ref h0), (1, .int p0), (2, .int p1), (3, .int (bI p2)), (4, .int p3)]) hx hb dX3_standTotal_48 hl (by decide) rfl (fun ls hl => ?_)
    refine lv_iconst (v := 0) hx hb dX3_standTotal_50 (by decide) ?_
    refine lv_istore (lv' := [(7, .int 0), (6, .int (bI (naB (w) (vlC (w) p1 p2) p3))), (5, .int (vlC (w) p1 p2)), (0, .ref h0), (1, .int p0), (2, .int p1), (3, .int (bI p2)), (4, .int p3)]) hx hb dX3_standTotal_51 hl (by decide) rfl (fun ls hl => ?_)
    refine lpPayV hx hb hml hown hts hK hA h0 orr os ow oh oup obA obT pay stp hT hR hrd pT pR prd ur w uc tot f sp hta hra p0 p1 p2 p3 (vlC (w) p1 p2) (naB (w) (vlC (w) p1 p2) p3) (Nat.le_of_ble_eq_true rfl) (Nat.le_of_ble_eq_true rfl) (Nat.zero_le _) (Nat.zero_le _)  (22 - 0 + 1) 0 py _ _ _ (Nat.lt_succ_self _) (by omega) (fun j a => absurd a (by omega)) hP hD hS (lv_sub hl [0, 1, 2, 7, 6, 5, 4, 3] rfl) (fun py_5 H locs ls hpy_6 hP hD hS hl => ?_)
    have hP : va_P D vwCl [(h0, .inr (3, [.ref orr, .ref os, .ref ow, .ref oh, .int oup, .int obA, .long obT, .ref pay, .ref stp, .ref hT, .ref hR, .int hrd, .ref pT, .ref pR, .int prd])), (orr, .inr (4, [.ref ur])), (ur, .inl (cI, 7, .inl w)), (os, .inr (0, [.ref uc, .int tot])), (uc, .inl (cI, 11, .inl f)), (pay, .inl (cJ, 22, .inr (.inl py_5))), (stp, .inl (cI, 11, .inl sp)), (hT, .inl (cJ, 2304, .inr (.inl hta))), (hR, .inl (cI, 2304, .inl hra))] H := hP
    have hD : va_D A [(h0, .inr (3, [.ref orr, .ref os, .ref ow, .ref oh, .int oup, .int obA, .long obT, .ref pay, .ref stp, .ref hT, .ref hR, .int hrd, .ref pT, .ref pR, .int prd])), (orr, .inr (4, [.ref ur])), (ur, .inl (cI, 7, .inl w)), (os, .inr (0, [.ref uc, .int tot])), (uc, .inl (cI, 11, .inl f)), (pay, .inl (cJ, 22, .inr (.inl py_5))), (stp, .inl (cI, 11, .inl sp)), (hT, .inl (cJ, 2304, .inr (.inl hta))), (hR, .inl (cI, 2304, .inl hra))] := hD
    refine lv_aload_n hx hb dX3_standTotal_87 rfl (lv_at hl 1 rfl) ?_
    refine lv_dup hx hb dX3_standTotal_88 rfl ?_
    refine va_get (D := D) (ci := 3) (v := .int hrd) (C := RX3) (T := TX3) (N := 15) hx hb hts in_X3_standTotal_X3 hown hK hP 0 rfl rfl 11 (by decide) (hts _ wd_X3_standTotal_2) (fun _ h9 => h9) rfl dX3_standTotal_89 ?_
    refine lv_iconst (v := 1) hx hb dX3_standTotal_92 (by decide) ?_
    refine lv_iadd hx hb dX3_standTotal_93 ?_
    refine va_put (D := D) (ci := 3) (v := .int (hrd + 1)) (ty := .int) (C := RX3) (T := TX3) (N := 15) hx hb hts in_X3_standTotal_X3 tyX3 tyX3_ok nmX3 hown hK hP hD hS 0 rfl rfl 11 (by decide) (hts _ wd_X3_standTotal_2) (fun _ h9 => h9) rfl (by decide +kernel) rfl rfl (Nat.le_of_ble_eq_true rfl) dX3_standTotal_94 (fun H locs hP hD hS => ?_)
    have hP : va_P D vwCl [(h0, .inr (3, [.ref orr, .ref os, .ref ow, .ref oh, .int oup, .int obA, .long obT, .ref pay, .ref stp, .ref hT, .ref hR, .int (hrd + 1), .ref pT, .ref pR, .int prd])), (orr, .inr (4, [.ref ur])), (ur, .inl (cI, 7, .inl w)), (os, .inr (0, [.ref uc, .int tot])), (uc, .inl (cI, 11, .inl f)), (pay, .inl (cJ, 22, .inr (.inl py_5))), (stp, .inl (cI, 11, .inl sp)), (hT, .inl (cJ, 2304, .inr (.inl hta))), (hR, .inl (cI, 2304, .inl hra))] H := hP
    have hD : va_D A [(h0, .inr (3, [.ref orr, .ref os, .ref ow, .ref oh, .int oup, .int obA, .long obT, .ref pay, .ref stp, .ref hT, .ref hR, .int (hrd + 1), .ref pT, .ref pR, .int prd])), (orr, .inr (4, [.ref ur])), (ur, .inl (cI, 7, .inl w)), (os, .inr (0, [.ref uc, .int tot])), (uc, .inl (cI, 11, .inl f)), (pay, .inl (cJ, 22, .inr (.inl py_5))), (stp, .inl (cI, 11, .inl sp)), (hT, .inl (cJ, 2304, .inr (.inl hta))), (hR, .inl (cI, 2304, .inl hra))] := hD
    obtain ⟨hI2, hrd3, hnew⟩ := hI.up hrb
    have s12 := Nat.le_trans (smN_mo hlc) hcap
    refine lv_aload_n hx hb dX3_standTotal_97 rfl (lv_at hl 1 rfl) ?_
    refine lv_iload_n hx hb dX3_standTotal_98 rfl (lv_at hl 0 rfl) ?_
    refine lv_aload_n hx hb dX3_standTotal_99 rfl (lv_at hl 1 rfl) ?_
    refine va_get (D := D) (ci := 3) (v := .int oup) (C := RX3) (T := TX3) (N := 15) hx hb hts in_X3_standTotal_X3 hown hK hP 0 rfl rfl 4 (by decide) (hts _ wd_X3_standTotal_3) (fun _ h9 => h9) rfl dX3_standTotal_100 ?_
    refine lv_join (α := Bool) 116 8 (fun a9 => [(1, .int p0), (0, .ref h0)]) (fun a9 => [.int (bI a9), .int oup, .int p0, .ref h0]) (fun a9 => a9 = (decide (oup = 1))) (fun a_9 ls hl hp_8 => ?_) (fun hJ_7 => ?_)
    · skip
      have hp_8 : a_9 = (decide (oup = 1)) := hp_8
      subst hp_8
      refine lv_aload_n hx hb dX3_standTotal_116 rfl (lv_at hl 1 rfl) ?_
      refine va_get (D := D) (ci := 3) (v := .ref os) (C := RX3) (T := TX3) (N := 15) hx hb hts in_X3_standTotal_X3 hown hK hP 0 rfl rfl 1 (by decide) (hts _ wd_X3_standTotal_4) (fun _ h9 => h9) rfl dX3_standTotal_117 ?_
      refine va_get (D := D) (ci := 0) (v := .int tot) (C := RX0) (T := TX0) (N := 2) hx hb hts in_X3_standTotal_X0 hown hK hP 3 rfl rfl 1 (by decide) (hts _ wd_X3_standTotal_5) (fun _ h9 => h9) rfl dX3_standTotal_120 ?_
      have hPc := hP.sub (ws' := [(h0, .inr (3, [.ref orr, .ref os, .ref ow, .ref oh, .int oup, .int obA, .long obT, .ref pay, .ref stp, .ref hT, .ref hR, .int (hrd + 1), .ref pT, .ref pR, .int prd])), (orr, .inr (4, [.ref ur])), (ur, .inl (cI, 7, .inl w)), (os, .inr (0, [.ref uc, .int tot])), (uc, .inl (cI, 11, .inl f)), (pay, .inl (cJ, 22, .inr (.inl py_5))), (stp, .inl (cI, 11, .inl sp)), (hT, .inl (cJ, 2304, .inr (.inl hta))), (hR, .inl (cI, 2304, .inl hra))]) [0, 1, 2, 3, 4, 5, 6, 7, 8] rfl
      have hDc := hD.sub (ws' := [(h0, .inr (3, [.ref orr, .ref os, .ref ow, .ref oh, .int oup, .int obA, .long obT, .ref pay, .ref stp, .ref hT, .ref hR, .int (hrd + 1), .ref pT, .ref pR, .int prd])), (orr, .inr (4, [.ref ur])), (ur, .inl (cI, 7, .inl w)), (os, .inr (0, [.ref uc, .int tot])), (uc, .inl (cI, 11, .inl f)), (pay, .inl (cJ, 22, .inr (.inl py_5))), (stp, .inl (cI, 11, .inl sp)), (hT, .inl (cJ, 2304, .inr (.inl hta))), (hR, .inl (cI, 2304, .inl hra))]) [0, 1, 2, 3, 4, 5, 6, 7, 8] (by decide) rfl
      have hFc := va_free (wc := [(h0, .inr (3, [.ref orr, .ref os, .ref ow, .ref oh, .int oup, .int obA, .long obT, .ref pay, .ref stp, .ref hT, .ref hR, .int (hrd + 1), .ref pT, .ref pR, .int prd])), (orr, .inr (4, [.ref ur])), (ur, .inl (cI, 7, .inl w)), (os, .inr (0, [.ref uc, .int tot])), (uc, .inl (cI, 11, .inl f)), (pay, .inl (cJ, 22, .inr (.inl py_5))), (stp, .inl (cI, 11, .inl sp)), (hT, .inl (cJ, 2304, .inr (.inl hta))), (hR, .inl (cI, 2304, .inl hra))]) hD hS hA [0, 1, 2, 3, 4, 5, 6, 7, 8] rfl
      refine va_calll (va_runV (As := [.int p0, .int oup, .int (bI (decide (oup = 1))), .int tot]) (rest := []) ⟨hx, hb, hml, hown, hts⟩ (c_X3_houseTotalV_all l D cI cJ cQ 12 _ h0 orr os ow oh oup obA obT pay stp hT hR (hrd + 1) pT pR prd ur (w) uc tot (f) (py_5) (sp) (hta) (hra) p0 oup (decide (oup = 1)) tot tO cap cz cz un (decide ((nI un) = 1)) (by rw [hup]; exact HVc.new hcap hlc hcn hst hun hp0 htt) (MV.new hcap hnew) hI2 hw (by rw [htt, toInt_nI (by omega)]; omega)) (cwV 4 hts gX3_standTotal_X3_houseTotal rfl rfl rfl (by decide +kernel) ⟨Nat.le_of_ble_eq_true rfl, Nat.le_of_ble_eq_true rfl⟩) (mPo_preV (ci := 3) (q0 := 0) hPc hK hDc hZ hS hFc rfl rfl) rfl rfl hl.1 rfl (lv_room (Nat.le_of_ble_eq_true rfl)) dX3_standTotal_123 ⟨Nat.le_of_ble_eq_true rfl, Nat.le_of_ble_eq_true rfl⟩) hS (fun q _ h => hFc q h) hFc (fun r_10 u_r_10 t H1 locs ht hvm hr_10 hB hz1 hk1 hS => ?_)
      obtain ⟨ht2_11, hr2_12⟩ := u_r_10
      obtain ⟨hP1, hK1, hD1⟩ := hB
      rw [ht] at hP1
      try dsimp only at hr_10
      obtain ⟨hP, hD⟩ := va_join (wr := []) (w1 := [(h0, .inr (3, [.ref orr, .ref os, .ref ow, .ref oh, .int oup, .int obA, .long obT, .ref pay, .ref stp, .ref hT, .ref hR, .int (hrd + 1), .ref pT, .ref pR, .int prd])), (orr, .inr (4, [.ref ur])), (ur, .inl (cI, 7, .inl (w))), (os, .inr (0, [.ref uc, .int tot])), (uc, .inl (cI, 11, .inl (f))), (pay, .inl (cJ, 22, .inr (.inl (py_5)))), (stp, .inl (cI, 11, .inl (sp))), (hT, .inl (cJ, 2304, .inr (.inl ht2_11))), (hR, .inl (cI, 2304, .inl hr2_12))]) hP hD [0, 1, 2, 3, 4, 5, 6, 7, 8] [] rfl rfl (by decide) (by decide) hk1 hFc hP1 hD1
      generalize H1 = H at hP hS ⊢
      have hP : va_P D vwCl [(h0, .inr (3, [.ref orr, .ref os, .ref ow, .ref oh, .int oup, .int obA, .long obT, .ref pay, .ref stp, .ref hT, .ref hR, .int (hrd + 1), .ref pT, .ref pR, .int prd])), (orr, .inr (4, [.ref ur])), (ur, .inl (cI, 7, .inl (w))), (os, .inr (0, [.ref uc, .int tot])), (uc, .inl (cI, 11, .inl (f))), (pay, .inl (cJ, 22, .inr (.inl (py_5)))), (stp, .inl (cI, 11, .inl (sp))), (hT, .inl (cJ, 2304, .inr (.inl ht2_11))), (hR, .inl (cI, 2304, .inl hr2_12))] H := hP
      have hD : va_D A [(h0, .inr (3, [.ref orr, .ref os, .ref ow, .ref oh, .int oup, .int obA, .long obT, .ref pay, .ref stp, .ref hT, .ref hR, .int (hrd + 1), .ref pT, .ref pR, .int prd])), (orr, .inr (4, [.ref ur])), (ur, .inl (cI, 7, .inl (w))), (os, .inr (0, [.ref uc, .int tot])), (uc, .inl (cI, 11, .inl (f))), (pay, .inl (cJ, 22, .inr (.inl (py_5)))), (stp, .inl (cI, 11, .inl (sp))), (hT, .inl (cJ, 2304, .inr (.inl ht2_11))), (hR, .inl (cI, 2304, .inl hr2_12))] := hD
      have hP9 := hP.sub (ws' := [(h0, .inr (3, [.ref orr, .ref os, .ref ow, .ref oh, .int oup, .int obA, .long obT, .ref pay, .ref stp, .ref hT, .ref hR, .int (hrd + 1), .ref pT, .ref pR, .int prd])), (orr, .inr (4, [.ref ur])), (ur, .inl (cI, 7, .inl (w))), (os, .inr (0, [.ref uc, .int tot])), (uc, .inl (cI, 11, .inl (f))), (pay, .inl (cJ, 22, .inr (.inl (py_5)))), (stp, .inl (cI, 11, .inl (sp))), (hT, .inl (cJ, 2304, .inr (.inl ht2_11))), (hR, .inl (cI, 2304, .inl hr2_12))]) [0, 1, 2, 3, 4, 5, 6, 7, 8] rfl
      have hD9 := hD.sub (ws' := [(h0, .inr (3, [.ref orr, .ref os, .ref ow, .ref oh, .int oup, .int obA, .long obT, .ref pay, .ref stp, .ref hT, .ref hR, .int (hrd + 1), .ref pT, .ref pR, .int prd])), (orr, .inr (4, [.ref ur])), (ur, .inl (cI, 7, .inl (w))), (os, .inr (0, [.ref uc, .int tot])), (uc, .inl (cI, 11, .inl (f))), (pay, .inl (cJ, 22, .inr (.inl (py_5)))), (stp, .inl (cI, 11, .inl (sp))), (hT, .inl (cJ, 2304, .inr (.inl ht2_11))), (hR, .inl (cI, 2304, .inl hr2_12))]) [0, 1, 2, 3, 4, 5, 6, 7, 8] (by decide) rfl
      exact W.lret (v := r_10) hx hb hr (fun t ht hW => ⟨⟨r_10, (((py_5)), (hrd + 1), (ht2_11), (hr2_12)), rfl, ⟨by unfold stV hoV; rw [if_pos c8_2, hr_10.1, hup]; exact hv_py hpy_6 hw (by omega), hr_10.2.2, by omega, by omega⟩, by rw [ht]; exact hP9, va_K.moved hW.alike hK, hD9⟩, hS.F ht⟩) hS.2.2 dX3_standTotal_126
    · skip
      refine lv_aload_n hx hb dX3_standTotal_103 rfl (lv_at hl 1 rfl) ?_
      refine va_get (D := D) (ci := 3) (v := .int oup) (C := RX3) (T := TX3) (N := 15) hx hb hts in_X3_standTotal_X3 hown hK hP 0 rfl rfl 4 (by decide) (hts _ wd_X3_standTotal_3) (fun _ h9 => h9) rfl dX3_standTotal_104 ?_
      refine lv_iconst (v := 1) hx hb dX3_standTotal_107 (by decide) ?_
      refine lv_icmp_ne (tgt := 115) hx hb dX3_standTotal_108 (by decide) (fun c108_13 => ?_) (fun c108_13 => ?_)
      · skip
        refine lv_iconst (v := 0) hx hb dX3_standTotal_115 (by decide) ?_
        exact hJ_7 false ls (lv_sub hl [0, 1] rfl) (by first | assumption | (simp [c108_13]; done) | ((try first | rw [if_pos c108_13] | rw [if_neg c108_13]); first | done | rfl | trivial) | (simp_all; done))
      · skip
        refine lv_iconst (v := 1) hx hb dX3_standTotal_111 (by decide) ?_
        refine lv_goto (tgt := 116) hx hb dX3_standTotal_112 (by decide) ?_
        exact hJ_7 true ls (lv_sub hl [0, 1] rfl) (by first | assumption | (simp [c108_13]; done) | ((try first | rw [if_pos c108_13] | rw [if_neg c108_13]); first | done | rfl | trivial) | (simp_all; done))
  · skip
    refine lv_ldc2 hx hb hown (hts _ wd_X3_standTotal_6) dX3_standTotal_11 ?_
    refine lv_aload_n hx hb dX3_standTotal_14 rfl (lv_at hl 0 rfl) ?_
    refine va_get (D := D) (ci := 3) (v := .ref os) (C := RX3) (T := TX3) (N := 15) hx hb hts in_X3_standTotal_X3 hown hK hP 0 rfl rfl 1 (by decide) (hts _ wd_X3_standTotal_4) (fun _ h9 => h9) rfl dX3_standTotal_15 ?_
    refine va_get (D := D) (ci := 0) (v := .int tot) (C := RX0) (T := TX0) (N := 2) hx hb hts in_X3_standTotal_X0 hown hK hP 3 rfl rfl 1 (by decide) (hts _ wd_X3_standTotal_5) (fun _ h9 => h9) rfl dX3_standTotal_18 ?_
    have hPc := hP.sub (ws' := []) [] rfl
    refine vp_callSl (va_Run.toC (va_runSN (As := [.int tot]) (rest := [.long (-2)]) ⟨hx, hb, hml, hown, hts⟩ (c_X5_orders l D cI cJ cQ tot tO) (⟨va_cnB 1 hts gX3_standTotal_X5_orders_n143 rfl rfl rfl hZ.2.2 (hts _ wd_X3_standTotal_7) (by decide +kernel) ⟨Nat.le_of_ble_eq_true rfl, Nat.le_of_ble_eq_true rfl⟩, (hts _ wd_X3_standTotal_8), trivial⟩) (rPo_preS hPc hK hZ hS) rfl rfl hl.1 rfl (lv_room (Nat.le_of_ble_eq_true rfl)) dX3_standTotal_21 ⟨Nat.le_of_ble_eq_true rfl, Nat.le_of_ble_eq_true rfl⟩)) (fun r_14 hr_14 => ?_)
    subst hr_14
    refine lv_lmul hx hb dX3_standTotal_24 ?_
    have hP9 := hP.sub (ws' := [(h0, .inr (3, [.ref orr, .ref os, .ref ow, .ref oh, .int oup, .int obA, .long obT, .ref pay, .ref stp, .ref hT, .ref hR, .int hrd, .ref pT, .ref pR, .int prd])), (orr, .inr (4, [.ref ur])), (ur, .inl (cI, 7, .inl w)), (os, .inr (0, [.ref uc, .int tot])), (uc, .inl (cI, 11, .inl f)), (pay, .inl (cJ, 22, .inr (.inl py))), (stp, .inl (cI, 11, .inl sp)), (hT, .inl (cJ, 2304, .inr (.inl hta))), (hR, .inl (cI, 2304, .inl hra))]) [0, 1, 2, 3, 4, 5, 6, 7, 8] rfl
    have hD9 := hD.sub (ws' := [(h0, .inr (3, [.ref orr, .ref os, .ref ow, .ref oh, .int oup, .int obA, .long obT, .ref pay, .ref stp, .ref hT, .ref hR, .int hrd, .ref pT, .ref pR, .int prd])), (orr, .inr (4, [.ref ur])), (ur, .inl (cI, 7, .inl w)), (os, .inr (0, [.ref uc, .int tot])), (uc, .inl (cI, 11, .inl f)), (pay, .inl (cJ, 22, .inr (.inl py))), (stp, .inl (cI, 11, .inl sp)), (hT, .inl (cJ, 2304, .inr (.inl hta))), (hR, .inl (cI, 2304, .inl hra))]) [0, 1, 2, 3, 4, 5, 6, 7, 8] (by decide) rfl
    exact W.lret (v := ((-2) * (orC tot))) hx hb hr (fun t ht hW => ⟨⟨((-2) * (orC tot)), ((py), hrd, (hta), (hra)), rfl, ⟨by unfold stV; rw [if_neg c8_2, htt, orC_n (Nat.le_trans (smN_mo hlc) hcap)], hI, by omega, by omega⟩, by rw [ht]; exact hP9, va_K.moved hW.alike hK, hD9⟩, hS.F ht⟩) hS.2.2 dX3_standTotal_25


set_option maxHeartbeats 400000 in
set_option maxRecDepth 100000 in
theorem lpBothV {p : Program} {l : Launch} {e : Env} {R : Room} {s : State} {m : MethodId} {args : Array Value} {below : List Frame} {meth : Method} {c : Code} {Q : State → Prop} {D : va_G} {cI cJ cQ : ClassId} {A : Nat → Prop} {cells slots : Nat} (hx : p.tables.exec = Jvm.exec) (hb : c.code = cX3_bothTotal) (hml : c.maxLocals = 7) (hown : s.vm.findClass RX3 = some m.cls) (hts : ∀ w ∈ wsX3_bothTotal, w.before args s = true) (hK : va_K D vwCl (gTy cI cJ cQ) s) (hA : ∀ q : Nat, s.heap.size ≤ q → A q) (h0 : Nat) (orr : Nat) (os : Nat) (ow : Nat) (oh : Nat) (oup : Int32) (obA : Int32) (obT : Int64) (pay : Nat) (stp : Nat) (hT : Nat) (hR : Nat) (hrd : Int32) (pT : Nat) (pR : Nat) (prd : Int32) (ur : Nat) (w : Nat → Int32) (uc : Nat) (tot : Int32) (f : Nat → Int32) (sp : Nat → Int32) (hta : Nat → Int64) (hra : Nat → Int32) (p0 : Int32) (p1 : Int32) (p2 : Int32) (v4 : Int32) (v5 : Int32) (hRf : 1 ≤ R.frames) (hRl : 23 ≤ R.locals) (hRc : cells ≤ R.cells) (hRs : slots ≤ R.slots)  : ∀ (n9 : Nat) (k : Nat) (py : Nat → Int64) (H : Heap) (locs : List Loc) (ls : Array Slot), 22 - k < n9 → (k ≤ 22) → (∀ j, j < k → py j = pyB w v4 v5 j) → va_P D vwCl [(h0, .inr (3, [.ref orr, .ref os, .ref ow, .ref oh, .int oup, .int obA, .long obT, .ref pay, .ref stp, .ref hT, .ref hR, .int hrd, .ref pT, .ref pR, .int prd])), (orr, .inr (4, [.ref ur])), (ur, .inl (cI, 7, .inl w)), (os, .inr (0, [.ref uc, .int tot])), (uc, .inl (cI, 11, .inl f)), (pay, .inl (cJ, 22, .inr (.inl py))), (stp, .inl (cI, 11, .inl sp)), (hT, .inl (cJ, 2304, .inr (.inl hta))), (hR, .inl (cI, 2304, .inl hra))] H → va_D A [(h0, .inr (3, [.ref orr, .ref os, .ref ow, .ref oh, .int oup, .int obA, .long obT, .ref pay, .ref stp, .ref hT, .ref hR, .int hrd, .ref pT, .ref pR, .int prd])), (orr, .inr (4, [.ref ur])), (ur, .inl (cI, 7, .inl w)), (os, .inr (0, [.ref uc, .int tot])), (uc, .inl (cI, 11, .inl f)), (pay, .inl (cJ, 22, .inr (.inl py))), (stp, .inl (cI, 11, .inl sp)), (hT, .inl (cJ, 2304, .inr (.inl hta))), (hR, .inl (cI, 2304, .inl hra))] → va_S A s.heap H locs → lv_has ls 7 [(6, .int (nI k)), (5, .int v5), (4, .int v4), (3, .int p2), (2, .int p1), (1, .int p0), (0, .ref h0)] → (∀ (py : Nat → Int64) (H : Heap) (locs : List Loc) (ls : Array Slot), (∀ j, j < 22 → py j = pyB w v4 v5 j) → va_P D vwCl [(h0, .inr (3, [.ref orr, .ref os, .ref ow, .ref oh, .int oup, .int obA, .long obT, .ref pay, .ref stp, .ref hT, .ref hR, .int hrd, .ref pT, .ref pR, .int prd])), (orr, .inr (4, [.ref ur])), (ur, .inl (cI, 7, .inl w)), (os, .inr (0, [.ref uc, .int tot])), (uc, .inl (cI, 11, .inl f)), (pay, .inl (cJ, 22, .inr (.inl py))), (stp, .inl (cI, 11, .inl sp)), (hT, .inl (cJ, 2304, .inr (.inl hta))), (hR, .inl (cI, 2304, .inl hra))] H → va_D A [(h0, .inr (3, [.ref orr, .ref os, .ref ow, .ref oh, .int oup, .int obA, .long obT, .ref pay, .ref stp, .ref hT, .ref hR, .int hrd, .ref pT, .ref pR, .int prd])), (orr, .inr (4, [.ref ur])), (ur, .inl (cI, 7, .inl w)), (os, .inr (0, [.ref uc, .int tot])), (uc, .inl (cI, 11, .inl f)), (pay, .inl (cJ, 22, .inr (.inl py))), (stp, .inl (cI, 11, .inl sp)), (hT, .inl (cJ, 2304, .inr (.inl hta))), (hR, .inl (cI, 2304, .inl hra))] → va_S A s.heap H locs → lv_has ls 7 [(3, .int p2), (2, .int p1), (0, .ref h0)] → W p l e R s m args below meth c H locs cells slots Q (F0 m 103 ls [])) → W p l e R s m args below meth c H locs cells slots Q (F0 m 57 ls []) := by
  intro n9
  induction n9 with
  | zero => intro k py H locs ls hms9; exact absurd hms9 (Nat.not_lt_zero _)
  | succ n9 ih =>
    intro k py H locs ls hms9 k2 hpy hP hD hS hl kk0
    refine lv_iload hx hb dX3_bothTotal_57 (lv_at hl 0 rfl) ?_
    refine lv_bipush (v := 21) hx hb dX3_bothTotal_59 (by decide) ?_
    refine lv_icmp_gt (tgt := 103) hx hb dX3_bothTotal_61 (by decide) (fun c61_1 => ?_) (fun c61_1 => ?_)
    · skip
      have nc61_1 : 21 < k := (nI_ltI (a := 21) (b := k) (by omega) (by omega)).mp c61_1
      exact kk0 py _ _ _ (fun j a => hpy j (by omega)) hP hD hS (lv_sub hl [3, 4, 6] rfl)
    · skip
      have nc61_1 : ¬ (21 < k) := fun z9 => c61_1 ((nI_ltI (a := 21) (b := k) (by omega) (by omega)).mpr z9)
      refine lv_aload_n hx hb dX3_bothTotal_64 rfl (lv_at hl 6 rfl) ?_
      refine va_get (D := D) (ci := 3) (v := .ref pay) (C := RX3) (T := TX3) (N := 15) hx hb hts in_X3_bothTotal_X3 hown hK hP 0 rfl rfl 7 (by decide) (hts _ wd_X3_bothTotal_0) (fun _ h9 => h9) rfl dX3_bothTotal_65 ?_
      refine lv_iload hx hb dX3_bothTotal_68 (lv_at hl 0 rfl) ?_
      refine lv_aload_n hx hb dX3_bothTotal_70 rfl (lv_at hl 6 rfl) ?_
      refine va_get (D := D) (ci := 3) (v := .ref orr) (C := RX3) (T := TX3) (N := 15) hx hb hts in_X3_bothTotal_X3 hown hK hP 0 rfl rfl 0 (by decide) (hts _ wd_X3_bothTotal_1) (fun _ h9 => h9) rfl dX3_bothTotal_71 ?_
      refine lv_iload hx hb dX3_bothTotal_74 (lv_at hl 2 rfl) ?_
      refine lv_iconst (v := 0) hx hb dX3_bothTotal_76 (by decide) ?_
      refine lv_iload hx hb dX3_bothTotal_77 (lv_at hl 0 rfl) ?_
      have hPc := hP.sub (ws' := [(orr, .inr (4, [.ref ur])), (ur, .inl (cI, 7, .inl w))]) [1, 2] rfl
      refine vp_callSi (W.runV (As := [.int v4, .int 0, .int (nI k)]) (rest := [.int (nI k), .ref pay]) ⟨hx, hb, hml, hown, hts⟩ (c_X4_settledV l D cI cJ cQ orr ur (w) v4 false (nI k)) (cwV 3 hts gX3_bothTotal_X4_settled rfl rfl rfl (by decide +kernel) ⟨Nat.le_trans (show 0 + 1 ≤ 1 by omega) hRf, Nat.le_trans (show 8 + (4 + 11) + (0) ≤ 23 by omega) hRl⟩) (rP_preV (ci := 4) (q0 := 0) hPc hK rfl rfl) rfl rfl hl.1 rfl (lv_room (Nat.le_of_ble_eq_true rfl)) dX3_bothTotal_79 ⟨hRc, hRs⟩) (fun r_2 hr_2 => ?_)
      subst hr_2
      refine lv_aload_n hx hb dX3_bothTotal_82 rfl (lv_at hl 6 rfl) ?_
      refine va_get (D := D) (ci := 3) (v := .ref orr) (C := RX3) (T := TX3) (N := 15) hx hb hts in_X3_bothTotal_X3 hown hK hP 0 rfl rfl 0 (by decide) (hts _ wd_X3_bothTotal_1) (fun _ h9 => h9) rfl dX3_bothTotal_83 ?_
      refine lv_iload hx hb dX3_bothTotal_86 (lv_at hl 1 rfl) ?_
      refine lv_iconst (v := 0) hx hb dX3_bothTotal_88 (by decide) ?_
      refine lv_iload hx hb dX3_bothTotal_89 (lv_at hl 0 rfl) ?_
      have hPc := hP.sub (ws' := [(orr, .inr (4, [.ref ur])), (ur, .inl (cI, 7, .inl w))]) [1, 2] rfl
      refine vp_callSi (W.runV (As := [.int v5, .int 0, .int (nI k)]) (rest := [.int (stC (w) v4 false (nI k)), .int (nI k), .ref pay]) ⟨hx, hb, hml, hown, hts⟩ (c_X4_settledV l D cI cJ cQ orr ur (w) v5 false (nI k)) (cwV 3 hts gX3_bothTotal_X4_settled rfl rfl rfl (by decide +kernel) ⟨Nat.le_trans (show 0 + 1 ≤ 1 by omega) hRf, Nat.le_trans (show 8 + (4 + 11) + (0) ≤ 23 by omega) hRl⟩) (rP_preV (ci := 4) (q0 := 0) hPc hK rfl rfl) rfl rfl hl.1 rfl (lv_room (Nat.le_of_ble_eq_true rfl)) dX3_bothTotal_91 ⟨hRc, hRs⟩) (fun r_3 hr_3 => ?_)
      subst hr_3
      refine lv_iadd hx hb dX3_bothTotal_94 ?_
      refine lv_i2l (v := ((stC (w) v4 false (nI k)) + (stC (w) v5 false (nI k))).toInt64) hx hb dX3_bothTotal_95 rfl ?_
      refine va_last hx hb hK hP hD hS 5 1 rfl rfl (vp_in_nI (by omega) (by decide)) dX3_bothTotal_96 (fun H locs hP hD hS => ?_)
      have e9 : (vp_updL py (nI k).toNatClampNeg (((stC (w) v4 false (nI k)) + (stC (w) v5 false (nI k))).toInt64)) = vp_updL py k (((stC (w) v4 false (nI k)) + (stC (w) v5 false (nI k))).toInt64) := by rw [nI_clamp (show k < 2 ^ 31 by omega)]
      have hP : va_P D vwCl [(h0, .inr (3, [.ref orr, .ref os, .ref ow, .ref oh, .int oup, .int obA, .long obT, .ref pay, .ref stp, .ref hT, .ref hR, .int hrd, .ref pT, .ref pR, .int prd])), (orr, .inr (4, [.ref ur])), (ur, .inl (cI, 7, .inl w)), (os, .inr (0, [.ref uc, .int tot])), (uc, .inl (cI, 11, .inl f)), (pay, .inl (cJ, 22, .inr (.inl (vp_updL py k (((stC (w) v4 false (nI k)) + (stC (w) v5 false (nI k))).toInt64))))), (stp, .inl (cI, 11, .inl sp)), (hT, .inl (cJ, 2304, .inr (.inl hta))), (hR, .inl (cI, 2304, .inl hra))] H := by rw [← e9]; exact hP
      have hD : va_D A [(h0, .inr (3, [.ref orr, .ref os, .ref ow, .ref oh, .int oup, .int obA, .long obT, .ref pay, .ref stp, .ref hT, .ref hR, .int hrd, .ref pT, .ref pR, .int prd])), (orr, .inr (4, [.ref ur])), (ur, .inl (cI, 7, .inl w)), (os, .inr (0, [.ref uc, .int tot])), (uc, .inl (cI, 11, .inl f)), (pay, .inl (cJ, 22, .inr (.inl (vp_updL py k (((stC (w) v4 false (nI k)) + (stC (w) v5 false (nI k))).toInt64))))), (stp, .inl (cI, 11, .inl sp)), (hT, .inl (cJ, 2304, .inr (.inl hta))), (hR, .inl (cI, 2304, .inl hra))] := by rw [← e9]; exact hD
      clear e9
      refine lv_iinc (v := (nI (k + 1))) (lv' := [(6, .int (nI (k + 1))), (5, .int v5), (4, .int v4), (3, .int p2), (2, .int p1), (1, .int p0), (0, .ref h0)]) hx hb dX3_bothTotal_97 hl (k := 0) rfl (nI_incT (by decide)) (by decide) rfl (fun ls hl => ?_)
      refine lv_goto (tgt := 57) hx hb dX3_bothTotal_100 (by decide) ?_
      exact ih (k + 1) (vp_updL py k (((stC (w) v4 false (nI k)) + (stC (w) v5 false (nI k))).toInt64)) _ _ _ (by omega) (by omega) (updL_s hpy rfl) hP hD hS (lv_sub hl [0, 1, 2, 3, 4, 5, 6] rfl) kk0

set_option maxHeartbeats 400000 in
set_option maxRecDepth 100000 in
/-- X3_bothTotal -/
theorem c_X3_bothTotalV (l : Launch) (D : va_G) (cI cJ cQ : ClassId) (sz : Nat) (h0 : Nat) (orr : Nat) (os : Nat) (ow : Nat) (oh : Nat) (oup : Int32) (obA : Int32) (obT : Int64) (pay : Nat) (stp : Nat) (hT : Nat) (hR : Nat) (hrd : Int32) (pT : Nat) (pR : Nat) (prd : Int32) (ur : Nat) (w : Nat → Int32) (uc : Nat) (tot : Int32) (f : Nat → Int32) (py : Nat → Int64) (sp : Nat → Int32) (hta : Nat → Int64) (hra : Nat → Int32) (p0 : Int32) (p1 : Int32) (p2 : Int32) (tO : Nat) (cap : Nat → Nat) (cz : Nat → Nat) (un : Nat) (hw : (w 0).toInt ≤ 21) (hcap : smN cap ≤ 12) (hlc : le10 cz cap) (hcn : cntI f cz) (hst : ∀ j, 1 ≤ j → j ≤ 10 → sp j = nI (hpN cap (j - 1))) (hup : oup = nI un) (hun : un ≤ 10) (htt : tot = nI (smN cz)) (hI : RI hra hrd) (hrb : hrd.toInt < 2147483647) (i1 : vp_in p1 11) (i2 : vp_in p2 11) (hix : sp p1.toNatClampNeg + sp p2.toNatClampNeg = nI (ixC cap cz)) : Met l yX3_bothTotal wsX3_bothTotal ({ frames := 14, cells := 0, slots := 0, locals := 437 }) (va_Pc [.ref h0, .int p0, .int p1, .int p2] (mPo D (gTy cI cJ cQ) [(h0, .inr (3, [.ref orr, .ref os, .ref ow, .ref oh, .int oup, .int obA, .long obT, .ref pay, .ref stp, .ref hT, .ref hR, .int hrd, .ref pT, .ref pR, .int prd])), (orr, .inr (4, [.ref ur])), (ur, .inl (cI, 7, .inl w)), (os, .inr (0, [.ref uc, .int tot])), (uc, .inl (cI, 11, .inl f)), (pay, .inl (cJ, 22, .inr (.inl py))), (stp, .inl (cI, 11, .inl sp)), (hT, .inl (cJ, 2304, .inr (.inl hta))), (hR, .inl (cI, 2304, .inl hra))] sz tO)) (va_Ql (fun (r : Int64) (u : (Nat → Int64) × Int32 × (Nat → Int64) × (Nat → Int32)) => match u with | (py2, hrd2, ht2, hr2) => r = hoV w (pyB w (vlC w (p0 + p1) (decide (p0 = 1) || decide (p1 = 1))) (vlC w (p0 + p2) (decide (p0 = 1) || decide (p2 = 1)))) un cz ∧ RI hr2 hrd2 ∧ hrd.toInt ≤ hrd2.toInt ∧ hrd2.toInt ≤ hrd.toInt + 1) (fun (u : (Nat → Int64) × Int32 × (Nat → Int64) × (Nat → Int32)) t => match u with | (py2, hrd2, ht2, hr2) => mB D (gTy cI cJ cQ) (va_A [(h0, .inr (3, [.ref orr, .ref os, .ref ow, .ref oh, .int oup, .int obA, .long obT, .ref pay, .ref stp, .ref hT, .ref hR, .int hrd, .ref pT, .ref pR, .int prd])), (orr, .inr (4, [.ref ur])), (ur, .inl (cI, 7, .inl w)), (os, .inr (0, [.ref uc, .int tot])), (uc, .inl (cI, 11, .inl f)), (pay, .inl (cJ, 22, .inr (.inl py))), (stp, .inl (cI, 11, .inl sp)), (hT, .inl (cJ, 2304, .inr (.inl hta))), (hR, .inl (cI, 2304, .inl hra))] sz) [(h0, .inr (3, [.ref orr, .ref os, .ref ow, .ref oh, .int oup, .int obA, .long obT, .ref pay, .ref stp, .ref hT, .ref hR, .int hrd2, .ref pT, .ref pR, .int prd])), (orr, .inr (4, [.ref ur])), (ur, .inl (cI, 7, .inl w)), (os, .inr (0, [.ref uc, .int tot])), (uc, .inl (cI, 11, .inl f)), (pay, .inl (cJ, 22, .inr (.inl py2))), (stp, .inl (cI, 11, .inl sp)), (hT, .inl (cJ, 2304, .inr (.inl ht2))), (hR, .inl (cI, 2304, .inl hr2))] t) (va_A [(h0, .inr (3, [.ref orr, .ref os, .ref ow, .ref oh, .int oup, .int obA, .long obT, .ref pay, .ref stp, .ref hT, .ref hR, .int hrd, .ref pT, .ref pR, .int prd])), (orr, .inr (4, [.ref ur])), (ur, .inl (cI, 7, .inl w)), (os, .inr (0, [.ref uc, .int tot])), (uc, .inl (cI, 11, .inl f)), (pay, .inl (cJ, 22, .inr (.inl py))), (stp, .inl (cI, 11, .inl sp)), (hT, .inl (cJ, 2304, .inr (.inl hta))), (hR, .inl (cI, 2304, .inl hra))] sz)) 0 0 (va_A [(h0, .inr (3, [.ref orr, .ref os, .ref ow, .ref oh, .int oup, .int obA, .long obT, .ref pay, .ref stp, .ref hT, .ref hR, .int hrd, .ref pT, .ref pR, .int prd])), (orr, .inr (4, [.ref ur])), (ur, .inl (cI, 7, .inl w)), (os, .inr (0, [.ref uc, .int tot])), (uc, .inl (cI, 11, .inl f)), (pay, .inl (cJ, 22, .inr (.inl py))), (stp, .inl (cI, 11, .inl sp)), (hT, .inl (cJ, 2304, .inr (.inl hta))), (hR, .inl (cI, 2304, .inl hra))] sz) := by
  refine Met.ofW (cc := cX3_bothTotal) (maxL := 7) (ret := (some .long)) (by decide) rfl ?_
  intro p e s m args below meth c s₁ B hml hv
  obtain ⟨rfl, ⟨hsz, hP, hK, hD0⟩, hZ⟩ := hv
  have hx := B.exec
  have hb := B.bytes
  have hr := B.returns
  have hts := atoms_spec (ws := wsX3_bothTotal) B.pre
  have hown : s.vm.findClass RX3 = some m.cls := findClass_of_methodNamed B.named
  have hlocks := B.notSynchronized
  subst hsz
  have hD := hD0.self (sz := s.heap.size)
  generalize hAe : va_A [(h0, .inr (3, [.ref orr, .ref os, .ref ow, .ref oh, .int oup, .int obA, .long obT, .ref pay, .ref stp, .ref hT, .ref hR, .int hrd, .ref pT, .ref pR, .int prd])), (orr, .inr (4, [.ref ur])), (ur, .inl (cI, 7, .inl w)), (os, .inr (0, [.ref uc, .int tot])), (uc, .inl (cI, 11, .inl f)), (pay, .inl (cJ, 22, .inr (.inl py))), (stp, .inl (cI, 11, .inl sp)), (hT, .inl (cJ, 2304, .inr (.inl hta))), (hR, .inl (cI, 2304, .inl hra))] s.heap.size = A at hD hZ ⊢
  have hA : ∀ q : Nat, s.heap.size ≤ q → A q := fun q h => by rw [← hAe]; exact Or.inr h
  have hS : va_S A s.heap s.heap [] := va_S.rf
  have hP : va_P D vwCl [(h0, .inr (3, [.ref orr, .ref os, .ref ow, .ref oh, .int oup, .int obA, .long obT, .ref pay, .ref stp, .ref hT, .ref hR, .int hrd, .ref pT, .ref pR, .int prd])), (orr, .inr (4, [.ref ur])), (ur, .inl (cI, 7, .inl w)), (os, .inr (0, [.ref uc, .int tot])), (uc, .inl (cI, 11, .inl f)), (pay, .inl (cJ, 22, .inr (.inl py))), (stp, .inl (cI, 11, .inl sp)), (hT, .inl (cJ, 2304, .inr (.inl hta))), (hR, .inl (cI, 2304, .inl hra))] s.heap := hP
  have hl := lv_entry ([.ref h0, .int p0, .int p1, .int p2]) (n := 7) (Nat.le_of_ble_eq_true rfl)
  rw [lg_entry_eq]
  generalize (lg_sl ([.ref h0, .int p0, .int p1, .int p2]) ++ List.replicate (7 - (lg_sl ([.ref h0, .int p0, .int p1, .int p2])).length) Slot.unset).toArray = ls at hl ⊢
  have hl : lv_has ls 7 [(0, .ref h0), (1, .int p0), (2, .int p1), (3, .int p2)] := hl
  refine lv_aload_n hx hb dX3_bothTotal_0 rfl (lv_at hl 0 rfl) ?_
  refine va_get (D := D) (ci := 3) (v := .ref orr) (C := RX3) (T := TX3) (N := 15) hx hb hts in_X3_bothTotal_X3 hown hK hP 0 rfl rfl 0 (by decide) (hts _ wd_X3_bothTotal_1) (fun _ h9 => h9) rfl dX3_bothTotal_1 ?_
  refine lv_iload_n hx hb dX3_bothTotal_4 rfl (lv_at hl 1 rfl) ?_
  refine lv_iload_n hx hb dX3_bothTotal_5 rfl (lv_at hl 2 rfl) ?_
  refine lv_iadd hx hb dX3_bothTotal_6 ?_
  refine lv_join (α := Bool) 22 7 (fun a9 => [(0, .ref h0), (1, .int p0), (2, .int p1), (3, .int p2)]) (fun a9 => [.int (bI a9), .int (p0 + p1), .ref orr]) (fun a9 => a9 = (decide (p0 = 1) || decide (p1 = 1))) (fun a_3 ls hl hp_2 => ?_) (fun hJ_1 => ?_)
  · skip
    have hp_2 : a_3 = (decide (p0 = 1) || decide (p1 = 1)) := hp_2
    subst hp_2
    have hPc := hP.sub (ws' := [(orr, .inr (4, [.ref ur])), (ur, .inl (cI, 7, .inl w))]) [1, 2] rfl
    refine vp_callSi (W.runV (As := [.int (p0 + p1), .int (bI (decide (p0 = 1) || decide (p1 = 1)))]) (rest := []) ⟨hx, hb, hml, hown, hts⟩ (c_X4_valueV l D cI cJ cQ orr ur (w) (p0 + p1) (decide (p0 = 1) || decide (p1 = 1))) (cwV 2 hts gX3_bothTotal_X4_value rfl rfl rfl (by decide +kernel) ⟨Nat.le_of_ble_eq_true rfl, Nat.le_of_ble_eq_true rfl⟩) (rP_preV (ci := 4) (q0 := 0) hPc hK rfl rfl) rfl rfl hl.1 rfl (lv_room (Nat.le_of_ble_eq_true rfl)) dX3_bothTotal_22 ⟨Nat.le_of_ble_eq_true rfl, Nat.le_of_ble_eq_true rfl⟩) (fun r_4 hr_4 => ?_)
    subst hr_4
    refine lv_istore (lv' := [(4, .int (vlC (w) (p0 + p1) (decide (p0 = 1) || decide (p1 = 1)))), (0, .ref h0), (1, .int p0), (2, .int p1), (3, .int p2)]) hx hb dX3_bothTotal_25 hl (by decide) rfl (fun ls hl => ?_)
    refine lv_aload_n hx hb dX3_bothTotal_27 rfl (lv_at hl 1 rfl) ?_
    refine va_get (D := D) (ci := 3) (v := .ref orr) (C := RX3) (T := TX3) (N := 15) hx hb hts in_X3_bothTotal_X3 hown hK hP 0 rfl rfl 0 (by decide) (hts _ wd_X3_bothTotal_1) (fun _ h9 => h9) rfl dX3_bothTotal_28 ?_
    refine lv_iload_n hx hb dX3_bothTotal_31 rfl (lv_at hl 2 rfl) ?_
    refine lv_iload_n hx hb dX3_bothTotal_32 rfl (lv_at hl 4 rfl) ?_
    refine lv_iadd hx hb dX3_bothTotal_33 ?_
    refine lv_join (α := Bool) 49 7 (fun a9 => [(4, .int (vlC (w) (p0 + p1) (decide (p0 = 1) || decide (p1 = 1)))), (0, .ref h0), (1, .int p0), (2, .int p1), (3, .int p2)]) (fun a9 => [.int (bI a9), .int (p0 + p2), .ref orr]) (fun a9 => a9 = (decide (p0 = 1) || decide (p2 = 1))) (fun a_7 ls hl hp_6 => ?_) (fun hJ_5 => ?_)
    · skip
      have hp_6 : a_7 = (decide (p0 = 1) || decide (p2 = 1)) := hp_6
      subst hp_6
      have hPc := hP.sub (ws' := [(orr, .inr (4, [.ref ur])), (ur, .inl (cI, 7, .inl w))]) [1, 2] rfl
      refine vp_callSi (W.runV (As := [.int (p0 + p2), .int (bI (decide (p0 = 1) || decide (p2 = 1)))]) (rest := []) ⟨hx, hb, hml, hown, hts⟩ (c_X4_valueV l D cI cJ cQ orr ur (w) (p0 + p2) (decide (p0 = 1) || decide (p2 = 1))) (cwV 2 hts gX3_bothTotal_X4_value rfl rfl rfl (by decide +kernel) ⟨Nat.le_of_ble_eq_true rfl, Nat.le_of_ble_eq_true rfl⟩) (rP_preV (ci := 4) (q0 := 0) hPc hK rfl rfl) rfl rfl hl.1 rfl (lv_room (Nat.le_of_ble_eq_true rfl)) dX3_bothTotal_49 ⟨Nat.le_of_ble_eq_true rfl, Nat.le_of_ble_eq_true rfl⟩) (fun r_8 hr_8 => ?_)
      subst hr_8
      refine lv_istore (lv' := [(5, .int (vlC (w) (p0 + p2) (decide (p0 = 1) || decide (p2 = 1)))), (4, .int (vlC (w) (p0 + p1) (decide (p0 = 1) || decide (p1 = 1)))), (0, .ref h0), (1, .int p0), (2, .int p1), (3, .int p2)]) hx hb dX3_bothTotal_52 hl (by decide) rfl (fun ls hl => ?_)
      refine lv_iconst (v := 0) hx hb dX3_bothTotal_54 (by decide) ?_
      refine lv_istore (lv' := [(6, .int 0), (5, .int (vlC (w) (p0 + p2) (decide (p0 = 1) || decide (p2 = 1)))), (4, .int (vlC (w) (p0 + p1) (decide (p0 = 1) || decide (p1 = 1)))), (0, .ref h0), (1, .int p0), (2, .int p1), (3, .int p2)]) hx hb dX3_bothTotal_55 hl (by decide) rfl (fun ls hl => ?_)
      refine lpBothV hx hb hml hown hts hK hA h0 orr os ow oh oup obA obT pay stp hT hR hrd pT pR prd ur w uc tot f sp hta hra p0 p1 p2 (vlC (w) (p0 + p1) (decide (p0 = 1) || decide (p1 = 1))) (vlC (w) (p0 + p2) (decide (p0 = 1) || decide (p2 = 1))) (Nat.le_of_ble_eq_true rfl) (Nat.le_of_ble_eq_true rfl) (Nat.zero_le _) (Nat.zero_le _)  (22 - 0 + 1) 0 py _ _ _ (Nat.lt_succ_self _) (by omega) (fun j a => absurd a (by omega)) hP hD hS (lv_sub hl [0, 1, 2, 6, 5, 4, 3] rfl) (fun py_9 H locs ls hpy_10 hP hD hS hl => ?_)
      have hP : va_P D vwCl [(h0, .inr (3, [.ref orr, .ref os, .ref ow, .ref oh, .int oup, .int obA, .long obT, .ref pay, .ref stp, .ref hT, .ref hR, .int hrd, .ref pT, .ref pR, .int prd])), (orr, .inr (4, [.ref ur])), (ur, .inl (cI, 7, .inl w)), (os, .inr (0, [.ref uc, .int tot])), (uc, .inl (cI, 11, .inl f)), (pay, .inl (cJ, 22, .inr (.inl py_9))), (stp, .inl (cI, 11, .inl sp)), (hT, .inl (cJ, 2304, .inr (.inl hta))), (hR, .inl (cI, 2304, .inl hra))] H := hP
      have hD : va_D A [(h0, .inr (3, [.ref orr, .ref os, .ref ow, .ref oh, .int oup, .int obA, .long obT, .ref pay, .ref stp, .ref hT, .ref hR, .int hrd, .ref pT, .ref pR, .int prd])), (orr, .inr (4, [.ref ur])), (ur, .inl (cI, 7, .inl w)), (os, .inr (0, [.ref uc, .int tot])), (uc, .inl (cI, 11, .inl f)), (pay, .inl (cJ, 22, .inr (.inl py_9))), (stp, .inl (cI, 11, .inl sp)), (hT, .inl (cJ, 2304, .inr (.inl hta))), (hR, .inl (cI, 2304, .inl hra))] := hD
      refine lv_aload_n hx hb dX3_bothTotal_103 rfl (lv_at hl 2 rfl) ?_
      refine lv_dup hx hb dX3_bothTotal_104 rfl ?_
      refine va_get (D := D) (ci := 3) (v := .int hrd) (C := RX3) (T := TX3) (N := 15) hx hb hts in_X3_bothTotal_X3 hown hK hP 0 rfl rfl 11 (by decide) (hts _ wd_X3_bothTotal_2) (fun _ h9 => h9) rfl dX3_bothTotal_105 ?_
      refine lv_iconst (v := 1) hx hb dX3_bothTotal_108 (by decide) ?_
      refine lv_iadd hx hb dX3_bothTotal_109 ?_
      refine va_put (D := D) (ci := 3) (v := .int (hrd + 1)) (ty := .int) (C := RX3) (T := TX3) (N := 15) hx hb hts in_X3_bothTotal_X3 tyX3 tyX3_ok nmX3 hown hK hP hD hS 0 rfl rfl 11 (by decide) (hts _ wd_X3_bothTotal_2) (fun _ h9 => h9) rfl (by decide +kernel) rfl rfl (Nat.le_of_ble_eq_true rfl) dX3_bothTotal_110 (fun H locs hP hD hS => ?_)
      have hP : va_P D vwCl [(h0, .inr (3, [.ref orr, .ref os, .ref ow, .ref oh, .int oup, .int obA, .long obT, .ref pay, .ref stp, .ref hT, .ref hR, .int (hrd + 1), .ref pT, .ref pR, .int prd])), (orr, .inr (4, [.ref ur])), (ur, .inl (cI, 7, .inl w)), (os, .inr (0, [.ref uc, .int tot])), (uc, .inl (cI, 11, .inl f)), (pay, .inl (cJ, 22, .inr (.inl py_9))), (stp, .inl (cI, 11, .inl sp)), (hT, .inl (cJ, 2304, .inr (.inl hta))), (hR, .inl (cI, 2304, .inl hra))] H := hP
      have hD : va_D A [(h0, .inr (3, [.ref orr, .ref os, .ref ow, .ref oh, .int oup, .int obA, .long obT, .ref pay, .ref stp, .ref hT, .ref hR, .int (hrd + 1), .ref pT, .ref pR, .int prd])), (orr, .inr (4, [.ref ur])), (ur, .inl (cI, 7, .inl w)), (os, .inr (0, [.ref uc, .int tot])), (uc, .inl (cI, 11, .inl f)), (pay, .inl (cJ, 22, .inr (.inl py_9))), (stp, .inl (cI, 11, .inl sp)), (hT, .inl (cJ, 2304, .inr (.inl hta))), (hR, .inl (cI, 2304, .inl hra))] := hD
      obtain ⟨hI2, hrd3, hnew⟩ := hI.up hrb
      have s12 := Nat.le_trans (smN_mo hlc) hcap
      refine lv_aload_n hx hb dX3_bothTotal_113 rfl (lv_at hl 2 rfl) ?_
      refine lv_aload_n hx hb dX3_bothTotal_114 rfl (lv_at hl 2 rfl) ?_
      refine va_get (D := D) (ci := 3) (v := .ref stp) (C := RX3) (T := TX3) (N := 15) hx hb hts in_X3_bothTotal_X3 hown hK hP 0 rfl rfl 8 (by decide) (hts _ wd_X3_bothTotal_3) (fun _ h9 => h9) rfl dX3_bothTotal_115 ?_
      refine lv_iload_n hx hb dX3_bothTotal_118 rfl (lv_at hl 1 rfl) ?_
      refine va_iald hx hb hK hP 6 0 rfl rfl i1 dX3_bothTotal_119 ?_
      refine lv_aload_n hx hb dX3_bothTotal_120 rfl (lv_at hl 2 rfl) ?_
      refine va_get (D := D) (ci := 3) (v := .ref stp) (C := RX3) (T := TX3) (N := 15) hx hb hts in_X3_bothTotal_X3 hown hK hP 0 rfl rfl 8 (by decide) (hts _ wd_X3_bothTotal_3) (fun _ h9 => h9) rfl dX3_bothTotal_121 ?_
      refine lv_iload_n hx hb dX3_bothTotal_124 rfl (lv_at hl 0 rfl) ?_
      refine va_iald hx hb hK hP 6 0 rfl rfl i2 dX3_bothTotal_125 ?_
      refine lv_iadd hx hb dX3_bothTotal_126 ?_
      refine lv_aload_n hx hb dX3_bothTotal_127 rfl (lv_at hl 2 rfl) ?_
      refine va_get (D := D) (ci := 3) (v := .int oup) (C := RX3) (T := TX3) (N := 15) hx hb hts in_X3_bothTotal_X3 hown hK hP 0 rfl rfl 4 (by decide) (hts _ wd_X3_bothTotal_4) (fun _ h9 => h9) rfl dX3_bothTotal_128 ?_
      refine lv_join (α := Bool) 144 7 (fun a9 => [(3, .int p2), (2, .int p1), (0, .ref h0)]) (fun a9 => [.int (bI a9), .int oup, .int ((sp p1.toNatClampNeg) + (sp p2.toNatClampNeg)), .ref h0]) (fun a9 => a9 = (decide (oup = 1))) (fun a_13 ls hl hp_12 => ?_) (fun hJ_11 => ?_)
      · skip
        have hp_12 : a_13 = (decide (oup = 1)) := hp_12
        subst hp_12
        refine lv_aload_n hx hb dX3_bothTotal_144 rfl (lv_at hl 2 rfl) ?_
        refine va_get (D := D) (ci := 3) (v := .ref os) (C := RX3) (T := TX3) (N := 15) hx hb hts in_X3_bothTotal_X3 hown hK hP 0 rfl rfl 1 (by decide) (hts _ wd_X3_bothTotal_5) (fun _ h9 => h9) rfl dX3_bothTotal_145 ?_
        refine va_get (D := D) (ci := 0) (v := .int tot) (C := RX0) (T := TX0) (N := 2) hx hb hts in_X3_bothTotal_X0 hown hK hP 3 rfl rfl 1 (by decide) (hts _ wd_X3_bothTotal_6) (fun _ h9 => h9) rfl dX3_bothTotal_148 ?_
        have hPc := hP.sub (ws' := [(h0, .inr (3, [.ref orr, .ref os, .ref ow, .ref oh, .int oup, .int obA, .long obT, .ref pay, .ref stp, .ref hT, .ref hR, .int (hrd + 1), .ref pT, .ref pR, .int prd])), (orr, .inr (4, [.ref ur])), (ur, .inl (cI, 7, .inl w)), (os, .inr (0, [.ref uc, .int tot])), (uc, .inl (cI, 11, .inl f)), (pay, .inl (cJ, 22, .inr (.inl py_9))), (stp, .inl (cI, 11, .inl sp)), (hT, .inl (cJ, 2304, .inr (.inl hta))), (hR, .inl (cI, 2304, .inl hra))]) [0, 1, 2, 3, 4, 5, 6, 7, 8] rfl
        have hDc := hD.sub (ws' := [(h0, .inr (3, [.ref orr, .ref os, .ref ow, .ref oh, .int oup, .int obA, .long obT, .ref pay, .ref stp, .ref hT, .ref hR, .int (hrd + 1), .ref pT, .ref pR, .int prd])), (orr, .inr (4, [.ref ur])), (ur, .inl (cI, 7, .inl w)), (os, .inr (0, [.ref uc, .int tot])), (uc, .inl (cI, 11, .inl f)), (pay, .inl (cJ, 22, .inr (.inl py_9))), (stp, .inl (cI, 11, .inl sp)), (hT, .inl (cJ, 2304, .inr (.inl hta))), (hR, .inl (cI, 2304, .inl hra))]) [0, 1, 2, 3, 4, 5, 6, 7, 8] (by decide) rfl
        have hFc := va_free (wc := [(h0, .inr (3, [.ref orr, .ref os, .ref ow, .ref oh, .int oup, .int obA, .long obT, .ref pay, .ref stp, .ref hT, .ref hR, .int (hrd + 1), .ref pT, .ref pR, .int prd])), (orr, .inr (4, [.ref ur])), (ur, .inl (cI, 7, .inl w)), (os, .inr (0, [.ref uc, .int tot])), (uc, .inl (cI, 11, .inl f)), (pay, .inl (cJ, 22, .inr (.inl py_9))), (stp, .inl (cI, 11, .inl sp)), (hT, .inl (cJ, 2304, .inr (.inl hta))), (hR, .inl (cI, 2304, .inl hra))]) hD hS hA [0, 1, 2, 3, 4, 5, 6, 7, 8] rfl
        refine va_calll (va_runV (As := [.int ((sp p1.toNatClampNeg) + (sp p2.toNatClampNeg)), .int oup, .int (bI (decide (oup = 1))), .int tot]) (rest := []) ⟨hx, hb, hml, hown, hts⟩ (c_X3_houseTotalV_all l D cI cJ cQ 12 _ h0 orr os ow oh oup obA obT pay stp hT hR (hrd + 1) pT pR prd ur (w) uc tot (f) (py_9) (sp) (hta) (hra) ((sp p1.toNatClampNeg) + (sp p2.toNatClampNeg)) oup (decide (oup = 1)) tot tO cap cz cz un (decide ((nI un) = 1)) (by rw [hup]; exact HVc.new hcap hlc hcn hst hun hix htt) (MV.new hcap hnew) hI2 hw (by rw [htt, toInt_nI (by omega)]; omega)) (cwV 4 hts gX3_bothTotal_X3_houseTotal rfl rfl rfl (by decide +kernel) ⟨Nat.le_of_ble_eq_true rfl, Nat.le_of_ble_eq_true rfl⟩) (mPo_preV (ci := 3) (q0 := 0) hPc hK hDc hZ hS hFc rfl rfl) rfl rfl hl.1 rfl (lv_room (Nat.le_of_ble_eq_true rfl)) dX3_bothTotal_151 ⟨Nat.le_of_ble_eq_true rfl, Nat.le_of_ble_eq_true rfl⟩) hS (fun q _ h => hFc q h) hFc (fun r_14 u_r_14 t H1 locs ht hvm hr_14 hB hz1 hk1 hS => ?_)
        obtain ⟨ht2_15, hr2_16⟩ := u_r_14
        obtain ⟨hP1, hK1, hD1⟩ := hB
        rw [ht] at hP1
        try dsimp only at hr_14
        obtain ⟨hP, hD⟩ := va_join (wr := []) (w1 := [(h0, .inr (3, [.ref orr, .ref os, .ref ow, .ref oh, .int oup, .int obA, .long obT, .ref pay, .ref stp, .ref hT, .ref hR, .int (hrd + 1), .ref pT, .ref pR, .int prd])), (orr, .inr (4, [.ref ur])), (ur, .inl (cI, 7, .inl (w))), (os, .inr (0, [.ref uc, .int tot])), (uc, .inl (cI, 11, .inl (f))), (pay, .inl (cJ, 22, .inr (.inl (py_9)))), (stp, .inl (cI, 11, .inl (sp))), (hT, .inl (cJ, 2304, .inr (.inl ht2_15))), (hR, .inl (cI, 2304, .inl hr2_16))]) hP hD [0, 1, 2, 3, 4, 5, 6, 7, 8] [] rfl rfl (by decide) (by decide) hk1 hFc hP1 hD1
        generalize H1 = H at hP hS ⊢
        have hP : va_P D vwCl [(h0, .inr (3, [.ref orr, .ref os, .ref ow, .ref oh, .int oup, .int obA, .long obT, .ref pay, .ref stp, .ref hT, .ref hR, .int (hrd + 1), .ref pT, .ref pR, .int prd])), (orr, .inr (4, [.ref ur])), (ur, .inl (cI, 7, .inl (w))), (os, .inr (0, [.ref uc, .int tot])), (uc, .inl (cI, 11, .inl (f))), (pay, .inl (cJ, 22, .inr (.inl (py_9)))), (stp, .inl (cI, 11, .inl (sp))), (hT, .inl (cJ, 2304, .inr (.inl ht2_15))), (hR, .inl (cI, 2304, .inl hr2_16))] H := hP
        have hD : va_D A [(h0, .inr (3, [.ref orr, .ref os, .ref ow, .ref oh, .int oup, .int obA, .long obT, .ref pay, .ref stp, .ref hT, .ref hR, .int (hrd + 1), .ref pT, .ref pR, .int prd])), (orr, .inr (4, [.ref ur])), (ur, .inl (cI, 7, .inl (w))), (os, .inr (0, [.ref uc, .int tot])), (uc, .inl (cI, 11, .inl (f))), (pay, .inl (cJ, 22, .inr (.inl (py_9)))), (stp, .inl (cI, 11, .inl (sp))), (hT, .inl (cJ, 2304, .inr (.inl ht2_15))), (hR, .inl (cI, 2304, .inl hr2_16))] := hD
        have hP9 := hP.sub (ws' := [(h0, .inr (3, [.ref orr, .ref os, .ref ow, .ref oh, .int oup, .int obA, .long obT, .ref pay, .ref stp, .ref hT, .ref hR, .int (hrd + 1), .ref pT, .ref pR, .int prd])), (orr, .inr (4, [.ref ur])), (ur, .inl (cI, 7, .inl (w))), (os, .inr (0, [.ref uc, .int tot])), (uc, .inl (cI, 11, .inl (f))), (pay, .inl (cJ, 22, .inr (.inl (py_9)))), (stp, .inl (cI, 11, .inl (sp))), (hT, .inl (cJ, 2304, .inr (.inl ht2_15))), (hR, .inl (cI, 2304, .inl hr2_16))]) [0, 1, 2, 3, 4, 5, 6, 7, 8] rfl
        have hD9 := hD.sub (ws' := [(h0, .inr (3, [.ref orr, .ref os, .ref ow, .ref oh, .int oup, .int obA, .long obT, .ref pay, .ref stp, .ref hT, .ref hR, .int (hrd + 1), .ref pT, .ref pR, .int prd])), (orr, .inr (4, [.ref ur])), (ur, .inl (cI, 7, .inl (w))), (os, .inr (0, [.ref uc, .int tot])), (uc, .inl (cI, 11, .inl (f))), (pay, .inl (cJ, 22, .inr (.inl (py_9)))), (stp, .inl (cI, 11, .inl (sp))), (hT, .inl (cJ, 2304, .inr (.inl ht2_15))), (hR, .inl (cI, 2304, .inl hr2_16))]) [0, 1, 2, 3, 4, 5, 6, 7, 8] (by decide) rfl
        exact W.lret (v := r_14) hx hb hr (fun t ht hW => ⟨⟨r_14, (((py_9)), (hrd + 1), (ht2_15), (hr2_16)), rfl, ⟨by unfold hoV; rw [hr_14.1, hup]; exact hv_py hpy_10 hw (by omega), hr_14.2.2, by omega, by omega⟩, by rw [ht]; exact hP9, va_K.moved hW.alike hK, hD9⟩, hS.F ht⟩) hS.2.2 dX3_bothTotal_154
      · skip
        refine lv_aload_n hx hb dX3_bothTotal_131 rfl (lv_at hl 2 rfl) ?_
        refine va_get (D := D) (ci := 3) (v := .int oup) (C := RX3) (T := TX3) (N := 15) hx hb hts in_X3_bothTotal_X3 hown hK hP 0 rfl rfl 4 (by decide) (hts _ wd_X3_bothTotal_4) (fun _ h9 => h9) rfl dX3_bothTotal_132 ?_
        refine lv_iconst (v := 1) hx hb dX3_bothTotal_135 (by decide) ?_
        refine lv_icmp_ne (tgt := 143) hx hb dX3_bothTotal_136 (by decide) (fun c136_17 => ?_) (fun c136_17 => ?_)
        · skip
          refine lv_iconst (v := 0) hx hb dX3_bothTotal_143 (by decide) ?_
          exact hJ_11 false ls (lv_sub hl [0, 1, 2] rfl) (by first | assumption | (simp [c136_17]; done) | ((try first | rw [if_pos c136_17] | rw [if_neg c136_17]); first | done | rfl | trivial) | (simp_all; done))
        · skip
          refine lv_iconst (v := 1) hx hb dX3_bothTotal_139 (by decide) ?_
          refine lv_goto (tgt := 144) hx hb dX3_bothTotal_140 (by decide) ?_
          exact hJ_11 true ls (lv_sub hl [0, 1, 2] rfl) (by first | assumption | (simp [c136_17]; done) | ((try first | rw [if_pos c136_17] | rw [if_neg c136_17]); first | done | rfl | trivial) | (simp_all; done))
    · skip
      refine lv_iload_n hx hb dX3_bothTotal_34 rfl (lv_at hl 2 rfl) ?_
      refine lv_iconst (v := 1) hx hb dX3_bothTotal_35 (by decide) ?_
      refine lv_icmp_eq (tgt := 44) hx hb dX3_bothTotal_36 (by decide) (fun c36_18 => ?_) (fun c36_18 => ?_)
      · skip
        refine lv_iconst (v := 1) hx hb dX3_bothTotal_44 (by decide) ?_
        refine lv_goto (tgt := 49) hx hb dX3_bothTotal_45 (by decide) ?_
        exact hJ_5 true ls (lv_sub hl [0, 1, 2, 3, 4] rfl) (by first | assumption | (simp [c36_18]; done) | ((try first | rw [if_pos c36_18] | rw [if_neg c36_18]); first | done | rfl | trivial) | (simp_all; done))
      · skip
        refine lv_iload_n hx hb dX3_bothTotal_39 rfl (lv_at hl 4 rfl) ?_
        refine lv_iconst (v := 1) hx hb dX3_bothTotal_40 (by decide) ?_
        refine lv_icmp_ne (tgt := 48) hx hb dX3_bothTotal_41 (by decide) (fun c41_19 => ?_) (fun c41_19 => ?_)
        · skip
          refine lv_iconst (v := 0) hx hb dX3_bothTotal_48 (by decide) ?_
          exact hJ_5 false ls (lv_sub hl [0, 1, 2, 3, 4] rfl) (by first | assumption | (simp [c36_18, c41_19]; done) | ((try first | rw [if_pos c36_18] | rw [if_neg c36_18]); (try first | rw [if_pos c41_19] | rw [if_neg c41_19]); first | done | rfl | trivial) | (simp_all; done))
        · skip
          refine lv_iconst (v := 1) hx hb dX3_bothTotal_44 (by decide) ?_
          refine lv_goto (tgt := 49) hx hb dX3_bothTotal_45 (by decide) ?_
          exact hJ_5 true ls (lv_sub hl [0, 1, 2, 3, 4] rfl) (by first | assumption | (simp [c36_18, c41_19]; done) | ((try first | rw [if_pos c36_18] | rw [if_neg c36_18]); (try first | rw [if_pos c41_19] | rw [if_neg c41_19]); first | done | rfl | trivial) | (simp_all; done))
  · skip
    refine lv_iload_n hx hb dX3_bothTotal_7 rfl (lv_at hl 1 rfl) ?_
    refine lv_iconst (v := 1) hx hb dX3_bothTotal_8 (by decide) ?_
    refine lv_icmp_eq (tgt := 17) hx hb dX3_bothTotal_9 (by decide) (fun c9_20 => ?_) (fun c9_20 => ?_)
    · skip
      refine lv_iconst (v := 1) hx hb dX3_bothTotal_17 (by decide) ?_
      refine lv_goto (tgt := 22) hx hb dX3_bothTotal_18 (by decide) ?_
      exact hJ_1 true ls (lv_sub hl [0, 1, 2, 3] rfl) (by first | assumption | (simp [c9_20]; done) | ((try first | rw [if_pos c9_20] | rw [if_neg c9_20]); first | done | rfl | trivial) | (simp_all; done))
    · skip
      refine lv_iload_n hx hb dX3_bothTotal_12 rfl (lv_at hl 2 rfl) ?_
      refine lv_iconst (v := 1) hx hb dX3_bothTotal_13 (by decide) ?_
      refine lv_icmp_ne (tgt := 21) hx hb dX3_bothTotal_14 (by decide) (fun c14_21 => ?_) (fun c14_21 => ?_)
      · skip
        refine lv_iconst (v := 0) hx hb dX3_bothTotal_21 (by decide) ?_
        exact hJ_1 false ls (lv_sub hl [0, 1, 2, 3] rfl) (by first | assumption | (simp [c9_20, c14_21]; done) | ((try first | rw [if_pos c9_20] | rw [if_neg c9_20]); (try first | rw [if_pos c14_21] | rw [if_neg c14_21]); first | done | rfl | trivial) | (simp_all; done))
      · skip
        refine lv_iconst (v := 1) hx hb dX3_bothTotal_17 (by decide) ?_
        refine lv_goto (tgt := 22) hx hb dX3_bothTotal_18 (by decide) ?_
        exact hJ_1 true ls (lv_sub hl [0, 1, 2, 3] rfl) (by first | assumption | (simp [c9_20, c14_21]; done) | ((try first | rw [if_pos c9_20] | rw [if_neg c9_20]); (try first | rw [if_pos c14_21] | rw [if_neg c14_21]); first | done | rfl | trivial) | (simp_all; done))


set_option maxHeartbeats 400000 in
set_option maxRecDepth 100000 in
theorem lpEndV {p : Program} {l : Launch} {e : Env} {R : Room} {s : State} {m : MethodId} {args : Array Value} {below : List Frame} {meth : Method} {c : Code} {Q : State → Prop} {D : va_G} {cI cJ cQ : ClassId} {A : Nat → Prop} {cells slots : Nat} (hx : p.tables.exec = Jvm.exec) (hb : c.code = cX3_endTotal) (hml : c.maxLocals = 3) (hown : s.vm.findClass RX3 = some m.cls) (hts : ∀ w ∈ wsX3_endTotal, w.before args s = true) (hK : va_K D vwCl (gTy cI cJ cQ) s) (hA : ∀ q : Nat, s.heap.size ≤ q → A q) (h0 : Nat) (orr : Nat) (os : Nat) (ow : Nat) (oh : Nat) (oup : Int32) (obA : Int32) (obT : Int64) (pay : Nat) (stp : Nat) (hT : Nat) (hR : Nat) (hrd : Int32) (pT : Nat) (pR : Nat) (prd : Int32) (ur : Nat) (w : Nat → Int32) (uc : Nat) (tot : Int32) (f : Nat → Int32) (sp : Nat → Int32) (hta : Nat → Int64) (hra : Nat → Int32) (p0 : Int32) (hRf : 0 ≤ R.frames) (hRl : 0 ≤ R.locals) (hRc : cells ≤ R.cells) (hRs : slots ≤ R.slots)  : ∀ (n9 : Nat) (k : Nat) (py : Nat → Int64) (H : Heap) (locs : List Loc) (ls : Array Slot), 22 - k < n9 → (k ≤ 22) → (∀ j, j < k → py j = pyE p0 j) → va_P D vwCl [(h0, .inr (3, [.ref orr, .ref os, .ref ow, .ref oh, .int oup, .int obA, .long obT, .ref pay, .ref stp, .ref hT, .ref hR, .int hrd, .ref pT, .ref pR, .int prd])), (orr, .inr (4, [.ref ur])), (ur, .inl (cI, 7, .inl w)), (os, .inr (0, [.ref uc, .int tot])), (uc, .inl (cI, 11, .inl f)), (pay, .inl (cJ, 22, .inr (.inl py))), (stp, .inl (cI, 11, .inl sp)), (hT, .inl (cJ, 2304, .inr (.inl hta))), (hR, .inl (cI, 2304, .inl hra))] H → va_D A [(h0, .inr (3, [.ref orr, .ref os, .ref ow, .ref oh, .int oup, .int obA, .long obT, .ref pay, .ref stp, .ref hT, .ref hR, .int hrd, .ref pT, .ref pR, .int prd])), (orr, .inr (4, [.ref ur])), (ur, .inl (cI, 7, .inl w)), (os, .inr (0, [.ref uc, .int tot])), (uc, .inl (cI, 11, .inl f)), (pay, .inl (cJ, 22, .inr (.inl py))), (stp, .inl (cI, 11, .inl sp)), (hT, .inl (cJ, 2304, .inr (.inl hta))), (hR, .inl (cI, 2304, .inl hra))] → va_S A s.heap H locs → lv_has ls 3 [(2, .int (nI k)), (1, .int p0), (0, .ref h0)] → (∀ (py : Nat → Int64) (H : Heap) (locs : List Loc) (ls : Array Slot), (∀ j, j < 22 → py j = pyE p0 j) → va_P D vwCl [(h0, .inr (3, [.ref orr, .ref os, .ref ow, .ref oh, .int oup, .int obA, .long obT, .ref pay, .ref stp, .ref hT, .ref hR, .int hrd, .ref pT, .ref pR, .int prd])), (orr, .inr (4, [.ref ur])), (ur, .inl (cI, 7, .inl w)), (os, .inr (0, [.ref uc, .int tot])), (uc, .inl (cI, 11, .inl f)), (pay, .inl (cJ, 22, .inr (.inl py))), (stp, .inl (cI, 11, .inl sp)), (hT, .inl (cJ, 2304, .inr (.inl hta))), (hR, .inl (cI, 2304, .inl hra))] H → va_D A [(h0, .inr (3, [.ref orr, .ref os, .ref ow, .ref oh, .int oup, .int obA, .long obT, .ref pay, .ref stp, .ref hT, .ref hR, .int hrd, .ref pT, .ref pR, .int prd])), (orr, .inr (4, [.ref ur])), (ur, .inl (cI, 7, .inl w)), (os, .inr (0, [.ref uc, .int tot])), (uc, .inl (cI, 11, .inl f)), (pay, .inl (cJ, 22, .inr (.inl py))), (stp, .inl (cI, 11, .inl sp)), (hT, .inl (cJ, 2304, .inr (.inl hta))), (hR, .inl (cI, 2304, .inl hra))] → va_S A s.heap H locs → lv_has ls 3 [(0, .ref h0)] → W p l e R s m args below meth c H locs cells slots Q (F0 m 34 ls [])) → W p l e R s m args below meth c H locs cells slots Q (F0 m 6 ls []) := by
  intro n9
  induction n9 with
  | zero => intro k py H locs ls hms9; exact absurd hms9 (Nat.not_lt_zero _)
  | succ n9 ih =>
    intro k py H locs ls hms9 k2 hpy hP hD hS hl kk0
    refine lv_iload_n hx hb dX3_endTotal_6 rfl (lv_at hl 0 rfl) ?_
    refine lv_bipush (v := 21) hx hb dX3_endTotal_7 (by decide) ?_
    refine lv_icmp_gt (tgt := 34) hx hb dX3_endTotal_9 (by decide) (fun c9_1 => ?_) (fun c9_1 => ?_)
    · skip
      have nc9_1 : 21 < k := (nI_ltI (a := 21) (b := k) (by omega) (by omega)).mp c9_1
      exact kk0 py _ _ _ (fun j a => hpy j (by omega)) hP hD hS (lv_sub hl [2] rfl)
    · skip
      have nc9_1 : ¬ (21 < k) := fun z9 => c9_1 ((nI_ltI (a := 21) (b := k) (by omega) (by omega)).mpr z9)
      refine lv_aload_n hx hb dX3_endTotal_12 rfl (lv_at hl 2 rfl) ?_
      refine va_get (D := D) (ci := 3) (v := .ref pay) (C := RX3) (T := TX3) (N := 15) hx hb hts in_X3_endTotal_X3 hown hK hP 0 rfl rfl 7 (by decide) (hts _ wd_X3_endTotal_0) (fun _ h9 => h9) rfl dX3_endTotal_13 ?_
      refine lv_iload_n hx hb dX3_endTotal_16 rfl (lv_at hl 0 rfl) ?_
      refine lv_iload_n hx hb dX3_endTotal_17 rfl (lv_at hl 0 rfl) ?_
      refine lv_iload_n hx hb dX3_endTotal_18 rfl (lv_at hl 1 rfl) ?_
      refine lv_icmp_ne (tgt := 26) hx hb dX3_endTotal_19 (by decide) (fun c19_2 => ?_) (fun c19_2 => ?_)
      · skip
        refine lv_lconst (v := 0) hx hb dX3_endTotal_26 (by decide) ?_
        refine va_last hx hb hK hP hD hS 5 1 rfl rfl (vp_in_nI (by omega) (by decide)) dX3_endTotal_27 (fun H locs hP hD hS => ?_)
        have e9 : (vp_updL py (nI k).toNatClampNeg 0) = vp_updL py k 0 := by rw [nI_clamp (show k < 2 ^ 31 by omega)]
        have hP : va_P D vwCl [(h0, .inr (3, [.ref orr, .ref os, .ref ow, .ref oh, .int oup, .int obA, .long obT, .ref pay, .ref stp, .ref hT, .ref hR, .int hrd, .ref pT, .ref pR, .int prd])), (orr, .inr (4, [.ref ur])), (ur, .inl (cI, 7, .inl w)), (os, .inr (0, [.ref uc, .int tot])), (uc, .inl (cI, 11, .inl f)), (pay, .inl (cJ, 22, .inr (.inl (vp_updL py k 0)))), (stp, .inl (cI, 11, .inl sp)), (hT, .inl (cJ, 2304, .inr (.inl hta))), (hR, .inl (cI, 2304, .inl hra))] H := by rw [← e9]; exact hP
        have hD : va_D A [(h0, .inr (3, [.ref orr, .ref os, .ref ow, .ref oh, .int oup, .int obA, .long obT, .ref pay, .ref stp, .ref hT, .ref hR, .int hrd, .ref pT, .ref pR, .int prd])), (orr, .inr (4, [.ref ur])), (ur, .inl (cI, 7, .inl w)), (os, .inr (0, [.ref uc, .int tot])), (uc, .inl (cI, 11, .inl f)), (pay, .inl (cJ, 22, .inr (.inl (vp_updL py k 0)))), (stp, .inl (cI, 11, .inl sp)), (hT, .inl (cJ, 2304, .inr (.inl hta))), (hR, .inl (cI, 2304, .inl hra))] := by rw [← e9]; exact hD
        clear e9
        refine lv_iinc (v := (nI (k + 1))) (lv' := [(2, .int (nI (k + 1))), (1, .int p0), (0, .ref h0)]) hx hb dX3_endTotal_28 hl (k := 0) rfl (nI_incT (by decide)) (by decide) rfl (fun ls hl => ?_)
        refine lv_goto (tgt := 6) hx hb dX3_endTotal_31 (by decide) ?_
        exact ih (k + 1) (vp_updL py k 0) _ _ _ (by omega) (by omega) (updL_s hpy (by unfold pyE; first | rw [if_pos c19_2] | rw [if_neg c19_2])) hP hD hS (lv_sub hl [0, 1, 2] rfl) kk0
      · skip
        refine lv_lconst (v := 1) hx hb dX3_endTotal_22 (by decide) ?_
        refine lv_goto (tgt := 27) hx hb dX3_endTotal_23 (by decide) ?_
        refine va_last hx hb hK hP hD hS 5 1 rfl rfl (vp_in_nI (by omega) (by decide)) dX3_endTotal_27 (fun H locs hP hD hS => ?_)
        have e9 : (vp_updL py (nI k).toNatClampNeg 1) = vp_updL py k 1 := by rw [nI_clamp (show k < 2 ^ 31 by omega)]
        have hP : va_P D vwCl [(h0, .inr (3, [.ref orr, .ref os, .ref ow, .ref oh, .int oup, .int obA, .long obT, .ref pay, .ref stp, .ref hT, .ref hR, .int hrd, .ref pT, .ref pR, .int prd])), (orr, .inr (4, [.ref ur])), (ur, .inl (cI, 7, .inl w)), (os, .inr (0, [.ref uc, .int tot])), (uc, .inl (cI, 11, .inl f)), (pay, .inl (cJ, 22, .inr (.inl (vp_updL py k 1)))), (stp, .inl (cI, 11, .inl sp)), (hT, .inl (cJ, 2304, .inr (.inl hta))), (hR, .inl (cI, 2304, .inl hra))] H := by rw [← e9]; exact hP
        have hD : va_D A [(h0, .inr (3, [.ref orr, .ref os, .ref ow, .ref oh, .int oup, .int obA, .long obT, .ref pay, .ref stp, .ref hT, .ref hR, .int hrd, .ref pT, .ref pR, .int prd])), (orr, .inr (4, [.ref ur])), (ur, .inl (cI, 7, .inl w)), (os, .inr (0, [.ref uc, .int tot])), (uc, .inl (cI, 11, .inl f)), (pay, .inl (cJ, 22, .inr (.inl (vp_updL py k 1)))), (stp, .inl (cI, 11, .inl sp)), (hT, .inl (cJ, 2304, .inr (.inl hta))), (hR, .inl (cI, 2304, .inl hra))] := by rw [← e9]; exact hD
        clear e9
        refine lv_iinc (v := (nI (k + 1))) (lv' := [(2, .int (nI (k + 1))), (1, .int p0), (0, .ref h0)]) hx hb dX3_endTotal_28 hl (k := 0) rfl (nI_incT (by decide)) (by decide) rfl (fun ls hl => ?_)
        refine lv_goto (tgt := 6) hx hb dX3_endTotal_31 (by decide) ?_
        exact ih (k + 1) (vp_updL py k 1) _ _ _ (by omega) (by omega) (updL_s hpy (by unfold pyE; first | rw [if_pos c19_2] | rw [if_neg c19_2])) hP hD hS (lv_sub hl [0, 1, 2] rfl) kk0

set_option maxHeartbeats 400000 in
set_option maxRecDepth 100000 in
/-- X3_endTotal -/
theorem c_X3_endTotalV (l : Launch) (D : va_G) (cI cJ cQ : ClassId) (sz : Nat) (h0 : Nat) (orr : Nat) (os : Nat) (ow : Nat) (oh : Nat) (oup : Int32) (obA : Int32) (obT : Int64) (pay : Nat) (stp : Nat) (hT : Nat) (hR : Nat) (hrd : Int32) (pT : Nat) (pR : Nat) (prd : Int32) (ur : Nat) (w : Nat → Int32) (uc : Nat) (tot : Int32) (f : Nat → Int32) (py : Nat → Int64) (sp : Nat → Int32) (hta : Nat → Int64) (hra : Nat → Int32) (p0 : Int32) (tO : Nat) (cz : Nat → Nat) (un : Nat) (hw : (w 0).toInt ≤ 21) (hcap : smN cz ≤ 12) (hcn : cntI f cz) (hup : oup = nI un) (hun : un ≤ 10) (htt : tot = nI (smN cz)) (hI : RI hra hrd) (hrb : hrd.toInt < 2147483647) : Met l yX3_endTotal wsX3_endTotal ({ frames := 14, cells := 0, slots := 0, locals := 437 }) (va_Pc [.ref h0, .int p0] (mPo D (gTy cI cJ cQ) [(h0, .inr (3, [.ref orr, .ref os, .ref ow, .ref oh, .int oup, .int obA, .long obT, .ref pay, .ref stp, .ref hT, .ref hR, .int hrd, .ref pT, .ref pR, .int prd])), (orr, .inr (4, [.ref ur])), (ur, .inl (cI, 7, .inl w)), (os, .inr (0, [.ref uc, .int tot])), (uc, .inl (cI, 11, .inl f)), (pay, .inl (cJ, 22, .inr (.inl py))), (stp, .inl (cI, 11, .inl sp)), (hT, .inl (cJ, 2304, .inr (.inl hta))), (hR, .inl (cI, 2304, .inl hra))] sz tO)) (va_Ql (fun (r : Int64) (u : (Nat → Int64) × (Nat → Int32) × Int32 × (Nat → Int64) × (Nat → Int32)) => match u with | (py2, sp2, hrd2, ht2, hr2) => r = hoV w (pyE p0) un cz ∧ RI hr2 hrd2 ∧ hrd.toInt ≤ hrd2.toInt ∧ hrd2.toInt ≤ hrd.toInt + 1) (fun (u : (Nat → Int64) × (Nat → Int32) × Int32 × (Nat → Int64) × (Nat → Int32)) t => match u with | (py2, sp2, hrd2, ht2, hr2) => mB D (gTy cI cJ cQ) (va_A [(h0, .inr (3, [.ref orr, .ref os, .ref ow, .ref oh, .int oup, .int obA, .long obT, .ref pay, .ref stp, .ref hT, .ref hR, .int hrd, .ref pT, .ref pR, .int prd])), (orr, .inr (4, [.ref ur])), (ur, .inl (cI, 7, .inl w)), (os, .inr (0, [.ref uc, .int tot])), (uc, .inl (cI, 11, .inl f)), (pay, .inl (cJ, 22, .inr (.inl py))), (stp, .inl (cI, 11, .inl sp)), (hT, .inl (cJ, 2304, .inr (.inl hta))), (hR, .inl (cI, 2304, .inl hra))] sz) [(h0, .inr (3, [.ref orr, .ref os, .ref ow, .ref oh, .int oup, .int obA, .long obT, .ref pay, .ref stp, .ref hT, .ref hR, .int hrd2, .ref pT, .ref pR, .int prd])), (orr, .inr (4, [.ref ur])), (ur, .inl (cI, 7, .inl w)), (os, .inr (0, [.ref uc, .int tot])), (uc, .inl (cI, 11, .inl f)), (pay, .inl (cJ, 22, .inr (.inl py2))), (stp, .inl (cI, 11, .inl sp2)), (hT, .inl (cJ, 2304, .inr (.inl ht2))), (hR, .inl (cI, 2304, .inl hr2))] t) (va_A [(h0, .inr (3, [.ref orr, .ref os, .ref ow, .ref oh, .int oup, .int obA, .long obT, .ref pay, .ref stp, .ref hT, .ref hR, .int hrd, .ref pT, .ref pR, .int prd])), (orr, .inr (4, [.ref ur])), (ur, .inl (cI, 7, .inl w)), (os, .inr (0, [.ref uc, .int tot])), (uc, .inl (cI, 11, .inl f)), (pay, .inl (cJ, 22, .inr (.inl py))), (stp, .inl (cI, 11, .inl sp)), (hT, .inl (cJ, 2304, .inr (.inl hta))), (hR, .inl (cI, 2304, .inl hra))] sz)) 0 0 (va_A [(h0, .inr (3, [.ref orr, .ref os, .ref ow, .ref oh, .int oup, .int obA, .long obT, .ref pay, .ref stp, .ref hT, .ref hR, .int hrd, .ref pT, .ref pR, .int prd])), (orr, .inr (4, [.ref ur])), (ur, .inl (cI, 7, .inl w)), (os, .inr (0, [.ref uc, .int tot])), (uc, .inl (cI, 11, .inl f)), (pay, .inl (cJ, 22, .inr (.inl py))), (stp, .inl (cI, 11, .inl sp)), (hT, .inl (cJ, 2304, .inr (.inl hta))), (hR, .inl (cI, 2304, .inl hra))] sz) := by
  refine Met.ofW (cc := cX3_endTotal) (maxL := 3) (ret := (some .long)) (by decide) rfl ?_
  intro p e s m args below meth c s₁ B hml hv
  obtain ⟨rfl, ⟨hsz, hP, hK, hD0⟩, hZ⟩ := hv
  have hx := B.exec
  have hb := B.bytes
  have hr := B.returns
  have hts := atoms_spec (ws := wsX3_endTotal) B.pre
  have hown : s.vm.findClass RX3 = some m.cls := findClass_of_methodNamed B.named
  have hlocks := B.notSynchronized
  subst hsz
  have hD := hD0.self (sz := s.heap.size)
  generalize hAe : va_A [(h0, .inr (3, [.ref orr, .ref os, .ref ow, .ref oh, .int oup, .int obA, .long obT, .ref pay, .ref stp, .ref hT, .ref hR, .int hrd, .ref pT, .ref pR, .int prd])), (orr, .inr (4, [.ref ur])), (ur, .inl (cI, 7, .inl w)), (os, .inr (0, [.ref uc, .int tot])), (uc, .inl (cI, 11, .inl f)), (pay, .inl (cJ, 22, .inr (.inl py))), (stp, .inl (cI, 11, .inl sp)), (hT, .inl (cJ, 2304, .inr (.inl hta))), (hR, .inl (cI, 2304, .inl hra))] s.heap.size = A at hD hZ ⊢
  have hA : ∀ q : Nat, s.heap.size ≤ q → A q := fun q h => by rw [← hAe]; exact Or.inr h
  have hS : va_S A s.heap s.heap [] := va_S.rf
  have hP : va_P D vwCl [(h0, .inr (3, [.ref orr, .ref os, .ref ow, .ref oh, .int oup, .int obA, .long obT, .ref pay, .ref stp, .ref hT, .ref hR, .int hrd, .ref pT, .ref pR, .int prd])), (orr, .inr (4, [.ref ur])), (ur, .inl (cI, 7, .inl w)), (os, .inr (0, [.ref uc, .int tot])), (uc, .inl (cI, 11, .inl f)), (pay, .inl (cJ, 22, .inr (.inl py))), (stp, .inl (cI, 11, .inl sp)), (hT, .inl (cJ, 2304, .inr (.inl hta))), (hR, .inl (cI, 2304, .inl hra))] s.heap := hP
  have hl := lv_entry ([.ref h0, .int p0]) (n := 3) (Nat.le_of_ble_eq_true rfl)
  rw [lg_entry_eq]
  generalize (lg_sl ([.ref h0, .int p0]) ++ List.replicate (3 - (lg_sl ([.ref h0, .int p0])).length) Slot.unset).toArray = ls at hl ⊢
  have hl : lv_has ls 3 [(0, .ref h0), (1, .int p0)] := hl
  refine lv_aload_n hx hb dX3_endTotal_0 rfl (lv_at hl 0 rfl) ?_
  have hPc := hP.sub (ws' := [(h0, .inr (3, [.ref orr, .ref os, .ref ow, .ref oh, .int oup, .int obA, .long obT, .ref pay, .ref stp, .ref hT, .ref hR, .int hrd, .ref pT, .ref pR, .int prd])), (os, .inr (0, [.ref uc, .int tot])), (uc, .inl (cI, 11, .inl f)), (stp, .inl (cI, 11, .inl sp))]) [0, 3, 4, 6] rfl
  have hDc := hD.sub (ws' := [(h0, .inr (3, [.ref orr, .ref os, .ref ow, .ref oh, .int oup, .int obA, .long obT, .ref pay, .ref stp, .ref hT, .ref hR, .int hrd, .ref pT, .ref pR, .int prd])), (os, .inr (0, [.ref uc, .int tot])), (uc, .inl (cI, 11, .inl f)), (stp, .inl (cI, 11, .inl sp))]) [0, 3, 4, 6] (by decide) rfl
  have hFc := va_free (wc := [(h0, .inr (3, [.ref orr, .ref os, .ref ow, .ref oh, .int oup, .int obA, .long obT, .ref pay, .ref stp, .ref hT, .ref hR, .int hrd, .ref pT, .ref pR, .int prd])), (os, .inr (0, [.ref uc, .int tot])), (uc, .inl (cI, 11, .inl f)), (stp, .inl (cI, 11, .inl sp))]) hD hS hA [0, 3, 4, 6] rfl
  refine va_callv (va_runV (As := []) (rest := []) ⟨hx, hb, hml, hown, hts⟩ (c_X3_numberHeaps l D cI cJ cQ _ h0 orr os ow oh oup obA obT pay stp hT hR hrd pT pR prd uc tot (f) (sp)) (cwV 0 hts gX3_endTotal_X3_numberHeaps rfl rfl rfl (by decide +kernel) ⟨Nat.le_of_ble_eq_true rfl, Nat.le_of_ble_eq_true rfl⟩) (mP_preV (ci := 3) (q0 := 0) hPc hK hDc rfl rfl) rfl rfl hl.1 rfl (lv_room (Nat.le_of_ble_eq_true rfl)) dX3_endTotal_1 ⟨Nat.le_of_ble_eq_true rfl, Nat.le_of_ble_eq_true rfl⟩) hS (fun q _ h => hFc q h) hFc (fun u_r_1 t H1 locs ht hvm hr_1 hB hz1 hk1 hS => ?_)
  obtain ⟨sp2_2, rfl⟩ : ∃ z, z = u_r_1 := ⟨_, rfl⟩
  obtain ⟨hP1, hK1, hD1⟩ := hB
  rw [ht] at hP1
  try dsimp only at hr_1
  obtain ⟨hP, hD⟩ := va_join (wr := [(orr, .inr (4, [.ref ur])), (ur, .inl (cI, 7, .inl w)), (pay, .inl (cJ, 22, .inr (.inl py))), (hT, .inl (cJ, 2304, .inr (.inl hta))), (hR, .inl (cI, 2304, .inl hra))]) (w1 := [(h0, .inr (3, [.ref orr, .ref os, .ref ow, .ref oh, .int oup, .int obA, .long obT, .ref pay, .ref stp, .ref hT, .ref hR, .int hrd, .ref pT, .ref pR, .int prd])), (os, .inr (0, [.ref uc, .int tot])), (uc, .inl (cI, 11, .inl (f))), (stp, .inl (cI, 11, .inl sp2_2))]) hP hD [0, 3, 4, 6] [1, 2, 5, 7, 8] rfl rfl (by decide) (by decide) hk1 hFc hP1 hD1
  generalize H1 = H at hP hS ⊢
  have hP : va_P D vwCl [(orr, .inr (4, [.ref ur])), (ur, .inl (cI, 7, .inl w)), (pay, .inl (cJ, 22, .inr (.inl py))), (hT, .inl (cJ, 2304, .inr (.inl hta))), (hR, .inl (cI, 2304, .inl hra)), (h0, .inr (3, [.ref orr, .ref os, .ref ow, .ref oh, .int oup, .int obA, .long obT, .ref pay, .ref stp, .ref hT, .ref hR, .int hrd, .ref pT, .ref pR, .int prd])), (os, .inr (0, [.ref uc, .int tot])), (uc, .inl (cI, 11, .inl (f))), (stp, .inl (cI, 11, .inl sp2_2))] H := hP
  have hD : va_D A [(orr, .inr (4, [.ref ur])), (ur, .inl (cI, 7, .inl w)), (pay, .inl (cJ, 22, .inr (.inl py))), (hT, .inl (cJ, 2304, .inr (.inl hta))), (hR, .inl (cI, 2304, .inl hra)), (h0, .inr (3, [.ref orr, .ref os, .ref ow, .ref oh, .int oup, .int obA, .long obT, .ref pay, .ref stp, .ref hT, .ref hR, .int hrd, .ref pT, .ref pR, .int prd])), (os, .inr (0, [.ref uc, .int tot])), (uc, .inl (cI, 11, .inl (f))), (stp, .inl (cI, 11, .inl sp2_2))] := hD
  refine lv_iconst (v := 0) hx hb dX3_endTotal_4 (by decide) ?_
  refine lv_istore_n (lv' := [(2, .int 0), (0, .ref h0), (1, .int p0)]) hx hb dX3_endTotal_5 rfl hl (by decide) rfl (fun ls hl => ?_)
  refine lpEndV hx hb hml hown hts hK hA h0 orr os ow oh oup obA obT pay stp hT hR hrd pT pR prd ur w uc tot f sp2_2 hta hra p0 (Nat.le_of_ble_eq_true rfl) (Nat.le_of_ble_eq_true rfl) (Nat.zero_le _) (Nat.zero_le _)  (22 - 0 + 1) 0 py _ _ _ (Nat.lt_succ_self _) (by omega) (fun j a => absurd a (by omega)) (hP.sub [5, 0, 1, 6, 7, 2, 8, 3, 4] rfl) (hD.sub [5, 0, 1, 6, 7, 2, 8, 3, 4] (by decide) rfl) hS (lv_sub hl [0, 2, 1] rfl) (fun py_3 H locs ls hpy_4 hP hD hS hl => ?_)
  have hP : va_P D vwCl [(h0, .inr (3, [.ref orr, .ref os, .ref ow, .ref oh, .int oup, .int obA, .long obT, .ref pay, .ref stp, .ref hT, .ref hR, .int hrd, .ref pT, .ref pR, .int prd])), (orr, .inr (4, [.ref ur])), (ur, .inl (cI, 7, .inl w)), (os, .inr (0, [.ref uc, .int tot])), (uc, .inl (cI, 11, .inl f)), (pay, .inl (cJ, 22, .inr (.inl py_3))), (stp, .inl (cI, 11, .inl sp2_2)), (hT, .inl (cJ, 2304, .inr (.inl hta))), (hR, .inl (cI, 2304, .inl hra))] H := hP
  have hD : va_D A [(h0, .inr (3, [.ref orr, .ref os, .ref ow, .ref oh, .int oup, .int obA, .long obT, .ref pay, .ref stp, .ref hT, .ref hR, .int hrd, .ref pT, .ref pR, .int prd])), (orr, .inr (4, [.ref ur])), (ur, .inl (cI, 7, .inl w)), (os, .inr (0, [.ref uc, .int tot])), (uc, .inl (cI, 11, .inl f)), (pay, .inl (cJ, 22, .inr (.inl py_3))), (stp, .inl (cI, 11, .inl sp2_2)), (hT, .inl (cJ, 2304, .inr (.inl hta))), (hR, .inl (cI, 2304, .inl hra))] := hD
  refine lv_aload_n hx hb dX3_endTotal_34 rfl (lv_at hl 0 rfl) ?_
  refine lv_dup hx hb dX3_endTotal_35 rfl ?_
  refine va_get (D := D) (ci := 3) (v := .int hrd) (C := RX3) (T := TX3) (N := 15) hx hb hts in_X3_endTotal_X3 hown hK hP 0 rfl rfl 11 (by decide) (hts _ wd_X3_endTotal_1) (fun _ h9 => h9) rfl dX3_endTotal_36 ?_
  refine lv_iconst (v := 1) hx hb dX3_endTotal_39 (by decide) ?_
  refine lv_iadd hx hb dX3_endTotal_40 ?_
  refine va_put (D := D) (ci := 3) (v := .int (hrd + 1)) (ty := .int) (C := RX3) (T := TX3) (N := 15) hx hb hts in_X3_endTotal_X3 tyX3 tyX3_ok nmX3 hown hK hP hD hS 0 rfl rfl 11 (by decide) (hts _ wd_X3_endTotal_1) (fun _ h9 => h9) rfl (by decide +kernel) rfl rfl (Nat.le_of_ble_eq_true rfl) dX3_endTotal_41 (fun H locs hP hD hS => ?_)
  have hP : va_P D vwCl [(h0, .inr (3, [.ref orr, .ref os, .ref ow, .ref oh, .int oup, .int obA, .long obT, .ref pay, .ref stp, .ref hT, .ref hR, .int (hrd + 1), .ref pT, .ref pR, .int prd])), (orr, .inr (4, [.ref ur])), (ur, .inl (cI, 7, .inl w)), (os, .inr (0, [.ref uc, .int tot])), (uc, .inl (cI, 11, .inl f)), (pay, .inl (cJ, 22, .inr (.inl py_3))), (stp, .inl (cI, 11, .inl sp2_2)), (hT, .inl (cJ, 2304, .inr (.inl hta))), (hR, .inl (cI, 2304, .inl hra))] H := hP
  have hD : va_D A [(h0, .inr (3, [.ref orr, .ref os, .ref ow, .ref oh, .int oup, .int obA, .long obT, .ref pay, .ref stp, .ref hT, .ref hR, .int (hrd + 1), .ref pT, .ref pR, .int prd])), (orr, .inr (4, [.ref ur])), (ur, .inl (cI, 7, .inl w)), (os, .inr (0, [.ref uc, .int tot])), (uc, .inl (cI, 11, .inl f)), (pay, .inl (cJ, 22, .inr (.inl py_3))), (stp, .inl (cI, 11, .inl sp2_2)), (hT, .inl (cJ, 2304, .inr (.inl hta))), (hR, .inl (cI, 2304, .inl hra))] := hD
  have hst9 := fun j a b => (hr_1 j a b).trans (hpC_N hcn (j - 1) (by omega))
  have hlc := le10_rf cz
  obtain ⟨hI2, hrd3, hnew⟩ := hI.up hrb
  have s12 := Nat.le_trans (smN_mo hlc) hcap
  refine lv_aload_n hx hb dX3_endTotal_44 rfl (lv_at hl 0 rfl) ?_
  refine lv_iconst (v := 0) hx hb dX3_endTotal_45 (by decide) ?_
  refine lv_aload_n hx hb dX3_endTotal_46 rfl (lv_at hl 0 rfl) ?_
  refine va_get (D := D) (ci := 3) (v := .int oup) (C := RX3) (T := TX3) (N := 15) hx hb hts in_X3_endTotal_X3 hown hK hP 0 rfl rfl 4 (by decide) (hts _ wd_X3_endTotal_2) (fun _ h9 => h9) rfl dX3_endTotal_47 ?_
  refine lv_join (α := Bool) 63 3 (fun a9 => [(0, .ref h0)]) (fun a9 => [.int (bI a9), .int oup, .int 0, .ref h0]) (fun a9 => a9 = (decide (oup = 1))) (fun a_7 ls hl hp_6 => ?_) (fun hJ_5 => ?_)
  · skip
    have hp_6 : a_7 = (decide (oup = 1)) := hp_6
    subst hp_6
    refine lv_aload_n hx hb dX3_endTotal_63 rfl (lv_at hl 0 rfl) ?_
    refine va_get (D := D) (ci := 3) (v := .ref os) (C := RX3) (T := TX3) (N := 15) hx hb hts in_X3_endTotal_X3 hown hK hP 0 rfl rfl 1 (by decide) (hts _ wd_X3_endTotal_3) (fun _ h9 => h9) rfl dX3_endTotal_64 ?_
    refine va_get (D := D) (ci := 0) (v := .int tot) (C := RX0) (T := TX0) (N := 2) hx hb hts in_X3_endTotal_X0 hown hK hP 3 rfl rfl 1 (by decide) (hts _ wd_X3_endTotal_4) (fun _ h9 => h9) rfl dX3_endTotal_67 ?_
    have hPc := hP.sub (ws' := [(h0, .inr (3, [.ref orr, .ref os, .ref ow, .ref oh, .int oup, .int obA, .long obT, .ref pay, .ref stp, .ref hT, .ref hR, .int (hrd + 1), .ref pT, .ref pR, .int prd])), (orr, .inr (4, [.ref ur])), (ur, .inl (cI, 7, .inl w)), (os, .inr (0, [.ref uc, .int tot])), (uc, .inl (cI, 11, .inl f)), (pay, .inl (cJ, 22, .inr (.inl py_3))), (stp, .inl (cI, 11, .inl sp2_2)), (hT, .inl (cJ, 2304, .inr (.inl hta))), (hR, .inl (cI, 2304, .inl hra))]) [0, 1, 2, 3, 4, 5, 6, 7, 8] rfl
    have hDc := hD.sub (ws' := [(h0, .inr (3, [.ref orr, .ref os, .ref ow, .ref oh, .int oup, .int obA, .long obT, .ref pay, .ref stp, .ref hT, .ref hR, .int (hrd + 1), .ref pT, .ref pR, .int prd])), (orr, .inr (4, [.ref ur])), (ur, .inl (cI, 7, .inl w)), (os, .inr (0, [.ref uc, .int tot])), (uc, .inl (cI, 11, .inl f)), (pay, .inl (cJ, 22, .inr (.inl py_3))), (stp, .inl (cI, 11, .inl sp2_2)), (hT, .inl (cJ, 2304, .inr (.inl hta))), (hR, .inl (cI, 2304, .inl hra))]) [0, 1, 2, 3, 4, 5, 6, 7, 8] (by decide) rfl
    have hFc := va_free (wc := [(h0, .inr (3, [.ref orr, .ref os, .ref ow, .ref oh, .int oup, .int obA, .long obT, .ref pay, .ref stp, .ref hT, .ref hR, .int (hrd + 1), .ref pT, .ref pR, .int prd])), (orr, .inr (4, [.ref ur])), (ur, .inl (cI, 7, .inl w)), (os, .inr (0, [.ref uc, .int tot])), (uc, .inl (cI, 11, .inl f)), (pay, .inl (cJ, 22, .inr (.inl py_3))), (stp, .inl (cI, 11, .inl sp2_2)), (hT, .inl (cJ, 2304, .inr (.inl hta))), (hR, .inl (cI, 2304, .inl hra))]) hD hS hA [0, 1, 2, 3, 4, 5, 6, 7, 8] rfl
    refine va_calll (va_runV (As := [.int 0, .int oup, .int (bI (decide (oup = 1))), .int tot]) (rest := []) ⟨hx, hb, hml, hown, hts⟩ (c_X3_houseTotalV_all l D cI cJ cQ 12 _ h0 orr os ow oh oup obA obT pay stp hT hR (hrd + 1) pT pR prd ur (w) uc tot (f) (py_3) (sp2_2) (hta) (hra) 0 oup (decide (oup = 1)) tot tO cz cz cz un (decide ((nI un) = 1)) (by rw [hup]; exact HVc.new hcap hlc hcn hst9 hun (by rw [ixC_self]; decide) htt) (MV.new hcap hnew) hI2 hw (by rw [htt, toInt_nI (by omega)]; omega)) (cwV 4 hts gX3_endTotal_X3_houseTotal rfl rfl rfl (by decide +kernel) ⟨Nat.le_of_ble_eq_true rfl, Nat.le_of_ble_eq_true rfl⟩) (mPo_preV (ci := 3) (q0 := 0) hPc hK hDc hZ hS hFc rfl rfl) rfl rfl hl.1 rfl (lv_room (Nat.le_of_ble_eq_true rfl)) dX3_endTotal_70 ⟨Nat.le_of_ble_eq_true rfl, Nat.le_of_ble_eq_true rfl⟩) hS (fun q _ h => hFc q h) hFc (fun r_8 u_r_8 t H1 locs ht hvm hr_8 hB hz1 hk1 hS => ?_)
    obtain ⟨ht2_9, hr2_10⟩ := u_r_8
    obtain ⟨hP1, hK1, hD1⟩ := hB
    rw [ht] at hP1
    try dsimp only at hr_8
    obtain ⟨hP, hD⟩ := va_join (wr := []) (w1 := [(h0, .inr (3, [.ref orr, .ref os, .ref ow, .ref oh, .int oup, .int obA, .long obT, .ref pay, .ref stp, .ref hT, .ref hR, .int (hrd + 1), .ref pT, .ref pR, .int prd])), (orr, .inr (4, [.ref ur])), (ur, .inl (cI, 7, .inl (w))), (os, .inr (0, [.ref uc, .int tot])), (uc, .inl (cI, 11, .inl (f))), (pay, .inl (cJ, 22, .inr (.inl (py_3)))), (stp, .inl (cI, 11, .inl (sp2_2))), (hT, .inl (cJ, 2304, .inr (.inl ht2_9))), (hR, .inl (cI, 2304, .inl hr2_10))]) hP hD [0, 1, 2, 3, 4, 5, 6, 7, 8] [] rfl rfl (by decide) (by decide) hk1 hFc hP1 hD1
    generalize H1 = H at hP hS ⊢
    have hP : va_P D vwCl [(h0, .inr (3, [.ref orr, .ref os, .ref ow, .ref oh, .int oup, .int obA, .long obT, .ref pay, .ref stp, .ref hT, .ref hR, .int (hrd + 1), .ref pT, .ref pR, .int prd])), (orr, .inr (4, [.ref ur])), (ur, .inl (cI, 7, .inl (w))), (os, .inr (0, [.ref uc, .int tot])), (uc, .inl (cI, 11, .inl (f))), (pay, .inl (cJ, 22, .inr (.inl (py_3)))), (stp, .inl (cI, 11, .inl (sp2_2))), (hT, .inl (cJ, 2304, .inr (.inl ht2_9))), (hR, .inl (cI, 2304, .inl hr2_10))] H := hP
    have hD : va_D A [(h0, .inr (3, [.ref orr, .ref os, .ref ow, .ref oh, .int oup, .int obA, .long obT, .ref pay, .ref stp, .ref hT, .ref hR, .int (hrd + 1), .ref pT, .ref pR, .int prd])), (orr, .inr (4, [.ref ur])), (ur, .inl (cI, 7, .inl (w))), (os, .inr (0, [.ref uc, .int tot])), (uc, .inl (cI, 11, .inl (f))), (pay, .inl (cJ, 22, .inr (.inl (py_3)))), (stp, .inl (cI, 11, .inl (sp2_2))), (hT, .inl (cJ, 2304, .inr (.inl ht2_9))), (hR, .inl (cI, 2304, .inl hr2_10))] := hD
    have hP9 := hP.sub (ws' := [(h0, .inr (3, [.ref orr, .ref os, .ref ow, .ref oh, .int oup, .int obA, .long obT, .ref pay, .ref stp, .ref hT, .ref hR, .int (hrd + 1), .ref pT, .ref pR, .int prd])), (orr, .inr (4, [.ref ur])), (ur, .inl (cI, 7, .inl (w))), (os, .inr (0, [.ref uc, .int tot])), (uc, .inl (cI, 11, .inl (f))), (pay, .inl (cJ, 22, .inr (.inl (py_3)))), (stp, .inl (cI, 11, .inl (sp2_2))), (hT, .inl (cJ, 2304, .inr (.inl ht2_9))), (hR, .inl (cI, 2304, .inl hr2_10))]) [0, 1, 2, 3, 4, 5, 6, 7, 8] rfl
    have hD9 := hD.sub (ws' := [(h0, .inr (3, [.ref orr, .ref os, .ref ow, .ref oh, .int oup, .int obA, .long obT, .ref pay, .ref stp, .ref hT, .ref hR, .int (hrd + 1), .ref pT, .ref pR, .int prd])), (orr, .inr (4, [.ref ur])), (ur, .inl (cI, 7, .inl (w))), (os, .inr (0, [.ref uc, .int tot])), (uc, .inl (cI, 11, .inl (f))), (pay, .inl (cJ, 22, .inr (.inl (py_3)))), (stp, .inl (cI, 11, .inl (sp2_2))), (hT, .inl (cJ, 2304, .inr (.inl ht2_9))), (hR, .inl (cI, 2304, .inl hr2_10))]) [0, 1, 2, 3, 4, 5, 6, 7, 8] (by decide) rfl
    exact W.lret (v := r_8) hx hb hr (fun t ht hW => ⟨⟨r_8, (((py_3)), ((sp2_2)), (hrd + 1), (ht2_9), (hr2_10)), rfl, ⟨by unfold hoV; rw [hr_8.1, hup]; exact hv_py hpy_4 hw (by omega), hr_8.2.2, by omega, by omega⟩, by rw [ht]; exact hP9, va_K.moved hW.alike hK, hD9⟩, hS.F ht⟩) hS.2.2 dX3_endTotal_73
  · skip
    refine lv_aload_n hx hb dX3_endTotal_50 rfl (lv_at hl 0 rfl) ?_
    refine va_get (D := D) (ci := 3) (v := .int oup) (C := RX3) (T := TX3) (N := 15) hx hb hts in_X3_endTotal_X3 hown hK hP 0 rfl rfl 4 (by decide) (hts _ wd_X3_endTotal_2) (fun _ h9 => h9) rfl dX3_endTotal_51 ?_
    refine lv_iconst (v := 1) hx hb dX3_endTotal_54 (by decide) ?_
    refine lv_icmp_ne (tgt := 62) hx hb dX3_endTotal_55 (by decide) (fun c55_11 => ?_) (fun c55_11 => ?_)
    · skip
      refine lv_iconst (v := 0) hx hb dX3_endTotal_62 (by decide) ?_
      exact hJ_5 false ls (lv_sub hl [0] rfl) (by first | assumption | (simp [c55_11]; done) | ((try first | rw [if_pos c55_11] | rw [if_neg c55_11]); first | done | rfl | trivial) | (simp_all; done))
    · skip
      refine lv_iconst (v := 1) hx hb dX3_endTotal_58 (by decide) ?_
      refine lv_goto (tgt := 63) hx hb dX3_endTotal_59 (by decide) ?_
      exact hJ_5 true ls (lv_sub hl [0] rfl) (by first | assumption | (simp [c55_11]; done) | ((try first | rw [if_pos c55_11] | rw [if_neg c55_11]); first | done | rfl | trivial) | (simp_all; done))
