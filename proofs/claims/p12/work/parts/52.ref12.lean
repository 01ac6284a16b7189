
set_option maxHeartbeats 400000 in
set_option maxRecDepth 100000 in
theorem lpCh {p : Program} {l : Launch} {e : Env} {R : Room} {s : State} {m : MethodId} {args : Array Value} {below : List Frame} {meth : Method} {c : Code} {Q : State → Prop} {D : va_G} {cI cJ cQ : ClassId} {cells slots : Nat} (hx : p.tables.exec = Jvm.exec) (hb : c.code = cX6_choose) (hml : c.maxLocals = 5) (hown : s.vm.findClass RX6 = some m.cls) (hts : ∀ w ∈ wsX6_choose, w.before args s = true) (hK : va_K D vwCl (gTy cI cJ cQ) s) (n : Nat) (q : Nat) (hRf : 0 ≤ R.frames) (hRl : 0 ≤ R.locals) (hRc : cells ≤ R.cells) (hRs : slots ≤ R.slots) {H : Heap} {locs : List Loc} (hP : va_P D vwCl [] H) (hq : q ≤ n) (h8 : q ≤ 8) (hn32 : n ≤ 32) : ∀ (n9 : Nat) (i : Nat) (ls : Array Slot), q - i < n9 → (i ≤ q) → lv_has ls 5 [(4, .int (nI i)), (2, .long (lN (chN n i))), (1, .int (nI q)), (0, .int (nI n))] → (∀ (ls : Array Slot), lv_has ls 5 [(2, .long (lN (chN n q)))] → W p l e R s m args below meth c H locs cells slots Q (F0 m 31 ls [])) → W p l e R s m args below meth c H locs cells slots Q (F0 m 5 ls []) := by
  intro n9
  induction n9 with
  | zero => intro i ls hms9; exact absurd hms9 (Nat.not_lt_zero _)
  | succ n9 ih =>
    intro i ls hms9 i2 hl kk0
    refine lv_iload hx hb dX6_choose_5 (lv_at hl 0 rfl) ?_
    refine lv_iload_n hx hb dX6_choose_7 rfl (lv_at hl 2 rfl) ?_
    refine lv_icmp_ge (tgt := 31) hx hb dX6_choose_8 (by decide) (fun c8_1 => ?_) (fun c8_1 => ?_)
    · skip
      have nc8_1 : q ≤ i := (nI_leI (a := q) (b := i) (by omega) (by omega)).mp c8_1
      obtain rfl : i = q := by omega
      exact kk0 _ (lv_sub hl [1] rfl)
    · skip
      have nc8_1 : ¬ (q ≤ i) := fun z9 => c8_1 ((nI_leI (a := q) (b := i) (by omega) (by omega)).mpr z9)
      refine lv_lload_n hx hb dX6_choose_11 rfl (lv_at hl 1 rfl) ?_
      refine lv_iload_n hx hb dX6_choose_12 rfl (lv_at hl 3 rfl) ?_
      refine lv_iload hx hb dX6_choose_13 (lv_at hl 0 rfl) ?_
      refine lv_isub hx hb dX6_choose_15 ?_
      refine lv_topi (fun z_2 ez_2 => ?_)
      obtain rfl : z_2 = nI (n - i) := ez_2.trans (nI_subT (a := n) (b := i) (by omega))
      refine lv_i2l (v := (nI (n - i)).toInt64) hx hb dX6_choose_16 rfl ?_
      refine lv_lmul hx hb dX6_choose_17 ?_
      refine lv_iload hx hb dX6_choose_18 (lv_at hl 0 rfl) ?_
      refine lv_iconst (v := 1) hx hb dX6_choose_20 (by decide) ?_
      refine lv_iadd hx hb dX6_choose_21 ?_
      refine lv_topi (fun z_3 ez_3 => ?_)
      obtain rfl : z_3 = nI (i + 1) := ez_3.trans (nI_add _ _)
      refine lv_i2l (v := (nI (i + 1)).toInt64) hx hb dX6_choose_22 rfl ?_
      refine lv_ldiv hx hb dX6_choose_23 (by rw [nI_l (by omega)]; exact lB_ne (by omega) (by omega)) ?_
      have hcl := chN_le n i
      have hpw := pw_le (n := n) (c := i) (by omega) (by omega)
      have hmu : chN n i * (n - i) < 2 ^ 62 := Nat.lt_of_le_of_lt (Nat.mul_le_mul (Nat.le_trans hcl hpw) (show n - i ≤ 32 by omega)) (by decide)
      refine lv_topl (fun z_4 ez_4 => ?_)
      obtain rfl : z_4 = lN (chN n (i + 1)) := ez_4.trans (by rw [nI_l (by omega), nI_l (by omega), lN_mul, lB_div hmu (by omega)]; rfl)
      refine lv_lstore_n (lv' := [(2, .long (lN (chN n (i + 1)))), (4, .int (nI i)), (1, .int (nI q)), (0, .int (nI n))]) hx hb dX6_choose_24 rfl hl (by decide) rfl (fun ls hl => ?_)
      refine lv_iinc (v := (nI (i + 1))) (lv' := [(4, .int (nI (i + 1))), (2, .long (lN (chN n (i + 1)))), (1, .int (nI q)), (0, .int (nI n))]) hx hb dX6_choose_25 hl (k := 1) rfl (nI_incT (by decide)) (by decide) rfl (fun ls hl => ?_)
      refine lv_goto (tgt := 5) hx hb dX6_choose_28 (by decide) ?_
      exact ih (i + 1) _ (by omega) (by omega) (lv_sub hl [0, 1, 2, 3] rfl) kk0

set_option maxHeartbeats 400000 in
set_option maxRecDepth 100000 in
/-- X6_choose -/
theorem c_X6_choose (l : Launch) (D : va_G) (cI cJ cQ : ClassId) (n : Nat) (q : Nat) (hq : q ≤ n) (h8 : q ≤ 8) (hn32 : n ≤ 32) : Met l yX6_choose wsX6_choose ({ frames := 0, cells := 0, slots := 0, locals := 0 }) (va_Pc [.int (nI n), .int (nI q)] (rP D (gTy cI cJ cQ) [])) (vp_Sl (fun r => r = lN (chN n q))) 0 0 (fun _ => False) := by
  refine Met.ofW (cc := cX6_choose) (maxL := 5) (ret := (some .long)) (by decide) rfl ?_
  intro p e s m args below meth c s₁ B hml hv
  obtain ⟨rfl, hP, hK⟩ := hv
  have hx := B.exec
  have hb := B.bytes
  have hr := B.returns
  have hts := atoms_spec (ws := wsX6_choose) B.pre
  have hown : s.vm.findClass RX6 = some m.cls := findClass_of_methodNamed B.named
  have hlocks := B.notSynchronized
  have hl := lv_entry ([.int (nI n), .int (nI q)]) (n := 5) (Nat.le_of_ble_eq_true rfl)
  rw [lg_entry_eq]
  generalize (lg_sl ([.int (nI n), .int (nI q)]) ++ List.replicate (5 - (lg_sl ([.int (nI n), .int (nI q)])).length) Slot.unset).toArray = ls at hl ⊢
  have hl : lv_has ls 5 [(0, .int (nI n)), (1, .int (nI q))] := hl
  refine lv_lconst (v := 1) hx hb dX6_choose_0 (by decide) ?_
  refine lv_lstore_n (lv' := [(2, .long 1), (0, .int (nI n)), (1, .int (nI q))]) hx hb dX6_choose_1 rfl hl (by decide) rfl (fun ls hl => ?_)
  refine lv_iconst (v := 0) hx hb dX6_choose_2 (by decide) ?_
  refine lv_istore (lv' := [(4, .int 0), (2, .long 1), (0, .int (nI n)), (1, .int (nI q))]) hx hb dX6_choose_3 hl (by decide) rfl (fun ls hl => ?_)
  refine lpCh hx hb hml hown hts hK n q (Nat.le_of_ble_eq_true rfl) (Nat.le_of_ble_eq_true rfl) (Nat.zero_le _) (Nat.zero_le _) hP hq h8 hn32 (q - 0 + 1) 0 _ (Nat.lt_succ_self _) (by omega) (lv_sub hl [0, 1, 3, 2] rfl) (fun ls  hl => ?_)
  refine lv_lload_n hx hb dX6_choose_31 rfl (lv_at hl 0 rfl) ?_
  exact W.lret (v := lN (chN n q)) hx hb hr (fun t ht hW => ⟨_, rfl, rfl, ht⟩) (fun q hq => absurd hq List.not_mem_nil) dX6_choose_32

set_option maxRecDepth 20000 in
theorem in_X6_addRank_X6 : ∀ w ∈ wsX60, w ∈ wsX6_addRank := by decide +kernel
set_option maxRecDepth 20000 in
theorem wd_X6_addRank_0 : Cond.fieldLink RX6 80 "ShoeTableModel" "nextWays" "[J" ∈ wsX6_addRank := by decide +kernel
set_option maxRecDepth 20000 in
theorem wd_X6_addRank_1 : Cond.fieldLink RX6 83 "ShoeTableModel" "nextTaken" "[J" ∈ wsX6_addRank := by decide +kernel
set_option maxHeartbeats 400000 in
set_option maxRecDepth 100000 in
theorem lpA1 {p : Program} {l : Launch} {e : Env} {R : Room} {s : State} {m : MethodId} {args : Array Value} {below : List Frame} {meth : Method} {c : Code} {Q : State → Prop} {D : va_G} {cI cJ cQ : ClassId} {A : Nat → Prop} {cells slots : Nat} (hx : p.tables.exec = Jvm.exec) (hb : c.code = cX6_addRank) (hml : c.maxLocals = 10) (hown : s.vm.findClass RX6 = some m.cls) (hts : ∀ w ∈ wsX6_addRank, w.before args s = true) (hK : va_K D vwCl (gTy cI cJ cQ) s) (hA : ∀ q : Nat, s.heap.size ≤ q → A q) (m0 : Nat) (ms : Nat) (mf : Nat) (mw : Nat) (mk : Nat) (mtold : Bool) (mh : Nat) (hn : Nat) (un : Nat) (tg : Nat) (stan : Int32) (soft : Int32) (doub : Int32) (spli : Int32) (giv : Int32) (bon : Int32) (drw : Int64) (mbank : Int32) (q0 : Nat) (q1 : Nat) (q2 : Nat) (hp : Nat) (q3 : Nat) (q4 : Nat) (q5 : Nat) (q6 : Nat) (q7 : Nat) (msum : Int32) (hasA : Bool) (mcards : Int32) (mpair : Int32) (sh : Nat) (want : Int32) (mwin : Int32) (isCh : Bool) (mbest : Int32) (k0 : Nat) (k1 : Nat) (k2 : Nat) (k3 : Nat) (ff : Nat → Int32) (mm : Nat → Int32) (a : Nat → Int64) (b : Nat → Int64) (rk : Nat) (p1 : Int32) (most : Nat) (hRf : 0 ≤ R.frames) (hRl : 0 ≤ R.locals) (hRc : cells ≤ R.cells) (hRs : slots ≤ R.slots)  : ∀ (n9 : Nat) (k : Nat) (g1 : Nat → Int64) (g2 : Nat → Int64) (H : Heap) (locs : List Loc) (ls : Array Slot), 549 - k < n9 → (k ≤ 549) → (∀ j, j < k → g1 j = 0) → va_P D vwCl [(m0, .inr (6, [.ref ms, .ref mf, .ref mw, .ref mk, .int (bI mtold), .ref mh, .int (nI hn), .int (nI un), .int (nI tg), .int stan, .int soft, .int doub, .int spli, .int giv, .int bon, .long drw, .int mbank, .ref q0, .ref q1, .ref q2, .int (nI hp), .ref q3, .ref q4, .ref q5, .ref q6, .ref q7, .int msum, .int (bI hasA), .int mcards, .int mpair, .int (nI sh), .int want, .int mwin, .int (bI isCh), .int mbest, .ref k0, .ref k1, .ref k2, .ref k3])), (mf, .inl (cI, 11, .inl ff)), (mk, .inl (cI, 11, .inl mm)), (k0, .inl (cJ, 549, .inr (.inl a))), (k1, .inl (cJ, 549, .inr (.inl b))), (k2, .inl (cJ, 549, .inr (.inl g1))), (k3, .inl (cJ, 549, .inr (.inl g2)))] H → va_D A [(m0, .inr (6, [.ref ms, .ref mf, .ref mw, .ref mk, .int (bI mtold), .ref mh, .int (nI hn), .int (nI un), .int (nI tg), .int stan, .int soft, .int doub, .int spli, .int giv, .int bon, .long drw, .int mbank, .ref q0, .ref q1, .ref q2, .int (nI hp), .ref q3, .ref q4, .ref q5, .ref q6, .ref q7, .int msum, .int (bI hasA), .int mcards, .int mpair, .int (nI sh), .int want, .int mwin, .int (bI isCh), .int mbest, .ref k0, .ref k1, .ref k2, .ref k3])), (mf, .inl (cI, 11, .inl ff)), (mk, .inl (cI, 11, .inl mm)), (k0, .inl (cJ, 549, .inr (.inl a))), (k1, .inl (cJ, 549, .inr (.inl b))), (k2, .inl (cJ, 549, .inr (.inl g1))), (k3, .inl (cJ, 549, .inr (.inl g2)))] → va_S A s.heap H locs → lv_has ls 10 [(4, .int (nI k)), (3, .int (nI most)), (2, .int p1), (1, .int (nI rk)), (0, .ref m0)] → (∀ (g1 : Nat → Int64) (g2 : Nat → Int64) (H : Heap) (locs : List Loc) (ls : Array Slot), (∀ j, j < 549 → g1 j = 0) → va_P D vwCl [(m0, .inr (6, [.ref ms, .ref mf, .ref mw, .ref mk, .int (bI mtold), .ref mh, .int (nI hn), .int (nI un), .int (nI tg), .int stan, .int soft, .int doub, .int spli, .int giv, .int bon, .long drw, .int mbank, .ref q0, .ref q1, .ref q2, .int (nI hp), .ref q3, .ref q4, .ref q5, .ref q6, .ref q7, .int msum, .int (bI hasA), .int mcards, .int mpair, .int (nI sh), .int want, .int mwin, .int (bI isCh), .int mbest, .ref k0, .ref k1, .ref k2, .ref k3])), (mf, .inl (cI, 11, .inl ff)), (mk, .inl (cI, 11, .inl mm)), (k0, .inl (cJ, 549, .inr (.inl a))), (k1, .inl (cJ, 549, .inr (.inl b))), (k2, .inl (cJ, 549, .inr (.inl g1))), (k3, .inl (cJ, 549, .inr (.inl g2)))] H → va_D A [(m0, .inr (6, [.ref ms, .ref mf, .ref mw, .ref mk, .int (bI mtold), .ref mh, .int (nI hn), .int (nI un), .int (nI tg), .int stan, .int soft, .int doub, .int spli, .int giv, .int bon, .long drw, .int mbank, .ref q0, .ref q1, .ref q2, .int (nI hp), .ref q3, .ref q4, .ref q5, .ref q6, .ref q7, .int msum, .int (bI hasA), .int mcards, .int mpair, .int (nI sh), .int want, .int mwin, .int (bI isCh), .int mbest, .ref k0, .ref k1, .ref k2, .ref k3])), (mf, .inl (cI, 11, .inl ff)), (mk, .inl (cI, 11, .inl mm)), (k0, .inl (cJ, 549, .inr (.inl a))), (k1, .inl (cJ, 549, .inr (.inl b))), (k2, .inl (cJ, 549, .inr (.inl g1))), (k3, .inl (cJ, 549, .inr (.inl g2)))] → va_S A s.heap H locs → lv_has ls 10 [(3, .int (nI most)), (2, .int p1), (1, .int (nI rk)), (0, .ref m0)] → W p l e R s m args below meth c H locs cells slots Q (F0 m 33 ls [])) → W p l e R s m args below meth c H locs cells slots Q (F0 m 3 ls []) := by
  intro n9
  induction n9 with
  | zero => intro k g1 g2 H locs ls hms9; exact absurd hms9 (Nat.not_lt_zero _)
  | succ n9 ih =>
    intro k g1 g2 H locs ls hms9 k5 hv1 hP hD hS hl kk0
    refine lv_iload hx hb dX6_addRank_3 (lv_at hl 0 rfl) ?_
    refine lv_sipush (v := 549) hx hb dX6_addRank_5 (by decide) ?_
    refine lv_icmp_ge (tgt := 33) hx hb dX6_addRank_8 (by decide) (fun c8_1 => ?_) (fun c8_1 => ?_)
    · skip
      have nc8_1 : 549 ≤ k := (nI_leI (a := 549) (b := k) (by omega) (by omega)).mp c8_1
      exact kk0 g1 g2 _ _ _ (fun j a => hv1 j (by omega)) hP hD hS (lv_sub hl [1, 2, 3, 4] rfl)
    · skip
      have nc8_1 : ¬ (549 ≤ k) := fun z9 => c8_1 ((nI_leI (a := 549) (b := k) (by omega) (by omega)).mpr z9)
      refine lv_aload_n hx hb dX6_addRank_11 rfl (lv_at hl 4 rfl) ?_
      refine va_get (D := D) (ci := 6) (v := .ref k2) (C := RX6) (T := TX6) (N := 39) hx hb hts in_X6_addRank_X6 hown hK hP 0 rfl rfl 37 (by decide) (hts _ wd_X6_addRank_0) (fun _ h9 => h9) rfl dX6_addRank_12 ?_
      refine lv_iload hx hb dX6_addRank_15 (lv_at hl 0 rfl) ?_
      refine lv_lconst (v := 0) hx hb dX6_addRank_17 (by decide) ?_
      refine va_last hx hb hK hP hD hS 5 1 rfl rfl (vp_in_nI (by omega) (by decide)) dX6_addRank_18 (fun H locs hP hD hS => ?_)
      have e9 : (vp_updL g1 (nI k).toNatClampNeg 0) = vp_updL g1 k 0 := by rw [nI_clamp (show k < 2 ^ 31 by omega)]
      have hP : va_P D vwCl [(m0, .inr (6, [.ref ms, .ref mf, .ref mw, .ref mk, .int (bI mtold), .ref mh, .int (nI hn), .int (nI un), .int (nI tg), .int stan, .int soft, .int doub, .int spli, .int giv, .int bon, .long drw, .int mbank, .ref q0, .ref q1, .ref q2, .int (nI hp), .ref q3, .ref q4, .ref q5, .ref q6, .ref q7, .int msum, .int (bI hasA), .int mcards, .int mpair, .int (nI sh), .int want, .int mwin, .int (bI isCh), .int mbest, .ref k0, .ref k1, .ref k2, .ref k3])), (mf, .inl (cI, 11, .inl ff)), (mk, .inl (cI, 11, .inl mm)), (k0, .inl (cJ, 549, .inr (.inl a))), (k1, .inl (cJ, 549, .inr (.inl b))), (k2, .inl (cJ, 549, .inr (.inl (vp_updL g1 k 0)))), (k3, .inl (cJ, 549, .inr (.inl g2)))] H := by rw [← e9]; exact hP
      have hD : va_D A [(m0, .inr (6, [.ref ms, .ref mf, .ref mw, .ref mk, .int (bI mtold), .ref mh, .int (nI hn), .int (nI un), .int (nI tg), .int stan, .int soft, .int doub, .int spli, .int giv, .int bon, .long drw, .int mbank, .ref q0, .ref q1, .ref q2, .int (nI hp), .ref q3, .ref q4, .ref q5, .ref q6, .ref q7, .int msum, .int (bI hasA), .int mcards, .int mpair, .int (nI sh), .int want, .int mwin, .int (bI isCh), .int mbest, .ref k0, .ref k1, .ref k2, .ref k3])), (mf, .inl (cI, 11, .inl ff)), (mk, .inl (cI, 11, .inl mm)), (k0, .inl (cJ, 549, .inr (.inl a))), (k1, .inl (cJ, 549, .inr (.inl b))), (k2, .inl (cJ, 549, .inr (.inl (vp_updL g1 k 0)))), (k3, .inl (cJ, 549, .inr (.inl g2)))] := by rw [← e9]; exact hD
      clear e9
      refine lv_aload_n hx hb dX6_addRank_19 rfl (lv_at hl 4 rfl) ?_
      refine va_get (D := D) (ci := 6) (v := .ref k3) (C := RX6) (T := TX6) (N := 39) hx hb hts in_X6_addRank_X6 hown hK hP 0 rfl rfl 38 (by decide) (hts _ wd_X6_addRank_1) (fun _ h9 => h9) rfl dX6_addRank_20 ?_
      refine lv_iload hx hb dX6_addRank_23 (lv_at hl 0 rfl) ?_
      refine lv_lconst (v := 0) hx hb dX6_addRank_25 (by decide) ?_
      refine va_last hx hb hK hP hD hS 6 1 rfl rfl (vp_in_nI (by omega) (by decide)) dX6_addRank_26 (fun H locs hP hD hS => ?_)
      have e9 : (vp_updL g2 (nI k).toNatClampNeg 0) = vp_updL g2 k 0 := by rw [nI_clamp (show k < 2 ^ 31 by omega)]
      have hP : va_P D vwCl [(m0, .inr (6, [.ref ms, .ref mf, .ref mw, .ref mk, .int (bI mtold), .ref mh, .int (nI hn), .int (nI un), .int (nI tg), .int stan, .int soft, .int doub, .int spli, .int giv, .int bon, .long drw, .int mbank, .ref q0, .ref q1, .ref q2, .int (nI hp), .ref q3, .ref q4, .ref q5, .ref q6, .ref q7, .int msum, .int (bI hasA), .int mcards, .int mpair, .int (nI sh), .int want, .int mwin, .int (bI isCh), .int mbest, .ref k0, .ref k1, .ref k2, .ref k3])), (mf, .inl (cI, 11, .inl ff)), (mk, .inl (cI, 11, .inl mm)), (k0, .inl (cJ, 549, .inr (.inl a))), (k1, .inl (cJ, 549, .inr (.inl b))), (k2, .inl (cJ, 549, .inr (.inl (vp_updL g1 k 0)))), (k3, .inl (cJ, 549, .inr (.inl (vp_updL g2 k 0))))] H := by rw [← e9]; exact hP
      have hD : va_D A [(m0, .inr (6, [.ref ms, .ref mf, .ref mw, .ref mk, .int (bI mtold), .ref mh, .int (nI hn), .int (nI un), .int (nI tg), .int stan, .int soft, .int doub, .int spli, .int giv, .int bon, .long drw, .int mbank, .ref q0, .ref q1, .ref q2, .int (nI hp), .ref q3, .ref q4, .ref q5, .ref q6, .ref q7, .int msum, .int (bI hasA), .int mcards, .int mpair, .int (nI sh), .int want, .int mwin, .int (bI isCh), .int mbest, .ref k0, .ref k1, .ref k2, .ref k3])), (mf, .inl (cI, 11, .inl ff)), (mk, .inl (cI, 11, .inl mm)), (k0, .inl (cJ, 549, .inr (.inl a))), (k1, .inl (cJ, 549, .inr (.inl b))), (k2, .inl (cJ, 549, .inr (.inl (vp_updL g1 k 0)))), (k3, .inl (cJ, 549, .inr (.inl (vp_updL g2 k 0))))] := by rw [← e9]; exact hD
      clear e9
      refine lv_iinc (v := (nI (k + 1))) (lv' := [(4, .int (nI (k + 1))), (3, .int (nI most)), (2, .int p1), (1, .int (nI rk)), (0, .ref m0)]) hx hb dX6_addRank_27 hl (k := 0) rfl (nI_incT (by decide)) (by decide) rfl (fun ls hl => ?_)
      refine lv_goto (tgt := 3) hx hb dX6_addRank_30 (by decide) ?_
      exact ih (k + 1) (vp_updL g1 k 0) (vp_updL g2 k 0) _ _ _ (by omega) (by omega) (clr0 hv1) hP hD hS (lv_sub hl [0, 1, 2, 3, 4] rfl) kk0

set_option maxRecDepth 20000 in
theorem wd_X6_addRank_2 : Cond.fieldLink RX6 74 "ShoeTableModel" "ways" "[J" ∈ wsX6_addRank := by decide +kernel
set_option maxRecDepth 20000 in
theorem wd_X6_addRank_3 : Cond.fieldLink RX6 77 "ShoeTableModel" "taken" "[J" ∈ wsX6_addRank := by decide +kernel
set_option maxHeartbeats 400000 in
set_option maxRecDepth 100000 in
theorem lpA5 {p : Program} {l : Launch} {e : Env} {R : Room} {s : State} {m : MethodId} {args : Array Value} {below : List Frame} {meth : Method} {c : Code} {Q : State → Prop} {D : va_G} {cI cJ cQ : ClassId} {A : Nat → Prop} {cells slots : Nat} (hx : p.tables.exec = Jvm.exec) (hb : c.code = cX6_addRank) (hml : c.maxLocals = 10) (hown : s.vm.findClass RX6 = some m.cls) (hts : ∀ w ∈ wsX6_addRank, w.before args s = true) (hK : va_K D vwCl (gTy cI cJ cQ) s) (hA : ∀ q : Nat, s.heap.size ≤ q → A q) (m0 : Nat) (ms : Nat) (mf : Nat) (mw : Nat) (mk : Nat) (mtold : Bool) (mh : Nat) (hn : Nat) (un : Nat) (tg : Nat) (stan : Int32) (soft : Int32) (doub : Int32) (spli : Int32) (giv : Int32) (bon : Int32) (drw : Int64) (mbank : Int32) (q0 : Nat) (q1 : Nat) (q2 : Nat) (hp : Nat) (q3 : Nat) (q4 : Nat) (q5 : Nat) (q6 : Nat) (q7 : Nat) (msum : Int32) (hasA : Bool) (mcards : Int32) (mpair : Int32) (sh : Nat) (want : Int32) (mwin : Int32) (isCh : Bool) (mbest : Int32) (k0 : Nat) (k1 : Nat) (k2 : Nat) (k3 : Nat) (ff : Nat → Int32) (mm : Nat → Int32) (g1 : Nat → Int64) (g2 : Nat → Int64) (rk : Nat) (p1 : Int32) (most : Nat) (hRf : 0 ≤ R.frames) (hRl : 0 ≤ R.locals) (hRc : cells ≤ R.cells) (hRs : slots ≤ R.slots)  : ∀ (n9 : Nat) (k : Nat) (a : Nat → Int64) (b : Nat → Int64) (H : Heap) (locs : List Loc) (ls : Array Slot), 549 - k < n9 → (k ≤ 549) → (∀ j, j < k → a j = g1 j) → va_P D vwCl [(m0, .inr (6, [.ref ms, .ref mf, .ref mw, .ref mk, .int (bI mtold), .ref mh, .int (nI hn), .int (nI un), .int (nI tg), .int stan, .int soft, .int doub, .int spli, .int giv, .int bon, .long drw, .int mbank, .ref q0, .ref q1, .ref q2, .int (nI hp), .ref q3, .ref q4, .ref q5, .ref q6, .ref q7, .int msum, .int (bI hasA), .int mcards, .int mpair, .int (nI sh), .int want, .int mwin, .int (bI isCh), .int mbest, .ref k0, .ref k1, .ref k2, .ref k3])), (mf, .inl (cI, 11, .inl ff)), (mk, .inl (cI, 11, .inl mm)), (k0, .inl (cJ, 549, .inr (.inl a))), (k1, .inl (cJ, 549, .inr (.inl b))), (k2, .inl (cJ, 549, .inr (.inl g1))), (k3, .inl (cJ, 549, .inr (.inl g2)))] H → va_D A [(m0, .inr (6, [.ref ms, .ref mf, .ref mw, .ref mk, .int (bI mtold), .ref mh, .int (nI hn), .int (nI un), .int (nI tg), .int stan, .int soft, .int doub, .int spli, .int giv, .int bon, .long drw, .int mbank, .ref q0, .ref q1, .ref q2, .int (nI hp), .ref q3, .ref q4, .ref q5, .ref q6, .ref q7, .int msum, .int (bI hasA), .int mcards, .int mpair, .int (nI sh), .int want, .int mwin, .int (bI isCh), .int mbest, .ref k0, .ref k1, .ref k2, .ref k3])), (mf, .inl (cI, 11, .inl ff)), (mk, .inl (cI, 11, .inl mm)), (k0, .inl (cJ, 549, .inr (.inl a))), (k1, .inl (cJ, 549, .inr (.inl b))), (k2, .inl (cJ, 549, .inr (.inl g1))), (k3, .inl (cJ, 549, .inr (.inl g2)))] → va_S A s.heap H locs → lv_has ls 10 [(4, .int (nI k)), (3, .int (nI most)), (2, .int p1), (1, .int (nI rk)), (0, .ref m0)] → (∀ (a : Nat → Int64) (b : Nat → Int64) (H : Heap) (locs : List Loc) (ls : Array Slot), (∀ j, j < 549 → a j = g1 j) → va_P D vwCl [(m0, .inr (6, [.ref ms, .ref mf, .ref mw, .ref mk, .int (bI mtold), .ref mh, .int (nI hn), .int (nI un), .int (nI tg), .int stan, .int soft, .int doub, .int spli, .int giv, .int bon, .long drw, .int mbank, .ref q0, .ref q1, .ref q2, .int (nI hp), .ref q3, .ref q4, .ref q5, .ref q6, .ref q7, .int msum, .int (bI hasA), .int mcards, .int mpair, .int (nI sh), .int want, .int mwin, .int (bI isCh), .int mbest, .ref k0, .ref k1, .ref k2, .ref k3])), (mf, .inl (cI, 11, .inl ff)), (mk, .inl (cI, 11, .inl mm)), (k0, .inl (cJ, 549, .inr (.inl a))), (k1, .inl (cJ, 549, .inr (.inl b))), (k2, .inl (cJ, 549, .inr (.inl g1))), (k3, .inl (cJ, 549, .inr (.inl g2)))] H → va_D A [(m0, .inr (6, [.ref ms, .ref mf, .ref mw, .ref mk, .int (bI mtold), .ref mh, .int (nI hn), .int (nI un), .int (nI tg), .int stan, .int soft, .int doub, .int spli, .int giv, .int bon, .long drw, .int mbank, .ref q0, .ref q1, .ref q2, .int (nI hp), .ref q3, .ref q4, .ref q5, .ref q6, .ref q7, .int msum, .int (bI hasA), .int mcards, .int mpair, .int (nI sh), .int want, .int mwin, .int (bI isCh), .int mbest, .ref k0, .ref k1, .ref k2, .ref k3])), (mf, .inl (cI, 11, .inl ff)), (mk, .inl (cI, 11, .inl mm)), (k0, .inl (cJ, 549, .inr (.inl a))), (k1, .inl (cJ, 549, .inr (.inl b))), (k2, .inl (cJ, 549, .inr (.inl g1))), (k3, .inl (cJ, 549, .inr (.inl g2)))] → va_S A s.heap H locs → lv_has ls 10 [(0, .ref m0)] → W p l e R s m args below meth c H locs cells slots Q (F0 m 274 ls [])) → W p l e R s m args below meth c H locs cells slots Q (F0 m 232 ls []) := by
  intro n9
  induction n9 with
  | zero => intro k a b H locs ls hms9; exact absurd hms9 (Nat.not_lt_zero _)
  | succ n9 ih =>
    intro k a b H locs ls hms9 k5 hv1 hP hD hS hl kk0
    refine lv_iload hx hb dX6_addRank_232 (lv_at hl 0 rfl) ?_
    refine lv_sipush (v := 549) hx hb dX6_addRank_234 (by decide) ?_
    refine lv_icmp_ge (tgt := 274) hx hb dX6_addRank_237 (by decide) (fun c237_1 => ?_) (fun c237_1 => ?_)
    · skip
      have nc237_1 : 549 ≤ k := (nI_leI (a := 549) (b := k) (by omega) (by omega)).mp c237_1
      exact kk0 a b _ _ _ (fun j a => hv1 j (by omega)) hP hD hS (lv_sub hl [4] rfl)
    · skip
      have nc237_1 : ¬ (549 ≤ k) := fun z9 => c237_1 ((nI_leI (a := 549) (b := k) (by omega) (by omega)).mpr z9)
      refine lv_aload_n hx hb dX6_addRank_240 rfl (lv_at hl 4 rfl) ?_
      refine va_get (D := D) (ci := 6) (v := .ref k0) (C := RX6) (T := TX6) (N := 39) hx hb hts in_X6_addRank_X6 hown hK hP 0 rfl rfl 35 (by decide) (hts _ wd_X6_addRank_2) (fun _ h9 => h9) rfl dX6_addRank_241 ?_
      refine lv_iload hx hb dX6_addRank_244 (lv_at hl 0 rfl) ?_
      refine lv_aload_n hx hb dX6_addRank_246 rfl (lv_at hl 4 rfl) ?_
      refine va_get (D := D) (ci := 6) (v := .ref k2) (C := RX6) (T := TX6) (N := 39) hx hb hts in_X6_addRank_X6 hown hK hP 0 rfl rfl 37 (by decide) (hts _ wd_X6_addRank_0) (fun _ h9 => h9) rfl dX6_addRank_247 ?_
      refine lv_iload hx hb dX6_addRank_250 (lv_at hl 0 rfl) ?_
      refine va_lald hx hb hK hP 5 1 rfl rfl (vp_in_nI (by omega) (by decide)) dX6_addRank_252 ?_
      refine lv_topl (fun z_2 ez_2 => ?_)
      obtain rfl : z_2 = (g1 k) := ez_2.trans (by rw [nI_clamp (by omega)])
      refine va_last hx hb hK hP hD hS 3 1 rfl rfl (vp_in_nI (by omega) (by decide)) dX6_addRank_253 (fun H locs hP hD hS => ?_)
      have e9 : (vp_updL a (nI k).toNatClampNeg (g1 k)) = vp_updL a k (g1 k) := by rw [nI_clamp (show k < 2 ^ 31 by omega)]
      have hP : va_P D vwCl [(m0, .inr (6, [.ref ms, .ref mf, .ref mw, .ref mk, .int (bI mtold), .ref mh, .int (nI hn), .int (nI un), .int (nI tg), .int stan, .int soft, .int doub, .int spli, .int giv, .int bon, .long drw, .int mbank, .ref q0, .ref q1, .ref q2, .int (nI hp), .ref q3, .ref q4, .ref q5, .ref q6, .ref q7, .int msum, .int (bI hasA), .int mcards, .int mpair, .int (nI sh), .int want, .int mwin, .int (bI isCh), .int mbest, .ref k0, .ref k1, .ref k2, .ref k3])), (mf, .inl (cI, 11, .inl ff)), (mk, .inl (cI, 11, .inl mm)), (k0, .inl (cJ, 549, .inr (.inl (vp_updL a k (g1 k))))), (k1, .inl (cJ, 549, .inr (.inl b))), (k2, .inl (cJ, 549, .inr (.inl g1))), (k3, .inl (cJ, 549, .inr (.inl g2)))] H := by rw [← e9]; exact hP
      have hD : va_D A [(m0, .inr (6, [.ref ms, .ref mf, .ref mw, .ref mk, .int (bI mtold), .ref mh, .int (nI hn), .int (nI un), .int (nI tg), .int stan, .int soft, .int doub, .int spli, .int giv, .int bon, .long drw, .int mbank, .ref q0, .ref q1, .ref q2, .int (nI hp), .ref q3, .ref q4, .ref q5, .ref q6, .ref q7, .int msum, .int (bI hasA), .int mcards, .int mpair, .int (nI sh), .int want, .int mwin, .int (bI isCh), .int mbest, .ref k0, .ref k1, .ref k2, .ref k3])), (mf, .inl (cI, 11, .inl ff)), (mk, .inl (cI, 11, .inl mm)), (k0, .inl (cJ, 549, .inr (.inl (vp_updL a k (g1 k))))), (k1, .inl (cJ, 549, .inr (.inl b))), (k2, .inl (cJ, 549, .inr (.inl g1))), (k3, .inl (cJ, 549, .inr (.inl g2)))] := by rw [← e9]; exact hD
      clear e9
      refine lv_aload_n hx hb dX6_addRank_254 rfl (lv_at hl 4 rfl) ?_
      refine va_get (D := D) (ci := 6) (v := .ref k1) (C := RX6) (T := TX6) (N := 39) hx hb hts in_X6_addRank_X6 hown hK hP 0 rfl rfl 36 (by decide) (hts _ wd_X6_addRank_3) (fun _ h9 => h9) rfl dX6_addRank_255 ?_
      refine lv_iload hx hb dX6_addRank_258 (lv_at hl 0 rfl) ?_
      refine lv_aload_n hx hb dX6_addRank_260 rfl (lv_at hl 4 rfl) ?_
      refine va_get (D := D) (ci := 6) (v := .ref k3) (C := RX6) (T := TX6) (N := 39) hx hb hts in_X6_addRank_X6 hown hK hP 0 rfl rfl 38 (by decide) (hts _ wd_X6_addRank_1) (fun _ h9 => h9) rfl dX6_addRank_261 ?_
      refine lv_iload hx hb dX6_addRank_264 (lv_at hl 0 rfl) ?_
      refine va_lald hx hb hK hP 6 1 rfl rfl (vp_in_nI (by omega) (by decide)) dX6_addRank_266 ?_
      refine lv_topl (fun z_3 ez_3 => ?_)
      obtain rfl : z_3 = (g2 k) := ez_3.trans (by rw [nI_clamp (by omega)])
      refine va_last hx hb hK hP hD hS 4 1 rfl rfl (vp_in_nI (by omega) (by decide)) dX6_addRank_267 (fun H locs hP hD hS => ?_)
      have e9 : (vp_updL b (nI k).toNatClampNeg (g2 k)) = vp_updL b k (g2 k) := by rw [nI_clamp (show k < 2 ^ 31 by omega)]
      have hP : va_P D vwCl [(m0, .inr (6, [.ref ms, .ref mf, .ref mw, .ref mk, .int (bI mtold), .ref mh, .int (nI hn), .int (nI un), .int (nI tg), .int stan, .int soft, .int doub, .int spli, .int giv, .int bon, .long drw, .int mbank, .ref q0, .ref q1, .ref q2, .int (nI hp), .ref q3, .ref q4, .ref q5, .ref q6, .ref q7, .int msum, .int (bI hasA), .int mcards, .int mpair, .int (nI sh), .int want, .int mwin, .int (bI isCh), .int mbest, .ref k0, .ref k1, .ref k2, .ref k3])), (mf, .inl (cI, 11, .inl ff)), (mk, .inl (cI, 11, .inl mm)), (k0, .inl (cJ, 549, .inr (.inl (vp_updL a k (g1 k))))), (k1, .inl (cJ, 549, .inr (.inl (vp_updL b k (g2 k))))), (k2, .inl (cJ, 549, .inr (.inl g1))), (k3, .inl (cJ, 549, .inr (.inl g2)))] H := by rw [← e9]; exact hP
      have hD : va_D A [(m0, .inr (6, [.ref ms, .ref mf, .ref mw, .ref mk, .int (bI mtold), .ref mh, .int (nI hn), .int (nI un), .int (nI tg), .int stan, .int soft, .int doub, .int spli, .int giv, .int bon, .long drw, .int mbank, .ref q0, .ref q1, .ref q2, .int (nI hp), .ref q3, .ref q4, .ref q5, .ref q6, .ref q7, .int msum, .int (bI hasA), .int mcards, .int mpair, .int (nI sh), .int want, .int mwin, .int (bI isCh), .int mbest, .ref k0, .ref k1, .ref k2, .ref k3])), (mf, .inl (cI, 11, .inl ff)), (mk, .inl (cI, 11, .inl mm)), (k0, .inl (cJ, 549, .inr (.inl (vp_updL a k (g1 k))))), (k1, .inl (cJ, 549, .inr (.inl (vp_updL b k (g2 k))))), (k2, .inl (cJ, 549, .inr (.inl g1))), (k3, .inl (cJ, 549, .inr (.inl g2)))] := by rw [← e9]; exact hD
      clear e9
      refine lv_iinc (v := (nI (k + 1))) (lv' := [(4, .int (nI (k + 1))), (3, .int (nI most)), (2, .int p1), (1, .int (nI rk)), (0, .ref m0)]) hx hb dX6_addRank_268 hl (k := 0) rfl (nI_incT (by decide)) (by decide) rfl (fun ls hl => ?_)
      refine lv_goto (tgt := 232) hx hb dX6_addRank_271 (by decide) ?_
      exact ih (k + 1) (vp_updL a k (g1 k)) (vp_updL b k (g2 k)) _ _ _ (by omega) (by omega) (clrc hv1) hP hD hS (lv_sub hl [0, 1, 2, 3, 4] rfl) kk0

set_option maxRecDepth 20000 in
theorem wd_X6_addRank_4 : Cond.fieldLink RX6 13 "ShoeTableModel" "atFresh" "[I" ∈ wsX6_addRank := by decide +kernel
set_option maxRecDepth 20000 in
theorem wd_X6_addRank_5 : Cond.fieldLink RX6 19 "ShoeTableModel" "marks" "[I" ∈ wsX6_addRank := by decide +kernel
set_option maxHeartbeats 400000 in
set_option maxRecDepth 100000 in
theorem lpA4 {p : Program} {l : Launch} {e : Env} {R : Room} {s : State} {m : MethodId} {args : Array Value} {below : List Frame} {meth : Method} {c : Code} {Q : State → Prop} {D : va_G} {cI cJ cQ : ClassId} {A : Nat → Prop} {cells slots : Nat} (hx : p.tables.exec = Jvm.exec) (hb : c.code = cX6_addRank) (hml : c.maxLocals = 10) (hown : s.vm.findClass RX6 = some m.cls) (hts : ∀ w ∈ wsX6_addRank, w.before args s = true) (hK : va_K D vwCl (gTy cI cJ cQ) s) (hA : ∀ q : Nat, s.heap.size ≤ q → A q) (m0 : Nat) (ms : Nat) (mf : Nat) (mw : Nat) (mk : Nat) (mtold : Bool) (mh : Nat) (hn : Nat) (un : Nat) (tg : Nat) (stan : Int32) (soft : Int32) (doub : Int32) (spli : Int32) (giv : Int32) (bon : Int32) (drw : Int64) (mbank : Int32) (q0 : Nat) (q1 : Nat) (q2 : Nat) (hp : Nat) (q3 : Nat) (q4 : Nat) (q5 : Nat) (q6 : Nat) (q7 : Nat) (msum : Int32) (hasA : Bool) (mcards : Int32) (mpair : Int32) (sh : Nat) (want : Int32) (mwin : Int32) (isCh : Bool) (mbest : Int32) (k0 : Nat) (k1 : Nat) (k2 : Nat) (k3 : Nat) (ff : Nat → Int32) (mm : Nat → Int32) (a : Nat → Int64) (b : Nat → Int64) (rk : Nat) (p1 : Int32) (most : Nat) (S : Nat) (cf : Nat → Nat) (wv : Nat → Nat) (j0 : Nat) (t0 : Nat) (c0 : Nat) (t1 : Nat) (J : Nat) (t : Nat) (hRf : 1 ≤ R.frames) (hRl : 24 ≤ R.locals) (hRc : cells ≤ R.cells) (hRs : slots ≤ R.slots) (rk1 : 1 ≤ rk) (rk2 : rk ≤ 10) (m8 : most ≤ 8) (hS60 : S ≤ 60) (hff : ff rk = nI (cf rk)) (hf32 : cf rk ≤ 32) (hmk : -3 ≤ (mm rk).toInt ∧ (mm rk).toInt ≤ 3) (hwa : ∀ i, i < 549 → a i = lN (wv i)) (hW : WOK S most wv) (hj0 : j0 + c0 ≤ most) (ht0 : t0 < 61) (hc0 : c0 ≤ cf rk) (ht1 : (t1 : Int) = t0 + c0 * (mm rk).toInt) (hp0 : 0 < wv (61 * j0 + t0)) (hJ : J ≤ most) (ht61 : t < 61) : ∀ (n9 : Nat) (cn : Nat) (g1 : Nat → Int64) (g2 : Nat → Int64) (nw : Nat → Nat) (H : Heap) (locs : List Loc) (ls : Array Slot), 33 - cn < n9 → (cn ≤ 33) → (AK S (cf rk) (mm rk).toInt most nw j0 t0 c0 t1 J t cn) → (∀ i, i < 549 → g1 i = lN (nw i)) → va_P D vwCl [(m0, .inr (6, [.ref ms, .ref mf, .ref mw, .ref mk, .int (bI mtold), .ref mh, .int (nI hn), .int (nI un), .int (nI tg), .int stan, .int soft, .int doub, .int spli, .int giv, .int bon, .long drw, .int mbank, .ref q0, .ref q1, .ref q2, .int (nI hp), .ref q3, .ref q4, .ref q5, .ref q6, .ref q7, .int msum, .int (bI hasA), .int mcards, .int mpair, .int (nI sh), .int want, .int mwin, .int (bI isCh), .int mbest, .ref k0, .ref k1, .ref k2, .ref k3])), (mf, .inl (cI, 11, .inl ff)), (mk, .inl (cI, 11, .inl mm)), (k0, .inl (cJ, 549, .inr (.inl a))), (k1, .inl (cJ, 549, .inr (.inl b))), (k2, .inl (cJ, 549, .inr (.inl g1))), (k3, .inl (cJ, 549, .inr (.inl g2)))] H → va_D A [(m0, .inr (6, [.ref ms, .ref mf, .ref mw, .ref mk, .int (bI mtold), .ref mh, .int (nI hn), .int (nI un), .int (nI tg), .int stan, .int soft, .int doub, .int spli, .int giv, .int bon, .long drw, .int mbank, .ref q0, .ref q1, .ref q2, .int (nI hp), .ref q3, .ref q4, .ref q5, .ref q6, .ref q7, .int msum, .int (bI hasA), .int mcards, .int mpair, .int (nI sh), .int want, .int mwin, .int (bI isCh), .int mbest, .ref k0, .ref k1, .ref k2, .ref k3])), (mf, .inl (cI, 11, .inl ff)), (mk, .inl (cI, 11, .inl mm)), (k0, .inl (cJ, 549, .inr (.inl a))), (k1, .inl (cJ, 549, .inr (.inl b))), (k2, .inl (cJ, 549, .inr (.inl g1))), (k3, .inl (cJ, 549, .inr (.inl g2)))] → va_S A s.heap H locs → lv_has ls 10 [(6, .int (nI cn)), (5, .int (nI t)), (4, .int (nI J)), (3, .int (nI most)), (2, .int p1), (1, .int (nI rk)), (0, .ref m0)] → (∀ (g1 : Nat → Int64) (g2 : Nat → Int64) (nw : Nat → Nat) (H : Heap) (locs : List Loc) (ls : Array Slot), (AK S (cf rk) (mm rk).toInt most nw j0 t0 c0 t1 J (t + 1) 0) → (∀ i, i < 549 → g1 i = lN (nw i)) → va_P D vwCl [(m0, .inr (6, [.ref ms, .ref mf, .ref mw, .ref mk, .int (bI mtold), .ref mh, .int (nI hn), .int (nI un), .int (nI tg), .int stan, .int soft, .int doub, .int spli, .int giv, .int bon, .long drw, .int mbank, .ref q0, .ref q1, .ref q2, .int (nI hp), .ref q3, .ref q4, .ref q5, .ref q6, .ref q7, .int msum, .int (bI hasA), .int mcards, .int mpair, .int (nI sh), .int want, .int mwin, .int (bI isCh), .int mbest, .ref k0, .ref k1, .ref k2, .ref k3])), (mf, .inl (cI, 11, .inl ff)), (mk, .inl (cI, 11, .inl mm)), (k0, .inl (cJ, 549, .inr (.inl a))), (k1, .inl (cJ, 549, .inr (.inl b))), (k2, .inl (cJ, 549, .inr (.inl g1))), (k3, .inl (cJ, 549, .inr (.inl g2)))] H → va_D A [(m0, .inr (6, [.ref ms, .ref mf, .ref mw, .ref mk, .int (bI mtold), .ref mh, .int (nI hn), .int (nI un), .int (nI tg), .int stan, .int soft, .int doub, .int spli, .int giv, .int bon, .long drw, .int mbank, .ref q0, .ref q1, .ref q2, .int (nI hp), .ref q3, .ref q4, .ref q5, .ref q6, .ref q7, .int msum, .int (bI hasA), .int mcards, .int mpair, .int (nI sh), .int want, .int mwin, .int (bI isCh), .int mbest, .ref k0, .ref k1, .ref k2, .ref k3])), (mf, .inl (cI, 11, .inl ff)), (mk, .inl (cI, 11, .inl mm)), (k0, .inl (cJ, 549, .inr (.inl a))), (k1, .inl (cJ, 549, .inr (.inl b))), (k2, .inl (cJ, 549, .inr (.inl g1))), (k3, .inl (cJ, 549, .inr (.inl g2)))] → va_S A s.heap H locs → lv_has ls 10 [(5, .int (nI t)), (4, .int (nI J)), (3, .int (nI most)), (2, .int p1), (1, .int (nI rk)), (0, .ref m0)] → W p l e R s m args below meth c H locs cells slots Q (F0 m 217 ls [])) → W p l e R s m args below meth c H locs cells slots Q (F0 m 55 ls []) := by
  intro n9
  induction n9 with
  | zero => intro cn g1 g2 nw H locs ls hms9; exact absurd hms9 (Nat.not_lt_zero _)
  | succ n9 ih =>
    intro cn g1 g2 nw H locs ls hms9 cn2 hAK hgw hP hD hS hl kk0
    refine lv_aload_n hx hb dX6_addRank_55 rfl (lv_at hl 6 rfl) ?_
    refine va_get (D := D) (ci := 6) (v := .ref k0) (C := RX6) (T := TX6) (N := 39) hx hb hts in_X6_addRank_X6 hown hK hP 0 rfl rfl 35 (by decide) (hts _ wd_X6_addRank_2) (fun _ h9 => h9) rfl dX6_addRank_56 ?_
    refine lv_bipush (v := 61) hx hb dX6_addRank_59 (by decide) ?_
    refine lv_iload hx hb dX6_addRank_61 (lv_at hl 2 rfl) ?_
    refine lv_imul hx hb dX6_addRank_63 ?_
    refine lv_topi (fun z_1 ez_1 => ?_)
    obtain rfl : z_1 = nI (61 * J) := ez_1.trans (nI_mulT _ _)
    refine lv_iload hx hb dX6_addRank_64 (lv_at hl 1 rfl) ?_
    refine lv_iadd hx hb dX6_addRank_66 ?_
    refine lv_topi (fun z_2 ez_2 => ?_)
    obtain rfl : z_2 = nI ((61 * J) + t) := ez_2.trans (nI_add _ _)
    refine va_lald hx hb hK hP 3 1 rfl rfl (vp_in_nI (by omega) (by decide)) dX6_addRank_67 ?_
    refine lv_topl (fun z_3 ez_3 => ?_)
    obtain rfl : z_3 = (a ((61 * J) + t)) := ez_3.trans (by rw [nI_clamp (by omega)])
    have hix : 61 * J + t < 549 := by omega
    refine lv_topl (fun z_4 ez_4 => ?_)
    obtain rfl : z_4 = lN (wv (61 * J + t)) := ez_4.trans (hwa _ hix)
    refine lv_lconst (v := 0) hx hb dX6_addRank_68 (by decide) ?_
    refine W.lcmp hx hb dX6_addRank_69 ?_
    refine lv_if_le (tgt := 217) hx hb dX6_addRank_70 (by decide) (fun c70_5 => ?_) (fun c70_5 => ?_)
    · skip
      exact kk0 g1 g2 nw _ _ _ (AK_c hAK hc0 hj0 hp0 (Or.inl ((lB_pos (Nat.lt_trans (WOK_b hW hS60 m8 hJ ht61) (by decide))).mp c70_5))) hgw hP hD hS (lv_sub hl [1, 2, 3, 4, 5, 6] rfl)
    · skip
      have hwb := WOK_b hW hS60 m8 hJ ht61
      have hwp : 0 < wv (61 * J + t) := Nat.pos_of_ne_zero (fun z9 => c70_5 ((lB_pos (by omega)).mpr z9))
      refine lv_iload hx hb dX6_addRank_73 (lv_at hl 0 rfl) ?_
      refine lv_aload_n hx hb dX6_addRank_75 rfl (lv_at hl 6 rfl) ?_
      refine va_get (D := D) (ci := 6) (v := .ref mf) (C := RX6) (T := TX6) (N := 39) hx hb hts in_X6_addRank_X6 hown hK hP 0 rfl rfl 1 (by decide) (hts _ wd_X6_addRank_4) (fun _ h9 => h9) rfl dX6_addRank_76 ?_
      refine lv_iload_n hx hb dX6_addRank_79 rfl (lv_at hl 5 rfl) ?_
      refine va_iald hx hb hK hP 1 0 rfl rfl (vp_in_nI (by omega) (by decide)) dX6_addRank_80 ?_
      refine lv_topi (fun z_6 ez_6 => ?_)
      obtain rfl : z_6 = (ff rk) := ez_6.trans (by rw [nI_clamp (by omega)])
      refine lv_topi (fun z_7 ez_7 => ?_)
      obtain rfl : z_7 = nI (cf rk) := ez_7.trans hff
      refine lv_icmp_gt (tgt := 217) hx hb dX6_addRank_81 (by decide) (fun c81_8 => ?_) (fun c81_8 => ?_)
      · skip
        have nc81_8 : (cf rk) < cn := (nI_ltI (a := (cf rk)) (b := cn) (by omega) (by omega)).mp c81_8
        exact kk0 g1 g2 nw _ _ _ (AK_c hAK hc0 hj0 hp0 (Or.inr (Or.inl (by omega)))) hgw hP hD hS (lv_sub hl [1, 2, 3, 4, 5, 6] rfl)
      · skip
        have nc81_8 : ¬ ((cf rk) < cn) := fun z9 => c81_8 ((nI_ltI (a := (cf rk)) (b := cn) (by omega) (by omega)).mpr z9)
        refine lv_iload hx hb dX6_addRank_84 (lv_at hl 2 rfl) ?_
        refine lv_iload hx hb dX6_addRank_86 (lv_at hl 0 rfl) ?_
        refine lv_iadd hx hb dX6_addRank_88 ?_
        refine lv_topi (fun z_9 ez_9 => ?_)
        obtain rfl : z_9 = nI (J + cn) := ez_9.trans (nI_add _ _)
        refine lv_iload_n hx hb dX6_addRank_89 rfl (lv_at hl 3 rfl) ?_
        refine lv_icmp_gt (tgt := 217) hx hb dX6_addRank_90 (by decide) (fun c90_10 => ?_) (fun c90_10 => ?_)
        · skip
          have nc90_10 : most < (J + cn) := (nI_ltI (a := most) (b := (J + cn)) (by omega) (by omega)).mp c90_10
          exact kk0 g1 g2 nw _ _ _ (AK_c hAK hc0 hj0 hp0 (Or.inr (Or.inr (by omega)))) hgw hP hD hS (lv_sub hl [1, 2, 3, 4, 5, 6] rfl)
        · skip
          have nc90_10 : ¬ (most < (J + cn)) := fun z9 => c90_10 ((nI_ltI (a := most) (b := (J + cn)) (by omega) (by omega)).mpr z9)
          refine lv_aload_n hx hb dX6_addRank_93 rfl (lv_at hl 6 rfl) ?_
          refine va_get (D := D) (ci := 6) (v := .ref mf) (C := RX6) (T := TX6) (N := 39) hx hb hts in_X6_addRank_X6 hown hK hP 0 rfl rfl 1 (by decide) (hts _ wd_X6_addRank_4) (fun _ h9 => h9) rfl dX6_addRank_94 ?_
          refine lv_iload_n hx hb dX6_addRank_97 rfl (lv_at hl 5 rfl) ?_
          refine va_iald hx hb hK hP 1 0 rfl rfl (vp_in_nI (by omega) (by decide)) dX6_addRank_98 ?_
          refine lv_topi (fun z_11 ez_11 => ?_)
          obtain rfl : z_11 = (ff rk) := ez_11.trans (by rw [nI_clamp (by omega)])
          refine lv_topi (fun z_12 ez_12 => ?_)
          obtain rfl : z_12 = nI (cf rk) := ez_12.trans hff
          refine lv_iload hx hb dX6_addRank_99 (lv_at hl 0 rfl) ?_
          have hPc := hP.sub (ws' := []) [] rfl
          refine vp_callSl (W.runS (As := [.int (nI (cf rk)), .int (nI cn)]) (rest := []) ⟨hx, hb, hml, hown, hts⟩ (c_X6_choose l D cI cJ cQ (cf rk) cn (by omega) (by omega) hf32) (va_cwS 2 hts gX6_addRank_X6_choose rfl rfl rfl (by decide +kernel) ⟨Nat.le_trans (show 0 + 1 ≤ 1 by omega) hRf, Nat.le_trans (show 8 + (5 + 11) + (0) ≤ 24 by omega) hRl⟩) (rP_preS hPc hK) rfl rfl hl.1 rfl (lv_room (Nat.le_of_ble_eq_true rfl)) dX6_addRank_101 ⟨hRc, hRs⟩) (fun r_13 hr_13 => ?_)
          subst hr_13
          refine lv_lstore (lv' := [(7, .long (lN (chN (cf rk) cn))), (6, .int (nI cn)), (5, .int (nI t)), (4, .int (nI J)), (3, .int (nI most)), (2, .int p1), (1, .int (nI rk)), (0, .ref m0)]) hx hb dX6_addRank_104 hl (by decide) rfl (fun ls hl => ?_)
          have hsu := (hW J t hJ ht61).2 hwp
          obtain ⟨s1, e1, s61, eto⟩ := to_N hmk.1 hmk.2 (show J + cn ≤ 8 by omega) hsu.1 hsu.2
          refine lv_bipush (v := 61) hx hb dX6_addRank_106 (by decide) ?_
          refine lv_iload hx hb dX6_addRank_108 (lv_at hl 3 rfl) ?_
          refine lv_iload hx hb dX6_addRank_110 (lv_at hl 1 rfl) ?_
          refine lv_iadd hx hb dX6_addRank_112 ?_
          refine lv_topi (fun z_14 ez_14 => ?_)
          obtain rfl : z_14 = nI (J + cn) := ez_14.trans (nI_add _ _)
          refine lv_imul hx hb dX6_addRank_113 ?_
          refine lv_topi (fun z_15 ez_15 => ?_)
          obtain rfl : z_15 = nI (61 * (J + cn)) := ez_15.trans (nI_mulT _ _)
          refine lv_iload hx hb dX6_addRank_114 (lv_at hl 2 rfl) ?_
          refine lv_iadd hx hb dX6_addRank_116 ?_
          refine lv_topi (fun z_16 ez_16 => ?_)
          obtain rfl : z_16 = nI ((61 * (J + cn)) + t) := ez_16.trans (nI_add _ _)
          refine lv_iload hx hb dX6_addRank_117 (lv_at hl 1 rfl) ?_
          refine lv_aload_n hx hb dX6_addRank_119 rfl (lv_at hl 7 rfl) ?_
          refine va_get (D := D) (ci := 6) (v := .ref mk) (C := RX6) (T := TX6) (N := 39) hx hb hts in_X6_addRank_X6 hown hK hP 0 rfl rfl 3 (by decide) (hts _ wd_X6_addRank_5) (fun _ h9 => h9) rfl dX6_addRank_120 ?_
          refine lv_iload_n hx hb dX6_addRank_123 rfl (lv_at hl 6 rfl) ?_
          refine va_iald hx hb hK hP 2 0 rfl rfl (vp_in_nI (by omega) (by decide)) dX6_addRank_124 ?_
          refine lv_topi (fun z_17 ez_17 => ?_)
          obtain rfl : z_17 = (mm rk) := ez_17.trans (by rw [nI_clamp (by omega)])
          refine lv_imul hx hb dX6_addRank_125 ?_
          refine lv_iadd hx hb dX6_addRank_126 ?_
          refine lv_topi (fun z_18 ez_18 => ?_)
          obtain rfl : z_18 = nI (61 * (J + cn) + s1) := ez_18.trans eto
          refine lv_istore (lv' := [(9, .int (nI (61 * (J + cn) + s1))), (7, .long (lN (chN (cf rk) cn))), (6, .int (nI cn)), (5, .int (nI t)), (4, .int (nI J)), (3, .int (nI most)), (2, .int p1), (1, .int (nI rk)), (0, .ref m0)]) hx hb dX6_addRank_127 hl (by decide) rfl (fun ls hl => ?_)
          refine lv_aload_n hx hb dX6_addRank_129 rfl (lv_at hl 8 rfl) ?_
          refine va_get (D := D) (ci := 6) (v := .ref k2) (C := RX6) (T := TX6) (N := 39) hx hb hts in_X6_addRank_X6 hown hK hP 0 rfl rfl 37 (by decide) (hts _ wd_X6_addRank_0) (fun _ h9 => h9) rfl dX6_addRank_130 ?_
          refine lv_iload hx hb dX6_addRank_133 (lv_at hl 0 rfl) ?_
          refine lv_dup2_11 hx hb dX6_addRank_135 rfl rfl ?_
          refine va_lald hx hb hK hP 5 1 rfl rfl (vp_in_nI (by omega) (by decide)) dX6_addRank_136 ?_
          refine lv_topl (fun z_19 ez_19 => ?_)
          obtain rfl : z_19 = (g1 (61 * (J + cn) + s1)) := ez_19.trans (by rw [nI_clamp (by omega)])
          refine lv_lload hx hb dX6_addRank_137 (lv_at hl 1 rfl) ?_
          refine lv_aload_n hx hb dX6_addRank_139 rfl (lv_at hl 8 rfl) ?_
          refine va_get (D := D) (ci := 6) (v := .ref k0) (C := RX6) (T := TX6) (N := 39) hx hb hts in_X6_addRank_X6 hown hK hP 0 rfl rfl 35 (by decide) (hts _ wd_X6_addRank_2) (fun _ h9 => h9) rfl dX6_addRank_140 ?_
          refine lv_bipush (v := 61) hx hb dX6_addRank_143 (by decide) ?_
          refine lv_iload hx hb dX6_addRank_145 (lv_at hl 4 rfl) ?_
          refine lv_imul hx hb dX6_addRank_147 ?_
          refine lv_topi (fun z_20 ez_20 => ?_)
          obtain rfl : z_20 = nI (61 * J) := ez_20.trans (nI_mulT _ _)
          refine lv_iload hx hb dX6_addRank_148 (lv_at hl 3 rfl) ?_
          refine lv_iadd hx hb dX6_addRank_150 ?_
          refine lv_topi (fun z_21 ez_21 => ?_)
          obtain rfl : z_21 = nI ((61 * J) + t) := ez_21.trans (nI_add _ _)
          refine va_lald hx hb hK hP 3 1 rfl rfl (vp_in_nI (by omega) (by decide)) dX6_addRank_151 ?_
          refine lv_topl (fun z_22 ez_22 => ?_)
          obtain rfl : z_22 = (a ((61 * J) + t)) := ez_22.trans (by rw [nI_clamp (by omega)])
          have hix : 61 * J + t < 549 := by omega
          refine lv_topl (fun z_23 ez_23 => ?_)
          obtain rfl : z_23 = lN (wv (61 * J + t)) := ez_23.trans (hwa _ hix)
          refine lv_lmul hx hb dX6_addRank_152 ?_
          refine lv_ladd hx hb dX6_addRank_153 ?_
          refine va_last hx hb hK hP hD hS 5 1 rfl rfl (vp_in_nI (by omega) (by decide)) dX6_addRank_154 (fun H locs hP hD hS => ?_)
          have e9 : (vp_updL g1 (nI (61 * (J + cn) + s1)).toNatClampNeg ((g1 (61 * (J + cn) + s1)) + ((lN (chN (cf rk) cn)) * (lN (wv (61 * J + t)))))) = vp_updL g1 (61 * (J + cn) + s1) ((g1 (61 * (J + cn) + s1)) + ((lN (chN (cf rk) cn)) * (lN (wv (61 * J + t))))) := by rw [nI_clamp (show (61 * (J + cn) + s1) < 2 ^ 31 by omega)]
          have hP : va_P D vwCl [(m0, .inr (6, [.ref ms, .ref mf, .ref mw, .ref mk, .int (bI mtold), .ref mh, .int (nI hn), .int (nI un), .int (nI tg), .int stan, .int soft, .int doub, .int spli, .int giv, .int bon, .long drw, .int mbank, .ref q0, .ref q1, .ref q2, .int (nI hp), .ref q3, .ref q4, .ref q5, .ref q6, .ref q7, .int msum, .int (bI hasA), .int mcards, .int mpair, .int (nI sh), .int want, .int mwin, .int (bI isCh), .int mbest, .ref k0, .ref k1, .ref k2, .ref k3])), (mf, .inl (cI, 11, .inl ff)), (mk, .inl (cI, 11, .inl mm)), (k0, .inl (cJ, 549, .inr (.inl a))), (k1, .inl (cJ, 549, .inr (.inl b))), (k2, .inl (cJ, 549, .inr (.inl (vp_updL g1 (61 * (J + cn) + s1) ((g1 (61 * (J + cn) + s1)) + ((lN (chN (cf rk) cn)) * (lN (wv (61 * J + t))))))))), (k3, .inl (cJ, 549, .inr (.inl g2)))] H := by rw [← e9]; exact hP
          have hD : va_D A [(m0, .inr (6, [.ref ms, .ref mf, .ref mw, .ref mk, .int (bI mtold), .ref mh, .int (nI hn), .int (nI un), .int (nI tg), .int stan, .int soft, .int doub, .int spli, .int giv, .int bon, .long drw, .int mbank, .ref q0, .ref q1, .ref q2, .int (nI hp), .ref q3, .ref q4, .ref q5, .ref q6, .ref q7, .int msum, .int (bI hasA), .int mcards, .int mpair, .int (nI sh), .int want, .int mwin, .int (bI isCh), .int mbest, .ref k0, .ref k1, .ref k2, .ref k3])), (mf, .inl (cI, 11, .inl ff)), (mk, .inl (cI, 11, .inl mm)), (k0, .inl (cJ, 549, .inr (.inl a))), (k1, .inl (cJ, 549, .inr (.inl b))), (k2, .inl (cJ, 549, .inr (.inl (vp_updL g1 (61 * (J + cn) + s1) ((g1 (61 * (J + cn) + s1)) + ((lN (chN (cf rk) cn)) * (lN (wv (61 * J + t))))))))), (k3, .inl (cJ, 549, .inr (.inl g2)))] := by rw [← e9]; exact hD
          clear e9
          refine lv_aload_n hx hb dX6_addRank_155 rfl (lv_at hl 8 rfl) ?_
          refine va_get (D := D) (ci := 6) (v := .ref k3) (C := RX6) (T := TX6) (N := 39) hx hb hts in_X6_addRank_X6 hown hK hP 0 rfl rfl 38 (by decide) (hts _ wd_X6_addRank_1) (fun _ h9 => h9) rfl dX6_addRank_156 ?_
          refine lv_iload hx hb dX6_addRank_159 (lv_at hl 0 rfl) ?_
          refine lv_dup2_11 hx hb dX6_addRank_161 rfl rfl ?_
          refine va_lald hx hb hK hP 6 1 rfl rfl (vp_in_nI (by omega) (by decide)) dX6_addRank_162 ?_
          refine lv_topl (fun z_24 ez_24 => ?_)
          obtain rfl : z_24 = (g2 (61 * (J + cn) + s1)) := ez_24.trans (by rw [nI_clamp (by omega)])
          refine lv_lload hx hb dX6_addRank_163 (lv_at hl 1 rfl) ?_
          refine lv_aload_n hx hb dX6_addRank_165 rfl (lv_at hl 8 rfl) ?_
          refine va_get (D := D) (ci := 6) (v := .ref k1) (C := RX6) (T := TX6) (N := 39) hx hb hts in_X6_addRank_X6 hown hK hP 0 rfl rfl 36 (by decide) (hts _ wd_X6_addRank_3) (fun _ h9 => h9) rfl dX6_addRank_166 ?_
          refine lv_bipush (v := 61) hx hb dX6_addRank_169 (by decide) ?_
          refine lv_iload hx hb dX6_addRank_171 (lv_at hl 4 rfl) ?_
          refine lv_imul hx hb dX6_addRank_173 ?_
          refine lv_topi (fun z_25 ez_25 => ?_)
          obtain rfl : z_25 = nI (61 * J) := ez_25.trans (nI_mulT _ _)
          refine lv_iload hx hb dX6_addRank_174 (lv_at hl 3 rfl) ?_
          refine lv_iadd hx hb dX6_addRank_176 ?_
          refine lv_topi (fun z_26 ez_26 => ?_)
          obtain rfl : z_26 = nI ((61 * J) + t) := ez_26.trans (nI_add _ _)
          refine va_lald hx hb hK hP 4 1 rfl rfl (vp_in_nI (by omega) (by decide)) dX6_addRank_177 ?_
          refine lv_topl (fun z_27 ez_27 => ?_)
          obtain rfl : z_27 = (b ((61 * J) + t)) := ez_27.trans (by rw [nI_clamp (by omega)])
          refine lv_lmul hx hb dX6_addRank_178 ?_
          refine lv_join (α := Int64) 208 10 (fun a9 => [(9, .int (nI (61 * (J + cn) + s1))), (7, .long (lN (chN (cf rk) cn))), (6, .int (nI cn)), (5, .int (nI t)), (4, .int (nI J)), (3, .int (nI most)), (2, .int p1), (1, .int (nI rk)), (0, .ref m0)]) (fun a9 => [.long a9, .long ((lN (chN (cf rk) cn)) * (b ((61 * J) + t))), .long (g2 (61 * (J + cn) + s1)), .int (nI (61 * (J + cn) + s1)), .ref k3]) (fun a9 => True) (fun a_30 ls hl hp_29 => ?_) (fun hJ_28 => ?_)
          · skip
            refine lv_ladd hx hb dX6_addRank_208 ?_
            refine lv_ladd hx hb dX6_addRank_209 ?_
            refine va_last hx hb hK hP hD hS 6 1 rfl rfl (vp_in_nI (by omega) (by decide)) dX6_addRank_210 (fun H locs hP hD hS => ?_)
            have e9 : (vp_updL g2 (nI (61 * (J + cn) + s1)).toNatClampNeg ((g2 (61 * (J + cn) + s1)) + (((lN (chN (cf rk) cn)) * (b ((61 * J) + t))) + a_30))) = vp_updL g2 (61 * (J + cn) + s1) ((g2 (61 * (J + cn) + s1)) + (((lN (chN (cf rk) cn)) * (b ((61 * J) + t))) + a_30)) := by rw [nI_clamp (show (61 * (J + cn) + s1) < 2 ^ 31 by omega)]
            have hP : va_P D vwCl [(m0, .inr (6, [.ref ms, .ref mf, .ref mw, .ref mk, .int (bI mtold), .ref mh, .int (nI hn), .int (nI un), .int (nI tg), .int stan, .int soft, .int doub, .int spli, .int giv, .int bon, .long drw, .int mbank, .ref q0, .ref q1, .ref q2, .int (nI hp), .ref q3, .ref q4, .ref q5, .ref q6, .ref q7, .int msum, .int (bI hasA), .int mcards, .int mpair, .int (nI sh), .int want, .int mwin, .int (bI isCh), .int mbest, .ref k0, .ref k1, .ref k2, .ref k3])), (mf, .inl (cI, 11, .inl ff)), (mk, .inl (cI, 11, .inl mm)), (k0, .inl (cJ, 549, .inr (.inl a))), (k1, .inl (cJ, 549, .inr (.inl b))), (k2, .inl (cJ, 549, .inr (.inl (vp_updL g1 (61 * (J + cn) + s1) ((g1 (61 * (J + cn) + s1)) + ((lN (chN (cf rk) cn)) * (lN (wv (61 * J + t))))))))), (k3, .inl (cJ, 549, .inr (.inl (vp_updL g2 (61 * (J + cn) + s1) ((g2 (61 * (J + cn) + s1)) + (((lN (chN (cf rk) cn)) * (b ((61 * J) + t))) + a_30))))))] H := by rw [← e9]; exact hP
            have hD : va_D A [(m0, .inr (6, [.ref ms, .ref mf, .ref mw, .ref mk, .int (bI mtold), .ref mh, .int (nI hn), .int (nI un), .int (nI tg), .int stan, .int soft, .int doub, .int spli, .int giv, .int bon, .long drw, .int mbank, .ref q0, .ref q1, .ref q2, .int (nI hp), .ref q3, .ref q4, .ref q5, .ref q6, .ref q7, .int msum, .int (bI hasA), .int mcards, .int mpair, .int (nI sh), .int want, .int mwin, .int (bI isCh), .int mbest, .ref k0, .ref k1, .ref k2, .ref k3])), (mf, .inl (cI, 11, .inl ff)), (mk, .inl (cI, 11, .inl mm)), (k0, .inl (cJ, 549, .inr (.inl a))), (k1, .inl (cJ, 549, .inr (.inl b))), (k2, .inl (cJ, 549, .inr (.inl (vp_updL g1 (61 * (J + cn) + s1) ((g1 (61 * (J + cn) + s1)) + ((lN (chN (cf rk) cn)) * (lN (wv (61 * J + t))))))))), (k3, .inl (cJ, 549, .inr (.inl (vp_updL g2 (61 * (J + cn) + s1) ((g2 (61 * (J + cn) + s1)) + (((lN (chN (cf rk) cn)) * (b ((61 * J) + t))) + a_30))))))] := by rw [← e9]; exact hD
            clear e9
            refine lv_iinc (v := (nI (cn + 1))) (lv' := [(6, .int (nI (cn + 1))), (9, .int (nI (61 * (J + cn) + s1))), (7, .long (lN (chN (cf rk) cn))), (5, .int (nI t)), (4, .int (nI J)), (3, .int (nI most)), (2, .int p1), (1, .int (nI rk)), (0, .ref m0)]) hx hb dX6_addRank_211 hl (k := 2) rfl (nI_incT (by decide)) (by decide) rfl (fun ls hl => ?_)
            refine lv_goto (tgt := 55) hx hb dX6_addRank_214 (by decide) ?_
            exact ih (cn + 1) (vp_updL g1 (61 * (J + cn) + s1) ((g1 (61 * (J + cn) + s1)) + ((lN (chN (cf rk) cn)) * (lN (wv (61 * J + t)))))) (vp_updL g2 (61 * (J + cn) + s1) ((g2 (61 * (J + cn) + s1)) + (((lN (chN (cf rk) cn)) * (b ((61 * J) + t))) + a_30))) (updN nw (61 * (J + cn) + s1) (nw (61 * (J + cn) + s1) + chN (cf rk) cn * wv (61 * J + t))) _ _ _ (by omega) (by omega) (AK_step hAK hW hmk.1 hmk.2 (by omega) ht61 s61 hwp e1 (chN_le _ _) (chN_pos _ (by omega) _ (by omega) (by omega)) (fun x1 x2 x3 => by subst x1; subst x2; subst x3; omega)) (upd_lN hgw (by omega) (by rw [hgw _ (by omega), lN_mul, lN_add])) hP hD hS (lv_sub hl [0, 3, 4, 5, 6, 7, 8] rfl) kk0
          · skip
            refine lv_iload_n hx hb dX6_addRank_179 rfl (lv_at hl 7 rfl) ?_
            refine lv_iload_n hx hb dX6_addRank_180 rfl (lv_at hl 6 rfl) ?_
            refine lv_icmp_ne (tgt := 207) hx hb dX6_addRank_181 (by decide) (fun c181_31 => ?_) (fun c181_31 => ?_)
            · skip
              refine lv_lconst (v := 0) hx hb dX6_addRank_207 (by decide) ?_
              exact hJ_28 (0 : Int64) ls (lv_sub hl [0, 1, 2, 3, 4, 5, 6, 7, 8] rfl) trivial
            · skip
              refine lv_iload hx hb dX6_addRank_184 (lv_at hl 2 rfl) ?_
              refine lv_i2l (v := (nI cn).toInt64) hx hb dX6_addRank_186 rfl ?_
              refine lv_lload hx hb dX6_addRank_187 (lv_at hl 1 rfl) ?_
              refine lv_lmul hx hb dX6_addRank_189 ?_
              refine lv_aload_n hx hb dX6_addRank_190 rfl (lv_at hl 8 rfl) ?_
              refine va_get (D := D) (ci := 6) (v := .ref k0) (C := RX6) (T := TX6) (N := 39) hx hb hts in_X6_addRank_X6 hown hK hP 0 rfl rfl 35 (by decide) (hts _ wd_X6_addRank_2) (fun _ h9 => h9) rfl dX6_addRank_191 ?_
              refine lv_bipush (v := 61) hx hb dX6_addRank_194 (by decide) ?_
              refine lv_iload hx hb dX6_addRank_196 (lv_at hl 4 rfl) ?_
              refine lv_imul hx hb dX6_addRank_198 ?_
              refine lv_topi (fun z_32 ez_32 => ?_)
              obtain rfl : z_32 = nI (61 * J) := ez_32.trans (nI_mulT _ _)
              refine lv_iload hx hb dX6_addRank_199 (lv_at hl 3 rfl) ?_
              refine lv_iadd hx hb dX6_addRank_201 ?_
              refine lv_topi (fun z_33 ez_33 => ?_)
              obtain rfl : z_33 = nI ((61 * J) + t) := ez_33.trans (nI_add _ _)
              refine va_lald hx hb hK hP 3 1 rfl rfl (vp_in_nI (by omega) (by decide)) dX6_addRank_202 ?_
              refine lv_topl (fun z_34 ez_34 => ?_)
              obtain rfl : z_34 = (a ((61 * J) + t)) := ez_34.trans (by rw [nI_clamp (by omega)])
              have hix : 61 * J + t < 549 := by omega
              refine lv_topl (fun z_35 ez_35 => ?_)
              obtain rfl : z_35 = lN (wv (61 * J + t)) := ez_35.trans (hwa _ hix)
              refine lv_lmul hx hb dX6_addRank_203 ?_
              refine lv_goto (tgt := 208) hx hb dX6_addRank_204 (by decide) ?_
              exact hJ_28 (((nI cn).toInt64 * (lN (chN (cf rk) cn))) * (lN (wv (61 * J + t)))) ls (lv_sub hl [0, 1, 2, 3, 4, 5, 6, 7, 8] rfl) trivial


set_option maxHeartbeats 400000 in
set_option maxRecDepth 100000 in
theorem lpA3 {p : Program} {l : Launch} {e : Env} {R : Room} {s : State} {m : MethodId} {args : Array Value} {below : List Frame} {meth : Method} {c : Code} {Q : State → Prop} {D : va_G} {cI cJ cQ : ClassId} {A : Nat → Prop} {cells slots : Nat} (hx : p.tables.exec = Jvm.exec) (hb : c.code = cX6_addRank) (hml : c.maxLocals = 10) (hown : s.vm.findClass RX6 = some m.cls) (hts : ∀ w ∈ wsX6_addRank, w.before args s = true) (hK : va_K D vwCl (gTy cI cJ cQ) s) (hA : ∀ q : Nat, s.heap.size ≤ q → A q) (m0 : Nat) (ms : Nat) (mf : Nat) (mw : Nat) (mk : Nat) (mtold : Bool) (mh : Nat) (hn : Nat) (un : Nat) (tg : Nat) (stan : Int32) (soft : Int32) (doub : Int32) (spli : Int32) (giv : Int32) (bon : Int32) (drw : Int64) (mbank : Int32) (q0 : Nat) (q1 : Nat) (q2 : Nat) (hp : Nat) (q3 : Nat) (q4 : Nat) (q5 : Nat) (q6 : Nat) (q7 : Nat) (msum : Int32) (hasA : Bool) (mcards : Int32) (mpair : Int32) (sh : Nat) (want : Int32) (mwin : Int32) (isCh : Bool) (mbest : Int32) (k0 : Nat) (k1 : Nat) (k2 : Nat) (k3 : Nat) (ff : Nat → Int32) (mm : Nat → Int32) (a : Nat → Int64) (b : Nat → Int64) (rk : Nat) (p1 : Int32) (most : Nat) (S : Nat) (cf : Nat → Nat) (wv : Nat → Nat) (j0 : Nat) (t0 : Nat) (c0 : Nat) (t1 : Nat) (J : Nat) (hRf : 1 ≤ R.frames) (hRl : 24 ≤ R.locals) (hRc : cells ≤ R.cells) (hRs : slots ≤ R.slots) (rk1 : 1 ≤ rk) (rk2 : rk ≤ 10) (m8 : most ≤ 8) (hS60 : S ≤ 60) (hff : ff rk = nI (cf rk)) (hf32 : cf rk ≤ 32) (hmk : -3 ≤ (mm rk).toInt ∧ (mm rk).toInt ≤ 3) (hwa : ∀ i, i < 549 → a i = lN (wv i)) (hW : WOK S most wv) (hj0 : j0 + c0 ≤ most) (ht0 : t0 < 61) (hc0 : c0 ≤ cf rk) (ht1 : (t1 : Int) = t0 + c0 * (mm rk).toInt) (hp0 : 0 < wv (61 * j0 + t0)) (hJ : J ≤ most) : ∀ (n9 : Nat) (t : Nat) (g1 : Nat → Int64) (g2 : Nat → Int64) (nw : Nat → Nat) (H : Heap) (locs : List Loc) (ls : Array Slot), 61 - t < n9 → (t ≤ 61) → (AK S (cf rk) (mm rk).toInt most nw j0 t0 c0 t1 J t 0) → (∀ i, i < 549 → g1 i = lN (nw i)) → va_P D vwCl [(m0, .inr (6, [.ref ms, .ref mf, .ref mw, .ref mk, .int (bI mtold), .ref mh, .int (nI hn), .int (nI un), .int (nI tg), .int stan, .int soft, .int doub, .int spli, .int giv, .int bon, .long drw, .int mbank, .ref q0, .ref q1, .ref q2, .int (nI hp), .ref q3, .ref q4, .ref q5, .ref q6, .ref q7, .int msum, .int (bI hasA), .int mcards, .int mpair, .int (nI sh), .int want, .int mwin, .int (bI isCh), .int mbest, .ref k0, .ref k1, .ref k2, .ref k3])), (mf, .inl (cI, 11, .inl ff)), (mk, .inl (cI, 11, .inl mm)), (k0, .inl (cJ, 549, .inr (.inl a))), (k1, .inl (cJ, 549, .inr (.inl b))), (k2, .inl (cJ, 549, .inr (.inl g1))), (k3, .inl (cJ, 549, .inr (.inl g2)))] H → va_D A [(m0, .inr (6, [.ref ms, .ref mf, .ref mw, .ref mk, .int (bI mtold), .ref mh, .int (nI hn), .int (nI un), .int (nI tg), .int stan, .int soft, .int doub, .int spli, .int giv, .int bon, .long drw, .int mbank, .ref q0, .ref q1, .ref q2, .int (nI hp), .ref q3, .ref q4, .ref q5, .ref q6, .ref q7, .int msum, .int (bI hasA), .int mcards, .int mpair, .int (nI sh), .int want, .int mwin, .int (bI isCh), .int mbest, .ref k0, .ref k1, .ref k2, .ref k3])), (mf, .inl (cI, 11, .inl ff)), (mk, .inl (cI, 11, .inl mm)), (k0, .inl (cJ, 549, .inr (.inl a))), (k1, .inl (cJ, 549, .inr (.inl b))), (k2, .inl (cJ, 549, .inr (.inl g1))), (k3, .inl (cJ, 549, .inr (.inl g2)))] → va_S A s.heap H locs → lv_has ls 10 [(5, .int (nI t)), (4, .int (nI J)), (3, .int (nI most)), (2, .int p1), (1, .int (nI rk)), (0, .ref m0)] → (∀ (g1 : Nat → Int64) (g2 : Nat → Int64) (nw : Nat → Nat) (H : Heap) (locs : List Loc) (ls : Array Slot), (AK S (cf rk) (mm rk).toInt most nw j0 t0 c0 t1 J 61 0) → (∀ i, i < 549 → g1 i = lN (nw i)) → va_P D vwCl [(m0, .inr (6, [.ref ms, .ref mf, .ref mw, .ref mk, .int (bI mtold), .ref mh, .int (nI hn), .int (nI un), .int (nI tg), .int stan, .int soft, .int doub, .int spli, .int giv, .int bon, .long drw, .int mbank, .ref q0, .ref q1, .ref q2, .int (nI hp), .ref q3, .ref q4, .ref q5, .ref q6, .ref q7, .int msum, .int (bI hasA), .int mcards, .int mpair, .int (nI sh), .int want, .int mwin, .int (bI isCh), .int mbest, .ref k0, .ref k1, .ref k2, .ref k3])), (mf, .inl (cI, 11, .inl ff)), (mk, .inl (cI, 11, .inl mm)), (k0, .inl (cJ, 549, .inr (.inl a))), (k1, .inl (cJ, 549, .inr (.inl b))), (k2, .inl (cJ, 549, .inr (.inl g1))), (k3, .inl (cJ, 549, .inr (.inl g2)))] H → va_D A [(m0, .inr (6, [.ref ms, .ref mf, .ref mw, .ref mk, .int (bI mtold), .ref mh, .int (nI hn), .int (nI un), .int (nI tg), .int stan, .int soft, .int doub, .int spli, .int giv, .int bon, .long drw, .int mbank, .ref q0, .ref q1, .ref q2, .int (nI hp), .ref q3, .ref q4, .ref q5, .ref q6, .ref q7, .int msum, .int (bI hasA), .int mcards, .int mpair, .int (nI sh), .int want, .int mwin, .int (bI isCh), .int mbest, .ref k0, .ref k1, .ref k2, .ref k3])), (mf, .inl (cI, 11, .inl ff)), (mk, .inl (cI, 11, .inl mm)), (k0, .inl (cJ, 549, .inr (.inl a))), (k1, .inl (cJ, 549, .inr (.inl b))), (k2, .inl (cJ, 549, .inr (.inl g1))), (k3, .inl (cJ, 549, .inr (.inl g2)))] → va_S A s.heap H locs → lv_has ls 10 [(4, .int (nI J)), (3, .int (nI most)), (2, .int p1), (1, .int (nI rk)), (0, .ref m0)] → W p l e R s m args below meth c H locs cells slots Q (F0 m 223 ls [])) → W p l e R s m args below meth c H locs cells slots Q (F0 m 45 ls []) := by
  intro n9
  induction n9 with
  | zero => intro t g1 g2 nw H locs ls hms9; exact absurd hms9 (Nat.not_lt_zero _)
  | succ n9 ih =>
    intro t g1 g2 nw H locs ls hms9 t2 hAK hgw hP hD hS hl kk0
    refine lv_iload hx hb dX6_addRank_45 (lv_at hl 0 rfl) ?_
    refine lv_bipush (v := 61) hx hb dX6_addRank_47 (by decide) ?_
    refine lv_icmp_ge (tgt := 223) hx hb dX6_addRank_49 (by decide) (fun c49_1 => ?_) (fun c49_1 => ?_)
    · skip
      have nc49_1 : 61 ≤ t := (nI_leI (a := 61) (b := t) (by omega) (by omega)).mp c49_1
      exact kk0 g1 g2 nw _ _ _ (by rw [show t = 61 by omega] at hAK; exact hAK) hgw hP hD hS (lv_sub hl [1, 2, 3, 4, 5] rfl)
    · skip
      have nc49_1 : ¬ (61 ≤ t) := fun z9 => c49_1 ((nI_leI (a := 61) (b := t) (by omega) (by omega)).mpr z9)
      refine lv_iconst (v := 0) hx hb dX6_addRank_52 (by decide) ?_
      refine lv_istore (lv' := [(6, .int 0), (5, .int (nI t)), (4, .int (nI J)), (3, .int (nI most)), (2, .int p1), (1, .int (nI rk)), (0, .ref m0)]) hx hb dX6_addRank_53 hl (by decide) rfl (fun ls hl => ?_)
      refine lpA4 hx hb hml hown hts hK hA m0 ms mf mw mk mtold mh hn un tg stan soft doub spli giv bon drw mbank q0 q1 q2 hp q3 q4 q5 q6 q7 msum hasA mcards mpair sh want mwin isCh mbest k0 k1 k2 k3 ff mm a b rk p1 most S cf wv j0 t0 c0 t1 J t (Nat.le_trans (show 1 ≤ 1 by omega) hRf) (Nat.le_trans (show 24 ≤ 24 by omega) hRl) hRc hRs rk1 rk2 m8 hS60 hff hf32 hmk hwa hW hj0 ht0 hc0 ht1 hp0 hJ (by omega) (33 - 0 + 1) 0 g1 g2 nw _ _ _ (Nat.lt_succ_self _) (by omega) hAK hgw hP hD hS (lv_sub hl [0, 1, 2, 3, 4, 5, 6] rfl) (fun g1_2 g2_3 nw_4 H locs ls hAK_5 hgw_6 hP hD hS hl => ?_)
      have hP : va_P D vwCl [(m0, .inr (6, [.ref ms, .ref mf, .ref mw, .ref mk, .int (bI mtold), .ref mh, .int (nI hn), .int (nI un), .int (nI tg), .int stan, .int soft, .int doub, .int spli, .int giv, .int bon, .long drw, .int mbank, .ref q0, .ref q1, .ref q2, .int (nI hp), .ref q3, .ref q4, .ref q5, .ref q6, .ref q7, .int msum, .int (bI hasA), .int mcards, .int mpair, .int (nI sh), .int want, .int mwin, .int (bI isCh), .int mbest, .ref k0, .ref k1, .ref k2, .ref k3])), (mf, .inl (cI, 11, .inl ff)), (mk, .inl (cI, 11, .inl mm)), (k0, .inl (cJ, 549, .inr (.inl a))), (k1, .inl (cJ, 549, .inr (.inl b))), (k2, .inl (cJ, 549, .inr (.inl g1_2))), (k3, .inl (cJ, 549, .inr (.inl g2_3)))] H := hP
      have hD : va_D A [(m0, .inr (6, [.ref ms, .ref mf, .ref mw, .ref mk, .int (bI mtold), .ref mh, .int (nI hn), .int (nI un), .int (nI tg), .int stan, .int soft, .int doub, .int spli, .int giv, .int bon, .long drw, .int mbank, .ref q0, .ref q1, .ref q2, .int (nI hp), .ref q3, .ref q4, .ref q5, .ref q6, .ref q7, .int msum, .int (bI hasA), .int mcards, .int mpair, .int (nI sh), .int want, .int mwin, .int (bI isCh), .int mbest, .ref k0, .ref k1, .ref k2, .ref k3])), (mf, .inl (cI, 11, .inl ff)), (mk, .inl (cI, 11, .inl mm)), (k0, .inl (cJ, 549, .inr (.inl a))), (k1, .inl (cJ, 549, .inr (.inl b))), (k2, .inl (cJ, 549, .inr (.inl g1_2))), (k3, .inl (cJ, 549, .inr (.inl g2_3)))] := hD
      refine lv_iinc (v := (nI (t + 1))) (lv' := [(5, .int (nI (t + 1))), (4, .int (nI J)), (3, .int (nI most)), (2, .int p1), (1, .int (nI rk)), (0, .ref m0)]) hx hb dX6_addRank_217 hl (k := 0) rfl (nI_incT (by decide)) (by decide) rfl (fun ls hl => ?_)
      refine lv_goto (tgt := 45) hx hb dX6_addRank_220 (by decide) ?_
      exact ih (t + 1) g1_2 g2_3 nw_4 _ _ _ (by omega) (by omega) hAK_5 hgw_6 hP hD hS (lv_sub hl [0, 1, 2, 3, 4, 5] rfl) kk0


set_option maxHeartbeats 400000 in
set_option maxRecDepth 100000 in
theorem lpA2 {p : Program} {l : Launch} {e : Env} {R : Room} {s : State} {m : MethodId} {args : Array Value} {below : List Frame} {meth : Method} {c : Code} {Q : State → Prop} {D : va_G} {cI cJ cQ : ClassId} {A : Nat → Prop} {cells slots : Nat} (hx : p.tables.exec = Jvm.exec) (hb : c.code = cX6_addRank) (hml : c.maxLocals = 10) (hown : s.vm.findClass RX6 = some m.cls) (hts : ∀ w ∈ wsX6_addRank, w.before args s = true) (hK : va_K D vwCl (gTy cI cJ cQ) s) (hA : ∀ q : Nat, s.heap.size ≤ q → A q) (m0 : Nat) (ms : Nat) (mf : Nat) (mw : Nat) (mk : Nat) (mtold : Bool) (mh : Nat) (hn : Nat) (un : Nat) (tg : Nat) (stan : Int32) (soft : Int32) (doub : Int32) (spli : Int32) (giv : Int32) (bon : Int32) (drw : Int64) (mbank : Int32) (q0 : Nat) (q1 : Nat) (q2 : Nat) (hp : Nat) (q3 : Nat) (q4 : Nat) (q5 : Nat) (q6 : Nat) (q7 : Nat) (msum : Int32) (hasA : Bool) (mcards : Int32) (mpair : Int32) (sh : Nat) (want : Int32) (mwin : Int32) (isCh : Bool) (mbest : Int32) (k0 : Nat) (k1 : Nat) (k2 : Nat) (k3 : Nat) (ff : Nat → Int32) (mm : Nat → Int32) (a : Nat → Int64) (b : Nat → Int64) (rk : Nat) (p1 : Int32) (most : Nat) (S : Nat) (cf : Nat → Nat) (wv : Nat → Nat) (j0 : Nat) (t0 : Nat) (c0 : Nat) (t1 : Nat) (hRf : 1 ≤ R.frames) (hRl : 24 ≤ R.locals) (hRc : cells ≤ R.cells) (hRs : slots ≤ R.slots) (rk1 : 1 ≤ rk) (rk2 : rk ≤ 10) (m8 : most ≤ 8) (hS60 : S ≤ 60) (hff : ff rk = nI (cf rk)) (hf32 : cf rk ≤ 32) (hmk : -3 ≤ (mm rk).toInt ∧ (mm rk).toInt ≤ 3) (hwa : ∀ i, i < 549 → a i = lN (wv i)) (hW : WOK S most wv) (hj0 : j0 + c0 ≤ most) (ht0 : t0 < 61) (hc0 : c0 ≤ cf rk) (ht1 : (t1 : Int) = t0 + c0 * (mm rk).toInt) (hp0 : 0 < wv (61 * j0 + t0)) : ∀ (n9 : Nat) (J : Nat) (g1 : Nat → Int64) (g2 : Nat → Int64) (nw : Nat → Nat) (H : Heap) (locs : List Loc) (ls : Array Slot), most + 1 - J < n9 → (J ≤ most + 1) → (AK S (cf rk) (mm rk).toInt most nw j0 t0 c0 t1 J 0 0) → (∀ i, i < 549 → g1 i = lN (nw i)) → va_P D vwCl [(m0, .inr (6, [.ref ms, .ref mf, .ref mw, .ref mk, .int (bI mtold), .ref mh, .int (nI hn), .int (nI un), .int (nI tg), .int stan, .int soft, .int doub, .int spli, .int giv, .int bon, .long drw, .int mbank, .ref q0, .ref q1, .ref q2, .int (nI hp), .ref q3, .ref q4, .ref q5, .ref q6, .ref q7, .int msum, .int (bI hasA), .int mcards, .int mpair, .int (nI sh), .int want, .int mwin, .int (bI isCh), .int mbest, .ref k0, .ref k1, .ref k2, .ref k3])), (mf, .inl (cI, 11, .inl ff)), (mk, .inl (cI, 11, .inl mm)), (k0, .inl (cJ, 549, .inr (.inl a))), (k1, .inl (cJ, 549, .inr (.inl b))), (k2, .inl (cJ, 549, .inr (.inl g1))), (k3, .inl (cJ, 549, .inr (.inl g2)))] H → va_D A [(m0, .inr (6, [.ref ms, .ref mf, .ref mw, .ref mk, .int (bI mtold), .ref mh, .int (nI hn), .int (nI un), .int (nI tg), .int stan, .int soft, .int doub, .int spli, .int giv, .int bon, .long drw, .int mbank, .ref q0, .ref q1, .ref q2, .int (nI hp), .ref q3, .ref q4, .ref q5, .ref q6, .ref q7, .int msum, .int (bI hasA), .int mcards, .int mpair, .int (nI sh), .int want, .int mwin, .int (bI isCh), .int mbest, .ref k0, .ref k1, .ref k2, .ref k3])), (mf, .inl (cI, 11, .inl ff)), (mk, .inl (cI, 11, .inl mm)), (k0, .inl (cJ, 549, .inr (.inl a))), (k1, .inl (cJ, 549, .inr (.inl b))), (k2, .inl (cJ, 549, .inr (.inl g1))), (k3, .inl (cJ, 549, .inr (.inl g2)))] → va_S A s.heap H locs → lv_has ls 10 [(4, .int (nI J)), (3, .int (nI most)), (2, .int p1), (1, .int (nI rk)), (0, .ref m0)] → (∀ (g1 : Nat → Int64) (g2 : Nat → Int64) (nw : Nat → Nat) (H : Heap) (locs : List Loc) (ls : Array Slot), (AK S (cf rk) (mm rk).toInt most nw j0 t0 c0 t1 (most + 1) 0 0) → (∀ i, i < 549 → g1 i = lN (nw i)) → va_P D vwCl [(m0, .inr (6, [.ref ms, .ref mf, .ref mw, .ref mk, .int (bI mtold), .ref mh, .int (nI hn), .int (nI un), .int (nI tg), .int stan, .int soft, .int doub, .int spli, .int giv, .int bon, .long drw, .int mbank, .ref q0, .ref q1, .ref q2, .int (nI hp), .ref q3, .ref q4, .ref q5, .ref q6, .ref q7, .int msum, .int (bI hasA), .int mcards, .int mpair, .int (nI sh), .int want, .int mwin, .int (bI isCh), .int mbest, .ref k0, .ref k1, .ref k2, .ref k3])), (mf, .inl (cI, 11, .inl ff)), (mk, .inl (cI, 11, .inl mm)), (k0, .inl (cJ, 549, .inr (.inl a))), (k1, .inl (cJ, 549, .inr (.inl b))), (k2, .inl (cJ, 549, .inr (.inl g1))), (k3, .inl (cJ, 549, .inr (.inl g2)))] H → va_D A [(m0, .inr (6, [.ref ms, .ref mf, .ref mw, .ref mk, .int (bI mtold), .ref mh, .int (nI hn), .int (nI un), .int (nI tg), .int stan, .int soft, .int doub, .int spli, .int giv, .int bon, .long drw, .int mbank, .ref q0, .ref q1, .ref q2, .int (nI hp), .ref q3, .ref q4, .ref q5, .ref q6, .ref q7, .int msum, .int (bI hasA), .int mcards, .int mpair, .int (nI sh), .int want, .int mwin, .int (bI isCh), .int mbest, .ref k0, .ref k1, .ref k2, .ref k3])), (mf, .inl (cI, 11, .inl ff)), (mk, .inl (cI, 11, .inl mm)), (k0, .inl (cJ, 549, .inr (.inl a))), (k1, .inl (cJ, 549, .inr (.inl b))), (k2, .inl (cJ, 549, .inr (.inl g1))), (k3, .inl (cJ, 549, .inr (.inl g2)))] → va_S A s.heap H locs → lv_has ls 10 [(3, .int (nI most)), (2, .int p1), (1, .int (nI rk)), (0, .ref m0)] → W p l e R s m args below meth c H locs cells slots Q (F0 m 229 ls [])) → W p l e R s m args below meth c H locs cells slots Q (F0 m 36 ls []) := by
  intro n9
  induction n9 with
  | zero => intro J g1 g2 nw H locs ls hms9; exact absurd hms9 (Nat.not_lt_zero _)
  | succ n9 ih =>
    intro J g1 g2 nw H locs ls hms9 J2 hAK hgw hP hD hS hl kk0
    refine lv_iload hx hb dX6_addRank_36 (lv_at hl 0 rfl) ?_
    refine lv_iload_n hx hb dX6_addRank_38 rfl (lv_at hl 1 rfl) ?_
    refine lv_icmp_gt (tgt := 229) hx hb dX6_addRank_39 (by decide) (fun c39_1 => ?_) (fun c39_1 => ?_)
    · skip
      have nc39_1 : most < J := (nI_ltI (a := most) (b := J) (by omega) (by omega)).mp c39_1
      exact kk0 g1 g2 nw _ _ _ (by rw [show J = most + 1 by omega] at hAK; exact hAK) hgw hP hD hS (lv_sub hl [1, 2, 3, 4] rfl)
    · skip
      have nc39_1 : ¬ (most < J) := fun z9 => c39_1 ((nI_ltI (a := most) (b := J) (by omega) (by omega)).mpr z9)
      refine lv_iconst (v := 0) hx hb dX6_addRank_42 (by decide) ?_
      refine lv_istore (lv' := [(5, .int 0), (4, .int (nI J)), (3, .int (nI most)), (2, .int p1), (1, .int (nI rk)), (0, .ref m0)]) hx hb dX6_addRank_43 hl (by decide) rfl (fun ls hl => ?_)
      refine lpA3 hx hb hml hown hts hK hA m0 ms mf mw mk mtold mh hn un tg stan soft doub spli giv bon drw mbank q0 q1 q2 hp q3 q4 q5 q6 q7 msum hasA mcards mpair sh want mwin isCh mbest k0 k1 k2 k3 ff mm a b rk p1 most S cf wv j0 t0 c0 t1 J (Nat.le_trans (show 1 ≤ 1 by omega) hRf) (Nat.le_trans (show 24 ≤ 24 by omega) hRl) hRc hRs rk1 rk2 m8 hS60 hff hf32 hmk hwa hW hj0 ht0 hc0 ht1 hp0 (by omega) (61 - 0 + 1) 0 g1 g2 nw _ _ _ (Nat.lt_succ_self _) (by omega) hAK hgw hP hD hS (lv_sub hl [0, 1, 2, 3, 4, 5] rfl) (fun g1_2 g2_3 nw_4 H locs ls hAK_5 hgw_6 hP hD hS hl => ?_)
      have hP : va_P D vwCl [(m0, .inr (6, [.ref ms, .ref mf, .ref mw, .ref mk, .int (bI mtold), .ref mh, .int (nI hn), .int (nI un), .int (nI tg), .int stan, .int soft, .int doub, .int spli, .int giv, .int bon, .long drw, .int mbank, .ref q0, .ref q1, .ref q2, .int (nI hp), .ref q3, .ref q4, .ref q5, .ref q6, .ref q7, .int msum, .int (bI hasA), .int mcards, .int mpair, .int (nI sh), .int want, .int mwin, .int (bI isCh), .int mbest, .ref k0, .ref k1, .ref k2, .ref k3])), (mf, .inl (cI, 11, .inl ff)), (mk, .inl (cI, 11, .inl mm)), (k0, .inl (cJ, 549, .inr (.inl a))), (k1, .inl (cJ, 549, .inr (.inl b))), (k2, .inl (cJ, 549, .inr (.inl g1_2))), (k3, .inl (cJ, 549, .inr (.inl g2_3)))] H := hP
      have hD : va_D A [(m0, .inr (6, [.ref ms, .ref mf, .ref mw, .ref mk, .int (bI mtold), .ref mh, .int (nI hn), .int (nI un), .int (nI tg), .int stan, .int soft, .int doub, .int spli, .int giv, .int bon, .long drw, .int mbank, .ref q0, .ref q1, .ref q2, .int (nI hp), .ref q3, .ref q4, .ref q5, .ref q6, .ref q7, .int msum, .int (bI hasA), .int mcards, .int mpair, .int (nI sh), .int want, .int mwin, .int (bI isCh), .int mbest, .ref k0, .ref k1, .ref k2, .ref k3])), (mf, .inl (cI, 11, .inl ff)), (mk, .inl (cI, 11, .inl mm)), (k0, .inl (cJ, 549, .inr (.inl a))), (k1, .inl (cJ, 549, .inr (.inl b))), (k2, .inl (cJ, 549, .inr (.inl g1_2))), (k3, .inl (cJ, 549, .inr (.inl g2_3)))] := hD
      refine lv_iinc (v := (nI (J + 1))) (lv' := [(4, .int (nI (J + 1))), (3, .int (nI most)), (2, .int p1), (1, .int (nI rk)), (0, .ref m0)]) hx hb dX6_addRank_223 hl (k := 0) rfl (nI_incT (by decide)) (by decide) rfl (fun ls hl => ?_)
      refine lv_goto (tgt := 36) hx hb dX6_addRank_226 (by decide) ?_
      exact ih (J + 1) g1_2 g2_3 nw_4 _ _ _ (by omega) (by omega) (AK_s hAK_5 ht0) hgw_6 hP hD hS (lv_sub hl [0, 1, 2, 3, 4] rfl) kk0

set_option maxHeartbeats 400000 in
set_option maxRecDepth 100000 in
/-- X6_addRank -/
theorem c_X6_addRank (l : Launch) (D : va_G) (cI cJ cQ : ClassId) (sz : Nat) (m0 : Nat) (ms : Nat) (mf : Nat) (mw : Nat) (mk : Nat) (mtold : Bool) (mh : Nat) (hn : Nat) (un : Nat) (tg : Nat) (stan : Int32) (soft : Int32) (doub : Int32) (spli : Int32) (giv : Int32) (bon : Int32) (drw : Int64) (mbank : Int32) (q0 : Nat) (q1 : Nat) (q2 : Nat) (hp : Nat) (q3 : Nat) (q4 : Nat) (q5 : Nat) (q6 : Nat) (q7 : Nat) (msum : Int32) (hasA : Bool) (mcards : Int32) (mpair : Int32) (sh : Nat) (want : Int32) (mwin : Int32) (isCh : Bool) (mbest : Int32) (k0 : Nat) (k1 : Nat) (k2 : Nat) (k3 : Nat) (ff : Nat → Int32) (mm : Nat → Int32) (a : Nat → Int64) (b : Nat → Int64) (g1 : Nat → Int64) (g2 : Nat → Int64) (rk : Nat) (p1 : Int32) (most : Nat) (S : Nat) (cf : Nat → Nat) (wv : Nat → Nat) (j0 : Nat) (t0 : Nat) (c0 : Nat) (t1 : Nat) (rk1 : 1 ≤ rk) (rk2 : rk ≤ 10) (m8 : most ≤ 8) (hS60 : S ≤ 60) (hff : ff rk = nI (cf rk)) (hf32 : cf rk ≤ 32) (hmk : -3 ≤ (mm rk).toInt ∧ (mm rk).toInt ≤ 3) (hwa : ∀ i, i < 549 → a i = lN (wv i)) (hW : WOK S most wv) (hj0 : j0 + c0 ≤ most) (ht0 : t0 < 61) (hc0 : c0 ≤ cf rk) (ht1 : (t1 : Int) = t0 + c0 * (mm rk).toInt) (hp0 : 0 < wv (61 * j0 + t0)) : Met l yX6_addRank wsX6_addRank ({ frames := 1, cells := 0, slots := 0, locals := 24 }) (va_Pc [.ref m0, .int (nI rk), .int p1, .int (nI most)] (mP D (gTy cI cJ cQ) [(m0, .inr (6, [.ref ms, .ref mf, .ref mw, .ref mk, .int (bI mtold), .ref mh, .int (nI hn), .int (nI un), .int (nI tg), .int stan, .int soft, .int doub, .int spli, .int giv, .int bon, .long drw, .int mbank, .ref q0, .ref q1, .ref q2, .int (nI hp), .ref q3, .ref q4, .ref q5, .ref q6, .ref q7, .int msum, .int (bI hasA), .int mcards, .int mpair, .int (nI sh), .int want, .int mwin, .int (bI isCh), .int mbest, .ref k0, .ref k1, .ref k2, .ref k3])), (mf, .inl (cI, 11, .inl ff)), (mk, .inl (cI, 11, .inl mm)), (k0, .inl (cJ, 549, .inr (.inl a))), (k1, .inl (cJ, 549, .inr (.inl b))), (k2, .inl (cJ, 549, .inr (.inl g1))), (k3, .inl (cJ, 549, .inr (.inl g2)))] sz)) (va_Qv (fun (u : (Nat → Int64) × (Nat → Int64) × (Nat → Int64) × (Nat → Int64)) => match u with | (a2, b2, g12, g22) => ∃ wv2 : Nat → Nat, (∀ i, i < 549 → a2 i = lN (wv2 i)) ∧ WOK (S + cf rk) most wv2 ∧ 0 < wv2 (61 * (j0 + c0) + t1)) (fun (u : (Nat → Int64) × (Nat → Int64) × (Nat → Int64) × (Nat → Int64)) t => match u with | (a2, b2, g12, g22) => mB D (gTy cI cJ cQ) (va_A [(m0, .inr (6, [.ref ms, .ref mf, .ref mw, .ref mk, .int (bI mtold), .ref mh, .int (nI hn), .int (nI un), .int (nI tg), .int stan, .int soft, .int doub, .int spli, .int giv, .int bon, .long drw, .int mbank, .ref q0, .ref q1, .ref q2, .int (nI hp), .ref q3, .ref q4, .ref q5, .ref q6, .ref q7, .int msum, .int (bI hasA), .int mcards, .int mpair, .int (nI sh), .int want, .int mwin, .int (bI isCh), .int mbest, .ref k0, .ref k1, .ref k2, .ref k3])), (mf, .inl (cI, 11, .inl ff)), (mk, .inl (cI, 11, .inl mm)), (k0, .inl (cJ, 549, .inr (.inl a))), (k1, .inl (cJ, 549, .inr (.inl b))), (k2, .inl (cJ, 549, .inr (.inl g1))), (k3, .inl (cJ, 549, .inr (.inl g2)))] sz) [(m0, .inr (6, [.ref ms, .ref mf, .ref mw, .ref mk, .int (bI mtold), .ref mh, .int (nI hn), .int (nI un), .int (nI tg), .int stan, .int soft, .int doub, .int spli, .int giv, .int bon, .long drw, .int mbank, .ref q0, .ref q1, .ref q2, .int (nI hp), .ref q3, .ref q4, .ref q5, .ref q6, .ref q7, .int msum, .int (bI hasA), .int mcards, .int mpair, .int (nI sh), .int want, .int mwin, .int (bI isCh), .int mbest, .ref k0, .ref k1, .ref k2, .ref k3])), (mf, .inl (cI, 11, .inl ff)), (mk, .inl (cI, 11, .inl mm)), (k0, .inl (cJ, 549, .inr (.inl a2))), (k1, .inl (cJ, 549, .inr (.inl b2))), (k2, .inl (cJ, 549, .inr (.inl g12))), (k3, .inl (cJ, 549, .inr (.inl g22)))] t) (va_A [(m0, .inr (6, [.ref ms, .ref mf, .ref mw, .ref mk, .int (bI mtold), .ref mh, .int (nI hn), .int (nI un), .int (nI tg), .int stan, .int soft, .int doub, .int spli, .int giv, .int bon, .long drw, .int mbank, .ref q0, .ref q1, .ref q2, .int (nI hp), .ref q3, .ref q4, .ref q5, .ref q6, .ref q7, .int msum, .int (bI hasA), .int mcards, .int mpair, .int (nI sh), .int want, .int mwin, .int (bI isCh), .int mbest, .ref k0, .ref k1, .ref k2, .ref k3])), (mf, .inl (cI, 11, .inl ff)), (mk, .inl (cI, 11, .inl mm)), (k0, .inl (cJ, 549, .inr (.inl a))), (k1, .inl (cJ, 549, .inr (.inl b))), (k2, .inl (cJ, 549, .inr (.inl g1))), (k3, .inl (cJ, 549, .inr (.inl g2)))] sz)) 0 0 (va_A [(m0, .inr (6, [.ref ms, .ref mf, .ref mw, .ref mk, .int (bI mtold), .ref mh, .int (nI hn), .int (nI un), .int (nI tg), .int stan, .int soft, .int doub, .int spli, .int giv, .int bon, .long drw, .int mbank, .ref q0, .ref q1, .ref q2, .int (nI hp), .ref q3, .ref q4, .ref q5, .ref q6, .ref q7, .int msum, .int (bI hasA), .int mcards, .int mpair, .int (nI sh), .int want, .int mwin, .int (bI isCh), .int mbest, .ref k0, .ref k1, .ref k2, .ref k3])), (mf, .inl (cI, 11, .inl ff)), (mk, .inl (cI, 11, .inl mm)), (k0, .inl (cJ, 549, .inr (.inl a))), (k1, .inl (cJ, 549, .inr (.inl b))), (k2, .inl (cJ, 549, .inr (.inl g1))), (k3, .inl (cJ, 549, .inr (.inl g2)))] sz) := by
  refine Met.ofW (cc := cX6_addRank) (maxL := 10) (ret := none) (by decide) rfl ?_
  intro p e s m args below meth c s₁ B hml hv
  obtain ⟨rfl, hsz, hP, hK, hD0⟩ := hv
  have hx := B.exec
  have hb := B.bytes
  have hr := B.returns
  have hts := atoms_spec (ws := wsX6_addRank) B.pre
  have hown : s.vm.findClass RX6 = some m.cls := findClass_of_methodNamed B.named
  have hlocks := B.notSynchronized
  subst hsz
  have hD := hD0.self (sz := s.heap.size)
  generalize hAe : va_A [(m0, .inr (6, [.ref ms, .ref mf, .ref mw, .ref mk, .int (bI mtold), .ref mh, .int (nI hn), .int (nI un), .int (nI tg), .int stan, .int soft, .int doub, .int spli, .int giv, .int bon, .long drw, .int mbank, .ref q0, .ref q1, .ref q2, .int (nI hp), .ref q3, .ref q4, .ref q5, .ref q6, .ref q7, .int msum, .int (bI hasA), .int mcards, .int mpair, .int (nI sh), .int want, .int mwin, .int (bI isCh), .int mbest, .ref k0, .ref k1, .ref k2, .ref k3])), (mf, .inl (cI, 11, .inl ff)), (mk, .inl (cI, 11, .inl mm)), (k0, .inl (cJ, 549, .inr (.inl a))), (k1, .inl (cJ, 549, .inr (.inl b))), (k2, .inl (cJ, 549, .inr (.inl g1))), (k3, .inl (cJ, 549, .inr (.inl g2)))] s.heap.size = A at hD ⊢
  have hA : ∀ q : Nat, s.heap.size ≤ q → A q := fun q h => by rw [← hAe]; exact Or.inr h
  have hS : va_S A s.heap s.heap [] := va_S.rf
  have hP : va_P D vwCl [(m0, .inr (6, [.ref ms, .ref mf, .ref mw, .ref mk, .int (bI mtold), .ref mh, .int (nI hn), .int (nI un), .int (nI tg), .int stan, .int soft, .int doub, .int spli, .int giv, .int bon, .long drw, .int mbank, .ref q0, .ref q1, .ref q2, .int (nI hp), .ref q3, .ref q4, .ref q5, .ref q6, .ref q7, .int msum, .int (bI hasA), .int mcards, .int mpair, .int (nI sh), .int want, .int mwin, .int (bI isCh), .int mbest, .ref k0, .ref k1, .ref k2, .ref k3])), (mf, .inl (cI, 11, .inl ff)), (mk, .inl (cI, 11, .inl mm)), (k0, .inl (cJ, 549, .inr (.inl a))), (k1, .inl (cJ, 549, .inr (.inl b))), (k2, .inl (cJ, 549, .inr (.inl g1))), (k3, .inl (cJ, 549, .inr (.inl g2)))] s.heap := hP
  have hl := lv_entry ([.ref m0, .int (nI rk), .int p1, .int (nI most)]) (n := 10) (Nat.le_of_ble_eq_true rfl)
  rw [lg_entry_eq]
  generalize (lg_sl ([.ref m0, .int (nI rk), .int p1, .int (nI most)]) ++ List.replicate (10 - (lg_sl ([.ref m0, .int (nI rk), .int p1, .int (nI most)])).length) Slot.unset).toArray = ls at hl ⊢
  have hl : lv_has ls 10 [(0, .ref m0), (1, .int (nI rk)), (2, .int p1), (3, .int (nI most))] := hl
  refine lv_iconst (v := 0) hx hb dX6_addRank_0 (by decide) ?_
  refine lv_istore (lv' := [(4, .int 0), (0, .ref m0), (1, .int (nI rk)), (2, .int p1), (3, .int (nI most))]) hx hb dX6_addRank_1 hl (by decide) rfl (fun ls hl => ?_)
  refine lpA1 hx hb hml hown hts hK hA m0 ms mf mw mk mtold mh hn un tg stan soft doub spli giv bon drw mbank q0 q1 q2 hp q3 q4 q5 q6 q7 msum hasA mcards mpair sh want mwin isCh mbest k0 k1 k2 k3 ff mm a b rk p1 most (Nat.le_of_ble_eq_true rfl) (Nat.le_of_ble_eq_true rfl) (Nat.zero_le _) (Nat.zero_le _)  (549 - 0 + 1) 0 g1 g2 _ _ _ (Nat.lt_succ_self _) (by omega) (fun j a => absurd a (by omega)) hP hD hS (lv_sub hl [0, 4, 3, 2, 1] rfl) (fun g1_1 g2_2 H locs ls hv1_3 hP hD hS hl => ?_)
  have hP : va_P D vwCl [(m0, .inr (6, [.ref ms, .ref mf, .ref mw, .ref mk, .int (bI mtold), .ref mh, .int (nI hn), .int (nI un), .int (nI tg), .int stan, .int soft, .int doub, .int spli, .int giv, .int bon, .long drw, .int mbank, .ref q0, .ref q1, .ref q2, .int (nI hp), .ref q3, .ref q4, .ref q5, .ref q6, .ref q7, .int msum, .int (bI hasA), .int mcards, .int mpair, .int (nI sh), .int want, .int mwin, .int (bI isCh), .int mbest, .ref k0, .ref k1, .ref k2, .ref k3])), (mf, .inl (cI, 11, .inl ff)), (mk, .inl (cI, 11, .inl mm)), (k0, .inl (cJ, 549, .inr (.inl a))), (k1, .inl (cJ, 549, .inr (.inl b))), (k2, .inl (cJ, 549, .inr (.inl g1_1))), (k3, .inl (cJ, 549, .inr (.inl g2_2)))] H := hP
  have hD : va_D A [(m0, .inr (6, [.ref ms, .ref mf, .ref mw, .ref mk, .int (bI mtold), .ref mh, .int (nI hn), .int (nI un), .int (nI tg), .int stan, .int soft, .int doub, .int spli, .int giv, .int bon, .long drw, .int mbank, .ref q0, .ref q1, .ref q2, .int (nI hp), .ref q3, .ref q4, .ref q5, .ref q6, .ref q7, .int msum, .int (bI hasA), .int mcards, .int mpair, .int (nI sh), .int want, .int mwin, .int (bI isCh), .int mbest, .ref k0, .ref k1, .ref k2, .ref k3])), (mf, .inl (cI, 11, .inl ff)), (mk, .inl (cI, 11, .inl mm)), (k0, .inl (cJ, 549, .inr (.inl a))), (k1, .inl (cJ, 549, .inr (.inl b))), (k2, .inl (cJ, 549, .inr (.inl g1_1))), (k3, .inl (cJ, 549, .inr (.inl g2_2)))] := hD
  refine lv_iconst (v := 0) hx hb dX6_addRank_33 (by decide) ?_
  refine lv_istore (lv' := [(4, .int 0), (3, .int (nI most)), (2, .int p1), (1, .int (nI rk)), (0, .ref m0)]) hx hb dX6_addRank_34 hl (by decide) rfl (fun ls hl => ?_)
  refine lpA2 hx hb hml hown hts hK hA m0 ms mf mw mk mtold mh hn un tg stan soft doub spli giv bon drw mbank q0 q1 q2 hp q3 q4 q5 q6 q7 msum hasA mcards mpair sh want mwin isCh mbest k0 k1 k2 k3 ff mm a b rk p1 most S cf wv j0 t0 c0 t1 (Nat.le_of_ble_eq_true rfl) (Nat.le_of_ble_eq_true rfl) (Nat.zero_le _) (Nat.zero_le _) rk1 rk2 m8 hS60 hff hf32 hmk hwa hW hj0 ht0 hc0 ht1 hp0 (most + 1 - 0 + 1) 0 g1_1 g2_2 (fun _ => 0) _ _ _ (Nat.lt_succ_self _) (by omega) (AK_init (fun _ _ => rfl) m8) (fun i hi => by rw [hv1_3 i hi]; decide) hP hD hS (lv_sub hl [0, 1, 2, 3, 4] rfl) (fun g1_4 g2_5 nw_6 H locs ls hAK_7 hgw_8 hP hD hS hl => ?_)
  have hP : va_P D vwCl [(m0, .inr (6, [.ref ms, .ref mf, .ref mw, .ref mk, .int (bI mtold), .ref mh, .int (nI hn), .int (nI un), .int (nI tg), .int stan, .int soft, .int doub, .int spli, .int giv, .int bon, .long drw, .int mbank, .ref q0, .ref q1, .ref q2, .int (nI hp), .ref q3, .ref q4, .ref q5, .ref q6, .ref q7, .int msum, .int (bI hasA), .int mcards, .int mpair, .int (nI sh), .int want, .int mwin, .int (bI isCh), .int mbest, .ref k0, .ref k1, .ref k2, .ref k3])), (mf, .inl (cI, 11, .inl ff)), (mk, .inl (cI, 11, .inl mm)), (k0, .inl (cJ, 549, .inr (.inl a))), (k1, .inl (cJ, 549, .inr (.inl b))), (k2, .inl (cJ, 549, .inr (.inl g1_4))), (k3, .inl (cJ, 549, .inr (.inl g2_5)))] H := hP
  have hD : va_D A [(m0, .inr (6, [.ref ms, .ref mf, .ref mw, .ref mk, .int (bI mtold), .ref mh, .int (nI hn), .int (nI un), .int (nI tg), .int stan, .int soft, .int doub, .int spli, .int giv, .int bon, .long drw, .int mbank, .ref q0, .ref q1, .ref q2, .int (nI hp), .ref q3, .ref q4, .ref q5, .ref q6, .ref q7, .int msum, .int (bI hasA), .int mcards, .int mpair, .int (nI sh), .int want, .int mwin, .int (bI isCh), .int mbest, .ref k0, .ref k1, .ref k2, .ref k3])), (mf, .inl (cI, 11, .inl ff)), (mk, .inl (cI, 11, .inl mm)), (k0, .inl (cJ, 549, .inr (.inl a))), (k1, .inl (cJ, 549, .inr (.inl b))), (k2, .inl (cJ, 549, .inr (.inl g1_4))), (k3, .inl (cJ, 549, .inr (.inl g2_5)))] := hD
  refine lv_iconst (v := 0) hx hb dX6_addRank_229 (by decide) ?_
  refine lv_istore (lv' := [(4, .int 0), (3, .int (nI most)), (2, .int p1), (1, .int (nI rk)), (0, .ref m0)]) hx hb dX6_addRank_230 hl (by decide) rfl (fun ls hl => ?_)
  refine lpA5 hx hb hml hown hts hK hA m0 ms mf mw mk mtold mh hn un tg stan soft doub spli giv bon drw mbank q0 q1 q2 hp q3 q4 q5 q6 q7 msum hasA mcards mpair sh want mwin isCh mbest k0 k1 k2 k3 ff mm g1_4 g2_5 rk p1 most (Nat.le_of_ble_eq_true rfl) (Nat.le_of_ble_eq_true rfl) (Nat.zero_le _) (Nat.zero_le _)  (549 - 0 + 1) 0 a b _ _ _ (Nat.lt_succ_self _) (by omega) (fun j a => absurd a (by omega)) hP hD hS (lv_sub hl [0, 1, 2, 3, 4] rfl) (fun a_9 b_10 H locs ls hv1_11 hP hD hS hl => ?_)
  have hP : va_P D vwCl [(m0, .inr (6, [.ref ms, .ref mf, .ref mw, .ref mk, .int (bI mtold), .ref mh, .int (nI hn), .int (nI un), .int (nI tg), .int stan, .int soft, .int doub, .int spli, .int giv, .int bon, .long drw, .int mbank, .ref q0, .ref q1, .ref q2, .int (nI hp), .ref q3, .ref q4, .ref q5, .ref q6, .ref q7, .int msum, .int (bI hasA), .int mcards, .int mpair, .int (nI sh), .int want, .int mwin, .int (bI isCh), .int mbest, .ref k0, .ref k1, .ref k2, .ref k3])), (mf, .inl (cI, 11, .inl ff)), (mk, .inl (cI, 11, .inl mm)), (k0, .inl (cJ, 549, .inr (.inl a_9))), (k1, .inl (cJ, 549, .inr (.inl b_10))), (k2, .inl (cJ, 549, .inr (.inl g1_4))), (k3, .inl (cJ, 549, .inr (.inl g2_5)))] H := hP
  have hD : va_D A [(m0, .inr (6, [.ref ms, .ref mf, .ref mw, .ref mk, .int (bI mtold), .ref mh, .int (nI hn), .int (nI un), .int (nI tg), .int stan, .int soft, .int doub, .int spli, .int giv, .int bon, .long drw, .int mbank, .ref q0, .ref q1, .ref q2, .int (nI hp), .ref q3, .ref q4, .ref q5, .ref q6, .ref q7, .int msum, .int (bI hasA), .int mcards, .int mpair, .int (nI sh), .int want, .int mwin, .int (bI isCh), .int mbest, .ref k0, .ref k1, .ref k2, .ref k3])), (mf, .inl (cI, 11, .inl ff)), (mk, .inl (cI, 11, .inl mm)), (k0, .inl (cJ, 549, .inr (.inl a_9))), (k1, .inl (cJ, 549, .inr (.inl b_10))), (k2, .inl (cJ, 549, .inr (.inl g1_4))), (k3, .inl (cJ, 549, .inr (.inl g2_5)))] := hD
  have hP9 := hP.sub (ws' := [(m0, .inr (6, [.ref ms, .ref mf, .ref mw, .ref mk, .int (bI mtold), .ref mh, .int (nI hn), .int (nI un), .int (nI tg), .int stan, .int soft, .int doub, .int spli, .int giv, .int bon, .long drw, .int mbank, .ref q0, .ref q1, .ref q2, .int (nI hp), .ref q3, .ref q4, .ref q5, .ref q6, .ref q7, .int msum, .int (bI hasA), .int mcards, .int mpair, .int (nI sh), .int want, .int mwin, .int (bI isCh), .int mbest, .ref k0, .ref k1, .ref k2, .ref k3])), (mf, .inl (cI, 11, .inl ff)), (mk, .inl (cI, 11, .inl mm)), (k0, .inl (cJ, 549, .inr (.inl a_9))), (k1, .inl (cJ, 549, .inr (.inl b_10))), (k2, .inl (cJ, 549, .inr (.inl g1_4))), (k3, .inl (cJ, 549, .inr (.inl g2_5)))]) [0, 1, 2, 3, 4, 5, 6] rfl
  have hD9 := hD.sub (ws' := [(m0, .inr (6, [.ref ms, .ref mf, .ref mw, .ref mk, .int (bI mtold), .ref mh, .int (nI hn), .int (nI un), .int (nI tg), .int stan, .int soft, .int doub, .int spli, .int giv, .int bon, .long drw, .int mbank, .ref q0, .ref q1, .ref q2, .int (nI hp), .ref q3, .ref q4, .ref q5, .ref q6, .ref q7, .int msum, .int (bI hasA), .int mcards, .int mpair, .int (nI sh), .int want, .int mwin, .int (bI isCh), .int mbest, .ref k0, .ref k1, .ref k2, .ref k3])), (mf, .inl (cI, 11, .inl ff)), (mk, .inl (cI, 11, .inl mm)), (k0, .inl (cJ, 549, .inr (.inl a_9))), (k1, .inl (cJ, 549, .inr (.inl b_10))), (k2, .inl (cJ, 549, .inr (.inl g1_4))), (k3, .inl (cJ, 549, .inr (.inl g2_5)))]) [0, 1, 2, 3, 4, 5, 6] (by decide) rfl
  exact W.vret hx hb hr (fun t ht hW => ⟨⟨((a_9), (b_10), (g1_4), (g2_5)), rfl, ⟨nw_6, fun i hi => by rw [hv1_11 i hi]; exact hgw_8 i hi, AK_end hAK_7 (by omega)⟩, by rw [ht]; exact hP9, va_K.moved hW.alike hK, hD9⟩, hS.F ht⟩) hS.2.2 dX6_addRank_274

set_option maxRecDepth 20000 in
theorem in_X6_known_X6 : ∀ w ∈ wsX60, w ∈ wsX6_known := by decide +kernel
set_option maxRecDepth 20000 in
theorem wd_X6_known_0 : Cond.fieldLink RX6 74 "ShoeTableModel" "ways" "[J" ∈ wsX6_known := by decide +kernel
set_option maxRecDepth 20000 in
theorem wd_X6_known_1 : Cond.fieldLink RX6 77 "ShoeTableModel" "taken" "[J" ∈ wsX6_known := by decide +kernel
set_option maxHeartbeats 400000 in
set_option maxRecDepth 100000 in
theorem lpK1 {p : Program} {l : Launch} {e : Env} {R : Room} {s : State} {m : MethodId} {args : Array Value} {below : List Frame} {meth : Method} {c : Code} {Q : State → Prop} {D : va_G} {cI cJ cQ : ClassId} {A : Nat → Prop} {cells slots : Nat} (hx : p.tables.exec = Jvm.exec) (hb : c.code = cX6_known) (hml : c.maxLocals = 6) (hown : s.vm.findClass RX6 = some m.cls) (hts : ∀ w ∈ wsX6_known, w.before args s = true) (hK : va_K D vwCl (gTy cI cJ cQ) s) (hA : ∀ q : Nat, s.heap.size ≤ q → A q) (m0 : Nat) (ms : Nat) (mf : Nat) (mw : Nat) (mk : Nat) (mtold : Bool) (mh : Nat) (hn : Nat) (un : Nat) (tg : Nat) (stan : Int32) (soft : Int32) (doub : Int32) (spli : Int32) (giv : Int32) (bon : Int32) (drw : Int64) (mbank : Int32) (q0 : Nat) (q1 : Nat) (q2 : Nat) (hp : Nat) (q3 : Nat) (q4 : Nat) (q5 : Nat) (q6 : Nat) (q7 : Nat) (msum : Int32) (hasA : Bool) (mcards : Int32) (mpair : Int32) (sh : Nat) (want : Int32) (mwin : Int32) (isCh : Bool) (mbest : Int32) (k0 : Nat) (k1 : Nat) (k2 : Nat) (k3 : Nat) (ff : Nat → Int32) (fw : Nat → Int32) (mm : Nat → Int32) (g1 : Nat → Int64) (g2 : Nat → Int64) (k : Nat) (p1 : Int32) (cg : Nat → Nat) (hRf : 0 ≤ R.frames) (hRl : 0 ≤ R.locals) (hRc : cells ≤ R.cells) (hRs : slots ≤ R.slots)  : ∀ (n9 : Nat) (i : Nat) (a : Nat → Int64) (b : Nat → Int64) (H : Heap) (locs : List Loc) (ls : Array Slot), 549 - i < n9 → (i ≤ 549) → (∀ j, j < i → a j = 0) → va_P D vwCl [(m0, .inr (6, [.ref ms, .ref mf, .ref mw, .ref mk, .int (bI mtold), .ref mh, .int (nI hn), .int (nI un), .int (nI tg), .int stan, .int soft, .int doub, .int spli, .int giv, .int bon, .long drw, .int mbank, .ref q0, .ref q1, .ref q2, .int (nI hp), .ref q3, .ref q4, .ref q5, .ref q6, .ref q7, .int msum, .int (bI hasA), .int mcards, .int mpair, .int (nI sh), .int want, .int mwin, .int (bI isCh), .int mbest, .ref k0, .ref k1, .ref k2, .ref k3])), (mf, .inl (cI, 11, .inl ff)), (mw, .inl (cI, 11, .inl fw)), (mk, .inl (cI, 11, .inl mm)), (k0, .inl (cJ, 549, .inr (.inl a))), (k1, .inl (cJ, 549, .inr (.inl b))), (k2, .inl (cJ, 549, .inr (.inl g1))), (k3, .inl (cJ, 549, .inr (.inl g2)))] H → va_D A [(m0, .inr (6, [.ref ms, .ref mf, .ref mw, .ref mk, .int (bI mtold), .ref mh, .int (nI hn), .int (nI un), .int (nI tg), .int stan, .int soft, .int doub, .int spli, .int giv, .int bon, .long drw, .int mbank, .ref q0, .ref q1, .ref q2, .int (nI hp), .ref q3, .ref q4, .ref q5, .ref q6, .ref q7, .int msum, .int (bI hasA), .int mcards, .int mpair, .int (nI sh), .int want, .int mwin, .int (bI isCh), .int mbest, .ref k0, .ref k1, .ref k2, .ref k3])), (mf, .inl (cI, 11, .inl ff)), (mw, .inl (cI, 11, .inl fw)), (mk, .inl (cI, 11, .inl mm)), (k0, .inl (cJ, 549, .inr (.inl a))), (k1, .inl (cJ, 549, .inr (.inl b))), (k2, .inl (cJ, 549, .inr (.inl g1))), (k3, .inl (cJ, 549, .inr (.inl g2)))] → va_S A s.heap H locs → lv_has ls 6 [(5, .int (nI i)), (4, .int (nI (smN cg))), (3, .int (sm10 ff)), (2, .int p1), (1, .int (nI k)), (0, .ref m0)] → (∀ (a : Nat → Int64) (b : Nat → Int64) (H : Heap) (locs : List Loc) (ls : Array Slot), (∀ j, j < 549 → a j = 0) → va_P D vwCl [(m0, .inr (6, [.ref ms, .ref mf, .ref mw, .ref mk, .int (bI mtold), .ref mh, .int (nI hn), .int (nI un), .int (nI tg), .int stan, .int soft, .int doub, .int spli, .int giv, .int bon, .long drw, .int mbank, .ref q0, .ref q1, .ref q2, .int (nI hp), .ref q3, .ref q4, .ref q5, .ref q6, .ref q7, .int msum, .int (bI hasA), .int mcards, .int mpair, .int (nI sh), .int want, .int mwin, .int (bI isCh), .int mbest, .ref k0, .ref k1, .ref k2, .ref k3])), (mf, .inl (cI, 11, .inl ff)), (mw, .inl (cI, 11, .inl fw)), (mk, .inl (cI, 11, .inl mm)), (k0, .inl (cJ, 549, .inr (.inl a))), (k1, .inl (cJ, 549, .inr (.inl b))), (k2, .inl (cJ, 549, .inr (.inl g1))), (k3, .inl (cJ, 549, .inr (.inl g2)))] H → va_D A [(m0, .inr (6, [.ref ms, .ref mf, .ref mw, .ref mk, .int (bI mtold), .ref mh, .int (nI hn), .int (nI un), .int (nI tg), .int stan, .int soft, .int doub, .int spli, .int giv, .int bon, .long drw, .int mbank, .ref q0, .ref q1, .ref q2, .int (nI hp), .ref q3, .ref q4, .ref q5, .ref q6, .ref q7, .int msum, .int (bI hasA), .int mcards, .int mpair, .int (nI sh), .int want, .int mwin, .int (bI isCh), .int mbest, .ref k0, .ref k1, .ref k2, .ref k3])), (mf, .inl (cI, 11, .inl ff)), (mw, .inl (cI, 11, .inl fw)), (mk, .inl (cI, 11, .inl mm)), (k0, .inl (cJ, 549, .inr (.inl a))), (k1, .inl (cJ, 549, .inr (.inl b))), (k2, .inl (cJ, 549, .inr (.inl g1))), (k3, .inl (cJ, 549, .inr (.inl g2)))] → va_S A s.heap H locs → lv_has ls 6 [(4, .int (nI (smN cg))), (3, .int (sm10 ff)), (2, .int p1), (1, .int (nI k)), (0, .ref m0)] → W p l e R s m args below meth c H locs cells slots Q (F0 m 121 ls [])) → W p l e R s m args below meth c H locs cells slots Q (F0 m 91 ls []) := by
  intro n9
  induction n9 with
  | zero => intro i a b H locs ls hms9; exact absurd hms9 (Nat.not_lt_zero _)
  | succ n9 ih =>
    intro i a b H locs ls hms9 i5 hv1 hP hD hS hl kk0
    refine lv_iload hx hb dX6_known_91 (lv_at hl 0 rfl) ?_
    refine lv_sipush (v := 549) hx hb dX6_known_93 (by decide) ?_
    refine lv_icmp_ge (tgt := 121) hx hb dX6_known_96 (by decide) (fun c96_1 => ?_) (fun c96_1 => ?_)
    · skip
      have nc96_1 : 549 ≤ i := (nI_leI (a := 549) (b := i) (by omega) (by omega)).mp c96_1
      exact kk0 a b _ _ _ (fun j a => hv1 j (by omega)) hP hD hS (lv_sub hl [1, 2, 3, 4, 5] rfl)
    · skip
      have nc96_1 : ¬ (549 ≤ i) := fun z9 => c96_1 ((nI_leI (a := 549) (b := i) (by omega) (by omega)).mpr z9)
      refine lv_aload_n hx hb dX6_known_99 rfl (lv_at hl 5 rfl) ?_
      refine va_get (D := D) (ci := 6) (v := .ref k0) (C := RX6) (T := TX6) (N := 39) hx hb hts in_X6_known_X6 hown hK hP 0 rfl rfl 35 (by decide) (hts _ wd_X6_known_0) (fun _ h9 => h9) rfl dX6_known_100 ?_
      refine lv_iload hx hb dX6_known_103 (lv_at hl 0 rfl) ?_
      refine lv_lconst (v := 0) hx hb dX6_known_105 (by decide) ?_
      refine va_last hx hb hK hP hD hS 4 1 rfl rfl (vp_in_nI (by omega) (by decide)) dX6_known_106 (fun H locs hP hD hS => ?_)
      have e9 : (vp_updL a (nI i).toNatClampNeg 0) = vp_updL a i 0 := by rw [nI_clamp (show i < 2 ^ 31 by omega)]
      have hP : va_P D vwCl [(m0, .inr (6, [.ref ms, .ref mf, .ref mw, .ref mk, .int (bI mtold), .ref mh, .int (nI hn), .int (nI un), .int (nI tg), .int stan, .int soft, .int doub, .int spli, .int giv, .int bon, .long drw, .int mbank, .ref q0, .ref q1, .ref q2, .int (nI hp), .ref q3, .ref q4, .ref q5, .ref q6, .ref q7, .int msum, .int (bI hasA), .int mcards, .int mpair, .int (nI sh), .int want, .int mwin, .int (bI isCh), .int mbest, .ref k0, .ref k1, .ref k2, .ref k3])), (mf, .inl (cI, 11, .inl ff)), (mw, .inl (cI, 11, .inl fw)), (mk, .inl (cI, 11, .inl mm)), (k0, .inl (cJ, 549, .inr (.inl (vp_updL a i 0)))), (k1, .inl (cJ, 549, .inr (.inl b))), (k2, .inl (cJ, 549, .inr (.inl g1))), (k3, .inl (cJ, 549, .inr (.inl g2)))] H := by rw [← e9]; exact hP
      have hD : va_D A [(m0, .inr (6, [.ref ms, .ref mf, .ref mw, .ref mk, .int (bI mtold), .ref mh, .int (nI hn), .int (nI un), .int (nI tg), .int stan, .int soft, .int doub, .int spli, .int giv, .int bon, .long drw, .int mbank, .ref q0, .ref q1, .ref q2, .int (nI hp), .ref q3, .ref q4, .ref q5, .ref q6, .ref q7, .int msum, .int (bI hasA), .int mcards, .int mpair, .int (nI sh), .int want, .int mwin, .int (bI isCh), .int mbest, .ref k0, .ref k1, .ref k2, .ref k3])), (mf, .inl (cI, 11, .inl ff)), (mw, .inl (cI, 11, .inl fw)), (mk, .inl (cI, 11, .inl mm)), (k0, .inl (cJ, 549, .inr (.inl (vp_updL a i 0)))), (k1, .inl (cJ, 549, .inr (.inl b))), (k2, .inl (cJ, 549, .inr (.inl g1))), (k3, .inl (cJ, 549, .inr (.inl g2)))] := by rw [← e9]; exact hD
      clear e9
      refine lv_aload_n hx hb dX6_known_107 rfl (lv_at hl 5 rfl) ?_
      refine va_get (D := D) (ci := 6) (v := .ref k1) (C := RX6) (T := TX6) (N := 39) hx hb hts in_X6_known_X6 hown hK hP 0 rfl rfl 36 (by decide) (hts _ wd_X6_known_1) (fun _ h9 => h9) rfl dX6_known_108 ?_
      refine lv_iload hx hb dX6_known_111 (lv_at hl 0 rfl) ?_
      refine lv_lconst (v := 0) hx hb dX6_known_113 (by decide) ?_
      refine va_last hx hb hK hP hD hS 5 1 rfl rfl (vp_in_nI (by omega) (by decide)) dX6_known_114 (fun H locs hP hD hS => ?_)
      have e9 : (vp_updL b (nI i).toNatClampNeg 0) = vp_updL b i 0 := by rw [nI_clamp (show i < 2 ^ 31 by omega)]
      have hP : va_P D vwCl [(m0, .inr (6, [.ref ms, .ref mf, .ref mw, .ref mk, .int (bI mtold), .ref mh, .int (nI hn), .int (nI un), .int (nI tg), .int stan, .int soft, .int doub, .int spli, .int giv, .int bon, .long drw, .int mbank, .ref q0, .ref q1, .ref q2, .int (nI hp), .ref q3, .ref q4, .ref q5, .ref q6, .ref q7, .int msum, .int (bI hasA), .int mcards, .int mpair, .int (nI sh), .int want, .int mwin, .int (bI isCh), .int mbest, .ref k0, .ref k1, .ref k2, .ref k3])), (mf, .inl (cI, 11, .inl ff)), (mw, .inl (cI, 11, .inl fw)), (mk, .inl (cI, 11, .inl mm)), (k0, .inl (cJ, 549, .inr (.inl (vp_updL a i 0)))), (k1, .inl (cJ, 549, .inr (.inl (vp_updL b i 0)))), (k2, .inl (cJ, 549, .inr (.inl g1))), (k3, .inl (cJ, 549, .inr (.inl g2)))] H := by rw [← e9]; exact hP
      have hD : va_D A [(m0, .inr (6, [.ref ms, .ref mf, .ref mw, .ref mk, .int (bI mtold), .ref mh, .int (nI hn), .int (nI un), .int (nI tg), .int stan, .int soft, .int doub, .int spli, .int giv, .int bon, .long drw, .int mbank, .ref q0, .ref q1, .ref q2, .int (nI hp), .ref q3, .ref q4, .ref q5, .ref q6, .ref q7, .int msum, .int (bI hasA), .int mcards, .int mpair, .int (nI sh), .int want, .int mwin, .int (bI isCh), .int mbest, .ref k0, .ref k1, .ref k2, .ref k3])), (mf, .inl (cI, 11, .inl ff)), (mw, .inl (cI, 11, .inl fw)), (mk, .inl (cI, 11, .inl mm)), (k0, .inl (cJ, 549, .inr (.inl (vp_updL a i 0)))), (k1, .inl (cJ, 549, .inr (.inl (vp_updL b i 0)))), (k2, .inl (cJ, 549, .inr (.inl g1))), (k3, .inl (cJ, 549, .inr (.inl g2)))] := by rw [← e9]; exact hD
      clear e9
      refine lv_iinc (v := (nI (i + 1))) (lv' := [(5, .int (nI (i + 1))), (4, .int (nI (smN cg))), (3, .int (sm10 ff)), (2, .int p1), (1, .int (nI k)), (0, .ref m0)]) hx hb dX6_known_115 hl (k := 0) rfl (nI_incT (by decide)) (by decide) rfl (fun ls hl => ?_)
      refine lv_goto (tgt := 91) hx hb dX6_known_118 (by decide) ?_
      exact ih (i + 1) (vp_updL a i 0) (vp_updL b i 0) _ _ _ (by omega) (by omega) (clr0 hv1) hP hD hS (lv_sub hl [0, 1, 2, 3, 4, 5] rfl) kk0


set_option maxHeartbeats 400000 in
set_option maxRecDepth 100000 in
theorem lpK2 {p : Program} {l : Launch} {e : Env} {R : Room} {s : State} {m : MethodId} {args : Array Value} {below : List Frame} {meth : Method} {c : Code} {Q : State → Prop} {D : va_G} {cI cJ cQ : ClassId} {A : Nat → Prop} {cells slots : Nat} (hx : p.tables.exec = Jvm.exec) (hb : c.code = cX6_known) (hml : c.maxLocals = 6) (hown : s.vm.findClass RX6 = some m.cls) (hts : ∀ w ∈ wsX6_known, w.before args s = true) (hK : va_K D vwCl (gTy cI cJ cQ) s) (hA : ∀ q : Nat, s.heap.size ≤ q → A q) (m0 : Nat) (ms : Nat) (mf : Nat) (mw : Nat) (mk : Nat) (mtold : Bool) (mh : Nat) (hn : Nat) (un : Nat) (tg : Nat) (stan : Int32) (soft : Int32) (doub : Int32) (spli : Int32) (giv : Int32) (bon : Int32) (drw : Int64) (mbank : Int32) (q0 : Nat) (q1 : Nat) (q2 : Nat) (hp : Nat) (q3 : Nat) (q4 : Nat) (q5 : Nat) (q6 : Nat) (q7 : Nat) (msum : Int32) (hasA : Bool) (mcards : Int32) (mpair : Int32) (sh : Nat) (want : Int32) (mwin : Int32) (isCh : Bool) (mbest : Int32) (k0 : Nat) (k1 : Nat) (k2 : Nat) (k3 : Nat) (ff : Nat → Int32) (fw : Nat → Int32) (mm : Nat → Int32) (k : Nat) (p1 : Int32) (cf : Nat → Nat) (cg : Nat → Nat) (hRf : 2 ≤ R.frames) (hRl : 53 ≤ R.locals) (hRc : cells ≤ R.cells) (hRs : slots ≤ R.slots) (hcf : cntI ff cf) (hmk : ∀ j, 1 ≤ j → j ≤ 10 → -3 ≤ (mm j).toInt ∧ (mm j).toInt ≤ 3) (hcg : ∀ j, 1 ≤ j → j ≤ 10 → fw j = nI (cg j) ∧ cg j ≤ cf j) (h60 : smN cf ≤ 60) (g8 : smN cg ≤ 8) : ∀ (n9 : Nat) (r : Nat) (a : Nat → Int64) (b : Nat → Int64) (g1 : Nat → Int64) (g2 : Nat → Int64) (wv : Nat → Nat) (tt : Nat) (H : Heap) (locs : List Loc) (ls : Array Slot), 11 - r < n9 → (1 ≤ r) → (r ≤ 11) → (∀ i, i < 549 → a i = lN (wv i)) → (WOK (smU cf (r - 1)) (smN cg) wv) → ((tt : Int) = 30 + mkS mm cg (r - 1)) → (0 < wv (61 * smU cg (r - 1) + tt)) → va_P D vwCl [(m0, .inr (6, [.ref ms, .ref mf, .ref mw, .ref mk, .int (bI mtold), .ref mh, .int (nI hn), .int (nI un), .int (nI tg), .int stan, .int soft, .int doub, .int spli, .int giv, .int bon, .long drw, .int mbank, .ref q0, .ref q1, .ref q2, .int (nI hp), .ref q3, .ref q4, .ref q5, .ref q6, .ref q7, .int msum, .int (bI hasA), .int mcards, .int mpair, .int (nI sh), .int want, .int mwin, .int (bI isCh), .int mbest, .ref k0, .ref k1, .ref k2, .ref k3])), (mf, .inl (cI, 11, .inl ff)), (mw, .inl (cI, 11, .inl fw)), (mk, .inl (cI, 11, .inl mm)), (k0, .inl (cJ, 549, .inr (.inl a))), (k1, .inl (cJ, 549, .inr (.inl b))), (k2, .inl (cJ, 549, .inr (.inl g1))), (k3, .inl (cJ, 549, .inr (.inl g2)))] H → va_D A [(m0, .inr (6, [.ref ms, .ref mf, .ref mw, .ref mk, .int (bI mtold), .ref mh, .int (nI hn), .int (nI un), .int (nI tg), .int stan, .int soft, .int doub, .int spli, .int giv, .int bon, .long drw, .int mbank, .ref q0, .ref q1, .ref q2, .int (nI hp), .ref q3, .ref q4, .ref q5, .ref q6, .ref q7, .int msum, .int (bI hasA), .int mcards, .int mpair, .int (nI sh), .int want, .int mwin, .int (bI isCh), .int mbest, .ref k0, .ref k1, .ref k2, .ref k3])), (mf, .inl (cI, 11, .inl ff)), (mw, .inl (cI, 11, .inl fw)), (mk, .inl (cI, 11, .inl mm)), (k0, .inl (cJ, 549, .inr (.inl a))), (k1, .inl (cJ, 549, .inr (.inl b))), (k2, .inl (cJ, 549, .inr (.inl g1))), (k3, .inl (cJ, 549, .inr (.inl g2)))] → va_S A s.heap H locs → lv_has ls 6 [(5, .int (nI r)), (4, .int (nI (smN cg))), (3, .int (sm10 ff)), (2, .int p1), (1, .int (nI k)), (0, .ref m0)] → (∀ (a : Nat → Int64) (b : Nat → Int64) (g1 : Nat → Int64) (g2 : Nat → Int64) (wv : Nat → Nat) (tt : Nat) (H : Heap) (locs : List Loc) (ls : Array Slot), (∀ i, i < 549 → a i = lN (wv i)) → (WOK (smU cf 10) (smN cg) wv) → ((tt : Int) = 30 + mkS mm cg 10) → (0 < wv (61 * smU cg 10 + tt)) → va_P D vwCl [(m0, .inr (6, [.ref ms, .ref mf, .ref mw, .ref mk, .int (bI mtold), .ref mh, .int (nI hn), .int (nI un), .int (nI tg), .int stan, .int soft, .int doub, .int spli, .int giv, .int bon, .long drw, .int mbank, .ref q0, .ref q1, .ref q2, .int (nI hp), .ref q3, .ref q4, .ref q5, .ref q6, .ref q7, .int msum, .int (bI hasA), .int mcards, .int mpair, .int (nI sh), .int want, .int mwin, .int (bI isCh), .int mbest, .ref k0, .ref k1, .ref k2, .ref k3])), (mf, .inl (cI, 11, .inl ff)), (mw, .inl (cI, 11, .inl fw)), (mk, .inl (cI, 11, .inl mm)), (k0, .inl (cJ, 549, .inr (.inl a))), (k1, .inl (cJ, 549, .inr (.inl b))), (k2, .inl (cJ, 549, .inr (.inl g1))), (k3, .inl (cJ, 549, .inr (.inl g2)))] H → va_D A [(m0, .inr (6, [.ref ms, .ref mf, .ref mw, .ref mk, .int (bI mtold), .ref mh, .int (nI hn), .int (nI un), .int (nI tg), .int stan, .int soft, .int doub, .int spli, .int giv, .int bon, .long drw, .int mbank, .ref q0, .ref q1, .ref q2, .int (nI hp), .ref q3, .ref q4, .ref q5, .ref q6, .ref q7, .int msum, .int (bI hasA), .int mcards, .int mpair, .int (nI sh), .int want, .int mwin, .int (bI isCh), .int mbest, .ref k0, .ref k1, .ref k2, .ref k3])), (mf, .inl (cI, 11, .inl ff)), (mw, .inl (cI, 11, .inl fw)), (mk, .inl (cI, 11, .inl mm)), (k0, .inl (cJ, 549, .inr (.inl a))), (k1, .inl (cJ, 549, .inr (.inl b))), (k2, .inl (cJ, 549, .inr (.inl g1))), (k3, .inl (cJ, 549, .inr (.inl g2)))] → va_S A s.heap H locs → lv_has ls 6 [(4, .int (nI (smN cg))), (3, .int (sm10 ff)), (2, .int p1), (1, .int (nI k)), (0, .ref m0)] → W p l e R s m args below meth c H locs cells slots Q (F0 m 154 ls [])) → W p l e R s m args below meth c H locs cells slots Q (F0 m 132 ls []) := by
  intro n9
  induction n9 with
  | zero => intro r a b g1 g2 wv tt H locs ls hms9; exact absurd hms9 (Nat.not_lt_zero _)
  | succ n9 ih =>
    intro r a b g1 g2 wv tt H locs ls hms9 r1 r2 hwa hW htt hpw hP hD hS hl kk0
    refine lv_iload hx hb dX6_known_132 (lv_at hl 0 rfl) ?_
    refine lv_bipush (v := 11) hx hb dX6_known_134 (by decide) ?_
    refine lv_icmp_ge (tgt := 154) hx hb dX6_known_136 (by decide) (fun c136_1 => ?_) (fun c136_1 => ?_)
    · skip
      have nc136_1 : 11 ≤ r := (nI_leI (a := 11) (b := r) (by omega) (by omega)).mp c136_1
      exact kk0 a b g1 g2 wv tt _ _ _ hwa (by rw [show r - 1 = 10 by omega] at hW; exact hW) (by rw [show r - 1 = 10 by omega] at htt; exact htt) (by rw [show r - 1 = 10 by omega] at hpw; exact hpw) hP hD hS (lv_sub hl [1, 2, 3, 4, 5] rfl)
    · skip
      have nc136_1 : ¬ (11 ≤ r) := fun z9 => c136_1 ((nI_leI (a := 11) (b := r) (by omega) (by omega)).mpr z9)
      have hsf := smU_s cf r1
      have hsg := smU_s cg r1
      have hsm := mkS_s mm cg r1
      have hlf := smU_le10 cf (k := r) (by omega)
      have hlg := smU_le10 cg (k := r) (by omega)
      have hb1 := mkS_b (cg := cg) hmk (r - 1) (by omega)
      have hb2 := mkS_b (cg := cg) hmk r (by omega)
      obtain ⟨t9, et9⟩ : ∃ t9 : Nat, (t9 : Int) = 30 + mkS mm cg r := ⟨(30 + mkS mm cg r).toNat, by omega⟩
      refine lv_aload_n hx hb dX6_known_139 rfl (lv_at hl 5 rfl) ?_
      refine lv_iload hx hb dX6_known_140 (lv_at hl 0 rfl) ?_
      refine lv_iload_n hx hb dX6_known_142 rfl (lv_at hl 4 rfl) ?_
      refine lv_iload hx hb dX6_known_143 (lv_at hl 1 rfl) ?_
      have hPc := hP.sub (ws' := [(m0, .inr (6, [.ref ms, .ref mf, .ref mw, .ref mk, .int (bI mtold), .ref mh, .int (nI hn), .int (nI un), .int (nI tg), .int stan, .int soft, .int doub, .int spli, .int giv, .int bon, .long drw, .int mbank, .ref q0, .ref q1, .ref q2, .int (nI hp), .ref q3, .ref q4, .ref q5, .ref q6, .ref q7, .int msum, .int (bI hasA), .int mcards, .int mpair, .int (nI sh), .int want, .int mwin, .int (bI isCh), .int mbest, .ref k0, .ref k1, .ref k2, .ref k3])), (mf, .inl (cI, 11, .inl ff)), (mk, .inl (cI, 11, .inl mm)), (k0, .inl (cJ, 549, .inr (.inl a))), (k1, .inl (cJ, 549, .inr (.inl b))), (k2, .inl (cJ, 549, .inr (.inl g1))), (k3, .inl (cJ, 549, .inr (.inl g2)))]) [0, 1, 3, 4, 5, 6, 7] rfl
      have hDc := hD.sub (ws' := [(m0, .inr (6, [.ref ms, .ref mf, .ref mw, .ref mk, .int (bI mtold), .ref mh, .int (nI hn), .int (nI un), .int (nI tg), .int stan, .int soft, .int doub, .int spli, .int giv, .int bon, .long drw, .int mbank, .ref q0, .ref q1, .ref q2, .int (nI hp), .ref q3, .ref q4, .ref q5, .ref q6, .ref q7, .int msum, .int (bI hasA), .int mcards, .int mpair, .int (nI sh), .int want, .int mwin, .int (bI isCh), .int mbest, .ref k0, .ref k1, .ref k2, .ref k3])), (mf, .inl (cI, 11, .inl ff)), (mk, .inl (cI, 11, .inl mm)), (k0, .inl (cJ, 549, .inr (.inl a))), (k1, .inl (cJ, 549, .inr (.inl b))), (k2, .inl (cJ, 549, .inr (.inl g1))), (k3, .inl (cJ, 549, .inr (.inl g2)))]) [0, 1, 3, 4, 5, 6, 7] (by decide) rfl
      have hFc := va_free (wc := [(m0, .inr (6, [.ref ms, .ref mf, .ref mw, .ref mk, .int (bI mtold), .ref mh, .int (nI hn), .int (nI un), .int (nI tg), .int stan, .int soft, .int doub, .int spli, .int giv, .int bon, .long drw, .int mbank, .ref q0, .ref q1, .ref q2, .int (nI hp), .ref q3, .ref q4, .ref q5, .ref q6, .ref q7, .int msum, .int (bI hasA), .int mcards, .int mpair, .int (nI sh), .int want, .int mwin, .int (bI isCh), .int mbest, .ref k0, .ref k1, .ref k2, .ref k3])), (mf, .inl (cI, 11, .inl ff)), (mk, .inl (cI, 11, .inl mm)), (k0, .inl (cJ, 549, .inr (.inl a))), (k1, .inl (cJ, 549, .inr (.inl b))), (k2, .inl (cJ, 549, .inr (.inl g1))), (k3, .inl (cJ, 549, .inr (.inl g2)))]) hD hS hA [0, 1, 3, 4, 5, 6, 7] rfl
      refine va_callv (va_runV (As := [.int (nI r), .int (nI k), .int (nI (smN cg))]) (rest := []) ⟨hx, hb, hml, hown, hts⟩ (c_X6_addRank l D cI cJ cQ _ m0 ms mf mw mk mtold mh hn un tg stan soft doub spli giv bon drw mbank q0 q1 q2 hp q3 q4 q5 q6 q7 msum hasA mcards mpair sh want mwin isCh mbest k0 k1 k2 k3 (ff) (mm) (a) (b) (g1) (g2) r (nI k) (smN cg) (smU cf (r - 1)) cf wv (smU cg (r - 1)) tt (cg r) t9 r1 (by omega) g8 (by omega) (hcf r r1 (by omega)).1 (hcf r r1 (by omega)).2 (hmk r r1 (by omega)) hwa hW (by omega) (by omega) (hcg r r1 (by omega)).2 (by omega) hpw) (cwV 3 hts gX6_known_X6_addRank rfl rfl rfl (by decide +kernel) ⟨Nat.le_trans (show 1 + 1 ≤ 2 by omega) hRf, Nat.le_trans (show 8 + (10 + 11) + (24) ≤ 53 by omega) hRl⟩) (mP_preV (ci := 6) (q0 := 0) hPc hK hDc rfl rfl) rfl rfl hl.1 rfl (lv_room (Nat.le_of_ble_eq_true rfl)) dX6_known_145 ⟨hRc, hRs⟩) hS (fun q _ h => hFc q h) hFc (fun u_r_2 t H1 locs ht hvm hr_2 hB hz1 hk1 hS => ?_)
      obtain ⟨a2_3, b2_4, g12_5, g22_6⟩ := u_r_2
      obtain ⟨hP1, hK1, hD1⟩ := hB
      rw [ht] at hP1
      try dsimp only at hr_2
      obtain ⟨hP, hD⟩ := va_join (wr := [(mw, .inl (cI, 11, .inl fw))]) (w1 := [(m0, .inr (6, [.ref ms, .ref mf, .ref mw, .ref mk, .int (bI mtold), .ref mh, .int (nI hn), .int (nI un), .int (nI tg), .int stan, .int soft, .int doub, .int spli, .int giv, .int bon, .long drw, .int mbank, .ref q0, .ref q1, .ref q2, .int (nI hp), .ref q3, .ref q4, .ref q5, .ref q6, .ref q7, .int msum, .int (bI hasA), .int mcards, .int mpair, .int (nI sh), .int want, .int mwin, .int (bI isCh), .int mbest, .ref k0, .ref k1, .ref k2, .ref k3])), (mf, .inl (cI, 11, .inl (ff))), (mk, .inl (cI, 11, .inl (mm))), (k0, .inl (cJ, 549, .inr (.inl a2_3))), (k1, .inl (cJ, 549, .inr (.inl b2_4))), (k2, .inl (cJ, 549, .inr (.inl g12_5))), (k3, .inl (cJ, 549, .inr (.inl g22_6)))]) hP hD [0, 1, 3, 4, 5, 6, 7] [2] rfl rfl (by decide) (by decide) hk1 hFc hP1 hD1
      generalize H1 = H at hP hS ⊢
      have hP : va_P D vwCl [(mw, .inl (cI, 11, .inl fw)), (m0, .inr (6, [.ref ms, .ref mf, .ref mw, .ref mk, .int (bI mtold), .ref mh, .int (nI hn), .int (nI un), .int (nI tg), .int stan, .int soft, .int doub, .int spli, .int giv, .int bon, .long drw, .int mbank, .ref q0, .ref q1, .ref q2, .int (nI hp), .ref q3, .ref q4, .ref q5, .ref q6, .ref q7, .int msum, .int (bI hasA), .int mcards, .int mpair, .int (nI sh), .int want, .int mwin, .int (bI isCh), .int mbest, .ref k0, .ref k1, .ref k2, .ref k3])), (mf, .inl (cI, 11, .inl (ff))), (mk, .inl (cI, 11, .inl (mm))), (k0, .inl (cJ, 549, .inr (.inl a2_3))), (k1, .inl (cJ, 549, .inr (.inl b2_4))), (k2, .inl (cJ, 549, .inr (.inl g12_5))), (k3, .inl (cJ, 549, .inr (.inl g22_6)))] H := hP
      have hD : va_D A [(mw, .inl (cI, 11, .inl fw)), (m0, .inr (6, [.ref ms, .ref mf, .ref mw, .ref mk, .int (bI mtold), .ref mh, .int (nI hn), .int (nI un), .int (nI tg), .int stan, .int soft, .int doub, .int spli, .int giv, .int bon, .long drw, .int mbank, .ref q0, .ref q1, .ref q2, .int (nI hp), .ref q3, .ref q4, .ref q5, .ref q6, .ref q7, .int msum, .int (bI hasA), .int mcards, .int mpair, .int (nI sh), .int want, .int mwin, .int (bI isCh), .int mbest, .ref k0, .ref k1, .ref k2, .ref k3])), (mf, .inl (cI, 11, .inl (ff))), (mk, .inl (cI, 11, .inl (mm))), (k0, .inl (cJ, 549, .inr (.inl a2_3))), (k1, .inl (cJ, 549, .inr (.inl b2_4))), (k2, .inl (cJ, 549, .inr (.inl g12_5))), (k3, .inl (cJ, 549, .inr (.inl g22_6)))] := hD
      obtain ⟨wv2, w1_, w2_, w3_⟩ := hr_2
      refine lv_iinc (v := (nI (r + 1))) (lv' := [(5, .int (nI (r + 1))), (4, .int (nI (smN cg))), (3, .int (sm10 ff)), (2, .int p1), (1, .int (nI k)), (0, .ref m0)]) hx hb dX6_known_148 hl (k := 0) rfl (nI_incT (by decide)) (by decide) rfl (fun ls hl => ?_)
      refine lv_goto (tgt := 132) hx hb dX6_known_151 (by decide) ?_
      exact ih (r + 1) a2_3 b2_4 g12_5 g22_6 wv2 t9 _ _ _ (by omega) (by omega) (by omega) w1_ (by rw [show r + 1 - 1 = r by omega, hsf]; exact w2_) (by rw [show r + 1 - 1 = r by omega]; exact et9) (by rw [show r + 1 - 1 = r by omega, hsg]; exact w3_) (hP.sub [1, 2, 0, 3, 4, 5, 6, 7] rfl) (hD.sub [1, 2, 0, 3, 4, 5, 6, 7] (by decide) rfl) hS (lv_sub hl [0, 1, 2, 3, 4, 5] rfl) kk0

set_option maxRecDepth 20000 in
theorem wd_X6_known_2 : Cond.constantLong RX6 86 (10) ∈ wsX6_known := by decide +kernel
set_option maxRecDepth 20000 in
theorem wd_X6_known_3 : Cond.constantLong RX6 261 (-1001) ∈ wsX6_known := by decide +kernel
set_option maxRecDepth 20000 in
theorem wd_X6_known_4 : Cond.fieldLink RX6 94 "ShoeTableModel" "told" "Z" ∈ wsX6_known := by decide +kernel
set_option maxRecDepth 20000 in
theorem wd_X6_known_5 : Cond.fieldLink RX6 13 "ShoeTableModel" "atFresh" "[I" ∈ wsX6_known := by decide +kernel
set_option maxRecDepth 20000 in
theorem wd_X6_known_6 : Cond.constantLong RX6 265 (-1004) ∈ wsX6_known := by decide +kernel
set_option maxRecDepth 20000 in
theorem wd_X6_known_7 : Cond.constantLong RX6 263 (-1002) ∈ wsX6_known := by decide +kernel
set_option maxHeartbeats 400000 in
set_option maxRecDepth 100000 in
/-- X6_known -/
theorem c_X6_known (l : Launch) (D : va_G) (cI cJ cQ : ClassId) (sz : Nat) (m0 : Nat) (ms : Nat) (mf : Nat) (mw : Nat) (mk : Nat) (mtold : Bool) (mh : Nat) (hn : Nat) (un : Nat) (tg : Nat) (stan : Int32) (soft : Int32) (doub : Int32) (spli : Int32) (giv : Int32) (bon : Int32) (drw : Int64) (mbank : Int32) (q0 : Nat) (q1 : Nat) (q2 : Nat) (hp : Nat) (q3 : Nat) (q4 : Nat) (q5 : Nat) (q6 : Nat) (q7 : Nat) (msum : Int32) (hasA : Bool) (mcards : Int32) (mpair : Int32) (sh : Nat) (want : Int32) (mwin : Int32) (isCh : Bool) (mbest : Int32) (k0 : Nat) (k1 : Nat) (k2 : Nat) (k3 : Nat) (ff : Nat → Int32) (fw : Nat → Int32) (mm : Nat → Int32) (a : Nat → Int64) (b : Nat → Int64) (g1 : Nat → Int64) (g2 : Nat → Int64) (p0 : Int32) (p1 : Int32) (cf : Nat → Nat) (cg : Nat → Nat) (hcf : cntI ff cf) (hmk : ∀ j, 1 ≤ j → j ≤ 10 → -3 ≤ (mm j).toInt ∧ (mm j).toInt ≤ 3) (hcg0 : mtold = false → ∀ j, 1 ≤ j → j ≤ 10 → fw j = nI (cg j) ∧ cg j ≤ cf j) : Met l yX6_known wsX6_known ({ frames := 2, cells := 0, slots := 0, locals := 55 }) (va_Pc [.ref m0, .int p0, .int p1] (mP D (gTy cI cJ cQ) [(m0, .inr (6, [.ref ms, .ref mf, .ref mw, .ref mk, .int (bI mtold), .ref mh, .int (nI hn), .int (nI un), .int (nI tg), .int stan, .int soft, .int doub, .int spli, .int giv, .int bon, .long drw, .int mbank, .ref q0, .ref q1, .ref q2, .int (nI hp), .ref q3, .ref q4, .ref q5, .ref q6, .ref q7, .int msum, .int (bI hasA), .int mcards, .int mpair, .int (nI sh), .int want, .int mwin, .int (bI isCh), .int mbest, .ref k0, .ref k1, .ref k2, .ref k3])), (mf, .inl (cI, 11, .inl ff)), (mw, .inl (cI, 11, .inl fw)), (mk, .inl (cI, 11, .inl mm)), (k0, .inl (cJ, 549, .inr (.inl a))), (k1, .inl (cJ, 549, .inr (.inl b))), (k2, .inl (cJ, 549, .inr (.inl g1))), (k3, .inl (cJ, 549, .inr (.inl g2)))] sz)) (va_Ql (fun (r : Int64) (u : (Nat → Int64) × (Nat → Int64) × (Nat → Int64) × (Nat → Int64)) => match u with | (a2, b2, g12, g22) => True) (fun (u : (Nat → Int64) × (Nat → Int64) × (Nat → Int64) × (Nat → Int64)) t => match u with | (a2, b2, g12, g22) => mB D (gTy cI cJ cQ) (va_A [(m0, .inr (6, [.ref ms, .ref mf, .ref mw, .ref mk, .int (bI mtold), .ref mh, .int (nI hn), .int (nI un), .int (nI tg), .int stan, .int soft, .int doub, .int spli, .int giv, .int bon, .long drw, .int mbank, .ref q0, .ref q1, .ref q2, .int (nI hp), .ref q3, .ref q4, .ref q5, .ref q6, .ref q7, .int msum, .int (bI hasA), .int mcards, .int mpair, .int (nI sh), .int want, .int mwin, .int (bI isCh), .int mbest, .ref k0, .ref k1, .ref k2, .ref k3])), (mf, .inl (cI, 11, .inl ff)), (mw, .inl (cI, 11, .inl fw)), (mk, .inl (cI, 11, .inl mm)), (k0, .inl (cJ, 549, .inr (.inl a))), (k1, .inl (cJ, 549, .inr (.inl b))), (k2, .inl (cJ, 549, .inr (.inl g1))), (k3, .inl (cJ, 549, .inr (.inl g2)))] sz) [(m0, .inr (6, [.ref ms, .ref mf, .ref mw, .ref mk, .int (bI mtold), .ref mh, .int (nI hn), .int (nI un), .int (nI tg), .int stan, .int soft, .int doub, .int spli, .int giv, .int bon, .long drw, .int mbank, .ref q0, .ref q1, .ref q2, .int (nI hp), .ref q3, .ref q4, .ref q5, .ref q6, .ref q7, .int msum, .int (bI hasA), .int mcards, .int mpair, .int (nI sh), .int want, .int mwin, .int (bI isCh), .int mbest, .ref k0, .ref k1, .ref k2, .ref k3])), (mf, .inl (cI, 11, .inl ff)), (mw, .inl (cI, 11, .inl fw)), (mk, .inl (cI, 11, .inl mm)), (k0, .inl (cJ, 549, .inr (.inl a2))), (k1, .inl (cJ, 549, .inr (.inl b2))), (k2, .inl (cJ, 549, .inr (.inl g12))), (k3, .inl (cJ, 549, .inr (.inl g22)))] t) (va_A [(m0, .inr (6, [.ref ms, .ref mf, .ref mw, .ref mk, .int (bI mtold), .ref mh, .int (nI hn), .int (nI un), .int (nI tg), .int stan, .int soft, .int doub, .int spli, .int giv, .int bon, .long drw, .int mbank, .ref q0, .ref q1, .ref q2, .int (nI hp), .ref q3, .ref q4, .ref q5, .ref q6, .ref q7, .int msum, .int (bI hasA), .int mcards, .int mpair, .int (nI sh), .int want, .int mwin, .int (bI isCh), .int mbest, .ref k0, .ref k1, .ref k2, .ref k3])), (mf, .inl (cI, 11, .inl ff)), (mw, .inl (cI, 11, .inl fw)), (mk, .inl (cI, 11, .inl mm)), (k0, .inl (cJ, 549, .inr (.inl a))), (k1, .inl (cJ, 549, .inr (.inl b))), (k2, .inl (cJ, 549, .inr (.inl g1))), (k3, .inl (cJ, 549, .inr (.inl g2)))] sz)) 0 0 (va_A [(m0, .inr (6, [.ref ms, .ref mf, .ref mw, .ref mk, .int (bI mtold), .ref mh, .int (nI hn), .int (nI un), .int (nI tg), .int stan, .int soft, .int doub, .int spli, .int giv, .int bon, .long drw, .int mbank, .ref q0, .ref q1, .ref q2, .int (nI hp), .ref q3, .ref q4, .ref q5, .ref q6, .ref q7, .int msum, .int (bI hasA), .int mcards, .int mpair, .int (nI sh), .int want, .int mwin, .int (bI isCh), .int mbest, .ref k0, .ref k1, .ref k2, .ref k3])), (mf, .inl (cI, 11, .inl ff)), (mw, .inl (cI, 11, .inl fw)), (mk, .inl (cI, 11, .inl mm)), (k0, .inl (cJ, 549, .inr (.inl a))), (k1, .inl (cJ, 549, .inr (.inl b))), (k2, .inl (cJ, 549, .inr (.inl g1))), (k3, .inl (cJ, 549, .inr (.inl g2)))] sz) := by
  refine Met.ofW (cc := cX6_known) (maxL := 6) (ret := (some .long)) (by decide) rfl ?_
  intro p e s m args below meth c s₁ B hml hv
  obtain ⟨rfl, hsz, hP, hK, hD0⟩ := hv
  have hx := B.exec
  have hb := B.bytes
  have hr := B.returns
  have hts := atoms_spec (ws := wsX6_known) B.pre
  have hown : s.vm.findClass RX6 = some m.cls := findClass_of_methodNamed B.named
  have hlocks := B.notSynchronized
  subst hsz
  have hD := hD0.self (sz := s.heap.size)
  generalize hAe : va_A [(m0, .inr (6, [.ref ms, .ref mf, .ref mw, .ref mk, .int (bI mtold), .ref mh, .int (nI hn), .int (nI un), .int (nI tg), .int stan, .int soft, .int doub, .int spli, .int giv, .int bon, .long drw, .int mbank, .ref q0, .ref q1, .ref q2, .int (nI hp), .ref q3, .ref q4, .ref q5, .ref q6, .ref q7, .int msum, .int (bI hasA), .int mcards, .int mpair, .int (nI sh), .int want, .int mwin, .int (bI isCh), .int mbest, .ref k0, .ref k1, .ref k2, .ref k3])), (mf, .inl (cI, 11, .inl ff)), (mw, .inl (cI, 11, .inl fw)), (mk, .inl (cI, 11, .inl mm)), (k0, .inl (cJ, 549, .inr (.inl a))), (k1, .inl (cJ, 549, .inr (.inl b))), (k2, .inl (cJ, 549, .inr (.inl g1))), (k3, .inl (cJ, 549, .inr (.inl g2)))] s.heap.size = A at hD ⊢
  have hA : ∀ q : Nat, s.heap.size ≤ q → A q := fun q h => by rw [← hAe]; exact Or.inr h
  have hS : va_S A s.heap s.heap [] := va_S.rf
  have hP : va_P D vwCl [(m0, .inr (6, [.ref ms, .ref mf, .ref mw, .ref mk, .int (bI mtold), .ref mh, .int (nI hn), .int (nI un), .int (nI tg), .int stan, .int soft, .int doub, .int spli, .int giv, .int bon, .long drw, .int mbank, .ref q0, .ref q1, .ref q2, .int (nI hp), .ref q3, .ref q4, .ref q5, .ref q6, .ref q7, .int msum, .int (bI hasA), .int mcards, .int mpair, .int (nI sh), .int want, .int mwin, .int (bI isCh), .int mbest, .ref k0, .ref k1, .ref k2, .ref k3])), (mf, .inl (cI, 11, .inl ff)), (mw, .inl (cI, 11, .inl fw)), (mk, .inl (cI, 11, .inl mm)), (k0, .inl (cJ, 549, .inr (.inl a))), (k1, .inl (cJ, 549, .inr (.inl b))), (k2, .inl (cJ, 549, .inr (.inl g1))), (k3, .inl (cJ, 549, .inr (.inl g2)))] s.heap := hP
  have hl := lv_entry ([.ref m0, .int p0, .int p1]) (n := 6) (Nat.le_of_ble_eq_true rfl)
  rw [lg_entry_eq]
  generalize (lg_sl ([.ref m0, .int p0, .int p1]) ++ List.replicate (6 - (lg_sl ([.ref m0, .int p0, .int p1])).length) Slot.unset).toArray = ls at hl ⊢
  have hl : lv_has ls 6 [(0, .ref m0), (1, .int p0), (2, .int p1)] := hl
  refine lv_iload_n hx hb dX6_known_0 rfl (lv_at hl 1 rfl) ?_
  refine lv_i2l (v := p0.toInt64) hx hb dX6_known_1 rfl ?_
  refine lv_lconst (v := 1) hx hb dX6_known_2 (by decide) ?_
  refine lv_ldc2 hx hb hown (hts _ wd_X6_known_2) dX6_known_3 ?_
  have hPc := hP.sub (ws' := []) [] rfl
  refine vp_callSi (W.runS (As := [.long p0.toInt64, .long 1, .long 10]) (rest := []) ⟨hx, hb, hml, hown, hts⟩ (c_X6_in l D cI cJ cQ p0.toInt64 1 10) (va_cwS 3 hts gX6_known_X6_in rfl rfl rfl (by decide +kernel) ⟨Nat.le_of_ble_eq_true rfl, Nat.le_of_ble_eq_true rfl⟩) (rP_preS hPc hK) rfl rfl hl.1 rfl (lv_room (Nat.le_of_ble_eq_true rfl)) dX6_known_6 ⟨Nat.le_of_ble_eq_true rfl, Nat.le_of_ble_eq_true rfl⟩) (fun r_1 hr_1 => ?_)
  subst hr_1
  refine lv_if_eq (tgt := 22) hx hb dX6_known_9 (by decide) (fun c9_2 => ?_) (fun c9_2 => ?_)
  · skip
    refine lv_ldc2 hx hb hown (hts _ wd_X6_known_3) dX6_known_22 ?_
    have hP9 := hP.sub (ws' := [(m0, .inr (6, [.ref ms, .ref mf, .ref mw, .ref mk, .int (bI mtold), .ref mh, .int (nI hn), .int (nI un), .int (nI tg), .int stan, .int soft, .int doub, .int spli, .int giv, .int bon, .long drw, .int mbank, .ref q0, .ref q1, .ref q2, .int (nI hp), .ref q3, .ref q4, .ref q5, .ref q6, .ref q7, .int msum, .int (bI hasA), .int mcards, .int mpair, .int (nI sh), .int want, .int mwin, .int (bI isCh), .int mbest, .ref k0, .ref k1, .ref k2, .ref k3])), (mf, .inl (cI, 11, .inl ff)), (mw, .inl (cI, 11, .inl fw)), (mk, .inl (cI, 11, .inl mm)), (k0, .inl (cJ, 549, .inr (.inl a))), (k1, .inl (cJ, 549, .inr (.inl b))), (k2, .inl (cJ, 549, .inr (.inl g1))), (k3, .inl (cJ, 549, .inr (.inl g2)))]) [0, 1, 2, 3, 4, 5, 6, 7] rfl
    have hD9 := hD.sub (ws' := [(m0, .inr (6, [.ref ms, .ref mf, .ref mw, .ref mk, .int (bI mtold), .ref mh, .int (nI hn), .int (nI un), .int (nI tg), .int stan, .int soft, .int doub, .int spli, .int giv, .int bon, .long drw, .int mbank, .ref q0, .ref q1, .ref q2, .int (nI hp), .ref q3, .ref q4, .ref q5, .ref q6, .ref q7, .int msum, .int (bI hasA), .int mcards, .int mpair, .int (nI sh), .int want, .int mwin, .int (bI isCh), .int mbest, .ref k0, .ref k1, .ref k2, .ref k3])), (mf, .inl (cI, 11, .inl ff)), (mw, .inl (cI, 11, .inl fw)), (mk, .inl (cI, 11, .inl mm)), (k0, .inl (cJ, 549, .inr (.inl a))), (k1, .inl (cJ, 549, .inr (.inl b))), (k2, .inl (cJ, 549, .inr (.inl g1))), (k3, .inl (cJ, 549, .inr (.inl g2)))]) [0, 1, 2, 3, 4, 5, 6, 7] (by decide) rfl
    exact W.lret (v := (-1001)) hx hb hr (fun t ht hW => ⟨⟨(-1001), ((a), (b), (g1), (g2)), rfl, trivial, by rw [ht]; exact hP9, va_K.moved hW.alike hK, hD9⟩, hS.F ht⟩) hS.2.2 dX6_known_25
  · skip
    refine lv_iload_n hx hb dX6_known_12 rfl (lv_at hl 2 rfl) ?_
    refine lv_i2l (v := p1.toInt64) hx hb dX6_known_13 rfl ?_
    refine lv_lconst (v := 0) hx hb dX6_known_14 (by decide) ?_
    refine lv_lconst (v := 1) hx hb dX6_known_15 (by decide) ?_
    have hPc := hP.sub (ws' := []) [] rfl
    refine vp_callSi (W.runS (As := [.long p1.toInt64, .long 0, .long 1]) (rest := []) ⟨hx, hb, hml, hown, hts⟩ (c_X6_in l D cI cJ cQ p1.toInt64 0 1) (va_cwS 3 hts gX6_known_X6_in rfl rfl rfl (by decide +kernel) ⟨Nat.le_of_ble_eq_true rfl, Nat.le_of_ble_eq_true rfl⟩) (rP_preS hPc hK) rfl rfl hl.1 rfl (lv_room (Nat.le_of_ble_eq_true rfl)) dX6_known_16 ⟨Nat.le_of_ble_eq_true rfl, Nat.le_of_ble_eq_true rfl⟩) (fun r_3 hr_3 => ?_)
    subst hr_3
    refine lv_if_ne (tgt := 26) hx hb dX6_known_19 (by decide) (fun c19_4 => ?_) (fun c19_4 => ?_)
    · skip
      refine lv_aload_n hx hb dX6_known_26 rfl (lv_at hl 0 rfl) ?_
      refine va_get (D := D) (ci := 6) (v := .int (bI mtold)) (C := RX6) (T := TX6) (N := 39) hx hb hts in_X6_known_X6 hown hK hP 0 rfl rfl 4 (by decide) (hts _ wd_X6_known_4) (fun _ h9 => h9) rfl dX6_known_27 ?_
      refine lv_if_eq (tgt := 37) hx hb dX6_known_30 (by decide) (fun c30_5 => ?_) (fun c30_5 => ?_)
      · skip
        have nc30_5 : mtold = false := (bI_0 _).mp c30_5
        refine lv_iconst (v := 0) hx hb dX6_known_37 (by decide) ?_
        refine lv_istore_n (lv' := [(3, .int 0), (0, .ref m0), (1, .int p0), (2, .int p1)]) hx hb dX6_known_38 rfl hl (by decide) rfl (fun ls hl => ?_)
        refine lv_iconst (v := 1) hx hb dX6_known_39 (by decide) ?_
        refine lv_istore (lv' := [(4, .int 1), (3, .int 0), (0, .ref m0), (1, .int p0), (2, .int p1)]) hx hb dX6_known_40 hl (by decide) rfl (fun ls hl => ?_)
        refine lv_iload hx hb dX6_known_42 (lv_at hl 0 rfl) ?_
        refine lv_bipush (v := 11) hx hb dX6_known_44 (by decide) ?_
        refine lv_icmp_ge (tgt := 65) hx hb dX6_known_46 (by decide) (fun c46_6 => ?_) (fun c46_6 => ?_)
        · exact absurd c46_6 (by decide)
        refine lv_iload_n hx hb dX6_known_49 rfl (lv_at hl 1 rfl) ?_
        refine lv_aload_n hx hb dX6_known_50 rfl (lv_at hl 2 rfl) ?_
        refine va_get (D := D) (ci := 6) (v := .ref mf) (C := RX6) (T := TX6) (N := 39) hx hb hts in_X6_known_X6 hown hK hP 0 rfl rfl 1 (by decide) (hts _ wd_X6_known_5) (fun _ h9 => h9) rfl dX6_known_51 ?_
        refine lv_iload hx hb dX6_known_54 (lv_at hl 0 rfl) ?_
        refine va_iald hx hb hK hP 1 0 rfl rfl (show ¬ ((1 : Int32) < 0 ∨ 11 ≤ (1 : Int32).toNatClampNeg) by decide) dX6_known_56 ?_
        refine lv_topi (fun z_7 ez_7 => ?_)
        obtain rfl : z_7 = (ff 1) := ez_7
        refine lv_iadd hx hb dX6_known_57 ?_
        refine lv_istore_n (lv' := [(3, .int (0 + (ff 1))), (4, .int 1), (0, .ref m0), (1, .int p0), (2, .int p1)]) hx hb dX6_known_58 rfl hl (by decide) rfl (fun ls hl => ?_)
        refine lv_iinc (v := 2) (lv' := [(4, .int 2), (3, .int (0 + (ff 1))), (0, .ref m0), (1, .int p0), (2, .int p1)]) hx hb dX6_known_59 hl (k := 1) rfl (by decide) (by decide) rfl (fun ls hl => ?_)
        refine lv_goto (tgt := 42) hx hb dX6_known_62 (by decide) ?_
        refine lv_iload hx hb dX6_known_42 (lv_at hl 0 rfl) ?_
        refine lv_bipush (v := 11) hx hb dX6_known_44 (by decide) ?_
        refine lv_icmp_ge (tgt := 65) hx hb dX6_known_46 (by decide) (fun c46_8 => ?_) (fun c46_8 => ?_)
        · exact absurd c46_8 (by decide)
        refine lv_iload_n hx hb dX6_known_49 rfl (lv_at hl 1 rfl) ?_
        refine lv_aload_n hx hb dX6_known_50 rfl (lv_at hl 2 rfl) ?_
        refine va_get (D := D) (ci := 6) (v := .ref mf) (C := RX6) (T := TX6) (N := 39) hx hb hts in_X6_known_X6 hown hK hP 0 rfl rfl 1 (by decide) (hts _ wd_X6_known_5) (fun _ h9 => h9) rfl dX6_known_51 ?_
        refine lv_iload hx hb dX6_known_54 (lv_at hl 0 rfl) ?_
        refine va_iald hx hb hK hP 1 0 rfl rfl (show ¬ ((2 : Int32) < 0 ∨ 11 ≤ (2 : Int32).toNatClampNeg) by decide) dX6_known_56 ?_
        refine lv_topi (fun z_9 ez_9 => ?_)
        obtain rfl : z_9 = (ff 2) := ez_9
        refine lv_iadd hx hb dX6_known_57 ?_
        refine lv_istore_n (lv' := [(3, .int ((0 + (ff 1)) + (ff 2))), (4, .int 2), (0, .ref m0), (1, .int p0), (2, .int p1)]) hx hb dX6_known_58 rfl hl (by decide) rfl (fun ls hl => ?_)
        refine lv_iinc (v := 3) (lv' := [(4, .int 3), (3, .int ((0 + (ff 1)) + (ff 2))), (0, .ref m0), (1, .int p0), (2, .int p1)]) hx hb dX6_known_59 hl (k := 1) rfl (by decide) (by decide) rfl (fun ls hl => ?_)
        refine lv_goto (tgt := 42) hx hb dX6_known_62 (by decide) ?_
        refine lv_iload hx hb dX6_known_42 (lv_at hl 0 rfl) ?_
        refine lv_bipush (v := 11) hx hb dX6_known_44 (by decide) ?_
        refine lv_icmp_ge (tgt := 65) hx hb dX6_known_46 (by decide) (fun c46_10 => ?_) (fun c46_10 => ?_)
        · exact absurd c46_10 (by decide)
        refine lv_iload_n hx hb dX6_known_49 rfl (lv_at hl 1 rfl) ?_
        refine lv_aload_n hx hb dX6_known_50 rfl (lv_at hl 2 rfl) ?_
        refine va_get (D := D) (ci := 6) (v := .ref mf) (C := RX6) (T := TX6) (N := 39) hx hb hts in_X6_known_X6 hown hK hP 0 rfl rfl 1 (by decide) (hts _ wd_X6_known_5) (fun _ h9 => h9) rfl dX6_known_51 ?_
        refine lv_iload hx hb dX6_known_54 (lv_at hl 0 rfl) ?_
        refine va_iald hx hb hK hP 1 0 rfl rfl (show ¬ ((3 : Int32) < 0 ∨ 11 ≤ (3 : Int32).toNatClampNeg) by decide) dX6_known_56 ?_
        refine lv_topi (fun z_11 ez_11 => ?_)
        obtain rfl : z_11 = (ff 3) := ez_11
        refine lv_iadd hx hb dX6_known_57 ?_
        refine lv_istore_n (lv' := [(3, .int (((0 + (ff 1)) + (ff 2)) + (ff 3))), (4, .int 3), (0, .ref m0), (1, .int p0), (2, .int p1)]) hx hb dX6_known_58 rfl hl (by decide) rfl (fun ls hl => ?_)
        refine lv_iinc (v := 4) (lv' := [(4, .int 4), (3, .int (((0 + (ff 1)) + (ff 2)) + (ff 3))), (0, .ref m0), (1, .int p0), (2, .int p1)]) hx hb dX6_known_59 hl (k := 1) rfl (by decide) (by decide) rfl (fun ls hl => ?_)
        refine lv_goto (tgt := 42) hx hb dX6_known_62 (by decide) ?_
        refine lv_iload hx hb dX6_known_42 (lv_at hl 0 rfl) ?_
        refine lv_bipush (v := 11) hx hb dX6_known_44 (by decide) ?_
        refine lv_icmp_ge (tgt := 65) hx hb dX6_known_46 (by decide) (fun c46_12 => ?_) (fun c46_12 => ?_)
        · exact absurd c46_12 (by decide)
        refine lv_iload_n hx hb dX6_known_49 rfl (lv_at hl 1 rfl) ?_
        refine lv_aload_n hx hb dX6_known_50 rfl (lv_at hl 2 rfl) ?_
        refine va_get (D := D) (ci := 6) (v := .ref mf) (C := RX6) (T := TX6) (N := 39) hx hb hts in_X6_known_X6 hown hK hP 0 rfl rfl 1 (by decide) (hts _ wd_X6_known_5) (fun _ h9 => h9) rfl dX6_known_51 ?_
        refine lv_iload hx hb dX6_known_54 (lv_at hl 0 rfl) ?_
        refine va_iald hx hb hK hP 1 0 rfl rfl (show ¬ ((4 : Int32) < 0 ∨ 11 ≤ (4 : Int32).toNatClampNeg) by decide) dX6_known_56 ?_
        refine lv_topi (fun z_13 ez_13 => ?_)
        obtain rfl : z_13 = (ff 4) := ez_13
        refine lv_iadd hx hb dX6_known_57 ?_
        refine lv_istore_n (lv' := [(3, .int ((((0 + (ff 1)) + (ff 2)) + (ff 3)) + (ff 4))), (4, .int 4), (0, .ref m0), (1, .int p0), (2, .int p1)]) hx hb dX6_known_58 rfl hl (by decide) rfl (fun ls hl => ?_)
        refine lv_iinc (v := 5) (lv' := [(4, .int 5), (3, .int ((((0 + (ff 1)) + (ff 2)) + (ff 3)) + (ff 4))), (0, .ref m0), (1, .int p0), (2, .int p1)]) hx hb dX6_known_59 hl (k := 1) rfl (by decide) (by decide) rfl (fun ls hl => ?_)
        refine lv_goto (tgt := 42) hx hb dX6_known_62 (by decide) ?_
        refine lv_iload hx hb dX6_known_42 (lv_at hl 0 rfl) ?_
        refine lv_bipush (v := 11) hx hb dX6_known_44 (by decide) ?_
        refine lv_icmp_ge (tgt := 65) hx hb dX6_known_46 (by decide) (fun c46_14 => ?_) (fun c46_14 => ?_)
        · exact absurd c46_14 (by decide)
        refine lv_iload_n hx hb dX6_known_49 rfl (lv_at hl 1 rfl) ?_
        refine lv_aload_n hx hb dX6_known_50 rfl (lv_at hl 2 rfl) ?_
        refine va_get (D := D) (ci := 6) (v := .ref mf) (C := RX6) (T := TX6) (N := 39) hx hb hts in_X6_known_X6 hown hK hP 0 rfl rfl 1 (by decide) (hts _ wd_X6_known_5) (fun _ h9 => h9) rfl dX6_known_51 ?_
        refine lv_iload hx hb dX6_known_54 (lv_at hl 0 rfl) ?_
        refine va_iald hx hb hK hP 1 0 rfl rfl (show ¬ ((5 : Int32) < 0 ∨ 11 ≤ (5 : Int32).toNatClampNeg) by decide) dX6_known_56 ?_
        refine lv_topi (fun z_15 ez_15 => ?_)
        obtain rfl : z_15 = (ff 5) := ez_15
        refine lv_iadd hx hb dX6_known_57 ?_
        refine lv_istore_n (lv' := [(3, .int (((((0 + (ff 1)) + (ff 2)) + (ff 3)) + (ff 4)) + (ff 5))), (4, .int 5), (0, .ref m0), (1, .int p0), (2, .int p1)]) hx hb dX6_known_58 rfl hl (by decide) rfl (fun ls hl => ?_)
        refine lv_iinc (v := 6) (lv' := [(4, .int 6), (3, .int (((((0 + (ff 1)) + (ff 2)) + (ff 3)) + (ff 4)) + (ff 5))), (0, .ref m0), (1, .int p0), (2, .int p1)]) hx hb dX6_known_59 hl (k := 1) rfl (by decide) (by decide) rfl (fun ls hl => ?_)
        refine lv_goto (tgt := 42) hx hb dX6_known_62 (by decide) ?_
        refine lv_iload hx hb dX6_known_42 (lv_at hl 0 rfl) ?_
        refine lv_bipush (v := 11) hx hb dX6_known_44 (by decide) ?_
        refine lv_icmp_ge (tgt := 65) hx hb dX6_known_46 (by decide) (fun c46_16 => ?_) (fun c46_16 => ?_)
        · exact absurd c46_16 (by decide)
        refine lv_iload_n hx hb dX6_known_49 rfl (lv_at hl 1 rfl) ?_
        refine lv_aload_n hx hb dX6_known_50 rfl (lv_at hl 2 rfl) ?_
        refine va_get (D := D) (ci := 6) (v := .ref mf) (C := RX6) (T := TX6) (N := 39) hx hb hts in_X6_known_X6 hown hK hP 0 rfl rfl 1 (by decide) (hts _ wd_X6_known_5) (fun _ h9 => h9) rfl dX6_known_51 ?_
        refine lv_iload hx hb dX6_known_54 (lv_at hl 0 rfl) ?_
        refine va_iald hx hb hK hP 1 0 rfl rfl (show ¬ ((6 : Int32) < 0 ∨ 11 ≤ (6 : Int32).toNatClampNeg) by decide) dX6_known_56 ?_
        refine lv_topi (fun z_17 ez_17 => ?_)
        obtain rfl : z_17 = (ff 6) := ez_17
        refine lv_iadd hx hb dX6_known_57 ?_
        refine lv_istore_n (lv' := [(3, .int ((((((0 + (ff 1)) + (ff 2)) + (ff 3)) + (ff 4)) + (ff 5)) + (ff 6))), (4, .int 6), (0, .ref m0), (1, .int p0), (2, .int p1)]) hx hb dX6_known_58 rfl hl (by decide) rfl (fun ls hl => ?_)
        refine lv_iinc (v := 7) (lv' := [(4, .int 7), (3, .int ((((((0 + (ff 1)) + (ff 2)) + (ff 3)) + (ff 4)) + (ff 5)) + (ff 6))), (0, .ref m0), (1, .int p0), (2, .int p1)]) hx hb dX6_known_59 hl (k := 1) rfl (by decide) (by decide) rfl (fun ls hl => ?_)
        refine lv_goto (tgt := 42) hx hb dX6_known_62 (by decide) ?_
        refine lv_iload hx hb dX6_known_42 (lv_at hl 0 rfl) ?_
        refine lv_bipush (v := 11) hx hb dX6_known_44 (by decide) ?_
        refine lv_icmp_ge (tgt := 65) hx hb dX6_known_46 (by decide) (fun c46_18 => ?_) (fun c46_18 => ?_)
        · exact absurd c46_18 (by decide)
        refine lv_iload_n hx hb dX6_known_49 rfl (lv_at hl 1 rfl) ?_
        refine lv_aload_n hx hb dX6_known_50 rfl (lv_at hl 2 rfl) ?_
        refine va_get (D := D) (ci := 6) (v := .ref mf) (C := RX6) (T := TX6) (N := 39) hx hb hts in_X6_known_X6 hown hK hP 0 rfl rfl 1 (by decide) (hts _ wd_X6_known_5) (fun _ h9 => h9) rfl dX6_known_51 ?_
        refine lv_iload hx hb dX6_known_54 (lv_at hl 0 rfl) ?_
        refine va_iald hx hb hK hP 1 0 rfl rfl (show ¬ ((7 : Int32) < 0 ∨ 11 ≤ (7 : Int32).toNatClampNeg) by decide) dX6_known_56 ?_
        refine lv_topi (fun z_19 ez_19 => ?_)
        obtain rfl : z_19 = (ff 7) := ez_19
        refine lv_iadd hx hb dX6_known_57 ?_
        refine lv_istore_n (lv' := [(3, .int (((((((0 + (ff 1)) + (ff 2)) + (ff 3)) + (ff 4)) + (ff 5)) + (ff 6)) + (ff 7))), (4, .int 7), (0, .ref m0), (1, .int p0), (2, .int p1)]) hx hb dX6_known_58 rfl hl (by decide) rfl (fun ls hl => ?_)
        refine lv_iinc (v := 8) (lv' := [(4, .int 8), (3, .int (((((((0 + (ff 1)) + (ff 2)) + (ff 3)) + (ff 4)) + (ff 5)) + (ff 6)) + (ff 7))), (0, .ref m0), (1, .int p0), (2, .int p1)]) hx hb dX6_known_59 hl (k := 1) rfl (by decide) (by decide) rfl (fun ls hl => ?_)
        refine lv_goto (tgt := 42) hx hb dX6_known_62 (by decide) ?_
        refine lv_iload hx hb dX6_known_42 (lv_at hl 0 rfl) ?_
        refine lv_bipush (v := 11) hx hb dX6_known_44 (by decide) ?_
        refine lv_icmp_ge (tgt := 65) hx hb dX6_known_46 (by decide) (fun c46_20 => ?_) (fun c46_20 => ?_)
        · exact absurd c46_20 (by decide)
        refine lv_iload_n hx hb dX6_known_49 rfl (lv_at hl 1 rfl) ?_
        refine lv_aload_n hx hb dX6_known_50 rfl (lv_at hl 2 rfl) ?_
        refine va_get (D := D) (ci := 6) (v := .ref mf) (C := RX6) (T := TX6) (N := 39) hx hb hts in_X6_known_X6 hown hK hP 0 rfl rfl 1 (by decide) (hts _ wd_X6_known_5) (fun _ h9 => h9) rfl dX6_known_51 ?_
        refine lv_iload hx hb dX6_known_54 (lv_at hl 0 rfl) ?_
        refine va_iald hx hb hK hP 1 0 rfl rfl (show ¬ ((8 : Int32) < 0 ∨ 11 ≤ (8 : Int32).toNatClampNeg) by decide) dX6_known_56 ?_
        refine lv_topi (fun z_21 ez_21 => ?_)
        obtain rfl : z_21 = (ff 8) := ez_21
        refine lv_iadd hx hb dX6_known_57 ?_
        refine lv_istore_n (lv' := [(3, .int ((((((((0 + (ff 1)) + (ff 2)) + (ff 3)) + (ff 4)) + (ff 5)) + (ff 6)) + (ff 7)) + (ff 8))), (4, .int 8), (0, .ref m0), (1, .int p0), (2, .int p1)]) hx hb dX6_known_58 rfl hl (by decide) rfl (fun ls hl => ?_)
        refine lv_iinc (v := 9) (lv' := [(4, .int 9), (3, .int ((((((((0 + (ff 1)) + (ff 2)) + (ff 3)) + (ff 4)) + (ff 5)) + (ff 6)) + (ff 7)) + (ff 8))), (0, .ref m0), (1, .int p0), (2, .int p1)]) hx hb dX6_known_59 hl (k := 1) rfl (by decide) (by decide) rfl (fun ls hl => ?_)
        refine lv_goto (tgt := 42) hx hb dX6_known_62 (by decide) ?_
        refine lv_iload hx hb dX6_known_42 (lv_at hl 0 rfl) ?_
        refine lv_bipush (v := 11) hx hb dX6_known_44 (by decide) ?_
        refine lv_icmp_ge (tgt := 65) hx hb dX6_known_46 (by decide) (fun c46_22 => ?_) (fun c46_22 => ?_)
        · exact absurd c46_22 (by decide)
        refine lv_iload_n hx hb dX6_known_49 rfl (lv_at hl 1 rfl) ?_
        refine lv_aload_n hx hb dX6_known_50 rfl (lv_at hl 2 rfl) ?_
        refine va_get (D := D) (ci := 6) (v := .ref mf) (C := RX6) (T := TX6) (N := 39) hx hb hts in_X6_known_X6 hown hK hP 0 rfl rfl 1 (by decide) (hts _ wd_X6_known_5) (fun _ h9 => h9) rfl dX6_known_51 ?_
        refine lv_iload hx hb dX6_known_54 (lv_at hl 0 rfl) ?_
        refine va_iald hx hb hK hP 1 0 rfl rfl (show ¬ ((9 : Int32) < 0 ∨ 11 ≤ (9 : Int32).toNatClampNeg) by decide) dX6_known_56 ?_
        refine lv_topi (fun z_23 ez_23 => ?_)
        obtain rfl : z_23 = (ff 9) := ez_23
        refine lv_iadd hx hb dX6_known_57 ?_
        refine lv_istore_n (lv' := [(3, .int (((((((((0 + (ff 1)) + (ff 2)) + (ff 3)) + (ff 4)) + (ff 5)) + (ff 6)) + (ff 7)) + (ff 8)) + (ff 9))), (4, .int 9), (0, .ref m0), (1, .int p0), (2, .int p1)]) hx hb dX6_known_58 rfl hl (by decide) rfl (fun ls hl => ?_)
        refine lv_iinc (v := 10) (lv' := [(4, .int 10), (3, .int (((((((((0 + (ff 1)) + (ff 2)) + (ff 3)) + (ff 4)) + (ff 5)) + (ff 6)) + (ff 7)) + (ff 8)) + (ff 9))), (0, .ref m0), (1, .int p0), (2, .int p1)]) hx hb dX6_known_59 hl (k := 1) rfl (by decide) (by decide) rfl (fun ls hl => ?_)
        refine lv_goto (tgt := 42) hx hb dX6_known_62 (by decide) ?_
        refine lv_iload hx hb dX6_known_42 (lv_at hl 0 rfl) ?_
        refine lv_bipush (v := 11) hx hb dX6_known_44 (by decide) ?_
        refine lv_icmp_ge (tgt := 65) hx hb dX6_known_46 (by decide) (fun c46_24 => ?_) (fun c46_24 => ?_)
        · exact absurd c46_24 (by decide)
        refine lv_iload_n hx hb dX6_known_49 rfl (lv_at hl 1 rfl) ?_
        refine lv_aload_n hx hb dX6_known_50 rfl (lv_at hl 2 rfl) ?_
        refine va_get (D := D) (ci := 6) (v := .ref mf) (C := RX6) (T := TX6) (N := 39) hx hb hts in_X6_known_X6 hown hK hP 0 rfl rfl 1 (by decide) (hts _ wd_X6_known_5) (fun _ h9 => h9) rfl dX6_known_51 ?_
        refine lv_iload hx hb dX6_known_54 (lv_at hl 0 rfl) ?_
        refine va_iald hx hb hK hP 1 0 rfl rfl (show ¬ ((10 : Int32) < 0 ∨ 11 ≤ (10 : Int32).toNatClampNeg) by decide) dX6_known_56 ?_
        refine lv_topi (fun z_25 ez_25 => ?_)
        obtain rfl : z_25 = (ff 10) := ez_25
        refine lv_iadd hx hb dX6_known_57 ?_
        refine lv_istore_n (lv' := [(3, .int ((((((((((0 + (ff 1)) + (ff 2)) + (ff 3)) + (ff 4)) + (ff 5)) + (ff 6)) + (ff 7)) + (ff 8)) + (ff 9)) + (ff 10))), (4, .int 10), (0, .ref m0), (1, .int p0), (2, .int p1)]) hx hb dX6_known_58 rfl hl (by decide) rfl (fun ls hl => ?_)
        refine lv_iinc (v := 11) (lv' := [(4, .int 11), (3, .int ((((((((((0 + (ff 1)) + (ff 2)) + (ff 3)) + (ff 4)) + (ff 5)) + (ff 6)) + (ff 7)) + (ff 8)) + (ff 9)) + (ff 10))), (0, .ref m0), (1, .int p0), (2, .int p1)]) hx hb dX6_known_59 hl (k := 1) rfl (by decide) (by decide) rfl (fun ls hl => ?_)
        refine lv_goto (tgt := 42) hx hb dX6_known_62 (by decide) ?_
        refine lv_iload hx hb dX6_known_42 (lv_at hl 0 rfl) ?_
        refine lv_bipush (v := 11) hx hb dX6_known_44 (by decide) ?_
        refine lv_icmp_ge (tgt := 65) hx hb dX6_known_46 (by decide) (fun c46_26 => ?_) (fun c46_26 => ?_)
        · skip
          refine lv_aload_n hx hb dX6_known_65 rfl (lv_at hl 2 rfl) ?_
          have hPc := hP.sub (ws' := [(m0, .inr (6, [.ref ms, .ref mf, .ref mw, .ref mk, .int (bI mtold), .ref mh, .int (nI hn), .int (nI un), .int (nI tg), .int stan, .int soft, .int doub, .int spli, .int giv, .int bon, .long drw, .int mbank, .ref q0, .ref q1, .ref q2, .int (nI hp), .ref q3, .ref q4, .ref q5, .ref q6, .ref q7, .int msum, .int (bI hasA), .int mcards, .int mpair, .int (nI sh), .int want, .int mwin, .int (bI isCh), .int mbest, .ref k0, .ref k1, .ref k2, .ref k3])), (mw, .inl (cI, 11, .inl fw))]) [0, 2] rfl
          refine vp_callSi (W.runV (As := []) (rest := []) ⟨hx, hb, hml, hown, hts⟩ (c_X6_gone l D cI cJ cQ m0 ms mf mw mk mtold mh (nI hn) (nI un) (nI tg) stan soft doub spli giv bon drw mbank q0 q1 q2 (nI hp) q3 q4 q5 q6 q7 msum hasA mcards mpair (nI sh) want mwin isCh mbest k0 k1 k2 k3 (fw)) (cwV 0 hts gX6_known_X6_gone rfl rfl rfl (by decide +kernel) ⟨Nat.le_of_ble_eq_true rfl, Nat.le_of_ble_eq_true rfl⟩) (rP_preV (ci := 6) (q0 := 0) hPc hK rfl rfl) rfl rfl hl.1 rfl (lv_room (Nat.le_of_ble_eq_true rfl)) dX6_known_66 ⟨Nat.le_of_ble_eq_true rfl, Nat.le_of_ble_eq_true rfl⟩) (fun r_27 hr_27 => ?_)
          subst hr_27
          have hcg2 : cntI fw cg := fun j x y => ⟨((hcg0 nc30_5) j x y).1, Nat.le_trans ((hcg0 nc30_5) j x y).2 (hcf j x y).2⟩
          have hle2 := smN_le hcg2
          refine lv_topi (fun z_28 ez_28 => ?_)
          obtain rfl : z_28 = nI (smN cg) := ez_28.trans (sm10_N hcg2)
          refine lv_istore (lv' := [(4, .int (nI (smN cg))), (3, .int ((((((((((0 + (ff 1)) + (ff 2)) + (ff 3)) + (ff 4)) + (ff 5)) + (ff 6)) + (ff 7)) + (ff 8)) + (ff 9)) + (ff 10))), (0, .ref m0), (1, .int p0), (2, .int p1)]) hx hb dX6_known_69 hl (by decide) rfl (fun ls hl => ?_)
          have hl : lv_has ls 6 [(4, .int (nI (smN cg))), (3, .int (sm10 ff)), (0, .ref m0), (1, .int p0), (2, .int p1)] := hl
          refine lv_iload_n hx hb dX6_known_71 rfl (lv_at hl 1 rfl) ?_
          refine lv_bipush (v := 60) hx hb dX6_known_72 (by decide) ?_
          refine lv_icmp_gt (tgt := 84) hx hb dX6_known_74 (by decide) (fun c74_29 => ?_) (fun c74_29 => ?_)
          · skip
            refine lv_ldc2 hx hb hown (hts _ wd_X6_known_6) dX6_known_84 ?_
            have hP9 := hP.sub (ws' := [(m0, .inr (6, [.ref ms, .ref mf, .ref mw, .ref mk, .int (bI mtold), .ref mh, .int (nI hn), .int (nI un), .int (nI tg), .int stan, .int soft, .int doub, .int spli, .int giv, .int bon, .long drw, .int mbank, .ref q0, .ref q1, .ref q2, .int (nI hp), .ref q3, .ref q4, .ref q5, .ref q6, .ref q7, .int msum, .int (bI hasA), .int mcards, .int mpair, .int (nI sh), .int want, .int mwin, .int (bI isCh), .int mbest, .ref k0, .ref k1, .ref k2, .ref k3])), (mf, .inl (cI, 11, .inl ff)), (mw, .inl (cI, 11, .inl fw)), (mk, .inl (cI, 11, .inl mm)), (k0, .inl (cJ, 549, .inr (.inl a))), (k1, .inl (cJ, 549, .inr (.inl b))), (k2, .inl (cJ, 549, .inr (.inl g1))), (k3, .inl (cJ, 549, .inr (.inl g2)))]) [0, 1, 2, 3, 4, 5, 6, 7] rfl
            have hD9 := hD.sub (ws' := [(m0, .inr (6, [.ref ms, .ref mf, .ref mw, .ref mk, .int (bI mtold), .ref mh, .int (nI hn), .int (nI un), .int (nI tg), .int stan, .int soft, .int doub, .int spli, .int giv, .int bon, .long drw, .int mbank, .ref q0, .ref q1, .ref q2, .int (nI hp), .ref q3, .ref q4, .ref q5, .ref q6, .ref q7, .int msum, .int (bI hasA), .int mcards, .int mpair, .int (nI sh), .int want, .int mwin, .int (bI isCh), .int mbest, .ref k0, .ref k1, .ref k2, .ref k3])), (mf, .inl (cI, 11, .inl ff)), (mw, .inl (cI, 11, .inl fw)), (mk, .inl (cI, 11, .inl mm)), (k0, .inl (cJ, 549, .inr (.inl a))), (k1, .inl (cJ, 549, .inr (.inl b))), (k2, .inl (cJ, 549, .inr (.inl g1))), (k3, .inl (cJ, 549, .inr (.inl g2)))]) [0, 1, 2, 3, 4, 5, 6, 7] (by decide) rfl
            exact W.lret (v := (-1004)) hx hb hr (fun t ht hW => ⟨⟨(-1004), ((a), (b), (g1), (g2)), rfl, trivial, by rw [ht]; exact hP9, va_K.moved hW.alike hK, hD9⟩, hS.F ht⟩) hS.2.2 dX6_known_87
          · skip
            refine lv_iload hx hb dX6_known_77 (lv_at hl 0 rfl) ?_
            refine lv_bipush (v := 8) hx hb dX6_known_79 (by decide) ?_
            refine lv_icmp_le (tgt := 88) hx hb dX6_known_81 (by decide) (fun c81_30 => ?_) (fun c81_30 => ?_)
            · skip
              have nc81_30 : (smN cg) ≤ 8 := (nI_leI (a := (smN cg)) (b := 8) (by omega) (by omega)).mp c81_30
              have h60 := sm60i hcf c74_29
              obtain ⟨k, kk1, kk2, rfl⟩ := ptB2 c9_2
              have hl : lv_has ls 6 [(4, .int (nI (smN cg))), (3, .int (sm10 ff)), (0, .ref m0), (1, .int (nI k)), (2, .int p1)] := hl
              have hcg := hcg0 nc30_5
              refine lv_iconst (v := 0) hx hb dX6_known_88 (by decide) ?_
              refine lv_istore (lv' := [(5, .int 0), (4, .int (nI (smN cg))), (3, .int (sm10 ff)), (0, .ref m0), (1, .int (nI k)), (2, .int p1)]) hx hb dX6_known_89 hl (by decide) rfl (fun ls hl => ?_)
              refine lpK1 hx hb hml hown hts hK hA m0 ms mf mw mk mtold mh hn un tg stan soft doub spli giv bon drw mbank q0 q1 q2 hp q3 q4 q5 q6 q7 msum hasA mcards mpair sh want mwin isCh mbest k0 k1 k2 k3 ff fw mm g1 g2 k p1 cg (Nat.le_of_ble_eq_true rfl) (Nat.le_of_ble_eq_true rfl) (Nat.zero_le _) (Nat.zero_le _)  (549 - 0 + 1) 0 a b _ _ _ (Nat.lt_succ_self _) (by omega) (fun j a => absurd a (by omega)) hP hD hS (lv_sub hl [0, 1, 2, 5, 4, 3] rfl) (fun a_31 b_32 H locs ls hv1_33 hP hD hS hl => ?_)
              have hP : va_P D vwCl [(m0, .inr (6, [.ref ms, .ref mf, .ref mw, .ref mk, .int (bI mtold), .ref mh, .int (nI hn), .int (nI un), .int (nI tg), .int stan, .int soft, .int doub, .int spli, .int giv, .int bon, .long drw, .int mbank, .ref q0, .ref q1, .ref q2, .int (nI hp), .ref q3, .ref q4, .ref q5, .ref q6, .ref q7, .int msum, .int (bI hasA), .int mcards, .int mpair, .int (nI sh), .int want, .int mwin, .int (bI isCh), .int mbest, .ref k0, .ref k1, .ref k2, .ref k3])), (mf, .inl (cI, 11, .inl ff)), (mw, .inl (cI, 11, .inl fw)), (mk, .inl (cI, 11, .inl mm)), (k0, .inl (cJ, 549, .inr (.inl a_31))), (k1, .inl (cJ, 549, .inr (.inl b_32))), (k2, .inl (cJ, 549, .inr (.inl g1))), (k3, .inl (cJ, 549, .inr (.inl g2)))] H := hP
              have hD : va_D A [(m0, .inr (6, [.ref ms, .ref mf, .ref mw, .ref mk, .int (bI mtold), .ref mh, .int (nI hn), .int (nI un), .int (nI tg), .int stan, .int soft, .int doub, .int spli, .int giv, .int bon, .long drw, .int mbank, .ref q0, .ref q1, .ref q2, .int (nI hp), .ref q3, .ref q4, .ref q5, .ref q6, .ref q7, .int msum, .int (bI hasA), .int mcards, .int mpair, .int (nI sh), .int want, .int mwin, .int (bI isCh), .int mbest, .ref k0, .ref k1, .ref k2, .ref k3])), (mf, .inl (cI, 11, .inl ff)), (mw, .inl (cI, 11, .inl fw)), (mk, .inl (cI, 11, .inl mm)), (k0, .inl (cJ, 549, .inr (.inl a_31))), (k1, .inl (cJ, 549, .inr (.inl b_32))), (k2, .inl (cJ, 549, .inr (.inl g1))), (k3, .inl (cJ, 549, .inr (.inl g2)))] := hD
              refine lv_aload_n hx hb dX6_known_121 rfl (lv_at hl 4 rfl) ?_
              refine va_get (D := D) (ci := 6) (v := .ref k0) (C := RX6) (T := TX6) (N := 39) hx hb hts in_X6_known_X6 hown hK hP 0 rfl rfl 35 (by decide) (hts _ wd_X6_known_0) (fun _ h9 => h9) rfl dX6_known_122 ?_
              refine lv_bipush (v := 30) hx hb dX6_known_125 (by decide) ?_
              refine lv_lconst (v := 1) hx hb dX6_known_127 (by decide) ?_
              refine va_last hx hb hK hP hD hS 4 1 rfl rfl (show ¬ ((30 : Int32) < 0 ∨ 549 ≤ (30 : Int32).toNatClampNeg) by decide) dX6_known_128 (fun H locs hP hD hS => ?_)
              have hP : va_P D vwCl [(m0, .inr (6, [.ref ms, .ref mf, .ref mw, .ref mk, .int (bI mtold), .ref mh, .int (nI hn), .int (nI un), .int (nI tg), .int stan, .int soft, .int doub, .int spli, .int giv, .int bon, .long drw, .int mbank, .ref q0, .ref q1, .ref q2, .int (nI hp), .ref q3, .ref q4, .ref q5, .ref q6, .ref q7, .int msum, .int (bI hasA), .int mcards, .int mpair, .int (nI sh), .int want, .int mwin, .int (bI isCh), .int mbest, .ref k0, .ref k1, .ref k2, .ref k3])), (mf, .inl (cI, 11, .inl ff)), (mw, .inl (cI, 11, .inl fw)), (mk, .inl (cI, 11, .inl mm)), (k0, .inl (cJ, 549, .inr (.inl (vp_updL a_31 (30 : Int32).toNatClampNeg 1)))), (k1, .inl (cJ, 549, .inr (.inl b_32))), (k2, .inl (cJ, 549, .inr (.inl g1))), (k3, .inl (cJ, 549, .inr (.inl g2)))] H := hP
              have hD : va_D A [(m0, .inr (6, [.ref ms, .ref mf, .ref mw, .ref mk, .int (bI mtold), .ref mh, .int (nI hn), .int (nI un), .int (nI tg), .int stan, .int soft, .int doub, .int spli, .int giv, .int bon, .long drw, .int mbank, .ref q0, .ref q1, .ref q2, .int (nI hp), .ref q3, .ref q4, .ref q5, .ref q6, .ref q7, .int msum, .int (bI hasA), .int mcards, .int mpair, .int (nI sh), .int want, .int mwin, .int (bI isCh), .int mbest, .ref k0, .ref k1, .ref k2, .ref k3])), (mf, .inl (cI, 11, .inl ff)), (mw, .inl (cI, 11, .inl fw)), (mk, .inl (cI, 11, .inl mm)), (k0, .inl (cJ, 549, .inr (.inl (vp_updL a_31 (30 : Int32).toNatClampNeg 1)))), (k1, .inl (cJ, 549, .inr (.inl b_32))), (k2, .inl (cJ, 549, .inr (.inl g1))), (k3, .inl (cJ, 549, .inr (.inl g2)))] := hD
              refine lv_iconst (v := 1) hx hb dX6_known_129 (by decide) ?_
              refine lv_istore (lv' := [(5, .int 1), (4, .int (nI (smN cg))), (3, .int (sm10 ff)), (2, .int p1), (1, .int (nI k)), (0, .ref m0)]) hx hb dX6_known_130 hl (by decide) rfl (fun ls hl => ?_)
              refine lpK2 hx hb hml hown hts hK hA m0 ms mf mw mk mtold mh hn un tg stan soft doub spli giv bon drw mbank q0 q1 q2 hp q3 q4 q5 q6 q7 msum hasA mcards mpair sh want mwin isCh mbest k0 k1 k2 k3 ff fw mm k p1 cf cg (Nat.le_of_ble_eq_true rfl) (Nat.le_of_ble_eq_true rfl) (Nat.zero_le _) (Nat.zero_le _) hcf hmk hcg h60 (by omega) (11 - 1 + 1) 1 (vp_updL a_31 (30 : Int32).toNatClampNeg 1) b_32 g1 g2 (updN (fun _ => 0) 30 1) 30 _ _ _ (Nat.lt_succ_self _) (by omega) (by omega) (wok0 hv1_33) (wok1 _) rfl (show 0 < updN (fun _ => 0) 30 1 (61 * 0 + 30) by decide) hP hD hS (lv_sub hl [0, 1, 2, 3, 4, 5] rfl) (fun a_34 b_35 g1_36 g2_37 wv_38 tt_39 H locs ls hwa_40 hW_41 htt_42 hpw_43 hP hD hS hl => ?_)
              have hP : va_P D vwCl [(m0, .inr (6, [.ref ms, .ref mf, .ref mw, .ref mk, .int (bI mtold), .ref mh, .int (nI hn), .int (nI un), .int (nI tg), .int stan, .int soft, .int doub, .int spli, .int giv, .int bon, .long drw, .int mbank, .ref q0, .ref q1, .ref q2, .int (nI hp), .ref q3, .ref q4, .ref q5, .ref q6, .ref q7, .int msum, .int (bI hasA), .int mcards, .int mpair, .int (nI sh), .int want, .int mwin, .int (bI isCh), .int mbest, .ref k0, .ref k1, .ref k2, .ref k3])), (mf, .inl (cI, 11, .inl ff)), (mw, .inl (cI, 11, .inl fw)), (mk, .inl (cI, 11, .inl mm)), (k0, .inl (cJ, 549, .inr (.inl a_34))), (k1, .inl (cJ, 549, .inr (.inl b_35))), (k2, .inl (cJ, 549, .inr (.inl g1_36))), (k3, .inl (cJ, 549, .inr (.inl g2_37)))] H := hP
              have hD : va_D A [(m0, .inr (6, [.ref ms, .ref mf, .ref mw, .ref mk, .int (bI mtold), .ref mh, .int (nI hn), .int (nI un), .int (nI tg), .int stan, .int soft, .int doub, .int spli, .int giv, .int bon, .long drw, .int mbank, .ref q0, .ref q1, .ref q2, .int (nI hp), .ref q3, .ref q4, .ref q5, .ref q6, .ref q7, .int msum, .int (bI hasA), .int mcards, .int mpair, .int (nI sh), .int want, .int mwin, .int (bI isCh), .int mbest, .ref k0, .ref k1, .ref k2, .ref k3])), (mf, .inl (cI, 11, .inl ff)), (mw, .inl (cI, 11, .inl fw)), (mk, .inl (cI, 11, .inl mm)), (k0, .inl (cJ, 549, .inr (.inl a_34))), (k1, .inl (cJ, 549, .inr (.inl b_35))), (k2, .inl (cJ, 549, .inr (.inl g1_36))), (k3, .inl (cJ, 549, .inr (.inl g2_37)))] := hD
              refine lv_bipush (v := 61) hx hb dX6_known_154 (by decide) ?_
              refine lv_iload hx hb dX6_known_156 (lv_at hl 0 rfl) ?_
              refine lv_imul hx hb dX6_known_158 ?_
              refine lv_topi (fun z_44 ez_44 => ?_)
              obtain rfl : z_44 = nI (61 * (smN cg)) := ez_44.trans (nI_mulT _ _)
              refine lv_bipush (v := 30) hx hb dX6_known_159 (by decide) ?_
              refine lv_iadd hx hb dX6_known_161 ?_
              refine lv_topi (fun z_45 ez_45 => ?_)
              obtain rfl : z_45 = nI ((61 * (smN cg)) + 30) := ez_45.trans (nI_add _ _)
              refine lv_aload_n hx hb dX6_known_162 rfl (lv_at hl 4 rfl) ?_
              have hPc := hP.sub (ws' := [(m0, .inr (6, [.ref ms, .ref mf, .ref mw, .ref mk, .int (bI mtold), .ref mh, .int (nI hn), .int (nI un), .int (nI tg), .int stan, .int soft, .int doub, .int spli, .int giv, .int bon, .long drw, .int mbank, .ref q0, .ref q1, .ref q2, .int (nI hp), .ref q3, .ref q4, .ref q5, .ref q6, .ref q7, .int msum, .int (bI hasA), .int mcards, .int mpair, .int (nI sh), .int want, .int mwin, .int (bI isCh), .int mbest, .ref k0, .ref k1, .ref k2, .ref k3])), (mw, .inl (cI, 11, .inl fw)), (mk, .inl (cI, 11, .inl mm))]) [0, 2, 3] rfl
              refine vp_callSi (W.runV (As := []) (rest := [.int (nI ((61 * (smN cg)) + 30))]) ⟨hx, hb, hml, hown, hts⟩ (c_X6_counted l D cI cJ cQ m0 ms mf mw mk mtold mh (nI hn) (nI un) (nI tg) stan soft doub spli giv bon drw mbank q0 q1 q2 (nI hp) q3 q4 q5 q6 q7 msum hasA mcards mpair (nI sh) want mwin isCh mbest k0 k1 k2 k3 (fw) (mm)) (cwV 0 hts gX6_known_X6_counted rfl rfl rfl (by decide +kernel) ⟨Nat.le_of_ble_eq_true rfl, Nat.le_of_ble_eq_true rfl⟩) (rP_preV (ci := 6) (q0 := 0) hPc hK rfl rfl) rfl rfl hl.1 rfl (lv_room (Nat.le_of_ble_eq_true rfl)) dX6_known_163 ⟨Nat.le_of_ble_eq_true rfl, Nat.le_of_ble_eq_true rfl⟩) (fun r_46 hr_46 => ?_)
              subst hr_46
              refine lv_iadd hx hb dX6_known_166 ?_
              obtain ⟨t9, et9, t61, eat⟩ := at_N hcg2 hmk (by omega)
              refine lv_topi (fun z_47 ez_47 => ?_)
              obtain rfl : z_47 = nI (61 * smN cg + t9) := ez_47.trans eat
              have hfin : ¬ a_34 (61 * smN cg + t9) = 0 := by rw [smU_10] at hW_41 hpw_43; rw [hwa_40 _ (by omega), show t9 = tt_39 by omega]; exact lB_ne (Nat.lt_trans (WOK_b hW_41 h60 (by omega) (Nat.le_refl _) (by omega)) (by decide)) hpw_43
              refine lv_istore (lv' := [(5, .int (nI (61 * smN cg + t9))), (4, .int (nI (smN cg))), (3, .int (sm10 ff)), (2, .int p1), (1, .int (nI k)), (0, .ref m0)]) hx hb dX6_known_167 hl (by decide) rfl (fun ls hl => ?_)
              refine lv_aload_n hx hb dX6_known_169 rfl (lv_at hl 5 rfl) ?_
              refine va_get (D := D) (ci := 6) (v := .ref mf) (C := RX6) (T := TX6) (N := 39) hx hb hts in_X6_known_X6 hown hK hP 0 rfl rfl 1 (by decide) (hts _ wd_X6_known_5) (fun _ h9 => h9) rfl dX6_known_170 ?_
              refine lv_iload_n hx hb dX6_known_173 rfl (lv_at hl 4 rfl) ?_
              refine va_iald hx hb hK hP 1 0 rfl rfl (vp_in_nI (by omega) (by decide)) dX6_known_174 ?_
              refine lv_topi (fun z_48 ez_48 => ?_)
              obtain rfl : z_48 = (ff k) := ez_48.trans (by rw [nI_clamp (by omega)])
              refine lv_i2l (v := (ff k).toInt64) hx hb dX6_known_175 rfl ?_
              refine lv_aload_n hx hb dX6_known_176 rfl (lv_at hl 5 rfl) ?_
              refine va_get (D := D) (ci := 6) (v := .ref k0) (C := RX6) (T := TX6) (N := 39) hx hb hts in_X6_known_X6 hown hK hP 0 rfl rfl 35 (by decide) (hts _ wd_X6_known_0) (fun _ h9 => h9) rfl dX6_known_177 ?_
              refine lv_iload hx hb dX6_known_180 (lv_at hl 0 rfl) ?_
              refine va_lald hx hb hK hP 4 1 rfl rfl (vp_in_nI (by omega) (by decide)) dX6_known_182 ?_
              refine lv_topl (fun z_49 ez_49 => ?_)
              obtain rfl : z_49 = (a_34 (61 * smN cg + t9)) := ez_49.trans (by rw [nI_clamp (by omega)])
              refine lv_lmul hx hb dX6_known_183 ?_
              refine lv_aload_n hx hb dX6_known_184 rfl (lv_at hl 5 rfl) ?_
              refine va_get (D := D) (ci := 6) (v := .ref k1) (C := RX6) (T := TX6) (N := 39) hx hb hts in_X6_known_X6 hown hK hP 0 rfl rfl 36 (by decide) (hts _ wd_X6_known_1) (fun _ h9 => h9) rfl dX6_known_185 ?_
              refine lv_iload hx hb dX6_known_188 (lv_at hl 0 rfl) ?_
              refine va_lald hx hb hK hP 5 1 rfl rfl (vp_in_nI (by omega) (by decide)) dX6_known_190 ?_
              refine lv_topl (fun z_50 ez_50 => ?_)
              obtain rfl : z_50 = (b_35 (61 * smN cg + t9)) := ez_50.trans (by rw [nI_clamp (by omega)])
              refine lv_lsub hx hb dX6_known_191 ?_
              refine lv_aload_n hx hb dX6_known_192 rfl (lv_at hl 5 rfl) ?_
              refine va_get (D := D) (ci := 6) (v := .ref k0) (C := RX6) (T := TX6) (N := 39) hx hb hts in_X6_known_X6 hown hK hP 0 rfl rfl 35 (by decide) (hts _ wd_X6_known_0) (fun _ h9 => h9) rfl dX6_known_193 ?_
              refine lv_iload hx hb dX6_known_196 (lv_at hl 0 rfl) ?_
              refine va_lald hx hb hK hP 4 1 rfl rfl (vp_in_nI (by omega) (by decide)) dX6_known_198 ?_
              refine lv_topl (fun z_51 ez_51 => ?_)
              obtain rfl : z_51 = (a_34 (61 * smN cg + t9)) := ez_51.trans (by rw [nI_clamp (by omega)])
              refine lv_iload_n hx hb dX6_known_199 rfl (lv_at hl 3 rfl) ?_
              have hPc := hP.sub (ws' := []) [] rfl
              refine vp_callSl (W.runS (As := [.long (((ff k).toInt64 * (a_34 (61 * smN cg + t9))) - (b_35 (61 * smN cg + t9))), .long (a_34 (61 * smN cg + t9)), .int p1]) (rest := []) ⟨hx, hb, hml, hown, hts⟩ (c_X6_part l D cI cJ cQ (((ff k).toInt64 * (a_34 (61 * smN cg + t9))) - (b_35 (61 * smN cg + t9))) (a_34 (61 * smN cg + t9)) p1 hfin) (va_cwS 3 hts gX6_known_X6_part rfl rfl rfl (by decide +kernel) ⟨Nat.le_of_ble_eq_true rfl, Nat.le_of_ble_eq_true rfl⟩) (rP_preS hPc hK) rfl rfl hl.1 rfl (lv_room (Nat.le_of_ble_eq_true rfl)) dX6_known_200 ⟨Nat.le_of_ble_eq_true rfl, Nat.le_of_ble_eq_true rfl⟩) (fun r_52 hr_52 => ?_)
              have hP9 := hP.sub (ws' := [(m0, .inr (6, [.ref ms, .ref mf, .ref mw, .ref mk, .int (bI mtold), .ref mh, .int (nI hn), .int (nI un), .int (nI tg), .int stan, .int soft, .int doub, .int spli, .int giv, .int bon, .long drw, .int mbank, .ref q0, .ref q1, .ref q2, .int (nI hp), .ref q3, .ref q4, .ref q5, .ref q6, .ref q7, .int msum, .int (bI hasA), .int mcards, .int mpair, .int (nI sh), .int want, .int mwin, .int (bI isCh), .int mbest, .ref k0, .ref k1, .ref k2, .ref k3])), (mf, .inl (cI, 11, .inl ff)), (mw, .inl (cI, 11, .inl fw)), (mk, .inl (cI, 11, .inl mm)), (k0, .inl (cJ, 549, .inr (.inl a_34))), (k1, .inl (cJ, 549, .inr (.inl b_35))), (k2, .inl (cJ, 549, .inr (.inl g1_36))), (k3, .inl (cJ, 549, .inr (.inl g2_37)))]) [0, 1, 2, 3, 4, 5, 6, 7] rfl
              have hD9 := hD.sub (ws' := [(m0, .inr (6, [.ref ms, .ref mf, .ref mw, .ref mk, .int (bI mtold), .ref mh, .int (nI hn), .int (nI un), .int (nI tg), .int stan, .int soft, .int doub, .int spli, .int giv, .int bon, .long drw, .int mbank, .ref q0, .ref q1, .ref q2, .int (nI hp), .ref q3, .ref q4, .ref q5, .ref q6, .ref q7, .int msum, .int (bI hasA), .int mcards, .int mpair, .int (nI sh), .int want, .int mwin, .int (bI isCh), .int mbest, .ref k0, .ref k1, .ref k2, .ref k3])), (mf, .inl (cI, 11, .inl ff)), (mw, .inl (cI, 11, .inl fw)), (mk, .inl (cI, 11, .inl mm)), (k0, .inl (cJ, 549, .inr (.inl a_34))), (k1, .inl (cJ, 549, .inr (.inl b_35))), (k2, .inl (cJ, 549, .inr (.inl g1_36))), (k3, .inl (cJ, 549, .inr (.inl g2_37)))]) [0, 1, 2, 3, 4, 5, 6, 7] (by decide) rfl
              exact W.lret (v := r_52) hx hb hr (fun t ht hW => ⟨⟨r_52, ((a_34), (b_35), (g1_36), (g2_37)), rfl, trivial, by rw [ht]; exact hP9, va_K.moved hW.alike hK, hD9⟩, hS.F ht⟩) hS.2.2 dX6_known_203
            · skip
              have nc81_30 : ¬ ((smN cg) ≤ 8) := fun z9 => c81_30 ((nI_leI (a := (smN cg)) (b := 8) (by omega) (by omega)).mpr z9)
              refine lv_ldc2 hx hb hown (hts _ wd_X6_known_6) dX6_known_84 ?_
              have hP9 := hP.sub (ws' := [(m0, .inr (6, [.ref ms, .ref mf, .ref mw, .ref mk, .int (bI mtold), .ref mh, .int (nI hn), .int (nI un), .int (nI tg), .int stan, .int soft, .int doub, .int spli, .int giv, .int bon, .long drw, .int mbank, .ref q0, .ref q1, .ref q2, .int (nI hp), .ref q3, .ref q4, .ref q5, .ref q6, .ref q7, .int msum, .int (bI hasA), .int mcards, .int mpair, .int (nI sh), .int want, .int mwin, .int (bI isCh), .int mbest, .ref k0, .ref k1, .ref k2, .ref k3])), (mf, .inl (cI, 11, .inl ff)), (mw, .inl (cI, 11, .inl fw)), (mk, .inl (cI, 11, .inl mm)), (k0, .inl (cJ, 549, .inr (.inl a))), (k1, .inl (cJ, 549, .inr (.inl b))), (k2, .inl (cJ, 549, .inr (.inl g1))), (k3, .inl (cJ, 549, .inr (.inl g2)))]) [0, 1, 2, 3, 4, 5, 6, 7] rfl
              have hD9 := hD.sub (ws' := [(m0, .inr (6, [.ref ms, .ref mf, .ref mw, .ref mk, .int (bI mtold), .ref mh, .int (nI hn), .int (nI un), .int (nI tg), .int stan, .int soft, .int doub, .int spli, .int giv, .int bon, .long drw, .int mbank, .ref q0, .ref q1, .ref q2, .int (nI hp), .ref q3, .ref q4, .ref q5, .ref q6, .ref q7, .int msum, .int (bI hasA), .int mcards, .int mpair, .int (nI sh), .int want, .int mwin, .int (bI isCh), .int mbest, .ref k0, .ref k1, .ref k2, .ref k3])), (mf, .inl (cI, 11, .inl ff)), (mw, .inl (cI, 11, .inl fw)), (mk, .inl (cI, 11, .inl mm)), (k0, .inl (cJ, 549, .inr (.inl a))), (k1, .inl (cJ, 549, .inr (.inl b))), (k2, .inl (cJ, 549, .inr (.inl g1))), (k3, .inl (cJ, 549, .inr (.inl g2)))]) [0, 1, 2, 3, 4, 5, 6, 7] (by decide) rfl
              exact W.lret (v := (-1004)) hx hb hr (fun t ht hW => ⟨⟨(-1004), ((a), (b), (g1), (g2)), rfl, trivial, by rw [ht]; exact hP9, va_K.moved hW.alike hK, hD9⟩, hS.F ht⟩) hS.2.2 dX6_known_87
        · exact absurd c46_26 (by decide)
      · skip
        have nc30_5 : mtold = true := bI_1 c30_5
        refine lv_ldc2 hx hb hown (hts _ wd_X6_known_7) dX6_known_33 ?_
        have hP9 := hP.sub (ws' := [(m0, .inr (6, [.ref ms, .ref mf, .ref mw, .ref mk, .int (bI mtold), .ref mh, .int (nI hn), .int (nI un), .int (nI tg), .int stan, .int soft, .int doub, .int spli, .int giv, .int bon, .long drw, .int mbank, .ref q0, .ref q1, .ref q2, .int (nI hp), .ref q3, .ref q4, .ref q5, .ref q6, .ref q7, .int msum, .int (bI hasA), .int mcards, .int mpair, .int (nI sh), .int want, .int mwin, .int (bI isCh), .int mbest, .ref k0, .ref k1, .ref k2, .ref k3])), (mf, .inl (cI, 11, .inl ff)), (mw, .inl (cI, 11, .inl fw)), (mk, .inl (cI, 11, .inl mm)), (k0, .inl (cJ, 549, .inr (.inl a))), (k1, .inl (cJ, 549, .inr (.inl b))), (k2, .inl (cJ, 549, .inr (.inl g1))), (k3, .inl (cJ, 549, .inr (.inl g2)))]) [0, 1, 2, 3, 4, 5, 6, 7] rfl
        have hD9 := hD.sub (ws' := [(m0, .inr (6, [.ref ms, .ref mf, .ref mw, .ref mk, .int (bI mtold), .ref mh, .int (nI hn), .int (nI un), .int (nI tg), .int stan, .int soft, .int doub, .int spli, .int giv, .int bon, .long drw, .int mbank, .ref q0, .ref q1, .ref q2, .int (nI hp), .ref q3, .ref q4, .ref q5, .ref q6, .ref q7, .int msum, .int (bI hasA), .int mcards, .int mpair, .int (nI sh), .int want, .int mwin, .int (bI isCh), .int mbest, .ref k0, .ref k1, .ref k2, .ref k3])), (mf, .inl (cI, 11, .inl ff)), (mw, .inl (cI, 11, .inl fw)), (mk, .inl (cI, 11, .inl mm)), (k0, .inl (cJ, 549, .inr (.inl a))), (k1, .inl (cJ, 549, .inr (.inl b))), (k2, .inl (cJ, 549, .inr (.inl g1))), (k3, .inl (cJ, 549, .inr (.inl g2)))]) [0, 1, 2, 3, 4, 5, 6, 7] (by decide) rfl
        exact W.lret (v := (-1002)) hx hb hr (fun t ht hW => ⟨⟨(-1002), ((a), (b), (g1), (g2)), rfl, trivial, by rw [ht]; exact hP9, va_K.moved hW.alike hK, hD9⟩, hS.F ht⟩) hS.2.2 dX6_known_36
    · skip
      refine lv_ldc2 hx hb hown (hts _ wd_X6_known_3) dX6_known_22 ?_
      have hP9 := hP.sub (ws' := [(m0, .inr (6, [.ref ms, .ref mf, .ref mw, .ref mk, .int (bI mtold), .ref mh, .int (nI hn), .int (nI un), .int (nI tg), .int stan, .int soft, .int doub, .int spli, .int giv, .int bon, .long drw, .int mbank, .ref q0, .ref q1, .ref q2, .int (nI hp), .ref q3, .ref q4, .ref q5, .ref q6, .ref q7, .int msum, .int (bI hasA), .int mcards, .int mpair, .int (nI sh), .int want, .int mwin, .int (bI isCh), .int mbest, .ref k0, .ref k1, .ref k2, .ref k3])), (mf, .inl (cI, 11, .inl ff)), (mw, .inl (cI, 11, .inl fw)), (mk, .inl (cI, 11, .inl mm)), (k0, .inl (cJ, 549, .inr (.inl a))), (k1, .inl (cJ, 549, .inr (.inl b))), (k2, .inl (cJ, 549, .inr (.inl g1))), (k3, .inl (cJ, 549, .inr (.inl g2)))]) [0, 1, 2, 3, 4, 5, 6, 7] rfl
      have hD9 := hD.sub (ws' := [(m0, .inr (6, [.ref ms, .ref mf, .ref mw, .ref mk, .int (bI mtold), .ref mh, .int (nI hn), .int (nI un), .int (nI tg), .int stan, .int soft, .int doub, .int spli, .int giv, .int bon, .long drw, .int mbank, .ref q0, .ref q1, .ref q2, .int (nI hp), .ref q3, .ref q4, .ref q5, .ref q6, .ref q7, .int msum, .int (bI hasA), .int mcards, .int mpair, .int (nI sh), .int want, .int mwin, .int (bI isCh), .int mbest, .ref k0, .ref k1, .ref k2, .ref k3])), (mf, .inl (cI, 11, .inl ff)), (mw, .inl (cI, 11, .inl fw)), (mk, .inl (cI, 11, .inl mm)), (k0, .inl (cJ, 549, .inr (.inl a))), (k1, .inl (cJ, 549, .inr (.inl b))), (k2, .inl (cJ, 549, .inr (.inl g1))), (k3, .inl (cJ, 549, .inr (.inl g2)))]) [0, 1, 2, 3, 4, 5, 6, 7] (by decide) rfl
      exact W.lret (v := (-1001)) hx hb hr (fun t ht hW => ⟨⟨(-1001), ((a), (b), (g1), (g2)), rfl, trivial, by rw [ht]; exact hP9, va_K.moved hW.alike hK, hD9⟩, hS.F ht⟩) hS.2.2 dX6_known_25
