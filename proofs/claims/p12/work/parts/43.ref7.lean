set_option maxRecDepth 20000 in
theorem in_X6_ofRank_X6 : ∀ w ∈ wsX60, w ∈ wsX6_ofRank := by decide +kernel
set_option maxRecDepth 20000 in
theorem wd_X6_ofRank_0 : Cond.fieldLink RX6 55 "ShoeTableModel" "step" "[I" ∈ wsX6_ofRank := by decide +kernel
set_option maxRecDepth 20000 in
theorem wd_X6_ofRank_1 : Cond.fieldLink RX6 52 "ShoeTableModel" "cap" "[I" ∈ wsX6_ofRank := by decide +kernel
set_option maxHeartbeats 400000 in
set_option maxRecDepth 100000 in
/-- X6_ofRank -/
theorem c_X6_ofRank (l : Launch) (D : va_G) (cI cJ cQ : ClassId) (m0 : Nat) (ms : Nat) (mf : Nat) (mw : Nat) (mk : Nat) (mtold : Bool) (mh : Nat) (hn : Nat) (mup : Int32) (targ : Int32) (stan : Int32) (soft : Int32) (doub : Int32) (spli : Int32) (giv : Int32) (bon : Int32) (drw : Int64) (mbank : Int32) (q0 : Nat) (q1 : Nat) (q2 : Nat) (mheaps : Int32) (q3 : Nat) (q4 : Nat) (q5 : Nat) (q6 : Nat) (q7 : Nat) (msum : Int32) (hasA : Bool) (mcards : Int32) (mpair : Int32) (shown : Int32) (want : Int32) (mwin : Int32) (isCh : Bool) (mbest : Int32) (k0 : Nat) (k1 : Nat) (k2 : Nat) (k3 : Nat) (capr : Nat → Int32) (cap : Nat → Nat) (stp : Nat → Nat) (h : Nat) (rk : Nat) (hs1 : 1 ≤ stp rk) (hs2 : stp rk ≤ 2304) (hc1 : cap rk ≤ 12) (hh : h ≤ 5000) (rr1 : 1 ≤ rk) (rr : rk ≤ 10) (hcp : ∀ j, 1 ≤ j → j ≤ 10 → capr j = nI (cap j)) : Met l yX6_ofRank wsX6_ofRank ({ frames := 0, cells := 0, slots := 0, locals := 0 }) (va_Pc [.ref m0, .int (nI h), .int (nI rk)] (rP D (gTy cI cJ cQ) [(m0, .inr (6, [.ref ms, .ref mf, .ref mw, .ref mk, .int (bI mtold), .ref mh, .int (nI hn), .int mup, .int targ, .int stan, .int soft, .int doub, .int spli, .int giv, .int bon, .long drw, .int mbank, .ref q0, .ref q1, .ref q2, .int mheaps, .ref q3, .ref q4, .ref q5, .ref q6, .ref q7, .int msum, .int (bI hasA), .int mcards, .int mpair, .int shown, .int want, .int mwin, .int (bI isCh), .int mbest, .ref k0, .ref k1, .ref k2, .ref k3])), (q1, .inl (cI, 11, .inl capr)), (q2, .inl (cI, 11, .inl (nA stp)))])) (vp_Si (fun r => r = nI (h / stp rk % (cap rk + 1)))) 0 0 (fun _ => False) := by
  refine Met.ofW (cc := cX6_ofRank) (maxL := 3) (ret := (some .int)) (by decide) rfl ?_
  intro p e s m args below meth c s₁ B hml hv
  obtain ⟨rfl, hP, hK⟩ := hv
  have hx := B.exec
  have hb := B.bytes
  have hr := B.returns
  have hts := atoms_spec (ws := wsX6_ofRank) B.pre
  have hown : s.vm.findClass RX6 = some m.cls := findClass_of_methodNamed B.named
  have hlocks := B.notSynchronized
  have hl := lv_entry ([.ref m0, .int (nI h), .int (nI rk)]) (n := 3) (Nat.le_of_ble_eq_true rfl)
  rw [lg_entry_eq]
  generalize (lg_sl ([.ref m0, .int (nI h), .int (nI rk)]) ++ List.replicate (3 - (lg_sl ([.ref m0, .int (nI h), .int (nI rk)])).length) Slot.unset).toArray = ls at hl ⊢
  have hl : lv_has ls 3 [(0, .ref m0), (1, .int (nI h)), (2, .int (nI rk))] := hl
  refine lv_iload_n hx hb dX6_ofRank_0 rfl (lv_at hl 1 rfl) ?_
  refine lv_aload_n hx hb dX6_ofRank_1 rfl (lv_at hl 0 rfl) ?_
  refine va_get (D := D) (ci := 6) (v := .ref q2) (C := RX6) (T := TX6) (N := 39) hx hb hts in_X6_ofRank_X6 hown hK hP 0 rfl rfl 19 (by decide) (hts _ wd_X6_ofRank_0) (fun _ h9 => h9) rfl dX6_ofRank_2 ?_
  refine lv_iload_n hx hb dX6_ofRank_5 rfl (lv_at hl 2 rfl) ?_
  refine va_iald hx hb hK hP 2 0 rfl rfl (vp_in_nI (by omega) (by decide)) dX6_ofRank_6 ?_
  refine lv_topi (fun z_1 ez_1 => ?_)
  obtain rfl : z_1 = (nI (stp rk)) := ez_1.trans (by rw [nI_clamp (by omega)]; rfl)
  refine lv_idiv hx hb dX6_ofRank_7 (nI_ne0 (by omega) (by omega)) ?_
  refine lv_topi (fun z_2 ez_2 => ?_)
  obtain rfl : z_2 = nI (h / (stp rk)) := ez_2.trans (nI_divT (by omega) (by omega))
  refine lv_aload_n hx hb dX6_ofRank_8 rfl (lv_at hl 0 rfl) ?_
  refine va_get (D := D) (ci := 6) (v := .ref q1) (C := RX6) (T := TX6) (N := 39) hx hb hts in_X6_ofRank_X6 hown hK hP 0 rfl rfl 18 (by decide) (hts _ wd_X6_ofRank_1) (fun _ h9 => h9) rfl dX6_ofRank_9 ?_
  refine lv_iload_n hx hb dX6_ofRank_12 rfl (lv_at hl 2 rfl) ?_
  refine va_iald hx hb hK hP 1 0 rfl rfl (vp_in_nI (by omega) (by decide)) dX6_ofRank_13 ?_
  refine lv_topi (fun z_3 ez_3 => ?_)
  obtain rfl : z_3 = (capr rk) := ez_3.trans (by rw [nI_clamp (by omega)])
  refine lv_topi (fun z_4 ez_4 => ?_)
  obtain rfl : z_4 = nI (cap rk) := ez_4.trans (hcp rk (by omega) (by omega))
  refine lv_iconst (v := 1) hx hb dX6_ofRank_14 (by decide) ?_
  refine lv_iadd hx hb dX6_ofRank_15 ?_
  refine lv_topi (fun z_5 ez_5 => ?_)
  obtain rfl : z_5 = nI ((cap rk) + 1) := ez_5.trans (nI_add _ _)
  refine lv_irem hx hb dX6_ofRank_16 (nI_ne0 (by omega) (by omega)) ?_
  refine lv_topi (fun z_6 ez_6 => ?_)
  obtain rfl : z_6 = nI ((h / (stp rk)) % ((cap rk) + 1)) := ez_6.trans (nI_remT (by have q9 : h / stp rk ≤ h := Nat.div_le_self _ _; omega) (by have q9 : h / stp rk ≤ h := Nat.div_le_self _ _; omega))
  exact W.iret (v := (nI ((h / (stp rk)) % ((cap rk) + 1)))) hx hb hr (fun t ht hW => ⟨_, rfl, rfl, ht⟩) (fun q hq => absurd hq List.not_mem_nil) dX6_ofRank_17

set_option maxRecDepth 20000 in
theorem in_X6_layHeaps_X6 : ∀ w ∈ wsX60, w ∈ wsX6_layHeaps := by decide +kernel
set_option maxRecDepth 20000 in
theorem wd_X6_layHeaps_0 : Cond.fieldLink RX6 55 "ShoeTableModel" "step" "[I" ∈ wsX6_layHeaps := by decide +kernel
set_option maxRecDepth 20000 in
theorem wd_X6_layHeaps_1 : Cond.fieldLink RX6 170 "ShoeTableModel" "heaps" "I" ∈ wsX6_layHeaps := by decide +kernel
set_option maxRecDepth 20000 in
theorem wd_X6_layHeaps_2 : Cond.fieldLink RX6 52 "ShoeTableModel" "cap" "[I" ∈ wsX6_layHeaps := by decide +kernel
set_option maxHeartbeats 400000 in
set_option maxRecDepth 100000 in
theorem lpLay1 {p : Program} {l : Launch} {e : Env} {R : Room} {s : State} {m : MethodId} {args : Array Value} {below : List Frame} {meth : Method} {c : Code} {Q : State → Prop} {D : va_G} {cI cJ cQ : ClassId} {A : Nat → Prop} {cells slots : Nat} (hx : p.tables.exec = Jvm.exec) (hb : c.code = cX6_layHeaps) (hml : c.maxLocals = 3) (hown : s.vm.findClass RX6 = some m.cls) (hts : ∀ w ∈ wsX6_layHeaps, w.before args s = true) (hK : va_K D vwCl (gTy cI cJ cQ) s) (hA : ∀ q : Nat, s.heap.size ≤ q → A q) (m0 : Nat) (ms : Nat) (mf : Nat) (mw : Nat) (mk : Nat) (mtold : Bool) (mh : Nat) (hn : Nat) (mup : Int32) (tg : Nat) (stan : Int32) (soft : Int32) (doub : Int32) (spli : Int32) (giv : Int32) (bon : Int32) (drw : Int64) (mbank : Int32) (q0 : Nat) (q1 : Nat) (q2 : Nat) (q3 : Nat) (q4 : Nat) (q5 : Nat) (q6 : Nat) (q7 : Nat) (msum : Int32) (hasA : Bool) (mcards : Int32) (mpair : Int32) (sh : Nat) (want : Int32) (mwin : Int32) (isCh : Bool) (mbest : Int32) (k0 : Nat) (k1 : Nat) (k2 : Nat) (k3 : Nat) (capr : Nat → Int32) (cap : Nat → Nat) (siz : Nat → Nat) (pts : Nat → Nat) (hRf : 0 ≤ R.frames) (hRl : 0 ≤ R.locals) (hRc : cells ≤ R.cells) (hRs : slots ≤ R.slots) (hcp : ∀ j, 1 ≤ j → j ≤ 10 → capr j = nI (cap j)) : ∀ (n9 : Nat) (k : Nat) (hp : Nat) (stp : Nat → Nat) (H : Heap) (locs : List Loc) (ls : Array Slot), 11 - k < n9 → (1 ≤ k) → (k ≤ 11) → (hp = hpN cap (k - 1)) → (∀ j, 1 ≤ j → j < k → stp j = hpN cap (j - 1)) → va_P D vwCl [(m0, .inr (6, [.ref ms, .ref mf, .ref mw, .ref mk, .int (bI mtold), .ref mh, .int (nI hn), .int mup, .int (nI tg), .int stan, .int soft, .int doub, .int spli, .int giv, .int bon, .long drw, .int mbank, .ref q0, .ref q1, .ref q2, .int (nI hp), .ref q3, .ref q4, .ref q5, .ref q6, .ref q7, .int msum, .int (bI hasA), .int mcards, .int mpair, .int (nI sh), .int want, .int mwin, .int (bI isCh), .int mbest, .ref k0, .ref k1, .ref k2, .ref k3])), (q1, .inl (cI, 11, .inl capr)), (q2, .inl (cI, 11, .inl (nA stp))), (q3, .inl (cI, 2400, .inl (nA siz))), (q4, .inl (cI, 2400, .inl (nA pts)))] H → va_D A [(m0, .inr (6, [.ref ms, .ref mf, .ref mw, .ref mk, .int (bI mtold), .ref mh, .int (nI hn), .int mup, .int (nI tg), .int stan, .int soft, .int doub, .int spli, .int giv, .int bon, .long drw, .int mbank, .ref q0, .ref q1, .ref q2, .int (nI hp), .ref q3, .ref q4, .ref q5, .ref q6, .ref q7, .int msum, .int (bI hasA), .int mcards, .int mpair, .int (nI sh), .int want, .int mwin, .int (bI isCh), .int mbest, .ref k0, .ref k1, .ref k2, .ref k3])), (q1, .inl (cI, 11, .inl capr)), (q2, .inl (cI, 11, .inl (nA stp))), (q3, .inl (cI, 2400, .inl (nA siz))), (q4, .inl (cI, 2400, .inl (nA pts)))] → va_S A s.heap H locs → lv_has ls 3 [(1, .int (nI k)), (0, .ref m0)] → (∀ (hp : Nat) (stp : Nat → Nat) (H : Heap) (locs : List Loc) (ls : Array Slot), (hp = hpN cap 10) → (∀ j, 1 ≤ j → j ≤ 10 → stp j = hpN cap (j - 1)) → va_P D vwCl [(m0, .inr (6, [.ref ms, .ref mf, .ref mw, .ref mk, .int (bI mtold), .ref mh, .int (nI hn), .int mup, .int (nI tg), .int stan, .int soft, .int doub, .int spli, .int giv, .int bon, .long drw, .int mbank, .ref q0, .ref q1, .ref q2, .int (nI hp), .ref q3, .ref q4, .ref q5, .ref q6, .ref q7, .int msum, .int (bI hasA), .int mcards, .int mpair, .int (nI sh), .int want, .int mwin, .int (bI isCh), .int mbest, .ref k0, .ref k1, .ref k2, .ref k3])), (q1, .inl (cI, 11, .inl capr)), (q2, .inl (cI, 11, .inl (nA stp))), (q3, .inl (cI, 2400, .inl (nA siz))), (q4, .inl (cI, 2400, .inl (nA pts)))] H → va_D A [(m0, .inr (6, [.ref ms, .ref mf, .ref mw, .ref mk, .int (bI mtold), .ref mh, .int (nI hn), .int mup, .int (nI tg), .int stan, .int soft, .int doub, .int spli, .int giv, .int bon, .long drw, .int mbank, .ref q0, .ref q1, .ref q2, .int (nI hp), .ref q3, .ref q4, .ref q5, .ref q6, .ref q7, .int msum, .int (bI hasA), .int mcards, .int mpair, .int (nI sh), .int want, .int mwin, .int (bI isCh), .int mbest, .ref k0, .ref k1, .ref k2, .ref k3])), (q1, .inl (cI, 11, .inl capr)), (q2, .inl (cI, 11, .inl (nA stp))), (q3, .inl (cI, 2400, .inl (nA siz))), (q4, .inl (cI, 2400, .inl (nA pts)))] → va_S A s.heap H locs → lv_has ls 3 [(0, .ref m0)] → W p l e R s m args below meth c H locs cells slots Q (F0 m 46 ls [])) → W p l e R s m args below meth c H locs cells slots Q (F0 m 7 ls []) := by
  intro n9
  induction n9 with
  | zero => intro k hp stp H locs ls hms9; exact absurd hms9 (Nat.not_lt_zero _)
  | succ n9 ih =>
    intro k hp stp H locs ls hms9 a1 a2 ah as hP hD hS hl kk0
    refine lv_iload_n hx hb dX6_layHeaps_7 rfl (lv_at hl 0 rfl) ?_
    refine lv_bipush (v := 11) hx hb dX6_layHeaps_8 (by decide) ?_
    refine lv_icmp_ge (tgt := 46) hx hb dX6_layHeaps_10 (by decide) (fun c10_1 => ?_) (fun c10_1 => ?_)
    · skip
      have nc10_1 : 11 ≤ k := (nI_leI (a := 11) (b := k) (by omega) (by omega)).mp c10_1
      exact kk0 hp stp _ _ _ (by rw [ah, show k - 1 = 10 by omega]) (fun j a b => as j a (by omega)) hP hD hS (lv_sub hl [1] rfl)
    · skip
      have nc10_1 : ¬ (11 ≤ k) := fun z9 => c10_1 ((nI_leI (a := 11) (b := k) (by omega) (by omega)).mpr z9)
      refine lv_aload_n hx hb dX6_layHeaps_13 rfl (lv_at hl 1 rfl) ?_
      refine va_get (D := D) (ci := 6) (v := .ref q2) (C := RX6) (T := TX6) (N := 39) hx hb hts in_X6_layHeaps_X6 hown hK hP 0 rfl rfl 19 (by decide) (hts _ wd_X6_layHeaps_0) (fun _ h9 => h9) rfl dX6_layHeaps_14 ?_
      refine lv_iload_n hx hb dX6_layHeaps_17 rfl (lv_at hl 0 rfl) ?_
      refine lv_aload_n hx hb dX6_layHeaps_18 rfl (lv_at hl 1 rfl) ?_
      refine va_get (D := D) (ci := 6) (v := .int (nI hp)) (C := RX6) (T := TX6) (N := 39) hx hb hts in_X6_layHeaps_X6 hown hK hP 0 rfl rfl 20 (by decide) (hts _ wd_X6_layHeaps_1) (fun _ h9 => h9) rfl dX6_layHeaps_19 ?_
      refine va_iast hx hb hK hP hD hS 2 0 rfl rfl (vp_in_nI (by omega) (by decide)) dX6_layHeaps_22 (fun H locs hP hD hS => ?_)
      have e9 : (upd (nA stp) (nI k).toNatClampNeg (nI hp)) = nA (updN stp k hp) := by rw [nI_clamp (show k < 2 ^ 31 by omega), upd_nA]
      have hP : va_P D vwCl [(m0, .inr (6, [.ref ms, .ref mf, .ref mw, .ref mk, .int (bI mtold), .ref mh, .int (nI hn), .int mup, .int (nI tg), .int stan, .int soft, .int doub, .int spli, .int giv, .int bon, .long drw, .int mbank, .ref q0, .ref q1, .ref q2, .int (nI hp), .ref q3, .ref q4, .ref q5, .ref q6, .ref q7, .int msum, .int (bI hasA), .int mcards, .int mpair, .int (nI sh), .int want, .int mwin, .int (bI isCh), .int mbest, .ref k0, .ref k1, .ref k2, .ref k3])), (q1, .inl (cI, 11, .inl capr)), (q2, .inl (cI, 11, .inl (nA (updN stp k hp)))), (q3, .inl (cI, 2400, .inl (nA siz))), (q4, .inl (cI, 2400, .inl (nA pts)))] H := by rw [← e9]; exact hP
      have hD : va_D A [(m0, .inr (6, [.ref ms, .ref mf, .ref mw, .ref mk, .int (bI mtold), .ref mh, .int (nI hn), .int mup, .int (nI tg), .int stan, .int soft, .int doub, .int spli, .int giv, .int bon, .long drw, .int mbank, .ref q0, .ref q1, .ref q2, .int (nI hp), .ref q3, .ref q4, .ref q5, .ref q6, .ref q7, .int msum, .int (bI hasA), .int mcards, .int mpair, .int (nI sh), .int want, .int mwin, .int (bI isCh), .int mbest, .ref k0, .ref k1, .ref k2, .ref k3])), (q1, .inl (cI, 11, .inl capr)), (q2, .inl (cI, 11, .inl (nA (updN stp k hp)))), (q3, .inl (cI, 2400, .inl (nA siz))), (q4, .inl (cI, 2400, .inl (nA pts)))] := by rw [← e9]; exact hD
      clear e9
      refine lv_aload_n hx hb dX6_layHeaps_23 rfl (lv_at hl 1 rfl) ?_
      refine lv_dup hx hb dX6_layHeaps_24 rfl ?_
      refine va_get (D := D) (ci := 6) (v := .int (nI hp)) (C := RX6) (T := TX6) (N := 39) hx hb hts in_X6_layHeaps_X6 hown hK hP 0 rfl rfl 20 (by decide) (hts _ wd_X6_layHeaps_1) (fun _ h9 => h9) rfl dX6_layHeaps_25 ?_
      refine lv_aload_n hx hb dX6_layHeaps_28 rfl (lv_at hl 1 rfl) ?_
      refine va_get (D := D) (ci := 6) (v := .ref q1) (C := RX6) (T := TX6) (N := 39) hx hb hts in_X6_layHeaps_X6 hown hK hP 0 rfl rfl 18 (by decide) (hts _ wd_X6_layHeaps_2) (fun _ h9 => h9) rfl dX6_layHeaps_29 ?_
      refine lv_iload_n hx hb dX6_layHeaps_32 rfl (lv_at hl 0 rfl) ?_
      refine va_iald hx hb hK hP 1 0 rfl rfl (vp_in_nI (by omega) (by decide)) dX6_layHeaps_33 ?_
      refine lv_topi (fun z_2 ez_2 => ?_)
      obtain rfl : z_2 = (capr k) := ez_2.trans (by rw [nI_clamp (by omega)])
      refine lv_topi (fun z_3 ez_3 => ?_)
      obtain rfl : z_3 = nI (cap k) := ez_3.trans (hcp k (by omega) (by omega))
      refine lv_iconst (v := 1) hx hb dX6_layHeaps_34 (by decide) ?_
      refine lv_iadd hx hb dX6_layHeaps_35 ?_
      refine lv_topi (fun z_4 ez_4 => ?_)
      obtain rfl : z_4 = nI ((cap k) + 1) := ez_4.trans (nI_add _ _)
      refine lv_imul hx hb dX6_layHeaps_36 ?_
      refine lv_topi (fun z_5 ez_5 => ?_)
      obtain rfl : z_5 = nI (hp * ((cap k) + 1)) := ez_5.trans (nI_mulT _ _)
      refine va_put (D := D) (ci := 6) (v := .int (nI (hp * ((cap k) + 1)))) (ty := .int) (C := RX6) (T := TX6) (N := 39) hx hb hts in_X6_layHeaps_X6 tyX6 tyX6_ok nmX6 hown hK hP hD hS 0 rfl rfl 20 (by decide) (hts _ wd_X6_layHeaps_1) (fun _ h9 => h9) rfl (by decide +kernel) rfl rfl (Nat.le_of_ble_eq_true rfl) dX6_layHeaps_37 (fun H locs hP hD hS => ?_)
      have hP : va_P D vwCl [(m0, .inr (6, [.ref ms, .ref mf, .ref mw, .ref mk, .int (bI mtold), .ref mh, .int (nI hn), .int mup, .int (nI tg), .int stan, .int soft, .int doub, .int spli, .int giv, .int bon, .long drw, .int mbank, .ref q0, .ref q1, .ref q2, .int (nI (hp * ((cap k) + 1))), .ref q3, .ref q4, .ref q5, .ref q6, .ref q7, .int msum, .int (bI hasA), .int mcards, .int mpair, .int (nI sh), .int want, .int mwin, .int (bI isCh), .int mbest, .ref k0, .ref k1, .ref k2, .ref k3])), (q1, .inl (cI, 11, .inl capr)), (q2, .inl (cI, 11, .inl (nA (updN stp k hp)))), (q3, .inl (cI, 2400, .inl (nA siz))), (q4, .inl (cI, 2400, .inl (nA pts)))] H := hP
      have hD : va_D A [(m0, .inr (6, [.ref ms, .ref mf, .ref mw, .ref mk, .int (bI mtold), .ref mh, .int (nI hn), .int mup, .int (nI tg), .int stan, .int soft, .int doub, .int spli, .int giv, .int bon, .long drw, .int mbank, .ref q0, .ref q1, .ref q2, .int (nI (hp * ((cap k) + 1))), .ref q3, .ref q4, .ref q5, .ref q6, .ref q7, .int msum, .int (bI hasA), .int mcards, .int mpair, .int (nI sh), .int want, .int mwin, .int (bI isCh), .int mbest, .ref k0, .ref k1, .ref k2, .ref k3])), (q1, .inl (cI, 11, .inl capr)), (q2, .inl (cI, 11, .inl (nA (updN stp k hp)))), (q3, .inl (cI, 2400, .inl (nA siz))), (q4, .inl (cI, 2400, .inl (nA pts)))] := hD
      refine lv_iinc (v := (nI (k + 1))) (lv' := [(1, .int (nI (k + 1))), (0, .ref m0)]) hx hb dX6_layHeaps_40 hl (k := 0) rfl (nI_incT (by decide)) (by decide) rfl (fun ls hl => ?_)
      refine lv_goto (tgt := 7) hx hb dX6_layHeaps_43 (by decide) ?_
      exact ih (k + 1) (hp * ((cap k) + 1)) (updN stp k hp) _ _ _ (by omega) (by omega) (by omega) (by rw [ah]; obtain ⟨i, rfl⟩ : ∃ i, k = i + 1 := ⟨k - 1, by omega⟩; rfl) (fun j a b => by unfold updN; by_cases z : j = k; rw [if_pos z, z, ah]; rw [if_neg z]; exact as j a (by omega)) hP hD hS (lv_sub hl [0, 1] rfl) kk0

set_option maxRecDepth 20000 in
theorem wd_X6_layHeaps_3 : Cond.fieldLink RX6 58 "ShoeTableModel" "size" "[I" ∈ wsX6_layHeaps := by decide +kernel
set_option maxRecDepth 20000 in
theorem wd_X6_layHeaps_4 : Cond.fieldLink RX6 61 "ShoeTableModel" "points" "[I" ∈ wsX6_layHeaps := by decide +kernel
set_option maxHeartbeats 400000 in
set_option maxRecDepth 100000 in
theorem lpLay3 {p : Program} {l : Launch} {e : Env} {R : Room} {s : State} {m : MethodId} {args : Array Value} {below : List Frame} {meth : Method} {c : Code} {Q : State → Prop} {D : va_G} {cI cJ cQ : ClassId} {A : Nat → Prop} {cells slots : Nat} (hx : p.tables.exec = Jvm.exec) (hb : c.code = cX6_layHeaps) (hml : c.maxLocals = 3) (hown : s.vm.findClass RX6 = some m.cls) (hts : ∀ w ∈ wsX6_layHeaps, w.before args s = true) (hK : va_K D vwCl (gTy cI cJ cQ) s) (hA : ∀ q : Nat, s.heap.size ≤ q → A q) (m0 : Nat) (ms : Nat) (mf : Nat) (mw : Nat) (mk : Nat) (mtold : Bool) (mh : Nat) (hn : Nat) (mup : Int32) (tg : Nat) (stan : Int32) (soft : Int32) (doub : Int32) (spli : Int32) (giv : Int32) (bon : Int32) (drw : Int64) (mbank : Int32) (q0 : Nat) (q1 : Nat) (q2 : Nat) (hp : Nat) (q3 : Nat) (q4 : Nat) (q5 : Nat) (q6 : Nat) (q7 : Nat) (msum : Int32) (hasA : Bool) (mcards : Int32) (mpair : Int32) (sh : Nat) (want : Int32) (mwin : Int32) (isCh : Bool) (mbest : Int32) (k0 : Nat) (k1 : Nat) (k2 : Nat) (k3 : Nat) (capr : Nat → Int32) (cap : Nat → Nat) (stp : Nat → Nat) (h : Nat) (siz0 : Nat → Nat) (pts0 : Nat → Nat) (hRf : 1 ≤ R.frames) (hRl : 22 ≤ R.locals) (hRc : cells ≤ R.cells) (hRs : slots ≤ R.slots) (hcp : ∀ j, 1 ≤ j → j ≤ 10 → capr j = nI (cap j)) (hsm : smN cap ≤ 12) (as : ∀ j, 1 ≤ j → j ≤ 10 → stp j = hpN cap (j - 1)) (ah : hp = hpN cap 10) (hp4 : hp ≤ 2304) (hlt : h < hp) : ∀ (n9 : Nat) (r : Nat) (siz : Nat → Nat) (pts : Nat → Nat) (H : Heap) (locs : List Loc) (ls : Array Slot), 11 - r < n9 → (1 ≤ r) → (r ≤ 11) → (siz h = szN cap h (r - 1) ∧ ∀ j, j < h → siz j = siz0 j) → (pts h = ptN cap h (r - 1) ∧ ∀ j, j < h → pts j = pts0 j) → va_P D vwCl [(m0, .inr (6, [.ref ms, .ref mf, .ref mw, .ref mk, .int (bI mtold), .ref mh, .int (nI hn), .int mup, .int (nI tg), .int stan, .int soft, .int doub, .int spli, .int giv, .int bon, .long drw, .int mbank, .ref q0, .ref q1, .ref q2, .int (nI hp), .ref q3, .ref q4, .ref q5, .ref q6, .ref q7, .int msum, .int (bI hasA), .int mcards, .int mpair, .int (nI sh), .int want, .int mwin, .int (bI isCh), .int mbest, .ref k0, .ref k1, .ref k2, .ref k3])), (q1, .inl (cI, 11, .inl capr)), (q2, .inl (cI, 11, .inl (nA stp))), (q3, .inl (cI, 2400, .inl (nA siz))), (q4, .inl (cI, 2400, .inl (nA pts)))] H → va_D A [(m0, .inr (6, [.ref ms, .ref mf, .ref mw, .ref mk, .int (bI mtold), .ref mh, .int (nI hn), .int mup, .int (nI tg), .int stan, .int soft, .int doub, .int spli, .int giv, .int bon, .long drw, .int mbank, .ref q0, .ref q1, .ref q2, .int (nI hp), .ref q3, .ref q4, .ref q5, .ref q6, .ref q7, .int msum, .int (bI hasA), .int mcards, .int mpair, .int (nI sh), .int want, .int mwin, .int (bI isCh), .int mbest, .ref k0, .ref k1, .ref k2, .ref k3])), (q1, .inl (cI, 11, .inl capr)), (q2, .inl (cI, 11, .inl (nA stp))), (q3, .inl (cI, 2400, .inl (nA siz))), (q4, .inl (cI, 2400, .inl (nA pts)))] → va_S A s.heap H locs → lv_has ls 3 [(2, .int (nI r)), (1, .int (nI h)), (0, .ref m0)] → (∀ (siz : Nat → Nat) (pts : Nat → Nat) (H : Heap) (locs : List Loc) (ls : Array Slot), (siz h = szN cap h 10 ∧ ∀ j, j < h → siz j = siz0 j) → (pts h = ptN cap h 10 ∧ ∀ j, j < h → pts j = pts0 j) → va_P D vwCl [(m0, .inr (6, [.ref ms, .ref mf, .ref mw, .ref mk, .int (bI mtold), .ref mh, .int (nI hn), .int mup, .int (nI tg), .int stan, .int soft, .int doub, .int spli, .int giv, .int bon, .long drw, .int mbank, .ref q0, .ref q1, .ref q2, .int (nI hp), .ref q3, .ref q4, .ref q5, .ref q6, .ref q7, .int msum, .int (bI hasA), .int mcards, .int mpair, .int (nI sh), .int want, .int mwin, .int (bI isCh), .int mbest, .ref k0, .ref k1, .ref k2, .ref k3])), (q1, .inl (cI, 11, .inl capr)), (q2, .inl (cI, 11, .inl (nA stp))), (q3, .inl (cI, 2400, .inl (nA siz))), (q4, .inl (cI, 2400, .inl (nA pts)))] H → va_D A [(m0, .inr (6, [.ref ms, .ref mf, .ref mw, .ref mk, .int (bI mtold), .ref mh, .int (nI hn), .int mup, .int (nI tg), .int stan, .int soft, .int doub, .int spli, .int giv, .int bon, .long drw, .int mbank, .ref q0, .ref q1, .ref q2, .int (nI hp), .ref q3, .ref q4, .ref q5, .ref q6, .ref q7, .int msum, .int (bI hasA), .int mcards, .int mpair, .int (nI sh), .int want, .int mwin, .int (bI isCh), .int mbest, .ref k0, .ref k1, .ref k2, .ref k3])), (q1, .inl (cI, 11, .inl capr)), (q2, .inl (cI, 11, .inl (nA stp))), (q3, .inl (cI, 2400, .inl (nA siz))), (q4, .inl (cI, 2400, .inl (nA pts)))] → va_S A s.heap H locs → lv_has ls 3 [(1, .int (nI h)), (0, .ref m0)] → W p l e R s m args below meth c H locs cells slots Q (F0 m 116 ls [])) → W p l e R s m args below meth c H locs cells slots Q (F0 m 72 ls []) := by
  intro n9
  induction n9 with
  | zero => intro r siz pts H locs ls hms9; exact absurd hms9 (Nat.not_lt_zero _)
  | succ n9 ih =>
    intro r siz pts H locs ls hms9 r1 r2 hz hq hP hD hS hl kk0
    refine lv_iload_n hx hb dX6_layHeaps_72 rfl (lv_at hl 0 rfl) ?_
    refine lv_bipush (v := 11) hx hb dX6_layHeaps_73 (by decide) ?_
    refine lv_icmp_ge (tgt := 116) hx hb dX6_layHeaps_75 (by decide) (fun c75_1 => ?_) (fun c75_1 => ?_)
    · skip
      have nc75_1 : 11 ≤ r := (nI_leI (a := 11) (b := r) (by omega) (by omega)).mp c75_1
      exact kk0 siz pts _ _ _ (by rw [show r - 1 = 10 by omega] at hz; exact hz) (by rw [show r - 1 = 10 by omega] at hq; exact hq) hP hD hS (lv_sub hl [1, 2] rfl)
    · skip
      have nc75_1 : ¬ (11 ≤ r) := fun z9 => c75_1 ((nI_leI (a := 11) (b := r) (by omega) (by omega)).mpr z9)
      have rk9 := st_rk hsm as (r := r) (by omega) (by omega)
      obtain ⟨g1, g2, g3⟩ := rk9
      refine lv_aload_n hx hb dX6_layHeaps_78 rfl (lv_at hl 2 rfl) ?_
      refine va_get (D := D) (ci := 6) (v := .ref q3) (C := RX6) (T := TX6) (N := 39) hx hb hts in_X6_layHeaps_X6 hown hK hP 0 rfl rfl 21 (by decide) (hts _ wd_X6_layHeaps_3) (fun _ h9 => h9) rfl dX6_layHeaps_79 ?_
      refine lv_iload_n hx hb dX6_layHeaps_82 rfl (lv_at hl 1 rfl) ?_
      refine lv_dup2_11 hx hb dX6_layHeaps_83 rfl rfl ?_
      refine va_iald hx hb hK hP 3 0 rfl rfl (vp_in_nI (by omega) (by decide)) dX6_layHeaps_84 ?_
      refine lv_topi (fun z_2 ez_2 => ?_)
      obtain rfl : z_2 = (nI (siz h)) := ez_2.trans (by rw [nI_clamp (by omega)]; rfl)
      refine lv_aload_n hx hb dX6_layHeaps_85 rfl (lv_at hl 2 rfl) ?_
      refine lv_iload_n hx hb dX6_layHeaps_86 rfl (lv_at hl 1 rfl) ?_
      refine lv_iload_n hx hb dX6_layHeaps_87 rfl (lv_at hl 0 rfl) ?_
      have hPc := hP.sub (ws' := [(m0, .inr (6, [.ref ms, .ref mf, .ref mw, .ref mk, .int (bI mtold), .ref mh, .int (nI hn), .int mup, .int (nI tg), .int stan, .int soft, .int doub, .int spli, .int giv, .int bon, .long drw, .int mbank, .ref q0, .ref q1, .ref q2, .int (nI hp), .ref q3, .ref q4, .ref q5, .ref q6, .ref q7, .int msum, .int (bI hasA), .int mcards, .int mpair, .int (nI sh), .int want, .int mwin, .int (bI isCh), .int mbest, .ref k0, .ref k1, .ref k2, .ref k3])), (q1, .inl (cI, 11, .inl capr)), (q2, .inl (cI, 11, .inl (nA stp)))]) [0, 1, 2] rfl
      refine vp_callSi (W.runV (As := [.int (nI h), .int (nI r)]) (rest := [.int (nI (siz h)), .int (nI h), .ref q3]) ⟨hx, hb, hml, hown, hts⟩ (c_X6_ofRank l D cI cJ cQ m0 ms mf mw mk mtold mh hn mup (nI tg) stan soft doub spli giv bon drw mbank q0 q1 q2 (nI hp) q3 q4 q5 q6 q7 msum hasA mcards mpair (nI sh) want mwin isCh mbest k0 k1 k2 k3 (capr) cap (stp) h r g1 g2 g3 (by omega) (by omega) (by omega) hcp) (cwV 2 hts gX6_layHeaps_X6_ofRank rfl rfl rfl (by decide +kernel) ⟨Nat.le_trans (show 0 + 1 ≤ 1 by omega) hRf, Nat.le_trans (show 8 + (3 + 11) + (0) ≤ 22 by omega) hRl⟩) (rP_preV (ci := 6) (q0 := 0) hPc hK rfl rfl) rfl rfl hl.1 rfl (lv_room (Nat.le_of_ble_eq_true rfl)) dX6_layHeaps_88 ⟨hRc, hRs⟩) (fun r_3 hr_3 => ?_)
      subst hr_3
      refine lv_iadd hx hb dX6_layHeaps_91 ?_
      refine lv_topi (fun z_4 ez_4 => ?_)
      obtain rfl : z_4 = nI ((siz h) + (h / (stp) r % (cap r + 1))) := ez_4.trans (nI_add _ _)
      refine va_iast hx hb hK hP hD hS 3 0 rfl rfl (vp_in_nI (by omega) (by decide)) dX6_layHeaps_92 (fun H locs hP hD hS => ?_)
      have e9 : (upd (nA siz) (nI h).toNatClampNeg (nI ((siz h) + (h / (stp) r % (cap r + 1))))) = nA (updN siz h ((siz h) + (h / (stp) r % (cap r + 1)))) := by rw [nI_clamp (show h < 2 ^ 31 by omega), upd_nA]
      have hP : va_P D vwCl [(m0, .inr (6, [.ref ms, .ref mf, .ref mw, .ref mk, .int (bI mtold), .ref mh, .int (nI hn), .int mup, .int (nI tg), .int stan, .int soft, .int doub, .int spli, .int giv, .int bon, .long drw, .int mbank, .ref q0, .ref q1, .ref q2, .int (nI hp), .ref q3, .ref q4, .ref q5, .ref q6, .ref q7, .int msum, .int (bI hasA), .int mcards, .int mpair, .int (nI sh), .int want, .int mwin, .int (bI isCh), .int mbest, .ref k0, .ref k1, .ref k2, .ref k3])), (q1, .inl (cI, 11, .inl capr)), (q2, .inl (cI, 11, .inl (nA stp))), (q3, .inl (cI, 2400, .inl (nA (updN siz h ((siz h) + (h / (stp) r % (cap r + 1))))))), (q4, .inl (cI, 2400, .inl (nA pts)))] H := by rw [← e9]; exact hP
      have hD : va_D A [(m0, .inr (6, [.ref ms, .ref mf, .ref mw, .ref mk, .int (bI mtold), .ref mh, .int (nI hn), .int mup, .int (nI tg), .int stan, .int soft, .int doub, .int spli, .int giv, .int bon, .long drw, .int mbank, .ref q0, .ref q1, .ref q2, .int (nI hp), .ref q3, .ref q4, .ref q5, .ref q6, .ref q7, .int msum, .int (bI hasA), .int mcards, .int mpair, .int (nI sh), .int want, .int mwin, .int (bI isCh), .int mbest, .ref k0, .ref k1, .ref k2, .ref k3])), (q1, .inl (cI, 11, .inl capr)), (q2, .inl (cI, 11, .inl (nA stp))), (q3, .inl (cI, 2400, .inl (nA (updN siz h ((siz h) + (h / (stp) r % (cap r + 1))))))), (q4, .inl (cI, 2400, .inl (nA pts)))] := by rw [← e9]; exact hD
      clear e9
      refine lv_aload_n hx hb dX6_layHeaps_93 rfl (lv_at hl 2 rfl) ?_
      refine va_get (D := D) (ci := 6) (v := .ref q4) (C := RX6) (T := TX6) (N := 39) hx hb hts in_X6_layHeaps_X6 hown hK hP 0 rfl rfl 22 (by decide) (hts _ wd_X6_layHeaps_4) (fun _ h9 => h9) rfl dX6_layHeaps_94 ?_
      refine lv_iload_n hx hb dX6_layHeaps_97 rfl (lv_at hl 1 rfl) ?_
      refine lv_dup2_11 hx hb dX6_layHeaps_98 rfl rfl ?_
      refine va_iald hx hb hK hP 4 0 rfl rfl (vp_in_nI (by omega) (by decide)) dX6_layHeaps_99 ?_
      refine lv_topi (fun z_5 ez_5 => ?_)
      obtain rfl : z_5 = (nI (pts h)) := ez_5.trans (by rw [nI_clamp (by omega)]; rfl)
      refine lv_iload_n hx hb dX6_layHeaps_100 rfl (lv_at hl 0 rfl) ?_
      refine lv_aload_n hx hb dX6_layHeaps_101 rfl (lv_at hl 2 rfl) ?_
      refine lv_iload_n hx hb dX6_layHeaps_102 rfl (lv_at hl 1 rfl) ?_
      refine lv_iload_n hx hb dX6_layHeaps_103 rfl (lv_at hl 0 rfl) ?_
      have hPc := hP.sub (ws' := [(m0, .inr (6, [.ref ms, .ref mf, .ref mw, .ref mk, .int (bI mtold), .ref mh, .int (nI hn), .int mup, .int (nI tg), .int stan, .int soft, .int doub, .int spli, .int giv, .int bon, .long drw, .int mbank, .ref q0, .ref q1, .ref q2, .int (nI hp), .ref q3, .ref q4, .ref q5, .ref q6, .ref q7, .int msum, .int (bI hasA), .int mcards, .int mpair, .int (nI sh), .int want, .int mwin, .int (bI isCh), .int mbest, .ref k0, .ref k1, .ref k2, .ref k3])), (q1, .inl (cI, 11, .inl capr)), (q2, .inl (cI, 11, .inl (nA stp)))]) [0, 1, 2] rfl
      refine vp_callSi (W.runV (As := [.int (nI h), .int (nI r)]) (rest := [.int (nI r), .int (nI (pts h)), .int (nI h), .ref q4]) ⟨hx, hb, hml, hown, hts⟩ (c_X6_ofRank l D cI cJ cQ m0 ms mf mw mk mtold mh hn mup (nI tg) stan soft doub spli giv bon drw mbank q0 q1 q2 (nI hp) q3 q4 q5 q6 q7 msum hasA mcards mpair (nI sh) want mwin isCh mbest k0 k1 k2 k3 (capr) cap (stp) h r g1 g2 g3 (by omega) (by omega) (by omega) hcp) (cwV 2 hts gX6_layHeaps_X6_ofRank rfl rfl rfl (by decide +kernel) ⟨Nat.le_trans (show 0 + 1 ≤ 1 by omega) hRf, Nat.le_trans (show 8 + (3 + 11) + (0) ≤ 22 by omega) hRl⟩) (rP_preV (ci := 6) (q0 := 0) hPc hK rfl rfl) rfl rfl hl.1 rfl (lv_room (Nat.le_of_ble_eq_true rfl)) dX6_layHeaps_104 ⟨hRc, hRs⟩) (fun r_6 hr_6 => ?_)
      subst hr_6
      refine lv_imul hx hb dX6_layHeaps_107 ?_
      refine lv_topi (fun z_7 ez_7 => ?_)
      obtain rfl : z_7 = nI (r * (h / (stp) r % (cap r + 1))) := ez_7.trans (nI_mulT _ _)
      refine lv_iadd hx hb dX6_layHeaps_108 ?_
      refine lv_topi (fun z_8 ez_8 => ?_)
      obtain rfl : z_8 = nI ((pts h) + (r * (h / (stp) r % (cap r + 1)))) := ez_8.trans (nI_add _ _)
      refine va_iast hx hb hK hP hD hS 4 0 rfl rfl (vp_in_nI (by omega) (by decide)) dX6_layHeaps_109 (fun H locs hP hD hS => ?_)
      have e9 : (upd (nA pts) (nI h).toNatClampNeg (nI ((pts h) + (r * (h / (stp) r % (cap r + 1)))))) = nA (updN pts h ((pts h) + (r * (h / (stp) r % (cap r + 1))))) := by rw [nI_clamp (show h < 2 ^ 31 by omega), upd_nA]
      have hP : va_P D vwCl [(m0, .inr (6, [.ref ms, .ref mf, .ref mw, .ref mk, .int (bI mtold), .ref mh, .int (nI hn), .int mup, .int (nI tg), .int stan, .int soft, .int doub, .int spli, .int giv, .int bon, .long drw, .int mbank, .ref q0, .ref q1, .ref q2, .int (nI hp), .ref q3, .ref q4, .ref q5, .ref q6, .ref q7, .int msum, .int (bI hasA), .int mcards, .int mpair, .int (nI sh), .int want, .int mwin, .int (bI isCh), .int mbest, .ref k0, .ref k1, .ref k2, .ref k3])), (q1, .inl (cI, 11, .inl capr)), (q2, .inl (cI, 11, .inl (nA stp))), (q3, .inl (cI, 2400, .inl (nA (updN siz h ((siz h) + (h / (stp) r % (cap r + 1))))))), (q4, .inl (cI, 2400, .inl (nA (updN pts h ((pts h) + (r * (h / (stp) r % (cap r + 1))))))))] H := by rw [← e9]; exact hP
      have hD : va_D A [(m0, .inr (6, [.ref ms, .ref mf, .ref mw, .ref mk, .int (bI mtold), .ref mh, .int (nI hn), .int mup, .int (nI tg), .int stan, .int soft, .int doub, .int spli, .int giv, .int bon, .long drw, .int mbank, .ref q0, .ref q1, .ref q2, .int (nI hp), .ref q3, .ref q4, .ref q5, .ref q6, .ref q7, .int msum, .int (bI hasA), .int mcards, .int mpair, .int (nI sh), .int want, .int mwin, .int (bI isCh), .int mbest, .ref k0, .ref k1, .ref k2, .ref k3])), (q1, .inl (cI, 11, .inl capr)), (q2, .inl (cI, 11, .inl (nA stp))), (q3, .inl (cI, 2400, .inl (nA (updN siz h ((siz h) + (h / (stp) r % (cap r + 1))))))), (q4, .inl (cI, 2400, .inl (nA (updN pts h ((pts h) + (r * (h / (stp) r % (cap r + 1))))))))] := by rw [← e9]; exact hD
      clear e9
      refine lv_iinc (v := (nI (r + 1))) (lv' := [(2, .int (nI (r + 1))), (1, .int (nI h)), (0, .ref m0)]) hx hb dX6_layHeaps_110 hl (k := 0) rfl (nI_incT (by decide)) (by decide) rfl (fun ls hl => ?_)
      refine lv_goto (tgt := 72) hx hb dX6_layHeaps_113 (by decide) ?_
      exact ih (r + 1) (updN siz h ((siz h) + (h / (stp) r % (cap r + 1)))) (updN pts h ((pts h) + (r * (h / (stp) r % (cap r + 1))))) _ _ _ (by omega) (by omega) (by omega) (upN_sz (by omega) (as r (by omega) (by omega)) hz) (upN_pt (by omega) (as r (by omega) (by omega)) hq) hP hD hS (lv_sub hl [0, 1, 2] rfl) kk0


set_option maxHeartbeats 400000 in
set_option maxRecDepth 100000 in
theorem lpLay2 {p : Program} {l : Launch} {e : Env} {R : Room} {s : State} {m : MethodId} {args : Array Value} {below : List Frame} {meth : Method} {c : Code} {Q : State → Prop} {D : va_G} {cI cJ cQ : ClassId} {A : Nat → Prop} {cells slots : Nat} (hx : p.tables.exec = Jvm.exec) (hb : c.code = cX6_layHeaps) (hml : c.maxLocals = 3) (hown : s.vm.findClass RX6 = some m.cls) (hts : ∀ w ∈ wsX6_layHeaps, w.before args s = true) (hK : va_K D vwCl (gTy cI cJ cQ) s) (hA : ∀ q : Nat, s.heap.size ≤ q → A q) (m0 : Nat) (ms : Nat) (mf : Nat) (mw : Nat) (mk : Nat) (mtold : Bool) (mh : Nat) (hn : Nat) (mup : Int32) (tg : Nat) (stan : Int32) (soft : Int32) (doub : Int32) (spli : Int32) (giv : Int32) (bon : Int32) (drw : Int64) (mbank : Int32) (q0 : Nat) (q1 : Nat) (q2 : Nat) (hp : Nat) (q3 : Nat) (q4 : Nat) (q5 : Nat) (q6 : Nat) (q7 : Nat) (msum : Int32) (hasA : Bool) (mcards : Int32) (mpair : Int32) (sh : Nat) (want : Int32) (mwin : Int32) (isCh : Bool) (mbest : Int32) (k0 : Nat) (k1 : Nat) (k2 : Nat) (k3 : Nat) (capr : Nat → Int32) (cap : Nat → Nat) (stp : Nat → Nat) (hRf : 1 ≤ R.frames) (hRl : 22 ≤ R.locals) (hRc : cells ≤ R.cells) (hRs : slots ≤ R.slots) (hcp : ∀ j, 1 ≤ j → j ≤ 10 → capr j = nI (cap j)) (hsm : smN cap ≤ 12) (as : ∀ j, 1 ≤ j → j ≤ 10 → stp j = hpN cap (j - 1)) (ah : hp = hpN cap 10) (hp4 : hp ≤ 2304) : ∀ (n9 : Nat) (h : Nat) (siz : Nat → Nat) (pts : Nat → Nat) (H : Heap) (locs : List Loc) (ls : Array Slot), hp - h < n9 → (h ≤ hp) → (∀ j, j < h → siz j = szN cap j 10 ∧ pts j = ptN cap j 10) → va_P D vwCl [(m0, .inr (6, [.ref ms, .ref mf, .ref mw, .ref mk, .int (bI mtold), .ref mh, .int (nI hn), .int mup, .int (nI tg), .int stan, .int soft, .int doub, .int spli, .int giv, .int bon, .long drw, .int mbank, .ref q0, .ref q1, .ref q2, .int (nI hp), .ref q3, .ref q4, .ref q5, .ref q6, .ref q7, .int msum, .int (bI hasA), .int mcards, .int mpair, .int (nI sh), .int want, .int mwin, .int (bI isCh), .int mbest, .ref k0, .ref k1, .ref k2, .ref k3])), (q1, .inl (cI, 11, .inl capr)), (q2, .inl (cI, 11, .inl (nA stp))), (q3, .inl (cI, 2400, .inl (nA siz))), (q4, .inl (cI, 2400, .inl (nA pts)))] H → va_D A [(m0, .inr (6, [.ref ms, .ref mf, .ref mw, .ref mk, .int (bI mtold), .ref mh, .int (nI hn), .int mup, .int (nI tg), .int stan, .int soft, .int doub, .int spli, .int giv, .int bon, .long drw, .int mbank, .ref q0, .ref q1, .ref q2, .int (nI hp), .ref q3, .ref q4, .ref q5, .ref q6, .ref q7, .int msum, .int (bI hasA), .int mcards, .int mpair, .int (nI sh), .int want, .int mwin, .int (bI isCh), .int mbest, .ref k0, .ref k1, .ref k2, .ref k3])), (q1, .inl (cI, 11, .inl capr)), (q2, .inl (cI, 11, .inl (nA stp))), (q3, .inl (cI, 2400, .inl (nA siz))), (q4, .inl (cI, 2400, .inl (nA pts)))] → va_S A s.heap H locs → lv_has ls 3 [(1, .int (nI h)), (0, .ref m0)] → (∀ (siz : Nat → Nat) (pts : Nat → Nat) (H : Heap) (locs : List Loc) (ls : Array Slot), (∀ j, j < hp → siz j = szN cap j 10 ∧ pts j = ptN cap j 10) → va_P D vwCl [(m0, .inr (6, [.ref ms, .ref mf, .ref mw, .ref mk, .int (bI mtold), .ref mh, .int (nI hn), .int mup, .int (nI tg), .int stan, .int soft, .int doub, .int spli, .int giv, .int bon, .long drw, .int mbank, .ref q0, .ref q1, .ref q2, .int (nI hp), .ref q3, .ref q4, .ref q5, .ref q6, .ref q7, .int msum, .int (bI hasA), .int mcards, .int mpair, .int (nI sh), .int want, .int mwin, .int (bI isCh), .int mbest, .ref k0, .ref k1, .ref k2, .ref k3])), (q1, .inl (cI, 11, .inl capr)), (q2, .inl (cI, 11, .inl (nA stp))), (q3, .inl (cI, 2400, .inl (nA siz))), (q4, .inl (cI, 2400, .inl (nA pts)))] H → va_D A [(m0, .inr (6, [.ref ms, .ref mf, .ref mw, .ref mk, .int (bI mtold), .ref mh, .int (nI hn), .int mup, .int (nI tg), .int stan, .int soft, .int doub, .int spli, .int giv, .int bon, .long drw, .int mbank, .ref q0, .ref q1, .ref q2, .int (nI hp), .ref q3, .ref q4, .ref q5, .ref q6, .ref q7, .int msum, .int (bI hasA), .int mcards, .int mpair, .int (nI sh), .int want, .int mwin, .int (bI isCh), .int mbest, .ref k0, .ref k1, .ref k2, .ref k3])), (q1, .inl (cI, 11, .inl capr)), (q2, .inl (cI, 11, .inl (nA stp))), (q3, .inl (cI, 2400, .inl (nA siz))), (q4, .inl (cI, 2400, .inl (nA pts)))] → va_S A s.heap H locs → lv_has ls 3 [(0, .ref m0)] → W p l e R s m args below meth c H locs cells slots Q (F0 m 122 ls [])) → W p l e R s m args below meth c H locs cells slots Q (F0 m 48 ls []) := by
  intro n9
  induction n9 with
  | zero => intro h siz pts H locs ls hms9; exact absurd hms9 (Nat.not_lt_zero _)
  | succ n9 ih =>
    intro h siz pts H locs ls hms9 h2 hz hP hD hS hl kk0
    refine lv_iload_n hx hb dX6_layHeaps_48 rfl (lv_at hl 0 rfl) ?_
    refine lv_aload_n hx hb dX6_layHeaps_49 rfl (lv_at hl 1 rfl) ?_
    refine va_get (D := D) (ci := 6) (v := .int (nI hp)) (C := RX6) (T := TX6) (N := 39) hx hb hts in_X6_layHeaps_X6 hown hK hP 0 rfl rfl 20 (by decide) (hts _ wd_X6_layHeaps_1) (fun _ h9 => h9) rfl dX6_layHeaps_50 ?_
    refine lv_icmp_ge (tgt := 122) hx hb dX6_layHeaps_53 (by decide) (fun c53_1 => ?_) (fun c53_1 => ?_)
    · skip
      have nc53_1 : hp ≤ h := (nI_leI (a := hp) (b := h) (by omega) (by omega)).mp c53_1
      exact kk0 siz pts _ _ _ (fun j a => hz j (by omega)) hP hD hS (lv_sub hl [1] rfl)
    · skip
      have nc53_1 : ¬ (hp ≤ h) := fun z9 => c53_1 ((nI_leI (a := hp) (b := h) (by omega) (by omega)).mpr z9)
      refine lv_aload_n hx hb dX6_layHeaps_56 rfl (lv_at hl 1 rfl) ?_
      refine va_get (D := D) (ci := 6) (v := .ref q3) (C := RX6) (T := TX6) (N := 39) hx hb hts in_X6_layHeaps_X6 hown hK hP 0 rfl rfl 21 (by decide) (hts _ wd_X6_layHeaps_3) (fun _ h9 => h9) rfl dX6_layHeaps_57 ?_
      refine lv_iload_n hx hb dX6_layHeaps_60 rfl (lv_at hl 0 rfl) ?_
      refine lv_iconst (v := 0) hx hb dX6_layHeaps_61 (by decide) ?_
      refine va_iast hx hb hK hP hD hS 3 0 rfl rfl (vp_in_nI (by omega) (by decide)) dX6_layHeaps_62 (fun H locs hP hD hS => ?_)
      have e9 : (upd (nA siz) (nI h).toNatClampNeg (nI 0)) = nA (updN siz h 0) := by rw [nI_clamp (show h < 2 ^ 31 by omega), upd_nA]
      have hP : va_P D vwCl [(m0, .inr (6, [.ref ms, .ref mf, .ref mw, .ref mk, .int (bI mtold), .ref mh, .int (nI hn), .int mup, .int (nI tg), .int stan, .int soft, .int doub, .int spli, .int giv, .int bon, .long drw, .int mbank, .ref q0, .ref q1, .ref q2, .int (nI hp), .ref q3, .ref q4, .ref q5, .ref q6, .ref q7, .int msum, .int (bI hasA), .int mcards, .int mpair, .int (nI sh), .int want, .int mwin, .int (bI isCh), .int mbest, .ref k0, .ref k1, .ref k2, .ref k3])), (q1, .inl (cI, 11, .inl capr)), (q2, .inl (cI, 11, .inl (nA stp))), (q3, .inl (cI, 2400, .inl (nA (updN siz h 0)))), (q4, .inl (cI, 2400, .inl (nA pts)))] H := by rw [← e9]; exact hP
      have hD : va_D A [(m0, .inr (6, [.ref ms, .ref mf, .ref mw, .ref mk, .int (bI mtold), .ref mh, .int (nI hn), .int mup, .int (nI tg), .int stan, .int soft, .int doub, .int spli, .int giv, .int bon, .long drw, .int mbank, .ref q0, .ref q1, .ref q2, .int (nI hp), .ref q3, .ref q4, .ref q5, .ref q6, .ref q7, .int msum, .int (bI hasA), .int mcards, .int mpair, .int (nI sh), .int want, .int mwin, .int (bI isCh), .int mbest, .ref k0, .ref k1, .ref k2, .ref k3])), (q1, .inl (cI, 11, .inl capr)), (q2, .inl (cI, 11, .inl (nA stp))), (q3, .inl (cI, 2400, .inl (nA (updN siz h 0)))), (q4, .inl (cI, 2400, .inl (nA pts)))] := by rw [← e9]; exact hD
      clear e9
      refine lv_aload_n hx hb dX6_layHeaps_63 rfl (lv_at hl 1 rfl) ?_
      refine va_get (D := D) (ci := 6) (v := .ref q4) (C := RX6) (T := TX6) (N := 39) hx hb hts in_X6_layHeaps_X6 hown hK hP 0 rfl rfl 22 (by decide) (hts _ wd_X6_layHeaps_4) (fun _ h9 => h9) rfl dX6_layHeaps_64 ?_
      refine lv_iload_n hx hb dX6_layHeaps_67 rfl (lv_at hl 0 rfl) ?_
      refine lv_iconst (v := 0) hx hb dX6_layHeaps_68 (by decide) ?_
      refine va_iast hx hb hK hP hD hS 4 0 rfl rfl (vp_in_nI (by omega) (by decide)) dX6_layHeaps_69 (fun H locs hP hD hS => ?_)
      have e9 : (upd (nA pts) (nI h).toNatClampNeg (nI 0)) = nA (updN pts h 0) := by rw [nI_clamp (show h < 2 ^ 31 by omega), upd_nA]
      have hP : va_P D vwCl [(m0, .inr (6, [.ref ms, .ref mf, .ref mw, .ref mk, .int (bI mtold), .ref mh, .int (nI hn), .int mup, .int (nI tg), .int stan, .int soft, .int doub, .int spli, .int giv, .int bon, .long drw, .int mbank, .ref q0, .ref q1, .ref q2, .int (nI hp), .ref q3, .ref q4, .ref q5, .ref q6, .ref q7, .int msum, .int (bI hasA), .int mcards, .int mpair, .int (nI sh), .int want, .int mwin, .int (bI isCh), .int mbest, .ref k0, .ref k1, .ref k2, .ref k3])), (q1, .inl (cI, 11, .inl capr)), (q2, .inl (cI, 11, .inl (nA stp))), (q3, .inl (cI, 2400, .inl (nA (updN siz h 0)))), (q4, .inl (cI, 2400, .inl (nA (updN pts h 0))))] H := by rw [← e9]; exact hP
      have hD : va_D A [(m0, .inr (6, [.ref ms, .ref mf, .ref mw, .ref mk, .int (bI mtold), .ref mh, .int (nI hn), .int mup, .int (nI tg), .int stan, .int soft, .int doub, .int spli, .int giv, .int bon, .long drw, .int mbank, .ref q0, .ref q1, .ref q2, .int (nI hp), .ref q3, .ref q4, .ref q5, .ref q6, .ref q7, .int msum, .int (bI hasA), .int mcards, .int mpair, .int (nI sh), .int want, .int mwin, .int (bI isCh), .int mbest, .ref k0, .ref k1, .ref k2, .ref k3])), (q1, .inl (cI, 11, .inl capr)), (q2, .inl (cI, 11, .inl (nA stp))), (q3, .inl (cI, 2400, .inl (nA (updN siz h 0)))), (q4, .inl (cI, 2400, .inl (nA (updN pts h 0))))] := by rw [← e9]; exact hD
      clear e9
      refine lv_iconst (v := 1) hx hb dX6_layHeaps_70 (by decide) ?_
      refine lv_istore_n (lv' := [(2, .int 1), (1, .int (nI h)), (0, .ref m0)]) hx hb dX6_layHeaps_71 rfl hl (by decide) rfl (fun ls hl => ?_)
      refine lpLay3 hx hb hml hown hts hK hA m0 ms mf mw mk mtold mh hn mup tg stan soft doub spli giv bon drw mbank q0 q1 q2 hp q3 q4 q5 q6 q7 msum hasA mcards mpair sh want mwin isCh mbest k0 k1 k2 k3 capr cap stp h siz pts (Nat.le_trans (show 1 ≤ 1 by omega) hRf) (Nat.le_trans (show 22 ≤ 22 by omega) hRl) hRc hRs hcp hsm as ah hp4 (by omega) (11 - 1 + 1) 1 (updN siz h 0) (updN pts h 0) _ _ _ (Nat.lt_succ_self _) (by omega) (by omega) ⟨if_pos rfl, fun j a => if_neg (by omega)⟩ ⟨if_pos rfl, fun j a => if_neg (by omega)⟩ hP hD hS (lv_sub hl [0, 1, 2] rfl) (fun siz_2 pts_3 H locs ls hz_4 hq_5 hP hD hS hl => ?_)
      have hP : va_P D vwCl [(m0, .inr (6, [.ref ms, .ref mf, .ref mw, .ref mk, .int (bI mtold), .ref mh, .int (nI hn), .int mup, .int (nI tg), .int stan, .int soft, .int doub, .int spli, .int giv, .int bon, .long drw, .int mbank, .ref q0, .ref q1, .ref q2, .int (nI hp), .ref q3, .ref q4, .ref q5, .ref q6, .ref q7, .int msum, .int (bI hasA), .int mcards, .int mpair, .int (nI sh), .int want, .int mwin, .int (bI isCh), .int mbest, .ref k0, .ref k1, .ref k2, .ref k3])), (q1, .inl (cI, 11, .inl capr)), (q2, .inl (cI, 11, .inl (nA stp))), (q3, .inl (cI, 2400, .inl (nA siz_2))), (q4, .inl (cI, 2400, .inl (nA pts_3)))] H := hP
      have hD : va_D A [(m0, .inr (6, [.ref ms, .ref mf, .ref mw, .ref mk, .int (bI mtold), .ref mh, .int (nI hn), .int mup, .int (nI tg), .int stan, .int soft, .int doub, .int spli, .int giv, .int bon, .long drw, .int mbank, .ref q0, .ref q1, .ref q2, .int (nI hp), .ref q3, .ref q4, .ref q5, .ref q6, .ref q7, .int msum, .int (bI hasA), .int mcards, .int mpair, .int (nI sh), .int want, .int mwin, .int (bI isCh), .int mbest, .ref k0, .ref k1, .ref k2, .ref k3])), (q1, .inl (cI, 11, .inl capr)), (q2, .inl (cI, 11, .inl (nA stp))), (q3, .inl (cI, 2400, .inl (nA siz_2))), (q4, .inl (cI, 2400, .inl (nA pts_3)))] := hD
      refine lv_iinc (v := (nI (h + 1))) (lv' := [(1, .int (nI (h + 1))), (0, .ref m0)]) hx hb dX6_layHeaps_116 hl (k := 0) rfl (nI_incT (by decide)) (by decide) rfl (fun ls hl => ?_)
      refine lv_goto (tgt := 48) hx hb dX6_layHeaps_119 (by decide) ?_
      exact ih (h + 1) siz_2 pts_3 _ _ _ (by omega) (by omega) (lay_step hz hz_4 hq_5) hP hD hS (lv_sub hl [0, 1] rfl) kk0

set_option maxHeartbeats 400000 in
set_option maxRecDepth 100000 in
/-- X6_layHeaps -/
theorem c_X6_layHeaps (l : Launch) (D : va_G) (cI cJ cQ : ClassId) (sz : Nat) (m0 : Nat) (ms : Nat) (mf : Nat) (mw : Nat) (mk : Nat) (mtold : Bool) (mh : Nat) (hn : Nat) (mup : Int32) (tg : Nat) (stan : Int32) (soft : Int32) (doub : Int32) (spli : Int32) (giv : Int32) (bon : Int32) (drw : Int64) (mbank : Int32) (q0 : Nat) (q1 : Nat) (q2 : Nat) (hp : Nat) (q3 : Nat) (q4 : Nat) (q5 : Nat) (q6 : Nat) (q7 : Nat) (msum : Int32) (hasA : Bool) (mcards : Int32) (mpair : Int32) (sh : Nat) (want : Int32) (mwin : Int32) (isCh : Bool) (mbest : Int32) (k0 : Nat) (k1 : Nat) (k2 : Nat) (k3 : Nat) (capr : Nat → Int32) (cap : Nat → Nat) (stp : Nat → Nat) (siz : Nat → Nat) (pts : Nat → Nat) (hcp : ∀ j, 1 ≤ j → j ≤ 10 → capr j = nI (cap j)) (hsm : smN cap ≤ 12) : Met l yX6_layHeaps wsX6_layHeaps ({ frames := 1, cells := 0, slots := 0, locals := 22 }) (va_Pc [.ref m0] (mP D (gTy cI cJ cQ) [(m0, .inr (6, [.ref ms, .ref mf, .ref mw, .ref mk, .int (bI mtold), .ref mh, .int (nI hn), .int mup, .int (nI tg), .int stan, .int soft, .int doub, .int spli, .int giv, .int bon, .long drw, .int mbank, .ref q0, .ref q1, .ref q2, .int (nI hp), .ref q3, .ref q4, .ref q5, .ref q6, .ref q7, .int msum, .int (bI hasA), .int mcards, .int mpair, .int (nI sh), .int want, .int mwin, .int (bI isCh), .int mbest, .ref k0, .ref k1, .ref k2, .ref k3])), (q1, .inl (cI, 11, .inl capr)), (q2, .inl (cI, 11, .inl (nA stp))), (q3, .inl (cI, 2400, .inl (nA siz))), (q4, .inl (cI, 2400, .inl (nA pts)))] sz)) (va_Qv (fun (u : Nat × (Nat → Nat) × (Nat → Nat) × (Nat → Nat)) => match u with | (hp2, stp2, siz2, pts2) => LaidP cap stp2 hp2 siz2 pts2) (fun (u : Nat × (Nat → Nat) × (Nat → Nat) × (Nat → Nat)) t => match u with | (hp2, stp2, siz2, pts2) => mB D (gTy cI cJ cQ) (va_A [(m0, .inr (6, [.ref ms, .ref mf, .ref mw, .ref mk, .int (bI mtold), .ref mh, .int (nI hn), .int mup, .int (nI tg), .int stan, .int soft, .int doub, .int spli, .int giv, .int bon, .long drw, .int mbank, .ref q0, .ref q1, .ref q2, .int (nI hp), .ref q3, .ref q4, .ref q5, .ref q6, .ref q7, .int msum, .int (bI hasA), .int mcards, .int mpair, .int (nI sh), .int want, .int mwin, .int (bI isCh), .int mbest, .ref k0, .ref k1, .ref k2, .ref k3])), (q1, .inl (cI, 11, .inl capr)), (q2, .inl (cI, 11, .inl (nA stp))), (q3, .inl (cI, 2400, .inl (nA siz))), (q4, .inl (cI, 2400, .inl (nA pts)))] sz) [(m0, .inr (6, [.ref ms, .ref mf, .ref mw, .ref mk, .int (bI mtold), .ref mh, .int (nI hn), .int mup, .int (nI tg), .int stan, .int soft, .int doub, .int spli, .int giv, .int bon, .long drw, .int mbank, .ref q0, .ref q1, .ref q2, .int (nI hp2), .ref q3, .ref q4, .ref q5, .ref q6, .ref q7, .int msum, .int (bI hasA), .int mcards, .int mpair, .int (nI sh), .int want, .int mwin, .int (bI isCh), .int mbest, .ref k0, .ref k1, .ref k2, .ref k3])), (q1, .inl (cI, 11, .inl capr)), (q2, .inl (cI, 11, .inl (nA stp2))), (q3, .inl (cI, 2400, .inl (nA siz2))), (q4, .inl (cI, 2400, .inl (nA pts2)))] t) (va_A [(m0, .inr (6, [.ref ms, .ref mf, .ref mw, .ref mk, .int (bI mtold), .ref mh, .int (nI hn), .int mup, .int (nI tg), .int stan, .int soft, .int doub, .int spli, .int giv, .int bon, .long drw, .int mbank, .ref q0, .ref q1, .ref q2, .int (nI hp), .ref q3, .ref q4, .ref q5, .ref q6, .ref q7, .int msum, .int (bI hasA), .int mcards, .int mpair, .int (nI sh), .int want, .int mwin, .int (bI isCh), .int mbest, .ref k0, .ref k1, .ref k2, .ref k3])), (q1, .inl (cI, 11, .inl capr)), (q2, .inl (cI, 11, .inl (nA stp))), (q3, .inl (cI, 2400, .inl (nA siz))), (q4, .inl (cI, 2400, .inl (nA pts)))] sz)) 0 0 (va_A [(m0, .inr (6, [.ref ms, .ref mf, .ref mw, .ref mk, .int (bI mtold), .ref mh, .int (nI hn), .int mup, .int (nI tg), .int stan, .int soft, .int doub, .int spli, .int giv, .int bon, .long drw, .int mbank, .ref q0, .ref q1, .ref q2, .int (nI hp), .ref q3, .ref q4, .ref q5, .ref q6, .ref q7, .int msum, .int (bI hasA), .int mcards, .int mpair, .int (nI sh), .int want, .int mwin, .int (bI isCh), .int mbest, .ref k0, .ref k1, .ref k2, .ref k3])), (q1, .inl (cI, 11, .inl capr)), (q2, .inl (cI, 11, .inl (nA stp))), (q3, .inl (cI, 2400, .inl (nA siz))), (q4, .inl (cI, 2400, .inl (nA pts)))] sz) := by
  refine Met.ofW (cc := cX6_layHeaps) (maxL := 3) (ret := none) (by decide) rfl ?_
  intro p e s m args below meth c s₁ B hml hv
  obtain ⟨rfl, hsz, hP, hK, hD0⟩ := hv
  have hx := B.exec
  have hb := B.bytes
  have hr := B.returns
  have hts := atoms_spec (ws := wsX6_layHeaps) B.pre
  have hown : s.vm.findClass RX6 = some m.cls := findClass_of_methodNamed B.named
  have hlocks := B.notSynchronized
  subst hsz
  have hD := hD0.self (sz := s.heap.size)
  generalize hAe : va_A [(m0, .inr (6, [.ref ms, .ref mf, .ref mw, .ref mk, .int (bI mtold), .ref mh, .int (nI hn), .int mup, .int (nI tg), .int stan, .int soft, .int doub, .int spli, .int giv, .int bon, .long drw, .int mbank, .ref q0, .ref q1, .ref q2, .int (nI hp), .ref q3, .ref q4, .ref q5, .ref q6, .ref q7, .int msum, .int (bI hasA), .int mcards, .int mpair, .int (nI sh), .int want, .int mwin, .int (bI isCh), .int mbest, .ref k0, .ref k1, .ref k2, .ref k3])), (q1, .inl (cI, 11, .inl capr)), (q2, .inl (cI, 11, .inl (nA stp))), (q3, .inl (cI, 2400, .inl (nA siz))), (q4, .inl (cI, 2400, .inl (nA pts)))] s.heap.size = A at hD ⊢
  have hA : ∀ q : Nat, s.heap.size ≤ q → A q := fun q h => by rw [← hAe]; exact Or.inr h
  have hS : va_S A s.heap s.heap [] := va_S.rf
  have hP : va_P D vwCl [(m0, .inr (6, [.ref ms, .ref mf, .ref mw, .ref mk, .int (bI mtold), .ref mh, .int (nI hn), .int mup, .int (nI tg), .int stan, .int soft, .int doub, .int spli, .int giv, .int bon, .long drw, .int mbank, .ref q0, .ref q1, .ref q2, .int (nI hp), .ref q3, .ref q4, .ref q5, .ref q6, .ref q7, .int msum, .int (bI hasA), .int mcards, .int mpair, .int (nI sh), .int want, .int mwin, .int (bI isCh), .int mbest, .ref k0, .ref k1, .ref k2, .ref k3])), (q1, .inl (cI, 11, .inl capr)), (q2, .inl (cI, 11, .inl (nA stp))), (q3, .inl (cI, 2400, .inl (nA siz))), (q4, .inl (cI, 2400, .inl (nA pts)))] s.heap := hP
  have hl := lv_entry ([.ref m0]) (n := 3) (Nat.le_of_ble_eq_true rfl)
  rw [lg_entry_eq]
  generalize (lg_sl ([.ref m0]) ++ List.replicate (3 - (lg_sl ([.ref m0])).length) Slot.unset).toArray = ls at hl ⊢
  have hl : lv_has ls 3 [(0, .ref m0)] := hl
  refine lv_aload_n hx hb dX6_layHeaps_0 rfl (lv_at hl 0 rfl) ?_
  refine lv_iconst (v := 1) hx hb dX6_layHeaps_1 (by decide) ?_
  refine va_put (D := D) (ci := 6) (v := .int 1) (ty := .int) (C := RX6) (T := TX6) (N := 39) hx hb hts in_X6_layHeaps_X6 tyX6 tyX6_ok nmX6 hown hK hP hD hS 0 rfl rfl 20 (by decide) (hts _ wd_X6_layHeaps_1) (fun _ h9 => h9) rfl (by decide +kernel) rfl rfl (Nat.le_of_ble_eq_true rfl) dX6_layHeaps_2 (fun H locs hP hD hS => ?_)
  have hP : va_P D vwCl [(m0, .inr (6, [.ref ms, .ref mf, .ref mw, .ref mk, .int (bI mtold), .ref mh, .int (nI hn), .int mup, .int (nI tg), .int stan, .int soft, .int doub, .int spli, .int giv, .int bon, .long drw, .int mbank, .ref q0, .ref q1, .ref q2, .int 1, .ref q3, .ref q4, .ref q5, .ref q6, .ref q7, .int msum, .int (bI hasA), .int mcards, .int mpair, .int (nI sh), .int want, .int mwin, .int (bI isCh), .int mbest, .ref k0, .ref k1, .ref k2, .ref k3])), (q1, .inl (cI, 11, .inl capr)), (q2, .inl (cI, 11, .inl (nA stp))), (q3, .inl (cI, 2400, .inl (nA siz))), (q4, .inl (cI, 2400, .inl (nA pts)))] H := hP
  have hD : va_D A [(m0, .inr (6, [.ref ms, .ref mf, .ref mw, .ref mk, .int (bI mtold), .ref mh, .int (nI hn), .int mup, .int (nI tg), .int stan, .int soft, .int doub, .int spli, .int giv, .int bon, .long drw, .int mbank, .ref q0, .ref q1, .ref q2, .int 1, .ref q3, .ref q4, .ref q5, .ref q6, .ref q7, .int msum, .int (bI hasA), .int mcards, .int mpair, .int (nI sh), .int want, .int mwin, .int (bI isCh), .int mbest, .ref k0, .ref k1, .ref k2, .ref k3])), (q1, .inl (cI, 11, .inl capr)), (q2, .inl (cI, 11, .inl (nA stp))), (q3, .inl (cI, 2400, .inl (nA siz))), (q4, .inl (cI, 2400, .inl (nA pts)))] := hD
  refine lv_iconst (v := 1) hx hb dX6_layHeaps_5 (by decide) ?_
  refine lv_istore_n (lv' := [(1, .int 1), (0, .ref m0)]) hx hb dX6_layHeaps_6 rfl hl (by decide) rfl (fun ls hl => ?_)
  refine lpLay1 hx hb hml hown hts hK hA m0 ms mf mw mk mtold mh hn mup tg stan soft doub spli giv bon drw mbank q0 q1 q2 q3 q4 q5 q6 q7 msum hasA mcards mpair sh want mwin isCh mbest k0 k1 k2 k3 capr cap siz pts (Nat.le_of_ble_eq_true rfl) (Nat.le_of_ble_eq_true rfl) (Nat.zero_le _) (Nat.zero_le _) hcp (11 - 1 + 1) 1 1 stp _ _ _ (Nat.lt_succ_self _) (by omega) (by omega) rfl (fun j a b => absurd b (by omega)) hP hD hS (lv_sub hl [0, 1] rfl) (fun hp_1 stp_2 H locs ls ah_3 as_4 hP hD hS hl => ?_)
  have hP : va_P D vwCl [(m0, .inr (6, [.ref ms, .ref mf, .ref mw, .ref mk, .int (bI mtold), .ref mh, .int (nI hn), .int mup, .int (nI tg), .int stan, .int soft, .int doub, .int spli, .int giv, .int bon, .long drw, .int mbank, .ref q0, .ref q1, .ref q2, .int (nI hp_1), .ref q3, .ref q4, .ref q5, .ref q6, .ref q7, .int msum, .int (bI hasA), .int mcards, .int mpair, .int (nI sh), .int want, .int mwin, .int (bI isCh), .int mbest, .ref k0, .ref k1, .ref k2, .ref k3])), (q1, .inl (cI, 11, .inl capr)), (q2, .inl (cI, 11, .inl (nA stp_2))), (q3, .inl (cI, 2400, .inl (nA siz))), (q4, .inl (cI, 2400, .inl (nA pts)))] H := hP
  have hD : va_D A [(m0, .inr (6, [.ref ms, .ref mf, .ref mw, .ref mk, .int (bI mtold), .ref mh, .int (nI hn), .int mup, .int (nI tg), .int stan, .int soft, .int doub, .int spli, .int giv, .int bon, .long drw, .int mbank, .ref q0, .ref q1, .ref q2, .int (nI hp_1), .ref q3, .ref q4, .ref q5, .ref q6, .ref q7, .int msum, .int (bI hasA), .int mcards, .int mpair, .int (nI sh), .int want, .int mwin, .int (bI isCh), .int mbest, .ref k0, .ref k1, .ref k2, .ref k3])), (q1, .inl (cI, 11, .inl capr)), (q2, .inl (cI, 11, .inl (nA stp_2))), (q3, .inl (cI, 2400, .inl (nA siz))), (q4, .inl (cI, 2400, .inl (nA pts)))] := hD
  refine lv_iconst (v := 0) hx hb dX6_layHeaps_46 (by decide) ?_
  refine lv_istore_n (lv' := [(1, .int 0), (0, .ref m0)]) hx hb dX6_layHeaps_47 rfl hl (by decide) rfl (fun ls hl => ?_)
  refine lpLay2 hx hb hml hown hts hK hA m0 ms mf mw mk mtold mh hn mup tg stan soft doub spli giv bon drw mbank q0 q1 q2 hp_1 q3 q4 q5 q6 q7 msum hasA mcards mpair sh want mwin isCh mbest k0 k1 k2 k3 capr cap stp_2 (Nat.le_of_ble_eq_true rfl) (Nat.le_of_ble_eq_true rfl) (Nat.zero_le _) (Nat.zero_le _) hcp hsm as_4 ah_3 (by rw [ah_3]; exact hpN_le hsm) (hp_1 - 0 + 1) 0 siz pts _ _ _ (Nat.lt_succ_self _) (by omega) (fun j a => absurd a (by omega)) hP hD hS (lv_sub hl [0, 1] rfl) (fun siz_5 pts_6 H locs ls hz_7 hP hD hS hl => ?_)
  have hP : va_P D vwCl [(m0, .inr (6, [.ref ms, .ref mf, .ref mw, .ref mk, .int (bI mtold), .ref mh, .int (nI hn), .int mup, .int (nI tg), .int stan, .int soft, .int doub, .int spli, .int giv, .int bon, .long drw, .int mbank, .ref q0, .ref q1, .ref q2, .int (nI hp_1), .ref q3, .ref q4, .ref q5, .ref q6, .ref q7, .int msum, .int (bI hasA), .int mcards, .int mpair, .int (nI sh), .int want, .int mwin, .int (bI isCh), .int mbest, .ref k0, .ref k1, .ref k2, .ref k3])), (q1, .inl (cI, 11, .inl capr)), (q2, .inl (cI, 11, .inl (nA stp_2))), (q3, .inl (cI, 2400, .inl (nA siz_5))), (q4, .inl (cI, 2400, .inl (nA pts_6)))] H := hP
  have hD : va_D A [(m0, .inr (6, [.ref ms, .ref mf, .ref mw, .ref mk, .int (bI mtold), .ref mh, .int (nI hn), .int mup, .int (nI tg), .int stan, .int soft, .int doub, .int spli, .int giv, .int bon, .long drw, .int mbank, .ref q0, .ref q1, .ref q2, .int (nI hp_1), .ref q3, .ref q4, .ref q5, .ref q6, .ref q7, .int msum, .int (bI hasA), .int mcards, .int mpair, .int (nI sh), .int want, .int mwin, .int (bI isCh), .int mbest, .ref k0, .ref k1, .ref k2, .ref k3])), (q1, .inl (cI, 11, .inl capr)), (q2, .inl (cI, 11, .inl (nA stp_2))), (q3, .inl (cI, 2400, .inl (nA siz_5))), (q4, .inl (cI, 2400, .inl (nA pts_6)))] := hD
  have hP9 := hP.sub (ws' := [(m0, .inr (6, [.ref ms, .ref mf, .ref mw, .ref mk, .int (bI mtold), .ref mh, .int (nI hn), .int mup, .int (nI tg), .int stan, .int soft, .int doub, .int spli, .int giv, .int bon, .long drw, .int mbank, .ref q0, .ref q1, .ref q2, .int (nI hp_1), .ref q3, .ref q4, .ref q5, .ref q6, .ref q7, .int msum, .int (bI hasA), .int mcards, .int mpair, .int (nI sh), .int want, .int mwin, .int (bI isCh), .int mbest, .ref k0, .ref k1, .ref k2, .ref k3])), (q1, .inl (cI, 11, .inl capr)), (q2, .inl (cI, 11, .inl (nA stp_2))), (q3, .inl (cI, 2400, .inl (nA siz_5))), (q4, .inl (cI, 2400, .inl (nA pts_6)))]) [0, 1, 2, 3, 4] rfl
  have hD9 := hD.sub (ws' := [(m0, .inr (6, [.ref ms, .ref mf, .ref mw, .ref mk, .int (bI mtold), .ref mh, .int (nI hn), .int mup, .int (nI tg), .int stan, .int soft, .int doub, .int spli, .int giv, .int bon, .long drw, .int mbank, .ref q0, .ref q1, .ref q2, .int (nI hp_1), .ref q3, .ref q4, .ref q5, .ref q6, .ref q7, .int msum, .int (bI hasA), .int mcards, .int mpair, .int (nI sh), .int want, .int mwin, .int (bI isCh), .int mbest, .ref k0, .ref k1, .ref k2, .ref k3])), (q1, .inl (cI, 11, .inl capr)), (q2, .inl (cI, 11, .inl (nA stp_2))), (q3, .inl (cI, 2400, .inl (nA siz_5))), (q4, .inl (cI, 2400, .inl (nA pts_6)))]) [0, 1, 2, 3, 4] (by decide) rfl
  exact W.vret hx hb hr (fun t ht hW => ⟨⟨(hp_1, (stp_2), (siz_5), (pts_6)), rfl, ⟨hsm, as_4, ah_3, hz_7⟩, by rw [ht]; exact hP9, va_K.moved hW.alike hK, hD9⟩, hS.F ht⟩) hS.2.2 dX6_layHeaps_122

set_option maxRecDepth 20000 in
theorem in_X6_draws_X6 : ∀ w ∈ wsX60, w ∈ wsX6_draws := by decide +kernel
set_option maxRecDepth 20000 in
theorem wd_X6_draws_0 : Cond.fieldLink RX6 58 "ShoeTableModel" "size" "[I" ∈ wsX6_draws := by decide +kernel
set_option maxHeartbeats 400000 in
set_option maxRecDepth 100000 in
/-- X6_draws -/
theorem c_X6_draws (l : Launch) (D : va_G) (cI cJ cQ : ClassId) (m0 : Nat) (ms : Nat) (mf : Nat) (mw : Nat) (mk : Nat) (mtold : Bool) (mh : Nat) (hn : Nat) (mup : Int32) (targ : Int32) (stan : Int32) (soft : Int32) (doub : Int32) (spli : Int32) (giv : Int32) (bon : Int32) (drw : Int64) (mbank : Int32) (q0 : Nat) (q1 : Nat) (q2 : Nat) (mheaps : Int32) (q3 : Nat) (q4 : Nat) (q5 : Nat) (q6 : Nat) (q7 : Nat) (msum : Int32) (hasA : Bool) (mcards : Int32) (mpair : Int32) (shown : Int32) (want : Int32) (mwin : Int32) (isCh : Bool) (mbest : Int32) (k0 : Nat) (k1 : Nat) (k2 : Nat) (k3 : Nat) (siz : Nat → Nat) (h : Nat) (p1 : Int32) (p2 : Bool) (hh : h < 2400) (hz : siz h ≤ 12) : Met l yX6_draws wsX6_draws ({ frames := 2, cells := 0, slots := 0, locals := 45 }) (va_Pc [.ref m0, .int (nI h), .int p1, .int (bI p2)] (rP D (gTy cI cJ cQ) [(m0, .inr (6, [.ref ms, .ref mf, .ref mw, .ref mk, .int (bI mtold), .ref mh, .int (nI hn), .int mup, .int targ, .int stan, .int soft, .int doub, .int spli, .int giv, .int bon, .long drw, .int mbank, .ref q0, .ref q1, .ref q2, .int mheaps, .ref q3, .ref q4, .ref q5, .ref q6, .ref q7, .int msum, .int (bI hasA), .int mcards, .int mpair, .int shown, .int want, .int mwin, .int (bI isCh), .int mbest, .ref k0, .ref k1, .ref k2, .ref k3])), (q3, .inl (cI, 2400, .inl (nA siz)))])) (vp_Si (fun r => r = drM (siz h) stan soft targ p1 p2)) 0 0 (fun _ => False) := by
  refine Met.ofW (cc := cX6_draws) (maxL := 4) (ret := (some .boolean)) (by decide) rfl ?_
  intro p e s m args below meth c s₁ B hml hv
  obtain ⟨rfl, hP, hK⟩ := hv
  have hx := B.exec
  have hb := B.bytes
  have hr := B.returns
  have hts := atoms_spec (ws := wsX6_draws) B.pre
  have hown : s.vm.findClass RX6 = some m.cls := findClass_of_methodNamed B.named
  have hlocks := B.notSynchronized
  have hl := lv_entry ([.ref m0, .int (nI h), .int p1, .int (bI p2)]) (n := 4) (Nat.le_of_ble_eq_true rfl)
  rw [lg_entry_eq]
  generalize (lg_sl ([.ref m0, .int (nI h), .int p1, .int (bI p2)]) ++ List.replicate (4 - (lg_sl ([.ref m0, .int (nI h), .int p1, .int (bI p2)])).length) Slot.unset).toArray = ls at hl ⊢
  have hl : lv_has ls 4 [(0, .ref m0), (1, .int (nI h)), (2, .int p1), (3, .int (bI p2))] := hl
  refine lv_aload_n hx hb dX6_draws_0 rfl (lv_at hl 0 rfl) ?_
  refine va_get (D := D) (ci := 6) (v := .ref q3) (C := RX6) (T := TX6) (N := 39) hx hb hts in_X6_draws_X6 hown hK hP 0 rfl rfl 21 (by decide) (hts _ wd_X6_draws_0) (fun _ h9 => h9) rfl dX6_draws_1 ?_
  refine lv_iload_n hx hb dX6_draws_4 rfl (lv_at hl 1 rfl) ?_
  refine va_iald hx hb hK hP 1 0 rfl rfl (vp_in_nI (by omega) (by decide)) dX6_draws_5 ?_
  refine lv_topi (fun z_1 ez_1 => ?_)
  obtain rfl : z_1 = (nI (siz h)) := ez_1.trans (by rw [nI_clamp (by omega)]; rfl)
  refine lv_if_le (tgt := 22) hx hb dX6_draws_6 (by decide) (fun c6_2 => ?_) (fun c6_2 => ?_)
  · skip
    have nc6_2 : (siz h) ≤ 0 := (nI_leI (a := (siz h)) (b := 0) (by omega) (by omega)).mp c6_2
    refine lv_iconst (v := 0) hx hb dX6_draws_22 (by decide) ?_
    exact W.zret (v := 0) hx hb hr rfl (fun t ht hW => ⟨_, rfl, (by unfold drM; ((try first | rw [if_pos nc6_2] | rw [if_neg nc6_2]); first | done | rfl | trivial)), ht⟩) (fun q hq => absurd hq List.not_mem_nil) dX6_draws_23
  · skip
    have nc6_2 : ¬ ((siz h) ≤ 0) := fun z9 => c6_2 ((nI_leI (a := (siz h)) (b := 0) (by omega) (by omega)).mpr z9)
    refine lv_aload_n hx hb dX6_draws_9 rfl (lv_at hl 0 rfl) ?_
    refine lv_iload_n hx hb dX6_draws_10 rfl (lv_at hl 2 rfl) ?_
    refine lv_iload_n hx hb dX6_draws_11 rfl (lv_at hl 3 rfl) ?_
    have hPc := hP.sub (ws' := [(m0, .inr (6, [.ref ms, .ref mf, .ref mw, .ref mk, .int (bI mtold), .ref mh, .int (nI hn), .int mup, .int targ, .int stan, .int soft, .int doub, .int spli, .int giv, .int bon, .long drw, .int mbank, .ref q0, .ref q1, .ref q2, .int mheaps, .ref q3, .ref q4, .ref q5, .ref q6, .ref q7, .int msum, .int (bI hasA), .int mcards, .int mpair, .int shown, .int want, .int mwin, .int (bI isCh), .int mbest, .ref k0, .ref k1, .ref k2, .ref k3]))]) [0] rfl
    refine vp_callSi (W.runV (As := [.int p1, .int (bI p2)]) (rest := []) ⟨hx, hb, hml, hown, hts⟩ (c_X6_goesOn l D cI cJ cQ m0 ms mf mw mk mtold mh hn mup targ stan soft doub spli giv bon drw mbank q0 q1 q2 mheaps q3 q4 q5 q6 q7 msum hasA mcards mpair shown want mwin isCh mbest k0 k1 k2 k3 p1 p2) (cwV 2 hts gX6_draws_X6_goesOn rfl rfl rfl (by decide +kernel) ⟨Nat.le_of_ble_eq_true rfl, Nat.le_of_ble_eq_true rfl⟩) (rP_preV (ci := 6) (q0 := 0) hPc hK rfl rfl) rfl rfl hl.1 rfl (lv_room (Nat.le_of_ble_eq_true rfl)) dX6_draws_12 ⟨Nat.le_of_ble_eq_true rfl, Nat.le_of_ble_eq_true rfl⟩) (fun r_3 hr_3 => ?_)
    subst hr_3
    refine lv_if_eq (tgt := 22) hx hb dX6_draws_15 (by decide) (fun c15_4 => ?_) (fun c15_4 => ?_)
    · skip
      refine lv_iconst (v := 0) hx hb dX6_draws_22 (by decide) ?_
      exact W.zret (v := 0) hx hb hr rfl (fun t ht hW => ⟨_, rfl, (by unfold drM; ((try first | rw [if_pos nc6_2] | rw [if_neg nc6_2]); (try first | rw [if_pos c15_4] | rw [if_neg c15_4]); first | done | rfl | trivial)), ht⟩) (fun q hq => absurd hq List.not_mem_nil) dX6_draws_23
    · skip
      refine lv_iconst (v := 1) hx hb dX6_draws_18 (by decide) ?_
      refine lv_goto (tgt := 23) hx hb dX6_draws_19 (by decide) ?_
      exact W.zret (v := 1) hx hb hr rfl (fun t ht hW => ⟨_, rfl, (by unfold drM; ((try first | rw [if_pos nc6_2] | rw [if_neg nc6_2]); (try first | rw [if_pos c15_4] | rw [if_neg c15_4]); first | done | rfl | trivial)), ht⟩) (fun q hq => absurd hq List.not_mem_nil) dX6_draws_23

set_option maxRecDepth 20000 in
theorem in_X6_score_X6 : ∀ w ∈ wsX60, w ∈ wsX6_score := by decide +kernel
set_option maxRecDepth 20000 in
theorem wd_X6_score_0 : Cond.fieldLink RX6 177 "ShoeTableModel" "isChance" "Z" ∈ wsX6_score := by decide +kernel
set_option maxRecDepth 20000 in
theorem wd_X6_score_1 : Cond.fieldLink RX6 180 "ShoeTableModel" "wanted" "I" ∈ wsX6_score := by decide +kernel
set_option maxRecDepth 20000 in
theorem wd_X6_score_2 : Cond.fieldLink RX6 183 "ShoeTableModel" "win" "I" ∈ wsX6_score := by decide +kernel
set_option maxRecDepth 20000 in
theorem wd_X6_score_3 : Cond.fieldLink RX6 25 "ShoeTableModel" "target" "I" ∈ wsX6_score := by decide +kernel
set_option maxHeartbeats 400000 in
set_option maxRecDepth 100000 in
/-- X6_score -/
theorem c_X6_score (l : Launch) (D : va_G) (cI cJ cQ : ClassId) (m0 : Nat) (ms : Nat) (mf : Nat) (mw : Nat) (mk : Nat) (mtold : Bool) (mh : Nat) (hn : Nat) (mup : Int32) (targ : Int32) (stan : Int32) (soft : Int32) (doub : Int32) (spli : Int32) (giv : Int32) (bon : Int32) (drw : Int64) (mbank : Int32) (q0 : Nat) (q1 : Nat) (q2 : Nat) (mheaps : Int32) (q3 : Nat) (q4 : Nat) (q5 : Nat) (q6 : Nat) (q7 : Nat) (msum : Int32) (hasA : Bool) (mcards : Int32) (mpair : Int32) (shown : Int32) (want : Int32) (mwin : Int32) (isCh : Bool) (mbest : Int32) (k0 : Nat) (k1 : Nat) (k2 : Nat) (k3 : Nat) (p0 : Int32) (p1 : Bool)  : Met l yX6_score wsX6_score ({ frames := 1, cells := 0, slots := 0, locals := 23 }) (va_Pc [.ref m0, .int p0, .int (bI p1)] (rP D (gTy cI cJ cQ) [(m0, .inr (6, [.ref ms, .ref mf, .ref mw, .ref mk, .int (bI mtold), .ref mh, .int (nI hn), .int mup, .int targ, .int stan, .int soft, .int doub, .int spli, .int giv, .int bon, .long drw, .int mbank, .ref q0, .ref q1, .ref q2, .int mheaps, .ref q3, .ref q4, .ref q5, .ref q6, .ref q7, .int msum, .int (bI hasA), .int mcards, .int mpair, .int shown, .int want, .int mwin, .int (bI isCh), .int mbest, .ref k0, .ref k1, .ref k2, .ref k3]))])) (vp_Si (fun r => r = scM targ isCh want mwin p0 p1)) 0 0 (fun _ => False) := by
  refine Met.ofW (cc := cX6_score) (maxL := 4) (ret := (some .int)) (by decide) rfl ?_
  intro p e s m args below meth c s₁ B hml hv
  obtain ⟨rfl, hP, hK⟩ := hv
  have hx := B.exec
  have hb := B.bytes
  have hr := B.returns
  have hts := atoms_spec (ws := wsX6_score) B.pre
  have hown : s.vm.findClass RX6 = some m.cls := findClass_of_methodNamed B.named
  have hlocks := B.notSynchronized
  have hl := lv_entry ([.ref m0, .int p0, .int (bI p1)]) (n := 4) (Nat.le_of_ble_eq_true rfl)
  rw [lg_entry_eq]
  generalize (lg_sl ([.ref m0, .int p0, .int (bI p1)]) ++ List.replicate (4 - (lg_sl ([.ref m0, .int p0, .int (bI p1)])).length) Slot.unset).toArray = ls at hl ⊢
  have hl : lv_has ls 4 [(0, .ref m0), (1, .int p0), (2, .int (bI p1))] := hl
  refine lv_aload_n hx hb dX6_score_0 rfl (lv_at hl 0 rfl) ?_
  refine lv_iload_n hx hb dX6_score_1 rfl (lv_at hl 1 rfl) ?_
  refine lv_iload_n hx hb dX6_score_2 rfl (lv_at hl 2 rfl) ?_
  have hPc := hP.sub (ws' := [(m0, .inr (6, [.ref ms, .ref mf, .ref mw, .ref mk, .int (bI mtold), .ref mh, .int (nI hn), .int mup, .int targ, .int stan, .int soft, .int doub, .int spli, .int giv, .int bon, .long drw, .int mbank, .ref q0, .ref q1, .ref q2, .int mheaps, .ref q3, .ref q4, .ref q5, .ref q6, .ref q7, .int msum, .int (bI hasA), .int mcards, .int mpair, .int shown, .int want, .int mwin, .int (bI isCh), .int mbest, .ref k0, .ref k1, .ref k2, .ref k3]))]) [0] rfl
  refine vp_callSi (W.runV (As := [.int p0, .int (bI p1)]) (rest := []) ⟨hx, hb, hml, hown, hts⟩ (c_X6_valueOf l D cI cJ cQ m0 ms mf mw mk mtold mh hn mup targ stan soft doub spli giv bon drw mbank q0 q1 q2 mheaps q3 q4 q5 q6 q7 msum hasA mcards mpair shown want mwin isCh mbest k0 k1 k2 k3 p0 p1) (cwV 2 hts gX6_score_X6_valueOf rfl rfl rfl (by decide +kernel) ⟨Nat.le_of_ble_eq_true rfl, Nat.le_of_ble_eq_true rfl⟩) (rP_preV (ci := 6) (q0 := 0) hPc hK rfl rfl) rfl rfl hl.1 rfl (lv_room (Nat.le_of_ble_eq_true rfl)) dX6_score_3 ⟨Nat.le_of_ble_eq_true rfl, Nat.le_of_ble_eq_true rfl⟩) (fun r_1 hr_1 => ?_)
  subst hr_1
  refine lv_istore_n (lv' := [(3, .int (vlM targ p0 p1)), (0, .ref m0), (1, .int p0), (2, .int (bI p1))]) hx hb dX6_score_6 rfl hl (by decide) rfl (fun ls hl => ?_)
  refine lv_join (α := Int32) 20 4 (fun a9 => [(3, .int (vlM targ p0 p1)), (0, .ref m0), (1, .int p0), (2, .int (bI p1))]) (fun a9 => [.int a9]) (fun a9 => a9 = (if (vlM targ p0 p1) ≤ targ then (vlM targ p0 p1) else 0)) (fun a_4 ls hl hp_3 => ?_) (fun hJ_2 => ?_)
  · skip
    have hp_3 : a_4 = (if (vlM targ p0 p1) ≤ targ then (vlM targ p0 p1) else 0) := hp_3
    subst hp_3
    refine lv_istore_n (lv' := [(3, .int (if (vlM targ p0 p1) ≤ targ then (vlM targ p0 p1) else 0)), (0, .ref m0), (1, .int p0), (2, .int (bI p1))]) hx hb dX6_score_20 rfl hl (by decide) rfl (fun ls hl => ?_)
    refine lv_aload_n hx hb dX6_score_21 rfl (lv_at hl 1 rfl) ?_
    refine va_get (D := D) (ci := 6) (v := .int (bI isCh)) (C := RX6) (T := TX6) (N := 39) hx hb hts in_X6_score_X6 hown hK hP 0 rfl rfl 33 (by decide) (hts _ wd_X6_score_0) (fun _ h9 => h9) rfl dX6_score_22 ?_
    refine lv_if_eq (tgt := 44) hx hb dX6_score_25 (by decide) (fun c25_5 => ?_) (fun c25_5 => ?_)
    · skip
      have nc25_5 : isCh = false := (bI_0 _).mp c25_5
      refine lv_aload_n hx hb dX6_score_44 rfl (lv_at hl 1 rfl) ?_
      refine lv_aload_n hx hb dX6_score_45 rfl (lv_at hl 1 rfl) ?_
      refine va_get (D := D) (ci := 6) (v := .int want) (C := RX6) (T := TX6) (N := 39) hx hb hts in_X6_score_X6 hown hK hP 0 rfl rfl 31 (by decide) (hts _ wd_X6_score_1) (fun _ h9 => h9) rfl dX6_score_46 ?_
      refine lv_iload_n hx hb dX6_score_49 rfl (lv_at hl 0 rfl) ?_
      refine lv_aload_n hx hb dX6_score_50 rfl (lv_at hl 1 rfl) ?_
      refine va_get (D := D) (ci := 6) (v := .int mwin) (C := RX6) (T := TX6) (N := 39) hx hb hts in_X6_score_X6 hown hK hP 0 rfl rfl 32 (by decide) (hts _ wd_X6_score_2) (fun _ h9 => h9) rfl dX6_score_51 ?_
      have hPc := hP.sub (ws' := [(m0, .inr (6, [.ref ms, .ref mf, .ref mw, .ref mk, .int (bI mtold), .ref mh, .int (nI hn), .int mup, .int targ, .int stan, .int soft, .int doub, .int spli, .int giv, .int bon, .long drw, .int mbank, .ref q0, .ref q1, .ref q2, .int mheaps, .ref q3, .ref q4, .ref q5, .ref q6, .ref q7, .int msum, .int (bI hasA), .int mcards, .int mpair, .int shown, .int want, .int mwin, .int (bI isCh), .int mbest, .ref k0, .ref k1, .ref k2, .ref k3]))]) [0] rfl
      refine vp_callSi (W.runV (As := [.int want, .int (if (vlM targ p0 p1) ≤ targ then (vlM targ p0 p1) else 0), .int mwin]) (rest := []) ⟨hx, hb, hml, hown, hts⟩ (c_X6_settled l D cI cJ cQ m0 ms mf mw mk mtold mh hn mup targ stan soft doub spli giv bon drw mbank q0 q1 q2 mheaps q3 q4 q5 q6 q7 msum hasA mcards mpair shown want mwin isCh mbest k0 k1 k2 k3 want (if (vlM targ p0 p1) ≤ targ then (vlM targ p0 p1) else 0) mwin) (cwV 3 hts gX6_score_X6_settled rfl rfl rfl (by decide +kernel) ⟨Nat.le_of_ble_eq_true rfl, Nat.le_of_ble_eq_true rfl⟩) (rP_preV (ci := 6) (q0 := 0) hPc hK rfl rfl) rfl rfl hl.1 rfl (lv_room (Nat.le_of_ble_eq_true rfl)) dX6_score_54 ⟨Nat.le_of_ble_eq_true rfl, Nat.le_of_ble_eq_true rfl⟩) (fun r_6 hr_6 => ?_)
      subst hr_6
      exact W.iret (v := (seM want (if (vlM targ p0 p1) ≤ targ then (vlM targ p0 p1) else 0) mwin)) hx hb hr (fun t ht hW => ⟨_, rfl, (by unfold scM; first | (simp [c25_5, nc25_5]; done) | ((try first | rw [if_pos c25_5] | rw [if_neg c25_5]); (try first | rw [if_pos nc25_5] | rw [if_neg nc25_5]); first | done | rfl | trivial)), ht⟩) (fun q hq => absurd hq List.not_mem_nil) dX6_score_57
    · skip
      have nc25_5 : isCh = true := bI_1 c25_5
      refine lv_iload_n hx hb dX6_score_28 rfl (lv_at hl 0 rfl) ?_
      refine lv_aload_n hx hb dX6_score_29 rfl (lv_at hl 1 rfl) ?_
      refine va_get (D := D) (ci := 6) (v := .int want) (C := RX6) (T := TX6) (N := 39) hx hb hts in_X6_score_X6 hown hK hP 0 rfl rfl 31 (by decide) (hts _ wd_X6_score_1) (fun _ h9 => h9) rfl dX6_score_30 ?_
      refine lv_icmp_ne (tgt := 40) hx hb dX6_score_33 (by decide) (fun c33_7 => ?_) (fun c33_7 => ?_)
      · skip
        refine lv_iconst (v := 0) hx hb dX6_score_40 (by decide) ?_
        refine lv_goto (tgt := 57) hx hb dX6_score_41 (by decide) ?_
        exact W.iret (v := 0) hx hb hr (fun t ht hW => ⟨_, rfl, (by unfold scM; first | (simp [c25_5, nc25_5, c33_7]; done) | ((try first | rw [if_pos c25_5] | rw [if_neg c25_5]); (try first | rw [if_pos nc25_5] | rw [if_neg nc25_5]); (try first | rw [if_pos c33_7] | rw [if_neg c33_7]); first | done | rfl | trivial)), ht⟩) (fun q hq => absurd hq List.not_mem_nil) dX6_score_57
      · skip
        refine lv_iconst (v := 1) hx hb dX6_score_36 (by decide) ?_
        refine lv_goto (tgt := 57) hx hb dX6_score_37 (by decide) ?_
        exact W.iret (v := 1) hx hb hr (fun t ht hW => ⟨_, rfl, (by unfold scM; first | (simp [c25_5, nc25_5, c33_7]; done) | ((try first | rw [if_pos c25_5] | rw [if_neg c25_5]); (try first | rw [if_pos nc25_5] | rw [if_neg nc25_5]); (try first | rw [if_pos c33_7] | rw [if_neg c33_7]); first | done | rfl | trivial)), ht⟩) (fun q hq => absurd hq List.not_mem_nil) dX6_score_57
  · skip
    refine lv_iload_n hx hb dX6_score_7 rfl (lv_at hl 0 rfl) ?_
    refine lv_aload_n hx hb dX6_score_8 rfl (lv_at hl 1 rfl) ?_
    refine va_get (D := D) (ci := 6) (v := .int targ) (C := RX6) (T := TX6) (N := 39) hx hb hts in_X6_score_X6 hown hK hP 0 rfl rfl 8 (by decide) (hts _ wd_X6_score_3) (fun _ h9 => h9) rfl dX6_score_9 ?_
    refine lv_icmp_le (tgt := 19) hx hb dX6_score_12 (by decide) (fun c12_8 => ?_) (fun c12_8 => ?_)
    · skip
      refine lv_iload_n hx hb dX6_score_19 rfl (lv_at hl 0 rfl) ?_
      exact hJ_2 (vlM targ p0 p1) ls (lv_sub hl [0, 1, 2, 3] rfl) (by first | rfl | (try unfold rlM); ((try first | rw [if_pos c12_8] | rw [if_neg c12_8]); first | done | rfl | trivial))
    · skip
      refine lv_iconst (v := 0) hx hb dX6_score_15 (by decide) ?_
      refine lv_goto (tgt := 20) hx hb dX6_score_16 (by decide) ?_
      exact hJ_2 0 ls (lv_sub hl [0, 1, 2, 3] rfl) (by first | rfl | (try unfold rlM); ((try first | rw [if_pos c12_8] | rw [if_neg c12_8]); first | done | rfl | trivial))

set_option maxRecDepth 20000 in
theorem in_X6_houseAt_X6 : ∀ w ∈ wsX60, w ∈ wsX6_houseAt := by decide +kernel
set_option maxRecDepth 20000 in
theorem wd_X6_houseAt_0 : Cond.fieldLink RX6 65 "ShoeTableModel" "house" "[J" ∈ wsX6_houseAt := by decide +kernel
set_option maxRecDepth 20000 in
theorem wd_X6_houseAt_1 : Cond.fieldLink RX6 48 "ShoeTableModel" "orders" "[J" ∈ wsX6_houseAt := by decide +kernel
set_option maxRecDepth 20000 in
theorem wd_X6_houseAt_2 : Cond.fieldLink RX6 58 "ShoeTableModel" "size" "[I" ∈ wsX6_houseAt := by decide +kernel
set_option maxHeartbeats 400000 in
set_option maxRecDepth 100000 in
/-- X6_houseAt -/
theorem c_X6_houseAt (l : Launch) (D : va_G) (cI cJ cQ : ClassId) (m0 : Nat) (ms : Nat) (mf : Nat) (mw : Nat) (mk : Nat) (mtold : Bool) (mh : Nat) (hn : Nat) (mup : Int32) (targ : Int32) (stan : Int32) (soft : Int32) (doub : Int32) (spli : Int32) (giv : Int32) (bon : Int32) (drw : Int64) (mbank : Int32) (q0 : Nat) (q1 : Nat) (q2 : Nat) (mheaps : Int32) (q3 : Nat) (q4 : Nat) (q5 : Nat) (q6 : Nat) (q7 : Nat) (msum : Int32) (hasA : Bool) (mcards : Int32) (mpair : Int32) (shown : Int32) (want : Int32) (mwin : Int32) (isCh : Bool) (mbest : Int32) (k0 : Nat) (k1 : Nat) (k2 : Nat) (k3 : Nat) (siz : Nat → Nat) (hou : Nat → Int64) (ords : Nat → Int64) (h : Nat) (ss : Nat) (ac : Bool) (hh : h < 2400) (hz : siz h ≤ 12) (hs : ss ≤ 40) (hst : stan.toInt ≤ 21) : Met l yX6_houseAt wsX6_houseAt ({ frames := 3, cells := 0, slots := 0, locals := 68 }) (va_Pc [.ref m0, .int (nI h), .int (nI ss), .int (bI ac)] (rP D (gTy cI cJ cQ) [(m0, .inr (6, [.ref ms, .ref mf, .ref mw, .ref mk, .int (bI mtold), .ref mh, .int (nI hn), .int mup, .int targ, .int stan, .int soft, .int doub, .int spli, .int giv, .int bon, .long drw, .int mbank, .ref q0, .ref q1, .ref q2, .int mheaps, .ref q3, .ref q4, .ref q5, .ref q6, .ref q7, .int msum, .int (bI hasA), .int mcards, .int mpair, .int shown, .int want, .int mwin, .int (bI isCh), .int mbest, .ref k0, .ref k1, .ref k2, .ref k3])), (q3, .inl (cI, 2400, .inl (nA siz))), (q5, .inl (cJ, 105600, .inr (.inl hou))), (q0, .inl (cJ, 13, .inr (.inl ords)))])) (vp_Sl (fun r => r = haM ords hou siz targ stan soft isCh want mwin h ss ac)) 0 0 (fun _ => False) := by
  refine Met.ofW (cc := cX6_houseAt) (maxL := 4) (ret := (some .long)) (by decide) rfl ?_
  intro p e s m args below meth c s₁ B hml hv
  obtain ⟨rfl, hP, hK⟩ := hv
  have hx := B.exec
  have hb := B.bytes
  have hr := B.returns
  have hts := atoms_spec (ws := wsX6_houseAt) B.pre
  have hown : s.vm.findClass RX6 = some m.cls := findClass_of_methodNamed B.named
  have hlocks := B.notSynchronized
  have hl := lv_entry ([.ref m0, .int (nI h), .int (nI ss), .int (bI ac)]) (n := 4) (Nat.le_of_ble_eq_true rfl)
  rw [lg_entry_eq]
  generalize (lg_sl ([.ref m0, .int (nI h), .int (nI ss), .int (bI ac)]) ++ List.replicate (4 - (lg_sl ([.ref m0, .int (nI h), .int (nI ss), .int (bI ac)])).length) Slot.unset).toArray = ls at hl ⊢
  have hl : lv_has ls 4 [(0, .ref m0), (1, .int (nI h)), (2, .int (nI ss)), (3, .int (bI ac))] := hl
  refine lv_aload_n hx hb dX6_houseAt_0 rfl (lv_at hl 0 rfl) ?_
  refine lv_iload_n hx hb dX6_houseAt_1 rfl (lv_at hl 1 rfl) ?_
  refine lv_iload_n hx hb dX6_houseAt_2 rfl (lv_at hl 2 rfl) ?_
  refine lv_iload_n hx hb dX6_houseAt_3 rfl (lv_at hl 3 rfl) ?_
  have hPc := hP.sub (ws' := [(m0, .inr (6, [.ref ms, .ref mf, .ref mw, .ref mk, .int (bI mtold), .ref mh, .int (nI hn), .int mup, .int targ, .int stan, .int soft, .int doub, .int spli, .int giv, .int bon, .long drw, .int mbank, .ref q0, .ref q1, .ref q2, .int mheaps, .ref q3, .ref q4, .ref q5, .ref q6, .ref q7, .int msum, .int (bI hasA), .int mcards, .int mpair, .int shown, .int want, .int mwin, .int (bI isCh), .int mbest, .ref k0, .ref k1, .ref k2, .ref k3])), (q3, .inl (cI, 2400, .inl (nA siz)))]) [0, 1] rfl
  refine vp_callSi (W.runV (As := [.int (nI h), .int (nI ss), .int (bI ac)]) (rest := []) ⟨hx, hb, hml, hown, hts⟩ (c_X6_draws l D cI cJ cQ m0 ms mf mw mk mtold mh hn mup targ stan soft doub spli giv bon drw mbank q0 q1 q2 mheaps q3 q4 q5 q6 q7 msum hasA mcards mpair shown want mwin isCh mbest k0 k1 k2 k3 (siz) h (nI ss) ac hh hz) (cwV 3 hts gX6_houseAt_X6_draws rfl rfl rfl (by decide +kernel) ⟨Nat.le_of_ble_eq_true rfl, Nat.le_of_ble_eq_true rfl⟩) (rP_preV (ci := 6) (q0 := 0) hPc hK rfl rfl) rfl rfl hl.1 rfl (lv_room (Nat.le_of_ble_eq_true rfl)) dX6_houseAt_4 ⟨Nat.le_of_ble_eq_true rfl, Nat.le_of_ble_eq_true rfl⟩) (fun r_1 hr_1 => ?_)
  subst hr_1
  refine lv_if_ne (tgt := 30) hx hb dX6_houseAt_7 (by decide) (fun c7_2 => ?_) (fun c7_2 => ?_)
  · skip
    have s21 := drM_s c7_2 hs hst
    have b1 := bN_le ac
    refine lv_aload_n hx hb dX6_houseAt_30 rfl (lv_at hl 0 rfl) ?_
    refine va_get (D := D) (ci := 6) (v := .ref q5) (C := RX6) (T := TX6) (N := 39) hx hb hts in_X6_houseAt_X6 hown hK hP 0 rfl rfl 23 (by decide) (hts _ wd_X6_houseAt_0) (fun _ h9 => h9) rfl dX6_houseAt_31 ?_
    refine lv_bipush (v := 44) hx hb dX6_houseAt_34 (by decide) ?_
    refine lv_iload_n hx hb dX6_houseAt_36 rfl (lv_at hl 1 rfl) ?_
    refine lv_imul hx hb dX6_houseAt_37 ?_
    refine lv_topi (fun z_3 ez_3 => ?_)
    obtain rfl : z_3 = nI (44 * h) := ez_3.trans (nI_mulT _ _)
    refine lv_iconst (v := 2) hx hb dX6_houseAt_38 (by decide) ?_
    refine lv_iload_n hx hb dX6_houseAt_39 rfl (lv_at hl 2 rfl) ?_
    refine lv_imul hx hb dX6_houseAt_40 ?_
    refine lv_topi (fun z_4 ez_4 => ?_)
    obtain rfl : z_4 = nI (2 * ss) := ez_4.trans (nI_mulT _ _)
    refine lv_iadd hx hb dX6_houseAt_41 ?_
    refine lv_topi (fun z_5 ez_5 => ?_)
    obtain rfl : z_5 = nI ((44 * h) + (2 * ss)) := ez_5.trans (nI_add _ _)
    refine lv_join (α := Nat) 51 4 (fun a9 => [(0, .ref m0), (1, .int (nI h)), (2, .int (nI ss)), (3, .int (bI ac))]) (fun a9 => [.int (nI a9), .int (nI ((44 * h) + (2 * ss))), .ref q5]) (fun a9 => a9 = (bN ac)) (fun a_8 ls hl hp_7 => ?_) (fun hJ_6 => ?_)
    · skip
      have hp_7 : a_8 = (bN ac) := hp_7
      subst hp_7
      refine lv_iadd hx hb dX6_houseAt_51 ?_
      refine lv_topi (fun z_9 ez_9 => ?_)
      obtain rfl : z_9 = nI (((44 * h) + (2 * ss)) + (bN ac)) := ez_9.trans (nI_add _ _)
      refine va_lald hx hb hK hP 2 1 rfl rfl (vp_in_nI (by omega) (by decide)) dX6_houseAt_52 ?_
      refine lv_topl (fun z_10 ez_10 => ?_)
      obtain rfl : z_10 = (hou (((44 * h) + (2 * ss)) + (bN ac))) := ez_10.trans (by rw [nI_clamp (by omega)])
      exact W.lret (v := (hou (((44 * h) + (2 * ss)) + (bN ac)))) hx hb hr (fun t ht hW => ⟨_, rfl, (by unfold haM; first | rw [if_pos c7_2] | rw [if_neg c7_2]), ht⟩) (fun q hq => absurd hq List.not_mem_nil) dX6_houseAt_53
    · skip
      refine lv_iload_n hx hb dX6_houseAt_42 rfl (lv_at hl 3 rfl) ?_
      refine lv_if_eq (tgt := 50) hx hb dX6_houseAt_43 (by decide) (fun c43_11 => ?_) (fun c43_11 => ?_)
      · skip
        have nc43_11 : ac = false := (bI_0 _).mp c43_11
        refine lv_iconst (v := 0) hx hb dX6_houseAt_50 (by decide) ?_
        exact hJ_6 0 ls (lv_sub hl [0, 1, 2, 3] rfl) (by rw [nc43_11]; rfl)
      · skip
        have nc43_11 : ac = true := bI_1 c43_11
        refine lv_iconst (v := 1) hx hb dX6_houseAt_46 (by decide) ?_
        refine lv_goto (tgt := 51) hx hb dX6_houseAt_47 (by decide) ?_
        exact hJ_6 1 ls (lv_sub hl [0, 1, 2, 3] rfl) (by rw [nc43_11]; rfl)
  · skip
    refine lv_aload_n hx hb dX6_houseAt_10 rfl (lv_at hl 0 rfl) ?_
    refine lv_iload_n hx hb dX6_houseAt_11 rfl (lv_at hl 2 rfl) ?_
    refine lv_iload_n hx hb dX6_houseAt_12 rfl (lv_at hl 3 rfl) ?_
    have hPc := hP.sub (ws' := [(m0, .inr (6, [.ref ms, .ref mf, .ref mw, .ref mk, .int (bI mtold), .ref mh, .int (nI hn), .int mup, .int targ, .int stan, .int soft, .int doub, .int spli, .int giv, .int bon, .long drw, .int mbank, .ref q0, .ref q1, .ref q2, .int mheaps, .ref q3, .ref q4, .ref q5, .ref q6, .ref q7, .int msum, .int (bI hasA), .int mcards, .int mpair, .int shown, .int want, .int mwin, .int (bI isCh), .int mbest, .ref k0, .ref k1, .ref k2, .ref k3]))]) [0] rfl
    refine vp_callSi (W.runV (As := [.int (nI ss), .int (bI ac)]) (rest := []) ⟨hx, hb, hml, hown, hts⟩ (c_X6_score l D cI cJ cQ m0 ms mf mw mk mtold mh hn mup targ stan soft doub spli giv bon drw mbank q0 q1 q2 mheaps q3 q4 q5 q6 q7 msum hasA mcards mpair shown want mwin isCh mbest k0 k1 k2 k3 (nI ss) ac) (cwV 2 hts gX6_houseAt_X6_score rfl rfl rfl (by decide +kernel) ⟨Nat.le_of_ble_eq_true rfl, Nat.le_of_ble_eq_true rfl⟩) (rP_preV (ci := 6) (q0 := 0) hPc hK rfl rfl) rfl rfl hl.1 rfl (lv_room (Nat.le_of_ble_eq_true rfl)) dX6_houseAt_13 ⟨Nat.le_of_ble_eq_true rfl, Nat.le_of_ble_eq_true rfl⟩) (fun r_12 hr_12 => ?_)
    subst hr_12
    refine lv_i2l (v := (scM targ isCh want mwin (nI ss) ac).toInt64) hx hb dX6_houseAt_16 rfl ?_
    refine lv_aload_n hx hb dX6_houseAt_17 rfl (lv_at hl 0 rfl) ?_
    refine va_get (D := D) (ci := 6) (v := .ref q0) (C := RX6) (T := TX6) (N := 39) hx hb hts in_X6_houseAt_X6 hown hK hP 0 rfl rfl 17 (by decide) (hts _ wd_X6_houseAt_1) (fun _ h9 => h9) rfl dX6_houseAt_18 ?_
    refine lv_aload_n hx hb dX6_houseAt_21 rfl (lv_at hl 0 rfl) ?_
    refine va_get (D := D) (ci := 6) (v := .ref q3) (C := RX6) (T := TX6) (N := 39) hx hb hts in_X6_houseAt_X6 hown hK hP 0 rfl rfl 21 (by decide) (hts _ wd_X6_houseAt_2) (fun _ h9 => h9) rfl dX6_houseAt_22 ?_
    refine lv_iload_n hx hb dX6_houseAt_25 rfl (lv_at hl 1 rfl) ?_
    refine va_iald hx hb hK hP 1 0 rfl rfl (vp_in_nI (by omega) (by decide)) dX6_houseAt_26 ?_
    refine lv_topi (fun z_13 ez_13 => ?_)
    obtain rfl : z_13 = (nI (siz h)) := ez_13.trans (by rw [nI_clamp (by omega)]; rfl)
    refine va_lald hx hb hK hP 3 1 rfl rfl (vp_in_nI (by omega) (by decide)) dX6_houseAt_27 ?_
    refine lv_topl (fun z_14 ez_14 => ?_)
    obtain rfl : z_14 = (ords (siz h)) := ez_14.trans (by rw [nI_clamp (by omega)])
    refine lv_lmul hx hb dX6_houseAt_28 ?_
    exact W.lret (v := ((scM targ isCh want mwin (nI ss) ac).toInt64 * (ords (siz h)))) hx hb hr (fun t ht hW => ⟨_, rfl, (by unfold haM; first | rw [if_pos c7_2] | rw [if_neg c7_2]), ht⟩) (fun q hq => absurd hq List.not_mem_nil) dX6_houseAt_29
