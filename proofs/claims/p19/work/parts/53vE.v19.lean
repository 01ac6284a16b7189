
set_option maxHeartbeats 400000 in
set_option maxRecDepth 100000 in
theorem lpK1V {p : Program} {l : Launch} {e : Env} {R : Room} {s : State} {m : MethodId} {args : Array Value} {below : List Frame} {meth : Method} {c : Code} {Q : State → Prop} {D : va_G} {cI cJ cQ : ClassId} {A : Nat → Prop} {cells slots : Nat} (hx : p.tables.exec = Jvm.exec) (hb : c.code = cX6_known) (hml : c.maxLocals = 6) (hown : s.vm.findClass RX6 = some m.cls) (hts : ∀ w ∈ wsX6_known, w.before args s = true) (hK : va_K D vwCl (gTy cI cJ cQ) s) (hA : ∀ q : Nat, s.heap.size ≤ q → A q) (m0 : Nat) (ms : Nat) (mf : Nat) (mw : Nat) (mk : Nat) (mtold : Bool) (mh : Nat) (hn : Nat) (un : Nat) (tg : Nat) (stan : Int32) (soft : Int32) (doub : Int32) (spli : Int32) (giv : Int32) (bon : Int32) (drw : Int64) (mbank : Int32) (q0 : Nat) (q1 : Nat) (q2 : Nat) (hp : Nat) (q3 : Nat) (q4 : Nat) (q5 : Nat) (q6 : Nat) (q7 : Nat) (msum : Int32) (hasA : Bool) (mcards : Int32) (mpair : Int32) (sh : Nat) (want : Int32) (mwin : Int32) (isCh : Bool) (mbest : Int32) (k0 : Nat) (k1 : Nat) (k2 : Nat) (k3 : Nat) (ff : Nat → Int32) (fw : Nat → Int32) (mm : Nat → Int32) (g1 : Nat → Int64) (g2 : Nat → Int64) (k : Nat) (p1 : Int32) (cg : Nat → Nat) (hRf : 0 ≤ R.frames) (hRl : 0 ≤ R.locals) (hRc : cells ≤ R.cells) (hRs : slots ≤ R.slots)  : ∀ (n9 : Nat) (i : Nat) (a : Nat → Int64) (b : Nat → Int64) (H : Heap) (locs : List Loc) (ls : Array Slot), 549 - i < n9 → (i ≤ 549) → (∀ j, j < i → a j = 0) → (∀ j, j < i → b j = 0) → va_P D vwCl [(m0, .inr (6, [.ref ms, .ref mf, .ref mw, .ref mk, .int (bI mtold), .ref mh, .int (nI hn), .int (nI un), .int (nI tg), .int stan, .int soft, .int doub, .int spli, .int giv, .int bon, .long drw, .int mbank, .ref q0, .ref q1, .ref q2, .int (nI hp), .ref q3, .ref q4, .ref q5, .ref q6, .ref q7, .int msum, .int (bI hasA), .int mcards, .int mpair, .int (nI sh), .int want, .int mwin, .int (bI isCh), .int mbest, .ref k0, .ref k1, .ref k2, .ref k3])), (mf, .inl (cI, 11, .inl ff)), (mw, .inl (cI, 11, .inl fw)), (mk, .inl (cI, 11, .inl mm)), (k0, .inl (cJ, 549, .inr (.inl a))), (k1, .inl (cJ, 549, .inr (.inl b))), (k2, .inl (cJ, 549, .inr (.inl g1))), (k3, .inl (cJ, 549, .inr (.inl g2)))] H → va_D A [(m0, .inr (6, [.ref ms, .ref mf, .ref mw, .ref mk, .int (bI mtold), .ref mh, .int (nI hn), .int (nI un), .int (nI tg), .int stan, .int soft, .int doub, .int spli, .int giv, .int bon, .long drw, .int mbank, .ref q0, .ref q1, .ref q2, .int (nI hp), .ref q3, .ref q4, .ref q5, .ref q6, .ref q7, .int msum, .int (bI hasA), .int mcards, .int mpair, .int (nI sh), .int want, .int mwin, .int (bI isCh), .int mbest, .ref k0, .ref k1, .ref k2, .ref k3])), (mf, .inl (cI, 11, .inl ff)), (mw, .inl (cI, 11, .inl fw)), (mk, .inl (cI, 11, .inl mm)), (k0, .inl (cJ, 549, .inr (.inl a))), (k1, .inl (cJ, 549, .inr (.inl b))), (k2, .inl (cJ, 549, .inr (.inl g1))), (k3, .inl (cJ, 549, .inr (.inl g2)))] → va_S A s.heap H locs → lv_has ls 6 [(5, .int (nI i)), (4, .int (nI (smN cg))), (3, .int (sm10 ff)), (2, .int p1), (1, .int (nI k)), (0, .ref m0)] → (∀ (a : Nat → Int64) (b : Nat → Int64) (H : Heap) (locs : List Loc) (ls : Array Slot), (∀ j, j < 549 → a j = 0) → (∀ j, j < 549 → b j = 0) → va_P D vwCl [(m0, .inr (6, [.ref ms, .ref mf, .ref mw, .ref mk, .int (bI mtold), .ref mh, .int (nI hn), .int (nI un), .int (nI tg), .int stan, .int soft, .int doub, .int spli, .int giv, .int bon, .long drw, .int mbank, .ref q0, .ref q1, .ref q2, .int (nI hp), .ref q3, .ref q4, .ref q5, .ref q6, .ref q7, .int msum, .int (bI hasA), .int mcards, .int mpair, .int (nI sh), .int want, .int mwin, .int (bI isCh), .int mbest, .ref k0, .ref k1, .ref k2, .ref k3])), (mf, .inl (cI, 11, .inl ff)), (mw, .inl (cI, 11, .inl fw)), (mk, .inl (cI, 11, .inl mm)), (k0, .inl (cJ, 549, .inr (.inl a))), (k1, .inl (cJ, 549, .inr (.inl b))), (k2, .inl (cJ, 549, .inr (.inl g1))), (k3, .inl (cJ, 549, .inr (.inl g2)))] H → va_D A [(m0, .inr (6, [.ref ms, .ref mf, .ref mw, .ref mk, .int (bI mtold), .ref mh, .int (nI hn), .int (nI un), .int (nI tg), .int stan, .int soft, .int doub, .int spli, .int giv, .int bon, .long drw, .int mbank, .ref q0, .ref q1, .ref q2, .int (nI hp), .ref q3, .ref q4, .ref q5, .ref q6, .ref q7, .int msum, .int (bI hasA), .int mcards, .int mpair, .int (nI sh), .int want, .int mwin, .int (bI isCh), .int mbest, .ref k0, .ref k1, .ref k2, .ref k3])), (mf, .inl (cI, 11, .inl ff)), (mw, .inl (cI, 11, .inl fw)), (mk, .inl (cI, 11, .inl mm)), (k0, .inl (cJ, 549, .inr (.inl a))), (k1, .inl (cJ, 549, .inr (.inl b))), (k2, .inl (cJ, 549, .inr (.inl g1))), (k3, .inl (cJ, 549, .inr (.inl g2)))] → va_S A s.heap H locs → lv_has ls 6 [(4, .int (nI (smN cg))), (3, .int (sm10 ff)), (2, .int p1), (1, .int (nI k)), (0, .ref m0)] → W p l e R s m args below meth c H locs cells slots Q (F0 m 121 ls [])) → W p l e R s m args below meth c H locs cells slots Q (F0 m 91 ls []) := by
  intro n9
  induction n9 with
  | zero => intro i a b H locs ls hms9; exact absurd hms9 (Nat.not_lt_zero _)
  | succ n9 ih =>
    intro i a b H locs ls hms9 i5 hv1 hv2 hP hD hS hl kk0
    refine lv_iload hx hb dX6_known_91 (lv_at hl 0 rfl) ?_
    refine lv_sipush (v := 549) hx hb dX6_known_93 (by decide) ?_
    refine lv_icmp_ge (tgt := 121) hx hb dX6_known_96 (by decide) (fun c96_1 => ?_) (fun c96_1 => ?_)
    · skip
      have nc96_1 : 549 ≤ i := (nI_leI (a := 549) (b := i) (by omega) (by omega)).mp c96_1
      exact kk0 a b _ _ _ (fun j a => hv1 j (by omega)) (fun j a => hv2 j (by omega)) hP hD hS (lv_sub hl [1, 2, 3, 4, 5] rfl)
    · skip
      have nc96_1 : ¬ (549 ≤ i) := fun z9 => c96_1 ((nI_leI (a := 549) (b := i) (by omega) (by omega)).mpr z9)
      refine lv_aload_n hx hb dX6_known_99 rfl (lv_at hl 5 rfl) ?_
      refine va_get (D := D) (ci := 6) (v := .ref k0) (C := RX6) (T := TX6) (N := 39) hx hb hts in_X6_known_X6 hown hK hP 0 rfl rfl 35 (by decide) (hts _ wd_X6_known_0) (fun _ h9 => h9) rfl dX6_known_100 ?_
      refine lv_iload hx hb dX6_known_103 (lv_at hl 0 rfl) ?_
      refine lv_lconst (v := 0) hx hb dX6_known_105 (by decide) ?_
      refine va_last hx hb hK hP hD hS 4 1 rfl rfl (vp_in_nI (by omega) (by decide)) dX6_known_106 (fun H locs hP hD hS => ?_)
      have e9 : (vp_updL a (nI i).toNatClampNeg 0) = vp_updL a i 0 := by rw [nI_clamp (show i < 2 ^ 31 by omega)]
      have hP : va_P D vwCl [(m0, .inr (6, [.ref ms, .ref mf, .ref mw, .ref mk, .int (bI mtold), .ref mh, .int (nI hn), .int (nI un), .int (nI tg), .int stan, .int soft, .int doub, .int spli, .int giv, .int bon, .long drw, .int mbank, .ref q0, .ref q1, .ref q2, .int (nI hp), .ref q3, .ref q4, .ref q5, .ref q6, .ref q7, .int msum, .int (bI hasA), .int mcards, .int mpair, .int (nI sh), .int want, .int mwin, .int (bI isCh), .int mbest, .ref k0, .ref k1, .ref k2, .ref k3])), (mf, .inl (cI, 11, .inl ff)), (mw, .inl (cI, 11, .inl fw)), (mk, .inl (cI, 11, .inl mm)), (k0, .inl (cJ, 549, .inr (.inl (vp_updL a i 0)))), (k1, .inl (cJ, 549, .inr (.inl b))), (k2, .inl (cJ, 549, .inr (.inl g1))), (k3, .inl (cJ, 549, .inr (.inl g2)))] H := by rw [← e9]; exact hP
      have hD : va_D A [(m0, .inr (6, [.ref ms, .ref mf, .ref mw, .ref mk, .int (bI mtold), .ref mh, .int (nI hn), .int (nI un), .int (nI tg), .int stan, .int soft, .int doub, .int spli, .int giv, .int bon, .long drw, .int mbank, .ref q0, .ref q1, .ref q2, .int (nI hp), .ref q3, .ref q4, .ref q5, .ref q6, .ref q7, .int msum, .int (bI hasA), .int mcards, .int mpair, .int (nI sh), .int want, .int mwin, .int (bI isCh), .int mbest, .ref k0, .ref k1, .ref k2, .ref k3])), (mf, .inl (cI, 11, .inl ff)), (mw, .inl (cI, 11, .inl fw)), (mk, .inl (cI, 11, .inl mm)), (k0, .inl (cJ, 549, .inr (.inl (vp_updL a i 0)))), (k1, .inl (cJ, 549, .inr (.inl b))), (k2, .inl (cJ, 549, .inr (.inl g1))), (k3, .inl (cJ, 549, .inr (.inl g2)))] := by rw [← e9]; exact hD
      clear e9
      refine lv_aload_n hx hb dX6_known_107 rfl (lv_at hl 5 rfl) ?_
      refine va_get (D := D) (ci := 6) (v := .ref k1) (C := RX6) (T := TX6) (N := 39) hx hb hts in_X6_known_X6 hown hK hP 0 rfl rfl 36 (by decide) (hts _ wd_X6_known_1) (fun _ h9 => h9) rfl dX6_known_108 ?_
      refine lv_iload hx hb dX6_known_111 (lv_at hl 0 rfl) ?_
      refine lv_lconst (v := 0) hx hb dX6_known_113 (by decide) ?_
      refine va_last hx hb hK hP hD hS 5 1 rfl rfl (vp_in_nI (by omega) (by decide)) dX6_known_114 (fun H locs hP hD hS => ?_)
      have e9 : (vp_updL b (nI i).toNatClampNeg 0) = vp_updL b i 0 := by rw [nI_clamp (show i < 2 ^ 31 by omega)]
      have hP : va_P D vwCl [(m0, .inr (6, [.ref ms, .ref mf, .ref mw, .ref mk, .int (bI mtold), .ref mh, .int (nI hn), .int (nI un), .int (nI tg), .int stan, .int soft, .int doub, .int spli, .int giv, .int bon, .long drw, .int mbank, .ref q0, .ref q1, .ref q2, .int (nI hp), .ref q3, .ref q4, .ref q5, .ref q6, .ref q7, .int msum, .int (bI hasA), .int mcards, .int mpair, .int (nI sh), .int want, .int mwin, .int (bI isCh), .int mbest, .ref k0, .ref k1, .ref k2, .ref k3])), (mf, .inl (cI, 11, .inl ff)), (mw, .inl (cI, 11, .inl fw)), (mk, .inl (cI, 11, .inl mm)), (k0, .inl (cJ, 549, .inr (.inl (vp_updL a i 0)))), (k1, .inl (cJ, 549, .inr (.inl (vp_updL b i 0)))), (k2, .inl (cJ, 549, .inr (.inl g1))), (k3, .inl (cJ, 549, .inr (.inl g2)))] H := by rw [← e9]; exact hP
      have hD : va_D A [(m0, .inr (6, [.ref ms, .ref mf, .ref mw, .ref mk, .int (bI mtold), .ref mh, .int (nI hn), .int (nI un), .int (nI tg), .int stan, .int soft, .int doub, .int spli, .int giv, .int bon, .long drw, .int mbank, .ref q0, .ref q1, .ref q2, .int (nI hp), .ref q3, .ref q4, .ref q5, .ref q6, .ref q7, .int msum, .int (bI hasA), .int mcards, .int mpair, .int (nI sh), .int want, .int mwin, .int (bI isCh), .int mbest, .ref k0, .ref k1, .ref k2, .ref k3])), (mf, .inl (cI, 11, .inl ff)), (mw, .inl (cI, 11, .inl fw)), (mk, .inl (cI, 11, .inl mm)), (k0, .inl (cJ, 549, .inr (.inl (vp_updL a i 0)))), (k1, .inl (cJ, 549, .inr (.inl (vp_updL b i 0)))), (k2, .inl (cJ, 549, .inr (.inl g1))), (k3, .inl (cJ, 549, .inr (.inl g2)))] := by rw [← e9]; exact hD
      clear e9
      refine lv_iinc (v := (nI (i + 1))) (lv' := [(5, .int (nI (i + 1))), (4, .int (nI (smN cg))), (3, .int (sm10 ff)), (2, .int p1), (1, .int (nI k)), (0, .ref m0)]) hx hb dX6_known_115 hl (k := 0) rfl (nI_incT (by decide)) (by decide) rfl (fun ls hl => ?_)
      refine lv_goto (tgt := 91) hx hb dX6_known_118 (by decide) ?_
      exact ih (i + 1) (vp_updL a i 0) (vp_updL b i 0) _ _ _ (by omega) (by omega) (clr0 hv1) (clr0 hv2) hP hD hS (lv_sub hl [0, 1, 2, 3, 4, 5] rfl) kk0


set_option maxHeartbeats 400000 in
set_option maxRecDepth 100000 in
theorem lpK2V {p : Program} {l : Launch} {e : Env} {R : Room} {s : State} {m : MethodId} {args : Array Value} {below : List Frame} {meth : Method} {c : Code} {Q : State → Prop} {D : va_G} {cI cJ cQ : ClassId} {A : Nat → Prop} {cells slots : Nat} (hx : p.tables.exec = Jvm.exec) (hb : c.code = cX6_known) (hml : c.maxLocals = 6) (hown : s.vm.findClass RX6 = some m.cls) (hts : ∀ w ∈ wsX6_known, w.before args s = true) (hK : va_K D vwCl (gTy cI cJ cQ) s) (hA : ∀ q : Nat, s.heap.size ≤ q → A q) (m0 : Nat) (ms : Nat) (mf : Nat) (mw : Nat) (mk : Nat) (mtold : Bool) (mh : Nat) (hn : Nat) (un : Nat) (tg : Nat) (stan : Int32) (soft : Int32) (doub : Int32) (spli : Int32) (giv : Int32) (bon : Int32) (drw : Int64) (mbank : Int32) (q0 : Nat) (q1 : Nat) (q2 : Nat) (hp : Nat) (q3 : Nat) (q4 : Nat) (q5 : Nat) (q6 : Nat) (q7 : Nat) (msum : Int32) (hasA : Bool) (mcards : Int32) (mpair : Int32) (sh : Nat) (want : Int32) (mwin : Int32) (isCh : Bool) (mbest : Int32) (k0 : Nat) (k1 : Nat) (k2 : Nat) (k3 : Nat) (ff : Nat → Int32) (fw : Nat → Int32) (mm : Nat → Int32) (k : Nat) (p1 : Int32) (cf : Nat → Nat) (cg : Nat → Nat) (hRf : 2 ≤ R.frames) (hRl : 53 ≤ R.locals) (hRc : cells ≤ R.cells) (hRs : slots ≤ R.slots) (hcf : cntI ff cf) (hmk : ∀ j, 1 ≤ j → j ≤ 10 → -3 ≤ (mm j).toInt ∧ (mm j).toInt ≤ 3) (hcg : ∀ j, 1 ≤ j → j ≤ 10 → fw j = nI (cg j) ∧ cg j ≤ cf j) (h60 : smN cf ≤ 60) (g8 : smN cg ≤ 8) (kk1 : 1 ≤ k) (kk2 : k ≤ 10) : ∀ (n9 : Nat) (r : Nat) (a : Nat → Int64) (b : Nat → Int64) (g1 : Nat → Int64) (g2 : Nat → Int64) (wv : Nat → Nat) (tt : Nat) (tk : Nat → Nat) (H : Heap) (locs : List Loc) (ls : Array Slot), 11 - r < n9 → (1 ≤ r) → (r ≤ 11) → (∀ i, i < 549 → a i = lN (wv i)) → (WOK (smU cf (r - 1)) (smN cg) wv) → ((tt : Int) = 30 + mkS mm cg (r - 1)) → (0 < wv (61 * smU cg (r - 1) + tt)) → (∀ i, i < 549 → b i = lN (tk i)) → (R61 (smN cg) (kqW (fun j => (mm j).toInt) cf (r - 1)) wv) → (R61 (smN cg) (kqT (fun j => (mm j).toInt) cf k (r - 1)) tk) → va_P D vwCl [(m0, .inr (6, [.ref ms, .ref mf, .ref mw, .ref mk, .int (bI mtold), .ref mh, .int (nI hn), .int (nI un), .int (nI tg), .int stan, .int soft, .int doub, .int spli, .int giv, .int bon, .long drw, .int mbank, .ref q0, .ref q1, .ref q2, .int (nI hp), .ref q3, .ref q4, .ref q5, .ref q6, .ref q7, .int msum, .int (bI hasA), .int mcards, .int mpair, .int (nI sh), .int want, .int mwin, .int (bI isCh), .int mbest, .ref k0, .ref k1, .ref k2, .ref k3])), (mf, .inl (cI, 11, .inl ff)), (mw, .inl (cI, 11, .inl fw)), (mk, .inl (cI, 11, .inl mm)), (k0, .inl (cJ, 549, .inr (.inl a))), (k1, .inl (cJ, 549, .inr (.inl b))), (k2, .inl (cJ, 549, .inr (.inl g1))), (k3, .inl (cJ, 549, .inr (.inl g2)))] H → va_D A [(m0, .inr (6, [.ref ms, .ref mf, .ref mw, .ref mk, .int (bI mtold), .ref mh, .int (nI hn), .int (nI un), .int (nI tg), .int stan, .int soft, .int doub, .int spli, .int giv, .int bon, .long drw, .int mbank, .ref q0, .ref q1, .ref q2, .int (nI hp), .ref q3, .ref q4, .ref q5, .ref q6, .ref q7, .int msum, .int (bI hasA), .int mcards, .int mpair, .int (nI sh), .int want, .int mwin, .int (bI isCh), .int mbest, .ref k0, .ref k1, .ref k2, .ref k3])), (mf, .inl (cI, 11, .inl ff)), (mw, .inl (cI, 11, .inl fw)), (mk, .inl (cI, 11, .inl mm)), (k0, .inl (cJ, 549, .inr (.inl a))), (k1, .inl (cJ, 549, .inr (.inl b))), (k2, .inl (cJ, 549, .inr (.inl g1))), (k3, .inl (cJ, 549, .inr (.inl g2)))] → va_S A s.heap H locs → lv_has ls 6 [(5, .int (nI r)), (4, .int (nI (smN cg))), (3, .int (sm10 ff)), (2, .int p1), (1, .int (nI k)), (0, .ref m0)] → (∀ (a : Nat → Int64) (b : Nat → Int64) (g1 : Nat → Int64) (g2 : Nat → Int64) (wv : Nat → Nat) (tt : Nat) (tk : Nat → Nat) (H : Heap) (locs : List Loc) (ls : Array Slot), (∀ i, i < 549 → a i = lN (wv i)) → (WOK (smU cf 10) (smN cg) wv) → ((tt : Int) = 30 + mkS mm cg 10) → (0 < wv (61 * smU cg 10 + tt)) → (∀ i, i < 549 → b i = lN (tk i)) → (R61 (smN cg) (kqW (fun j => (mm j).toInt) cf 10) wv) → (R61 (smN cg) (kqT (fun j => (mm j).toInt) cf k 10) tk) → va_P D vwCl [(m0, .inr (6, [.ref ms, .ref mf, .ref mw, .ref mk, .int (bI mtold), .ref mh, .int (nI hn), .int (nI un), .int (nI tg), .int stan, .int soft, .int doub, .int spli, .int giv, .int bon, .long drw, .int mbank, .ref q0, .ref q1, .ref q2, .int (nI hp), .ref q3, .ref q4, .ref q5, .ref q6, .ref q7, .int msum, .int (bI hasA), .int mcards, .int mpair, .int (nI sh), .int want, .int mwin, .int (bI isCh), .int mbest, .ref k0, .ref k1, .ref k2, .ref k3])), (mf, .inl (cI, 11, .inl ff)), (mw, .inl (cI, 11, .inl fw)), (mk, .inl (cI, 11, .inl mm)), (k0, .inl (cJ, 549, .inr (.inl a))), (k1, .inl (cJ, 549, .inr (.inl b))), (k2, .inl (cJ, 549, .inr (.inl g1))), (k3, .inl (cJ, 549, .inr (.inl g2)))] H → va_D A [(m0, .inr (6, [.ref ms, .ref mf, .ref mw, .ref mk, .int (bI mtold), .ref mh, .int (nI hn), .int (nI un), .int (nI tg), .int stan, .int soft, .int doub, .int spli, .int giv, .int bon, .long drw, .int mbank, .ref q0, .ref q1, .ref q2, .int (nI hp), .ref q3, .ref q4, .ref q5, .ref q6, .ref q7, .int msum, .int (bI hasA), .int mcards, .int mpair, .int (nI sh), .int want, .int mwin, .int (bI isCh), .int mbest, .ref k0, .ref k1, .ref k2, .ref k3])), (mf, .inl (cI, 11, .inl ff)), (mw, .inl (cI, 11, .inl fw)), (mk, .inl (cI, 11, .inl mm)), (k0, .inl (cJ, 549, .inr (.inl a))), (k1, .inl (cJ, 549, .inr (.inl b))), (k2, .inl (cJ, 549, .inr (.inl g1))), (k3, .inl (cJ, 549, .inr (.inl g2)))] → va_S A s.heap H locs → lv_has ls 6 [(4, .int (nI (smN cg))), (3, .int (sm10 ff)), (2, .int p1), (1, .int (nI k)), (0, .ref m0)] → W p l e R s m args below meth c H locs cells slots Q (F0 m 154 ls [])) → W p l e R s m args below meth c H locs cells slots Q (F0 m 132 ls []) := by
  intro n9
  induction n9 with
  | zero => intro r a b g1 g2 wv tt tk H locs ls hms9; exact absurd hms9 (Nat.not_lt_zero _)
  | succ n9 ih =>
    intro r a b g1 g2 wv tt tk H locs ls hms9 r1 r2 hwa hW htt hpw hbk hRW hRT hP hD hS hl kk0
    refine lv_iload hx hb dX6_known_132 (lv_at hl 0 rfl) ?_
    refine lv_bipush (v := 11) hx hb dX6_known_134 (by decide) ?_
    refine lv_icmp_ge (tgt := 154) hx hb dX6_known_136 (by decide) (fun c136_1 => ?_) (fun c136_1 => ?_)
    · skip
      have nc136_1 : 11 ≤ r := (nI_leI (a := 11) (b := r) (by omega) (by omega)).mp c136_1
      exact kk0 a b g1 g2 wv tt tk _ _ _ hwa (by rw [show r - 1 = 10 by omega] at hW; exact hW) (by rw [show r - 1 = 10 by omega] at htt; exact htt) (by rw [show r - 1 = 10 by omega] at hpw; exact hpw) hbk (by rw [show r - 1 = 10 by omega] at hRW; exact hRW) (by rw [show r - 1 = 10 by omega] at hRT; exact hRT) hP hD hS (lv_sub hl [1, 2, 3, 4, 5] rfl)
    · skip
      have nc136_1 : ¬ (11 ≤ r) := fun z9 => c136_1 ((nI_leI (a := 11) (b := r) (by omega) (by omega)).mpr z9)
      have hsf := smU_s cf r1
      have hsg := smU_s cg r1
      have hsm := mkS_s mm cg r1
      have hlf := smU_le10 cf (k := r) (by omega)
      have hlg := smU_le10 cg (k := r) (by omega)
      have hb1 := mkS_b (cg := cg) hmk (r - 1) (by omega)
      have hb2 := mkS_b (cg := cg) hmk r (by omega)
      obtain ⟨t9, et9⟩ : ∃ t9 : Nat, (t9 : Int) = 30 + mkS mm cg r := ⟨(30 + mkS mm cg r).toNat, by omega⟩
      have hc32 : ∀ j, 1 ≤ j → j ≤ 10 → cf j ≤ 32 := fun j x y => (hcf j x y).2
      have hST : ∀ (j : Nat) (s : Int), j ≤ 8 → kqW (fun j => (mm j).toInt) cf (r - 1) j s = 0 → kqT (fun j => (mm j).toInt) cf k (r - 1) j s = 0 := fun j s x y => by have q9 := kqT_le (mk := (fun j => (mm j).toInt)) (rk := k) (s := s) hc32 (show r - 1 ≤ 10 by omega) x kk1; rw [y, Nat.mul_zero] at q9; omega
      have htw : ∀ j t : Nat, j ≤ smN cg → t < 61 → wv (61 * j + t) = 0 → tk (61 * j + t) = 0 := fun j t x y z => by rw [hRT j t x y]; rw [hRW j t x y] at z; exact hST _ _ (by omega) z
      refine lv_aload_n hx hb dX6_known_139 rfl (lv_at hl 5 rfl) ?_
      refine lv_iload hx hb dX6_known_140 (lv_at hl 0 rfl) ?_
      refine lv_iload_n hx hb dX6_known_142 rfl (lv_at hl 4 rfl) ?_
      refine lv_iload hx hb dX6_known_143 (lv_at hl 1 rfl) ?_
      have hPc := hP.sub (ws' := [(m0, .inr (6, [.ref ms, .ref mf, .ref mw, .ref mk, .int (bI mtold), .ref mh, .int (nI hn), .int (nI un), .int (nI tg), .int stan, .int soft, .int doub, .int spli, .int giv, .int bon, .long drw, .int mbank, .ref q0, .ref q1, .ref q2, .int (nI hp), .ref q3, .ref q4, .ref q5, .ref q6, .ref q7, .int msum, .int (bI hasA), .int mcards, .int mpair, .int (nI sh), .int want, .int mwin, .int (bI isCh), .int mbest, .ref k0, .ref k1, .ref k2, .ref k3])), (mf, .inl (cI, 11, .inl ff)), (mk, .inl (cI, 11, .inl mm)), (k0, .inl (cJ, 549, .inr (.inl a))), (k1, .inl (cJ, 549, .inr (.inl b))), (k2, .inl (cJ, 549, .inr (.inl g1))), (k3, .inl (cJ, 549, .inr (.inl g2)))]) [0, 1, 3, 4, 5, 6, 7] rfl
      have hDc := hD.sub (ws' := [(m0, .inr (6, [.ref ms, .ref mf, .ref mw, .ref mk, .int (bI mtold), .ref mh, .int (nI hn), .int (nI un), .int (nI tg), .int stan, .int soft, .int doub, .int spli, .int giv, .int bon, .long drw, .int mbank, .ref q0, .ref q1, .ref q2, .int (nI hp), .ref q3, .ref q4, .ref q5, .ref q6, .ref q7, .int msum, .int (bI hasA), .int mcards, .int mpair, .int (nI sh), .int want, .int mwin, .int (bI isCh), .int mbest, .ref k0, .ref k1, .ref k2, .ref k3])), (mf, .inl (cI, 11, .inl ff)), (mk, .inl (cI, 11, .inl mm)), (k0, .inl (cJ, 549, .inr (.inl a))), (k1, .inl (cJ, 549, .inr (.inl b))), (k2, .inl (cJ, 549, .inr (.inl g1))), (k3, .inl (cJ, 549, .inr (.inl g2)))]) [0, 1, 3, 4, 5, 6, 7] (by decide) rfl
      have hFc := va_free (wc := [(m0, .inr (6, [.ref ms, .ref mf, .ref mw, .ref mk, .int (bI mtold), .ref mh, .int (nI hn), .int (nI un), .int (nI tg), .int stan, .int soft, .int doub, .int spli, .int giv, .int bon, .long drw, .int mbank, .ref q0, .ref q1, .ref q2, .int (nI hp), .ref q3, .ref q4, .ref q5, .ref q6, .ref q7, .int msum, .int (bI hasA), .int mcards, .int mpair, .int (nI sh), .int want, .int mwin, .int (bI isCh), .int mbest, .ref k0, .ref k1, .ref k2, .ref k3])), (mf, .inl (cI, 11, .inl ff)), (mk, .inl (cI, 11, .inl mm)), (k0, .inl (cJ, 549, .inr (.inl a))), (k1, .inl (cJ, 549, .inr (.inl b))), (k2, .inl (cJ, 549, .inr (.inl g1))), (k3, .inl (cJ, 549, .inr (.inl g2)))]) hD hS hA [0, 1, 3, 4, 5, 6, 7] rfl
      refine va_callv (va_runV (As := [.int (nI r), .int (nI k), .int (nI (smN cg))]) (rest := []) ⟨hx, hb, hml, hown, hts⟩ (c_X6_addRankV l D cI cJ cQ _ m0 ms mf mw mk mtold mh hn un tg stan soft doub spli giv bon drw mbank q0 q1 q2 hp q3 q4 q5 q6 q7 msum hasA mcards mpair sh want mwin isCh mbest k0 k1 k2 k3 (ff) (mm) (a) (b) (g1) (g2) r (nI k) (smN cg) (smU cf (r - 1)) cf wv (smU cg (r - 1)) tt (cg r) t9 tk (decide (r = k)) r1 (by omega) g8 (by omega) (hcf r r1 (by omega)).1 (hcf r r1 (by omega)).2 (hmk r r1 (by omega)) hwa hW (by omega) (by omega) (hcg r r1 (by omega)).2 (by omega) hpw hbk htw (by rw [decide_eq_decide]; exact nI_eq (by omega) (by omega))) (cwV 3 hts gX6_known_X6_addRank rfl rfl rfl (by decide +kernel) ⟨Nat.le_trans (show 1 + 1 ≤ 2 by omega) hRf, Nat.le_trans (show 8 + (10 + 11) + (24) ≤ 53 by omega) hRl⟩) (mP_preV (ci := 6) (q0 := 0) hPc hK hDc rfl rfl) rfl rfl hl.1 rfl (lv_room (Nat.le_of_ble_eq_true rfl)) dX6_known_145 ⟨hRc, hRs⟩) hS (fun q _ h => hFc q h) hFc (fun u_r_2 t H1 locs ht hvm hr_2 hB hz1 hk1 hS => ?_)
      obtain ⟨a2_3, b2_4, g12_5, g22_6⟩ := u_r_2
      obtain ⟨hP1, hK1, hD1⟩ := hB
      rw [ht] at hP1
      try dsimp only at hr_2
      obtain ⟨hP, hD⟩ := va_join (wr := [(mw, .inl (cI, 11, .inl fw))]) (w1 := [(m0, .inr (6, [.ref ms, .ref mf, .ref mw, .ref mk, .int (bI mtold), .ref mh, .int (nI hn), .int (nI un), .int (nI tg), .int stan, .int soft, .int doub, .int spli, .int giv, .int bon, .long drw, .int mbank, .ref q0, .ref q1, .ref q2, .int (nI hp), .ref q3, .ref q4, .ref q5, .ref q6, .ref q7, .int msum, .int (bI hasA), .int mcards, .int mpair, .int (nI sh), .int want, .int mwin, .int (bI isCh), .int mbest, .ref k0, .ref k1, .ref k2, .ref k3])), (mf, .inl (cI, 11, .inl (ff))), (mk, .inl (cI, 11, .inl (mm))), (k0, .inl (cJ, 549, .inr (.inl a2_3))), (k1, .inl (cJ, 549, .inr (.inl b2_4))), (k2, .inl (cJ, 549, .inr (.inl g12_5))), (k3, .inl (cJ, 549, .inr (.inl g22_6)))]) hP hD [0, 1, 3, 4, 5, 6, 7] [2] rfl rfl (by decide) (by decide) hk1 hFc hP1 hD1
      generalize H1 = H at hP hS ⊢
      have hP : va_P D vwCl [(mw, .inl (cI, 11, .inl fw)), (m0, .inr (6, [.ref ms, .ref mf, .ref mw, .ref mk, .int (bI mtold), .ref mh, .int (nI hn), .int (nI un), .int (nI tg), .int stan, .int soft, .int doub, .int spli, .int giv, .int bon, .long drw, .int mbank, .ref q0, .ref q1, .ref q2, .int (nI hp), .ref q3, .ref q4, .ref q5, .ref q6, .ref q7, .int msum, .int (bI hasA), .int mcards, .int mpair, .int (nI sh), .int want, .int mwin, .int (bI isCh), .int mbest, .ref k0, .ref k1, .ref k2, .ref k3])), (mf, .inl (cI, 11, .inl (ff))), (mk, .inl (cI, 11, .inl (mm))), (k0, .inl (cJ, 549, .inr (.inl a2_3))), (k1, .inl (cJ, 549, .inr (.inl b2_4))), (k2, .inl (cJ, 549, .inr (.inl g12_5))), (k3, .inl (cJ, 549, .inr (.inl g22_6)))] H := hP
      have hD : va_D A [(mw, .inl (cI, 11, .inl fw)), (m0, .inr (6, [.ref ms, .ref mf, .ref mw, .ref mk, .int (bI mtold), .ref mh, .int (nI hn), .int (nI un), .int (nI tg), .int stan, .int soft, .int doub, .int spli, .int giv, .int bon, .long drw, .int mbank, .ref q0, .ref q1, .ref q2, .int (nI hp), .ref q3, .ref q4, .ref q5, .ref q6, .ref q7, .int msum, .int (bI hasA), .int mcards, .int mpair, .int (nI sh), .int want, .int mwin, .int (bI isCh), .int mbest, .ref k0, .ref k1, .ref k2, .ref k3])), (mf, .inl (cI, 11, .inl (ff))), (mk, .inl (cI, 11, .inl (mm))), (k0, .inl (cJ, 549, .inr (.inl a2_3))), (k1, .inl (cJ, 549, .inr (.inl b2_4))), (k2, .inl (cJ, 549, .inr (.inl g12_5))), (k3, .inl (cJ, 549, .inr (.inl g22_6)))] := hD
      obtain ⟨wv2, tk2, w1_, w2_, w3_, w4_, w5_, w6_⟩ := hr_2
      refine lv_iinc (v := (nI (r + 1))) (lv' := [(5, .int (nI (r + 1))), (4, .int (nI (smN cg))), (3, .int (sm10 ff)), (2, .int p1), (1, .int (nI k)), (0, .ref m0)]) hx hb dX6_known_148 hl (k := 0) rfl (nI_incT (by decide)) (by decide) rfl (fun ls hl => ?_)
      refine lv_goto (tgt := 132) hx hb dX6_known_151 (by decide) ?_
      exact ih (r + 1) a2_3 b2_4 g12_5 g22_6 wv2 t9 tk2 _ _ _ (by omega) (by omega) (by omega) w1_ (by rw [show r + 1 - 1 = r by omega, hsf]; exact w2_) (by rw [show r + 1 - 1 = r by omega]; exact et9) (by rw [show r + 1 - 1 = r by omega, hsg]; exact w3_) w4_ (by have q9 := R61_W hRW (kqS_W hmk (r - 1) (by omega)) (hc32 r r1 (by omega)) g8 w5_; obtain ⟨q, rfl⟩ : ∃ q, r = q + 1 := ⟨r - 1, by omega⟩; exact q9) (by have q9 := R61_T hRW hRT (kqS_W hmk (r - 1) (by omega)) hST (hc32 r r1 (by omega)) g8 w6_; obtain ⟨q, rfl⟩ : ∃ q, r = q + 1 := ⟨r - 1, by omega⟩; exact q9) (hP.sub [1, 2, 0, 3, 4, 5, 6, 7] rfl) (hD.sub [1, 2, 0, 3, 4, 5, 6, 7] (by decide) rfl) hS (lv_sub hl [0, 1, 2, 3, 4, 5] rfl) kk0

set_option maxHeartbeats 400000 in
set_option maxRecDepth 100000 in
/-- X6_known -/
theorem c_X6_knownV (l : Launch) (D : va_G) (cI cJ cQ : ClassId) (sz : Nat) (m0 : Nat) (ms : Nat) (mf : Nat) (mw : Nat) (mk : Nat) (mtold : Bool) (mh : Nat) (hn : Nat) (un : Nat) (tg : Nat) (stan : Int32) (soft : Int32) (doub : Int32) (spli : Int32) (giv : Int32) (bon : Int32) (drw : Int64) (mbank : Int32) (q0 : Nat) (q1 : Nat) (q2 : Nat) (hp : Nat) (q3 : Nat) (q4 : Nat) (q5 : Nat) (q6 : Nat) (q7 : Nat) (msum : Int32) (hasA : Bool) (mcards : Int32) (mpair : Int32) (sh : Nat) (want : Int32) (mwin : Int32) (isCh : Bool) (mbest : Int32) (k0 : Nat) (k1 : Nat) (k2 : Nat) (k3 : Nat) (ff : Nat → Int32) (fw : Nat → Int32) (mm : Nat → Int32) (a : Nat → Int64) (b : Nat → Int64) (g1 : Nat → Int64) (g2 : Nat → Int64) (p0 : Int32) (p1 : Int32) (cf : Nat → Nat) (cg : Nat → Nat) (hcf : cntI ff cf) (hmk : ∀ j, 1 ≤ j → j ≤ 10 → -3 ≤ (mm j).toInt ∧ (mm j).toInt ≤ 3) (hcg0 : mtold = false → ∀ j, 1 ≤ j → j ≤ 10 → fw j = nI (cg j) ∧ cg j ≤ cf j) : Met l yX6_known wsX6_known ({ frames := 2, cells := 0, slots := 0, locals := 55 }) (va_Pc [.ref m0, .int p0, .int p1] (mP D (gTy cI cJ cQ) [(m0, .inr (6, [.ref ms, .ref mf, .ref mw, .ref mk, .int (bI mtold), .ref mh, .int (nI hn), .int (nI un), .int (nI tg), .int stan, .int soft, .int doub, .int spli, .int giv, .int bon, .long drw, .int mbank, .ref q0, .ref q1, .ref q2, .int (nI hp), .ref q3, .ref q4, .ref q5, .ref q6, .ref q7, .int msum, .int (bI hasA), .int mcards, .int mpair, .int (nI sh), .int want, .int mwin, .int (bI isCh), .int mbest, .ref k0, .ref k1, .ref k2, .ref k3])), (mf, .inl (cI, 11, .inl ff)), (mw, .inl (cI, 11, .inl fw)), (mk, .inl (cI, 11, .inl mm)), (k0, .inl (cJ, 549, .inr (.inl a))), (k1, .inl (cJ, 549, .inr (.inl b))), (k2, .inl (cJ, 549, .inr (.inl g1))), (k3, .inl (cJ, 549, .inr (.inl g2)))] sz)) (va_Ql (fun (r : Int64) (u : (Nat → Int64) × (Nat → Int64) × (Nat → Int64) × (Nat → Int64)) => match u with | (a2, b2, g12, g22) => if inB p0.toInt64 1 10 = 0 then r = -1001 else if inB p1.toInt64 0 1 = 0 then r = -1001 else if mtold = true then r = -1002 else if 60 < sm10 ff ∨ ¬ smN cg ≤ 8 then r = -1004 else r = knV p0.toNatClampNeg p1 mm cf cg) (fun (u : (Nat → Int64) × (Nat → Int64) × (Nat → Int64) × (Nat → Int64)) t => match u with | (a2, b2, g12, g22) => mB D (gTy cI cJ cQ) (va_A [(m0, .inr (6, [.ref ms, .ref mf, .ref mw, .ref mk, .int (bI mtold), .ref mh, .int (nI hn), .int (nI un), .int (nI tg), .int stan, .int soft, .int doub, .int spli, .int giv, .int bon, .long drw, .int mbank, .ref q0, .ref q1, .ref q2, .int (nI hp), .ref q3, .ref q4, .ref q5, .ref q6, .ref q7, .int msum, .int (bI hasA), .int mcards, .int mpair, .int (nI sh), .int want, .int mwin, .int (bI isCh), .int mbest, .ref k0, .ref k1, .ref k2, .ref k3])), (mf, .inl (cI, 11, .inl ff)), (mw, .inl (cI, 11, .inl fw)), (mk, .inl (cI, 11, .inl mm)), (k0, .inl (cJ, 549, .inr (.inl a))), (k1, .inl (cJ, 549, .inr (.inl b))), (k2, .inl (cJ, 549, .inr (.inl g1))), (k3, .inl (cJ, 549, .inr (.inl g2)))] sz) [(m0, .inr (6, [.ref ms, .ref mf, .ref mw, .ref mk, .int (bI mtold), .ref mh, .int (nI hn), .int (nI un), .int (nI tg), .int stan, .int soft, .int doub, .int spli, .int giv, .int bon, .long drw, .int mbank, .ref q0, .ref q1, .ref q2, .int (nI hp), .ref q3, .ref q4, .ref q5, .ref q6, .ref q7, .int msum, .int (bI hasA), .int mcards, .int mpair, .int (nI sh), .int want, .int mwin, .int (bI isCh), .int mbest, .ref k0, .ref k1, .ref k2, .ref k3])), (mf, .inl (cI, 11, .inl ff)), (mw, .inl (cI, 11, .inl fw)), (mk, .inl (cI, 11, .inl mm)), (k0, .inl (cJ, 549, .inr (.inl a2))), (k1, .inl (cJ, 549, .inr (.inl b2))), (k2, .inl (cJ, 549, .inr (.inl g12))), (k3, .inl (cJ, 549, .inr (.inl g22)))] t) (va_A [(m0, .inr (6, [.ref ms, .ref mf, .ref mw, .ref mk, .int (bI mtold), .ref mh, .int (nI hn), .int (nI un), .int (nI tg), .int stan, .int soft, .int doub, .int spli, .int giv, .int bon, .long drw, .int mbank, .ref q0, .ref q1, .ref q2, .int (nI hp), .ref q3, .ref q4, .ref q5, .ref q6, .ref q7, .int msum, .int (bI hasA), .int mcards, .int mpair, .int (nI sh), .int want, .int mwin, .int (bI isCh), .int mbest, .ref k0, .ref k1, .ref k2, .ref k3])), (mf, .inl (cI, 11, .inl ff)), (mw, .inl (cI, 11, .inl fw)), (mk, .inl (cI, 11, .inl mm)), (k0, .inl (cJ, 549, .inr (.inl a))), (k1, .inl (cJ, 549, .inr (.inl b))), (k2, .inl (cJ, 549, .inr (.inl g1))), (k3, .inl (cJ, 549, .inr (.inl g2)))] sz)) 0 0 (va_A [(m0, .inr (6, [.ref ms, .ref mf, .ref mw, .ref mk, .int (bI mtold), .ref mh, .int (nI hn), .int (nI un), .int (nI tg), .int stan, .int soft, .int doub, .int spli, .int giv, .int bon, .long drw, .int mbank, .ref q0, .ref q1, .ref q2, .int (nI hp), .ref q3, .ref q4, .ref q5, .ref q6, .ref q7, .int msum, .int (bI hasA), .int mcards, .int mpair, .int (nI sh), .int want, .int mwin, .int (bI isCh), .int mbest, .ref k0, .ref k1, .ref k2, .ref k3])), (mf, .inl (cI, 11, .inl ff)), (mw, .inl (cI, 11, .inl fw)), (mk, .inl (cI, 11, .inl mm)), (k0, .inl (cJ, 549, .inr (.inl a))), (k1, .inl (cJ, 549, .inr (.inl b))), (k2, .inl (cJ, 549, .inr (.inl g1))), (k3, .inl (cJ, 549, .inr (.inl g2)))] sz) := by
  refine Met.ofW (cc := cX6_known) (maxL := 6) (ret := (some .long)) (by decide) rfl ?_
  intro p e s m args below meth c s₁ B hml hv
  obtain ⟨rfl, hsz, hP, hK, hD0⟩ := hv
  have hx := B.exec
  have hb := B.bytes
  have hr := B.returns
  have hts := atoms_spec (ws := wsX6_known) B.pre
  have hown : s.vm.findClass RX6 = some m.cls := findClass_of_methodNamed B.named
  have hlocks := B.notSynchronized
  subst hsz
  have hD := hD0.self (sz := s.heap.size)
  generalize hAe : va_A [(m0, .inr (6, [.ref ms, .ref mf, .ref mw, .ref mk, .int (bI mtold), .ref mh, .int (nI hn), .int (nI un), .int (nI tg), .int stan, .int soft, .int doub, .int spli, .int giv, .int bon, .long drw, .int mbank, .ref q0, .ref q1, .ref q2, .int (nI hp), .ref q3, .ref q4, .ref q5, .ref q6, .ref q7, .int msum, .int (bI hasA), .int mcards, .int mpair, .int (nI sh), .int want, .int mwin, .int (bI isCh), .int mbest, .ref k0, .ref k1, .ref k2, .ref k3])), (mf, .inl (cI, 11, .inl ff)), (mw, .inl (cI, 11, .inl fw)), (mk, .inl (cI, 11, .inl mm)), (k0, .inl (cJ, 549, .inr (.inl a))), (k1, .inl (cJ, 549, .inr (.inl b))), (k2, .inl (cJ, 549, .inr (.inl g1))), (k3, .inl (cJ, 549, .inr (.inl g2)))] s.heap.size = A at hD ⊢
  have hA : ∀ q : Nat, s.heap.size ≤ q → A q := fun q h => by rw [← hAe]; exact Or.inr h
  have hS : va_S A s.heap s.heap [] := va_S.rf
  have hP : va_P D vwCl [(m0, .inr (6, [.ref ms, .ref mf, .ref mw, .ref mk, .int (bI mtold), .ref mh, .int (nI hn), .int (nI un), .int (nI tg), .int stan, .int soft, .int doub, .int spli, .int giv, .int bon, .long drw, .int mbank, .ref q0, .ref q1, .ref q2, .int (nI hp), .ref q3, .ref q4, .ref q5, .ref q6, .ref q7, .int msum, .int (bI hasA), .int mcards, .int mpair, .int (nI sh), .int want, .int mwin, .int (bI isCh), .int mbest, .ref k0, .ref k1, .ref k2, .ref k3])), (mf, .inl (cI, 11, .inl ff)), (mw, .inl (cI, 11, .inl fw)), (mk, .inl (cI, 11, .inl mm)), (k0, .inl (cJ, 549, .inr (.inl a))), (k1, .inl (cJ, 549, .inr (.inl b))), (k2, .inl (cJ, 549, .inr (.inl g1))), (k3, .inl (cJ, 549, .inr (.inl g2)))] s.heap := hP
  have hl := lv_entry ([.ref m0, .int p0, .int p1]) (n := 6) (Nat.le_of_ble_eq_true rfl)
  rw [lg_entry_eq]
  generalize (lg_sl ([.ref m0, .int p0, .int p1]) ++ List.replicate (6 - (lg_sl ([.ref m0, .int p0, .int p1])).length) Slot.unset).toArray = ls at hl ⊢
  have hl : lv_has ls 6 [(0, .ref m0), (1, .int p0), (2, .int p1)] := hl
  refine lv_iload_n hx hb dX6_known_0 rfl (lv_at hl 1 rfl) ?_
  refine lv_i2l (v := p0.toInt64) hx hb dX6_known_1 rfl ?_
  refine lv_lconst (v := 1) hx hb dX6_known_2 (by decide) ?_
  refine lv_ldc2 hx hb hown (hts _ wd_X6_known_2) dX6_known_3 ?_
  have hPc := hP.sub (ws' := []) [] rfl
  refine vp_callSi (W.runS (As := [.long p0.toInt64, .long 1, .long 10]) (rest := []) ⟨hx, hb, hml, hown, hts⟩ (c_X6_in l D cI cJ cQ p0.toInt64 1 10) (va_cwS 3 hts gX6_known_X6_in rfl rfl rfl (by decide +kernel) ⟨Nat.le_of_ble_eq_true rfl, Nat.le_of_ble_eq_true rfl⟩) (rP_preS hPc hK) rfl rfl hl.1 rfl (lv_room (Nat.le_of_ble_eq_true rfl)) dX6_known_6 ⟨Nat.le_of_ble_eq_true rfl, Nat.le_of_ble_eq_true rfl⟩) (fun r_1 hr_1 => ?_)
  subst hr_1
  refine lv_if_eq (tgt := 22) hx hb dX6_known_9 (by decide) (fun c9_2 => ?_) (fun c9_2 => ?_)
  · skip
    refine lv_ldc2 hx hb hown (hts _ wd_X6_known_3) dX6_known_22 ?_
    have hP9 := hP.sub (ws' := [(m0, .inr (6, [.ref ms, .ref mf, .ref mw, .ref mk, .int (bI mtold), .ref mh, .int (nI hn), .int (nI un), .int (nI tg), .int stan, .int soft, .int doub, .int spli, .int giv, .int bon, .long drw, .int mbank, .ref q0, .ref q1, .ref q2, .int (nI hp), .ref q3, .ref q4, .ref q5, .ref q6, .ref q7, .int msum, .int (bI hasA), .int mcards, .int mpair, .int (nI sh), .int want, .int mwin, .int (bI isCh), .int mbest, .ref k0, .ref k1, .ref k2, .ref k3])), (mf, .inl (cI, 11, .inl ff)), (mw, .inl (cI, 11, .inl fw)), (mk, .inl (cI, 11, .inl mm)), (k0, .inl (cJ, 549, .inr (.inl a))), (k1, .inl (cJ, 549, .inr (.inl b))), (k2, .inl (cJ, 549, .inr (.inl g1))), (k3, .inl (cJ, 549, .inr (.inl g2)))]) [0, 1, 2, 3, 4, 5, 6, 7] rfl
    have hD9 := hD.sub (ws' := [(m0, .inr (6, [.ref ms, .ref mf, .ref mw, .ref mk, .int (bI mtold), .ref mh, .int (nI hn), .int (nI un), .int (nI tg), .int stan, .int soft, .int doub, .int spli, .int giv, .int bon, .long drw, .int mbank, .ref q0, .ref q1, .ref q2, .int (nI hp), .ref q3, .ref q4, .ref q5, .ref q6, .ref q7, .int msum, .int (bI hasA), .int mcards, .int mpair, .int (nI sh), .int want, .int mwin, .int (bI isCh), .int mbest, .ref k0, .ref k1, .ref k2, .ref k3])), (mf, .inl (cI, 11, .inl ff)), (mw, .inl (cI, 11, .inl fw)), (mk, .inl (cI, 11, .inl mm)), (k0, .inl (cJ, 549, .inr (.inl a))), (k1, .inl (cJ, 549, .inr (.inl b))), (k2, .inl (cJ, 549, .inr (.inl g1))), (k3, .inl (cJ, 549, .inr (.inl g2)))]) [0, 1, 2, 3, 4, 5, 6, 7] (by decide) rfl
    exact W.lret (v := (-1001)) hx hb hr (fun t ht hW => ⟨⟨(-1001), ((a), (b), (g1), (g2)), rfl, (by dsimp only; (first | rw [if_pos c9_2] | rw [if_neg c9_2])), by rw [ht]; exact hP9, va_K.moved hW.alike hK, hD9⟩, hS.F ht⟩) hS.2.2 dX6_known_25
  · skip
    refine lv_iload_n hx hb dX6_known_12 rfl (lv_at hl 2 rfl) ?_
    refine lv_i2l (v := p1.toInt64) hx hb dX6_known_13 rfl ?_
    refine lv_lconst (v := 0) hx hb dX6_known_14 (by decide) ?_
    refine lv_lconst (v := 1) hx hb dX6_known_15 (by decide) ?_
    have hPc := hP.sub (ws' := []) [] rfl
    refine vp_callSi (W.runS (As := [.long p1.toInt64, .long 0, .long 1]) (rest := []) ⟨hx, hb, hml, hown, hts⟩ (c_X6_in l D cI cJ cQ p1.toInt64 0 1) (va_cwS 3 hts gX6_known_X6_in rfl rfl rfl (by decide +kernel) ⟨Nat.le_of_ble_eq_true rfl, Nat.le_of_ble_eq_true rfl⟩) (rP_preS hPc hK) rfl rfl hl.1 rfl (lv_room (Nat.le_of_ble_eq_true rfl)) dX6_known_16 ⟨Nat.le_of_ble_eq_true rfl, Nat.le_of_ble_eq_true rfl⟩) (fun r_3 hr_3 => ?_)
    subst hr_3
    refine lv_if_ne (tgt := 26) hx hb dX6_known_19 (by decide) (fun c19_4 => ?_) (fun c19_4 => ?_)
    · skip
      refine lv_aload_n hx hb dX6_known_26 rfl (lv_at hl 0 rfl) ?_
      refine va_get (D := D) (ci := 6) (v := .int (bI mtold)) (C := RX6) (T := TX6) (N := 39) hx hb hts in_X6_known_X6 hown hK hP 0 rfl rfl 4 (by decide) (hts _ wd_X6_known_4) (fun _ h9 => h9) rfl dX6_known_27 ?_
      refine lv_if_eq (tgt := 37) hx hb dX6_known_30 (by decide) (fun c30_5 => ?_) (fun c30_5 => ?_)
      · skip
        have nc30_5 : mtold = false := (bI_0 _).mp c30_5
        refine lv_iconst (v := 0) hx hb dX6_known_37 (by decide) ?_
        refine lv_istore_n (lv' := [(3, .int 0), (0, .ref m0), (1, .int p0), (2, .int p1)]) hx hb dX6_known_38 rfl hl (by decide) rfl (fun ls hl => ?_)
        refine lv_iconst (v := 1) hx hb dX6_known_39 (by decide) ?_
        refine lv_istore (lv' := [(4, .int 1), (3, .int 0), (0, .ref m0), (1, .int p0), (2, .int p1)]) hx hb dX6_known_40 hl (by decide) rfl (fun ls hl => ?_)
        refine lv_iload hx hb dX6_known_42 (lv_at hl 0 rfl) ?_
        refine lv_bipush (v := 11) hx hb dX6_known_44 (by decide) ?_
        refine lv_icmp_ge (tgt := 65) hx hb dX6_known_46 (by decide) (fun c46_6 => ?_) (fun c46_6 => ?_)
        · exact absurd c46_6 (by decide)
        refine lv_iload_n hx hb dX6_known_49 rfl (lv_at hl 1 rfl) ?_
        refine lv_aload_n hx hb dX6_known_50 rfl (lv_at hl 2 rfl) ?_
        refine va_get (D := D) (ci := 6) (v := .ref mf) (C := RX6) (T := TX6) (N := 39) hx hb hts in_X6_known_X6 hown hK hP 0 rfl rfl 1 (by decide) (hts _ wd_X6_known_5) (fun _ h9 => h9) rfl dX6_known_51 ?_
        refine lv_iload hx hb dX6_known_54 (lv_at hl 0 rfl) ?_
        refine va_iald hx hb hK hP 1 0 rfl rfl (show ¬ ((1 : Int32) < 0 ∨ 11 ≤ (1 : Int32).toNatClampNeg) by decide) dX6_known_56 ?_
        refine lv_topi (fun z_7 ez_7 => ?_)
        obtain rfl : z_7 = (ff 1) := ez_7
        refine lv_iadd hx hb dX6_known_57 ?_
        refine lv_istore_n (lv' := [(3, .int (0 + (ff 1))), (4, .int 1), (0, .ref m0), (1, .int p0), (2, .int p1)]) hx hb dX6_known_58 rfl hl (by decide) rfl (fun ls hl => ?_)
        refine lv_iinc (v := 2) (lv' := [(4, .int 2), (3, .int (0 + (ff 1))), (0, .ref m0), (1, .int p0), (2, .int p1)]) hx hb dX6_known_59 hl (k := 1) rfl (by decide) (by decide) rfl (fun ls hl => ?_)
        refine lv_goto (tgt := 42) hx hb dX6_known_62 (by decide) ?_
        refine lv_iload hx hb dX6_known_42 (lv_at hl 0 rfl) ?_
        refine lv_bipush (v := 11) hx hb dX6_known_44 (by decide) ?_
        refine lv_icmp_ge (tgt := 65) hx hb dX6_known_46 (by decide) (fun c46_8 => ?_) (fun c46_8 => ?_)
        · exact absurd c46_8 (by decide)
        refine lv_iload_n hx hb dX6_known_49 rfl (lv_at hl 1 rfl) ?_
        refine lv_aload_n hx hb dX6_known_50 rfl (lv_at hl 2 rfl) ?_
        refine va_get (D := D) (ci := 6) (v := .ref mf) (C := RX6) (T := TX6) (N := 39) hx hb hts in_X6_known_X6 hown hK hP 0 rfl rfl 1 (by decide) (hts _ wd_X6_known_5) (fun _ h9 => h9) rfl dX6_known_51 ?_
        refine lv_iload hx hb dX6_known_54 (lv_at hl 0 rfl) ?_
        refine va_iald hx hb hK hP 1 0 rfl rfl (show ¬ ((2 : Int32) < 0 ∨ 11 ≤ (2 : Int32).toNatClampNeg) by decide) dX6_known_56 ?_
        refine lv_topi (fun z_9 ez_9 => ?_)
        obtain rfl : z_9 = (ff 2) := ez_9
        refine lv_iadd hx hb dX6_known_57 ?_
        refine lv_istore_n (lv' := [(3, .int ((0 + (ff 1)) + (ff 2))), (4, .int 2), (0, .ref m0), (1, .int p0), (2, .int p1)]) hx hb dX6_known_58 rfl hl (by decide) rfl (fun ls hl => ?_)
        refine lv_iinc (v := 3) (lv' := [(4, .int 3), (3, .int ((0 + (ff 1)) + (ff 2))), (0, .ref m0), (1, .int p0), (2, .int p1)]) hx hb dX6_known_59 hl (k := 1) rfl (by decide) (by decide) rfl (fun ls hl => ?_)
        refine lv_goto (tgt := 42) hx hb dX6_known_62 (by decide) ?_
        refine lv_iload hx hb dX6_known_42 (lv_at hl 0 rfl) ?_
        refine lv_bipush (v := 11) hx hb dX6_known_44 (by decide) ?_
        refine lv_icmp_ge (tgt := 65) hx hb dX6_known_46 (by decide) (fun c46_10 => ?_) (fun c46_10 => ?_)
        · exact absurd c46_10 (by decide)
        refine lv_iload_n hx hb dX6_known_49 rfl (lv_at hl 1 rfl) ?_
        refine lv_aload_n hx hb dX6_known_50 rfl (lv_at hl 2 rfl) ?_
        refine va_get (D := D) (ci := 6) (v := .ref mf) (C := RX6) (T := TX6) (N := 39) hx hb hts in_X6_known_X6 hown hK hP 0 rfl rfl 1 (by decide) (hts _ wd_X6_known_5) (fun _ h9 => h9) rfl dX6_known_51 ?_
        refine lv_iload hx hb dX6_known_54 (lv_at hl 0 rfl) ?_
        refine va_iald hx hb hK hP 1 0 rfl rfl (show ¬ ((3 : Int32) < 0 ∨ 11 ≤ (3 : Int32).toNatClampNeg) by decide) dX6_known_56 ?_
        refine lv_topi (fun z_11 ez_11 => ?_)
        obtain rfl : z_11 = (ff 3) := ez_11
        refine lv_iadd hx hb dX6_known_57 ?_
        refine lv_istore_n (lv' := [(3, .int (((0 + (ff 1)) + (ff 2)) + (ff 3))), (4, .int 3), (0, .ref m0), (1, .int p0), (2, .int p1)]) hx hb dX6_known_58 rfl hl (by decide) rfl (fun ls hl => ?_)
        refine lv_iinc (v := 4) (lv' := [(4, .int 4), (3, .int (((0 + (ff 1)) + (ff 2)) + (ff 3))), (0, .ref m0), (1, .int p0), (2, .int p1)]) hx hb dX6_known_59 hl (k := 1) rfl (by decide) (by decide) rfl (fun ls hl => ?_)
        refine lv_goto (tgt := 42) hx hb dX6_known_62 (by decide) ?_
        refine lv_iload hx hb dX6_known_42 (lv_at hl 0 rfl) ?_
        refine lv_bipush (v := 11) hx hb dX6_known_44 (by decide) ?_
        refine lv_icmp_ge (tgt := 65) hx hb dX6_known_46 (by decide) (fun c46_12 => ?_) (fun c46_12 => ?_)
        · exact absurd c46_12 (by decide)
        refine lv_iload_n hx hb dX6_known_49 rfl (lv_at hl 1 rfl) ?_
        refine lv_aload_n hx hb dX6_known_50 rfl (lv_at hl 2 rfl) ?_
        refine va_get (D := D) (ci := 6) (v := .ref mf) (C := RX6) (T := TX6) (N := 39) hx hb hts in_X6_known_X6 hown hK hP 0 rfl rfl 1 (by decide) (hts _ wd_X6_known_5) (fun _ h9 => h9) rfl dX6_known_51 ?_
        refine lv_iload hx hb dX6_known_54 (lv_at hl 0 rfl) ?_
        refine va_iald hx hb hK hP 1 0 rfl rfl (show ¬ ((4 : Int32) < 0 ∨ 11 ≤ (4 : Int32).toNatClampNeg) by decide) dX6_known_56 ?_
        refine lv_topi (fun z_13 ez_13 => ?_)
        obtain rfl : z_13 = (ff 4) := ez_13
        refine lv_iadd hx hb dX6_known_57 ?_
        refine lv_istore_n (lv' := [(3, .int ((((0 + (ff 1)) + (ff 2)) + (ff 3)) + (ff 4))), (4, .int 4), (0, .ref m0), (1, .int p0), (2, .int p1)]) hx hb dX6_known_58 rfl hl (by decide) rfl (fun ls hl => ?_)
        refine lv_iinc (v := 5) (lv' := [(4, .int 5), (3, .int ((((0 + (ff 1)) + (ff 2)) + (ff 3)) + (ff 4))), (0, .ref m0), (1, .int p0), (2, .int p1)]) hx hb dX6_known_59 hl (k := 1) rfl (by decide) (by decide) rfl (fun ls hl => ?_)
        refine lv_goto (tgt := 42) hx hb dX6_known_62 (by decide) ?_
        refine lv_iload hx hb dX6_known_42 (lv_at hl 0 rfl) ?_
        refine lv_bipush (v := 11) hx hb dX6_known_44 (by decide) ?_
        refine lv_icmp_ge (tgt := 65) hx hb dX6_known_46 (by decide) (fun c46_14 => ?_) (fun c46_14 => ?_)
        · exact absurd c46_14 (by decide)
        refine lv_iload_n hx hb dX6_known_49 rfl (lv_at hl 1 rfl) ?_
        refine lv_aload_n hx hb dX6_known_50 rfl (lv_at hl 2 rfl) ?_
        refine va_get (D := D) (ci := 6) (v := .ref mf) (C := RX6) (T := TX6) (N := 39) hx hb hts in_X6_known_X6 hown hK hP 0 rfl rfl 1 (by decide) (hts _ wd_X6_known_5) (fun _ h9 => h9) rfl dX6_known_51 ?_
        refine lv_iload hx hb dX6_known_54 (lv_at hl 0 rfl) ?_
        refine va_iald hx hb hK hP 1 0 rfl rfl (show ¬ ((5 : Int32) < 0 ∨ 11 ≤ (5 : Int32).toNatClampNeg) by decide) dX6_known_56 ?_
        refine lv_topi (fun z_15 ez_15 => ?_)
        obtain rfl : z_15 = (ff 5) := ez_15
        refine lv_iadd hx hb dX6_known_57 ?_
        refine lv_istore_n (lv' := [(3, .int (((((0 + (ff 1)) + (ff 2)) + (ff 3)) + (ff 4)) + (ff 5))), (4, .int 5), (0, .ref m0), (1, .int p0), (2, .int p1)]) hx hb dX6_known_58 rfl hl (by decide) rfl (fun ls hl => ?_)
        refine lv_iinc (v := 6) (lv' := [(4, .int 6), (3, .int (((((0 + (ff 1)) + (ff 2)) + (ff 3)) + (ff 4)) + (ff 5))), (0, .ref m0), (1, .int p0), (2, .int p1)]) hx hb dX6_known_59 hl (k := 1) rfl (by decide) (by decide) rfl (fun ls hl => ?_)
        refine lv_goto (tgt := 42) hx hb dX6_known_62 (by decide) ?_
        refine lv_iload hx hb dX6_known_42 (lv_at hl 0 rfl) ?_
        refine lv_bipush (v := 11) hx hb dX6_known_44 (by decide) ?_
        refine lv_icmp_ge (tgt := 65) hx hb dX6_known_46 (by decide) (fun c46_16 => ?_) (fun c46_16 => ?_)
        · exact absurd c46_16 (by decide)
        refine lv_iload_n hx hb dX6_known_49 rfl (lv_at hl 1 rfl) ?_
        refine lv_aload_n hx hb dX6_known_50 rfl (lv_at hl 2 rfl) ?_
        refine va_get (D := D) (ci := 6) (v := .ref mf) (C := RX6) (T := TX6) (N := 39) hx hb hts in_X6_known_X6 hown hK hP 0 rfl rfl 1 (by decide) (hts _ wd_X6_known_5) (fun _ h9 => h9) rfl dX6_known_51 ?_
        refine lv_iload hx hb dX6_known_54 (lv_at hl 0 rfl) ?_
        refine va_iald hx hb hK hP 1 0 rfl rfl (show ¬ ((6 : Int32) < 0 ∨ 11 ≤ (6 : Int32).toNatClampNeg) by decide) dX6_known_56 ?_
        refine lv_topi (fun z_17 ez_17 => ?_)
        obtain rfl : z_17 = (ff 6) := ez_17
        refine lv_iadd hx hb dX6_known_57 ?_
        refine lv_istore_n (lv' := [(3, .int ((((((0 + (ff 1)) + (ff 2)) + (ff 3)) + (ff 4)) + (ff 5)) + (ff 6))), (4, .int 6), (0, .ref m0), (1, .int p0), (2, .int p1)]) hx hb dX6_known_58 rfl hl (by decide) rfl (fun ls hl => ?_)
        refine lv_iinc (v := 7) (lv' := [(4, .int 7), (3, .int ((((((0 + (ff 1)) + (ff 2)) + (ff 3)) + (ff 4)) + (ff 5)) + (ff 6))), (0, .ref m0), (1, .int p0), (2, .int p1)]) hx hb dX6_known_59 hl (k := 1) rfl (by decide) (by decide) rfl (fun ls hl => ?_)
        refine lv_goto (tgt := 42) hx hb dX6_known_62 (by decide) ?_
        refine lv_iload hx hb dX6_known_42 (lv_at hl 0 rfl) ?_
        refine lv_bipush (v := 11) hx hb dX6_known_44 (by decide) ?_
        refine lv_icmp_ge (tgt := 65) hx hb dX6_known_46 (by decide) (fun c46_18 => ?_) (fun c46_18 => ?_)
        · exact absurd c46_18 (by decide)
        refine lv_iload_n hx hb dX6_known_49 rfl (lv_at hl 1 rfl) ?_
        refine lv_aload_n hx hb dX6_known_50 rfl (lv_at hl 2 rfl) ?_
        refine va_get (D := D) (ci := 6) (v := .ref mf) (C := RX6) (T := TX6) (N := 39) hx hb hts in_X6_known_X6 hown hK hP 0 rfl rfl 1 (by decide) (hts _ wd_X6_known_5) (fun _ h9 => h9) rfl dX6_known_51 ?_
        refine lv_iload hx hb dX6_known_54 (lv_at hl 0 rfl) ?_
        refine va_iald hx hb hK hP 1 0 rfl rfl (show ¬ ((7 : Int32) < 0 ∨ 11 ≤ (7 : Int32).toNatClampNeg) by decide) dX6_known_56 ?_
        refine lv_topi (fun z_19 ez_19 => ?_)
        obtain rfl : z_19 = (ff 7) := ez_19
        refine lv_iadd hx hb dX6_known_57 ?_
        refine lv_istore_n (lv' := [(3, .int (((((((0 + (ff 1)) + (ff 2)) + (ff 3)) + (ff 4)) + (ff 5)) + (ff 6)) + (ff 7))), (4, .int 7), (0, .ref m0), (1, .int p0), (2, .int p1)]) hx hb dX6_known_58 rfl hl (by decide) rfl (fun ls hl => ?_)
        refine lv_iinc (v := 8) (lv' := [(4, .int 8), (3, .int (((((((0 + (ff 1)) + (ff 2)) + (ff 3)) + (ff 4)) + (ff 5)) + (ff 6)) + (ff 7))), (0, .ref m0), (1, .int p0), (2, .int p1)]) hx hb dX6_known_59 hl (k := 1) rfl (by decide) (by decide) rfl (fun ls hl => ?_)
        refine lv_goto (tgt := 42) hx hb dX6_known_62 (by decide) ?_
        refine lv_iload hx hb dX6_known_42 (lv_at hl 0 rfl) ?_
        refine lv_bipush (v := 11) hx hb dX6_known_44 (by decide) ?_
        refine lv_icmp_ge (tgt := 65) hx hb dX6_known_46 (by decide) (fun c46_20 => ?_) (fun c46_20 => ?_)
        · exact absurd c46_20 (by decide)
        refine lv_iload_n hx hb dX6_known_49 rfl (lv_at hl 1 rfl) ?_
        refine lv_aload_n hx hb dX6_known_50 rfl (lv_at hl 2 rfl) ?_
        refine va_get (D := D) (ci := 6) (v := .ref mf) (C := RX6) (T := TX6) (N := 39) hx hb hts in_X6_known_X6 hown hK hP 0 rfl rfl 1 (by decide) (hts _ wd_X6_known_5) (fun _ h9 => h9) rfl dX6_known_51 ?_
        refine lv_iload hx hb dX6_known_54 (lv_at hl 0 rfl) ?_
        refine va_iald hx hb hK hP 1 0 rfl rfl (show ¬ ((8 : Int32) < 0 ∨ 11 ≤ (8 : Int32).toNatClampNeg) by decide) dX6_known_56 ?_
        refine lv_topi (fun z_21 ez_21 => ?_)
        obtain rfl : z_21 = (ff 8) := ez_21
        refine lv_iadd hx hb dX6_known_57 ?_
        refine lv_istore_n (lv' := [(3, .int ((((((((0 + (ff 1)) + (ff 2)) + (ff 3)) + (ff 4)) + (ff 5)) + (ff 6)) + (ff 7)) + (ff 8))), (4, .int 8), (0, .ref m0), (1, .int p0), (2, .int p1)]) hx hb dX6_known_58 rfl hl (by decide) rfl (fun ls hl => ?_)
        refine lv_iinc (v := 9) (lv' := [(4, .int 9), (3, .int ((((((((0 + (ff 1)) + (ff 2)) + (ff 3)) + (ff 4)) + (ff 5)) + (ff 6)) + (ff 7)) + (ff 8))), (0, .ref m0), (1, .int p0), (2, .int p1)]) hx hb dX6_known_59 hl (k := 1) rfl (by decide) (by decide) rfl (fun ls hl => ?_)
        refine lv_goto (tgt := 42) hx hb dX6_known_62 (by decide) ?_
        refine lv_iload hx hb dX6_known_42 (lv_at hl 0 rfl) ?_
        refine lv_bipush (v := 11) hx hb dX6_known_44 (by decide) ?_
        refine lv_icmp_ge (tgt := 65) hx hb dX6_known_46 (by decide) (fun c46_22 => ?_) (fun c46_22 => ?_)
        · exact absurd c46_22 (by decide)
        refine lv_iload_n hx hb dX6_known_49 rfl (lv_at hl 1 rfl) ?_
        refine lv_aload_n hx hb dX6_known_50 rfl (lv_at hl 2 rfl) ?_
        refine va_get (D := D) (ci := 6) (v := .ref mf) (C := RX6) (T := TX6) (N := 39) hx hb hts in_X6_known_X6 hown hK hP 0 rfl rfl 1 (by decide) (hts _ wd_X6_known_5) (fun _ h9 => h9) rfl dX6_known_51 ?_
        refine lv_iload hx hb dX6_known_54 (lv_at hl 0 rfl) ?_
        refine va_iald hx hb hK hP 1 0 rfl rfl (show ¬ ((9 : Int32) < 0 ∨ 11 ≤ (9 : Int32).toNatClampNeg) by decide) dX6_known_56 ?_
        refine lv_topi (fun z_23 ez_23 => ?_)
        obtain rfl : z_23 = (ff 9) := ez_23
        refine lv_iadd hx hb dX6_known_57 ?_
        refine lv_istore_n (lv' := [(3, .int (((((((((0 + (ff 1)) + (ff 2)) + (ff 3)) + (ff 4)) + (ff 5)) + (ff 6)) + (ff 7)) + (ff 8)) + (ff 9))), (4, .int 9), (0, .ref m0), (1, .int p0), (2, .int p1)]) hx hb dX6_known_58 rfl hl (by decide) rfl (fun ls hl => ?_)
        refine lv_iinc (v := 10) (lv' := [(4, .int 10), (3, .int (((((((((0 + (ff 1)) + (ff 2)) + (ff 3)) + (ff 4)) + (ff 5)) + (ff 6)) + (ff 7)) + (ff 8)) + (ff 9))), (0, .ref m0), (1, .int p0), (2, .int p1)]) hx hb dX6_known_59 hl (k := 1) rfl (by decide) (by decide) rfl (fun ls hl => ?_)
        refine lv_goto (tgt := 42) hx hb dX6_known_62 (by decide) ?_
        refine lv_iload hx hb dX6_known_42 (lv_at hl 0 rfl) ?_
        refine lv_bipush (v := 11) hx hb dX6_known_44 (by decide) ?_
        refine lv_icmp_ge (tgt := 65) hx hb dX6_known_46 (by decide) (fun c46_24 => ?_) (fun c46_24 => ?_)
        · exact absurd c46_24 (by decide)
        refine lv_iload_n hx hb dX6_known_49 rfl (lv_at hl 1 rfl) ?_
        refine lv_aload_n hx hb dX6_known_50 rfl (lv_at hl 2 rfl) ?_
        refine va_get (D := D) (ci := 6) (v := .ref mf) (C := RX6) (T := TX6) (N := 39) hx hb hts in_X6_known_X6 hown hK hP 0 rfl rfl 1 (by decide) (hts _ wd_X6_known_5) (fun _ h9 => h9) rfl dX6_known_51 ?_
        refine lv_iload hx hb dX6_known_54 (lv_at hl 0 rfl) ?_
        refine va_iald hx hb hK hP 1 0 rfl rfl (show ¬ ((10 : Int32) < 0 ∨ 11 ≤ (10 : Int32).toNatClampNeg) by decide) dX6_known_56 ?_
        refine lv_topi (fun z_25 ez_25 => ?_)
        obtain rfl : z_25 = (ff 10) := ez_25
        refine lv_iadd hx hb dX6_known_57 ?_
        refine lv_istore_n (lv' := [(3, .int ((((((((((0 + (ff 1)) + (ff 2)) + (ff 3)) + (ff 4)) + (ff 5)) + (ff 6)) + (ff 7)) + (ff 8)) + (ff 9)) + (ff 10))), (4, .int 10), (0, .ref m0), (1, .int p0), (2, .int p1)]) hx hb dX6_known_58 rfl hl (by decide) rfl (fun ls hl => ?_)
        refine lv_iinc (v := 11) (lv' := [(4, .int 11), (3, .int ((((((((((0 + (ff 1)) + (ff 2)) + (ff 3)) + (ff 4)) + (ff 5)) + (ff 6)) + (ff 7)) + (ff 8)) + (ff 9)) + (ff 10))), (0, .ref m0), (1, .int p0), (2, .int p1)]) hx hb dX6_known_59 hl (k := 1) rfl (by decide) (by decide) rfl (fun ls hl => ?_)
        refine lv_goto (tgt := 42) hx hb dX6_known_62 (by decide) ?_
        refine lv_iload hx hb dX6_known_42 (lv_at hl 0 rfl) ?_
        refine lv_bipush (v := 11) hx hb dX6_known_44 (by decide) ?_
        refine lv_icmp_ge (tgt := 65) hx hb dX6_known_46 (by decide) (fun c46_26 => ?_) (fun c46_26 => ?_)
        · skip
          refine lv_aload_n hx hb dX6_known_65 rfl (lv_at hl 2 rfl) ?_
          have hPc := hP.sub (ws' := [(m0, .inr (6, [.ref ms, .ref mf, .ref mw, .ref mk, .int (bI mtold), .ref mh, .int (nI hn), .int (nI un), .int (nI tg), .int stan, .int soft, .int doub, .int spli, .int giv, .int bon, .long drw, .int mbank, .ref q0, .ref q1, .ref q2, .int (nI hp), .ref q3, .ref q4, .ref q5, .ref q6, .ref q7, .int msum, .int (bI hasA), .int mcards, .int mpair, .int (nI sh), .int want, .int mwin, .int (bI isCh), .int mbest, .ref k0, .ref k1, .ref k2, .ref k3])), (mw, .inl (cI, 11, .inl fw))]) [0, 2] rfl
          refine vp_callSi (W.runV (As := []) (rest := []) ⟨hx, hb, hml, hown, hts⟩ (c_X6_gone l D cI cJ cQ m0 ms mf mw mk mtold mh (nI hn) (nI un) (nI tg) stan soft doub spli giv bon drw mbank q0 q1 q2 (nI hp) q3 q4 q5 q6 q7 msum hasA mcards mpair (nI sh) want mwin isCh mbest k0 k1 k2 k3 (fw)) (cwV 0 hts gX6_known_X6_gone rfl rfl rfl (by decide +kernel) ⟨Nat.le_of_ble_eq_true rfl, Nat.le_of_ble_eq_true rfl⟩) (rP_preV (ci := 6) (q0 := 0) hPc hK rfl rfl) rfl rfl hl.1 rfl (lv_room (Nat.le_of_ble_eq_true rfl)) dX6_known_66 ⟨Nat.le_of_ble_eq_true rfl, Nat.le_of_ble_eq_true rfl⟩) (fun r_27 hr_27 => ?_)
          subst hr_27
          have hcg2 : cntI fw cg := fun j x y => ⟨((hcg0 nc30_5) j x y).1, Nat.le_trans ((hcg0 nc30_5) j x y).2 (hcf j x y).2⟩
          have hle2 := smN_le hcg2
          refine lv_topi (fun z_28 ez_28 => ?_)
          obtain rfl : z_28 = nI (smN cg) := ez_28.trans (sm10_N hcg2)
          refine lv_istore (lv' := [(4, .int (nI (smN cg))), (3, .int ((((((((((0 + (ff 1)) + (ff 2)) + (ff 3)) + (ff 4)) + (ff 5)) + (ff 6)) + (ff 7)) + (ff 8)) + (ff 9)) + (ff 10))), (0, .ref m0), (1, .int p0), (2, .int p1)]) hx hb dX6_known_69 hl (by decide) rfl (fun ls hl => ?_)
          have hl : lv_has ls 6 [(4, .int (nI (smN cg))), (3, .int (sm10 ff)), (0, .ref m0), (1, .int p0), (2, .int p1)] := hl
          refine lv_iload_n hx hb dX6_known_71 rfl (lv_at hl 1 rfl) ?_
          refine lv_bipush (v := 60) hx hb dX6_known_72 (by decide) ?_
          refine lv_icmp_gt (tgt := 84) hx hb dX6_known_74 (by decide) (fun c74_29 => ?_) (fun c74_29 => ?_)
          · skip
            refine lv_ldc2 hx hb hown (hts _ wd_X6_known_6) dX6_known_84 ?_
            have hP9 := hP.sub (ws' := [(m0, .inr (6, [.ref ms, .ref mf, .ref mw, .ref mk, .int (bI mtold), .ref mh, .int (nI hn), .int (nI un), .int (nI tg), .int stan, .int soft, .int doub, .int spli, .int giv, .int bon, .long drw, .int mbank, .ref q0, .ref q1, .ref q2, .int (nI hp), .ref q3, .ref q4, .ref q5, .ref q6, .ref q7, .int msum, .int (bI hasA), .int mcards, .int mpair, .int (nI sh), .int want, .int mwin, .int (bI isCh), .int mbest, .ref k0, .ref k1, .ref k2, .ref k3])), (mf, .inl (cI, 11, .inl ff)), (mw, .inl (cI, 11, .inl fw)), (mk, .inl (cI, 11, .inl mm)), (k0, .inl (cJ, 549, .inr (.inl a))), (k1, .inl (cJ, 549, .inr (.inl b))), (k2, .inl (cJ, 549, .inr (.inl g1))), (k3, .inl (cJ, 549, .inr (.inl g2)))]) [0, 1, 2, 3, 4, 5, 6, 7] rfl
            have hD9 := hD.sub (ws' := [(m0, .inr (6, [.ref ms, .ref mf, .ref mw, .ref mk, .int (bI mtold), .ref mh, .int (nI hn), .int (nI un), .int (nI tg), .int stan, .int soft, .int doub, .int spli, .int giv, .int bon, .long drw, .int mbank, .ref q0, .ref q1, .ref q2, .int (nI hp), .ref q3, .ref q4, .ref q5, .ref q6, .ref q7, .int msum, .int (bI hasA), .int mcards, .int mpair, .int (nI sh), .int want, .int mwin, .int (bI isCh), .int mbest, .ref k0, .ref k1, .ref k2, .ref k3])), (mf, .inl (cI, 11, .inl ff)), (mw, .inl (cI, 11, .inl fw)), (mk, .inl (cI, 11, .inl mm)), (k0, .inl (cJ, 549, .inr (.inl a))), (k1, .inl (cJ, 549, .inr (.inl b))), (k2, .inl (cJ, 549, .inr (.inl g1))), (k3, .inl (cJ, 549, .inr (.inl g2)))]) [0, 1, 2, 3, 4, 5, 6, 7] (by decide) rfl
            exact W.lret (v := (-1004)) hx hb hr (fun t ht hW => ⟨⟨(-1004), ((a), (b), (g1), (g2)), rfl, (by dsimp only; (first | rw [if_pos c9_2] | rw [if_neg c9_2]); (first | rw [if_pos c19_4] | rw [if_neg c19_4]); rw [if_neg (by rw [nc30_5]; decide)]; rw [if_pos (Or.inl c74_29)]), by rw [ht]; exact hP9, va_K.moved hW.alike hK, hD9⟩, hS.F ht⟩) hS.2.2 dX6_known_87
          · skip
            refine lv_iload hx hb dX6_known_77 (lv_at hl 0 rfl) ?_
            refine lv_bipush (v := 8) hx hb dX6_known_79 (by decide) ?_
            refine lv_icmp_le (tgt := 88) hx hb dX6_known_81 (by decide) (fun c81_30 => ?_) (fun c81_30 => ?_)
            · skip
              have nc81_30 : (smN cg) ≤ 8 := (nI_leI (a := (smN cg)) (b := 8) (by omega) (by omega)).mp c81_30
              have h60 := sm60i hcf c74_29
              obtain ⟨k, kk1, kk2, rfl⟩ := ptB2 c9_2
              have hl : lv_has ls 6 [(4, .int (nI (smN cg))), (3, .int (sm10 ff)), (0, .ref m0), (1, .int (nI k)), (2, .int p1)] := hl
              have hcg := hcg0 nc30_5
              have hc32 : ∀ j, 1 ≤ j → j ≤ 10 → cf j ≤ 32 := fun j x y => (hcf j x y).2
              have g8 : smN cg ≤ 8 := by omega
              have hkb := kn_b (mk := (fun j => (mm j).toInt)) (s := mkS mm cg 10) hc32 h60 g8 kk1 kk2
              have hkp := kn_pos (mk := mm) (fun j x y => (hcg j x y).2)
              have hk32 := hc32 k kk1 kk2
              have hid := (kqT_id (mk := (fun j => (mm j).toInt)) (rk := k) hc32 10 (by omega) (smN cg) (mkS mm cg 10) g8).2 kk2 kk1
              refine lv_iconst (v := 0) hx hb dX6_known_88 (by decide) ?_
              refine lv_istore (lv' := [(5, .int 0), (4, .int (nI (smN cg))), (3, .int (sm10 ff)), (0, .ref m0), (1, .int (nI k)), (2, .int p1)]) hx hb dX6_known_89 hl (by decide) rfl (fun ls hl => ?_)
              refine lpK1V hx hb hml hown hts hK hA m0 ms mf mw mk mtold mh hn un tg stan soft doub spli giv bon drw mbank q0 q1 q2 hp q3 q4 q5 q6 q7 msum hasA mcards mpair sh want mwin isCh mbest k0 k1 k2 k3 ff fw mm g1 g2 k p1 cg (Nat.le_of_ble_eq_true rfl) (Nat.le_of_ble_eq_true rfl) (Nat.zero_le _) (Nat.zero_le _)  (549 - 0 + 1) 0 a b _ _ _ (Nat.lt_succ_self _) (by omega) (fun j a => absurd a (by omega)) (fun j a => absurd a (by omega)) hP hD hS (lv_sub hl [0, 1, 2, 5, 4, 3] rfl) (fun a_31 b_32 H locs ls hv1_33 hv2_34 hP hD hS hl => ?_)
              have hP : va_P D vwCl [(m0, .inr (6, [.ref ms, .ref mf, .ref mw, .ref mk, .int (bI mtold), .ref mh, .int (nI hn), .int (nI un), .int (nI tg), .int stan, .int soft, .int doub, .int spli, .int giv, .int bon, .long drw, .int mbank, .ref q0, .ref q1, .ref q2, .int (nI hp), .ref q3, .ref q4, .ref q5, .ref q6, .ref q7, .int msum, .int (bI hasA), .int mcards, .int mpair, .int (nI sh), .int want, .int mwin, .int (bI isCh), .int mbest, .ref k0, .ref k1, .ref k2, .ref k3])), (mf, .inl (cI, 11, .inl ff)), (mw, .inl (cI, 11, .inl fw)), (mk, .inl (cI, 11, .inl mm)), (k0, .inl (cJ, 549, .inr (.inl a_31))), (k1, .inl (cJ, 549, .inr (.inl b_32))), (k2, .inl (cJ, 549, .inr (.inl g1))), (k3, .inl (cJ, 549, .inr (.inl g2)))] H := hP
              have hD : va_D A [(m0, .inr (6, [.ref ms, .ref mf, .ref mw, .ref mk, .int (bI mtold), .ref mh, .int (nI hn), .int (nI un), .int (nI tg), .int stan, .int soft, .int doub, .int spli, .int giv, .int bon, .long drw, .int mbank, .ref q0, .ref q1, .ref q2, .int (nI hp), .ref q3, .ref q4, .ref q5, .ref q6, .ref q7, .int msum, .int (bI hasA), .int mcards, .int mpair, .int (nI sh), .int want, .int mwin, .int (bI isCh), .int mbest, .ref k0, .ref k1, .ref k2, .ref k3])), (mf, .inl (cI, 11, .inl ff)), (mw, .inl (cI, 11, .inl fw)), (mk, .inl (cI, 11, .inl mm)), (k0, .inl (cJ, 549, .inr (.inl a_31))), (k1, .inl (cJ, 549, .inr (.inl b_32))), (k2, .inl (cJ, 549, .inr (.inl g1))), (k3, .inl (cJ, 549, .inr (.inl g2)))] := hD
              refine lv_aload_n hx hb dX6_known_121 rfl (lv_at hl 4 rfl) ?_
              refine va_get (D := D) (ci := 6) (v := .ref k0) (C := RX6) (T := TX6) (N := 39) hx hb hts in_X6_known_X6 hown hK hP 0 rfl rfl 35 (by decide) (hts _ wd_X6_known_0) (fun _ h9 => h9) rfl dX6_known_122 ?_
              refine lv_bipush (v := 30) hx hb dX6_known_125 (by decide) ?_
              refine lv_lconst (v := 1) hx hb dX6_known_127 (by decide) ?_
              refine va_last hx hb hK hP hD hS 4 1 rfl rfl (show ¬ ((30 : Int32) < 0 ∨ 549 ≤ (30 : Int32).toNatClampNeg) by decide) dX6_known_128 (fun H locs hP hD hS => ?_)
              have hP : va_P D vwCl [(m0, .inr (6, [.ref ms, .ref mf, .ref mw, .ref mk, .int (bI mtold), .ref mh, .int (nI hn), .int (nI un), .int (nI tg), .int stan, .int soft, .int doub, .int spli, .int giv, .int bon, .long drw, .int mbank, .ref q0, .ref q1, .ref q2, .int (nI hp), .ref q3, .ref q4, .ref q5, .ref q6, .ref q7, .int msum, .int (bI hasA), .int mcards, .int mpair, .int (nI sh), .int want, .int mwin, .int (bI isCh), .int mbest, .ref k0, .ref k1, .ref k2, .ref k3])), (mf, .inl (cI, 11, .inl ff)), (mw, .inl (cI, 11, .inl fw)), (mk, .inl (cI, 11, .inl mm)), (k0, .inl (cJ, 549, .inr (.inl (vp_updL a_31 (30 : Int32).toNatClampNeg 1)))), (k1, .inl (cJ, 549, .inr (.inl b_32))), (k2, .inl (cJ, 549, .inr (.inl g1))), (k3, .inl (cJ, 549, .inr (.inl g2)))] H := hP
              have hD : va_D A [(m0, .inr (6, [.ref ms, .ref mf, .ref mw, .ref mk, .int (bI mtold), .ref mh, .int (nI hn), .int (nI un), .int (nI tg), .int stan, .int soft, .int doub, .int spli, .int giv, .int bon, .long drw, .int mbank, .ref q0, .ref q1, .ref q2, .int (nI hp), .ref q3, .ref q4, .ref q5, .ref q6, .ref q7, .int msum, .int (bI hasA), .int mcards, .int mpair, .int (nI sh), .int want, .int mwin, .int (bI isCh), .int mbest, .ref k0, .ref k1, .ref k2, .ref k3])), (mf, .inl (cI, 11, .inl ff)), (mw, .inl (cI, 11, .inl fw)), (mk, .inl (cI, 11, .inl mm)), (k0, .inl (cJ, 549, .inr (.inl (vp_updL a_31 (30 : Int32).toNatClampNeg 1)))), (k1, .inl (cJ, 549, .inr (.inl b_32))), (k2, .inl (cJ, 549, .inr (.inl g1))), (k3, .inl (cJ, 549, .inr (.inl g2)))] := hD
              refine lv_iconst (v := 1) hx hb dX6_known_129 (by decide) ?_
              refine lv_istore (lv' := [(5, .int 1), (4, .int (nI (smN cg))), (3, .int (sm10 ff)), (2, .int p1), (1, .int (nI k)), (0, .ref m0)]) hx hb dX6_known_130 hl (by decide) rfl (fun ls hl => ?_)
              refine lpK2V hx hb hml hown hts hK hA m0 ms mf mw mk mtold mh hn un tg stan soft doub spli giv bon drw mbank q0 q1 q2 hp q3 q4 q5 q6 q7 msum hasA mcards mpair sh want mwin isCh mbest k0 k1 k2 k3 ff fw mm k p1 cf cg (Nat.le_of_ble_eq_true rfl) (Nat.le_of_ble_eq_true rfl) (Nat.zero_le _) (Nat.zero_le _) hcf hmk hcg h60 g8 kk1 kk2 (11 - 1 + 1) 1 (vp_updL a_31 (30 : Int32).toNatClampNeg 1) b_32 g1 g2 (updN (fun _ => 0) 30 1) 30 (fun _ => 0) _ _ _ (Nat.lt_succ_self _) (by omega) (by omega) (wok0 hv1_33) (wok1 _) rfl (show 0 < updN (fun _ => 0) 30 1 (61 * 0 + 30) by decide) (fun i hi => by rw [hv2_34 i hi]; decide) (kq0 _) kq0T hP hD hS (lv_sub hl [0, 1, 2, 3, 4, 5] rfl) (fun a_35 b_36 g1_37 g2_38 wv_39 tt_40 tk_41 H locs ls hwa_42 hW_43 htt_44 hpw_45 hbk_46 hRW_47 hRT_48 hP hD hS hl => ?_)
              have hP : va_P D vwCl [(m0, .inr (6, [.ref ms, .ref mf, .ref mw, .ref mk, .int (bI mtold), .ref mh, .int (nI hn), .int (nI un), .int (nI tg), .int stan, .int soft, .int doub, .int spli, .int giv, .int bon, .long drw, .int mbank, .ref q0, .ref q1, .ref q2, .int (nI hp), .ref q3, .ref q4, .ref q5, .ref q6, .ref q7, .int msum, .int (bI hasA), .int mcards, .int mpair, .int (nI sh), .int want, .int mwin, .int (bI isCh), .int mbest, .ref k0, .ref k1, .ref k2, .ref k3])), (mf, .inl (cI, 11, .inl ff)), (mw, .inl (cI, 11, .inl fw)), (mk, .inl (cI, 11, .inl mm)), (k0, .inl (cJ, 549, .inr (.inl a_35))), (k1, .inl (cJ, 549, .inr (.inl b_36))), (k2, .inl (cJ, 549, .inr (.inl g1_37))), (k3, .inl (cJ, 549, .inr (.inl g2_38)))] H := hP
              have hD : va_D A [(m0, .inr (6, [.ref ms, .ref mf, .ref mw, .ref mk, .int (bI mtold), .ref mh, .int (nI hn), .int (nI un), .int (nI tg), .int stan, .int soft, .int doub, .int spli, .int giv, .int bon, .long drw, .int mbank, .ref q0, .ref q1, .ref q2, .int (nI hp), .ref q3, .ref q4, .ref q5, .ref q6, .ref q7, .int msum, .int (bI hasA), .int mcards, .int mpair, .int (nI sh), .int want, .int mwin, .int (bI isCh), .int mbest, .ref k0, .ref k1, .ref k2, .ref k3])), (mf, .inl (cI, 11, .inl ff)), (mw, .inl (cI, 11, .inl fw)), (mk, .inl (cI, 11, .inl mm)), (k0, .inl (cJ, 549, .inr (.inl a_35))), (k1, .inl (cJ, 549, .inr (.inl b_36))), (k2, .inl (cJ, 549, .inr (.inl g1_37))), (k3, .inl (cJ, 549, .inr (.inl g2_38)))] := hD
              refine lv_bipush (v := 61) hx hb dX6_known_154 (by decide) ?_
              refine lv_iload hx hb dX6_known_156 (lv_at hl 0 rfl) ?_
              refine lv_imul hx hb dX6_known_158 ?_
              refine lv_topi (fun z_49 ez_49 => ?_)
              obtain rfl : z_49 = nI (61 * (smN cg)) := ez_49.trans (nI_mulT _ _)
              refine lv_bipush (v := 30) hx hb dX6_known_159 (by decide) ?_
              refine lv_iadd hx hb dX6_known_161 ?_
              refine lv_topi (fun z_50 ez_50 => ?_)
              obtain rfl : z_50 = nI ((61 * (smN cg)) + 30) := ez_50.trans (nI_add _ _)
              refine lv_aload_n hx hb dX6_known_162 rfl (lv_at hl 4 rfl) ?_
              have hPc := hP.sub (ws' := [(m0, .inr (6, [.ref ms, .ref mf, .ref mw, .ref mk, .int (bI mtold), .ref mh, .int (nI hn), .int (nI un), .int (nI tg), .int stan, .int soft, .int doub, .int spli, .int giv, .int bon, .long drw, .int mbank, .ref q0, .ref q1, .ref q2, .int (nI hp), .ref q3, .ref q4, .ref q5, .ref q6, .ref q7, .int msum, .int (bI hasA), .int mcards, .int mpair, .int (nI sh), .int want, .int mwin, .int (bI isCh), .int mbest, .ref k0, .ref k1, .ref k2, .ref k3])), (mw, .inl (cI, 11, .inl fw)), (mk, .inl (cI, 11, .inl mm))]) [0, 2, 3] rfl
              refine vp_callSi (W.runV (As := []) (rest := [.int (nI ((61 * (smN cg)) + 30))]) ⟨hx, hb, hml, hown, hts⟩ (c_X6_counted l D cI cJ cQ m0 ms mf mw mk mtold mh (nI hn) (nI un) (nI tg) stan soft doub spli giv bon drw mbank q0 q1 q2 (nI hp) q3 q4 q5 q6 q7 msum hasA mcards mpair (nI sh) want mwin isCh mbest k0 k1 k2 k3 (fw) (mm)) (cwV 0 hts gX6_known_X6_counted rfl rfl rfl (by decide +kernel) ⟨Nat.le_of_ble_eq_true rfl, Nat.le_of_ble_eq_true rfl⟩) (rP_preV (ci := 6) (q0 := 0) hPc hK rfl rfl) rfl rfl hl.1 rfl (lv_room (Nat.le_of_ble_eq_true rfl)) dX6_known_163 ⟨Nat.le_of_ble_eq_true rfl, Nat.le_of_ble_eq_true rfl⟩) (fun r_51 hr_51 => ?_)
              subst hr_51
              refine lv_iadd hx hb dX6_known_166 ?_
              obtain ⟨t9, et9, t61, eat⟩ := at_N hcg2 hmk (by omega)
              refine lv_topi (fun z_52 ez_52 => ?_)
              obtain rfl : z_52 = nI (61 * smN cg + t9) := ez_52.trans eat
              have et8 : ((t9 : Nat) : Int) - 30 = mkS mm cg 10 := by omega
              have eWf : a_35 (61 * smN cg + t9) = lN (kqW (fun j => (mm j).toInt) cf 10 (smN cg) (mkS mm cg 10)) := by rw [hwa_42 _ (by omega), hRW_47 _ _ (Nat.le_refl _) t61, et8]
              have eTk : b_36 (61 * smN cg + t9) = lN (kqT (fun j => (mm j).toInt) cf k 10 (smN cg) (mkS mm cg 10)) := by rw [hbk_46 _ (by omega), hRT_48 _ _ (Nat.le_refl _) t61, et8]
              refine lv_istore (lv' := [(5, .int (nI (61 * smN cg + t9))), (4, .int (nI (smN cg))), (3, .int (sm10 ff)), (2, .int p1), (1, .int (nI k)), (0, .ref m0)]) hx hb dX6_known_167 hl (by decide) rfl (fun ls hl => ?_)
              refine lv_aload_n hx hb dX6_known_169 rfl (lv_at hl 5 rfl) ?_
              refine va_get (D := D) (ci := 6) (v := .ref mf) (C := RX6) (T := TX6) (N := 39) hx hb hts in_X6_known_X6 hown hK hP 0 rfl rfl 1 (by decide) (hts _ wd_X6_known_5) (fun _ h9 => h9) rfl dX6_known_170 ?_
              refine lv_iload_n hx hb dX6_known_173 rfl (lv_at hl 4 rfl) ?_
              refine va_iald hx hb hK hP 1 0 rfl rfl (vp_in_nI (by omega) (by decide)) dX6_known_174 ?_
              refine lv_topi (fun z_53 ez_53 => ?_)
              obtain rfl : z_53 = (ff k) := ez_53.trans (by rw [nI_clamp (by omega)])
              refine lv_topi (fun z_54 ez_54 => ?_)
              obtain rfl : z_54 = nI (cf k) := ez_54.trans (hcf k kk1 kk2).1
              refine lv_i2l (v := (nI (cf k)).toInt64) hx hb dX6_known_175 rfl ?_
              refine lv_aload_n hx hb dX6_known_176 rfl (lv_at hl 5 rfl) ?_
              refine va_get (D := D) (ci := 6) (v := .ref k0) (C := RX6) (T := TX6) (N := 39) hx hb hts in_X6_known_X6 hown hK hP 0 rfl rfl 35 (by decide) (hts _ wd_X6_known_0) (fun _ h9 => h9) rfl dX6_known_177 ?_
              refine lv_iload hx hb dX6_known_180 (lv_at hl 0 rfl) ?_
              refine va_lald hx hb hK hP 4 1 rfl rfl (vp_in_nI (by omega) (by decide)) dX6_known_182 ?_
              refine lv_topl (fun z_55 ez_55 => ?_)
              obtain rfl : z_55 = (a_35 (61 * smN cg + t9)) := ez_55.trans (by rw [nI_clamp (by omega)])
              refine lv_topl (fun z_56 ez_56 => ?_)
              obtain rfl : z_56 = lN (kqW (fun j => (mm j).toInt) cf 10 (smN cg) (mkS mm cg 10)) := ez_56.trans (eWf)
              refine lv_lmul hx hb dX6_known_183 ?_
              refine lv_aload_n hx hb dX6_known_184 rfl (lv_at hl 5 rfl) ?_
              refine va_get (D := D) (ci := 6) (v := .ref k1) (C := RX6) (T := TX6) (N := 39) hx hb hts in_X6_known_X6 hown hK hP 0 rfl rfl 36 (by decide) (hts _ wd_X6_known_1) (fun _ h9 => h9) rfl dX6_known_185 ?_
              refine lv_iload hx hb dX6_known_188 (lv_at hl 0 rfl) ?_
              refine va_lald hx hb hK hP 5 1 rfl rfl (vp_in_nI (by omega) (by decide)) dX6_known_190 ?_
              refine lv_topl (fun z_57 ez_57 => ?_)
              obtain rfl : z_57 = (b_36 (61 * smN cg + t9)) := ez_57.trans (by rw [nI_clamp (by omega)])
              refine lv_topl (fun z_58 ez_58 => ?_)
              obtain rfl : z_58 = lN (kqT (fun j => (mm j).toInt) cf k 10 (smN cg) (mkS mm cg 10)) := ez_58.trans (eTk)
              refine lv_lsub hx hb dX6_known_191 ?_
              refine lv_topl (fun z_59 ez_59 => ?_)
              obtain rfl : z_59 = lN (cf k * (kqW (fun j => (mm j).toInt) (updN cf k (cf k - 1)) 10 (smN cg) (mkS mm cg 10))) := ez_59.trans (by rw [nI_l (by omega), lN_mul]; exact lN_subT hid)
              refine lv_aload_n hx hb dX6_known_192 rfl (lv_at hl 5 rfl) ?_
              refine va_get (D := D) (ci := 6) (v := .ref k0) (C := RX6) (T := TX6) (N := 39) hx hb hts in_X6_known_X6 hown hK hP 0 rfl rfl 35 (by decide) (hts _ wd_X6_known_0) (fun _ h9 => h9) rfl dX6_known_193 ?_
              refine lv_iload hx hb dX6_known_196 (lv_at hl 0 rfl) ?_
              refine va_lald hx hb hK hP 4 1 rfl rfl (vp_in_nI (by omega) (by decide)) dX6_known_198 ?_
              refine lv_topl (fun z_60 ez_60 => ?_)
              obtain rfl : z_60 = (a_35 (61 * smN cg + t9)) := ez_60.trans (by rw [nI_clamp (by omega)])
              refine lv_topl (fun z_61 ez_61 => ?_)
              obtain rfl : z_61 = lN (kqW (fun j => (mm j).toInt) cf 10 (smN cg) (mkS mm cg 10)) := ez_61.trans (eWf)
              refine lv_iload_n hx hb dX6_known_199 rfl (lv_at hl 3 rfl) ?_
              have hPc := hP.sub (ws' := []) [] rfl
              refine vp_callSl (W.runS (As := [.long (lN (cf k * (kqW (fun j => (mm j).toInt) (updN cf k (cf k - 1)) 10 (smN cg) (mkS mm cg 10)))), .long (lN (kqW (fun j => (mm j).toInt) cf 10 (smN cg) (mkS mm cg 10))), .int p1]) (rest := []) ⟨hx, hb, hml, hown, hts⟩ (c_X6_partV l D cI cJ cQ (lN (cf k * (kqW (fun j => (mm j).toInt) (updN cf k (cf k - 1)) 10 (smN cg) (mkS mm cg 10)))) (kqW (fun j => (mm j).toInt) cf 10 (smN cg) (mkS mm cg 10)) p1 (lB_abs hkb.2) hkp hkb.1) (va_cwS 3 hts gX6_known_X6_part rfl rfl rfl (by decide +kernel) ⟨Nat.le_of_ble_eq_true rfl, Nat.le_of_ble_eq_true rfl⟩) (rP_preS hPc hK) rfl rfl hl.1 rfl (lv_room (Nat.le_of_ble_eq_true rfl)) dX6_known_200 ⟨Nat.le_of_ble_eq_true rfl, Nat.le_of_ble_eq_true rfl⟩) (fun r_62 hr_62 => ?_)
              subst hr_62
              have hP9 := hP.sub (ws' := [(m0, .inr (6, [.ref ms, .ref mf, .ref mw, .ref mk, .int (bI mtold), .ref mh, .int (nI hn), .int (nI un), .int (nI tg), .int stan, .int soft, .int doub, .int spli, .int giv, .int bon, .long drw, .int mbank, .ref q0, .ref q1, .ref q2, .int (nI hp), .ref q3, .ref q4, .ref q5, .ref q6, .ref q7, .int msum, .int (bI hasA), .int mcards, .int mpair, .int (nI sh), .int want, .int mwin, .int (bI isCh), .int mbest, .ref k0, .ref k1, .ref k2, .ref k3])), (mf, .inl (cI, 11, .inl ff)), (mw, .inl (cI, 11, .inl fw)), (mk, .inl (cI, 11, .inl mm)), (k0, .inl (cJ, 549, .inr (.inl a_35))), (k1, .inl (cJ, 549, .inr (.inl b_36))), (k2, .inl (cJ, 549, .inr (.inl g1_37))), (k3, .inl (cJ, 549, .inr (.inl g2_38)))]) [0, 1, 2, 3, 4, 5, 6, 7] rfl
              have hD9 := hD.sub (ws' := [(m0, .inr (6, [.ref ms, .ref mf, .ref mw, .ref mk, .int (bI mtold), .ref mh, .int (nI hn), .int (nI un), .int (nI tg), .int stan, .int soft, .int doub, .int spli, .int giv, .int bon, .long drw, .int mbank, .ref q0, .ref q1, .ref q2, .int (nI hp), .ref q3, .ref q4, .ref q5, .ref q6, .ref q7, .int msum, .int (bI hasA), .int mcards, .int mpair, .int (nI sh), .int want, .int mwin, .int (bI isCh), .int mbest, .ref k0, .ref k1, .ref k2, .ref k3])), (mf, .inl (cI, 11, .inl ff)), (mw, .inl (cI, 11, .inl fw)), (mk, .inl (cI, 11, .inl mm)), (k0, .inl (cJ, 549, .inr (.inl a_35))), (k1, .inl (cJ, 549, .inr (.inl b_36))), (k2, .inl (cJ, 549, .inr (.inl g1_37))), (k3, .inl (cJ, 549, .inr (.inl g2_38)))]) [0, 1, 2, 3, 4, 5, 6, 7] (by decide) rfl
              exact W.lret (v := (ptV (lN (cf k * (kqW (fun j => (mm j).toInt) (updN cf k (cf k - 1)) 10 (smN cg) (mkS mm cg 10)))) (kqW (fun j => (mm j).toInt) cf 10 (smN cg) (mkS mm cg 10)) p1)) hx hb hr (fun t ht hW => ⟨⟨(ptV (lN (cf k * (kqW (fun j => (mm j).toInt) (updN cf k (cf k - 1)) 10 (smN cg) (mkS mm cg 10)))) (kqW (fun j => (mm j).toInt) cf 10 (smN cg) (mkS mm cg 10)) p1), ((a_35), (b_36), (g1_37), (g2_38)), rfl, (by dsimp only; (first | rw [if_pos c9_2] | rw [if_neg c9_2]); (first | rw [if_pos c19_4] | rw [if_neg c19_4]); rw [if_neg (by rw [nc30_5]; decide)]; rw [if_neg (fun z9 => z9.elim c74_29 (fun y9 => y9 nc81_30)), show (nI k).toNatClampNeg = k from nI_clamp (by omega)]; rfl), by rw [ht]; exact hP9, va_K.moved hW.alike hK, hD9⟩, hS.F ht⟩) hS.2.2 dX6_known_203
            · skip
              have nc81_30 : ¬ ((smN cg) ≤ 8) := fun z9 => c81_30 ((nI_leI (a := (smN cg)) (b := 8) (by omega) (by omega)).mpr z9)
              refine lv_ldc2 hx hb hown (hts _ wd_X6_known_6) dX6_known_84 ?_
              have hP9 := hP.sub (ws' := [(m0, .inr (6, [.ref ms, .ref mf, .ref mw, .ref mk, .int (bI mtold), .ref mh, .int (nI hn), .int (nI un), .int (nI tg), .int stan, .int soft, .int doub, .int spli, .int giv, .int bon, .long drw, .int mbank, .ref q0, .ref q1, .ref q2, .int (nI hp), .ref q3, .ref q4, .ref q5, .ref q6, .ref q7, .int msum, .int (bI hasA), .int mcards, .int mpair, .int (nI sh), .int want, .int mwin, .int (bI isCh), .int mbest, .ref k0, .ref k1, .ref k2, .ref k3])), (mf, .inl (cI, 11, .inl ff)), (mw, .inl (cI, 11, .inl fw)), (mk, .inl (cI, 11, .inl mm)), (k0, .inl (cJ, 549, .inr (.inl a))), (k1, .inl (cJ, 549, .inr (.inl b))), (k2, .inl (cJ, 549, .inr (.inl g1))), (k3, .inl (cJ, 549, .inr (.inl g2)))]) [0, 1, 2, 3, 4, 5, 6, 7] rfl
              have hD9 := hD.sub (ws' := [(m0, .inr (6, [.ref ms, .ref mf, .ref mw, .ref mk, .int (bI mtold), .ref mh, .int (nI hn), .int (nI un), .int (nI tg), .int stan, .int soft, .int doub, .int spli, .int giv, .int bon, .long drw, .int mbank, .ref q0, .ref q1, .ref q2, .int (nI hp), .ref q3, .ref q4, .ref q5, .ref q6, .ref q7, .int msum, .int (bI hasA), .int mcards, .int mpair, .int (nI sh), .int want, .int mwin, .int (bI isCh), .int mbest, .ref k0, .ref k1, .ref k2, .ref k3])), (mf, .inl (cI, 11, .inl ff)), (mw, .inl (cI, 11, .inl fw)), (mk, .inl (cI, 11, .inl mm)), (k0, .inl (cJ, 549, .inr (.inl a))), (k1, .inl (cJ, 549, .inr (.inl b))), (k2, .inl (cJ, 549, .inr (.inl g1))), (k3, .inl (cJ, 549, .inr (.inl g2)))]) [0, 1, 2, 3, 4, 5, 6, 7] (by decide) rfl
              exact W.lret (v := (-1004)) hx hb hr (fun t ht hW => ⟨⟨(-1004), ((a), (b), (g1), (g2)), rfl, (by dsimp only; (first | rw [if_pos c9_2] | rw [if_neg c9_2]); (first | rw [if_pos c19_4] | rw [if_neg c19_4]); rw [if_neg (by rw [nc30_5]; decide)]; rw [if_pos (Or.inr nc81_30)]), by rw [ht]; exact hP9, va_K.moved hW.alike hK, hD9⟩, hS.F ht⟩) hS.2.2 dX6_known_87
        · exact absurd c46_26 (by decide)
      · skip
        have nc30_5 : mtold = true := bI_1 c30_5
        refine lv_ldc2 hx hb hown (hts _ wd_X6_known_7) dX6_known_33 ?_
        have hP9 := hP.sub (ws' := [(m0, .inr (6, [.ref ms, .ref mf, .ref mw, .ref mk, .int (bI mtold), .ref mh, .int (nI hn), .int (nI un), .int (nI tg), .int stan, .int soft, .int doub, .int spli, .int giv, .int bon, .long drw, .int mbank, .ref q0, .ref q1, .ref q2, .int (nI hp), .ref q3, .ref q4, .ref q5, .ref q6, .ref q7, .int msum, .int (bI hasA), .int mcards, .int mpair, .int (nI sh), .int want, .int mwin, .int (bI isCh), .int mbest, .ref k0, .ref k1, .ref k2, .ref k3])), (mf, .inl (cI, 11, .inl ff)), (mw, .inl (cI, 11, .inl fw)), (mk, .inl (cI, 11, .inl mm)), (k0, .inl (cJ, 549, .inr (.inl a))), (k1, .inl (cJ, 549, .inr (.inl b))), (k2, .inl (cJ, 549, .inr (.inl g1))), (k3, .inl (cJ, 549, .inr (.inl g2)))]) [0, 1, 2, 3, 4, 5, 6, 7] rfl
        have hD9 := hD.sub (ws' := [(m0, .inr (6, [.ref ms, .ref mf, .ref mw, .ref mk, .int (bI mtold), .ref mh, .int (nI hn), .int (nI un), .int (nI tg), .int stan, .int soft, .int doub, .int spli, .int giv, .int bon, .long drw, .int mbank, .ref q0, .ref q1, .ref q2, .int (nI hp), .ref q3, .ref q4, .ref q5, .ref q6, .ref q7, .int msum, .int (bI hasA), .int mcards, .int mpair, .int (nI sh), .int want, .int mwin, .int (bI isCh), .int mbest, .ref k0, .ref k1, .ref k2, .ref k3])), (mf, .inl (cI, 11, .inl ff)), (mw, .inl (cI, 11, .inl fw)), (mk, .inl (cI, 11, .inl mm)), (k0, .inl (cJ, 549, .inr (.inl a))), (k1, .inl (cJ, 549, .inr (.inl b))), (k2, .inl (cJ, 549, .inr (.inl g1))), (k3, .inl (cJ, 549, .inr (.inl g2)))]) [0, 1, 2, 3, 4, 5, 6, 7] (by decide) rfl
        exact W.lret (v := (-1002)) hx hb hr (fun t ht hW => ⟨⟨(-1002), ((a), (b), (g1), (g2)), rfl, (by dsimp only; (first | rw [if_pos c9_2] | rw [if_neg c9_2]); (first | rw [if_pos c19_4] | rw [if_neg c19_4]); rw [if_pos nc30_5]), by rw [ht]; exact hP9, va_K.moved hW.alike hK, hD9⟩, hS.F ht⟩) hS.2.2 dX6_known_36
    · skip
      refine lv_ldc2 hx hb hown (hts _ wd_X6_known_3) dX6_known_22 ?_
      have hP9 := hP.sub (ws' := [(m0, .inr (6, [.ref ms, .ref mf, .ref mw, .ref mk, .int (bI mtold), .ref mh, .int (nI hn), .int (nI un), .int (nI tg), .int stan, .int soft, .int doub, .int spli, .int giv, .int bon, .long drw, .int mbank, .ref q0, .ref q1, .ref q2, .int (nI hp), .ref q3, .ref q4, .ref q5, .ref q6, .ref q7, .int msum, .int (bI hasA), .int mcards, .int mpair, .int (nI sh), .int want, .int mwin, .int (bI isCh), .int mbest, .ref k0, .ref k1, .ref k2, .ref k3])), (mf, .inl (cI, 11, .inl ff)), (mw, .inl (cI, 11, .inl fw)), (mk, .inl (cI, 11, .inl mm)), (k0, .inl (cJ, 549, .inr (.inl a))), (k1, .inl (cJ, 549, .inr (.inl b))), (k2, .inl (cJ, 549, .inr (.inl g1))), (k3, .inl (cJ, 549, .inr (.inl g2)))]) [0, 1, 2, 3, 4, 5, 6, 7] rfl
      have hD9 := hD.sub (ws' := [(m0, .inr (6, [.ref ms, .ref mf, .ref mw, .ref mk, .int (bI mtold), .ref mh, .int (nI hn), .int (nI un), .int (nI tg), .int stan, .int soft, .int doub, .int spli, .int giv, .int bon, .long drw, .int mbank, .ref q0, .ref q1, .ref q2, .int (nI hp), .ref q3, .ref q4, .ref q5, .ref q6, .ref q7, .int msum, .int (bI hasA), .int mcards, .int mpair, .int (nI sh), .int want, .int mwin, .int (bI isCh), .int mbest, .ref k0, .ref k1, .ref k2, .ref k3])), (mf, .inl (cI, 11, .inl ff)), (mw, .inl (cI, 11, .inl fw)), (mk, .inl (cI, 11, .inl mm)), (k0, .inl (cJ, 549, .inr (.inl a))), (k1, .inl (cJ, 549, .inr (.inl b))), (k2, .inl (cJ, 549, .inr (.inl g1))), (k3, .inl (cJ, 549, .inr (.inl g2)))]) [0, 1, 2, 3, 4, 5, 6, 7] (by decide) rfl
      exact W.lret (v := (-1001)) hx hb hr (fun t ht hW => ⟨⟨(-1001), ((a), (b), (g1), (g2)), rfl, (by dsimp only; (first | rw [if_pos c9_2] | rw [if_neg c9_2]); (first | rw [if_pos c19_4] | rw [if_neg c19_4])), by rw [ht]; exact hP9, va_K.moved hW.alike hK, hD9⟩, hS.F ht⟩) hS.2.2 dX6_known_25
