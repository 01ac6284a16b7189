set_option maxRecDepth 20000 in
theorem in_X6_handSum_X6 : ∀ w ∈ wsX60, w ∈ wsX6_handSum := by decide +kernel
set_option maxRecDepth 20000 in
theorem wd_X6_handSum_0 : Cond.fieldLink RX6 98 "ShoeTableModel" "hands" "I" ∈ wsX6_handSum := by decide +kernel
set_option maxRecDepth 20000 in
theorem wd_X6_handSum_1 : Cond.fieldLink RX6 22 "ShoeTableModel" "hand" "[I" ∈ wsX6_handSum := by decide +kernel
set_option maxHeartbeats 400000 in
set_option maxRecDepth 100000 in
theorem lpHS {p : Program} {l : Launch} {e : Env} {R : Room} {s : State} {m : MethodId} {args : Array Value} {below : List Frame} {meth : Method} {c : Code} {Q : State → Prop} {D : va_G} {cI cJ cQ : ClassId} {cells slots : Nat} (hx : p.tables.exec = Jvm.exec) (hb : c.code = cX6_handSum) (hml : c.maxLocals = 3) (hown : s.vm.findClass RX6 = some m.cls) (hts : ∀ w ∈ wsX6_handSum, w.before args s = true) (hK : va_K D vwCl (gTy cI cJ cQ) s) (m0 : Nat) (ms : Nat) (mf : Nat) (mw : Nat) (mk : Nat) (mtold : Bool) (mh : Nat) (hn : Nat) (mup : Int32) (targ : Int32) (stan : Int32) (soft : Int32) (doub : Int32) (spli : Int32) (giv : Int32) (bon : Int32) (drw : Int64) (mbank : Int32) (q0 : Nat) (q1 : Nat) (q2 : Nat) (mheaps : Int32) (q3 : Nat) (q4 : Nat) (q5 : Nat) (q6 : Nat) (q7 : Nat) (msum : Int32) (hasA : Bool) (mcards : Int32) (mpair : Int32) (shown : Int32) (want : Int32) (mwin : Int32) (isCh : Bool) (mbest : Int32) (k0 : Nat) (k1 : Nat) (k2 : Nat) (k3 : Nat) (g : Nat → Int32) (hRf : 0 ≤ R.frames) (hRl : 0 ≤ R.locals) (hRc : cells ≤ R.cells) (hRs : slots ≤ R.slots) {H : Heap} {locs : List Loc} (hP : va_P D vwCl [(m0, .inr (6, [.ref ms, .ref mf, .ref mw, .ref mk, .int (bI mtold), .ref mh, .int (nI hn), .int mup, .int targ, .int stan, .int soft, .int doub, .int spli, .int giv, .int bon, .long drw, .int mbank, .ref q0, .ref q1, .ref q2, .int mheaps, .ref q3, .ref q4, .ref q5, .ref q6, .ref q7, .int msum, .int (bI hasA), .int mcards, .int mpair, .int shown, .int want, .int mwin, .int (bI isCh), .int mbest, .ref k0, .ref k1, .ref k2, .ref k3])), (mh, .inl (cI, 12, .inl g))] H) (hn12 : hn ≤ 12) : ∀ (n9 : Nat) (k : Nat) (ls : Array Slot), hn - k < n9 → (k ≤ hn) → lv_has ls 3 [(2, .int (nI k)), (1, .int (hsN g k)), (0, .ref m0)] → (∀ (ls : Array Slot), lv_has ls 3 [(1, .int (hsN g hn)), (0, .ref m0)] → W p l e R s m args below meth c H locs cells slots Q (F0 m 27 ls [])) → W p l e R s m args below meth c H locs cells slots Q (F0 m 4 ls []) := by
  intro n9
  induction n9 with
  | zero => intro k ls hms9; exact absurd hms9 (Nat.not_lt_zero _)
  | succ n9 ih =>
    intro k ls hms9 k2 hl kk0
    refine lv_iload_n hx hb dX6_handSum_4 rfl (lv_at hl 0 rfl) ?_
    refine lv_aload_n hx hb dX6_handSum_5 rfl (lv_at hl 2 rfl) ?_
    refine va_get (D := D) (ci := 6) (v := .int (nI hn)) (C := RX6) (T := TX6) (N := 39) hx hb hts in_X6_handSum_X6 hown hK hP 0 rfl rfl 6 (by decide) (hts _ wd_X6_handSum_0) (fun _ h9 => h9) rfl dX6_handSum_6 ?_
    refine lv_icmp_ge (tgt := 27) hx hb dX6_handSum_9 (by decide) (fun c9_1 => ?_) (fun c9_1 => ?_)
    · skip
      have nc9_1 : hn ≤ k := (nI_leI (a := hn) (b := k) (by omega) (by omega)).mp c9_1
      obtain rfl : k = hn := by omega
      exact kk0 _ (lv_sub hl [1, 2] rfl)
    · skip
      have nc9_1 : ¬ (hn ≤ k) := fun z9 => c9_1 ((nI_leI (a := hn) (b := k) (by omega) (by omega)).mpr z9)
      refine lv_iload_n hx hb dX6_handSum_12 rfl (lv_at hl 1 rfl) ?_
      refine lv_aload_n hx hb dX6_handSum_13 rfl (lv_at hl 2 rfl) ?_
      refine va_get (D := D) (ci := 6) (v := .ref mh) (C := RX6) (T := TX6) (N := 39) hx hb hts in_X6_handSum_X6 hown hK hP 0 rfl rfl 5 (by decide) (hts _ wd_X6_handSum_1) (fun _ h9 => h9) rfl dX6_handSum_14 ?_
      refine lv_iload_n hx hb dX6_handSum_17 rfl (lv_at hl 0 rfl) ?_
      refine va_iald hx hb hK hP 1 0 rfl rfl (vp_in_nI (by omega) (by decide)) dX6_handSum_18 ?_
      refine lv_topi (fun z_2 ez_2 => ?_)
      obtain rfl : z_2 = (g k) := ez_2.trans (by rw [nI_clamp (by omega)])
      refine lv_iadd hx hb dX6_handSum_19 ?_
      refine lv_istore_n (lv' := [(1, .int (hsN g k + (g k))), (2, .int (nI k)), (0, .ref m0)]) hx hb dX6_handSum_20 rfl hl (by decide) rfl (fun ls hl => ?_)
      refine lv_iinc (v := (nI (k + 1))) (lv' := [(2, .int (nI (k + 1))), (1, .int (hsN g k + (g k))), (0, .ref m0)]) hx hb dX6_handSum_21 hl (k := 1) rfl (nI_incT (by decide)) (by decide) rfl (fun ls hl => ?_)
      refine lv_goto (tgt := 4) hx hb dX6_handSum_24 (by decide) ?_
      exact ih (k + 1) _ (by omega) (by omega) (lv_sub hl [0, 1, 2] rfl) kk0

set_option maxHeartbeats 400000 in
set_option maxRecDepth 100000 in
/-- X6_handSum -/
theorem c_X6_handSum (l : Launch) (D : va_G) (cI cJ cQ : ClassId) (m0 : Nat) (ms : Nat) (mf : Nat) (mw : Nat) (mk : Nat) (mtold : Bool) (mh : Nat) (hn : Nat) (mup : Int32) (targ : Int32) (stan : Int32) (soft : Int32) (doub : Int32) (spli : Int32) (giv : Int32) (bon : Int32) (drw : Int64) (mbank : Int32) (q0 : Nat) (q1 : Nat) (q2 : Nat) (mheaps : Int32) (q3 : Nat) (q4 : Nat) (q5 : Nat) (q6 : Nat) (q7 : Nat) (msum : Int32) (hasA : Bool) (mcards : Int32) (mpair : Int32) (shown : Int32) (want : Int32) (mwin : Int32) (isCh : Bool) (mbest : Int32) (k0 : Nat) (k1 : Nat) (k2 : Nat) (k3 : Nat) (g : Nat → Int32) (hn12 : hn ≤ 12) : Met l yX6_handSum wsX6_handSum ({ frames := 0, cells := 0, slots := 0, locals := 0 }) (va_Pc [.ref m0] (rP D (gTy cI cJ cQ) [(m0, .inr (6, [.ref ms, .ref mf, .ref mw, .ref mk, .int (bI mtold), .ref mh, .int (nI hn), .int mup, .int targ, .int stan, .int soft, .int doub, .int spli, .int giv, .int bon, .long drw, .int mbank, .ref q0, .ref q1, .ref q2, .int mheaps, .ref q3, .ref q4, .ref q5, .ref q6, .ref q7, .int msum, .int (bI hasA), .int mcards, .int mpair, .int shown, .int want, .int mwin, .int (bI isCh), .int mbest, .ref k0, .ref k1, .ref k2, .ref k3])), (mh, .inl (cI, 12, .inl g))])) (vp_Si (fun r => r = hsN g hn)) 0 0 (fun _ => False) := by
  refine Met.ofW (cc := cX6_handSum) (maxL := 3) (ret := (some .int)) (by decide) rfl ?_
  intro p e s m args below meth c s₁ B hml hv
  obtain ⟨rfl, hP, hK⟩ := hv
  have hx := B.exec
  have hb := B.bytes
  have hr := B.returns
  have hts := atoms_spec (ws := wsX6_handSum) B.pre
  have hown : s.vm.findClass RX6 = some m.cls := findClass_of_methodNamed B.named
  have hlocks := B.notSynchronized
  have hl := lv_entry ([.ref m0]) (n := 3) (Nat.le_of_ble_eq_true rfl)
  rw [lg_entry_eq]
  generalize (lg_sl ([.ref m0]) ++ List.replicate (3 - (lg_sl ([.ref m0])).length) Slot.unset).toArray = ls at hl ⊢
  have hl : lv_has ls 3 [(0, .ref m0)] := hl
  refine lv_iconst (v := 0) hx hb dX6_handSum_0 (by decide) ?_
  refine lv_istore_n (lv' := [(1, .int 0), (0, .ref m0)]) hx hb dX6_handSum_1 rfl hl (by decide) rfl (fun ls hl => ?_)
  refine lv_iconst (v := 0) hx hb dX6_handSum_2 (by decide) ?_
  refine lv_istore_n (lv' := [(2, .int 0), (1, .int 0), (0, .ref m0)]) hx hb dX6_handSum_3 rfl hl (by decide) rfl (fun ls hl => ?_)
  refine lpHS hx hb hml hown hts hK m0 ms mf mw mk mtold mh hn mup targ stan soft doub spli giv bon drw mbank q0 q1 q2 mheaps q3 q4 q5 q6 q7 msum hasA mcards mpair shown want mwin isCh mbest k0 k1 k2 k3 g (Nat.le_of_ble_eq_true rfl) (Nat.le_of_ble_eq_true rfl) (Nat.zero_le _) (Nat.zero_le _) hP hn12 (hn - 0 + 1) 0 _ (Nat.lt_succ_self _) (by omega) (lv_sub hl [0, 1, 2] rfl) (fun ls  hl => ?_)
  refine lv_iload_n hx hb dX6_handSum_27 rfl (lv_at hl 0 rfl) ?_
  exact W.iret (v := hsN g hn) hx hb hr (fun t ht hW => ⟨_, rfl, rfl, ht⟩) (fun q hq => absurd hq List.not_mem_nil) dX6_handSum_28

set_option maxRecDepth 20000 in
theorem in_X6_handAce_X6 : ∀ w ∈ wsX60, w ∈ wsX6_handAce := by decide +kernel
set_option maxRecDepth 20000 in
theorem wd_X6_handAce_0 : Cond.fieldLink RX6 98 "ShoeTableModel" "hands" "I" ∈ wsX6_handAce := by decide +kernel
set_option maxRecDepth 20000 in
theorem wd_X6_handAce_1 : Cond.fieldLink RX6 22 "ShoeTableModel" "hand" "[I" ∈ wsX6_handAce := by decide +kernel
set_option maxHeartbeats 400000 in
set_option maxRecDepth 100000 in
theorem lpHA {p : Program} {l : Launch} {e : Env} {R : Room} {s : State} {m : MethodId} {args : Array Value} {below : List Frame} {meth : Method} {c : Code} {Q : State → Prop} {D : va_G} {cI cJ cQ : ClassId} {cells slots : Nat} (hx : p.tables.exec = Jvm.exec) (hb : c.code = cX6_handAce) (hml : c.maxLocals = 3) (hown : s.vm.findClass RX6 = some m.cls) (hts : ∀ w ∈ wsX6_handAce, w.before args s = true) (hK : va_K D vwCl (gTy cI cJ cQ) s) (m0 : Nat) (ms : Nat) (mf : Nat) (mw : Nat) (mk : Nat) (mtold : Bool) (mh : Nat) (hn : Nat) (mup : Int32) (targ : Int32) (stan : Int32) (soft : Int32) (doub : Int32) (spli : Int32) (giv : Int32) (bon : Int32) (drw : Int64) (mbank : Int32) (q0 : Nat) (q1 : Nat) (q2 : Nat) (mheaps : Int32) (q3 : Nat) (q4 : Nat) (q5 : Nat) (q6 : Nat) (q7 : Nat) (msum : Int32) (hasA : Bool) (mcards : Int32) (mpair : Int32) (shown : Int32) (want : Int32) (mwin : Int32) (isCh : Bool) (mbest : Int32) (k0 : Nat) (k1 : Nat) (k2 : Nat) (k3 : Nat) (g : Nat → Int32) (hRf : 0 ≤ R.frames) (hRl : 0 ≤ R.locals) (hRc : cells ≤ R.cells) (hRs : slots ≤ R.slots) {H : Heap} {locs : List Loc} (hP : va_P D vwCl [(m0, .inr (6, [.ref ms, .ref mf, .ref mw, .ref mk, .int (bI mtold), .ref mh, .int (nI hn), .int mup, .int targ, .int stan, .int soft, .int doub, .int spli, .int giv, .int bon, .long drw, .int mbank, .ref q0, .ref q1, .ref q2, .int mheaps, .ref q3, .ref q4, .ref q5, .ref q6, .ref q7, .int msum, .int (bI hasA), .int mcards, .int mpair, .int shown, .int want, .int mwin, .int (bI isCh), .int mbest, .ref k0, .ref k1, .ref k2, .ref k3])), (mh, .inl (cI, 12, .inl g))] H) (hn12 : hn ≤ 12) : ∀ (n9 : Nat) (k : Nat) (ls : Array Slot), hn - k < n9 → (k ≤ hn) → lv_has ls 3 [(2, .int (nI k)), (1, .int (bI (haN g k))), (0, .ref m0)] → (∀ (ls : Array Slot), lv_has ls 3 [(1, .int (bI (haN g hn))), (0, .ref m0)] → W p l e R s m args below meth c H locs cells slots Q (F0 m 38 ls [])) → W p l e R s m args below meth c H locs cells slots Q (F0 m 4 ls []) := by
  intro n9
  induction n9 with
  | zero => intro k ls hms9; exact absurd hms9 (Nat.not_lt_zero _)
  | succ n9 ih =>
    intro k ls hms9 k2 hl kk0
    refine lv_iload_n hx hb dX6_handAce_4 rfl (lv_at hl 0 rfl) ?_
    refine lv_aload_n hx hb dX6_handAce_5 rfl (lv_at hl 2 rfl) ?_
    refine va_get (D := D) (ci := 6) (v := .int (nI hn)) (C := RX6) (T := TX6) (N := 39) hx hb hts in_X6_handAce_X6 hown hK hP 0 rfl rfl 6 (by decide) (hts _ wd_X6_handAce_0) (fun _ h9 => h9) rfl dX6_handAce_6 ?_
    refine lv_icmp_ge (tgt := 38) hx hb dX6_handAce_9 (by decide) (fun c9_1 => ?_) (fun c9_1 => ?_)
    · skip
      have nc9_1 : hn ≤ k := (nI_leI (a := hn) (b := k) (by omega) (by omega)).mp c9_1
      obtain rfl : k = hn := by omega
      exact kk0 _ (lv_sub hl [1, 2] rfl)
    · skip
      have nc9_1 : ¬ (hn ≤ k) := fun z9 => c9_1 ((nI_leI (a := hn) (b := k) (by omega) (by omega)).mpr z9)
      refine lv_join (α := Bool) 31 3 (fun a9 => [(2, .int (nI k)), (1, .int (bI (haN g k))), (0, .ref m0)]) (fun a9 => [.int (bI a9)]) (fun a9 => a9 = (haN g k || decide (g k = 1))) (fun a_4 ls hl hp_3 => ?_) (fun hJ_2 => ?_)
      · skip
        have hp_3 : a_4 = (haN g k || decide (g k = 1)) := hp_3
        subst hp_3
        refine lv_istore_n (lv' := [(1, .int (bI (haN g k || decide (g k = 1)))), (2, .int (nI k)), (0, .ref m0)]) hx hb dX6_handAce_31 rfl hl (by decide) rfl (fun ls hl => ?_)
        refine lv_iinc (v := (nI (k + 1))) (lv' := [(2, .int (nI (k + 1))), (1, .int (bI (haN g k || decide (g k = 1)))), (0, .ref m0)]) hx hb dX6_handAce_32 hl (k := 1) rfl (nI_incT (by decide)) (by decide) rfl (fun ls hl => ?_)
        refine lv_goto (tgt := 4) hx hb dX6_handAce_35 (by decide) ?_
        exact ih (k + 1) _ (by omega) (by omega) (lv_sub hl [0, 1, 2] rfl) kk0
      · skip
        refine lv_iload_n hx hb dX6_handAce_12 rfl (lv_at hl 1 rfl) ?_
        refine lv_if_ne (tgt := 26) hx hb dX6_handAce_13 (by decide) (fun c13_5 => ?_) (fun c13_5 => ?_)
        · skip
          have nc13_5 : (haN g k) = true := bI_1 c13_5
          refine lv_iconst (v := 1) hx hb dX6_handAce_26 (by decide) ?_
          refine lv_goto (tgt := 31) hx hb dX6_handAce_27 (by decide) ?_
          exact hJ_2 true ls (lv_sub hl [0, 1, 2] rfl) (by first | assumption | (simp [c13_5, nc13_5]; done) | ((try first | rw [if_pos c13_5] | rw [if_neg c13_5]); (try first | rw [if_pos nc13_5] | rw [if_neg nc13_5]); first | done | rfl | trivial) | (simp_all; done))
        · skip
          have nc13_5 : (haN g k) = false := (bI_0 _).mp c13_5
          refine lv_aload_n hx hb dX6_handAce_16 rfl (lv_at hl 2 rfl) ?_
          refine va_get (D := D) (ci := 6) (v := .ref mh) (C := RX6) (T := TX6) (N := 39) hx hb hts in_X6_handAce_X6 hown hK hP 0 rfl rfl 5 (by decide) (hts _ wd_X6_handAce_1) (fun _ h9 => h9) rfl dX6_handAce_17 ?_
          refine lv_iload_n hx hb dX6_handAce_20 rfl (lv_at hl 0 rfl) ?_
          refine va_iald hx hb hK hP 1 0 rfl rfl (vp_in_nI (by omega) (by decide)) dX6_handAce_21 ?_
          refine lv_topi (fun z_6 ez_6 => ?_)
          obtain rfl : z_6 = (g k) := ez_6.trans (by rw [nI_clamp (by omega)])
          refine lv_iconst (v := 1) hx hb dX6_handAce_22 (by decide) ?_
          refine lv_icmp_ne (tgt := 30) hx hb dX6_handAce_23 (by decide) (fun c23_7 => ?_) (fun c23_7 => ?_)
          · skip
            refine lv_iconst (v := 0) hx hb dX6_handAce_30 (by decide) ?_
            exact hJ_2 false ls (lv_sub hl [0, 1, 2] rfl) (by first | assumption | (simp [c13_5, nc13_5, c23_7]; done) | ((try first | rw [if_pos c13_5] | rw [if_neg c13_5]); (try first | rw [if_pos nc13_5] | rw [if_neg nc13_5]); (try first | rw [if_pos c23_7] | rw [if_neg c23_7]); first | done | rfl | trivial) | (simp_all; done))
          · skip
            refine lv_iconst (v := 1) hx hb dX6_handAce_26 (by decide) ?_
            refine lv_goto (tgt := 31) hx hb dX6_handAce_27 (by decide) ?_
            exact hJ_2 true ls (lv_sub hl [0, 1, 2] rfl) (by first | assumption | (simp [c13_5, nc13_5, c23_7]; done) | ((try first | rw [if_pos c13_5] | rw [if_neg c13_5]); (try first | rw [if_pos nc13_5] | rw [if_neg nc13_5]); (try first | rw [if_pos c23_7] | rw [if_neg c23_7]); first | done | rfl | trivial) | (simp_all; done))

set_option maxHeartbeats 400000 in
set_option maxRecDepth 100000 in
/-- X6_handAce -/
theorem c_X6_handAce (l : Launch) (D : va_G) (cI cJ cQ : ClassId) (m0 : Nat) (ms : Nat) (mf : Nat) (mw : Nat) (mk : Nat) (mtold : Bool) (mh : Nat) (hn : Nat) (mup : Int32) (targ : Int32) (stan : Int32) (soft : Int32) (doub : Int32) (spli : Int32) (giv : Int32) (bon : Int32) (drw : Int64) (mbank : Int32) (q0 : Nat) (q1 : Nat) (q2 : Nat) (mheaps : Int32) (q3 : Nat) (q4 : Nat) (q5 : Nat) (q6 : Nat) (q7 : Nat) (msum : Int32) (hasA : Bool) (mcards : Int32) (mpair : Int32) (shown : Int32) (want : Int32) (mwin : Int32) (isCh : Bool) (mbest : Int32) (k0 : Nat) (k1 : Nat) (k2 : Nat) (k3 : Nat) (g : Nat → Int32) (hn12 : hn ≤ 12) : Met l yX6_handAce wsX6_handAce ({ frames := 0, cells := 0, slots := 0, locals := 0 }) (va_Pc [.ref m0] (rP D (gTy cI cJ cQ) [(m0, .inr (6, [.ref ms, .ref mf, .ref mw, .ref mk, .int (bI mtold), .ref mh, .int (nI hn), .int mup, .int targ, .int stan, .int soft, .int doub, .int spli, .int giv, .int bon, .long drw, .int mbank, .ref q0, .ref q1, .ref q2, .int mheaps, .ref q3, .ref q4, .ref q5, .ref q6, .ref q7, .int msum, .int (bI hasA), .int mcards, .int mpair, .int shown, .int want, .int mwin, .int (bI isCh), .int mbest, .ref k0, .ref k1, .ref k2, .ref k3])), (mh, .inl (cI, 12, .inl g))])) (vp_Si (fun r => r = bI (haN g hn))) 0 0 (fun _ => False) := by
  refine Met.ofW (cc := cX6_handAce) (maxL := 3) (ret := (some .boolean)) (by decide) rfl ?_
  intro p e s m args below meth c s₁ B hml hv
  obtain ⟨rfl, hP, hK⟩ := hv
  have hx := B.exec
  have hb := B.bytes
  have hr := B.returns
  have hts := atoms_spec (ws := wsX6_handAce) B.pre
  have hown : s.vm.findClass RX6 = some m.cls := findClass_of_methodNamed B.named
  have hlocks := B.notSynchronized
  have hl := lv_entry ([.ref m0]) (n := 3) (Nat.le_of_ble_eq_true rfl)
  rw [lg_entry_eq]
  generalize (lg_sl ([.ref m0]) ++ List.replicate (3 - (lg_sl ([.ref m0])).length) Slot.unset).toArray = ls at hl ⊢
  have hl : lv_has ls 3 [(0, .ref m0)] := hl
  refine lv_iconst (v := 0) hx hb dX6_handAce_0 (by decide) ?_
  refine lv_istore_n (lv' := [(1, .int 0), (0, .ref m0)]) hx hb dX6_handAce_1 rfl hl (by decide) rfl (fun ls hl => ?_)
  refine lv_iconst (v := 0) hx hb dX6_handAce_2 (by decide) ?_
  refine lv_istore_n (lv' := [(2, .int 0), (1, .int 0), (0, .ref m0)]) hx hb dX6_handAce_3 rfl hl (by decide) rfl (fun ls hl => ?_)
  refine lpHA hx hb hml hown hts hK m0 ms mf mw mk mtold mh hn mup targ stan soft doub spli giv bon drw mbank q0 q1 q2 mheaps q3 q4 q5 q6 q7 msum hasA mcards mpair shown want mwin isCh mbest k0 k1 k2 k3 g (Nat.le_of_ble_eq_true rfl) (Nat.le_of_ble_eq_true rfl) (Nat.zero_le _) (Nat.zero_le _) hP hn12 (hn - 0 + 1) 0 _ (Nat.lt_succ_self _) (by omega) (lv_sub hl [0, 1, 2] rfl) (fun ls  hl => ?_)
  refine lv_iload_n hx hb dX6_handAce_38 rfl (lv_at hl 0 rfl) ?_
  exact W.zret (v := bI (haN g hn)) hx hb hr (bI_nar _) (fun t ht hW => ⟨_, rfl, rfl, ht⟩) (fun q hq => absurd hq List.not_mem_nil) dX6_handAce_39

set_option maxRecDepth 20000 in
theorem in_X6_valueOf_X6 : ∀ w ∈ wsX60, w ∈ wsX6_valueOf := by decide +kernel
set_option maxRecDepth 20000 in
theorem wd_X6_valueOf_0 : Cond.fieldLink RX6 25 "ShoeTableModel" "target" "I" ∈ wsX6_valueOf := by decide +kernel
set_option maxHeartbeats 400000 in
set_option maxRecDepth 100000 in
/-- X6_valueOf -/
theorem c_X6_valueOf (l : Launch) (D : va_G) (cI cJ cQ : ClassId) (m0 : Nat) (ms : Nat) (mf : Nat) (mw : Nat) (mk : Nat) (mtold : Bool) (mh : Nat) (hn : Nat) (mup : Int32) (targ : Int32) (stan : Int32) (soft : Int32) (doub : Int32) (spli : Int32) (giv : Int32) (bon : Int32) (drw : Int64) (mbank : Int32) (q0 : Nat) (q1 : Nat) (q2 : Nat) (mheaps : Int32) (q3 : Nat) (q4 : Nat) (q5 : Nat) (q6 : Nat) (q7 : Nat) (msum : Int32) (hasA : Bool) (mcards : Int32) (mpair : Int32) (shown : Int32) (want : Int32) (mwin : Int32) (isCh : Bool) (mbest : Int32) (k0 : Nat) (k1 : Nat) (k2 : Nat) (k3 : Nat) (p0 : Int32) (p1 : Bool)  : Met l yX6_valueOf wsX6_valueOf ({ frames := 0, cells := 0, slots := 0, locals := 0 }) (va_Pc [.ref m0, .int p0, .int (bI p1)] (rP D (gTy cI cJ cQ) [(m0, .inr (6, [.ref ms, .ref mf, .ref mw, .ref mk, .int (bI mtold), .ref mh, .int (nI hn), .int mup, .int targ, .int stan, .int soft, .int doub, .int spli, .int giv, .int bon, .long drw, .int mbank, .ref q0, .ref q1, .ref q2, .int mheaps, .ref q3, .ref q4, .ref q5, .ref q6, .ref q7, .int msum, .int (bI hasA), .int mcards, .int mpair, .int shown, .int want, .int mwin, .int (bI isCh), .int mbest, .ref k0, .ref k1, .ref k2, .ref k3]))])) (vp_Si (fun r => r = vlM targ p0 p1)) 0 0 (fun _ => False) := by
  refine Met.ofW (cc := cX6_valueOf) (maxL := 3) (ret := (some .int)) (by decide) rfl ?_
  intro p e s m args below meth c s₁ B hml hv
  obtain ⟨rfl, hP, hK⟩ := hv
  have hx := B.exec
  have hb := B.bytes
  have hr := B.returns
  have hts := atoms_spec (ws := wsX6_valueOf) B.pre
  have hown : s.vm.findClass RX6 = some m.cls := findClass_of_methodNamed B.named
  have hlocks := B.notSynchronized
  have hl := lv_entry ([.ref m0, .int p0, .int (bI p1)]) (n := 3) (Nat.le_of_ble_eq_true rfl)
  rw [lg_entry_eq]
  generalize (lg_sl ([.ref m0, .int p0, .int (bI p1)]) ++ List.replicate (3 - (lg_sl ([.ref m0, .int p0, .int (bI p1)])).length) Slot.unset).toArray = ls at hl ⊢
  have hl : lv_has ls 3 [(0, .ref m0), (1, .int p0), (2, .int (bI p1))] := hl
  refine lv_iload_n hx hb dX6_valueOf_0 rfl (lv_at hl 2 rfl) ?_
  refine lv_if_eq (tgt := 22) hx hb dX6_valueOf_1 (by decide) (fun c1_1 => ?_) (fun c1_1 => ?_)
  · skip
    have nc1_1 : p1 = false := (bI_0 _).mp c1_1
    refine lv_iload_n hx hb dX6_valueOf_22 rfl (lv_at hl 1 rfl) ?_
    exact W.iret (v := p0) hx hb hr (fun t ht hW => ⟨_, rfl, (by unfold vlM; first | (simp [c1_1, nc1_1]; done) | ((try first | rw [if_pos c1_1] | rw [if_neg c1_1]); (try first | rw [if_pos nc1_1] | rw [if_neg nc1_1]); first | done | rfl | trivial)), ht⟩) (fun q hq => absurd hq List.not_mem_nil) dX6_valueOf_23
  · skip
    have nc1_1 : p1 = true := bI_1 c1_1
    refine lv_iload_n hx hb dX6_valueOf_4 rfl (lv_at hl 1 rfl) ?_
    refine lv_bipush (v := 10) hx hb dX6_valueOf_5 (by decide) ?_
    refine lv_iadd hx hb dX6_valueOf_7 ?_
    refine lv_aload_n hx hb dX6_valueOf_8 rfl (lv_at hl 0 rfl) ?_
    refine va_get (D := D) (ci := 6) (v := .int targ) (C := RX6) (T := TX6) (N := 39) hx hb hts in_X6_valueOf_X6 hown hK hP 0 rfl rfl 8 (by decide) (hts _ wd_X6_valueOf_0) (fun _ h9 => h9) rfl dX6_valueOf_9 ?_
    refine lv_icmp_gt (tgt := 22) hx hb dX6_valueOf_12 (by decide) (fun c12_2 => ?_) (fun c12_2 => ?_)
    · skip
      refine lv_iload_n hx hb dX6_valueOf_22 rfl (lv_at hl 1 rfl) ?_
      exact W.iret (v := p0) hx hb hr (fun t ht hW => ⟨_, rfl, (by unfold vlM; first | (simp [c1_1, nc1_1, c12_2]; done) | ((try first | rw [if_pos c1_1] | rw [if_neg c1_1]); (try first | rw [if_pos nc1_1] | rw [if_neg nc1_1]); (try first | rw [if_pos c12_2] | rw [if_neg c12_2]); first | done | rfl | trivial)), ht⟩) (fun q hq => absurd hq List.not_mem_nil) dX6_valueOf_23
    · skip
      refine lv_iload_n hx hb dX6_valueOf_15 rfl (lv_at hl 1 rfl) ?_
      refine lv_bipush (v := 10) hx hb dX6_valueOf_16 (by decide) ?_
      refine lv_iadd hx hb dX6_valueOf_18 ?_
      refine lv_goto (tgt := 23) hx hb dX6_valueOf_19 (by decide) ?_
      exact W.iret (v := (p0 + 10)) hx hb hr (fun t ht hW => ⟨_, rfl, (by unfold vlM; first | (simp [c1_1, nc1_1, c12_2]; done) | ((try first | rw [if_pos c1_1] | rw [if_neg c1_1]); (try first | rw [if_pos nc1_1] | rw [if_neg nc1_1]); (try first | rw [if_pos c12_2] | rw [if_neg c12_2]); first | done | rfl | trivial)), ht⟩) (fun q hq => absurd hq List.not_mem_nil) dX6_valueOf_23

set_option maxHeartbeats 400000 in
set_option maxRecDepth 100000 in
/-- X6_handValue -/
theorem c_X6_handValue (l : Launch) (D : va_G) (cI cJ cQ : ClassId) (m0 : Nat) (ms : Nat) (mf : Nat) (mw : Nat) (mk : Nat) (mtold : Bool) (mh : Nat) (hn : Nat) (mup : Int32) (targ : Int32) (stan : Int32) (soft : Int32) (doub : Int32) (spli : Int32) (giv : Int32) (bon : Int32) (drw : Int64) (mbank : Int32) (q0 : Nat) (q1 : Nat) (q2 : Nat) (mheaps : Int32) (q3 : Nat) (q4 : Nat) (q5 : Nat) (q6 : Nat) (q7 : Nat) (msum : Int32) (hasA : Bool) (mcards : Int32) (mpair : Int32) (shown : Int32) (want : Int32) (mwin : Int32) (isCh : Bool) (mbest : Int32) (k0 : Nat) (k1 : Nat) (k2 : Nat) (k3 : Nat) (g : Nat → Int32) (hn12 : hn ≤ 12) : Met l yX6_handValue wsX6_handValue ({ frames := 1, cells := 0, slots := 0, locals := 22 }) (va_Pc [.ref m0] (rP D (gTy cI cJ cQ) [(m0, .inr (6, [.ref ms, .ref mf, .ref mw, .ref mk, .int (bI mtold), .ref mh, .int (nI hn), .int mup, .int targ, .int stan, .int soft, .int doub, .int spli, .int giv, .int bon, .long drw, .int mbank, .ref q0, .ref q1, .ref q2, .int mheaps, .ref q3, .ref q4, .ref q5, .ref q6, .ref q7, .int msum, .int (bI hasA), .int mcards, .int mpair, .int shown, .int want, .int mwin, .int (bI isCh), .int mbest, .ref k0, .ref k1, .ref k2, .ref k3])), (mh, .inl (cI, 12, .inl g))])) (vp_Si (fun r => r = vlM targ (hsN g hn) (haN g hn))) 0 0 (fun _ => False) := by
  refine Met.ofW (cc := cX6_handValue) (maxL := 1) (ret := (some .int)) (by decide) rfl ?_
  intro p e s m args below meth c s₁ B hml hv
  obtain ⟨rfl, hP, hK⟩ := hv
  have hx := B.exec
  have hb := B.bytes
  have hr := B.returns
  have hts := atoms_spec (ws := wsX6_handValue) B.pre
  have hown : s.vm.findClass RX6 = some m.cls := findClass_of_methodNamed B.named
  have hlocks := B.notSynchronized
  have hl := lv_entry ([.ref m0]) (n := 1) (Nat.le_of_ble_eq_true rfl)
  rw [lg_entry_eq]
  generalize (lg_sl ([.ref m0]) ++ List.replicate (1 - (lg_sl ([.ref m0])).length) Slot.unset).toArray = ls at hl ⊢
  have hl : lv_has ls 1 [(0, .ref m0)] := hl
  refine lv_aload_n hx hb dX6_handValue_0 rfl (lv_at hl 0 rfl) ?_
  refine lv_aload_n hx hb dX6_handValue_1 rfl (lv_at hl 0 rfl) ?_
  have hPc := hP.sub (ws' := [(m0, .inr (6, [.ref ms, .ref mf, .ref mw, .ref mk, .int (bI mtold), .ref mh, .int (nI hn), .int mup, .int targ, .int stan, .int soft, .int doub, .int spli, .int giv, .int bon, .long drw, .int mbank, .ref q0, .ref q1, .ref q2, .int mheaps, .ref q3, .ref q4, .ref q5, .ref q6, .ref q7, .int msum, .int (bI hasA), .int mcards, .int mpair, .int shown, .int want, .int mwin, .int (bI isCh), .int mbest, .ref k0, .ref k1, .ref k2, .ref k3])), (mh, .inl (cI, 12, .inl g))]) [0, 1] rfl
  refine vp_callSi (W.runV (As := []) (rest := [.ref m0]) ⟨hx, hb, hml, hown, hts⟩ (c_X6_handSum l D cI cJ cQ m0 ms mf mw mk mtold mh hn mup targ stan soft doub spli giv bon drw mbank q0 q1 q2 mheaps q3 q4 q5 q6 q7 msum hasA mcards mpair shown want mwin isCh mbest k0 k1 k2 k3 (g) hn12) (cwV 0 hts gX6_handValue_X6_handSum rfl rfl rfl (by decide +kernel) ⟨Nat.le_of_ble_eq_true rfl, Nat.le_of_ble_eq_true rfl⟩) (rP_preV (ci := 6) (q0 := 0) hPc hK rfl rfl) rfl rfl hl.1 rfl (lv_room (Nat.le_of_ble_eq_true rfl)) dX6_handValue_2 ⟨Nat.le_of_ble_eq_true rfl, Nat.le_of_ble_eq_true rfl⟩) (fun r_1 hr_1 => ?_)
  subst hr_1
  refine lv_aload_n hx hb dX6_handValue_5 rfl (lv_at hl 0 rfl) ?_
  have hPc := hP.sub (ws' := [(m0, .inr (6, [.ref ms, .ref mf, .ref mw, .ref mk, .int (bI mtold), .ref mh, .int (nI hn), .int mup, .int targ, .int stan, .int soft, .int doub, .int spli, .int giv, .int bon, .long drw, .int mbank, .ref q0, .ref q1, .ref q2, .int mheaps, .ref q3, .ref q4, .ref q5, .ref q6, .ref q7, .int msum, .int (bI hasA), .int mcards, .int mpair, .int shown, .int want, .int mwin, .int (bI isCh), .int mbest, .ref k0, .ref k1, .ref k2, .ref k3])), (mh, .inl (cI, 12, .inl g))]) [0, 1] rfl
  refine vp_callSi (W.runV (As := []) (rest := [.int (hsN (g) hn), .ref m0]) ⟨hx, hb, hml, hown, hts⟩ (c_X6_handAce l D cI cJ cQ m0 ms mf mw mk mtold mh hn mup targ stan soft doub spli giv bon drw mbank q0 q1 q2 mheaps q3 q4 q5 q6 q7 msum hasA mcards mpair shown want mwin isCh mbest k0 k1 k2 k3 (g) hn12) (cwV 0 hts gX6_handValue_X6_handAce rfl rfl rfl (by decide +kernel) ⟨Nat.le_of_ble_eq_true rfl, Nat.le_of_ble_eq_true rfl⟩) (rP_preV (ci := 6) (q0 := 0) hPc hK rfl rfl) rfl rfl hl.1 rfl (lv_room (Nat.le_of_ble_eq_true rfl)) dX6_handValue_6 ⟨Nat.le_of_ble_eq_true rfl, Nat.le_of_ble_eq_true rfl⟩) (fun r_2 hr_2 => ?_)
  subst hr_2
  have hPc := hP.sub (ws' := [(m0, .inr (6, [.ref ms, .ref mf, .ref mw, .ref mk, .int (bI mtold), .ref mh, .int (nI hn), .int mup, .int targ, .int stan, .int soft, .int doub, .int spli, .int giv, .int bon, .long drw, .int mbank, .ref q0, .ref q1, .ref q2, .int mheaps, .ref q3, .ref q4, .ref q5, .ref q6, .ref q7, .int msum, .int (bI hasA), .int mcards, .int mpair, .int shown, .int want, .int mwin, .int (bI isCh), .int mbest, .ref k0, .ref k1, .ref k2, .ref k3]))]) [0] rfl
  refine vp_callSi (W.runV (As := [.int (hsN (g) hn), .int (bI (haN (g) hn))]) (rest := []) ⟨hx, hb, hml, hown, hts⟩ (c_X6_valueOf l D cI cJ cQ m0 ms mf mw mk mtold mh hn mup targ stan soft doub spli giv bon drw mbank q0 q1 q2 mheaps q3 q4 q5 q6 q7 msum hasA mcards mpair shown want mwin isCh mbest k0 k1 k2 k3 (hsN (g) hn) (haN (g) hn)) (cwV 2 hts gX6_handValue_X6_valueOf rfl rfl rfl (by decide +kernel) ⟨Nat.le_of_ble_eq_true rfl, Nat.le_of_ble_eq_true rfl⟩) (rP_preV (ci := 6) (q0 := 0) hPc hK rfl rfl) rfl rfl hl.1 rfl (lv_room (Nat.le_of_ble_eq_true rfl)) dX6_handValue_9 ⟨Nat.le_of_ble_eq_true rfl, Nat.le_of_ble_eq_true rfl⟩) (fun r_3 hr_3 => ?_)
  subst hr_3
  exact W.iret (v := (vlM targ (hsN (g) hn) (haN (g) hn))) hx hb hr (fun t ht hW => ⟨_, rfl, rfl, ht⟩) (fun q hq => absurd hq List.not_mem_nil) dX6_handValue_12

set_option maxRecDepth 20000 in
theorem in_X6_isNatural_X6 : ∀ w ∈ wsX60, w ∈ wsX6_isNatural := by decide +kernel
set_option maxRecDepth 20000 in
theorem wd_X6_isNatural_0 : Cond.fieldLink RX6 98 "ShoeTableModel" "hands" "I" ∈ wsX6_isNatural := by decide +kernel
set_option maxRecDepth 20000 in
theorem wd_X6_isNatural_1 : Cond.fieldLink RX6 25 "ShoeTableModel" "target" "I" ∈ wsX6_isNatural := by decide +kernel
set_option maxHeartbeats 400000 in
set_option maxRecDepth 100000 in
/-- X6_isNatural -/
theorem c_X6_isNatural (l : Launch) (D : va_G) (cI cJ cQ : ClassId) (m0 : Nat) (ms : Nat) (mf : Nat) (mw : Nat) (mk : Nat) (mtold : Bool) (mh : Nat) (hn : Nat) (mup : Int32) (targ : Int32) (stan : Int32) (soft : Int32) (doub : Int32) (spli : Int32) (giv : Int32) (bon : Int32) (drw : Int64) (mbank : Int32) (q0 : Nat) (q1 : Nat) (q2 : Nat) (mheaps : Int32) (q3 : Nat) (q4 : Nat) (q5 : Nat) (q6 : Nat) (q7 : Nat) (msum : Int32) (hasA : Bool) (mcards : Int32) (mpair : Int32) (shown : Int32) (want : Int32) (mwin : Int32) (isCh : Bool) (mbest : Int32) (k0 : Nat) (k1 : Nat) (k2 : Nat) (k3 : Nat) (g : Nat → Int32) (hn12 : hn ≤ 12) : Met l yX6_isNatural wsX6_isNatural ({ frames := 2, cells := 0, slots := 0, locals := 42 }) (va_Pc [.ref m0] (rP D (gTy cI cJ cQ) [(m0, .inr (6, [.ref ms, .ref mf, .ref mw, .ref mk, .int (bI mtold), .ref mh, .int (nI hn), .int mup, .int targ, .int stan, .int soft, .int doub, .int spli, .int giv, .int bon, .long drw, .int mbank, .ref q0, .ref q1, .ref q2, .int mheaps, .ref q3, .ref q4, .ref q5, .ref q6, .ref q7, .int msum, .int (bI hasA), .int mcards, .int mpair, .int shown, .int want, .int mwin, .int (bI isCh), .int mbest, .ref k0, .ref k1, .ref k2, .ref k3])), (mh, .inl (cI, 12, .inl g))])) (vp_Si (fun r => r = bI (naM targ (vlM targ (hsN g hn) (haN g hn)) (nI hn)))) 0 0 (fun _ => False) := by
  refine Met.ofW (cc := cX6_isNatural) (maxL := 1) (ret := (some .boolean)) (by decide) rfl ?_
  intro p e s m args below meth c s₁ B hml hv
  obtain ⟨rfl, hP, hK⟩ := hv
  have hx := B.exec
  have hb := B.bytes
  have hr := B.returns
  have hts := atoms_spec (ws := wsX6_isNatural) B.pre
  have hown : s.vm.findClass RX6 = some m.cls := findClass_of_methodNamed B.named
  have hlocks := B.notSynchronized
  have hl := lv_entry ([.ref m0]) (n := 1) (Nat.le_of_ble_eq_true rfl)
  rw [lg_entry_eq]
  generalize (lg_sl ([.ref m0]) ++ List.replicate (1 - (lg_sl ([.ref m0])).length) Slot.unset).toArray = ls at hl ⊢
  have hl : lv_has ls 1 [(0, .ref m0)] := hl
  refine lv_aload_n hx hb dX6_isNatural_0 rfl (lv_at hl 0 rfl) ?_
  refine va_get (D := D) (ci := 6) (v := .int (nI hn)) (C := RX6) (T := TX6) (N := 39) hx hb hts in_X6_isNatural_X6 hown hK hP 0 rfl rfl 6 (by decide) (hts _ wd_X6_isNatural_0) (fun _ h9 => h9) rfl dX6_isNatural_1 ?_
  refine lv_iconst (v := 2) hx hb dX6_isNatural_4 (by decide) ?_
  refine lv_icmp_ne (tgt := 23) hx hb dX6_isNatural_5 (by decide) (fun c5_1 => ?_) (fun c5_1 => ?_)
  · skip
    refine lv_iconst (v := 0) hx hb dX6_isNatural_23 (by decide) ?_
    exact W.zret (v := 0) hx hb hr rfl (fun t ht hW => ⟨_, rfl, (by unfold naM; simp [c5_1, bI]; done), ht⟩) (fun q hq => absurd hq List.not_mem_nil) dX6_isNatural_24
  · skip
    refine lv_aload_n hx hb dX6_isNatural_8 rfl (lv_at hl 0 rfl) ?_
    have hPc := hP.sub (ws' := [(m0, .inr (6, [.ref ms, .ref mf, .ref mw, .ref mk, .int (bI mtold), .ref mh, .int (nI hn), .int mup, .int targ, .int stan, .int soft, .int doub, .int spli, .int giv, .int bon, .long drw, .int mbank, .ref q0, .ref q1, .ref q2, .int mheaps, .ref q3, .ref q4, .ref q5, .ref q6, .ref q7, .int msum, .int (bI hasA), .int mcards, .int mpair, .int shown, .int want, .int mwin, .int (bI isCh), .int mbest, .ref k0, .ref k1, .ref k2, .ref k3])), (mh, .inl (cI, 12, .inl g))]) [0, 1] rfl
    refine vp_callSi (W.runV (As := []) (rest := []) ⟨hx, hb, hml, hown, hts⟩ (c_X6_handValue l D cI cJ cQ m0 ms mf mw mk mtold mh hn mup targ stan soft doub spli giv bon drw mbank q0 q1 q2 mheaps q3 q4 q5 q6 q7 msum hasA mcards mpair shown want mwin isCh mbest k0 k1 k2 k3 (g) hn12) (cwV 0 hts gX6_isNatural_X6_handValue rfl rfl rfl (by decide +kernel) ⟨Nat.le_of_ble_eq_true rfl, Nat.le_of_ble_eq_true rfl⟩) (rP_preV (ci := 6) (q0 := 0) hPc hK rfl rfl) rfl rfl hl.1 rfl (lv_room (Nat.le_of_ble_eq_true rfl)) dX6_isNatural_9 ⟨Nat.le_of_ble_eq_true rfl, Nat.le_of_ble_eq_true rfl⟩) (fun r_2 hr_2 => ?_)
    subst hr_2
    refine lv_aload_n hx hb dX6_isNatural_12 rfl (lv_at hl 0 rfl) ?_
    refine va_get (D := D) (ci := 6) (v := .int targ) (C := RX6) (T := TX6) (N := 39) hx hb hts in_X6_isNatural_X6 hown hK hP 0 rfl rfl 8 (by decide) (hts _ wd_X6_isNatural_1) (fun _ h9 => h9) rfl dX6_isNatural_13 ?_
    refine lv_icmp_ne (tgt := 23) hx hb dX6_isNatural_16 (by decide) (fun c16_3 => ?_) (fun c16_3 => ?_)
    · skip
      refine lv_iconst (v := 0) hx hb dX6_isNatural_23 (by decide) ?_
      exact W.zret (v := 0) hx hb hr rfl (fun t ht hW => ⟨_, rfl, (by unfold naM; simp [c5_1, c16_3, bI]; done), ht⟩) (fun q hq => absurd hq List.not_mem_nil) dX6_isNatural_24
    · skip
      refine lv_iconst (v := 1) hx hb dX6_isNatural_19 (by decide) ?_
      refine lv_goto (tgt := 24) hx hb dX6_isNatural_20 (by decide) ?_
      exact W.zret (v := 1) hx hb hr rfl (fun t ht hW => ⟨_, rfl, (by unfold naM; simp [c5_1, c16_3, bI]; done), ht⟩) (fun q hq => absurd hq List.not_mem_nil) dX6_isNatural_24

set_option maxRecDepth 20000 in
theorem in_X6_goesOn_X6 : ∀ w ∈ wsX60, w ∈ wsX6_goesOn := by decide +kernel
set_option maxRecDepth 20000 in
theorem wd_X6_goesOn_0 : Cond.fieldLink RX6 29 "ShoeTableModel" "stands" "I" ∈ wsX6_goesOn := by decide +kernel
set_option maxRecDepth 20000 in
theorem wd_X6_goesOn_1 : Cond.fieldLink RX6 118 "ShoeTableModel" "softly" "I" ∈ wsX6_goesOn := by decide +kernel
set_option maxHeartbeats 400000 in
set_option maxRecDepth 100000 in
/-- X6_goesOn -/
theorem c_X6_goesOn (l : Launch) (D : va_G) (cI cJ cQ : ClassId) (m0 : Nat) (ms : Nat) (mf : Nat) (mw : Nat) (mk : Nat) (mtold : Bool) (mh : Nat) (hn : Nat) (mup : Int32) (targ : Int32) (stan : Int32) (soft : Int32) (doub : Int32) (spli : Int32) (giv : Int32) (bon : Int32) (drw : Int64) (mbank : Int32) (q0 : Nat) (q1 : Nat) (q2 : Nat) (mheaps : Int32) (q3 : Nat) (q4 : Nat) (q5 : Nat) (q6 : Nat) (q7 : Nat) (msum : Int32) (hasA : Bool) (mcards : Int32) (mpair : Int32) (shown : Int32) (want : Int32) (mwin : Int32) (isCh : Bool) (mbest : Int32) (k0 : Nat) (k1 : Nat) (k2 : Nat) (k3 : Nat) (p0 : Int32) (p1 : Bool)  : Met l yX6_goesOn wsX6_goesOn ({ frames := 1, cells := 0, slots := 0, locals := 22 }) (va_Pc [.ref m0, .int p0, .int (bI p1)] (rP D (gTy cI cJ cQ) [(m0, .inr (6, [.ref ms, .ref mf, .ref mw, .ref mk, .int (bI mtold), .ref mh, .int (nI hn), .int mup, .int targ, .int stan, .int soft, .int doub, .int spli, .int giv, .int bon, .long drw, .int mbank, .ref q0, .ref q1, .ref q2, .int mheaps, .ref q3, .ref q4, .ref q5, .ref q6, .ref q7, .int msum, .int (bI hasA), .int mcards, .int mpair, .int shown, .int want, .int mwin, .int (bI isCh), .int mbest, .ref k0, .ref k1, .ref k2, .ref k3]))])) (vp_Si (fun r => r = gnM stan soft (vlM targ p0 p1) p0)) 0 0 (fun _ => False) := by
  refine Met.ofW (cc := cX6_goesOn) (maxL := 4) (ret := (some .boolean)) (by decide) rfl ?_
  intro p e s m args below meth c s₁ B hml hv
  obtain ⟨rfl, hP, hK⟩ := hv
  have hx := B.exec
  have hb := B.bytes
  have hr := B.returns
  have hts := atoms_spec (ws := wsX6_goesOn) B.pre
  have hown : s.vm.findClass RX6 = some m.cls := findClass_of_methodNamed B.named
  have hlocks := B.notSynchronized
  have hl := lv_entry ([.ref m0, .int p0, .int (bI p1)]) (n := 4) (Nat.le_of_ble_eq_true rfl)
  rw [lg_entry_eq]
  generalize (lg_sl ([.ref m0, .int p0, .int (bI p1)]) ++ List.replicate (4 - (lg_sl ([.ref m0, .int p0, .int (bI p1)])).length) Slot.unset).toArray = ls at hl ⊢
  have hl : lv_has ls 4 [(0, .ref m0), (1, .int p0), (2, .int (bI p1))] := hl
  refine lv_aload_n hx hb dX6_goesOn_0 rfl (lv_at hl 0 rfl) ?_
  refine lv_iload_n hx hb dX6_goesOn_1 rfl (lv_at hl 1 rfl) ?_
  refine lv_iload_n hx hb dX6_goesOn_2 rfl (lv_at hl 2 rfl) ?_
  have hPc := hP.sub (ws' := [(m0, .inr (6, [.ref ms, .ref mf, .ref mw, .ref mk, .int (bI mtold), .ref mh, .int (nI hn), .int mup, .int targ, .int stan, .int soft, .int doub, .int spli, .int giv, .int bon, .long drw, .int mbank, .ref q0, .ref q1, .ref q2, .int mheaps, .ref q3, .ref q4, .ref q5, .ref q6, .ref q7, .int msum, .int (bI hasA), .int mcards, .int mpair, .int shown, .int want, .int mwin, .int (bI isCh), .int mbest, .ref k0, .ref k1, .ref k2, .ref k3]))]) [0] rfl
  refine vp_callSi (W.runV (As := [.int p0, .int (bI p1)]) (rest := []) ⟨hx, hb, hml, hown, hts⟩ (c_X6_valueOf l D cI cJ cQ m0 ms mf mw mk mtold mh hn mup targ stan soft doub spli giv bon drw mbank q0 q1 q2 mheaps q3 q4 q5 q6 q7 msum hasA mcards mpair shown want mwin isCh mbest k0 k1 k2 k3 p0 p1) (cwV 2 hts gX6_goesOn_X6_valueOf rfl rfl rfl (by decide +kernel) ⟨Nat.le_of_ble_eq_true rfl, Nat.le_of_ble_eq_true rfl⟩) (rP_preV (ci := 6) (q0 := 0) hPc hK rfl rfl) rfl rfl hl.1 rfl (lv_room (Nat.le_of_ble_eq_true rfl)) dX6_goesOn_3 ⟨Nat.le_of_ble_eq_true rfl, Nat.le_of_ble_eq_true rfl⟩) (fun r_1 hr_1 => ?_)
  subst hr_1
  refine lv_istore_n (lv' := [(3, .int (vlM targ p0 p1)), (0, .ref m0), (1, .int p0), (2, .int (bI p1))]) hx hb dX6_goesOn_6 rfl hl (by decide) rfl (fun ls hl => ?_)
  refine lv_iload_n hx hb dX6_goesOn_7 rfl (lv_at hl 0 rfl) ?_
  refine lv_aload_n hx hb dX6_goesOn_8 rfl (lv_at hl 1 rfl) ?_
  refine va_get (D := D) (ci := 6) (v := .int stan) (C := RX6) (T := TX6) (N := 39) hx hb hts in_X6_goesOn_X6 hown hK hP 0 rfl rfl 9 (by decide) (hts _ wd_X6_goesOn_0) (fun _ h9 => h9) rfl dX6_goesOn_9 ?_
  refine lv_icmp_lt (tgt := 36) hx hb dX6_goesOn_12 (by decide) (fun c12_2 => ?_) (fun c12_2 => ?_)
  · skip
    refine lv_iconst (v := 1) hx hb dX6_goesOn_36 (by decide) ?_
    refine lv_goto (tgt := 41) hx hb dX6_goesOn_37 (by decide) ?_
    exact W.zret (v := 1) hx hb hr rfl (fun t ht hW => ⟨_, rfl, (by unfold gnM; first | (simp [c12_2]; done) | ((try first | rw [if_pos c12_2] | rw [if_neg c12_2]); first | done | rfl | trivial)), ht⟩) (fun q hq => absurd hq List.not_mem_nil) dX6_goesOn_41
  · skip
    refine lv_iload_n hx hb dX6_goesOn_15 rfl (lv_at hl 0 rfl) ?_
    refine lv_aload_n hx hb dX6_goesOn_16 rfl (lv_at hl 1 rfl) ?_
    refine va_get (D := D) (ci := 6) (v := .int stan) (C := RX6) (T := TX6) (N := 39) hx hb hts in_X6_goesOn_X6 hown hK hP 0 rfl rfl 9 (by decide) (hts _ wd_X6_goesOn_0) (fun _ h9 => h9) rfl dX6_goesOn_17 ?_
    refine lv_icmp_ne (tgt := 40) hx hb dX6_goesOn_20 (by decide) (fun c20_3 => ?_) (fun c20_3 => ?_)
    · skip
      refine lv_iconst (v := 0) hx hb dX6_goesOn_40 (by decide) ?_
      exact W.zret (v := 0) hx hb hr rfl (fun t ht hW => ⟨_, rfl, (by unfold gnM; first | (simp [c12_2, c20_3]; done) | ((try first | rw [if_pos c12_2] | rw [if_neg c12_2]); (try first | rw [if_pos c20_3] | rw [if_neg c20_3]); first | done | rfl | trivial)), ht⟩) (fun q hq => absurd hq List.not_mem_nil) dX6_goesOn_41
    · skip
      refine lv_iload_n hx hb dX6_goesOn_23 rfl (lv_at hl 0 rfl) ?_
      refine lv_iload_n hx hb dX6_goesOn_24 rfl (lv_at hl 2 rfl) ?_
      refine lv_icmp_le (tgt := 40) hx hb dX6_goesOn_25 (by decide) (fun c25_4 => ?_) (fun c25_4 => ?_)
      · skip
        refine lv_iconst (v := 0) hx hb dX6_goesOn_40 (by decide) ?_
        exact W.zret (v := 0) hx hb hr rfl (fun t ht hW => ⟨_, rfl, (by unfold gnM; first | (simp [c12_2, c20_3, c25_4]; done) | ((try first | rw [if_pos c12_2] | rw [if_neg c12_2]); (try first | rw [if_pos c20_3] | rw [if_neg c20_3]); (try first | rw [if_pos c25_4] | rw [if_neg c25_4]); first | done | rfl | trivial)), ht⟩) (fun q hq => absurd hq List.not_mem_nil) dX6_goesOn_41
      · skip
        refine lv_aload_n hx hb dX6_goesOn_28 rfl (lv_at hl 1 rfl) ?_
        refine va_get (D := D) (ci := 6) (v := .int soft) (C := RX6) (T := TX6) (N := 39) hx hb hts in_X6_goesOn_X6 hown hK hP 0 rfl rfl 10 (by decide) (hts _ wd_X6_goesOn_1) (fun _ h9 => h9) rfl dX6_goesOn_29 ?_
        refine lv_iconst (v := 1) hx hb dX6_goesOn_32 (by decide) ?_
        refine lv_icmp_ne (tgt := 40) hx hb dX6_goesOn_33 (by decide) (fun c33_5 => ?_) (fun c33_5 => ?_)
        · skip
          refine lv_iconst (v := 0) hx hb dX6_goesOn_40 (by decide) ?_
          exact W.zret (v := 0) hx hb hr rfl (fun t ht hW => ⟨_, rfl, (by unfold gnM; first | (simp [c12_2, c20_3, c25_4, c33_5]; done) | ((try first | rw [if_pos c12_2] | rw [if_neg c12_2]); (try first | rw [if_pos c20_3] | rw [if_neg c20_3]); (try first | rw [if_pos c25_4] | rw [if_neg c25_4]); (try first | rw [if_pos c33_5] | rw [if_neg c33_5]); first | done | rfl | trivial)), ht⟩) (fun q hq => absurd hq List.not_mem_nil) dX6_goesOn_41
        · skip
          refine lv_iconst (v := 1) hx hb dX6_goesOn_36 (by decide) ?_
          refine lv_goto (tgt := 41) hx hb dX6_goesOn_37 (by decide) ?_
          exact W.zret (v := 1) hx hb hr rfl (fun t ht hW => ⟨_, rfl, (by unfold gnM; first | (simp [c12_2, c20_3, c25_4, c33_5]; done) | ((try first | rw [if_pos c12_2] | rw [if_neg c12_2]); (try first | rw [if_pos c20_3] | rw [if_neg c20_3]); (try first | rw [if_pos c25_4] | rw [if_neg c25_4]); (try first | rw [if_pos c33_5] | rw [if_neg c33_5]); first | done | rfl | trivial)), ht⟩) (fun q hq => absurd hq List.not_mem_nil) dX6_goesOn_41

set_option maxHeartbeats 400000 in
set_option maxRecDepth 100000 in
/-- X6_settled -/
theorem c_X6_settled (l : Launch) (D : va_G) (cI cJ cQ : ClassId) (m0 : Nat) (ms : Nat) (mf : Nat) (mw : Nat) (mk : Nat) (mtold : Bool) (mh : Nat) (hn : Nat) (mup : Int32) (targ : Int32) (stan : Int32) (soft : Int32) (doub : Int32) (spli : Int32) (giv : Int32) (bon : Int32) (drw : Int64) (mbank : Int32) (q0 : Nat) (q1 : Nat) (q2 : Nat) (mheaps : Int32) (q3 : Nat) (q4 : Nat) (q5 : Nat) (q6 : Nat) (q7 : Nat) (msum : Int32) (hasA : Bool) (mcards : Int32) (mpair : Int32) (shown : Int32) (want : Int32) (mwin : Int32) (isCh : Bool) (mbest : Int32) (k0 : Nat) (k1 : Nat) (k2 : Nat) (k3 : Nat) (p0 : Int32) (p1 : Int32) (p2 : Int32)  : Met l yX6_settled wsX6_settled ({ frames := 0, cells := 0, slots := 0, locals := 0 }) (va_Pc [.ref m0, .int p0, .int p1, .int p2] (rP D (gTy cI cJ cQ) [(m0, .inr (6, [.ref ms, .ref mf, .ref mw, .ref mk, .int (bI mtold), .ref mh, .int (nI hn), .int mup, .int targ, .int stan, .int soft, .int doub, .int spli, .int giv, .int bon, .long drw, .int mbank, .ref q0, .ref q1, .ref q2, .int mheaps, .ref q3, .ref q4, .ref q5, .ref q6, .ref q7, .int msum, .int (bI hasA), .int mcards, .int mpair, .int shown, .int want, .int mwin, .int (bI isCh), .int mbest, .ref k0, .ref k1, .ref k2, .ref k3]))])) (vp_Si (fun r => r = seM p0 p1 p2)) 0 0 (fun _ => False) := by
  refine Met.ofW (cc := cX6_settled) (maxL := 4) (ret := (some .int)) (by decide) rfl ?_
  intro p e s m args below meth c s₁ B hml hv
  obtain ⟨rfl, hP, hK⟩ := hv
  have hx := B.exec
  have hb := B.bytes
  have hr := B.returns
  have hts := atoms_spec (ws := wsX6_settled) B.pre
  have hown : s.vm.findClass RX6 = some m.cls := findClass_of_methodNamed B.named
  have hlocks := B.notSynchronized
  have hl := lv_entry ([.ref m0, .int p0, .int p1, .int p2]) (n := 4) (Nat.le_of_ble_eq_true rfl)
  rw [lg_entry_eq]
  generalize (lg_sl ([.ref m0, .int p0, .int p1, .int p2]) ++ List.replicate (4 - (lg_sl ([.ref m0, .int p0, .int p1, .int p2])).length) Slot.unset).toArray = ls at hl ⊢
  have hl : lv_has ls 4 [(0, .ref m0), (1, .int p0), (2, .int p1), (3, .int p2)] := hl
  refine lv_iload_n hx hb dX6_settled_0 rfl (lv_at hl 2 rfl) ?_
  refine lv_iload_n hx hb dX6_settled_1 rfl (lv_at hl 1 rfl) ?_
  refine lv_icmp_ge (tgt := 9) hx hb dX6_settled_2 (by decide) (fun c2_1 => ?_) (fun c2_1 => ?_)
  · skip
    refine lv_iload_n hx hb dX6_settled_9 rfl (lv_at hl 2 rfl) ?_
    refine lv_iload_n hx hb dX6_settled_10 rfl (lv_at hl 1 rfl) ?_
    refine lv_icmp_le (tgt := 19) hx hb dX6_settled_11 (by decide) (fun c11_2 => ?_) (fun c11_2 => ?_)
    · skip
      refine lv_iconst (v := 0) hx hb dX6_settled_19 (by decide) ?_
      exact W.iret (v := 0) hx hb hr (fun t ht hW => ⟨_, rfl, (by unfold seM; first | (simp [c2_1, c11_2]; done) | ((try first | rw [if_pos c2_1] | rw [if_neg c2_1]); (try first | rw [if_pos c11_2] | rw [if_neg c11_2]); first | done | rfl | trivial)), ht⟩) (fun q hq => absurd hq List.not_mem_nil) dX6_settled_20
    · skip
      refine lv_bipush (v := (-2)) hx hb dX6_settled_14 (by decide) ?_
      refine lv_goto (tgt := 20) hx hb dX6_settled_16 (by decide) ?_
      exact W.iret (v := (-2)) hx hb hr (fun t ht hW => ⟨_, rfl, (by unfold seM; first | (simp [c2_1, c11_2]; done) | ((try first | rw [if_pos c2_1] | rw [if_neg c2_1]); (try first | rw [if_pos c11_2] | rw [if_neg c11_2]); first | done | rfl | trivial)), ht⟩) (fun q hq => absurd hq List.not_mem_nil) dX6_settled_20
  · skip
    refine lv_iload_n hx hb dX6_settled_5 rfl (lv_at hl 3 rfl) ?_
    refine lv_goto (tgt := 20) hx hb dX6_settled_6 (by decide) ?_
    exact W.iret (v := p2) hx hb hr (fun t ht hW => ⟨_, rfl, (by unfold seM; first | (simp [c2_1]; done) | ((try first | rw [if_pos c2_1] | rw [if_neg c2_1]); first | done | rfl | trivial)), ht⟩) (fun q hq => absurd hq List.not_mem_nil) dX6_settled_20

set_option maxRecDepth 20000 in
theorem in_X6_drawn_X6 : ∀ w ∈ wsX60, w ∈ wsX6_drawn := by decide +kernel
set_option maxRecDepth 20000 in
theorem wd_X6_drawn_0 : Cond.fieldLink RX6 7 "ShoeTableModel" "shoe" "[I" ∈ wsX6_drawn := by decide +kernel
set_option maxHeartbeats 400000 in
set_option maxRecDepth 100000 in
theorem lpDr {p : Program} {l : Launch} {e : Env} {R : Room} {s : State} {m : MethodId} {args : Array Value} {below : List Frame} {meth : Method} {c : Code} {Q : State → Prop} {D : va_G} {cI cJ cQ : ClassId} {A : Nat → Prop} {cells slots : Nat} (hx : p.tables.exec = Jvm.exec) (hb : c.code = cX6_drawn) (hml : c.maxLocals = 3) (hown : s.vm.findClass RX6 = some m.cls) (hts : ∀ w ∈ wsX6_drawn, w.before args s = true) (hK : va_K D vwCl (gTy cI cJ cQ) s) (hA : ∀ q : Nat, s.heap.size ≤ q → A q) (m0 : Nat) (ms : Nat) (mf : Nat) (mw : Nat) (mk : Nat) (mtold : Bool) (mh : Nat) (hn : Nat) (mup : Int32) (targ : Int32) (stan : Int32) (soft : Int32) (doub : Int32) (spli : Int32) (giv : Int32) (bon : Int32) (drw : Int64) (mbank : Int32) (q0 : Nat) (q1 : Nat) (q2 : Nat) (mheaps : Int32) (q3 : Nat) (q4 : Nat) (q5 : Nat) (q6 : Nat) (q7 : Nat) (msum : Int32) (hasA : Bool) (mcards : Int32) (mpair : Int32) (shown : Int32) (want : Int32) (mwin : Int32) (isCh : Bool) (mbest : Int32) (k0 : Nat) (k1 : Nat) (k2 : Nat) (k3 : Nat) (f : Nat → Int32) (cc : Nat → Nat) (RR : Nat) (hRf : 0 ≤ R.frames) (hRl : 0 ≤ R.locals) (hRc : cells ≤ R.cells) (hRs : slots ≤ R.slots) (hc : cntI f cc) : ∀ (n9 : Nat) (r : Nat) (q : Nat) (H : Heap) (locs : List Loc) (ls : Array Slot), 10 - r < n9 → (1 ≤ r) → (r ≤ 10) → (q < tlN cc (10 - r) r) → (q ≤ 400) → (rkN cc (10 - r) r q = RR) → va_P D vwCl [(m0, .inr (6, [.ref ms, .ref mf, .ref mw, .ref mk, .int (bI mtold), .ref mh, .int (nI hn), .int mup, .int targ, .int stan, .int soft, .int doub, .int spli, .int giv, .int bon, .long drw, .int mbank, .ref q0, .ref q1, .ref q2, .int mheaps, .ref q3, .ref q4, .ref q5, .ref q6, .ref q7, .int msum, .int (bI hasA), .int mcards, .int mpair, .int shown, .int want, .int mwin, .int (bI isCh), .int mbest, .ref k0, .ref k1, .ref k2, .ref k3])), (ms, .inl (cI, 11, .inl f))] H → va_D A [(m0, .inr (6, [.ref ms, .ref mf, .ref mw, .ref mk, .int (bI mtold), .ref mh, .int (nI hn), .int mup, .int targ, .int stan, .int soft, .int doub, .int spli, .int giv, .int bon, .long drw, .int mbank, .ref q0, .ref q1, .ref q2, .int mheaps, .ref q3, .ref q4, .ref q5, .ref q6, .ref q7, .int msum, .int (bI hasA), .int mcards, .int mpair, .int shown, .int want, .int mwin, .int (bI isCh), .int mbest, .ref k0, .ref k1, .ref k2, .ref k3])), (ms, .inl (cI, 11, .inl f))] → va_S A s.heap H locs → lv_has ls 3 [(2, .int (nI r)), (1, .int (nI q)), (0, .ref m0)] → (∀ (H : Heap) (locs : List Loc) (ls : Array Slot), va_P D vwCl [(m0, .inr (6, [.ref ms, .ref mf, .ref mw, .ref mk, .int (bI mtold), .ref mh, .int (nI hn), .int mup, .int targ, .int stan, .int soft, .int doub, .int spli, .int giv, .int bon, .long drw, .int mbank, .ref q0, .ref q1, .ref q2, .int mheaps, .ref q3, .ref q4, .ref q5, .ref q6, .ref q7, .int msum, .int (bI hasA), .int mcards, .int mpair, .int shown, .int want, .int mwin, .int (bI isCh), .int mbest, .ref k0, .ref k1, .ref k2, .ref k3])), (ms, .inl (cI, 11, .inl f))] H → va_D A [(m0, .inr (6, [.ref ms, .ref mf, .ref mw, .ref mk, .int (bI mtold), .ref mh, .int (nI hn), .int mup, .int targ, .int stan, .int soft, .int doub, .int spli, .int giv, .int bon, .long drw, .int mbank, .ref q0, .ref q1, .ref q2, .int mheaps, .ref q3, .ref q4, .ref q5, .ref q6, .ref q7, .int msum, .int (bI hasA), .int mcards, .int mpair, .int shown, .int want, .int mwin, .int (bI isCh), .int mbest, .ref k0, .ref k1, .ref k2, .ref k3])), (ms, .inl (cI, 11, .inl f))] → va_S A s.heap H locs → lv_has ls 3 [(2, .int (nI RR)), (0, .ref m0)] → W p l e R s m args below meth c H locs cells slots Q (F0 m 58 ls [])) → W p l e R s m args below meth c H locs cells slots Q (F0 m 33 ls []) := by
  intro n9
  induction n9 with
  | zero => intro r q H locs ls hms9; exact absurd hms9 (Nat.not_lt_zero _)
  | succ n9 ih =>
    intro r q H locs ls hms9 r1 r2 hq hq2 hR hP hD hS hl kk0
    refine lv_iload_n hx hb dX6_drawn_33 rfl (lv_at hl 1 rfl) ?_
    refine lv_aload_n hx hb dX6_drawn_34 rfl (lv_at hl 2 rfl) ?_
    refine va_get (D := D) (ci := 6) (v := .ref ms) (C := RX6) (T := TX6) (N := 39) hx hb hts in_X6_drawn_X6 hown hK hP 0 rfl rfl 0 (by decide) (hts _ wd_X6_drawn_0) (fun _ h9 => h9) rfl dX6_drawn_35 ?_
    refine lv_iload_n hx hb dX6_drawn_38 rfl (lv_at hl 0 rfl) ?_
    refine va_iald hx hb hK hP 1 0 rfl rfl (vp_in_nI (by omega) (by decide)) dX6_drawn_39 ?_
    refine lv_topi (fun z_1 ez_1 => ?_)
    obtain rfl : z_1 = (f r) := ez_1.trans (by rw [nI_clamp (by omega)])
    refine lv_topi (fun z_2 ez_2 => ?_)
    obtain rfl : z_2 = nI (cc r) := ez_2.trans (hc r r1 r2).1
    have hcr := (hc r r1 r2).2
    refine lv_icmp_lt (tgt := 58) hx hb dX6_drawn_40 (by decide) (fun c40_3 => ?_) (fun c40_3 => ?_)
    · skip
      have nc40_3 : q < (cc r) := (nI_ltI (a := q) (b := (cc r)) (by omega) (by omega)).mp c40_3
      obtain rfl : r = RR := by rw [← hR]; exact (rkN_at r2 nc40_3).symm
      exact kk0 _ _ _ hP hD hS (lv_sub hl [0, 2] rfl)
    · skip
      have nc40_3 : ¬ (q < (cc r)) := fun z9 => c40_3 ((nI_ltI (a := q) (b := (cc r)) (by omega) (by omega)).mpr z9)
      refine lv_iload_n hx hb dX6_drawn_43 rfl (lv_at hl 1 rfl) ?_
      refine lv_aload_n hx hb dX6_drawn_44 rfl (lv_at hl 2 rfl) ?_
      refine va_get (D := D) (ci := 6) (v := .ref ms) (C := RX6) (T := TX6) (N := 39) hx hb hts in_X6_drawn_X6 hown hK hP 0 rfl rfl 0 (by decide) (hts _ wd_X6_drawn_0) (fun _ h9 => h9) rfl dX6_drawn_45 ?_
      refine lv_iload_n hx hb dX6_drawn_48 rfl (lv_at hl 0 rfl) ?_
      refine va_iald hx hb hK hP 1 0 rfl rfl (vp_in_nI (by omega) (by decide)) dX6_drawn_49 ?_
      refine lv_topi (fun z_4 ez_4 => ?_)
      obtain rfl : z_4 = (f r) := ez_4.trans (by rw [nI_clamp (by omega)])
      refine lv_topi (fun z_5 ez_5 => ?_)
      obtain rfl : z_5 = nI (cc r) := ez_5.trans (hc r r1 r2).1
      have hcr := (hc r r1 r2).2
      refine lv_isub hx hb dX6_drawn_50 ?_
      refine lv_topi (fun z_6 ez_6 => ?_)
      obtain rfl : z_6 = nI (q - (cc r)) := ez_6.trans (nI_subT (by omega))
      refine lv_istore_n (lv' := [(1, .int (nI (q - (cc r)))), (2, .int (nI r)), (0, .ref m0)]) hx hb dX6_drawn_51 rfl hl (by decide) rfl (fun ls hl => ?_)
      have tn := tlN_next r2 hq nc40_3
      refine lv_iinc (v := (nI (r + 1))) (lv' := [(2, .int (nI (r + 1))), (1, .int (nI (q - (cc r)))), (0, .ref m0)]) hx hb dX6_drawn_52 hl (k := 1) rfl (nI_incT (by decide)) (by decide) rfl (fun ls hl => ?_)
      refine lv_goto (tgt := 33) hx hb dX6_drawn_55 (by decide) ?_
      exact ih (r + 1) (q - (cc r)) _ _ _ (by omega) (by omega) (by omega) tn.2 (by omega) (by rw [← rkN_next tn.1 (by assumption)]; exact hR) hP hD hS (lv_sub hl [0, 1, 2] rfl) kk0

set_option maxRecDepth 20000 in
theorem wd_X6_drawn_1 : Cond.fieldLink RX6 44 "ShoeTableModel" "draw" "J" ∈ wsX6_drawn := by decide +kernel
set_option maxRecDepth 20000 in
theorem wd_X6_drawn_2 : Cond.constantLong RX6 129 (6364136223846793005) ∈ wsX6_drawn := by decide +kernel
set_option maxRecDepth 20000 in
theorem wd_X6_drawn_3 : Cond.constantLong RX6 131 (1442695040888963407) ∈ wsX6_drawn := by decide +kernel
set_option maxHeartbeats 400000 in
set_option maxRecDepth 100000 in
/-- X6_drawn -/
theorem c_X6_drawn (l : Launch) (D : va_G) (cI cJ cQ : ClassId) (sz : Nat) (m0 : Nat) (ms : Nat) (mf : Nat) (mw : Nat) (mk : Nat) (mtold : Bool) (mh : Nat) (hn : Nat) (mup : Int32) (targ : Int32) (stan : Int32) (soft : Int32) (doub : Int32) (spli : Int32) (giv : Int32) (bon : Int32) (drw : Int64) (mbank : Int32) (q0 : Nat) (q1 : Nat) (q2 : Nat) (mheaps : Int32) (q3 : Nat) (q4 : Nat) (q5 : Nat) (q6 : Nat) (q7 : Nat) (msum : Int32) (hasA : Bool) (mcards : Int32) (mpair : Int32) (shown : Int32) (want : Int32) (mwin : Int32) (isCh : Bool) (mbest : Int32) (k0 : Nat) (k1 : Nat) (k2 : Nat) (k3 : Nat) (f : Nat → Int32) (cc : Nat → Nat) (hc : cntI f cc) (h0c : 0 < smN cc) : Met l yX6_drawn wsX6_drawn ({ frames := 1, cells := 0, slots := 0, locals := 22 }) (va_Pc [.ref m0] (mP D (gTy cI cJ cQ) [(m0, .inr (6, [.ref ms, .ref mf, .ref mw, .ref mk, .int (bI mtold), .ref mh, .int (nI hn), .int mup, .int targ, .int stan, .int soft, .int doub, .int spli, .int giv, .int bon, .long drw, .int mbank, .ref q0, .ref q1, .ref q2, .int mheaps, .ref q3, .ref q4, .ref q5, .ref q6, .ref q7, .int msum, .int (bI hasA), .int mcards, .int mpair, .int shown, .int want, .int mwin, .int (bI isCh), .int mbest, .ref k0, .ref k1, .ref k2, .ref k3])), (ms, .inl (cI, 11, .inl f))] sz)) (va_Qi (fun (r : Int32) (u : Int64) => match u with | drw2 => r = drR f drw ∧ drw2 = (drw * 6364136223846793005 + 1442695040888963407)) (fun (u : Int64) t => match u with | drw2 => mB D (gTy cI cJ cQ) (va_A [(m0, .inr (6, [.ref ms, .ref mf, .ref mw, .ref mk, .int (bI mtold), .ref mh, .int (nI hn), .int mup, .int targ, .int stan, .int soft, .int doub, .int spli, .int giv, .int bon, .long drw, .int mbank, .ref q0, .ref q1, .ref q2, .int mheaps, .ref q3, .ref q4, .ref q5, .ref q6, .ref q7, .int msum, .int (bI hasA), .int mcards, .int mpair, .int shown, .int want, .int mwin, .int (bI isCh), .int mbest, .ref k0, .ref k1, .ref k2, .ref k3])), (ms, .inl (cI, 11, .inl f))] sz) [(m0, .inr (6, [.ref ms, .ref mf, .ref mw, .ref mk, .int (bI mtold), .ref mh, .int (nI hn), .int mup, .int targ, .int stan, .int soft, .int doub, .int spli, .int giv, .int bon, .long drw2, .int mbank, .ref q0, .ref q1, .ref q2, .int mheaps, .ref q3, .ref q4, .ref q5, .ref q6, .ref q7, .int msum, .int (bI hasA), .int mcards, .int mpair, .int shown, .int want, .int mwin, .int (bI isCh), .int mbest, .ref k0, .ref k1, .ref k2, .ref k3])), (ms, .inl (cI, 11, .inl f))] t) (va_A [(m0, .inr (6, [.ref ms, .ref mf, .ref mw, .ref mk, .int (bI mtold), .ref mh, .int (nI hn), .int mup, .int targ, .int stan, .int soft, .int doub, .int spli, .int giv, .int bon, .long drw, .int mbank, .ref q0, .ref q1, .ref q2, .int mheaps, .ref q3, .ref q4, .ref q5, .ref q6, .ref q7, .int msum, .int (bI hasA), .int mcards, .int mpair, .int shown, .int want, .int mwin, .int (bI isCh), .int mbest, .ref k0, .ref k1, .ref k2, .ref k3])), (ms, .inl (cI, 11, .inl f))] sz)) 0 0 (va_A [(m0, .inr (6, [.ref ms, .ref mf, .ref mw, .ref mk, .int (bI mtold), .ref mh, .int (nI hn), .int mup, .int targ, .int stan, .int soft, .int doub, .int spli, .int giv, .int bon, .long drw, .int mbank, .ref q0, .ref q1, .ref q2, .int mheaps, .ref q3, .ref q4, .ref q5, .ref q6, .ref q7, .int msum, .int (bI hasA), .int mcards, .int mpair, .int shown, .int want, .int mwin, .int (bI isCh), .int mbest, .ref k0, .ref k1, .ref k2, .ref k3])), (ms, .inl (cI, 11, .inl f))] sz) := by
  refine Met.ofW (cc := cX6_drawn) (maxL := 3) (ret := (some .int)) (by decide) rfl ?_
  intro p e s m args below meth c s₁ B hml hv
  obtain ⟨rfl, hsz, hP, hK, hD0⟩ := hv
  have hx := B.exec
  have hb := B.bytes
  have hr := B.returns
  have hts := atoms_spec (ws := wsX6_drawn) B.pre
  have hown : s.vm.findClass RX6 = some m.cls := findClass_of_methodNamed B.named
  have hlocks := B.notSynchronized
  subst hsz
  have hD := hD0.self (sz := s.heap.size)
  generalize hAe : va_A [(m0, .inr (6, [.ref ms, .ref mf, .ref mw, .ref mk, .int (bI mtold), .ref mh, .int (nI hn), .int mup, .int targ, .int stan, .int soft, .int doub, .int spli, .int giv, .int bon, .long drw, .int mbank, .ref q0, .ref q1, .ref q2, .int mheaps, .ref q3, .ref q4, .ref q5, .ref q6, .ref q7, .int msum, .int (bI hasA), .int mcards, .int mpair, .int shown, .int want, .int mwin, .int (bI isCh), .int mbest, .ref k0, .ref k1, .ref k2, .ref k3])), (ms, .inl (cI, 11, .inl f))] s.heap.size = A at hD ⊢
  have hA : ∀ q : Nat, s.heap.size ≤ q → A q := fun q h => by rw [← hAe]; exact Or.inr h
  have hS : va_S A s.heap s.heap [] := va_S.rf
  have hP : va_P D vwCl [(m0, .inr (6, [.ref ms, .ref mf, .ref mw, .ref mk, .int (bI mtold), .ref mh, .int (nI hn), .int mup, .int targ, .int stan, .int soft, .int doub, .int spli, .int giv, .int bon, .long drw, .int mbank, .ref q0, .ref q1, .ref q2, .int mheaps, .ref q3, .ref q4, .ref q5, .ref q6, .ref q7, .int msum, .int (bI hasA), .int mcards, .int mpair, .int shown, .int want, .int mwin, .int (bI isCh), .int mbest, .ref k0, .ref k1, .ref k2, .ref k3])), (ms, .inl (cI, 11, .inl f))] s.heap := hP
  have hl := lv_entry ([.ref m0]) (n := 3) (Nat.le_of_ble_eq_true rfl)
  rw [lg_entry_eq]
  generalize (lg_sl ([.ref m0]) ++ List.replicate (3 - (lg_sl ([.ref m0])).length) Slot.unset).toArray = ls at hl ⊢
  have hl : lv_has ls 3 [(0, .ref m0)] := hl
  refine lv_aload_n hx hb dX6_drawn_0 rfl (lv_at hl 0 rfl) ?_
  refine lv_aload_n hx hb dX6_drawn_1 rfl (lv_at hl 0 rfl) ?_
  refine va_get (D := D) (ci := 6) (v := .long drw) (C := RX6) (T := TX6) (N := 39) hx hb hts in_X6_drawn_X6 hown hK hP 0 rfl rfl 15 (by decide) (hts _ wd_X6_drawn_1) (fun _ h9 => h9) rfl dX6_drawn_2 ?_
  refine lv_ldc2 hx hb hown (hts _ wd_X6_drawn_2) dX6_drawn_5 ?_
  refine lv_lmul hx hb dX6_drawn_8 ?_
  refine lv_ldc2 hx hb hown (hts _ wd_X6_drawn_3) dX6_drawn_9 ?_
  refine lv_ladd hx hb dX6_drawn_12 ?_
  refine va_put (D := D) (ci := 6) (v := .long ((drw * 6364136223846793005) + 1442695040888963407)) (ty := .long) (C := RX6) (T := TX6) (N := 39) hx hb hts in_X6_drawn_X6 tyX6 tyX6_ok nmX6 hown hK hP hD hS 0 rfl rfl 15 (by decide) (hts _ wd_X6_drawn_1) (fun _ h9 => h9) rfl (by decide +kernel) rfl rfl (Nat.le_of_ble_eq_true rfl) dX6_drawn_13 (fun H locs hP hD hS => ?_)
  have hP : va_P D vwCl [(m0, .inr (6, [.ref ms, .ref mf, .ref mw, .ref mk, .int (bI mtold), .ref mh, .int (nI hn), .int mup, .int targ, .int stan, .int soft, .int doub, .int spli, .int giv, .int bon, .long ((drw * 6364136223846793005) + 1442695040888963407), .int mbank, .ref q0, .ref q1, .ref q2, .int mheaps, .ref q3, .ref q4, .ref q5, .ref q6, .ref q7, .int msum, .int (bI hasA), .int mcards, .int mpair, .int shown, .int want, .int mwin, .int (bI isCh), .int mbest, .ref k0, .ref k1, .ref k2, .ref k3])), (ms, .inl (cI, 11, .inl f))] H := hP
  have hD : va_D A [(m0, .inr (6, [.ref ms, .ref mf, .ref mw, .ref mk, .int (bI mtold), .ref mh, .int (nI hn), .int mup, .int targ, .int stan, .int soft, .int doub, .int spli, .int giv, .int bon, .long ((drw * 6364136223846793005) + 1442695040888963407), .int mbank, .ref q0, .ref q1, .ref q2, .int mheaps, .ref q3, .ref q4, .ref q5, .ref q6, .ref q7, .int msum, .int (bI hasA), .int mcards, .int mpair, .int shown, .int want, .int mwin, .int (bI isCh), .int mbest, .ref k0, .ref k1, .ref k2, .ref k3])), (ms, .inl (cI, 11, .inl f))] := hD
  refine lv_aload_n hx hb dX6_drawn_16 rfl (lv_at hl 0 rfl) ?_
  refine va_get (D := D) (ci := 6) (v := .long ((drw * 6364136223846793005) + 1442695040888963407)) (C := RX6) (T := TX6) (N := 39) hx hb hts in_X6_drawn_X6 hown hK hP 0 rfl rfl 15 (by decide) (hts _ wd_X6_drawn_1) (fun _ h9 => h9) rfl dX6_drawn_17 ?_
  refine lv_bipush (v := 33) hx hb dX6_drawn_20 (by decide) ?_
  refine lv_lushr (v := ((((drw * 6364136223846793005) + 1442695040888963407)).toUInt64 >>> ((33 : Int32).toInt64.toUInt64 &&& Int64.toUInt64 63)).toInt64) hx hb dX6_drawn_22 rfl ?_
  refine lv_aload_n hx hb dX6_drawn_23 rfl (lv_at hl 0 rfl) ?_
  have hPc := hP.sub (ws' := [(m0, .inr (6, [.ref ms, .ref mf, .ref mw, .ref mk, .int (bI mtold), .ref mh, .int (nI hn), .int mup, .int targ, .int stan, .int soft, .int doub, .int spli, .int giv, .int bon, .long ((drw * 6364136223846793005) + 1442695040888963407), .int mbank, .ref q0, .ref q1, .ref q2, .int mheaps, .ref q3, .ref q4, .ref q5, .ref q6, .ref q7, .int msum, .int (bI hasA), .int mcards, .int mpair, .int shown, .int want, .int mwin, .int (bI isCh), .int mbest, .ref k0, .ref k1, .ref k2, .ref k3])), (ms, .inl (cI, 11, .inl f))]) [0, 1] rfl
  refine vp_callSi (W.runV (As := []) (rest := [.long (((((drw * 6364136223846793005) + 1442695040888963407)).toUInt64 >>> ((33 : Int32).toInt64.toUInt64 &&& Int64.toUInt64 63)).toInt64)]) ⟨hx, hb, hml, hown, hts⟩ (c_X6_all l D cI cJ cQ m0 ms mf mw mk mtold mh (nI hn) mup targ stan soft doub spli giv bon ((drw * 6364136223846793005) + 1442695040888963407) mbank q0 q1 q2 mheaps q3 q4 q5 q6 q7 msum hasA mcards mpair shown want mwin isCh mbest k0 k1 k2 k3 (f)) (cwV 0 hts gX6_drawn_X6_all rfl rfl rfl (by decide +kernel) ⟨Nat.le_of_ble_eq_true rfl, Nat.le_of_ble_eq_true rfl⟩) (rP_preV (ci := 6) (q0 := 0) hPc hK rfl rfl) rfl rfl hl.1 rfl (lv_room (Nat.le_of_ble_eq_true rfl)) dX6_drawn_24 ⟨Nat.le_of_ble_eq_true rfl, Nat.le_of_ble_eq_true rfl⟩) (fun r_1 hr_1 => ?_)
  subst hr_1
  refine lv_i2l (v := (sm10 (f)).toInt64) hx hb dX6_drawn_27 rfl ?_
  refine lv_lrem hx hb dX6_drawn_28 (tot64 (sm10_gt hc h0c)) ?_
  refine lv_l2i (v := (((((drw * 6364136223846793005) + 1442695040888963407)).toUInt64 >>> ((33 : Int32).toInt64.toUInt64 &&& Int64.toUInt64 63)).toInt64 - ((((drw * 6364136223846793005) + 1442695040888963407)).toUInt64 >>> ((33 : Int32).toInt64.toUInt64 &&& Int64.toUInt64 63)).toInt64 / (sm10 (f)).toInt64 * (sm10 (f)).toInt64).toInt32) hx hb dX6_drawn_29 rfl ?_
  obtain ⟨q, hq, eq1, eq2⟩ := drawM drw hc h0c
  refine lv_topi (fun z ez => ?_)
  obtain rfl : z = nI q := ez.trans eq1
  have hle := smN_le hc
  refine lv_istore_n (lv' := [(1, .int (nI q)), (0, .ref m0)]) hx hb dX6_drawn_30 rfl hl (by decide) rfl (fun ls hl => ?_)
  refine lv_iconst (v := 1) hx hb dX6_drawn_31 (by decide) ?_
  refine lv_istore_n (lv' := [(2, .int 1), (1, .int (nI q)), (0, .ref m0)]) hx hb dX6_drawn_32 rfl hl (by decide) rfl (fun ls hl => ?_)
  refine lpDr hx hb hml hown hts hK hA m0 ms mf mw mk mtold mh hn mup targ stan soft doub spli giv bon (drw * 6364136223846793005 + 1442695040888963407) mbank q0 q1 q2 mheaps q3 q4 q5 q6 q7 msum hasA mcards mpair shown want mwin isCh mbest k0 k1 k2 k3 f cc (rkN cc 9 1 q) (Nat.le_of_ble_eq_true rfl) (Nat.le_of_ble_eq_true rfl) (Nat.zero_le _) (Nat.zero_le _) hc (10 - 1 + 1) 1 q _ _ _ (Nat.lt_succ_self _) (by omega) (by omega) (by rw [tlN_sm]; exact hq) (by omega) rfl hP hD hS (lv_sub hl [0, 1, 2] rfl) (fun H locs ls  hP hD hS hl => ?_)
  have hP : va_P D vwCl [(m0, .inr (6, [.ref ms, .ref mf, .ref mw, .ref mk, .int (bI mtold), .ref mh, .int (nI hn), .int mup, .int targ, .int stan, .int soft, .int doub, .int spli, .int giv, .int bon, .long (drw * 6364136223846793005 + 1442695040888963407), .int mbank, .ref q0, .ref q1, .ref q2, .int mheaps, .ref q3, .ref q4, .ref q5, .ref q6, .ref q7, .int msum, .int (bI hasA), .int mcards, .int mpair, .int shown, .int want, .int mwin, .int (bI isCh), .int mbest, .ref k0, .ref k1, .ref k2, .ref k3])), (ms, .inl (cI, 11, .inl f))] H := hP
  have hD : va_D A [(m0, .inr (6, [.ref ms, .ref mf, .ref mw, .ref mk, .int (bI mtold), .ref mh, .int (nI hn), .int mup, .int targ, .int stan, .int soft, .int doub, .int spli, .int giv, .int bon, .long (drw * 6364136223846793005 + 1442695040888963407), .int mbank, .ref q0, .ref q1, .ref q2, .int mheaps, .ref q3, .ref q4, .ref q5, .ref q6, .ref q7, .int msum, .int (bI hasA), .int mcards, .int mpair, .int shown, .int want, .int mwin, .int (bI isCh), .int mbest, .ref k0, .ref k1, .ref k2, .ref k3])), (ms, .inl (cI, 11, .inl f))] := hD
  refine lv_iload_n hx hb dX6_drawn_58 rfl (lv_at hl 0 rfl) ?_
  have hP9 := hP.sub (ws' := [(m0, .inr (6, [.ref ms, .ref mf, .ref mw, .ref mk, .int (bI mtold), .ref mh, .int (nI hn), .int mup, .int targ, .int stan, .int soft, .int doub, .int spli, .int giv, .int bon, .long (drw * 6364136223846793005 + 1442695040888963407), .int mbank, .ref q0, .ref q1, .ref q2, .int mheaps, .ref q3, .ref q4, .ref q5, .ref q6, .ref q7, .int msum, .int (bI hasA), .int mcards, .int mpair, .int shown, .int want, .int mwin, .int (bI isCh), .int mbest, .ref k0, .ref k1, .ref k2, .ref k3])), (ms, .inl (cI, 11, .inl f))]) [0, 1] rfl
  have hD9 := hD.sub (ws' := [(m0, .inr (6, [.ref ms, .ref mf, .ref mw, .ref mk, .int (bI mtold), .ref mh, .int (nI hn), .int mup, .int targ, .int stan, .int soft, .int doub, .int spli, .int giv, .int bon, .long (drw * 6364136223846793005 + 1442695040888963407), .int mbank, .ref q0, .ref q1, .ref q2, .int mheaps, .ref q3, .ref q4, .ref q5, .ref q6, .ref q7, .int msum, .int (bI hasA), .int mcards, .int mpair, .int shown, .int want, .int mwin, .int (bI isCh), .int mbest, .ref k0, .ref k1, .ref k2, .ref k3])), (ms, .inl (cI, 11, .inl f))]) [0, 1] (by decide) rfl
  exact W.iret (v := (nI (rkN cc 9 1 q))) hx hb hr (fun t ht hW => ⟨⟨(nI (rkN cc 9 1 q)), (drw * 6364136223846793005 + 1442695040888963407), rfl, ⟨eq2.symm, rfl⟩, by rw [ht]; exact hP9, va_K.moved hW.alike hK, hD9⟩, hS.F ht⟩) hS.2.2 dX6_drawn_59
