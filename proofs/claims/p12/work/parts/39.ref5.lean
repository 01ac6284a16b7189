set_option maxHeartbeats 400000 in
set_option maxRecDepth 100000 in
/-- X6_leave -/
theorem c_X6_leaveN (l : Launch) (D : va_G) (cI cJ cQ : ClassId) (sz : Nat) (m0 : Nat) (ms : Nat) (mf : Nat) (mw : Nat) (mk : Nat) (mtold : Bool) (mh : Nat) (hn : Nat) (mup : Int32) (targ : Int32) (stan : Int32) (soft : Int32) (doub : Int32) (spli : Int32) (giv : Int32) (bon : Int32) (drw : Int64) (mbank : Int32) (q0 : Nat) (q1 : Nat) (q2 : Nat) (mheaps : Int32) (q3 : Nat) (q4 : Nat) (q5 : Nat) (q6 : Nat) (q7 : Nat) (msum : Int32) (hasA : Bool) (mcards : Int32) (mpair : Int32) (shown : Int32) (want : Int32) (mwin : Int32) (isCh : Bool) (mbest : Int32) (k0 : Nat) (k1 : Nat) (k2 : Nat) (k3 : Nat) (f : Nat → Int32) (fw : Nat → Int32) (g : Nat → Int32) (p0 : Int32) (p1 : Int32) (hp : vp_in p0 11) (hh : p1 = 0 → hn < 12) : Met l yX6_leave wsX6_leave ({ frames := 0, cells := 0, slots := 0, locals := 0 }) (va_Pc [.ref m0, .int p0, .int p1] (mP D (gTy cI cJ cQ) [(m0, .inr (6, [.ref ms, .ref mf, .ref mw, .ref mk, .int (bI mtold), .ref mh, .int (nI hn), .int mup, .int targ, .int stan, .int soft, .int doub, .int spli, .int giv, .int bon, .long drw, .int mbank, .ref q0, .ref q1, .ref q2, .int mheaps, .ref q3, .ref q4, .ref q5, .ref q6, .ref q7, .int msum, .int (bI hasA), .int mcards, .int mpair, .int shown, .int want, .int mwin, .int (bI isCh), .int mbest, .ref k0, .ref k1, .ref k2, .ref k3])), (ms, .inl (cI, 11, .inl f)), (mw, .inl (cI, 11, .inl fw)), (mh, .inl (cI, 12, .inl g))] sz)) (va_Qv (fun (u : (Nat → Int32) × (Nat → Int32) × (Nat → Int32) × Nat × Int32) => match u with | (f2, fw2, g2, hn2, up2) => f2 = upd f p0.toNatClampNeg (f p0.toNatClampNeg - 1) ∧ fw2 = upd fw p0.toNatClampNeg (fw p0.toNatClampNeg + 1) ∧ if p1 = 0 then hn2 = hn + 1 ∧ g2 = upd g hn p0 ∧ up2 = mup else if p1 = 1 then hn2 = hn ∧ g2 = g ∧ up2 = p0 else hn2 = hn ∧ g2 = g ∧ up2 = mup) (fun (u : (Nat → Int32) × (Nat → Int32) × (Nat → Int32) × Nat × Int32) t => match u with | (f2, fw2, g2, hn2, up2) => mB D (gTy cI cJ cQ) (va_A [(m0, .inr (6, [.ref ms, .ref mf, .ref mw, .ref mk, .int (bI mtold), .ref mh, .int (nI hn), .int mup, .int targ, .int stan, .int soft, .int doub, .int spli, .int giv, .int bon, .long drw, .int mbank, .ref q0, .ref q1, .ref q2, .int mheaps, .ref q3, .ref q4, .ref q5, .ref q6, .ref q7, .int msum, .int (bI hasA), .int mcards, .int mpair, .int shown, .int want, .int mwin, .int (bI isCh), .int mbest, .ref k0, .ref k1, .ref k2, .ref k3])), (ms, .inl (cI, 11, .inl f)), (mw, .inl (cI, 11, .inl fw)), (mh, .inl (cI, 12, .inl g))] sz) [(m0, .inr (6, [.ref ms, .ref mf, .ref mw, .ref mk, .int (bI mtold), .ref mh, .int (nI hn2), .int up2, .int targ, .int stan, .int soft, .int doub, .int spli, .int giv, .int bon, .long drw, .int mbank, .ref q0, .ref q1, .ref q2, .int mheaps, .ref q3, .ref q4, .ref q5, .ref q6, .ref q7, .int msum, .int (bI hasA), .int mcards, .int mpair, .int shown, .int want, .int mwin, .int (bI isCh), .int mbest, .ref k0, .ref k1, .ref k2, .ref k3])), (ms, .inl (cI, 11, .inl f2)), (mw, .inl (cI, 11, .inl fw2)), (mh, .inl (cI, 12, .inl g2))] t) (va_A [(m0, .inr (6, [.ref ms, .ref mf, .ref mw, .ref mk, .int (bI mtold), .ref mh, .int (nI hn), .int mup, .int targ, .int stan, .int soft, .int doub, .int spli, .int giv, .int bon, .long drw, .int mbank, .ref q0, .ref q1, .ref q2, .int mheaps, .ref q3, .ref q4, .ref q5, .ref q6, .ref q7, .int msum, .int (bI hasA), .int mcards, .int mpair, .int shown, .int want, .int mwin, .int (bI isCh), .int mbest, .ref k0, .ref k1, .ref k2, .ref k3])), (ms, .inl (cI, 11, .inl f)), (mw, .inl (cI, 11, .inl fw)), (mh, .inl (cI, 12, .inl g))] sz)) 0 0 (va_A [(m0, .inr (6, [.ref ms, .ref mf, .ref mw, .ref mk, .int (bI mtold), .ref mh, .int (nI hn), .int mup, .int targ, .int stan, .int soft, .int doub, .int spli, .int giv, .int bon, .long drw, .int mbank, .ref q0, .ref q1, .ref q2, .int mheaps, .ref q3, .ref q4, .ref q5, .ref q6, .ref q7, .int msum, .int (bI hasA), .int mcards, .int mpair, .int shown, .int want, .int mwin, .int (bI isCh), .int mbest, .ref k0, .ref k1, .ref k2, .ref k3])), (ms, .inl (cI, 11, .inl f)), (mw, .inl (cI, 11, .inl fw)), (mh, .inl (cI, 12, .inl g))] sz) := by
  refine Met.ofW (cc := cX6_leave) (maxL := 3) (ret := none) (by decide) rfl ?_
  intro p e s m args below meth c s₁ B hml hv
  obtain ⟨rfl, hsz, hP, hK, hD0⟩ := hv
  have hx := B.exec
  have hb := B.bytes
  have hr := B.returns
  have hts := atoms_spec (ws := wsX6_leave) B.pre
  have hown : s.vm.findClass RX6 = some m.cls := findClass_of_methodNamed B.named
  have hlocks := B.notSynchronized
  subst hsz
  have hD := hD0.self (sz := s.heap.size)
  generalize hAe : va_A [(m0, .inr (6, [.ref ms, .ref mf, .ref mw, .ref mk, .int (bI mtold), .ref mh, .int (nI hn), .int mup, .int targ, .int stan, .int soft, .int doub, .int spli, .int giv, .int bon, .long drw, .int mbank, .ref q0, .ref q1, .ref q2, .int mheaps, .ref q3, .ref q4, .ref q5, .ref q6, .ref q7, .int msum, .int (bI hasA), .int mcards, .int mpair, .int shown, .int want, .int mwin, .int (bI isCh), .int mbest, .ref k0, .ref k1, .ref k2, .ref k3])), (ms, .inl (cI, 11, .inl f)), (mw, .inl (cI, 11, .inl fw)), (mh, .inl (cI, 12, .inl g))] s.heap.size = A at hD ⊢
  have hA : ∀ q : Nat, s.heap.size ≤ q → A q := fun q h => by rw [← hAe]; exact Or.inr h
  have hS : va_S A s.heap s.heap [] := va_S.rf
  have hP : va_P D vwCl [(m0, .inr (6, [.ref ms, .ref mf, .ref mw, .ref mk, .int (bI mtold), .ref mh, .int (nI hn), .int mup, .int targ, .int stan, .int soft, .int doub, .int spli, .int giv, .int bon, .long drw, .int mbank, .ref q0, .ref q1, .ref q2, .int mheaps, .ref q3, .ref q4, .ref q5, .ref q6, .ref q7, .int msum, .int (bI hasA), .int mcards, .int mpair, .int shown, .int want, .int mwin, .int (bI isCh), .int mbest, .ref k0, .ref k1, .ref k2, .ref k3])), (ms, .inl (cI, 11, .inl f)), (mw, .inl (cI, 11, .inl fw)), (mh, .inl (cI, 12, .inl g))] s.heap := hP
  have hl := lv_entry ([.ref m0, .int p0, .int p1]) (n := 3) (Nat.le_of_ble_eq_true rfl)
  rw [lg_entry_eq]
  generalize (lg_sl ([.ref m0, .int p0, .int p1]) ++ List.replicate (3 - (lg_sl ([.ref m0, .int p0, .int p1])).length) Slot.unset).toArray = ls at hl ⊢
  have hl : lv_has ls 3 [(0, .ref m0), (1, .int p0), (2, .int p1)] := hl
  refine lv_aload_n hx hb dX6_leave_0 rfl (lv_at hl 0 rfl) ?_
  refine va_get (D := D) (ci := 6) (v := .ref ms) (C := RX6) (T := TX6) (N := 39) hx hb hts in_X6_leave_X6 hown hK hP 0 rfl rfl 0 (by decide) (hts _ wd_X6_leave_0) (fun _ h9 => h9) rfl dX6_leave_1 ?_
  refine lv_iload_n hx hb dX6_leave_4 rfl (lv_at hl 1 rfl) ?_
  refine lv_dup2_11 hx hb dX6_leave_5 rfl rfl ?_
  refine va_iald hx hb hK hP 1 0 rfl rfl hp dX6_leave_6 ?_
  refine lv_iconst (v := 1) hx hb dX6_leave_7 (by decide) ?_
  refine lv_isub hx hb dX6_leave_8 ?_
  refine va_iast hx hb hK hP hD hS 1 0 rfl rfl hp dX6_leave_9 (fun H locs hP hD hS => ?_)
  have hP : va_P D vwCl [(m0, .inr (6, [.ref ms, .ref mf, .ref mw, .ref mk, .int (bI mtold), .ref mh, .int (nI hn), .int mup, .int targ, .int stan, .int soft, .int doub, .int spli, .int giv, .int bon, .long drw, .int mbank, .ref q0, .ref q1, .ref q2, .int mheaps, .ref q3, .ref q4, .ref q5, .ref q6, .ref q7, .int msum, .int (bI hasA), .int mcards, .int mpair, .int shown, .int want, .int mwin, .int (bI isCh), .int mbest, .ref k0, .ref k1, .ref k2, .ref k3])), (ms, .inl (cI, 11, .inl (upd f p0.toNatClampNeg ((f p0.toNatClampNeg) - 1)))), (mw, .inl (cI, 11, .inl fw)), (mh, .inl (cI, 12, .inl g))] H := hP
  have hD : va_D A [(m0, .inr (6, [.ref ms, .ref mf, .ref mw, .ref mk, .int (bI mtold), .ref mh, .int (nI hn), .int mup, .int targ, .int stan, .int soft, .int doub, .int spli, .int giv, .int bon, .long drw, .int mbank, .ref q0, .ref q1, .ref q2, .int mheaps, .ref q3, .ref q4, .ref q5, .ref q6, .ref q7, .int msum, .int (bI hasA), .int mcards, .int mpair, .int shown, .int want, .int mwin, .int (bI isCh), .int mbest, .ref k0, .ref k1, .ref k2, .ref k3])), (ms, .inl (cI, 11, .inl (upd f p0.toNatClampNeg ((f p0.toNatClampNeg) - 1)))), (mw, .inl (cI, 11, .inl fw)), (mh, .inl (cI, 12, .inl g))] := hD
  refine lv_aload_n hx hb dX6_leave_10 rfl (lv_at hl 0 rfl) ?_
  refine va_get (D := D) (ci := 6) (v := .ref mw) (C := RX6) (T := TX6) (N := 39) hx hb hts in_X6_leave_X6 hown hK hP 0 rfl rfl 2 (by decide) (hts _ wd_X6_leave_1) (fun _ h9 => h9) rfl dX6_leave_11 ?_
  refine lv_iload_n hx hb dX6_leave_14 rfl (lv_at hl 1 rfl) ?_
  refine lv_dup2_11 hx hb dX6_leave_15 rfl rfl ?_
  refine va_iald hx hb hK hP 2 0 rfl rfl hp dX6_leave_16 ?_
  refine lv_iconst (v := 1) hx hb dX6_leave_17 (by decide) ?_
  refine lv_iadd hx hb dX6_leave_18 ?_
  refine va_iast hx hb hK hP hD hS 2 0 rfl rfl hp dX6_leave_19 (fun H locs hP hD hS => ?_)
  have hP : va_P D vwCl [(m0, .inr (6, [.ref ms, .ref mf, .ref mw, .ref mk, .int (bI mtold), .ref mh, .int (nI hn), .int mup, .int targ, .int stan, .int soft, .int doub, .int spli, .int giv, .int bon, .long drw, .int mbank, .ref q0, .ref q1, .ref q2, .int mheaps, .ref q3, .ref q4, .ref q5, .ref q6, .ref q7, .int msum, .int (bI hasA), .int mcards, .int mpair, .int shown, .int want, .int mwin, .int (bI isCh), .int mbest, .ref k0, .ref k1, .ref k2, .ref k3])), (ms, .inl (cI, 11, .inl (upd f p0.toNatClampNeg ((f p0.toNatClampNeg) - 1)))), (mw, .inl (cI, 11, .inl (upd fw p0.toNatClampNeg ((fw p0.toNatClampNeg) + 1)))), (mh, .inl (cI, 12, .inl g))] H := hP
  have hD : va_D A [(m0, .inr (6, [.ref ms, .ref mf, .ref mw, .ref mk, .int (bI mtold), .ref mh, .int (nI hn), .int mup, .int targ, .int stan, .int soft, .int doub, .int spli, .int giv, .int bon, .long drw, .int mbank, .ref q0, .ref q1, .ref q2, .int mheaps, .ref q3, .ref q4, .ref q5, .ref q6, .ref q7, .int msum, .int (bI hasA), .int mcards, .int mpair, .int shown, .int want, .int mwin, .int (bI isCh), .int mbest, .ref k0, .ref k1, .ref k2, .ref k3])), (ms, .inl (cI, 11, .inl (upd f p0.toNatClampNeg ((f p0.toNatClampNeg) - 1)))), (mw, .inl (cI, 11, .inl (upd fw p0.toNatClampNeg ((fw p0.toNatClampNeg) + 1)))), (mh, .inl (cI, 12, .inl g))] := hD
  refine lv_iload_n hx hb dX6_leave_20 rfl (lv_at hl 2 rfl) ?_
  refine lv_if_ne (tgt := 47) hx hb dX6_leave_21 (by decide) (fun c21_1 => ?_) (fun c21_1 => ?_)
  · skip
    refine lv_iload_n hx hb dX6_leave_47 rfl (lv_at hl 2 rfl) ?_
    refine lv_iconst (v := 1) hx hb dX6_leave_48 (by decide) ?_
    refine lv_icmp_ne (tgt := 57) hx hb dX6_leave_49 (by decide) (fun c49_2 => ?_) (fun c49_2 => ?_)
    · skip
      have hP9 := hP.sub (ws' := [(m0, .inr (6, [.ref ms, .ref mf, .ref mw, .ref mk, .int (bI mtold), .ref mh, .int (nI hn), .int mup, .int targ, .int stan, .int soft, .int doub, .int spli, .int giv, .int bon, .long drw, .int mbank, .ref q0, .ref q1, .ref q2, .int mheaps, .ref q3, .ref q4, .ref q5, .ref q6, .ref q7, .int msum, .int (bI hasA), .int mcards, .int mpair, .int shown, .int want, .int mwin, .int (bI isCh), .int mbest, .ref k0, .ref k1, .ref k2, .ref k3])), (ms, .inl (cI, 11, .inl (upd f p0.toNatClampNeg ((f p0.toNatClampNeg) - 1)))), (mw, .inl (cI, 11, .inl (upd fw p0.toNatClampNeg ((fw p0.toNatClampNeg) + 1)))), (mh, .inl (cI, 12, .inl g))]) [0, 1, 2, 3] rfl
      have hD9 := hD.sub (ws' := [(m0, .inr (6, [.ref ms, .ref mf, .ref mw, .ref mk, .int (bI mtold), .ref mh, .int (nI hn), .int mup, .int targ, .int stan, .int soft, .int doub, .int spli, .int giv, .int bon, .long drw, .int mbank, .ref q0, .ref q1, .ref q2, .int mheaps, .ref q3, .ref q4, .ref q5, .ref q6, .ref q7, .int msum, .int (bI hasA), .int mcards, .int mpair, .int shown, .int want, .int mwin, .int (bI isCh), .int mbest, .ref k0, .ref k1, .ref k2, .ref k3])), (ms, .inl (cI, 11, .inl (upd f p0.toNatClampNeg ((f p0.toNatClampNeg) - 1)))), (mw, .inl (cI, 11, .inl (upd fw p0.toNatClampNeg ((fw p0.toNatClampNeg) + 1)))), (mh, .inl (cI, 12, .inl g))]) [0, 1, 2, 3] (by decide) rfl
      exact W.vret hx hb hr (fun t ht hW => ⟨⟨((upd f p0.toNatClampNeg ((f p0.toNatClampNeg) - 1)), (upd fw p0.toNatClampNeg ((fw p0.toNatClampNeg) + 1)), (g), hn, mup), rfl, (by refine ⟨rfl, rfl, ?_⟩; (try dsimp only); (first | rw [if_pos c21_1] | rw [if_neg c21_1]); (first | rw [if_pos c49_2] | rw [if_neg c49_2]); exact ⟨rfl, rfl, rfl⟩), by rw [ht]; exact hP9, va_K.moved hW.alike hK, hD9⟩, hS.F ht⟩) hS.2.2 dX6_leave_57
    · skip
      refine lv_aload_n hx hb dX6_leave_52 rfl (lv_at hl 0 rfl) ?_
      refine lv_iload_n hx hb dX6_leave_53 rfl (lv_at hl 1 rfl) ?_
      refine va_put (D := D) (ci := 6) (v := .int p0) (ty := .int) (C := RX6) (T := TX6) (N := 39) hx hb hts in_X6_leave_X6 tyX6 tyX6_ok nmX6 hown hK hP hD hS 0 rfl rfl 7 (by decide) (hts _ wd_X6_leave_2) (fun _ h9 => h9) rfl (by decide +kernel) rfl rfl (Nat.le_of_ble_eq_true rfl) dX6_leave_54 (fun H locs hP hD hS => ?_)
      have hP : va_P D vwCl [(m0, .inr (6, [.ref ms, .ref mf, .ref mw, .ref mk, .int (bI mtold), .ref mh, .int (nI hn), .int p0, .int targ, .int stan, .int soft, .int doub, .int spli, .int giv, .int bon, .long drw, .int mbank, .ref q0, .ref q1, .ref q2, .int mheaps, .ref q3, .ref q4, .ref q5, .ref q6, .ref q7, .int msum, .int (bI hasA), .int mcards, .int mpair, .int shown, .int want, .int mwin, .int (bI isCh), .int mbest, .ref k0, .ref k1, .ref k2, .ref k3])), (ms, .inl (cI, 11, .inl (upd f p0.toNatClampNeg ((f p0.toNatClampNeg) - 1)))), (mw, .inl (cI, 11, .inl (upd fw p0.toNatClampNeg ((fw p0.toNatClampNeg) + 1)))), (mh, .inl (cI, 12, .inl g))] H := hP
      have hD : va_D A [(m0, .inr (6, [.ref ms, .ref mf, .ref mw, .ref mk, .int (bI mtold), .ref mh, .int (nI hn), .int p0, .int targ, .int stan, .int soft, .int doub, .int spli, .int giv, .int bon, .long drw, .int mbank, .ref q0, .ref q1, .ref q2, .int mheaps, .ref q3, .ref q4, .ref q5, .ref q6, .ref q7, .int msum, .int (bI hasA), .int mcards, .int mpair, .int shown, .int want, .int mwin, .int (bI isCh), .int mbest, .ref k0, .ref k1, .ref k2, .ref k3])), (ms, .inl (cI, 11, .inl (upd f p0.toNatClampNeg ((f p0.toNatClampNeg) - 1)))), (mw, .inl (cI, 11, .inl (upd fw p0.toNatClampNeg ((fw p0.toNatClampNeg) + 1)))), (mh, .inl (cI, 12, .inl g))] := hD
      have hP9 := hP.sub (ws' := [(m0, .inr (6, [.ref ms, .ref mf, .ref mw, .ref mk, .int (bI mtold), .ref mh, .int (nI hn), .int p0, .int targ, .int stan, .int soft, .int doub, .int spli, .int giv, .int bon, .long drw, .int mbank, .ref q0, .ref q1, .ref q2, .int mheaps, .ref q3, .ref q4, .ref q5, .ref q6, .ref q7, .int msum, .int (bI hasA), .int mcards, .int mpair, .int shown, .int want, .int mwin, .int (bI isCh), .int mbest, .ref k0, .ref k1, .ref k2, .ref k3])), (ms, .inl (cI, 11, .inl (upd f p0.toNatClampNeg ((f p0.toNatClampNeg) - 1)))), (mw, .inl (cI, 11, .inl (upd fw p0.toNatClampNeg ((fw p0.toNatClampNeg) + 1)))), (mh, .inl (cI, 12, .inl g))]) [0, 1, 2, 3] rfl
      have hD9 := hD.sub (ws' := [(m0, .inr (6, [.ref ms, .ref mf, .ref mw, .ref mk, .int (bI mtold), .ref mh, .int (nI hn), .int p0, .int targ, .int stan, .int soft, .int doub, .int spli, .int giv, .int bon, .long drw, .int mbank, .ref q0, .ref q1, .ref q2, .int mheaps, .ref q3, .ref q4, .ref q5, .ref q6, .ref q7, .int msum, .int (bI hasA), .int mcards, .int mpair, .int shown, .int want, .int mwin, .int (bI isCh), .int mbest, .ref k0, .ref k1, .ref k2, .ref k3])), (ms, .inl (cI, 11, .inl (upd f p0.toNatClampNeg ((f p0.toNatClampNeg) - 1)))), (mw, .inl (cI, 11, .inl (upd fw p0.toNatClampNeg ((fw p0.toNatClampNeg) + 1)))), (mh, .inl (cI, 12, .inl g))]) [0, 1, 2, 3] (by decide) rfl
      exact W.vret hx hb hr (fun t ht hW => ⟨⟨((upd f p0.toNatClampNeg ((f p0.toNatClampNeg) - 1)), (upd fw p0.toNatClampNeg ((fw p0.toNatClampNeg) + 1)), (g), hn, p0), rfl, (by refine ⟨rfl, rfl, ?_⟩; (try dsimp only); (first | rw [if_pos c21_1] | rw [if_neg c21_1]); (first | rw [if_pos c49_2] | rw [if_neg c49_2]); exact ⟨rfl, rfl, rfl⟩), by rw [ht]; exact hP9, va_K.moved hW.alike hK, hD9⟩, hS.F ht⟩) hS.2.2 dX6_leave_57
  · skip
    refine lv_aload_n hx hb dX6_leave_24 rfl (lv_at hl 0 rfl) ?_
    refine va_get (D := D) (ci := 6) (v := .ref mh) (C := RX6) (T := TX6) (N := 39) hx hb hts in_X6_leave_X6 hown hK hP 0 rfl rfl 5 (by decide) (hts _ wd_X6_leave_3) (fun _ h9 => h9) rfl dX6_leave_25 ?_
    refine lv_aload_n hx hb dX6_leave_28 rfl (lv_at hl 0 rfl) ?_
    refine va_get (D := D) (ci := 6) (v := .int (nI hn)) (C := RX6) (T := TX6) (N := 39) hx hb hts in_X6_leave_X6 hown hK hP 0 rfl rfl 6 (by decide) (hts _ wd_X6_leave_4) (fun _ h9 => h9) rfl dX6_leave_29 ?_
    refine lv_iload_n hx hb dX6_leave_32 rfl (lv_at hl 1 rfl) ?_
    refine va_iast hx hb hK hP hD hS 3 0 rfl rfl (vp_in_nI (hh c21_1) (by decide)) dX6_leave_33 (fun H locs hP hD hS => ?_)
    have e9 : (upd g (nI hn).toNatClampNeg p0) = upd g hn p0 := by rw [nI_clamp (show hn < 2 ^ 31 by have q9 := hh (by assumption); omega)]
    have hP : va_P D vwCl [(m0, .inr (6, [.ref ms, .ref mf, .ref mw, .ref mk, .int (bI mtold), .ref mh, .int (nI hn), .int mup, .int targ, .int stan, .int soft, .int doub, .int spli, .int giv, .int bon, .long drw, .int mbank, .ref q0, .ref q1, .ref q2, .int mheaps, .ref q3, .ref q4, .ref q5, .ref q6, .ref q7, .int msum, .int (bI hasA), .int mcards, .int mpair, .int shown, .int want, .int mwin, .int (bI isCh), .int mbest, .ref k0, .ref k1, .ref k2, .ref k3])), (ms, .inl (cI, 11, .inl (upd f p0.toNatClampNeg ((f p0.toNatClampNeg) - 1)))), (mw, .inl (cI, 11, .inl (upd fw p0.toNatClampNeg ((fw p0.toNatClampNeg) + 1)))), (mh, .inl (cI, 12, .inl (upd g hn p0)))] H := by rw [← e9]; exact hP
    have hD : va_D A [(m0, .inr (6, [.ref ms, .ref mf, .ref mw, .ref mk, .int (bI mtold), .ref mh, .int (nI hn), .int mup, .int targ, .int stan, .int soft, .int doub, .int spli, .int giv, .int bon, .long drw, .int mbank, .ref q0, .ref q1, .ref q2, .int mheaps, .ref q3, .ref q4, .ref q5, .ref q6, .ref q7, .int msum, .int (bI hasA), .int mcards, .int mpair, .int shown, .int want, .int mwin, .int (bI isCh), .int mbest, .ref k0, .ref k1, .ref k2, .ref k3])), (ms, .inl (cI, 11, .inl (upd f p0.toNatClampNeg ((f p0.toNatClampNeg) - 1)))), (mw, .inl (cI, 11, .inl (upd fw p0.toNatClampNeg ((fw p0.toNatClampNeg) + 1)))), (mh, .inl (cI, 12, .inl (upd g hn p0)))] := by rw [← e9]; exact hD
    clear e9
    refine lv_aload_n hx hb dX6_leave_34 rfl (lv_at hl 0 rfl) ?_
    refine lv_dup hx hb dX6_leave_35 rfl ?_
    refine va_get (D := D) (ci := 6) (v := .int (nI hn)) (C := RX6) (T := TX6) (N := 39) hx hb hts in_X6_leave_X6 hown hK hP 0 rfl rfl 6 (by decide) (hts _ wd_X6_leave_4) (fun _ h9 => h9) rfl dX6_leave_36 ?_
    refine lv_iconst (v := 1) hx hb dX6_leave_39 (by decide) ?_
    refine lv_iadd hx hb dX6_leave_40 ?_
    refine lv_topi (fun z_3 ez_3 => ?_)
    obtain rfl : z_3 = nI (hn + 1) := ez_3.trans (nI_add _ _)
    refine va_put (D := D) (ci := 6) (v := .int (nI (hn + 1))) (ty := .int) (C := RX6) (T := TX6) (N := 39) hx hb hts in_X6_leave_X6 tyX6 tyX6_ok nmX6 hown hK hP hD hS 0 rfl rfl 6 (by decide) (hts _ wd_X6_leave_4) (fun _ h9 => h9) rfl (by decide +kernel) rfl rfl (Nat.le_of_ble_eq_true rfl) dX6_leave_41 (fun H locs hP hD hS => ?_)
    have hP : va_P D vwCl [(m0, .inr (6, [.ref ms, .ref mf, .ref mw, .ref mk, .int (bI mtold), .ref mh, .int (nI (hn + 1)), .int mup, .int targ, .int stan, .int soft, .int doub, .int spli, .int giv, .int bon, .long drw, .int mbank, .ref q0, .ref q1, .ref q2, .int mheaps, .ref q3, .ref q4, .ref q5, .ref q6, .ref q7, .int msum, .int (bI hasA), .int mcards, .int mpair, .int shown, .int want, .int mwin, .int (bI isCh), .int mbest, .ref k0, .ref k1, .ref k2, .ref k3])), (ms, .inl (cI, 11, .inl (upd f p0.toNatClampNeg ((f p0.toNatClampNeg) - 1)))), (mw, .inl (cI, 11, .inl (upd fw p0.toNatClampNeg ((fw p0.toNatClampNeg) + 1)))), (mh, .inl (cI, 12, .inl (upd g hn p0)))] H := hP
    have hD : va_D A [(m0, .inr (6, [.ref ms, .ref mf, .ref mw, .ref mk, .int (bI mtold), .ref mh, .int (nI (hn + 1)), .int mup, .int targ, .int stan, .int soft, .int doub, .int spli, .int giv, .int bon, .long drw, .int mbank, .ref q0, .ref q1, .ref q2, .int mheaps, .ref q3, .ref q4, .ref q5, .ref q6, .ref q7, .int msum, .int (bI hasA), .int mcards, .int mpair, .int shown, .int want, .int mwin, .int (bI isCh), .int mbest, .ref k0, .ref k1, .ref k2, .ref k3])), (ms, .inl (cI, 11, .inl (upd f p0.toNatClampNeg ((f p0.toNatClampNeg) - 1)))), (mw, .inl (cI, 11, .inl (upd fw p0.toNatClampNeg ((fw p0.toNatClampNeg) + 1)))), (mh, .inl (cI, 12, .inl (upd g hn p0)))] := hD
    refine lv_goto (tgt := 57) hx hb dX6_leave_44 (by decide) ?_
    have hP9 := hP.sub (ws' := [(m0, .inr (6, [.ref ms, .ref mf, .ref mw, .ref mk, .int (bI mtold), .ref mh, .int (nI (hn + 1)), .int mup, .int targ, .int stan, .int soft, .int doub, .int spli, .int giv, .int bon, .long drw, .int mbank, .ref q0, .ref q1, .ref q2, .int mheaps, .ref q3, .ref q4, .ref q5, .ref q6, .ref q7, .int msum, .int (bI hasA), .int mcards, .int mpair, .int shown, .int want, .int mwin, .int (bI isCh), .int mbest, .ref k0, .ref k1, .ref k2, .ref k3])), (ms, .inl (cI, 11, .inl (upd f p0.toNatClampNeg ((f p0.toNatClampNeg) - 1)))), (mw, .inl (cI, 11, .inl (upd fw p0.toNatClampNeg ((fw p0.toNatClampNeg) + 1)))), (mh, .inl (cI, 12, .inl (upd g hn p0)))]) [0, 1, 2, 3] rfl
    have hD9 := hD.sub (ws' := [(m0, .inr (6, [.ref ms, .ref mf, .ref mw, .ref mk, .int (bI mtold), .ref mh, .int (nI (hn + 1)), .int mup, .int targ, .int stan, .int soft, .int doub, .int spli, .int giv, .int bon, .long drw, .int mbank, .ref q0, .ref q1, .ref q2, .int mheaps, .ref q3, .ref q4, .ref q5, .ref q6, .ref q7, .int msum, .int (bI hasA), .int mcards, .int mpair, .int shown, .int want, .int mwin, .int (bI isCh), .int mbest, .ref k0, .ref k1, .ref k2, .ref k3])), (ms, .inl (cI, 11, .inl (upd f p0.toNatClampNeg ((f p0.toNatClampNeg) - 1)))), (mw, .inl (cI, 11, .inl (upd fw p0.toNatClampNeg ((fw p0.toNatClampNeg) + 1)))), (mh, .inl (cI, 12, .inl (upd g hn p0)))]) [0, 1, 2, 3] (by decide) rfl
    exact W.vret hx hb hr (fun t ht hW => ⟨⟨((upd f p0.toNatClampNeg ((f p0.toNatClampNeg) - 1)), (upd fw p0.toNatClampNeg ((fw p0.toNatClampNeg) + 1)), (upd g hn p0), (hn + 1), mup), rfl, (by refine ⟨rfl, rfl, ?_⟩; (try dsimp only); (first | rw [if_pos c21_1] | rw [if_neg c21_1]); exact ⟨rfl, rfl, rfl⟩), by rw [ht]; exact hP9, va_K.moved hW.alike hK, hD9⟩, hS.F ht⟩) hS.2.2 dX6_leave_57

set_option maxRecDepth 20000 in
theorem wd_X6_take_0 : Cond.constantLong RX6 86 (10) ∈ wsX6_take := by decide +kernel
set_option maxRecDepth 20000 in
theorem wd_X6_take_1 : Cond.constantLong RX6 112 (2) ∈ wsX6_take := by decide +kernel
set_option maxRecDepth 20000 in
theorem in_X6_take_X6 : ∀ w ∈ wsX60, w ∈ wsX6_take := by decide +kernel
set_option maxRecDepth 20000 in
theorem wd_X6_take_2 : Cond.fieldLink RX6 7 "ShoeTableModel" "shoe" "[I" ∈ wsX6_take := by decide +kernel
set_option maxRecDepth 20000 in
theorem wd_X6_take_3 : Cond.fieldLink RX6 98 "ShoeTableModel" "hands" "I" ∈ wsX6_take := by decide +kernel
set_option maxHeartbeats 400000 in
set_option maxRecDepth 100000 in
/-- X6_take -/
theorem c_X6_take (l : Launch) (D : va_G) (cI cJ cQ : ClassId) (sz : Nat) (m0 : Nat) (ms : Nat) (mf : Nat) (mw : Nat) (mk : Nat) (mtold : Bool) (mh : Nat) (hn : Nat) (mup : Int32) (targ : Int32) (stan : Int32) (soft : Int32) (doub : Int32) (spli : Int32) (giv : Int32) (bon : Int32) (drw : Int64) (mbank : Int32) (q0 : Nat) (q1 : Nat) (q2 : Nat) (mheaps : Int32) (q3 : Nat) (q4 : Nat) (q5 : Nat) (q6 : Nat) (q7 : Nat) (msum : Int32) (hasA : Bool) (mcards : Int32) (mpair : Int32) (shown : Int32) (want : Int32) (mwin : Int32) (isCh : Bool) (mbest : Int32) (k0 : Nat) (k1 : Nat) (k2 : Nat) (k3 : Nat) (f : Nat → Int32) (fw : Nat → Int32) (g : Nat → Int32) (p0 : Int32) (p1 : Int32) (hn12 : hn ≤ 12) : Met l yX6_take wsX6_take ({ frames := 1, cells := 0, slots := 0, locals := 25 }) (va_Pc [.ref m0, .int p0, .int p1] (mP D (gTy cI cJ cQ) [(m0, .inr (6, [.ref ms, .ref mf, .ref mw, .ref mk, .int (bI mtold), .ref mh, .int (nI hn), .int mup, .int targ, .int stan, .int soft, .int doub, .int spli, .int giv, .int bon, .long drw, .int mbank, .ref q0, .ref q1, .ref q2, .int mheaps, .ref q3, .ref q4, .ref q5, .ref q6, .ref q7, .int msum, .int (bI hasA), .int mcards, .int mpair, .int shown, .int want, .int mwin, .int (bI isCh), .int mbest, .ref k0, .ref k1, .ref k2, .ref k3])), (ms, .inl (cI, 11, .inl f)), (mw, .inl (cI, 11, .inl fw)), (mh, .inl (cI, 12, .inl g))] sz)) (va_Qi (fun (r : Int32) (u : (Nat → Int32) × (Nat → Int32) × (Nat → Int32) × Nat × Int32) => match u with | (f2, fw2, g2, hn2, up2) => if inB p0.toInt64 1 10 = 0 then r = -1001 ∧ f2 = f ∧ fw2 = fw ∧ g2 = g ∧ hn2 = hn ∧ up2 = mup else if inB p1.toInt64 0 2 = 0 then r = -1001 ∧ f2 = f ∧ fw2 = fw ∧ g2 = g ∧ hn2 = hn ∧ up2 = mup else if f p0.toNatClampNeg = 0 then r = -1002 ∧ f2 = f ∧ fw2 = fw ∧ g2 = g ∧ hn2 = hn ∧ up2 = mup else if p1 = 0 ∧ hn = 12 then r = -1003 ∧ f2 = f ∧ fw2 = fw ∧ g2 = g ∧ hn2 = hn ∧ up2 = mup else r = nI hn2 ∧ f2 = upd f p0.toNatClampNeg (f p0.toNatClampNeg - 1) ∧ fw2 = upd fw p0.toNatClampNeg (fw p0.toNatClampNeg + 1) ∧ if p1 = 0 then hn2 = hn + 1 ∧ g2 = upd g hn p0 ∧ up2 = mup else if p1 = 1 then hn2 = hn ∧ g2 = g ∧ up2 = p0 else hn2 = hn ∧ g2 = g ∧ up2 = mup) (fun (u : (Nat → Int32) × (Nat → Int32) × (Nat → Int32) × Nat × Int32) t => match u with | (f2, fw2, g2, hn2, up2) => mB D (gTy cI cJ cQ) (va_A [(m0, .inr (6, [.ref ms, .ref mf, .ref mw, .ref mk, .int (bI mtold), .ref mh, .int (nI hn), .int mup, .int targ, .int stan, .int soft, .int doub, .int spli, .int giv, .int bon, .long drw, .int mbank, .ref q0, .ref q1, .ref q2, .int mheaps, .ref q3, .ref q4, .ref q5, .ref q6, .ref q7, .int msum, .int (bI hasA), .int mcards, .int mpair, .int shown, .int want, .int mwin, .int (bI isCh), .int mbest, .ref k0, .ref k1, .ref k2, .ref k3])), (ms, .inl (cI, 11, .inl f)), (mw, .inl (cI, 11, .inl fw)), (mh, .inl (cI, 12, .inl g))] sz) [(m0, .inr (6, [.ref ms, .ref mf, .ref mw, .ref mk, .int (bI mtold), .ref mh, .int (nI hn2), .int up2, .int targ, .int stan, .int soft, .int doub, .int spli, .int giv, .int bon, .long drw, .int mbank, .ref q0, .ref q1, .ref q2, .int mheaps, .ref q3, .ref q4, .ref q5, .ref q6, .ref q7, .int msum, .int (bI hasA), .int mcards, .int mpair, .int shown, .int want, .int mwin, .int (bI isCh), .int mbest, .ref k0, .ref k1, .ref k2, .ref k3])), (ms, .inl (cI, 11, .inl f2)), (mw, .inl (cI, 11, .inl fw2)), (mh, .inl (cI, 12, .inl g2))] t) (va_A [(m0, .inr (6, [.ref ms, .ref mf, .ref mw, .ref mk, .int (bI mtold), .ref mh, .int (nI hn), .int mup, .int targ, .int stan, .int soft, .int doub, .int spli, .int giv, .int bon, .long drw, .int mbank, .ref q0, .ref q1, .ref q2, .int mheaps, .ref q3, .ref q4, .ref q5, .ref q6, .ref q7, .int msum, .int (bI hasA), .int mcards, .int mpair, .int shown, .int want, .int mwin, .int (bI isCh), .int mbest, .ref k0, .ref k1, .ref k2, .ref k3])), (ms, .inl (cI, 11, .inl f)), (mw, .inl (cI, 11, .inl fw)), (mh, .inl (cI, 12, .inl g))] sz)) 0 0 (va_A [(m0, .inr (6, [.ref ms, .ref mf, .ref mw, .ref mk, .int (bI mtold), .ref mh, .int (nI hn), .int mup, .int targ, .int stan, .int soft, .int doub, .int spli, .int giv, .int bon, .long drw, .int mbank, .ref q0, .ref q1, .ref q2, .int mheaps, .ref q3, .ref q4, .ref q5, .ref q6, .ref q7, .int msum, .int (bI hasA), .int mcards, .int mpair, .int shown, .int want, .int mwin, .int (bI isCh), .int mbest, .ref k0, .ref k1, .ref k2, .ref k3])), (ms, .inl (cI, 11, .inl f)), (mw, .inl (cI, 11, .inl fw)), (mh, .inl (cI, 12, .inl g))] sz) := by
  refine Met.ofW (cc := cX6_take) (maxL := 3) (ret := (some .int)) (by decide) rfl ?_
  intro p e s m args below meth c s₁ B hml hv
  obtain ⟨rfl, hsz, hP, hK, hD0⟩ := hv
  have hx := B.exec
  have hb := B.bytes
  have hr := B.returns
  have hts := atoms_spec (ws := wsX6_take) B.pre
  have hown : s.vm.findClass RX6 = some m.cls := findClass_of_methodNamed B.named
  have hlocks := B.notSynchronized
  subst hsz
  have hD := hD0.self (sz := s.heap.size)
  generalize hAe : va_A [(m0, .inr (6, [.ref ms, .ref mf, .ref mw, .ref mk, .int (bI mtold), .ref mh, .int (nI hn), .int mup, .int targ, .int stan, .int soft, .int doub, .int spli, .int giv, .int bon, .long drw, .int mbank, .ref q0, .ref q1, .ref q2, .int mheaps, .ref q3, .ref q4, .ref q5, .ref q6, .ref q7, .int msum, .int (bI hasA), .int mcards, .int mpair, .int shown, .int want, .int mwin, .int (bI isCh), .int mbest, .ref k0, .ref k1, .ref k2, .ref k3])), (ms, .inl (cI, 11, .inl f)), (mw, .inl (cI, 11, .inl fw)), (mh, .inl (cI, 12, .inl g))] s.heap.size = A at hD ⊢
  have hA : ∀ q : Nat, s.heap.size ≤ q → A q := fun q h => by rw [← hAe]; exact Or.inr h
  have hS : va_S A s.heap s.heap [] := va_S.rf
  have hP : va_P D vwCl [(m0, .inr (6, [.ref ms, .ref mf, .ref mw, .ref mk, .int (bI mtold), .ref mh, .int (nI hn), .int mup, .int targ, .int stan, .int soft, .int doub, .int spli, .int giv, .int bon, .long drw, .int mbank, .ref q0, .ref q1, .ref q2, .int mheaps, .ref q3, .ref q4, .ref q5, .ref q6, .ref q7, .int msum, .int (bI hasA), .int mcards, .int mpair, .int shown, .int want, .int mwin, .int (bI isCh), .int mbest, .ref k0, .ref k1, .ref k2, .ref k3])), (ms, .inl (cI, 11, .inl f)), (mw, .inl (cI, 11, .inl fw)), (mh, .inl (cI, 12, .inl g))] s.heap := hP
  have hl := lv_entry ([.ref m0, .int p0, .int p1]) (n := 3) (Nat.le_of_ble_eq_true rfl)
  rw [lg_entry_eq]
  generalize (lg_sl ([.ref m0, .int p0, .int p1]) ++ List.replicate (3 - (lg_sl ([.ref m0, .int p0, .int p1])).length) Slot.unset).toArray = ls at hl ⊢
  have hl : lv_has ls 3 [(0, .ref m0), (1, .int p0), (2, .int p1)] := hl
  refine lv_iload_n hx hb dX6_take_0 rfl (lv_at hl 1 rfl) ?_
  refine lv_i2l (v := p0.toInt64) hx hb dX6_take_1 rfl ?_
  refine lv_lconst (v := 1) hx hb dX6_take_2 (by decide) ?_
  refine lv_ldc2 hx hb hown (hts _ wd_X6_take_0) dX6_take_3 ?_
  have hPc := hP.sub (ws' := []) [] rfl
  refine vp_callSi (W.runS (As := [.long p0.toInt64, .long 1, .long 10]) (rest := []) ⟨hx, hb, hml, hown, hts⟩ (c_X6_in l D cI cJ cQ p0.toInt64 1 10) (va_cwS 3 hts gX6_take_X6_in rfl rfl rfl (by decide +kernel) ⟨Nat.le_of_ble_eq_true rfl, Nat.le_of_ble_eq_true rfl⟩) (rP_preS hPc hK) rfl rfl hl.1 rfl (lv_room (Nat.le_of_ble_eq_true rfl)) dX6_take_6 ⟨Nat.le_of_ble_eq_true rfl, Nat.le_of_ble_eq_true rfl⟩) (fun r_1 hr_1 => ?_)
  subst hr_1
  refine lv_if_eq (tgt := 24) hx hb dX6_take_9 (by decide) (fun c9_2 => ?_) (fun c9_2 => ?_)
  · skip
    refine lv_sipush (v := (-1001)) hx hb dX6_take_24 (by decide) ?_
    have hP9 := hP.sub (ws' := [(m0, .inr (6, [.ref ms, .ref mf, .ref mw, .ref mk, .int (bI mtold), .ref mh, .int (nI hn), .int mup, .int targ, .int stan, .int soft, .int doub, .int spli, .int giv, .int bon, .long drw, .int mbank, .ref q0, .ref q1, .ref q2, .int mheaps, .ref q3, .ref q4, .ref q5, .ref q6, .ref q7, .int msum, .int (bI hasA), .int mcards, .int mpair, .int shown, .int want, .int mwin, .int (bI isCh), .int mbest, .ref k0, .ref k1, .ref k2, .ref k3])), (ms, .inl (cI, 11, .inl f)), (mw, .inl (cI, 11, .inl fw)), (mh, .inl (cI, 12, .inl g))]) [0, 1, 2, 3] rfl
    have hD9 := hD.sub (ws' := [(m0, .inr (6, [.ref ms, .ref mf, .ref mw, .ref mk, .int (bI mtold), .ref mh, .int (nI hn), .int mup, .int targ, .int stan, .int soft, .int doub, .int spli, .int giv, .int bon, .long drw, .int mbank, .ref q0, .ref q1, .ref q2, .int mheaps, .ref q3, .ref q4, .ref q5, .ref q6, .ref q7, .int msum, .int (bI hasA), .int mcards, .int mpair, .int shown, .int want, .int mwin, .int (bI isCh), .int mbest, .ref k0, .ref k1, .ref k2, .ref k3])), (ms, .inl (cI, 11, .inl f)), (mw, .inl (cI, 11, .inl fw)), (mh, .inl (cI, 12, .inl g))]) [0, 1, 2, 3] (by decide) rfl
    exact W.iret (v := (-1001)) hx hb hr (fun t ht hW => ⟨⟨(-1001), ((f), (fw), (g), hn, mup), rfl, (by dsimp only; rw [if_pos c9_2]; exact ⟨rfl, rfl, rfl, rfl, rfl, rfl⟩), by rw [ht]; exact hP9, va_K.moved hW.alike hK, hD9⟩, hS.F ht⟩) hS.2.2 dX6_take_27
  · skip
    refine lv_iload_n hx hb dX6_take_12 rfl (lv_at hl 2 rfl) ?_
    refine lv_i2l (v := p1.toInt64) hx hb dX6_take_13 rfl ?_
    refine lv_lconst (v := 0) hx hb dX6_take_14 (by decide) ?_
    refine lv_ldc2 hx hb hown (hts _ wd_X6_take_1) dX6_take_15 ?_
    have hPc := hP.sub (ws' := []) [] rfl
    refine vp_callSi (W.runS (As := [.long p1.toInt64, .long 0, .long 2]) (rest := []) ⟨hx, hb, hml, hown, hts⟩ (c_X6_in l D cI cJ cQ p1.toInt64 0 2) (va_cwS 3 hts gX6_take_X6_in rfl rfl rfl (by decide +kernel) ⟨Nat.le_of_ble_eq_true rfl, Nat.le_of_ble_eq_true rfl⟩) (rP_preS hPc hK) rfl rfl hl.1 rfl (lv_room (Nat.le_of_ble_eq_true rfl)) dX6_take_18 ⟨Nat.le_of_ble_eq_true rfl, Nat.le_of_ble_eq_true rfl⟩) (fun r_3 hr_3 => ?_)
    subst hr_3
    refine lv_if_ne (tgt := 28) hx hb dX6_take_21 (by decide) (fun c21_4 => ?_) (fun c21_4 => ?_)
    · skip
      refine lv_aload_n hx hb dX6_take_28 rfl (lv_at hl 0 rfl) ?_
      refine va_get (D := D) (ci := 6) (v := .ref ms) (C := RX6) (T := TX6) (N := 39) hx hb hts in_X6_take_X6 hown hK hP 0 rfl rfl 0 (by decide) (hts _ wd_X6_take_2) (fun _ h9 => h9) rfl dX6_take_29 ?_
      refine lv_iload_n hx hb dX6_take_32 rfl (lv_at hl 1 rfl) ?_
      refine va_iald hx hb hK hP 1 0 rfl rfl (in11 c9_2) dX6_take_33 ?_
      refine lv_if_ne (tgt := 41) hx hb dX6_take_34 (by decide) (fun c34_5 => ?_) (fun c34_5 => ?_)
      · skip
        refine lv_iload_n hx hb dX6_take_41 rfl (lv_at hl 2 rfl) ?_
        refine lv_if_ne (tgt := 58) hx hb dX6_take_42 (by decide) (fun c42_6 => ?_) (fun c42_6 => ?_)
        · skip
          refine lv_aload_n hx hb dX6_take_58 rfl (lv_at hl 0 rfl) ?_
          refine lv_iload_n hx hb dX6_take_59 rfl (lv_at hl 1 rfl) ?_
          refine lv_iload_n hx hb dX6_take_60 rfl (lv_at hl 2 rfl) ?_
          have hPc := hP.sub (ws' := [(m0, .inr (6, [.ref ms, .ref mf, .ref mw, .ref mk, .int (bI mtold), .ref mh, .int (nI hn), .int mup, .int targ, .int stan, .int soft, .int doub, .int spli, .int giv, .int bon, .long drw, .int mbank, .ref q0, .ref q1, .ref q2, .int mheaps, .ref q3, .ref q4, .ref q5, .ref q6, .ref q7, .int msum, .int (bI hasA), .int mcards, .int mpair, .int shown, .int want, .int mwin, .int (bI isCh), .int mbest, .ref k0, .ref k1, .ref k2, .ref k3])), (ms, .inl (cI, 11, .inl f)), (mw, .inl (cI, 11, .inl fw)), (mh, .inl (cI, 12, .inl g))]) [0, 1, 2, 3] rfl
          have hDc := hD.sub (ws' := [(m0, .inr (6, [.ref ms, .ref mf, .ref mw, .ref mk, .int (bI mtold), .ref mh, .int (nI hn), .int mup, .int targ, .int stan, .int soft, .int doub, .int spli, .int giv, .int bon, .long drw, .int mbank, .ref q0, .ref q1, .ref q2, .int mheaps, .ref q3, .ref q4, .ref q5, .ref q6, .ref q7, .int msum, .int (bI hasA), .int mcards, .int mpair, .int shown, .int want, .int mwin, .int (bI isCh), .int mbest, .ref k0, .ref k1, .ref k2, .ref k3])), (ms, .inl (cI, 11, .inl f)), (mw, .inl (cI, 11, .inl fw)), (mh, .inl (cI, 12, .inl g))]) [0, 1, 2, 3] (by decide) rfl
          have hFc := va_free (wc := [(m0, .inr (6, [.ref ms, .ref mf, .ref mw, .ref mk, .int (bI mtold), .ref mh, .int (nI hn), .int mup, .int targ, .int stan, .int soft, .int doub, .int spli, .int giv, .int bon, .long drw, .int mbank, .ref q0, .ref q1, .ref q2, .int mheaps, .ref q3, .ref q4, .ref q5, .ref q6, .ref q7, .int msum, .int (bI hasA), .int mcards, .int mpair, .int shown, .int want, .int mwin, .int (bI isCh), .int mbest, .ref k0, .ref k1, .ref k2, .ref k3])), (ms, .inl (cI, 11, .inl f)), (mw, .inl (cI, 11, .inl fw)), (mh, .inl (cI, 12, .inl g))]) hD hS hA [0, 1, 2, 3] rfl
          refine va_callv (va_runV (As := [.int p0, .int p1]) (rest := []) ⟨hx, hb, hml, hown, hts⟩ (c_X6_leaveN l D cI cJ cQ _ m0 ms mf mw mk mtold mh hn mup targ stan soft doub spli giv bon drw mbank q0 q1 q2 mheaps q3 q4 q5 q6 q7 msum hasA mcards mpair shown want mwin isCh mbest k0 k1 k2 k3 (f) (fw) (g) p0 p1 (in11 c9_2) (fun z => absurd z c42_6)) (cwV 2 hts gX6_take_X6_leave rfl rfl rfl (by decide +kernel) ⟨Nat.le_of_ble_eq_true rfl, Nat.le_of_ble_eq_true rfl⟩) (mP_preV (ci := 6) (q0 := 0) hPc hK hDc rfl rfl) rfl rfl hl.1 rfl (lv_room (Nat.le_of_ble_eq_true rfl)) dX6_take_61 ⟨Nat.le_of_ble_eq_true rfl, Nat.le_of_ble_eq_true rfl⟩) hS (fun q _ h => hFc q h) hFc (fun u_r_7 t H1 locs ht hvm hr_7 hB hz1 hk1 hS => ?_)
          obtain ⟨f2_8, fw2_9, g2_10, hn2_11, up2_12⟩ := u_r_7
          obtain ⟨hP1, hK1, hD1⟩ := hB
          rw [ht] at hP1
          try dsimp only at hr_7
          obtain ⟨hP, hD⟩ := va_join (wr := []) (w1 := [(m0, .inr (6, [.ref ms, .ref mf, .ref mw, .ref mk, .int (bI mtold), .ref mh, .int (nI hn2_11), .int up2_12, .int targ, .int stan, .int soft, .int doub, .int spli, .int giv, .int bon, .long drw, .int mbank, .ref q0, .ref q1, .ref q2, .int mheaps, .ref q3, .ref q4, .ref q5, .ref q6, .ref q7, .int msum, .int (bI hasA), .int mcards, .int mpair, .int shown, .int want, .int mwin, .int (bI isCh), .int mbest, .ref k0, .ref k1, .ref k2, .ref k3])), (ms, .inl (cI, 11, .inl f2_8)), (mw, .inl (cI, 11, .inl fw2_9)), (mh, .inl (cI, 12, .inl g2_10))]) hP hD [0, 1, 2, 3] [] rfl rfl (by decide) (by decide) hk1 hFc hP1 hD1
          generalize H1 = H at hP hS ⊢
          have hP : va_P D vwCl [(m0, .inr (6, [.ref ms, .ref mf, .ref mw, .ref mk, .int (bI mtold), .ref mh, .int (nI hn2_11), .int up2_12, .int targ, .int stan, .int soft, .int doub, .int spli, .int giv, .int bon, .long drw, .int mbank, .ref q0, .ref q1, .ref q2, .int mheaps, .ref q3, .ref q4, .ref q5, .ref q6, .ref q7, .int msum, .int (bI hasA), .int mcards, .int mpair, .int shown, .int want, .int mwin, .int (bI isCh), .int mbest, .ref k0, .ref k1, .ref k2, .ref k3])), (ms, .inl (cI, 11, .inl f2_8)), (mw, .inl (cI, 11, .inl fw2_9)), (mh, .inl (cI, 12, .inl g2_10))] H := hP
          have hD : va_D A [(m0, .inr (6, [.ref ms, .ref mf, .ref mw, .ref mk, .int (bI mtold), .ref mh, .int (nI hn2_11), .int up2_12, .int targ, .int stan, .int soft, .int doub, .int spli, .int giv, .int bon, .long drw, .int mbank, .ref q0, .ref q1, .ref q2, .int mheaps, .ref q3, .ref q4, .ref q5, .ref q6, .ref q7, .int msum, .int (bI hasA), .int mcards, .int mpair, .int shown, .int want, .int mwin, .int (bI isCh), .int mbest, .ref k0, .ref k1, .ref k2, .ref k3])), (ms, .inl (cI, 11, .inl f2_8)), (mw, .inl (cI, 11, .inl fw2_9)), (mh, .inl (cI, 12, .inl g2_10))] := hD
          refine lv_aload_n hx hb dX6_take_64 rfl (lv_at hl 0 rfl) ?_
          refine va_get (D := D) (ci := 6) (v := .int (nI hn2_11)) (C := RX6) (T := TX6) (N := 39) hx hb hts in_X6_take_X6 hown hK hP 0 rfl rfl 6 (by decide) (hts _ wd_X6_take_3) (fun _ h9 => h9) rfl dX6_take_65 ?_
          have hP9 := hP.sub (ws' := [(m0, .inr (6, [.ref ms, .ref mf, .ref mw, .ref mk, .int (bI mtold), .ref mh, .int (nI hn2_11), .int up2_12, .int targ, .int stan, .int soft, .int doub, .int spli, .int giv, .int bon, .long drw, .int mbank, .ref q0, .ref q1, .ref q2, .int mheaps, .ref q3, .ref q4, .ref q5, .ref q6, .ref q7, .int msum, .int (bI hasA), .int mcards, .int mpair, .int shown, .int want, .int mwin, .int (bI isCh), .int mbest, .ref k0, .ref k1, .ref k2, .ref k3])), (ms, .inl (cI, 11, .inl f2_8)), (mw, .inl (cI, 11, .inl fw2_9)), (mh, .inl (cI, 12, .inl g2_10))]) [0, 1, 2, 3] rfl
          have hD9 := hD.sub (ws' := [(m0, .inr (6, [.ref ms, .ref mf, .ref mw, .ref mk, .int (bI mtold), .ref mh, .int (nI hn2_11), .int up2_12, .int targ, .int stan, .int soft, .int doub, .int spli, .int giv, .int bon, .long drw, .int mbank, .ref q0, .ref q1, .ref q2, .int mheaps, .ref q3, .ref q4, .ref q5, .ref q6, .ref q7, .int msum, .int (bI hasA), .int mcards, .int mpair, .int shown, .int want, .int mwin, .int (bI isCh), .int mbest, .ref k0, .ref k1, .ref k2, .ref k3])), (ms, .inl (cI, 11, .inl f2_8)), (mw, .inl (cI, 11, .inl fw2_9)), (mh, .inl (cI, 12, .inl g2_10))]) [0, 1, 2, 3] (by decide) rfl
          exact W.iret (v := (nI hn2_11)) hx hb hr (fun t ht hW => ⟨⟨(nI hn2_11), ((f2_8), (fw2_9), (g2_10), hn2_11, up2_12), rfl, (by dsimp only; rw [if_neg c9_2, if_neg c21_4, if_neg c34_5, if_neg (fun z => c42_6 z.1)]; exact ⟨rfl, hr_7⟩), by rw [ht]; exact hP9, va_K.moved hW.alike hK, hD9⟩, hS.F ht⟩) hS.2.2 dX6_take_68
        · skip
          refine lv_aload_n hx hb dX6_take_45 rfl (lv_at hl 0 rfl) ?_
          refine va_get (D := D) (ci := 6) (v := .int (nI hn)) (C := RX6) (T := TX6) (N := 39) hx hb hts in_X6_take_X6 hown hK hP 0 rfl rfl 6 (by decide) (hts _ wd_X6_take_3) (fun _ h9 => h9) rfl dX6_take_46 ?_
          refine lv_bipush (v := 12) hx hb dX6_take_49 (by decide) ?_
          refine lv_icmp_ne (tgt := 58) hx hb dX6_take_51 (by decide) (fun c51_13 => ?_) (fun c51_13 => ?_)
          · skip
            have nc51_13 : ¬ (hn = 12) := fun z9 => c51_13 ((nI_eq (a := hn) (b := 12) (by omega) (by omega)).mpr z9)
            refine lv_aload_n hx hb dX6_take_58 rfl (lv_at hl 0 rfl) ?_
            refine lv_iload_n hx hb dX6_take_59 rfl (lv_at hl 1 rfl) ?_
            refine lv_iload_n hx hb dX6_take_60 rfl (lv_at hl 2 rfl) ?_
            have hPc := hP.sub (ws' := [(m0, .inr (6, [.ref ms, .ref mf, .ref mw, .ref mk, .int (bI mtold), .ref mh, .int (nI hn), .int mup, .int targ, .int stan, .int soft, .int doub, .int spli, .int giv, .int bon, .long drw, .int mbank, .ref q0, .ref q1, .ref q2, .int mheaps, .ref q3, .ref q4, .ref q5, .ref q6, .ref q7, .int msum, .int (bI hasA), .int mcards, .int mpair, .int shown, .int want, .int mwin, .int (bI isCh), .int mbest, .ref k0, .ref k1, .ref k2, .ref k3])), (ms, .inl (cI, 11, .inl f)), (mw, .inl (cI, 11, .inl fw)), (mh, .inl (cI, 12, .inl g))]) [0, 1, 2, 3] rfl
            have hDc := hD.sub (ws' := [(m0, .inr (6, [.ref ms, .ref mf, .ref mw, .ref mk, .int (bI mtold), .ref mh, .int (nI hn), .int mup, .int targ, .int stan, .int soft, .int doub, .int spli, .int giv, .int bon, .long drw, .int mbank, .ref q0, .ref q1, .ref q2, .int mheaps, .ref q3, .ref q4, .ref q5, .ref q6, .ref q7, .int msum, .int (bI hasA), .int mcards, .int mpair, .int shown, .int want, .int mwin, .int (bI isCh), .int mbest, .ref k0, .ref k1, .ref k2, .ref k3])), (ms, .inl (cI, 11, .inl f)), (mw, .inl (cI, 11, .inl fw)), (mh, .inl (cI, 12, .inl g))]) [0, 1, 2, 3] (by decide) rfl
            have hFc := va_free (wc := [(m0, .inr (6, [.ref ms, .ref mf, .ref mw, .ref mk, .int (bI mtold), .ref mh, .int (nI hn), .int mup, .int targ, .int stan, .int soft, .int doub, .int spli, .int giv, .int bon, .long drw, .int mbank, .ref q0, .ref q1, .ref q2, .int mheaps, .ref q3, .ref q4, .ref q5, .ref q6, .ref q7, .int msum, .int (bI hasA), .int mcards, .int mpair, .int shown, .int want, .int mwin, .int (bI isCh), .int mbest, .ref k0, .ref k1, .ref k2, .ref k3])), (ms, .inl (cI, 11, .inl f)), (mw, .inl (cI, 11, .inl fw)), (mh, .inl (cI, 12, .inl g))]) hD hS hA [0, 1, 2, 3] rfl
            refine va_callv (va_runV (As := [.int p0, .int p1]) (rest := []) ⟨hx, hb, hml, hown, hts⟩ (c_X6_leaveN l D cI cJ cQ _ m0 ms mf mw mk mtold mh hn mup targ stan soft doub spli giv bon drw mbank q0 q1 q2 mheaps q3 q4 q5 q6 q7 msum hasA mcards mpair shown want mwin isCh mbest k0 k1 k2 k3 (f) (fw) (g) p0 p1 (in11 c9_2) (fun z => by omega)) (cwV 2 hts gX6_take_X6_leave rfl rfl rfl (by decide +kernel) ⟨Nat.le_of_ble_eq_true rfl, Nat.le_of_ble_eq_true rfl⟩) (mP_preV (ci := 6) (q0 := 0) hPc hK hDc rfl rfl) rfl rfl hl.1 rfl (lv_room (Nat.le_of_ble_eq_true rfl)) dX6_take_61 ⟨Nat.le_of_ble_eq_true rfl, Nat.le_of_ble_eq_true rfl⟩) hS (fun q _ h => hFc q h) hFc (fun u_r_14 t H1 locs ht hvm hr_14 hB hz1 hk1 hS => ?_)
            obtain ⟨f2_15, fw2_16, g2_17, hn2_18, up2_19⟩ := u_r_14
            obtain ⟨hP1, hK1, hD1⟩ := hB
            rw [ht] at hP1
            try dsimp only at hr_14
            obtain ⟨hP, hD⟩ := va_join (wr := []) (w1 := [(m0, .inr (6, [.ref ms, .ref mf, .ref mw, .ref mk, .int (bI mtold), .ref mh, .int (nI hn2_18), .int up2_19, .int targ, .int stan, .int soft, .int doub, .int spli, .int giv, .int bon, .long drw, .int mbank, .ref q0, .ref q1, .ref q2, .int mheaps, .ref q3, .ref q4, .ref q5, .ref q6, .ref q7, .int msum, .int (bI hasA), .int mcards, .int mpair, .int shown, .int want, .int mwin, .int (bI isCh), .int mbest, .ref k0, .ref k1, .ref k2, .ref k3])), (ms, .inl (cI, 11, .inl f2_15)), (mw, .inl (cI, 11, .inl fw2_16)), (mh, .inl (cI, 12, .inl g2_17))]) hP hD [0, 1, 2, 3] [] rfl rfl (by decide) (by decide) hk1 hFc hP1 hD1
            generalize H1 = H at hP hS ⊢
            have hP : va_P D vwCl [(m0, .inr (6, [.ref ms, .ref mf, .ref mw, .ref mk, .int (bI mtold), .ref mh, .int (nI hn2_18), .int up2_19, .int targ, .int stan, .int soft, .int doub, .int spli, .int giv, .int bon, .long drw, .int mbank, .ref q0, .ref q1, .ref q2, .int mheaps, .ref q3, .ref q4, .ref q5, .ref q6, .ref q7, .int msum, .int (bI hasA), .int mcards, .int mpair, .int shown, .int want, .int mwin, .int (bI isCh), .int mbest, .ref k0, .ref k1, .ref k2, .ref k3])), (ms, .inl (cI, 11, .inl f2_15)), (mw, .inl (cI, 11, .inl fw2_16)), (mh, .inl (cI, 12, .inl g2_17))] H := hP
            have hD : va_D A [(m0, .inr (6, [.ref ms, .ref mf, .ref mw, .ref mk, .int (bI mtold), .ref mh, .int (nI hn2_18), .int up2_19, .int targ, .int stan, .int soft, .int doub, .int spli, .int giv, .int bon, .long drw, .int mbank, .ref q0, .ref q1, .ref q2, .int mheaps, .ref q3, .ref q4, .ref q5, .ref q6, .ref q7, .int msum, .int (bI hasA), .int mcards, .int mpair, .int shown, .int want, .int mwin, .int (bI isCh), .int mbest, .ref k0, .ref k1, .ref k2, .ref k3])), (ms, .inl (cI, 11, .inl f2_15)), (mw, .inl (cI, 11, .inl fw2_16)), (mh, .inl (cI, 12, .inl g2_17))] := hD
            refine lv_aload_n hx hb dX6_take_64 rfl (lv_at hl 0 rfl) ?_
            refine va_get (D := D) (ci := 6) (v := .int (nI hn2_18)) (C := RX6) (T := TX6) (N := 39) hx hb hts in_X6_take_X6 hown hK hP 0 rfl rfl 6 (by decide) (hts _ wd_X6_take_3) (fun _ h9 => h9) rfl dX6_take_65 ?_
            have hP9 := hP.sub (ws' := [(m0, .inr (6, [.ref ms, .ref mf, .ref mw, .ref mk, .int (bI mtold), .ref mh, .int (nI hn2_18), .int up2_19, .int targ, .int stan, .int soft, .int doub, .int spli, .int giv, .int bon, .long drw, .int mbank, .ref q0, .ref q1, .ref q2, .int mheaps, .ref q3, .ref q4, .ref q5, .ref q6, .ref q7, .int msum, .int (bI hasA), .int mcards, .int mpair, .int shown, .int want, .int mwin, .int (bI isCh), .int mbest, .ref k0, .ref k1, .ref k2, .ref k3])), (ms, .inl (cI, 11, .inl f2_15)), (mw, .inl (cI, 11, .inl fw2_16)), (mh, .inl (cI, 12, .inl g2_17))]) [0, 1, 2, 3] rfl
            have hD9 := hD.sub (ws' := [(m0, .inr (6, [.ref ms, .ref mf, .ref mw, .ref mk, .int (bI mtold), .ref mh, .int (nI hn2_18), .int up2_19, .int targ, .int stan, .int soft, .int doub, .int spli, .int giv, .int bon, .long drw, .int mbank, .ref q0, .ref q1, .ref q2, .int mheaps, .ref q3, .ref q4, .ref q5, .ref q6, .ref q7, .int msum, .int (bI hasA), .int mcards, .int mpair, .int shown, .int want, .int mwin, .int (bI isCh), .int mbest, .ref k0, .ref k1, .ref k2, .ref k3])), (ms, .inl (cI, 11, .inl f2_15)), (mw, .inl (cI, 11, .inl fw2_16)), (mh, .inl (cI, 12, .inl g2_17))]) [0, 1, 2, 3] (by decide) rfl
            exact W.iret (v := (nI hn2_18)) hx hb hr (fun t ht hW => ⟨⟨(nI hn2_18), ((f2_15), (fw2_16), (g2_17), hn2_18, up2_19), rfl, (by dsimp only; rw [if_neg c9_2, if_neg c21_4, if_neg c34_5, if_neg (fun z => nc51_13 z.2)]; exact ⟨rfl, hr_14⟩), by rw [ht]; exact hP9, va_K.moved hW.alike hK, hD9⟩, hS.F ht⟩) hS.2.2 dX6_take_68
          · skip
            have nc51_13 : hn = 12 := (nI_eq (a := hn) (b := 12) (by omega) (by omega)).mp c51_13
            refine lv_sipush (v := (-1003)) hx hb dX6_take_54 (by decide) ?_
            have hP9 := hP.sub (ws' := [(m0, .inr (6, [.ref ms, .ref mf, .ref mw, .ref mk, .int (bI mtold), .ref mh, .int (nI hn), .int mup, .int targ, .int stan, .int soft, .int doub, .int spli, .int giv, .int bon, .long drw, .int mbank, .ref q0, .ref q1, .ref q2, .int mheaps, .ref q3, .ref q4, .ref q5, .ref q6, .ref q7, .int msum, .int (bI hasA), .int mcards, .int mpair, .int shown, .int want, .int mwin, .int (bI isCh), .int mbest, .ref k0, .ref k1, .ref k2, .ref k3])), (ms, .inl (cI, 11, .inl f)), (mw, .inl (cI, 11, .inl fw)), (mh, .inl (cI, 12, .inl g))]) [0, 1, 2, 3] rfl
            have hD9 := hD.sub (ws' := [(m0, .inr (6, [.ref ms, .ref mf, .ref mw, .ref mk, .int (bI mtold), .ref mh, .int (nI hn), .int mup, .int targ, .int stan, .int soft, .int doub, .int spli, .int giv, .int bon, .long drw, .int mbank, .ref q0, .ref q1, .ref q2, .int mheaps, .ref q3, .ref q4, .ref q5, .ref q6, .ref q7, .int msum, .int (bI hasA), .int mcards, .int mpair, .int shown, .int want, .int mwin, .int (bI isCh), .int mbest, .ref k0, .ref k1, .ref k2, .ref k3])), (ms, .inl (cI, 11, .inl f)), (mw, .inl (cI, 11, .inl fw)), (mh, .inl (cI, 12, .inl g))]) [0, 1, 2, 3] (by decide) rfl
            exact W.iret (v := (-1003)) hx hb hr (fun t ht hW => ⟨⟨(-1003), ((f), (fw), (g), hn, mup), rfl, (by dsimp only; rw [if_neg c9_2, if_neg c21_4, if_neg c34_5, if_pos ⟨c42_6, nc51_13⟩]; exact ⟨rfl, rfl, rfl, rfl, rfl, rfl⟩), by rw [ht]; exact hP9, va_K.moved hW.alike hK, hD9⟩, hS.F ht⟩) hS.2.2 dX6_take_57
      · skip
        refine lv_sipush (v := (-1002)) hx hb dX6_take_37 (by decide) ?_
        have hP9 := hP.sub (ws' := [(m0, .inr (6, [.ref ms, .ref mf, .ref mw, .ref mk, .int (bI mtold), .ref mh, .int (nI hn), .int mup, .int targ, .int stan, .int soft, .int doub, .int spli, .int giv, .int bon, .long drw, .int mbank, .ref q0, .ref q1, .ref q2, .int mheaps, .ref q3, .ref q4, .ref q5, .ref q6, .ref q7, .int msum, .int (bI hasA), .int mcards, .int mpair, .int shown, .int want, .int mwin, .int (bI isCh), .int mbest, .ref k0, .ref k1, .ref k2, .ref k3])), (ms, .inl (cI, 11, .inl f)), (mw, .inl (cI, 11, .inl fw)), (mh, .inl (cI, 12, .inl g))]) [0, 1, 2, 3] rfl
        have hD9 := hD.sub (ws' := [(m0, .inr (6, [.ref ms, .ref mf, .ref mw, .ref mk, .int (bI mtold), .ref mh, .int (nI hn), .int mup, .int targ, .int stan, .int soft, .int doub, .int spli, .int giv, .int bon, .long drw, .int mbank, .ref q0, .ref q1, .ref q2, .int mheaps, .ref q3, .ref q4, .ref q5, .ref q6, .ref q7, .int msum, .int (bI hasA), .int mcards, .int mpair, .int shown, .int want, .int mwin, .int (bI isCh), .int mbest, .ref k0, .ref k1, .ref k2, .ref k3])), (ms, .inl (cI, 11, .inl f)), (mw, .inl (cI, 11, .inl fw)), (mh, .inl (cI, 12, .inl g))]) [0, 1, 2, 3] (by decide) rfl
        exact W.iret (v := (-1002)) hx hb hr (fun t ht hW => ⟨⟨(-1002), ((f), (fw), (g), hn, mup), rfl, (by dsimp only; rw [if_neg c9_2, if_neg c21_4, if_pos c34_5]; exact ⟨rfl, rfl, rfl, rfl, rfl, rfl⟩), by rw [ht]; exact hP9, va_K.moved hW.alike hK, hD9⟩, hS.F ht⟩) hS.2.2 dX6_take_40
    · skip
      refine lv_sipush (v := (-1001)) hx hb dX6_take_24 (by decide) ?_
      have hP9 := hP.sub (ws' := [(m0, .inr (6, [.ref ms, .ref mf, .ref mw, .ref mk, .int (bI mtold), .ref mh, .int (nI hn), .int mup, .int targ, .int stan, .int soft, .int doub, .int spli, .int giv, .int bon, .long drw, .int mbank, .ref q0, .ref q1, .ref q2, .int mheaps, .ref q3, .ref q4, .ref q5, .ref q6, .ref q7, .int msum, .int (bI hasA), .int mcards, .int mpair, .int shown, .int want, .int mwin, .int (bI isCh), .int mbest, .ref k0, .ref k1, .ref k2, .ref k3])), (ms, .inl (cI, 11, .inl f)), (mw, .inl (cI, 11, .inl fw)), (mh, .inl (cI, 12, .inl g))]) [0, 1, 2, 3] rfl
      have hD9 := hD.sub (ws' := [(m0, .inr (6, [.ref ms, .ref mf, .ref mw, .ref mk, .int (bI mtold), .ref mh, .int (nI hn), .int mup, .int targ, .int stan, .int soft, .int doub, .int spli, .int giv, .int bon, .long drw, .int mbank, .ref q0, .ref q1, .ref q2, .int mheaps, .ref q3, .ref q4, .ref q5, .ref q6, .ref q7, .int msum, .int (bI hasA), .int mcards, .int mpair, .int shown, .int want, .int mwin, .int (bI isCh), .int mbest, .ref k0, .ref k1, .ref k2, .ref k3])), (ms, .inl (cI, 11, .inl f)), (mw, .inl (cI, 11, .inl fw)), (mh, .inl (cI, 12, .inl g))]) [0, 1, 2, 3] (by decide) rfl
      exact W.iret (v := (-1001)) hx hb hr (fun t ht hW => ⟨⟨(-1001), ((f), (fw), (g), hn, mup), rfl, (by dsimp only; rw [if_neg c9_2, if_pos c21_4]; exact ⟨rfl, rfl, rfl, rfl, rfl, rfl⟩), by rw [ht]; exact hP9, va_K.moved hW.alike hK, hD9⟩, hS.F ht⟩) hS.2.2 dX6_take_27

set_option maxRecDepth 20000 in
theorem wd_X6_draw_0 : Cond.constantLong RX6 112 (2) ∈ wsX6_draw := by decide +kernel
set_option maxRecDepth 20000 in
theorem in_X6_draw_X6 : ∀ w ∈ wsX60, w ∈ wsX6_draw := by decide +kernel
set_option maxRecDepth 20000 in
theorem wd_X6_draw_1 : Cond.fieldLink RX6 98 "ShoeTableModel" "hands" "I" ∈ wsX6_draw := by decide +kernel
set_option maxHeartbeats 400000 in
set_option maxRecDepth 100000 in
/-- X6_draw -/
theorem c_X6_draw (l : Launch) (D : va_G) (cI cJ cQ : ClassId) (sz : Nat) (m0 : Nat) (ms : Nat) (mf : Nat) (mw : Nat) (mk : Nat) (mtold : Bool) (mh : Nat) (hn : Nat) (mup : Int32) (targ : Int32) (stan : Int32) (soft : Int32) (doub : Int32) (spli : Int32) (giv : Int32) (bon : Int32) (drw : Int64) (mbank : Int32) (q0 : Nat) (q1 : Nat) (q2 : Nat) (mheaps : Int32) (q3 : Nat) (q4 : Nat) (q5 : Nat) (q6 : Nat) (q7 : Nat) (msum : Int32) (hasA : Bool) (mcards : Int32) (mpair : Int32) (shown : Int32) (want : Int32) (mwin : Int32) (isCh : Bool) (mbest : Int32) (k0 : Nat) (k1 : Nat) (k2 : Nat) (k3 : Nat) (f : Nat → Int32) (fw : Nat → Int32) (g : Nat → Int32) (p0 : Int32) (cc : Nat → Nat) (hn12 : hn ≤ 12) (hc : cntI f cc) : Met l yX6_draw wsX6_draw ({ frames := 2, cells := 0, slots := 0, locals := 44 }) (va_Pc [.ref m0, .int p0] (mP D (gTy cI cJ cQ) [(m0, .inr (6, [.ref ms, .ref mf, .ref mw, .ref mk, .int (bI mtold), .ref mh, .int (nI hn), .int mup, .int targ, .int stan, .int soft, .int doub, .int spli, .int giv, .int bon, .long drw, .int mbank, .ref q0, .ref q1, .ref q2, .int mheaps, .ref q3, .ref q4, .ref q5, .ref q6, .ref q7, .int msum, .int (bI hasA), .int mcards, .int mpair, .int shown, .int want, .int mwin, .int (bI isCh), .int mbest, .ref k0, .ref k1, .ref k2, .ref k3])), (ms, .inl (cI, 11, .inl f)), (mw, .inl (cI, 11, .inl fw)), (mh, .inl (cI, 12, .inl g))] sz)) (va_Qi (fun (r : Int32) (u : (Nat → Int32) × (Nat → Int32) × (Nat → Int32) × Nat × Int32 × Int64) => match u with | (f2, fw2, g2, hn2, up2, drw2) => if inB p0.toInt64 0 2 = 0 then r = -1001 ∧ f2 = f ∧ fw2 = fw ∧ g2 = g ∧ hn2 = hn ∧ up2 = mup ∧ drw2 = drw else if sm10 f = 0 then r = -1002 ∧ f2 = f ∧ fw2 = fw ∧ g2 = g ∧ hn2 = hn ∧ up2 = mup ∧ drw2 = drw else if p0 = 0 ∧ hn = 12 then r = -1003 ∧ f2 = f ∧ fw2 = fw ∧ g2 = g ∧ hn2 = hn ∧ up2 = mup ∧ drw2 = drw else r = drR f drw ∧ drw2 = (drw * 6364136223846793005 + 1442695040888963407) ∧ f2 = upd f r.toNatClampNeg (f r.toNatClampNeg - 1) ∧ fw2 = upd fw r.toNatClampNeg (fw r.toNatClampNeg + 1) ∧ if p0 = 0 then hn2 = hn + 1 ∧ g2 = upd g hn r ∧ up2 = mup else if p0 = 1 then hn2 = hn ∧ g2 = g ∧ up2 = r else hn2 = hn ∧ g2 = g ∧ up2 = mup) (fun (u : (Nat → Int32) × (Nat → Int32) × (Nat → Int32) × Nat × Int32 × Int64) t => match u with | (f2, fw2, g2, hn2, up2, drw2) => mB D (gTy cI cJ cQ) (va_A [(m0, .inr (6, [.ref ms, .ref mf, .ref mw, .ref mk, .int (bI mtold), .ref mh, .int (nI hn), .int mup, .int targ, .int stan, .int soft, .int doub, .int spli, .int giv, .int bon, .long drw, .int mbank, .ref q0, .ref q1, .ref q2, .int mheaps, .ref q3, .ref q4, .ref q5, .ref q6, .ref q7, .int msum, .int (bI hasA), .int mcards, .int mpair, .int shown, .int want, .int mwin, .int (bI isCh), .int mbest, .ref k0, .ref k1, .ref k2, .ref k3])), (ms, .inl (cI, 11, .inl f)), (mw, .inl (cI, 11, .inl fw)), (mh, .inl (cI, 12, .inl g))] sz) [(m0, .inr (6, [.ref ms, .ref mf, .ref mw, .ref mk, .int (bI mtold), .ref mh, .int (nI hn2), .int up2, .int targ, .int stan, .int soft, .int doub, .int spli, .int giv, .int bon, .long drw2, .int mbank, .ref q0, .ref q1, .ref q2, .int mheaps, .ref q3, .ref q4, .ref q5, .ref q6, .ref q7, .int msum, .int (bI hasA), .int mcards, .int mpair, .int shown, .int want, .int mwin, .int (bI isCh), .int mbest, .ref k0, .ref k1, .ref k2, .ref k3])), (ms, .inl (cI, 11, .inl f2)), (mw, .inl (cI, 11, .inl fw2)), (mh, .inl (cI, 12, .inl g2))] t) (va_A [(m0, .inr (6, [.ref ms, .ref mf, .ref mw, .ref mk, .int (bI mtold), .ref mh, .int (nI hn), .int mup, .int targ, .int stan, .int soft, .int doub, .int spli, .int giv, .int bon, .long drw, .int mbank, .ref q0, .ref q1, .ref q2, .int mheaps, .ref q3, .ref q4, .ref q5, .ref q6, .ref q7, .int msum, .int (bI hasA), .int mcards, .int mpair, .int shown, .int want, .int mwin, .int (bI isCh), .int mbest, .ref k0, .ref k1, .ref k2, .ref k3])), (ms, .inl (cI, 11, .inl f)), (mw, .inl (cI, 11, .inl fw)), (mh, .inl (cI, 12, .inl g))] sz)) 0 0 (va_A [(m0, .inr (6, [.ref ms, .ref mf, .ref mw, .ref mk, .int (bI mtold), .ref mh, .int (nI hn), .int mup, .int targ, .int stan, .int soft, .int doub, .int spli, .int giv, .int bon, .long drw, .int mbank, .ref q0, .ref q1, .ref q2, .int mheaps, .ref q3, .ref q4, .ref q5, .ref q6, .ref q7, .int msum, .int (bI hasA), .int mcards, .int mpair, .int shown, .int want, .int mwin, .int (bI isCh), .int mbest, .ref k0, .ref k1, .ref k2, .ref k3])), (ms, .inl (cI, 11, .inl f)), (mw, .inl (cI, 11, .inl fw)), (mh, .inl (cI, 12, .inl g))] sz) := by
  refine Met.ofW (cc := cX6_draw) (maxL := 3) (ret := (some .int)) (by decide) rfl ?_
  intro p e s m args below meth c s₁ B hml hv
  obtain ⟨rfl, hsz, hP, hK, hD0⟩ := hv
  have hx := B.exec
  have hb := B.bytes
  have hr := B.returns
  have hts := atoms_spec (ws := wsX6_draw) B.pre
  have hown : s.vm.findClass RX6 = some m.cls := findClass_of_methodNamed B.named
  have hlocks := B.notSynchronized
  subst hsz
  have hD := hD0.self (sz := s.heap.size)
  generalize hAe : va_A [(m0, .inr (6, [.ref ms, .ref mf, .ref mw, .ref mk, .int (bI mtold), .ref mh, .int (nI hn), .int mup, .int targ, .int stan, .int soft, .int doub, .int spli, .int giv, .int bon, .long drw, .int mbank, .ref q0, .ref q1, .ref q2, .int mheaps, .ref q3, .ref q4, .ref q5, .ref q6, .ref q7, .int msum, .int (bI hasA), .int mcards, .int mpair, .int shown, .int want, .int mwin, .int (bI isCh), .int mbest, .ref k0, .ref k1, .ref k2, .ref k3])), (ms, .inl (cI, 11, .inl f)), (mw, .inl (cI, 11, .inl fw)), (mh, .inl (cI, 12, .inl g))] s.heap.size = A at hD ⊢
  have hA : ∀ q : Nat, s.heap.size ≤ q → A q := fun q h => by rw [← hAe]; exact Or.inr h
  have hS : va_S A s.heap s.heap [] := va_S.rf
  have hP : va_P D vwCl [(m0, .inr (6, [.ref ms, .ref mf, .ref mw, .ref mk, .int (bI mtold), .ref mh, .int (nI hn), .int mup, .int targ, .int stan, .int soft, .int doub, .int spli, .int giv, .int bon, .long drw, .int mbank, .ref q0, .ref q1, .ref q2, .int mheaps, .ref q3, .ref q4, .ref q5, .ref q6, .ref q7, .int msum, .int (bI hasA), .int mcards, .int mpair, .int shown, .int want, .int mwin, .int (bI isCh), .int mbest, .ref k0, .ref k1, .ref k2, .ref k3])), (ms, .inl (cI, 11, .inl f)), (mw, .inl (cI, 11, .inl fw)), (mh, .inl (cI, 12, .inl g))] s.heap := hP
  have hl := lv_entry ([.ref m0, .int p0]) (n := 3) (Nat.le_of_ble_eq_true rfl)
  rw [lg_entry_eq]
  generalize (lg_sl ([.ref m0, .int p0]) ++ List.replicate (3 - (lg_sl ([.ref m0, .int p0])).length) Slot.unset).toArray = ls at hl ⊢
  have hl : lv_has ls 3 [(0, .ref m0), (1, .int p0)] := hl
  refine lv_iload_n hx hb dX6_draw_0 rfl (lv_at hl 1 rfl) ?_
  refine lv_i2l (v := p0.toInt64) hx hb dX6_draw_1 rfl ?_
  refine lv_lconst (v := 0) hx hb dX6_draw_2 (by decide) ?_
  refine lv_ldc2 hx hb hown (hts _ wd_X6_draw_0) dX6_draw_3 ?_
  have hPc := hP.sub (ws' := []) [] rfl
  refine vp_callSi (W.runS (As := [.long p0.toInt64, .long 0, .long 2]) (rest := []) ⟨hx, hb, hml, hown, hts⟩ (c_X6_in l D cI cJ cQ p0.toInt64 0 2) (va_cwS 3 hts gX6_draw_X6_in rfl rfl rfl (by decide +kernel) ⟨Nat.le_of_ble_eq_true rfl, Nat.le_of_ble_eq_true rfl⟩) (rP_preS hPc hK) rfl rfl hl.1 rfl (lv_room (Nat.le_of_ble_eq_true rfl)) dX6_draw_6 ⟨Nat.le_of_ble_eq_true rfl, Nat.le_of_ble_eq_true rfl⟩) (fun r_1 hr_1 => ?_)
  subst hr_1
  refine lv_if_ne (tgt := 16) hx hb dX6_draw_9 (by decide) (fun c9_2 => ?_) (fun c9_2 => ?_)
  · skip
    refine lv_aload_n hx hb dX6_draw_16 rfl (lv_at hl 0 rfl) ?_
    have hPc := hP.sub (ws' := [(m0, .inr (6, [.ref ms, .ref mf, .ref mw, .ref mk, .int (bI mtold), .ref mh, .int (nI hn), .int mup, .int targ, .int stan, .int soft, .int doub, .int spli, .int giv, .int bon, .long drw, .int mbank, .ref q0, .ref q1, .ref q2, .int mheaps, .ref q3, .ref q4, .ref q5, .ref q6, .ref q7, .int msum, .int (bI hasA), .int mcards, .int mpair, .int shown, .int want, .int mwin, .int (bI isCh), .int mbest, .ref k0, .ref k1, .ref k2, .ref k3])), (ms, .inl (cI, 11, .inl f))]) [0, 1] rfl
    refine vp_callSi (W.runV (As := []) (rest := []) ⟨hx, hb, hml, hown, hts⟩ (c_X6_all l D cI cJ cQ m0 ms mf mw mk mtold mh (nI hn) mup targ stan soft doub spli giv bon drw mbank q0 q1 q2 mheaps q3 q4 q5 q6 q7 msum hasA mcards mpair shown want mwin isCh mbest k0 k1 k2 k3 (f)) (cwV 0 hts gX6_draw_X6_all rfl rfl rfl (by decide +kernel) ⟨Nat.le_of_ble_eq_true rfl, Nat.le_of_ble_eq_true rfl⟩) (rP_preV (ci := 6) (q0 := 0) hPc hK rfl rfl) rfl rfl hl.1 rfl (lv_room (Nat.le_of_ble_eq_true rfl)) dX6_draw_17 ⟨Nat.le_of_ble_eq_true rfl, Nat.le_of_ble_eq_true rfl⟩) (fun r_3 hr_3 => ?_)
    subst hr_3
    refine lv_if_ne (tgt := 27) hx hb dX6_draw_20 (by decide) (fun c20_4 => ?_) (fun c20_4 => ?_)
    · skip
      refine lv_iload_n hx hb dX6_draw_27 rfl (lv_at hl 1 rfl) ?_
      refine lv_if_ne (tgt := 44) hx hb dX6_draw_28 (by decide) (fun c28_5 => ?_) (fun c28_5 => ?_)
      · skip
        refine lv_aload_n hx hb dX6_draw_44 rfl (lv_at hl 0 rfl) ?_
        have hPc := hP.sub (ws' := [(m0, .inr (6, [.ref ms, .ref mf, .ref mw, .ref mk, .int (bI mtold), .ref mh, .int (nI hn), .int mup, .int targ, .int stan, .int soft, .int doub, .int spli, .int giv, .int bon, .long drw, .int mbank, .ref q0, .ref q1, .ref q2, .int mheaps, .ref q3, .ref q4, .ref q5, .ref q6, .ref q7, .int msum, .int (bI hasA), .int mcards, .int mpair, .int shown, .int want, .int mwin, .int (bI isCh), .int mbest, .ref k0, .ref k1, .ref k2, .ref k3])), (ms, .inl (cI, 11, .inl f))]) [0, 1] rfl
        have hDc := hD.sub (ws' := [(m0, .inr (6, [.ref ms, .ref mf, .ref mw, .ref mk, .int (bI mtold), .ref mh, .int (nI hn), .int mup, .int targ, .int stan, .int soft, .int doub, .int spli, .int giv, .int bon, .long drw, .int mbank, .ref q0, .ref q1, .ref q2, .int mheaps, .ref q3, .ref q4, .ref q5, .ref q6, .ref q7, .int msum, .int (bI hasA), .int mcards, .int mpair, .int shown, .int want, .int mwin, .int (bI isCh), .int mbest, .ref k0, .ref k1, .ref k2, .ref k3])), (ms, .inl (cI, 11, .inl f))]) [0, 1] (by decide) rfl
        have hFc := va_free (wc := [(m0, .inr (6, [.ref ms, .ref mf, .ref mw, .ref mk, .int (bI mtold), .ref mh, .int (nI hn), .int mup, .int targ, .int stan, .int soft, .int doub, .int spli, .int giv, .int bon, .long drw, .int mbank, .ref q0, .ref q1, .ref q2, .int mheaps, .ref q3, .ref q4, .ref q5, .ref q6, .ref q7, .int msum, .int (bI hasA), .int mcards, .int mpair, .int shown, .int want, .int mwin, .int (bI isCh), .int mbest, .ref k0, .ref k1, .ref k2, .ref k3])), (ms, .inl (cI, 11, .inl f))]) hD hS hA [0, 1] rfl
        refine va_calli (va_runV (As := []) (rest := []) ⟨hx, hb, hml, hown, hts⟩ (c_X6_drawn l D cI cJ cQ _ m0 ms mf mw mk mtold mh hn mup targ stan soft doub spli giv bon drw mbank q0 q1 q2 mheaps q3 q4 q5 q6 q7 msum hasA mcards mpair shown want mwin isCh mbest k0 k1 k2 k3 (f) cc hc (sm_ne hc c20_4)) (cwV 0 hts gX6_draw_X6_drawn rfl rfl rfl (by decide +kernel) ⟨Nat.le_of_ble_eq_true rfl, Nat.le_of_ble_eq_true rfl⟩) (mP_preV (ci := 6) (q0 := 0) hPc hK hDc rfl rfl) rfl rfl hl.1 rfl (lv_room (Nat.le_of_ble_eq_true rfl)) dX6_draw_45 ⟨Nat.le_of_ble_eq_true rfl, Nat.le_of_ble_eq_true rfl⟩) hS (fun q _ h => hFc q h) hFc (fun r_6 u_r_6 t H1 locs ht hvm hr_6 hB hz1 hk1 hS => ?_)
        obtain ⟨drw2_7, rfl⟩ : ∃ z, z = u_r_6 := ⟨_, rfl⟩
        obtain ⟨hP1, hK1, hD1⟩ := hB
        rw [ht] at hP1
        try dsimp only at hr_6
        obtain ⟨hP, hD⟩ := va_join (wr := [(mw, .inl (cI, 11, .inl fw)), (mh, .inl (cI, 12, .inl g))]) (w1 := [(m0, .inr (6, [.ref ms, .ref mf, .ref mw, .ref mk, .int (bI mtold), .ref mh, .int (nI hn), .int mup, .int targ, .int stan, .int soft, .int doub, .int spli, .int giv, .int bon, .long drw2_7, .int mbank, .ref q0, .ref q1, .ref q2, .int mheaps, .ref q3, .ref q4, .ref q5, .ref q6, .ref q7, .int msum, .int (bI hasA), .int mcards, .int mpair, .int shown, .int want, .int mwin, .int (bI isCh), .int mbest, .ref k0, .ref k1, .ref k2, .ref k3])), (ms, .inl (cI, 11, .inl (f)))]) hP hD [0, 1] [2, 3] rfl rfl (by decide) (by decide) hk1 hFc hP1 hD1
        generalize H1 = H at hP hS ⊢
        have hP : va_P D vwCl [(mw, .inl (cI, 11, .inl fw)), (mh, .inl (cI, 12, .inl g)), (m0, .inr (6, [.ref ms, .ref mf, .ref mw, .ref mk, .int (bI mtold), .ref mh, .int (nI hn), .int mup, .int targ, .int stan, .int soft, .int doub, .int spli, .int giv, .int bon, .long drw2_7, .int mbank, .ref q0, .ref q1, .ref q2, .int mheaps, .ref q3, .ref q4, .ref q5, .ref q6, .ref q7, .int msum, .int (bI hasA), .int mcards, .int mpair, .int shown, .int want, .int mwin, .int (bI isCh), .int mbest, .ref k0, .ref k1, .ref k2, .ref k3])), (ms, .inl (cI, 11, .inl (f)))] H := hP
        have hD : va_D A [(mw, .inl (cI, 11, .inl fw)), (mh, .inl (cI, 12, .inl g)), (m0, .inr (6, [.ref ms, .ref mf, .ref mw, .ref mk, .int (bI mtold), .ref mh, .int (nI hn), .int mup, .int targ, .int stan, .int soft, .int doub, .int spli, .int giv, .int bon, .long drw2_7, .int mbank, .ref q0, .ref q1, .ref q2, .int mheaps, .ref q3, .ref q4, .ref q5, .ref q6, .ref q7, .int msum, .int (bI hasA), .int mcards, .int mpair, .int shown, .int want, .int mwin, .int (bI isCh), .int mbest, .ref k0, .ref k1, .ref k2, .ref k3])), (ms, .inl (cI, 11, .inl (f)))] := hD
        refine lv_istore_n (lv' := [(2, .int r_6), (0, .ref m0), (1, .int p0)]) hx hb dX6_draw_48 rfl hl (by decide) rfl (fun ls hl => ?_)
        refine lv_aload_n hx hb dX6_draw_49 rfl (lv_at hl 1 rfl) ?_
        refine lv_iload_n hx hb dX6_draw_50 rfl (lv_at hl 0 rfl) ?_
        refine lv_iload_n hx hb dX6_draw_51 rfl (lv_at hl 2 rfl) ?_
        have hPc := hP.sub (ws' := [(m0, .inr (6, [.ref ms, .ref mf, .ref mw, .ref mk, .int (bI mtold), .ref mh, .int (nI hn), .int mup, .int targ, .int stan, .int soft, .int doub, .int spli, .int giv, .int bon, .long drw2_7, .int mbank, .ref q0, .ref q1, .ref q2, .int mheaps, .ref q3, .ref q4, .ref q5, .ref q6, .ref q7, .int msum, .int (bI hasA), .int mcards, .int mpair, .int shown, .int want, .int mwin, .int (bI isCh), .int mbest, .ref k0, .ref k1, .ref k2, .ref k3])), (ms, .inl (cI, 11, .inl (f))), (mw, .inl (cI, 11, .inl fw)), (mh, .inl (cI, 12, .inl g))]) [2, 3, 0, 1] rfl
        have hDc := hD.sub (ws' := [(m0, .inr (6, [.ref ms, .ref mf, .ref mw, .ref mk, .int (bI mtold), .ref mh, .int (nI hn), .int mup, .int targ, .int stan, .int soft, .int doub, .int spli, .int giv, .int bon, .long drw2_7, .int mbank, .ref q0, .ref q1, .ref q2, .int mheaps, .ref q3, .ref q4, .ref q5, .ref q6, .ref q7, .int msum, .int (bI hasA), .int mcards, .int mpair, .int shown, .int want, .int mwin, .int (bI isCh), .int mbest, .ref k0, .ref k1, .ref k2, .ref k3])), (ms, .inl (cI, 11, .inl (f))), (mw, .inl (cI, 11, .inl fw)), (mh, .inl (cI, 12, .inl g))]) [2, 3, 0, 1] (by decide) rfl
        have hFc := va_free (wc := [(m0, .inr (6, [.ref ms, .ref mf, .ref mw, .ref mk, .int (bI mtold), .ref mh, .int (nI hn), .int mup, .int targ, .int stan, .int soft, .int doub, .int spli, .int giv, .int bon, .long drw2_7, .int mbank, .ref q0, .ref q1, .ref q2, .int mheaps, .ref q3, .ref q4, .ref q5, .ref q6, .ref q7, .int msum, .int (bI hasA), .int mcards, .int mpair, .int shown, .int want, .int mwin, .int (bI isCh), .int mbest, .ref k0, .ref k1, .ref k2, .ref k3])), (ms, .inl (cI, 11, .inl (f))), (mw, .inl (cI, 11, .inl fw)), (mh, .inl (cI, 12, .inl g))]) hD hS hA [2, 3, 0, 1] rfl
        refine va_callv (va_runV (As := [.int r_6, .int p0]) (rest := []) ⟨hx, hb, hml, hown, hts⟩ (c_X6_leaveN l D cI cJ cQ _ m0 ms mf mw mk mtold mh hn mup targ stan soft doub spli giv bon drw2_7 mbank q0 q1 q2 mheaps q3 q4 q5 q6 q7 msum hasA mcards mpair shown want mwin isCh mbest k0 k1 k2 k3 ((f)) (fw) (g) r_6 p0 (by rw [hr_6.1]; exact dr_vp drw hc (sm_ne hc c20_4)) (fun z => absurd z c28_5)) (cwV 2 hts gX6_draw_X6_leave rfl rfl rfl (by decide +kernel) ⟨Nat.le_of_ble_eq_true rfl, Nat.le_of_ble_eq_true rfl⟩) (mP_preV (ci := 6) (q0 := 0) hPc hK hDc rfl rfl) rfl rfl hl.1 rfl (lv_room (Nat.le_of_ble_eq_true rfl)) dX6_draw_52 ⟨Nat.le_of_ble_eq_true rfl, Nat.le_of_ble_eq_true rfl⟩) hS (fun q _ h => hFc q h) hFc (fun u_r_8 t H1 locs ht hvm hr_8 hB hz1 hk1 hS => ?_)
        obtain ⟨f2_9, fw2_10, g2_11, hn2_12, up2_13⟩ := u_r_8
        obtain ⟨hP1, hK1, hD1⟩ := hB
        rw [ht] at hP1
        try dsimp only at hr_8
        obtain ⟨hP, hD⟩ := va_join (wr := []) (w1 := [(m0, .inr (6, [.ref ms, .ref mf, .ref mw, .ref mk, .int (bI mtold), .ref mh, .int (nI hn2_12), .int up2_13, .int targ, .int stan, .int soft, .int doub, .int spli, .int giv, .int bon, .long drw2_7, .int mbank, .ref q0, .ref q1, .ref q2, .int mheaps, .ref q3, .ref q4, .ref q5, .ref q6, .ref q7, .int msum, .int (bI hasA), .int mcards, .int mpair, .int shown, .int want, .int mwin, .int (bI isCh), .int mbest, .ref k0, .ref k1, .ref k2, .ref k3])), (ms, .inl (cI, 11, .inl f2_9)), (mw, .inl (cI, 11, .inl fw2_10)), (mh, .inl (cI, 12, .inl g2_11))]) hP hD [2, 3, 0, 1] [] rfl rfl (by decide) (by decide) hk1 hFc hP1 hD1
        generalize H1 = H at hP hS ⊢
        have hP : va_P D vwCl [(m0, .inr (6, [.ref ms, .ref mf, .ref mw, .ref mk, .int (bI mtold), .ref mh, .int (nI hn2_12), .int up2_13, .int targ, .int stan, .int soft, .int doub, .int spli, .int giv, .int bon, .long drw2_7, .int mbank, .ref q0, .ref q1, .ref q2, .int mheaps, .ref q3, .ref q4, .ref q5, .ref q6, .ref q7, .int msum, .int (bI hasA), .int mcards, .int mpair, .int shown, .int want, .int mwin, .int (bI isCh), .int mbest, .ref k0, .ref k1, .ref k2, .ref k3])), (ms, .inl (cI, 11, .inl f2_9)), (mw, .inl (cI, 11, .inl fw2_10)), (mh, .inl (cI, 12, .inl g2_11))] H := hP
        have hD : va_D A [(m0, .inr (6, [.ref ms, .ref mf, .ref mw, .ref mk, .int (bI mtold), .ref mh, .int (nI hn2_12), .int up2_13, .int targ, .int stan, .int soft, .int doub, .int spli, .int giv, .int bon, .long drw2_7, .int mbank, .ref q0, .ref q1, .ref q2, .int mheaps, .ref q3, .ref q4, .ref q5, .ref q6, .ref q7, .int msum, .int (bI hasA), .int mcards, .int mpair, .int shown, .int want, .int mwin, .int (bI isCh), .int mbest, .ref k0, .ref k1, .ref k2, .ref k3])), (ms, .inl (cI, 11, .inl f2_9)), (mw, .inl (cI, 11, .inl fw2_10)), (mh, .inl (cI, 12, .inl g2_11))] := hD
        refine lv_iload_n hx hb dX6_draw_55 rfl (lv_at hl 0 rfl) ?_
        have hP9 := hP.sub (ws' := [(m0, .inr (6, [.ref ms, .ref mf, .ref mw, .ref mk, .int (bI mtold), .ref mh, .int (nI hn2_12), .int up2_13, .int targ, .int stan, .int soft, .int doub, .int spli, .int giv, .int bon, .long drw2_7, .int mbank, .ref q0, .ref q1, .ref q2, .int mheaps, .ref q3, .ref q4, .ref q5, .ref q6, .ref q7, .int msum, .int (bI hasA), .int mcards, .int mpair, .int shown, .int want, .int mwin, .int (bI isCh), .int mbest, .ref k0, .ref k1, .ref k2, .ref k3])), (ms, .inl (cI, 11, .inl f2_9)), (mw, .inl (cI, 11, .inl fw2_10)), (mh, .inl (cI, 12, .inl g2_11))]) [0, 1, 2, 3] rfl
        have hD9 := hD.sub (ws' := [(m0, .inr (6, [.ref ms, .ref mf, .ref mw, .ref mk, .int (bI mtold), .ref mh, .int (nI hn2_12), .int up2_13, .int targ, .int stan, .int soft, .int doub, .int spli, .int giv, .int bon, .long drw2_7, .int mbank, .ref q0, .ref q1, .ref q2, .int mheaps, .ref q3, .ref q4, .ref q5, .ref q6, .ref q7, .int msum, .int (bI hasA), .int mcards, .int mpair, .int shown, .int want, .int mwin, .int (bI isCh), .int mbest, .ref k0, .ref k1, .ref k2, .ref k3])), (ms, .inl (cI, 11, .inl f2_9)), (mw, .inl (cI, 11, .inl fw2_10)), (mh, .inl (cI, 12, .inl g2_11))]) [0, 1, 2, 3] (by decide) rfl
        exact W.iret (v := r_6) hx hb hr (fun t ht hW => ⟨⟨r_6, ((f2_9), (fw2_10), (g2_11), hn2_12, up2_13, drw2_7), rfl, (by dsimp only; rw [if_neg c9_2, if_neg c20_4, if_neg (fun z => c28_5 z.1)]; exact ⟨hr_6.1, hr_6.2, hr_8⟩), by rw [ht]; exact hP9, va_K.moved hW.alike hK, hD9⟩, hS.F ht⟩) hS.2.2 dX6_draw_56
      · skip
        refine lv_aload_n hx hb dX6_draw_31 rfl (lv_at hl 0 rfl) ?_
        refine va_get (D := D) (ci := 6) (v := .int (nI hn)) (C := RX6) (T := TX6) (N := 39) hx hb hts in_X6_draw_X6 hown hK hP 0 rfl rfl 6 (by decide) (hts _ wd_X6_draw_1) (fun _ h9 => h9) rfl dX6_draw_32 ?_
        refine lv_bipush (v := 12) hx hb dX6_draw_35 (by decide) ?_
        refine lv_icmp_ne (tgt := 44) hx hb dX6_draw_37 (by decide) (fun c37_14 => ?_) (fun c37_14 => ?_)
        · skip
          have nc37_14 : ¬ (hn = 12) := fun z9 => c37_14 ((nI_eq (a := hn) (b := 12) (by omega) (by omega)).mpr z9)
          refine lv_aload_n hx hb dX6_draw_44 rfl (lv_at hl 0 rfl) ?_
          have hPc := hP.sub (ws' := [(m0, .inr (6, [.ref ms, .ref mf, .ref mw, .ref mk, .int (bI mtold), .ref mh, .int (nI hn), .int mup, .int targ, .int stan, .int soft, .int doub, .int spli, .int giv, .int bon, .long drw, .int mbank, .ref q0, .ref q1, .ref q2, .int mheaps, .ref q3, .ref q4, .ref q5, .ref q6, .ref q7, .int msum, .int (bI hasA), .int mcards, .int mpair, .int shown, .int want, .int mwin, .int (bI isCh), .int mbest, .ref k0, .ref k1, .ref k2, .ref k3])), (ms, .inl (cI, 11, .inl f))]) [0, 1] rfl
          have hDc := hD.sub (ws' := [(m0, .inr (6, [.ref ms, .ref mf, .ref mw, .ref mk, .int (bI mtold), .ref mh, .int (nI hn), .int mup, .int targ, .int stan, .int soft, .int doub, .int spli, .int giv, .int bon, .long drw, .int mbank, .ref q0, .ref q1, .ref q2, .int mheaps, .ref q3, .ref q4, .ref q5, .ref q6, .ref q7, .int msum, .int (bI hasA), .int mcards, .int mpair, .int shown, .int want, .int mwin, .int (bI isCh), .int mbest, .ref k0, .ref k1, .ref k2, .ref k3])), (ms, .inl (cI, 11, .inl f))]) [0, 1] (by decide) rfl
          have hFc := va_free (wc := [(m0, .inr (6, [.ref ms, .ref mf, .ref mw, .ref mk, .int (bI mtold), .ref mh, .int (nI hn), .int mup, .int targ, .int stan, .int soft, .int doub, .int spli, .int giv, .int bon, .long drw, .int mbank, .ref q0, .ref q1, .ref q2, .int mheaps, .ref q3, .ref q4, .ref q5, .ref q6, .ref q7, .int msum, .int (bI hasA), .int mcards, .int mpair, .int shown, .int want, .int mwin, .int (bI isCh), .int mbest, .ref k0, .ref k1, .ref k2, .ref k3])), (ms, .inl (cI, 11, .inl f))]) hD hS hA [0, 1] rfl
          refine va_calli (va_runV (As := []) (rest := []) ⟨hx, hb, hml, hown, hts⟩ (c_X6_drawn l D cI cJ cQ _ m0 ms mf mw mk mtold mh hn mup targ stan soft doub spli giv bon drw mbank q0 q1 q2 mheaps q3 q4 q5 q6 q7 msum hasA mcards mpair shown want mwin isCh mbest k0 k1 k2 k3 (f) cc hc (sm_ne hc c20_4)) (cwV 0 hts gX6_draw_X6_drawn rfl rfl rfl (by decide +kernel) ⟨Nat.le_of_ble_eq_true rfl, Nat.le_of_ble_eq_true rfl⟩) (mP_preV (ci := 6) (q0 := 0) hPc hK hDc rfl rfl) rfl rfl hl.1 rfl (lv_room (Nat.le_of_ble_eq_true rfl)) dX6_draw_45 ⟨Nat.le_of_ble_eq_true rfl, Nat.le_of_ble_eq_true rfl⟩) hS (fun q _ h => hFc q h) hFc (fun r_15 u_r_15 t H1 locs ht hvm hr_15 hB hz1 hk1 hS => ?_)
          obtain ⟨drw2_16, rfl⟩ : ∃ z, z = u_r_15 := ⟨_, rfl⟩
          obtain ⟨hP1, hK1, hD1⟩ := hB
          rw [ht] at hP1
          try dsimp only at hr_15
          obtain ⟨hP, hD⟩ := va_join (wr := [(mw, .inl (cI, 11, .inl fw)), (mh, .inl (cI, 12, .inl g))]) (w1 := [(m0, .inr (6, [.ref ms, .ref mf, .ref mw, .ref mk, .int (bI mtold), .ref mh, .int (nI hn), .int mup, .int targ, .int stan, .int soft, .int doub, .int spli, .int giv, .int bon, .long drw2_16, .int mbank, .ref q0, .ref q1, .ref q2, .int mheaps, .ref q3, .ref q4, .ref q5, .ref q6, .ref q7, .int msum, .int (bI hasA), .int mcards, .int mpair, .int shown, .int want, .int mwin, .int (bI isCh), .int mbest, .ref k0, .ref k1, .ref k2, .ref k3])), (ms, .inl (cI, 11, .inl (f)))]) hP hD [0, 1] [2, 3] rfl rfl (by decide) (by decide) hk1 hFc hP1 hD1
          generalize H1 = H at hP hS ⊢
          have hP : va_P D vwCl [(mw, .inl (cI, 11, .inl fw)), (mh, .inl (cI, 12, .inl g)), (m0, .inr (6, [.ref ms, .ref mf, .ref mw, .ref mk, .int (bI mtold), .ref mh, .int (nI hn), .int mup, .int targ, .int stan, .int soft, .int doub, .int spli, .int giv, .int bon, .long drw2_16, .int mbank, .ref q0, .ref q1, .ref q2, .int mheaps, .ref q3, .ref q4, .ref q5, .ref q6, .ref q7, .int msum, .int (bI hasA), .int mcards, .int mpair, .int shown, .int want, .int mwin, .int (bI isCh), .int mbest, .ref k0, .ref k1, .ref k2, .ref k3])), (ms, .inl (cI, 11, .inl (f)))] H := hP
          have hD : va_D A [(mw, .inl (cI, 11, .inl fw)), (mh, .inl (cI, 12, .inl g)), (m0, .inr (6, [.ref ms, .ref mf, .ref mw, .ref mk, .int (bI mtold), .ref mh, .int (nI hn), .int mup, .int targ, .int stan, .int soft, .int doub, .int spli, .int giv, .int bon, .long drw2_16, .int mbank, .ref q0, .ref q1, .ref q2, .int mheaps, .ref q3, .ref q4, .ref q5, .ref q6, .ref q7, .int msum, .int (bI hasA), .int mcards, .int mpair, .int shown, .int want, .int mwin, .int (bI isCh), .int mbest, .ref k0, .ref k1, .ref k2, .ref k3])), (ms, .inl (cI, 11, .inl (f)))] := hD
          refine lv_istore_n (lv' := [(2, .int r_15), (0, .ref m0), (1, .int p0)]) hx hb dX6_draw_48 rfl hl (by decide) rfl (fun ls hl => ?_)
          refine lv_aload_n hx hb dX6_draw_49 rfl (lv_at hl 1 rfl) ?_
          refine lv_iload_n hx hb dX6_draw_50 rfl (lv_at hl 0 rfl) ?_
          refine lv_iload_n hx hb dX6_draw_51 rfl (lv_at hl 2 rfl) ?_
          have hPc := hP.sub (ws' := [(m0, .inr (6, [.ref ms, .ref mf, .ref mw, .ref mk, .int (bI mtold), .ref mh, .int (nI hn), .int mup, .int targ, .int stan, .int soft, .int doub, .int spli, .int giv, .int bon, .long drw2_16, .int mbank, .ref q0, .ref q1, .ref q2, .int mheaps, .ref q3, .ref q4, .ref q5, .ref q6, .ref q7, .int msum, .int (bI hasA), .int mcards, .int mpair, .int shown, .int want, .int mwin, .int (bI isCh), .int mbest, .ref k0, .ref k1, .ref k2, .ref k3])), (ms, .inl (cI, 11, .inl (f))), (mw, .inl (cI, 11, .inl fw)), (mh, .inl (cI, 12, .inl g))]) [2, 3, 0, 1] rfl
          have hDc := hD.sub (ws' := [(m0, .inr (6, [.ref ms, .ref mf, .ref mw, .ref mk, .int (bI mtold), .ref mh, .int (nI hn), .int mup, .int targ, .int stan, .int soft, .int doub, .int spli, .int giv, .int bon, .long drw2_16, .int mbank, .ref q0, .ref q1, .ref q2, .int mheaps, .ref q3, .ref q4, .ref q5, .ref q6, .ref q7, .int msum, .int (bI hasA), .int mcards, .int mpair, .int shown, .int want, .int mwin, .int (bI isCh), .int mbest, .ref k0, .ref k1, .ref k2, .ref k3])), (ms, .inl (cI, 11, .inl (f))), (mw, .inl (cI, 11, .inl fw)), (mh, .inl (cI, 12, .inl g))]) [2, 3, 0, 1] (by decide) rfl
          have hFc := va_free (wc := [(m0, .inr (6, [.ref ms, .ref mf, .ref mw, .ref mk, .int (bI mtold), .ref mh, .int (nI hn), .int mup, .int targ, .int stan, .int soft, .int doub, .int spli, .int giv, .int bon, .long drw2_16, .int mbank, .ref q0, .ref q1, .ref q2, .int mheaps, .ref q3, .ref q4, .ref q5, .ref q6, .ref q7, .int msum, .int (bI hasA), .int mcards, .int mpair, .int shown, .int want, .int mwin, .int (bI isCh), .int mbest, .ref k0, .ref k1, .ref k2, .ref k3])), (ms, .inl (cI, 11, .inl (f))), (mw, .inl (cI, 11, .inl fw)), (mh, .inl (cI, 12, .inl g))]) hD hS hA [2, 3, 0, 1] rfl
          refine va_callv (va_runV (As := [.int r_15, .int p0]) (rest := []) ⟨hx, hb, hml, hown, hts⟩ (c_X6_leaveN l D cI cJ cQ _ m0 ms mf mw mk mtold mh hn mup targ stan soft doub spli giv bon drw2_16 mbank q0 q1 q2 mheaps q3 q4 q5 q6 q7 msum hasA mcards mpair shown want mwin isCh mbest k0 k1 k2 k3 ((f)) (fw) (g) r_15 p0 (by rw [hr_15.1]; exact dr_vp drw hc (sm_ne hc c20_4)) (fun z => by omega)) (cwV 2 hts gX6_draw_X6_leave rfl rfl rfl (by decide +kernel) ⟨Nat.le_of_ble_eq_true rfl, Nat.le_of_ble_eq_true rfl⟩) (mP_preV (ci := 6) (q0 := 0) hPc hK hDc rfl rfl) rfl rfl hl.1 rfl (lv_room (Nat.le_of_ble_eq_true rfl)) dX6_draw_52 ⟨Nat.le_of_ble_eq_true rfl, Nat.le_of_ble_eq_true rfl⟩) hS (fun q _ h => hFc q h) hFc (fun u_r_17 t H1 locs ht hvm hr_17 hB hz1 hk1 hS => ?_)
          obtain ⟨f2_18, fw2_19, g2_20, hn2_21, up2_22⟩ := u_r_17
          obtain ⟨hP1, hK1, hD1⟩ := hB
          rw [ht] at hP1
          try dsimp only at hr_17
          obtain ⟨hP, hD⟩ := va_join (wr := []) (w1 := [(m0, .inr (6, [.ref ms, .ref mf, .ref mw, .ref mk, .int (bI mtold), .ref mh, .int (nI hn2_21), .int up2_22, .int targ, .int stan, .int soft, .int doub, .int spli, .int giv, .int bon, .long drw2_16, .int mbank, .ref q0, .ref q1, .ref q2, .int mheaps, .ref q3, .ref q4, .ref q5, .ref q6, .ref q7, .int msum, .int (bI hasA), .int mcards, .int mpair, .int shown, .int want, .int mwin, .int (bI isCh), .int mbest, .ref k0, .ref k1, .ref k2, .ref k3])), (ms, .inl (cI, 11, .inl f2_18)), (mw, .inl (cI, 11, .inl fw2_19)), (mh, .inl (cI, 12, .inl g2_20))]) hP hD [2, 3, 0, 1] [] rfl rfl (by decide) (by decide) hk1 hFc hP1 hD1
          generalize H1 = H at hP hS ⊢
          have hP : va_P D vwCl [(m0, .inr (6, [.ref ms, .ref mf, .ref mw, .ref mk, .int (bI mtold), .ref mh, .int (nI hn2_21), .int up2_22, .int targ, .int stan, .int soft, .int doub, .int spli, .int giv, .int bon, .long drw2_16, .int mbank, .ref q0, .ref q1, .ref q2, .int mheaps, .ref q3, .ref q4, .ref q5, .ref q6, .ref q7, .int msum, .int (bI hasA), .int mcards, .int mpair, .int shown, .int want, .int mwin, .int (bI isCh), .int mbest, .ref k0, .ref k1, .ref k2, .ref k3])), (ms, .inl (cI, 11, .inl f2_18)), (mw, .inl (cI, 11, .inl fw2_19)), (mh, .inl (cI, 12, .inl g2_20))] H := hP
          have hD : va_D A [(m0, .inr (6, [.ref ms, .ref mf, .ref mw, .ref mk, .int (bI mtold), .ref mh, .int (nI hn2_21), .int up2_22, .int targ, .int stan, .int soft, .int doub, .int spli, .int giv, .int bon, .long drw2_16, .int mbank, .ref q0, .ref q1, .ref q2, .int mheaps, .ref q3, .ref q4, .ref q5, .ref q6, .ref q7, .int msum, .int (bI hasA), .int mcards, .int mpair, .int shown, .int want, .int mwin, .int (bI isCh), .int mbest, .ref k0, .ref k1, .ref k2, .ref k3])), (ms, .inl (cI, 11, .inl f2_18)), (mw, .inl (cI, 11, .inl fw2_19)), (mh, .inl (cI, 12, .inl g2_20))] := hD
          refine lv_iload_n hx hb dX6_draw_55 rfl (lv_at hl 0 rfl) ?_
          have hP9 := hP.sub (ws' := [(m0, .inr (6, [.ref ms, .ref mf, .ref mw, .ref mk, .int (bI mtold), .ref mh, .int (nI hn2_21), .int up2_22, .int targ, .int stan, .int soft, .int doub, .int spli, .int giv, .int bon, .long drw2_16, .int mbank, .ref q0, .ref q1, .ref q2, .int mheaps, .ref q3, .ref q4, .ref q5, .ref q6, .ref q7, .int msum, .int (bI hasA), .int mcards, .int mpair, .int shown, .int want, .int mwin, .int (bI isCh), .int mbest, .ref k0, .ref k1, .ref k2, .ref k3])), (ms, .inl (cI, 11, .inl f2_18)), (mw, .inl (cI, 11, .inl fw2_19)), (mh, .inl (cI, 12, .inl g2_20))]) [0, 1, 2, 3] rfl
          have hD9 := hD.sub (ws' := [(m0, .inr (6, [.ref ms, .ref mf, .ref mw, .ref mk, .int (bI mtold), .ref mh, .int (nI hn2_21), .int up2_22, .int targ, .int stan, .int soft, .int doub, .int spli, .int giv, .int bon, .long drw2_16, .int mbank, .ref q0, .ref q1, .ref q2, .int mheaps, .ref q3, .ref q4, .ref q5, .ref q6, .ref q7, .int msum, .int (bI hasA), .int mcards, .int mpair, .int shown, .int want, .int mwin, .int (bI isCh), .int mbest, .ref k0, .ref k1, .ref k2, .ref k3])), (ms, .inl (cI, 11, .inl f2_18)), (mw, .inl (cI, 11, .inl fw2_19)), (mh, .inl (cI, 12, .inl g2_20))]) [0, 1, 2, 3] (by decide) rfl
          exact W.iret (v := r_15) hx hb hr (fun t ht hW => ⟨⟨r_15, ((f2_18), (fw2_19), (g2_20), hn2_21, up2_22, drw2_16), rfl, (by dsimp only; rw [if_neg c9_2, if_neg c20_4, if_neg (fun z => nc37_14 z.2)]; exact ⟨hr_15.1, hr_15.2, hr_17⟩), by rw [ht]; exact hP9, va_K.moved hW.alike hK, hD9⟩, hS.F ht⟩) hS.2.2 dX6_draw_56
        · skip
          have nc37_14 : hn = 12 := (nI_eq (a := hn) (b := 12) (by omega) (by omega)).mp c37_14
          refine lv_sipush (v := (-1003)) hx hb dX6_draw_40 (by decide) ?_
          have hP9 := hP.sub (ws' := [(m0, .inr (6, [.ref ms, .ref mf, .ref mw, .ref mk, .int (bI mtold), .ref mh, .int (nI hn), .int mup, .int targ, .int stan, .int soft, .int doub, .int spli, .int giv, .int bon, .long drw, .int mbank, .ref q0, .ref q1, .ref q2, .int mheaps, .ref q3, .ref q4, .ref q5, .ref q6, .ref q7, .int msum, .int (bI hasA), .int mcards, .int mpair, .int shown, .int want, .int mwin, .int (bI isCh), .int mbest, .ref k0, .ref k1, .ref k2, .ref k3])), (ms, .inl (cI, 11, .inl f)), (mw, .inl (cI, 11, .inl fw)), (mh, .inl (cI, 12, .inl g))]) [0, 1, 2, 3] rfl
          have hD9 := hD.sub (ws' := [(m0, .inr (6, [.ref ms, .ref mf, .ref mw, .ref mk, .int (bI mtold), .ref mh, .int (nI hn), .int mup, .int targ, .int stan, .int soft, .int doub, .int spli, .int giv, .int bon, .long drw, .int mbank, .ref q0, .ref q1, .ref q2, .int mheaps, .ref q3, .ref q4, .ref q5, .ref q6, .ref q7, .int msum, .int (bI hasA), .int mcards, .int mpair, .int shown, .int want, .int mwin, .int (bI isCh), .int mbest, .ref k0, .ref k1, .ref k2, .ref k3])), (ms, .inl (cI, 11, .inl f)), (mw, .inl (cI, 11, .inl fw)), (mh, .inl (cI, 12, .inl g))]) [0, 1, 2, 3] (by decide) rfl
          exact W.iret (v := (-1003)) hx hb hr (fun t ht hW => ⟨⟨(-1003), ((f), (fw), (g), hn, mup, drw), rfl, (by dsimp only; rw [if_neg c9_2, if_neg c20_4, if_pos ⟨c28_5, nc37_14⟩]; exact ⟨rfl, rfl, rfl, rfl, rfl, rfl, rfl⟩), by rw [ht]; exact hP9, va_K.moved hW.alike hK, hD9⟩, hS.F ht⟩) hS.2.2 dX6_draw_43
    · skip
      refine lv_sipush (v := (-1002)) hx hb dX6_draw_23 (by decide) ?_
      have hP9 := hP.sub (ws' := [(m0, .inr (6, [.ref ms, .ref mf, .ref mw, .ref mk, .int (bI mtold), .ref mh, .int (nI hn), .int mup, .int targ, .int stan, .int soft, .int doub, .int spli, .int giv, .int bon, .long drw, .int mbank, .ref q0, .ref q1, .ref q2, .int mheaps, .ref q3, .ref q4, .ref q5, .ref q6, .ref q7, .int msum, .int (bI hasA), .int mcards, .int mpair, .int shown, .int want, .int mwin, .int (bI isCh), .int mbest, .ref k0, .ref k1, .ref k2, .ref k3])), (ms, .inl (cI, 11, .inl f)), (mw, .inl (cI, 11, .inl fw)), (mh, .inl (cI, 12, .inl g))]) [0, 1, 2, 3] rfl
      have hD9 := hD.sub (ws' := [(m0, .inr (6, [.ref ms, .ref mf, .ref mw, .ref mk, .int (bI mtold), .ref mh, .int (nI hn), .int mup, .int targ, .int stan, .int soft, .int doub, .int spli, .int giv, .int bon, .long drw, .int mbank, .ref q0, .ref q1, .ref q2, .int mheaps, .ref q3, .ref q4, .ref q5, .ref q6, .ref q7, .int msum, .int (bI hasA), .int mcards, .int mpair, .int shown, .int want, .int mwin, .int (bI isCh), .int mbest, .ref k0, .ref k1, .ref k2, .ref k3])), (ms, .inl (cI, 11, .inl f)), (mw, .inl (cI, 11, .inl fw)), (mh, .inl (cI, 12, .inl g))]) [0, 1, 2, 3] (by decide) rfl
      exact W.iret (v := (-1002)) hx hb hr (fun t ht hW => ⟨⟨(-1002), ((f), (fw), (g), hn, mup, drw), rfl, (by dsimp only; rw [if_neg c9_2, if_pos c20_4]; exact ⟨rfl, rfl, rfl, rfl, rfl, rfl, rfl⟩), by rw [ht]; exact hP9, va_K.moved hW.alike hK, hD9⟩, hS.F ht⟩) hS.2.2 dX6_draw_26
  · skip
    refine lv_sipush (v := (-1001)) hx hb dX6_draw_12 (by decide) ?_
    have hP9 := hP.sub (ws' := [(m0, .inr (6, [.ref ms, .ref mf, .ref mw, .ref mk, .int (bI mtold), .ref mh, .int (nI hn), .int mup, .int targ, .int stan, .int soft, .int doub, .int spli, .int giv, .int bon, .long drw, .int mbank, .ref q0, .ref q1, .ref q2, .int mheaps, .ref q3, .ref q4, .ref q5, .ref q6, .ref q7, .int msum, .int (bI hasA), .int mcards, .int mpair, .int shown, .int want, .int mwin, .int (bI isCh), .int mbest, .ref k0, .ref k1, .ref k2, .ref k3])), (ms, .inl (cI, 11, .inl f)), (mw, .inl (cI, 11, .inl fw)), (mh, .inl (cI, 12, .inl g))]) [0, 1, 2, 3] rfl
    have hD9 := hD.sub (ws' := [(m0, .inr (6, [.ref ms, .ref mf, .ref mw, .ref mk, .int (bI mtold), .ref mh, .int (nI hn), .int mup, .int targ, .int stan, .int soft, .int doub, .int spli, .int giv, .int bon, .long drw, .int mbank, .ref q0, .ref q1, .ref q2, .int mheaps, .ref q3, .ref q4, .ref q5, .ref q6, .ref q7, .int msum, .int (bI hasA), .int mcards, .int mpair, .int shown, .int want, .int mwin, .int (bI isCh), .int mbest, .ref k0, .ref k1, .ref k2, .ref k3])), (ms, .inl (cI, 11, .inl f)), (mw, .inl (cI, 11, .inl fw)), (mh, .inl (cI, 12, .inl g))]) [0, 1, 2, 3] (by decide) rfl
    exact W.iret (v := (-1001)) hx hb hr (fun t ht hW => ⟨⟨(-1001), ((f), (fw), (g), hn, mup, drw), rfl, (by dsimp only; rw [if_pos c9_2]; exact ⟨rfl, rfl, rfl, rfl, rfl, rfl, rfl⟩), by rw [ht]; exact hP9, va_K.moved hW.alike hK, hD9⟩, hS.F ht⟩) hS.2.2 dX6_draw_15

set_option maxRecDepth 20000 in
theorem in_X6_told_X6 : ∀ w ∈ wsX60, w ∈ wsX6_told := by decide +kernel
set_option maxRecDepth 20000 in
theorem wd_X6_told_0 : Cond.fieldLink RX6 98 "ShoeTableModel" "hands" "I" ∈ wsX6_told := by decide +kernel
set_option maxRecDepth 20000 in
theorem wd_X6_told_1 : Cond.fieldLink RX6 25 "ShoeTableModel" "target" "I" ∈ wsX6_told := by decide +kernel
set_option maxRecDepth 20000 in
theorem wd_X6_told_2 : Cond.fieldLink RX6 101 "ShoeTableModel" "up" "I" ∈ wsX6_told := by decide +kernel
set_option maxRecDepth 20000 in
theorem wd_X6_told_3 : Cond.fieldLink RX6 156 "ShoeTableModel" "bank" "I" ∈ wsX6_told := by decide +kernel
set_option maxRecDepth 20000 in
theorem wd_X6_told_4 : Cond.constantLong RX6 86 (10) ∈ wsX6_told := by decide +kernel
set_option maxRecDepth 20000 in
theorem wd_X6_told_5 : Cond.constantLong RX6 110 (21) ∈ wsX6_told := by decide +kernel
set_option maxRecDepth 20000 in
theorem wd_X6_told_6 : Cond.fieldLink RX6 22 "ShoeTableModel" "hand" "[I" ∈ wsX6_told := by decide +kernel
set_option maxHeartbeats 400000 in
set_option maxRecDepth 100000 in
/-- X6_told -/
theorem c_X6_told (l : Launch) (D : va_G) (cI cJ cQ : ClassId) (m0 : Nat) (ms : Nat) (mf : Nat) (mw : Nat) (mk : Nat) (mtold : Bool) (mh : Nat) (hn : Nat) (mup : Int32) (targ : Int32) (stan : Int32) (soft : Int32) (doub : Int32) (spli : Int32) (giv : Int32) (bon : Int32) (drw : Int64) (mbank : Int32) (q0 : Nat) (q1 : Nat) (q2 : Nat) (mheaps : Int32) (q3 : Nat) (q4 : Nat) (q5 : Nat) (q6 : Nat) (q7 : Nat) (msum : Int32) (hasA : Bool) (mcards : Int32) (mpair : Int32) (shown : Int32) (want : Int32) (mwin : Int32) (isCh : Bool) (mbest : Int32) (k0 : Nat) (k1 : Nat) (k2 : Nat) (k3 : Nat) (g : Nat → Int32) (mm : Nat → Int32) (fw : Nat → Int32) (p0 : Int32) (hn12 : hn ≤ 12) : Met l yX6_told wsX6_told ({ frames := 3, cells := 0, slots := 0, locals := 62 }) (va_Pc [.ref m0, .int p0] (rP D (gTy cI cJ cQ) [(m0, .inr (6, [.ref ms, .ref mf, .ref mw, .ref mk, .int (bI mtold), .ref mh, .int (nI hn), .int mup, .int targ, .int stan, .int soft, .int doub, .int spli, .int giv, .int bon, .long drw, .int mbank, .ref q0, .ref q1, .ref q2, .int mheaps, .ref q3, .ref q4, .ref q5, .ref q6, .ref q7, .int msum, .int (bI hasA), .int mcards, .int mpair, .int shown, .int want, .int mwin, .int (bI isCh), .int mbest, .ref k0, .ref k1, .ref k2, .ref k3])), (mh, .inl (cI, 12, .inl g)), (mk, .inl (cI, 11, .inl mm)), (mw, .inl (cI, 11, .inl fw))])) (vp_Si (fun r => r = tldM targ hn g mup mm fw mbank p0)) 0 0 (fun _ => False) := by
  refine Met.ofW (cc := cX6_told) (maxL := 2) (ret := (some .int)) (by decide) rfl ?_
  intro p e s m args below meth c s₁ B hml hv
  obtain ⟨rfl, hP, hK⟩ := hv
  have hx := B.exec
  have hb := B.bytes
  have hr := B.returns
  have hts := atoms_spec (ws := wsX6_told) B.pre
  have hown : s.vm.findClass RX6 = some m.cls := findClass_of_methodNamed B.named
  have hlocks := B.notSynchronized
  have hl := lv_entry ([.ref m0, .int p0]) (n := 2) (Nat.le_of_ble_eq_true rfl)
  rw [lg_entry_eq]
  generalize (lg_sl ([.ref m0, .int p0]) ++ List.replicate (2 - (lg_sl ([.ref m0, .int p0])).length) Slot.unset).toArray = ls at hl ⊢
  have hl : lv_has ls 2 [(0, .ref m0), (1, .int p0)] := hl
  refine lv_iload_n hx hb dX6_told_0 rfl (lv_at hl 1 rfl) ?_
  by_cases k0_1 : p0 = 0
  · subst k0_1
    refine lv_tableIn (off := 51) (tgt := 52) hx hb dX6_told_1 (by decide) (by decide) (by decide) (by decide) ?_
    refine lv_aload_n hx hb dX6_told_52 rfl (lv_at hl 0 rfl) ?_
    refine va_get (D := D) (ci := 6) (v := .int (nI hn)) (C := RX6) (T := TX6) (N := 39) hx hb hts in_X6_told_X6 hown hK hP 0 rfl rfl 6 (by decide) (hts _ wd_X6_told_0) (fun _ h9 => h9) rfl dX6_told_53 ?_
    exact W.iret (v := (nI hn)) hx hb hr (fun t ht hW => ⟨_, rfl, (by first | rfl | (unfold tldM; first | (simp []; done) | rfl)), ht⟩) (fun q hq => absurd hq List.not_mem_nil) dX6_told_56
  by_cases k1_2 : p0 = 1
  · subst k1_2
    refine lv_tableIn (off := 56) (tgt := 57) hx hb dX6_told_1 (by decide) (by decide) (by decide) (by decide) ?_
    refine lv_aload_n hx hb dX6_told_57 rfl (lv_at hl 0 rfl) ?_
    have hPc := hP.sub (ws' := [(m0, .inr (6, [.ref ms, .ref mf, .ref mw, .ref mk, .int (bI mtold), .ref mh, .int (nI hn), .int mup, .int targ, .int stan, .int soft, .int doub, .int spli, .int giv, .int bon, .long drw, .int mbank, .ref q0, .ref q1, .ref q2, .int mheaps, .ref q3, .ref q4, .ref q5, .ref q6, .ref q7, .int msum, .int (bI hasA), .int mcards, .int mpair, .int shown, .int want, .int mwin, .int (bI isCh), .int mbest, .ref k0, .ref k1, .ref k2, .ref k3])), (mh, .inl (cI, 12, .inl g))]) [0, 1] rfl
    refine vp_callSi (W.runV (As := []) (rest := []) ⟨hx, hb, hml, hown, hts⟩ (c_X6_handValue l D cI cJ cQ m0 ms mf mw mk mtold mh hn mup targ stan soft doub spli giv bon drw mbank q0 q1 q2 mheaps q3 q4 q5 q6 q7 msum hasA mcards mpair shown want mwin isCh mbest k0 k1 k2 k3 (g) hn12) (cwV 0 hts gX6_told_X6_handValue rfl rfl rfl (by decide +kernel) ⟨Nat.le_of_ble_eq_true rfl, Nat.le_of_ble_eq_true rfl⟩) (rP_preV (ci := 6) (q0 := 0) hPc hK rfl rfl) rfl rfl hl.1 rfl (lv_room (Nat.le_of_ble_eq_true rfl)) dX6_told_58 ⟨Nat.le_of_ble_eq_true rfl, Nat.le_of_ble_eq_true rfl⟩) (fun r_3 hr_3 => ?_)
    subst hr_3
    exact W.iret (v := (vlM targ (hsN (g) hn) (haN (g) hn))) hx hb hr (fun t ht hW => ⟨_, rfl, (by first | rfl | (unfold tldM; first | (simp []; done) | rfl)), ht⟩) (fun q hq => absurd hq List.not_mem_nil) dX6_told_61
  by_cases k2_4 : p0 = 2
  · subst k2_4
    refine lv_tableIn (off := 61) (tgt := 62) hx hb dX6_told_1 (by decide) (by decide) (by decide) (by decide) ?_
    refine lv_aload_n hx hb dX6_told_62 rfl (lv_at hl 0 rfl) ?_
    have hPc := hP.sub (ws' := [(m0, .inr (6, [.ref ms, .ref mf, .ref mw, .ref mk, .int (bI mtold), .ref mh, .int (nI hn), .int mup, .int targ, .int stan, .int soft, .int doub, .int spli, .int giv, .int bon, .long drw, .int mbank, .ref q0, .ref q1, .ref q2, .int mheaps, .ref q3, .ref q4, .ref q5, .ref q6, .ref q7, .int msum, .int (bI hasA), .int mcards, .int mpair, .int shown, .int want, .int mwin, .int (bI isCh), .int mbest, .ref k0, .ref k1, .ref k2, .ref k3])), (mh, .inl (cI, 12, .inl g))]) [0, 1] rfl
    refine vp_callSi (W.runV (As := []) (rest := []) ⟨hx, hb, hml, hown, hts⟩ (c_X6_handValue l D cI cJ cQ m0 ms mf mw mk mtold mh hn mup targ stan soft doub spli giv bon drw mbank q0 q1 q2 mheaps q3 q4 q5 q6 q7 msum hasA mcards mpair shown want mwin isCh mbest k0 k1 k2 k3 (g) hn12) (cwV 0 hts gX6_told_X6_handValue rfl rfl rfl (by decide +kernel) ⟨Nat.le_of_ble_eq_true rfl, Nat.le_of_ble_eq_true rfl⟩) (rP_preV (ci := 6) (q0 := 0) hPc hK rfl rfl) rfl rfl hl.1 rfl (lv_room (Nat.le_of_ble_eq_true rfl)) dX6_told_63 ⟨Nat.le_of_ble_eq_true rfl, Nat.le_of_ble_eq_true rfl⟩) (fun r_5 hr_5 => ?_)
    subst hr_5
    refine lv_aload_n hx hb dX6_told_66 rfl (lv_at hl 0 rfl) ?_
    have hPc := hP.sub (ws' := [(m0, .inr (6, [.ref ms, .ref mf, .ref mw, .ref mk, .int (bI mtold), .ref mh, .int (nI hn), .int mup, .int targ, .int stan, .int soft, .int doub, .int spli, .int giv, .int bon, .long drw, .int mbank, .ref q0, .ref q1, .ref q2, .int mheaps, .ref q3, .ref q4, .ref q5, .ref q6, .ref q7, .int msum, .int (bI hasA), .int mcards, .int mpair, .int shown, .int want, .int mwin, .int (bI isCh), .int mbest, .ref k0, .ref k1, .ref k2, .ref k3])), (mh, .inl (cI, 12, .inl g))]) [0, 1] rfl
    refine vp_callSi (W.runV (As := []) (rest := [.int (vlM targ (hsN (g) hn) (haN (g) hn))]) ⟨hx, hb, hml, hown, hts⟩ (c_X6_handSum l D cI cJ cQ m0 ms mf mw mk mtold mh hn mup targ stan soft doub spli giv bon drw mbank q0 q1 q2 mheaps q3 q4 q5 q6 q7 msum hasA mcards mpair shown want mwin isCh mbest k0 k1 k2 k3 (g) hn12) (cwV 0 hts gX6_told_X6_handSum rfl rfl rfl (by decide +kernel) ⟨Nat.le_of_ble_eq_true rfl, Nat.le_of_ble_eq_true rfl⟩) (rP_preV (ci := 6) (q0 := 0) hPc hK rfl rfl) rfl rfl hl.1 rfl (lv_room (Nat.le_of_ble_eq_true rfl)) dX6_told_67 ⟨Nat.le_of_ble_eq_true rfl, Nat.le_of_ble_eq_true rfl⟩) (fun r_6 hr_6 => ?_)
    subst hr_6
    refine lv_icmp_le (tgt := 77) hx hb dX6_told_70 (by decide) (fun c70_7 => ?_) (fun c70_7 => ?_)
    · skip
      refine lv_iconst (v := 0) hx hb dX6_told_77 (by decide) ?_
      exact W.iret (v := 0) hx hb hr (fun t ht hW => ⟨_, rfl, (by first | rfl | (unfold tldM; first | (simp [c70_7]; done) | ((try first | rw [if_pos c70_7] | rw [if_neg c70_7]); first | done | rfl | trivial))), ht⟩) (fun q hq => absurd hq List.not_mem_nil) dX6_told_78
    · skip
      refine lv_iconst (v := 1) hx hb dX6_told_73 (by decide) ?_
      refine lv_goto (tgt := 78) hx hb dX6_told_74 (by decide) ?_
      exact W.iret (v := 1) hx hb hr (fun t ht hW => ⟨_, rfl, (by first | rfl | (unfold tldM; first | (simp [c70_7]; done) | ((try first | rw [if_pos c70_7] | rw [if_neg c70_7]); first | done | rfl | trivial))), ht⟩) (fun q hq => absurd hq List.not_mem_nil) dX6_told_78
  by_cases k3_8 : p0 = 3
  · subst k3_8
    refine lv_tableIn (off := 78) (tgt := 79) hx hb dX6_told_1 (by decide) (by decide) (by decide) (by decide) ?_
    refine lv_aload_n hx hb dX6_told_79 rfl (lv_at hl 0 rfl) ?_
    have hPc := hP.sub (ws' := [(m0, .inr (6, [.ref ms, .ref mf, .ref mw, .ref mk, .int (bI mtold), .ref mh, .int (nI hn), .int mup, .int targ, .int stan, .int soft, .int doub, .int spli, .int giv, .int bon, .long drw, .int mbank, .ref q0, .ref q1, .ref q2, .int mheaps, .ref q3, .ref q4, .ref q5, .ref q6, .ref q7, .int msum, .int (bI hasA), .int mcards, .int mpair, .int shown, .int want, .int mwin, .int (bI isCh), .int mbest, .ref k0, .ref k1, .ref k2, .ref k3])), (mh, .inl (cI, 12, .inl g))]) [0, 1] rfl
    refine vp_callSi (W.runV (As := []) (rest := []) ⟨hx, hb, hml, hown, hts⟩ (c_X6_isNatural l D cI cJ cQ m0 ms mf mw mk mtold mh hn mup targ stan soft doub spli giv bon drw mbank q0 q1 q2 mheaps q3 q4 q5 q6 q7 msum hasA mcards mpair shown want mwin isCh mbest k0 k1 k2 k3 (g) hn12) (cwV 0 hts gX6_told_X6_isNatural rfl rfl rfl (by decide +kernel) ⟨Nat.le_of_ble_eq_true rfl, Nat.le_of_ble_eq_true rfl⟩) (rP_preV (ci := 6) (q0 := 0) hPc hK rfl rfl) rfl rfl hl.1 rfl (lv_room (Nat.le_of_ble_eq_true rfl)) dX6_told_80 ⟨Nat.le_of_ble_eq_true rfl, Nat.le_of_ble_eq_true rfl⟩) (fun r_9 hr_9 => ?_)
    subst hr_9
    refine lv_if_eq (tgt := 90) hx hb dX6_told_83 (by decide) (fun c83_10 => ?_) (fun c83_10 => ?_)
    · skip
      have nc83_10 : (naM targ (vlM targ (hsN (g) hn) (haN (g) hn)) (nI hn)) = false := (bI_0 _).mp c83_10
      refine lv_iconst (v := 0) hx hb dX6_told_90 (by decide) ?_
      exact W.iret (v := 0) hx hb hr (fun t ht hW => ⟨_, rfl, (by first | rfl | (unfold tldM; first | (simp [c83_10, nc83_10]; done) | ((try first | rw [if_pos c83_10] | rw [if_neg c83_10]); (try first | rw [if_pos nc83_10] | rw [if_neg nc83_10]); first | done | rfl | trivial))), ht⟩) (fun q hq => absurd hq List.not_mem_nil) dX6_told_91
    · skip
      have nc83_10 : (naM targ (vlM targ (hsN (g) hn) (haN (g) hn)) (nI hn)) = true := bI_1 c83_10
      refine lv_iconst (v := 1) hx hb dX6_told_86 (by decide) ?_
      refine lv_goto (tgt := 91) hx hb dX6_told_87 (by decide) ?_
      exact W.iret (v := 1) hx hb hr (fun t ht hW => ⟨_, rfl, (by first | rfl | (unfold tldM; first | (simp [c83_10, nc83_10]; done) | ((try first | rw [if_pos c83_10] | rw [if_neg c83_10]); (try first | rw [if_pos nc83_10] | rw [if_neg nc83_10]); first | done | rfl | trivial))), ht⟩) (fun q hq => absurd hq List.not_mem_nil) dX6_told_91
  by_cases k4_11 : p0 = 4
  · subst k4_11
    refine lv_tableIn (off := 91) (tgt := 92) hx hb dX6_told_1 (by decide) (by decide) (by decide) (by decide) ?_
    refine lv_aload_n hx hb dX6_told_92 rfl (lv_at hl 0 rfl) ?_
    have hPc := hP.sub (ws' := [(m0, .inr (6, [.ref ms, .ref mf, .ref mw, .ref mk, .int (bI mtold), .ref mh, .int (nI hn), .int mup, .int targ, .int stan, .int soft, .int doub, .int spli, .int giv, .int bon, .long drw, .int mbank, .ref q0, .ref q1, .ref q2, .int mheaps, .ref q3, .ref q4, .ref q5, .ref q6, .ref q7, .int msum, .int (bI hasA), .int mcards, .int mpair, .int shown, .int want, .int mwin, .int (bI isCh), .int mbest, .ref k0, .ref k1, .ref k2, .ref k3])), (mh, .inl (cI, 12, .inl g))]) [0, 1] rfl
    refine vp_callSi (W.runV (As := []) (rest := []) ⟨hx, hb, hml, hown, hts⟩ (c_X6_handValue l D cI cJ cQ m0 ms mf mw mk mtold mh hn mup targ stan soft doub spli giv bon drw mbank q0 q1 q2 mheaps q3 q4 q5 q6 q7 msum hasA mcards mpair shown want mwin isCh mbest k0 k1 k2 k3 (g) hn12) (cwV 0 hts gX6_told_X6_handValue rfl rfl rfl (by decide +kernel) ⟨Nat.le_of_ble_eq_true rfl, Nat.le_of_ble_eq_true rfl⟩) (rP_preV (ci := 6) (q0 := 0) hPc hK rfl rfl) rfl rfl hl.1 rfl (lv_room (Nat.le_of_ble_eq_true rfl)) dX6_told_93 ⟨Nat.le_of_ble_eq_true rfl, Nat.le_of_ble_eq_true rfl⟩) (fun r_12 hr_12 => ?_)
    subst hr_12
    refine lv_aload_n hx hb dX6_told_96 rfl (lv_at hl 0 rfl) ?_
    refine va_get (D := D) (ci := 6) (v := .int targ) (C := RX6) (T := TX6) (N := 39) hx hb hts in_X6_told_X6 hown hK hP 0 rfl rfl 8 (by decide) (hts _ wd_X6_told_1) (fun _ h9 => h9) rfl dX6_told_97 ?_
    refine lv_icmp_le (tgt := 107) hx hb dX6_told_100 (by decide) (fun c100_13 => ?_) (fun c100_13 => ?_)
    · skip
      refine lv_iconst (v := 0) hx hb dX6_told_107 (by decide) ?_
      exact W.iret (v := 0) hx hb hr (fun t ht hW => ⟨_, rfl, (by first | rfl | (unfold tldM; first | (simp [c100_13]; done) | ((try first | rw [if_pos c100_13] | rw [if_neg c100_13]); first | done | rfl | trivial))), ht⟩) (fun q hq => absurd hq List.not_mem_nil) dX6_told_108
    · skip
      refine lv_iconst (v := 1) hx hb dX6_told_103 (by decide) ?_
      refine lv_goto (tgt := 108) hx hb dX6_told_104 (by decide) ?_
      exact W.iret (v := 1) hx hb hr (fun t ht hW => ⟨_, rfl, (by first | rfl | (unfold tldM; first | (simp [c100_13]; done) | ((try first | rw [if_pos c100_13] | rw [if_neg c100_13]); first | done | rfl | trivial))), ht⟩) (fun q hq => absurd hq List.not_mem_nil) dX6_told_108
  by_cases k5_14 : p0 = 5
  · subst k5_14
    refine lv_tableIn (off := 108) (tgt := 109) hx hb dX6_told_1 (by decide) (by decide) (by decide) (by decide) ?_
    refine lv_aload_n hx hb dX6_told_109 rfl (lv_at hl 0 rfl) ?_
    refine va_get (D := D) (ci := 6) (v := .int mup) (C := RX6) (T := TX6) (N := 39) hx hb hts in_X6_told_X6 hown hK hP 0 rfl rfl 7 (by decide) (hts _ wd_X6_told_2) (fun _ h9 => h9) rfl dX6_told_110 ?_
    refine lv_if_le (tgt := 123) hx hb dX6_told_113 (by decide) (fun c113_15 => ?_) (fun c113_15 => ?_)
    · skip
      refine lv_iconst (v := (-1)) hx hb dX6_told_123 (by decide) ?_
      exact W.iret (v := (-1)) hx hb hr (fun t ht hW => ⟨_, rfl, (by first | rfl | (unfold tldM; first | (simp [c113_15]; done) | ((try first | rw [if_pos c113_15] | rw [if_neg c113_15]); first | done | rfl | trivial))), ht⟩) (fun q hq => absurd hq List.not_mem_nil) dX6_told_124
    · skip
      refine lv_aload_n hx hb dX6_told_116 rfl (lv_at hl 0 rfl) ?_
      refine va_get (D := D) (ci := 6) (v := .int mup) (C := RX6) (T := TX6) (N := 39) hx hb hts in_X6_told_X6 hown hK hP 0 rfl rfl 7 (by decide) (hts _ wd_X6_told_2) (fun _ h9 => h9) rfl dX6_told_117 ?_
      refine lv_goto (tgt := 124) hx hb dX6_told_120 (by decide) ?_
      exact W.iret (v := mup) hx hb hr (fun t ht hW => ⟨_, rfl, (by first | rfl | (unfold tldM; first | (simp [c113_15]; done) | ((try first | rw [if_pos c113_15] | rw [if_neg c113_15]); first | done | rfl | trivial))), ht⟩) (fun q hq => absurd hq List.not_mem_nil) dX6_told_124
  by_cases k6_16 : p0 = 6
  · subst k6_16
    refine lv_tableIn (off := 124) (tgt := 125) hx hb dX6_told_1 (by decide) (by decide) (by decide) (by decide) ?_
    refine lv_aload_n hx hb dX6_told_125 rfl (lv_at hl 0 rfl) ?_
    have hPc := hP.sub (ws' := [(m0, .inr (6, [.ref ms, .ref mf, .ref mw, .ref mk, .int (bI mtold), .ref mh, .int (nI hn), .int mup, .int targ, .int stan, .int soft, .int doub, .int spli, .int giv, .int bon, .long drw, .int mbank, .ref q0, .ref q1, .ref q2, .int mheaps, .ref q3, .ref q4, .ref q5, .ref q6, .ref q7, .int msum, .int (bI hasA), .int mcards, .int mpair, .int shown, .int want, .int mwin, .int (bI isCh), .int mbest, .ref k0, .ref k1, .ref k2, .ref k3])), (mw, .inl (cI, 11, .inl fw)), (mk, .inl (cI, 11, .inl mm))]) [0, 3, 2] rfl
    refine vp_callSi (W.runV (As := []) (rest := []) ⟨hx, hb, hml, hown, hts⟩ (c_X6_counted l D cI cJ cQ m0 ms mf mw mk mtold mh (nI hn) mup targ stan soft doub spli giv bon drw mbank q0 q1 q2 mheaps q3 q4 q5 q6 q7 msum hasA mcards mpair shown want mwin isCh mbest k0 k1 k2 k3 (fw) (mm)) (cwV 0 hts gX6_told_X6_counted rfl rfl rfl (by decide +kernel) ⟨Nat.le_of_ble_eq_true rfl, Nat.le_of_ble_eq_true rfl⟩) (rP_preV (ci := 6) (q0 := 0) hPc hK rfl rfl) rfl rfl hl.1 rfl (lv_room (Nat.le_of_ble_eq_true rfl)) dX6_told_126 ⟨Nat.le_of_ble_eq_true rfl, Nat.le_of_ble_eq_true rfl⟩) (fun r_17 hr_17 => ?_)
    subst hr_17
    exact W.iret (v := (cntG (mm) (fw))) hx hb hr (fun t ht hW => ⟨_, rfl, (by first | rfl | (unfold tldM; first | (simp []; done) | rfl)), ht⟩) (fun q hq => absurd hq List.not_mem_nil) dX6_told_129
  by_cases k7_18 : p0 = 7
  · subst k7_18
    refine lv_tableIn (off := 129) (tgt := 130) hx hb dX6_told_1 (by decide) (by decide) (by decide) (by decide) ?_
    refine lv_aload_n hx hb dX6_told_130 rfl (lv_at hl 0 rfl) ?_
    refine va_get (D := D) (ci := 6) (v := .int mbank) (C := RX6) (T := TX6) (N := 39) hx hb hts in_X6_told_X6 hown hK hP 0 rfl rfl 16 (by decide) (hts _ wd_X6_told_3) (fun _ h9 => h9) rfl dX6_told_131 ?_
    exact W.iret (v := mbank) hx hb hr (fun t ht hW => ⟨_, rfl, (by first | rfl | (unfold tldM; first | (simp []; done) | rfl)), ht⟩) (fun q hq => absurd hq List.not_mem_nil) dX6_told_134
  by_cases k8_19 : p0 = 8
  · subst k8_19
    refine lv_tableIn (off := 134) (tgt := 135) hx hb dX6_told_1 (by decide) (by decide) (by decide) (by decide) ?_
    refine lv_aload_n hx hb dX6_told_135 rfl (lv_at hl 0 rfl) ?_
    have hPc := hP.sub (ws' := [(m0, .inr (6, [.ref ms, .ref mf, .ref mw, .ref mk, .int (bI mtold), .ref mh, .int (nI hn), .int mup, .int targ, .int stan, .int soft, .int doub, .int spli, .int giv, .int bon, .long drw, .int mbank, .ref q0, .ref q1, .ref q2, .int mheaps, .ref q3, .ref q4, .ref q5, .ref q6, .ref q7, .int msum, .int (bI hasA), .int mcards, .int mpair, .int shown, .int want, .int mwin, .int (bI isCh), .int mbest, .ref k0, .ref k1, .ref k2, .ref k3])), (mw, .inl (cI, 11, .inl fw))]) [0, 3] rfl
    refine vp_callSi (W.runV (As := []) (rest := []) ⟨hx, hb, hml, hown, hts⟩ (c_X6_gone l D cI cJ cQ m0 ms mf mw mk mtold mh (nI hn) mup targ stan soft doub spli giv bon drw mbank q0 q1 q2 mheaps q3 q4 q5 q6 q7 msum hasA mcards mpair shown want mwin isCh mbest k0 k1 k2 k3 (fw)) (cwV 0 hts gX6_told_X6_gone rfl rfl rfl (by decide +kernel) ⟨Nat.le_of_ble_eq_true rfl, Nat.le_of_ble_eq_true rfl⟩) (rP_preV (ci := 6) (q0 := 0) hPc hK rfl rfl) rfl rfl hl.1 rfl (lv_room (Nat.le_of_ble_eq_true rfl)) dX6_told_136 ⟨Nat.le_of_ble_eq_true rfl, Nat.le_of_ble_eq_true rfl⟩) (fun r_20 hr_20 => ?_)
    subst hr_20
    exact W.iret (v := (sm10 (fw))) hx hb hr (fun t ht hW => ⟨_, rfl, (by first | rfl | (unfold tldM; first | (simp []; done) | rfl)), ht⟩) (fun q hq => absurd hq List.not_mem_nil) dX6_told_139
  refine lv_tableOut (tgt := 140) hx hb dX6_told_1 (by have := lv_neT k0_1 (a := 0) (by decide); have := lv_neT k1_2 (a := 1) (by decide); have := lv_neT k2_4 (a := 2) (by decide); have := lv_neT k3_8 (a := 3) (by decide); have := lv_neT k4_11 (a := 4) (by decide); have := lv_neT k5_14 (a := 5) (by decide); have := lv_neT k6_16 (a := 6) (by decide); have := lv_neT k7_18 (a := 7) (by decide); have := lv_neT k8_19 (a := 8) (by decide); omega) (by decide) ?_
  refine lv_iload_n hx hb dX6_told_140 rfl (lv_at hl 1 rfl) ?_
  refine lv_i2l (v := p0.toInt64) hx hb dX6_told_141 rfl ?_
  refine lv_ldc2 hx hb hown (hts _ wd_X6_told_4) dX6_told_142 ?_
  refine lv_ldc2 hx hb hown (hts _ wd_X6_told_5) dX6_told_145 ?_
  have hPc := hP.sub (ws' := []) [] rfl
  refine vp_callSi (W.runS (As := [.long p0.toInt64, .long 10, .long 21]) (rest := []) ⟨hx, hb, hml, hown, hts⟩ (c_X6_in l D cI cJ cQ p0.toInt64 10 21) (va_cwS 3 hts gX6_told_X6_in rfl rfl rfl (by decide +kernel) ⟨Nat.le_of_ble_eq_true rfl, Nat.le_of_ble_eq_true rfl⟩) (rP_preS hPc hK) rfl rfl hl.1 rfl (lv_room (Nat.le_of_ble_eq_true rfl)) dX6_told_148 ⟨Nat.le_of_ble_eq_true rfl, Nat.le_of_ble_eq_true rfl⟩) (fun r_21 hr_21 => ?_)
  subst hr_21
  refine lv_if_ne (tgt := 160) hx hb dX6_told_151 (by decide) (fun c151_22 => ?_) (fun c151_22 => ?_)
  · skip
    refine lv_iload_n hx hb dX6_told_160 rfl (lv_at hl 1 rfl) ?_
    refine lv_bipush (v := 10) hx hb dX6_told_161 (by decide) ?_
    refine lv_isub hx hb dX6_told_163 ?_
    refine lv_aload_n hx hb dX6_told_164 rfl (lv_at hl 0 rfl) ?_
    refine va_get (D := D) (ci := 6) (v := .int (nI hn)) (C := RX6) (T := TX6) (N := 39) hx hb hts in_X6_told_X6 hown hK hP 0 rfl rfl 6 (by decide) (hts _ wd_X6_told_0) (fun _ h9 => h9) rfl dX6_told_165 ?_
    refine lv_icmp_ge (tgt := 183) hx hb dX6_told_168 (by decide) (fun c168_23 => ?_) (fun c168_23 => ?_)
    · skip
      refine lv_iconst (v := (-1)) hx hb dX6_told_183 (by decide) ?_
      exact W.iret (v := (-1)) hx hb hr (fun t ht hW => ⟨_, rfl, (by first | rfl | (unfold tldM; first | (simp [k0_1, k1_2, k2_4, k3_8, k4_11, k5_14, k6_16, k7_18, k8_19, c151_22, c168_23]; done) | ((try first | rw [if_pos k0_1] | rw [if_neg k0_1]); (try first | rw [if_pos k1_2] | rw [if_neg k1_2]); (try first | rw [if_pos k2_4] | rw [if_neg k2_4]); (try first | rw [if_pos k3_8] | rw [if_neg k3_8]); (try first | rw [if_pos k4_11] | rw [if_neg k4_11]); (try first | rw [if_pos k5_14] | rw [if_neg k5_14]); (try first | rw [if_pos k6_16] | rw [if_neg k6_16]); (try first | rw [if_pos k7_18] | rw [if_neg k7_18]); (try first | rw [if_pos k8_19] | rw [if_neg k8_19]); (try first | rw [if_pos c151_22] | rw [if_neg c151_22]); (try first | rw [if_pos c168_23] | rw [if_neg c168_23]); first | done | rfl | trivial))), ht⟩) (fun q hq => absurd hq List.not_mem_nil) dX6_told_184
    · skip
      refine lv_aload_n hx hb dX6_told_171 rfl (lv_at hl 0 rfl) ?_
      refine va_get (D := D) (ci := 6) (v := .ref mh) (C := RX6) (T := TX6) (N := 39) hx hb hts in_X6_told_X6 hown hK hP 0 rfl rfl 5 (by decide) (hts _ wd_X6_told_6) (fun _ h9 => h9) rfl dX6_told_172 ?_
      refine lv_iload_n hx hb dX6_told_175 rfl (lv_at hl 1 rfl) ?_
      refine lv_bipush (v := 10) hx hb dX6_told_176 (by decide) ?_
      refine lv_isub hx hb dX6_told_178 ?_
      refine va_iald hx hb hK hP 1 0 rfl rfl (told_in (n := hn) c151_22) dX6_told_179 ?_
      refine lv_goto (tgt := 184) hx hb dX6_told_180 (by decide) ?_
      exact W.iret (v := (g (p0 - 10).toNatClampNeg)) hx hb hr (fun t ht hW => ⟨_, rfl, (by first | rfl | (unfold tldM; first | (simp [k0_1, k1_2, k2_4, k3_8, k4_11, k5_14, k6_16, k7_18, k8_19, c151_22, c168_23]; done) | ((try first | rw [if_pos k0_1] | rw [if_neg k0_1]); (try first | rw [if_pos k1_2] | rw [if_neg k1_2]); (try first | rw [if_pos k2_4] | rw [if_neg k2_4]); (try first | rw [if_pos k3_8] | rw [if_neg k3_8]); (try first | rw [if_pos k4_11] | rw [if_neg k4_11]); (try first | rw [if_pos k5_14] | rw [if_neg k5_14]); (try first | rw [if_pos k6_16] | rw [if_neg k6_16]); (try first | rw [if_pos k7_18] | rw [if_neg k7_18]); (try first | rw [if_pos k8_19] | rw [if_neg k8_19]); (try first | rw [if_pos c151_22] | rw [if_neg c151_22]); (try first | rw [if_pos c168_23] | rw [if_neg c168_23]); first | done | rfl | trivial))), ht⟩) (fun q hq => absurd hq List.not_mem_nil) dX6_told_184
  · skip
    refine lv_sipush (v := (-1001)) hx hb dX6_told_154 (by decide) ?_
    refine lv_goto (tgt := 184) hx hb dX6_told_157 (by decide) ?_
    exact W.iret (v := (-1001)) hx hb hr (fun t ht hW => ⟨_, rfl, (by first | rfl | (unfold tldM; first | (simp [k0_1, k1_2, k2_4, k3_8, k4_11, k5_14, k6_16, k7_18, k8_19, c151_22]; done) | ((try first | rw [if_pos k0_1] | rw [if_neg k0_1]); (try first | rw [if_pos k1_2] | rw [if_neg k1_2]); (try first | rw [if_pos k2_4] | rw [if_neg k2_4]); (try first | rw [if_pos k3_8] | rw [if_neg k3_8]); (try first | rw [if_pos k4_11] | rw [if_neg k4_11]); (try first | rw [if_pos k5_14] | rw [if_neg k5_14]); (try first | rw [if_pos k6_16] | rw [if_neg k6_16]); (try first | rw [if_pos k7_18] | rw [if_neg k7_18]); (try first | rw [if_pos k8_19] | rw [if_neg k8_19]); (try first | rw [if_pos c151_22] | rw [if_neg c151_22]); first | done | rfl | trivial))), ht⟩) (fun q hq => absurd hq List.not_mem_nil) dX6_told_184

set_option maxRecDepth 20000 in
theorem in_X6_fresh_X6 : ∀ w ∈ wsX60, w ∈ wsX6_fresh := by decide +kernel
set_option maxRecDepth 20000 in
theorem wd_X6_fresh_0 : Cond.fieldLink RX6 13 "ShoeTableModel" "atFresh" "[I" ∈ wsX6_fresh := by decide +kernel
set_option maxRecDepth 20000 in
theorem wd_X6_fresh_1 : Cond.fieldLink RX6 7 "ShoeTableModel" "shoe" "[I" ∈ wsX6_fresh := by decide +kernel
set_option maxRecDepth 20000 in
theorem wd_X6_fresh_2 : Cond.fieldLink RX6 16 "ShoeTableModel" "went" "[I" ∈ wsX6_fresh := by decide +kernel
set_option maxHeartbeats 400000 in
set_option maxRecDepth 100000 in
theorem lpFr {p : Program} {l : Launch} {e : Env} {R : Room} {s : State} {m : MethodId} {args : Array Value} {below : List Frame} {meth : Method} {c : Code} {Q : State → Prop} {D : va_G} {cI cJ cQ : ClassId} {A : Nat → Prop} {cells slots : Nat} (hx : p.tables.exec = Jvm.exec) (hb : c.code = cX6_fresh) (hml : c.maxLocals = 2) (hown : s.vm.findClass RX6 = some m.cls) (hts : ∀ w ∈ wsX6_fresh, w.before args s = true) (hK : va_K D vwCl (gTy cI cJ cQ) s) (hA : ∀ q : Nat, s.heap.size ≤ q → A q) (m0 : Nat) (ms : Nat) (mf : Nat) (mw : Nat) (mk : Nat) (mtold : Bool) (mh : Nat) (hn : Nat) (mup : Int32) (targ : Int32) (stan : Int32) (soft : Int32) (doub : Int32) (spli : Int32) (giv : Int32) (bon : Int32) (drw : Int64) (mbank : Int32) (q0 : Nat) (q1 : Nat) (q2 : Nat) (mheaps : Int32) (q3 : Nat) (q4 : Nat) (q5 : Nat) (q6 : Nat) (q7 : Nat) (msum : Int32) (hasA : Bool) (mcards : Int32) (mpair : Int32) (shown : Int32) (want : Int32) (mwin : Int32) (isCh : Bool) (mbest : Int32) (k0 : Nat) (k1 : Nat) (k2 : Nat) (k3 : Nat) (f : Nat → Int32) (hRf : 0 ≤ R.frames) (hRl : 0 ≤ R.locals) (hRc : cells ≤ R.cells) (hRs : slots ≤ R.slots)  : ∀ (n9 : Nat) (k : Nat) (ff : Nat → Int32) (fw : Nat → Int32) (H : Heap) (locs : List Loc) (ls : Array Slot), 11 - k < n9 → (1 ≤ k) → (k ≤ 11) → (∀ j, 1 ≤ j → j < k → ff j = f j ∧ fw j = 0) → va_P D vwCl [(m0, .inr (6, [.ref ms, .ref mf, .ref mw, .ref mk, .int (bI mtold), .ref mh, .int (nI hn), .int mup, .int targ, .int stan, .int soft, .int doub, .int spli, .int giv, .int bon, .long drw, .int mbank, .ref q0, .ref q1, .ref q2, .int mheaps, .ref q3, .ref q4, .ref q5, .ref q6, .ref q7, .int msum, .int (bI hasA), .int mcards, .int mpair, .int shown, .int want, .int mwin, .int (bI isCh), .int mbest, .ref k0, .ref k1, .ref k2, .ref k3])), (ms, .inl (cI, 11, .inl f)), (mf, .inl (cI, 11, .inl ff)), (mw, .inl (cI, 11, .inl fw))] H → va_D A [(m0, .inr (6, [.ref ms, .ref mf, .ref mw, .ref mk, .int (bI mtold), .ref mh, .int (nI hn), .int mup, .int targ, .int stan, .int soft, .int doub, .int spli, .int giv, .int bon, .long drw, .int mbank, .ref q0, .ref q1, .ref q2, .int mheaps, .ref q3, .ref q4, .ref q5, .ref q6, .ref q7, .int msum, .int (bI hasA), .int mcards, .int mpair, .int shown, .int want, .int mwin, .int (bI isCh), .int mbest, .ref k0, .ref k1, .ref k2, .ref k3])), (ms, .inl (cI, 11, .inl f)), (mf, .inl (cI, 11, .inl ff)), (mw, .inl (cI, 11, .inl fw))] → va_S A s.heap H locs → lv_has ls 2 [(1, .int (nI k)), (0, .ref m0)] → (∀ (ff : Nat → Int32) (fw : Nat → Int32) (H : Heap) (locs : List Loc) (ls : Array Slot), (∀ j, 1 ≤ j → j ≤ 10 → ff j = f j ∧ fw j = 0) → va_P D vwCl [(m0, .inr (6, [.ref ms, .ref mf, .ref mw, .ref mk, .int (bI mtold), .ref mh, .int (nI hn), .int mup, .int targ, .int stan, .int soft, .int doub, .int spli, .int giv, .int bon, .long drw, .int mbank, .ref q0, .ref q1, .ref q2, .int mheaps, .ref q3, .ref q4, .ref q5, .ref q6, .ref q7, .int msum, .int (bI hasA), .int mcards, .int mpair, .int shown, .int want, .int mwin, .int (bI isCh), .int mbest, .ref k0, .ref k1, .ref k2, .ref k3])), (ms, .inl (cI, 11, .inl f)), (mf, .inl (cI, 11, .inl ff)), (mw, .inl (cI, 11, .inl fw))] H → va_D A [(m0, .inr (6, [.ref ms, .ref mf, .ref mw, .ref mk, .int (bI mtold), .ref mh, .int (nI hn), .int mup, .int targ, .int stan, .int soft, .int doub, .int spli, .int giv, .int bon, .long drw, .int mbank, .ref q0, .ref q1, .ref q2, .int mheaps, .ref q3, .ref q4, .ref q5, .ref q6, .ref q7, .int msum, .int (bI hasA), .int mcards, .int mpair, .int shown, .int want, .int mwin, .int (bI isCh), .int mbest, .ref k0, .ref k1, .ref k2, .ref k3])), (ms, .inl (cI, 11, .inl f)), (mf, .inl (cI, 11, .inl ff)), (mw, .inl (cI, 11, .inl fw))] → va_S A s.heap H locs → lv_has ls 2 [(0, .ref m0)] → W p l e R s m args below meth c H locs cells slots Q (F0 m 33 ls [])) → W p l e R s m args below meth c H locs cells slots Q (F0 m 2 ls []) := by
  intro n9
  induction n9 with
  | zero => intro k ff fw H locs ls hms9; exact absurd hms9 (Nat.not_lt_zero _)
  | succ n9 ih =>
    intro k ff fw H locs ls hms9 k1_ k2_ hf hP hD hS hl kk0
    refine lv_iload_n hx hb dX6_fresh_2 rfl (lv_at hl 0 rfl) ?_
    refine lv_bipush (v := 11) hx hb dX6_fresh_3 (by decide) ?_
    refine lv_icmp_ge (tgt := 33) hx hb dX6_fresh_5 (by decide) (fun c5_1 => ?_) (fun c5_1 => ?_)
    · skip
      have nc5_1 : 11 ≤ k := (nI_leI (a := 11) (b := k) (by omega) (by omega)).mp c5_1
      exact kk0 ff fw _ _ _ (fun j a b => hf j a (by omega)) hP hD hS (lv_sub hl [1] rfl)
    · skip
      have nc5_1 : ¬ (11 ≤ k) := fun z9 => c5_1 ((nI_leI (a := 11) (b := k) (by omega) (by omega)).mpr z9)
      refine lv_aload_n hx hb dX6_fresh_8 rfl (lv_at hl 1 rfl) ?_
      refine va_get (D := D) (ci := 6) (v := .ref mf) (C := RX6) (T := TX6) (N := 39) hx hb hts in_X6_fresh_X6 hown hK hP 0 rfl rfl 1 (by decide) (hts _ wd_X6_fresh_0) (fun _ h9 => h9) rfl dX6_fresh_9 ?_
      refine lv_iload_n hx hb dX6_fresh_12 rfl (lv_at hl 0 rfl) ?_
      refine lv_aload_n hx hb dX6_fresh_13 rfl (lv_at hl 1 rfl) ?_
      refine va_get (D := D) (ci := 6) (v := .ref ms) (C := RX6) (T := TX6) (N := 39) hx hb hts in_X6_fresh_X6 hown hK hP 0 rfl rfl 0 (by decide) (hts _ wd_X6_fresh_1) (fun _ h9 => h9) rfl dX6_fresh_14 ?_
      refine lv_iload_n hx hb dX6_fresh_17 rfl (lv_at hl 0 rfl) ?_
      refine va_iald hx hb hK hP 1 0 rfl rfl (vp_in_nI (by omega) (by decide)) dX6_fresh_18 ?_
      refine lv_topi (fun z_2 ez_2 => ?_)
      obtain rfl : z_2 = (f k) := ez_2.trans (by rw [nI_clamp (by omega)])
      refine va_iast hx hb hK hP hD hS 2 0 rfl rfl (vp_in_nI (by omega) (by decide)) dX6_fresh_19 (fun H locs hP hD hS => ?_)
      have e9 : (upd ff (nI k).toNatClampNeg (f k)) = upd ff k (f k) := by rw [nI_clamp (show k < 2 ^ 31 by omega)]
      have hP : va_P D vwCl [(m0, .inr (6, [.ref ms, .ref mf, .ref mw, .ref mk, .int (bI mtold), .ref mh, .int (nI hn), .int mup, .int targ, .int stan, .int soft, .int doub, .int spli, .int giv, .int bon, .long drw, .int mbank, .ref q0, .ref q1, .ref q2, .int mheaps, .ref q3, .ref q4, .ref q5, .ref q6, .ref q7, .int msum, .int (bI hasA), .int mcards, .int mpair, .int shown, .int want, .int mwin, .int (bI isCh), .int mbest, .ref k0, .ref k1, .ref k2, .ref k3])), (ms, .inl (cI, 11, .inl f)), (mf, .inl (cI, 11, .inl (upd ff k (f k)))), (mw, .inl (cI, 11, .inl fw))] H := by rw [← e9]; exact hP
      have hD : va_D A [(m0, .inr (6, [.ref ms, .ref mf, .ref mw, .ref mk, .int (bI mtold), .ref mh, .int (nI hn), .int mup, .int targ, .int stan, .int soft, .int doub, .int spli, .int giv, .int bon, .long drw, .int mbank, .ref q0, .ref q1, .ref q2, .int mheaps, .ref q3, .ref q4, .ref q5, .ref q6, .ref q7, .int msum, .int (bI hasA), .int mcards, .int mpair, .int shown, .int want, .int mwin, .int (bI isCh), .int mbest, .ref k0, .ref k1, .ref k2, .ref k3])), (ms, .inl (cI, 11, .inl f)), (mf, .inl (cI, 11, .inl (upd ff k (f k)))), (mw, .inl (cI, 11, .inl fw))] := by rw [← e9]; exact hD
      clear e9
      refine lv_aload_n hx hb dX6_fresh_20 rfl (lv_at hl 1 rfl) ?_
      refine va_get (D := D) (ci := 6) (v := .ref mw) (C := RX6) (T := TX6) (N := 39) hx hb hts in_X6_fresh_X6 hown hK hP 0 rfl rfl 2 (by decide) (hts _ wd_X6_fresh_2) (fun _ h9 => h9) rfl dX6_fresh_21 ?_
      refine lv_iload_n hx hb dX6_fresh_24 rfl (lv_at hl 0 rfl) ?_
      refine lv_iconst (v := 0) hx hb dX6_fresh_25 (by decide) ?_
      refine va_iast hx hb hK hP hD hS 3 0 rfl rfl (vp_in_nI (by omega) (by decide)) dX6_fresh_26 (fun H locs hP hD hS => ?_)
      have e9 : (upd fw (nI k).toNatClampNeg 0) = upd fw k 0 := by rw [nI_clamp (show k < 2 ^ 31 by omega)]
      have hP : va_P D vwCl [(m0, .inr (6, [.ref ms, .ref mf, .ref mw, .ref mk, .int (bI mtold), .ref mh, .int (nI hn), .int mup, .int targ, .int stan, .int soft, .int doub, .int spli, .int giv, .int bon, .long drw, .int mbank, .ref q0, .ref q1, .ref q2, .int mheaps, .ref q3, .ref q4, .ref q5, .ref q6, .ref q7, .int msum, .int (bI hasA), .int mcards, .int mpair, .int shown, .int want, .int mwin, .int (bI isCh), .int mbest, .ref k0, .ref k1, .ref k2, .ref k3])), (ms, .inl (cI, 11, .inl f)), (mf, .inl (cI, 11, .inl (upd ff k (f k)))), (mw, .inl (cI, 11, .inl (upd fw k 0)))] H := by rw [← e9]; exact hP
      have hD : va_D A [(m0, .inr (6, [.ref ms, .ref mf, .ref mw, .ref mk, .int (bI mtold), .ref mh, .int (nI hn), .int mup, .int targ, .int stan, .int soft, .int doub, .int spli, .int giv, .int bon, .long drw, .int mbank, .ref q0, .ref q1, .ref q2, .int mheaps, .ref q3, .ref q4, .ref q5, .ref q6, .ref q7, .int msum, .int (bI hasA), .int mcards, .int mpair, .int shown, .int want, .int mwin, .int (bI isCh), .int mbest, .ref k0, .ref k1, .ref k2, .ref k3])), (ms, .inl (cI, 11, .inl f)), (mf, .inl (cI, 11, .inl (upd ff k (f k)))), (mw, .inl (cI, 11, .inl (upd fw k 0)))] := by rw [← e9]; exact hD
      clear e9
      refine lv_iinc (v := (nI (k + 1))) (lv' := [(1, .int (nI (k + 1))), (0, .ref m0)]) hx hb dX6_fresh_27 hl (k := 0) rfl (nI_incT (by decide)) (by decide) rfl (fun ls hl => ?_)
      refine lv_goto (tgt := 2) hx hb dX6_fresh_30 (by decide) ?_
      exact ih (k + 1) (upd ff k (f k)) (upd fw k 0) _ _ _ (by omega) (by omega) (by omega) (fun j a b => by unfold upd; by_cases z : j = k; subst z; rw [if_pos rfl, if_pos rfl]; exact ⟨rfl, rfl⟩; rw [if_neg z, if_neg z]; exact hf j a (by omega)) hP hD hS (lv_sub hl [0, 1] rfl) kk0

set_option maxRecDepth 20000 in
theorem wd_X6_fresh_3 : Cond.fieldLink RX6 94 "ShoeTableModel" "told" "Z" ∈ wsX6_fresh := by decide +kernel
set_option maxRecDepth 20000 in
theorem wd_X6_fresh_4 : Cond.fieldLink RX6 98 "ShoeTableModel" "hands" "I" ∈ wsX6_fresh := by decide +kernel
set_option maxRecDepth 20000 in
theorem wd_X6_fresh_5 : Cond.fieldLink RX6 101 "ShoeTableModel" "up" "I" ∈ wsX6_fresh := by decide +kernel
set_option maxHeartbeats 400000 in
set_option maxRecDepth 100000 in
/-- X6_fresh -/
theorem c_X6_fresh (l : Launch) (D : va_G) (cI cJ cQ : ClassId) (sz : Nat) (m0 : Nat) (ms : Nat) (mf : Nat) (mw : Nat) (mk : Nat) (mtold : Bool) (mh : Nat) (hn : Nat) (mup : Int32) (targ : Int32) (stan : Int32) (soft : Int32) (doub : Int32) (spli : Int32) (giv : Int32) (bon : Int32) (drw : Int64) (mbank : Int32) (q0 : Nat) (q1 : Nat) (q2 : Nat) (mheaps : Int32) (q3 : Nat) (q4 : Nat) (q5 : Nat) (q6 : Nat) (q7 : Nat) (msum : Int32) (hasA : Bool) (mcards : Int32) (mpair : Int32) (shown : Int32) (want : Int32) (mwin : Int32) (isCh : Bool) (mbest : Int32) (k0 : Nat) (k1 : Nat) (k2 : Nat) (k3 : Nat) (f : Nat → Int32) (ff : Nat → Int32) (fw : Nat → Int32)  : Met l yX6_fresh wsX6_fresh ({ frames := 1, cells := 0, slots := 0, locals := 22 }) (va_Pc [.ref m0] (mP D (gTy cI cJ cQ) [(m0, .inr (6, [.ref ms, .ref mf, .ref mw, .ref mk, .int (bI mtold), .ref mh, .int (nI hn), .int mup, .int targ, .int stan, .int soft, .int doub, .int spli, .int giv, .int bon, .long drw, .int mbank, .ref q0, .ref q1, .ref q2, .int mheaps, .ref q3, .ref q4, .ref q5, .ref q6, .ref q7, .int msum, .int (bI hasA), .int mcards, .int mpair, .int shown, .int want, .int mwin, .int (bI isCh), .int mbest, .ref k0, .ref k1, .ref k2, .ref k3])), (ms, .inl (cI, 11, .inl f)), (mf, .inl (cI, 11, .inl ff)), (mw, .inl (cI, 11, .inl fw))] sz)) (va_Qi (fun (r : Int32) (u : (Nat → Int32) × (Nat → Int32)) => match u with | (ff2, fw2) => r = sm10 f ∧ ∀ j, 1 ≤ j → j ≤ 10 → ff2 j = f j ∧ fw2 j = 0) (fun (u : (Nat → Int32) × (Nat → Int32)) t => match u with | (ff2, fw2) => mB D (gTy cI cJ cQ) (va_A [(m0, .inr (6, [.ref ms, .ref mf, .ref mw, .ref mk, .int (bI mtold), .ref mh, .int (nI hn), .int mup, .int targ, .int stan, .int soft, .int doub, .int spli, .int giv, .int bon, .long drw, .int mbank, .ref q0, .ref q1, .ref q2, .int mheaps, .ref q3, .ref q4, .ref q5, .ref q6, .ref q7, .int msum, .int (bI hasA), .int mcards, .int mpair, .int shown, .int want, .int mwin, .int (bI isCh), .int mbest, .ref k0, .ref k1, .ref k2, .ref k3])), (ms, .inl (cI, 11, .inl f)), (mf, .inl (cI, 11, .inl ff)), (mw, .inl (cI, 11, .inl fw))] sz) [(m0, .inr (6, [.ref ms, .ref mf, .ref mw, .ref mk, .int 0, .ref mh, .int 0, .int 0, .int targ, .int stan, .int soft, .int doub, .int spli, .int giv, .int bon, .long drw, .int mbank, .ref q0, .ref q1, .ref q2, .int mheaps, .ref q3, .ref q4, .ref q5, .ref q6, .ref q7, .int msum, .int (bI hasA), .int mcards, .int mpair, .int shown, .int want, .int mwin, .int (bI isCh), .int mbest, .ref k0, .ref k1, .ref k2, .ref k3])), (ms, .inl (cI, 11, .inl f)), (mf, .inl (cI, 11, .inl ff2)), (mw, .inl (cI, 11, .inl fw2))] t) (va_A [(m0, .inr (6, [.ref ms, .ref mf, .ref mw, .ref mk, .int (bI mtold), .ref mh, .int (nI hn), .int mup, .int targ, .int stan, .int soft, .int doub, .int spli, .int giv, .int bon, .long drw, .int mbank, .ref q0, .ref q1, .ref q2, .int mheaps, .ref q3, .ref q4, .ref q5, .ref q6, .ref q7, .int msum, .int (bI hasA), .int mcards, .int mpair, .int shown, .int want, .int mwin, .int (bI isCh), .int mbest, .ref k0, .ref k1, .ref k2, .ref k3])), (ms, .inl (cI, 11, .inl f)), (mf, .inl (cI, 11, .inl ff)), (mw, .inl (cI, 11, .inl fw))] sz)) 0 0 (va_A [(m0, .inr (6, [.ref ms, .ref mf, .ref mw, .ref mk, .int (bI mtold), .ref mh, .int (nI hn), .int mup, .int targ, .int stan, .int soft, .int doub, .int spli, .int giv, .int bon, .long drw, .int mbank, .ref q0, .ref q1, .ref q2, .int mheaps, .ref q3, .ref q4, .ref q5, .ref q6, .ref q7, .int msum, .int (bI hasA), .int mcards, .int mpair, .int shown, .int want, .int mwin, .int (bI isCh), .int mbest, .ref k0, .ref k1, .ref k2, .ref k3])), (ms, .inl (cI, 11, .inl f)), (mf, .inl (cI, 11, .inl ff)), (mw, .inl (cI, 11, .inl fw))] sz) := by
  refine Met.ofW (cc := cX6_fresh) (maxL := 2) (ret := (some .int)) (by decide) rfl ?_
  intro p e s m args below meth c s₁ B hml hv
  obtain ⟨rfl, hsz, hP, hK, hD0⟩ := hv
  have hx := B.exec
  have hb := B.bytes
  have hr := B.returns
  have hts := atoms_spec (ws := wsX6_fresh) B.pre
  have hown : s.vm.findClass RX6 = some m.cls := findClass_of_methodNamed B.named
  have hlocks := B.notSynchronized
  subst hsz
  have hD := hD0.self (sz := s.heap.size)
  generalize hAe : va_A [(m0, .inr (6, [.ref ms, .ref mf, .ref mw, .ref mk, .int (bI mtold), .ref mh, .int (nI hn), .int mup, .int targ, .int stan, .int soft, .int doub, .int spli, .int giv, .int bon, .long drw, .int mbank, .ref q0, .ref q1, .ref q2, .int mheaps, .ref q3, .ref q4, .ref q5, .ref q6, .ref q7, .int msum, .int (bI hasA), .int mcards, .int mpair, .int shown, .int want, .int mwin, .int (bI isCh), .int mbest, .ref k0, .ref k1, .ref k2, .ref k3])), (ms, .inl (cI, 11, .inl f)), (mf, .inl (cI, 11, .inl ff)), (mw, .inl (cI, 11, .inl fw))] s.heap.size = A at hD ⊢
  have hA : ∀ q : Nat, s.heap.size ≤ q → A q := fun q h => by rw [← hAe]; exact Or.inr h
  have hS : va_S A s.heap s.heap [] := va_S.rf
  have hP : va_P D vwCl [(m0, .inr (6, [.ref ms, .ref mf, .ref mw, .ref mk, .int (bI mtold), .ref mh, .int (nI hn), .int mup, .int targ, .int stan, .int soft, .int doub, .int spli, .int giv, .int bon, .long drw, .int mbank, .ref q0, .ref q1, .ref q2, .int mheaps, .ref q3, .ref q4, .ref q5, .ref q6, .ref q7, .int msum, .int (bI hasA), .int mcards, .int mpair, .int shown, .int want, .int mwin, .int (bI isCh), .int mbest, .ref k0, .ref k1, .ref k2, .ref k3])), (ms, .inl (cI, 11, .inl f)), (mf, .inl (cI, 11, .inl ff)), (mw, .inl (cI, 11, .inl fw))] s.heap := hP
  have hl := lv_entry ([.ref m0]) (n := 2) (Nat.le_of_ble_eq_true rfl)
  rw [lg_entry_eq]
  generalize (lg_sl ([.ref m0]) ++ List.replicate (2 - (lg_sl ([.ref m0])).length) Slot.unset).toArray = ls at hl ⊢
  have hl : lv_has ls 2 [(0, .ref m0)] := hl
  refine lv_iconst (v := 1) hx hb dX6_fresh_0 (by decide) ?_
  refine lv_istore_n (lv' := [(1, .int 1), (0, .ref m0)]) hx hb dX6_fresh_1 rfl hl (by decide) rfl (fun ls hl => ?_)
  refine lpFr hx hb hml hown hts hK hA m0 ms mf mw mk mtold mh hn mup targ stan soft doub spli giv bon drw mbank q0 q1 q2 mheaps q3 q4 q5 q6 q7 msum hasA mcards mpair shown want mwin isCh mbest k0 k1 k2 k3 f (Nat.le_of_ble_eq_true rfl) (Nat.le_of_ble_eq_true rfl) (Nat.zero_le _) (Nat.zero_le _)  (11 - 1 + 1) 1 ff fw _ _ _ (Nat.lt_succ_self _) (by omega) (by omega) (fun j a b => absurd b (by omega)) hP hD hS (lv_sub hl [0, 1] rfl) (fun ff_1 fw_2 H locs ls hf_3 hP hD hS hl => ?_)
  have hP : va_P D vwCl [(m0, .inr (6, [.ref ms, .ref mf, .ref mw, .ref mk, .int (bI mtold), .ref mh, .int (nI hn), .int mup, .int targ, .int stan, .int soft, .int doub, .int spli, .int giv, .int bon, .long drw, .int mbank, .ref q0, .ref q1, .ref q2, .int mheaps, .ref q3, .ref q4, .ref q5, .ref q6, .ref q7, .int msum, .int (bI hasA), .int mcards, .int mpair, .int shown, .int want, .int mwin, .int (bI isCh), .int mbest, .ref k0, .ref k1, .ref k2, .ref k3])), (ms, .inl (cI, 11, .inl f)), (mf, .inl (cI, 11, .inl ff_1)), (mw, .inl (cI, 11, .inl fw_2))] H := hP
  have hD : va_D A [(m0, .inr (6, [.ref ms, .ref mf, .ref mw, .ref mk, .int (bI mtold), .ref mh, .int (nI hn), .int mup, .int targ, .int stan, .int soft, .int doub, .int spli, .int giv, .int bon, .long drw, .int mbank, .ref q0, .ref q1, .ref q2, .int mheaps, .ref q3, .ref q4, .ref q5, .ref q6, .ref q7, .int msum, .int (bI hasA), .int mcards, .int mpair, .int shown, .int want, .int mwin, .int (bI isCh), .int mbest, .ref k0, .ref k1, .ref k2, .ref k3])), (ms, .inl (cI, 11, .inl f)), (mf, .inl (cI, 11, .inl ff_1)), (mw, .inl (cI, 11, .inl fw_2))] := hD
  refine lv_aload_n hx hb dX6_fresh_33 rfl (lv_at hl 0 rfl) ?_
  refine lv_iconst (v := 0) hx hb dX6_fresh_34 (by decide) ?_
  refine va_put (D := D) (ci := 6) (v := .int 0) (ty := .boolean) (C := RX6) (T := TX6) (N := 39) hx hb hts in_X6_fresh_X6 tyX6 tyX6_ok nmX6 hown hK hP hD hS 0 rfl rfl 4 (by decide) (hts _ wd_X6_fresh_3) (fun _ h9 => h9) rfl (by decide +kernel) rfl rfl (Nat.le_of_ble_eq_true rfl) dX6_fresh_35 (fun H locs hP hD hS => ?_)
  have hP : va_P D vwCl [(m0, .inr (6, [.ref ms, .ref mf, .ref mw, .ref mk, .int 0, .ref mh, .int (nI hn), .int mup, .int targ, .int stan, .int soft, .int doub, .int spli, .int giv, .int bon, .long drw, .int mbank, .ref q0, .ref q1, .ref q2, .int mheaps, .ref q3, .ref q4, .ref q5, .ref q6, .ref q7, .int msum, .int (bI hasA), .int mcards, .int mpair, .int shown, .int want, .int mwin, .int (bI isCh), .int mbest, .ref k0, .ref k1, .ref k2, .ref k3])), (ms, .inl (cI, 11, .inl f)), (mf, .inl (cI, 11, .inl ff_1)), (mw, .inl (cI, 11, .inl fw_2))] H := hP
  have hD : va_D A [(m0, .inr (6, [.ref ms, .ref mf, .ref mw, .ref mk, .int 0, .ref mh, .int (nI hn), .int mup, .int targ, .int stan, .int soft, .int doub, .int spli, .int giv, .int bon, .long drw, .int mbank, .ref q0, .ref q1, .ref q2, .int mheaps, .ref q3, .ref q4, .ref q5, .ref q6, .ref q7, .int msum, .int (bI hasA), .int mcards, .int mpair, .int shown, .int want, .int mwin, .int (bI isCh), .int mbest, .ref k0, .ref k1, .ref k2, .ref k3])), (ms, .inl (cI, 11, .inl f)), (mf, .inl (cI, 11, .inl ff_1)), (mw, .inl (cI, 11, .inl fw_2))] := hD
  refine lv_aload_n hx hb dX6_fresh_38 rfl (lv_at hl 0 rfl) ?_
  refine lv_iconst (v := 0) hx hb dX6_fresh_39 (by decide) ?_
  refine va_put (D := D) (ci := 6) (v := .int 0) (ty := .int) (C := RX6) (T := TX6) (N := 39) hx hb hts in_X6_fresh_X6 tyX6 tyX6_ok nmX6 hown hK hP hD hS 0 rfl rfl 6 (by decide) (hts _ wd_X6_fresh_4) (fun _ h9 => h9) rfl (by decide +kernel) rfl rfl (Nat.le_of_ble_eq_true rfl) dX6_fresh_40 (fun H locs hP hD hS => ?_)
  have hP : va_P D vwCl [(m0, .inr (6, [.ref ms, .ref mf, .ref mw, .ref mk, .int 0, .ref mh, .int 0, .int mup, .int targ, .int stan, .int soft, .int doub, .int spli, .int giv, .int bon, .long drw, .int mbank, .ref q0, .ref q1, .ref q2, .int mheaps, .ref q3, .ref q4, .ref q5, .ref q6, .ref q7, .int msum, .int (bI hasA), .int mcards, .int mpair, .int shown, .int want, .int mwin, .int (bI isCh), .int mbest, .ref k0, .ref k1, .ref k2, .ref k3])), (ms, .inl (cI, 11, .inl f)), (mf, .inl (cI, 11, .inl ff_1)), (mw, .inl (cI, 11, .inl fw_2))] H := hP
  have hD : va_D A [(m0, .inr (6, [.ref ms, .ref mf, .ref mw, .ref mk, .int 0, .ref mh, .int 0, .int mup, .int targ, .int stan, .int soft, .int doub, .int spli, .int giv, .int bon, .long drw, .int mbank, .ref q0, .ref q1, .ref q2, .int mheaps, .ref q3, .ref q4, .ref q5, .ref q6, .ref q7, .int msum, .int (bI hasA), .int mcards, .int mpair, .int shown, .int want, .int mwin, .int (bI isCh), .int mbest, .ref k0, .ref k1, .ref k2, .ref k3])), (ms, .inl (cI, 11, .inl f)), (mf, .inl (cI, 11, .inl ff_1)), (mw, .inl (cI, 11, .inl fw_2))] := hD
  refine lv_aload_n hx hb dX6_fresh_43 rfl (lv_at hl 0 rfl) ?_
  refine lv_iconst (v := 0) hx hb dX6_fresh_44 (by decide) ?_
  refine va_put (D := D) (ci := 6) (v := .int 0) (ty := .int) (C := RX6) (T := TX6) (N := 39) hx hb hts in_X6_fresh_X6 tyX6 tyX6_ok nmX6 hown hK hP hD hS 0 rfl rfl 7 (by decide) (hts _ wd_X6_fresh_5) (fun _ h9 => h9) rfl (by decide +kernel) rfl rfl (Nat.le_of_ble_eq_true rfl) dX6_fresh_45 (fun H locs hP hD hS => ?_)
  have hP : va_P D vwCl [(m0, .inr (6, [.ref ms, .ref mf, .ref mw, .ref mk, .int 0, .ref mh, .int 0, .int 0, .int targ, .int stan, .int soft, .int doub, .int spli, .int giv, .int bon, .long drw, .int mbank, .ref q0, .ref q1, .ref q2, .int mheaps, .ref q3, .ref q4, .ref q5, .ref q6, .ref q7, .int msum, .int (bI hasA), .int mcards, .int mpair, .int shown, .int want, .int mwin, .int (bI isCh), .int mbest, .ref k0, .ref k1, .ref k2, .ref k3])), (ms, .inl (cI, 11, .inl f)), (mf, .inl (cI, 11, .inl ff_1)), (mw, .inl (cI, 11, .inl fw_2))] H := hP
  have hD : va_D A [(m0, .inr (6, [.ref ms, .ref mf, .ref mw, .ref mk, .int 0, .ref mh, .int 0, .int 0, .int targ, .int stan, .int soft, .int doub, .int spli, .int giv, .int bon, .long drw, .int mbank, .ref q0, .ref q1, .ref q2, .int mheaps, .ref q3, .ref q4, .ref q5, .ref q6, .ref q7, .int msum, .int (bI hasA), .int mcards, .int mpair, .int shown, .int want, .int mwin, .int (bI isCh), .int mbest, .ref k0, .ref k1, .ref k2, .ref k3])), (ms, .inl (cI, 11, .inl f)), (mf, .inl (cI, 11, .inl ff_1)), (mw, .inl (cI, 11, .inl fw_2))] := hD
  refine lv_aload_n hx hb dX6_fresh_48 rfl (lv_at hl 0 rfl) ?_
  have hPc := hP.sub (ws' := [(m0, .inr (6, [.ref ms, .ref mf, .ref mw, .ref mk, .int 0, .ref mh, .int 0, .int 0, .int targ, .int stan, .int soft, .int doub, .int spli, .int giv, .int bon, .long drw, .int mbank, .ref q0, .ref q1, .ref q2, .int mheaps, .ref q3, .ref q4, .ref q5, .ref q6, .ref q7, .int msum, .int (bI hasA), .int mcards, .int mpair, .int shown, .int want, .int mwin, .int (bI isCh), .int mbest, .ref k0, .ref k1, .ref k2, .ref k3])), (ms, .inl (cI, 11, .inl f))]) [0, 1] rfl
  refine vp_callSi (W.runV (As := []) (rest := []) ⟨hx, hb, hml, hown, hts⟩ (c_X6_all l D cI cJ cQ m0 ms mf mw mk false mh 0 0 targ stan soft doub spli giv bon drw mbank q0 q1 q2 mheaps q3 q4 q5 q6 q7 msum hasA mcards mpair shown want mwin isCh mbest k0 k1 k2 k3 (f)) (cwV 0 hts gX6_fresh_X6_all rfl rfl rfl (by decide +kernel) ⟨Nat.le_of_ble_eq_true rfl, Nat.le_of_ble_eq_true rfl⟩) (rP_preV (ci := 6) (q0 := 0) hPc hK rfl rfl) rfl rfl hl.1 rfl (lv_room (Nat.le_of_ble_eq_true rfl)) dX6_fresh_49 ⟨Nat.le_of_ble_eq_true rfl, Nat.le_of_ble_eq_true rfl⟩) (fun r_4 hr_4 => ?_)
  subst hr_4
  have hP9 := hP.sub (ws' := [(m0, .inr (6, [.ref ms, .ref mf, .ref mw, .ref mk, .int 0, .ref mh, .int 0, .int 0, .int targ, .int stan, .int soft, .int doub, .int spli, .int giv, .int bon, .long drw, .int mbank, .ref q0, .ref q1, .ref q2, .int mheaps, .ref q3, .ref q4, .ref q5, .ref q6, .ref q7, .int msum, .int (bI hasA), .int mcards, .int mpair, .int shown, .int want, .int mwin, .int (bI isCh), .int mbest, .ref k0, .ref k1, .ref k2, .ref k3])), (ms, .inl (cI, 11, .inl f)), (mf, .inl (cI, 11, .inl ff_1)), (mw, .inl (cI, 11, .inl fw_2))]) [0, 1, 2, 3] rfl
  have hD9 := hD.sub (ws' := [(m0, .inr (6, [.ref ms, .ref mf, .ref mw, .ref mk, .int 0, .ref mh, .int 0, .int 0, .int targ, .int stan, .int soft, .int doub, .int spli, .int giv, .int bon, .long drw, .int mbank, .ref q0, .ref q1, .ref q2, .int mheaps, .ref q3, .ref q4, .ref q5, .ref q6, .ref q7, .int msum, .int (bI hasA), .int mcards, .int mpair, .int shown, .int want, .int mwin, .int (bI isCh), .int mbest, .ref k0, .ref k1, .ref k2, .ref k3])), (ms, .inl (cI, 11, .inl f)), (mf, .inl (cI, 11, .inl ff_1)), (mw, .inl (cI, 11, .inl fw_2))]) [0, 1, 2, 3] (by decide) rfl
  exact W.iret (v := (sm10 (f))) hx hb hr (fun t ht hW => ⟨⟨(sm10 (f)), ((ff_1), (fw_2)), rfl, ⟨rfl, hf_3⟩, by rw [ht]; exact hP9, va_K.moved hW.alike hK, hD9⟩, hS.F ht⟩) hS.2.2 dX6_fresh_52

set_option maxRecDepth 20000 in
theorem in_X6_isThereNow_X6 : ∀ w ∈ wsX60, w ∈ wsX6_isThereNow := by decide +kernel
set_option maxRecDepth 20000 in
theorem wd_X6_isThereNow_0 : Cond.fieldLink RX6 98 "ShoeTableModel" "hands" "I" ∈ wsX6_isThereNow := by decide +kernel
set_option maxRecDepth 20000 in
theorem wd_X6_isThereNow_1 : Cond.fieldLink RX6 101 "ShoeTableModel" "up" "I" ∈ wsX6_isThereNow := by decide +kernel
set_option maxRecDepth 20000 in
theorem wd_X6_isThereNow_2 : Cond.fieldLink RX6 25 "ShoeTableModel" "target" "I" ∈ wsX6_isThereNow := by decide +kernel
set_option maxRecDepth 20000 in
theorem wd_X6_isThereNow_3 : Cond.fieldLink RX6 32 "ShoeTableModel" "doubles" "I" ∈ wsX6_isThereNow := by decide +kernel
set_option maxRecDepth 20000 in
theorem wd_X6_isThereNow_4 : Cond.fieldLink RX6 22 "ShoeTableModel" "hand" "[I" ∈ wsX6_isThereNow := by decide +kernel
set_option maxRecDepth 20000 in
theorem wd_X6_isThereNow_5 : Cond.fieldLink RX6 35 "ShoeTableModel" "splits" "I" ∈ wsX6_isThereNow := by decide +kernel
set_option maxRecDepth 20000 in
theorem wd_X6_isThereNow_6 : Cond.fieldLink RX6 38 "ShoeTableModel" "gives" "I" ∈ wsX6_isThereNow := by decide +kernel
set_option maxHeartbeats 400000 in
set_option maxRecDepth 100000 in
/-- X6_isThereNow -/
theorem c_X6_isThereNow (l : Launch) (D : va_G) (cI cJ cQ : ClassId) (m0 : Nat) (ms : Nat) (mf : Nat) (mw : Nat) (mk : Nat) (mtold : Bool) (mh : Nat) (hn : Nat) (mup : Int32) (targ : Int32) (stan : Int32) (soft : Int32) (doub : Int32) (spli : Int32) (giv : Int32) (bon : Int32) (drw : Int64) (mbank : Int32) (q0 : Nat) (q1 : Nat) (q2 : Nat) (mheaps : Int32) (q3 : Nat) (q4 : Nat) (q5 : Nat) (q6 : Nat) (q7 : Nat) (msum : Int32) (hasA : Bool) (mcards : Int32) (mpair : Int32) (shown : Int32) (want : Int32) (mwin : Int32) (isCh : Bool) (mbest : Int32) (k0 : Nat) (k1 : Nat) (k2 : Nat) (k3 : Nat) (f : Nat → Int32) (g : Nat → Int32) (p0 : Int32) (hn12 : hn ≤ 12) : Met l yX6_isThereNow wsX6_isThereNow ({ frames := 2, cells := 0, slots := 0, locals := 42 }) (va_Pc [.ref m0, .int p0] (rP D (gTy cI cJ cQ) [(m0, .inr (6, [.ref ms, .ref mf, .ref mw, .ref mk, .int (bI mtold), .ref mh, .int (nI hn), .int mup, .int targ, .int stan, .int soft, .int doub, .int spli, .int giv, .int bon, .long drw, .int mbank, .ref q0, .ref q1, .ref q2, .int mheaps, .ref q3, .ref q4, .ref q5, .ref q6, .ref q7, .int msum, .int (bI hasA), .int mcards, .int mpair, .int shown, .int want, .int mwin, .int (bI isCh), .int mbest, .ref k0, .ref k1, .ref k2, .ref k3])), (ms, .inl (cI, 11, .inl f)), (mh, .inl (cI, 12, .inl g))])) (vp_Si (fun r => r = thM targ hn g mup (sm10 f) doub spli giv p0)) 0 0 (fun _ => False) := by
  refine Met.ofW (cc := cX6_isThereNow) (maxL := 3) (ret := (some .boolean)) (by decide) rfl ?_
  intro p e s m args below meth c s₁ B hml hv
  obtain ⟨rfl, hP, hK⟩ := hv
  have hx := B.exec
  have hb := B.bytes
  have hr := B.returns
  have hts := atoms_spec (ws := wsX6_isThereNow) B.pre
  have hown : s.vm.findClass RX6 = some m.cls := findClass_of_methodNamed B.named
  have hlocks := B.notSynchronized
  have hl := lv_entry ([.ref m0, .int p0]) (n := 3) (Nat.le_of_ble_eq_true rfl)
  rw [lg_entry_eq]
  generalize (lg_sl ([.ref m0, .int p0]) ++ List.replicate (3 - (lg_sl ([.ref m0, .int p0])).length) Slot.unset).toArray = ls at hl ⊢
  have hl : lv_has ls 3 [(0, .ref m0), (1, .int p0)] := hl
  refine lv_aload_n hx hb dX6_isThereNow_0 rfl (lv_at hl 0 rfl) ?_
  have hPc := hP.sub (ws' := [(m0, .inr (6, [.ref ms, .ref mf, .ref mw, .ref mk, .int (bI mtold), .ref mh, .int (nI hn), .int mup, .int targ, .int stan, .int soft, .int doub, .int spli, .int giv, .int bon, .long drw, .int mbank, .ref q0, .ref q1, .ref q2, .int mheaps, .ref q3, .ref q4, .ref q5, .ref q6, .ref q7, .int msum, .int (bI hasA), .int mcards, .int mpair, .int shown, .int want, .int mwin, .int (bI isCh), .int mbest, .ref k0, .ref k1, .ref k2, .ref k3])), (ms, .inl (cI, 11, .inl f))]) [0, 1] rfl
  refine vp_callSi (W.runV (As := []) (rest := []) ⟨hx, hb, hml, hown, hts⟩ (c_X6_all l D cI cJ cQ m0 ms mf mw mk mtold mh (nI hn) mup targ stan soft doub spli giv bon drw mbank q0 q1 q2 mheaps q3 q4 q5 q6 q7 msum hasA mcards mpair shown want mwin isCh mbest k0 k1 k2 k3 (f)) (cwV 0 hts gX6_isThereNow_X6_all rfl rfl rfl (by decide +kernel) ⟨Nat.le_of_ble_eq_true rfl, Nat.le_of_ble_eq_true rfl⟩) (rP_preV (ci := 6) (q0 := 0) hPc hK rfl rfl) rfl rfl hl.1 rfl (lv_room (Nat.le_of_ble_eq_true rfl)) dX6_isThereNow_1 ⟨Nat.le_of_ble_eq_true rfl, Nat.le_of_ble_eq_true rfl⟩) (fun r_1 hr_1 => ?_)
  subst hr_1
  refine lv_istore_n (lv' := [(2, .int (sm10 (f))), (0, .ref m0), (1, .int p0)]) hx hb dX6_isThereNow_4 rfl hl (by decide) rfl (fun ls hl => ?_)
  refine lv_aload_n hx hb dX6_isThereNow_5 rfl (lv_at hl 1 rfl) ?_
  refine va_get (D := D) (ci := 6) (v := .int (nI hn)) (C := RX6) (T := TX6) (N := 39) hx hb hts in_X6_isThereNow_X6 hown hK hP 0 rfl rfl 6 (by decide) (hts _ wd_X6_isThereNow_0) (fun _ h9 => h9) rfl dX6_isThereNow_6 ?_
  refine lv_if_eq (tgt := 30) hx hb dX6_isThereNow_9 (by decide) (fun c9_2 => ?_) (fun c9_2 => ?_)
  · skip
    have nc9_2 : hn = 0 := (nI_eq (a := hn) (b := 0) (by omega) (by omega)).mp c9_2
    refine lv_iconst (v := 0) hx hb dX6_isThereNow_30 (by decide) ?_
    exact W.zret (v := 0) hx hb hr rfl (fun t ht hW => ⟨_, rfl, (by unfold thM; (simp [c9_2, nc9_2]; done)), ht⟩) (fun q hq => absurd hq List.not_mem_nil) dX6_isThereNow_31
  · skip
    have nc9_2 : ¬ (hn = 0) := fun z9 => c9_2 ((nI_eq (a := hn) (b := 0) (by omega) (by omega)).mpr z9)
    refine lv_aload_n hx hb dX6_isThereNow_12 rfl (lv_at hl 1 rfl) ?_
    refine va_get (D := D) (ci := 6) (v := .int mup) (C := RX6) (T := TX6) (N := 39) hx hb hts in_X6_isThereNow_X6 hown hK hP 0 rfl rfl 7 (by decide) (hts _ wd_X6_isThereNow_1) (fun _ h9 => h9) rfl dX6_isThereNow_13 ?_
    refine lv_if_eq (tgt := 30) hx hb dX6_isThereNow_16 (by decide) (fun c16_3 => ?_) (fun c16_3 => ?_)
    · skip
      refine lv_iconst (v := 0) hx hb dX6_isThereNow_30 (by decide) ?_
      exact W.zret (v := 0) hx hb hr rfl (fun t ht hW => ⟨_, rfl, (by unfold thM; (simp [c9_2, c16_3, nc9_2]; done)), ht⟩) (fun q hq => absurd hq List.not_mem_nil) dX6_isThereNow_31
    · skip
      refine lv_aload_n hx hb dX6_isThereNow_19 rfl (lv_at hl 1 rfl) ?_
      have hPc := hP.sub (ws' := [(m0, .inr (6, [.ref ms, .ref mf, .ref mw, .ref mk, .int (bI mtold), .ref mh, .int (nI hn), .int mup, .int targ, .int stan, .int soft, .int doub, .int spli, .int giv, .int bon, .long drw, .int mbank, .ref q0, .ref q1, .ref q2, .int mheaps, .ref q3, .ref q4, .ref q5, .ref q6, .ref q7, .int msum, .int (bI hasA), .int mcards, .int mpair, .int shown, .int want, .int mwin, .int (bI isCh), .int mbest, .ref k0, .ref k1, .ref k2, .ref k3])), (mh, .inl (cI, 12, .inl g))]) [0, 2] rfl
      refine vp_callSi (W.runV (As := []) (rest := []) ⟨hx, hb, hml, hown, hts⟩ (c_X6_handValue l D cI cJ cQ m0 ms mf mw mk mtold mh hn mup targ stan soft doub spli giv bon drw mbank q0 q1 q2 mheaps q3 q4 q5 q6 q7 msum hasA mcards mpair shown want mwin isCh mbest k0 k1 k2 k3 (g) hn12) (cwV 0 hts gX6_isThereNow_X6_handValue rfl rfl rfl (by decide +kernel) ⟨Nat.le_of_ble_eq_true rfl, Nat.le_of_ble_eq_true rfl⟩) (rP_preV (ci := 6) (q0 := 0) hPc hK rfl rfl) rfl rfl hl.1 rfl (lv_room (Nat.le_of_ble_eq_true rfl)) dX6_isThereNow_20 ⟨Nat.le_of_ble_eq_true rfl, Nat.le_of_ble_eq_true rfl⟩) (fun r_4 hr_4 => ?_)
      subst hr_4
      refine lv_aload_n hx hb dX6_isThereNow_23 rfl (lv_at hl 1 rfl) ?_
      refine va_get (D := D) (ci := 6) (v := .int targ) (C := RX6) (T := TX6) (N := 39) hx hb hts in_X6_isThereNow_X6 hown hK hP 0 rfl rfl 8 (by decide) (hts _ wd_X6_isThereNow_2) (fun _ h9 => h9) rfl dX6_isThereNow_24 ?_
      refine lv_icmp_le (tgt := 32) hx hb dX6_isThereNow_27 (by decide) (fun c27_5 => ?_) (fun c27_5 => ?_)
      · skip
        refine lv_iload_n hx hb dX6_isThereNow_32 rfl (lv_at hl 2 rfl) ?_
        by_cases k0_6 : p0 = 0
        · subst k0_6
          refine lv_tableIn (off := 31) (tgt := 64) hx hb dX6_isThereNow_33 (by decide) (by decide) (by decide) (by decide) ?_
          refine lv_iconst (v := 1) hx hb dX6_isThereNow_64 (by decide) ?_
          exact W.zret (v := 1) hx hb hr rfl (fun t ht hW => ⟨_, rfl, (by unfold thM; generalize vlM targ (hsN g hn) (haN g hn) = V9 at c27_5 ⊢; (simp [c9_2, c16_3, c27_5, nc9_2]; done)), ht⟩) (fun q hq => absurd hq List.not_mem_nil) dX6_isThereNow_65
        by_cases k1_7 : p0 = 1
        · subst k1_7
          refine lv_tableIn (off := 33) (tgt := 66) hx hb dX6_isThereNow_33 (by decide) (by decide) (by decide) (by decide) ?_
          refine lv_iload_n hx hb dX6_isThereNow_66 rfl (lv_at hl 0 rfl) ?_
          refine lv_if_le (tgt := 83) hx hb dX6_isThereNow_67 (by decide) (fun c67_8 => ?_) (fun c67_8 => ?_)
          · skip
            refine lv_iconst (v := 0) hx hb dX6_isThereNow_83 (by decide) ?_
            exact W.zret (v := 0) hx hb hr rfl (fun t ht hW => ⟨_, rfl, (by unfold thM; generalize vlM targ (hsN g hn) (haN g hn) = V9 at c27_5 ⊢; (simp [c9_2, c16_3, c27_5, c67_8, nc9_2]; done)), ht⟩) (fun q hq => absurd hq List.not_mem_nil) dX6_isThereNow_84
          · skip
            refine lv_aload_n hx hb dX6_isThereNow_70 rfl (lv_at hl 1 rfl) ?_
            refine va_get (D := D) (ci := 6) (v := .int (nI hn)) (C := RX6) (T := TX6) (N := 39) hx hb hts in_X6_isThereNow_X6 hown hK hP 0 rfl rfl 6 (by decide) (hts _ wd_X6_isThereNow_0) (fun _ h9 => h9) rfl dX6_isThereNow_71 ?_
            refine lv_bipush (v := 12) hx hb dX6_isThereNow_74 (by decide) ?_
            refine lv_icmp_ge (tgt := 83) hx hb dX6_isThereNow_76 (by decide) (fun c76_9 => ?_) (fun c76_9 => ?_)
            · skip
              have nc76_9 : 12 ≤ hn := (nI_leI (a := 12) (b := hn) (by omega) (by omega)).mp c76_9
              refine lv_iconst (v := 0) hx hb dX6_isThereNow_83 (by decide) ?_
              exact W.zret (v := 0) hx hb hr rfl (fun t ht hW => ⟨_, rfl, (by unfold thM; generalize vlM targ (hsN g hn) (haN g hn) = V9 at c27_5 ⊢; (simp [c9_2, c16_3, c27_5, c67_8, c76_9, nc9_2, nc76_9]; done)), ht⟩) (fun q hq => absurd hq List.not_mem_nil) dX6_isThereNow_84
            · skip
              have nc76_9 : ¬ (12 ≤ hn) := fun z9 => c76_9 ((nI_leI (a := 12) (b := hn) (by omega) (by omega)).mpr z9)
              refine lv_iconst (v := 1) hx hb dX6_isThereNow_79 (by decide) ?_
              refine lv_goto (tgt := 84) hx hb dX6_isThereNow_80 (by decide) ?_
              exact W.zret (v := 1) hx hb hr rfl (fun t ht hW => ⟨_, rfl, (by unfold thM; generalize vlM targ (hsN g hn) (haN g hn) = V9 at c27_5 ⊢; (simp [c9_2, c16_3, c27_5, c67_8, c76_9, nc9_2, nc76_9]; done)), ht⟩) (fun q hq => absurd hq List.not_mem_nil) dX6_isThereNow_84
        by_cases k2_10 : p0 = 2
        · subst k2_10
          refine lv_tableIn (off := 52) (tgt := 85) hx hb dX6_isThereNow_33 (by decide) (by decide) (by decide) (by decide) ?_
          refine lv_iload_n hx hb dX6_isThereNow_85 rfl (lv_at hl 0 rfl) ?_
          refine lv_if_le (tgt := 109) hx hb dX6_isThereNow_86 (by decide) (fun c86_11 => ?_) (fun c86_11 => ?_)
          · skip
            refine lv_iconst (v := 0) hx hb dX6_isThereNow_109 (by decide) ?_
            exact W.zret (v := 0) hx hb hr rfl (fun t ht hW => ⟨_, rfl, (by unfold thM; generalize vlM targ (hsN g hn) (haN g hn) = V9 at c27_5 ⊢; (simp [c9_2, c16_3, c27_5, c86_11, nc9_2]; done)), ht⟩) (fun q hq => absurd hq List.not_mem_nil) dX6_isThereNow_110
          · skip
            refine lv_aload_n hx hb dX6_isThereNow_89 rfl (lv_at hl 1 rfl) ?_
            refine va_get (D := D) (ci := 6) (v := .int (nI hn)) (C := RX6) (T := TX6) (N := 39) hx hb hts in_X6_isThereNow_X6 hown hK hP 0 rfl rfl 6 (by decide) (hts _ wd_X6_isThereNow_0) (fun _ h9 => h9) rfl dX6_isThereNow_90 ?_
            refine lv_iconst (v := 2) hx hb dX6_isThereNow_93 (by decide) ?_
            refine lv_icmp_ne (tgt := 109) hx hb dX6_isThereNow_94 (by decide) (fun c94_12 => ?_) (fun c94_12 => ?_)
            · skip
              have nc94_12 : ¬ (hn = 2) := fun z9 => c94_12 ((nI_eq (a := hn) (b := 2) (by omega) (by omega)).mpr z9)
              refine lv_iconst (v := 0) hx hb dX6_isThereNow_109 (by decide) ?_
              exact W.zret (v := 0) hx hb hr rfl (fun t ht hW => ⟨_, rfl, (by unfold thM; generalize vlM targ (hsN g hn) (haN g hn) = V9 at c27_5 ⊢; (simp [c9_2, c16_3, c27_5, c86_11, c94_12, nc9_2, nc94_12]; done)), ht⟩) (fun q hq => absurd hq List.not_mem_nil) dX6_isThereNow_110
            · skip
              have nc94_12 : hn = 2 := (nI_eq (a := hn) (b := 2) (by omega) (by omega)).mp c94_12
              refine lv_aload_n hx hb dX6_isThereNow_97 rfl (lv_at hl 1 rfl) ?_
              refine va_get (D := D) (ci := 6) (v := .int doub) (C := RX6) (T := TX6) (N := 39) hx hb hts in_X6_isThereNow_X6 hown hK hP 0 rfl rfl 11 (by decide) (hts _ wd_X6_isThereNow_3) (fun _ h9 => h9) rfl dX6_isThereNow_98 ?_
              refine lv_iconst (v := 1) hx hb dX6_isThereNow_101 (by decide) ?_
              refine lv_icmp_ne (tgt := 109) hx hb dX6_isThereNow_102 (by decide) (fun c102_13 => ?_) (fun c102_13 => ?_)
              · skip
                refine lv_iconst (v := 0) hx hb dX6_isThereNow_109 (by decide) ?_
                exact W.zret (v := 0) hx hb hr rfl (fun t ht hW => ⟨_, rfl, (by unfold thM; generalize vlM targ (hsN g hn) (haN g hn) = V9 at c27_5 ⊢; (simp [c9_2, c16_3, c27_5, c86_11, c94_12, c102_13, nc9_2, nc94_12]; done)), ht⟩) (fun q hq => absurd hq List.not_mem_nil) dX6_isThereNow_110
              · skip
                refine lv_iconst (v := 1) hx hb dX6_isThereNow_105 (by decide) ?_
                refine lv_goto (tgt := 110) hx hb dX6_isThereNow_106 (by decide) ?_
                exact W.zret (v := 1) hx hb hr rfl (fun t ht hW => ⟨_, rfl, (by unfold thM; generalize vlM targ (hsN g hn) (haN g hn) = V9 at c27_5 ⊢; (simp [c9_2, c16_3, c27_5, c86_11, c94_12, c102_13, nc9_2, nc94_12]; done)), ht⟩) (fun q hq => absurd hq List.not_mem_nil) dX6_isThereNow_110
        by_cases k3_14 : p0 = 3
        · subst k3_14
          refine lv_tableIn (off := 78) (tgt := 111) hx hb dX6_isThereNow_33 (by decide) (by decide) (by decide) (by decide) ?_
          refine lv_iload_n hx hb dX6_isThereNow_111 rfl (lv_at hl 0 rfl) ?_
          refine lv_iconst (v := 1) hx hb dX6_isThereNow_112 (by decide) ?_
          refine lv_icmp_le (tgt := 151) hx hb dX6_isThereNow_113 (by decide) (fun c113_15 => ?_) (fun c113_15 => ?_)
          · skip
            refine lv_iconst (v := 0) hx hb dX6_isThereNow_151 (by decide) ?_
            exact W.zret (v := 0) hx hb hr rfl (fun t ht hW => ⟨_, rfl, (by unfold thM; generalize vlM targ (hsN g hn) (haN g hn) = V9 at c27_5 ⊢; (simp [c9_2, c16_3, c27_5, c113_15, nc9_2]; done)), ht⟩) (fun q hq => absurd hq List.not_mem_nil) dX6_isThereNow_152
          · skip
            refine lv_aload_n hx hb dX6_isThereNow_116 rfl (lv_at hl 1 rfl) ?_
            refine va_get (D := D) (ci := 6) (v := .int (nI hn)) (C := RX6) (T := TX6) (N := 39) hx hb hts in_X6_isThereNow_X6 hown hK hP 0 rfl rfl 6 (by decide) (hts _ wd_X6_isThereNow_0) (fun _ h9 => h9) rfl dX6_isThereNow_117 ?_
            refine lv_iconst (v := 2) hx hb dX6_isThereNow_120 (by decide) ?_
            refine lv_icmp_ne (tgt := 151) hx hb dX6_isThereNow_121 (by decide) (fun c121_16 => ?_) (fun c121_16 => ?_)
            · skip
              have nc121_16 : ¬ (hn = 2) := fun z9 => c121_16 ((nI_eq (a := hn) (b := 2) (by omega) (by omega)).mpr z9)
              refine lv_iconst (v := 0) hx hb dX6_isThereNow_151 (by decide) ?_
              exact W.zret (v := 0) hx hb hr rfl (fun t ht hW => ⟨_, rfl, (by unfold thM; generalize vlM targ (hsN g hn) (haN g hn) = V9 at c27_5 ⊢; (simp [c9_2, c16_3, c27_5, c113_15, c121_16, nc9_2, nc121_16]; done)), ht⟩) (fun q hq => absurd hq List.not_mem_nil) dX6_isThereNow_152
            · skip
              have nc121_16 : hn = 2 := (nI_eq (a := hn) (b := 2) (by omega) (by omega)).mp c121_16
              refine lv_aload_n hx hb dX6_isThereNow_124 rfl (lv_at hl 1 rfl) ?_
              refine va_get (D := D) (ci := 6) (v := .ref mh) (C := RX6) (T := TX6) (N := 39) hx hb hts in_X6_isThereNow_X6 hown hK hP 0 rfl rfl 5 (by decide) (hts _ wd_X6_isThereNow_4) (fun _ h9 => h9) rfl dX6_isThereNow_125 ?_
              refine lv_iconst (v := 0) hx hb dX6_isThereNow_128 (by decide) ?_
              refine va_iald hx hb hK hP 2 0 rfl rfl (show ¬ ((0 : Int32) < 0 ∨ 12 ≤ (0 : Int32).toNatClampNeg) by decide) dX6_isThereNow_129 ?_
              refine lv_topi (fun z_17 ez_17 => ?_)
              obtain rfl : z_17 = (g 0) := ez_17
              refine lv_aload_n hx hb dX6_isThereNow_130 rfl (lv_at hl 1 rfl) ?_
              refine va_get (D := D) (ci := 6) (v := .ref mh) (C := RX6) (T := TX6) (N := 39) hx hb hts in_X6_isThereNow_X6 hown hK hP 0 rfl rfl 5 (by decide) (hts _ wd_X6_isThereNow_4) (fun _ h9 => h9) rfl dX6_isThereNow_131 ?_
              refine lv_iconst (v := 1) hx hb dX6_isThereNow_134 (by decide) ?_
              refine va_iald hx hb hK hP 2 0 rfl rfl (show ¬ ((1 : Int32) < 0 ∨ 12 ≤ (1 : Int32).toNatClampNeg) by decide) dX6_isThereNow_135 ?_
              refine lv_topi (fun z_18 ez_18 => ?_)
              obtain rfl : z_18 = (g 1) := ez_18
              refine lv_icmp_ne (tgt := 151) hx hb dX6_isThereNow_136 (by decide) (fun c136_19 => ?_) (fun c136_19 => ?_)
              · skip
                refine lv_iconst (v := 0) hx hb dX6_isThereNow_151 (by decide) ?_
                exact W.zret (v := 0) hx hb hr rfl (fun t ht hW => ⟨_, rfl, (by unfold thM; generalize vlM targ (hsN g hn) (haN g hn) = V9 at c27_5 ⊢; (simp [c9_2, c16_3, c27_5, c113_15, c121_16, c136_19, nc9_2, nc121_16]; done)), ht⟩) (fun q hq => absurd hq List.not_mem_nil) dX6_isThereNow_152
              · skip
                refine lv_aload_n hx hb dX6_isThereNow_139 rfl (lv_at hl 1 rfl) ?_
                refine va_get (D := D) (ci := 6) (v := .int spli) (C := RX6) (T := TX6) (N := 39) hx hb hts in_X6_isThereNow_X6 hown hK hP 0 rfl rfl 12 (by decide) (hts _ wd_X6_isThereNow_5) (fun _ h9 => h9) rfl dX6_isThereNow_140 ?_
                refine lv_iconst (v := 1) hx hb dX6_isThereNow_143 (by decide) ?_
                refine lv_icmp_ne (tgt := 151) hx hb dX6_isThereNow_144 (by decide) (fun c144_20 => ?_) (fun c144_20 => ?_)
                · skip
                  refine lv_iconst (v := 0) hx hb dX6_isThereNow_151 (by decide) ?_
                  exact W.zret (v := 0) hx hb hr rfl (fun t ht hW => ⟨_, rfl, (by unfold thM; generalize vlM targ (hsN g hn) (haN g hn) = V9 at c27_5 ⊢; (simp [c9_2, c16_3, c27_5, c113_15, c121_16, c136_19, c144_20, nc9_2, nc121_16]; done)), ht⟩) (fun q hq => absurd hq List.not_mem_nil) dX6_isThereNow_152
                · skip
                  refine lv_iconst (v := 1) hx hb dX6_isThereNow_147 (by decide) ?_
                  refine lv_goto (tgt := 152) hx hb dX6_isThereNow_148 (by decide) ?_
                  exact W.zret (v := 1) hx hb hr rfl (fun t ht hW => ⟨_, rfl, (by unfold thM; generalize vlM targ (hsN g hn) (haN g hn) = V9 at c27_5 ⊢; (simp [c9_2, c16_3, c27_5, c113_15, c121_16, c136_19, c144_20, nc9_2, nc121_16]; done)), ht⟩) (fun q hq => absurd hq List.not_mem_nil) dX6_isThereNow_152
        refine lv_tableOut (tgt := 153) hx hb dX6_isThereNow_33 (by have := lv_neT k0_6 (a := 0) (by decide); have := lv_neT k1_7 (a := 1) (by decide); have := lv_neT k2_10 (a := 2) (by decide); have := lv_neT k3_14 (a := 3) (by decide); omega) (by decide) ?_
        refine lv_aload_n hx hb dX6_isThereNow_153 rfl (lv_at hl 1 rfl) ?_
        refine va_get (D := D) (ci := 6) (v := .int (nI hn)) (C := RX6) (T := TX6) (N := 39) hx hb hts in_X6_isThereNow_X6 hown hK hP 0 rfl rfl 6 (by decide) (hts _ wd_X6_isThereNow_0) (fun _ h9 => h9) rfl dX6_isThereNow_154 ?_
        refine lv_iconst (v := 2) hx hb dX6_isThereNow_157 (by decide) ?_
        refine lv_icmp_ne (tgt := 173) hx hb dX6_isThereNow_158 (by decide) (fun c158_21 => ?_) (fun c158_21 => ?_)
        · skip
          have nc158_21 : ¬ (hn = 2) := fun z9 => c158_21 ((nI_eq (a := hn) (b := 2) (by omega) (by omega)).mpr z9)
          refine lv_iconst (v := 0) hx hb dX6_isThereNow_173 (by decide) ?_
          exact W.zret (v := 0) hx hb hr rfl (fun t ht hW => ⟨_, rfl, (by unfold thM; generalize vlM targ (hsN g hn) (haN g hn) = V9 at c27_5 ⊢; (simp [c9_2, c16_3, c27_5, k0_6, k1_7, k2_10, k3_14, c158_21, nc9_2, nc158_21]; done)), ht⟩) (fun q hq => absurd hq List.not_mem_nil) dX6_isThereNow_174
        · skip
          have nc158_21 : hn = 2 := (nI_eq (a := hn) (b := 2) (by omega) (by omega)).mp c158_21
          refine lv_aload_n hx hb dX6_isThereNow_161 rfl (lv_at hl 1 rfl) ?_
          refine va_get (D := D) (ci := 6) (v := .int giv) (C := RX6) (T := TX6) (N := 39) hx hb hts in_X6_isThereNow_X6 hown hK hP 0 rfl rfl 13 (by decide) (hts _ wd_X6_isThereNow_6) (fun _ h9 => h9) rfl dX6_isThereNow_162 ?_
          refine lv_iconst (v := 1) hx hb dX6_isThereNow_165 (by decide) ?_
          refine lv_icmp_ne (tgt := 173) hx hb dX6_isThereNow_166 (by decide) (fun c166_22 => ?_) (fun c166_22 => ?_)
          · skip
            refine lv_iconst (v := 0) hx hb dX6_isThereNow_173 (by decide) ?_
            exact W.zret (v := 0) hx hb hr rfl (fun t ht hW => ⟨_, rfl, (by unfold thM; generalize vlM targ (hsN g hn) (haN g hn) = V9 at c27_5 ⊢; (simp [c9_2, c16_3, c27_5, k0_6, k1_7, k2_10, k3_14, c158_21, c166_22, nc9_2, nc158_21]; done)), ht⟩) (fun q hq => absurd hq List.not_mem_nil) dX6_isThereNow_174
          · skip
            refine lv_iconst (v := 1) hx hb dX6_isThereNow_169 (by decide) ?_
            refine lv_goto (tgt := 174) hx hb dX6_isThereNow_170 (by decide) ?_
            exact W.zret (v := 1) hx hb hr rfl (fun t ht hW => ⟨_, rfl, (by unfold thM; generalize vlM targ (hsN g hn) (haN g hn) = V9 at c27_5 ⊢; (simp [c9_2, c16_3, c27_5, k0_6, k1_7, k2_10, k3_14, c158_21, c166_22, nc9_2, nc158_21]; done)), ht⟩) (fun q hq => absurd hq List.not_mem_nil) dX6_isThereNow_174
      · skip
        refine lv_iconst (v := 0) hx hb dX6_isThereNow_30 (by decide) ?_
        exact W.zret (v := 0) hx hb hr rfl (fun t ht hW => ⟨_, rfl, (by unfold thM; generalize vlM targ (hsN g hn) (haN g hn) = V9 at c27_5 ⊢; (simp [c9_2, c16_3, c27_5, nc9_2]; done)), ht⟩) (fun q hq => absurd hq List.not_mem_nil) dX6_isThereNow_31

set_option maxRecDepth 20000 in
theorem wd_X6_there_0 : Cond.constantLong RX6 114 (4) ∈ wsX6_there := by decide +kernel
set_option maxHeartbeats 400000 in
set_option maxRecDepth 100000 in
/-- X6_there -/
theorem c_X6_there (l : Launch) (D : va_G) (cI cJ cQ : ClassId) (m0 : Nat) (ms : Nat) (mf : Nat) (mw : Nat) (mk : Nat) (mtold : Bool) (mh : Nat) (hn : Nat) (mup : Int32) (targ : Int32) (stan : Int32) (soft : Int32) (doub : Int32) (spli : Int32) (giv : Int32) (bon : Int32) (drw : Int64) (mbank : Int32) (q0 : Nat) (q1 : Nat) (q2 : Nat) (mheaps : Int32) (q3 : Nat) (q4 : Nat) (q5 : Nat) (q6 : Nat) (q7 : Nat) (msum : Int32) (hasA : Bool) (mcards : Int32) (mpair : Int32) (shown : Int32) (want : Int32) (mwin : Int32) (isCh : Bool) (mbest : Int32) (k0 : Nat) (k1 : Nat) (k2 : Nat) (k3 : Nat) (f : Nat → Int32) (g : Nat → Int32) (p0 : Int32) (hn12 : hn ≤ 12) : Met l yX6_there wsX6_there ({ frames := 3, cells := 0, slots := 0, locals := 64 }) (va_Pc [.ref m0, .int p0] (rP D (gTy cI cJ cQ) [(m0, .inr (6, [.ref ms, .ref mf, .ref mw, .ref mk, .int (bI mtold), .ref mh, .int (nI hn), .int mup, .int targ, .int stan, .int soft, .int doub, .int spli, .int giv, .int bon, .long drw, .int mbank, .ref q0, .ref q1, .ref q2, .int mheaps, .ref q3, .ref q4, .ref q5, .ref q6, .ref q7, .int msum, .int (bI hasA), .int mcards, .int mpair, .int shown, .int want, .int mwin, .int (bI isCh), .int mbest, .ref k0, .ref k1, .ref k2, .ref k3])), (ms, .inl (cI, 11, .inl f)), (mh, .inl (cI, 12, .inl g))])) (vp_Si (fun r => r = if inB p0.toInt64 0 4 = 0 then (-1001) else if thM targ hn g mup (sm10 f) doub spli giv p0 = 0 then 0 else 1)) 0 0 (fun _ => False) := by
  refine Met.ofW (cc := cX6_there) (maxL := 2) (ret := (some .int)) (by decide) rfl ?_
  intro p e s m args below meth c s₁ B hml hv
  obtain ⟨rfl, hP, hK⟩ := hv
  have hx := B.exec
  have hb := B.bytes
  have hr := B.returns
  have hts := atoms_spec (ws := wsX6_there) B.pre
  have hown : s.vm.findClass RX6 = some m.cls := findClass_of_methodNamed B.named
  have hlocks := B.notSynchronized
  have hl := lv_entry ([.ref m0, .int p0]) (n := 2) (Nat.le_of_ble_eq_true rfl)
  rw [lg_entry_eq]
  generalize (lg_sl ([.ref m0, .int p0]) ++ List.replicate (2 - (lg_sl ([.ref m0, .int p0])).length) Slot.unset).toArray = ls at hl ⊢
  have hl : lv_has ls 2 [(0, .ref m0), (1, .int p0)] := hl
  refine lv_iload_n hx hb dX6_there_0 rfl (lv_at hl 1 rfl) ?_
  refine lv_i2l (v := p0.toInt64) hx hb dX6_there_1 rfl ?_
  refine lv_lconst (v := 0) hx hb dX6_there_2 (by decide) ?_
  refine lv_ldc2 hx hb hown (hts _ wd_X6_there_0) dX6_there_3 ?_
  have hPc := hP.sub (ws' := []) [] rfl
  refine vp_callSi (W.runS (As := [.long p0.toInt64, .long 0, .long 4]) (rest := []) ⟨hx, hb, hml, hown, hts⟩ (c_X6_in l D cI cJ cQ p0.toInt64 0 4) (va_cwS 3 hts gX6_there_X6_in rfl rfl rfl (by decide +kernel) ⟨Nat.le_of_ble_eq_true rfl, Nat.le_of_ble_eq_true rfl⟩) (rP_preS hPc hK) rfl rfl hl.1 rfl (lv_room (Nat.le_of_ble_eq_true rfl)) dX6_there_6 ⟨Nat.le_of_ble_eq_true rfl, Nat.le_of_ble_eq_true rfl⟩) (fun r_1 hr_1 => ?_)
  subst hr_1
  refine lv_if_ne (tgt := 18) hx hb dX6_there_9 (by decide) (fun c9_2 => ?_) (fun c9_2 => ?_)
  · skip
    refine lv_aload_n hx hb dX6_there_18 rfl (lv_at hl 0 rfl) ?_
    refine lv_iload_n hx hb dX6_there_19 rfl (lv_at hl 1 rfl) ?_
    have hPc := hP.sub (ws' := [(m0, .inr (6, [.ref ms, .ref mf, .ref mw, .ref mk, .int (bI mtold), .ref mh, .int (nI hn), .int mup, .int targ, .int stan, .int soft, .int doub, .int spli, .int giv, .int bon, .long drw, .int mbank, .ref q0, .ref q1, .ref q2, .int mheaps, .ref q3, .ref q4, .ref q5, .ref q6, .ref q7, .int msum, .int (bI hasA), .int mcards, .int mpair, .int shown, .int want, .int mwin, .int (bI isCh), .int mbest, .ref k0, .ref k1, .ref k2, .ref k3])), (ms, .inl (cI, 11, .inl f)), (mh, .inl (cI, 12, .inl g))]) [0, 1, 2] rfl
    refine vp_callSi (W.runV (As := [.int p0]) (rest := []) ⟨hx, hb, hml, hown, hts⟩ (c_X6_isThereNow l D cI cJ cQ m0 ms mf mw mk mtold mh hn mup targ stan soft doub spli giv bon drw mbank q0 q1 q2 mheaps q3 q4 q5 q6 q7 msum hasA mcards mpair shown want mwin isCh mbest k0 k1 k2 k3 (f) (g) p0 hn12) (cwV 1 hts gX6_there_X6_isThereNow rfl rfl rfl (by decide +kernel) ⟨Nat.le_of_ble_eq_true rfl, Nat.le_of_ble_eq_true rfl⟩) (rP_preV (ci := 6) (q0 := 0) hPc hK rfl rfl) rfl rfl hl.1 rfl (lv_room (Nat.le_of_ble_eq_true rfl)) dX6_there_20 ⟨Nat.le_of_ble_eq_true rfl, Nat.le_of_ble_eq_true rfl⟩) (fun r_3 hr_3 => ?_)
    subst hr_3
    refine lv_if_eq (tgt := 30) hx hb dX6_there_23 (by decide) (fun c23_4 => ?_) (fun c23_4 => ?_)
    · skip
      refine lv_iconst (v := 0) hx hb dX6_there_30 (by decide) ?_
      exact W.iret (v := 0) hx hb hr (fun t ht hW => ⟨_, rfl, (by first | rfl | trivial | (simp [c9_2, c23_4]; done) | ((try first | rw [if_pos c9_2] | rw [if_neg c9_2]); (try first | rw [if_pos c23_4] | rw [if_neg c23_4]); first | done | rfl | trivial) | (simp_all; done)), ht⟩) (fun q hq => absurd hq List.not_mem_nil) dX6_there_31
    · skip
      refine lv_iconst (v := 1) hx hb dX6_there_26 (by decide) ?_
      refine lv_goto (tgt := 31) hx hb dX6_there_27 (by decide) ?_
      exact W.iret (v := 1) hx hb hr (fun t ht hW => ⟨_, rfl, (by first | rfl | trivial | (simp [c9_2, c23_4]; done) | ((try first | rw [if_pos c9_2] | rw [if_neg c9_2]); (try first | rw [if_pos c23_4] | rw [if_neg c23_4]); first | done | rfl | trivial) | (simp_all; done)), ht⟩) (fun q hq => absurd hq List.not_mem_nil) dX6_there_31
  · skip
    refine lv_sipush (v := (-1001)) hx hb dX6_there_12 (by decide) ?_
    refine lv_goto (tgt := 31) hx hb dX6_there_15 (by decide) ?_
    exact W.iret (v := (-1001)) hx hb hr (fun t ht hW => ⟨_, rfl, (by first | rfl | trivial | (simp [c9_2]; done) | ((try first | rw [if_pos c9_2] | rw [if_neg c9_2]); first | done | rfl | trivial) | (simp_all; done)), ht⟩) (fun q hq => absurd hq List.not_mem_nil) dX6_there_31

set_option maxRecDepth 20000 in
theorem wd_X6_rule_0 : Cond.constantLong RX6 116 (6) ∈ wsX6_rule := by decide +kernel
set_option maxRecDepth 20000 in
theorem in_X6_rule_X6 : ∀ w ∈ wsX60, w ∈ wsX6_rule := by decide +kernel
set_option maxRecDepth 20000 in
theorem wd_X6_rule_1 : Cond.fieldLink RX6 25 "ShoeTableModel" "target" "I" ∈ wsX6_rule := by decide +kernel
set_option maxRecDepth 20000 in
theorem wd_X6_rule_2 : Cond.fieldLink RX6 29 "ShoeTableModel" "stands" "I" ∈ wsX6_rule := by decide +kernel
set_option maxRecDepth 20000 in
theorem wd_X6_rule_3 : Cond.fieldLink RX6 118 "ShoeTableModel" "softly" "I" ∈ wsX6_rule := by decide +kernel
set_option maxRecDepth 20000 in
theorem wd_X6_rule_4 : Cond.fieldLink RX6 32 "ShoeTableModel" "doubles" "I" ∈ wsX6_rule := by decide +kernel
set_option maxRecDepth 20000 in
theorem wd_X6_rule_5 : Cond.fieldLink RX6 35 "ShoeTableModel" "splits" "I" ∈ wsX6_rule := by decide +kernel
set_option maxRecDepth 20000 in
theorem wd_X6_rule_6 : Cond.fieldLink RX6 38 "ShoeTableModel" "gives" "I" ∈ wsX6_rule := by decide +kernel
set_option maxRecDepth 20000 in
theorem wd_X6_rule_7 : Cond.fieldLink RX6 41 "ShoeTableModel" "bonus" "I" ∈ wsX6_rule := by decide +kernel
set_option maxRecDepth 20000 in
theorem wd_X6_rule_8 : Cond.constantLong RX6 112 (2) ∈ wsX6_rule := by decide +kernel
set_option maxRecDepth 20000 in
theorem wd_X6_rule_9 : Cond.constantLong RX6 114 (4) ∈ wsX6_rule := by decide +kernel
set_option maxRecDepth 20000 in
theorem wd_X6_rule_10 : Cond.constantLong RX6 108 (11) ∈ wsX6_rule := by decide +kernel
set_option maxRecDepth 20000 in
theorem wd_X6_rule_11 : Cond.constantLong RX6 110 (21) ∈ wsX6_rule := by decide +kernel
set_option maxRecDepth 20000 in
theorem wd_X6_rule_12 : Cond.constantLong RX6 86 (10) ∈ wsX6_rule := by decide +kernel
set_option maxHeartbeats 400000 in
set_option maxRecDepth 100000 in
/-- X6_rule -/
theorem c_X6_rule (l : Launch) (D : va_G) (cI cJ cQ : ClassId) (sz : Nat) (m0 : Nat) (ms : Nat) (mf : Nat) (mw : Nat) (mk : Nat) (mtold : Bool) (mh : Nat) (hn : Nat) (mup : Int32) (targ : Int32) (stan : Int32) (soft : Int32) (doub : Int32) (spli : Int32) (giv : Int32) (bon : Int32) (drw : Int64) (mbank : Int32) (q0 : Nat) (q1 : Nat) (q2 : Nat) (mheaps : Int32) (q3 : Nat) (q4 : Nat) (q5 : Nat) (q6 : Nat) (q7 : Nat) (msum : Int32) (hasA : Bool) (mcards : Int32) (mpair : Int32) (shown : Int32) (want : Int32) (mwin : Int32) (isCh : Bool) (mbest : Int32) (k0 : Nat) (k1 : Nat) (k2 : Nat) (k3 : Nat) (p0 : Int32) (p1 : Int32)  : Met l yX6_rule wsX6_rule ({ frames := 1, cells := 0, slots := 0, locals := 25 }) (va_Pc [.ref m0, .int p0, .int p1] (mP D (gTy cI cJ cQ) [(m0, .inr (6, [.ref ms, .ref mf, .ref mw, .ref mk, .int (bI mtold), .ref mh, .int (nI hn), .int mup, .int targ, .int stan, .int soft, .int doub, .int spli, .int giv, .int bon, .long drw, .int mbank, .ref q0, .ref q1, .ref q2, .int mheaps, .ref q3, .ref q4, .ref q5, .ref q6, .ref q7, .int msum, .int (bI hasA), .int mcards, .int mpair, .int shown, .int want, .int mwin, .int (bI isCh), .int mbest, .ref k0, .ref k1, .ref k2, .ref k3]))] sz)) (va_Qi (fun (r : Int32) (u : Int32 × Int32 × Int32 × Int32 × Int32 × Int32 × Int32) => match u with | (targ2, stan2, soft2, doub2, spli2, giv2, bon2) => if inB p0.toInt64 0 6 = 0 then r = -1001 ∧ targ2 = targ ∧ stan2 = stan ∧ soft2 = soft ∧ doub2 = doub ∧ spli2 = spli ∧ giv2 = giv ∧ bon2 = bon else if rlM p0 p1 targ stan = 0 then r = -1001 ∧ targ2 = targ ∧ stan2 = stan ∧ soft2 = soft ∧ doub2 = doub ∧ spli2 = spli ∧ giv2 = giv ∧ bon2 = bon else r = (if p0 = 0 then targ else if p0 = 1 then stan else if p0 = 2 then soft else if p0 = 3 then doub else if p0 = 4 then spli else if p0 = 5 then giv else bon) ∧ targ2 = (if p0 = 0 then p1 else targ) ∧ stan2 = (if p0 = 1 then p1 else stan) ∧ soft2 = (if p0 = 2 then p1 else soft) ∧ doub2 = (if p0 = 3 then p1 else doub) ∧ spli2 = (if p0 = 4 then p1 else spli) ∧ giv2 = (if p0 = 5 then p1 else giv) ∧ bon2 = (if p0 = 0 ∨ p0 = 1 ∨ p0 = 2 ∨ p0 = 3 ∨ p0 = 4 ∨ p0 = 5 then bon else p1)) (fun (u : Int32 × Int32 × Int32 × Int32 × Int32 × Int32 × Int32) t => match u with | (targ2, stan2, soft2, doub2, spli2, giv2, bon2) => mB D (gTy cI cJ cQ) (va_A [(m0, .inr (6, [.ref ms, .ref mf, .ref mw, .ref mk, .int (bI mtold), .ref mh, .int (nI hn), .int mup, .int targ, .int stan, .int soft, .int doub, .int spli, .int giv, .int bon, .long drw, .int mbank, .ref q0, .ref q1, .ref q2, .int mheaps, .ref q3, .ref q4, .ref q5, .ref q6, .ref q7, .int msum, .int (bI hasA), .int mcards, .int mpair, .int shown, .int want, .int mwin, .int (bI isCh), .int mbest, .ref k0, .ref k1, .ref k2, .ref k3]))] sz) [(m0, .inr (6, [.ref ms, .ref mf, .ref mw, .ref mk, .int (bI mtold), .ref mh, .int (nI hn), .int mup, .int targ2, .int stan2, .int soft2, .int doub2, .int spli2, .int giv2, .int bon2, .long drw, .int mbank, .ref q0, .ref q1, .ref q2, .int mheaps, .ref q3, .ref q4, .ref q5, .ref q6, .ref q7, .int msum, .int (bI hasA), .int mcards, .int mpair, .int shown, .int want, .int mwin, .int (bI isCh), .int mbest, .ref k0, .ref k1, .ref k2, .ref k3]))] t) (va_A [(m0, .inr (6, [.ref ms, .ref mf, .ref mw, .ref mk, .int (bI mtold), .ref mh, .int (nI hn), .int mup, .int targ, .int stan, .int soft, .int doub, .int spli, .int giv, .int bon, .long drw, .int mbank, .ref q0, .ref q1, .ref q2, .int mheaps, .ref q3, .ref q4, .ref q5, .ref q6, .ref q7, .int msum, .int (bI hasA), .int mcards, .int mpair, .int shown, .int want, .int mwin, .int (bI isCh), .int mbest, .ref k0, .ref k1, .ref k2, .ref k3]))] sz)) 0 0 (va_A [(m0, .inr (6, [.ref ms, .ref mf, .ref mw, .ref mk, .int (bI mtold), .ref mh, .int (nI hn), .int mup, .int targ, .int stan, .int soft, .int doub, .int spli, .int giv, .int bon, .long drw, .int mbank, .ref q0, .ref q1, .ref q2, .int mheaps, .ref q3, .ref q4, .ref q5, .ref q6, .ref q7, .int msum, .int (bI hasA), .int mcards, .int mpair, .int shown, .int want, .int mwin, .int (bI isCh), .int mbest, .ref k0, .ref k1, .ref k2, .ref k3]))] sz) := by
  refine Met.ofW (cc := cX6_rule) (maxL := 7) (ret := (some .int)) (by decide) rfl ?_
  intro p e s m args below meth c s₁ B hml hv
  obtain ⟨rfl, hsz, hP, hK, hD0⟩ := hv
  have hx := B.exec
  have hb := B.bytes
  have hr := B.returns
  have hts := atoms_spec (ws := wsX6_rule) B.pre
  have hown : s.vm.findClass RX6 = some m.cls := findClass_of_methodNamed B.named
  have hlocks := B.notSynchronized
  subst hsz
  have hD := hD0.self (sz := s.heap.size)
  generalize hAe : va_A [(m0, .inr (6, [.ref ms, .ref mf, .ref mw, .ref mk, .int (bI mtold), .ref mh, .int (nI hn), .int mup, .int targ, .int stan, .int soft, .int doub, .int spli, .int giv, .int bon, .long drw, .int mbank, .ref q0, .ref q1, .ref q2, .int mheaps, .ref q3, .ref q4, .ref q5, .ref q6, .ref q7, .int msum, .int (bI hasA), .int mcards, .int mpair, .int shown, .int want, .int mwin, .int (bI isCh), .int mbest, .ref k0, .ref k1, .ref k2, .ref k3]))] s.heap.size = A at hD ⊢
  have hA : ∀ q : Nat, s.heap.size ≤ q → A q := fun q h => by rw [← hAe]; exact Or.inr h
  have hS : va_S A s.heap s.heap [] := va_S.rf
  have hP : va_P D vwCl [(m0, .inr (6, [.ref ms, .ref mf, .ref mw, .ref mk, .int (bI mtold), .ref mh, .int (nI hn), .int mup, .int targ, .int stan, .int soft, .int doub, .int spli, .int giv, .int bon, .long drw, .int mbank, .ref q0, .ref q1, .ref q2, .int mheaps, .ref q3, .ref q4, .ref q5, .ref q6, .ref q7, .int msum, .int (bI hasA), .int mcards, .int mpair, .int shown, .int want, .int mwin, .int (bI isCh), .int mbest, .ref k0, .ref k1, .ref k2, .ref k3]))] s.heap := hP
  have hl := lv_entry ([.ref m0, .int p0, .int p1]) (n := 7) (Nat.le_of_ble_eq_true rfl)
  rw [lg_entry_eq]
  generalize (lg_sl ([.ref m0, .int p0, .int p1]) ++ List.replicate (7 - (lg_sl ([.ref m0, .int p0, .int p1])).length) Slot.unset).toArray = ls at hl ⊢
  have hl : lv_has ls 7 [(0, .ref m0), (1, .int p0), (2, .int p1)] := hl
  refine lv_join (α := Int32) 12 7 (fun a9 => [(0, .ref m0), (1, .int p0), (2, .int p1)]) (fun a9 => [.int a9]) (fun a9 => a9 = (if p0 = 0 then p1 else targ)) (fun a_3 ls hl hp_2 => ?_) (fun hJ_1 => ?_)
  · skip
    have hp_2 : a_3 = (if p0 = 0 then p1 else targ) := hp_2
    subst hp_2
    refine lv_istore_n (lv' := [(3, .int (if p0 = 0 then p1 else targ)), (0, .ref m0), (1, .int p0), (2, .int p1)]) hx hb dX6_rule_12 rfl hl (by decide) rfl (fun ls hl => ?_)
    refine lv_join (α := Int32) 26 7 (fun a9 => [(3, .int (if p0 = 0 then p1 else targ)), (0, .ref m0), (1, .int p0), (2, .int p1)]) (fun a9 => [.int a9]) (fun a9 => a9 = (if p0 = 1 then p1 else stan)) (fun a_6 ls hl hp_5 => ?_) (fun hJ_4 => ?_)
    · skip
      have hp_5 : a_6 = (if p0 = 1 then p1 else stan) := hp_5
      subst hp_5
      refine lv_istore (lv' := [(4, .int (if p0 = 1 then p1 else stan)), (3, .int (if p0 = 0 then p1 else targ)), (0, .ref m0), (1, .int p0), (2, .int p1)]) hx hb dX6_rule_26 hl (by decide) rfl (fun ls hl => ?_)
      refine lv_join (α := Int32) 96 7 (fun a9 => [(4, .int (if p0 = 1 then p1 else stan)), (3, .int (if p0 = 0 then p1 else targ)), (0, .ref m0), (1, .int p0), (2, .int p1)]) (fun a9 => [.int a9]) (fun a9 => a9 = (rlM p0 p1 targ stan)) (fun a_9 ls hl hp_8 => ?_) (fun hJ_7 => ?_)
      · skip
        have hp_8 : a_9 = (rlM p0 p1 targ stan) := hp_8
        subst hp_8
        refine lv_istore (lv' := [(5, .int (rlM p0 p1 targ stan)), (4, .int (if p0 = 1 then p1 else stan)), (3, .int (if p0 = 0 then p1 else targ)), (0, .ref m0), (1, .int p0), (2, .int p1)]) hx hb dX6_rule_96 hl (by decide) rfl (fun ls hl => ?_)
        refine lv_iload_n hx hb dX6_rule_98 rfl (lv_at hl 4 rfl) ?_
        refine lv_i2l (v := p0.toInt64) hx hb dX6_rule_99 rfl ?_
        refine lv_lconst (v := 0) hx hb dX6_rule_100 (by decide) ?_
        refine lv_ldc2 hx hb hown (hts _ wd_X6_rule_0) dX6_rule_101 ?_
        have hPc := hP.sub (ws' := []) [] rfl
        refine vp_callSi (W.runS (As := [.long p0.toInt64, .long 0, .long 6]) (rest := []) ⟨hx, hb, hml, hown, hts⟩ (c_X6_in l D cI cJ cQ p0.toInt64 0 6) (va_cwS 3 hts gX6_rule_X6_in rfl rfl rfl (by decide +kernel) ⟨Nat.le_of_ble_eq_true rfl, Nat.le_of_ble_eq_true rfl⟩) (rP_preS hPc hK) rfl rfl hl.1 rfl (lv_room (Nat.le_of_ble_eq_true rfl)) dX6_rule_104 ⟨Nat.le_of_ble_eq_true rfl, Nat.le_of_ble_eq_true rfl⟩) (fun r_10 hr_10 => ?_)
        subst hr_10
        refine lv_if_eq (tgt := 115) hx hb dX6_rule_107 (by decide) (fun c107_11 => ?_) (fun c107_11 => ?_)
        · skip
          refine lv_sipush (v := (-1001)) hx hb dX6_rule_115 (by decide) ?_
          have hP9 := hP.sub (ws' := [(m0, .inr (6, [.ref ms, .ref mf, .ref mw, .ref mk, .int (bI mtold), .ref mh, .int (nI hn), .int mup, .int targ, .int stan, .int soft, .int doub, .int spli, .int giv, .int bon, .long drw, .int mbank, .ref q0, .ref q1, .ref q2, .int mheaps, .ref q3, .ref q4, .ref q5, .ref q6, .ref q7, .int msum, .int (bI hasA), .int mcards, .int mpair, .int shown, .int want, .int mwin, .int (bI isCh), .int mbest, .ref k0, .ref k1, .ref k2, .ref k3]))]) [0] rfl
          have hD9 := hD.sub (ws' := [(m0, .inr (6, [.ref ms, .ref mf, .ref mw, .ref mk, .int (bI mtold), .ref mh, .int (nI hn), .int mup, .int targ, .int stan, .int soft, .int doub, .int spli, .int giv, .int bon, .long drw, .int mbank, .ref q0, .ref q1, .ref q2, .int mheaps, .ref q3, .ref q4, .ref q5, .ref q6, .ref q7, .int msum, .int (bI hasA), .int mcards, .int mpair, .int shown, .int want, .int mwin, .int (bI isCh), .int mbest, .ref k0, .ref k1, .ref k2, .ref k3]))]) [0] (by decide) rfl
          exact W.iret (v := (-1001)) hx hb hr (fun t ht hW => ⟨⟨(-1001), (targ, stan, soft, doub, spli, giv, bon), rfl, (by dsimp only; rw [if_pos c107_11]; exact ⟨rfl, rfl, rfl, rfl, rfl, rfl, rfl, rfl⟩), by rw [ht]; exact hP9, va_K.moved hW.alike hK, hD9⟩, hS.F ht⟩) hS.2.2 dX6_rule_118
        · skip
          refine lv_iload hx hb dX6_rule_110 (lv_at hl 0 rfl) ?_
          refine lv_if_ne (tgt := 119) hx hb dX6_rule_112 (by decide) (fun c112_12 => ?_) (fun c112_12 => ?_)
          · skip
            refine lv_iconst (v := 0) hx hb dX6_rule_119 (by decide) ?_
            refine lv_istore (lv' := [(6, .int 0), (5, .int (rlM p0 p1 targ stan)), (4, .int (if p0 = 1 then p1 else stan)), (3, .int (if p0 = 0 then p1 else targ)), (0, .ref m0), (1, .int p0), (2, .int p1)]) hx hb dX6_rule_120 hl (by decide) rfl (fun ls hl => ?_)
            refine lv_iload_n hx hb dX6_rule_122 rfl (lv_at hl 5 rfl) ?_
            by_cases k0_13 : p0 = 0
            · subst k0_13
              refine lv_tableIn (off := 37) (tgt := 160) hx hb dX6_rule_123 (by decide) (by decide) (by decide) (by decide) ?_
              refine lv_aload_n hx hb dX6_rule_160 rfl (lv_at hl 4 rfl) ?_
              refine va_get (D := D) (ci := 6) (v := .int targ) (C := RX6) (T := TX6) (N := 39) hx hb hts in_X6_rule_X6 hown hK hP 0 rfl rfl 8 (by decide) (hts _ wd_X6_rule_1) (fun _ h9 => h9) rfl dX6_rule_161 ?_
              refine lv_istore (lv' := [(6, .int targ), (5, .int (rlM (0 : Int32) p1 targ stan)), (4, .int (if (0 : Int32) = 1 then p1 else stan)), (3, .int (if (0 : Int32) = 0 then p1 else targ)), (0, .ref m0), (1, .int 0), (2, .int p1)]) hx hb dX6_rule_164 hl (by decide) rfl (fun ls hl => ?_)
              refine lv_aload_n hx hb dX6_rule_166 rfl (lv_at hl 4 rfl) ?_
              refine lv_iload_n hx hb dX6_rule_167 rfl (lv_at hl 6 rfl) ?_
              refine va_put (D := D) (ci := 6) (v := .int p1) (ty := .int) (C := RX6) (T := TX6) (N := 39) hx hb hts in_X6_rule_X6 tyX6 tyX6_ok nmX6 hown hK hP hD hS 0 rfl rfl 8 (by decide) (hts _ wd_X6_rule_1) (fun _ h9 => h9) rfl (by decide +kernel) rfl rfl (Nat.le_of_ble_eq_true rfl) dX6_rule_168 (fun H locs hP hD hS => ?_)
              have hP : va_P D vwCl [(m0, .inr (6, [.ref ms, .ref mf, .ref mw, .ref mk, .int (bI mtold), .ref mh, .int (nI hn), .int mup, .int p1, .int stan, .int soft, .int doub, .int spli, .int giv, .int bon, .long drw, .int mbank, .ref q0, .ref q1, .ref q2, .int mheaps, .ref q3, .ref q4, .ref q5, .ref q6, .ref q7, .int msum, .int (bI hasA), .int mcards, .int mpair, .int shown, .int want, .int mwin, .int (bI isCh), .int mbest, .ref k0, .ref k1, .ref k2, .ref k3]))] H := hP
              have hD : va_D A [(m0, .inr (6, [.ref ms, .ref mf, .ref mw, .ref mk, .int (bI mtold), .ref mh, .int (nI hn), .int mup, .int p1, .int stan, .int soft, .int doub, .int spli, .int giv, .int bon, .long drw, .int mbank, .ref q0, .ref q1, .ref q2, .int mheaps, .ref q3, .ref q4, .ref q5, .ref q6, .ref q7, .int msum, .int (bI hasA), .int mcards, .int mpair, .int shown, .int want, .int mwin, .int (bI isCh), .int mbest, .ref k0, .ref k1, .ref k2, .ref k3]))] := hD
              refine lv_goto (tgt := 255) hx hb dX6_rule_171 (by decide) ?_
              refine lv_iload hx hb dX6_rule_255 (lv_at hl 0 rfl) ?_
              have hP9 := hP.sub (ws' := [(m0, .inr (6, [.ref ms, .ref mf, .ref mw, .ref mk, .int (bI mtold), .ref mh, .int (nI hn), .int mup, .int p1, .int stan, .int soft, .int doub, .int spli, .int giv, .int bon, .long drw, .int mbank, .ref q0, .ref q1, .ref q2, .int mheaps, .ref q3, .ref q4, .ref q5, .ref q6, .ref q7, .int msum, .int (bI hasA), .int mcards, .int mpair, .int shown, .int want, .int mwin, .int (bI isCh), .int mbest, .ref k0, .ref k1, .ref k2, .ref k3]))]) [0] rfl
              have hD9 := hD.sub (ws' := [(m0, .inr (6, [.ref ms, .ref mf, .ref mw, .ref mk, .int (bI mtold), .ref mh, .int (nI hn), .int mup, .int p1, .int stan, .int soft, .int doub, .int spli, .int giv, .int bon, .long drw, .int mbank, .ref q0, .ref q1, .ref q2, .int mheaps, .ref q3, .ref q4, .ref q5, .ref q6, .ref q7, .int msum, .int (bI hasA), .int mcards, .int mpair, .int shown, .int want, .int mwin, .int (bI isCh), .int mbest, .ref k0, .ref k1, .ref k2, .ref k3]))]) [0] (by decide) rfl
              exact W.iret (v := targ) hx hb hr (fun t ht hW => ⟨⟨targ, (p1, stan, soft, doub, spli, giv, bon), rfl, (by dsimp only; rw [if_neg c107_11, if_neg c112_12]; first | exact ⟨rfl, rfl, rfl, rfl, rfl, rfl, rfl, rfl⟩ | (simp []; done)), by rw [ht]; exact hP9, va_K.moved hW.alike hK, hD9⟩, hS.F ht⟩) hS.2.2 dX6_rule_257
            by_cases k1_14 : p0 = 1
            · subst k1_14
              refine lv_tableIn (off := 51) (tgt := 174) hx hb dX6_rule_123 (by decide) (by decide) (by decide) (by decide) ?_
              refine lv_aload_n hx hb dX6_rule_174 rfl (lv_at hl 4 rfl) ?_
              refine va_get (D := D) (ci := 6) (v := .int stan) (C := RX6) (T := TX6) (N := 39) hx hb hts in_X6_rule_X6 hown hK hP 0 rfl rfl 9 (by decide) (hts _ wd_X6_rule_2) (fun _ h9 => h9) rfl dX6_rule_175 ?_
              refine lv_istore (lv' := [(6, .int stan), (5, .int (rlM (1 : Int32) p1 targ stan)), (4, .int (if (1 : Int32) = 1 then p1 else stan)), (3, .int (if (1 : Int32) = 0 then p1 else targ)), (0, .ref m0), (1, .int 1), (2, .int p1)]) hx hb dX6_rule_178 hl (by decide) rfl (fun ls hl => ?_)
              refine lv_aload_n hx hb dX6_rule_180 rfl (lv_at hl 4 rfl) ?_
              refine lv_iload_n hx hb dX6_rule_181 rfl (lv_at hl 6 rfl) ?_
              refine va_put (D := D) (ci := 6) (v := .int p1) (ty := .int) (C := RX6) (T := TX6) (N := 39) hx hb hts in_X6_rule_X6 tyX6 tyX6_ok nmX6 hown hK hP hD hS 0 rfl rfl 9 (by decide) (hts _ wd_X6_rule_2) (fun _ h9 => h9) rfl (by decide +kernel) rfl rfl (Nat.le_of_ble_eq_true rfl) dX6_rule_182 (fun H locs hP hD hS => ?_)
              have hP : va_P D vwCl [(m0, .inr (6, [.ref ms, .ref mf, .ref mw, .ref mk, .int (bI mtold), .ref mh, .int (nI hn), .int mup, .int targ, .int p1, .int soft, .int doub, .int spli, .int giv, .int bon, .long drw, .int mbank, .ref q0, .ref q1, .ref q2, .int mheaps, .ref q3, .ref q4, .ref q5, .ref q6, .ref q7, .int msum, .int (bI hasA), .int mcards, .int mpair, .int shown, .int want, .int mwin, .int (bI isCh), .int mbest, .ref k0, .ref k1, .ref k2, .ref k3]))] H := hP
              have hD : va_D A [(m0, .inr (6, [.ref ms, .ref mf, .ref mw, .ref mk, .int (bI mtold), .ref mh, .int (nI hn), .int mup, .int targ, .int p1, .int soft, .int doub, .int spli, .int giv, .int bon, .long drw, .int mbank, .ref q0, .ref q1, .ref q2, .int mheaps, .ref q3, .ref q4, .ref q5, .ref q6, .ref q7, .int msum, .int (bI hasA), .int mcards, .int mpair, .int shown, .int want, .int mwin, .int (bI isCh), .int mbest, .ref k0, .ref k1, .ref k2, .ref k3]))] := hD
              refine lv_goto (tgt := 255) hx hb dX6_rule_185 (by decide) ?_
              refine lv_iload hx hb dX6_rule_255 (lv_at hl 0 rfl) ?_
              have hP9 := hP.sub (ws' := [(m0, .inr (6, [.ref ms, .ref mf, .ref mw, .ref mk, .int (bI mtold), .ref mh, .int (nI hn), .int mup, .int targ, .int p1, .int soft, .int doub, .int spli, .int giv, .int bon, .long drw, .int mbank, .ref q0, .ref q1, .ref q2, .int mheaps, .ref q3, .ref q4, .ref q5, .ref q6, .ref q7, .int msum, .int (bI hasA), .int mcards, .int mpair, .int shown, .int want, .int mwin, .int (bI isCh), .int mbest, .ref k0, .ref k1, .ref k2, .ref k3]))]) [0] rfl
              have hD9 := hD.sub (ws' := [(m0, .inr (6, [.ref ms, .ref mf, .ref mw, .ref mk, .int (bI mtold), .ref mh, .int (nI hn), .int mup, .int targ, .int p1, .int soft, .int doub, .int spli, .int giv, .int bon, .long drw, .int mbank, .ref q0, .ref q1, .ref q2, .int mheaps, .ref q3, .ref q4, .ref q5, .ref q6, .ref q7, .int msum, .int (bI hasA), .int mcards, .int mpair, .int shown, .int want, .int mwin, .int (bI isCh), .int mbest, .ref k0, .ref k1, .ref k2, .ref k3]))]) [0] (by decide) rfl
              exact W.iret (v := stan) hx hb hr (fun t ht hW => ⟨⟨stan, (targ, p1, soft, doub, spli, giv, bon), rfl, (by dsimp only; rw [if_neg c107_11, if_neg c112_12]; first | exact ⟨rfl, rfl, rfl, rfl, rfl, rfl, rfl, rfl⟩ | (simp []; done)), by rw [ht]; exact hP9, va_K.moved hW.alike hK, hD9⟩, hS.F ht⟩) hS.2.2 dX6_rule_257
            by_cases k2_15 : p0 = 2
            · subst k2_15
              refine lv_tableIn (off := 65) (tgt := 188) hx hb dX6_rule_123 (by decide) (by decide) (by decide) (by decide) ?_
              refine lv_aload_n hx hb dX6_rule_188 rfl (lv_at hl 4 rfl) ?_
              refine va_get (D := D) (ci := 6) (v := .int soft) (C := RX6) (T := TX6) (N := 39) hx hb hts in_X6_rule_X6 hown hK hP 0 rfl rfl 10 (by decide) (hts _ wd_X6_rule_3) (fun _ h9 => h9) rfl dX6_rule_189 ?_
              refine lv_istore (lv' := [(6, .int soft), (5, .int (rlM (2 : Int32) p1 targ stan)), (4, .int (if (2 : Int32) = 1 then p1 else stan)), (3, .int (if (2 : Int32) = 0 then p1 else targ)), (0, .ref m0), (1, .int 2), (2, .int p1)]) hx hb dX6_rule_192 hl (by decide) rfl (fun ls hl => ?_)
              refine lv_aload_n hx hb dX6_rule_194 rfl (lv_at hl 4 rfl) ?_
              refine lv_iload_n hx hb dX6_rule_195 rfl (lv_at hl 6 rfl) ?_
              refine va_put (D := D) (ci := 6) (v := .int p1) (ty := .int) (C := RX6) (T := TX6) (N := 39) hx hb hts in_X6_rule_X6 tyX6 tyX6_ok nmX6 hown hK hP hD hS 0 rfl rfl 10 (by decide) (hts _ wd_X6_rule_3) (fun _ h9 => h9) rfl (by decide +kernel) rfl rfl (Nat.le_of_ble_eq_true rfl) dX6_rule_196 (fun H locs hP hD hS => ?_)
              have hP : va_P D vwCl [(m0, .inr (6, [.ref ms, .ref mf, .ref mw, .ref mk, .int (bI mtold), .ref mh, .int (nI hn), .int mup, .int targ, .int stan, .int p1, .int doub, .int spli, .int giv, .int bon, .long drw, .int mbank, .ref q0, .ref q1, .ref q2, .int mheaps, .ref q3, .ref q4, .ref q5, .ref q6, .ref q7, .int msum, .int (bI hasA), .int mcards, .int mpair, .int shown, .int want, .int mwin, .int (bI isCh), .int mbest, .ref k0, .ref k1, .ref k2, .ref k3]))] H := hP
              have hD : va_D A [(m0, .inr (6, [.ref ms, .ref mf, .ref mw, .ref mk, .int (bI mtold), .ref mh, .int (nI hn), .int mup, .int targ, .int stan, .int p1, .int doub, .int spli, .int giv, .int bon, .long drw, .int mbank, .ref q0, .ref q1, .ref q2, .int mheaps, .ref q3, .ref q4, .ref q5, .ref q6, .ref q7, .int msum, .int (bI hasA), .int mcards, .int mpair, .int shown, .int want, .int mwin, .int (bI isCh), .int mbest, .ref k0, .ref k1, .ref k2, .ref k3]))] := hD
              refine lv_goto (tgt := 255) hx hb dX6_rule_199 (by decide) ?_
              refine lv_iload hx hb dX6_rule_255 (lv_at hl 0 rfl) ?_
              have hP9 := hP.sub (ws' := [(m0, .inr (6, [.ref ms, .ref mf, .ref mw, .ref mk, .int (bI mtold), .ref mh, .int (nI hn), .int mup, .int targ, .int stan, .int p1, .int doub, .int spli, .int giv, .int bon, .long drw, .int mbank, .ref q0, .ref q1, .ref q2, .int mheaps, .ref q3, .ref q4, .ref q5, .ref q6, .ref q7, .int msum, .int (bI hasA), .int mcards, .int mpair, .int shown, .int want, .int mwin, .int (bI isCh), .int mbest, .ref k0, .ref k1, .ref k2, .ref k3]))]) [0] rfl
              have hD9 := hD.sub (ws' := [(m0, .inr (6, [.ref ms, .ref mf, .ref mw, .ref mk, .int (bI mtold), .ref mh, .int (nI hn), .int mup, .int targ, .int stan, .int p1, .int doub, .int spli, .int giv, .int bon, .long drw, .int mbank, .ref q0, .ref q1, .ref q2, .int mheaps, .ref q3, .ref q4, .ref q5, .ref q6, .ref q7, .int msum, .int (bI hasA), .int mcards, .int mpair, .int shown, .int want, .int mwin, .int (bI isCh), .int mbest, .ref k0, .ref k1, .ref k2, .ref k3]))]) [0] (by decide) rfl
              exact W.iret (v := soft) hx hb hr (fun t ht hW => ⟨⟨soft, (targ, stan, p1, doub, spli, giv, bon), rfl, (by dsimp only; rw [if_neg c107_11, if_neg c112_12]; first | exact ⟨rfl, rfl, rfl, rfl, rfl, rfl, rfl, rfl⟩ | (simp []; done)), by rw [ht]; exact hP9, va_K.moved hW.alike hK, hD9⟩, hS.F ht⟩) hS.2.2 dX6_rule_257
            by_cases k3_16 : p0 = 3
            · subst k3_16
              refine lv_tableIn (off := 79) (tgt := 202) hx hb dX6_rule_123 (by decide) (by decide) (by decide) (by decide) ?_
              refine lv_aload_n hx hb dX6_rule_202 rfl (lv_at hl 4 rfl) ?_
              refine va_get (D := D) (ci := 6) (v := .int doub) (C := RX6) (T := TX6) (N := 39) hx hb hts in_X6_rule_X6 hown hK hP 0 rfl rfl 11 (by decide) (hts _ wd_X6_rule_4) (fun _ h9 => h9) rfl dX6_rule_203 ?_
              refine lv_istore (lv' := [(6, .int doub), (5, .int (rlM (3 : Int32) p1 targ stan)), (4, .int (if (3 : Int32) = 1 then p1 else stan)), (3, .int (if (3 : Int32) = 0 then p1 else targ)), (0, .ref m0), (1, .int 3), (2, .int p1)]) hx hb dX6_rule_206 hl (by decide) rfl (fun ls hl => ?_)
              refine lv_aload_n hx hb dX6_rule_208 rfl (lv_at hl 4 rfl) ?_
              refine lv_iload_n hx hb dX6_rule_209 rfl (lv_at hl 6 rfl) ?_
              refine va_put (D := D) (ci := 6) (v := .int p1) (ty := .int) (C := RX6) (T := TX6) (N := 39) hx hb hts in_X6_rule_X6 tyX6 tyX6_ok nmX6 hown hK hP hD hS 0 rfl rfl 11 (by decide) (hts _ wd_X6_rule_4) (fun _ h9 => h9) rfl (by decide +kernel) rfl rfl (Nat.le_of_ble_eq_true rfl) dX6_rule_210 (fun H locs hP hD hS => ?_)
              have hP : va_P D vwCl [(m0, .inr (6, [.ref ms, .ref mf, .ref mw, .ref mk, .int (bI mtold), .ref mh, .int (nI hn), .int mup, .int targ, .int stan, .int soft, .int p1, .int spli, .int giv, .int bon, .long drw, .int mbank, .ref q0, .ref q1, .ref q2, .int mheaps, .ref q3, .ref q4, .ref q5, .ref q6, .ref q7, .int msum, .int (bI hasA), .int mcards, .int mpair, .int shown, .int want, .int mwin, .int (bI isCh), .int mbest, .ref k0, .ref k1, .ref k2, .ref k3]))] H := hP
              have hD : va_D A [(m0, .inr (6, [.ref ms, .ref mf, .ref mw, .ref mk, .int (bI mtold), .ref mh, .int (nI hn), .int mup, .int targ, .int stan, .int soft, .int p1, .int spli, .int giv, .int bon, .long drw, .int mbank, .ref q0, .ref q1, .ref q2, .int mheaps, .ref q3, .ref q4, .ref q5, .ref q6, .ref q7, .int msum, .int (bI hasA), .int mcards, .int mpair, .int shown, .int want, .int mwin, .int (bI isCh), .int mbest, .ref k0, .ref k1, .ref k2, .ref k3]))] := hD
              refine lv_goto (tgt := 255) hx hb dX6_rule_213 (by decide) ?_
              refine lv_iload hx hb dX6_rule_255 (lv_at hl 0 rfl) ?_
              have hP9 := hP.sub (ws' := [(m0, .inr (6, [.ref ms, .ref mf, .ref mw, .ref mk, .int (bI mtold), .ref mh, .int (nI hn), .int mup, .int targ, .int stan, .int soft, .int p1, .int spli, .int giv, .int bon, .long drw, .int mbank, .ref q0, .ref q1, .ref q2, .int mheaps, .ref q3, .ref q4, .ref q5, .ref q6, .ref q7, .int msum, .int (bI hasA), .int mcards, .int mpair, .int shown, .int want, .int mwin, .int (bI isCh), .int mbest, .ref k0, .ref k1, .ref k2, .ref k3]))]) [0] rfl
              have hD9 := hD.sub (ws' := [(m0, .inr (6, [.ref ms, .ref mf, .ref mw, .ref mk, .int (bI mtold), .ref mh, .int (nI hn), .int mup, .int targ, .int stan, .int soft, .int p1, .int spli, .int giv, .int bon, .long drw, .int mbank, .ref q0, .ref q1, .ref q2, .int mheaps, .ref q3, .ref q4, .ref q5, .ref q6, .ref q7, .int msum, .int (bI hasA), .int mcards, .int mpair, .int shown, .int want, .int mwin, .int (bI isCh), .int mbest, .ref k0, .ref k1, .ref k2, .ref k3]))]) [0] (by decide) rfl
              exact W.iret (v := doub) hx hb hr (fun t ht hW => ⟨⟨doub, (targ, stan, soft, p1, spli, giv, bon), rfl, (by dsimp only; rw [if_neg c107_11, if_neg c112_12]; first | exact ⟨rfl, rfl, rfl, rfl, rfl, rfl, rfl, rfl⟩ | (simp []; done)), by rw [ht]; exact hP9, va_K.moved hW.alike hK, hD9⟩, hS.F ht⟩) hS.2.2 dX6_rule_257
            by_cases k4_17 : p0 = 4
            · subst k4_17
              refine lv_tableIn (off := 93) (tgt := 216) hx hb dX6_rule_123 (by decide) (by decide) (by decide) (by decide) ?_
              refine lv_aload_n hx hb dX6_rule_216 rfl (lv_at hl 4 rfl) ?_
              refine va_get (D := D) (ci := 6) (v := .int spli) (C := RX6) (T := TX6) (N := 39) hx hb hts in_X6_rule_X6 hown hK hP 0 rfl rfl 12 (by decide) (hts _ wd_X6_rule_5) (fun _ h9 => h9) rfl dX6_rule_217 ?_
              refine lv_istore (lv' := [(6, .int spli), (5, .int (rlM (4 : Int32) p1 targ stan)), (4, .int (if (4 : Int32) = 1 then p1 else stan)), (3, .int (if (4 : Int32) = 0 then p1 else targ)), (0, .ref m0), (1, .int 4), (2, .int p1)]) hx hb dX6_rule_220 hl (by decide) rfl (fun ls hl => ?_)
              refine lv_aload_n hx hb dX6_rule_222 rfl (lv_at hl 4 rfl) ?_
              refine lv_iload_n hx hb dX6_rule_223 rfl (lv_at hl 6 rfl) ?_
              refine va_put (D := D) (ci := 6) (v := .int p1) (ty := .int) (C := RX6) (T := TX6) (N := 39) hx hb hts in_X6_rule_X6 tyX6 tyX6_ok nmX6 hown hK hP hD hS 0 rfl rfl 12 (by decide) (hts _ wd_X6_rule_5) (fun _ h9 => h9) rfl (by decide +kernel) rfl rfl (Nat.le_of_ble_eq_true rfl) dX6_rule_224 (fun H locs hP hD hS => ?_)
              have hP : va_P D vwCl [(m0, .inr (6, [.ref ms, .ref mf, .ref mw, .ref mk, .int (bI mtold), .ref mh, .int (nI hn), .int mup, .int targ, .int stan, .int soft, .int doub, .int p1, .int giv, .int bon, .long drw, .int mbank, .ref q0, .ref q1, .ref q2, .int mheaps, .ref q3, .ref q4, .ref q5, .ref q6, .ref q7, .int msum, .int (bI hasA), .int mcards, .int mpair, .int shown, .int want, .int mwin, .int (bI isCh), .int mbest, .ref k0, .ref k1, .ref k2, .ref k3]))] H := hP
              have hD : va_D A [(m0, .inr (6, [.ref ms, .ref mf, .ref mw, .ref mk, .int (bI mtold), .ref mh, .int (nI hn), .int mup, .int targ, .int stan, .int soft, .int doub, .int p1, .int giv, .int bon, .long drw, .int mbank, .ref q0, .ref q1, .ref q2, .int mheaps, .ref q3, .ref q4, .ref q5, .ref q6, .ref q7, .int msum, .int (bI hasA), .int mcards, .int mpair, .int shown, .int want, .int mwin, .int (bI isCh), .int mbest, .ref k0, .ref k1, .ref k2, .ref k3]))] := hD
              refine lv_goto (tgt := 255) hx hb dX6_rule_227 (by decide) ?_
              refine lv_iload hx hb dX6_rule_255 (lv_at hl 0 rfl) ?_
              have hP9 := hP.sub (ws' := [(m0, .inr (6, [.ref ms, .ref mf, .ref mw, .ref mk, .int (bI mtold), .ref mh, .int (nI hn), .int mup, .int targ, .int stan, .int soft, .int doub, .int p1, .int giv, .int bon, .long drw, .int mbank, .ref q0, .ref q1, .ref q2, .int mheaps, .ref q3, .ref q4, .ref q5, .ref q6, .ref q7, .int msum, .int (bI hasA), .int mcards, .int mpair, .int shown, .int want, .int mwin, .int (bI isCh), .int mbest, .ref k0, .ref k1, .ref k2, .ref k3]))]) [0] rfl
              have hD9 := hD.sub (ws' := [(m0, .inr (6, [.ref ms, .ref mf, .ref mw, .ref mk, .int (bI mtold), .ref mh, .int (nI hn), .int mup, .int targ, .int stan, .int soft, .int doub, .int p1, .int giv, .int bon, .long drw, .int mbank, .ref q0, .ref q1, .ref q2, .int mheaps, .ref q3, .ref q4, .ref q5, .ref q6, .ref q7, .int msum, .int (bI hasA), .int mcards, .int mpair, .int shown, .int want, .int mwin, .int (bI isCh), .int mbest, .ref k0, .ref k1, .ref k2, .ref k3]))]) [0] (by decide) rfl
              exact W.iret (v := spli) hx hb hr (fun t ht hW => ⟨⟨spli, (targ, stan, soft, doub, p1, giv, bon), rfl, (by dsimp only; rw [if_neg c107_11, if_neg c112_12]; first | exact ⟨rfl, rfl, rfl, rfl, rfl, rfl, rfl, rfl⟩ | (simp []; done)), by rw [ht]; exact hP9, va_K.moved hW.alike hK, hD9⟩, hS.F ht⟩) hS.2.2 dX6_rule_257
            by_cases k5_18 : p0 = 5
            · subst k5_18
              refine lv_tableIn (off := 107) (tgt := 230) hx hb dX6_rule_123 (by decide) (by decide) (by decide) (by decide) ?_
              refine lv_aload_n hx hb dX6_rule_230 rfl (lv_at hl 4 rfl) ?_
              refine va_get (D := D) (ci := 6) (v := .int giv) (C := RX6) (T := TX6) (N := 39) hx hb hts in_X6_rule_X6 hown hK hP 0 rfl rfl 13 (by decide) (hts _ wd_X6_rule_6) (fun _ h9 => h9) rfl dX6_rule_231 ?_
              refine lv_istore (lv' := [(6, .int giv), (5, .int (rlM (5 : Int32) p1 targ stan)), (4, .int (if (5 : Int32) = 1 then p1 else stan)), (3, .int (if (5 : Int32) = 0 then p1 else targ)), (0, .ref m0), (1, .int 5), (2, .int p1)]) hx hb dX6_rule_234 hl (by decide) rfl (fun ls hl => ?_)
              refine lv_aload_n hx hb dX6_rule_236 rfl (lv_at hl 4 rfl) ?_
              refine lv_iload_n hx hb dX6_rule_237 rfl (lv_at hl 6 rfl) ?_
              refine va_put (D := D) (ci := 6) (v := .int p1) (ty := .int) (C := RX6) (T := TX6) (N := 39) hx hb hts in_X6_rule_X6 tyX6 tyX6_ok nmX6 hown hK hP hD hS 0 rfl rfl 13 (by decide) (hts _ wd_X6_rule_6) (fun _ h9 => h9) rfl (by decide +kernel) rfl rfl (Nat.le_of_ble_eq_true rfl) dX6_rule_238 (fun H locs hP hD hS => ?_)
              have hP : va_P D vwCl [(m0, .inr (6, [.ref ms, .ref mf, .ref mw, .ref mk, .int (bI mtold), .ref mh, .int (nI hn), .int mup, .int targ, .int stan, .int soft, .int doub, .int spli, .int p1, .int bon, .long drw, .int mbank, .ref q0, .ref q1, .ref q2, .int mheaps, .ref q3, .ref q4, .ref q5, .ref q6, .ref q7, .int msum, .int (bI hasA), .int mcards, .int mpair, .int shown, .int want, .int mwin, .int (bI isCh), .int mbest, .ref k0, .ref k1, .ref k2, .ref k3]))] H := hP
              have hD : va_D A [(m0, .inr (6, [.ref ms, .ref mf, .ref mw, .ref mk, .int (bI mtold), .ref mh, .int (nI hn), .int mup, .int targ, .int stan, .int soft, .int doub, .int spli, .int p1, .int bon, .long drw, .int mbank, .ref q0, .ref q1, .ref q2, .int mheaps, .ref q3, .ref q4, .ref q5, .ref q6, .ref q7, .int msum, .int (bI hasA), .int mcards, .int mpair, .int shown, .int want, .int mwin, .int (bI isCh), .int mbest, .ref k0, .ref k1, .ref k2, .ref k3]))] := hD
              refine lv_goto (tgt := 255) hx hb dX6_rule_241 (by decide) ?_
              refine lv_iload hx hb dX6_rule_255 (lv_at hl 0 rfl) ?_
              have hP9 := hP.sub (ws' := [(m0, .inr (6, [.ref ms, .ref mf, .ref mw, .ref mk, .int (bI mtold), .ref mh, .int (nI hn), .int mup, .int targ, .int stan, .int soft, .int doub, .int spli, .int p1, .int bon, .long drw, .int mbank, .ref q0, .ref q1, .ref q2, .int mheaps, .ref q3, .ref q4, .ref q5, .ref q6, .ref q7, .int msum, .int (bI hasA), .int mcards, .int mpair, .int shown, .int want, .int mwin, .int (bI isCh), .int mbest, .ref k0, .ref k1, .ref k2, .ref k3]))]) [0] rfl
              have hD9 := hD.sub (ws' := [(m0, .inr (6, [.ref ms, .ref mf, .ref mw, .ref mk, .int (bI mtold), .ref mh, .int (nI hn), .int mup, .int targ, .int stan, .int soft, .int doub, .int spli, .int p1, .int bon, .long drw, .int mbank, .ref q0, .ref q1, .ref q2, .int mheaps, .ref q3, .ref q4, .ref q5, .ref q6, .ref q7, .int msum, .int (bI hasA), .int mcards, .int mpair, .int shown, .int want, .int mwin, .int (bI isCh), .int mbest, .ref k0, .ref k1, .ref k2, .ref k3]))]) [0] (by decide) rfl
              exact W.iret (v := giv) hx hb hr (fun t ht hW => ⟨⟨giv, (targ, stan, soft, doub, spli, p1, bon), rfl, (by dsimp only; rw [if_neg c107_11, if_neg c112_12]; first | exact ⟨rfl, rfl, rfl, rfl, rfl, rfl, rfl, rfl⟩ | (simp []; done)), by rw [ht]; exact hP9, va_K.moved hW.alike hK, hD9⟩, hS.F ht⟩) hS.2.2 dX6_rule_257
            refine lv_tableOut (tgt := 244) hx hb dX6_rule_123 (by have := lv_neT k0_13 (a := 0) (by decide); have := lv_neT k1_14 (a := 1) (by decide); have := lv_neT k2_15 (a := 2) (by decide); have := lv_neT k3_16 (a := 3) (by decide); have := lv_neT k4_17 (a := 4) (by decide); have := lv_neT k5_18 (a := 5) (by decide); omega) (by decide) ?_
            refine lv_aload_n hx hb dX6_rule_244 rfl (lv_at hl 4 rfl) ?_
            refine va_get (D := D) (ci := 6) (v := .int bon) (C := RX6) (T := TX6) (N := 39) hx hb hts in_X6_rule_X6 hown hK hP 0 rfl rfl 14 (by decide) (hts _ wd_X6_rule_7) (fun _ h9 => h9) rfl dX6_rule_245 ?_
            refine lv_istore (lv' := [(6, .int bon), (5, .int (rlM p0 p1 targ stan)), (4, .int (if p0 = 1 then p1 else stan)), (3, .int (if p0 = 0 then p1 else targ)), (0, .ref m0), (1, .int p0), (2, .int p1)]) hx hb dX6_rule_248 hl (by decide) rfl (fun ls hl => ?_)
            refine lv_aload_n hx hb dX6_rule_250 rfl (lv_at hl 4 rfl) ?_
            refine lv_iload_n hx hb dX6_rule_251 rfl (lv_at hl 6 rfl) ?_
            refine va_put (D := D) (ci := 6) (v := .int p1) (ty := .int) (C := RX6) (T := TX6) (N := 39) hx hb hts in_X6_rule_X6 tyX6 tyX6_ok nmX6 hown hK hP hD hS 0 rfl rfl 14 (by decide) (hts _ wd_X6_rule_7) (fun _ h9 => h9) rfl (by decide +kernel) rfl rfl (Nat.le_of_ble_eq_true rfl) dX6_rule_252 (fun H locs hP hD hS => ?_)
            have hP : va_P D vwCl [(m0, .inr (6, [.ref ms, .ref mf, .ref mw, .ref mk, .int (bI mtold), .ref mh, .int (nI hn), .int mup, .int targ, .int stan, .int soft, .int doub, .int spli, .int giv, .int p1, .long drw, .int mbank, .ref q0, .ref q1, .ref q2, .int mheaps, .ref q3, .ref q4, .ref q5, .ref q6, .ref q7, .int msum, .int (bI hasA), .int mcards, .int mpair, .int shown, .int want, .int mwin, .int (bI isCh), .int mbest, .ref k0, .ref k1, .ref k2, .ref k3]))] H := hP
            have hD : va_D A [(m0, .inr (6, [.ref ms, .ref mf, .ref mw, .ref mk, .int (bI mtold), .ref mh, .int (nI hn), .int mup, .int targ, .int stan, .int soft, .int doub, .int spli, .int giv, .int p1, .long drw, .int mbank, .ref q0, .ref q1, .ref q2, .int mheaps, .ref q3, .ref q4, .ref q5, .ref q6, .ref q7, .int msum, .int (bI hasA), .int mcards, .int mpair, .int shown, .int want, .int mwin, .int (bI isCh), .int mbest, .ref k0, .ref k1, .ref k2, .ref k3]))] := hD
            refine lv_iload hx hb dX6_rule_255 (lv_at hl 0 rfl) ?_
            have hP9 := hP.sub (ws' := [(m0, .inr (6, [.ref ms, .ref mf, .ref mw, .ref mk, .int (bI mtold), .ref mh, .int (nI hn), .int mup, .int targ, .int stan, .int soft, .int doub, .int spli, .int giv, .int p1, .long drw, .int mbank, .ref q0, .ref q1, .ref q2, .int mheaps, .ref q3, .ref q4, .ref q5, .ref q6, .ref q7, .int msum, .int (bI hasA), .int mcards, .int mpair, .int shown, .int want, .int mwin, .int (bI isCh), .int mbest, .ref k0, .ref k1, .ref k2, .ref k3]))]) [0] rfl
            have hD9 := hD.sub (ws' := [(m0, .inr (6, [.ref ms, .ref mf, .ref mw, .ref mk, .int (bI mtold), .ref mh, .int (nI hn), .int mup, .int targ, .int stan, .int soft, .int doub, .int spli, .int giv, .int p1, .long drw, .int mbank, .ref q0, .ref q1, .ref q2, .int mheaps, .ref q3, .ref q4, .ref q5, .ref q6, .ref q7, .int msum, .int (bI hasA), .int mcards, .int mpair, .int shown, .int want, .int mwin, .int (bI isCh), .int mbest, .ref k0, .ref k1, .ref k2, .ref k3]))]) [0] (by decide) rfl
            exact W.iret (v := bon) hx hb hr (fun t ht hW => ⟨⟨bon, (targ, stan, soft, doub, spli, giv, p1), rfl, (by dsimp only; rw [if_neg c107_11, if_neg c112_12]; first | exact ⟨rfl, rfl, rfl, rfl, rfl, rfl, rfl, rfl⟩ | (simp [k0_13, k1_14, k2_15, k3_16, k4_17, k5_18]; done)), by rw [ht]; exact hP9, va_K.moved hW.alike hK, hD9⟩, hS.F ht⟩) hS.2.2 dX6_rule_257
          · skip
            refine lv_sipush (v := (-1001)) hx hb dX6_rule_115 (by decide) ?_
            have hP9 := hP.sub (ws' := [(m0, .inr (6, [.ref ms, .ref mf, .ref mw, .ref mk, .int (bI mtold), .ref mh, .int (nI hn), .int mup, .int targ, .int stan, .int soft, .int doub, .int spli, .int giv, .int bon, .long drw, .int mbank, .ref q0, .ref q1, .ref q2, .int mheaps, .ref q3, .ref q4, .ref q5, .ref q6, .ref q7, .int msum, .int (bI hasA), .int mcards, .int mpair, .int shown, .int want, .int mwin, .int (bI isCh), .int mbest, .ref k0, .ref k1, .ref k2, .ref k3]))]) [0] rfl
            have hD9 := hD.sub (ws' := [(m0, .inr (6, [.ref ms, .ref mf, .ref mw, .ref mk, .int (bI mtold), .ref mh, .int (nI hn), .int mup, .int targ, .int stan, .int soft, .int doub, .int spli, .int giv, .int bon, .long drw, .int mbank, .ref q0, .ref q1, .ref q2, .int mheaps, .ref q3, .ref q4, .ref q5, .ref q6, .ref q7, .int msum, .int (bI hasA), .int mcards, .int mpair, .int shown, .int want, .int mwin, .int (bI isCh), .int mbest, .ref k0, .ref k1, .ref k2, .ref k3]))]) [0] (by decide) rfl
            exact W.iret (v := (-1001)) hx hb hr (fun t ht hW => ⟨⟨(-1001), (targ, stan, soft, doub, spli, giv, bon), rfl, (by dsimp only; rw [if_neg c107_11, if_pos c112_12]; exact ⟨rfl, rfl, rfl, rfl, rfl, rfl, rfl, rfl⟩), by rw [ht]; exact hP9, va_K.moved hW.alike hK, hD9⟩, hS.F ht⟩) hS.2.2 dX6_rule_118
      · skip
        refine lv_iload_n hx hb dX6_rule_28 rfl (lv_at hl 3 rfl) ?_
        refine lv_iconst (v := 2) hx hb dX6_rule_29 (by decide) ?_
        refine lv_icmp_ge (tgt := 69) hx hb dX6_rule_30 (by decide) (fun c30_19 => ?_) (fun c30_19 => ?_)
        · skip
          refine lv_iload_n hx hb dX6_rule_69 rfl (lv_at hl 3 rfl) ?_
          refine lv_bipush (v := 6) hx hb dX6_rule_70 (by decide) ?_
          refine lv_icmp_ge (tgt := 85) hx hb dX6_rule_72 (by decide) (fun c72_20 => ?_) (fun c72_20 => ?_)
          · skip
            refine lv_iload_n hx hb dX6_rule_85 rfl (lv_at hl 4 rfl) ?_
            refine lv_i2l (v := p1.toInt64) hx hb dX6_rule_86 rfl ?_
            refine lv_ldc2 hx hb hown (hts _ wd_X6_rule_8) dX6_rule_87 ?_
            refine lv_ldc2 hx hb hown (hts _ wd_X6_rule_9) dX6_rule_90 ?_
            have hPc := hP.sub (ws' := []) [] rfl
            refine vp_callSi (W.runS (As := [.long p1.toInt64, .long 2, .long 4]) (rest := []) ⟨hx, hb, hml, hown, hts⟩ (c_X6_in l D cI cJ cQ p1.toInt64 2 4) (va_cwS 3 hts gX6_rule_X6_in rfl rfl rfl (by decide +kernel) ⟨Nat.le_of_ble_eq_true rfl, Nat.le_of_ble_eq_true rfl⟩) (rP_preS hPc hK) rfl rfl hl.1 rfl (lv_room (Nat.le_of_ble_eq_true rfl)) dX6_rule_93 ⟨Nat.le_of_ble_eq_true rfl, Nat.le_of_ble_eq_true rfl⟩) (fun r_21 hr_21 => ?_)
            subst hr_21
            exact hJ_7 (inB p1.toInt64 2 4) ls (lv_sub hl [0, 1, 2, 3, 4] rfl) (by first | rfl | (try unfold rlM); ((try first | rw [if_pos c30_19] | rw [if_neg c30_19]); (try first | rw [if_pos c72_20] | rw [if_neg c72_20]); first | done | rfl | trivial))
          · skip
            refine lv_iload_n hx hb dX6_rule_75 rfl (lv_at hl 4 rfl) ?_
            refine lv_i2l (v := p1.toInt64) hx hb dX6_rule_76 rfl ?_
            refine lv_lconst (v := 0) hx hb dX6_rule_77 (by decide) ?_
            refine lv_lconst (v := 1) hx hb dX6_rule_78 (by decide) ?_
            have hPc := hP.sub (ws' := []) [] rfl
            refine vp_callSi (W.runS (As := [.long p1.toInt64, .long 0, .long 1]) (rest := []) ⟨hx, hb, hml, hown, hts⟩ (c_X6_in l D cI cJ cQ p1.toInt64 0 1) (va_cwS 3 hts gX6_rule_X6_in rfl rfl rfl (by decide +kernel) ⟨Nat.le_of_ble_eq_true rfl, Nat.le_of_ble_eq_true rfl⟩) (rP_preS hPc hK) rfl rfl hl.1 rfl (lv_room (Nat.le_of_ble_eq_true rfl)) dX6_rule_79 ⟨Nat.le_of_ble_eq_true rfl, Nat.le_of_ble_eq_true rfl⟩) (fun r_22 hr_22 => ?_)
            subst hr_22
            refine lv_goto (tgt := 96) hx hb dX6_rule_82 (by decide) ?_
            exact hJ_7 (inB p1.toInt64 0 1) ls (lv_sub hl [0, 1, 2, 3, 4] rfl) (by first | rfl | (try unfold rlM); ((try first | rw [if_pos c30_19] | rw [if_neg c30_19]); (try first | rw [if_pos c72_20] | rw [if_neg c72_20]); first | done | rfl | trivial))
        · skip
          refine lv_iload_n hx hb dX6_rule_33 rfl (lv_at hl 1 rfl) ?_
          refine lv_i2l (v := (if p0 = 0 then p1 else targ).toInt64) hx hb dX6_rule_34 rfl ?_
          refine lv_ldc2 hx hb hown (hts _ wd_X6_rule_10) dX6_rule_35 ?_
          refine lv_ldc2 hx hb hown (hts _ wd_X6_rule_11) dX6_rule_38 ?_
          have hPc := hP.sub (ws' := []) [] rfl
          refine vp_callSi (W.runS (As := [.long ((if p0 = 0 then p1 else targ).toInt64), .long 11, .long 21]) (rest := []) ⟨hx, hb, hml, hown, hts⟩ (c_X6_in l D cI cJ cQ ((if p0 = 0 then p1 else targ).toInt64) 11 21) (va_cwS 3 hts gX6_rule_X6_in rfl rfl rfl (by decide +kernel) ⟨Nat.le_of_ble_eq_true rfl, Nat.le_of_ble_eq_true rfl⟩) (rP_preS hPc hK) rfl rfl hl.1 rfl (lv_room (Nat.le_of_ble_eq_true rfl)) dX6_rule_41 ⟨Nat.le_of_ble_eq_true rfl, Nat.le_of_ble_eq_true rfl⟩) (fun r_23 hr_23 => ?_)
          subst hr_23
          refine lv_if_eq (tgt := 65) hx hb dX6_rule_44 (by decide) (fun c44_24 => ?_) (fun c44_24 => ?_)
          · skip
            refine lv_iconst (v := 0) hx hb dX6_rule_65 (by decide) ?_
            refine lv_goto (tgt := 96) hx hb dX6_rule_66 (by decide) ?_
            exact hJ_7 0 ls (lv_sub hl [0, 1, 2, 3, 4] rfl) (by first | rfl | (try unfold rlM); ((try first | rw [if_pos c30_19] | rw [if_neg c30_19]); (try first | rw [if_pos c44_24] | rw [if_neg c44_24]); first | done | rfl | trivial))
          · skip
            refine lv_iload hx hb dX6_rule_47 (lv_at hl 0 rfl) ?_
            refine lv_i2l (v := (if p0 = 1 then p1 else stan).toInt64) hx hb dX6_rule_49 rfl ?_
            refine lv_ldc2 hx hb hown (hts _ wd_X6_rule_12) dX6_rule_50 ?_
            refine lv_iload_n hx hb dX6_rule_53 rfl (lv_at hl 1 rfl) ?_
            refine lv_i2l (v := (if p0 = 0 then p1 else targ).toInt64) hx hb dX6_rule_54 rfl ?_
            have hPc := hP.sub (ws' := []) [] rfl
            refine vp_callSi (W.runS (As := [.long ((if p0 = 1 then p1 else stan).toInt64), .long 10, .long ((if p0 = 0 then p1 else targ).toInt64)]) (rest := []) ⟨hx, hb, hml, hown, hts⟩ (c_X6_in l D cI cJ cQ ((if p0 = 1 then p1 else stan).toInt64) 10 ((if p0 = 0 then p1 else targ).toInt64)) (va_cwS 3 hts gX6_rule_X6_in rfl rfl rfl (by decide +kernel) ⟨Nat.le_of_ble_eq_true rfl, Nat.le_of_ble_eq_true rfl⟩) (rP_preS hPc hK) rfl rfl hl.1 rfl (lv_room (Nat.le_of_ble_eq_true rfl)) dX6_rule_55 ⟨Nat.le_of_ble_eq_true rfl, Nat.le_of_ble_eq_true rfl⟩) (fun r_25 hr_25 => ?_)
            subst hr_25
            refine lv_if_eq (tgt := 65) hx hb dX6_rule_58 (by decide) (fun c58_26 => ?_) (fun c58_26 => ?_)
            · skip
              refine lv_iconst (v := 0) hx hb dX6_rule_65 (by decide) ?_
              refine lv_goto (tgt := 96) hx hb dX6_rule_66 (by decide) ?_
              exact hJ_7 0 ls (lv_sub hl [0, 1, 2, 3, 4] rfl) (by first | rfl | (try unfold rlM); ((try first | rw [if_pos c30_19] | rw [if_neg c30_19]); (try first | rw [if_pos c44_24] | rw [if_neg c44_24]); (try first | rw [if_pos c58_26] | rw [if_neg c58_26]); first | done | rfl | trivial))
            · skip
              refine lv_iconst (v := 1) hx hb dX6_rule_61 (by decide) ?_
              refine lv_goto (tgt := 96) hx hb dX6_rule_62 (by decide) ?_
              exact hJ_7 1 ls (lv_sub hl [0, 1, 2, 3, 4] rfl) (by first | rfl | (try unfold rlM); ((try first | rw [if_pos c30_19] | rw [if_neg c30_19]); (try first | rw [if_pos c44_24] | rw [if_neg c44_24]); (try first | rw [if_pos c58_26] | rw [if_neg c58_26]); first | done | rfl | trivial))
    · skip
      refine lv_iload_n hx hb dX6_rule_13 rfl (lv_at hl 2 rfl) ?_
      refine lv_iconst (v := 1) hx hb dX6_rule_14 (by decide) ?_
      refine lv_icmp_ne (tgt := 22) hx hb dX6_rule_15 (by decide) (fun c15_27 => ?_) (fun c15_27 => ?_)
      · skip
        refine lv_aload_n hx hb dX6_rule_22 rfl (lv_at hl 1 rfl) ?_
        refine va_get (D := D) (ci := 6) (v := .int stan) (C := RX6) (T := TX6) (N := 39) hx hb hts in_X6_rule_X6 hown hK hP 0 rfl rfl 9 (by decide) (hts _ wd_X6_rule_2) (fun _ h9 => h9) rfl dX6_rule_23 ?_
        exact hJ_4 stan ls (lv_sub hl [0, 1, 2, 3] rfl) (by first | rfl | (try unfold rlM); ((try first | rw [if_pos c15_27] | rw [if_neg c15_27]); first | done | rfl | trivial))
      · skip
        refine lv_iload_n hx hb dX6_rule_18 rfl (lv_at hl 3 rfl) ?_
        refine lv_goto (tgt := 26) hx hb dX6_rule_19 (by decide) ?_
        exact hJ_4 p1 ls (lv_sub hl [0, 1, 2, 3] rfl) (by first | rfl | (try unfold rlM); ((try first | rw [if_pos c15_27] | rw [if_neg c15_27]); first | done | rfl | trivial))
  · skip
    refine lv_iload_n hx hb dX6_rule_0 rfl (lv_at hl 1 rfl) ?_
    refine lv_if_ne (tgt := 8) hx hb dX6_rule_1 (by decide) (fun c1_28 => ?_) (fun c1_28 => ?_)
    · skip
      refine lv_aload_n hx hb dX6_rule_8 rfl (lv_at hl 0 rfl) ?_
      refine va_get (D := D) (ci := 6) (v := .int targ) (C := RX6) (T := TX6) (N := 39) hx hb hts in_X6_rule_X6 hown hK hP 0 rfl rfl 8 (by decide) (hts _ wd_X6_rule_1) (fun _ h9 => h9) rfl dX6_rule_9 ?_
      exact hJ_1 targ ls (lv_sub hl [0, 1, 2] rfl) (by first | rfl | (try unfold rlM); ((try first | rw [if_pos c1_28] | rw [if_neg c1_28]); first | done | rfl | trivial))
    · skip
      refine lv_iload_n hx hb dX6_rule_4 rfl (lv_at hl 2 rfl) ?_
      refine lv_goto (tgt := 12) hx hb dX6_rule_5 (by decide) ?_
      exact hJ_1 p1 ls (lv_sub hl [0, 1, 2] rfl) (by first | rfl | (try unfold rlM); ((try first | rw [if_pos c1_28] | rw [if_neg c1_28]); first | done | rfl | trivial))
