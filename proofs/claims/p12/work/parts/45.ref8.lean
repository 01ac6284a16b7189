set_option maxRecDepth 20000 in
theorem in_X6_findHouse_X6 : ∀ w ∈ wsX60, w ∈ wsX6_findHouse := by decide +kernel
set_option maxRecDepth 20000 in
theorem wd_X6_findHouse_0 : Cond.fieldLink RX6 55 "ShoeTableModel" "step" "[I" ∈ wsX6_findHouse := by decide +kernel
set_option maxHeartbeats 400000 in
set_option maxRecDepth 100000 in
theorem lpFH4 {p : Program} {l : Launch} {e : Env} {R : Room} {s : State} {m : MethodId} {args : Array Value} {below : List Frame} {meth : Method} {c : Code} {Q : State → Prop} {D : va_G} {cI cJ cQ : ClassId} {A : Nat → Prop} {cells slots : Nat} (hx : p.tables.exec = Jvm.exec) (hb : c.code = cX6_findHouse) (hml : c.maxLocals = 8) (hown : s.vm.findClass RX6 = some m.cls) (hts : ∀ w ∈ wsX6_findHouse, w.before args s = true) (hK : va_K D vwCl (gTy cI cJ cQ) s) (hA : ∀ q : Nat, s.heap.size ≤ q → A q) (m0 : Nat) (ms : Nat) (mf : Nat) (mw : Nat) (mk : Nat) (mtold : Bool) (mh : Nat) (hn : Nat) (mup : Int32) (tg : Nat) (stan : Int32) (soft : Int32) (doub : Int32) (spli : Int32) (giv : Int32) (bon : Int32) (drw : Int64) (mbank : Int32) (q0 : Nat) (q1 : Nat) (q2 : Nat) (hp : Nat) (q3 : Nat) (q4 : Nat) (q5 : Nat) (q6 : Nat) (q7 : Nat) (msum : Int32) (hasA : Bool) (mcards : Int32) (mpair : Int32) (sh : Nat) (want : Int32) (mwin : Int32) (isCh : Bool) (mbest : Int32) (k0 : Nat) (k1 : Nat) (k2 : Nat) (k3 : Nat) (capr : Nat → Int32) (cap : Nat → Nat) (stp : Nat → Nat) (siz : Nat → Nat) (pts : Nat → Nat) (ords : Nat → Int64) (hou : Nat → Int64) (h : Nat) (ss : Nat) (aa : Nat) (hRf : 4 ≤ R.frames) (hRl : 91 ≤ R.locals) (hRc : cells ≤ R.cells) (hRs : slots ≤ R.slots) (hcp : ∀ j, 1 ≤ j → j ≤ 10 → capr j = nI (cap j)) (hL : LaidP cap stp hp siz pts) (hsh : sh ≤ 10) (htg : tg ≤ 21) (hst : stan.toInt ≤ 21) (hlt : h < hp) (s21 : ss ≤ 21) (a1 : aa ≤ 1) : ∀ (n9 : Nat) (r : Nat) (n : Int64) (H : Heap) (locs : List Loc) (ls : Array Slot), 11 - r < n9 → (1 ≤ r) → (r ≤ 11) → va_P D vwCl [(m0, .inr (6, [.ref ms, .ref mf, .ref mw, .ref mk, .int (bI mtold), .ref mh, .int (nI hn), .int mup, .int (nI tg), .int stan, .int soft, .int doub, .int spli, .int giv, .int bon, .long drw, .int mbank, .ref q0, .ref q1, .ref q2, .int (nI hp), .ref q3, .ref q4, .ref q5, .ref q6, .ref q7, .int msum, .int (bI hasA), .int mcards, .int mpair, .int (nI sh), .int want, .int mwin, .int (bI isCh), .int mbest, .ref k0, .ref k1, .ref k2, .ref k3])), (q0, .inl (cJ, 13, .inr (.inl ords))), (q1, .inl (cI, 11, .inl capr)), (q2, .inl (cI, 11, .inl (nA stp))), (q3, .inl (cI, 2400, .inl (nA siz))), (q4, .inl (cI, 2400, .inl (nA pts))), (q5, .inl (cJ, 105600, .inr (.inl hou)))] H → va_D A [(m0, .inr (6, [.ref ms, .ref mf, .ref mw, .ref mk, .int (bI mtold), .ref mh, .int (nI hn), .int mup, .int (nI tg), .int stan, .int soft, .int doub, .int spli, .int giv, .int bon, .long drw, .int mbank, .ref q0, .ref q1, .ref q2, .int (nI hp), .ref q3, .ref q4, .ref q5, .ref q6, .ref q7, .int msum, .int (bI hasA), .int mcards, .int mpair, .int (nI sh), .int want, .int mwin, .int (bI isCh), .int mbest, .ref k0, .ref k1, .ref k2, .ref k3])), (q0, .inl (cJ, 13, .inr (.inl ords))), (q1, .inl (cI, 11, .inl capr)), (q2, .inl (cI, 11, .inl (nA stp))), (q3, .inl (cI, 2400, .inl (nA siz))), (q4, .inl (cI, 2400, .inl (nA pts))), (q5, .inl (cJ, 105600, .inr (.inl hou)))] → va_S A s.heap H locs → lv_has ls 8 [(6, .int (nI r)), (4, .long n), (3, .int (nI aa)), (2, .int (nI ss)), (1, .int (nI h)), (0, .ref m0)] → (∀ (n : Int64) (H : Heap) (locs : List Loc) (ls : Array Slot), va_P D vwCl [(m0, .inr (6, [.ref ms, .ref mf, .ref mw, .ref mk, .int (bI mtold), .ref mh, .int (nI hn), .int mup, .int (nI tg), .int stan, .int soft, .int doub, .int spli, .int giv, .int bon, .long drw, .int mbank, .ref q0, .ref q1, .ref q2, .int (nI hp), .ref q3, .ref q4, .ref q5, .ref q6, .ref q7, .int msum, .int (bI hasA), .int mcards, .int mpair, .int (nI sh), .int want, .int mwin, .int (bI isCh), .int mbest, .ref k0, .ref k1, .ref k2, .ref k3])), (q0, .inl (cJ, 13, .inr (.inl ords))), (q1, .inl (cI, 11, .inl capr)), (q2, .inl (cI, 11, .inl (nA stp))), (q3, .inl (cI, 2400, .inl (nA siz))), (q4, .inl (cI, 2400, .inl (nA pts))), (q5, .inl (cJ, 105600, .inr (.inl hou)))] H → va_D A [(m0, .inr (6, [.ref ms, .ref mf, .ref mw, .ref mk, .int (bI mtold), .ref mh, .int (nI hn), .int mup, .int (nI tg), .int stan, .int soft, .int doub, .int spli, .int giv, .int bon, .long drw, .int mbank, .ref q0, .ref q1, .ref q2, .int (nI hp), .ref q3, .ref q4, .ref q5, .ref q6, .ref q7, .int msum, .int (bI hasA), .int mcards, .int mpair, .int (nI sh), .int want, .int mwin, .int (bI isCh), .int mbest, .ref k0, .ref k1, .ref k2, .ref k3])), (q0, .inl (cJ, 13, .inr (.inl ords))), (q1, .inl (cI, 11, .inl capr)), (q2, .inl (cI, 11, .inl (nA stp))), (q3, .inl (cI, 2400, .inl (nA siz))), (q4, .inl (cI, 2400, .inl (nA pts))), (q5, .inl (cJ, 105600, .inr (.inl hou)))] → va_S A s.heap H locs → lv_has ls 8 [(4, .long n), (3, .int (nI aa)), (2, .int (nI ss)), (1, .int (nI h)), (0, .ref m0)] → W p l e R s m args below meth c H locs cells slots Q (F0 m 122 ls [])) → W p l e R s m args below meth c H locs cells slots Q (F0 m 53 ls []) := by
  intro n9
  induction n9 with
  | zero => intro r n H locs ls hms9; exact absurd hms9 (Nat.not_lt_zero _)
  | succ n9 ih =>
    intro r n H locs ls hms9 r1 r2 hP hD hS hl kk0
    have hpb := hL.hp
    refine lv_iload hx hb dX6_findHouse_53 (lv_at hl 0 rfl) ?_
    refine lv_bipush (v := 11) hx hb dX6_findHouse_55 (by decide) ?_
    refine lv_icmp_ge (tgt := 122) hx hb dX6_findHouse_57 (by decide) (fun c57_1 => ?_) (fun c57_1 => ?_)
    · skip
      have nc57_1 : 11 ≤ r := (nI_leI (a := 11) (b := r) (by omega) (by omega)).mp c57_1
      exact kk0 n _ _ _ hP hD hS (lv_sub hl [1, 2, 3, 4, 5] rfl)
    · skip
      have nc57_1 : ¬ (11 ≤ r) := fun z9 => c57_1 ((nI_leI (a := 11) (b := r) (by omega) (by omega)).mpr z9)
      obtain ⟨g1, g2, g3⟩ := hL.rk (r := r) (by omega) (by omega)
      refine lv_aload_n hx hb dX6_findHouse_60 rfl (lv_at hl 5 rfl) ?_
      refine lv_iload_n hx hb dX6_findHouse_61 rfl (lv_at hl 4 rfl) ?_
      refine lv_iload hx hb dX6_findHouse_62 (lv_at hl 0 rfl) ?_
      have hPc := hP.sub (ws' := [(m0, .inr (6, [.ref ms, .ref mf, .ref mw, .ref mk, .int (bI mtold), .ref mh, .int (nI hn), .int mup, .int (nI tg), .int stan, .int soft, .int doub, .int spli, .int giv, .int bon, .long drw, .int mbank, .ref q0, .ref q1, .ref q2, .int (nI hp), .ref q3, .ref q4, .ref q5, .ref q6, .ref q7, .int msum, .int (bI hasA), .int mcards, .int mpair, .int (nI sh), .int want, .int mwin, .int (bI isCh), .int mbest, .ref k0, .ref k1, .ref k2, .ref k3])), (q1, .inl (cI, 11, .inl capr)), (q2, .inl (cI, 11, .inl (nA stp)))]) [0, 2, 3] rfl
      refine vp_callSi (W.runV (As := [.int (nI h), .int (nI r)]) (rest := []) ⟨hx, hb, hml, hown, hts⟩ (c_X6_ofRank l D cI cJ cQ m0 ms mf mw mk mtold mh hn mup (nI tg) stan soft doub spli giv bon drw mbank q0 q1 q2 (nI hp) q3 q4 q5 q6 q7 msum hasA mcards mpair (nI sh) want mwin isCh mbest k0 k1 k2 k3 (capr) cap (stp) h r g1 g2 g3 (by omega) (by omega) (by omega) hcp) (cwV 2 hts gX6_findHouse_X6_ofRank rfl rfl rfl (by decide +kernel) ⟨Nat.le_trans (show 0 + 1 ≤ 4 by omega) hRf, Nat.le_trans (show 8 + (3 + 11) + (0) ≤ 91 by omega) hRl⟩) (rP_preV (ci := 6) (q0 := 0) hPc hK rfl rfl) rfl rfl hl.1 rfl (lv_room (Nat.le_of_ble_eq_true rfl)) dX6_findHouse_64 ⟨hRc, hRs⟩) (fun r_2 hr_2 => ?_)
      subst hr_2
      refine lv_istore (lv' := [(7, .int (nI (h / (stp) r % (cap r + 1)))), (6, .int (nI r)), (4, .long n), (3, .int (nI aa)), (2, .int (nI ss)), (1, .int (nI h)), (0, .ref m0)]) hx hb dX6_findHouse_67 hl (by decide) rfl (fun ls hl => ?_)
      refine lv_iload hx hb dX6_findHouse_69 (lv_at hl 0 rfl) ?_
      refine lv_if_le (tgt := 116) hx hb dX6_findHouse_71 (by decide) (fun c71_3 => ?_) (fun c71_3 => ?_)
      · skip
        have nc71_3 : (h / (stp) r % (cap r + 1)) ≤ 0 := (nI_leI (a := (h / (stp) r % (cap r + 1))) (b := 0) (by first | exact mod_b g3 | decide) (by first | exact mod_b g3 | decide)).mp c71_3
        refine lv_iinc (v := (nI (r + 1))) (lv' := [(6, .int (nI (r + 1))), (7, .int (nI (h / (stp) r % (cap r + 1)))), (4, .long n), (3, .int (nI aa)), (2, .int (nI ss)), (1, .int (nI h)), (0, .ref m0)]) hx hb dX6_findHouse_116 hl (k := 1) rfl (nI_incT (by decide)) (by decide) rfl (fun ls hl => ?_)
        refine lv_goto (tgt := 53) hx hb dX6_findHouse_119 (by decide) ?_
        exact ih (r + 1) n _ _ _ (by omega) (by omega) (by omega) hP hD hS (lv_sub hl [0, 2, 3, 4, 5, 6] rfl) kk0
      · skip
        have nc71_3 : ¬ ((h / (stp) r % (cap r + 1)) ≤ 0) := fun z9 => c71_3 ((nI_leI (a := (h / (stp) r % (cap r + 1))) (b := 0) (by first | exact mod_b g3 | decide) (by first | exact mod_b g3 | decide)).mpr z9)
        have hle := of_pos nc71_3
        have hsz9 := hL.sz (h := h - stp r) (by omega)
        refine lv_lload hx hb dX6_findHouse_74 (lv_at hl 2 rfl) ?_
        refine lv_iload hx hb dX6_findHouse_76 (lv_at hl 0 rfl) ?_
        refine lv_i2l (v := (nI (h / (stp) r % (cap r + 1))).toInt64) hx hb dX6_findHouse_78 rfl ?_
        refine lv_aload_n hx hb dX6_findHouse_79 rfl (lv_at hl 6 rfl) ?_
        refine lv_iload_n hx hb dX6_findHouse_80 rfl (lv_at hl 5 rfl) ?_
        refine lv_aload_n hx hb dX6_findHouse_81 rfl (lv_at hl 6 rfl) ?_
        refine va_get (D := D) (ci := 6) (v := .ref q2) (C := RX6) (T := TX6) (N := 39) hx hb hts in_X6_findHouse_X6 hown hK hP 0 rfl rfl 19 (by decide) (hts _ wd_X6_findHouse_0) (fun _ h9 => h9) rfl dX6_findHouse_82 ?_
        refine lv_iload hx hb dX6_findHouse_85 (lv_at hl 1 rfl) ?_
        refine va_iald hx hb hK hP 3 0 rfl rfl (vp_in_nI (by omega) (by decide)) dX6_findHouse_87 ?_
        refine lv_topi (fun z_4 ez_4 => ?_)
        obtain rfl : z_4 = (nI (stp r)) := ez_4.trans (by rw [nI_clamp (by omega)]; rfl)
        refine lv_isub hx hb dX6_findHouse_88 ?_
        refine lv_topi (fun z_5 ez_5 => ?_)
        obtain rfl : z_5 = nI (h - (stp r)) := ez_5.trans (nI_subT (a := h) (b := (stp r)) (by omega))
        refine lv_iload_n hx hb dX6_findHouse_89 rfl (lv_at hl 4 rfl) ?_
        refine lv_iload hx hb dX6_findHouse_90 (lv_at hl 1 rfl) ?_
        refine lv_iadd hx hb dX6_findHouse_92 ?_
        refine lv_topi (fun z_6 ez_6 => ?_)
        obtain rfl : z_6 = nI (ss + r) := ez_6.trans (nI_add _ _)
        refine lv_join (α := Bool) 109 8 (fun a9 => [(7, .int (nI (h / (stp) r % (cap r + 1)))), (6, .int (nI r)), (4, .long n), (3, .int (nI aa)), (2, .int (nI ss)), (1, .int (nI h)), (0, .ref m0)]) (fun a9 => [.int (bI a9), .int (nI (ss + r)), .int (nI (h - (stp r))), .ref m0, .long ((nI (h / (stp) r % (cap r + 1))).toInt64), .long n]) (fun a9 => a9 = (decide ((nI aa) = 1) || decide ((nI r) = 1))) (fun a_9 ls hl hp_8 => ?_) (fun hJ_7 => ?_)
        · skip
          have hp_8 : a_9 = (decide ((nI aa) = 1) || decide ((nI r) = 1)) := hp_8
          subst hp_8
          have hPc := hP.sub (ws' := [(m0, .inr (6, [.ref ms, .ref mf, .ref mw, .ref mk, .int (bI mtold), .ref mh, .int (nI hn), .int mup, .int (nI tg), .int stan, .int soft, .int doub, .int spli, .int giv, .int bon, .long drw, .int mbank, .ref q0, .ref q1, .ref q2, .int (nI hp), .ref q3, .ref q4, .ref q5, .ref q6, .ref q7, .int msum, .int (bI hasA), .int mcards, .int mpair, .int (nI sh), .int want, .int mwin, .int (bI isCh), .int mbest, .ref k0, .ref k1, .ref k2, .ref k3])), (q3, .inl (cI, 2400, .inl (nA siz))), (q5, .inl (cJ, 105600, .inr (.inl hou))), (q0, .inl (cJ, 13, .inr (.inl ords)))]) [0, 4, 6, 1] rfl
          refine vp_callSl (W.runV (As := [.int (nI (h - (stp r))), .int (nI (ss + r)), .int (bI (decide ((nI aa) = 1) || decide ((nI r) = 1)))]) (rest := [.long ((nI (h / (stp) r % (cap r + 1))).toInt64), .long n]) ⟨hx, hb, hml, hown, hts⟩ (c_X6_houseAt l D cI cJ cQ m0 ms mf mw mk mtold mh hn mup (nI tg) stan soft doub spli giv bon drw mbank q0 q1 q2 (nI hp) q3 q4 q5 q6 q7 msum hasA mcards mpair (nI sh) want mwin isCh mbest k0 k1 k2 k3 (siz) (hou) (ords) (h - (stp r)) (ss + r) (decide ((nI aa) = 1) || decide ((nI r) = 1)) (by omega) hsz9 (by omega) hst) (cwV 3 hts gX6_findHouse_X6_houseAt rfl rfl rfl (by decide +kernel) ⟨Nat.le_trans (show 3 + 1 ≤ 4 by omega) hRf, Nat.le_trans (show 8 + (4 + 11) + (68) ≤ 91 by omega) hRl⟩) (rP_preV (ci := 6) (q0 := 0) hPc hK rfl rfl) rfl rfl hl.1 rfl (lv_room (Nat.le_of_ble_eq_true rfl)) dX6_findHouse_109 ⟨hRc, hRs⟩) (fun r_10 hr_10 => ?_)
          subst hr_10
          refine lv_lmul hx hb dX6_findHouse_112 ?_
          refine lv_ladd hx hb dX6_findHouse_113 ?_
          refine lv_lstore (lv' := [(4, .long (n + ((nI (h / (stp) r % (cap r + 1))).toInt64 * (haM (ords) (hou) (siz) (nI tg) stan soft isCh want mwin (h - (stp r)) (ss + r) (decide ((nI aa) = 1) || decide ((nI r) = 1)))))), (7, .int (nI (h / (stp) r % (cap r + 1)))), (6, .int (nI r)), (3, .int (nI aa)), (2, .int (nI ss)), (1, .int (nI h)), (0, .ref m0)]) hx hb dX6_findHouse_114 hl (by decide) rfl (fun ls hl => ?_)
          refine lv_iinc (v := (nI (r + 1))) (lv' := [(6, .int (nI (r + 1))), (4, .long (n + ((nI (h / (stp) r % (cap r + 1))).toInt64 * (haM (ords) (hou) (siz) (nI tg) stan soft isCh want mwin (h - (stp r)) (ss + r) (decide ((nI aa) = 1) || decide ((nI r) = 1)))))), (7, .int (nI (h / (stp) r % (cap r + 1)))), (3, .int (nI aa)), (2, .int (nI ss)), (1, .int (nI h)), (0, .ref m0)]) hx hb dX6_findHouse_116 hl (k := 2) rfl (nI_incT (by decide)) (by decide) rfl (fun ls hl => ?_)
          refine lv_goto (tgt := 53) hx hb dX6_findHouse_119 (by decide) ?_
          exact ih (r + 1) (n + ((nI (h / (stp) r % (cap r + 1))).toInt64 * (haM (ords) (hou) (siz) (nI tg) stan soft isCh want mwin (h - (stp r)) (ss + r) (decide ((nI aa) = 1) || decide ((nI r) = 1))))) _ _ _ (by omega) (by omega) (by omega) hP hD hS (lv_sub hl [0, 1, 3, 4, 5, 6] rfl) kk0
        · skip
          refine lv_iload_n hx hb dX6_findHouse_93 rfl (lv_at hl 3 rfl) ?_
          refine lv_iconst (v := 1) hx hb dX6_findHouse_94 (by decide) ?_
          refine lv_icmp_eq (tgt := 104) hx hb dX6_findHouse_95 (by decide) (fun c95_11 => ?_) (fun c95_11 => ?_)
          · skip
            have nc95_11 : aa = 1 := (nI_eq (a := aa) (b := 1) (by omega) (by omega)).mp c95_11
            refine lv_iconst (v := 1) hx hb dX6_findHouse_104 (by decide) ?_
            refine lv_goto (tgt := 109) hx hb dX6_findHouse_105 (by decide) ?_
            exact hJ_7 true ls (lv_sub hl [0, 1, 2, 3, 4, 5, 6] rfl) (by first | assumption | (simp [c95_11]; done) | ((try first | rw [if_pos c95_11] | rw [if_neg c95_11]); first | done | rfl | trivial) | (simp_all; done))
          · skip
            have nc95_11 : ¬ (aa = 1) := fun z9 => c95_11 ((nI_eq (a := aa) (b := 1) (by omega) (by omega)).mpr z9)
            refine lv_iload hx hb dX6_findHouse_98 (lv_at hl 1 rfl) ?_
            refine lv_iconst (v := 1) hx hb dX6_findHouse_100 (by decide) ?_
            refine lv_icmp_ne (tgt := 108) hx hb dX6_findHouse_101 (by decide) (fun c101_12 => ?_) (fun c101_12 => ?_)
            · skip
              have nc101_12 : ¬ (r = 1) := fun z9 => c101_12 ((nI_eq (a := r) (b := 1) (by omega) (by omega)).mpr z9)
              refine lv_iconst (v := 0) hx hb dX6_findHouse_108 (by decide) ?_
              exact hJ_7 false ls (lv_sub hl [0, 1, 2, 3, 4, 5, 6] rfl) (by first | assumption | (simp [c95_11, c101_12]; done) | ((try first | rw [if_pos c95_11] | rw [if_neg c95_11]); (try first | rw [if_pos c101_12] | rw [if_neg c101_12]); first | done | rfl | trivial) | (simp_all; done))
            · skip
              have nc101_12 : r = 1 := (nI_eq (a := r) (b := 1) (by omega) (by omega)).mp c101_12
              refine lv_iconst (v := 1) hx hb dX6_findHouse_104 (by decide) ?_
              refine lv_goto (tgt := 109) hx hb dX6_findHouse_105 (by decide) ?_
              exact hJ_7 true ls (lv_sub hl [0, 1, 2, 3, 4, 5, 6] rfl) (by first | assumption | (simp [c95_11, c101_12]; done) | ((try first | rw [if_pos c95_11] | rw [if_neg c95_11]); (try first | rw [if_pos c101_12] | rw [if_neg c101_12]); first | done | rfl | trivial) | (simp_all; done))

set_option maxRecDepth 20000 in
theorem wd_X6_findHouse_1 : Cond.fieldLink RX6 65 "ShoeTableModel" "house" "[J" ∈ wsX6_findHouse := by decide +kernel
set_option maxHeartbeats 400000 in
set_option maxRecDepth 100000 in
theorem lpFH3 {p : Program} {l : Launch} {e : Env} {R : Room} {s : State} {m : MethodId} {args : Array Value} {below : List Frame} {meth : Method} {c : Code} {Q : State → Prop} {D : va_G} {cI cJ cQ : ClassId} {A : Nat → Prop} {cells slots : Nat} (hx : p.tables.exec = Jvm.exec) (hb : c.code = cX6_findHouse) (hml : c.maxLocals = 8) (hown : s.vm.findClass RX6 = some m.cls) (hts : ∀ w ∈ wsX6_findHouse, w.before args s = true) (hK : va_K D vwCl (gTy cI cJ cQ) s) (hA : ∀ q : Nat, s.heap.size ≤ q → A q) (m0 : Nat) (ms : Nat) (mf : Nat) (mw : Nat) (mk : Nat) (mtold : Bool) (mh : Nat) (hn : Nat) (mup : Int32) (tg : Nat) (stan : Int32) (soft : Int32) (doub : Int32) (spli : Int32) (giv : Int32) (bon : Int32) (drw : Int64) (mbank : Int32) (q0 : Nat) (q1 : Nat) (q2 : Nat) (hp : Nat) (q3 : Nat) (q4 : Nat) (q5 : Nat) (q6 : Nat) (q7 : Nat) (msum : Int32) (hasA : Bool) (mcards : Int32) (mpair : Int32) (sh : Nat) (want : Int32) (mwin : Int32) (isCh : Bool) (mbest : Int32) (k0 : Nat) (k1 : Nat) (k2 : Nat) (k3 : Nat) (capr : Nat → Int32) (cap : Nat → Nat) (stp : Nat → Nat) (siz : Nat → Nat) (pts : Nat → Nat) (ords : Nat → Int64) (h : Nat) (ss : Nat) (hRf : 4 ≤ R.frames) (hRl : 91 ≤ R.locals) (hRc : cells ≤ R.cells) (hRs : slots ≤ R.slots) (hcp : ∀ j, 1 ≤ j → j ≤ 10 → capr j = nI (cap j)) (hL : LaidP cap stp hp siz pts) (hsh : sh ≤ 10) (htg : tg ≤ 21) (hst : stan.toInt ≤ 21) (hlt : h < hp) (s21 : ss ≤ 21) : ∀ (n9 : Nat) (aa : Nat) (hou : Nat → Int64) (H : Heap) (locs : List Loc) (ls : Array Slot), 2 - aa < n9 → (aa ≤ 2) → va_P D vwCl [(m0, .inr (6, [.ref ms, .ref mf, .ref mw, .ref mk, .int (bI mtold), .ref mh, .int (nI hn), .int mup, .int (nI tg), .int stan, .int soft, .int doub, .int spli, .int giv, .int bon, .long drw, .int mbank, .ref q0, .ref q1, .ref q2, .int (nI hp), .ref q3, .ref q4, .ref q5, .ref q6, .ref q7, .int msum, .int (bI hasA), .int mcards, .int mpair, .int (nI sh), .int want, .int mwin, .int (bI isCh), .int mbest, .ref k0, .ref k1, .ref k2, .ref k3])), (q0, .inl (cJ, 13, .inr (.inl ords))), (q1, .inl (cI, 11, .inl capr)), (q2, .inl (cI, 11, .inl (nA stp))), (q3, .inl (cI, 2400, .inl (nA siz))), (q4, .inl (cI, 2400, .inl (nA pts))), (q5, .inl (cJ, 105600, .inr (.inl hou)))] H → va_D A [(m0, .inr (6, [.ref ms, .ref mf, .ref mw, .ref mk, .int (bI mtold), .ref mh, .int (nI hn), .int mup, .int (nI tg), .int stan, .int soft, .int doub, .int spli, .int giv, .int bon, .long drw, .int mbank, .ref q0, .ref q1, .ref q2, .int (nI hp), .ref q3, .ref q4, .ref q5, .ref q6, .ref q7, .int msum, .int (bI hasA), .int mcards, .int mpair, .int (nI sh), .int want, .int mwin, .int (bI isCh), .int mbest, .ref k0, .ref k1, .ref k2, .ref k3])), (q0, .inl (cJ, 13, .inr (.inl ords))), (q1, .inl (cI, 11, .inl capr)), (q2, .inl (cI, 11, .inl (nA stp))), (q3, .inl (cI, 2400, .inl (nA siz))), (q4, .inl (cI, 2400, .inl (nA pts))), (q5, .inl (cJ, 105600, .inr (.inl hou)))] → va_S A s.heap H locs → lv_has ls 8 [(3, .int (nI aa)), (2, .int (nI ss)), (1, .int (nI h)), (0, .ref m0)] → (∀ (hou : Nat → Int64) (H : Heap) (locs : List Loc) (ls : Array Slot), va_P D vwCl [(m0, .inr (6, [.ref ms, .ref mf, .ref mw, .ref mk, .int (bI mtold), .ref mh, .int (nI hn), .int mup, .int (nI tg), .int stan, .int soft, .int doub, .int spli, .int giv, .int bon, .long drw, .int mbank, .ref q0, .ref q1, .ref q2, .int (nI hp), .ref q3, .ref q4, .ref q5, .ref q6, .ref q7, .int msum, .int (bI hasA), .int mcards, .int mpair, .int (nI sh), .int want, .int mwin, .int (bI isCh), .int mbest, .ref k0, .ref k1, .ref k2, .ref k3])), (q0, .inl (cJ, 13, .inr (.inl ords))), (q1, .inl (cI, 11, .inl capr)), (q2, .inl (cI, 11, .inl (nA stp))), (q3, .inl (cI, 2400, .inl (nA siz))), (q4, .inl (cI, 2400, .inl (nA pts))), (q5, .inl (cJ, 105600, .inr (.inl hou)))] H → va_D A [(m0, .inr (6, [.ref ms, .ref mf, .ref mw, .ref mk, .int (bI mtold), .ref mh, .int (nI hn), .int mup, .int (nI tg), .int stan, .int soft, .int doub, .int spli, .int giv, .int bon, .long drw, .int mbank, .ref q0, .ref q1, .ref q2, .int (nI hp), .ref q3, .ref q4, .ref q5, .ref q6, .ref q7, .int msum, .int (bI hasA), .int mcards, .int mpair, .int (nI sh), .int want, .int mwin, .int (bI isCh), .int mbest, .ref k0, .ref k1, .ref k2, .ref k3])), (q0, .inl (cJ, 13, .inr (.inl ords))), (q1, .inl (cI, 11, .inl capr)), (q2, .inl (cI, 11, .inl (nA stp))), (q3, .inl (cI, 2400, .inl (nA siz))), (q4, .inl (cI, 2400, .inl (nA pts))), (q5, .inl (cJ, 105600, .inr (.inl hou)))] → va_S A s.heap H locs → lv_has ls 8 [(2, .int (nI ss)), (1, .int (nI h)), (0, .ref m0)] → W p l e R s m args below meth c H locs cells slots Q (F0 m 145 ls [])) → W p l e R s m args below meth c H locs cells slots Q (F0 m 23 ls []) := by
  intro n9
  induction n9 with
  | zero => intro aa hou H locs ls hms9; exact absurd hms9 (Nat.not_lt_zero _)
  | succ n9 ih =>
    intro aa hou H locs ls hms9 a2 hP hD hS hl kk0
    have hpb := hL.hp
    refine lv_iload_n hx hb dX6_findHouse_23 rfl (lv_at hl 0 rfl) ?_
    refine lv_iconst (v := 2) hx hb dX6_findHouse_24 (by decide) ?_
    refine lv_icmp_ge (tgt := 145) hx hb dX6_findHouse_25 (by decide) (fun c25_1 => ?_) (fun c25_1 => ?_)
    · skip
      have nc25_1 : 2 ≤ aa := (nI_leI (a := 2) (b := aa) (by omega) (by omega)).mp c25_1
      exact kk0 hou _ _ _ hP hD hS (lv_sub hl [1, 2, 3] rfl)
    · skip
      have nc25_1 : ¬ (2 ≤ aa) := fun z9 => c25_1 ((nI_leI (a := 2) (b := aa) (by omega) (by omega)).mpr z9)
      refine lv_aload_n hx hb dX6_findHouse_28 rfl (lv_at hl 3 rfl) ?_
      refine lv_iload_n hx hb dX6_findHouse_29 rfl (lv_at hl 2 rfl) ?_
      refine lv_iload_n hx hb dX6_findHouse_30 rfl (lv_at hl 1 rfl) ?_
      refine lv_join (α := Bool) 41 8 (fun a9 => [(3, .int (nI aa)), (2, .int (nI ss)), (1, .int (nI h)), (0, .ref m0)]) (fun a9 => [.int (bI a9), .int (nI ss), .int (nI h), .ref m0]) (fun a9 => a9 = (decide ((nI aa) = 1))) (fun a_4 ls hl hp_3 => ?_) (fun hJ_2 => ?_)
      · skip
        have hp_3 : a_4 = (decide ((nI aa) = 1)) := hp_3
        subst hp_3
        have hPc := hP.sub (ws' := [(m0, .inr (6, [.ref ms, .ref mf, .ref mw, .ref mk, .int (bI mtold), .ref mh, .int (nI hn), .int mup, .int (nI tg), .int stan, .int soft, .int doub, .int spli, .int giv, .int bon, .long drw, .int mbank, .ref q0, .ref q1, .ref q2, .int (nI hp), .ref q3, .ref q4, .ref q5, .ref q6, .ref q7, .int msum, .int (bI hasA), .int mcards, .int mpair, .int (nI sh), .int want, .int mwin, .int (bI isCh), .int mbest, .ref k0, .ref k1, .ref k2, .ref k3])), (q3, .inl (cI, 2400, .inl (nA siz)))]) [0, 4] rfl
        refine vp_callSi (W.runV (As := [.int (nI h), .int (nI ss), .int (bI (decide ((nI aa) = 1)))]) (rest := []) ⟨hx, hb, hml, hown, hts⟩ (c_X6_draws l D cI cJ cQ m0 ms mf mw mk mtold mh hn mup (nI tg) stan soft doub spli giv bon drw mbank q0 q1 q2 (nI hp) q3 q4 q5 q6 q7 msum hasA mcards mpair (nI sh) want mwin isCh mbest k0 k1 k2 k3 (siz) h (nI ss) (decide ((nI aa) = 1)) (by omega) (hL.sz hlt)) (cwV 3 hts gX6_findHouse_X6_draws rfl rfl rfl (by decide +kernel) ⟨Nat.le_trans (show 2 + 1 ≤ 4 by omega) hRf, Nat.le_trans (show 8 + (4 + 11) + (45) ≤ 91 by omega) hRl⟩) (rP_preV (ci := 6) (q0 := 0) hPc hK rfl rfl) rfl rfl hl.1 rfl (lv_room (Nat.le_of_ble_eq_true rfl)) dX6_findHouse_41 ⟨hRc, hRs⟩) (fun r_5 hr_5 => ?_)
        subst hr_5
        refine lv_if_eq (tgt := 139) hx hb dX6_findHouse_44 (by decide) (fun c44_6 => ?_) (fun c44_6 => ?_)
        · skip
          refine lv_iinc (v := (nI (aa + 1))) (lv' := [(3, .int (nI (aa + 1))), (2, .int (nI ss)), (1, .int (nI h)), (0, .ref m0)]) hx hb dX6_findHouse_139 hl (k := 0) rfl (nI_incT (by decide)) (by decide) rfl (fun ls hl => ?_)
          refine lv_goto (tgt := 23) hx hb dX6_findHouse_142 (by decide) ?_
          exact ih (aa + 1) hou _ _ _ (by omega) (by omega) hP hD hS (lv_sub hl [0, 1, 2, 3] rfl) kk0
        · skip
          refine lv_lconst (v := 0) hx hb dX6_findHouse_47 (by decide) ?_
          refine lv_lstore (lv' := [(4, .long 0), (3, .int (nI aa)), (2, .int (nI ss)), (1, .int (nI h)), (0, .ref m0)]) hx hb dX6_findHouse_48 hl (by decide) rfl (fun ls hl => ?_)
          refine lv_iconst (v := 1) hx hb dX6_findHouse_50 (by decide) ?_
          refine lv_istore (lv' := [(6, .int 1), (4, .long 0), (3, .int (nI aa)), (2, .int (nI ss)), (1, .int (nI h)), (0, .ref m0)]) hx hb dX6_findHouse_51 hl (by decide) rfl (fun ls hl => ?_)
          refine lpFH4 hx hb hml hown hts hK hA m0 ms mf mw mk mtold mh hn mup tg stan soft doub spli giv bon drw mbank q0 q1 q2 hp q3 q4 q5 q6 q7 msum hasA mcards mpair sh want mwin isCh mbest k0 k1 k2 k3 capr cap stp siz pts ords hou h ss aa (Nat.le_trans (show 4 ≤ 4 by omega) hRf) (Nat.le_trans (show 91 ≤ 91 by omega) hRl) hRc hRs hcp hL hsh htg hst hlt s21 (by omega) (11 - 1 + 1) 1 (0 : Int64) _ _ _ (Nat.lt_succ_self _) (by omega) (by omega) hP hD hS (lv_sub hl [0, 1, 2, 3, 4, 5] rfl) (fun n_7 H locs ls  hP hD hS hl => ?_)
          have hP : va_P D vwCl [(m0, .inr (6, [.ref ms, .ref mf, .ref mw, .ref mk, .int (bI mtold), .ref mh, .int (nI hn), .int mup, .int (nI tg), .int stan, .int soft, .int doub, .int spli, .int giv, .int bon, .long drw, .int mbank, .ref q0, .ref q1, .ref q2, .int (nI hp), .ref q3, .ref q4, .ref q5, .ref q6, .ref q7, .int msum, .int (bI hasA), .int mcards, .int mpair, .int (nI sh), .int want, .int mwin, .int (bI isCh), .int mbest, .ref k0, .ref k1, .ref k2, .ref k3])), (q0, .inl (cJ, 13, .inr (.inl ords))), (q1, .inl (cI, 11, .inl capr)), (q2, .inl (cI, 11, .inl (nA stp))), (q3, .inl (cI, 2400, .inl (nA siz))), (q4, .inl (cI, 2400, .inl (nA pts))), (q5, .inl (cJ, 105600, .inr (.inl hou)))] H := hP
          have hD : va_D A [(m0, .inr (6, [.ref ms, .ref mf, .ref mw, .ref mk, .int (bI mtold), .ref mh, .int (nI hn), .int mup, .int (nI tg), .int stan, .int soft, .int doub, .int spli, .int giv, .int bon, .long drw, .int mbank, .ref q0, .ref q1, .ref q2, .int (nI hp), .ref q3, .ref q4, .ref q5, .ref q6, .ref q7, .int msum, .int (bI hasA), .int mcards, .int mpair, .int (nI sh), .int want, .int mwin, .int (bI isCh), .int mbest, .ref k0, .ref k1, .ref k2, .ref k3])), (q0, .inl (cJ, 13, .inr (.inl ords))), (q1, .inl (cI, 11, .inl capr)), (q2, .inl (cI, 11, .inl (nA stp))), (q3, .inl (cI, 2400, .inl (nA siz))), (q4, .inl (cI, 2400, .inl (nA pts))), (q5, .inl (cJ, 105600, .inr (.inl hou)))] := hD
          refine lv_aload_n hx hb dX6_findHouse_122 rfl (lv_at hl 4 rfl) ?_
          refine va_get (D := D) (ci := 6) (v := .ref q5) (C := RX6) (T := TX6) (N := 39) hx hb hts in_X6_findHouse_X6 hown hK hP 0 rfl rfl 23 (by decide) (hts _ wd_X6_findHouse_1) (fun _ h9 => h9) rfl dX6_findHouse_123 ?_
          refine lv_bipush (v := 44) hx hb dX6_findHouse_126 (by decide) ?_
          refine lv_iload_n hx hb dX6_findHouse_128 rfl (lv_at hl 3 rfl) ?_
          refine lv_imul hx hb dX6_findHouse_129 ?_
          refine lv_topi (fun z_8 ez_8 => ?_)
          obtain rfl : z_8 = nI (44 * h) := ez_8.trans (nI_mulT _ _)
          refine lv_iconst (v := 2) hx hb dX6_findHouse_130 (by decide) ?_
          refine lv_iload_n hx hb dX6_findHouse_131 rfl (lv_at hl 2 rfl) ?_
          refine lv_imul hx hb dX6_findHouse_132 ?_
          refine lv_topi (fun z_9 ez_9 => ?_)
          obtain rfl : z_9 = nI (2 * ss) := ez_9.trans (nI_mulT _ _)
          refine lv_iadd hx hb dX6_findHouse_133 ?_
          refine lv_topi (fun z_10 ez_10 => ?_)
          obtain rfl : z_10 = nI ((44 * h) + (2 * ss)) := ez_10.trans (nI_add _ _)
          refine lv_iload_n hx hb dX6_findHouse_134 rfl (lv_at hl 1 rfl) ?_
          refine lv_iadd hx hb dX6_findHouse_135 ?_
          refine lv_topi (fun z_11 ez_11 => ?_)
          obtain rfl : z_11 = nI (((44 * h) + (2 * ss)) + aa) := ez_11.trans (nI_add _ _)
          refine lv_lload hx hb dX6_findHouse_136 (lv_at hl 0 rfl) ?_
          refine va_last hx hb hK hP hD hS 6 1 rfl rfl (vp_in_nI (by omega) (by decide)) dX6_findHouse_138 (fun H locs hP hD hS => ?_)
          have e9 : (vp_updL hou (nI (((44 * h) + (2 * ss)) + aa)).toNatClampNeg n_7) = vp_updL hou (((44 * h) + (2 * ss)) + aa) n_7 := by rw [nI_clamp (show (((44 * h) + (2 * ss)) + aa) < 2 ^ 31 by omega)]
          have hP : va_P D vwCl [(m0, .inr (6, [.ref ms, .ref mf, .ref mw, .ref mk, .int (bI mtold), .ref mh, .int (nI hn), .int mup, .int (nI tg), .int stan, .int soft, .int doub, .int spli, .int giv, .int bon, .long drw, .int mbank, .ref q0, .ref q1, .ref q2, .int (nI hp), .ref q3, .ref q4, .ref q5, .ref q6, .ref q7, .int msum, .int (bI hasA), .int mcards, .int mpair, .int (nI sh), .int want, .int mwin, .int (bI isCh), .int mbest, .ref k0, .ref k1, .ref k2, .ref k3])), (q0, .inl (cJ, 13, .inr (.inl ords))), (q1, .inl (cI, 11, .inl capr)), (q2, .inl (cI, 11, .inl (nA stp))), (q3, .inl (cI, 2400, .inl (nA siz))), (q4, .inl (cI, 2400, .inl (nA pts))), (q5, .inl (cJ, 105600, .inr (.inl (vp_updL hou (((44 * h) + (2 * ss)) + aa) n_7))))] H := by rw [← e9]; exact hP
          have hD : va_D A [(m0, .inr (6, [.ref ms, .ref mf, .ref mw, .ref mk, .int (bI mtold), .ref mh, .int (nI hn), .int mup, .int (nI tg), .int stan, .int soft, .int doub, .int spli, .int giv, .int bon, .long drw, .int mbank, .ref q0, .ref q1, .ref q2, .int (nI hp), .ref q3, .ref q4, .ref q5, .ref q6, .ref q7, .int msum, .int (bI hasA), .int mcards, .int mpair, .int (nI sh), .int want, .int mwin, .int (bI isCh), .int mbest, .ref k0, .ref k1, .ref k2, .ref k3])), (q0, .inl (cJ, 13, .inr (.inl ords))), (q1, .inl (cI, 11, .inl capr)), (q2, .inl (cI, 11, .inl (nA stp))), (q3, .inl (cI, 2400, .inl (nA siz))), (q4, .inl (cI, 2400, .inl (nA pts))), (q5, .inl (cJ, 105600, .inr (.inl (vp_updL hou (((44 * h) + (2 * ss)) + aa) n_7))))] := by rw [← e9]; exact hD
          clear e9
          refine lv_iinc (v := (nI (aa + 1))) (lv' := [(3, .int (nI (aa + 1))), (4, .long n_7), (2, .int (nI ss)), (1, .int (nI h)), (0, .ref m0)]) hx hb dX6_findHouse_139 hl (k := 1) rfl (nI_incT (by decide)) (by decide) rfl (fun ls hl => ?_)
          refine lv_goto (tgt := 23) hx hb dX6_findHouse_142 (by decide) ?_
          exact ih (aa + 1) (vp_updL hou (((44 * h) + (2 * ss)) + aa) n_7) _ _ _ (by omega) (by omega) hP hD hS (lv_sub hl [0, 2, 3, 4] rfl) kk0
      · skip
        refine lv_iload_n hx hb dX6_findHouse_31 rfl (lv_at hl 0 rfl) ?_
        refine lv_iconst (v := 1) hx hb dX6_findHouse_32 (by decide) ?_
        refine lv_icmp_ne (tgt := 40) hx hb dX6_findHouse_33 (by decide) (fun c33_12 => ?_) (fun c33_12 => ?_)
        · skip
          have nc33_12 : ¬ (aa = 1) := fun z9 => c33_12 ((nI_eq (a := aa) (b := 1) (by omega) (by omega)).mpr z9)
          refine lv_iconst (v := 0) hx hb dX6_findHouse_40 (by decide) ?_
          exact hJ_2 false ls (lv_sub hl [0, 1, 2, 3] rfl) (by first | assumption | (simp [c33_12]; done) | ((try first | rw [if_pos c33_12] | rw [if_neg c33_12]); first | done | rfl | trivial) | (simp_all; done))
        · skip
          have nc33_12 : aa = 1 := (nI_eq (a := aa) (b := 1) (by omega) (by omega)).mp c33_12
          refine lv_iconst (v := 1) hx hb dX6_findHouse_36 (by decide) ?_
          refine lv_goto (tgt := 41) hx hb dX6_findHouse_37 (by decide) ?_
          exact hJ_2 true ls (lv_sub hl [0, 1, 2, 3] rfl) (by first | assumption | (simp [c33_12]; done) | ((try first | rw [if_pos c33_12] | rw [if_neg c33_12]); first | done | rfl | trivial) | (simp_all; done))


set_option maxHeartbeats 400000 in
set_option maxRecDepth 100000 in
theorem lpFH2 {p : Program} {l : Launch} {e : Env} {R : Room} {s : State} {m : MethodId} {args : Array Value} {below : List Frame} {meth : Method} {c : Code} {Q : State → Prop} {D : va_G} {cI cJ cQ : ClassId} {A : Nat → Prop} {cells slots : Nat} (hx : p.tables.exec = Jvm.exec) (hb : c.code = cX6_findHouse) (hml : c.maxLocals = 8) (hown : s.vm.findClass RX6 = some m.cls) (hts : ∀ w ∈ wsX6_findHouse, w.before args s = true) (hK : va_K D vwCl (gTy cI cJ cQ) s) (hA : ∀ q : Nat, s.heap.size ≤ q → A q) (m0 : Nat) (ms : Nat) (mf : Nat) (mw : Nat) (mk : Nat) (mtold : Bool) (mh : Nat) (hn : Nat) (mup : Int32) (tg : Nat) (stan : Int32) (soft : Int32) (doub : Int32) (spli : Int32) (giv : Int32) (bon : Int32) (drw : Int64) (mbank : Int32) (q0 : Nat) (q1 : Nat) (q2 : Nat) (hp : Nat) (q3 : Nat) (q4 : Nat) (q5 : Nat) (q6 : Nat) (q7 : Nat) (msum : Int32) (hasA : Bool) (mcards : Int32) (mpair : Int32) (sh : Nat) (want : Int32) (mwin : Int32) (isCh : Bool) (mbest : Int32) (k0 : Nat) (k1 : Nat) (k2 : Nat) (k3 : Nat) (capr : Nat → Int32) (cap : Nat → Nat) (stp : Nat → Nat) (siz : Nat → Nat) (pts : Nat → Nat) (ords : Nat → Int64) (h : Nat) (hRf : 4 ≤ R.frames) (hRl : 91 ≤ R.locals) (hRc : cells ≤ R.cells) (hRs : slots ≤ R.slots) (hcp : ∀ j, 1 ≤ j → j ≤ 10 → capr j = nI (cap j)) (hL : LaidP cap stp hp siz pts) (hsh : sh ≤ 10) (htg : tg ≤ 21) (hst : stan.toInt ≤ 21) (hlt : h < hp) : ∀ (n9 : Nat) (ss : Nat) (hou : Nat → Int64) (H : Heap) (locs : List Loc) (ls : Array Slot), 22 - ss < n9 → (ss ≤ 22) → va_P D vwCl [(m0, .inr (6, [.ref ms, .ref mf, .ref mw, .ref mk, .int (bI mtold), .ref mh, .int (nI hn), .int mup, .int (nI tg), .int stan, .int soft, .int doub, .int spli, .int giv, .int bon, .long drw, .int mbank, .ref q0, .ref q1, .ref q2, .int (nI hp), .ref q3, .ref q4, .ref q5, .ref q6, .ref q7, .int msum, .int (bI hasA), .int mcards, .int mpair, .int (nI sh), .int want, .int mwin, .int (bI isCh), .int mbest, .ref k0, .ref k1, .ref k2, .ref k3])), (q0, .inl (cJ, 13, .inr (.inl ords))), (q1, .inl (cI, 11, .inl capr)), (q2, .inl (cI, 11, .inl (nA stp))), (q3, .inl (cI, 2400, .inl (nA siz))), (q4, .inl (cI, 2400, .inl (nA pts))), (q5, .inl (cJ, 105600, .inr (.inl hou)))] H → va_D A [(m0, .inr (6, [.ref ms, .ref mf, .ref mw, .ref mk, .int (bI mtold), .ref mh, .int (nI hn), .int mup, .int (nI tg), .int stan, .int soft, .int doub, .int spli, .int giv, .int bon, .long drw, .int mbank, .ref q0, .ref q1, .ref q2, .int (nI hp), .ref q3, .ref q4, .ref q5, .ref q6, .ref q7, .int msum, .int (bI hasA), .int mcards, .int mpair, .int (nI sh), .int want, .int mwin, .int (bI isCh), .int mbest, .ref k0, .ref k1, .ref k2, .ref k3])), (q0, .inl (cJ, 13, .inr (.inl ords))), (q1, .inl (cI, 11, .inl capr)), (q2, .inl (cI, 11, .inl (nA stp))), (q3, .inl (cI, 2400, .inl (nA siz))), (q4, .inl (cI, 2400, .inl (nA pts))), (q5, .inl (cJ, 105600, .inr (.inl hou)))] → va_S A s.heap H locs → lv_has ls 8 [(2, .int (nI ss)), (1, .int (nI h)), (0, .ref m0)] → (∀ (hou : Nat → Int64) (H : Heap) (locs : List Loc) (ls : Array Slot), va_P D vwCl [(m0, .inr (6, [.ref ms, .ref mf, .ref mw, .ref mk, .int (bI mtold), .ref mh, .int (nI hn), .int mup, .int (nI tg), .int stan, .int soft, .int doub, .int spli, .int giv, .int bon, .long drw, .int mbank, .ref q0, .ref q1, .ref q2, .int (nI hp), .ref q3, .ref q4, .ref q5, .ref q6, .ref q7, .int msum, .int (bI hasA), .int mcards, .int mpair, .int (nI sh), .int want, .int mwin, .int (bI isCh), .int mbest, .ref k0, .ref k1, .ref k2, .ref k3])), (q0, .inl (cJ, 13, .inr (.inl ords))), (q1, .inl (cI, 11, .inl capr)), (q2, .inl (cI, 11, .inl (nA stp))), (q3, .inl (cI, 2400, .inl (nA siz))), (q4, .inl (cI, 2400, .inl (nA pts))), (q5, .inl (cJ, 105600, .inr (.inl hou)))] H → va_D A [(m0, .inr (6, [.ref ms, .ref mf, .ref mw, .ref mk, .int (bI mtold), .ref mh, .int (nI hn), .int mup, .int (nI tg), .int stan, .int soft, .int doub, .int spli, .int giv, .int bon, .long drw, .int mbank, .ref q0, .ref q1, .ref q2, .int (nI hp), .ref q3, .ref q4, .ref q5, .ref q6, .ref q7, .int msum, .int (bI hasA), .int mcards, .int mpair, .int (nI sh), .int want, .int mwin, .int (bI isCh), .int mbest, .ref k0, .ref k1, .ref k2, .ref k3])), (q0, .inl (cJ, 13, .inr (.inl ords))), (q1, .inl (cI, 11, .inl capr)), (q2, .inl (cI, 11, .inl (nA stp))), (q3, .inl (cI, 2400, .inl (nA siz))), (q4, .inl (cI, 2400, .inl (nA pts))), (q5, .inl (cJ, 105600, .inr (.inl hou)))] → va_S A s.heap H locs → lv_has ls 8 [(1, .int (nI h)), (0, .ref m0)] → W p l e R s m args below meth c H locs cells slots Q (F0 m 151 ls [])) → W p l e R s m args below meth c H locs cells slots Q (F0 m 15 ls []) := by
  intro n9
  induction n9 with
  | zero => intro ss hou H locs ls hms9; exact absurd hms9 (Nat.not_lt_zero _)
  | succ n9 ih =>
    intro ss hou H locs ls hms9 s22 hP hD hS hl kk0
    refine lv_iload_n hx hb dX6_findHouse_15 rfl (lv_at hl 0 rfl) ?_
    refine lv_bipush (v := 22) hx hb dX6_findHouse_16 (by decide) ?_
    refine lv_icmp_ge (tgt := 151) hx hb dX6_findHouse_18 (by decide) (fun c18_1 => ?_) (fun c18_1 => ?_)
    · skip
      have nc18_1 : 22 ≤ ss := (nI_leI (a := 22) (b := ss) (by omega) (by omega)).mp c18_1
      exact kk0 hou _ _ _ hP hD hS (lv_sub hl [1, 2] rfl)
    · skip
      have nc18_1 : ¬ (22 ≤ ss) := fun z9 => c18_1 ((nI_leI (a := 22) (b := ss) (by omega) (by omega)).mpr z9)
      refine lv_iconst (v := 0) hx hb dX6_findHouse_21 (by decide) ?_
      refine lv_istore_n (lv' := [(3, .int 0), (2, .int (nI ss)), (1, .int (nI h)), (0, .ref m0)]) hx hb dX6_findHouse_22 rfl hl (by decide) rfl (fun ls hl => ?_)
      refine lpFH3 hx hb hml hown hts hK hA m0 ms mf mw mk mtold mh hn mup tg stan soft doub spli giv bon drw mbank q0 q1 q2 hp q3 q4 q5 q6 q7 msum hasA mcards mpair sh want mwin isCh mbest k0 k1 k2 k3 capr cap stp siz pts ords h ss (Nat.le_trans (show 4 ≤ 4 by omega) hRf) (Nat.le_trans (show 91 ≤ 91 by omega) hRl) hRc hRs hcp hL hsh htg hst hlt (by omega) (2 - 0 + 1) 0 hou _ _ _ (Nat.lt_succ_self _) (by omega) hP hD hS (lv_sub hl [0, 1, 2, 3] rfl) (fun hou_2 H locs ls  hP hD hS hl => ?_)
      have hP : va_P D vwCl [(m0, .inr (6, [.ref ms, .ref mf, .ref mw, .ref mk, .int (bI mtold), .ref mh, .int (nI hn), .int mup, .int (nI tg), .int stan, .int soft, .int doub, .int spli, .int giv, .int bon, .long drw, .int mbank, .ref q0, .ref q1, .ref q2, .int (nI hp), .ref q3, .ref q4, .ref q5, .ref q6, .ref q7, .int msum, .int (bI hasA), .int mcards, .int mpair, .int (nI sh), .int want, .int mwin, .int (bI isCh), .int mbest, .ref k0, .ref k1, .ref k2, .ref k3])), (q0, .inl (cJ, 13, .inr (.inl ords))), (q1, .inl (cI, 11, .inl capr)), (q2, .inl (cI, 11, .inl (nA stp))), (q3, .inl (cI, 2400, .inl (nA siz))), (q4, .inl (cI, 2400, .inl (nA pts))), (q5, .inl (cJ, 105600, .inr (.inl hou_2)))] H := hP
      have hD : va_D A [(m0, .inr (6, [.ref ms, .ref mf, .ref mw, .ref mk, .int (bI mtold), .ref mh, .int (nI hn), .int mup, .int (nI tg), .int stan, .int soft, .int doub, .int spli, .int giv, .int bon, .long drw, .int mbank, .ref q0, .ref q1, .ref q2, .int (nI hp), .ref q3, .ref q4, .ref q5, .ref q6, .ref q7, .int msum, .int (bI hasA), .int mcards, .int mpair, .int (nI sh), .int want, .int mwin, .int (bI isCh), .int mbest, .ref k0, .ref k1, .ref k2, .ref k3])), (q0, .inl (cJ, 13, .inr (.inl ords))), (q1, .inl (cI, 11, .inl capr)), (q2, .inl (cI, 11, .inl (nA stp))), (q3, .inl (cI, 2400, .inl (nA siz))), (q4, .inl (cI, 2400, .inl (nA pts))), (q5, .inl (cJ, 105600, .inr (.inl hou_2)))] := hD
      refine lv_iinc (v := (nI (ss + 1))) (lv' := [(2, .int (nI (ss + 1))), (1, .int (nI h)), (0, .ref m0)]) hx hb dX6_findHouse_145 hl (k := 0) rfl (nI_incT (by decide)) (by decide) rfl (fun ls hl => ?_)
      refine lv_goto (tgt := 15) hx hb dX6_findHouse_148 (by decide) ?_
      exact ih (ss + 1) hou_2 _ _ _ (by omega) (by omega) hP hD hS (lv_sub hl [0, 1, 2] rfl) kk0

set_option maxRecDepth 20000 in
theorem wd_X6_findHouse_2 : Cond.fieldLink RX6 170 "ShoeTableModel" "heaps" "I" ∈ wsX6_findHouse := by decide +kernel
set_option maxRecDepth 20000 in
theorem wd_X6_findHouse_3 : Cond.fieldLink RX6 193 "ShoeTableModel" "shown" "I" ∈ wsX6_findHouse := by decide +kernel
set_option maxHeartbeats 400000 in
set_option maxRecDepth 100000 in
theorem lpFH1 {p : Program} {l : Launch} {e : Env} {R : Room} {s : State} {m : MethodId} {args : Array Value} {below : List Frame} {meth : Method} {c : Code} {Q : State → Prop} {D : va_G} {cI cJ cQ : ClassId} {A : Nat → Prop} {cells slots : Nat} (hx : p.tables.exec = Jvm.exec) (hb : c.code = cX6_findHouse) (hml : c.maxLocals = 8) (hown : s.vm.findClass RX6 = some m.cls) (hts : ∀ w ∈ wsX6_findHouse, w.before args s = true) (hK : va_K D vwCl (gTy cI cJ cQ) s) (hA : ∀ q : Nat, s.heap.size ≤ q → A q) (m0 : Nat) (ms : Nat) (mf : Nat) (mw : Nat) (mk : Nat) (mtold : Bool) (mh : Nat) (hn : Nat) (mup : Int32) (tg : Nat) (stan : Int32) (soft : Int32) (doub : Int32) (spli : Int32) (giv : Int32) (bon : Int32) (drw : Int64) (mbank : Int32) (q0 : Nat) (q1 : Nat) (q2 : Nat) (hp : Nat) (q3 : Nat) (q4 : Nat) (q5 : Nat) (q6 : Nat) (q7 : Nat) (msum : Int32) (hasA : Bool) (mcards : Int32) (mpair : Int32) (sh : Nat) (want : Int32) (mwin : Int32) (isCh : Bool) (mbest : Int32) (k0 : Nat) (k1 : Nat) (k2 : Nat) (k3 : Nat) (capr : Nat → Int32) (cap : Nat → Nat) (stp : Nat → Nat) (siz : Nat → Nat) (pts : Nat → Nat) (ords : Nat → Int64) (hRf : 4 ≤ R.frames) (hRl : 91 ≤ R.locals) (hRc : cells ≤ R.cells) (hRs : slots ≤ R.slots) (hcp : ∀ j, 1 ≤ j → j ≤ 10 → capr j = nI (cap j)) (hL : LaidP cap stp hp siz pts) (hsh : sh ≤ 10) (htg : tg ≤ 21) (hst : stan.toInt ≤ 21) : ∀ (n9 : Nat) (h : Nat) (hou : Nat → Int64) (H : Heap) (locs : List Loc) (ls : Array Slot), hp - h < n9 → (h ≤ 2400) → va_P D vwCl [(m0, .inr (6, [.ref ms, .ref mf, .ref mw, .ref mk, .int (bI mtold), .ref mh, .int (nI hn), .int mup, .int (nI tg), .int stan, .int soft, .int doub, .int spli, .int giv, .int bon, .long drw, .int mbank, .ref q0, .ref q1, .ref q2, .int (nI hp), .ref q3, .ref q4, .ref q5, .ref q6, .ref q7, .int msum, .int (bI hasA), .int mcards, .int mpair, .int (nI sh), .int want, .int mwin, .int (bI isCh), .int mbest, .ref k0, .ref k1, .ref k2, .ref k3])), (q0, .inl (cJ, 13, .inr (.inl ords))), (q1, .inl (cI, 11, .inl capr)), (q2, .inl (cI, 11, .inl (nA stp))), (q3, .inl (cI, 2400, .inl (nA siz))), (q4, .inl (cI, 2400, .inl (nA pts))), (q5, .inl (cJ, 105600, .inr (.inl hou)))] H → va_D A [(m0, .inr (6, [.ref ms, .ref mf, .ref mw, .ref mk, .int (bI mtold), .ref mh, .int (nI hn), .int mup, .int (nI tg), .int stan, .int soft, .int doub, .int spli, .int giv, .int bon, .long drw, .int mbank, .ref q0, .ref q1, .ref q2, .int (nI hp), .ref q3, .ref q4, .ref q5, .ref q6, .ref q7, .int msum, .int (bI hasA), .int mcards, .int mpair, .int (nI sh), .int want, .int mwin, .int (bI isCh), .int mbest, .ref k0, .ref k1, .ref k2, .ref k3])), (q0, .inl (cJ, 13, .inr (.inl ords))), (q1, .inl (cI, 11, .inl capr)), (q2, .inl (cI, 11, .inl (nA stp))), (q3, .inl (cI, 2400, .inl (nA siz))), (q4, .inl (cI, 2400, .inl (nA pts))), (q5, .inl (cJ, 105600, .inr (.inl hou)))] → va_S A s.heap H locs → lv_has ls 8 [(1, .int (nI h)), (0, .ref m0)] → (∀ (hou : Nat → Int64) (H : Heap) (locs : List Loc) (ls : Array Slot), va_P D vwCl [(m0, .inr (6, [.ref ms, .ref mf, .ref mw, .ref mk, .int (bI mtold), .ref mh, .int (nI hn), .int mup, .int (nI tg), .int stan, .int soft, .int doub, .int spli, .int giv, .int bon, .long drw, .int mbank, .ref q0, .ref q1, .ref q2, .int (nI hp), .ref q3, .ref q4, .ref q5, .ref q6, .ref q7, .int msum, .int (bI hasA), .int mcards, .int mpair, .int (nI sh), .int want, .int mwin, .int (bI isCh), .int mbest, .ref k0, .ref k1, .ref k2, .ref k3])), (q0, .inl (cJ, 13, .inr (.inl ords))), (q1, .inl (cI, 11, .inl capr)), (q2, .inl (cI, 11, .inl (nA stp))), (q3, .inl (cI, 2400, .inl (nA siz))), (q4, .inl (cI, 2400, .inl (nA pts))), (q5, .inl (cJ, 105600, .inr (.inl hou)))] H → va_D A [(m0, .inr (6, [.ref ms, .ref mf, .ref mw, .ref mk, .int (bI mtold), .ref mh, .int (nI hn), .int mup, .int (nI tg), .int stan, .int soft, .int doub, .int spli, .int giv, .int bon, .long drw, .int mbank, .ref q0, .ref q1, .ref q2, .int (nI hp), .ref q3, .ref q4, .ref q5, .ref q6, .ref q7, .int msum, .int (bI hasA), .int mcards, .int mpair, .int (nI sh), .int want, .int mwin, .int (bI isCh), .int mbest, .ref k0, .ref k1, .ref k2, .ref k3])), (q0, .inl (cJ, 13, .inr (.inl ords))), (q1, .inl (cI, 11, .inl capr)), (q2, .inl (cI, 11, .inl (nA stp))), (q3, .inl (cI, 2400, .inl (nA siz))), (q4, .inl (cI, 2400, .inl (nA pts))), (q5, .inl (cJ, 105600, .inr (.inl hou)))] → va_S A s.heap H locs → lv_has ls 8 [(0, .ref m0)] → W p l e R s m args below meth c H locs cells slots Q (F0 m 157 ls [])) → W p l e R s m args below meth c H locs cells slots Q (F0 m 2 ls []) := by
  intro n9
  induction n9 with
  | zero => intro h hou H locs ls hms9; exact absurd hms9 (Nat.not_lt_zero _)
  | succ n9 ih =>
    intro h hou H locs ls hms9 h1 hP hD hS hl kk0
    have hpb := hL.hp
    refine lv_iload_n hx hb dX6_findHouse_2 rfl (lv_at hl 0 rfl) ?_
    refine lv_aload_n hx hb dX6_findHouse_3 rfl (lv_at hl 1 rfl) ?_
    refine va_get (D := D) (ci := 6) (v := .int (nI hp)) (C := RX6) (T := TX6) (N := 39) hx hb hts in_X6_findHouse_X6 hown hK hP 0 rfl rfl 20 (by decide) (hts _ wd_X6_findHouse_2) (fun _ h9 => h9) rfl dX6_findHouse_4 ?_
    refine lv_icmp_ge (tgt := 157) hx hb dX6_findHouse_7 (by decide) (fun c7_1 => ?_) (fun c7_1 => ?_)
    · skip
      have nc7_1 : hp ≤ h := (nI_leI (a := hp) (b := h) (by omega) (by omega)).mp c7_1
      exact kk0 hou _ _ _ hP hD hS (lv_sub hl [1] rfl)
    · skip
      have nc7_1 : ¬ (hp ≤ h) := fun z9 => c7_1 ((nI_leI (a := hp) (b := h) (by omega) (by omega)).mpr z9)
      refine lv_aload_n hx hb dX6_findHouse_10 rfl (lv_at hl 1 rfl) ?_
      refine va_get (D := D) (ci := 6) (v := .int (nI sh)) (C := RX6) (T := TX6) (N := 39) hx hb hts in_X6_findHouse_X6 hown hK hP 0 rfl rfl 30 (by decide) (hts _ wd_X6_findHouse_3) (fun _ h9 => h9) rfl dX6_findHouse_11 ?_
      refine lv_istore_n (lv' := [(2, .int (nI sh)), (1, .int (nI h)), (0, .ref m0)]) hx hb dX6_findHouse_14 rfl hl (by decide) rfl (fun ls hl => ?_)
      refine lpFH2 hx hb hml hown hts hK hA m0 ms mf mw mk mtold mh hn mup tg stan soft doub spli giv bon drw mbank q0 q1 q2 hp q3 q4 q5 q6 q7 msum hasA mcards mpair sh want mwin isCh mbest k0 k1 k2 k3 capr cap stp siz pts ords h (Nat.le_trans (show 4 ≤ 4 by omega) hRf) (Nat.le_trans (show 91 ≤ 91 by omega) hRl) hRc hRs hcp hL hsh htg hst (by omega) (22 - sh + 1) sh hou _ _ _ (Nat.lt_succ_self _) (by omega) hP hD hS (lv_sub hl [0, 1, 2] rfl) (fun hou_2 H locs ls  hP hD hS hl => ?_)
      have hP : va_P D vwCl [(m0, .inr (6, [.ref ms, .ref mf, .ref mw, .ref mk, .int (bI mtold), .ref mh, .int (nI hn), .int mup, .int (nI tg), .int stan, .int soft, .int doub, .int spli, .int giv, .int bon, .long drw, .int mbank, .ref q0, .ref q1, .ref q2, .int (nI hp), .ref q3, .ref q4, .ref q5, .ref q6, .ref q7, .int msum, .int (bI hasA), .int mcards, .int mpair, .int (nI sh), .int want, .int mwin, .int (bI isCh), .int mbest, .ref k0, .ref k1, .ref k2, .ref k3])), (q0, .inl (cJ, 13, .inr (.inl ords))), (q1, .inl (cI, 11, .inl capr)), (q2, .inl (cI, 11, .inl (nA stp))), (q3, .inl (cI, 2400, .inl (nA siz))), (q4, .inl (cI, 2400, .inl (nA pts))), (q5, .inl (cJ, 105600, .inr (.inl hou_2)))] H := hP
      have hD : va_D A [(m0, .inr (6, [.ref ms, .ref mf, .ref mw, .ref mk, .int (bI mtold), .ref mh, .int (nI hn), .int mup, .int (nI tg), .int stan, .int soft, .int doub, .int spli, .int giv, .int bon, .long drw, .int mbank, .ref q0, .ref q1, .ref q2, .int (nI hp), .ref q3, .ref q4, .ref q5, .ref q6, .ref q7, .int msum, .int (bI hasA), .int mcards, .int mpair, .int (nI sh), .int want, .int mwin, .int (bI isCh), .int mbest, .ref k0, .ref k1, .ref k2, .ref k3])), (q0, .inl (cJ, 13, .inr (.inl ords))), (q1, .inl (cI, 11, .inl capr)), (q2, .inl (cI, 11, .inl (nA stp))), (q3, .inl (cI, 2400, .inl (nA siz))), (q4, .inl (cI, 2400, .inl (nA pts))), (q5, .inl (cJ, 105600, .inr (.inl hou_2)))] := hD
      refine lv_iinc (v := (nI (h + 1))) (lv' := [(1, .int (nI (h + 1))), (0, .ref m0)]) hx hb dX6_findHouse_151 hl (k := 0) rfl (nI_incT (by decide)) (by decide) rfl (fun ls hl => ?_)
      refine lv_goto (tgt := 2) hx hb dX6_findHouse_154 (by decide) ?_
      exact ih (h + 1) hou_2 _ _ _ (by omega) (by omega) hP hD hS (lv_sub hl [0, 1] rfl) kk0

set_option maxHeartbeats 400000 in
set_option maxRecDepth 100000 in
/-- X6_findHouse -/
theorem c_X6_findHouse (l : Launch) (D : va_G) (cI cJ cQ : ClassId) (sz : Nat) (m0 : Nat) (ms : Nat) (mf : Nat) (mw : Nat) (mk : Nat) (mtold : Bool) (mh : Nat) (hn : Nat) (mup : Int32) (tg : Nat) (stan : Int32) (soft : Int32) (doub : Int32) (spli : Int32) (giv : Int32) (bon : Int32) (drw : Int64) (mbank : Int32) (q0 : Nat) (q1 : Nat) (q2 : Nat) (hp : Nat) (q3 : Nat) (q4 : Nat) (q5 : Nat) (q6 : Nat) (q7 : Nat) (msum : Int32) (hasA : Bool) (mcards : Int32) (mpair : Int32) (sh : Nat) (want : Int32) (mwin : Int32) (isCh : Bool) (mbest : Int32) (k0 : Nat) (k1 : Nat) (k2 : Nat) (k3 : Nat) (capr : Nat → Int32) (cap : Nat → Nat) (stp : Nat → Nat) (siz : Nat → Nat) (pts : Nat → Nat) (ords : Nat → Int64) (hou : Nat → Int64) (hcp : ∀ j, 1 ≤ j → j ≤ 10 → capr j = nI (cap j)) (hL : LaidP cap stp hp siz pts) (hsh : sh ≤ 10) (htg : tg ≤ 21) (hst : stan.toInt ≤ 21) : Met l yX6_findHouse wsX6_findHouse ({ frames := 4, cells := 0, slots := 0, locals := 91 }) (va_Pc [.ref m0] (mP D (gTy cI cJ cQ) [(m0, .inr (6, [.ref ms, .ref mf, .ref mw, .ref mk, .int (bI mtold), .ref mh, .int (nI hn), .int mup, .int (nI tg), .int stan, .int soft, .int doub, .int spli, .int giv, .int bon, .long drw, .int mbank, .ref q0, .ref q1, .ref q2, .int (nI hp), .ref q3, .ref q4, .ref q5, .ref q6, .ref q7, .int msum, .int (bI hasA), .int mcards, .int mpair, .int (nI sh), .int want, .int mwin, .int (bI isCh), .int mbest, .ref k0, .ref k1, .ref k2, .ref k3])), (q0, .inl (cJ, 13, .inr (.inl ords))), (q1, .inl (cI, 11, .inl capr)), (q2, .inl (cI, 11, .inl (nA stp))), (q3, .inl (cI, 2400, .inl (nA siz))), (q4, .inl (cI, 2400, .inl (nA pts))), (q5, .inl (cJ, 105600, .inr (.inl hou)))] sz)) (va_Qv (fun (u : (Nat → Int64)) => match u with | hou2 => True) (fun (u : (Nat → Int64)) t => match u with | hou2 => mB D (gTy cI cJ cQ) (va_A [(m0, .inr (6, [.ref ms, .ref mf, .ref mw, .ref mk, .int (bI mtold), .ref mh, .int (nI hn), .int mup, .int (nI tg), .int stan, .int soft, .int doub, .int spli, .int giv, .int bon, .long drw, .int mbank, .ref q0, .ref q1, .ref q2, .int (nI hp), .ref q3, .ref q4, .ref q5, .ref q6, .ref q7, .int msum, .int (bI hasA), .int mcards, .int mpair, .int (nI sh), .int want, .int mwin, .int (bI isCh), .int mbest, .ref k0, .ref k1, .ref k2, .ref k3])), (q0, .inl (cJ, 13, .inr (.inl ords))), (q1, .inl (cI, 11, .inl capr)), (q2, .inl (cI, 11, .inl (nA stp))), (q3, .inl (cI, 2400, .inl (nA siz))), (q4, .inl (cI, 2400, .inl (nA pts))), (q5, .inl (cJ, 105600, .inr (.inl hou)))] sz) [(m0, .inr (6, [.ref ms, .ref mf, .ref mw, .ref mk, .int (bI mtold), .ref mh, .int (nI hn), .int mup, .int (nI tg), .int stan, .int soft, .int doub, .int spli, .int giv, .int bon, .long drw, .int mbank, .ref q0, .ref q1, .ref q2, .int (nI hp), .ref q3, .ref q4, .ref q5, .ref q6, .ref q7, .int msum, .int (bI hasA), .int mcards, .int mpair, .int (nI sh), .int want, .int mwin, .int (bI isCh), .int mbest, .ref k0, .ref k1, .ref k2, .ref k3])), (q0, .inl (cJ, 13, .inr (.inl ords))), (q1, .inl (cI, 11, .inl capr)), (q2, .inl (cI, 11, .inl (nA stp))), (q3, .inl (cI, 2400, .inl (nA siz))), (q4, .inl (cI, 2400, .inl (nA pts))), (q5, .inl (cJ, 105600, .inr (.inl hou2)))] t) (va_A [(m0, .inr (6, [.ref ms, .ref mf, .ref mw, .ref mk, .int (bI mtold), .ref mh, .int (nI hn), .int mup, .int (nI tg), .int stan, .int soft, .int doub, .int spli, .int giv, .int bon, .long drw, .int mbank, .ref q0, .ref q1, .ref q2, .int (nI hp), .ref q3, .ref q4, .ref q5, .ref q6, .ref q7, .int msum, .int (bI hasA), .int mcards, .int mpair, .int (nI sh), .int want, .int mwin, .int (bI isCh), .int mbest, .ref k0, .ref k1, .ref k2, .ref k3])), (q0, .inl (cJ, 13, .inr (.inl ords))), (q1, .inl (cI, 11, .inl capr)), (q2, .inl (cI, 11, .inl (nA stp))), (q3, .inl (cI, 2400, .inl (nA siz))), (q4, .inl (cI, 2400, .inl (nA pts))), (q5, .inl (cJ, 105600, .inr (.inl hou)))] sz)) 0 0 (va_A [(m0, .inr (6, [.ref ms, .ref mf, .ref mw, .ref mk, .int (bI mtold), .ref mh, .int (nI hn), .int mup, .int (nI tg), .int stan, .int soft, .int doub, .int spli, .int giv, .int bon, .long drw, .int mbank, .ref q0, .ref q1, .ref q2, .int (nI hp), .ref q3, .ref q4, .ref q5, .ref q6, .ref q7, .int msum, .int (bI hasA), .int mcards, .int mpair, .int (nI sh), .int want, .int mwin, .int (bI isCh), .int mbest, .ref k0, .ref k1, .ref k2, .ref k3])), (q0, .inl (cJ, 13, .inr (.inl ords))), (q1, .inl (cI, 11, .inl capr)), (q2, .inl (cI, 11, .inl (nA stp))), (q3, .inl (cI, 2400, .inl (nA siz))), (q4, .inl (cI, 2400, .inl (nA pts))), (q5, .inl (cJ, 105600, .inr (.inl hou)))] sz) := by
  refine Met.ofW (cc := cX6_findHouse) (maxL := 8) (ret := none) (by decide) rfl ?_
  intro p e s m args below meth c s₁ B hml hv
  obtain ⟨rfl, hsz, hP, hK, hD0⟩ := hv
  have hx := B.exec
  have hb := B.bytes
  have hr := B.returns
  have hts := atoms_spec (ws := wsX6_findHouse) B.pre
  have hown : s.vm.findClass RX6 = some m.cls := findClass_of_methodNamed B.named
  have hlocks := B.notSynchronized
  subst hsz
  have hD := hD0.self (sz := s.heap.size)
  generalize hAe : va_A [(m0, .inr (6, [.ref ms, .ref mf, .ref mw, .ref mk, .int (bI mtold), .ref mh, .int (nI hn), .int mup, .int (nI tg), .int stan, .int soft, .int doub, .int spli, .int giv, .int bon, .long drw, .int mbank, .ref q0, .ref q1, .ref q2, .int (nI hp), .ref q3, .ref q4, .ref q5, .ref q6, .ref q7, .int msum, .int (bI hasA), .int mcards, .int mpair, .int (nI sh), .int want, .int mwin, .int (bI isCh), .int mbest, .ref k0, .ref k1, .ref k2, .ref k3])), (q0, .inl (cJ, 13, .inr (.inl ords))), (q1, .inl (cI, 11, .inl capr)), (q2, .inl (cI, 11, .inl (nA stp))), (q3, .inl (cI, 2400, .inl (nA siz))), (q4, .inl (cI, 2400, .inl (nA pts))), (q5, .inl (cJ, 105600, .inr (.inl hou)))] s.heap.size = A at hD ⊢
  have hA : ∀ q : Nat, s.heap.size ≤ q → A q := fun q h => by rw [← hAe]; exact Or.inr h
  have hS : va_S A s.heap s.heap [] := va_S.rf
  have hP : va_P D vwCl [(m0, .inr (6, [.ref ms, .ref mf, .ref mw, .ref mk, .int (bI mtold), .ref mh, .int (nI hn), .int mup, .int (nI tg), .int stan, .int soft, .int doub, .int spli, .int giv, .int bon, .long drw, .int mbank, .ref q0, .ref q1, .ref q2, .int (nI hp), .ref q3, .ref q4, .ref q5, .ref q6, .ref q7, .int msum, .int (bI hasA), .int mcards, .int mpair, .int (nI sh), .int want, .int mwin, .int (bI isCh), .int mbest, .ref k0, .ref k1, .ref k2, .ref k3])), (q0, .inl (cJ, 13, .inr (.inl ords))), (q1, .inl (cI, 11, .inl capr)), (q2, .inl (cI, 11, .inl (nA stp))), (q3, .inl (cI, 2400, .inl (nA siz))), (q4, .inl (cI, 2400, .inl (nA pts))), (q5, .inl (cJ, 105600, .inr (.inl hou)))] s.heap := hP
  have hl := lv_entry ([.ref m0]) (n := 8) (Nat.le_of_ble_eq_true rfl)
  rw [lg_entry_eq]
  generalize (lg_sl ([.ref m0]) ++ List.replicate (8 - (lg_sl ([.ref m0])).length) Slot.unset).toArray = ls at hl ⊢
  have hl : lv_has ls 8 [(0, .ref m0)] := hl
  refine lv_iconst (v := 1) hx hb dX6_findHouse_0 (by decide) ?_
  refine lv_istore_n (lv' := [(1, .int 1), (0, .ref m0)]) hx hb dX6_findHouse_1 rfl hl (by decide) rfl (fun ls hl => ?_)
  refine lpFH1 hx hb hml hown hts hK hA m0 ms mf mw mk mtold mh hn mup tg stan soft doub spli giv bon drw mbank q0 q1 q2 hp q3 q4 q5 q6 q7 msum hasA mcards mpair sh want mwin isCh mbest k0 k1 k2 k3 capr cap stp siz pts ords (Nat.le_of_ble_eq_true rfl) (Nat.le_of_ble_eq_true rfl) (Nat.zero_le _) (Nat.zero_le _) hcp hL hsh htg hst (hp - 1 + 1) 1 hou _ _ _ (Nat.lt_succ_self _) (by omega) hP hD hS (lv_sub hl [0, 1] rfl) (fun hou_1 H locs ls  hP hD hS hl => ?_)
  have hP : va_P D vwCl [(m0, .inr (6, [.ref ms, .ref mf, .ref mw, .ref mk, .int (bI mtold), .ref mh, .int (nI hn), .int mup, .int (nI tg), .int stan, .int soft, .int doub, .int spli, .int giv, .int bon, .long drw, .int mbank, .ref q0, .ref q1, .ref q2, .int (nI hp), .ref q3, .ref q4, .ref q5, .ref q6, .ref q7, .int msum, .int (bI hasA), .int mcards, .int mpair, .int (nI sh), .int want, .int mwin, .int (bI isCh), .int mbest, .ref k0, .ref k1, .ref k2, .ref k3])), (q0, .inl (cJ, 13, .inr (.inl ords))), (q1, .inl (cI, 11, .inl capr)), (q2, .inl (cI, 11, .inl (nA stp))), (q3, .inl (cI, 2400, .inl (nA siz))), (q4, .inl (cI, 2400, .inl (nA pts))), (q5, .inl (cJ, 105600, .inr (.inl hou_1)))] H := hP
  have hD : va_D A [(m0, .inr (6, [.ref ms, .ref mf, .ref mw, .ref mk, .int (bI mtold), .ref mh, .int (nI hn), .int mup, .int (nI tg), .int stan, .int soft, .int doub, .int spli, .int giv, .int bon, .long drw, .int mbank, .ref q0, .ref q1, .ref q2, .int (nI hp), .ref q3, .ref q4, .ref q5, .ref q6, .ref q7, .int msum, .int (bI hasA), .int mcards, .int mpair, .int (nI sh), .int want, .int mwin, .int (bI isCh), .int mbest, .ref k0, .ref k1, .ref k2, .ref k3])), (q0, .inl (cJ, 13, .inr (.inl ords))), (q1, .inl (cI, 11, .inl capr)), (q2, .inl (cI, 11, .inl (nA stp))), (q3, .inl (cI, 2400, .inl (nA siz))), (q4, .inl (cI, 2400, .inl (nA pts))), (q5, .inl (cJ, 105600, .inr (.inl hou_1)))] := hD
  have hP9 := hP.sub (ws' := [(m0, .inr (6, [.ref ms, .ref mf, .ref mw, .ref mk, .int (bI mtold), .ref mh, .int (nI hn), .int mup, .int (nI tg), .int stan, .int soft, .int doub, .int spli, .int giv, .int bon, .long drw, .int mbank, .ref q0, .ref q1, .ref q2, .int (nI hp), .ref q3, .ref q4, .ref q5, .ref q6, .ref q7, .int msum, .int (bI hasA), .int mcards, .int mpair, .int (nI sh), .int want, .int mwin, .int (bI isCh), .int mbest, .ref k0, .ref k1, .ref k2, .ref k3])), (q0, .inl (cJ, 13, .inr (.inl ords))), (q1, .inl (cI, 11, .inl capr)), (q2, .inl (cI, 11, .inl (nA stp))), (q3, .inl (cI, 2400, .inl (nA siz))), (q4, .inl (cI, 2400, .inl (nA pts))), (q5, .inl (cJ, 105600, .inr (.inl hou_1)))]) [0, 1, 2, 3, 4, 5, 6] rfl
  have hD9 := hD.sub (ws' := [(m0, .inr (6, [.ref ms, .ref mf, .ref mw, .ref mk, .int (bI mtold), .ref mh, .int (nI hn), .int mup, .int (nI tg), .int stan, .int soft, .int doub, .int spli, .int giv, .int bon, .long drw, .int mbank, .ref q0, .ref q1, .ref q2, .int (nI hp), .ref q3, .ref q4, .ref q5, .ref q6, .ref q7, .int msum, .int (bI hasA), .int mcards, .int mpair, .int (nI sh), .int want, .int mwin, .int (bI isCh), .int mbest, .ref k0, .ref k1, .ref k2, .ref k3])), (q0, .inl (cJ, 13, .inr (.inl ords))), (q1, .inl (cI, 11, .inl capr)), (q2, .inl (cI, 11, .inl (nA stp))), (q3, .inl (cI, 2400, .inl (nA siz))), (q4, .inl (cI, 2400, .inl (nA pts))), (q5, .inl (cJ, 105600, .inr (.inl hou_1)))]) [0, 1, 2, 3, 4, 5, 6] (by decide) rfl
  exact W.vret hx hb hr (fun t ht hW => ⟨⟨(hou_1), rfl, trivial, by rw [ht]; exact hP9, va_K.moved hW.alike hK, hD9⟩, hS.F ht⟩) hS.2.2 dX6_findHouse_157

set_option maxRecDepth 20000 in
theorem in_X6_houseFor_X6 : ∀ w ∈ wsX60, w ∈ wsX6_houseFor := by decide +kernel
set_option maxRecDepth 20000 in
theorem wd_X6_houseFor_0 : Cond.fieldLink RX6 193 "ShoeTableModel" "shown" "I" ∈ wsX6_houseFor := by decide +kernel
set_option maxHeartbeats 400000 in
set_option maxRecDepth 100000 in
/-- X6_houseFor -/
theorem c_X6_houseFor (l : Launch) (D : va_G) (cI cJ cQ : ClassId) (m0 : Nat) (ms : Nat) (mf : Nat) (mw : Nat) (mk : Nat) (mtold : Bool) (mh : Nat) (hn : Nat) (mup : Int32) (tg : Nat) (stan : Int32) (soft : Int32) (doub : Int32) (spli : Int32) (giv : Int32) (bon : Int32) (drw : Int64) (mbank : Int32) (q0 : Nat) (q1 : Nat) (q2 : Nat) (hp : Nat) (q3 : Nat) (q4 : Nat) (q5 : Nat) (q6 : Nat) (q7 : Nat) (msum : Int32) (hasA : Bool) (mcards : Int32) (mpair : Int32) (sh : Nat) (want : Int32) (mwin : Int32) (isCh : Bool) (mbest : Int32) (k0 : Nat) (k1 : Nat) (k2 : Nat) (k3 : Nat) (capr : Nat → Int32) (cap : Nat → Nat) (stp : Nat → Nat) (siz : Nat → Nat) (pts : Nat → Nat) (ords : Nat → Int64) (hou : Nat → Int64) (h : Nat) (hh : h < 2400) (hz : siz h ≤ 12) (hsh : sh ≤ 10) (hst : stan.toInt ≤ 21) : Met l yX6_houseFor wsX6_houseFor ({ frames := 4, cells := 0, slots := 0, locals := 91 }) (va_Pc [.ref m0, .int (nI h)] (rP D (gTy cI cJ cQ) [(m0, .inr (6, [.ref ms, .ref mf, .ref mw, .ref mk, .int (bI mtold), .ref mh, .int (nI hn), .int mup, .int (nI tg), .int stan, .int soft, .int doub, .int spli, .int giv, .int bon, .long drw, .int mbank, .ref q0, .ref q1, .ref q2, .int (nI hp), .ref q3, .ref q4, .ref q5, .ref q6, .ref q7, .int msum, .int (bI hasA), .int mcards, .int mpair, .int (nI sh), .int want, .int mwin, .int (bI isCh), .int mbest, .ref k0, .ref k1, .ref k2, .ref k3])), (q3, .inl (cI, 2400, .inl (nA siz))), (q5, .inl (cJ, 105600, .inr (.inl hou))), (q0, .inl (cJ, 13, .inr (.inl ords)))])) (vp_Sl (fun r => r = haM ords hou siz (nI tg) stan soft isCh want mwin h sh (decide ((nI sh) = 1)))) 0 0 (fun _ => False) := by
  refine Met.ofW (cc := cX6_houseFor) (maxL := 2) (ret := (some .long)) (by decide) rfl ?_
  intro p e s m args below meth c s₁ B hml hv
  obtain ⟨rfl, hP, hK⟩ := hv
  have hx := B.exec
  have hb := B.bytes
  have hr := B.returns
  have hts := atoms_spec (ws := wsX6_houseFor) B.pre
  have hown : s.vm.findClass RX6 = some m.cls := findClass_of_methodNamed B.named
  have hlocks := B.notSynchronized
  have hl := lv_entry ([.ref m0, .int (nI h)]) (n := 2) (Nat.le_of_ble_eq_true rfl)
  rw [lg_entry_eq]
  generalize (lg_sl ([.ref m0, .int (nI h)]) ++ List.replicate (2 - (lg_sl ([.ref m0, .int (nI h)])).length) Slot.unset).toArray = ls at hl ⊢
  have hl : lv_has ls 2 [(0, .ref m0), (1, .int (nI h))] := hl
  refine lv_aload_n hx hb dX6_houseFor_0 rfl (lv_at hl 0 rfl) ?_
  refine lv_iload_n hx hb dX6_houseFor_1 rfl (lv_at hl 1 rfl) ?_
  refine lv_aload_n hx hb dX6_houseFor_2 rfl (lv_at hl 0 rfl) ?_
  refine va_get (D := D) (ci := 6) (v := .int (nI sh)) (C := RX6) (T := TX6) (N := 39) hx hb hts in_X6_houseFor_X6 hown hK hP 0 rfl rfl 30 (by decide) (hts _ wd_X6_houseFor_0) (fun _ h9 => h9) rfl dX6_houseFor_3 ?_
  refine lv_join (α := Bool) 19 2 (fun a9 => [(0, .ref m0), (1, .int (nI h))]) (fun a9 => [.int (bI a9), .int (nI sh), .int (nI h), .ref m0]) (fun a9 => a9 = (decide ((nI sh) = 1))) (fun a_3 ls hl hp_2 => ?_) (fun hJ_1 => ?_)
  · skip
    have hp_2 : a_3 = (decide ((nI sh) = 1)) := hp_2
    subst hp_2
    have hPc := hP.sub (ws' := [(m0, .inr (6, [.ref ms, .ref mf, .ref mw, .ref mk, .int (bI mtold), .ref mh, .int (nI hn), .int mup, .int (nI tg), .int stan, .int soft, .int doub, .int spli, .int giv, .int bon, .long drw, .int mbank, .ref q0, .ref q1, .ref q2, .int (nI hp), .ref q3, .ref q4, .ref q5, .ref q6, .ref q7, .int msum, .int (bI hasA), .int mcards, .int mpair, .int (nI sh), .int want, .int mwin, .int (bI isCh), .int mbest, .ref k0, .ref k1, .ref k2, .ref k3])), (q3, .inl (cI, 2400, .inl (nA siz))), (q5, .inl (cJ, 105600, .inr (.inl hou))), (q0, .inl (cJ, 13, .inr (.inl ords)))]) [0, 1, 2, 3] rfl
    refine vp_callSl (W.runV (As := [.int (nI h), .int (nI sh), .int (bI (decide ((nI sh) = 1)))]) (rest := []) ⟨hx, hb, hml, hown, hts⟩ (c_X6_houseAt l D cI cJ cQ m0 ms mf mw mk mtold mh hn mup (nI tg) stan soft doub spli giv bon drw mbank q0 q1 q2 (nI hp) q3 q4 q5 q6 q7 msum hasA mcards mpair (nI sh) want mwin isCh mbest k0 k1 k2 k3 (siz) (hou) (ords) h sh (decide ((nI sh) = 1)) hh hz (by omega) hst) (cwV 3 hts gX6_houseFor_X6_houseAt rfl rfl rfl (by decide +kernel) ⟨Nat.le_of_ble_eq_true rfl, Nat.le_of_ble_eq_true rfl⟩) (rP_preV (ci := 6) (q0 := 0) hPc hK rfl rfl) rfl rfl hl.1 rfl (lv_room (Nat.le_of_ble_eq_true rfl)) dX6_houseFor_19 ⟨Nat.le_of_ble_eq_true rfl, Nat.le_of_ble_eq_true rfl⟩) (fun r_4 hr_4 => ?_)
    subst hr_4
    exact W.lret (v := (haM (ords) (hou) (siz) (nI tg) stan soft isCh want mwin h sh (decide ((nI sh) = 1)))) hx hb hr (fun t ht hW => ⟨_, rfl, rfl, ht⟩) (fun q hq => absurd hq List.not_mem_nil) dX6_houseFor_22
  · skip
    refine lv_aload_n hx hb dX6_houseFor_6 rfl (lv_at hl 0 rfl) ?_
    refine va_get (D := D) (ci := 6) (v := .int (nI sh)) (C := RX6) (T := TX6) (N := 39) hx hb hts in_X6_houseFor_X6 hown hK hP 0 rfl rfl 30 (by decide) (hts _ wd_X6_houseFor_0) (fun _ h9 => h9) rfl dX6_houseFor_7 ?_
    refine lv_iconst (v := 1) hx hb dX6_houseFor_10 (by decide) ?_
    refine lv_icmp_ne (tgt := 18) hx hb dX6_houseFor_11 (by decide) (fun c11_5 => ?_) (fun c11_5 => ?_)
    · skip
      have nc11_5 : ¬ (sh = 1) := fun z9 => c11_5 ((nI_eq (a := sh) (b := 1) (by omega) (by omega)).mpr z9)
      refine lv_iconst (v := 0) hx hb dX6_houseFor_18 (by decide) ?_
      exact hJ_1 false ls (lv_sub hl [0, 1] rfl) (by first | assumption | (simp [c11_5]; done) | ((try first | rw [if_pos c11_5] | rw [if_neg c11_5]); first | done | rfl | trivial) | (simp_all; done))
    · skip
      have nc11_5 : sh = 1 := (nI_eq (a := sh) (b := 1) (by omega) (by omega)).mp c11_5
      refine lv_iconst (v := 1) hx hb dX6_houseFor_14 (by decide) ?_
      refine lv_goto (tgt := 19) hx hb dX6_houseFor_15 (by decide) ?_
      exact hJ_1 true ls (lv_sub hl [0, 1] rfl) (by first | assumption | (simp [c11_5]; done) | ((try first | rw [if_pos c11_5] | rw [if_neg c11_5]); first | done | rfl | trivial) | (simp_all; done))

set_option maxRecDepth 20000 in
theorem in_X6_valueAt_X6 : ∀ w ∈ wsX60, w ∈ wsX6_valueAt := by decide +kernel
set_option maxRecDepth 20000 in
theorem wd_X6_valueAt_0 : Cond.fieldLink RX6 200 "ShoeTableModel" "sum" "I" ∈ wsX6_valueAt := by decide +kernel
set_option maxRecDepth 20000 in
theorem wd_X6_valueAt_1 : Cond.fieldLink RX6 61 "ShoeTableModel" "points" "[I" ∈ wsX6_valueAt := by decide +kernel
set_option maxRecDepth 20000 in
theorem wd_X6_valueAt_2 : Cond.fieldLink RX6 170 "ShoeTableModel" "heaps" "I" ∈ wsX6_valueAt := by decide +kernel
set_option maxRecDepth 20000 in
theorem wd_X6_valueAt_3 : Cond.fieldLink RX6 203 "ShoeTableModel" "hasAce" "Z" ∈ wsX6_valueAt := by decide +kernel
set_option maxRecDepth 20000 in
theorem wd_X6_valueAt_4 : Cond.fieldLink RX6 52 "ShoeTableModel" "cap" "[I" ∈ wsX6_valueAt := by decide +kernel
set_option maxHeartbeats 400000 in
set_option maxRecDepth 100000 in
/-- X6_valueAt -/
theorem c_X6_valueAt (l : Launch) (D : va_G) (cI cJ cQ : ClassId) (m0 : Nat) (ms : Nat) (mf : Nat) (mw : Nat) (mk : Nat) (mtold : Bool) (mh : Nat) (hn : Nat) (mup : Int32) (tg : Nat) (stan : Int32) (soft : Int32) (doub : Int32) (spli : Int32) (giv : Int32) (bon : Int32) (drw : Int64) (mbank : Int32) (q0 : Nat) (q1 : Nat) (q2 : Nat) (hp : Nat) (q3 : Nat) (q4 : Nat) (q5 : Nat) (q6 : Nat) (q7 : Nat) (msum : Int32) (hasA : Bool) (mcards : Int32) (mpair : Int32) (sh : Nat) (want : Int32) (mwin : Int32) (isCh : Bool) (mbest : Int32) (k0 : Nat) (k1 : Nat) (k2 : Nat) (k3 : Nat) (capr : Nat → Int32) (cap : Nat → Nat) (stp : Nat → Nat) (siz : Nat → Nat) (pts : Nat → Nat) (h : Nat) (hcp : ∀ j, 1 ≤ j → j ≤ 10 → capr j = nI (cap j)) (hL : LaidP cap stp hp siz pts) (hh : h < 2400) : Met l yX6_valueAt wsX6_valueAt ({ frames := 1, cells := 0, slots := 0, locals := 22 }) (va_Pc [.ref m0, .int (nI h)] (rP D (gTy cI cJ cQ) [(m0, .inr (6, [.ref ms, .ref mf, .ref mw, .ref mk, .int (bI mtold), .ref mh, .int (nI hn), .int mup, .int (nI tg), .int stan, .int soft, .int doub, .int spli, .int giv, .int bon, .long drw, .int mbank, .ref q0, .ref q1, .ref q2, .int (nI hp), .ref q3, .ref q4, .ref q5, .ref q6, .ref q7, .int msum, .int (bI hasA), .int mcards, .int mpair, .int (nI sh), .int want, .int mwin, .int (bI isCh), .int mbest, .ref k0, .ref k1, .ref k2, .ref k3])), (q1, .inl (cI, 11, .inl capr)), (q2, .inl (cI, 11, .inl (nA stp))), (q4, .inl (cI, 2400, .inl (nA pts)))])) (vp_Si (fun r => r = vaM (nI tg) msum pts hp h hasA (h / stp 1 % (cap 1 + 1)) (cap 1))) 0 0 (fun _ => False) := by
  refine Met.ofW (cc := cX6_valueAt) (maxL := 3) (ret := (some .int)) (by decide) rfl ?_
  intro p e s m args below meth c s₁ B hml hv
  obtain ⟨rfl, hP, hK⟩ := hv
  have hx := B.exec
  have hb := B.bytes
  have hr := B.returns
  have hts := atoms_spec (ws := wsX6_valueAt) B.pre
  have hown : s.vm.findClass RX6 = some m.cls := findClass_of_methodNamed B.named
  have hlocks := B.notSynchronized
  have hl := lv_entry ([.ref m0, .int (nI h)]) (n := 3) (Nat.le_of_ble_eq_true rfl)
  rw [lg_entry_eq]
  generalize (lg_sl ([.ref m0, .int (nI h)]) ++ List.replicate (3 - (lg_sl ([.ref m0, .int (nI h)])).length) Slot.unset).toArray = ls at hl ⊢
  have hl : lv_has ls 3 [(0, .ref m0), (1, .int (nI h))] := hl
  refine lv_aload_n hx hb dX6_valueAt_0 rfl (lv_at hl 0 rfl) ?_
  refine va_get (D := D) (ci := 6) (v := .int msum) (C := RX6) (T := TX6) (N := 39) hx hb hts in_X6_valueAt_X6 hown hK hP 0 rfl rfl 26 (by decide) (hts _ wd_X6_valueAt_0) (fun _ h9 => h9) rfl dX6_valueAt_1 ?_
  have hpb := hL.hp
  obtain ⟨g1, g2, g3⟩ := hL.rk (r := 1) (by omega) (by omega)
  refine lv_aload_n hx hb dX6_valueAt_4 rfl (lv_at hl 0 rfl) ?_
  refine va_get (D := D) (ci := 6) (v := .ref q4) (C := RX6) (T := TX6) (N := 39) hx hb hts in_X6_valueAt_X6 hown hK hP 0 rfl rfl 22 (by decide) (hts _ wd_X6_valueAt_1) (fun _ h9 => h9) rfl dX6_valueAt_5 ?_
  refine lv_aload_n hx hb dX6_valueAt_8 rfl (lv_at hl 0 rfl) ?_
  refine va_get (D := D) (ci := 6) (v := .int (nI hp)) (C := RX6) (T := TX6) (N := 39) hx hb hts in_X6_valueAt_X6 hown hK hP 0 rfl rfl 20 (by decide) (hts _ wd_X6_valueAt_2) (fun _ h9 => h9) rfl dX6_valueAt_9 ?_
  refine lv_iconst (v := 1) hx hb dX6_valueAt_12 (by decide) ?_
  refine lv_isub hx hb dX6_valueAt_13 ?_
  refine lv_topi (fun z_1 ez_1 => ?_)
  obtain rfl : z_1 = nI (hp - 1) := ez_1.trans (nI_subT (a := hp) (b := 1) (by omega))
  refine va_iald hx hb hK hP 3 0 rfl rfl (vp_in_nI (by omega) (by decide)) dX6_valueAt_14 ?_
  refine lv_topi (fun z_2 ez_2 => ?_)
  obtain rfl : z_2 = (nI (pts (hp - 1))) := ez_2.trans (by rw [nI_clamp (by omega)]; rfl)
  refine lv_iadd hx hb dX6_valueAt_15 ?_
  refine lv_aload_n hx hb dX6_valueAt_16 rfl (lv_at hl 0 rfl) ?_
  refine va_get (D := D) (ci := 6) (v := .ref q4) (C := RX6) (T := TX6) (N := 39) hx hb hts in_X6_valueAt_X6 hown hK hP 0 rfl rfl 22 (by decide) (hts _ wd_X6_valueAt_1) (fun _ h9 => h9) rfl dX6_valueAt_17 ?_
  refine lv_iload_n hx hb dX6_valueAt_20 rfl (lv_at hl 1 rfl) ?_
  refine va_iald hx hb hK hP 3 0 rfl rfl (vp_in_nI (by omega) (by decide)) dX6_valueAt_21 ?_
  refine lv_topi (fun z_3 ez_3 => ?_)
  obtain rfl : z_3 = (nI (pts h)) := ez_3.trans (by rw [nI_clamp (by omega)]; rfl)
  refine lv_isub hx hb dX6_valueAt_22 ?_
  refine lv_istore_n (lv' := [(2, .int ((msum + (nI (pts (hp - 1)))) - (nI (pts h)))), (0, .ref m0), (1, .int (nI h))]) hx hb dX6_valueAt_23 rfl hl (by decide) rfl (fun ls hl => ?_)
  refine lv_aload_n hx hb dX6_valueAt_24 rfl (lv_at hl 1 rfl) ?_
  refine lv_iload_n hx hb dX6_valueAt_25 rfl (lv_at hl 0 rfl) ?_
  refine lv_join (α := Bool) 53 3 (fun a9 => [(2, .int ((msum + (nI (pts (hp - 1)))) - (nI (pts h)))), (0, .ref m0), (1, .int (nI h))]) (fun a9 => [.int (bI a9), .int ((msum + (nI (pts (hp - 1)))) - (nI (pts h))), .ref m0]) (fun a9 => a9 = (hasA || decide (h / stp 1 % (cap 1 + 1) < cap 1))) (fun a_6 ls hl hp_5 => ?_) (fun hJ_4 => ?_)
  · skip
    have hp_5 : a_6 = (hasA || decide (h / stp 1 % (cap 1 + 1) < cap 1)) := hp_5
    subst hp_5
    have hPc := hP.sub (ws' := [(m0, .inr (6, [.ref ms, .ref mf, .ref mw, .ref mk, .int (bI mtold), .ref mh, .int (nI hn), .int mup, .int (nI tg), .int stan, .int soft, .int doub, .int spli, .int giv, .int bon, .long drw, .int mbank, .ref q0, .ref q1, .ref q2, .int (nI hp), .ref q3, .ref q4, .ref q5, .ref q6, .ref q7, .int msum, .int (bI hasA), .int mcards, .int mpair, .int (nI sh), .int want, .int mwin, .int (bI isCh), .int mbest, .ref k0, .ref k1, .ref k2, .ref k3]))]) [0] rfl
    refine vp_callSi (W.runV (As := [.int ((msum + (nI (pts (hp - 1)))) - (nI (pts h))), .int (bI (hasA || decide (h / stp 1 % (cap 1 + 1) < cap 1)))]) (rest := []) ⟨hx, hb, hml, hown, hts⟩ (c_X6_valueOf l D cI cJ cQ m0 ms mf mw mk mtold mh hn mup (nI tg) stan soft doub spli giv bon drw mbank q0 q1 q2 (nI hp) q3 q4 q5 q6 q7 msum hasA mcards mpair (nI sh) want mwin isCh mbest k0 k1 k2 k3 ((msum + (nI (pts (hp - 1)))) - (nI (pts h))) (hasA || decide (h / stp 1 % (cap 1 + 1) < cap 1))) (cwV 2 hts gX6_valueAt_X6_valueOf rfl rfl rfl (by decide +kernel) ⟨Nat.le_of_ble_eq_true rfl, Nat.le_of_ble_eq_true rfl⟩) (rP_preV (ci := 6) (q0 := 0) hPc hK rfl rfl) rfl rfl hl.1 rfl (lv_room (Nat.le_of_ble_eq_true rfl)) dX6_valueAt_53 ⟨Nat.le_of_ble_eq_true rfl, Nat.le_of_ble_eq_true rfl⟩) (fun r_7 hr_7 => ?_)
    subst hr_7
    exact W.iret (v := (vlM (nI tg) ((msum + (nI (pts (hp - 1)))) - (nI (pts h))) (hasA || decide (h / stp 1 % (cap 1 + 1) < cap 1)))) hx hb hr (fun t ht hW => ⟨_, rfl, rfl, ht⟩) (fun q hq => absurd hq List.not_mem_nil) dX6_valueAt_56
  · skip
    refine lv_aload_n hx hb dX6_valueAt_26 rfl (lv_at hl 1 rfl) ?_
    refine va_get (D := D) (ci := 6) (v := .int (bI hasA)) (C := RX6) (T := TX6) (N := 39) hx hb hts in_X6_valueAt_X6 hown hK hP 0 rfl rfl 27 (by decide) (hts _ wd_X6_valueAt_3) (fun _ h9 => h9) rfl dX6_valueAt_27 ?_
    refine lv_if_ne (tgt := 48) hx hb dX6_valueAt_30 (by decide) (fun c30_8 => ?_) (fun c30_8 => ?_)
    · skip
      have nc30_8 : hasA = true := bI_1 c30_8
      refine lv_iconst (v := 1) hx hb dX6_valueAt_48 (by decide) ?_
      refine lv_goto (tgt := 53) hx hb dX6_valueAt_49 (by decide) ?_
      exact hJ_4 true ls (lv_sub hl [0, 1, 2] rfl) (by first | (simp [nc30_8]; done) | (simp [nc30_8]; omega))
    · skip
      have nc30_8 : hasA = false := (bI_0 _).mp c30_8
      refine lv_aload_n hx hb dX6_valueAt_33 rfl (lv_at hl 1 rfl) ?_
      refine lv_iload_n hx hb dX6_valueAt_34 rfl (lv_at hl 2 rfl) ?_
      refine lv_iconst (v := 1) hx hb dX6_valueAt_35 (by decide) ?_
      have hPc := hP.sub (ws' := [(m0, .inr (6, [.ref ms, .ref mf, .ref mw, .ref mk, .int (bI mtold), .ref mh, .int (nI hn), .int mup, .int (nI tg), .int stan, .int soft, .int doub, .int spli, .int giv, .int bon, .long drw, .int mbank, .ref q0, .ref q1, .ref q2, .int (nI hp), .ref q3, .ref q4, .ref q5, .ref q6, .ref q7, .int msum, .int (bI hasA), .int mcards, .int mpair, .int (nI sh), .int want, .int mwin, .int (bI isCh), .int mbest, .ref k0, .ref k1, .ref k2, .ref k3])), (q1, .inl (cI, 11, .inl capr)), (q2, .inl (cI, 11, .inl (nA stp)))]) [0, 1, 2] rfl
      refine vp_callSi (W.runV (As := [.int (nI h), .int 1]) (rest := [.int ((msum + (nI (pts (hp - 1)))) - (nI (pts h))), .ref m0]) ⟨hx, hb, hml, hown, hts⟩ (c_X6_ofRank l D cI cJ cQ m0 ms mf mw mk mtold mh hn mup (nI tg) stan soft doub spli giv bon drw mbank q0 q1 q2 (nI hp) q3 q4 q5 q6 q7 msum hasA mcards mpair (nI sh) want mwin isCh mbest k0 k1 k2 k3 (capr) cap (stp) h 1 g1 g2 g3 (by omega) (by omega) (by omega) hcp) (cwV 2 hts gX6_valueAt_X6_ofRank rfl rfl rfl (by decide +kernel) ⟨Nat.le_of_ble_eq_true rfl, Nat.le_of_ble_eq_true rfl⟩) (rP_preV (ci := 6) (q0 := 0) hPc hK rfl rfl) rfl rfl hl.1 rfl (lv_room (Nat.le_of_ble_eq_true rfl)) dX6_valueAt_36 ⟨Nat.le_of_ble_eq_true rfl, Nat.le_of_ble_eq_true rfl⟩) (fun r_9 hr_9 => ?_)
      subst hr_9
      refine lv_aload_n hx hb dX6_valueAt_39 rfl (lv_at hl 1 rfl) ?_
      refine va_get (D := D) (ci := 6) (v := .ref q1) (C := RX6) (T := TX6) (N := 39) hx hb hts in_X6_valueAt_X6 hown hK hP 0 rfl rfl 18 (by decide) (hts _ wd_X6_valueAt_4) (fun _ h9 => h9) rfl dX6_valueAt_40 ?_
      refine lv_iconst (v := 1) hx hb dX6_valueAt_43 (by decide) ?_
      refine va_iald hx hb hK hP 1 0 rfl rfl (show ¬ ((1 : Int32) < 0 ∨ 11 ≤ (1 : Int32).toNatClampNeg) by decide) dX6_valueAt_44 ?_
      refine lv_topi (fun z_10 ez_10 => ?_)
      obtain rfl : z_10 = nI (cap 1) := ez_10.trans (hcp 1 (by omega) (by omega))
      refine lv_icmp_ge (tgt := 52) hx hb dX6_valueAt_45 (by decide) (fun c45_11 => ?_) (fun c45_11 => ?_)
      · skip
        have nc45_11 : (cap 1) ≤ (h / (stp) 1 % (cap 1 + 1)) := (nI_leI (a := (cap 1)) (b := (h / (stp) 1 % (cap 1 + 1))) (by first | exact mod_b g3 | omega) (by first | exact mod_b g3 | omega)).mp c45_11
        refine lv_iconst (v := 0) hx hb dX6_valueAt_52 (by decide) ?_
        exact hJ_4 false ls (lv_sub hl [0, 1, 2] rfl) (by first | (simp [nc30_8]; done) | (simp [nc30_8]; omega))
      · skip
        have nc45_11 : ¬ ((cap 1) ≤ (h / (stp) 1 % (cap 1 + 1))) := fun z9 => c45_11 ((nI_leI (a := (cap 1)) (b := (h / (stp) 1 % (cap 1 + 1))) (by first | exact mod_b g3 | omega) (by first | exact mod_b g3 | omega)).mpr z9)
        refine lv_iconst (v := 1) hx hb dX6_valueAt_48 (by decide) ?_
        refine lv_goto (tgt := 53) hx hb dX6_valueAt_49 (by decide) ?_
        exact hJ_4 true ls (lv_sub hl [0, 1, 2] rfl) (by first | (simp [nc30_8]; done) | (simp [nc30_8]; omega))
