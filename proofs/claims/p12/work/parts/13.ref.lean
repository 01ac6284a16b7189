set_option maxHeartbeats 400000 in
set_option maxRecDepth 100000 in
/-- X6_in -/
theorem c_X6_in (l : Launch) (D : va_G) (cI cJ cQ : ClassId) (v : Int64) (lo : Int64) (hi : Int64)  : Met l yX6_in wsX6_in ({ frames := 0, cells := 0, slots := 0, locals := 0 }) (va_Pc [.long v, .long lo, .long hi] (rP D (gTy cI cJ cQ) [])) (vp_Si (fun r => r = inB v lo hi)) 0 0 (fun _ => False) := by
  refine Met.ofW (cc := cX6_in) (maxL := 6) (ret := (some .boolean)) (by decide) rfl ?_
  intro p e s m args below meth c s₁ B hml hv
  obtain ⟨rfl, hP, hK⟩ := hv
  have hx := B.exec
  have hb := B.bytes
  have hr := B.returns
  have hts := atoms_spec (ws := wsX6_in) B.pre
  have hown : s.vm.findClass RX6 = some m.cls := findClass_of_methodNamed B.named
  have hlocks := B.notSynchronized
  have hl := lv_entry ([.long v, .long lo, .long hi]) (n := 6) (Nat.le_of_ble_eq_true rfl)
  rw [lg_entry_eq]
  generalize (lg_sl ([.long v, .long lo, .long hi]) ++ List.replicate (6 - (lg_sl ([.long v, .long lo, .long hi])).length) Slot.unset).toArray = ls at hl ⊢
  have hl : lv_has ls 6 [(0, .long v), (2, .long lo), (4, .long hi)] := hl
  refine lv_lload_n hx hb dX6_in_0 rfl (lv_at hl 0 rfl) ?_
  refine lv_lload_n hx hb dX6_in_1 rfl (lv_at hl 1 rfl) ?_
  refine W.lcmp hx hb dX6_in_2 ?_
  refine lv_if_lt (tgt := 17) hx hb dX6_in_3 (by decide) (fun c3_1 => ?_) (fun c3_1 => ?_)
  · skip
    refine lv_iconst (v := 0) hx hb dX6_in_17 (by decide) ?_
    exact W.zret (v := 0) hx hb hr rfl (fun t ht hW => ⟨_, rfl, (by unfold inB; rw [lg_cmp_lt] at c3_1; ((try first | rw [if_pos c3_1] | rw [if_neg c3_1]); first | done | rfl | trivial)), ht⟩) (fun q hq => absurd hq List.not_mem_nil) dX6_in_18
  · skip
    refine lv_lload_n hx hb dX6_in_6 rfl (lv_at hl 0 rfl) ?_
    refine lv_lload hx hb dX6_in_7 (lv_at hl 2 rfl) ?_
    refine W.lcmp hx hb dX6_in_9 ?_
    refine lv_if_gt (tgt := 17) hx hb dX6_in_10 (by decide) (fun c10_2 => ?_) (fun c10_2 => ?_)
    · skip
      refine lv_iconst (v := 0) hx hb dX6_in_17 (by decide) ?_
      exact W.zret (v := 0) hx hb hr rfl (fun t ht hW => ⟨_, rfl, (by unfold inB; rw [lg_cmp_lt] at c3_1; rw [lg_cmp_gt] at c10_2; ((try first | rw [if_pos c3_1] | rw [if_neg c3_1]); (try first | rw [if_pos c10_2] | rw [if_neg c10_2]); first | done | rfl | trivial)), ht⟩) (fun q hq => absurd hq List.not_mem_nil) dX6_in_18
    · skip
      refine lv_iconst (v := 1) hx hb dX6_in_13 (by decide) ?_
      refine lv_goto (tgt := 18) hx hb dX6_in_14 (by decide) ?_
      exact W.zret (v := 1) hx hb hr rfl (fun t ht hW => ⟨_, rfl, (by unfold inB; rw [lg_cmp_lt] at c3_1; rw [lg_cmp_gt] at c10_2; ((try first | rw [if_pos c3_1] | rw [if_neg c3_1]); (try first | rw [if_pos c10_2] | rw [if_neg c10_2]); first | done | rfl | trivial)), ht⟩) (fun q hq => absurd hq List.not_mem_nil) dX6_in_18

set_option maxRecDepth 20000 in
theorem in_X6_all_X6 : ∀ w ∈ wsX60, w ∈ wsX6_all := by decide +kernel
set_option maxRecDepth 20000 in
theorem wd_X6_all_0 : Cond.fieldLink RX6 7 "ShoeTableModel" "shoe" "[I" ∈ wsX6_all := by decide +kernel
set_option maxHeartbeats 400000 in
set_option maxRecDepth 100000 in
/-- X6_all -/
theorem c_X6_all (l : Launch) (D : va_G) (cI cJ cQ : ClassId) (m0 : Nat) (ms : Nat) (mf : Nat) (mw : Nat) (mk : Nat) (mtold : Bool) (mh : Nat) (hands : Int32) (mup : Int32) (targ : Int32) (stan : Int32) (soft : Int32) (doub : Int32) (spli : Int32) (giv : Int32) (bon : Int32) (drw : Int64) (mbank : Int32) (q0 : Nat) (q1 : Nat) (q2 : Nat) (mheaps : Int32) (q3 : Nat) (q4 : Nat) (q5 : Nat) (q6 : Nat) (q7 : Nat) (msum : Int32) (hasA : Bool) (mcards : Int32) (mpair : Int32) (shown : Int32) (want : Int32) (mwin : Int32) (isCh : Bool) (mbest : Int32) (k0 : Nat) (k1 : Nat) (k2 : Nat) (k3 : Nat) (f : Nat → Int32)  : Met l yX6_all wsX6_all ({ frames := 0, cells := 0, slots := 0, locals := 0 }) (va_Pc [.ref m0] (rP D (gTy cI cJ cQ) [(m0, .inr (6, [.ref ms, .ref mf, .ref mw, .ref mk, .int (bI mtold), .ref mh, .int hands, .int mup, .int targ, .int stan, .int soft, .int doub, .int spli, .int giv, .int bon, .long drw, .int mbank, .ref q0, .ref q1, .ref q2, .int mheaps, .ref q3, .ref q4, .ref q5, .ref q6, .ref q7, .int msum, .int (bI hasA), .int mcards, .int mpair, .int shown, .int want, .int mwin, .int (bI isCh), .int mbest, .ref k0, .ref k1, .ref k2, .ref k3])), (ms, .inl (cI, 11, .inl f))])) (vp_Si (fun r => r = sm10 f)) 0 0 (fun _ => False) := by
  refine Met.ofW (cc := cX6_all) (maxL := 3) (ret := (some .int)) (by decide) rfl ?_
  intro p e s m args below meth c s₁ B hml hv
  obtain ⟨rfl, hP, hK⟩ := hv
  have hx := B.exec
  have hb := B.bytes
  have hr := B.returns
  have hts := atoms_spec (ws := wsX6_all) B.pre
  have hown : s.vm.findClass RX6 = some m.cls := findClass_of_methodNamed B.named
  have hlocks := B.notSynchronized
  have hl := lv_entry ([.ref m0]) (n := 3) (Nat.le_of_ble_eq_true rfl)
  rw [lg_entry_eq]
  generalize (lg_sl ([.ref m0]) ++ List.replicate (3 - (lg_sl ([.ref m0])).length) Slot.unset).toArray = ls at hl ⊢
  have hl : lv_has ls 3 [(0, .ref m0)] := hl
  refine lv_iconst (v := 0) hx hb dX6_all_0 (by decide) ?_
  refine lv_istore_n (lv' := [(1, .int 0), (0, .ref m0)]) hx hb dX6_all_1 rfl hl (by decide) rfl (fun ls hl => ?_)
  refine lv_iconst (v := 1) hx hb dX6_all_2 (by decide) ?_
  refine lv_istore_n (lv' := [(2, .int 1), (1, .int 0), (0, .ref m0)]) hx hb dX6_all_3 rfl hl (by decide) rfl (fun ls hl => ?_)
  refine lv_iload_n hx hb dX6_all_4 rfl (lv_at hl 0 rfl) ?_
  refine lv_bipush (v := 11) hx hb dX6_all_5 (by decide) ?_
  refine lv_icmp_ge (tgt := 25) hx hb dX6_all_7 (by decide) (fun c7_1 => ?_) (fun c7_1 => ?_)
  · exact absurd c7_1 (by decide)
  refine lv_iload_n hx hb dX6_all_10 rfl (lv_at hl 1 rfl) ?_
  refine lv_aload_n hx hb dX6_all_11 rfl (lv_at hl 2 rfl) ?_
  refine va_get (D := D) (ci := 6) (v := .ref ms) (C := RX6) (T := TX6) (N := 39) hx hb hts in_X6_all_X6 hown hK hP 0 rfl rfl 0 (by decide) (hts _ wd_X6_all_0) (fun _ h9 => h9) rfl dX6_all_12 ?_
  refine lv_iload_n hx hb dX6_all_15 rfl (lv_at hl 0 rfl) ?_
  refine va_iald hx hb hK hP 1 0 rfl rfl (show ¬ ((1 : Int32) < 0 ∨ 11 ≤ (1 : Int32).toNatClampNeg) by decide) dX6_all_16 ?_
  refine lv_topi (fun z_2 ez_2 => ?_)
  obtain rfl : z_2 = (f 1) := ez_2
  refine lv_iadd hx hb dX6_all_17 ?_
  refine lv_istore_n (lv' := [(1, .int (0 + (f 1))), (2, .int 1), (0, .ref m0)]) hx hb dX6_all_18 rfl hl (by decide) rfl (fun ls hl => ?_)
  refine lv_iinc (v := 2) (lv' := [(2, .int 2), (1, .int (0 + (f 1))), (0, .ref m0)]) hx hb dX6_all_19 hl (k := 1) rfl (by decide) (by decide) rfl (fun ls hl => ?_)
  refine lv_goto (tgt := 4) hx hb dX6_all_22 (by decide) ?_
  refine lv_iload_n hx hb dX6_all_4 rfl (lv_at hl 0 rfl) ?_
  refine lv_bipush (v := 11) hx hb dX6_all_5 (by decide) ?_
  refine lv_icmp_ge (tgt := 25) hx hb dX6_all_7 (by decide) (fun c7_3 => ?_) (fun c7_3 => ?_)
  · exact absurd c7_3 (by decide)
  refine lv_iload_n hx hb dX6_all_10 rfl (lv_at hl 1 rfl) ?_
  refine lv_aload_n hx hb dX6_all_11 rfl (lv_at hl 2 rfl) ?_
  refine va_get (D := D) (ci := 6) (v := .ref ms) (C := RX6) (T := TX6) (N := 39) hx hb hts in_X6_all_X6 hown hK hP 0 rfl rfl 0 (by decide) (hts _ wd_X6_all_0) (fun _ h9 => h9) rfl dX6_all_12 ?_
  refine lv_iload_n hx hb dX6_all_15 rfl (lv_at hl 0 rfl) ?_
  refine va_iald hx hb hK hP 1 0 rfl rfl (show ¬ ((2 : Int32) < 0 ∨ 11 ≤ (2 : Int32).toNatClampNeg) by decide) dX6_all_16 ?_
  refine lv_topi (fun z_4 ez_4 => ?_)
  obtain rfl : z_4 = (f 2) := ez_4
  refine lv_iadd hx hb dX6_all_17 ?_
  refine lv_istore_n (lv' := [(1, .int ((0 + (f 1)) + (f 2))), (2, .int 2), (0, .ref m0)]) hx hb dX6_all_18 rfl hl (by decide) rfl (fun ls hl => ?_)
  refine lv_iinc (v := 3) (lv' := [(2, .int 3), (1, .int ((0 + (f 1)) + (f 2))), (0, .ref m0)]) hx hb dX6_all_19 hl (k := 1) rfl (by decide) (by decide) rfl (fun ls hl => ?_)
  refine lv_goto (tgt := 4) hx hb dX6_all_22 (by decide) ?_
  refine lv_iload_n hx hb dX6_all_4 rfl (lv_at hl 0 rfl) ?_
  refine lv_bipush (v := 11) hx hb dX6_all_5 (by decide) ?_
  refine lv_icmp_ge (tgt := 25) hx hb dX6_all_7 (by decide) (fun c7_5 => ?_) (fun c7_5 => ?_)
  · exact absurd c7_5 (by decide)
  refine lv_iload_n hx hb dX6_all_10 rfl (lv_at hl 1 rfl) ?_
  refine lv_aload_n hx hb dX6_all_11 rfl (lv_at hl 2 rfl) ?_
  refine va_get (D := D) (ci := 6) (v := .ref ms) (C := RX6) (T := TX6) (N := 39) hx hb hts in_X6_all_X6 hown hK hP 0 rfl rfl 0 (by decide) (hts _ wd_X6_all_0) (fun _ h9 => h9) rfl dX6_all_12 ?_
  refine lv_iload_n hx hb dX6_all_15 rfl (lv_at hl 0 rfl) ?_
  refine va_iald hx hb hK hP 1 0 rfl rfl (show ¬ ((3 : Int32) < 0 ∨ 11 ≤ (3 : Int32).toNatClampNeg) by decide) dX6_all_16 ?_
  refine lv_topi (fun z_6 ez_6 => ?_)
  obtain rfl : z_6 = (f 3) := ez_6
  refine lv_iadd hx hb dX6_all_17 ?_
  refine lv_istore_n (lv' := [(1, .int (((0 + (f 1)) + (f 2)) + (f 3))), (2, .int 3), (0, .ref m0)]) hx hb dX6_all_18 rfl hl (by decide) rfl (fun ls hl => ?_)
  refine lv_iinc (v := 4) (lv' := [(2, .int 4), (1, .int (((0 + (f 1)) + (f 2)) + (f 3))), (0, .ref m0)]) hx hb dX6_all_19 hl (k := 1) rfl (by decide) (by decide) rfl (fun ls hl => ?_)
  refine lv_goto (tgt := 4) hx hb dX6_all_22 (by decide) ?_
  refine lv_iload_n hx hb dX6_all_4 rfl (lv_at hl 0 rfl) ?_
  refine lv_bipush (v := 11) hx hb dX6_all_5 (by decide) ?_
  refine lv_icmp_ge (tgt := 25) hx hb dX6_all_7 (by decide) (fun c7_7 => ?_) (fun c7_7 => ?_)
  · exact absurd c7_7 (by decide)
  refine lv_iload_n hx hb dX6_all_10 rfl (lv_at hl 1 rfl) ?_
  refine lv_aload_n hx hb dX6_all_11 rfl (lv_at hl 2 rfl) ?_
  refine va_get (D := D) (ci := 6) (v := .ref ms) (C := RX6) (T := TX6) (N := 39) hx hb hts in_X6_all_X6 hown hK hP 0 rfl rfl 0 (by decide) (hts _ wd_X6_all_0) (fun _ h9 => h9) rfl dX6_all_12 ?_
  refine lv_iload_n hx hb dX6_all_15 rfl (lv_at hl 0 rfl) ?_
  refine va_iald hx hb hK hP 1 0 rfl rfl (show ¬ ((4 : Int32) < 0 ∨ 11 ≤ (4 : Int32).toNatClampNeg) by decide) dX6_all_16 ?_
  refine lv_topi (fun z_8 ez_8 => ?_)
  obtain rfl : z_8 = (f 4) := ez_8
  refine lv_iadd hx hb dX6_all_17 ?_
  refine lv_istore_n (lv' := [(1, .int ((((0 + (f 1)) + (f 2)) + (f 3)) + (f 4))), (2, .int 4), (0, .ref m0)]) hx hb dX6_all_18 rfl hl (by decide) rfl (fun ls hl => ?_)
  refine lv_iinc (v := 5) (lv' := [(2, .int 5), (1, .int ((((0 + (f 1)) + (f 2)) + (f 3)) + (f 4))), (0, .ref m0)]) hx hb dX6_all_19 hl (k := 1) rfl (by decide) (by decide) rfl (fun ls hl => ?_)
  refine lv_goto (tgt := 4) hx hb dX6_all_22 (by decide) ?_
  refine lv_iload_n hx hb dX6_all_4 rfl (lv_at hl 0 rfl) ?_
  refine lv_bipush (v := 11) hx hb dX6_all_5 (by decide) ?_
  refine lv_icmp_ge (tgt := 25) hx hb dX6_all_7 (by decide) (fun c7_9 => ?_) (fun c7_9 => ?_)
  · exact absurd c7_9 (by decide)
  refine lv_iload_n hx hb dX6_all_10 rfl (lv_at hl 1 rfl) ?_
  refine lv_aload_n hx hb dX6_all_11 rfl (lv_at hl 2 rfl) ?_
  refine va_get (D := D) (ci := 6) (v := .ref ms) (C := RX6) (T := TX6) (N := 39) hx hb hts in_X6_all_X6 hown hK hP 0 rfl rfl 0 (by decide) (hts _ wd_X6_all_0) (fun _ h9 => h9) rfl dX6_all_12 ?_
  refine lv_iload_n hx hb dX6_all_15 rfl (lv_at hl 0 rfl) ?_
  refine va_iald hx hb hK hP 1 0 rfl rfl (show ¬ ((5 : Int32) < 0 ∨ 11 ≤ (5 : Int32).toNatClampNeg) by decide) dX6_all_16 ?_
  refine lv_topi (fun z_10 ez_10 => ?_)
  obtain rfl : z_10 = (f 5) := ez_10
  refine lv_iadd hx hb dX6_all_17 ?_
  refine lv_istore_n (lv' := [(1, .int (((((0 + (f 1)) + (f 2)) + (f 3)) + (f 4)) + (f 5))), (2, .int 5), (0, .ref m0)]) hx hb dX6_all_18 rfl hl (by decide) rfl (fun ls hl => ?_)
  refine lv_iinc (v := 6) (lv' := [(2, .int 6), (1, .int (((((0 + (f 1)) + (f 2)) + (f 3)) + (f 4)) + (f 5))), (0, .ref m0)]) hx hb dX6_all_19 hl (k := 1) rfl (by decide) (by decide) rfl (fun ls hl => ?_)
  refine lv_goto (tgt := 4) hx hb dX6_all_22 (by decide) ?_
  refine lv_iload_n hx hb dX6_all_4 rfl (lv_at hl 0 rfl) ?_
  refine lv_bipush (v := 11) hx hb dX6_all_5 (by decide) ?_
  refine lv_icmp_ge (tgt := 25) hx hb dX6_all_7 (by decide) (fun c7_11 => ?_) (fun c7_11 => ?_)
  · exact absurd c7_11 (by decide)
  refine lv_iload_n hx hb dX6_all_10 rfl (lv_at hl 1 rfl) ?_
  refine lv_aload_n hx hb dX6_all_11 rfl (lv_at hl 2 rfl) ?_
  refine va_get (D := D) (ci := 6) (v := .ref ms) (C := RX6) (T := TX6) (N := 39) hx hb hts in_X6_all_X6 hown hK hP 0 rfl rfl 0 (by decide) (hts _ wd_X6_all_0) (fun _ h9 => h9) rfl dX6_all_12 ?_
  refine lv_iload_n hx hb dX6_all_15 rfl (lv_at hl 0 rfl) ?_
  refine va_iald hx hb hK hP 1 0 rfl rfl (show ¬ ((6 : Int32) < 0 ∨ 11 ≤ (6 : Int32).toNatClampNeg) by decide) dX6_all_16 ?_
  refine lv_topi (fun z_12 ez_12 => ?_)
  obtain rfl : z_12 = (f 6) := ez_12
  refine lv_iadd hx hb dX6_all_17 ?_
  refine lv_istore_n (lv' := [(1, .int ((((((0 + (f 1)) + (f 2)) + (f 3)) + (f 4)) + (f 5)) + (f 6))), (2, .int 6), (0, .ref m0)]) hx hb dX6_all_18 rfl hl (by decide) rfl (fun ls hl => ?_)
  refine lv_iinc (v := 7) (lv' := [(2, .int 7), (1, .int ((((((0 + (f 1)) + (f 2)) + (f 3)) + (f 4)) + (f 5)) + (f 6))), (0, .ref m0)]) hx hb dX6_all_19 hl (k := 1) rfl (by decide) (by decide) rfl (fun ls hl => ?_)
  refine lv_goto (tgt := 4) hx hb dX6_all_22 (by decide) ?_
  refine lv_iload_n hx hb dX6_all_4 rfl (lv_at hl 0 rfl) ?_
  refine lv_bipush (v := 11) hx hb dX6_all_5 (by decide) ?_
  refine lv_icmp_ge (tgt := 25) hx hb dX6_all_7 (by decide) (fun c7_13 => ?_) (fun c7_13 => ?_)
  · exact absurd c7_13 (by decide)
  refine lv_iload_n hx hb dX6_all_10 rfl (lv_at hl 1 rfl) ?_
  refine lv_aload_n hx hb dX6_all_11 rfl (lv_at hl 2 rfl) ?_
  refine va_get (D := D) (ci := 6) (v := .ref ms) (C := RX6) (T := TX6) (N := 39) hx hb hts in_X6_all_X6 hown hK hP 0 rfl rfl 0 (by decide) (hts _ wd_X6_all_0) (fun _ h9 => h9) rfl dX6_all_12 ?_
  refine lv_iload_n hx hb dX6_all_15 rfl (lv_at hl 0 rfl) ?_
  refine va_iald hx hb hK hP 1 0 rfl rfl (show ¬ ((7 : Int32) < 0 ∨ 11 ≤ (7 : Int32).toNatClampNeg) by decide) dX6_all_16 ?_
  refine lv_topi (fun z_14 ez_14 => ?_)
  obtain rfl : z_14 = (f 7) := ez_14
  refine lv_iadd hx hb dX6_all_17 ?_
  refine lv_istore_n (lv' := [(1, .int (((((((0 + (f 1)) + (f 2)) + (f 3)) + (f 4)) + (f 5)) + (f 6)) + (f 7))), (2, .int 7), (0, .ref m0)]) hx hb dX6_all_18 rfl hl (by decide) rfl (fun ls hl => ?_)
  refine lv_iinc (v := 8) (lv' := [(2, .int 8), (1, .int (((((((0 + (f 1)) + (f 2)) + (f 3)) + (f 4)) + (f 5)) + (f 6)) + (f 7))), (0, .ref m0)]) hx hb dX6_all_19 hl (k := 1) rfl (by decide) (by decide) rfl (fun ls hl => ?_)
  refine lv_goto (tgt := 4) hx hb dX6_all_22 (by decide) ?_
  refine lv_iload_n hx hb dX6_all_4 rfl (lv_at hl 0 rfl) ?_
  refine lv_bipush (v := 11) hx hb dX6_all_5 (by decide) ?_
  refine lv_icmp_ge (tgt := 25) hx hb dX6_all_7 (by decide) (fun c7_15 => ?_) (fun c7_15 => ?_)
  · exact absurd c7_15 (by decide)
  refine lv_iload_n hx hb dX6_all_10 rfl (lv_at hl 1 rfl) ?_
  refine lv_aload_n hx hb dX6_all_11 rfl (lv_at hl 2 rfl) ?_
  refine va_get (D := D) (ci := 6) (v := .ref ms) (C := RX6) (T := TX6) (N := 39) hx hb hts in_X6_all_X6 hown hK hP 0 rfl rfl 0 (by decide) (hts _ wd_X6_all_0) (fun _ h9 => h9) rfl dX6_all_12 ?_
  refine lv_iload_n hx hb dX6_all_15 rfl (lv_at hl 0 rfl) ?_
  refine va_iald hx hb hK hP 1 0 rfl rfl (show ¬ ((8 : Int32) < 0 ∨ 11 ≤ (8 : Int32).toNatClampNeg) by decide) dX6_all_16 ?_
  refine lv_topi (fun z_16 ez_16 => ?_)
  obtain rfl : z_16 = (f 8) := ez_16
  refine lv_iadd hx hb dX6_all_17 ?_
  refine lv_istore_n (lv' := [(1, .int ((((((((0 + (f 1)) + (f 2)) + (f 3)) + (f 4)) + (f 5)) + (f 6)) + (f 7)) + (f 8))), (2, .int 8), (0, .ref m0)]) hx hb dX6_all_18 rfl hl (by decide) rfl (fun ls hl => ?_)
  refine lv_iinc (v := 9) (lv' := [(2, .int 9), (1, .int ((((((((0 + (f 1)) + (f 2)) + (f 3)) + (f 4)) + (f 5)) + (f 6)) + (f 7)) + (f 8))), (0, .ref m0)]) hx hb dX6_all_19 hl (k := 1) rfl (by decide) (by decide) rfl (fun ls hl => ?_)
  refine lv_goto (tgt := 4) hx hb dX6_all_22 (by decide) ?_
  refine lv_iload_n hx hb dX6_all_4 rfl (lv_at hl 0 rfl) ?_
  refine lv_bipush (v := 11) hx hb dX6_all_5 (by decide) ?_
  refine lv_icmp_ge (tgt := 25) hx hb dX6_all_7 (by decide) (fun c7_17 => ?_) (fun c7_17 => ?_)
  · exact absurd c7_17 (by decide)
  refine lv_iload_n hx hb dX6_all_10 rfl (lv_at hl 1 rfl) ?_
  refine lv_aload_n hx hb dX6_all_11 rfl (lv_at hl 2 rfl) ?_
  refine va_get (D := D) (ci := 6) (v := .ref ms) (C := RX6) (T := TX6) (N := 39) hx hb hts in_X6_all_X6 hown hK hP 0 rfl rfl 0 (by decide) (hts _ wd_X6_all_0) (fun _ h9 => h9) rfl dX6_all_12 ?_
  refine lv_iload_n hx hb dX6_all_15 rfl (lv_at hl 0 rfl) ?_
  refine va_iald hx hb hK hP 1 0 rfl rfl (show ¬ ((9 : Int32) < 0 ∨ 11 ≤ (9 : Int32).toNatClampNeg) by decide) dX6_all_16 ?_
  refine lv_topi (fun z_18 ez_18 => ?_)
  obtain rfl : z_18 = (f 9) := ez_18
  refine lv_iadd hx hb dX6_all_17 ?_
  refine lv_istore_n (lv' := [(1, .int (((((((((0 + (f 1)) + (f 2)) + (f 3)) + (f 4)) + (f 5)) + (f 6)) + (f 7)) + (f 8)) + (f 9))), (2, .int 9), (0, .ref m0)]) hx hb dX6_all_18 rfl hl (by decide) rfl (fun ls hl => ?_)
  refine lv_iinc (v := 10) (lv' := [(2, .int 10), (1, .int (((((((((0 + (f 1)) + (f 2)) + (f 3)) + (f 4)) + (f 5)) + (f 6)) + (f 7)) + (f 8)) + (f 9))), (0, .ref m0)]) hx hb dX6_all_19 hl (k := 1) rfl (by decide) (by decide) rfl (fun ls hl => ?_)
  refine lv_goto (tgt := 4) hx hb dX6_all_22 (by decide) ?_
  refine lv_iload_n hx hb dX6_all_4 rfl (lv_at hl 0 rfl) ?_
  refine lv_bipush (v := 11) hx hb dX6_all_5 (by decide) ?_
  refine lv_icmp_ge (tgt := 25) hx hb dX6_all_7 (by decide) (fun c7_19 => ?_) (fun c7_19 => ?_)
  · exact absurd c7_19 (by decide)
  refine lv_iload_n hx hb dX6_all_10 rfl (lv_at hl 1 rfl) ?_
  refine lv_aload_n hx hb dX6_all_11 rfl (lv_at hl 2 rfl) ?_
  refine va_get (D := D) (ci := 6) (v := .ref ms) (C := RX6) (T := TX6) (N := 39) hx hb hts in_X6_all_X6 hown hK hP 0 rfl rfl 0 (by decide) (hts _ wd_X6_all_0) (fun _ h9 => h9) rfl dX6_all_12 ?_
  refine lv_iload_n hx hb dX6_all_15 rfl (lv_at hl 0 rfl) ?_
  refine va_iald hx hb hK hP 1 0 rfl rfl (show ¬ ((10 : Int32) < 0 ∨ 11 ≤ (10 : Int32).toNatClampNeg) by decide) dX6_all_16 ?_
  refine lv_topi (fun z_20 ez_20 => ?_)
  obtain rfl : z_20 = (f 10) := ez_20
  refine lv_iadd hx hb dX6_all_17 ?_
  refine lv_istore_n (lv' := [(1, .int ((((((((((0 + (f 1)) + (f 2)) + (f 3)) + (f 4)) + (f 5)) + (f 6)) + (f 7)) + (f 8)) + (f 9)) + (f 10))), (2, .int 10), (0, .ref m0)]) hx hb dX6_all_18 rfl hl (by decide) rfl (fun ls hl => ?_)
  refine lv_iinc (v := 11) (lv' := [(2, .int 11), (1, .int ((((((((((0 + (f 1)) + (f 2)) + (f 3)) + (f 4)) + (f 5)) + (f 6)) + (f 7)) + (f 8)) + (f 9)) + (f 10))), (0, .ref m0)]) hx hb dX6_all_19 hl (k := 1) rfl (by decide) (by decide) rfl (fun ls hl => ?_)
  refine lv_goto (tgt := 4) hx hb dX6_all_22 (by decide) ?_
  refine lv_iload_n hx hb dX6_all_4 rfl (lv_at hl 0 rfl) ?_
  refine lv_bipush (v := 11) hx hb dX6_all_5 (by decide) ?_
  refine lv_icmp_ge (tgt := 25) hx hb dX6_all_7 (by decide) (fun c7_21 => ?_) (fun c7_21 => ?_)
  · skip
    refine lv_iload_n hx hb dX6_all_25 rfl (lv_at hl 1 rfl) ?_
    exact W.iret (v := ((((((((((0 + (f 1)) + (f 2)) + (f 3)) + (f 4)) + (f 5)) + (f 6)) + (f 7)) + (f 8)) + (f 9)) + (f 10))) hx hb hr (fun t ht hW => ⟨_, rfl, rfl, ht⟩) (fun q hq => absurd hq List.not_mem_nil) dX6_all_26
  · exact absurd c7_21 (by decide)

set_option maxRecDepth 20000 in
theorem in_X6_gone_X6 : ∀ w ∈ wsX60, w ∈ wsX6_gone := by decide +kernel
set_option maxRecDepth 20000 in
theorem wd_X6_gone_0 : Cond.fieldLink RX6 16 "ShoeTableModel" "went" "[I" ∈ wsX6_gone := by decide +kernel
set_option maxHeartbeats 400000 in
set_option maxRecDepth 100000 in
/-- X6_gone -/
theorem c_X6_gone (l : Launch) (D : va_G) (cI cJ cQ : ClassId) (m0 : Nat) (ms : Nat) (mf : Nat) (mw : Nat) (mk : Nat) (mtold : Bool) (mh : Nat) (hands : Int32) (mup : Int32) (targ : Int32) (stan : Int32) (soft : Int32) (doub : Int32) (spli : Int32) (giv : Int32) (bon : Int32) (drw : Int64) (mbank : Int32) (q0 : Nat) (q1 : Nat) (q2 : Nat) (mheaps : Int32) (q3 : Nat) (q4 : Nat) (q5 : Nat) (q6 : Nat) (q7 : Nat) (msum : Int32) (hasA : Bool) (mcards : Int32) (mpair : Int32) (shown : Int32) (want : Int32) (mwin : Int32) (isCh : Bool) (mbest : Int32) (k0 : Nat) (k1 : Nat) (k2 : Nat) (k3 : Nat) (fw : Nat → Int32)  : Met l yX6_gone wsX6_gone ({ frames := 0, cells := 0, slots := 0, locals := 0 }) (va_Pc [.ref m0] (rP D (gTy cI cJ cQ) [(m0, .inr (6, [.ref ms, .ref mf, .ref mw, .ref mk, .int (bI mtold), .ref mh, .int hands, .int mup, .int targ, .int stan, .int soft, .int doub, .int spli, .int giv, .int bon, .long drw, .int mbank, .ref q0, .ref q1, .ref q2, .int mheaps, .ref q3, .ref q4, .ref q5, .ref q6, .ref q7, .int msum, .int (bI hasA), .int mcards, .int mpair, .int shown, .int want, .int mwin, .int (bI isCh), .int mbest, .ref k0, .ref k1, .ref k2, .ref k3])), (mw, .inl (cI, 11, .inl fw))])) (vp_Si (fun r => r = sm10 fw)) 0 0 (fun _ => False) := by
  refine Met.ofW (cc := cX6_gone) (maxL := 3) (ret := (some .int)) (by decide) rfl ?_
  intro p e s m args below meth c s₁ B hml hv
  obtain ⟨rfl, hP, hK⟩ := hv
  have hx := B.exec
  have hb := B.bytes
  have hr := B.returns
  have hts := atoms_spec (ws := wsX6_gone) B.pre
  have hown : s.vm.findClass RX6 = some m.cls := findClass_of_methodNamed B.named
  have hlocks := B.notSynchronized
  have hl := lv_entry ([.ref m0]) (n := 3) (Nat.le_of_ble_eq_true rfl)
  rw [lg_entry_eq]
  generalize (lg_sl ([.ref m0]) ++ List.replicate (3 - (lg_sl ([.ref m0])).length) Slot.unset).toArray = ls at hl ⊢
  have hl : lv_has ls 3 [(0, .ref m0)] := hl
  refine lv_iconst (v := 0) hx hb dX6_gone_0 (by decide) ?_
  refine lv_istore_n (lv' := [(1, .int 0), (0, .ref m0)]) hx hb dX6_gone_1 rfl hl (by decide) rfl (fun ls hl => ?_)
  refine lv_iconst (v := 1) hx hb dX6_gone_2 (by decide) ?_
  refine lv_istore_n (lv' := [(2, .int 1), (1, .int 0), (0, .ref m0)]) hx hb dX6_gone_3 rfl hl (by decide) rfl (fun ls hl => ?_)
  refine lv_iload_n hx hb dX6_gone_4 rfl (lv_at hl 0 rfl) ?_
  refine lv_bipush (v := 11) hx hb dX6_gone_5 (by decide) ?_
  refine lv_icmp_ge (tgt := 25) hx hb dX6_gone_7 (by decide) (fun c7_1 => ?_) (fun c7_1 => ?_)
  · exact absurd c7_1 (by decide)
  refine lv_iload_n hx hb dX6_gone_10 rfl (lv_at hl 1 rfl) ?_
  refine lv_aload_n hx hb dX6_gone_11 rfl (lv_at hl 2 rfl) ?_
  refine va_get (D := D) (ci := 6) (v := .ref mw) (C := RX6) (T := TX6) (N := 39) hx hb hts in_X6_gone_X6 hown hK hP 0 rfl rfl 2 (by decide) (hts _ wd_X6_gone_0) (fun _ h9 => h9) rfl dX6_gone_12 ?_
  refine lv_iload_n hx hb dX6_gone_15 rfl (lv_at hl 0 rfl) ?_
  refine va_iald hx hb hK hP 1 0 rfl rfl (show ¬ ((1 : Int32) < 0 ∨ 11 ≤ (1 : Int32).toNatClampNeg) by decide) dX6_gone_16 ?_
  refine lv_topi (fun z_2 ez_2 => ?_)
  obtain rfl : z_2 = (fw 1) := ez_2
  refine lv_iadd hx hb dX6_gone_17 ?_
  refine lv_istore_n (lv' := [(1, .int (0 + (fw 1))), (2, .int 1), (0, .ref m0)]) hx hb dX6_gone_18 rfl hl (by decide) rfl (fun ls hl => ?_)
  refine lv_iinc (v := 2) (lv' := [(2, .int 2), (1, .int (0 + (fw 1))), (0, .ref m0)]) hx hb dX6_gone_19 hl (k := 1) rfl (by decide) (by decide) rfl (fun ls hl => ?_)
  refine lv_goto (tgt := 4) hx hb dX6_gone_22 (by decide) ?_
  refine lv_iload_n hx hb dX6_gone_4 rfl (lv_at hl 0 rfl) ?_
  refine lv_bipush (v := 11) hx hb dX6_gone_5 (by decide) ?_
  refine lv_icmp_ge (tgt := 25) hx hb dX6_gone_7 (by decide) (fun c7_3 => ?_) (fun c7_3 => ?_)
  · exact absurd c7_3 (by decide)
  refine lv_iload_n hx hb dX6_gone_10 rfl (lv_at hl 1 rfl) ?_
  refine lv_aload_n hx hb dX6_gone_11 rfl (lv_at hl 2 rfl) ?_
  refine va_get (D := D) (ci := 6) (v := .ref mw) (C := RX6) (T := TX6) (N := 39) hx hb hts in_X6_gone_X6 hown hK hP 0 rfl rfl 2 (by decide) (hts _ wd_X6_gone_0) (fun _ h9 => h9) rfl dX6_gone_12 ?_
  refine lv_iload_n hx hb dX6_gone_15 rfl (lv_at hl 0 rfl) ?_
  refine va_iald hx hb hK hP 1 0 rfl rfl (show ¬ ((2 : Int32) < 0 ∨ 11 ≤ (2 : Int32).toNatClampNeg) by decide) dX6_gone_16 ?_
  refine lv_topi (fun z_4 ez_4 => ?_)
  obtain rfl : z_4 = (fw 2) := ez_4
  refine lv_iadd hx hb dX6_gone_17 ?_
  refine lv_istore_n (lv' := [(1, .int ((0 + (fw 1)) + (fw 2))), (2, .int 2), (0, .ref m0)]) hx hb dX6_gone_18 rfl hl (by decide) rfl (fun ls hl => ?_)
  refine lv_iinc (v := 3) (lv' := [(2, .int 3), (1, .int ((0 + (fw 1)) + (fw 2))), (0, .ref m0)]) hx hb dX6_gone_19 hl (k := 1) rfl (by decide) (by decide) rfl (fun ls hl => ?_)
  refine lv_goto (tgt := 4) hx hb dX6_gone_22 (by decide) ?_
  refine lv_iload_n hx hb dX6_gone_4 rfl (lv_at hl 0 rfl) ?_
  refine lv_bipush (v := 11) hx hb dX6_gone_5 (by decide) ?_
  refine lv_icmp_ge (tgt := 25) hx hb dX6_gone_7 (by decide) (fun c7_5 => ?_) (fun c7_5 => ?_)
  · exact absurd c7_5 (by decide)
  refine lv_iload_n hx hb dX6_gone_10 rfl (lv_at hl 1 rfl) ?_
  refine lv_aload_n hx hb dX6_gone_11 rfl (lv_at hl 2 rfl) ?_
  refine va_get (D := D) (ci := 6) (v := .ref mw) (C := RX6) (T := TX6) (N := 39) hx hb hts in_X6_gone_X6 hown hK hP 0 rfl rfl 2 (by decide) (hts _ wd_X6_gone_0) (fun _ h9 => h9) rfl dX6_gone_12 ?_
  refine lv_iload_n hx hb dX6_gone_15 rfl (lv_at hl 0 rfl) ?_
  refine va_iald hx hb hK hP 1 0 rfl rfl (show ¬ ((3 : Int32) < 0 ∨ 11 ≤ (3 : Int32).toNatClampNeg) by decide) dX6_gone_16 ?_
  refine lv_topi (fun z_6 ez_6 => ?_)
  obtain rfl : z_6 = (fw 3) := ez_6
  refine lv_iadd hx hb dX6_gone_17 ?_
  refine lv_istore_n (lv' := [(1, .int (((0 + (fw 1)) + (fw 2)) + (fw 3))), (2, .int 3), (0, .ref m0)]) hx hb dX6_gone_18 rfl hl (by decide) rfl (fun ls hl => ?_)
  refine lv_iinc (v := 4) (lv' := [(2, .int 4), (1, .int (((0 + (fw 1)) + (fw 2)) + (fw 3))), (0, .ref m0)]) hx hb dX6_gone_19 hl (k := 1) rfl (by decide) (by decide) rfl (fun ls hl => ?_)
  refine lv_goto (tgt := 4) hx hb dX6_gone_22 (by decide) ?_
  refine lv_iload_n hx hb dX6_gone_4 rfl (lv_at hl 0 rfl) ?_
  refine lv_bipush (v := 11) hx hb dX6_gone_5 (by decide) ?_
  refine lv_icmp_ge (tgt := 25) hx hb dX6_gone_7 (by decide) (fun c7_7 => ?_) (fun c7_7 => ?_)
  · exact absurd c7_7 (by decide)
  refine lv_iload_n hx hb dX6_gone_10 rfl (lv_at hl 1 rfl) ?_
  refine lv_aload_n hx hb dX6_gone_11 rfl (lv_at hl 2 rfl) ?_
  refine va_get (D := D) (ci := 6) (v := .ref mw) (C := RX6) (T := TX6) (N := 39) hx hb hts in_X6_gone_X6 hown hK hP 0 rfl rfl 2 (by decide) (hts _ wd_X6_gone_0) (fun _ h9 => h9) rfl dX6_gone_12 ?_
  refine lv_iload_n hx hb dX6_gone_15 rfl (lv_at hl 0 rfl) ?_
  refine va_iald hx hb hK hP 1 0 rfl rfl (show ¬ ((4 : Int32) < 0 ∨ 11 ≤ (4 : Int32).toNatClampNeg) by decide) dX6_gone_16 ?_
  refine lv_topi (fun z_8 ez_8 => ?_)
  obtain rfl : z_8 = (fw 4) := ez_8
  refine lv_iadd hx hb dX6_gone_17 ?_
  refine lv_istore_n (lv' := [(1, .int ((((0 + (fw 1)) + (fw 2)) + (fw 3)) + (fw 4))), (2, .int 4), (0, .ref m0)]) hx hb dX6_gone_18 rfl hl (by decide) rfl (fun ls hl => ?_)
  refine lv_iinc (v := 5) (lv' := [(2, .int 5), (1, .int ((((0 + (fw 1)) + (fw 2)) + (fw 3)) + (fw 4))), (0, .ref m0)]) hx hb dX6_gone_19 hl (k := 1) rfl (by decide) (by decide) rfl (fun ls hl => ?_)
  refine lv_goto (tgt := 4) hx hb dX6_gone_22 (by decide) ?_
  refine lv_iload_n hx hb dX6_gone_4 rfl (lv_at hl 0 rfl) ?_
  refine lv_bipush (v := 11) hx hb dX6_gone_5 (by decide) ?_
  refine lv_icmp_ge (tgt := 25) hx hb dX6_gone_7 (by decide) (fun c7_9 => ?_) (fun c7_9 => ?_)
  · exact absurd c7_9 (by decide)
  refine lv_iload_n hx hb dX6_gone_10 rfl (lv_at hl 1 rfl) ?_
  refine lv_aload_n hx hb dX6_gone_11 rfl (lv_at hl 2 rfl) ?_
  refine va_get (D := D) (ci := 6) (v := .ref mw) (C := RX6) (T := TX6) (N := 39) hx hb hts in_X6_gone_X6 hown hK hP 0 rfl rfl 2 (by decide) (hts _ wd_X6_gone_0) (fun _ h9 => h9) rfl dX6_gone_12 ?_
  refine lv_iload_n hx hb dX6_gone_15 rfl (lv_at hl 0 rfl) ?_
  refine va_iald hx hb hK hP 1 0 rfl rfl (show ¬ ((5 : Int32) < 0 ∨ 11 ≤ (5 : Int32).toNatClampNeg) by decide) dX6_gone_16 ?_
  refine lv_topi (fun z_10 ez_10 => ?_)
  obtain rfl : z_10 = (fw 5) := ez_10
  refine lv_iadd hx hb dX6_gone_17 ?_
  refine lv_istore_n (lv' := [(1, .int (((((0 + (fw 1)) + (fw 2)) + (fw 3)) + (fw 4)) + (fw 5))), (2, .int 5), (0, .ref m0)]) hx hb dX6_gone_18 rfl hl (by decide) rfl (fun ls hl => ?_)
  refine lv_iinc (v := 6) (lv' := [(2, .int 6), (1, .int (((((0 + (fw 1)) + (fw 2)) + (fw 3)) + (fw 4)) + (fw 5))), (0, .ref m0)]) hx hb dX6_gone_19 hl (k := 1) rfl (by decide) (by decide) rfl (fun ls hl => ?_)
  refine lv_goto (tgt := 4) hx hb dX6_gone_22 (by decide) ?_
  refine lv_iload_n hx hb dX6_gone_4 rfl (lv_at hl 0 rfl) ?_
  refine lv_bipush (v := 11) hx hb dX6_gone_5 (by decide) ?_
  refine lv_icmp_ge (tgt := 25) hx hb dX6_gone_7 (by decide) (fun c7_11 => ?_) (fun c7_11 => ?_)
  · exact absurd c7_11 (by decide)
  refine lv_iload_n hx hb dX6_gone_10 rfl (lv_at hl 1 rfl) ?_
  refine lv_aload_n hx hb dX6_gone_11 rfl (lv_at hl 2 rfl) ?_
  refine va_get (D := D) (ci := 6) (v := .ref mw) (C := RX6) (T := TX6) (N := 39) hx hb hts in_X6_gone_X6 hown hK hP 0 rfl rfl 2 (by decide) (hts _ wd_X6_gone_0) (fun _ h9 => h9) rfl dX6_gone_12 ?_
  refine lv_iload_n hx hb dX6_gone_15 rfl (lv_at hl 0 rfl) ?_
  refine va_iald hx hb hK hP 1 0 rfl rfl (show ¬ ((6 : Int32) < 0 ∨ 11 ≤ (6 : Int32).toNatClampNeg) by decide) dX6_gone_16 ?_
  refine lv_topi (fun z_12 ez_12 => ?_)
  obtain rfl : z_12 = (fw 6) := ez_12
  refine lv_iadd hx hb dX6_gone_17 ?_
  refine lv_istore_n (lv' := [(1, .int ((((((0 + (fw 1)) + (fw 2)) + (fw 3)) + (fw 4)) + (fw 5)) + (fw 6))), (2, .int 6), (0, .ref m0)]) hx hb dX6_gone_18 rfl hl (by decide) rfl (fun ls hl => ?_)
  refine lv_iinc (v := 7) (lv' := [(2, .int 7), (1, .int ((((((0 + (fw 1)) + (fw 2)) + (fw 3)) + (fw 4)) + (fw 5)) + (fw 6))), (0, .ref m0)]) hx hb dX6_gone_19 hl (k := 1) rfl (by decide) (by decide) rfl (fun ls hl => ?_)
  refine lv_goto (tgt := 4) hx hb dX6_gone_22 (by decide) ?_
  refine lv_iload_n hx hb dX6_gone_4 rfl (lv_at hl 0 rfl) ?_
  refine lv_bipush (v := 11) hx hb dX6_gone_5 (by decide) ?_
  refine lv_icmp_ge (tgt := 25) hx hb dX6_gone_7 (by decide) (fun c7_13 => ?_) (fun c7_13 => ?_)
  · exact absurd c7_13 (by decide)
  refine lv_iload_n hx hb dX6_gone_10 rfl (lv_at hl 1 rfl) ?_
  refine lv_aload_n hx hb dX6_gone_11 rfl (lv_at hl 2 rfl) ?_
  refine va_get (D := D) (ci := 6) (v := .ref mw) (C := RX6) (T := TX6) (N := 39) hx hb hts in_X6_gone_X6 hown hK hP 0 rfl rfl 2 (by decide) (hts _ wd_X6_gone_0) (fun _ h9 => h9) rfl dX6_gone_12 ?_
  refine lv_iload_n hx hb dX6_gone_15 rfl (lv_at hl 0 rfl) ?_
  refine va_iald hx hb hK hP 1 0 rfl rfl (show ¬ ((7 : Int32) < 0 ∨ 11 ≤ (7 : Int32).toNatClampNeg) by decide) dX6_gone_16 ?_
  refine lv_topi (fun z_14 ez_14 => ?_)
  obtain rfl : z_14 = (fw 7) := ez_14
  refine lv_iadd hx hb dX6_gone_17 ?_
  refine lv_istore_n (lv' := [(1, .int (((((((0 + (fw 1)) + (fw 2)) + (fw 3)) + (fw 4)) + (fw 5)) + (fw 6)) + (fw 7))), (2, .int 7), (0, .ref m0)]) hx hb dX6_gone_18 rfl hl (by decide) rfl (fun ls hl => ?_)
  refine lv_iinc (v := 8) (lv' := [(2, .int 8), (1, .int (((((((0 + (fw 1)) + (fw 2)) + (fw 3)) + (fw 4)) + (fw 5)) + (fw 6)) + (fw 7))), (0, .ref m0)]) hx hb dX6_gone_19 hl (k := 1) rfl (by decide) (by decide) rfl (fun ls hl => ?_)
  refine lv_goto (tgt := 4) hx hb dX6_gone_22 (by decide) ?_
  refine lv_iload_n hx hb dX6_gone_4 rfl (lv_at hl 0 rfl) ?_
  refine lv_bipush (v := 11) hx hb dX6_gone_5 (by decide) ?_
  refine lv_icmp_ge (tgt := 25) hx hb dX6_gone_7 (by decide) (fun c7_15 => ?_) (fun c7_15 => ?_)
  · exact absurd c7_15 (by decide)
  refine lv_iload_n hx hb dX6_gone_10 rfl (lv_at hl 1 rfl) ?_
  refine lv_aload_n hx hb dX6_gone_11 rfl (lv_at hl 2 rfl) ?_
  refine va_get (D := D) (ci := 6) (v := .ref mw) (C := RX6) (T := TX6) (N := 39) hx hb hts in_X6_gone_X6 hown hK hP 0 rfl rfl 2 (by decide) (hts _ wd_X6_gone_0) (fun _ h9 => h9) rfl dX6_gone_12 ?_
  refine lv_iload_n hx hb dX6_gone_15 rfl (lv_at hl 0 rfl) ?_
  refine va_iald hx hb hK hP 1 0 rfl rfl (show ¬ ((8 : Int32) < 0 ∨ 11 ≤ (8 : Int32).toNatClampNeg) by decide) dX6_gone_16 ?_
  refine lv_topi (fun z_16 ez_16 => ?_)
  obtain rfl : z_16 = (fw 8) := ez_16
  refine lv_iadd hx hb dX6_gone_17 ?_
  refine lv_istore_n (lv' := [(1, .int ((((((((0 + (fw 1)) + (fw 2)) + (fw 3)) + (fw 4)) + (fw 5)) + (fw 6)) + (fw 7)) + (fw 8))), (2, .int 8), (0, .ref m0)]) hx hb dX6_gone_18 rfl hl (by decide) rfl (fun ls hl => ?_)
  refine lv_iinc (v := 9) (lv' := [(2, .int 9), (1, .int ((((((((0 + (fw 1)) + (fw 2)) + (fw 3)) + (fw 4)) + (fw 5)) + (fw 6)) + (fw 7)) + (fw 8))), (0, .ref m0)]) hx hb dX6_gone_19 hl (k := 1) rfl (by decide) (by decide) rfl (fun ls hl => ?_)
  refine lv_goto (tgt := 4) hx hb dX6_gone_22 (by decide) ?_
  refine lv_iload_n hx hb dX6_gone_4 rfl (lv_at hl 0 rfl) ?_
  refine lv_bipush (v := 11) hx hb dX6_gone_5 (by decide) ?_
  refine lv_icmp_ge (tgt := 25) hx hb dX6_gone_7 (by decide) (fun c7_17 => ?_) (fun c7_17 => ?_)
  · exact absurd c7_17 (by decide)
  refine lv_iload_n hx hb dX6_gone_10 rfl (lv_at hl 1 rfl) ?_
  refine lv_aload_n hx hb dX6_gone_11 rfl (lv_at hl 2 rfl) ?_
  refine va_get (D := D) (ci := 6) (v := .ref mw) (C := RX6) (T := TX6) (N := 39) hx hb hts in_X6_gone_X6 hown hK hP 0 rfl rfl 2 (by decide) (hts _ wd_X6_gone_0) (fun _ h9 => h9) rfl dX6_gone_12 ?_
  refine lv_iload_n hx hb dX6_gone_15 rfl (lv_at hl 0 rfl) ?_
  refine va_iald hx hb hK hP 1 0 rfl rfl (show ¬ ((9 : Int32) < 0 ∨ 11 ≤ (9 : Int32).toNatClampNeg) by decide) dX6_gone_16 ?_
  refine lv_topi (fun z_18 ez_18 => ?_)
  obtain rfl : z_18 = (fw 9) := ez_18
  refine lv_iadd hx hb dX6_gone_17 ?_
  refine lv_istore_n (lv' := [(1, .int (((((((((0 + (fw 1)) + (fw 2)) + (fw 3)) + (fw 4)) + (fw 5)) + (fw 6)) + (fw 7)) + (fw 8)) + (fw 9))), (2, .int 9), (0, .ref m0)]) hx hb dX6_gone_18 rfl hl (by decide) rfl (fun ls hl => ?_)
  refine lv_iinc (v := 10) (lv' := [(2, .int 10), (1, .int (((((((((0 + (fw 1)) + (fw 2)) + (fw 3)) + (fw 4)) + (fw 5)) + (fw 6)) + (fw 7)) + (fw 8)) + (fw 9))), (0, .ref m0)]) hx hb dX6_gone_19 hl (k := 1) rfl (by decide) (by decide) rfl (fun ls hl => ?_)
  refine lv_goto (tgt := 4) hx hb dX6_gone_22 (by decide) ?_
  refine lv_iload_n hx hb dX6_gone_4 rfl (lv_at hl 0 rfl) ?_
  refine lv_bipush (v := 11) hx hb dX6_gone_5 (by decide) ?_
  refine lv_icmp_ge (tgt := 25) hx hb dX6_gone_7 (by decide) (fun c7_19 => ?_) (fun c7_19 => ?_)
  · exact absurd c7_19 (by decide)
  refine lv_iload_n hx hb dX6_gone_10 rfl (lv_at hl 1 rfl) ?_
  refine lv_aload_n hx hb dX6_gone_11 rfl (lv_at hl 2 rfl) ?_
  refine va_get (D := D) (ci := 6) (v := .ref mw) (C := RX6) (T := TX6) (N := 39) hx hb hts in_X6_gone_X6 hown hK hP 0 rfl rfl 2 (by decide) (hts _ wd_X6_gone_0) (fun _ h9 => h9) rfl dX6_gone_12 ?_
  refine lv_iload_n hx hb dX6_gone_15 rfl (lv_at hl 0 rfl) ?_
  refine va_iald hx hb hK hP 1 0 rfl rfl (show ¬ ((10 : Int32) < 0 ∨ 11 ≤ (10 : Int32).toNatClampNeg) by decide) dX6_gone_16 ?_
  refine lv_topi (fun z_20 ez_20 => ?_)
  obtain rfl : z_20 = (fw 10) := ez_20
  refine lv_iadd hx hb dX6_gone_17 ?_
  refine lv_istore_n (lv' := [(1, .int ((((((((((0 + (fw 1)) + (fw 2)) + (fw 3)) + (fw 4)) + (fw 5)) + (fw 6)) + (fw 7)) + (fw 8)) + (fw 9)) + (fw 10))), (2, .int 10), (0, .ref m0)]) hx hb dX6_gone_18 rfl hl (by decide) rfl (fun ls hl => ?_)
  refine lv_iinc (v := 11) (lv' := [(2, .int 11), (1, .int ((((((((((0 + (fw 1)) + (fw 2)) + (fw 3)) + (fw 4)) + (fw 5)) + (fw 6)) + (fw 7)) + (fw 8)) + (fw 9)) + (fw 10))), (0, .ref m0)]) hx hb dX6_gone_19 hl (k := 1) rfl (by decide) (by decide) rfl (fun ls hl => ?_)
  refine lv_goto (tgt := 4) hx hb dX6_gone_22 (by decide) ?_
  refine lv_iload_n hx hb dX6_gone_4 rfl (lv_at hl 0 rfl) ?_
  refine lv_bipush (v := 11) hx hb dX6_gone_5 (by decide) ?_
  refine lv_icmp_ge (tgt := 25) hx hb dX6_gone_7 (by decide) (fun c7_21 => ?_) (fun c7_21 => ?_)
  · skip
    refine lv_iload_n hx hb dX6_gone_25 rfl (lv_at hl 1 rfl) ?_
    exact W.iret (v := ((((((((((0 + (fw 1)) + (fw 2)) + (fw 3)) + (fw 4)) + (fw 5)) + (fw 6)) + (fw 7)) + (fw 8)) + (fw 9)) + (fw 10))) hx hb hr (fun t ht hW => ⟨_, rfl, rfl, ht⟩) (fun q hq => absurd hq List.not_mem_nil) dX6_gone_26
  · exact absurd c7_21 (by decide)

set_option maxRecDepth 20000 in
theorem in_X6_counted_X6 : ∀ w ∈ wsX60, w ∈ wsX6_counted := by decide +kernel
set_option maxRecDepth 20000 in
theorem wd_X6_counted_0 : Cond.fieldLink RX6 19 "ShoeTableModel" "marks" "[I" ∈ wsX6_counted := by decide +kernel
set_option maxRecDepth 20000 in
theorem wd_X6_counted_1 : Cond.fieldLink RX6 16 "ShoeTableModel" "went" "[I" ∈ wsX6_counted := by decide +kernel
set_option maxHeartbeats 400000 in
set_option maxRecDepth 100000 in
/-- X6_counted -/
theorem c_X6_counted (l : Launch) (D : va_G) (cI cJ cQ : ClassId) (m0 : Nat) (ms : Nat) (mf : Nat) (mw : Nat) (mk : Nat) (mtold : Bool) (mh : Nat) (hands : Int32) (mup : Int32) (targ : Int32) (stan : Int32) (soft : Int32) (doub : Int32) (spli : Int32) (giv : Int32) (bon : Int32) (drw : Int64) (mbank : Int32) (q0 : Nat) (q1 : Nat) (q2 : Nat) (mheaps : Int32) (q3 : Nat) (q4 : Nat) (q5 : Nat) (q6 : Nat) (q7 : Nat) (msum : Int32) (hasA : Bool) (mcards : Int32) (mpair : Int32) (shown : Int32) (want : Int32) (mwin : Int32) (isCh : Bool) (mbest : Int32) (k0 : Nat) (k1 : Nat) (k2 : Nat) (k3 : Nat) (fw : Nat → Int32) (mm : Nat → Int32)  : Met l yX6_counted wsX6_counted ({ frames := 0, cells := 0, slots := 0, locals := 0 }) (va_Pc [.ref m0] (rP D (gTy cI cJ cQ) [(m0, .inr (6, [.ref ms, .ref mf, .ref mw, .ref mk, .int (bI mtold), .ref mh, .int hands, .int mup, .int targ, .int stan, .int soft, .int doub, .int spli, .int giv, .int bon, .long drw, .int mbank, .ref q0, .ref q1, .ref q2, .int mheaps, .ref q3, .ref q4, .ref q5, .ref q6, .ref q7, .int msum, .int (bI hasA), .int mcards, .int mpair, .int shown, .int want, .int mwin, .int (bI isCh), .int mbest, .ref k0, .ref k1, .ref k2, .ref k3])), (mw, .inl (cI, 11, .inl fw)), (mk, .inl (cI, 11, .inl mm))])) (vp_Si (fun r => r = cntG mm fw)) 0 0 (fun _ => False) := by
  refine Met.ofW (cc := cX6_counted) (maxL := 3) (ret := (some .int)) (by decide) rfl ?_
  intro p e s m args below meth c s₁ B hml hv
  obtain ⟨rfl, hP, hK⟩ := hv
  have hx := B.exec
  have hb := B.bytes
  have hr := B.returns
  have hts := atoms_spec (ws := wsX6_counted) B.pre
  have hown : s.vm.findClass RX6 = some m.cls := findClass_of_methodNamed B.named
  have hlocks := B.notSynchronized
  have hl := lv_entry ([.ref m0]) (n := 3) (Nat.le_of_ble_eq_true rfl)
  rw [lg_entry_eq]
  generalize (lg_sl ([.ref m0]) ++ List.replicate (3 - (lg_sl ([.ref m0])).length) Slot.unset).toArray = ls at hl ⊢
  have hl : lv_has ls 3 [(0, .ref m0)] := hl
  refine lv_iconst (v := 0) hx hb dX6_counted_0 (by decide) ?_
  refine lv_istore_n (lv' := [(1, .int 0), (0, .ref m0)]) hx hb dX6_counted_1 rfl hl (by decide) rfl (fun ls hl => ?_)
  refine lv_iconst (v := 1) hx hb dX6_counted_2 (by decide) ?_
  refine lv_istore_n (lv' := [(2, .int 1), (1, .int 0), (0, .ref m0)]) hx hb dX6_counted_3 rfl hl (by decide) rfl (fun ls hl => ?_)
  refine lv_iload_n hx hb dX6_counted_4 rfl (lv_at hl 0 rfl) ?_
  refine lv_bipush (v := 11) hx hb dX6_counted_5 (by decide) ?_
  refine lv_icmp_ge (tgt := 32) hx hb dX6_counted_7 (by decide) (fun c7_1 => ?_) (fun c7_1 => ?_)
  · exact absurd c7_1 (by decide)
  refine lv_iload_n hx hb dX6_counted_10 rfl (lv_at hl 1 rfl) ?_
  refine lv_aload_n hx hb dX6_counted_11 rfl (lv_at hl 2 rfl) ?_
  refine va_get (D := D) (ci := 6) (v := .ref mk) (C := RX6) (T := TX6) (N := 39) hx hb hts in_X6_counted_X6 hown hK hP 0 rfl rfl 3 (by decide) (hts _ wd_X6_counted_0) (fun _ h9 => h9) rfl dX6_counted_12 ?_
  refine lv_iload_n hx hb dX6_counted_15 rfl (lv_at hl 0 rfl) ?_
  refine va_iald hx hb hK hP 2 0 rfl rfl (show ¬ ((1 : Int32) < 0 ∨ 11 ≤ (1 : Int32).toNatClampNeg) by decide) dX6_counted_16 ?_
  refine lv_topi (fun z_2 ez_2 => ?_)
  obtain rfl : z_2 = (mm 1) := ez_2
  refine lv_aload_n hx hb dX6_counted_17 rfl (lv_at hl 2 rfl) ?_
  refine va_get (D := D) (ci := 6) (v := .ref mw) (C := RX6) (T := TX6) (N := 39) hx hb hts in_X6_counted_X6 hown hK hP 0 rfl rfl 2 (by decide) (hts _ wd_X6_counted_1) (fun _ h9 => h9) rfl dX6_counted_18 ?_
  refine lv_iload_n hx hb dX6_counted_21 rfl (lv_at hl 0 rfl) ?_
  refine va_iald hx hb hK hP 1 0 rfl rfl (show ¬ ((1 : Int32) < 0 ∨ 11 ≤ (1 : Int32).toNatClampNeg) by decide) dX6_counted_22 ?_
  refine lv_topi (fun z_3 ez_3 => ?_)
  obtain rfl : z_3 = (fw 1) := ez_3
  refine lv_imul hx hb dX6_counted_23 ?_
  refine lv_iadd hx hb dX6_counted_24 ?_
  refine lv_istore_n (lv' := [(1, .int (0 + ((mm 1) * (fw 1)))), (2, .int 1), (0, .ref m0)]) hx hb dX6_counted_25 rfl hl (by decide) rfl (fun ls hl => ?_)
  refine lv_iinc (v := 2) (lv' := [(2, .int 2), (1, .int (0 + ((mm 1) * (fw 1)))), (0, .ref m0)]) hx hb dX6_counted_26 hl (k := 1) rfl (by decide) (by decide) rfl (fun ls hl => ?_)
  refine lv_goto (tgt := 4) hx hb dX6_counted_29 (by decide) ?_
  refine lv_iload_n hx hb dX6_counted_4 rfl (lv_at hl 0 rfl) ?_
  refine lv_bipush (v := 11) hx hb dX6_counted_5 (by decide) ?_
  refine lv_icmp_ge (tgt := 32) hx hb dX6_counted_7 (by decide) (fun c7_4 => ?_) (fun c7_4 => ?_)
  · exact absurd c7_4 (by decide)
  refine lv_iload_n hx hb dX6_counted_10 rfl (lv_at hl 1 rfl) ?_
  refine lv_aload_n hx hb dX6_counted_11 rfl (lv_at hl 2 rfl) ?_
  refine va_get (D := D) (ci := 6) (v := .ref mk) (C := RX6) (T := TX6) (N := 39) hx hb hts in_X6_counted_X6 hown hK hP 0 rfl rfl 3 (by decide) (hts _ wd_X6_counted_0) (fun _ h9 => h9) rfl dX6_counted_12 ?_
  refine lv_iload_n hx hb dX6_counted_15 rfl (lv_at hl 0 rfl) ?_
  refine va_iald hx hb hK hP 2 0 rfl rfl (show ¬ ((2 : Int32) < 0 ∨ 11 ≤ (2 : Int32).toNatClampNeg) by decide) dX6_counted_16 ?_
  refine lv_topi (fun z_5 ez_5 => ?_)
  obtain rfl : z_5 = (mm 2) := ez_5
  refine lv_aload_n hx hb dX6_counted_17 rfl (lv_at hl 2 rfl) ?_
  refine va_get (D := D) (ci := 6) (v := .ref mw) (C := RX6) (T := TX6) (N := 39) hx hb hts in_X6_counted_X6 hown hK hP 0 rfl rfl 2 (by decide) (hts _ wd_X6_counted_1) (fun _ h9 => h9) rfl dX6_counted_18 ?_
  refine lv_iload_n hx hb dX6_counted_21 rfl (lv_at hl 0 rfl) ?_
  refine va_iald hx hb hK hP 1 0 rfl rfl (show ¬ ((2 : Int32) < 0 ∨ 11 ≤ (2 : Int32).toNatClampNeg) by decide) dX6_counted_22 ?_
  refine lv_topi (fun z_6 ez_6 => ?_)
  obtain rfl : z_6 = (fw 2) := ez_6
  refine lv_imul hx hb dX6_counted_23 ?_
  refine lv_iadd hx hb dX6_counted_24 ?_
  refine lv_istore_n (lv' := [(1, .int ((0 + ((mm 1) * (fw 1))) + ((mm 2) * (fw 2)))), (2, .int 2), (0, .ref m0)]) hx hb dX6_counted_25 rfl hl (by decide) rfl (fun ls hl => ?_)
  refine lv_iinc (v := 3) (lv' := [(2, .int 3), (1, .int ((0 + ((mm 1) * (fw 1))) + ((mm 2) * (fw 2)))), (0, .ref m0)]) hx hb dX6_counted_26 hl (k := 1) rfl (by decide) (by decide) rfl (fun ls hl => ?_)
  refine lv_goto (tgt := 4) hx hb dX6_counted_29 (by decide) ?_
  refine lv_iload_n hx hb dX6_counted_4 rfl (lv_at hl 0 rfl) ?_
  refine lv_bipush (v := 11) hx hb dX6_counted_5 (by decide) ?_
  refine lv_icmp_ge (tgt := 32) hx hb dX6_counted_7 (by decide) (fun c7_7 => ?_) (fun c7_7 => ?_)
  · exact absurd c7_7 (by decide)
  refine lv_iload_n hx hb dX6_counted_10 rfl (lv_at hl 1 rfl) ?_
  refine lv_aload_n hx hb dX6_counted_11 rfl (lv_at hl 2 rfl) ?_
  refine va_get (D := D) (ci := 6) (v := .ref mk) (C := RX6) (T := TX6) (N := 39) hx hb hts in_X6_counted_X6 hown hK hP 0 rfl rfl 3 (by decide) (hts _ wd_X6_counted_0) (fun _ h9 => h9) rfl dX6_counted_12 ?_
  refine lv_iload_n hx hb dX6_counted_15 rfl (lv_at hl 0 rfl) ?_
  refine va_iald hx hb hK hP 2 0 rfl rfl (show ¬ ((3 : Int32) < 0 ∨ 11 ≤ (3 : Int32).toNatClampNeg) by decide) dX6_counted_16 ?_
  refine lv_topi (fun z_8 ez_8 => ?_)
  obtain rfl : z_8 = (mm 3) := ez_8
  refine lv_aload_n hx hb dX6_counted_17 rfl (lv_at hl 2 rfl) ?_
  refine va_get (D := D) (ci := 6) (v := .ref mw) (C := RX6) (T := TX6) (N := 39) hx hb hts in_X6_counted_X6 hown hK hP 0 rfl rfl 2 (by decide) (hts _ wd_X6_counted_1) (fun _ h9 => h9) rfl dX6_counted_18 ?_
  refine lv_iload_n hx hb dX6_counted_21 rfl (lv_at hl 0 rfl) ?_
  refine va_iald hx hb hK hP 1 0 rfl rfl (show ¬ ((3 : Int32) < 0 ∨ 11 ≤ (3 : Int32).toNatClampNeg) by decide) dX6_counted_22 ?_
  refine lv_topi (fun z_9 ez_9 => ?_)
  obtain rfl : z_9 = (fw 3) := ez_9
  refine lv_imul hx hb dX6_counted_23 ?_
  refine lv_iadd hx hb dX6_counted_24 ?_
  refine lv_istore_n (lv' := [(1, .int (((0 + ((mm 1) * (fw 1))) + ((mm 2) * (fw 2))) + ((mm 3) * (fw 3)))), (2, .int 3), (0, .ref m0)]) hx hb dX6_counted_25 rfl hl (by decide) rfl (fun ls hl => ?_)
  refine lv_iinc (v := 4) (lv' := [(2, .int 4), (1, .int (((0 + ((mm 1) * (fw 1))) + ((mm 2) * (fw 2))) + ((mm 3) * (fw 3)))), (0, .ref m0)]) hx hb dX6_counted_26 hl (k := 1) rfl (by decide) (by decide) rfl (fun ls hl => ?_)
  refine lv_goto (tgt := 4) hx hb dX6_counted_29 (by decide) ?_
  refine lv_iload_n hx hb dX6_counted_4 rfl (lv_at hl 0 rfl) ?_
  refine lv_bipush (v := 11) hx hb dX6_counted_5 (by decide) ?_
  refine lv_icmp_ge (tgt := 32) hx hb dX6_counted_7 (by decide) (fun c7_10 => ?_) (fun c7_10 => ?_)
  · exact absurd c7_10 (by decide)
  refine lv_iload_n hx hb dX6_counted_10 rfl (lv_at hl 1 rfl) ?_
  refine lv_aload_n hx hb dX6_counted_11 rfl (lv_at hl 2 rfl) ?_
  refine va_get (D := D) (ci := 6) (v := .ref mk) (C := RX6) (T := TX6) (N := 39) hx hb hts in_X6_counted_X6 hown hK hP 0 rfl rfl 3 (by decide) (hts _ wd_X6_counted_0) (fun _ h9 => h9) rfl dX6_counted_12 ?_
  refine lv_iload_n hx hb dX6_counted_15 rfl (lv_at hl 0 rfl) ?_
  refine va_iald hx hb hK hP 2 0 rfl rfl (show ¬ ((4 : Int32) < 0 ∨ 11 ≤ (4 : Int32).toNatClampNeg) by decide) dX6_counted_16 ?_
  refine lv_topi (fun z_11 ez_11 => ?_)
  obtain rfl : z_11 = (mm 4) := ez_11
  refine lv_aload_n hx hb dX6_counted_17 rfl (lv_at hl 2 rfl) ?_
  refine va_get (D := D) (ci := 6) (v := .ref mw) (C := RX6) (T := TX6) (N := 39) hx hb hts in_X6_counted_X6 hown hK hP 0 rfl rfl 2 (by decide) (hts _ wd_X6_counted_1) (fun _ h9 => h9) rfl dX6_counted_18 ?_
  refine lv_iload_n hx hb dX6_counted_21 rfl (lv_at hl 0 rfl) ?_
  refine va_iald hx hb hK hP 1 0 rfl rfl (show ¬ ((4 : Int32) < 0 ∨ 11 ≤ (4 : Int32).toNatClampNeg) by decide) dX6_counted_22 ?_
  refine lv_topi (fun z_12 ez_12 => ?_)
  obtain rfl : z_12 = (fw 4) := ez_12
  refine lv_imul hx hb dX6_counted_23 ?_
  refine lv_iadd hx hb dX6_counted_24 ?_
  refine lv_istore_n (lv' := [(1, .int ((((0 + ((mm 1) * (fw 1))) + ((mm 2) * (fw 2))) + ((mm 3) * (fw 3))) + ((mm 4) * (fw 4)))), (2, .int 4), (0, .ref m0)]) hx hb dX6_counted_25 rfl hl (by decide) rfl (fun ls hl => ?_)
  refine lv_iinc (v := 5) (lv' := [(2, .int 5), (1, .int ((((0 + ((mm 1) * (fw 1))) + ((mm 2) * (fw 2))) + ((mm 3) * (fw 3))) + ((mm 4) * (fw 4)))), (0, .ref m0)]) hx hb dX6_counted_26 hl (k := 1) rfl (by decide) (by decide) rfl (fun ls hl => ?_)
  refine lv_goto (tgt := 4) hx hb dX6_counted_29 (by decide) ?_
  refine lv_iload_n hx hb dX6_counted_4 rfl (lv_at hl 0 rfl) ?_
  refine lv_bipush (v := 11) hx hb dX6_counted_5 (by decide) ?_
  refine lv_icmp_ge (tgt := 32) hx hb dX6_counted_7 (by decide) (fun c7_13 => ?_) (fun c7_13 => ?_)
  · exact absurd c7_13 (by decide)
  refine lv_iload_n hx hb dX6_counted_10 rfl (lv_at hl 1 rfl) ?_
  refine lv_aload_n hx hb dX6_counted_11 rfl (lv_at hl 2 rfl) ?_
  refine va_get (D := D) (ci := 6) (v := .ref mk) (C := RX6) (T := TX6) (N := 39) hx hb hts in_X6_counted_X6 hown hK hP 0 rfl rfl 3 (by decide) (hts _ wd_X6_counted_0) (fun _ h9 => h9) rfl dX6_counted_12 ?_
  refine lv_iload_n hx hb dX6_counted_15 rfl (lv_at hl 0 rfl) ?_
  refine va_iald hx hb hK hP 2 0 rfl rfl (show ¬ ((5 : Int32) < 0 ∨ 11 ≤ (5 : Int32).toNatClampNeg) by decide) dX6_counted_16 ?_
  refine lv_topi (fun z_14 ez_14 => ?_)
  obtain rfl : z_14 = (mm 5) := ez_14
  refine lv_aload_n hx hb dX6_counted_17 rfl (lv_at hl 2 rfl) ?_
  refine va_get (D := D) (ci := 6) (v := .ref mw) (C := RX6) (T := TX6) (N := 39) hx hb hts in_X6_counted_X6 hown hK hP 0 rfl rfl 2 (by decide) (hts _ wd_X6_counted_1) (fun _ h9 => h9) rfl dX6_counted_18 ?_
  refine lv_iload_n hx hb dX6_counted_21 rfl (lv_at hl 0 rfl) ?_
  refine va_iald hx hb hK hP 1 0 rfl rfl (show ¬ ((5 : Int32) < 0 ∨ 11 ≤ (5 : Int32).toNatClampNeg) by decide) dX6_counted_22 ?_
  refine lv_topi (fun z_15 ez_15 => ?_)
  obtain rfl : z_15 = (fw 5) := ez_15
  refine lv_imul hx hb dX6_counted_23 ?_
  refine lv_iadd hx hb dX6_counted_24 ?_
  refine lv_istore_n (lv' := [(1, .int (((((0 + ((mm 1) * (fw 1))) + ((mm 2) * (fw 2))) + ((mm 3) * (fw 3))) + ((mm 4) * (fw 4))) + ((mm 5) * (fw 5)))), (2, .int 5), (0, .ref m0)]) hx hb dX6_counted_25 rfl hl (by decide) rfl (fun ls hl => ?_)
  refine lv_iinc (v := 6) (lv' := [(2, .int 6), (1, .int (((((0 + ((mm 1) * (fw 1))) + ((mm 2) * (fw 2))) + ((mm 3) * (fw 3))) + ((mm 4) * (fw 4))) + ((mm 5) * (fw 5)))), (0, .ref m0)]) hx hb dX6_counted_26 hl (k := 1) rfl (by decide) (by decide) rfl (fun ls hl => ?_)
  refine lv_goto (tgt := 4) hx hb dX6_counted_29 (by decide) ?_
  refine lv_iload_n hx hb dX6_counted_4 rfl (lv_at hl 0 rfl) ?_
  refine lv_bipush (v := 11) hx hb dX6_counted_5 (by decide) ?_
  refine lv_icmp_ge (tgt := 32) hx hb dX6_counted_7 (by decide) (fun c7_16 => ?_) (fun c7_16 => ?_)
  · exact absurd c7_16 (by decide)
  refine lv_iload_n hx hb dX6_counted_10 rfl (lv_at hl 1 rfl) ?_
  refine lv_aload_n hx hb dX6_counted_11 rfl (lv_at hl 2 rfl) ?_
  refine va_get (D := D) (ci := 6) (v := .ref mk) (C := RX6) (T := TX6) (N := 39) hx hb hts in_X6_counted_X6 hown hK hP 0 rfl rfl 3 (by decide) (hts _ wd_X6_counted_0) (fun _ h9 => h9) rfl dX6_counted_12 ?_
  refine lv_iload_n hx hb dX6_counted_15 rfl (lv_at hl 0 rfl) ?_
  refine va_iald hx hb hK hP 2 0 rfl rfl (show ¬ ((6 : Int32) < 0 ∨ 11 ≤ (6 : Int32).toNatClampNeg) by decide) dX6_counted_16 ?_
  refine lv_topi (fun z_17 ez_17 => ?_)
  obtain rfl : z_17 = (mm 6) := ez_17
  refine lv_aload_n hx hb dX6_counted_17 rfl (lv_at hl 2 rfl) ?_
  refine va_get (D := D) (ci := 6) (v := .ref mw) (C := RX6) (T := TX6) (N := 39) hx hb hts in_X6_counted_X6 hown hK hP 0 rfl rfl 2 (by decide) (hts _ wd_X6_counted_1) (fun _ h9 => h9) rfl dX6_counted_18 ?_
  refine lv_iload_n hx hb dX6_counted_21 rfl (lv_at hl 0 rfl) ?_
  refine va_iald hx hb hK hP 1 0 rfl rfl (show ¬ ((6 : Int32) < 0 ∨ 11 ≤ (6 : Int32).toNatClampNeg) by decide) dX6_counted_22 ?_
  refine lv_topi (fun z_18 ez_18 => ?_)
  obtain rfl : z_18 = (fw 6) := ez_18
  refine lv_imul hx hb dX6_counted_23 ?_
  refine lv_iadd hx hb dX6_counted_24 ?_
  refine lv_istore_n (lv' := [(1, .int ((((((0 + ((mm 1) * (fw 1))) + ((mm 2) * (fw 2))) + ((mm 3) * (fw 3))) + ((mm 4) * (fw 4))) + ((mm 5) * (fw 5))) + ((mm 6) * (fw 6)))), (2, .int 6), (0, .ref m0)]) hx hb dX6_counted_25 rfl hl (by decide) rfl (fun ls hl => ?_)
  refine lv_iinc (v := 7) (lv' := [(2, .int 7), (1, .int ((((((0 + ((mm 1) * (fw 1))) + ((mm 2) * (fw 2))) + ((mm 3) * (fw 3))) + ((mm 4) * (fw 4))) + ((mm 5) * (fw 5))) + ((mm 6) * (fw 6)))), (0, .ref m0)]) hx hb dX6_counted_26 hl (k := 1) rfl (by decide) (by decide) rfl (fun ls hl => ?_)
  refine lv_goto (tgt := 4) hx hb dX6_counted_29 (by decide) ?_
  refine lv_iload_n hx hb dX6_counted_4 rfl (lv_at hl 0 rfl) ?_
  refine lv_bipush (v := 11) hx hb dX6_counted_5 (by decide) ?_
  refine lv_icmp_ge (tgt := 32) hx hb dX6_counted_7 (by decide) (fun c7_19 => ?_) (fun c7_19 => ?_)
  · exact absurd c7_19 (by decide)
  refine lv_iload_n hx hb dX6_counted_10 rfl (lv_at hl 1 rfl) ?_
  refine lv_aload_n hx hb dX6_counted_11 rfl (lv_at hl 2 rfl) ?_
  refine va_get (D := D) (ci := 6) (v := .ref mk) (C := RX6) (T := TX6) (N := 39) hx hb hts in_X6_counted_X6 hown hK hP 0 rfl rfl 3 (by decide) (hts _ wd_X6_counted_0) (fun _ h9 => h9) rfl dX6_counted_12 ?_
  refine lv_iload_n hx hb dX6_counted_15 rfl (lv_at hl 0 rfl) ?_
  refine va_iald hx hb hK hP 2 0 rfl rfl (show ¬ ((7 : Int32) < 0 ∨ 11 ≤ (7 : Int32).toNatClampNeg) by decide) dX6_counted_16 ?_
  refine lv_topi (fun z_20 ez_20 => ?_)
  obtain rfl : z_20 = (mm 7) := ez_20
  refine lv_aload_n hx hb dX6_counted_17 rfl (lv_at hl 2 rfl) ?_
  refine va_get (D := D) (ci := 6) (v := .ref mw) (C := RX6) (T := TX6) (N := 39) hx hb hts in_X6_counted_X6 hown hK hP 0 rfl rfl 2 (by decide) (hts _ wd_X6_counted_1) (fun _ h9 => h9) rfl dX6_counted_18 ?_
  refine lv_iload_n hx hb dX6_counted_21 rfl (lv_at hl 0 rfl) ?_
  refine va_iald hx hb hK hP 1 0 rfl rfl (show ¬ ((7 : Int32) < 0 ∨ 11 ≤ (7 : Int32).toNatClampNeg) by decide) dX6_counted_22 ?_
  refine lv_topi (fun z_21 ez_21 => ?_)
  obtain rfl : z_21 = (fw 7) := ez_21
  refine lv_imul hx hb dX6_counted_23 ?_
  refine lv_iadd hx hb dX6_counted_24 ?_
  refine lv_istore_n (lv' := [(1, .int (((((((0 + ((mm 1) * (fw 1))) + ((mm 2) * (fw 2))) + ((mm 3) * (fw 3))) + ((mm 4) * (fw 4))) + ((mm 5) * (fw 5))) + ((mm 6) * (fw 6))) + ((mm 7) * (fw 7)))), (2, .int 7), (0, .ref m0)]) hx hb dX6_counted_25 rfl hl (by decide) rfl (fun ls hl => ?_)
  refine lv_iinc (v := 8) (lv' := [(2, .int 8), (1, .int (((((((0 + ((mm 1) * (fw 1))) + ((mm 2) * (fw 2))) + ((mm 3) * (fw 3))) + ((mm 4) * (fw 4))) + ((mm 5) * (fw 5))) + ((mm 6) * (fw 6))) + ((mm 7) * (fw 7)))), (0, .ref m0)]) hx hb dX6_counted_26 hl (k := 1) rfl (by decide) (by decide) rfl (fun ls hl => ?_)
  refine lv_goto (tgt := 4) hx hb dX6_counted_29 (by decide) ?_
  refine lv_iload_n hx hb dX6_counted_4 rfl (lv_at hl 0 rfl) ?_
  refine lv_bipush (v := 11) hx hb dX6_counted_5 (by decide) ?_
  refine lv_icmp_ge (tgt := 32) hx hb dX6_counted_7 (by decide) (fun c7_22 => ?_) (fun c7_22 => ?_)
  · exact absurd c7_22 (by decide)
  refine lv_iload_n hx hb dX6_counted_10 rfl (lv_at hl 1 rfl) ?_
  refine lv_aload_n hx hb dX6_counted_11 rfl (lv_at hl 2 rfl) ?_
  refine va_get (D := D) (ci := 6) (v := .ref mk) (C := RX6) (T := TX6) (N := 39) hx hb hts in_X6_counted_X6 hown hK hP 0 rfl rfl 3 (by decide) (hts _ wd_X6_counted_0) (fun _ h9 => h9) rfl dX6_counted_12 ?_
  refine lv_iload_n hx hb dX6_counted_15 rfl (lv_at hl 0 rfl) ?_
  refine va_iald hx hb hK hP 2 0 rfl rfl (show ¬ ((8 : Int32) < 0 ∨ 11 ≤ (8 : Int32).toNatClampNeg) by decide) dX6_counted_16 ?_
  refine lv_topi (fun z_23 ez_23 => ?_)
  obtain rfl : z_23 = (mm 8) := ez_23
  refine lv_aload_n hx hb dX6_counted_17 rfl (lv_at hl 2 rfl) ?_
  refine va_get (D := D) (ci := 6) (v := .ref mw) (C := RX6) (T := TX6) (N := 39) hx hb hts in_X6_counted_X6 hown hK hP 0 rfl rfl 2 (by decide) (hts _ wd_X6_counted_1) (fun _ h9 => h9) rfl dX6_counted_18 ?_
  refine lv_iload_n hx hb dX6_counted_21 rfl (lv_at hl 0 rfl) ?_
  refine va_iald hx hb hK hP 1 0 rfl rfl (show ¬ ((8 : Int32) < 0 ∨ 11 ≤ (8 : Int32).toNatClampNeg) by decide) dX6_counted_22 ?_
  refine lv_topi (fun z_24 ez_24 => ?_)
  obtain rfl : z_24 = (fw 8) := ez_24
  refine lv_imul hx hb dX6_counted_23 ?_
  refine lv_iadd hx hb dX6_counted_24 ?_
  refine lv_istore_n (lv' := [(1, .int ((((((((0 + ((mm 1) * (fw 1))) + ((mm 2) * (fw 2))) + ((mm 3) * (fw 3))) + ((mm 4) * (fw 4))) + ((mm 5) * (fw 5))) + ((mm 6) * (fw 6))) + ((mm 7) * (fw 7))) + ((mm 8) * (fw 8)))), (2, .int 8), (0, .ref m0)]) hx hb dX6_counted_25 rfl hl (by decide) rfl (fun ls hl => ?_)
  refine lv_iinc (v := 9) (lv' := [(2, .int 9), (1, .int ((((((((0 + ((mm 1) * (fw 1))) + ((mm 2) * (fw 2))) + ((mm 3) * (fw 3))) + ((mm 4) * (fw 4))) + ((mm 5) * (fw 5))) + ((mm 6) * (fw 6))) + ((mm 7) * (fw 7))) + ((mm 8) * (fw 8)))), (0, .ref m0)]) hx hb dX6_counted_26 hl (k := 1) rfl (by decide) (by decide) rfl (fun ls hl => ?_)
  refine lv_goto (tgt := 4) hx hb dX6_counted_29 (by decide) ?_
  refine lv_iload_n hx hb dX6_counted_4 rfl (lv_at hl 0 rfl) ?_
  refine lv_bipush (v := 11) hx hb dX6_counted_5 (by decide) ?_
  refine lv_icmp_ge (tgt := 32) hx hb dX6_counted_7 (by decide) (fun c7_25 => ?_) (fun c7_25 => ?_)
  · exact absurd c7_25 (by decide)
  refine lv_iload_n hx hb dX6_counted_10 rfl (lv_at hl 1 rfl) ?_
  refine lv_aload_n hx hb dX6_counted_11 rfl (lv_at hl 2 rfl) ?_
  refine va_get (D := D) (ci := 6) (v := .ref mk) (C := RX6) (T := TX6) (N := 39) hx hb hts in_X6_counted_X6 hown hK hP 0 rfl rfl 3 (by decide) (hts _ wd_X6_counted_0) (fun _ h9 => h9) rfl dX6_counted_12 ?_
  refine lv_iload_n hx hb dX6_counted_15 rfl (lv_at hl 0 rfl) ?_
  refine va_iald hx hb hK hP 2 0 rfl rfl (show ¬ ((9 : Int32) < 0 ∨ 11 ≤ (9 : Int32).toNatClampNeg) by decide) dX6_counted_16 ?_
  refine lv_topi (fun z_26 ez_26 => ?_)
  obtain rfl : z_26 = (mm 9) := ez_26
  refine lv_aload_n hx hb dX6_counted_17 rfl (lv_at hl 2 rfl) ?_
  refine va_get (D := D) (ci := 6) (v := .ref mw) (C := RX6) (T := TX6) (N := 39) hx hb hts in_X6_counted_X6 hown hK hP 0 rfl rfl 2 (by decide) (hts _ wd_X6_counted_1) (fun _ h9 => h9) rfl dX6_counted_18 ?_
  refine lv_iload_n hx hb dX6_counted_21 rfl (lv_at hl 0 rfl) ?_
  refine va_iald hx hb hK hP 1 0 rfl rfl (show ¬ ((9 : Int32) < 0 ∨ 11 ≤ (9 : Int32).toNatClampNeg) by decide) dX6_counted_22 ?_
  refine lv_topi (fun z_27 ez_27 => ?_)
  obtain rfl : z_27 = (fw 9) := ez_27
  refine lv_imul hx hb dX6_counted_23 ?_
  refine lv_iadd hx hb dX6_counted_24 ?_
  refine lv_istore_n (lv' := [(1, .int (((((((((0 + ((mm 1) * (fw 1))) + ((mm 2) * (fw 2))) + ((mm 3) * (fw 3))) + ((mm 4) * (fw 4))) + ((mm 5) * (fw 5))) + ((mm 6) * (fw 6))) + ((mm 7) * (fw 7))) + ((mm 8) * (fw 8))) + ((mm 9) * (fw 9)))), (2, .int 9), (0, .ref m0)]) hx hb dX6_counted_25 rfl hl (by decide) rfl (fun ls hl => ?_)
  refine lv_iinc (v := 10) (lv' := [(2, .int 10), (1, .int (((((((((0 + ((mm 1) * (fw 1))) + ((mm 2) * (fw 2))) + ((mm 3) * (fw 3))) + ((mm 4) * (fw 4))) + ((mm 5) * (fw 5))) + ((mm 6) * (fw 6))) + ((mm 7) * (fw 7))) + ((mm 8) * (fw 8))) + ((mm 9) * (fw 9)))), (0, .ref m0)]) hx hb dX6_counted_26 hl (k := 1) rfl (by decide) (by decide) rfl (fun ls hl => ?_)
  refine lv_goto (tgt := 4) hx hb dX6_counted_29 (by decide) ?_
  refine lv_iload_n hx hb dX6_counted_4 rfl (lv_at hl 0 rfl) ?_
  refine lv_bipush (v := 11) hx hb dX6_counted_5 (by decide) ?_
  refine lv_icmp_ge (tgt := 32) hx hb dX6_counted_7 (by decide) (fun c7_28 => ?_) (fun c7_28 => ?_)
  · exact absurd c7_28 (by decide)
  refine lv_iload_n hx hb dX6_counted_10 rfl (lv_at hl 1 rfl) ?_
  refine lv_aload_n hx hb dX6_counted_11 rfl (lv_at hl 2 rfl) ?_
  refine va_get (D := D) (ci := 6) (v := .ref mk) (C := RX6) (T := TX6) (N := 39) hx hb hts in_X6_counted_X6 hown hK hP 0 rfl rfl 3 (by decide) (hts _ wd_X6_counted_0) (fun _ h9 => h9) rfl dX6_counted_12 ?_
  refine lv_iload_n hx hb dX6_counted_15 rfl (lv_at hl 0 rfl) ?_
  refine va_iald hx hb hK hP 2 0 rfl rfl (show ¬ ((10 : Int32) < 0 ∨ 11 ≤ (10 : Int32).toNatClampNeg) by decide) dX6_counted_16 ?_
  refine lv_topi (fun z_29 ez_29 => ?_)
  obtain rfl : z_29 = (mm 10) := ez_29
  refine lv_aload_n hx hb dX6_counted_17 rfl (lv_at hl 2 rfl) ?_
  refine va_get (D := D) (ci := 6) (v := .ref mw) (C := RX6) (T := TX6) (N := 39) hx hb hts in_X6_counted_X6 hown hK hP 0 rfl rfl 2 (by decide) (hts _ wd_X6_counted_1) (fun _ h9 => h9) rfl dX6_counted_18 ?_
  refine lv_iload_n hx hb dX6_counted_21 rfl (lv_at hl 0 rfl) ?_
  refine va_iald hx hb hK hP 1 0 rfl rfl (show ¬ ((10 : Int32) < 0 ∨ 11 ≤ (10 : Int32).toNatClampNeg) by decide) dX6_counted_22 ?_
  refine lv_topi (fun z_30 ez_30 => ?_)
  obtain rfl : z_30 = (fw 10) := ez_30
  refine lv_imul hx hb dX6_counted_23 ?_
  refine lv_iadd hx hb dX6_counted_24 ?_
  refine lv_istore_n (lv' := [(1, .int ((((((((((0 + ((mm 1) * (fw 1))) + ((mm 2) * (fw 2))) + ((mm 3) * (fw 3))) + ((mm 4) * (fw 4))) + ((mm 5) * (fw 5))) + ((mm 6) * (fw 6))) + ((mm 7) * (fw 7))) + ((mm 8) * (fw 8))) + ((mm 9) * (fw 9))) + ((mm 10) * (fw 10)))), (2, .int 10), (0, .ref m0)]) hx hb dX6_counted_25 rfl hl (by decide) rfl (fun ls hl => ?_)
  refine lv_iinc (v := 11) (lv' := [(2, .int 11), (1, .int ((((((((((0 + ((mm 1) * (fw 1))) + ((mm 2) * (fw 2))) + ((mm 3) * (fw 3))) + ((mm 4) * (fw 4))) + ((mm 5) * (fw 5))) + ((mm 6) * (fw 6))) + ((mm 7) * (fw 7))) + ((mm 8) * (fw 8))) + ((mm 9) * (fw 9))) + ((mm 10) * (fw 10)))), (0, .ref m0)]) hx hb dX6_counted_26 hl (k := 1) rfl (by decide) (by decide) rfl (fun ls hl => ?_)
  refine lv_goto (tgt := 4) hx hb dX6_counted_29 (by decide) ?_
  refine lv_iload_n hx hb dX6_counted_4 rfl (lv_at hl 0 rfl) ?_
  refine lv_bipush (v := 11) hx hb dX6_counted_5 (by decide) ?_
  refine lv_icmp_ge (tgt := 32) hx hb dX6_counted_7 (by decide) (fun c7_31 => ?_) (fun c7_31 => ?_)
  · skip
    refine lv_iload_n hx hb dX6_counted_32 rfl (lv_at hl 1 rfl) ?_
    exact W.iret (v := ((((((((((0 + ((mm 1) * (fw 1))) + ((mm 2) * (fw 2))) + ((mm 3) * (fw 3))) + ((mm 4) * (fw 4))) + ((mm 5) * (fw 5))) + ((mm 6) * (fw 6))) + ((mm 7) * (fw 7))) + ((mm 8) * (fw 8))) + ((mm 9) * (fw 9))) + ((mm 10) * (fw 10)))) hx hb hr (fun t ht hW => ⟨_, rfl, rfl, ht⟩) (fun q hq => absurd hq List.not_mem_nil) dX6_counted_33
  · exact absurd c7_31 (by decide)

set_option maxRecDepth 20000 in
theorem in_X6_seed_X6 : ∀ w ∈ wsX60, w ∈ wsX6_seed := by decide +kernel
set_option maxRecDepth 20000 in
theorem wd_X6_seed_0 : Cond.fieldLink RX6 44 "ShoeTableModel" "draw" "J" ∈ wsX6_seed := by decide +kernel
set_option maxHeartbeats 400000 in
set_option maxRecDepth 100000 in
/-- X6_seed -/
theorem c_X6_seed (l : Launch) (D : va_G) (cI cJ cQ : ClassId) (sz : Nat) (m0 : Nat) (ms : Nat) (mf : Nat) (mw : Nat) (mk : Nat) (mtold : Bool) (mh : Nat) (hands : Int32) (mup : Int32) (targ : Int32) (stan : Int32) (soft : Int32) (doub : Int32) (spli : Int32) (giv : Int32) (bon : Int32) (drw : Int64) (mbank : Int32) (q0 : Nat) (q1 : Nat) (q2 : Nat) (mheaps : Int32) (q3 : Nat) (q4 : Nat) (q5 : Nat) (q6 : Nat) (q7 : Nat) (msum : Int32) (hasA : Bool) (mcards : Int32) (mpair : Int32) (shown : Int32) (want : Int32) (mwin : Int32) (isCh : Bool) (mbest : Int32) (k0 : Nat) (k1 : Nat) (k2 : Nat) (k3 : Nat) (p0 : Int32)  : Met l yX6_seed wsX6_seed ({ frames := 0, cells := 0, slots := 0, locals := 0 }) (va_Pc [.ref m0, .int p0] (mP D (gTy cI cJ cQ) [(m0, .inr (6, [.ref ms, .ref mf, .ref mw, .ref mk, .int (bI mtold), .ref mh, .int hands, .int mup, .int targ, .int stan, .int soft, .int doub, .int spli, .int giv, .int bon, .long drw, .int mbank, .ref q0, .ref q1, .ref q2, .int mheaps, .ref q3, .ref q4, .ref q5, .ref q6, .ref q7, .int msum, .int (bI hasA), .int mcards, .int mpair, .int shown, .int want, .int mwin, .int (bI isCh), .int mbest, .ref k0, .ref k1, .ref k2, .ref k3]))] sz)) (va_Qi (fun (r : Int32) (u : Int64) => match u with | drw2 => r = 1 ∧ drw2 = p0.toInt64) (fun (u : Int64) t => match u with | drw2 => mB D (gTy cI cJ cQ) (va_A [(m0, .inr (6, [.ref ms, .ref mf, .ref mw, .ref mk, .int (bI mtold), .ref mh, .int hands, .int mup, .int targ, .int stan, .int soft, .int doub, .int spli, .int giv, .int bon, .long drw, .int mbank, .ref q0, .ref q1, .ref q2, .int mheaps, .ref q3, .ref q4, .ref q5, .ref q6, .ref q7, .int msum, .int (bI hasA), .int mcards, .int mpair, .int shown, .int want, .int mwin, .int (bI isCh), .int mbest, .ref k0, .ref k1, .ref k2, .ref k3]))] sz) [(m0, .inr (6, [.ref ms, .ref mf, .ref mw, .ref mk, .int (bI mtold), .ref mh, .int hands, .int mup, .int targ, .int stan, .int soft, .int doub, .int spli, .int giv, .int bon, .long drw2, .int mbank, .ref q0, .ref q1, .ref q2, .int mheaps, .ref q3, .ref q4, .ref q5, .ref q6, .ref q7, .int msum, .int (bI hasA), .int mcards, .int mpair, .int shown, .int want, .int mwin, .int (bI isCh), .int mbest, .ref k0, .ref k1, .ref k2, .ref k3]))] t) (va_A [(m0, .inr (6, [.ref ms, .ref mf, .ref mw, .ref mk, .int (bI mtold), .ref mh, .int hands, .int mup, .int targ, .int stan, .int soft, .int doub, .int spli, .int giv, .int bon, .long drw, .int mbank, .ref q0, .ref q1, .ref q2, .int mheaps, .ref q3, .ref q4, .ref q5, .ref q6, .ref q7, .int msum, .int (bI hasA), .int mcards, .int mpair, .int shown, .int want, .int mwin, .int (bI isCh), .int mbest, .ref k0, .ref k1, .ref k2, .ref k3]))] sz)) 0 0 (va_A [(m0, .inr (6, [.ref ms, .ref mf, .ref mw, .ref mk, .int (bI mtold), .ref mh, .int hands, .int mup, .int targ, .int stan, .int soft, .int doub, .int spli, .int giv, .int bon, .long drw, .int mbank, .ref q0, .ref q1, .ref q2, .int mheaps, .ref q3, .ref q4, .ref q5, .ref q6, .ref q7, .int msum, .int (bI hasA), .int mcards, .int mpair, .int shown, .int want, .int mwin, .int (bI isCh), .int mbest, .ref k0, .ref k1, .ref k2, .ref k3]))] sz) := by
  refine Met.ofW (cc := cX6_seed) (maxL := 2) (ret := (some .int)) (by decide) rfl ?_
  intro p e s m args below meth c s₁ B hml hv
  obtain ⟨rfl, hsz, hP, hK, hD0⟩ := hv
  have hx := B.exec
  have hb := B.bytes
  have hr := B.returns
  have hts := atoms_spec (ws := wsX6_seed) B.pre
  have hown : s.vm.findClass RX6 = some m.cls := findClass_of_methodNamed B.named
  have hlocks := B.notSynchronized
  subst hsz
  have hD := hD0.self (sz := s.heap.size)
  generalize hAe : va_A [(m0, .inr (6, [.ref ms, .ref mf, .ref mw, .ref mk, .int (bI mtold), .ref mh, .int hands, .int mup, .int targ, .int stan, .int soft, .int doub, .int spli, .int giv, .int bon, .long drw, .int mbank, .ref q0, .ref q1, .ref q2, .int mheaps, .ref q3, .ref q4, .ref q5, .ref q6, .ref q7, .int msum, .int (bI hasA), .int mcards, .int mpair, .int shown, .int want, .int mwin, .int (bI isCh), .int mbest, .ref k0, .ref k1, .ref k2, .ref k3]))] s.heap.size = A at hD ⊢
  have hA : ∀ q : Nat, s.heap.size ≤ q → A q := fun q h => by rw [← hAe]; exact Or.inr h
  have hS : va_S A s.heap s.heap [] := va_S.rf
  have hP : va_P D vwCl [(m0, .inr (6, [.ref ms, .ref mf, .ref mw, .ref mk, .int (bI mtold), .ref mh, .int hands, .int mup, .int targ, .int stan, .int soft, .int doub, .int spli, .int giv, .int bon, .long drw, .int mbank, .ref q0, .ref q1, .ref q2, .int mheaps, .ref q3, .ref q4, .ref q5, .ref q6, .ref q7, .int msum, .int (bI hasA), .int mcards, .int mpair, .int shown, .int want, .int mwin, .int (bI isCh), .int mbest, .ref k0, .ref k1, .ref k2, .ref k3]))] s.heap := hP
  have hl := lv_entry ([.ref m0, .int p0]) (n := 2) (Nat.le_of_ble_eq_true rfl)
  rw [lg_entry_eq]
  generalize (lg_sl ([.ref m0, .int p0]) ++ List.replicate (2 - (lg_sl ([.ref m0, .int p0])).length) Slot.unset).toArray = ls at hl ⊢
  have hl : lv_has ls 2 [(0, .ref m0), (1, .int p0)] := hl
  refine lv_aload_n hx hb dX6_seed_0 rfl (lv_at hl 0 rfl) ?_
  refine lv_iload_n hx hb dX6_seed_1 rfl (lv_at hl 1 rfl) ?_
  refine lv_i2l (v := p0.toInt64) hx hb dX6_seed_2 rfl ?_
  refine va_put (D := D) (ci := 6) (v := .long p0.toInt64) (ty := .long) (C := RX6) (T := TX6) (N := 39) hx hb hts in_X6_seed_X6 tyX6 tyX6_ok nmX6 hown hK hP hD hS 0 rfl rfl 15 (by decide) (hts _ wd_X6_seed_0) (fun _ h9 => h9) rfl (by decide +kernel) rfl rfl (Nat.le_of_ble_eq_true rfl) dX6_seed_3 (fun H locs hP hD hS => ?_)
  have hP : va_P D vwCl [(m0, .inr (6, [.ref ms, .ref mf, .ref mw, .ref mk, .int (bI mtold), .ref mh, .int hands, .int mup, .int targ, .int stan, .int soft, .int doub, .int spli, .int giv, .int bon, .long p0.toInt64, .int mbank, .ref q0, .ref q1, .ref q2, .int mheaps, .ref q3, .ref q4, .ref q5, .ref q6, .ref q7, .int msum, .int (bI hasA), .int mcards, .int mpair, .int shown, .int want, .int mwin, .int (bI isCh), .int mbest, .ref k0, .ref k1, .ref k2, .ref k3]))] H := hP
  have hD : va_D A [(m0, .inr (6, [.ref ms, .ref mf, .ref mw, .ref mk, .int (bI mtold), .ref mh, .int hands, .int mup, .int targ, .int stan, .int soft, .int doub, .int spli, .int giv, .int bon, .long p0.toInt64, .int mbank, .ref q0, .ref q1, .ref q2, .int mheaps, .ref q3, .ref q4, .ref q5, .ref q6, .ref q7, .int msum, .int (bI hasA), .int mcards, .int mpair, .int shown, .int want, .int mwin, .int (bI isCh), .int mbest, .ref k0, .ref k1, .ref k2, .ref k3]))] := hD
  refine lv_iconst (v := 1) hx hb dX6_seed_6 (by decide) ?_
  have hP9 := hP.sub (ws' := [(m0, .inr (6, [.ref ms, .ref mf, .ref mw, .ref mk, .int (bI mtold), .ref mh, .int hands, .int mup, .int targ, .int stan, .int soft, .int doub, .int spli, .int giv, .int bon, .long p0.toInt64, .int mbank, .ref q0, .ref q1, .ref q2, .int mheaps, .ref q3, .ref q4, .ref q5, .ref q6, .ref q7, .int msum, .int (bI hasA), .int mcards, .int mpair, .int shown, .int want, .int mwin, .int (bI isCh), .int mbest, .ref k0, .ref k1, .ref k2, .ref k3]))]) [0] rfl
  have hD9 := hD.sub (ws' := [(m0, .inr (6, [.ref ms, .ref mf, .ref mw, .ref mk, .int (bI mtold), .ref mh, .int hands, .int mup, .int targ, .int stan, .int soft, .int doub, .int spli, .int giv, .int bon, .long p0.toInt64, .int mbank, .ref q0, .ref q1, .ref q2, .int mheaps, .ref q3, .ref q4, .ref q5, .ref q6, .ref q7, .int msum, .int (bI hasA), .int mcards, .int mpair, .int shown, .int want, .int mwin, .int (bI isCh), .int mbest, .ref k0, .ref k1, .ref k2, .ref k3]))]) [0] (by decide) rfl
  exact W.iret (v := 1) hx hb hr (fun t ht hW => ⟨⟨1, p0.toInt64, rfl, (by first | rfl | trivial | (simp []; done) | rfl | (simp_all; done)), by rw [ht]; exact hP9, va_K.moved hW.alike hK, hD9⟩, hS.F ht⟩) hS.2.2 dX6_seed_7
