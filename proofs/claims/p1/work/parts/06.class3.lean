set_option maxRecDepth 20000 in
theorem in_X3_look_X3 : ∀ w ∈ wsX30, w ∈ wsX3_look := by decide +kernel
set_option maxRecDepth 20000 in
theorem wd_X3_look_0 : Cond.fieldLink RX3 12 "ShoeTable$Odds" "rules" "LShoeTable$Rules;" ∈ wsX3_look := by decide +kernel
set_option maxRecDepth 20000 in
theorem wd_X3_look_1 : Cond.fieldLink RX3 21 "ShoeTable$Odds" "shoe" "LShoeTable$Cards;" ∈ wsX3_look := by decide +kernel
set_option maxRecDepth 20000 in
theorem wd_X3_look_2 : Cond.fieldLink RX3 31 "ShoeTable$Odds" "hand" "LShoeTable$Hand;" ∈ wsX3_look := by decide +kernel
set_option maxRecDepth 20000 in
theorem wd_X3_look_3 : Cond.fieldLink RX3 35 "ShoeTable$Odds" "up" "I" ∈ wsX3_look := by decide +kernel
set_option maxHeartbeats 400000 in
set_option maxRecDepth 100000 in
/-- X3_look -/
theorem c_X3_look (l : Launch) (D : va_G) (cI cJ cQ : ClassId) (sz : Nat) (to : Nat) (o0 : Nat) (o1 : Nat) (o2 : Nat) (o3 : Nat) (o4 : Nat) (o5 : Nat) (o6 : Nat) (o7 : Nat) (o8 : Nat) (o9 : Nat) (v0 : Nat) (w2 : Nat → Int32) (v1 : Nat) (v3 : Nat) (tr : Nat) (ur : Nat) (w1 : Nat → Int32) (tc : Nat) (uc : Nat) (th : Nat) (uh : Nat)  : Met l yX3_look wsX3_look ({ frames := 2, cells := 0, slots := 0, locals := 61 }) (va_Pc [.ref to, .ref tr, .ref tc, .ref th, .int (-1)] (mP D (gTy cI cJ cQ) [(to, .inr (3, [.ref o0, .ref o1, .ref o2, .ref o3, .int (-1), .int (-1), .long 0, .ref o4, .ref o5, .ref o6, .ref o7, .int 0, .ref o8, .ref o9, .int 0])), (o0, .inr (4, [.ref v0])), (v0, .inl (cI, 7, .inl w2)), (o1, .inr (0, [.ref v1, .int 0])), (v1, .inl (cI, 11, .inl (fun _ => 0))), (o3, .inr (1, [.ref v3, .int 0, .int 0, .int 0])), (v3, .inl (cI, 12, .inl (fun _ => 0))), (tr, .inr (4, [.ref ur])), (ur, .inl (cI, 7, .inl w1)), (tc, .inr (0, [.ref uc, .int 0])), (uc, .inl (cI, 11, .inl (fun _ => 0))), (th, .inr (1, [.ref uh, .int 0, .int 0, .int 0])), (uh, .inl (cI, 12, .inl (fun _ => 0)))] sz)) (va_Qv (fun (u : Unit) => match u with | _ => True) (fun (u : Unit) t => match u with | _ => mB D (gTy cI cJ cQ) (va_A [(to, .inr (3, [.ref o0, .ref o1, .ref o2, .ref o3, .int (-1), .int (-1), .long 0, .ref o4, .ref o5, .ref o6, .ref o7, .int 0, .ref o8, .ref o9, .int 0])), (o0, .inr (4, [.ref v0])), (v0, .inl (cI, 7, .inl w2)), (o1, .inr (0, [.ref v1, .int 0])), (v1, .inl (cI, 11, .inl (fun _ => 0))), (o3, .inr (1, [.ref v3, .int 0, .int 0, .int 0])), (v3, .inl (cI, 12, .inl (fun _ => 0))), (tr, .inr (4, [.ref ur])), (ur, .inl (cI, 7, .inl w1)), (tc, .inr (0, [.ref uc, .int 0])), (uc, .inl (cI, 11, .inl (fun _ => 0))), (th, .inr (1, [.ref uh, .int 0, .int 0, .int 0])), (uh, .inl (cI, 12, .inl (fun _ => 0)))] sz) [(to, .inr (3, [.ref o0, .ref o1, .ref o2, .ref o3, .int (-1), .int (-1), .long 0, .ref o4, .ref o5, .ref o6, .ref o7, .int 0, .ref o8, .ref o9, .int 0])), (o3, .inr (1, [.ref v3, .int 0, .int 0, .int 0])), (tc, .inr (0, [.ref uc, .int 0])), (uc, .inl (cI, 11, .inl (fun _ => 0)))] t) (va_A [(to, .inr (3, [.ref o0, .ref o1, .ref o2, .ref o3, .int (-1), .int (-1), .long 0, .ref o4, .ref o5, .ref o6, .ref o7, .int 0, .ref o8, .ref o9, .int 0])), (o0, .inr (4, [.ref v0])), (v0, .inl (cI, 7, .inl w2)), (o1, .inr (0, [.ref v1, .int 0])), (v1, .inl (cI, 11, .inl (fun _ => 0))), (o3, .inr (1, [.ref v3, .int 0, .int 0, .int 0])), (v3, .inl (cI, 12, .inl (fun _ => 0))), (tr, .inr (4, [.ref ur])), (ur, .inl (cI, 7, .inl w1)), (tc, .inr (0, [.ref uc, .int 0])), (uc, .inl (cI, 11, .inl (fun _ => 0))), (th, .inr (1, [.ref uh, .int 0, .int 0, .int 0])), (uh, .inl (cI, 12, .inl (fun _ => 0)))] sz)) 0 0 (va_A [(to, .inr (3, [.ref o0, .ref o1, .ref o2, .ref o3, .int (-1), .int (-1), .long 0, .ref o4, .ref o5, .ref o6, .ref o7, .int 0, .ref o8, .ref o9, .int 0])), (o0, .inr (4, [.ref v0])), (v0, .inl (cI, 7, .inl w2)), (o1, .inr (0, [.ref v1, .int 0])), (v1, .inl (cI, 11, .inl (fun _ => 0))), (o3, .inr (1, [.ref v3, .int 0, .int 0, .int 0])), (v3, .inl (cI, 12, .inl (fun _ => 0))), (tr, .inr (4, [.ref ur])), (ur, .inl (cI, 7, .inl w1)), (tc, .inr (0, [.ref uc, .int 0])), (uc, .inl (cI, 11, .inl (fun _ => 0))), (th, .inr (1, [.ref uh, .int 0, .int 0, .int 0])), (uh, .inl (cI, 12, .inl (fun _ => 0)))] sz) := by
  refine Met.ofW (cc := cX3_look) (maxL := 5) (ret := none) (by decide) rfl ?_
  intro p e s m args below meth c s₁ B hml hv
  obtain ⟨rfl, hsz, hP, hK, hD0⟩ := hv
  have hx := B.exec
  have hb := B.bytes
  have hr := B.returns
  have hts := atoms_spec (ws := wsX3_look) B.pre
  have hown : s.vm.findClass RX3 = some m.cls := findClass_of_methodNamed B.named
  have hlocks := B.notSynchronized
  subst hsz
  have hD := hD0.self (sz := s.heap.size)
  generalize hAe : va_A [(to, .inr (3, [.ref o0, .ref o1, .ref o2, .ref o3, .int (-1), .int (-1), .long 0, .ref o4, .ref o5, .ref o6, .ref o7, .int 0, .ref o8, .ref o9, .int 0])), (o0, .inr (4, [.ref v0])), (v0, .inl (cI, 7, .inl w2)), (o1, .inr (0, [.ref v1, .int 0])), (v1, .inl (cI, 11, .inl (fun _ => 0))), (o3, .inr (1, [.ref v3, .int 0, .int 0, .int 0])), (v3, .inl (cI, 12, .inl (fun _ => 0))), (tr, .inr (4, [.ref ur])), (ur, .inl (cI, 7, .inl w1)), (tc, .inr (0, [.ref uc, .int 0])), (uc, .inl (cI, 11, .inl (fun _ => 0))), (th, .inr (1, [.ref uh, .int 0, .int 0, .int 0])), (uh, .inl (cI, 12, .inl (fun _ => 0)))] s.heap.size = A at hD ⊢
  have hA : ∀ q : Nat, s.heap.size ≤ q → A q := fun q h => by rw [← hAe]; exact Or.inr h
  have hS : va_S A s.heap s.heap [] := va_S.rf
  have hP : va_P D vwCl [(to, .inr (3, [.ref o0, .ref o1, .ref o2, .ref o3, .int (-1), .int (-1), .long 0, .ref o4, .ref o5, .ref o6, .ref o7, .int 0, .ref o8, .ref o9, .int 0])), (o0, .inr (4, [.ref v0])), (v0, .inl (cI, 7, .inl w2)), (o1, .inr (0, [.ref v1, .int 0])), (v1, .inl (cI, 11, .inl (fun _ => 0))), (o3, .inr (1, [.ref v3, .int 0, .int 0, .int 0])), (v3, .inl (cI, 12, .inl (fun _ => 0))), (tr, .inr (4, [.ref ur])), (ur, .inl (cI, 7, .inl w1)), (tc, .inr (0, [.ref uc, .int 0])), (uc, .inl (cI, 11, .inl (fun _ => 0))), (th, .inr (1, [.ref uh, .int 0, .int 0, .int 0])), (uh, .inl (cI, 12, .inl (fun _ => 0)))] s.heap := hP
  have hl := lv_entry ([.ref to, .ref tr, .ref tc, .ref th, .int (-1)]) (n := 5) (Nat.le_of_ble_eq_true rfl)
  rw [lg_entry_eq]
  generalize (lg_sl ([.ref to, .ref tr, .ref tc, .ref th, .int (-1)]) ++ List.replicate (5 - (lg_sl ([.ref to, .ref tr, .ref tc, .ref th, .int (-1)])).length) Slot.unset).toArray = ls at hl ⊢
  have hl : lv_has ls 5 [(0, .ref to), (1, .ref tr), (2, .ref tc), (3, .ref th), (4, .int (-1))] := hl
  refine lv_aload_n hx hb dX3_look_0 rfl (lv_at hl 0 rfl) ?_
  refine va_get (D := D) (ci := 3) (v := .ref o0) (C := RX3) (T := TX3) (N := 15) hx hb hts in_X3_look_X3 hown hK hP 0 rfl rfl 0 (by decide) (hts _ wd_X3_look_0) (fun _ h9 => h9) rfl dX3_look_1 ?_
  refine lv_aload_n hx hb dX3_look_4 rfl (lv_at hl 1 rfl) ?_
  have hPc := hP.sub (ws' := [(o0, .inr (4, [.ref v0])), (v0, .inl (cI, 7, .inl w2)), (tr, .inr (4, [.ref ur])), (ur, .inl (cI, 7, .inl w1))]) [1, 2, 7, 8] rfl
  have hDc := hD.sub (ws' := [(o0, .inr (4, [.ref v0])), (v0, .inl (cI, 7, .inl w2)), (tr, .inr (4, [.ref ur])), (ur, .inl (cI, 7, .inl w1))]) [1, 2, 7, 8] (by decide) rfl
  have hFc := va_free (wc := [(o0, .inr (4, [.ref v0])), (v0, .inl (cI, 7, .inl w2)), (tr, .inr (4, [.ref ur])), (ur, .inl (cI, 7, .inl w1))]) hD hS hA [1, 2, 7, 8] rfl
  refine va_callv (va_runV (As := [.ref tr]) (rest := []) ⟨hx, hb, hml, hown, hts⟩ (c_X4_copy l D cI cJ cQ _ o0 v0 (w2) tr ur (w1)) (cwV 1 hts gX3_look_X4_copy rfl rfl rfl (by decide +kernel) ⟨Nat.le_of_ble_eq_true rfl, Nat.le_of_ble_eq_true rfl⟩) (mP_preV (ci := 4) (q0 := 0) hPc hK hDc rfl rfl) rfl rfl hl.1 rfl (lv_room (Nat.le_of_ble_eq_true rfl)) dX3_look_5 ⟨Nat.le_of_ble_eq_true rfl, Nat.le_of_ble_eq_true rfl⟩) hS (fun q _ h => hFc q h) hFc (fun u_r_1 t H1 locs ht hvm hr_1 hB hz1 hk1 hS => ?_)
  obtain ⟨w2_2, rfl⟩ : ∃ z, z = u_r_1 := ⟨_, rfl⟩
  obtain ⟨hP1, hK1, hD1⟩ := hB
  rw [ht] at hP1
  try dsimp only at hr_1
  obtain ⟨hP, hD⟩ := va_join (wr := [(to, .inr (3, [.ref o0, .ref o1, .ref o2, .ref o3, .int (-1), .int (-1), .long 0, .ref o4, .ref o5, .ref o6, .ref o7, .int 0, .ref o8, .ref o9, .int 0])), (o1, .inr (0, [.ref v1, .int 0])), (v1, .inl (cI, 11, .inl (fun _ => 0))), (o3, .inr (1, [.ref v3, .int 0, .int 0, .int 0])), (v3, .inl (cI, 12, .inl (fun _ => 0))), (tc, .inr (0, [.ref uc, .int 0])), (uc, .inl (cI, 11, .inl (fun _ => 0))), (th, .inr (1, [.ref uh, .int 0, .int 0, .int 0])), (uh, .inl (cI, 12, .inl (fun _ => 0)))]) (w1 := [(o0, .inr (4, [.ref v0])), (v0, .inl (cI, 7, .inl w2_2)), (tr, .inr (4, [.ref ur])), (ur, .inl (cI, 7, .inl (w1)))]) hP hD [1, 2, 7, 8] [0, 3, 4, 5, 6, 9, 10, 11, 12] rfl rfl (by decide) (by decide) hk1 hFc hP1 hD1
  generalize H1 = H at hP hS ⊢
  have hP : va_P D vwCl [(to, .inr (3, [.ref o0, .ref o1, .ref o2, .ref o3, .int (-1), .int (-1), .long 0, .ref o4, .ref o5, .ref o6, .ref o7, .int 0, .ref o8, .ref o9, .int 0])), (o1, .inr (0, [.ref v1, .int 0])), (v1, .inl (cI, 11, .inl (fun _ => 0))), (o3, .inr (1, [.ref v3, .int 0, .int 0, .int 0])), (v3, .inl (cI, 12, .inl (fun _ => 0))), (tc, .inr (0, [.ref uc, .int 0])), (uc, .inl (cI, 11, .inl (fun _ => 0))), (th, .inr (1, [.ref uh, .int 0, .int 0, .int 0])), (uh, .inl (cI, 12, .inl (fun _ => 0))), (o0, .inr (4, [.ref v0])), (v0, .inl (cI, 7, .inl w2_2)), (tr, .inr (4, [.ref ur])), (ur, .inl (cI, 7, .inl (w1)))] H := hP
  have hD : va_D A [(to, .inr (3, [.ref o0, .ref o1, .ref o2, .ref o3, .int (-1), .int (-1), .long 0, .ref o4, .ref o5, .ref o6, .ref o7, .int 0, .ref o8, .ref o9, .int 0])), (o1, .inr (0, [.ref v1, .int 0])), (v1, .inl (cI, 11, .inl (fun _ => 0))), (o3, .inr (1, [.ref v3, .int 0, .int 0, .int 0])), (v3, .inl (cI, 12, .inl (fun _ => 0))), (tc, .inr (0, [.ref uc, .int 0])), (uc, .inl (cI, 11, .inl (fun _ => 0))), (th, .inr (1, [.ref uh, .int 0, .int 0, .int 0])), (uh, .inl (cI, 12, .inl (fun _ => 0))), (o0, .inr (4, [.ref v0])), (v0, .inl (cI, 7, .inl w2_2)), (tr, .inr (4, [.ref ur])), (ur, .inl (cI, 7, .inl (w1)))] := hD
  refine lv_aload_n hx hb dX3_look_8 rfl (lv_at hl 0 rfl) ?_
  refine va_get (D := D) (ci := 3) (v := .ref o1) (C := RX3) (T := TX3) (N := 15) hx hb hts in_X3_look_X3 hown hK hP 0 rfl rfl 1 (by decide) (hts _ wd_X3_look_1) (fun _ h9 => h9) rfl dX3_look_9 ?_
  refine lv_aload_n hx hb dX3_look_12 rfl (lv_at hl 2 rfl) ?_
  have hPc := hP.sub (ws' := [(o1, .inr (0, [.ref v1, .int 0])), (v1, .inl (cI, 11, .inl (fun _ => 0))), (tc, .inr (0, [.ref uc, .int 0])), (uc, .inl (cI, 11, .inl (fun _ => 0)))]) [1, 2, 5, 6] rfl
  have hDc := hD.sub (ws' := [(o1, .inr (0, [.ref v1, .int 0])), (v1, .inl (cI, 11, .inl (fun _ => 0))), (tc, .inr (0, [.ref uc, .int 0])), (uc, .inl (cI, 11, .inl (fun _ => 0)))]) [1, 2, 5, 6] (by decide) rfl
  have hFc := va_free (wc := [(o1, .inr (0, [.ref v1, .int 0])), (v1, .inl (cI, 11, .inl (fun _ => 0))), (tc, .inr (0, [.ref uc, .int 0])), (uc, .inl (cI, 11, .inl (fun _ => 0)))]) hD hS hA [1, 2, 5, 6] rfl
  refine va_callv (va_runV (As := [.ref tc]) (rest := []) ⟨hx, hb, hml, hown, hts⟩ (c_X0_copy l D cI cJ cQ _ o1 v1 0 (fun _ => 0) tc uc 0 (fun _ => 0)) (cwV 1 hts gX3_look_X0_copy rfl rfl rfl (by decide +kernel) ⟨Nat.le_of_ble_eq_true rfl, Nat.le_of_ble_eq_true rfl⟩) (mP_preV (ci := 0) (q0 := 0) hPc hK hDc rfl rfl) rfl rfl hl.1 rfl (lv_room (Nat.le_of_ble_eq_true rfl)) dX3_look_13 ⟨Nat.le_of_ble_eq_true rfl, Nat.le_of_ble_eq_true rfl⟩) hS (fun q _ h => hFc q h) hFc (fun u_r_3 t H1 locs ht hvm hr_3 hB hz1 hk1 hS => ?_)
  obtain ⟨tot2_4, f2_5⟩ := u_r_3
  obtain ⟨hP1, hK1, hD1⟩ := hB
  rw [ht] at hP1
  try dsimp only at hr_3
  obtain ⟨hP, hD⟩ := va_join (wr := [(to, .inr (3, [.ref o0, .ref o1, .ref o2, .ref o3, .int (-1), .int (-1), .long 0, .ref o4, .ref o5, .ref o6, .ref o7, .int 0, .ref o8, .ref o9, .int 0])), (o3, .inr (1, [.ref v3, .int 0, .int 0, .int 0])), (v3, .inl (cI, 12, .inl (fun _ => 0))), (th, .inr (1, [.ref uh, .int 0, .int 0, .int 0])), (uh, .inl (cI, 12, .inl (fun _ => 0))), (o0, .inr (4, [.ref v0])), (v0, .inl (cI, 7, .inl w2_2)), (tr, .inr (4, [.ref ur])), (ur, .inl (cI, 7, .inl (w1)))]) (w1 := [(o1, .inr (0, [.ref v1, .int tot2_4])), (v1, .inl (cI, 11, .inl f2_5)), (tc, .inr (0, [.ref uc, .int 0])), (uc, .inl (cI, 11, .inl (fun _ => 0)))]) hP hD [1, 2, 5, 6] [0, 3, 4, 7, 8, 9, 10, 11, 12] rfl rfl (by decide) (by decide) hk1 hFc hP1 hD1
  generalize H1 = H at hP hS ⊢
  have hP : va_P D vwCl [(to, .inr (3, [.ref o0, .ref o1, .ref o2, .ref o3, .int (-1), .int (-1), .long 0, .ref o4, .ref o5, .ref o6, .ref o7, .int 0, .ref o8, .ref o9, .int 0])), (o3, .inr (1, [.ref v3, .int 0, .int 0, .int 0])), (v3, .inl (cI, 12, .inl (fun _ => 0))), (th, .inr (1, [.ref uh, .int 0, .int 0, .int 0])), (uh, .inl (cI, 12, .inl (fun _ => 0))), (o0, .inr (4, [.ref v0])), (v0, .inl (cI, 7, .inl w2_2)), (tr, .inr (4, [.ref ur])), (ur, .inl (cI, 7, .inl (w1))), (o1, .inr (0, [.ref v1, .int tot2_4])), (v1, .inl (cI, 11, .inl f2_5)), (tc, .inr (0, [.ref uc, .int 0])), (uc, .inl (cI, 11, .inl (fun _ => 0)))] H := hP
  have hD : va_D A [(to, .inr (3, [.ref o0, .ref o1, .ref o2, .ref o3, .int (-1), .int (-1), .long 0, .ref o4, .ref o5, .ref o6, .ref o7, .int 0, .ref o8, .ref o9, .int 0])), (o3, .inr (1, [.ref v3, .int 0, .int 0, .int 0])), (v3, .inl (cI, 12, .inl (fun _ => 0))), (th, .inr (1, [.ref uh, .int 0, .int 0, .int 0])), (uh, .inl (cI, 12, .inl (fun _ => 0))), (o0, .inr (4, [.ref v0])), (v0, .inl (cI, 7, .inl w2_2)), (tr, .inr (4, [.ref ur])), (ur, .inl (cI, 7, .inl (w1))), (o1, .inr (0, [.ref v1, .int tot2_4])), (v1, .inl (cI, 11, .inl f2_5)), (tc, .inr (0, [.ref uc, .int 0])), (uc, .inl (cI, 11, .inl (fun _ => 0)))] := hD
  refine lv_aload_n hx hb dX3_look_16 rfl (lv_at hl 0 rfl) ?_
  refine va_get (D := D) (ci := 3) (v := .ref o3) (C := RX3) (T := TX3) (N := 15) hx hb hts in_X3_look_X3 hown hK hP 0 rfl rfl 3 (by decide) (hts _ wd_X3_look_2) (fun _ h9 => h9) rfl dX3_look_17 ?_
  refine lv_aload_n hx hb dX3_look_20 rfl (lv_at hl 3 rfl) ?_
  have hPc := hP.sub (ws' := [(o3, .inr (1, [.ref v3, .int 0, .int 0, .int 0])), (v3, .inl (cI, 12, .inl (fun _ => 0))), (th, .inr (1, [.ref uh, .int 0, .int 0, .int 0])), (uh, .inl (cI, 12, .inl (fun _ => 0)))]) [1, 2, 3, 4] rfl
  have hDc := hD.sub (ws' := [(o3, .inr (1, [.ref v3, .int 0, .int 0, .int 0])), (v3, .inl (cI, 12, .inl (fun _ => 0))), (th, .inr (1, [.ref uh, .int 0, .int 0, .int 0])), (uh, .inl (cI, 12, .inl (fun _ => 0)))]) [1, 2, 3, 4] (by decide) rfl
  have hFc := va_free (wc := [(o3, .inr (1, [.ref v3, .int 0, .int 0, .int 0])), (v3, .inl (cI, 12, .inl (fun _ => 0))), (th, .inr (1, [.ref uh, .int 0, .int 0, .int 0])), (uh, .inl (cI, 12, .inl (fun _ => 0)))]) hD hS hA [1, 2, 3, 4] rfl
  refine va_callv (va_runV (As := [.ref th]) (rest := []) ⟨hx, hb, hml, hown, hts⟩ (c_X1_copy l D cI cJ cQ _ o3 v3 0 0 false (fun _ => 0) th uh 0 0 false (fun _ => 0)) (cwV 1 hts gX3_look_X1_copy rfl rfl rfl (by decide +kernel) ⟨Nat.le_of_ble_eq_true rfl, Nat.le_of_ble_eq_true rfl⟩) (mP_preV (ci := 1) (q0 := 0) hPc hK hDc rfl rfl) rfl rfl hl.1 rfl (lv_room (Nat.le_of_ble_eq_true rfl)) dX3_look_21 ⟨Nat.le_of_ble_eq_true rfl, Nat.le_of_ble_eq_true rfl⟩) hS (fun q _ h => hFc q h) hFc (fun u_r_6 t H1 locs ht hvm hr_6 hB hz1 hk1 hS => ?_)
  obtain ⟨g2_7, rfl⟩ : ∃ z, z = u_r_6 := ⟨_, rfl⟩
  obtain ⟨hP1, hK1, hD1⟩ := hB
  rw [ht] at hP1
  try dsimp only at hr_6
  obtain ⟨hP, hD⟩ := va_join (wr := [(to, .inr (3, [.ref o0, .ref o1, .ref o2, .ref o3, .int (-1), .int (-1), .long 0, .ref o4, .ref o5, .ref o6, .ref o7, .int 0, .ref o8, .ref o9, .int 0])), (o0, .inr (4, [.ref v0])), (v0, .inl (cI, 7, .inl w2_2)), (tr, .inr (4, [.ref ur])), (ur, .inl (cI, 7, .inl (w1))), (o1, .inr (0, [.ref v1, .int tot2_4])), (v1, .inl (cI, 11, .inl f2_5)), (tc, .inr (0, [.ref uc, .int 0])), (uc, .inl (cI, 11, .inl (fun _ => 0)))]) (w1 := [(o3, .inr (1, [.ref v3, .int 0, .int 0, .int 0])), (v3, .inl (cI, 12, .inl g2_7)), (th, .inr (1, [.ref uh, .int 0, .int 0, .int 0])), (uh, .inl (cI, 12, .inl (fun _ => 0)))]) hP hD [1, 2, 3, 4] [0, 5, 6, 7, 8, 9, 10, 11, 12] rfl rfl (by decide) (by decide) hk1 hFc hP1 hD1
  generalize H1 = H at hP hS ⊢
  have hP : va_P D vwCl [(to, .inr (3, [.ref o0, .ref o1, .ref o2, .ref o3, .int (-1), .int (-1), .long 0, .ref o4, .ref o5, .ref o6, .ref o7, .int 0, .ref o8, .ref o9, .int 0])), (o0, .inr (4, [.ref v0])), (v0, .inl (cI, 7, .inl w2_2)), (tr, .inr (4, [.ref ur])), (ur, .inl (cI, 7, .inl (w1))), (o1, .inr (0, [.ref v1, .int tot2_4])), (v1, .inl (cI, 11, .inl f2_5)), (tc, .inr (0, [.ref uc, .int 0])), (uc, .inl (cI, 11, .inl (fun _ => 0))), (o3, .inr (1, [.ref v3, .int 0, .int 0, .int 0])), (v3, .inl (cI, 12, .inl g2_7)), (th, .inr (1, [.ref uh, .int 0, .int 0, .int 0])), (uh, .inl (cI, 12, .inl (fun _ => 0)))] H := hP
  have hD : va_D A [(to, .inr (3, [.ref o0, .ref o1, .ref o2, .ref o3, .int (-1), .int (-1), .long 0, .ref o4, .ref o5, .ref o6, .ref o7, .int 0, .ref o8, .ref o9, .int 0])), (o0, .inr (4, [.ref v0])), (v0, .inl (cI, 7, .inl w2_2)), (tr, .inr (4, [.ref ur])), (ur, .inl (cI, 7, .inl (w1))), (o1, .inr (0, [.ref v1, .int tot2_4])), (v1, .inl (cI, 11, .inl f2_5)), (tc, .inr (0, [.ref uc, .int 0])), (uc, .inl (cI, 11, .inl (fun _ => 0))), (o3, .inr (1, [.ref v3, .int 0, .int 0, .int 0])), (v3, .inl (cI, 12, .inl g2_7)), (th, .inr (1, [.ref uh, .int 0, .int 0, .int 0])), (uh, .inl (cI, 12, .inl (fun _ => 0)))] := hD
  refine lv_aload_n hx hb dX3_look_24 rfl (lv_at hl 0 rfl) ?_
  refine lv_iload hx hb dX3_look_25 (lv_at hl 4 rfl) ?_
  refine va_put (D := D) (ci := 3) (v := .int (-1)) (ty := .int) (C := RX3) (T := TX3) (N := 15) hx hb hts in_X3_look_X3 tyX3 tyX3_ok nmX3 hown hK hP hD hS 0 rfl rfl 4 (by decide) (hts _ wd_X3_look_3) (fun _ h9 => h9) rfl (by decide +kernel) rfl rfl (Nat.le_of_ble_eq_true rfl) dX3_look_27 (fun H locs hP hD hS => ?_)
  have hP : va_P D vwCl [(to, .inr (3, [.ref o0, .ref o1, .ref o2, .ref o3, .int (-1), .int (-1), .long 0, .ref o4, .ref o5, .ref o6, .ref o7, .int 0, .ref o8, .ref o9, .int 0])), (o0, .inr (4, [.ref v0])), (v0, .inl (cI, 7, .inl w2_2)), (tr, .inr (4, [.ref ur])), (ur, .inl (cI, 7, .inl (w1))), (o1, .inr (0, [.ref v1, .int tot2_4])), (v1, .inl (cI, 11, .inl f2_5)), (tc, .inr (0, [.ref uc, .int 0])), (uc, .inl (cI, 11, .inl (fun _ => 0))), (o3, .inr (1, [.ref v3, .int 0, .int 0, .int 0])), (v3, .inl (cI, 12, .inl g2_7)), (th, .inr (1, [.ref uh, .int 0, .int 0, .int 0])), (uh, .inl (cI, 12, .inl (fun _ => 0)))] H := hP
  have hD : va_D A [(to, .inr (3, [.ref o0, .ref o1, .ref o2, .ref o3, .int (-1), .int (-1), .long 0, .ref o4, .ref o5, .ref o6, .ref o7, .int 0, .ref o8, .ref o9, .int 0])), (o0, .inr (4, [.ref v0])), (v0, .inl (cI, 7, .inl w2_2)), (tr, .inr (4, [.ref ur])), (ur, .inl (cI, 7, .inl (w1))), (o1, .inr (0, [.ref v1, .int tot2_4])), (v1, .inl (cI, 11, .inl f2_5)), (tc, .inr (0, [.ref uc, .int 0])), (uc, .inl (cI, 11, .inl (fun _ => 0))), (o3, .inr (1, [.ref v3, .int 0, .int 0, .int 0])), (v3, .inl (cI, 12, .inl g2_7)), (th, .inr (1, [.ref uh, .int 0, .int 0, .int 0])), (uh, .inl (cI, 12, .inl (fun _ => 0)))] := hD
  have hP9 := hP.sub (ws' := [(to, .inr (3, [.ref o0, .ref o1, .ref o2, .ref o3, .int (-1), .int (-1), .long 0, .ref o4, .ref o5, .ref o6, .ref o7, .int 0, .ref o8, .ref o9, .int 0])), (o3, .inr (1, [.ref v3, .int 0, .int 0, .int 0])), (tc, .inr (0, [.ref uc, .int 0])), (uc, .inl (cI, 11, .inl (fun _ => 0)))]) [0, 9, 7, 8] rfl
  have hD9 := hD.sub (ws' := [(to, .inr (3, [.ref o0, .ref o1, .ref o2, .ref o3, .int (-1), .int (-1), .long 0, .ref o4, .ref o5, .ref o6, .ref o7, .int 0, .ref o8, .ref o9, .int 0])), (o3, .inr (1, [.ref v3, .int 0, .int 0, .int 0])), (tc, .inr (0, [.ref uc, .int 0])), (uc, .inl (cI, 11, .inl (fun _ => 0)))]) [0, 9, 7, 8] (by decide) rfl
  exact W.vret hx hb hr (fun t ht hW => ⟨⟨(), rfl, (by first | rfl | trivial | (simp [hr_1, hr_3, hr_6]; done) | ((try first | rw [if_pos hr_1] | rw [if_neg hr_1]); (try first | rw [if_pos hr_3] | rw [if_neg hr_3]); (try first | rw [if_pos hr_6] | rw [if_neg hr_6]); first | done | rfl | trivial) | (simp_all; done)), by rw [ht]; exact hP9, va_K.moved hW.alike hK, hD9⟩, hS.F ht⟩) hS.2.2 dX3_look_30

set_option maxRecDepth 20000 in
theorem in_X3_isThere_X3 : ∀ w ∈ wsX30, w ∈ wsX3_isThere := by decide +kernel
set_option maxRecDepth 20000 in
theorem wd_X3_isThere_0 : Cond.fieldLink RX3 31 "ShoeTable$Odds" "hand" "LShoeTable$Hand;" ∈ wsX3_isThere := by decide +kernel
set_option maxRecDepth 20000 in
theorem in_X3_isThere_X1 : ∀ w ∈ wsX10, w ∈ wsX3_isThere := by decide +kernel
set_option maxRecDepth 20000 in
theorem wd_X3_isThere_1 : Cond.fieldLink RX3 82 "ShoeTable$Hand" "size" "I" ∈ wsX3_isThere := by decide +kernel
set_option maxHeartbeats 400000 in
set_option maxRecDepth 100000 in
/-- X3_isThere -/
theorem c_X3_isThere (l : Launch) (D : va_G) (cI cJ cQ : ClassId) (to : Nat) (o0 : Nat) (o1 : Nat) (o2 : Nat) (o3 : Nat) (o4 : Nat) (o5 : Nat) (o6 : Nat) (o7 : Nat) (o8 : Nat) (o9 : Nat) (v3 : Nat) (p0 : Int32)  : Met l yX3_isThere wsX3_isThere ({ frames := 0, cells := 0, slots := 0, locals := 0 }) (va_Pc [.ref to, .int p0] (rP D (gTy cI cJ cQ) [(to, .inr (3, [.ref o0, .ref o1, .ref o2, .ref o3, .int (-1), .int (-1), .long 0, .ref o4, .ref o5, .ref o6, .ref o7, .int 0, .ref o8, .ref o9, .int 0])), (o3, .inr (1, [.ref v3, .int 0, .int 0, .int 0]))])) (vp_Si (fun r => r = 0)) 0 0 (fun _ => False) := by
  refine Met.ofW (cc := cX3_isThere) (maxL := 2) (ret := (some .boolean)) (by decide) rfl ?_
  intro p e s m args below meth c s₁ B hml hv
  obtain ⟨rfl, hP, hK⟩ := hv
  have hx := B.exec
  have hb := B.bytes
  have hr := B.returns
  have hts := atoms_spec (ws := wsX3_isThere) B.pre
  have hown : s.vm.findClass RX3 = some m.cls := findClass_of_methodNamed B.named
  have hlocks := B.notSynchronized
  have hl := lv_entry ([.ref to, .int p0]) (n := 2) (Nat.le_of_ble_eq_true rfl)
  rw [lg_entry_eq]
  generalize (lg_sl ([.ref to, .int p0]) ++ List.replicate (2 - (lg_sl ([.ref to, .int p0])).length) Slot.unset).toArray = ls at hl ⊢
  have hl : lv_has ls 2 [(0, .ref to), (1, .int p0)] := hl
  refine lv_aload_n hx hb dX3_isThere_0 rfl (lv_at hl 0 rfl) ?_
  refine va_get (D := D) (ci := 3) (v := .ref o3) (C := RX3) (T := TX3) (N := 15) hx hb hts in_X3_isThere_X3 hown hK hP 0 rfl rfl 3 (by decide) (hts _ wd_X3_isThere_0) (fun _ h9 => h9) rfl dX3_isThere_1 ?_
  refine va_get (D := D) (ci := 1) (v := .int 0) (C := RX1) (T := TX1) (N := 4) hx hb hts in_X3_isThere_X1 hown hK hP 1 rfl rfl 1 (by decide) (hts _ wd_X3_isThere_1) (fun _ h9 => h9) rfl dX3_isThere_4 ?_
  refine lv_if_eq (tgt := 35) hx hb dX3_isThere_7 (by decide) (fun c7_1 => ?_) (fun c7_1 => ?_)
  · skip
    refine lv_iconst (v := 0) hx hb dX3_isThere_35 (by decide) ?_
    exact W.zret (v := 0) hx hb hr rfl (fun t ht hW => ⟨_, rfl, (by first | rfl | trivial | (simp [c7_1]; done) | ((try first | rw [if_pos c7_1] | rw [if_neg c7_1]); first | done | rfl | trivial) | (simp_all; done)), ht⟩) (fun q hq => absurd hq List.not_mem_nil) dX3_isThere_36
  · exact absurd c7_1 (by decide)

set_option maxHeartbeats 400000 in
set_option maxRecDepth 100000 in
/-- X3_anyThere -/
theorem c_X3_anyThere (l : Launch) (D : va_G) (cI cJ cQ : ClassId) (to : Nat) (o0 : Nat) (o1 : Nat) (o2 : Nat) (o3 : Nat) (o4 : Nat) (o5 : Nat) (o6 : Nat) (o7 : Nat) (o8 : Nat) (o9 : Nat) (v3 : Nat)  : Met l yX3_anyThere wsX3_anyThere ({ frames := 1, cells := 0, slots := 0, locals := 21 }) (va_Pc [.ref to] (rP D (gTy cI cJ cQ) [(to, .inr (3, [.ref o0, .ref o1, .ref o2, .ref o3, .int (-1), .int (-1), .long 0, .ref o4, .ref o5, .ref o6, .ref o7, .int 0, .ref o8, .ref o9, .int 0])), (o3, .inr (1, [.ref v3, .int 0, .int 0, .int 0]))])) (vp_Si (fun r => r = 0)) 0 0 (fun _ => False) := by
  refine Met.ofW (cc := cX3_anyThere) (maxL := 1) (ret := (some .boolean)) (by decide) rfl ?_
  intro p e s m args below meth c s₁ B hml hv
  obtain ⟨rfl, hP, hK⟩ := hv
  have hx := B.exec
  have hb := B.bytes
  have hr := B.returns
  have hts := atoms_spec (ws := wsX3_anyThere) B.pre
  have hown : s.vm.findClass RX3 = some m.cls := findClass_of_methodNamed B.named
  have hlocks := B.notSynchronized
  have hl := lv_entry ([.ref to]) (n := 1) (Nat.le_of_ble_eq_true rfl)
  rw [lg_entry_eq]
  generalize (lg_sl ([.ref to]) ++ List.replicate (1 - (lg_sl ([.ref to])).length) Slot.unset).toArray = ls at hl ⊢
  have hl : lv_has ls 1 [(0, .ref to)] := hl
  refine lv_aload_n hx hb dX3_anyThere_0 rfl (lv_at hl 0 rfl) ?_
  refine lv_iconst (v := 0) hx hb dX3_anyThere_1 (by decide) ?_
  have hPc := hP.sub (ws' := [(to, .inr (3, [.ref o0, .ref o1, .ref o2, .ref o3, .int (-1), .int (-1), .long 0, .ref o4, .ref o5, .ref o6, .ref o7, .int 0, .ref o8, .ref o9, .int 0])), (o3, .inr (1, [.ref v3, .int 0, .int 0, .int 0]))]) [0, 1] rfl
  refine vp_callSi (W.runV (As := [.int 0]) (rest := []) ⟨hx, hb, hml, hown, hts⟩ (c_X3_isThere l D cI cJ cQ to o0 o1 o2 o3 o4 o5 o6 o7 o8 o9 v3 0) (cwV 1 hts gX3_anyThere_X3_isThere rfl rfl rfl (by decide +kernel) ⟨Nat.le_of_ble_eq_true rfl, Nat.le_of_ble_eq_true rfl⟩) (rP_preV (ci := 3) (q0 := 0) hPc hK rfl rfl) rfl rfl hl.1 rfl (lv_room (Nat.le_of_ble_eq_true rfl)) dX3_anyThere_2 ⟨Nat.le_of_ble_eq_true rfl, Nat.le_of_ble_eq_true rfl⟩) (fun r_1 hr_1 => ?_)
  subst hr_1
  exact W.zret (v := 0) hx hb hr rfl (fun t ht hW => ⟨_, rfl, (by first | rfl | trivial | (simp []; done) | rfl | (simp_all; done)), ht⟩) (fun q hq => absurd hq List.not_mem_nil) dX3_anyThere_5

set_option maxRecDepth 20000 in
theorem in_X5_lookAtTable_X5 : ∀ w ∈ wsX50, w ∈ wsX5_lookAtTable := by decide +kernel
set_option maxRecDepth 20000 in
theorem wd_X5_lookAtTable_0 : Cond.fieldLink RX5 43 "ShoeTable" "odds" "LShoeTable$Odds;" ∈ wsX5_lookAtTable := by decide +kernel
set_option maxRecDepth 20000 in
theorem wd_X5_lookAtTable_1 : Cond.fieldLink RX5 10 "ShoeTable" "rules" "LShoeTable$Rules;" ∈ wsX5_lookAtTable := by decide +kernel
set_option maxRecDepth 20000 in
theorem wd_X5_lookAtTable_2 : Cond.fieldLink RX5 19 "ShoeTable" "cards" "LShoeTable$Cards;" ∈ wsX5_lookAtTable := by decide +kernel
set_option maxRecDepth 20000 in
theorem wd_X5_lookAtTable_3 : Cond.fieldLink RX5 32 "ShoeTable" "hand" "LShoeTable$Hand;" ∈ wsX5_lookAtTable := by decide +kernel
set_option maxRecDepth 20000 in
theorem wd_X5_lookAtTable_4 : Cond.fieldLink RX5 54 "ShoeTable" "up" "I" ∈ wsX5_lookAtTable := by decide +kernel
set_option maxRecDepth 20000 in
theorem ggX5_lookAtTable_X3_look : GoodIn wsX5_lookAtTable wsX3_look := goodIn_r _ [10, 11, 12, 13, 14, 15, 16, 17, 18, 19, 20, 21, 22, 23, 24, 25, 26, 27, 28, 29, 30, 31, 32, 33, 34, 35, 36, 37, 38, 39, 40, 41, 42, 55, 56, 57, 58, 59, 60, 61, 62, 63, 64, 65, 66, 67, 68, 69, 70, 71, 72, 73, 74, 75, 76] (by decide +kernel) (by decide +kernel)
set_option maxRecDepth 20000 in
theorem gX5_lookAtTable_X3_look : GoodIn wsX5_lookAtTable (wsV RX5 233 RX3 yX3_look wsX3_look) := goodIn_app (goodIn_of _ (by decide +kernel)) ggX5_lookAtTable_X3_look
set_option maxHeartbeats 400000 in
set_option maxRecDepth 100000 in
/-- X5_lookAtTable -/
theorem c_X5_lookAtTable (l : Launch) (D : va_G) (cI cJ cQ : ClassId) (sz : Nat) (h0 : Nat) (tr : Nat) (tc : Nat) (tg : Nat) (tf : Nat) (th : Nat) (tm : Nat) (to : Nat) (tp : Nat) (o0 : Nat) (o1 : Nat) (o2 : Nat) (o3 : Nat) (o4 : Nat) (o5 : Nat) (o6 : Nat) (o7 : Nat) (o8 : Nat) (o9 : Nat) (v0 : Nat) (w2 : Nat → Int32) (v1 : Nat) (v3 : Nat) (ur : Nat) (w1 : Nat → Int32) (uc : Nat) (uh : Nat)  : Met l yX5_lookAtTable wsX5_lookAtTable ({ frames := 3, cells := 0, slots := 0, locals := 85 }) (va_Pc [.ref h0] (mP D (gTy cI cJ cQ) [(h0, .inr (5, [.ref tr, .ref tc, .ref tg, .ref tf, .ref th, .ref tm, .ref to, .ref tp, .int (-1), .int 0, .long 1, .int 0])), (to, .inr (3, [.ref o0, .ref o1, .ref o2, .ref o3, .int (-1), .int (-1), .long 0, .ref o4, .ref o5, .ref o6, .ref o7, .int 0, .ref o8, .ref o9, .int 0])), (o0, .inr (4, [.ref v0])), (v0, .inl (cI, 7, .inl w2)), (o1, .inr (0, [.ref v1, .int 0])), (v1, .inl (cI, 11, .inl (fun _ => 0))), (o3, .inr (1, [.ref v3, .int 0, .int 0, .int 0])), (v3, .inl (cI, 12, .inl (fun _ => 0))), (tr, .inr (4, [.ref ur])), (ur, .inl (cI, 7, .inl w1)), (tc, .inr (0, [.ref uc, .int 0])), (uc, .inl (cI, 11, .inl (fun _ => 0))), (th, .inr (1, [.ref uh, .int 0, .int 0, .int 0])), (uh, .inl (cI, 12, .inl (fun _ => 0)))] sz)) (va_Qv (fun (u : Unit) => match u with | _ => True) (fun (u : Unit) t => match u with | _ => mB D (gTy cI cJ cQ) (va_A [(h0, .inr (5, [.ref tr, .ref tc, .ref tg, .ref tf, .ref th, .ref tm, .ref to, .ref tp, .int (-1), .int 0, .long 1, .int 0])), (to, .inr (3, [.ref o0, .ref o1, .ref o2, .ref o3, .int (-1), .int (-1), .long 0, .ref o4, .ref o5, .ref o6, .ref o7, .int 0, .ref o8, .ref o9, .int 0])), (o0, .inr (4, [.ref v0])), (v0, .inl (cI, 7, .inl w2)), (o1, .inr (0, [.ref v1, .int 0])), (v1, .inl (cI, 11, .inl (fun _ => 0))), (o3, .inr (1, [.ref v3, .int 0, .int 0, .int 0])), (v3, .inl (cI, 12, .inl (fun _ => 0))), (tr, .inr (4, [.ref ur])), (ur, .inl (cI, 7, .inl w1)), (tc, .inr (0, [.ref uc, .int 0])), (uc, .inl (cI, 11, .inl (fun _ => 0))), (th, .inr (1, [.ref uh, .int 0, .int 0, .int 0])), (uh, .inl (cI, 12, .inl (fun _ => 0)))] sz) [(h0, .inr (5, [.ref tr, .ref tc, .ref tg, .ref tf, .ref th, .ref tm, .ref to, .ref tp, .int (-1), .int 0, .long 1, .int 0])), (to, .inr (3, [.ref o0, .ref o1, .ref o2, .ref o3, .int (-1), .int (-1), .long 0, .ref o4, .ref o5, .ref o6, .ref o7, .int 0, .ref o8, .ref o9, .int 0])), (o3, .inr (1, [.ref v3, .int 0, .int 0, .int 0])), (tc, .inr (0, [.ref uc, .int 0])), (uc, .inl (cI, 11, .inl (fun _ => 0)))] t) (va_A [(h0, .inr (5, [.ref tr, .ref tc, .ref tg, .ref tf, .ref th, .ref tm, .ref to, .ref tp, .int (-1), .int 0, .long 1, .int 0])), (to, .inr (3, [.ref o0, .ref o1, .ref o2, .ref o3, .int (-1), .int (-1), .long 0, .ref o4, .ref o5, .ref o6, .ref o7, .int 0, .ref o8, .ref o9, .int 0])), (o0, .inr (4, [.ref v0])), (v0, .inl (cI, 7, .inl w2)), (o1, .inr (0, [.ref v1, .int 0])), (v1, .inl (cI, 11, .inl (fun _ => 0))), (o3, .inr (1, [.ref v3, .int 0, .int 0, .int 0])), (v3, .inl (cI, 12, .inl (fun _ => 0))), (tr, .inr (4, [.ref ur])), (ur, .inl (cI, 7, .inl w1)), (tc, .inr (0, [.ref uc, .int 0])), (uc, .inl (cI, 11, .inl (fun _ => 0))), (th, .inr (1, [.ref uh, .int 0, .int 0, .int 0])), (uh, .inl (cI, 12, .inl (fun _ => 0)))] sz)) 0 0 (va_A [(h0, .inr (5, [.ref tr, .ref tc, .ref tg, .ref tf, .ref th, .ref tm, .ref to, .ref tp, .int (-1), .int 0, .long 1, .int 0])), (to, .inr (3, [.ref o0, .ref o1, .ref o2, .ref o3, .int (-1), .int (-1), .long 0, .ref o4, .ref o5, .ref o6, .ref o7, .int 0, .ref o8, .ref o9, .int 0])), (o0, .inr (4, [.ref v0])), (v0, .inl (cI, 7, .inl w2)), (o1, .inr (0, [.ref v1, .int 0])), (v1, .inl (cI, 11, .inl (fun _ => 0))), (o3, .inr (1, [.ref v3, .int 0, .int 0, .int 0])), (v3, .inl (cI, 12, .inl (fun _ => 0))), (tr, .inr (4, [.ref ur])), (ur, .inl (cI, 7, .inl w1)), (tc, .inr (0, [.ref uc, .int 0])), (uc, .inl (cI, 11, .inl (fun _ => 0))), (th, .inr (1, [.ref uh, .int 0, .int 0, .int 0])), (uh, .inl (cI, 12, .inl (fun _ => 0)))] sz) := by
  refine Met.ofW (cc := cX5_lookAtTable) (maxL := 1) (ret := none) (by decide) rfl ?_
  intro p e s m args below meth c s₁ B hml hv
  obtain ⟨rfl, hsz, hP, hK, hD0⟩ := hv
  have hx := B.exec
  have hb := B.bytes
  have hr := B.returns
  have hts := atoms_spec (ws := wsX5_lookAtTable) B.pre
  have hown : s.vm.findClass RX5 = some m.cls := findClass_of_methodNamed B.named
  have hlocks := B.notSynchronized
  subst hsz
  have hD := hD0.self (sz := s.heap.size)
  generalize hAe : va_A [(h0, .inr (5, [.ref tr, .ref tc, .ref tg, .ref tf, .ref th, .ref tm, .ref to, .ref tp, .int (-1), .int 0, .long 1, .int 0])), (to, .inr (3, [.ref o0, .ref o1, .ref o2, .ref o3, .int (-1), .int (-1), .long 0, .ref o4, .ref o5, .ref o6, .ref o7, .int 0, .ref o8, .ref o9, .int 0])), (o0, .inr (4, [.ref v0])), (v0, .inl (cI, 7, .inl w2)), (o1, .inr (0, [.ref v1, .int 0])), (v1, .inl (cI, 11, .inl (fun _ => 0))), (o3, .inr (1, [.ref v3, .int 0, .int 0, .int 0])), (v3, .inl (cI, 12, .inl (fun _ => 0))), (tr, .inr (4, [.ref ur])), (ur, .inl (cI, 7, .inl w1)), (tc, .inr (0, [.ref uc, .int 0])), (uc, .inl (cI, 11, .inl (fun _ => 0))), (th, .inr (1, [.ref uh, .int 0, .int 0, .int 0])), (uh, .inl (cI, 12, .inl (fun _ => 0)))] s.heap.size = A at hD ⊢
  have hA : ∀ q : Nat, s.heap.size ≤ q → A q := fun q h => by rw [← hAe]; exact Or.inr h
  have hS : va_S A s.heap s.heap [] := va_S.rf
  have hP : va_P D vwCl [(h0, .inr (5, [.ref tr, .ref tc, .ref tg, .ref tf, .ref th, .ref tm, .ref to, .ref tp, .int (-1), .int 0, .long 1, .int 0])), (to, .inr (3, [.ref o0, .ref o1, .ref o2, .ref o3, .int (-1), .int (-1), .long 0, .ref o4, .ref o5, .ref o6, .ref o7, .int 0, .ref o8, .ref o9, .int 0])), (o0, .inr (4, [.ref v0])), (v0, .inl (cI, 7, .inl w2)), (o1, .inr (0, [.ref v1, .int 0])), (v1, .inl (cI, 11, .inl (fun _ => 0))), (o3, .inr (1, [.ref v3, .int 0, .int 0, .int 0])), (v3, .inl (cI, 12, .inl (fun _ => 0))), (tr, .inr (4, [.ref ur])), (ur, .inl (cI, 7, .inl w1)), (tc, .inr (0, [.ref uc, .int 0])), (uc, .inl (cI, 11, .inl (fun _ => 0))), (th, .inr (1, [.ref uh, .int 0, .int 0, .int 0])), (uh, .inl (cI, 12, .inl (fun _ => 0)))] s.heap := hP
  have hl := lv_entry ([.ref h0]) (n := 1) (Nat.le_of_ble_eq_true rfl)
  rw [lg_entry_eq]
  generalize (lg_sl ([.ref h0]) ++ List.replicate (1 - (lg_sl ([.ref h0])).length) Slot.unset).toArray = ls at hl ⊢
  have hl : lv_has ls 1 [(0, .ref h0)] := hl
  refine lv_aload_n hx hb dX5_lookAtTable_0 rfl (lv_at hl 0 rfl) ?_
  refine va_get (D := D) (ci := 5) (v := .ref to) (C := RX5) (T := TX5) (N := 12) hx hb hts in_X5_lookAtTable_X5 hown hK hP 0 rfl rfl 6 (by decide) (hts _ wd_X5_lookAtTable_0) (fun _ h9 => h9) rfl dX5_lookAtTable_1 ?_
  refine lv_aload_n hx hb dX5_lookAtTable_4 rfl (lv_at hl 0 rfl) ?_
  refine va_get (D := D) (ci := 5) (v := .ref tr) (C := RX5) (T := TX5) (N := 12) hx hb hts in_X5_lookAtTable_X5 hown hK hP 0 rfl rfl 0 (by decide) (hts _ wd_X5_lookAtTable_1) (fun _ h9 => h9) rfl dX5_lookAtTable_5 ?_
  refine lv_aload_n hx hb dX5_lookAtTable_8 rfl (lv_at hl 0 rfl) ?_
  refine va_get (D := D) (ci := 5) (v := .ref tc) (C := RX5) (T := TX5) (N := 12) hx hb hts in_X5_lookAtTable_X5 hown hK hP 0 rfl rfl 1 (by decide) (hts _ wd_X5_lookAtTable_2) (fun _ h9 => h9) rfl dX5_lookAtTable_9 ?_
  refine lv_aload_n hx hb dX5_lookAtTable_12 rfl (lv_at hl 0 rfl) ?_
  refine va_get (D := D) (ci := 5) (v := .ref th) (C := RX5) (T := TX5) (N := 12) hx hb hts in_X5_lookAtTable_X5 hown hK hP 0 rfl rfl 4 (by decide) (hts _ wd_X5_lookAtTable_3) (fun _ h9 => h9) rfl dX5_lookAtTable_13 ?_
  refine lv_aload_n hx hb dX5_lookAtTable_16 rfl (lv_at hl 0 rfl) ?_
  refine va_get (D := D) (ci := 5) (v := .int (-1)) (C := RX5) (T := TX5) (N := 12) hx hb hts in_X5_lookAtTable_X5 hown hK hP 0 rfl rfl 8 (by decide) (hts _ wd_X5_lookAtTable_4) (fun _ h9 => h9) rfl dX5_lookAtTable_17 ?_
  have hPc := hP.sub (ws' := [(to, .inr (3, [.ref o0, .ref o1, .ref o2, .ref o3, .int (-1), .int (-1), .long 0, .ref o4, .ref o5, .ref o6, .ref o7, .int 0, .ref o8, .ref o9, .int 0])), (o0, .inr (4, [.ref v0])), (v0, .inl (cI, 7, .inl w2)), (o1, .inr (0, [.ref v1, .int 0])), (v1, .inl (cI, 11, .inl (fun _ => 0))), (o3, .inr (1, [.ref v3, .int 0, .int 0, .int 0])), (v3, .inl (cI, 12, .inl (fun _ => 0))), (tr, .inr (4, [.ref ur])), (ur, .inl (cI, 7, .inl w1)), (tc, .inr (0, [.ref uc, .int 0])), (uc, .inl (cI, 11, .inl (fun _ => 0))), (th, .inr (1, [.ref uh, .int 0, .int 0, .int 0])), (uh, .inl (cI, 12, .inl (fun _ => 0)))]) [1, 2, 3, 4, 5, 6, 7, 8, 9, 10, 11, 12, 13] rfl
  have hDc := hD.sub (ws' := [(to, .inr (3, [.ref o0, .ref o1, .ref o2, .ref o3, .int (-1), .int (-1), .long 0, .ref o4, .ref o5, .ref o6, .ref o7, .int 0, .ref o8, .ref o9, .int 0])), (o0, .inr (4, [.ref v0])), (v0, .inl (cI, 7, .inl w2)), (o1, .inr (0, [.ref v1, .int 0])), (v1, .inl (cI, 11, .inl (fun _ => 0))), (o3, .inr (1, [.ref v3, .int 0, .int 0, .int 0])), (v3, .inl (cI, 12, .inl (fun _ => 0))), (tr, .inr (4, [.ref ur])), (ur, .inl (cI, 7, .inl w1)), (tc, .inr (0, [.ref uc, .int 0])), (uc, .inl (cI, 11, .inl (fun _ => 0))), (th, .inr (1, [.ref uh, .int 0, .int 0, .int 0])), (uh, .inl (cI, 12, .inl (fun _ => 0)))]) [1, 2, 3, 4, 5, 6, 7, 8, 9, 10, 11, 12, 13] (by decide) rfl
  have hFc := va_free (wc := [(to, .inr (3, [.ref o0, .ref o1, .ref o2, .ref o3, .int (-1), .int (-1), .long 0, .ref o4, .ref o5, .ref o6, .ref o7, .int 0, .ref o8, .ref o9, .int 0])), (o0, .inr (4, [.ref v0])), (v0, .inl (cI, 7, .inl w2)), (o1, .inr (0, [.ref v1, .int 0])), (v1, .inl (cI, 11, .inl (fun _ => 0))), (o3, .inr (1, [.ref v3, .int 0, .int 0, .int 0])), (v3, .inl (cI, 12, .inl (fun _ => 0))), (tr, .inr (4, [.ref ur])), (ur, .inl (cI, 7, .inl w1)), (tc, .inr (0, [.ref uc, .int 0])), (uc, .inl (cI, 11, .inl (fun _ => 0))), (th, .inr (1, [.ref uh, .int 0, .int 0, .int 0])), (uh, .inl (cI, 12, .inl (fun _ => 0)))]) hD hS hA [1, 2, 3, 4, 5, 6, 7, 8, 9, 10, 11, 12, 13] rfl
  refine va_callv (va_runV (As := [.ref tr, .ref tc, .ref th, .int (-1)]) (rest := []) ⟨hx, hb, hml, hown, hts⟩ (c_X3_look l D cI cJ cQ _ to o0 o1 o2 o3 o4 o5 o6 o7 o8 o9 v0 (w2) v1 v3 tr ur (w1) tc uc th uh) (cwV 4 hts gX5_lookAtTable_X3_look rfl rfl rfl (by decide +kernel) ⟨Nat.le_of_ble_eq_true rfl, Nat.le_of_ble_eq_true rfl⟩) (mP_preV (ci := 3) (q0 := 0) hPc hK hDc rfl rfl) rfl rfl hl.1 rfl (lv_room (Nat.le_of_ble_eq_true rfl)) dX5_lookAtTable_20 ⟨Nat.le_of_ble_eq_true rfl, Nat.le_of_ble_eq_true rfl⟩) hS (fun q _ h => hFc q h) hFc (fun u_r_1 t H1 locs ht hvm hr_1 hB hz1 hk1 hS => ?_)
  obtain ⟨hP1, hK1, hD1⟩ := hB
  rw [ht] at hP1
  try dsimp only at hr_1
  obtain ⟨hP, hD⟩ := va_join (wr := [(h0, .inr (5, [.ref tr, .ref tc, .ref tg, .ref tf, .ref th, .ref tm, .ref to, .ref tp, .int (-1), .int 0, .long 1, .int 0]))]) (w1 := [(to, .inr (3, [.ref o0, .ref o1, .ref o2, .ref o3, .int (-1), .int (-1), .long 0, .ref o4, .ref o5, .ref o6, .ref o7, .int 0, .ref o8, .ref o9, .int 0])), (o3, .inr (1, [.ref v3, .int 0, .int 0, .int 0])), (tc, .inr (0, [.ref uc, .int 0])), (uc, .inl (cI, 11, .inl (fun _ => 0)))]) hP hD [1, 2, 3, 4, 5, 6, 7, 8, 9, 10, 11, 12, 13] [0] rfl rfl (by decide) (by decide) hk1 hFc hP1 hD1
  generalize H1 = H at hP hS ⊢
  have hP : va_P D vwCl [(h0, .inr (5, [.ref tr, .ref tc, .ref tg, .ref tf, .ref th, .ref tm, .ref to, .ref tp, .int (-1), .int 0, .long 1, .int 0])), (to, .inr (3, [.ref o0, .ref o1, .ref o2, .ref o3, .int (-1), .int (-1), .long 0, .ref o4, .ref o5, .ref o6, .ref o7, .int 0, .ref o8, .ref o9, .int 0])), (o3, .inr (1, [.ref v3, .int 0, .int 0, .int 0])), (tc, .inr (0, [.ref uc, .int 0])), (uc, .inl (cI, 11, .inl (fun _ => 0)))] H := hP
  have hD : va_D A [(h0, .inr (5, [.ref tr, .ref tc, .ref tg, .ref tf, .ref th, .ref tm, .ref to, .ref tp, .int (-1), .int 0, .long 1, .int 0])), (to, .inr (3, [.ref o0, .ref o1, .ref o2, .ref o3, .int (-1), .int (-1), .long 0, .ref o4, .ref o5, .ref o6, .ref o7, .int 0, .ref o8, .ref o9, .int 0])), (o3, .inr (1, [.ref v3, .int 0, .int 0, .int 0])), (tc, .inr (0, [.ref uc, .int 0])), (uc, .inl (cI, 11, .inl (fun _ => 0)))] := hD
  have hP9 := hP.sub (ws' := [(h0, .inr (5, [.ref tr, .ref tc, .ref tg, .ref tf, .ref th, .ref tm, .ref to, .ref tp, .int (-1), .int 0, .long 1, .int 0])), (to, .inr (3, [.ref o0, .ref o1, .ref o2, .ref o3, .int (-1), .int (-1), .long 0, .ref o4, .ref o5, .ref o6, .ref o7, .int 0, .ref o8, .ref o9, .int 0])), (o3, .inr (1, [.ref v3, .int 0, .int 0, .int 0])), (tc, .inr (0, [.ref uc, .int 0])), (uc, .inl (cI, 11, .inl (fun _ => 0)))]) [0, 1, 2, 3, 4] rfl
  have hD9 := hD.sub (ws' := [(h0, .inr (5, [.ref tr, .ref tc, .ref tg, .ref tf, .ref th, .ref tm, .ref to, .ref tp, .int (-1), .int 0, .long 1, .int 0])), (to, .inr (3, [.ref o0, .ref o1, .ref o2, .ref o3, .int (-1), .int (-1), .long 0, .ref o4, .ref o5, .ref o6, .ref o7, .int 0, .ref o8, .ref o9, .int 0])), (o3, .inr (1, [.ref v3, .int 0, .int 0, .int 0])), (tc, .inr (0, [.ref uc, .int 0])), (uc, .inl (cI, 11, .inl (fun _ => 0)))]) [0, 1, 2, 3, 4] (by decide) rfl
  exact W.vret hx hb hr (fun t ht hW => ⟨⟨(), rfl, (by first | rfl | trivial | (simp [hr_1]; done) | ((try first | rw [if_pos hr_1] | rw [if_neg hr_1]); first | done | rfl | trivial) | (simp_all; done)), by rw [ht]; exact hP9, va_K.moved hW.alike hK, hD9⟩, hS.F ht⟩) hS.2.2 dX5_lookAtTable_23

set_option maxRecDepth 20000 in
theorem ggX5_there_X5_isAct : GoodIn wsX5_there wsX5_isAct := goodIn_r _ [5] (by decide +kernel) (by decide +kernel)
set_option maxRecDepth 20000 in
theorem gX5_there_X5_isAct : GoodIn wsX5_there (va_wsS RX5 156 yX5_isAct wsX5_isAct) := goodIn_app (goodIn_of _ (by decide +kernel)) ggX5_there_X5_isAct
set_option maxRecDepth 20000 in
theorem ggX5_there_X5_lookAtTable : GoodIn wsX5_there wsX5_lookAtTable := goodIn_r _ [9, 1, 10, 11, 12, 13, 14, 15, 16, 17, 18, 19, 20, 21, 22, 23, 24, 25, 26, 27, 28, 29, 30, 31, 32, 33, 34, 35, 36, 37, 38, 39, 40, 41, 42, 43, 44, 45, 46, 47, 48, 49, 50, 85, 86, 87, 88, 89, 90, 91, 92, 93, 94, 95, 96, 97, 98, 99, 100, 101, 102, 103, 104, 105, 106, 107, 108, 109, 110, 111, 112, 113, 114, 115, 116, 117, 118] (by decide +kernel) (by decide +kernel)
set_option maxRecDepth 20000 in
theorem gX5_there_X5_lookAtTable : GoodIn wsX5_there (wsV RX5 159 RX5 yX5_lookAtTable wsX5_lookAtTable) := goodIn_app (goodIn_of _ (by decide +kernel)) ggX5_there_X5_lookAtTable
set_option maxRecDepth 20000 in
theorem in_X5_there_X5 : ∀ w ∈ wsX50, w ∈ wsX5_there := by decide +kernel
set_option maxRecDepth 20000 in
theorem wd_X5_there_0 : Cond.fieldLink RX5 43 "ShoeTable" "odds" "LShoeTable$Odds;" ∈ wsX5_there := by decide +kernel
set_option maxRecDepth 20000 in
theorem ggX5_there_X3_isThere : GoodIn wsX5_there wsX3_isThere := goodIn_r _ [54, 21, 55, 19, 56, 22, 20, 57, 58, 59, 60, 26, 61, 28, 62, 63, 64, 44, 65, 48, 66, 67, 68, 69, 70, 71, 72, 73, 46, 74, 75, 76, 77, 78, 79, 80, 81, 97, 98, 99, 100, 101, 102, 103, 104, 105, 106, 107, 108, 109, 110, 111, 115, 116, 117, 118, 113, 114, 112] (by decide +kernel) (by decide +kernel)
set_option maxRecDepth 20000 in
theorem gX5_there_X3_isThere : GoodIn wsX5_there (wsV RX5 162 RX3 yX3_isThere wsX3_isThere) := goodIn_app (goodIn_of _ (by decide +kernel)) ggX5_there_X3_isThere
set_option maxRecDepth 20000 in
theorem ggX5_there_X5_asNumber : GoodIn wsX5_there wsX5_asNumber := goodIn_r _ [84] (by decide +kernel) (by decide +kernel)
set_option maxRecDepth 20000 in
theorem gX5_there_X5_asNumber : GoodIn wsX5_there (va_wsS RX5 132 yX5_asNumber wsX5_asNumber) := goodIn_app (goodIn_of _ (by decide +kernel)) ggX5_there_X5_asNumber
set_option maxHeartbeats 400000 in
set_option maxRecDepth 100000 in
/-- X5_there -/
theorem c_X5_there (l : Launch) (D : va_G) (cI cJ cQ : ClassId) (sz : Nat) (h0 : Nat) (tr : Nat) (tc : Nat) (tg : Nat) (tf : Nat) (th : Nat) (tm : Nat) (to : Nat) (tp : Nat) (o0 : Nat) (o1 : Nat) (o2 : Nat) (o3 : Nat) (o4 : Nat) (o5 : Nat) (o6 : Nat) (o7 : Nat) (o8 : Nat) (o9 : Nat) (v0 : Nat) (w2 : Nat → Int32) (v1 : Nat) (v3 : Nat) (ur : Nat) (w1 : Nat → Int32) (uc : Nat) (uh : Nat) (p0 : Int32)  : Met l yX5_there wsX5_there ({ frames := 4, cells := 0, slots := 0, locals := 105 }) (va_Pc [.ref h0, .int p0] (mP D (gTy cI cJ cQ) [(h0, .inr (5, [.ref tr, .ref tc, .ref tg, .ref tf, .ref th, .ref tm, .ref to, .ref tp, .int (-1), .int 0, .long 1, .int 0])), (to, .inr (3, [.ref o0, .ref o1, .ref o2, .ref o3, .int (-1), .int (-1), .long 0, .ref o4, .ref o5, .ref o6, .ref o7, .int 0, .ref o8, .ref o9, .int 0])), (o0, .inr (4, [.ref v0])), (v0, .inl (cI, 7, .inl w2)), (o1, .inr (0, [.ref v1, .int 0])), (v1, .inl (cI, 11, .inl (fun _ => 0))), (o3, .inr (1, [.ref v3, .int 0, .int 0, .int 0])), (v3, .inl (cI, 12, .inl (fun _ => 0))), (tr, .inr (4, [.ref ur])), (ur, .inl (cI, 7, .inl w1)), (tc, .inr (0, [.ref uc, .int 0])), (uc, .inl (cI, 11, .inl (fun _ => 0))), (th, .inr (1, [.ref uh, .int 0, .int 0, .int 0])), (uh, .inl (cI, 12, .inl (fun _ => 0)))] sz)) (va_Qi (fun (r : Int32) (u : Unit) => match u with | _ => r = thereS p0) (fun (u : Unit) t => match u with | _ => mB D (gTy cI cJ cQ) (va_A [(h0, .inr (5, [.ref tr, .ref tc, .ref tg, .ref tf, .ref th, .ref tm, .ref to, .ref tp, .int (-1), .int 0, .long 1, .int 0])), (to, .inr (3, [.ref o0, .ref o1, .ref o2, .ref o3, .int (-1), .int (-1), .long 0, .ref o4, .ref o5, .ref o6, .ref o7, .int 0, .ref o8, .ref o9, .int 0])), (o0, .inr (4, [.ref v0])), (v0, .inl (cI, 7, .inl w2)), (o1, .inr (0, [.ref v1, .int 0])), (v1, .inl (cI, 11, .inl (fun _ => 0))), (o3, .inr (1, [.ref v3, .int 0, .int 0, .int 0])), (v3, .inl (cI, 12, .inl (fun _ => 0))), (tr, .inr (4, [.ref ur])), (ur, .inl (cI, 7, .inl w1)), (tc, .inr (0, [.ref uc, .int 0])), (uc, .inl (cI, 11, .inl (fun _ => 0))), (th, .inr (1, [.ref uh, .int 0, .int 0, .int 0])), (uh, .inl (cI, 12, .inl (fun _ => 0)))] sz) [] t) (va_A [(h0, .inr (5, [.ref tr, .ref tc, .ref tg, .ref tf, .ref th, .ref tm, .ref to, .ref tp, .int (-1), .int 0, .long 1, .int 0])), (to, .inr (3, [.ref o0, .ref o1, .ref o2, .ref o3, .int (-1), .int (-1), .long 0, .ref o4, .ref o5, .ref o6, .ref o7, .int 0, .ref o8, .ref o9, .int 0])), (o0, .inr (4, [.ref v0])), (v0, .inl (cI, 7, .inl w2)), (o1, .inr (0, [.ref v1, .int 0])), (v1, .inl (cI, 11, .inl (fun _ => 0))), (o3, .inr (1, [.ref v3, .int 0, .int 0, .int 0])), (v3, .inl (cI, 12, .inl (fun _ => 0))), (tr, .inr (4, [.ref ur])), (ur, .inl (cI, 7, .inl w1)), (tc, .inr (0, [.ref uc, .int 0])), (uc, .inl (cI, 11, .inl (fun _ => 0))), (th, .inr (1, [.ref uh, .int 0, .int 0, .int 0])), (uh, .inl (cI, 12, .inl (fun _ => 0)))] sz)) 0 0 (va_A [(h0, .inr (5, [.ref tr, .ref tc, .ref tg, .ref tf, .ref th, .ref tm, .ref to, .ref tp, .int (-1), .int 0, .long 1, .int 0])), (to, .inr (3, [.ref o0, .ref o1, .ref o2, .ref o3, .int (-1), .int (-1), .long 0, .ref o4, .ref o5, .ref o6, .ref o7, .int 0, .ref o8, .ref o9, .int 0])), (o0, .inr (4, [.ref v0])), (v0, .inl (cI, 7, .inl w2)), (o1, .inr (0, [.ref v1, .int 0])), (v1, .inl (cI, 11, .inl (fun _ => 0))), (o3, .inr (1, [.ref v3, .int 0, .int 0, .int 0])), (v3, .inl (cI, 12, .inl (fun _ => 0))), (tr, .inr (4, [.ref ur])), (ur, .inl (cI, 7, .inl w1)), (tc, .inr (0, [.ref uc, .int 0])), (uc, .inl (cI, 11, .inl (fun _ => 0))), (th, .inr (1, [.ref uh, .int 0, .int 0, .int 0])), (uh, .inl (cI, 12, .inl (fun _ => 0)))] sz) := by
  refine Met.ofW (cc := cX5_there) (maxL := 2) (ret := (some .int)) (by decide) rfl ?_
  intro p e s m args below meth c s₁ B hml hv
  obtain ⟨rfl, hsz, hP, hK, hD0⟩ := hv
  have hx := B.exec
  have hb := B.bytes
  have hr := B.returns
  have hts := atoms_spec (ws := wsX5_there) B.pre
  have hown : s.vm.findClass RX5 = some m.cls := findClass_of_methodNamed B.named
  have hlocks := B.notSynchronized
  subst hsz
  have hD := hD0.self (sz := s.heap.size)
  generalize hAe : va_A [(h0, .inr (5, [.ref tr, .ref tc, .ref tg, .ref tf, .ref th, .ref tm, .ref to, .ref tp, .int (-1), .int 0, .long 1, .int 0])), (to, .inr (3, [.ref o0, .ref o1, .ref o2, .ref o3, .int (-1), .int (-1), .long 0, .ref o4, .ref o5, .ref o6, .ref o7, .int 0, .ref o8, .ref o9, .int 0])), (o0, .inr (4, [.ref v0])), (v0, .inl (cI, 7, .inl w2)), (o1, .inr (0, [.ref v1, .int 0])), (v1, .inl (cI, 11, .inl (fun _ => 0))), (o3, .inr (1, [.ref v3, .int 0, .int 0, .int 0])), (v3, .inl (cI, 12, .inl (fun _ => 0))), (tr, .inr (4, [.ref ur])), (ur, .inl (cI, 7, .inl w1)), (tc, .inr (0, [.ref uc, .int 0])), (uc, .inl (cI, 11, .inl (fun _ => 0))), (th, .inr (1, [.ref uh, .int 0, .int 0, .int 0])), (uh, .inl (cI, 12, .inl (fun _ => 0)))] s.heap.size = A at hD ⊢
  have hA : ∀ q : Nat, s.heap.size ≤ q → A q := fun q h => by rw [← hAe]; exact Or.inr h
  have hS : va_S A s.heap s.heap [] := va_S.rf
  have hP : va_P D vwCl [(h0, .inr (5, [.ref tr, .ref tc, .ref tg, .ref tf, .ref th, .ref tm, .ref to, .ref tp, .int (-1), .int 0, .long 1, .int 0])), (to, .inr (3, [.ref o0, .ref o1, .ref o2, .ref o3, .int (-1), .int (-1), .long 0, .ref o4, .ref o5, .ref o6, .ref o7, .int 0, .ref o8, .ref o9, .int 0])), (o0, .inr (4, [.ref v0])), (v0, .inl (cI, 7, .inl w2)), (o1, .inr (0, [.ref v1, .int 0])), (v1, .inl (cI, 11, .inl (fun _ => 0))), (o3, .inr (1, [.ref v3, .int 0, .int 0, .int 0])), (v3, .inl (cI, 12, .inl (fun _ => 0))), (tr, .inr (4, [.ref ur])), (ur, .inl (cI, 7, .inl w1)), (tc, .inr (0, [.ref uc, .int 0])), (uc, .inl (cI, 11, .inl (fun _ => 0))), (th, .inr (1, [.ref uh, .int 0, .int 0, .int 0])), (uh, .inl (cI, 12, .inl (fun _ => 0)))] s.heap := hP
  have hl := lv_entry ([.ref h0, .int p0]) (n := 2) (Nat.le_of_ble_eq_true rfl)
  rw [lg_entry_eq]
  generalize (lg_sl ([.ref h0, .int p0]) ++ List.replicate (2 - (lg_sl ([.ref h0, .int p0])).length) Slot.unset).toArray = ls at hl ⊢
  have hl : lv_has ls 2 [(0, .ref h0), (1, .int p0)] := hl
  refine lv_iload_n hx hb dX5_there_0 rfl (lv_at hl 1 rfl) ?_
  have hPc := hP.sub (ws' := []) [] rfl
  refine vp_callSi (W.runS (As := [.int p0]) (rest := []) ⟨hx, hb, hml, hown, hts⟩ (c_X5_isAct l D cI cJ cQ p0) (va_cwS 1 hts gX5_there_X5_isAct rfl rfl rfl (by decide +kernel) ⟨Nat.le_of_ble_eq_true rfl, Nat.le_of_ble_eq_true rfl⟩) (rP_preS hPc hK) rfl rfl hl.1 rfl (lv_room (Nat.le_of_ble_eq_true rfl)) dX5_there_1 ⟨Nat.le_of_ble_eq_true rfl, Nat.le_of_ble_eq_true rfl⟩) (fun r_1 hr_1 => ?_)
  subst hr_1
  refine lv_if_ne (tgt := 11) hx hb dX5_there_4 (by decide) (fun c4_2 => ?_) (fun c4_2 => ?_)
  · skip
    refine lv_aload_n hx hb dX5_there_11 rfl (lv_at hl 0 rfl) ?_
    have hPc := hP.sub (ws' := [(h0, .inr (5, [.ref tr, .ref tc, .ref tg, .ref tf, .ref th, .ref tm, .ref to, .ref tp, .int (-1), .int 0, .long 1, .int 0])), (to, .inr (3, [.ref o0, .ref o1, .ref o2, .ref o3, .int (-1), .int (-1), .long 0, .ref o4, .ref o5, .ref o6, .ref o7, .int 0, .ref o8, .ref o9, .int 0])), (o0, .inr (4, [.ref v0])), (v0, .inl (cI, 7, .inl w2)), (o1, .inr (0, [.ref v1, .int 0])), (v1, .inl (cI, 11, .inl (fun _ => 0))), (o3, .inr (1, [.ref v3, .int 0, .int 0, .int 0])), (v3, .inl (cI, 12, .inl (fun _ => 0))), (tr, .inr (4, [.ref ur])), (ur, .inl (cI, 7, .inl w1)), (tc, .inr (0, [.ref uc, .int 0])), (uc, .inl (cI, 11, .inl (fun _ => 0))), (th, .inr (1, [.ref uh, .int 0, .int 0, .int 0])), (uh, .inl (cI, 12, .inl (fun _ => 0)))]) [0, 1, 2, 3, 4, 5, 6, 7, 8, 9, 10, 11, 12, 13] rfl
    have hDc := hD.sub (ws' := [(h0, .inr (5, [.ref tr, .ref tc, .ref tg, .ref tf, .ref th, .ref tm, .ref to, .ref tp, .int (-1), .int 0, .long 1, .int 0])), (to, .inr (3, [.ref o0, .ref o1, .ref o2, .ref o3, .int (-1), .int (-1), .long 0, .ref o4, .ref o5, .ref o6, .ref o7, .int 0, .ref o8, .ref o9, .int 0])), (o0, .inr (4, [.ref v0])), (v0, .inl (cI, 7, .inl w2)), (o1, .inr (0, [.ref v1, .int 0])), (v1, .inl (cI, 11, .inl (fun _ => 0))), (o3, .inr (1, [.ref v3, .int 0, .int 0, .int 0])), (v3, .inl (cI, 12, .inl (fun _ => 0))), (tr, .inr (4, [.ref ur])), (ur, .inl (cI, 7, .inl w1)), (tc, .inr (0, [.ref uc, .int 0])), (uc, .inl (cI, 11, .inl (fun _ => 0))), (th, .inr (1, [.ref uh, .int 0, .int 0, .int 0])), (uh, .inl (cI, 12, .inl (fun _ => 0)))]) [0, 1, 2, 3, 4, 5, 6, 7, 8, 9, 10, 11, 12, 13] (by decide) rfl
    have hFc := va_free (wc := [(h0, .inr (5, [.ref tr, .ref tc, .ref tg, .ref tf, .ref th, .ref tm, .ref to, .ref tp, .int (-1), .int 0, .long 1, .int 0])), (to, .inr (3, [.ref o0, .ref o1, .ref o2, .ref o3, .int (-1), .int (-1), .long 0, .ref o4, .ref o5, .ref o6, .ref o7, .int 0, .ref o8, .ref o9, .int 0])), (o0, .inr (4, [.ref v0])), (v0, .inl (cI, 7, .inl w2)), (o1, .inr (0, [.ref v1, .int 0])), (v1, .inl (cI, 11, .inl (fun _ => 0))), (o3, .inr (1, [.ref v3, .int 0, .int 0, .int 0])), (v3, .inl (cI, 12, .inl (fun _ => 0))), (tr, .inr (4, [.ref ur])), (ur, .inl (cI, 7, .inl w1)), (tc, .inr (0, [.ref uc, .int 0])), (uc, .inl (cI, 11, .inl (fun _ => 0))), (th, .inr (1, [.ref uh, .int 0, .int 0, .int 0])), (uh, .inl (cI, 12, .inl (fun _ => 0)))]) hD hS hA [0, 1, 2, 3, 4, 5, 6, 7, 8, 9, 10, 11, 12, 13] rfl
    refine va_callv (va_runV (As := []) (rest := []) ⟨hx, hb, hml, hown, hts⟩ (c_X5_lookAtTable l D cI cJ cQ _ h0 tr tc tg tf th tm to tp o0 o1 o2 o3 o4 o5 o6 o7 o8 o9 v0 (w2) v1 v3 ur (w1) uc uh) (cwV 0 hts gX5_there_X5_lookAtTable rfl rfl rfl (by decide +kernel) ⟨Nat.le_of_ble_eq_true rfl, Nat.le_of_ble_eq_true rfl⟩) (mP_preV (ci := 5) (q0 := 0) hPc hK hDc rfl rfl) rfl rfl hl.1 rfl (lv_room (Nat.le_of_ble_eq_true rfl)) dX5_there_12 ⟨Nat.le_of_ble_eq_true rfl, Nat.le_of_ble_eq_true rfl⟩) hS (fun q _ h => hFc q h) hFc (fun u_r_3 t H1 locs ht hvm hr_3 hB hz1 hk1 hS => ?_)
    obtain ⟨hP1, hK1, hD1⟩ := hB
    rw [ht] at hP1
    try dsimp only at hr_3
    obtain ⟨hP, hD⟩ := va_join (wr := []) (w1 := [(h0, .inr (5, [.ref tr, .ref tc, .ref tg, .ref tf, .ref th, .ref tm, .ref to, .ref tp, .int (-1), .int 0, .long 1, .int 0])), (to, .inr (3, [.ref o0, .ref o1, .ref o2, .ref o3, .int (-1), .int (-1), .long 0, .ref o4, .ref o5, .ref o6, .ref o7, .int 0, .ref o8, .ref o9, .int 0])), (o3, .inr (1, [.ref v3, .int 0, .int 0, .int 0])), (tc, .inr (0, [.ref uc, .int 0])), (uc, .inl (cI, 11, .inl (fun _ => 0)))]) hP hD [0, 1, 2, 3, 4, 5, 6, 7, 8, 9, 10, 11, 12, 13] [] rfl rfl (by decide) (by decide) hk1 hFc hP1 hD1
    generalize H1 = H at hP hS ⊢
    have hP : va_P D vwCl [(h0, .inr (5, [.ref tr, .ref tc, .ref tg, .ref tf, .ref th, .ref tm, .ref to, .ref tp, .int (-1), .int 0, .long 1, .int 0])), (to, .inr (3, [.ref o0, .ref o1, .ref o2, .ref o3, .int (-1), .int (-1), .long 0, .ref o4, .ref o5, .ref o6, .ref o7, .int 0, .ref o8, .ref o9, .int 0])), (o3, .inr (1, [.ref v3, .int 0, .int 0, .int 0])), (tc, .inr (0, [.ref uc, .int 0])), (uc, .inl (cI, 11, .inl (fun _ => 0)))] H := hP
    have hD : va_D A [(h0, .inr (5, [.ref tr, .ref tc, .ref tg, .ref tf, .ref th, .ref tm, .ref to, .ref tp, .int (-1), .int 0, .long 1, .int 0])), (to, .inr (3, [.ref o0, .ref o1, .ref o2, .ref o3, .int (-1), .int (-1), .long 0, .ref o4, .ref o5, .ref o6, .ref o7, .int 0, .ref o8, .ref o9, .int 0])), (o3, .inr (1, [.ref v3, .int 0, .int 0, .int 0])), (tc, .inr (0, [.ref uc, .int 0])), (uc, .inl (cI, 11, .inl (fun _ => 0)))] := hD
    refine lv_aload_n hx hb dX5_there_15 rfl (lv_at hl 0 rfl) ?_
    refine va_get (D := D) (ci := 5) (v := .ref to) (C := RX5) (T := TX5) (N := 12) hx hb hts in_X5_there_X5 hown hK hP 0 rfl rfl 6 (by decide) (hts _ wd_X5_there_0) (fun _ h9 => h9) rfl dX5_there_16 ?_
    refine lv_iload_n hx hb dX5_there_19 rfl (lv_at hl 1 rfl) ?_
    have hPc := hP.sub (ws' := [(to, .inr (3, [.ref o0, .ref o1, .ref o2, .ref o3, .int (-1), .int (-1), .long 0, .ref o4, .ref o5, .ref o6, .ref o7, .int 0, .ref o8, .ref o9, .int 0])), (o3, .inr (1, [.ref v3, .int 0, .int 0, .int 0]))]) [1, 2] rfl
    refine vp_callSi (W.runV (As := [.int p0]) (rest := []) ⟨hx, hb, hml, hown, hts⟩ (c_X3_isThere l D cI cJ cQ to o0 o1 o2 o3 o4 o5 o6 o7 o8 o9 v3 p0) (cwV 1 hts gX5_there_X3_isThere rfl rfl rfl (by decide +kernel) ⟨Nat.le_of_ble_eq_true rfl, Nat.le_of_ble_eq_true rfl⟩) (rP_preV (ci := 3) (q0 := 0) hPc hK rfl rfl) rfl rfl hl.1 rfl (lv_room (Nat.le_of_ble_eq_true rfl)) dX5_there_20 ⟨Nat.le_of_ble_eq_true rfl, Nat.le_of_ble_eq_true rfl⟩) (fun r_4 hr_4 => ?_)
    subst hr_4
    have hPc := hP.sub (ws' := []) [] rfl
    refine vp_callSi (W.runS (As := [.int 0]) (rest := []) ⟨hx, hb, hml, hown, hts⟩ (c_X5_asNumber l D cI cJ cQ 0) (va_cwS 1 hts gX5_there_X5_asNumber rfl rfl rfl (by decide +kernel) ⟨Nat.le_of_ble_eq_true rfl, Nat.le_of_ble_eq_true rfl⟩) (rP_preS hPc hK) rfl rfl hl.1 rfl (lv_room (Nat.le_of_ble_eq_true rfl)) dX5_there_23 ⟨Nat.le_of_ble_eq_true rfl, Nat.le_of_ble_eq_true rfl⟩) (fun r_5 hr_5 => ?_)
    subst hr_5
    have hP9 := hP.sub (ws' := []) [] rfl
    have hD9 := hD.sub (ws' := []) [] (by decide) rfl
    exact W.iret (v := (nuB 0)) hx hb hr (fun t ht hW => ⟨⟨(nuB 0), (), rfl, (by unfold thereS; (try unfold nuB); first | (simp [c4_2, hr_3]; done) | ((try first | rw [if_pos c4_2] | rw [if_neg c4_2]); (try first | rw [if_pos hr_3] | rw [if_neg hr_3]); first | done | rfl | trivial)), by rw [ht]; exact hP9, va_K.moved hW.alike hK, hD9⟩, hS.F ht⟩) hS.2.2 dX5_there_26
  · skip
    refine lv_sipush (v := (-1001)) hx hb dX5_there_7 (by decide) ?_
    have hP9 := hP.sub (ws' := []) [] rfl
    have hD9 := hD.sub (ws' := []) [] (by decide) rfl
    exact W.iret (v := (-1001)) hx hb hr (fun t ht hW => ⟨⟨(-1001), (), rfl, (by unfold thereS; (try unfold nuB); first | (simp [c4_2]; done) | ((try first | rw [if_pos c4_2] | rw [if_neg c4_2]); first | done | rfl | trivial)), by rw [ht]; exact hP9, va_K.moved hW.alike hK, hD9⟩, hS.F ht⟩) hS.2.2 dX5_there_10

set_option maxRecDepth 20000 in
theorem ggX5_worth_X5_isAct : GoodIn wsX5_worth wsX5_isAct := goodIn_r _ [10] (by decide +kernel) (by decide +kernel)
set_option maxRecDepth 20000 in
theorem gX5_worth_X5_isAct : GoodIn wsX5_worth (va_wsS RX5 156 yX5_isAct wsX5_isAct) := goodIn_app (goodIn_of _ (by decide +kernel)) ggX5_worth_X5_isAct
set_option maxRecDepth 20000 in
theorem wd_X5_worth_0 : Cond.constantLong RX5 168 (-1001) ∈ wsX5_worth := by decide +kernel
set_option maxRecDepth 20000 in
theorem ggX5_worth_X5_isPart : GoodIn wsX5_worth wsX5_isPart := goodIn_r _ [13] (by decide +kernel) (by decide +kernel)
set_option maxRecDepth 20000 in
theorem gX5_worth_X5_isPart : GoodIn wsX5_worth (va_wsS RX5 165 yX5_isPart wsX5_isPart) := goodIn_app (goodIn_of _ (by decide +kernel)) ggX5_worth_X5_isPart
set_option maxRecDepth 20000 in
theorem ggX5_worth_X5_lookAtTable : GoodIn wsX5_worth wsX5_lookAtTable := goodIn_r _ [17, 2, 18, 4, 19, 20, 21, 22, 23, 24, 25, 26, 27, 28, 29, 30, 31, 32, 33, 34, 35, 36, 37, 38, 39, 40, 41, 42, 43, 44, 45, 46, 47, 48, 49, 50, 51, 52, 53, 54, 55, 56, 57, 186, 187, 188, 189, 190, 191, 192, 193, 194, 195, 196, 197, 200, 201, 202, 203, 204, 205, 206, 207, 208, 209, 210, 211, 212, 213, 214, 215, 198, 199, 216, 217, 218, 219] (by decide +kernel) (by decide +kernel)
set_option maxRecDepth 20000 in
theorem gX5_worth_X5_lookAtTable : GoodIn wsX5_worth (wsV RX5 159 RX5 yX5_lookAtTable wsX5_lookAtTable) := goodIn_app (goodIn_of _ (by decide +kernel)) ggX5_worth_X5_lookAtTable
set_option maxRecDepth 20000 in
theorem in_X5_worth_X5 : ∀ w ∈ wsX50, w ∈ wsX5_worth := by decide +kernel
set_option maxRecDepth 20000 in
theorem wd_X5_worth_1 : Cond.fieldLink RX5 43 "ShoeTable" "odds" "LShoeTable$Odds;" ∈ wsX5_worth := by decide +kernel
set_option maxRecDepth 20000 in
theorem ggX5_worth_X3_isThere : GoodIn wsX5_worth wsX3_isThere := goodIn_r _ [61, 28, 62, 26, 63, 29, 27, 64, 65, 66, 67, 33, 68, 35, 69, 70, 71, 51, 72, 55, 73, 74, 75, 76, 77, 78, 79, 80, 53, 81, 82, 83, 84, 85, 86, 87, 88, 200, 201, 202, 203, 204, 205, 206, 207, 208, 209, 210, 211, 212, 213, 214, 216, 217, 218, 219, 198, 199, 215] (by decide +kernel) (by decide +kernel)
set_option maxRecDepth 20000 in
theorem gX5_worth_X3_isThere : GoodIn wsX5_worth (wsV RX5 162 RX3 yX3_isThere wsX3_isThere) := goodIn_app (goodIn_of _ (by decide +kernel)) ggX5_worth_X3_isThere
set_option maxRecDepth 20000 in
theorem wd_X5_worth_2 : Cond.constantLong RX5 170 (-1002) ∈ wsX5_worth := by decide +kernel
set_option maxHeartbeats 400000 in
set_option maxRecDepth 100000 in
/-- X5_worth -/
theorem c_X5_worth (l : Launch) (D : va_G) (cI cJ cQ : ClassId) (sz : Nat) (h0 : Nat) (tr : Nat) (tc : Nat) (tg : Nat) (tf : Nat) (th : Nat) (tm : Nat) (to : Nat) (tp : Nat) (o0 : Nat) (o1 : Nat) (o2 : Nat) (o3 : Nat) (o4 : Nat) (o5 : Nat) (o6 : Nat) (o7 : Nat) (o8 : Nat) (o9 : Nat) (v0 : Nat) (w2 : Nat → Int32) (v1 : Nat) (v3 : Nat) (ur : Nat) (w1 : Nat → Int32) (uc : Nat) (uh : Nat) (p0 : Int32) (p1 : Int32)  : Met l yX5_worth wsX5_worth ({ frames := 4, cells := 0, slots := 0, locals := 105 }) (va_Pc [.ref h0, .int p0, .int p1] (mP D (gTy cI cJ cQ) [(h0, .inr (5, [.ref tr, .ref tc, .ref tg, .ref tf, .ref th, .ref tm, .ref to, .ref tp, .int (-1), .int 0, .long 1, .int 0])), (to, .inr (3, [.ref o0, .ref o1, .ref o2, .ref o3, .int (-1), .int (-1), .long 0, .ref o4, .ref o5, .ref o6, .ref o7, .int 0, .ref o8, .ref o9, .int 0])), (o0, .inr (4, [.ref v0])), (v0, .inl (cI, 7, .inl w2)), (o1, .inr (0, [.ref v1, .int 0])), (v1, .inl (cI, 11, .inl (fun _ => 0))), (o3, .inr (1, [.ref v3, .int 0, .int 0, .int 0])), (v3, .inl (cI, 12, .inl (fun _ => 0))), (tr, .inr (4, [.ref ur])), (ur, .inl (cI, 7, .inl w1)), (tc, .inr (0, [.ref uc, .int 0])), (uc, .inl (cI, 11, .inl (fun _ => 0))), (th, .inr (1, [.ref uh, .int 0, .int 0, .int 0])), (uh, .inl (cI, 12, .inl (fun _ => 0)))] sz)) (va_Ql (fun (r : Int64) (u : Unit) => match u with | _ => r = worthS p0 p1) (fun (u : Unit) t => match u with | _ => mB D (gTy cI cJ cQ) (va_A [(h0, .inr (5, [.ref tr, .ref tc, .ref tg, .ref tf, .ref th, .ref tm, .ref to, .ref tp, .int (-1), .int 0, .long 1, .int 0])), (to, .inr (3, [.ref o0, .ref o1, .ref o2, .ref o3, .int (-1), .int (-1), .long 0, .ref o4, .ref o5, .ref o6, .ref o7, .int 0, .ref o8, .ref o9, .int 0])), (o0, .inr (4, [.ref v0])), (v0, .inl (cI, 7, .inl w2)), (o1, .inr (0, [.ref v1, .int 0])), (v1, .inl (cI, 11, .inl (fun _ => 0))), (o3, .inr (1, [.ref v3, .int 0, .int 0, .int 0])), (v3, .inl (cI, 12, .inl (fun _ => 0))), (tr, .inr (4, [.ref ur])), (ur, .inl (cI, 7, .inl w1)), (tc, .inr (0, [.ref uc, .int 0])), (uc, .inl (cI, 11, .inl (fun _ => 0))), (th, .inr (1, [.ref uh, .int 0, .int 0, .int 0])), (uh, .inl (cI, 12, .inl (fun _ => 0)))] sz) [] t) (va_A [(h0, .inr (5, [.ref tr, .ref tc, .ref tg, .ref tf, .ref th, .ref tm, .ref to, .ref tp, .int (-1), .int 0, .long 1, .int 0])), (to, .inr (3, [.ref o0, .ref o1, .ref o2, .ref o3, .int (-1), .int (-1), .long 0, .ref o4, .ref o5, .ref o6, .ref o7, .int 0, .ref o8, .ref o9, .int 0])), (o0, .inr (4, [.ref v0])), (v0, .inl (cI, 7, .inl w2)), (o1, .inr (0, [.ref v1, .int 0])), (v1, .inl (cI, 11, .inl (fun _ => 0))), (o3, .inr (1, [.ref v3, .int 0, .int 0, .int 0])), (v3, .inl (cI, 12, .inl (fun _ => 0))), (tr, .inr (4, [.ref ur])), (ur, .inl (cI, 7, .inl w1)), (tc, .inr (0, [.ref uc, .int 0])), (uc, .inl (cI, 11, .inl (fun _ => 0))), (th, .inr (1, [.ref uh, .int 0, .int 0, .int 0])), (uh, .inl (cI, 12, .inl (fun _ => 0)))] sz)) 0 0 (va_A [(h0, .inr (5, [.ref tr, .ref tc, .ref tg, .ref tf, .ref th, .ref tm, .ref to, .ref tp, .int (-1), .int 0, .long 1, .int 0])), (to, .inr (3, [.ref o0, .ref o1, .ref o2, .ref o3, .int (-1), .int (-1), .long 0, .ref o4, .ref o5, .ref o6, .ref o7, .int 0, .ref o8, .ref o9, .int 0])), (o0, .inr (4, [.ref v0])), (v0, .inl (cI, 7, .inl w2)), (o1, .inr (0, [.ref v1, .int 0])), (v1, .inl (cI, 11, .inl (fun _ => 0))), (o3, .inr (1, [.ref v3, .int 0, .int 0, .int 0])), (v3, .inl (cI, 12, .inl (fun _ => 0))), (tr, .inr (4, [.ref ur])), (ur, .inl (cI, 7, .inl w1)), (tc, .inr (0, [.ref uc, .int 0])), (uc, .inl (cI, 11, .inl (fun _ => 0))), (th, .inr (1, [.ref uh, .int 0, .int 0, .int 0])), (uh, .inl (cI, 12, .inl (fun _ => 0)))] sz) := by
  refine Met.ofW (cc := cX5_worth) (maxL := 3) (ret := (some .long)) (by decide) rfl ?_
  intro p e s m args below meth c s₁ B hml hv
  obtain ⟨rfl, hsz, hP, hK, hD0⟩ := hv
  have hx := B.exec
  have hb := B.bytes
  have hr := B.returns
  have hts := atoms_spec (ws := wsX5_worth) B.pre
  have hown : s.vm.findClass RX5 = some m.cls := findClass_of_methodNamed B.named
  have hlocks := B.notSynchronized
  subst hsz
  have hD := hD0.self (sz := s.heap.size)
  generalize hAe : va_A [(h0, .inr (5, [.ref tr, .ref tc, .ref tg, .ref tf, .ref th, .ref tm, .ref to, .ref tp, .int (-1), .int 0, .long 1, .int 0])), (to, .inr (3, [.ref o0, .ref o1, .ref o2, .ref o3, .int (-1), .int (-1), .long 0, .ref o4, .ref o5, .ref o6, .ref o7, .int 0, .ref o8, .ref o9, .int 0])), (o0, .inr (4, [.ref v0])), (v0, .inl (cI, 7, .inl w2)), (o1, .inr (0, [.ref v1, .int 0])), (v1, .inl (cI, 11, .inl (fun _ => 0))), (o3, .inr (1, [.ref v3, .int 0, .int 0, .int 0])), (v3, .inl (cI, 12, .inl (fun _ => 0))), (tr, .inr (4, [.ref ur])), (ur, .inl (cI, 7, .inl w1)), (tc, .inr (0, [.ref uc, .int 0])), (uc, .inl (cI, 11, .inl (fun _ => 0))), (th, .inr (1, [.ref uh, .int 0, .int 0, .int 0])), (uh, .inl (cI, 12, .inl (fun _ => 0)))] s.heap.size = A at hD ⊢
  have hA : ∀ q : Nat, s.heap.size ≤ q → A q := fun q h => by rw [← hAe]; exact Or.inr h
  have hS : va_S A s.heap s.heap [] := va_S.rf
  have hP : va_P D vwCl [(h0, .inr (5, [.ref tr, .ref tc, .ref tg, .ref tf, .ref th, .ref tm, .ref to, .ref tp, .int (-1), .int 0, .long 1, .int 0])), (to, .inr (3, [.ref o0, .ref o1, .ref o2, .ref o3, .int (-1), .int (-1), .long 0, .ref o4, .ref o5, .ref o6, .ref o7, .int 0, .ref o8, .ref o9, .int 0])), (o0, .inr (4, [.ref v0])), (v0, .inl (cI, 7, .inl w2)), (o1, .inr (0, [.ref v1, .int 0])), (v1, .inl (cI, 11, .inl (fun _ => 0))), (o3, .inr (1, [.ref v3, .int 0, .int 0, .int 0])), (v3, .inl (cI, 12, .inl (fun _ => 0))), (tr, .inr (4, [.ref ur])), (ur, .inl (cI, 7, .inl w1)), (tc, .inr (0, [.ref uc, .int 0])), (uc, .inl (cI, 11, .inl (fun _ => 0))), (th, .inr (1, [.ref uh, .int 0, .int 0, .int 0])), (uh, .inl (cI, 12, .inl (fun _ => 0)))] s.heap := hP
  have hl := lv_entry ([.ref h0, .int p0, .int p1]) (n := 3) (Nat.le_of_ble_eq_true rfl)
  rw [lg_entry_eq]
  generalize (lg_sl ([.ref h0, .int p0, .int p1]) ++ List.replicate (3 - (lg_sl ([.ref h0, .int p0, .int p1])).length) Slot.unset).toArray = ls at hl ⊢
  have hl : lv_has ls 3 [(0, .ref h0), (1, .int p0), (2, .int p1)] := hl
  refine lv_iload_n hx hb dX5_worth_0 rfl (lv_at hl 1 rfl) ?_
  have hPc := hP.sub (ws' := []) [] rfl
  refine vp_callSi (W.runS (As := [.int p0]) (rest := []) ⟨hx, hb, hml, hown, hts⟩ (c_X5_isAct l D cI cJ cQ p0) (va_cwS 1 hts gX5_worth_X5_isAct rfl rfl rfl (by decide +kernel) ⟨Nat.le_of_ble_eq_true rfl, Nat.le_of_ble_eq_true rfl⟩) (rP_preS hPc hK) rfl rfl hl.1 rfl (lv_room (Nat.le_of_ble_eq_true rfl)) dX5_worth_1 ⟨Nat.le_of_ble_eq_true rfl, Nat.le_of_ble_eq_true rfl⟩) (fun r_1 hr_1 => ?_)
  subst hr_1
  refine lv_if_eq (tgt := 14) hx hb dX5_worth_4 (by decide) (fun c4_2 => ?_) (fun c4_2 => ?_)
  · skip
    refine lv_ldc2 hx hb hown (hts _ wd_X5_worth_0) dX5_worth_14 ?_
    have hP9 := hP.sub (ws' := []) [] rfl
    have hD9 := hD.sub (ws' := []) [] (by decide) rfl
    exact W.lret (v := (-1001)) hx hb hr (fun t ht hW => ⟨⟨(-1001), (), rfl, (by unfold worthS; first | (simp [c4_2]; done) | ((try first | rw [if_pos c4_2] | rw [if_neg c4_2]); first | done | rfl | trivial)), by rw [ht]; exact hP9, va_K.moved hW.alike hK, hD9⟩, hS.F ht⟩) hS.2.2 dX5_worth_17
  · skip
    refine lv_iload_n hx hb dX5_worth_7 rfl (lv_at hl 2 rfl) ?_
    have hPc := hP.sub (ws' := []) [] rfl
    refine vp_callSi (W.runS (As := [.int p1]) (rest := []) ⟨hx, hb, hml, hown, hts⟩ (c_X5_isPart l D cI cJ cQ p1) (va_cwS 1 hts gX5_worth_X5_isPart rfl rfl rfl (by decide +kernel) ⟨Nat.le_of_ble_eq_true rfl, Nat.le_of_ble_eq_true rfl⟩) (rP_preS hPc hK) rfl rfl hl.1 rfl (lv_room (Nat.le_of_ble_eq_true rfl)) dX5_worth_8 ⟨Nat.le_of_ble_eq_true rfl, Nat.le_of_ble_eq_true rfl⟩) (fun r_3 hr_3 => ?_)
    subst hr_3
    refine lv_if_ne (tgt := 18) hx hb dX5_worth_11 (by decide) (fun c11_4 => ?_) (fun c11_4 => ?_)
    · skip
      refine lv_aload_n hx hb dX5_worth_18 rfl (lv_at hl 0 rfl) ?_
      have hPc := hP.sub (ws' := [(h0, .inr (5, [.ref tr, .ref tc, .ref tg, .ref tf, .ref th, .ref tm, .ref to, .ref tp, .int (-1), .int 0, .long 1, .int 0])), (to, .inr (3, [.ref o0, .ref o1, .ref o2, .ref o3, .int (-1), .int (-1), .long 0, .ref o4, .ref o5, .ref o6, .ref o7, .int 0, .ref o8, .ref o9, .int 0])), (o0, .inr (4, [.ref v0])), (v0, .inl (cI, 7, .inl w2)), (o1, .inr (0, [.ref v1, .int 0])), (v1, .inl (cI, 11, .inl (fun _ => 0))), (o3, .inr (1, [.ref v3, .int 0, .int 0, .int 0])), (v3, .inl (cI, 12, .inl (fun _ => 0))), (tr, .inr (4, [.ref ur])), (ur, .inl (cI, 7, .inl w1)), (tc, .inr (0, [.ref uc, .int 0])), (uc, .inl (cI, 11, .inl (fun _ => 0))), (th, .inr (1, [.ref uh, .int 0, .int 0, .int 0])), (uh, .inl (cI, 12, .inl (fun _ => 0)))]) [0, 1, 2, 3, 4, 5, 6, 7, 8, 9, 10, 11, 12, 13] rfl
      have hDc := hD.sub (ws' := [(h0, .inr (5, [.ref tr, .ref tc, .ref tg, .ref tf, .ref th, .ref tm, .ref to, .ref tp, .int (-1), .int 0, .long 1, .int 0])), (to, .inr (3, [.ref o0, .ref o1, .ref o2, .ref o3, .int (-1), .int (-1), .long 0, .ref o4, .ref o5, .ref o6, .ref o7, .int 0, .ref o8, .ref o9, .int 0])), (o0, .inr (4, [.ref v0])), (v0, .inl (cI, 7, .inl w2)), (o1, .inr (0, [.ref v1, .int 0])), (v1, .inl (cI, 11, .inl (fun _ => 0))), (o3, .inr (1, [.ref v3, .int 0, .int 0, .int 0])), (v3, .inl (cI, 12, .inl (fun _ => 0))), (tr, .inr (4, [.ref ur])), (ur, .inl (cI, 7, .inl w1)), (tc, .inr (0, [.ref uc, .int 0])), (uc, .inl (cI, 11, .inl (fun _ => 0))), (th, .inr (1, [.ref uh, .int 0, .int 0, .int 0])), (uh, .inl (cI, 12, .inl (fun _ => 0)))]) [0, 1, 2, 3, 4, 5, 6, 7, 8, 9, 10, 11, 12, 13] (by decide) rfl
      have hFc := va_free (wc := [(h0, .inr (5, [.ref tr, .ref tc, .ref tg, .ref tf, .ref th, .ref tm, .ref to, .ref tp, .int (-1), .int 0, .long 1, .int 0])), (to, .inr (3, [.ref o0, .ref o1, .ref o2, .ref o3, .int (-1), .int (-1), .long 0, .ref o4, .ref o5, .ref o6, .ref o7, .int 0, .ref o8, .ref o9, .int 0])), (o0, .inr (4, [.ref v0])), (v0, .inl (cI, 7, .inl w2)), (o1, .inr (0, [.ref v1, .int 0])), (v1, .inl (cI, 11, .inl (fun _ => 0))), (o3, .inr (1, [.ref v3, .int 0, .int 0, .int 0])), (v3, .inl (cI, 12, .inl (fun _ => 0))), (tr, .inr (4, [.ref ur])), (ur, .inl (cI, 7, .inl w1)), (tc, .inr (0, [.ref uc, .int 0])), (uc, .inl (cI, 11, .inl (fun _ => 0))), (th, .inr (1, [.ref uh, .int 0, .int 0, .int 0])), (uh, .inl (cI, 12, .inl (fun _ => 0)))]) hD hS hA [0, 1, 2, 3, 4, 5, 6, 7, 8, 9, 10, 11, 12, 13] rfl
      refine va_callv (va_runV (As := []) (rest := []) ⟨hx, hb, hml, hown, hts⟩ (c_X5_lookAtTable l D cI cJ cQ _ h0 tr tc tg tf th tm to tp o0 o1 o2 o3 o4 o5 o6 o7 o8 o9 v0 (w2) v1 v3 ur (w1) uc uh) (cwV 0 hts gX5_worth_X5_lookAtTable rfl rfl rfl (by decide +kernel) ⟨Nat.le_of_ble_eq_true rfl, Nat.le_of_ble_eq_true rfl⟩) (mP_preV (ci := 5) (q0 := 0) hPc hK hDc rfl rfl) rfl rfl hl.1 rfl (lv_room (Nat.le_of_ble_eq_true rfl)) dX5_worth_19 ⟨Nat.le_of_ble_eq_true rfl, Nat.le_of_ble_eq_true rfl⟩) hS (fun q _ h => hFc q h) hFc (fun u_r_5 t H1 locs ht hvm hr_5 hB hz1 hk1 hS => ?_)
      obtain ⟨hP1, hK1, hD1⟩ := hB
      rw [ht] at hP1
      try dsimp only at hr_5
      obtain ⟨hP, hD⟩ := va_join (wr := []) (w1 := [(h0, .inr (5, [.ref tr, .ref tc, .ref tg, .ref tf, .ref th, .ref tm, .ref to, .ref tp, .int (-1), .int 0, .long 1, .int 0])), (to, .inr (3, [.ref o0, .ref o1, .ref o2, .ref o3, .int (-1), .int (-1), .long 0, .ref o4, .ref o5, .ref o6, .ref o7, .int 0, .ref o8, .ref o9, .int 0])), (o3, .inr (1, [.ref v3, .int 0, .int 0, .int 0])), (tc, .inr (0, [.ref uc, .int 0])), (uc, .inl (cI, 11, .inl (fun _ => 0)))]) hP hD [0, 1, 2, 3, 4, 5, 6, 7, 8, 9, 10, 11, 12, 13] [] rfl rfl (by decide) (by decide) hk1 hFc hP1 hD1
      generalize H1 = H at hP hS ⊢
      have hP : va_P D vwCl [(h0, .inr (5, [.ref tr, .ref tc, .ref tg, .ref tf, .ref th, .ref tm, .ref to, .ref tp, .int (-1), .int 0, .long 1, .int 0])), (to, .inr (3, [.ref o0, .ref o1, .ref o2, .ref o3, .int (-1), .int (-1), .long 0, .ref o4, .ref o5, .ref o6, .ref o7, .int 0, .ref o8, .ref o9, .int 0])), (o3, .inr (1, [.ref v3, .int 0, .int 0, .int 0])), (tc, .inr (0, [.ref uc, .int 0])), (uc, .inl (cI, 11, .inl (fun _ => 0)))] H := hP
      have hD : va_D A [(h0, .inr (5, [.ref tr, .ref tc, .ref tg, .ref tf, .ref th, .ref tm, .ref to, .ref tp, .int (-1), .int 0, .long 1, .int 0])), (to, .inr (3, [.ref o0, .ref o1, .ref o2, .ref o3, .int (-1), .int (-1), .long 0, .ref o4, .ref o5, .ref o6, .ref o7, .int 0, .ref o8, .ref o9, .int 0])), (o3, .inr (1, [.ref v3, .int 0, .int 0, .int 0])), (tc, .inr (0, [.ref uc, .int 0])), (uc, .inl (cI, 11, .inl (fun _ => 0)))] := hD
      refine lv_aload_n hx hb dX5_worth_22 rfl (lv_at hl 0 rfl) ?_
      refine va_get (D := D) (ci := 5) (v := .ref to) (C := RX5) (T := TX5) (N := 12) hx hb hts in_X5_worth_X5 hown hK hP 0 rfl rfl 6 (by decide) (hts _ wd_X5_worth_1) (fun _ h9 => h9) rfl dX5_worth_23 ?_
      refine lv_iload_n hx hb dX5_worth_26 rfl (lv_at hl 1 rfl) ?_
      have hPc := hP.sub (ws' := [(to, .inr (3, [.ref o0, .ref o1, .ref o2, .ref o3, .int (-1), .int (-1), .long 0, .ref o4, .ref o5, .ref o6, .ref o7, .int 0, .ref o8, .ref o9, .int 0])), (o3, .inr (1, [.ref v3, .int 0, .int 0, .int 0]))]) [1, 2] rfl
      refine vp_callSi (W.runV (As := [.int p0]) (rest := []) ⟨hx, hb, hml, hown, hts⟩ (c_X3_isThere l D cI cJ cQ to o0 o1 o2 o3 o4 o5 o6 o7 o8 o9 v3 p0) (cwV 1 hts gX5_worth_X3_isThere rfl rfl rfl (by decide +kernel) ⟨Nat.le_of_ble_eq_true rfl, Nat.le_of_ble_eq_true rfl⟩) (rP_preV (ci := 3) (q0 := 0) hPc hK rfl rfl) rfl rfl hl.1 rfl (lv_room (Nat.le_of_ble_eq_true rfl)) dX5_worth_27 ⟨Nat.le_of_ble_eq_true rfl, Nat.le_of_ble_eq_true rfl⟩) (fun r_6 hr_6 => ?_)
      subst hr_6
      refine lv_if_ne (tgt := 37) hx hb dX5_worth_30 (by decide) (fun c30_7 => ?_) (fun c30_7 => ?_)
      · exact absurd c30_7 (by decide)
      refine lv_ldc2 hx hb hown (hts _ wd_X5_worth_2) dX5_worth_33 ?_
      have hP9 := hP.sub (ws' := []) [] rfl
      have hD9 := hD.sub (ws' := []) [] (by decide) rfl
      exact W.lret (v := (-1002)) hx hb hr (fun t ht hW => ⟨⟨(-1002), (), rfl, (by unfold worthS; first | (simp [c4_2, c11_4, hr_5]; done) | ((try first | rw [if_pos c4_2] | rw [if_neg c4_2]); (try first | rw [if_pos c11_4] | rw [if_neg c11_4]); (try first | rw [if_pos hr_5] | rw [if_neg hr_5]); first | done | rfl | trivial)), by rw [ht]; exact hP9, va_K.moved hW.alike hK, hD9⟩, hS.F ht⟩) hS.2.2 dX5_worth_36
    · skip
      refine lv_ldc2 hx hb hown (hts _ wd_X5_worth_0) dX5_worth_14 ?_
      have hP9 := hP.sub (ws' := []) [] rfl
      have hD9 := hD.sub (ws' := []) [] (by decide) rfl
      exact W.lret (v := (-1001)) hx hb hr (fun t ht hW => ⟨⟨(-1001), (), rfl, (by unfold worthS; first | (simp [c4_2, c11_4]; done) | ((try first | rw [if_pos c4_2] | rw [if_neg c4_2]); (try first | rw [if_pos c11_4] | rw [if_neg c11_4]); first | done | rfl | trivial)), by rw [ht]; exact hP9, va_K.moved hW.alike hK, hD9⟩, hS.F ht⟩) hS.2.2 dX5_worth_17

set_option maxRecDepth 20000 in
theorem ggX5_best_X5_lookAtTable : GoodIn wsX5_best wsX5_lookAtTable := goodIn_r _ [9, 1, 10, 2, 11, 12, 13, 14, 15, 16, 17, 18, 19, 20, 21, 22, 23, 24, 25, 26, 27, 28, 29, 30, 31, 32, 33, 34, 35, 36, 37, 38, 39, 40, 41, 42, 43, 44, 45, 46, 47, 48, 49, 178, 179, 180, 181, 182, 183, 184, 185, 186, 187, 188, 189, 192, 193, 194, 195, 196, 197, 198, 199, 200, 201, 202, 203, 204, 205, 206, 207, 190, 191, 208, 209, 210, 211] (by decide +kernel) (by decide +kernel)
set_option maxRecDepth 20000 in
theorem gX5_best_X5_lookAtTable : GoodIn wsX5_best (wsV RX5 159 RX5 yX5_lookAtTable wsX5_lookAtTable) := goodIn_app (goodIn_of _ (by decide +kernel)) ggX5_best_X5_lookAtTable
set_option maxRecDepth 20000 in
theorem in_X5_best_X5 : ∀ w ∈ wsX50, w ∈ wsX5_best := by decide +kernel
set_option maxRecDepth 20000 in
theorem wd_X5_best_0 : Cond.fieldLink RX5 43 "ShoeTable" "odds" "LShoeTable$Odds;" ∈ wsX5_best := by decide +kernel
set_option maxRecDepth 20000 in
theorem ggX5_best_X3_anyThere : GoodIn wsX5_best wsX3_anyThere := goodIn_r _ [53, 54, 55, 56, 16, 57, 20, 58, 18, 59, 21, 19, 60, 61, 62, 63, 25, 64, 27, 65, 66, 67, 43, 68, 47, 69, 70, 71, 72, 73, 74, 75, 76, 45, 77, 78, 79, 80, 81, 82, 83, 84, 192, 193, 194, 195, 196, 197, 198, 199, 200, 201, 202, 203, 204, 205, 206, 208, 209, 210, 211, 190, 191, 207] (by decide +kernel) (by decide +kernel)
set_option maxRecDepth 20000 in
theorem gX5_best_X3_anyThere : GoodIn wsX5_best (wsV RX5 185 RX3 yX3_anyThere wsX3_anyThere) := goodIn_app (goodIn_of _ (by decide +kernel)) ggX5_best_X3_anyThere
set_option maxHeartbeats 400000 in
set_option maxRecDepth 100000 in
/-- X5_best -/
theorem c_X5_best (l : Launch) (D : va_G) (cI cJ cQ : ClassId) (sz : Nat) (h0 : Nat) (tr : Nat) (tc : Nat) (tg : Nat) (tf : Nat) (th : Nat) (tm : Nat) (to : Nat) (tp : Nat) (o0 : Nat) (o1 : Nat) (o2 : Nat) (o3 : Nat) (o4 : Nat) (o5 : Nat) (o6 : Nat) (o7 : Nat) (o8 : Nat) (o9 : Nat) (v0 : Nat) (w2 : Nat → Int32) (v1 : Nat) (v3 : Nat) (ur : Nat) (w1 : Nat → Int32) (uc : Nat) (uh : Nat)  : Met l yX5_best wsX5_best ({ frames := 4, cells := 0, slots := 0, locals := 105 }) (va_Pc [.ref h0] (mP D (gTy cI cJ cQ) [(h0, .inr (5, [.ref tr, .ref tc, .ref tg, .ref tf, .ref th, .ref tm, .ref to, .ref tp, .int (-1), .int 0, .long 1, .int 0])), (to, .inr (3, [.ref o0, .ref o1, .ref o2, .ref o3, .int (-1), .int (-1), .long 0, .ref o4, .ref o5, .ref o6, .ref o7, .int 0, .ref o8, .ref o9, .int 0])), (o0, .inr (4, [.ref v0])), (v0, .inl (cI, 7, .inl w2)), (o1, .inr (0, [.ref v1, .int 0])), (v1, .inl (cI, 11, .inl (fun _ => 0))), (o3, .inr (1, [.ref v3, .int 0, .int 0, .int 0])), (v3, .inl (cI, 12, .inl (fun _ => 0))), (tr, .inr (4, [.ref ur])), (ur, .inl (cI, 7, .inl w1)), (tc, .inr (0, [.ref uc, .int 0])), (uc, .inl (cI, 11, .inl (fun _ => 0))), (th, .inr (1, [.ref uh, .int 0, .int 0, .int 0])), (uh, .inl (cI, 12, .inl (fun _ => 0)))] sz)) (va_Qi (fun (r : Int32) (u : Unit) => match u with | _ => r = -1002) (fun (u : Unit) t => match u with | _ => mB D (gTy cI cJ cQ) (va_A [(h0, .inr (5, [.ref tr, .ref tc, .ref tg, .ref tf, .ref th, .ref tm, .ref to, .ref tp, .int (-1), .int 0, .long 1, .int 0])), (to, .inr (3, [.ref o0, .ref o1, .ref o2, .ref o3, .int (-1), .int (-1), .long 0, .ref o4, .ref o5, .ref o6, .ref o7, .int 0, .ref o8, .ref o9, .int 0])), (o0, .inr (4, [.ref v0])), (v0, .inl (cI, 7, .inl w2)), (o1, .inr (0, [.ref v1, .int 0])), (v1, .inl (cI, 11, .inl (fun _ => 0))), (o3, .inr (1, [.ref v3, .int 0, .int 0, .int 0])), (v3, .inl (cI, 12, .inl (fun _ => 0))), (tr, .inr (4, [.ref ur])), (ur, .inl (cI, 7, .inl w1)), (tc, .inr (0, [.ref uc, .int 0])), (uc, .inl (cI, 11, .inl (fun _ => 0))), (th, .inr (1, [.ref uh, .int 0, .int 0, .int 0])), (uh, .inl (cI, 12, .inl (fun _ => 0)))] sz) [] t) (va_A [(h0, .inr (5, [.ref tr, .ref tc, .ref tg, .ref tf, .ref th, .ref tm, .ref to, .ref tp, .int (-1), .int 0, .long 1, .int 0])), (to, .inr (3, [.ref o0, .ref o1, .ref o2, .ref o3, .int (-1), .int (-1), .long 0, .ref o4, .ref o5, .ref o6, .ref o7, .int 0, .ref o8, .ref o9, .int 0])), (o0, .inr (4, [.ref v0])), (v0, .inl (cI, 7, .inl w2)), (o1, .inr (0, [.ref v1, .int 0])), (v1, .inl (cI, 11, .inl (fun _ => 0))), (o3, .inr (1, [.ref v3, .int 0, .int 0, .int 0])), (v3, .inl (cI, 12, .inl (fun _ => 0))), (tr, .inr (4, [.ref ur])), (ur, .inl (cI, 7, .inl w1)), (tc, .inr (0, [.ref uc, .int 0])), (uc, .inl (cI, 11, .inl (fun _ => 0))), (th, .inr (1, [.ref uh, .int 0, .int 0, .int 0])), (uh, .inl (cI, 12, .inl (fun _ => 0)))] sz)) 0 0 (va_A [(h0, .inr (5, [.ref tr, .ref tc, .ref tg, .ref tf, .ref th, .ref tm, .ref to, .ref tp, .int (-1), .int 0, .long 1, .int 0])), (to, .inr (3, [.ref o0, .ref o1, .ref o2, .ref o3, .int (-1), .int (-1), .long 0, .ref o4, .ref o5, .ref o6, .ref o7, .int 0, .ref o8, .ref o9, .int 0])), (o0, .inr (4, [.ref v0])), (v0, .inl (cI, 7, .inl w2)), (o1, .inr (0, [.ref v1, .int 0])), (v1, .inl (cI, 11, .inl (fun _ => 0))), (o3, .inr (1, [.ref v3, .int 0, .int 0, .int 0])), (v3, .inl (cI, 12, .inl (fun _ => 0))), (tr, .inr (4, [.ref ur])), (ur, .inl (cI, 7, .inl w1)), (tc, .inr (0, [.ref uc, .int 0])), (uc, .inl (cI, 11, .inl (fun _ => 0))), (th, .inr (1, [.ref uh, .int 0, .int 0, .int 0])), (uh, .inl (cI, 12, .inl (fun _ => 0)))] sz) := by
  refine Met.ofW (cc := cX5_best) (maxL := 1) (ret := (some .int)) (by decide) rfl ?_
  intro p e s m args below meth c s₁ B hml hv
  obtain ⟨rfl, hsz, hP, hK, hD0⟩ := hv
  have hx := B.exec
  have hb := B.bytes
  have hr := B.returns
  have hts := atoms_spec (ws := wsX5_best) B.pre
  have hown : s.vm.findClass RX5 = some m.cls := findClass_of_methodNamed B.named
  have hlocks := B.notSynchronized
  subst hsz
  have hD := hD0.self (sz := s.heap.size)
  generalize hAe : va_A [(h0, .inr (5, [.ref tr, .ref tc, .ref tg, .ref tf, .ref th, .ref tm, .ref to, .ref tp, .int (-1), .int 0, .long 1, .int 0])), (to, .inr (3, [.ref o0, .ref o1, .ref o2, .ref o3, .int (-1), .int (-1), .long 0, .ref o4, .ref o5, .ref o6, .ref o7, .int 0, .ref o8, .ref o9, .int 0])), (o0, .inr (4, [.ref v0])), (v0, .inl (cI, 7, .inl w2)), (o1, .inr (0, [.ref v1, .int 0])), (v1, .inl (cI, 11, .inl (fun _ => 0))), (o3, .inr (1, [.ref v3, .int 0, .int 0, .int 0])), (v3, .inl (cI, 12, .inl (fun _ => 0))), (tr, .inr (4, [.ref ur])), (ur, .inl (cI, 7, .inl w1)), (tc, .inr (0, [.ref uc, .int 0])), (uc, .inl (cI, 11, .inl (fun _ => 0))), (th, .inr (1, [.ref uh, .int 0, .int 0, .int 0])), (uh, .inl (cI, 12, .inl (fun _ => 0)))] s.heap.size = A at hD ⊢
  have hA : ∀ q : Nat, s.heap.size ≤ q → A q := fun q h => by rw [← hAe]; exact Or.inr h
  have hS : va_S A s.heap s.heap [] := va_S.rf
  have hP : va_P D vwCl [(h0, .inr (5, [.ref tr, .ref tc, .ref tg, .ref tf, .ref th, .ref tm, .ref to, .ref tp, .int (-1), .int 0, .long 1, .int 0])), (to, .inr (3, [.ref o0, .ref o1, .ref o2, .ref o3, .int (-1), .int (-1), .long 0, .ref o4, .ref o5, .ref o6, .ref o7, .int 0, .ref o8, .ref o9, .int 0])), (o0, .inr (4, [.ref v0])), (v0, .inl (cI, 7, .inl w2)), (o1, .inr (0, [.ref v1, .int 0])), (v1, .inl (cI, 11, .inl (fun _ => 0))), (o3, .inr (1, [.ref v3, .int 0, .int 0, .int 0])), (v3, .inl (cI, 12, .inl (fun _ => 0))), (tr, .inr (4, [.ref ur])), (ur, .inl (cI, 7, .inl w1)), (tc, .inr (0, [.ref uc, .int 0])), (uc, .inl (cI, 11, .inl (fun _ => 0))), (th, .inr (1, [.ref uh, .int 0, .int 0, .int 0])), (uh, .inl (cI, 12, .inl (fun _ => 0)))] s.heap := hP
  have hl := lv_entry ([.ref h0]) (n := 1) (Nat.le_of_ble_eq_true rfl)
  rw [lg_entry_eq]
  generalize (lg_sl ([.ref h0]) ++ List.replicate (1 - (lg_sl ([.ref h0])).length) Slot.unset).toArray = ls at hl ⊢
  have hl : lv_has ls 1 [(0, .ref h0)] := hl
  refine lv_aload_n hx hb dX5_best_0 rfl (lv_at hl 0 rfl) ?_
  have hPc := hP.sub (ws' := [(h0, .inr (5, [.ref tr, .ref tc, .ref tg, .ref tf, .ref th, .ref tm, .ref to, .ref tp, .int (-1), .int 0, .long 1, .int 0])), (to, .inr (3, [.ref o0, .ref o1, .ref o2, .ref o3, .int (-1), .int (-1), .long 0, .ref o4, .ref o5, .ref o6, .ref o7, .int 0, .ref o8, .ref o9, .int 0])), (o0, .inr (4, [.ref v0])), (v0, .inl (cI, 7, .inl w2)), (o1, .inr (0, [.ref v1, .int 0])), (v1, .inl (cI, 11, .inl (fun _ => 0))), (o3, .inr (1, [.ref v3, .int 0, .int 0, .int 0])), (v3, .inl (cI, 12, .inl (fun _ => 0))), (tr, .inr (4, [.ref ur])), (ur, .inl (cI, 7, .inl w1)), (tc, .inr (0, [.ref uc, .int 0])), (uc, .inl (cI, 11, .inl (fun _ => 0))), (th, .inr (1, [.ref uh, .int 0, .int 0, .int 0])), (uh, .inl (cI, 12, .inl (fun _ => 0)))]) [0, 1, 2, 3, 4, 5, 6, 7, 8, 9, 10, 11, 12, 13] rfl
  have hDc := hD.sub (ws' := [(h0, .inr (5, [.ref tr, .ref tc, .ref tg, .ref tf, .ref th, .ref tm, .ref to, .ref tp, .int (-1), .int 0, .long 1, .int 0])), (to, .inr (3, [.ref o0, .ref o1, .ref o2, .ref o3, .int (-1), .int (-1), .long 0, .ref o4, .ref o5, .ref o6, .ref o7, .int 0, .ref o8, .ref o9, .int 0])), (o0, .inr (4, [.ref v0])), (v0, .inl (cI, 7, .inl w2)), (o1, .inr (0, [.ref v1, .int 0])), (v1, .inl (cI, 11, .inl (fun _ => 0))), (o3, .inr (1, [.ref v3, .int 0, .int 0, .int 0])), (v3, .inl (cI, 12, .inl (fun _ => 0))), (tr, .inr (4, [.ref ur])), (ur, .inl (cI, 7, .inl w1)), (tc, .inr (0, [.ref uc, .int 0])), (uc, .inl (cI, 11, .inl (fun _ => 0))), (th, .inr (1, [.ref uh, .int 0, .int 0, .int 0])), (uh, .inl (cI, 12, .inl (fun _ => 0)))]) [0, 1, 2, 3, 4, 5, 6, 7, 8, 9, 10, 11, 12, 13] (by decide) rfl
  have hFc := va_free (wc := [(h0, .inr (5, [.ref tr, .ref tc, .ref tg, .ref tf, .ref th, .ref tm, .ref to, .ref tp, .int (-1), .int 0, .long 1, .int 0])), (to, .inr (3, [.ref o0, .ref o1, .ref o2, .ref o3, .int (-1), .int (-1), .long 0, .ref o4, .ref o5, .ref o6, .ref o7, .int 0, .ref o8, .ref o9, .int 0])), (o0, .inr (4, [.ref v0])), (v0, .inl (cI, 7, .inl w2)), (o1, .inr (0, [.ref v1, .int 0])), (v1, .inl (cI, 11, .inl (fun _ => 0))), (o3, .inr (1, [.ref v3, .int 0, .int 0, .int 0])), (v3, .inl (cI, 12, .inl (fun _ => 0))), (tr, .inr (4, [.ref ur])), (ur, .inl (cI, 7, .inl w1)), (tc, .inr (0, [.ref uc, .int 0])), (uc, .inl (cI, 11, .inl (fun _ => 0))), (th, .inr (1, [.ref uh, .int 0, .int 0, .int 0])), (uh, .inl (cI, 12, .inl (fun _ => 0)))]) hD hS hA [0, 1, 2, 3, 4, 5, 6, 7, 8, 9, 10, 11, 12, 13] rfl
  refine va_callv (va_runV (As := []) (rest := []) ⟨hx, hb, hml, hown, hts⟩ (c_X5_lookAtTable l D cI cJ cQ _ h0 tr tc tg tf th tm to tp o0 o1 o2 o3 o4 o5 o6 o7 o8 o9 v0 (w2) v1 v3 ur (w1) uc uh) (cwV 0 hts gX5_best_X5_lookAtTable rfl rfl rfl (by decide +kernel) ⟨Nat.le_of_ble_eq_true rfl, Nat.le_of_ble_eq_true rfl⟩) (mP_preV (ci := 5) (q0 := 0) hPc hK hDc rfl rfl) rfl rfl hl.1 rfl (lv_room (Nat.le_of_ble_eq_true rfl)) dX5_best_1 ⟨Nat.le_of_ble_eq_true rfl, Nat.le_of_ble_eq_true rfl⟩) hS (fun q _ h => hFc q h) hFc (fun u_r_1 t H1 locs ht hvm hr_1 hB hz1 hk1 hS => ?_)
  obtain ⟨hP1, hK1, hD1⟩ := hB
  rw [ht] at hP1
  try dsimp only at hr_1
  obtain ⟨hP, hD⟩ := va_join (wr := []) (w1 := [(h0, .inr (5, [.ref tr, .ref tc, .ref tg, .ref tf, .ref th, .ref tm, .ref to, .ref tp, .int (-1), .int 0, .long 1, .int 0])), (to, .inr (3, [.ref o0, .ref o1, .ref o2, .ref o3, .int (-1), .int (-1), .long 0, .ref o4, .ref o5, .ref o6, .ref o7, .int 0, .ref o8, .ref o9, .int 0])), (o3, .inr (1, [.ref v3, .int 0, .int 0, .int 0])), (tc, .inr (0, [.ref uc, .int 0])), (uc, .inl (cI, 11, .inl (fun _ => 0)))]) hP hD [0, 1, 2, 3, 4, 5, 6, 7, 8, 9, 10, 11, 12, 13] [] rfl rfl (by decide) (by decide) hk1 hFc hP1 hD1
  generalize H1 = H at hP hS ⊢
  have hP : va_P D vwCl [(h0, .inr (5, [.ref tr, .ref tc, .ref tg, .ref tf, .ref th, .ref tm, .ref to, .ref tp, .int (-1), .int 0, .long 1, .int 0])), (to, .inr (3, [.ref o0, .ref o1, .ref o2, .ref o3, .int (-1), .int (-1), .long 0, .ref o4, .ref o5, .ref o6, .ref o7, .int 0, .ref o8, .ref o9, .int 0])), (o3, .inr (1, [.ref v3, .int 0, .int 0, .int 0])), (tc, .inr (0, [.ref uc, .int 0])), (uc, .inl (cI, 11, .inl (fun _ => 0)))] H := hP
  have hD : va_D A [(h0, .inr (5, [.ref tr, .ref tc, .ref tg, .ref tf, .ref th, .ref tm, .ref to, .ref tp, .int (-1), .int 0, .long 1, .int 0])), (to, .inr (3, [.ref o0, .ref o1, .ref o2, .ref o3, .int (-1), .int (-1), .long 0, .ref o4, .ref o5, .ref o6, .ref o7, .int 0, .ref o8, .ref o9, .int 0])), (o3, .inr (1, [.ref v3, .int 0, .int 0, .int 0])), (tc, .inr (0, [.ref uc, .int 0])), (uc, .inl (cI, 11, .inl (fun _ => 0)))] := hD
  refine lv_aload_n hx hb dX5_best_4 rfl (lv_at hl 0 rfl) ?_
  refine va_get (D := D) (ci := 5) (v := .ref to) (C := RX5) (T := TX5) (N := 12) hx hb hts in_X5_best_X5 hown hK hP 0 rfl rfl 6 (by decide) (hts _ wd_X5_best_0) (fun _ h9 => h9) rfl dX5_best_5 ?_
  have hPc := hP.sub (ws' := [(to, .inr (3, [.ref o0, .ref o1, .ref o2, .ref o3, .int (-1), .int (-1), .long 0, .ref o4, .ref o5, .ref o6, .ref o7, .int 0, .ref o8, .ref o9, .int 0])), (o3, .inr (1, [.ref v3, .int 0, .int 0, .int 0]))]) [1, 2] rfl
  refine vp_callSi (W.runV (As := []) (rest := []) ⟨hx, hb, hml, hown, hts⟩ (c_X3_anyThere l D cI cJ cQ to o0 o1 o2 o3 o4 o5 o6 o7 o8 o9 v3) (cwV 0 hts gX5_best_X3_anyThere rfl rfl rfl (by decide +kernel) ⟨Nat.le_of_ble_eq_true rfl, Nat.le_of_ble_eq_true rfl⟩) (rP_preV (ci := 3) (q0 := 0) hPc hK rfl rfl) rfl rfl hl.1 rfl (lv_room (Nat.le_of_ble_eq_true rfl)) dX5_best_8 ⟨Nat.le_of_ble_eq_true rfl, Nat.le_of_ble_eq_true rfl⟩) (fun r_2 hr_2 => ?_)
  subst hr_2
  refine lv_if_ne (tgt := 18) hx hb dX5_best_11 (by decide) (fun c11_3 => ?_) (fun c11_3 => ?_)
  · exact absurd c11_3 (by decide)
  refine lv_sipush (v := (-1002)) hx hb dX5_best_14 (by decide) ?_
  have hP9 := hP.sub (ws' := []) [] rfl
  have hD9 := hD.sub (ws' := []) [] (by decide) rfl
  exact W.iret (v := (-1002)) hx hb hr (fun t ht hW => ⟨⟨(-1002), (), rfl, (by first | rfl | trivial | (simp [hr_1]; done) | ((try first | rw [if_pos hr_1] | rw [if_neg hr_1]); first | done | rfl | trivial) | (simp_all; done)), by rw [ht]; exact hP9, va_K.moved hW.alike hK, hD9⟩, hS.F ht⟩) hS.2.2 dX5_best_17

set_option maxRecDepth 20000 in
theorem wd_X5_chance_0 : Cond.constantLong RX5 168 (-1001) ∈ wsX5_chance := by decide +kernel
set_option maxRecDepth 20000 in
theorem ggX5_chance_X5_isPart : GoodIn wsX5_chance wsX5_isPart := goodIn_r _ [11] (by decide +kernel) (by decide +kernel)
set_option maxRecDepth 20000 in
theorem gX5_chance_X5_isPart : GoodIn wsX5_chance (va_wsS RX5 165 yX5_isPart wsX5_isPart) := goodIn_app (goodIn_of _ (by decide +kernel)) ggX5_chance_X5_isPart
set_option maxRecDepth 20000 in
theorem in_X5_chance_X5 : ∀ w ∈ wsX50, w ∈ wsX5_chance := by decide +kernel
set_option maxRecDepth 20000 in
theorem wd_X5_chance_1 : Cond.fieldLink RX5 54 "ShoeTable" "up" "I" ∈ wsX5_chance := by decide +kernel
set_option maxRecDepth 20000 in
theorem wd_X5_chance_2 : Cond.constantLong RX5 170 (-1002) ∈ wsX5_chance := by decide +kernel
set_option maxHeartbeats 400000 in
set_option maxRecDepth 100000 in
/-- X5_chance -/
theorem c_X5_chance (l : Launch) (D : va_G) (cI cJ cQ : ClassId) (h0 : Nat) (tr : Nat) (tc : Nat) (tg : Nat) (tf : Nat) (th : Nat) (tm : Nat) (to : Nat) (tp : Nat) (p0 : Int32) (p1 : Int32)  : Met l yX5_chance wsX5_chance ({ frames := 1, cells := 0, slots := 0, locals := 20 }) (va_Pc [.ref h0, .int p0, .int p1] (rP D (gTy cI cJ cQ) [(h0, .inr (5, [.ref tr, .ref tc, .ref tg, .ref tf, .ref th, .ref tm, .ref to, .ref tp, .int (-1), .int 0, .long 1, .int 0]))])) (vp_Sl (fun r => r = chanceS p0 p1)) 0 0 (fun _ => False) := by
  refine Met.ofW (cc := cX5_chance) (maxL := 3) (ret := (some .long)) (by decide) rfl ?_
  intro p e s m args below meth c s₁ B hml hv
  obtain ⟨rfl, hP, hK⟩ := hv
  have hx := B.exec
  have hb := B.bytes
  have hr := B.returns
  have hts := atoms_spec (ws := wsX5_chance) B.pre
  have hown : s.vm.findClass RX5 = some m.cls := findClass_of_methodNamed B.named
  have hlocks := B.notSynchronized
  have hl := lv_entry ([.ref h0, .int p0, .int p1]) (n := 3) (Nat.le_of_ble_eq_true rfl)
  rw [lg_entry_eq]
  generalize (lg_sl ([.ref h0, .int p0, .int p1]) ++ List.replicate (3 - (lg_sl ([.ref h0, .int p0, .int p1])).length) Slot.unset).toArray = ls at hl ⊢
  have hl : lv_has ls 3 [(0, .ref h0), (1, .int p0), (2, .int p1)] := hl
  refine lv_iload_n hx hb dX5_chance_0 rfl (lv_at hl 1 rfl) ?_
  refine lv_if_lt (tgt := 22) hx hb dX5_chance_1 (by decide) (fun c1_1 => ?_) (fun c1_1 => ?_)
  · skip
    refine lv_ldc2 hx hb hown (hts _ wd_X5_chance_0) dX5_chance_22 ?_
    exact W.lret (v := (-1001)) hx hb hr (fun t ht hW => ⟨_, rfl, (by unfold chanceS; first | (simp [c1_1]; done) | ((try first | rw [if_pos c1_1] | rw [if_neg c1_1]); first | done | rfl | trivial)), ht⟩) (fun q hq => absurd hq List.not_mem_nil) dX5_chance_25
  · skip
    refine lv_iload_n hx hb dX5_chance_4 rfl (lv_at hl 1 rfl) ?_
    refine lv_iconst (v := 1) hx hb dX5_chance_5 (by decide) ?_
    refine lv_icmp_eq (tgt := 22) hx hb dX5_chance_6 (by decide) (fun c6_2 => ?_) (fun c6_2 => ?_)
    · skip
      refine lv_ldc2 hx hb hown (hts _ wd_X5_chance_0) dX5_chance_22 ?_
      exact W.lret (v := (-1001)) hx hb hr (fun t ht hW => ⟨_, rfl, (by unfold chanceS; first | (simp [c1_1, c6_2]; done) | ((try first | rw [if_pos c1_1] | rw [if_neg c1_1]); (try first | rw [if_pos c6_2] | rw [if_neg c6_2]); first | done | rfl | trivial)), ht⟩) (fun q hq => absurd hq List.not_mem_nil) dX5_chance_25
    · skip
      refine lv_iload_n hx hb dX5_chance_9 rfl (lv_at hl 1 rfl) ?_
      refine lv_bipush (v := 21) hx hb dX5_chance_10 (by decide) ?_
      refine lv_icmp_gt (tgt := 22) hx hb dX5_chance_12 (by decide) (fun c12_3 => ?_) (fun c12_3 => ?_)
      · skip
        refine lv_ldc2 hx hb hown (hts _ wd_X5_chance_0) dX5_chance_22 ?_
        exact W.lret (v := (-1001)) hx hb hr (fun t ht hW => ⟨_, rfl, (by unfold chanceS; first | (simp [c1_1, c6_2, c12_3]; done) | ((try first | rw [if_pos c1_1] | rw [if_neg c1_1]); (try first | rw [if_pos c6_2] | rw [if_neg c6_2]); (try first | rw [if_pos c12_3] | rw [if_neg c12_3]); first | done | rfl | trivial)), ht⟩) (fun q hq => absurd hq List.not_mem_nil) dX5_chance_25
      · skip
        refine lv_iload_n hx hb dX5_chance_15 rfl (lv_at hl 2 rfl) ?_
        have hPc := hP.sub (ws' := []) [] rfl
        refine vp_callSi (W.runS (As := [.int p1]) (rest := []) ⟨hx, hb, hml, hown, hts⟩ (c_X5_isPart l D cI cJ cQ p1) (va_cwS 1 hts gX5_chance_X5_isPart rfl rfl rfl (by decide +kernel) ⟨Nat.le_of_ble_eq_true rfl, Nat.le_of_ble_eq_true rfl⟩) (rP_preS hPc hK) rfl rfl hl.1 rfl (lv_room (Nat.le_of_ble_eq_true rfl)) dX5_chance_16 ⟨Nat.le_of_ble_eq_true rfl, Nat.le_of_ble_eq_true rfl⟩) (fun r_4 hr_4 => ?_)
        subst hr_4
        refine lv_if_ne (tgt := 26) hx hb dX5_chance_19 (by decide) (fun c19_5 => ?_) (fun c19_5 => ?_)
        · skip
          refine lv_aload_n hx hb dX5_chance_26 rfl (lv_at hl 0 rfl) ?_
          refine va_get (D := D) (ci := 5) (v := .int (-1)) (C := RX5) (T := TX5) (N := 12) hx hb hts in_X5_chance_X5 hown hK hP 0 rfl rfl 8 (by decide) (hts _ wd_X5_chance_1) (fun _ h9 => h9) rfl dX5_chance_27 ?_
          refine lv_iconst (v := (-1)) hx hb dX5_chance_30 (by decide) ?_
          refine lv_icmp_ne (tgt := 38) hx hb dX5_chance_31 (by decide) (fun c31_6 => ?_) (fun c31_6 => ?_)
          · exact absurd c31_6 (by decide)
          refine lv_ldc2 hx hb hown (hts _ wd_X5_chance_2) dX5_chance_34 ?_
          exact W.lret (v := (-1002)) hx hb hr (fun t ht hW => ⟨_, rfl, (by unfold chanceS; first | (simp [c1_1, c6_2, c12_3, c19_5]; done) | ((try first | rw [if_pos c1_1] | rw [if_neg c1_1]); (try first | rw [if_pos c6_2] | rw [if_neg c6_2]); (try first | rw [if_pos c12_3] | rw [if_neg c12_3]); (try first | rw [if_pos c19_5] | rw [if_neg c19_5]); first | done | rfl | trivial)), ht⟩) (fun q hq => absurd hq List.not_mem_nil) dX5_chance_37
        · skip
          refine lv_ldc2 hx hb hown (hts _ wd_X5_chance_0) dX5_chance_22 ?_
          exact W.lret (v := (-1001)) hx hb hr (fun t ht hW => ⟨_, rfl, (by unfold chanceS; first | (simp [c1_1, c6_2, c12_3, c19_5]; done) | ((try first | rw [if_pos c1_1] | rw [if_neg c1_1]); (try first | rw [if_pos c6_2] | rw [if_neg c6_2]); (try first | rw [if_pos c12_3] | rw [if_neg c12_3]); (try first | rw [if_pos c19_5] | rw [if_neg c19_5]); first | done | rfl | trivial)), ht⟩) (fun q hq => absurd hq List.not_mem_nil) dX5_chance_25

set_option maxRecDepth 20000 in
theorem ggX5_deal_X5_isPart : GoodIn wsX5_deal wsX5_isPart := goodIn_r _ [10] (by decide +kernel) (by decide +kernel)
set_option maxRecDepth 20000 in
theorem gX5_deal_X5_isPart : GoodIn wsX5_deal (va_wsS RX5 165 yX5_isPart wsX5_isPart) := goodIn_app (goodIn_of _ (by decide +kernel)) ggX5_deal_X5_isPart
set_option maxRecDepth 20000 in
theorem in_X5_deal_X5 : ∀ w ∈ wsX50, w ∈ wsX5_deal := by decide +kernel
set_option maxRecDepth 20000 in
theorem wd_X5_deal_0 : Cond.fieldLink RX5 19 "ShoeTable" "cards" "LShoeTable$Cards;" ∈ wsX5_deal := by decide +kernel
set_option maxRecDepth 20000 in
theorem in_X5_deal_X0 : ∀ w ∈ wsX00, w ∈ wsX5_deal := by decide +kernel
set_option maxRecDepth 20000 in
theorem wd_X5_deal_1 : Cond.fieldLink RX5 91 "ShoeTable$Cards" "total" "I" ∈ wsX5_deal := by decide +kernel
set_option maxRecDepth 20000 in
theorem wd_X5_deal_2 : Cond.constantLong RX5 170 (-1002) ∈ wsX5_deal := by decide +kernel
set_option maxRecDepth 20000 in
theorem wd_X5_deal_3 : Cond.constantLong RX5 168 (-1001) ∈ wsX5_deal := by decide +kernel
set_option maxHeartbeats 400000 in
set_option maxRecDepth 100000 in
/-- X5_deal -/
theorem c_X5_deal (l : Launch) (D : va_G) (cI cJ cQ : ClassId) (h0 : Nat) (tr : Nat) (tc : Nat) (tg : Nat) (tf : Nat) (th : Nat) (tm : Nat) (to : Nat) (tp : Nat) (uc : Nat) (p0 : Int32)  : Met l yX5_deal wsX5_deal ({ frames := 1, cells := 0, slots := 0, locals := 20 }) (va_Pc [.ref h0, .int p0] (rP D (gTy cI cJ cQ) [(h0, .inr (5, [.ref tr, .ref tc, .ref tg, .ref tf, .ref th, .ref tm, .ref to, .ref tp, .int (-1), .int 0, .long 1, .int 0])), (tc, .inr (0, [.ref uc, .int 0]))])) (vp_Sl (fun r => r = dealS p0)) 0 0 (fun _ => False) := by
  refine Met.ofW (cc := cX5_deal) (maxL := 2) (ret := (some .long)) (by decide) rfl ?_
  intro p e s m args below meth c s₁ B hml hv
  obtain ⟨rfl, hP, hK⟩ := hv
  have hx := B.exec
  have hb := B.bytes
  have hr := B.returns
  have hts := atoms_spec (ws := wsX5_deal) B.pre
  have hown : s.vm.findClass RX5 = some m.cls := findClass_of_methodNamed B.named
  have hlocks := B.notSynchronized
  have hl := lv_entry ([.ref h0, .int p0]) (n := 2) (Nat.le_of_ble_eq_true rfl)
  rw [lg_entry_eq]
  generalize (lg_sl ([.ref h0, .int p0]) ++ List.replicate (2 - (lg_sl ([.ref h0, .int p0])).length) Slot.unset).toArray = ls at hl ⊢
  have hl : lv_has ls 2 [(0, .ref h0), (1, .int p0)] := hl
  refine lv_iload_n hx hb dX5_deal_0 rfl (lv_at hl 1 rfl) ?_
  have hPc := hP.sub (ws' := []) [] rfl
  refine vp_callSi (W.runS (As := [.int p0]) (rest := []) ⟨hx, hb, hml, hown, hts⟩ (c_X5_isPart l D cI cJ cQ p0) (va_cwS 1 hts gX5_deal_X5_isPart rfl rfl rfl (by decide +kernel) ⟨Nat.le_of_ble_eq_true rfl, Nat.le_of_ble_eq_true rfl⟩) (rP_preS hPc hK) rfl rfl hl.1 rfl (lv_room (Nat.le_of_ble_eq_true rfl)) dX5_deal_1 ⟨Nat.le_of_ble_eq_true rfl, Nat.le_of_ble_eq_true rfl⟩) (fun r_1 hr_1 => ?_)
  subst hr_1
  refine lv_if_ne (tgt := 11) hx hb dX5_deal_4 (by decide) (fun c4_2 => ?_) (fun c4_2 => ?_)
  · skip
    refine lv_aload_n hx hb dX5_deal_11 rfl (lv_at hl 0 rfl) ?_
    refine va_get (D := D) (ci := 5) (v := .ref tc) (C := RX5) (T := TX5) (N := 12) hx hb hts in_X5_deal_X5 hown hK hP 0 rfl rfl 1 (by decide) (hts _ wd_X5_deal_0) (fun _ h9 => h9) rfl dX5_deal_12 ?_
    refine va_get (D := D) (ci := 0) (v := .int 0) (C := RX0) (T := TX0) (N := 2) hx hb hts in_X5_deal_X0 hown hK hP 1 rfl rfl 1 (by decide) (hts _ wd_X5_deal_1) (fun _ h9 => h9) rfl dX5_deal_15 ?_
    refine lv_iconst (v := 3) hx hb dX5_deal_18 (by decide) ?_
    refine lv_icmp_ge (tgt := 26) hx hb dX5_deal_19 (by decide) (fun c19_3 => ?_) (fun c19_3 => ?_)
    · exact absurd c19_3 (by decide)
    refine lv_ldc2 hx hb hown (hts _ wd_X5_deal_2) dX5_deal_22 ?_
    exact W.lret (v := (-1002)) hx hb hr (fun t ht hW => ⟨_, rfl, (by unfold dealS; first | (simp [c4_2]; done) | ((try first | rw [if_pos c4_2] | rw [if_neg c4_2]); first | done | rfl | trivial)), ht⟩) (fun q hq => absurd hq List.not_mem_nil) dX5_deal_25
  · skip
    refine lv_ldc2 hx hb hown (hts _ wd_X5_deal_3) dX5_deal_7 ?_
    exact W.lret (v := (-1001)) hx hb hr (fun t ht hW => ⟨_, rfl, (by unfold dealS; first | (simp [c4_2]; done) | ((try first | rw [if_pos c4_2] | rw [if_neg c4_2]); first | done | rfl | trivial)), ht⟩) (fun q hq => absurd hq List.not_mem_nil) dX5_deal_10

set_option maxRecDepth 20000 in
theorem ggX5_moved_X5_isRank : GoodIn wsX5_moved wsX5_isRank := goodIn_r _ [10] (by decide +kernel) (by decide +kernel)
set_option maxRecDepth 20000 in
theorem gX5_moved_X5_isRank : GoodIn wsX5_moved (va_wsS RX5 69 yX5_isRank wsX5_isRank) := goodIn_app (goodIn_of _ (by decide +kernel)) ggX5_moved_X5_isRank
set_option maxRecDepth 20000 in
theorem wd_X5_moved_0 : Cond.constantLong RX5 168 (-1001) ∈ wsX5_moved := by decide +kernel
set_option maxRecDepth 20000 in
theorem ggX5_moved_X5_isPart : GoodIn wsX5_moved wsX5_isPart := goodIn_r _ [13] (by decide +kernel) (by decide +kernel)
set_option maxRecDepth 20000 in
theorem gX5_moved_X5_isPart : GoodIn wsX5_moved (va_wsS RX5 165 yX5_isPart wsX5_isPart) := goodIn_app (goodIn_of _ (by decide +kernel)) ggX5_moved_X5_isPart
set_option maxRecDepth 20000 in
theorem ggX5_moved_X5_lookAtTable : GoodIn wsX5_moved wsX5_lookAtTable := goodIn_r _ [17, 3, 18, 2, 19, 20, 21, 22, 23, 24, 25, 26, 27, 28, 29, 30, 31, 32, 33, 34, 35, 36, 37, 38, 39, 40, 41, 42, 43, 44, 45, 46, 47, 48, 49, 50, 51, 52, 53, 54, 55, 56, 57, 201, 202, 203, 204, 205, 206, 207, 208, 209, 210, 211, 212, 215, 216, 217, 218, 219, 220, 221, 222, 223, 224, 225, 226, 227, 228, 229, 230, 213, 214, 231, 232, 233, 234] (by decide +kernel) (by decide +kernel)
set_option maxRecDepth 20000 in
theorem gX5_moved_X5_lookAtTable : GoodIn wsX5_moved (wsV RX5 159 RX5 yX5_lookAtTable wsX5_lookAtTable) := goodIn_app (goodIn_of _ (by decide +kernel)) ggX5_moved_X5_lookAtTable
set_option maxRecDepth 20000 in
theorem in_X5_moved_X5 : ∀ w ∈ wsX50, w ∈ wsX5_moved := by decide +kernel
set_option maxRecDepth 20000 in
theorem wd_X5_moved_1 : Cond.fieldLink RX5 19 "ShoeTable" "cards" "LShoeTable$Cards;" ∈ wsX5_moved := by decide +kernel
set_option maxRecDepth 20000 in
theorem ggX5_moved_X0_count : GoodIn wsX5_moved wsX0_count := goodIn_r _ [61, 45, 213, 214] (by decide +kernel) (by decide +kernel)
set_option maxRecDepth 20000 in
theorem gX5_moved_X0_count : GoodIn wsX5_moved (wsV RX5 73 RX0 yX0_count wsX0_count) := goodIn_app (goodIn_of _ (by decide +kernel)) ggX5_moved_X0_count
set_option maxRecDepth 20000 in
theorem wd_X5_moved_2 : Cond.constantLong RX5 170 (-1002) ∈ wsX5_moved := by decide +kernel
set_option maxHeartbeats 400000 in
set_option maxRecDepth 100000 in
/-- X5_moved -/
theorem c_X5_moved (l : Launch) (D : va_G) (cI cJ cQ : ClassId) (sz : Nat) (h0 : Nat) (tr : Nat) (tc : Nat) (tg : Nat) (tf : Nat) (th : Nat) (tm : Nat) (to : Nat) (tp : Nat) (o0 : Nat) (o1 : Nat) (o2 : Nat) (o3 : Nat) (o4 : Nat) (o5 : Nat) (o6 : Nat) (o7 : Nat) (o8 : Nat) (o9 : Nat) (v0 : Nat) (w2 : Nat → Int32) (v1 : Nat) (v3 : Nat) (ur : Nat) (w1 : Nat → Int32) (uc : Nat) (uh : Nat) (p0 : Int32) (p1 : Int32)  : Met l yX5_moved wsX5_moved ({ frames := 4, cells := 0, slots := 0, locals := 105 }) (va_Pc [.ref h0, .int p0, .int p1] (mP D (gTy cI cJ cQ) [(h0, .inr (5, [.ref tr, .ref tc, .ref tg, .ref tf, .ref th, .ref tm, .ref to, .ref tp, .int (-1), .int 0, .long 1, .int 0])), (to, .inr (3, [.ref o0, .ref o1, .ref o2, .ref o3, .int (-1), .int (-1), .long 0, .ref o4, .ref o5, .ref o6, .ref o7, .int 0, .ref o8, .ref o9, .int 0])), (o0, .inr (4, [.ref v0])), (v0, .inl (cI, 7, .inl w2)), (o1, .inr (0, [.ref v1, .int 0])), (v1, .inl (cI, 11, .inl (fun _ => 0))), (o3, .inr (1, [.ref v3, .int 0, .int 0, .int 0])), (v3, .inl (cI, 12, .inl (fun _ => 0))), (tr, .inr (4, [.ref ur])), (ur, .inl (cI, 7, .inl w1)), (tc, .inr (0, [.ref uc, .int 0])), (uc, .inl (cI, 11, .inl (fun _ => 0))), (th, .inr (1, [.ref uh, .int 0, .int 0, .int 0])), (uh, .inl (cI, 12, .inl (fun _ => 0)))] sz)) (va_Ql (fun (r : Int64) (u : Unit) => match u with | _ => r = movedS p0 p1) (fun (u : Unit) t => match u with | _ => mB D (gTy cI cJ cQ) (va_A [(h0, .inr (5, [.ref tr, .ref tc, .ref tg, .ref tf, .ref th, .ref tm, .ref to, .ref tp, .int (-1), .int 0, .long 1, .int 0])), (to, .inr (3, [.ref o0, .ref o1, .ref o2, .ref o3, .int (-1), .int (-1), .long 0, .ref o4, .ref o5, .ref o6, .ref o7, .int 0, .ref o8, .ref o9, .int 0])), (o0, .inr (4, [.ref v0])), (v0, .inl (cI, 7, .inl w2)), (o1, .inr (0, [.ref v1, .int 0])), (v1, .inl (cI, 11, .inl (fun _ => 0))), (o3, .inr (1, [.ref v3, .int 0, .int 0, .int 0])), (v3, .inl (cI, 12, .inl (fun _ => 0))), (tr, .inr (4, [.ref ur])), (ur, .inl (cI, 7, .inl w1)), (tc, .inr (0, [.ref uc, .int 0])), (uc, .inl (cI, 11, .inl (fun _ => 0))), (th, .inr (1, [.ref uh, .int 0, .int 0, .int 0])), (uh, .inl (cI, 12, .inl (fun _ => 0)))] sz) [] t) (va_A [(h0, .inr (5, [.ref tr, .ref tc, .ref tg, .ref tf, .ref th, .ref tm, .ref to, .ref tp, .int (-1), .int 0, .long 1, .int 0])), (to, .inr (3, [.ref o0, .ref o1, .ref o2, .ref o3, .int (-1), .int (-1), .long 0, .ref o4, .ref o5, .ref o6, .ref o7, .int 0, .ref o8, .ref o9, .int 0])), (o0, .inr (4, [.ref v0])), (v0, .inl (cI, 7, .inl w2)), (o1, .inr (0, [.ref v1, .int 0])), (v1, .inl (cI, 11, .inl (fun _ => 0))), (o3, .inr (1, [.ref v3, .int 0, .int 0, .int 0])), (v3, .inl (cI, 12, .inl (fun _ => 0))), (tr, .inr (4, [.ref ur])), (ur, .inl (cI, 7, .inl w1)), (tc, .inr (0, [.ref uc, .int 0])), (uc, .inl (cI, 11, .inl (fun _ => 0))), (th, .inr (1, [.ref uh, .int 0, .int 0, .int 0])), (uh, .inl (cI, 12, .inl (fun _ => 0)))] sz)) 0 0 (va_A [(h0, .inr (5, [.ref tr, .ref tc, .ref tg, .ref tf, .ref th, .ref tm, .ref to, .ref tp, .int (-1), .int 0, .long 1, .int 0])), (to, .inr (3, [.ref o0, .ref o1, .ref o2, .ref o3, .int (-1), .int (-1), .long 0, .ref o4, .ref o5, .ref o6, .ref o7, .int 0, .ref o8, .ref o9, .int 0])), (o0, .inr (4, [.ref v0])), (v0, .inl (cI, 7, .inl w2)), (o1, .inr (0, [.ref v1, .int 0])), (v1, .inl (cI, 11, .inl (fun _ => 0))), (o3, .inr (1, [.ref v3, .int 0, .int 0, .int 0])), (v3, .inl (cI, 12, .inl (fun _ => 0))), (tr, .inr (4, [.ref ur])), (ur, .inl (cI, 7, .inl w1)), (tc, .inr (0, [.ref uc, .int 0])), (uc, .inl (cI, 11, .inl (fun _ => 0))), (th, .inr (1, [.ref uh, .int 0, .int 0, .int 0])), (uh, .inl (cI, 12, .inl (fun _ => 0)))] sz) := by
  refine Met.ofW (cc := cX5_moved) (maxL := 3) (ret := (some .long)) (by decide) rfl ?_
  intro p e s m args below meth c s₁ B hml hv
  obtain ⟨rfl, hsz, hP, hK, hD0⟩ := hv
  have hx := B.exec
  have hb := B.bytes
  have hr := B.returns
  have hts := atoms_spec (ws := wsX5_moved) B.pre
  have hown : s.vm.findClass RX5 = some m.cls := findClass_of_methodNamed B.named
  have hlocks := B.notSynchronized
  subst hsz
  have hD := hD0.self (sz := s.heap.size)
  generalize hAe : va_A [(h0, .inr (5, [.ref tr, .ref tc, .ref tg, .ref tf, .ref th, .ref tm, .ref to, .ref tp, .int (-1), .int 0, .long 1, .int 0])), (to, .inr (3, [.ref o0, .ref o1, .ref o2, .ref o3, .int (-1), .int (-1), .long 0, .ref o4, .ref o5, .ref o6, .ref o7, .int 0, .ref o8, .ref o9, .int 0])), (o0, .inr (4, [.ref v0])), (v0, .inl (cI, 7, .inl w2)), (o1, .inr (0, [.ref v1, .int 0])), (v1, .inl (cI, 11, .inl (fun _ => 0))), (o3, .inr (1, [.ref v3, .int 0, .int 0, .int 0])), (v3, .inl (cI, 12, .inl (fun _ => 0))), (tr, .inr (4, [.ref ur])), (ur, .inl (cI, 7, .inl w1)), (tc, .inr (0, [.ref uc, .int 0])), (uc, .inl (cI, 11, .inl (fun _ => 0))), (th, .inr (1, [.ref uh, .int 0, .int 0, .int 0])), (uh, .inl (cI, 12, .inl (fun _ => 0)))] s.heap.size = A at hD ⊢
  have hA : ∀ q : Nat, s.heap.size ≤ q → A q := fun q h => by rw [← hAe]; exact Or.inr h
  have hS : va_S A s.heap s.heap [] := va_S.rf
  have hP : va_P D vwCl [(h0, .inr (5, [.ref tr, .ref tc, .ref tg, .ref tf, .ref th, .ref tm, .ref to, .ref tp, .int (-1), .int 0, .long 1, .int 0])), (to, .inr (3, [.ref o0, .ref o1, .ref o2, .ref o3, .int (-1), .int (-1), .long 0, .ref o4, .ref o5, .ref o6, .ref o7, .int 0, .ref o8, .ref o9, .int 0])), (o0, .inr (4, [.ref v0])), (v0, .inl (cI, 7, .inl w2)), (o1, .inr (0, [.ref v1, .int 0])), (v1, .inl (cI, 11, .inl (fun _ => 0))), (o3, .inr (1, [.ref v3, .int 0, .int 0, .int 0])), (v3, .inl (cI, 12, .inl (fun _ => 0))), (tr, .inr (4, [.ref ur])), (ur, .inl (cI, 7, .inl w1)), (tc, .inr (0, [.ref uc, .int 0])), (uc, .inl (cI, 11, .inl (fun _ => 0))), (th, .inr (1, [.ref uh, .int 0, .int 0, .int 0])), (uh, .inl (cI, 12, .inl (fun _ => 0)))] s.heap := hP
  have hl := lv_entry ([.ref h0, .int p0, .int p1]) (n := 3) (Nat.le_of_ble_eq_true rfl)
  rw [lg_entry_eq]
  generalize (lg_sl ([.ref h0, .int p0, .int p1]) ++ List.replicate (3 - (lg_sl ([.ref h0, .int p0, .int p1])).length) Slot.unset).toArray = ls at hl ⊢
  have hl : lv_has ls 3 [(0, .ref h0), (1, .int p0), (2, .int p1)] := hl
  refine lv_iload_n hx hb dX5_moved_0 rfl (lv_at hl 1 rfl) ?_
  have hPc := hP.sub (ws' := []) [] rfl
  refine vp_callSi (W.runS (As := [.int p0]) (rest := []) ⟨hx, hb, hml, hown, hts⟩ (c_X5_isRank l D cI cJ cQ p0) (va_cwS 1 hts gX5_moved_X5_isRank rfl rfl rfl (by decide +kernel) ⟨Nat.le_of_ble_eq_true rfl, Nat.le_of_ble_eq_true rfl⟩) (rP_preS hPc hK) rfl rfl hl.1 rfl (lv_room (Nat.le_of_ble_eq_true rfl)) dX5_moved_1 ⟨Nat.le_of_ble_eq_true rfl, Nat.le_of_ble_eq_true rfl⟩) (fun r_1 hr_1 => ?_)
  subst hr_1
  refine lv_if_eq (tgt := 14) hx hb dX5_moved_4 (by decide) (fun c4_2 => ?_) (fun c4_2 => ?_)
  · skip
    refine lv_ldc2 hx hb hown (hts _ wd_X5_moved_0) dX5_moved_14 ?_
    have hP9 := hP.sub (ws' := []) [] rfl
    have hD9 := hD.sub (ws' := []) [] (by decide) rfl
    exact W.lret (v := (-1001)) hx hb hr (fun t ht hW => ⟨⟨(-1001), (), rfl, (by unfold movedS; first | (simp [c4_2]; done) | ((try first | rw [if_pos c4_2] | rw [if_neg c4_2]); first | done | rfl | trivial)), by rw [ht]; exact hP9, va_K.moved hW.alike hK, hD9⟩, hS.F ht⟩) hS.2.2 dX5_moved_17
  · skip
    refine lv_iload_n hx hb dX5_moved_7 rfl (lv_at hl 2 rfl) ?_
    have hPc := hP.sub (ws' := []) [] rfl
    refine vp_callSi (W.runS (As := [.int p1]) (rest := []) ⟨hx, hb, hml, hown, hts⟩ (c_X5_isPart l D cI cJ cQ p1) (va_cwS 1 hts gX5_moved_X5_isPart rfl rfl rfl (by decide +kernel) ⟨Nat.le_of_ble_eq_true rfl, Nat.le_of_ble_eq_true rfl⟩) (rP_preS hPc hK) rfl rfl hl.1 rfl (lv_room (Nat.le_of_ble_eq_true rfl)) dX5_moved_8 ⟨Nat.le_of_ble_eq_true rfl, Nat.le_of_ble_eq_true rfl⟩) (fun r_3 hr_3 => ?_)
    subst hr_3
    refine lv_if_ne (tgt := 18) hx hb dX5_moved_11 (by decide) (fun c11_4 => ?_) (fun c11_4 => ?_)
    · skip
      refine lv_aload_n hx hb dX5_moved_18 rfl (lv_at hl 0 rfl) ?_
      have hPc := hP.sub (ws' := [(h0, .inr (5, [.ref tr, .ref tc, .ref tg, .ref tf, .ref th, .ref tm, .ref to, .ref tp, .int (-1), .int 0, .long 1, .int 0])), (to, .inr (3, [.ref o0, .ref o1, .ref o2, .ref o3, .int (-1), .int (-1), .long 0, .ref o4, .ref o5, .ref o6, .ref o7, .int 0, .ref o8, .ref o9, .int 0])), (o0, .inr (4, [.ref v0])), (v0, .inl (cI, 7, .inl w2)), (o1, .inr (0, [.ref v1, .int 0])), (v1, .inl (cI, 11, .inl (fun _ => 0))), (o3, .inr (1, [.ref v3, .int 0, .int 0, .int 0])), (v3, .inl (cI, 12, .inl (fun _ => 0))), (tr, .inr (4, [.ref ur])), (ur, .inl (cI, 7, .inl w1)), (tc, .inr (0, [.ref uc, .int 0])), (uc, .inl (cI, 11, .inl (fun _ => 0))), (th, .inr (1, [.ref uh, .int 0, .int 0, .int 0])), (uh, .inl (cI, 12, .inl (fun _ => 0)))]) [0, 1, 2, 3, 4, 5, 6, 7, 8, 9, 10, 11, 12, 13] rfl
      have hDc := hD.sub (ws' := [(h0, .inr (5, [.ref tr, .ref tc, .ref tg, .ref tf, .ref th, .ref tm, .ref to, .ref tp, .int (-1), .int 0, .long 1, .int 0])), (to, .inr (3, [.ref o0, .ref o1, .ref o2, .ref o3, .int (-1), .int (-1), .long 0, .ref o4, .ref o5, .ref o6, .ref o7, .int 0, .ref o8, .ref o9, .int 0])), (o0, .inr (4, [.ref v0])), (v0, .inl (cI, 7, .inl w2)), (o1, .inr (0, [.ref v1, .int 0])), (v1, .inl (cI, 11, .inl (fun _ => 0))), (o3, .inr (1, [.ref v3, .int 0, .int 0, .int 0])), (v3, .inl (cI, 12, .inl (fun _ => 0))), (tr, .inr (4, [.ref ur])), (ur, .inl (cI, 7, .inl w1)), (tc, .inr (0, [.ref uc, .int 0])), (uc, .inl (cI, 11, .inl (fun _ => 0))), (th, .inr (1, [.ref uh, .int 0, .int 0, .int 0])), (uh, .inl (cI, 12, .inl (fun _ => 0)))]) [0, 1, 2, 3, 4, 5, 6, 7, 8, 9, 10, 11, 12, 13] (by decide) rfl
      have hFc := va_free (wc := [(h0, .inr (5, [.ref tr, .ref tc, .ref tg, .ref tf, .ref th, .ref tm, .ref to, .ref tp, .int (-1), .int 0, .long 1, .int 0])), (to, .inr (3, [.ref o0, .ref o1, .ref o2, .ref o3, .int (-1), .int (-1), .long 0, .ref o4, .ref o5, .ref o6, .ref o7, .int 0, .ref o8, .ref o9, .int 0])), (o0, .inr (4, [.ref v0])), (v0, .inl (cI, 7, .inl w2)), (o1, .inr (0, [.ref v1, .int 0])), (v1, .inl (cI, 11, .inl (fun _ => 0))), (o3, .inr (1, [.ref v3, .int 0, .int 0, .int 0])), (v3, .inl (cI, 12, .inl (fun _ => 0))), (tr, .inr (4, [.ref ur])), (ur, .inl (cI, 7, .inl w1)), (tc, .inr (0, [.ref uc, .int 0])), (uc, .inl (cI, 11, .inl (fun _ => 0))), (th, .inr (1, [.ref uh, .int 0, .int 0, .int 0])), (uh, .inl (cI, 12, .inl (fun _ => 0)))]) hD hS hA [0, 1, 2, 3, 4, 5, 6, 7, 8, 9, 10, 11, 12, 13] rfl
      refine va_callv (va_runV (As := []) (rest := []) ⟨hx, hb, hml, hown, hts⟩ (c_X5_lookAtTable l D cI cJ cQ _ h0 tr tc tg tf th tm to tp o0 o1 o2 o3 o4 o5 o6 o7 o8 o9 v0 (w2) v1 v3 ur (w1) uc uh) (cwV 0 hts gX5_moved_X5_lookAtTable rfl rfl rfl (by decide +kernel) ⟨Nat.le_of_ble_eq_true rfl, Nat.le_of_ble_eq_true rfl⟩) (mP_preV (ci := 5) (q0 := 0) hPc hK hDc rfl rfl) rfl rfl hl.1 rfl (lv_room (Nat.le_of_ble_eq_true rfl)) dX5_moved_19 ⟨Nat.le_of_ble_eq_true rfl, Nat.le_of_ble_eq_true rfl⟩) hS (fun q _ h => hFc q h) hFc (fun u_r_5 t H1 locs ht hvm hr_5 hB hz1 hk1 hS => ?_)
      obtain ⟨hP1, hK1, hD1⟩ := hB
      rw [ht] at hP1
      try dsimp only at hr_5
      obtain ⟨hP, hD⟩ := va_join (wr := []) (w1 := [(h0, .inr (5, [.ref tr, .ref tc, .ref tg, .ref tf, .ref th, .ref tm, .ref to, .ref tp, .int (-1), .int 0, .long 1, .int 0])), (to, .inr (3, [.ref o0, .ref o1, .ref o2, .ref o3, .int (-1), .int (-1), .long 0, .ref o4, .ref o5, .ref o6, .ref o7, .int 0, .ref o8, .ref o9, .int 0])), (o3, .inr (1, [.ref v3, .int 0, .int 0, .int 0])), (tc, .inr (0, [.ref uc, .int 0])), (uc, .inl (cI, 11, .inl (fun _ => 0)))]) hP hD [0, 1, 2, 3, 4, 5, 6, 7, 8, 9, 10, 11, 12, 13] [] rfl rfl (by decide) (by decide) hk1 hFc hP1 hD1
      generalize H1 = H at hP hS ⊢
      have hP : va_P D vwCl [(h0, .inr (5, [.ref tr, .ref tc, .ref tg, .ref tf, .ref th, .ref tm, .ref to, .ref tp, .int (-1), .int 0, .long 1, .int 0])), (to, .inr (3, [.ref o0, .ref o1, .ref o2, .ref o3, .int (-1), .int (-1), .long 0, .ref o4, .ref o5, .ref o6, .ref o7, .int 0, .ref o8, .ref o9, .int 0])), (o3, .inr (1, [.ref v3, .int 0, .int 0, .int 0])), (tc, .inr (0, [.ref uc, .int 0])), (uc, .inl (cI, 11, .inl (fun _ => 0)))] H := hP
      have hD : va_D A [(h0, .inr (5, [.ref tr, .ref tc, .ref tg, .ref tf, .ref th, .ref tm, .ref to, .ref tp, .int (-1), .int 0, .long 1, .int 0])), (to, .inr (3, [.ref o0, .ref o1, .ref o2, .ref o3, .int (-1), .int (-1), .long 0, .ref o4, .ref o5, .ref o6, .ref o7, .int 0, .ref o8, .ref o9, .int 0])), (o3, .inr (1, [.ref v3, .int 0, .int 0, .int 0])), (tc, .inr (0, [.ref uc, .int 0])), (uc, .inl (cI, 11, .inl (fun _ => 0)))] := hD
      refine lv_aload_n hx hb dX5_moved_22 rfl (lv_at hl 0 rfl) ?_
      refine va_get (D := D) (ci := 5) (v := .ref tc) (C := RX5) (T := TX5) (N := 12) hx hb hts in_X5_moved_X5 hown hK hP 0 rfl rfl 1 (by decide) (hts _ wd_X5_moved_1) (fun _ h9 => h9) rfl dX5_moved_23 ?_
      refine lv_iload_n hx hb dX5_moved_26 rfl (lv_at hl 1 rfl) ?_
      have hPc := hP.sub (ws' := [(tc, .inr (0, [.ref uc, .int 0])), (uc, .inl (cI, 11, .inl (fun _ => 0)))]) [3, 4] rfl
      refine vp_callSi (W.runV (As := [.int p0]) (rest := []) ⟨hx, hb, hml, hown, hts⟩ (c_X0_count0 l D cI cJ cQ tc uc p0) (cwV 1 hts gX5_moved_X0_count rfl rfl rfl (by decide +kernel) ⟨Nat.le_of_ble_eq_true rfl, Nat.le_of_ble_eq_true rfl⟩) (rP_preV (ci := 0) (q0 := 0) hPc hK rfl rfl) rfl rfl hl.1 rfl (lv_room (Nat.le_of_ble_eq_true rfl)) dX5_moved_27 ⟨Nat.le_of_ble_eq_true rfl, Nat.le_of_ble_eq_true rfl⟩) (fun r_6 hr_6 => ?_)
      subst hr_6
      refine lv_if_eq (tgt := 43) hx hb dX5_moved_30 (by decide) (fun c30_7 => ?_) (fun c30_7 => ?_)
      · skip
        refine lv_ldc2 hx hb hown (hts _ wd_X5_moved_2) dX5_moved_43 ?_
        have hP9 := hP.sub (ws' := []) [] rfl
        have hD9 := hD.sub (ws' := []) [] (by decide) rfl
        exact W.lret (v := (-1002)) hx hb hr (fun t ht hW => ⟨⟨(-1002), (), rfl, (by unfold movedS; first | (simp [c4_2, c11_4, hr_5, c30_7]; done) | ((try first | rw [if_pos c4_2] | rw [if_neg c4_2]); (try first | rw [if_pos c11_4] | rw [if_neg c11_4]); (try first | rw [if_pos hr_5] | rw [if_neg hr_5]); (try first | rw [if_pos c30_7] | rw [if_neg c30_7]); first | done | rfl | trivial)), by rw [ht]; exact hP9, va_K.moved hW.alike hK, hD9⟩, hS.F ht⟩) hS.2.2 dX5_moved_46
      · exact absurd c30_7 (by decide)
    · skip
      refine lv_ldc2 hx hb hown (hts _ wd_X5_moved_0) dX5_moved_14 ?_
      have hP9 := hP.sub (ws' := []) [] rfl
      have hD9 := hD.sub (ws' := []) [] (by decide) rfl
      exact W.lret (v := (-1001)) hx hb hr (fun t ht hW => ⟨⟨(-1001), (), rfl, (by unfold movedS; first | (simp [c4_2, c11_4]; done) | ((try first | rw [if_pos c4_2] | rw [if_neg c4_2]); (try first | rw [if_pos c11_4] | rw [if_neg c11_4]); first | done | rfl | trivial)), by rw [ht]; exact hP9, va_K.moved hW.alike hK, hD9⟩, hS.F ht⟩) hS.2.2 dX5_moved_17

set_option maxHeartbeats 400000 in
set_option maxRecDepth 100000 in
/-- X5_commonDivisor -/
theorem c_X5_gcd01 (l : Launch) (D : va_G) (cI cJ cQ : ClassId)   : Met l yX5_commonDivisor wsX5_commonDivisor ({ frames := 0, cells := 0, slots := 0, locals := 0 }) (va_Pc [.long 0, .long 1] (rP D (gTy cI cJ cQ) [])) (vp_Sl (fun r => r = 1)) 0 0 (fun _ => False) := by
  refine Met.ofW (cc := cX5_commonDivisor) (maxL := 11) (ret := (some .long)) (by decide) rfl ?_
  intro p e s m args below meth c s₁ B hml hv
  obtain ⟨rfl, hP, hK⟩ := hv
  have hx := B.exec
  have hb := B.bytes
  have hr := B.returns
  have hts := atoms_spec (ws := wsX5_commonDivisor) B.pre
  have hown : s.vm.findClass RX5 = some m.cls := findClass_of_methodNamed B.named
  have hlocks := B.notSynchronized
  have hl := lv_entry ([.long 0, .long 1]) (n := 11) (Nat.le_of_ble_eq_true rfl)
  rw [lg_entry_eq]
  generalize (lg_sl ([.long 0, .long 1]) ++ List.replicate (11 - (lg_sl ([.long 0, .long 1])).length) Slot.unset).toArray = ls at hl ⊢
  have hl : lv_has ls 11 [(0, .long 0), (2, .long 1)] := hl
  refine lv_lload_n hx hb dX5_commonDivisor_0 rfl (lv_at hl 0 rfl) ?_
  refine lv_lstore (lv' := [(4, .long 0), (0, .long 0), (2, .long 1)]) hx hb dX5_commonDivisor_1 hl (by decide) rfl (fun ls hl => ?_)
  refine lv_lload_n hx hb dX5_commonDivisor_3 rfl (lv_at hl 2 rfl) ?_
  refine lv_lstore (lv' := [(6, .long 1), (4, .long 0), (0, .long 0), (2, .long 1)]) hx hb dX5_commonDivisor_4 hl (by decide) rfl (fun ls hl => ?_)
  refine lv_iconst (v := 0) hx hb dX5_commonDivisor_6 (by decide) ?_
  refine lv_istore (lv' := [(8, .int 0), (6, .long 1), (4, .long 0), (0, .long 0), (2, .long 1)]) hx hb dX5_commonDivisor_7 hl (by decide) rfl (fun ls hl => ?_)
  refine lv_iload hx hb dX5_commonDivisor_9 (lv_at hl 0 rfl) ?_
  refine lv_sipush (v := 200) hx hb dX5_commonDivisor_11 (by decide) ?_
  refine lv_icmp_ge (tgt := 45) hx hb dX5_commonDivisor_14 (by decide) (fun c14_1 => ?_) (fun c14_1 => ?_)
  · exact absurd c14_1 (by decide)
  refine lv_lload hx hb dX5_commonDivisor_17 (lv_at hl 1 rfl) ?_
  refine lv_lconst (v := 0) hx hb dX5_commonDivisor_19 (by decide) ?_
  refine W.lcmp hx hb dX5_commonDivisor_20 ?_
  refine lv_topi (fun z_2 ez_2 => ?_)
  obtain rfl : z_2 = 1 := ez_2.trans (by decide)
  refine lv_if_eq (tgt := 45) hx hb dX5_commonDivisor_21 (by decide) (fun c21_3 => ?_) (fun c21_3 => ?_)
  · exact absurd c21_3 (by decide)
  refine lv_lload hx hb dX5_commonDivisor_24 (lv_at hl 2 rfl) ?_
  refine lv_lload hx hb dX5_commonDivisor_26 (lv_at hl 1 rfl) ?_
  refine lv_lrem hx hb dX5_commonDivisor_28 (by decide) ?_
  refine lv_topl (fun z_4 ez_4 => ?_)
  obtain rfl : z_4 = 0 := ez_4.trans (by decide)
  refine lv_lstore (lv' := [(9, .long 0), (8, .int 0), (6, .long 1), (4, .long 0), (0, .long 0), (2, .long 1)]) hx hb dX5_commonDivisor_29 hl (by decide) rfl (fun ls hl => ?_)
  refine lv_lload hx hb dX5_commonDivisor_31 (lv_at hl 2 rfl) ?_
  refine lv_lstore (lv' := [(4, .long 1), (9, .long 0), (8, .int 0), (6, .long 1), (0, .long 0), (2, .long 1)]) hx hb dX5_commonDivisor_33 hl (by decide) rfl (fun ls hl => ?_)
  refine lv_lload hx hb dX5_commonDivisor_35 (lv_at hl 1 rfl) ?_
  refine lv_lstore (lv' := [(6, .long 0), (4, .long 1), (9, .long 0), (8, .int 0), (0, .long 0), (2, .long 1)]) hx hb dX5_commonDivisor_37 hl (by decide) rfl (fun ls hl => ?_)
  refine lv_iinc (v := 1) (lv' := [(8, .int 1), (6, .long 0), (4, .long 1), (9, .long 0), (0, .long 0), (2, .long 1)]) hx hb dX5_commonDivisor_39 hl (k := 3) rfl (by decide) (by decide) rfl (fun ls hl => ?_)
  refine lv_goto (tgt := 9) hx hb dX5_commonDivisor_42 (by decide) ?_
  refine lv_iload hx hb dX5_commonDivisor_9 (lv_at hl 0 rfl) ?_
  refine lv_sipush (v := 200) hx hb dX5_commonDivisor_11 (by decide) ?_
  refine lv_icmp_ge (tgt := 45) hx hb dX5_commonDivisor_14 (by decide) (fun c14_5 => ?_) (fun c14_5 => ?_)
  · exact absurd c14_5 (by decide)
  refine lv_lload hx hb dX5_commonDivisor_17 (lv_at hl 1 rfl) ?_
  refine lv_lconst (v := 0) hx hb dX5_commonDivisor_19 (by decide) ?_
  refine W.lcmp hx hb dX5_commonDivisor_20 ?_
  refine lv_topi (fun z_6 ez_6 => ?_)
  obtain rfl : z_6 = 0 := ez_6.trans (by decide)
  refine lv_if_eq (tgt := 45) hx hb dX5_commonDivisor_21 (by decide) (fun c21_7 => ?_) (fun c21_7 => ?_)
  · skip
    refine lv_lload hx hb dX5_commonDivisor_45 (lv_at hl 2 rfl) ?_
    exact W.lret (v := 1) hx hb hr (fun t ht hW => ⟨_, rfl, (by first | rfl | trivial | (simp [c21_7]; done) | ((try first | rw [if_pos c21_7] | rw [if_neg c21_7]); first | done | rfl | trivial) | (simp_all; done)), ht⟩) (fun q hq => absurd hq List.not_mem_nil) dX5_commonDivisor_47
  · exact absurd c21_7 (by decide)

set_option maxRecDepth 20000 in
theorem wd_X5_part_0 : Cond.methodLink RX5 241 Lib.MathLoose.abs_long.x ∈ wsX5_part := by decide +kernel
set_option maxRecDepth 20000 in
theorem wd_X5_part_1 : Cond.static Lib.MathLoose.abs_long.x ∈ wsX5_part := by decide +kernel
set_option maxRecDepth 20000 in
theorem wd_X5_part_2 : Cond.initialized "java/lang/Math" ∈ wsX5_part := by decide +kernel
set_option maxRecDepth 20000 in
theorem wd_X5_part_3 : Cond.code Lib.MathLoose.abs_long.x Lib.MathLoose.abs_long.code 2 (some .long) ∈ wsX5_part := by decide +kernel
set_option maxRecDepth 20000 in
theorem ggX5_part_X5_commonDivisor : GoodIn wsX5_part wsX5_commonDivisor := goodIn_r _ [8] (by decide +kernel) (by decide +kernel)
set_option maxRecDepth 20000 in
theorem gX5_part_X5_commonDivisor : GoodIn wsX5_part (va_wsS RX5 247 yX5_commonDivisor wsX5_commonDivisor) := goodIn_app (goodIn_of _ (by decide +kernel)) ggX5_part_X5_commonDivisor
set_option maxHeartbeats 400000 in
set_option maxRecDepth 100000 in
/-- X5_part -/
theorem c_X5_part01 (l : Launch) (D : va_G) (cI cJ cQ : ClassId) (p0 : Int32)  : Met l yX5_part wsX5_part ({ frames := 1, cells := 0, slots := 0, locals := 40 }) (va_Pc [.long 0, .long 1, .int p0] (rP D (gTy cI cJ cQ) [])) (vp_Sl (fun r => r = if p0 = 0 then 0 else 1)) 0 0 (fun _ => False) := by
  refine Met.ofW (cc := cX5_part) (maxL := 7) (ret := (some .long)) (by decide) rfl ?_
  intro p e s m args below meth c s₁ B hml hv
  obtain ⟨rfl, hP, hK⟩ := hv
  have hx := B.exec
  have hb := B.bytes
  have hr := B.returns
  have hts := atoms_spec (ws := wsX5_part) B.pre
  have hown : s.vm.findClass RX5 = some m.cls := findClass_of_methodNamed B.named
  have hlocks := B.notSynchronized
  have hl := lv_entry ([.long 0, .long 1, .int p0]) (n := 7) (Nat.le_of_ble_eq_true rfl)
  rw [lg_entry_eq]
  generalize (lg_sl ([.long 0, .long 1, .int p0]) ++ List.replicate (7 - (lg_sl ([.long 0, .long 1, .int p0])).length) Slot.unset).toArray = ls at hl ⊢
  have hl : lv_has ls 7 [(0, .long 0), (2, .long 1), (4, .int p0)] := hl
  refine lv_lload_n hx hb dX5_part_0 rfl (lv_at hl 0 rfl) ?_
  refine va_mabs_long hx hb (by rw [hml]; exact hl.1.symm) hown (hts _ wd_X5_part_0) (hts _ wd_X5_part_1) (hts _ wd_X5_part_2) (hts _ wd_X5_part_3) (Nat.le_of_ble_eq_true rfl) (Nat.le_of_ble_eq_true rfl) (Nat.zero_le _) (Nat.zero_le _) dX5_part_1 ?_
  refine lv_topl (fun z_1 ez_1 => ?_)
  obtain rfl : z_1 = 0 := ez_1.trans (by decide)
  refine lv_lload_n hx hb dX5_part_4 rfl (lv_at hl 1 rfl) ?_
  have hPc := hP.sub (ws' := []) [] rfl
  refine vp_callSl (W.runS (As := [.long 0, .long 1]) (rest := []) ⟨hx, hb, hml, hown, hts⟩ (c_X5_gcd01 l D cI cJ cQ ) (va_cwS 2 hts gX5_part_X5_commonDivisor rfl rfl rfl (by decide +kernel) ⟨Nat.le_of_ble_eq_true rfl, Nat.le_of_ble_eq_true rfl⟩) (rP_preS hPc hK) rfl rfl hl.1 rfl (lv_room (Nat.le_of_ble_eq_true rfl)) dX5_part_5 ⟨Nat.le_of_ble_eq_true rfl, Nat.le_of_ble_eq_true rfl⟩) (fun r_2 hr_2 => ?_)
  subst hr_2
  refine lv_lstore (lv' := [(5, .long 1), (0, .long 0), (2, .long 1), (4, .int p0)]) hx hb dX5_part_8 hl (by decide) rfl (fun ls hl => ?_)
  refine lv_lload hx hb dX5_part_10 (lv_at hl 0 rfl) ?_
  refine lv_lconst (v := 0) hx hb dX5_part_12 (by decide) ?_
  refine W.lcmp hx hb dX5_part_13 ?_
  refine lv_topi (fun z_3 ez_3 => ?_)
  obtain rfl : z_3 = 1 := ez_3.trans (by decide)
  refine lv_if_gt (tgt := 19) hx hb dX5_part_14 (by decide) (fun c14_4 => ?_) (fun c14_4 => ?_)
  · skip
    refine lv_iload hx hb dX5_part_19 (lv_at hl 3 rfl) ?_
    refine lv_if_ne (tgt := 31) hx hb dX5_part_21 (by decide) (fun c21_5 => ?_) (fun c21_5 => ?_)
    · skip
      refine lv_lload_n hx hb dX5_part_31 rfl (lv_at hl 2 rfl) ?_
      refine lv_lload hx hb dX5_part_32 (lv_at hl 0 rfl) ?_
      refine lv_ldiv hx hb dX5_part_34 (by decide) ?_
      refine lv_topl (fun z_6 ez_6 => ?_)
      obtain rfl : z_6 = 1 := ez_6.trans (by decide)
      exact W.lret (v := 1) hx hb hr (fun t ht hW => ⟨_, rfl, (by first | rfl | trivial | (simp [c14_4, c21_5]; done) | ((try first | rw [if_pos c14_4] | rw [if_neg c14_4]); (try first | rw [if_pos c21_5] | rw [if_neg c21_5]); first | done | rfl | trivial) | (simp_all; done)), ht⟩) (fun q hq => absurd hq List.not_mem_nil) dX5_part_35
    · skip
      refine lv_lload_n hx hb dX5_part_24 rfl (lv_at hl 1 rfl) ?_
      refine lv_lload hx hb dX5_part_25 (lv_at hl 0 rfl) ?_
      refine lv_ldiv hx hb dX5_part_27 (by decide) ?_
      refine lv_topl (fun z_7 ez_7 => ?_)
      obtain rfl : z_7 = 0 := ez_7.trans (by decide)
      refine lv_goto (tgt := 35) hx hb dX5_part_28 (by decide) ?_
      exact W.lret (v := 0) hx hb hr (fun t ht hW => ⟨_, rfl, (by first | rfl | trivial | (simp [c14_4, c21_5]; done) | ((try first | rw [if_pos c14_4] | rw [if_neg c14_4]); (try first | rw [if_pos c21_5] | rw [if_neg c21_5]); first | done | rfl | trivial) | (simp_all; done)), ht⟩) (fun q hq => absurd hq List.not_mem_nil) dX5_part_35
  · exact absurd c14_4 (by decide)

set_option maxRecDepth 20000 in
theorem ggX5_known_X5_isRank : GoodIn wsX5_known wsX5_isRank := goodIn_r _ [13] (by decide +kernel) (by decide +kernel)
set_option maxRecDepth 20000 in
theorem gX5_known_X5_isRank : GoodIn wsX5_known (va_wsS RX5 69 yX5_isRank wsX5_isRank) := goodIn_app (goodIn_of _ (by decide +kernel)) ggX5_known_X5_isRank
set_option maxRecDepth 20000 in
theorem wd_X5_known_0 : Cond.constantLong RX5 168 (-1001) ∈ wsX5_known := by decide +kernel
set_option maxRecDepth 20000 in
theorem ggX5_known_X5_isPart : GoodIn wsX5_known wsX5_isPart := goodIn_r _ [16] (by decide +kernel) (by decide +kernel)
set_option maxRecDepth 20000 in
theorem gX5_known_X5_isPart : GoodIn wsX5_known (va_wsS RX5 165 yX5_isPart wsX5_isPart) := goodIn_app (goodIn_of _ (by decide +kernel)) ggX5_known_X5_isPart
set_option maxRecDepth 20000 in
theorem in_X5_known_X5 : ∀ w ∈ wsX50, w ∈ wsX5_known := by decide +kernel
set_option maxRecDepth 20000 in
theorem wd_X5_known_1 : Cond.fieldLink RX5 65 "ShoeTable" "shoeTold" "Z" ∈ wsX5_known := by decide +kernel
set_option maxRecDepth 20000 in
theorem wd_X5_known_2 : Cond.fieldLink RX5 26 "ShoeTable" "atFresh" "LShoeTable$Cards;" ∈ wsX5_known := by decide +kernel
set_option maxRecDepth 20000 in
theorem in_X5_known_X0 : ∀ w ∈ wsX00, w ∈ wsX5_known := by decide +kernel
set_option maxRecDepth 20000 in
theorem wd_X5_known_3 : Cond.fieldLink RX5 91 "ShoeTable$Cards" "total" "I" ∈ wsX5_known := by decide +kernel
set_option maxRecDepth 20000 in
theorem wd_X5_known_4 : Cond.fieldLink RX5 23 "ShoeTable" "gone" "LShoeTable$Cards;" ∈ wsX5_known := by decide +kernel
set_option maxRecDepth 20000 in
theorem ggX5_known_X0_count : GoodIn wsX5_known wsX0_count := goodIn_r _ [21, 22, 79, 80] (by decide +kernel) (by decide +kernel)
set_option maxRecDepth 20000 in
theorem gX5_known_X0_count : GoodIn wsX5_known (wsV RX5 73 RX0 yX0_count wsX0_count) := goodIn_app (goodIn_of _ (by decide +kernel)) ggX5_known_X0_count
set_option maxRecDepth 20000 in
theorem ggX5_known_X5_part : GoodIn wsX5_known wsX5_part := goodIn_r _ [25, 26, 27, 28, 29, 30, 31, 12, 32] (by decide +kernel) (by decide +kernel)
set_option maxRecDepth 20000 in
theorem gX5_known_X5_part : GoodIn wsX5_known (va_wsS RX5 181 yX5_part wsX5_part) := goodIn_app (goodIn_of _ (by decide +kernel)) ggX5_known_X5_part
set_option maxHeartbeats 400000 in
set_option maxRecDepth 100000 in
/-- X5_known -/
theorem c_X5_known (l : Launch) (D : va_G) (cI cJ cQ : ClassId) (h0 : Nat) (tr : Nat) (tc : Nat) (tg : Nat) (tf : Nat) (th : Nat) (tm : Nat) (to : Nat) (tp : Nat) (uf : Nat) (ug : Nat) (p0 : Int32) (p1 : Int32)  : Met l yX5_known wsX5_known ({ frames := 2, cells := 0, slots := 0, locals := 66 }) (va_Pc [.ref h0, .int p0, .int p1] (rP D (gTy cI cJ cQ) [(h0, .inr (5, [.ref tr, .ref tc, .ref tg, .ref tf, .ref th, .ref tm, .ref to, .ref tp, .int (-1), .int 0, .long 1, .int 0])), (tf, .inr (0, [.ref uf, .int 0])), (uf, .inl (cI, 11, .inl (fun _ => 0))), (tg, .inr (0, [.ref ug, .int 0]))])) (vp_Sl (fun r => r = knownS p0 p1)) 0 0 (fun _ => False) := by
  refine Met.ofW (cc := cX5_known) (maxL := 9) (ret := (some .long)) (by decide) rfl ?_
  intro p e s m args below meth c s₁ B hml hv
  obtain ⟨rfl, hP, hK⟩ := hv
  have hx := B.exec
  have hb := B.bytes
  have hr := B.returns
  have hts := atoms_spec (ws := wsX5_known) B.pre
  have hown : s.vm.findClass RX5 = some m.cls := findClass_of_methodNamed B.named
  have hlocks := B.notSynchronized
  have hl := lv_entry ([.ref h0, .int p0, .int p1]) (n := 9) (Nat.le_of_ble_eq_true rfl)
  rw [lg_entry_eq]
  generalize (lg_sl ([.ref h0, .int p0, .int p1]) ++ List.replicate (9 - (lg_sl ([.ref h0, .int p0, .int p1])).length) Slot.unset).toArray = ls at hl ⊢
  have hl : lv_has ls 9 [(0, .ref h0), (1, .int p0), (2, .int p1)] := hl
  refine lv_iload_n hx hb dX5_known_0 rfl (lv_at hl 1 rfl) ?_
  have hPc := hP.sub (ws' := []) [] rfl
  refine vp_callSi (W.runS (As := [.int p0]) (rest := []) ⟨hx, hb, hml, hown, hts⟩ (c_X5_isRank l D cI cJ cQ p0) (va_cwS 1 hts gX5_known_X5_isRank rfl rfl rfl (by decide +kernel) ⟨Nat.le_of_ble_eq_true rfl, Nat.le_of_ble_eq_true rfl⟩) (rP_preS hPc hK) rfl rfl hl.1 rfl (lv_room (Nat.le_of_ble_eq_true rfl)) dX5_known_1 ⟨Nat.le_of_ble_eq_true rfl, Nat.le_of_ble_eq_true rfl⟩) (fun r_1 hr_1 => ?_)
  subst hr_1
  refine lv_if_eq (tgt := 14) hx hb dX5_known_4 (by decide) (fun c4_2 => ?_) (fun c4_2 => ?_)
  · skip
    refine lv_ldc2 hx hb hown (hts _ wd_X5_known_0) dX5_known_14 ?_
    exact W.lret (v := (-1001)) hx hb hr (fun t ht hW => ⟨_, rfl, (by unfold knownS; first | (simp [c4_2]; done) | ((try first | rw [if_pos c4_2] | rw [if_neg c4_2]); first | done | rfl | trivial)), ht⟩) (fun q hq => absurd hq List.not_mem_nil) dX5_known_17
  · skip
    refine lv_iload_n hx hb dX5_known_7 rfl (lv_at hl 2 rfl) ?_
    have hPc := hP.sub (ws' := []) [] rfl
    refine vp_callSi (W.runS (As := [.int p1]) (rest := []) ⟨hx, hb, hml, hown, hts⟩ (c_X5_isPart l D cI cJ cQ p1) (va_cwS 1 hts gX5_known_X5_isPart rfl rfl rfl (by decide +kernel) ⟨Nat.le_of_ble_eq_true rfl, Nat.le_of_ble_eq_true rfl⟩) (rP_preS hPc hK) rfl rfl hl.1 rfl (lv_room (Nat.le_of_ble_eq_true rfl)) dX5_known_8 ⟨Nat.le_of_ble_eq_true rfl, Nat.le_of_ble_eq_true rfl⟩) (fun r_3 hr_3 => ?_)
    subst hr_3
    refine lv_if_ne (tgt := 18) hx hb dX5_known_11 (by decide) (fun c11_4 => ?_) (fun c11_4 => ?_)
    · skip
      refine lv_aload_n hx hb dX5_known_18 rfl (lv_at hl 0 rfl) ?_
      refine va_get (D := D) (ci := 5) (v := .int 0) (C := RX5) (T := TX5) (N := 12) hx hb hts in_X5_known_X5 hown hK hP 0 rfl rfl 11 (by decide) (hts _ wd_X5_known_1) (fun _ h9 => h9) rfl dX5_known_19 ?_
      refine lv_if_eq (tgt := 29) hx hb dX5_known_22 (by decide) (fun c22_5 => ?_) (fun c22_5 => ?_)
      · skip
        refine lv_aload_n hx hb dX5_known_29 rfl (lv_at hl 0 rfl) ?_
        refine va_get (D := D) (ci := 5) (v := .ref tf) (C := RX5) (T := TX5) (N := 12) hx hb hts in_X5_known_X5 hown hK hP 0 rfl rfl 3 (by decide) (hts _ wd_X5_known_2) (fun _ h9 => h9) rfl dX5_known_30 ?_
        refine va_get (D := D) (ci := 0) (v := .int 0) (C := RX0) (T := TX0) (N := 2) hx hb hts in_X5_known_X0 hown hK hP 1 rfl rfl 1 (by decide) (hts _ wd_X5_known_3) (fun _ h9 => h9) rfl dX5_known_33 ?_
        refine lv_bipush (v := 60) hx hb dX5_known_36 (by decide) ?_
        refine lv_icmp_gt (tgt := 53) hx hb dX5_known_38 (by decide) (fun c38_6 => ?_) (fun c38_6 => ?_)
        · exact absurd c38_6 (by decide)
        refine lv_aload_n hx hb dX5_known_41 rfl (lv_at hl 0 rfl) ?_
        refine va_get (D := D) (ci := 5) (v := .ref tg) (C := RX5) (T := TX5) (N := 12) hx hb hts in_X5_known_X5 hown hK hP 0 rfl rfl 2 (by decide) (hts _ wd_X5_known_4) (fun _ h9 => h9) rfl dX5_known_42 ?_
        refine va_get (D := D) (ci := 0) (v := .int 0) (C := RX0) (T := TX0) (N := 2) hx hb hts in_X5_known_X0 hown hK hP 3 rfl rfl 1 (by decide) (hts _ wd_X5_known_3) (fun _ h9 => h9) rfl dX5_known_45 ?_
        refine lv_bipush (v := 8) hx hb dX5_known_48 (by decide) ?_
        refine lv_icmp_le (tgt := 57) hx hb dX5_known_50 (by decide) (fun c50_7 => ?_) (fun c50_7 => ?_)
        · skip
          refine lv_aload_n hx hb dX5_known_57 rfl (lv_at hl 0 rfl) ?_
          refine va_get (D := D) (ci := 5) (v := .ref tf) (C := RX5) (T := TX5) (N := 12) hx hb hts in_X5_known_X5 hown hK hP 0 rfl rfl 3 (by decide) (hts _ wd_X5_known_2) (fun _ h9 => h9) rfl dX5_known_58 ?_
          refine lv_iload_n hx hb dX5_known_61 rfl (lv_at hl 1 rfl) ?_
          have hPc := hP.sub (ws' := [(tf, .inr (0, [.ref uf, .int 0])), (uf, .inl (cI, 11, .inl (fun _ => 0)))]) [1, 2] rfl
          refine vp_callSi (W.runV (As := [.int p0]) (rest := []) ⟨hx, hb, hml, hown, hts⟩ (c_X0_count0 l D cI cJ cQ tf uf p0) (cwV 1 hts gX5_known_X0_count rfl rfl rfl (by decide +kernel) ⟨Nat.le_of_ble_eq_true rfl, Nat.le_of_ble_eq_true rfl⟩) (rP_preV (ci := 0) (q0 := 0) hPc hK rfl rfl) rfl rfl hl.1 rfl (lv_room (Nat.le_of_ble_eq_true rfl)) dX5_known_62 ⟨Nat.le_of_ble_eq_true rfl, Nat.le_of_ble_eq_true rfl⟩) (fun r_8 hr_8 => ?_)
          subst hr_8
          refine lv_istore_n (lv' := [(3, .int 0), (0, .ref h0), (1, .int p0), (2, .int p1)]) hx hb dX5_known_65 rfl hl (by decide) rfl (fun ls hl => ?_)
          refine lv_iload_n hx hb dX5_known_66 rfl (lv_at hl 0 rfl) ?_
          refine lv_if_ne (tgt := 77) hx hb dX5_known_67 (by decide) (fun c67_9 => ?_) (fun c67_9 => ?_)
          · exact absurd c67_9 (by decide)
          refine lv_lconst (v := 0) hx hb dX5_known_70 (by decide) ?_
          refine lv_lconst (v := 1) hx hb dX5_known_71 (by decide) ?_
          refine lv_iload_n hx hb dX5_known_72 rfl (lv_at hl 3 rfl) ?_
          have hPc := hP.sub (ws' := []) [] rfl
          refine vp_callSl (W.runS (As := [.long 0, .long 1, .int p1]) (rest := []) ⟨hx, hb, hml, hown, hts⟩ (c_X5_part01 l D cI cJ cQ p1) (va_cwS 3 hts gX5_known_X5_part rfl rfl rfl (by decide +kernel) ⟨Nat.le_of_ble_eq_true rfl, Nat.le_of_ble_eq_true rfl⟩) (rP_preS hPc hK) rfl rfl hl.1 rfl (lv_room (Nat.le_of_ble_eq_true rfl)) dX5_known_73 ⟨Nat.le_of_ble_eq_true rfl, Nat.le_of_ble_eq_true rfl⟩) (fun r_10 hr_10 => ?_)
          subst hr_10
          exact W.lret (v := (if p1 = 0 then 0 else 1)) hx hb hr (fun t ht hW => ⟨_, rfl, (by unfold knownS; first | (simp [c4_2, c11_4, c22_5, c50_7]; done) | ((try first | rw [if_pos c4_2] | rw [if_neg c4_2]); (try first | rw [if_pos c11_4] | rw [if_neg c11_4]); (try first | rw [if_pos c22_5] | rw [if_neg c22_5]); (try first | rw [if_pos c50_7] | rw [if_neg c50_7]); first | done | rfl | trivial)), ht⟩) (fun q hq => absurd hq List.not_mem_nil) dX5_known_76
        · exact absurd c50_7 (by decide)
      · exact absurd c22_5 (by decide)
    · skip
      refine lv_ldc2 hx hb hown (hts _ wd_X5_known_0) dX5_known_14 ?_
      exact W.lret (v := (-1001)) hx hb hr (fun t ht hW => ⟨_, rfl, (by unfold knownS; first | (simp [c4_2, c11_4]; done) | ((try first | rw [if_pos c4_2] | rw [if_neg c4_2]); (try first | rw [if_pos c11_4] | rw [if_neg c11_4]); first | done | rfl | trivial)), ht⟩) (fun q hq => absurd hq List.not_mem_nil) dX5_known_17
