theorem nw_0 : Cond.methodLinkNest "ShoeTable" 9 yX4_init "ShoeTable" ∈ lw_tbl := (List.mem_append_right _ (List.mem_of_getElem? (i := 21) (by decide +kernel)))
theorem nw_1 : Cond.methodLinkNest "ShoeTable" 18 yX0_init "ShoeTable" ∈ lw_tbl := (List.mem_append_right _ (List.mem_of_getElem? (i := 32) (by decide +kernel)))
theorem nw_2 : Cond.methodLinkNest "ShoeTable" 31 yX1_init "ShoeTable" ∈ lw_tbl := (List.mem_append_right _ (List.mem_of_getElem? (i := 47) (by decide +kernel)))
theorem nw_3 : Cond.methodLinkNest "ShoeTable" 42 yX3_init "ShoeTable" ∈ lw_tbl := (List.mem_append_right _ (List.mem_of_getElem? (i := 72) (by decide +kernel)))
theorem nw_4 : Cond.methodLinkNest "ShoeTable" 49 yX2_init "ShoeTable" ∈ lw_tbl := (List.mem_append_right _ (List.mem_of_getElem? (i := 132) (by decide +kernel)))
theorem nw_5 : Cond.methodLinkNest "ShoeTable$Odds" 11 yX4_init "ShoeTable" ∈ lw_tbl := (List.mem_append_right _ (List.mem_of_getElem? (i := 77) (by decide +kernel)))
theorem nw_6 : Cond.methodLinkNest "ShoeTable$Odds" 20 yX0_init "ShoeTable" ∈ lw_tbl := (List.mem_append_right _ (List.mem_of_getElem? (i := 79) (by decide +kernel)))
theorem nw_7 : Cond.methodLinkNest "ShoeTable$Odds" 30 yX1_init "ShoeTable" ∈ lw_tbl := (List.mem_append_right _ (List.mem_of_getElem? (i := 81) (by decide +kernel)))
theorem nw_8 : Cond.arrayOver (.array .long) ∈ lw_tbl := (List.mem_append_right _ (List.mem_of_getElem? (i := 137) (by decide +kernel)))
theorem ni_X5 : Cond.instantiable RX5 12 ∈ lw_tbl := (List.mem_append_right _ (List.mem_of_getElem? (i := 12) (by decide +kernel)))
theorem ni_X4 : Cond.instantiable RX4 1 ∈ lw_tbl := (List.mem_append_right _ (List.mem_of_getElem? (i := 20) (by decide +kernel)))
theorem ni_X0 : Cond.instantiable RX0 2 ∈ lw_tbl := (List.mem_append_right _ (List.mem_of_getElem? (i := 31) (by decide +kernel)))
theorem ni_X1 : Cond.instantiable RX1 4 ∈ lw_tbl := (List.mem_append_right _ (List.mem_of_getElem? (i := 46) (by decide +kernel)))
theorem ni_X3 : Cond.instantiable RX3 15 ∈ lw_tbl := (List.mem_append_right _ (List.mem_of_getElem? (i := 71) (by decide +kernel)))
theorem ni_X2 : Cond.instantiable RX2 1 ∈ lw_tbl := (List.mem_append_right _ (List.mem_of_getElem? (i := 131) (by decide +kernel)))
theorem ni_X6 : Cond.instantiable RX6 39 ∈ lw_tbl := (List.mem_append_right _ (List.mem_of_getElem? (i := 540) (by decide +kernel)))
theorem nc_I : Cond.arrayClass .int ∈ lw_tbl := (List.mem_append_right _ (List.mem_of_getElem? (i := 29) (by decide +kernel)))
theorem nc_J : Cond.arrayClass .long ∈ lw_tbl := (List.mem_append_right _ (List.mem_of_getElem? (i := 129) (by decide +kernel)))
theorem nl_L : Cond.laysStatic "ShoeTable$Rules" "LEAST" "[I" ∈ lw_tbl := (List.mem_append_right _ (List.mem_of_getElem? (i := 233) (by decide +kernel)))
theorem nl_M : Cond.laysStatic "ShoeTable$Rules" "MOST" "[I" ∈ lw_tbl := (List.mem_append_right _ (List.mem_of_getElem? (i := 235) (by decide +kernel)))
theorem nn_R : Cond.initialized "ShoeTable$Rules" ∈ lw_tbl := (List.mem_append_right _ (List.mem_of_getElem? (i := 2) (by decide +kernel)))
theorem arr_ty {args : Array Value} {s : State} {ty : FieldType} (h : (Cond.arrayClass ty).before args s = true) : ∃ cA, ArrOfT s cA ty ∧ s.vm.findClass ("[" ++ ty.toString) = some cA := by
  obtain ⟨c, k, comp, h1, h2, h3⟩ := Cond.arrayClass_spec h
  exact ⟨c, fun n z => ⟨(fun q hq => by cases hq), k, h2, comp, h3⟩, h1⟩
theorem arr_tq {args : Array Value} {s : State} (h : (Cond.arrayOver (.array .long)).before args s = true) : ∃ cA, ArrOfT s cA (.array .long) ∧ s.vm.findClass ("[" ++ (FieldType.array .long).toString) = some cA := by
  obtain ⟨comp, c, k, -, -, h3, h4, h5⟩ := Jvm.Stand.arrayOver_specB h
  exact ⟨c, fun n z => ⟨(fun q hq => by cases hq), k, h3, comp, h4⟩, h5⟩
theorem st_of {args : Array Value} {s : State} {A : Nat → Prop} (hts : ∀ w ∈ lw_tbl, w.before args s = true) (hgv : (Jvm.Cond.and given_1 narrow_1).before args s = true) (hA : ∀ a : Nat, a < s.heap.size → ¬ A a) : ∃ tL tM, stR tL tM A s s.heap := by
  have hs := flat_of_before _ hgv
  have aL : (Cond.arrayOf (Term.static "ShoeTable$Rules" "LEAST" "[I") .int).before args s = true := hs _ (by decide +kernel)
  have bL : (Term.length (Term.static "ShoeTable$Rules" "LEAST" "[I")).eval args s none [] s = some (.int (Int32.ofNat 7)) := va_eqt (hs (Cond.eq (.length (Term.static "ShoeTable$Rules" "LEAST" "[I")) (.int 7)) (by decide +kernel))
  have cL : ∀ j : Nat, j < 7 → (Term.elem (Term.static "ShoeTable$Rules" "LEAST" "[I") (.int (Int32.ofNat j))).eval args s none [] s = some (.int (least0 j)) := by
    intro j hj
    rcases (show j = 0 ∨ j = 1 ∨ j = 2 ∨ j = 3 ∨ j = 4 ∨ j = 5 ∨ j = 6 by omega) with rfl | rfl | rfl | rfl | rfl | rfl | rfl
    · exact va_eqt (hs (Cond.eq (.elem (Term.static "ShoeTable$Rules" "LEAST" "[I") (.int 0)) (.int 11)) (by decide +kernel))
    · exact va_eqt (hs (Cond.eq (.elem (Term.static "ShoeTable$Rules" "LEAST" "[I") (.int 1)) (.int 10)) (by decide +kernel))
    · exact va_eqt (hs (Cond.eq (.elem (Term.static "ShoeTable$Rules" "LEAST" "[I") (.int 2)) (.int 0)) (by decide +kernel))
    · exact va_eqt (hs (Cond.eq (.elem (Term.static "ShoeTable$Rules" "LEAST" "[I") (.int 3)) (.int 0)) (by decide +kernel))
    · exact va_eqt (hs (Cond.eq (.elem (Term.static "ShoeTable$Rules" "LEAST" "[I") (.int 4)) (.int 0)) (by decide +kernel))
    · exact va_eqt (hs (Cond.eq (.elem (Term.static "ShoeTable$Rules" "LEAST" "[I") (.int 5)) (.int 0)) (by decide +kernel))
    · exact va_eqt (hs (Cond.eq (.elem (Term.static "ShoeTable$Rules" "LEAST" "[I") (.int 6)) (.int 2)) (by decide +kernel))
  obtain ⟨tL, eL, fL⟩ := va_Tof (f := fun j => .int (least0 j)) (A := A) (by decide) aL bL cL hA
  have aM : (Cond.arrayOf (Term.static "ShoeTable$Rules" "MOST" "[I") .int).before args s = true := hs _ (by decide +kernel)
  have bM : (Term.length (Term.static "ShoeTable$Rules" "MOST" "[I")).eval args s none [] s = some (.int (Int32.ofNat 7)) := va_eqt (hs (Cond.eq (.length (Term.static "ShoeTable$Rules" "MOST" "[I")) (.int 7)) (by decide +kernel))
  have cM : ∀ j : Nat, j < 7 → (Term.elem (Term.static "ShoeTable$Rules" "MOST" "[I") (.int (Int32.ofNat j))).eval args s none [] s = some (.int (most0 j)) := by
    intro j hj
    rcases (show j = 0 ∨ j = 1 ∨ j = 2 ∨ j = 3 ∨ j = 4 ∨ j = 5 ∨ j = 6 by omega) with rfl | rfl | rfl | rfl | rfl | rfl | rfl
    · exact va_eqt (hs (Cond.eq (.elem (Term.static "ShoeTable$Rules" "MOST" "[I") (.int 0)) (.int 21)) (by decide +kernel))
    · exact va_eqt (hs (Cond.eq (.elem (Term.static "ShoeTable$Rules" "MOST" "[I") (.int 1)) (.int 21)) (by decide +kernel))
    · exact va_eqt (hs (Cond.eq (.elem (Term.static "ShoeTable$Rules" "MOST" "[I") (.int 2)) (.int 1)) (by decide +kernel))
    · exact va_eqt (hs (Cond.eq (.elem (Term.static "ShoeTable$Rules" "MOST" "[I") (.int 3)) (.int 1)) (by decide +kernel))
    · exact va_eqt (hs (Cond.eq (.elem (Term.static "ShoeTable$Rules" "MOST" "[I") (.int 4)) (.int 1)) (by decide +kernel))
    · exact va_eqt (hs (Cond.eq (.elem (Term.static "ShoeTable$Rules" "MOST" "[I") (.int 5)) (.int 1)) (by decide +kernel))
    · exact va_eqt (hs (Cond.eq (.elem (Term.static "ShoeTable$Rules" "MOST" "[I") (.int 6)) (.int 4)) (by decide +kernel))
  obtain ⟨tM, eM, fM⟩ := va_Tof (f := fun j => .int (most0 j)) (A := A) (by decide) aM bM cM hA
  exact ⟨tL, tM, va_Zof (hts _ nl_L) (hts _ nn_R) eL hA, fL, va_Zof (hts _ nl_M) (hts _ nn_R) eM hA, fM⟩
set_option maxRecDepth 20000 in
theorem wd_L_law_0 : Cond.classLink RL 7 RX5 ∈ wsL_law := by decide +kernel
set_option maxRecDepth 20000 in
theorem wd_L_law_1 : Cond.instantiable RX5 12 ∈ wsL_law := by decide +kernel
set_option maxRecDepth 20000 in
theorem wd_L_law_2 : Cond.initialized RX5 ∈ wsL_law := by decide +kernel
set_option maxRecDepth 20000 in
theorem wd_L_law_3 : Cond.methodLink RL 9 yX5_init ∈ wsL_law := by decide +kernel
set_option maxRecDepth 20000 in
theorem wd_L_law_4 : Cond.instanceMethod yX5_init ∈ wsL_law := by decide +kernel
set_option maxRecDepth 20000 in
theorem wd_L_law_5 : Cond.classLink RL 10 RX6 ∈ wsL_law := by decide +kernel
set_option maxRecDepth 20000 in
theorem wd_L_law_6 : Cond.instantiable RX6 39 ∈ wsL_law := by decide +kernel
set_option maxRecDepth 20000 in
theorem wd_L_law_7 : Cond.initialized RX6 ∈ wsL_law := by decide +kernel
set_option maxRecDepth 20000 in
theorem wd_L_law_8 : Cond.methodLink RL 12 yX6_init ∈ wsL_law := by decide +kernel
set_option maxRecDepth 20000 in
theorem wd_L_law_9 : Cond.instanceMethod yX6_init ∈ wsL_law := by decide +kernel
set_option maxHeartbeats 4000000 in
set_option maxRecDepth 100000 in
theorem whole_start {p : Program} {e : Env} {s : State} {m : MethodId} {below : List Frame} {meth : Method} {c : Code} (l : Launch) {b L : Nat} {xs : Nat → Int32} (hL : L ≤ 3) (C0 : lw_At p s m meth c b L xs) : W p l e room_1 s m #[Value.ref b] below meth c s.heap [] 0 0 (lw_Z below #[Value.ref b] s) (entryFrame m ([Value.ref b] : List Value).toArray 4) := by
  obtain ⟨hx, hb, hr, hml, hown, hts0, hX, hbl, hlocks, hgv⟩ := id C0
  have hb : c.code = cL_law := hb
  have hown : s.vm.findClass RL = some m.cls := hown
  have hts : ∀ w ∈ wsL_law, w.before #[Value.ref b] s = true := fun w h => hts0 w (wsL_law_in w h)
  obtain ⟨A, hAe⟩ : ∃ A : Nat → Prop, A = fun q => s.heap.size ≤ q := ⟨_, rfl⟩
  have hA : ∀ q : Nat, s.heap.size ≤ q → A q := fun q h => by rw [hAe]; exact h
  have hA2 : ∀ q : Nat, A q → s.heap.size ≤ q := fun q h => by rw [hAe] at h; exact h
  have hbA : ¬ A b := fun h => absurd (hA2 b h) (Nat.not_le.mpr hbl)
  obtain ⟨tL, tM, hZst⟩ := st_of (A := A) hts0 hgv (fun a h q => absurd (hA2 a q) (Nat.not_le.mpr h))
  obtain ⟨c0, iS0, hKn0⟩ := u_known (C := RX0) (T := TX0) (N := 2) (n := 2) hts0 inX0 (hts0 _ ni_X0)
  obtain ⟨c1, iS1, hKn1⟩ := u_known (C := RX1) (T := TX1) (N := 4) (n := 4) hts0 inX1 (hts0 _ ni_X1)
  obtain ⟨c2, iS2, hKn2⟩ := u_known (C := RX2) (T := TX2) (N := 1) (n := 1) hts0 inX2 (hts0 _ ni_X2)
  obtain ⟨c3, iS3, hKn3⟩ := u_known (C := RX3) (T := TX3) (N := 15) (n := 15) hts0 inX3 (hts0 _ ni_X3)
  obtain ⟨c4, iS4, hKn4⟩ := u_known (C := RX4) (T := TX4) (N := 1) (n := 1) hts0 inX4 (hts0 _ ni_X4)
  obtain ⟨c5, iS5, hKn5⟩ := u_known (C := RX5) (T := TX5) (N := 12) (n := 12) hts0 inX5 (hts0 _ ni_X5)
  obtain ⟨c6, iS6, hKn6⟩ := u_known (C := RX6) (T := TX6) (N := 39) (n := 39) hts0 inX6 (hts0 _ ni_X6)
  obtain ⟨D, hKc⟩ : ∃ D : va_G, ∀ (k : Nat) (q : vw_C), vwCl[k]? = some q → u_Kn s q.1 q.2.1 q.2.2 (D.1 k) (D.2 k) := by
    refine ⟨(fun k => match k with | 0 => c0 | 1 => c1 | 2 => c2 | 3 => c3 | 4 => c4 | 5 => c5 | _ => c6, fun k => match k with | 0 => iS0 | 1 => iS1 | 2 => iS2 | 3 => iS3 | 4 => iS4 | 5 => iS5 | _ => iS6), ?_⟩
    intro k q hq
    match k, hq with
    | 0, hq => cases hq; exact hKn0
    | 1, hq => cases hq; exact hKn1
    | 2, hq => cases hq; exact hKn2
    | 3, hq => cases hq; exact hKn3
    | 4, hq => cases hq; exact hKn4
    | 5, hq => cases hq; exact hKn5
    | 6, hq => cases hq; exact hKn6
    | k + 7, hq => simp [vwCl] at hq
  obtain ⟨cI, hI1, hI2⟩ := arr_ty (hts0 _ nc_I)
  obtain ⟨cJ, hJ1, hJ2⟩ := arr_ty (hts0 _ nc_J)
  obtain ⟨cQ, hQ1, hQ2⟩ := arr_tq (hts0 _ nw_8)
  have hK : va_K D vwCl (gTy cI cJ cQ) s := ⟨hKc, fun k q h => by
    match k, h with
    | 0, h => cases h; exact ⟨hI1, hI2⟩
    | 1, h => cases h; exact ⟨hJ1, hJ2⟩
    | 2, h => cases h; exact ⟨hQ1, hQ2⟩
    | k + 3, h => simp [gTy] at h⟩
  have hZ : nst s := ⟨va_Nw.of rfl (hts0 _ nw_0), va_Nw.of rfl (hts0 _ nw_1), va_Nw.of rfl (hts0 _ nw_2), va_Nw.of rfl (hts0 _ nw_3), va_Nw.of rfl (hts0 _ nw_4), va_Nw.of rfl (hts0 _ nw_5), va_Nw.of rfl (hts0 _ nw_6), va_Nw.of rfl (hts0 _ nw_7), va_AOA.of (hts0 _ nw_8)⟩
  have hS : va_S A s.heap s.heap [] := va_S.rf
  have hP : va_P D vwCl [] s.heap := fun k q h => by simp at h
  have hD : va_D A [] := ⟨fun i j p q h => by simp at h, fun k q h => by simp at h⟩
  have hl := lv_entry ([.ref b]) (n := 4) (Nat.le_of_ble_eq_true rfl)
  rw [lg_entry_eq]
  generalize (lg_sl ([.ref b]) ++ List.replicate (4 - (lg_sl ([.ref b])).length) Slot.unset).toArray = ls at hl ⊢
  have hl : lv_has ls 4 [(0, .ref b)] := hl
  refine va_new (ci := 5) (fs := [.null, .null, .null, .null, .null, .null, .null, .null, .int 0, .int 0, .long 0, .int 0]) (C := RX5) (T := TX5) (N := 12) hx hb hts inlX5 tyX5 tyX5_ok hown (hts _ wd_L_law_0) (hts _ wd_L_law_1) (hts _ wd_L_law_2) hK hP hD hS hA rfl (fun j hj => by rcases (show j = 0 ∨ j = 1 ∨ j = 2 ∨ j = 3 ∨ j = 4 ∨ j = 5 ∨ j = 6 ∨ j = 7 ∨ j = 8 ∨ j = 9 ∨ j = 10 ∨ j = 11 by omega) with rfl | rfl | rfl | rfl | rfl | rfl | rfl | rfl | rfl | rfl | rfl | rfl <;> rfl) (Nat.le_of_ble_eq_true rfl) (Nat.le_of_ble_eq_true rfl) dL_law_0 (fun q_1 H hP hD hS => ?_)
  have hP : va_P D vwCl [(q_1, .inr (5, [.null, .null, .null, .null, .null, .null, .null, .null, .int 0, .int 0, .long 0, .int 0]))] H := hP
  have hD : va_D A [(q_1, .inr (5, [.null, .null, .null, .null, .null, .null, .null, .null, .int 0, .int 0, .long 0, .int 0]))] := hD
  refine W.widen (k := 1) (n := 12) (by omega) (by omega) ?_
  refine lv_dup hx hb dL_law_3 rfl ?_
  have hPc := hP.sub (ws' := [(q_1, .inr (5, [.null, .null, .null, .null, .null, .null, .null, .null, .int 0, .int 0, .long 0, .int 0]))]) [0] rfl
  have hDc := hD.sub (ws' := [(q_1, .inr (5, [.null, .null, .null, .null, .null, .null, .null, .null, .int 0, .int 0, .long 0, .int 0]))]) [0] (by decide) rfl
  have hFc := va_free (wc := [(q_1, .inr (5, [.null, .null, .null, .null, .null, .null, .null, .null, .int 0, .int 0, .long 0, .int 0]))]) hD hS hA [0] rfl
  refine va_callv (va_runI (As := []) (rest := [.ref q_1]) ⟨hx, hb, hml, hown, hts⟩ (c_X5_init l D cI cJ cQ _ q_1) (cwI 0 hts gL_law_X5_init rfl rfl rfl (hts _ wd_L_law_2) (hts _ wd_L_law_3) (hts _ wd_L_law_4) rfl (by decide +kernel) ⟨Nat.le_of_ble_eq_true rfl, Nat.le_of_ble_eq_true rfl⟩) (mPn_preS hPc hK hDc hZ) rfl rfl hl.1 rfl (lv_room (Nat.le_of_ble_eq_true rfl)) dL_law_4 ⟨Nat.le_of_ble_eq_true rfl, Nat.le_of_ble_eq_true rfl⟩) hS (fun q _ h => hFc q h) hFc (fun u_r_2 t H1 locs ht hvm hr_2 hB hz1 hk1 hS => ?_)
  obtain ⟨w1_3, w2_4⟩ := u_r_2
  obtain ⟨tr_5, tc_6, tg_7, tf_8, th_9, tm_10, to_11, tp_12, o0_13, o1_14, o2_15, o3_16, o4_17, o5_18, o6_19, o7_20, o8_21, o9_22, ur_23, uc_24, ug_25, uf_26, uh_27, v0_28, v1_29, v3_30, hP1, hK1, hD1⟩ := hB
  rw [ht] at hP1
  try dsimp only at hr_2
  obtain ⟨hP, hD⟩ := va_join (wr := []) (w1 := [(q_1, .inr (5, [.ref tr_5, .ref tc_6, .ref tg_7, .ref tf_8, .ref th_9, .ref tm_10, .ref to_11, .ref tp_12, .int (-1), .int 0, .long 1, .int 0])), (tr_5, .inr (4, [.ref ur_23])), (ur_23, .inl (cI, 7, .inl w1_3)), (tc_6, .inr (0, [.ref uc_24, .int 0])), (uc_24, .inl (cI, 11, .inl (fun _ => 0))), (tg_7, .inr (0, [.ref ug_25, .int 0])), (ug_25, .inl (cI, 11, .inl (fun _ => 0))), (tf_8, .inr (0, [.ref uf_26, .int 0])), (uf_26, .inl (cI, 11, .inl (fun _ => 0))), (th_9, .inr (1, [.ref uh_27, .int 0, .int 0, .int 0])), (uh_27, .inl (cI, 12, .inl (fun _ => 0))), (tm_10, .inl (cI, 11, .inl (fun _ => 0))), (to_11, .inr (3, [.ref o0_13, .ref o1_14, .ref o2_15, .ref o3_16, .int (-1), .int (-1), .long 0, .ref o4_17, .ref o5_18, .ref o6_19, .ref o7_20, .int 0, .ref o8_21, .ref o9_22, .int 0])), (o0_13, .inr (4, [.ref v0_28])), (v0_28, .inl (cI, 7, .inl w2_4)), (o1_14, .inr (0, [.ref v1_29, .int 0])), (v1_29, .inl (cI, 11, .inl (fun _ => 0))), (o3_16, .inr (1, [.ref v3_30, .int 0, .int 0, .int 0])), (v3_30, .inl (cI, 12, .inl (fun _ => 0)))]) hP hD [0] [] rfl rfl (by decide) (by decide) hk1 hFc hP1 hD1
  generalize H1 = H at hP hS ⊢
  have hP : va_P D vwCl [(q_1, .inr (5, [.ref tr_5, .ref tc_6, .ref tg_7, .ref tf_8, .ref th_9, .ref tm_10, .ref to_11, .ref tp_12, .int (-1), .int 0, .long 1, .int 0])), (tr_5, .inr (4, [.ref ur_23])), (ur_23, .inl (cI, 7, .inl w1_3)), (tc_6, .inr (0, [.ref uc_24, .int 0])), (uc_24, .inl (cI, 11, .inl (fun _ => 0))), (tg_7, .inr (0, [.ref ug_25, .int 0])), (ug_25, .inl (cI, 11, .inl (fun _ => 0))), (tf_8, .inr (0, [.ref uf_26, .int 0])), (uf_26, .inl (cI, 11, .inl (fun _ => 0))), (th_9, .inr (1, [.ref uh_27, .int 0, .int 0, .int 0])), (uh_27, .inl (cI, 12, .inl (fun _ => 0))), (tm_10, .inl (cI, 11, .inl (fun _ => 0))), (to_11, .inr (3, [.ref o0_13, .ref o1_14, .ref o2_15, .ref o3_16, .int (-1), .int (-1), .long 0, .ref o4_17, .ref o5_18, .ref o6_19, .ref o7_20, .int 0, .ref o8_21, .ref o9_22, .int 0])), (o0_13, .inr (4, [.ref v0_28])), (v0_28, .inl (cI, 7, .inl w2_4)), (o1_14, .inr (0, [.ref v1_29, .int 0])), (v1_29, .inl (cI, 11, .inl (fun _ => 0))), (o3_16, .inr (1, [.ref v3_30, .int 0, .int 0, .int 0])), (v3_30, .inl (cI, 12, .inl (fun _ => 0)))] H := hP
  have hD : va_D A [(q_1, .inr (5, [.ref tr_5, .ref tc_6, .ref tg_7, .ref tf_8, .ref th_9, .ref tm_10, .ref to_11, .ref tp_12, .int (-1), .int 0, .long 1, .int 0])), (tr_5, .inr (4, [.ref ur_23])), (ur_23, .inl (cI, 7, .inl w1_3)), (tc_6, .inr (0, [.ref uc_24, .int 0])), (uc_24, .inl (cI, 11, .inl (fun _ => 0))), (tg_7, .inr (0, [.ref ug_25, .int 0])), (ug_25, .inl (cI, 11, .inl (fun _ => 0))), (tf_8, .inr (0, [.ref uf_26, .int 0])), (uf_26, .inl (cI, 11, .inl (fun _ => 0))), (th_9, .inr (1, [.ref uh_27, .int 0, .int 0, .int 0])), (uh_27, .inl (cI, 12, .inl (fun _ => 0))), (tm_10, .inl (cI, 11, .inl (fun _ => 0))), (to_11, .inr (3, [.ref o0_13, .ref o1_14, .ref o2_15, .ref o3_16, .int (-1), .int (-1), .long 0, .ref o4_17, .ref o5_18, .ref o6_19, .ref o7_20, .int 0, .ref o8_21, .ref o9_22, .int 0])), (o0_13, .inr (4, [.ref v0_28])), (v0_28, .inl (cI, 7, .inl w2_4)), (o1_14, .inr (0, [.ref v1_29, .int 0])), (v1_29, .inl (cI, 11, .inl (fun _ => 0))), (o3_16, .inr (1, [.ref v3_30, .int 0, .int 0, .int 0])), (v3_30, .inl (cI, 12, .inl (fun _ => 0)))] := hD
  refine W.widen (k := 38) (n := 9851) (by omega) (by omega) ?_
  refine lv_astore_n (lv' := [(1, .ref q_1), (0, .ref b)]) hx hb dL_law_7 rfl hl (by decide) rfl (fun ls hl => ?_)
  refine va_new (ci := 6) (fs := [.null, .null, .null, .null, .int 0, .null, .int 0, .int 0, .int 0, .int 0, .int 0, .int 0, .int 0, .int 0, .int 0, .long 0, .int 0, .null, .null, .null, .int 0, .null, .null, .null, .null, .null, .int 0, .int 0, .int 0, .int 0, .int 0, .int 0, .int 0, .int 0, .int 0, .null, .null, .null, .null]) (C := RX6) (T := TX6) (N := 39) hx hb hts inlX6 tyX6 tyX6_ok hown (hts _ wd_L_law_5) (hts _ wd_L_law_6) (hts _ wd_L_law_7) hK hP hD hS hA rfl (fun j hj => by rcases (show j = 0 ∨ j = 1 ∨ j = 2 ∨ j = 3 ∨ j = 4 ∨ j = 5 ∨ j = 6 ∨ j = 7 ∨ j = 8 ∨ j = 9 ∨ j = 10 ∨ j = 11 ∨ j = 12 ∨ j = 13 ∨ j = 14 ∨ j = 15 ∨ j = 16 ∨ j = 17 ∨ j = 18 ∨ j = 19 ∨ j = 20 ∨ j = 21 ∨ j = 22 ∨ j = 23 ∨ j = 24 ∨ j = 25 ∨ j = 26 ∨ j = 27 ∨ j = 28 ∨ j = 29 ∨ j = 30 ∨ j = 31 ∨ j = 32 ∨ j = 33 ∨ j = 34 ∨ j = 35 ∨ j = 36 ∨ j = 37 ∨ j = 38 by omega) with rfl | rfl | rfl | rfl | rfl | rfl | rfl | rfl | rfl | rfl | rfl | rfl | rfl | rfl | rfl | rfl | rfl | rfl | rfl | rfl | rfl | rfl | rfl | rfl | rfl | rfl | rfl | rfl | rfl | rfl | rfl | rfl | rfl | rfl | rfl | rfl | rfl | rfl | rfl <;> rfl) (Nat.le_of_ble_eq_true rfl) (Nat.le_of_ble_eq_true rfl) dL_law_8 (fun q_31 H hP hD hS => ?_)
  have hP : va_P D vwCl [(q_1, .inr (5, [.ref tr_5, .ref tc_6, .ref tg_7, .ref tf_8, .ref th_9, .ref tm_10, .ref to_11, .ref tp_12, .int (-1), .int 0, .long 1, .int 0])), (tr_5, .inr (4, [.ref ur_23])), (ur_23, .inl (cI, 7, .inl w1_3)), (tc_6, .inr (0, [.ref uc_24, .int 0])), (uc_24, .inl (cI, 11, .inl (fun _ => 0))), (tg_7, .inr (0, [.ref ug_25, .int 0])), (ug_25, .inl (cI, 11, .inl (fun _ => 0))), (tf_8, .inr (0, [.ref uf_26, .int 0])), (uf_26, .inl (cI, 11, .inl (fun _ => 0))), (th_9, .inr (1, [.ref uh_27, .int 0, .int 0, .int 0])), (uh_27, .inl (cI, 12, .inl (fun _ => 0))), (tm_10, .inl (cI, 11, .inl (fun _ => 0))), (to_11, .inr (3, [.ref o0_13, .ref o1_14, .ref o2_15, .ref o3_16, .int (-1), .int (-1), .long 0, .ref o4_17, .ref o5_18, .ref o6_19, .ref o7_20, .int 0, .ref o8_21, .ref o9_22, .int 0])), (o0_13, .inr (4, [.ref v0_28])), (v0_28, .inl (cI, 7, .inl w2_4)), (o1_14, .inr (0, [.ref v1_29, .int 0])), (v1_29, .inl (cI, 11, .inl (fun _ => 0))), (o3_16, .inr (1, [.ref v3_30, .int 0, .int 0, .int 0])), (v3_30, .inl (cI, 12, .inl (fun _ => 0))), (q_31, .inr (6, [.null, .null, .null, .null, .int 0, .null, .int 0, .int 0, .int 0, .int 0, .int 0, .int 0, .int 0, .int 0, .int 0, .long 0, .int 0, .null, .null, .null, .int 0, .null, .null, .null, .null, .null, .int 0, .int 0, .int 0, .int 0, .int 0, .int 0, .int 0, .int 0, .int 0, .null, .null, .null, .null]))] H := hP
  have hD : va_D A [(q_1, .inr (5, [.ref tr_5, .ref tc_6, .ref tg_7, .ref tf_8, .ref th_9, .ref tm_10, .ref to_11, .ref tp_12, .int (-1), .int 0, .long 1, .int 0])), (tr_5, .inr (4, [.ref ur_23])), (ur_23, .inl (cI, 7, .inl w1_3)), (tc_6, .inr (0, [.ref uc_24, .int 0])), (uc_24, .inl (cI, 11, .inl (fun _ => 0))), (tg_7, .inr (0, [.ref ug_25, .int 0])), (ug_25, .inl (cI, 11, .inl (fun _ => 0))), (tf_8, .inr (0, [.ref uf_26, .int 0])), (uf_26, .inl (cI, 11, .inl (fun _ => 0))), (th_9, .inr (1, [.ref uh_27, .int 0, .int 0, .int 0])), (uh_27, .inl (cI, 12, .inl (fun _ => 0))), (tm_10, .inl (cI, 11, .inl (fun _ => 0))), (to_11, .inr (3, [.ref o0_13, .ref o1_14, .ref o2_15, .ref o3_16, .int (-1), .int (-1), .long 0, .ref o4_17, .ref o5_18, .ref o6_19, .ref o7_20, .int 0, .ref o8_21, .ref o9_22, .int 0])), (o0_13, .inr (4, [.ref v0_28])), (v0_28, .inl (cI, 7, .inl w2_4)), (o1_14, .inr (0, [.ref v1_29, .int 0])), (v1_29, .inl (cI, 11, .inl (fun _ => 0))), (o3_16, .inr (1, [.ref v3_30, .int 0, .int 0, .int 0])), (v3_30, .inl (cI, 12, .inl (fun _ => 0))), (q_31, .inr (6, [.null, .null, .null, .null, .int 0, .null, .int 0, .int 0, .int 0, .int 0, .int 0, .int 0, .int 0, .int 0, .int 0, .long 0, .int 0, .null, .null, .null, .int 0, .null, .null, .null, .null, .null, .int 0, .int 0, .int 0, .int 0, .int 0, .int 0, .int 0, .int 0, .int 0, .null, .null, .null, .null]))] := hD
  refine W.widen (k := 39) (n := 9890) (by omega) (by omega) ?_
  refine lv_dup hx hb dL_law_11 rfl ?_
  have hPc := hP.sub (ws' := [(q_31, .inr (6, [.null, .null, .null, .null, .int 0, .null, .int 0, .int 0, .int 0, .int 0, .int 0, .int 0, .int 0, .int 0, .int 0, .long 0, .int 0, .null, .null, .null, .int 0, .null, .null, .null, .null, .null, .int 0, .int 0, .int 0, .int 0, .int 0, .int 0, .int 0, .int 0, .int 0, .null, .null, .null, .null]))]) [19] rfl
  have hDc := hD.sub (ws' := [(q_31, .inr (6, [.null, .null, .null, .null, .int 0, .null, .int 0, .int 0, .int 0, .int 0, .int 0, .int 0, .int 0, .int 0, .int 0, .long 0, .int 0, .null, .null, .null, .int 0, .null, .null, .null, .null, .null, .int 0, .int 0, .int 0, .int 0, .int 0, .int 0, .int 0, .int 0, .int 0, .null, .null, .null, .null]))]) [19] (by decide) rfl
  have hFc := va_free (wc := [(q_31, .inr (6, [.null, .null, .null, .null, .int 0, .null, .int 0, .int 0, .int 0, .int 0, .int 0, .int 0, .int 0, .int 0, .int 0, .long 0, .int 0, .null, .null, .null, .int 0, .null, .null, .null, .null, .null, .int 0, .int 0, .int 0, .int 0, .int 0, .int 0, .int 0, .int 0, .int 0, .null, .null, .null, .null]))]) hD hS hA [19] rfl
  refine va_callv (va_runI (As := []) (rest := [.ref q_31]) ⟨hx, hb, hml, hown, hts⟩ (c_X6_init l D cI cJ cQ _ q_31) (cwI 0 hts gL_law_X6_init rfl rfl rfl (hts _ wd_L_law_7) (hts _ wd_L_law_8) (hts _ wd_L_law_9) rfl (by decide +kernel) ⟨Nat.le_of_ble_eq_true rfl, Nat.le_of_ble_eq_true rfl⟩) (mP_preS hPc hK hDc) rfl rfl hl.1 rfl (lv_room (Nat.le_of_ble_eq_true rfl)) dL_law_12 ⟨Nat.le_of_ble_eq_true rfl, Nat.le_of_ble_eq_true rfl⟩) hS (fun q _ h => hFc q h) hFc (fun u_r_32 t H1 locs ht hvm hr_32 hB hz1 hk1 hS => ?_)
  obtain ⟨ms_33, mf_34, mw_35, mk_36, mh_37, q0_38, q1_39, q2_40, q3_41, q4_42, q5_43, q6_44, q7_45, k0_46, k1_47, k2_48, k3_49, hP1, hK1, hD1⟩ := hB
  rw [ht] at hP1
  try dsimp only at hr_32
  obtain ⟨hP, hD⟩ := va_join (wr := [(q_1, .inr (5, [.ref tr_5, .ref tc_6, .ref tg_7, .ref tf_8, .ref th_9, .ref tm_10, .ref to_11, .ref tp_12, .int (-1), .int 0, .long 1, .int 0])), (tr_5, .inr (4, [.ref ur_23])), (ur_23, .inl (cI, 7, .inl w1_3)), (tc_6, .inr (0, [.ref uc_24, .int 0])), (uc_24, .inl (cI, 11, .inl (fun _ => 0))), (tg_7, .inr (0, [.ref ug_25, .int 0])), (ug_25, .inl (cI, 11, .inl (fun _ => 0))), (tf_8, .inr (0, [.ref uf_26, .int 0])), (uf_26, .inl (cI, 11, .inl (fun _ => 0))), (th_9, .inr (1, [.ref uh_27, .int 0, .int 0, .int 0])), (uh_27, .inl (cI, 12, .inl (fun _ => 0))), (tm_10, .inl (cI, 11, .inl (fun _ => 0))), (to_11, .inr (3, [.ref o0_13, .ref o1_14, .ref o2_15, .ref o3_16, .int (-1), .int (-1), .long 0, .ref o4_17, .ref o5_18, .ref o6_19, .ref o7_20, .int 0, .ref o8_21, .ref o9_22, .int 0])), (o0_13, .inr (4, [.ref v0_28])), (v0_28, .inl (cI, 7, .inl w2_4)), (o1_14, .inr (0, [.ref v1_29, .int 0])), (v1_29, .inl (cI, 11, .inl (fun _ => 0))), (o3_16, .inr (1, [.ref v3_30, .int 0, .int 0, .int 0])), (v3_30, .inl (cI, 12, .inl (fun _ => 0)))]) (w1 := [(q_31, .inr (6, [.ref ms_33, .ref mf_34, .ref mw_35, .ref mk_36, .int 0, .ref mh_37, .int 0, .int 0, .int 21, .int 17, .int 0, .int 1, .int 1, .int 1, .int 3, .long 1, .int 0, .ref q0_38, .ref q1_39, .ref q2_40, .int 0, .ref q3_41, .ref q4_42, .ref q5_43, .ref q6_44, .ref q7_45, .int 0, .int 0, .int 0, .int 0, .int 0, .int 0, .int 0, .int 0, .int 0, .ref k0_46, .ref k1_47, .ref k2_48, .ref k3_49])), (ms_33, .inl (cI, 11, .inl (fun _ => 0))), (mf_34, .inl (cI, 11, .inl (fun _ => 0))), (mw_35, .inl (cI, 11, .inl (fun _ => 0))), (mk_36, .inl (cI, 11, .inl (fun _ => 0))), (mh_37, .inl (cI, 12, .inl (fun _ => 0))), (k0_46, .inl (cJ, 549, .inr (.inl (fun _ => 0)))), (k1_47, .inl (cJ, 549, .inr (.inl (fun _ => 0)))), (k2_48, .inl (cJ, 549, .inr (.inl (fun _ => 0)))), (k3_49, .inl (cJ, 549, .inr (.inl (fun _ => 0))))]) hP hD [19] [0, 1, 2, 3, 4, 5, 6, 7, 8, 9, 10, 11, 12, 13, 14, 15, 16, 17, 18] rfl rfl (by decide) (by decide) hk1 hFc hP1 hD1
  generalize H1 = H at hP hS ⊢
  have hP : va_P D vwCl [(q_1, .inr (5, [.ref tr_5, .ref tc_6, .ref tg_7, .ref tf_8, .ref th_9, .ref tm_10, .ref to_11, .ref tp_12, .int (-1), .int 0, .long 1, .int 0])), (tr_5, .inr (4, [.ref ur_23])), (ur_23, .inl (cI, 7, .inl w1_3)), (tc_6, .inr (0, [.ref uc_24, .int 0])), (uc_24, .inl (cI, 11, .inl (fun _ => 0))), (tg_7, .inr (0, [.ref ug_25, .int 0])), (ug_25, .inl (cI, 11, .inl (fun _ => 0))), (tf_8, .inr (0, [.ref uf_26, .int 0])), (uf_26, .inl (cI, 11, .inl (fun _ => 0))), (th_9, .inr (1, [.ref uh_27, .int 0, .int 0, .int 0])), (uh_27, .inl (cI, 12, .inl (fun _ => 0))), (tm_10, .inl (cI, 11, .inl (fun _ => 0))), (to_11, .inr (3, [.ref o0_13, .ref o1_14, .ref o2_15, .ref o3_16, .int (-1), .int (-1), .long 0, .ref o4_17, .ref o5_18, .ref o6_19, .ref o7_20, .int 0, .ref o8_21, .ref o9_22, .int 0])), (o0_13, .inr (4, [.ref v0_28])), (v0_28, .inl (cI, 7, .inl w2_4)), (o1_14, .inr (0, [.ref v1_29, .int 0])), (v1_29, .inl (cI, 11, .inl (fun _ => 0))), (o3_16, .inr (1, [.ref v3_30, .int 0, .int 0, .int 0])), (v3_30, .inl (cI, 12, .inl (fun _ => 0))), (q_31, .inr (6, [.ref ms_33, .ref mf_34, .ref mw_35, .ref mk_36, .int 0, .ref mh_37, .int 0, .int 0, .int 21, .int 17, .int 0, .int 1, .int 1, .int 1, .int 3, .long 1, .int 0, .ref q0_38, .ref q1_39, .ref q2_40, .int 0, .ref q3_41, .ref q4_42, .ref q5_43, .ref q6_44, .ref q7_45, .int 0, .int 0, .int 0, .int 0, .int 0, .int 0, .int 0, .int 0, .int 0, .ref k0_46, .ref k1_47, .ref k2_48, .ref k3_49])), (ms_33, .inl (cI, 11, .inl (fun _ => 0))), (mf_34, .inl (cI, 11, .inl (fun _ => 0))), (mw_35, .inl (cI, 11, .inl (fun _ => 0))), (mk_36, .inl (cI, 11, .inl (fun _ => 0))), (mh_37, .inl (cI, 12, .inl (fun _ => 0))), (k0_46, .inl (cJ, 549, .inr (.inl (fun _ => 0)))), (k1_47, .inl (cJ, 549, .inr (.inl (fun _ => 0)))), (k2_48, .inl (cJ, 549, .inr (.inl (fun _ => 0)))), (k3_49, .inl (cJ, 549, .inr (.inl (fun _ => 0))))] H := hP
  have hD : va_D A [(q_1, .inr (5, [.ref tr_5, .ref tc_6, .ref tg_7, .ref tf_8, .ref th_9, .ref tm_10, .ref to_11, .ref tp_12, .int (-1), .int 0, .long 1, .int 0])), (tr_5, .inr (4, [.ref ur_23])), (ur_23, .inl (cI, 7, .inl w1_3)), (tc_6, .inr (0, [.ref uc_24, .int 0])), (uc_24, .inl (cI, 11, .inl (fun _ => 0))), (tg_7, .inr (0, [.ref ug_25, .int 0])), (ug_25, .inl (cI, 11, .inl (fun _ => 0))), (tf_8, .inr (0, [.ref uf_26, .int 0])), (uf_26, .inl (cI, 11, .inl (fun _ => 0))), (th_9, .inr (1, [.ref uh_27, .int 0, .int 0, .int 0])), (uh_27, .inl (cI, 12, .inl (fun _ => 0))), (tm_10, .inl (cI, 11, .inl (fun _ => 0))), (to_11, .inr (3, [.ref o0_13, .ref o1_14, .ref o2_15, .ref o3_16, .int (-1), .int (-1), .long 0, .ref o4_17, .ref o5_18, .ref o6_19, .ref o7_20, .int 0, .ref o8_21, .ref o9_22, .int 0])), (o0_13, .inr (4, [.ref v0_28])), (v0_28, .inl (cI, 7, .inl w2_4)), (o1_14, .inr (0, [.ref v1_29, .int 0])), (v1_29, .inl (cI, 11, .inl (fun _ => 0))), (o3_16, .inr (1, [.ref v3_30, .int 0, .int 0, .int 0])), (v3_30, .inl (cI, 12, .inl (fun _ => 0))), (q_31, .inr (6, [.ref ms_33, .ref mf_34, .ref mw_35, .ref mk_36, .int 0, .ref mh_37, .int 0, .int 0, .int 21, .int 17, .int 0, .int 1, .int 1, .int 1, .int 3, .long 1, .int 0, .ref q0_38, .ref q1_39, .ref q2_40, .int 0, .ref q3_41, .ref q4_42, .ref q5_43, .ref q6_44, .ref q7_45, .int 0, .int 0, .int 0, .int 0, .int 0, .int 0, .int 0, .int 0, .int 0, .ref k0_46, .ref k1_47, .ref k2_48, .ref k3_49])), (ms_33, .inl (cI, 11, .inl (fun _ => 0))), (mf_34, .inl (cI, 11, .inl (fun _ => 0))), (mw_35, .inl (cI, 11, .inl (fun _ => 0))), (mk_36, .inl (cI, 11, .inl (fun _ => 0))), (mh_37, .inl (cI, 12, .inl (fun _ => 0))), (k0_46, .inl (cJ, 549, .inr (.inl (fun _ => 0)))), (k1_47, .inl (cJ, 549, .inr (.inl (fun _ => 0)))), (k2_48, .inl (cJ, 549, .inr (.inl (fun _ => 0)))), (k3_49, .inl (cJ, 549, .inr (.inl (fun _ => 0))))] := hD
  refine W.widen (k := 56) (n := 127377) (by omega) (by omega) ?_
  refine lv_astore_n (lv' := [(2, .ref q_31), (1, .ref q_1), (0, .ref b)]) hx hb dL_law_15 rfl hl (by decide) rfl (fun ls hl => ?_)
  refine lv_iconst (v := 0) hx hb dL_law_16 (by decide) ?_
  refine lv_istore_n (lv' := [(3, .int 0), (2, .ref q_31), (1, .ref q_1), (0, .ref b)]) hx hb dL_law_17 rfl hl (by decide) rfl (fun ls hl => ?_)
  have hP := hP.sub (ws' := [(q_1, .inr (5, [.ref tr_5, .ref tc_6, .ref tg_7, .ref tf_8, .ref th_9, .ref tm_10, .ref to_11, .ref tp_12, .int (-1), .int 0, .long 1, .int 0])), (tr_5, .inr (4, [.ref ur_23])), (ur_23, .inl (cI, 7, .inl w1_3)), (tc_6, .inr (0, [.ref uc_24, .int 0])), (uc_24, .inl (cI, 11, .inl (fun _ => 0))), (tg_7, .inr (0, [.ref ug_25, .int 0])), (ug_25, .inl (cI, 11, .inl (fun _ => 0))), (tf_8, .inr (0, [.ref uf_26, .int 0])), (uf_26, .inl (cI, 11, .inl (fun _ => 0))), (th_9, .inr (1, [.ref uh_27, .int 0, .int 0, .int 0])), (uh_27, .inl (cI, 12, .inl (fun _ => 0))), (tm_10, .inl (cI, 11, .inl (fun _ => 0))), (to_11, .inr (3, [.ref o0_13, .ref o1_14, .ref o2_15, .ref o3_16, .int (-1), .int (-1), .long 0, .ref o4_17, .ref o5_18, .ref o6_19, .ref o7_20, .int 0, .ref o8_21, .ref o9_22, .int 0])), (o0_13, .inr (4, [.ref v0_28])), (v0_28, .inl (cI, 7, .inl w2_4)), (o1_14, .inr (0, [.ref v1_29, .int 0])), (v1_29, .inl (cI, 11, .inl (fun _ => 0))), (o3_16, .inr (1, [.ref v3_30, .int 0, .int 0, .int 0])), (v3_30, .inl (cI, 12, .inl (fun _ => 0))), (q_31, .inr (6, [.ref ms_33, .ref mf_34, .ref mw_35, .ref mk_36, .int 0, .ref mh_37, .int 0, .int 0, .int 21, .int 17, .int 0, .int 1, .int 1, .int 1, .int 3, .long 1, .int 0, .ref q0_38, .ref q1_39, .ref q2_40, .int 0, .ref q3_41, .ref q4_42, .ref q5_43, .ref q6_44, .ref q7_45, .int 0, .int 0, .int 0, .int 0, .int 0, .int 0, .int 0, .int 0, .int 0, .ref k0_46, .ref k1_47, .ref k2_48, .ref k3_49])), (ms_33, .inl (cI, 11, .inl (fun _ => 0))), (mf_34, .inl (cI, 11, .inl (fun _ => 0))), (mw_35, .inl (cI, 11, .inl (fun _ => 0))), (mk_36, .inl (cI, 11, .inl (fun _ => 0))), (mh_37, .inl (cI, 12, .inl (fun _ => 0))), (k0_46, .inl (cJ, 549, .inr (.inl (fun _ => 0)))), (k1_47, .inl (cJ, 549, .inr (.inl (fun _ => 0)))), (k2_48, .inl (cJ, 549, .inr (.inl (fun _ => 0)))), (k3_49, .inl (cJ, 549, .inr (.inl (fun _ => 0))))]) [0, 1, 2, 3, 4, 5, 6, 7, 8, 9, 10, 11, 12, 13, 14, 15, 16, 17, 18, 19, 20, 21, 22, 23, 24, 25, 26, 27, 28] rfl
  have hD := hD.sub (ws' := [(q_1, .inr (5, [.ref tr_5, .ref tc_6, .ref tg_7, .ref tf_8, .ref th_9, .ref tm_10, .ref to_11, .ref tp_12, .int (-1), .int 0, .long 1, .int 0])), (tr_5, .inr (4, [.ref ur_23])), (ur_23, .inl (cI, 7, .inl w1_3)), (tc_6, .inr (0, [.ref uc_24, .int 0])), (uc_24, .inl (cI, 11, .inl (fun _ => 0))), (tg_7, .inr (0, [.ref ug_25, .int 0])), (ug_25, .inl (cI, 11, .inl (fun _ => 0))), (tf_8, .inr (0, [.ref uf_26, .int 0])), (uf_26, .inl (cI, 11, .inl (fun _ => 0))), (th_9, .inr (1, [.ref uh_27, .int 0, .int 0, .int 0])), (uh_27, .inl (cI, 12, .inl (fun _ => 0))), (tm_10, .inl (cI, 11, .inl (fun _ => 0))), (to_11, .inr (3, [.ref o0_13, .ref o1_14, .ref o2_15, .ref o3_16, .int (-1), .int (-1), .long 0, .ref o4_17, .ref o5_18, .ref o6_19, .ref o7_20, .int 0, .ref o8_21, .ref o9_22, .int 0])), (o0_13, .inr (4, [.ref v0_28])), (v0_28, .inl (cI, 7, .inl w2_4)), (o1_14, .inr (0, [.ref v1_29, .int 0])), (v1_29, .inl (cI, 11, .inl (fun _ => 0))), (o3_16, .inr (1, [.ref v3_30, .int 0, .int 0, .int 0])), (v3_30, .inl (cI, 12, .inl (fun _ => 0))), (q_31, .inr (6, [.ref ms_33, .ref mf_34, .ref mw_35, .ref mk_36, .int 0, .ref mh_37, .int 0, .int 0, .int 21, .int 17, .int 0, .int 1, .int 1, .int 1, .int 3, .long 1, .int 0, .ref q0_38, .ref q1_39, .ref q2_40, .int 0, .ref q3_41, .ref q4_42, .ref q5_43, .ref q6_44, .ref q7_45, .int 0, .int 0, .int 0, .int 0, .int 0, .int 0, .int 0, .int 0, .int 0, .ref k0_46, .ref k1_47, .ref k2_48, .ref k3_49])), (ms_33, .inl (cI, 11, .inl (fun _ => 0))), (mf_34, .inl (cI, 11, .inl (fun _ => 0))), (mw_35, .inl (cI, 11, .inl (fun _ => 0))), (mk_36, .inl (cI, 11, .inl (fun _ => 0))), (mh_37, .inl (cI, 12, .inl (fun _ => 0))), (k0_46, .inl (cJ, 549, .inr (.inl (fun _ => 0)))), (k1_47, .inl (cJ, 549, .inr (.inl (fun _ => 0)))), (k2_48, .inl (cJ, 549, .inr (.inl (fun _ => 0)))), (k3_49, .inl (cJ, 549, .inr (.inl (fun _ => 0))))]) [0, 1, 2, 3, 4, 5, 6, 7, 8, 9, 10, 11, 12, 13, 14, 15, 16, 17, 18, 19, 20, 21, 22, 23, 24, 25, 26, 27, 28] (by decide) rfl
  have hl : lv_has ls 4 [(0, .ref b), (1, .ref q_1), (2, .ref q_31), (3, .int 0)] := lv_sub hl [3, 2, 1, 0] rfl
  rcases (show L = 0 ∨ L = 1 ∨ L = 2 ∨ L = 3 by omega) with rfl | rfl | rfl | rfl
  · refine lv_iload_n hx hb dL_law_18 rfl (lv_at hl 3 rfl) ?_
    refine lv_aload_n hx hb dL_law_19 rfl (lv_at hl 0 rfl) ?_
    refine va_slen hx hb hX hbl hbA hS dL_law_20 ?_
    refine lv_iconst (v := 3) hx hb dL_law_21 (by decide) ?_
    refine lv_isub hx hb dL_law_22 ?_
    refine lv_icmp_gt (tgt := 585) hx hb dL_law_23 (by decide) (fun c9 => ?_) (fun c9 => absurd (show (Int32.ofNat 0 - 3 : Int32) < 0 by decide) c9)
    refine lv_iconst (v := 1) hx hb dL_law_585 (by decide) ?_
    refine va_forget (fun q hq => hA2 _ (hS.2.2 q hq)) ?_
    refine W.widen (k := 600000) (n := 7302250) (Nat.le_of_ble_eq_true rfl) (Nat.le_of_ble_eq_true rfl) ?_
    exact lw_ret hx hb hr hlocks dL_law_586
  · refine lv_iload_n hx hb dL_law_18 rfl (lv_at hl 3 rfl) ?_
    refine lv_aload_n hx hb dL_law_19 rfl (lv_at hl 0 rfl) ?_
    refine va_slen hx hb hX hbl hbA hS dL_law_20 ?_
    refine lv_iconst (v := 3) hx hb dL_law_21 (by decide) ?_
    refine lv_isub hx hb dL_law_22 ?_
    refine lv_icmp_gt (tgt := 585) hx hb dL_law_23 (by decide) (fun c9 => ?_) (fun c9 => absurd (show (Int32.ofNat 1 - 3 : Int32) < 0 by decide) c9)
    refine lv_iconst (v := 1) hx hb dL_law_585 (by decide) ?_
    refine va_forget (fun q hq => hA2 _ (hS.2.2 q hq)) ?_
    refine W.widen (k := 600000) (n := 7302250) (Nat.le_of_ble_eq_true rfl) (Nat.le_of_ble_eq_true rfl) ?_
    exact lw_ret hx hb hr hlocks dL_law_586
  · refine lv_iload_n hx hb dL_law_18 rfl (lv_at hl 3 rfl) ?_
    refine lv_aload_n hx hb dL_law_19 rfl (lv_at hl 0 rfl) ?_
    refine va_slen hx hb hX hbl hbA hS dL_law_20 ?_
    refine lv_iconst (v := 3) hx hb dL_law_21 (by decide) ?_
    refine lv_isub hx hb dL_law_22 ?_
    refine lv_icmp_gt (tgt := 585) hx hb dL_law_23 (by decide) (fun c9 => ?_) (fun c9 => absurd (show (Int32.ofNat 2 - 3 : Int32) < 0 by decide) c9)
    refine lv_iconst (v := 1) hx hb dL_law_585 (by decide) ?_
    refine va_forget (fun q hq => hA2 _ (hS.2.2 q hq)) ?_
    refine W.widen (k := 600000) (n := 7302250) (Nat.le_of_ble_eq_true rfl) (Nat.le_of_ble_eq_true rfl) ?_
    exact lw_ret hx hb hr hlocks dL_law_586
  · skip
    refine lv_iload_n hx hb dL_law_18 rfl (lv_at hl 3 rfl) ?_
    refine lv_aload_n hx hb dL_law_19 rfl (lv_at hl 0 rfl) ?_
    refine va_slen hx hb hX hbl hbA hS dL_law_20 ?_
    refine lv_topi (fun z_50 ez_50 => ?_)
    obtain rfl : z_50 = 3 := ez_50
    refine lv_iconst (v := 3) hx hb dL_law_21 (by decide) ?_
    refine lv_isub hx hb dL_law_22 ?_
    refine lv_topi (fun z_51 ez_51 => ?_)
    obtain rfl : z_51 = 0 := ez_51.trans (by decide)
    refine lv_icmp_gt (tgt := 585) hx hb dL_law_23 (by decide) (fun c23_52 => ?_) (fun c23_52 => ?_)
    · exact absurd c23_52 (by decide)
    refine lv_aload_n hx hb dL_law_26 rfl (lv_at hl 0 rfl) ?_
    refine lv_iload_n hx hb dL_law_27 rfl (lv_at hl 3 rfl) ?_
    refine va_sld hx hb hX hbl hbA hS (show ¬ ((0 : Int32) < 0 ∨ 3 ≤ (0 : Int32).toNatClampNeg) by decide) dL_law_28 ?_
    refine lv_bipush (v := 31) hx hb dL_law_29 (by decide) ?_
    refine lv_iand hx hb dL_law_31 ?_
    refine lv_topi (fun v9 ev9 => ?_)
    by_cases k0_53 : v9 = 0
    · subst k0_53
      refine lv_tableIn (off := 88) (tgt := 120) hx hb dL_law_32 (by decide) (by decide) (by decide) (by decide) ?_
      exact law_shoe l C0 hA hA2 hbA hZst hK q_1 q_31 tr_5 tc_6 tg_7 tf_8 th_9 tm_10 to_11 tp_12 o0_13 o1_14 o2_15 o3_16 o4_17 o5_18 o6_19 o7_20 o8_21 o9_22 ur_23 uc_24 ug_25 uf_26 uh_27 v0_28 v1_29 v3_30 ms_33 mf_34 mw_35 mk_36 mh_37 q0_38 q1_39 q2_40 q3_41 q4_42 q5_43 q6_44 q7_45 k0_46 k1_47 k2_48 k3_49 (w1_3) (w2_4) hr_2 hP hD hS hl
    by_cases k1_54 : v9 = 1
    · subst k1_54
      refine lv_tableIn (off := 121) (tgt := 153) hx hb dL_law_32 (by decide) (by decide) (by decide) (by decide) ?_
      exact law_fresh l C0 hA hA2 hbA hZst hK q_1 q_31 tr_5 tc_6 tg_7 tf_8 th_9 tm_10 to_11 tp_12 o0_13 o1_14 o2_15 o3_16 o4_17 o5_18 o6_19 o7_20 o8_21 o9_22 ur_23 uc_24 ug_25 uf_26 uh_27 v0_28 v1_29 v3_30 ms_33 mf_34 mw_35 mk_36 mh_37 q0_38 q1_39 q2_40 q3_41 q4_42 q5_43 q6_44 q7_45 k0_46 k1_47 k2_48 k3_49 (w1_3) (w2_4) hr_2 hP hD hS hl
    by_cases k2_55 : v9 = 2
    · subst k2_55
      refine lv_tableIn (off := 134) (tgt := 166) hx hb dL_law_32 (by decide) (by decide) (by decide) (by decide) ?_
      exact law_rule l C0 hA hA2 hbA hZst hK q_1 q_31 tr_5 tc_6 tg_7 tf_8 th_9 tm_10 to_11 tp_12 o0_13 o1_14 o2_15 o3_16 o4_17 o5_18 o6_19 o7_20 o8_21 o9_22 ur_23 uc_24 ug_25 uf_26 uh_27 v0_28 v1_29 v3_30 ms_33 mf_34 mw_35 mk_36 mh_37 q0_38 q1_39 q2_40 q3_41 q4_42 q5_43 q6_44 q7_45 k0_46 k1_47 k2_48 k3_49 (w1_3) (w2_4) hr_2 hP hD hS hl
    by_cases k3_56 : v9 = 3
    · subst k3_56
      refine lv_tableIn (off := 167) (tgt := 199) hx hb dL_law_32 (by decide) (by decide) (by decide) (by decide) ?_
      exact law_mark l C0 hA hA2 hbA hZst hK q_1 q_31 tr_5 tc_6 tg_7 tf_8 th_9 tm_10 to_11 tp_12 o0_13 o1_14 o2_15 o3_16 o4_17 o5_18 o6_19 o7_20 o8_21 o9_22 ur_23 uc_24 ug_25 uf_26 uh_27 v0_28 v1_29 v3_30 ms_33 mf_34 mw_35 mk_36 mh_37 q0_38 q1_39 q2_40 q3_41 q4_42 q5_43 q6_44 q7_45 k0_46 k1_47 k2_48 k3_49 (w1_3) (w2_4) hr_2 hP hD hS hl
    by_cases k4_57 : v9 = 4
    · subst k4_57
      refine lv_tableIn (off := 200) (tgt := 232) hx hb dL_law_32 (by decide) (by decide) (by decide) (by decide) ?_
      exact law_left l C0 hA hA2 hbA hZst hK q_1 q_31 tr_5 tc_6 tg_7 tf_8 th_9 tm_10 to_11 tp_12 o0_13 o1_14 o2_15 o3_16 o4_17 o5_18 o6_19 o7_20 o8_21 o9_22 ur_23 uc_24 ug_25 uf_26 uh_27 v0_28 v1_29 v3_30 ms_33 mf_34 mw_35 mk_36 mh_37 q0_38 q1_39 q2_40 q3_41 q4_42 q5_43 q6_44 q7_45 k0_46 k1_47 k2_48 k3_49 (w1_3) (w2_4) hr_2 hP hD hS hl
    by_cases k5_58 : v9 = 5
    · subst k5_58
      refine lv_tableIn (off := 223) (tgt := 255) hx hb dL_law_32 (by decide) (by decide) (by decide) (by decide) ?_
      exact law_take l C0 hA hA2 hbA hZst hK q_1 q_31 tr_5 tc_6 tg_7 tf_8 th_9 tm_10 to_11 tp_12 o0_13 o1_14 o2_15 o3_16 o4_17 o5_18 o6_19 o7_20 o8_21 o9_22 ur_23 uc_24 ug_25 uf_26 uh_27 v0_28 v1_29 v3_30 ms_33 mf_34 mw_35 mk_36 mh_37 q0_38 q1_39 q2_40 q3_41 q4_42 q5_43 q6_44 q7_45 k0_46 k1_47 k2_48 k3_49 (w1_3) (w2_4) hr_2 hP hD hS hl
    by_cases k6_59 : v9 = 6
    · subst k6_59
      refine lv_tableIn (off := 256) (tgt := 288) hx hb dL_law_32 (by decide) (by decide) (by decide) (by decide) ?_
      exact law_draw l C0 hA hA2 hbA hZst hK q_1 q_31 tr_5 tc_6 tg_7 tf_8 th_9 tm_10 to_11 tp_12 o0_13 o1_14 o2_15 o3_16 o4_17 o5_18 o6_19 o7_20 o8_21 o9_22 ur_23 uc_24 ug_25 uf_26 uh_27 v0_28 v1_29 v3_30 ms_33 mf_34 mw_35 mk_36 mh_37 q0_38 q1_39 q2_40 q3_41 q4_42 q5_43 q6_44 q7_45 k0_46 k1_47 k2_48 k3_49 (w1_3) (w2_4) hr_2 hP hD hS hl
    by_cases k7_60 : v9 = 7
    · subst k7_60
      refine lv_tableIn (off := 279) (tgt := 311) hx hb dL_law_32 (by decide) (by decide) (by decide) (by decide) ?_
      exact law_seed l C0 hA hA2 hbA hZst hK q_1 q_31 tr_5 tc_6 tg_7 tf_8 th_9 tm_10 to_11 tp_12 o0_13 o1_14 o2_15 o3_16 o4_17 o5_18 o6_19 o7_20 o8_21 o9_22 ur_23 uc_24 ug_25 uf_26 uh_27 v0_28 v1_29 v3_30 ms_33 mf_34 mw_35 mk_36 mh_37 q0_38 q1_39 q2_40 q3_41 q4_42 q5_43 q6_44 q7_45 k0_46 k1_47 k2_48 k3_49 (w1_3) (w2_4) hr_2 hP hD hS hl
    by_cases k8_61 : v9 = 8
    · subst k8_61
      refine lv_tableIn (off := 302) (tgt := 334) hx hb dL_law_32 (by decide) (by decide) (by decide) (by decide) ?_
      exact law_lay l C0 hA hA2 hbA hZst hK q_1 q_31 tr_5 tc_6 tg_7 tf_8 th_9 tm_10 to_11 tp_12 o0_13 o1_14 o2_15 o3_16 o4_17 o5_18 o6_19 o7_20 o8_21 o9_22 ur_23 uc_24 ug_25 uf_26 uh_27 v0_28 v1_29 v3_30 ms_33 mf_34 mw_35 mk_36 mh_37 q0_38 q1_39 q2_40 q3_41 q4_42 q5_43 q6_44 q7_45 k0_46 k1_47 k2_48 k3_49 (w1_3) (w2_4) hr_2 hP hD hS hl
    by_cases k9_62 : v9 = 9
    · subst k9_62
      refine lv_tableIn (off := 315) (tgt := 347) hx hb dL_law_32 (by decide) (by decide) (by decide) (by decide) ?_
      exact law_told l C0 hA hA2 hbA hZst hK q_1 q_31 tr_5 tc_6 tg_7 tf_8 th_9 tm_10 to_11 tp_12 o0_13 o1_14 o2_15 o3_16 o4_17 o5_18 o6_19 o7_20 o8_21 o9_22 ur_23 uc_24 ug_25 uf_26 uh_27 v0_28 v1_29 v3_30 ms_33 mf_34 mw_35 mk_36 mh_37 q0_38 q1_39 q2_40 q3_41 q4_42 q5_43 q6_44 q7_45 k0_46 k1_47 k2_48 k3_49 (w1_3) (w2_4) hr_2 hP hD hS hl
    by_cases k10_63 : v9 = 10
    · subst k10_63
      refine lv_tableIn (off := 338) (tgt := 370) hx hb dL_law_32 (by decide) (by decide) (by decide) (by decide) ?_
      exact law_settle l C0 hA hA2 hbA hZst hK q_1 q_31 tr_5 tc_6 tg_7 tf_8 th_9 tm_10 to_11 tp_12 o0_13 o1_14 o2_15 o3_16 o4_17 o5_18 o6_19 o7_20 o8_21 o9_22 ur_23 uc_24 ug_25 uf_26 uh_27 v0_28 v1_29 v3_30 ms_33 mf_34 mw_35 mk_36 mh_37 q0_38 q1_39 q2_40 q3_41 q4_42 q5_43 q6_44 q7_45 k0_46 k1_47 k2_48 k3_49 (w1_3) (w2_4) hr_2 hP hD hS hl
    by_cases k11_64 : v9 = 11
    · subst k11_64
      refine lv_tableIn (off := 351) (tgt := 383) hx hb dL_law_32 (by decide) (by decide) (by decide) (by decide) ?_
      exact law_there l C0 hA hA2 hbA hZst hK q_1 q_31 tr_5 tc_6 tg_7 tf_8 th_9 tm_10 to_11 tp_12 o0_13 o1_14 o2_15 o3_16 o4_17 o5_18 o6_19 o7_20 o8_21 o9_22 ur_23 uc_24 ug_25 uf_26 uh_27 v0_28 v1_29 v3_30 ms_33 mf_34 mw_35 mk_36 mh_37 q0_38 q1_39 q2_40 q3_41 q4_42 q5_43 q6_44 q7_45 k0_46 k1_47 k2_48 k3_49 (w1_3) (w2_4) hr_2 hP hD hS hl
    by_cases k12_65 : v9 = 12
    · subst k12_65
      refine lv_tableIn (off := 374) (tgt := 406) hx hb dL_law_32 (by decide) (by decide) (by decide) (by decide) ?_
      exact law_worth l C0 hA hA2 hbA hZst hK q_1 q_31 tr_5 tc_6 tg_7 tf_8 th_9 tm_10 to_11 tp_12 o0_13 o1_14 o2_15 o3_16 o4_17 o5_18 o6_19 o7_20 o8_21 o9_22 ur_23 uc_24 ug_25 uf_26 uh_27 v0_28 v1_29 v3_30 ms_33 mf_34 mw_35 mk_36 mh_37 q0_38 q1_39 q2_40 q3_41 q4_42 q5_43 q6_44 q7_45 k0_46 k1_47 k2_48 k3_49 (w1_3) (w2_4) hr_2 hP hD hS hl
    by_cases k13_66 : v9 = 13
    · subst k13_66
      refine lv_tableIn (off := 408) (tgt := 440) hx hb dL_law_32 (by decide) (by decide) (by decide) (by decide) ?_
      exact law_best l C0 hA hA2 hbA hZst hK q_1 q_31 tr_5 tc_6 tg_7 tf_8 th_9 tm_10 to_11 tp_12 o0_13 o1_14 o2_15 o3_16 o4_17 o5_18 o6_19 o7_20 o8_21 o9_22 ur_23 uc_24 ug_25 uf_26 uh_27 v0_28 v1_29 v3_30 ms_33 mf_34 mw_35 mk_36 mh_37 q0_38 q1_39 q2_40 q3_41 q4_42 q5_43 q6_44 q7_45 k0_46 k1_47 k2_48 k3_49 (w1_3) (w2_4) hr_2 hP hD hS hl
    by_cases k14_67 : v9 = 14
    · subst k14_67
      refine lv_tableIn (off := 421) (tgt := 453) hx hb dL_law_32 (by decide) (by decide) (by decide) (by decide) ?_
      exact law_chance l C0 hA hA2 hbA hZst hK q_1 q_31 tr_5 tc_6 tg_7 tf_8 th_9 tm_10 to_11 tp_12 o0_13 o1_14 o2_15 o3_16 o4_17 o5_18 o6_19 o7_20 o8_21 o9_22 ur_23 uc_24 ug_25 uf_26 uh_27 v0_28 v1_29 v3_30 ms_33 mf_34 mw_35 mk_36 mh_37 q0_38 q1_39 q2_40 q3_41 q4_42 q5_43 q6_44 q7_45 k0_46 k1_47 k2_48 k3_49 (w1_3) (w2_4) hr_2 hP hD hS hl
    by_cases k15_68 : v9 = 15
    · subst k15_68
      refine lv_tableIn (off := 455) (tgt := 487) hx hb dL_law_32 (by decide) (by decide) (by decide) (by decide) ?_
      exact law_deal l C0 hA hA2 hbA hZst hK q_1 q_31 tr_5 tc_6 tg_7 tf_8 th_9 tm_10 to_11 tp_12 o0_13 o1_14 o2_15 o3_16 o4_17 o5_18 o6_19 o7_20 o8_21 o9_22 ur_23 uc_24 ug_25 uf_26 uh_27 v0_28 v1_29 v3_30 ms_33 mf_34 mw_35 mk_36 mh_37 q0_38 q1_39 q2_40 q3_41 q4_42 q5_43 q6_44 q7_45 k0_46 k1_47 k2_48 k3_49 (w1_3) (w2_4) hr_2 hP hD hS hl
    by_cases k16_69 : v9 = 16
    · subst k16_69
      refine lv_tableIn (off := 479) (tgt := 511) hx hb dL_law_32 (by decide) (by decide) (by decide) (by decide) ?_
      exact law_moved l C0 hA hA2 hbA hZst hK q_1 q_31 tr_5 tc_6 tg_7 tf_8 th_9 tm_10 to_11 tp_12 o0_13 o1_14 o2_15 o3_16 o4_17 o5_18 o6_19 o7_20 o8_21 o9_22 ur_23 uc_24 ug_25 uf_26 uh_27 v0_28 v1_29 v3_30 ms_33 mf_34 mw_35 mk_36 mh_37 q0_38 q1_39 q2_40 q3_41 q4_42 q5_43 q6_44 q7_45 k0_46 k1_47 k2_48 k3_49 (w1_3) (w2_4) hr_2 hP hD hS hl
    by_cases k17_70 : v9 = 17
    · subst k17_70
      refine lv_tableIn (off := 513) (tgt := 545) hx hb dL_law_32 (by decide) (by decide) (by decide) (by decide) ?_
      exact law_known l C0 hA hA2 hbA hZst hK q_1 q_31 tr_5 tc_6 tg_7 tf_8 th_9 tm_10 to_11 tp_12 o0_13 o1_14 o2_15 o3_16 o4_17 o5_18 o6_19 o7_20 o8_21 o9_22 ur_23 uc_24 ug_25 uf_26 uh_27 v0_28 v1_29 v3_30 ms_33 mf_34 mw_35 mk_36 mh_37 q0_38 q1_39 q2_40 q3_41 q4_42 q5_43 q6_44 q7_45 k0_46 k1_47 k2_48 k3_49 (w1_3) (w2_4) hr_2 hP hD hS hl
    refine lv_tableOut (tgt := 579) hx hb dL_law_32 (by have := lv_neT k0_53 (a := 0) (by decide); have := lv_neT k1_54 (a := 1) (by decide); have := lv_neT k2_55 (a := 2) (by decide); have := lv_neT k3_56 (a := 3) (by decide); have := lv_neT k4_57 (a := 4) (by decide); have := lv_neT k5_58 (a := 5) (by decide); have := lv_neT k6_59 (a := 6) (by decide); have := lv_neT k7_60 (a := 7) (by decide); have := lv_neT k8_61 (a := 8) (by decide); have := lv_neT k9_62 (a := 9) (by decide); have := lv_neT k10_63 (a := 10) (by decide); have := lv_neT k11_64 (a := 11) (by decide); have := lv_neT k12_65 (a := 12) (by decide); have := lv_neT k13_66 (a := 13) (by decide); have := lv_neT k14_67 (a := 14) (by decide); have := lv_neT k15_68 (a := 15) (by decide); have := lv_neT k16_69 (a := 16) (by decide); have := lv_neT k17_70 (a := 17) (by decide); omega) (by decide) ?_
    exact law_end l C0 hA hA2 hbA hZst hK hS hl
