/-! ===== BEGIN words of one list among another's, by their places ===== -/
theorem goodIn_r {big : List Cond} (ws : List Cond) (ps : List Nat) (hp : ws = ps.filterMap (fun i => big[i]?)) (h : ws.all goodWord = true) : GoodIn big ws := by
  intro w hw
  have h1 := List.all_eq_true.mp h w hw
  rw [hp] at hw
  obtain ⟨i, -, hi⟩ := List.mem_filterMap.mp hw
  have hm : w ∈ big := by first | exact List.mem_of_getElem? hi | exact List.getElem?_mem hi
  exact ⟨hm, good_of_word h1⟩
theorem goodIn_app {big a b : List Cond} (ha : GoodIn big a) (hb : GoodIn big b) : GoodIn big (a ++ b) := fun w h => (List.mem_append.mp h).elim (ha w) (hb w)
theorem goodIn_ca {big a b : List Cond} {c : Cond} (ha : GoodIn big (c :: a)) (hb : GoodIn big b) : GoodIn big (c :: (a ++ b)) := fun w h => (List.mem_cons.mp h).elim (fun e => ha w (List.mem_cons.mpr (Or.inl e))) (fun h => (List.mem_append.mp h).elim (fun h => ha w (List.mem_cons.mpr (Or.inr h))) (hb w))
theorem goodIn_sub {big ws : List Cond} (hm : ∀ w ∈ ws, w ∈ big) (h : ws.all goodWord = true) : GoodIn big ws := fun w hw => ⟨hm w hw, good_of_word (List.all_eq_true.mp h w hw)⟩
/-! ===== END ===== -/

/-! ===== BEGIN new T[n][m]: the outer array a place, the inner ones among the pooled ===== -/
/-- f, but v at every address of l -/
def vr_up {α : Type} (f : Nat → α) (l : List Nat) (v : α) : Nat → α := fun a => if a ∈ l then v else f a
theorem vr_up_in {α : Type} {f : Nat → α} {l : List Nat} {v : α} {a : Nat} (h : a ∈ l) : vr_up f l v a = v := if_pos h
theorem vr_up_ne {α : Type} {f : Nat → α} {l : List Nat} {v : α} {a : Nat} (h : a ∉ l) : vr_up f l v a = f a := if_neg h
theorem vr_rows {L l : List Nat} {f : Nat → va_E} {e : va_E} (h : ∀ a, a ∈ l → a ∉ L) : va_pl L f ++ l.map (fun a => (a, e)) = va_pl (L ++ l) (vr_up f l e) := by
  unfold va_pl
  rw [List.map_append]
  congr 1
  · apply List.map_congr_left
    intro a ha
    rw [vr_up_ne (fun q => h a q ha)]
  · apply List.map_congr_left
    intro a ha
    rw [vr_up_in ha]
theorem vr_lay {X rows : va_W} {x : Nat × va_E} {pl : va_W} {D : va_G} {cl : List vw_C} {H : Heap} (hP : va_P D cl (((X ++ pl) ++ [x]) ++ rows) H) : va_P D cl ((X ++ [x]) ++ (pl ++ rows)) H := by
  rw [List.append_assoc (X ++ pl)] at hP
  have h := va_P.swap hP
  rw [← List.append_assoc X] at h
  have h2 := va_P.swap h
  rw [List.append_assoc (X ++ [x])] at h2
  exact h2
theorem vr_layD {X rows : va_W} {x : Nat × va_E} {pl : va_W} {A : Nat → Prop} (hD : va_D A (((X ++ pl) ++ [x]) ++ rows)) : va_D A ((X ++ [x]) ++ (pl ++ rows)) := by
  rw [List.append_assoc (X ++ pl)] at hD
  have h := va_D.swap hD
  rw [← List.append_assoc X] at h
  have h2 := va_D.swap h
  rw [List.append_assoc (X ++ [x])] at h2
  exact h2
theorem vr_outer (c : ClassId) (N h0 : Nat) : ∀ i : Nat, Jvm.Free.Multi.outerC c N h0 i = arrV c N (fun j => va_rf (if j < i then some (h0 + 1 + j) else none))
  | 0 => by
    show ({ cls := c, slots := Array.replicate N .null, vm := .none } : Cell) = _
    rw [arrV_new]
    refine congrArg (arrV c N) (funext fun j => ?_)
    simp [va_rf]
  | i + 1 => by
    show (Jvm.Free.Multi.outerC c N h0 i).setSlot i (.ref (h0 + 1 + i)) = _
    rw [vr_outer c N h0 i, arrV_store]
    refine congrArg (arrV c N) (funext fun j => ?_)
    by_cases e : j = i
    · subst e
      simp [updV, va_rf]
    · by_cases h : j < i
      · simp [updV, e, h, Nat.lt_succ_of_lt h]
      · simp [updV, e, h, show ¬ j < i + 1 by omega]
section VGM
variable {p : Program} {l : Launch} {e : Env} {R : Room} {s : State} {m : MethodId} {args : Array Value} {below : List Frame} {meth : Method} {c : Code} {H : Heap} {locs : List Loc} {cells slots : Nat} {Q : State → Prop}
variable {cc : ByteArray} {pc : Nat} {ls : Array Slot} {rest : List Value} {D : va_G} {cl : List vw_C} {A : Nat → Prop} {a : Nat} {tys : List (ClassId × FieldType)} {ws : va_W} {H0 : Heap}
theorem va_mna {X : va_W} {L : List Nat} {f : Nat → va_E} {cc : ByteArray} (hexec : p.tables.exec = Jvm.exec) (hb : c.code = cc) {own : String} {index : Nat} {ty : FieldType} {cy : ClassId} (hown : s.vm.findClass own = some m.cls) (hclink : (Cond.classLink own index ("[" ++ (FieldType.array ty).toString)).before args s = true) (hover : va_AOA ty s) (harr : (Cond.arrayClass ty).before args s = true) (hcy : s.vm.findClass (FieldType.array ty).toString = some cy)
    (hK : va_K D cl tys s) (hP : va_P D cl (X ++ va_pl L f) H) (hD : va_D A (X ++ va_pl L f)) (hS : va_S A H0 H locs) (hA : ∀ q, H0.size ≤ q → A q) {n k : Int32} {N' K' : Nat} {z : vp_A} (hn : ¬ n < 0) (hk : ¬ k < 0) (hN : n.toNatClampNeg = N') (hM : k.toNatClampNeg = K')
    (hb1 : N' * 4 ≤ 536870912) (hb2 : K' * componentBytes ty ≤ 536870912) (hb3 : K' ≤ 536870912) (hdf : fits ty (defaultValue ty) = true) (hdd : (defaultValue ty).isDefault = true) (hcells : cells + (1 + N') ≤ R.cells) (hslots : slots + (N' + N' * K') ≤ R.slots) (hz : ∀ c : ClassId, Jvm.Free.Multi.innerC c K' (defaultValue ty) = vp_cell c z) (hdg : decode cc pc = .ok (.multianewarray index 2, 4))
    (kk : ∀ (q : Nat) (r : Nat → Nat) (cA : ClassId) (H1 : Heap), (∀ i j : Nat, i < N' → j < N' → r i = r j → i = j) → (∀ i : Nat, i < N' → r i ∉ L) → va_K D cl (tys ++ [(cA, .array ty)]) s →
      va_P D cl ((X ++ [(q, .inl (cA, N', .inr (.inr (.inr (.inr (fun i => if i < N' then some (r i) else none))))))]) ++ va_pl (L ++ (List.range N').map r) (vr_up f ((List.range N').map r) (.inl (cy, z)))) H1 → va_D A ((X ++ [(q, .inl (cA, N', .inr (.inr (.inr (.inr (fun i => if i < N' then some (r i) else none))))))]) ++ va_pl (L ++ (List.range N').map r) (vr_up f ((List.range N').map r) (.inl (cy, z)))) → va_S A H0 H1 locs →
      W p l e R s m args below meth c H1 locs (cells + 1 + N') (slots + N' + N' * K') Q (F0 m (pc + 4) ls (.ref q :: rest))) : W p l e R s m args below meth c H locs cells slots Q (F0 m pc ls (.int k :: .int n :: rest)) := by
  subst hN
  subst hM
  intro T hT Xs
  obtain ⟨vm₁, cA, comp, -, fA, fC, hO, -, X', step⟩ := Xs.multianewarray2F hexec hown hclink (va_AOA.use hover) harr (g := F0 m pc ls (.int k :: .int n :: rest)) rfl (by rw [hb]; exact hdg) rfl hn hk hb1 hb2 hb3 hdf hdd hcells hslots
  have ec : some cy = some comp := hcy.symm.trans fC
  cases ec
  generalize hF : Jvm.Free.Multi.fill (T.setVm vm₁) cA cy n.toNatClampNeg k.toNatClampNeg (defaultValue ty) n.toNatClampNeg = F at X' step
  have hTh : (T.setVm vm₁).heap = H := hT
  obtain ⟨f1, f2, -, -⟩ := Jvm.Free.Multi.fill_facts (T.setVm vm₁) cA cy n.toNatClampNeg k.toNatClampNeg (defaultValue ty) n.toNatClampNeg
  rw [hF, hTh] at f1 f2
  have hold : ∀ x : Nat, x < H.size → F.heap[x]? = H[x]? := fun x hx => by
    have := Jvm.Free.Multi.fill_old (T.setVm vm₁) cA cy n.toNatClampNeg k.toNatClampNeg (defaultValue ty) (a := x) (by rw [hTh]; exact hx) n.toNatClampNeg
    rw [hF, hTh] at this
    exact this
  have hrow : ∀ j : Nat, j < n.toNatClampNeg → F.heap[H.size + 1 + j]? = some (vp_cell cy z) := fun j hj => by
    have := Jvm.Free.Multi.fill_inner (T.setVm vm₁) cA cy n.toNatClampNeg k.toNatClampNeg (defaultValue ty) n.toNatClampNeg j hj
    rw [hF, hTh, hz] at this
    exact this
  have hout : Jvm.Free.Multi.outerC cA n.toNatClampNeg H.size n.toNatClampNeg = vp_cell cA (n.toNatClampNeg, .inr (.inr (.inr (.inr (fun i => if i < n.toNatClampNeg then some (H.size + 1 + i) else none))))) := by
    rw [vp_cell_q]
    exact vr_outer cA n.toNatClampNeg H.size n.toNatClampNeg
  rw [hout] at f2
  have hlt : ∀ a, a ∈ L → a < H.size := fun a ha => by
    obtain ⟨k9, hk9⟩ := va_pl_get (X := X) (f := f) ha
    exact (hP k9 _ hk9).lt
  have hnl : ∀ i : Nat, i < n.toNatClampNeg → H.size + 1 + i ∉ L := fun i _ h => by
    have := hlt _ h
    omega
  have hnm : ∀ a, a ∈ (List.range n.toNatClampNeg).map (fun i => H.size + 1 + i) → a ∉ L := fun a ha h => by
    obtain ⟨i, -, rfl⟩ := List.mem_map.mp ha
    have := hlt _ h
    omega
  have hP0 : va_P D cl (X ++ va_pl L f) F.heap := hP.kept (fun k9 x hx => hold x.1 ((hP k9 x hx).lt))
  have hP1 : va_P D cl ((X ++ va_pl L f) ++ [(H.size, .inl (cA, n.toNatClampNeg, .inr (.inr (.inr (.inr (fun i => if i < n.toNatClampNeg then some (H.size + 1 + i) else none))))))]) F.heap := hP0.app (fun k9 x hx => by
    have h0 : k9 < 1 := (List.getElem?_eq_some_iff.mp hx).1
    rw [show k9 = 0 by omega] at hx
    cases hx
    exact f2)
  have hP2 : va_P D cl (((X ++ va_pl L f) ++ [(H.size, .inl (cA, n.toNatClampNeg, .inr (.inr (.inr (.inr (fun i => if i < n.toNatClampNeg then some (H.size + 1 + i) else none))))))]) ++ ((List.range n.toNatClampNeg).map (fun i => H.size + 1 + i)).map (fun a => (a, .inl (cy, z)))) F.heap := hP1.app (fun k9 x hx => by
    obtain ⟨a, ha, rfl⟩ := List.mem_map.mp (List.mem_of_getElem? hx)
    obtain ⟨i, hi, rfl⟩ := List.mem_map.mp ha
    exact hrow i (List.mem_range.mp hi))
  have hD2 : va_D A (((X ++ va_pl L f) ++ [(H.size, .inl (cA, n.toNatClampNeg, .inr (.inr (.inr (.inr (fun i => if i < n.toNatClampNeg then some (H.size + 1 + i) else none))))))]) ++ ((List.range n.toNatClampNeg).map (fun i => H.size + 1 + i)).map (fun a => (a, .inl (cy, z)))) := by
    have hD1 := hD.push (e := .inl (cA, n.toNatClampNeg, .inr (.inr (.inr (.inr (fun i => if i < n.toNatClampNeg then some (H.size + 1 + i) else none)))))) hP rfl (hA _ hS.1)
    generalize hW1 : (X ++ va_pl L f) ++ [(H.size, .inl (cA, n.toNatClampNeg, .inr (.inr (.inr (.inr (fun i => if i < n.toNatClampNeg then some (H.size + 1 + i) else none))))))] = W1 at hD1 hP1 ⊢
    have hle : ∀ (k9 : Nat) (x : Nat × va_E), W1[k9]? = some x → x.1 ≤ H.size := fun k9 x hx => by
      rw [← hW1] at hx
      by_cases hl : k9 < (X ++ va_pl L f).length
      · rw [List.getElem?_append_left hl] at hx
        exact Nat.le_of_lt ((hP k9 x hx).lt)
      · rw [List.getElem?_append_right (by omega)] at hx
        have h0 : k9 - (X ++ va_pl L f).length < 1 := (List.getElem?_eq_some_iff.mp hx).1
        rw [show k9 - (X ++ va_pl L f).length = 0 by omega] at hx
        cases hx
        exact Nat.le_refl _
    have hr : ∀ (k9 : Nat) (x : Nat × va_E), (((List.range n.toNatClampNeg).map (fun i => H.size + 1 + i)).map (fun a => ((a, .inl (cy, z)) : Nat × va_E)))[k9]? = some x → x.1 = H.size + 1 + k9 := fun k9 x hx => by
      rw [List.getElem?_map, List.getElem?_map] at hx
      by_cases h9 : k9 < n.toNatClampNeg
      · rw [List.getElem?_range h9] at hx
        cases hx
        rfl
      · have hn0 : (List.range n.toNatClampNeg)[k9]? = none := List.getElem?_eq_none (by rw [List.length_range]; omega)
        rw [hn0] at hx
        cases hx
    refine ⟨fun i j x y hi hj hxy => ?_, fun k9 x hx => ?_⟩
    · by_cases h1 : i < W1.length <;> by_cases h2 : j < W1.length
      · rw [List.getElem?_append_left h1] at hi
        rw [List.getElem?_append_left h2] at hj
        exact hD1.1 i j x y hi hj hxy
      · rw [List.getElem?_append_left h1] at hi
        rw [List.getElem?_append_right (by omega)] at hj
        have := hle _ _ hi
        have := hr _ _ hj
        omega
      · rw [List.getElem?_append_right (by omega)] at hi
        rw [List.getElem?_append_left h2] at hj
        have := hle _ _ hj
        have := hr _ _ hi
        omega
      · rw [List.getElem?_append_right (by omega)] at hi hj
        have := hr _ _ hi
        have := hr _ _ hj
        omega
    · by_cases h1 : k9 < W1.length
      · rw [List.getElem?_append_left h1] at hx
        exact hD1.2 k9 x hx
      · rw [List.getElem?_append_right (by omega)] at hx
        have := hr _ _ hx
        exact hA _ (by have := hS.1; omega)
  have hAr : ArrOfT s cA (.array ty) := fun N9 z9 => by
    obtain ⟨-, k9, hk9, cm9, hkk9⟩ := (hO 0 0 0).1
    exact ⟨(fun q hq => by cases hq), k9, hk9, cm9, hkk9⟩
  have hK2 : va_K D cl (tys ++ [(cA, .array ty)]) s := ⟨hK.1, fun k9 x hx => by
    by_cases hl : k9 < tys.length
    · rw [List.getElem?_append_left hl] at hx
      exact hK.2 k9 x hx
    · rw [List.getElem?_append_right (by omega)] at hx
      have h0 : k9 - tys.length < 1 := (List.getElem?_eq_some_iff.mp hx).1
      rw [show k9 - tys.length = 0 by omega] at hx
      cases hx
      exact ⟨hAr, fA⟩⟩
  obtain ⟨t, a1, b1⟩ := kk H.size (fun i => H.size + 1 + i) cA F.heap (fun i j _ _ h => by have h9 : H.size + 1 + i = H.size + 1 + j := h; omega) hnl hK2 (by rw [← vr_rows hnm]; exact vr_lay hP2) (by rw [← vr_rows hnm]; exact vr_layD hD2) ⟨by rw [f1]; have := hS.1; omega, fun x h1 h2 => (hold x (Nat.lt_of_lt_of_le h1 hS.1)).trans (hS.2.1 x h1 h2), hS.2.2⟩ F rfl X'
  refine ⟨t, step t ?_, b1⟩
  have e : T.heap.size = H.size := by rw [hT]
  rw [e]
  exact a1
end VGM
/-! ===== END ===== -/

/-! ===== BEGIN printed: names, fields, word lists, decode rows ===== -/
def RX0 : String := "ShoeTable$Cards"
def TX0 : u_T := fun k => match k with
  | 0 => ("ShoeTable$Cards", "counts", "[I", true)
  | _ => ("ShoeTable$Cards", "total", "I", false)
def tyX0 : Nat → FieldType := fun k => match k with
  | 0 => .array .int
  | _ => .int
abbrev wsX00 : List Cond := u_ws RX0 TX0 2
theorem nmX0 : ∀ a, a < 2 → ∀ b, b < 2 → a ≠ b → (TX0 a).2.1 ≠ (TX0 b).2.1 := by decide +kernel
theorem tyX0_ok : ∀ k, k < 2 → parseFieldDescriptor (TX0 k).2.2.1 = some (tyX0 k) := by decide +kernel
abbrev cX0_init : ByteArray := prog_2_method_1_code
def yX0_init : MethodName := ⟨RX0, "<init>", "()V"⟩
abbrev cX0_count : ByteArray := prog_2_method_2_code
def yX0_count : MethodName := ⟨RX0, "count", "(I)I"⟩
abbrev cX0_put : ByteArray := prog_2_method_3_code
def yX0_put : MethodName := ⟨RX0, "put", "(II)V"⟩
abbrev cX0_add : ByteArray := prog_2_method_4_code
def yX0_add : MethodName := ⟨RX0, "add", "(I)V"⟩
abbrev cX0_remove : ByteArray := prog_2_method_5_code
def yX0_remove : MethodName := ⟨RX0, "remove", "(I)I"⟩
abbrev cX0_clear : ByteArray := prog_2_method_6_code
def yX0_clear : MethodName := ⟨RX0, "clear", "()V"⟩
abbrev cX0_copy : ByteArray := prog_2_method_7_code
def yX0_copy : MethodName := ⟨RX0, "copy", "(LShoeTable$Cards;)V"⟩
abbrev cX0_rankAt : ByteArray := prog_2_method_8_code
def yX0_rankAt : MethodName := ⟨RX0, "rankAt", "(I)I"⟩
def RX1 : String := "ShoeTable$Hand"
def TX1 : u_T := fun k => match k with
  | 0 => ("ShoeTable$Hand", "row", "[I", true)
  | 1 => ("ShoeTable$Hand", "size", "I", false)
  | 2 => ("ShoeTable$Hand", "sum", "I", false)
  | _ => ("ShoeTable$Hand", "ace", "Z", false)
def tyX1 : Nat → FieldType := fun k => match k with
  | 0 => .array .int
  | 1 => .int
  | 2 => .int
  | _ => .boolean
abbrev wsX10 : List Cond := u_ws RX1 TX1 4
theorem nmX1 : ∀ a, a < 4 → ∀ b, b < 4 → a ≠ b → (TX1 a).2.1 ≠ (TX1 b).2.1 := by decide +kernel
theorem tyX1_ok : ∀ k, k < 4 → parseFieldDescriptor (TX1 k).2.2.1 = some (tyX1 k) := by decide +kernel
abbrev cX1_init : ByteArray := prog_3_method_1_code
def yX1_init : MethodName := ⟨RX1, "<init>", "()V"⟩
abbrev cX1_isFull : ByteArray := prog_3_method_2_code
def yX1_isFull : MethodName := ⟨RX1, "isFull", "()Z"⟩
abbrev cX1_add : ByteArray := prog_3_method_3_code
def yX1_add : MethodName := ⟨RX1, "add", "(I)V"⟩
abbrev cX1_clear : ByteArray := prog_3_method_4_code
def yX1_clear : MethodName := ⟨RX1, "clear", "()V"⟩
abbrev cX1_card : ByteArray := prog_3_method_5_code
def yX1_card : MethodName := ⟨RX1, "card", "(I)I"⟩
abbrev cX1_isPair : ByteArray := prog_3_method_6_code
def yX1_isPair : MethodName := ⟨RX1, "isPair", "()Z"⟩
abbrev cX1_copy : ByteArray := prog_3_method_7_code
def yX1_copy : MethodName := ⟨RX1, "copy", "(LShoeTable$Hand;)V"⟩
def RX2 : String := "ShoeTable$Heaps"
def TX2 : u_T := fun k => match k with
  | _ => ("ShoeTable$Heaps", "ways", "[[J", true)
def tyX2 : Nat → FieldType := fun k => match k with
  | _ => .array (.array .long)
abbrev wsX20 : List Cond := u_ws RX2 TX2 1
theorem nmX2 : ∀ a, a < 1 → ∀ b, b < 1 → a ≠ b → (TX2 a).2.1 ≠ (TX2 b).2.1 := by decide +kernel
theorem tyX2_ok : ∀ k, k < 1 → parseFieldDescriptor (TX2 k).2.2.1 = some (tyX2 k) := by decide +kernel
abbrev cX2_init : ByteArray := prog_4_method_1_code
def yX2_init : MethodName := ⟨RX2, "<init>", "()V"⟩
abbrev cX2_ways : ByteArray := prog_4_method_2_code
def yX2_ways : MethodName := ⟨RX2, "ways", "(LShoeTable$Cards;[III)J"⟩
abbrev cX2_addCard : ByteArray := prog_4_method_3_code
def yX2_addCard : MethodName := ⟨RX2, "addCard", "(II)V"⟩
def RX3 : String := "ShoeTable$Odds"
def TX3 : u_T := fun k => match k with
  | 0 => ("ShoeTable$Odds", "rules", "LShoeTable$Rules;", true)
  | 1 => ("ShoeTable$Odds", "shoe", "LShoeTable$Cards;", true)
  | 2 => ("ShoeTable$Odds", "whole", "LShoeTable$Cards;", true)
  | 3 => ("ShoeTable$Odds", "hand", "LShoeTable$Hand;", true)
  | 4 => ("ShoeTable$Odds", "up", "I", false)
  | 5 => ("ShoeTable$Odds", "bestAct", "I", false)
  | 6 => ("ShoeTable$Odds", "bestTotal", "J", false)
  | 7 => ("ShoeTable$Odds", "pay", "[J", true)
  | 8 => ("ShoeTable$Odds", "step", "[I", true)
  | 9 => ("ShoeTable$Odds", "houseTotals", "[J", true)
  | 10 => ("ShoeTable$Odds", "houseRounds", "[I", true)
  | 11 => ("ShoeTable$Odds", "houseRound", "I", false)
  | 12 => ("ShoeTable$Odds", "playerTotals", "[J", true)
  | 13 => ("ShoeTable$Odds", "playerRounds", "[I", true)
  | _ => ("ShoeTable$Odds", "playerRound", "I", false)
def tyX3 : Nat → FieldType := fun k => match k with
  | 0 => .object "ShoeTable$Rules"
  | 1 => .object "ShoeTable$Cards"
  | 2 => .object "ShoeTable$Cards"
  | 3 => .object "ShoeTable$Hand"
  | 4 => .int
  | 5 => .int
  | 6 => .long
  | 7 => .array .long
  | 8 => .array .int
  | 9 => .array .long
  | 10 => .array .int
  | 11 => .int
  | 12 => .array .long
  | 13 => .array .int
  | _ => .int
abbrev wsX30 : List Cond := u_ws RX3 TX3 15
theorem nmX3 : ∀ a, a < 15 → ∀ b, b < 15 → a ≠ b → (TX3 a).2.1 ≠ (TX3 b).2.1 := by decide +kernel
theorem tyX3_ok : ∀ k, k < 15 → parseFieldDescriptor (TX3 k).2.2.1 = some (tyX3 k) := by decide +kernel
abbrev cX3_init : ByteArray := prog_5_method_1_code
def yX3_init : MethodName := ⟨RX3, "<init>", "()V"⟩
abbrev cX3_look : ByteArray := prog_5_method_2_code
def yX3_look : MethodName := ⟨RX3, "look", "(LShoeTable$Rules;LShoeTable$Cards;LShoeTable$Hand;I)V"⟩
abbrev cX3_isThere : ByteArray := prog_5_method_3_code
def yX3_isThere : MethodName := ⟨RX3, "isThere", "(I)Z"⟩
abbrev cX3_anyThere : ByteArray := prog_5_method_4_code
def yX3_anyThere : MethodName := ⟨RX3, "anyThere", "()Z"⟩
abbrev cX3_actTotal : ByteArray := prog_5_method_5_code
def yX3_actTotal : MethodName := ⟨RX3, "actTotal", "(I)J"⟩
abbrev cX3_findBest : ByteArray := prog_5_method_6_code
def yX3_findBest : MethodName := ⟨RX3, "findBest", "()V"⟩
abbrev cX3_endTotal : ByteArray := prog_5_method_7_code
def yX3_endTotal : MethodName := ⟨RX3, "endTotal", "(I)J"⟩
abbrev cX3_movedTotal : ByteArray := prog_5_method_8_code
def yX3_movedTotal : MethodName := ⟨RX3, "movedTotal", "(I)J"⟩
abbrev cX3_dealTotal : ByteArray := prog_5_method_9_code
def yX3_dealTotal : MethodName := ⟨RX3, "dealTotal", "()J"⟩
abbrev cX3_handOut : ByteArray := prog_5_method_10_code
def yX3_handOut : MethodName := ⟨RX3, "handOut", "(III)J"⟩
abbrev cX3_numberHeaps : ByteArray := prog_5_method_11_code
def yX3_numberHeaps : MethodName := ⟨RX3, "numberHeaps", "()V"⟩
abbrev cX3_standTotal : ByteArray := prog_5_method_12_code
def yX3_standTotal : MethodName := ⟨RX3, "standTotal", "(IIZI)J"⟩
abbrev cX3_houseTotal : ByteArray := prog_5_method_13_code
def yX3_houseTotal : MethodName := ⟨RX3, "houseTotal", "(IIZI)J"⟩
abbrev cX3_playerTotal : ByteArray := prog_5_method_14_code
def yX3_playerTotal : MethodName := ⟨RX3, "playerTotal", "(IIZII)J"⟩
abbrev cX3_doubleTotal : ByteArray := prog_5_method_15_code
def yX3_doubleTotal : MethodName := ⟨RX3, "doubleTotal", "()J"⟩
abbrev cX3_splitTotal : ByteArray := prog_5_method_16_code
def yX3_splitTotal : MethodName := ⟨RX3, "splitTotal", "(I)J"⟩
abbrev cX3_bothTotal : ByteArray := prog_5_method_17_code
def yX3_bothTotal : MethodName := ⟨RX3, "bothTotal", "(III)J"⟩
def RX4 : String := "ShoeTable$Rules"
def TX4 : u_T := fun k => match k with
  | _ => ("ShoeTable$Rules", "now", "[I", true)
def tyX4 : Nat → FieldType := fun k => match k with
  | _ => .array .int
abbrev wsX40 : List Cond := u_ws RX4 TX4 1
theorem nmX4 : ∀ a, a < 1 → ∀ b, b < 1 → a ≠ b → (TX4 a).2.1 ≠ (TX4 b).2.1 := by decide +kernel
theorem tyX4_ok : ∀ k, k < 1 → parseFieldDescriptor (TX4 k).2.2.1 = some (tyX4 k) := by decide +kernel
abbrev cX4_init : ByteArray := prog_6_method_1_code
def yX4_init : MethodName := ⟨RX4, "<init>", "()V"⟩
abbrev cX4_allows : ByteArray := prog_6_method_2_code
def yX4_allows : MethodName := ⟨RX4, "allows", "(II)Z"⟩
abbrev cX4_change : ByteArray := prog_6_method_3_code
def yX4_change : MethodName := ⟨RX4, "change", "(II)I"⟩
abbrev cX4_copy : ByteArray := prog_6_method_4_code
def yX4_copy : MethodName := ⟨RX4, "copy", "(LShoeTable$Rules;)V"⟩
abbrev cX4_doubles : ByteArray := prog_6_method_5_code
def yX4_doubles : MethodName := ⟨RX4, "doubles", "()Z"⟩
abbrev cX4_splits : ByteArray := prog_6_method_6_code
def yX4_splits : MethodName := ⟨RX4, "splits", "()Z"⟩
abbrev cX4_gives : ByteArray := prog_6_method_7_code
def yX4_gives : MethodName := ⟨RX4, "gives", "()Z"⟩
abbrev cX4_isSoft : ByteArray := prog_6_method_8_code
def yX4_isSoft : MethodName := ⟨RX4, "isSoft", "(IZ)Z"⟩
abbrev cX4_value : ByteArray := prog_6_method_9_code
def yX4_value : MethodName := ⟨RX4, "value", "(IZ)I"⟩
abbrev cX4_isBust : ByteArray := prog_6_method_10_code
def yX4_isBust : MethodName := ⟨RX4, "isBust", "(I)Z"⟩
abbrev cX4_isNatural : ByteArray := prog_6_method_11_code
def yX4_isNatural : MethodName := ⟨RX4, "isNatural", "(II)Z"⟩
abbrev cX4_goesOn : ByteArray := prog_6_method_12_code
def yX4_goesOn : MethodName := ⟨RX4, "goesOn", "(IZ)Z"⟩
abbrev cX4_end : ByteArray := prog_6_method_13_code
def yX4_end : MethodName := ⟨RX4, "end", "(I)I"⟩
abbrev cX4_settled : ByteArray := prog_6_method_14_code
def yX4_settled : MethodName := ⟨RX4, "settled", "(IZI)I"⟩
def RX5 : String := "ShoeTable"
def TX5 : u_T := fun k => match k with
  | 0 => ("ShoeTable", "rules", "LShoeTable$Rules;", true)
  | 1 => ("ShoeTable", "cards", "LShoeTable$Cards;", true)
  | 2 => ("ShoeTable", "gone", "LShoeTable$Cards;", true)
  | 3 => ("ShoeTable", "atFresh", "LShoeTable$Cards;", true)
  | 4 => ("ShoeTable", "hand", "LShoeTable$Hand;", true)
  | 5 => ("ShoeTable", "marks", "[I", true)
  | 6 => ("ShoeTable", "odds", "LShoeTable$Odds;", true)
  | 7 => ("ShoeTable", "heaps", "LShoeTable$Heaps;", true)
  | 8 => ("ShoeTable", "up", "I", false)
  | 9 => ("ShoeTable", "bank", "I", false)
  | 10 => ("ShoeTable", "chain", "J", false)
  | _ => ("ShoeTable", "shoeTold", "Z", false)
def tyX5 : Nat → FieldType := fun k => match k with
  | 0 => .object "ShoeTable$Rules"
  | 1 => .object "ShoeTable$Cards"
  | 2 => .object "ShoeTable$Cards"
  | 3 => .object "ShoeTable$Cards"
  | 4 => .object "ShoeTable$Hand"
  | 5 => .array .int
  | 6 => .object "ShoeTable$Odds"
  | 7 => .object "ShoeTable$Heaps"
  | 8 => .int
  | 9 => .int
  | 10 => .long
  | _ => .boolean
abbrev wsX50 : List Cond := u_ws RX5 TX5 12
theorem nmX5 : ∀ a, a < 12 → ∀ b, b < 12 → a ≠ b → (TX5 a).2.1 ≠ (TX5 b).2.1 := by decide +kernel
theorem tyX5_ok : ∀ k, k < 12 → parseFieldDescriptor (TX5 k).2.2.1 = some (tyX5 k) := by decide +kernel
abbrev cX5_init : ByteArray := prog_1_method_1_code
def yX5_init : MethodName := ⟨RX5, "<init>", "()V"⟩
abbrev cX5_shoe : ByteArray := prog_1_method_2_code
def yX5_shoe : MethodName := ⟨RX5, "shoe", "(II)I"⟩
abbrev cX5_fresh : ByteArray := prog_1_method_3_code
def yX5_fresh : MethodName := ⟨RX5, "fresh", "()I"⟩
abbrev cX5_rule : ByteArray := prog_1_method_4_code
def yX5_rule : MethodName := ⟨RX5, "rule", "(II)I"⟩
abbrev cX5_mark : ByteArray := prog_1_method_5_code
def yX5_mark : MethodName := ⟨RX5, "mark", "(II)I"⟩
abbrev cX5_left : ByteArray := prog_1_method_6_code
def yX5_left : MethodName := ⟨RX5, "left", "(I)I"⟩
abbrev cX5_take : ByteArray := prog_1_method_7_code
def yX5_take : MethodName := ⟨RX5, "take", "(II)I"⟩
abbrev cX5_draw : ByteArray := prog_1_method_8_code
def yX5_draw : MethodName := ⟨RX5, "draw", "(I)I"⟩
abbrev cX5_seed : ByteArray := prog_1_method_9_code
def yX5_seed : MethodName := ⟨RX5, "seed", "(I)I"⟩
abbrev cX5_lay : ByteArray := prog_1_method_10_code
def yX5_lay : MethodName := ⟨RX5, "lay", "()I"⟩
abbrev cX5_told : ByteArray := prog_1_method_11_code
def yX5_told : MethodName := ⟨RX5, "told", "(I)I"⟩
abbrev cX5_settle : ByteArray := prog_1_method_12_code
def yX5_settle : MethodName := ⟨RX5, "settle", "()I"⟩
abbrev cX5_there : ByteArray := prog_1_method_13_code
def yX5_there : MethodName := ⟨RX5, "there", "(I)I"⟩
abbrev cX5_worth : ByteArray := prog_1_method_14_code
def yX5_worth : MethodName := ⟨RX5, "worth", "(II)J"⟩
abbrev cX5_best : ByteArray := prog_1_method_15_code
def yX5_best : MethodName := ⟨RX5, "best", "()I"⟩
abbrev cX5_chance : ByteArray := prog_1_method_16_code
def yX5_chance : MethodName := ⟨RX5, "chance", "(II)J"⟩
abbrev cX5_deal : ByteArray := prog_1_method_17_code
def yX5_deal : MethodName := ⟨RX5, "deal", "(I)J"⟩
abbrev cX5_moved : ByteArray := prog_1_method_18_code
def yX5_moved : MethodName := ⟨RX5, "moved", "(II)J"⟩
abbrev cX5_known : ByteArray := prog_1_method_19_code
def yX5_known : MethodName := ⟨RX5, "known", "(II)J"⟩
abbrev cX5_isRank : ByteArray := prog_1_method_20_code
def yX5_isRank : MethodName := ⟨RX5, "isRank", "(I)Z"⟩
abbrev cX5_isGoal : ByteArray := prog_1_method_21_code
def yX5_isGoal : MethodName := ⟨RX5, "isGoal", "(I)Z"⟩
abbrev cX5_isAct : ByteArray := prog_1_method_22_code
def yX5_isAct : MethodName := ⟨RX5, "isAct", "(I)Z"⟩
abbrev cX5_isPart : ByteArray := prog_1_method_23_code
def yX5_isPart : MethodName := ⟨RX5, "isPart", "(I)Z"⟩
abbrev cX5_asNumber : ByteArray := prog_1_method_24_code
def yX5_asNumber : MethodName := ⟨RX5, "asNumber", "(Z)I"⟩
abbrev cX5_handValue : ByteArray := prog_1_method_25_code
def yX5_handValue : MethodName := ⟨RX5, "handValue", "()I"⟩
abbrev cX5_clearTable : ByteArray := prog_1_method_26_code
def yX5_clearTable : MethodName := ⟨RX5, "clearTable", "()V"⟩
abbrev cX5_moveOut : ByteArray := prog_1_method_27_code
def yX5_moveOut : MethodName := ⟨RX5, "moveOut", "(I)V"⟩
abbrev cX5_bring : ByteArray := prog_1_method_28_code
def yX5_bring : MethodName := ⟨RX5, "bring", "(II)V"⟩
abbrev cX5_drawnRank : ByteArray := prog_1_method_29_code
def yX5_drawnRank : MethodName := ⟨RX5, "drawnRank", "()I"⟩
abbrev cX5_playHouse : ByteArray := prog_1_method_30_code
def yX5_playHouse : MethodName := ⟨RX5, "playHouse", "()I"⟩
abbrev cX5_countOfGone : ByteArray := prog_1_method_31_code
def yX5_countOfGone : MethodName := ⟨RX5, "countOfGone", "()I"⟩
abbrev cX5_lookAtTable : ByteArray := prog_1_method_32_code
def yX5_lookAtTable : MethodName := ⟨RX5, "lookAtTable", "()V"⟩
abbrev cX5_orders : ByteArray := prog_1_method_33_code
def yX5_orders : MethodName := ⟨RX5, "orders", "(I)J"⟩
abbrev cX5_part : ByteArray := prog_1_method_34_code
def yX5_part : MethodName := ⟨RX5, "part", "(JJI)J"⟩
abbrev cX5_commonDivisor : ByteArray := prog_1_method_35_code
def yX5_commonDivisor : MethodName := ⟨RX5, "commonDivisor", "(JJ)J"⟩
def RX6 : String := "ShoeTableModel"
def TX6 : u_T := fun k => match k with
  | 0 => ("ShoeTableModel", "shoe", "[I", true)
  | 1 => ("ShoeTableModel", "atFresh", "[I", true)
  | 2 => ("ShoeTableModel", "went", "[I", true)
  | 3 => ("ShoeTableModel", "marks", "[I", true)
  | 4 => ("ShoeTableModel", "told", "Z", false)
  | 5 => ("ShoeTableModel", "hand", "[I", true)
  | 6 => ("ShoeTableModel", "hands", "I", false)
  | 7 => ("ShoeTableModel", "up", "I", false)
  | 8 => ("ShoeTableModel", "target", "I", false)
  | 9 => ("ShoeTableModel", "stands", "I", false)
  | 10 => ("ShoeTableModel", "softly", "I", false)
  | 11 => ("ShoeTableModel", "doubles", "I", false)
  | 12 => ("ShoeTableModel", "splits", "I", false)
  | 13 => ("ShoeTableModel", "gives", "I", false)
  | 14 => ("ShoeTableModel", "bonus", "I", false)
  | 15 => ("ShoeTableModel", "draw", "J", false)
  | 16 => ("ShoeTableModel", "bank", "I", false)
  | 17 => ("ShoeTableModel", "orders", "[J", true)
  | 18 => ("ShoeTableModel", "cap", "[I", true)
  | 19 => ("ShoeTableModel", "step", "[I", true)
  | 20 => ("ShoeTableModel", "heaps", "I", false)
  | 21 => ("ShoeTableModel", "size", "[I", true)
  | 22 => ("ShoeTableModel", "points", "[I", true)
  | 23 => ("ShoeTableModel", "house", "[J", true)
  | 24 => ("ShoeTableModel", "stand", "[J", true)
  | 25 => ("ShoeTableModel", "best", "[J", true)
  | 26 => ("ShoeTableModel", "sum", "I", false)
  | 27 => ("ShoeTableModel", "hasAce", "Z", false)
  | 28 => ("ShoeTableModel", "cards", "I", false)
  | 29 => ("ShoeTableModel", "pair", "I", false)
  | 30 => ("ShoeTableModel", "shown", "I", false)
  | 31 => ("ShoeTableModel", "wanted", "I", false)
  | 32 => ("ShoeTableModel", "win", "I", false)
  | 33 => ("ShoeTableModel", "isChance", "Z", false)
  | 34 => ("ShoeTableModel", "bestAct", "I", false)
  | 35 => ("ShoeTableModel", "ways", "[J", true)
  | 36 => ("ShoeTableModel", "taken", "[J", true)
  | 37 => ("ShoeTableModel", "nextWays", "[J", true)
  | _ => ("ShoeTableModel", "nextTaken", "[J", true)
def tyX6 : Nat → FieldType := fun k => match k with
  | 0 => .array .int
  | 1 => .array .int
  | 2 => .array .int
  | 3 => .array .int
  | 4 => .boolean
  | 5 => .array .int
  | 6 => .int
  | 7 => .int
  | 8 => .int
  | 9 => .int
  | 10 => .int
  | 11 => .int
  | 12 => .int
  | 13 => .int
  | 14 => .int
  | 15 => .long
  | 16 => .int
  | 17 => .array .long
  | 18 => .array .int
  | 19 => .array .int
  | 20 => .int
  | 21 => .array .int
  | 22 => .array .int
  | 23 => .array .long
  | 24 => .array .long
  | 25 => .array .long
  | 26 => .int
  | 27 => .boolean
  | 28 => .int
  | 29 => .int
  | 30 => .int
  | 31 => .int
  | 32 => .int
  | 33 => .boolean
  | 34 => .int
  | 35 => .array .long
  | 36 => .array .long
  | 37 => .array .long
  | _ => .array .long
abbrev wsX60 : List Cond := u_ws RX6 TX6 39
theorem nmX6 : ∀ a, a < 39 → ∀ b, b < 39 → a ≠ b → (TX6 a).2.1 ≠ (TX6 b).2.1 := by decide +kernel
theorem tyX6_ok : ∀ k, k < 39 → parseFieldDescriptor (TX6 k).2.2.1 = some (tyX6 k) := by decide +kernel
abbrev cX6_init : ByteArray := prog_8_method_1_code
def yX6_init : MethodName := ⟨RX6, "<init>", "()V"⟩
abbrev cX6_in : ByteArray := prog_8_method_3_code
def yX6_in : MethodName := ⟨RX6, "in", "(JJJ)Z"⟩
abbrev cX6_all : ByteArray := prog_8_method_4_code
def yX6_all : MethodName := ⟨RX6, "all", "()I"⟩
abbrev cX6_shoe : ByteArray := prog_8_method_5_code
def yX6_shoe : MethodName := ⟨RX6, "shoe", "(II)I"⟩
abbrev cX6_fresh : ByteArray := prog_8_method_6_code
def yX6_fresh : MethodName := ⟨RX6, "fresh", "()I"⟩
abbrev cX6_rule : ByteArray := prog_8_method_7_code
def yX6_rule : MethodName := ⟨RX6, "rule", "(II)I"⟩
abbrev cX6_mark : ByteArray := prog_8_method_8_code
def yX6_mark : MethodName := ⟨RX6, "mark", "(II)I"⟩
abbrev cX6_left : ByteArray := prog_8_method_9_code
def yX6_left : MethodName := ⟨RX6, "left", "(I)I"⟩
abbrev cX6_leave : ByteArray := prog_8_method_10_code
def yX6_leave : MethodName := ⟨RX6, "leave", "(II)V"⟩
abbrev cX6_take : ByteArray := prog_8_method_11_code
def yX6_take : MethodName := ⟨RX6, "take", "(II)I"⟩
abbrev cX6_drawn : ByteArray := prog_8_method_12_code
def yX6_drawn : MethodName := ⟨RX6, "drawn", "()I"⟩
abbrev cX6_draw : ByteArray := prog_8_method_13_code
def yX6_draw : MethodName := ⟨RX6, "draw", "(I)I"⟩
abbrev cX6_seed : ByteArray := prog_8_method_14_code
def yX6_seed : MethodName := ⟨RX6, "seed", "(I)I"⟩
abbrev cX6_lay : ByteArray := prog_8_method_15_code
def yX6_lay : MethodName := ⟨RX6, "lay", "()I"⟩
abbrev cX6_handSum : ByteArray := prog_8_method_16_code
def yX6_handSum : MethodName := ⟨RX6, "handSum", "()I"⟩
abbrev cX6_handAce : ByteArray := prog_8_method_17_code
def yX6_handAce : MethodName := ⟨RX6, "handAce", "()Z"⟩
abbrev cX6_valueOf : ByteArray := prog_8_method_18_code
def yX6_valueOf : MethodName := ⟨RX6, "valueOf", "(IZ)I"⟩
abbrev cX6_handValue : ByteArray := prog_8_method_19_code
def yX6_handValue : MethodName := ⟨RX6, "handValue", "()I"⟩
abbrev cX6_isNatural : ByteArray := prog_8_method_20_code
def yX6_isNatural : MethodName := ⟨RX6, "isNatural", "()Z"⟩
abbrev cX6_counted : ByteArray := prog_8_method_21_code
def yX6_counted : MethodName := ⟨RX6, "counted", "()I"⟩
abbrev cX6_gone : ByteArray := prog_8_method_22_code
def yX6_gone : MethodName := ⟨RX6, "gone", "()I"⟩
abbrev cX6_told : ByteArray := prog_8_method_23_code
def yX6_told : MethodName := ⟨RX6, "told", "(I)I"⟩
abbrev cX6_goesOn : ByteArray := prog_8_method_24_code
def yX6_goesOn : MethodName := ⟨RX6, "goesOn", "(IZ)Z"⟩
abbrev cX6_settled : ByteArray := prog_8_method_25_code
def yX6_settled : MethodName := ⟨RX6, "settled", "(III)I"⟩
abbrev cX6_settle : ByteArray := prog_8_method_26_code
def yX6_settle : MethodName := ⟨RX6, "settle", "()I"⟩
abbrev cX6_ofRank : ByteArray := prog_8_method_27_code
def yX6_ofRank : MethodName := ⟨RX6, "ofRank", "(II)I"⟩
abbrev cX6_layHeaps : ByteArray := prog_8_method_28_code
def yX6_layHeaps : MethodName := ⟨RX6, "layHeaps", "()V"⟩
abbrev cX6_score : ByteArray := prog_8_method_29_code
def yX6_score : MethodName := ⟨RX6, "score", "(IZ)I"⟩
abbrev cX6_draws : ByteArray := prog_8_method_30_code
def yX6_draws : MethodName := ⟨RX6, "draws", "(IIZ)Z"⟩
abbrev cX6_houseAt : ByteArray := prog_8_method_31_code
def yX6_houseAt : MethodName := ⟨RX6, "houseAt", "(IIZ)J"⟩
abbrev cX6_findHouse : ByteArray := prog_8_method_32_code
def yX6_findHouse : MethodName := ⟨RX6, "findHouse", "()V"⟩
abbrev cX6_houseFor : ByteArray := prog_8_method_33_code
def yX6_houseFor : MethodName := ⟨RX6, "houseFor", "(I)J"⟩
abbrev cX6_valueAt : ByteArray := prog_8_method_34_code
def yX6_valueAt : MethodName := ⟨RX6, "valueAt", "(I)I"⟩
abbrev cX6_findStands : ByteArray := prog_8_method_35_code
def yX6_findStands : MethodName := ⟨RX6, "findStands", "()V"⟩
abbrev cX6_standWorth : ByteArray := prog_8_method_36_code
def yX6_standWorth : MethodName := ⟨RX6, "standWorth", "()J"⟩
abbrev cX6_drawWorth : ByteArray := prog_8_method_37_code
def yX6_drawWorth : MethodName := ⟨RX6, "drawWorth", "()J"⟩
abbrev cX6_doubleWorth : ByteArray := prog_8_method_38_code
def yX6_doubleWorth : MethodName := ⟨RX6, "doubleWorth", "()J"⟩
abbrev cX6_splitWorth : ByteArray := prog_8_method_39_code
def yX6_splitWorth : MethodName := ⟨RX6, "splitWorth", "()J"⟩
abbrev cX6_isThere : ByteArray := prog_8_method_40_code
def yX6_isThere : MethodName := ⟨RX6, "isThere", "(I)Z"⟩
abbrev cX6_worthOf : ByteArray := prog_8_method_41_code
def yX6_worthOf : MethodName := ⟨RX6, "worthOf", "(I)J"⟩
abbrev cX6_findBest : ByteArray := prog_8_method_42_code
def yX6_findBest : MethodName := ⟨RX6, "findBest", "()J"⟩
abbrev cX6_layTable : ByteArray := prog_8_method_43_code
def yX6_layTable : MethodName := ⟨RX6, "layTable", "(I)V"⟩
abbrev cX6_isThereNow : ByteArray := prog_8_method_44_code
def yX6_isThereNow : MethodName := ⟨RX6, "isThereNow", "(I)Z"⟩
abbrev cX6_there : ByteArray := prog_8_method_45_code
def yX6_there : MethodName := ⟨RX6, "there", "(I)I"⟩
abbrev cX6_gcd : ByteArray := prog_8_method_46_code
def yX6_gcd : MethodName := ⟨RX6, "gcd", "(JJ)J"⟩
abbrev cX6_part : ByteArray := prog_8_method_47_code
def yX6_part : MethodName := ⟨RX6, "part", "(JJI)J"⟩
abbrev cX6_worth : ByteArray := prog_8_method_48_code
def yX6_worth : MethodName := ⟨RX6, "worth", "(II)J"⟩
abbrev cX6_best : ByteArray := prog_8_method_49_code
def yX6_best : MethodName := ⟨RX6, "best", "()I"⟩
abbrev cX6_chance : ByteArray := prog_8_method_50_code
def yX6_chance : MethodName := ⟨RX6, "chance", "(II)J"⟩
abbrev cX6_dealt : ByteArray := prog_8_method_51_code
def yX6_dealt : MethodName := ⟨RX6, "dealt", "(III)J"⟩
abbrev cX6_deal : ByteArray := prog_8_method_52_code
def yX6_deal : MethodName := ⟨RX6, "deal", "(I)J"⟩
abbrev cX6_moved : ByteArray := prog_8_method_53_code
def yX6_moved : MethodName := ⟨RX6, "moved", "(II)J"⟩
abbrev cX6_choose : ByteArray := prog_8_method_54_code
def yX6_choose : MethodName := ⟨RX6, "choose", "(II)J"⟩
abbrev cX6_addRank : ByteArray := prog_8_method_55_code
def yX6_addRank : MethodName := ⟨RX6, "addRank", "(III)V"⟩
abbrev cX6_known : ByteArray := prog_8_method_56_code
def yX6_known : MethodName := ⟨RX6, "known", "(II)J"⟩
def RJ9 : String := "java/lang/Math"
def TJ9 : u_T := fun k => match k with
  | _ => ("", "", "", false)
def tyJ9 : Nat → FieldType := fun k => match k with
  | _ => .int
abbrev wsJ90 : List Cond := u_ws RJ9 TJ9 0
theorem nmJ9 : ∀ a, a < 0 → ∀ b, b < 0 → a ≠ b → (TJ9 a).2.1 ≠ (TJ9 b).2.1 := by decide +kernel
theorem tyJ9_ok : ∀ k, k < 0 → parseFieldDescriptor (TJ9 k).2.2.1 = some (tyJ9 k) := by decide +kernel
abbrev cJ9_abs_067f4 : ByteArray := prog_9_method_61_code
def yJ9_abs_067f4 : MethodName := ⟨RJ9, "abs", "(J)J"⟩
abbrev cJ9_max_7cf53 : ByteArray := prog_9_method_65_code
def yJ9_max_7cf53 : MethodName := ⟨RJ9, "max", "(II)I"⟩
abbrev cJ9_max_f86c9 : ByteArray := prog_9_method_66_code
def yJ9_max_f86c9 : MethodName := ⟨RJ9, "max", "(JJ)J"⟩
abbrev cJ9_min_7cf53 : ByteArray := prog_9_method_69_code
def yJ9_min_7cf53 : MethodName := ⟨RJ9, "min", "(II)I"⟩
def RJ10 : String := "java/lang/System"
def TJ10 : u_T := fun k => match k with
  | _ => ("", "", "", false)
def tyJ10 : Nat → FieldType := fun k => match k with
  | _ => .int
abbrev wsJ100 : List Cond := u_ws RJ10 TJ10 0
theorem nmJ10 : ∀ a, a < 0 → ∀ b, b < 0 → a ≠ b → (TJ10 a).2.1 ≠ (TJ10 b).2.1 := by decide +kernel
theorem tyJ10_ok : ∀ k, k < 0 → parseFieldDescriptor (TJ10 k).2.2.1 = some (tyJ10 k) := by decide +kernel
def RJ7 : String := "java/util/Arrays"
def TJ7 : u_T := fun k => match k with
  | _ => ("", "", "", false)
def tyJ7 : Nat → FieldType := fun k => match k with
  | _ => .int
abbrev wsJ70 : List Cond := u_ws RJ7 TJ7 0
theorem nmJ7 : ∀ a, a < 0 → ∀ b, b < 0 → a ≠ b → (TJ7 a).2.1 ≠ (TJ7 b).2.1 := by decide +kernel
theorem tyJ7_ok : ∀ k, k < 0 → parseFieldDescriptor (TJ7 k).2.2.1 = some (tyJ7 k) := by decide +kernel
abbrev cJ7_fill_d0a16 : ByteArray := prog_11_method_101_code
def yJ7_fill_d0a16 : MethodName := ⟨RJ7, "fill", "([JJ)V"⟩
abbrev cJ7_fill_53178 : ByteArray := prog_11_method_103_code
def yJ7_fill_53178 : MethodName := ⟨RJ7, "fill", "([II)V"⟩
def RL : String := "ShoeTableLaw"
abbrev cL_law : ByteArray := code
def yL_law : MethodName := ⟨RL, "law", "([I)Z"⟩
def wsX0_init : List Cond := .code yX0_init cX0_init 1 none :: ([.methodLink RX0 3 objectInit, .instanceMethod objectInit, .code objectInit ⟨#[0xb1]⟩ 1 none, .arrayClass .int, .fieldLink RX0 9 "ShoeTable$Cards" "counts" "[I", .fieldLink RX0 15 "ShoeTable$Cards" "total" "I"] ++ wsX00)
def wsX0_count : List Cond := .code yX0_count cX0_count 2 (some .int) :: ([.fieldLink RX0 9 "ShoeTable$Cards" "counts" "[I"] ++ wsX00)
def wsX0_put : List Cond := .code yX0_put cX0_put 3 none :: ([.fieldLink RX0 15 "ShoeTable$Cards" "total" "I", .fieldLink RX0 9 "ShoeTable$Cards" "counts" "[I"] ++ wsX00)
def wsX0_add : List Cond := .code yX0_add cX0_add 2 none :: ([.fieldLink RX0 9 "ShoeTable$Cards" "counts" "[I", .fieldLink RX0 15 "ShoeTable$Cards" "total" "I"] ++ wsX00)
def wsX0_remove : List Cond := .code yX0_remove cX0_remove 3 (some .int) :: ([.fieldLink RX0 9 "ShoeTable$Cards" "counts" "[I", .fieldLink RX0 15 "ShoeTable$Cards" "total" "I"] ++ wsX00)
def wsJ7_fill_53178 : List Cond := .code yJ7_fill_53178 cJ7_fill_53178 4 none :: ([])
def wsX0_clear : List Cond := .code yX0_clear cX0_clear 1 none :: ([.fieldLink RX0 9 "ShoeTable$Cards" "counts" "[I", .fieldLink RX0 15 "ShoeTable$Cards" "total" "I", .methodLink RX0 19 yJ7_fill_53178, .static yJ7_fill_53178, .initialized RJ7, .code yJ7_fill_53178 cJ7_fill_53178 4 none] ++ wsX00)
def wsX0_copy : List Cond := .code yX0_copy cX0_copy 2 none :: ([.fieldLink RX0 9 "ShoeTable$Cards" "counts" "[I", .methodLink RX0 25 arraycopyName, .native arraycopyName, .static arraycopyName, .initialized "java/lang/System", .fieldLink RX0 15 "ShoeTable$Cards" "total" "I"] ++ wsX00)
def wsX0_rankAt : List Cond := .code yX0_rankAt cX0_rankAt 4 (some .int) :: ([.fieldLink RX0 9 "ShoeTable$Cards" "counts" "[I"] ++ wsX00)
def wsX1_init : List Cond := .code yX1_init cX1_init 1 none :: ([.methodLink RX1 3 objectInit, .instanceMethod objectInit, .code objectInit ⟨#[0xb1]⟩ 1 none, .arrayClass .int, .fieldLink RX1 9 "ShoeTable$Hand" "row" "[I", .fieldLink RX1 15 "ShoeTable$Hand" "size" "I", .fieldLink RX1 19 "ShoeTable$Hand" "sum" "I", .fieldLink RX1 22 "ShoeTable$Hand" "ace" "Z"] ++ wsX10)
def wsX1_isFull : List Cond := .code yX1_isFull cX1_isFull 1 (some .boolean) :: ([.fieldLink RX1 15 "ShoeTable$Hand" "size" "I"] ++ wsX10)
def wsX1_add : List Cond := .code yX1_add cX1_add 2 none :: ([.fieldLink RX1 15 "ShoeTable$Hand" "size" "I", .fieldLink RX1 9 "ShoeTable$Hand" "row" "[I", .fieldLink RX1 19 "ShoeTable$Hand" "sum" "I", .fieldLink RX1 22 "ShoeTable$Hand" "ace" "Z"] ++ wsX10)
def wsX1_clear : List Cond := .code yX1_clear cX1_clear 1 none :: ([.fieldLink RX1 15 "ShoeTable$Hand" "size" "I", .fieldLink RX1 19 "ShoeTable$Hand" "sum" "I", .fieldLink RX1 22 "ShoeTable$Hand" "ace" "Z"] ++ wsX10)
def wsX1_card : List Cond := .code yX1_card cX1_card 2 (some .int) :: ([.fieldLink RX1 15 "ShoeTable$Hand" "size" "I", .fieldLink RX1 9 "ShoeTable$Hand" "row" "[I"] ++ wsX10)
def wsX1_isPair : List Cond := .code yX1_isPair cX1_isPair 1 (some .boolean) :: ([.fieldLink RX1 15 "ShoeTable$Hand" "size" "I", .fieldLink RX1 9 "ShoeTable$Hand" "row" "[I"] ++ wsX10)
def wsX1_copy : List Cond := .code yX1_copy cX1_copy 2 none :: ([.fieldLink RX1 9 "ShoeTable$Hand" "row" "[I", .methodLink RX1 26 arraycopyName, .native arraycopyName, .static arraycopyName, .initialized "java/lang/System", .fieldLink RX1 15 "ShoeTable$Hand" "size" "I", .fieldLink RX1 19 "ShoeTable$Hand" "sum" "I", .fieldLink RX1 22 "ShoeTable$Hand" "ace" "Z"] ++ wsX10)
def wsX2_init : List Cond := .code yX2_init cX2_init 1 none :: ([.methodLink RX2 5 objectInit, .instanceMethod objectInit, .code objectInit ⟨#[0xb1]⟩ 1 none, .classLink RX2 11 "[[J", .arrayClass .long, .fieldLink RX2 13 "ShoeTable$Heaps" "ways" "[[J"] ++ wsX20)
def wsJ7_fill_d0a16 : List Cond := .code yJ7_fill_d0a16 cJ7_fill_d0a16 5 none :: ([])
def wsX2_addCard : List Cond := .code yX2_addCard cX2_addCard 7 none :: ([.methodLink RX2 32 Lib.Math.max.name, .static Lib.Math.max.name, .initialized "java/lang/Math", .code Lib.Math.max.name Lib.Math.max.code 2 (some .int), .methodLink RX2 38 Lib.Math.min.name, .static Lib.Math.min.name, .code Lib.Math.min.name Lib.Math.min.code 2 (some .int), .fieldLink RX2 13 "ShoeTable$Heaps" "ways" "[[J"] ++ wsX20)
def wsX2_ways : List Cond := .code yX2_ways cX2_ways 7 (some .long) :: ([.fieldLink RX2 13 "ShoeTable$Heaps" "ways" "[[J", .methodLink RX2 16 yJ7_fill_d0a16, .static yJ7_fill_d0a16, .initialized RJ7, .code yJ7_fill_d0a16 cJ7_fill_d0a16 5 none, .methodLink RX2 22 yX0_count, .instanceMethod yX0_count, .selects RX0 yX0_count yX0_count, .initialized RX0, .code yX0_count cX0_count 2 (some .int), .fieldLink RX0 9 "ShoeTable$Cards" "counts" "[I", .methodLink RX2 28 yX2_addCard, .instanceMethod yX2_addCard, .selects RX2 yX2_addCard yX2_addCard, .initialized RX2, .code yX2_addCard cX2_addCard 7 none, .methodLink RX2 32 Lib.Math.max.name, .static Lib.Math.max.name, .initialized "java/lang/Math", .code Lib.Math.max.name Lib.Math.max.code 2 (some .int), .methodLink RX2 38 Lib.Math.min.name, .static Lib.Math.min.name, .code Lib.Math.min.name Lib.Math.min.code 2 (some .int)] ++ wsX20 ++ wsX00)
def wsX4_init : List Cond := .code yX4_init cX4_init 1 none :: ([.methodLink RX4 3 objectInit, .instanceMethod objectInit, .code objectInit ⟨#[0xb1]⟩ 1 none, .arrayClass .int, .fieldLink RX4 9 "ShoeTable$Rules" "now" "[I"] ++ wsX40)
def wsX3_init_r1 : List Cond := [Cond.methodLink RX3 3 objectInit, Cond.instanceMethod objectInit, Cond.code objectInit ⟨#[0xb1]⟩ 1 none, Cond.classLink RX3 9 RX4, Cond.instantiable RX4 1, Cond.initialized RX4, Cond.fieldLink RX3 12 "ShoeTable$Odds" "rules" "LShoeTable$Rules;", Cond.classLink RX3 18 RX0, Cond.instantiable RX0 2, Cond.initialized RX0, Cond.fieldLink RX3 21 "ShoeTable$Odds" "shoe" "LShoeTable$Cards;", Cond.fieldLink RX3 25 "ShoeTable$Odds" "whole" "LShoeTable$Cards;", Cond.classLink RX3 28 RX1, Cond.instantiable RX1 4, Cond.initialized RX1, Cond.fieldLink RX3 31 "ShoeTable$Odds" "hand" "LShoeTable$Hand;", Cond.fieldLink RX3 35 "ShoeTable$Odds" "up" "I", Cond.fieldLink RX3 39 "ShoeTable$Odds" "bestAct" "I", Cond.fieldLink RX3 42 "ShoeTable$Odds" "bestTotal" "J", Cond.arrayClass .long, Cond.fieldLink RX3 46 "ShoeTable$Odds" "pay" "[J", Cond.arrayClass .int, Cond.fieldLink RX3 50 "ShoeTable$Odds" "step" "[I", Cond.fieldLink RX3 54 "ShoeTable$Odds" "houseTotals" "[J"]
def wsX3_init_r2 : List Cond := [Cond.fieldLink RX3 57 "ShoeTable$Odds" "houseRounds" "[I", Cond.fieldLink RX3 60 "ShoeTable$Odds" "houseRound" "I", Cond.fieldLink RX3 63 "ShoeTable$Odds" "playerTotals" "[J", Cond.fieldLink RX3 66 "ShoeTable$Odds" "playerRounds" "[I", Cond.fieldLink RX3 69 "ShoeTable$Odds" "playerRound" "I", Cond.instanceMethod yX4_init, Cond.code yX4_init cX4_init 1 none, Cond.methodLink RX4 3 objectInit, Cond.fieldLink RX4 9 "ShoeTable$Rules" "now" "[I", Cond.instanceMethod yX0_init, Cond.code yX0_init cX0_init 1 none, Cond.methodLink RX0 3 objectInit, Cond.fieldLink RX0 9 "ShoeTable$Cards" "counts" "[I", Cond.fieldLink RX0 15 "ShoeTable$Cards" "total" "I", Cond.instanceMethod yX1_init, Cond.code yX1_init cX1_init 1 none, Cond.methodLink RX1 3 objectInit, Cond.fieldLink RX1 9 "ShoeTable$Hand" "row" "[I", Cond.fieldLink RX1 15 "ShoeTable$Hand" "size" "I", Cond.fieldLink RX1 19 "ShoeTable$Hand" "sum" "I", Cond.fieldLink RX1 22 "ShoeTable$Hand" "ace" "Z"]
def wsX3_init : List Cond := .code yX3_init cX3_init 1 none :: ((wsX3_init_r1 ++ wsX3_init_r2) ++ wsX40 ++ wsX30 ++ wsX00 ++ wsX10)
def wsX4_copy : List Cond := .code yX4_copy cX4_copy 2 none :: ([.fieldLink RX4 9 "ShoeTable$Rules" "now" "[I", .methodLink RX4 25 arraycopyName, .native arraycopyName, .static arraycopyName, .initialized "java/lang/System"] ++ wsX40)
def wsX3_look_r1 : List Cond := [Cond.fieldLink RX3 12 "ShoeTable$Odds" "rules" "LShoeTable$Rules;", Cond.fieldLink RX3 21 "ShoeTable$Odds" "shoe" "LShoeTable$Cards;", Cond.fieldLink RX3 31 "ShoeTable$Odds" "hand" "LShoeTable$Hand;", Cond.fieldLink RX3 35 "ShoeTable$Odds" "up" "I", Cond.methodLink RX3 72 yX4_copy, Cond.instanceMethod yX4_copy, Cond.selects RX4 yX4_copy yX4_copy, Cond.initialized RX4, Cond.code yX4_copy cX4_copy 2 none, Cond.fieldLink RX4 9 "ShoeTable$Rules" "now" "[I", Cond.methodLink RX4 25 arraycopyName, Cond.native arraycopyName, Cond.static arraycopyName, Cond.initialized "java/lang/System", Cond.methodLink RX3 76 yX0_copy, Cond.instanceMethod yX0_copy, Cond.selects RX0 yX0_copy yX0_copy, Cond.initialized RX0, Cond.code yX0_copy cX0_copy 2 none, Cond.fieldLink RX0 9 "ShoeTable$Cards" "counts" "[I", Cond.methodLink RX0 25 arraycopyName, Cond.fieldLink RX0 15 "ShoeTable$Cards" "total" "I", Cond.methodLink RX3 79 yX1_copy, Cond.instanceMethod yX1_copy]
def wsX3_look_r2 : List Cond := [Cond.selects RX1 yX1_copy yX1_copy, Cond.initialized RX1, Cond.code yX1_copy cX1_copy 2 none, Cond.fieldLink RX1 9 "ShoeTable$Hand" "row" "[I", Cond.methodLink RX1 26 arraycopyName, Cond.fieldLink RX1 15 "ShoeTable$Hand" "size" "I", Cond.fieldLink RX1 19 "ShoeTable$Hand" "sum" "I", Cond.fieldLink RX1 22 "ShoeTable$Hand" "ace" "Z"]
def wsX3_look : List Cond := .code yX3_look cX3_look 5 none :: ((wsX3_look_r1 ++ wsX3_look_r2) ++ wsX30 ++ wsX40 ++ wsX00 ++ wsX10)
def wsX4_isBust : List Cond := .code yX4_isBust cX4_isBust 2 (some .boolean) :: ([.fieldLink RX4 9 "ShoeTable$Rules" "now" "[I"] ++ wsX40)
def wsX4_doubles : List Cond := .code yX4_doubles cX4_doubles 1 (some .boolean) :: ([.fieldLink RX4 9 "ShoeTable$Rules" "now" "[I"] ++ wsX40)
def wsX4_splits : List Cond := .code yX4_splits cX4_splits 1 (some .boolean) :: ([.fieldLink RX4 9 "ShoeTable$Rules" "now" "[I"] ++ wsX40)
def wsX4_gives : List Cond := .code yX4_gives cX4_gives 1 (some .boolean) :: ([.fieldLink RX4 9 "ShoeTable$Rules" "now" "[I"] ++ wsX40)
def wsX3_isThere_r1 : List Cond := [Cond.fieldLink RX3 31 "ShoeTable$Odds" "hand" "LShoeTable$Hand;", Cond.fieldLink RX3 82 "ShoeTable$Hand" "size" "I", Cond.fieldLink RX3 12 "ShoeTable$Odds" "rules" "LShoeTable$Rules;", Cond.fieldLink RX3 85 "ShoeTable$Hand" "sum" "I", Cond.fieldLink RX3 35 "ShoeTable$Odds" "up" "I", Cond.fieldLink RX3 21 "ShoeTable$Odds" "shoe" "LShoeTable$Cards;", Cond.fieldLink RX3 92 "ShoeTable$Cards" "total" "I", Cond.methodLink RX3 88 yX4_isBust, Cond.instanceMethod yX4_isBust, Cond.selects RX4 yX4_isBust yX4_isBust, Cond.initialized RX4, Cond.code yX4_isBust cX4_isBust 2 (some .boolean), Cond.fieldLink RX4 9 "ShoeTable$Rules" "now" "[I", Cond.methodLink RX3 95 yX1_isFull, Cond.instanceMethod yX1_isFull, Cond.selects RX1 yX1_isFull yX1_isFull, Cond.initialized RX1, Cond.code yX1_isFull cX1_isFull 1 (some .boolean), Cond.fieldLink RX1 15 "ShoeTable$Hand" "size" "I", Cond.methodLink RX3 99 yX4_doubles, Cond.instanceMethod yX4_doubles, Cond.selects RX4 yX4_doubles yX4_doubles, Cond.code yX4_doubles cX4_doubles 1 (some .boolean), Cond.methodLink RX3 102 yX1_isPair]
def wsX3_isThere_r2 : List Cond := [Cond.instanceMethod yX1_isPair, Cond.selects RX1 yX1_isPair yX1_isPair, Cond.code yX1_isPair cX1_isPair 1 (some .boolean), Cond.fieldLink RX1 9 "ShoeTable$Hand" "row" "[I", Cond.methodLink RX3 105 yX4_splits, Cond.instanceMethod yX4_splits, Cond.selects RX4 yX4_splits yX4_splits, Cond.code yX4_splits cX4_splits 1 (some .boolean), Cond.methodLink RX3 108 yX4_gives, Cond.instanceMethod yX4_gives, Cond.selects RX4 yX4_gives yX4_gives, Cond.code yX4_gives cX4_gives 1 (some .boolean)]
def wsX3_isThere : List Cond := .code yX3_isThere cX3_isThere 2 (some .boolean) :: ((wsX3_isThere_r1 ++ wsX3_isThere_r2) ++ wsX30 ++ wsX10 ++ wsX00 ++ wsX40)
def wsX3_anyThere_r1 : List Cond := [Cond.methodLink RX3 111 yX3_isThere, Cond.instanceMethod yX3_isThere, Cond.selects RX3 yX3_isThere yX3_isThere, Cond.initialized RX3, Cond.code yX3_isThere cX3_isThere 2 (some .boolean), Cond.fieldLink RX3 31 "ShoeTable$Odds" "hand" "LShoeTable$Hand;", Cond.fieldLink RX3 82 "ShoeTable$Hand" "size" "I", Cond.fieldLink RX3 12 "ShoeTable$Odds" "rules" "LShoeTable$Rules;", Cond.fieldLink RX3 85 "ShoeTable$Hand" "sum" "I", Cond.fieldLink RX3 35 "ShoeTable$Odds" "up" "I", Cond.fieldLink RX3 21 "ShoeTable$Odds" "shoe" "LShoeTable$Cards;", Cond.fieldLink RX3 92 "ShoeTable$Cards" "total" "I", Cond.methodLink RX3 88 yX4_isBust, Cond.instanceMethod yX4_isBust, Cond.selects RX4 yX4_isBust yX4_isBust, Cond.initialized RX4, Cond.code yX4_isBust cX4_isBust 2 (some .boolean), Cond.fieldLink RX4 9 "ShoeTable$Rules" "now" "[I", Cond.methodLink RX3 95 yX1_isFull, Cond.instanceMethod yX1_isFull, Cond.selects RX1 yX1_isFull yX1_isFull, Cond.initialized RX1, Cond.code yX1_isFull cX1_isFull 1 (some .boolean), Cond.fieldLink RX1 15 "ShoeTable$Hand" "size" "I"]
def wsX3_anyThere_r2 : List Cond := [Cond.methodLink RX3 99 yX4_doubles, Cond.instanceMethod yX4_doubles, Cond.selects RX4 yX4_doubles yX4_doubles, Cond.code yX4_doubles cX4_doubles 1 (some .boolean), Cond.methodLink RX3 102 yX1_isPair, Cond.instanceMethod yX1_isPair, Cond.selects RX1 yX1_isPair yX1_isPair, Cond.code yX1_isPair cX1_isPair 1 (some .boolean), Cond.fieldLink RX1 9 "ShoeTable$Hand" "row" "[I", Cond.methodLink RX3 105 yX4_splits, Cond.instanceMethod yX4_splits, Cond.selects RX4 yX4_splits yX4_splits, Cond.code yX4_splits cX4_splits 1 (some .boolean), Cond.methodLink RX3 108 yX4_gives, Cond.instanceMethod yX4_gives, Cond.selects RX4 yX4_gives yX4_gives, Cond.code yX4_gives cX4_gives 1 (some .boolean)]
def wsX3_anyThere : List Cond := .code yX3_anyThere cX3_anyThere 1 (some .boolean) :: ((wsX3_anyThere_r1 ++ wsX3_anyThere_r2) ++ wsX30 ++ wsX10 ++ wsX00 ++ wsX40)
def wsX3_numberHeaps : List Cond := .code yX3_numberHeaps cX3_numberHeaps 3 none :: ([.fieldLink RX3 50 "ShoeTable$Odds" "step" "[I", .fieldLink RX3 21 "ShoeTable$Odds" "shoe" "LShoeTable$Cards;", .methodLink RX3 174 yX0_count, .instanceMethod yX0_count, .selects RX0 yX0_count yX0_count, .initialized RX0, .code yX0_count cX0_count 2 (some .int), .fieldLink RX0 9 "ShoeTable$Cards" "counts" "[I"] ++ wsX30 ++ wsX00)
def wsX5_orders : List Cond := .code yX5_orders cX5_orders 1 (some .long) :: ([.fieldLink RX5 237 "ShoeTable" "ORDERS" "[J"])
def wsX4_value : List Cond := .code yX4_value cX4_value 3 (some .int) :: ([.fieldLink RX4 9 "ShoeTable$Rules" "now" "[I"] ++ wsX40)
def wsX4_isNatural : List Cond := .code yX4_isNatural cX4_isNatural 3 (some .boolean) :: ([.fieldLink RX4 9 "ShoeTable$Rules" "now" "[I"] ++ wsX40)
def wsX4_settled : List Cond := .code yX4_settled cX4_settled 4 (some .int) :: ([.fieldLink RX4 9 "ShoeTable$Rules" "now" "[I"] ++ wsX40)
def wsX4_goesOn : List Cond := .code yX4_goesOn cX4_goesOn 3 (some .boolean) :: ([.fieldLink RX4 9 "ShoeTable$Rules" "now" "[I"] ++ wsX40)
def wsX4_end : List Cond := .code yX4_end cX4_end 2 (some .int) :: ([.fieldLink RX4 9 "ShoeTable$Rules" "now" "[I"] ++ wsX40)
def wsX3_houseTotal_r1 : List Cond := [Cond.fieldLink RX3 12 "ShoeTable$Odds" "rules" "LShoeTable$Rules;", Cond.fieldLink RX3 46 "ShoeTable$Odds" "pay" "[J", Cond.fieldLink RX3 57 "ShoeTable$Odds" "houseRounds" "[I", Cond.fieldLink RX3 60 "ShoeTable$Odds" "houseRound" "I", Cond.fieldLink RX3 54 "ShoeTable$Odds" "houseTotals" "[J", Cond.fieldLink RX3 21 "ShoeTable$Odds" "shoe" "LShoeTable$Cards;", Cond.fieldLink RX3 50 "ShoeTable$Odds" "step" "[I", Cond.methodLink RX3 177 yX4_value, Cond.instanceMethod yX4_value, Cond.selects RX4 yX4_value yX4_value, Cond.initialized RX4, Cond.code yX4_value cX4_value 3 (some .int), Cond.fieldLink RX4 9 "ShoeTable$Rules" "now" "[I", Cond.methodLink RX3 189 yX4_goesOn, Cond.instanceMethod yX4_goesOn, Cond.selects RX4 yX4_goesOn yX4_goesOn, Cond.code yX4_goesOn cX4_goesOn 3 (some .boolean), Cond.methodLink RX3 193 yX4_end, Cond.instanceMethod yX4_end, Cond.selects RX4 yX4_end yX4_end, Cond.code yX4_end cX4_end 2 (some .int), Cond.static yX5_orders, Cond.initialized RX5, Cond.code yX5_orders cX5_orders 1 (some .long)]
def wsX3_houseTotal_r2 : List Cond := [Cond.fieldLink RX5 237 "ShoeTable" "ORDERS" "[J", Cond.methodLink RX3 155 yX0_remove, Cond.instanceMethod yX0_remove, Cond.selects RX0 yX0_remove yX0_remove, Cond.initialized RX0, Cond.code yX0_remove cX0_remove 3 (some .int), Cond.fieldLink RX0 9 "ShoeTable$Cards" "counts" "[I", Cond.fieldLink RX0 15 "ShoeTable$Cards" "total" "I", Cond.methodLink RX3 149 yX3_houseTotal, Cond.instanceMethod yX3_houseTotal, Cond.selects RX3 yX3_houseTotal yX3_houseTotal, Cond.initialized RX3, Cond.methodLink RX3 158 yX0_add, Cond.instanceMethod yX0_add, Cond.selects RX0 yX0_add yX0_add, Cond.code yX0_add cX0_add 2 none]
def wsX3_houseTotal : List Cond := .code yX3_houseTotal cX3_houseTotal 10 (some .long) :: ((wsX3_houseTotal_r1 ++ wsX3_houseTotal_r2) ++ wsX30 ++ wsX40 ++ wsX00)
def wsX3_standTotal_r1 : List Cond := [Cond.fieldLink RX3 12 "ShoeTable$Odds" "rules" "LShoeTable$Rules;", Cond.constantLong RX3 166 (-2), Cond.fieldLink RX3 21 "ShoeTable$Odds" "shoe" "LShoeTable$Cards;", Cond.fieldLink RX3 92 "ShoeTable$Cards" "total" "I", Cond.fieldLink RX3 46 "ShoeTable$Odds" "pay" "[J", Cond.fieldLink RX3 60 "ShoeTable$Odds" "houseRound" "I", Cond.fieldLink RX3 35 "ShoeTable$Odds" "up" "I", Cond.methodLink RX3 88 yX4_isBust, Cond.instanceMethod yX4_isBust, Cond.selects RX4 yX4_isBust yX4_isBust, Cond.initialized RX4, Cond.code yX4_isBust cX4_isBust 2 (some .boolean), Cond.fieldLink RX4 9 "ShoeTable$Rules" "now" "[I", Cond.static yX5_orders, Cond.initialized RX5, Cond.code yX5_orders cX5_orders 1 (some .long), Cond.fieldLink RX5 237 "ShoeTable" "ORDERS" "[J", Cond.methodLink RX3 177 yX4_value, Cond.instanceMethod yX4_value, Cond.selects RX4 yX4_value yX4_value, Cond.code yX4_value cX4_value 3 (some .int), Cond.methodLink RX3 181 yX4_isNatural, Cond.instanceMethod yX4_isNatural, Cond.selects RX4 yX4_isNatural yX4_isNatural]
def wsX3_standTotal_r2 : List Cond := [Cond.code yX4_isNatural cX4_isNatural 3 (some .boolean), Cond.methodLink RX3 185 yX4_settled, Cond.instanceMethod yX4_settled, Cond.selects RX4 yX4_settled yX4_settled, Cond.code yX4_settled cX4_settled 4 (some .int), Cond.methodLink RX3 149 yX3_houseTotal, Cond.instanceMethod yX3_houseTotal, Cond.selects RX3 yX3_houseTotal yX3_houseTotal, Cond.initialized RX3, Cond.code yX3_houseTotal cX3_houseTotal 10 (some .long), Cond.fieldLink RX3 57 "ShoeTable$Odds" "houseRounds" "[I", Cond.fieldLink RX3 54 "ShoeTable$Odds" "houseTotals" "[J", Cond.fieldLink RX3 50 "ShoeTable$Odds" "step" "[I", Cond.methodLink RX3 189 yX4_goesOn, Cond.instanceMethod yX4_goesOn, Cond.selects RX4 yX4_goesOn yX4_goesOn, Cond.code yX4_goesOn cX4_goesOn 3 (some .boolean), Cond.methodLink RX3 193 yX4_end, Cond.instanceMethod yX4_end, Cond.selects RX4 yX4_end yX4_end, Cond.code yX4_end cX4_end 2 (some .int), Cond.methodLink RX3 155 yX0_remove, Cond.instanceMethod yX0_remove, Cond.selects RX0 yX0_remove yX0_remove]
def wsX3_standTotal_r3 : List Cond := [Cond.initialized RX0, Cond.code yX0_remove cX0_remove 3 (some .int), Cond.fieldLink RX0 9 "ShoeTable$Cards" "counts" "[I", Cond.fieldLink RX0 15 "ShoeTable$Cards" "total" "I", Cond.methodLink RX3 158 yX0_add, Cond.instanceMethod yX0_add, Cond.selects RX0 yX0_add yX0_add, Cond.code yX0_add cX0_add 2 none]
def wsX3_standTotal : List Cond := .code yX3_standTotal cX3_standTotal 8 (some .long) :: ((wsX3_standTotal_r1 ++ (wsX3_standTotal_r2 ++ wsX3_standTotal_r3)) ++ wsX30 ++ wsX00 ++ wsX40)
def wsX3_playerTotal_r1 : List Cond := [Cond.fieldLink RX3 12 "ShoeTable$Odds" "rules" "LShoeTable$Rules;", Cond.constantLong RX3 166 (-2), Cond.fieldLink RX3 66 "ShoeTable$Odds" "playerRounds" "[I", Cond.fieldLink RX3 69 "ShoeTable$Odds" "playerRound" "I", Cond.fieldLink RX3 63 "ShoeTable$Odds" "playerTotals" "[J", Cond.fieldLink RX3 21 "ShoeTable$Odds" "shoe" "LShoeTable$Cards;", Cond.fieldLink RX3 50 "ShoeTable$Odds" "step" "[I", Cond.methodLink RX3 196 Lib.MathLoose.max_long.x, Cond.static Lib.MathLoose.max_long.x, Cond.initialized "java/lang/Math", Cond.code Lib.MathLoose.max_long.x Lib.MathLoose.max_long.code 4 (some .long), Cond.methodLink RX3 88 yX4_isBust, Cond.instanceMethod yX4_isBust, Cond.selects RX4 yX4_isBust yX4_isBust, Cond.initialized RX4, Cond.code yX4_isBust cX4_isBust 2 (some .boolean), Cond.fieldLink RX4 9 "ShoeTable$Rules" "now" "[I", Cond.static yX5_orders, Cond.initialized RX5, Cond.code yX5_orders cX5_orders 1 (some .long), Cond.fieldLink RX5 237 "ShoeTable" "ORDERS" "[J", Cond.methodLink RX3 155 yX0_remove, Cond.instanceMethod yX0_remove, Cond.selects RX0 yX0_remove yX0_remove]
def wsX3_playerTotal_r2 : List Cond := [Cond.initialized RX0, Cond.code yX0_remove cX0_remove 3 (some .int), Cond.fieldLink RX0 9 "ShoeTable$Cards" "counts" "[I", Cond.fieldLink RX0 15 "ShoeTable$Cards" "total" "I", Cond.methodLink RX3 125 yX3_playerTotal, Cond.instanceMethod yX3_playerTotal, Cond.selects RX3 yX3_playerTotal yX3_playerTotal, Cond.initialized RX3, Cond.methodLink RX3 158 yX0_add, Cond.instanceMethod yX0_add, Cond.selects RX0 yX0_add yX0_add, Cond.code yX0_add cX0_add 2 none, Cond.methodLink RX3 121 yX3_standTotal, Cond.instanceMethod yX3_standTotal, Cond.selects RX3 yX3_standTotal yX3_standTotal, Cond.code yX3_standTotal cX3_standTotal 8 (some .long), Cond.fieldLink RX3 92 "ShoeTable$Cards" "total" "I", Cond.fieldLink RX3 46 "ShoeTable$Odds" "pay" "[J", Cond.fieldLink RX3 60 "ShoeTable$Odds" "houseRound" "I", Cond.fieldLink RX3 35 "ShoeTable$Odds" "up" "I", Cond.methodLink RX3 177 yX4_value, Cond.instanceMethod yX4_value, Cond.selects RX4 yX4_value yX4_value, Cond.code yX4_value cX4_value 3 (some .int)]
def wsX3_playerTotal_r3 : List Cond := [Cond.methodLink RX3 181 yX4_isNatural, Cond.instanceMethod yX4_isNatural, Cond.selects RX4 yX4_isNatural yX4_isNatural, Cond.code yX4_isNatural cX4_isNatural 3 (some .boolean), Cond.methodLink RX3 185 yX4_settled, Cond.instanceMethod yX4_settled, Cond.selects RX4 yX4_settled yX4_settled, Cond.code yX4_settled cX4_settled 4 (some .int), Cond.methodLink RX3 149 yX3_houseTotal, Cond.instanceMethod yX3_houseTotal, Cond.selects RX3 yX3_houseTotal yX3_houseTotal, Cond.code yX3_houseTotal cX3_houseTotal 10 (some .long), Cond.fieldLink RX3 57 "ShoeTable$Odds" "houseRounds" "[I", Cond.fieldLink RX3 54 "ShoeTable$Odds" "houseTotals" "[J", Cond.methodLink RX3 189 yX4_goesOn, Cond.instanceMethod yX4_goesOn, Cond.selects RX4 yX4_goesOn yX4_goesOn, Cond.code yX4_goesOn cX4_goesOn 3 (some .boolean), Cond.methodLink RX3 193 yX4_end, Cond.instanceMethod yX4_end, Cond.selects RX4 yX4_end yX4_end, Cond.code yX4_end cX4_end 2 (some .int)]
def wsX3_playerTotal : List Cond := .code yX3_playerTotal cX3_playerTotal 10 (some .long) :: ((wsX3_playerTotal_r1 ++ (wsX3_playerTotal_r2 ++ wsX3_playerTotal_r3)) ++ wsX30 ++ wsX40 ++ wsX00)
def wsX3_doubleTotal_r1 : List Cond := [Cond.fieldLink RX3 21 "ShoeTable$Odds" "shoe" "LShoeTable$Cards;", Cond.fieldLink RX3 50 "ShoeTable$Odds" "step" "[I", Cond.fieldLink RX3 31 "ShoeTable$Odds" "hand" "LShoeTable$Hand;", Cond.fieldLink RX3 85 "ShoeTable$Hand" "sum" "I", Cond.fieldLink RX3 117 "ShoeTable$Hand" "ace" "Z", Cond.fieldLink RX3 82 "ShoeTable$Hand" "size" "I", Cond.constantLong RX3 172 (2), Cond.methodLink RX3 155 yX0_remove, Cond.instanceMethod yX0_remove, Cond.selects RX0 yX0_remove yX0_remove, Cond.initialized RX0, Cond.code yX0_remove cX0_remove 3 (some .int), Cond.fieldLink RX0 9 "ShoeTable$Cards" "counts" "[I", Cond.fieldLink RX0 15 "ShoeTable$Cards" "total" "I", Cond.methodLink RX3 121 yX3_standTotal, Cond.instanceMethod yX3_standTotal, Cond.selects RX3 yX3_standTotal yX3_standTotal, Cond.initialized RX3, Cond.code yX3_standTotal cX3_standTotal 8 (some .long), Cond.fieldLink RX3 12 "ShoeTable$Odds" "rules" "LShoeTable$Rules;", Cond.constantLong RX3 166 (-2), Cond.fieldLink RX3 92 "ShoeTable$Cards" "total" "I", Cond.fieldLink RX3 46 "ShoeTable$Odds" "pay" "[J", Cond.fieldLink RX3 60 "ShoeTable$Odds" "houseRound" "I"]
def wsX3_doubleTotal_r2 : List Cond := [Cond.fieldLink RX3 35 "ShoeTable$Odds" "up" "I", Cond.methodLink RX3 88 yX4_isBust, Cond.instanceMethod yX4_isBust, Cond.selects RX4 yX4_isBust yX4_isBust, Cond.initialized RX4, Cond.code yX4_isBust cX4_isBust 2 (some .boolean), Cond.fieldLink RX4 9 "ShoeTable$Rules" "now" "[I", Cond.static yX5_orders, Cond.initialized RX5, Cond.code yX5_orders cX5_orders 1 (some .long), Cond.fieldLink RX5 237 "ShoeTable" "ORDERS" "[J", Cond.methodLink RX3 177 yX4_value, Cond.instanceMethod yX4_value, Cond.selects RX4 yX4_value yX4_value, Cond.code yX4_value cX4_value 3 (some .int), Cond.methodLink RX3 181 yX4_isNatural, Cond.instanceMethod yX4_isNatural, Cond.selects RX4 yX4_isNatural yX4_isNatural, Cond.code yX4_isNatural cX4_isNatural 3 (some .boolean), Cond.methodLink RX3 185 yX4_settled, Cond.instanceMethod yX4_settled, Cond.selects RX4 yX4_settled yX4_settled, Cond.code yX4_settled cX4_settled 4 (some .int), Cond.methodLink RX3 149 yX3_houseTotal]
def wsX3_doubleTotal_r3 : List Cond := [Cond.instanceMethod yX3_houseTotal, Cond.selects RX3 yX3_houseTotal yX3_houseTotal, Cond.code yX3_houseTotal cX3_houseTotal 10 (some .long), Cond.fieldLink RX3 57 "ShoeTable$Odds" "houseRounds" "[I", Cond.fieldLink RX3 54 "ShoeTable$Odds" "houseTotals" "[J", Cond.methodLink RX3 189 yX4_goesOn, Cond.instanceMethod yX4_goesOn, Cond.selects RX4 yX4_goesOn yX4_goesOn, Cond.code yX4_goesOn cX4_goesOn 3 (some .boolean), Cond.methodLink RX3 193 yX4_end, Cond.instanceMethod yX4_end, Cond.selects RX4 yX4_end yX4_end, Cond.code yX4_end cX4_end 2 (some .int), Cond.methodLink RX3 158 yX0_add, Cond.instanceMethod yX0_add, Cond.selects RX0 yX0_add yX0_add, Cond.code yX0_add cX0_add 2 none]
def wsX3_doubleTotal : List Cond := .code yX3_doubleTotal cX3_doubleTotal 5 (some .long) :: ((wsX3_doubleTotal_r1 ++ (wsX3_doubleTotal_r2 ++ wsX3_doubleTotal_r3)) ++ wsX30 ++ wsX10 ++ wsX00 ++ wsX40)
def wsX3_bothTotal_r1 : List Cond := [Cond.fieldLink RX3 12 "ShoeTable$Odds" "rules" "LShoeTable$Rules;", Cond.fieldLink RX3 46 "ShoeTable$Odds" "pay" "[J", Cond.fieldLink RX3 60 "ShoeTable$Odds" "houseRound" "I", Cond.fieldLink RX3 50 "ShoeTable$Odds" "step" "[I", Cond.fieldLink RX3 35 "ShoeTable$Odds" "up" "I", Cond.fieldLink RX3 21 "ShoeTable$Odds" "shoe" "LShoeTable$Cards;", Cond.fieldLink RX3 92 "ShoeTable$Cards" "total" "I", Cond.methodLink RX3 177 yX4_value, Cond.instanceMethod yX4_value, Cond.selects RX4 yX4_value yX4_value, Cond.initialized RX4, Cond.code yX4_value cX4_value 3 (some .int), Cond.fieldLink RX4 9 "ShoeTable$Rules" "now" "[I", Cond.methodLink RX3 185 yX4_settled, Cond.instanceMethod yX4_settled, Cond.selects RX4 yX4_settled yX4_settled, Cond.code yX4_settled cX4_settled 4 (some .int), Cond.methodLink RX3 149 yX3_houseTotal, Cond.instanceMethod yX3_houseTotal, Cond.selects RX3 yX3_houseTotal yX3_houseTotal, Cond.initialized RX3, Cond.code yX3_houseTotal cX3_houseTotal 10 (some .long), Cond.fieldLink RX3 57 "ShoeTable$Odds" "houseRounds" "[I", Cond.fieldLink RX3 54 "ShoeTable$Odds" "houseTotals" "[J"]
def wsX3_bothTotal_r2 : List Cond := [Cond.methodLink RX3 189 yX4_goesOn, Cond.instanceMethod yX4_goesOn, Cond.selects RX4 yX4_goesOn yX4_goesOn, Cond.code yX4_goesOn cX4_goesOn 3 (some .boolean), Cond.methodLink RX3 193 yX4_end, Cond.instanceMethod yX4_end, Cond.selects RX4 yX4_end yX4_end, Cond.code yX4_end cX4_end 2 (some .int), Cond.static yX5_orders, Cond.initialized RX5, Cond.code yX5_orders cX5_orders 1 (some .long), Cond.fieldLink RX5 237 "ShoeTable" "ORDERS" "[J", Cond.methodLink RX3 155 yX0_remove, Cond.instanceMethod yX0_remove, Cond.selects RX0 yX0_remove yX0_remove, Cond.initialized RX0, Cond.code yX0_remove cX0_remove 3 (some .int), Cond.fieldLink RX0 9 "ShoeTable$Cards" "counts" "[I", Cond.fieldLink RX0 15 "ShoeTable$Cards" "total" "I", Cond.methodLink RX3 158 yX0_add, Cond.instanceMethod yX0_add, Cond.selects RX0 yX0_add yX0_add, Cond.code yX0_add cX0_add 2 none]
def wsX3_bothTotal : List Cond := .code yX3_bothTotal cX3_bothTotal 7 (some .long) :: ((wsX3_bothTotal_r1 ++ wsX3_bothTotal_r2) ++ wsX30 ++ wsX00 ++ wsX40)
def wsX3_splitTotal_r1 : List Cond := [Cond.fieldLink RX3 21 "ShoeTable$Odds" "shoe" "LShoeTable$Cards;", Cond.methodLink RX3 155 yX0_remove, Cond.instanceMethod yX0_remove, Cond.selects RX0 yX0_remove yX0_remove, Cond.initialized RX0, Cond.code yX0_remove cX0_remove 3 (some .int), Cond.fieldLink RX0 9 "ShoeTable$Cards" "counts" "[I", Cond.fieldLink RX0 15 "ShoeTable$Cards" "total" "I", Cond.methodLink RX3 202 yX3_bothTotal, Cond.instanceMethod yX3_bothTotal, Cond.selects RX3 yX3_bothTotal yX3_bothTotal, Cond.initialized RX3, Cond.code yX3_bothTotal cX3_bothTotal 7 (some .long), Cond.fieldLink RX3 12 "ShoeTable$Odds" "rules" "LShoeTable$Rules;", Cond.fieldLink RX3 46 "ShoeTable$Odds" "pay" "[J", Cond.fieldLink RX3 60 "ShoeTable$Odds" "houseRound" "I", Cond.fieldLink RX3 50 "ShoeTable$Odds" "step" "[I", Cond.fieldLink RX3 35 "ShoeTable$Odds" "up" "I", Cond.fieldLink RX3 92 "ShoeTable$Cards" "total" "I", Cond.methodLink RX3 177 yX4_value, Cond.instanceMethod yX4_value, Cond.selects RX4 yX4_value yX4_value, Cond.initialized RX4, Cond.code yX4_value cX4_value 3 (some .int)]
def wsX3_splitTotal_r2 : List Cond := [Cond.fieldLink RX4 9 "ShoeTable$Rules" "now" "[I", Cond.methodLink RX3 185 yX4_settled, Cond.instanceMethod yX4_settled, Cond.selects RX4 yX4_settled yX4_settled, Cond.code yX4_settled cX4_settled 4 (some .int), Cond.methodLink RX3 149 yX3_houseTotal, Cond.instanceMethod yX3_houseTotal, Cond.selects RX3 yX3_houseTotal yX3_houseTotal, Cond.code yX3_houseTotal cX3_houseTotal 10 (some .long), Cond.fieldLink RX3 57 "ShoeTable$Odds" "houseRounds" "[I", Cond.fieldLink RX3 54 "ShoeTable$Odds" "houseTotals" "[J", Cond.methodLink RX3 189 yX4_goesOn, Cond.instanceMethod yX4_goesOn, Cond.selects RX4 yX4_goesOn yX4_goesOn, Cond.code yX4_goesOn cX4_goesOn 3 (some .boolean), Cond.methodLink RX3 193 yX4_end, Cond.instanceMethod yX4_end, Cond.selects RX4 yX4_end yX4_end, Cond.code yX4_end cX4_end 2 (some .int), Cond.static yX5_orders, Cond.initialized RX5, Cond.code yX5_orders cX5_orders 1 (some .long), Cond.fieldLink RX5 237 "ShoeTable" "ORDERS" "[J", Cond.methodLink RX3 158 yX0_add]
def wsX3_splitTotal_r3 : List Cond := [Cond.instanceMethod yX0_add, Cond.selects RX0 yX0_add yX0_add, Cond.code yX0_add cX0_add 2 none]
def wsX3_splitTotal : List Cond := .code yX3_splitTotal cX3_splitTotal 9 (some .long) :: ((wsX3_splitTotal_r1 ++ (wsX3_splitTotal_r2 ++ wsX3_splitTotal_r3)) ++ wsX30 ++ wsX00 ++ wsX40)
def wsX3_actTotal_r1 : List Cond := [Cond.fieldLink RX3 69 "ShoeTable$Odds" "playerRound" "I", Cond.fieldLink RX3 31 "ShoeTable$Odds" "hand" "LShoeTable$Hand;", Cond.fieldLink RX3 85 "ShoeTable$Hand" "sum" "I", Cond.fieldLink RX3 117 "ShoeTable$Hand" "ace" "Z", Cond.fieldLink RX3 82 "ShoeTable$Hand" "size" "I", Cond.fieldLink RX3 21 "ShoeTable$Odds" "shoe" "LShoeTable$Cards;", Cond.fieldLink RX3 92 "ShoeTable$Cards" "total" "I", Cond.constantLong RX3 141 (-1), Cond.methodLink RX3 114 yX3_numberHeaps, Cond.instanceMethod yX3_numberHeaps, Cond.selects RX3 yX3_numberHeaps yX3_numberHeaps, Cond.initialized RX3, Cond.code yX3_numberHeaps cX3_numberHeaps 3 none, Cond.fieldLink RX3 50 "ShoeTable$Odds" "step" "[I", Cond.methodLink RX3 174 yX0_count, Cond.instanceMethod yX0_count, Cond.selects RX0 yX0_count yX0_count, Cond.initialized RX0, Cond.code yX0_count cX0_count 2 (some .int), Cond.fieldLink RX0 9 "ShoeTable$Cards" "counts" "[I", Cond.methodLink RX3 121 yX3_standTotal, Cond.instanceMethod yX3_standTotal, Cond.selects RX3 yX3_standTotal yX3_standTotal, Cond.code yX3_standTotal cX3_standTotal 8 (some .long)]
def wsX3_actTotal_r2 : List Cond := [Cond.fieldLink RX3 12 "ShoeTable$Odds" "rules" "LShoeTable$Rules;", Cond.constantLong RX3 166 (-2), Cond.fieldLink RX3 46 "ShoeTable$Odds" "pay" "[J", Cond.fieldLink RX3 60 "ShoeTable$Odds" "houseRound" "I", Cond.fieldLink RX3 35 "ShoeTable$Odds" "up" "I", Cond.methodLink RX3 88 yX4_isBust, Cond.instanceMethod yX4_isBust, Cond.selects RX4 yX4_isBust yX4_isBust, Cond.initialized RX4, Cond.code yX4_isBust cX4_isBust 2 (some .boolean), Cond.fieldLink RX4 9 "ShoeTable$Rules" "now" "[I", Cond.static yX5_orders, Cond.initialized RX5, Cond.code yX5_orders cX5_orders 1 (some .long), Cond.fieldLink RX5 237 "ShoeTable" "ORDERS" "[J", Cond.methodLink RX3 177 yX4_value, Cond.instanceMethod yX4_value, Cond.selects RX4 yX4_value yX4_value, Cond.code yX4_value cX4_value 3 (some .int), Cond.methodLink RX3 181 yX4_isNatural, Cond.instanceMethod yX4_isNatural, Cond.selects RX4 yX4_isNatural yX4_isNatural, Cond.code yX4_isNatural cX4_isNatural 3 (some .boolean), Cond.methodLink RX3 185 yX4_settled]
def wsX3_actTotal_r3 : List Cond := [Cond.instanceMethod yX4_settled, Cond.selects RX4 yX4_settled yX4_settled, Cond.code yX4_settled cX4_settled 4 (some .int), Cond.methodLink RX3 149 yX3_houseTotal, Cond.instanceMethod yX3_houseTotal, Cond.selects RX3 yX3_houseTotal yX3_houseTotal, Cond.code yX3_houseTotal cX3_houseTotal 10 (some .long), Cond.fieldLink RX3 57 "ShoeTable$Odds" "houseRounds" "[I", Cond.fieldLink RX3 54 "ShoeTable$Odds" "houseTotals" "[J", Cond.methodLink RX3 189 yX4_goesOn, Cond.instanceMethod yX4_goesOn, Cond.selects RX4 yX4_goesOn yX4_goesOn, Cond.code yX4_goesOn cX4_goesOn 3 (some .boolean), Cond.methodLink RX3 193 yX4_end, Cond.instanceMethod yX4_end, Cond.selects RX4 yX4_end yX4_end, Cond.code yX4_end cX4_end 2 (some .int), Cond.methodLink RX3 155 yX0_remove, Cond.instanceMethod yX0_remove, Cond.selects RX0 yX0_remove yX0_remove, Cond.code yX0_remove cX0_remove 3 (some .int), Cond.fieldLink RX0 15 "ShoeTable$Cards" "total" "I", Cond.methodLink RX3 158 yX0_add, Cond.instanceMethod yX0_add]
def wsX3_actTotal_r4 : List Cond := [Cond.selects RX0 yX0_add yX0_add, Cond.code yX0_add cX0_add 2 none, Cond.methodLink RX3 125 yX3_playerTotal, Cond.instanceMethod yX3_playerTotal, Cond.selects RX3 yX3_playerTotal yX3_playerTotal, Cond.code yX3_playerTotal cX3_playerTotal 10 (some .long), Cond.fieldLink RX3 66 "ShoeTable$Odds" "playerRounds" "[I", Cond.fieldLink RX3 63 "ShoeTable$Odds" "playerTotals" "[J", Cond.methodLink RX3 196 Lib.MathLoose.max_long.x, Cond.static Lib.MathLoose.max_long.x, Cond.initialized "java/lang/Math", Cond.code Lib.MathLoose.max_long.x Lib.MathLoose.max_long.code 4 (some .long), Cond.methodLink RX3 129 yX3_doubleTotal, Cond.instanceMethod yX3_doubleTotal, Cond.selects RX3 yX3_doubleTotal yX3_doubleTotal, Cond.code yX3_doubleTotal cX3_doubleTotal 5 (some .long), Cond.constantLong RX3 172 (2), Cond.methodLink RX3 133 yX1_card, Cond.instanceMethod yX1_card, Cond.selects RX1 yX1_card yX1_card, Cond.initialized RX1, Cond.code yX1_card cX1_card 2 (some .int), Cond.fieldLink RX1 15 "ShoeTable$Hand" "size" "I", Cond.fieldLink RX1 9 "ShoeTable$Hand" "row" "[I"]
def wsX3_actTotal_r5 : List Cond := [Cond.methodLink RX3 137 yX3_splitTotal, Cond.instanceMethod yX3_splitTotal, Cond.selects RX3 yX3_splitTotal yX3_splitTotal, Cond.code yX3_splitTotal cX3_splitTotal 9 (some .long), Cond.methodLink RX3 202 yX3_bothTotal, Cond.instanceMethod yX3_bothTotal, Cond.selects RX3 yX3_bothTotal yX3_bothTotal, Cond.code yX3_bothTotal cX3_bothTotal 7 (some .long)]
def wsX3_actTotal : List Cond := .code yX3_actTotal cX3_actTotal 2 (some .long) :: ((wsX3_actTotal_r1 ++ (wsX3_actTotal_r2 ++ (wsX3_actTotal_r3 ++ (wsX3_actTotal_r4 ++ wsX3_actTotal_r5)))) ++ wsX30 ++ wsX10 ++ wsX00 ++ wsX40)
def wsX3_findBest_r1 : List Cond := [Cond.fieldLink RX3 39 "ShoeTable$Odds" "bestAct" "I", Cond.fieldLink RX3 42 "ShoeTable$Odds" "bestTotal" "J", Cond.methodLink RX3 111 yX3_isThere, Cond.instanceMethod yX3_isThere, Cond.selects RX3 yX3_isThere yX3_isThere, Cond.initialized RX3, Cond.code yX3_isThere cX3_isThere 2 (some .boolean), Cond.fieldLink RX3 31 "ShoeTable$Odds" "hand" "LShoeTable$Hand;", Cond.fieldLink RX3 82 "ShoeTable$Hand" "size" "I", Cond.fieldLink RX3 12 "ShoeTable$Odds" "rules" "LShoeTable$Rules;", Cond.fieldLink RX3 85 "ShoeTable$Hand" "sum" "I", Cond.fieldLink RX3 35 "ShoeTable$Odds" "up" "I", Cond.fieldLink RX3 21 "ShoeTable$Odds" "shoe" "LShoeTable$Cards;", Cond.fieldLink RX3 92 "ShoeTable$Cards" "total" "I", Cond.methodLink RX3 88 yX4_isBust, Cond.instanceMethod yX4_isBust, Cond.selects RX4 yX4_isBust yX4_isBust, Cond.initialized RX4, Cond.code yX4_isBust cX4_isBust 2 (some .boolean), Cond.fieldLink RX4 9 "ShoeTable$Rules" "now" "[I", Cond.methodLink RX3 95 yX1_isFull, Cond.instanceMethod yX1_isFull, Cond.selects RX1 yX1_isFull yX1_isFull, Cond.initialized RX1]
def wsX3_findBest_r2 : List Cond := [Cond.code yX1_isFull cX1_isFull 1 (some .boolean), Cond.fieldLink RX1 15 "ShoeTable$Hand" "size" "I", Cond.methodLink RX3 99 yX4_doubles, Cond.instanceMethod yX4_doubles, Cond.selects RX4 yX4_doubles yX4_doubles, Cond.code yX4_doubles cX4_doubles 1 (some .boolean), Cond.methodLink RX3 102 yX1_isPair, Cond.instanceMethod yX1_isPair, Cond.selects RX1 yX1_isPair yX1_isPair, Cond.code yX1_isPair cX1_isPair 1 (some .boolean), Cond.fieldLink RX1 9 "ShoeTable$Hand" "row" "[I", Cond.methodLink RX3 105 yX4_splits, Cond.instanceMethod yX4_splits, Cond.selects RX4 yX4_splits yX4_splits, Cond.code yX4_splits cX4_splits 1 (some .boolean), Cond.methodLink RX3 108 yX4_gives, Cond.instanceMethod yX4_gives, Cond.selects RX4 yX4_gives yX4_gives, Cond.code yX4_gives cX4_gives 1 (some .boolean), Cond.methodLink RX3 146 yX3_actTotal, Cond.instanceMethod yX3_actTotal, Cond.selects RX3 yX3_actTotal yX3_actTotal, Cond.code yX3_actTotal cX3_actTotal 2 (some .long), Cond.fieldLink RX3 69 "ShoeTable$Odds" "playerRound" "I"]
def wsX3_findBest_r3 : List Cond := [Cond.fieldLink RX3 117 "ShoeTable$Hand" "ace" "Z", Cond.constantLong RX3 141 (-1), Cond.methodLink RX3 114 yX3_numberHeaps, Cond.instanceMethod yX3_numberHeaps, Cond.selects RX3 yX3_numberHeaps yX3_numberHeaps, Cond.code yX3_numberHeaps cX3_numberHeaps 3 none, Cond.fieldLink RX3 50 "ShoeTable$Odds" "step" "[I", Cond.methodLink RX3 174 yX0_count, Cond.instanceMethod yX0_count, Cond.selects RX0 yX0_count yX0_count, Cond.initialized RX0, Cond.code yX0_count cX0_count 2 (some .int), Cond.fieldLink RX0 9 "ShoeTable$Cards" "counts" "[I", Cond.methodLink RX3 121 yX3_standTotal, Cond.instanceMethod yX3_standTotal, Cond.selects RX3 yX3_standTotal yX3_standTotal, Cond.code yX3_standTotal cX3_standTotal 8 (some .long), Cond.constantLong RX3 166 (-2), Cond.fieldLink RX3 46 "ShoeTable$Odds" "pay" "[J", Cond.fieldLink RX3 60 "ShoeTable$Odds" "houseRound" "I", Cond.static yX5_orders, Cond.initialized RX5, Cond.code yX5_orders cX5_orders 1 (some .long), Cond.fieldLink RX5 237 "ShoeTable" "ORDERS" "[J"]
def wsX3_findBest_r4 : List Cond := [Cond.methodLink RX3 177 yX4_value, Cond.instanceMethod yX4_value, Cond.selects RX4 yX4_value yX4_value, Cond.code yX4_value cX4_value 3 (some .int), Cond.methodLink RX3 181 yX4_isNatural, Cond.instanceMethod yX4_isNatural, Cond.selects RX4 yX4_isNatural yX4_isNatural, Cond.code yX4_isNatural cX4_isNatural 3 (some .boolean), Cond.methodLink RX3 185 yX4_settled, Cond.instanceMethod yX4_settled, Cond.selects RX4 yX4_settled yX4_settled, Cond.code yX4_settled cX4_settled 4 (some .int), Cond.methodLink RX3 149 yX3_houseTotal, Cond.instanceMethod yX3_houseTotal, Cond.selects RX3 yX3_houseTotal yX3_houseTotal, Cond.code yX3_houseTotal cX3_houseTotal 10 (some .long), Cond.fieldLink RX3 57 "ShoeTable$Odds" "houseRounds" "[I", Cond.fieldLink RX3 54 "ShoeTable$Odds" "houseTotals" "[J", Cond.methodLink RX3 189 yX4_goesOn, Cond.instanceMethod yX4_goesOn, Cond.selects RX4 yX4_goesOn yX4_goesOn, Cond.code yX4_goesOn cX4_goesOn 3 (some .boolean), Cond.methodLink RX3 193 yX4_end, Cond.instanceMethod yX4_end]
def wsX3_findBest_r5 : List Cond := [Cond.selects RX4 yX4_end yX4_end, Cond.code yX4_end cX4_end 2 (some .int), Cond.methodLink RX3 155 yX0_remove, Cond.instanceMethod yX0_remove, Cond.selects RX0 yX0_remove yX0_remove, Cond.code yX0_remove cX0_remove 3 (some .int), Cond.fieldLink RX0 15 "ShoeTable$Cards" "total" "I", Cond.methodLink RX3 158 yX0_add, Cond.instanceMethod yX0_add, Cond.selects RX0 yX0_add yX0_add, Cond.code yX0_add cX0_add 2 none, Cond.methodLink RX3 125 yX3_playerTotal, Cond.instanceMethod yX3_playerTotal, Cond.selects RX3 yX3_playerTotal yX3_playerTotal, Cond.code yX3_playerTotal cX3_playerTotal 10 (some .long), Cond.fieldLink RX3 66 "ShoeTable$Odds" "playerRounds" "[I", Cond.fieldLink RX3 63 "ShoeTable$Odds" "playerTotals" "[J", Cond.methodLink RX3 196 Lib.MathLoose.max_long.x, Cond.static Lib.MathLoose.max_long.x, Cond.initialized "java/lang/Math", Cond.code Lib.MathLoose.max_long.x Lib.MathLoose.max_long.code 4 (some .long), Cond.methodLink RX3 129 yX3_doubleTotal, Cond.instanceMethod yX3_doubleTotal, Cond.selects RX3 yX3_doubleTotal yX3_doubleTotal]
def wsX3_findBest_r6 : List Cond := [Cond.code yX3_doubleTotal cX3_doubleTotal 5 (some .long), Cond.constantLong RX3 172 (2), Cond.methodLink RX3 133 yX1_card, Cond.instanceMethod yX1_card, Cond.selects RX1 yX1_card yX1_card, Cond.code yX1_card cX1_card 2 (some .int), Cond.methodLink RX3 137 yX3_splitTotal, Cond.instanceMethod yX3_splitTotal, Cond.selects RX3 yX3_splitTotal yX3_splitTotal, Cond.code yX3_splitTotal cX3_splitTotal 9 (some .long), Cond.methodLink RX3 202 yX3_bothTotal, Cond.instanceMethod yX3_bothTotal, Cond.selects RX3 yX3_bothTotal yX3_bothTotal, Cond.code yX3_bothTotal cX3_bothTotal 7 (some .long)]
def wsX3_findBest : List Cond := .code yX3_findBest cX3_findBest 4 none :: ((wsX3_findBest_r1 ++ (wsX3_findBest_r2 ++ (wsX3_findBest_r3 ++ (wsX3_findBest_r4 ++ (wsX3_findBest_r5 ++ wsX3_findBest_r6))))) ++ wsX30 ++ wsX10 ++ wsX00 ++ wsX40)
def wsX3_endTotal_r1 : List Cond := [Cond.fieldLink RX3 46 "ShoeTable$Odds" "pay" "[J", Cond.fieldLink RX3 60 "ShoeTable$Odds" "houseRound" "I", Cond.fieldLink RX3 35 "ShoeTable$Odds" "up" "I", Cond.fieldLink RX3 21 "ShoeTable$Odds" "shoe" "LShoeTable$Cards;", Cond.fieldLink RX3 92 "ShoeTable$Cards" "total" "I", Cond.methodLink RX3 114 yX3_numberHeaps, Cond.instanceMethod yX3_numberHeaps, Cond.selects RX3 yX3_numberHeaps yX3_numberHeaps, Cond.initialized RX3, Cond.code yX3_numberHeaps cX3_numberHeaps 3 none, Cond.fieldLink RX3 50 "ShoeTable$Odds" "step" "[I", Cond.methodLink RX3 174 yX0_count, Cond.instanceMethod yX0_count, Cond.selects RX0 yX0_count yX0_count, Cond.initialized RX0, Cond.code yX0_count cX0_count 2 (some .int), Cond.fieldLink RX0 9 "ShoeTable$Cards" "counts" "[I", Cond.methodLink RX3 149 yX3_houseTotal, Cond.instanceMethod yX3_houseTotal, Cond.selects RX3 yX3_houseTotal yX3_houseTotal, Cond.code yX3_houseTotal cX3_houseTotal 10 (some .long), Cond.fieldLink RX3 12 "ShoeTable$Odds" "rules" "LShoeTable$Rules;", Cond.fieldLink RX3 57 "ShoeTable$Odds" "houseRounds" "[I", Cond.fieldLink RX3 54 "ShoeTable$Odds" "houseTotals" "[J"]
def wsX3_endTotal_r2 : List Cond := [Cond.methodLink RX3 177 yX4_value, Cond.instanceMethod yX4_value, Cond.selects RX4 yX4_value yX4_value, Cond.initialized RX4, Cond.code yX4_value cX4_value 3 (some .int), Cond.fieldLink RX4 9 "ShoeTable$Rules" "now" "[I", Cond.methodLink RX3 189 yX4_goesOn, Cond.instanceMethod yX4_goesOn, Cond.selects RX4 yX4_goesOn yX4_goesOn, Cond.code yX4_goesOn cX4_goesOn 3 (some .boolean), Cond.methodLink RX3 193 yX4_end, Cond.instanceMethod yX4_end, Cond.selects RX4 yX4_end yX4_end, Cond.code yX4_end cX4_end 2 (some .int), Cond.static yX5_orders, Cond.initialized RX5, Cond.code yX5_orders cX5_orders 1 (some .long), Cond.fieldLink RX5 237 "ShoeTable" "ORDERS" "[J", Cond.methodLink RX3 155 yX0_remove, Cond.instanceMethod yX0_remove, Cond.selects RX0 yX0_remove yX0_remove, Cond.code yX0_remove cX0_remove 3 (some .int), Cond.fieldLink RX0 15 "ShoeTable$Cards" "total" "I", Cond.methodLink RX3 158 yX0_add]
def wsX3_endTotal_r3 : List Cond := [Cond.instanceMethod yX0_add, Cond.selects RX0 yX0_add yX0_add, Cond.code yX0_add cX0_add 2 none]
def wsX3_endTotal : List Cond := .code yX3_endTotal cX3_endTotal 3 (some .long) :: ((wsX3_endTotal_r1 ++ (wsX3_endTotal_r2 ++ wsX3_endTotal_r3)) ++ wsX30 ++ wsX00 ++ wsX40)
def wsX3_movedTotal_r1 : List Cond := [Cond.fieldLink RX3 42 "ShoeTable$Odds" "bestTotal" "J", Cond.fieldLink RX3 21 "ShoeTable$Odds" "shoe" "LShoeTable$Cards;", Cond.fieldLink RX3 92 "ShoeTable$Cards" "total" "I", Cond.methodLink RX3 152 yX3_findBest, Cond.instanceMethod yX3_findBest, Cond.selects RX3 yX3_findBest yX3_findBest, Cond.initialized RX3, Cond.code yX3_findBest cX3_findBest 4 none, Cond.fieldLink RX3 39 "ShoeTable$Odds" "bestAct" "I", Cond.methodLink RX3 111 yX3_isThere, Cond.instanceMethod yX3_isThere, Cond.selects RX3 yX3_isThere yX3_isThere, Cond.code yX3_isThere cX3_isThere 2 (some .boolean), Cond.fieldLink RX3 31 "ShoeTable$Odds" "hand" "LShoeTable$Hand;", Cond.fieldLink RX3 82 "ShoeTable$Hand" "size" "I", Cond.fieldLink RX3 12 "ShoeTable$Odds" "rules" "LShoeTable$Rules;", Cond.fieldLink RX3 85 "ShoeTable$Hand" "sum" "I", Cond.fieldLink RX3 35 "ShoeTable$Odds" "up" "I", Cond.methodLink RX3 88 yX4_isBust, Cond.instanceMethod yX4_isBust, Cond.selects RX4 yX4_isBust yX4_isBust, Cond.initialized RX4, Cond.code yX4_isBust cX4_isBust 2 (some .boolean), Cond.fieldLink RX4 9 "ShoeTable$Rules" "now" "[I"]
def wsX3_movedTotal_r2 : List Cond := [Cond.methodLink RX3 95 yX1_isFull, Cond.instanceMethod yX1_isFull, Cond.selects RX1 yX1_isFull yX1_isFull, Cond.initialized RX1, Cond.code yX1_isFull cX1_isFull 1 (some .boolean), Cond.fieldLink RX1 15 "ShoeTable$Hand" "size" "I", Cond.methodLink RX3 99 yX4_doubles, Cond.instanceMethod yX4_doubles, Cond.selects RX4 yX4_doubles yX4_doubles, Cond.code yX4_doubles cX4_doubles 1 (some .boolean), Cond.methodLink RX3 102 yX1_isPair, Cond.instanceMethod yX1_isPair, Cond.selects RX1 yX1_isPair yX1_isPair, Cond.code yX1_isPair cX1_isPair 1 (some .boolean), Cond.fieldLink RX1 9 "ShoeTable$Hand" "row" "[I", Cond.methodLink RX3 105 yX4_splits, Cond.instanceMethod yX4_splits, Cond.selects RX4 yX4_splits yX4_splits, Cond.code yX4_splits cX4_splits 1 (some .boolean), Cond.methodLink RX3 108 yX4_gives, Cond.instanceMethod yX4_gives, Cond.selects RX4 yX4_gives yX4_gives, Cond.code yX4_gives cX4_gives 1 (some .boolean), Cond.methodLink RX3 146 yX3_actTotal]
def wsX3_movedTotal_r3 : List Cond := [Cond.instanceMethod yX3_actTotal, Cond.selects RX3 yX3_actTotal yX3_actTotal, Cond.code yX3_actTotal cX3_actTotal 2 (some .long), Cond.fieldLink RX3 69 "ShoeTable$Odds" "playerRound" "I", Cond.fieldLink RX3 117 "ShoeTable$Hand" "ace" "Z", Cond.constantLong RX3 141 (-1), Cond.methodLink RX3 114 yX3_numberHeaps, Cond.instanceMethod yX3_numberHeaps, Cond.selects RX3 yX3_numberHeaps yX3_numberHeaps, Cond.code yX3_numberHeaps cX3_numberHeaps 3 none, Cond.fieldLink RX3 50 "ShoeTable$Odds" "step" "[I", Cond.methodLink RX3 174 yX0_count, Cond.instanceMethod yX0_count, Cond.selects RX0 yX0_count yX0_count, Cond.initialized RX0, Cond.code yX0_count cX0_count 2 (some .int), Cond.fieldLink RX0 9 "ShoeTable$Cards" "counts" "[I", Cond.methodLink RX3 121 yX3_standTotal, Cond.instanceMethod yX3_standTotal, Cond.selects RX3 yX3_standTotal yX3_standTotal, Cond.code yX3_standTotal cX3_standTotal 8 (some .long), Cond.constantLong RX3 166 (-2), Cond.fieldLink RX3 46 "ShoeTable$Odds" "pay" "[J", Cond.fieldLink RX3 60 "ShoeTable$Odds" "houseRound" "I"]
def wsX3_movedTotal_r4 : List Cond := [Cond.static yX5_orders, Cond.initialized RX5, Cond.code yX5_orders cX5_orders 1 (some .long), Cond.fieldLink RX5 237 "ShoeTable" "ORDERS" "[J", Cond.methodLink RX3 177 yX4_value, Cond.instanceMethod yX4_value, Cond.selects RX4 yX4_value yX4_value, Cond.code yX4_value cX4_value 3 (some .int), Cond.methodLink RX3 181 yX4_isNatural, Cond.instanceMethod yX4_isNatural, Cond.selects RX4 yX4_isNatural yX4_isNatural, Cond.code yX4_isNatural cX4_isNatural 3 (some .boolean), Cond.methodLink RX3 185 yX4_settled, Cond.instanceMethod yX4_settled, Cond.selects RX4 yX4_settled yX4_settled, Cond.code yX4_settled cX4_settled 4 (some .int), Cond.methodLink RX3 149 yX3_houseTotal, Cond.instanceMethod yX3_houseTotal, Cond.selects RX3 yX3_houseTotal yX3_houseTotal, Cond.code yX3_houseTotal cX3_houseTotal 10 (some .long), Cond.fieldLink RX3 57 "ShoeTable$Odds" "houseRounds" "[I", Cond.fieldLink RX3 54 "ShoeTable$Odds" "houseTotals" "[J", Cond.methodLink RX3 189 yX4_goesOn, Cond.instanceMethod yX4_goesOn]
def wsX3_movedTotal_r5 : List Cond := [Cond.selects RX4 yX4_goesOn yX4_goesOn, Cond.code yX4_goesOn cX4_goesOn 3 (some .boolean), Cond.methodLink RX3 193 yX4_end, Cond.instanceMethod yX4_end, Cond.selects RX4 yX4_end yX4_end, Cond.code yX4_end cX4_end 2 (some .int), Cond.methodLink RX3 155 yX0_remove, Cond.instanceMethod yX0_remove, Cond.selects RX0 yX0_remove yX0_remove, Cond.code yX0_remove cX0_remove 3 (some .int), Cond.fieldLink RX0 15 "ShoeTable$Cards" "total" "I", Cond.methodLink RX3 158 yX0_add, Cond.instanceMethod yX0_add, Cond.selects RX0 yX0_add yX0_add, Cond.code yX0_add cX0_add 2 none, Cond.methodLink RX3 125 yX3_playerTotal, Cond.instanceMethod yX3_playerTotal, Cond.selects RX3 yX3_playerTotal yX3_playerTotal, Cond.code yX3_playerTotal cX3_playerTotal 10 (some .long), Cond.fieldLink RX3 66 "ShoeTable$Odds" "playerRounds" "[I", Cond.fieldLink RX3 63 "ShoeTable$Odds" "playerTotals" "[J", Cond.methodLink RX3 196 Lib.MathLoose.max_long.x, Cond.static Lib.MathLoose.max_long.x, Cond.initialized "java/lang/Math"]
def wsX3_movedTotal_r6 : List Cond := [Cond.code Lib.MathLoose.max_long.x Lib.MathLoose.max_long.code 4 (some .long), Cond.methodLink RX3 129 yX3_doubleTotal, Cond.instanceMethod yX3_doubleTotal, Cond.selects RX3 yX3_doubleTotal yX3_doubleTotal, Cond.code yX3_doubleTotal cX3_doubleTotal 5 (some .long), Cond.constantLong RX3 172 (2), Cond.methodLink RX3 133 yX1_card, Cond.instanceMethod yX1_card, Cond.selects RX1 yX1_card yX1_card, Cond.code yX1_card cX1_card 2 (some .int), Cond.methodLink RX3 137 yX3_splitTotal, Cond.instanceMethod yX3_splitTotal, Cond.selects RX3 yX3_splitTotal yX3_splitTotal, Cond.code yX3_splitTotal cX3_splitTotal 9 (some .long), Cond.methodLink RX3 202 yX3_bothTotal, Cond.instanceMethod yX3_bothTotal, Cond.selects RX3 yX3_bothTotal yX3_bothTotal, Cond.code yX3_bothTotal cX3_bothTotal 7 (some .long)]
def wsX3_movedTotal : List Cond := .code yX3_movedTotal cX3_movedTotal 5 (some .long) :: ((wsX3_movedTotal_r1 ++ (wsX3_movedTotal_r2 ++ (wsX3_movedTotal_r3 ++ (wsX3_movedTotal_r4 ++ (wsX3_movedTotal_r5 ++ wsX3_movedTotal_r6))))) ++ wsX30 ++ wsX00 ++ wsX10 ++ wsX40)
def wsX3_handOut_r1 : List Cond := [Cond.fieldLink RX3 21 "ShoeTable$Odds" "shoe" "LShoeTable$Cards;", Cond.fieldLink RX3 25 "ShoeTable$Odds" "whole" "LShoeTable$Cards;", Cond.fieldLink RX3 31 "ShoeTable$Odds" "hand" "LShoeTable$Hand;", Cond.fieldLink RX3 35 "ShoeTable$Odds" "up" "I", Cond.constantLong RX3 172 (2), Cond.methodLink RX3 76 yX0_copy, Cond.instanceMethod yX0_copy, Cond.selects RX0 yX0_copy yX0_copy, Cond.initialized RX0, Cond.code yX0_copy cX0_copy 2 none, Cond.fieldLink RX0 9 "ShoeTable$Cards" "counts" "[I", Cond.methodLink RX0 25 arraycopyName, Cond.native arraycopyName, Cond.static arraycopyName, Cond.initialized "java/lang/System", Cond.fieldLink RX0 15 "ShoeTable$Cards" "total" "I", Cond.methodLink RX3 155 yX0_remove, Cond.instanceMethod yX0_remove, Cond.selects RX0 yX0_remove yX0_remove, Cond.code yX0_remove cX0_remove 3 (some .int), Cond.methodLink RX3 168 yX1_clear, Cond.instanceMethod yX1_clear, Cond.selects RX1 yX1_clear yX1_clear, Cond.initialized RX1]
def wsX3_handOut_r2 : List Cond := [Cond.code yX1_clear cX1_clear 1 none, Cond.fieldLink RX1 15 "ShoeTable$Hand" "size" "I", Cond.fieldLink RX1 19 "ShoeTable$Hand" "sum" "I", Cond.fieldLink RX1 22 "ShoeTable$Hand" "ace" "Z", Cond.methodLink RX3 171 yX1_add, Cond.instanceMethod yX1_add, Cond.selects RX1 yX1_add yX1_add, Cond.code yX1_add cX1_add 2 none, Cond.fieldLink RX1 9 "ShoeTable$Hand" "row" "[I"]
def wsX3_handOut : List Cond := .code yX3_handOut cX3_handOut 6 (some .long) :: ((wsX3_handOut_r1 ++ wsX3_handOut_r2) ++ wsX30 ++ wsX00 ++ wsX10)
def wsX3_dealTotal_r1 : List Cond := [Cond.fieldLink RX3 25 "ShoeTable$Odds" "whole" "LShoeTable$Cards;", Cond.fieldLink RX3 21 "ShoeTable$Odds" "shoe" "LShoeTable$Cards;", Cond.fieldLink RX3 39 "ShoeTable$Odds" "bestAct" "I", Cond.constantLong RX3 166 (-2), Cond.fieldLink RX3 92 "ShoeTable$Cards" "total" "I", Cond.fieldLink RX3 42 "ShoeTable$Odds" "bestTotal" "J", Cond.methodLink RX3 76 yX0_copy, Cond.instanceMethod yX0_copy, Cond.selects RX0 yX0_copy yX0_copy, Cond.initialized RX0, Cond.code yX0_copy cX0_copy 2 none, Cond.fieldLink RX0 9 "ShoeTable$Cards" "counts" "[I", Cond.methodLink RX0 25 arraycopyName, Cond.native arraycopyName, Cond.static arraycopyName, Cond.initialized "java/lang/System", Cond.fieldLink RX0 15 "ShoeTable$Cards" "total" "I", Cond.methodLink RX3 162 yX3_handOut, Cond.instanceMethod yX3_handOut, Cond.selects RX3 yX3_handOut yX3_handOut, Cond.initialized RX3, Cond.code yX3_handOut cX3_handOut 6 (some .long), Cond.fieldLink RX3 31 "ShoeTable$Odds" "hand" "LShoeTable$Hand;", Cond.fieldLink RX3 35 "ShoeTable$Odds" "up" "I"]
def wsX3_dealTotal_r2 : List Cond := [Cond.constantLong RX3 172 (2), Cond.methodLink RX3 155 yX0_remove, Cond.instanceMethod yX0_remove, Cond.selects RX0 yX0_remove yX0_remove, Cond.code yX0_remove cX0_remove 3 (some .int), Cond.methodLink RX3 168 yX1_clear, Cond.instanceMethod yX1_clear, Cond.selects RX1 yX1_clear yX1_clear, Cond.initialized RX1, Cond.code yX1_clear cX1_clear 1 none, Cond.fieldLink RX1 15 "ShoeTable$Hand" "size" "I", Cond.fieldLink RX1 19 "ShoeTable$Hand" "sum" "I", Cond.fieldLink RX1 22 "ShoeTable$Hand" "ace" "Z", Cond.methodLink RX3 171 yX1_add, Cond.instanceMethod yX1_add, Cond.selects RX1 yX1_add yX1_add, Cond.code yX1_add cX1_add 2 none, Cond.fieldLink RX1 9 "ShoeTable$Hand" "row" "[I", Cond.methodLink RX3 152 yX3_findBest, Cond.instanceMethod yX3_findBest, Cond.selects RX3 yX3_findBest yX3_findBest, Cond.code yX3_findBest cX3_findBest 4 none, Cond.methodLink RX3 111 yX3_isThere, Cond.instanceMethod yX3_isThere]
def wsX3_dealTotal_r3 : List Cond := [Cond.selects RX3 yX3_isThere yX3_isThere, Cond.code yX3_isThere cX3_isThere 2 (some .boolean), Cond.fieldLink RX3 82 "ShoeTable$Hand" "size" "I", Cond.fieldLink RX3 12 "ShoeTable$Odds" "rules" "LShoeTable$Rules;", Cond.fieldLink RX3 85 "ShoeTable$Hand" "sum" "I", Cond.methodLink RX3 88 yX4_isBust, Cond.instanceMethod yX4_isBust, Cond.selects RX4 yX4_isBust yX4_isBust, Cond.initialized RX4, Cond.code yX4_isBust cX4_isBust 2 (some .boolean), Cond.fieldLink RX4 9 "ShoeTable$Rules" "now" "[I", Cond.methodLink RX3 95 yX1_isFull, Cond.instanceMethod yX1_isFull, Cond.selects RX1 yX1_isFull yX1_isFull, Cond.code yX1_isFull cX1_isFull 1 (some .boolean), Cond.methodLink RX3 99 yX4_doubles, Cond.instanceMethod yX4_doubles, Cond.selects RX4 yX4_doubles yX4_doubles, Cond.code yX4_doubles cX4_doubles 1 (some .boolean), Cond.methodLink RX3 102 yX1_isPair, Cond.instanceMethod yX1_isPair, Cond.selects RX1 yX1_isPair yX1_isPair, Cond.code yX1_isPair cX1_isPair 1 (some .boolean), Cond.methodLink RX3 105 yX4_splits]
def wsX3_dealTotal_r4 : List Cond := [Cond.instanceMethod yX4_splits, Cond.selects RX4 yX4_splits yX4_splits, Cond.code yX4_splits cX4_splits 1 (some .boolean), Cond.methodLink RX3 108 yX4_gives, Cond.instanceMethod yX4_gives, Cond.selects RX4 yX4_gives yX4_gives, Cond.code yX4_gives cX4_gives 1 (some .boolean), Cond.methodLink RX3 146 yX3_actTotal, Cond.instanceMethod yX3_actTotal, Cond.selects RX3 yX3_actTotal yX3_actTotal, Cond.code yX3_actTotal cX3_actTotal 2 (some .long), Cond.fieldLink RX3 69 "ShoeTable$Odds" "playerRound" "I", Cond.fieldLink RX3 117 "ShoeTable$Hand" "ace" "Z", Cond.constantLong RX3 141 (-1), Cond.methodLink RX3 114 yX3_numberHeaps, Cond.instanceMethod yX3_numberHeaps, Cond.selects RX3 yX3_numberHeaps yX3_numberHeaps, Cond.code yX3_numberHeaps cX3_numberHeaps 3 none, Cond.fieldLink RX3 50 "ShoeTable$Odds" "step" "[I", Cond.methodLink RX3 174 yX0_count, Cond.instanceMethod yX0_count, Cond.selects RX0 yX0_count yX0_count, Cond.code yX0_count cX0_count 2 (some .int), Cond.methodLink RX3 121 yX3_standTotal]
def wsX3_dealTotal_r5 : List Cond := [Cond.instanceMethod yX3_standTotal, Cond.selects RX3 yX3_standTotal yX3_standTotal, Cond.code yX3_standTotal cX3_standTotal 8 (some .long), Cond.fieldLink RX3 46 "ShoeTable$Odds" "pay" "[J", Cond.fieldLink RX3 60 "ShoeTable$Odds" "houseRound" "I", Cond.static yX5_orders, Cond.initialized RX5, Cond.code yX5_orders cX5_orders 1 (some .long), Cond.fieldLink RX5 237 "ShoeTable" "ORDERS" "[J", Cond.methodLink RX3 177 yX4_value, Cond.instanceMethod yX4_value, Cond.selects RX4 yX4_value yX4_value, Cond.code yX4_value cX4_value 3 (some .int), Cond.methodLink RX3 181 yX4_isNatural, Cond.instanceMethod yX4_isNatural, Cond.selects RX4 yX4_isNatural yX4_isNatural, Cond.code yX4_isNatural cX4_isNatural 3 (some .boolean), Cond.methodLink RX3 185 yX4_settled, Cond.instanceMethod yX4_settled, Cond.selects RX4 yX4_settled yX4_settled, Cond.code yX4_settled cX4_settled 4 (some .int), Cond.methodLink RX3 149 yX3_houseTotal, Cond.instanceMethod yX3_houseTotal, Cond.selects RX3 yX3_houseTotal yX3_houseTotal]
def wsX3_dealTotal_r6 : List Cond := [Cond.code yX3_houseTotal cX3_houseTotal 10 (some .long), Cond.fieldLink RX3 57 "ShoeTable$Odds" "houseRounds" "[I", Cond.fieldLink RX3 54 "ShoeTable$Odds" "houseTotals" "[J", Cond.methodLink RX3 189 yX4_goesOn, Cond.instanceMethod yX4_goesOn, Cond.selects RX4 yX4_goesOn yX4_goesOn, Cond.code yX4_goesOn cX4_goesOn 3 (some .boolean), Cond.methodLink RX3 193 yX4_end, Cond.instanceMethod yX4_end, Cond.selects RX4 yX4_end yX4_end, Cond.code yX4_end cX4_end 2 (some .int), Cond.methodLink RX3 158 yX0_add, Cond.instanceMethod yX0_add, Cond.selects RX0 yX0_add yX0_add, Cond.code yX0_add cX0_add 2 none, Cond.methodLink RX3 125 yX3_playerTotal, Cond.instanceMethod yX3_playerTotal, Cond.selects RX3 yX3_playerTotal yX3_playerTotal, Cond.code yX3_playerTotal cX3_playerTotal 10 (some .long), Cond.fieldLink RX3 66 "ShoeTable$Odds" "playerRounds" "[I", Cond.fieldLink RX3 63 "ShoeTable$Odds" "playerTotals" "[J", Cond.methodLink RX3 196 Lib.MathLoose.max_long.x, Cond.static Lib.MathLoose.max_long.x, Cond.initialized "java/lang/Math"]
def wsX3_dealTotal_r7 : List Cond := [Cond.code Lib.MathLoose.max_long.x Lib.MathLoose.max_long.code 4 (some .long), Cond.methodLink RX3 129 yX3_doubleTotal, Cond.instanceMethod yX3_doubleTotal, Cond.selects RX3 yX3_doubleTotal yX3_doubleTotal, Cond.code yX3_doubleTotal cX3_doubleTotal 5 (some .long), Cond.methodLink RX3 133 yX1_card, Cond.instanceMethod yX1_card, Cond.selects RX1 yX1_card yX1_card, Cond.code yX1_card cX1_card 2 (some .int), Cond.methodLink RX3 137 yX3_splitTotal, Cond.instanceMethod yX3_splitTotal, Cond.selects RX3 yX3_splitTotal yX3_splitTotal, Cond.code yX3_splitTotal cX3_splitTotal 9 (some .long), Cond.methodLink RX3 202 yX3_bothTotal, Cond.instanceMethod yX3_bothTotal, Cond.selects RX3 yX3_bothTotal yX3_bothTotal, Cond.code yX3_bothTotal cX3_bothTotal 7 (some .long)]
def wsX3_dealTotal : List Cond := .code yX3_dealTotal cX3_dealTotal 8 (some .long) :: ((wsX3_dealTotal_r1 ++ (wsX3_dealTotal_r2 ++ (wsX3_dealTotal_r3 ++ (wsX3_dealTotal_r4 ++ (wsX3_dealTotal_r5 ++ (wsX3_dealTotal_r6 ++ wsX3_dealTotal_r7)))))) ++ wsX30 ++ wsX00 ++ wsX10 ++ wsX40)
def wsX4_allows : List Cond := .code yX4_allows cX4_allows 3 (some .boolean) :: ([.fieldLink RX4 15 "ShoeTable$Rules" "LEAST" "[I", .fieldLink RX4 18 "ShoeTable$Rules" "MOST" "[I", .fieldLink RX4 9 "ShoeTable$Rules" "now" "[I"] ++ wsX40)
def wsX4_change : List Cond := .code yX4_change cX4_change 4 (some .int) :: ([.fieldLink RX4 9 "ShoeTable$Rules" "now" "[I", .methodLink RX4 21 yX4_allows, .instanceMethod yX4_allows, .selects RX4 yX4_allows yX4_allows, .initialized RX4, .code yX4_allows cX4_allows 3 (some .boolean), .fieldLink RX4 15 "ShoeTable$Rules" "LEAST" "[I", .fieldLink RX4 18 "ShoeTable$Rules" "MOST" "[I"] ++ wsX40)
def wsX4_isSoft : List Cond := .code yX4_isSoft cX4_isSoft 3 (some .boolean) :: ([.fieldLink RX4 9 "ShoeTable$Rules" "now" "[I"] ++ wsX40)
def wsX5_init_r1 : List Cond := [Cond.methodLink RX5 1 objectInit, Cond.instanceMethod objectInit, Cond.code objectInit ⟨#[0xb1]⟩ 1 none, Cond.classLink RX5 7 RX4, Cond.instantiable RX4 1, Cond.initialized RX4, Cond.fieldLink RX5 10 "ShoeTable" "rules" "LShoeTable$Rules;", Cond.classLink RX5 16 RX0, Cond.instantiable RX0 2, Cond.initialized RX0, Cond.fieldLink RX5 19 "ShoeTable" "cards" "LShoeTable$Cards;", Cond.fieldLink RX5 23 "ShoeTable" "gone" "LShoeTable$Cards;", Cond.fieldLink RX5 26 "ShoeTable" "atFresh" "LShoeTable$Cards;", Cond.classLink RX5 29 RX1, Cond.instantiable RX1 4, Cond.initialized RX1, Cond.fieldLink RX5 32 "ShoeTable" "hand" "LShoeTable$Hand;", Cond.arrayClass .int, Cond.fieldLink RX5 36 "ShoeTable" "marks" "[I", Cond.classLink RX5 40 RX3, Cond.instantiable RX3 15, Cond.initialized RX3, Cond.fieldLink RX5 43 "ShoeTable" "odds" "LShoeTable$Odds;", Cond.classLink RX5 47 RX2]
def wsX5_init_r2 : List Cond := [Cond.instantiable RX2 1, Cond.initialized RX2, Cond.fieldLink RX5 50 "ShoeTable" "heaps" "LShoeTable$Heaps;", Cond.fieldLink RX5 54 "ShoeTable" "up" "I", Cond.fieldLink RX5 58 "ShoeTable" "bank" "I", Cond.fieldLink RX5 61 "ShoeTable" "chain" "J", Cond.fieldLink RX5 65 "ShoeTable" "shoeTold" "Z", Cond.instanceMethod yX4_init, Cond.code yX4_init cX4_init 1 none, Cond.methodLink RX4 3 objectInit, Cond.fieldLink RX4 9 "ShoeTable$Rules" "now" "[I", Cond.instanceMethod yX0_init, Cond.code yX0_init cX0_init 1 none, Cond.methodLink RX0 3 objectInit, Cond.fieldLink RX0 9 "ShoeTable$Cards" "counts" "[I", Cond.fieldLink RX0 15 "ShoeTable$Cards" "total" "I", Cond.instanceMethod yX1_init, Cond.code yX1_init cX1_init 1 none, Cond.methodLink RX1 3 objectInit, Cond.fieldLink RX1 9 "ShoeTable$Hand" "row" "[I", Cond.fieldLink RX1 15 "ShoeTable$Hand" "size" "I", Cond.fieldLink RX1 19 "ShoeTable$Hand" "sum" "I", Cond.fieldLink RX1 22 "ShoeTable$Hand" "ace" "Z", Cond.instanceMethod yX3_init]
def wsX5_init_r3 : List Cond := [Cond.code yX3_init cX3_init 1 none, Cond.methodLink RX3 3 objectInit, Cond.classLink RX3 9 RX4, Cond.fieldLink RX3 12 "ShoeTable$Odds" "rules" "LShoeTable$Rules;", Cond.classLink RX3 18 RX0, Cond.fieldLink RX3 21 "ShoeTable$Odds" "shoe" "LShoeTable$Cards;", Cond.fieldLink RX3 25 "ShoeTable$Odds" "whole" "LShoeTable$Cards;", Cond.classLink RX3 28 RX1, Cond.fieldLink RX3 31 "ShoeTable$Odds" "hand" "LShoeTable$Hand;", Cond.fieldLink RX3 35 "ShoeTable$Odds" "up" "I", Cond.fieldLink RX3 39 "ShoeTable$Odds" "bestAct" "I", Cond.fieldLink RX3 42 "ShoeTable$Odds" "bestTotal" "J", Cond.arrayClass .long, Cond.fieldLink RX3 46 "ShoeTable$Odds" "pay" "[J", Cond.fieldLink RX3 50 "ShoeTable$Odds" "step" "[I", Cond.fieldLink RX3 54 "ShoeTable$Odds" "houseTotals" "[J", Cond.fieldLink RX3 57 "ShoeTable$Odds" "houseRounds" "[I", Cond.fieldLink RX3 60 "ShoeTable$Odds" "houseRound" "I", Cond.fieldLink RX3 63 "ShoeTable$Odds" "playerTotals" "[J", Cond.fieldLink RX3 66 "ShoeTable$Odds" "playerRounds" "[I", Cond.fieldLink RX3 69 "ShoeTable$Odds" "playerRound" "I", Cond.instanceMethod yX2_init, Cond.code yX2_init cX2_init 1 none, Cond.methodLink RX2 5 objectInit]
def wsX5_init_r4 : List Cond := [Cond.classLink RX2 11 "[[J", Cond.fieldLink RX2 13 "ShoeTable$Heaps" "ways" "[[J"]
def wsX5_init : List Cond := .code yX5_init cX5_init 1 none :: ((wsX5_init_r1 ++ (wsX5_init_r2 ++ (wsX5_init_r3 ++ wsX5_init_r4))) ++ wsX40 ++ wsX50 ++ wsX00 ++ wsX10 ++ wsX30 ++ wsX20)
def wsX5_isRank : List Cond := .code yX5_isRank cX5_isRank 1 (some .boolean) :: ([])
def wsX5_shoe : List Cond := .code yX5_shoe cX5_shoe 4 (some .int) :: ([.fieldLink RX5 19 "ShoeTable" "cards" "LShoeTable$Cards;", .fieldLink RX5 65 "ShoeTable" "shoeTold" "Z", .methodLink RX5 69 yX5_isRank, .static yX5_isRank, .initialized RX5, .code yX5_isRank cX5_isRank 1 (some .boolean), .methodLink RX5 73 yX0_count, .instanceMethod yX0_count, .selects RX0 yX0_count yX0_count, .initialized RX0, .code yX0_count cX0_count 2 (some .int), .fieldLink RX0 9 "ShoeTable$Cards" "counts" "[I", .methodLink RX5 77 yX0_put, .instanceMethod yX0_put, .selects RX0 yX0_put yX0_put, .code yX0_put cX0_put 3 none, .fieldLink RX0 15 "ShoeTable$Cards" "total" "I"] ++ wsX50 ++ wsX00)
def wsX5_clearTable : List Cond := .code yX5_clearTable cX5_clearTable 1 none :: ([.fieldLink RX5 32 "ShoeTable" "hand" "LShoeTable$Hand;", .fieldLink RX5 54 "ShoeTable" "up" "I", .methodLink RX5 218 yX1_clear, .instanceMethod yX1_clear, .selects RX1 yX1_clear yX1_clear, .initialized RX1, .code yX1_clear cX1_clear 1 none, .fieldLink RX1 15 "ShoeTable$Hand" "size" "I", .fieldLink RX1 19 "ShoeTable$Hand" "sum" "I", .fieldLink RX1 22 "ShoeTable$Hand" "ace" "Z"] ++ wsX50 ++ wsX10)
def wsX5_fresh_r1 : List Cond := [Cond.fieldLink RX5 23 "ShoeTable" "gone" "LShoeTable$Cards;", Cond.fieldLink RX5 26 "ShoeTable" "atFresh" "LShoeTable$Cards;", Cond.fieldLink RX5 19 "ShoeTable" "cards" "LShoeTable$Cards;", Cond.fieldLink RX5 65 "ShoeTable" "shoeTold" "Z", Cond.fieldLink RX5 91 "ShoeTable$Cards" "total" "I", Cond.methodLink RX5 81 yX0_clear, Cond.instanceMethod yX0_clear, Cond.selects RX0 yX0_clear yX0_clear, Cond.initialized RX0, Cond.code yX0_clear cX0_clear 1 none, Cond.fieldLink RX0 9 "ShoeTable$Cards" "counts" "[I", Cond.fieldLink RX0 15 "ShoeTable$Cards" "total" "I", Cond.methodLink RX0 19 yJ7_fill_53178, Cond.static yJ7_fill_53178, Cond.initialized RJ7, Cond.code yJ7_fill_53178 cJ7_fill_53178 4 none, Cond.methodLink RX5 84 yX0_copy, Cond.instanceMethod yX0_copy, Cond.selects RX0 yX0_copy yX0_copy, Cond.code yX0_copy cX0_copy 2 none, Cond.methodLink RX0 25 arraycopyName, Cond.native arraycopyName, Cond.static arraycopyName, Cond.initialized "java/lang/System"]
def wsX5_fresh_r2 : List Cond := [Cond.methodLink RX5 88 yX5_clearTable, Cond.instanceMethod yX5_clearTable, Cond.selects RX5 yX5_clearTable yX5_clearTable, Cond.initialized RX5, Cond.code yX5_clearTable cX5_clearTable 1 none, Cond.fieldLink RX5 32 "ShoeTable" "hand" "LShoeTable$Hand;", Cond.fieldLink RX5 54 "ShoeTable" "up" "I", Cond.methodLink RX5 218 yX1_clear, Cond.instanceMethod yX1_clear, Cond.selects RX1 yX1_clear yX1_clear, Cond.initialized RX1, Cond.code yX1_clear cX1_clear 1 none, Cond.fieldLink RX1 15 "ShoeTable$Hand" "size" "I", Cond.fieldLink RX1 19 "ShoeTable$Hand" "sum" "I", Cond.fieldLink RX1 22 "ShoeTable$Hand" "ace" "Z"]
def wsX5_fresh : List Cond := .code yX5_fresh cX5_fresh 1 (some .int) :: ((wsX5_fresh_r1 ++ wsX5_fresh_r2) ++ wsX50 ++ wsX00 ++ wsX10)
def wsX5_rule : List Cond := .code yX5_rule cX5_rule 3 (some .int) :: ([.fieldLink RX5 10 "ShoeTable" "rules" "LShoeTable$Rules;", .methodLink RX5 94 yX4_change, .instanceMethod yX4_change, .selects RX4 yX4_change yX4_change, .initialized RX4, .code yX4_change cX4_change 4 (some .int), .fieldLink RX4 9 "ShoeTable$Rules" "now" "[I", .methodLink RX4 21 yX4_allows, .instanceMethod yX4_allows, .selects RX4 yX4_allows yX4_allows, .code yX4_allows cX4_allows 3 (some .boolean), .fieldLink RX4 15 "ShoeTable$Rules" "LEAST" "[I", .fieldLink RX4 18 "ShoeTable$Rules" "MOST" "[I"] ++ wsX50 ++ wsX40)
def wsX5_mark : List Cond := .code yX5_mark cX5_mark 4 (some .int) :: ([.fieldLink RX5 36 "ShoeTable" "marks" "[I", .methodLink RX5 69 yX5_isRank, .static yX5_isRank, .initialized RX5, .code yX5_isRank cX5_isRank 1 (some .boolean)] ++ wsX50)
def wsX5_left : List Cond := .code yX5_left cX5_left 2 (some .int) :: ([.fieldLink RX5 19 "ShoeTable" "cards" "LShoeTable$Cards;", .fieldLink RX5 91 "ShoeTable$Cards" "total" "I", .methodLink RX5 69 yX5_isRank, .static yX5_isRank, .initialized RX5, .code yX5_isRank cX5_isRank 1 (some .boolean), .methodLink RX5 73 yX0_count, .instanceMethod yX0_count, .selects RX0 yX0_count yX0_count, .initialized RX0, .code yX0_count cX0_count 2 (some .int), .fieldLink RX0 9 "ShoeTable$Cards" "counts" "[I"] ++ wsX50 ++ wsX00)
def wsX5_isGoal : List Cond := .code yX5_isGoal cX5_isGoal 1 (some .boolean) :: ([])
def wsX5_moveOut : List Cond := .code yX5_moveOut cX5_moveOut 2 none :: ([.fieldLink RX5 19 "ShoeTable" "cards" "LShoeTable$Cards;", .fieldLink RX5 23 "ShoeTable" "gone" "LShoeTable$Cards;", .methodLink RX5 208 yX0_remove, .instanceMethod yX0_remove, .selects RX0 yX0_remove yX0_remove, .initialized RX0, .code yX0_remove cX0_remove 3 (some .int), .fieldLink RX0 9 "ShoeTable$Cards" "counts" "[I", .fieldLink RX0 15 "ShoeTable$Cards" "total" "I", .methodLink RX5 211 yX0_add, .instanceMethod yX0_add, .selects RX0 yX0_add yX0_add, .code yX0_add cX0_add 2 none] ++ wsX50 ++ wsX00)
def wsX5_bring : List Cond := .code yX5_bring cX5_bring 3 none :: ([.fieldLink RX5 32 "ShoeTable" "hand" "LShoeTable$Hand;", .fieldLink RX5 54 "ShoeTable" "up" "I", .methodLink RX5 219 yX1_add, .instanceMethod yX1_add, .selects RX1 yX1_add yX1_add, .initialized RX1, .code yX1_add cX1_add 2 none, .fieldLink RX1 15 "ShoeTable$Hand" "size" "I", .fieldLink RX1 9 "ShoeTable$Hand" "row" "[I", .fieldLink RX1 19 "ShoeTable$Hand" "sum" "I", .fieldLink RX1 22 "ShoeTable$Hand" "ace" "Z"] ++ wsX50 ++ wsX10)
def wsX5_take_r1 : List Cond := [Cond.fieldLink RX5 19 "ShoeTable" "cards" "LShoeTable$Cards;", Cond.fieldLink RX5 32 "ShoeTable" "hand" "LShoeTable$Hand;", Cond.fieldLink RX5 112 "ShoeTable$Hand" "size" "I", Cond.methodLink RX5 69 yX5_isRank, Cond.static yX5_isRank, Cond.initialized RX5, Cond.code yX5_isRank cX5_isRank 1 (some .boolean), Cond.methodLink RX5 98 yX5_isGoal, Cond.static yX5_isGoal, Cond.code yX5_isGoal cX5_isGoal 1 (some .boolean), Cond.methodLink RX5 73 yX0_count, Cond.instanceMethod yX0_count, Cond.selects RX0 yX0_count yX0_count, Cond.initialized RX0, Cond.code yX0_count cX0_count 2 (some .int), Cond.fieldLink RX0 9 "ShoeTable$Cards" "counts" "[I", Cond.methodLink RX5 101 yX1_isFull, Cond.instanceMethod yX1_isFull, Cond.selects RX1 yX1_isFull yX1_isFull, Cond.initialized RX1, Cond.code yX1_isFull cX1_isFull 1 (some .boolean), Cond.fieldLink RX1 15 "ShoeTable$Hand" "size" "I", Cond.methodLink RX5 105 yX5_moveOut, Cond.instanceMethod yX5_moveOut]
def wsX5_take_r2 : List Cond := [Cond.selects RX5 yX5_moveOut yX5_moveOut, Cond.code yX5_moveOut cX5_moveOut 2 none, Cond.fieldLink RX5 23 "ShoeTable" "gone" "LShoeTable$Cards;", Cond.methodLink RX5 208 yX0_remove, Cond.instanceMethod yX0_remove, Cond.selects RX0 yX0_remove yX0_remove, Cond.code yX0_remove cX0_remove 3 (some .int), Cond.fieldLink RX0 15 "ShoeTable$Cards" "total" "I", Cond.methodLink RX5 211 yX0_add, Cond.instanceMethod yX0_add, Cond.selects RX0 yX0_add yX0_add, Cond.code yX0_add cX0_add 2 none, Cond.methodLink RX5 109 yX5_bring, Cond.instanceMethod yX5_bring, Cond.selects RX5 yX5_bring yX5_bring, Cond.code yX5_bring cX5_bring 3 none, Cond.fieldLink RX5 54 "ShoeTable" "up" "I", Cond.methodLink RX5 219 yX1_add, Cond.instanceMethod yX1_add, Cond.selects RX1 yX1_add yX1_add, Cond.code yX1_add cX1_add 2 none, Cond.fieldLink RX1 9 "ShoeTable$Hand" "row" "[I", Cond.fieldLink RX1 19 "ShoeTable$Hand" "sum" "I", Cond.fieldLink RX1 22 "ShoeTable$Hand" "ace" "Z"]
def wsX5_take : List Cond := .code yX5_take cX5_take 3 (some .int) :: ((wsX5_take_r1 ++ wsX5_take_r2) ++ wsX50 ++ wsX10 ++ wsX00)
def wsX5_drawnRank_r1 : List Cond := [Cond.fieldLink RX5 19 "ShoeTable" "cards" "LShoeTable$Cards;", Cond.fieldLink RX5 91 "ShoeTable$Cards" "total" "I", Cond.fieldLink RX5 61 "ShoeTable" "chain" "J", Cond.constantLong RX5 220 (6364136223846793005), Cond.constantLong RX5 222 (1442695040888963407), Cond.methodLink RX5 224 yX0_rankAt, Cond.instanceMethod yX0_rankAt, Cond.selects RX0 yX0_rankAt yX0_rankAt, Cond.initialized RX0, Cond.code yX0_rankAt cX0_rankAt 4 (some .int), Cond.fieldLink RX0 9 "ShoeTable$Cards" "counts" "[I", Cond.methodLink RX5 105 yX5_moveOut, Cond.instanceMethod yX5_moveOut, Cond.selects RX5 yX5_moveOut yX5_moveOut, Cond.initialized RX5, Cond.code yX5_moveOut cX5_moveOut 2 none, Cond.fieldLink RX5 23 "ShoeTable" "gone" "LShoeTable$Cards;", Cond.methodLink RX5 208 yX0_remove, Cond.instanceMethod yX0_remove, Cond.selects RX0 yX0_remove yX0_remove, Cond.code yX0_remove cX0_remove 3 (some .int), Cond.fieldLink RX0 15 "ShoeTable$Cards" "total" "I", Cond.methodLink RX5 211 yX0_add, Cond.instanceMethod yX0_add]
def wsX5_drawnRank_r2 : List Cond := [Cond.selects RX0 yX0_add yX0_add, Cond.code yX0_add cX0_add 2 none]
def wsX5_drawnRank : List Cond := .code yX5_drawnRank cX5_drawnRank 2 (some .int) :: ((wsX5_drawnRank_r1 ++ wsX5_drawnRank_r2) ++ wsX50 ++ wsX00)
def wsX5_draw_r1 : List Cond := [Cond.fieldLink RX5 19 "ShoeTable" "cards" "LShoeTable$Cards;", Cond.fieldLink RX5 91 "ShoeTable$Cards" "total" "I", Cond.fieldLink RX5 32 "ShoeTable" "hand" "LShoeTable$Hand;", Cond.methodLink RX5 98 yX5_isGoal, Cond.static yX5_isGoal, Cond.initialized RX5, Cond.code yX5_isGoal cX5_isGoal 1 (some .boolean), Cond.methodLink RX5 101 yX1_isFull, Cond.instanceMethod yX1_isFull, Cond.selects RX1 yX1_isFull yX1_isFull, Cond.initialized RX1, Cond.code yX1_isFull cX1_isFull 1 (some .boolean), Cond.fieldLink RX1 15 "ShoeTable$Hand" "size" "I", Cond.methodLink RX5 115 yX5_drawnRank, Cond.instanceMethod yX5_drawnRank, Cond.selects RX5 yX5_drawnRank yX5_drawnRank, Cond.code yX5_drawnRank cX5_drawnRank 2 (some .int), Cond.fieldLink RX5 61 "ShoeTable" "chain" "J", Cond.constantLong RX5 220 (6364136223846793005), Cond.constantLong RX5 222 (1442695040888963407), Cond.methodLink RX5 224 yX0_rankAt, Cond.instanceMethod yX0_rankAt, Cond.selects RX0 yX0_rankAt yX0_rankAt, Cond.initialized RX0]
def wsX5_draw_r2 : List Cond := [Cond.code yX0_rankAt cX0_rankAt 4 (some .int), Cond.fieldLink RX0 9 "ShoeTable$Cards" "counts" "[I", Cond.methodLink RX5 105 yX5_moveOut, Cond.instanceMethod yX5_moveOut, Cond.selects RX5 yX5_moveOut yX5_moveOut, Cond.code yX5_moveOut cX5_moveOut 2 none, Cond.fieldLink RX5 23 "ShoeTable" "gone" "LShoeTable$Cards;", Cond.methodLink RX5 208 yX0_remove, Cond.instanceMethod yX0_remove, Cond.selects RX0 yX0_remove yX0_remove, Cond.code yX0_remove cX0_remove 3 (some .int), Cond.fieldLink RX0 15 "ShoeTable$Cards" "total" "I", Cond.methodLink RX5 211 yX0_add, Cond.instanceMethod yX0_add, Cond.selects RX0 yX0_add yX0_add, Cond.code yX0_add cX0_add 2 none, Cond.methodLink RX5 109 yX5_bring, Cond.instanceMethod yX5_bring, Cond.selects RX5 yX5_bring yX5_bring, Cond.code yX5_bring cX5_bring 3 none, Cond.fieldLink RX5 54 "ShoeTable" "up" "I", Cond.methodLink RX5 219 yX1_add, Cond.instanceMethod yX1_add, Cond.selects RX1 yX1_add yX1_add]
def wsX5_draw_r3 : List Cond := [Cond.code yX1_add cX1_add 2 none, Cond.fieldLink RX1 9 "ShoeTable$Hand" "row" "[I", Cond.fieldLink RX1 19 "ShoeTable$Hand" "sum" "I", Cond.fieldLink RX1 22 "ShoeTable$Hand" "ace" "Z"]
def wsX5_draw : List Cond := .code yX5_draw cX5_draw 3 (some .int) :: ((wsX5_draw_r1 ++ (wsX5_draw_r2 ++ wsX5_draw_r3)) ++ wsX50 ++ wsX00 ++ wsX10)
def wsX5_seed : List Cond := .code yX5_seed cX5_seed 2 (some .int) :: ([.fieldLink RX5 61 "ShoeTable" "chain" "J"] ++ wsX50)
def wsX5_lay : List Cond := .code yX5_lay cX5_lay 2 (some .int) :: ([.fieldLink RX5 32 "ShoeTable" "hand" "LShoeTable$Hand;", .fieldLink RX5 112 "ShoeTable$Hand" "size" "I", .fieldLink RX5 54 "ShoeTable" "up" "I", .methodLink RX5 88 yX5_clearTable, .instanceMethod yX5_clearTable, .selects RX5 yX5_clearTable yX5_clearTable, .initialized RX5, .code yX5_clearTable cX5_clearTable 1 none, .methodLink RX5 218 yX1_clear, .instanceMethod yX1_clear, .selects RX1 yX1_clear yX1_clear, .initialized RX1, .code yX1_clear cX1_clear 1 none, .fieldLink RX1 15 "ShoeTable$Hand" "size" "I", .fieldLink RX1 19 "ShoeTable$Hand" "sum" "I", .fieldLink RX1 22 "ShoeTable$Hand" "ace" "Z"] ++ wsX50 ++ wsX10)
def wsX5_handValue : List Cond := .code yX5_handValue cX5_handValue 1 (some .int) :: ([.fieldLink RX5 10 "ShoeTable" "rules" "LShoeTable$Rules;", .fieldLink RX5 32 "ShoeTable" "hand" "LShoeTable$Hand;", .fieldLink RX5 122 "ShoeTable$Hand" "sum" "I", .fieldLink RX5 125 "ShoeTable$Hand" "ace" "Z", .methodLink RX5 214 yX4_value, .instanceMethod yX4_value, .selects RX4 yX4_value yX4_value, .initialized RX4, .code yX4_value cX4_value 3 (some .int), .fieldLink RX4 9 "ShoeTable$Rules" "now" "[I"] ++ wsX50 ++ wsX10 ++ wsX40)
def wsX5_asNumber : List Cond := .code yX5_asNumber cX5_asNumber 1 (some .int) :: ([])
def wsX5_countOfGone : List Cond := .code yX5_countOfGone cX5_countOfGone 3 (some .int) :: ([.fieldLink RX5 36 "ShoeTable" "marks" "[I", .fieldLink RX5 23 "ShoeTable" "gone" "LShoeTable$Cards;", .methodLink RX5 73 yX0_count, .instanceMethod yX0_count, .selects RX0 yX0_count yX0_count, .initialized RX0, .code yX0_count cX0_count 2 (some .int), .fieldLink RX0 9 "ShoeTable$Cards" "counts" "[I"] ++ wsX50 ++ wsX00)
def wsX5_told_r1 : List Cond := [Cond.fieldLink RX5 32 "ShoeTable" "hand" "LShoeTable$Hand;", Cond.fieldLink RX5 112 "ShoeTable$Hand" "size" "I", Cond.fieldLink RX5 10 "ShoeTable" "rules" "LShoeTable$Rules;", Cond.fieldLink RX5 122 "ShoeTable$Hand" "sum" "I", Cond.fieldLink RX5 125 "ShoeTable$Hand" "ace" "Z", Cond.fieldLink RX5 54 "ShoeTable" "up" "I", Cond.fieldLink RX5 58 "ShoeTable" "bank" "I", Cond.fieldLink RX5 23 "ShoeTable" "gone" "LShoeTable$Cards;", Cond.fieldLink RX5 91 "ShoeTable$Cards" "total" "I", Cond.methodLink RX5 119 yX5_handValue, Cond.instanceMethod yX5_handValue, Cond.selects RX5 yX5_handValue yX5_handValue, Cond.initialized RX5, Cond.code yX5_handValue cX5_handValue 1 (some .int), Cond.methodLink RX5 214 yX4_value, Cond.instanceMethod yX4_value, Cond.selects RX4 yX4_value yX4_value, Cond.initialized RX4, Cond.code yX4_value cX4_value 3 (some .int), Cond.fieldLink RX4 9 "ShoeTable$Rules" "now" "[I", Cond.methodLink RX5 128 yX4_isSoft, Cond.instanceMethod yX4_isSoft, Cond.selects RX4 yX4_isSoft yX4_isSoft, Cond.code yX4_isSoft cX4_isSoft 3 (some .boolean)]
def wsX5_told_r2 : List Cond := [Cond.methodLink RX5 132 yX5_asNumber, Cond.static yX5_asNumber, Cond.code yX5_asNumber cX5_asNumber 1 (some .int), Cond.methodLink RX5 136 yX4_isNatural, Cond.instanceMethod yX4_isNatural, Cond.selects RX4 yX4_isNatural yX4_isNatural, Cond.code yX4_isNatural cX4_isNatural 3 (some .boolean), Cond.methodLink RX5 140 yX4_isBust, Cond.instanceMethod yX4_isBust, Cond.selects RX4 yX4_isBust yX4_isBust, Cond.code yX4_isBust cX4_isBust 2 (some .boolean), Cond.methodLink RX5 143 yX5_countOfGone, Cond.instanceMethod yX5_countOfGone, Cond.selects RX5 yX5_countOfGone yX5_countOfGone, Cond.code yX5_countOfGone cX5_countOfGone 3 (some .int), Cond.fieldLink RX5 36 "ShoeTable" "marks" "[I", Cond.methodLink RX5 73 yX0_count, Cond.instanceMethod yX0_count, Cond.selects RX0 yX0_count yX0_count, Cond.initialized RX0, Cond.code yX0_count cX0_count 2 (some .int), Cond.fieldLink RX0 9 "ShoeTable$Cards" "counts" "[I", Cond.methodLink RX5 146 yX1_card, Cond.instanceMethod yX1_card]
def wsX5_told_r3 : List Cond := [Cond.selects RX1 yX1_card yX1_card, Cond.initialized RX1, Cond.code yX1_card cX1_card 2 (some .int), Cond.fieldLink RX1 15 "ShoeTable$Hand" "size" "I", Cond.fieldLink RX1 9 "ShoeTable$Hand" "row" "[I"]
def wsX5_told : List Cond := .code yX5_told cX5_told 2 (some .int) :: ((wsX5_told_r1 ++ (wsX5_told_r2 ++ wsX5_told_r3)) ++ wsX50 ++ wsX10 ++ wsX00 ++ wsX40)
def wsX5_playHouse_r1 : List Cond := [Cond.fieldLink RX5 54 "ShoeTable" "up" "I", Cond.fieldLink RX5 10 "ShoeTable" "rules" "LShoeTable$Rules;", Cond.fieldLink RX5 19 "ShoeTable" "cards" "LShoeTable$Cards;", Cond.fieldLink RX5 91 "ShoeTable$Cards" "total" "I", Cond.methodLink RX5 214 yX4_value, Cond.instanceMethod yX4_value, Cond.selects RX4 yX4_value yX4_value, Cond.initialized RX4, Cond.code yX4_value cX4_value 3 (some .int), Cond.fieldLink RX4 9 "ShoeTable$Rules" "now" "[I", Cond.methodLink RX5 227 yX4_goesOn, Cond.instanceMethod yX4_goesOn, Cond.selects RX4 yX4_goesOn yX4_goesOn, Cond.code yX4_goesOn cX4_goesOn 3 (some .boolean), Cond.methodLink RX5 115 yX5_drawnRank, Cond.instanceMethod yX5_drawnRank, Cond.selects RX5 yX5_drawnRank yX5_drawnRank, Cond.initialized RX5, Cond.code yX5_drawnRank cX5_drawnRank 2 (some .int), Cond.fieldLink RX5 61 "ShoeTable" "chain" "J", Cond.constantLong RX5 220 (6364136223846793005), Cond.constantLong RX5 222 (1442695040888963407), Cond.methodLink RX5 224 yX0_rankAt, Cond.instanceMethod yX0_rankAt]
def wsX5_playHouse_r2 : List Cond := [Cond.selects RX0 yX0_rankAt yX0_rankAt, Cond.initialized RX0, Cond.code yX0_rankAt cX0_rankAt 4 (some .int), Cond.fieldLink RX0 9 "ShoeTable$Cards" "counts" "[I", Cond.methodLink RX5 105 yX5_moveOut, Cond.instanceMethod yX5_moveOut, Cond.selects RX5 yX5_moveOut yX5_moveOut, Cond.code yX5_moveOut cX5_moveOut 2 none, Cond.fieldLink RX5 23 "ShoeTable" "gone" "LShoeTable$Cards;", Cond.methodLink RX5 208 yX0_remove, Cond.instanceMethod yX0_remove, Cond.selects RX0 yX0_remove yX0_remove, Cond.code yX0_remove cX0_remove 3 (some .int), Cond.fieldLink RX0 15 "ShoeTable$Cards" "total" "I", Cond.methodLink RX5 211 yX0_add, Cond.instanceMethod yX0_add, Cond.selects RX0 yX0_add yX0_add, Cond.code yX0_add cX0_add 2 none, Cond.methodLink RX5 230 yX4_end, Cond.instanceMethod yX4_end, Cond.selects RX4 yX4_end yX4_end, Cond.code yX4_end cX4_end 2 (some .int)]
def wsX5_playHouse : List Cond := .code yX5_playHouse cX5_playHouse 6 (some .int) :: ((wsX5_playHouse_r1 ++ wsX5_playHouse_r2) ++ wsX50 ++ wsX00 ++ wsX40)
def wsX5_settle_r1 : List Cond := [Cond.fieldLink RX5 32 "ShoeTable" "hand" "LShoeTable$Hand;", Cond.fieldLink RX5 112 "ShoeTable$Hand" "size" "I", Cond.fieldLink RX5 54 "ShoeTable" "up" "I", Cond.fieldLink RX5 10 "ShoeTable" "rules" "LShoeTable$Rules;", Cond.fieldLink RX5 122 "ShoeTable$Hand" "sum" "I", Cond.fieldLink RX5 58 "ShoeTable" "bank" "I", Cond.methodLink RX5 140 yX4_isBust, Cond.instanceMethod yX4_isBust, Cond.selects RX4 yX4_isBust yX4_isBust, Cond.initialized RX4, Cond.code yX4_isBust cX4_isBust 2 (some .boolean), Cond.fieldLink RX4 9 "ShoeTable$Rules" "now" "[I", Cond.methodLink RX5 149 yX5_playHouse, Cond.instanceMethod yX5_playHouse, Cond.selects RX5 yX5_playHouse yX5_playHouse, Cond.initialized RX5, Cond.code yX5_playHouse cX5_playHouse 6 (some .int), Cond.fieldLink RX5 19 "ShoeTable" "cards" "LShoeTable$Cards;", Cond.fieldLink RX5 91 "ShoeTable$Cards" "total" "I", Cond.methodLink RX5 214 yX4_value, Cond.instanceMethod yX4_value, Cond.selects RX4 yX4_value yX4_value, Cond.code yX4_value cX4_value 3 (some .int), Cond.methodLink RX5 227 yX4_goesOn]
def wsX5_settle_r2 : List Cond := [Cond.instanceMethod yX4_goesOn, Cond.selects RX4 yX4_goesOn yX4_goesOn, Cond.code yX4_goesOn cX4_goesOn 3 (some .boolean), Cond.methodLink RX5 115 yX5_drawnRank, Cond.instanceMethod yX5_drawnRank, Cond.selects RX5 yX5_drawnRank yX5_drawnRank, Cond.code yX5_drawnRank cX5_drawnRank 2 (some .int), Cond.fieldLink RX5 61 "ShoeTable" "chain" "J", Cond.constantLong RX5 220 (6364136223846793005), Cond.constantLong RX5 222 (1442695040888963407), Cond.methodLink RX5 224 yX0_rankAt, Cond.instanceMethod yX0_rankAt, Cond.selects RX0 yX0_rankAt yX0_rankAt, Cond.initialized RX0, Cond.code yX0_rankAt cX0_rankAt 4 (some .int), Cond.fieldLink RX0 9 "ShoeTable$Cards" "counts" "[I", Cond.methodLink RX5 105 yX5_moveOut, Cond.instanceMethod yX5_moveOut, Cond.selects RX5 yX5_moveOut yX5_moveOut, Cond.code yX5_moveOut cX5_moveOut 2 none, Cond.fieldLink RX5 23 "ShoeTable" "gone" "LShoeTable$Cards;", Cond.methodLink RX5 208 yX0_remove, Cond.instanceMethod yX0_remove, Cond.selects RX0 yX0_remove yX0_remove]
def wsX5_settle_r3 : List Cond := [Cond.code yX0_remove cX0_remove 3 (some .int), Cond.fieldLink RX0 15 "ShoeTable$Cards" "total" "I", Cond.methodLink RX5 211 yX0_add, Cond.instanceMethod yX0_add, Cond.selects RX0 yX0_add yX0_add, Cond.code yX0_add cX0_add 2 none, Cond.methodLink RX5 230 yX4_end, Cond.instanceMethod yX4_end, Cond.selects RX4 yX4_end yX4_end, Cond.code yX4_end cX4_end 2 (some .int), Cond.methodLink RX5 119 yX5_handValue, Cond.instanceMethod yX5_handValue, Cond.selects RX5 yX5_handValue yX5_handValue, Cond.code yX5_handValue cX5_handValue 1 (some .int), Cond.fieldLink RX5 125 "ShoeTable$Hand" "ace" "Z", Cond.methodLink RX5 136 yX4_isNatural, Cond.instanceMethod yX4_isNatural, Cond.selects RX4 yX4_isNatural yX4_isNatural, Cond.code yX4_isNatural cX4_isNatural 3 (some .boolean), Cond.methodLink RX5 152 yX4_settled, Cond.instanceMethod yX4_settled, Cond.selects RX4 yX4_settled yX4_settled, Cond.code yX4_settled cX4_settled 4 (some .int), Cond.methodLink RX5 88 yX5_clearTable]
def wsX5_settle_r4 : List Cond := [Cond.instanceMethod yX5_clearTable, Cond.selects RX5 yX5_clearTable yX5_clearTable, Cond.code yX5_clearTable cX5_clearTable 1 none, Cond.methodLink RX5 218 yX1_clear, Cond.instanceMethod yX1_clear, Cond.selects RX1 yX1_clear yX1_clear, Cond.initialized RX1, Cond.code yX1_clear cX1_clear 1 none, Cond.fieldLink RX1 15 "ShoeTable$Hand" "size" "I", Cond.fieldLink RX1 19 "ShoeTable$Hand" "sum" "I", Cond.fieldLink RX1 22 "ShoeTable$Hand" "ace" "Z"]
def wsX5_settle : List Cond := .code yX5_settle cX5_settle 4 (some .int) :: ((wsX5_settle_r1 ++ (wsX5_settle_r2 ++ (wsX5_settle_r3 ++ wsX5_settle_r4))) ++ wsX50 ++ wsX10 ++ wsX40 ++ wsX00)
def wsX5_isAct : List Cond := .code yX5_isAct cX5_isAct 1 (some .boolean) :: ([])
def wsX5_lookAtTable_r1 : List Cond := [Cond.fieldLink RX5 43 "ShoeTable" "odds" "LShoeTable$Odds;", Cond.fieldLink RX5 10 "ShoeTable" "rules" "LShoeTable$Rules;", Cond.fieldLink RX5 19 "ShoeTable" "cards" "LShoeTable$Cards;", Cond.fieldLink RX5 32 "ShoeTable" "hand" "LShoeTable$Hand;", Cond.fieldLink RX5 54 "ShoeTable" "up" "I", Cond.methodLink RX5 233 yX3_look, Cond.instanceMethod yX3_look, Cond.selects RX3 yX3_look yX3_look, Cond.initialized RX3, Cond.code yX3_look cX3_look 5 none, Cond.fieldLink RX3 12 "ShoeTable$Odds" "rules" "LShoeTable$Rules;", Cond.fieldLink RX3 21 "ShoeTable$Odds" "shoe" "LShoeTable$Cards;", Cond.fieldLink RX3 31 "ShoeTable$Odds" "hand" "LShoeTable$Hand;", Cond.fieldLink RX3 35 "ShoeTable$Odds" "up" "I", Cond.methodLink RX3 72 yX4_copy, Cond.instanceMethod yX4_copy, Cond.selects RX4 yX4_copy yX4_copy, Cond.initialized RX4, Cond.code yX4_copy cX4_copy 2 none, Cond.fieldLink RX4 9 "ShoeTable$Rules" "now" "[I", Cond.methodLink RX4 25 arraycopyName, Cond.native arraycopyName, Cond.static arraycopyName, Cond.initialized "java/lang/System"]
def wsX5_lookAtTable_r2 : List Cond := [Cond.methodLink RX3 76 yX0_copy, Cond.instanceMethod yX0_copy, Cond.selects RX0 yX0_copy yX0_copy, Cond.initialized RX0, Cond.code yX0_copy cX0_copy 2 none, Cond.fieldLink RX0 9 "ShoeTable$Cards" "counts" "[I", Cond.methodLink RX0 25 arraycopyName, Cond.fieldLink RX0 15 "ShoeTable$Cards" "total" "I", Cond.methodLink RX3 79 yX1_copy, Cond.instanceMethod yX1_copy, Cond.selects RX1 yX1_copy yX1_copy, Cond.initialized RX1, Cond.code yX1_copy cX1_copy 2 none, Cond.fieldLink RX1 9 "ShoeTable$Hand" "row" "[I", Cond.methodLink RX1 26 arraycopyName, Cond.fieldLink RX1 15 "ShoeTable$Hand" "size" "I", Cond.fieldLink RX1 19 "ShoeTable$Hand" "sum" "I", Cond.fieldLink RX1 22 "ShoeTable$Hand" "ace" "Z"]
def wsX5_lookAtTable : List Cond := .code yX5_lookAtTable cX5_lookAtTable 1 none :: ((wsX5_lookAtTable_r1 ++ wsX5_lookAtTable_r2) ++ wsX50 ++ wsX30 ++ wsX40 ++ wsX00 ++ wsX10)
def wsX5_there_r1 : List Cond := [Cond.fieldLink RX5 43 "ShoeTable" "odds" "LShoeTable$Odds;", Cond.methodLink RX5 156 yX5_isAct, Cond.static yX5_isAct, Cond.initialized RX5, Cond.code yX5_isAct cX5_isAct 1 (some .boolean), Cond.methodLink RX5 159 yX5_lookAtTable, Cond.instanceMethod yX5_lookAtTable, Cond.selects RX5 yX5_lookAtTable yX5_lookAtTable, Cond.code yX5_lookAtTable cX5_lookAtTable 1 none, Cond.fieldLink RX5 10 "ShoeTable" "rules" "LShoeTable$Rules;", Cond.fieldLink RX5 19 "ShoeTable" "cards" "LShoeTable$Cards;", Cond.fieldLink RX5 32 "ShoeTable" "hand" "LShoeTable$Hand;", Cond.fieldLink RX5 54 "ShoeTable" "up" "I", Cond.methodLink RX5 233 yX3_look, Cond.instanceMethod yX3_look, Cond.selects RX3 yX3_look yX3_look, Cond.initialized RX3, Cond.code yX3_look cX3_look 5 none, Cond.fieldLink RX3 12 "ShoeTable$Odds" "rules" "LShoeTable$Rules;", Cond.fieldLink RX3 21 "ShoeTable$Odds" "shoe" "LShoeTable$Cards;", Cond.fieldLink RX3 31 "ShoeTable$Odds" "hand" "LShoeTable$Hand;", Cond.fieldLink RX3 35 "ShoeTable$Odds" "up" "I", Cond.methodLink RX3 72 yX4_copy, Cond.instanceMethod yX4_copy]
def wsX5_there_r2 : List Cond := [Cond.selects RX4 yX4_copy yX4_copy, Cond.initialized RX4, Cond.code yX4_copy cX4_copy 2 none, Cond.fieldLink RX4 9 "ShoeTable$Rules" "now" "[I", Cond.methodLink RX4 25 arraycopyName, Cond.native arraycopyName, Cond.static arraycopyName, Cond.initialized "java/lang/System", Cond.methodLink RX3 76 yX0_copy, Cond.instanceMethod yX0_copy, Cond.selects RX0 yX0_copy yX0_copy, Cond.initialized RX0, Cond.code yX0_copy cX0_copy 2 none, Cond.fieldLink RX0 9 "ShoeTable$Cards" "counts" "[I", Cond.methodLink RX0 25 arraycopyName, Cond.fieldLink RX0 15 "ShoeTable$Cards" "total" "I", Cond.methodLink RX3 79 yX1_copy, Cond.instanceMethod yX1_copy, Cond.selects RX1 yX1_copy yX1_copy, Cond.initialized RX1, Cond.code yX1_copy cX1_copy 2 none, Cond.fieldLink RX1 9 "ShoeTable$Hand" "row" "[I", Cond.methodLink RX1 26 arraycopyName, Cond.fieldLink RX1 15 "ShoeTable$Hand" "size" "I"]
def wsX5_there_r3 : List Cond := [Cond.fieldLink RX1 19 "ShoeTable$Hand" "sum" "I", Cond.fieldLink RX1 22 "ShoeTable$Hand" "ace" "Z", Cond.methodLink RX5 162 yX3_isThere, Cond.instanceMethod yX3_isThere, Cond.selects RX3 yX3_isThere yX3_isThere, Cond.code yX3_isThere cX3_isThere 2 (some .boolean), Cond.fieldLink RX3 82 "ShoeTable$Hand" "size" "I", Cond.fieldLink RX3 85 "ShoeTable$Hand" "sum" "I", Cond.fieldLink RX3 92 "ShoeTable$Cards" "total" "I", Cond.methodLink RX3 88 yX4_isBust, Cond.instanceMethod yX4_isBust, Cond.selects RX4 yX4_isBust yX4_isBust, Cond.code yX4_isBust cX4_isBust 2 (some .boolean), Cond.methodLink RX3 95 yX1_isFull, Cond.instanceMethod yX1_isFull, Cond.selects RX1 yX1_isFull yX1_isFull, Cond.code yX1_isFull cX1_isFull 1 (some .boolean), Cond.methodLink RX3 99 yX4_doubles, Cond.instanceMethod yX4_doubles, Cond.selects RX4 yX4_doubles yX4_doubles, Cond.code yX4_doubles cX4_doubles 1 (some .boolean), Cond.methodLink RX3 102 yX1_isPair, Cond.instanceMethod yX1_isPair, Cond.selects RX1 yX1_isPair yX1_isPair]
def wsX5_there_r4 : List Cond := [Cond.code yX1_isPair cX1_isPair 1 (some .boolean), Cond.methodLink RX3 105 yX4_splits, Cond.instanceMethod yX4_splits, Cond.selects RX4 yX4_splits yX4_splits, Cond.code yX4_splits cX4_splits 1 (some .boolean), Cond.methodLink RX3 108 yX4_gives, Cond.instanceMethod yX4_gives, Cond.selects RX4 yX4_gives yX4_gives, Cond.code yX4_gives cX4_gives 1 (some .boolean), Cond.methodLink RX5 132 yX5_asNumber, Cond.static yX5_asNumber, Cond.code yX5_asNumber cX5_asNumber 1 (some .int)]
def wsX5_there : List Cond := .code yX5_there cX5_there 2 (some .int) :: ((wsX5_there_r1 ++ (wsX5_there_r2 ++ (wsX5_there_r3 ++ wsX5_there_r4))) ++ wsX50 ++ wsX30 ++ wsX40 ++ wsX00 ++ wsX10)
def wsX5_isPart : List Cond := .code yX5_isPart cX5_isPart 1 (some .boolean) :: ([])
def wsX5_commonDivisor : List Cond := .code yX5_commonDivisor cX5_commonDivisor 11 (some .long) :: ([])
def wsX5_part : List Cond := .code yX5_part cX5_part 7 (some .long) :: ([.methodLink RX5 241 Lib.MathLoose.abs_long.x, .static Lib.MathLoose.abs_long.x, .initialized "java/lang/Math", .code Lib.MathLoose.abs_long.x Lib.MathLoose.abs_long.code 2 (some .long), .methodLink RX5 247 yX5_commonDivisor, .static yX5_commonDivisor, .initialized RX5, .code yX5_commonDivisor cX5_commonDivisor 11 (some .long)])
def wsX5_worth_r1 : List Cond := [Cond.constantLong RX5 168 (-1001), Cond.fieldLink RX5 43 "ShoeTable" "odds" "LShoeTable$Odds;", Cond.constantLong RX5 170 (-1002), Cond.fieldLink RX5 19 "ShoeTable" "cards" "LShoeTable$Cards;", Cond.fieldLink RX5 91 "ShoeTable$Cards" "total" "I", Cond.constantLong RX5 172 (-1004), Cond.methodLink RX5 156 yX5_isAct, Cond.static yX5_isAct, Cond.initialized RX5, Cond.code yX5_isAct cX5_isAct 1 (some .boolean), Cond.methodLink RX5 165 yX5_isPart, Cond.static yX5_isPart, Cond.code yX5_isPart cX5_isPart 1 (some .boolean), Cond.methodLink RX5 159 yX5_lookAtTable, Cond.instanceMethod yX5_lookAtTable, Cond.selects RX5 yX5_lookAtTable yX5_lookAtTable, Cond.code yX5_lookAtTable cX5_lookAtTable 1 none, Cond.fieldLink RX5 10 "ShoeTable" "rules" "LShoeTable$Rules;", Cond.fieldLink RX5 32 "ShoeTable" "hand" "LShoeTable$Hand;", Cond.fieldLink RX5 54 "ShoeTable" "up" "I", Cond.methodLink RX5 233 yX3_look, Cond.instanceMethod yX3_look, Cond.selects RX3 yX3_look yX3_look, Cond.initialized RX3]
def wsX5_worth_r2 : List Cond := [Cond.code yX3_look cX3_look 5 none, Cond.fieldLink RX3 12 "ShoeTable$Odds" "rules" "LShoeTable$Rules;", Cond.fieldLink RX3 21 "ShoeTable$Odds" "shoe" "LShoeTable$Cards;", Cond.fieldLink RX3 31 "ShoeTable$Odds" "hand" "LShoeTable$Hand;", Cond.fieldLink RX3 35 "ShoeTable$Odds" "up" "I", Cond.methodLink RX3 72 yX4_copy, Cond.instanceMethod yX4_copy, Cond.selects RX4 yX4_copy yX4_copy, Cond.initialized RX4, Cond.code yX4_copy cX4_copy 2 none, Cond.fieldLink RX4 9 "ShoeTable$Rules" "now" "[I", Cond.methodLink RX4 25 arraycopyName, Cond.native arraycopyName, Cond.static arraycopyName, Cond.initialized "java/lang/System", Cond.methodLink RX3 76 yX0_copy, Cond.instanceMethod yX0_copy, Cond.selects RX0 yX0_copy yX0_copy, Cond.initialized RX0, Cond.code yX0_copy cX0_copy 2 none, Cond.fieldLink RX0 9 "ShoeTable$Cards" "counts" "[I", Cond.methodLink RX0 25 arraycopyName, Cond.fieldLink RX0 15 "ShoeTable$Cards" "total" "I", Cond.methodLink RX3 79 yX1_copy]
def wsX5_worth_r3 : List Cond := [Cond.instanceMethod yX1_copy, Cond.selects RX1 yX1_copy yX1_copy, Cond.initialized RX1, Cond.code yX1_copy cX1_copy 2 none, Cond.fieldLink RX1 9 "ShoeTable$Hand" "row" "[I", Cond.methodLink RX1 26 arraycopyName, Cond.fieldLink RX1 15 "ShoeTable$Hand" "size" "I", Cond.fieldLink RX1 19 "ShoeTable$Hand" "sum" "I", Cond.fieldLink RX1 22 "ShoeTable$Hand" "ace" "Z", Cond.methodLink RX5 162 yX3_isThere, Cond.instanceMethod yX3_isThere, Cond.selects RX3 yX3_isThere yX3_isThere, Cond.code yX3_isThere cX3_isThere 2 (some .boolean), Cond.fieldLink RX3 82 "ShoeTable$Hand" "size" "I", Cond.fieldLink RX3 85 "ShoeTable$Hand" "sum" "I", Cond.fieldLink RX3 92 "ShoeTable$Cards" "total" "I", Cond.methodLink RX3 88 yX4_isBust, Cond.instanceMethod yX4_isBust, Cond.selects RX4 yX4_isBust yX4_isBust, Cond.code yX4_isBust cX4_isBust 2 (some .boolean), Cond.methodLink RX3 95 yX1_isFull, Cond.instanceMethod yX1_isFull, Cond.selects RX1 yX1_isFull yX1_isFull, Cond.code yX1_isFull cX1_isFull 1 (some .boolean)]
def wsX5_worth_r4 : List Cond := [Cond.methodLink RX3 99 yX4_doubles, Cond.instanceMethod yX4_doubles, Cond.selects RX4 yX4_doubles yX4_doubles, Cond.code yX4_doubles cX4_doubles 1 (some .boolean), Cond.methodLink RX3 102 yX1_isPair, Cond.instanceMethod yX1_isPair, Cond.selects RX1 yX1_isPair yX1_isPair, Cond.code yX1_isPair cX1_isPair 1 (some .boolean), Cond.methodLink RX3 105 yX4_splits, Cond.instanceMethod yX4_splits, Cond.selects RX4 yX4_splits yX4_splits, Cond.code yX4_splits cX4_splits 1 (some .boolean), Cond.methodLink RX3 108 yX4_gives, Cond.instanceMethod yX4_gives, Cond.selects RX4 yX4_gives yX4_gives, Cond.code yX4_gives cX4_gives 1 (some .boolean), Cond.methodLink RX5 174 yX3_actTotal, Cond.instanceMethod yX3_actTotal, Cond.selects RX3 yX3_actTotal yX3_actTotal, Cond.code yX3_actTotal cX3_actTotal 2 (some .long), Cond.fieldLink RX3 69 "ShoeTable$Odds" "playerRound" "I", Cond.fieldLink RX3 117 "ShoeTable$Hand" "ace" "Z", Cond.constantLong RX3 141 (-1), Cond.methodLink RX3 114 yX3_numberHeaps]
def wsX5_worth_r5 : List Cond := [Cond.instanceMethod yX3_numberHeaps, Cond.selects RX3 yX3_numberHeaps yX3_numberHeaps, Cond.code yX3_numberHeaps cX3_numberHeaps 3 none, Cond.fieldLink RX3 50 "ShoeTable$Odds" "step" "[I", Cond.methodLink RX3 174 yX0_count, Cond.instanceMethod yX0_count, Cond.selects RX0 yX0_count yX0_count, Cond.code yX0_count cX0_count 2 (some .int), Cond.methodLink RX3 121 yX3_standTotal, Cond.instanceMethod yX3_standTotal, Cond.selects RX3 yX3_standTotal yX3_standTotal, Cond.code yX3_standTotal cX3_standTotal 8 (some .long), Cond.constantLong RX3 166 (-2), Cond.fieldLink RX3 46 "ShoeTable$Odds" "pay" "[J", Cond.fieldLink RX3 60 "ShoeTable$Odds" "houseRound" "I", Cond.static yX5_orders, Cond.code yX5_orders cX5_orders 1 (some .long), Cond.fieldLink RX5 237 "ShoeTable" "ORDERS" "[J", Cond.methodLink RX3 177 yX4_value, Cond.instanceMethod yX4_value, Cond.selects RX4 yX4_value yX4_value, Cond.code yX4_value cX4_value 3 (some .int), Cond.methodLink RX3 181 yX4_isNatural, Cond.instanceMethod yX4_isNatural]
def wsX5_worth_r6 : List Cond := [Cond.selects RX4 yX4_isNatural yX4_isNatural, Cond.code yX4_isNatural cX4_isNatural 3 (some .boolean), Cond.methodLink RX3 185 yX4_settled, Cond.instanceMethod yX4_settled, Cond.selects RX4 yX4_settled yX4_settled, Cond.code yX4_settled cX4_settled 4 (some .int), Cond.methodLink RX3 149 yX3_houseTotal, Cond.instanceMethod yX3_houseTotal, Cond.selects RX3 yX3_houseTotal yX3_houseTotal, Cond.code yX3_houseTotal cX3_houseTotal 10 (some .long), Cond.fieldLink RX3 57 "ShoeTable$Odds" "houseRounds" "[I", Cond.fieldLink RX3 54 "ShoeTable$Odds" "houseTotals" "[J", Cond.methodLink RX3 189 yX4_goesOn, Cond.instanceMethod yX4_goesOn, Cond.selects RX4 yX4_goesOn yX4_goesOn, Cond.code yX4_goesOn cX4_goesOn 3 (some .boolean), Cond.methodLink RX3 193 yX4_end, Cond.instanceMethod yX4_end, Cond.selects RX4 yX4_end yX4_end, Cond.code yX4_end cX4_end 2 (some .int), Cond.methodLink RX3 155 yX0_remove, Cond.instanceMethod yX0_remove, Cond.selects RX0 yX0_remove yX0_remove, Cond.code yX0_remove cX0_remove 3 (some .int)]
def wsX5_worth_r7 : List Cond := [Cond.methodLink RX3 158 yX0_add, Cond.instanceMethod yX0_add, Cond.selects RX0 yX0_add yX0_add, Cond.code yX0_add cX0_add 2 none, Cond.methodLink RX3 125 yX3_playerTotal, Cond.instanceMethod yX3_playerTotal, Cond.selects RX3 yX3_playerTotal yX3_playerTotal, Cond.code yX3_playerTotal cX3_playerTotal 10 (some .long), Cond.fieldLink RX3 66 "ShoeTable$Odds" "playerRounds" "[I", Cond.fieldLink RX3 63 "ShoeTable$Odds" "playerTotals" "[J", Cond.methodLink RX3 196 Lib.MathLoose.max_long.x, Cond.static Lib.MathLoose.max_long.x, Cond.initialized "java/lang/Math", Cond.code Lib.MathLoose.max_long.x Lib.MathLoose.max_long.code 4 (some .long), Cond.methodLink RX3 129 yX3_doubleTotal, Cond.instanceMethod yX3_doubleTotal, Cond.selects RX3 yX3_doubleTotal yX3_doubleTotal, Cond.code yX3_doubleTotal cX3_doubleTotal 5 (some .long), Cond.constantLong RX3 172 (2), Cond.methodLink RX3 133 yX1_card, Cond.instanceMethod yX1_card, Cond.selects RX1 yX1_card yX1_card, Cond.code yX1_card cX1_card 2 (some .int), Cond.methodLink RX3 137 yX3_splitTotal]
def wsX5_worth_r8 : List Cond := [Cond.instanceMethod yX3_splitTotal, Cond.selects RX3 yX3_splitTotal yX3_splitTotal, Cond.code yX3_splitTotal cX3_splitTotal 9 (some .long), Cond.methodLink RX3 202 yX3_bothTotal, Cond.instanceMethod yX3_bothTotal, Cond.selects RX3 yX3_bothTotal yX3_bothTotal, Cond.code yX3_bothTotal cX3_bothTotal 7 (some .long), Cond.methodLink RX5 178 yX5_orders, Cond.methodLink RX5 181 yX5_part, Cond.static yX5_part, Cond.code yX5_part cX5_part 7 (some .long), Cond.methodLink RX5 241 Lib.MathLoose.abs_long.x, Cond.static Lib.MathLoose.abs_long.x, Cond.code Lib.MathLoose.abs_long.x Lib.MathLoose.abs_long.code 2 (some .long), Cond.methodLink RX5 247 yX5_commonDivisor, Cond.static yX5_commonDivisor, Cond.code yX5_commonDivisor cX5_commonDivisor 11 (some .long)]
def wsX5_worth : List Cond := .code yX5_worth cX5_worth 3 (some .long) :: ((wsX5_worth_r1 ++ (wsX5_worth_r2 ++ (wsX5_worth_r3 ++ (wsX5_worth_r4 ++ (wsX5_worth_r5 ++ (wsX5_worth_r6 ++ (wsX5_worth_r7 ++ wsX5_worth_r8))))))) ++ wsX50 ++ wsX00 ++ wsX30 ++ wsX40 ++ wsX10)
def wsX5_best_r1 : List Cond := [Cond.fieldLink RX5 43 "ShoeTable" "odds" "LShoeTable$Odds;", Cond.fieldLink RX5 19 "ShoeTable" "cards" "LShoeTable$Cards;", Cond.fieldLink RX5 91 "ShoeTable$Cards" "total" "I", Cond.fieldLink RX5 191 "ShoeTable$Odds" "bestAct" "I", Cond.methodLink RX5 159 yX5_lookAtTable, Cond.instanceMethod yX5_lookAtTable, Cond.selects RX5 yX5_lookAtTable yX5_lookAtTable, Cond.initialized RX5, Cond.code yX5_lookAtTable cX5_lookAtTable 1 none, Cond.fieldLink RX5 10 "ShoeTable" "rules" "LShoeTable$Rules;", Cond.fieldLink RX5 32 "ShoeTable" "hand" "LShoeTable$Hand;", Cond.fieldLink RX5 54 "ShoeTable" "up" "I", Cond.methodLink RX5 233 yX3_look, Cond.instanceMethod yX3_look, Cond.selects RX3 yX3_look yX3_look, Cond.initialized RX3, Cond.code yX3_look cX3_look 5 none, Cond.fieldLink RX3 12 "ShoeTable$Odds" "rules" "LShoeTable$Rules;", Cond.fieldLink RX3 21 "ShoeTable$Odds" "shoe" "LShoeTable$Cards;", Cond.fieldLink RX3 31 "ShoeTable$Odds" "hand" "LShoeTable$Hand;", Cond.fieldLink RX3 35 "ShoeTable$Odds" "up" "I", Cond.methodLink RX3 72 yX4_copy, Cond.instanceMethod yX4_copy, Cond.selects RX4 yX4_copy yX4_copy]
def wsX5_best_r2 : List Cond := [Cond.initialized RX4, Cond.code yX4_copy cX4_copy 2 none, Cond.fieldLink RX4 9 "ShoeTable$Rules" "now" "[I", Cond.methodLink RX4 25 arraycopyName, Cond.native arraycopyName, Cond.static arraycopyName, Cond.initialized "java/lang/System", Cond.methodLink RX3 76 yX0_copy, Cond.instanceMethod yX0_copy, Cond.selects RX0 yX0_copy yX0_copy, Cond.initialized RX0, Cond.code yX0_copy cX0_copy 2 none, Cond.fieldLink RX0 9 "ShoeTable$Cards" "counts" "[I", Cond.methodLink RX0 25 arraycopyName, Cond.fieldLink RX0 15 "ShoeTable$Cards" "total" "I", Cond.methodLink RX3 79 yX1_copy, Cond.instanceMethod yX1_copy, Cond.selects RX1 yX1_copy yX1_copy, Cond.initialized RX1, Cond.code yX1_copy cX1_copy 2 none, Cond.fieldLink RX1 9 "ShoeTable$Hand" "row" "[I", Cond.methodLink RX1 26 arraycopyName, Cond.fieldLink RX1 15 "ShoeTable$Hand" "size" "I", Cond.fieldLink RX1 19 "ShoeTable$Hand" "sum" "I"]
def wsX5_best_r3 : List Cond := [Cond.fieldLink RX1 22 "ShoeTable$Hand" "ace" "Z", Cond.methodLink RX5 185 yX3_anyThere, Cond.instanceMethod yX3_anyThere, Cond.selects RX3 yX3_anyThere yX3_anyThere, Cond.code yX3_anyThere cX3_anyThere 1 (some .boolean), Cond.methodLink RX3 111 yX3_isThere, Cond.instanceMethod yX3_isThere, Cond.selects RX3 yX3_isThere yX3_isThere, Cond.code yX3_isThere cX3_isThere 2 (some .boolean), Cond.fieldLink RX3 82 "ShoeTable$Hand" "size" "I", Cond.fieldLink RX3 85 "ShoeTable$Hand" "sum" "I", Cond.fieldLink RX3 92 "ShoeTable$Cards" "total" "I", Cond.methodLink RX3 88 yX4_isBust, Cond.instanceMethod yX4_isBust, Cond.selects RX4 yX4_isBust yX4_isBust, Cond.code yX4_isBust cX4_isBust 2 (some .boolean), Cond.methodLink RX3 95 yX1_isFull, Cond.instanceMethod yX1_isFull, Cond.selects RX1 yX1_isFull yX1_isFull, Cond.code yX1_isFull cX1_isFull 1 (some .boolean), Cond.methodLink RX3 99 yX4_doubles, Cond.instanceMethod yX4_doubles, Cond.selects RX4 yX4_doubles yX4_doubles, Cond.code yX4_doubles cX4_doubles 1 (some .boolean)]
def wsX5_best_r4 : List Cond := [Cond.methodLink RX3 102 yX1_isPair, Cond.instanceMethod yX1_isPair, Cond.selects RX1 yX1_isPair yX1_isPair, Cond.code yX1_isPair cX1_isPair 1 (some .boolean), Cond.methodLink RX3 105 yX4_splits, Cond.instanceMethod yX4_splits, Cond.selects RX4 yX4_splits yX4_splits, Cond.code yX4_splits cX4_splits 1 (some .boolean), Cond.methodLink RX3 108 yX4_gives, Cond.instanceMethod yX4_gives, Cond.selects RX4 yX4_gives yX4_gives, Cond.code yX4_gives cX4_gives 1 (some .boolean), Cond.methodLink RX5 188 yX3_findBest, Cond.instanceMethod yX3_findBest, Cond.selects RX3 yX3_findBest yX3_findBest, Cond.code yX3_findBest cX3_findBest 4 none, Cond.fieldLink RX3 39 "ShoeTable$Odds" "bestAct" "I", Cond.fieldLink RX3 42 "ShoeTable$Odds" "bestTotal" "J", Cond.methodLink RX3 146 yX3_actTotal, Cond.instanceMethod yX3_actTotal, Cond.selects RX3 yX3_actTotal yX3_actTotal, Cond.code yX3_actTotal cX3_actTotal 2 (some .long), Cond.fieldLink RX3 69 "ShoeTable$Odds" "playerRound" "I", Cond.fieldLink RX3 117 "ShoeTable$Hand" "ace" "Z"]
def wsX5_best_r5 : List Cond := [Cond.constantLong RX3 141 (-1), Cond.methodLink RX3 114 yX3_numberHeaps, Cond.instanceMethod yX3_numberHeaps, Cond.selects RX3 yX3_numberHeaps yX3_numberHeaps, Cond.code yX3_numberHeaps cX3_numberHeaps 3 none, Cond.fieldLink RX3 50 "ShoeTable$Odds" "step" "[I", Cond.methodLink RX3 174 yX0_count, Cond.instanceMethod yX0_count, Cond.selects RX0 yX0_count yX0_count, Cond.code yX0_count cX0_count 2 (some .int), Cond.methodLink RX3 121 yX3_standTotal, Cond.instanceMethod yX3_standTotal, Cond.selects RX3 yX3_standTotal yX3_standTotal, Cond.code yX3_standTotal cX3_standTotal 8 (some .long), Cond.constantLong RX3 166 (-2), Cond.fieldLink RX3 46 "ShoeTable$Odds" "pay" "[J", Cond.fieldLink RX3 60 "ShoeTable$Odds" "houseRound" "I", Cond.static yX5_orders, Cond.code yX5_orders cX5_orders 1 (some .long), Cond.fieldLink RX5 237 "ShoeTable" "ORDERS" "[J", Cond.methodLink RX3 177 yX4_value, Cond.instanceMethod yX4_value, Cond.selects RX4 yX4_value yX4_value, Cond.code yX4_value cX4_value 3 (some .int)]
def wsX5_best_r6 : List Cond := [Cond.methodLink RX3 181 yX4_isNatural, Cond.instanceMethod yX4_isNatural, Cond.selects RX4 yX4_isNatural yX4_isNatural, Cond.code yX4_isNatural cX4_isNatural 3 (some .boolean), Cond.methodLink RX3 185 yX4_settled, Cond.instanceMethod yX4_settled, Cond.selects RX4 yX4_settled yX4_settled, Cond.code yX4_settled cX4_settled 4 (some .int), Cond.methodLink RX3 149 yX3_houseTotal, Cond.instanceMethod yX3_houseTotal, Cond.selects RX3 yX3_houseTotal yX3_houseTotal, Cond.code yX3_houseTotal cX3_houseTotal 10 (some .long), Cond.fieldLink RX3 57 "ShoeTable$Odds" "houseRounds" "[I", Cond.fieldLink RX3 54 "ShoeTable$Odds" "houseTotals" "[J", Cond.methodLink RX3 189 yX4_goesOn, Cond.instanceMethod yX4_goesOn, Cond.selects RX4 yX4_goesOn yX4_goesOn, Cond.code yX4_goesOn cX4_goesOn 3 (some .boolean), Cond.methodLink RX3 193 yX4_end, Cond.instanceMethod yX4_end, Cond.selects RX4 yX4_end yX4_end, Cond.code yX4_end cX4_end 2 (some .int), Cond.methodLink RX3 155 yX0_remove, Cond.instanceMethod yX0_remove]
def wsX5_best_r7 : List Cond := [Cond.selects RX0 yX0_remove yX0_remove, Cond.code yX0_remove cX0_remove 3 (some .int), Cond.methodLink RX3 158 yX0_add, Cond.instanceMethod yX0_add, Cond.selects RX0 yX0_add yX0_add, Cond.code yX0_add cX0_add 2 none, Cond.methodLink RX3 125 yX3_playerTotal, Cond.instanceMethod yX3_playerTotal, Cond.selects RX3 yX3_playerTotal yX3_playerTotal, Cond.code yX3_playerTotal cX3_playerTotal 10 (some .long), Cond.fieldLink RX3 66 "ShoeTable$Odds" "playerRounds" "[I", Cond.fieldLink RX3 63 "ShoeTable$Odds" "playerTotals" "[J", Cond.methodLink RX3 196 Lib.MathLoose.max_long.x, Cond.static Lib.MathLoose.max_long.x, Cond.initialized "java/lang/Math", Cond.code Lib.MathLoose.max_long.x Lib.MathLoose.max_long.code 4 (some .long), Cond.methodLink RX3 129 yX3_doubleTotal, Cond.instanceMethod yX3_doubleTotal, Cond.selects RX3 yX3_doubleTotal yX3_doubleTotal, Cond.code yX3_doubleTotal cX3_doubleTotal 5 (some .long), Cond.constantLong RX3 172 (2), Cond.methodLink RX3 133 yX1_card, Cond.instanceMethod yX1_card, Cond.selects RX1 yX1_card yX1_card]
def wsX5_best_r8 : List Cond := [Cond.code yX1_card cX1_card 2 (some .int), Cond.methodLink RX3 137 yX3_splitTotal, Cond.instanceMethod yX3_splitTotal, Cond.selects RX3 yX3_splitTotal yX3_splitTotal, Cond.code yX3_splitTotal cX3_splitTotal 9 (some .long), Cond.methodLink RX3 202 yX3_bothTotal, Cond.instanceMethod yX3_bothTotal, Cond.selects RX3 yX3_bothTotal yX3_bothTotal, Cond.code yX3_bothTotal cX3_bothTotal 7 (some .long)]
def wsX5_best : List Cond := .code yX5_best cX5_best 1 (some .int) :: ((wsX5_best_r1 ++ (wsX5_best_r2 ++ (wsX5_best_r3 ++ (wsX5_best_r4 ++ (wsX5_best_r5 ++ (wsX5_best_r6 ++ (wsX5_best_r7 ++ wsX5_best_r8))))))) ++ wsX50 ++ wsX00 ++ wsX30 ++ wsX40 ++ wsX10)
def wsX5_chance_r1 : List Cond := [Cond.constantLong RX5 168 (-1001), Cond.fieldLink RX5 54 "ShoeTable" "up" "I", Cond.constantLong RX5 170 (-1002), Cond.fieldLink RX5 19 "ShoeTable" "cards" "LShoeTable$Cards;", Cond.fieldLink RX5 91 "ShoeTable$Cards" "total" "I", Cond.constantLong RX5 172 (-1004), Cond.fieldLink RX5 43 "ShoeTable" "odds" "LShoeTable$Odds;", Cond.methodLink RX5 165 yX5_isPart, Cond.static yX5_isPart, Cond.initialized RX5, Cond.code yX5_isPart cX5_isPart 1 (some .boolean), Cond.methodLink RX5 159 yX5_lookAtTable, Cond.instanceMethod yX5_lookAtTable, Cond.selects RX5 yX5_lookAtTable yX5_lookAtTable, Cond.code yX5_lookAtTable cX5_lookAtTable 1 none, Cond.fieldLink RX5 10 "ShoeTable" "rules" "LShoeTable$Rules;", Cond.fieldLink RX5 32 "ShoeTable" "hand" "LShoeTable$Hand;", Cond.methodLink RX5 233 yX3_look, Cond.instanceMethod yX3_look, Cond.selects RX3 yX3_look yX3_look, Cond.initialized RX3, Cond.code yX3_look cX3_look 5 none, Cond.fieldLink RX3 12 "ShoeTable$Odds" "rules" "LShoeTable$Rules;", Cond.fieldLink RX3 21 "ShoeTable$Odds" "shoe" "LShoeTable$Cards;"]
def wsX5_chance_r2 : List Cond := [Cond.fieldLink RX3 31 "ShoeTable$Odds" "hand" "LShoeTable$Hand;", Cond.fieldLink RX3 35 "ShoeTable$Odds" "up" "I", Cond.methodLink RX3 72 yX4_copy, Cond.instanceMethod yX4_copy, Cond.selects RX4 yX4_copy yX4_copy, Cond.initialized RX4, Cond.code yX4_copy cX4_copy 2 none, Cond.fieldLink RX4 9 "ShoeTable$Rules" "now" "[I", Cond.methodLink RX4 25 arraycopyName, Cond.native arraycopyName, Cond.static arraycopyName, Cond.initialized "java/lang/System", Cond.methodLink RX3 76 yX0_copy, Cond.instanceMethod yX0_copy, Cond.selects RX0 yX0_copy yX0_copy, Cond.initialized RX0, Cond.code yX0_copy cX0_copy 2 none, Cond.fieldLink RX0 9 "ShoeTable$Cards" "counts" "[I", Cond.methodLink RX0 25 arraycopyName, Cond.fieldLink RX0 15 "ShoeTable$Cards" "total" "I", Cond.methodLink RX3 79 yX1_copy, Cond.instanceMethod yX1_copy, Cond.selects RX1 yX1_copy yX1_copy, Cond.initialized RX1]
def wsX5_chance_r3 : List Cond := [Cond.code yX1_copy cX1_copy 2 none, Cond.fieldLink RX1 9 "ShoeTable$Hand" "row" "[I", Cond.methodLink RX1 26 arraycopyName, Cond.fieldLink RX1 15 "ShoeTable$Hand" "size" "I", Cond.fieldLink RX1 19 "ShoeTable$Hand" "sum" "I", Cond.fieldLink RX1 22 "ShoeTable$Hand" "ace" "Z", Cond.methodLink RX5 194 yX3_endTotal, Cond.instanceMethod yX3_endTotal, Cond.selects RX3 yX3_endTotal yX3_endTotal, Cond.code yX3_endTotal cX3_endTotal 3 (some .long), Cond.fieldLink RX3 46 "ShoeTable$Odds" "pay" "[J", Cond.fieldLink RX3 60 "ShoeTable$Odds" "houseRound" "I", Cond.fieldLink RX3 92 "ShoeTable$Cards" "total" "I", Cond.methodLink RX3 114 yX3_numberHeaps, Cond.instanceMethod yX3_numberHeaps, Cond.selects RX3 yX3_numberHeaps yX3_numberHeaps, Cond.code yX3_numberHeaps cX3_numberHeaps 3 none, Cond.fieldLink RX3 50 "ShoeTable$Odds" "step" "[I", Cond.methodLink RX3 174 yX0_count, Cond.instanceMethod yX0_count, Cond.selects RX0 yX0_count yX0_count, Cond.code yX0_count cX0_count 2 (some .int), Cond.methodLink RX3 149 yX3_houseTotal, Cond.instanceMethod yX3_houseTotal]
def wsX5_chance_r4 : List Cond := [Cond.selects RX3 yX3_houseTotal yX3_houseTotal, Cond.code yX3_houseTotal cX3_houseTotal 10 (some .long), Cond.fieldLink RX3 57 "ShoeTable$Odds" "houseRounds" "[I", Cond.fieldLink RX3 54 "ShoeTable$Odds" "houseTotals" "[J", Cond.methodLink RX3 177 yX4_value, Cond.instanceMethod yX4_value, Cond.selects RX4 yX4_value yX4_value, Cond.code yX4_value cX4_value 3 (some .int), Cond.methodLink RX3 189 yX4_goesOn, Cond.instanceMethod yX4_goesOn, Cond.selects RX4 yX4_goesOn yX4_goesOn, Cond.code yX4_goesOn cX4_goesOn 3 (some .boolean), Cond.methodLink RX3 193 yX4_end, Cond.instanceMethod yX4_end, Cond.selects RX4 yX4_end yX4_end, Cond.code yX4_end cX4_end 2 (some .int), Cond.static yX5_orders, Cond.code yX5_orders cX5_orders 1 (some .long), Cond.fieldLink RX5 237 "ShoeTable" "ORDERS" "[J", Cond.methodLink RX3 155 yX0_remove, Cond.instanceMethod yX0_remove, Cond.selects RX0 yX0_remove yX0_remove, Cond.code yX0_remove cX0_remove 3 (some .int), Cond.methodLink RX3 158 yX0_add]
def wsX5_chance_r5 : List Cond := [Cond.instanceMethod yX0_add, Cond.selects RX0 yX0_add yX0_add, Cond.code yX0_add cX0_add 2 none, Cond.methodLink RX5 178 yX5_orders, Cond.methodLink RX5 181 yX5_part, Cond.static yX5_part, Cond.code yX5_part cX5_part 7 (some .long), Cond.methodLink RX5 241 Lib.MathLoose.abs_long.x, Cond.static Lib.MathLoose.abs_long.x, Cond.initialized "java/lang/Math", Cond.code Lib.MathLoose.abs_long.x Lib.MathLoose.abs_long.code 2 (some .long), Cond.methodLink RX5 247 yX5_commonDivisor, Cond.static yX5_commonDivisor, Cond.code yX5_commonDivisor cX5_commonDivisor 11 (some .long)]
def wsX5_chance : List Cond := .code yX5_chance cX5_chance 3 (some .long) :: ((wsX5_chance_r1 ++ (wsX5_chance_r2 ++ (wsX5_chance_r3 ++ (wsX5_chance_r4 ++ wsX5_chance_r5)))) ++ wsX50 ++ wsX00 ++ wsX30 ++ wsX40 ++ wsX10)
def wsX5_deal_r1 : List Cond := [Cond.constantLong RX5 168 (-1001), Cond.fieldLink RX5 19 "ShoeTable" "cards" "LShoeTable$Cards;", Cond.fieldLink RX5 91 "ShoeTable$Cards" "total" "I", Cond.constantLong RX5 170 (-1002), Cond.constantLong RX5 172 (-1004), Cond.fieldLink RX5 43 "ShoeTable" "odds" "LShoeTable$Odds;", Cond.methodLink RX5 165 yX5_isPart, Cond.static yX5_isPart, Cond.initialized RX5, Cond.code yX5_isPart cX5_isPart 1 (some .boolean), Cond.methodLink RX5 159 yX5_lookAtTable, Cond.instanceMethod yX5_lookAtTable, Cond.selects RX5 yX5_lookAtTable yX5_lookAtTable, Cond.code yX5_lookAtTable cX5_lookAtTable 1 none, Cond.fieldLink RX5 10 "ShoeTable" "rules" "LShoeTable$Rules;", Cond.fieldLink RX5 32 "ShoeTable" "hand" "LShoeTable$Hand;", Cond.fieldLink RX5 54 "ShoeTable" "up" "I", Cond.methodLink RX5 233 yX3_look, Cond.instanceMethod yX3_look, Cond.selects RX3 yX3_look yX3_look, Cond.initialized RX3, Cond.code yX3_look cX3_look 5 none, Cond.fieldLink RX3 12 "ShoeTable$Odds" "rules" "LShoeTable$Rules;", Cond.fieldLink RX3 21 "ShoeTable$Odds" "shoe" "LShoeTable$Cards;"]
def wsX5_deal_r2 : List Cond := [Cond.fieldLink RX3 31 "ShoeTable$Odds" "hand" "LShoeTable$Hand;", Cond.fieldLink RX3 35 "ShoeTable$Odds" "up" "I", Cond.methodLink RX3 72 yX4_copy, Cond.instanceMethod yX4_copy, Cond.selects RX4 yX4_copy yX4_copy, Cond.initialized RX4, Cond.code yX4_copy cX4_copy 2 none, Cond.fieldLink RX4 9 "ShoeTable$Rules" "now" "[I", Cond.methodLink RX4 25 arraycopyName, Cond.native arraycopyName, Cond.static arraycopyName, Cond.initialized "java/lang/System", Cond.methodLink RX3 76 yX0_copy, Cond.instanceMethod yX0_copy, Cond.selects RX0 yX0_copy yX0_copy, Cond.initialized RX0, Cond.code yX0_copy cX0_copy 2 none, Cond.fieldLink RX0 9 "ShoeTable$Cards" "counts" "[I", Cond.methodLink RX0 25 arraycopyName, Cond.fieldLink RX0 15 "ShoeTable$Cards" "total" "I", Cond.methodLink RX3 79 yX1_copy, Cond.instanceMethod yX1_copy, Cond.selects RX1 yX1_copy yX1_copy, Cond.initialized RX1]
def wsX5_deal_r3 : List Cond := [Cond.code yX1_copy cX1_copy 2 none, Cond.fieldLink RX1 9 "ShoeTable$Hand" "row" "[I", Cond.methodLink RX1 26 arraycopyName, Cond.fieldLink RX1 15 "ShoeTable$Hand" "size" "I", Cond.fieldLink RX1 19 "ShoeTable$Hand" "sum" "I", Cond.fieldLink RX1 22 "ShoeTable$Hand" "ace" "Z", Cond.methodLink RX5 197 yX3_dealTotal, Cond.instanceMethod yX3_dealTotal, Cond.selects RX3 yX3_dealTotal yX3_dealTotal, Cond.code yX3_dealTotal cX3_dealTotal 8 (some .long), Cond.fieldLink RX3 25 "ShoeTable$Odds" "whole" "LShoeTable$Cards;", Cond.fieldLink RX3 39 "ShoeTable$Odds" "bestAct" "I", Cond.constantLong RX3 166 (-2), Cond.fieldLink RX3 92 "ShoeTable$Cards" "total" "I", Cond.fieldLink RX3 42 "ShoeTable$Odds" "bestTotal" "J", Cond.methodLink RX3 162 yX3_handOut, Cond.instanceMethod yX3_handOut, Cond.selects RX3 yX3_handOut yX3_handOut, Cond.code yX3_handOut cX3_handOut 6 (some .long), Cond.constantLong RX3 172 (2), Cond.methodLink RX3 155 yX0_remove, Cond.instanceMethod yX0_remove, Cond.selects RX0 yX0_remove yX0_remove, Cond.code yX0_remove cX0_remove 3 (some .int)]
def wsX5_deal_r4 : List Cond := [Cond.methodLink RX3 168 yX1_clear, Cond.instanceMethod yX1_clear, Cond.selects RX1 yX1_clear yX1_clear, Cond.code yX1_clear cX1_clear 1 none, Cond.methodLink RX3 171 yX1_add, Cond.instanceMethod yX1_add, Cond.selects RX1 yX1_add yX1_add, Cond.code yX1_add cX1_add 2 none, Cond.methodLink RX3 152 yX3_findBest, Cond.instanceMethod yX3_findBest, Cond.selects RX3 yX3_findBest yX3_findBest, Cond.code yX3_findBest cX3_findBest 4 none, Cond.methodLink RX3 111 yX3_isThere, Cond.instanceMethod yX3_isThere, Cond.selects RX3 yX3_isThere yX3_isThere, Cond.code yX3_isThere cX3_isThere 2 (some .boolean), Cond.fieldLink RX3 82 "ShoeTable$Hand" "size" "I", Cond.fieldLink RX3 85 "ShoeTable$Hand" "sum" "I", Cond.methodLink RX3 88 yX4_isBust, Cond.instanceMethod yX4_isBust, Cond.selects RX4 yX4_isBust yX4_isBust, Cond.code yX4_isBust cX4_isBust 2 (some .boolean), Cond.methodLink RX3 95 yX1_isFull, Cond.instanceMethod yX1_isFull]
def wsX5_deal_r5 : List Cond := [Cond.selects RX1 yX1_isFull yX1_isFull, Cond.code yX1_isFull cX1_isFull 1 (some .boolean), Cond.methodLink RX3 99 yX4_doubles, Cond.instanceMethod yX4_doubles, Cond.selects RX4 yX4_doubles yX4_doubles, Cond.code yX4_doubles cX4_doubles 1 (some .boolean), Cond.methodLink RX3 102 yX1_isPair, Cond.instanceMethod yX1_isPair, Cond.selects RX1 yX1_isPair yX1_isPair, Cond.code yX1_isPair cX1_isPair 1 (some .boolean), Cond.methodLink RX3 105 yX4_splits, Cond.instanceMethod yX4_splits, Cond.selects RX4 yX4_splits yX4_splits, Cond.code yX4_splits cX4_splits 1 (some .boolean), Cond.methodLink RX3 108 yX4_gives, Cond.instanceMethod yX4_gives, Cond.selects RX4 yX4_gives yX4_gives, Cond.code yX4_gives cX4_gives 1 (some .boolean), Cond.methodLink RX3 146 yX3_actTotal, Cond.instanceMethod yX3_actTotal, Cond.selects RX3 yX3_actTotal yX3_actTotal, Cond.code yX3_actTotal cX3_actTotal 2 (some .long), Cond.fieldLink RX3 69 "ShoeTable$Odds" "playerRound" "I", Cond.fieldLink RX3 117 "ShoeTable$Hand" "ace" "Z"]
def wsX5_deal_r6 : List Cond := [Cond.constantLong RX3 141 (-1), Cond.methodLink RX3 114 yX3_numberHeaps, Cond.instanceMethod yX3_numberHeaps, Cond.selects RX3 yX3_numberHeaps yX3_numberHeaps, Cond.code yX3_numberHeaps cX3_numberHeaps 3 none, Cond.fieldLink RX3 50 "ShoeTable$Odds" "step" "[I", Cond.methodLink RX3 174 yX0_count, Cond.instanceMethod yX0_count, Cond.selects RX0 yX0_count yX0_count, Cond.code yX0_count cX0_count 2 (some .int), Cond.methodLink RX3 121 yX3_standTotal, Cond.instanceMethod yX3_standTotal, Cond.selects RX3 yX3_standTotal yX3_standTotal, Cond.code yX3_standTotal cX3_standTotal 8 (some .long), Cond.fieldLink RX3 46 "ShoeTable$Odds" "pay" "[J", Cond.fieldLink RX3 60 "ShoeTable$Odds" "houseRound" "I", Cond.static yX5_orders, Cond.code yX5_orders cX5_orders 1 (some .long), Cond.fieldLink RX5 237 "ShoeTable" "ORDERS" "[J", Cond.methodLink RX3 177 yX4_value, Cond.instanceMethod yX4_value, Cond.selects RX4 yX4_value yX4_value, Cond.code yX4_value cX4_value 3 (some .int), Cond.methodLink RX3 181 yX4_isNatural]
def wsX5_deal_r7 : List Cond := [Cond.instanceMethod yX4_isNatural, Cond.selects RX4 yX4_isNatural yX4_isNatural, Cond.code yX4_isNatural cX4_isNatural 3 (some .boolean), Cond.methodLink RX3 185 yX4_settled, Cond.instanceMethod yX4_settled, Cond.selects RX4 yX4_settled yX4_settled, Cond.code yX4_settled cX4_settled 4 (some .int), Cond.methodLink RX3 149 yX3_houseTotal, Cond.instanceMethod yX3_houseTotal, Cond.selects RX3 yX3_houseTotal yX3_houseTotal, Cond.code yX3_houseTotal cX3_houseTotal 10 (some .long), Cond.fieldLink RX3 57 "ShoeTable$Odds" "houseRounds" "[I", Cond.fieldLink RX3 54 "ShoeTable$Odds" "houseTotals" "[J", Cond.methodLink RX3 189 yX4_goesOn, Cond.instanceMethod yX4_goesOn, Cond.selects RX4 yX4_goesOn yX4_goesOn, Cond.code yX4_goesOn cX4_goesOn 3 (some .boolean), Cond.methodLink RX3 193 yX4_end, Cond.instanceMethod yX4_end, Cond.selects RX4 yX4_end yX4_end, Cond.code yX4_end cX4_end 2 (some .int), Cond.methodLink RX3 158 yX0_add, Cond.instanceMethod yX0_add, Cond.selects RX0 yX0_add yX0_add]
def wsX5_deal_r8 : List Cond := [Cond.code yX0_add cX0_add 2 none, Cond.methodLink RX3 125 yX3_playerTotal, Cond.instanceMethod yX3_playerTotal, Cond.selects RX3 yX3_playerTotal yX3_playerTotal, Cond.code yX3_playerTotal cX3_playerTotal 10 (some .long), Cond.fieldLink RX3 66 "ShoeTable$Odds" "playerRounds" "[I", Cond.fieldLink RX3 63 "ShoeTable$Odds" "playerTotals" "[J", Cond.methodLink RX3 196 Lib.MathLoose.max_long.x, Cond.static Lib.MathLoose.max_long.x, Cond.initialized "java/lang/Math", Cond.code Lib.MathLoose.max_long.x Lib.MathLoose.max_long.code 4 (some .long), Cond.methodLink RX3 129 yX3_doubleTotal, Cond.instanceMethod yX3_doubleTotal, Cond.selects RX3 yX3_doubleTotal yX3_doubleTotal, Cond.code yX3_doubleTotal cX3_doubleTotal 5 (some .long), Cond.methodLink RX3 133 yX1_card, Cond.instanceMethod yX1_card, Cond.selects RX1 yX1_card yX1_card, Cond.code yX1_card cX1_card 2 (some .int), Cond.methodLink RX3 137 yX3_splitTotal, Cond.instanceMethod yX3_splitTotal, Cond.selects RX3 yX3_splitTotal yX3_splitTotal, Cond.code yX3_splitTotal cX3_splitTotal 9 (some .long), Cond.methodLink RX3 202 yX3_bothTotal]
def wsX5_deal_r9 : List Cond := [Cond.instanceMethod yX3_bothTotal, Cond.selects RX3 yX3_bothTotal yX3_bothTotal, Cond.code yX3_bothTotal cX3_bothTotal 7 (some .long), Cond.methodLink RX5 178 yX5_orders, Cond.methodLink RX5 181 yX5_part, Cond.static yX5_part, Cond.code yX5_part cX5_part 7 (some .long), Cond.methodLink RX5 241 Lib.MathLoose.abs_long.x, Cond.static Lib.MathLoose.abs_long.x, Cond.code Lib.MathLoose.abs_long.x Lib.MathLoose.abs_long.code 2 (some .long), Cond.methodLink RX5 247 yX5_commonDivisor, Cond.static yX5_commonDivisor, Cond.code yX5_commonDivisor cX5_commonDivisor 11 (some .long)]
def wsX5_deal : List Cond := .code yX5_deal cX5_deal 2 (some .long) :: ((wsX5_deal_r1 ++ (wsX5_deal_r2 ++ (wsX5_deal_r3 ++ (wsX5_deal_r4 ++ (wsX5_deal_r5 ++ (wsX5_deal_r6 ++ (wsX5_deal_r7 ++ (wsX5_deal_r8 ++ wsX5_deal_r9)))))))) ++ wsX50 ++ wsX00 ++ wsX30 ++ wsX40 ++ wsX10)
