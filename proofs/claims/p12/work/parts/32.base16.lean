/-! arrays of arrays, read -/
section Rows2
variable {p : Program} {l : Launch} {e : Env} {R : Room} {s : State} {m : MethodId} {args : Array Value} {below : List Frame} {meth : Method} {c : Code} {H : Heap} {locs : List Loc} {cells slots : Nat} {Q : State → Prop}
theorem va_aldA {D : va_G} {cl : List vw_C} {tys : List (ClassId × FieldType)} {ws : va_W} {cc : ByteArray} {pc : Nat} {ls : Array Slot} {rest : List Value} {a : Nat} (hexec : p.tables.exec = Jvm.exec) (hb : c.code = cc) (hK : va_K D cl tys s) (hP : va_P D cl ws H) (q0 t0 : Nat) {cA : ClassId} {n : Nat} {f : Nat → Option Nat} (ha : ws[q0]? = some (a, .inl (cA, n, .inr (.inr (.inr (.inr f)))))) (ht : tys[t0]? = some (cA, .array .long)) {i : Int32} (hin : vp_in i n) {ra : Nat} (hra : f i.toNatClampNeg = some ra) (hdg : decode cc pc = .ok (.aaload, 1))
    (kk : W p l e R s m args below meth c H locs cells slots Q (F0 m (pc + 1) ls (.ref ra :: rest))) : W p l e R s m args below meth c H locs cells slots Q (F0 m pc ls (.int i :: .ref a :: rest)) := by
  have hlt : i.toNatClampNeg < n := Nat.not_le.mp fun q => hin (Or.inr q)
  exact W.aald (v := .ref ra) (ty := .array .long) hexec hb (hP q0 _ ha) ((hK.2 t0 _ ht).1 n (fun j => va_rf (f j))) rfl (fun q => by cases q) (by show ¬ (i < 0 ∨ (arrV _ _ _).slots.size ≤ _); rw [arrV_size]; exact hin) (by show (arrV _ _ _).slots[_]? = _; rw [arrV_read _ _ hlt, hra]; rfl) rfl rfl hdg kk
end Rows2
/-! a card is added to the heaps -/
theorem mk_rng {x : Int32} (h1 : -3 ≤ x.toInt) (h2 : x.toInt ≤ 3) : ∃ a b : Nat, (if 0 < x then x else 0) = nI a ∧ (if (49 + x) < 49 then (49 + x) else 49) = nI b ∧ b ≤ 49 ∧ a ≤ 3 ∧ ∀ i : Nat, a ≤ i → i < b → 0 ≤ (i : Int) - x.toInt ∧ (i : Int) - x.toInt < 49 := by
  have e49 : (49 : Int32).toInt = 49 := by decide
  have es : (49 + x).toInt = 49 + x.toInt := by rw [i32_add (by rw [e49]; omega) (by rw [e49]; omega), e49]
  have hN : ∀ y : Int32, 0 ≤ y.toInt → y = nI y.toInt.toNat := fun y hy => Int32.toInt_inj.mp (by have := y.toInt_lt; rw [nI_toInt (by omega)]; omega)
  by_cases z : 0 < x
  · have z2 := (ltI _ _).mp z
    rw [t0] at z2
    refine ⟨x.toInt.toNat, 49, ?_, ?_, by omega, by omega, fun i a b => ⟨by omega, by omega⟩⟩
    · rw [if_pos z]; exact hN x (by omega)
    · rw [if_neg (fun q => by rw [ltI, es, e49] at q; omega)]; decide
  · have z2 := mt (ltI 0 x).mpr z
    rw [t0] at z2
    refine ⟨0, (49 + x.toInt).toNat, by rw [if_neg z]; decide, ?_, by omega, by omega, fun i a b => ⟨by omega, by omega⟩⟩
    by_cases y : (49 + x) < 49
    · rw [if_pos y]
      have := hN (49 + x) (by omega)
      rw [es] at this
      exact this
    · rw [if_neg y]
      rw [ltI, es, e49] at y
      have : (49 + x.toInt).toNat = 49 := by omega
      rw [this]
      decide
theorem sub_in {i : Nat} {x : Int32} (hi : i < 49) (h1 : 0 ≤ (i : Int) - x.toInt) (h2 : (i : Int) - x.toInt < 49) : vp_in (nI i - x) 49 := by
  rw [vp_in_iff, i32_sub (by rw [toInt_nI (by omega)]; omega) (by rw [toInt_nI (by omega)]; omega), toInt_nI (by omega)]
  omega
theorem sum_in {x : Int32} (h1 : ¬ x < (-24)) (h2 : x ≤ 24) : vp_in (24 + x) 49 := by
  have e1 : (24 : Int32).toInt = 24 := by decide
  have e2 : (-24 : Int32).toInt = -24 := by decide
  rw [ltI, e2] at h1
  rw [leI, e1] at h2
  rw [vp_in_iff, i32_add (by rw [e1]; omega) (by rw [e1]; omega), e1]
  omega
theorem n8_of {x : Int32} (h1 : ¬ x < 0) (h2 : ¬ 8 < x) : ∃ n : Nat, n ≤ 8 ∧ x = nI n := by
  have e1 : (8 : Int32).toInt = 8 := by decide
  rw [ltI, t0] at h1
  rw [ltI, e1] at h2
  exact ⟨x.toInt.toNat, by omega, Int32.toInt_inj.mp (by rw [nI_toInt (by omega)]; omega)⟩
theorem rk_nat {x : Int32} (h : ¬ rkB x = 0) : ∃ k : Nat, 1 ≤ k ∧ k ≤ 10 ∧ x = nI k := by
  obtain ⟨h1, h2⟩ := rkB_rng h
  rw [ltI, t1] at h1
  rw [ltI, t10] at h2
  exact ⟨x.toInt.toNat, by omega, by omega, Int32.toInt_inj.mp (by rw [nI_toInt (by omega)]; omega)⟩
