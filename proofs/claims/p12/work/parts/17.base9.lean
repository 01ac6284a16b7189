/-! ints that are Nats; rows of them; joins -/
def nA (c : Nat → Nat) : Nat → Int32 := fun j => nI (c j)
def updN (c : Nat → Nat) (k v : Nat) : Nat → Nat := fun j => if j = k then v else c j
theorem upd_nA (c : Nat → Nat) (k v : Nat) : upd (nA c) k (nI v) = nA (updN c k v) := by
  funext j
  unfold upd nA updN
  by_cases h : j = k
  · rw [if_pos h, if_pos h]
  · rw [if_neg h, if_neg h]
theorem nI_mulT (a b : Nat) : nI a * nI b = nI (a * b) := (Int32.ofNat_mul a b).symm
theorem nI_subT {a b : Nat} (h : b ≤ a) : nI a - nI b = nI (a - b) := by
  have e : nI a = nI (a - b) + nI b := by rw [nI_add, Nat.sub_add_cancel h]
  rw [e, Int32.add_sub_cancel]
theorem nI_divT {a b : Nat} (ha : a < 2 ^ 31) (hb : b < 2 ^ 31) : nI a / nI b = nI (a / b) := by
  have hq : a / b ≤ a := Nat.div_le_self a b
  apply Int32.toInt_inj.mp
  rw [Int32.toInt_div, nI_toInt ha, nI_toInt hb, nI_toInt (by omega), ← Int.ofNat_tdiv]
  generalize a / b = q at hq ⊢
  rw [Int.bmod_eq_of_le] <;> omega
theorem nI_remT {a b : Nat} (ha : a < 2 ^ 31) (hb : b < 2 ^ 31) : nI a - nI a / nI b * nI b = nI (a % b) := by
  rw [nI_divT ha hb, nI_mulT, nI_subT (Nat.div_mul_le_self a b)]
  congr 1
  have := Nat.div_add_mod a b
  rw [Nat.mul_comm] at this
  omega
theorem nI_incT {k c : Nat} {n : Int} (h : Int32.ofInt n = nI c) : nI k + Int32.ofInt n = nI (k + c) := by rw [h, nI_add]
theorem nI_decT {k c : Nat} {n : Int} (h : nI c + Int32.ofInt n = 0) : nI (k + c) + Int32.ofInt n = nI k := by
  rw [← nI_add, Int32.add_assoc, h, Int32.add_zero]
theorem bI_1 {b : Bool} (h : ¬ bI b = 0) : b = true := by cases b; exact absurd rfl h; rfl
theorem lN_divT {a b : Nat} (ha : a < 2 ^ 31) (hb : b < 2 ^ 31) : lN a / lN b = lN (a / b) := by
  have hq : a / b ≤ a := Nat.div_le_self a b
  apply Int64.toInt_inj.mp
  rw [Int64.toInt_div, lN_toInt ha, lN_toInt hb, lN_toInt (by omega), ← Int.ofNat_tdiv]
  generalize a / b = q at hq ⊢
  rw [Int.bmod_eq_of_le] <;> omega
theorem lN_remT {a b : Nat} (ha : a < 2 ^ 31) (hb : b < 2 ^ 31) : lN a - lN a / lN b * lN b = lN (a % b) := by
  rw [lN_divT ha hb, lN_mul, lN_sub (Nat.div_mul_le_self a b)]
  congr 1
  have := Nat.div_add_mod a b
  rw [Nat.mul_comm] at this
  omega
section JoinRows
variable {p : Program} {l : Launch} {e : Env} {R : Room} {s : State} {m : MethodId} {args : Array Value} {below : List Frame} {meth : Method} {c : Code} {H : Heap} {locs : List Loc} {cells slots : Nat} {Q : State → Prop}
/-- several ways come to one place: it is walked once -/
theorem lv_join {α : Type} {g : JFrame} (J n : Nat) (loc : α → List (Nat × Value)) (st : α → List Value) (P : α → Prop)
    (h1 : ∀ (a : α) (ls : Array Slot), lv_has ls n (loc a) → P a → W p l e R s m args below meth c H locs cells slots Q (F0 m J ls (st a)))
    (h2 : (∀ (a : α) (ls : Array Slot), lv_has ls n (loc a) → P a → W p l e R s m args below meth c H locs cells slots Q (F0 m J ls (st a))) → W p l e R s m args below meth c H locs cells slots Q g) : W p l e R s m args below meth c H locs cells slots Q g := h2 h1
end JoinRows
/-! what is drawn -/
/-- the rank at a place, cards lying by rising ranks, from rank r on -/
def rkN (c : Nat → Nat) : Nat → Nat → Nat → Nat
  | 0, r, _ => r
  | n + 1, r, q => if q < c r then r else rkN c n (r + 1) (q - c r)
/-- counts of cards -/
def cntI (f : Nat → Int32) (c : Nat → Nat) : Prop := ∀ j, 1 ≤ j → j ≤ 10 → f j = nI (c j) ∧ c j ≤ 32
def smN (c : Nat → Nat) : Nat := c 1 + c 2 + c 3 + c 4 + c 5 + c 6 + c 7 + c 8 + c 9 + c 10
theorem sm10_N {f : Nat → Int32} {c : Nat → Nat} (h : cntI f c) : sm10 f = nI (smN c) := by
  unfold sm10 smN
  rw [(h 1 (by omega) (by omega)).1, (h 2 (by omega) (by omega)).1, (h 3 (by omega) (by omega)).1, (h 4 (by omega) (by omega)).1, (h 5 (by omega) (by omega)).1, (h 6 (by omega) (by omega)).1, (h 7 (by omega) (by omega)).1, (h 8 (by omega) (by omega)).1, (h 9 (by omega) (by omega)).1, (h 10 (by omega) (by omega)).1]
  simp only [nI_add, Int32.zero_add]
theorem smN_le {f : Nat → Int32} {c : Nat → Nat} (h : cntI f c) : smN c ≤ 320 := by
  unfold smN
  have h1 := (h 1 (by omega) (by omega)).2
  have h2 := (h 2 (by omega) (by omega)).2
  have h3 := (h 3 (by omega) (by omega)).2
  have h4 := (h 4 (by omega) (by omega)).2
  have h5 := (h 5 (by omega) (by omega)).2
  have h6 := (h 6 (by omega) (by omega)).2
  have h7 := (h 7 (by omega) (by omega)).2
  have h8 := (h 8 (by omega) (by omega)).2
  have h9 := (h 9 (by omega) (by omega)).2
  have h0 := (h 10 (by omega) (by omega)).2
  omega
theorem if_nI {a b : Nat} {x y : Int32} (ha : a < 2 ^ 31) (hb : b < 2 ^ 31) : (if nI a ≤ nI b then x else y) = if b < a then y else x := by
  by_cases h : b < a
  · rw [if_pos h, if_neg (fun z => absurd ((nI_leI ha hb).mp z) (by omega))]
  · rw [if_neg h, if_pos ((nI_leI ha hb).mpr (by omega))]
theorem rkAt_N {f : Nat → Int32} {c : Nat → Nat} {q : Nat} (h : cntI f c) (hq : q < 2 ^ 31) : rkAt f (nI q) = nI (rkN c 9 1 q) := by
  have step : ∀ (r q : Nat) (X : Int32) (k : Nat), 1 ≤ r → r ≤ 9 → q < 2 ^ 31 → (c r ≤ q → X = nI (rkN c k (r + 1) (q - c r))) → (if f r ≤ nI q then X else nI r) = nI (rkN c (k + 1) r q) := by
    intro r q X k h1 h2 hq hX
    have hr := h r h1 (by omega)
    rw [hr.1, if_nI (by omega) hq]
    show _ = nI (if q < c r then r else rkN c k (r + 1) (q - c r))
    by_cases z : q < c r
    · rw [if_pos z, if_pos z]
    · rw [if_neg z, if_neg z]
      exact hX (by omega)
  have sb : ∀ (r q : Nat), 1 ≤ r → r ≤ 10 → c r ≤ q → nI q - f r = nI (q - c r) := fun r q h1 h2 hc => by rw [(h r h1 h2).1, nI_subT hc]
  unfold rkAt
  refine step 1 _ _ 8 (by omega) (by omega) hq (fun z => ?_)
  rw [sb 1 _ (by omega) (by omega) z]
  refine step 2 _ _ 7 (by omega) (by omega) (by omega) (fun z => ?_)
  rw [sb 2 _ (by omega) (by omega) z]
  refine step 3 _ _ 6 (by omega) (by omega) (by omega) (fun z => ?_)
  rw [sb 3 _ (by omega) (by omega) z]
  refine step 4 _ _ 5 (by omega) (by omega) (by omega) (fun z => ?_)
  rw [sb 4 _ (by omega) (by omega) z]
  refine step 5 _ _ 4 (by omega) (by omega) (by omega) (fun z => ?_)
  rw [sb 5 _ (by omega) (by omega) z]
  refine step 6 _ _ 3 (by omega) (by omega) (by omega) (fun z => ?_)
  rw [sb 6 _ (by omega) (by omega) z]
  refine step 7 _ _ 2 (by omega) (by omega) (by omega) (fun z => ?_)
  rw [sb 7 _ (by omega) (by omega) z]
  refine step 8 _ _ 1 (by omega) (by omega) (by omega) (fun z => ?_)
  rw [sb 8 _ (by omega) (by omega) z]
  refine step 9 _ _ 0 (by omega) (by omega) (by omega) (fun z => ?_)
  rfl
/-- the cards from rank r on, n more ranks beside it -/
def tlN (c : Nat → Nat) : Nat → Nat → Nat
  | 0, r => c r
  | n + 1, r => c r + tlN c n (r + 1)
theorem rkN_ok (c : Nat → Nat) : ∀ (n r q : Nat), q < tlN c n r → r ≤ rkN c n r q ∧ rkN c n r q ≤ r + n ∧ 0 < c (rkN c n r q) := by
  intro n
  induction n with
  | zero => intro r q h; exact ⟨Nat.le_refl _, Nat.le_refl _, by have : q < c r := h; show 0 < c r; omega⟩
  | succ n ih =>
    intro r q h
    have h : q < c r + tlN c n (r + 1) := h
    show r ≤ (if q < c r then r else rkN c n (r + 1) (q - c r)) ∧ (if q < c r then r else rkN c n (r + 1) (q - c r)) ≤ r + (n + 1) ∧ 0 < c (if q < c r then r else rkN c n (r + 1) (q - c r))
    by_cases z : q < c r
    · rw [if_pos z]; exact ⟨Nat.le_refl _, by omega, by omega⟩
    · rw [if_neg z]
      obtain ⟨a, b, d⟩ := ih (r + 1) (q - c r) (by omega)
      exact ⟨by omega, by omega, d⟩
theorem tlN_sm (c : Nat → Nat) : tlN c 9 1 = smN c := by
  unfold smN
  show c 1 + (c 2 + (c 3 + (c 4 + (c 5 + (c 6 + (c 7 + (c 8 + (c 9 + c 10)))))))) = _
  omega
theorem plc_N (ch : Int64) {t : Nat} (h0 : 0 < t) (ht : t < 2 ^ 31) : ∃ q : Nat, q < t ∧ plc ch (nI t) = nI q := by
  have hs : ((33 : Int32).toInt64.toUInt64 &&& Int64.toUInt64 63) = 33 := by decide
  have hu : (ch.toUInt64 >>> 33).toNat < 2 ^ 31 := by
    rw [UInt64.toNat_shiftRight]
    have := ch.toUInt64.toNat_lt
    rw [show (33 : UInt64).toNat % 64 = 33 by decide, Nat.shiftRight_eq_div_pow]
    omega
  refine ⟨(ch.toUInt64 >>> 33).toNat % t, Nat.mod_lt _ h0, ?_⟩
  have e : (ch.toUInt64 >>> 33).toInt64 = lN (ch.toUInt64 >>> 33).toNat := by
    have q := UInt64.toInt64_ofNat' (n := (ch.toUInt64 >>> 33).toNat)
    rw [UInt64.ofNat_toNat] at q
    exact q
  unfold plc
  rw [hs, e, nI_l ht, lN_remT hu ht, lN_i]
