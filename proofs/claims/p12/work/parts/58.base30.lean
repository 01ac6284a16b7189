/-! the law's invariant -/
def LkA (w : Nat → Int32) (tgt : Nat) (stan soft doub spli giv bon : Int32) (f fs : Nat → Int32) (tot : Int32) (cc : Nat → Nat) (fg fw : Nat → Int32) (totg : Int32) (ff fm : Nat → Int32) (totf : Int32) (cf : Nat → Nat) (mkx mmx : Nat → Int32) (n0 sm : Int32) (ace : Bool) (g gm : Nat → Int32) (hn : Nat) (up : Int32) (un : Nat) (told : Bool) : Prop := LkR w tgt stan soft doub spli giv bon ∧ LkS f fs tot cc fg fw totg told cf n0 sm ace g gm hn up un ∧ LkC ff fm totf cf ∧ LkM mkx mmx
theorem lk_n0 {n0 sm : Int32} {ace : Bool} {g gm : Nat → Int32} {hn : Nat} (h : LkH n0 sm ace g gm hn) : ¬ n0 < 0 ∧ n0 ≤ 12 := by
  rw [h.1]
  have := h.2.1
  exact ⟨nI_pos (by omega), nI_le (b := 12) this (by decide)⟩
theorem lk_fp {f fs : Nat → Int32} {tot p0 : Int32} {cc : Nat → Nat} (h : LkC f fs tot cc) : ¬ rkB p0 = 0 → 0 ≤ f p0.toNatClampNeg := by
  intro z
  obtain ⟨k, k1, k2, rfl⟩ := rk_nat z
  rw [nI_clamp (by omega), (h.1 k k1 k2).1]
  exact nI_pos' (by have := (h.1 k k1 k2).2; omega)
theorem lk_t0 {f fs : Nat → Int32} {tot : Int32} {cc : Nat → Nat} (h : LkC f fs tot cc) : 0 ≤ tot := by
  rw [leI, t0]
  exact lk_tot h
theorem lk_dr {f fs : Nat → Int32} {tot : Int32} {cc : Nat → Nat} {ch : Int64} (h : LkC f fs tot cc) : ¬ tot = 0 → ¬ rkB (rkAt f (plc (ch * 6364136223846793005 + 1442695040888963407) tot)) = 0 ∧ 0 < f (rkAt f (plc (ch * 6364136223846793005 + 1442695040888963407) tot)).toNatClampNeg := fun z => dr_ok h.1 h.2.2 (fun y => by
  have a := lk_tot h
  rw [leI, t0] at y
  exact z (Int32.toInt_inj.mp (by rw [t0]; omega)))
theorem lk_w0 {w : Nat → Int32} {tgt : Nat} {stan soft doub spli giv bon : Int32} (h : LkR w tgt stan soft doub spli giv bon) : (w 0).toInt ≤ 21 ∧ tgt ≤ 21 ∧ stan.toInt ≤ 21 := by
  obtain ⟨r0, r1, r2, r3, r4, r5, r6, l1, l2, l3, l4⟩ := h
  rw [r0, toInt_nI (by omega)]
  omega
theorem lk_cg {fg fw fm : Nat → Int32} {totg : Int32} {told : Bool} {cc cf : Nat → Nat} (iG : LkG fg fw totg) (iT : LkT told fg cc cf) : ∃ cg : Nat → Nat, told = false → ∀ j, 1 ≤ j → j ≤ 10 → fw j = nI (cg j) ∧ cg j ≤ cf j := by
  cases told with
  | true => exact ⟨fun _ => 0, fun z => absurd z (by decide)⟩
  | false =>
    obtain ⟨cg, h⟩ := iT rfl
    exact ⟨cg, fun _ j a b => ⟨by rw [iG.1 j a b]; exact (h j a b).1, by have := (h j a b).2; omega⟩⟩
theorem lk_mm {mk mm : Nat → Int32} (h : LkM mk mm) : (∀ j, 1 ≤ j → j ≤ 10 → -3 ≤ (mk j).toInt ∧ (mk j).toInt ≤ 3) ∧ (∀ j, 1 ≤ j → j ≤ 10 → -3 ≤ (mm j).toInt ∧ (mm j).toInt ≤ 3) := ⟨fun j a b => (h j a b).2, fun j a b => by rw [(h j a b).1]; exact (h j a b).2⟩
theorem lk_h0 (g gm : Nat → Int32) : LkH 0 0 false g gm 0 := ⟨by decide, by omega, rfl, rfl, fun j x => absurd x (by omega)⟩
theorem lk_u0 : LkU (-1) 0 := Or.inl ⟨rfl, rfl⟩
theorem un_b {n : Nat} (h : n ≤ 10) : 0 ≤ (nI n).toInt ∧ (nI n).toInt ≤ 10 := by rw [toInt_nI (by omega)]; omega
