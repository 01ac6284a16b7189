/-! a table's calls: what they keep of rounds -/
def RdG (hr2 : Nat → Int32) (hrd hrd2 : Int32) (pr2 : Nat → Int32) (prd prd2 : Int32) : Prop := RI hr2 hrd2 ∧ RI pr2 prd2 ∧ hrd2.toInt ≤ hrd.toInt + 1487200 ∧ prd2.toInt ≤ prd.toInt + 2750
theorem RdG.rf {hr pr : Nat → Int32} {hrd prd : Int32} (h1 : RI hr hrd) (h2 : RI pr prd) : RdG hr hrd hrd pr prd prd := ⟨h1, h2, by omega, by omega⟩
theorem gi_le (P : Prop) [Decidable P] : (if P then (2304 : Int) else 100) ≤ 2304 := by split <;> omega
theorem thC_up {w : Nat → Int32} {n sm : Int32} {g : Nat → Int32} {up tot p : Int32} (h : ¬ thC w n sm g up tot p = 0) : ¬ up = -1 := by
  intro z
  apply h
  unfold thC
  by_cases a : n = 0
  · rw [if_pos a]
  · rw [if_neg a]
    by_cases b : buC w sm = 0
    · rw [if_pos b, if_pos z]
    · rw [if_neg b]
theorem up_n {up : Int32} {un : Nat} (h : (un = 0 ∧ up = -1) ∨ (1 ≤ un ∧ un ≤ 10 ∧ up = nI un)) (z : ¬ up = -1) : up = nI un ∧ un ≤ 10 := by
  rcases h with h | h
  · exact absurd h.2 z
  · exact ⟨h.2.2, h.2.1⟩
theorem tot_12 {tot : Int32} {c : Nat → Nat} (e : tot = nI (smN c)) (h320 : smN c ≤ 320) (h : tot ≤ 12) : smN c ≤ 12 := by
  rw [e] at h
  exact (nI_leI (a := smN c) (b := 12) (by omega) (by decide)).mp h
theorem tot_8 {tot : Int32} {c : Nat → Nat} (e : tot = nI (smN c)) (h320 : smN c ≤ 320) (h : tot ≤ 8) : smN c ≤ 12 := by
  rw [e] at h
  have := (nI_leI (a := smN c) (b := 8) (by omega) (by decide)).mp h
  omega
theorem cnt_q {f q : Nat → Int32} {c : Nat → Nat} (h : cntI f c) (e : ∀ j, j < 11 → q j = f j) : cntI q c := fun j a b => by rw [e j (by omega)]; exact h j a b
theorem or_f {tot : Int32} {c : Nat → Nat} (e : tot = nI (smN c)) (h : smN c ≤ 12) : orC tot = lN (facN (smN c)) := by rw [e, orC_n h, ord_f _ (by omega)]
theorem fac_62 {n : Nat} (h : n ≤ 12) : 0 < facN n ∧ facN n < 2 ^ 62 := by
  have := fac_b n (by omega)
  exact ⟨this.1, by omega⟩
theorem ho_bE {w : Nat → Int32} {e : Int32} {un : Nat} {c : Nat → Nat} (h : smN c ≤ 12) : (hoV w (pyE e) un c).toInt.natAbs < 2 ^ 62 := by
  have q := hv_b (go := goC w) (sc := scC w (pyE e)) (b := 1) (by omega) (fun s a => by
    unfold scC pyE
    split <;> decide) (smN c) c (nI un) (decide (nI un = 1)) h rfl
  have f := fac_b (smN c) (by omega)
  unfold hoV
  omega
theorem ch_dig {cc stp siz pts : Nat → Nat} {hp : Nat} (hL : LaidP (capB cc 0) stp hp siz pts) : ∀ j, 1 ≤ j → j ≤ 10 → ofN (capB cc 0) (hp - 1) j = cc j := by
  intro j a b
  rw [hL.2.2.1, ofN_full a b]
  unfold capB
  rw [if_neg (by omega)]
theorem hvM_bC {t st so e wn : Int32} {c : Nat → Nat} {s : Nat} {a : Bool} (h : smN c ≤ 12) : (hvM t st so true e wn c s a).toInt.natAbs < 2 ^ 62 := by
  have q := hv_b (go := goM t st so) (sc := sMM t true e wn) (b := 1) (by omega) (fun s a => by
    unfold sMM scM
    rw [if_neg (by decide)]
    split <;> (split <;> decide)) (smN c) c (nI s) a h rfl
  have f := fac_b (smN c) (by omega)
  unfold hvM
  omega
