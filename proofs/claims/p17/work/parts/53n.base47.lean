/-! what the reference lays of stands and of going on -/
def sC (cap : Nat → Nat) (sN h : Nat) : Nat := sN + ptK cap (ofN cap h) 10
def aC (cap : Nat → Nat) (ha : Bool) (h : Nat) : Bool := ha || decide (ofN cap h 1 < cap 1)
def zC (cap : Nat → Nat) (h : Nat) : Nat := 2 + (smN cap - smN (ofN cap h))
def VA (w : Nat → Int32) (cap : Nat → Nat) (sN : Nat) (ha : Bool) (h : Nat) : Int32 := vlC w (nI (sC cap sN h)) (aC cap ha h)
def SDh (w : Nat → Int32) (un : Nat) (cap : Nat → Nat) (sN : Nat) (ha : Bool) (h : Nat) : Int64 := stV w un (ofN cap h) (nI (sC cap sN h)) (aC cap ha h) 3
def BSh (w : Nat → Int32) (un : Nat) (cap : Nat → Nat) (sN : Nat) (ha : Bool) (h : Nat) : Int64 := plV w un (smN (ofN cap h)) (ofN cap h) (nI (sC cap sN h)) (aC cap ha h) (nI (zC cap h))
def DRf (w : Nat → Int32) (un : Nat) (cap : Nat → Nat) (sN : Nat) (ha : Bool) (h : Nat) : Nat → Int64 := drF w un (ofN cap h) (nI (sC cap sN h)) (aC cap ha h) (nI (zC cap h))
def DBf (w : Nat → Int32) (un : Nat) (cap : Nat → Nat) (sN : Nat) (ha : Bool) (h : Nat) : Nat → Int64 := dbF w un (ofN cap h) (nI (sC cap sN h)) (aC cap ha h) 2
theorem ofN_le (cap : Nat → Nat) (h r : Nat) : ofN cap h r ≤ cap r := Nat.le_of_lt_succ (Nat.mod_lt _ (Nat.succ_pos _))
theorem ptN_K {cap : Nat → Nat} {h : Nat} : ∀ k, k ≤ 10 → ptN cap h k + ptK cap (ofN cap h) k = ptN cap (hpN cap 10 - 1) k := by
  intro k
  induction k with
  | zero => intro _; rfl
  | succ k ih =>
    intro hk
    show ptN cap h k + (k + 1) * ofN cap h (k + 1) + (ptK cap (ofN cap h) k + (k + 1) * (cap (k + 1) - ofN cap h (k + 1))) = ptN cap (hpN cap 10 - 1) k + (k + 1) * ofN cap (hpN cap 10 - 1) (k + 1)
    rw [← ih (by omega), ofN_full (by omega) hk]
    have e : (k + 1) * ofN cap h (k + 1) + (k + 1) * (cap (k + 1) - ofN cap h (k + 1)) = (k + 1) * cap (k + 1) := by
      rw [← Nat.mul_add]
      congr 1
      have := ofN_le cap h (k + 1)
      omega
    omega
theorem sC_b {cap : Nat → Nat} {sN h : Nat} (hc : smN cap ≤ 12) (hs : sN ≤ 120) : sN ≤ sC cap sN h ∧ sC cap sN h ≤ 240 := by
  have q := ptK_le cap (ofN cap h) 10 (by omega)
  rw [smU_10] at q
  unfold sC
  omega
theorem va_C {w : Nat → Int32} {cap stp siz pts : Nat → Nat} {hp tg sN h : Nat} {ms : Int32} {ha : Bool} (hL : LaidP cap stp hp siz pts) (hh : h < hp) (em : ms = nI sN) (ew : w 0 = nI tg) : vaM (nI tg) ms pts hp h ha (h / stp 1 % (cap 1 + 1)) (cap 1) = VA w cap sN ha h := by
  have e1 : h / stp 1 % (cap 1 + 1) = ofN cap h 1 := by unfold ofN; rw [hL.2.1 1 (by omega) (by omega)]
  have hp1 := hL.hp
  have p1 := (hL.2.2.2 h hh).2
  have p2 := (hL.2.2.2 (hp - 1) (by omega)).2
  have k := ptN_K (cap := cap) (h := h) 10 (by omega)
  rw [← hL.2.2.1] at k
  unfold vaM VA aC sC
  rw [e1, em, p1, p2, nI_add, nI_subT (by omega), show sN + ptN cap (hp - 1) 10 - ptN cap h 10 = sN + ptK cap (ofN cap h) 10 by omega, ← ew]
  rfl
theorem vl_b {w : Nat → Int32} {s : Nat} {a : Bool} (h : s ≤ 1000) : (s : Int) ≤ (vlC w (nI s) a).toInt := by
  unfold vlC
  have h10 : (nI s + 10).toInt = s + 10 := by rw [i32_add (by rw [toInt_nI (by omega), t10]; omega) (by rw [toInt_nI (by omega), t10]; omega), t10, toInt_nI (by omega)]
  by_cases z : bI a = 0
  · rw [if_pos z, toInt_nI (by omega)]; omega
  · rw [if_neg z]
    by_cases y : w 0 < nI s + 10
    · rw [if_pos y, toInt_nI (by omega)]; omega
    · rw [if_neg y, h10]; omega
theorem na_3 {w : Nat → Int32} {v : Int32} : naB w v 3 = false := by
  unfold naB
  rw [decide_eq_false (by decide), Bool.false_and]
theorem st_z {w : Nat → Int32} {un : Nat} {c : Nat → Nat} {s : Int32} {a : Bool} {z : Nat} (h : 3 ≤ z) (h2 : z < 1000) : stV w un c s a (nI z) = stV w un c s a 3 := by
  have e : naB w (vlC w s a) (nI z) = false := by
    unfold naB
    rw [decide_eq_false (fun q => by have := (nI_eq (a := z) (b := 2) (by omega) (by decide)).mp q; omega), Bool.false_and]
  unfold stV
  rw [e, na_3]
section StM
variable {w : Nat → Int32} {un : Nat} {cap : Nat → Nat} {sN : Nat} {ha : Bool} {h : Nat}
theorem sm_of (hc : smN cap ≤ 12) : smN (ofN cap h) ≤ 12 := Nat.le_trans (smN_mo (fun r _ _ => ofN_le cap h r)) hc
theorem SD_y (hw : (w 0).toInt ≤ 21) (hu : un ≤ 10) (hc : smN cap ≤ 12) (hs : sN ≤ 120) {v : Int32} (ev : VA w cap sN ha h = v) (hv : v ≤ w 0) : SDh w un cap sN ha h = hvM (w 0) (w 1) (w 2) false v 2 (ofN cap h) un (decide (nI un = 1)) := by
  have b := sC_b (cap := cap) (h := h) hc hs
  have ev2 : vlC w (nI (sC cap sN h)) (aC cap ha h) = v := ev
  have bu := (bu_i2 (w := w) (s := nI (sC cap sN h)) (a := aC cap ha h) (by rw [toInt_nI (by omega)]; omega) (by rw [toInt_nI (by omega)]; omega)).mpr (by rw [ev2]; exact hv)
  unfold SDh stV
  rw [if_pos bu, na_3, ev2, ho_S hv hw hu (sm_of hc)]
  rfl
theorem SD_n (hc : smN cap ≤ 12) (hs : sN ≤ 120) (hv : ¬ VA w cap sN ha h ≤ w 0) : SDh w un cap sN ha h = (-2) * ord0 (smN (ofN cap h)) := by
  have b := sC_b (cap := cap) (h := h) hc hs
  have bu := mt (bu_i2 (w := w) (s := nI (sC cap sN h)) (a := aC cap ha h) (by rw [toInt_nI (by omega)]; omega) (by rw [toInt_nI (by omega)]; omega)).mp hv
  unfold SDh stV
  rw [if_neg bu]
theorem VA_pos (hc : smN cap ≤ 12) (hs : sN ≤ 120) (h1 : 1 ≤ sN) : 1 ≤ (VA w cap sN ha h).toInt := by
  have b := sC_b (cap := cap) (h := h) hc hs
  have := vl_b (w := w) (s := sC cap sN h) (a := aC cap ha h) (by omega)
  unfold VA
  omega
/-- a card less: sum, ace and size -/
theorem ch_sC {r : Nat} (hh : h < hpN cap 10) (r1 : 1 ≤ r) (r2 : r ≤ 10) (hp : 0 < ofN cap h r) : nI (sC cap sN (h - hpN cap (r - 1))) = nI (sC cap sN h) + nI r ∧ aC cap ha (h - hpN cap (r - 1)) = (aC cap ha h || decide (nI r = 1)) ∧ smN (ofN cap (h - hpN cap (r - 1))) + 1 = smN (ofN cap h) := by
  have d := ofN_dec hh r1 r2 hp
  refine ⟨?_, ?_, ?_⟩
  · unfold sC
    rw [ptK_cg d.2 10 (by omega), ptK_dec r1 r2 hp (ofN_le cap h r), nI_add, Nat.add_assoc]
  · unfold aC
    rw [d.2 1 (by omega) (by omega), Bool.or_assoc]
    congr 1
    have n1 : decide (nI r = 1) = decide (r = 1) := by rw [decide_eq_decide]; exact nI_eq (a := r) (b := 1) (by omega) (by decide)
    rw [n1]
    unfold updN
    by_cases z : r = 1
    · subst z
      rw [if_pos rfl, decide_eq_true rfl, Bool.or_true, decide_eq_true]
      have := ofN_le cap h 1
      omega
    · rw [if_neg (by omega), decide_eq_false z, Bool.or_false]
  · rw [smN_cg d.2]
    exact smN_dec r1 r2 hp
theorem dr_y {stp siz pts : Nat → Nat} {hp r : Nat} {bst : Nat → Int64} (hL : LaidP cap stp hp siz pts) (hlt : h < hp) (r1 : 1 ≤ r) (r2 : r ≤ 10) (hB : ∀ h9, h9 < h → smN (ofN cap h9) < smN cap → bst h9 = BSh w un cap sN ha h9) (hp0 : ¬ h / stp r % (cap r + 1) ≤ 0) : (nI (h / stp r % (cap r + 1))).toInt64 * bst (h - stp r) = DRf w un cap sN ha h r := by
  have es := hL.2.1 r r1 r2
  have e0 : h / stp r % (cap r + 1) = ofN cap h r := by unfold ofN; rw [es]
  rw [e0] at hp0 ⊢
  have hlt2 : h < hpN cap 10 := by rw [← hL.2.2.1]; exact hlt
  have d := ofN_dec hlt2 r1 r2 (by omega)
  have q := ch_sC (sN := sN) (ha := ha) hlt2 r1 r2 (by omega)
  have p1 := hpN_pos cap (r - 1)
  have o12 : ofN cap h r ≤ 12 := Nat.le_trans (ofN_le cap h r) (cap_le hL.1 r1 r2)
  have mo := smN_mo (c := ofN cap h) (c' := cap) (fun r _ _ => ofN_le cap h r)
  rw [hB _ (by rw [es]; omega) (by rw [es]; omega), es]
  unfold BSh DRf drF
  rw [if_neg (by omega), nI_l (by omega), q.1, q.2.1, plV_cg _ _ _ _ _ _ d.2, show smN (ofN cap h) - 1 = smN (ofN cap (h - hpN cap (r - 1))) by omega]
  have ez : nI (zC cap (h - hpN cap (r - 1))) = nI (zC cap h) + 1 := by
    unfold zC
    rw [show 2 + (smN cap - smN (ofN cap (h - hpN cap (r - 1)))) = 2 + (smN cap - smN (ofN cap h)) + 1 by omega]
    exact (nI_add _ 1).symm
  rw [ez]
theorem dr_n {stp : Nat → Nat} {r : Nat} (es : stp r = hpN cap (r - 1)) (h0 : h / stp r % (cap r + 1) ≤ 0) : 0 = DRf w un cap sN ha h r := by
  have e0 : h / stp r % (cap r + 1) = ofN cap h r := by unfold ofN; rw [es]
  unfold DRf drF
  rw [if_pos (by omega)]
theorem db_y {stp siz pts : Nat → Nat} {hp r : Nat} {std : Nat → Int64} (hL : LaidP cap stp hp siz pts) (hlt : h < hp) (r1 : 1 ≤ r) (r2 : r ≤ 10) (hB : ∀ h9, h9 < hp → std h9 = SDh w un cap sN ha h9) (hp0 : ¬ h / stp r % (cap r + 1) ≤ 0) : (nI (h / stp r % (cap r + 1))).toInt64 * std (h - stp r) = DBf w un cap sN ha h r := by
  have es := hL.2.1 r r1 r2
  have e0 : h / stp r % (cap r + 1) = ofN cap h r := by unfold ofN; rw [es]
  rw [e0] at hp0 ⊢
  have hlt2 : h < hpN cap 10 := by rw [← hL.2.2.1]; exact hlt
  have d := ofN_dec hlt2 r1 r2 (by omega)
  have q := ch_sC (sN := sN) (ha := ha) hlt2 r1 r2 (by omega)
  have p1 := hpN_pos cap (r - 1)
  have o12 : ofN cap h r ≤ 12 := Nat.le_trans (ofN_le cap h r) (cap_le hL.1 r1 r2)
  rw [hB _ (by rw [es]; omega), es]
  unfold SDh DBf dbF
  rw [if_neg (by omega), nI_l (by omega), q.1, q.2.1, stV_cg d.2]
  rfl
theorem db_n {stp : Nat → Nat} {r : Nat} (es : stp r = hpN cap (r - 1)) (h0 : h / stp r % (cap r + 1) ≤ 0) : 0 = DBf w un cap sN ha h r := by
  have e0 : h / stp r % (cap r + 1) = ofN cap h r := by unfold ofN; rw [es]
  unfold DBf dbF
  rw [if_pos (by omega)]
/-! the best of standing and going on -/
theorem bs_e (hc : smN cap ≤ 12) (hs : sN ≤ 120) (hl : smN (ofN cap h) < smN cap) : BSh w un cap sN ha h = if VA w cap sN ha h ≤ w 0 then (if smN (ofN cap h) = 0 then SDh w un cap sN ha h else mxL (SDh w un cap sN ha h) (hsm (DRf w un cap sN ha h) 10)) else SDh w un cap sN ha h := by
  have b := sC_b (cap := cap) (h := h) hc hs
  have bu := bu_i2 (w := w) (s := nI (sC cap sN h)) (a := aC cap ha h) (by rw [toInt_nI (by omega)]; omega) (by rw [toInt_nI (by omega)]; omega)
  have ez : stV w un (ofN cap h) (nI (sC cap sN h)) (aC cap ha h) (nI (zC cap h)) = SDh w un cap sN ha h := st_z (by unfold zC; omega) (by unfold zC; omega)
  by_cases y : VA w cap sN ha h ≤ w 0
  · rw [if_pos y]
    have hb := bu.mpr y
    by_cases z : smN (ofN cap h) = 0
    · rw [if_pos z]
      unfold BSh
      rw [z]
      exact ez
    · rw [if_neg z, ← ez]
      unfold BSh DRf drF
      generalize hn : smN (ofN cap h) = n at z
      cases n with
      | zero => exact absurd rfl z
      | succ n =>
        show (if buC w (nI (sC cap sN h)) = 0 then _ else _) = _
        rw [if_pos hb]
        rfl
  · rw [if_neg y, SD_n hc hs y]
    unfold BSh
    generalize hn : smN (ofN cap h) = n
    have hb := mt bu.mp y
    cases n with
    | zero =>
      show stV w un (ofN cap h) (nI (sC cap sN h)) (aC cap ha h) (nI (zC cap h)) = _
      unfold stV
      rw [if_neg hb, hn]
    | succ n =>
      show (if buC w (nI (sC cap sN h)) = 0 then _ else (-2) * ord0 (n + 1)) = _
      rw [if_neg hb]
end StM
/-! the loops over heaps -/
theorem fs_sb {sb : Bool} {F : Nat → Int32} {x : Int32} {h : Nat} (hsb : sb = false → ∀ h9, h9 < h → ¬ F h9 = x) (z : (sb || decide (F h = x)) = false) : ∀ h9, h9 < h + 1 → ¬ F h9 = x := by
  have z1 : sb = false := by cases sb with | false => rfl | true => exact absurd z (by simp)
  rw [z1, Bool.false_or] at z
  intro h9 l
  by_cases y : h9 = h
  · rw [y]; exact of_decide_eq_false z
  · exact hsb z1 h9 (by omega)
theorem fs_st {F : Nat → Int32} {S s0 std : Nat → Int64} {x : Int32} {h hp : Nat} (hi : ∀ h9, h9 < hp → std h9 = if h9 < h ∧ F h9 = x then S h9 else s0 h9) (hh : h < hp) {v : Int64} (ev : v = if F h = x then S h else std h) : ∀ h9, h9 < hp → vp_updL std h v h9 = if h9 < h + 1 ∧ F h9 = x then S h9 else s0 h9 := by
  intro h9 l
  unfold vp_updL
  by_cases y : h9 = h
  · subst y
    rw [if_pos rfl, ev]
    by_cases z : F h9 = x
    · rw [if_pos z, if_pos ⟨by omega, z⟩]
    · rw [if_neg z, if_neg (fun q => z q.2), hi h9 l, if_neg (fun q => z q.2)]
  · rw [if_neg y, hi h9 l]
    by_cases z : h9 < h ∧ F h9 = x
    · rw [if_pos z, if_pos ⟨by omega, z.2⟩]
    · rw [if_neg z, if_neg (fun q => z ⟨by omega, q.2⟩)]
theorem fs_v {F : Nat → Int32} {S s0 std : Nat → Int64} {v hp : Nat} (hv : v ≤ 100) (hSD : ∀ h9, h9 < hp → (F h9).toInt < (v : Int) → s0 h9 = S h9) (hi : ∀ h9, h9 < hp → std h9 = if F h9 = nI v then S h9 else s0 h9) : ∀ h9, h9 < hp → (F h9).toInt < ((v + 1 : Nat) : Int) → std h9 = S h9 := by
  intro h9 l q
  rw [hi h9 l]
  by_cases z : F h9 = nI v
  · rw [if_pos z]
  · rw [if_neg z]
    refine hSD h9 l ?_
    have : ¬ (F h9).toInt = v := fun y => z (Int32.toInt_inj.mp (by rw [y, toInt_nI (by omega)]))
    omega
theorem fs_w {F : Nat → Int32} {S s0 : Nat → Int64} {v hp : Nat} (hv : v ≤ 100) (hSD : ∀ h9, h9 < hp → (F h9).toInt < (v : Int) → s0 h9 = S h9) (hno : ∀ h9, h9 < hp → ¬ F h9 = nI v) : ∀ h9, h9 < hp → (F h9).toInt < ((v + 1 : Nat) : Int) → s0 h9 = S h9 := by
  intro h9 l q
  refine hSD h9 l ?_
  have : ¬ (F h9).toInt = v := fun y => hno h9 l (Int32.toInt_inj.mp (by rw [y, toInt_nI (by omega)]))
  omega
theorem fs_b {F : Nat → Int32} {B s0 std : Nat → Int64} {t : Int32} {h hp : Nat} (hi : ∀ h9, h9 < hp → std h9 = if h9 < h ∧ ¬ F h9 ≤ t then B h9 else s0 h9) (hh : h < hp) {v : Int64} (ev : v = if F h ≤ t then std h else B h) : ∀ h9, h9 < hp → vp_updL std h v h9 = if h9 < h + 1 ∧ ¬ F h9 ≤ t then B h9 else s0 h9 := by
  intro h9 l
  unfold vp_updL
  by_cases y : h9 = h
  · subst y
    rw [if_pos rfl, ev]
    by_cases z : F h9 ≤ t
    · rw [if_pos z, if_neg (fun q => q.2 z), hi h9 l, if_neg (fun q => q.2 z)]
    · rw [if_neg z, if_pos ⟨by omega, z⟩]
  · rw [if_neg y, hi h9 l]
    by_cases z : h9 < h ∧ ¬ F h9 ≤ t
    · rw [if_pos z, if_pos ⟨by omega, z.2⟩]
    · rw [if_neg z, if_neg (fun q => z ⟨by omega, q.2⟩)]
theorem sw_e {w : Nat → Int32} {un tg : Nat} {cap : Nat → Nat} {sN : Nat} {ha : Bool} {h : Nat} {z st so : Int32} (hw : (w 0).toInt ≤ 21) (hu : un ≤ 10) (hc : smN cap ≤ 12) (hs : sN ≤ 120) (hv : VA w cap sN ha h ≤ w 0) (e0 : w 0 = nI tg) (e1 : w 1 = st) (e2 : w 2 = so) : stV w un (ofN cap h) (nI (sC cap sN h)) (aC cap ha h) z = hvM (nI tg) st so false (VA w cap sN ha h) (if bI (naB w (VA w cap sN ha h) z) = 0 then 2 else w 6) (ofN cap h) un (decide (nI un = 1)) := by
  have b := sC_b (cap := cap) (h := h) hc hs
  have bu := (bu_i2 (w := w) (s := nI (sC cap sN h)) (a := aC cap ha h) (by rw [toInt_nI (by omega)]; omega) (by rw [toInt_nI (by omega)]; omega)).mpr hv
  have ev : vlC w (nI (sC cap sN h)) (aC cap ha h) = VA w cap sN ha h := rfl
  unfold stV
  rw [if_pos bu, ev, ho_S hv hw hu (sm_of hc), e0, e1, e2]
