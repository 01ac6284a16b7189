/-! worths depend on the rules alone -/
def w7 (w w' : Nat → Int32) : Prop := ∀ j, j < 7 → w j = w' j
section W7
variable {w w' : Nat → Int32}
theorem vlC_w (h : w7 w w') (s : Int32) (a : Bool) : vlC w s a = vlC w' s a := by unfold vlC; rw [h 0 (by decide)]
theorem buC_w (h : w7 w w') (s : Int32) : buC w s = buC w' s := by unfold buC; rw [h 0 (by decide)]
theorem enC_w (h : w7 w w') (v : Int32) : enC w v = enC w' v := by unfold enC; rw [h 0 (by decide)]
theorem gnC_w (h : w7 w w') (v : Int32) (b : Bool) : gnC w v b = gnC w' v b := by unfold gnC; rw [h 1 (by decide), h 2 (by decide)]
theorem naB_w (h : w7 w w') (v n : Int32) : naB w v n = naB w' v n := by unfold naB; rw [h 0 (by decide)]
theorem stC_w (h : w7 w w') (v : Int32) (b : Bool) (e : Int32) : stC w v b e = stC w' v b e := by unfold stC; rw [h 0 (by decide), h 6 (by decide)]
theorem goC_w (h : w7 w w') : goC w = goC w' := by funext s a; unfold goC; rw [vlC_w h, gnC_w h]
theorem scC_w (h : w7 w w') (py : Nat → Int64) : scC w py = scC w' py := by funext s a; unfold scC; rw [vlC_w h, enC_w h]
theorem pyS_w (h : w7 w w') (v : Int32) (b : Bool) : pyS w v b = pyS w' v b := by funext j; unfold pyS; rw [stC_w h]
theorem pyB_w (h : w7 w w') (v v' : Int32) : pyB w v v' = pyB w' v v' := by funext j; unfold pyB; simp only [stC_w h]
theorem hoV_w (h : w7 w w') (py : Nat → Int64) (un : Nat) (c : Nat → Nat) : hoV w py un c = hoV w' py un c := by unfold hoV; rw [goC_w h, scC_w h]
theorem stV_w (h : w7 w w') (un : Nat) (c : Nat → Nat) (s : Int32) (a : Bool) (z : Int32) : stV w un c s a z = stV w' un c s a z := by
  unfold stV
  rw [buC_w h, vlC_w h, naB_w h, pyS_w h, hoV_w h]
theorem plV_w (h : w7 w w') (un : Nat) : ∀ n (c : Nat → Nat) (s : Int32) (a : Bool) (z : Int32), plV w un n c s a z = plV w' un n c s a z := by
  intro n
  induction n with
  | zero => intro c s a z; exact stV_w h un c s a z
  | succ n ih =>
    intro c s a z
    show (if buC w s = 0 then mxL (stV w un c s a z) (hsm (fun r => if c r = 0 then 0 else lN (c r) * plV w un n (updN c r (c r - 1)) (s + nI r) (a || decide (nI r = 1)) (z + 1)) 10) else (-2) * ord0 (n + 1)) = (if buC w' s = 0 then mxL (stV w' un c s a z) (hsm (fun r => if c r = 0 then 0 else lN (c r) * plV w' un n (updN c r (c r - 1)) (s + nI r) (a || decide (nI r = 1)) (z + 1)) 10) else (-2) * ord0 (n + 1))
    simp only [buC_w h, stV_w h, ih]
theorem drF_w (h : w7 w w') (un : Nat) (c : Nat → Nat) (s : Int32) (a : Bool) (z : Int32) : drF w un c s a z = drF w' un c s a z := by funext r; unfold drF; rw [plV_w h]
theorem plR_w (h : w7 w w') (un : Nat) (cap c : Nat → Nat) (s : Int32) (a : Bool) (z : Int32) : plR w un cap c s a z = plR w' un cap c s a z := by unfold plR; rw [buC_w h, drF_w h, plV_w h]
theorem dbF_w (h : w7 w w') (un : Nat) (c : Nat → Nat) (s : Int32) (a : Bool) (z : Int32) : dbF w un c s a z = dbF w' un c s a z := by funext r; unfold dbF; rw [stV_w h]
theorem vlS_w (h : w7 w w') (card : Int32) (k : Nat) : vlS w card k = vlS w' card k := by unfold vlS; rw [vlC_w h]
theorem spF_w (h : w7 w w') (un : Nat) (card : Int32) (n k : Nat) (c : Nat → Nat) : spF w un card n k c = spF w' un card n k c := by funext j; unfold spF; simp only [vlS_w h, pyB_w h, hoV_w h]
theorem spG_w (h : w7 w w') (un : Nat) (card : Int32) (c : Nat → Nat) : spG w un card c = spG w' un card c := by funext k; unfold spG; rw [spF_w h]
theorem acV_w (h : w7 w w') (un : Nat) (c : Nat → Nat) (s : Int32) (a : Bool) (z card act : Int32) : acV w un c s a z card act = acV w' un c s a z card act := by unfold acV; rw [stV_w h, plR_w h, dbF_w h, spG_w h]
theorem thC_w (h : w7 w w') (n sm : Int32) (g : Nat → Int32) (up tot p : Int32) : thC w n sm g up tot p = thC w' n sm g up tot p := by unfold thC; rw [buC_w h, h 3 (by decide), h 4 (by decide), h 5 (by decide)]
theorem thB_w (h : w7 w w') (n sm : Int32) (g : Nat → Int32) (up tot : Int32) : thB w n sm g up tot = thB w' n sm g up tot := by funext k; unfold thB; rw [thC_w h]
theorem bsV_w (h : w7 w w') (c : Nat → Nat) (a b u : Nat) : bsV w c a b u = bsV w' c a b u := by
  unfold bsV
  rw [thB_w h]
  simp only [acV_w h]
theorem dlF_w (h : w7 w w') (c : Nat → Nat) (a b : Nat) : dlF w c a b = dlF w' c a b := by funext u; unfold dlF; rw [bsV_w h]
theorem dlB_w (h : w7 w w') (c : Nat → Nat) (a : Nat) : dlB w c a = dlB w' c a := by funext b; unfold dlB; rw [dlF_w h]
theorem dlA_w (h : w7 w w') (c : Nat → Nat) : dlA w c = dlA w' c := by funext a; unfold dlA; rw [dlB_w h]
end W7
/-! what a stand is worth, by the reference's words -/
theorem st_e2 {w : Nat → Int32} {v e : Int32} {b : Bool} (hv : v ≤ w 0) : stC w v b e = seM v e (if bI b = 0 then 2 else w 6) := by
  have nv : ¬ w 0 < v := fun z => lt_nle z hv
  unfold stC seM
  rw [if_neg nv]
  by_cases z : e ≤ v
  · rw [if_pos z]
    by_cases y : e = v
    · subst y; rw [if_pos rfl, if_pos (Int32.le_refl _), if_pos (Int32.le_refl _)]
    · have nx : ¬ v ≤ e := fun x => y (Int32.toInt_inj.mp (by rw [leI] at x z; omega))
      rw [if_neg y, if_neg nx]
  · rw [if_neg z, if_pos (by rw [leI] at z ⊢; omega), if_neg z]
theorem bu_i2 {w : Nat → Int32} {s : Int32} {a : Bool} (h0 : 0 ≤ s.toInt) (h1 : s.toInt ≤ 1000) : buC w s = 0 ↔ vlC w s a ≤ w 0 := by
  have h10 : (s + 10).toInt = s.toInt + 10 := by rw [i32_add (by rw [t10]; omega) (by rw [t10]; omega), t10]
  have e : buC w s = 0 ↔ s ≤ w 0 := by
    unfold buC
    by_cases z : s ≤ w 0
    · rw [if_pos z]; exact ⟨fun _ => z, fun _ => rfl⟩
    · rw [if_neg z]; exact ⟨fun y => absurd y (by decide), fun y => absurd y z⟩
  rw [e]
  unfold vlC
  by_cases z : bI a = 0
  · rw [if_pos z]
  · rw [if_neg z]
    by_cases y : w 0 < s + 10
    · rw [if_pos y]
    · rw [if_neg y]
      rw [ltI, h10] at y
      rw [leI, leI, h10]
      omega
theorem go_e2 {w : Nat → Int32} {x : Nat} {b : Bool} (h : x ≤ 1000) : goC w (nI x) b = goM (w 0) (w 1) (w 2) (nI x) b := by
  unfold goC goM
  rw [gn_eq (by rw [toInt_nI (by omega)]; omega) (by rw [toInt_nI (by omega)]; omega)]
theorem en_2 {w : Nat → Int32} {x : Nat} {b : Bool} (h : x ≤ 1000) (hw : (w 0).toInt ≤ 21) : nI (enC w (vlC w (nI x) b)).toNatClampNeg = enC w (vlC w (nI x) b) := by
  have q := en_in (w := w) (s := nI x) (a := b) (by rw [toInt_nI (by omega)]; omega) (by rw [toInt_nI (by omega)]; omega) hw
  rw [vp_in_iff] at q
  apply Int32.toInt_inj.mp
  rw [toInt_nI (by show (enC w (vlC w (nI x) b)).toInt.toNat < 2 ^ 31; omega)]
  show ((enC w (vlC w (nI x) b)).toInt.toNat : Int) = _
  omega
theorem sc_S {w : Nat → Int32} {v : Int32} {nb : Bool} {x : Nat} {b : Bool} (hv : v ≤ w 0) (h : x ≤ 1000) (hw : (w 0).toInt ≤ 21) : scC w (pyS w v nb) (nI x) b = sMM (w 0) false v (if bI nb = 0 then 2 else w 6) (nI x) b := by
  unfold scC pyS sMM scM
  rw [en_2 h hw, if_pos (by decide), st_e2 hv]
  rfl
theorem ho_S {w : Nat → Int32} {v : Int32} {nb : Bool} {un : Nat} {c : Nat → Nat} (hv : v ≤ w 0) (hw : (w 0).toInt ≤ 21) (hu : un ≤ 10) (hc : smN c ≤ 12) : hoV w (pyS w v nb) un c = hvM (w 0) (w 1) (w 2) false v (if bI nb = 0 then 2 else w 6) c un (decide (nI un = 1)) := by
  unfold hoV hvM
  exact hv_same (lo := 0) (smN c) c un _ (fun x b _ y => ⟨go_e2 (by omega), sc_S hv (by omega) hw⟩) (Nat.zero_le _)
/-! sums of longs -/
theorem hsm_add (F G : Nat → Int64) (k : Nat) : hsm (fun r => F r + G r) k = hsm F k + hsm G k := by
  induction k with
  | zero => rfl
  | succ k ih =>
    show hsm (fun r => F r + G r) k + (F (k + 1) + G (k + 1)) = hsm F k + F (k + 1) + (hsm G k + G (k + 1))
    rw [ih]
    ac_rfl
theorem hsm_mul (x : Int64) (F : Nat → Int64) (k : Nat) : hsm (fun r => x * F r) k = x * hsm F k := by
  induction k with
  | zero => exact (Int64.mul_zero).symm
  | succ k ih =>
    show hsm (fun r => x * F r) k + x * F (k + 1) = x * (hsm F k + F (k + 1))
    rw [ih, Int64.mul_add]
theorem hsm_swap (F : Nat → Nat → Int64) (m : Nat) : ∀ k, hsm (fun a => hsm (F a) m) k = hsm (fun b => hsm (fun a => F a b) k) m := by
  intro k
  induction k with
  | zero => exact (hsm_z m (fun _ _ _ => rfl)).symm
  | succ k ih =>
    show hsm (fun a => hsm (F a) m) k + hsm (F (k + 1)) m = hsm (fun b => hsm (fun a => F a b) k + F (k + 1) b) m
    rw [ih, hsm_add]
theorem hsm_c {c : Nat → Nat} {x : Int64} : ∀ k, hsm (fun r => if c r = 0 then 0 else lN (c r) * x) k = lN (smU c k) * x := by
  intro k
  induction k with
  | zero => show (0 : Int64) = lN 0 * x; rw [show lN 0 = 0 by decide, Int64.zero_mul]
  | succ k ih =>
    show hsm (fun r => if c r = 0 then 0 else lN (c r) * x) k + (if c (k + 1) = 0 then 0 else lN (c (k + 1)) * x) = lN (smU c k + c (k + 1)) * x
    rw [ih, ← lN_add, Int64.add_mul]
    congr 1
    by_cases z : c (k + 1) = 0
    · rw [if_pos z, z, show lN 0 = 0 by decide, Int64.zero_mul]
    · rw [if_neg z]
/-- what is paid alike wherever the house ends -/
theorem hv_k {go : Int32 → Bool → Bool} {sc : Int32 → Bool → Int64} {x : Int64} : ∀ n (c : Nat → Nat) (s : Nat) (a : Bool), (∀ (y : Nat) (b : Bool), y ≤ s + 10 * n → sc (nI y) b = x) → smN c = n → n ≤ 12 → hv go sc n c (nI s) a = x * ord0 n := by
  intro n
  induction n with
  | zero => intro c s a h _ _; show sc (nI s) a * ord0 0 = _; rw [h s a (by omega)]
  | succ n ih =>
    intro c s a h hc hn
    show (if go (nI s) a then hsm (fun r => if c r = 0 then 0 else lN (c r) * hv go sc n (updN c r (c r - 1)) (nI s + nI r) (a || decide (nI r = 1))) 10 else sc (nI s) a * ord0 (n + 1)) = _
    by_cases g : go (nI s) a = true
    · rw [if_pos g, hsm_cg 10 (G := fun r => if c r = 0 then 0 else lN (c r) * (x * ord0 n)) (fun r p q => ?_), hsm_c, smU_10, hc, ord_f n (by omega), ord_f (n + 1) (by omega)]
      · have e : facN (n + 1) = (n + 1) * facN n := rfl
        rw [e, ← lN_mul]
        ac_rfl
      · show (if c r = 0 then (0 : Int64) else lN (c r) * hv go sc n (updN c r (c r - 1)) (nI s + nI r) (a || decide (nI r = 1))) = (if c r = 0 then 0 else lN (c r) * (x * ord0 n))
        by_cases z : c r = 0
        · rw [if_pos z, if_pos z]
        · have d := smN_dec (c := c) p q (by omega)
          rw [if_neg z, if_neg z, nI_add, ih _ (s + r) _ (fun y b l => h y b (by omega)) (by omega) (by omega)]
    · rw [if_neg g, h s a (by omega)]
/-- two hands by one house -/
theorem hv_add {go : Int32 → Bool → Bool} {sc sc1 sc2 : Int32 → Bool → Int64} : ∀ n (c : Nat → Nat) (s : Nat) (a : Bool), (∀ (y : Nat) (b : Bool), y ≤ s + 10 * n → sc (nI y) b = sc1 (nI y) b + sc2 (nI y) b) → hv go sc n c (nI s) a = hv go sc1 n c (nI s) a + hv go sc2 n c (nI s) a := by
  intro n
  induction n with
  | zero => intro c s a h; show sc (nI s) a * ord0 0 = sc1 (nI s) a * ord0 0 + sc2 (nI s) a * ord0 0; rw [h s a (by omega), Int64.add_mul]
  | succ n ih =>
    intro c s a h
    show (if go (nI s) a then hsm (fun r => if c r = 0 then 0 else lN (c r) * hv go sc n (updN c r (c r - 1)) (nI s + nI r) (a || decide (nI r = 1))) 10 else sc (nI s) a * ord0 (n + 1)) = (if go (nI s) a then hsm (fun r => if c r = 0 then 0 else lN (c r) * hv go sc1 n (updN c r (c r - 1)) (nI s + nI r) (a || decide (nI r = 1))) 10 else sc1 (nI s) a * ord0 (n + 1)) + (if go (nI s) a then hsm (fun r => if c r = 0 then 0 else lN (c r) * hv go sc2 n (updN c r (c r - 1)) (nI s + nI r) (a || decide (nI r = 1))) 10 else sc2 (nI s) a * ord0 (n + 1))
    by_cases g : go (nI s) a = true
    · rw [if_pos g, if_pos g, if_pos g, ← hsm_add]
      refine hsm_cg 10 (fun r p q => ?_)
      show (if c r = 0 then (0 : Int64) else lN (c r) * hv go sc n (updN c r (c r - 1)) (nI s + nI r) (a || decide (nI r = 1))) = (if c r = 0 then 0 else lN (c r) * hv go sc1 n (updN c r (c r - 1)) (nI s + nI r) (a || decide (nI r = 1))) + (if c r = 0 then 0 else lN (c r) * hv go sc2 n (updN c r (c r - 1)) (nI s + nI r) (a || decide (nI r = 1)))
      by_cases z : c r = 0
      · rw [if_pos z, if_pos z, if_pos z, Int64.add_zero]
      · rw [if_neg z, if_neg z, if_neg z, nI_add, ih _ (s + r) _ (fun y b l => h y b (by omega)), Int64.mul_add]
    · rw [if_neg g, if_neg g, if_neg g, h s a (by omega), Int64.add_mul]
