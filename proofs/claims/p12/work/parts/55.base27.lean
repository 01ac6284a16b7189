/-! the two sides in lockstep -/
def LkR (w : Nat → Int32) (tgt : Nat) (stan soft doub spli giv bon : Int32) : Prop := w 0 = nI tgt ∧ w 1 = stan ∧ w 2 = soft ∧ w 3 = doub ∧ w 4 = spli ∧ w 5 = giv ∧ w 6 = bon ∧ 11 ≤ tgt ∧ tgt ≤ 21 ∧ 10 ≤ stan.toInt ∧ stan.toInt ≤ tgt
def LkC (f fs : Nat → Int32) (tot : Int32) (cc : Nat → Nat) : Prop := cntI f cc ∧ cntI fs cc ∧ tot = sm10 f
def LkG (fg fw : Nat → Int32) (totg : Int32) : Prop := (∀ j, 1 ≤ j → j ≤ 10 → fw j = fg j) ∧ totg = sm10 fg
def LkT (told : Bool) (fg : Nat → Int32) (cc cf : Nat → Nat) : Prop := told = false → ∃ cg : Nat → Nat, ∀ j, 1 ≤ j → j ≤ 10 → fg j = nI (cg j) ∧ cc j + cg j = cf j
def LkM (mk mm : Nat → Int32) : Prop := ∀ j, 1 ≤ j → j ≤ 10 → mm j = mk j ∧ -3 ≤ (mk j).toInt ∧ (mk j).toInt ≤ 3
def LkH (n0 sm : Int32) (ace : Bool) (g gm : Nat → Int32) (hn : Nat) : Prop := n0 = nI hn ∧ hn ≤ 12 ∧ sm = hsN g hn ∧ ace = haN g hn ∧ ∀ j, j < hn → gm j = g j ∧ 1 ≤ (g j).toInt ∧ (g j).toInt ≤ 10
def LkU (up : Int32) (un : Nat) : Prop := (un = 0 ∧ up = -1) ∨ (1 ≤ un ∧ un ≤ 10 ∧ up = nI un)
theorem nI_b {n : Nat} (h : n ≤ 1000) : 0 ≤ (nI n).toInt ∧ (nI n).toInt = n := by rw [toInt_nI (by omega)]; omega
theorem smN_upd {c : Nat → Nat} {k v : Nat} (h1 : 1 ≤ k) (h2 : k ≤ 10) : smN (updN c k v) + c k = smN c + v := by
  rcases rk_cases h1 h2 with rfl | rfl | rfl | rfl | rfl | rfl | rfl | rfl | rfl | rfl <;> simp [smN, updN] <;> omega
theorem c_le_sm {c : Nat → Nat} {k : Nat} (h1 : 1 ≤ k) (h2 : k ≤ 10) : c k ≤ smN c := by
  unfold smN
  rcases rk_cases h1 h2 with rfl | rfl | rfl | rfl | rfl | rfl | rfl | rfl | rfl | rfl <;> omega
theorem cntI_upd {f : Nat → Int32} {c : Nat → Nat} {k v : Nat} (h : cntI f c) (hv : v ≤ 32) : cntI (upd f k (nI v)) (updN c k v) := by
  intro j a b
  unfold upd updN
  by_cases z : j = k
  · rw [if_pos z, if_pos z]; exact ⟨rfl, hv⟩
  · rw [if_neg z, if_neg z]; exact h j a b
theorem sm10_upd {f : Nat → Int32} {c : Nat → Nat} {k v : Nat} (h : cntI f c) (h1 : 1 ≤ k) (h2 : k ≤ 10) (hv : v ≤ 32) : sm10 (upd f k (nI v)) = sm10 f + (nI v - f k) := by
  rw [sm10_N h, sm10_N (cntI_upd h hv), (h k h1 h2).1]
  have e := smN_upd (c := c) (v := v) h1 h2
  have l := c_le_sm (c := c) h1 h2
  have q : nI (smN (updN c k v)) + nI (c k) = nI (smN c) + nI v := by rw [nI_add, nI_add, e]
  calc nI (smN (updN c k v)) = nI (smN (updN c k v)) + nI (c k) - nI (c k) := (Int32.add_sub_cancel _ _).symm
    _ = nI (smN c) + nI v - nI (c k) := by rw [q]
    _ = nI (smN c) + (nI v - nI (c k)) := by rw [Int32.sub_eq_add_neg, Int32.sub_eq_add_neg, Int32.add_assoc]
theorem i32_nat {x : Int32} {n : Nat} (h0 : 0 ≤ x.toInt) (h : x.toInt ≤ n) (hn : n < 2 ^ 31) : ∃ v : Nat, v ≤ n ∧ x = nI v := ⟨x.toInt.toNat, by omega, Int32.toInt_inj.mp (by rw [toInt_nI (by omega)]; omega)⟩
theorem t32 : (32 : Int32).toInt = 32 := by decide
theorem lk_shoe {f fs f2 fs2 fg : Nat → Int32} {tot tot2 p0 p1 r r' : Int32} {told told2 t2 : Bool} {cc cf : Nat → Nat}
    (hX : if rkB p0 = 0 then r = -1001 ∧ tot2 = tot ∧ f2 = f ∧ told2 = told else if p1 < 0 then r = -1001 ∧ tot2 = tot ∧ f2 = f ∧ told2 = told else if p1 ≤ 32 then r = f p0.toNatClampNeg ∧ tot2 = tot + (p1 - f p0.toNatClampNeg) ∧ f2 = upd f p0.toNatClampNeg p1 ∧ told2 = true else r = -1001 ∧ tot2 = tot ∧ f2 = f ∧ told2 = told)
    (hM : if inB p0.toInt64 1 10 = 0 then r' = -1001 ∧ fs2 = fs ∧ t2 = told else if inB p1.toInt64 0 32 = 0 then r' = -1001 ∧ fs2 = fs ∧ t2 = told else r' = fs p0.toNatClampNeg ∧ fs2 = upd fs p0.toNatClampNeg p1 ∧ t2 = true)
    (iC : LkC f fs tot cc) (iT : LkT told fg cc cf) : r = r' ∧ told2 = t2 ∧ ∃ cc2, LkC f2 fs2 tot2 cc2 ∧ LkT told2 fg cc2 cf := by
  have same : r = -1001 ∧ tot2 = tot ∧ f2 = f ∧ told2 = told → r' = -1001 ∧ fs2 = fs ∧ t2 = told → r = r' ∧ told2 = t2 ∧ ∃ cc2, LkC f2 fs2 tot2 cc2 ∧ LkT told2 fg cc2 cf := by
    rintro ⟨a1, a2, a3, a4⟩ ⟨b1, b2, b3⟩
    exact ⟨a1.trans b1.symm, a4.trans b3.symm, cc, by rw [a2, a3, b2]; exact iC, by rw [a4]; exact iT⟩
  rw [in_rk] at hM
  by_cases z : rkB p0 = 0
  · rw [if_pos z] at hX hM; exact same hX hM
  · rw [if_neg z] at hX hM
    have q : inB p1.toInt64 0 32 = 0 ↔ (p1.toInt < 0 ∨ 32 < p1.toInt) := inB_0 p1 0 32
    by_cases y : p1 < 0
    · rw [if_pos y] at hX
      rw [if_pos (q.mpr (Or.inl (by rw [ltI, t0] at y; exact y)))] at hM
      exact same hX hM
    · rw [if_neg y] at hX
      by_cases x : p1 ≤ 32
      · have y2 := y
        rw [ltI, t0] at y2
        have x2 := x
        rw [leI, t32] at x2
        rw [if_pos x] at hX
        rw [if_neg (fun g => by have := q.mp g; omega)] at hM
        obtain ⟨k, k1, k2, rfl⟩ := rk_nat z
        obtain ⟨v, hv, rfl⟩ := i32_nat (x := p1) (n := 32) (by omega) (by omega) (by decide)
        rw [nI_clamp (by omega)] at hX hM
        obtain ⟨a1, a2, a3, a4⟩ := hX
        obtain ⟨b1, b2, b3⟩ := hM
        obtain ⟨c1, c2, c3⟩ := iC
        refine ⟨?_, a4.trans b3.symm, updN cc k v, ⟨by rw [a3]; exact cntI_upd c1 hv, by rw [b2]; exact cntI_upd c2 hv, ?_⟩, fun g => by rw [a4] at g; exact absurd g (by decide)⟩
        · rw [a1, b1, (c1 k k1 k2).1, (c2 k k1 k2).1]
        · rw [a2, a3, c3, sm10_upd c1 k1 k2 hv]
      · rw [if_neg x] at hX
        rw [leI, t32] at x
        rw [if_pos (q.mpr (Or.inr (by omega)))] at hM
        exact same hX hM
theorem sm10_cg {f h : Nat → Int32} (e : ∀ j, 1 ≤ j → j ≤ 10 → f j = h j) : sm10 f = sm10 h := by
  unfold sm10
  rw [e 1 (by omega) (by omega), e 2 (by omega) (by omega), e 3 (by omega) (by omega), e 4 (by omega) (by omega), e 5 (by omega) (by omega), e 6 (by omega) (by omega), e 7 (by omega) (by omega), e 8 (by omega) (by omega), e 9 (by omega) (by omega), e 10 (by omega) (by omega)]
theorem lk_fresh {f fs fg2 fw2 ff2 fm2 : Nat → Int32} {tot totg2 totf2 r r' : Int32} {cc : Nat → Nat} (hX : r = tot ∧ totg2 = 0 ∧ (∀ j, j < 11 → fg2 j = 0) ∧ totf2 = tot ∧ (∀ j, j < 11 → ff2 j = f j)) (hM : r' = sm10 fs ∧ ∀ j, 1 ≤ j → j ≤ 10 → fm2 j = fs j ∧ fw2 j = 0) (iC : LkC f fs tot cc) :
    r = r' ∧ LkG fg2 fw2 totg2 ∧ LkC ff2 fm2 totf2 cc ∧ LkT false fg2 cc cc := by
  obtain ⟨a1, a2, a3, a4, a5⟩ := hX
  obtain ⟨b1, b2⟩ := hM
  obtain ⟨c1, c2, c3⟩ := iC
  have z : sm10 fg2 = 0 := (sm10_cg (h := fun _ => 0) (fun j x y => a3 j (by omega))).trans (by decide)
  refine ⟨?_, ⟨fun j x y => by rw [(b2 j x y).2, a3 j (by omega)], by rw [a2, z]⟩, ⟨fun j x y => ?_, fun j x y => ?_, ?_⟩, fun _ => ⟨fun _ => 0, fun j x y => ⟨by rw [a3 j (by omega)]; exact (by decide : (0 : Int32) = nI 0), Nat.add_zero _⟩⟩⟩
  · rw [a1, b1, c3, sm10_N c1, sm10_N c2]
  · rw [a5 j (by omega)]; exact c1 j x y
  · rw [(b2 j x y).1]; exact c2 j x y
  · rw [a4, c3]; exact (sm10_cg (fun j x y => a5 j (by omega))).symm
theorem t3 : (3 : Int32).toInt = 3 := by decide
theorem tm3 : (-3 : Int32).toInt = -3 := by decide
theorem lk_mark {mk mm mk2 mm2 : Nat → Int32} {p0 p1 r r' : Int32} (hX : if rkB p0 = 0 then r = -1001 ∧ mk2 = mk else if p1 < -3 then r = -1001 ∧ mk2 = mk else if p1 ≤ 3 then r = mk p0.toNatClampNeg ∧ mk2 = upd mk p0.toNatClampNeg p1 else r = -1001 ∧ mk2 = mk)
    (hM : if inB p0.toInt64 1 10 = 0 then r' = -1001 ∧ mm2 = mm else if inB p1.toInt64 (-3) 3 = 0 then r' = -1001 ∧ mm2 = mm else r' = mm p0.toNatClampNeg ∧ mm2 = upd mm p0.toNatClampNeg p1) (iM : LkM mk mm) : r = r' ∧ LkM mk2 mm2 := by
  have same : r = -1001 ∧ mk2 = mk → r' = -1001 ∧ mm2 = mm → r = r' ∧ LkM mk2 mm2 := by
    rintro ⟨a1, a2⟩ ⟨b1, b2⟩
    exact ⟨a1.trans b1.symm, by rw [a2, b2]; exact iM⟩
  rw [in_rk] at hM
  by_cases z : rkB p0 = 0
  · rw [if_pos z] at hX hM; exact same hX hM
  · rw [if_neg z] at hX hM
    have q : inB p1.toInt64 (-3) 3 = 0 ↔ (p1.toInt < -3 ∨ 3 < p1.toInt) := inB_0 p1 (-3) 3
    by_cases y : p1 < -3
    · rw [if_pos y] at hX
      rw [if_pos (q.mpr (Or.inl (by rw [ltI, tm3] at y; exact y)))] at hM
      exact same hX hM
    · rw [if_neg y] at hX
      rw [ltI, tm3] at y
      by_cases x : p1 ≤ 3
      · rw [if_pos x] at hX
        rw [leI, t3] at x
        rw [if_neg (fun g => by have := q.mp g; omega)] at hM
        obtain ⟨k, k1, k2, rfl⟩ := rk_nat z
        rw [nI_clamp (by omega)] at hX hM
        refine ⟨by rw [hX.1, hM.1, (iM k k1 k2).1], fun j a b => ?_⟩
        rw [hX.2, hM.2]
        unfold upd
        by_cases g : j = k
        · rw [if_pos g, if_pos g]; exact ⟨rfl, by omega, by omega⟩
        · rw [if_neg g, if_neg g]; exact iM j a b
      · rw [if_neg x] at hX
        rw [leI, t3] at x
        rw [if_pos (q.mpr (Or.inr (by omega)))] at hM
        exact same hX hM
/-- a card leaves the shoe -/
theorem lk_mv {f fs f2 fs2 fg fw fg2 fw2 : Nat → Int32} {tot tot2 totg totg2 : Int32} {told : Bool} {cc cf : Nat → Nat} {k : Nat} (k1 : 1 ≤ k) (k2 : k ≤ 10) (hp : 0 < cc k) (iC : LkC f fs tot cc) (iG : LkG fg fw totg) (iT : LkT told fg cc cf)
    (e1 : f2 = upd f k (f k - 1)) (e2 : fs2 = upd fs k (fs k - 1)) (e3 : fg2 = upd fg k (fg k + 1)) (e4 : fw2 = upd fw k (fw k + 1)) (e5 : tot2 = tot - 1) (e6 : totg2 = totg + 1) : LkC f2 fs2 tot2 (updN cc k (cc k - 1)) ∧ LkG fg2 fw2 totg2 ∧ LkT told fg2 (updN cc k (cc k - 1)) cf := by
  obtain ⟨c1, c2, c3⟩ := iC
  obtain ⟨g1, g2⟩ := iG
  subst e1 e2 e3 e4 e5 e6
  have d1 := cntI_dec c1 k1 k2 hp
  refine ⟨⟨d1, cntI_dec c2 k1 k2 hp, ?_⟩, ⟨fun j a b => ?_, by rw [sm10_inc fg k1 k2, g2]⟩, fun g => ?_⟩
  · rw [c3, sm10_N c1, sm10_N d1]
    have hs : nI (smN cc) = nI (smN (updN cc k (cc k - 1))) + nI 1 := by rw [nI_add, smN_dec k1 k2 hp]
    rw [hs]
    exact Int32.add_sub_cancel _ _
  · unfold upd
    by_cases z : j = k
    · rw [if_pos z, if_pos z, g1 k k1 k2]
    · rw [if_neg z, if_neg z]; exact g1 j a b
  · obtain ⟨cg, hcg⟩ := iT g
    refine ⟨updN cg k (cg k + 1), fun j a b => ?_⟩
    unfold upd updN
    by_cases z : j = k
    · rw [if_pos z, if_pos z, if_pos z, z, (hcg k k1 k2).1]
      exact ⟨nI_add _ 1, by have := (hcg k k1 k2).2; omega⟩
    · rw [if_neg z, if_neg z, if_neg z]; exact hcg j a b
theorem hsN_cg {g h : Nat → Int32} : ∀ n, (∀ j, j < n → g j = h j) → hsN g n = hsN h n := by
  intro n
  induction n with
  | zero => intro _; rfl
  | succ n ih => intro e; show hsN g n + g n = hsN h n + h n; rw [ih (fun j a => e j (by omega)), e n (by omega)]
theorem haN_cg {g h : Nat → Int32} : ∀ n, (∀ j, j < n → g j = h j) → haN g n = haN h n := by
  intro n
  induction n with
  | zero => intro _; rfl
  | succ n ih => intro e; show (haN g n || decide (g n = 1)) = (haN h n || decide (h n = 1)); rw [ih (fun j a => e j (by omega)), e n (by omega)]
/-- a card comes to the hand -/
theorem lk_hadd {n0 sm n2 sm2 : Int32} {ace ace2 : Bool} {g gm g2 gm2 : Nat → Int32} {hn k : Nat} (k1 : 1 ≤ k) (k2 : k ≤ 10) (h12 : hn < 12) (iH : LkH n0 sm ace g gm hn) (e1 : n2 = n0 + 1) (e2 : sm2 = sm + nI k) (e3 : ace2 = (ace || decide (nI k = 1))) (e4 : g2 = upd g n0.toNatClampNeg (nI k)) (e5 : gm2 = upd gm hn (nI k)) : LkH n2 sm2 ace2 g2 gm2 (hn + 1) := by
  obtain ⟨a1, a2, a3, a4, a5⟩ := iH
  have ec : n0.toNatClampNeg = hn := by rw [a1, nI_clamp (by omega)]
  rw [ec] at e4
  have lo : ∀ j, j < hn → g2 j = g j := fun j a => by rw [e4]; unfold upd; rw [if_neg (by omega)]
  have hi : g2 hn = nI k := by rw [e4]; unfold upd; rw [if_pos rfl]
  refine ⟨by rw [e1, a1]; exact nI_1 hn, by omega, ?_, ?_, fun j a => ?_⟩
  · show sm2 = hsN g2 hn + g2 hn
    rw [hsN_cg hn lo, hi, e2, a3]
  · show ace2 = (haN g2 hn || decide (g2 hn = 1))
    rw [haN_cg hn lo, hi, e3, a4]
  · by_cases z : j = hn
    · subst z
      rw [hi, e5]
      unfold upd
      rw [if_pos rfl, toInt_nI (by omega)]
      exact ⟨rfl, by omega, by omega⟩
    · rw [lo j (by omega), e5]
      unfold upd
      rw [if_neg z]
      exact a5 j (by omega)
theorem hs_b {n0 sm : Int32} {ace : Bool} {g gm : Nat → Int32} {hn : Nat} (iH : LkH n0 sm ace g gm hn) : 0 ≤ sm.toInt ∧ sm.toInt ≤ 120 := by
  obtain ⟨a1, a2, a3, a4, a5⟩ := iH
  have key : ∀ n, n ≤ hn → 0 ≤ (hsN g n).toInt ∧ (hsN g n).toInt ≤ 10 * n := by
    intro n
    induction n with
    | zero => intro _; exact ⟨(by decide : 0 ≤ (0 : Int32).toInt), (by decide : (0 : Int32).toInt ≤ 10 * ((0 : Nat) : Int))⟩
    | succ n ih =>
      intro h
      have q := ih (by omega)
      have z := a5 n (by omega)
      have e : (hsN g (n + 1)).toInt = (hsN g n).toInt + (g n).toInt := i32_add (by omega) (by omega)
      rw [e]
      omega
  have := key hn (Nat.le_refl _)
  rw [a3]
  omega
theorem lk_up {up : Int32} {un : Nat} (h : LkU up un) : un ≤ 10 ∧ up.toInt ≤ 10 := by
  rcases h with ⟨a, b⟩ | ⟨a, b, c⟩
  · rw [b]; exact ⟨by omega, by decide⟩
  · rw [c, toInt_nI (by omega)]; omega
theorem lk_tot {f fs : Nat → Int32} {tot : Int32} {cc : Nat → Nat} (h : LkC f fs tot cc) : 0 ≤ tot.toInt := by
  obtain ⟨c1, c2, c3⟩ := h
  have := smN_le c1
  rw [c3, sm10_N c1, toInt_nI (by omega)]
  omega
