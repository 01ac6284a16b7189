/-! left, lay, told, there: both answers are one -/
theorem ite_c2 {P : Prop} [Decidable P] {a b x y : Int32} (h : P → a = x) (k : ¬ P → b = y) : (if P then a else b) = if P then x else y := by
  by_cases z : P
  · rw [if_pos z, if_pos z]; exact h z
  · rw [if_neg z, if_neg z]; exact k z
theorem lk_left {f fs : Nat → Int32} {tot p0 : Int32} {cc : Nat → Nat} (iC : LkC f fs tot cc) : (if p0 = 0 then tot else if rkB p0 = 0 then -1001 else f p0.toNatClampNeg) = (if inB p0.toInt64 0 10 = 0 then (-1001) else if p0 = 0 then sm10 fs else fs p0.toNatClampNeg) := by
  obtain ⟨c1, c2, c3⟩ := iC
  have q := inB_0 p0 0 10
  have q : inB p0.toInt64 0 10 = 0 ↔ (p0.toInt < 0 ∨ 10 < p0.toInt) := q
  have r := inB_0 p0 1 10
  have r : inB p0.toInt64 1 10 = 0 ↔ (p0.toInt < 1 ∨ 10 < p0.toInt) := r
  rw [in_rk] at r
  by_cases z : p0 = 0
  · subst z
    rw [if_pos rfl, if_neg (by decide), if_pos rfl, c3, sm10_N c1, sm10_N c2]
  · have nz : ¬ p0.toInt = 0 := fun h => z (Int32.toInt_inj.mp (h.trans t0.symm))
    rw [if_neg z]
    by_cases y : rkB p0 = 0
    · have y2 := r.mp y
      rw [if_pos y, if_pos (q.mpr (by omega))]
    · have y2 := mt r.mpr y
      obtain ⟨k, k1, k2, e⟩ := rk_nat y
      rw [if_neg y, if_neg (mt q.mp (by omega)), if_neg z]
      subst e
      rw [nI_clamp (by omega), (c1 k k1 k2).1, (c2 k k1 k2).1]
theorem up_n1 {up : Int32} {un : Nat} (iU : LkU up un) : up = -1 ↔ nI un = 0 := by
  rcases iU with ⟨x, y⟩ | ⟨x, y, z⟩
  · rw [x, y]; exact ⟨fun _ => by decide, fun _ => rfl⟩
  · rw [z]
    constructor
    · intro g
      have := congrArg Int32.toInt g
      rw [toInt_nI (by omega), show (-1 : Int32).toInt = -1 by decide] at this
      omega
    · intro g
      have := (nI_eq (a := un) (b := 0) (by omega) (by decide)).mp g
      omega
theorem lk_lay {n0 sm up : Int32} {ace : Bool} {g gm : Nat → Int32} {hn un : Nat} (iH : LkH n0 sm ace g gm hn) (iU : LkU up un) : n0 + (if up = -1 then 0 else 1) = nI hn + (if 0 < nI un then 1 else 0) := by
  have a2 := up_n1 iU
  rw [iH.1]
  rcases iU with ⟨x, y⟩ | ⟨x, y, z⟩
  · subst x; subst y
    rw [if_pos rfl, if_neg (by decide)]
  · have nu : ¬ nI un = 0 := fun g => by
      have := (nI_eq (a := un) (b := 0) (by omega) (by decide)).mp g
      omega
    rw [if_neg (mt a2.mp nu), if_pos (by rw [ltI, toInt_nI (by omega), t0]; omega)]
theorem cntG_cg {mk mm fg fw : Nat → Int32} (h : ∀ j, 1 ≤ j → j ≤ 10 → mm j = mk j) (k : ∀ j, 1 ≤ j → j ≤ 10 → fw j = fg j) : cntG mk fg = cntG mm fw := by
  have e : ∀ j, 1 ≤ j → j ≤ 10 → mk j * fg j = mm j * fw j := fun j a b => by rw [h j a b, k j a b]
  unfold cntG
  rw [e 1 (by decide) (by decide), e 2 (by decide) (by decide), e 3 (by decide) (by decide), e 4 (by decide) (by decide), e 5 (by decide) (by decide), e 6 (by decide) (by decide), e 7 (by decide) (by decide), e 8 (by decide) (by decide), e 9 (by decide) (by decide), e 10 (by decide) (by decide)]
theorem sf_eq {w : Nat → Int32} {sm : Int32} {ace : Bool} (h0 : 0 ≤ sm.toInt) (h1 : sm.toInt ≤ 120) : nuB (sfC w sm ace) = if vlC w sm ace ≤ sm then 0 else 1 := by
  have h10 : (sm + 10).toInt = sm.toInt + 10 := by rw [i32_add (by rw [t10]; omega) (by rw [t10]; omega), t10]
  unfold sfC vlC
  by_cases z : bI ace = 0
  · rw [if_pos z, if_pos z, if_pos (Int32.le_refl _)]; rfl
  · rw [if_neg z, if_neg z]
    by_cases y : w 0 < sm + 10
    · rw [if_pos y, if_pos y, if_pos (Int32.le_refl _)]; rfl
    · rw [if_neg y, if_neg y, if_neg (by rw [leI, h10]; omega)]; rfl
theorem na_eq {w : Nat → Int32} {v n : Int32} : nuB (naC w v n) = if bI (naM (w 0) v n) = 0 then 0 else 1 := by
  unfold naC naM
  by_cases a : n = 2
  · by_cases b : v = w 0
    · rw [if_pos a, if_pos b, decide_eq_true a, decide_eq_true b]; rfl
    · rw [if_pos a, if_neg b, decide_eq_true a, decide_eq_false b]; rfl
  · rw [if_neg a, decide_eq_false a, Bool.false_and]; rfl
theorem lk_told {w fg fw g gm mk mm : Nat → Int32} {totg n0 sm up bank stan soft doub spli giv bon p0 : Int32} {ace : Bool} {hn un tgt : Nat} (iR : LkR w tgt stan soft doub spli giv bon) (iG : LkG fg fw totg) (iH : LkH n0 sm ace g gm hn) (iU : LkU up un) (iM : LkM mk mm) : tldC w n0 sm ace g up mk fg totg bank p0 = tldM (nI tgt) hn gm (nI un) mm fw bank p0 := by
  have hb := hs_b iH
  obtain ⟨d1, d2, d3, d4, d5⟩ := id iH
  have es : hsN gm hn = sm := by rw [d3]; exact hsN_cg hn (fun j x => (d5 j x).1)
  have ea : haN gm hn = ace := by rw [d4]; exact haN_cg hn (fun j x => (d5 j x).1)
  have ew : nI tgt = w 0 := iR.1.symm
  have ev : vlM (w 0) sm ace = vlC w sm ace := rfl
  have bu := bu_iff (w := w) (a := ace) hb.1 hb.2
  unfold tldC tldM
  rw [es, ea, ew, ev]
  refine ite_c2 (fun _ => d1) (fun _ => ite_c2 (fun _ => rfl) (fun _ => ite_c2 (fun _ => sf_eq hb.1 hb.2) (fun _ => ite_c2 (fun _ => ?_) (fun _ => ite_c2 (fun _ => ?_) (fun _ => ite_c2 (fun _ => ?_) (fun _ => ite_c2 (fun _ => cntG_cg (fun j a b => (iM j a b).1) iG.1) (fun _ => ite_c2 (fun _ => rfl) (fun _ => ite_c2 (fun _ => iG.2.trans (sm10_cg (fun j a b => (iG.1 j a b).symm))) (fun _ => ?_)))))))))
  · rw [← d1]; exact na_eq
  · by_cases y : vlC w sm ace ≤ w 0
    · rw [if_pos y]; unfold nuB; rw [if_pos (bu.mpr y)]
    · rw [if_neg y]; unfold nuB; rw [if_neg (mt bu.mp y)]
  · rcases iU with ⟨x, y⟩ | ⟨x, y, z⟩
    · subst x; subst y; rw [if_pos (by decide)]
    · rw [if_neg (by rw [leI, toInt_nI (by omega), t0]; omega)]; exact z
  · have q := inB_0 p0 10 21
    have q : inB p0.toInt64 10 21 = 0 ↔ (p0.toInt < 10 ∨ 21 < p0.toInt) := q
    by_cases a : p0 < 10
    · have a2 := a
      rw [ltI, t10] at a2
      rw [if_pos a, if_pos (q.mpr (Or.inl a2))]
    · have a2 := a
      rw [ltI, t10] at a2
      rw [if_neg a]
      have t22 : (22 : Int32).toInt = 22 := by decide
      by_cases b : 22 ≤ p0
      · have b2 := b
        rw [leI, t22] at b2
        rw [if_pos b, if_pos (q.mpr (by omega))]
      · have b2 := b
        rw [leI, t22] at b2
        have e10 : (p0 - 10).toInt = p0.toInt - 10 := by rw [i32_sub (by rw [t10]; omega) (by rw [t10]; omega), t10]
        rw [if_neg b, if_neg (mt q.mp (by omega))]
        unfold crdC
        rw [if_neg (by rw [ltI, e10, t0]; omega), d1]
        refine ite_c2 (fun _ => rfl) (fun c => ?_)
        rw [leI, toInt_nI (by omega), e10] at c
        have hc : (p0 - 10).toNatClampNeg < hn := by
          show (p0 - 10).toInt.toNat < hn
          rw [e10]; omega
        exact (d5 _ hc).1.symm
theorem fl_iff {n : Nat} (h : n ≤ 12) : flB (nI n) = 0 ↔ ¬ 12 ≤ n := by
  unfold flB
  have t12 : (12 : Int32).toInt = 12 := by decide
  by_cases z : nI n < 12
  · rw [if_pos z]
    rw [ltI, toInt_nI (by omega), t12] at z
    exact ⟨fun _ => by omega, fun _ => rfl⟩
  · rw [if_neg z]
    rw [ltI, toInt_nI (by omega), t12] at z
    exact ⟨fun y => absurd y (by decide), fun y => absurd y (by omega)⟩
theorem one_iff {x : Int32} : ((if x = 1 then (1 : Int32) else 0) = 0) ↔ ¬ x = 1 := by
  by_cases z : x = 1
  · rw [if_pos z]; exact ⟨fun y => absurd y (by decide), fun y => absurd z y⟩
  · rw [if_neg z]; exact ⟨fun _ => z, fun _ => rfl⟩
theorem th_eq {w f fs g gm : Nat → Int32} {tot n0 sm up stan soft doub spli giv bon p0 : Int32} {ace : Bool} {hn un tgt : Nat} {cc : Nat → Nat} (iR : LkR w tgt stan soft doub spli giv bon) (iC : LkC f fs tot cc) (iH : LkH n0 sm ace g gm hn) (iU : LkU up un) (ac : ¬ acB p0 = 0) : thC w n0 sm g up tot p0 = thM (nI tgt) hn gm (nI un) (sm10 fs) doub spli giv p0 := by
  have hb := hs_b iH
  have a2 := up_n1 iU
  obtain ⟨d1, d2, d3, d4, d5⟩ := id iH
  obtain ⟨c1, c2, c3⟩ := iC
  obtain ⟨r0, r1, r2, r3, r4, r5, -⟩ := iR
  have es : hsN gm hn = sm := by rw [d3]; exact hsN_cg hn (fun j x => (d5 j x).1)
  have ea : haN gm hn = ace := by rw [d4]; exact haN_cg hn (fun j x => (d5 j x).1)
  have ev : vlM (w 0) sm ace = vlC w sm ace := rfl
  have bu := bu_iff (w := w) (a := ace) hb.1 hb.2
  have et : sm10 fs = tot := by rw [c3, sm10_N c1, sm10_N c2]
  have a1 : n0 = 0 ↔ hn = 0 := by rw [d1]; exact nI_eq (a := hn) (b := 0) (by omega) (by decide)
  have n2 : n0 = 2 ↔ hn = 2 := by rw [d1]; exact nI_eq (a := hn) (b := 2) (by omega) (by decide)
  have fl : flB n0 = 0 ↔ ¬ 12 ≤ hn := by rw [d1]; exact fl_iff d2
  have t1 : (1 : Int32).toInt = 1 := by decide
  have t2 : (2 : Int32).toInt = 2 := by decide
  have l1 : tot < 1 ↔ tot ≤ 0 := by rw [ltI, leI, t1, t0]; omega
  have l2 : tot < 2 ↔ tot ≤ 1 := by rw [ltI, leI, t2, t1]; omega
  have hp : p0 = 0 ∨ p0 = 1 ∨ p0 = 2 ∨ p0 = 3 ∨ p0 = 4 := by
    have q := inB_0 p0 0 4
    have q : inB p0.toInt64 0 4 = 0 ↔ (p0.toInt < 0 ∨ 4 < p0.toInt) := q
    rw [in_ac] at q
    have q2 := mt q.mpr ac
    rcases (show p0.toInt = 0 ∨ p0.toInt = 1 ∨ p0.toInt = 2 ∨ p0.toInt = 3 ∨ p0.toInt = 4 by omega) with h | h | h | h | h
    · exact Or.inl (Int32.toInt_inj.mp (h.trans (by decide)))
    · exact Or.inr (Or.inl (Int32.toInt_inj.mp (h.trans (by decide))))
    · exact Or.inr (Or.inr (Or.inl (Int32.toInt_inj.mp (h.trans (by decide)))))
    · exact Or.inr (Or.inr (Or.inr (Or.inl (Int32.toInt_inj.mp (h.trans (by decide))))))
    · exact Or.inr (Or.inr (Or.inr (Or.inr (Int32.toInt_inj.mp (h.trans (by decide))))))
  unfold thC thM
  rw [es, ea, et, ← r0, ev, r3, r4, r5]
  by_cases z : hn = 0
  · rw [if_pos (a1.mpr z), if_pos z]
  rw [if_neg (mt a1.mp z), if_neg z]
  by_cases y : nI un = 0
  · rw [if_pos y]
    by_cases b : buC w sm = 0
    · rw [if_pos b, if_pos (a2.mpr y)]
    · rw [if_neg b]
  rw [if_neg y]
  by_cases b : buC w sm = 0
  · rw [if_pos b, if_neg (mt a2.mp y), if_pos (bu.mp b)]
    simp only [l1, l2, fl, n2, one_iff]
    rcases hp with h | h | h | h | h
    · subst h; rw [if_pos (show (0 : Int32) = 0 from rfl), if_pos (show (0 : Int32) = 0 from rfl)]
    · subst h; rw [if_neg (show ¬ ((1 : Int32) = 0) by decide), if_pos (show (1 : Int32) = 1 from rfl), if_neg (show ¬ ((1 : Int32) = 0) by decide), if_pos (show (1 : Int32) = 1 from rfl)]
      refine ite_c2 (fun _ => rfl) (fun _ => ?_)
      by_cases k : 12 ≤ hn
      · rw [if_neg (fun x => x k), if_pos k]
      · rw [if_pos k, if_neg k]
    · subst h; rw [if_neg (show ¬ ((2 : Int32) = 0) by decide), if_neg (show ¬ ((2 : Int32) = 1) by decide), if_pos (show (2 : Int32) = 2 from rfl), if_neg (show ¬ ((2 : Int32) = 0) by decide), if_neg (show ¬ ((2 : Int32) = 1) by decide), if_pos (show (2 : Int32) = 2 from rfl)]
      by_cases k1 : tot ≤ 0 <;> by_cases k2 : hn = 2 <;> by_cases k3 : doub = 1 <;> simp [k1, k2, k3]
    · subst h; rw [if_neg (show ¬ ((3 : Int32) = 0) by decide), if_neg (show ¬ ((3 : Int32) = 1) by decide), if_neg (show ¬ ((3 : Int32) = 2) by decide), if_pos (show (3 : Int32) = 3 from rfl), if_neg (show ¬ ((3 : Int32) = 0) by decide), if_neg (show ¬ ((3 : Int32) = 1) by decide), if_neg (show ¬ ((3 : Int32) = 2) by decide), if_pos (show (3 : Int32) = 3 from rfl)]
      by_cases k2 : hn = 2
      · rw [(d5 0 (by omega)).1, (d5 1 (by omega)).1]
        by_cases k1 : tot ≤ 1 <;> by_cases k3 : spli = 1 <;> by_cases k4 : g 0 = g 1 <;> simp [k1, k2, k3, k4]
      · by_cases k1 : tot ≤ 1 <;> simp [k1, k2]
    · subst h; rw [if_neg (show ¬ ((4 : Int32) = 0) by decide), if_neg (show ¬ ((4 : Int32) = 1) by decide), if_neg (show ¬ ((4 : Int32) = 2) by decide), if_neg (show ¬ ((4 : Int32) = 3) by decide), if_pos (show (4 : Int32) = 4 from rfl), if_neg (show ¬ ((4 : Int32) = 0) by decide), if_neg (show ¬ ((4 : Int32) = 1) by decide), if_neg (show ¬ ((4 : Int32) = 2) by decide), if_neg (show ¬ ((4 : Int32) = 3) by decide)]
      by_cases k2 : hn = 2 <;> by_cases k3 : giv = 1 <;> simp [k2, k3]
  · rw [if_neg b, if_neg (mt bu.mpr b)]
theorem lk_there {w f fs g gm : Nat → Int32} {tot n0 sm up stan soft doub spli giv bon p0 : Int32} {ace : Bool} {hn un tgt : Nat} {cc : Nat → Nat} (iR : LkR w tgt stan soft doub spli giv bon) (iC : LkC f fs tot cc) (iH : LkH n0 sm ace g gm hn) (iU : LkU up un) : (if acB p0 = 0 then -1001 else nuB (thC w n0 sm g up tot p0)) = (if inB p0.toInt64 0 4 = 0 then (-1001) else if thM (nI tgt) hn gm (nI un) (sm10 fs) doub spli giv p0 = 0 then 0 else 1) := by
  rw [in_ac]
  refine ite_c2 (fun _ => rfl) (fun ac => ?_)
  rw [th_eq iR iC iH iU ac]
  rfl
