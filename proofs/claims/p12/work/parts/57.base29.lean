/-! settle and rule in lockstep -/
theorem plH_rel {w : Nat → Int32} {cf : Nat → Nat} : ∀ (n : Nat) (f fs fg fw : Nat → Int32) (ch : Int64) (s : Int32) (a : Bool) (cc : Nat → Nat), cntI f cc → cntI fs cc → (∀ j, 1 ≤ j → j ≤ 10 → fw j = fg j) →
    ∃ cc2 : Nat → Nat, cntI (plH w n f fg ch s a).1 cc2 ∧ cntI (plH w n fs fw ch s a).1 cc2 ∧ (∀ j, 1 ≤ j → j ≤ 10 → (plH w n fs fw ch s a).2.1 j = (plH w n f fg ch s a).2.1 j) ∧ (plH w n fs fw ch s a).2.2 = (plH w n f fg ch s a).2.2 ∧ (LkT false fg cc cf → LkT false (plH w n f fg ch s a).2.1 cc2 cf) := by
  intro n
  induction n with
  | zero => intro f fs fg fw ch s a cc h1 h2 h3; exact ⟨cc, h1, h2, h3, rfl, id⟩
  | succ n ih =>
    intro f fs fg fw ch s a cc h1 h2 h3
    have e0 : sm10 fs = sm10 f := by rw [sm10_N h1, sm10_N h2]
    have eX : plH w (n + 1) f fg ch s a = if sm10 f ≤ 0 then (f, fg, ch, s, a) else if gnC w (vlC w s a) (!decide (vlC w s a = s)) = 0 then (f, fg, ch, s, a) else
      plH w n (upd f (drR f ch).toNatClampNeg (f (drR f ch).toNatClampNeg - 1)) (upd fg (drR f ch).toNatClampNeg (fg (drR f ch).toNatClampNeg + 1)) (ch * 6364136223846793005 + 1442695040888963407) (s + drR f ch) (a || decide (drR f ch = 1)) := rfl
    have eM : plH w (n + 1) fs fw ch s a = if sm10 fs ≤ 0 then (fs, fw, ch, s, a) else if gnC w (vlC w s a) (!decide (vlC w s a = s)) = 0 then (fs, fw, ch, s, a) else
      plH w n (upd fs (drR fs ch).toNatClampNeg (fs (drR fs ch).toNatClampNeg - 1)) (upd fw (drR fs ch).toNatClampNeg (fw (drR fs ch).toNatClampNeg + 1)) (ch * 6364136223846793005 + 1442695040888963407) (s + drR fs ch) (a || decide (drR fs ch = 1)) := rfl
    rw [eX, eM, e0]
    by_cases z : sm10 f ≤ 0
    · rw [if_pos z, if_pos z]; exact ⟨cc, h1, h2, h3, rfl, id⟩
    · rw [if_neg z, if_neg z]
      by_cases y : gnC w (vlC w s a) (!decide (vlC w s a = s)) = 0
      · rw [if_pos y, if_pos y]; exact ⟨cc, h1, h2, h3, rfl, id⟩
      · rw [if_neg y, if_neg y]
        have hp := sm10_pos h1 z
        obtain ⟨k, k1, k2, hk, ek⟩ := dr_N ch h1 hp
        rw [← drR_eq ch h1 h2 hp, ek, nI_clamp (by omega)]
        have mv := lk_mv (f := f) (fs := fs) (fg := fg) (fw := fw) (told := true) (cf := cf) k1 k2 hk ⟨h1, h2, rfl⟩ ⟨h3, rfl⟩ (fun g => absurd g (by decide)) rfl rfl rfl rfl rfl rfl
        have mvT : LkT false fg cc cf → LkT false (upd fg k (fg k + 1)) (updN cc k (cc k - 1)) cf := fun iT => (lk_mv (f := f) (fs := fs) (fg := fg) (fw := fw) k1 k2 hk ⟨h1, h2, rfl⟩ ⟨h3, rfl⟩ iT rfl rfl rfl rfl rfl rfl).2.2
        obtain ⟨cc2, r1, r2, r3, r4, r5⟩ := ih (upd f k (f k - 1)) (upd fs k (fs k - 1)) (upd fg k (fg k + 1)) (upd fw k (fw k + 1)) (ch * 6364136223846793005 + 1442695040888963407) (s + nI k) (a || decide (nI k = 1)) _ mv.1.1 mv.1.2.1 mv.2.1.1
        exact ⟨cc2, r1, r2, r3, r4, fun iT => r5 (mvT iT)⟩
theorem bu_iff {w : Nat → Int32} {s : Int32} {a : Bool} (h0 : 0 ≤ s.toInt) (h1 : s.toInt ≤ 120) : buC w s = 0 ↔ vlC w s a ≤ w 0 := by
  have h10 : (s + 10).toInt = s.toInt + 10 := by rw [i32_add (by rw [t10]; omega) (by rw [t10]; omega), t10]
  have e : buC w s = 0 ↔ s ≤ w 0 := by
    unfold buC
    by_cases z : s ≤ w 0
    · rw [if_pos z]; exact ⟨fun _ => z, fun _ => rfl⟩
    · rw [if_neg z]; exact ⟨fun y => absurd y (by decide), fun y => absurd y z⟩
  rw [e]
  unfold vlC
  by_cases z : bI a = 0
  · rw [if_pos z]
  · rw [if_neg z]
    by_cases y : w 0 < s + 10
    · rw [if_pos y]
    · rw [if_neg y]
      rw [ltI, h10] at y
      rw [leI, leI, h10]
      omega
theorem st_eq {w : Nat → Int32} {v e bon : Int32} {b : Bool} (hv : v ≤ w 0) (hb : w 6 = bon) : stC w v b e = seM v e (if bI b = 0 then 2 else bon) := by
  have nv : ¬ w 0 < v := fun z => lt_nle z hv
  unfold stC seM
  rw [if_neg nv, hb]
  by_cases z : e ≤ v
  · rw [if_pos z]
    by_cases y : e = v
    · subst y; rw [if_pos rfl, if_pos (Int32.le_refl _), if_pos (Int32.le_refl _)]
    · have nx : ¬ v ≤ e := fun x => y (Int32.toInt_inj.mp (by rw [leI] at x z; omega))
      rw [if_neg y, if_neg nx]
  · rw [if_neg z, if_pos (by rw [leI] at z ⊢; omega), if_neg z]
theorem lk_settle {w f fs f2 fs2 fg fw fg2 fw2 g gm : Nat → Int32} {tot tot2 totg totg2 n0 n2 sm sm2 up up2 upm2 bank bank2 bankm2 stan soft doub spli giv bon r r' : Int32} {ch ch2 ch2' : Int64} {told ace ace2 : Bool} {cc cf : Nat → Nat} {hn hn2 un tgt : Nat} (iR : LkR w tgt stan soft doub spli giv bon) (iS : LkS f fs tot cc fg fw totg told cf n0 sm ace g gm hn up un)
    (hX : if n0 = 0 ∨ up = -1 then r = -1002 ∧ bank2 = bank ∧ up2 = up ∧ n2 = n0 ∧ sm2 = sm ∧ ace2 = ace ∧ f2 = f ∧ fg2 = fg ∧ ch2 = ch ∧ tot2 = tot ∧ totg2 = totg else bank2 = bank + r ∧ up2 = -1 ∧ n2 = 0 ∧ sm2 = 0 ∧ ace2 = false ∧ ∃ e : Int32, (f2, fg2, ch2, e) = sePl w f fg ch up sm ∧ tot2 = sm10 f2 ∧ totg2 = sm10 fg2 ∧ r = stC w (vlC w sm ace) (naB w (vlC w sm ace) n0) e)
    (hM : if hn = 0 ∨ nI un = 0 then r' = -1002 ∧ fs2 = fs ∧ fw2 = fw ∧ ch2' = ch ∧ hn2 = hn ∧ upm2 = nI un ∧ bankm2 = bank else hn2 = 0 ∧ upm2 = 0 ∧ bankm2 = bank + r' ∧ (if vlM (nI tgt) (hsN gm hn) (haN gm hn) ≤ nI tgt then ∃ (s2 : Int32) (a2 : Bool), plH w 320 fs fw ch (nI un) (decide (nI un = 1)) = (fs2, fw2, ch2', s2, a2) ∧ r' = seM (vlM (nI tgt) (hsN gm hn) (haN gm hn)) (if vlM (nI tgt) s2 a2 ≤ nI tgt then vlM (nI tgt) s2 a2 else 0) (if bI (naM (nI tgt) (vlM (nI tgt) (hsN gm hn) (haN gm hn)) (nI hn)) = 0 then 2 else bon) else fs2 = fs ∧ fw2 = fw ∧ ch2' = ch ∧ r' = -2)) :
    r = r' ∧ bank2 = bankm2 ∧ ch2 = ch2' ∧ ∃ (cc2 : Nat → Nat) (un2 : Nat), upm2 = nI un2 ∧ LkS f2 fs2 tot2 cc2 fg2 fw2 totg2 told cf n2 sm2 ace2 g gm hn2 up2 un2 := by
  have hb := hs_b iS.2.2.2.1
  obtain ⟨iC, iG, iT, iH, iU⟩ := id iS
  obtain ⟨c1, c2, c3⟩ := iC
  obtain ⟨d1, d2, d3, d4, d5⟩ := iH
  have q0 : (n0 = 0 ∨ up = -1) ↔ (hn = 0 ∨ nI un = 0) := by
    have a1 : n0 = 0 ↔ hn = 0 := by rw [d1]; exact nI_eq (a := hn) (b := 0) (by omega) (by decide)
    have a2 : up = -1 ↔ nI un = 0 := by
      rcases iU with ⟨x, y⟩ | ⟨x, y, z⟩
      · rw [x, y]; exact ⟨fun _ => by decide, fun _ => rfl⟩
      · rw [z]
        constructor
        · intro g
          have := congrArg Int32.toInt g
          rw [toInt_nI (by omega), show (-1 : Int32).toInt = -1 by decide] at this
          omega
        · intro g
          have := (nI_eq (a := un) (b := 0) (by omega) (by decide)).mp g
          omega
    rw [a1, a2]
  by_cases z : n0 = 0 ∨ up = -1
  · rw [if_pos z] at hX
    rw [if_pos (q0.mp z)] at hM
    obtain ⟨a0, a1, a2, a3, a4, a5, a6, a7, a8, a9, a10⟩ := hX
    obtain ⟨b0, b1, b2, b3, b4, b5, b6⟩ := hM
    exact ⟨a0.trans b0.symm, a1.trans b6.symm, a8.trans b3.symm, cc, un, b5, by rw [a2, a3, a4, a5, a6, a7, a9, a10, b1, b2, b4]; exact iS⟩
  · rw [if_neg z] at hX
    rw [if_neg (fun y => z (q0.mpr y))] at hM
    have eu : up = nI un := by
      rcases iU with ⟨x, y⟩ | ⟨x, y, y2⟩
      · exact absurd (Or.inr y) z
      · exact y2
    obtain ⟨a1, a2, a3, a4, a5, e, a6, a7, a8, a9⟩ := hX
    obtain ⟨b1, b2, b3, b4⟩ := hM
    have es : hsN gm hn = sm := by rw [d3]; exact hsN_cg hn (fun j x => (d5 j x).1)
    have ea : haN gm hn = ace := by rw [d4]; exact haN_cg hn (fun j x => (d5 j x).1)
    have ew : w 0 = nI tgt := iR.1
    rw [es, ea, ← ew] at b4
    have ev : vlM (w 0) sm ace = vlC w sm ace := rfl
    rw [ev] at b4
    have hH : LkH n2 sm2 ace2 g gm hn2 := by rw [a3, a4, a5, b1]; exact ⟨by decide, by omega, rfl, rfl, fun j x => absurd x (by omega)⟩
    have hU : LkU up2 0 := Or.inl ⟨rfl, a2⟩
    have bu := bu_iff (w := w) (a := ace) hb.1 hb.2
    by_cases y : vlC w sm ace ≤ w 0
    · rw [if_pos y] at b4
      obtain ⟨s2, a0, x1, x2⟩ := b4
      unfold sePl at a6
      rw [if_pos (bu.mpr y), eu] at a6
      obtain ⟨cc2, p1, p2, p3, p4, p5⟩ := plH_rel (w := w) (cf := cf) 320 f fs fg fw ch (nI un) (decide (nI un = 1)) cc c1 c2 iG.1
      rw [x1] at p2 p3 p4
      generalize plH w 320 f fg ch (nI un) (decide (nI un = 1)) = P at a6 p1 p3 p4 p5
      obtain ⟨P1, P2, P3, P4, P5⟩ := P
      obtain ⟨m1, m2, m3, m4⟩ : f2 = P1 ∧ fg2 = P2 ∧ ch2 = P3 ∧ e = enC w (vlC w P4 P5) := by
        have q := Prod.mk.inj a6
        have q2 := Prod.mk.inj q.2
        have q3 := Prod.mk.inj q2.2
        exact ⟨q.1, q2.1, q3.1, q3.2⟩
      obtain ⟨n1, n2_, n3⟩ : ch2' = P3 ∧ s2 = P4 ∧ a0 = P5 := by
        have q := Prod.mk.inj p4
        have q2 := Prod.mk.inj q.2
        exact ⟨q.1, q2.1, q2.2⟩
      have er : r = r' := by
        rw [a9, x2, m4, st_eq y iR.2.2.2.2.2.2.1, n2_, n3]
        have en : naB w (vlC w sm ace) n0 = naM (w 0) (vlC w sm ace) (nI hn) := by rw [d1]; rfl
        rw [en]
        rfl
      refine ⟨er, by rw [a1, b3, er], by rw [m3, n1], cc2, 0, by rw [b2]; decide, ⟨by rw [m1]; exact p1, p2, a7⟩, ⟨by rw [m2]; exact p3, a8⟩, fun gt => ?_, hH, hU⟩
      have := p5 (fun _ => iT gt)
      rw [m2]
      exact this rfl
    · rw [if_neg y] at b4
      obtain ⟨x1, x2, x3, x4⟩ := b4
      unfold sePl at a6
      rw [if_neg (fun gg => y (bu.mp gg))] at a6
      obtain ⟨m1, m2, m3, m4⟩ : f2 = f ∧ fg2 = fg ∧ ch2 = ch ∧ e = 0 := by
        have q := Prod.mk.inj a6
        have q2 := Prod.mk.inj q.2
        have q3 := Prod.mk.inj q2.2
        exact ⟨q.1, q2.1, q3.1, q3.2⟩
      have er : r = r' := by
        rw [a9, x4]
        unfold stC
        rw [if_pos (by rw [ltI]; rw [leI] at y; omega)]
      exact ⟨er, by rw [a1, b3, er], by rw [m3, x3], cc, 0, by rw [b2]; decide, ⟨by rw [m1]; exact c1, by rw [x1]; exact c2, a7⟩, ⟨by rw [m2, x2]; exact iG.1, a8⟩, by rw [m2]; exact iT, hH, hU⟩
/-! rule -/
theorem ite3 {p lo hi X : Int32} : (if p < lo then (0 : Int32) else if p ≤ hi then X else 0) = 0 ↔ ¬ (lo.toInt ≤ p.toInt ∧ p.toInt ≤ hi.toInt ∧ ¬ X = 0) := by
  by_cases a : p < lo
  · rw [if_pos a]
    rw [ltI] at a
    exact ⟨fun _ => by omega, fun _ => rfl⟩
  · rw [if_neg a]
    rw [ltI] at a
    by_cases b : p ≤ hi
    · rw [if_pos b]
      rw [leI] at b
      constructor
      · intro x y; exact y.2.2 x
      · intro x; exact Decidable.byContradiction (fun y => x ⟨by omega, by omega, y⟩)
    · rw [if_neg b]
      rw [leI] at b
      exact ⟨fun _ => by omega, fun _ => rfl⟩
theorem lk_rule {w w2 : Nat → Int32} {tgt : Nat} {stan soft doub spli giv bon targ2 stan2 soft2 doub2 spli2 giv2 bon2 p0 p1 r r' : Int32} (iR : LkR w tgt stan soft doub spli giv bon)
    (hX : if alw w p0 p1 = 0 then r = -1001 ∧ w2 = w else r = w p0.toNatClampNeg ∧ w2 = upd w p0.toNatClampNeg p1)
    (hM : if inB p0.toInt64 0 6 = 0 then r' = -1001 ∧ targ2 = nI tgt ∧ stan2 = stan ∧ soft2 = soft ∧ doub2 = doub ∧ spli2 = spli ∧ giv2 = giv ∧ bon2 = bon else if rlM p0 p1 (nI tgt) stan = 0 then r' = -1001 ∧ targ2 = nI tgt ∧ stan2 = stan ∧ soft2 = soft ∧ doub2 = doub ∧ spli2 = spli ∧ giv2 = giv ∧ bon2 = bon else
      r' = (if p0 = 0 then nI tgt else if p0 = 1 then stan else if p0 = 2 then soft else if p0 = 3 then doub else if p0 = 4 then spli else if p0 = 5 then giv else bon) ∧ targ2 = (if p0 = 0 then p1 else nI tgt) ∧ stan2 = (if p0 = 1 then p1 else stan) ∧ soft2 = (if p0 = 2 then p1 else soft) ∧ doub2 = (if p0 = 3 then p1 else doub) ∧ spli2 = (if p0 = 4 then p1 else spli) ∧ giv2 = (if p0 = 5 then p1 else giv) ∧ bon2 = (if p0 = 0 ∨ p0 = 1 ∨ p0 = 2 ∨ p0 = 3 ∨ p0 = 4 ∨ p0 = 5 then bon else p1)) :
    r = r' ∧ ∃ tgt2 : Nat, targ2 = nI tgt2 ∧ LkR w2 tgt2 stan2 soft2 doub2 spli2 giv2 bon2 := by
  have same : r = -1001 ∧ w2 = w → r' = -1001 ∧ targ2 = nI tgt ∧ stan2 = stan ∧ soft2 = soft ∧ doub2 = doub ∧ spli2 = spli ∧ giv2 = giv ∧ bon2 = bon → r = r' ∧ ∃ tgt2 : Nat, targ2 = nI tgt2 ∧ LkR w2 tgt2 stan2 soft2 doub2 spli2 giv2 bon2 := by
    rintro ⟨a0, a1⟩ ⟨b0, b1, b2, b3, b4, b5, b6, b7⟩
    exact ⟨a0.trans b0.symm, tgt, b1, by rw [a1, b2, b3, b4, b5, b6, b7]; exact iR⟩
  obtain ⟨r0, r1, r2, r3, r4, r5, r6, l1, l2, l3, l4⟩ := id iR
  have q : inB p0.toInt64 0 6 = 0 ↔ (p0.toInt < 0 ∨ 6 < p0.toInt) := inB_0 p0 0 6
  have t6 : (6 : Int32).toInt = 6 := by decide
  have tt : (nI tgt).toInt = tgt := toInt_nI (by omega)
  by_cases z : inB p0.toInt64 0 6 = 0
  · have y := q.mp z
    rw [if_pos z] at hM
    have e : alw w p0 p1 = 0 := by
      unfold alw
      by_cases x : p0 < 0
      · rw [if_pos x]
      · rw [if_neg x]
        rw [ltI, t0] at x
        rw [if_pos (by rw [ltI, t6]; omega)]
    rw [if_pos e] at hX
    exact same hX hM
  · rw [if_neg z] at hM
    have y := mt q.mpr z
    obtain ⟨k, hk, rfl⟩ := i32_nat (x := p0) (n := 6) (by omega) (by omega) (by decide)
    have n0 : ¬ nI k < 0 := nI_pos (by omega)
    have n6 : ¬ 6 < nI k := nI_nlt (a := 6) hk (by decide)
    have al : alw w (nI k) p1 = 0 ↔ ¬ ((least0 k).toInt ≤ p1.toInt ∧ p1.toInt ≤ (most0 k).toInt ∧ ¬ (if nI k = 0 then (if p1 < w 1 then (0 : Int32) else 1) else if nI k = 1 then (if w 0 < p1 then 0 else 1) else 1) = 0) := by
      unfold alw
      rw [if_neg n0, if_neg n6, nI_clamp (by omega)]
      exact ite3
    rw [nI_clamp (by omega)] at hX
    have i01 : inB p1.toInt64 0 1 = 0 ↔ (p1.toInt < 0 ∨ 1 < p1.toInt) := inB_0 p1 0 1
    have i24 : inB p1.toInt64 2 4 = 0 ↔ (p1.toInt < 2 ∨ 4 < p1.toInt) := inB_0 p1 2 4
    have i11 : inB p1.toInt64 11 21 = 0 ↔ (p1.toInt < 11 ∨ 21 < p1.toInt) := inB_0 p1 11 21
    have iT : inB (nI tgt).toInt64 11 21 = 0 ↔ ((nI tgt).toInt < 11 ∨ 21 < (nI tgt).toInt) := inB_0 (nI tgt) 11 21
    have iS : inB stan.toInt64 10 p1.toInt64 = 0 ↔ (stan.toInt < 10 ∨ p1.toInt < stan.toInt) := inB_0 stan 10 p1
    have iP : inB p1.toInt64 10 (nI tgt).toInt64 = 0 ↔ (p1.toInt < 10 ∨ (nI tgt).toInt < p1.toInt) := inB_0 p1 10 (nI tgt)
    rcases (show k = 0 ∨ k = 1 ∨ k = 2 ∨ k = 3 ∨ k = 4 ∨ k = 5 ∨ k = 6 by omega) with rfl | rfl | rfl | rfl | rfl | rfl | rfl
    · have x0 : nI 0 = 0 := by decide
      have x1 : ¬ nI 0 = 1 := by decide
      have x2 : ¬ nI 0 = 2 := by decide
      have x3 : ¬ nI 0 = 3 := by decide
      have x4 : ¬ nI 0 = 4 := by decide
      have x5 : ¬ nI 0 = 5 := by decide
      have s2 : ¬ 2 ≤ nI 0 := by decide
      have s6 : ¬ 6 ≤ nI 0 := by decide
      have y1 : (least0 0).toInt = 11 := by decide
      have y2 : (most0 0).toInt = 21 := by decide
      rw [y1, y2, if_pos x0] at al
      have rl : rlM (nI 0) p1 (nI tgt) stan = (if inB p1.toInt64 11 21 = 0 then 0 else if inB stan.toInt64 10 p1.toInt64 = 0 then 0 else 1) := by unfold rlM; rw [if_neg s2, if_pos x0, if_neg x1]
      have eq : alw w (nI 0) p1 = 0 ↔ rlM (nI 0) p1 (nI tgt) stan = 0 := by
        rw [al, rl]
        by_cases x : inB p1.toInt64 11 21 = 0
        · rw [if_pos x]; have := i11.mp x; exact ⟨fun _ => rfl, fun _ => by omega⟩
        · rw [if_neg x]
          have x2 := mt i11.mpr x
          by_cases v : inB stan.toInt64 10 p1.toInt64 = 0
          · have v2 := iS.mp v
            rw [if_pos v, if_pos (by rw [ltI, r1]; omega)]
            exact ⟨fun _ => rfl, fun _ => fun u => u.2.2 rfl⟩
          · have v2 := mt iS.mpr v
            rw [if_neg v, if_neg (by rw [ltI, r1]; omega)]
            exact ⟨fun u => absurd ⟨by omega, by omega, by decide⟩ u, fun u => absurd u (by decide)⟩
      by_cases g : alw w (nI 0) p1 = 0
      · rw [if_pos g] at hX; rw [if_pos (eq.mp g)] at hM; exact same hX hM
      · rw [if_neg g] at hX; rw [if_neg (fun u => g (eq.mpr u))] at hM
        obtain ⟨b0, b1, b2, b3, b4, b5, b6, b7⟩ := hM
        rw [if_pos x0] at b1
        rw [if_neg x1] at b2
        rw [if_neg x2] at b3
        rw [if_neg x3] at b4
        rw [if_neg x4] at b5
        rw [if_neg x5] at b6
        rw [if_pos (Or.inl x0)] at b7
        rw [if_pos x0] at b0
        have g2 := Decidable.of_not_not (mt al.mpr g)
        obtain ⟨v, hv, ev⟩ := i32_nat (x := p1) (n := 21) (by omega) (by omega) (by decide)
        have g3 : stan.toInt ≤ p1.toInt := by
          obtain ⟨_, _, u⟩ := g2
          by_cases x : p1 < w 1
          · rw [if_pos x] at u; exact absurd rfl u
          · rw [ltI, r1] at x; omega
        have pv : p1.toInt = v := by rw [ev, toInt_nI (by omega)]
        refine ⟨by rw [hX.1, b0, r0], v, by rw [b1, ev], ?_⟩
        rw [hX.2, b2, b3, b4, b5, b6, b7]
        exact ⟨(if_pos rfl).trans ev, r1, r2, r3, r4, r5, r6, by omega, by omega, l3, by omega⟩
    · have x0 : ¬ nI 1 = 0 := by decide
      have x1 : nI 1 = 1 := by decide
      have x2 : ¬ nI 1 = 2 := by decide
      have x3 : ¬ nI 1 = 3 := by decide
      have x4 : ¬ nI 1 = 4 := by decide
      have x5 : ¬ nI 1 = 5 := by decide
      have s2 : ¬ 2 ≤ nI 1 := by decide
      have s6 : ¬ 6 ≤ nI 1 := by decide
      have y1 : (least0 1).toInt = 10 := by decide
      have y2 : (most0 1).toInt = 21 := by decide
      rw [y1, y2, if_neg x0, if_pos x1] at al
      have rl : rlM (nI 1) p1 (nI tgt) stan = (if inB (nI tgt).toInt64 11 21 = 0 then 0 else if inB p1.toInt64 10 (nI tgt).toInt64 = 0 then 0 else 1) := by unfold rlM; rw [if_neg s2, if_neg x0, if_pos x1]
      have xt : ¬ inB (nI tgt).toInt64 11 21 = 0 := fun u => by have := iT.mp u; omega
      have eq : alw w (nI 1) p1 = 0 ↔ rlM (nI 1) p1 (nI tgt) stan = 0 := by
        rw [al, rl, if_neg xt]
        by_cases v : inB p1.toInt64 10 (nI tgt).toInt64 = 0
        · have v2 := iP.mp v
          rw [if_pos v]
          refine ⟨fun _ => rfl, fun _ => fun u => ?_⟩
          rw [if_pos (by rw [ltI, r0]; omega)] at u
          exact u.2.2 rfl
        · have v2 := mt iP.mpr v
          rw [if_neg v, if_neg (by rw [ltI, r0]; omega)]
          exact ⟨fun u => absurd ⟨by omega, by omega, by decide⟩ u, fun u => absurd u (by decide)⟩
      by_cases g : alw w (nI 1) p1 = 0
      · rw [if_pos g] at hX; rw [if_pos (eq.mp g)] at hM; exact same hX hM
      · rw [if_neg g] at hX; rw [if_neg (fun u => g (eq.mpr u))] at hM
        obtain ⟨b0, b1, b2, b3, b4, b5, b6, b7⟩ := hM
        rw [if_neg x0] at b1
        rw [if_pos x1] at b2
        rw [if_neg x2] at b3
        rw [if_neg x3] at b4
        rw [if_neg x4] at b5
        rw [if_neg x5] at b6
        rw [if_pos (Or.inr (Or.inl x1))] at b7
        rw [if_neg x0, if_pos x1] at b0
        have g2 := Decidable.of_not_not (mt al.mpr g)
        have g3 : p1.toInt ≤ tgt := by
          obtain ⟨_, _, u⟩ := g2
          by_cases x : w 0 < p1
          · rw [if_pos x] at u; exact absurd rfl u
          · rw [ltI, r0] at x; omega
        refine ⟨by rw [hX.1, b0, r1], tgt, b1, ?_⟩
        rw [hX.2, b2, b3, b4, b5, b6, b7]
        exact ⟨r0, if_pos rfl, r2, r3, r4, r5, r6, l1, l2, by omega, g3⟩
    · have x0 : ¬ nI 2 = 0 := by decide
      have x1 : ¬ nI 2 = 1 := by decide
      have x2 : nI 2 = 2 := by decide
      have x3 : ¬ nI 2 = 3 := by decide
      have x4 : ¬ nI 2 = 4 := by decide
      have x5 : ¬ nI 2 = 5 := by decide
      have s2 : 2 ≤ nI 2 := by decide
      have s6 : ¬ 6 ≤ nI 2 := by decide
      have y1 : (least0 2).toInt = 0 := by decide
      have y2 : (most0 2).toInt = 1 := by decide
      rw [y1, y2, if_neg x0, if_neg x1] at al
      have rl : rlM (nI 2) p1 (nI tgt) stan = inB p1.toInt64 0 1 := by unfold rlM; rw [if_pos s2, if_neg s6]
      have eq : alw w (nI 2) p1 = 0 ↔ rlM (nI 2) p1 (nI tgt) stan = 0 := by
        rw [al, rl, i01]
        have d1 : ¬ (1 : Int32) = 0 := by decide
        constructor
        · intro u
          by_cases v1 : p1.toInt < 0
          · exact Or.inl v1
          · by_cases v2 : 1 < p1.toInt
            · exact Or.inr v2
            · exact absurd ⟨by omega, by omega, d1⟩ u
        · intro u v
          omega
      by_cases g : alw w (nI 2) p1 = 0
      · rw [if_pos g] at hX; rw [if_pos (eq.mp g)] at hM; exact same hX hM
      · rw [if_neg g] at hX; rw [if_neg (fun u => g (eq.mpr u))] at hM
        obtain ⟨b0, b1, b2, b3, b4, b5, b6, b7⟩ := hM
        rw [if_neg x0] at b1
        rw [if_neg x1] at b2
        rw [if_pos x2] at b3
        rw [if_neg x3] at b4
        rw [if_neg x4] at b5
        rw [if_neg x5] at b6
        rw [if_pos (Or.inr (Or.inr (Or.inl x2)))] at b7
        rw [if_neg x0, if_neg x1, if_pos x2] at b0
        refine ⟨by rw [hX.1, b0, r2], tgt, b1, ?_⟩
        rw [hX.2, b2, b3, b4, b5, b6, b7]
        exact ⟨r0, r1, if_pos rfl, r3, r4, r5, r6, l1, l2, l3, l4⟩
    · have x0 : ¬ nI 3 = 0 := by decide
      have x1 : ¬ nI 3 = 1 := by decide
      have x2 : ¬ nI 3 = 2 := by decide
      have x3 : nI 3 = 3 := by decide
      have x4 : ¬ nI 3 = 4 := by decide
      have x5 : ¬ nI 3 = 5 := by decide
      have s2 : 2 ≤ nI 3 := by decide
      have s6 : ¬ 6 ≤ nI 3 := by decide
      have y1 : (least0 3).toInt = 0 := by decide
      have y2 : (most0 3).toInt = 1 := by decide
      rw [y1, y2, if_neg x0, if_neg x1] at al
      have rl : rlM (nI 3) p1 (nI tgt) stan = inB p1.toInt64 0 1 := by unfold rlM; rw [if_pos s2, if_neg s6]
      have eq : alw w (nI 3) p1 = 0 ↔ rlM (nI 3) p1 (nI tgt) stan = 0 := by
        rw [al, rl, i01]
        have d1 : ¬ (1 : Int32) = 0 := by decide
        constructor
        · intro u
          by_cases v1 : p1.toInt < 0
          · exact Or.inl v1
          · by_cases v2 : 1 < p1.toInt
            · exact Or.inr v2
            · exact absurd ⟨by omega, by omega, d1⟩ u
        · intro u v
          omega
      by_cases g : alw w (nI 3) p1 = 0
      · rw [if_pos g] at hX; rw [if_pos (eq.mp g)] at hM; exact same hX hM
      · rw [if_neg g] at hX; rw [if_neg (fun u => g (eq.mpr u))] at hM
        obtain ⟨b0, b1, b2, b3, b4, b5, b6, b7⟩ := hM
        rw [if_neg x0] at b1
        rw [if_neg x1] at b2
        rw [if_neg x2] at b3
        rw [if_pos x3] at b4
        rw [if_neg x4] at b5
        rw [if_neg x5] at b6
        rw [if_pos (Or.inr (Or.inr (Or.inr (Or.inl x3))))] at b7
        rw [if_neg x0, if_neg x1, if_neg x2, if_pos x3] at b0
        refine ⟨by rw [hX.1, b0, r3], tgt, b1, ?_⟩
        rw [hX.2, b2, b3, b4, b5, b6, b7]
        exact ⟨r0, r1, r2, if_pos rfl, r4, r5, r6, l1, l2, l3, l4⟩
    · have x0 : ¬ nI 4 = 0 := by decide
      have x1 : ¬ nI 4 = 1 := by decide
      have x2 : ¬ nI 4 = 2 := by decide
      have x3 : ¬ nI 4 = 3 := by decide
      have x4 : nI 4 = 4 := by decide
      have x5 : ¬ nI 4 = 5 := by decide
      have s2 : 2 ≤ nI 4 := by decide
      have s6 : ¬ 6 ≤ nI 4 := by decide
      have y1 : (least0 4).toInt = 0 := by decide
      have y2 : (most0 4).toInt = 1 := by decide
      rw [y1, y2, if_neg x0, if_neg x1] at al
      have rl : rlM (nI 4) p1 (nI tgt) stan = inB p1.toInt64 0 1 := by unfold rlM; rw [if_pos s2, if_neg s6]
      have eq : alw w (nI 4) p1 = 0 ↔ rlM (nI 4) p1 (nI tgt) stan = 0 := by
        rw [al, rl, i01]
        have d1 : ¬ (1 : Int32) = 0 := by decide
        constructor
        · intro u
          by_cases v1 : p1.toInt < 0
          · exact Or.inl v1
          · by_cases v2 : 1 < p1.toInt
            · exact Or.inr v2
            · exact absurd ⟨by omega, by omega, d1⟩ u
        · intro u v
          omega
      by_cases g : alw w (nI 4) p1 = 0
      · rw [if_pos g] at hX; rw [if_pos (eq.mp g)] at hM; exact same hX hM
      · rw [if_neg g] at hX; rw [if_neg (fun u => g (eq.mpr u))] at hM
        obtain ⟨b0, b1, b2, b3, b4, b5, b6, b7⟩ := hM
        rw [if_neg x0] at b1
        rw [if_neg x1] at b2
        rw [if_neg x2] at b3
        rw [if_neg x3] at b4
        rw [if_pos x4] at b5
        rw [if_neg x5] at b6
        rw [if_pos (Or.inr (Or.inr (Or.inr (Or.inr (Or.inl x4)))))] at b7
        rw [if_neg x0, if_neg x1, if_neg x2, if_neg x3, if_pos x4] at b0
        refine ⟨by rw [hX.1, b0, r4], tgt, b1, ?_⟩
        rw [hX.2, b2, b3, b4, b5, b6, b7]
        exact ⟨r0, r1, r2, r3, if_pos rfl, r5, r6, l1, l2, l3, l4⟩
    · have x0 : ¬ nI 5 = 0 := by decide
      have x1 : ¬ nI 5 = 1 := by decide
      have x2 : ¬ nI 5 = 2 := by decide
      have x3 : ¬ nI 5 = 3 := by decide
      have x4 : ¬ nI 5 = 4 := by decide
      have x5 : nI 5 = 5 := by decide
      have s2 : 2 ≤ nI 5 := by decide
      have s6 : ¬ 6 ≤ nI 5 := by decide
      have y1 : (least0 5).toInt = 0 := by decide
      have y2 : (most0 5).toInt = 1 := by decide
      rw [y1, y2, if_neg x0, if_neg x1] at al
      have rl : rlM (nI 5) p1 (nI tgt) stan = inB p1.toInt64 0 1 := by unfold rlM; rw [if_pos s2, if_neg s6]
      have eq : alw w (nI 5) p1 = 0 ↔ rlM (nI 5) p1 (nI tgt) stan = 0 := by
        rw [al, rl, i01]
        have d1 : ¬ (1 : Int32) = 0 := by decide
        constructor
        · intro u
          by_cases v1 : p1.toInt < 0
          · exact Or.inl v1
          · by_cases v2 : 1 < p1.toInt
            · exact Or.inr v2
            · exact absurd ⟨by omega, by omega, d1⟩ u
        · intro u v
          omega
      by_cases g : alw w (nI 5) p1 = 0
      · rw [if_pos g] at hX; rw [if_pos (eq.mp g)] at hM; exact same hX hM
      · rw [if_neg g] at hX; rw [if_neg (fun u => g (eq.mpr u))] at hM
        obtain ⟨b0, b1, b2, b3, b4, b5, b6, b7⟩ := hM
        rw [if_neg x0] at b1
        rw [if_neg x1] at b2
        rw [if_neg x2] at b3
        rw [if_neg x3] at b4
        rw [if_neg x4] at b5
        rw [if_pos x5] at b6
        rw [if_pos (Or.inr (Or.inr (Or.inr (Or.inr (Or.inr x5)))))] at b7
        rw [if_neg x0, if_neg x1, if_neg x2, if_neg x3, if_neg x4, if_pos x5] at b0
        refine ⟨by rw [hX.1, b0, r5], tgt, b1, ?_⟩
        rw [hX.2, b2, b3, b4, b5, b6, b7]
        exact ⟨r0, r1, r2, r3, r4, if_pos rfl, r6, l1, l2, l3, l4⟩
    · have x0 : ¬ nI 6 = 0 := by decide
      have x1 : ¬ nI 6 = 1 := by decide
      have x2 : ¬ nI 6 = 2 := by decide
      have x3 : ¬ nI 6 = 3 := by decide
      have x4 : ¬ nI 6 = 4 := by decide
      have x5 : ¬ nI 6 = 5 := by decide
      have s2 : 2 ≤ nI 6 := by decide
      have s6 : 6 ≤ nI 6 := by decide
      have y1 : (least0 6).toInt = 2 := by decide
      have y2 : (most0 6).toInt = 4 := by decide
      rw [y1, y2, if_neg x0, if_neg x1] at al
      have rl : rlM (nI 6) p1 (nI tgt) stan = inB p1.toInt64 2 4 := by unfold rlM; rw [if_pos s2, if_pos s6]
      have eq : alw w (nI 6) p1 = 0 ↔ rlM (nI 6) p1 (nI tgt) stan = 0 := by
        rw [al, rl, i24]
        have d1 : ¬ (1 : Int32) = 0 := by decide
        constructor
        · intro u
          by_cases v1 : p1.toInt < 2
          · exact Or.inl v1
          · by_cases v2 : 4 < p1.toInt
            · exact Or.inr v2
            · exact absurd ⟨by omega, by omega, d1⟩ u
        · intro u v
          omega
      by_cases g : alw w (nI 6) p1 = 0
      · rw [if_pos g] at hX; rw [if_pos (eq.mp g)] at hM; exact same hX hM
      · rw [if_neg g] at hX; rw [if_neg (fun u => g (eq.mpr u))] at hM
        obtain ⟨b0, b1, b2, b3, b4, b5, b6, b7⟩ := hM
        rw [if_neg x0] at b1
        rw [if_neg x1] at b2
        rw [if_neg x2] at b3
        rw [if_neg x3] at b4
        rw [if_neg x4] at b5
        rw [if_neg x5] at b6
        rw [if_neg (fun u => by rcases u with u | u | u | u | u | u; exact x0 u; exact x1 u; exact x2 u; exact x3 u; exact x4 u; exact x5 u)] at b7
        rw [if_neg x0, if_neg x1, if_neg x2, if_neg x3, if_neg x4, if_neg x5] at b0
        refine ⟨by rw [hX.1, b0, r6], tgt, b1, ?_⟩
        rw [hX.2, b2, b3, b4, b5, b6, b7]
        exact ⟨r0, r1, r2, r3, r4, r5, if_pos rfl, l1, l2, l3, l4⟩
