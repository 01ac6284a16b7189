/-! take, draw, settle, rule in lockstep -/
def LkS (f fs : Nat → Int32) (tot : Int32) (cc : Nat → Nat) (fg fw : Nat → Int32) (totg : Int32) (told : Bool) (cf : Nat → Nat) (n0 sm : Int32) (ace : Bool) (g gm : Nat → Int32) (hn : Nat) (up : Int32) (un : Nat) : Prop := LkC f fs tot cc ∧ LkG fg fw totg ∧ LkT told fg cc cf ∧ LkH n0 sm ace g gm hn ∧ LkU up un
theorem n12_iff {n : Nat} (h : n ≤ 12) : (¬ nI n < 12) ↔ n = 12 := by
  have q := nI_ltI (a := n) (b := 12) (by omega) (by decide)
  constructor
  · intro z
    have := mt q.mpr z
    omega
  · rintro rfl; decide
theorem lk_go {f fs f2 fs2 fg fw fg2 fw2 g gm g2 gm2 : Nat → Int32} {tot tot2 totg totg2 n0 n2 sm sm2 up up2 upm2 to : Int32} {told ace ace2 : Bool} {cc cf : Nat → Nat} {hn hn2 un k : Nat} (k1 : 1 ≤ k) (k2 : k ≤ 10) (hp : 0 < cc k) (iS : LkS f fs tot cc fg fw totg told cf n0 sm ace g gm hn up un) (hno : ¬ (to = 0 ∧ hn = 12))
    (m1 : tot2 = tot - 1) (m2 : f2 = upd f k (f k - 1)) (m3 : totg2 = totg + 1) (m4 : fg2 = upd fg k (fg k + 1))
    (m5 : if to = 0 then up2 = up ∧ (if n0 < 12 then n2 = n0 + 1 ∧ sm2 = sm + nI k ∧ ace2 = (ace || decide (nI k = 1)) ∧ g2 = upd g n0.toNatClampNeg (nI k) else n2 = n0 ∧ sm2 = sm ∧ ace2 = ace ∧ g2 = g) else if to = 1 then up2 = nI k ∧ n2 = n0 ∧ sm2 = sm ∧ ace2 = ace ∧ g2 = g else up2 = up ∧ n2 = n0 ∧ sm2 = sm ∧ ace2 = ace ∧ g2 = g)
    (q1 : fs2 = upd fs k (fs k - 1)) (q2 : fw2 = upd fw k (fw k + 1)) (q3 : if to = 0 then hn2 = hn + 1 ∧ gm2 = upd gm hn (nI k) ∧ upm2 = nI un else if to = 1 then hn2 = hn ∧ gm2 = gm ∧ upm2 = nI k else hn2 = hn ∧ gm2 = gm ∧ upm2 = nI un) :
    n2 = nI hn2 ∧ ∃ (cc2 : Nat → Nat) (un2 : Nat), upm2 = nI un2 ∧ LkS f2 fs2 tot2 cc2 fg2 fw2 totg2 told cf n2 sm2 ace2 g2 gm2 hn2 up2 un2 := by
  obtain ⟨iC, iG, iT, iH, iU⟩ := iS
  obtain ⟨r1, r2, r3⟩ := lk_mv k1 k2 hp iC iG iT m2 q1 m4 q2 m1 m3
  by_cases z : to = 0
  · rw [if_pos z] at m5 q3
    have h12 : hn < 12 := by have := iH.2.1; have : ¬ hn = 12 := fun y => hno ⟨z, y⟩; omega
    have hl : n0 < 12 := by rw [iH.1]; exact nI_lt (b := 12) h12 (by decide)
    obtain ⟨u1, u2⟩ := m5
    rw [if_pos hl] at u2
    have hh := lk_hadd k1 k2 h12 iH u2.1 u2.2.1 u2.2.2.1 u2.2.2.2 q3.2.1
    rw [← q3.1] at hh
    exact ⟨hh.1, _, un, q3.2.2, r1, r2, r3, hh, by rw [u1]; exact iU⟩
  · rw [if_neg z] at m5 q3
    by_cases y : to = 1
    · rw [if_pos y] at m5 q3
      obtain ⟨u1, u2, u3, u4, u5⟩ := m5
      have hh : LkH n2 sm2 ace2 g2 gm2 hn2 := by rw [u2, u3, u4, u5, q3.1, q3.2.1]; exact iH
      exact ⟨hh.1, _, k, q3.2.2, r1, r2, r3, hh, Or.inr ⟨k1, k2, u1⟩⟩
    · rw [if_neg y] at m5 q3
      obtain ⟨u1, u2, u3, u4, u5⟩ := m5
      have hh : LkH n2 sm2 ace2 g2 gm2 hn2 := by rw [u2, u3, u4, u5, q3.1, q3.2.1]; exact iH
      exact ⟨hh.1, _, un, q3.2.2, r1, r2, r3, hh, by rw [u1]; exact iU⟩
theorem lk_take {f fs f2 fs2 fg fw fg2 fw2 g gm g2 gm2 : Nat → Int32} {tot tot2 totg totg2 n0 n2 sm sm2 up up2 upm2 p0 p1 r r' : Int32} {told ace ace2 : Bool} {cc cf : Nat → Nat} {hn hn2 un : Nat} (iS : LkS f fs tot cc fg fw totg told cf n0 sm ace g gm hn up un)
    (hX : if rkB p0 = 0 then r = -1001 ∧ up2 = up ∧ tot2 = tot ∧ f2 = f ∧ totg2 = totg ∧ fg2 = fg ∧ n2 = n0 ∧ sm2 = sm ∧ ace2 = ace ∧ g2 = g else if glB p1 = 0 then r = -1001 ∧ up2 = up ∧ tot2 = tot ∧ f2 = f ∧ totg2 = totg ∧ fg2 = fg ∧ n2 = n0 ∧ sm2 = sm ∧ ace2 = ace ∧ g2 = g else if f p0.toNatClampNeg = 0 then r = -1002 ∧ up2 = up ∧ tot2 = tot ∧ f2 = f ∧ totg2 = totg ∧ fg2 = fg ∧ n2 = n0 ∧ sm2 = sm ∧ ace2 = ace ∧ g2 = g else if p1 = 0 ∧ ¬ n0 < 12 then r = -1003 ∧ up2 = up ∧ tot2 = tot ∧ f2 = f ∧ totg2 = totg ∧ fg2 = fg ∧ n2 = n0 ∧ sm2 = sm ∧ ace2 = ace ∧ g2 = g else r = n2 ∧ tot2 = tot - 1 ∧ f2 = upd f p0.toNatClampNeg (f p0.toNatClampNeg - 1) ∧ totg2 = totg + 1 ∧ fg2 = upd fg p0.toNatClampNeg (fg p0.toNatClampNeg + 1) ∧ (if p1 = 0 then up2 = up ∧ (if n0 < 12 then n2 = n0 + 1 ∧ sm2 = sm + p0 ∧ ace2 = (ace || decide (p0 = 1)) ∧ g2 = upd g n0.toNatClampNeg p0 else n2 = n0 ∧ sm2 = sm ∧ ace2 = ace ∧ g2 = g) else if p1 = 1 then up2 = p0 ∧ n2 = n0 ∧ sm2 = sm ∧ ace2 = ace ∧ g2 = g else up2 = up ∧ n2 = n0 ∧ sm2 = sm ∧ ace2 = ace ∧ g2 = g))
    (hM : if inB p0.toInt64 1 10 = 0 then r' = -1001 ∧ fs2 = fs ∧ fw2 = fw ∧ gm2 = gm ∧ hn2 = hn ∧ upm2 = nI un else if inB p1.toInt64 0 2 = 0 then r' = -1001 ∧ fs2 = fs ∧ fw2 = fw ∧ gm2 = gm ∧ hn2 = hn ∧ upm2 = nI un else if fs p0.toNatClampNeg = 0 then r' = -1002 ∧ fs2 = fs ∧ fw2 = fw ∧ gm2 = gm ∧ hn2 = hn ∧ upm2 = nI un else if p1 = 0 ∧ hn = 12 then r' = -1003 ∧ fs2 = fs ∧ fw2 = fw ∧ gm2 = gm ∧ hn2 = hn ∧ upm2 = nI un else r' = nI hn2 ∧ fs2 = upd fs p0.toNatClampNeg (fs p0.toNatClampNeg - 1) ∧ fw2 = upd fw p0.toNatClampNeg (fw p0.toNatClampNeg + 1) ∧ if p1 = 0 then hn2 = hn + 1 ∧ gm2 = upd gm hn p0 ∧ upm2 = nI un else if p1 = 1 then hn2 = hn ∧ gm2 = gm ∧ upm2 = p0 else hn2 = hn ∧ gm2 = gm ∧ upm2 = nI un) :
    r = r' ∧ ∃ (cc2 : Nat → Nat) (un2 : Nat), upm2 = nI un2 ∧ LkS f2 fs2 tot2 cc2 fg2 fw2 totg2 told cf n2 sm2 ace2 g2 gm2 hn2 up2 un2 := by
  have same : ∀ x : Int32, r = x ∧ up2 = up ∧ tot2 = tot ∧ f2 = f ∧ totg2 = totg ∧ fg2 = fg ∧ n2 = n0 ∧ sm2 = sm ∧ ace2 = ace ∧ g2 = g → r' = x ∧ fs2 = fs ∧ fw2 = fw ∧ gm2 = gm ∧ hn2 = hn ∧ upm2 = nI un → r = r' ∧ ∃ (cc2 : Nat → Nat) (un2 : Nat), upm2 = nI un2 ∧ LkS f2 fs2 tot2 cc2 fg2 fw2 totg2 told cf n2 sm2 ace2 g2 gm2 hn2 up2 un2 := by
    rintro x ⟨a0, a1, a2, a3, a4, a5, a6, a7, a8, a9⟩ ⟨b0, b1, b2, b3, b4, b5⟩
    exact ⟨a0.trans b0.symm, cc, un, b5, by rw [a1, a2, a3, a4, a5, a6, a7, a8, a9, b1, b2, b3, b4]; exact iS⟩
  rw [in_rk, in_gl] at hM
  by_cases z1 : rkB p0 = 0
  · rw [if_pos z1] at hX hM; exact same _ hX hM
  · rw [if_neg z1] at hX hM
    by_cases z2 : glB p1 = 0
    · rw [if_pos z2] at hX hM; exact same _ hX hM
    · rw [if_neg z2] at hX hM
      obtain ⟨k, k1, k2, rfl⟩ := rk_nat z1
      have c1 := iS.1.1 k k1 k2
      have c2 := iS.1.2.1 k k1 k2
      rw [nI_clamp (by omega)] at hX hM
      rw [c2.1] at hM
      by_cases z3 : f k = 0
      · rw [if_pos z3] at hX
        rw [c1.1] at z3
        rw [if_pos z3] at hM
        exact same _ hX hM
      · rw [if_neg z3] at hX
        rw [c1.1] at z3
        rw [if_neg z3] at hM
        have hp : 0 < cc k := by
          rcases Nat.eq_zero_or_pos (cc k) with y | y
          · rw [y] at z3; exact absurd (show nI 0 = 0 by decide) z3
          · exact y
        have hI := iS.2.2.2.1
        have q12 := n12_iff hI.2.1
        rw [← hI.1] at q12
        by_cases z4 : p1 = 0 ∧ ¬ n0 < 12
        · rw [if_pos z4] at hX
          rw [if_pos ⟨z4.1, q12.mp z4.2⟩] at hM
          exact same _ hX hM
        · rw [if_neg z4] at hX
          rw [if_neg (fun y => z4 ⟨y.1, q12.mpr y.2⟩)] at hM
          obtain ⟨x1, x2, x3, x4, x5, x6⟩ := hX
          obtain ⟨y1, y2, y3, y4⟩ := hM
          rw [← c2.1] at y2
          obtain ⟨w1, w2⟩ := lk_go k1 k2 hp iS (fun y => z4 ⟨y.1, q12.mpr y.2⟩) x2 x3 x4 x5 x6 y2 y3 y4
          exact ⟨by rw [x1, y1, w1], w2⟩
theorem drR_eq {f fs : Nat → Int32} {cc : Nat → Nat} (ch : Int64) (h1 : cntI f cc) (h2 : cntI fs cc) (h0 : 0 < smN cc) : drR f ch = drR fs ch := by
  obtain ⟨q, a, b, c⟩ := drawM ch h1 h0
  obtain ⟨q2, a2, b2, c2⟩ := drawM ch h2 h0
  rw [sm10_N h1] at b
  rw [sm10_N h2, b] at b2
  have hl := smN_le h1
  have : q = q2 := (nI_eq (by omega) (by omega)).mp b2
  rw [c, c2, this]
theorem lk_draw {f fs f2 fs2 fg fw fg2 fw2 g gm g2 gm2 : Nat → Int32} {tot tot2 totg totg2 n0 n2 sm sm2 up up2 upm2 p0 r r' : Int32} {ch ch2 ch2' : Int64} {told ace ace2 : Bool} {cc cf : Nat → Nat} {hn hn2 un : Nat} (iS : LkS f fs tot cc fg fw totg told cf n0 sm ace g gm hn up un)
    (hX : if glB p0 = 0 then r = -1001 ∧ up2 = up ∧ tot2 = tot ∧ f2 = f ∧ totg2 = totg ∧ fg2 = fg ∧ n2 = n0 ∧ sm2 = sm ∧ ace2 = ace ∧ g2 = g ∧ ch2 = ch else if tot = 0 then r = -1002 ∧ up2 = up ∧ tot2 = tot ∧ f2 = f ∧ totg2 = totg ∧ fg2 = fg ∧ n2 = n0 ∧ sm2 = sm ∧ ace2 = ace ∧ g2 = g ∧ ch2 = ch else if p0 = 0 ∧ ¬ n0 < 12 then r = -1003 ∧ up2 = up ∧ tot2 = tot ∧ f2 = f ∧ totg2 = totg ∧ fg2 = fg ∧ n2 = n0 ∧ sm2 = sm ∧ ace2 = ace ∧ g2 = g ∧ ch2 = ch else tot2 = tot - 1 ∧ f2 = upd f r.toNatClampNeg (f r.toNatClampNeg - 1) ∧ totg2 = totg + 1 ∧ fg2 = upd fg r.toNatClampNeg (fg r.toNatClampNeg + 1) ∧ ch2 = (ch * 6364136223846793005 + 1442695040888963407) ∧ r = rkAt f (plc (ch * 6364136223846793005 + 1442695040888963407) tot) ∧ (if p0 = 0 then up2 = up ∧ (if n0 < 12 then n2 = n0 + 1 ∧ sm2 = sm + r ∧ ace2 = (ace || decide (r = 1)) ∧ g2 = upd g n0.toNatClampNeg r else n2 = n0 ∧ sm2 = sm ∧ ace2 = ace ∧ g2 = g) else if p0 = 1 then up2 = r ∧ n2 = n0 ∧ sm2 = sm ∧ ace2 = ace ∧ g2 = g else up2 = up ∧ n2 = n0 ∧ sm2 = sm ∧ ace2 = ace ∧ g2 = g))
    (hM : if inB p0.toInt64 0 2 = 0 then r' = -1001 ∧ fs2 = fs ∧ fw2 = fw ∧ gm2 = gm ∧ hn2 = hn ∧ upm2 = nI un ∧ ch2' = ch else if sm10 fs = 0 then r' = -1002 ∧ fs2 = fs ∧ fw2 = fw ∧ gm2 = gm ∧ hn2 = hn ∧ upm2 = nI un ∧ ch2' = ch else if p0 = 0 ∧ hn = 12 then r' = -1003 ∧ fs2 = fs ∧ fw2 = fw ∧ gm2 = gm ∧ hn2 = hn ∧ upm2 = nI un ∧ ch2' = ch else r' = drR fs ch ∧ ch2' = (ch * 6364136223846793005 + 1442695040888963407) ∧ fs2 = upd fs r'.toNatClampNeg (fs r'.toNatClampNeg - 1) ∧ fw2 = upd fw r'.toNatClampNeg (fw r'.toNatClampNeg + 1) ∧ if p0 = 0 then hn2 = hn + 1 ∧ gm2 = upd gm hn r' ∧ upm2 = nI un else if p0 = 1 then hn2 = hn ∧ gm2 = gm ∧ upm2 = r' else hn2 = hn ∧ gm2 = gm ∧ upm2 = nI un) :
    r = r' ∧ ch2 = ch2' ∧ ∃ (cc2 : Nat → Nat) (un2 : Nat), upm2 = nI un2 ∧ LkS f2 fs2 tot2 cc2 fg2 fw2 totg2 told cf n2 sm2 ace2 g2 gm2 hn2 up2 un2 := by
  have same : ∀ x : Int32, r = x ∧ up2 = up ∧ tot2 = tot ∧ f2 = f ∧ totg2 = totg ∧ fg2 = fg ∧ n2 = n0 ∧ sm2 = sm ∧ ace2 = ace ∧ g2 = g ∧ ch2 = ch → r' = x ∧ fs2 = fs ∧ fw2 = fw ∧ gm2 = gm ∧ hn2 = hn ∧ upm2 = nI un ∧ ch2' = ch → r = r' ∧ ch2 = ch2' ∧ ∃ (cc2 : Nat → Nat) (un2 : Nat), upm2 = nI un2 ∧ LkS f2 fs2 tot2 cc2 fg2 fw2 totg2 told cf n2 sm2 ace2 g2 gm2 hn2 up2 un2 := by
    rintro x ⟨a0, a1, a2, a3, a4, a5, a6, a7, a8, a9, a10⟩ ⟨b0, b1, b2, b3, b4, b5, b6⟩
    exact ⟨a0.trans b0.symm, a10.trans b6.symm, cc, un, b5, by rw [a1, a2, a3, a4, a5, a6, a7, a8, a9, b1, b2, b3, b4]; exact iS⟩
  obtain ⟨c1, c2, c3⟩ := iS.1
  rw [in_gl] at hM
  by_cases z2 : glB p0 = 0
  · rw [if_pos z2] at hX hM; exact same _ hX hM
  · rw [if_neg z2] at hX hM
    have e0 : sm10 fs = tot := by rw [c3, sm10_N c1, sm10_N c2]
    rw [e0] at hM
    by_cases z3 : tot = 0
    · rw [if_pos z3] at hX hM; exact same _ hX hM
    · rw [if_neg z3] at hX hM
      have hI := iS.2.2.2.1
      have q12 := n12_iff hI.2.1
      rw [← hI.1] at q12
      by_cases z4 : p0 = 0 ∧ ¬ n0 < 12
      · rw [if_pos z4] at hX
        rw [if_pos ⟨z4.1, q12.mp z4.2⟩] at hM
        exact same _ hX hM
      · rw [if_neg z4] at hX
        rw [if_neg (fun y => z4 ⟨y.1, q12.mpr y.2⟩)] at hM
        have h0 := sm_ne c1 (by rw [← c3]; exact z3)
        obtain ⟨x1, x2, x3, x4, x5, x6, x7⟩ := hX
        obtain ⟨y1, y2, y3, y4, y5⟩ := hM
        rw [c3] at x6
        have x6 : r = drR f ch := x6
        obtain ⟨k, k1, k2, hp, ek⟩ := dr_N ch c1 h0
        have er : r = nI k := x6.trans ek
        have er' : r' = nI k := by rw [y1, ← drR_eq ch c1 c2 h0, ek]
        subst er er'
        rw [nI_clamp (by omega)] at x2 x4 y3 y4
        obtain ⟨w1, w2⟩ := lk_go k1 k2 hp iS (fun y => z4 ⟨y.1, q12.mpr y.2⟩) x1 x2 x3 x4 x7 y3 y4 y5
        exact ⟨rfl, x5.trans y2.symm, w2⟩
