/-! the reference's words -/
def hsN (g : Nat → Int32) : Nat → Int32
  | 0 => 0
  | n + 1 => hsN g n + g n
def haN (g : Nat → Int32) : Nat → Bool
  | 0 => false
  | n + 1 => haN g n || decide (g n = 1)
def vlM (t s : Int32) (a : Bool) : Int32 := if bI a = 0 then s else if t < s + 10 then s else s + 10
def naM (t v n : Int32) : Bool := decide (n = 2) && decide (v = t)
def gnM (st so v s : Int32) : Int32 := if v < st then 1 else if v = st then (if v ≤ s then 0 else if so = 1 then 1 else 0) else 0
def seM (v e win : Int32) : Int32 := if v ≤ e then (if e ≤ v then 0 else -2) else win
theorem gnM_01 (st so v s : Int32) : gnM st so v s = 0 ∨ gnM st so v s = 1 := by
  unfold gnM
  repeat' (first | exact Or.inl rfl | exact Or.inr rfl | apply ite01)
theorem bI_01 (b : Bool) : bI b = 0 ∨ bI b = 1 := by cases b; exact Or.inl rfl; exact Or.inr rfl
theorem drawM {f : Nat → Int32} {cc : Nat → Nat} (ch : Int64) (hc : cntI f cc) (h0 : 0 < smN cc) : ∃ q : Nat, q < smN cc ∧ plc (ch * 6364136223846793005 + 1442695040888963407) (sm10 f) = nI q ∧ drR f ch = nI (rkN cc 9 1 q) := by
  have hle := smN_le hc
  obtain ⟨q, hq, e⟩ := plc_N (ch * 6364136223846793005 + 1442695040888963407) h0 (by omega)
  rw [← sm10_N hc] at e
  refine ⟨q, hq, e, ?_⟩
  unfold drR
  rw [e, rkAt_N hc (by omega)]
theorem sm10_gt {f : Nat → Int32} {cc : Nat → Nat} (hc : cntI f cc) (h0 : 0 < smN cc) : 0 < sm10 f := by
  have hle := smN_le hc
  rw [sm10_N hc]
  exact nI_lt (a := 0) h0 (by omega)
theorem rkN_at {cc : Nat → Nat} {r q : Nat} (h1 : r ≤ 10) (hq : q < cc r) : rkN cc (10 - r) r q = r := by
  cases h : 10 - r with
  | zero => rfl
  | succ n => exact if_pos hq
theorem rkN_next {cc : Nat → Nat} {r q : Nat} (h1 : r ≤ 9) (hq : ¬ q < cc r) : rkN cc (10 - r) r q = rkN cc (10 - (r + 1)) (r + 1) (q - cc r) := by
  rw [show 10 - r = (10 - (r + 1)) + 1 by omega]
  exact if_neg hq
theorem tlN_next {cc : Nat → Nat} {r q : Nat} (h1 : r ≤ 10) (h : q < tlN cc (10 - r) r) (hq : ¬ q < cc r) : r ≤ 9 ∧ q - cc r < tlN cc (10 - (r + 1)) (r + 1) := by
  rcases Nat.lt_or_ge r 10 with z | z
  · rw [show 10 - r = (10 - (r + 1)) + 1 by omega] at h
    have h : q < cc r + tlN cc (10 - (r + 1)) (r + 1) := h
    omega
  · have : r = 10 := by omega
    subst this
    exact absurd h hq
theorem dr_vp {f : Nat → Int32} {cc : Nat → Nat} (ch : Int64) (hc : cntI f cc) (h0 : 0 < smN cc) : vp_in (drR f ch) 11 := by
  obtain ⟨r, h1, h2, _, e⟩ := dr_N ch hc h0
  rw [e]
  exact vp_in_nI (by omega) (by decide)
theorem plH_goM {w : Nat → Int32} {n : Nat} {f fg f2 fg2 : Nat → Int32} {ch ch2 : Int64} {s r : Int32} {a : Bool} {PL : (Nat → Int32) × (Nat → Int32) × Int64 × Int32 × Bool} {c : Nat → Nat} (hc : cntI f c) (h0 : ¬ sm10 f ≤ 0) (hg : ¬ gnC w (vlC w s a) (!decide (vlC w s a = s)) = 0)
    (hr : r = drR f ch) (hch : ch2 = ch * 6364136223846793005 + 1442695040888963407) (hf : f2 = upd f r.toNatClampNeg (f r.toNatClampNeg - 1)) (hfg : fg2 = upd fg r.toNatClampNeg (fg r.toNatClampNeg + 1)) (hpl : plH w (n + 1) f fg ch s a = PL) :
    ∃ c2 : Nat → Nat, cntI f2 c2 ∧ smN c2 + 1 = smN c ∧ 1 ≤ r.toInt ∧ r.toInt ≤ 10 ∧ plH w n f2 fg2 ch2 (s + r) (a || decide (r = 1)) = PL := by
  obtain ⟨k, h1, h2, h3, e⟩ := dr_N ch hc (sm10_pos hc h0)
  have hpl : (if sm10 f ≤ 0 then (f, fg, ch, s, a) else if gnC w (vlC w s a) (!decide (vlC w s a = s)) = 0 then (f, fg, ch, s, a) else
      plH w n (upd f (drR f ch).toNatClampNeg (f (drR f ch).toNatClampNeg - 1)) (upd fg (drR f ch).toNatClampNeg (fg (drR f ch).toNatClampNeg + 1)) (ch * 6364136223846793005 + 1442695040888963407) (s + drR f ch) (a || decide (drR f ch = 1))) = PL := hpl
  rw [if_neg h0, if_neg hg, ← hr, ← hf, ← hfg, ← hch] at hpl
  have er : r = nI k := hr.trans e
  have ek : r.toNatClampNeg = k := by rw [er, nI_clamp (by omega)]
  have ei : r.toInt = k := by rw [er, toInt_nI (by omega)]
  refine ⟨updN c k (c k - 1), ?_, smN_dec h1 h2 h3, by omega, by omega, hpl⟩
  rw [hf, ek]
  exact cntI_dec hc h1 h2 h3
/-- the two words on going on say the same of small sums -/
theorem gn_eq {w : Nat → Int32} {s : Int32} {a : Bool} (h0 : 0 ≤ s.toInt) (h1 : s.toInt ≤ 5000) : gnM (w 1) (w 2) (vlM (w 0) s a) s = gnC w (vlC w s a) (!decide (vlC w s a = s)) := by
  have e : vlM (w 0) s a = vlC w s a := rfl
  rw [e]
  have h10 : (s + 10).toInt = s.toInt + 10 := by rw [i32_add (by rw [t10]; omega) (by rw [t10]; omega), t10]
  have key : vlC w s a ≤ s ↔ vlC w s a = s := by
    unfold vlC
    by_cases z : bI a = 0
    · rw [if_pos z]; exact ⟨fun _ => rfl, fun _ => Int32.le_refl _⟩
    · rw [if_neg z]
      by_cases y : w 0 < s + 10
      · rw [if_pos y]; exact ⟨fun _ => rfl, fun _ => Int32.le_refl _⟩
      · rw [if_neg y]
        constructor
        · intro q; rw [leI, h10] at q; omega
        · intro q; rw [← Int32.toInt_inj, h10] at q; omega
  unfold gnM gnC
  by_cases z1 : vlC w s a < w 1
  · rw [if_pos z1, if_pos z1]
  · rw [if_neg z1, if_neg z1]
    by_cases z2 : vlC w s a = w 1
    · rw [if_pos z2, if_pos z2]
      by_cases z3 : vlC w s a ≤ s
      · have zz : (bI !decide (vlC w s a = s)) = 0 := by rw [decide_eq_true (key.mp z3)]; rfl
        rw [if_pos z3, if_pos zz]
      · have zz : ¬ (bI !decide (vlC w s a = s)) = 0 := by rw [decide_eq_false (fun q => z3 (key.mpr q))]; decide
        rw [if_neg z3, if_neg zz]
    · rw [if_neg z2, if_neg z2]
