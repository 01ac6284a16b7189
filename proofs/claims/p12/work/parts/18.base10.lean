/-! the house plays -/
def gnC (w : Nat → Int32) (v : Int32) (b : Bool) : Int32 := if v < w 1 then 1 else if v = w 1 then (if bI b = 0 then 0 else if w 2 = 1 then 1 else 0) else 0
def enC (w : Nat → Int32) (v : Int32) : Int32 := if v ≤ w 0 then v else 0
def stC (w : Nat → Int32) (v : Int32) (b : Bool) (e : Int32) : Int32 := if w 0 < v then (-2) else if e ≤ v then (if e = v then 0 else if bI b = 0 then 2 else w 6) else (-2)
def drR (f : Nat → Int32) (ch : Int64) : Int32 := rkAt f (plc (ch * 6364136223846793005 + 1442695040888963407) (sm10 f))
def plH (w : Nat → Int32) : Nat → (Nat → Int32) → (Nat → Int32) → Int64 → Int32 → Bool → ((Nat → Int32) × (Nat → Int32) × Int64 × Int32 × Bool)
  | 0, f, fg, ch, s, a => (f, fg, ch, s, a)
  | n + 1, f, fg, ch, s, a => if sm10 f ≤ 0 then (f, fg, ch, s, a) else if gnC w (vlC w s a) (!decide (vlC w s a = s)) = 0 then (f, fg, ch, s, a) else
      plH w n (upd f (drR f ch).toNatClampNeg (f (drR f ch).toNatClampNeg - 1)) (upd fg (drR f ch).toNatClampNeg (fg (drR f ch).toNatClampNeg + 1)) (ch * 6364136223846793005 + 1442695040888963407) (s + drR f ch) (a || decide (drR f ch = 1))
theorem dr_N {f : Nat → Int32} {c : Nat → Nat} (ch : Int64) (h : cntI f c) (h0 : 0 < smN c) : ∃ r : Nat, 1 ≤ r ∧ r ≤ 10 ∧ 0 < c r ∧ drR f ch = nI r := by
  have hle := smN_le h
  obtain ⟨q, hq, e⟩ := plc_N (ch * 6364136223846793005 + 1442695040888963407) h0 (by omega)
  refine ⟨rkN c 9 1 q, ?_⟩
  obtain ⟨a, b, d⟩ := rkN_ok c 9 1 q (by rw [tlN_sm]; exact hq)
  refine ⟨a, by omega, d, ?_⟩
  unfold drR
  rw [sm10_N h, e, rkAt_N h (by omega)]
theorem rk_cases {r : Nat} (h1 : 1 ≤ r) (h2 : r ≤ 10) : r = 1 ∨ r = 2 ∨ r = 3 ∨ r = 4 ∨ r = 5 ∨ r = 6 ∨ r = 7 ∨ r = 8 ∨ r = 9 ∨ r = 10 := by omega
theorem cntI_dec {f : Nat → Int32} {c : Nat → Nat} {r : Nat} (h : cntI f c) (h1 : 1 ≤ r) (h2 : r ≤ 10) (h3 : 0 < c r) : cntI (upd f r (f r - 1)) (updN c r (c r - 1)) := by
  intro j a b
  unfold upd updN
  by_cases z : j = r
  · subst z
    rw [if_pos rfl, if_pos rfl, (h j a b).1]
    exact ⟨nI_subT h3, by have := (h j a b).2; omega⟩
  · rw [if_neg z, if_neg z]; exact h j a b
theorem smN_dec {c : Nat → Nat} {r : Nat} (h1 : 1 ≤ r) (h2 : r ≤ 10) (h3 : 0 < c r) : smN (updN c r (c r - 1)) + 1 = smN c := by
  rcases rk_cases h1 h2 with rfl | rfl | rfl | rfl | rfl | rfl | rfl | rfl | rfl | rfl <;> simp [smN, updN] <;> omega
theorem sm10_inc (f : Nat → Int32) {r : Nat} (h1 : 1 ≤ r) (h2 : r ≤ 10) : sm10 (upd f r (f r + 1)) = sm10 f + 1 := by
  rcases rk_cases h1 h2 with rfl | rfl | rfl | rfl | rfl | rfl | rfl | rfl | rfl | rfl <;> simp [sm10, upd] <;> ac_rfl
theorem sm10_pos {f : Nat → Int32} {c : Nat → Nat} (h : cntI f c) (h0 : ¬ sm10 f ≤ 0) : 0 < smN c := by
  have hle := smN_le h
  rw [sm10_N h] at h0
  rcases Nat.eq_zero_or_pos (smN c) with z | z
  · rw [z] at h0; exact absurd (show nI 0 ≤ 0 by decide) h0
  · exact z
/-- one card is drawn: the class's words on it -/
theorem dr_ok {f : Nat → Int32} {c : Nat → Nat} {ch : Int64} {tot : Int32} (h : cntI f c) (ht : tot = sm10 f) (h0 : ¬ tot ≤ 0) :
    ¬ rkB (rkAt f (plc (ch * 6364136223846793005 + 1442695040888963407) tot)) = 0 ∧ 0 < f (rkAt f (plc (ch * 6364136223846793005 + 1442695040888963407) tot)).toNatClampNeg := by
  subst ht
  obtain ⟨r, h1, h2, h3, e⟩ := dr_N ch h (sm10_pos h h0)
  have hr := h r h1 h2
  have e : rkAt f (plc (ch * 6364136223846793005 + 1442695040888963407) (sm10 f)) = nI r := e
  rw [e, nI_clamp (by omega), hr.1]
  refine ⟨?_, nI_lt (a := 0) h3 (by omega)⟩
  unfold rkB
  rw [if_neg (show ¬ nI r < 1 from nI_nlt (b := 1) h1 (by omega)), if_neg (show ¬ 10 < nI r from nI_nlt (a := 10) h2 (by decide))]
  decide
theorem not_le_lt {x : Int32} (h : ¬ x ≤ 0) : 0 < x := by
  rw [leI] at h
  rw [ltI]
  have : (0 : Int32).toInt = 0 := by decide
  omega
theorem plH_go {w : Nat → Int32} {n : Nat} {f fg f2 fg2 : Nat → Int32} {ch ch2 : Int64} {s r tot tot2 totg totg2 : Int32} {a : Bool} {PL : (Nat → Int32) × (Nat → Int32) × Int64 × Int32 × Bool} {c : Nat → Nat} (hc : cntI f c) (ht : tot = sm10 f) (htg : totg = sm10 fg) (h0 : ¬ tot ≤ 0) (hg : ¬ gnC w (vlC w s a) (!decide (vlC w s a = s)) = 0)
    (hr : tot2 = tot - 1 ∧ f2 = upd f r.toNatClampNeg (f r.toNatClampNeg - 1) ∧ totg2 = totg + 1 ∧ fg2 = upd fg r.toNatClampNeg (fg r.toNatClampNeg + 1) ∧ ch2 = (ch * 6364136223846793005 + 1442695040888963407) ∧ r = rkAt f (plc (ch * 6364136223846793005 + 1442695040888963407) tot)) (hpl : plH w (n + 1) f fg ch s a = PL) :
    ∃ c2 : Nat → Nat, cntI f2 c2 ∧ tot2 = sm10 f2 ∧ totg2 = sm10 fg2 ∧ plH w n f2 fg2 ch2 (s + r) (a || decide (r = 1)) = PL := by
  obtain ⟨e1, e2, e3, e4, e5, e6⟩ := hr
  subst ht
  obtain ⟨k, h1, h2, h3, e⟩ := dr_N ch hc (sm10_pos hc h0)
  have e6 : r = drR f ch := e6
  rw [show plH w (n + 1) f fg ch s a = if sm10 f ≤ 0 then (f, fg, ch, s, a) else if gnC w (vlC w s a) (!decide (vlC w s a = s)) = 0 then (f, fg, ch, s, a) else
      plH w n (upd f (drR f ch).toNatClampNeg (f (drR f ch).toNatClampNeg - 1)) (upd fg (drR f ch).toNatClampNeg (fg (drR f ch).toNatClampNeg + 1)) (ch * 6364136223846793005 + 1442695040888963407) (s + drR f ch) (a || decide (drR f ch = 1)) from rfl, if_neg h0, if_neg hg, ← e6] at hpl
  have ek : r.toNatClampNeg = k := by rw [e6, e, nI_clamp (by omega)]
  have hd := cntI_dec hc h1 h2 h3
  refine ⟨updN c k (c k - 1), ?_, ?_, ?_, ?_⟩
  · rw [e2, ek]; exact hd
  · rw [e1, e2, ek, sm10_N hc, sm10_N hd]
    have := smN_dec h1 h2 h3
    have hs : nI (smN c) = nI (smN (updN c k (c k - 1))) + nI 1 := by rw [nI_add, this]
    rw [hs]
    exact Int32.add_sub_cancel _ _
  · rw [e3, e4, ek, sm10_inc fg h1 h2, htg]
  · rw [e2, e4, e5]; exact hpl
theorem plH_0 {w : Nat → Int32} {n : Nat} {f fg : Nat → Int32} {ch : Int64} {s : Int32} {a : Bool} (h : sm10 f ≤ 0) : plH w n f fg ch s a = (f, fg, ch, s, a) := by
  cases n with
  | zero => rfl
  | succ n => exact if_pos h
theorem plH_1 {w : Nat → Int32} {n : Nat} {f fg : Nat → Int32} {ch : Int64} {s : Int32} {a : Bool} (h : gnC w (vlC w s a) (!decide (vlC w s a = s)) = 0) : plH w n f fg ch s a = (f, fg, ch, s, a) := by
  cases n with
  | zero => rfl
  | succ n =>
    by_cases z : sm10 f ≤ 0
    · exact if_pos z
    · exact (if_neg z).trans (if_pos h)
