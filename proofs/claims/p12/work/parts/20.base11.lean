/-! settle -/
def naB (w : Nat → Int32) (v n : Int32) : Bool := decide (n = 2) && decide (v = w 0)
def sePl (w f fg : Nat → Int32) (ch : Int64) (up sm : Int32) : (Nat → Int32) × (Nat → Int32) × Int64 × Int32 :=
  if buC w sm = 0 then ((plH w 320 f fg ch up (decide (up = 1))).1, (plH w 320 f fg ch up (decide (up = 1))).2.1, (plH w 320 f fg ch up (decide (up = 1))).2.2.1, enC w (vlC w (plH w 320 f fg ch up (decide (up = 1))).2.2.2.1 (plH w 320 f fg ch up (decide (up = 1))).2.2.2.2)) else (f, fg, ch, 0)
theorem sePl_0 {w f fg f2 fg2 : Nat → Int32} {ch ch2 : Int64} {up sm e : Int32} (h : buC w sm = 0) (hp : ∃ (s2 : Int32) (a2 : Bool), plH w 320 f fg ch up (decide (up = 1)) = (f2, fg2, ch2, s2, a2) ∧ e = enC w (vlC w s2 a2)) : (f2, fg2, ch2, e) = sePl w f fg ch up sm := by
  obtain ⟨s2, a2, e1, e2⟩ := hp
  unfold sePl
  rw [if_pos h, e1, e2]
theorem sePl_1 {w f fg : Nat → Int32} {ch : Int64} {up sm : Int32} (h : ¬ buC w sm = 0) : (f, fg, ch, 0) = sePl w f fg ch up sm := by
  unfold sePl
  rw [if_neg h]
