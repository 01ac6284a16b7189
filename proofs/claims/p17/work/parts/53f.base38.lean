/-! heaps as numbers, and back -/
def hix (cap c : Nat → Nat) : Nat → Nat
  | 0 => 0
  | k + 1 => hix cap c k + c (k + 1) * hpN cap k
theorem hix_lt {cap c : Nat → Nat} : ∀ k, (∀ r, 1 ≤ r → r ≤ k → c r ≤ cap r) → hix cap c k < hpN cap k := by
  intro k
  induction k with
  | zero => intro _; exact Nat.lt_succ_self 0
  | succ k ih =>
    intro h
    have a := ih (fun r x y => h r x (by omega))
    have b := h (k + 1) (by omega) (Nat.le_refl _)
    show hix cap c k + c (k + 1) * hpN cap k < hpN cap k * (cap (k + 1) + 1)
    have e : hpN cap k * (cap (k + 1) + 1) = cap (k + 1) * hpN cap k + hpN cap k := by rw [Nat.mul_add, Nat.mul_one, Nat.mul_comm]
    have m : c (k + 1) * hpN cap k ≤ cap (k + 1) * hpN cap k := Nat.mul_le_mul_right _ b
    omega
theorem hpN_fac (cap : Nat → Nat) (r : Nat) : ∀ d, ∃ M, hpN cap (r + d) = hpN cap r * M := by
  intro d
  induction d with
  | zero => exact ⟨1, (Nat.mul_one _).symm⟩
  | succ d ih =>
    obtain ⟨M, e⟩ := ih
    exact ⟨M * (cap (r + d + 1) + 1), by show hpN cap (r + d) * (cap (r + d + 1) + 1) = _; rw [e, Nat.mul_assoc]⟩
theorem hpN_s (cap : Nat → Nat) {r : Nat} (h : 1 ≤ r) : hpN cap r = hpN cap (r - 1) * (cap r + 1) := by
  obtain ⟨i, rfl⟩ : ∃ i, r = i + 1 := ⟨r - 1, by omega⟩
  rfl
theorem hix_of {cap c : Nat → Nat} : ∀ k, (∀ r, 1 ≤ r → r ≤ k → c r ≤ cap r) → ∀ r, 1 ≤ r → r ≤ k → ofN cap (hix cap c k) r = c r := by
  intro k
  induction k with
  | zero => intro _ r a b; omega
  | succ k ih =>
    intro h r a b
    have lt := hix_lt k (fun r x y => h r x (by omega))
    show (hix cap c k + c (k + 1) * hpN cap k) / hpN cap (r - 1) % (cap r + 1) = c r
    rcases Nat.lt_or_ge k r with z | z
    · obtain rfl : r = k + 1 := by omega
      rw [Nat.add_sub_cancel, Nat.add_mul_div_right _ _ (hpN_pos cap k), Nat.div_eq_of_lt lt, Nat.zero_add, Nat.mod_eq_of_lt (by have := h (k + 1) (by omega) (Nat.le_refl _); omega)]
    · have e := ih (fun r x y => h r x (by omega)) r a z
      obtain ⟨M, eM⟩ := hpN_fac cap r (k - r)
      rw [show r + (k - r) = k by omega, hpN_s cap a] at eM
      have e2 : c (k + 1) * hpN cap k = hpN cap (r - 1) * ((cap r + 1) * (M * c (k + 1))) := by rw [eM]; ac_rfl
      rw [e2, Nat.add_mul_div_left _ _ (hpN_pos cap (r - 1)), Nat.add_mul_mod_self_left]
      exact e
theorem hix_nf {cap : Nat → Nat} {h : Nat} : ∀ k, hix cap (ofN cap h) k = h % hpN cap k := by
  intro k
  induction k with
  | zero => exact (Nat.mod_one h).symm
  | succ k ih =>
    show hix cap (ofN cap h) k + (h / hpN cap (k + 1 - 1) % (cap (k + 1) + 1)) * hpN cap k = h % (hpN cap k * (cap (k + 1) + 1))
    rw [ih, Nat.mod_mul, Nat.add_sub_cancel, Nat.mul_comm (h / hpN cap k % (cap (k + 1) + 1))]
theorem hix_cg {cap c c' : Nat → Nat} : ∀ k, (∀ r, 1 ≤ r → r ≤ k → c r = c' r) → hix cap c k = hix cap c' k := by
  intro k
  induction k with
  | zero => intro _; rfl
  | succ k ih =>
    intro h
    show hix cap c k + c (k + 1) * hpN cap k = hix cap c' k + c' (k + 1) * hpN cap k
    rw [ih (fun r x y => h r x (by omega)), h (k + 1) (by omega) (Nat.le_refl _)]
theorem hix_up {cap c : Nat → Nat} {r v : Nat} (r1 : 1 ≤ r) : ∀ k, (k < r → hix cap (updN c r v) k = hix cap c k) ∧ (r ≤ k → hix cap (updN c r v) k + c r * hpN cap (r - 1) = hix cap c k + v * hpN cap (r - 1)) := by
  intro k
  induction k with
  | zero => exact ⟨fun _ => rfl, fun a => by omega⟩
  | succ k ih =>
    have e : hix cap (updN c r v) (k + 1) = hix cap (updN c r v) k + updN c r v (k + 1) * hpN cap k := rfl
    have e2 : hix cap c (k + 1) = hix cap c k + c (k + 1) * hpN cap k := rfl
    rw [e, e2]
    refine ⟨fun a => ?_, fun a => ?_⟩
    · have : updN c r v (k + 1) = c (k + 1) := by unfold updN; rw [if_neg (by omega)]
      rw [this, ih.1 (by omega)]
    · rcases Nat.lt_or_ge k r with z | z
      · obtain rfl : r = k + 1 := by omega
        have : updN c (k + 1) v (k + 1) = v := by unfold updN; rw [if_pos rfl]
        rw [this, ih.1 z, Nat.add_sub_cancel]
        omega
      · have : updN c r v (k + 1) = c (k + 1) := by unfold updN; rw [if_neg (by omega)]
        rw [this]
        have := ih.2 z
        omega
/-! where a house ends, over all orders -/
def hsm (F : Nat → Int64) : Nat → Int64
  | 0 => 0
  | k + 1 => hsm F k + F (k + 1)
theorem hsm_cg {F G : Nat → Int64} : ∀ k, (∀ r, 1 ≤ r → r ≤ k → F r = G r) → hsm F k = hsm G k := by
  intro k
  induction k with
  | zero => intro _; rfl
  | succ k ih =>
    intro h
    show hsm F k + F (k + 1) = hsm G k + G (k + 1)
    rw [ih (fun r x y => h r x (by omega)), h (k + 1) (by omega) (Nat.le_refl _)]
def hv (go : Int32 → Bool → Bool) (sc : Int32 → Bool → Int64) : Nat → (Nat → Nat) → Int32 → Bool → Int64
  | 0, _, s, a => sc s a * ord0 0
  | n + 1, c, s, a => if go s a then hsm (fun r => if c r = 0 then 0 else lN (c r) * hv go sc n (updN c r (c r - 1)) (s + nI r) (a || decide (nI r = 1))) 10 else sc s a * ord0 (n + 1)
theorem updN_cg {c c' : Nat → Nat} {r v v' : Nat} (h : ∀ j, 1 ≤ j → j ≤ 10 → c j = c' j) (e : v = v') : ∀ j, 1 ≤ j → j ≤ 10 → updN c r v j = updN c' r v' j := by
  intro j a b
  unfold updN
  by_cases z : j = r
  · rw [if_pos z, if_pos z, e]
  · rw [if_neg z, if_neg z, h j a b]
theorem hv_cg {go : Int32 → Bool → Bool} {sc : Int32 → Bool → Int64} : ∀ n (c c' : Nat → Nat) (s : Int32) (a : Bool), (∀ j, 1 ≤ j → j ≤ 10 → c j = c' j) → hv go sc n c s a = hv go sc n c' s a := by
  intro n
  induction n with
  | zero => intro c c' s a _; rfl
  | succ n ih =>
    intro c c' s a h
    show (if go s a then hsm (fun r => if c r = 0 then 0 else lN (c r) * hv go sc n (updN c r (c r - 1)) (s + nI r) (a || decide (nI r = 1))) 10 else sc s a * ord0 (n + 1)) = (if go s a then hsm (fun r => if c' r = 0 then 0 else lN (c' r) * hv go sc n (updN c' r (c' r - 1)) (s + nI r) (a || decide (nI r = 1))) 10 else sc s a * ord0 (n + 1))
    rw [hsm_cg 10 (fun r x y => ?_)]
    show (if c r = 0 then (0 : Int64) else lN (c r) * hv go sc n (updN c r (c r - 1)) (s + nI r) (a || decide (nI r = 1))) = (if c' r = 0 then 0 else lN (c' r) * hv go sc n (updN c' r (c' r - 1)) (s + nI r) (a || decide (nI r = 1)))
    rw [ih (updN c r (c r - 1)) (updN c' r (c' r - 1)) _ _ (updN_cg h (by rw [h r x y])), h r x y]
/-- both sides by one: what goes on, and what is scored, is the same -/
theorem hv_same {go go' : Int32 → Bool → Bool} {sc sc' : Int32 → Bool → Int64} {lo : Nat} : ∀ n (c : Nat → Nat) (s : Nat) (a : Bool), (∀ (x : Nat) (b : Bool), lo ≤ x → x ≤ s + 10 * n → go (nI x) b = go' (nI x) b ∧ sc (nI x) b = sc' (nI x) b) → lo ≤ s → hv go sc n c (nI s) a = hv go' sc' n c (nI s) a := by
  intro n
  induction n with
  | zero =>
    intro c s a h l
    show sc (nI s) a * ord0 0 = sc' (nI s) a * ord0 0
    rw [(h s a l (by omega)).2]
  | succ n ih =>
    intro c s a h l
    have h0 := h s a l (by omega)
    show (if go (nI s) a then hsm (fun r => if c r = 0 then 0 else lN (c r) * hv go sc n (updN c r (c r - 1)) (nI s + nI r) (a || decide (nI r = 1))) 10 else sc (nI s) a * ord0 (n + 1)) = (if go' (nI s) a then hsm (fun r => if c r = 0 then 0 else lN (c r) * hv go' sc' n (updN c r (c r - 1)) (nI s + nI r) (a || decide (nI r = 1))) 10 else sc' (nI s) a * ord0 (n + 1))
    rw [h0.1, h0.2, hsm_cg 10 (fun r x y => ?_)]
    show (if c r = 0 then (0 : Int64) else lN (c r) * hv go sc n (updN c r (c r - 1)) (nI s + nI r) (a || decide (nI r = 1))) = (if c r = 0 then 0 else lN (c r) * hv go' sc' n (updN c r (c r - 1)) (nI s + nI r) (a || decide (nI r = 1)))
    rw [nI_add, ih _ (s + r) _ (fun x b p q => h x b p (by omega)) (by omega)]
