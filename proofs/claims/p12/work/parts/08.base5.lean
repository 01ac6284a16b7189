def vlC (w : Nat → Int32) (s : Int32) (a : Bool) : Int32 := if bI a = 0 then s else if w 0 < s + 10 then s else s + 10
def sfC (w : Nat → Int32) (s : Int32) (a : Bool) : Int32 := if bI a = 0 then 0 else if w 0 < s + 10 then 0 else 1
def buC (w : Nat → Int32) (s : Int32) : Int32 := if s ≤ w 0 then 0 else 1
def naC (w : Nat → Int32) (v n : Int32) : Int32 := if n = 2 then (if v = w 0 then 1 else 0) else 0
def cntG (mk fg : Nat → Int32) : Int32 := 0 + mk 1 * fg 1 + mk 2 * fg 2 + mk 3 * fg 3 + mk 4 * fg 4 + mk 5 * fg 5 + mk 6 * fg 6 + mk 7 * fg 7 + mk 8 * fg 8 + mk 9 * fg 9 + mk 10 * fg 10
