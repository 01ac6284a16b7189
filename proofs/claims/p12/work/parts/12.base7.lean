def inB (v lo hi : Int64) : Int32 := if v < lo then 0 else if hi < v then 0 else 1
def sm10 (f : Nat → Int32) : Int32 := 0 + f 1 + f 2 + f 3 + f 4 + f 5 + f 6 + f 7 + f 8 + f 9 + f 10
