theorem rl1 (p : Int32) : inB p.toInt64 11 21 = 0 ↔ (p.toInt < 11 ∨ 21 < p.toInt) := inB_0 p 11 21
theorem rl2 (p : Int32) : inB 17 10 p.toInt64 = 0 ↔ ((17 : Int) < 10 ∨ p.toInt < 17) := inB_0 17 10 p
theorem rl3 (p : Int32) : inB p.toInt64 10 21 = 0 ↔ (p.toInt < 10 ∨ 21 < p.toInt) := inB_0 p 10 21
theorem rl6 (p : Int32) : inB p.toInt64 0 1 = 0 ↔ (p.toInt < 0 ∨ 1 < p.toInt) := inB_0 p 0 1
theorem rl7 (p : Int32) : inB p.toInt64 2 4 = 0 ↔ (p.toInt < 2 ∨ 4 < p.toInt) := inB_0 p 2 4
theorem rl8 (p : Int32) : inB p.toInt64 0 6 = 0 ↔ (p.toInt < 0 ∨ 6 < p.toInt) := inB_0 p 0 6
