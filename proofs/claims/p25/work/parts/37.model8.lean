/-! the model: prices and ends -/
def mprS (r : Nat → Int32) (w : Int32) : Nat → Int32
  | 0 => 0
  | k + 1 => if ¬ nI k = w ∧ mprS r w k < r (114 + 2 * k) then r (114 + 2 * k) else mprS r w k
def mprV (r : Nat → Int32) (l n : Nat) : Int32 := if r 3 = 0 then r (58 + 7 * l + 5) else if mprS r (r (58 + 7 * l + 6)) n + r 1 < r (58 + 7 * l + 5) then mprS r (r (58 + 7 * l + 6)) n + r 1 else r (58 + 7 * l + 5)
def adU (u : Nat → Nat → Int32) (b p : Nat) (x : Int32) : Nat → Nat → Int32 := ms u 1 (10 + 8 * b + p) (u 1 (10 + 8 * b + p) + x)
def enS (u : Nat → Nat → Int32) (l b : Nat) (x : Int32) : Nat → Nat → Int32 := ms (ms (ms (ms u 1 7 (-6)) 1 (58 + 7 * l + 1) 2) 1 (58 + 7 * l + 2) (nI b)) 1 (58 + 7 * l + 3) x
def enA (v : Nat → Nat → Int32) (l b : Nat) (x : Int32) : Nat → Nat → Int32 := adU (adU (adU v b 0 (-x)) b 3 x) b 4 (adU (adU v b 0 (-x)) b 3 x 1 (58 + 7 * l + 0))
def enB (v : Nat → Nat → Int32) (l b : Nat) : Nat → Nat → Int32 := ms v 1 (10 + 8 * b + 2) (v 1 (10 + 8 * b + 2) ||| 1 <<< (nI l &&& 31))
def enU (u : Nat → Nat → Int32) (l n : Nat) : Nat → Nat → Int32 := if u 1 (58 + 7 * l + 6) = -6 then ms (ms u 1 7 (-6)) 1 (58 + 7 * l + 1) 3 else enB (enA (enS u l (u 1 (58 + 7 * l + 6)).toNatClampNeg (mprV (ms u 1 7 (-6) 1) l n)) l (u 1 (58 + 7 * l + 6)).toNatClampNeg (mprV (ms u 1 7 (-6) 1) l n)) l (u 1 (58 + 7 * l + 6)).toNatClampNeg
section MO
variable {h : evH} {m : evM} {c : Nat} {u : Nat → Nat → Int32}
end MO
