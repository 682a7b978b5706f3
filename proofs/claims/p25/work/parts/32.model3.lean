/-! the model: beliefs, bids, beginnings -/
theorem lc7' : (7 : Int32).toNatClampNeg = 7 := by decide
theorem n100 : ¬ (100 : Int32) = 0 := by decide
theorem nlt {n k : Nat} (hk : k < n) (hn : n < 2 ^ 31) : ¬ nI n ≤ nI k := nI_ge hk hn
theorem ix1 (a b : Nat) : (nI a : Int32) + nI b = nI (a + b) := nI_add2 a b
def limT (r : Nat → Int32) (l b : Nat) : Int32 := if r (58 + 7 * l + 0) * r (10 + 8 * b + 1) / 100 < r (10 + 8 * b + 0) then r (58 + 7 * l + 0) * r (10 + 8 * b + 1) / 100 else r (10 + 8 * b + 0)
def toldB (r : Nat → Int32) (b : Nat) : Bool := decide (0 < r (10 + 8 * b + 7)) && decide (r (10 + 8 * b + 7) ≤ r (10 + 8 * b + 0))
def bidT (r : Nat → Int32) (lag n b : Nat) (t : evT) : evT := if toldB r b = true then t else allT r lag b n
def bidV (r : Nat → Int32) (lag n l b : Nat) : Int32 := if toldB r b = true then r (10 + 8 * b + 7) else if ¬ (allT r lag b n).2.2 = nI b ∧ (allT r lag b n).1 + r 1 ≤ limT r l b then (allT r lag b n).1 + r 1 else 0
section MO
variable {h : evH} {m : evM} {c : Nat} {u : Nat → Nat → Int32}
end MO
