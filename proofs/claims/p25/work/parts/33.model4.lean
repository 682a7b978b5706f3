/-! the model: bids, the first lot that waits, a beginning, what is kept -/
theorem lt114 : ¬ (114 : Int32) < 0 := by decide
theorem lc114 : (114 : Int32).toNatClampNeg = 114 := by decide
theorem lt126 : ¬ (126 : Int32) < 0 := by decide
theorem lc126 : (126 : Int32).toNatClampNeg = 126 := by decide
theorem lt168 : ¬ (168 : Int32) < 0 := by decide
theorem lc168 : (168 : Int32).toNatClampNeg = 168 := by decide
theorem lt169 : ¬ (169 : Int32) < 0 := by decide
theorem lc169 : (169 : Int32).toNatClampNeg = 169 := by decide
theorem lt170 : ¬ (170 : Int32) < 0 := by decide
theorem lc170 : (170 : Int32).toNatClampNeg = 170 := by decide
theorem lt171 : ¬ (171 : Int32) < 0 := by decide
theorem lc171 : (171 : Int32).toNatClampNeg = 171 := by decide
theorem ms_1 (u : Nat → Nat → Int32) (o i j : Nat) (x : Int32) : ms u o i x 1 j = if 1 = o ∧ j = i then x else u 1 j := id rfl
/-- the lowest lot that waits, of those from n - d on -/
def fwF (r : Nat → Int32) (n : Nat) : Nat → Int32
  | 0 => -6
  | d + 1 => if r (58 + 7 * (n - (d + 1)) + 1) = 0 then nI (n - (d + 1)) else fwF r n d
/-- the row behind 113 is cleared up to k -/
def bgV (u : Nat → Nat → Int32) (k : Nat) : Nat → Nat → Int32 := fun o i => if o = 1 ∧ 114 ≤ i ∧ i < k then 0 else u o i
def bgU (u : Nat → Nat → Int32) (l : Nat) : Nat → Nat → Int32 := bgV (ms (ms (ms (ms u 1 7 (nI l)) 1 8 0) 1 9 0) 1 (58 + 7 * l + 1) 1) 328
def kbU (u : Nat → Nat → Int32) (w k : Nat) (x z : Int32) : Nat → Nat → Int32 := if u 1 (w + 2 * k) < x then ms (ms u 1 (w + 2 * k) x) 1 (w + 2 * k + 1) z else u
/-- the notes behind place j are moved by one -/
def kmV (u : Nat → Nat → Int32) (j : Nat) : Nat → Nat → Int32 := fun o i => if o = 1 ∧ 168 + j < i ∧ i ≤ 327 then u 1 (i - 4) else u o i
def kmU (u : Nat → Nat → Int32) (b x s : Int32) : Nat → Nat → Int32 := ms (ms (ms (ms (ms (kmV u 3) 1 168 b) 1 169 x) 1 170 (u 1 4)) 1 171 (if s = 0 then 0 else 1)) 1 9 (u 1 9 + (if u 1 9 < 40 then 1 else 0))
section MO
variable {h : evH} {m : evM} {c : Nat} {u : Nat → Nat → Int32}
end MO
