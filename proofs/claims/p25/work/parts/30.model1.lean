/-! the model: parts of the row of numbers -/
theorem lt0 : ¬ (0 : Int32) < 0 := by decide
theorem lt1 : ¬ (1 : Int32) < 0 := by decide
theorem lt2 : ¬ (2 : Int32) < 0 := by decide
theorem lt3 : ¬ (3 : Int32) < 0 := by decide
theorem lt4 : ¬ (4 : Int32) < 0 := by decide
theorem lt5 : ¬ (5 : Int32) < 0 := by decide
theorem lt6 : ¬ (6 : Int32) < 0 := by decide
theorem lt7 : ¬ (7 : Int32) < 0 := by decide
theorem lt8 : ¬ (8 : Int32) < 0 := by decide
theorem lt9 : ¬ (9 : Int32) < 0 := by decide
theorem lc0 : (0 : Int32).toNatClampNeg = 0 := by decide
theorem lc1 : (1 : Int32).toNatClampNeg = 1 := by decide
theorem lc2 : (2 : Int32).toNatClampNeg = 2 := by decide
theorem lc3 : (3 : Int32).toNatClampNeg = 3 := by decide
theorem lc4 : (4 : Int32).toNatClampNeg = 4 := by decide
theorem lc5 : (5 : Int32).toNatClampNeg = 5 := by decide
theorem lc6 : (6 : Int32).toNatClampNeg = 6 := by decide
theorem lc7 : (7 : Int32).toNatClampNeg = 7 := by decide
theorem lc8 : (8 : Int32).toNatClampNeg = 8 := by decide
theorem lc9 : (9 : Int32).toNatClampNeg = 9 := by decide
theorem nI_add2 (a b : Nat) : nI a + nI b = nI (a + b) := nI_add a b
theorem ix_g {a k : Nat} {b x : Int32} (hb0 : ¬ b < 0) (hx0 : ¬ x < 0) (hl : a + k * b.toNatClampNeg + x.toNatClampNeg < 2 ^ 31) : ¬ nI a + nI k * b + x < 0 ∧ (nI a + nI k * b + x).toNatClampNeg = a + k * b.toNatClampNeg + x.toNatClampNeg := by
  obtain ⟨b', hb', rfl⟩ := nI_of hb0
  obtain ⟨x', hx', rfl⟩ := nI_of hx0
  rw [nI_clamp hb', nI_clamp hx'] at *
  rw [pk_mul, nI_add2, nI_add2]
  exact ⟨nI_pos hl, nI_clamp hl⟩
def wiB (v lo hi : Int32) : Bool := decide (lo ≤ v) && decide (v ≤ hi)
section MO
variable {h : evH} {m : evM} {c : Nat} {u : Nat → Nat → Int32}
theorem evGM_get0 {b c j : Nat} {f : Nat → Nat → Int32} (ho : 0 < c) : evGM m b c f b j = f 0 j := evGM_get (o := 0) ho
/-- sums over the bidders -/
def mSum (r : Nat → Int32) (p : Nat) : Nat → Int32
  | 0 => 0
  | k + 1 => mSum r p k + r (10 + 8 * k + p)
def mHow (r : Nat → Int32) (x : Int32) : Nat → Int32
  | 0 => 0
  | k + 1 => mHow r x k + (if r (58 + 7 * k + 1) = x then 1 else 0)
end MO
