/-! the model: what a bidder believes -/
abbrev evT : Type := Int32 × Int32 × Int32
def setB (u : Nat → Nat → Int32) (t : evT) : Nat → Nat → Int32 := fun o j => if o = 0 then (if j = 8 then t.1 else if j = 9 then t.2.1 else if j = 10 then t.2.2 else u 0 j) else u o j
theorem setB_8 (u : Nat → Nat → Int32) (t : evT) : setB u t 0 8 = t.1 := id rfl
theorem setB_9 (u : Nat → Nat → Int32) (t : evT) : setB u t 0 9 = t.2.1 := id rfl
theorem setB_10 (u : Nat → Nat → Int32) (t : evT) : setB u t 0 10 = t.2.2 := id rfl
theorem setB_1 (u : Nat → Nat → Int32) (t : evT) (j : Nat) : setB u t 1 j = u 1 j := id rfl
theorem setB_r1 (u : Nat → Nat → Int32) (t : evT) : setB u t 1 = u 1 := id rfl
theorem setB_s8 (u : Nat → Nat → Int32) (t : evT) (x : Int32) : ms (setB u t) 0 8 x = setB u (x, t.2) := by
  funext o j
  unfold ms setB
  by_cases h1 : o = 0
  · by_cases h2 : j = 8 <;> simp [h1, h2]
  · simp [h1]
theorem setB_s9 (u : Nat → Nat → Int32) (t : evT) (x : Int32) : ms (setB u t) 0 9 x = setB u (t.1, x, t.2.2) := by
  funext o j
  unfold ms setB
  by_cases h1 : o = 0
  · by_cases h2 : j = 9 <;> simp [h1, h2]
  · simp [h1]
theorem setB_s10 (u : Nat → Nat → Int32) (t : evT) (x : Int32) : ms (setB u t) 0 10 x = setB u (t.1, t.2.1, x) := by
  funext o j
  unfold ms setB
  by_cases h1 : o = 0
  · by_cases h2 : j = 10 <;> simp [h1, h2]
  · simp [h1]
theorem setB_id (u : Nat → Nat → Int32) : setB u (u 0 8, u 0 9, u 0 10) = u := by
  funext o j
  unfold setB
  by_cases h1 : o = 0
  · subst h1
    by_cases h2 : j = 8
    · simp [h2]
    · by_cases h3 : j = 9
      · simp [h3]
      · by_cases h4 : j = 10 <;> simp [h2, h3, h4]
  · simp [h1]
theorem setB_2 (u : Nat → Nat → Int32) (t t' : evT) : setB (setB u t) t' = setB u t' := by
  funext o j
  unfold setB
  by_cases h1 : o = 0
  · by_cases h2 : j = 8
    · simp [h1, h2]
    · by_cases h3 : j = 9
      · simp [h1, h3]
      · by_cases h4 : j = 10 <;> simp [h1, h2, h3, h4]
  · simp [h1]
def hearT (t : evT) (x r b : Int32) : evT := if 0 < x ∧ (t.1 < x ∨ x = t.1 ∧ (r < t.2.1 ∨ r = t.2.1 ∧ b < t.2.2)) then (x, r, b) else t
def agesT (r : Nat → Int32) (k lag : Nat) (t : evT) : Nat → evT
  | 0 => t
  | i + 1 => hearT (agesT r k lag t i) (r (138 + 6 * (lag + i) + k)) (r 4 - nI (lag + 1 + i)) (nI k)
def oneT (r : Nat → Int32) (k lag b : Nat) (t : evT) : evT := if k = b then t else agesT r k lag (hearT t (r (126 + 2 * k)) (r (126 + 2 * k + 1)) (nI k)) (5 - lag)
def allT (r : Nat → Int32) (lag b : Nat) : Nat → evT
  | 0 => hearT (0, 0, -6) (r (114 + 2 * b)) (r (114 + 2 * b + 1)) (nI b)
  | k + 1 => oneT r k lag b (allT r lag b k)
section MO
variable {h : evH} {m : evM} {c : Nat} {u : Nat → Nat → Int32}
end MO
