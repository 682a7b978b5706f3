/-! the model: the changes -/
theorem rcU_o (u : Nat → Nat → Int32) (r : Nat) {o : Nat} (j : Nat) (h0 : o ≠ 0) (h3 : o ≠ 3) : rcU u r o j = u o j := by
  unfold rcU
  split
  · rw [ms_at, if_neg (fun z => h0 z.1), mvU_o _ _ _ _ _ _ _ h3, ms_at, if_neg (fun z => h0 z.1), shU_o _ _ _ h3]
  · rw [ms_at, if_neg (fun z => h0 z.1), mvU_o _ _ _ _ _ _ _ h3]
theorem rcU_1 (u : Nat → Nat → Int32) (r : Nat) (j : Nat) : rcU u r 1 j = u 1 j := rcU_o u r j (by decide) (by decide)
def isvB (s v : Int32) : Bool := if s = 0 then wiB v 0 5 else if s = 1 then wiB v 1 99 else if s = 2 then wiB v 1 9 else if s = 3 then wiB v 0 1 else false
def whyB (u : Nat → Nat → Int32) (x y : Int32) : Int32 := if wiB x 0 9999 = true ∧ wiB y 0 200 = true then (if u 1 5 = 6 then -4 else 0) else -2
def whyL (u : Nat → Nat → Int32) (x : Int32) : Int32 := if wiB x 0 999 = true then (if u 1 6 = 8 then -4 else 0) else -2
def whyT (u : Nat → Nat → Int32) (b x : Int32) : Int32 := if wiB b 0 (u 1 5 - 1) = true then (if wiB x 1 9999 = true then 0 else -2) else -1
def whyP (u : Nat → Nat → Int32) (x : Int32) : Int32 := if wiB x 1 99 = true then (if 9999 < u 1 4 + x then -5 else 0) else -2
def czU (u : Nat → Nat → Int32) (n : Nat) : Nat → Nat → Nat → Int32
  | 0 => u
  | k + 1 => ms (czU u n k) 1 (10 + 8 * n + k) 0
def cmU (u : Nat → Nat → Int32) (n : Nat) (x y : Int32) : Nat → Nat → Int32 := ms (ms (ms (czU u n 8) 1 (10 + 8 * n + 0) x) 1 (10 + 8 * n + 1) y) 1 5 (nI (n + 1))
def ltU (u : Nat → Nat → Int32) (q : Nat) (x : Int32) : Nat → Nat → Int32 := ms (ms (ms (ms (ms (ms (ms (ms u 1 (58 + 7 * q + 0) x) 1 (58 + 7 * q + 1) 0) 1 (58 + 7 * q + 2) (-6)) 1 (58 + 7 * q + 3) (-6)) 1 (58 + 7 * q + 4) 0) 1 (58 + 7 * q + 5) 0) 1 (58 + 7 * q + 6) (-6)) 1 6 (nI (q + 1))
theorem czU_lo (u : Nat → Nat → Int32) (n k : Nat) {j : Nat} (hj : j < 10) : czU u n k 1 j = u 1 j := by
  induction k with
  | zero => rfl
  | succ k ih =>
    show ms (czU u n k) 1 (10 + 8 * n + k) 0 1 j = _
    rw [ms_at, if_neg (by omega), ih]
theorem b_ne {b : Bool} (h : ¬ b = true) : b = false := by cases b <;> simp_all
section MO
variable {h : evH} {m : evM} {c : Nat} {u : Nat → Nat → Int32}
end MO
