/-! the model: the changes that are called -/
theorem n4z : (-4 : Int32) < 0 := by decide
theorem n2z : (-2 : Int32) < 0 := by decide
theorem n1z : (-1 : Int32) < 0 := by decide
theorem n5z : (-5 : Int32) < 0 := by decide
theorem nI_6 {n : Nat} (hn : n ≤ 6) (h : ¬ nI n = 6) : n < 6 := by
  rcases Nat.lt_or_ge n 6 with q | q
  · exact q
  · exact absurd (by rw [show n = 6 by omega]; rfl) h
theorem nI_8 {n : Nat} (hn : n ≤ 8) (h : ¬ nI n = 8) : n < 8 := by
  rcases Nat.lt_or_ge n 8 with q | q
  · exact q
  · exact absurd (by rw [show n = 8 by omega]; rfl) h
/-- a number from 0 to n - 1 -/
theorem wiB_nI {b : Int32} {n : Nat} (hn : n ≤ 1000) (h : wiB b 0 (nI n - 1) = true) : ∃ k, k < n ∧ b = nI k := by
  unfold wiB at h
  simp only [Bool.and_eq_true, decide_eq_true_eq] at h
  obtain ⟨k, hk, rfl⟩ := nI_of (Int32.not_lt.mpr h.1)
  cases n with
  | zero =>
    exfalso
    have := Int32.le_trans h.1 h.2
    exact absurd this (by decide)
  | succ n =>
    have e : nI (n + 1) - 1 = nI n := by rw [nI_succ]; exact Int32.add_sub_cancel _ _
    rw [e] at h
    refine ⟨k, ?_, rfl⟩
    have : ¬ nI n < nI k := Int32.not_lt.mpr h.2
    rcases Nat.lt_or_ge n k with q | q
    · exact absurd ((nI_ltI (by omega) hk).mpr q) this
    · omega
section MO
variable {h : evH} {m : evM} {c : Nat} {u : Nat → Nat → Int32}
end MO
