/-! the model: a beginning, what is kept -/
theorem bgV_s (u : Nat → Nat → Int32) {k : Nat} (hk : 114 ≤ k) : ms (bgV u k) 1 k 0 = bgV u (k + 1) := by
  funext o i
  unfold ms bgV
  by_cases h1 : o = 1
  · by_cases h2 : i = k
    · simp [h1, h2, hk]
    · by_cases h3 : i < k
      · simp [h1, h2, h3, show i < k + 1 by omega]
      · simp [h1, h2, h3, show ¬ i < k + 1 by omega]
  · simp [h1]
theorem bgV_0 (u : Nat → Nat → Int32) : bgV u 114 = u := by
  funext o i
  unfold bgV
  rw [if_neg (by omega)]
theorem kmV_s (u : Nat → Nat → Int32) {j : Nat} (hj : j < 159) : ms (kmV u (j + 1)) 1 (168 + (j + 1)) (u 1 (168 + (j + 1) - 4)) = kmV u j := by
  funext o i
  unfold ms kmV
  by_cases h1 : o = 1
  · by_cases h2 : i = 168 + (j + 1)
    · subst h1; subst h2
      rw [if_pos ⟨rfl, rfl⟩, if_pos ⟨rfl, by omega, by omega⟩]
    · rw [if_neg (fun z => h2 z.2)]
      by_cases h3 : 168 + (j + 1) < i ∧ i ≤ 327
      · rw [if_pos ⟨h1, h3⟩, if_pos ⟨h1, by omega, h3.2⟩]
      · rw [if_neg (fun z => h3 z.2), if_neg (by omega)]
  · rw [if_neg (fun z => h1 z.1), if_neg (fun z => h1 z.1), if_neg (fun z => h1 z.1)]
theorem kmV_0 (u : Nat → Nat → Int32) : kmV u 159 = u := by
  funext o i
  unfold kmV
  rw [if_neg (by omega)]
theorem kmV_lt (u : Nat → Nat → Int32) {j i : Nat} (h : i ≤ 168 + j) : kmV u j 1 i = u 1 i := by
  unfold kmV
  rw [if_neg (by omega)]
section MO
variable {h : evH} {m : evM} {c : Nat} {u : Nat → Nat → Int32}
end MO
