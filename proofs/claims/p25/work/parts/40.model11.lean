/-! the model: rounds that pass, rows that move, what is recorded -/
def psU (u : Nat → Nat → Int32) (lag n q : Nat) : Nat → Nat → Nat → Int32
  | 0 => u
  | k + 1 => rdU (psU u lag n q k) lag n q
def psI (u : Nat → Nat → Int32) (lag n q : Nat) : Nat → Int32
  | 0 => 0
  | k + 1 => psI u lag n q k + evBl (rdI (rdA (psU u lag n q k) q) lag n)
theorem psU_inv {u : Nat → Nat → Int32} {lag n q : Nat} (hi : mInv u lag n q) (k : Nat) : mInv (psU u lag n q k) lag n q := by
  induction k with
  | zero => exact hi
  | succ k ih => exact rdU_inv ih
def mvU (u : Nat → Nat → Int32) (o1 f o2 t k : Nat) : Nat → Nat → Int32 := fun o i => if o = o2 ∧ t ≤ i ∧ i < t + k then u o1 (f + (i - t)) else u o i
theorem mvU_s (u : Nat → Nat → Int32) (o1 f o2 t k : Nat) : ms (mvU u o1 f o2 t k) o2 (t + k) (u o1 (f + k)) = mvU u o1 f o2 t (k + 1) := by
  funext o i
  unfold ms mvU
  by_cases h1 : o = o2
  · by_cases h2 : i = t + k
    · subst h1; subst h2
      rw [if_pos ⟨rfl, rfl⟩, if_pos ⟨rfl, by omega, by omega⟩, Nat.add_sub_cancel_left]
    · rw [if_neg (fun z => h2 z.2)]
      by_cases h3 : t ≤ i ∧ i < t + k
      · rw [if_pos ⟨h1, h3⟩, if_pos ⟨h1, h3.1, by omega⟩]
      · rw [if_neg (fun z => h3 z.2), if_neg (fun z => h3 ⟨z.2.1, by omega⟩)]
  · rw [if_neg (fun z => h1 z.1), if_neg (fun z => h1 z.1), if_neg (fun z => h1 z.1)]
theorem mvU_0 (u : Nat → Nat → Int32) (o1 f o2 t : Nat) : mvU u o1 f o2 t 0 = u := by
  funext o i
  unfold mvU
  rw [if_neg (by omega)]
theorem mvU_o (u : Nat → Nat → Int32) (o1 f o2 t k : Nat) {o : Nat} (j : Nat) (ho : o ≠ o2) : mvU u o1 f o2 t k o j = u o j := by
  unfold mvU
  rw [if_neg (fun z => ho z.1)]
/-- the history is moved by one state, up to place k -/
def shU (u : Nat → Nat → Int32) (k : Nat) : Nat → Nat → Int32 := fun o i => if o = 3 ∧ i < k then u 3 (i + 328) else u o i
theorem shU_s (u : Nat → Nat → Int32) (k : Nat) : ms (shU u k) 3 k (u 3 (k + 328)) = shU u (k + 1) := by
  funext o i
  unfold ms shU
  by_cases h1 : o = 3
  · by_cases h2 : i = k
    · subst h1; subst h2
      rw [if_pos ⟨rfl, rfl⟩, if_pos ⟨rfl, by omega⟩]
    · rw [if_neg (fun z => h2 z.2)]
      by_cases h3 : i < k
      · rw [if_pos ⟨h1, h3⟩, if_pos ⟨h1, by omega⟩]
      · rw [if_neg (fun z => h3 z.2), if_neg (by omega)]
  · rw [if_neg (fun z => h1 z.1), if_neg (fun z => h1 z.1), if_neg (fun z => h1 z.1)]
theorem shU_0 (u : Nat → Nat → Int32) : shU u 0 = u := by
  funext o i
  unfold shU
  rw [if_neg (by omega)]
theorem shU_hi (u : Nat → Nat → Int32) {k i : Nat} (h : k ≤ i) : shU u k 3 i = u 3 i := by
  unfold shU
  rw [if_neg (by omega)]
theorem shU_o (u : Nat → Nat → Int32) (k : Nat) {o : Nat} (j : Nat) (ho : o ≠ 3) : shU u k o j = u o j := by
  unfold shU
  rw [if_neg (fun z => ho z.1)]
def rcU (u : Nat → Nat → Int32) (r : Nat) : Nat → Nat → Int32 := if r = 6 then ms (mvU (ms (shU u 1640) 0 3 (nI 5)) 1 0 3 (5 * 328) 328) 0 3 (nI 6) else ms (mvU u 1 0 3 (r * 328) 328) 0 3 (nI (r + 1))
section MO
variable {h : evH} {m : evM} {c : Nat} {u : Nat → Nat → Int32}
end MO
