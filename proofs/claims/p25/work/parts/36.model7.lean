/-! the model: the bids of a round are made, the rounds grow older -/
theorem evBl_r (b : Bool) : evBl b &&& 1 = evBl b := by cases b <;> rfl
/-- whether any bids -/
def mbB (u : Nat → Nat → Int32) : Nat → Bool
  | 0 => false
  | k + 1 => decide (0 < u 7 k) || mbB u k
theorem mbB_s (u : Nat → Nat → Int32) (k : Nat) : (if 0 < u 7 k then (1 : Int32) else evBl (mbB u k)) = evBl (mbB u (k + 1)) := by
  show _ = evBl (decide (0 < u 7 k) || mbB u k)
  by_cases h : 0 < u 7 k
  · rw [if_pos h]
    simp [h, evBl]
  · rw [if_neg h]
    simp [h]
def grB (u : Nat → Nat → Int32) : Nat → Nat → Nat → Int32
  | 0 => u
  | k + 1 => kbU (grB u k) 126 k (u 1 (162 + k)) (u 1 4 - 5)
/-- the rounds behind place j are moved by one -/
def grV (u : Nat → Nat → Int32) (j : Nat) : Nat → Nat → Int32 := fun o i => if o = 1 ∧ 138 + j < i ∧ i ≤ 167 then u 1 (i - 6) else u o i
def grN (u : Nat → Nat → Int32) (n : Nat) : Nat → Nat → Nat → Int32
  | 0 => u
  | k + 1 => ms (grN u n k) 1 (138 + k) (if k < n then u 7 k else 0)
def grU (u : Nat → Nat → Int32) (n : Nat) : Nat → Nat → Int32 := grN (grV (grB u n) 5) n 6
theorem grB_o (u : Nat → Nat → Int32) (n : Nat) {o : Nat} (j : Nat) (ho : o ≠ 1) : grB u n o j = u o j := by
  induction n with
  | zero => rfl
  | succ n ih => exact (kbU_o _ _ _ _ _ _ ho).trans ih
theorem grB_lo (u : Nat → Nat → Int32) (n : Nat) {j : Nat} (hj : j < 126) : grB u n 1 j = u 1 j := by
  induction n with
  | zero => rfl
  | succ n ih => exact (kbU_lo _ _ _ _ hj).trans ih
theorem grB_hi (u : Nat → Nat → Int32) {n : Nat} (hn : n ≤ 6) {j : Nat} (hj : 138 ≤ j) : grB u n 1 j = u 1 j := by
  induction n with
  | zero => rfl
  | succ n ih =>
    refine Eq.trans ?_ (ih (by omega))
    show kbU (grB u n) 126 n _ _ 1 j = _
    unfold kbU
    split
    · rw [ms_at, if_neg (by omega), ms_at, if_neg (by omega)]
    · rfl
theorem grV_s (u : Nat → Nat → Int32) {j : Nat} (hj : j < 29) : ms (grV u (j + 1)) 1 (138 + (j + 1)) (u 1 (138 + (j + 1) - 6)) = grV u j := by
  funext o i
  unfold ms grV
  by_cases h1 : o = 1
  · by_cases h2 : i = 138 + (j + 1)
    · subst h1; subst h2
      rw [if_pos ⟨rfl, rfl⟩, if_pos ⟨rfl, by omega, by omega⟩]
    · rw [if_neg (fun z => h2 z.2)]
      by_cases h3 : 138 + (j + 1) < i ∧ i ≤ 167
      · rw [if_pos ⟨h1, h3⟩, if_pos ⟨h1, by omega, h3.2⟩]
      · rw [if_neg (fun z => h3 z.2), if_neg (by omega)]
  · rw [if_neg (fun z => h1 z.1), if_neg (fun z => h1 z.1), if_neg (fun z => h1 z.1)]
theorem grV_0 (u : Nat → Nat → Int32) : grV u 29 = u := by
  funext o i
  unfold grV
  rw [if_neg (by omega)]
theorem grV_lt (u : Nat → Nat → Int32) {j i : Nat} (h : i ≤ 138 + j) : grV u j 1 i = u 1 i := by
  unfold grV
  rw [if_neg (by omega)]
theorem grV_o (u : Nat → Nat → Int32) (k : Nat) {o : Nat} (j : Nat) (ho : o ≠ 1) : grV u k o j = u o j := by
  unfold grV
  rw [if_neg (fun z => ho z.1)]
theorem grN_o (u : Nat → Nat → Int32) (n k : Nat) {o : Nat} (j : Nat) (ho : o ≠ 1) : grN u n k o j = u o j := by
  induction k with
  | zero => rfl
  | succ k ih =>
    show ms (grN u n k) 1 (138 + k) _ o j = _
    rw [ms_at, if_neg (fun z => ho z.1), ih]
theorem grN_lo (u : Nat → Nat → Int32) (n k : Nat) {j : Nat} (hj : j < 138) : grN u n k 1 j = u 1 j := by
  induction k with
  | zero => rfl
  | succ k ih =>
    show ms (grN u n k) 1 (138 + k) _ 1 j = _
    rw [ms_at, if_neg (by omega), ih]
section MO
variable {h : evH} {m : evM} {c : Nat} {u : Nat → Nat → Int32}
end MO
