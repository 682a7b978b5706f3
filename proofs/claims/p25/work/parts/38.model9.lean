/-! the model: a round -/
def bsU (u : Nat → Nat → Int32) (lag n l k : Nat) : Nat → Nat → Int32 := fun o j => if o = 7 ∧ j < k then bidV (u 1) lag n l j else u o j
def bsT (u : Nat → Nat → Int32) (lag n : Nat) : Nat → evT
  | 0 => (u 0 8, u 0 9, u 0 10)
  | k + 1 => bidT (u 1) lag n k (bsT u lag n k)
def tzU (u : Nat → Nat → Int32) : Nat → Nat → Nat → Int32
  | 0 => u
  | k + 1 => ms (tzU u k) 1 (10 + 8 * k + 7) 0
def roA (u : Nat → Nat → Int32) (lag n l : Nat) : Nat → Nat → Int32 := tzU (setB (bsU u lag n l n) (bsT u lag n n)) n
def roB (v : Nat → Nat → Int32) (n l : Nat) : Nat → Nat → Int32 := mbU (v 1 (58 + 7 * l + 5)) l v n
def roC (v : Nat → Nat → Int32) (n l : Nat) : Nat → Nat → Int32 := grU (ms (roB v n l) 1 8 (if mbB v n = true then 0 else roB v n l 1 8 + 1)) n
def roD (v : Nat → Nat → Int32) (l : Nat) : Nat → Nat → Int32 := ms v 1 (58 + 7 * l + 4) (v 1 (58 + 7 * l + 4) + 1)
/-- behind the round, ahead of the lot's end -/
def roE (u : Nat → Nat → Int32) (lag n l : Nat) : Nat → Nat → Int32 := roD (roC (roA u lag n l) n l) l
def roI (v : Nat → Nat → Int32) : Bool := decide (v 1 2 + v 1 0 ≤ v 1 8)
def roU (u : Nat → Nat → Int32) (lag n l : Nat) : Nat → Nat → Int32 := if roI (roE u lag n l) = true then enU (roE u lag n l) l n else roE u lag n l
theorem bsU_s (u : Nat → Nat → Int32) (lag n l k : Nat) : ms (bsU u lag n l k) 7 k (bidV (u 1) lag n l k) = bsU u lag n l (k + 1) := by
  funext o j
  unfold ms bsU
  by_cases h1 : o = 7
  · by_cases h2 : j = k
    · subst h1; subst h2
      rw [if_pos ⟨rfl, rfl⟩, if_pos ⟨rfl, by omega⟩]
    · rw [if_neg (fun z => h2 z.2)]
      by_cases h3 : j < k
      · rw [if_pos ⟨h1, h3⟩, if_pos ⟨h1, by omega⟩]
      · rw [if_neg (fun z => h3 z.2), if_neg (by omega)]
  · rw [if_neg (fun z => h1 z.1), if_neg (fun z => h1 z.1), if_neg (fun z => h1 z.1)]
theorem bsU_0 (u : Nat → Nat → Int32) (lag n l : Nat) : bsU u lag n l 0 = u := by
  funext o j
  unfold bsU
  rw [if_neg (by omega)]
theorem bsU_1 (u : Nat → Nat → Int32) (lag n l k : Nat) : bsU u lag n l k 1 = u 1 := by
  funext j
  unfold bsU
  rw [if_neg (by omega)]
theorem setB_s7 (u : Nat → Nat → Int32) (t : evT) (k : Nat) (x : Int32) : ms (setB u t) 7 k x = setB (ms u 7 k x) t := by
  funext o j
  unfold ms setB
  by_cases h1 : o = 0
  · subst h1
    simp
  · by_cases h2 : o = 7 ∧ j = k
    · simp [h1, h2]
    · simp [h1, h2]
theorem tzU_lo (u : Nat → Nat → Int32) (k : Nat) {j : Nat} (hj : j < 17) : tzU u k 1 j = u 1 j := by
  induction k with
  | zero => rfl
  | succ k ih =>
    show ms (tzU u k) 1 (10 + 8 * k + 7) 0 1 j = _
    rw [ms_at, if_neg (by omega), ih]
theorem roA_lo (u : Nat → Nat → Int32) (lag n l : Nat) {j : Nat} (hj : j < 17) : roA u lag n l 1 j = u 1 j := by
  unfold roA
  rw [tzU_lo _ _ hj, setB_1, bsU_1]
theorem roB_lo (v : Nat → Nat → Int32) (n l : Nat) {j : Nat} (hj : j < 9) : roB v n l 1 j = v 1 j := mbU_lo _ _ _ _ hj
theorem grU_lo (u : Nat → Nat → Int32) (n : Nat) {j : Nat} (hj : j < 126) : grU u n 1 j = u 1 j := by
  unfold grU
  rw [grN_lo _ _ _ (by omega), grV_lt _ (by omega), grB_lo _ _ hj]
theorem roC_lo (v : Nat → Nat → Int32) (n l : Nat) {j : Nat} (hj : j < 8) : roC v n l 1 j = v 1 j := by
  unfold roC
  rw [grU_lo _ _ (by omega), ms_at, if_neg (by omega), roB_lo _ _ _ (by omega)]
theorem roE_lo (u : Nat → Nat → Int32) (lag n l : Nat) {j : Nat} (hj : j < 8) : roE u lag n l 1 j = u 1 j := by
  unfold roE roD
  rw [ms_at, if_neg (by omega), roC_lo _ _ _ hj, roA_lo _ _ _ _ (by omega)]
section MO
variable {h : evH} {m : evM} {c : Nat} {u : Nat → Nat → Int32}
end MO
