/-! the model: the best plan -/
def bpZ (u : Nat → Nat → Int32) (lag n q b : Nat) : Nat → Nat → Nat → Int32
  | 0 => mvU u 1 0 2 0 328
  | k + 1 => mvU (farU (ms (bpZ u lag n q b k) 1 (10 + 8 * b + 1) (nI (10 * k))) lag n q 1000) 2 0 1 0 328
def bpF (u : Nat → Nat → Int32) (lag n q b k : Nat) : Nat → Nat → Int32 := farU (ms (bpZ u lag n q b k) 1 (10 + 8 * b + 1) (nI (10 * k))) lag n q 1000
def bpG (u : Nat → Nat → Int32) (lag n q b k : Nat) : Int32 := bpF u lag n q b k 1 (10 + 8 * b + 4) - bpF u lag n q b k 1 (10 + 8 * b + 3) - (u 1 (10 + 8 * b + 4) - u 1 (10 + 8 * b + 3))
def bpR (u : Nat → Nat → Int32) (lag n q b : Nat) : Nat → Int32 × Int32
  | 0 => (-6, 0)
  | k + 1 => if (bpR u lag n q b k).1 = -6 ∨ (bpR u lag n q b k).2 < bpG u lag n q b k then (nI (10 * k), bpG u lag n q b k) else bpR u lag n q b k
theorem bpZ_2 (u : Nat → Nat → Int32) (lag n q b k : Nat) {j : Nat} (hj : j < 328) : bpZ u lag n q b k 2 j = u 1 j := by
  induction k with
  | zero => exact mvU_row u hj 1 2
  | succ k ih =>
    show mvU (bpF u lag n q b k) 2 0 1 0 328 2 j = _
    rw [mvU_o _ _ _ _ _ _ _ (by decide)]
    unfold bpF
    rw [farU_o _ _ _ _ _ _ (by decide) (by decide) (by decide), ms_at, if_neg (by omega), ih]
theorem bpZ_1 (u : Nat → Nat → Int32) (lag n q b k : Nat) {j : Nat} (hj : j < 328) : bpZ u lag n q b k 1 j = u 1 j := by
  cases k with
  | zero => exact mvU_o _ _ _ _ _ _ _ (by decide)
  | succ k =>
    show mvU (bpF u lag n q b k) 2 0 1 0 328 1 j = _
    rw [mvU_row _ hj]
    unfold bpF
    rw [farU_o _ _ _ _ _ _ (by decide) (by decide) (by decide), ms_at, if_neg (by omega), bpZ_2 _ _ _ _ _ _ hj]
theorem bpZ_inv {u : Nat → Nat → Int32} {lag n q b : Nat} (hb : b < 6) (hi : mInv u lag n q) (k : Nat) (x : Int32) : mInv (ms (bpZ u lag n q b k) 1 (10 + 8 * b + 1) x) lag n q := by
  obtain ⟨h1, h2, h3, h4, h5, h6, h7, h8⟩ := hi
  have e : ∀ j, j < 328 → (j < 10 ∨ 58 ≤ j) → ms (bpZ u lag n q b k) 1 (10 + 8 * b + 1) x 1 j = u 1 j := fun j hj hd => by
    rw [ms_at, if_neg (by omega), bpZ_1 _ _ _ _ _ _ hj]
  refine ⟨h1, h2, h3, by rw [e 5 (by decide) (by decide), h4], by rw [e 0 (by decide) (by decide), h5], by rw [e 6 (by decide) (by decide), h6], by rw [e 7 (by decide) (by decide)]; exact h7, fun l hl => ?_⟩
  rw [e _ (by omega) (by omega)]
  exact h8 l hl
section MO
variable {h : evH} {m : evM} {c : Nat} {u : Nat → Nat → Int32}
end MO
