/-! the model: lots left, going far, undo, saving -/
def hlB (u : Nat → Nat → Int32) (q : Nat) : Bool := if u 1 7 = -6 then (if fwF (u 1) q q = -6 then false else true) else true
def farU (u : Nat → Nat → Int32) (lag n q : Nat) : Nat → Nat → Nat → Int32
  | 0 => u
  | k + 1 => if hlB (farU u lag n q k) q = true then rdU (farU u lag n q k) lag n q else farU u lag n q k
theorem farU_inv {u : Nat → Nat → Int32} {lag n q : Nat} (hi : mInv u lag n q) (k : Nat) : mInv (farU u lag n q k) lag n q := by
  induction k with
  | zero => exact hi
  | succ k ih =>
    show mInv (if hlB (farU u lag n q k) q = true then rdU (farU u lag n q k) lag n q else farU u lag n q k) lag n q
    split
    · exact rdU_inv ih
    · exact ih
theorem farU_stop {u : Nat → Nat → Int32} {lag n q k : Nat} (hs : ¬ hlB (farU u lag n q k) q = true) (d : Nat) : farU u lag n q (k + d) = farU u lag n q k := by
  induction d with
  | zero => rfl
  | succ d ih =>
    show (if hlB (farU u lag n q (k + d)) q = true then rdU (farU u lag n q (k + d)) lag n q else farU u lag n q (k + d)) = _
    rw [ih, if_neg hs]
section MO
variable {h : evH} {m : evM} {c : Nat} {u : Nat → Nat → Int32}
theorem wiB_01 {s : Int32} (h : wiB s 0 1 = true) : ∃ k, k < 2 ∧ s = nI k := wiB_nI (n := 2) (by decide) (by rw [show nI 2 - 1 = (1 : Int32) by decide]; exact h)
end MO
