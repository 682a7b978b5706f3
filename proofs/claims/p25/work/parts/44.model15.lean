/-! the model: what there is, another lag -/
theorem w_ne7 : ¬ (9 : Int32) = 7 := by decide
section MO
variable {h : evH} {m : evM} {c : Nat} {u : Nat → Nat → Int32}
def mofV (u : Nat → Nat → Int32) (lag n k : Nat) (w : Int32) : Int32 := if wiB w 0 6 = true then u 1 (10 + 8 * k + w.toNatClampNeg) else if w = 9 then u 1 (10 + 8 * k + 7) else if wiB w 7 8 = true then (if u 1 7 = -6 then (if w = 7 then 0 else -6) else if w = 7 then (allT (u 1) lag k n).1 else (allT (u 1) lag k n).2.2) else -2
def mofU (u : Nat → Nat → Int32) (lag n k : Nat) (w : Int32) : Nat → Nat → Int32 := if wiB w 7 8 = true ∧ ¬ u 1 7 = -6 then setB u (allT (u 1) lag k n) else u
theorem wi06 {w : Int32} (h : wiB w 0 6 = true) : ¬ w < 0 ∧ w.toNatClampNeg < 7 ∧ ¬ wiB w 7 8 = true := by
  obtain ⟨k, hk, rfl⟩ := wiB_nI (n := 7) (by decide) (by rw [show nI 7 - 1 = (6 : Int32) by decide]; exact h)
  refine ⟨nI_pos (by omega), by rw [nI_cl k (by omega)]; exact hk, ?_⟩
  intro q
  unfold wiB at q
  simp only [Bool.and_eq_true, decide_eq_true_eq] at q
  exact i32_ff q.1 (show nI k < nI 7 from (nI_ltI (by omega) (by omega)).mpr hk)
end MO
