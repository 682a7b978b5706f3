/-! the model: another lag, counts -/
theorem mvU_row (u : Nat → Nat → Int32) {i : Nat} (hi : i < 328) (o1 o2 : Nat) : mvU u o1 0 o2 0 328 o2 i = u o1 i := by
  unfold mvU
  rw [if_pos ⟨rfl, by omega, by omega⟩, show 0 + (i - 0) = i by omega]
theorem mInv_lag {u : Nat → Nat → Int32} {lag n q k : Nat} (hi : mInv u lag n q) (hk : k ≤ 5) : mInv (ms (mvU u 1 0 2 0 328) 1 0 (nI k)) k n q := by
  obtain ⟨h1, h2, h3, h4, h5, h6, h7, h8⟩ := hi
  have e : ∀ j, j ≠ 0 → ms (mvU u 1 0 2 0 328) 1 0 (nI k) 1 j = u 1 j := fun j hj => by
    rw [ms_at, if_neg (fun z => hj z.2), mvU_o _ _ _ _ _ _ _ (by decide)]
  refine ⟨h1, hk, h3, by rw [e 5 (by decide), h4], by rw [ms_at, if_pos ⟨rfl, rfl⟩], by rw [e 6 (by decide), h6], by rw [e 7 (by decide)]; exact h7, fun l hl => ?_⟩
  rw [e _ (by omega)]
  exact h8 l hl
def ilU (u : Nat → Nat → Int32) (k n q : Nat) : Nat → Nat → Int32 := farU (ms (mvU u 1 0 2 0 328) 1 0 (nI k)) k n q 1000
def mcnt (u : Nat → Nat → Int32) (n q : Nat) (w : Int32) : Int32 := if wiB w 8 11 = true then u 1 (w - 8).toNatClampNeg else if w = 0 then u 1 4 else if w = 1 then u 1 5 else if w = 2 then u 1 6 else if w = 3 then u 1 7 else if w = 4 then mHow (u 1) 2 q else if w = 5 then mSum (u 1) 3 n else if w = 6 then mSum (u 1) 5 n else if w = 7 then mSum (u 1) 6 n else if w = 12 then u 0 7 else if w = 13 then u 0 3 else -2
section MO
variable {h : evH} {m : evM} {c : Nat} {u : Nat → Nat → Int32}
end MO
