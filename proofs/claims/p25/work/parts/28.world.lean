/-! the world of the law: the class's object at 0, the law's ten rows at 375, what is no longer looked at behind (parts of p from 3 on) -/
def hb (i : Nat) : Nat := if i < 2 then 1 + 41 * i else if i < 9 then 85 + 41 * (i - 2) else 900000000 + 41 * (i - 9)
def hix (a : Nat) : Option (Nat × Nat) := if 1 ≤ a ∧ a < 83 then some ((a - 1) / 41, (a - 1) % 41) else if 85 ≤ a ∧ a < 372 then some (2 + (a - 85) / 41, (a - 85) % 41) else if 900000000 ≤ a ∧ a < 900000082 then some (9 + (a - 900000000) / 41, (a - 900000000) % 41) else none
theorem hix_hb {i o : Nat} (hi : i < 11) (ho : o < 41) : hix (hb i + o) = some (i, o) := by
  unfold hix hb
  by_cases h1 : i < 2
  · rw [if_pos h1, if_pos (by omega), show (1 + 41 * i + o - 1) / 41 = i by omega, show (1 + 41 * i + o - 1) % 41 = o by omega]
  · by_cases h2 : i < 9
    · rw [if_neg h1, if_pos h2, if_neg (by omega), if_pos (by omega), show 2 + (85 + 41 * (i - 2) + o - 85) / 41 = i by omega, show (85 + 41 * (i - 2) + o - 85) % 41 = o by omega]
    · rw [if_neg h1, if_neg h2, if_neg (by omega), if_neg (by omega), if_pos (by omega), show 9 + (900000000 + 41 * (i - 9) + o - 900000000) / 41 = i by omega, show (900000000 + 41 * (i - 9) + o - 900000000) % 41 = o by omega]
theorem hix_some {a i o : Nat} (h : hix a = some (i, o)) : i < 11 ∧ o < 41 ∧ a = hb i + o := by
  unfold hix at h
  unfold hb
  split at h
  · cases h
    refine ⟨by omega, by omega, ?_⟩
    rw [if_pos (by omega)]; omega
  · split at h
    · cases h
      refine ⟨by omega, by omega, ?_⟩
      rw [if_neg (by omega), if_pos (by omega)]; omega
    · split at h
      · cases h
        refine ⟨by omega, by omega, ?_⟩
        rw [if_neg (by omega), if_neg (by omega)]; omega
      · cases h
theorem hb_apart {i k : Nat} (h : i ≠ k) : hb i + 41 ≤ hb k ∨ hb k + 41 ≤ hb i := by
  unfold hb
  split <;> split <;> (try split) <;> (try split) <;> omega
def memW (u p : Nat → Nat → Int32) (V : Nat → evVt) (n : Nat) : evM := fun a j => match hix a with
  | some q => if q.1 < 9 + n then hallF (V q.1) q.2 j else 0
  | none => if 375 ≤ a ∧ a < 385 then u (a - 375) j else if a = 83 then p 0 j else if a = 372 then p 1 j else if a = 373 then p 2 j else if 385 ≤ a then p (a - 382) j else 0
def Vs (V : Nat → evVt) (i : Nat) (v : evVt) : Nat → evVt := fun k => if k = i then v else V k
theorem Vs_at (V : Nat → evVt) (i : Nat) (v : evVt) (k : Nat) : Vs V i v k = if k = i then v else V k := id rfl
theorem Vs_id (V : Nat → evVt) (i : Nat) : Vs V i (V i) = V := by
  funext k
  rw [Vs_at]
  by_cases h : k = i
  · rw [if_pos h, h]
  · rw [if_neg h]
section MW
variable {u p : Nat → Nat → Int32} {V : Nat → evVt} {n : Nat}
theorem memW_put {i : Nat} {v : evVt} (hi : i < 9 + n) (hn : n ≤ 2) : putV (memW u p V n) (hb i) v = memW u p (Vs V i v) n := by
  funext a j
  by_cases ha : hb i ≤ a ∧ a < hb i + 41
  · have e : hix a = some (i, a - hb i) := by
      have := hix_hb (i := i) (o := a - hb i) (by omega) (by omega)
      rwa [show hb i + (a - hb i) = a by omega] at this
    unfold putV memW
    rw [if_pos ha, e]
    show _ = if i < 9 + n then hallF (Vs V i v i) (a - hb i) j else 0
    rw [if_pos hi, Vs_at, if_pos rfl]
    rfl
  · unfold putV
    rw [if_neg ha]
    unfold memW
    cases hq : hix a with
    | none => rfl
    | some q =>
      obtain ⟨i', o⟩ := q
      obtain ⟨h1, h2, h3⟩ := hix_some hq
      have hne : i' ≠ i := fun z => ha (by rw [← z]; omega)
      show (if i' < 9 + n then hallF (V i') o j else 0) = if i' < 9 + n then hallF (Vs V i v i') o j else 0
      rw [Vs_at, if_neg hne]
theorem memW_self {i : Nat} (hi : i < 9 + n) (hn : n ≤ 2) : memW u p V n = putV (memW u p V n) (hb i) (V i) := by
  rw [memW_put hi hn, Vs_id]
theorem hix_m {o : Nat} (ho : o < 10) : hix (375 + o) = none := by
  unfold hix
  rw [if_neg (by omega), if_neg (by omega), if_neg (by omega)]
theorem memW_u {u' : Nat → Nat → Int32} : evGM (memW u p V n) 375 10 u' = memW u' p V n := by
  funext a j
  unfold evGM
  by_cases ha : 375 ≤ a ∧ a < 375 + 10
  · have e : hix a = none := by
      have := hix_m (o := a - 375) (by omega)
      rwa [show 375 + (a - 375) = a by omega] at this
    unfold memW
    rw [if_pos ha, e]
    show _ = if 375 ≤ a ∧ a < 385 then _ else _
    rw [if_pos (by omega)]
  · rw [if_neg ha]
    unfold memW
    cases hq : hix a with
    | some q => rfl
    | none =>
      show (if 375 ≤ a ∧ a < 385 then _ else _) = if 375 ≤ a ∧ a < 385 then _ else _
      have hb' : ¬ (375 ≤ a ∧ a < 385) := fun z => ha ⟨z.1, by omega⟩
      rw [if_neg hb', if_neg hb']
theorem memW_uself : memW u p V n = evGM (memW u p V n) 375 10 u := memW_u.symm
theorem memW_83 {j : Nat} : memW u p V n 83 j = p 0 j := id rfl
theorem memW_372 {j : Nat} : memW u p V n 372 j = p 1 j := id rfl
theorem memW_373 {j : Nat} : memW u p V n 373 j = p 2 j := id rfl
theorem memW_p {o b : Nat} (hb' : hix b = none) (hc : ¬ (375 ≤ b ∧ b < 385)) (hd : b = 83 ∧ o = 0 ∨ b = 372 ∧ o = 1 ∨ b = 373 ∧ o = 2) {j : Nat} {x : Int32} : evSetM (memW u p V n) b j x = memW u (ms p o j x) V n := by
  funext a i
  unfold evSetM
  by_cases ha : a = b
  · subst ha
    unfold memW
    rw [hb']
    show (if a = a ∧ i = j then x else (if 375 ≤ a ∧ a < 385 then _ else _)) = if 375 ≤ a ∧ a < 385 then _ else _
    rw [if_neg hc, if_neg hc]
    rcases hd with ⟨rfl, rfl⟩ | ⟨rfl, rfl⟩ | ⟨rfl, rfl⟩ <;> simp [ms_at]
  · rw [if_neg (fun z => ha z.1)]
    unfold memW
    cases hq : hix a with
    | some q => rfl
    | none =>
      show (if 375 ≤ a ∧ a < 385 then _ else _) = if 375 ≤ a ∧ a < 385 then _ else _
      by_cases h1 : 375 ≤ a ∧ a < 385
      · rw [if_pos h1, if_pos h1]
      · rw [if_neg h1, if_neg h1, ms_at, ms_at, ms_at, ms_at]
        by_cases h9 : 385 ≤ a
        · have x1 : ¬ a = 83 := by omega
          have x2 : ¬ a = 372 := by omega
          have x3 : ¬ a = 373 := by omega
          rw [if_neg x1, if_neg x2, if_neg x3, if_pos h9, if_neg x1, if_neg x2, if_neg x3, if_pos h9, if_neg (by omega)]
        · rw [if_neg h9, if_neg h9]
          rcases hd with ⟨rfl, rfl⟩ | ⟨rfl, rfl⟩ | ⟨rfl, rfl⟩ <;> simp [ha]
theorem memW_s83 {j : Nat} {x : Int32} : evSetM (memW u p V n) 83 j x = memW u (ms p 0 j x) V n := memW_p (by decide) (by decide) (by decide)
theorem memW_s372 {j : Nat} {x : Int32} : evSetM (memW u p V n) 372 j x = memW u (ms p 1 j x) V n := memW_p (by decide) (by decide) (by decide)
theorem memW_s373 {j : Nat} {x : Int32} : evSetM (memW u p V n) 373 j x = memW u (ms p 2 j x) V n := memW_p (by decide) (by decide) (by decide)
end MW
/-- the class's cells -/
def xOK (h : evH) (n : Nat) (s : Nat → Option Nat) : Prop := n ≤ 2 ∧ 385 ≤ evN h ∧ evAt h 0 7 ∧ evR h 0 0 = some 1 ∧ evR h 0 1 = some 42 ∧ evR h 0 2 = some 83 ∧ evR h 0 3 = some 372 ∧ evR h 0 4 = some 374 ∧ evAt h 83 3 ∧ evAt h 84 12 ∧ evLen h 84 = 7 ∧ evR h 83 0 = some 84 ∧ (∀ i, i < 7 → evR h 84 i = some (hb (2 + i))) ∧ evAt h 372 5 ∧ evR h 372 0 = some 373 ∧ evAt h 373 9 ∧ evLen h 373 = 80 ∧ evAt h 374 12 ∧ evLen h 374 = 2 ∧ (∀ k, k < 2 → evR h 374 k = (s k).map hb) ∧ (∀ k i, k < 2 → s k = some i → 9 ≤ i ∧ i < 9 + n) ∧ (∀ i, i < 9 + n → evHall h (hb i))
