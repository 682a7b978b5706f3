/-! both bid the same; what a bid changes, place by place -/
theorem lim_eq (x y : Int32) : (if x < y then x else y) = imin x y := by
  unfold imin
  by_cases h : x < y
  · rw [if_pos h, if_neg (fun z => Int32.lt_irrefl (Int32.lt_trans h z))]
  · rw [if_neg h]
    by_cases h2 : y < x
    · rw [if_pos h2]
    · rw [if_neg h2]
      exact Int32.le_antisymm (Int32.not_lt.mp h) (Int32.not_lt.mp h2)
theorem bid_eq {v : evVt} {r : Nat → Int32} {lag n l b : Nat} (hA : allT r lag b n = (blP v b 1, blP v b 2, blP v b 0)) (s1 : setAt v 1 = r 1) (b7 : r (10 + 8 * b + 7) = v 2 b 2) (b0 : r (10 + 8 * b + 0) = v 2 b 0) (b1 : r (10 + 8 * b + 1) = v 2 b 1) (l0 : r (58 + 7 * l + 0) = v 4 l 0) : bidV r lag n l b = bidC l b v := by
  unfold bidV bidC chB toldB limT
  rw [hA, s1, b7, b0, b1, l0, lim_eq]
  have t1 : (decide (0 < v 2 b 2) && decide (v 2 b 2 ≤ v 2 b 0)) = true ↔ (0 < v 2 b 2 ∧ v 2 b 2 ≤ v 2 b 0) := by simp
  dsimp only
  by_cases ht : 0 < v 2 b 2 ∧ v 2 b 2 ≤ v 2 b 0
  · rw [if_pos (t1.mpr ht), if_pos ht]
  · rw [if_neg (fun z => ht (t1.mp z)), if_neg ht]
    by_cases h3 : blP v b 0 = nI b
    · have h3' : ¬ (¬ blP v b 0 = nI b ∧ blP v b 1 + r 1 ≤ imin (v 4 l 0 * v 2 b 1 / 100) (v 2 b 0)) := fun z => z.1 h3
      rw [if_neg h3', if_pos h3]
    · by_cases h4 : blP v b 1 + r 1 ≤ imin (v 4 l 0 * v 2 b 1 / 100) (v 2 b 0)
      · rw [if_pos (And.intro h3 h4), if_neg h3, if_pos h4]
      · have h4' : ¬ (¬ blP v b 0 = nI b ∧ blP v b 1 + r 1 ≤ imin (v 4 l 0 * v 2 b 1 / 100) (v 2 b 0)) := fun z => h4 z.2
        rw [if_neg h4', if_neg h3, if_neg h4]
section AT
variable (u : Nat → Nat → Int32)
theorem hi_at (l k : Nat) (x : Int32) (j : Nat) : hiU u l k x 1 j = if j = 58 + 7 * l + 6 then (if u 1 (58 + 7 * l + 5) < x then nI k else u 1 j) else if j = 58 + 7 * l + 5 then (if u 1 (58 + 7 * l + 5) < x then x else u 1 j) else u 1 j := by
  unfold hiU
  split
  · rw [ms_at, ms_at]
    simp only [true_and]
  · rw [ite_self, ite_self]
theorem kb_at (w k : Nat) (x z : Int32) (j : Nat) : kbU u w k x z 1 j = if j = w + 2 * k + 1 then (if u 1 (w + 2 * k) < x then z else u 1 j) else if j = w + 2 * k then (if u 1 (w + 2 * k) < x then x else u 1 j) else u 1 j := by
  unfold kbU
  split
  · rw [ms_at, ms_at]
    simp only [true_and]
  · rw [ite_self, ite_self]
theorem km_at (b x s : Int32) (j : Nat) : kmU u b x s 1 j = if j = 9 then u 1 9 + (if u 1 9 < 40 then 1 else 0) else if j = 171 then (if s = 0 then 0 else 1) else if j = 170 then u 1 4 else if j = 169 then x else if j = 168 then b else if 171 < j ∧ j ≤ 327 then u 1 (j - 4) else u 1 j := by
  unfold kmU kmV
  rw [ms_at, ms_at, ms_at, ms_at, ms_at]
  simp only [true_and, Nat.reduceAdd]
theorem a_at (k : Nat) (s : Int32) (j : Nat) : a2U (a1U u k) k s 1 j = if j = 10 + 8 * k + 6 then u 1 j + s else if j = 10 + 8 * k + 5 then u 1 j + 1 else u 1 j := by
  unfold a2U a1U
  rw [ms_at, ms_at, ms_at]
  simp only [true_and]
  by_cases h : j = 10 + 8 * k + 6
  · rw [if_pos h, if_pos h, if_neg (by omega), h]
  · rw [if_neg h, if_neg h]
    by_cases h2 : j = 10 + 8 * k + 5
    · rw [if_pos h2, if_pos h2, h2]
    · rw [if_neg h2, if_neg h2]
variable {l k : Nat} (x s : Int32)
theorem nb_o (hk : k < 6) (hl : l < 8) {j : Nat} (h9 : j ≠ 9) (h1 : j ≠ 10 + 8 * k + 5) (h2 : j ≠ 10 + 8 * k + 6) (h3 : j ≠ 58 + 7 * l + 5) (h4 : j ≠ 58 + 7 * l + 6) (h5 : j ≠ 114 + 2 * k) (h6 : j ≠ 114 + 2 * k + 1) (h7 : j < 168) : nbU u l k x s 1 j = u 1 j := by
  unfold nbU
  have e : kmU (kbU (a2U (a1U u k) k s) 114 k x (a2U (a1U u k) k s 1 4)) (nI k) x s 1 j = u 1 j := by
    rw [km_at, if_neg h9, if_neg (by omega), if_neg (by omega), if_neg (by omega), if_neg (by omega), if_neg (by omega), kb_at]
    have e2 : a2U (a1U u k) k s 1 j = u 1 j := by rw [a_at, if_neg h2, if_neg h1]
    rw [if_neg h6, if_neg h5, e2]
  rw [hi_at, if_neg h4, if_neg h3, e]
theorem nb_5 (hk : k < 6) (hl : l < 8) : nbU u l k x s 1 (10 + 8 * k + 5) = u 1 (10 + 8 * k + 5) + 1 := by
  unfold nbU
  have e : kmU (kbU (a2U (a1U u k) k s) 114 k x (a2U (a1U u k) k s 1 4)) (nI k) x s 1 (10 + 8 * k + 5) = u 1 (10 + 8 * k + 5) + 1 := by
    rw [km_at, if_neg (by omega), if_neg (by omega), if_neg (by omega), if_neg (by omega), if_neg (by omega), if_neg (by omega), kb_at, if_neg (by omega), if_neg (by omega)]
    have e2 : a2U (a1U u k) k s 1 (10 + 8 * k + 5) = u 1 (10 + 8 * k + 5) + 1 := by rw [a_at, if_neg (by omega), if_pos rfl]
    rw [e2]
  rw [hi_at, if_neg (by omega), if_neg (by omega), e]
theorem nb_6 (hk : k < 6) (hl : l < 8) : nbU u l k x s 1 (10 + 8 * k + 6) = u 1 (10 + 8 * k + 6) + s := by
  unfold nbU
  have e : kmU (kbU (a2U (a1U u k) k s) 114 k x (a2U (a1U u k) k s 1 4)) (nI k) x s 1 (10 + 8 * k + 6) = u 1 (10 + 8 * k + 6) + s := by
    rw [km_at, if_neg (by omega), if_neg (by omega), if_neg (by omega), if_neg (by omega), if_neg (by omega), if_neg (by omega), kb_at, if_neg (by omega), if_neg (by omega)]
    have e2 : a2U (a1U u k) k s 1 (10 + 8 * k + 6) = u 1 (10 + 8 * k + 6) + s := by rw [a_at, if_pos rfl]
    rw [e2]
  rw [hi_at, if_neg (by omega), if_neg (by omega), e]
theorem nb_b (hk : k < 6) (hl : l < 8) : nbU u l k x s 1 (114 + 2 * k) = (if u 1 (114 + 2 * k) < x then x else u 1 (114 + 2 * k)) ∧ nbU u l k x s 1 (114 + 2 * k + 1) = (if u 1 (114 + 2 * k) < x then u 1 4 else u 1 (114 + 2 * k + 1)) := by
  unfold nbU
  have a0 : a2U (a1U u k) k s 1 (114 + 2 * k) = u 1 (114 + 2 * k) := by rw [a_at, if_neg (by omega), if_neg (by omega)]
  have a1 : a2U (a1U u k) k s 1 (114 + 2 * k + 1) = u 1 (114 + 2 * k + 1) := by rw [a_at, if_neg (by omega), if_neg (by omega)]
  have a4 : a2U (a1U u k) k s 1 4 = u 1 4 := by rw [a_at, if_neg (by omega), if_neg (by omega)]
  constructor
  · have e : kmU (kbU (a2U (a1U u k) k s) 114 k x (a2U (a1U u k) k s 1 4)) (nI k) x s 1 (114 + 2 * k) = (if u 1 (114 + 2 * k) < x then x else u 1 (114 + 2 * k)) := by
      rw [km_at, if_neg (by omega), if_neg (by omega), if_neg (by omega), if_neg (by omega), if_neg (by omega), if_neg (by omega), kb_at, if_neg (by omega), if_pos rfl, a0]
    rw [hi_at, if_neg (by omega), if_neg (by omega), e]
  · have e : kmU (kbU (a2U (a1U u k) k s) 114 k x (a2U (a1U u k) k s 1 4)) (nI k) x s 1 (114 + 2 * k + 1) = (if u 1 (114 + 2 * k) < x then u 1 4 else u 1 (114 + 2 * k + 1)) := by
      rw [km_at, if_neg (by omega), if_neg (by omega), if_neg (by omega), if_neg (by omega), if_neg (by omega), if_neg (by omega), kb_at, if_pos rfl, a0, a1, a4]
    rw [hi_at, if_neg (by omega), if_neg (by omega), e]
theorem nb_h (hk : k < 6) (hl : l < 8) : nbU u l k x s 1 (58 + 7 * l + 5) = (if u 1 (58 + 7 * l + 5) < x then x else u 1 (58 + 7 * l + 5)) ∧ nbU u l k x s 1 (58 + 7 * l + 6) = (if u 1 (58 + 7 * l + 5) < x then nI k else u 1 (58 + 7 * l + 6)) := by
  unfold nbU
  have e : ∀ j, 58 ≤ j → j < 114 → kmU (kbU (a2U (a1U u k) k s) 114 k x (a2U (a1U u k) k s 1 4)) (nI k) x s 1 j = u 1 j := fun j h1 h2 => by
    have a0 : a2U (a1U u k) k s 1 j = u 1 j := by rw [a_at, if_neg (by omega), if_neg (by omega)]
    rw [km_at, if_neg (by omega), if_neg (by omega), if_neg (by omega), if_neg (by omega), if_neg (by omega), if_neg (by omega), kb_at, if_neg (by omega), if_neg (by omega), a0]
  constructor
  · rw [hi_at, if_neg (by omega), if_pos rfl, e _ (by omega) (by omega)]
  · rw [hi_at, if_pos rfl, e _ (by omega) (by omega), e _ (by omega) (by omega)]
theorem nb_m (hk : k < 6) (hl : l < 8) : nbU u l k x s 1 9 = u 1 9 + (if u 1 9 < 40 then 1 else 0) ∧ nbU u l k x s 1 168 = nI k ∧ nbU u l k x s 1 169 = x ∧ nbU u l k x s 1 170 = u 1 4 ∧ nbU u l k x s 1 171 = (if s = 0 then 0 else 1) ∧ ∀ j, 171 < j → j ≤ 327 → nbU u l k x s 1 j = u 1 (j - 4) := by
  unfold nbU
  have a0 : ∀ j, j < 10 ∨ 168 ≤ j → kbU (a2U (a1U u k) k s) 114 k x (a2U (a1U u k) k s 1 4) 1 j = u 1 j := fun j hj => by
    rw [kb_at, if_neg (by omega), if_neg (by omega), a_at, if_neg (by omega), if_neg (by omega)]
  refine ⟨?_, ?_, ?_, ?_, ?_, ?_⟩
  · rw [hi_at, if_neg (by omega), if_neg (by omega), km_at, if_pos rfl, a0 _ (by omega)]
  · rw [hi_at, if_neg (by omega), if_neg (by omega), km_at, if_neg (by omega), if_neg (by omega), if_neg (by omega), if_neg (by omega), if_pos rfl]
  · rw [hi_at, if_neg (by omega), if_neg (by omega), km_at, if_neg (by omega), if_neg (by omega), if_neg (by omega), if_pos rfl]
  · rw [hi_at, if_neg (by omega), if_neg (by omega), km_at, if_neg (by omega), if_neg (by omega), if_pos rfl, a0 _ (by omega)]
  · rw [hi_at, if_neg (by omega), if_neg (by omega), km_at, if_neg (by omega), if_pos rfl]
  · intro j h1 h2
    rw [hi_at, if_neg (by omega), if_neg (by omega), km_at, if_neg (by omega), if_neg (by omega), if_neg (by omega), if_neg (by omega), if_neg (by omega), if_pos ⟨h1, h2⟩]
    exact a0 _ (by omega)
end AT
