/-! the relation of a hall's picture and a row of the model -/
def rNum (v : evVt) (r : Nat → Int32) (n q T lag : Nat) : Prop := n ≤ 6 ∧ q ≤ 8 ∧ lag ≤ 5 ∧ T < 2 ^ 20 ∧ (v 1 0 0 = nI n ∧ r 5 = nI n) ∧ (v 1 1 0 = nI q ∧ r 6 = nI q) ∧ (v 1 4 0 = nI T ∧ r 4 = nI T) ∧ r 0 = nI lag ∧ ∀ j, j < 4 → v 0 j 0 = r j
def rBidA (v : evVt) (r : Nat → Int32) (n : Nat) : Prop := (∀ i j, i < n → j < 8 → r (10 + 8 * i + j) = v 2 i (bp j)) ∧ ∀ i j, n ≤ i → i < 6 → j < 8 → v 2 i j = 0
def rLot1 (v : evVt) (r : Nat → Int32) (i : Nat) : Prop := r (58 + 7 * i + 0) = v 4 i 0 ∧ r (58 + 7 * i + 1) = v 4 i 1 ∧ r (58 + 7 * i + 4) = v 4 i 3 ∧ r (58 + 7 * i + 5) = v 5 i 1 ∧ r (58 + 7 * i + 6) = v 5 i 0 ∧ r (58 + 7 * i + 2) = (if v 4 i 1 = 2 then v 5 i 0 else -6) ∧ r (58 + 7 * i + 3) = (if v 4 i 1 = 2 then v 4 i 2 else -6)
def rNew (v : evVt) (i : Nat) : Prop := v 4 i 1 = 0 ∧ v 4 i 3 = 0 ∧ v 4 i 4 = 0 ∧ v 5 i 0 = -6 ∧ v 5 i 1 = 0 ∧ v 5 i 2 = 0
def rLot (v : evVt) (r : Nat → Int32) (q g : Nat) : Prop := g ≤ q ∧ (∀ i, i < q → rLot1 v r i) ∧ (∀ i, i < g → v 4 i 1 ≠ 0) ∧ ∀ i, g ≤ i → i < 8 → rNew v i
def rRun (v : evVt) (r : Nat → Int32) (l T n : Nat) (G : Nat → Nat → Int32) : Prop := rG G n ∧ rBest v r G (fun t _ => t < T) ∧ rOld r G T ∧ rRec r G T ∧ rEcho v G T ∧ rHigh v l G T ∧ r 8 = v 4 l 4
def rAct (v : evVt) (r : Nat → Int32) (g T n : Nat) : Prop := (v 1 3 0 = -6 ∧ r 7 = -6) ∨ ∃ l G, l + 1 = g ∧ v 1 3 0 = nI l ∧ r 7 = nI l ∧ v 4 l 1 = 1 ∧ rRun v r l T n G
def rHall (v : evVt) (r : Nat → Int32) (n q T lag g tot : Nat) : Prop := rNum v r n q T lag ∧ rBidA v r n ∧ rLot v r q g ∧ v 1 2 0 = nI g ∧ (rMade v r tot ∧ tot ≤ 6 * T) ∧ rAct v r g T n
theorem setAt_nI (v : evVt) {j : Nat} (hj : j < 4) : setAt v (nI j) = v 0 j 0 := by
  unfold setAt
  rw [if_pos ⟨nI_pos' (by omega), nI_lt (b := 4) hj (by decide)⟩, nI_cl _ (by omega)]
theorem tzU_at (u : Nat → Nat → Int32) (n : Nat) (j : Nat) : tzU u n 1 j = if 10 ≤ j ∧ j < 10 + 8 * n ∧ (j - 10) % 8 = 7 then 0 else u 1 j := by
  induction n with
  | zero =>
    have e : ¬ (10 ≤ j ∧ j < 10 + 8 * 0 ∧ (j - 10) % 8 = 7) := by omega
    rw [if_neg e]; rfl
  | succ n ih =>
    show ms (tzU u n) 1 (10 + 8 * n + 7) 0 1 j = _
    rw [ms_at]
    by_cases hj : j = 10 + 8 * n + 7
    · have e : 10 ≤ j ∧ j < 10 + 8 * (n + 1) ∧ (j - 10) % 8 = 7 := by omega
      rw [if_pos ⟨rfl, hj⟩, if_pos e]
    · rw [if_neg (fun z => hj z.2), ih]
      by_cases hc : 10 ≤ j ∧ j < 10 + 8 * n ∧ (j - 10) % 8 = 7
      · have e : 10 ≤ j ∧ j < 10 + 8 * (n + 1) ∧ (j - 10) % 8 = 7 := by omega
        rw [if_pos hc, if_pos e]
      · have e : ¬ (10 ≤ j ∧ j < 10 + 8 * (n + 1) ∧ (j - 10) % 8 = 7) := by omega
        rw [if_neg hc, if_neg e]
theorem tzU_o7 (u : Nat → Nat → Int32) (n : Nat) (j : Nat) : tzU u n 7 j = u 7 j := by
  induction n with
  | zero => rfl
  | succ n ih =>
    show ms (tzU u n) 1 (10 + 8 * n + 7) 0 7 j = _
    rw [ms_at, if_neg (by omega), ih]
theorem roA_7 (u : Nat → Nat → Int32) {lag n l k : Nat} (hk : k < n) : roA u lag n l 7 k = bidV (u 1) lag n l k := by
  unfold roA
  rw [tzU_o7]
  show bsU u lag n l n 7 k = _
  unfold bsU
  rw [if_pos ⟨rfl, hk⟩]
theorem roA_1 (u : Nat → Nat → Int32) {lag n l j : Nat} : roA u lag n l 1 j = if 10 ≤ j ∧ j < 10 + 8 * n ∧ (j - 10) % 8 = 7 then 0 else u 1 j := by
  unfold roA
  rw [tzU_at, setB_1, bsU_1]
theorem roA_1n (u : Nat → Nat → Int32) {lag n l j : Nat} (h : ¬ (10 ≤ j ∧ j < 58 ∧ (j - 10) % 8 = 7)) (hn : n ≤ 6) : roA u lag n l 1 j = u 1 j := by
  have e : ¬ (10 ≤ j ∧ j < 10 + 8 * n ∧ (j - 10) % 8 = 7) := by omega
  rw [roA_1, if_neg e]
/-- behind the model's round, place by place (w is the row behind the bids) -/
def roM (u : Nat → Nat → Int32) (lag n l : Nat) : Nat → Nat → Int32 := mbU (roA u lag n l 1 (58 + 7 * l + 5)) l (roA u lag n l) n
def roS (u : Nat → Nat → Int32) (lag n l : Nat) : Nat → Nat → Int32 := ms (roM u lag n l) 1 8 (if mbB (roA u lag n l) n = true then 0 else roM u lag n l 1 8 + 1)
theorem roE_eq (u : Nat → Nat → Int32) (lag n l j : Nat) : roE u lag n l 1 j = if j = 58 + 7 * l + 4 then grU (roS u lag n l) n 1 (58 + 7 * l + 4) + 1 else grU (roS u lag n l) n 1 j := by
  show ms _ 1 (58 + 7 * l + 4) _ 1 j = _
  rw [ms_at]
  simp only [true_and]
  rfl
theorem roS_at (u : Nat → Nat → Int32) (lag n l : Nat) {j : Nat} (hj : j ≠ 8) : roS u lag n l 1 j = roM u lag n l 1 j := by
  unfold roS
  rw [ms_at, if_neg (fun z => hj z.2)]
theorem gr_lo (u : Nat → Nat → Int32) {n j : Nat} (hj : j < 126) : grU u n 1 j = u 1 j := grU_lo u n hj
theorem gr_hi (u : Nat → Nat → Int32) {n j : Nat} (hn : n ≤ 6) (hj : 168 ≤ j) : grU u n 1 j = u 1 j := by
  have e1 : ¬ (138 ≤ j ∧ j < 144) := by omega
  have e2 : ¬ (143 < j ∧ j ≤ 167) := by omega
  rw [gr_at, if_neg e1, if_neg e2, grB_hi u hn (by omega)]
theorem roE_a (u : Nat → Nat → Int32) (lag : Nat) {n l j : Nat} (hn : n ≤ 6) (h : j < 126 ∨ 168 ≤ j) (h8 : j ≠ 8) (h4 : j ≠ 58 + 7 * l + 4) : roE u lag n l 1 j = roM u lag n l 1 j := by
  rw [roE_eq, if_neg h4]
  rcases h with h | h
  · rw [gr_lo _ h, roS_at _ _ _ _ h8]
  · rw [gr_hi _ hn h, roS_at _ _ _ _ h8]
theorem roE_8 (u : Nat → Nat → Int32) (lag n l : Nat) : roE u lag n l 1 8 = if mbB (roA u lag n l) n = true then 0 else roM u lag n l 1 8 + 1 := by
  have e : ¬ (8 = 58 + 7 * l + 4) := by omega
  rw [roE_eq, if_neg e, gr_lo _ (by omega)]
  unfold roS
  rw [ms_at, if_pos ⟨rfl, rfl⟩]
theorem roE_ran (u : Nat → Nat → Int32) (lag : Nat) {n l : Nat} (hl : l < 8) : roE u lag n l 1 (58 + 7 * l + 4) = roM u lag n l 1 (58 + 7 * l + 4) + 1 := by
  rw [roE_eq, if_pos rfl, gr_lo _ (by omega), roS_at _ _ _ _ (by omega)]
theorem roE_old (u : Nat → Nat → Int32) (lag : Nat) {n l i : Nat} (hl : l < 8) (hi : i < 6) : roE u lag n l 1 (126 + 2 * i) = (if i < n ∧ roM u lag n l 1 (126 + 2 * i) < roM u lag n l 1 (162 + i) then roM u lag n l 1 (162 + i) else roM u lag n l 1 (126 + 2 * i)) ∧ roE u lag n l 1 (126 + 2 * i + 1) = (if i < n ∧ roM u lag n l 1 (126 + 2 * i) < roM u lag n l 1 (162 + i) then roM u lag n l 1 4 - 5 else roM u lag n l 1 (126 + 2 * i + 1)) := by
  have a1 : ¬ (126 + 2 * i = 58 + 7 * l + 4) := by omega
  have a2 : ¬ (126 + 2 * i + 1 = 58 + 7 * l + 4) := by omega
  have b1 : ¬ (138 ≤ 126 + 2 * i ∧ 126 + 2 * i < 144) := by omega
  have b2 : ¬ (138 ≤ 126 + 2 * i + 1 ∧ 126 + 2 * i + 1 < 144) := by omega
  have c1 : ¬ (143 < 126 + 2 * i ∧ 126 + 2 * i ≤ 167) := by omega
  have c2 : ¬ (143 < 126 + 2 * i + 1 ∧ 126 + 2 * i + 1 ≤ 167) := by omega
  obtain ⟨g1, g2⟩ := grB_at (roS u lag n l) (n := n) hi
  rw [roE_eq, if_neg a1, roE_eq, if_neg a2, gr_at, if_neg b1, if_neg c1, gr_at, if_neg b2, if_neg c2, g1, g2, roS_at _ _ _ _ (by omega), roS_at _ _ _ _ (by omega), roS_at _ _ _ _ (by omega), roS_at _ _ _ _ (by omega)]
  exact ⟨rfl, rfl⟩
theorem roM_7 (u : Nat → Nat → Int32) {lag n l k : Nat} (hk : k < n) : roM u lag n l 7 k = bidV (u 1) lag n l k := by
  unfold roM
  rw [mbU_o _ _ _ _ _ (by decide), roA_7 u hk]
theorem roE_rec0 (u : Nat → Nat → Int32) (lag : Nat) {n l k : Nat} (hl : l < 8) (hk : k < 6) : roE u lag n l 1 (138 + k) = if k < n then bidV (u 1) lag n l k else 0 := by
  have a1 : ¬ (138 + k = 58 + 7 * l + 4) := by omega
  have b1 : 138 ≤ 138 + k ∧ 138 + k < 144 := by omega
  rw [roE_eq, if_neg a1, gr_at, if_pos b1, show 138 + k - 138 = k by omega]
  by_cases h : k < n
  · rw [if_pos h, if_pos h, ← roM_7 u h]
    rfl
  · rw [if_neg h, if_neg h]
theorem roE_rec (u : Nat → Nat → Int32) (lag : Nat) {n l j : Nat} (hn : n ≤ 6) (hl : l < 8) (h1 : 143 < j) (h2 : j ≤ 167) : roE u lag n l 1 j = roM u lag n l 1 (j - 6) := by
  have a1 : ¬ (j = 58 + 7 * l + 4) := by omega
  have b1 : ¬ (138 ≤ j ∧ j < 144) := by omega
  rw [roE_eq, if_neg a1, gr_at, if_neg b1, if_pos ⟨h1, h2⟩, grB_hi _ hn (by omega), roS_at _ _ _ _ (by omega)]
