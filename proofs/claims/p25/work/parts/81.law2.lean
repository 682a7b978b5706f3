/-! the law's rounds as functions on its five rows: w 0 numbers, w 1 bidders, w 2 lots, w 3 and w 4 the bids -/
def rowW (w : Nat → Nat → Int32) (j : Nat) : Int32 := if j < 10 then w 0 j else if j < 58 then w 1 (j - 10) else w 2 (j - 58)
theorem rowW_0 (w : Nat → Nat → Int32) {j : Nat} (hj : j < 10) : rowW w j = w 0 j := by
  unfold rowW
  rw [if_pos hj]
theorem rowW_1 (w : Nat → Nat → Int32) {j : Nat} (hj : j < 48) : rowW w (10 + j) = w 1 j := by
  unfold rowW
  rw [if_neg (by omega), if_pos (by omega), Nat.add_sub_cancel_left]
theorem rowW_2 (w : Nat → Nat → Int32) {j : Nat} : rowW w (58 + j) = w 2 j := by
  unfold rowW
  rw [if_neg (by omega), if_neg (by omega), Nat.add_sub_cancel_left]
/-- lot l begins -/
def bgL (w : Nat → Nat → Int32) (l : Nat) : Nat → Nat → Int32 := ms (ms (ms (ms w 2 (7 * l + 1) 1) 0 7 (nI l)) 0 8 0) 0 9 0
/-- the lowest lot that waits, of those from q - d on, begins -/
def bgF (w : Nat → Nat → Int32) (q : Nat) : Nat → Nat → Nat → Int32
  | 0 => w
  | d + 1 => if w 2 (7 * (q - (d + 1)) + 1) = 0 then bgL w (q - (d + 1)) else bgF w q d
theorem bgF_s (w : Nat → Nat → Int32) (q d : Nat) : bgF w q (d + 1) = if w 2 (7 * (q - (d + 1)) + 1) = 0 then bgL w (q - (d + 1)) else bgF w q d := rfl
def bgA (w : Nat → Nat → Int32) (q : Nat) : Nat → Nat → Int32 := if w 0 7 < 0 then bgF w q q else w
def wantI (r0 : Nat → Int32) (b v : Int32) : Int32 := if v = 0 then r0 1 else if v &&& 7 = b then 99999 else coi v + r0 1
def limW (w : Nat → Nat → Int32) (l b : Nat) : Int32 := if w 2 (7 * l) * w 1 (8 * b + 1) / 100 < w 1 (8 * b) then w 2 (7 * l) * w 1 (8 * b + 1) / 100 else w 1 (8 * b)
/-- what bidder b bids in lot l -/
def chI (w : Nat → Nat → Int32) (l len b : Nat) : Int32 := if 0 < w 1 (8 * b + 7) ∧ w 1 (8 * b + 7) ≤ w 1 (8 * b) then w 1 (8 * b + 7) else if wantI (w 0) (nI b) (blF (w 0) (w 3) (w 4) (nI b) len) ≤ limW w l b then wantI (w 0) (nI b) (blF (w 0) (w 3) (w 4) (nI b) len) else 0
def tzW (w : Nat → Nat → Int32) : Nat → Nat → Nat → Int32
  | 0 => w
  | k + 1 => ms (tzW w k) 1 (8 * k + 7) 0
theorem tzW_s (w : Nat → Nat → Int32) (k : Nat) : tzW w (k + 1) = ms (tzW w k) 1 (8 * k + 7) 0 := rfl
theorem tzW_o (w : Nat → Nat → Int32) (k : Nat) {o : Nat} (ho : o ≠ 1) : tzW w k o = w o := by
  induction k with
  | zero => rfl
  | succ k ih =>
    funext j
    rw [tzW_s, ms_at, if_neg (fun z => ho z.1), ih]
theorem tzW_1 (w : Nat → Nat → Int32) (k j : Nat) : tzW w k 1 j = if j < 8 * k ∧ j % 8 = 7 then 0 else w 1 j := by
  induction k with
  | zero => rw [if_neg (by omega)]; rfl
  | succ k ih =>
    rw [tzW_s, ms_at]
    by_cases hj : j = 8 * k + 7
    · rw [if_pos ⟨rfl, hj⟩, if_pos (by omega)]
    · rw [if_neg (fun z => hj z.2), ih]
      by_cases hc : j < 8 * k ∧ j % 8 = 7
      · rw [if_pos hc, if_pos (by omega)]
      · rw [if_neg hc, if_neg (by omega)]
theorem tzW_at (w : Nat → Nat → Int32) {k j : Nat} (hj : 8 * k ≤ j) : tzW w k 1 j = w 1 j := by
  rw [tzW_1, if_neg (by omega)]
/-- a bid as the law keeps it -/
def encI (x now b : Int32) : Int32 := (x <<< (17 &&& 31) ||| now <<< (3 &&& 31)) ||| b
/-- bidder k bids x -/
def ntA (w : Nat → Nat → Int32) (k : Nat) (s : Int32) : Nat → Nat → Int32 := ms (ms (ms w 0 8 0) 1 (8 * k + 5) (w 1 (8 * k + 5) + 1)) 1 (8 * k + 6) (w 1 (8 * k + 6) + s)
def ntB (w : Nat → Nat → Int32) (l k : Nat) (x : Int32) : Nat → Nat → Int32 := if w 2 (7 * l + 5) < x then ms (ms w 2 (7 * l + 5) x) 2 (7 * l + 6) (nI k) else w
def ntC (w : Nat → Nat → Int32) (len : Nat) (v : Int32) : Nat → Nat → Int32 := if len < 64 then ms (ms w 3 len v) 0 9 (nI (len + 1)) else if len < 128 then ms (ms w 4 (len - 64) v) 0 9 (nI (len + 1)) else ms w 0 10 1
def ntW (w : Nat → Nat → Int32) (l len k : Nat) (x H now : Int32) : Nat → Nat → Int32 := ntC (ntB (ntA w k (if x ≤ H then 1 else 0)) l k x) len (encI x now (nI k))
def lenW (w : Nat → Nat → Int32) : Nat := (w 0 9).toNatClampNeg
/-- the bids f of the first k bidders are taken -/
def noW (w : Nat → Nat → Int32) (l : Nat) (H now : Int32) (f : Nat → Int32) : Nat → Nat → Nat → Int32
  | 0 => w
  | k + 1 => if f k = 0 then noW w l H now f k else ntW (noW w l H now f k) l (lenW (noW w l H now f k)) k (f k) H now
theorem noW_s (w : Nat → Nat → Int32) (l : Nat) (H now : Int32) (f : Nat → Int32) (k : Nat) : noW w l H now f (k + 1) = if f k = 0 then noW w l H now f k else ntW (noW w l H now f k) l (lenW (noW w l H now f k)) k (f k) H now := rfl
def bidsW (w : Nat → Nat → Int32) (l n : Nat) : Nat → Int32 := fun j => if j < n then chI w l (lenW w) j else 0
/-- behind the bids -/
def roW1 (w : Nat → Nat → Int32) (l n : Nat) : Nat → Nat → Int32 := noW (ms (tzW w n) 0 8 (w 0 8 + 1)) l (w 2 (7 * l + 5)) (w 0 4) (bidsW w l n) n
def roW2 (w : Nat → Nat → Int32) (l n : Nat) : Nat → Nat → Int32 := ms (ms (roW1 w l n) 0 4 (roW1 w l n 0 4 + 1)) 2 (7 * l + 4) (roW1 w l n 2 (7 * l + 4) + 1)
def endsB (w : Nat → Nat → Int32) : Bool := decide (w 0 2 + w 0 0 ≤ w 0 8)
def scF (r3 r4 : Nat → Int32) (b : Int32) : Nat → Int32
  | 0 => 0
  | k + 1 => if ¬ bidE r3 r4 k &&& 7 = b ∧ scF r3 r4 b k < coi (bidE r3 r4 k) then coi (bidE r3 r4 k) else scF r3 r4 b k
theorem scF_s (r3 r4 : Nat → Int32) (b : Int32) (k : Nat) : scF r3 r4 b (k + 1) = if ¬ bidE r3 r4 k &&& 7 = b ∧ scF r3 r4 b k < coi (bidE r3 r4 k) then coi (bidE r3 r4 k) else scF r3 r4 b k := rfl
def prcW (w : Nat → Nat → Int32) (l : Nat) (s : Int32) : Int32 := if w 0 3 = 0 ∨ w 2 (7 * l + 5) < s + w 0 1 then w 2 (7 * l + 5) else s + w 0 1
/-- lot l is sold to b at x -/
def soldA (w : Nat → Nat → Int32) (l b : Nat) (x : Int32) : Nat → Nat → Int32 := ms (ms (ms w 2 (7 * l + 1) 2) 2 (7 * l + 2) (nI b)) 2 (7 * l + 3) x
def soldB (w : Nat → Nat → Int32) (l b : Nat) (x : Int32) : Nat → Nat → Int32 := ms (ms w 1 (8 * b) (w 1 (8 * b) - x)) 1 (8 * b + 2) (w 1 (8 * b + 2) ||| 1 <<< (nI l &&& 31))
def soldC (w : Nat → Nat → Int32) (l b : Nat) (x : Int32) : Nat → Nat → Int32 := ms (ms w 1 (8 * b + 3) (w 1 (8 * b + 3) + x)) 1 (8 * b + 4) (w 1 (8 * b + 4) + w 2 (7 * l))
def endW (w : Nat → Nat → Int32) (l : Nat) : Nat → Nat → Int32 := if w 2 (7 * l + 5) = 0 then ms (ms w 0 7 (-6)) 2 (7 * l + 1) 3 else
  soldC (soldB (soldA (ms w 0 7 (-6)) l (w 2 (7 * l + 6)).toNatClampNeg (prcW w l (scF (w 3) (w 4) (w 2 (7 * l + 6)) (lenW w)))) l (w 2 (7 * l + 6)).toNatClampNeg (prcW w l (scF (w 3) (w 4) (w 2 (7 * l + 6)) (lenW w)))) l (w 2 (7 * l + 6)).toNatClampNeg (prcW w l (scF (w 3) (w 4) (w 2 (7 * l + 6)) (lenW w)))
def ronW (w : Nat → Nat → Int32) (l n : Nat) : Nat → Nat → Int32 := if endsB (roW2 w l n) = true then endW (roW2 w l n) l else roW2 w l n
/-- a round -/
def rnW (w : Nat → Nat → Int32) (n q : Nat) : Nat → Nat → Int32 := if bgA w q 0 7 < 0 then ms (bgA w q) 0 4 (bgA w q 0 4 + 1) else ronW (bgA w q) (bgA w q 0 7).toNatClampNeg n
def rnB (w : Nat → Nat → Int32) (n q : Nat) : Bool := if bgA w q 0 7 < 0 then false else endsB (roW2 (bgA w q) (bgA w q 0 7).toNatClampNeg n)
/-- what the law's rows keep to, whatever happens -/
def lI (w : Nat → Nat → Int32) (n q : Nat) : Prop := 1 ≤ n ∧ n ≤ 3 ∧ q ≤ 8 ∧ w 0 5 = nI n ∧ w 0 6 = nI q ∧ (w 0 7 = -6 ∨ ∃ l, l < q ∧ w 0 7 = nI l) ∧ (∃ len, len ≤ 128 ∧ w 0 9 = nI len) ∧ ∀ l, l < 8 → w 2 (7 * l + 5) = 0 ∨ ∃ b, b < n ∧ w 2 (7 * l + 6) = nI b
theorem lenW_nI {w : Nat → Nat → Int32} {len : Nat} (hl : len ≤ 128) (h9 : w 0 9 = nI len) : lenW w = len := by
  unfold lenW
  rw [h9, nI_cl _ (by omega)]
section LI
variable {w : Nat → Nat → Int32} {n q l len k : Nat} {x H now v s : Int32}
theorem ntA_o {o j : Nat} (h0 : ¬ (o = 0 ∧ j = 8)) (h1 : o ≠ 1) : ntA w k s o j = w o j := by
  unfold ntA
  rw [ms_at, if_neg (fun z => h1 z.1), ms_at, if_neg (fun z => h1 z.1), ms_at, if_neg h0]
theorem ntA_1 {j : Nat} : ntA w k s 1 j = if j = 8 * k + 6 then w 1 (8 * k + 6) + s else if j = 8 * k + 5 then w 1 (8 * k + 5) + 1 else w 1 j := by
  unfold ntA
  rw [ms_at, ms_at, ms_at, if_neg (show ¬ (1 = 0 ∧ j = 8) by omega)]
  simp only [true_and]
theorem ntB_o {o j : Nat} (h2 : o ≠ 2) : ntB w l k x o j = w o j := by
  unfold ntB
  split
  · rw [ms_at, if_neg (fun z => h2 z.1), ms_at, if_neg (fun z => h2 z.1)]
  · rfl
theorem ntB_2 {j : Nat} : ntB w l k x 2 j = if j = 7 * l + 6 then (if w 2 (7 * l + 5) < x then nI k else w 2 j) else if j = 7 * l + 5 then (if w 2 (7 * l + 5) < x then x else w 2 j) else w 2 j := by
  unfold ntB
  split
  · rw [ms_at, ms_at]
    simp only [true_and]
  · simp only [ite_self]
theorem ntC_o {o j : Nat} (h0 : ¬ (o = 0 ∧ (j = 9 ∨ j = 10))) (h3 : o ≠ 3) (h4 : o ≠ 4) : ntC w len v o j = w o j := by
  unfold ntC
  split
  · rw [ms_at, if_neg (by omega), ms_at, if_neg (by omega)]
  · split
    · rw [ms_at, if_neg (by omega), ms_at, if_neg (by omega)]
    · rw [ms_at, if_neg (by omega)]
theorem ntC_9 (h9 : w 0 9 = nI len) (hl : len ≤ 128) : ntC w len v 0 9 = nI (if len < 128 then len + 1 else 128) := by
  unfold ntC
  by_cases h1 : len < 64
  · rw [if_pos h1, if_pos (by omega), ms_at, if_pos ⟨rfl, rfl⟩]
  · by_cases h2 : len < 128
    · rw [if_neg h1, if_pos h2, if_pos h2, ms_at, if_pos ⟨rfl, rfl⟩]
    · rw [if_neg h1, if_neg h2, if_neg h2, ms_at, if_neg (by omega), h9, show len = 128 by omega]
theorem ntC_10 : ntC w len v 0 10 = if len < 128 then w 0 10 else 1 := by
  unfold ntC
  by_cases h1 : len < 64
  · rw [if_pos h1, if_pos (by omega), ms_at, if_neg (by omega), ms_at, if_neg (by omega)]
  · by_cases h2 : len < 128
    · rw [if_neg h1, if_pos h2, if_pos h2, ms_at, if_neg (by omega), ms_at, if_neg (by omega)]
    · rw [if_neg h1, if_neg h2, if_neg h2, ms_at, if_pos ⟨rfl, rfl⟩]
theorem ntW_9 (hl : len ≤ 128) (h9 : w 0 9 = nI len) : ntW w l len k x H now 0 9 = nI (if len < 128 then len + 1 else 128) := by
  unfold ntW
  exact ntC_9 (by rw [ntB_o (by omega), ntA_o (by omega) (by omega)]; exact h9) hl
theorem noW_9 (f : Nat → Int32) (hl : len ≤ 128) (h9 : w 0 9 = nI len) (k : Nat) : ∃ len', len' ≤ 128 ∧ noW w l H now f k 0 9 = nI len' := by
  induction k with
  | zero => exact ⟨len, hl, h9⟩
  | succ k ih =>
    obtain ⟨t, ht, h⟩ := ih
    rw [noW_s]
    split
    · exact ⟨t, ht, h⟩
    · refine ⟨_, ?_, ntW_9 (by rw [lenW_nI ht h]; exact ht) (by rw [lenW_nI ht h]; exact h)⟩
      split <;> omega
theorem ntW_o {o j : Nat} (h0 : ¬ (o = 0 ∧ (j = 8 ∨ j = 9 ∨ j = 10))) (h1 : o ≠ 1) (h2 : o ≠ 2) (h3 : o ≠ 3) (h4 : o ≠ 4) : ntW w l len k x H now o j = w o j := by
  unfold ntW
  rw [ntC_o (by omega) h3 h4, ntB_o h2, ntA_o (by omega) h1]
theorem ntW_1 {j : Nat} : ntW w l len k x H now 1 j = if j = 8 * k + 6 then w 1 (8 * k + 6) + (if x ≤ H then 1 else 0) else if j = 8 * k + 5 then w 1 (8 * k + 5) + 1 else w 1 j := by
  unfold ntW
  rw [ntC_o (by omega) (by omega) (by omega), ntB_o (by omega), ntA_1]
theorem ntW_2 {j : Nat} : ntW w l len k x H now 2 j = if j = 7 * l + 6 then (if w 2 (7 * l + 5) < x then nI k else w 2 j) else if j = 7 * l + 5 then (if w 2 (7 * l + 5) < x then x else w 2 j) else w 2 j := by
  unfold ntW
  rw [ntC_o (by omega) (by omega) (by omega), ntB_2]
  have e : ∀ i, ntA w k (if x ≤ H then 1 else 0) 2 i = w 2 i := fun i => ntA_o (by omega) (by omega)
  simp only [e]
theorem ntW_8 : ntW w l len k x H now 0 8 = 0 := by
  unfold ntW
  rw [ntC_o (by omega) (by omega) (by omega), ntB_o (by omega)]
  unfold ntA
  rw [ms_at, if_neg (by omega), ms_at, if_neg (by omega), ms_at, if_pos ⟨rfl, rfl⟩]
theorem noW_o (f : Nat → Int32) (k : Nat) {o j : Nat} (h0 : ¬ (o = 0 ∧ (j = 8 ∨ j = 9 ∨ j = 10))) (h1 : o ≠ 1) (h2 : o ≠ 2) (h3 : o ≠ 3) (h4 : o ≠ 4) : noW w l H now f k o j = w o j := by
  induction k with
  | zero => rfl
  | succ k ih =>
    rw [noW_s]
    split
    · exact ih
    · rw [ntW_o h0 h1 h2 h3 h4, ih]
theorem noW_2o (f : Nat → Int32) (k : Nat) {j : Nat} (h5 : j ≠ 7 * l + 5) (h6 : j ≠ 7 * l + 6) : noW w l H now f k 2 j = w 2 j := by
  induction k with
  | zero => rfl
  | succ k ih =>
    rw [noW_s]
    split
    · exact ih
    · rw [ntW_2, if_neg h6, if_neg h5, ih]
theorem noW_1o (f : Nat → Int32) (k : Nat) {j : Nat} (h5 : j % 8 ≠ 5) (h6 : j % 8 ≠ 6) : noW w l H now f k 1 j = w 1 j := by
  induction k with
  | zero => rfl
  | succ k ih =>
    rw [noW_s]
    split
    · exact ih
    · rw [ntW_1, if_neg (by omega), if_neg (by omega), ih]
theorem noW_w (f : Nat → Int32) (hk : k ≤ n) (h : w 2 (7 * l + 5) = 0 ∨ ∃ b, b < n ∧ w 2 (7 * l + 6) = nI b) : noW w l H now f k 2 (7 * l + 5) = 0 ∨ ∃ b, b < n ∧ noW w l H now f k 2 (7 * l + 6) = nI b := by
  induction k with
  | zero => exact h
  | succ k ih =>
    rw [noW_s]
    split
    · exact ih (by omega)
    · rw [ntW_2, ntW_2, if_neg (show ¬ 7 * l + 5 = 7 * l + 6 by omega), if_pos rfl, if_pos rfl]
      split
      · exact Or.inr ⟨k, by omega, rfl⟩
      · exact ih (by omega)
theorem bgF_or (w : Nat → Nat → Int32) (q d : Nat) (hd : d ≤ q) : bgF w q d = w ∨ ∃ l, l < q ∧ w 2 (7 * l + 1) = 0 ∧ bgF w q d = bgL w l := by
  induction d with
  | zero => exact Or.inl rfl
  | succ d ih =>
    rw [bgF_s]
    split
    · rename_i h
      exact Or.inr ⟨q - (d + 1), by omega, h, rfl⟩
    · exact ih (by omega)
theorem bgL_0 {j : Nat} : bgL w l 0 j = if j = 9 then 0 else if j = 8 then 0 else if j = 7 then nI l else w 0 j := by
  unfold bgL
  rw [ms_at, ms_at, ms_at, ms_at, if_neg (show ¬ (0 = 2 ∧ j = 7 * l + 1) by omega)]
  simp only [true_and]
theorem bgL_2 {j : Nat} : bgL w l 2 j = if j = 7 * l + 1 then 1 else w 2 j := by
  unfold bgL
  rw [ms_at, if_neg (by omega), ms_at, if_neg (by omega), ms_at, if_neg (by omega), ms_at]
  simp only [true_and]
theorem bgL_o {o j : Nat} (h0 : o ≠ 0) (h2 : o ≠ 2) : bgL w l o j = w o j := by
  unfold bgL
  rw [ms_at, if_neg (by omega), ms_at, if_neg (by omega), ms_at, if_neg (by omega), ms_at, if_neg (by omega)]
theorem lI_bg (I : lI w n q) : lI (bgA w q) n q := by
  unfold bgA
  split
  · rcases bgF_or w q q (Nat.le_refl q) with e | ⟨l, hl, -, e⟩
    · rw [e]; exact I
    · rw [e]
      obtain ⟨i1, i2, i3, i4, i5, i6, i7, i8⟩ := I
      refine ⟨i1, i2, i3, by rw [bgL_0, if_neg (by omega), if_neg (by omega), if_neg (by omega)]; exact i4, by rw [bgL_0, if_neg (by omega), if_neg (by omega), if_neg (by omega)]; exact i5, Or.inr ⟨l, by omega, by rw [bgL_0, if_neg (by omega), if_neg (by omega), if_pos rfl]⟩, ⟨0, by omega, by rw [bgL_0, if_pos rfl]; rfl⟩, fun l' hl' => ?_⟩
      rw [bgL_2, bgL_2, if_neg (by omega), if_neg (by omega)]
      exact i8 l' hl'
  · exact I
theorem roW1_0 {j : Nat} (hj : j < 8) : roW1 w l n 0 j = w 0 j := by
  unfold roW1
  rw [noW_o _ _ (by omega) (by omega) (by omega) (by omega) (by omega), ms_at, if_neg (by omega), tzW_o w n (by omega)]
theorem lI_ro (I : lI w n q) (hl : l < 8) : (∃ len', len' ≤ 128 ∧ roW1 w l n 0 9 = nI len') ∧ ∀ l', l' < 8 → roW1 w l n 2 (7 * l' + 5) = 0 ∨ ∃ b, b < n ∧ roW1 w l n 2 (7 * l' + 6) = nI b := by
  obtain ⟨i1, i2, i3, i4, i5, i6, ⟨len, hlen, i7⟩, i8⟩ := I
  refine ⟨noW_9 _ hlen (by rw [ms_at, if_neg (by omega), tzW_o w n (by omega)]; exact i7) n, fun l' hl' => ?_⟩
  unfold roW1
  have e2 : ∀ j, ms (tzW w n) 0 8 (w 0 8 + 1) 2 j = w 2 j := fun j => by rw [ms_at, if_neg (by omega), tzW_o w n (by omega)]
  by_cases h : l' = l
  · subst h
    exact noW_w _ (Nat.le_refl n) (by rw [e2, e2]; exact i8 l' hl')
  · rw [noW_2o _ _ (by omega) (by omega), noW_2o _ _ (by omega) (by omega), e2, e2]
    exact i8 l' hl'
theorem endW_0 {j : Nat} : endW w l 0 j = if j = 7 then -6 else w 0 j := by
  unfold endW
  split
  · rw [ms_at, if_neg (by omega), ms_at]
    simp only [true_and]
  · unfold soldC soldB soldA
    rw [ms_at, if_neg (by omega), ms_at, if_neg (by omega), ms_at, if_neg (by omega), ms_at, if_neg (by omega), ms_at, if_neg (by omega), ms_at, if_neg (by omega), ms_at, if_neg (by omega), ms_at]
    simp only [true_and]
theorem endW_2 {j : Nat} (h1 : j ≠ 7 * l + 1) (h2 : j ≠ 7 * l + 2) (h3 : j ≠ 7 * l + 3) : endW w l 2 j = w 2 j := by
  unfold endW
  split
  · rw [ms_at, if_neg (by omega), ms_at, if_neg (by omega)]
  · unfold soldC soldB soldA
    rw [ms_at, if_neg (by omega), ms_at, if_neg (by omega), ms_at, if_neg (by omega), ms_at, if_neg (by omega), ms_at, if_neg (by omega), ms_at, if_neg (by omega), ms_at, if_neg (by omega), ms_at, if_neg (by omega)]
theorem lI_ron (I : lI w n q) (hl : l < q) (h7 : w 0 7 = nI l) : lI (ronW w l n) n q := by
  obtain ⟨j1, j2⟩ := lI_ro I (Nat.lt_of_lt_of_le hl I.2.2.1)
  obtain ⟨i1, i2, i3, i4, i5, i6, i7, i8⟩ := I
  have e0 : ∀ j, j ≠ 4 → roW2 w l n 0 j = roW1 w l n 0 j := fun j hj => by
    unfold roW2
    rw [ms_at, if_neg (by omega), ms_at, if_neg (by omega)]
  have e2 : ∀ j, j ≠ 7 * l + 4 → roW2 w l n 2 j = roW1 w l n 2 j := fun j hj => by
    unfold roW2
    rw [ms_at, if_neg (by omega), ms_at, if_neg (by omega)]
  unfold ronW
  split
  · refine ⟨i1, i2, i3, by rw [endW_0, if_neg (by omega), e0 _ (by omega), roW1_0 (by omega)]; exact i4, by rw [endW_0, if_neg (by omega), e0 _ (by omega), roW1_0 (by omega)]; exact i5, Or.inl (by rw [endW_0, if_pos rfl]), ?_, fun l' hl' => ?_⟩
    · rw [endW_0, if_neg (by omega), e0 _ (by omega)]; exact j1
    · rw [endW_2 (by omega) (by omega) (by omega), endW_2 (by omega) (by omega) (by omega), e2 _ (by omega), e2 _ (by omega)]
      exact j2 l' hl'
  · refine ⟨i1, i2, i3, by rw [e0 _ (by omega), roW1_0 (by omega)]; exact i4, by rw [e0 _ (by omega), roW1_0 (by omega)]; exact i5, Or.inr ⟨l, hl, by rw [e0 _ (by omega), roW1_0 (by omega)]; exact h7⟩, ?_, fun l' hl' => ?_⟩
    · rw [e0 _ (by omega)]; exact j1
    · rw [e2 _ (by omega), e2 _ (by omega)]
      exact j2 l' hl'
theorem lI_rn (I : lI w n q) : lI (rnW w n q) n q := by
  have A := lI_bg I
  unfold rnW
  generalize bgA w q = a at A
  split
  · obtain ⟨i1, i2, i3, i4, i5, i6, i7, i8⟩ := A
    refine ⟨i1, i2, i3, by rw [ms_at, if_neg (by omega)]; exact i4, by rw [ms_at, if_neg (by omega)]; exact i5, by rw [ms_at, if_neg (by omega)]; exact i6, by rw [ms_at, if_neg (by omega)]; exact i7, fun l' hl' => ?_⟩
    rw [ms_at, if_neg (by omega), ms_at, if_neg (by omega)]
    exact i8 l' hl'
  · rename_i h
    rcases A.2.2.2.2.2.1 with e | ⟨l, hl, e⟩
    · rw [e] at h
      exact absurd (by decide) h
    · rw [e, nI_cl _ (by have := A.2.2.1; omega)]
      exact lI_ron A hl e
end LI
