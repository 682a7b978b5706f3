/-! the model: the bids of a round -/
def a1U (u : Nat → Nat → Int32) (k : Nat) : Nat → Nat → Int32 := ms u 1 (10 + 8 * k + 5) (u 1 (10 + 8 * k + 5) + 1)
def a2U (u : Nat → Nat → Int32) (k : Nat) (s : Int32) : Nat → Nat → Int32 := ms u 1 (10 + 8 * k + 6) (u 1 (10 + 8 * k + 6) + s)
def hiU (u : Nat → Nat → Int32) (l k : Nat) (x : Int32) : Nat → Nat → Int32 := if u 1 (58 + 7 * l + 5) < x then ms (ms u 1 (58 + 7 * l + 5) x) 1 (58 + 7 * l + 6) (nI k) else u
def shB (x H : Int32) : Int32 := if x ≤ H then 1 else 0
def nbU (u : Nat → Nat → Int32) (l k : Nat) (x s : Int32) : Nat → Nat → Int32 := hiU (kmU (kbU (a2U (a1U u k) k s) 114 k x (a2U (a1U u k) k s 1 4)) (nI k) x s) l k x
def mbS (H : Int32) (l k : Nat) (u : Nat → Nat → Int32) : Nat → Nat → Int32 := if 0 < u 7 k then nbU u l k (u 7 k) (shB (u 7 k) H) else u
def mbU (H : Int32) (l : Nat) (u : Nat → Nat → Int32) : Nat → Nat → Nat → Int32
  | 0 => u
  | k + 1 => mbS H l k (mbU H l u k)
def mbI (u : Nat → Nat → Int32) : Nat → Int32
  | 0 => 0
  | k + 1 => if 0 < u 7 k then 1 else mbI u k
theorem kbU_o (u : Nat → Nat → Int32) (w k : Nat) (x z : Int32) {o : Nat} (j : Nat) (ho : o ≠ 1) : kbU u w k x z o j = u o j := by
  unfold kbU
  split
  · rw [ms_at, if_neg (fun q => ho q.1), ms_at, if_neg (fun q => ho q.1)]
  · rfl
theorem kmU_o (u : Nat → Nat → Int32) (b x s : Int32) {o : Nat} (j : Nat) (ho : o ≠ 1) : kmU u b x s o j = u o j := by
  unfold kmU kmV
  rw [ms_at, if_neg (fun q => ho q.1), ms_at, if_neg (fun q => ho q.1), ms_at, if_neg (fun q => ho q.1), ms_at, if_neg (fun q => ho q.1), ms_at, if_neg (fun q => ho q.1), if_neg (fun q => ho q.1)]
theorem hiU_o (u : Nat → Nat → Int32) (l k : Nat) (x : Int32) {o : Nat} (j : Nat) (ho : o ≠ 1) : hiU u l k x o j = u o j := by
  unfold hiU
  split
  · rw [ms_at, if_neg (fun q => ho q.1), ms_at, if_neg (fun q => ho q.1)]
  · rfl
theorem nbU_o (u : Nat → Nat → Int32) (l k : Nat) (x s : Int32) {o : Nat} (j : Nat) (ho : o ≠ 1) : nbU u l k x s o j = u o j := by
  unfold nbU
  rw [hiU_o _ _ _ _ _ ho, kmU_o _ _ _ _ _ ho, kbU_o _ _ _ _ _ _ ho]
  unfold a2U a1U
  rw [ms_at, if_neg (fun q => ho q.1), ms_at, if_neg (fun q => ho q.1)]
theorem mbS_o (H : Int32) (l k : Nat) (u : Nat → Nat → Int32) {o : Nat} (j : Nat) (ho : o ≠ 1) : mbS H l k u o j = u o j := by
  unfold mbS
  split
  · exact nbU_o _ _ _ _ _ _ ho
  · rfl
theorem mbU_o (H : Int32) (l : Nat) (u : Nat → Nat → Int32) (n : Nat) {o : Nat} (j : Nat) (ho : o ≠ 1) : mbU H l u n o j = u o j := by
  induction n with
  | zero => rfl
  | succ n ih => exact (mbS_o _ _ _ _ _ ho).trans ih
theorem kbU_lo (u : Nat → Nat → Int32) {w : Nat} (k : Nat) (x z : Int32) {j : Nat} (hj : j < w) : kbU u w k x z 1 j = u 1 j := by
  unfold kbU
  split
  · rw [ms_at, if_neg (by omega), ms_at, if_neg (by omega)]
  · rfl
theorem kmU_lo (u : Nat → Nat → Int32) (b x s : Int32) {j : Nat} (hj : j < 168) (h9 : j ≠ 9) : kmU u b x s 1 j = u 1 j := by
  unfold kmU
  rw [ms_at, if_neg (by omega), ms_at, if_neg (by omega), ms_at, if_neg (by omega), ms_at, if_neg (by omega), ms_at, if_neg (by omega), kmV_lt _ (by omega)]
theorem nbU_lo (u : Nat → Nat → Int32) (l k : Nat) (x s : Int32) {j : Nat} (hj : j < 9) : nbU u l k x s 1 j = u 1 j := by
  unfold nbU hiU
  split
  · rw [ms_at, if_neg (by omega), ms_at, if_neg (by omega), kmU_lo _ _ _ _ (by omega) (by omega), kbU_lo _ _ _ _ (by omega)]
    unfold a2U a1U
    rw [ms_at, if_neg (by omega), ms_at, if_neg (by omega)]
  · rw [kmU_lo _ _ _ _ (by omega) (by omega), kbU_lo _ _ _ _ (by omega)]
    unfold a2U a1U
    rw [ms_at, if_neg (by omega), ms_at, if_neg (by omega)]
theorem mbU_lo (H : Int32) (l : Nat) (u : Nat → Nat → Int32) (n : Nat) {j : Nat} (hj : j < 9) : mbU H l u n 1 j = u 1 j := by
  induction n with
  | zero => rfl
  | succ n ih =>
    refine Eq.trans ?_ ih
    show mbS H l n (mbU H l u n) 1 j = _
    unfold mbS
    split
    · exact nbU_lo _ _ _ _ _ hj
    · rfl
section MO
variable {h : evH} {m : evM} {c : Nat} {u : Nat → Nat → Int32}
end MO
