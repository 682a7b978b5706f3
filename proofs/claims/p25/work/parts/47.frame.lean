/-! the model: what rounds leave alone -/
theorem bgU_o (u : Nat → Nat → Int32) (l : Nat) {o : Nat} (j : Nat) (ho : o ≠ 1) : bgU u l o j = u o j := by
  unfold bgU bgV
  rw [if_neg (fun z => ho z.1), ms_at, if_neg (fun z => ho z.1), ms_at, if_neg (fun z => ho z.1), ms_at, if_neg (fun z => ho z.1), ms_at, if_neg (fun z => ho z.1)]
theorem tzU_o (u : Nat → Nat → Int32) (n : Nat) {o : Nat} (j : Nat) (ho : o ≠ 1) : tzU u n o j = u o j := by
  induction n with
  | zero => rfl
  | succ n ih =>
    show ms (tzU u n) 1 (10 + 8 * n + 7) 0 o j = _
    rw [ms_at, if_neg (fun z => ho z.1), ih]
theorem setB_o (u : Nat → Nat → Int32) (t : evT) {o : Nat} (j : Nat) (ho : o ≠ 0) : setB u t o j = u o j := by
  unfold setB
  rw [if_neg ho]
theorem bsU_o (u : Nat → Nat → Int32) (lag n l k : Nat) {o : Nat} (j : Nat) (ho : o ≠ 7) : bsU u lag n l k o j = u o j := by
  unfold bsU
  rw [if_neg (fun z => ho z.1)]
theorem grU_o (u : Nat → Nat → Int32) (n : Nat) {o : Nat} (j : Nat) (ho : o ≠ 1) : grU u n o j = u o j := by
  unfold grU
  rw [grN_o _ _ _ _ ho, grV_o _ _ _ ho, grB_o _ _ _ ho]
theorem enU_o (u : Nat → Nat → Int32) (l n : Nat) {o : Nat} (j : Nat) (ho : o ≠ 1) : enU u l n o j = u o j := by
  unfold enU
  split
  · rw [ms_at, if_neg (fun z => ho z.1), ms_at, if_neg (fun z => ho z.1)]
  · unfold enB enA adU enS
    rw [ms_at, if_neg (fun z => ho z.1), ms_at, if_neg (fun z => ho z.1), ms_at, if_neg (fun z => ho z.1), ms_at, if_neg (fun z => ho z.1), ms_at, if_neg (fun z => ho z.1), ms_at, if_neg (fun z => ho z.1), ms_at, if_neg (fun z => ho z.1), ms_at, if_neg (fun z => ho z.1)]
theorem roE_o (u : Nat → Nat → Int32) (lag n l : Nat) {o : Nat} (j : Nat) (h0 : o ≠ 0) (h1 : o ≠ 1) (h7 : o ≠ 7) : roE u lag n l o j = u o j := by
  unfold roE roD
  rw [ms_at, if_neg (fun z => h1 z.1)]
  unfold roC
  rw [grU_o _ _ _ h1, ms_at, if_neg (fun z => h1 z.1)]
  unfold roB
  rw [mbU_o _ _ _ _ _ h1]
  unfold roA
  rw [tzU_o _ _ _ h1, setB_o _ _ _ h0, bsU_o _ _ _ _ _ _ h7]
theorem roU_o (u : Nat → Nat → Int32) (lag n l : Nat) {o : Nat} (j : Nat) (h0 : o ≠ 0) (h1 : o ≠ 1) (h7 : o ≠ 7) : roU u lag n l o j = u o j := by
  unfold roU
  split
  · rw [enU_o _ _ _ _ h1, roE_o _ _ _ _ _ h0 h1 h7]
  · exact roE_o _ _ _ _ _ h0 h1 h7
theorem rdU_o (u : Nat → Nat → Int32) (lag n q : Nat) {o : Nat} (j : Nat) (h0 : o ≠ 0) (h1 : o ≠ 1) (h7 : o ≠ 7) : rdU u lag n q o j = u o j := by
  have hA : rdA u q o j = u o j := by
    unfold rdA
    split
    · exact bgU_o _ _ _ h1
    · rfl
  unfold rdU
  rw [ms_at, if_neg (fun z => h1 z.1)]
  unfold rdB
  split
  · exact hA
  · exact (roU_o _ _ _ _ _ h0 h1 h7).trans hA
theorem psU_o (u : Nat → Nat → Int32) (lag n q k : Nat) {o : Nat} (j : Nat) (h0 : o ≠ 0) (h1 : o ≠ 1) (h7 : o ≠ 7) : psU u lag n q k o j = u o j := by
  induction k with
  | zero => rfl
  | succ k ih => exact (rdU_o _ _ _ _ _ h0 h1 h7).trans ih
theorem farU_o (u : Nat → Nat → Int32) (lag n q k : Nat) {o : Nat} (j : Nat) (h0 : o ≠ 0) (h1 : o ≠ 1) (h7 : o ≠ 7) : farU u lag n q k o j = u o j := by
  induction k with
  | zero => rfl
  | succ k ih =>
    show (if hlB (farU u lag n q k) q = true then rdU (farU u lag n q k) lag n q else farU u lag n q k) o j = _
    split
    · exact (rdU_o _ _ _ _ _ h0 h1 h7).trans ih
    · exact ih
theorem setB_0 (u : Nat → Nat → Int32) (t : evT) {j : Nat} (h8 : j ≠ 8) (h9 : j ≠ 9) (h10 : j ≠ 10) : setB u t 0 j = u 0 j := by
  unfold setB
  rw [if_pos rfl, if_neg h8, if_neg h9, if_neg h10]
theorem roE_0 (u : Nat → Nat → Int32) (lag n l : Nat) {j : Nat} (h8 : j ≠ 8) (h9 : j ≠ 9) (h10 : j ≠ 10) : roE u lag n l 0 j = u 0 j := by
  unfold roE roD
  rw [ms_at, if_neg (by omega)]
  unfold roC
  rw [grU_o _ _ _ (by decide), ms_at, if_neg (by omega)]
  unfold roB
  rw [mbU_o _ _ _ _ _ (by decide)]
  unfold roA
  rw [tzU_o _ _ _ (by decide), setB_0 _ _ h8 h9 h10, bsU_o _ _ _ _ _ _ (by decide)]
theorem roU_0 (u : Nat → Nat → Int32) (lag n l : Nat) {j : Nat} (h8 : j ≠ 8) (h9 : j ≠ 9) (h10 : j ≠ 10) : roU u lag n l 0 j = u 0 j := by
  unfold roU
  split
  · rw [enU_o _ _ _ _ (by decide), roE_0 _ _ _ _ h8 h9 h10]
  · exact roE_0 _ _ _ _ h8 h9 h10
theorem rdU_0 (u : Nat → Nat → Int32) (lag n q : Nat) {j : Nat} (h8 : j ≠ 8) (h9 : j ≠ 9) (h10 : j ≠ 10) : rdU u lag n q 0 j = u 0 j := by
  have hA : rdA u q 0 j = u 0 j := by
    unfold rdA
    split
    · exact bgU_o _ _ _ (by decide)
    · rfl
  unfold rdU
  rw [ms_at, if_neg (by omega)]
  unfold rdB
  split
  · exact hA
  · exact (roU_0 _ _ _ _ h8 h9 h10).trans hA
theorem psU_0 (u : Nat → Nat → Int32) (lag n q k : Nat) {j : Nat} (h8 : j ≠ 8) (h9 : j ≠ 9) (h10 : j ≠ 10) : psU u lag n q k 0 j = u 0 j := by
  induction k with
  | zero => rfl
  | succ k ih => exact (rdU_0 _ _ _ _ h8 h9 h10).trans ih
theorem farU_0 (u : Nat → Nat → Int32) (lag n q k : Nat) {j : Nat} (h8 : j ≠ 8) (h9 : j ≠ 9) (h10 : j ≠ 10) : farU u lag n q k 0 j = u 0 j := by
  induction k with
  | zero => rfl
  | succ k ih =>
    show (if hlB (farU u lag n q k) q = true then rdU (farU u lag n q k) lag n q else farU u lag n q k) 0 j = _
    split
    · exact (rdU_0 _ _ _ _ h8 h9 h10).trans ih
    · exact ih
