/-! characters that are put on the pad -/
def sh8 (y : Int64) : Int64 := (y.toUInt64 >>> ((8 : Int32).toInt64.toUInt64 &&& Int64.toUInt64 63)).toInt64
def nL (y : Int64) : Nat := y.toUInt64.toNat
theorem nL_sh8 (y : Int64) : nL (sh8 y) = nL y / 256 := by
  unfold nL sh8
  rw [show ((8 : Int32).toInt64.toUInt64 &&& Int64.toUInt64 63) = (8 : UInt64) by decide]
  rw [show ((y.toUInt64 >>> (8 : UInt64)).toInt64).toUInt64 = y.toUInt64 >>> (8 : UInt64) from rfl, UInt64.toNat_shiftRight, Nat.shiftRight_eq_div_pow]
  rfl
theorem nL_0 {y : Int64} : nL y = 0 ↔ y = 0 := by
  unfold nL
  constructor
  · intro h
    have : y.toUInt64 = 0 := UInt64.toNat_inj.mp h
    have h2 : y.toUInt64.toInt64 = (0 : UInt64).toInt64 := congrArg _ this
    exact h2
  · rintro rfl
    rfl
theorem bt_of (y : Int64) : ∃ n, n < 256 ∧ y &&& 255 = Int64.ofNat n ∧ n = nL y % 256 := by
  refine ⟨nL y % 256, Nat.mod_lt _ (by decide), ?_, rfl⟩
  apply Int64.toBitVec_inj.mp
  show y.toBitVec &&& 255#64 = BitVec.ofNat 64 (nL y % 256)
  apply BitVec.eq_of_toNat_eq
  rw [BitVec.toNat_and, BitVec.toNat_ofNat]
  show y.toBitVec.toNat &&& (2 ^ 8 - 1) = _
  rw [Nat.and_two_pow_sub_one_eq_mod]
  show y.toBitVec.toNat % 256 = (y.toBitVec.toNat % 256) % 2 ^ 64
  omega
theorem cmp_0 (y : Int64) : (lg_cmp y 0 = 0) = (y = 0) := by
  unfold lg_cmp
  by_cases h : y > 0
  · rw [if_pos h]
    exact propext ⟨fun z => absurd z (by decide), fun z => absurd h (by rw [z]; decide)⟩
  · rw [if_neg h]
    by_cases h2 : y = 0
    · rw [if_pos h2]
      exact propext ⟨fun _ => h2, fun _ => rfl⟩
    · rw [if_neg h2]
      exact propext ⟨fun z => absurd z (by decide), fun z => absurd z h2⟩
def okB (y : Int64) : Bool := wiB (y &&& 255).toInt32 33 126
theorem okB_c (y : Int64) : okB y = true ↔ ¬ (lg_cmp (y &&& 255) 33 < 0 ∨ ¬ lg_cmp (y &&& 255) 126 ≤ 0) := by
  obtain ⟨n, hn, e, -⟩ := bt_of y
  unfold okB
  rw [e, show (Int64.ofNat n).toInt32 = nI n from lN_i n]
  have key : ∀ n < 256, (wiB (nI n) 33 126 = true ↔ ¬ (lg_cmp (Int64.ofNat n) 33 < 0 ∨ ¬ lg_cmp (Int64.ofNat n) 126 ≤ 0)) := by decide +kernel
  exact key n hn
theorem okB_0 {y : Int64} (h : y &&& 255 = 0) : okB y = false := by
  unfold okB
  rw [h]
  decide
def csF : Nat → Nat → Int64 → Nat
  | 0, k, _ => k
  | d + 1, k, y => if y = 0 then k else if okB y = true then csF d (k + 1) (sh8 y) else 0
def plF : Nat → Nat → Int64 → Bool → Nat × Int64 × Bool
  | 0, k, y, b => (k, y, b)
  | d + 1, k, y, b => if y &&& 255 = 0 then (k, y, b) else plF d (k + 1) (sh8 y) (b && okB y)
theorem plF_f (d k : Nat) (y : Int64) : (plF d k y false).2.2 = false := by
  induction d generalizing k y with
  | zero => rfl
  | succ d ih =>
    unfold plF
    split
    · rfl
    · exact ih _ _
theorem plF_le (d k : Nat) (y : Int64) (b : Bool) : (plF d k y b).1 ≤ k + d := by
  induction d generalizing k y b with
  | zero => exact Nat.le_refl _
  | succ d ih =>
    unfold plF
    split
    · show k ≤ _; omega
    · have := ih (k + 1) (sh8 y) (b && okB y)
      omega
def plBad (r : Nat × Int64 × Bool) : Prop := r.1 = 0 ∨ r.2.2 = false ∨ ¬ r.2.1 = 0
/-- both count alike -/
theorem cs_pl (d k : Nat) (y : Int64) (hy : nL y < 256 ^ d) : (plBad (plF d k y true) ∧ csF d k y = 0) ∨ (¬ plBad (plF d k y true) ∧ csF d k y = (plF d k y true).1) := by
  induction d generalizing k y with
  | zero =>
    have h0 : y = 0 := nL_0.mp (by rw [Nat.pow_zero] at hy; omega)
    unfold plF csF plBad
    rcases Nat.eq_zero_or_pos k with hk | hk
    · exact Or.inl ⟨Or.inl hk, hk⟩
    · refine Or.inr ⟨?_, rfl⟩
      rintro (z | z | z)
      · omega
      · cases z
      · exact z h0
  | succ d ih =>
    unfold plF csF
    by_cases h0 : y = 0
    · have e0 : y &&& 255 = 0 := by rw [h0]; decide
      rw [if_pos h0, if_pos e0]
      unfold plBad
      rcases Nat.eq_zero_or_pos k with hk | hk
      · exact Or.inl ⟨Or.inl hk, hk⟩
      · refine Or.inr ⟨?_, rfl⟩
        rintro (z | z | z)
        · have : k = 0 := z
          omega
        · cases z
        · exact z h0
    · rw [if_neg h0]
      by_cases hb : okB y = true
      · have e0 : ¬ y &&& 255 = 0 := fun z => by rw [okB_0 z] at hb; cases hb
        rw [if_neg e0, if_pos hb, hb]
        exact ih (k + 1) (sh8 y) (by rw [nL_sh8]; rw [Nat.pow_succ] at hy; omega)
      · rw [if_neg hb]
        by_cases e0 : y &&& 255 = 0
        · rw [if_pos e0]
          exact Or.inl ⟨Or.inr (Or.inr h0), rfl⟩
        · rw [if_neg e0, b_ne hb]
          exact Or.inl ⟨Or.inr (Or.inl (plF_f _ _ _)), rfl⟩
def byV (x : Int64) (k : Nat) : Int32 := ((x.toUInt64 >>> ((8 * nI k : Int32).toInt64.toUInt64 &&& Int64.toUInt64 63)).toInt64 &&& 255).toInt32
def apU (u : Nat → Nat → Int32) (o lo lj : Nat) (x : Int64) (m L : Nat) : Nat → Nat → Nat → Int32
  | 0 => u
  | j + 1 => ms (ms (apU u o lo lj x m L j) o (L + j) (byV x (m - 1 - j))) lo lj (nI (L + j + 1))
theorem apU_len (u : Nat → Nat → Int32) {o lo lj : Nat} (x : Int64) (m L : Nat) (j : Nat) (h0 : u lo lj = nI L) (hne : o ≠ lo) : apU u o lo lj x m L j lo lj = nI (L + j) := by
  cases j with
  | zero => exact h0
  | succ j =>
    show ms _ lo lj _ lo lj = _
    rw [ms_at, if_pos ⟨rfl, rfl⟩]
    rfl
theorem apU_ch (u : Nat → Nat → Int32) {o lo lj : Nat} (x : Int64) (m L : Nat) (j i : Nat) (hne : o ≠ lo) : apU u o lo lj x m L j o i = if L ≤ i ∧ i < L + j then byV x (m - 1 - (i - L)) else u o i := by
  induction j with
  | zero =>
    have e : ¬ (L ≤ i ∧ i < L + 0) := by omega
    rw [if_neg e]; rfl
  | succ j ih =>
    show ms (ms (apU u o lo lj x m L j) o (L + j) (byV x (m - 1 - j))) lo lj (nI (L + j + 1)) o i = _
    rw [ms_at, if_neg (fun z => hne z.1), ms_at]
    by_cases hi : i = L + j
    · have e : L ≤ i ∧ i < L + (j + 1) := by omega
      rw [if_pos ⟨rfl, hi⟩, if_pos e, show i - L = j by omega]
    · rw [if_neg (fun z => hi z.2), ih]
      by_cases hc : L ≤ i ∧ i < L + j
      · have e : L ≤ i ∧ i < L + (j + 1) := by omega
        rw [if_pos hc, if_pos e]
      · have e : ¬ (L ≤ i ∧ i < L + (j + 1)) := by omega
        rw [if_neg hc, if_neg e]
theorem apU_o (u : Nat → Nat → Int32) {o lo lj : Nat} (x : Int64) (m L : Nat) (j a i : Nat) (h1 : a ≠ o) (h2 : ¬ (a = lo ∧ i = lj)) : apU u o lo lj x m L j a i = u a i := by
  induction j with
  | zero => rfl
  | succ j ih =>
    show ms (ms (apU u o lo lj x m L j) o (L + j) (byV x (m - 1 - j))) lo lj (nI (L + j + 1)) a i = _
    rw [ms_at, if_neg h2, ms_at, if_neg (fun z => h1 z.1), ih]
section PU
variable {h : evH} {u p : Nat → Nat → Int32} {V : Nat → evVt} {n : Nat} {s : Nat → Option Nat}
theorem P_count (m : evM) (x : Int64) : evX 43 0 [(0, .long x)] [] h m = some (some (.int (nI (csF 8 0 x))), h, m) := by
  have lp : ∀ (d k : Nat) (y : Int64) (e : evL), k + d = 8 → (e = [] ∨ ∃ z, e = [(5, .long z)]) → evX 43 4 ([(0, .long x), (2, .int (nI k)), (3, .long y)] ++ e) [] h m = some (some (.int (nI (csF d k y))), h, m) := by
    intro d
    induction d with
    | zero =>
      intro k y e hk he
      have e8 : (8 : Int32) ≤ nI k := nI_le (a := 8) (by omega) (by omega)
      show _ = some (some (Value.int (nI k)), h, m)
      rcases he with rfl | ⟨z, rfl⟩
      · simp only [x43_4, x43_5, x43_7, x43_54, x43_55, evI_i, evJl_i, evJf_i, evJd_i, evA_r, evA_n, evA_q, evLk_c, evS1_d, evS2_d, evFl_n, evFl_c, evGl_n, evGl_c, evIn_n, evIn_c, evCat_i, evCat_l, evCat_f, evCat_d, evCat_r, evCat_z, evCat_q, evBd_some, evTl_s, evTl_n, va_rf_s, va_rf_n, and_true, true_and, and_false, false_and, if_true, if_false, not_true_eq_false, not_false_eq_true, reduceCtorEq, ↓reduceIte, Nat.reduceAdd, Nat.reduceEqDiff, Nat.reduceLT, Nat.reduceLeDiff, Nat.reduceSub, Nat.zero_ne_one, Nat.one_ne_zero, e8, List.nil_append, List.cons_append, List.append_nil]
      · simp only [x43_4, x43_5, x43_7, x43_54, x43_55, evI_i, evJl_i, evJf_i, evJd_i, evA_r, evA_n, evA_q, evLk_c, evS1_d, evS2_d, evFl_n, evFl_c, evGl_n, evGl_c, evIn_n, evIn_c, evCat_i, evCat_l, evCat_f, evCat_d, evCat_r, evCat_z, evCat_q, evBd_some, evTl_s, evTl_n, va_rf_s, va_rf_n, and_true, true_and, and_false, false_and, if_true, if_false, not_true_eq_false, not_false_eq_true, reduceCtorEq, ↓reduceIte, Nat.reduceAdd, Nat.reduceEqDiff, Nat.reduceLT, Nat.reduceLeDiff, Nat.reduceSub, Nat.zero_ne_one, Nat.one_ne_zero, e8, List.nil_append, List.cons_append, List.append_nil]
    | succ d ih =>
      intro k y e hk he
      have e8 : ¬ (8 : Int32) ≤ nI k := nI_ge (b := 8) (by omega) (by omega)
      have e1 : nI k + 1 = nI (k + 1) := (nI_succ k).symm
      unfold csF
      by_cases h0 : y = 0
      · rw [if_pos h0]
        rcases he with rfl | ⟨z, rfl⟩
        · simp only [x43_4, x43_5, x43_7, x43_10, x43_11, x43_12, x43_13, x43_54, x43_55, evI_i, evJl_i, evJf_i, evJd_i, evA_r, evA_n, evA_q, evLk_c, evS1_d, evS2_d, evFl_n, evFl_c, evGl_n, evGl_c, evIn_n, evIn_c, evCat_i, evCat_l, evCat_f, evCat_d, evCat_r, evCat_z, evCat_q, evBd_some, evTl_s, evTl_n, va_rf_s, va_rf_n, and_true, true_and, and_false, false_and, if_true, if_false, not_true_eq_false, not_false_eq_true, reduceCtorEq, ↓reduceIte, Nat.reduceAdd, Nat.reduceEqDiff, Nat.reduceLT, Nat.reduceLeDiff, Nat.reduceSub, Nat.zero_ne_one, Nat.one_ne_zero, e8, cmp_0, h0, List.nil_append, List.cons_append, List.append_nil]
        · simp only [x43_4, x43_5, x43_7, x43_10, x43_11, x43_12, x43_13, x43_54, x43_55, evI_i, evJl_i, evJf_i, evJd_i, evA_r, evA_n, evA_q, evLk_c, evS1_d, evS2_d, evFl_n, evFl_c, evGl_n, evGl_c, evIn_n, evIn_c, evCat_i, evCat_l, evCat_f, evCat_d, evCat_r, evCat_z, evCat_q, evBd_some, evTl_s, evTl_n, va_rf_s, va_rf_n, and_true, true_and, and_false, false_and, if_true, if_false, not_true_eq_false, not_false_eq_true, reduceCtorEq, ↓reduceIte, Nat.reduceAdd, Nat.reduceEqDiff, Nat.reduceLT, Nat.reduceLeDiff, Nat.reduceSub, Nat.zero_ne_one, Nat.one_ne_zero, e8, cmp_0, h0, List.nil_append, List.cons_append, List.append_nil]
      · rw [if_neg h0]
        by_cases hb : okB y = true
        · have hc := (okB_c y).mp hb
          have c1 : ¬ lg_cmp (y &&& 255) 33 < 0 := fun z => hc (Or.inl z)
          have c2 : lg_cmp (y &&& 255) 126 ≤ 0 := Decidable.not_not.mp (fun z => hc (Or.inr z))
          rw [if_pos hb]
          have IH := ih (k + 1) (sh8 y) [(5, .long (y &&& 255))] (by omega) (Or.inr ⟨_, rfl⟩)
          rw [← IH]
          have es : (y.toUInt64 >>> ((8 : Int32).toInt64.toUInt64 &&& Int64.toUInt64 63)).toInt64 = sh8 y := rfl
          rcases he with rfl | ⟨z, rfl⟩
          · conv => lhs; rw [List.append_nil, x43_4]
            simp only [x43_5, x43_7, x43_10, x43_11, x43_12, x43_13, x43_16, x43_17, x43_20, x43_21, x43_23, x43_25, x43_28, x43_29, x43_32, x43_34, x43_37, x43_38, x43_41, x43_42, x43_43, x43_46, x43_47, x43_49, x43_50, x43_51, evI_i, evJl_i, evJf_i, evJd_i, evA_r, evA_n, evA_q, evLk_c, evS1_d, evS2_d, evFl_n, evFl_c, evGl_n, evGl_c, evIn_n, evIn_c, evCat_i, evCat_l, evCat_f, evCat_d, evCat_r, evCat_z, evCat_q, evBd_some, evTl_s, evTl_n, va_rf_s, va_rf_n, and_true, true_and, and_false, false_and, if_true, if_false, not_true_eq_false, not_false_eq_true, reduceCtorEq, ↓reduceIte, Nat.reduceAdd, Nat.reduceEqDiff, Nat.reduceLT, Nat.reduceLeDiff, Nat.reduceSub, Nat.zero_ne_one, Nat.one_ne_zero, e8, e1, cmp_0, h0, c1, c2, es, List.nil_append, List.cons_append, List.append_nil]
          · conv => lhs; rw [List.cons_append, List.cons_append, List.cons_append, List.nil_append, x43_4]
            simp only [x43_5, x43_7, x43_10, x43_11, x43_12, x43_13, x43_16, x43_17, x43_20, x43_21, x43_23, x43_25, x43_28, x43_29, x43_32, x43_34, x43_37, x43_38, x43_41, x43_42, x43_43, x43_46, x43_47, x43_49, x43_50, x43_51, evI_i, evJl_i, evJf_i, evJd_i, evA_r, evA_n, evA_q, evLk_c, evS1_d, evS2_d, evFl_n, evFl_c, evGl_n, evGl_c, evIn_n, evIn_c, evCat_i, evCat_l, evCat_f, evCat_d, evCat_r, evCat_z, evCat_q, evBd_some, evTl_s, evTl_n, va_rf_s, va_rf_n, and_true, true_and, and_false, false_and, if_true, if_false, not_true_eq_false, not_false_eq_true, reduceCtorEq, ↓reduceIte, Nat.reduceAdd, Nat.reduceEqDiff, Nat.reduceLT, Nat.reduceLeDiff, Nat.reduceSub, Nat.zero_ne_one, Nat.one_ne_zero, e8, e1, cmp_0, h0, c1, c2, es, List.nil_append, List.cons_append, List.append_nil]
        · rw [if_neg hb]
          have hc := fun z => hb ((okB_c y).mpr z)
          have z0 : nI 0 = 0 := rfl
          by_cases c1 : lg_cmp (y &&& 255) 33 < 0
          · rcases he with rfl | ⟨z, rfl⟩
            · simp only [x43_4, x43_5, x43_7, x43_10, x43_11, x43_12, x43_13, x43_16, x43_17, x43_20, x43_21, x43_23, x43_25, x43_28, x43_29, x43_32, x43_34, x43_37, x43_38, x43_41, x43_42, evI_i, evJl_i, evJf_i, evJd_i, evA_r, evA_n, evA_q, evLk_c, evS1_d, evS2_d, evFl_n, evFl_c, evGl_n, evGl_c, evIn_n, evIn_c, evCat_i, evCat_l, evCat_f, evCat_d, evCat_r, evCat_z, evCat_q, evBd_some, evTl_s, evTl_n, va_rf_s, va_rf_n, and_true, true_and, and_false, false_and, if_true, if_false, not_true_eq_false, not_false_eq_true, reduceCtorEq, ↓reduceIte, Nat.reduceAdd, Nat.reduceEqDiff, Nat.reduceLT, Nat.reduceLeDiff, Nat.reduceSub, Nat.zero_ne_one, Nat.one_ne_zero, e8, cmp_0, h0, c1, z0, List.nil_append, List.cons_append, List.append_nil]
            · simp only [x43_4, x43_5, x43_7, x43_10, x43_11, x43_12, x43_13, x43_16, x43_17, x43_20, x43_21, x43_23, x43_25, x43_28, x43_29, x43_32, x43_34, x43_37, x43_38, x43_41, x43_42, evI_i, evJl_i, evJf_i, evJd_i, evA_r, evA_n, evA_q, evLk_c, evS1_d, evS2_d, evFl_n, evFl_c, evGl_n, evGl_c, evIn_n, evIn_c, evCat_i, evCat_l, evCat_f, evCat_d, evCat_r, evCat_z, evCat_q, evBd_some, evTl_s, evTl_n, va_rf_s, va_rf_n, and_true, true_and, and_false, false_and, if_true, if_false, not_true_eq_false, not_false_eq_true, reduceCtorEq, ↓reduceIte, Nat.reduceAdd, Nat.reduceEqDiff, Nat.reduceLT, Nat.reduceLeDiff, Nat.reduceSub, Nat.zero_ne_one, Nat.one_ne_zero, e8, cmp_0, h0, c1, z0, List.nil_append, List.cons_append, List.append_nil]
          · have c2 : ¬ lg_cmp (y &&& 255) 126 ≤ 0 := fun z => hc (fun w => w.elim c1 (fun q => q z))
            rcases he with rfl | ⟨z, rfl⟩
            · simp only [x43_4, x43_5, x43_7, x43_10, x43_11, x43_12, x43_13, x43_16, x43_17, x43_20, x43_21, x43_23, x43_25, x43_28, x43_29, x43_32, x43_34, x43_37, x43_38, x43_41, x43_42, evI_i, evJl_i, evJf_i, evJd_i, evA_r, evA_n, evA_q, evLk_c, evS1_d, evS2_d, evFl_n, evFl_c, evGl_n, evGl_c, evIn_n, evIn_c, evCat_i, evCat_l, evCat_f, evCat_d, evCat_r, evCat_z, evCat_q, evBd_some, evTl_s, evTl_n, va_rf_s, va_rf_n, and_true, true_and, and_false, false_and, if_true, if_false, not_true_eq_false, not_false_eq_true, reduceCtorEq, ↓reduceIte, Nat.reduceAdd, Nat.reduceEqDiff, Nat.reduceLT, Nat.reduceLeDiff, Nat.reduceSub, Nat.zero_ne_one, Nat.one_ne_zero, e8, cmp_0, h0, c1, c2, z0, List.nil_append, List.cons_append, List.append_nil]
            · simp only [x43_4, x43_5, x43_7, x43_10, x43_11, x43_12, x43_13, x43_16, x43_17, x43_20, x43_21, x43_23, x43_25, x43_28, x43_29, x43_32, x43_34, x43_37, x43_38, x43_41, x43_42, evI_i, evJl_i, evJf_i, evJd_i, evA_r, evA_n, evA_q, evLk_c, evS1_d, evS2_d, evFl_n, evFl_c, evGl_n, evGl_c, evIn_n, evIn_c, evCat_i, evCat_l, evCat_f, evCat_d, evCat_r, evCat_z, evCat_q, evBd_some, evTl_s, evTl_n, va_rf_s, va_rf_n, and_true, true_and, and_false, false_and, if_true, if_false, not_true_eq_false, not_false_eq_true, reduceCtorEq, ↓reduceIte, Nat.reduceAdd, Nat.reduceEqDiff, Nat.reduceLT, Nat.reduceLeDiff, Nat.reduceSub, Nat.zero_ne_one, Nat.one_ne_zero, e8, cmp_0, h0, c1, c2, z0, List.nil_append, List.cons_append, List.append_nil]
  have LP := lp 8 0 x [] rfl (Or.inl rfl)
  rw [List.append_nil] at LP
  rw [← LP]
  simp only [x43_0, x43_1, x43_2, x43_3, evI_i, evJl_i, evJf_i, evJd_i, evA_r, evA_n, evA_q, evLk_c, evS1_d, evS2_d, evFl_n, evFl_c, evGl_n, evGl_c, evIn_n, evIn_c, evCat_i, evCat_l, evCat_f, evCat_d, evCat_r, evCat_z, evCat_q, evBd_some, evTl_s, evTl_n, va_rf_s, va_rf_n, and_true, true_and, and_false, false_and, if_true, if_false, not_true_eq_false, not_false_eq_true, reduceCtorEq, ↓reduceIte, Nat.reduceAdd, Nat.reduceEqDiff, Nat.reduceLT, Nat.reduceLeDiff, Nat.reduceSub, Nat.zero_ne_one, Nat.one_ne_zero, List.nil_append, List.cons_append]
  rfl
theorem cs_le (d k : Nat) (y : Int64) : csF d k y ≤ k + d := by
  induction d generalizing k y with
  | zero => exact Nat.le_refl _
  | succ d ih =>
    unfold csF
    split
    · omega
    · split
      · have := ih (k + 1) (sh8 y); omega
      · omega
theorem W_put (hx : xOK h n s) {L : Nat} (hL : L ≤ 80) (h1 : p 1 1 = nI L) (x : Int64) : evX 75 0 [(0, .ref 0), (1, .long x)] [] h (memW u p V n) = some (some (.int (if csF 8 0 x = 0 then -2 else if 80 < L + csF 8 0 x then -4 else nI (L + csF 8 0 x))), h, memW u (if csF 8 0 x = 0 ∨ 80 < L + csF 8 0 x then p else apU p 2 1 1 x (csF 8 0 x) L (csF 8 0 x)) V n) := by
  obtain ⟨hn2, hN, a0, b0, b1, b2, b3, b4, a83, a84, l84, r83, r84, a372, r372, a373, l373, a374, l374, r374, rss, hH⟩ := id hx
  have hm8 := cs_le 8 0 x
  have K := P_count (h := h) (memW u p V n) x
  generalize csF 8 0 x = m at *
  by_cases h0 : m = 0
  · subst h0
    have z0 : nI 0 = 0 := rfl
    simp only [x75_0, x75_1, x75_4, x75_5, x75_8, x42_0, x42_1, x42_4, x42_5, x42_6, x42_9, x42_11, evI_i, evJl_i, evJf_i, evJd_i, evA_r, evA_n, evA_q, evLk_c, evS1_d, evS2_d, evFl_n, evFl_c, evGl_n, evGl_c, evIn_n, evIn_c, evCat_i, evCat_l, evCat_f, evCat_d, evCat_r, evCat_z, evCat_q, evBd_some, evTl_s, evTl_n, va_rf_s, va_rf_n, and_true, true_and, and_false, false_and, if_true, if_false, not_true_eq_false, not_false_eq_true, reduceCtorEq, ↓reduceIte, Nat.reduceAdd, Nat.reduceEqDiff, Nat.reduceLT, Nat.reduceLeDiff, Nat.reduceSub, Nat.zero_ne_one, Nat.one_ne_zero, a0, b0, b1, b2, b3, b4, a83, a84, l84, r83, a372, r372, a373, l373, a374, l374, memW_83, memW_372, memW_373, memW_s83, memW_s372, memW_s373, K, z0, true_or, Option.toList, List.nil_append, List.cons_append]
  · have z0 : ¬ nI m = 0 := nI_ne0 (by omega) (by omega)
    have ea : nI L + nI m = nI (L + m) := nI_add L m
    by_cases h8 : 80 < L + m
    · have e8 : ¬ nI (L + m) ≤ 80 := nI_ge (a := 80) h8 (by omega)
      simp only [x75_0, x75_1, x75_4, x75_5, x75_8, x42_0, x42_1, x42_4, x42_5, x42_6, x42_9, x42_11, x42_12, x42_13, x42_16, x42_17, x42_18, x42_20, x42_23, x42_25, evI_i, evJl_i, evJf_i, evJd_i, evA_r, evA_n, evA_q, evLk_c, evS1_d, evS2_d, evFl_n, evFl_c, evGl_n, evGl_c, evIn_n, evIn_c, evCat_i, evCat_l, evCat_f, evCat_d, evCat_r, evCat_z, evCat_q, evBd_some, evTl_s, evTl_n, va_rf_s, va_rf_n, and_true, true_and, and_false, false_and, if_true, if_false, not_true_eq_false, not_false_eq_true, reduceCtorEq, ↓reduceIte, Nat.reduceAdd, Nat.reduceEqDiff, Nat.reduceLT, Nat.reduceLeDiff, Nat.reduceSub, Nat.zero_ne_one, Nat.one_ne_zero, a0, b0, b1, b2, b3, b4, a83, a84, l84, r83, a372, r372, a373, l373, a374, l374, memW_83, memW_372, memW_373, memW_s83, memW_s372, memW_s373, K, z0, h0, h1, ea, e8, h8, or_true, Option.toList, List.nil_append, List.cons_append]
    · have e8 : nI (L + m) ≤ 80 := nI_le (b := 80) (by omega) (by omega)
      have LEN := fun j => apU_len p (o := 2) (lo := 1) (lj := 1) x m L j h1 (by decide)
      have lp : ∀ j, j ≤ m → evX 42 31 [(0, .ref 372), (1, .long x), (3, .int (nI m)), (4, .int (nI m - 1))] [] h (memW u (apU p 2 1 1 x m L 0) V n) = evX 42 31 [(0, .ref 372), (1, .long x), (3, .int (nI m)), (4, .int (nI (m - j) - 1))] [] h (memW u (apU p 2 1 1 x m L j) V n) := by
        intro j
        induction j with
        | zero => intro _; rw [Nat.sub_zero]
        | succ j ih =>
          intro hj
          rw [ih (by omega)]
          have k1 : nI (m - j) - 1 = nI (m - 1 - j) := by rw [show (1 : Int32) = nI 1 from rfl, pk_sub (by omega)]; congr 1; omega
          have k2 : nI (m - 1 - j) + -1 = nI (m - (j + 1)) - 1 := by rw [show m - 1 - j = m - (j + 1) by omega]; exact (Int32.sub_eq_add_neg _ _).symm
          have k0 : ¬ nI (m - 1 - j) < 0 := nI_pos (by omega)
          have f0 : ¬ nI (L + j) < 0 := nI_pos (by omega)
          have f1 : ¬ Int32.ofNat 80 ≤ nI (L + j) := nI_ge (by omega) (by omega)
          have f2 : (nI (L + j)).toNatClampNeg = L + j := nI_cl _ (by omega)
          have f3 : L + j < 80 := by omega
          have f4 : nI (L + j) + 1 = nI (L + j + 1) := (nI_succ _).symm
          have LJ := LEN j
          have LJ' : ms (apU p 2 1 1 x m L j) 2 (L + j) (byV x (m - 1 - j)) 1 1 = nI (L + j) := by rw [ms_at, if_neg (by omega)]; exact LJ
          have eb : ((x.toUInt64 >>> ((8 * nI (m - 1 - j) : Int32).toInt64.toUInt64 &&& Int64.toUInt64 63)).toInt64 &&& 255).toInt32 = byV x (m - 1 - j) := rfl
          rw [k1]
          conv => lhs; rw [x42_31]
          show _ = evX 42 31 _ _ _ (memW u (ms (ms (apU p 2 1 1 x m L j) 2 (L + j) (byV x (m - 1 - j))) 1 1 (nI (L + j + 1))) V n)
          simp only [x42_33, x42_36, x42_37, x42_40, x42_43, x42_44, x42_47, x42_48, x42_52, x42_55, x42_56, x42_59, x42_60, x42_63, x42_64, x42_66, x42_68, x42_69, x42_70, x42_73, x42_74, x42_75, x42_76, x42_77, x42_78, x42_81, x42_82, x42_83, x42_86, x42_89, x42_51i, x42_51b, x42_51d, x42_51h, x42_51l, evI_i, evJl_i, evJf_i, evJd_i, evA_r, evA_n, evA_q, evLk_c, evS1_d, evS2_d, evFl_n, evFl_c, evGl_n, evGl_c, evIn_n, evIn_c, evCat_i, evCat_l, evCat_f, evCat_d, evCat_r, evCat_z, evCat_q, evBd_some, evTl_s, evTl_n, va_rf_s, va_rf_n, and_true, true_and, and_false, false_and, if_true, if_false, not_true_eq_false, not_false_eq_true, reduceCtorEq, ↓reduceIte, Nat.reduceAdd, Nat.reduceEqDiff, Nat.reduceLT, Nat.reduceLeDiff, Nat.reduceSub, Nat.zero_ne_one, Nat.one_ne_zero, a0, b0, b1, b2, b3, b4, a83, a84, l84, r83, a372, r372, a373, l373, a374, l374, memW_83, memW_372, memW_373, memW_s83, memW_s372, memW_s373, k0, k2, LJ, LJ', f0, f1, f2, f3, f4, eb]
      have fin := lp m (Nat.le_refl m)
      rw [Nat.sub_self] at fin
      have km : nI 0 - 1 < 0 := by decide
      have c : ¬ (m = 0 ∨ 80 < L + m) := fun z => z.elim h0 h8
      rw [if_neg h0, if_neg h8, if_neg c]
      have LM := LEN m
      have A : evX 42 0 [(0, .ref 372), (1, .long x)] [] h (memW u p V n) = some (some (.int (nI (L + m))), h, memW u (apU p 2 1 1 x m L m) V n) := by
        have st : evX 42 0 [(0, .ref 372), (1, .long x)] [] h (memW u p V n) = evX 42 31 [(0, .ref 372), (1, .long x), (3, .int (nI m)), (4, .int (nI m - 1))] [] h (memW u (apU p 2 1 1 x m L 0) V n) := by
          simp only [x42_0, x42_1, x42_4, x42_5, x42_6, x42_9, x42_11, x42_12, x42_13, x42_16, x42_17, x42_18, x42_20, x42_23, x42_25, x42_26, x42_27, x42_28, x42_29, evI_i, evJl_i, evJf_i, evJd_i, evA_r, evA_n, evA_q, evLk_c, evS1_d, evS2_d, evFl_n, evFl_c, evGl_n, evGl_c, evIn_n, evIn_c, evCat_i, evCat_l, evCat_f, evCat_d, evCat_r, evCat_z, evCat_q, evBd_some, evTl_s, evTl_n, va_rf_s, va_rf_n, and_true, true_and, and_false, false_and, if_true, if_false, not_true_eq_false, not_false_eq_true, reduceCtorEq, ↓reduceIte, Nat.reduceAdd, Nat.reduceEqDiff, Nat.reduceLT, Nat.reduceLeDiff, Nat.reduceSub, Nat.zero_ne_one, Nat.one_ne_zero, a0, b0, b1, b2, b3, b4, a83, a84, l84, r83, a372, r372, a373, l373, a374, l374, memW_83, memW_372, memW_373, memW_s83, memW_s372, memW_s373, K, z0, h1, ea, e8, Option.toList, List.nil_append, List.cons_append]
          rfl
        rw [st, fin]
        simp only [x42_31, x42_33, x42_92, x42_93, x42_96, evI_i, evJl_i, evJf_i, evJd_i, evA_r, evA_n, evA_q, evLk_c, evS1_d, evS2_d, evFl_n, evFl_c, evGl_n, evGl_c, evIn_n, evIn_c, evCat_i, evCat_l, evCat_f, evCat_d, evCat_r, evCat_z, evCat_q, evBd_some, evTl_s, evTl_n, va_rf_s, va_rf_n, and_true, true_and, and_false, false_and, if_true, if_false, not_true_eq_false, not_false_eq_true, reduceCtorEq, ↓reduceIte, Nat.reduceAdd, Nat.reduceEqDiff, Nat.reduceLT, Nat.reduceLeDiff, Nat.reduceSub, Nat.zero_ne_one, Nat.one_ne_zero, a0, b0, b1, b2, b3, b4, a83, a84, l84, r83, a372, r372, a373, l373, a374, l374, memW_83, memW_372, memW_373, memW_s83, memW_s372, memW_s373, km, LM]
      simp only [x75_0, x75_1, x75_4, x75_5, x75_8, evI_i, evJl_i, evJf_i, evJd_i, evA_r, evA_n, evA_q, evLk_c, evS1_d, evS2_d, evFl_n, evFl_c, evGl_n, evGl_c, evIn_n, evIn_c, evCat_i, evCat_l, evCat_f, evCat_d, evCat_r, evCat_z, evCat_q, evBd_some, evTl_s, evTl_n, va_rf_s, va_rf_n, and_true, true_and, and_false, false_and, if_true, if_false, not_true_eq_false, not_false_eq_true, reduceCtorEq, ↓reduceIte, Nat.reduceAdd, Nat.reduceEqDiff, Nat.reduceLT, Nat.reduceLeDiff, Nat.reduceSub, Nat.zero_ne_one, Nat.one_ne_zero, a0, b0, b1, b2, b3, b4, a83, a84, l84, r83, a372, r372, a373, l373, a374, l374, memW_83, memW_372, memW_373, memW_s83, memW_s372, memW_s373, A, Option.toList, List.nil_append, List.cons_append]
end PU
section MO
variable {h : evH} {m : evM} {c : Nat} {u : Nat → Nat → Int32}
theorem c_mput (hu : mOK h c) {L : Nat} (hL : L ≤ 80) (h7 : u 0 7 = nI L) (x : Int64) : (plBad (plF 8 0 x true) → evX 140 0 [(0, .ref c), (1, .long x)] [] h (evGM m c 9 u) = some (some (.int (-2)), h, evGM m c 9 u)) ∧ (¬ plBad (plF 8 0 x true) → evX 140 0 [(0, .ref c), (1, .long x)] [] h (evGM m c 9 u) = some (some (.int (if 80 < L + (plF 8 0 x true).1 then -4 else nI (L + (plF 8 0 x true).1))), h, evGM m c 9 (if 80 < L + (plF 8 0 x true).1 then u else apU u 6 0 7 x (plF 8 0 x true).1 L (plF 8 0 x true).1))) := by
  obtain ⟨w0, w1, w2, w3, w4, w5, w6, w7, w8, w9, w10, w11, w12, w13, w14, w15, w16, w17, w18, w19, w20, w21, w22, w23, w24⟩ := id hu
  have t1 : ¬ evBl true = 0 := by decide
  have n10 : ¬ (1 : Int32) = 0 := by decide
  have lp : ∀ (d k : Nat) (y : Int64) (b : Bool), k + d = 8 → evX 140 8 [(0, .ref c), (1, .long x), (3, .int (nI k)), (4, .long y), (6, .int (evBl b))] [] h (evGM m c 9 u) = evX 140 67 [(0, .ref c), (1, .long x), (3, .int (nI (plF d k y b).1)), (4, .long (plF d k y b).2.1), (6, .int (evBl (plF d k y b).2.2))] [] h (evGM m c 9 u) := by
    intro d
    induction d with
    | zero =>
      intro k y b hk
      have e8 : (8 : Int32) ≤ nI k := nI_le (a := 8) (by omega) (by omega)
      show _ = evX 140 67 [(0, .ref c), (1, .long x), (3, .int (nI k)), (4, .long y), (6, .int (evBl b))] [] h (evGM m c 9 u)
      simp only [x140_8, x140_9, x140_11, evI_i, evJl_i, evJf_i, evJd_i, evA_r, evA_n, evA_q, evLk_c, evS1_d, evS2_d, evFl_n, evFl_c, evGl_n, evGl_c, evIn_n, evIn_c, evCat_i, evCat_l, evCat_f, evCat_d, evCat_r, evCat_z, evCat_q, evBd_some, evTl_s, evTl_n, va_rf_s, va_rf_n, and_true, true_and, and_false, false_and, if_true, if_false, not_true_eq_false, not_false_eq_true, reduceCtorEq, ↓reduceIte, Nat.reduceAdd, Nat.reduceEqDiff, Nat.reduceLT, Nat.reduceLeDiff, Nat.reduceSub, Nat.zero_ne_one, Nat.one_ne_zero, e8]
    | succ d ih =>
      intro k y b hk
      have e8 : ¬ (8 : Int32) ≤ nI k := nI_ge (b := 8) (by omega) (by omega)
      have e1 : nI k + 1 = nI (k + 1) := (nI_succ k).symm
      unfold plF
      by_cases h0 : y &&& 255 = 0
      · rw [if_pos h0]
        simp only [x140_8, x140_9, x140_11, x140_14, x140_16, x140_19, x140_20, x140_21, x140_22, evI_i, evJl_i, evJf_i, evJd_i, evA_r, evA_n, evA_q, evLk_c, evS1_d, evS2_d, evFl_n, evFl_c, evGl_n, evGl_c, evIn_n, evIn_c, evCat_i, evCat_l, evCat_f, evCat_d, evCat_r, evCat_z, evCat_q, evBd_some, evTl_s, evTl_n, va_rf_s, va_rf_n, and_true, true_and, and_false, false_and, if_true, if_false, not_true_eq_false, not_false_eq_true, reduceCtorEq, ↓reduceIte, Nat.reduceAdd, Nat.reduceEqDiff, Nat.reduceLT, Nat.reduceLeDiff, Nat.reduceSub, Nat.zero_ne_one, Nat.one_ne_zero, e8, cmp_0, h0]
      · rw [if_neg h0, ← ih (k + 1) (sh8 y) (b && okB y) (by omega)]
        have es : (y.toUInt64 >>> ((8 : Int32).toInt64.toUInt64 &&& Int64.toUInt64 63)).toInt64 = sh8 y := rfl
        have ew : wiB (y &&& 255).toInt32 33 126 = okB y := rfl
        cases b with
        | false =>
          conv => lhs; rw [x140_8]
          simp only [x140_9, x140_11, x140_14, x140_16, x140_19, x140_20, x140_21, x140_22, x140_25, x140_27, x140_30, x140_32, x140_35, x140_36, x140_37, x140_39, x140_41, x140_44, x140_47, x140_48, x140_51, x140_52, x140_54, x140_56, x140_58, x140_59, x140_61, x140_64, evI_i, evJl_i, evJf_i, evJd_i, evA_r, evA_n, evA_q, evLk_c, evS1_d, evS2_d, evFl_n, evFl_c, evGl_n, evGl_c, evIn_n, evIn_c, evCat_i, evCat_l, evCat_f, evCat_d, evCat_r, evCat_z, evCat_q, evBd_some, evTl_s, evTl_n, va_rf_s, va_rf_n, and_true, true_and, and_false, false_and, if_true, if_false, not_true_eq_false, not_false_eq_true, reduceCtorEq, ↓reduceIte, Nat.reduceAdd, Nat.reduceEqDiff, Nat.reduceLT, Nat.reduceLeDiff, Nat.reduceSub, Nat.zero_ne_one, Nat.one_ne_zero, e8, e1, cmp_0, h0, es, evBl_f, Bool.false_and]
        | true =>
          cases hb : okB y with
          | true =>
            conv => lhs; rw [x140_8]
            simp only [x140_9, x140_11, x140_14, x140_16, x140_19, x140_20, x140_21, x140_22, x140_25, x140_27, x140_30, x140_32, x140_35, x140_36, x140_37, x140_39, x140_41, x140_44, x140_47, x140_48, x140_51, x140_52, x140_54, x140_56, x140_58, x140_59, x140_61, x140_64, evI_i, evJl_i, evJf_i, evJd_i, evA_r, evA_n, evA_q, evLk_c, evS1_d, evS2_d, evFl_n, evFl_c, evGl_n, evGl_c, evIn_n, evIn_c, evCat_i, evCat_l, evCat_f, evCat_d, evCat_r, evCat_z, evCat_q, evBd_some, evTl_s, evTl_n, va_rf_s, va_rf_n, and_true, true_and, and_false, false_and, if_true, if_false, not_true_eq_false, not_false_eq_true, reduceCtorEq, ↓reduceIte, Nat.reduceAdd, Nat.reduceEqDiff, Nat.reduceLT, Nat.reduceLeDiff, Nat.reduceSub, Nat.zero_ne_one, Nat.one_ne_zero, e8, e1, cmp_0, h0, es, t1, n10, c_within, ew, hb, evBl_t, Bool.and_self, Option.toList, List.nil_append, List.cons_append]
          | false =>
            conv => lhs; rw [x140_8]
            simp only [x140_9, x140_11, x140_14, x140_16, x140_19, x140_20, x140_21, x140_22, x140_25, x140_27, x140_30, x140_32, x140_35, x140_36, x140_37, x140_39, x140_41, x140_44, x140_47, x140_48, x140_51, x140_52, x140_54, x140_56, x140_58, x140_59, x140_61, x140_64, evI_i, evJl_i, evJf_i, evJd_i, evA_r, evA_n, evA_q, evLk_c, evS1_d, evS2_d, evFl_n, evFl_c, evGl_n, evGl_c, evIn_n, evIn_c, evCat_i, evCat_l, evCat_f, evCat_d, evCat_r, evCat_z, evCat_q, evBd_some, evTl_s, evTl_n, va_rf_s, va_rf_n, and_true, true_and, and_false, false_and, if_true, if_false, not_true_eq_false, not_false_eq_true, reduceCtorEq, ↓reduceIte, Nat.reduceAdd, Nat.reduceEqDiff, Nat.reduceLT, Nat.reduceLeDiff, Nat.reduceSub, Nat.zero_ne_one, Nat.one_ne_zero, e8, e1, cmp_0, h0, es, t1, c_within, ew, hb, evBl_f, Bool.and_false, Option.toList, List.nil_append, List.cons_append]
  have LP := lp 8 0 x true rfl
  have hle := plF_le 8 0 x true
  have st : evX 140 0 [(0, .ref c), (1, .long x)] [] h (evGM m c 9 u) = evX 140 8 [(0, .ref c), (1, .long x), (3, .int (nI 0)), (4, .long x), (6, .int (evBl true))] [] h (evGM m c 9 u) := by
    simp only [x140_0, x140_1, x140_2, x140_3, x140_5, x140_6, evI_i, evJl_i, evJf_i, evJd_i, evA_r, evA_n, evA_q, evLk_c, evS1_d, evS2_d, evFl_n, evFl_c, evGl_n, evGl_c, evIn_n, evIn_c, evCat_i, evCat_l, evCat_f, evCat_d, evCat_r, evCat_z, evCat_q, evBd_some, evTl_s, evTl_n, va_rf_s, va_rf_n, and_true, true_and, and_false, false_and, if_true, if_false, not_true_eq_false, not_false_eq_true, reduceCtorEq, ↓reduceIte, Nat.reduceAdd, Nat.reduceEqDiff, Nat.reduceLT, Nat.reduceLeDiff, Nat.reduceSub, Nat.zero_ne_one, Nat.one_ne_zero]
    rfl
  rw [st, LP]
  generalize plF 8 0 x true = r at *
  obtain ⟨k, y, b⟩ := r
  dsimp only at *
  constructor
  · rintro (hk | hb | hy)
    · have hk' : k = 0 := hk
      subst hk'
      have z0 : nI 0 = 0 := rfl
      simp only [x140_67, x140_68, x140_71, x140_73, x140_76, x140_78, x140_79, x140_80, x140_83, x140_85, evI_i, evJl_i, evJf_i, evJd_i, evA_r, evA_n, evA_q, evLk_c, evS1_d, evS2_d, evFl_n, evFl_c, evGl_n, evGl_c, evIn_n, evIn_c, evCat_i, evCat_l, evCat_f, evCat_d, evCat_r, evCat_z, evCat_q, evBd_some, evTl_s, evTl_n, va_rf_s, va_rf_n, and_true, true_and, and_false, false_and, if_true, if_false, not_true_eq_false, not_false_eq_true, reduceCtorEq, ↓reduceIte, Nat.reduceAdd, Nat.reduceEqDiff, Nat.reduceLT, Nat.reduceLeDiff, Nat.reduceSub, Nat.zero_ne_one, Nat.one_ne_zero, z0]
    · have hb' : b = false := hb
      subst hb'
      by_cases z0 : nI k = 0
      · simp only [x140_67, x140_68, x140_71, x140_73, x140_76, x140_78, x140_79, x140_80, x140_83, x140_85, evI_i, evJl_i, evJf_i, evJd_i, evA_r, evA_n, evA_q, evLk_c, evS1_d, evS2_d, evFl_n, evFl_c, evGl_n, evGl_c, evIn_n, evIn_c, evCat_i, evCat_l, evCat_f, evCat_d, evCat_r, evCat_z, evCat_q, evBd_some, evTl_s, evTl_n, va_rf_s, va_rf_n, and_true, true_and, and_false, false_and, if_true, if_false, not_true_eq_false, not_false_eq_true, reduceCtorEq, ↓reduceIte, Nat.reduceAdd, Nat.reduceEqDiff, Nat.reduceLT, Nat.reduceLeDiff, Nat.reduceSub, Nat.zero_ne_one, Nat.one_ne_zero, z0]
      · simp only [x140_67, x140_68, x140_71, x140_73, x140_76, x140_78, x140_79, x140_80, x140_83, x140_85, evI_i, evJl_i, evJf_i, evJd_i, evA_r, evA_n, evA_q, evLk_c, evS1_d, evS2_d, evFl_n, evFl_c, evGl_n, evGl_c, evIn_n, evIn_c, evCat_i, evCat_l, evCat_f, evCat_d, evCat_r, evCat_z, evCat_q, evBd_some, evTl_s, evTl_n, va_rf_s, va_rf_n, and_true, true_and, and_false, false_and, if_true, if_false, not_true_eq_false, not_false_eq_true, reduceCtorEq, ↓reduceIte, Nat.reduceAdd, Nat.reduceEqDiff, Nat.reduceLT, Nat.reduceLeDiff, Nat.reduceSub, Nat.zero_ne_one, Nat.one_ne_zero, z0, evBl_f]
    · have hy' : ¬ y = 0 := hy
      by_cases z0 : nI k = 0
      · simp only [x140_67, x140_68, x140_71, x140_73, x140_76, x140_78, x140_79, x140_80, x140_83, x140_85, evI_i, evJl_i, evJf_i, evJd_i, evA_r, evA_n, evA_q, evLk_c, evS1_d, evS2_d, evFl_n, evFl_c, evGl_n, evGl_c, evIn_n, evIn_c, evCat_i, evCat_l, evCat_f, evCat_d, evCat_r, evCat_z, evCat_q, evBd_some, evTl_s, evTl_n, va_rf_s, va_rf_n, and_true, true_and, and_false, false_and, if_true, if_false, not_true_eq_false, not_false_eq_true, reduceCtorEq, ↓reduceIte, Nat.reduceAdd, Nat.reduceEqDiff, Nat.reduceLT, Nat.reduceLeDiff, Nat.reduceSub, Nat.zero_ne_one, Nat.one_ne_zero, z0]
      · cases b with
        | false => simp only [x140_67, x140_68, x140_71, x140_73, x140_76, x140_78, x140_79, x140_80, x140_83, x140_85, evI_i, evJl_i, evJf_i, evJd_i, evA_r, evA_n, evA_q, evLk_c, evS1_d, evS2_d, evFl_n, evFl_c, evGl_n, evGl_c, evIn_n, evIn_c, evCat_i, evCat_l, evCat_f, evCat_d, evCat_r, evCat_z, evCat_q, evBd_some, evTl_s, evTl_n, va_rf_s, va_rf_n, and_true, true_and, and_false, false_and, if_true, if_false, not_true_eq_false, not_false_eq_true, reduceCtorEq, ↓reduceIte, Nat.reduceAdd, Nat.reduceEqDiff, Nat.reduceLT, Nat.reduceLeDiff, Nat.reduceSub, Nat.zero_ne_one, Nat.one_ne_zero, z0, evBl_f]
        | true => simp only [x140_67, x140_68, x140_71, x140_73, x140_76, x140_78, x140_79, x140_80, x140_83, x140_85, evI_i, evJl_i, evJf_i, evJd_i, evA_r, evA_n, evA_q, evLk_c, evS1_d, evS2_d, evFl_n, evFl_c, evGl_n, evGl_c, evIn_n, evIn_c, evCat_i, evCat_l, evCat_f, evCat_d, evCat_r, evCat_z, evCat_q, evBd_some, evTl_s, evTl_n, va_rf_s, va_rf_n, and_true, true_and, and_false, false_and, if_true, if_false, not_true_eq_false, not_false_eq_true, reduceCtorEq, ↓reduceIte, Nat.reduceAdd, Nat.reduceEqDiff, Nat.reduceLT, Nat.reduceLeDiff, Nat.reduceSub, Nat.zero_ne_one, Nat.one_ne_zero, z0, t1, cmp_0, hy']
  · intro hno
    have hk : k ≠ 0 := fun z => hno (Or.inl z)
    have hb : b = true := by cases b with
      | true => rfl
      | false => exact absurd (Or.inr (Or.inl rfl)) hno
    have hy : y = 0 := Decidable.not_not.mp (fun z => hno (Or.inr (Or.inr z)))
    subst hb
    have z0 : ¬ nI k = 0 := nI_ne0 (by omega) (by omega)
    have ea : nI L + nI k = nI (L + k) := nI_add L k
    by_cases h8 : 80 < L + k
    · have e8 : ¬ nI (L + k) ≤ 80 := nI_ge (a := 80) h8 (by omega)
      rw [if_pos h8, if_pos h8]
      simp only [x140_67, x140_68, x140_71, x140_73, x140_76, x140_78, x140_79, x140_80, x140_83, x140_85, x140_86, x140_87, x140_90, x140_91, x140_92, x140_94, x140_97, x140_99, evI_i, evJl_i, evJf_i, evJd_i, evA_r, evA_n, evA_q, evLk_c, evS1_d, evS2_d, evFl_n, evFl_c, evGl_n, evGl_c, evIn_n, evIn_c, evCat_i, evCat_l, evCat_f, evCat_d, evCat_r, evCat_z, evCat_q, evBd_some, evTl_s, evTl_n, va_rf_s, va_rf_n, and_true, true_and, and_false, false_and, if_true, if_false, not_true_eq_false, not_false_eq_true, reduceCtorEq, ↓reduceIte, Nat.reduceAdd, Nat.reduceEqDiff, Nat.reduceLT, Nat.reduceLeDiff, Nat.reduceSub, Nat.zero_ne_one, Nat.one_ne_zero, w0, w1, w2, w3, w4, w5, w6, w7, w8, w9, w10, w11, w12, w13, w14, w15, w16, w17, w18, w19, w20, w21, w22, w23, w24, evGM_get, evGM_set, evGM_get0, evGM_set0, z0, t1, cmp_0, hy, h7, ea, e8]
    · have e8 : nI (L + k) ≤ 80 := nI_le (b := 80) (by omega) (by omega)
      rw [if_neg h8, if_neg h8]
      have LEN := fun j => apU_len u (o := 6) (lo := 0) (lj := 7) x k L j h7 (by decide)
      have lp2 : ∀ j, j ≤ k → evX 140 105 [(0, .ref c), (1, .long x), (3, .int (nI k)), (4, .long y), (6, .int (evBl true)), (7, .int (nI k - 1))] [] h (evGM m c 9 (apU u 6 0 7 x k L 0)) = evX 140 105 [(0, .ref c), (1, .long x), (3, .int (nI k)), (4, .long y), (6, .int (evBl true)), (7, .int (nI (k - j) - 1))] [] h (evGM m c 9 (apU u 6 0 7 x k L j)) := by
        intro j
        induction j with
        | zero => intro _; rw [Nat.sub_zero]
        | succ j ih =>
          intro hj
          rw [ih (by omega)]
          have k1 : nI (k - j) - 1 = nI (k - 1 - j) := by rw [show (1 : Int32) = nI 1 from rfl, pk_sub (by omega)]; congr 1; omega
          have k2 : nI (k - 1 - j) + -1 = nI (k - (j + 1)) - 1 := by rw [show k - 1 - j = k - (j + 1) by omega]; exact (Int32.sub_eq_add_neg _ _).symm
          have k0 : ¬ nI (k - 1 - j) < 0 := nI_pos (by omega)
          have f0 : ¬ nI (L + j) < 0 := nI_pos (by omega)
          have f2 : (nI (L + j)).toNatClampNeg = L + j := nI_cl _ (by omega)
          have f3 : L + j < 80 := by omega
          have f4 : nI (L + j) + 1 = nI (L + j + 1) := (nI_succ _).symm
          have LJ := LEN j
          have LJ' : ms (apU u 6 0 7 x k L j) 6 (L + j) (byV x (k - 1 - j)) 0 7 = nI (L + j) := by rw [ms_at, if_neg (by omega)]; exact LJ
          have eb : ((x.toUInt64 >>> ((8 * nI (k - 1 - j) : Int32).toInt64.toUInt64 &&& Int64.toUInt64 63)).toInt64 &&& 255).toInt32 = byV x (k - 1 - j) := rfl
          rw [k1]
          conv => lhs; rw [x140_105]
          show _ = evX 140 105 _ _ _ (evGM m c 9 (ms (ms (apU u 6 0 7 x k L j) 6 (L + j) (byV x (k - 1 - j))) 0 7 (nI (L + j + 1))))
          simp only [x140_107, x140_110, x140_111, x140_114, x140_115, x140_118, x140_119, x140_121, x140_123, x140_124, x140_125, x140_128, x140_129, x140_130, x140_131, x140_132, x140_133, x140_136, x140_137, x140_138, x140_141, x140_144, evI_i, evJl_i, evJf_i, evJd_i, evA_r, evA_n, evA_q, evLk_c, evS1_d, evS2_d, evFl_n, evFl_c, evGl_n, evGl_c, evIn_n, evIn_c, evCat_i, evCat_l, evCat_f, evCat_d, evCat_r, evCat_z, evCat_q, evBd_some, evTl_s, evTl_n, va_rf_s, va_rf_n, and_true, true_and, and_false, false_and, if_true, if_false, not_true_eq_false, not_false_eq_true, reduceCtorEq, ↓reduceIte, Nat.reduceAdd, Nat.reduceEqDiff, Nat.reduceLT, Nat.reduceLeDiff, Nat.reduceSub, Nat.zero_ne_one, Nat.one_ne_zero, w0, w1, w2, w3, w4, w5, w6, w7, w8, w9, w10, w11, w12, w13, w14, w15, w16, w17, w18, w19, w20, w21, w22, w23, w24, evGM_get, evGM_set, evGM_get0, evGM_set0, k0, k2, LJ, LJ', f0, f2, f3, f4, eb]
      have fin := lp2 k (Nat.le_refl k)
      rw [Nat.sub_self] at fin
      have km : nI 0 - 1 < 0 := by decide
      have LM := LEN k
      have st2 : evX 140 67 [(0, .ref c), (1, .long x), (3, .int (nI k)), (4, .long y), (6, .int (evBl true))] [] h (evGM m c 9 u) = evX 140 105 [(0, .ref c), (1, .long x), (3, .int (nI k)), (4, .long y), (6, .int (evBl true)), (7, .int (nI k - 1))] [] h (evGM m c 9 (apU u 6 0 7 x k L 0)) := by
        simp only [x140_67, x140_68, x140_71, x140_73, x140_76, x140_78, x140_79, x140_80, x140_83, x140_85, x140_86, x140_87, x140_90, x140_91, x140_92, x140_94, x140_97, x140_99, x140_100, x140_101, x140_102, x140_103, evI_i, evJl_i, evJf_i, evJd_i, evA_r, evA_n, evA_q, evLk_c, evS1_d, evS2_d, evFl_n, evFl_c, evGl_n, evGl_c, evIn_n, evIn_c, evCat_i, evCat_l, evCat_f, evCat_d, evCat_r, evCat_z, evCat_q, evBd_some, evTl_s, evTl_n, va_rf_s, va_rf_n, and_true, true_and, and_false, false_and, if_true, if_false, not_true_eq_false, not_false_eq_true, reduceCtorEq, ↓reduceIte, Nat.reduceAdd, Nat.reduceEqDiff, Nat.reduceLT, Nat.reduceLeDiff, Nat.reduceSub, Nat.zero_ne_one, Nat.one_ne_zero, w0, w1, w2, w3, w4, w5, w6, w7, w8, w9, w10, w11, w12, w13, w14, w15, w16, w17, w18, w19, w20, w21, w22, w23, w24, evGM_get, evGM_set, evGM_get0, evGM_set0, z0, t1, cmp_0, hy, h7, ea, e8]
        rfl
      rw [st2, fin]
      simp only [x140_105, x140_107, x140_147, x140_148, x140_151, evI_i, evJl_i, evJf_i, evJd_i, evA_r, evA_n, evA_q, evLk_c, evS1_d, evS2_d, evFl_n, evFl_c, evGl_n, evGl_c, evIn_n, evIn_c, evCat_i, evCat_l, evCat_f, evCat_d, evCat_r, evCat_z, evCat_q, evBd_some, evTl_s, evTl_n, va_rf_s, va_rf_n, and_true, true_and, and_false, false_and, if_true, if_false, not_true_eq_false, not_false_eq_true, reduceCtorEq, ↓reduceIte, Nat.reduceAdd, Nat.reduceEqDiff, Nat.reduceLT, Nat.reduceLeDiff, Nat.reduceSub, Nat.zero_ne_one, Nat.one_ne_zero, w0, w1, w2, w3, w4, w5, w6, w7, w8, w9, w10, w11, w12, w13, w14, w15, w16, w17, w18, w19, w20, w21, w22, w23, w24, evGM_get, evGM_set, evGM_get0, evGM_set0, km, LM]
end MO
