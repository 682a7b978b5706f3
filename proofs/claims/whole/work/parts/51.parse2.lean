/-! the model: numbers and orders of the pad -/
def isD (g : Nat → Int32) (p : Nat) : Bool := wiB (g p) 48 57
def nuF (g : Nat → Int32) : Nat → Nat → Int32 → Nat × Int32
  | 0, p, v => (p, v)
  | k + 1, p, v => if 0 < v ∧ isD g p = true then nuF g k (p + 1) (10 * v + g p - 48) else (p, v)
def nuA (g : Nat → Int32) (p : Nat) : Nat × Int32 := nuF g 3 (p + 1) (g p - 48)
def ordF (g : Nat → Int32) (p : Nat) : Bool × Nat × Int32 × Int32 :=
  if g p = 43 then
    (if isD g (p + 1) = true then
      (if g (nuA g (p + 1)).1 = 42 then
        (if isD g ((nuA g (p + 1)).1 + 1) = true then (true, (nuA g ((nuA g (p + 1)).1 + 1)).1, (nuA g (p + 1)).2, (nuA g ((nuA g (p + 1)).1 + 1)).2)
         else (false, (nuA g (p + 1)).1 + 1, 0, 0))
       else (false, (nuA g (p + 1)).1, 0, 0))
     else (false, p + 1, 0, 0))
  else if g p = 98 then
    (if isD g (p + 1) = true then
      (if g (p + 2) = 61 then
        (if isD g (p + 3) = true then (true, (nuA g (p + 3)).1, g (p + 1) - 48, (nuA g (p + 3)).2)
         else (false, p + 3, 0, 0))
       else (false, p + 2, 0, 0))
     else (false, p + 1, 0, 0))
  else if g p = 108 ∨ g p = 116 then
    (if isD g (p + 1) = true then (true, (nuA g (p + 1)).1, (nuA g (p + 1)).2, 0) else (false, p + 1, 0, 0))
  else (false, p, 0, 0)
theorem isD_of {g : Nat → Int32} {p : Nat} (hd : isD g p = true) : ∃ d, d ≤ 9 ∧ g p = nI (48 + d) := by
  unfold isD wiB at hd
  rw [Bool.and_eq_true, decide_eq_true_eq, decide_eq_true_eq] at hd
  obtain ⟨h1, h2⟩ := hd
  have h0 : ¬ g p < 0 := by
    intro q
    exact absurd (Int32.lt_of_lt_of_le q (show (0 : Int32) ≤ 48 by decide)) (fun z => i32_ff h1 z)
  obtain ⟨w, hw, e⟩ := nI_of h0
  rw [e] at h1 h2
  have a := (nI_leI (a := 48) (by omega) hw).mp h1
  have b := (nI_leI (b := 57) hw (by omega)).mp h2
  exact ⟨w - 48, by omega, by rw [e]; congr 1; omega⟩
theorem nuF_le {g : Nat → Int32} {L : Nat} (hg : ∀ p, isD g p = true → p < L) (k p : Nat) (v : Int32) (hp : p ≤ L) : (nuF g k p v).1 ≤ L ∧ p ≤ (nuF g k p v).1 := by
  induction k generalizing p v with
  | zero => exact ⟨hp, Nat.le_refl _⟩
  | succ k ih =>
    unfold nuF
    split
    · rename_i h
      have := hg p h.2
      have := ih (p + 1) (10 * v + g p - 48) (by omega)
      omega
    · exact ⟨hp, Nat.le_refl _⟩
theorem nuA_le {g : Nat → Int32} {L : Nat} (hg : ∀ p, isD g p = true → p < L) {p : Nat} (hd : isD g p = true) : (nuA g p).1 ≤ L ∧ p + 1 ≤ (nuA g p).1 := nuF_le hg _ _ _ (hg p hd)
theorem chV_D {u : Nat → Nat → Int32} {L : Nat} (p : Nat) (h : isD (chV u L) p = true) : p < L := by
  unfold isD wiB chV at h
  by_cases hp : p < L
  · exact hp
  · rw [if_neg hp] at h
    exact absurd h (by decide)
def pdU (u : Nat → Nat → Int32) (p : Nat) (l k a b : Int32) : Nat → Nat → Int32 := fun o j => if o = 0 ∧ j = 12 then nI p else if o = 0 ∧ j = 13 then l else if o = 0 ∧ j = 15 then k else if o = 8 ∧ j = 0 then a else if o = 8 ∧ j = 1 then b else u o j
section PD
variable (u : Nat → Nat → Int32) (p : Nat) (l k a b : Int32)
theorem pdU_12 (p' : Nat) : ms (pdU u p l k a b) 0 12 (nI p') = pdU u p' l k a b := by
  funext o j
  unfold ms pdU
  grind
theorem pdU_13 (x : Int32) : ms (pdU u p l k a b) 0 13 x = pdU u p x k a b := by
  funext o j
  unfold ms pdU
  grind
theorem pdU_15 (x : Int32) : ms (pdU u p l k a b) 0 15 x = pdU u p l x a b := by
  funext o j
  unfold ms pdU
  grind
theorem pdU_80 (x : Int32) : ms (pdU u p l k a b) 8 0 x = pdU u p l k x b := by
  funext o j
  unfold ms pdU
  grind
theorem pdU_81 (x : Int32) : ms (pdU u p l k a b) 8 1 x = pdU u p l k a x := by
  funext o j
  unfold ms pdU
  grind
theorem pdU_i : ms u 0 12 (nI p) = pdU u p (u 0 13) (u 0 15) (u 8 0) (u 8 1) := by
  funext o j
  unfold ms pdU
  grind
theorem pdU_g12 : pdU u p l k a b 0 12 = nI p := id rfl
theorem pdU_g13 : pdU u p l k a b 0 13 = l := id rfl
theorem pdU_g15 : pdU u p l k a b 0 15 = k := id rfl
theorem pdU_g7 : pdU u p l k a b 0 7 = u 0 7 := id rfl
theorem pdU_g3 : pdU u p l k a b 0 3 = u 0 3 := id rfl
theorem pdU_g80 : pdU u p l k a b 8 0 = a := id rfl
theorem pdU_g81 : pdU u p l k a b 8 1 = b := id rfl
theorem pdU_o {o : Nat} (j : Nat) (h0 : o ≠ 0) (h8 : o ≠ 8) : pdU u p l k a b o j = u o j := by
  unfold pdU
  grind
theorem pdU_ch (L : Nat) : chV (pdU u p l k a b) L = chV u L := by
  funext q
  unfold chV
  rw [pdU_o _ _ _ _ _ _ _ (by decide) (by decide)]
end PD
def tkA (k : Nat) (v a : Int32) : Int32 := if k = 0 then v else a
def tkB (k : Nat) (v b : Int32) : Int32 := if k = 1 then v else b
section MO
variable {h : evH} {m : evM} {c : Nat} {u : Nat → Nat → Int32}
theorem c_takes (hu : mOK h c) (p : Nat) (l a b v : Int32) {k : Nat} (hk : k < 2) : evX 145 0 [(0, .ref c), (1, .int v)] [] h (evGM m c 9 (pdU u p l (nI k) a b)) = some (none, h, evGM m c 9 (pdU u p l (nI (k + 1)) (tkA k v a) (tkB k v b))) := by
  obtain ⟨w0, w1, w2, w3, w4, w5, w6, w7, w8, w9, w10, w11, w12, w13, w14, w15, w16, w17, w18, w19, w20, w21, w22, w23, w24⟩ := id hu
  have e0 : ¬ nI k < 0 := nI_pos (by omega)
  have e1 : (nI k).toNatClampNeg = k := nI_cl _ (by omega)
  have e2 : nI k + 1 = nI (k + 1) := (nI_succ k).symm
  have hc : k = 0 ∨ k = 1 := by omega
  rcases hc with rfl | rfl
  · have g : ms (pdU u p l (nI 0) a b) 8 0 v 0 15 = nI 0 := id rfl
    simp only [x145_0, x145_1, x145_4, x145_5, x145_8, x145_9, x145_10, x145_11, x145_12, x145_15, x145_16, x145_17, x145_20, evI_i, evJl_i, evJf_i, evJd_i, evA_r, evA_n, evA_q, evLk_c, evS1_d, evS2_d, evFl_n, evFl_c, evGl_n, evGl_c, evIn_n, evIn_c, evCat_i, evCat_l, evCat_f, evCat_d, evCat_r, evCat_z, evCat_q, evBd_some, evTl_s, evTl_n, va_rf_s, va_rf_n, and_true, true_and, and_false, false_and, if_true, if_false, not_true_eq_false, not_false_eq_true, reduceCtorEq, ↓reduceIte, Nat.reduceAdd, Nat.reduceEqDiff, Nat.reduceLT, Nat.reduceLeDiff, Nat.reduceSub, Nat.zero_ne_one, Nat.one_ne_zero, w0, w1, w2, w3, w4, w5, w6, w7, w8, w9, w10, w11, w12, w13, w14, w15, w16, w17, w18, w19, w20, w21, w22, w23, w24, evGM_get, evGM_set, evGM_get0, evGM_set0, pdU_g15, e0, e1, g, pdU_80, pdU_15, tkA, tkB, show nI 0 + 1 = nI (0 + 1) from e2]
  · have g : ms (pdU u p l (nI 1) a b) 8 1 v 0 15 = nI 1 := id rfl
    simp only [x145_0, x145_1, x145_4, x145_5, x145_8, x145_9, x145_10, x145_11, x145_12, x145_15, x145_16, x145_17, x145_20, evI_i, evJl_i, evJf_i, evJd_i, evA_r, evA_n, evA_q, evLk_c, evS1_d, evS2_d, evFl_n, evFl_c, evGl_n, evGl_c, evIn_n, evIn_c, evCat_i, evCat_l, evCat_f, evCat_d, evCat_r, evCat_z, evCat_q, evBd_some, evTl_s, evTl_n, va_rf_s, va_rf_n, and_true, true_and, and_false, false_and, if_true, if_false, not_true_eq_false, not_false_eq_true, reduceCtorEq, ↓reduceIte, Nat.reduceAdd, Nat.reduceEqDiff, Nat.reduceLT, Nat.reduceLeDiff, Nat.reduceSub, Nat.zero_ne_one, Nat.one_ne_zero, w0, w1, w2, w3, w4, w5, w6, w7, w8, w9, w10, w11, w12, w13, w14, w15, w16, w17, w18, w19, w20, w21, w22, w23, w24, evGM_get, evGM_set, evGM_get0, evGM_set0, pdU_g15, e0, e1, g, pdU_81, pdU_15, tkA, tkB, show nI 1 + 1 = nI (1 + 1) from e2]
theorem c_isD (hu : mOK h c) {L p : Nat} (hL : L ≤ 80) (hp : p < 1000) (h7 : u 0 7 = nI L) (l k a b : Int32) : evX 144 0 [(0, .ref c)] [] h (evGM m c 9 (pdU u p l k a b)) = some (some (.int (evBl (isD (chV u L) p))), h, evGM m c 9 (pdU u p l k a b)) := by
  have C := c_misDigit (m := m) (u := pdU u p l k a b) hu hL hp h7 rfl
  rw [pdU_ch] at C
  exact C
theorem c_isN (hu : mOK h c) {L p : Nat} (hL : L ≤ 80) (hp : p < 1000) (h7 : u 0 7 = nI L) (l k a b x : Int32) : evX 143 0 [(0, .ref c), (1, .int x)] [] h (evGM m c 9 (pdU u p l k a b)) = some (some (.int (evBl (decide (chV u L p = x)))), h, evGM m c 9 (if chV u L p = x then pdU u (p + 1) l k a b else pdU u p l k a b)) := by
  have C := c_misNext (m := m) (u := pdU u p l k a b) hu hL hp h7 rfl x
  rw [pdU_ch, pdU_12, pdU_12] at C
  exact C
theorem c_chr (hu : mOK h c) {L p : Nat} (hL : L ≤ 80) (hp : p < 1000) (h7 : u 0 7 = nI L) (q : Nat) (l k a b : Int32) : evX 142 0 [(0, .ref c), (1, .int (nI p))] [] h (evGM m c 9 (pdU u q l k a b)) = some (some (.int (chV u L p)), h, evGM m c 9 (pdU u q l k a b)) := by
  have C := c_char (m := m) (u := pdU u q l k a b) hu hL hp h7
  rw [pdU_ch] at C
  exact C
theorem c_takesDigit (hu : mOK h c) {L p : Nat} (hL : L ≤ 80) (hp : p < 900) (h7 : u 0 7 = nI L) (l a b : Int32) {k : Nat} (hk : k < 2) : evX 146 0 [(0, .ref c)] [] h (evGM m c 9 (pdU u p l (nI k) a b)) = some (some (.int (evBl (isD (chV u L) p))), h, evGM m c 9 (if isD (chV u L) p = true then pdU u (p + 1) l (nI (k + 1)) (tkA k (chV u L p - 48) a) (tkB k (chV u L p - 48) b) else pdU u p l (nI k) a b)) := by
  obtain ⟨w0, w1, w2, w3, w4, w5, w6, w7, w8, w9, w10, w11, w12, w13, w14, w15, w16, w17, w18, w19, w20, w21, w22, w23, w24⟩ := id hu
  have e1 : nI p + 1 = nI (p + 1) := (nI_succ p).symm
  have t1 : ¬ evBl true = 0 := by decide
  have n10 : ¬ (1 : Int32) = 0 := by decide
  have ID := c_isD (m := m) (u := u) hu hL (p := p) (by omega) h7
  have CH := c_chr (m := m) (u := u) hu hL (p := p) (by omega) h7
  have TK := fun p l a b v => c_takes (m := m) (u := u) hu p l a b v hk
  by_cases hd : isD (chV u L) p = true
  · simp only [x146_0, x146_1, x146_4, x146_7, x146_8_0, x146_8_1, x146_8b, x146_9, x146_10, x146_11, x146_12, x146_15, x146_18, x146_20, x146_21, x146_24, x146_25, x146_26, x146_29, x146_30, x146_31, x146_34, x146_35_0, x146_35_1, x146_35b, evI_i, evJl_i, evJf_i, evJd_i, evA_r, evA_n, evA_q, evLk_c, evS1_d, evS2_d, evFl_n, evFl_c, evGl_n, evGl_c, evIn_n, evIn_c, evCat_i, evCat_l, evCat_f, evCat_d, evCat_r, evCat_z, evCat_q, evBd_some, evTl_s, evTl_n, va_rf_s, va_rf_n, and_true, true_and, and_false, false_and, if_true, if_false, not_true_eq_false, not_false_eq_true, reduceCtorEq, ↓reduceIte, Nat.reduceAdd, Nat.reduceEqDiff, Nat.reduceLT, Nat.reduceLeDiff, Nat.reduceSub, Nat.zero_ne_one, Nat.one_ne_zero, w0, w1, w2, w3, w4, w5, w6, w7, w8, w9, w10, w11, w12, w13, w14, w15, w16, w17, w18, w19, w20, w21, w22, w23, w24, evGM_get, evGM_set, evGM_get0, evGM_set0, ID, CH, TK, hd, t1, n10, pdU_g12, pdU_12, e1, evBl_t, Option.toList, List.cons_append, List.nil_append]
  · have hf := b_ne hd
    simp only [x146_0, x146_1, x146_4, x146_7, x146_8_0, x146_8_1, x146_8b, x146_9, x146_10, x146_11, x146_12, x146_15, x146_18, x146_20, x146_21, x146_24, x146_25, x146_26, x146_29, x146_30, x146_31, x146_34, x146_35_0, x146_35_1, x146_35b, evI_i, evJl_i, evJf_i, evJd_i, evA_r, evA_n, evA_q, evLk_c, evS1_d, evS2_d, evFl_n, evFl_c, evGl_n, evGl_c, evIn_n, evIn_c, evCat_i, evCat_l, evCat_f, evCat_d, evCat_r, evCat_z, evCat_q, evBd_some, evTl_s, evTl_n, va_rf_s, va_rf_n, and_true, true_and, and_false, false_and, if_true, if_false, not_true_eq_false, not_false_eq_true, reduceCtorEq, ↓reduceIte, Nat.reduceAdd, Nat.reduceEqDiff, Nat.reduceLT, Nat.reduceLeDiff, Nat.reduceSub, Nat.zero_ne_one, Nat.one_ne_zero, w0, w1, w2, w3, w4, w5, w6, w7, w8, w9, w10, w11, w12, w13, w14, w15, w16, w17, w18, w19, w20, w21, w22, w23, w24, evGM_get, evGM_set, evGM_get0, evGM_set0, ID, hf, evBl_f, Bool.false_eq_true, Option.toList, List.cons_append, List.nil_append]
theorem c_takesNumber (hu : mOK h c) {L p : Nat} (hL : L ≤ 80) (hp : p < 900) (h7 : u 0 7 = nI L) (l a b : Int32) {k : Nat} (hk : k < 2) : evX 147 0 [(0, .ref c)] [] h (evGM m c 9 (pdU u p l (nI k) a b)) = some (some (.int (evBl (isD (chV u L) p))), h, evGM m c 9 (if isD (chV u L) p = true then pdU u (nuA (chV u L) p).1 l (nI (k + 1)) (tkA k (nuA (chV u L) p).2 a) (tkB k (nuA (chV u L) p).2 b) else pdU u p l (nI k) a b)) := by
  obtain ⟨w0, w1, w2, w3, w4, w5, w6, w7, w8, w9, w10, w11, w12, w13, w14, w15, w16, w17, w18, w19, w20, w21, w22, w23, w24⟩ := id hu
  have e1 : nI p + 1 = nI (p + 1) := (nI_succ p).symm
  have t1 : ¬ evBl true = 0 := by decide
  have n10 : ¬ (1 : Int32) = 0 := by decide
  have ID := c_isD (m := m) (u := u) hu hL (p := p) (by omega) h7
  have CH := c_chr (m := m) (u := u) hu hL (p := p) (by omega) h7
  have TK := fun p l a b v => c_takes (m := m) (u := u) hu p l a b v hk
  by_cases hd : isD (chV u L) p = true
  · have ex : ∀ (q : Nat) (v : Int32), evX 147 79 [(0, .ref c), (1, .int v)] [] h (evGM m c 9 (pdU u q l (nI k) a b)) = some (some (.int (evBl true)), h, evGM m c 9 (pdU u q l (nI (k + 1)) (tkA k v a) (tkB k v b))) := fun q v => by
      simp only [x147_79, x147_80, x147_81, x147_84, x147_85_0, x147_85_1, x147_85b, evI_i, evJl_i, evJf_i, evJd_i, evA_r, evA_n, evA_q, evLk_c, evS1_d, evS2_d, evFl_n, evFl_c, evGl_n, evGl_c, evIn_n, evIn_c, evCat_i, evCat_l, evCat_f, evCat_d, evCat_r, evCat_z, evCat_q, evBd_some, evTl_s, evTl_n, va_rf_s, va_rf_n, and_true, true_and, and_false, false_and, if_true, if_false, not_true_eq_false, not_false_eq_true, reduceCtorEq, ↓reduceIte, Nat.reduceAdd, Nat.reduceEqDiff, Nat.reduceLT, Nat.reduceLeDiff, Nat.reduceSub, Nat.zero_ne_one, Nat.one_ne_zero, w0, w1, w2, w3, w4, w5, w6, w7, w8, w9, w10, w11, w12, w13, w14, w15, w16, w17, w18, w19, w20, w21, w22, w23, w24, evGM_get, evGM_set, evGM_get0, evGM_set0, TK, evBl_t, Option.toList, List.cons_append, List.nil_append]
    have lp : ∀ (j q w : Nat), j ≤ 3 → q ≤ L → w < 10 ^ (4 - j) → (w = 0 ∨ 10 ^ (3 - j) ≤ w) → evX 147 31 [(0, .ref c), (1, .int (nI w))] [] h (evGM m c 9 (pdU u q l (nI k) a b)) = some (some (.int (evBl true)), h, evGM m c 9 (pdU u (nuF (chV u L) j q (nI w)).1 l (nI (k + 1)) (tkA k (nuF (chV u L) j q (nI w)).2 a) (tkB k (nuF (chV u L) j q (nI w)).2 b))) := by
      intro j
      induction j with
      | zero =>
        intro q w _ hq hw hw'
        rcases hw' with rfl | hw'
        · have z : nI 0 ≤ (0 : Int32) := by decide
          show _ = some (some (Value.int (evBl true)), h, evGM m c 9 (pdU u q l (nI (k + 1)) (tkA k (nI 0) a) (tkB k (nI 0) b)))
          simp only [x147_31, x147_32, evI_i, evJl_i, evJf_i, evJd_i, evA_r, evA_n, evA_q, evLk_c, evS1_d, evS2_d, evFl_n, evFl_c, evGl_n, evGl_c, evIn_n, evIn_c, evCat_i, evCat_l, evCat_f, evCat_d, evCat_r, evCat_z, evCat_q, evBd_some, evTl_s, evTl_n, va_rf_s, va_rf_n, and_true, true_and, and_false, false_and, if_true, if_false, not_true_eq_false, not_false_eq_true, reduceCtorEq, ↓reduceIte, Nat.reduceAdd, Nat.reduceEqDiff, Nat.reduceLT, Nat.reduceLeDiff, Nat.reduceSub, Nat.zero_ne_one, Nat.one_ne_zero, z, ex]
        · have z : ¬ nI w ≤ (0 : Int32) := nI_nle (by omega) (by omega)
          have z' : (1000 : Int32) ≤ nI w := nI_le (a := 1000) (by omega) (by omega)
          show _ = some (some (Value.int (evBl true)), h, evGM m c 9 (pdU u q l (nI (k + 1)) (tkA k (nI w) a) (tkB k (nI w) b)))
          simp only [x147_31, x147_32, x147_35, x147_36, x147_39, evI_i, evJl_i, evJf_i, evJd_i, evA_r, evA_n, evA_q, evLk_c, evS1_d, evS2_d, evFl_n, evFl_c, evGl_n, evGl_c, evIn_n, evIn_c, evCat_i, evCat_l, evCat_f, evCat_d, evCat_r, evCat_z, evCat_q, evBd_some, evTl_s, evTl_n, va_rf_s, va_rf_n, and_true, true_and, and_false, false_and, if_true, if_false, not_true_eq_false, not_false_eq_true, reduceCtorEq, ↓reduceIte, Nat.reduceAdd, Nat.reduceEqDiff, Nat.reduceLT, Nat.reduceLeDiff, Nat.reduceSub, Nat.zero_ne_one, Nat.one_ne_zero, z, z', ex]
      | succ j ih =>
        intro q w hj hq hw hw'
        unfold nuF
        rcases Nat.eq_zero_or_pos w with rfl | hw0
        · have z : nI 0 ≤ (0 : Int32) := by decide
          have z' : ¬ (0 : Int32) < nI 0 := by decide
          simp only [x147_31, x147_32, evI_i, evJl_i, evJf_i, evJd_i, evA_r, evA_n, evA_q, evLk_c, evS1_d, evS2_d, evFl_n, evFl_c, evGl_n, evGl_c, evIn_n, evIn_c, evCat_i, evCat_l, evCat_f, evCat_d, evCat_r, evCat_z, evCat_q, evBd_some, evTl_s, evTl_n, va_rf_s, va_rf_n, and_true, true_and, and_false, false_and, if_true, if_false, not_true_eq_false, not_false_eq_true, reduceCtorEq, ↓reduceIte, Nat.reduceAdd, Nat.reduceEqDiff, Nat.reduceLT, Nat.reduceLeDiff, Nat.reduceSub, Nat.zero_ne_one, Nat.one_ne_zero, z, z', false_and, ex]
        · have hw3 : w < 1000 := by
            have : (10 : Nat) ^ (4 - (j + 1)) ≤ 10 ^ 3 := Nat.pow_le_pow_right (by omega) (by omega)
            omega
          have z : ¬ nI w ≤ (0 : Int32) := nI_nle hw0 (by omega)
          have z' : ¬ (1000 : Int32) ≤ nI w := nlt (n := 1000) hw3 (by omega)
          have z2 : (0 : Int32) < nI w := Int32.not_le.mp z
          have ID := c_isD (m := m) (u := u) hu hL (p := q) (by omega) h7
          have CH := c_chr (m := m) (u := u) hu hL (p := q) (by omega) h7
          by_cases hq' : isD (chV u L) q = true
          · obtain ⟨d, hd9, ed⟩ := isD_of hq'
            have e3 : nI q + 1 = nI (q + 1) := (nI_succ q).symm
            have e4 : 10 * nI w + chV u L q - 48 = nI (10 * w + d) := by
              rw [ed, show (10 : Int32) * nI w = nI (10 * w) from pk_mul 10 w, nI_add, show (48 : Int32) = nI 48 from rfl, pk_sub (by omega)]
              congr 1
              omega
            have p1 : (10 : Nat) ^ (4 - j) = 10 * 10 ^ (4 - (j + 1)) := by
              rw [show 4 - j = 4 - (j + 1) + 1 by omega, Nat.pow_succ, Nat.mul_comm]
            have p2 : (10 : Nat) ^ (3 - j) = 10 * 10 ^ (3 - (j + 1)) := by
              rw [show 3 - j = 3 - (j + 1) + 1 by omega, Nat.pow_succ, Nat.mul_comm]
            have hih := ih (q + 1) (10 * w + d) (by omega) (chV_D q hq') (by rw [p1]; omega) (Or.inr (by rw [p2]; omega))
            have hb : 0 < nI w ∧ True := ⟨z2, trivial⟩
            simp only [z2, hq', true_and, if_true, e4]
            rw [← hih]
            conv => lhs; rw [x147_31]
            simp only [x147_32, x147_35, x147_36, x147_39, x147_42, x147_43, x147_46, x147_49, x147_51, x147_52, x147_53, x147_54, x147_55, x147_58, x147_61, x147_62, x147_64, x147_65, x147_66, x147_67, x147_68, x147_71, x147_72, x147_73, x147_76, evI_i, evJl_i, evJf_i, evJd_i, evA_r, evA_n, evA_q, evLk_c, evS1_d, evS2_d, evFl_n, evFl_c, evGl_n, evGl_c, evIn_n, evIn_c, evCat_i, evCat_l, evCat_f, evCat_d, evCat_r, evCat_z, evCat_q, evBd_some, evTl_s, evTl_n, va_rf_s, va_rf_n, and_true, true_and, and_false, false_and, if_true, if_false, not_true_eq_false, not_false_eq_true, reduceCtorEq, ↓reduceIte, Nat.reduceAdd, Nat.reduceEqDiff, Nat.reduceLT, Nat.reduceLeDiff, Nat.reduceSub, Nat.zero_ne_one, Nat.one_ne_zero, w0, w1, w2, w3, w4, w5, w6, w7, w8, w9, w10, w11, w12, w13, w14, w15, w16, w17, w18, w19, w20, w21, w22, w23, w24, evGM_get, evGM_set, evGM_get0, evGM_set0, z, z', ID, CH, hq', t1, pdU_g12, pdU_12, e3, e4, Option.toList, List.cons_append, List.nil_append]
          · have hf := b_ne hq'
            simp only [hq', and_false, if_false]
            simp only [x147_31, x147_32, x147_35, x147_36, x147_39, x147_42, x147_43, x147_46, evI_i, evJl_i, evJf_i, evJd_i, evA_r, evA_n, evA_q, evLk_c, evS1_d, evS2_d, evFl_n, evFl_c, evGl_n, evGl_c, evIn_n, evIn_c, evCat_i, evCat_l, evCat_f, evCat_d, evCat_r, evCat_z, evCat_q, evBd_some, evTl_s, evTl_n, va_rf_s, va_rf_n, and_true, true_and, and_false, false_and, if_true, if_false, not_true_eq_false, not_false_eq_true, reduceCtorEq, ↓reduceIte, Nat.reduceAdd, Nat.reduceEqDiff, Nat.reduceLT, Nat.reduceLeDiff, Nat.reduceSub, Nat.zero_ne_one, Nat.one_ne_zero, w0, w1, w2, w3, w4, w5, w6, w7, w8, w9, w10, w11, w12, w13, w14, w15, w16, w17, w18, w19, w20, w21, w22, w23, w24, evGM_get, evGM_set, evGM_get0, evGM_set0, z, z', ID, hf, evBl_f, ex, Option.toList, List.cons_append, List.nil_append]
    obtain ⟨d, hd9, ed⟩ := isD_of hd
    have e4 : chV u L p - 48 = nI d := by
      rw [ed, show (48 : Int32) = nI 48 from rfl, pk_sub (by omega)]
      congr 1
      omega
    have lp' := lp 3 (p + 1) d (Nat.le_refl _) (chV_D p hd) (by omega) (by omega)
    unfold nuA
    rw [hd, e4, if_pos rfl, ← lp']
    simp only [x147_0, x147_1, x147_4, x147_7, x147_8_0, x147_8_1, x147_8b, x147_9, x147_10, x147_11, x147_14, x147_17, x147_19, x147_20, x147_21, x147_22, x147_23, x147_26, x147_27, x147_28, evI_i, evJl_i, evJf_i, evJd_i, evA_r, evA_n, evA_q, evLk_c, evS1_d, evS2_d, evFl_n, evFl_c, evGl_n, evGl_c, evIn_n, evIn_c, evCat_i, evCat_l, evCat_f, evCat_d, evCat_r, evCat_z, evCat_q, evBd_some, evTl_s, evTl_n, va_rf_s, va_rf_n, and_true, true_and, and_false, false_and, if_true, if_false, not_true_eq_false, not_false_eq_true, reduceCtorEq, ↓reduceIte, Nat.reduceAdd, Nat.reduceEqDiff, Nat.reduceLT, Nat.reduceLeDiff, Nat.reduceSub, Nat.zero_ne_one, Nat.one_ne_zero, w0, w1, w2, w3, w4, w5, w6, w7, w8, w9, w10, w11, w12, w13, w14, w15, w16, w17, w18, w19, w20, w21, w22, w23, w24, evGM_get, evGM_set, evGM_get0, evGM_set0, ID, CH, hd, t1, pdU_g12, pdU_12, e1, e4, Option.toList, List.cons_append, List.nil_append]
  · have hf := b_ne hd
    simp only [x147_0, x147_1, x147_4, x147_7, x147_8_0, x147_8_1, x147_8b, evI_i, evJl_i, evJf_i, evJd_i, evA_r, evA_n, evA_q, evLk_c, evS1_d, evS2_d, evFl_n, evFl_c, evGl_n, evGl_c, evIn_n, evIn_c, evCat_i, evCat_l, evCat_f, evCat_d, evCat_r, evCat_z, evCat_q, evBd_some, evTl_s, evTl_n, va_rf_s, va_rf_n, and_true, true_and, and_false, false_and, if_true, if_false, not_true_eq_false, not_false_eq_true, reduceCtorEq, ↓reduceIte, Nat.reduceAdd, Nat.reduceEqDiff, Nat.reduceLT, Nat.reduceLeDiff, Nat.reduceSub, Nat.zero_ne_one, Nat.one_ne_zero, w0, w1, w2, w3, w4, w5, w6, w7, w8, w9, w10, w11, w12, w13, w14, w15, w16, w17, w18, w19, w20, w21, w22, w23, w24, evGM_get, evGM_set, evGM_get0, evGM_set0, ID, hf, evBl_f, Bool.false_eq_true, Option.toList, List.cons_append, List.nil_append]
end MO
