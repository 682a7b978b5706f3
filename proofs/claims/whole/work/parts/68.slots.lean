/-! the class's object: saving and restoring -/
def upS (s : Nat → Option Nat) (k i : Nat) : Nat → Option Nat := fun j => if j = k then some i else s j
section SL
variable {h : evH} {u p : Nat → Nat → Int32} {V : Nat → evVt} {n : Nat} {s : Nat → Option Nat}
theorem memW_zero {a j : Nat} (hn : n ≤ 2) (ha : 384 + 41 * n ≤ a) : memW u p V n a j = 0 := by
  unfold memW
  have e1 : ¬ (375 ≤ a ∧ a < 384) := by omega
  have e2 : ¬ a = 83 := by omega
  have e3 : ¬ a = 372 := by omega
  have e4 : ¬ a = 373 := by omega
  cases hq : hix a with
  | none => simp only [e1, e2, e3, e4, if_false]
  | some q =>
    obtain ⟨i, o⟩ := q
    obtain ⟨h1, h2, h3⟩ := hix_some hq
    have : ¬ i < 9 + n := by
      intro z
      unfold hb at h3
      split at h3
      · omega
      · split at h3
        · omega
        · omega
    simp only [this, if_false]
theorem memW_grow {v : evVt} (hn : n < 2) : putV (memW u p V n) (hb (9 + n)) v = memW u p (Vs V (9 + n) v) (n + 1) := by
  have e : memW u p V n = evSetM (memW u p V n) 0 0 (memW u p V n 0 0) := by
    funext a j
    unfold evSetM
    split
    · rename_i hc; rw [hc.1, hc.2]
    · rfl
  funext a j
  by_cases ha : hb (9 + n) ≤ a ∧ a < hb (9 + n) + 41
  · have eh : hix a = some (9 + n, a - hb (9 + n)) := by
      have := hix_hb (i := 9 + n) (o := a - hb (9 + n)) (by omega) (by omega)
      rwa [show hb (9 + n) + (a - hb (9 + n)) = a by omega] at this
    unfold putV memW
    rw [if_pos ha, eh]
    show _ = if 9 + n < 9 + (n + 1) then hallF (Vs V (9 + n) v (9 + n)) (a - hb (9 + n)) j else 0
    rw [if_pos (by omega), Vs_at, if_pos rfl]
    rfl
  · unfold putV
    rw [if_neg ha]
    unfold memW
    cases hq : hix a with
    | none => rfl
    | some q =>
      obtain ⟨i', o⟩ := q
      obtain ⟨h1, h2, h3⟩ := hix_some hq
      have hne : i' ≠ 9 + n := fun z => ha (by rw [← z]; omega)
      show (if i' < 9 + n then hallF (V i') o j else 0) = if i' < 9 + (n + 1) then hallF (Vs V (9 + n) v i') o j else 0
      rw [Vs_at, if_neg hne]
      by_cases hi : i' < 9 + n
      · rw [if_pos hi, if_pos (by omega)]
      · rw [if_neg hi, if_neg (by omega)]
theorem hb9 (hn : n ≤ 2) : hb (9 + n) = 384 + 41 * n := by
  unfold hb
  rw [if_neg (by omega), if_neg (by omega)]
  omega
/-- a hall more: the class's shapes behind a save -/
theorem xOK_grow (hx : xOK h n s) (hn : n < 2) {K : Nat → Nat × Nat} {R : Nat → Nat → Option Nat} {k : Nat} (hk : k < 2) (hG : evHall (evG h (384 + 41 * n) 41 358 K R) (384 + 41 * n)) : xOK (evSetR (evG h (384 + 41 * n) 41 358 K R) 374 k (some (384 + 41 * n))) (n + 1) (upS s k (9 + n)) := by
  obtain ⟨hn2, hN, a0, b0, b1, b2, b3, b4, a83, a84, l84, r83, r84, a372, r372, a373, l373, a374, l374, r374, rss, hH⟩ := id hx
  have L : evLe (384 + 41 * n) h (evG h (384 + 41 * n) 41 358 K R) := evLe_G
  generalize hg : evG h (384 + 41 * n) 41 358 K R = g at *
  have N : evN g = 384 + 41 * (n + 1) := by rw [← hg, evG_N]; omega
  have A : ∀ a c, a < 384 → evAt h a c → evAt (evSetR g 374 k (some (384 + 41 * n))) a c := fun a c ha h1 => by
    rw [evSetR_at]
    exact evAt_same (L a (by omega)).1 (by omega) h1
  have LN : ∀ a, a < 384 → evLen (evSetR g 374 k (some (384 + 41 * n))) a = evLen h a := fun a ha => by
    rw [evSetR_len]
    exact (L a (by omega)).2.1
  have RR : ∀ a j, a < 384 → a ≠ 374 → evR (evSetR g 374 k (some (384 + 41 * n))) a j = evR h a j := fun a j ha h1 => by
    rw [evSetR_R, if_neg (fun z => h1 z.1)]
    exact (L a (by omega)).2.2 j
  refine ⟨by omega, by rw [evSetR_N, N], A _ _ (by omega) a0, by rw [RR _ _ (by omega) (by omega)]; exact b0, by rw [RR _ _ (by omega) (by omega)]; exact b1, by rw [RR _ _ (by omega) (by omega)]; exact b2, by rw [RR _ _ (by omega) (by omega)]; exact b3, by rw [RR _ _ (by omega) (by omega)]; exact b4, A _ _ (by omega) a83, A _ _ (by omega) a84, by rw [LN _ (by omega)]; exact l84, by rw [RR _ _ (by omega) (by omega)]; exact r83, fun i hi => by rw [RR _ _ (by omega) (by omega)]; exact r84 i hi, A _ _ (by omega) a372, by rw [RR _ _ (by omega) (by omega)]; exact r372, A _ _ (by omega) a373, by rw [LN _ (by omega)]; exact l373, A _ _ (by omega) a374, by rw [LN _ (by omega)]; exact l374, fun j hj => ?_, fun j i hj hs => ?_, fun i hi => ?_⟩
  · rw [evSetR_R]
    unfold upS
    by_cases hjk : j = k
    · rw [if_pos ⟨rfl, hjk⟩, if_pos hjk]
      show _ = some (hb (9 + n))
      rw [hb9 hn2]
    · rw [if_neg (fun z => hjk z.2), if_neg hjk, ← r374 j hj]
      exact (L 374 (by omega)).2.2 j
  · unfold upS at hs
    by_cases hjk : j = k
    · rw [if_pos hjk] at hs
      cases hs
      omega
    · rw [if_neg hjk] at hs
      have := rss j i hj hs
      omega
  · by_cases hin : i < 9 + n
    · refine evHall_same (h := h) ?_ (by rw [evSetR_N, N]; unfold hb; split <;> (try split) <;> omega) (hH i hin)
      intro a h1 h2
      have hlt : a < 384 + 41 * n := by
        unfold hb at h2
        split at h2 <;> (try split at h2) <;> omega
      have hne : a ≠ 374 := by
        intro z
        have := hix_hb (i := i) (o := a - hb i) (by omega) (by omega)
        rw [show hb i + (a - hb i) = a by omega, z] at this
        cases this
      refine ⟨(L a hlt).1, (L a hlt).2.1, fun j => ?_⟩
      rw [evSetR_R, if_neg (fun z => hne z.1)]
      exact (L a hlt).2.2 j
    · have : i = 9 + n := by omega
      subst this
      rw [hb9 hn2]
      refine evHall_same (h := g) (evSetR_same (Or.inl (by omega))) (by rw [evSetR_N, N]; omega) hG
theorem W_restore (hx : xOK h n s) {x k : Nat} (hx7 : x < 7) (hk : k ≤ 6) (h1 : p 0 1 = nI x) (h2 : p 0 2 = nI k) (y : Int32) : (y < 0 ∨ 2 ≤ y → evX 81 0 [(0, .ref 0), (1, .int y)] [] h (memW u p V n) = some (some (.int (-2)), h, memW u p V n)) ∧ (∀ t, t < 2 → y = nI t → s t = none → evX 81 0 [(0, .ref 0), (1, .int y)] [] h (memW u p V n) = some (some (.int (-5)), h, memW u p V n)) ∧ (∀ t i, t < 2 → y = nI t → s t = some i → evX 81 0 [(0, .ref 0), (1, .int y)] [] h (memW u p V n) = some (some (.int (V i 1 1 0)), h, memW u (stP p x k (V i 1 1 0)) (chW V x (V i)) n)) := by
  obtain ⟨hn2, hN, a0, b0, b1, b2, b3, b4, a83, a84, l84, r83, r84, a372, r372, a373, l373, a374, l374, r374, rss, hH⟩ := id hx
  have h01 : evAt h 1 2 := (hH 0 (by omega)).1
  have n2 : Int32.ofNat 2 = 2 := rfl
  refine ⟨fun hy => ?_, fun t ht hy hs => ?_, fun t i ht hy hs => ?_⟩
  · rcases hy with hy | hy
    · simp only [x81_0, x81_1, x81_4, x81_5, x81_6, x81_10, x81_13, x81_15, x81_9i, x81_9b, x81_9d, x81_9h, x81_9l, evI_i, evJl_i, evJf_i, evJd_i, evA_r, evA_n, evA_q, evLk_c, evS1_d, evS2_d, evFl_n, evFl_c, evGl_n, evGl_c, evIn_n, evIn_c, evCat_i, evCat_l, evCat_f, evCat_d, evCat_r, evCat_z, evCat_q, evBd_some, evTl_s, evTl_n, va_rf_s, va_rf_n, and_true, true_and, and_false, false_and, if_true, if_false, not_true_eq_false, not_false_eq_true, reduceCtorEq, ↓reduceIte, Nat.reduceAdd, Nat.reduceEqDiff, Nat.reduceLT, Nat.reduceLeDiff, Nat.reduceSub, Nat.zero_ne_one, Nat.one_ne_zero, a0, b0, b1, b2, b3, b4, a83, a84, l84, r83, a372, r372, a373, l373, a374, l374, memW_83, memW_372, memW_373, memW_s83, memW_s372, memW_s373, hy]
    · have hy0 : ¬ y < 0 := fun z => i32_ff (Int32.le_trans (show (0 : Int32) ≤ 2 by decide) hy) z
      have hy2 : ¬ y < 2 := Int32.not_lt.mpr hy
      simp only [x81_0, x81_1, x81_4, x81_5, x81_6, x81_10, x81_13, x81_15, x81_9i, x81_9b, x81_9d, x81_9h, x81_9l, evI_i, evJl_i, evJf_i, evJd_i, evA_r, evA_n, evA_q, evLk_c, evS1_d, evS2_d, evFl_n, evFl_c, evGl_n, evGl_c, evIn_n, evIn_c, evCat_i, evCat_l, evCat_f, evCat_d, evCat_r, evCat_z, evCat_q, evBd_some, evTl_s, evTl_n, va_rf_s, va_rf_n, and_true, true_and, and_false, false_and, if_true, if_false, not_true_eq_false, not_false_eq_true, reduceCtorEq, ↓reduceIte, Nat.reduceAdd, Nat.reduceEqDiff, Nat.reduceLT, Nat.reduceLeDiff, Nat.reduceSub, Nat.zero_ne_one, Nat.one_ne_zero, a0, b0, b1, b2, b3, b4, a83, a84, l84, r83, a372, r372, a373, l373, a374, l374, memW_83, memW_372, memW_373, memW_s83, memW_s372, memW_s373, hy0, hy2, n2]
  · subst hy
    have e0 : ¬ nI t < 0 := nI_pos (by omega)
    have e1 : nI t < 2 := nI_lt (b := 2) ht (by decide)
    have e2 : (nI t).toNatClampNeg = t := nI_cl _ (by omega)
    have e3 : evR h 374 t = none := by rw [r374 t ht, hs]; rfl
    simp only [x81_0, x81_1, x81_4, x81_5, x81_6, x81_10, x81_13, x81_15, x81_16, x81_17, x81_20, x81_22, x81_22n, x81_22q, x81_23, x81_24n, x81_24, x81_24q, x81_27, x81_29, x81_30, x81_31, x81_34, x81_35, x81_38, x81_41, x81_42, x81_45, x81_46, x81_49, x81_50, x81_53, x81_54, x81_57, x81_60, x81_63, x81_9i, x81_9b, x81_9d, x81_9h, x81_9l, x81_21b, x81_21d, x81_21h, x81_21l, evI_i, evJl_i, evJf_i, evJd_i, evA_r, evA_n, evA_q, evLk_c, evS1_d, evS2_d, evFl_n, evFl_c, evGl_n, evGl_c, evIn_n, evIn_c, evCat_i, evCat_l, evCat_f, evCat_d, evCat_r, evCat_z, evCat_q, evBd_some, evTl_s, evTl_n, va_rf_s, va_rf_n, and_true, true_and, and_false, false_and, if_true, if_false, not_true_eq_false, not_false_eq_true, reduceCtorEq, ↓reduceIte, Nat.reduceAdd, Nat.reduceEqDiff, Nat.reduceLT, Nat.reduceLeDiff, Nat.reduceSub, Nat.zero_ne_one, Nat.one_ne_zero, a0, b0, b1, b2, b3, b4, a83, a84, l84, r83, a372, r372, a373, l373, a374, l374, memW_83, memW_372, memW_373, memW_s83, memW_s372, memW_s373, e0, e1, e2, e3, n2, ht]
  · subst hy
    have e0 : ¬ nI t < 0 := nI_pos (by omega)
    have e1 : nI t < 2 := nI_lt (b := 2) ht (by decide)
    have e2 : (nI t).toNatClampNeg = t := nI_cl _ (by omega)
    have e3 : evR h 374 t = some (hb i) := by rw [r374 t ht, hs]; rfl
    obtain ⟨i1, i2⟩ := rss t i ht hs
    have hi2 : evAt h (hb i) 2 := (hH i i2).1
    have P := W_prepare (u := u) (V := V) hx hx7 h1
    have C := W_copy (u := u) (p := p) (V := Vs V (2 + x) (V 0)) hx (i := 0) (k := i) (by omega) i2 (by omega)
    rw [hb0, show Vs V (2 + x) (V 0) i = V i by rw [Vs_at, if_neg (by omega)]] at C
    have S := fun V a => W_settle (u := u) (V := V) hx hx7 hk h1 h2 a
    have d : memW u p (Vs (Vs V (2 + x) (V 0)) 0 (V i)) n 1 2 = V i 1 1 0 := by
      have e := (mW_at (u := u) (p := p) (V := Vs (Vs V (2 + x) (V 0)) 0 (V i)) (i := 0) (n := n) (by omega) hn2 1 2).trans (pv_H2 (b := 1))
      rw [Vs_i] at e
      exact e
    unfold chW
    simp only [x81_0, x81_1, x81_4, x81_5, x81_6, x81_10, x81_13, x81_15, x81_16, x81_17, x81_20, x81_22, x81_22n, x81_22q, x81_23, x81_24n, x81_24, x81_24q, x81_27, x81_29, x81_30, x81_31, x81_34, x81_35, x81_38, x81_41, x81_42, x81_45, x81_46, x81_49, x81_50, x81_53, x81_54, x81_57, x81_60, x81_63, x81_9i, x81_9b, x81_9d, x81_9h, x81_9l, x81_21b, x81_21d, x81_21h, x81_21l, evI_i, evJl_i, evJf_i, evJd_i, evA_r, evA_n, evA_q, evLk_c, evS1_d, evS2_d, evFl_n, evFl_c, evGl_n, evGl_c, evIn_n, evIn_c, evCat_i, evCat_l, evCat_f, evCat_d, evCat_r, evCat_z, evCat_q, evBd_some, evTl_s, evTl_n, va_rf_s, va_rf_n, and_true, true_and, and_false, false_and, if_true, if_false, not_true_eq_false, not_false_eq_true, reduceCtorEq, ↓reduceIte, Nat.reduceAdd, Nat.reduceEqDiff, Nat.reduceLT, Nat.reduceLeDiff, Nat.reduceSub, Nat.zero_ne_one, Nat.one_ne_zero, a0, b0, b1, b2, b3, b4, a83, a84, l84, r83, a372, r372, a373, l373, a374, l374, memW_83, memW_372, memW_373, memW_s83, memW_s372, memW_s373, h01, hi2, e0, e1, e2, e3, n2, ht, P, C, S, d, Option.toList, List.nil_append, List.cons_append]
theorem W_save (hx : xOK h n s) (y : Int32) : (y < 0 ∨ 2 ≤ y → evX 80 0 [(0, .ref 0), (1, .int y)] [] h (memW u p V n) = some (some (.int (-2)), h, memW u p V n)) ∧ (∀ t i, t < 2 → y = nI t → s t = some i → evX 80 0 [(0, .ref 0), (1, .int y)] [] h (memW u p V n) = some (some (.int (V 0 1 1 0)), h, memW u p (Vs V i (V 0)) n)) ∧ (∀ t, t < 2 → y = nI t → s t = none → n < 2 → ∃ K R, evX 80 0 [(0, .ref 0), (1, .int y)] [] h (memW u p V n) = some (some (.int (V 0 1 1 0)), evSetR (evG h (384 + 41 * n) 41 358 K R) 374 t (some (384 + 41 * n)), memW u p (Vs V (9 + n) (V 0)) (n + 1)) ∧ xOK (evSetR (evG h (384 + 41 * n) 41 358 K R) 374 t (some (384 + 41 * n))) (n + 1) (upS s t (9 + n))) := by
  obtain ⟨hn2, hN, a0, b0, b1, b2, b3, b4, a83, a84, l84, r83, r84, a372, r372, a373, l373, a374, l374, r374, rss, hH⟩ := id hx
  have h01 : evAt h 1 2 := (hH 0 (by omega)).1
  have n2 : Int32.ofNat 2 = 2 := rfl
  refine ⟨fun hy => ?_, fun t i ht hy hs => ?_, fun t ht hy hs hn => ?_⟩
  · rcases hy with hy | hy
    · simp only [x80_0, x80_1, x80_4, x80_5, x80_6, x80_10, x80_13, x80_15, x80_9i, x80_9b, x80_9d, x80_9h, x80_9l, evI_i, evJl_i, evJf_i, evJd_i, evA_r, evA_n, evA_q, evLk_c, evS1_d, evS2_d, evFl_n, evFl_c, evGl_n, evGl_c, evIn_n, evIn_c, evCat_i, evCat_l, evCat_f, evCat_d, evCat_r, evCat_z, evCat_q, evBd_some, evTl_s, evTl_n, va_rf_s, va_rf_n, and_true, true_and, and_false, false_and, if_true, if_false, not_true_eq_false, not_false_eq_true, reduceCtorEq, ↓reduceIte, Nat.reduceAdd, Nat.reduceEqDiff, Nat.reduceLT, Nat.reduceLeDiff, Nat.reduceSub, Nat.zero_ne_one, Nat.one_ne_zero, a0, b0, b1, b2, b3, b4, a83, a84, l84, r83, a372, r372, a373, l373, a374, l374, memW_83, memW_372, memW_373, memW_s83, memW_s372, memW_s373, hy]
    · have hy0 : ¬ y < 0 := fun z => i32_ff (Int32.le_trans (show (0 : Int32) ≤ 2 by decide) hy) z
      have hy2 : ¬ y < 2 := Int32.not_lt.mpr hy
      simp only [x80_0, x80_1, x80_4, x80_5, x80_6, x80_10, x80_13, x80_15, x80_9i, x80_9b, x80_9d, x80_9h, x80_9l, evI_i, evJl_i, evJf_i, evJd_i, evA_r, evA_n, evA_q, evLk_c, evS1_d, evS2_d, evFl_n, evFl_c, evGl_n, evGl_c, evIn_n, evIn_c, evCat_i, evCat_l, evCat_f, evCat_d, evCat_r, evCat_z, evCat_q, evBd_some, evTl_s, evTl_n, va_rf_s, va_rf_n, and_true, true_and, and_false, false_and, if_true, if_false, not_true_eq_false, not_false_eq_true, reduceCtorEq, ↓reduceIte, Nat.reduceAdd, Nat.reduceEqDiff, Nat.reduceLT, Nat.reduceLeDiff, Nat.reduceSub, Nat.zero_ne_one, Nat.one_ne_zero, a0, b0, b1, b2, b3, b4, a83, a84, l84, r83, a372, r372, a373, l373, a374, l374, memW_83, memW_372, memW_373, memW_s83, memW_s372, memW_s373, hy0, hy2, n2]
  · subst hy
    have e0 : ¬ nI t < 0 := nI_pos (by omega)
    have e1 : nI t < 2 := nI_lt (b := 2) ht (by decide)
    have e2 : (nI t).toNatClampNeg = t := nI_cl _ (by omega)
    have e3 : evR h 374 t = some (hb i) := by rw [r374 t ht, hs]; rfl
    obtain ⟨i1, i2⟩ := rss t i ht hs
    have hi2 : evAt h (hb i) 2 := (hH i i2).1
    have C := W_copy (u := u) (p := p) (V := V) hx (i := i) (k := 0) i2 (by omega) (by omega)
    rw [hb0] at C
    have d : memW u p (Vs V i (V 0)) n 1 2 = V 0 1 1 0 := by
      have e := (mW_at (u := u) (p := p) (V := Vs V i (V 0)) (i := 0) (n := n) (by omega) hn2 1 2).trans (pv_H2 (b := 1))
      rw [show Vs V i (V 0) 0 = V 0 by rw [Vs_at, if_neg (by omega)]] at e
      exact e
    simp only [x80_0, x80_1, x80_4, x80_5, x80_6, x80_10, x80_13, x80_15, x80_16, x80_17, x80_20, x80_22, x80_22n, x80_22q, x80_23, x80_24n, x80_24, x80_24q, x80_27, x80_30, x80_31, x80_34, x80_34n, x80_34q, x80_35, x80_36, x80_39, x80_40, x80_42, x80_43, x80_44, x80_47, x80_50, x80_51, x80_54, x80_57, x80_9i, x80_9b, x80_9d, x80_9h, x80_9l, x80_21b, x80_21d, x80_21h, x80_21l, x80_41b, x80_41d, x80_41h, x80_41l, evI_i, evJl_i, evJf_i, evJd_i, evA_r, evA_n, evA_q, evLk_c, evS1_d, evS2_d, evFl_n, evFl_c, evGl_n, evGl_c, evIn_n, evIn_c, evCat_i, evCat_l, evCat_f, evCat_d, evCat_r, evCat_z, evCat_q, evBd_some, evTl_s, evTl_n, va_rf_s, va_rf_n, and_true, true_and, and_false, false_and, if_true, if_false, not_true_eq_false, not_false_eq_true, reduceCtorEq, ↓reduceIte, Nat.reduceAdd, Nat.reduceEqDiff, Nat.reduceLT, Nat.reduceLeDiff, Nat.reduceSub, Nat.zero_ne_one, Nat.one_ne_zero, a0, b0, b1, b2, b3, b4, a83, a84, l84, r83, a372, r372, a373, l373, a374, l374, memW_83, memW_372, memW_373, memW_s83, memW_s372, memW_s373, h01, hi2, e0, e1, e2, e3, n2, ht, C, d, Option.toList, List.nil_append, List.cons_append]
  · subst hy
    have e0 : ¬ nI t < 0 := nI_pos (by omega)
    have e1 : nI t < 2 := nI_lt (b := 2) ht (by decide)
    have e2 : (nI t).toNatClampNeg = t := nI_cl _ (by omega)
    have e3 : evR h 374 t = none := by rw [r374 t ht, hs]; rfl
    obtain ⟨K, R, I, hG⟩ := c_Hall_init (h := h) (m := memW u p V n) (b := 384 + 41 * n) hN (by unfold evO9; omega)
    have hX := xOK_grow hx hn ht hG
    refine ⟨K, R, ?_, hX⟩
    have hbn := hb9 hn2
    have L : evLe (384 + 41 * n) h (evG h (384 + 41 * n) 41 358 K R) := evLe_G
    have Ng : evN (evG h (384 + 41 * n) 41 358 K R) = 384 + 41 * n + 41 := evG_N
    have RG : evR (evG h (384 + 41 * n) 41 358 K R) 0 4 = some 374 := by rw [(L 0 (by omega)).2.2 4]; exact b4
    have RG0 : evR (evSetR (evG h (384 + 41 * n) 41 358 K R) 374 t (some (384 + 41 * n))) 0 0 = some 1 := by rw [evSetR_R, if_neg (by omega), (L 0 (by omega)).2.2 0]; exact b0
    have AG0 : evAt (evG h (384 + 41 * n) 41 358 K R) 0 7 := evAt_same (L 0 (by omega)).1 (by omega) a0
    have AG374 : evAt (evG h (384 + 41 * n) 41 358 K R) 374 12 := evAt_same (L 374 (by omega)).1 (by omega) a374
    have LG374 : evLen (evG h (384 + 41 * n) 41 358 K R) 374 = 2 := by rw [(L 374 (by omega)).2.1]; exact l374
    have AGb : evAt (evG h (384 + 41 * n) 41 358 K R) (384 + 41 * n) 2 := hG.1
    generalize hgg : evG h (384 + 41 * n) 41 358 K R = g at *
    have A0' : evAt (evSetR g 374 t (some (384 + 41 * n))) 0 7 := by rw [evSetR_at]; exact AG0
    have A1' : evAt (evSetR g 374 t (some (384 + 41 * n))) 1 2 := by rw [evSetR_at]; exact evAt_same (L 1 (by omega)).1 (by omega) h01
    have Ab' : evAt (evSetR g 374 t (some (384 + 41 * n))) (384 + 41 * n) 2 := by rw [evSetR_at]; exact AGb
    have M : putV (memW u p V n) (384 + 41 * n) hv0 = memW u p (Vs V (9 + n) hv0) (n + 1) := by rw [← hbn]; exact memW_grow hn
    rw [M] at I
    have C := W_copy (u := u) (p := p) (V := Vs V (9 + n) hv0) hX (i := 9 + n) (k := 0) (by omega) (by omega) (by omega)
    rw [hbn, hb0, Vs_2, show Vs V (9 + n) hv0 0 = V 0 by rw [Vs_at, if_neg (by omega)]] at C
    have d : memW u p (Vs V (9 + n) (V 0)) (n + 1) 1 2 = V 0 1 1 0 := by
      have e := (mW_at (u := u) (p := p) (V := Vs V (9 + n) (V 0)) (i := 0) (n := n + 1) (by omega) (by omega) 1 2).trans (pv_H2 (b := 1))
      rw [show Vs V (9 + n) (V 0) 0 = V 0 by rw [Vs_at, if_neg (by omega)]] at e
      exact e
    have hO : 384 + 41 * n < evO9 := by unfold evO9; omega
    simp only [x80_0, x80_1, x80_4, x80_5, x80_6, x80_10, x80_13, x80_15, x80_16, x80_17, x80_20, x80_22, x80_22n, x80_22q, x80_23, x80_24n, x80_24, x80_24q, x80_27, x80_30, x80_31, x80_34, x80_34n, x80_34q, x80_35, x80_36, x80_39, x80_40, x80_42, x80_43, x80_44, x80_47, x80_50, x80_51, x80_54, x80_57, x80_9i, x80_9b, x80_9d, x80_9h, x80_9l, x80_21b, x80_21d, x80_21h, x80_21l, x80_41b, x80_41d, x80_41h, x80_41l, evI_i, evJl_i, evJf_i, evJd_i, evA_r, evA_n, evA_q, evLk_c, evS1_d, evS2_d, evFl_n, evFl_c, evGl_n, evGl_c, evIn_n, evIn_c, evCat_i, evCat_l, evCat_f, evCat_d, evCat_r, evCat_z, evCat_q, evBd_some, evTl_s, evTl_n, va_rf_s, va_rf_n, and_true, true_and, and_false, false_and, if_true, if_false, not_true_eq_false, not_false_eq_true, reduceCtorEq, ↓reduceIte, Nat.reduceAdd, Nat.reduceEqDiff, Nat.reduceLT, Nat.reduceLeDiff, Nat.reduceSub, Nat.zero_ne_one, Nat.one_ne_zero, a0, b0, b1, b2, b3, b4, a83, a84, l84, r83, a372, r372, a373, l373, a374, l374, memW_83, memW_372, memW_373, memW_s83, memW_s372, memW_s373, hN, hO, h01, e0, e1, e2, e3, n2, ht, I, RG, RG0, AG0, AG374, LG374, AGb, A0', A1', Ab', C, d, Option.toList, List.nil_append, List.cons_append]
end SL
