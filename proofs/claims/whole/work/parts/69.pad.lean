/-! the class's pad -/
def gC (p : Nat → Nat → Int32) (L i : Nat) : Int32 := if i < L then p 2 i else -1
def sgV (p : Nat → Nat → Int32) (L i : Nat) : Int32 := if i < L then p 2 i else 0
def pcU (p : Nat → Nat → Int32) (a : Nat) (st mo : Bool) (k f s : Int32) : Nat → Nat → Int32 := fun o j => if o = 1 ∧ j = 2 then nI a else if o = 1 ∧ j = 3 then evBl st else if o = 1 ∧ j = 4 then evBl mo else if o = 1 ∧ j = 5 then k else if o = 1 ∧ j = 6 then f else if o = 1 ∧ j = 7 then s else p o j
section PC
variable (p : Nat → Nat → Int32) (a : Nat) (st mo : Bool) (k f s : Int32)
theorem pc_2 (x : Nat) : ms (pcU p a st mo k f s) 1 2 (nI x) = pcU p x st mo k f s := by
  funext o j
  unfold ms pcU
  grind
theorem pc_3 (x : Bool) : ms (pcU p a st mo k f s) 1 3 (evBl x) = pcU p a x mo k f s := by
  funext o j
  unfold ms pcU
  grind
theorem pc_3t : ms (pcU p a st mo k f s) 1 3 1 = pcU p a true mo k f s := pc_3 p a st mo k f s true
theorem pc_4 (x : Bool) : ms (pcU p a st mo k f s) 1 4 (evBl x) = pcU p a st x k f s := by
  funext o j
  unfold ms pcU
  grind
theorem pc_4t : ms (pcU p a st mo k f s) 1 4 1 = pcU p a st true k f s := pc_4 p a st mo k f s true
theorem pc_4f : ms (pcU p a st mo k f s) 1 4 0 = pcU p a st false k f s := pc_4 p a st mo k f s false
theorem pc_5 (x : Int32) : ms (pcU p a st mo k f s) 1 5 x = pcU p a st mo x f s := by
  funext o j
  unfold ms pcU
  grind
theorem pc_6 (x : Int32) : ms (pcU p a st mo k f s) 1 6 x = pcU p a st mo k x s := by
  funext o j
  unfold ms pcU
  grind
theorem pc_7 (x : Int32) : ms (pcU p a st mo k f s) 1 7 x = pcU p a st mo k f x := by
  funext o j
  unfold ms pcU
  grind
theorem pc_i : ms (ms (ms p 1 2 0) 1 3 0) 1 4 1 = pcU p 0 false true (p 1 5) (p 1 6) (p 1 7) := by
  have z : nI 0 = 0 := rfl
  have e0 : evBl false = 0 := rfl
  have e1 : evBl true = 1 := rfl
  funext o j
  unfold ms pcU
  grind
theorem pc_g2 : pcU p a st mo k f s 1 2 = nI a := id rfl
theorem pc_g3 : pcU p a st mo k f s 1 3 = evBl st := id rfl
theorem pc_g4 : pcU p a st mo k f s 1 4 = evBl mo := id rfl
theorem pc_g5 : pcU p a st mo k f s 1 5 = k := id rfl
theorem pc_g6 : pcU p a st mo k f s 1 6 = f := id rfl
theorem pc_g7 : pcU p a st mo k f s 1 7 = s := id rfl
theorem pc_g1 : pcU p a st mo k f s 1 1 = p 1 1 := id rfl
theorem pc_o {o : Nat} (j : Nat) (h : o ≠ 1) : pcU p a st mo k f s o j = p o j := by
  unfold pcU
  grind
theorem pc_2x (j : Nat) : pcU p a st mo k f s 2 j = p 2 j := pc_o _ _ _ _ _ _ _ _ (by decide)
end PC
theorem gC_D {p : Nat → Nat → Int32} {L : Nat} (i : Nat) (h : isD (gC p L) i = true) : i < L := by
  unfold isD wiB gC at h
  by_cases hp : i < L
  · exact hp
  · rw [if_neg hp] at h
    exact absurd h (by decide)
theorem gC_n1 {p : Nat → Nat → Int32} {L i : Nat} (h : gC p L i ≠ -1) : i < L := by
  unfold gC at h
  by_cases hp : i < L
  · exact hp
  · rw [if_neg hp] at h
    exact absurd rfl h
theorem sg_eq {p : Nat → Nat → Int32} {L i : Nat} {x : Int32} (h0 : x ≠ 0) (h1 : x ≠ -1) : (sgV p L i = x) = (gC p L i = x) := by
  unfold sgV gC
  by_cases hp : i < L
  · rw [if_pos hp, if_pos hp]
  · rw [if_neg hp, if_neg hp]
    exact propext ⟨fun z => absurd z.symm h0, fun z => absurd z.symm h1⟩
theorem sg_isD {p : Nat → Nat → Int32} {L i : Nat} (h : isD (gC p L) i = true) : sgV p L i = gC p L i := by
  have := gC_D i h
  unfold sgV gC
  rw [if_pos this, if_pos this]
section PA
variable {h : evH} {u p : Nat → Nat → Int32} {V : Nat → evVt} {n : Nat} {s : Nat → Option Nat}
theorem P_sign (hx : xOK h n s) {L a : Nat} (hL : L ≤ 80) (ha : a < 1000) (h1 : p 1 1 = nI L) (st mo : Bool) (k f c : Int32) : evX 48 0 [(0, .ref 372)] [] h (memW u (pcU p a st mo k f c) V n) = some (some (.int (sgV p L a)), h, memW u (pcU p a st mo k f c) V n) := by
  obtain ⟨hn2, hN, a0, b0, b1, b2, b3, b4, a83, a84, l84, r83, r84, a372, r372, a373, l373, a374, l374, r374, rss, hH⟩ := id hx
  have b0 : ¬ nI a < 0 := nI_pos (by omega)
  have b1 : (nI a).toNatClampNeg = a := nI_cl a (by omega)
  unfold sgV
  by_cases hq : a < L
  · have e : ¬ nI L ≤ nI a := nlt hq (by omega)
    have e80 : ¬ Int32.ofNat 80 ≤ nI a := nI_ge (by omega) (by omega)
    have a80 : a < 80 := by omega
    simp only [x48_0, x48_1, x48_4, x48_7, x48_8, x48_11, x48_12, x48_15, x48_18, x48_19, x48_22, x48_23, x48_27, x48_30, x48_31, x48_34, x48_35, x48_38, x48_39, x48_42, x48_43, x48_26i, x48_26b, x48_26d, x48_26h, x48_26l, evI_i, evJl_i, evJf_i, evJd_i, evA_r, evA_n, evA_q, evLk_c, evS1_d, evS2_d, evFl_n, evFl_c, evGl_n, evGl_c, evIn_n, evIn_c, evCat_i, evCat_l, evCat_f, evCat_d, evCat_r, evCat_z, evCat_q, evBd_some, evTl_s, evTl_n, va_rf_s, va_rf_n, and_true, true_and, and_false, false_and, if_true, if_false, not_true_eq_false, not_false_eq_true, reduceCtorEq, ↓reduceIte, Nat.reduceAdd, Nat.reduceEqDiff, Nat.reduceLT, Nat.reduceLeDiff, Nat.reduceSub, Nat.zero_ne_one, Nat.one_ne_zero, a0, b0, b1, b2, b3, b4, a83, a84, l84, r83, a372, r372, a373, l373, a374, l374, memW_83, memW_372, memW_373, memW_s83, memW_s372, memW_s373, pc_g2, pc_g1, pc_2x, h1, e, e80, b0, b1, hq, a80]
  · have e : nI L ≤ nI a := nI_le (by omega) (by omega)
    simp only [x48_0, x48_1, x48_4, x48_7, x48_8, x48_11, x48_12, x48_15, x48_18, x48_19, x48_22, x48_23, x48_27, x48_30, x48_31, x48_34, x48_35, x48_38, x48_39, x48_42, x48_43, x48_26i, x48_26b, x48_26d, x48_26h, x48_26l, evI_i, evJl_i, evJf_i, evJd_i, evA_r, evA_n, evA_q, evLk_c, evS1_d, evS2_d, evFl_n, evFl_c, evGl_n, evGl_c, evIn_n, evIn_c, evCat_i, evCat_l, evCat_f, evCat_d, evCat_r, evCat_z, evCat_q, evBd_some, evTl_s, evTl_n, va_rf_s, va_rf_n, and_true, true_and, and_false, false_and, if_true, if_false, not_true_eq_false, not_false_eq_true, reduceCtorEq, ↓reduceIte, Nat.reduceAdd, Nat.reduceEqDiff, Nat.reduceLT, Nat.reduceLeDiff, Nat.reduceSub, Nat.zero_ne_one, Nat.one_ne_zero, a0, b0, b1, b2, b3, b4, a83, a84, l84, r83, a372, r372, a373, l373, a374, l374, memW_83, memW_372, memW_373, memW_s83, memW_s372, memW_s373, pc_g2, pc_g1, h1, e, b0, hq]
theorem isD_sg {p : Nat → Nat → Int32} {L i : Nat} : isD (gC p L) i = wiB (sgV p L i) 48 57 := by
  unfold isD gC sgV
  by_cases hp : i < L
  · rw [if_pos hp, if_pos hp]
  · rw [if_neg hp, if_neg hp]
    rfl
theorem P_atDigit (hx : xOK h n s) {L a : Nat} (hL : L ≤ 80) (ha : a < 1000) (h1 : p 1 1 = nI L) (st mo : Bool) (k f c : Int32) : evX 49 0 [(0, .ref 372)] [] h (memW u (pcU p a st mo k f c) V n) = some (some (.int (evBl (isD (gC p L) a))), h, memW u (pcU p a st mo k f c) V n) := by
  obtain ⟨hn2, hN, a0, b0, b1, b2, b3, b4, a83, a84, l84, r83, r84, a372, r372, a373, l373, a374, l374, r374, rss, hH⟩ := id hx
  have S := P_sign (u := u) (V := V) hx hL ha h1 st mo k f c
  rw [isD_sg]
  generalize sgV p L a = x at S
  by_cases hw : wiB x 48 57 = true
  · have hw' := (wiB_t _ _ _).mp hw
    have e1 : ¬ x < 48 := fun z => hw' (Or.inl z)
    have e2 : ¬ 57 < x := fun z => hw' (Or.inr z)
    simp only [x49_0, x49_1, x49_4, x49_5, x49_6, x49_8, x49_11, x49_12, x49_14, x49_17, x49_18, x49_21, x49_22_0, x49_22_1, x49_22b, evI_i, evJl_i, evJf_i, evJd_i, evA_r, evA_n, evA_q, evLk_c, evS1_d, evS2_d, evFl_n, evFl_c, evGl_n, evGl_c, evIn_n, evIn_c, evCat_i, evCat_l, evCat_f, evCat_d, evCat_r, evCat_z, evCat_q, evBd_some, evTl_s, evTl_n, va_rf_s, va_rf_n, and_true, true_and, and_false, false_and, if_true, if_false, not_true_eq_false, not_false_eq_true, reduceCtorEq, ↓reduceIte, Nat.reduceAdd, Nat.reduceEqDiff, Nat.reduceLT, Nat.reduceLeDiff, Nat.reduceSub, Nat.zero_ne_one, Nat.one_ne_zero, a0, b0, b1, b2, b3, b4, a83, a84, l84, r83, a372, r372, a373, l373, a374, l374, memW_83, memW_372, memW_373, memW_s83, memW_s372, memW_s373, S, e1, e2, hw, evBl_t, Option.toList, List.nil_append, List.cons_append]
  · have hf := b_ne hw
    rcases (wiB_f _ _ _).mp hf with z | z
    · simp only [x49_0, x49_1, x49_4, x49_5, x49_6, x49_8, x49_11, x49_12, x49_14, x49_17, x49_18, x49_21, x49_22_0, x49_22_1, x49_22b, evI_i, evJl_i, evJf_i, evJd_i, evA_r, evA_n, evA_q, evLk_c, evS1_d, evS2_d, evFl_n, evFl_c, evGl_n, evGl_c, evIn_n, evIn_c, evCat_i, evCat_l, evCat_f, evCat_d, evCat_r, evCat_z, evCat_q, evBd_some, evTl_s, evTl_n, va_rf_s, va_rf_n, and_true, true_and, and_false, false_and, if_true, if_false, not_true_eq_false, not_false_eq_true, reduceCtorEq, ↓reduceIte, Nat.reduceAdd, Nat.reduceEqDiff, Nat.reduceLT, Nat.reduceLeDiff, Nat.reduceSub, Nat.zero_ne_one, Nat.one_ne_zero, a0, b0, b1, b2, b3, b4, a83, a84, l84, r83, a372, r372, a373, l373, a374, l374, memW_83, memW_372, memW_373, memW_s83, memW_s372, memW_s373, S, z, hf, evBl_f, Option.toList, List.nil_append, List.cons_append]
    · by_cases z' : x < 48
      · simp only [x49_0, x49_1, x49_4, x49_5, x49_6, x49_8, x49_11, x49_12, x49_14, x49_17, x49_18, x49_21, x49_22_0, x49_22_1, x49_22b, evI_i, evJl_i, evJf_i, evJd_i, evA_r, evA_n, evA_q, evLk_c, evS1_d, evS2_d, evFl_n, evFl_c, evGl_n, evGl_c, evIn_n, evIn_c, evCat_i, evCat_l, evCat_f, evCat_d, evCat_r, evCat_z, evCat_q, evBd_some, evTl_s, evTl_n, va_rf_s, va_rf_n, and_true, true_and, and_false, false_and, if_true, if_false, not_true_eq_false, not_false_eq_true, reduceCtorEq, ↓reduceIte, Nat.reduceAdd, Nat.reduceEqDiff, Nat.reduceLT, Nat.reduceLeDiff, Nat.reduceSub, Nat.zero_ne_one, Nat.one_ne_zero, a0, b0, b1, b2, b3, b4, a83, a84, l84, r83, a372, r372, a373, l373, a374, l374, memW_83, memW_372, memW_373, memW_s83, memW_s372, memW_s373, S, z', hf, evBl_f, Option.toList, List.nil_append, List.cons_append]
      · simp only [x49_0, x49_1, x49_4, x49_5, x49_6, x49_8, x49_11, x49_12, x49_14, x49_17, x49_18, x49_21, x49_22_0, x49_22_1, x49_22b, evI_i, evJl_i, evJf_i, evJd_i, evA_r, evA_n, evA_q, evLk_c, evS1_d, evS2_d, evFl_n, evFl_c, evGl_n, evGl_c, evIn_n, evIn_c, evCat_i, evCat_l, evCat_f, evCat_d, evCat_r, evCat_z, evCat_q, evBd_some, evTl_s, evTl_n, va_rf_s, va_rf_n, and_true, true_and, and_false, false_and, if_true, if_false, not_true_eq_false, not_false_eq_true, reduceCtorEq, ↓reduceIte, Nat.reduceAdd, Nat.reduceEqDiff, Nat.reduceLT, Nat.reduceLeDiff, Nat.reduceSub, Nat.zero_ne_one, Nat.one_ne_zero, a0, b0, b1, b2, b3, b4, a83, a84, l84, r83, a372, r372, a373, l373, a374, l374, memW_83, memW_372, memW_373, memW_s83, memW_s372, memW_s373, S, z, z', hf, evBl_f, Option.toList, List.nil_append, List.cons_append]
theorem P_expect (hx : xOK h n s) {L a : Nat} (hL : L ≤ 80) (ha : a < 1000) (h1 : p 1 1 = nI L) (st mo : Bool) (k f c : Int32) {x : Int32} (hx0 : x ≠ 0) (hx1 : x ≠ -1) : evX 50 0 [(0, .ref 372), (1, .int x)] [] h (memW u (pcU p a st mo k f c) V n) = some (none, h, memW u (if st = false ∧ gC p L a = x then pcU p (a + 1) false mo k f c else pcU p a true mo k f c) V n) := by
  obtain ⟨hn2, hN, a0, b0, b1, b2, b3, b4, a83, a84, l84, r83, r84, a372, r372, a373, l373, a374, l374, r374, rss, hH⟩ := id hx
  have S := P_sign (u := u) (V := V) hx hL ha h1 st mo k f c
  have e1 : nI a + 1 = nI (a + 1) := (nI_succ a).symm
  have t1 : ¬ evBl true = 0 := by decide
  cases st with
  | true => simp only [x50_0, x50_1, x50_4, x50_7, x50_8, x50_11, x50_12, x50_15, x50_16, x50_17, x50_20, x50_21, x50_22, x50_25, x50_28, x50_29, x50_30_0, x50_30_1, x50_30b, x50_33, evI_i, evJl_i, evJf_i, evJd_i, evA_r, evA_n, evA_q, evLk_c, evS1_d, evS2_d, evFl_n, evFl_c, evGl_n, evGl_c, evIn_n, evIn_c, evCat_i, evCat_l, evCat_f, evCat_d, evCat_r, evCat_z, evCat_q, evBd_some, evTl_s, evTl_n, va_rf_s, va_rf_n, and_true, true_and, and_false, false_and, if_true, if_false, not_true_eq_false, not_false_eq_true, reduceCtorEq, ↓reduceIte, Nat.reduceAdd, Nat.reduceEqDiff, Nat.reduceLT, Nat.reduceLeDiff, Nat.reduceSub, Nat.zero_ne_one, Nat.one_ne_zero, a0, b0, b1, b2, b3, b4, a83, a84, l84, r83, a372, r372, a373, l373, a374, l374, memW_83, memW_372, memW_373, memW_s83, memW_s372, memW_s373, pc_g3, t1, pc_3t, Bool.true_eq_false]
  | false =>
    by_cases hg : gC p L a = x
    · have hs : sgV p L a = x := by rw [sg_eq hx0 hx1]; exact hg
      simp only [x50_0, x50_1, x50_4, x50_7, x50_8, x50_11, x50_12, x50_15, x50_16, x50_17, x50_20, x50_21, x50_22, x50_25, x50_28, x50_29, x50_30_0, x50_30_1, x50_30b, x50_33, evI_i, evJl_i, evJf_i, evJd_i, evA_r, evA_n, evA_q, evLk_c, evS1_d, evS2_d, evFl_n, evFl_c, evGl_n, evGl_c, evIn_n, evIn_c, evCat_i, evCat_l, evCat_f, evCat_d, evCat_r, evCat_z, evCat_q, evBd_some, evTl_s, evTl_n, va_rf_s, va_rf_n, and_true, true_and, and_false, false_and, if_true, if_false, not_true_eq_false, not_false_eq_true, reduceCtorEq, ↓reduceIte, Nat.reduceAdd, Nat.reduceEqDiff, Nat.reduceLT, Nat.reduceLeDiff, Nat.reduceSub, Nat.zero_ne_one, Nat.one_ne_zero, a0, b0, b1, b2, b3, b4, a83, a84, l84, r83, a372, r372, a373, l373, a374, l374, memW_83, memW_372, memW_373, memW_s83, memW_s372, memW_s373, pc_g3, pc_g2, S, hs, hg, e1, pc_2, evBl_f, Option.toList, List.nil_append, List.cons_append]
    · have hs : ¬ sgV p L a = x := by rw [sg_eq hx0 hx1]; exact hg
      simp only [x50_0, x50_1, x50_4, x50_7, x50_8, x50_11, x50_12, x50_15, x50_16, x50_17, x50_20, x50_21, x50_22, x50_25, x50_28, x50_29, x50_30_0, x50_30_1, x50_30b, x50_33, evI_i, evJl_i, evJf_i, evJd_i, evA_r, evA_n, evA_q, evLk_c, evS1_d, evS2_d, evFl_n, evFl_c, evGl_n, evGl_c, evIn_n, evIn_c, evCat_i, evCat_l, evCat_f, evCat_d, evCat_r, evCat_z, evCat_q, evBd_some, evTl_s, evTl_n, va_rf_s, va_rf_n, and_true, true_and, and_false, false_and, if_true, if_false, not_true_eq_false, not_false_eq_true, reduceCtorEq, ↓reduceIte, Nat.reduceAdd, Nat.reduceEqDiff, Nat.reduceLT, Nat.reduceLeDiff, Nat.reduceSub, Nat.zero_ne_one, Nat.one_ne_zero, a0, b0, b1, b2, b3, b4, a83, a84, l84, r83, a372, r372, a373, l373, a374, l374, memW_83, memW_372, memW_373, memW_s83, memW_s372, memW_s373, pc_g3, pc_g2, S, hs, hg, pc_3t, evBl_f, Option.toList, List.nil_append, List.cons_append]
theorem P_readDigit (hx : xOK h n s) {L a : Nat} (hL : L ≤ 80) (ha : a < 1000) (h1 : p 1 1 = nI L) (st mo : Bool) (k f c : Int32) : evX 51 0 [(0, .ref 372)] [] h (memW u (pcU p a st mo k f c) V n) = some (some (.int (if st = false ∧ isD (gC p L) a = true then gC p L a - 48 else 0)), h, memW u (if st = false ∧ isD (gC p L) a = true then pcU p (a + 1) false mo k f c else pcU p a true mo k f c) V n) := by
  obtain ⟨hn2, hN, a0, b0, b1, b2, b3, b4, a83, a84, l84, r83, r84, a372, r372, a373, l373, a374, l374, r374, rss, hH⟩ := id hx
  have S := P_sign (u := u) (V := V) hx hL ha h1 st mo k f c
  have D := P_atDigit (u := u) (V := V) hx hL ha h1 st mo k f c
  have e1 : nI a + 1 = nI (a + 1) := (nI_succ a).symm
  have t1 : ¬ evBl true = 0 := by decide
  cases st with
  | true => simp only [x51_0, x51_1, x51_4, x51_7, x51_8, x51_11, x51_14, x51_15, x51_16_0, x51_16_1, x51_16b, x51_19, x51_20, x51_21, x51_22, x51_25, x51_27, x51_28, x51_29, x51_30, x51_31, x51_34, x51_35, x51_36, x51_39, x51_40, evI_i, evJl_i, evJf_i, evJd_i, evA_r, evA_n, evA_q, evLk_c, evS1_d, evS2_d, evFl_n, evFl_c, evGl_n, evGl_c, evIn_n, evIn_c, evCat_i, evCat_l, evCat_f, evCat_d, evCat_r, evCat_z, evCat_q, evBd_some, evTl_s, evTl_n, va_rf_s, va_rf_n, and_true, true_and, and_false, false_and, if_true, if_false, not_true_eq_false, not_false_eq_true, reduceCtorEq, ↓reduceIte, Nat.reduceAdd, Nat.reduceEqDiff, Nat.reduceLT, Nat.reduceLeDiff, Nat.reduceSub, Nat.zero_ne_one, Nat.one_ne_zero, a0, b0, b1, b2, b3, b4, a83, a84, l84, r83, a372, r372, a373, l373, a374, l374, memW_83, memW_372, memW_373, memW_s83, memW_s372, memW_s373, pc_g3, t1, pc_3t, Bool.true_eq_false]
  | false =>
    by_cases hg : isD (gC p L) a = true
    · have hs := sg_isD hg
      simp only [x51_0, x51_1, x51_4, x51_7, x51_8, x51_11, x51_14, x51_15, x51_16_0, x51_16_1, x51_16b, x51_19, x51_20, x51_21, x51_22, x51_25, x51_27, x51_28, x51_29, x51_30, x51_31, x51_34, x51_35, x51_36, x51_39, x51_40, evI_i, evJl_i, evJf_i, evJd_i, evA_r, evA_n, evA_q, evLk_c, evS1_d, evS2_d, evFl_n, evFl_c, evGl_n, evGl_c, evIn_n, evIn_c, evCat_i, evCat_l, evCat_f, evCat_d, evCat_r, evCat_z, evCat_q, evBd_some, evTl_s, evTl_n, va_rf_s, va_rf_n, and_true, true_and, and_false, false_and, if_true, if_false, not_true_eq_false, not_false_eq_true, reduceCtorEq, ↓reduceIte, Nat.reduceAdd, Nat.reduceEqDiff, Nat.reduceLT, Nat.reduceLeDiff, Nat.reduceSub, Nat.zero_ne_one, Nat.one_ne_zero, a0, b0, b1, b2, b3, b4, a83, a84, l84, r83, a372, r372, a373, l373, a374, l374, memW_83, memW_372, memW_373, memW_s83, memW_s372, memW_s373, pc_g3, pc_g2, S, D, hs, hg, t1, e1, pc_2, evBl_f, Option.toList, List.nil_append, List.cons_append]
    · have hf := b_ne hg
      simp only [x51_0, x51_1, x51_4, x51_7, x51_8, x51_11, x51_14, x51_15, x51_16_0, x51_16_1, x51_16b, x51_19, x51_20, x51_21, x51_22, x51_25, x51_27, x51_28, x51_29, x51_30, x51_31, x51_34, x51_35, x51_36, x51_39, x51_40, evI_i, evJl_i, evJf_i, evJd_i, evA_r, evA_n, evA_q, evLk_c, evS1_d, evS2_d, evFl_n, evFl_c, evGl_n, evGl_c, evIn_n, evIn_c, evCat_i, evCat_l, evCat_f, evCat_d, evCat_r, evCat_z, evCat_q, evBd_some, evTl_s, evTl_n, va_rf_s, va_rf_n, and_true, true_and, and_false, false_and, if_true, if_false, not_true_eq_false, not_false_eq_true, reduceCtorEq, ↓reduceIte, Nat.reduceAdd, Nat.reduceEqDiff, Nat.reduceLT, Nat.reduceLeDiff, Nat.reduceSub, Nat.zero_ne_one, Nat.one_ne_zero, a0, b0, b1, b2, b3, b4, a83, a84, l84, r83, a372, r372, a373, l373, a374, l374, memW_83, memW_372, memW_373, memW_s83, memW_s372, memW_s373, pc_g3, pc_g2, D, hf, pc_3t, evBl_f, Bool.false_eq_true, Option.toList, List.nil_append, List.cons_append]
theorem P_readNumber (hx : xOK h n s) {L a : Nat} (hL : L ≤ 80) (ha : a < 900) (h1 : p 1 1 = nI L) (st mo : Bool) (k f c : Int32) : evX 52 0 [(0, .ref 372)] [] h (memW u (pcU p a st mo k f c) V n) = some (some (.int (if st = false ∧ isD (gC p L) a = true then (nuA (gC p L) a).2 else 0)), h, memW u (if st = false ∧ isD (gC p L) a = true then pcU p (nuA (gC p L) a).1 (isD (gC p L) (nuA (gC p L) a).1) mo k f c else pcU p a true mo k f c) V n) := by
  obtain ⟨hn2, hN, a0, b0, b1, b2, b3, b4, a83, a84, l84, r83, r84, a372, r372, a373, l373, a374, l374, r374, rss, hH⟩ := id hx
  have RD := P_readDigit (u := u) (V := V) hx hL (show a < 1000 by omega) h1 st mo k f c
  have t1 : ¬ evBl true = 0 := by decide
  have l1 : ¬ (80 : Int32) ≤ 1 := by decide
  by_cases hc : st = false ∧ isD (gC p L) a = true
  · obtain ⟨hst, hd⟩ := id hc
    subst hst
    have ex : ∀ (w d : Int32) (q : Nat) (e : evL), evX 52 77 ([(0, .ref 372), (1, .int w), (2, .int d)] ++ e) [] h (memW u (pcU p q (isD (gC p L) q) mo k f c) V n) = some (some (.int w), h, memW u (pcU p q (isD (gC p L) q) mo k f c) V n) := fun w d q e => by
      simp only [x52_77, x52_78, evI_i, evJl_i, evJf_i, evJd_i, evA_r, evA_n, evA_q, evLk_c, evS1_d, evS2_d, evFl_n, evFl_c, evGl_n, evGl_c, evIn_n, evIn_c, evCat_i, evCat_l, evCat_f, evCat_d, evCat_r, evCat_z, evCat_q, evBd_some, evTl_s, evTl_n, va_rf_s, va_rf_n, and_true, true_and, and_false, false_and, if_true, if_false, not_true_eq_false, not_false_eq_true, reduceCtorEq, ↓reduceIte, Nat.reduceAdd, Nat.reduceEqDiff, Nat.reduceLT, Nat.reduceLeDiff, Nat.reduceSub, Nat.zero_ne_one, Nat.one_ne_zero, List.nil_append, List.cons_append]
    have ex2 : ∀ (w : Int32) (d q : Nat) (y : Int32), d < 70 → evX 52 71 [(0, .ref 372), (1, .int w), (2, .int (nI d)), (3, .int y)] [] h (memW u (pcU p q true mo k f c) V n) = some (some (.int w), h, memW u (pcU p q true mo k f c) V n) := fun w d q y hd => by
      have e1 : nI d + 1 = nI (d + 1) := (nI_succ d).symm
      have e2 : ¬ (80 : Int32) ≤ nI (d + 1) := nI_ge (b := 80) (by omega) (by omega)
      simp only [x52_7, x52_8, x52_10, x52_13, x52_14, x52_17, x52_71, x52_74, x52_77, x52_78, evI_i, evJl_i, evJf_i, evJd_i, evA_r, evA_n, evA_q, evLk_c, evS1_d, evS2_d, evFl_n, evFl_c, evGl_n, evGl_c, evIn_n, evIn_c, evCat_i, evCat_l, evCat_f, evCat_d, evCat_r, evCat_z, evCat_q, evBd_some, evTl_s, evTl_n, va_rf_s, va_rf_n, and_true, true_and, and_false, false_and, if_true, if_false, not_true_eq_false, not_false_eq_true, reduceCtorEq, ↓reduceIte, Nat.reduceAdd, Nat.reduceEqDiff, Nat.reduceLT, Nat.reduceLeDiff, Nat.reduceSub, Nat.zero_ne_one, Nat.one_ne_zero, a0, b0, b1, b2, b3, b4, a83, a84, l84, r83, a372, r372, a373, l373, a374, l374, memW_83, memW_372, memW_373, memW_s83, memW_s372, memW_s373, e1, e2, pc_g3, t1]
    have lp : ∀ (j q w : Nat) (e : evL), (e = [] ∨ ∃ y, e = [(3, .int y)]) → j ≤ 3 → q ≤ L → w < 10 ^ (4 - j) → (w = 0 ∨ 10 ^ (3 - j) ≤ w) → evX 52 7 ([(0, .ref 372), (1, .int (nI w)), (2, .int (nI (4 - j)))] ++ e) [] h (memW u (pcU p q false mo k f c) V n) = some (some (.int (nuF (gC p L) j q (nI w)).2), h, memW u (pcU p (nuF (gC p L) j q (nI w)).1 (isD (gC p L) (nuF (gC p L) j q (nI w)).1) mo k f c) V n) := by
      intro j
      induction j with
      | zero =>
        intro q w e he _ hq hw hw'
        have D := P_atDigit (u := u) (V := V) hx hL (show q < 1000 by omega) h1 false mo k f c
        have S := P_sign (u := u) (V := V) hx hL (show q < 1000 by omega) h1 false mo k f c
        have c4 : ¬ (80 : Int32) ≤ nI (4 - 0) := by decide
        show _ = some (some (Value.int (nI w)), h, memW u (pcU p q (isD (gC p L) q) mo k f c) V n)
        by_cases hqd : isD (gC p L) q = true
        · obtain ⟨d, hd9, ed⟩ := isD_of hqd
          have hs := sg_isD hqd
          rw [hqd] at D ⊢
          have e4 : nI w * 10 + nI (48 + d) - 48 = nI (10 * w + d) := by
            rw [show nI w * (10 : Int32) = nI (w * 10) from pk_mul w 10, nI_add, show (48 : Int32) = nI 48 from rfl, pk_sub (by omega)]
            congr 1
            omega
          rcases hw' with rfl | hw'
          · have z : nI 0 = 0 := rfl
            rcases he with rfl | ⟨y, rfl⟩
            · have X' := ex2 0 4 q (0 * 10 + nI (48 + d) - 48) (by omega)
              simp only [x52_7, x52_8, x52_10, x52_13, x52_14, x52_17, x52_20, x52_21, x52_24, x52_27, x52_28, x52_30, x52_31, x52_32, x52_35, x52_36, x52_38, x52_39, x52_40, x52_41, x52_44, x52_45, x52_48, x52_51, x52_52, x52_53_0, x52_53_1, x52_53b, x52_56, evI_i, evJl_i, evJf_i, evJd_i, evA_r, evA_n, evA_q, evLk_c, evS1_d, evS2_d, evFl_n, evFl_c, evGl_n, evGl_c, evIn_n, evIn_c, evCat_i, evCat_l, evCat_f, evCat_d, evCat_r, evCat_z, evCat_q, evBd_some, evTl_s, evTl_n, va_rf_s, va_rf_n, and_true, true_and, and_false, false_and, if_true, if_false, not_true_eq_false, not_false_eq_true, reduceCtorEq, ↓reduceIte, Nat.reduceAdd, Nat.reduceEqDiff, Nat.reduceLT, Nat.reduceLeDiff, Nat.reduceSub, Nat.zero_ne_one, Nat.one_ne_zero, a0, b0, b1, b2, b3, b4, a83, a84, l84, r83, a372, r372, a373, l373, a374, l374, memW_83, memW_372, memW_373, memW_s83, memW_s372, memW_s373, pc_g3, evBl_f, D, S, t1, c4, hs, ed, e4, z, pc_3t, X', Option.toList, List.nil_append, List.cons_append]
            · have X' := ex2 0 4 q (0 * 10 + nI (48 + d) - 48) (by omega)
              simp only [x52_7, x52_8, x52_10, x52_13, x52_14, x52_17, x52_20, x52_21, x52_24, x52_27, x52_28, x52_30, x52_31, x52_32, x52_35, x52_36, x52_38, x52_39, x52_40, x52_41, x52_44, x52_45, x52_48, x52_51, x52_52, x52_53_0, x52_53_1, x52_53b, x52_56, evI_i, evJl_i, evJf_i, evJd_i, evA_r, evA_n, evA_q, evLk_c, evS1_d, evS2_d, evFl_n, evFl_c, evGl_n, evGl_c, evIn_n, evIn_c, evCat_i, evCat_l, evCat_f, evCat_d, evCat_r, evCat_z, evCat_q, evBd_some, evTl_s, evTl_n, va_rf_s, va_rf_n, and_true, true_and, and_false, false_and, if_true, if_false, not_true_eq_false, not_false_eq_true, reduceCtorEq, ↓reduceIte, Nat.reduceAdd, Nat.reduceEqDiff, Nat.reduceLT, Nat.reduceLeDiff, Nat.reduceSub, Nat.zero_ne_one, Nat.one_ne_zero, a0, b0, b1, b2, b3, b4, a83, a84, l84, r83, a372, r372, a373, l373, a374, l374, memW_83, memW_372, memW_373, memW_s83, memW_s372, memW_s373, pc_g3, evBl_f, D, S, t1, c4, hs, ed, e4, z, pc_3t, X', Option.toList, List.nil_append, List.cons_append]
          · have z : ¬ nI w = 0 := nI_ne0 (by omega) (by omega)
            have z9 : ¬ nI (10 * w + d) ≤ 9999 := nI_ge (a := 9999) (by omega) (by omega)
            rcases he with rfl | ⟨y, rfl⟩
            · have X' := ex2 (nI w) 4 q (nI (10 * w + d)) (by omega)
              simp only [x52_7, x52_8, x52_10, x52_13, x52_14, x52_17, x52_20, x52_21, x52_24, x52_27, x52_28, x52_30, x52_31, x52_32, x52_35, x52_36, x52_38, x52_39, x52_40, x52_41, x52_44, x52_45, x52_48, x52_51, x52_52, x52_53_0, x52_53_1, x52_53b, x52_56, evI_i, evJl_i, evJf_i, evJd_i, evA_r, evA_n, evA_q, evLk_c, evS1_d, evS2_d, evFl_n, evFl_c, evGl_n, evGl_c, evIn_n, evIn_c, evCat_i, evCat_l, evCat_f, evCat_d, evCat_r, evCat_z, evCat_q, evBd_some, evTl_s, evTl_n, va_rf_s, va_rf_n, and_true, true_and, and_false, false_and, if_true, if_false, not_true_eq_false, not_false_eq_true, reduceCtorEq, ↓reduceIte, Nat.reduceAdd, Nat.reduceEqDiff, Nat.reduceLT, Nat.reduceLeDiff, Nat.reduceSub, Nat.zero_ne_one, Nat.one_ne_zero, a0, b0, b1, b2, b3, b4, a83, a84, l84, r83, a372, r372, a373, l373, a374, l374, memW_83, memW_372, memW_373, memW_s83, memW_s372, memW_s373, pc_g3, evBl_f, D, S, t1, c4, hs, ed, e4, z, z9, pc_3t, X', Option.toList, List.nil_append, List.cons_append]
            · have X' := ex2 (nI w) 4 q (nI (10 * w + d)) (by omega)
              simp only [x52_7, x52_8, x52_10, x52_13, x52_14, x52_17, x52_20, x52_21, x52_24, x52_27, x52_28, x52_30, x52_31, x52_32, x52_35, x52_36, x52_38, x52_39, x52_40, x52_41, x52_44, x52_45, x52_48, x52_51, x52_52, x52_53_0, x52_53_1, x52_53b, x52_56, evI_i, evJl_i, evJf_i, evJd_i, evA_r, evA_n, evA_q, evLk_c, evS1_d, evS2_d, evFl_n, evFl_c, evGl_n, evGl_c, evIn_n, evIn_c, evCat_i, evCat_l, evCat_f, evCat_d, evCat_r, evCat_z, evCat_q, evBd_some, evTl_s, evTl_n, va_rf_s, va_rf_n, and_true, true_and, and_false, false_and, if_true, if_false, not_true_eq_false, not_false_eq_true, reduceCtorEq, ↓reduceIte, Nat.reduceAdd, Nat.reduceEqDiff, Nat.reduceLT, Nat.reduceLeDiff, Nat.reduceSub, Nat.zero_ne_one, Nat.one_ne_zero, a0, b0, b1, b2, b3, b4, a83, a84, l84, r83, a372, r372, a373, l373, a374, l374, memW_83, memW_372, memW_373, memW_s83, memW_s372, memW_s373, pc_g3, evBl_f, D, S, t1, c4, hs, ed, e4, z, z9, pc_3t, X', Option.toList, List.nil_append, List.cons_append]
        · have hf := b_ne hqd
          have X := ex (nI w) (nI (4 - 0)) q e
          rw [hf] at X D ⊢
          rcases he with rfl | ⟨y, rfl⟩
          · simp only [List.append_nil] at X
            simp only [x52_7, x52_8, x52_10, x52_13, x52_14, x52_17, x52_20, x52_21, x52_24, evI_i, evJl_i, evJf_i, evJd_i, evA_r, evA_n, evA_q, evLk_c, evS1_d, evS2_d, evFl_n, evFl_c, evGl_n, evGl_c, evIn_n, evIn_c, evCat_i, evCat_l, evCat_f, evCat_d, evCat_r, evCat_z, evCat_q, evBd_some, evTl_s, evTl_n, va_rf_s, va_rf_n, and_true, true_and, and_false, false_and, if_true, if_false, not_true_eq_false, not_false_eq_true, reduceCtorEq, ↓reduceIte, Nat.reduceAdd, Nat.reduceEqDiff, Nat.reduceLT, Nat.reduceLeDiff, Nat.reduceSub, Nat.zero_ne_one, Nat.one_ne_zero, a0, b0, b1, b2, b3, b4, a83, a84, l84, r83, a372, r372, a373, l373, a374, l374, memW_83, memW_372, memW_373, memW_s83, memW_s372, memW_s373, pc_g3, evBl_f, D, c4, X, Option.toList, List.nil_append, List.cons_append, List.append_nil]
          · simp only [List.nil_append, List.cons_append] at X
            simp only [x52_7, x52_8, x52_10, x52_13, x52_14, x52_17, x52_20, x52_21, x52_24, evI_i, evJl_i, evJf_i, evJd_i, evA_r, evA_n, evA_q, evLk_c, evS1_d, evS2_d, evFl_n, evFl_c, evGl_n, evGl_c, evIn_n, evIn_c, evCat_i, evCat_l, evCat_f, evCat_d, evCat_r, evCat_z, evCat_q, evBd_some, evTl_s, evTl_n, va_rf_s, va_rf_n, and_true, true_and, and_false, false_and, if_true, if_false, not_true_eq_false, not_false_eq_true, reduceCtorEq, ↓reduceIte, Nat.reduceAdd, Nat.reduceEqDiff, Nat.reduceLT, Nat.reduceLeDiff, Nat.reduceSub, Nat.zero_ne_one, Nat.one_ne_zero, a0, b0, b1, b2, b3, b4, a83, a84, l84, r83, a372, r372, a373, l373, a374, l374, memW_83, memW_372, memW_373, memW_s83, memW_s372, memW_s373, pc_g3, evBl_f, D, c4, X, Option.toList, List.nil_append, List.cons_append, List.append_nil]
      | succ j ih =>
        intro q w e he hj hq hw hw'
        have D := P_atDigit (u := u) (V := V) hx hL (show q < 1000 by omega) h1 false mo k f c
        have S := P_sign (u := u) (V := V) hx hL (show q < 1000 by omega) h1 false mo k f c
        have c4 : ¬ (80 : Int32) ≤ nI (4 - (j + 1)) := nI_ge (b := 80) (by omega) (by omega)
        unfold nuF
        by_cases hqd : isD (gC p L) q = true
        · obtain ⟨d, hd9, ed⟩ := isD_of hqd
          have hs := sg_isD hqd
          have e4 : nI w * 10 + nI (48 + d) - 48 = nI (10 * w + d) := by
            rw [show nI w * (10 : Int32) = nI (w * 10) from pk_mul w 10, nI_add, show (48 : Int32) = nI 48 from rfl, pk_sub (by omega)]
            congr 1
            omega
          have e5 : 10 * nI w + gC p L q - 48 = nI (10 * w + d) := by
            rw [ed, show (10 : Int32) * nI w = nI (10 * w) from pk_mul 10 w, nI_add, show (48 : Int32) = nI 48 from rfl, pk_sub (by omega)]
            congr 1
            omega
          rcases Nat.eq_zero_or_pos w with rfl | hw0
          · have z : nI 0 = 0 := rfl
            have z' : ¬ ((0 : Int32) < nI 0 ∧ isD (gC p L) q = true) := fun y => absurd y.1 (by decide)
            rw [if_neg z']
            dsimp only
            rw [hqd] at D ⊢
            rcases he with rfl | ⟨y, rfl⟩
            · have X' := ex2 0 (4 - (j + 1)) q (0 * 10 + nI (48 + d) - 48) (by omega)
              simp only [x52_7, x52_8, x52_10, x52_13, x52_14, x52_17, x52_20, x52_21, x52_24, x52_27, x52_28, x52_30, x52_31, x52_32, x52_35, x52_36, x52_38, x52_39, x52_40, x52_41, x52_44, x52_45, x52_48, x52_51, x52_52, x52_53_0, x52_53_1, x52_53b, x52_56, evI_i, evJl_i, evJf_i, evJd_i, evA_r, evA_n, evA_q, evLk_c, evS1_d, evS2_d, evFl_n, evFl_c, evGl_n, evGl_c, evIn_n, evIn_c, evCat_i, evCat_l, evCat_f, evCat_d, evCat_r, evCat_z, evCat_q, evBd_some, evTl_s, evTl_n, va_rf_s, va_rf_n, and_true, true_and, and_false, false_and, if_true, if_false, not_true_eq_false, not_false_eq_true, reduceCtorEq, ↓reduceIte, Nat.reduceAdd, Nat.reduceEqDiff, Nat.reduceLT, Nat.reduceLeDiff, Nat.reduceSub, Nat.zero_ne_one, Nat.one_ne_zero, a0, b0, b1, b2, b3, b4, a83, a84, l84, r83, a372, r372, a373, l373, a374, l374, memW_83, memW_372, memW_373, memW_s83, memW_s372, memW_s373, pc_g3, evBl_f, D, S, t1, c4, hs, ed, e4, z, pc_3t, X', Option.toList, List.nil_append, List.cons_append]
            · have X' := ex2 0 (4 - (j + 1)) q (0 * 10 + nI (48 + d) - 48) (by omega)
              simp only [x52_7, x52_8, x52_10, x52_13, x52_14, x52_17, x52_20, x52_21, x52_24, x52_27, x52_28, x52_30, x52_31, x52_32, x52_35, x52_36, x52_38, x52_39, x52_40, x52_41, x52_44, x52_45, x52_48, x52_51, x52_52, x52_53_0, x52_53_1, x52_53b, x52_56, evI_i, evJl_i, evJf_i, evJd_i, evA_r, evA_n, evA_q, evLk_c, evS1_d, evS2_d, evFl_n, evFl_c, evGl_n, evGl_c, evIn_n, evIn_c, evCat_i, evCat_l, evCat_f, evCat_d, evCat_r, evCat_z, evCat_q, evBd_some, evTl_s, evTl_n, va_rf_s, va_rf_n, and_true, true_and, and_false, false_and, if_true, if_false, not_true_eq_false, not_false_eq_true, reduceCtorEq, ↓reduceIte, Nat.reduceAdd, Nat.reduceEqDiff, Nat.reduceLT, Nat.reduceLeDiff, Nat.reduceSub, Nat.zero_ne_one, Nat.one_ne_zero, a0, b0, b1, b2, b3, b4, a83, a84, l84, r83, a372, r372, a373, l373, a374, l374, memW_83, memW_372, memW_373, memW_s83, memW_s372, memW_s373, pc_g3, evBl_f, D, S, t1, c4, hs, ed, e4, z, pc_3t, X', Option.toList, List.nil_append, List.cons_append]
          · have hw3 : w < 1000 := by
              have : (10 : Nat) ^ (4 - (j + 1)) ≤ 10 ^ 3 := Nat.pow_le_pow_right (by omega) (by omega)
              omega
            have z : ¬ nI w = 0 := nI_ne0 hw0 (by omega)
            have z2 : (0 : Int32) < nI w := Int32.not_le.mp (nI_nle hw0 (by omega))
            have z9 : nI (10 * w + d) ≤ 9999 := nI_le (b := 9999) (by omega) (by omega)
            rw [if_pos ⟨z2, hqd⟩, e5]
            have p1 : (10 : Nat) ^ (4 - j) = 10 * 10 ^ (4 - (j + 1)) := by
              rw [show 4 - j = 4 - (j + 1) + 1 by omega, Nat.pow_succ, Nat.mul_comm]
            have p2 : (10 : Nat) ^ (3 - j) = 10 * 10 ^ (3 - (j + 1)) := by
              rw [show 3 - j = 3 - (j + 1) + 1 by omega, Nat.pow_succ, Nat.mul_comm]
            have hih := ih (q + 1) (10 * w + d) [(3, .int (nI (10 * w + d)))] (Or.inr ⟨_, rfl⟩) (by omega) (gC_D q hqd) (by rw [p1]; omega) (Or.inr (by rw [p2]; omega))
            rw [← hih]
            have e1 : nI q + 1 = nI (q + 1) := (nI_succ q).symm
            have e6 : nI (4 - (j + 1)) + 1 = nI (4 - j) := by rw [← nI_succ, show 4 - (j + 1) + 1 = 4 - j by omega]
            rw [hqd] at D
            rcases he with rfl | ⟨y, rfl⟩
            · conv => lhs; rw [List.append_nil, x52_7]
              simp only [x52_8, x52_10, x52_13, x52_14, x52_17, x52_20, x52_21, x52_24, x52_27, x52_28, x52_30, x52_31, x52_32, x52_35, x52_36, x52_38, x52_39, x52_40, x52_41, x52_44, x52_45, x52_48, x52_51, x52_52, x52_53_0, x52_53_1, x52_53b, x52_56, x52_59, x52_60, x52_61, x52_62, x52_63, x52_66, x52_67, x52_68, x52_71, x52_74, evI_i, evJl_i, evJf_i, evJd_i, evA_r, evA_n, evA_q, evLk_c, evS1_d, evS2_d, evFl_n, evFl_c, evGl_n, evGl_c, evIn_n, evIn_c, evCat_i, evCat_l, evCat_f, evCat_d, evCat_r, evCat_z, evCat_q, evBd_some, evTl_s, evTl_n, va_rf_s, va_rf_n, and_true, true_and, and_false, false_and, if_true, if_false, not_true_eq_false, not_false_eq_true, reduceCtorEq, ↓reduceIte, Nat.reduceAdd, Nat.reduceEqDiff, Nat.reduceLT, Nat.reduceLeDiff, Nat.reduceSub, Nat.zero_ne_one, Nat.one_ne_zero, a0, b0, b1, b2, b3, b4, a83, a84, l84, r83, a372, r372, a373, l373, a374, l374, memW_83, memW_372, memW_373, memW_s83, memW_s372, memW_s373, pc_g3, pc_g2, evBl_f, D, S, t1, c4, hs, ed, e4, e1, e6, z, z9, pc_2, Option.toList, List.nil_append, List.cons_append]
            · conv => lhs; rw [List.cons_append, List.cons_append, List.cons_append, List.nil_append, x52_7]
              simp only [x52_8, x52_10, x52_13, x52_14, x52_17, x52_20, x52_21, x52_24, x52_27, x52_28, x52_30, x52_31, x52_32, x52_35, x52_36, x52_38, x52_39, x52_40, x52_41, x52_44, x52_45, x52_48, x52_51, x52_52, x52_53_0, x52_53_1, x52_53b, x52_56, x52_59, x52_60, x52_61, x52_62, x52_63, x52_66, x52_67, x52_68, x52_71, x52_74, evI_i, evJl_i, evJf_i, evJd_i, evA_r, evA_n, evA_q, evLk_c, evS1_d, evS2_d, evFl_n, evFl_c, evGl_n, evGl_c, evIn_n, evIn_c, evCat_i, evCat_l, evCat_f, evCat_d, evCat_r, evCat_z, evCat_q, evBd_some, evTl_s, evTl_n, va_rf_s, va_rf_n, and_true, true_and, and_false, false_and, if_true, if_false, not_true_eq_false, not_false_eq_true, reduceCtorEq, ↓reduceIte, Nat.reduceAdd, Nat.reduceEqDiff, Nat.reduceLT, Nat.reduceLeDiff, Nat.reduceSub, Nat.zero_ne_one, Nat.one_ne_zero, a0, b0, b1, b2, b3, b4, a83, a84, l84, r83, a372, r372, a373, l373, a374, l374, memW_83, memW_372, memW_373, memW_s83, memW_s372, memW_s373, pc_g3, pc_g2, evBl_f, D, S, t1, c4, hs, ed, e4, e1, e6, z, z9, pc_2, Option.toList, List.nil_append, List.cons_append]
        · have hf := b_ne hqd
          have z' : ¬ ((0 : Int32) < nI w ∧ isD (gC p L) q = true) := fun y => hqd y.2
          rw [if_neg z']
          dsimp only
          have X := ex (nI w) (nI (4 - (j + 1))) q e
          rw [hf] at X D ⊢
          rcases he with rfl | ⟨y, rfl⟩
          · simp only [List.append_nil] at X
            simp only [x52_7, x52_8, x52_10, x52_13, x52_14, x52_17, x52_20, x52_21, x52_24, evI_i, evJl_i, evJf_i, evJd_i, evA_r, evA_n, evA_q, evLk_c, evS1_d, evS2_d, evFl_n, evFl_c, evGl_n, evGl_c, evIn_n, evIn_c, evCat_i, evCat_l, evCat_f, evCat_d, evCat_r, evCat_z, evCat_q, evBd_some, evTl_s, evTl_n, va_rf_s, va_rf_n, and_true, true_and, and_false, false_and, if_true, if_false, not_true_eq_false, not_false_eq_true, reduceCtorEq, ↓reduceIte, Nat.reduceAdd, Nat.reduceEqDiff, Nat.reduceLT, Nat.reduceLeDiff, Nat.reduceSub, Nat.zero_ne_one, Nat.one_ne_zero, a0, b0, b1, b2, b3, b4, a83, a84, l84, r83, a372, r372, a373, l373, a374, l374, memW_83, memW_372, memW_373, memW_s83, memW_s372, memW_s373, pc_g3, evBl_f, D, c4, X, Option.toList, List.nil_append, List.cons_append, List.append_nil]
          · simp only [List.nil_append, List.cons_append] at X
            simp only [x52_7, x52_8, x52_10, x52_13, x52_14, x52_17, x52_20, x52_21, x52_24, evI_i, evJl_i, evJf_i, evJd_i, evA_r, evA_n, evA_q, evLk_c, evS1_d, evS2_d, evFl_n, evFl_c, evGl_n, evGl_c, evIn_n, evIn_c, evCat_i, evCat_l, evCat_f, evCat_d, evCat_r, evCat_z, evCat_q, evBd_some, evTl_s, evTl_n, va_rf_s, va_rf_n, and_true, true_and, and_false, false_and, if_true, if_false, not_true_eq_false, not_false_eq_true, reduceCtorEq, ↓reduceIte, Nat.reduceAdd, Nat.reduceEqDiff, Nat.reduceLT, Nat.reduceLeDiff, Nat.reduceSub, Nat.zero_ne_one, Nat.one_ne_zero, a0, b0, b1, b2, b3, b4, a83, a84, l84, r83, a372, r372, a373, l373, a374, l374, memW_83, memW_372, memW_373, memW_s83, memW_s372, memW_s373, pc_g3, evBl_f, D, c4, X, Option.toList, List.nil_append, List.cons_append, List.append_nil]
    obtain ⟨d, hd9, ed⟩ := isD_of hd
    have e4 : gC p L a - 48 = nI d := by
      rw [ed, show (48 : Int32) = nI 48 from rfl, pk_sub (by omega)]
      congr 1
      omega
    have lp' := lp 3 (a + 1) d [] (Or.inl rfl) (Nat.le_refl _) (gC_D a hd) (by omega) (by omega)
    rw [List.append_nil] at lp'
    rw [if_pos hc, if_pos hc] at RD
    rw [if_pos hc, if_pos hc]
    unfold nuA
    rw [e4] at RD ⊢
    rw [← lp']
    simp only [x52_0, x52_1, x52_4, x52_5, x52_6, evI_i, evJl_i, evJf_i, evJd_i, evA_r, evA_n, evA_q, evLk_c, evS1_d, evS2_d, evFl_n, evFl_c, evGl_n, evGl_c, evIn_n, evIn_c, evCat_i, evCat_l, evCat_f, evCat_d, evCat_r, evCat_z, evCat_q, evBd_some, evTl_s, evTl_n, va_rf_s, va_rf_n, and_true, true_and, and_false, false_and, if_true, if_false, not_true_eq_false, not_false_eq_true, reduceCtorEq, ↓reduceIte, Nat.reduceAdd, Nat.reduceEqDiff, Nat.reduceLT, Nat.reduceLeDiff, Nat.reduceSub, Nat.zero_ne_one, Nat.one_ne_zero, a0, b0, b1, b2, b3, b4, a83, a84, l84, r83, a372, r372, a373, l373, a374, l374, memW_83, memW_372, memW_373, memW_s83, memW_s372, memW_s373, RD, Option.toList, List.nil_append, List.cons_append]
    rfl
  · rw [if_neg hc, if_neg hc] at RD
    rw [if_neg hc, if_neg hc]
    simp only [x52_0, x52_1, x52_4, x52_5, x52_6, x52_7, x52_8, x52_10, x52_13, x52_14, x52_17, x52_20, x52_21, x52_24, x52_27, x52_28, x52_30, x52_31, x52_32, x52_35, x52_36, x52_38, x52_39, x52_40, x52_41, x52_44, x52_45, x52_48, x52_51, x52_52, x52_53_0, x52_53_1, x52_53b, x52_56, x52_59, x52_60, x52_61, x52_62, x52_63, x52_66, x52_67, x52_68, x52_71, x52_74, x52_77, x52_78, evI_i, evJl_i, evJf_i, evJd_i, evA_r, evA_n, evA_q, evLk_c, evS1_d, evS2_d, evFl_n, evFl_c, evGl_n, evGl_c, evIn_n, evIn_c, evCat_i, evCat_l, evCat_f, evCat_d, evCat_r, evCat_z, evCat_q, evBd_some, evTl_s, evTl_n, va_rf_s, va_rf_n, and_true, true_and, and_false, false_and, if_true, if_false, not_true_eq_false, not_false_eq_true, reduceCtorEq, ↓reduceIte, Nat.reduceAdd, Nat.reduceEqDiff, Nat.reduceLT, Nat.reduceLeDiff, Nat.reduceSub, Nat.zero_ne_one, Nat.one_ne_zero, a0, b0, b1, b2, b3, b4, a83, a84, l84, r83, a372, r372, a373, l373, a374, l374, memW_83, memW_372, memW_373, memW_s83, memW_s372, memW_s373, RD, l1, pc_g3, t1, Option.toList, List.nil_append, List.cons_append]
end PA
