/-! worlds that grow: c cells are laid from b on, in their order -/
def ks (K : Nat → Nat × Nat) (c : Nat) (q : Nat × Nat) : Nat → Nat × Nat := fun o => if o = c then q else K o
def rs (R : Nat → Nat → Option Nat) (o j : Nat) (v : Option Nat) : Nat → Nat → Option Nat := fun o' j' => if o' = o ∧ j' = j then v else R o' j'
def rz (R : Nat → Nat → Option Nat) (c : Nat) : Nat → Nat → Option Nat := fun o j => if o = c then none else R o j
def ms (f : Nat → Nat → Int32) (o j : Nat) (x : Int32) : Nat → Nat → Int32 := fun o' j' => if o' = o ∧ j' = j then x else f o' j'
def mz (f : Nat → Nat → Int32) (c : Nat) : Nat → Nat → Int32 := fun o j => if o = c then 0 else f o j
theorem ks_at (K : Nat → Nat × Nat) (c : Nat) (q : Nat × Nat) (o : Nat) : ks K c q o = if o = c then q else K o := id rfl
theorem rs_at (R : Nat → Nat → Option Nat) (o j : Nat) (v : Option Nat) (o' j' : Nat) : rs R o j v o' j' = if o' = o ∧ j' = j then v else R o' j' := id rfl
theorem rz_at (R : Nat → Nat → Option Nat) (c : Nat) (o j : Nat) : rz R c o j = if o = c then none else R o j := id rfl
theorem ms_at (f : Nat → Nat → Int32) (o j : Nat) (x : Int32) (o' j' : Nat) : ms f o j x o' j' = if o' = o ∧ j' = j then x else f o' j' := id rfl
theorem mz_at (f : Nat → Nat → Int32) (c : Nat) (o j : Nat) : mz f c o j = if o = c then 0 else f o j := id rfl
def evG (h : evH) (b c s : Nat) (K : Nat → Nat × Nat) (R : Nat → Nat → Option Nat) : evH := (b + c, h.2.1 + s, (fun a => if b ≤ a ∧ a < b + c then K (a - b) else h.2.2.1 a), (fun a j => if b ≤ a ∧ a < b + c then R (a - b) j else h.2.2.2.1 a j), h.2.2.2.2)
def evGM (m : evM) (b c : Nat) (f : Nat → Nat → Int32) : evM := fun a j => if b ≤ a ∧ a < b + c then f (a - b) j else m a j
section GR
variable {h : evH} {m : evM} {b c s o j k n : Nat} {K : Nat → Nat × Nat} {R : Nat → Nat → Option Nat} {f : Nat → Nat → Int32} {v : Option Nat} {x : Int32}
theorem evG_0 (hb : evN h = b) (K : Nat → Nat × Nat) (R : Nat → Nat → Option Nat) : h = evG h b 0 0 K R := by
  subst hb
  unfold evG evN
  obtain ⟨h1, h2, h3, h4, h5⟩ := h
  have e : ∀ a : Nat, ¬ (h1 ≤ a ∧ a < h1 + 0) := fun a => by omega
  simp only [Nat.add_zero] at e
  simp only [e, if_false, Nat.add_zero]
theorem evGM_0 (m : evM) (b : Nat) (f : Nat → Nat → Int32) : m = evGM m b 0 f := by
  funext a j
  unfold evGM
  rw [if_neg (by omega)]
theorem evG_N : evN (evG h b c s K R) = b + c := id rfl
theorem evG_Sl : evSl (evG h b c s K R) = evSl h + s := id rfl
theorem evG_Sp : evSp (evG h b c s K R) = evSp h := id rfl
theorem evG_K (ho : o < c) : evK (evG h b c s K R) (b + o) = (K o).1 := by
  show (if b ≤ b + o ∧ b + o < b + c then K (b + o - b) else h.2.2.1 (b + o)).1 = _
  rw [if_pos (by omega), Nat.add_sub_cancel_left]
theorem evG_len (ho : o < c) : evLen (evG h b c s K R) (b + o) = (K o).2 := by
  show (if b ≤ b + o ∧ b + o < b + c then K (b + o - b) else h.2.2.1 (b + o)).2 = _
  rw [if_pos (by omega), Nat.add_sub_cancel_left]
theorem evG_R (ho : o < c) : evR (evG h b c s K R) (b + o) j = R o j := by
  show (if b ≤ b + o ∧ b + o < b + c then R (b + o - b) j else h.2.2.2.1 (b + o) j) = _
  rw [if_pos (by omega), Nat.add_sub_cancel_left]
theorem evG_at (ho : o < c) : evAt (evG h b c s K R) (b + o) k = (b + o < evO9 ∧ (K o).1 = k) := by
  unfold evAt
  rw [evG_K ho, evG_N]
  exact propext ⟨fun z => z.2, fun z => ⟨by omega, z⟩⟩
theorem evG_len0 (ho : 0 < c) : evLen (evG h b c s K R) b = (K 0).2 := evG_len (o := 0) ho
theorem evG_R0 (ho : 0 < c) : evR (evG h b c s K R) b j = R 0 j := evG_R (o := 0) ho
theorem evG_at0 (ho : 0 < c) : evAt (evG h b c s K R) b k = (b < evO9 ∧ (K 0).1 = k) := evG_at (o := 0) ho
theorem evG_new : evNew (evG h b c s K R) k n = evG h b (c + 1) (s + n) (ks K c (k, n)) (rz R c) := by
  unfold evNew evG
  refine Prod.ext rfl (Prod.ext (Nat.add_assoc _ _ _) (Prod.ext ?_ (Prod.ext ?_ rfl)))
  · funext a
    show (if a = b + c then (k, n) else if b ≤ a ∧ a < b + c then K (a - b) else h.2.2.1 a) = if b ≤ a ∧ a < b + (c + 1) then ks K c (k, n) (a - b) else h.2.2.1 a
    rw [ks_at]
    by_cases h1 : a = b + c
    · rw [if_pos h1, if_pos (by omega), if_pos (by omega)]
    · rw [if_neg h1]
      by_cases h2 : b ≤ a ∧ a < b + c
      · rw [if_pos h2, if_pos (by omega), if_neg (by omega)]
      · rw [if_neg h2, if_neg (by omega)]
  · funext a j
    show (if a = b + c then none else if b ≤ a ∧ a < b + c then R (a - b) j else h.2.2.2.1 a j) = if b ≤ a ∧ a < b + (c + 1) then rz R c (a - b) j else h.2.2.2.1 a j
    rw [rz_at]
    by_cases h1 : a = b + c
    · rw [if_pos h1, if_pos (by omega), if_pos (by omega)]
    · rw [if_neg h1]
      by_cases h2 : b ≤ a ∧ a < b + c
      · rw [if_pos h2, if_pos (by omega), if_neg (by omega)]
      · rw [if_neg h2, if_neg (by omega)]
theorem evGM_new : evNewM (evG h b c s K R) (evGM m b c f) = evGM m b (c + 1) (mz f c) := by
  funext a j
  show (if a = b + c then 0 else if b ≤ a ∧ a < b + c then f (a - b) j else m a j) = if b ≤ a ∧ a < b + (c + 1) then mz f c (a - b) j else m a j
  rw [mz_at]
  by_cases h1 : a = b + c
  · rw [if_pos h1, if_pos (by omega), if_pos (by omega)]
  · rw [if_neg h1]
    by_cases h2 : b ≤ a ∧ a < b + c
    · rw [if_pos h2, if_pos (by omega), if_neg (by omega)]
    · rw [if_neg h2, if_neg (by omega)]
theorem evG_set (ho : o < c) : evSetR (evG h b c s K R) (b + o) j v = evG h b c s K (rs R o j v) := by
  unfold evSetR evG
  refine Prod.ext rfl (Prod.ext rfl (Prod.ext rfl (Prod.ext ?_ rfl)))
  funext a i
  show (if a = b + o ∧ i = j then v else if b ≤ a ∧ a < b + c then R (a - b) i else h.2.2.2.1 a i) = if b ≤ a ∧ a < b + c then rs R o j v (a - b) i else h.2.2.2.1 a i
  rw [rs_at]
  by_cases h1 : a = b + o ∧ i = j
  · rw [if_pos h1, if_pos (by omega), if_pos (by omega)]
  · rw [if_neg h1]
    by_cases h2 : b ≤ a ∧ a < b + c
    · rw [if_pos h2, if_pos h2, if_neg (by omega)]
    · rw [if_neg h2, if_neg h2]
theorem evG_set0 (ho : 0 < c) : evSetR (evG h b c s K R) b j v = evG h b c s K (rs R 0 j v) := evG_set (o := 0) ho
theorem evGM_set (ho : o < c) : evSetM (evGM m b c f) (b + o) j x = evGM m b c (ms f o j x) := by
  unfold evSetM evGM
  funext a i
  rw [ms_at]
  by_cases h1 : a = b + o ∧ i = j
  · rw [if_pos h1, if_pos (by omega), if_pos (by omega)]
  · rw [if_neg h1]
    by_cases h2 : b ≤ a ∧ a < b + c
    · rw [if_pos h2, if_pos h2, if_neg (by omega)]
    · rw [if_neg h2, if_neg h2]
theorem evGM_set0 (ho : 0 < c) : evSetM (evGM m b c f) b j x = evGM m b c (ms f 0 j x) := evGM_set (o := 0) ho
theorem evGM_get (ho : o < c) : evGM m b c f (b + o) j = f o j := by
  unfold evGM
  rw [if_pos (by omega), Nat.add_sub_cancel_left]
/-- what lay there before stays -/
theorem evG_old {a : Nat} (ha : a < b) : evK (evG h b c s K R) a = evK h a ∧ evLen (evG h b c s K R) a = evLen h a ∧ ∀ j, evR (evG h b c s K R) a j = evR h a j := by
  refine ⟨?_, ?_, fun j => ?_⟩
  · show (if b ≤ a ∧ a < b + c then K (a - b) else h.2.2.1 a).1 = _
    rw [if_neg (by omega)]
    rfl
  · show (if b ≤ a ∧ a < b + c then K (a - b) else h.2.2.1 a).2 = _
    rw [if_neg (by omega)]
    rfl
  · show (if b ≤ a ∧ a < b + c then R (a - b) j else h.2.2.2.1 a j) = _
    rw [if_neg (by omega)]
    rfl
theorem evGM_old {a : Nat} (ha : a < b) : evGM m b c f a j = m a j := by
  unfold evGM
  rw [if_neg (by omega)]
-- the makings of the parts
theorem c_Bid_init {a : Nat} (ha : evAt h a 0) : evX 0 0 [(0, .ref a)] [] h m = some (none, h, evSetM m a 0 (-6)) := by
  simp only [x0_0, x0_1, x0_4, x0_5, x0_7, x0_10, evI_i, evJl_i, evJf_i, evJd_i, evA_r, evA_n, evA_q, evLk_c, evS1_d, evS2_d, evFl_n, evFl_c, evGl_n, evGl_c, evIn_n, evIn_c, evCat_i, evCat_l, evCat_f, evCat_d, evCat_r, evCat_z, evCat_q, evBd_some, evTl_s, evTl_n, va_rf_s, va_rf_n, and_true, true_and, and_false, false_and, if_true, if_false, not_true_eq_false, not_false_eq_true, reduceCtorEq, ↓reduceIte, Nat.reduceAdd, Nat.reduceEqDiff, Nat.reduceLT, Nat.reduceLeDiff, Nat.reduceSub, Nat.zero_ne_one, Nat.one_ne_zero, ha]
theorem c_Bidder_init (h0 : b + c < evO9) (h1 : b + (c + 1) < evO9) (hk : (K c).1 = 1) : evX 5 0 [(0, .ref (b + c))] [] (evG h b (c + 1) s K R) (evGM m b (c + 1) f) = some (none, evG h b (c + 1 + 1) (s + 3) (ks K (c + 1) (0, 3)) (rs (rz R (c + 1)) c 8 (some (b + (c + 1)))), evGM m b (c + 1 + 1) (ms (mz f (c + 1)) (c + 1) 0 (-6))) := by
  have e1 : c < c + 1 := by omega
  have e2 : c < c + 1 + 1 := by omega
  have e3 : c + 1 < c + 1 + 1 := by omega
  have e4 : ¬ c = c + 1 := by omega
  simp only [x5_0, x5_1, x5_4, x5_5, x5_8, x5_9, x5_12q, x5_12, x5_15, evI_i, evJl_i, evJf_i, evJd_i, evA_r, evA_n, evA_q, evLk_c, evS1_d, evS2_d, evFl_n, evFl_c, evGl_n, evGl_c, evIn_n, evIn_c, evCat_i, evCat_l, evCat_f, evCat_d, evCat_r, evCat_z, evCat_q, evBd_some, evTl_s, evTl_n, va_rf_s, va_rf_n, and_true, true_and, and_false, false_and, if_true, if_false, not_true_eq_false, not_false_eq_true, reduceCtorEq, ↓reduceIte, Nat.reduceAdd, Nat.reduceEqDiff, Nat.reduceLT, Nat.reduceLeDiff, Nat.reduceSub, Nat.zero_ne_one, Nat.one_ne_zero, evG_N, evG_at, evG_new, evG_set, evGM_new, evGM_set, ks_at, h0, h1, hk, e1, e2, e3, e4, c_Bid_init, Option.toList, List.nil_append]
theorem c_Lot_init (h0 : b + c < evO9) (h1 : b + (c + 1) < evO9) (hk : (K c).1 = 4) : evX 37 0 [(0, .ref (b + c))] [] (evG h b (c + 1) s K R) (evGM m b (c + 1) f) = some (none, evG h b (c + 1 + 1) (s + 3) (ks K (c + 1) (0, 3)) (rs (rz R (c + 1)) c 5 (some (b + (c + 1)))), evGM m b (c + 1 + 1) (ms (mz f (c + 1)) (c + 1) 0 (-6))) := by
  have e1 : c < c + 1 := by omega
  have e2 : c < c + 1 + 1 := by omega
  have e3 : c + 1 < c + 1 + 1 := by omega
  have e4 : ¬ c = c + 1 := by omega
  simp only [x37_0, x37_1, x37_4, x37_5, x37_8, x37_9, x37_12q, x37_12, x37_15, evI_i, evJl_i, evJf_i, evJd_i, evA_r, evA_n, evA_q, evLk_c, evS1_d, evS2_d, evFl_n, evFl_c, evGl_n, evGl_c, evIn_n, evIn_c, evCat_i, evCat_l, evCat_f, evCat_d, evCat_r, evCat_z, evCat_q, evBd_some, evTl_s, evTl_n, va_rf_s, va_rf_n, and_true, true_and, and_false, false_and, if_true, if_false, not_true_eq_false, not_false_eq_true, reduceCtorEq, ↓reduceIte, Nat.reduceAdd, Nat.reduceEqDiff, Nat.reduceLT, Nat.reduceLeDiff, Nat.reduceSub, Nat.zero_ne_one, Nat.one_ne_zero, evG_N, evG_at, evG_new, evG_set, evGM_new, evGM_set, ks_at, h0, h1, hk, e1, e2, e3, e4, c_Bid_init, Option.toList, List.nil_append]
theorem c_Recent_init (h0 : b + c < evO9) (h1 : b + (c + 1) < evO9) (hk : (K c).1 = 6) : evX 40 0 [(0, .ref (b + c))] [] (evG h b (c + 1) s K R) (evGM m b (c + 1) f) = some (none, evG h b (c + 1 + 1) (s + 160) (ks K (c + 1) (9, 160)) (rs (rz R (c + 1)) c 0 (some (b + (c + 1)))), evGM m b (c + 1 + 1) (mz f (c + 1))) := by
  have e1 : c < c + 1 := by omega
  have e2 : c < c + 1 + 1 := by omega
  have e3 : c + 1 < c + 1 + 1 := by omega
  have e4 : ¬ c = c + 1 := by omega
  have z1 : ¬ (160 : Int32) < 0 := by decide
  have z2 : (160 : Int32).toNatClampNeg = 160 := by decide
  simp only [x40_0, x40_1, x40_4, x40_5, x40_8, x40_10q, x40_10, x40_13, evI_i, evJl_i, evJf_i, evJd_i, evA_r, evA_n, evA_q, evLk_c, evS1_d, evS2_d, evFl_n, evFl_c, evGl_n, evGl_c, evIn_n, evIn_c, evCat_i, evCat_l, evCat_f, evCat_d, evCat_r, evCat_z, evCat_q, evBd_some, evTl_s, evTl_n, va_rf_s, va_rf_n, and_true, true_and, and_false, false_and, if_true, if_false, not_true_eq_false, not_false_eq_true, reduceCtorEq, ↓reduceIte, Nat.reduceAdd, Nat.reduceEqDiff, Nat.reduceLT, Nat.reduceLeDiff, Nat.reduceSub, Nat.zero_ne_one, Nat.one_ne_zero, evG_N, evG_at, evG_new, evG_set, evGM_new, evGM_set, ks_at, h0, h1, hk, e1, e2, e3, e4, z1, z2, Option.toList, List.nil_append]
end GR
