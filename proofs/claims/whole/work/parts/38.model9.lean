/-! the model: a round -/
def bsU (u : Nat → Nat → Int32) (lag n l k : Nat) : Nat → Nat → Int32 := fun o j => if o = 7 ∧ j < k then bidV (u 1) lag n l j else u o j
def bsT (u : Nat → Nat → Int32) (lag n : Nat) : Nat → evT
  | 0 => (u 0 8, u 0 9, u 0 10)
  | k + 1 => bidT (u 1) lag n k (bsT u lag n k)
def tzU (u : Nat → Nat → Int32) : Nat → Nat → Nat → Int32
  | 0 => u
  | k + 1 => ms (tzU u k) 1 (10 + 8 * k + 7) 0
def roA (u : Nat → Nat → Int32) (lag n l : Nat) : Nat → Nat → Int32 := tzU (setB (bsU u lag n l n) (bsT u lag n n)) n
def roB (v : Nat → Nat → Int32) (n l : Nat) : Nat → Nat → Int32 := mbU (v 1 (58 + 7 * l + 5)) l v n
def roC (v : Nat → Nat → Int32) (n l : Nat) : Nat → Nat → Int32 := grU (ms (roB v n l) 1 8 (if mbB v n = true then 0 else roB v n l 1 8 + 1)) n
def roD (v : Nat → Nat → Int32) (l : Nat) : Nat → Nat → Int32 := ms v 1 (58 + 7 * l + 4) (v 1 (58 + 7 * l + 4) + 1)
/-- behind the round, ahead of the lot's end -/
def roE (u : Nat → Nat → Int32) (lag n l : Nat) : Nat → Nat → Int32 := roD (roC (roA u lag n l) n l) l
def roI (v : Nat → Nat → Int32) : Bool := decide (v 1 2 + v 1 0 ≤ v 1 8)
def roU (u : Nat → Nat → Int32) (lag n l : Nat) : Nat → Nat → Int32 := if roI (roE u lag n l) = true then enU (roE u lag n l) l n else roE u lag n l
theorem bsU_s (u : Nat → Nat → Int32) (lag n l k : Nat) : ms (bsU u lag n l k) 7 k (bidV (u 1) lag n l k) = bsU u lag n l (k + 1) := by
  funext o j
  unfold ms bsU
  by_cases h1 : o = 7
  · by_cases h2 : j = k
    · subst h1; subst h2
      rw [if_pos ⟨rfl, rfl⟩, if_pos ⟨rfl, by omega⟩]
    · rw [if_neg (fun z => h2 z.2)]
      by_cases h3 : j < k
      · rw [if_pos ⟨h1, h3⟩, if_pos ⟨h1, by omega⟩]
      · rw [if_neg (fun z => h3 z.2), if_neg (by omega)]
  · rw [if_neg (fun z => h1 z.1), if_neg (fun z => h1 z.1), if_neg (fun z => h1 z.1)]
theorem bsU_0 (u : Nat → Nat → Int32) (lag n l : Nat) : bsU u lag n l 0 = u := by
  funext o j
  unfold bsU
  rw [if_neg (by omega)]
theorem bsU_1 (u : Nat → Nat → Int32) (lag n l k : Nat) : bsU u lag n l k 1 = u 1 := by
  funext j
  unfold bsU
  rw [if_neg (by omega)]
theorem setB_s7 (u : Nat → Nat → Int32) (t : evT) (k : Nat) (x : Int32) : ms (setB u t) 7 k x = setB (ms u 7 k x) t := by
  funext o j
  unfold ms setB
  by_cases h1 : o = 0
  · subst h1
    simp
  · by_cases h2 : o = 7 ∧ j = k
    · simp [h1, h2]
    · simp [h1, h2]
theorem tzU_lo (u : Nat → Nat → Int32) (k : Nat) {j : Nat} (hj : j < 17) : tzU u k 1 j = u 1 j := by
  induction k with
  | zero => rfl
  | succ k ih =>
    show ms (tzU u k) 1 (10 + 8 * k + 7) 0 1 j = _
    rw [ms_at, if_neg (by omega), ih]
theorem roA_lo (u : Nat → Nat → Int32) (lag n l : Nat) {j : Nat} (hj : j < 17) : roA u lag n l 1 j = u 1 j := by
  unfold roA
  rw [tzU_lo _ _ hj, setB_1, bsU_1]
theorem roB_lo (v : Nat → Nat → Int32) (n l : Nat) {j : Nat} (hj : j < 9) : roB v n l 1 j = v 1 j := mbU_lo _ _ _ _ hj
theorem grU_lo (u : Nat → Nat → Int32) (n : Nat) {j : Nat} (hj : j < 126) : grU u n 1 j = u 1 j := by
  unfold grU
  rw [grN_lo _ _ _ (by omega), grV_lt _ (by omega), grB_lo _ _ hj]
theorem roC_lo (v : Nat → Nat → Int32) (n l : Nat) {j : Nat} (hj : j < 8) : roC v n l 1 j = v 1 j := by
  unfold roC
  rw [grU_lo _ _ (by omega), ms_at, if_neg (by omega), roB_lo _ _ _ (by omega)]
theorem roE_lo (u : Nat → Nat → Int32) (lag n l : Nat) {j : Nat} (hj : j < 8) : roE u lag n l 1 j = u 1 j := by
  unfold roE roD
  rw [ms_at, if_neg (by omega), roC_lo _ _ _ hj, roA_lo _ _ _ _ (by omega)]
section MO
variable {h : evH} {m : evM} {c : Nat} {u : Nat → Nat → Int32}
set_option maxHeartbeats 1000000 in
theorem c_runsOn (hu : mOK h c) {n lag l : Nat} (hn : n ≤ 6) (hg : lag ≤ 5) (hl : l < 8) (h5 : u 1 5 = nI n) (h0 : u 1 0 = nI lag) (h7 : u 1 7 = nI l) (hw : roE u lag n l 1 (58 + 7 * l + 6) = -6 ∨ ∃ b, b < 6 ∧ roE u lag n l 1 (58 + 7 * l + 6) = nI b) : evX 111 0 [(0, .ref c)] [] h (evGM m c 9 u) = some (some (.int (evBl (roI (roE u lag n l)))), h, evGM m c 9 (roU u lag n l)) := by
  obtain ⟨w0, w1, w2, w3, w4, w5, w6, w7, w8, w9, w10, w11, w12, w13, w14, w15, w16, w17, w18, w19, w20, w21, w22, w23, w24⟩ := id hu
  have l0 : ¬ nI l < 0 := nI_pos (by omega)
  have l1 : (nI l).toNatClampNeg = l := nI_cl l (by omega)
  have LP : ∀ (v : Nat → Nat → Int32) (x : Int32), ¬ x < 0 → x.toNatClampNeg < 7 → evX 95 0 [(0, .ref c), (1, .int (nI l)), (2, .int x)] [] h (evGM m c 9 v) = some (some (.int (v 1 (58 + 7 * l + x.toNatClampNeg))), h, evGM m c 9 v) := fun v x h1 h2 => by
    have := c_lotPart (m := m) (u := v) hu (b := nI l) l0 (by rw [l1]; exact hl) h1 h2
    rwa [l1] at this
  have SL : ∀ (v : Nat → Nat → Int32) (x y : Int32), ¬ x < 0 → x.toNatClampNeg < 7 → evX 96 0 [(0, .ref c), (1, .int (nI l)), (2, .int x), (3, .int y)] [] h (evGM m c 9 v) = some (none, h, evGM m c 9 (ms v 1 (58 + 7 * l + x.toNatClampNeg) y)) := fun v x y h1 h2 => by
    have := c_setLot (m := m) (u := v) hu (b := nI l) (y := y) l0 (by rw [l1]; exact hl) h1 h2
    rwa [l1] at this
  have hge : nI n ≤ nI n := Int32.le_refl _
  have st : evX 111 0 [(0, .ref c)] [] h (evGM m c 9 u) = evX 111 10 [(0, .ref c), (1, .int (nI l)), (2, .int (nI 0))] [] h (evGM m c 9 (setB (bsU u lag n l 0) (bsT u lag n 0))) := by
    rw [bsU_0]
    show _ = evX 111 10 [(0, .ref c), (1, .int (nI l)), (2, .int (nI 0))] [] h (evGM m c 9 (setB u (u 0 8, u 0 9, u 0 10)))
    rw [setB_id]
    simp only [x111_0, x111_1, x111_4, x111_6, x111_7, x111_8, x111_9, evI_i, evJl_i, evJf_i, evJd_i, evA_r, evA_n, evA_q, evLk_c, evS1_d, evS2_d, evFl_n, evFl_c, evGl_n, evGl_c, evIn_n, evIn_c, evCat_i, evCat_l, evCat_f, evCat_d, evCat_r, evCat_z, evCat_q, evBd_some, evTl_s, evTl_n, va_rf_s, va_rf_n, and_true, true_and, and_false, false_and, if_true, if_false, not_true_eq_false, not_false_eq_true, reduceCtorEq, ↓reduceIte, Nat.reduceAdd, Nat.reduceEqDiff, Nat.reduceLT, Nat.reduceLeDiff, Nat.reduceSub, Nat.zero_ne_one, Nat.one_ne_zero, w0, w1, w2, w3, w4, w5, w6, w7, w8, w9, w10, w11, w12, w13, w14, w15, w16, w17, w18, w19, w20, w21, w22, w23, w24, evGM_get, evGM_set, evGM_get0, evGM_set0, lt7, lc7, h7]
    rfl
  have loop1 := loop_up (G := fun k => evX 111 10 [(0, .ref c), (1, .int (nI l)), (2, .int (nI k))] [] h (evGM m c 9 (setB (bsU u lag n l k) (bsT u lag n k)))) (n := n) (fun k hk => by
    have e0 : ¬ nI n ≤ nI k := nlt hk (by omega)
    have hs : nI k + 1 = nI (k + 1) := (nI_succ k).symm
    have b0 : ¬ nI k < 0 := nI_pos (by omega)
    have b1 : (nI k).toNatClampNeg = k := nI_cl k (by omega)
    have hk6 : k < 6 := by omega
    have B := c_bidOf (m := m) (u := bsU u lag n l k) hu hn hk hg hl (by rw [bsU_1]; exact h5) (by rw [bsU_1]; exact h0) (by rw [bsU_1]; exact h7) (bsT u lag n k)
    rw [bsU_1] at B
    have g5 : bsU u lag n l k 1 5 = nI n := by rw [bsU_1]; exact h5
    have gs : ∀ t, ms (setB (bsU u lag n l k) t) 7 k (bidV (u 1) lag n l k) = setB (bsU u lag n l (k + 1)) t := fun t => by rw [setB_s7, bsU_s]
    show _ = evX 111 10 [(0, .ref c), (1, .int (nI l)), (2, .int (nI (k + 1)))] [] h (evGM m c 9 (setB (bsU u lag n l (k + 1)) (bidT (u 1) lag n k (bsT u lag n k))))
    conv => lhs; rw [x111_10]
    simp only [x111_11, x111_12, x111_15, x111_16, x111_17, x111_20, x111_21, x111_24, x111_25, x111_26, x111_27, x111_30, x111_31, x111_34, evI_i, evJl_i, evJf_i, evJd_i, evA_r, evA_n, evA_q, evLk_c, evS1_d, evS2_d, evFl_n, evFl_c, evGl_n, evGl_c, evIn_n, evIn_c, evCat_i, evCat_l, evCat_f, evCat_d, evCat_r, evCat_z, evCat_q, evBd_some, evTl_s, evTl_n, va_rf_s, va_rf_n, and_true, true_and, and_false, false_and, if_true, if_false, not_true_eq_false, not_false_eq_true, reduceCtorEq, ↓reduceIte, Nat.reduceAdd, Nat.reduceEqDiff, Nat.reduceLT, Nat.reduceLeDiff, Nat.reduceSub, Nat.zero_ne_one, Nat.one_ne_zero, w0, w1, w2, w3, w4, w5, w6, w7, w8, w9, w10, w11, w12, w13, w14, w15, w16, w17, w18, w19, w20, w21, w22, w23, w24, evGM_get, evGM_set, evGM_get0, evGM_set0, lt5, lc5, setB_1, g5, e0, hs, b0, b1, hk6, B, gs, Option.toList, List.cons_append, List.nil_append])
  have hv5 : setB (bsU u lag n l n) (bsT u lag n n) 1 5 = nI n := by rw [setB_1, bsU_1]; exact h5
  have hA : roA u lag n l = tzU (setB (bsU u lag n l n) (bsT u lag n n)) n := rfl
  have hA5 : roA u lag n l 1 5 = nI n := by rw [roA_lo _ _ _ _ (by omega), h5]
  generalize setB (bsU u lag n l n) (bsT u lag n n) = v at loop1 hv5 hA
  have mid1 : evX 111 10 [(0, .ref c), (1, .int (nI l)), (2, .int (nI n))] [] h (evGM m c 9 v) = evX 111 39 [(0, .ref c), (1, .int (nI l)), (2, .int (nI 0))] [] h (evGM m c 9 (tzU v 0)) := by
    simp only [x111_10, x111_11, x111_12, x111_15, x111_16, x111_17, x111_37, x111_38, evI_i, evJl_i, evJf_i, evJd_i, evA_r, evA_n, evA_q, evLk_c, evS1_d, evS2_d, evFl_n, evFl_c, evGl_n, evGl_c, evIn_n, evIn_c, evCat_i, evCat_l, evCat_f, evCat_d, evCat_r, evCat_z, evCat_q, evBd_some, evTl_s, evTl_n, va_rf_s, va_rf_n, and_true, true_and, and_false, false_and, if_true, if_false, not_true_eq_false, not_false_eq_true, reduceCtorEq, ↓reduceIte, Nat.reduceAdd, Nat.reduceEqDiff, Nat.reduceLT, Nat.reduceLeDiff, Nat.reduceSub, Nat.zero_ne_one, Nat.one_ne_zero, w0, w1, w2, w3, w4, w5, w6, w7, w8, w9, w10, w11, w12, w13, w14, w15, w16, w17, w18, w19, w20, w21, w22, w23, w24, evGM_get, evGM_set, evGM_get0, evGM_set0, lt5, lc5, hv5, hge]
    rfl
  have loop2 := loop_up (G := fun k => evX 111 39 [(0, .ref c), (1, .int (nI l)), (2, .int (nI k))] [] h (evGM m c 9 (tzU v k))) (n := n) (fun k hk => by
    have e0 : ¬ nI n ≤ nI k := nlt hk (by omega)
    have hs : nI k + 1 = nI (k + 1) := (nI_succ k).symm
    have b0 : ¬ nI k < 0 := nI_pos (by omega)
    have b1 : (nI k).toNatClampNeg = k := nI_cl k (by omega)
    have g5 : tzU v k 1 5 = nI n := by rw [tzU_lo _ _ (by omega)]; exact hv5
    have S7 := c_setBidder (m := m) (u := tzU v k) hu (b := nI k) (x := 7) (y := 0) b0 (by rw [b1]; omega) lt7 (by decide)
    rw [b1, lc7] at S7
    show _ = evX 111 39 [(0, .ref c), (1, .int (nI l)), (2, .int (nI (k + 1)))] [] h (evGM m c 9 (ms (tzU v k) 1 (10 + 8 * k + 7) 0))
    conv => lhs; rw [x111_39]
    simp only [x111_40, x111_41, x111_44, x111_45, x111_46, x111_49, x111_50, x111_51, x111_53, x111_54, x111_57, x111_60, evI_i, evJl_i, evJf_i, evJd_i, evA_r, evA_n, evA_q, evLk_c, evS1_d, evS2_d, evFl_n, evFl_c, evGl_n, evGl_c, evIn_n, evIn_c, evCat_i, evCat_l, evCat_f, evCat_d, evCat_r, evCat_z, evCat_q, evBd_some, evTl_s, evTl_n, va_rf_s, va_rf_n, and_true, true_and, and_false, false_and, if_true, if_false, not_true_eq_false, not_false_eq_true, reduceCtorEq, ↓reduceIte, Nat.reduceAdd, Nat.reduceEqDiff, Nat.reduceLT, Nat.reduceLeDiff, Nat.reduceSub, Nat.zero_ne_one, Nat.one_ne_zero, w0, w1, w2, w3, w4, w5, w6, w7, w8, w9, w10, w11, w12, w13, w14, w15, w16, w17, w18, w19, w20, w21, w22, w23, w24, evGM_get, evGM_set, evGM_get0, evGM_set0, lt5, lc5, g5, e0, hs, S7, Option.toList, List.cons_append, List.nil_append])
  rw [← hA] at loop2
  refine st.trans (loop1.trans (mid1.trans (loop2.trans ?_)))
  have hE7 : ∀ j, j < 8 → roE u lag n l 1 j = u 1 j := fun j hj => roE_lo _ _ _ _ hj
  have hEd : roE u lag n l = roD (roC (roA u lag n l) n l) l := rfl
  unfold roU
  generalize roA u lag n l = a at hA5 hEd
  have MB := c_makesBids (m := m) (u := a) hu hn hl hA5
  have hB5 : roB a n l 1 5 = nI n := by rw [roB_lo _ _ _ (by omega), hA5]
  have MB' : evX 107 0 [(0, .ref c), (1, .int (nI l))] [] h (evGM m c 9 a) = some (some (.int (evBl (mbB a n))), h, evGM m c 9 (roB a n l)) := MB
  have GR := c_grows (m := m) (u := ms (roB a n l) 1 8 (if mbB a n = true then 0 else roB a n l 1 8 + 1)) hu hn (by rw [ms_at, if_neg (by omega), hB5])
  have hCd : roC a n l = grU (ms (roB a n l) 1 8 (if mbB a n = true then 0 else roB a n l 1 8 + 1)) n := rfl
  rw [← hCd] at GR
  have h1 : evX 111 39 [(0, .ref c), (1, .int (nI l)), (2, .int (nI n))] [] h (evGM m c 9 a) = evX 111 109 [(0, .ref c), (1, .int (nI l)), (2, .int (nI n))] [] h (evGM m c 9 (roD (roC a n l) l)) := by
    by_cases hb : mbB a n = true
    · rw [if_pos hb] at GR
      have e1 : ¬ evBl (mbB a n) = 0 := by rw [hb]; decide
      simp only [x111_39, x111_40, x111_41, x111_44, x111_45, x111_46, x111_63, x111_64, x111_67, x111_69, x111_70, x111_71, x111_74, x111_77, x111_78, x111_81, x111_82, x111_85, x111_87, x111_88, x111_89, x111_90, x111_91, x111_92, x111_95, x111_96, x111_97, x111_98, x111_99, x111_100, x111_101, x111_104, x111_105, x111_106, evI_i, evJl_i, evJf_i, evJd_i, evA_r, evA_n, evA_q, evLk_c, evS1_d, evS2_d, evFl_n, evFl_c, evGl_n, evGl_c, evIn_n, evIn_c, evCat_i, evCat_l, evCat_f, evCat_d, evCat_r, evCat_z, evCat_q, evBd_some, evTl_s, evTl_n, va_rf_s, va_rf_n, and_true, true_and, and_false, false_and, if_true, if_false, not_true_eq_false, not_false_eq_true, reduceCtorEq, ↓reduceIte, Nat.reduceAdd, Nat.reduceEqDiff, Nat.reduceLT, Nat.reduceLeDiff, Nat.reduceSub, Nat.zero_ne_one, Nat.one_ne_zero, w0, w1, w2, w3, w4, w5, w6, w7, w8, w9, w10, w11, w12, w13, w14, w15, w16, w17, w18, w19, w20, w21, w22, w23, w24, evGM_get, evGM_set, evGM_get0, evGM_set0, lt5, lc5, lt8, lc8, lt4, lc4, hA5, hge, MB', GR, e1, LP, SL, Option.toList, List.cons_append, List.nil_append]
      rfl
    · rw [if_neg hb] at GR
      have e1 : evBl (mbB a n) = 0 := by rw [Bool.not_eq_true] at hb; rw [hb]; rfl
      simp only [x111_39, x111_40, x111_41, x111_44, x111_45, x111_46, x111_63, x111_64, x111_67, x111_69, x111_70, x111_71, x111_74, x111_77, x111_78, x111_81, x111_82, x111_85, x111_87, x111_88, x111_89, x111_90, x111_91, x111_92, x111_95, x111_96, x111_97, x111_98, x111_99, x111_100, x111_101, x111_104, x111_105, x111_106, evI_i, evJl_i, evJf_i, evJd_i, evA_r, evA_n, evA_q, evLk_c, evS1_d, evS2_d, evFl_n, evFl_c, evGl_n, evGl_c, evIn_n, evIn_c, evCat_i, evCat_l, evCat_f, evCat_d, evCat_r, evCat_z, evCat_q, evBd_some, evTl_s, evTl_n, va_rf_s, va_rf_n, and_true, true_and, and_false, false_and, if_true, if_false, not_true_eq_false, not_false_eq_true, reduceCtorEq, ↓reduceIte, Nat.reduceAdd, Nat.reduceEqDiff, Nat.reduceLT, Nat.reduceLeDiff, Nat.reduceSub, Nat.zero_ne_one, Nat.one_ne_zero, w0, w1, w2, w3, w4, w5, w6, w7, w8, w9, w10, w11, w12, w13, w14, w15, w16, w17, w18, w19, w20, w21, w22, w23, w24, evGM_get, evGM_set, evGM_get0, evGM_set0, lt5, lc5, lt8, lc8, lt4, lc4, hA5, hge, MB', GR, e1, LP, SL, Option.toList, List.cons_append, List.nil_append]
      rfl
  rw [h1, ← hEd]
  have hE5 : roE u lag n l 1 5 = nI n := by rw [hE7 5 (by omega), h5]
  have EN := c_ends (m := m) (u := roE u lag n l) hu hn hl hE5 hw
  generalize roE u lag n l = z at EN
  unfold roI
  have n10 : ¬ (1 : Int32) = 0 := by decide
  by_cases hi : z 1 2 + z 1 0 ≤ z 1 8
  · have hi' : ¬ z 1 8 < z 1 2 + z 1 0 := fun q => i32_ff hi q
    simp only [x111_109, x111_110, x111_113, x111_115, x111_116, x111_117, x111_120, x111_121, x111_122, x111_123, x111_126, x111_127, x111_128, x111_129, x111_132, x111_133, x111_136, x111_137, x111_138, x111_139, x111_142, x111_143, x111_144, x111_147, x111_148_0, x111_148_1, x111_148b, evI_i, evJl_i, evJf_i, evJd_i, evA_r, evA_n, evA_q, evLk_c, evS1_d, evS2_d, evFl_n, evFl_c, evGl_n, evGl_c, evIn_n, evIn_c, evCat_i, evCat_l, evCat_f, evCat_d, evCat_r, evCat_z, evCat_q, evBd_some, evTl_s, evTl_n, va_rf_s, va_rf_n, and_true, true_and, and_false, false_and, if_true, if_false, not_true_eq_false, not_false_eq_true, reduceCtorEq, ↓reduceIte, Nat.reduceAdd, Nat.reduceEqDiff, Nat.reduceLT, Nat.reduceLeDiff, Nat.reduceSub, Nat.zero_ne_one, Nat.one_ne_zero, w0, w1, w2, w3, w4, w5, w6, w7, w8, w9, w10, w11, w12, w13, w14, w15, w16, w17, w18, w19, w20, w21, w22, w23, w24, evGM_get, evGM_set, evGM_get0, evGM_set0, lt8, lc8, lt2, lc2, lt0, lc0, hi, hi', n10, EN, decide_true, evBl_t, Option.toList, List.cons_append, List.nil_append]
  · have hi' : z 1 8 < z 1 2 + z 1 0 := Int32.not_le.mp hi
    simp only [x111_109, x111_110, x111_113, x111_115, x111_116, x111_117, x111_120, x111_121, x111_122, x111_123, x111_126, x111_127, x111_128, x111_129, x111_132, x111_133, x111_136, x111_137, x111_138, x111_139, x111_142, x111_143, x111_144, x111_147, x111_148_0, x111_148_1, x111_148b, evI_i, evJl_i, evJf_i, evJd_i, evA_r, evA_n, evA_q, evLk_c, evS1_d, evS2_d, evFl_n, evFl_c, evGl_n, evGl_c, evIn_n, evIn_c, evCat_i, evCat_l, evCat_f, evCat_d, evCat_r, evCat_z, evCat_q, evBd_some, evTl_s, evTl_n, va_rf_s, va_rf_n, and_true, true_and, and_false, false_and, if_true, if_false, not_true_eq_false, not_false_eq_true, reduceCtorEq, ↓reduceIte, Nat.reduceAdd, Nat.reduceEqDiff, Nat.reduceLT, Nat.reduceLeDiff, Nat.reduceSub, Nat.zero_ne_one, Nat.one_ne_zero, w0, w1, w2, w3, w4, w5, w6, w7, w8, w9, w10, w11, w12, w13, w14, w15, w16, w17, w18, w19, w20, w21, w22, w23, w24, evGM_get, evGM_set, evGM_get0, evGM_set0, lt8, lc8, lt2, lc2, lt0, lc0, hi, hi', n10, EN, decide_false, evBl_f, Bool.false_eq_true, Option.toList, List.cons_append, List.nil_append]
end MO
