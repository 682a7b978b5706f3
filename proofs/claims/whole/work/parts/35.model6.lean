/-! the model: the bids of a round -/
def a1U (u : Nat → Nat → Int32) (k : Nat) : Nat → Nat → Int32 := ms u 1 (10 + 8 * k + 5) (u 1 (10 + 8 * k + 5) + 1)
def a2U (u : Nat → Nat → Int32) (k : Nat) (s : Int32) : Nat → Nat → Int32 := ms u 1 (10 + 8 * k + 6) (u 1 (10 + 8 * k + 6) + s)
def hiU (u : Nat → Nat → Int32) (l k : Nat) (x : Int32) : Nat → Nat → Int32 := if u 1 (58 + 7 * l + 5) < x then ms (ms u 1 (58 + 7 * l + 5) x) 1 (58 + 7 * l + 6) (nI k) else u
def shB (x H : Int32) : Int32 := if x ≤ H then 1 else 0
def nbU (u : Nat → Nat → Int32) (l k : Nat) (x s : Int32) : Nat → Nat → Int32 := hiU (kmU (kbU (a2U (a1U u k) k s) 114 k x (a2U (a1U u k) k s 1 4)) (nI k) x s) l k x
def mbS (H : Int32) (l k : Nat) (u : Nat → Nat → Int32) : Nat → Nat → Int32 := if 0 < u 7 k then nbU u l k (u 7 k) (shB (u 7 k) H) else u
def mbU (H : Int32) (l : Nat) (u : Nat → Nat → Int32) : Nat → Nat → Nat → Int32
  | 0 => u
  | k + 1 => mbS H l k (mbU H l u k)
def mbI (u : Nat → Nat → Int32) : Nat → Int32
  | 0 => 0
  | k + 1 => if 0 < u 7 k then 1 else mbI u k
theorem kbU_o (u : Nat → Nat → Int32) (w k : Nat) (x z : Int32) {o : Nat} (j : Nat) (ho : o ≠ 1) : kbU u w k x z o j = u o j := by
  unfold kbU
  split
  · rw [ms_at, if_neg (fun q => ho q.1), ms_at, if_neg (fun q => ho q.1)]
  · rfl
theorem kmU_o (u : Nat → Nat → Int32) (b x s : Int32) {o : Nat} (j : Nat) (ho : o ≠ 1) : kmU u b x s o j = u o j := by
  unfold kmU kmV
  rw [ms_at, if_neg (fun q => ho q.1), ms_at, if_neg (fun q => ho q.1), ms_at, if_neg (fun q => ho q.1), ms_at, if_neg (fun q => ho q.1), ms_at, if_neg (fun q => ho q.1), if_neg (fun q => ho q.1)]
theorem hiU_o (u : Nat → Nat → Int32) (l k : Nat) (x : Int32) {o : Nat} (j : Nat) (ho : o ≠ 1) : hiU u l k x o j = u o j := by
  unfold hiU
  split
  · rw [ms_at, if_neg (fun q => ho q.1), ms_at, if_neg (fun q => ho q.1)]
  · rfl
theorem nbU_o (u : Nat → Nat → Int32) (l k : Nat) (x s : Int32) {o : Nat} (j : Nat) (ho : o ≠ 1) : nbU u l k x s o j = u o j := by
  unfold nbU
  rw [hiU_o _ _ _ _ _ ho, kmU_o _ _ _ _ _ ho, kbU_o _ _ _ _ _ _ ho]
  unfold a2U a1U
  rw [ms_at, if_neg (fun q => ho q.1), ms_at, if_neg (fun q => ho q.1)]
theorem mbS_o (H : Int32) (l k : Nat) (u : Nat → Nat → Int32) {o : Nat} (j : Nat) (ho : o ≠ 1) : mbS H l k u o j = u o j := by
  unfold mbS
  split
  · exact nbU_o _ _ _ _ _ _ ho
  · rfl
theorem mbU_o (H : Int32) (l : Nat) (u : Nat → Nat → Int32) (n : Nat) {o : Nat} (j : Nat) (ho : o ≠ 1) : mbU H l u n o j = u o j := by
  induction n with
  | zero => rfl
  | succ n ih => exact (mbS_o _ _ _ _ _ ho).trans ih
theorem kbU_lo (u : Nat → Nat → Int32) {w : Nat} (k : Nat) (x z : Int32) {j : Nat} (hj : j < w) : kbU u w k x z 1 j = u 1 j := by
  unfold kbU
  split
  · rw [ms_at, if_neg (by omega), ms_at, if_neg (by omega)]
  · rfl
theorem kmU_lo (u : Nat → Nat → Int32) (b x s : Int32) {j : Nat} (hj : j < 168) (h9 : j ≠ 9) : kmU u b x s 1 j = u 1 j := by
  unfold kmU
  rw [ms_at, if_neg (by omega), ms_at, if_neg (by omega), ms_at, if_neg (by omega), ms_at, if_neg (by omega), ms_at, if_neg (by omega), kmV_lt _ (by omega)]
theorem nbU_lo (u : Nat → Nat → Int32) (l k : Nat) (x s : Int32) {j : Nat} (hj : j < 9) : nbU u l k x s 1 j = u 1 j := by
  unfold nbU hiU
  split
  · rw [ms_at, if_neg (by omega), ms_at, if_neg (by omega), kmU_lo _ _ _ _ (by omega) (by omega), kbU_lo _ _ _ _ (by omega)]
    unfold a2U a1U
    rw [ms_at, if_neg (by omega), ms_at, if_neg (by omega)]
  · rw [kmU_lo _ _ _ _ (by omega) (by omega), kbU_lo _ _ _ _ (by omega)]
    unfold a2U a1U
    rw [ms_at, if_neg (by omega), ms_at, if_neg (by omega)]
theorem mbU_lo (H : Int32) (l : Nat) (u : Nat → Nat → Int32) (n : Nat) {j : Nat} (hj : j < 9) : mbU H l u n 1 j = u 1 j := by
  induction n with
  | zero => rfl
  | succ n ih =>
    refine Eq.trans ?_ ih
    show mbS H l n (mbU H l u n) 1 j = _
    unfold mbS
    split
    · exact nbU_lo _ _ _ _ _ hj
    · rfl
section MO
variable {h : evH} {m : evM} {c : Nat} {u : Nat → Nat → Int32}
set_option maxHeartbeats 2000000 in
theorem c_bidStep (hu : mOK h c) {n l k : Nat} (hn : n ≤ 6) (hk : k < n) (hl : l < 8) (h5 : u 1 5 = nI n) (H is : Int32) (e : evL) (he : e = [] ∨ ∃ s, e = [(5, .int s)]) : ∃ e', (e' = [] ∨ ∃ s, e' = [(5, .int s)]) ∧ evX 107 12 ([(0, .ref c), (1, .int (nI l)), (2, .int H), (3, .int is), (4, .int (nI k))] ++ e) [] h (evGM m c 9 u) = evX 107 12 ([(0, .ref c), (1, .int (nI l)), (2, .int H), (3, .int (if 0 < u 7 k then 1 else is)), (4, .int (nI (k + 1)))] ++ e') [] h (evGM m c 9 (mbS H l k u)) := by
  obtain ⟨w0, w1, w2, w3, w4, w5, w6, w7, w8, w9, w10, w11, w12, w13, w14, w15, w16, w17, w18, w19, w20, w21, w22, w23, w24⟩ := id hu
  have hk6 : k < 6 := by omega
  have b0 : ¬ nI k < 0 := nI_pos (by omega)
  have b1 : (nI k).toNatClampNeg = k := nI_cl k (by omega)
  have l0 : ¬ nI l < 0 := nI_pos (by omega)
  have l1 : (nI l).toNatClampNeg = l := nI_cl l (by omega)
  have e0 : ¬ nI n ≤ nI k := nlt hk (by omega)
  have hs : nI k + 1 = nI (k + 1) := (nI_succ k).symm
  have n10 : ¬ (1 : Int32) = 0 := by decide
  have n114 : (126 : Nat) ≥ 114 := by decide
  unfold mbS
  by_cases hx : 0 < u 7 k
  · have hx' : ¬ u 7 k ≤ 0 := fun q => i32_ff q hx
    rw [if_pos hx, if_pos hx]
    refine ⟨[(5, .int (shB (u 7 k) H))], Or.inr ⟨_, rfl⟩, ?_⟩
    -- up to the notes
    have A1 := fun (v : Nat → Nat → Int32) => c_adds (m := m) (u := v) hu (b := nI k) (x := 5) (y := 1) b0 (by rw [b1]; exact hk6) lt5 (by decide)
    have A2 := fun (v : Nat → Nat → Int32) (s : Int32) => c_adds (m := m) (u := v) hu (b := nI k) (x := 6) (y := s) b0 (by rw [b1]; exact hk6) lt6 (by decide)
    rw [b1] at A1
    have A1' : ∀ v, evX 94 0 [(0, .ref c), (1, .int (nI k)), (2, .int 5), (3, .int 1)] [] h (evGM m c 9 v) = some (none, h, evGM m c 9 (a1U v k)) := A1
    have A2' : ∀ v s, evX 94 0 [(0, .ref c), (1, .int (nI k)), (2, .int 6), (3, .int s)] [] h (evGM m c 9 v) = some (none, h, evGM m c 9 (a2U v k s)) := fun v s => by
      have := A2 v s
      rw [b1] at this
      exact this
    have KB : ∀ v x z, evX 105 0 [(0, .ref c), (1, .int 114), (2, .int (nI k)), (3, .int x), (4, .int z)] [] h (evGM m c 9 v) = some (none, h, evGM m c 9 (kbU v 114 k x z)) := fun v x z => c_keepsBest (u := v) hu hk6 lt114 (by decide)
    have KM : ∀ v x s, evX 106 0 [(0, .ref c), (1, .int (nI k)), (2, .int x), (3, .int s)] [] h (evGM m c 9 v) = some (none, h, evGM m c 9 (kmU v (nI k) x s)) := fun v x s => c_keepsMade (u := v) hu _ _ _
    have L5 : ∀ v : Nat → Nat → Int32, evX 95 0 [(0, .ref c), (1, .int (nI l)), (2, .int 5)] [] h (evGM m c 9 v) = some (some (.int (v 1 (58 + 7 * l + 5))), h, evGM m c 9 v) := fun v => by
      have := c_lotPart (m := m) (u := v) hu (b := nI l) (x := 5) l0 (by rw [l1]; exact hl) lt5 (by decide)
      rwa [l1] at this
    have S5 : ∀ (v : Nat → Nat → Int32) x, evX 96 0 [(0, .ref c), (1, .int (nI l)), (2, .int 5), (3, .int x)] [] h (evGM m c 9 v) = some (none, h, evGM m c 9 (ms v 1 (58 + 7 * l + 5) x)) := fun v x => by
      have := c_setLot (m := m) (u := v) hu (b := nI l) (x := 5) (y := x) l0 (by rw [l1]; exact hl) lt5 (by decide)
      rwa [l1] at this
    have S6 : ∀ (v : Nat → Nat → Int32) x, evX 96 0 [(0, .ref c), (1, .int (nI l)), (2, .int 6), (3, .int x)] [] h (evGM m c 9 v) = some (none, h, evGM m c 9 (ms v 1 (58 + 7 * l + 6) x)) := fun v x => by
      have := c_setLot (m := m) (u := v) hu (b := nI l) (x := 6) (y := x) l0 (by rw [l1]; exact hl) lt6 (by decide)
      rwa [l1] at this
    have r7 : ∀ x s j, kmU (kbU (a2U (a1U u k) k s) 114 k x (a2U (a1U u k) k s 1 4)) (nI k) x s 7 j = u 7 j := fun x s j => by
      rw [kmU_o _ _ _ _ _ (by decide), kbU_o _ _ _ _ _ _ (by decide)]
      rfl
    have r72 : ∀ x s y j, ms (kmU (kbU (a2U (a1U u k) k s) 114 k x (a2U (a1U u k) k s 1 4)) (nI k) x s) 1 (58 + 7 * l + 5) y 7 j = u 7 j := fun x s y j => by
      rw [ms_at, if_neg (by omega), r7]
    have r7a : ∀ s j, a2U (a1U u k) k s 7 j = u 7 j := fun s j => rfl
    have r7b : ∀ s x z j, kbU (a2U (a1U u k) k s) 114 k x z 7 j = u 7 j := fun s x z j => kbU_o _ _ _ _ _ _ (by decide)
    have hA : evX 107 12 ([(0, .ref c), (1, .int (nI l)), (2, .int H), (3, .int is), (4, .int (nI k))] ++ e) [] h (evGM m c 9 u) = evX 107 115 [(0, .ref c), (1, .int (nI l)), (2, .int H), (3, .int 1), (4, .int (nI k)), (5, .int (shB (u 7 k) H))] [] h (evGM m c 9 (kmU (kbU (a2U (a1U u k) k (shB (u 7 k) H)) 114 k (u 7 k) (a2U (a1U u k) k (shB (u 7 k) H) 1 4)) (nI k) (u 7 k) (shB (u 7 k) H))) := by
      conv => lhs; rw [x107_12]
      by_cases hH : H < u 7 k
      · have hH' : ¬ u 7 k ≤ H := fun q => i32_ff q hH
        have es : shB (u 7 k) H = 0 := if_neg hH'
        rw [es]
        rcases he with rfl | ⟨s0, rfl⟩
        · simp only [x107_14, x107_15, x107_18, x107_19, x107_20, x107_23, x107_24, x107_27, x107_29, x107_30, x107_33, x107_34, x107_37, x107_39, x107_40, x107_41, x107_44, x107_45, x107_48, x107_49, x107_51, x107_52, x107_53, x107_54, x107_56, x107_57, x107_58, x107_61, x107_62, x107_64, x107_66, x107_68, x107_71, x107_72, x107_75, x107_76, x107_79, x107_80, x107_82, x107_84, x107_85, x107_88, x107_90, x107_91, x107_92, x107_95, x107_96, x107_97, x107_100, x107_101, x107_103, x107_104, x107_107, x107_109, x107_110, x107_112, evI_i, evJl_i, evJf_i, evJd_i, evA_r, evA_n, evA_q, evLk_c, evS1_d, evS2_d, evFl_n, evFl_c, evGl_n, evGl_c, evIn_n, evIn_c, evCat_i, evCat_l, evCat_f, evCat_d, evCat_r, evCat_z, evCat_q, evBd_some, evTl_s, evTl_n, va_rf_s, va_rf_n, and_true, true_and, and_false, false_and, if_true, if_false, not_true_eq_false, not_false_eq_true, reduceCtorEq, ↓reduceIte, Nat.reduceAdd, Nat.reduceEqDiff, Nat.reduceLT, Nat.reduceLeDiff, Nat.reduceSub, Nat.zero_ne_one, Nat.one_ne_zero, w0, w1, w2, w3, w4, w5, w6, w7, w8, w9, w10, w11, w12, w13, w14, w15, w16, w17, w18, w19, w20, w21, w22, w23, w24, evGM_get, evGM_set, evGM_get0, evGM_set0, lt5, lc5, lt4, lc4, h5, e0, b0, b1, hk6, hx', hH, A1', A2', KB, KM, r7a, r7b, n10, Option.toList, List.cons_append, List.nil_append, List.append_nil]
        · simp only [x107_14, x107_15, x107_18, x107_19, x107_20, x107_23, x107_24, x107_27, x107_29, x107_30, x107_33, x107_34, x107_37, x107_39, x107_40, x107_41, x107_44, x107_45, x107_48, x107_49, x107_51, x107_52, x107_53, x107_54, x107_56, x107_57, x107_58, x107_61, x107_62, x107_64, x107_66, x107_68, x107_71, x107_72, x107_75, x107_76, x107_79, x107_80, x107_82, x107_84, x107_85, x107_88, x107_90, x107_91, x107_92, x107_95, x107_96, x107_97, x107_100, x107_101, x107_103, x107_104, x107_107, x107_109, x107_110, x107_112, evI_i, evJl_i, evJf_i, evJd_i, evA_r, evA_n, evA_q, evLk_c, evS1_d, evS2_d, evFl_n, evFl_c, evGl_n, evGl_c, evIn_n, evIn_c, evCat_i, evCat_l, evCat_f, evCat_d, evCat_r, evCat_z, evCat_q, evBd_some, evTl_s, evTl_n, va_rf_s, va_rf_n, and_true, true_and, and_false, false_and, if_true, if_false, not_true_eq_false, not_false_eq_true, reduceCtorEq, ↓reduceIte, Nat.reduceAdd, Nat.reduceEqDiff, Nat.reduceLT, Nat.reduceLeDiff, Nat.reduceSub, Nat.zero_ne_one, Nat.one_ne_zero, w0, w1, w2, w3, w4, w5, w6, w7, w8, w9, w10, w11, w12, w13, w14, w15, w16, w17, w18, w19, w20, w21, w22, w23, w24, evGM_get, evGM_set, evGM_get0, evGM_set0, lt5, lc5, lt4, lc4, h5, e0, b0, b1, hk6, hx', hH, A1', A2', KB, KM, r7a, r7b, n10, Option.toList, List.cons_append, List.nil_append, List.append_nil]
      · have hH' : u 7 k ≤ H := Int32.not_lt.mp hH
        have es : shB (u 7 k) H = 1 := if_pos hH'
        rw [es]
        rcases he with rfl | ⟨s0, rfl⟩
        · simp only [x107_14, x107_15, x107_18, x107_19, x107_20, x107_23, x107_24, x107_27, x107_29, x107_30, x107_33, x107_34, x107_37, x107_39, x107_40, x107_41, x107_44, x107_45, x107_48, x107_49, x107_51, x107_52, x107_53, x107_54, x107_56, x107_57, x107_58, x107_61, x107_62, x107_64, x107_66, x107_68, x107_71, x107_72, x107_75, x107_76, x107_79, x107_80, x107_82, x107_84, x107_85, x107_88, x107_90, x107_91, x107_92, x107_95, x107_96, x107_97, x107_100, x107_101, x107_103, x107_104, x107_107, x107_109, x107_110, x107_112, evI_i, evJl_i, evJf_i, evJd_i, evA_r, evA_n, evA_q, evLk_c, evS1_d, evS2_d, evFl_n, evFl_c, evGl_n, evGl_c, evIn_n, evIn_c, evCat_i, evCat_l, evCat_f, evCat_d, evCat_r, evCat_z, evCat_q, evBd_some, evTl_s, evTl_n, va_rf_s, va_rf_n, and_true, true_and, and_false, false_and, if_true, if_false, not_true_eq_false, not_false_eq_true, reduceCtorEq, ↓reduceIte, Nat.reduceAdd, Nat.reduceEqDiff, Nat.reduceLT, Nat.reduceLeDiff, Nat.reduceSub, Nat.zero_ne_one, Nat.one_ne_zero, w0, w1, w2, w3, w4, w5, w6, w7, w8, w9, w10, w11, w12, w13, w14, w15, w16, w17, w18, w19, w20, w21, w22, w23, w24, evGM_get, evGM_set, evGM_get0, evGM_set0, lt5, lc5, lt4, lc4, h5, e0, b0, b1, hk6, hx', hH, A1', A2', KB, KM, r7a, r7b, n10, Option.toList, List.cons_append, List.nil_append, List.append_nil]
        · simp only [x107_14, x107_15, x107_18, x107_19, x107_20, x107_23, x107_24, x107_27, x107_29, x107_30, x107_33, x107_34, x107_37, x107_39, x107_40, x107_41, x107_44, x107_45, x107_48, x107_49, x107_51, x107_52, x107_53, x107_54, x107_56, x107_57, x107_58, x107_61, x107_62, x107_64, x107_66, x107_68, x107_71, x107_72, x107_75, x107_76, x107_79, x107_80, x107_82, x107_84, x107_85, x107_88, x107_90, x107_91, x107_92, x107_95, x107_96, x107_97, x107_100, x107_101, x107_103, x107_104, x107_107, x107_109, x107_110, x107_112, evI_i, evJl_i, evJf_i, evJd_i, evA_r, evA_n, evA_q, evLk_c, evS1_d, evS2_d, evFl_n, evFl_c, evGl_n, evGl_c, evIn_n, evIn_c, evCat_i, evCat_l, evCat_f, evCat_d, evCat_r, evCat_z, evCat_q, evBd_some, evTl_s, evTl_n, va_rf_s, va_rf_n, and_true, true_and, and_false, false_and, if_true, if_false, not_true_eq_false, not_false_eq_true, reduceCtorEq, ↓reduceIte, Nat.reduceAdd, Nat.reduceEqDiff, Nat.reduceLT, Nat.reduceLeDiff, Nat.reduceSub, Nat.zero_ne_one, Nat.one_ne_zero, w0, w1, w2, w3, w4, w5, w6, w7, w8, w9, w10, w11, w12, w13, w14, w15, w16, w17, w18, w19, w20, w21, w22, w23, w24, evGM_get, evGM_set, evGM_get0, evGM_set0, lt5, lc5, lt4, lc4, h5, e0, b0, b1, hk6, hx', hH, A1', A2', KB, KM, r7a, r7b, n10, Option.toList, List.cons_append, List.nil_append, List.append_nil]
    rw [hA]
    unfold nbU
    generalize hv : kmU (kbU (a2U (a1U u k) k (shB (u 7 k) H)) 114 k (u 7 k) (a2U (a1U u k) k (shB (u 7 k) H) 1 4)) (nI k) (u 7 k) (shB (u 7 k) H) = v
    have v7 : ∀ j, v 7 j = u 7 j := fun j => by rw [← hv]; exact r7 _ _ j
    have v7' : ∀ y j, ms v 1 (58 + 7 * l + 5) y 7 j = u 7 j := fun y j => by rw [ms_at, if_neg (by omega), v7]
    unfold hiU
    by_cases hi : v 1 (58 + 7 * l + 5) < u 7 k
    · have hi' : ¬ u 7 k ≤ v 1 (58 + 7 * l + 5) := fun q => i32_ff q hi
      simp only [x107_115, x107_116, x107_119, x107_121, x107_122, x107_123, x107_124, x107_125, x107_128, x107_131, x107_132, x107_133, x107_134, x107_135, x107_138, x107_140, x107_141, x107_144, x107_145, x107_146, x107_148, x107_150, x107_153, x107_156, evI_i, evJl_i, evJf_i, evJd_i, evA_r, evA_n, evA_q, evLk_c, evS1_d, evS2_d, evFl_n, evFl_c, evGl_n, evGl_c, evIn_n, evIn_c, evCat_i, evCat_l, evCat_f, evCat_d, evCat_r, evCat_z, evCat_q, evBd_some, evTl_s, evTl_n, va_rf_s, va_rf_n, and_true, true_and, and_false, false_and, if_true, if_false, not_true_eq_false, not_false_eq_true, reduceCtorEq, ↓reduceIte, Nat.reduceAdd, Nat.reduceEqDiff, Nat.reduceLT, Nat.reduceLeDiff, Nat.reduceSub, Nat.zero_ne_one, Nat.one_ne_zero, w0, w1, w2, w3, w4, w5, w6, w7, w8, w9, w10, w11, w12, w13, w14, w15, w16, w17, w18, w19, w20, w21, w22, w23, w24, evGM_get, evGM_set, evGM_get0, evGM_set0, b0, b1, hk6, L5, S5, S6, v7, v7', hi, hi', hs, Option.toList, List.cons_append, List.nil_append, List.append_nil]
    · have hi' : u 7 k ≤ v 1 (58 + 7 * l + 5) := Int32.not_lt.mp hi
      simp only [x107_115, x107_116, x107_119, x107_121, x107_122, x107_123, x107_124, x107_125, x107_128, x107_131, x107_132, x107_133, x107_134, x107_135, x107_138, x107_140, x107_141, x107_144, x107_145, x107_146, x107_148, x107_150, x107_153, x107_156, evI_i, evJl_i, evJf_i, evJd_i, evA_r, evA_n, evA_q, evLk_c, evS1_d, evS2_d, evFl_n, evFl_c, evGl_n, evGl_c, evIn_n, evIn_c, evCat_i, evCat_l, evCat_f, evCat_d, evCat_r, evCat_z, evCat_q, evBd_some, evTl_s, evTl_n, va_rf_s, va_rf_n, and_true, true_and, and_false, false_and, if_true, if_false, not_true_eq_false, not_false_eq_true, reduceCtorEq, ↓reduceIte, Nat.reduceAdd, Nat.reduceEqDiff, Nat.reduceLT, Nat.reduceLeDiff, Nat.reduceSub, Nat.zero_ne_one, Nat.one_ne_zero, w0, w1, w2, w3, w4, w5, w6, w7, w8, w9, w10, w11, w12, w13, w14, w15, w16, w17, w18, w19, w20, w21, w22, w23, w24, evGM_get, evGM_set, evGM_get0, evGM_set0, b0, b1, hk6, L5, S5, S6, v7, v7', hi, hi', hs, Option.toList, List.cons_append, List.nil_append, List.append_nil]
  · have hx' : u 7 k ≤ 0 := Int32.not_lt.mp hx
    rw [if_neg hx, if_neg hx]
    refine ⟨e, he, ?_⟩
    conv => lhs; rw [x107_12]
    rcases he with rfl | ⟨s0, rfl⟩
    · simp only [x107_14, x107_15, x107_18, x107_19, x107_20, x107_23, x107_24, x107_27, x107_29, x107_30, x107_153, x107_156, evI_i, evJl_i, evJf_i, evJd_i, evA_r, evA_n, evA_q, evLk_c, evS1_d, evS2_d, evFl_n, evFl_c, evGl_n, evGl_c, evIn_n, evIn_c, evCat_i, evCat_l, evCat_f, evCat_d, evCat_r, evCat_z, evCat_q, evBd_some, evTl_s, evTl_n, va_rf_s, va_rf_n, and_true, true_and, and_false, false_and, if_true, if_false, not_true_eq_false, not_false_eq_true, reduceCtorEq, ↓reduceIte, Nat.reduceAdd, Nat.reduceEqDiff, Nat.reduceLT, Nat.reduceLeDiff, Nat.reduceSub, Nat.zero_ne_one, Nat.one_ne_zero, w0, w1, w2, w3, w4, w5, w6, w7, w8, w9, w10, w11, w12, w13, w14, w15, w16, w17, w18, w19, w20, w21, w22, w23, w24, evGM_get, evGM_set, evGM_get0, evGM_set0, lt5, lc5, h5, e0, b0, b1, hk6, hx', hs, List.cons_append, List.nil_append, List.append_nil]
    · simp only [x107_14, x107_15, x107_18, x107_19, x107_20, x107_23, x107_24, x107_27, x107_29, x107_30, x107_153, x107_156, evI_i, evJl_i, evJf_i, evJd_i, evA_r, evA_n, evA_q, evLk_c, evS1_d, evS2_d, evFl_n, evFl_c, evGl_n, evGl_c, evIn_n, evIn_c, evCat_i, evCat_l, evCat_f, evCat_d, evCat_r, evCat_z, evCat_q, evBd_some, evTl_s, evTl_n, va_rf_s, va_rf_n, and_true, true_and, and_false, false_and, if_true, if_false, not_true_eq_false, not_false_eq_true, reduceCtorEq, ↓reduceIte, Nat.reduceAdd, Nat.reduceEqDiff, Nat.reduceLT, Nat.reduceLeDiff, Nat.reduceSub, Nat.zero_ne_one, Nat.one_ne_zero, w0, w1, w2, w3, w4, w5, w6, w7, w8, w9, w10, w11, w12, w13, w14, w15, w16, w17, w18, w19, w20, w21, w22, w23, w24, evGM_get, evGM_set, evGM_get0, evGM_set0, lt5, lc5, h5, e0, b0, b1, hk6, hx', hs, List.cons_append, List.nil_append, List.append_nil]
end MO
