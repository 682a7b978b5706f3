/-! what-ifs: the law's rounds beside the class's -/
section WF
variable {h h' : evH} {p p' a b u : Nat → Nat → Int32} {V : Nat → evVt} {v : evVt} {n q T lag g tot : Nat} {x : Int32}
theorem has_p (P : pRel v u a n q T lag g tot) : wtB a q = hasV v := by
  obtain ⟨HF, ⟨hn3, hT⟩, HE, -⟩ := P
  obtain ⟨⟨HN, HB, HL, hg, ⟨HM, ht⟩, HA⟩, -⟩ := HF.1
  obtain ⟨l1, l2, l3, l4⟩ := HL
  have hq8 := HN.2.1
  have W : ∀ k, k ≤ q → wtB a k = (decide (0 ≤ a 0 7) || decide (g < k)) := by
    intro k
    induction k with
    | zero =>
      intro _
      show decide (0 ≤ a 0 7) = _
      rw [decide_eq_false (p := g < 0) (by omega), Bool.or_false]
    | succ k ih =>
      intro hk
      show (wtB a k || decide (a 2 (7 * k + 1) = 0)) = _
      rw [ih (by omega), HE.2.2 k 1 (by omega) (by omega), (l2 k (by omega)).2.1]
      by_cases hkg : k < g
      · rw [decide_eq_false (l3 k hkg), decide_eq_false (p := g < k) (by omega), decide_eq_false (p := g < k + 1) (by omega), Bool.or_false]
      · rw [decide_eq_true (l4 k (by omega) (by omega)).1, decide_eq_true (p := g < k + 1) (by omega), Bool.or_true, Bool.or_true]
  rw [W q (Nat.le_refl q)]
  unfold hasV
  have h13 : v 1 3 0 = u 1 7 := by
    rcases HA with ⟨a1, a2⟩ | ⟨l, G, a1, a2, a3, -⟩
    · rw [a1, a2]
    · rw [a2, a3]
  have e1 : decide (0 ≤ a 0 7) = !decide (v 1 3 0 = -6) := by
    rw [HE.1 7 (by omega), h13]
    rcases HA with ⟨a1, a2⟩ | ⟨l, G, a1, a2, a3, -⟩
    · rw [a2]; decide
    · rw [a3, decide_eq_true (nI_pos' (by omega)), decide_eq_false (nI_n6 (by omega))]; rfl
  have e2 : decide (g < q) = decide (v 1 2 0 < v 1 1 0) := by
    rw [hg, HN.2.2.2.2.2.1.1]
    by_cases hh : g < q
    · rw [decide_eq_true hh, decide_eq_true (nI_lt hh (by omega))]
    · rw [decide_eq_false hh, decide_eq_false (nI_nlt (by omega) (by omega))]
  rw [e1, e2]
theorem W_waits1 (hx : xP h) (hq : q ≤ 8) (h6 : a 0 6 = nI q) : evX 72 0 [(0, .ref 375), (1, .ref 377)] [] h (memW (two a b) p V 0) = some (some (.int (evBl (wtB a q))), h, memW (two a b) p V 0) := by
  have W := c_waits (m := memW (two a b) p V 0) (w := a) hx.2.1 hq h6
  rw [mW_a] at W
  exact W
theorem W_waits2 (hx : xP h) (hq : q ≤ 8) (h6 : b 0 6 = nI q) : evX 72 0 [(0, .ref 380), (1, .ref 382)] [] h (memW (two a b) p V 0) = some (some (.int (evBl (wtB b q))), h, memW (two a b) p V 0) := by
  have W := c_waits (m := memW (two a b) p V 0) (w := b) hx.2.2 hq h6
  rw [mW_b] at W
  exact W
theorem W_lcopy (hx : xP h) : evX 73 0 [(0, .ref 375), (1, .ref 376), (2, .ref 377), (3, .ref 378), (4, .ref 379), (5, .ref 380), (6, .ref 381), (7, .ref 382), (8, .ref 383), (9, .ref 384)] [] h (memW (two a b) p V 0) = some (none, h, memW (two a (cpB a b)) p V 0) := by
  rw [c_copy hx, cpU_two]
/-- rows that go beside the class's hall, if the list has not overflown -/
def qR (v : evVt) (b : Nat → Nat → Int32) (n q T : Nat) : Prop := lI b n q ∧ (b 0 10 = 0 ∨ b 0 10 = 1) ∧ (b 0 10 = 0 → ∃ u T' lag g tot, T' ≤ T ∧ pRel v u b n q T' lag g tot)
theorem qR_of (P : pRel v u a n q T lag g tot) (I : lI a n q) (K : lkW a b) : qR v b n q T := by
  refine ⟨lI_lk K I, ?_, fun _ => ⟨u, T, lag, g, tot, Nat.le_refl T, pRel_lk K P⟩⟩
  obtain ⟨L, len, ⟨-, -, w10⟩, -⟩ := P.2.2.2.2
  left
  rw [lk_0 K (by omega)]
  exact w10
theorem qR_step (Q : qR v b n q T) (hT : T + 1 < 16000) : qR (playV n v).1 (rnW b n q) n q (T + 1) ∧ (rnW b n q 0 10 = 0 → b 0 10 = 0 ∧ (playV n v).2 = rnB b n q) := by
  obtain ⟨I, h01, R⟩ := Q
  have h10 := rn_10 b n q
  have back : rnW b n q 0 10 = 0 → b 0 10 = 0 := fun z => by
    rcases h10 with e | e
    · exact e.symm.trans z
    · rw [e] at z; exact absurd z (by decide)
  refine ⟨⟨lI_rn I, ?_, fun z => ?_⟩, fun z => ?_⟩
  · rcases h10 with e | e
    · rw [e]; exact h01
    · exact Or.inr e
  · obtain ⟨u, T', lag, g, tot, hT', P⟩ := R (back z)
    obtain ⟨-, g', t', P'⟩ := play_p P I (by omega) z
    exact ⟨_, T' + 1, lag, g', t', by omega, P'⟩
  · obtain ⟨u, T', lag, g, tot, hT', P⟩ := R (back z)
    exact ⟨back z, (play_p P I (by omega) z).1⟩
theorem lI_6 (I : lI b n q) : b 0 6 = nI q := I.2.2.2.2.1
theorem passV_0 (n : Nat) (v : evVt) : (passV n v 0).1 = v := rfl
theorem passV_s' (n k : Nat) (v : evVt) : (passV n v (k + 1)).1 = (playV n (passV n v k).1).1 := rfl
theorem wo_ends {v : evVt} {T0 : Nat} (hT : T0 + 501 < 16000) (d : Nat) : ∀ (k : Nat) (h : evH) (p b : Nat → Nat → Int32), k + d = 500 → xP h → evN h + d < 900000000 → qR (passV n v k).1 b n q (T0 + k) → ∃ (h' : evH) (p' b' : Nat → Nat → Int32) (n' : Nat) (an : Bool), evX 75 32 [(0, .ref 0), (1, .int x), (2, .ref 375), (3, .ref 376), (4, .ref 377), (5, .ref 378), (6, .ref 379), (7, .ref 380), (8, .ref 381), (9, .ref 382), (10, .ref 383), (11, .ref 384), (12, .int (nI k)), (13, .int 1)] [] h (memW (two a b) p V 0) = evX 75 74 [(0, .ref 0), (1, .int x), (2, .ref 375), (3, .ref 376), (4, .ref 377), (5, .ref 378), (6, .ref 379), (7, .ref 380), (8, .ref 381), (9, .ref 382), (10, .ref 383), (11, .ref 384), (12, .int (nI n')), (13, .int (evBl an))] [] h' (memW (two a b') p' V 0) ∧ wGr d h h' ∧ pK p p' ∧ (b' 0 10 = 0 ∨ b' 0 10 = 1) ∧ n' ≤ 500 ∧ (an = true ∨ 1 ≤ n') ∧ (b' 0 10 = 0 → b 0 10 = 0 ∧ (if an = true then (-6 : Int32) else nI n') = eiC n v d k) := by
  have t10 : ¬ (1 : Int32) = 0 := by decide
  have tb1 : ¬ evBl true = 0 := by decide
  induction d with
  | zero =>
    intro k h p b hk hx hN2 Q
    have e0 : (500 : Int32) ≤ nI k := nI_le (a := 500) (by omega) (by omega)
    refine ⟨h, p, b, k, true, ?_, wGr_refl h, pK_refl p, Q.2.1, by omega, Or.inl rfl, fun z => ⟨z, rfl⟩⟩
    conv => lhs; rw [x75_32]
    simp only [x75_34, x75_37, x75_39, x75_42, evI_i, evJl_i, evJf_i, evJd_i, evA_r, evA_n, evA_q, evLk_c, evS1_d, evS2_d, evFl_n, evFl_c, evGl_n, evGl_c, evIn_n, evIn_c, evCat_i, evCat_l, evCat_f, evCat_d, evCat_r, evCat_z, evCat_q, evBd_some, evTl_s, evTl_n, va_rf_s, va_rf_n, and_true, true_and, and_false, false_and, if_true, if_false, not_true_eq_false, not_false_eq_true, reduceCtorEq, ↓reduceIte, Nat.reduceAdd, Nat.reduceEqDiff, Nat.reduceLT, Nat.reduceLeDiff, Nat.reduceSub, Nat.zero_ne_one, Nat.one_ne_zero, t10, e0]
    rfl
  | succ d ih =>
    intro k h p b hk hx hN2 Q
    have e0 : ¬ (500 : Int32) ≤ nI k := nI_ge (b := 500) (by omega) (by omega)
    obtain ⟨h1, p1, e1, G1, K1⟩ := W_round2 (p := p) (V := V) (a := a) hx (by omega) Q.1
    obtain ⟨Q1, B1⟩ := qR_step Q (by omega)
    rw [← passV_s'] at Q1
    cases hB : rnB b n q with
    | true =>
      rw [hB] at e1
      refine ⟨h1, p1, rnW b n q, k + 1, false, ?_, wGr_le G1 (by omega), K1, Q1.2.1, by omega, Or.inr (by omega), fun z => ?_⟩
      · conv => lhs; rw [x75_32]
        simp only [x75_34, x75_37, x75_39, x75_42, x75_45, x75_48, x75_50, x75_52, x75_54, x75_56, x75_58, x75_61, x75_64, x75_65, x75_68, x75_69, x75_71, evI_i, evJl_i, evJf_i, evJd_i, evA_r, evA_n, evA_q, evLk_c, evS1_d, evS2_d, evFl_n, evFl_c, evGl_n, evGl_c, evIn_n, evIn_c, evCat_i, evCat_l, evCat_f, evCat_d, evCat_r, evCat_z, evCat_q, evBd_some, evTl_s, evTl_n, va_rf_s, va_rf_n, and_true, true_and, and_false, false_and, if_true, if_false, not_true_eq_false, not_false_eq_true, reduceCtorEq, ↓reduceIte, Nat.reduceAdd, Nat.reduceEqDiff, Nat.reduceLT, Nat.reduceLeDiff, Nat.reduceSub, Nat.zero_ne_one, Nat.one_ne_zero, t10, e0, e1, tb1, nA1, Option.toList, List.nil_append, List.cons_append]
        conv => lhs; rw [x75_32]
        simp only [x75_34, evI_i, evJl_i, evJf_i, evJd_i, evA_r, evA_n, evA_q, evLk_c, evS1_d, evS2_d, evFl_n, evFl_c, evGl_n, evGl_c, evIn_n, evIn_c, evCat_i, evCat_l, evCat_f, evCat_d, evCat_r, evCat_z, evCat_q, evBd_some, evTl_s, evTl_n, va_rf_s, va_rf_n, and_true, true_and, and_false, false_and, if_true, if_false, not_true_eq_false, not_false_eq_true, reduceCtorEq, ↓reduceIte, Nat.reduceAdd, Nat.reduceEqDiff, Nat.reduceLT, Nat.reduceLeDiff, Nat.reduceSub, Nat.zero_ne_one, Nat.one_ne_zero]
        rfl
      · obtain ⟨z1, z2⟩ := B1 z
        refine ⟨z1, ?_⟩
        show nI (k + 1) = if (playV n (passV n v k).1).2 = true then nI (k + 1) else eiC n v d (k + 1)
        rw [z2, hB, if_pos rfl]
    | false =>
      rw [hB] at e1
      obtain ⟨h2, p2, b2, n2, an, f1, f2, f3, f4, f5, f6, f7⟩ := ih (k + 1) h1 p1 (rnW b n q) (by omega) (xP_gr hx G1) (by have := G1.2.2.1; omega) Q1
      refine ⟨h2, p2, b2, n2, an, Eq.trans ?_ f1, wGr_le (wGr_trans G1 f2) (by omega), pK_trans K1 f3, f4, f5, f6, fun z => ?_⟩
      · conv => lhs; rw [x75_32]
        simp only [x75_34, x75_37, x75_39, x75_42, x75_45, x75_48, x75_50, x75_52, x75_54, x75_56, x75_58, x75_61, x75_64, x75_65, x75_68, x75_69, x75_71, evI_i, evJl_i, evJf_i, evJd_i, evA_r, evA_n, evA_q, evLk_c, evS1_d, evS2_d, evFl_n, evFl_c, evGl_n, evGl_c, evIn_n, evIn_c, evCat_i, evCat_l, evCat_f, evCat_d, evCat_r, evCat_z, evCat_q, evBd_some, evTl_s, evTl_n, va_rf_s, va_rf_n, and_true, true_and, and_false, false_and, if_true, if_false, not_true_eq_false, not_false_eq_true, reduceCtorEq, ↓reduceIte, Nat.reduceAdd, Nat.reduceEqDiff, Nat.reduceLT, Nat.reduceLeDiff, Nat.reduceSub, Nat.zero_ne_one, Nat.one_ne_zero, t10, e0, e1, evBl_f, nA1, Option.toList, List.nil_append, List.cons_append]
      · obtain ⟨z1, z2⟩ := f7 z
        obtain ⟨y1, y2⟩ := B1 z1
        refine ⟨y1, z2.trans ?_⟩
        show eiC n v d (k + 1) = if (playV n (passV n v k).1).2 = true then nI (k + 1) else eiC n v d (k + 1)
        rw [y2, hB, if_neg (by decide)]
theorem wo_lag {v : evVt} {T0 : Nat} (hT : T0 + 1001 < 16000) {c1 c2 c3 c4 c5 c6 c7 c8 c9 : Int32} (d : Nat) : ∀ (k : Nat) (h : evH) (p b : Nat → Nat → Int32), k + d = 1000 → xP h → evN h + d < 900000000 → qR (outV n v k) b n q (T0 + k) → ∃ (h' : evH) (p' b' : Nat → Nat → Int32) (k' : Nat), evX 75 149 [(0, .ref 0), (1, .int x), (2, .ref 375), (3, .ref 376), (4, .ref 377), (5, .ref 378), (6, .ref 379), (7, .ref 380), (8, .ref 381), (9, .ref 382), (10, .ref 383), (11, .ref 384), (12, .int c1), (13, .int c2), (14, .int c3), (15, .int c4), (16, .int (nI k))] [] h (memW (two a b) p V 0) = evX 75 187 [(0, .ref 0), (1, .int x), (2, .ref 375), (3, .ref 376), (4, .ref 377), (5, .ref 378), (6, .ref 379), (7, .ref 380), (8, .ref 381), (9, .ref 382), (10, .ref 383), (11, .ref 384), (12, .int c1), (13, .int c2), (14, .int c3), (15, .int c4), (16, .int (nI k'))] [] h' (memW (two a b') p' V 0) ∧ wGr d h h' ∧ pK p p' ∧ (b' 0 10 = 0 → b 0 10 = 0) ∧ qR (outV n v 1000) b' n q (T0 + 1000) := by
  have tb1 : ¬ evBl true = 0 := by decide
  induction d with
  | zero =>
    intro k h p b hk hx hN2 Q
    obtain rfl : k = 1000 := by omega
    have e0 : (1000 : Int32) ≤ nI 1000 := Int32.le_refl _
    refine ⟨h, p, b, 1000, ?_, wGr_refl h, pK_refl p, id, Q⟩
    conv => lhs; rw [x75_149]
    simp only [x75_151, x75_154, evI_i, evJl_i, evJf_i, evJd_i, evA_r, evA_n, evA_q, evLk_c, evS1_d, evS2_d, evFl_n, evFl_c, evGl_n, evGl_c, evIn_n, evIn_c, evCat_i, evCat_l, evCat_f, evCat_d, evCat_r, evCat_z, evCat_q, evBd_some, evTl_s, evTl_n, va_rf_s, va_rf_n, and_true, true_and, and_false, false_and, if_true, if_false, not_true_eq_false, not_false_eq_true, reduceCtorEq, ↓reduceIte, Nat.reduceAdd, Nat.reduceEqDiff, Nat.reduceLT, Nat.reduceLeDiff, Nat.reduceSub, Nat.zero_ne_one, Nat.one_ne_zero, e0]
  | succ d ih =>
    intro k h p b hk hx hN2 Q
    have e0 : ¬ (1000 : Int32) ≤ nI k := nI_ge (b := 1000) (by omega) (by omega)
    have e1 := W_waits2 (p := p) (V := V) (a := a) hx Q.1.2.2.1 (lI_6 Q.1)
    cases hW : wtB b q with
    | false =>
      rw [hW] at e1
      refine ⟨h, p, b, k, ?_, wGr_le (wGr_refl h) (by omega), pK_refl p, id, Q.1, Q.2.1, fun z => ?_⟩
      · conv => lhs; rw [x75_149]
        simp only [x75_151, x75_154, x75_157, x75_159, x75_161, x75_164, evI_i, evJl_i, evJf_i, evJd_i, evA_r, evA_n, evA_q, evLk_c, evS1_d, evS2_d, evFl_n, evFl_c, evGl_n, evGl_c, evIn_n, evIn_c, evCat_i, evCat_l, evCat_f, evCat_d, evCat_r, evCat_z, evCat_q, evBd_some, evTl_s, evTl_n, va_rf_s, va_rf_n, and_true, true_and, and_false, false_and, if_true, if_false, not_true_eq_false, not_false_eq_true, reduceCtorEq, ↓reduceIte, Nat.reduceAdd, Nat.reduceEqDiff, Nat.reduceLT, Nat.reduceLeDiff, Nat.reduceSub, Nat.zero_ne_one, Nat.one_ne_zero, e0, e1, evBl_f, Option.toList, List.nil_append, List.cons_append]
      · obtain ⟨u, T', lag, g, tot, hT', P⟩ := Q.2.2 z
        have hs : hasV (outV n v k) = false := (has_p P).symm.trans hW
        have e := outV_stop hs (d + 1)
        rw [show k + (d + 1) = 1000 by omega] at e
        exact ⟨u, T', lag, g, tot, by omega, by rw [e]; exact P⟩
    | true =>
      rw [hW] at e1
      obtain ⟨h1, p1, e2, G1, K1⟩ := W_round2 (p := p) (V := V) (a := a) hx (by omega) Q.1
      obtain ⟨Q1, B1⟩ := qR_step Q (by omega)
      have Q2 : qR (outV n v (k + 1)) (rnW b n q) n q (T0 + (k + 1)) := by
        refine ⟨Q1.1, Q1.2.1, fun z => ?_⟩
        obtain ⟨y1, -⟩ := B1 z
        obtain ⟨u, T', lag, g, tot, hT', P⟩ := Q.2.2 y1
        have hs : hasV (outV n v k) = true := (has_p P).symm.trans hW
        rw [outV_s, if_pos hs]
        exact Q1.2.2 z
      obtain ⟨h2, p2, b2, k2, f1, f2, f3, f4, f5⟩ := ih (k + 1) h1 p1 (rnW b n q) (by omega) (xP_gr hx G1) (by have := G1.2.2.1; omega) Q2
      refine ⟨h2, p2, b2, k2, Eq.trans ?_ f1, wGr_le (wGr_trans G1 f2) (by omega), pK_trans K1 f3, fun z => (B1 (f4 z)).1, f5⟩
      conv => lhs; rw [x75_149]
      simp only [x75_151, x75_154, x75_157, x75_159, x75_161, x75_164, x75_167, x75_169, x75_171, x75_173, x75_175, x75_177, x75_180, x75_181, x75_184, evI_i, evJl_i, evJf_i, evJd_i, evA_r, evA_n, evA_q, evLk_c, evS1_d, evS2_d, evFl_n, evFl_c, evGl_n, evGl_c, evIn_n, evIn_c, evCat_i, evCat_l, evCat_f, evCat_d, evCat_r, evCat_z, evCat_q, evBd_some, evTl_s, evTl_n, va_rf_s, va_rf_n, and_true, true_and, and_false, false_and, if_true, if_false, not_true_eq_false, not_false_eq_true, reduceCtorEq, ↓reduceIte, Nat.reduceAdd, Nat.reduceEqDiff, Nat.reduceLT, Nat.reduceLeDiff, Nat.reduceSub, Nat.zero_ne_one, Nat.one_ne_zero, e0, e1, e2, tb1, nA1, Option.toList, List.nil_append, List.cons_append]
theorem wo_plan {v : evVt} {T0 : Nat} (hT : T0 + 1001 < 16000) {c1 c2 c3 c4 c5 c6 c7 c8 c9 : Int32} (d : Nat) : ∀ (k : Nat) (h : evH) (p b : Nat → Nat → Int32), k + d = 1000 → xP h → evN h + d < 900000000 → qR (outV n v k) b n q (T0 + k) → ∃ (h' : evH) (p' b' : Nat → Nat → Int32) (k' : Nat), evX 75 325 [(0, .ref 0), (1, .int x), (2, .ref 375), (3, .ref 376), (4, .ref 377), (5, .ref 378), (6, .ref 379), (7, .ref 380), (8, .ref 381), (9, .ref 382), (10, .ref 383), (11, .ref 384), (12, .int c1), (13, .int c2), (14, .int c3), (15, .int c4), (16, .int c5), (17, .int c6), (18, .int c7), (19, .int c8), (20, .int c9), (21, .int (nI k))] [] h (memW (two a b) p V 0) = evX 75 363 [(0, .ref 0), (1, .int x), (2, .ref 375), (3, .ref 376), (4, .ref 377), (5, .ref 378), (6, .ref 379), (7, .ref 380), (8, .ref 381), (9, .ref 382), (10, .ref 383), (11, .ref 384), (12, .int c1), (13, .int c2), (14, .int c3), (15, .int c4), (16, .int c5), (17, .int c6), (18, .int c7), (19, .int c8), (20, .int c9), (21, .int (nI k'))] [] h' (memW (two a b') p' V 0) ∧ wGr d h h' ∧ pK p p' ∧ (b' 0 10 = 0 → b 0 10 = 0) ∧ qR (outV n v 1000) b' n q (T0 + 1000) := by
  have tb1 : ¬ evBl true = 0 := by decide
  induction d with
  | zero =>
    intro k h p b hk hx hN2 Q
    obtain rfl : k = 1000 := by omega
    have e0 : (1000 : Int32) ≤ nI 1000 := Int32.le_refl _
    refine ⟨h, p, b, 1000, ?_, wGr_refl h, pK_refl p, id, Q⟩
    conv => lhs; rw [x75_325]
    simp only [x75_327, x75_330, evI_i, evJl_i, evJf_i, evJd_i, evA_r, evA_n, evA_q, evLk_c, evS1_d, evS2_d, evFl_n, evFl_c, evGl_n, evGl_c, evIn_n, evIn_c, evCat_i, evCat_l, evCat_f, evCat_d, evCat_r, evCat_z, evCat_q, evBd_some, evTl_s, evTl_n, va_rf_s, va_rf_n, and_true, true_and, and_false, false_and, if_true, if_false, not_true_eq_false, not_false_eq_true, reduceCtorEq, ↓reduceIte, Nat.reduceAdd, Nat.reduceEqDiff, Nat.reduceLT, Nat.reduceLeDiff, Nat.reduceSub, Nat.zero_ne_one, Nat.one_ne_zero, e0]
  | succ d ih =>
    intro k h p b hk hx hN2 Q
    have e0 : ¬ (1000 : Int32) ≤ nI k := nI_ge (b := 1000) (by omega) (by omega)
    have e1 := W_waits2 (p := p) (V := V) (a := a) hx Q.1.2.2.1 (lI_6 Q.1)
    cases hW : wtB b q with
    | false =>
      rw [hW] at e1
      refine ⟨h, p, b, k, ?_, wGr_le (wGr_refl h) (by omega), pK_refl p, id, Q.1, Q.2.1, fun z => ?_⟩
      · conv => lhs; rw [x75_325]
        simp only [x75_327, x75_330, x75_333, x75_335, x75_337, x75_340, evI_i, evJl_i, evJf_i, evJd_i, evA_r, evA_n, evA_q, evLk_c, evS1_d, evS2_d, evFl_n, evFl_c, evGl_n, evGl_c, evIn_n, evIn_c, evCat_i, evCat_l, evCat_f, evCat_d, evCat_r, evCat_z, evCat_q, evBd_some, evTl_s, evTl_n, va_rf_s, va_rf_n, and_true, true_and, and_false, false_and, if_true, if_false, not_true_eq_false, not_false_eq_true, reduceCtorEq, ↓reduceIte, Nat.reduceAdd, Nat.reduceEqDiff, Nat.reduceLT, Nat.reduceLeDiff, Nat.reduceSub, Nat.zero_ne_one, Nat.one_ne_zero, e0, e1, evBl_f, Option.toList, List.nil_append, List.cons_append]
      · obtain ⟨u, T', lag, g, tot, hT', P⟩ := Q.2.2 z
        have hs : hasV (outV n v k) = false := (has_p P).symm.trans hW
        have e := outV_stop hs (d + 1)
        rw [show k + (d + 1) = 1000 by omega] at e
        exact ⟨u, T', lag, g, tot, by omega, by rw [e]; exact P⟩
    | true =>
      rw [hW] at e1
      obtain ⟨h1, p1, e2, G1, K1⟩ := W_round2 (p := p) (V := V) (a := a) hx (by omega) Q.1
      obtain ⟨Q1, B1⟩ := qR_step Q (by omega)
      have Q2 : qR (outV n v (k + 1)) (rnW b n q) n q (T0 + (k + 1)) := by
        refine ⟨Q1.1, Q1.2.1, fun z => ?_⟩
        obtain ⟨y1, -⟩ := B1 z
        obtain ⟨u, T', lag, g, tot, hT', P⟩ := Q.2.2 y1
        have hs : hasV (outV n v k) = true := (has_p P).symm.trans hW
        rw [outV_s, if_pos hs]
        exact Q1.2.2 z
      obtain ⟨h2, p2, b2, k2, f1, f2, f3, f4, f5⟩ := ih (k + 1) h1 p1 (rnW b n q) (by omega) (xP_gr hx G1) (by have := G1.2.2.1; omega) Q2
      refine ⟨h2, p2, b2, k2, Eq.trans ?_ f1, wGr_le (wGr_trans G1 f2) (by omega), pK_trans K1 f3, fun z => (B1 (f4 z)).1, f5⟩
      conv => lhs; rw [x75_325]
      simp only [x75_327, x75_330, x75_333, x75_335, x75_337, x75_340, x75_343, x75_345, x75_347, x75_349, x75_351, x75_353, x75_356, x75_357, x75_360, evI_i, evJl_i, evJf_i, evJd_i, evA_r, evA_n, evA_q, evLk_c, evS1_d, evS2_d, evFl_n, evFl_c, evGl_n, evGl_c, evIn_n, evIn_c, evCat_i, evCat_l, evCat_f, evCat_d, evCat_r, evCat_z, evCat_q, evBd_some, evTl_s, evTl_n, va_rf_s, va_rf_n, and_true, true_and, and_false, false_and, if_true, if_false, not_true_eq_false, not_false_eq_true, reduceCtorEq, ↓reduceIte, Nat.reduceAdd, Nat.reduceEqDiff, Nat.reduceLT, Nat.reduceLeDiff, Nat.reduceSub, Nat.zero_ne_one, Nat.one_ne_zero, e0, e1, e2, tb1, nA1, Option.toList, List.nil_append, List.cons_append]
end WF
