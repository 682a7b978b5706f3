/-! the law's acts: settings, rounds -/
section AE
variable {h h' : evH} {p p' a b u : Nat → Nat → Int32} {V : Nat → evVt} {v : evVt} {n q T lag g tot L kd bb : Nat} {xs : Nat → Int32} {tn x y : Int32}
/-- settings: what is set is in its range -/
theorem set_rng {w val : Nat} (hw : w < 4) (hlo : (if w = 0 then 0 else if w = 1 then 1 else if w = 2 then 1 else 0) ≤ val) (hhi : val ≤ (if w = 0 then 5 else if w = 1 then 99 else if w = 2 then 9 else 1)) : isvB (nI w) (nI val) = true ∧ (clSet v (nI w) (nI val)).2 = vs v 0 w 0 (nI val) := by
  have hc : (nI w).toNatClampNeg = w := nI_cl _ (by omega)
  have rg : ∀ {lo hi : Nat}, lo ≤ val → val ≤ hi → hi < 1000 → wiB (nI val) (nI lo) (nI hi) = true := fun {lo hi} h1 h2 h3 => by
    rw [wiB_t]
    rintro (z | z)
    · exact nI_nlt h1 (by omega) z
    · exact nI_nlt h2 (by omega) z
  have I : isvB (nI w) (nI val) = wiB (nI val) (evGv 0 w) (evGv 1 w) := by
    rcases (show w = 0 ∨ w = 1 ∨ w = 2 ∨ w = 3 by omega) with rfl | rfl | rfl | rfl <;> rfl
  have R : wiB (nI val) (evGv 0 w) (evGv 1 w) = true := by
    rcases (show w = 0 ∨ w = 1 ∨ w = 2 ∨ w = 3 by omega) with rfl | rfl | rfl | rfl
    · exact rg (lo := 0) (hi := 5) (by omega) (by simpa using hhi) (by omega)
    · exact rg (lo := 1) (hi := 99) (by simpa using hlo) (by simpa using hhi) (by omega)
    · exact rg (lo := 1) (hi := 9) (by simpa using hlo) (by simpa using hhi) (by omega)
    · exact rg (lo := 0) (hi := 1) (by omega) (by simpa using hhi) (by omega)
  refine ⟨I.trans R, ?_⟩
  unfold clSet
  rw [if_neg (fun z => by
    rcases z with z | z
    · exact nI_pos (by omega) z
    · exact nI_ge (b := 4) hw (by omega) z), hc, if_neg ((wiB_t _ _ _).mp R)]
theorem set_end (H : lHd h u p a V n q T lag g tot L xs) {w val : Nat} (hw : w < 4) (hlo : (if w = 0 then 0 else if w = 1 then 1 else if w = 2 then 1 else 0) ≤ val) (hhi : val ≤ (if w = 0 then 5 else if w = 1 then 99 else if w = 2 then 9 else 1)) (E : evL) (hE : fE E) : ∃ (p' a' u' : Nat → Nat → Int32) (V' : Nat → evVt) (lag' : Nat), evX 76 699 ([(0, .ref (evO9 + 2)), (1, .ref 0), (2, .ref 375), (3, .ref 376), (4, .ref 377), (5, .ref 378), (6, .ref 379), (7, .ref 380), (8, .ref 381), (9, .ref 382), (10, .ref 383), (11, .ref 384), (12, .int tn), (13, .int x), (14, .int y), (15, .int (nI kd)), (16, .int (nI bb))] ++ e78 E (nI w) (nI val)) [] h (memW (two a b) p V 0) = evX 76 722 ([(0, .ref (evO9 + 2)), (1, .ref 0), (2, .ref 375), (3, .ref 376), (4, .ref 377), (5, .ref 378), (6, .ref 379), (7, .ref 380), (8, .ref 381), (9, .ref 382), (10, .ref 383), (11, .ref 384), (12, .int tn), (13, .int x), (14, .int y), (15, .int (nI kd)), (16, .int (nI bb))] ++ e78 E (nI w) (nI val)) [] h (memW (two a' b) p' V' 0) ∧ lHd h u' p' a' V' n q T lag' g tot L xs := by
  obtain ⟨hn6, hv, hq8, hv1, h5, h6, hn3⟩ := hd_v H
  obtain ⟨hx, hsp, hL, P, I, hi, hk, hi7, hk6, p1, p2⟩ := H
  obtain ⟨R1, R2⟩ := set_rng (v := V 0) hw hlo hhi
  have hs0 : evSp h 0 = (4, evGv 0) := by rw [hsp]; rfl
  have hs1 : evSp h 1 = (4, evGv 1) := by rw [hsp]; rfl
  have hc : (nI w).toNatClampNeg = w := nI_cl _ (by omega)
  have W := W_set (u := two a b) (p := p) (V := V) hx.1 hs0 hs1 hi7 hk6 p1 p2 (nI w) (nI val)
  rcases set_fu P.1 (nI w) (nI val) with ⟨-, r1, -, lag', r2⟩ | ⟨z, -⟩
  · rw [hc, ← P.2.2.1.1 w (by omega)] at r1
    rw [r1] at W
    rw [hc, R2] at r2
    have hP' := set_p P hw (fun a' i' j' hh => by rw [vs_at, if_neg (fun z => hh z.1)]) r2
    refine ⟨stP p hi hk (a 0 w), ms a 0 w (nI val), ms u 1 w (nI val), chW V hi (clSet (V 0) (nI w) (nI val)).2, lag', ?_, hx, hsp, hL, by rw [chW_0, R2]; exact hP', lI0_0 hw I, st_p hi7 hk6 p1 p2 _⟩
    have a0 := hx.1.2.2.1
    obtain ⟨iw_p, iw_c, iw_l⟩ := rdx (k := w) (n := 11) (by omega) (by decide)
    obtain ⟨sa0, sn0, sa1, sn1, sa2, sn2, sa3, sn3, sa4, sn4, sa5, sn5, sa6, sn6, sa7, sn7, sa8, sn8, sa9, sn9⟩ := xP_a hx
    rcases hE with rfl | ⟨c, rfl⟩ | ⟨c, d, rfl⟩ | ⟨c, d, e, rfl⟩ <;>
      simp only [x76_699, x76_700, x76_702, x76_704, x76_707, x76_708, x76_710, x76_710s, x76_711, x76_714, x76_715_0, x76_715_1, x76_715b, x76_716, x76_717, x76_719, x76_721, evI_i, evJl_i, evJf_i, evJd_i, evA_r, evA_n, evA_q, evLk_c, evS1_d, evS2_d, evFl_n, evFl_c, evGl_n, evGl_c, evIn_n, evIn_c, evCat_i, evCat_l, evCat_f, evCat_d, evCat_r, evCat_z, evCat_q, evBd_some, evTl_s, evTl_n, va_rf_s, va_rf_n, and_true, true_and, and_false, false_and, if_true, if_false, not_true_eq_false, not_false_eq_true, reduceCtorEq, ↓reduceIte, Nat.reduceAdd, Nat.reduceEqDiff, Nat.reduceLT, Nat.reduceLeDiff, Nat.reduceSub, Nat.zero_ne_one, Nat.one_ne_zero, sa0, sn0, sa1, sn1, sa2, sn2, sa3, sn3, sa4, sn4, sa5, sn5, sa6, sn6, sa7, sn7, sa8, sn8, sa9, sn9, mG0, mS0, mG1, mS1, mG2, mS2, mG3, mS3, mG4, mS4, mG5, mS5, mG6, mS6, mG7, mS7, mG8, mS8, mG9, mS9, lt0, lt1, lt2, lt3, lt4, lt5, lt6, lt7, lt8, lt9, lt10, lc0, lc1, lc2, lc3, lc4, lc5, lc6, lc7, lc8, lc9, lc10, tw0, tw1, tw2, tw3, tw4, tw5, tw6, tw7, tw8, tw9, tm0, tm1, tm2, tm5, tm6, W, a0, e78_0, e78_1, e78_2, e78_3, iw_p, iw_c, iw_l, Option.toList, List.append_nil, List.nil_append, List.cons_append]
  · rw [R1] at z; cases z
set_option maxHeartbeats 1000000 in
theorem ac_set (H : lHd h u p a V n q T lag g tot L xs) (E : evL) (hE : fE E) : ∃ (p' a' u' : Nat → Nat → Int32) (V' : Nat → evVt) (E' : evL) (lag' : Nat), evX 76 624 ([(0, .ref (evO9 + 2)), (1, .ref 0), (2, .ref 375), (3, .ref 376), (4, .ref 377), (5, .ref 378), (6, .ref 379), (7, .ref 380), (8, .ref 381), (9, .ref 382), (10, .ref 383), (11, .ref 384), (12, .int tn), (13, .int x), (14, .int y), (15, .int (nI kd)), (16, .int (nI bb))] ++ E) [] h (memW (two a b) p V 0) = evX 76 722 ([(0, .ref (evO9 + 2)), (1, .ref 0), (2, .ref 375), (3, .ref 376), (4, .ref 377), (5, .ref 378), (6, .ref 379), (7, .ref 380), (8, .ref 381), (9, .ref 382), (10, .ref 383), (11, .ref 384), (12, .int tn), (13, .int x), (14, .int y), (15, .int (nI kd)), (16, .int (nI bb))] ++ E') [] h (memW (two a' b) p' V' 0) ∧ fE E' ∧ lHd h u' p' a' V' n q T lag' g tot L xs := by
  obtain ⟨w, hw, Lw⟩ := lw_n y (N := 4) (n := 4) rfl (by omega) (by omega)
  obtain ⟨k0, hk0, L0⟩ := lw_n (y >>> (2 &&& 31)) (N := 6) (n := 6) rfl (by omega) (by omega)
  obtain ⟨k1, hk1, L1⟩ := lw_n (y >>> (2 &&& 31)) (N := 60) (n := 60) rfl (by omega) (by omega)
  obtain ⟨k2, hk2, L2⟩ := lw_n (y >>> (2 &&& 31)) (N := 9) (n := 9) rfl (by omega) (by omega)
  obtain ⟨k3, hk3, L3⟩ := lw_n (y >>> (2 &&& 31)) (N := 2) (n := 2) rfl (by omega) (by omega)
  have st : ∃ val, (if w = 0 then 0 else if w = 1 then 1 else if w = 2 then 1 else 0) ≤ val ∧ val ≤ (if w = 0 then 5 else if w = 1 then 99 else if w = 2 then 9 else 1) ∧ evX 76 624 ([(0, .ref (evO9 + 2)), (1, .ref 0), (2, .ref 375), (3, .ref 376), (4, .ref 377), (5, .ref 378), (6, .ref 379), (7, .ref 380), (8, .ref 381), (9, .ref 382), (10, .ref 383), (11, .ref 384), (12, .int tn), (13, .int x), (14, .int y), (15, .int (nI kd)), (16, .int (nI bb))] ++ E) [] h (memW (two a b) p V 0) = evX 76 699 ([(0, .ref (evO9 + 2)), (1, .ref 0), (2, .ref 375), (3, .ref 376), (4, .ref 377), (5, .ref 378), (6, .ref 379), (7, .ref 380), (8, .ref 381), (9, .ref 382), (10, .ref 383), (11, .ref 384), (12, .int tn), (13, .int x), (14, .int y), (15, .int (nI kd)), (16, .int (nI bb))] ++ e78 E (nI w) (nI val)) [] h (memW (two a b) p V 0) := by
    have z0 : nI 0 = 0 := rfl
    have z1 : nI 1 = 1 := rfl
    have z2 : nI 2 = 2 := rfl
    have z3 : nI 3 = 3 := rfl
    have n10 : ¬ (1 : Int32) = 0 := by decide
    have n20 : ¬ (2 : Int32) = 0 := by decide
    have n21 : ¬ (2 : Int32) = 1 := by decide
    have n30 : ¬ (3 : Int32) = 0 := by decide
    have n31 : ¬ (3 : Int32) = 1 := by decide
    have n32 : ¬ (3 : Int32) = 2 := by decide
    rcases (show w = 0 ∨ w = 1 ∨ w = 2 ∨ w = 3 by omega) with rfl | rfl | rfl | rfl
    · refine ⟨k0, by simp, by simp; omega, ?_⟩
      rcases hE with rfl | ⟨c, rfl⟩ | ⟨c, d, rfl⟩ | ⟨c, d, e, rfl⟩ <;>
        simp only [x76_624, x76_626, x76_627, x76_630, x76_632, x76_634, x76_637, x76_639, x76_640, x76_641, x76_643, x76_646, x76_649, x76_651, x76_652, x76_655, x76_656, x76_658, x76_659, x76_660, x76_662, x76_665, x76_666, x76_669, x76_671, x76_672, x76_675, x76_676, x76_678, x76_679, x76_680, x76_682, x76_685, x76_686, x76_689, x76_691, x76_692, x76_693, x76_694, x76_697, evI_i, evJl_i, evJf_i, evJd_i, evA_r, evA_n, evA_q, evLk_c, evS1_d, evS2_d, evFl_n, evFl_c, evGl_n, evGl_c, evIn_n, evIn_c, evCat_i, evCat_l, evCat_f, evCat_d, evCat_r, evCat_z, evCat_q, evBd_some, evTl_s, evTl_n, va_rf_s, va_rf_n, and_true, true_and, and_false, false_and, if_true, if_false, not_true_eq_false, not_false_eq_true, reduceCtorEq, ↓reduceIte, Nat.reduceAdd, Nat.reduceEqDiff, Nat.reduceLT, Nat.reduceLeDiff, Nat.reduceSub, Nat.zero_ne_one, Nat.one_ne_zero, Lw, L0, z0, e78_0, e78_1, e78_2, e78_3, Option.toList, List.append_nil, List.nil_append, List.cons_append]
    · refine ⟨k1 + 4, by simp, by simp; omega, ?_⟩
      rcases hE with rfl | ⟨c, rfl⟩ | ⟨c, d, rfl⟩ | ⟨c, d, e, rfl⟩ <;>
        simp only [x76_624, x76_626, x76_627, x76_630, x76_632, x76_634, x76_637, x76_639, x76_640, x76_641, x76_643, x76_646, x76_649, x76_651, x76_652, x76_655, x76_656, x76_658, x76_659, x76_660, x76_662, x76_665, x76_666, x76_669, x76_671, x76_672, x76_675, x76_676, x76_678, x76_679, x76_680, x76_682, x76_685, x76_686, x76_689, x76_691, x76_692, x76_693, x76_694, x76_697, evI_i, evJl_i, evJf_i, evJd_i, evA_r, evA_n, evA_q, evLk_c, evS1_d, evS2_d, evFl_n, evFl_c, evGl_n, evGl_c, evIn_n, evIn_c, evCat_i, evCat_l, evCat_f, evCat_d, evCat_r, evCat_z, evCat_q, evBd_some, evTl_s, evTl_n, va_rf_s, va_rf_n, and_true, true_and, and_false, false_and, if_true, if_false, not_true_eq_false, not_false_eq_true, reduceCtorEq, ↓reduceIte, Nat.reduceAdd, Nat.reduceEqDiff, Nat.reduceLT, Nat.reduceLeDiff, Nat.reduceSub, Nat.zero_ne_one, Nat.one_ne_zero, Lw, L1, z1, n10, fourA, e78_0, e78_1, e78_2, e78_3, Option.toList, List.append_nil, List.nil_append, List.cons_append]
    · refine ⟨k2 + 1, by simp, by simp; omega, ?_⟩
      rcases hE with rfl | ⟨c, rfl⟩ | ⟨c, d, rfl⟩ | ⟨c, d, e, rfl⟩ <;>
        simp only [x76_624, x76_626, x76_627, x76_630, x76_632, x76_634, x76_637, x76_639, x76_640, x76_641, x76_643, x76_646, x76_649, x76_651, x76_652, x76_655, x76_656, x76_658, x76_659, x76_660, x76_662, x76_665, x76_666, x76_669, x76_671, x76_672, x76_675, x76_676, x76_678, x76_679, x76_680, x76_682, x76_685, x76_686, x76_689, x76_691, x76_692, x76_693, x76_694, x76_697, evI_i, evJl_i, evJf_i, evJd_i, evA_r, evA_n, evA_q, evLk_c, evS1_d, evS2_d, evFl_n, evFl_c, evGl_n, evGl_c, evIn_n, evIn_c, evCat_i, evCat_l, evCat_f, evCat_d, evCat_r, evCat_z, evCat_q, evBd_some, evTl_s, evTl_n, va_rf_s, va_rf_n, and_true, true_and, and_false, false_and, if_true, if_false, not_true_eq_false, not_false_eq_true, reduceCtorEq, ↓reduceIte, Nat.reduceAdd, Nat.reduceEqDiff, Nat.reduceLT, Nat.reduceLeDiff, Nat.reduceSub, Nat.zero_ne_one, Nat.one_ne_zero, Lw, L2, z2, n20, n21, oneA, e78_0, e78_1, e78_2, e78_3, Option.toList, List.append_nil, List.nil_append, List.cons_append]
    · refine ⟨k3, by simp, by simp; omega, ?_⟩
      rcases hE with rfl | ⟨c, rfl⟩ | ⟨c, d, rfl⟩ | ⟨c, d, e, rfl⟩ <;>
        simp only [x76_624, x76_626, x76_627, x76_630, x76_632, x76_634, x76_637, x76_639, x76_640, x76_641, x76_643, x76_646, x76_649, x76_651, x76_652, x76_655, x76_656, x76_658, x76_659, x76_660, x76_662, x76_665, x76_666, x76_669, x76_671, x76_672, x76_675, x76_676, x76_678, x76_679, x76_680, x76_682, x76_685, x76_686, x76_689, x76_691, x76_692, x76_693, x76_694, x76_697, evI_i, evJl_i, evJf_i, evJd_i, evA_r, evA_n, evA_q, evLk_c, evS1_d, evS2_d, evFl_n, evFl_c, evGl_n, evGl_c, evIn_n, evIn_c, evCat_i, evCat_l, evCat_f, evCat_d, evCat_r, evCat_z, evCat_q, evBd_some, evTl_s, evTl_n, va_rf_s, va_rf_n, and_true, true_and, and_false, false_and, if_true, if_false, not_true_eq_false, not_false_eq_true, reduceCtorEq, ↓reduceIte, Nat.reduceAdd, Nat.reduceEqDiff, Nat.reduceLT, Nat.reduceLeDiff, Nat.reduceSub, Nat.zero_ne_one, Nat.one_ne_zero, Lw, L3, z3, n30, n31, n32, e78_0, e78_1, e78_2, e78_3, Option.toList, List.append_nil, List.nil_append, List.cons_append]
  obtain ⟨val, v1, v2, e⟩ := st
  obtain ⟨p', a', u', V', lag', e', H'⟩ := set_end (x := x) (y := y) (tn := tn) (kd := kd) (bb := bb) (b := b) H hw v1 v2 E hE
  exact ⟨p', a', u', V', _, lag', e.trans e', fE_78 hE _ _, H'⟩
/-- rounds pass in the law's hall -/
theorem ps_loop (hx : xP h) {nn : Nat} (hnn : nn ≤ 30) (hN2 : evN h + 30 < 900000000) {v : evVt} (Q : qR v a n q T) (hT : T + 31 < 16000) (k : Nat) (hk : k ≤ nn) : ∃ (h' : evH) (p' a' : Nat → Nat → Int32) (en : Int32), evX 76 565 [(0, .ref (evO9 + 2)), (1, .ref 0), (2, .ref 375), (3, .ref 376), (4, .ref 377), (5, .ref 378), (6, .ref 379), (7, .ref 380), (8, .ref 381), (9, .ref 382), (10, .ref 383), (11, .ref 384), (12, .int tn), (13, .int x), (14, .int y), (15, .int (nI kd)), (16, .int (nI bb)), (17, .int (nI nn)), (18, .int 0), (19, .int (nI 0))] [] h (memW (two a b) p V 0) = evX 76 565 [(0, .ref (evO9 + 2)), (1, .ref 0), (2, .ref 375), (3, .ref 376), (4, .ref 377), (5, .ref 378), (6, .ref 379), (7, .ref 380), (8, .ref 381), (9, .ref 382), (10, .ref 383), (11, .ref 384), (12, .int tn), (13, .int x), (14, .int y), (15, .int (nI kd)), (16, .int (nI bb)), (17, .int (nI nn)), (18, .int en), (19, .int (nI k))] [] h' (memW (two a' b) p' V 0) ∧ wGr k h h' ∧ pK p p' ∧ qR (passV n v k).1 a' n q (T + k) ∧ (a' 0 10 = 0 → en = (passV n v k).2) := by
  induction k with
  | zero => exact ⟨h, p, a, 0, rfl, wGr_refl h, pK_refl p, Q, fun _ => rfl⟩
  | succ k ih =>
    obtain ⟨h1, p1, a1, en, e1, G1, K1, Q1, E1⟩ := ih (by omega)
    have hlt : ¬ nI nn ≤ nI k := nI_ge (by omega) (by omega)
    have hx1 := xP_gr hx G1
    obtain ⟨h2, p2, e2, G2, K2⟩ := W_round1 (p := p1) (V := V) (b := b) hx1 (by have := G1.2.2.1; omega) Q1.1
    obtain ⟨Q2, B2⟩ := qR_step Q1 (by omega)
    refine ⟨h2, p2, rnW a1 n q, en + evBl (rnB a1 n q), e1.trans ?_, wGr_trans G1 G2, pK_trans K1 K2, Q2, fun z => ?_⟩
    · conv => lhs; rw [x76_565]
      simp only [x76_567, x76_569, x76_572, x76_574, x76_575, x76_576, x76_578, x76_580, x76_582, x76_585, x76_586, x76_588, x76_591, evI_i, evJl_i, evJf_i, evJd_i, evA_r, evA_n, evA_q, evLk_c, evS1_d, evS2_d, evFl_n, evFl_c, evGl_n, evGl_c, evIn_n, evIn_c, evCat_i, evCat_l, evCat_f, evCat_d, evCat_r, evCat_z, evCat_q, evBd_some, evTl_s, evTl_n, va_rf_s, va_rf_n, and_true, true_and, and_false, false_and, if_true, if_false, not_true_eq_false, not_false_eq_true, reduceCtorEq, ↓reduceIte, Nat.reduceAdd, Nat.reduceEqDiff, Nat.reduceLT, Nat.reduceLeDiff, Nat.reduceSub, Nat.zero_ne_one, Nat.one_ne_zero, hlt, e2, nA1, Option.toList, List.nil_append, List.cons_append]
    · obtain ⟨z1, z2⟩ := B2 z
      rw [passV_s, E1 z1, ← z2]
      show (passV n v k).2 + evBl (playV n (passV n v k).1).2 = if (playV n (passV n v k).1).2 = true then (passV n v k).2 + 1 else (passV n v k).2
      cases (playV n (passV n v k).1).2
      · exact Int32.add_zero _
      · rfl
set_option maxHeartbeats 1000000 in
theorem ac_pass (H : lHd h u p a V n q T lag g tot L xs) (hn1 : 1 ≤ n) (hkd : kd < 12) (hN2 : evN h + 30 < 900000000) (hT : T ≤ 9000) (E : evL) (hE : fE E) : ∃ (h' : evH) (p' a' : Nat → Nat → Int32) (V' : Nat → evVt), wGr 30 h h' ∧ (evX 76 524 ([(0, .ref (evO9 + 2)), (1, .ref 0), (2, .ref 375), (3, .ref 376), (4, .ref 377), (5, .ref 378), (6, .ref 379), (7, .ref 380), (8, .ref 381), (9, .ref 382), (10, .ref 383), (11, .ref 384), (12, .int tn), (13, .int x), (14, .int y), (15, .int (nI kd)), (16, .int (nI bb))] ++ E) [] h (memW (two a b) p V 0) = some (some (.int 1), h', memW (two a' b) p' V' 0) ∨ ∃ (u' : Nat → Nat → Int32) (E' : evL) (T' lag' g' tot' : Nat), evX 76 524 ([(0, .ref (evO9 + 2)), (1, .ref 0), (2, .ref 375), (3, .ref 376), (4, .ref 377), (5, .ref 378), (6, .ref 379), (7, .ref 380), (8, .ref 381), (9, .ref 382), (10, .ref 383), (11, .ref 384), (12, .int tn), (13, .int x), (14, .int y), (15, .int (nI kd)), (16, .int (nI bb))] ++ E) [] h (memW (two a b) p V 0) = evX 76 722 ([(0, .ref (evO9 + 2)), (1, .ref 0), (2, .ref 375), (3, .ref 376), (4, .ref 377), (5, .ref 378), (6, .ref 379), (7, .ref 380), (8, .ref 381), (9, .ref 382), (10, .ref 383), (11, .ref 384), (12, .int tn), (13, .int x), (14, .int y), (15, .int (nI kd)), (16, .int (nI bb))] ++ E') [] h' (memW (two a' b) p' V' 0) ∧ fE E' ∧ T' ≤ T + 30 ∧ lHd h' u' p' a' V' n q T' lag' g' tot' L xs) := by
  obtain ⟨hn6, hv, hq8, hv1, h5, h6, hn3⟩ := hd_v H
  obtain ⟨hx, hsp, hL, P, I, hi, hk, hi7, hk6, p1, p2⟩ := H
  obtain ⟨k0, hk0, Lw0⟩ := lw_n (x >>> (7 &&& 31)) (N := 3) (n := 3) rfl (by omega) (by omega)
  obtain ⟨t, ht, e1⟩ : ∃ pu, pu < 30 ∧ ((k0 = 0 ∧ ∀ (h : evH) (m : evM), evX 65 0 [(0, .int y), (1, .int 30)] [] h m = some (some (.int (nI pu)), h, m)) ∨ (¬ k0 = 0 ∧ ∀ (h : evH) (m : evM), evX 65 0 [(0, .int y), (1, .int 6)] [] h m = some (some (.int (nI pu)), h, m))) := by
    by_cases h0 : k0 = 0
    · obtain ⟨k, hk, e⟩ := lw_n y (N := 30) (n := 30) rfl (by omega) (by omega)
      exact ⟨k, by omega, Or.inl ⟨h0, e⟩⟩
    · obtain ⟨k, hk, e⟩ := lw_n y (N := 6) (n := 6) rfl (by omega) (by omega)
      exact ⟨k, by omega, Or.inr ⟨h0, e⟩⟩
  have g12 : ¬ (12 : Int32) ≤ nI kd := nI_ge (b := 12) hkd (by omega)
  have z00 : nI 0 = 0 := rfl
  have st : evX 76 524 ([(0, .ref (evO9 + 2)), (1, .ref 0), (2, .ref 375), (3, .ref 376), (4, .ref 377), (5, .ref 378), (6, .ref 379), (7, .ref 380), (8, .ref 381), (9, .ref 382), (10, .ref 383), (11, .ref 384), (12, .int tn), (13, .int x), (14, .int y), (15, .int (nI kd)), (16, .int (nI bb))] ++ E) [] h (memW (two a b) p V 0) = evX 76 565 [(0, .ref (evO9 + 2)), (1, .ref 0), (2, .ref 375), (3, .ref 376), (4, .ref 377), (5, .ref 378), (6, .ref 379), (7, .ref 380), (8, .ref 381), (9, .ref 382), (10, .ref 383), (11, .ref 384), (12, .int tn), (13, .int x), (14, .int y), (15, .int (nI kd)), (16, .int (nI bb)), (17, .int (nI (t + 1))), (18, .int 0), (19, .int (nI 0))] [] h (memW (two a b) p V 0) := by
    rcases e1 with ⟨k00, e1⟩ | ⟨k00, e1⟩
    · subst k00
      rcases hE with rfl | ⟨c, rfl⟩ | ⟨c, d, rfl⟩ | ⟨c, d, e, rfl⟩ <;>
        simp only [x76_524, x76_526, x76_528, x76_531, x76_532, x76_534, x76_536, x76_538, x76_539, x76_540, x76_543, x76_546, x76_548, x76_551, x76_553, x76_556, x76_557, x76_559, x76_560, x76_562, x76_563, evI_i, evJl_i, evJf_i, evJd_i, evA_r, evA_n, evA_q, evLk_c, evS1_d, evS2_d, evFl_n, evFl_c, evGl_n, evGl_c, evIn_n, evIn_c, evCat_i, evCat_l, evCat_f, evCat_d, evCat_r, evCat_z, evCat_q, evBd_some, evTl_s, evTl_n, va_rf_s, va_rf_n, and_true, true_and, and_false, false_and, if_true, if_false, not_true_eq_false, not_false_eq_true, reduceCtorEq, ↓reduceIte, Nat.reduceAdd, Nat.reduceEqDiff, Nat.reduceLT, Nat.reduceLeDiff, Nat.reduceSub, Nat.zero_ne_one, Nat.one_ne_zero, z00, g12, Lw0, e1, oneA, Option.toList, List.append_nil, List.nil_append, List.cons_append]
    · have kn0 : ¬ nI k0 = 0 := nI_ne0 (by omega) (by omega)
      rcases hE with rfl | ⟨c, rfl⟩ | ⟨c, d, rfl⟩ | ⟨c, d, e, rfl⟩ <;>
        simp only [x76_524, x76_526, x76_528, x76_531, x76_532, x76_534, x76_536, x76_538, x76_539, x76_540, x76_543, x76_546, x76_548, x76_551, x76_553, x76_556, x76_557, x76_559, x76_560, x76_562, x76_563, evI_i, evJl_i, evJf_i, evJd_i, evA_r, evA_n, evA_q, evLk_c, evS1_d, evS2_d, evFl_n, evFl_c, evGl_n, evGl_c, evIn_n, evIn_c, evCat_i, evCat_l, evCat_f, evCat_d, evCat_r, evCat_z, evCat_q, evBd_some, evTl_s, evTl_n, va_rf_s, va_rf_n, and_true, true_and, and_false, false_and, if_true, if_false, not_true_eq_false, not_false_eq_true, reduceCtorEq, ↓reduceIte, Nat.reduceAdd, Nat.reduceEqDiff, Nat.reduceLT, Nat.reduceLeDiff, Nat.reduceSub, Nat.zero_ne_one, Nat.one_ne_zero, z00, kn0, g12, Lw0, e1, oneA, Option.toList, List.append_nil, List.nil_append, List.cons_append]
  have lkr : lkW a a := fun _ _ _ _ => rfl
  obtain ⟨h1, q1, a1, en, e2, G1, K1, Q1, E1⟩ := ps_loop (x := x) (y := y) (tn := tn) (kd := kd) (bb := bb) (p := p) (b := b) (V := V) hx (nn := t + 1) (by omega) hN2 (qR_of P (lI_of I hn1) lkr) (by omega) (t + 1) (Nat.le_refl _)
  have hx1 := xP_gr hx G1
  obtain ⟨ok1, ok2⟩ := ok_p P
  have hr := P.1.1.1.1.2.2.2.2.2.2.1.1
  have W := W_pass (u := two a1 b) (p := q1) (V := V) hx1.1 ok1 (by omega) hr (by omega) hi7 hk6 (by rw [K1.1]; exact p1) (by rw [K1.1]; exact p2) (nI (t + 1))
  have hge : nI (t + 1) ≤ nI (t + 1) := Int32.le_refl _
  have a0 := hx1.1.2.2.1
  have hcl : clPass n (V 0) (nI (t + 1)) = ((passV n (V 0) (t + 1)).2, (passV n (V 0) (t + 1)).1) := by
    have w1 : ¬ (nI (t + 1) < 1 ∨ 99 < nI (t + 1)) := by
      rintro (w | w)
      · exact nI_nlt (b := 1) (by omega) (by omega) w
      · exact nI_nlt (a := 99) (by omega) (by omega) w
    have w2 : ¬ 9999 < V 0 1 4 0 + nI (t + 1) := by
      rw [hr, nI_add]
      exact nI_nlt (a := 9999) (by omega) (by omega)
    unfold clPass
    rw [if_neg w1, if_neg w2, nI_cl _ (by omega)]
  rw [hcl] at W
  simp only [] at W
  have n10 : ¬ (0 : Int32) = 1 := by decide
  rcases Q1.2.1 with h10 | h10
  · obtain ⟨u', T', lag', g', tot', hT', P'⟩ := Q1.2.2 h10
    have eE := E1 h10
    refine ⟨h1, stP q1 hi hk (passV n (V 0) (t + 1)).2, a1, chW V hi (passV n (V 0) (t + 1)).1, wGr_le G1 (by omega), Or.inr ⟨u', [(17, .int (nI (t + 1))), (18, .int en), (19, .int (passV n (V 0) (t + 1)).2)], T', lag', g', tot', st.trans (e2.trans ?_), Or.inr (Or.inr (Or.inr ⟨_, _, _, rfl⟩)), by omega, hx1, G1.2.2.2.2.trans hsp, hL, by rw [chW_0]; exact P', Q1.1.2, st_p hi7 hk6 (by rw [K1.1]; exact p1) (by rw [K1.1]; exact p2) _⟩⟩
    obtain ⟨sa0, sn0, sa1, sn1, sa2, sn2, sa3, sn3, sa4, sn4, sa5, sn5, sa6, sn6, sa7, sn7, sa8, sn8, sa9, sn9⟩ := xP_a hx1
    conv => lhs; rw [x76_565]
    simp only [x76_567, x76_569, x76_594, x76_595, x76_597, x76_600, x76_602, x76_603, x76_605, x76_605s, x76_606, x76_607, x76_610, x76_611_0, x76_611_1, x76_611b, x76_612, x76_614, x76_616, x76_619, x76_620_0, x76_620_1, x76_620b, x76_621, evI_i, evJl_i, evJf_i, evJd_i, evA_r, evA_n, evA_q, evLk_c, evS1_d, evS2_d, evFl_n, evFl_c, evGl_n, evGl_c, evIn_n, evIn_c, evCat_i, evCat_l, evCat_f, evCat_d, evCat_r, evCat_z, evCat_q, evBd_some, evTl_s, evTl_n, va_rf_s, va_rf_n, and_true, true_and, and_false, false_and, if_true, if_false, not_true_eq_false, not_false_eq_true, reduceCtorEq, ↓reduceIte, Nat.reduceAdd, Nat.reduceEqDiff, Nat.reduceLT, Nat.reduceLeDiff, Nat.reduceSub, Nat.zero_ne_one, Nat.one_ne_zero, sa0, sn0, sa1, sn1, sa2, sn2, sa3, sn3, sa4, sn4, sa5, sn5, sa6, sn6, sa7, sn7, sa8, sn8, sa9, sn9, mG0, mS0, mG1, mS1, mG2, mS2, mG3, mS3, mG4, mS4, mG5, mS5, mG6, mS6, mG7, mS7, mG8, mS8, mG9, mS9, lt0, lt1, lt2, lt3, lt4, lt5, lt6, lt7, lt8, lt9, lt10, lc0, lc1, lc2, lc3, lc4, lc5, lc6, lc7, lc8, lc9, lc10, tw0, tw1, tw2, tw3, tw4, tw5, tw6, tw7, tw8, tw9, tm0, tm1, tm2, tm5, tm6, hge, W, a0, h10, n10, eE, Option.toList, List.append_nil, List.nil_append, List.cons_append]
  · refine ⟨h1, stP q1 hi hk (passV n (V 0) (t + 1)).2, a1, chW V hi (passV n (V 0) (t + 1)).1, wGr_le G1 (by omega), Or.inl (st.trans (e2.trans ?_))⟩
    obtain ⟨sa0, sn0, sa1, sn1, sa2, sn2, sa3, sn3, sa4, sn4, sa5, sn5, sa6, sn6, sa7, sn7, sa8, sn8, sa9, sn9⟩ := xP_a hx1
    conv => lhs; rw [x76_565]
    simp only [x76_567, x76_569, x76_594, x76_595, x76_597, x76_600, x76_602, x76_603, x76_605, x76_605s, x76_606, x76_607, x76_610, x76_611_0, x76_611_1, x76_611b, evI_i, evJl_i, evJf_i, evJd_i, evA_r, evA_n, evA_q, evLk_c, evS1_d, evS2_d, evFl_n, evFl_c, evGl_n, evGl_c, evIn_n, evIn_c, evCat_i, evCat_l, evCat_f, evCat_d, evCat_r, evCat_z, evCat_q, evBd_some, evTl_s, evTl_n, va_rf_s, va_rf_n, and_true, true_and, and_false, false_and, if_true, if_false, not_true_eq_false, not_false_eq_true, reduceCtorEq, ↓reduceIte, Nat.reduceAdd, Nat.reduceEqDiff, Nat.reduceLT, Nat.reduceLeDiff, Nat.reduceSub, Nat.zero_ne_one, Nat.one_ne_zero, sa0, sn0, sa1, sn1, sa2, sn2, sa3, sn3, sa4, sn4, sa5, sn5, sa6, sn6, sa7, sn7, sa8, sn8, sa9, sn9, mG0, mS0, mG1, mS1, mG2, mS2, mG3, mS3, mG4, mS4, mG5, mS5, mG6, mS6, mG7, mS7, mG8, mS8, mG9, mS9, lt0, lt1, lt2, lt3, lt4, lt5, lt6, lt7, lt8, lt9, lt10, lc0, lc1, lc2, lc3, lc4, lc5, lc6, lc7, lc8, lc9, lc10, tw0, tw1, tw2, tw3, tw4, tw5, tw6, tw7, tw8, tw9, tm0, tm1, tm2, tm5, tm6, hge, W, a0, h10, Option.toList, List.append_nil, List.nil_append, List.cons_append]
end AE
