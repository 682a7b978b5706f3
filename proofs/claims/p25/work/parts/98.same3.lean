/-! the law's check of what there is answers 1 -/
section SO3
variable {h : evH} {p a b u : Nat → Nat → Int32} {V : Nat → evVt} {n q T lag g tot len : Nat}
theorem bfF_L {r3 r4 : Nat → Int32} {L : evLs} (hL : lsE r3 r4 L len) {R : Nat} (hR : R < 16384) (i : Nat) (hi : i ≤ len) : bfF r3 r4 (nI R) i = nI (bfL L R i) ∧ bfL L R i < 16384 := by
  induction i with
  | zero => exact ⟨rfl, by show 0 < 16384; omega⟩
  | succ i ih =>
    obtain ⟨i1, i2⟩ := ih (by omega)
    obtain ⟨ho, he⟩ := hL i (by omega)
    obtain ⟨o1, o2, o3, o4⟩ := id ho
    rw [bfF_s, bfL_s, i1, he, coi_enc ho, rdo_enc ho]
    have e : (nI (L i).2.1 < nI R ∧ nI (bfL L R i) < nI (L i).1) ↔ ((L i).2.1 < R ∧ bfL L R i < (L i).1) := by
      rw [nI_ltI (by omega) (by omega), nI_ltI (by omega) (by omega)]
    by_cases hc : (L i).2.1 < R ∧ bfL L R i < (L i).1
    · rw [if_pos (e.mpr hc), if_pos hc]; exact ⟨rfl, o2⟩
    · rw [if_neg (fun z => hc (e.mp z)), if_neg hc]; exact ⟨rfl, i2⟩
theorem row8 (hx : xOK h 0 (fun _ => none)) {i : Nat} (hi : i < 160) : memW u p V 0 (hRr 1) i = V 0 8 i 0 := (mW_at (i := 0) (by omega) hx.1 _ _).trans (pv_Rr (b := 1) hi)
theorem k_of (hx : xOK h 0 (fun _ => none)) (hn : n ≤ 6) (hv : V 0 1 0 0 = nI n) : cOf h u V n ∧ ∀ p, evX 53 0 [(0, .ref 0), (1, .int (nI n)), (2, .int 0)] [] h (memW u p V 0) = some (some (.int (-1)), h, memW u p V 0) := by
  refine ⟨fun p k w hk => ?_, fun p => ?_⟩
  · have W := W_of (u := u) (p := p) hx hn hv (nI k) w
    have e : bAt (V 0) 0 (nI k) ≠ none := by rw [bAt_in (b := 0) hk hn hv]; exact fun z => by cases z
    rw [if_neg e, nI_cl k (by omega)] at W
    exact W
  · have W := W_of (u := u) (p := p) hx hn hv (nI n) 0
    have e : bAt (V 0) 0 (nI n) = none := bAt_no hn hv (fun k hk z => by
      have := (nI_eq (by omega) (by omega)).mp z
      omega)
    rw [if_pos e] at W
    exact W
theorem k_lot (hx : xOK h 0 (fun _ => none)) (hq : q ≤ 8) (hv : V 0 1 1 0 = nI q) : cLot h u V q ∧ ∀ p, evX 54 0 [(0, .ref 0), (1, .int (nI q)), (2, .int 0)] [] h (memW u p V 0) = some (some (.int (-1)), h, memW u p V 0) := by
  refine ⟨fun p k w hk => ?_, fun p => ?_⟩
  · have W := W_ofLot (u := u) (p := p) hx hq hv (nI k) w
    have e : lAt (V 0) 0 (nI k) ≠ none := by rw [lAt_in (b := 0) hk hq hv]; exact fun z => by cases z
    rw [if_neg e, nI_cl k (by omega)] at W
    exact W
  · have W := W_ofLot (u := u) (p := p) hx hq hv (nI q) 0
    have e : lAt (V 0) 0 (nI q) = none := lAt_no hq hv (fun k hk z => by
      have := (nI_eq (by omega) (by omega)).mp z
      omega)
    rw [if_pos e] at W
    exact W
theorem k_made (hx : xOK h 0 (fun _ => none)) (P : pRel (V 0) u a n q T lag g tot) (h9 : a 0 9 = nI len) (hlen : len ≤ 128) : cMade h (two a b) V len ∧ ∀ p, evX 55 0 [(0, .ref 0), (1, .int (nI (knN len))), (2, .int 0)] [] h (memW (two a b) p V 0) = some (some (.int (-1)), h, memW (two a b) p V 0) := by
  refine ⟨fun p i ago hi ha => ?_, fun p => ?_⟩
  · obtain ⟨r1, r2⟩ := made_a P h9 hlen ha
    have W := fun j => W_made (u := two a b) (p := p) (V := V) hx (nI ago) (nI j)
    have R : ∀ j, j < 4 → evX 55 0 [(0, .ref 0), (1, .int (nI ago)), (2, .int (nI j))] [] h (memW (two a b) p V 0) = some (some (.int (u 1 (168 + 4 * ago + j))), h, memW (two a b) p V 0) := fun j hj => by
      have W' := W j
      have e0 : ¬ (nI j < 0 ∨ 4 ≤ nI j) := by
        rintro (w | w)
        · exact nI_pos (by omega) w
        · exact nI_ge (b := 4) hj (by omega) w
      rw [if_pos r1, if_neg e0, r2 _ j hj (fun i hi => row8 hx hi)] at W'
      exact W'
    obtain ⟨HF, ⟨hn3, hT⟩, HE, HZ, L, len', ⟨h9', hlen', w10⟩, hL, hO, hN, HR⟩ := P
    obtain rfl : len = len' := (nI_eq (by omega) (by omega)).mp (h9.symm.trans h9')
    obtain ⟨ho, he⟩ := hL i (by omega)
    have hk := knN_le len
    have Nn : ∀ j, j < 4 → u 1 (168 + 4 * ago + j) = noteN L i j := fun j hj => by
      rw [hN.2 ago j (by omega) (by omega) hj, show len - 1 - ago = i by omega]
    have e3 : two a b 3 = a 3 := two_a a b (by omega)
    have e4 : two a b 4 = a 4 := two_a a b (by omega)
    rw [e3, e4, he, who_enc ho, coi_enc ho, rdo_enc ho]
    obtain ⟨f1, f2⟩ := bfF_L hL (R := (L i).2.1) ho.2.2.1 i (by omega)
    rw [f1]
    refine ⟨?_, ?_, ?_, ?_⟩
    · have := R 0 (by omega); rw [Nn 0 (by omega)] at this; exact this
    · have := R 1 (by omega); rw [Nn 1 (by omega)] at this; exact this
    · have := R 2 (by omega); rw [Nn 2 (by omega)] at this; exact this
    · have := R 3 (by omega)
      rw [Nn 3 (by omega)] at this
      have en : noteN L i 3 = if nI (L i).1 ≤ nI (bfL L (L i).2.1 i) then 1 else 0 := by
        unfold noteN
        rw [if_neg (by omega), if_neg (by omega), if_neg (by omega)]
        have hc := ho.2.1
        by_cases hh : (L i).1 ≤ bfL L (L i).2.1 i
        · rw [if_pos hh, if_pos (nI_le hh (by omega))]
        · rw [if_neg hh, if_neg (nI_ge (by omega) (by omega))]
      rw [en] at this
      exact this
  · have W := W_made (u := two a b) (p := p) (V := V) hx (nI (knN len)) 0
    rw [made_no P h9 hlen, if_neg (by decide)] at W
    exact W
theorem k_cnt (hx : xOK h 0 (fun _ => none)) (hn : n ≤ 6) (hv : V 0 1 0 0 = nI n) (hq : q ≤ 8) (hv1 : V 0 1 1 0 = nI q) : cCnt h u V n q := fun p w => W_count (u := u) (p := p) hx hn hv hq hv1 w
theorem W_same (hx : xP h) (hN2 : evN h < 900000000) (hn1 : 1 ≤ n) (P : pRel (V 0) u a n q T lag g tot) (x : Int32) : ∃ h' p', evX 74 0 [(0, .ref 0), (1, .int x), (2, .ref 375), (3, .ref 376), (4, .ref 377), (5, .ref 378), (6, .ref 379)] [] h (memW (two a b) p V 0) = some (some (.int 1), h', memW (two a b) p' V 0) ∧ wGr 2 h h' ∧ pK p p' := by
  have hN := hx.1.2.1
  have hgr : wGr 2 h (evNew h 9 8) := wGr_new (by omega)
  have hx1 := xP_gr hx hgr
  have z1 : ¬ (8 : Int32) < 0 := by decide
  have z2 : (8 : Int32).toNatClampNeg = 8 := by decide
  have hO9 : evN h < evO9 := by unfold evO9; omega
  have hi : evAt (evNew h 9 8) (evN h) 9 := evAt_of (by rw [evNew_N]; omega) hO9 (by rw [evNew_K, if_pos rfl])
  have hi8 : evLen (evNew h 9 8) (evN h) = 8 := by rw [evNew_len, if_pos rfl]
  have st : evX 74 0 [(0, .ref 0), (1, .int x), (2, .ref 375), (3, .ref 376), (4, .ref 377), (5, .ref 378), (6, .ref 379)] [] h (memW (two a b) p V 0) = evX 74 12 ([(0, .ref 0), (1, .int x), (2, .ref 375), (3, .ref 376), (4, .ref 377), (5, .ref 378), (6, .ref 379), (7, .ref (evN h)), (8, .int 0), (9, .int (nI 0))] ++ []) [] (evNew h 9 8) (memW (two a b) (rowP p (evN h) (alF (two a b) 0 0)) V 0) := by
    rw [← alF_0, List.append_nil]
    simp only [x74_0, x74_2, x74_4, x74_4n, x74_4q, x74_6, x74_7, x74_9, x74_10, evI_i, evJl_i, evJf_i, evJd_i, evA_r, evA_n, evA_q, evLk_c, evS1_d, evS2_d, evFl_n, evFl_c, evGl_n, evGl_c, evIn_n, evIn_c, evCat_i, evCat_l, evCat_f, evCat_d, evCat_r, evCat_z, evCat_q, evBd_some, evTl_s, evTl_n, va_rf_s, va_rf_n, and_true, true_and, and_false, false_and, if_true, if_false, not_true_eq_false, not_false_eq_true, reduceCtorEq, ↓reduceIte, Nat.reduceAdd, Nat.reduceEqDiff, Nat.reduceLT, Nat.reduceLeDiff, Nat.reduceSub, Nat.zero_ne_one, Nat.one_ne_zero, z1, z2, hO9, itRN hN hN2]
    rfl
  rw [st]
  generalize evNew h 9 8 = g1 at *
  obtain ⟨HN, HB, HL, hg, ⟨HM, ht⟩, HA⟩ := P.1.1.1
  have hn6 := HN.1
  have hq8 := HN.2.1
  have hv := HN.2.2.2.2.1.1
  have hv1 := HN.2.2.2.2.2.1.1
  have hn3 := P.2.1.1
  have HE := P.2.2.1
  have t0 : two a b 0 = a 0 := two_a a b (by omega)
  have t1 : two a b 1 = a 1 := two_a a b (by omega)
  have t2 : two a b 2 = a 2 := two_a a b (by omega)
  have t3 : two a b 3 = a 3 := two_a a b (by omega)
  have t4 : two a b 4 = a 4 := two_a a b (by omega)
  have h5 : two a b 0 5 = nI n := by rw [t0, HE.1 5 (by omega), HN.2.2.2.2.1.2]
  have h6 : two a b 0 6 = nI q := by rw [t0, HE.1 6 (by omega), HN.2.2.2.2.2.1.2]
  obtain ⟨len, hlen, h9a⟩ : ∃ len, len ≤ 128 ∧ a 0 9 = nI len := by
    obtain ⟨L, len, ⟨q1, q2, -⟩, -⟩ := P.2.2.2.2
    exact ⟨len, q2, q1⟩
  have h9 : two a b 0 9 = nI len := by rw [t0]; exact h9a
  obtain ⟨O1, O2⟩ := k_of (u := two a b) (V := V) hx1.1 hn6 hv
  obtain ⟨L1, L2⟩ := k_lot (u := two a b) (V := V) hx1.1 hq8 hv1
  obtain ⟨M1, M2⟩ := k_made (b := b) hx1.1 P h9a hlen
  have C1 := k_cnt (u := two a b) (V := V) hx1.1 hn6 hv hq8 hv1
  have ebl : ∀ k, blA0 (two a b) k = blA0 a k := fun k => by unfold blA0 lenW; rw [t0, t3, t4]
  have eal : ∀ j k, alR (two a b) j k = alR a j k := fun j k => by
    induction k with
    | zero => rfl
    | succ k ih =>
      show alR (two a b) j k + two a b 1 (8 * k + j) = alR a j k + a 1 (8 * k + j)
      rw [ih, t1]
  have esd : ∀ k, sdR (two a b) k = sdR a k := fun k => by
    induction k with
    | zero => rfl
    | succ k ih =>
      show sdR (two a b) k + (if two a b 2 (7 * k + 1) = 2 then 1 else 0) = sdR a k + (if a 2 (7 * k + 1) = 2 then 1 else 0)
      rw [ih, t2]
  -- the bidders
  have B : ∀ k, k ≤ n → ∃ E : evL, (k = 0 ∧ E = [] ∨ ∃ y z, E = [(10, .int y), (11, .int z)]) ∧ evX 74 12 ([(0, .ref 0), (1, .int x), (2, .ref 375), (3, .ref 376), (4, .ref 377), (5, .ref 378), (6, .ref 379), (7, .ref (evN h)), (8, .int 0), (9, .int (nI 0))] ++ []) [] g1 (memW (two a b) (rowP p (evN h) (alF (two a b) 0 0)) V 0) = evX 74 12 ([(0, .ref 0), (1, .int x), (2, .ref 375), (3, .ref 376), (4, .ref 377), (5, .ref 378), (6, .ref 379), (7, .ref (evN h)), (8, .int 0), (9, .int (nI k))] ++ E) [] g1 (memW (two a b) (rowP p (evN h) (alF (two a b) k 0)) V 0) := by
    intro k
    induction k with
    | zero => intro _; exact ⟨[], Or.inl ⟨rfl, rfl⟩, rfl⟩
    | succ k ih =>
      intro hk
      obtain ⟨E, hE, e⟩ := ih (by omega)
      refine ⟨[(10, .int (blA0 (two a b) k)), (11, .int (nI 7))], Or.inr ⟨_, _, rfl⟩, e.trans ?_⟩
      have S := sm_b1 (x := x) (p := p) (N := evN h) hx1 hi hi8 hN hN2 O1 (show k < n by omega) hn3 h5 hlen h9 (fun j hj => by rw [t1]; exact of_a P (by omega) hj) (by rw [ebl]; exact of_78 P (by omega)) (by rw [t1]; exact of_9 P (by omega)) E (hE.imp (fun z => z.2) id)
      exact S
  obtain ⟨E, hE, e⟩ := B n (Nat.le_refl n)
  obtain ⟨y, z, rfl⟩ : ∃ y z, E = [(10, .int y), (11, .int z)] := hE.resolve_left (fun w => by omega)
  rw [e]
  have hge : nI n ≤ nI n := Int32.le_refl _
  have mid : evX 74 12 ([(0, .ref 0), (1, .int x), (2, .ref 375), (3, .ref 376), (4, .ref 377), (5, .ref 378), (6, .ref 379), (7, .ref (evN h)), (8, .int 0), (9, .int (nI n))] ++ [(10, .int y), (11, .int z)]) [] g1 (memW (two a b) (rowP p (evN h) (alF (two a b) n 0)) V 0) = evX 74 174 [(0, .ref 0), (1, .int x), (2, .ref 375), (3, .ref 376), (4, .ref 377), (5, .ref 378), (6, .ref 379), (7, .ref (evN h)), (8, .int (sdR (two a b) 0)), (9, .int (nI 0)), (10, .int y), (11, .int z)] [] g1 (memW (two a b) (rowP p (evN h) (alF (two a b) n 0)) V 0) := by
    obtain ⟨sa0, sn0, sa1, sn1, sa2, sn2, sa3, sn3, sa4, sn4, sa5, sn5, sa6, sn6, sa7, sn7, sa8, sn8, sa9, sn9⟩ := xP_a hx1
    simp only [List.cons_append, List.nil_append]
    conv => lhs; rw [x74_12]
    simp only [x74_14, x74_15, x74_16, x74_16s, x74_17, x74_171, x74_172, evI_i, evJl_i, evJf_i, evJd_i, evA_r, evA_n, evA_q, evLk_c, evS1_d, evS2_d, evFl_n, evFl_c, evGl_n, evGl_c, evIn_n, evIn_c, evCat_i, evCat_l, evCat_f, evCat_d, evCat_r, evCat_z, evCat_q, evBd_some, evTl_s, evTl_n, va_rf_s, va_rf_n, and_true, true_and, and_false, false_and, if_true, if_false, not_true_eq_false, not_false_eq_true, reduceCtorEq, ↓reduceIte, Nat.reduceAdd, Nat.reduceEqDiff, Nat.reduceLT, Nat.reduceLeDiff, Nat.reduceSub, Nat.zero_ne_one, Nat.one_ne_zero, sa0, sn0, sa1, sn1, sa2, sn2, sa3, sn3, sa4, sn4, sa5, sn5, sa6, sn6, sa7, sn7, sa8, sn8, sa9, sn9, mG0, mS0, mG1, mS1, mG2, mS2, mG3, mS3, mG4, mS4, mG5, mS5, mG6, mS6, mG7, mS7, mG8, mS8, mG9, mS9, lt0, lt1, lt2, lt3, lt4, lt5, lt6, lt7, lt8, lt9, lt10, lc0, lc1, lc2, lc3, lc4, lc5, lc6, lc7, lc8, lc9, lc10, h5, hge]
    rfl
  rw [mid]
  obtain ⟨y', e2⟩ := sm_lots (x := x) (N := evN h) (p := rowP p (evN h) (alF (two a b) n 0)) hx1 L1 hq8 h6 (fun l j hl hj => by rw [t2]; exact ofL_a P hl hj) y z q (Nat.le_refl q)
  rw [e2]
  obtain ⟨y2, z2, E2, hE2, e3⟩ := sm_made (x := x) (N := evN h) (p := rowP p (evN h) (alF (two a b) n 0)) hx1 M1 hlen h9 h6 hq8 y' z
  rw [e3]
  refine ⟨g1, rowP p (evN h) (alF (two a b) n 0), sm_end (p := p) hx1 hi hi8 hN hN2 C1 hn3 hq8 h5 h6 (fun p => ?_) M2 O2 L2 y2 z2 E2 hE2, hgr, pK_row p _ hN⟩
  rw [t0, esd, eal, eal, eal]
  exact cnt_a P p
end SO3
