/-! the law's world: the class's cells, two times five rows, and what is no longer looked at -/
def two (a b : Nat → Nat → Int32) : Nat → Nat → Int32 := fun o => if o < 5 then a o else b (o - 5)
def rowP (p : Nat → Nat → Int32) (N : Nat) (f : Nat → Int32) : Nat → Nat → Int32 := fun o => if o = N - 382 then f else p o
def pK (p p' : Nat → Nat → Int32) : Prop := p' 0 = p 0 ∧ p' 1 = p 1 ∧ p' 2 = p 2
theorem pK_refl (p : Nat → Nat → Int32) : pK p p := ⟨rfl, rfl, rfl⟩
theorem pK_trans {p p' p'' : Nat → Nat → Int32} (h : pK p p') (k : pK p' p'') : pK p p'' := ⟨k.1.trans h.1, k.2.1.trans h.2.1, k.2.2.trans h.2.2⟩
theorem pK_row (p : Nat → Nat → Int32) {N : Nat} (f : Nat → Int32) (hN : 385 ≤ N) : pK p (rowP p N f) := ⟨if_neg (by omega), if_neg (by omega), if_neg (by omega)⟩
section W2
variable {h h' : evH} {m m' : evM} {a b u p : Nat → Nat → Int32} {V : Nat → evVt} {n q N : Nat} {f : Nat → Int32}
theorem two_a (a b : Nat → Nat → Int32) {o : Nat} (h : o < 5) : two a b o = a o := if_pos h
theorem two_b (a b : Nat → Nat → Int32) (o : Nat) : two a b (5 + o) = b o := by
  unfold two
  rw [if_neg (by omega), Nat.add_sub_cancel_left]
theorem memW_row {o j : Nat} (ho : o < 10) : memW u p V 0 (375 + o) j = u o j := by
  rw [memW_uself]
  exact evGM_get ho
theorem memW_rowS {o j : Nat} {x : Int32} (ho : o < 10) : evSetM (memW u p V 0) (375 + o) j x = memW (ms u o j x) p V 0 := by
  conv => lhs; rw [memW_uself]
  rw [evGM_set ho, memW_u]
theorem mW_a {a' : Nat → Nat → Int32} : evGM (memW (two a b) p V 0) 375 5 a' = memW (two a' b) p V 0 := by
  rw [← memW_u (u := two a b) (u' := two a' b)]
  funext x j
  unfold evGM
  by_cases h1 : 375 ≤ x ∧ x < 375 + 5
  · rw [if_pos h1, if_pos (by omega)]
    unfold two
    rw [if_pos (by omega)]
  · rw [if_neg h1]
    by_cases h2 : 375 ≤ x ∧ x < 375 + 10
    · rw [if_pos h2]
      have e : x = 375 + (x - 375) := by omega
      conv => lhs; rw [e, memW_row (by omega)]
      unfold two
      rw [if_neg (by omega), if_neg (by omega)]
    · rw [if_neg h2]
theorem mW_b {b' : Nat → Nat → Int32} : evGM (memW (two a b) p V 0) 380 5 b' = memW (two a b') p V 0 := by
  rw [← memW_u (u := two a b) (u' := two a b')]
  funext x j
  unfold evGM
  by_cases h1 : 380 ≤ x ∧ x < 380 + 5
  · rw [if_pos h1, if_pos (by omega)]
    unfold two
    rw [if_neg (by omega), show x - 375 - 5 = x - 380 by omega]
  · rw [if_neg h1]
    by_cases h2 : 375 ≤ x ∧ x < 375 + 10
    · rw [if_pos h2]
      have e : x = 375 + (x - 375) := by omega
      conv => lhs; rw [e, memW_row (by omega)]
      unfold two
      rw [if_pos (by omega), if_pos (by omega)]
    · rw [if_neg h2]
theorem memW_385 {j : Nat} (hN : 385 ≤ N) (hN2 : N < 900000000) : memW u p V 0 N j = p (N - 382) j := by
  have e : hix N = none := by
    unfold hix
    rw [if_neg (by omega), if_neg (by omega), if_neg (by omega)]
  unfold memW
  rw [e]
  show (if 375 ≤ N ∧ N < 385 then _ else if N = 83 then _ else if N = 372 then _ else if N = 373 then _ else if 385 ≤ N then _ else _) = _
  rw [if_neg (by omega), if_neg (by omega), if_neg (by omega), if_neg (by omega), if_pos hN]
theorem memW_pext (hm : ∀ x, x < 385 ∨ 900000000 ≤ x ∧ x < 900000082 → m' x = memW u p V 0 x) : ∃ p', m' = memW u p' V 0 ∧ pK p p' := by
  refine ⟨fun o => if o < 3 then p o else m' (o + 382), ?_, if_pos (by omega), if_pos (by omega), if_pos (by omega)⟩
  funext x j
  by_cases h1 : x < 385
  · rw [hm x (Or.inl h1)]
    unfold memW
    cases hq : hix x with
    | some q => rfl
    | none =>
      show (if 375 ≤ x ∧ x < 385 then _ else if x = 83 then _ else if x = 372 then _ else if x = 373 then _ else if 385 ≤ x then _ else _) = (if 375 ≤ x ∧ x < 385 then _ else if x = 83 then _ else if x = 372 then _ else if x = 373 then _ else if 385 ≤ x then _ else _)
      rw [if_neg (show ¬ 385 ≤ x by omega), if_neg (show ¬ 385 ≤ x by omega)]
      rfl
  · cases hq : hix x with
    | some q =>
      have h2 : 900000000 ≤ x ∧ x < 900000082 := by
        unfold hix at hq
        rw [if_neg (by omega), if_neg (by omega)] at hq
        split at hq
        · assumption
        · cases hq
      rw [hm x (Or.inr h2)]
      unfold memW
      rw [hq]
    | none =>
      unfold memW
      rw [hq]
      show m' x j = (if 375 ≤ x ∧ x < 385 then _ else if x = 83 then _ else if x = 372 then _ else if x = 373 then _ else if 385 ≤ x then (if x - 382 < 3 then p (x - 382) else m' (x - 382 + 382)) j else _)
      rw [if_neg (by omega), if_neg (by omega), if_neg (by omega), if_neg (by omega), if_pos (by omega), if_neg (by omega), Nat.sub_add_cancel (by omega)]
theorem itR {j : Nat} (hN : 385 ≤ N) (hN2 : N < 900000000) : memW u (rowP p N f) V 0 N j = f j := by
  rw [memW_385 hN hN2]
  unfold rowP
  rw [if_pos rfl]
theorem memW_out {x j : Nat} (h1 : 385 ≤ x) (h2 : x < 900000000 ∨ 900000082 ≤ x) : memW u p V 0 x j = p (x - 382) j := by
  have e : hix x = none := by
    unfold hix
    rw [if_neg (by omega), if_neg (by omega), if_neg (by omega)]
  unfold memW
  rw [e]
  show (if 375 ≤ x ∧ x < 385 then _ else if x = 83 then _ else if x = 372 then _ else if x = 373 then _ else if 385 ≤ x then _ else _) = _
  rw [if_neg (by omega), if_neg (by omega), if_neg (by omega), if_neg (by omega), if_pos h1]
theorem memW_rowP {x j : Nat} (hN : 385 ≤ N) (hx : x ≠ N) : memW u (rowP p N f) V 0 x j = memW u p V 0 x j := by
  by_cases h1 : x < 385
  · unfold memW
    cases hq : hix x with
    | some q => rfl
    | none =>
      show (if 375 ≤ x ∧ x < 385 then _ else if x = 83 then _ else if x = 372 then _ else if x = 373 then _ else if 385 ≤ x then _ else _) = (if 375 ≤ x ∧ x < 385 then _ else if x = 83 then _ else if x = 372 then _ else if x = 373 then _ else if 385 ≤ x then _ else _)
      rw [if_neg (show ¬ 385 ≤ x by omega), if_neg (show ¬ 385 ≤ x by omega), (pK_row p f hN).1, (pK_row p f hN).2.1, (pK_row p f hN).2.2]
  · by_cases h2 : x < 900000000 ∨ 900000082 ≤ x
    · rw [memW_out (by omega) h2, memW_out (by omega) h2]
      unfold rowP
      rw [if_neg (by omega)]
    · have e : ∃ q, hix x = some q := by
        unfold hix
        rw [if_neg (by omega), if_neg (by omega), if_pos (by omega)]
        exact ⟨_, rfl⟩
      obtain ⟨q, e⟩ := e
      unfold memW
      rw [e]
theorem itRS {j : Nat} {x : Int32} (hN : 385 ≤ N) (hN2 : N < 900000000) : evSetM (memW u (rowP p N f) V 0) N j x = memW u (rowP p N (rwS f j x)) V 0 := by
  funext y i
  unfold evSetM
  by_cases hy : y = N
  · subst hy
    rw [itR hN hN2, itR hN hN2, rwS_at]
    by_cases hi : i = j
    · rw [if_pos ⟨rfl, hi⟩, if_pos hi]
    · rw [if_neg (fun z => hi z.2), if_neg hi]
  · rw [if_neg (fun z => hy z.1), memW_rowP hN hy, memW_rowP hN hy]
theorem itRN (hN : 385 ≤ evN h) (hN2 : evN h < 900000000) : evNewM h (memW u p V 0) = memW u (rowP p (evN h) (fun _ => 0)) V 0 := by
  funext y i
  show (if y = evN h then 0 else memW u p V 0 y i) = _
  by_cases hy : y = evN h
  · rw [if_pos hy, hy, itR hN hN2]
  · rw [if_neg hy, memW_rowP hN hy]
/-- a world that has grown by k cells at most -/
def wGr (k : Nat) (h h' : evH) : Prop := evLe (evN h) h h' ∧ evN h ≤ evN h' ∧ evN h' ≤ evN h + k ∧ evSl h' ≤ evSl h + 6 * k ∧ evSp h' = evSp h
theorem wGr_refl (h : evH) : wGr 0 h h := ⟨evLe_refl _ _, Nat.le_refl _, Nat.le_refl _, Nat.le_refl _, rfl⟩
theorem wGr_trans {j k : Nat} {h'' : evH} (H : wGr j h h') (K : wGr k h' h'') : wGr (j + k) h h'' := by
  obtain ⟨a1, a2, a3, a4, a5⟩ := H
  obtain ⟨b1, b2, b3, b4, b5⟩ := K
  exact ⟨evLe_trans a1 (evLe_less b1 a2), by omega, by omega, by omega, b5.trans a5⟩
theorem wGr_le {j k : Nat} (H : wGr j h h') (hk : j ≤ k) : wGr k h h' := ⟨H.1, H.2.1, by have := H.2.2.1; omega, by have := H.2.2.2.1; omega, H.2.2.2.2⟩
theorem wGr_new {k : Nat} (hk : k ≤ 8) : wGr 2 h (evNew h 9 k) := ⟨evLe_new, by rw [evNew_N]; omega, by rw [evNew_N]; omega, by rw [evNew_Sl]; omega, evNew_Sp _ _ _⟩
/-- the shapes -/
def xP (h : evH) : Prop := xOK h 0 (fun _ => none) ∧ lR h 375 ∧ lR h 380
theorem lR_le {c : Nat} (hl : lR h c) (hle : evLe (evN h) h h') (hN : evN h ≤ evN h') : lR h' c := by
  obtain ⟨ra0, ra1, ra2, ra3, ra4, rn0, rn1, rn2, rn3, rn4⟩ := id hl
  have A : ∀ {x k : Nat}, evAt h x k → evAt h' x k := fun z => evAt_same (hle _ z.1).1 (Nat.lt_of_lt_of_le z.1 hN) z
  exact ⟨A ra0, A ra1, A ra2, A ra3, A ra4, (hle _ ra0.1).2.1.trans rn0, (hle _ ra1.1).2.1.trans rn1, (hle _ ra2.1).2.1.trans rn2, (hle _ ra3.1).2.1.trans rn3, (hle _ ra4.1).2.1.trans rn4⟩
theorem xOK_le (hx : xOK h 0 (fun _ => none)) (hle : evLe (evN h) h h') (hN' : evN h ≤ evN h') : xOK h' 0 (fun _ => none) := by
  have A : ∀ {x k : Nat}, evAt h x k → evAt h' x k := fun z => evAt_same (hle _ z.1).1 (Nat.lt_of_lt_of_le z.1 hN') z
  obtain ⟨hn2, hN, a0, b0, b1, b2, b3, b4, a83, a84, l84, r83, r84, a372, r372, a373, l373, a374, l374, r374, rss, hH⟩ := id hx
  have R : ∀ {x j : Nat} {z : Option Nat}, x < 385 → evR h x j = z → evR h' x j = z := fun hx hz => ((hle _ (Nat.lt_of_lt_of_le hx hN)).2.2 _).trans hz
  have Ln : ∀ {x z : Nat}, x < 385 → evLen h x = z → evLen h' x = z := fun hx hz => (hle _ (Nat.lt_of_lt_of_le hx hN)).2.1.trans hz
  refine ⟨hn2, Nat.le_trans hN hN', A a0, R (by omega) b0, R (by omega) b1, R (by omega) b2, R (by omega) b3, R (by omega) b4, A a83, A a84, Ln (by omega) l84, R (by omega) r83, fun i hi => R (by omega) (r84 i hi), A a372, R (by omega) r372, A a373, Ln (by omega) l373, A a374, Ln (by omega) l374, fun k hk => R (by omega) (r374 k hk), rss, fun i hi => ?_⟩
  have hb41 : hb i + 41 ≤ 385 := by unfold hb; split <;> (try split) <;> omega
  exact evHall_same (fun a h1 h2 => hle a (by omega)) (by omega) (hH i hi)
theorem xP_gr {k : Nat} (hx : xP h) (H : wGr k h h') : xP h' := ⟨xOK_le hx.1 H.1 H.2.1, lR_le hx.2.1 H.1 H.2.1, lR_le hx.2.2 H.1 H.2.1⟩
theorem W_round1 (hx : xP h) (hN2 : evN h < 900000000) (I : lI a n q) : ∃ h' p', evX 71 0 [(0, .ref 375), (1, .ref 376), (2, .ref 377), (3, .ref 378), (4, .ref 379)] [] h (memW (two a b) p V 0) = some (some (.int (evBl (rnB a n q))), h', memW (two (rnW a n q) b) p' V 0) ∧ wGr 1 h h' ∧ pK p p' := by
  have hN := hx.1.2.1
  obtain ⟨h', m', e, H1, H2, H3, H4, H5, H6⟩ := c_round (m := memW (two a b) p V 0) hx.2.1 (by omega) (by unfold evO9; omega) I
  rw [mW_a] at e
  obtain ⟨p', hp, hk⟩ := memW_pext (m' := evGM m' 375 5 (rnW a n q)) (u := two (rnW a n q) b) (p := p) (V := V) (fun x hxx => by
    rw [← mW_a (a := a) (b := b) (p := p) (V := V) (a' := rnW a n q)]
    funext j
    unfold evGM
    by_cases hc : 375 ≤ x ∧ x < 375 + 5
    · rw [if_pos hc, if_pos hc]
    · rw [if_neg hc, if_neg hc, H6 x (by omega)])
  exact ⟨h', p', by rw [← hp]; exact e, ⟨H1, H2, H3, by omega, H5⟩, hk⟩
theorem W_round2 (hx : xP h) (hN2 : evN h < 900000000) (I : lI b n q) : ∃ h' p', evX 71 0 [(0, .ref 380), (1, .ref 381), (2, .ref 382), (3, .ref 383), (4, .ref 384)] [] h (memW (two a b) p V 0) = some (some (.int (evBl (rnB b n q))), h', memW (two a (rnW b n q)) p' V 0) ∧ wGr 1 h h' ∧ pK p p' := by
  have hN := hx.1.2.1
  obtain ⟨h', m', e, H1, H2, H3, H4, H5, H6⟩ := c_round (m := memW (two a b) p V 0) hx.2.2 hN (by unfold evO9; omega) I
  rw [mW_b] at e
  obtain ⟨p', hp, hk⟩ := memW_pext (m' := evGM m' 380 5 (rnW b n q)) (u := two a (rnW b n q)) (p := p) (V := V) (fun x hxx => by
    rw [← mW_b (a := a) (b := b) (p := p) (V := V) (b' := rnW b n q)]
    funext j
    unfold evGM
    by_cases hc : 380 ≤ x ∧ x < 380 + 5
    · rw [if_pos hc, if_pos hc]
    · rw [if_neg hc, if_neg hc, H6 x (by omega)])
  exact ⟨h', p', by rw [← hp]; exact e, ⟨H1, H2, H3, by omega, H5⟩, hk⟩
end W2
/-! whether any lot runs or waits; the rows are copied -/
section WT
variable {h : evH} {m : evM} {c q : Nat} {w u : Nat → Nat → Int32}
def wtB (w : Nat → Nat → Int32) : Nat → Bool
  | 0 => decide (0 ≤ w 0 7)
  | l + 1 => wtB w l || decide (w 2 (7 * l + 1) = 0)
theorem c_waits (hl : lR h c) (hq : q ≤ 8) (h6 : w 0 6 = nI q) : evX 72 0 [(0, .ref c), (1, .ref (c + 2))] [] h (evGM m c 5 w) = some (some (.int (evBl (wtB w q))), h, evGM m c 5 w) := by
  obtain ⟨ra0, ra1, ra2, ra3, ra4, rn0, rn1, rn2, rn3, rn4⟩ := id hl
  have loop := loop_up (G := fun l => evX 72 15 [(0, .ref c), (1, .ref (c + 2)), (2, .int (evBl (wtB w l))), (3, .int (nI l))] [] h (evGM m c 5 w)) (n := q) (fun l hlq => by
    have hlt : ¬ nI q ≤ nI l := nI_ge hlq (by omega)
    obtain ⟨i1_p, i1_c, i1_l⟩ := rdx (k := 7 * l + 1) (n := 56) (by omega) (by decide)
    show _ = evX 72 15 [(0, .ref c), (1, .ref (c + 2)), (2, .int (evBl (wtB w l || decide (w 2 (7 * l + 1) = 0)))), (3, .int (nI (l + 1)))] [] h (evGM m c 5 w)
    have n10 : ¬ (1 : Int32) = 0 := by decide
    cases wtB w l with
    | true =>
      conv => lhs; rw [x72_15]
      simp only [x72_16, x72_17, x72_19, x72_19s, x72_20, x72_23, x72_24, x72_27, x72_28, x72_30, x72_31, x72_32, x72_33, x72_34, x72_34s, x72_35, x72_38, x72_39, x72_42, x72_43, x72_44, x72_47, evI_i, evJl_i, evJf_i, evJd_i, evA_r, evA_n, evA_q, evLk_c, evS1_d, evS2_d, evFl_n, evFl_c, evGl_n, evGl_c, evIn_n, evIn_c, evCat_i, evCat_l, evCat_f, evCat_d, evCat_r, evCat_z, evCat_q, evBd_some, evTl_s, evTl_n, va_rf_s, va_rf_n, and_true, true_and, and_false, false_and, if_true, if_false, not_true_eq_false, not_false_eq_true, reduceCtorEq, ↓reduceIte, Nat.reduceAdd, Nat.reduceEqDiff, Nat.reduceLT, Nat.reduceLeDiff, Nat.reduceSub, Nat.zero_ne_one, Nat.one_ne_zero, ra0, ra1, ra2, ra3, ra4, rn0, rn1, rn2, rn3, rn4, evGM_get, evGM_set, evGM_get0, evGM_set0, lt0, lt1, lt2, lt3, lt4, lt5, lt6, lt7, lt8, lt9, lt10, lc0, lc1, lc2, lc3, lc4, lc5, lc6, lc7, lc8, lc9, lc10, h6, hlt, evBl_t, Bool.true_or, nA1, n10]
    | false =>
      by_cases h0 : w 2 (7 * l + 1) = 0
      · conv => lhs; rw [x72_15]
        simp only [x72_16, x72_17, x72_19, x72_19s, x72_20, x72_23, x72_24, x72_27, x72_28, x72_30, x72_31, x72_32, x72_33, x72_34, x72_34s, x72_35, x72_38, x72_39, x72_42, x72_43, x72_44, x72_47, evI_i, evJl_i, evJf_i, evJd_i, evA_r, evA_n, evA_q, evLk_c, evS1_d, evS2_d, evFl_n, evFl_c, evGl_n, evGl_c, evIn_n, evIn_c, evCat_i, evCat_l, evCat_f, evCat_d, evCat_r, evCat_z, evCat_q, evBd_some, evTl_s, evTl_n, va_rf_s, va_rf_n, and_true, true_and, and_false, false_and, if_true, if_false, not_true_eq_false, not_false_eq_true, reduceCtorEq, ↓reduceIte, Nat.reduceAdd, Nat.reduceEqDiff, Nat.reduceLT, Nat.reduceLeDiff, Nat.reduceSub, Nat.zero_ne_one, Nat.one_ne_zero, ra0, ra1, ra2, ra3, ra4, rn0, rn1, rn2, rn3, rn4, evGM_get, evGM_set, evGM_get0, evGM_set0, lt0, lt1, lt2, lt3, lt4, lt5, lt6, lt7, lt8, lt9, lt10, lc0, lc1, lc2, lc3, lc4, lc5, lc6, lc7, lc8, lc9, lc10, h6, hlt, evBl_f, evBl_t, Bool.false_or, h0, decide_true, mul7, nA1, i1_p, i1_c, i1_l]
      · conv => lhs; rw [x72_15]
        simp only [x72_16, x72_17, x72_19, x72_19s, x72_20, x72_23, x72_24, x72_27, x72_28, x72_30, x72_31, x72_32, x72_33, x72_34, x72_34s, x72_35, x72_38, x72_39, x72_42, x72_43, x72_44, x72_47, evI_i, evJl_i, evJf_i, evJd_i, evA_r, evA_n, evA_q, evLk_c, evS1_d, evS2_d, evFl_n, evFl_c, evGl_n, evGl_c, evIn_n, evIn_c, evCat_i, evCat_l, evCat_f, evCat_d, evCat_r, evCat_z, evCat_q, evBd_some, evTl_s, evTl_n, va_rf_s, va_rf_n, and_true, true_and, and_false, false_and, if_true, if_false, not_true_eq_false, not_false_eq_true, reduceCtorEq, ↓reduceIte, Nat.reduceAdd, Nat.reduceEqDiff, Nat.reduceLT, Nat.reduceLeDiff, Nat.reduceSub, Nat.zero_ne_one, Nat.one_ne_zero, ra0, ra1, ra2, ra3, ra4, rn0, rn1, rn2, rn3, rn4, evGM_get, evGM_set, evGM_get0, evGM_set0, lt0, lt1, lt2, lt3, lt4, lt5, lt6, lt7, lt8, lt9, lt10, lc0, lc1, lc2, lc3, lc4, lc5, lc6, lc7, lc8, lc9, lc10, h6, hlt, evBl_f, Bool.false_or, h0, decide_false, mul7, nA1, i1_p, i1_c, i1_l])
  have start : evX 72 0 [(0, .ref c), (1, .ref (c + 2))] [] h (evGM m c 5 w) = evX 72 15 [(0, .ref c), (1, .ref (c + 2)), (2, .int (evBl (wtB w 0))), (3, .int (nI 0))] [] h (evGM m c 5 w) := by
    show _ = evX 72 15 [(0, .ref c), (1, .ref (c + 2)), (2, .int (evBl (decide (0 ≤ w 0 7)))), (3, .int (nI 0))] [] h (evGM m c 5 w)
    by_cases h7 : 0 ≤ w 0 7
    · have h7' : ¬ w 0 7 < 0 := Int32.not_lt.mpr h7
      simp only [x72_0, x72_1, x72_3, x72_3s, x72_4, x72_7, x72_8, x72_11, x72_12, x72_13, x72_14, evI_i, evJl_i, evJf_i, evJd_i, evA_r, evA_n, evA_q, evLk_c, evS1_d, evS2_d, evFl_n, evFl_c, evGl_n, evGl_c, evIn_n, evIn_c, evCat_i, evCat_l, evCat_f, evCat_d, evCat_r, evCat_z, evCat_q, evBd_some, evTl_s, evTl_n, va_rf_s, va_rf_n, and_true, true_and, and_false, false_and, if_true, if_false, not_true_eq_false, not_false_eq_true, reduceCtorEq, ↓reduceIte, Nat.reduceAdd, Nat.reduceEqDiff, Nat.reduceLT, Nat.reduceLeDiff, Nat.reduceSub, Nat.zero_ne_one, Nat.one_ne_zero, ra0, ra1, ra2, ra3, ra4, rn0, rn1, rn2, rn3, rn4, evGM_get, evGM_set, evGM_get0, evGM_set0, lt0, lt1, lt2, lt3, lt4, lt5, lt6, lt7, lt8, lt9, lt10, lc0, lc1, lc2, lc3, lc4, lc5, lc6, lc7, lc8, lc9, lc10, h7, h7', decide_true, evBl_t]
      rfl
    · have h7' : w 0 7 < 0 := Int32.not_le.mp h7
      simp only [x72_0, x72_1, x72_3, x72_3s, x72_4, x72_7, x72_8, x72_11, x72_12, x72_13, x72_14, evI_i, evJl_i, evJf_i, evJd_i, evA_r, evA_n, evA_q, evLk_c, evS1_d, evS2_d, evFl_n, evFl_c, evGl_n, evGl_c, evIn_n, evIn_c, evCat_i, evCat_l, evCat_f, evCat_d, evCat_r, evCat_z, evCat_q, evBd_some, evTl_s, evTl_n, va_rf_s, va_rf_n, and_true, true_and, and_false, false_and, if_true, if_false, not_true_eq_false, not_false_eq_true, reduceCtorEq, ↓reduceIte, Nat.reduceAdd, Nat.reduceEqDiff, Nat.reduceLT, Nat.reduceLeDiff, Nat.reduceSub, Nat.zero_ne_one, Nat.one_ne_zero, ra0, ra1, ra2, ra3, ra4, rn0, rn1, rn2, rn3, rn4, evGM_get, evGM_set, evGM_get0, evGM_set0, lt0, lt1, lt2, lt3, lt4, lt5, lt6, lt7, lt8, lt9, lt10, lc0, lc1, lc2, lc3, lc4, lc5, lc6, lc7, lc8, lc9, lc10, h7, h7', decide_false, evBl_f]
      rfl
  rw [start]
  refine loop.trans ?_
  have hge : nI q ≤ nI q := Int32.le_refl _
  show evX 72 15 [(0, .ref c), (1, .ref (c + 2)), (2, .int (evBl (wtB w q))), (3, .int (nI q))] [] h (evGM m c 5 w) = _
  simp only [x72_15, x72_16, x72_17, x72_19, x72_19s, x72_20, x72_50, x72_51_0, x72_51_1, x72_51b, evI_i, evJl_i, evJf_i, evJd_i, evA_r, evA_n, evA_q, evLk_c, evS1_d, evS2_d, evFl_n, evFl_c, evGl_n, evGl_c, evIn_n, evIn_c, evCat_i, evCat_l, evCat_f, evCat_d, evCat_r, evCat_z, evCat_q, evBd_some, evTl_s, evTl_n, va_rf_s, va_rf_n, and_true, true_and, and_false, false_and, if_true, if_false, not_true_eq_false, not_false_eq_true, reduceCtorEq, ↓reduceIte, Nat.reduceAdd, Nat.reduceEqDiff, Nat.reduceLT, Nat.reduceLeDiff, Nat.reduceSub, Nat.zero_ne_one, Nat.one_ne_zero, ra0, ra1, ra2, ra3, ra4, rn0, rn1, rn2, rn3, rn4, evGM_get, evGM_set, evGM_get0, evGM_set0, lt0, lt1, lt2, lt3, lt4, lt5, lt6, lt7, lt8, lt9, lt10, lc0, lc1, lc2, lc3, lc4, lc5, lc6, lc7, lc8, lc9, lc10, h6, hge]
/-- the first k places of row o are those of row o - 5 -/
def cpV (u : Nat → Nat → Int32) (o k : Nat) : Nat → Nat → Int32 := fun o' j => if o' = o ∧ j < k then u (o - 5) j else u o' j
theorem cpV_0 (u : Nat → Nat → Int32) (o : Nat) : cpV u o 0 = u := by
  funext o' j
  unfold cpV
  rw [if_neg (by omega)]
theorem cpV_s (u : Nat → Nat → Int32) (o k : Nat) : ms (cpV u o k) o k (u (o - 5) k) = cpV u o (k + 1) := by
  funext o' j
  rw [ms_at]
  unfold cpV
  by_cases h : o' = o ∧ j = k
  · rw [if_pos h, if_pos ⟨h.1, by omega⟩, h.2]
  · rw [if_neg h]
    by_cases h2 : o' = o ∧ j < k
    · rw [if_pos h2, if_pos ⟨h2.1, by omega⟩]
    · rw [if_neg h2, if_neg (by omega)]
theorem cpV_o (u : Nat → Nat → Int32) (o k : Nat) {o' j : Nat} (h : o' ≠ o) : cpV u o k o' j = u o' j := if_neg (fun z => h z.1)
end WT
