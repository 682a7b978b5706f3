/-! the law's loop: would, a cell of the script, the acts -/
section LW
variable {h h' : evH} {p p' a b u : Nat → Nat → Int32} {V : Nat → evVt} {v : evVt} {n q T lag g tot : Nat} {x : Int32}
theorem W_would (hx : xP h) (hN2 : evN h + 22501 < 900000000) (P : pRel (V 0) u a n q T lag g tot) (I : lI a n q) (hT : T + 1001 < 16000) (hs0 : evSp h 0 = (4, evGv 0)) (hs1 : evSp h 1 = (4, evGv 1)) : ∃ (h' : evH) (p' b' : Nat → Nat → Int32) (V' : Nat → evVt), evX 75 0 [(0, .ref 0), (1, .int x), (2, .ref 375), (3, .ref 376), (4, .ref 377), (5, .ref 378), (6, .ref 379), (7, .ref 380), (8, .ref 381), (9, .ref 382), (10, .ref 383), (11, .ref 384)] [] h (memW (two a b) p V 0) = some (some (.int 1), h', memW (two a b') p' V' 0) ∧ wGr 22501 h h' ∧ pK p p' ∧ V' 0 = V 0 := by
  obtain ⟨h1, p1, b1, V1, c1, c2, e1, G1, K1, v1⟩ := wo_1 (x := x) (p := p) (b := b) hx (by omega) P I (by omega)
  have l1 := G1.2.2.1
  obtain ⟨h2, p2, b2, V2, c3, c4, c5, e2, G2, K2, v2⟩ := wo_2 (x := x) (p := p1) (b := b1) (V := V1) (xP_gr hx G1) (by omega) (by rw [v1]; exact P) I hT (by rw [G1.2.2.2.2]; exact hs0) (by rw [G1.2.2.2.2]; exact hs1) c1 c2
  have l2 := G2.2.2.1
  obtain ⟨h3, p3, b3, V3, e3, G3, K3, v3⟩ := wo_3 (x := x) (p := p2) (b := b2) (V := V2) (xP_gr (xP_gr hx G1) G2) (by omega) (by rw [v2, v1]; exact P) I hT c1 c2 c3 c4 c5
  exact ⟨h3, p3, b3, V3, e1.trans (e2.trans e3), wGr_le (wGr_trans (wGr_trans G1 G2) G3) (by omega), pK_trans (pK_trans K1 K2) K3, v3.trans (v2.trans v1)⟩
theorem c_cell {m : evM} {L k : Nat} {xs : Nat → Int32} (hsp : evSp h = evSp0 L xs) (hL : L ≤ 260) (hk : k < 1000) : ∃ z, evX 64 0 [(0, .ref (evO9 + 2)), (1, .int (nI k))] [] h m = some (some (.int z), h, m) := by
  have e2 : evSp h 2 = (L, xs) := by rw [hsp]; rfl
  have e21 : (evSp h 2).1 = L := by rw [e2]
  have h2 : 2 < 3 := by omega
  have hr : Int32.ofNat L = nI L := rfl
  by_cases hc : k < L
  · have h1 : ¬ nI L ≤ nI k := nI_ge hc (by omega)
    have hp : ¬ nI k < 0 := nI_pos (by omega)
    have hcl : (nI k).toNatClampNeg = k := nI_cl _ (by omega)
    refine ⟨(evSp h 2).2 k, ?_⟩
    simp only [x64_0, x64_1, x64_2s, x64_3, x64_6, x64_7, x64_8, x64_8s, x64_9, x64_12, x64_14, x64_15, x64_16, x64_17, x64_18, x64_20, x64_21, x64_2i, x64_2b, x64_2d, x64_2h, x64_2l, evI_i, evJl_i, evJf_i, evJd_i, evA_r, evA_n, evA_q, evLk_c, evS1_d, evS2_d, evFl_n, evFl_c, evGl_n, evGl_c, evIn_n, evIn_c, evCat_i, evCat_l, evCat_f, evCat_d, evCat_r, evCat_z, evCat_q, evBd_some, evTl_s, evTl_n, va_rf_s, va_rf_n, and_true, true_and, and_false, false_and, if_true, if_false, not_true_eq_false, not_false_eq_true, reduceCtorEq, ↓reduceIte, Nat.reduceAdd, Nat.reduceEqDiff, Nat.reduceLT, Nat.reduceLeDiff, Nat.reduceSub, Nat.zero_ne_one, Nat.one_ne_zero, e21, h2, hr, h1, hp, hcl, hc]
  · have h1 : nI L ≤ nI k := nI_le (by omega) (by omega)
    refine ⟨1033861971 * (nI k + 1) + 650699937, ?_⟩
    simp only [x64_0, x64_1, x64_2s, x64_3, x64_6, x64_7, x64_8, x64_8s, x64_9, x64_12, x64_14, x64_15, x64_16, x64_17, x64_18, x64_20, x64_21, x64_2i, x64_2b, x64_2d, x64_2h, x64_2l, evI_i, evJl_i, evJf_i, evJd_i, evA_r, evA_n, evA_q, evLk_c, evS1_d, evS2_d, evFl_n, evFl_c, evGl_n, evGl_c, evIn_n, evIn_c, evCat_i, evCat_l, evCat_f, evCat_d, evCat_r, evCat_z, evCat_q, evBd_some, evTl_s, evTl_n, va_rf_s, va_rf_n, and_true, true_and, and_false, false_and, if_true, if_false, not_true_eq_false, not_false_eq_true, reduceCtorEq, ↓reduceIte, Nat.reduceAdd, Nat.reduceEqDiff, Nat.reduceLT, Nat.reduceLeDiff, Nat.reduceSub, Nat.zero_ne_one, Nat.one_ne_zero, e21, h2, hr, h1]
/-- the rows keep to this, also without bidders -/
def lI0 (w : Nat → Nat → Int32) (n q : Nat) : Prop := n ≤ 3 ∧ q ≤ 8 ∧ w 0 5 = nI n ∧ w 0 6 = nI q ∧ (w 0 7 = -6 ∨ ∃ l, l < q ∧ w 0 7 = nI l) ∧ (∃ len, len ≤ 128 ∧ w 0 9 = nI len) ∧ ∀ l, l < 8 → w 2 (7 * l + 5) = 0 ∨ ∃ b, b < n ∧ w 2 (7 * l + 6) = nI b
theorem lI_of {w : Nat → Nat → Int32} (h : lI0 w n q) (h1 : 1 ≤ n) : lI w n q := ⟨h1, h⟩
theorem lI0_1 {w : Nat → Nat → Int32} {j : Nat} {x : Int32} (h : lI0 w n q) : lI0 (ms w 1 j x) n q := by
  obtain ⟨i2, i3, i4, i5, i6, i7, i8⟩ := h
  refine ⟨i2, i3, by rw [ms_at, if_neg (by omega)]; exact i4, by rw [ms_at, if_neg (by omega)]; exact i5, by rw [ms_at, if_neg (by omega)]; exact i6, by rw [ms_at, if_neg (by omega)]; exact i7, fun l hl => ?_⟩
  rw [ms_at, if_neg (by omega), ms_at, if_neg (by omega)]
  exact i8 l hl
theorem lI0_0 {w : Nat → Nat → Int32} {j : Nat} {x : Int32} (hj : j < 4) (h : lI0 w n q) : lI0 (ms w 0 j x) n q := by
  obtain ⟨i2, i3, i4, i5, i6, i7, i8⟩ := h
  refine ⟨i2, i3, by rw [ms_at, if_neg (by omega)]; exact i4, by rw [ms_at, if_neg (by omega)]; exact i5, by rw [ms_at, if_neg (by omega)]; exact i6, by rw [ms_at, if_neg (by omega)]; exact i7, fun l hl => ?_⟩
  rw [ms_at, if_neg (by omega), ms_at, if_neg (by omega)]
  exact i8 l hl
theorem lI0_nb {w : Nat → Nat → Int32} {x y : Int32} (h : lI0 w n q) (hn : n < 3) : lI0 (nbW w n x y) (n + 1) q := by
  obtain ⟨i2, i3, i4, i5, i6, i7, i8⟩ := h
  have ew : ∀ o j, o ≠ 1 → ¬ (o = 0 ∧ j = 5) → nbW w n x y o j = w o j := fun o j h1 h2 => by
    unfold nbW
    rw [ms_at, if_neg h2, ms_at, if_neg (fun z => h1 z.1), ms_at, if_neg (fun z => h1 z.1)]
  refine ⟨by omega, i3, ?_, by rw [ew _ _ (by omega) (by omega)]; exact i5, by rw [ew _ _ (by omega) (by omega)]; exact i6, by rw [ew _ _ (by omega) (by omega)]; exact i7, fun l hl => ?_⟩
  · unfold nbW
    rw [ms_at, if_pos ⟨rfl, rfl⟩]
  · rw [ew _ _ (by omega) (by omega), ew _ _ (by omega) (by omega)]
    exact (i8 l hl).imp id (fun ⟨b, hb, e⟩ => ⟨b, by omega, e⟩)
theorem lI0_nl {w : Nat → Nat → Int32} {x : Int32} (h : lI0 w n q) (hq : q < 8) (Z : zrW w n q) : lI0 (nlW w q x) n (q + 1) := by
  obtain ⟨i2, i3, i4, i5, i6, i7, i8⟩ := h
  have ew : ∀ o j, o ≠ 2 → ¬ (o = 0 ∧ j = 6) → nlW w q x o j = w o j := fun o j h1 h2 => by
    unfold nlW
    rw [ms_at, if_neg h2, ms_at, if_neg (fun z => h1 z.1), ms_at, if_neg (fun z => h1 z.1), ms_at, if_neg (fun z => h1 z.1), ms_at, if_neg (fun z => h1 z.1)]
  have ew2 : ∀ j, nlW w q x 2 j = if j = 7 * q + 6 then -6 else if j = 7 * q + 3 then -6 else if j = 7 * q + 2 then -6 else if j = 7 * q then x else w 2 j := fun j => by
    unfold nlW
    rw [ms_at, if_neg (by omega), ms_at, ms_at, ms_at, ms_at]
    simp only [true_and]
  refine ⟨i2, by omega, by rw [ew _ _ (by omega) (by omega)]; exact i4, ?_, ?_, by rw [ew _ _ (by omega) (by omega)]; exact i7, fun l hl => ?_⟩
  · unfold nlW
    rw [ms_at, if_pos ⟨rfl, rfl⟩]
  · rw [ew _ _ (by omega) (by omega)]
    exact i6.imp id (fun ⟨l, hl, e⟩ => ⟨l, by omega, e⟩)
  · rw [ew2, if_neg (by omega), if_neg (by omega), if_neg (by omega), if_neg (by omega)]
    by_cases hlq : l = q
    · left
      rw [hlq]
      exact Z.2 _ (by omega) (by omega)
    · rw [ew2, if_neg (by omega), if_neg (by omega), if_neg (by omega), if_neg (by omega)]
      exact i8 l hl
/-- what holds of the world between two acts -/
def lHd (h : evH) (u p a : Nat → Nat → Int32) (V : Nat → evVt) (n q T lag g tot L : Nat) (xs : Nat → Int32) : Prop := xP h ∧ evSp h = evSp0 L xs ∧ L ≤ 260 ∧ pRel (V 0) u a n q T lag g tot ∧ lI0 a n q ∧ ∃ x k, x < 7 ∧ k ≤ 6 ∧ p 0 1 = nI x ∧ p 0 2 = nI k
theorem st_p {p : Nat → Nat → Int32} {x k : Nat} (hx : x < 7) (hk : k ≤ 6) (h1 : p 0 1 = nI x) (h2 : p 0 2 = nI k) (a : Int32) : ∃ x' k', x' < 7 ∧ k' ≤ 6 ∧ stP p x k a 0 1 = nI x' ∧ stP p x k a 0 2 = nI k' := by
  unfold stP
  split
  · exact ⟨x, k, hx, hk, h1, h2⟩
  · refine ⟨stN x, if k + 1 < 6 then k + 1 else 6, ?_, ?_, ?_, ?_⟩
    · unfold stN; split <;> omega
    · split <;> omega
    · rw [ms_at, if_neg (by omega), ms_at, if_pos ⟨rfl, rfl⟩]
    · rw [ms_at, if_pos ⟨rfl, rfl⟩]
theorem chW_0 (V : Nat → evVt) (x : Nat) (v : evVt) : chW V x v 0 = v := by
  unfold chW
  rw [Vs_at, if_pos rfl]
end LW
