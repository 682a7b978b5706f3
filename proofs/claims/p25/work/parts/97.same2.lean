/-! the law's check of what there is: lots, bids made, counts -/
section SN
variable {h : evH} {u p : Nat → Nat → Int32} {V : Nat → evVt} {n q N len : Nat} {f : Nat → Int32} {x : Int32}
theorem low_nI (x : Int32) {n : Nat} (h0 : 0 < n) (hn : n < 2 ^ 31) : ∃ k, k < n ∧ lowI x (nI n) = nI k := by
  have e : x &&& 2147483647 = nI (x.toBitVec.toNat % 2 ^ 31) := pk_and x 31 (by decide)
  have hlt : x.toBitVec.toNat % 2 ^ 31 < 2 ^ 31 := Nat.mod_lt _ (by decide)
  refine ⟨x.toBitVec.toNat % 2 ^ 31 % n, Nat.mod_lt _ h0, ?_⟩
  unfold lowI
  rw [e, pk_rem hlt h0 hn]
theorem sm_ln (hx : xP h) (hL : cLot h u V q) {l : Nat} (hl : l < q) (hq : q ≤ 8) (h6 : u 0 6 = nI q) (hF : ∀ j, j < 7 → ofL (V 0) l (nI j) = u 2 (7 * l + j)) (y z : Int32) : evX 74 174 [(0, .ref 0), (1, .int x), (2, .ref 375), (3, .ref 376), (4, .ref 377), (5, .ref 378), (6, .ref 379), (7, .ref N), (8, .int (sdR u l)), (9, .int (nI l)), (10, .int y), (11, .int z)] [] h (memW u p V 0) = evX 74 174 [(0, .ref 0), (1, .int x), (2, .ref 375), (3, .ref 376), (4, .ref 377), (5, .ref 378), (6, .ref 379), (7, .ref N), (8, .int (sdR u (l + 1))), (9, .int (nI (l + 1))), (10, .int (nI 7)), (11, .int z)] [] h (memW u p V 0) := by
  obtain ⟨sa0, sn0, sa1, sn1, sa2, sn2, sa3, sn3, sa4, sn4, sa5, sn5, sa6, sn6, sa7, sn7, sa8, sn8, sa9, sn9⟩ := xP_a hx
  have a0 := hx.1.2.2.1
  have hlt : ¬ nI q ≤ nI l := nI_ge hl (by omega)
  have st : evX 74 174 [(0, .ref 0), (1, .int x), (2, .ref 375), (3, .ref 376), (4, .ref 377), (5, .ref 378), (6, .ref 379), (7, .ref N), (8, .int (sdR u l)), (9, .int (nI l)), (10, .int y), (11, .int z)] [] h (memW u p V 0) = evX 74 210 [(0, .ref 0), (1, .int x), (2, .ref 375), (3, .ref 376), (4, .ref 377), (5, .ref 378), (6, .ref 379), (7, .ref N), (8, .int (sdR u (l + 1))), (9, .int (nI l)), (10, .int (nI 0)), (11, .int z)] [] h (memW u p V 0) := by
    show _ = evX 74 210 [(0, .ref 0), (1, .int x), (2, .ref 375), (3, .ref 376), (4, .ref 377), (5, .ref 378), (6, .ref 379), (7, .ref N), (8, .int (sdR u l + (if u 2 (7 * l + 1) = 2 then 1 else 0))), (9, .int (nI l)), (10, .int (nI 0)), (11, .int z)] [] h (memW u p V 0)
    obtain ⟨i1_p, i1_c, i1_l⟩ := rdx (k := 7 * l + 1) (n := 56) (by omega) (by decide)
    by_cases h2 : u 2 (7 * l + 1) = 2
    · conv => lhs; rw [x74_174]
      simp only [x74_176, x74_177, x74_179, x74_179s, x74_180, x74_183, x74_185, x74_187, x74_189, x74_191, x74_192, x74_193, x74_194, x74_194s, x74_195, x74_196, x74_199, x74_200, x74_203, x74_204, x74_205, x74_207, x74_208, evI_i, evJl_i, evJf_i, evJd_i, evA_r, evA_n, evA_q, evLk_c, evS1_d, evS2_d, evFl_n, evFl_c, evGl_n, evGl_c, evIn_n, evIn_c, evCat_i, evCat_l, evCat_f, evCat_d, evCat_r, evCat_z, evCat_q, evBd_some, evTl_s, evTl_n, va_rf_s, va_rf_n, and_true, true_and, and_false, false_and, if_true, if_false, not_true_eq_false, not_false_eq_true, reduceCtorEq, ↓reduceIte, Nat.reduceAdd, Nat.reduceEqDiff, Nat.reduceLT, Nat.reduceLeDiff, Nat.reduceSub, Nat.zero_ne_one, Nat.one_ne_zero, sa0, sn0, sa1, sn1, sa2, sn2, sa3, sn3, sa4, sn4, sa5, sn5, sa6, sn6, sa7, sn7, sa8, sn8, sa9, sn9, mG0, mS0, mG1, mS1, mG2, mS2, mG3, mS3, mG4, mS4, mG5, mS5, mG6, mS6, mG7, mS7, mG8, mS8, mG9, mS9, lt0, lt1, lt2, lt3, lt4, lt5, lt6, lt7, lt8, lt9, lt10, lc0, lc1, lc2, lc3, lc4, lc5, lc6, lc7, lc8, lc9, lc10, h6, hlt, mul7, nA1, h2, i1_p, i1_c, i1_l]
      rfl
    · conv => lhs; rw [x74_174]
      simp only [x74_176, x74_177, x74_179, x74_179s, x74_180, x74_183, x74_185, x74_187, x74_189, x74_191, x74_192, x74_193, x74_194, x74_194s, x74_195, x74_196, x74_199, x74_200, x74_203, x74_204, x74_205, x74_207, x74_208, evI_i, evJl_i, evJf_i, evJd_i, evA_r, evA_n, evA_q, evLk_c, evS1_d, evS2_d, evFl_n, evFl_c, evGl_n, evGl_c, evIn_n, evIn_c, evCat_i, evCat_l, evCat_f, evCat_d, evCat_r, evCat_z, evCat_q, evBd_some, evTl_s, evTl_n, va_rf_s, va_rf_n, and_true, true_and, and_false, false_and, if_true, if_false, not_true_eq_false, not_false_eq_true, reduceCtorEq, ↓reduceIte, Nat.reduceAdd, Nat.reduceEqDiff, Nat.reduceLT, Nat.reduceLeDiff, Nat.reduceSub, Nat.zero_ne_one, Nat.one_ne_zero, sa0, sn0, sa1, sn1, sa2, sn2, sa3, sn3, sa4, sn4, sa5, sn5, sa6, sn6, sa7, sn7, sa8, sn8, sa9, sn9, mG0, mS0, mG1, mS1, mG2, mS2, mG3, mS3, mG4, mS4, mG5, mS5, mG6, mS6, mG7, mS7, mG8, mS8, mG9, mS9, lt0, lt1, lt2, lt3, lt4, lt5, lt6, lt7, lt8, lt9, lt10, lc0, lc1, lc2, lc3, lc4, lc5, lc6, lc7, lc8, lc9, lc10, h6, hlt, mul7, nA1, h2, i1_p, i1_c, i1_l]
      rfl
  rw [st]
  have loop := loop_up (G := fun k => evX 74 210 [(0, .ref 0), (1, .int x), (2, .ref 375), (3, .ref 376), (4, .ref 377), (5, .ref 378), (6, .ref 379), (7, .ref N), (8, .int (sdR u (l + 1))), (9, .int (nI l)), (10, .int (nI k)), (11, .int z)] [] h (memW u p V 0)) (n := 7) (fun k hk => by
    have hlt7 : ¬ (7 : Int32) ≤ nI k := nI_ge (b := 7) hk (by omega)
    have O := hL p l (nI k) hl
    rw [hF k hk] at O
    obtain ⟨ij_p, ij_c, ij_l⟩ := rdx (k := 7 * l + k) (n := 56) (by omega) (by decide)
    show _ = evX 74 210 [(0, .ref 0), (1, .int x), (2, .ref 375), (3, .ref 376), (4, .ref 377), (5, .ref 378), (6, .ref 379), (7, .ref N), (8, .int (sdR u (l + 1))), (9, .int (nI l)), (10, .int (nI (k + 1))), (11, .int z)] [] h (memW u p V 0)
    conv => lhs; rw [x74_210]
    simp only [x74_212, x74_214, x74_217, x74_218, x74_220, x74_222, x74_225, x74_227, x74_229, x74_231, x74_232, x74_234, x74_235, x74_235s, x74_236, x74_239, x74_240_0, x74_240_1, x74_240b, x74_241, x74_244, evI_i, evJl_i, evJf_i, evJd_i, evA_r, evA_n, evA_q, evLk_c, evS1_d, evS2_d, evFl_n, evFl_c, evGl_n, evGl_c, evIn_n, evIn_c, evCat_i, evCat_l, evCat_f, evCat_d, evCat_r, evCat_z, evCat_q, evBd_some, evTl_s, evTl_n, va_rf_s, va_rf_n, and_true, true_and, and_false, false_and, if_true, if_false, not_true_eq_false, not_false_eq_true, reduceCtorEq, ↓reduceIte, Nat.reduceAdd, Nat.reduceEqDiff, Nat.reduceLT, Nat.reduceLeDiff, Nat.reduceSub, Nat.zero_ne_one, Nat.one_ne_zero, sa0, sn0, sa1, sn1, sa2, sn2, sa3, sn3, sa4, sn4, sa5, sn5, sa6, sn6, sa7, sn7, sa8, sn8, sa9, sn9, mG0, mS0, mG1, mS1, mG2, mS2, mG3, mS3, mG4, mS4, mG5, mS5, mG6, mS6, mG7, mS7, mG8, mS8, mG9, mS9, lt0, lt1, lt2, lt3, lt4, lt5, lt6, lt7, lt8, lt9, lt10, lc0, lc1, lc2, lc3, lc4, lc5, lc6, lc7, lc8, lc9, lc10, hlt7, O, a0, mul7, nI_add, nA1, ij_p, ij_c, ij_l, Option.toList, List.nil_append, List.cons_append])
  refine loop.trans ?_
  have hge : (7 : Int32) ≤ nI 7 := Int32.le_refl _
  show evX 74 210 [(0, .ref 0), (1, .int x), (2, .ref 375), (3, .ref 376), (4, .ref 377), (5, .ref 378), (6, .ref 379), (7, .ref N), (8, .int (sdR u (l + 1))), (9, .int (nI l)), (10, .int (nI 7)), (11, .int z)] [] h (memW u p V 0) = _
  conv => lhs; rw [x74_210]
  simp only [x74_212, x74_214, x74_247, x74_250, evI_i, evJl_i, evJf_i, evJd_i, evA_r, evA_n, evA_q, evLk_c, evS1_d, evS2_d, evFl_n, evFl_c, evGl_n, evGl_c, evIn_n, evIn_c, evCat_i, evCat_l, evCat_f, evCat_d, evCat_r, evCat_z, evCat_q, evBd_some, evTl_s, evTl_n, va_rf_s, va_rf_n, and_true, true_and, and_false, false_and, if_true, if_false, not_true_eq_false, not_false_eq_true, reduceCtorEq, ↓reduceIte, Nat.reduceAdd, Nat.reduceEqDiff, Nat.reduceLT, Nat.reduceLeDiff, Nat.reduceSub, Nat.zero_ne_one, Nat.one_ne_zero, hge, nA1]
theorem sm_lots (hx : xP h) (hL : cLot h u V q) (hq : q ≤ 8) (h6 : u 0 6 = nI q) (hF : ∀ l j, l < q → j < 7 → ofL (V 0) l (nI j) = u 2 (7 * l + j)) (y z : Int32) (l : Nat) (hl : l ≤ q) : ∃ y', evX 74 174 [(0, .ref 0), (1, .int x), (2, .ref 375), (3, .ref 376), (4, .ref 377), (5, .ref 378), (6, .ref 379), (7, .ref N), (8, .int (sdR u 0)), (9, .int (nI 0)), (10, .int y), (11, .int z)] [] h (memW u p V 0) = evX 74 174 [(0, .ref 0), (1, .int x), (2, .ref 375), (3, .ref 376), (4, .ref 377), (5, .ref 378), (6, .ref 379), (7, .ref N), (8, .int (sdR u l)), (9, .int (nI l)), (10, .int y'), (11, .int z)] [] h (memW u p V 0) := by
  induction l with
  | zero => exact ⟨y, rfl⟩
  | succ l ih =>
    obtain ⟨y', e⟩ := ih (by omega)
    exact ⟨_, e.trans (sm_ln hx hL (by omega) hq h6 (fun j hj => hF l j (by omega) hj) y' z)⟩
/-- the most coins bid in rounds ahead of R -/
def bfF (r3 r4 : Nat → Int32) (R : Int32) : Nat → Int32
  | 0 => 0
  | k + 1 => if rdo (bidE r3 r4 k) < R ∧ bfF r3 r4 R k < coi (bidE r3 r4 k) then coi (bidE r3 r4 k) else bfF r3 r4 R k
theorem bfF_s (r3 r4 : Nat → Int32) (R : Int32) (k : Nat) : bfF r3 r4 R (k + 1) = if rdo (bidE r3 r4 k) < R ∧ bfF r3 r4 R k < coi (bidE r3 r4 k) then coi (bidE r3 r4 k) else bfF r3 r4 R k := rfl
def lvBf (N : Nat) (x sd kn ag v bf : Int32) (r3 r4 : Nat → Int32) (k : Nat) : evL := match k with
  | 0 => [(0, .ref 0), (1, .int x), (2, .ref 375), (3, .ref 376), (4, .ref 377), (5, .ref 378), (6, .ref 379), (7, .ref N), (8, .int sd), (9, .int kn), (10, .int ag), (11, .int v), (12, .int bf), (13, .int (nI 0))]
  | k + 1 => [(0, .ref 0), (1, .int x), (2, .ref 375), (3, .ref 376), (4, .ref 377), (5, .ref 378), (6, .ref 379), (7, .ref N), (8, .int sd), (9, .int kn), (10, .int ag), (11, .int v), (12, .int bf), (13, .int (nI (k + 1))), (14, .int (bidE r3 r4 k))]
theorem sm_bf (hx : xP h) {i ago : Nat} (hi : i + 1 + ago = len) (hlen : len ≤ 128) (h9 : u 0 9 = nI len) (sd kn v : Int32) : ∃ E : evL, (E = [] ∨ ∃ z, E = [(14, .int z)]) ∧ evX 74 310 [(0, .ref 0), (1, .int x), (2, .ref 375), (3, .ref 376), (4, .ref 377), (5, .ref 378), (6, .ref 379), (7, .ref N), (8, .int sd), (9, .int kn), (10, .int (nI ago)), (11, .int v), (12, .int 0), (13, .int (nI 0))] [] h (memW u p V 0) = evX 74 376 ([(0, .ref 0), (1, .int x), (2, .ref 375), (3, .ref 376), (4, .ref 377), (5, .ref 378), (6, .ref 379), (7, .ref N), (8, .int sd), (9, .int kn), (10, .int (nI ago)), (11, .int v), (12, .int (bfF (u 3) (u 4) (rdo v) i)), (13, .int (nI i))] ++ E) [] h (memW u p V 0) := by
  obtain ⟨sa0, sn0, sa1, sn1, sa2, sn2, sa3, sn3, sa4, sn4, sa5, sn5, sa6, sn6, sa7, sn7, sa8, sn8, sa9, sn9⟩ := xP_a hx
  have ei : nI len - 1 - nI ago = nI i := by
    rw [show nI len - 1 = nI (len - 1) from pk_sub (b := 1) (by omega), pk_sub (by omega)]
    congr 1
    omega
  have loop := loop_up (G := fun k => evX 74 310 (lvBf N x sd kn (nI ago) v (bfF (u 3) (u 4) (rdo v) k) (u 3) (u 4) k) [] h (memW u p V 0)) (n := i) (fun k hk => by
    have hlt : ¬ nI i ≤ nI k := nI_ge hk (by omega)
    have B := W_lbid (p := p) (V := V) (u := u) hx (k := k) (by omega)
    show _ = evX 74 310 [(0, .ref 0), (1, .int x), (2, .ref 375), (3, .ref 376), (4, .ref 377), (5, .ref 378), (6, .ref 379), (7, .ref N), (8, .int sd), (9, .int kn), (10, .int (nI ago)), (11, .int v), (12, .int (bfF (u 3) (u 4) (rdo v) (k + 1))), (13, .int (nI (k + 1))), (14, .int (bidE (u 3) (u 4) k))] [] h (memW u p V 0)
    rw [bfF_s]
    generalize bfF (u 3) (u 4) (rdo v) k = acc
    generalize bidE (u 3) (u 4) k = z at B
    by_cases h1 : rdo z < rdo v
    · have h1' : ¬ rdo v ≤ rdo z := Int32.not_le.mpr h1
      by_cases h2 : acc < coi z
      · have h2' : ¬ coi z ≤ acc := Int32.not_le.mpr h2
        cases k <;>
          (conv => lhs; unfold lvBf; rw [x74_310]) <;>
          simp only [x74_312, x74_313, x74_315, x74_315s, x74_316, x74_317, x74_318, x74_320, x74_321, x74_324, x74_326, x74_328, x74_330, x74_333, x74_335, x74_337, x74_340, x74_342, x74_345, x74_348, x74_350, x74_353, x74_355, x74_358, x74_360, x74_363, x74_366, x74_368, x74_370, x74_373, evI_i, evJl_i, evJf_i, evJd_i, evA_r, evA_n, evA_q, evLk_c, evS1_d, evS2_d, evFl_n, evFl_c, evGl_n, evGl_c, evIn_n, evIn_c, evCat_i, evCat_l, evCat_f, evCat_d, evCat_r, evCat_z, evCat_q, evBd_some, evTl_s, evTl_n, va_rf_s, va_rf_n, and_true, true_and, and_false, false_and, if_true, if_false, not_true_eq_false, not_false_eq_true, reduceCtorEq, ↓reduceIte, Nat.reduceAdd, Nat.reduceEqDiff, Nat.reduceLT, Nat.reduceLeDiff, Nat.reduceSub, Nat.zero_ne_one, Nat.one_ne_zero, sa0, sn0, sa1, sn1, sa2, sn2, sa3, sn3, sa4, sn4, sa5, sn5, sa6, sn6, sa7, sn7, sa8, sn8, sa9, sn9, mG0, mS0, mG1, mS1, mG2, mS2, mG3, mS3, mG4, mS4, mG5, mS5, mG6, mS6, mG7, mS7, mG8, mS8, mG9, mS9, lt0, lt1, lt2, lt3, lt4, lt5, lt6, lt7, lt8, lt9, lt10, lc0, lc1, lc2, lc3, lc4, lc5, lc6, lc7, lc8, lc9, lc10, h9, ei, hlt, B, h1, h1', h2, h2', c_coins, c_roundOf, nA1, Option.toList, List.nil_append, List.cons_append]
      · have h2' : coi z ≤ acc := Int32.not_lt.mp h2
        cases k <;>
          (conv => lhs; unfold lvBf; rw [x74_310]) <;>
          simp only [x74_312, x74_313, x74_315, x74_315s, x74_316, x74_317, x74_318, x74_320, x74_321, x74_324, x74_326, x74_328, x74_330, x74_333, x74_335, x74_337, x74_340, x74_342, x74_345, x74_348, x74_350, x74_353, x74_355, x74_358, x74_360, x74_363, x74_366, x74_368, x74_370, x74_373, evI_i, evJl_i, evJf_i, evJd_i, evA_r, evA_n, evA_q, evLk_c, evS1_d, evS2_d, evFl_n, evFl_c, evGl_n, evGl_c, evIn_n, evIn_c, evCat_i, evCat_l, evCat_f, evCat_d, evCat_r, evCat_z, evCat_q, evBd_some, evTl_s, evTl_n, va_rf_s, va_rf_n, and_true, true_and, and_false, false_and, if_true, if_false, not_true_eq_false, not_false_eq_true, reduceCtorEq, ↓reduceIte, Nat.reduceAdd, Nat.reduceEqDiff, Nat.reduceLT, Nat.reduceLeDiff, Nat.reduceSub, Nat.zero_ne_one, Nat.one_ne_zero, sa0, sn0, sa1, sn1, sa2, sn2, sa3, sn3, sa4, sn4, sa5, sn5, sa6, sn6, sa7, sn7, sa8, sn8, sa9, sn9, mG0, mS0, mG1, mS1, mG2, mS2, mG3, mS3, mG4, mS4, mG5, mS5, mG6, mS6, mG7, mS7, mG8, mS8, mG9, mS9, lt0, lt1, lt2, lt3, lt4, lt5, lt6, lt7, lt8, lt9, lt10, lc0, lc1, lc2, lc3, lc4, lc5, lc6, lc7, lc8, lc9, lc10, h9, ei, hlt, B, h1, h1', h2, h2', c_coins, c_roundOf, nA1, Option.toList, List.nil_append, List.cons_append]
    · have h1' : rdo v ≤ rdo z := Int32.not_lt.mp h1
      cases k <;>
        (conv => lhs; unfold lvBf; rw [x74_310]) <;>
        simp only [x74_312, x74_313, x74_315, x74_315s, x74_316, x74_317, x74_318, x74_320, x74_321, x74_324, x74_326, x74_328, x74_330, x74_333, x74_335, x74_337, x74_340, x74_342, x74_345, x74_348, x74_350, x74_353, x74_355, x74_358, x74_360, x74_363, x74_366, x74_368, x74_370, x74_373, evI_i, evJl_i, evJf_i, evJd_i, evA_r, evA_n, evA_q, evLk_c, evS1_d, evS2_d, evFl_n, evFl_c, evGl_n, evGl_c, evIn_n, evIn_c, evCat_i, evCat_l, evCat_f, evCat_d, evCat_r, evCat_z, evCat_q, evBd_some, evTl_s, evTl_n, va_rf_s, va_rf_n, and_true, true_and, and_false, false_and, if_true, if_false, not_true_eq_false, not_false_eq_true, reduceCtorEq, ↓reduceIte, Nat.reduceAdd, Nat.reduceEqDiff, Nat.reduceLT, Nat.reduceLeDiff, Nat.reduceSub, Nat.zero_ne_one, Nat.one_ne_zero, sa0, sn0, sa1, sn1, sa2, sn2, sa3, sn3, sa4, sn4, sa5, sn5, sa6, sn6, sa7, sn7, sa8, sn8, sa9, sn9, mG0, mS0, mG1, mS1, mG2, mS2, mG3, mS3, mG4, mS4, mG5, mS5, mG6, mS6, mG7, mS7, mG8, mS8, mG9, mS9, lt0, lt1, lt2, lt3, lt4, lt5, lt6, lt7, lt8, lt9, lt10, lc0, lc1, lc2, lc3, lc4, lc5, lc6, lc7, lc8, lc9, lc10, h9, ei, hlt, B, h1, h1', c_coins, c_roundOf, nA1, Option.toList, List.nil_append, List.cons_append])
  have hge : nI i ≤ nI i := Int32.le_refl _
  have fin : ∃ E : evL, (E = [] ∨ ∃ z, E = [(14, .int z)]) ∧ evX 74 310 (lvBf N x sd kn (nI ago) v (bfF (u 3) (u 4) (rdo v) i) (u 3) (u 4) i) [] h (memW u p V 0) = evX 74 376 ([(0, .ref 0), (1, .int x), (2, .ref 375), (3, .ref 376), (4, .ref 377), (5, .ref 378), (6, .ref 379), (7, .ref N), (8, .int sd), (9, .int kn), (10, .int (nI ago)), (11, .int v), (12, .int (bfF (u 3) (u 4) (rdo v) i)), (13, .int (nI i))] ++ E) [] h (memW u p V 0) := by
    cases i with
    | zero =>
      refine ⟨[], Or.inl rfl, ?_⟩
      unfold lvBf
      conv => lhs; rw [x74_310]
      simp only [x74_312, x74_313, x74_315, x74_315s, x74_316, x74_317, x74_318, x74_320, x74_321, evI_i, evJl_i, evJf_i, evJd_i, evA_r, evA_n, evA_q, evLk_c, evS1_d, evS2_d, evFl_n, evFl_c, evGl_n, evGl_c, evIn_n, evIn_c, evCat_i, evCat_l, evCat_f, evCat_d, evCat_r, evCat_z, evCat_q, evBd_some, evTl_s, evTl_n, va_rf_s, va_rf_n, and_true, true_and, and_false, false_and, if_true, if_false, not_true_eq_false, not_false_eq_true, reduceCtorEq, ↓reduceIte, Nat.reduceAdd, Nat.reduceEqDiff, Nat.reduceLT, Nat.reduceLeDiff, Nat.reduceSub, Nat.zero_ne_one, Nat.one_ne_zero, sa0, sn0, sa1, sn1, sa2, sn2, sa3, sn3, sa4, sn4, sa5, sn5, sa6, sn6, sa7, sn7, sa8, sn8, sa9, sn9, mG0, mS0, mG1, mS1, mG2, mS2, mG3, mS3, mG4, mS4, mG5, mS5, mG6, mS6, mG7, mS7, mG8, mS8, mG9, mS9, lt0, lt1, lt2, lt3, lt4, lt5, lt6, lt7, lt8, lt9, lt10, lc0, lc1, lc2, lc3, lc4, lc5, lc6, lc7, lc8, lc9, lc10, h9, ei, hge, List.append_nil]
    | succ k =>
      refine ⟨[(14, .int (bidE (u 3) (u 4) k))], Or.inr ⟨_, rfl⟩, ?_⟩
      unfold lvBf
      conv => lhs; rw [x74_310]
      simp only [x74_312, x74_313, x74_315, x74_315s, x74_316, x74_317, x74_318, x74_320, x74_321, evI_i, evJl_i, evJf_i, evJd_i, evA_r, evA_n, evA_q, evLk_c, evS1_d, evS2_d, evFl_n, evFl_c, evGl_n, evGl_c, evIn_n, evIn_c, evCat_i, evCat_l, evCat_f, evCat_d, evCat_r, evCat_z, evCat_q, evBd_some, evTl_s, evTl_n, va_rf_s, va_rf_n, and_true, true_and, and_false, false_and, if_true, if_false, not_true_eq_false, not_false_eq_true, reduceCtorEq, ↓reduceIte, Nat.reduceAdd, Nat.reduceEqDiff, Nat.reduceLT, Nat.reduceLeDiff, Nat.reduceSub, Nat.zero_ne_one, Nat.one_ne_zero, sa0, sn0, sa1, sn1, sa2, sn2, sa3, sn3, sa4, sn4, sa5, sn5, sa6, sn6, sa7, sn7, sa8, sn8, sa9, sn9, mG0, mS0, mG1, mS1, mG2, mS2, mG3, mS3, mG4, mS4, mG5, mS5, mG6, mS6, mG7, mS7, mG8, mS8, mG9, mS9, lt0, lt1, lt2, lt3, lt4, lt5, lt6, lt7, lt8, lt9, lt10, lc0, lc1, lc2, lc3, lc4, lc5, lc6, lc7, lc8, lc9, lc10, h9, ei, hge, List.nil_append, List.cons_append]
  obtain ⟨E, hE, e⟩ := fin
  exact ⟨E, hE, loop.trans e⟩
/-- what the class tells of a bid made -/
def cMade (h : evH) (u : Nat → Nat → Int32) (V : Nat → evVt) (len : Nat) : Prop := ∀ (p : Nat → Nat → Int32) (i ago : Nat), i + 1 + ago = len → ago < knN len → evX 55 0 [(0, .ref 0), (1, .int (nI ago)), (2, .int 0)] [] h (memW u p V 0) = some (some (.int (bidE (u 3) (u 4) i &&& 7)), h, memW u p V 0) ∧ evX 55 0 [(0, .ref 0), (1, .int (nI ago)), (2, .int 1)] [] h (memW u p V 0) = some (some (.int (coi (bidE (u 3) (u 4) i))), h, memW u p V 0) ∧ evX 55 0 [(0, .ref 0), (1, .int (nI ago)), (2, .int 2)] [] h (memW u p V 0) = some (some (.int (rdo (bidE (u 3) (u 4) i))), h, memW u p V 0) ∧ evX 55 0 [(0, .ref 0), (1, .int (nI ago)), (2, .int 3)] [] h (memW u p V 0) = some (some (.int (if coi (bidE (u 3) (u 4) i) ≤ bfF (u 3) (u 4) (rdo (bidE (u 3) (u 4) i)) i then 1 else 0)), h, memW u p V 0)
theorem sm_made (hx : xP h) (hM : cMade h u V len) (hlen : len ≤ 128) (h9 : u 0 9 = nI len) (h6 : u 0 6 = nI q) (hq : q ≤ 8) (y z : Int32) : ∃ (y' z' : Int32) (E : evL), (E = [] ∨ (∃ a b, E = [(12, .int a), (13, .int b)]) ∨ ∃ a b c, E = [(12, .int a), (13, .int b), (14, .int c)]) ∧ evX 74 174 [(0, .ref 0), (1, .int x), (2, .ref 375), (3, .ref 376), (4, .ref 377), (5, .ref 378), (6, .ref 379), (7, .ref N), (8, .int (sdR u q)), (9, .int (nI q)), (10, .int y), (11, .int z)] [] h (memW u p V 0) = evX 74 448 ([(0, .ref 0), (1, .int x), (2, .ref 375), (3, .ref 376), (4, .ref 377), (5, .ref 378), (6, .ref 379), (7, .ref N), (8, .int (sdR u q)), (9, .int (nI (knN len))), (10, .int y'), (11, .int z')] ++ E) [] h (memW u p V 0) := by
  obtain ⟨sa0, sn0, sa1, sn1, sa2, sn2, sa3, sn3, sa4, sn4, sa5, sn5, sa6, sn6, sa7, sn7, sa8, sn8, sa9, sn9⟩ := xP_a hx
  have a0 := hx.1.2.2.1
  have hge : nI q ≤ nI q := Int32.le_refl _
  have hk := knN_le len
  have st : evX 74 174 [(0, .ref 0), (1, .int x), (2, .ref 375), (3, .ref 376), (4, .ref 377), (5, .ref 378), (6, .ref 379), (7, .ref N), (8, .int (sdR u q)), (9, .int (nI q)), (10, .int y), (11, .int z)] [] h (memW u p V 0) = evX 74 273 [(0, .ref 0), (1, .int x), (2, .ref 375), (3, .ref 376), (4, .ref 377), (5, .ref 378), (6, .ref 379), (7, .ref N), (8, .int (sdR u q)), (9, .int (nI (knN len))), (10, .int y), (11, .int z)] [] h (memW u p V 0) := by
    unfold knN
    by_cases h40 : len < 40
    · have g : ¬ (40 : Int32) ≤ nI len := nI_ge (b := 40) h40 (by omega)
      rw [if_pos h40]
      conv => lhs; rw [x74_174]
      simp only [x74_176, x74_177, x74_179, x74_179s, x74_180, x74_253, x74_254, x74_256, x74_256s, x74_257, x74_259, x74_262, x74_263, x74_265, x74_265s, x74_266, x74_269, x74_271, evI_i, evJl_i, evJf_i, evJd_i, evA_r, evA_n, evA_q, evLk_c, evS1_d, evS2_d, evFl_n, evFl_c, evGl_n, evGl_c, evIn_n, evIn_c, evCat_i, evCat_l, evCat_f, evCat_d, evCat_r, evCat_z, evCat_q, evBd_some, evTl_s, evTl_n, va_rf_s, va_rf_n, and_true, true_and, and_false, false_and, if_true, if_false, not_true_eq_false, not_false_eq_true, reduceCtorEq, ↓reduceIte, Nat.reduceAdd, Nat.reduceEqDiff, Nat.reduceLT, Nat.reduceLeDiff, Nat.reduceSub, Nat.zero_ne_one, Nat.one_ne_zero, sa0, sn0, sa1, sn1, sa2, sn2, sa3, sn3, sa4, sn4, sa5, sn5, sa6, sn6, sa7, sn7, sa8, sn8, sa9, sn9, mG0, mS0, mG1, mS1, mG2, mS2, mG3, mS3, mG4, mS4, mG5, mS5, mG6, mS6, mG7, mS7, mG8, mS8, mG9, mS9, lt0, lt1, lt2, lt3, lt4, lt5, lt6, lt7, lt8, lt9, lt10, lc0, lc1, lc2, lc3, lc4, lc5, lc6, lc7, lc8, lc9, lc10, h6, hge, h9, g]
    · have g : (40 : Int32) ≤ nI len := nI_le (a := 40) (by omega) (by omega)
      rw [if_neg h40]
      conv => lhs; rw [x74_174]
      simp only [x74_176, x74_177, x74_179, x74_179s, x74_180, x74_253, x74_254, x74_256, x74_256s, x74_257, x74_259, x74_262, x74_263, x74_265, x74_265s, x74_266, x74_269, x74_271, evI_i, evJl_i, evJf_i, evJd_i, evA_r, evA_n, evA_q, evLk_c, evS1_d, evS2_d, evFl_n, evFl_c, evGl_n, evGl_c, evIn_n, evIn_c, evCat_i, evCat_l, evCat_f, evCat_d, evCat_r, evCat_z, evCat_q, evBd_some, evTl_s, evTl_n, va_rf_s, va_rf_n, and_true, true_and, and_false, false_and, if_true, if_false, not_true_eq_false, not_false_eq_true, reduceCtorEq, ↓reduceIte, Nat.reduceAdd, Nat.reduceEqDiff, Nat.reduceLT, Nat.reduceLeDiff, Nat.reduceSub, Nat.zero_ne_one, Nat.one_ne_zero, sa0, sn0, sa1, sn1, sa2, sn2, sa3, sn3, sa4, sn4, sa5, sn5, sa6, sn6, sa7, sn7, sa8, sn8, sa9, sn9, mG0, mS0, mG1, mS1, mG2, mS2, mG3, mS3, mG4, mS4, mG5, mS5, mG6, mS6, mG7, mS7, mG8, mS8, mG9, mS9, lt0, lt1, lt2, lt3, lt4, lt5, lt6, lt7, lt8, lt9, lt10, lc0, lc1, lc2, lc3, lc4, lc5, lc6, lc7, lc8, lc9, lc10, h6, hge, h9, g]
      rfl
  rw [st]
  by_cases h0 : knN len = 0
  · refine ⟨y, z, [], Or.inl rfl, ?_⟩
    have g : nI 0 ≤ 0 := Int32.le_refl _
    rw [h0, List.append_nil]
    simp only [x74_273, x74_275, evI_i, evJl_i, evJf_i, evJd_i, evA_r, evA_n, evA_q, evLk_c, evS1_d, evS2_d, evFl_n, evFl_c, evGl_n, evGl_c, evIn_n, evIn_c, evCat_i, evCat_l, evCat_f, evCat_d, evCat_r, evCat_z, evCat_q, evBd_some, evTl_s, evTl_n, va_rf_s, va_rf_n, and_true, true_and, and_false, false_and, if_true, if_false, not_true_eq_false, not_false_eq_true, reduceCtorEq, ↓reduceIte, Nat.reduceAdd, Nat.reduceEqDiff, Nat.reduceLT, Nat.reduceLeDiff, Nat.reduceSub, Nat.zero_ne_one, Nat.one_ne_zero, g]
  · have g : ¬ nI (knN len) ≤ 0 := nI_nle (by omega) (by omega)
    obtain ⟨ago, ha, el⟩ := low_nI x (n := knN len) (by omega) (by omega)
    have hne : ¬ nI (knN len) = 0 := nI_ne0 (by omega) (by omega)
    have Lw := fun m => c_low (h := h) (m := m) x (nI (knN len)) hne
    rw [el] at Lw
    obtain ⟨i, hi⟩ : ∃ i, i + 1 + ago = len := ⟨len - 1 - ago, by omega⟩
    have ei : nI len - 1 - nI ago = nI i := by
      rw [show nI len - 1 = nI (len - 1) from pk_sub (b := 1) (by omega), pk_sub (by omega)]
      congr 1
      omega
    have B := W_lbid (p := p) (V := V) (u := u) hx (k := i) (by omega)
    have st2 : evX 74 273 [(0, .ref 0), (1, .int x), (2, .ref 375), (3, .ref 376), (4, .ref 377), (5, .ref 378), (6, .ref 379), (7, .ref N), (8, .int (sdR u q)), (9, .int (nI (knN len))), (10, .int y), (11, .int z)] [] h (memW u p V 0) = evX 74 310 [(0, .ref 0), (1, .int x), (2, .ref 375), (3, .ref 376), (4, .ref 377), (5, .ref 378), (6, .ref 379), (7, .ref N), (8, .int (sdR u q)), (9, .int (nI (knN len))), (10, .int (nI ago)), (11, .int (bidE (u 3) (u 4) i)), (12, .int 0), (13, .int (nI 0))] [] h (memW u p V 0) := by
      simp only [x74_273, x74_275, x74_278, x74_279, x74_281, x74_284, x74_286, x74_287, x74_289, x74_289s, x74_290, x74_291, x74_292, x74_294, x74_295, x74_297, x74_299, x74_302, x74_304, x74_305, x74_307, x74_308, evI_i, evJl_i, evJf_i, evJd_i, evA_r, evA_n, evA_q, evLk_c, evS1_d, evS2_d, evFl_n, evFl_c, evGl_n, evGl_c, evIn_n, evIn_c, evCat_i, evCat_l, evCat_f, evCat_d, evCat_r, evCat_z, evCat_q, evBd_some, evTl_s, evTl_n, va_rf_s, va_rf_n, and_true, true_and, and_false, false_and, if_true, if_false, not_true_eq_false, not_false_eq_true, reduceCtorEq, ↓reduceIte, Nat.reduceAdd, Nat.reduceEqDiff, Nat.reduceLT, Nat.reduceLeDiff, Nat.reduceSub, Nat.zero_ne_one, Nat.one_ne_zero, sa0, sn0, sa1, sn1, sa2, sn2, sa3, sn3, sa4, sn4, sa5, sn5, sa6, sn6, sa7, sn7, sa8, sn8, sa9, sn9, mG0, mS0, mG1, mS1, mG2, mS2, mG3, mS3, mG4, mS4, mG5, mS5, mG6, mS6, mG7, mS7, mG8, mS8, mG9, mS9, lt0, lt1, lt2, lt3, lt4, lt5, lt6, lt7, lt8, lt9, lt10, lc0, lc1, lc2, lc3, lc4, lc5, lc6, lc7, lc8, lc9, lc10, g, Lw, h9, ei, B, Option.toList, List.nil_append, List.cons_append]
      rfl
    rw [st2]
    obtain ⟨E, hE, e⟩ := sm_bf (x := x) (N := N) (p := p) (V := V) hx hi hlen h9 (sdR u q) (nI (knN len)) (bidE (u 3) (u 4) i)
    rw [e]
    obtain ⟨M0, M1, M2, M3⟩ := hM p i ago hi ha
    have fin : ∀ E : evL, (E = [] ∨ ∃ z, E = [(14, .int z)]) → evX 74 376 ([(0, .ref 0), (1, .int x), (2, .ref 375), (3, .ref 376), (4, .ref 377), (5, .ref 378), (6, .ref 379), (7, .ref N), (8, .int (sdR u q)), (9, .int (nI (knN len))), (10, .int (nI ago)), (11, .int (bidE (u 3) (u 4) i)), (12, .int (bfF (u 3) (u 4) (rdo (bidE (u 3) (u 4) i)) i)), (13, .int (nI i))] ++ E) [] h (memW u p V 0) = evX 74 448 ([(0, .ref 0), (1, .int x), (2, .ref 375), (3, .ref 376), (4, .ref 377), (5, .ref 378), (6, .ref 379), (7, .ref N), (8, .int (sdR u q)), (9, .int (nI (knN len))), (10, .int (nI ago)), (11, .int (bidE (u 3) (u 4) i)), (12, .int (bfF (u 3) (u 4) (rdo (bidE (u 3) (u 4) i)) i)), (13, .int (nI i))] ++ E) [] h (memW u p V 0) := by
      intro E hE
      generalize bfF (u 3) (u 4) (rdo (bidE (u 3) (u 4) i)) i = bf at M3
      generalize bidE (u 3) (u 4) i = v at M0 M1 M2 M3
      by_cases hc : coi v ≤ bf
      · have hc' : ¬ bf < coi v := Int32.not_lt.mpr hc
        rw [if_pos hc] at M3
        rcases hE with rfl | ⟨z, rfl⟩
        · rw [List.append_nil]
          simp only [x74_376, x74_377, x74_379, x74_380, x74_383, x74_385, x74_387, x74_388, x74_391, x74_392, x74_394, x74_395, x74_398, x74_400, x74_403, x74_406, x74_407, x74_409, x74_410, x74_413, x74_415, x74_418, x74_421, x74_422, x74_424, x74_425, x74_428, x74_430, x74_433, x74_435, x74_438, x74_439, x74_442, x74_443, x74_446, x74_447_0, x74_447_1, x74_447b, evI_i, evJl_i, evJf_i, evJd_i, evA_r, evA_n, evA_q, evLk_c, evS1_d, evS2_d, evFl_n, evFl_c, evGl_n, evGl_c, evIn_n, evIn_c, evCat_i, evCat_l, evCat_f, evCat_d, evCat_r, evCat_z, evCat_q, evBd_some, evTl_s, evTl_n, va_rf_s, va_rf_n, and_true, true_and, and_false, false_and, if_true, if_false, not_true_eq_false, not_false_eq_true, reduceCtorEq, ↓reduceIte, Nat.reduceAdd, Nat.reduceEqDiff, Nat.reduceLT, Nat.reduceLeDiff, Nat.reduceSub, Nat.zero_ne_one, Nat.one_ne_zero, a0, M0, M1, M2, M3, c_coins, c_roundOf, hc, hc', Option.toList, List.nil_append, List.cons_append]
        · simp only [x74_376, x74_377, x74_379, x74_380, x74_383, x74_385, x74_387, x74_388, x74_391, x74_392, x74_394, x74_395, x74_398, x74_400, x74_403, x74_406, x74_407, x74_409, x74_410, x74_413, x74_415, x74_418, x74_421, x74_422, x74_424, x74_425, x74_428, x74_430, x74_433, x74_435, x74_438, x74_439, x74_442, x74_443, x74_446, x74_447_0, x74_447_1, x74_447b, evI_i, evJl_i, evJf_i, evJd_i, evA_r, evA_n, evA_q, evLk_c, evS1_d, evS2_d, evFl_n, evFl_c, evGl_n, evGl_c, evIn_n, evIn_c, evCat_i, evCat_l, evCat_f, evCat_d, evCat_r, evCat_z, evCat_q, evBd_some, evTl_s, evTl_n, va_rf_s, va_rf_n, and_true, true_and, and_false, false_and, if_true, if_false, not_true_eq_false, not_false_eq_true, reduceCtorEq, ↓reduceIte, Nat.reduceAdd, Nat.reduceEqDiff, Nat.reduceLT, Nat.reduceLeDiff, Nat.reduceSub, Nat.zero_ne_one, Nat.one_ne_zero, a0, M0, M1, M2, M3, c_coins, c_roundOf, hc, hc', Option.toList, List.nil_append, List.cons_append]
      · have hc' : bf < coi v := Int32.not_le.mp hc
        rw [if_neg hc] at M3
        rcases hE with rfl | ⟨z, rfl⟩
        · rw [List.append_nil]
          simp only [x74_376, x74_377, x74_379, x74_380, x74_383, x74_385, x74_387, x74_388, x74_391, x74_392, x74_394, x74_395, x74_398, x74_400, x74_403, x74_406, x74_407, x74_409, x74_410, x74_413, x74_415, x74_418, x74_421, x74_422, x74_424, x74_425, x74_428, x74_430, x74_433, x74_435, x74_438, x74_439, x74_442, x74_443, x74_446, x74_447_0, x74_447_1, x74_447b, evI_i, evJl_i, evJf_i, evJd_i, evA_r, evA_n, evA_q, evLk_c, evS1_d, evS2_d, evFl_n, evFl_c, evGl_n, evGl_c, evIn_n, evIn_c, evCat_i, evCat_l, evCat_f, evCat_d, evCat_r, evCat_z, evCat_q, evBd_some, evTl_s, evTl_n, va_rf_s, va_rf_n, and_true, true_and, and_false, false_and, if_true, if_false, not_true_eq_false, not_false_eq_true, reduceCtorEq, ↓reduceIte, Nat.reduceAdd, Nat.reduceEqDiff, Nat.reduceLT, Nat.reduceLeDiff, Nat.reduceSub, Nat.zero_ne_one, Nat.one_ne_zero, a0, M0, M1, M2, M3, c_coins, c_roundOf, hc, hc', Option.toList, List.nil_append, List.cons_append]
        · simp only [x74_376, x74_377, x74_379, x74_380, x74_383, x74_385, x74_387, x74_388, x74_391, x74_392, x74_394, x74_395, x74_398, x74_400, x74_403, x74_406, x74_407, x74_409, x74_410, x74_413, x74_415, x74_418, x74_421, x74_422, x74_424, x74_425, x74_428, x74_430, x74_433, x74_435, x74_438, x74_439, x74_442, x74_443, x74_446, x74_447_0, x74_447_1, x74_447b, evI_i, evJl_i, evJf_i, evJd_i, evA_r, evA_n, evA_q, evLk_c, evS1_d, evS2_d, evFl_n, evFl_c, evGl_n, evGl_c, evIn_n, evIn_c, evCat_i, evCat_l, evCat_f, evCat_d, evCat_r, evCat_z, evCat_q, evBd_some, evTl_s, evTl_n, va_rf_s, va_rf_n, and_true, true_and, and_false, false_and, if_true, if_false, not_true_eq_false, not_false_eq_true, reduceCtorEq, ↓reduceIte, Nat.reduceAdd, Nat.reduceEqDiff, Nat.reduceLT, Nat.reduceLeDiff, Nat.reduceSub, Nat.zero_ne_one, Nat.one_ne_zero, a0, M0, M1, M2, M3, c_coins, c_roundOf, hc, hc', Option.toList, List.nil_append, List.cons_append]
    rw [fin E hE]
    rcases hE with rfl | ⟨z', rfl⟩
    · exact ⟨_, _, _, Or.inr (Or.inl ⟨_, _, rfl⟩), rfl⟩
    · exact ⟨_, _, _, Or.inr (Or.inr ⟨_, _, _, rfl⟩), rfl⟩
def cCnt (h : evH) (u : Nat → Nat → Int32) (V : Nat → evVt) (n q : Nat) : Prop := ∀ (p : Nat → Nat → Int32) (w : Int32), evX 56 0 [(0, .ref 0), (1, .int w)] [] h (memW u p V 0) = some (some (.int (cntC (V 0) p n q w)), h, memW u p V 0)
theorem sm_end (hx : xP h) (hi : evAt h N 9) (hi8 : evLen h N = 8) (hN : 385 ≤ N) (hN2 : N < 900000000) (hC : cCnt h u V n q) (hn : n ≤ 3) (hq : q ≤ 8) (h5 : u 0 5 = nI n) (h6 : u 0 6 = nI q) {kn : Int32} (hA : ∀ p, cntC (V 0) p n q 0 = u 0 4 ∧ cntC (V 0) p n q 1 = u 0 5 ∧ cntC (V 0) p n q 2 = u 0 6 ∧ cntC (V 0) p n q 3 = u 0 7 ∧ cntC (V 0) p n q 4 = sdR u q ∧ cntC (V 0) p n q 5 = alR u 3 n ∧ cntC (V 0) p n q 6 = alR u 5 n ∧ cntC (V 0) p n q 7 = alR u 6 n ∧ ∀ j, j < 4 → cntC (V 0) p n q (8 + nI j) = u 0 j) (hm : ∀ p, evX 55 0 [(0, .ref 0), (1, .int kn), (2, .int 0)] [] h (memW u p V 0) = some (some (.int (-1)), h, memW u p V 0)) (ho : ∀ p, evX 53 0 [(0, .ref 0), (1, .int (nI n)), (2, .int 0)] [] h (memW u p V 0) = some (some (.int (-1)), h, memW u p V 0)) (hl : ∀ p, evX 54 0 [(0, .ref 0), (1, .int (nI q)), (2, .int 0)] [] h (memW u p V 0) = some (some (.int (-1)), h, memW u p V 0)) (y z : Int32) (E : evL) (hE : E = [] ∨ (∃ a b, E = [(12, .int a), (13, .int b)]) ∨ ∃ a b c, E = [(12, .int a), (13, .int b), (14, .int c)]) : evX 74 448 ([(0, .ref 0), (1, .int x), (2, .ref 375), (3, .ref 376), (4, .ref 377), (5, .ref 378), (6, .ref 379), (7, .ref N), (8, .int (sdR u q)), (9, .int kn), (10, .int y), (11, .int z)] ++ E) [] h (memW u (rowP p N (alF u n 0)) V 0) = some (some (.int 1), h, memW u (rowP p N (alF u n 0)) V 0) := by
  obtain ⟨sa0, sn0, sa1, sn1, sa2, sn2, sa3, sn3, sa4, sn4, sa5, sn5, sa6, sn6, sa7, sn7, sa8, sn8, sa9, sn9⟩ := xP_a hx
  have a0 := hx.1.2.2.1
  have st : evX 74 448 ([(0, .ref 0), (1, .int x), (2, .ref 375), (3, .ref 376), (4, .ref 377), (5, .ref 378), (6, .ref 379), (7, .ref N), (8, .int (sdR u q)), (9, .int kn), (10, .int y), (11, .int z)] ++ E) [] h (memW u (rowP p N (alF u n 0)) V 0) = evX 74 451 ([(0, .ref 0), (1, .int x), (2, .ref 375), (3, .ref 376), (4, .ref 377), (5, .ref 378), (6, .ref 379), (7, .ref N), (8, .int (sdR u q)), (9, .int kn), (10, .int (nI 0)), (11, .int z)] ++ E) [] h (memW u (rowP p N (alF u n 0)) V 0) := by
    rcases hE with rfl | ⟨a, b, rfl⟩ | ⟨a, b, c, rfl⟩ <;>
      (simp only [x74_448, x74_449, evI_i, evJl_i, evJf_i, evJd_i, evA_r, evA_n, evA_q, evLk_c, evS1_d, evS2_d, evFl_n, evFl_c, evGl_n, evGl_c, evIn_n, evIn_c, evCat_i, evCat_l, evCat_f, evCat_d, evCat_r, evCat_z, evCat_q, evBd_some, evTl_s, evTl_n, va_rf_s, va_rf_n, and_true, true_and, and_false, false_and, if_true, if_false, not_true_eq_false, not_false_eq_true, reduceCtorEq, ↓reduceIte, Nat.reduceAdd, Nat.reduceEqDiff, Nat.reduceLT, Nat.reduceLeDiff, Nat.reduceSub, Nat.zero_ne_one, Nat.one_ne_zero, List.append_nil, List.nil_append, List.cons_append]; rfl)
  have loop := loop_up (G := fun k => evX 74 451 ([(0, .ref 0), (1, .int x), (2, .ref 375), (3, .ref 376), (4, .ref 377), (5, .ref 378), (6, .ref 379), (7, .ref N), (8, .int (sdR u q)), (9, .int kn), (10, .int (nI k)), (11, .int z)] ++ E) [] h (memW u (rowP p N (alF u n 0)) V 0)) (n := 4) (fun k hk => by
    have hlt : ¬ (4 : Int32) ≤ nI k := nI_ge (b := 4) hk (by omega)
    have C := hC (rowP p N (alF u n 0)) (8 + nI k)
    rw [(hA _).2.2.2.2.2.2.2.2 k hk] at C
    obtain ⟨ik_p, ik_c, ik_l⟩ := rdx (k := k) (n := 11) (by omega) (by decide)
    show _ = evX 74 451 ([(0, .ref 0), (1, .int x), (2, .ref 375), (3, .ref 376), (4, .ref 377), (5, .ref 378), (6, .ref 379), (7, .ref N), (8, .int (sdR u q)), (9, .int kn), (10, .int (nI (k + 1))), (11, .int z)] ++ E) [] h (memW u (rowP p N (alF u n 0)) V 0)
    rcases hE with rfl | ⟨a, b, rfl⟩ | ⟨a, b, c, rfl⟩ <;>
      (simp only [List.append_nil, List.nil_append, List.cons_append]
       conv => lhs; rw [x74_451]
       simp only [x74_453, x74_454, x74_457, x74_458, x74_460, x74_462, x74_463, x74_466, x74_467, x74_469, x74_469s, x74_470, x74_473, x74_474_0, x74_474_1, x74_474b, x74_475, x74_478, evI_i, evJl_i, evJf_i, evJd_i, evA_r, evA_n, evA_q, evLk_c, evS1_d, evS2_d, evFl_n, evFl_c, evGl_n, evGl_c, evIn_n, evIn_c, evCat_i, evCat_l, evCat_f, evCat_d, evCat_r, evCat_z, evCat_q, evBd_some, evTl_s, evTl_n, va_rf_s, va_rf_n, and_true, true_and, and_false, false_and, if_true, if_false, not_true_eq_false, not_false_eq_true, reduceCtorEq, ↓reduceIte, Nat.reduceAdd, Nat.reduceEqDiff, Nat.reduceLT, Nat.reduceLeDiff, Nat.reduceSub, Nat.zero_ne_one, Nat.one_ne_zero, sa0, sn0, sa1, sn1, sa2, sn2, sa3, sn3, sa4, sn4, sa5, sn5, sa6, sn6, sa7, sn7, sa8, sn8, sa9, sn9, mG0, mS0, mG1, mS1, mG2, mS2, mG3, mS3, mG4, mS4, mG5, mS5, mG6, mS6, mG7, mS7, mG8, mS8, mG9, mS9, lt0, lt1, lt2, lt3, lt4, lt5, lt6, lt7, lt8, lt9, lt10, lc0, lc1, lc2, lc3, lc4, lc5, lc6, lc7, lc8, lc9, lc10, hlt, C, a0, nA1, ik_p, ik_c, ik_l, Option.toList, List.nil_append, List.cons_append]))
  rw [st]
  refine loop.trans ?_
  have hge : (4 : Int32) ≤ nI 4 := Int32.le_refl _
  obtain ⟨A0, A1, A2, A3, A4, A5, A6, A7, -⟩ := hA (rowP p N (alF u n 0))
  have C := fun w => hC (rowP p N (alF u n 0)) w
  have C0 := C 0; have C1 := C 1; have C2 := C 2; have C3 := C 3; have C4 := C 4; have C5 := C 5; have C6 := C 6; have C7 := C 7
  rw [A0] at C0
  rw [A1] at C1
  rw [A2] at C2
  rw [A3] at C3
  rw [A4] at C4
  rw [A5] at C5
  rw [A6] at C6
  rw [A7] at C7
  rw [h5] at C1
  rw [h6] at C2
  have f3 : alF u n 0 3 = alR u 3 n := rfl
  have f5 : alF u n 0 5 = alR u 5 n := rfl
  have f6 : alF u n 0 6 = alR u 6 n := rfl
  have m1 := hm (rowP p N (alF u n 0))
  have o1 := ho (rowP p N (alF u n 0))
  have l1 := hl (rowP p N (alF u n 0))
  show evX 74 451 ([(0, .ref 0), (1, .int x), (2, .ref 375), (3, .ref 376), (4, .ref 377), (5, .ref 378), (6, .ref 379), (7, .ref N), (8, .int (sdR u q)), (9, .int kn), (10, .int (nI 4)), (11, .int z)] ++ E) [] h (memW u (rowP p N (alF u n 0)) V 0) = _
  rcases hE with rfl | ⟨a, b, rfl⟩ | ⟨a, b, c, rfl⟩ <;>
    (simp only [List.append_nil, List.nil_append, List.cons_append]
     conv => lhs; rw [x74_451]
     simp only [x74_453, x74_454, x74_481, x74_482, x74_484, x74_485, x74_488, x74_489, x74_492, x74_493, x74_494, x74_497, x74_498, x74_499, x74_499s, x74_500, x74_503, x74_504, x74_505, x74_508, x74_509, x74_510, x74_510s, x74_511, x74_514, x74_515, x74_516, x74_519, x74_520, x74_522, x74_522s, x74_523, x74_526, x74_527, x74_528, x74_531, x74_532, x74_534, x74_534s, x74_535, x74_538, x74_539, x74_540, x74_543, x74_545, x74_548, x74_549, x74_550, x74_553, x74_555, x74_556, x74_556s, x74_557, x74_560, x74_561, x74_563, x74_566, x74_568, x74_569, x74_569s, x74_570, x74_573, x74_574, x74_576, x74_579, x74_581, x74_583, x74_583s, x74_584, x74_587, x74_588, x74_589, x74_590, x74_590s, x74_591, x74_592, x74_595, x74_596, x74_599, x74_600, x74_601, x74_603, x74_603s, x74_604, x74_605, x74_608, x74_609, x74_612, x74_613, x74_616, x74_617_0, x74_617_1, x74_617b, evI_i, evJl_i, evJf_i, evJd_i, evA_r, evA_n, evA_q, evLk_c, evS1_d, evS2_d, evFl_n, evFl_c, evGl_n, evGl_c, evIn_n, evIn_c, evCat_i, evCat_l, evCat_f, evCat_d, evCat_r, evCat_z, evCat_q, evBd_some, evTl_s, evTl_n, va_rf_s, va_rf_n, and_true, true_and, and_false, false_and, if_true, if_false, not_true_eq_false, not_false_eq_true, reduceCtorEq, ↓reduceIte, Nat.reduceAdd, Nat.reduceEqDiff, Nat.reduceLT, Nat.reduceLeDiff, Nat.reduceSub, Nat.zero_ne_one, Nat.one_ne_zero, sa0, sn0, sa1, sn1, sa2, sn2, sa3, sn3, sa4, sn4, sa5, sn5, sa6, sn6, sa7, sn7, sa8, sn8, sa9, sn9, mG0, mS0, mG1, mS1, mG2, mS2, mG3, mS3, mG4, mS4, mG5, mS5, mG6, mS6, mG7, mS7, mG8, mS8, mG9, mS9, lt0, lt1, lt2, lt3, lt4, lt5, lt6, lt7, lt8, lt9, lt10, lc0, lc1, lc2, lc3, lc4, lc5, lc6, lc7, lc8, lc9, lc10, hge, h5, h6, C0, C1, C2, C3, C4, C5, C6, C7, m1, o1, l1, a0, hi, hi8, itR hN hN2, f3, f5, f6, Option.toList, List.nil_append, List.cons_append])
end SN
