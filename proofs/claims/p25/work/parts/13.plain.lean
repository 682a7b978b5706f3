/-! plain facts for the equations: locals, references, halls as pictures -/
def evFl (i : Nat) (l : evL) : evL := l.filter (fun q => !(q.1 == i) && !(q.1 + 1 == i && q.2.category == 2))
def evGl (i : Nat) (l : evL) : evL := l.filter (fun q => !(q.1 == i) && (!(q.1 == i + 1) && !(q.1 + 1 == i && q.2.category == 2)))
theorem evS1_d (i : Nat) (v : Value) (l : evL) : evS1 i v l = evIn i v (evFl i l) := rfl
theorem evS2_d (i : Nat) (v : Value) (l : evL) : evS2 i v l = evIn i v (evGl i l) := rfl
theorem evFl_n (i : Nat) : evFl i [] = [] := rfl
theorem evGl_n (i : Nat) : evGl i [] = [] := rfl
theorem evFl_c (i j : Nat) (u : Value) (t : evL) : evFl i ((j, u) :: t) = if j = i then evFl i t else if j + 1 = i then (if u.category = 2 then evFl i t else (j, u) :: evFl i t) else (j, u) :: evFl i t := by
  unfold evFl
  by_cases h1 : j = i
  · simp [h1]
  · by_cases h2 : j + 1 = i
    · by_cases h3 : u.category = 2 <;> simp [h1, h2, h3]
    · simp [h1, h2]
theorem evGl_c (i j : Nat) (u : Value) (t : evL) : evGl i ((j, u) :: t) = if j = i then evGl i t else if j = i + 1 then evGl i t else if j + 1 = i then (if u.category = 2 then evGl i t else (j, u) :: evGl i t) else (j, u) :: evGl i t := by
  unfold evGl
  by_cases h1 : j = i
  · simp [h1]
  · by_cases h4 : j = i + 1
    · simp [h4]
    · by_cases h2 : j + 1 = i
      · by_cases h3 : u.category = 2 <;> simp [h1, h2, h3, h4]
      · simp [h1, h2, h4]
theorem evIn_n (i : Nat) (v : Value) : evIn i v [] = [(i, v)] := rfl
theorem evIn_c (i j : Nat) (v u : Value) (t : evL) : evIn i v ((j, u) :: t) = if j < i then (j, u) :: evIn i v t else (i, v) :: (j, u) :: t := rfl
theorem evCat_i (x : Int32) : (Value.int x).category = 1 := rfl
theorem evCat_l (x : Int64) : (Value.long x).category = 2 := rfl
theorem evCat_f (x : UInt32) : (Value.float x).category = 1 := rfl
theorem evCat_d (x : UInt64) : (Value.double x).category = 2 := rfl
theorem evCat_r (x : Nat) : (Value.ref x).category = 1 := rfl
theorem evCat_z : (Value.null).category = 1 := rfl
theorem evCat_q (q : Option Nat) : (va_rf q).category = 1 := by cases q <;> rfl
theorem va_rf_s (a : Nat) : va_rf (some a) = .ref a := rfl
theorem va_rf_n : va_rf none = .null := rfl
theorem evBl_t : evBl true = 1 := rfl
theorem evBl_f : evBl false = 0 := rfl
theorem evBl_e0 (b : Bool) : (evBl b = 0) = (b = false) := by cases b <;> simp [evBl]
/-- EchoBids.Bid.write -/
theorem c_Bid_write (h : evH) (mi : evM) (a : Nat) (x y z : Int32) (ha : evAt h a 0) : evX 1 0 [(0, .ref a), (1, .int x), (2, .int y), (3, .int z)] [] h mi = some (none, h, evSetM (evSetM (evSetM mi a 0 x) a 1 y) a 2 z) := by
  simp only [x1_0, x1_1, x1_2, x1_5, x1_6, x1_7, x1_10, x1_11, x1_12, x1_15, evI_i, evJl_i, evJf_i, evJd_i, evA_r, evA_n, evA_q, evLk_c, evS1_d, evS2_d, evFl_n, evFl_c, evGl_n, evGl_c, evIn_n, evIn_c, evCat_i, evCat_l, evCat_f, evCat_d, evCat_r, evCat_z, evCat_q, evBd_some, evTl_s, evTl_n, va_rf_s, va_rf_n, and_true, true_and, and_false, false_and, if_true, if_false, not_true_eq_false, not_false_eq_true, reduceCtorEq, ↓reduceIte, Nat.reduceAdd, Nat.reduceEqDiff, Nat.reduceLT, Nat.reduceLeDiff, Nat.reduceSub, Nat.zero_ne_one, Nat.one_ne_zero, ha]
