/-! the evaluator's answer as an Option, and an equation an instruction -/
noncomputable def evX (y pc : Nat) (lv : evL) (st : List Value) (h : evH) (mi : evM) : Option evO :=
  @dite (Option evO) (∃ (o : evO) (n : Nat), evRun n y pc lv st h mi = some o) (Classical.propDecidable _) (fun hx => some (Classical.choose hx)) (fun _ => none)
theorem evX_iff {y pc : Nat} {lv : evL} {st : List Value} {h : evH} {mi : evM} {o : evO} : evX y pc lv st h mi = some o ↔ ∃ n, evRun n y pc lv st h mi = some o := by
  unfold evX
  by_cases hx : ∃ (o : evO) (n : Nat), evRun n y pc lv st h mi = some o
  · rw [dif_pos hx]
    obtain ⟨n1, h1⟩ := Classical.choose_spec hx
    constructor
    · intro he
      rw [← Option.some.inj he]
      exact ⟨n1, h1⟩
    · rintro ⟨n2, h2⟩
      have a1 := evRun_more n1 h1 (max n1 n2) (Nat.le_max_left _ _)
      have a2 := evRun_more n2 h2 (max n1 n2) (Nat.le_max_right _ _)
      exact a1.symm.trans a2
  · rw [dif_neg hx]
    constructor
    · intro he; cases he
    · rintro ⟨n2, h2⟩
      exact absurd ⟨o, n2, h2⟩ hx
theorem evX_ext {y pc : Nat} {lv : evL} {st : List Value} {h : evH} {mi : evM} {z : Option evO} (hz : ∀ o, (∃ n, evRun n y pc lv st h mi = some o) ↔ z = some o) : evX y pc lv st h mi = z := by
  apply Option.ext
  intro o
  exact evX_iff.trans (hz o)
theorem evX_end {y pc len : Nat} {i : Instr} {lv : evL} {st : List Value} {h : evH} {mi : evM} {r : Option Value} (hi : evIns y pc = some (i, len)) (he : evEnd y i st = some r) : evX y pc lv st h mi = some (r, h, mi) := by
  refine evX_iff.mpr ⟨1, ?_⟩
  unfold evRun
  rw [hi]
  show (match evEnd y i st with | some r => some (r, h, mi) | none => _) = _
  rw [he]
theorem evX_step {y pc len : Nat} {i : Instr} {lv : evL} {st : List Value} {h : evH} {mi : evM} (hi : evIns y pc = some (i, len)) (he : evEnd y i st = none) (hc : evCall y i st h = none) : evX y pc lv st h mi = (evStep y pc i lv st h mi).bind fun s => evX y s.1 s.2.1 s.2.2.1 s.2.2.2.1 s.2.2.2.2 := by
  have e : ∀ n, evRun (n + 1) y pc lv st h mi = (evStep y pc i lv st h mi).bind fun s => evRun n y s.1 s.2.1 s.2.2.1 s.2.2.2.1 s.2.2.2.2 := by
    intro n
    conv => lhs; unfold evRun
    rw [hi]
    show (match evEnd y i st with | some r => some (r, h, mi) | none => _) = _
    rw [he]
    show (match evCall y i st h with | some c => _ | none => _) = _
    rw [hc]
  refine evX_ext fun o => ⟨?_, ?_⟩
  · rintro ⟨n, hn⟩
    cases n with
    | zero => cases hn
    | succ n =>
      rw [e] at hn
      obtain ⟨s, h1, h2⟩ := ev_bind hn
      rw [h1]
      exact evX_iff.mpr ⟨n, h2⟩
  · intro hz
    obtain ⟨s, h1, h2⟩ := ev_bind hz
    obtain ⟨n, hn⟩ := evX_iff.mp h2
    refine ⟨n + 1, ?_⟩
    rw [e, h1]
    exact hn
def evBd (x : Option evO) (f : Option Value → evH → evM → Option evO) : Option evO := match x with
  | some o => f o.1 o.2.1 o.2.2
  | none => none
theorem evBd_some (r : Option Value) (h : evH) (mi : evM) (f : Option Value → evH → evM → Option evO) : evBd (some (r, h, mi)) f = f r h mi := rfl
theorem evX_call {y pc len : Nat} {i : Instr} {lv : evL} {st : List Value} {h : evH} {mi : evM} {c : Nat × List Value × List Value} (hi : evIns y pc = some (i, len)) (he : evEnd y i st = none) (hc : evCall y i st h = some c) : evX y pc lv st h mi = evBd (evX c.1 0 (lv_args 0 c.2.1) [] h mi) fun r h' mi' => evX y (pc + 3) lv (r.toList ++ c.2.2) h' mi' := by
  have e : ∀ n, evRun (n + 1) y pc lv st h mi = (evRun n c.1 0 (lv_args 0 c.2.1) [] h mi).bind fun o => evRun n y (pc + 3) lv (o.1.toList ++ c.2.2) o.2.1 o.2.2 := by
    intro n
    conv => lhs; unfold evRun
    rw [hi]
    show (match evEnd y i st with | some r => some (r, h, mi) | none => _) = _
    rw [he]
    show (match evCall y i st h with | some c => _ | none => _) = _
    rw [hc]
  refine evX_ext fun o => ⟨?_, ?_⟩
  · rintro ⟨n, hn⟩
    cases n with
    | zero => cases hn
    | succ n =>
      rw [e] at hn
      obtain ⟨s, h1, h2⟩ := ev_bind hn
      rw [evX_iff.mpr ⟨n, h1⟩]
      exact evX_iff.mpr ⟨n, h2⟩
  · intro hz
    cases hx : evX c.1 0 (lv_args 0 c.2.1) [] h mi with
    | none => rw [hx] at hz; cases hz
    | some s =>
      rw [hx] at hz
      obtain ⟨n1, h1⟩ := evX_iff.mp hx
      obtain ⟨n2, h2⟩ := evX_iff.mp (show evX y (pc + 3) lv (s.1.toList ++ c.2.2) s.2.1 s.2.2 = some o from hz)
      refine ⟨max n1 n2 + 1, ?_⟩
      rw [e, evRun_more n1 h1 _ (Nat.le_max_left _ _)]
      exact evRun_more n2 h2 _ (Nat.le_max_right _ _)
/-- a cell of the world, of kind k -/
def evAt (h : evH) (a k : Nat) : Prop := a < evN h ∧ a < evO9 ∧ evK h a = k
def evI (v : Option Value) (f : Int32 → Option evO) : Option evO := match v with
  | some (.int x) => f x
  | _ => none
def evJl (v : Option Value) (f : Int64 → Option evO) : Option evO := match v with
  | some (.long x) => f x
  | _ => none
def evJf (v : Option Value) (f : UInt32 → Option evO) : Option evO := match v with
  | some (.float x) => f x
  | _ => none
def evJd (v : Option Value) (f : UInt64 → Option evO) : Option evO := match v with
  | some (.double x) => f x
  | _ => none
def evA (v : Option Value) (f : Value → Option evO) : Option evO := match v with
  | some (.ref a) => f (.ref a)
  | some .null => f .null
  | _ => none
theorem evI_i (x : Int32) (f : Int32 → Option evO) : evI (some (.int x)) f = f x := rfl
theorem evJl_i (x : Int64) (f : Int64 → Option evO) : evJl (some (.long x)) f = f x := rfl
theorem evJf_i (x : UInt32) (f : UInt32 → Option evO) : evJf (some (.float x)) f = f x := rfl
theorem evJd_i (x : UInt64) (f : UInt64 → Option evO) : evJd (some (.double x)) f = f x := rfl
theorem evA_r (a : Nat) (f : Value → Option evO) : evA (some (.ref a)) f = f (.ref a) := rfl
theorem evA_n (f : Value → Option evO) : evA (some .null) f = f .null := rfl
theorem evA_q (q : Option Nat) (f : Value → Option evO) : evA (some (va_rf q)) f = f (va_rf q) := by cases q <;> rfl
theorem evLk_c (i j : Nat) (v : Value) (t : evL) : evLk i ((j, v) :: t) = if j = i then some v else evLk i t := rfl
section EVEq
theorem X_iload {y pc : Nat} {lv : evL} {st : List Value} {h : evH} {mi : evM} {k : Nat} (hi : evIns y pc = some (.iload k, 2)) : evX y pc lv st h mi = evI (evLk k lv) fun x => evX y (pc + 2) lv (.int x :: st) h mi := by
  rw [evX_step hi rfl rfl]
  cases hv : evLk k lv with
  | none => simp only [evStep, hv]; rfl
  | some v => cases v <;> (simp only [evStep, hv]; rfl)
theorem X_iload_n {y pc : Nat} {lv : evL} {st : List Value} {h : evH} {mi : evM} {k : Fin 4} (hi : evIns y pc = some (.iload_n k, 1)) : evX y pc lv st h mi = evI (evLk k.val lv) fun x => evX y (pc + 1) lv (.int x :: st) h mi := by
  rw [evX_step hi rfl rfl]
  cases hv : evLk k.val lv with
  | none => simp only [evStep, hv]; rfl
  | some v => cases v <;> (simp only [evStep, hv]; rfl)
theorem X_lload {y pc : Nat} {lv : evL} {st : List Value} {h : evH} {mi : evM} {k : Nat} (hi : evIns y pc = some (.lload k, 2)) : evX y pc lv st h mi = evJl (evLk k lv) fun x => evX y (pc + 2) lv (.long x :: st) h mi := by
  rw [evX_step hi rfl rfl]
  cases hv : evLk k lv with
  | none => simp only [evStep, hv]; rfl
  | some v => cases v <;> (simp only [evStep, hv]; rfl)
theorem X_lload_n {y pc : Nat} {lv : evL} {st : List Value} {h : evH} {mi : evM} {k : Fin 4} (hi : evIns y pc = some (.lload_n k, 1)) : evX y pc lv st h mi = evJl (evLk k.val lv) fun x => evX y (pc + 1) lv (.long x :: st) h mi := by
  rw [evX_step hi rfl rfl]
  cases hv : evLk k.val lv with
  | none => simp only [evStep, hv]; rfl
  | some v => cases v <;> (simp only [evStep, hv]; rfl)
theorem X_fload_n {y pc : Nat} {lv : evL} {st : List Value} {h : evH} {mi : evM} {k : Fin 4} (hi : evIns y pc = some (.fload_n k, 1)) : evX y pc lv st h mi = evJf (evLk k.val lv) fun x => evX y (pc + 1) lv (.float x :: st) h mi := by
  rw [evX_step hi rfl rfl]
  cases hv : evLk k.val lv with
  | none => simp only [evStep, hv]; rfl
  | some v => cases v <;> (simp only [evStep, hv]; rfl)
theorem X_dload_n {y pc : Nat} {lv : evL} {st : List Value} {h : evH} {mi : evM} {k : Fin 4} (hi : evIns y pc = some (.dload_n k, 1)) : evX y pc lv st h mi = evJd (evLk k.val lv) fun x => evX y (pc + 1) lv (.double x :: st) h mi := by
  rw [evX_step hi rfl rfl]
  cases hv : evLk k.val lv with
  | none => simp only [evStep, hv]; rfl
  | some v => cases v <;> (simp only [evStep, hv]; rfl)
theorem X_aload {y pc : Nat} {lv : evL} {st : List Value} {h : evH} {mi : evM} {k : Nat} (hi : evIns y pc = some (.aload k, 2)) : evX y pc lv st h mi = evA (evLk k lv) fun x => evX y (pc + 2) lv (x :: st) h mi := by
  rw [evX_step hi rfl rfl]
  cases hv : evLk k lv with
  | none => simp only [evStep, hv]; rfl
  | some v => cases v <;> (simp only [evStep, hv]; rfl)
theorem X_aload_n {y pc : Nat} {lv : evL} {st : List Value} {h : evH} {mi : evM} {k : Fin 4} (hi : evIns y pc = some (.aload_n k, 1)) : evX y pc lv st h mi = evA (evLk k.val lv) fun x => evX y (pc + 1) lv (x :: st) h mi := by
  rw [evX_step hi rfl rfl]
  cases hv : evLk k.val lv with
  | none => simp only [evStep, hv]; rfl
  | some v => cases v <;> (simp only [evStep, hv]; rfl)
theorem X_istore {y pc : Nat} {lv : evL} {st : List Value} {h : evH} {mi : evM} {k : Nat} {x : Int32} (hi : evIns y pc = some (.istore k, 2)) (hk : k < evML y) : evX y pc lv (.int x :: st) h mi = evX y (pc + 2) (evS1 k (.int x) lv) st h mi := by
  rw [evX_step hi rfl rfl]
  simp only [evStep, evPi, evIf, hk, if_true]
  rfl
theorem X_istore_n {y pc : Nat} {lv : evL} {st : List Value} {h : evH} {mi : evM} {k : Fin 4} {x : Int32} (hi : evIns y pc = some (.istore_n k, 1)) (hk : k.val < evML y) : evX y pc lv (.int x :: st) h mi = evX y (pc + 1) (evS1 k.val (.int x) lv) st h mi := by
  rw [evX_step hi rfl rfl]
  simp only [evStep, evPi, evIf, hk, if_true]
  rfl
theorem X_lstore {y pc : Nat} {lv : evL} {st : List Value} {h : evH} {mi : evM} {k : Nat} {x : Int64} (hi : evIns y pc = some (.lstore k, 2)) (hk : k + 1 < evML y) : evX y pc lv (.long x :: st) h mi = evX y (pc + 2) (evS2 k (.long x) lv) st h mi := by
  rw [evX_step hi rfl rfl]
  simp only [evStep, evPl, evIf, hk, if_true]
  rfl
theorem X_lstore_n {y pc : Nat} {lv : evL} {st : List Value} {h : evH} {mi : evM} {k : Fin 4} {x : Int64} (hi : evIns y pc = some (.lstore_n k, 1)) (hk : k.val + 1 < evML y) : evX y pc lv (.long x :: st) h mi = evX y (pc + 1) (evS2 k.val (.long x) lv) st h mi := by
  rw [evX_step hi rfl rfl]
  simp only [evStep, evPl, evIf, hk, if_true]
  rfl
theorem X_fstore_n {y pc : Nat} {lv : evL} {st : List Value} {h : evH} {mi : evM} {k : Fin 4} {x : UInt32} (hi : evIns y pc = some (.fstore_n k, 1)) (hk : k.val < evML y) : evX y pc lv (.float x :: st) h mi = evX y (pc + 1) (evS1 k.val (.float x) lv) st h mi := by
  rw [evX_step hi rfl rfl]
  simp only [evStep, evPf, evIf, hk, if_true]
  rfl
theorem X_dstore_n {y pc : Nat} {lv : evL} {st : List Value} {h : evH} {mi : evM} {k : Fin 4} {x : UInt64} (hi : evIns y pc = some (.dstore_n k, 1)) (hk : k.val + 1 < evML y) : evX y pc lv (.double x :: st) h mi = evX y (pc + 1) (evS2 k.val (.double x) lv) st h mi := by
  rw [evX_step hi rfl rfl]
  simp only [evStep, evPd, evIf, hk, if_true]
  rfl
theorem X_astore {y pc : Nat} {lv : evL} {st : List Value} {h : evH} {mi : evM} {k : Nat} {q : Option Nat} (hi : evIns y pc = some (.astore k, 2)) (hk : k < evML y) : evX y pc lv (va_rf q :: st) h mi = evX y (pc + 2) (evS1 k (va_rf q) lv) st h mi := by
  rw [evX_step hi rfl rfl]
  cases q <;> (simp only [evStep, va_rf, evPq, evIf, hk, if_true]; rfl)
theorem X_astore_r {y pc : Nat} {lv : evL} {st : List Value} {h : evH} {mi : evM} {k : Nat} {a : Nat} (hi : evIns y pc = some (.astore k, 2)) (hk : k < evML y) : evX y pc lv (.ref a :: st) h mi = evX y (pc + 2) (evS1 k (.ref a) lv) st h mi := by
  rw [evX_step hi rfl rfl]
  simp only [evStep, evPq, evIf, hk, if_true]
  rfl
theorem X_astore_0 {y pc : Nat} {lv : evL} {st : List Value} {h : evH} {mi : evM} {k : Nat} (hi : evIns y pc = some (.astore k, 2)) (hk : k < evML y) : evX y pc lv (.null :: st) h mi = evX y (pc + 2) (evS1 k .null lv) st h mi := by
  rw [evX_step hi rfl rfl]
  simp only [evStep, evPq, evIf, hk, if_true]
  rfl
theorem X_astore_n {y pc : Nat} {lv : evL} {st : List Value} {h : evH} {mi : evM} {k : Fin 4} {q : Option Nat} (hi : evIns y pc = some (.astore_n k, 1)) (hk : k.val < evML y) : evX y pc lv (va_rf q :: st) h mi = evX y (pc + 1) (evS1 k.val (va_rf q) lv) st h mi := by
  rw [evX_step hi rfl rfl]
  cases q <;> (simp only [evStep, va_rf, evPq, evIf, hk, if_true]; rfl)
theorem X_astore_n_r {y pc : Nat} {lv : evL} {st : List Value} {h : evH} {mi : evM} {k : Fin 4} {a : Nat} (hi : evIns y pc = some (.astore_n k, 1)) (hk : k.val < evML y) : evX y pc lv (.ref a :: st) h mi = evX y (pc + 1) (evS1 k.val (.ref a) lv) st h mi := by
  rw [evX_step hi rfl rfl]
  simp only [evStep, evPq, evIf, hk, if_true]
  rfl
theorem X_astore_n_0 {y pc : Nat} {lv : evL} {st : List Value} {h : evH} {mi : evM} {k : Fin 4} (hi : evIns y pc = some (.astore_n k, 1)) (hk : k.val < evML y) : evX y pc lv (.null :: st) h mi = evX y (pc + 1) (evS1 k.val .null lv) st h mi := by
  rw [evX_step hi rfl rfl]
  simp only [evStep, evPq, evIf, hk, if_true]
  rfl
theorem X_iinc {y pc : Nat} {lv : evL} {st : List Value} {h : evH} {mi : evM} {k : Nat} {n : Int} (hi : evIns y pc = some (.iinc k n, 3)) (hk : k < evML y) : evX y pc lv st h mi = evI (evLk k lv) fun x => evX y (pc + 3) (evS1 k (.int (x + Int32.ofInt n)) lv) st h mi := by
  rw [evX_step hi rfl rfl]
  cases hv : evLk k lv with
  | none => simp only [evStep, hv]; rfl
  | some v => cases v <;> (simp only [evStep, hv, evPi, evIf, hk, if_true, Option.bind]; rfl)
theorem X_iconst {y pc : Nat} {lv : evL} {st : List Value} {h : evH} {mi : evM} {n : Int} (hi : evIns y pc = some (.iconst n, 1)) : evX y pc lv st h mi = evX y (pc + 1) lv (.int (Int32.ofInt n) :: st) h mi := by
  rw [evX_step hi rfl rfl]
  rfl
theorem X_bipush {y pc : Nat} {lv : evL} {st : List Value} {h : evH} {mi : evM} {n : Int} (hi : evIns y pc = some (.bipush n, 2)) : evX y pc lv st h mi = evX y (pc + 2) lv (.int (Int8.ofInt n).toInt32 :: st) h mi := by
  rw [evX_step hi rfl rfl]
  rfl
theorem X_sipush {y pc : Nat} {lv : evL} {st : List Value} {h : evH} {mi : evM} {n : Int} (hi : evIns y pc = some (.sipush n, 3)) : evX y pc lv st h mi = evX y (pc + 3) lv (.int (Int16.ofInt n).toInt32 :: st) h mi := by
  rw [evX_step hi rfl rfl]
  rfl
theorem X_lconst {y pc : Nat} {lv : evL} {st : List Value} {h : evH} {mi : evM} {n : Fin 2} (hi : evIns y pc = some (.lconst n, 1)) : evX y pc lv st h mi = evX y (pc + 1) lv (.long (Int64.ofNat (n : Nat)) :: st) h mi := by
  rw [evX_step hi rfl rfl]
  rfl
theorem X_fconst0 {y pc : Nat} {lv : evL} {st : List Value} {h : evH} {mi : evM} (hi : evIns y pc = some (.fconst 0, 1)) : evX y pc lv st h mi = evX y (pc + 1) lv (.float FP.fconst0 :: st) h mi := by
  rw [evX_step hi rfl rfl]
  rfl
theorem X_fconst1 {y pc : Nat} {lv : evL} {st : List Value} {h : evH} {mi : evM} (hi : evIns y pc = some (.fconst 1, 1)) : evX y pc lv st h mi = evX y (pc + 1) lv (.float FP.fconst1 :: st) h mi := by
  rw [evX_step hi rfl rfl]
  rfl
theorem X_fconst2 {y pc : Nat} {lv : evL} {st : List Value} {h : evH} {mi : evM} (hi : evIns y pc = some (.fconst 2, 1)) : evX y pc lv st h mi = evX y (pc + 1) lv (.float FP.fconst2 :: st) h mi := by
  rw [evX_step hi rfl rfl]
  rfl
theorem X_dconst0 {y pc : Nat} {lv : evL} {st : List Value} {h : evH} {mi : evM} (hi : evIns y pc = some (.dconst 0, 1)) : evX y pc lv st h mi = evX y (pc + 1) lv (.double FP.dconst0 :: st) h mi := by
  rw [evX_step hi rfl rfl]
  rfl
theorem X_dconst1 {y pc : Nat} {lv : evL} {st : List Value} {h : evH} {mi : evM} (hi : evIns y pc = some (.dconst 1, 1)) : evX y pc lv st h mi = evX y (pc + 1) lv (.double FP.dconst1 :: st) h mi := by
  rw [evX_step hi rfl rfl]
  rfl
theorem X_null {y pc : Nat} {lv : evL} {st : List Value} {h : evH} {mi : evM} (hi : evIns y pc = some (.aconst_null, 1)) : evX y pc lv st h mi = evX y (pc + 1) lv (.null :: st) h mi := by
  rw [evX_step hi rfl rfl]
  rfl
theorem X_ldc_int {y pc : Nat} {lv : evL} {st : List Value} {h : evH} {mi : evM} {k p : Nat} {v : Int32} (hi : evIns y pc = some (.ldc k, 2)) (hq : evLd y k = some (.int v, p)) : evX y pc lv st h mi = evX y (pc + 2) lv (.int v :: st) h mi := by
  rw [evX_step hi rfl rfl]
  simp only [evStep, hq, Option.bind]
theorem X_ldc_float {y pc : Nat} {lv : evL} {st : List Value} {h : evH} {mi : evM} {k p : Nat} {v : UInt32} (hi : evIns y pc = some (.ldc k, 2)) (hq : evLd y k = some (.float v, p)) : evX y pc lv st h mi = evX y (pc + 2) lv (.float v :: st) h mi := by
  rw [evX_step hi rfl rfl]
  simp only [evStep, hq, Option.bind]
theorem X_ldc2_w_long {y pc : Nat} {lv : evL} {st : List Value} {h : evH} {mi : evM} {k p : Nat} {v : Int64} (hi : evIns y pc = some (.ldc2_w k, 3)) (hq : evLd y k = some (.long v, p)) : evX y pc lv st h mi = evX y (pc + 3) lv (.long v :: st) h mi := by
  rw [evX_step hi rfl rfl]
  simp only [evStep, hq, Option.bind]
theorem X_ldc2_w_double {y pc : Nat} {lv : evL} {st : List Value} {h : evH} {mi : evM} {k p : Nat} {v : UInt64} (hi : evIns y pc = some (.ldc2_w k, 3)) (hq : evLd y k = some (.double v, p)) : evX y pc lv st h mi = evX y (pc + 3) lv (.double v :: st) h mi := by
  rw [evX_step hi rfl rfl]
  simp only [evStep, hq, Option.bind]
theorem X_iadd {y pc : Nat} {lv : evL} {st : List Value} {h : evH} {mi : evM} {a b : Int32} (hi : evIns y pc = some (.iadd, 1)) : evX y pc lv (.int b :: .int a :: st) h mi = evX y (pc + 1) lv (.int (a + b) :: st) h mi := by
  rw [evX_step hi rfl rfl]
  rfl
theorem X_isub {y pc : Nat} {lv : evL} {st : List Value} {h : evH} {mi : evM} {a b : Int32} (hi : evIns y pc = some (.isub, 1)) : evX y pc lv (.int b :: .int a :: st) h mi = evX y (pc + 1) lv (.int (a - b) :: st) h mi := by
  rw [evX_step hi rfl rfl]
  rfl
theorem X_imul {y pc : Nat} {lv : evL} {st : List Value} {h : evH} {mi : evM} {a b : Int32} (hi : evIns y pc = some (.imul, 1)) : evX y pc lv (.int b :: .int a :: st) h mi = evX y (pc + 1) lv (.int (a * b) :: st) h mi := by
  rw [evX_step hi rfl rfl]
  rfl
theorem X_iand {y pc : Nat} {lv : evL} {st : List Value} {h : evH} {mi : evM} {a b : Int32} (hi : evIns y pc = some (.iand, 1)) : evX y pc lv (.int b :: .int a :: st) h mi = evX y (pc + 1) lv (.int (a &&& b) :: st) h mi := by
  rw [evX_step hi rfl rfl]
  rfl
theorem X_ior {y pc : Nat} {lv : evL} {st : List Value} {h : evH} {mi : evM} {a b : Int32} (hi : evIns y pc = some (.ior, 1)) : evX y pc lv (.int b :: .int a :: st) h mi = evX y (pc + 1) lv (.int (a ||| b) :: st) h mi := by
  rw [evX_step hi rfl rfl]
  rfl
theorem X_ixor {y pc : Nat} {lv : evL} {st : List Value} {h : evH} {mi : evM} {a b : Int32} (hi : evIns y pc = some (.ixor, 1)) : evX y pc lv (.int b :: .int a :: st) h mi = evX y (pc + 1) lv (.int (a ^^^ b) :: st) h mi := by
  rw [evX_step hi rfl rfl]
  rfl
theorem X_ishl {y pc : Nat} {lv : evL} {st : List Value} {h : evH} {mi : evM} {a b : Int32} (hi : evIns y pc = some (.ishl, 1)) : evX y pc lv (.int b :: .int a :: st) h mi = evX y (pc + 1) lv (.int (a <<< (b &&& 31)) :: st) h mi := by
  rw [evX_step hi rfl rfl]
  rfl
theorem X_ishr {y pc : Nat} {lv : evL} {st : List Value} {h : evH} {mi : evM} {a b : Int32} (hi : evIns y pc = some (.ishr, 1)) : evX y pc lv (.int b :: .int a :: st) h mi = evX y (pc + 1) lv (.int (a >>> (b &&& 31)) :: st) h mi := by
  rw [evX_step hi rfl rfl]
  rfl
theorem X_iushr {y pc : Nat} {lv : evL} {st : List Value} {h : evH} {mi : evM} {a b : Int32} (hi : evIns y pc = some (.iushr, 1)) : evX y pc lv (.int b :: .int a :: st) h mi = evX y (pc + 1) lv (.int ((a.toUInt32 >>> (b.toUInt32 &&& Int32.toUInt32 31)).toInt32) :: st) h mi := by
  rw [evX_step hi rfl rfl]
  rfl
theorem X_idiv {y pc : Nat} {lv : evL} {st : List Value} {h : evH} {mi : evM} {a b : Int32} (hi : evIns y pc = some (.idiv, 1)) (hb : ¬ b = 0) : evX y pc lv (.int b :: .int a :: st) h mi = evX y (pc + 1) lv (.int (a / b) :: st) h mi := by
  rw [evX_step hi rfl rfl]
  simp only [evStep, evPi, evIf, hb, not_false_eq_true, if_true]
  rfl
theorem X_irem {y pc : Nat} {lv : evL} {st : List Value} {h : evH} {mi : evM} {a b : Int32} (hi : evIns y pc = some (.irem, 1)) (hb : ¬ b = 0) : evX y pc lv (.int b :: .int a :: st) h mi = evX y (pc + 1) lv (.int (a - a / b * b) :: st) h mi := by
  rw [evX_step hi rfl rfl]
  simp only [evStep, evPi, evIf, hb, not_false_eq_true, if_true]
  rfl
theorem X_ineg {y pc : Nat} {lv : evL} {st : List Value} {h : evH} {mi : evM} {a : Int32} (hi : evIns y pc = some (.ineg, 1)) : evX y pc lv (.int a :: st) h mi = evX y (pc + 1) lv (.int (-a) :: st) h mi := by
  rw [evX_step hi rfl rfl]
  rfl
theorem X_ladd {y pc : Nat} {lv : evL} {st : List Value} {h : evH} {mi : evM} {a b : Int64} (hi : evIns y pc = some (.ladd, 1)) : evX y pc lv (.long b :: .long a :: st) h mi = evX y (pc + 1) lv (.long (a + b) :: st) h mi := by
  rw [evX_step hi rfl rfl]
  rfl
theorem X_lsub {y pc : Nat} {lv : evL} {st : List Value} {h : evH} {mi : evM} {a b : Int64} (hi : evIns y pc = some (.lsub, 1)) : evX y pc lv (.long b :: .long a :: st) h mi = evX y (pc + 1) lv (.long (a - b) :: st) h mi := by
  rw [evX_step hi rfl rfl]
  rfl
theorem X_land {y pc : Nat} {lv : evL} {st : List Value} {h : evH} {mi : evM} {a b : Int64} (hi : evIns y pc = some (.land, 1)) : evX y pc lv (.long b :: .long a :: st) h mi = evX y (pc + 1) lv (.long (a &&& b) :: st) h mi := by
  rw [evX_step hi rfl rfl]
  rfl
theorem X_lor {y pc : Nat} {lv : evL} {st : List Value} {h : evH} {mi : evM} {a b : Int64} (hi : evIns y pc = some (.lor, 1)) : evX y pc lv (.long b :: .long a :: st) h mi = evX y (pc + 1) lv (.long (a ||| b) :: st) h mi := by
  rw [evX_step hi rfl rfl]
  rfl
theorem X_lcmp {y pc : Nat} {lv : evL} {st : List Value} {h : evH} {mi : evM} {a b : Int64} (hi : evIns y pc = some (.lcmp, 1)) : evX y pc lv (.long b :: .long a :: st) h mi = evX y (pc + 1) lv (.int (lg_cmp a b) :: st) h mi := by
  rw [evX_step hi rfl rfl]
  rfl
theorem X_lshl {y pc : Nat} {lv : evL} {st : List Value} {h : evH} {mi : evM} {a : Int64} {b : Int32} (hi : evIns y pc = some (.lshl, 1)) : evX y pc lv (.int b :: .long a :: st) h mi = evX y (pc + 1) lv (.long (a <<< (b.toInt64 &&& 63)) :: st) h mi := by
  rw [evX_step hi rfl rfl]
  rfl
theorem X_lushr {y pc : Nat} {lv : evL} {st : List Value} {h : evH} {mi : evM} {a : Int64} {b : Int32} (hi : evIns y pc = some (.lushr, 1)) : evX y pc lv (.int b :: .long a :: st) h mi = evX y (pc + 1) lv (.long (a.toUInt64 >>> (b.toInt64.toUInt64 &&& Int64.toUInt64 63)).toInt64 :: st) h mi := by
  rw [evX_step hi rfl rfl]
  rfl
theorem X_i2l {y pc : Nat} {lv : evL} {st : List Value} {h : evH} {mi : evM} {a : Int32} (hi : evIns y pc = some (.i2l, 1)) : evX y pc lv (.int a :: st) h mi = evX y (pc + 1) lv (.long a.toInt64 :: st) h mi := by
  rw [evX_step hi rfl rfl]
  rfl
theorem X_l2i {y pc : Nat} {lv : evL} {st : List Value} {h : evH} {mi : evM} {a : Int64} (hi : evIns y pc = some (.l2i, 1)) : evX y pc lv (.long a :: st) h mi = evX y (pc + 1) lv (.int a.toInt32 :: st) h mi := by
  rw [evX_step hi rfl rfl]
  rfl
theorem X_i2f {y pc : Nat} {lv : evL} {st : List Value} {h : evH} {mi : evM} {a : Int32} (hi : evIns y pc = some (.i2f, 1)) : evX y pc lv (.int a :: st) h mi = evX y (pc + 1) lv (.float (FP.i2f a) :: st) h mi := by
  rw [evX_step hi rfl rfl]
  rfl
theorem X_i2d {y pc : Nat} {lv : evL} {st : List Value} {h : evH} {mi : evM} {a : Int32} (hi : evIns y pc = some (.i2d, 1)) : evX y pc lv (.int a :: st) h mi = evX y (pc + 1) lv (.double (FP.i2d a) :: st) h mi := by
  rw [evX_step hi rfl rfl]
  rfl
theorem X_f2i {y pc : Nat} {lv : evL} {st : List Value} {h : evH} {mi : evM} {a : UInt32} (hi : evIns y pc = some (.f2i, 1)) : evX y pc lv (.float a :: st) h mi = evX y (pc + 1) lv (.int (FP.f2i a) :: st) h mi := by
  rw [evX_step hi rfl rfl]
  rfl
theorem X_d2l {y pc : Nat} {lv : evL} {st : List Value} {h : evH} {mi : evM} {a : UInt64} (hi : evIns y pc = some (.d2l, 1)) : evX y pc lv (.double a :: st) h mi = evX y (pc + 1) lv (.long (FP.d2l a) :: st) h mi := by
  rw [evX_step hi rfl rfl]
  rfl
theorem X_fmul {y pc : Nat} {lv : evL} {st : List Value} {h : evH} {mi : evM} {a b : UInt32} (hi : evIns y pc = some (.fmul, 1)) (hn : FP.fmul a b &&& 0x7fffffff ≤ 0x7f800000) : evX y pc lv (.float b :: .float a :: st) h mi = evX y (pc + 1) lv (.float (FP.fmul a b) :: st) h mi := by
  rw [evX_step hi rfl rfl]
  simp only [evStep, evPf, evIf, hn, if_true]
  rfl
theorem X_fdiv {y pc : Nat} {lv : evL} {st : List Value} {h : evH} {mi : evM} {a b : UInt32} (hi : evIns y pc = some (.fdiv, 1)) (hn : FP.fdiv a b &&& 0x7fffffff ≤ 0x7f800000) : evX y pc lv (.float b :: .float a :: st) h mi = evX y (pc + 1) lv (.float (FP.fdiv a b) :: st) h mi := by
  rw [evX_step hi rfl rfl]
  simp only [evStep, evPf, evIf, hn, if_true]
  rfl
theorem X_dmul {y pc : Nat} {lv : evL} {st : List Value} {h : evH} {mi : evM} {a b : UInt64} (hi : evIns y pc = some (.dmul, 1)) (hn : FP.dmul a b &&& 0x7fffffffffffffff ≤ 0x7ff0000000000000) : evX y pc lv (.double b :: .double a :: st) h mi = evX y (pc + 1) lv (.double (FP.dmul a b) :: st) h mi := by
  rw [evX_step hi rfl rfl]
  simp only [evStep, evPd, evIf, hn, if_true]
  rfl
theorem X_ddiv {y pc : Nat} {lv : evL} {st : List Value} {h : evH} {mi : evM} {a b : UInt64} (hi : evIns y pc = some (.ddiv, 1)) (hn : FP.ddiv a b &&& 0x7fffffffffffffff ≤ 0x7ff0000000000000) : evX y pc lv (.double b :: .double a :: st) h mi = evX y (pc + 1) lv (.double (FP.ddiv a b) :: st) h mi := by
  rw [evX_step hi rfl rfl]
  simp only [evStep, evPd, evIf, hn, if_true]
  rfl
theorem X_fcmp {y pc : Nat} {lv : evL} {st : List Value} {h : evH} {mi : evM} {a b : UInt32} {op : CmpOp} (hi : evIns y pc = some (.fcmp op, 1)) : evX y pc lv (.float b :: .float a :: st) h mi = evX y (pc + 1) lv (.int (Op.cmpValue (FP.fcmp a b) op) :: st) h mi := by
  rw [evX_step hi rfl rfl]
  rfl
theorem X_dcmp {y pc : Nat} {lv : evL} {st : List Value} {h : evH} {mi : evM} {a b : UInt64} {op : CmpOp} (hi : evIns y pc = some (.dcmp op, 1)) : evX y pc lv (.double b :: .double a :: st) h mi = evX y (pc + 1) lv (.int (Op.cmpValue (FP.dcmp a b) op) :: st) h mi := by
  rw [evX_step hi rfl rfl]
  rfl
theorem X_dup {y pc : Nat} {lv : evL} {st : List Value} {h : evH} {mi : evM} {v : Value} (hi : evIns y pc = some (.dup, 1)) (hv : v.category = 1) : evX y pc lv (v :: st) h mi = evX y (pc + 1) lv (v :: v :: st) h mi := by
  rw [evX_step hi rfl rfl]
  simp only [evStep, evPv, evIf, hv, if_true]
  rfl
theorem X_pop {y pc : Nat} {lv : evL} {st : List Value} {h : evH} {mi : evM} {v : Value} (hi : evIns y pc = some (.pop, 1)) (hv : v.category = 1) : evX y pc lv (v :: st) h mi = evX y (pc + 1) lv (st) h mi := by
  rw [evX_step hi rfl rfl]
  simp only [evStep, evPv, evIf, hv, if_true]
  rfl
theorem X_dup2 {y pc : Nat} {lv : evL} {st : List Value} {h : evH} {mi : evM} {v u : Value} (hi : evIns y pc = some (.dup2, 1)) (hv : v.category = 1) (hu : u.category = 1) : evX y pc lv (v :: u :: st) h mi = evX y (pc + 1) lv (v :: u :: v :: u :: st) h mi := by
  rw [evX_step hi rfl rfl]
  simp only [evStep, evPv, evIf, hv, hu, and_self, if_true]
  rfl
theorem X_dup_x2 {y pc : Nat} {lv : evL} {st : List Value} {h : evH} {mi : evM} {v u w : Value} (hi : evIns y pc = some (.dup_x2, 1)) (hv : v.category = 1) (hu : u.category = 1) (hw : w.category = 1) : evX y pc lv (v :: u :: w :: st) h mi = evX y (pc + 1) lv (v :: u :: w :: v :: st) h mi := by
  rw [evX_step hi rfl rfl]
  simp only [evStep, evPv, evIf, hv, hu, hw, and_self, if_true]
  rfl
theorem X_goto {y pc : Nat} {lv : evL} {st : List Value} {h : evH} {mi : evM} {off : Int} {t : Nat} (hi : evIns y pc = some (.goto off, 3)) (ht : evJ pc off = some t) : evX y pc lv st h mi = evX y t lv st h mi := by
  rw [evX_step hi rfl rfl]
  simp only [evStep, ht, Option.bind]
theorem X_icmp_eq {y pc : Nat} {lv : evL} {st : List Value} {h : evH} {mi : evM} {a b : Int32} {off : Int} {t : Nat} (hi : evIns y pc = some (.if_icmp .eq off, 3)) (ht : evJ pc off = some t) : evX y pc lv (.int b :: .int a :: st) h mi = if a = b then evX y t lv st h mi else evX y (pc + 3) lv st h mi := by
  rw [evX_step hi rfl rfl]
  simp only [evStep, evPi, ht, Option.bind]
  by_cases hc : a = b <;> simp [evIc, hc]
theorem X_if_eq {y pc : Nat} {lv : evL} {st : List Value} {h : evH} {mi : evM} {a : Int32} {off : Int} {t : Nat} (hi : evIns y pc = some (.ifCond .eq off, 3)) (ht : evJ pc off = some t) : evX y pc lv (.int a :: st) h mi = if a = 0 then evX y t lv st h mi else evX y (pc + 3) lv st h mi := by
  rw [evX_step hi rfl rfl]
  simp only [evStep, evPi, ht, Option.bind]
  by_cases hc : a = 0 <;> simp [evIc, hc]
theorem X_icmp_ne {y pc : Nat} {lv : evL} {st : List Value} {h : evH} {mi : evM} {a b : Int32} {off : Int} {t : Nat} (hi : evIns y pc = some (.if_icmp .ne off, 3)) (ht : evJ pc off = some t) : evX y pc lv (.int b :: .int a :: st) h mi = if ¬ a = b then evX y t lv st h mi else evX y (pc + 3) lv st h mi := by
  rw [evX_step hi rfl rfl]
  simp only [evStep, evPi, ht, Option.bind]
  by_cases hc : ¬ a = b <;> simp [evIc, hc]
theorem X_if_ne {y pc : Nat} {lv : evL} {st : List Value} {h : evH} {mi : evM} {a : Int32} {off : Int} {t : Nat} (hi : evIns y pc = some (.ifCond .ne off, 3)) (ht : evJ pc off = some t) : evX y pc lv (.int a :: st) h mi = if ¬ a = 0 then evX y t lv st h mi else evX y (pc + 3) lv st h mi := by
  rw [evX_step hi rfl rfl]
  simp only [evStep, evPi, ht, Option.bind]
  by_cases hc : ¬ a = 0 <;> simp [evIc, hc]
theorem X_icmp_lt {y pc : Nat} {lv : evL} {st : List Value} {h : evH} {mi : evM} {a b : Int32} {off : Int} {t : Nat} (hi : evIns y pc = some (.if_icmp .lt off, 3)) (ht : evJ pc off = some t) : evX y pc lv (.int b :: .int a :: st) h mi = if a < b then evX y t lv st h mi else evX y (pc + 3) lv st h mi := by
  rw [evX_step hi rfl rfl]
  simp only [evStep, evPi, ht, Option.bind]
  by_cases hc : a < b <;> simp [evIc, hc]
theorem X_if_lt {y pc : Nat} {lv : evL} {st : List Value} {h : evH} {mi : evM} {a : Int32} {off : Int} {t : Nat} (hi : evIns y pc = some (.ifCond .lt off, 3)) (ht : evJ pc off = some t) : evX y pc lv (.int a :: st) h mi = if a < 0 then evX y t lv st h mi else evX y (pc + 3) lv st h mi := by
  rw [evX_step hi rfl rfl]
  simp only [evStep, evPi, ht, Option.bind]
  by_cases hc : a < 0 <;> simp [evIc, hc]
theorem X_icmp_ge {y pc : Nat} {lv : evL} {st : List Value} {h : evH} {mi : evM} {a b : Int32} {off : Int} {t : Nat} (hi : evIns y pc = some (.if_icmp .ge off, 3)) (ht : evJ pc off = some t) : evX y pc lv (.int b :: .int a :: st) h mi = if b ≤ a then evX y t lv st h mi else evX y (pc + 3) lv st h mi := by
  rw [evX_step hi rfl rfl]
  simp only [evStep, evPi, ht, Option.bind]
  by_cases hc : b ≤ a <;> simp [evIc, hc]
theorem X_if_ge {y pc : Nat} {lv : evL} {st : List Value} {h : evH} {mi : evM} {a : Int32} {off : Int} {t : Nat} (hi : evIns y pc = some (.ifCond .ge off, 3)) (ht : evJ pc off = some t) : evX y pc lv (.int a :: st) h mi = if 0 ≤ a then evX y t lv st h mi else evX y (pc + 3) lv st h mi := by
  rw [evX_step hi rfl rfl]
  simp only [evStep, evPi, ht, Option.bind]
  by_cases hc : 0 ≤ a <;> simp [evIc, hc]
theorem X_icmp_gt {y pc : Nat} {lv : evL} {st : List Value} {h : evH} {mi : evM} {a b : Int32} {off : Int} {t : Nat} (hi : evIns y pc = some (.if_icmp .gt off, 3)) (ht : evJ pc off = some t) : evX y pc lv (.int b :: .int a :: st) h mi = if b < a then evX y t lv st h mi else evX y (pc + 3) lv st h mi := by
  rw [evX_step hi rfl rfl]
  simp only [evStep, evPi, ht, Option.bind]
  by_cases hc : b < a <;> simp [evIc, hc]
theorem X_if_gt {y pc : Nat} {lv : evL} {st : List Value} {h : evH} {mi : evM} {a : Int32} {off : Int} {t : Nat} (hi : evIns y pc = some (.ifCond .gt off, 3)) (ht : evJ pc off = some t) : evX y pc lv (.int a :: st) h mi = if 0 < a then evX y t lv st h mi else evX y (pc + 3) lv st h mi := by
  rw [evX_step hi rfl rfl]
  simp only [evStep, evPi, ht, Option.bind]
  by_cases hc : 0 < a <;> simp [evIc, hc]
theorem X_icmp_le {y pc : Nat} {lv : evL} {st : List Value} {h : evH} {mi : evM} {a b : Int32} {off : Int} {t : Nat} (hi : evIns y pc = some (.if_icmp .le off, 3)) (ht : evJ pc off = some t) : evX y pc lv (.int b :: .int a :: st) h mi = if a ≤ b then evX y t lv st h mi else evX y (pc + 3) lv st h mi := by
  rw [evX_step hi rfl rfl]
  simp only [evStep, evPi, ht, Option.bind]
  by_cases hc : a ≤ b <;> simp [evIc, hc]
theorem X_if_le {y pc : Nat} {lv : evL} {st : List Value} {h : evH} {mi : evM} {a : Int32} {off : Int} {t : Nat} (hi : evIns y pc = some (.ifCond .le off, 3)) (ht : evJ pc off = some t) : evX y pc lv (.int a :: st) h mi = if a ≤ 0 then evX y t lv st h mi else evX y (pc + 3) lv st h mi := by
  rw [evX_step hi rfl rfl]
  simp only [evStep, evPi, ht, Option.bind]
  by_cases hc : a ≤ 0 <;> simp [evIc, hc]
theorem X_ifnull_0 {y pc : Nat} {lv : evL} {st : List Value} {h : evH} {mi : evM} {off : Int} {t : Nat} (hi : evIns y pc = some (.ifnull off, 3)) (ht : evJ pc off = some t) : evX y pc lv (.null :: st) h mi = evX y t lv st h mi := by
  rw [evX_step hi rfl rfl]
  simp only [evStep, evPq, ht, Option.bind]
  rfl
theorem X_ifnull_r {y pc : Nat} {lv : evL} {st : List Value} {h : evH} {mi : evM} {a : Nat} {off : Int} {t : Nat} (hi : evIns y pc = some (.ifnull off, 3)) (ht : evJ pc off = some t) : evX y pc lv (.ref a :: st) h mi = evX y (pc + 3) lv st h mi := by
  rw [evX_step hi rfl rfl]
  simp only [evStep, evPq, ht, Option.bind]
  rfl
theorem X_ifnull_q {y pc : Nat} {lv : evL} {st : List Value} {h : evH} {mi : evM} {q : Option Nat} {off : Int} {t : Nat} (hi : evIns y pc = some (.ifnull off, 3)) (ht : evJ pc off = some t) : evX y pc lv (va_rf q :: st) h mi = if q = none then evX y t lv st h mi else evX y (pc + 3) lv st h mi := by
  rw [evX_step hi rfl rfl]
  cases q <;> (simp only [evStep, va_rf, evPq, ht, Option.bind]; rfl)
theorem X_ifnonnull_0 {y pc : Nat} {lv : evL} {st : List Value} {h : evH} {mi : evM} {off : Int} {t : Nat} (hi : evIns y pc = some (.ifnonnull off, 3)) (ht : evJ pc off = some t) : evX y pc lv (.null :: st) h mi = evX y (pc + 3) lv st h mi := by
  rw [evX_step hi rfl rfl]
  simp only [evStep, evPq, ht, Option.bind]
  rfl
theorem X_ifnonnull_r {y pc : Nat} {lv : evL} {st : List Value} {h : evH} {mi : evM} {a : Nat} {off : Int} {t : Nat} (hi : evIns y pc = some (.ifnonnull off, 3)) (ht : evJ pc off = some t) : evX y pc lv (.ref a :: st) h mi = evX y t lv st h mi := by
  rw [evX_step hi rfl rfl]
  simp only [evStep, evPq, ht, Option.bind]
  rfl
theorem X_ifnonnull_q {y pc : Nat} {lv : evL} {st : List Value} {h : evH} {mi : evM} {q : Option Nat} {off : Int} {t : Nat} (hi : evIns y pc = some (.ifnonnull off, 3)) (ht : evJ pc off = some t) : evX y pc lv (va_rf q :: st) h mi = if q = none then evX y (pc + 3) lv st h mi else evX y t lv st h mi := by
  rw [evX_step hi rfl rfl]
  cases q <;> (simp only [evStep, va_rf, evPq, ht, Option.bind]; rfl)
def evSw : List (Int32 × Nat) → Nat → Int32 → Nat
  | [], d, _ => d
  | q :: r, d, x => if x = q.1 then q.2 else evSw r d x
theorem evSw_out {L : List (Int32 × Nat)} {d : Nat} {x : Int32} (h : ∀ q ∈ L, x ≠ q.1) : evSw L d x = d := by
  induction L with
  | nil => rfl
  | cons q r ih =>
    unfold evSw
    rw [if_neg (h q List.mem_cons_self)]
    exact ih (fun z hz => h z (List.mem_cons_of_mem _ hz))
theorem X_tsw {y pc len n d : Nat} {lv : evL} {st : List Value} {h : evH} {mi : evM} {x : Int32} {dflt lo hi : Int} {offs : Array Int} {L : List (Int32 × Nat)} (hi0 : evIns y pc = some (.tableswitch dflt lo hi offs, len)) (hd : evJ pc dflt = some d) (hn : hi = lo + n - 1)
    (hc : ∀ j, j < n → (offs[j]?).bind (fun off => evJ pc off) = some (evSw L d (Int32.ofInt (lo + j)))) (ho : ∀ q ∈ L, lo ≤ q.1.toInt ∧ q.1.toInt ≤ hi) : evX y pc lv (.int x :: st) h mi = evX y (evSw L d x) lv st h mi := by
  rw [evX_step hi0 rfl rfl]
  simp only [evStep, evPi]
  by_cases hx : x.toInt < lo ∨ hi < x.toInt
  · rw [if_pos hx, hd, evSw_out (fun q hq e => by have := ho q hq; rw [← e] at this; omega)]
    rfl
  · rw [if_neg hx]
    have hj : (x.toInt - lo).toNat < n := by omega
    have h1 := hc _ hj
    have h2 : lo + ((x.toInt - lo).toNat : Int) = x.toInt := by omega
    rw [h2, Int32.ofInt_toInt] at h1
    cases ho1 : offs[(x.toInt - lo).toNat]? with
    | none => rw [ho1] at h1; cases h1
    | some off =>
      rw [ho1] at h1
      have h3 : evJ pc off = some (evSw L d x) := h1
      simp only [Option.bind_some, h3]
theorem evLo_sw {ps : List (Int × Int)} {dflt : Int} {pc : Nat} {L : List (Int32 × Nat)} {d : Nat} (hd : evJ pc dflt = some d) : L.map (fun q => (some q.1.toInt, some q.2)) = ps.map (fun q => (some q.1, evJ pc q.2)) → ∀ x : Int32, evJ pc (Op.lookupswitch.offset ps dflt x.toInt) = some (evSw L d x) := by
  induction ps generalizing L with
  | nil =>
    intro hL x
    cases L with
    | nil => exact hd
    | cons q r => cases hL
  | cons q r ih =>
    intro hL x
    cases L with
    | nil => cases hL
    | cons z w =>
      simp only [List.map_cons, List.cons.injEq, Prod.mk.injEq, Option.some.injEq] at hL
      obtain ⟨⟨h1, h2⟩, h3⟩ := hL
      rw [show q :: r = (q.1, q.2) :: r from rfl, Op.lookupswitch.offset_cons]
      unfold evSw
      by_cases hx : x = z.1
      · rw [if_pos hx, if_pos (by rw [hx, h1]), ← h2]
      · rw [if_neg hx, if_neg (fun e => hx (Int32.toInt_inj.mp (by rw [h1, e])))]
        exact ih h3 x
theorem X_lsw {y pc len d : Nat} {lv : evL} {st : List Value} {h : evH} {mi : evM} {x : Int32} {dflt : Int} {ps : Array (Int × Int)} {L : List (Int32 × Nat)} (hi0 : evIns y pc = some (.lookupswitch dflt ps, len)) (hd : evJ pc dflt = some d) (hs : (ps.toList.zip (ps.toList.drop 1)).all (fun (a, next) => a.1 < next.1) = true)
    (hL : L.map (fun q => (some q.1.toInt, some q.2)) = ps.toList.map (fun q => (some q.1, evJ pc q.2))) : evX y pc lv (.int x :: st) h mi = evX y (evSw L d x) lv st h mi := by
  rw [evX_step hi0 rfl rfl]
  simp only [evStep, evPi, evIf, hs, if_true, evLo_sw hd hL x, Option.bind_some]
theorem evAt_2 {h : evH} {a k : Nat} (ha : evAt h a k) : a < evN h ∧ evK h a = k := ⟨ha.1, ha.2.2⟩
theorem X_getI {y pc : Nat} {lv : evL} {st : List Value} {h : evH} {mi : evM} {k a ci j p : Nat} {ne : Bool} (hi : evIns y pc = some (.getfield k, 3)) (hq : evF y k = some (ci, j, ne, p)) (hr : evIsR ci j = false) (ha : evAt h a ci) : evX y pc lv (.ref a :: st) h mi = evX y (pc + 3) lv (.int (mi a j) :: st) h mi := by
  rw [evX_step hi rfl rfl]
  simp only [evStep, hq, evPr, evIf, ha.1, ha.2.2, and_self, if_true, Option.bind, hr, Bool.false_eq_true, if_false]
theorem X_getR {y pc : Nat} {lv : evL} {st : List Value} {h : evH} {mi : evM} {k a ci j p : Nat} {ne : Bool} (hi : evIns y pc = some (.getfield k, 3)) (hq : evF y k = some (ci, j, ne, p)) (hr : evIsR ci j = true) (ha : evAt h a ci) : evX y pc lv (.ref a :: st) h mi = evX y (pc + 3) lv (va_rf (evR h a j) :: st) h mi := by
  rw [evX_step hi rfl rfl]
  simp only [evStep, hq, evPr, evIf, ha.1, ha.2.2, and_self, if_true, Option.bind, hr]
theorem X_putI {y pc : Nat} {lv : evL} {st : List Value} {h : evH} {mi : evM} {k a ci j p : Nat} {ne : Bool} {x : Int32} (hi : evIns y pc = some (.putfield k, 3)) (hq : evF y k = some (ci, j, ne, p)) (hr : evIsR ci j = false) (hm : evMay y ci j ne = true) (hf : evFit ci j x = true) (ha : evAt h a ci) : evX y pc lv (.int x :: .ref a :: st) h mi = evX y (pc + 3) lv st h (evSetM mi a j x) := by
  rw [evX_step hi rfl rfl]
  simp only [evStep, hq, evPi, evPr, evIf, ha.1, ha.2.2, hm, hf, and_self, if_true, Option.bind, hr, Bool.false_eq_true, if_false]
theorem X_putR {y pc : Nat} {lv : evL} {st : List Value} {h : evH} {mi : evM} {k a ci j p : Nat} {ne : Bool} {q : Option Nat} (hi : evIns y pc = some (.putfield k, 3)) (hq : evF y k = some (ci, j, ne, p)) (hr : evIsR ci j = true) (hm : evMay y ci j ne = true) (ha : evAt h a ci) : evX y pc lv (va_rf q :: .ref a :: st) h mi = evX y (pc + 3) lv st (evSetR h a j q) mi := by
  rw [evX_step hi rfl rfl]
  cases q <;> simp only [evStep, va_rf, hq, evPq, evPr, evIf, ha.1, ha.2.2, hm, and_self, if_true, Option.bind, hr]
theorem X_getS {y pc : Nat} {lv : evL} {st : List Value} {h : evH} {mi : evM} {k j p : Nat} (hi : evIns y pc = some (.getstatic k, 3)) (hq : evSt y k = some (j, p)) : evX y pc lv st h mi = evX y (pc + 3) lv (.ref (evO9 + j) :: st) h mi := by
  rw [evX_step hi rfl rfl]
  simp only [evStep, hq, Option.bind]
theorem X_iaload {y pc : Nat} {lv : evL} {st : List Value} {h : evH} {mi : evM} {a : Nat} {j : Int32} (hi : evIns y pc = some (.iaload, 1)) (ha : evAt h a 9) (h0 : ¬ j < 0) (hl : j.toNatClampNeg < evLen h a) : evX y pc lv (.int j :: .ref a :: st) h mi = evX y (pc + 1) lv (.int (mi a j.toNatClampNeg) :: st) h mi := by
  rw [evX_step hi rfl rfl]
  simp only [evStep, evPi, evPr, evRow, Nat.not_le.mpr ha.2.1, if_false, evIf, ha.1, ha.2.2, and_self, if_true, Option.bind, h0, not_false_eq_true, hl]
theorem X_ialoadS {y pc : Nat} {lv : evL} {st : List Value} {h : evH} {mi : evM} {a : Nat} {j : Int32} (hi : evIns y pc = some (.iaload, 1)) (ha : a < 3) (h0 : ¬ j < 0) (hl : j.toNatClampNeg < (evSp h a).1) : evX y pc lv (.int j :: .ref (evO9 + a) :: st) h mi = evX y (pc + 1) lv (.int ((evSp h a).2 j.toNatClampNeg) :: st) h mi := by
  rw [evX_step hi rfl rfl]
  simp only [evStep, evPi, evPr, evRow, Nat.le_add_right, Nat.add_lt_add_iff_left, Nat.add_sub_cancel_left, evIf, ha, if_true, Option.bind, h0, not_false_eq_true, hl, and_self]
theorem X_iastore {y pc : Nat} {lv : evL} {st : List Value} {h : evH} {mi : evM} {a : Nat} {j x : Int32} (hi : evIns y pc = some (.iastore, 1)) (ha : evAt h a 9) (h0 : ¬ j < 0) (hl : j.toNatClampNeg < evLen h a) : evX y pc lv (.int x :: .int j :: .ref a :: st) h mi = evX y (pc + 1) lv st h (evSetM mi a j.toNatClampNeg x) := by
  rw [evX_step hi rfl rfl]
  simp only [evStep, evPi, evPr, evIf, ha.1, ha.2.2, h0, not_false_eq_true, hl, and_self, if_true, Option.bind]
theorem X_alen {y pc : Nat} {lv : evL} {st : List Value} {h : evH} {mi : evM} {a k : Nat} (hi : evIns y pc = some (.arraylength, 1)) (ha : evAt h a k) (h1 : 9 ≤ k) (h2 : k ≤ 13) : evX y pc lv (.ref a :: st) h mi = evX y (pc + 1) lv (.int (Int32.ofNat (evLen h a)) :: st) h mi := by
  rw [evX_step hi rfl rfl]
  simp only [evStep, evPr, evALen, Nat.not_le.mpr ha.2.1, if_false, evIf, ha.1, ha.2.2, h1, h2, and_self, if_true, Option.bind]
theorem X_alenS {y pc : Nat} {lv : evL} {st : List Value} {h : evH} {mi : evM} {a : Nat} (hi : evIns y pc = some (.arraylength, 1)) (ha : a < 3) : evX y pc lv (.ref (evO9 + a) :: st) h mi = evX y (pc + 1) lv (.int (Int32.ofNat (evSp h a).1) :: st) h mi := by
  rw [evX_step hi rfl rfl]
  simp only [evStep, evPr, evALen, Nat.le_add_right, Nat.add_lt_add_iff_left, Nat.add_sub_cancel_left, evIf, ha, if_true, Option.bind]
theorem X_aaload {y pc : Nat} {lv : evL} {st : List Value} {h : evH} {mi : evM} {a k : Nat} {j : Int32} (hi : evIns y pc = some (.aaload, 1)) (ha : evAt h a k) (h1 : 10 ≤ k) (h2 : k ≤ 13) (h0 : ¬ j < 0) (hl : j.toNatClampNeg < evLen h a) : evX y pc lv (.int j :: .ref a :: st) h mi = evX y (pc + 1) lv (va_rf (evR h a j.toNatClampNeg) :: st) h mi := by
  rw [evX_step hi rfl rfl]
  simp only [evStep, evPi, evPr, evIf, ha.1, ha.2.2, h1, h2, h0, not_false_eq_true, hl, and_self, if_true, Option.bind]
theorem X_aastore {y pc : Nat} {lv : evL} {st : List Value} {h : evH} {mi : evM} {a k v : Nat} {j : Int32} (hi : evIns y pc = some (.aastore, 1)) (ha : evAt h a k) (h1 : 10 ≤ k) (h2 : k ≤ 13) (hv : evAt h v (evEl k)) (h0 : ¬ j < 0) (hl : j.toNatClampNeg < evLen h a) : evX y pc lv (.ref v :: .int j :: .ref a :: st) h mi = evX y (pc + 1) lv st (evSetR h a j.toNatClampNeg (some v)) mi := by
  rw [evX_step hi rfl rfl]
  simp only [evStep, evPi, evPr, evIf, ha.1, ha.2.2, hv.1, hv.2.2, h1, h2, h0, not_false_eq_true, hl, and_self, if_true, Option.bind]
theorem X_new {y pc : Nat} {lv : evL} {st : List Value} {h : evH} {mi : evM} {k ci p1 p2 p3 : Nat} (hi : evIns y pc = some (.new k, 3)) (hq : evWn y k = some (ci, p1, p2, p3)) (hn : evN h < evO9) : evX y pc lv st h mi = evX y (pc + 3) lv (.ref (evN h) :: st) (evNew h ci (evFN ci)) (evNewM h mi) := by
  rw [evX_step hi rfl rfl]
  simp only [evStep, hq, evIf, hn, if_true, Option.bind]
theorem X_newI {y pc : Nat} {lv : evL} {st : List Value} {h : evH} {mi : evM} {n : Int32} (hi : evIns y pc = some (.newarray .int, 2)) (hn : evN h < evO9) (h0 : ¬ n < 0) (hl : n.toNatClampNeg ≤ 100000000) : evX y pc lv (.int n :: st) h mi = evX y (pc + 2) lv (.ref (evN h) :: st) (evNew h 9 n.toNatClampNeg) (evNewM h mi) := by
  rw [evX_step hi rfl rfl]
  simp only [evStep, evPi, evIf, hn, h0, not_false_eq_true, hl, and_self, if_true, Option.bind]
theorem X_newA {y pc : Nat} {lv : evL} {st : List Value} {h : evH} {mi : evM} {k ci p1 p2 : Nat} {n : Int32} (hi : evIns y pc = some (.anewarray k, 3)) (hq : evAn y k = some (ci, p1, p2)) (hn : evN h < evO9) (h0 : ¬ n < 0) (hl : n.toNatClampNeg ≤ 100000000) : evX y pc lv (.int n :: st) h mi = evX y (pc + 3) lv (.ref (evN h) :: st) (evNew h ci n.toNatClampNeg) (evNewM h mi) := by
  rw [evX_step hi rfl rfl]
  simp only [evStep, hq, evPi, evIf, hn, h0, not_false_eq_true, hl, and_self, if_true, Option.bind]
theorem X_copy {y pc : Nat} {lv : evL} {st : List Value} {h : evH} {mi : evM} {k a b p1 p2 p3 p4 : Nat} {sp dp n : Int32} (hi : evIns y pc = some (.invokestatic k, 3)) (hcn : evCl y k = none) (hq : evNa y k = some (0, p1, p2, p3, p4)) (hr : 1 ≤ evFr y) (hr2 : 26 ≤ evLo y) (ha : evAt h a 9) (hb : evAt h b 9) (h1 : ¬ sp < 0) (h2 : ¬ dp < 0) (h3 : ¬ n < 0) (h4 : sp.toNatClampNeg + n.toNatClampNeg ≤ evLen h b) (h5 : dp.toNatClampNeg + n.toNatClampNeg ≤ evLen h a) (h6 : evCs st ≤ 8) : evX y pc lv (.int n :: .int dp :: .ref a :: .int sp :: .ref b :: st) h mi = evX y (pc + 3) lv st h (evRowM mi a (va_cpy (mi b) (mi a) sp.toNatClampNeg dp.toNatClampNeg n.toNatClampNeg)) := by
  rw [evX_step hi rfl (by simp only [evCall, hcn]; rfl)]
  simp only [evStep, hq, evPi, evPr, evIf, hr, hr2, ha.1, ha.2.2, hb.1, hb.2.2, h1, h2, h3, not_false_eq_true, h4, h5, h6, and_self, if_true, Option.bind]
theorem X_f2raw {y pc : Nat} {lv : evL} {st : List Value} {h : evH} {mi : evM} {k p1 p2 p3 p4 : Nat} {x : UInt32} (hi : evIns y pc = some (.invokestatic k, 3)) (hcn : evCl y k = none) (hq : evNa y k = some (1, p1, p2, p3, p4)) (hr : 1 ≤ evFr y) (hr2 : 26 ≤ evLo y) (h6 : evCs st ≤ 8) : evX y pc lv (.float x :: st) h mi = evX y (pc + 3) lv (.int x.toInt32 :: st) h mi := by
  rw [evX_step hi rfl (by simp only [evCall, hcn]; rfl)]
  simp only [evStep, hq, evPf, evIf, hr, hr2, h6, and_self, if_true, Option.bind]
theorem X_d2raw {y pc : Nat} {lv : evL} {st : List Value} {h : evH} {mi : evM} {k p1 p2 p3 p4 : Nat} {x : UInt64} (hi : evIns y pc = some (.invokestatic k, 3)) (hcn : evCl y k = none) (hq : evNa y k = some (2, p1, p2, p3, p4)) (hr : 1 ≤ evFr y) (hr2 : 26 ≤ evLo y) (h6 : evCs st ≤ 8) : evX y pc lv (.double x :: st) h mi = evX y (pc + 3) lv (.long x.toInt64 :: st) h mi := by
  rw [evX_step hi rfl (by simp only [evCall, hcn]; rfl)]
  simp only [evStep, hq, evPd, evIf, hr, hr2, h6, and_self, if_true, Option.bind]
theorem X_obj {y pc : Nat} {lv : evL} {st : List Value} {h : evH} {mi : evM} {k a p1 p2 p3 p4 : Nat} (hi : evIns y pc = some (.invokespecial k, 3)) (hcn : evCl y k = none) (hq : evNa y k = some (3, p1, p2, p3, p4)) (hr : 1 ≤ evFr y) (hr2 : 20 ≤ evLo y) (h6 : evCs st ≤ 8) : evX y pc lv (.ref a :: st) h mi = evX y (pc + 3) lv st h mi := by
  rw [evX_step hi rfl (by simp only [evCall, hcn]; rfl)]
  simp only [evStep, hq, evPr, evIf, hr, hr2, h6, and_self, if_true, Option.bind]
theorem X_ret {y pc : Nat} {lv : evL} {h : evH} {mi : evM} (hi : evIns y pc = some (.return_, 1)) (hr : evRet y = none) : evX y pc lv [] h mi = some (none, h, mi) := by
  refine evX_end hi ?_
  simp only [evEnd, evIf, hr, if_true]
theorem X_iret {y pc : Nat} {lv : evL} {h : evH} {mi : evM} {x : Int32} (hi : evIns y pc = some (.ireturn, 1)) (hr : evRet y = some .int) : evX y pc lv [.int x] h mi = some (some (.int x), h, mi) := by
  refine evX_end hi ?_
  simp only [evEnd, hr, evIf]
  exact if_pos rfl
theorem X_zret {y pc : Nat} {lv : evL} {h : evH} {mi : evM} {x : Int32} (hi : evIns y pc = some (.ireturn, 1)) (hr : evRet y = some .boolean) (hx : x &&& 1 = x) : evX y pc lv [.int x] h mi = some (some (.int x), h, mi) := by
  refine evX_end hi ?_
  simp only [evEnd, hr, evIf]
  exact if_pos (by show Value.int (x &&& 1) = _; rw [hx])
theorem X_lret {y pc : Nat} {lv : evL} {h : evH} {mi : evM} {x : Int64} (hi : evIns y pc = some (.lreturn, 1)) (hr : evRet y = some .long) : evX y pc lv [.long x] h mi = some (some (.long x), h, mi) := by
  refine evX_end hi ?_
  simp only [evEnd, evIf, hr, if_true]
theorem X_aret {y pc : Nat} {lv : evL} {h : evH} {mi : evM} {q : Option Nat} {C : String} (hi : evIns y pc = some (.areturn, 1)) (hr : evRet y = some (.object C)) : evX y pc lv [va_rf q] h mi = some (some (va_rf q), h, mi) := by
  refine evX_end hi ?_
  cases q <;> simp only [evEnd, va_rf, hr]
theorem evCl3 {y k a b c : Nat} (h : (evCl y k).map (fun q => (q.1, q.2.1, q.2.2.1)) = some (a, b, c)) : ∃ q, evCl y k = some (a, b, c, q) := by
  cases hq : evCl y k with
  | none => rw [hq] at h; cases h
  | some z =>
    rw [hq] at h
    obtain ⟨z1, z2, z3, z4⟩ := z
    simp only [Option.map_some, Option.some.injEq, Prod.mk.injEq] at h
    obtain ⟨rfl, rfl, rfl⟩ := h
    exact ⟨z4, rfl⟩
theorem X_callV {y pc : Nat} {lv : evL} {st As : List Value} {h : evH} {mi : evM} {k y' n a ci : Nat} (hi : evIns y pc = some (.invokevirtual k, 3)) (hq0 : (evCl y k).map (fun q => (q.1, q.2.1, q.2.2.1)) = some (0, y', n)) (h1 : evFr y' + 1 ≤ evFr y) (h2 : 19 + evML y' + evLo y' ≤ evLo y) (h3 : As.length = n) (hci : evOw y' = ci) (h9 : ci < 8) (h8 : evCs st ≤ 8) (h7 : 1 + evCs As ≤ evML y') (ha : evAt h a ci) :
    evX y pc lv (As ++ .ref a :: st) h mi = evBd (evX y' 0 (lv_args 0 (.ref a :: As.reverse)) [] h mi) fun r h' mi' => evX y (pc + 3) lv (r.toList ++ st) h' mi' := by
  obtain ⟨q, hq⟩ := evCl3 hq0
  subst h3; subst hci
  refine evX_call (c := (y', .ref a :: As.reverse, st)) hi rfl ?_
  have e1 : (As ++ .ref a :: st).drop As.length = .ref a :: st := List.drop_left
  have e2 : (As ++ .ref a :: st).take As.length = As := List.take_left
  have e3 : As.length ≤ (As ++ Value.ref a :: st).length := by rw [List.length_append]; omega
  simp only [evCall, hq, Option.bind, evIf, h1, h2, e1, e2, e3, evPr, ha.1, ha.2.2, h9, h8, h7, and_self, if_true]
theorem X_callS {y pc : Nat} {lv : evL} {st As : List Value} {h : evH} {mi : evM} {k y' n : Nat} (hi : evIns y pc = some (.invokestatic k, 3)) (hq0 : (evCl y k).map (fun q => (q.1, q.2.1, q.2.2.1)) = some (1, y', n)) (h1 : evFr y' + 1 ≤ evFr y) (h2 : 19 + evML y' + evLo y' ≤ evLo y) (h3 : As.length = n) (h8 : evCs st ≤ 8) (h7 : evCs As ≤ evML y') :
    evX y pc lv (As ++ st) h mi = evBd (evX y' 0 (lv_args 0 As.reverse) [] h mi) fun r h' mi' => evX y (pc + 3) lv (r.toList ++ st) h' mi' := by
  obtain ⟨q, hq⟩ := evCl3 hq0
  subst h3
  refine evX_call (c := (y', As.reverse, st)) hi rfl ?_
  have e1 : (As ++ st).drop As.length = st := List.drop_left
  have e2 : (As ++ st).take As.length = As := List.take_left
  have e3 : As.length ≤ (As ++ st).length := by rw [List.length_append]; omega
  simp only [evCall, hq, Option.bind, evIf, h1, h2, e1, e2, e3, h8, h7, and_self, if_true]
theorem X_callI {y pc : Nat} {lv : evL} {st As : List Value} {h : evH} {mi : evM} {k y' n a : Nat} (hi : evIns y pc = some (.invokespecial k, 3)) (hq0 : (evCl y k).map (fun q => (q.1, q.2.1, q.2.2.1)) = some (2, y', n)) (h1 : evFr y' + 1 ≤ evFr y) (h2 : 19 + evML y' + evLo y' ≤ evLo y) (h3 : As.length = n) (h8 : evCs st ≤ 8) (h7 : 1 + evCs As ≤ evML y') :
    evX y pc lv (As ++ .ref a :: st) h mi = evBd (evX y' 0 (lv_args 0 (.ref a :: As.reverse)) [] h mi) fun r h' mi' => evX y (pc + 3) lv (r.toList ++ st) h' mi' := by
  obtain ⟨q, hq⟩ := evCl3 hq0
  subst h3
  refine evX_call (c := (y', .ref a :: As.reverse, st)) hi rfl ?_
  have e1 : (As ++ .ref a :: st).drop As.length = .ref a :: st := List.drop_left
  have e2 : (As ++ .ref a :: st).take As.length = As := List.take_left
  have e3 : As.length ≤ (As ++ Value.ref a :: st).length := by rw [List.length_append]; omega
  simp only [evCall, hq, Option.bind, evIf, h1, h2, e1, e2, e3, evPr, h8, h7, and_self, if_true]
end EVEq
/-- a loop whose index goes up: every round goes on to the next -/
theorem loop_up {α : Type} {G : Nat → α} {n : Nat} (hs : ∀ k, k < n → G k = G (k + 1)) : G 0 = G n := by
  have : ∀ j, j ≤ n → G 0 = G j := by
    intro j
    induction j with
    | zero => intro _; rfl
    | succ j ih => intro hj; rw [ih (by omega), hs j (by omega)]
  exact this n (Nat.le_refl n)
