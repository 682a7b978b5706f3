/-! what the evaluator answers, the machine does -/
set_option maxHeartbeats 1000000 in
theorem ev_mono {y pc : Nat} {i : Instr} {lv : evL} {st : List Value} {h : evH} {mi : evM} {s' : evC} (he : evStep y pc i lv st h mi = some s') : evN h ≤ evN s'.2.2.2.1 ∧ evSl h ≤ evSl s'.2.2.2.1 := by
  cases i <;> simp only [evStep] at he <;> first
    | (cases he; done)
    | (repeat (first
        | (replace he := evPi_of he; obtain ⟨_, _, -, he⟩ := he)
        | (replace he := evPl_of he; obtain ⟨_, _, -, he⟩ := he)
        | (replace he := evPf_of he; obtain ⟨_, _, -, he⟩ := he)
        | (replace he := evPd_of he; obtain ⟨_, _, -, he⟩ := he)
        | (replace he := evPr_of he; obtain ⟨_, _, -, he⟩ := he)
        | (replace he := evPq_of he; obtain ⟨_, _, -, he⟩ := he)
        | (replace he := evPv_of he; obtain ⟨_, _, -, he⟩ := he)
        | (replace he := evIf_of he; obtain ⟨-, he⟩ := he)
        | (replace he := evB_of he; obtain ⟨_, -, he⟩ := he)
        | split at he
        | (cases he; done)
        | (cases he; first | exact ⟨Nat.le_refl _, Nat.le_refl _⟩ | exact ⟨Nat.le_succ _, Nat.le_add_right _ _⟩)))
theorem ev_bind {α β : Type} {x : Option α} {f : α → Option β} {z : β} (h : x.bind f = some z) : ∃ b, x = some b ∧ f b = some z := evB_of h
theorem evRun_mono (n : Nat) : ∀ {y pc : Nat} {lv : evL} {st : List Value} {h : evH} {mi : evM} {o : evO}, evRun n y pc lv st h mi = some o → evN h ≤ evN o.2.1 ∧ evSl h ≤ evSl o.2.1 := by
  induction n with
  | zero => intro y pc lv st h mi o ho; cases ho
  | succ n ih =>
    intro y pc lv st h mi o ho
    unfold evRun at ho
    obtain ⟨q, -, ho⟩ := ev_bind ho
    split at ho
    · cases ho
      exact ⟨Nat.le_refl _, Nat.le_refl _⟩
    · split at ho
      · obtain ⟨o1, h1, ho⟩ := ev_bind ho
        have a := ih h1
        have b := ih ho
        exact ⟨Nat.le_trans a.1 b.1, Nat.le_trans a.2 b.2⟩
      · obtain ⟨s1, h1, ho⟩ := ev_bind ho
        have a := ev_mono h1
        have b := ih ho
        exact ⟨Nat.le_trans a.1 b.1, Nat.le_trans a.2 b.2⟩
/-- more fuel, the same answer -/
theorem evRun_more (n : Nat) : ∀ {y pc : Nat} {lv : evL} {st : List Value} {h : evH} {mi : evM} {o : evO}, evRun n y pc lv st h mi = some o → ∀ k, n ≤ k → evRun k y pc lv st h mi = some o := by
  induction n with
  | zero => intro y pc lv st h mi o ho; cases ho
  | succ n ih =>
    intro y pc lv st h mi o ho k hk
    obtain ⟨k, rfl⟩ : ∃ j, k = j + 1 := ⟨k - 1, by omega⟩
    have hk' : n ≤ k := by omega
    unfold evRun at ho ⊢
    obtain ⟨q, hq, ho⟩ := ev_bind ho
    rw [hq]
    show (match evEnd y q.1 st with | some r => some (r, h, mi) | none => _) = some o
    split at ho
    · rename_i r hr
      rw [hr]
      exact ho
    · rename_i hr
      rw [hr]
      show (match evCall y q.1 st h with | some c => _ | none => _) = some o
      split at ho
      · rename_i c hc
        rw [hc]
        obtain ⟨o1, h1, ho⟩ := ev_bind ho
        show (evRun k c.1 0 (lv_args 0 c.2.1) [] h mi).bind _ = some o
        rw [ih h1 k hk']
        exact ih ho k hk'
      · rename_i hc
        rw [hc]
        obtain ⟨s1, h1, ho⟩ := ev_bind ho
        show (evStep y pc q.1 lv st h mi).bind _ = some o
        rw [h1]
        exact ih ho k hk'
def evWs (y : Nat) : List Cond := Cond.code (evName y) (evCode y) (evML y) (evRet y) :: evTb
def evPc (B : Nat) (S : Nat → Nat) (D : va_G) (dA : Nat → ClassId) (sp : Nat → Nat × (Nat → Int32)) (h : evH) (mi : evM) (As : List Value) : Array Value → State → Prop := fun a U => a = (As.map (evV B S)).toArray ∧ evHW B S D dA sp h mi U.heap ∧ evFx B S D dA sp U U.heap
def evQc (B : Nat) (S : Nat → Nat) (D : va_G) (dA : Nat → ClassId) (sp : Nat → Nat × (Nat → Int32)) (o : evO) : Array Value → State → Outcome → State → Prop := fun _ st oc t => oc = .returned (o.1.map (evV B S)) ∧ evHW B S D dA sp o.2.1 o.2.2 t.heap ∧ evFx B S D dA sp t t.heap ∧ st.heap.size ≤ t.heap.size ∧ ∀ q : Nat, q < st.heap.size → ¬ B ≤ q → t.heap[q]? = st.heap[q]?
theorem evPc_blind {B : Nat} {S : Nat → Nat} {D : va_G} {dA : Nat → ClassId} {sp : Nat → Nat × (Nat → Int32)} {h : evH} {mi : evM} {As : List Value} : FrameBlind (evPc B S D dA sp h mi As) := by
  intro a U g mk hp
  exact ⟨hp.1, hp.2.1, evFx_moved (s := U) (U := U.calling g mk a) hp.2.2 (State.WarmedH.refl U) (Nat.le_refl _) (fun _ _ => rfl)⟩
theorem lg_sl_len (vs : List Value) : (lg_sl vs).length = (vs.map fun v => v.category).sum := by
  induction vs with
  | nil => rfl
  | cons v t ih =>
    have e : lg_sl (v :: t) = (if v.category = 2 then [Slot.val v, .second] else [.val v]) ++ lg_sl t := by
      unfold lg_sl
      rw [List.flatMap_cons]
    rw [e, List.length_append, ih, List.map_cons, List.sum_cons]
    rcases lv_cat v with hc | hc <;> simp [hc]
theorem evArgs_map {B : Nat} {S : Nat → Nat} : ∀ (vs : List Value) (i : Nat), lv_args i (vs.map (evV B S)) = evLm B S (lv_args i vs) := by
  intro vs
  induction vs with
  | nil => intro i; rfl
  | cons v t ih =>
    intro i
    show (i, evV B S v) :: lv_args (if (evV B S v).category = 2 then i + 2 else i + 1) (t.map (evV B S)) = (i, evV B S v) :: evLm B S (lv_args (if v.category = 2 then i + 2 else i + 1) t)
    rw [evV_cat, ih]
set_option maxRecDepth 100000 in
theorem evPlain : ∀ y, y < evLawN → plainFor (evName y) = true := by decide +kernel
theorem evM_at {y : Nat} (hy : y < evLawN) : ∃ q, evMT[y]? = some q ∧ q = (evName y, evCode y, evML y, evRet y, evOw y, evFr y, evLo y) := by
  have hl : y < evMT.length := Nat.lt_of_lt_of_le hy (by decide +kernel)
  refine ⟨evMT[y], List.getElem?_eq_getElem hl, ?_⟩
  have : evMT.getD y evM0 = evMT[y] := by rw [List.getD_eq_getElem?_getD, List.getElem?_eq_getElem hl]; rfl
  unfold evName evCode evML evRet evOw evFr evLo
  rw [this]
theorem evCodeIn {y : Nat} (hy : y < evLawN) : Cond.code (evName y) (evCode y) (evML y) (evRet y) ∈ evTb := by
  obtain ⟨q, hq, rfl⟩ := evM_at hy
  exact evTb_in (evMT_ok y _ hy hq) rfl
theorem evWs_in {y : Nat} (hy : y < evLawN) : ∀ w ∈ evWs y, w ∈ evTb := by
  intro w hw
  rcases List.mem_cons.mp hw with rfl | hw
  · exact evCodeIn hy
  · exact hw
theorem evCl_of {y i : Nat} {q : Nat × Nat × Nat × Bool × Nat × Nat × Nat × Nat} (h : evCl y i = some q) :
    ((q.2.2.2.1 = true ∧ Cond.methodLinkNest (evOs (evOw y)) i (evName q.2.1) "EchoBids" ∈ lw_tbl) ∨ (q.2.2.2.1 = false ∧ Cond.methodLink (evOs (evOw y)) i (evName q.2.1) ∈ lw_tbl)) ∧
    (q.1 = 1 → Cond.static (evName q.2.1) ∈ lw_tbl) ∧ (q.1 ≠ 1 → Cond.instanceMethod (evName q.2.1) ∈ lw_tbl) ∧ (q.1 = 0 → Cond.selects (evName q.2.1).cls (evName q.2.1) (evName q.2.1) ∈ lw_tbl) ∧ Cond.initialized (evName q.2.1).cls ∈ lw_tbl ∧
    ((evName q.2.1).cls ≠ "java/lang/invoke/MethodHandle" ∧ (evName q.2.1).cls ≠ "java/lang/invoke/VarHandle" ∧ (parseMethodDescriptor (evName q.2.1).desc).map (fun d => d.parameters.length) = some q.2.2.1) ∧
    (q.1 = 2 → (evName q.2.1).name = "<init>" ∧ evRet q.2.1 = none) ∧ q.2.1 < evLawN ∧ (evName q.2.1).cls = evOs (evOw q.2.1) := by
  obtain ⟨e, he, hp, rfl⟩ := ev_find h
  obtain ⟨h1, h2⟩ := ev_two hp
  have hk := List.all_eq_true.mp evCT_ok e he
  obtain ⟨o, j, kd, y', n, ne, pl, pb, pc, pd⟩ := e
  dsimp only at h1 h2 ⊢
  subst h1; subst h2
  unfold evCokB at hk
  simp only [Bool.and_eq_true, decide_eq_true_eq] at hk
  obtain ⟨⟨⟨⟨⟨⟨⟨⟨g1, g2⟩, g3⟩, g4⟩, g5⟩, g6⟩, g7⟩, g8⟩, g9⟩ := hk
  refine ⟨?_, fun e1 => ?_, fun e1 => ?_, fun e1 => ?_, List.mem_of_getElem? g4, g5, fun e1 => ?_, g7, g9⟩
  · cases ne with
    | true => exact Or.inl ⟨rfl, List.mem_of_getElem? (of_decide_eq_true g1)⟩
    | false => exact Or.inr ⟨rfl, List.mem_of_getElem? (of_decide_eq_true g1)⟩
  · rw [if_pos e1] at g2
    exact List.mem_of_getElem? (of_decide_eq_true g2)
  · rw [if_neg e1] at g2
    exact List.mem_of_getElem? (of_decide_eq_true g2)
  · rw [if_pos e1] at g3
    exact List.mem_of_getElem? (of_decide_eq_true g3)
  · rw [if_pos e1] at g6
    simpa using g6
