section EVCa
theorem ev_ofW {l : Launch} {y : MethodName} {ws ws' : List Cond} {rm : Room} {Pc : Array Value → State → Prop} {Qc : Array Value → State → Outcome → State → Prop} {mc ms : Nat} {free : Addr → Prop} {cc : ByteArray} {maxL : Nat} {ret : Option FieldType}
    (hy : plainFor y = true) (hw : ws = Cond.code y cc maxL ret :: ws')
    (body : ∀ p e s m args below meth c s₁, BodyLoose p l y (headSpec ws rm) cc maxL ret e s m args below meth c s₁ → c.maxLocals = maxL → Pc args s →
      W p l e (headSpec ws rm).room s m args below meth c s.heap [] 0 0 (MQ below Qc args s mc ms free) (entryFrame m args maxL)) : Met l y ws rm Pc Qc mc ms free := by
  refine MetFree.of_bodySF (code := cc) (maxLocals := maxL) (ret := ret) hy ?_ ?_
  · intro args s m h hn
    obtain ⟨meth, c, h1, h2, h3, h4, h5, h6, -, -⟩ := Cond.code_spec hn (atoms_spec (ws := ws) h _ (by rw [hw]; exact List.mem_cons_self))
    exact ⟨meth, c, h1, h2, h3, h4, h5, h6⟩
  · intro p e s m args below meth c s₁ B hml hP _
    have hh0 : s₁.heap = s.heap := by rw [B.state]; rfl
    obtain ⟨t, a1, o, b1, b2, b3⟩ := body p e s m args below meth c s₁ B hml hP s₁ hh0 (Stand.of_body B)
    exact ⟨t, o, a1, b1, b2, ⟨b3.1, b3.2⟩⟩
/-- what a run of n steps promises of the machine -/
def evGood (l : Launch) (n : Nat) : Prop := ∀ {y pc : Nat} {lv : evL} {st : List Value} {h : evH} {mi : evM} {o : evO}, evRun n y pc lv st h mi = some o →
  ∀ {p : Program} {e : Env} {R : Room} {s : State} {m : MethodId} {args : Array Value} {below : List Frame} {meth : Method} {c : Code} {Q : State → Prop} {B : Nat} {S : Nat → Nat} {D : va_G} {dA : Nat → ClassId} {sp : Nat → Nat × (Nat → Int32)} {n0 s0 : Nat} {H : Heap} {locs : List Loc} {ls : Array Slot},
  evOK p R s m args meth c y → evFx B S D dA sp s s.heap → evHW B S D dA sp h mi H → va_S (fun q => B ≤ q) s.heap H locs → lv_has ls (evML y) (evLm B S lv) → n0 ≤ evN h → s0 ≤ evSl h → evN o.2.1 - n0 ≤ R.cells → evSl o.2.1 - s0 ≤ R.slots →
  (∀ (pc' : Nat) (i' : Instr) (st' : List Value) (H' : Heap) (locs' : List Loc) (ls' : Array Slot), decode (evCode y) pc' = .ok (i', 1) → evEnd y i' st' = some o.1 → evHW B S D dA sp o.2.1 o.2.2 H' → va_S (fun q => B ≤ q) s.heap H' locs' →
    W p l e R s m args below meth c H' locs' (evN o.2.1 - n0) (evSl o.2.1 - s0) Q (F0 m pc' ls' (st'.map (evV B S)))) →
  W p l e R s m args below meth c H locs (evN h - n0) (evSl h - s0) Q (F0 m pc ls (st.map (evV B S)))
theorem evEnd_len {y len : Nat} {i : Instr} {st : List Value} {r : Option Value} (he : evEnd y i st = some r) (hl : evLenOk i len = true) : len = 1 := by
  cases i <;> first | (cases he; done) | (simpa [evLenOk] using hl)
set_option maxHeartbeats 1000000 in
set_option maxRecDepth 100000 in
theorem ev_met {l : Launch} {n : Nat} (G : evGood l n) {y : Nat} {h : evH} {mi : evM} {o : evO} {As : List Value} {B : Nat} {S : Nat → Nat} {D : va_G} {dA : Nat → ClassId} {sp : Nat → Nat × (Nat → Int32)} (hy : y < evLawN) (hr : evRun n y 0 (lv_args 0 As) [] h mi = some o) (hA : evCs As ≤ evML y) :
    Met l (evName y) (evWs y) ({ frames := evFr y, cells := evN o.2.1 - evN h, slots := evSl o.2.1 - evSl h, locals := evLo y } : Room) (evPc B S D dA sp h mi As) (evQc B S D dA sp o) (evN o.2.1 - evN h) (evSl o.2.1 - evSl h) (fun q => B ≤ q) := by
  refine ev_ofW (evPlain y hy) rfl ?_
  intro p e s m args below meth c s₁ Bd hml hv
  obtain ⟨rfl, hw, fx⟩ := hv
  have hts : ∀ w ∈ evWs y, w.before _ s = true := atoms_spec (ws := evWs y) Bd.pre
  have hown : s.vm.findClass (evName y).cls = some m.cls := findClass_of_methodNamed Bd.named
  rw [evOw_ok y hy] at hown
  have hnm := (name_of_methodNamed Bd.named Bd.method).1
  have ok : evOK p ({ frames := evFr y, cells := evN o.2.1 - evN h, slots := evSl o.2.1 - evSl h, locals := evLo y } : Room) s m _ meth c y := ⟨Bd.exec, Bd.bytes, hml, hown, fun w hw => hts w (List.mem_cons_of_mem _ hw), fun e1 => hnm.trans e1, Nat.le_refl _, Nat.le_refl _⟩
  have hl := lv_entry (As.map (evV B S)) (n := evML y) (by rw [lg_sl_len, evCs_map]; exact hA)
  rw [evArgs_map] at hl
  rw [lg_entry_eq]
  generalize (lg_sl (As.map (evV B S)) ++ List.replicate (evML y - (lg_sl (As.map (evV B S))).length) Slot.unset).toArray = ls at hl ⊢
  have key := G hr (n0 := evN h) (s0 := evSl h) (Q := MQ below (evQc B S D dA sp o) (As.map (evV B S)).toArray s (evN o.2.1 - evN h) (evSl o.2.1 - evSl h) (fun q => B ≤ q)) ok fx hw (va_S.rf (A := fun q => B ≤ q)) hl (Nat.le_refl _) (Nat.le_refl _) (Nat.le_refl _) (Nat.le_refl _) ?_ (p := p) (e := e) (below := below)
  · rw [Nat.sub_self, Nat.sub_self] at key
    exact key
  · intro pc' i' st' H' locs' ls' hd he hw' hS'
    have hq : ∀ t : State, t.heap = H' → s.WarmedH t.vm → evQc B S D dA sp o (As.map (evV B S)).toArray s (.returned (o.1.map (evV B S))) t := by
      intro t ht hW
      refine ⟨rfl, by rw [ht]; exact hw', ?_, by rw [ht]; exact hS'.1, fun q h1 h2 => by rw [ht]; exact hS'.2.1 q h1 h2⟩
      rw [ht]
      exact evFx_moved fx hW hS'.1 (fun q hq => hS'.2.1 q (Nat.lt_of_lt_of_le hq fx.2.1) (Nat.not_le.mpr hq))
    have hx := Bd.exec
    have hb := Bd.bytes
    have hrt := Bd.returns
    have hlk := Bd.notSynchronized
    cases i' with
    | return_ =>
      simp only [evEnd] at he
      split at he
      · replace he := evIf_of he
        obtain ⟨h1, he⟩ := he
        cases he' : o.1 with
        | some z => rw [he'] at he; cases he
        | none =>
          rw [he'] at hq
          exact W.vret hx hb (by rw [hrt]; exact h1) hq hS'.2.2 hd hlk
      · cases he
    | ireturn =>
      simp only [evEnd] at he
      split at he
      · rename_i x t h1
        replace he := evIf_of he
        obtain ⟨h2, he⟩ := he
        have he' : o.1 = some (.int x) := (Option.some.inj he).symm
        rw [he'] at hq
        exact W.zret hx hb (by rw [hrt]; exact h1) h2 hq hS'.2.2 hd hlk
      · cases he
    | lreturn =>
      simp only [evEnd] at he
      split at he
      · rename_i x
        replace he := evIf_of he
        obtain ⟨h2, he⟩ := he
        have he' : o.1 = some (.long x) := (Option.some.inj he).symm
        rw [he'] at hq
        exact W.lret hx hb (by rw [hrt]; exact h2) hq hS'.2.2 hd hlk
      · cases he
    | areturn =>
      simp only [evEnd] at he
      split at he
      · rename_i a q0 h1
        have he' : o.1 = some (.ref a) := (Option.some.inj he).symm
        rw [he'] at hq
        exact W.aret hx hb (by rw [hrt]; exact h1) (Or.inl ⟨_, rfl⟩) (Or.inr ⟨_, rfl⟩) hq hS'.2.2 hd hlk
      · rename_i q0 h1
        have he' : o.1 = some .null := (Option.some.inj he).symm
        rw [he'] at hq
        exact W.aret hx hb (by rw [hrt]; exact h1) (Or.inl ⟨_, rfl⟩) (Or.inl rfl) hq hS'.2.2 hd hlk
      · cases he
    | _ => cases he
end EVCa
