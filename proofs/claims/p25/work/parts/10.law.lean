/-! from a run of the evaluator to the law's walk -/
def evSp0 (L : Nat) (xs : Nat → Int32) : Nat → Nat × (Nat → Int32) := fun k => match k with
  | 0 => (4, evGv 0)
  | 1 => (4, evGv 1)
  | _ => (L, xs)
/-- the world at the law's entry: no cell -/
def evH0 (L : Nat) (xs : Nat → Int32) : evH := (0, 0, (fun _ => (0, 0)), (fun _ _ => none), evSp0 L xs)
/-- the law's run, as the evaluator does it: it answers 1 -/
def evLaw (L : Nat) (xs : Nat → Int32) : Prop := ∃ (n : Nat) (o : evO), evRun n evLawN 0 [(0, .ref (evO9 + 2))] [] (evH0 L xs) (fun _ _ => 0) = some o ∧ o.1 = some (.int 1) ∧ evN o.2.1 ≤ 632000 ∧ evSl o.2.1 ≤ 3800000
theorem ev_eqt {args : Array Value} {s : State} {tm : Term} {z : Int32} (h : (Cond.eq tm (.int z)).before args s = true) : tm.eval args s none [] s = some (.int z) := by
  obtain ⟨w, h1, h2⟩ := Cond.eq_one (show (Cond.eq tm (.int z)).holds args s none s [] = true from h)
  cases h2
  exact h1
theorem ev_static {args : Array Value} {s : State} {n : String} {f : Nat → Int32} (hl : (Cond.laysStatic "EchoBids" n "[I").before args s = true) (hini : (Cond.initialized "EchoBids").before args s = true) (harr : (Cond.arrayOf (.static "EchoBids" n "[I") .int).before args s = true) (hlen : (Cond.eq (.length (.static "EchoBids" n "[I")) (.int 4)).before args s = true)
    (h0 : (Cond.eq (.elem (.static "EchoBids" n "[I") (.int 0)) (.int (f 0))).before args s = true) (h1 : (Cond.eq (.elem (.static "EchoBids" n "[I") (.int 1)) (.int (f 1))).before args s = true) (h2 : (Cond.eq (.elem (.static "EchoBids" n "[I") (.int 2)) (.int (f 2))).before args s = true) (h3 : (Cond.eq (.elem (.static "EchoBids" n "[I") (.int 3)) (.int (f 3))).before args s = true) :
    ∃ t : Nat, va_T .int t 4 (fun j => .int (f j)) (fun q => s.heap.size ≤ q) s s.heap ∧ va_Z "EchoBids" n "[I" (.ref t) (fun q => s.heap.size ≤ q) s s.heap := by
  have hA : ∀ a : Nat, a < s.heap.size → ¬ s.heap.size ≤ a := fun a h => Nat.not_le.mpr h
  obtain ⟨t, e1, e2⟩ := va_Tof (ty := .int) (N := 4) (f := fun j => .int (f j)) (A := fun q => s.heap.size ≤ q) (by decide) harr (ev_eqt hlen) (fun j hj => by
    rcases (show j = 0 ∨ j = 1 ∨ j = 2 ∨ j = 3 by omega) with rfl | rfl | rfl | rfl
    · exact ev_eqt h0
    · exact ev_eqt h1
    · exact ev_eqt h2
    · exact ev_eqt h3) hA
  exact ⟨t, e2, va_Zof hl hini e1 hA⟩
def evNstB (w : Cond) : Bool := match w with
  | .fieldLinkNest .. => true
  | .methodLinkNest .. => true
  | .arrayOver _ => true
  | _ => false
set_option maxHeartbeats 4000000 in
set_option maxRecDepth 100000 in
theorem ev_start (hrun : ∀ (L : Nat) (xs : Nat → Int32), L ≤ 260 → evLaw L xs) {p : Program} {e : Env} {s : State} {m : MethodId} {below : List Frame} {meth : Method} {c : Code} (l : Launch) {b L : Nat} {xs : Nat → Int32} (hL : L ≤ 260) (C0 : lw_At p s m meth c b L xs) : W p l e room_1 s m #[Value.ref b] below meth c s.heap [] 0 0 (lw_Z below #[Value.ref b] s) (entryFrame m ([Value.ref b] : List Value).toArray 20) := by
  obtain ⟨hx, hb, hr, hml, hown, hts, hX, hbl, hlocks, hgv⟩ := id C0
  have hs := flat_of_before _ hgv
  have tb : ∀ {w : Cond} (i : Nat), lw_tbl[i]? = some w → w.before #[Value.ref b] s = true := fun i h => hts _ (List.mem_of_getElem? h)
  -- the classes
  have kn : ∀ (ci : Nat), ∃ (cC : ClassId) (iS : Nat → Nat), ∀ q, vwCl[ci]? = some q → u_Kn s q.1 q.2.1 q.2.2 cC iS := by
    intro ci
    cases hq : vwCl[ci]? with
    | none => exact ⟨0, fun _ => 0, fun q h => by cases h⟩
    | some q =>
      have hin : ∀ w ∈ u_ws q.1 q.2.1 q.2.2, w ∈ lw_tbl := fun w hw => (List.mem_filter.mp (evCls_in ci q hq w hw)).1
      have hi : (Cond.instantiable q.1 q.2.2).before #[Value.ref b] s = true := by
        have h9 := evCls_8 ci q hq
        have h1 : Cond.instantiable q.1 q.2.2 ∈ lw_tbl := by
          match ci, hq with
          | 0, hq => cases hq; decide +kernel
          | 1, hq => cases hq; decide +kernel
          | 2, hq => cases hq; decide +kernel
          | 3, hq => cases hq; decide +kernel
          | 4, hq => cases hq; decide +kernel
          | 5, hq => cases hq; decide +kernel
          | 6, hq => cases hq; decide +kernel
          | 7, hq => cases hq; decide +kernel
          | n + 8, hq => simp [vwCl] at hq
        exact hts _ h1
      obtain ⟨cC, iS, h⟩ := u_known hts hin hi
      exact ⟨cC, iS, fun q' h' => by cases h'; exact h⟩
  have ar : ∀ (k : Nat), ∃ cA : ClassId, ∀ ty, (evTys (fun _ => 0))[k]? = some (0, ty) → ArrOfT s cA ty ∧ va_RA s cA ty := by
    intro k
    match k with
    | 0 =>
      obtain ⟨cA, kA, comp, f1, f2, f3⟩ := Cond.arrayClass_spec (show (Cond.arrayClass .int).holds #[Value.ref b] s none s [] = true from hts _ evArrI)
      exact ⟨cA, fun ty h => by cases h; exact ⟨fun N z => ⟨(fun k h => by cases h), kA, f2, comp, f3⟩, f1⟩⟩
    | 1 =>
      obtain ⟨comp, cA, kA, g1, -, g3, g4, g5⟩ := Cond.arrayOver_spec (show (Cond.arrayOver (.object RX0)).holds #[Value.ref b] s none s [] = true from hts _ (by decide +kernel))
      exact ⟨cA, fun ty h => by cases h; exact ⟨fun N z => ⟨(fun k h => by cases h), kA, g3, comp, g4⟩, kA, comp, g3, g4, g1, g5⟩⟩
    | 2 =>
      obtain ⟨comp, cA, kA, g1, -, g3, g4, g5⟩ := Cond.arrayOver_spec (show (Cond.arrayOver (.object RX1)).holds #[Value.ref b] s none s [] = true from hts _ (by decide +kernel))
      exact ⟨cA, fun ty h => by cases h; exact ⟨fun N z => ⟨(fun k h => by cases h), kA, g3, comp, g4⟩, kA, comp, g3, g4, g1, g5⟩⟩
    | 3 =>
      obtain ⟨comp, cA, kA, g1, -, g3, g4, g5⟩ := Cond.arrayOver_spec (show (Cond.arrayOver (.object RX2)).holds #[Value.ref b] s none s [] = true from hts _ (by decide +kernel))
      exact ⟨cA, fun ty h => by cases h; exact ⟨fun N z => ⟨(fun k h => by cases h), kA, g3, comp, g4⟩, kA, comp, g3, g4, g1, g5⟩⟩
    | 4 =>
      obtain ⟨comp, cA, kA, g1, -, g3, g4, g5⟩ := Cond.arrayOver_spec (show (Cond.arrayOver (.object RX4)).holds #[Value.ref b] s none s [] = true from hts _ (by decide +kernel))
      exact ⟨cA, fun ty h => by cases h; exact ⟨fun N z => ⟨(fun k h => by cases h), kA, g3, comp, g4⟩, kA, comp, g3, g4, g1, g5⟩⟩
    | n + 5 => exact ⟨0, fun ty h => by simp [evTys] at h⟩
  let D : va_G := (fun ci => Classical.choose (kn ci), fun ci => Classical.choose (Classical.choose_spec (kn ci)))
  let dA : Nat → ClassId := fun k => Classical.choose (ar k)
  have hK : va_K D vwCl (evTys dA) s := by
    refine ⟨fun ci q hq => Classical.choose_spec (Classical.choose_spec (kn ci)) q hq, fun k q hq => ?_⟩
    have h := Classical.choose_spec (ar k)
    match k, hq, h with
    | 0, hq, h => cases hq; exact h _ rfl
    | 1, hq, h => cases hq; exact h _ rfl
    | 2, hq, h => cases hq; exact h _ rfl
    | 3, hq, h => cases hq; exact h _ rfl
    | 4, hq, h => cases hq; exact h _ rfl
    | n + 5, hq, h => simp [evTys] at hq
  have hini : (Cond.initialized "EchoBids").before #[Value.ref b] s = true := hts _ (by decide +kernel)
  obtain ⟨t0, a0, z0⟩ := ev_static (n := "LEAST") (f := evGv 0) (hts _ (by decide +kernel)) hini (hs _ (by decide +kernel)) (hs _ (by decide +kernel)) (hs _ (by decide +kernel)) (hs _ (by decide +kernel)) (hs _ (by decide +kernel)) (hs _ (by decide +kernel))
  obtain ⟨t1, a1, z1⟩ := ev_static (n := "GREATEST") (f := evGv 1) (hts _ (by decide +kernel)) hini (hs _ (by decide +kernel)) (hs _ (by decide +kernel)) (hs _ (by decide +kernel)) (hs _ (by decide +kernel)) (hs _ (by decide +kernel)) (hs _ (by decide +kernel))
  have a2 : va_T .int b L (fun j => .int (xs j)) (fun q => s.heap.size ≤ q) s s.heap := by
    obtain ⟨scr, g1, g2, g3, g4, g5⟩ := hX
    exact ⟨scr, g1, g2, g3, by omega, by rw [g4], g5, Nat.not_le.mpr hbl⟩
  let S : Nat → Nat := fun k => match k with
    | 0 => t0
    | 1 => t1
    | _ => b
  have fx : evFx s.heap.size S D dA (evSp0 L xs) s s.heap := by
    refine ⟨hK, Nat.le_refl _, fun k hk => ?_, fun k hk => ?_, fun a i b' n d hm => va_Nw.of rfl (hts _ hm), fun a i x hm => va_Nw.of rfl (hts _ hm), fun C hC => va_AO.of (hts _ hC)⟩
    · rcases (show k = 0 ∨ k = 1 ∨ k = 2 by omega) with rfl | rfl | rfl
      · exact a0
      · exact a1
      · exact a2
    · rcases (show k = 0 ∨ k = 1 by omega) with rfl | rfl
      · exact z0
      · exact z1
  obtain ⟨n, o, hn, ho, hc1, hc2⟩ := hrun L xs hL
  have ok : evOK p room_1 s m #[Value.ref b] meth c evLawN := ⟨hx, hb, hml, hown, fun w hw => hts w (List.mem_filter.mp hw).1, fun h => absurd h (by decide +kernel), Nat.le_of_ble_eq_true rfl, Nat.le_of_ble_eq_true rfl⟩
  have hw : evHW s.heap.size S D dA (evSp0 L xs) (evH0 L xs) (fun _ _ => 0) s.heap := ⟨fun k q h => by
      obtain ⟨hk, -⟩ := evW_of h
      exact absurd hk (Nat.not_lt_zero k), rfl, Nat.zero_le _, rfl⟩
  have hl := lv_entry ([.ref b]) (n := 20) (Nat.le_of_ble_eq_true rfl)
  rw [lg_entry_eq]
  generalize (lg_sl ([.ref b]) ++ List.replicate (20 - (lg_sl ([.ref b])).length) Slot.unset).toArray = ls at hl ⊢
  have hl : lv_has ls (evML evLawN) (evLm s.heap.size S [(0, .ref (evO9 + 2))]) := by
    have e1 : evLm s.heap.size S [(0, .ref (evO9 + 2))] = [(0, .ref b)] := by
      show [(0, Value.ref (evPh s.heap.size S (evO9 + 2)))] = _
      rw [evPh_out]
      rfl
    rw [e1]
    exact hl
  have key := ev_sound l n hn (n0 := 0) (s0 := 0) (Q := lw_Z below #[Value.ref b] s) (below := below) (e := e) ok fx hw (va_S.rf (A := fun q => s.heap.size ≤ q)) hl (Nat.zero_le _) (Nat.zero_le _) (Nat.le_trans hc1 (by decide)) (Nat.le_trans hc2 (by decide)) ?_
  · exact key
  · intro pc' i' st' H' locs' ls' hd he hw' hS'
    rw [ho] at he
    have hi : i' = .ireturn ∧ st' = [.int 1] := by
      cases i' <;> simp only [evEnd] at he <;> first
        | (cases he; done)
        | (split at he <;> first
            | (cases he; done)
            | (replace he := evIf_of he; obtain ⟨-, he⟩ := he; first | (cases he; done) | (cases he; exact ⟨rfl, rfl⟩)))
    obtain ⟨rfl, rfl⟩ := hi
    refine va_forget hS'.2.2 ?_
    have r1 : 632000 ≤ room_1.cells := by decide
    have r2 : 3800000 ≤ room_1.slots := by decide
    refine W.widen (k := room_1.cells) (n := room_1.slots) (by omega) (by omega) ?_
    exact lw_ret hx hb hr hlocks hd
