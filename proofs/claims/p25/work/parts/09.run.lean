section EVRun
theorem ev_toL {B : Nat} {S : Nat → Nat} (r : Option Value) (rest : List Value) : (r.toList ++ rest).map (evV B S) = (r.map (evV B S)).toList ++ rest.map (evV B S) := by
  cases r <;> rfl
set_option maxHeartbeats 4000000 in
set_option maxRecDepth 100000 in
theorem ev_sound (l : Launch) : ∀ n, evGood l n := by
  intro n
  induction n with
  | zero => intro y pc lv st h mi o ho; cases ho
  | succ n G =>
    intro y pc lv st h mi o ho p e R s m args below meth c Q B S D dA sp n0 s0 H locs ls ok fx hw hS hl hn0 hs0 hC hR END
    unfold evRun at ho
    obtain ⟨⟨i, len⟩, hins, ho⟩ := ev_bind ho
    obtain ⟨hd, hlen⟩ := evIns_dec hins
    dsimp only at hd hlen ho
    split at ho
    · rename_i r hr
      cases ho
      obtain rfl := evEnd_len hr hlen
      exact END pc i st H locs ls hd hr hw hS
    · split at ho
      · rename_i cc hcc
        obtain ⟨o1, h1, ho⟩ := ev_bind ho
        obtain ⟨hx, hb, hml, hown, hts, hinit, hfr, hlo⟩ := id ok
        obtain ⟨hK, hBz, hX, hZ, hNW⟩ := id fx
        obtain ⟨hP, hz, hn9, hsp⟩ := id hw
        have mo1 := evRun_mono n h1
        have mo2 := evRun_mono n ho
        -- behind the call
        have after : ∀ {aa : Array Value}, va_Run p l e R s m args below meth c H locs (evN h - n0) (evSl h - s0) (evN o1.2.1 - evN h) (evSl o1.2.1 - evSl h) (F0 m pc ls (st.map (evV B S))) (cc.2.2.map (evV B S)) (evQc B S D dA sp o1 aa) (fun q => B ≤ q) → W p l e R s m args below meth c H locs (evN h - n0) (evSl h - s0) Q (F0 m pc ls (st.map (evV B S))) := by
          intro aa hr T hT X
          obtain ⟨v, st₀, t, T', L, h0, X', hL, e1, e2, ⟨hv, hw1, fx1, hz1, hk1⟩, stp⟩ := hr T hT X
          have hv : v = o1.1.map (evV B S) := by cases hv; rfl
          subst hv
          have hS1 : va_S (fun q => B ≤ q) s.heap T'.heap (locs ++ L) := by
            rw [h0] at hz1 hk1
            refine ⟨Nat.le_trans hS.1 (by rw [e1]; exact hz1), fun q g1 g2 => ?_, fun q hq => ?_⟩
            · rw [e1, hk1 q (Nat.lt_of_lt_of_le g1 hS.1) g2]
              exact hS.2.1 q g1 g2
            · rcases List.mem_append.mp hq with hq | hq
              · exact hS.2.2 q hq
              · exact hL q hq
          have K := G ho ok fx (H := T'.heap) (by rw [e1]; exact hw1) hS1 hl (Nat.le_trans hn0 mo1.1) (Nat.le_trans hs0 mo1.2) hC hR END
          have a1 : evN h - n0 + (evN o1.2.1 - evN h) = evN o1.2.1 - n0 := by omega
          have a2 : evSl h - s0 + (evSl o1.2.1 - evSl h) = evSl o1.2.1 - s0 := by omega
          rw [a1, a2] at X'
          obtain ⟨t2, b1, b2⟩ := K T' rfl X'
          rw [ev_toL] at b1
          exact ⟨t2, stp t2 b1, b2⟩
        have hroom : evN h - n0 + (evN o1.2.1 - evN h) ≤ R.cells ∧ evSl h - s0 + (evSl o1.2.1 - evSl h) ≤ R.slots := by omega
        -- what every call needs
        have base : ∀ (y' k : Nat), y' < evLawN → evFr y' + 1 ≤ evFr y → 19 + evML y' + evLo y' ≤ evLo y →
            (evFr y' + 1 ≤ R.frames ∧ 8 + (evML y' + 11) + evLo y' ≤ R.locals ∧ (∀ w ∈ evWs y', ∀ (a' : Array Value) (U : State), s.WarmedH U.vm → w.before a' U = true) ∧ Cond.code (evName y') (evCode y') (evML y') (evRet y') ∈ evWs y' ∧ (Cond.code (evName y') (evCode y') (evML y') (evRet y')).before args s = true) := by
          intro y' k hyl hf hlw
          refine ⟨by omega, by omega, fun w hw a' U hW => word_at hW (good_of_word (List.mem_filter.mp (evWs_in hyl w hw)).2) (hts w (evWs_in hyl w hw)), List.mem_cons_self, hts _ (evCodeIn hyl)⟩
        have preS : ∀ As : List Value, PreS s H (evPc B S D dA sp h mi As) (As.map (evV B S)) := fun As => ⟨evPc_blind, fun U hU hW => ⟨rfl, by rw [hU]; exact hw, by
          rw [hU]
          exact evFx_moved fx hW hS.1 (fun q hq => hS.2.1 q (Nat.lt_of_lt_of_le hq fx.2.1) (Nat.not_le.mpr hq))⟩⟩
        have par : ∀ {d : String} {k : Nat}, (parseMethodDescriptor d).map (fun d => d.parameters.length) = some k → ∀ sig, parseMethodDescriptor d = some sig → k = sig.parameters.length := by
          intro d k hp sig hs
          rw [hs] at hp
          exact (Option.some.inj hp).symm
        have CF : CallFix p m c (evCode y) (evML y) s args evTb (evOs (evOw y)) := ⟨hx, hb, hml, hown, hts⟩
        cases i with
        | invokevirtual k =>
          obtain rfl : len = 3 := by simpa [evLenOk] using hlen
          simp only [evCall] at hcc
          obtain ⟨q, hq, hcc⟩ := ev_bind hcc
          replace hcc := evIf_of hcc
          obtain ⟨⟨hq0, hf, hlw, hkl⟩, hcc⟩ := hcc
          replace hcc := evPr_of hcc
          obtain ⟨a, r, hdr, hcc⟩ := hcc
          replace hcc := evIf_of hcc
          obtain ⟨⟨ha, hka, h9, hrs, hA⟩, hcc⟩ := hcc
          cases hcc
          obtain ⟨hlk, -, hin, hsel, hini, ⟨hc1, hc2, hpar⟩, -, hyl, hcls⟩ := evCl_of hq
          obtain ⟨b1, b2, b3, b4, b5⟩ := base q.2.1 q.2.2.1 hyl hf hlw
          have hM := ev_met G hyl h1 (B := B) (S := S) (D := D) (dA := dA) (sp := sp) (l := l) (by show (evCs (Value.ref a :: (List.take q.2.2.1 st).reverse)) ≤ _; unfold evCs at hA ⊢; rw [List.map_cons, List.sum_cons, List.map_reverse, List.sum_reverse]; exact hA)
          have hstk : st.map (evV B S) = (((st.take q.2.2.1).reverse).map (evV B S)).reverse ++ .ref (evPh B S a) :: r.map (evV B S) := by
            rw [List.map_reverse, List.reverse_reverse]
            conv => lhs; rw [← List.take_append_drop q.2.2.1 st, hdr, List.map_append, List.map_cons]
            rfl
          have hln : ((st.take q.2.2.1).reverse.map (evV B S)).length = q.2.2.1 := by
            rw [List.length_map, List.length_reverse, List.length_take]; omega
          have hph : evPh B S a = B + a := evPh_in (Nat.lt_of_lt_of_le ha hn9)
          obtain ⟨rr, hrr⟩ : ∃ r, vwCl[evOw q.2.1]? = some r := ⟨vwCl[evOw q.2.1]'h9, List.getElem?_eq_getElem h9⟩
          have hg := evW_get (B := B) (S := S) (dA := dA) (mi := mi) ha
          rw [evE_o hka (Nat.lt_succ_of_lt h9)] at hg
          have hrec := va_recv hK hP hrr hg
          rw [(evCls_n _ _ hrr).2, ← hcls, ← hph] at hrec
          have pv : PreV s H (evName q.2.1).cls (evPh B S a) (evPc B S D dA sp h mi (.ref a :: (st.take q.2.2.1).reverse)) ((st.take q.2.2.1).reverse.map (evV B S)) := ⟨evPc_blind, hrec, (preS _).2⟩
          have hR8 := lv_room (m := m) (pc := pc) (ls := ls) (rest := st.map (evV B S)) (st := r.map (evV B S)) (by rw [evCs_map]; exact hrs)
          rcases hlk with ⟨-, hlk⟩ | ⟨-, hlk⟩
          · exact after (va_runVN (As := (st.take q.2.2.1).reverse.map (evV B S)) (rest := r.map (evV B S)) (n := q.2.2.1) (host := "EchoBids") CF hM ⟨⟨⟨rfl, rfl, b1, b2, b3, b4⟩, b5, hts _ (evTb_in hini rfl), ⟨hc1, hc2⟩, par hpar, va_Nw.use rfl (hNW.2.1 _ _ _ hlk)⟩, hts _ (evTb_in (hin (by rw [hq0]; decide)) rfl), hts _ (evTb_in (hsel hq0) rfl)⟩ pv rfl hln hl.1 hstk hR8 hd hroom)
          · exact after (va_runV (As := (st.take q.2.2.1).reverse.map (evV B S)) (rest := r.map (evV B S)) (n := q.2.2.1) CF hM ⟨⟨rfl, rfl, b1, b2, b3, b4, b5, hts _ (evTb_in hini rfl), ⟨hc1, hc2⟩, par hpar, hts _ (evTb_in hlk rfl)⟩, hts _ (evTb_in (hin (by rw [hq0]; decide)) rfl), hts _ (evTb_in (hsel hq0) rfl)⟩ pv rfl hln hl.1 hstk hR8 hd hroom)
        | invokestatic k =>
          obtain rfl : len = 3 := by simpa [evLenOk] using hlen
          simp only [evCall] at hcc
          obtain ⟨q, hq, hcc⟩ := ev_bind hcc
          replace hcc := evIf_of hcc
          obtain ⟨⟨hq0, hf, hlw, hkl, hrs, hA⟩, hcc⟩ := hcc
          cases hcc
          obtain ⟨hlk, hst, -, -, hini, ⟨hc1, hc2, hpar⟩, -, hyl, hcls⟩ := evCl_of hq
          obtain ⟨b1, b2, b3, b4, b5⟩ := base q.2.1 q.2.2.1 hyl hf hlw
          have hM := ev_met G hyl h1 (B := B) (S := S) (D := D) (dA := dA) (sp := sp) (l := l) (by show (evCs ((List.take q.2.2.1 st).reverse)) ≤ _; unfold evCs at hA ⊢; rw [List.map_reverse, List.sum_reverse]; exact hA)
          have hstk : st.map (evV B S) = (((st.take q.2.2.1).reverse).map (evV B S)).reverse ++ (st.drop q.2.2.1).map (evV B S) := by
            rw [List.map_reverse, List.reverse_reverse]
            conv => lhs; rw [← List.take_append_drop q.2.2.1 st, List.map_append]
          have hln : ((st.take q.2.2.1).reverse.map (evV B S)).length = q.2.2.1 := by
            rw [List.length_map, List.length_reverse, List.length_take]; omega
          have hR8 := lv_room (m := m) (pc := pc) (ls := ls) (rest := st.map (evV B S)) (st := (st.drop q.2.2.1).map (evV B S)) (by rw [evCs_map]; exact hrs)
          rcases hlk with ⟨-, hlk⟩ | ⟨-, hlk⟩
          · exact after (va_runSN (As := (st.take q.2.2.1).reverse.map (evV B S)) (rest := (st.drop q.2.2.1).map (evV B S)) (n := q.2.2.1) (host := "EchoBids") CF hM ⟨⟨⟨rfl, rfl, b1, b2, b3, b4⟩, b5, hts _ (evTb_in hini rfl), ⟨hc1, hc2⟩, par hpar, va_Nw.use rfl (hNW.2.1 _ _ _ hlk)⟩, hts _ (evTb_in (hst hq0) rfl), trivial⟩ (preS _) rfl hln hl.1 hstk hR8 hd hroom)
          · exact after (va_runS (As := (st.take q.2.2.1).reverse.map (evV B S)) (rest := (st.drop q.2.2.1).map (evV B S)) (n := q.2.2.1) CF hM ⟨⟨rfl, rfl, b1, b2, b3, b4, b5, hts _ (evTb_in hini rfl), ⟨hc1, hc2⟩, par hpar, hts _ (evTb_in hlk rfl)⟩, hts _ (evTb_in (hst hq0) rfl)⟩ (preS _) rfl hln hl.1 hstk hR8 hd hroom)
        | invokespecial k =>
          obtain rfl : len = 3 := by simpa [evLenOk] using hlen
          simp only [evCall] at hcc
          obtain ⟨q, hq, hcc⟩ := ev_bind hcc
          replace hcc := evIf_of hcc
          obtain ⟨⟨hq0, hf, hlw, hkl⟩, hcc⟩ := hcc
          replace hcc := evPr_of hcc
          obtain ⟨a, r, hdr, hcc⟩ := hcc
          replace hcc := evIf_of hcc
          obtain ⟨⟨hrs, hA⟩, hcc⟩ := hcc
          cases hcc
          obtain ⟨hlk, -, hin, -, hini, ⟨hc1, hc2, hpar⟩, hnm, hyl, hcls⟩ := evCl_of hq
          obtain ⟨hnm, hrt⟩ := hnm hq0
          obtain ⟨b1, b2, b3, b4, b5⟩ := base q.2.1 q.2.2.1 hyl hf hlw
          rw [hrt] at b4 b5
          have hM := ev_met G hyl h1 (B := B) (S := S) (D := D) (dA := dA) (sp := sp) (l := l) (by show (evCs (Value.ref a :: (List.take q.2.2.1 st).reverse)) ≤ _; unfold evCs at hA ⊢; rw [List.map_cons, List.sum_cons, List.map_reverse, List.sum_reverse]; exact hA)
          have hstk : st.map (evV B S) = (((st.take q.2.2.1).reverse).map (evV B S)).reverse ++ .ref (evPh B S a) :: r.map (evV B S) := by
            rw [List.map_reverse, List.reverse_reverse]
            conv => lhs; rw [← List.take_append_drop q.2.2.1 st, hdr, List.map_append, List.map_cons]
            rfl
          have hln : ((st.take q.2.2.1).reverse.map (evV B S)).length = q.2.2.1 := by
            rw [List.length_map, List.length_reverse, List.length_take]; omega
          have ps : PreS s H (evPc B S D dA sp h mi (.ref a :: (st.take q.2.2.1).reverse)) (.ref (evPh B S a) :: (st.take q.2.2.1).reverse.map (evV B S)) := preS _
          have hR8 := lv_room (m := m) (pc := pc) (ls := ls) (rest := st.map (evV B S)) (st := r.map (evV B S)) (by rw [evCs_map]; exact hrs)
          rcases hlk with ⟨-, hlk⟩ | ⟨-, hlk⟩
          · exact after (va_runIN (As := (st.take q.2.2.1).reverse.map (evV B S)) (rest := r.map (evV B S)) (n := q.2.2.1) (host := "EchoBids") CF hM ⟨⟨⟨rfl, rfl, b1, b2, b3, b4⟩, b5, hts _ (evTb_in hini rfl), ⟨hc1, hc2⟩, par hpar, va_Nw.use rfl (hNW.2.1 _ _ _ hlk)⟩, hnm, hts _ (evTb_in (hin (by rw [hq0]; decide)) rfl)⟩ ps rfl hln hl.1 hstk hR8 hd hroom)
          · exact after (va_runI (As := (st.take q.2.2.1).reverse.map (evV B S)) (rest := r.map (evV B S)) (n := q.2.2.1) CF hM ⟨⟨rfl, rfl, b1, b2, b3, b4, b5, hts _ (evTb_in hini rfl), ⟨hc1, hc2⟩, par hpar, hts _ (evTb_in hlk rfl)⟩, hnm, hts _ (evTb_in (hin (by rw [hq0]; decide)) rfl)⟩ ps rfl hln hl.1 hstk hR8 hd hroom)
        | _ => cases hcc
      · obtain ⟨s1, h1, ho⟩ := ev_bind ho
        have mo1 := ev_mono h1
        have mo2 := evRun_mono n ho
        refine ev_step ok fx hd hlen h1 hw hS hl hn0 hs0 (by omega) (by omega) (fun H' locs' ls' hw' hS' hl' => ?_)
        exact G ho ok fx hw' hS' hl' (Nat.le_trans hn0 mo1.1) (Nat.le_trans hs0 mo1.2) hC hR END
end EVRun
