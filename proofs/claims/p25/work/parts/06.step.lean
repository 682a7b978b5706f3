theorem ev_refty {ci j : Nat} (h9 : ci < 9) (hj : j < evFN ci) (hr : evIsR ci j = true) (o : Option Nat) : narrow (evTy ci j) (va_rf o) = va_rf o ∧ fits (evTy ci j) (va_rf o) = true := by
  have h := evCls_r ci h9 j hj
  unfold evTyOk at h
  rw [hr] at h
  split at h <;> first | (rename_i he; rw [he]; cases o <;> exact ⟨rfl, rfl⟩) | cases h
theorem ev_deflt {ci j : Nat} {B : Nat} {S : Nat → Nat} (h9 : ci < 9) (hj : j < evFN ci) : defaultValue (evTy ci j) = (some (if evIsR ci j = true then va_rf ((none : Option Nat).map (evPh B S)) else Value.int 0)).getD .null := by
  have h := evCls_r ci h9 j hj
  unfold evTyOk at h
  split at h <;> first | (rename_i he; rw [he, h]; rfl) | (rename_i he; simp only [Bool.not_eq_true'] at h; rw [he, h]; rfl) | cases h
theorem evTys_r (dA : Nat → ClassId) {k : Nat} (h1 : 10 ≤ k) (h2 : k ≤ 13) : ∃ r : vw_C, (evTys dA)[k - 9]? = some (dA (k - 9), .object r.1) ∧ vwCl[evEl k]? = some r := by
  rcases (show k = 10 ∨ k = 11 ∨ k = 12 ∨ k = 13 by omega) with rfl | rfl | rfl | rfl
  · exact ⟨_, rfl, rfl⟩
  · exact ⟨_, rfl, rfl⟩
  · exact ⟨_, rfl, rfl⟩
  · exact ⟨_, rfl, rfl⟩
theorem evE_new {B : Nat} {S : Nat → Nat} {dA : Nat → ClassId} {h : evH} {mi : evM} {k n b : Nat} (hb : b < evN h) : evE B S dA (evNew h k n) (evNewM h mi) b = evE B S dA h mi b := by
  have hne : ¬ b = h.1 := Nat.ne_of_lt hb
  refine evE_same ?_ (fun j => ?_) (funext fun j => ?_)
  · show (if b = h.1 then _ else _) = _
    rw [if_neg hne]
  · show (if b = h.1 then _ else _) = _
    rw [if_neg hne]
    rfl
  · show (if b = h.1 then _ else _) = _
    rw [if_neg hne]
theorem evArrI : Cond.arrayClass .int ∈ lw_tbl := List.mem_of_getElem? (i := 53) (by decide +kernel)
section EVT
variable {p : Program} {l : Launch} {e : Env} {R : Room} {s : State} {m : MethodId} {args : Array Value} {below : List Frame} {meth : Method} {c : Code} {Q : State → Prop} {B : Nat} {S : Nat → Nat} {D : va_G} {dA : Nat → ClassId} {sp : Nat → Nat × (Nat → Int32)} {y : Nat}
/-- what stays fixed while method y runs -/
def evOK (p : Program) (R : Room) (s : State) (m : MethodId) (args : Array Value) (meth : Method) (c : Code) (y : Nat) : Prop :=
  p.tables.exec = Jvm.exec ∧ c.code = evCode y ∧ c.maxLocals = evML y ∧ s.vm.findClass (evOs (evOw y)) = some m.cls ∧ (∀ w ∈ evTb, w.before args s = true) ∧ ((evName y).name = "<init>" → meth.name = "<init>") ∧ evFr y ≤ R.frames ∧ evLo y ≤ R.locals
set_option maxHeartbeats 4000000 in
set_option maxRecDepth 100000 in
theorem ev_step {n0 s0 pc len : Nat} {i : Instr} {lv : evL} {st : List Value} {h : evH} {mi : evM} {s' : evC} {H : Heap} {locs : List Loc} {ls : Array Slot} (ok : evOK p R s m args meth c y) (fx : evFx B S D dA sp s s.heap) (hd : decode (evCode y) pc = .ok (i, len)) (hlen : evLenOk i len = true)
    (he : evStep y pc i lv st h mi = some s') (hw : evHW B S D dA sp h mi H) (hS : va_S (fun q => B ≤ q) s.heap H locs) (hl : lv_has ls (evML y) (evLm B S lv)) (hn0 : n0 ≤ evN h) (hs0 : s0 ≤ evSl h) (hC : evN s'.2.2.2.1 - n0 ≤ R.cells) (hR : evSl s'.2.2.2.1 - s0 ≤ R.slots)
    (k : ∀ H' locs' ls', evHW B S D dA sp s'.2.2.2.1 s'.2.2.2.2 H' → va_S (fun q => B ≤ q) s.heap H' locs' → lv_has ls' (evML y) (evLm B S s'.2.1) → W p l e R s m args below meth c H' locs' (evN s'.2.2.2.1 - n0) (evSl s'.2.2.2.1 - s0) Q (F0 m s'.1 ls' (s'.2.2.1.map (evV B S)))) :
    W p l e R s m args below meth c H locs (evN h - n0) (evSl h - s0) Q (F0 m pc ls (st.map (evV B S))) := by
  obtain ⟨hx, hb, hml, hown, hts, hinit, hfr, hlo⟩ := ok
  obtain ⟨hK, hBz, hX, hZ, hNW⟩ := id fx
  obtain ⟨hP, hz, hn9, hsp⟩ := id hw
  cases i with
  | iconst n =>
    obtain rfl : len = 1 := by simpa [evLenOk] using hlen
    simp only [evStep] at he
    cases he
    exact lv_iconst hx hb hd rfl (k H locs ls hw hS hl)
  | bipush n =>
    obtain rfl : len = 2 := by simpa [evLenOk] using hlen
    simp only [evStep] at he
    cases he
    exact lv_bipush hx hb hd rfl (k H locs ls hw hS hl)
  | sipush n =>
    obtain rfl : len = 3 := by simpa [evLenOk] using hlen
    simp only [evStep] at he
    cases he
    exact lv_sipush hx hb hd rfl (k H locs ls hw hS hl)
  | lconst n =>
    obtain rfl : len = 1 := by simpa [evLenOk] using hlen
    simp only [evStep] at he
    cases he
    exact lv_lconst hx hb hd rfl (k H locs ls hw hS hl)
  | aconst_null =>
    obtain rfl : len = 1 := by simpa [evLenOk] using hlen
    simp only [evStep] at he
    cases he
    exact lv_null hx hb hd (k H locs ls hw hS hl)
  | fconst n =>
    obtain rfl : len = 1 := by simpa [evLenOk] using hlen
    match n, hd, he with
    | 0, hd, he => cases he; exact lv_fconst0 hx hb hd (k H locs ls hw hS hl)
    | 1, hd, he => cases he; exact lv_fconst1 hx hb hd (k H locs ls hw hS hl)
    | 2, hd, he => cases he; exact lv_fconst2 hx hb hd (k H locs ls hw hS hl)
  | dconst n =>
    obtain rfl : len = 1 := by simpa [evLenOk] using hlen
    match n, hd, he with
    | 0, hd, he => cases he; exact lv_dconst0 hx hb hd (k H locs ls hw hS hl)
    | 1, hd, he => cases he; exact lv_dconst1 hx hb hd (k H locs ls hw hS hl)
  | iload n =>
    obtain rfl : len = 2 := by simpa [evLenOk] using hlen
    simp only [evStep] at he
    replace he := evB_of he
    obtain ⟨v, hv, he⟩ := he
    replace he := evPi_of he
    obtain ⟨x, r, hr, he⟩ := he
    cases hr
    cases he
    exact lv_iload hx hb hd (evLm_at hl hv) (k H locs ls hw hS hl)
  | iload_n n =>
    obtain rfl : len = 1 := by simpa [evLenOk] using hlen
    simp only [evStep] at he
    replace he := evB_of he
    obtain ⟨v, hv, he⟩ := he
    replace he := evPi_of he
    obtain ⟨x, r, hr, he⟩ := he
    cases hr
    cases he
    exact lv_iload_n hx hb hd rfl (evLm_at hl hv) (k H locs ls hw hS hl)
  | lload n =>
    obtain rfl : len = 2 := by simpa [evLenOk] using hlen
    simp only [evStep] at he
    replace he := evB_of he
    obtain ⟨v, hv, he⟩ := he
    replace he := evPl_of he
    obtain ⟨x, r, hr, he⟩ := he
    cases hr
    cases he
    exact lv_lload hx hb hd (evLm_at hl hv) (k H locs ls hw hS hl)
  | lload_n n =>
    obtain rfl : len = 1 := by simpa [evLenOk] using hlen
    simp only [evStep] at he
    replace he := evB_of he
    obtain ⟨v, hv, he⟩ := he
    replace he := evPl_of he
    obtain ⟨x, r, hr, he⟩ := he
    cases hr
    cases he
    exact lv_lload_n hx hb hd rfl (evLm_at hl hv) (k H locs ls hw hS hl)
  | fload_n n =>
    obtain rfl : len = 1 := by simpa [evLenOk] using hlen
    simp only [evStep] at he
    replace he := evB_of he
    obtain ⟨v, hv, he⟩ := he
    replace he := evPf_of he
    obtain ⟨x, r, hr, he⟩ := he
    cases hr
    cases he
    exact lv_fload_n hx hb hd rfl (evLm_at hl hv) (k H locs ls hw hS hl)
  | dload_n n =>
    obtain rfl : len = 1 := by simpa [evLenOk] using hlen
    simp only [evStep] at he
    replace he := evB_of he
    obtain ⟨v, hv, he⟩ := he
    replace he := evPd_of he
    obtain ⟨x, r, hr, he⟩ := he
    cases hr
    cases he
    exact lv_dload_n hx hb hd rfl (evLm_at hl hv) (k H locs ls hw hS hl)
  | aload n =>
    obtain rfl : len = 2 := by simpa [evLenOk] using hlen
    simp only [evStep] at he
    replace he := evB_of he
    obtain ⟨v, hv, he⟩ := he
    replace he := evPq_of he
    obtain ⟨q, r, hr, he⟩ := he
    cases hr
    cases he
    cases q with
    | none => exact lv_aloadN hx hb hd (evLm_at hl hv) (k H locs ls hw hS hl)
    | some a => exact lv_aload hx hb hd (evLm_at hl hv) (k H locs ls hw hS hl)
  | aload_n n =>
    obtain rfl : len = 1 := by simpa [evLenOk] using hlen
    simp only [evStep] at he
    replace he := evB_of he
    obtain ⟨v, hv, he⟩ := he
    replace he := evPq_of he
    obtain ⟨q, r, hr, he⟩ := he
    cases hr
    cases he
    cases q with
    | none => exact lv_aload_nN hx hb hd rfl (evLm_at hl hv) (k H locs ls hw hS hl)
    | some a => exact lv_aload_n hx hb hd rfl (evLm_at hl hv) (k H locs ls hw hS hl)
  | istore n =>
    obtain rfl : len = 2 := by simpa [evLenOk] using hlen
    simp only [evStep] at he
    replace he := evPi_of he
    obtain ⟨x, r, rfl, he⟩ := he
    replace he := evIf_of he
    obtain ⟨hn, he⟩ := he
    cases he
    exact lv_istore hx hb hd hl hn rfl (fun ls' h' => k H locs ls' hw hS (evLm_1 rfl h'))
  | istore_n n =>
    obtain rfl : len = 1 := by simpa [evLenOk] using hlen
    simp only [evStep] at he
    replace he := evPi_of he
    obtain ⟨x, r, rfl, he⟩ := he
    replace he := evIf_of he
    obtain ⟨hn, he⟩ := he
    cases he
    exact lv_istore_n hx hb hd rfl hl hn rfl (fun ls' h' => k H locs ls' hw hS (evLm_1 rfl h'))
  | fstore_n n =>
    obtain rfl : len = 1 := by simpa [evLenOk] using hlen
    simp only [evStep] at he
    replace he := evPf_of he
    obtain ⟨x, r, rfl, he⟩ := he
    replace he := evIf_of he
    obtain ⟨hn, he⟩ := he
    cases he
    exact lv_fstore_n hx hb hd rfl hl hn rfl (fun ls' h' => k H locs ls' hw hS (evLm_1 rfl h'))
  | lstore n =>
    obtain rfl : len = 2 := by simpa [evLenOk] using hlen
    simp only [evStep] at he
    replace he := evPl_of he
    obtain ⟨x, r, rfl, he⟩ := he
    replace he := evIf_of he
    obtain ⟨hn, he⟩ := he
    cases he
    exact lv_lstore hx hb hd hl hn rfl (fun ls' h' => k H locs ls' hw hS (evLm_2 rfl h'))
  | lstore_n n =>
    obtain rfl : len = 1 := by simpa [evLenOk] using hlen
    simp only [evStep] at he
    replace he := evPl_of he
    obtain ⟨x, r, rfl, he⟩ := he
    replace he := evIf_of he
    obtain ⟨hn, he⟩ := he
    cases he
    exact lv_lstore_n hx hb hd rfl hl hn rfl (fun ls' h' => k H locs ls' hw hS (evLm_2 rfl h'))
  | dstore_n n =>
    obtain rfl : len = 1 := by simpa [evLenOk] using hlen
    simp only [evStep] at he
    replace he := evPd_of he
    obtain ⟨x, r, rfl, he⟩ := he
    replace he := evIf_of he
    obtain ⟨hn, he⟩ := he
    cases he
    exact lv_dstore_n hx hb hd rfl hl hn rfl (fun ls' h' => k H locs ls' hw hS (evLm_2 rfl h'))
  | astore n =>
    obtain rfl : len = 2 := by simpa [evLenOk] using hlen
    simp only [evStep] at he
    replace he := evPq_of he
    obtain ⟨q, r, rfl, he⟩ := he
    replace he := evIf_of he
    obtain ⟨hn, he⟩ := he
    cases he
    cases q with
    | none => exact lv_astoreN hx hb hd hl hn rfl (fun ls' h' => k H locs ls' hw hS (evLm_1 rfl h'))
    | some a => exact lv_astore hx hb hd hl hn rfl (fun ls' h' => k H locs ls' hw hS (evLm_1 rfl h'))
  | astore_n n =>
    obtain rfl : len = 1 := by simpa [evLenOk] using hlen
    simp only [evStep] at he
    replace he := evPq_of he
    obtain ⟨q, r, rfl, he⟩ := he
    replace he := evIf_of he
    obtain ⟨hn, he⟩ := he
    cases he
    cases q with
    | none => exact lv_astore_nN hx hb hd rfl hl hn rfl (fun ls' h' => k H locs ls' hw hS (evLm_1 rfl h'))
    | some a => exact lv_astore_n hx hb hd rfl hl hn rfl (fun ls' h' => k H locs ls' hw hS (evLm_1 rfl h'))
  | iinc n z =>
    obtain rfl : len = 3 := by simpa [evLenOk] using hlen
    simp only [evStep] at he
    replace he := evB_of he
    obtain ⟨v, hv, he⟩ := he
    replace he := evPi_of he
    obtain ⟨x, r, hr, he⟩ := he
    cases hr
    replace he := evIf_of he
    obtain ⟨hn, he⟩ := he
    cases he
    obtain ⟨j, hj⟩ := List.getElem?_of_mem (List.mem_map.mpr ⟨(n, .int x), evLk_of hv, rfl⟩ : (n, Value.int x) ∈ evLm B S lv)
    exact lv_iinc hx hb hd hl hj rfl hn rfl (fun ls' h' => k H locs ls' hw hS (evLm_1 rfl h'))
  | ldc n =>
    obtain rfl : len = 2 := by simpa [evLenOk] using hlen
    simp only [evStep] at he
    replace he := evB_of he
    obtain ⟨q, hq, he⟩ := he
    obtain ⟨z, hz2, hp, rfl⟩ := ev_find hq
    obtain ⟨h1, h2⟩ := ev_two hp
    have hk := List.all_eq_true.mp evLT_ok z hz2
    obtain ⟨o, i, v, pp⟩ := z
    cases h1; cases h2
    cases v with
    | int x => cases he; exact lv_ldc hx hb hown (hts _ (evTb_in (List.mem_of_getElem? (of_decide_eq_true hk)) rfl)) hd (k H locs ls hw hS hl)
    | float x => cases he; exact lv_ldcf hx hb hown (hts _ (evTb_in (List.mem_of_getElem? (of_decide_eq_true hk)) rfl)) hd (k H locs ls hw hS hl)
    | _ => cases he
  | ldc2_w n =>
    obtain rfl : len = 3 := by simpa [evLenOk] using hlen
    simp only [evStep] at he
    replace he := evB_of he
    obtain ⟨q, hq, he⟩ := he
    obtain ⟨z, hz2, hp, rfl⟩ := ev_find hq
    obtain ⟨h1, h2⟩ := ev_two hp
    have hk := List.all_eq_true.mp evLT_ok z hz2
    obtain ⟨o, i, v, pp⟩ := z
    cases h1; cases h2
    cases v with
    | long x => cases he; exact lv_ldc2 hx hb hown (hts _ (evTb_in (List.mem_of_getElem? (of_decide_eq_true hk)) rfl)) hd (k H locs ls hw hS hl)
    | double x => cases he; exact lv_ldc2d hx hb hown (hts _ (evTb_in (List.mem_of_getElem? (of_decide_eq_true hk)) rfl)) hd (k H locs ls hw hS hl)
    | _ => cases he
  | iadd =>
    obtain rfl : len = 1 := by simpa [evLenOk] using hlen
    simp only [evStep] at he
    replace he := evPi_of he
    obtain ⟨b, r, rfl, he⟩ := he
    replace he := evPi_of he
    obtain ⟨a, r, rfl, he⟩ := he
    cases he
    exact lv_iadd hx hb hd (k H locs ls hw hS hl)
  | isub =>
    obtain rfl : len = 1 := by simpa [evLenOk] using hlen
    simp only [evStep] at he
    replace he := evPi_of he
    obtain ⟨b, r, rfl, he⟩ := he
    replace he := evPi_of he
    obtain ⟨a, r, rfl, he⟩ := he
    cases he
    exact lv_isub hx hb hd (k H locs ls hw hS hl)
  | imul =>
    obtain rfl : len = 1 := by simpa [evLenOk] using hlen
    simp only [evStep] at he
    replace he := evPi_of he
    obtain ⟨b, r, rfl, he⟩ := he
    replace he := evPi_of he
    obtain ⟨a, r, rfl, he⟩ := he
    cases he
    exact lv_imul hx hb hd (k H locs ls hw hS hl)
  | iand =>
    obtain rfl : len = 1 := by simpa [evLenOk] using hlen
    simp only [evStep] at he
    replace he := evPi_of he
    obtain ⟨b, r, rfl, he⟩ := he
    replace he := evPi_of he
    obtain ⟨a, r, rfl, he⟩ := he
    cases he
    exact lv_iand hx hb hd (k H locs ls hw hS hl)
  | ior =>
    obtain rfl : len = 1 := by simpa [evLenOk] using hlen
    simp only [evStep] at he
    replace he := evPi_of he
    obtain ⟨b, r, rfl, he⟩ := he
    replace he := evPi_of he
    obtain ⟨a, r, rfl, he⟩ := he
    cases he
    exact lv_ior hx hb hd (k H locs ls hw hS hl)
  | ixor =>
    obtain rfl : len = 1 := by simpa [evLenOk] using hlen
    simp only [evStep] at he
    replace he := evPi_of he
    obtain ⟨b, r, rfl, he⟩ := he
    replace he := evPi_of he
    obtain ⟨a, r, rfl, he⟩ := he
    cases he
    exact lv_ixor hx hb hd (k H locs ls hw hS hl)
  | ishl =>
    obtain rfl : len = 1 := by simpa [evLenOk] using hlen
    simp only [evStep] at he
    replace he := evPi_of he
    obtain ⟨b, r, rfl, he⟩ := he
    replace he := evPi_of he
    obtain ⟨a, r, rfl, he⟩ := he
    cases he
    exact lv_ishl hx hb hd (k H locs ls hw hS hl)
  | ishr =>
    obtain rfl : len = 1 := by simpa [evLenOk] using hlen
    simp only [evStep] at he
    replace he := evPi_of he
    obtain ⟨b, r, rfl, he⟩ := he
    replace he := evPi_of he
    obtain ⟨a, r, rfl, he⟩ := he
    cases he
    exact lv_ishr hx hb hd (k H locs ls hw hS hl)
  | idiv =>
    obtain rfl : len = 1 := by simpa [evLenOk] using hlen
    simp only [evStep] at he
    replace he := evPi_of he
    obtain ⟨b, r, rfl, he⟩ := he
    replace he := evPi_of he
    obtain ⟨a, r, rfl, he⟩ := he
    replace he := evIf_of he
    obtain ⟨hne, he⟩ := he
    cases he
    exact lv_idiv hx hb hd hne (k H locs ls hw hS hl)
  | irem =>
    obtain rfl : len = 1 := by simpa [evLenOk] using hlen
    simp only [evStep] at he
    replace he := evPi_of he
    obtain ⟨b, r, rfl, he⟩ := he
    replace he := evPi_of he
    obtain ⟨a, r, rfl, he⟩ := he
    replace he := evIf_of he
    obtain ⟨hne, he⟩ := he
    cases he
    exact lv_irem hx hb hd hne (k H locs ls hw hS hl)
  | ineg =>
    obtain rfl : len = 1 := by simpa [evLenOk] using hlen
    simp only [evStep] at he
    replace he := evPi_of he
    obtain ⟨a, r, rfl, he⟩ := he
    cases he
    exact lv_ineg hx hb hd (k H locs ls hw hS hl)
  | ladd =>
    obtain rfl : len = 1 := by simpa [evLenOk] using hlen
    simp only [evStep] at he
    replace he := evPl_of he
    obtain ⟨b, r, rfl, he⟩ := he
    replace he := evPl_of he
    obtain ⟨a, r, rfl, he⟩ := he
    cases he
    exact lv_ladd hx hb hd (k H locs ls hw hS hl)
  | lsub =>
    obtain rfl : len = 1 := by simpa [evLenOk] using hlen
    simp only [evStep] at he
    replace he := evPl_of he
    obtain ⟨b, r, rfl, he⟩ := he
    replace he := evPl_of he
    obtain ⟨a, r, rfl, he⟩ := he
    cases he
    exact lv_lsub hx hb hd (k H locs ls hw hS hl)
  | land =>
    obtain rfl : len = 1 := by simpa [evLenOk] using hlen
    simp only [evStep] at he
    replace he := evPl_of he
    obtain ⟨b, r, rfl, he⟩ := he
    replace he := evPl_of he
    obtain ⟨a, r, rfl, he⟩ := he
    cases he
    exact lv_land hx hb hd (k H locs ls hw hS hl)
  | lor =>
    obtain rfl : len = 1 := by simpa [evLenOk] using hlen
    simp only [evStep] at he
    replace he := evPl_of he
    obtain ⟨b, r, rfl, he⟩ := he
    replace he := evPl_of he
    obtain ⟨a, r, rfl, he⟩ := he
    cases he
    exact lv_lor hx hb hd (k H locs ls hw hS hl)
  | lshl =>
    obtain rfl : len = 1 := by simpa [evLenOk] using hlen
    simp only [evStep] at he
    replace he := evPi_of he
    obtain ⟨b, r, rfl, he⟩ := he
    replace he := evPl_of he
    obtain ⟨a, r, rfl, he⟩ := he
    cases he
    exact lv_lshl hx hb hd rfl (k H locs ls hw hS hl)
  | lushr =>
    obtain rfl : len = 1 := by simpa [evLenOk] using hlen
    simp only [evStep] at he
    replace he := evPi_of he
    obtain ⟨b, r, rfl, he⟩ := he
    replace he := evPl_of he
    obtain ⟨a, r, rfl, he⟩ := he
    cases he
    exact lv_lushr hx hb hd rfl (k H locs ls hw hS hl)
  | lcmp =>
    obtain rfl : len = 1 := by simpa [evLenOk] using hlen
    simp only [evStep] at he
    replace he := evPl_of he
    obtain ⟨b, r, rfl, he⟩ := he
    replace he := evPl_of he
    obtain ⟨a, r, rfl, he⟩ := he
    cases he
    exact W.lcmp hx hb hd (k H locs ls hw hS hl)
  | i2l =>
    obtain rfl : len = 1 := by simpa [evLenOk] using hlen
    simp only [evStep] at he
    replace he := evPi_of he
    obtain ⟨a, r, rfl, he⟩ := he
    cases he
    exact lv_i2l hx hb hd rfl (k H locs ls hw hS hl)
  | l2i =>
    obtain rfl : len = 1 := by simpa [evLenOk] using hlen
    simp only [evStep] at he
    replace he := evPl_of he
    obtain ⟨a, r, rfl, he⟩ := he
    cases he
    exact lv_l2i hx hb hd rfl (k H locs ls hw hS hl)
  | i2f =>
    obtain rfl : len = 1 := by simpa [evLenOk] using hlen
    simp only [evStep] at he
    replace he := evPi_of he
    obtain ⟨a, r, rfl, he⟩ := he
    cases he
    exact lv_i2f hx hb hd (k H locs ls hw hS hl)
  | i2d =>
    obtain rfl : len = 1 := by simpa [evLenOk] using hlen
    simp only [evStep] at he
    replace he := evPi_of he
    obtain ⟨a, r, rfl, he⟩ := he
    cases he
    exact lv_i2d hx hb hd (k H locs ls hw hS hl)
  | f2i =>
    obtain rfl : len = 1 := by simpa [evLenOk] using hlen
    simp only [evStep] at he
    replace he := evPf_of he
    obtain ⟨a, r, rfl, he⟩ := he
    cases he
    exact lv_f2i hx hb hd (k H locs ls hw hS hl)
  | d2l =>
    obtain rfl : len = 1 := by simpa [evLenOk] using hlen
    simp only [evStep] at he
    replace he := evPd_of he
    obtain ⟨a, r, rfl, he⟩ := he
    cases he
    exact lv_d2l hx hb hd (k H locs ls hw hS hl)
  | fmul =>
    obtain rfl : len = 1 := by simpa [evLenOk] using hlen
    simp only [evStep] at he
    replace he := evPf_of he
    obtain ⟨b, r, rfl, he⟩ := he
    replace he := evPf_of he
    obtain ⟨a, r, rfl, he⟩ := he
    replace he := evIf_of he
    obtain ⟨hne, he⟩ := he
    cases he
    exact lv_fmul hx hb hd hne (k H locs ls hw hS hl)
  | fdiv =>
    obtain rfl : len = 1 := by simpa [evLenOk] using hlen
    simp only [evStep] at he
    replace he := evPf_of he
    obtain ⟨b, r, rfl, he⟩ := he
    replace he := evPf_of he
    obtain ⟨a, r, rfl, he⟩ := he
    replace he := evIf_of he
    obtain ⟨hne, he⟩ := he
    cases he
    exact lv_fdiv hx hb hd hne (k H locs ls hw hS hl)
  | dmul =>
    obtain rfl : len = 1 := by simpa [evLenOk] using hlen
    simp only [evStep] at he
    replace he := evPd_of he
    obtain ⟨b, r, rfl, he⟩ := he
    replace he := evPd_of he
    obtain ⟨a, r, rfl, he⟩ := he
    replace he := evIf_of he
    obtain ⟨hne, he⟩ := he
    cases he
    exact lv_dmul hx hb hd hne (k H locs ls hw hS hl)
  | ddiv =>
    obtain rfl : len = 1 := by simpa [evLenOk] using hlen
    simp only [evStep] at he
    replace he := evPd_of he
    obtain ⟨b, r, rfl, he⟩ := he
    replace he := evPd_of he
    obtain ⟨a, r, rfl, he⟩ := he
    replace he := evIf_of he
    obtain ⟨hne, he⟩ := he
    cases he
    exact lv_ddiv hx hb hd hne (k H locs ls hw hS hl)
  | fcmp op =>
    obtain rfl : len = 1 := by simpa [evLenOk] using hlen
    simp only [evStep] at he
    replace he := evPf_of he
    obtain ⟨b, r, rfl, he⟩ := he
    replace he := evPf_of he
    obtain ⟨a, r, rfl, he⟩ := he
    cases he
    exact lv_fcmp hx hb hd (k H locs ls hw hS hl)
  | dcmp op =>
    obtain rfl : len = 1 := by simpa [evLenOk] using hlen
    simp only [evStep] at he
    replace he := evPd_of he
    obtain ⟨b, r, rfl, he⟩ := he
    replace he := evPd_of he
    obtain ⟨a, r, rfl, he⟩ := he
    cases he
    exact lv_dcmp hx hb hd (k H locs ls hw hS hl)
  | dup =>
    obtain rfl : len = 1 := by simpa [evLenOk] using hlen
    simp only [evStep] at he
    replace he := evPv_of he
    obtain ⟨v, r, rfl, he⟩ := he
    replace he := evIf_of he
    obtain ⟨hv, he⟩ := he
    cases he
    exact lv_dup hx hb hd ((evV_cat v).trans hv) (k H locs ls hw hS hl)
  | pop =>
    obtain rfl : len = 1 := by simpa [evLenOk] using hlen
    simp only [evStep] at he
    replace he := evPv_of he
    obtain ⟨v, r, rfl, he⟩ := he
    replace he := evIf_of he
    obtain ⟨hv, he⟩ := he
    cases he
    exact lv_pop hx hb hd ((evV_cat v).trans hv) (k H locs ls hw hS hl)
  | iushr =>
    obtain rfl : len = 1 := by simpa [evLenOk] using hlen
    simp only [evStep] at he
    replace he := evPi_of he
    obtain ⟨b, r, rfl, he⟩ := he
    replace he := evPi_of he
    obtain ⟨a, r, rfl, he⟩ := he
    cases he
    exact lv_iushr hx hb hd rfl (k H locs ls hw hS hl)
  | dup_x2 =>
    obtain rfl : len = 1 := by simpa [evLenOk] using hlen
    simp only [evStep] at he
    replace he := evPv_of he
    obtain ⟨v, r, rfl, he⟩ := he
    replace he := evPv_of he
    obtain ⟨u, r, rfl, he⟩ := he
    replace he := evPv_of he
    obtain ⟨w, r, rfl, he⟩ := he
    replace he := evIf_of he
    obtain ⟨hv, he⟩ := he
    cases he
    exact lv_dup_x2 hx hb hd ((evV_cat v).trans hv.1) ((evV_cat u).trans hv.2.1) ((evV_cat w).trans hv.2.2) (k H locs ls hw hS hl)
  | dup2 =>
    obtain rfl : len = 1 := by simpa [evLenOk] using hlen
    simp only [evStep] at he
    replace he := evPv_of he
    obtain ⟨v, r, rfl, he⟩ := he
    replace he := evPv_of he
    obtain ⟨u, r, rfl, he⟩ := he
    replace he := evIf_of he
    obtain ⟨hv, he⟩ := he
    cases he
    exact lv_dup2_11 hx hb hd ((evV_cat v).trans hv.1) ((evV_cat u).trans hv.2) (k H locs ls hw hS hl)
  | goto off =>
    obtain rfl : len = 3 := by simpa [evLenOk] using hlen
    simp only [evStep] at he
    replace he := evB_of he
    obtain ⟨t, ht, he⟩ := he
    cases he
    exact lv_goto hx hb hd (evJ_of ht) (k H locs ls hw hS hl)
  | ifCond cnd off =>
    obtain rfl : len = 3 := by simpa [evLenOk] using hlen
    simp only [evStep] at he
    replace he := evPi_of he
    obtain ⟨x, r, rfl, he⟩ := he
    replace he := evB_of he
    obtain ⟨t, ht, he⟩ := he
    cases he
    have k1 := k H locs ls hw hS hl
    cases cnd with
    | eq => exact lv_if_eq hx hb hd (evJ_of ht) (fun q => by rw [if_pos (by simp [evIc, q])] at k1; exact k1) (fun q => by rw [if_neg (by simp [evIc, q])] at k1; exact k1)
    | ne => exact lv_if_ne hx hb hd (evJ_of ht) (fun q => by rw [if_pos (by simp [evIc, q])] at k1; exact k1) (fun q => by rw [if_neg (by simp [evIc, q])] at k1; exact k1)
    | lt => exact lv_if_lt hx hb hd (evJ_of ht) (fun q => by rw [if_pos (by simp [evIc, q])] at k1; exact k1) (fun q => by rw [if_neg (by simp [evIc, q])] at k1; exact k1)
    | ge => exact lv_if_ge hx hb hd (evJ_of ht) (fun q => by rw [if_pos (by simp [evIc, q])] at k1; exact k1) (fun q => by rw [if_neg (by simp [evIc, q])] at k1; exact k1)
    | gt => exact lv_if_gt hx hb hd (evJ_of ht) (fun q => by rw [if_pos (by simp [evIc, q])] at k1; exact k1) (fun q => by rw [if_neg (by simp [evIc, q])] at k1; exact k1)
    | le => exact lv_if_le hx hb hd (evJ_of ht) (fun q => by rw [if_pos (by simp [evIc, q])] at k1; exact k1) (fun q => by rw [if_neg (by simp [evIc, q])] at k1; exact k1)
  | if_icmp cnd off =>
    obtain rfl : len = 3 := by simpa [evLenOk] using hlen
    simp only [evStep] at he
    replace he := evPi_of he
    obtain ⟨b, r, rfl, he⟩ := he
    replace he := evPi_of he
    obtain ⟨a, r, rfl, he⟩ := he
    replace he := evB_of he
    obtain ⟨t, ht, he⟩ := he
    cases he
    have k1 := k H locs ls hw hS hl
    cases cnd with
    | eq => exact lv_icmp_eq hx hb hd (evJ_of ht) (fun q => by rw [if_pos (by simp [evIc, q])] at k1; exact k1) (fun q => by rw [if_neg (by simp [evIc, q])] at k1; exact k1)
    | ne => exact lv_icmp_ne hx hb hd (evJ_of ht) (fun q => by rw [if_pos (by simp [evIc, q])] at k1; exact k1) (fun q => by rw [if_neg (by simp [evIc, q])] at k1; exact k1)
    | lt => exact lv_icmp_lt hx hb hd (evJ_of ht) (fun q => by rw [if_pos (by simp [evIc, q])] at k1; exact k1) (fun q => by rw [if_neg (by simp [evIc, q])] at k1; exact k1)
    | ge => exact lv_icmp_ge hx hb hd (evJ_of ht) (fun q => by rw [if_pos (by simp [evIc, q])] at k1; exact k1) (fun q => by rw [if_neg (by simp [evIc, q])] at k1; exact k1)
    | gt => exact lv_icmp_gt hx hb hd (evJ_of ht) (fun q => by rw [if_pos (by simp [evIc, q])] at k1; exact k1) (fun q => by rw [if_neg (by simp [evIc, q])] at k1; exact k1)
    | le => exact lv_icmp_le hx hb hd (evJ_of ht) (fun q => by rw [if_pos (by simp [evIc, q])] at k1; exact k1) (fun q => by rw [if_neg (by simp [evIc, q])] at k1; exact k1)
  | ifnull off =>
    obtain rfl : len = 3 := by simpa [evLenOk] using hlen
    simp only [evStep] at he
    replace he := evPq_of he
    obtain ⟨q, r, rfl, he⟩ := he
    replace he := evB_of he
    obtain ⟨t, ht, he⟩ := he
    cases he
    cases q with
    | none => exact lv_ifnullN hx hb hd (evJ_of ht) (k H locs ls hw hS hl)
    | some a => exact lv_ifnull hx hb hd (k H locs ls hw hS hl)
  | ifnonnull off =>
    obtain rfl : len = 3 := by simpa [evLenOk] using hlen
    simp only [evStep] at he
    replace he := evPq_of he
    obtain ⟨q, r, rfl, he⟩ := he
    replace he := evB_of he
    obtain ⟨t, ht, he⟩ := he
    cases he
    cases q with
    | none => exact lv_ifnonnullN hx hb hd (k H locs ls hw hS hl)
    | some a => exact lv_ifnonnull hx hb hd (evJ_of ht) (k H locs ls hw hS hl)
  | lookupswitch dflt ps =>
    simp only [evStep] at he
    replace he := evPi_of he
    obtain ⟨x, r, rfl, he⟩ := he
    replace he := evIf_of he
    obtain ⟨hp, he⟩ := he
    replace he := evB_of he
    obtain ⟨t, ht, he⟩ := he
    cases he
    exact lv_lookup hx hb hd hp rfl (evJ_of ht) (k H locs ls hw hS hl)
  | tableswitch dflt lo hi offs =>
    simp only [evStep] at he
    replace he := evPi_of he
    obtain ⟨x, r, rfl, he⟩ := he
    split at he
    · rename_i ho
      replace he := evB_of he
      obtain ⟨t, ht, he⟩ := he
      cases he
      exact lv_tableOut hx hb hd ho (evJ_of ht) (k H locs ls hw hS hl)
    · rename_i ho
      replace he := evB_of he
      obtain ⟨off, hoff, he⟩ := he
      replace he := evB_of he
      obtain ⟨t, ht, he⟩ := he
      cases he
      exact lv_tableIn hx hb hd (fun q => ho (Or.inl q)) (fun q => ho (Or.inr q)) hoff (evJ_of ht) (k H locs ls hw hS hl)
  | getfield n =>
    obtain rfl : len = 3 := by simpa [evLenOk] using hlen
    simp only [evStep] at he
    replace he := evB_of he
    obtain ⟨q, hq, he⟩ := he
    replace he := evPr_of he
    obtain ⟨a, r, rfl, he⟩ := he
    replace he := evIf_of he
    obtain ⟨⟨ha, hka⟩, he⟩ := he
    cases he
    obtain ⟨rr, hrr, hj, hlk⟩ := evF_of hq
    have h9 := evCls_8 _ _ hrr
    have hN := (evCls_n _ _ hrr).1
    have hg := evW_get (B := B) (S := S) (dA := dA) (mi := mi) ha
    rw [evE_o hka h9] at hg
    have hv := evFs_get (B := B) (S := S) (h := h) (mi := mi) (k := q.1) (a := a) (hN ▸ hj)
    have hph : evPh B S a = B + a := evPh_in (Nat.lt_of_lt_of_le ha hn9)
    have hdc := evCls_d _ _ hrr _ hj
    have hkk : W p l e R s m args below meth c H locs (evN h - n0) (evSl h - s0) Q (F0 m (pc + 3) ls ((if evIsR q.1 q.2.1 = true then va_rf ((evR h a q.2.1).map (evPh B S)) else .int (mi a q.2.1)) :: r.map (evV B S))) := by
      have k1 := k H locs ls hw hS hl
      have e1 : evV B S (if evIsR q.1 q.2.1 = true then va_rf (evR h a q.2.1) else .int (mi a q.2.1)) = (if evIsR q.1 q.2.1 = true then va_rf ((evR h a q.2.1).map (evPh B S)) else .int (mi a q.2.1)) := by
        split
        · exact evV_rf
        · rfl
      rw [← e1]
      exact k1
    show W p l e R s m args below meth c H locs _ _ Q (F0 m pc ls (.ref (evPh B S a) :: r.map (evV B S)))
    rw [hph]
    rcases hlk with ⟨-, hlk⟩ | hlk
    · exact va_getN hx hb hts (evCls_in _ _ hrr) hown hK hP a hg hrr q.2.1 hj (va_Nw.use rfl (hNW.1 _ _ _ _ _ hlk)) (fun x h9' => by rw [← hdc]; exact h9') hv hd hkk
    · exact va_get hx hb hts (evCls_in _ _ hrr) hown hK hP a hg hrr q.2.1 hj (hts _ (evTb_in hlk rfl)) (fun x h9' => by rw [← hdc]; exact h9') hv hd hkk
  | putfield n =>
    obtain rfl : len = 3 := by simpa [evLenOk] using hlen
    simp only [evStep] at he
    replace he := evB_of he
    obtain ⟨q, hq, he⟩ := he
    replace he := evIf_of he
    obtain ⟨hmay, he⟩ := he
    obtain ⟨rr, hrr, hj, hlk⟩ := evF_of hq
    have h9 := evCls_8 _ _ hrr
    have hN := (evCls_n _ _ hrr).1
    have hC1 := (evCls_n _ _ hrr).2
    have hfe : evFin q.1 q.2.1 = (rr.2.1 q.2.1).2.2.2 := by unfold evFin; rw [hrr]
    have put : ∀ (a : Nat) (v : Value) (r : List Value) (h' : evH) (mi' : evM), a < evN h → evK h a = q.1 → narrow (evTy q.1 q.2.1) v = v → fits (evTy q.1 q.2.1) v = true → (evW B S dA h mi).set a (B + a, .inr (q.1, (evFs B S h mi q.1 a).set q.2.1 v)) = evW B S dA h' mi' →
        (∀ H' locs', va_P D vwCl (evW B S dA h' mi') H' → H'.size = H.size → va_S (fun q => B ≤ q) s.heap H' locs' → W p l e R s m args below meth c H' locs' (evN h - n0) (evSl h - s0) Q (F0 m (pc + 3) ls r)) →
        W p l e R s m args below meth c H locs (evN h - n0) (evSl h - s0) Q (F0 m pc ls (v :: .ref (B + a) :: r)) := by
      intro a v r h' mi' ha hka hn hf hset kk
      have hg := evW_get (B := B) (S := S) (dA := dA) (mi := mi) ha
      rw [evE_o hka h9] at hg
      have hlen2 : q.2.1 < (evFs B S h mi q.1 a).length := by rw [evFs_len, ← hN]; exact hj
      cases hfb : evFin q.1 q.2.1 with
      | false =>
        refine evh_put hx hb hts hown hK hP evW_D hS a hg hrr q.2.1 hj ?_ (by rw [← hfe]; exact hfb) hn hf hlen2 hd (fun H1 locs1 z1 hP1 hS1 => kk H1 locs1 (by rw [← hset]; exact hP1) z1 hS1)
        rcases hlk with ⟨-, hlk⟩ | hlk
        · exact Or.inl (hNW.1 _ _ _ _ _ hlk)
        · exact Or.inr (hts _ (evTb_in hlk rfl))
      | true =>
        have hm2 : evInit y q.1 = true ∧ q.2.2.1 = false := by
          unfold evMay at hmay
          rw [hfb] at hmay
          simpa using hmay
        have hm3 : (evName y).name = "<init>" ∧ evOw y = q.1 := by
          have := hm2.1
          unfold evInit at this
          simpa using this
        rcases hlk with ⟨hne, -⟩ | hlk
        · rw [hm2.2] at hne; cases hne
        · exact evh_putF hx hb hts hown hK hP evW_D hS a hg hrr q.2.1 hj (hts _ (evTb_in hlk rfl)) (by rw [← hfe]; exact hfb) (hinit hm3.1) (by rw [hm3.2]; exact hC1) hn hf hlen2 hd (fun H1 locs1 z1 hP1 hS1 => kk H1 locs1 (by rw [← hset]; exact hP1) z1 hS1)
    split at he
    · rename_i hir
      replace he := evPq_of he
      obtain ⟨v, r, rfl, he⟩ := he
      replace he := evPr_of he
      obtain ⟨a, r, rfl, he⟩ := he
      replace he := evIf_of he
      obtain ⟨⟨ha, hka⟩, he⟩ := he
      cases he
      have hph : evPh B S a = B + a := evPh_in (Nat.lt_of_lt_of_le ha hn9)
      have hty := ev_refty h9 (hN ▸ hj) hir (v.map (evPh B S))
      show W p l e R s m args below meth c H locs _ _ Q (F0 m pc ls (evV B S (va_rf v) :: .ref (evPh B S a) :: r.map (evV B S)))
      rw [hph, evV_rf]
      refine put a (va_rf (v.map (evPh B S))) (r.map (evV B S)) (evSetR h a q.2.1 v) mi ha hka hty.1 hty.2 ?_ (fun H' locs' hP' z' hS' => k H' locs' ls ⟨hP', z'.trans hz, hn9, hsp⟩ hS' hl)
      refine evW_set rfl ?_ (fun b hb' => evE_same rfl (fun j => ?_) rfl)
      · rw [evE_o (show evK (evSetR h a q.2.1 v) a = q.1 from hka) h9]
        congr 2
        refine (evFs_set ?_ (fun i hi => ⟨?_, rfl⟩)).symm
        · rw [if_pos hir]
          show va_rf ((if a = a ∧ q.2.1 = q.2.1 then v else _).map _) = _
          rw [if_pos ⟨rfl, rfl⟩]
        · show (if a = a ∧ i = q.2.1 then v else _) = _
          rw [if_neg (fun z => hi z.2)]
          rfl
      · show (if b = a ∧ j = q.2.1 then v else _) = _
        rw [if_neg (fun z => hb' z.1)]
        rfl
    · rename_i hir
      replace he := evPi_of he
      obtain ⟨x, r, rfl, he⟩ := he
      replace he := evPr_of he
      obtain ⟨a, r, rfl, he⟩ := he
      replace he := evIf_of he
      obtain ⟨⟨ha, hka, hfit⟩, he⟩ := he
      cases he
      have hph : evPh B S a = B + a := evPh_in (Nat.lt_of_lt_of_le ha hn9)
      have hty : narrow (evTy q.1 q.2.1) (.int x) = .int x ∧ fits (evTy q.1 q.2.1) (.int x) = true := by
        unfold evFit at hfit
        simpa using hfit
      show W p l e R s m args below meth c H locs _ _ Q (F0 m pc ls (.int x :: .ref (evPh B S a) :: r.map (evV B S)))
      rw [hph]
      refine put a (.int x) (r.map (evV B S)) h (evSetM mi a q.2.1 x) ha hka hty.1 hty.2 ?_ (fun H' locs' hP' z' hS' => k H' locs' ls ⟨hP', z'.trans hz, hn9, hsp⟩ hS' hl)
      refine evW_set rfl ?_ (fun b hb' => evE_same rfl (fun j => rfl) (funext fun j => ?_))
      · rw [evE_o hka h9]
        congr 2
        refine (evFs_set ?_ (fun i hi => ⟨rfl, ?_⟩)).symm
        · rw [if_neg hir]
          show Value.int (if a = a ∧ q.2.1 = q.2.1 then x else _) = _
          rw [if_pos ⟨rfl, rfl⟩]
        · show (if a = a ∧ i = q.2.1 then x else _) = _
          rw [if_neg (fun z => hi z.2)]
      · show (if b = a ∧ j = q.2.1 then x else _) = _
        rw [if_neg (fun z => hb' z.1)]
  | getstatic n =>
    obtain rfl : len = 3 := by simpa [evLenOk] using hlen
    simp only [evStep] at he
    replace he := evB_of he
    obtain ⟨q, hq, he⟩ := he
    cases he
    obtain ⟨z, hz2, hp, rfl⟩ := ev_find hq
    obtain ⟨h1, h2⟩ := ev_two hp
    have hk := List.all_eq_true.mp evST_ok z hz2
    obtain ⟨o, i, kk, pp⟩ := z
    cases h1; cases h2
    simp only [evSokB, Bool.and_eq_true, decide_eq_true_eq] at hk
    have k1 := k H locs ls hw hS hl
    have e1 : evV B S (.ref (evO9 + kk)) = .ref (S kk) := by
      show Value.ref _ = _
      rw [evPh_out]
    refine va_getsN hx hb (hZ kk hk.1) hS hown (va_Nw.use rfl (hNW.1 _ _ _ _ _ (List.mem_of_getElem? hk.2))) (fun x h => h) hd ?_
    rw [← e1]
    exact k1
  | iaload =>
    obtain rfl : len = 1 := by simpa [evLenOk] using hlen
    simp only [evStep] at he
    replace he := evPi_of he
    obtain ⟨j, r, rfl, he⟩ := he
    replace he := evPr_of he
    obtain ⟨a, r, rfl, he⟩ := he
    replace he := evB_of he
    obtain ⟨q, hq, he⟩ := he
    replace he := evIf_of he
    obtain ⟨⟨hj0, hjl⟩, he⟩ := he
    cases he
    have k1 := k H locs ls hw hS hl
    have hin : vp_in j q.1 := fun z => z.elim hj0 (fun z => absurd hjl (Nat.not_lt.mpr z))
    unfold evRow at hq
    split at hq
    · rename_i h9
      replace hq := evIf_of hq
      obtain ⟨h3, hq⟩ := hq
      cases hq
      have hak : a - evO9 < 3 := Nat.sub_lt_left_of_lt_add h9 h3
      have hph : evPh B S a = S (a - evO9) := if_neg (by omega)
      have hXk := hX _ hak
      have hspk : evSp h (a - evO9) = sp (a - evO9) := by unfold evSp; rw [hsp]
      show W p l e R s m args below meth c H locs _ _ Q (F0 m pc ls (.int j :: .ref (evPh B S a) :: r.map (evV B S)))
      rw [hph]
      simp only [hspk] at hin k1
      exact va_ti hx hb hXk hS hin rfl hd k1
    · replace hq := evIf_of hq
      obtain ⟨⟨ha, hk9⟩, hq⟩ := hq
      cases hq
      have hg := evW_get (B := B) (S := S) (dA := dA) (mi := mi) ha
      rw [evE_i hk9] at hg
      have hph : evPh B S a = B + a := evPh_in (Nat.lt_of_lt_of_le ha hn9)
      show W p l e R s m args below meth c H locs _ _ Q (F0 m pc ls (.int j :: .ref (evPh B S a) :: r.map (evV B S)))
      rw [hph]
      exact va_iald hx hb hK hP a 0 hg rfl hin hd k1
  | iastore =>
    obtain rfl : len = 1 := by simpa [evLenOk] using hlen
    simp only [evStep] at he
    replace he := evPi_of he
    obtain ⟨x, r, rfl, he⟩ := he
    replace he := evPi_of he
    obtain ⟨j, r, rfl, he⟩ := he
    replace he := evPr_of he
    obtain ⟨a, r, rfl, he⟩ := he
    replace he := evIf_of he
    obtain ⟨⟨ha, hk9, hj0, hjl⟩, he⟩ := he
    cases he
    have hin : vp_in j (evLen h a) := fun z => z.elim hj0 (fun z => absurd hjl (Nat.not_lt.mpr z))
    have hg := evW_get (B := B) (S := S) (dA := dA) (mi := mi) ha
    rw [evE_i hk9] at hg
    have hph : evPh B S a = B + a := evPh_in (Nat.lt_of_lt_of_le ha hn9)
    show W p l e R s m args below meth c H locs _ _ Q (F0 m pc ls (.int x :: .int j :: .ref (evPh B S a) :: r.map (evV B S)))
    rw [hph]
    refine evh_iast hx hb hK hP evW_D hS a 0 hg rfl hin hd (fun H1 locs1 z1 hP1 hS1 => k H1 locs1 ls ⟨?_, z1.trans hz, hn9, hsp⟩ hS1 hl)
    have hset : (evW B S dA h mi).set a (B + a, .inl (dA 0, evLen h a, .inl (upd (mi a) j.toNatClampNeg x))) = evW B S dA h (evSetM mi a j.toNatClampNeg x) := by
      refine evW_set rfl ?_ (fun b hb' => evE_same rfl (fun j => rfl) (funext fun i => ?_))
      · rw [evE_i hk9]
        congr 4
        funext i
        unfold evSetM upd
        simp
      · show (if b = a ∧ i = _ then x else _) = _
        rw [if_neg (fun z => hb' z.1)]
    rw [hset] at hP1
    exact hP1
  | aaload =>
    obtain rfl : len = 1 := by simpa [evLenOk] using hlen
    simp only [evStep] at he
    replace he := evPi_of he
    obtain ⟨j, r, rfl, he⟩ := he
    replace he := evPr_of he
    obtain ⟨a, r, rfl, he⟩ := he
    replace he := evIf_of he
    obtain ⟨⟨ha, hk10, hk13, hj0, hjl⟩, he⟩ := he
    cases he
    have hin : vp_in j (evLen h a) := fun z => z.elim hj0 (fun z => absurd hjl (Nat.not_lt.mpr z))
    have hg := evW_get (B := B) (S := S) (dA := dA) (mi := mi) ha
    rw [evE_r hk10] at hg
    have hph : evPh B S a = B + a := evPh_in (Nat.lt_of_lt_of_le ha hn9)
    obtain ⟨rr, ht, -⟩ := evTys_r dA hk10 hk13
    have k1 := k H locs ls hw hS hl
    show W p l e R s m args below meth c H locs _ _ Q (F0 m pc ls (.int j :: .ref (evPh B S a) :: r.map (evV B S)))
    rw [hph]
    refine va_aldq hx hb hK hP a _ hg ht hin hd ?_
    rw [← evV_rf]
    exact k1
  | aastore =>
    obtain rfl : len = 1 := by simpa [evLenOk] using hlen
    simp only [evStep] at he
    replace he := evPr_of he
    obtain ⟨v, r, rfl, he⟩ := he
    replace he := evPi_of he
    obtain ⟨j, r, rfl, he⟩ := he
    replace he := evPr_of he
    obtain ⟨a, r, rfl, he⟩ := he
    replace he := evIf_of he
    obtain ⟨⟨ha, hv, hk10, hk13, hel, hj0, hjl⟩, he⟩ := he
    cases he
    have hin : vp_in j (evLen h a) := fun z => z.elim hj0 (fun z => absurd hjl (Nat.not_lt.mpr z))
    have hg := evW_get (B := B) (S := S) (dA := dA) (mi := mi) ha
    rw [evE_r hk10] at hg
    obtain ⟨rr, ht, hrr⟩ := evTys_r dA hk10 hk13
    have hgv := evW_get (B := B) (S := S) (dA := dA) (mi := mi) hv
    rw [evE_o hel.symm (evCls_8 _ _ hrr)] at hgv
    have hph : evPh B S a = B + a := evPh_in (Nat.lt_of_lt_of_le ha hn9)
    have hphv : evPh B S v = B + v := evPh_in (Nat.lt_of_lt_of_le hv hn9)
    show W p l e R s m args below meth c H locs _ _ Q (F0 m pc ls (.ref (evPh B S v) :: .int j :: .ref (evPh B S a) :: r.map (evV B S)))
    rw [hph, hphv]
    refine evh_astq hx hb hK hP evW_D hS a _ v _ hg ht hgv hrr hin hd (fun H1 locs1 z1 hP1 hS1 => k H1 locs1 ls ⟨?_, z1.trans hz, hn9, hsp⟩ hS1 hl)
    have hset : (evW B S dA h mi).set a (B + a, .inl (dA (evK h a - 9), evLen h a, .inr (.inr (.inr (.inr (va_up (fun j => (evR h a j).map (evPh B S)) j.toNatClampNeg (some (B + v)))))))) = evW B S dA (evSetR h a j.toNatClampNeg (some v)) mi := by
      refine evW_set rfl ?_ (fun b hb' => evE_same rfl (fun i => ?_) rfl)
      · rw [evE_r (show 10 ≤ evK (evSetR h a j.toNatClampNeg (some v)) a from hk10)]
        refine congrArg (fun f : Nat → Option Nat => (Sum.inl (dA (evK h a - 9), evLen h a, Sum.inr (Sum.inr (Sum.inr (Sum.inr f)))) : va_E)) (funext fun i => ?_)
        show ((if a = a ∧ i = j.toNatClampNeg then some v else _) : Option Nat).map _ = _
        unfold va_up
        by_cases hi : i = j.toNatClampNeg
        · rw [if_pos ⟨rfl, hi⟩, if_pos hi, ← hphv]
          rfl
        · rw [if_neg (fun z => hi z.2), if_neg hi]
          rfl
      · show (if b = a ∧ i = _ then some v else _) = _
        rw [if_neg (fun z => hb' z.1)]
        rfl
    rw [hset] at hP1
    exact hP1
  | arraylength =>
    obtain rfl : len = 1 := by simpa [evLenOk] using hlen
    simp only [evStep] at he
    replace he := evPr_of he
    obtain ⟨a, r, rfl, he⟩ := he
    replace he := evB_of he
    obtain ⟨n, hq, he⟩ := he
    cases he
    have k1 := k H locs ls hw hS hl
    unfold evALen at hq
    split at hq
    · rename_i h9
      replace hq := evIf_of hq
      obtain ⟨h3, hq⟩ := hq
      cases hq
      have hak : a - evO9 < 3 := Nat.sub_lt_left_of_lt_add h9 h3
      have hph : evPh B S a = S (a - evO9) := if_neg (by omega)
      have hXk := hX _ hak
      have hspk : evSp h (a - evO9) = sp (a - evO9) := by unfold evSp; rw [hsp]
      show W p l e R s m args below meth c H locs _ _ Q (F0 m pc ls (.ref (evPh B S a) :: r.map (evV B S)))
      rw [hph]
      simp only [hspk] at k1
      exact va_tlen hx hb hXk hS rfl hd k1
    · replace hq := evIf_of hq
      obtain ⟨⟨ha, hk9, hk13⟩, hq⟩ := hq
      cases hq
      have hph : evPh B S a = B + a := evPh_in (Nat.lt_of_lt_of_le ha hn9)
      have hg := evW_get (B := B) (S := S) (dA := dA) (mi := mi) ha
      show W p l e R s m args below meth c H locs _ _ Q (F0 m pc ls (.ref (evPh B S a) :: r.map (evV B S)))
      rw [hph]
      by_cases h10 : evK h a = 9
      · rw [evE_i h10] at hg
        exact va_alen hx hb hK hP a 0 hg rfl rfl hd k1
      · have hk10 : 10 ≤ evK h a := by omega
        rw [evE_r hk10] at hg
        obtain ⟨rr, ht, -⟩ := evTys_r dA hk10 hk13
        exact va_alen hx hb hK hP a _ hg ht rfl hd k1
  | new n =>
    obtain rfl : len = 3 := by simpa [evLenOk] using hlen
    simp only [evStep] at he
    replace he := evB_of he
    obtain ⟨q, hq, he⟩ := he
    replace he := evIf_of he
    obtain ⟨hn9', he⟩ := he
    cases he
    obtain ⟨z, hz2, hp, rfl⟩ := ev_find hq
    obtain ⟨h1, h2⟩ := ev_two hp
    have hk := List.all_eq_true.mp evWT_ok z hz2
    obtain ⟨o, i, ci, p1, p2, p3⟩ := z
    cases h1; cases h2
    simp only [evWokB] at hk
    split at hk
    · cases hk
    · rename_i C T N hc
      simp only [Bool.and_eq_true, decide_eq_true_eq] at hk
      obtain ⟨⟨hk1, hk2⟩, hk3⟩ := hk
      have h9 := evCls_8 _ _ hc
      have hN : N = evFN ci := (evCls_n _ _ hc).1
      have hKn := hK.1 ci _ hc
      have eN : evN (evNew h ci (evFN ci)) = evN h + 1 := rfl
      have eS : evSl (evNew h ci (evFN ci)) = evSl h + evFN ci := rfl
      dsimp only at hC hR k
      rw [eN] at hC
      rw [eS] at hR
      have hph : evPh B S (evN h) = H.size := by rw [evPh_in hn9', hz]
      refine W.newcK hx hb hown (hts _ (evTb_in (List.mem_of_getElem? hk1) rfl)) (hts _ (evTb_in (List.mem_of_getElem? hk2) rfl)) (hts _ (evTb_in (List.mem_of_getElem? hk3) rfl)) rfl hd (by omega) (by omega) hKn.2.1 rfl fun H1 kC hkC e1 z1 o1 => ?_
      have k1 := k H1 locs ls ⟨evW_new (h' := evNew h ci (evFN ci)) (mi' := evNewM h mi) hP hz rfl (fun b hb' => evE_new hb') o1 ?_, by rw [z1, hz]; rfl, hn9', hsp⟩ ⟨Nat.le_trans hS.1 (by omega), fun x g1 g2 => (o1 x (Nat.lt_of_lt_of_le g1 hS.1)).trans (hS.2.1 x g1 g2), hS.2.2⟩ hl
      · rw [eN, eS] at k1
        have a1 : evN h - n0 + 1 = evN h + 1 - n0 := by omega
        have a2 : evSl h - s0 + N = evSl h + evFN ci - s0 := by omega
        rw [a1, a2, ← hph]
        exact k1
      · have hkn : evK (evNew h ci (evFN ci)) (evN h) = ci := by
          show (if evN h = h.1 then (ci, evFN ci) else _).1 = ci
          rw [if_pos (show evN h = h.1 from rfl)]
        rw [evE_o hkn h9]
        refine ⟨_, hc, (u_born (evTy ci) hts (evCls_in _ _ hc) hKn hkC e1 (evCls_ty _ _ hc)).to fun j hj => ?_⟩
        have hj' : j < evFN ci := by rw [← hN]; exact hj
        have hg := evFs_get (B := B) (S := S) (h := evNew h ci (evFN ci)) (mi := evNewM h mi) (k := ci) (a := evN h) hj'
        have hr0 : evR (evNew h ci (evFN ci)) (evN h) j = none := by
          show (if evN h = h.1 then none else _) = none
          rw [if_pos (show evN h = h.1 from rfl)]
        have hm0 : evNewM h mi (evN h) j = 0 := by
          show (if evN h = h.1 then 0 else _) = (0 : Int32)
          rw [if_pos (show evN h = h.1 from rfl)]
        rw [hr0, hm0] at hg
        show defaultValue (evTy ci j) = (evFs B S _ _ ci (evN h)).getD j .null
        rw [List.getD_eq_getElem?_getD, hg]
        exact ev_deflt h9 hj'
  | newarray t =>
    obtain rfl : len = 2 := by simpa [evLenOk] using hlen
    cases t with
    | int =>
      simp only [evStep] at he
      replace he := evPi_of he
      obtain ⟨n, r, rfl, he⟩ := he
      replace he := evIf_of he
      obtain ⟨⟨hn9', hn0', hnb⟩, he⟩ := he
      cases he
      have eN : evN (evNew h 9 n.toNatClampNeg) = evN h + 1 := rfl
      have eS : evSl (evNew h 9 n.toNatClampNeg) = evSl h + n.toNatClampNeg := rfl
      dsimp only at hC hR k
      rw [eN] at hC
      rw [eS] at hR
      have hph : evPh B S (evN h) = H.size := by rw [evPh_in hn9', hz]
      refine va_newaK (atype := .int) hx hb (hts _ (evTb_in evArrI rfl)) rfl hd rfl hn0' rfl (by show _ * 4 ≤ _; omega) (by omega) (by omega) rfl fun H1 cA e1 z1 o1 hAr hfc => ?_
      have hcA : cA = dA 0 := by
        have := (hK.2 0 (dA 0, .int) rfl).2
        exact Option.some.inj (hfc.symm.trans this)
      subst hcA
      have k1 := k H1 locs ls ⟨evW_new (h' := evNew h 9 n.toNatClampNeg) (mi' := evNewM h mi) hP hz rfl (fun b hb' => evE_new hb') o1 ?_, by rw [z1, hz]; rfl, hn9', hsp⟩ ⟨Nat.le_trans hS.1 (by omega), fun x g1 g2 => (o1 x (Nat.lt_of_lt_of_le g1 hS.1)).trans (hS.2.1 x g1 g2), hS.2.2⟩ hl
      · rw [eN, eS] at k1
        have a1 : evN h - n0 + 1 = evN h + 1 - n0 := by omega
        have a2 : evSl h - s0 + n.toNatClampNeg = evSl h + n.toNatClampNeg - s0 := by omega
        rw [a1, a2, ← hph]
        exact k1
      · have hkn : evK (evNew h 9 n.toNatClampNeg) (evN h) = 9 := by
          show (if evN h = h.1 then (9, n.toNatClampNeg) else _).1 = 9
          rw [if_pos (show evN h = h.1 from rfl)]
        rw [evE_i hkn]
        have hln : evLen (evNew h 9 n.toNatClampNeg) (evN h) = n.toNatClampNeg := by
          show (if evN h = h.1 then (9, n.toNatClampNeg) else _).2 = _
          rw [if_pos (show evN h = h.1 from rfl)]
        have hm0 : evNewM h mi (evN h) = fun _ => 0 := by
          funext j
          show (if evN h = h.1 then 0 else _) = (0 : Int32)
          rw [if_pos (show evN h = h.1 from rfl)]
        rw [hln, hm0]
        exact e1
    | _ => cases he
  | anewarray n =>
    obtain rfl : len = 3 := by simpa [evLenOk] using hlen
    simp only [evStep] at he
    replace he := evB_of he
    obtain ⟨q, hq, he⟩ := he
    replace he := evPi_of he
    obtain ⟨w, r, rfl, he⟩ := he
    replace he := evIf_of he
    obtain ⟨⟨hn9', hn0', hnb⟩, he⟩ := he
    cases he
    obtain ⟨z, hz2, hp, rfl⟩ := ev_find hq
    obtain ⟨h1, h2⟩ := ev_two hp
    have hk := List.all_eq_true.mp evAT_ok z hz2
    obtain ⟨o, i, kd, p1, p2⟩ := z
    cases h1; cases h2
    simp only [evAokB] at hk
    split at hk
    · cases hk
    · rename_i C T N hc
      simp only [Bool.and_eq_true, decide_eq_true_eq] at hk
      obtain ⟨⟨⟨hk10, hk13⟩, hk1⟩, hk2⟩ := hk
      obtain ⟨rr, ht, hrr⟩ := evTys_r dA hk10 hk13
      have hr' : rr = (C, T, N) := Option.some.inj (hrr.symm.trans hc)
      subst hr'
      have eN : evN (evNew h kd w.toNatClampNeg) = evN h + 1 := rfl
      have eS : evSl (evNew h kd w.toNatClampNeg) = evSl h + w.toNatClampNeg := rfl
      dsimp only at hC hR k
      rw [eN] at hC
      rw [eS] at hR
      have hph : evPh B S (evN h) = H.size := by rw [evPh_in hn9', hz]
      refine W.anew hx hb hown (hts _ (evTb_in (List.mem_of_getElem? hk1) rfl)) (va_AO.use (hNW.2.2 _ (List.mem_of_getElem? hk2))) rfl hd rfl hn0' (by omega) (by omega) (by omega) fun cA kA comp f1 f2 f3 f4 => ?_
      generalize hH1 : H.push ({ cls := cA, slots := Array.replicate w.toNatClampNeg .null, vm := .none } : Cell) = H1
      have z1 : H1.size = H.size + 1 := by rw [← hH1, Array.size_push]
      have e1 : H1[H.size]? = some (arrV cA w.toNatClampNeg (fun _ => .null)) := by rw [← hH1, Array.getElem?_push_size, ← arrV_new]
      have o1 : ∀ q : Nat, q < H.size → H1[q]? = H[q]? := fun q hq => by rw [← hH1, Array.getElem?_push, if_neg (Nat.ne_of_lt hq)]
      have hcA : cA = dA (kd - 9) := by
        obtain ⟨_, _, _, _, _, g4⟩ := (hK.2 _ _ ht).2
        exact Option.some.inj (f1.symm.trans g4)
      subst hcA
      have k1 := k H1 locs ls ⟨evW_new (h' := evNew h kd w.toNatClampNeg) (mi' := evNewM h mi) hP hz rfl (fun b hb' => evE_new hb') o1 ?_, by rw [z1, hz]; rfl, hn9', hsp⟩ ⟨Nat.le_trans hS.1 (by omega), fun x g1 g2 => (o1 x (Nat.lt_of_lt_of_le g1 hS.1)).trans (hS.2.1 x g1 g2), hS.2.2⟩ hl
      · rw [eN, eS] at k1
        have a1 : evN h - n0 + 1 = evN h + 1 - n0 := by omega
        have a2 : evSl h - s0 + w.toNatClampNeg = evSl h + w.toNatClampNeg - s0 := by omega
        rw [a1, a2, ← hph]
        exact k1
      · have hkn : evK (evNew h kd w.toNatClampNeg) (evN h) = kd := by
          show (if evN h = h.1 then (kd, w.toNatClampNeg) else _).1 = kd
          rw [if_pos (show evN h = h.1 from rfl)]
        rw [evE_r (by rw [hkn]; exact hk10), hkn]
        have hln : evLen (evNew h kd w.toNatClampNeg) (evN h) = w.toNatClampNeg := by
          show (if evN h = h.1 then (kd, w.toNatClampNeg) else _).2 = _
          rw [if_pos (show evN h = h.1 from rfl)]
        have hr0 : (fun j => (evR (evNew h kd w.toNatClampNeg) (evN h) j).map (evPh B S)) = fun _ => none := by
          funext j
          show ((if evN h = h.1 then none else _) : Option Nat).map _ = none
          rw [if_pos (show evN h = h.1 from rfl)]
          rfl
        rw [hln, hr0]
        show H1[H.size]? = some (vp_cell _ _)
        rw [vp_cell_q]
        exact e1
  | invokestatic n =>
    obtain rfl : len = 3 := by simpa [evLenOk] using hlen
    simp only [evStep] at he
    replace he := evB_of he
    obtain ⟨q, hq, he⟩ := he
    replace he := evIf_of he
    obtain ⟨⟨hf1, hl26⟩, he⟩ := he
    obtain ⟨z, hz2, hp, rfl⟩ := ev_find hq
    obtain ⟨h1, h2⟩ := ev_two hp
    have hk := List.all_eq_true.mp evNT_ok z hz2
    obtain ⟨o, i, kd, p1, p2, p3, p4⟩ := z
    cases h1; cases h2
    have hmls : c.maxLocals = ls.size := hml.trans hl.1.symm
    match kd, hk, he with
    | 0, hk, hf =>
      simp only [evNokB, Nat.reduceEqDiff, if_false, if_true, Bool.and_eq_true, decide_eq_true_eq] at hk
      obtain ⟨⟨⟨g1, g2⟩, g3⟩, g4⟩ := hk
      replace hf := evPi_of hf
      obtain ⟨n, r, rfl, hf⟩ := hf
      replace hf := evPi_of hf
      obtain ⟨dp, r, rfl, hf⟩ := hf
      replace hf := evPr_of hf
      obtain ⟨a, r, rfl, hf⟩ := hf
      replace hf := evPi_of hf
      obtain ⟨sp', r, rfl, hf⟩ := hf
      replace hf := evPr_of hf
      obtain ⟨b, r, rfl, hf⟩ := hf
      replace hf := evIf_of hf
      obtain ⟨⟨ha, hb', hka, hkb, u1, u2, u3, u4, u5, u6⟩, hf⟩ := hf
      cases hf
      have hga := evW_get (B := B) (S := S) (dA := dA) (mi := mi) ha
      rw [evE_i hka] at hga
      have hgb := evW_get (B := B) (S := S) (dA := dA) (mi := mi) hb'
      rw [evE_i hkb] at hgb
      have hpha : evPh B S a = B + a := evPh_in (Nat.lt_of_lt_of_le ha hn9)
      have hphb : evPh B S b = B + b := evPh_in (Nat.lt_of_lt_of_le hb' hn9)
      show W p l e R s m args below meth c H locs _ _ Q (F0 m pc ls (.int n :: .int dp :: .ref (evPh B S a) :: .int sp' :: .ref (evPh B S b) :: r.map (evV B S)))
      rw [hpha, hphb]
      refine evh_copy hx hb hmls hown (hts _ (evTb_in (List.mem_of_getElem? g1) rfl)) (hts _ (evTb_in (List.mem_of_getElem? g2) rfl)) (hts _ (evTb_in (List.mem_of_getElem? g3) rfl)) (hts _ (evTb_in (List.mem_of_getElem? g4) rfl)) hK hP evW_D hS b a 0 0 hgb hga rfl rfl u1 u2 u3 u4 u5 (Nat.le_trans hf1 hfr) ?_ hd (fun H1 locs1 z1 hP1 hS1 => k H1 locs1 ls ⟨?_, z1.trans hz, hn9, hsp⟩ hS1 hl)
      · rw [evCs_map]
        have hw7 : nativeFrameWords "java/lang/System" "arraycopy" 5 = 7 := by decide
        omega
      · have hset : (evW B S dA h mi).set a (B + a, .inl (dA 0, evLen h a, .inl (va_cpy (mi b) (mi a) sp'.toNatClampNeg dp.toNatClampNeg n.toNatClampNeg))) = evW B S dA h (evRowM mi a (va_cpy (mi b) (mi a) sp'.toNatClampNeg dp.toNatClampNeg n.toNatClampNeg)) := by
          refine evW_set rfl ?_ (fun b hb' => evE_same rfl (fun j => rfl) (funext fun i => ?_))
          · rw [evE_i hka]
            congr 4
            funext i
            show (if a = a then _ else _) = _
            rw [if_pos rfl]
          · show (if b = a then _ else _) = _
            rw [if_neg hb']
        rw [hset] at hP1
        exact hP1
    | 1, hk, hf =>
      simp only [evNokB, Nat.reduceEqDiff, if_false, if_true, Bool.and_eq_true, decide_eq_true_eq] at hk
      obtain ⟨⟨⟨g1, g2⟩, g3⟩, g4⟩ := hk
      replace hf := evPf_of hf
      obtain ⟨x, r, rfl, hf⟩ := hf
      replace hf := evIf_of hf
      obtain ⟨u6, hf⟩ := hf
      cases hf
      exact vn_f2i hx hb hmls hown (hts _ (evTb_in (List.mem_of_getElem? g1) rfl)) (hts _ (evTb_in (List.mem_of_getElem? g2) rfl)) (hts _ (evTb_in (List.mem_of_getElem? g3) rfl)) (hts _ (evTb_in (List.mem_of_getElem? g4) rfl)) (Nat.le_trans hf1 hfr) (by rw [evCs_map]; omega) hd (k H locs ls hw hS hl)
    | 2, hk, hf =>
      simp only [evNokB, Nat.reduceEqDiff, if_false, if_true, Bool.and_eq_true, decide_eq_true_eq] at hk
      obtain ⟨⟨⟨g1, g2⟩, g3⟩, g4⟩ := hk
      replace hf := evPd_of hf
      obtain ⟨x, r, rfl, hf⟩ := hf
      replace hf := evIf_of hf
      obtain ⟨u6, hf⟩ := hf
      cases hf
      exact vn_d2l hx hb hmls hown (hts _ (evTb_in (List.mem_of_getElem? g1) rfl)) (hts _ (evTb_in (List.mem_of_getElem? g2) rfl)) (hts _ (evTb_in (List.mem_of_getElem? g3) rfl)) (hts _ (evTb_in (List.mem_of_getElem? g4) rfl)) (Nat.le_trans hf1 hfr) (by rw [evCs_map]; omega) hd (k H locs ls hw hS hl)
    | kd + 3, hk, he => cases he
  | invokespecial n =>
    obtain rfl : len = 3 := by simpa [evLenOk] using hlen
    simp only [evStep] at he
    replace he := evB_of he
    obtain ⟨q, hq, he⟩ := he
    replace he := evIf_of he
    obtain ⟨⟨hq3, hf1, hl20⟩, he⟩ := he
    replace he := evPr_of he
    obtain ⟨a, r, rfl, he⟩ := he
    replace he := evIf_of he
    obtain ⟨u6, he⟩ := he
    cases he
    obtain ⟨z, hz2, hp, rfl⟩ := ev_find hq
    obtain ⟨h1, h2⟩ := ev_two hp
    have hk := List.all_eq_true.mp evNT_ok z hz2
    obtain ⟨o, i, kd, p1, p2, p3, p4⟩ := z
    cases h1; cases h2
    cases hq3
    simp only [evNokB, Nat.reduceEqDiff, if_false, if_true, Bool.and_eq_true, decide_eq_true_eq] at hk
    obtain ⟨⟨g1, g2⟩, -⟩ := hk
    exact W.objInit hx hb hown (hts _ (evTb_in (List.mem_of_getElem? g1) rfl)) (hts _ (evTb_in (List.mem_of_getElem? g2) rfl)) (hts _ (evTb_in evObjCode rfl)) rfl (hl.1.trans hml.symm) rfl hd (Nat.le_trans hf1 hfr) (by have := lv_room (m := m) (pc := pc) (ls := ls) (rest := ([] : List Value)) (st := r.map (evV B S)) (by rw [evCs_map]; exact u6); show 2 * 0 + _ + _ ≤ _; rw [evCs_map]; omega) (k H locs ls hw hS hl)
  | _ => cases he
end EVT
