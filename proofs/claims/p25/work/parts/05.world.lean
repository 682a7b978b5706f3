/-! where the world's cells lie in a heap; reads and writes there -/
def evPh (B : Nat) (S : Nat → Nat) (a : Nat) : Nat := if a < evO9 then B + a else S (a - evO9)
def evV (B : Nat) (S : Nat → Nat) (v : Value) : Value := match v with
  | .ref a => .ref (evPh B S a)
  | v => v
def evFs (B : Nat) (S : Nat → Nat) (h : evH) (mi : evM) (k a : Nat) : List Value := (List.range (evFN k)).map (fun j => if evIsR k j = true then va_rf ((evR h a j).map (evPh B S)) else .int (mi a j))
def evE (B : Nat) (S : Nat → Nat) (dA : Nat → ClassId) (h : evH) (mi : evM) (a : Nat) : va_E :=
  if evK h a < 9 then .inr (evK h a, evFs B S h mi (evK h a) a)
  else if evK h a = 9 then .inl (dA 0, evLen h a, .inl (mi a))
  else .inl (dA (evK h a - 9), evLen h a, .inr (.inr (.inr (.inr (fun j => (evR h a j).map (evPh B S))))))
def evW (B : Nat) (S : Nat → Nat) (dA : Nat → ClassId) (h : evH) (mi : evM) : va_W := (List.range (evN h)).map (fun a => (B + a, evE B S dA h mi a))
def evTys (dA : Nat → ClassId) : List (ClassId × FieldType) := [(dA 0, .int), (dA 1, .object RX0), (dA 2, .object RX1), (dA 3, .object RX2), (dA 4, .object RX4)]
def evHW (B : Nat) (S : Nat → Nat) (D : va_G) (dA : Nat → ClassId) (sp : Nat → Nat × (Nat → Int32)) (h : evH) (mi : evM) (H : Heap) : Prop :=
  va_P D vwCl (evW B S dA h mi) H ∧ H.size = B + evN h ∧ evN h ≤ evO9 ∧ h.2.2.2.2 = sp
/-- the rows of the two static arrays -/
def evGv (k : Nat) : Nat → Int32 := match k with
  | 0 => fun j => match j with
    | 0 => 0
    | 1 => 1
    | 2 => 1
    | _ => 0
  | _ => fun j => match j with
    | 0 => 5
    | 1 => 99
    | 2 => 9
    | _ => 1
def evNW (U : State) : Prop := (∀ a i b n d, Cond.fieldLinkNest a i b n d "EchoBids" ∈ lw_tbl → va_Nw (.fieldLinkNest a i b n d "EchoBids") U) ∧ (∀ a i x, Cond.methodLinkNest a i x "EchoBids" ∈ lw_tbl → va_Nw (.methodLinkNest a i x "EchoBids") U) ∧ ∀ C, Cond.arrayOver (.object C) ∈ lw_tbl → va_AO C U
/-- what a method's start knows of the machine -/
def evFx (B : Nat) (S : Nat → Nat) (D : va_G) (dA : Nat → ClassId) (sp : Nat → Nat × (Nat → Int32)) (U : State) (H : Heap) : Prop :=
  va_K D vwCl (evTys dA) U ∧ B ≤ H.size ∧ (∀ k, k < 3 → va_T .int (S k) (sp k).1 (fun j => .int ((sp k).2 j)) (fun q => B ≤ q) U H) ∧ (∀ k, k < 2 → va_Z "EchoBids" (evGn k) "[I" (.ref (S k)) (fun q => B ≤ q) U H) ∧ evNW U
theorem evFx_moved {B : Nat} {S : Nat → Nat} {D : va_G} {dA : Nat → ClassId} {sp : Nat → Nat × (Nat → Int32)} {s U : State} {H H1 : Heap} (h : evFx B S D dA sp s H) (hW : s.WarmedH U.vm) (hz : H.size ≤ H1.size) (hk : ∀ q, q < B → H1[q]? = H[q]?) : evFx B S D dA sp U H1 := by
  obtain ⟨h1, h2, h3, h4, h5, h6, h7⟩ := h
  have hvm : s.vm.Alike U.vm := hW.alike
  refine ⟨va_K.moved hvm h1, Nat.le_trans h2 hz, fun k hk3 => ?_, fun k hk2 => ?_, fun a i b n d hm => va_Nw.warmF hW (h5 a i b n d hm), fun a i x hm => va_Nw.warmM hW (h6 a i x hm), fun C hC => va_AO.moved hvm (h7 C hC)⟩
  · exact ((h3 k hk3).kept (fun a _ hq => hk a (Nat.not_le.mp hq))).moved hvm
  · exact ((h4 k hk2).kept (fun a _ hq => hk a (Nat.not_le.mp hq))).moved hvm
theorem evW_get {B : Nat} {S : Nat → Nat} {dA : Nat → ClassId} {h : evH} {mi : evM} {a : Nat} (ha : a < evN h) : (evW B S dA h mi)[a]? = some (B + a, evE B S dA h mi a) := by
  unfold evW
  rw [List.getElem?_map, List.getElem?_range ha]
  rfl
theorem evW_of {B : Nat} {S : Nat → Nat} {dA : Nat → ClassId} {h : evH} {mi : evM} {k : Nat} {q : Nat × va_E} (hk : (evW B S dA h mi)[k]? = some q) : k < evN h ∧ q = (B + k, evE B S dA h mi k) := by
  have hl : k < evN h := by
    have := (List.getElem?_eq_some_iff.mp hk).1
    unfold evW at this
    rw [List.length_map, List.length_range] at this
    exact this
  rw [evW_get hl] at hk
  exact ⟨hl, (Option.some.inj hk).symm⟩
theorem evW_D {B : Nat} {S : Nat → Nat} {dA : Nat → ClassId} {h : evH} {mi : evM} : va_D (fun q => B ≤ q) (evW B S dA h mi) := by
  refine ⟨fun i j p q hi hj hpq => ?_, fun k q hk => ?_⟩
  · obtain ⟨-, rfl⟩ := evW_of hi
    obtain ⟨-, rfl⟩ := evW_of hj
    have : B + i = B + j := hpq
    omega
  · obtain ⟨-, rfl⟩ := evW_of hk
    exact Nat.le_add_right _ _
/-- a changed cell: all others as they were -/
theorem evW_set {B : Nat} {S : Nat → Nat} {dA : Nat → ClassId} {h h' : evH} {mi mi' : evM} {a : Nat} {e : va_E} (hn : evN h' = evN h) (he : evE B S dA h' mi' a = e) (ho : ∀ b, b ≠ a → evE B S dA h' mi' b = evE B S dA h mi b) : (evW B S dA h mi).set a (B + a, e) = evW B S dA h' mi' := by
  apply List.ext_getElem?
  intro k
  rw [List.getElem?_set]
  unfold evW
  simp only [List.getElem?_map, List.length_map, List.length_range, hn]
  by_cases hka : a = k
  · subst hka
    rw [if_pos rfl]
    by_cases hl : a < evN h
    · rw [if_pos hl, List.getElem?_range hl]
      rw [← he]
      rfl
    · rw [if_neg hl, List.getElem?_eq_none (by rw [List.length_range]; omega)]
      rfl
  · rw [if_neg hka]
    by_cases hl : k < evN h
    · rw [List.getElem?_range hl]
      simp only [Option.map_some, ho k (fun q => hka q.symm)]
    · rw [List.getElem?_eq_none (by rw [List.length_range]; omega)]
      rfl
theorem evW_new {B : Nat} {S : Nat → Nat} {dA : Nat → ClassId} {h h' : evH} {mi mi' : evM} {D : va_G} {H H1 : Heap} (hP : va_P D vwCl (evW B S dA h mi) H) (hz : H.size = B + evN h) (hn : evN h' = evN h + 1) (ho : ∀ b, b < evN h → evE B S dA h' mi' b = evE B S dA h mi b)
    (o1 : ∀ q, q < H.size → H1[q]? = H[q]?) (hnew : va_at D vwCl (H.size, evE B S dA h' mi' (evN h)) H1) : va_P D vwCl (evW B S dA h' mi') H1 := by
  intro k q hk
  obtain ⟨hl, rfl⟩ := evW_of hk
  rw [hn] at hl
  by_cases hkn : k = evN h
  · subst hkn
    rw [← hz]
    exact hnew
  · have hlt : k < evN h := by omega
    rw [ho k hlt]
    exact (hP k _ (evW_get hlt)).kept (o1 _ (by rw [hz]; show B + k < _; omega))
theorem evFs_get {B : Nat} {S : Nat → Nat} {h : evH} {mi : evM} {k a j : Nat} (hj : j < evFN k) : (evFs B S h mi k a)[j]? = some (if evIsR k j = true then va_rf ((evR h a j).map (evPh B S)) else .int (mi a j)) := by
  unfold evFs
  rw [List.getElem?_map, List.getElem?_range hj]
  rfl
theorem evFs_len {B : Nat} {S : Nat → Nat} {h : evH} {mi : evM} {k a : Nat} : (evFs B S h mi k a).length = evFN k := by
  unfold evFs
  rw [List.length_map, List.length_range]
theorem evFs_set {B : Nat} {S : Nat → Nat} {h h' : evH} {mi mi' : evM} {k a j : Nat} {v : Value} (hv : (if evIsR k j = true then va_rf ((evR h' a j).map (evPh B S)) else .int (mi' a j)) = v) (ho : ∀ i, i ≠ j → evR h' a i = evR h a i ∧ mi' a i = mi a i) : (evFs B S h mi k a).set j v = evFs B S h' mi' k a := by
  apply List.ext_getElem?
  intro i
  rw [List.getElem?_set, evFs_len]
  unfold evFs
  simp only [List.getElem?_map]
  by_cases hij : j = i
  · subst hij
    rw [if_pos rfl]
    by_cases hl : j < evFN k
    · rw [if_pos hl, List.getElem?_range hl]
      rw [← hv]
      rfl
    · rw [if_neg hl, List.getElem?_eq_none (by rw [List.length_range]; omega)]
      rfl
  · rw [if_neg hij]
    by_cases hl : i < evFN k
    · rw [List.getElem?_range hl]
      simp only [Option.map_some, (ho i (fun q => hij q.symm)).1, (ho i (fun q => hij q.symm)).2]
    · rw [List.getElem?_eq_none (by rw [List.length_range]; omega)]
      rfl
theorem evE_o {B : Nat} {S : Nat → Nat} {dA : Nat → ClassId} {h : evH} {mi : evM} {a k : Nat} (hk : evK h a = k) (h9 : k < 9) : evE B S dA h mi a = .inr (k, evFs B S h mi k a) := by
  subst hk
  unfold evE
  rw [if_pos h9]
theorem evE_i {B : Nat} {S : Nat → Nat} {dA : Nat → ClassId} {h : evH} {mi : evM} {a : Nat} (hk : evK h a = 9) : evE B S dA h mi a = .inl (dA 0, evLen h a, .inl (mi a)) := by
  unfold evE
  rw [hk]
  rfl
theorem evE_r {B : Nat} {S : Nat → Nat} {dA : Nat → ClassId} {h : evH} {mi : evM} {a : Nat} (hk : 10 ≤ evK h a) : evE B S dA h mi a = .inl (dA (evK h a - 9), evLen h a, .inr (.inr (.inr (.inr (fun j => (evR h a j).map (evPh B S)))))) := by
  unfold evE
  rw [if_neg (by omega), if_neg (by omega)]
theorem evE_same {B : Nat} {S : Nat → Nat} {dA : Nat → ClassId} {h h' : evH} {mi mi' : evM} {a : Nat} (h1 : h'.2.2.1 a = h.2.2.1 a) (h2 : ∀ j, evR h' a j = evR h a j) (h3 : mi' a = mi a) : evE B S dA h' mi' a = evE B S dA h mi a := by
  have e1 : evK h' a = evK h a := by unfold evK; rw [h1]
  have e2 : evLen h' a = evLen h a := by unfold evLen; rw [h1]
  unfold evE evFs
  rw [e1, e2, h3]
  simp only [h2]
theorem evV_rf {B : Nat} {S : Nat → Nat} {q : Option Nat} : evV B S (va_rf q) = va_rf (q.map (evPh B S)) := by cases q <;> rfl
theorem evPh_in {B : Nat} {S : Nat → Nat} {a : Nat} (h : a < evO9) : evPh B S a = B + a := if_pos h
theorem evPh_out {B : Nat} {S : Nat → Nat} {k : Nat} : evPh B S (evO9 + k) = S k := by
  unfold evPh
  rw [if_neg (by omega), Nat.add_sub_cancel_left]
theorem evCs_map {B : Nat} {S : Nat → Nat} (st : List Value) : ((st.map (evV B S)).map fun v => v.category).sum = evCs st := by
  unfold evCs
  congr 1
  rw [List.map_map]
  apply List.map_congr_left
  intro v _
  cases v <;> rfl
theorem evV_cat {B : Nat} {S : Nat → Nat} (v : Value) : (evV B S v).category = v.category := by cases v <;> rfl
def evLm (B : Nat) (S : Nat → Nat) (lv : evL) : List (Nat × Value) := lv.map (fun q => (q.1, evV B S q.2))
theorem evLm_at {B : Nat} {S : Nat → Nat} {ls : Array Slot} {n i : Nat} {lv : evL} {v : Value} (h : lv_has ls n (evLm B S lv)) (hk : evLk i lv = some v) : ls[i]? = some (.val (evV B S v)) :=
  h.2.2 (i, evV B S v) (List.mem_map.mpr ⟨(i, v), evLk_of hk, rfl⟩)
theorem evLm_1 {B : Nat} {S : Nat → Nat} {ls : Array Slot} {n i : Nat} {lv : evL} {v w : Value} (hw : evV B S v = w) (h : lv_has ls n ((i, w) :: (evLm B S lv).filter (fun q => !(q.1 == i) && !(q.1 + 1 == i && q.2.category == 2)))) : lv_has ls n (evLm B S (evS1 i v lv)) := by
  refine ⟨h.1, h.2.1, fun q hq => ?_⟩
  obtain ⟨p, hp, rfl⟩ := List.mem_map.mp hq
  refine h.2.2 _ ?_
  rcases evIn_mem hp with rfl | hp
  · rw [← hw]; exact List.mem_cons_self
  · obtain ⟨h1, h2⟩ := List.mem_filter.mp hp
    refine List.mem_cons_of_mem _ (List.mem_filter.mpr ⟨List.mem_map.mpr ⟨p, h1, rfl⟩, ?_⟩)
    show (!(p.1 == i) && !(p.1 + 1 == i && (evV B S p.2).category == 2)) = true
    rw [evV_cat]
    exact h2
theorem evLm_2 {B : Nat} {S : Nat → Nat} {ls : Array Slot} {n i : Nat} {lv : evL} {v w : Value} (hw : evV B S v = w) (h : lv_has ls n ((i, w) :: (evLm B S lv).filter (fun q => !(q.1 == i) && (!(q.1 == i + 1) && !(q.1 + 1 == i && q.2.category == 2))))) : lv_has ls n (evLm B S (evS2 i v lv)) := by
  refine ⟨h.1, h.2.1, fun q hq => ?_⟩
  obtain ⟨p, hp, rfl⟩ := List.mem_map.mp hq
  refine h.2.2 _ ?_
  rcases evIn_mem hp with rfl | hp
  · rw [← hw]; exact List.mem_cons_self
  · obtain ⟨h1, h2⟩ := List.mem_filter.mp hp
    refine List.mem_cons_of_mem _ (List.mem_filter.mpr ⟨List.mem_map.mpr ⟨p, h1, rfl⟩, ?_⟩)
    show (!(p.1 == i) && (!(p.1 == i + 1) && !(p.1 + 1 == i && (evV B S p.2).category == 2))) = true
    rw [evV_cat]
    exact h2
