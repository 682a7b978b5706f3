/-! the order of bids (coins, round, bidder), and the greatest of many -/
def ab (t s : evT) : Prop := s.1 < t.1 ∨ t.1 = s.1 ∧ (t.2.1 < s.2.1 ∨ t.2.1 = s.2.1 ∧ t.2.2 < s.2.2)
theorem ab_int (t s : evT) : ab t s ↔ (s.1.toInt < t.1.toInt ∨ t.1.toInt = s.1.toInt ∧ (t.2.1.toInt < s.2.1.toInt ∨ t.2.1.toInt = s.2.1.toInt ∧ t.2.2.toInt < s.2.2.toInt)) := by
  unfold ab
  rw [Int32.lt_iff_toInt_lt, Int32.lt_iff_toInt_lt, Int32.lt_iff_toInt_lt, ← Int32.toInt_inj, ← Int32.toInt_inj]
theorem abv_iff (t s : evT) : abv t.2.2 t.1 t.2.1 s.2.2 s.1 s.2.1 = true ↔ ab t s := by
  unfold abv ab
  by_cases h1 : t.1 = s.1
  · rw [if_pos h1]
    by_cases h2 : t.2.1 = s.2.1
    · rw [if_pos h2, decide_eq_true_eq, h1, h2]
      constructor
      · intro h; exact Or.inr ⟨rfl, Or.inr ⟨rfl, h⟩⟩
      · rintro (h | ⟨-, h | ⟨-, h⟩⟩)
        · exact absurd h (fun z => Int32.lt_irrefl z)
        · exact absurd h (fun z => Int32.lt_irrefl z)
        · exact h
    · rw [if_neg h2, decide_eq_true_eq, h1]
      constructor
      · intro h; exact Or.inr ⟨rfl, Or.inl h⟩
      · rintro (h | ⟨-, h | ⟨h, -⟩⟩)
        · exact absurd h (fun z => Int32.lt_irrefl z)
        · exact h
        · exact absurd h h2
  · rw [if_neg h1, decide_eq_true_eq]
    constructor
    · intro h; exact Or.inl h
    · rintro (h | ⟨h, -⟩)
      · exact h
      · exact absurd h h1
theorem evT_ext {t s : evT} (h1 : t.1.toInt = s.1.toInt) (h2 : t.2.1.toInt = s.2.1.toInt) (h3 : t.2.2.toInt = s.2.2.toInt) : t = s := Prod.ext (Int32.toInt_inj.mp h1) (Prod.ext (Int32.toInt_inj.mp h2) (Int32.toInt_inj.mp h3))
theorem pos_int (x : Int32) : 0 < x ↔ 0 < x.toInt := by
  rw [Int32.lt_iff_toInt_lt]
  rfl
def mxQ (P : evT → Prop) (t : evT) : Prop := (0 < t.1 → P t ∧ ∀ s, P s → 0 < s.1 → ¬ ab s t) ∧ (¬ 0 < t.1 → ∀ s, P s → ¬ 0 < s.1)
def mxP (P : evT → Prop) (t : evT) : Prop := mxQ P t ∧ (¬ 0 < t.1 → t = (0, 0, -6))
theorem mx_uniq {P : evT → Prop} {t s : evT} (h : mxP P t) (k : mxP P s) : t = s := by
  obtain ⟨⟨h1, h2⟩, h3⟩ := h
  obtain ⟨⟨k1, k2⟩, k3⟩ := k
  by_cases ht : 0 < t.1
  · obtain ⟨a1, a2⟩ := h1 ht
    by_cases hs : 0 < s.1
    · obtain ⟨b1, b2⟩ := k1 hs
      have c1 := a2 s b1 hs
      have c2 := b2 t a1 ht
      rw [ab_int] at c1 c2
      apply evT_ext <;> omega
    · exact absurd ht (k2 hs t a1)
  · by_cases hs : 0 < s.1
    · exact absurd hs (h2 ht s (k1 hs).1)
    · rw [h3 ht, k3 hs]
theorem mxQ_congr {P Q : evT → Prop} {t : evT} (e : ∀ s, 0 < s.1 → (P s ↔ Q s)) (h : mxQ P t) : mxQ Q t := by
  refine ⟨fun ht => ⟨(e t ht).mp (h.1 ht).1, fun s hs h0 => (h.1 ht).2 s ((e s h0).mpr hs) h0⟩, fun ht s hs h0 => h.2 ht s ((e s h0).mpr hs) h0⟩
theorem mx_congr {P Q : evT → Prop} {t : evT} (e : ∀ s, 0 < s.1 → (P s ↔ Q s)) (h : mxP P t) : mxP Q t := ⟨mxQ_congr e h.1, h.2⟩
theorem mxQ_of {P : evT → Prop} {x r b b' : Int32} (h : mxQ P (x, r, b)) (hb : 0 < x → b' = b) : mxQ P (x, r, b') := by
  by_cases hx : 0 < x
  · rw [hb hx]; exact h
  · exact ⟨fun z => absurd z hx, fun z => h.2 z⟩
theorem mx_hear {P Q : evT → Prop} {t : evT} {x r b : Int32} (h : mxP P t) (k : mxQ Q (x, r, b)) : mxP (fun s => P s ∨ Q s) (hearT t x r b) := by
  have hab : (t.1 < x ∨ x = t.1 ∧ (r < t.2.1 ∨ r = t.2.1 ∧ b < t.2.2)) ↔ ab (x, r, b) t := Iff.rfl
  unfold hearT
  by_cases hx : 0 < x
  · obtain ⟨b1, b2⟩ := k.1 hx
    by_cases ha : ab (x, r, b) t
    · rw [if_pos ⟨hx, hab.mpr ha⟩]
      refine ⟨⟨fun _ => ⟨Or.inr b1, fun s hs h0 hc => ?_⟩, fun z => absurd hx z⟩, fun z => absurd hx z⟩
      rcases hs with hs | hs
      · by_cases ht : 0 < t.1
        · have := (h.1.1 ht).2 s hs h0
          rw [ab_int] at this hc ha
          simp only [] at this hc ha
          omega
        · exact h.1.2 ht s hs h0
      · exact b2 s hs h0 hc
    · rw [if_neg (fun z => ha (hab.mp z.2))]
      by_cases ht : 0 < t.1
      · refine ⟨⟨fun _ => ⟨Or.inl (h.1.1 ht).1, fun s hs h0 hc => ?_⟩, fun z => absurd ht z⟩, h.2⟩
        rcases hs with hs | hs
        · exact (h.1.1 ht).2 s hs h0 hc
        · have := b2 s hs h0
          rw [ab_int] at this hc ha
          simp only [] at this hc ha
          omega
      · exfalso
        apply ha
        rw [ab_int]
        rw [pos_int] at hx ht
        simp only []
        omega
  · rw [if_neg (fun z => hx z.1)]
    refine ⟨⟨fun ht => ⟨Or.inl (h.1.1 ht).1, fun s hs h0 => ?_⟩, fun ht s hs h0 => ?_⟩, h.2⟩
    · rcases hs with hs | hs
      · exact (h.1.1 ht).2 s hs h0
      · exact absurd h0 (k.2 hx s hs)
    · rcases hs with hs | hs
      · exact h.1.2 ht s hs h0
      · exact k.2 hx s hs h0
theorem mx_max {P Q : evT → Prop} {t s : evT} (h : mxP P t) (k : mxP Q s) : mxP (fun z => P z ∨ Q z) (if abv s.2.2 s.1 s.2.1 t.2.2 t.1 t.2.1 = true then s else t) := by
  by_cases hs : 0 < s.1
  · have := mx_hear (x := s.1) (r := s.2.1) (b := s.2.2) h k.1
    have e : hearT t s.1 s.2.1 s.2.2 = if abv s.2.2 s.1 s.2.1 t.2.2 t.1 t.2.1 = true then s else t := by
      unfold hearT
      by_cases ha : ab s t
      · rw [if_pos ⟨hs, ha⟩, if_pos ((abv_iff s t).mpr ha)]
      · rw [if_neg (fun z => ha z.2), if_neg (fun z => ha ((abv_iff s t).mp z))]
    rw [e] at this
    exact this
  · have e := k.2 hs
    have e2 : (if abv s.2.2 s.1 s.2.1 t.2.2 t.1 t.2.1 = true then s else t) = t := by
      by_cases ha : ab s t
      · rw [if_pos ((abv_iff s t).mpr ha)]
        by_cases ht : 0 < t.1
        · exfalso
          rw [ab_int] at ha
          rw [pos_int] at hs ht
          omega
        · rw [e, h.2 ht]
      · rw [if_neg (fun z => ha ((abv_iff s t).mp z))]
    rw [e2]
    refine ⟨⟨fun ht => ⟨Or.inl (h.1.1 ht).1, fun z hz h0 => ?_⟩, fun ht z hz h0 => ?_⟩, h.2⟩
    · rcases hz with hz | hz
      · exact (h.1.1 ht).2 z hz h0
      · exact absurd h0 (k.1.2 hs z hz)
    · rcases hz with hz | hz
      · exact h.1.2 ht z hz h0
      · exact k.1.2 hs z hz h0
theorem mxP_nn {P : evT → Prop} {t : evT} (h : mxP P t) : ¬ t.1 < 0 := by
  intro q
  have ht : ¬ 0 < t.1 := by
    rw [pos_int]
    rw [Int32.lt_iff_toInt_lt] at q
    have : (0 : Int32).toInt = 0 := rfl
    omega
  rw [h.2 ht] at q
  exact absurd q (by decide)
theorem mx_new {P : evT → Prop} {t : evT} {x r b : Int32} (h : mxP P t) (hl : ∀ s, P s → s.1 = x → ¬ (r < s.2.1 ∨ r = s.2.1 ∧ b < s.2.2)) : mxP (fun s => P s ∨ s = (x, r, b)) (if t.1 < x then (x, r, b) else t) := by
  have hn := mxP_nn h
  have z0 : (0 : Int32).toInt = 0 := rfl
  by_cases hx : t.1 < x
  · rw [if_pos hx]
    have hx0 : 0 < x := by
      rw [pos_int]
      rw [Int32.lt_iff_toInt_lt] at hn hx
      omega
    refine ⟨⟨fun _ => ⟨Or.inr rfl, fun s hs h0 hc => ?_⟩, fun z => absurd hx0 z⟩, fun z => absurd hx0 z⟩
    rcases hs with hs | hs
    · by_cases ht : 0 < t.1
      · have := (h.1.1 ht).2 s hs h0
        rw [ab_int] at this hc
        rw [Int32.lt_iff_toInt_lt] at hx
        simp only [] at this hc
        omega
      · exact h.1.2 ht s hs h0
    · rw [hs, ab_int] at hc
      simp only [] at hc
      omega
  · rw [if_neg hx]
    refine ⟨⟨fun ht => ⟨Or.inl (h.1.1 ht).1, fun s hs h0 hc => ?_⟩, fun ht s hs h0 => ?_⟩, h.2⟩
    · rcases hs with hs | hs
      · exact (h.1.1 ht).2 s hs h0 hc
      · rw [hs] at hc
        rcases hc with hc | ⟨hc, hd⟩
        · exact hx hc
        · exact hl t (h.1.1 ht).1 hc.symm hd
    · rcases hs with hs | hs
      · exact h.1.2 ht s hs h0
      · rw [hs] at h0
        rw [pos_int] at h0 ht
        rw [Int32.lt_iff_toInt_lt] at hx
        simp only [] at h0
        omega
theorem mx_zero {P : evT → Prop} (h : ∀ s, P s → ¬ 0 < s.1) : mxP P (0, 0, -6) := ⟨⟨fun z => absurd z (by decide), fun _ => h⟩, fun _ => rfl⟩
theorem mxQ_zero {P : evT → Prop} {t : evT} (h0 : ¬ 0 < t.1) (h : ∀ s, P s → ¬ 0 < s.1) : mxQ P t := ⟨fun z => absurd z h0, fun _ => h⟩
/-- the bids of a lot: G round bidder, of those that S names -/
def gB (G : Nat → Nat → Int32) (S : Nat → Nat → Prop) : evT → Prop := fun s => ∃ t k, S t k ∧ k < 6 ∧ s = (G t k, nI t, nI k)
