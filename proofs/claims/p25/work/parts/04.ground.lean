/-! what the evaluator's helpers say, undone; the tables' facts; where a world lies -/
section EVU
variable {α : Type} {z : α}
theorem evPi_of {st : List Value} {f : Int32 → List Value → Option α} (h : evPi st f = some z) : ∃ x r, st = .int x :: r ∧ f x r = some z := by
  unfold evPi at h
  split at h
  · exact ⟨_, _, rfl, h⟩
  · cases h
theorem evPl_of {st : List Value} {f : Int64 → List Value → Option α} (h : evPl st f = some z) : ∃ x r, st = .long x :: r ∧ f x r = some z := by
  unfold evPl at h
  split at h
  · exact ⟨_, _, rfl, h⟩
  · cases h
theorem evPf_of {st : List Value} {f : UInt32 → List Value → Option α} (h : evPf st f = some z) : ∃ x r, st = .float x :: r ∧ f x r = some z := by
  unfold evPf at h
  split at h
  · exact ⟨_, _, rfl, h⟩
  · cases h
theorem evPd_of {st : List Value} {f : UInt64 → List Value → Option α} (h : evPd st f = some z) : ∃ x r, st = .double x :: r ∧ f x r = some z := by
  unfold evPd at h
  split at h
  · exact ⟨_, _, rfl, h⟩
  · cases h
theorem evPr_of {st : List Value} {f : Nat → List Value → Option α} (h : evPr st f = some z) : ∃ x r, st = .ref x :: r ∧ f x r = some z := by
  unfold evPr at h
  split at h
  · exact ⟨_, _, rfl, h⟩
  · cases h
theorem evPq_of {st : List Value} {f : Option Nat → List Value → Option α} (h : evPq st f = some z) : ∃ q r, st = va_rf q :: r ∧ f q r = some z := by
  unfold evPq at h
  split at h
  · exact ⟨some _, _, rfl, h⟩
  · exact ⟨none, _, rfl, h⟩
  · cases h
theorem evPv_of {st : List Value} {f : Value → List Value → Option α} (h : evPv st f = some z) : ∃ v r, st = v :: r ∧ f v r = some z := by
  unfold evPv at h
  split at h
  · exact ⟨_, _, rfl, h⟩
  · cases h
theorem evIf_of {c : Prop} [Decidable c] {x : Option α} (h : evIf c x = some z) : c ∧ x = some z := by
  unfold evIf at h
  split at h
  · rename_i hc
    exact ⟨hc, h⟩
  · cases h
theorem evB_of {β : Type} {x : Option β} {f : β → Option α} (h : x.bind f = some z) : ∃ b, x = some b ∧ f b = some z := by
  cases x with
  | none => cases h
  | some b => exact ⟨b, rfl, h⟩
end EVU
theorem evJ_of {pc t : Nat} {off : Int} (h : evJ pc off = some t) : (pc : Int) + off = (t : Int) := by
  unfold evJ at h
  split at h
  · rename_i h0
    have := Option.some.inj h
    omega
  · cases h
theorem evLk_of {i : Nat} {v : Value} : ∀ {l : evL}, evLk i l = some v → (i, v) ∈ l := by
  intro l
  induction l with
  | nil => intro h; cases h
  | cons q t ih =>
    intro h
    unfold evLk at h
    split at h
    · rename_i hq
      have := Option.some.inj h
      subst hq; subst this
      exact List.mem_cons_self
    · exact List.mem_cons_of_mem _ (ih h)
theorem evIn_mem {i : Nat} {v : Value} : ∀ {l : evL} {q : Nat × Value}, q ∈ evIn i v l → q = (i, v) ∨ q ∈ l := by
  intro l
  induction l with
  | nil => intro q h; exact Or.inl (List.mem_singleton.mp h)
  | cons p t ih =>
    intro q h
    unfold evIn at h
    split at h
    · rcases List.mem_cons.mp h with h | h
      · exact Or.inr (h ▸ List.mem_cons_self)
      · exact (ih h).imp id (List.mem_cons_of_mem _)
    · rcases List.mem_cons.mp h with h | h
      · exact Or.inl h
      · exact Or.inr h
theorem ev_find {α : Type} {l : List α} {p : α → Bool} {β : Type} {g : α → β} {b : β} (h : (l.find? p).map g = some b) : ∃ a, a ∈ l ∧ p a = true ∧ g a = b := by
  cases hf : l.find? p with
  | none => rw [hf] at h; cases h
  | some a =>
    rw [hf] at h
    exact ⟨a, List.mem_of_find?_eq_some hf, List.find?_some hf, Option.some.inj h⟩
theorem ev_two {x y i j : Nat} (h : (x == y && i == j) = true) : x = y ∧ i = j := by simpa using h
theorem evTb_in {w : Cond} (h : w ∈ lw_tbl) (hg : goodWord w = true) : w ∈ evTb := List.mem_filter.mpr ⟨h, hg⟩
theorem evCls_8 : ∀ (ci : Nat) (q : vw_C), vwCl[ci]? = some q → ci < 9 := by
  intro ci q h
  have := (List.getElem?_eq_some_iff.mp h).1
  exact Nat.lt_of_lt_of_le this (by decide)
theorem evCls_in : ∀ (ci : Nat) (q : vw_C), vwCl[ci]? = some q → ∀ w ∈ u_ws q.1 q.2.1 q.2.2, w ∈ evTb := by
  intro ci q h w hw
  have hg : goodWord w = true := by
    obtain ⟨k, -, rfl⟩ := List.mem_map.mp hw
    unfold u_lay
    split <;> rfl
  refine evTb_in ?_ hg
  match ci, h with
  | 0, h => cases h; exact inX0 w hw
  | 1, h => cases h; exact inX1 w hw
  | 2, h => cases h; exact inX2 w hw
  | 3, h => cases h; exact inX3 w hw
  | 4, h => cases h; exact inX4 w hw
  | 5, h => cases h; exact inX5 w hw
  | 6, h => cases h; exact inX6 w hw
  | 7, h => cases h; exact inX7 w hw
  | n + 8, h => simp [vwCl] at h
theorem evCls_n : ∀ (ci : Nat) (q : vw_C), vwCl[ci]? = some q → q.2.2 = evFN ci ∧ q.1 = evOs ci := by
  intro ci q h
  match ci, h with
  | 0, h => cases h; exact ⟨rfl, rfl⟩
  | 1, h => cases h; exact ⟨rfl, rfl⟩
  | 2, h => cases h; exact ⟨rfl, rfl⟩
  | 3, h => cases h; exact ⟨rfl, rfl⟩
  | 4, h => cases h; exact ⟨rfl, rfl⟩
  | 5, h => cases h; exact ⟨rfl, rfl⟩
  | 6, h => cases h; exact ⟨rfl, rfl⟩
  | 7, h => cases h; exact ⟨rfl, rfl⟩
  | n + 8, h => simp [vwCl] at h
theorem evCls_ty : ∀ (ci : Nat) (q : vw_C), vwCl[ci]? = some q → ∀ k, k < q.2.2 → parseFieldDescriptor (q.2.1 k).2.2.1 = some (evTy ci k) := by
  intro ci q h
  match ci, h with
  | 0, h => cases h; exact tyX0_ok
  | 1, h => cases h; exact tyX1_ok
  | 2, h => cases h; exact tyX2_ok
  | 3, h => cases h; exact tyX3_ok
  | 4, h => cases h; exact tyX4_ok
  | 5, h => cases h; exact tyX5_ok
  | 6, h => cases h; exact tyX6_ok
  | 7, h => cases h; exact tyX7_ok
  | n + 8, h => simp [vwCl] at h
theorem evCls_nm : ∀ (ci : Nat) (q : vw_C), vwCl[ci]? = some q → ∀ a, a < q.2.2 → ∀ b, b < q.2.2 → a ≠ b → (q.2.1 a).2.1 ≠ (q.2.1 b).2.1 := by
  intro ci q h
  match ci, h with
  | 0, h => cases h; exact nmX0
  | 1, h => cases h; exact nmX1
  | 2, h => cases h; exact nmX2
  | 3, h => cases h; exact nmX3
  | 4, h => cases h; exact nmX4
  | 5, h => cases h; exact nmX5
  | 6, h => cases h; exact nmX6
  | 7, h => cases h; exact nmX7
  | n + 8, h => simp [vwCl] at h
def evTyOk (ci k : Nat) : Bool := match evTy ci k with
  | .object _ => evIsR ci k
  | .array _ => evIsR ci k
  | .int => !(evIsR ci k)
  | .boolean => !(evIsR ci k)
  | _ => false
theorem evCls_r : ∀ ci, ci < 9 → ∀ k, k < evFN ci → evTyOk ci k = true := by decide +kernel
def evDcl (ci : Nat) : Bool := match vwCl[ci]? with
  | none => true
  | some (C, T, N) => (List.range N).all (fun k => decide ((T k).1 = C))
theorem evCls_d0 : ∀ ci, ci < 9 → evDcl ci = true := by decide +kernel
theorem evCls_d : ∀ (ci : Nat) (q : vw_C), vwCl[ci]? = some q → ∀ k, k < q.2.2 → (q.2.1 k).1 = q.1 := by
  intro ci q h k hk
  have h0 := evCls_d0 ci (evCls_8 ci q h)
  unfold evDcl at h0
  rw [h] at h0
  have := List.all_eq_true.mp h0 k (List.mem_range.mpr hk)
  exact of_decide_eq_true this
theorem evF_of {y i : Nat} {q : Nat × Nat × Bool × Nat} (h : evF y i = some q) : ∃ r : vw_C, vwCl[q.1]? = some r ∧ q.2.1 < r.2.2 ∧
    ((q.2.2.1 = true ∧ Cond.fieldLinkNest (evOs (evOw y)) i r.1 (r.2.1 q.2.1).2.1 (r.2.1 q.2.1).2.2.1 "EchoBids" ∈ lw_tbl) ∨ Cond.fieldLink (evOs (evOw y)) i r.1 (r.2.1 q.2.1).2.1 (r.2.1 q.2.1).2.2.1 ∈ lw_tbl) := by
  obtain ⟨e, he, hp, rfl⟩ := ev_find h
  obtain ⟨h1, h2⟩ := ev_two hp
  have hk := List.all_eq_true.mp evFT_ok e he
  unfold evFokB at hk
  rw [h1, h2] at hk
  split at hk
  · cases hk
  · rename_i C T N hc
    simp only [Bool.and_eq_true, decide_eq_true_eq] at hk
    refine ⟨(C, T, N), hc, hk.1, ?_⟩
    have hk2 := hk.2
    split at hk2
    · rename_i hb
      exact Or.inl ⟨hb, List.mem_of_getElem? (of_decide_eq_true hk2)⟩
    · exact Or.inr (List.mem_of_getElem? (of_decide_eq_true hk2))
