/-! the relation of both objects-/
def rS (v : evVt) (r : Nat → Int32) : Prop := ∃ n q T lag g tot, T ≤ 9999 ∧ rFu v r n q T lag g tot
theorem rS_row {v : evVt} {r r' : Nat → Int32} (e : ∀ j, j < 328 → r' j = r j) (H : rS v r) : rS v r' := by
  obtain ⟨n, q, T, lag, g, tot, h1, h2⟩ := H
  exact ⟨n, q, T, lag, g, tot, h1, rFu_row e h2⟩
/-- the history: next x, kept k; V the halls, u the model's parts -/
def rHis (V : Nat → evVt) (u : Nat → Nat → Int32) (x k : Nat) : Prop := ∀ i, i < k → rS (V (2 + (x + 7 - (k - i)) % 7)) (fun j => u 3 (i * 328 + j))
def rPad (p u : Nat → Nat → Int32) (L : Nat) : Prop := p 1 1 = nI L ∧ u 0 7 = nI L ∧ ∀ j, j < L → u 6 j = p 2 j
def rSlo (V : Nat → evVt) (u : Nat → Nat → Int32) (s : Nat → Option Nat) : Prop := ∀ t, t < 2 → (s t = none ∧ u 5 t = 0) ∨ ∃ i, s t = some i ∧ ¬ u 5 t = 0 ∧ rS (V i) (fun j => u 4 (328 * t + j))
def sCnt (s : Nat → Option Nat) : Nat := (if s 0 = none then 0 else 1) + (if s 1 = none then 0 else 1)
def LR (h : evH) (s : Nat → Option Nat) (n : Nat) (u p : Nat → Nat → Int32) (V : Nat → evVt) (x k L : Nat) : Prop :=
  xOK h n s ∧ mOK h 375 ∧ (evSp h 0 = (4, evGv 0) ∧ evSp h 1 = (4, evGv 1)) ∧ evSl h ≤ 10000 + 358 * n ∧ (n = sCnt s ∧ (s 0 = none ∨ s 0 ≠ s 1)) ∧ rS (V 0) (u 1) ∧ (x < 7 ∧ k ≤ 6 ∧ L ≤ 80) ∧ (p 0 1 = nI x ∧ p 0 2 = nI k ∧ u 0 3 = nI k) ∧ rHis V u x k ∧ rPad p u L ∧ rSlo V u s
section LAW
variable {h : evH} {s : Nat → Option Nat} {n : Nat} {u u' p p' : Nat → Nat → Int32} {V : Nat → evVt} {x k L : Nat}
theorem LR_u (e1 : ∀ j, j < 328 → u' 1 j = u 1 j) (e3 : ∀ j, u' 3 j = u 3 j) (e4 : ∀ j, u' 4 j = u 4 j) (e5 : ∀ j, u' 5 j = u 5 j) (e6 : ∀ j, u' 6 j = u 6 j) (e03 : u' 0 3 = u 0 3) (e07 : u' 0 7 = u 0 7) (H : LR h s n u p V x k L) : LR h s n u' p V x k L := by
  obtain ⟨h1, h2, h3, h4, h5, h6, h7, h8, h9, ⟨g1, g2, g3⟩, hs⟩ := H
  refine ⟨h1, h2, h3, h4, h5, rS_row e1 h6, h7, ⟨h8.1, h8.2.1, by rw [e03]; exact h8.2.2⟩, fun i hi => ?_, ⟨g1, by rw [e07]; exact g2, fun j hj => by rw [e6]; exact g3 j hj⟩, fun t ht => ?_⟩
  · exact rS_row (fun j _ => e3 _) (h9 i hi)
  · rcases hs t ht with ⟨a, b⟩ | ⟨i, a, b, c⟩
    · exact Or.inl ⟨a, by rw [e5]; exact b⟩
    · exact Or.inr ⟨i, a, by rw [e5]; exact b, rS_row (fun j _ => e4 _) c⟩
theorem LR_V1 (w : evVt) (H : LR h s n u p V x k L) : LR h s n u p (Vs V 1 w) x k L := by
  obtain ⟨h1, h2, h3, h4, h5, h6, h7, h8, h9, hg, hs⟩ := H
  refine ⟨h1, h2, h3, h4, h5, by rw [Vs_at, if_neg (by omega)]; exact h6, h7, h8, fun i hi => ?_, hg, fun t ht => ?_⟩
  · rw [Vs_at, if_neg (by omega)]; exact h9 i hi
  · rcases hs t ht with ⟨a, b⟩ | ⟨i, a, b, c⟩
    · exact Or.inl ⟨a, b⟩
    · have := h1.2.2.2.2.2.2.2.2.2.2.2.2.2.2.2.2.2.2.2.2.1 t i ht a
      exact Or.inr ⟨i, a, b, by rw [Vs_at, if_neg (by omega)]; exact c⟩
theorem slot_lt (H : LR h s n u p V x k L) {t i : Nat} (ht : t < 2) (a : s t = some i) : 9 ≤ i ∧ i < 9 + n := H.1.2.2.2.2.2.2.2.2.2.2.2.2.2.2.2.2.2.2.2.2.1 t i ht a
/-- a change that is refused -/
theorem LR_fail (H : LR h s n u p V x k L) : LR h s n u p (chW V x (V 0)) x k L := by
  have HH := H
  obtain ⟨h1, h2, h3, h4, h5, h6, h7, h8, h9, hg, hs⟩ := H
  unfold chW
  refine ⟨h1, h2, h3, h4, h5, by rw [Vs_at, if_pos rfl]; exact h6, h7, h8, fun i hi => ?_, hg, fun t ht => ?_⟩
  · rw [Vs_at, if_neg (by omega), Vs_at, if_neg (by omega)]; exact h9 i hi
  · rcases hs t ht with ⟨a, b⟩ | ⟨i, a, b, c⟩
    · exact Or.inl ⟨a, b⟩
    · have := slot_lt HH ht a
      exact Or.inr ⟨i, a, b, by rw [Vs_at, if_neg (by omega), Vs_at, if_neg (by omega)]; exact c⟩
theorem rcU_03 (u : Nat → Nat → Int32) (k : Nat) (hk : k ≤ 6) : rcU u k 0 3 = nI (if k + 1 < 6 then k + 1 else 6) := by
  unfold rcU
  by_cases h : k = 6
  · rw [if_pos h, ms_at, if_pos ⟨rfl, rfl⟩, if_neg (by omega)]
  · rw [if_neg h, ms_at, if_pos ⟨rfl, rfl⟩]
    by_cases h2 : k + 1 < 6
    · rw [if_pos h2]
    · rw [if_neg h2, show k + 1 = 6 by omega]
theorem rcU_3 (u : Nat → Nat → Int32) {k : Nat} (hk : k ≤ 6) {i j : Nat} (hi : i < (if k + 1 < 6 then k + 1 else 6)) (hj : j < 328) : rcU u k 3 (i * 328 + j) = if k = 6 then (if i = 5 then u 1 j else u 3 ((i + 1) * 328 + j)) else (if i = k then u 1 j else u 3 (i * 328 + j)) := by
  unfold rcU
  by_cases h : k = 6
  · rw [if_pos h, if_pos h, ms_at, if_neg (by omega)]
    unfold mvU
    by_cases h5 : i = 5
    · rw [if_pos h5, if_pos (by omega), ms_at, if_neg (by omega), shU_o _ _ _ (by omega), show 0 + (i * 328 + j - 5 * 328) = j by omega]
    · have hi6 : i < 5 := by
        rw [h, if_neg (by omega)] at hi
        omega
      rw [if_neg h5, if_neg (by omega), ms_at, if_neg (by omega)]
      unfold shU
      rw [if_pos (by omega), show i * 328 + j + 328 = (i + 1) * 328 + j by omega]
  · rw [if_neg h, if_neg h, ms_at, if_neg (by omega)]
    unfold mvU
    by_cases hik : i = k
    · rw [if_pos hik, if_pos (by rw [hik]; omega), show 0 + (i * 328 + j - k * 328) = j by rw [hik]; omega]
    · have hlt : i < k := by
        split at hi <;> omega
      rw [if_neg hik, if_neg (by omega)]
/-- a change that is made: w the hall behind it, u' the model's parts -/
theorem LR_ok {w : evVt} {a : Int32} (ha : ¬ a < 0) (e3 : ∀ j, u' 3 j = rcU u k 3 j) (e03 : u' 0 3 = rcU u k 0 3) (e4 : ∀ j, u' 4 j = u 4 j) (e5 : ∀ j, u' 5 j = u 5 j) (e6 : ∀ j, u' 6 j = u 6 j) (e07 : u' 0 7 = u 0 7) (hw : rS w (u' 1)) (H : LR h s n u p V x k L) : LR h s n u' (stP p x k a) (chW V x w) (stN x) (if k + 1 < 6 then k + 1 else 6) L := by
  have HH := H
  obtain ⟨h1, h2, h3, h4, h5, h6, ⟨h7, h7', h7''⟩, h8, h9, ⟨g1, g2, g3⟩, hs⟩ := H
  have hx' : stN x < 7 := by unfold stN; split <;> omega
  have hP : stP p x k a = ms (ms p 0 1 (nI (stN x))) 0 2 (nI (if k + 1 < 6 then k + 1 else 6)) := by unfold stP; rw [if_neg ha]
  have po : ∀ o j, o ≠ 0 → stP p x k a o j = p o j := fun o j ho => by rw [hP, ms_at, if_neg (fun z => ho z.1), ms_at, if_neg (fun z => ho z.1)]
  unfold chW
  refine ⟨h1, h2, h3, h4, h5, by rw [Vs_at, if_pos rfl]; exact hw, ⟨hx', by split <;> omega, h7''⟩, ⟨by rw [hP, ms_at, if_neg (by omega), ms_at, if_pos ⟨rfl, rfl⟩], by rw [hP, ms_at, if_pos ⟨rfl, rfl⟩], by rw [e03]; exact rcU_03 u k h7'⟩, fun i hi => ?_, ⟨by rw [po _ _ (by omega)]; exact g1, by rw [e07]; exact g2, fun j hj => by rw [e6, po _ _ (by omega)]; exact g3 j hj⟩, fun t ht => ?_⟩
  · rw [Vs_at, if_neg (by omega)]
    by_cases hk6 : k = 6
    · have hk' : (if k + 1 < 6 then k + 1 else 6) = 6 := by rw [if_neg (by omega)]
      rw [hk'] at hi ⊢
      by_cases h55 : i = 5
      · have e : (stN x + 7 - (6 - i)) % 7 = x := by unfold stN; split <;> omega
        rw [e, Vs_at, if_pos rfl]
        refine rS_row (fun j hj => ?_) h6
        rw [e3, rcU_3 u h7' (by rw [hk']; exact hi) hj, if_pos hk6, if_pos h55]
      · have e : (stN x + 7 - (6 - i)) % 7 = (x + 7 - (6 - (i + 1))) % 7 := by unfold stN; split <;> omega
        have e2 : 2 + (stN x + 7 - (6 - i)) % 7 ≠ 2 + x := by rw [e]; omega
        rw [Vs_at, if_neg e2, e]
        have h9' := h9 (i + 1) (by omega)
        rw [hk6] at h9'
        refine rS_row (fun j hj => ?_) h9'
        rw [e3, rcU_3 u h7' (by rw [hk']; exact hi) hj, if_pos hk6, if_neg h55]
    · have hk' : (if k + 1 < 6 then k + 1 else 6) = k + 1 := by
        by_cases h : k + 1 < 6
        · rw [if_pos h]
        · rw [if_neg h]; omega
      rw [hk'] at hi ⊢
      by_cases hik : i = k
      · have e : (stN x + 7 - (k + 1 - i)) % 7 = x := by unfold stN; split <;> omega
        rw [e, Vs_at, if_pos rfl]
        refine rS_row (fun j hj => ?_) h6
        rw [e3, rcU_3 u h7' (by rw [hk']; exact hi) hj, if_neg hk6, if_pos hik]
      · have e : (stN x + 7 - (k + 1 - i)) % 7 = (x + 7 - (k - i)) % 7 := by unfold stN; split <;> omega
        have e2 : 2 + (stN x + 7 - (k + 1 - i)) % 7 ≠ 2 + x := by rw [e]; omega
        rw [Vs_at, if_neg e2, e]
        refine rS_row (fun j hj => ?_) (h9 i (by omega))
        rw [e3, rcU_3 u h7' (by rw [hk']; exact hi) hj, if_neg hk6, if_neg hik]
  · rcases hs t ht with ⟨a, b⟩ | ⟨i, a, b, c⟩
    · exact Or.inl ⟨a, by rw [e5]; exact b⟩
    · have := slot_lt HH ht a
      refine Or.inr ⟨i, a, by rw [e5]; exact b, ?_⟩
      rw [Vs_at, if_neg (by omega), Vs_at, if_neg (by omega)]
      exact rS_row (fun j _ => e4 _) c
/-- what is undone -/
theorem LR_undo (hk0 : k ≠ 0) (e1 : ∀ j, j < 328 → u' 1 j = u 3 ((k - 1) * 328 + j)) (e3 : ∀ j, u' 3 j = u 3 j) (e03 : u' 0 3 = nI (k - 1)) (e4 : ∀ j, u' 4 j = u 4 j) (e5 : ∀ j, u' 5 j = u 5 j) (e6 : ∀ j, u' 6 j = u 6 j) (e07 : u' 0 7 = u 0 7) (H : LR h s n u p V x k L) : LR h s n u' (ms (ms p 0 1 (nI (bkN x))) 0 2 (nI (k - 1))) (Vs V 0 (V (2 + bkN x))) (bkN x) (k - 1) L := by
  have HH := H
  obtain ⟨h1, h2, h3, h4, h5, h6, ⟨h7, h7', h7''⟩, h8, h9, ⟨g1, g2, g3⟩, hs⟩ := H
  have po : ∀ o j, o ≠ 0 → ms (ms p 0 1 (nI (bkN x))) 0 2 (nI (k - 1)) o j = p o j := fun o j ho => by rw [ms_at, if_neg (fun z => ho z.1), ms_at, if_neg (fun z => ho z.1)]
  refine ⟨h1, h2, h3, h4, h5, ?_, ⟨by unfold bkN; split <;> omega, by omega, h7''⟩, ⟨by rw [ms_at, if_neg (by omega), ms_at, if_pos ⟨rfl, rfl⟩], by rw [ms_at, if_pos ⟨rfl, rfl⟩], e03⟩, fun i hi => ?_, ⟨by rw [po _ _ (by omega)]; exact g1, by rw [e07]; exact g2, fun j hj => by rw [e6, po _ _ (by omega)]; exact g3 j hj⟩, fun t ht => ?_⟩
  · rw [Vs_at, if_pos rfl]
    have e : (x + 7 - (k - (k - 1))) % 7 = bkN x := by unfold bkN; split <;> omega
    have h9' := h9 (k - 1) (by omega)
    rw [e] at h9'
    exact rS_row e1 h9'
  · have e : (bkN x + 7 - (k - 1 - i)) % 7 = (x + 7 - (k - i)) % 7 := by unfold bkN; split <;> omega
    rw [Vs_at, if_neg (by omega), e]
    exact rS_row (fun j _ => e3 _) (h9 i (by omega))
  · rcases hs t ht with ⟨a, b⟩ | ⟨i, a, b, c⟩
    · exact Or.inl ⟨a, by rw [e5]; exact b⟩
    · have := slot_lt HH ht a
      refine Or.inr ⟨i, a, by rw [e5]; exact b, ?_⟩
      rw [Vs_at, if_neg (by omega)]
      exact rS_row (fun j _ => e4 _) c
/-- the pad changes -/
theorem LR_pad {L' : Nat} (hL' : L' ≤ 80) (hp0 : ∀ j, p' 0 j = p 0 j) (e1 : ∀ j, u' 1 j = u 1 j) (e3 : ∀ j, u' 3 j = u 3 j) (e4 : ∀ j, u' 4 j = u 4 j) (e5 : ∀ j, u' 5 j = u 5 j) (e03 : u' 0 3 = u 0 3) (hP : rPad p' u' L') (H : LR h s n u p V x k L) : LR h s n u' p' V x k L' := by
  obtain ⟨h1, h2, h3, h4, h5, h6, h7, h8, h9, -, hs⟩ := H
  refine ⟨h1, h2, h3, h4, h5, rS_row (fun j _ => e1 j) h6, ⟨h7.1, h7.2.1, hL'⟩, ⟨by rw [hp0]; exact h8.1, by rw [hp0]; exact h8.2.1, by rw [e03]; exact h8.2.2⟩, fun i hi => rS_row (fun j _ => e3 _) (h9 i hi), hP, fun t ht => ?_⟩
  rcases hs t ht with ⟨a, b⟩ | ⟨i, a, b, c⟩
  · exact Or.inl ⟨a, by rw [e5]; exact b⟩
  · exact Or.inr ⟨i, a, by rw [e5]; exact b, rS_row (fun j _ => e4 _) c⟩
end LAW
/-- a call of both objects: the same answer, and the relation again -/
def stepI (Mc Mm : Nat) (as : evL) (h : evH) (n : Nat) (u p : Nat → Nat → Int32) (V : Nat → evVt) : Prop := ∃ (a : Int32) (h' : evH) (s' : Nat → Option Nat) (n' : Nat) (u' p' : Nat → Nat → Int32) (V' : Nat → evVt) (x' k' L' : Nat), evX Mc 0 ((0, .ref 0) :: as) [] h (memW u p V n) = some (some (.int a), h', memW u p' V' n') ∧ evX Mm 0 ((0, .ref 375) :: as) [] h' (memW u p' V' n') = some (some (.int a), h', memW u' p' V' n') ∧ LR h' s' n' u' p' V' x' k' L' ∧ evSp h' = evSp h
