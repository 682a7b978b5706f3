/-! the picture of a hall: 41 cells from b on, in the order in which they are made; v: kind, number, part -/
abbrev evVt : Type := Nat → Nat → Nat → Int32
def vs (v : evVt) (t i j : Nat) (x : Int32) : evVt := fun t' i' j' => if t' = t ∧ i' = i ∧ j' = j then x else v t' i' j'
def vrow (v : evVt) (t n : Nat) (w : evVt) : evVt := fun t' i' j' => if t' = t ∧ i' < n ∧ j' = 0 then w t i' 0 else v t' i' j'
def hSt (b : Nat) : Nat := b + 1
def hBs (b : Nat) : Nat := b + 2
def hLs (b : Nat) : Nat := b + 3
def hEs (b : Nat) : Nat := b + 4
def hRc (b : Nat) : Nat := b + 5
def hRr (b : Nat) : Nat := b + 6
def hB (b k : Nat) : Nat := b + (7 + 2 * k)
def hBb (b k : Nat) : Nat := b + (8 + 2 * k)
def hL (b k : Nat) : Nat := b + (19 + 2 * k)
def hLh (b k : Nat) : Nat := b + (20 + 2 * k)
def hE (b k : Nat) : Nat := b + (35 + k)
/-- where a part of a cell stands in the picture: kinds 0 settings, 1 the hall's numbers, 2 bidders, 3 their best bids, 4 lots, 5 their highest bids, 6 echoes, 7 how many are noted, 8 the notes -/
def hloc (o j : Nat) : Option (Nat × Nat × Nat) :=
  if o = 0 then (if 1 ≤ j ∧ j ≤ 5 then some (1, j - 1, 0) else none)
  else if o = 1 then (if j < 4 then some (0, j, 0) else none)
  else if o = 5 then (if j = 1 then some (7, 0, 0) else none)
  else if o = 6 then (if j < 160 then some (8, j, 0) else none)
  else if 7 ≤ o ∧ o < 19 then (if (o - 7) % 2 = 0 then (if j < 8 then some (2, (o - 7) / 2, j) else none) else (if j < 3 then some (3, (o - 7) / 2, j) else none))
  else if 19 ≤ o ∧ o < 35 then (if (o - 19) % 2 = 0 then (if j < 5 then some (4, (o - 19) / 2, j) else none) else (if j < 3 then some (5, (o - 19) / 2, j) else none))
  else if 35 ≤ o ∧ o < 41 then (if j < 3 then some (6, o - 35, j) else none)
  else none
def hinv (q : Nat × Nat × Nat) : Nat × Nat :=
  if q.1 = 0 then (1, q.2.1) else if q.1 = 1 then (0, q.2.1 + 1) else if q.1 = 2 then (7 + 2 * q.2.1, q.2.2) else if q.1 = 3 then (8 + 2 * q.2.1, q.2.2) else if q.1 = 4 then (19 + 2 * q.2.1, q.2.2) else if q.1 = 5 then (20 + 2 * q.2.1, q.2.2) else if q.1 = 6 then (35 + q.2.1, q.2.2) else if q.1 = 7 then (5, 1) else (6, q.2.1)
theorem hloc_inv {o j : Nat} {q : Nat × Nat × Nat} (h : hloc o j = some q) : hinv q = (o, j) := by
  unfold hloc at h
  repeat' split at h
  all_goals first
    | (cases h; done)
    | (cases h; first | (simp [hinv]; done) | (simp [hinv]; omega) | (subst_vars; simp [hinv]; done) | (subst_vars; simp [hinv]; omega))
def putV (m : evM) (b : Nat) (v : evVt) : evM := fun a j => if b ≤ a ∧ a < b + 41 then (match hloc (a - b) j with
  | some q => v q.1 q.2.1 q.2.2
  | none => 0) else m a j
theorem putV_get {m : evM} {b o j t i jj : Nat} {v : evVt} (ho : o < 41) (hq : hloc o j = some (t, i, jj)) : putV m b v (b + o) j = v t i jj := by
  unfold putV
  rw [if_pos (by omega), Nat.add_sub_cancel_left, hq]
theorem putV_set {m : evM} {b o j t i jj : Nat} {v : evVt} {x : Int32} (ho : o < 41) (hq : hloc o j = some (t, i, jj)) : evSetM (putV m b v) (b + o) j x = putV m b (vs v t i jj x) := by
  funext a k
  unfold evSetM
  by_cases h : a = b + o ∧ k = j
  · rw [if_pos h, h.1, h.2, putV_get ho hq]
    unfold vs
    rw [if_pos ⟨rfl, rfl, rfl⟩]
  · rw [if_neg h]
    unfold putV
    by_cases hr : b ≤ a ∧ a < b + 41
    · rw [if_pos hr, if_pos hr]
      cases hl : hloc (a - b) k with
      | none => rfl
      | some q =>
        show v q.1 q.2.1 q.2.2 = vs v t i jj x q.1 q.2.1 q.2.2
        unfold vs
        rw [if_neg]
        rintro ⟨e1, e2, e3⟩
        have h1 := hloc_inv hl
        have h2 := hloc_inv hq
        have e : q = (t, i, jj) := by rw [← e1, ← e2, ← e3]
        rw [e, h2] at h1
        have h3 := (Prod.mk.injEq _ _ _ _ ▸ h1 : o = a - b ∧ j = k)
        exact h ⟨by omega, h3.2.symm⟩
    · rw [if_neg hr, if_neg hr]
theorem hloc_St {j : Nat} (h : j < 4) : hloc 1 j = some (0, j, 0) := by unfold hloc; simp [h]
theorem hloc_Rr {j : Nat} (h : j < 160) : hloc 6 j = some (8, j, 0) := by unfold hloc; simp [h]
theorem hloc_H {j : Nat} (h1 : 1 ≤ j) (h2 : j ≤ 5) : hloc 0 j = some (1, j - 1, 0) := by unfold hloc; simp [h1, h2]
theorem hloc_B {k j : Nat} (hk : k < 6) (hj : j < 8) : hloc (7 + 2 * k) j = some (2, k, j) := by
  unfold hloc
  rw [if_neg (by omega), if_neg (by omega), if_neg (by omega), if_neg (by omega), if_pos (by omega), if_pos (by omega), if_pos hj, show (7 + 2 * k - 7) / 2 = k by omega]
theorem hloc_Bb {k j : Nat} (hk : k < 6) (hj : j < 3) : hloc (8 + 2 * k) j = some (3, k, j) := by
  unfold hloc
  rw [if_neg (by omega), if_neg (by omega), if_neg (by omega), if_neg (by omega), if_pos (by omega), if_neg (by omega), if_pos hj, show (8 + 2 * k - 7) / 2 = k by omega]
theorem hloc_L {k j : Nat} (hk : k < 8) (hj : j < 5) : hloc (19 + 2 * k) j = some (4, k, j) := by
  unfold hloc
  rw [if_neg (by omega), if_neg (by omega), if_neg (by omega), if_neg (by omega), if_neg (by omega), if_pos (by omega), if_pos (by omega), if_pos hj, show (19 + 2 * k - 19) / 2 = k by omega]
theorem hloc_Lh {k j : Nat} (hk : k < 8) (hj : j < 3) : hloc (20 + 2 * k) j = some (5, k, j) := by
  unfold hloc
  rw [if_neg (by omega), if_neg (by omega), if_neg (by omega), if_neg (by omega), if_neg (by omega), if_pos (by omega), if_neg (by omega), if_pos hj, show (20 + 2 * k - 19) / 2 = k by omega]
theorem hloc_E {k j : Nat} (hk : k < 6) (hj : j < 3) : hloc (35 + k) j = some (6, k, j) := by
  unfold hloc
  rw [if_neg (by omega), if_neg (by omega), if_neg (by omega), if_neg (by omega), if_neg (by omega), if_neg (by omega), if_pos (by omega), if_pos hj, show 35 + k - 35 = k by omega]
section PV
variable {m : evM} {b k j : Nat} {v : evVt} {x : Int32} {f : Nat → Int32}
theorem pv_H1 : putV m b v b 1 = v 1 0 0 := putV_get (o := 0) (by omega) rfl
theorem pv_H2 : putV m b v b 2 = v 1 1 0 := putV_get (o := 0) (by omega) rfl
theorem pv_H3 : putV m b v b 3 = v 1 2 0 := putV_get (o := 0) (by omega) rfl
theorem pv_H4 : putV m b v b 4 = v 1 3 0 := putV_get (o := 0) (by omega) rfl
theorem pv_H5 : putV m b v b 5 = v 1 4 0 := putV_get (o := 0) (by omega) rfl
theorem pv_St (hj : j < 4) : putV m b v (hSt b) j = v 0 j 0 := putV_get (o := 1) (by omega) (hloc_St hj)
theorem pv_Rc : putV m b v (hRc b) 1 = v 7 0 0 := putV_get (o := 5) (by omega) rfl
theorem pv_Rr (hj : j < 160) : putV m b v (hRr b) j = v 8 j 0 := putV_get (o := 6) (by omega) (hloc_Rr hj)
theorem pv_B (hk : k < 6) (hj : j < 8) : putV m b v (hB b k) j = v 2 k j := putV_get (by omega) (hloc_B hk hj)
theorem pv_Bb (hk : k < 6) (hj : j < 3) : putV m b v (hBb b k) j = v 3 k j := putV_get (by omega) (hloc_Bb hk hj)
theorem pv_L (hk : k < 8) (hj : j < 5) : putV m b v (hL b k) j = v 4 k j := putV_get (by omega) (hloc_L hk hj)
theorem pv_Lh (hk : k < 8) (hj : j < 3) : putV m b v (hLh b k) j = v 5 k j := putV_get (by omega) (hloc_Lh hk hj)
theorem pv_E (hk : k < 6) (hj : j < 3) : putV m b v (hE b k) j = v 6 k j := putV_get (by omega) (hloc_E hk hj)
theorem ps_H1 : evSetM (putV m b v) b 1 x = putV m b (vs v 1 0 0 x) := putV_set (o := 0) (by omega) rfl
theorem ps_H2 : evSetM (putV m b v) b 2 x = putV m b (vs v 1 1 0 x) := putV_set (o := 0) (by omega) rfl
theorem ps_H3 : evSetM (putV m b v) b 3 x = putV m b (vs v 1 2 0 x) := putV_set (o := 0) (by omega) rfl
theorem ps_H4 : evSetM (putV m b v) b 4 x = putV m b (vs v 1 3 0 x) := putV_set (o := 0) (by omega) rfl
theorem ps_H5 : evSetM (putV m b v) b 5 x = putV m b (vs v 1 4 0 x) := putV_set (o := 0) (by omega) rfl
theorem ps_St (hj : j < 4) : evSetM (putV m b v) (hSt b) j x = putV m b (vs v 0 j 0 x) := putV_set (o := 1) (by omega) (hloc_St hj)
theorem ps_Rc : evSetM (putV m b v) (hRc b) 1 x = putV m b (vs v 7 0 0 x) := putV_set (o := 5) (by omega) rfl
theorem ps_Rr (hj : j < 160) : evSetM (putV m b v) (hRr b) j x = putV m b (vs v 8 j 0 x) := putV_set (o := 6) (by omega) (hloc_Rr hj)
theorem ps_B (hk : k < 6) (hj : j < 8) : evSetM (putV m b v) (hB b k) j x = putV m b (vs v 2 k j x) := putV_set (by omega) (hloc_B hk hj)
theorem ps_Bb (hk : k < 6) (hj : j < 3) : evSetM (putV m b v) (hBb b k) j x = putV m b (vs v 3 k j x) := putV_set (by omega) (hloc_Bb hk hj)
theorem ps_L (hk : k < 8) (hj : j < 5) : evSetM (putV m b v) (hL b k) j x = putV m b (vs v 4 k j x) := putV_set (by omega) (hloc_L hk hj)
theorem ps_Lh (hk : k < 8) (hj : j < 3) : evSetM (putV m b v) (hLh b k) j x = putV m b (vs v 5 k j x) := putV_set (by omega) (hloc_Lh hk hj)
theorem ps_E (hk : k < 6) (hj : j < 3) : evSetM (putV m b v) (hE b k) j x = putV m b (vs v 6 k j x) := putV_set (by omega) (hloc_E hk hj)
end PV
theorem vs_at (v : evVt) (t i j : Nat) (x : Int32) (t' i' j' : Nat) : vs v t i j x t' i' j' = if t' = t ∧ i' = i ∧ j' = j then x else v t' i' j' := rfl
theorem vrow_at (v : evVt) (t n : Nat) (w : evVt) (t' i' j' : Nat) : vrow v t n w t' i' j' = if t' = t ∧ i' < n ∧ j' = 0 then w t i' 0 else v t' i' j' := rfl
/-- two halls apart -/
theorem putV_comm {m : evM} {b c : Nat} {v w : evVt} (h : b + 41 ≤ c ∨ c + 41 ≤ b) : putV (putV m b v) c w = putV (putV m c w) b v := by
  funext a j
  unfold putV
  by_cases h1 : b ≤ a ∧ a < b + 41
  · have h2 : ¬ (c ≤ a ∧ a < c + 41) := by omega
    simp only [h1, h2, if_true, if_false, and_self]
  · simp only [h1, if_false]
theorem putV_twice {m : evM} {b : Nat} {v w : evVt} : putV (putV m b v) b w = putV m b w := by
  funext a j
  unfold putV
  by_cases h1 : b ≤ a ∧ a < b + 41
  · simp only [h1, and_self, if_true]
  · simp only [h1, if_false]
theorem putV_ext {m : evM} {b : Nat} {v w : evVt} (h : ∀ (o j : Nat) (q : Nat × Nat × Nat), o < 41 → hloc o j = some q → v q.1 q.2.1 q.2.2 = w q.1 q.2.1 q.2.2) : putV m b v = putV m b w := by
  funext a j
  unfold putV
  by_cases h1 : b ≤ a ∧ a < b + 41
  · rw [if_pos h1, if_pos h1]
    cases hq : hloc (a - b) j with
    | none => rfl
    | some q => exact h _ _ q (by omega) hq
  · rw [if_neg h1, if_neg h1]
/-- a part of another hall, seen past this one -/
theorem putV_past {m : evM} {b c o j t i jj : Nat} {v w : evVt} (hap : b + 41 ≤ c ∨ c + 41 ≤ b) (ho : o < 41) (hq : hloc o j = some (t, i, jj)) : putV (putV m c w) b v (c + o) j = w t i jj := by
  rw [← putV_get (m := m) (b := c) (v := w) ho hq]
  unfold putV
  rw [if_neg (by omega)]
/-- a row of this hall takes n places of the other's -/
theorem putV_rowc {m : evM} {b c o t n : Nat} {v w : evVt} {f g : Nat → Int32} (hap : b + 41 ≤ c ∨ c + 41 ≤ b) (ho : o < 41) (hq : ∀ j, j < n → hloc o j = some (t, j, 0)) (hn : ∀ j, ¬ j < n → hloc o j = none) (ht : ∀ (o' j' : Nat) (q : Nat × Nat × Nat), hloc o' j' = some q → q.1 = t → o' = o) (hf : f = putV (putV m c w) b v (c + o)) (hg : g = putV (putV m c w) b v (b + o)) :
    evRowM (putV (putV m c w) b v) (b + o) (va_cpy f g 0 0 n) = putV (putV m c w) b (vrow v t n w) := by
  funext a k
  unfold evRowM
  by_cases h : a = b + o
  · rw [if_pos h, h]
    unfold va_cpy
    by_cases hk : k < n
    · rw [if_pos (by omega), hf, putV_get ho (hq k hk), vrow_at, if_pos ⟨rfl, hk, rfl⟩, show 0 + (k - 0) = k by omega]
      exact putV_past hap ho (hq k hk)
    · rw [if_neg (by omega), hg]
      unfold putV
      rw [if_pos (by omega), if_pos (by omega), Nat.add_sub_cancel_left, hn k hk]
  · rw [if_neg h]
    generalize putV m c w = M
    unfold putV
    by_cases hr : b ≤ a ∧ a < b + 41
    · rw [if_pos hr, if_pos hr]
      cases hl : hloc (a - b) k with
      | none => rfl
      | some q =>
        show v q.1 q.2.1 q.2.2 = vrow v t n w q.1 q.2.1 q.2.2
        rw [vrow_at, if_neg]
        rintro ⟨e1, -⟩
        have := ht _ _ _ hl e1
        omega
    · rw [if_neg hr, if_neg hr]
/-- the shapes of a hall's cells -/
def evHall (h : evH) (b : Nat) : Prop := evAt h b 2 ∧ (evAt h (hSt b) 9 ∧ evLen h (hSt b) = 4) ∧ (evAt h (hBs b) 11 ∧ evLen h (hBs b) = 6) ∧ (evAt h (hLs b) 13 ∧ evLen h (hLs b) = 8) ∧ (evAt h (hEs b) 10 ∧ evLen h (hEs b) = 6) ∧ evAt h (hRc b) 6 ∧ (evAt h (hRr b) 9 ∧ evLen h (hRr b) = 160) ∧
  (∀ k, k < 6 → evAt h (hB b k) 1 ∧ evAt h (hBb b k) 0 ∧ evR h (hBs b) k = some (hB b k) ∧ evR h (hB b k) 8 = some (hBb b k)) ∧ (∀ k, k < 8 → evAt h (hL b k) 4 ∧ evAt h (hLh b k) 0 ∧ evR h (hLs b) k = some (hL b k) ∧ evR h (hL b k) 5 = some (hLh b k)) ∧ (∀ k, k < 6 → evAt h (hE b k) 0 ∧ evR h (hEs b) k = some (hE b k)) ∧
  evR h b 0 = some (hSt b) ∧ evR h b 6 = some (hBs b) ∧ evR h b 7 = some (hLs b) ∧ evR h b 8 = some (hEs b) ∧ evR h b 9 = some (hRc b) ∧ evR h (hRc b) 0 = some (hRr b)
