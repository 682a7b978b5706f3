/-! worlds that grow and stay -/
/-- all below n lies in h' as in h -/
def evLe (n : Nat) (h h' : evH) : Prop := ∀ a, a < n → evK h' a = evK h a ∧ evLen h' a = evLen h a ∧ ∀ j, evR h' a j = evR h a j
theorem evLe_refl (n : Nat) (h : evH) : evLe n h h := fun _ _ => ⟨rfl, rfl, fun _ => rfl⟩
theorem evLe_trans {n : Nat} {h h' h'' : evH} (p : evLe n h h') (q : evLe n h' h'') : evLe n h h'' := fun a ha => ⟨((q a ha).1).trans (p a ha).1, ((q a ha).2.1).trans (p a ha).2.1, fun j => ((q a ha).2.2 j).trans ((p a ha).2.2 j)⟩
theorem evLe_less {n n' : Nat} {h h' : evH} (p : evLe n h h') (hn : n' ≤ n) : evLe n' h h' := fun a ha => p a (by omega)
theorem evLe_G {h : evH} {b c s : Nat} {K : Nat → Nat × Nat} {R : Nat → Nat → Option Nat} : evLe b h (evG h b c s K R) := fun _ ha => evG_old ha
theorem evLe_set {h : evH} {n a j : Nat} {v : Option Nat} (ha : n ≤ a) : evLe n h (evSetR h a j v) := fun x hx => ⟨rfl, rfl, fun i => by
  show (if x = a ∧ i = j then v else h.2.2.2.1 x i) = _
  rw [if_neg (by omega)]
  rfl⟩
theorem evLe_new {h : evH} {k n : Nat} : evLe (evN h) h (evNew h k n) := fun x hx => by
  have e : ¬ x = h.1 := by unfold evN at hx; omega
  refine ⟨?_, ?_, fun i => ?_⟩
  · show (if x = h.1 then (k, n) else h.2.2.1 x).1 = _; rw [if_neg e]; rfl
  · show (if x = h.1 then (k, n) else h.2.2.1 x).2 = _; rw [if_neg e]; rfl
  · show (if x = h.1 then none else h.2.2.2.1 x i) = _; rw [if_neg e]; rfl
/-- the n cells from b on lie in h' as in h -/
def evSame (b n : Nat) (h h' : evH) : Prop := ∀ a, b ≤ a → a < b + n → evK h' a = evK h a ∧ evLen h' a = evLen h a ∧ ∀ j, evR h' a j = evR h a j
theorem evSame_le {b n : Nat} {h h' : evH} (p : evLe (b + n) h h') : evSame b n h h' := fun a _ ha => p a ha
theorem evAt_same {h h' : evH} {a k : Nat} (hk : evK h' a = evK h a) (hn : a < evN h') (p : evAt h a k) : evAt h' a k := ⟨hn, p.2.1, hk.trans p.2.2⟩
theorem evHall_same {b : Nat} {h h' : evH} (p : evSame b 41 h h') (hn : b + 41 ≤ evN h') (q : evHall h b) : evHall h' b := by
  obtain ⟨q0, ⟨q1, r1⟩, ⟨q2, r2⟩, ⟨q3, r3⟩, ⟨q4, r4⟩, q5, ⟨q6, r6⟩, q7, q8, q9, f0, f6, f7, f8, f9, f10⟩ := q
  have A : ∀ {a k : Nat}, b ≤ a → a < b + 41 → evAt h a k → evAt h' a k := fun h1 h2 h3 => evAt_same (p _ h1 h2).1 (by omega) h3
  have Le : ∀ {a n : Nat}, b ≤ a → a < b + 41 → evLen h a = n → evLen h' a = n := fun h1 h2 h3 => (p _ h1 h2).2.1.trans h3
  have Re : ∀ {a j : Nat} {v : Option Nat}, b ≤ a → a < b + 41 → evR h a j = v → evR h' a j = v := fun h1 h2 h3 => ((p _ h1 h2).2.2 _).trans h3
  have u : ∀ o, o < 41 → b ≤ b + o ∧ b + o < b + 41 := fun o h => by omega
  refine ⟨A (by omega) (by omega) q0, ⟨A (u 1 (by omega)).1 (u 1 (by omega)).2 q1, Le (u 1 (by omega)).1 (u 1 (by omega)).2 r1⟩, ⟨A (u 2 (by omega)).1 (u 2 (by omega)).2 q2, Le (u 2 (by omega)).1 (u 2 (by omega)).2 r2⟩, ⟨A (u 3 (by omega)).1 (u 3 (by omega)).2 q3, Le (u 3 (by omega)).1 (u 3 (by omega)).2 r3⟩, ⟨A (u 4 (by omega)).1 (u 4 (by omega)).2 q4, Le (u 4 (by omega)).1 (u 4 (by omega)).2 r4⟩, A (u 5 (by omega)).1 (u 5 (by omega)).2 q5, ⟨A (u 6 (by omega)).1 (u 6 (by omega)).2 q6, Le (u 6 (by omega)).1 (u 6 (by omega)).2 r6⟩, fun k hk => ?_, fun k hk => ?_, fun k hk => ?_, Re (by omega) (by omega) f0, Re (by omega) (by omega) f6, Re (by omega) (by omega) f7, Re (by omega) (by omega) f8, Re (by omega) (by omega) f9, Re (u 5 (by omega)).1 (u 5 (by omega)).2 f10⟩
  · obtain ⟨w1, w2, w3, w4⟩ := q7 k hk
    exact ⟨A (u (7 + 2 * k) (by omega)).1 (u (7 + 2 * k) (by omega)).2 w1, A (u (8 + 2 * k) (by omega)).1 (u (8 + 2 * k) (by omega)).2 w2, Re (u 2 (by omega)).1 (u 2 (by omega)).2 w3, Re (u (7 + 2 * k) (by omega)).1 (u (7 + 2 * k) (by omega)).2 w4⟩
  · obtain ⟨w1, w2, w3, w4⟩ := q8 k hk
    exact ⟨A (u (19 + 2 * k) (by omega)).1 (u (19 + 2 * k) (by omega)).2 w1, A (u (20 + 2 * k) (by omega)).1 (u (20 + 2 * k) (by omega)).2 w2, Re (u 3 (by omega)).1 (u 3 (by omega)).2 w3, Re (u (19 + 2 * k) (by omega)).1 (u (19 + 2 * k) (by omega)).2 w4⟩
  · obtain ⟨w1, w2⟩ := q9 k hk
    exact ⟨A (u (35 + k) (by omega)).1 (u (35 + k) (by omega)).2 w1, Re (u 4 (by omega)).1 (u 4 (by omega)).2 w2⟩
theorem evSetR_same {h : evH} {b n a j : Nat} {v : Option Nat} (ha : a < b ∨ b + n ≤ a) : evSame b n h (evSetR h a j v) := fun x h1 h2 => ⟨rfl, rfl, fun i => by
  show (if x = a ∧ i = j then v else h.2.2.2.1 x i) = _
  rw [if_neg (by omega)]
  rfl⟩
theorem evSetR_N (h : evH) (a j : Nat) (v : Option Nat) : evN (evSetR h a j v) = evN h := id rfl
theorem evSetR_Sl (h : evH) (a j : Nat) (v : Option Nat) : evSl (evSetR h a j v) = evSl h := id rfl
theorem evSetR_Sp (h : evH) (a j : Nat) (v : Option Nat) : evSp (evSetR h a j v) = evSp h := id rfl
theorem evSetR_len (h : evH) (a j : Nat) (v : Option Nat) (x : Nat) : evLen (evSetR h a j v) x = evLen h x := id rfl
theorem evSetR_K (h : evH) (a j : Nat) (v : Option Nat) (x : Nat) : evK (evSetR h a j v) x = evK h x := id rfl
theorem evSetR_at (h : evH) (a j : Nat) (v : Option Nat) (x k : Nat) : evAt (evSetR h a j v) x k = evAt h x k := id rfl
theorem evSetR_R (h : evH) (a j : Nat) (v : Option Nat) (x i : Nat) : evR (evSetR h a j v) x i = if x = a ∧ i = j then v else evR h x i := id rfl
theorem evNew_N (h : evH) (k n : Nat) : evN (evNew h k n) = evN h + 1 := id rfl
theorem evNew_Sl (h : evH) (k n : Nat) : evSl (evNew h k n) = evSl h + n := id rfl
theorem evNew_Sp (h : evH) (k n : Nat) : evSp (evNew h k n) = evSp h := id rfl
theorem evNew_K (h : evH) (k n x : Nat) : evK (evNew h k n) x = if x = evN h then k else evK h x := by
  show (if x = h.1 then (k, n) else h.2.2.1 x).1 = _
  unfold evN evK
  by_cases e : x = h.1 <;> simp [e]
theorem evNew_len (h : evH) (k n x : Nat) : evLen (evNew h k n) x = if x = evN h then n else evLen h x := by
  show (if x = h.1 then (k, n) else h.2.2.1 x).2 = _
  unfold evN evLen
  by_cases e : x = h.1 <;> simp [e]
theorem evNew_R (h : evH) (k n x i : Nat) : evR (evNew h k n) x i = if x = evN h then none else evR h x i := id rfl
theorem evAt_of {h : evH} {a k : Nat} (h1 : a < evN h) (h2 : a < evO9) (h3 : evK h a = k) : evAt h a k := ⟨h1, h2, h3⟩
/-- the halls of a row, as they are laid -/
def gHs (m : evM) (b : Nat) : Nat → evM
  | 0 => m
  | k + 1 => putV (gHs m b k) (b + 2 + 41 * k) hv0
theorem evNewM_zero {h : evH} {m : evM} (hz : ∀ j, m (evN h) j = 0) : evNewM h m = m := by
  funext a j
  show (if a = evN h then 0 else m a j) = _
  by_cases e : a = evN h
  · rw [if_pos e, e, hz]
  · rw [if_neg e]
theorem putV_out {m : evM} {b a j : Nat} {v : evVt} (ha : a < b ∨ b + 41 ≤ a) : putV m b v a j = m a j := by
  unfold putV
  rw [if_neg (by omega)]
theorem gHs_out {m : evM} {b k a j : Nat} (ha : a < b + 2 ∨ b + 2 + 41 * k ≤ a) : gHs m b k a j = m a j := by
  induction k with
  | zero => rfl
  | succ k ih =>
    show putV (gHs m b k) (b + 2 + 41 * k) hv0 a j = _
    rw [putV_out (by omega), ih (by omega)]
/-- what is known of a row of k halls behind the history at b -/
def evHist (h : evH) (b k : Nat) : Prop := evAt h b 3 ∧ evAt h (b + 1) 12 ∧ evLen h (b + 1) = 7 ∧ evR h b 0 = some (b + 1) ∧ ∀ i, i < k → evHall h (b + 2 + 41 * i) ∧ evR h (b + 1) i = some (b + 2 + 41 * i)
