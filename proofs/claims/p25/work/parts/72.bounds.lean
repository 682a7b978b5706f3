/-! how far the class's numbers go -/
theorem ti_add {a b : Int32} (h1 : -2147483648 ≤ a.toInt + b.toInt) (h2 : a.toInt + b.toInt < 2147483648) : (a + b).toInt = a.toInt + b.toInt := by
  rw [Int32.toInt_add]
  exact Int.bmod_eq_of_le (by omega) (by omega)
theorem ti_sub {a b : Int32} (h1 : -2147483648 ≤ a.toInt - b.toInt) (h2 : a.toInt - b.toInt < 2147483648) : (a - b).toInt = a.toInt - b.toInt := by
  rw [Int32.toInt_sub]
  exact Int.bmod_eq_of_le (by omega) (by omega)
theorem ti_0 : (0 : Int32).toInt = 0 := rfl
theorem ti_1 : (1 : Int32).toInt = 1 := rfl
def rBi (v : evVt) (i g T : Nat) : Prop := (v 2 i 0).toInt ≤ 9999 ∧ -(9999 * (g : Int)) ≤ (v 2 i 0).toInt ∧ 0 ≤ (v 2 i 4).toInt ∧ (v 2 i 4).toInt ≤ 9999 * g ∧ 0 ≤ (v 2 i 5).toInt ∧ (v 2 i 5).toInt ≤ 999 * g ∧ 0 ≤ (v 2 i 7).toInt ∧ (v 2 i 7).toInt ≤ (v 2 i 6).toInt ∧ (v 2 i 6).toInt ≤ T
def rB3 (v : evVt) : Prop := ∀ k, k < 6 → 0 ≤ (v 3 k 1).toInt ∧ (v 3 k 1).toInt ≤ 9999
def rB5 (v : evVt) : Prop := ∀ l, l < 8 → (0 ≤ (v 4 l 0).toInt ∧ (v 4 l 0).toInt ≤ 999) ∧ 0 ≤ (v 5 l 1).toInt ∧ (v 5 l 1).toInt ≤ 9999
def rBd (v : evVt) (g T : Nat) : Prop := (0 ≤ (v 0 1 0).toInt ∧ (v 0 1 0).toInt ≤ 99) ∧ (∀ i, i < 6 → rBi v i g T) ∧ rB3 v ∧ rB5 v
theorem rBi_congr {v v' : evVt} {i g T : Nat} (h : ∀ j, j ≠ 1 → j ≠ 2 → v' 2 i j = v 2 i j) (H : rBi v i g T) : rBi v' i g T := by
  unfold rBi
  rw [h 0 (by omega) (by omega), h 4 (by omega) (by omega), h 5 (by omega) (by omega), h 6 (by omega) (by omega), h 7 (by omega) (by omega)]
  exact H
theorem rBi_T {v : evVt} {i g T T' : Nat} (h : T ≤ T') (H : rBi v i g T) : rBi v i g T' := by
  obtain ⟨h1, h2, h3, h4, h5, h6, h7, h8, h9⟩ := H
  exact ⟨h1, h2, h3, h4, h5, h6, h7, h8, by omega⟩
theorem imin_le (x y : Int32) : (imin x y).toInt ≤ y.toInt ∧ (imin x y = x ∨ imin x y = y) := by
  unfold imin
  split
  · exact ⟨Int.le_refl _, Or.inr rfl⟩
  · rename_i h
    refine ⟨?_, Or.inl rfl⟩
    rw [Int32.lt_iff_toInt_lt] at h
    omega
theorem bidC_le (q k : Nat) (v : evVt) (h : (v 2 k 0).toInt ≤ 9999) : (bidC q k v).toInt ≤ 9999 := by
  unfold bidC chB
  have z := ti_0
  split
  · rename_i hc
    rw [Int32.le_iff_toInt_le] at hc
    omega
  · split
    · omega
    · split
      · rename_i hc
        rw [Int32.le_iff_toInt_le] at hc
        have := (imin_le (v 4 q 0 * v 2 k 1 / 100) (v 2 k 0)).1
        omega
      · omega
theorem sh_01 (bf x : Int32) : (if bf < x then (0 : Int32) else 1).toInt = 0 ∨ (if bf < x then (0 : Int32) else 1).toInt = 1 := by
  split
  · exact Or.inl rfl
  · exact Or.inr rfl
section BD
variable {v : evVt} {n q T g l : Nat}
theorem tk_bd (hT : T < 2 ^ 20) (H : ∀ i, i < 6 → rBi v i g T) (H3 : rB3 v) (hg : g ≤ 8) (bf : Int32) (k : Nat) (hk : k ≤ 6) : (∀ i, i < 6 → rBi (tkV l bf v k).1 i g (if i < k then T + 1 else T)) ∧ rB3 (tkV l bf v k).1 := by
  induction k with
  | zero => exact ⟨fun i hi => by rw [if_neg (by omega)]; exact H i hi, H3⟩
  | succ k ih =>
    obtain ⟨i1, i2⟩ := ih (by omega)
    rw [tkV_s]
    have ik := i1 k (by omega)
    rw [if_neg (Nat.lt_irrefl k)] at ik
    have hle := bidC_le l k _ ik.1
    generalize (tkV l bf v k).1 = w at *
    have hsh := sh_01 bf (bidC l k w)
    generalize (if bf < bidC l k w then (0 : Int32) else 1) = sh at *
    have e2 : ∀ i j, j ≠ 2 → vs w 2 k 2 0 2 i j = w 2 i j := fun i j hj => by rw [vs_at, if_neg (fun z => hj z.2.2)]
    have e3 : ∀ i j, vs w 2 k 2 0 3 i j = w 3 i j := fun i j => by rw [vs_at, if_neg (by omega)]
    by_cases hp : 0 < bidC l k w
    · rw [if_pos hp]
      generalize (w 7 0 0).toNatClampNeg = t at *
      generalize bidC l k w = x at *
      rw [pos_int] at hp
      show (∀ i, i < 6 → rBi (noteV (vs w 2 k 2 0) k (nI k) x sh t) i g (if i < k + 1 then T + 1 else T)) ∧ rB3 (noteV (vs w 2 k 2 0) k (nI k) x sh t)
      refine ⟨fun i hi => ?_, fun i hi => ?_⟩
      · by_cases hik : i = k
        · subst hik
          obtain ⟨a1, a2, a3, a4, a5, a6, a7, a8, a9⟩ := ik
          have t1 := ti_1
          have s7 : (w 2 i 7 + sh).toInt = (w 2 i 7).toInt + sh.toInt := ti_add (by omega) (by omega)
          have s6 : (w 2 i 6 + 1).toInt = (w 2 i 6).toInt + (1 : Int32).toInt := ti_add (by omega) (by omega)
          rw [if_pos (Nat.lt_succ_self i)]
          unfold rBi
          simp only [note_2, e2 _ 0 (by omega), e2 _ 4 (by omega), e2 _ 5 (by omega), e2 _ 6 (by omega), e2 _ 7 (by omega), true_and, if_true, show ¬ (0 : Nat) = 7 by decide, show ¬ (0 : Nat) = 6 by decide, show ¬ (4 : Nat) = 7 by decide, show ¬ (4 : Nat) = 6 by decide, show ¬ (5 : Nat) = 7 by decide, show ¬ (5 : Nat) = 6 by decide, show ¬ (6 : Nat) = 7 by decide, if_false]
          rw [s7, s6]
          refine ⟨a1, a2, a3, a4, a5, a6, by omega, by omega, by omega⟩
        · have e : (if i < k + 1 then T + 1 else T) = if i < k then T + 1 else T := by
            by_cases h : i < k
            · rw [if_pos h, if_pos (by omega)]
            · rw [if_neg h, if_neg (by omega)]
          rw [e]
          refine rBi_congr (fun j hj1 hj2 => ?_) (i1 i hi)
          rw [note_2, if_neg (fun z => hik z.1), if_neg (fun z => hik z.1), e2 _ _ hj2]
      · rw [note_3, e3, e3]
        have := i2 i hi
        split
        · simp only [show ¬ (1 : Nat) = 2 by decide, if_false, if_true]
          omega
        · exact this
    · rw [if_neg hp]
      show (∀ i, i < 6 → rBi (vs w 2 k 2 0) i g (if i < k + 1 then T + 1 else T)) ∧ rB3 (vs w 2 k 2 0)
      refine ⟨fun i hi => ?_, fun i hi => by rw [e3]; exact i2 i hi⟩
      refine rBi_T ?_ (rBi_congr (fun j hj1 hj2 => e2 _ _ hj2) (i1 i hi))
      split <;> split <;> omega
theorem ecV_bd {w : evVt} {n : Nat} (hn : n ≤ 6) (H3 : rB3 w) (hl : 0 ≤ (w 5 l 1).toInt ∧ (w 5 l 1).toInt ≤ 9999) : 0 ≤ (ecV l n w 5 l 1).toInt ∧ (ecV l n w 5 l 1).toInt ≤ 9999 := by
  induction n with
  | zero => exact hl
  | succ n ih =>
    unfold ecV
    split
    · rw [set3_at, if_neg (by omega), if_pos (by omega), ecV_o (by omega)]
      exact H3 n (by omega)
    · exact ih (by omega)
theorem take_bd (hT : T < 2 ^ 20) (v4 : v 1 4 0 = nI T) (hn : n ≤ 6) (hg : g ≤ 8) (H : rBd v g T) : rBd (takeV l n v) g (T + 1) := by
  have hT30 : T < 2 ^ 30 := by omega
  obtain ⟨h0, h2, h3, h5⟩ := H
  obtain ⟨t2, t3⟩ := tk_bd (l := l) hT h2 h3 hg (v 5 l 1) n hn
  have eo : ∀ a i j, a ≠ 4 → a ≠ 5 → a ≠ 6 → takeV l n v a i j = (tkV l (v 5 l 1) v n).1 a i j := fun a i j h4 h5 h6 => take_o hT30 v4 h4 h5 h6
  refine ⟨?_, fun i hi => ?_, fun k hk => ?_, fun i hi => ⟨?_, ?_⟩⟩
  · rw [eo _ _ _ (by omega) (by omega) (by omega), tkV_o (by omega) (by omega) (by omega) (by omega)]
    exact h0
  · refine rBi_T ?_ (rBi_congr (fun j _ _ => eo _ _ _ (by omega) (by omega) (by omega)) (t2 i hi))
    split <;> omega
  · rw [eo _ _ _ (by omega) (by omega) (by omega)]
    exact t3 k hk
  · rw [take_4 hT30 v4, if_neg (by omega), if_neg (by omega)]
    exact (h5 i hi).1
  · rw [take_5 hT30 v4]
    by_cases hil : i = l
    · subst hil
      refine ecV_bd hn (fun k hk => by rw [tmV_o (by omega)]; exact t3 k hk) ?_
      rw [tmV_o (by omega), tkV_o (by omega) (by omega) (by omega) (by omega)]
      exact (h5 i hi).2
    · rw [ecV_5 hil, tmV_o (by omega), tkV_o (by omega) (by omega) (by omega) (by omega)]
      exact (h5 i hi).2
theorem sc_bd {w : evVt} (H3 : rB3 w) (k : Nat) (hk : k ≤ 6) : 0 ≤ (scV l w k).toInt ∧ (scV l w k).toInt ≤ 9999 := by
  induction k with
  | zero =>
    show 0 ≤ (0 : Int32).toInt ∧ (0 : Int32).toInt ≤ 9999
    decide
  | succ k ih =>
    rw [scV_s]
    have i := ih (by omega)
    split
    · exact i
    · unfold imax
      split
      · exact H3 k (by omega)
      · exact i
theorem enP_bd (hn : n ≤ 6) (hl : l < 8) (H : rBd v g T) : 0 ≤ (enP v l n).toInt ∧ (enP v l n).toInt ≤ 9999 := by
  obtain ⟨h0, h2, h3, h5⟩ := H
  have o5 : ∀ a i j, a ≠ 1 → a ≠ 4 → vs (vs v 1 3 0 (-6)) 4 l 1 2 a i j = v a i j := fun a i j h1 h4 => by
    rw [vs_at, if_neg (fun z => h4 z.1), vs_at, if_neg (fun z => h1 z.1)]
  have s1 : setAt (vs (vs v 1 3 0 (-6)) 4 l 1 2) 1 = v 0 1 0 := (setAt_nI _ (j := 1) (by omega)).trans (o5 _ _ _ (by omega) (by omega))
  have hh := (h5 l hl).2
  have sc := sc_bd (l := l) (w := vs (vs v 1 3 0 (-6)) 4 l 1 2) (fun k hk => by rw [o5 _ _ _ (by omega) (by omega)]; exact h3 k hk) n hn
  unfold enP prV
  rw [s1, o5 _ _ _ (by omega) (by omega)]
  split
  · exact hh
  · have e := ti_add (a := scV l (vs (vs v 1 3 0 (-6)) 4 l 1 2) n) (b := v 0 1 0) (by omega) (by omega)
    obtain ⟨m1, m2⟩ := imin_le (scV l (vs (vs v 1 3 0 (-6)) 4 l 1 2) n + v 0 1 0) (v 5 l 1)
    rcases m2 with m2 | m2
    · rw [m2] at m1 ⊢
      omega
    · rw [m2]; exact hh
theorem end_bd (hn : n ≤ 6) (hl : l < 8) (hg : g < 8) (h10 : v 1 0 0 = nI n) (H : rBd v g T) (hT : T < 2 ^ 21) : rBd (endV l n v) (g + 1) T := by
  have hp := enP_bd hn hl H
  obtain ⟨h0, h2, h3, h5⟩ := H
  have up : ∀ i, i < 6 → rBi v i (g + 1) T := fun i hi => by
    obtain ⟨a1, a2, a3, a4, a5, a6, a7, a8, a9⟩ := h2 i hi
    exact ⟨a1, by omega, a3, by omega, a5, by omega, a7, a8, a9⟩
  have eo : ∀ a i j, a ≠ 1 → a ≠ 2 → a ≠ 4 → endV l n v a i j = v a i j := fun a i j h1 h2 h4 => end_o h1 h2 h4
  have e40 : ∀ i, endV l n v 4 i 0 = v 4 i 0 := fun i => by
    unfold endV
    split
    · simp [vs_at]
    · simp [vs_at]
  refine ⟨by rw [eo _ _ _ (by omega) (by omega) (by omega)]; exact h0, fun i hi => ?_, fun k hk => by rw [eo _ _ _ (by omega) (by omega) (by omega)]; exact h3 k hk, fun i hi => ⟨by rw [e40]; exact (h5 i hi).1, by rw [eo _ _ _ (by omega) (by omega) (by omega)]; exact (h5 i hi).2⟩⟩
  by_cases hno : bAt v 0 (v 5 l 0) = none
  · refine rBi_congr (fun j _ _ => ?_) (up i hi)
    unfold endV
    rw [if_pos hno, vs_at, if_neg (by omega), vs_at, if_neg (by omega)]
  · rcases bAt_of (b := 0) (x := v 5 l 0) hn h10 with ⟨b, hb, hw, _⟩ | ⟨e, _⟩
    · by_cases hib : i = b
      · subst hib
        obtain ⟨a1, a2, a3, a4, a5, a6, a7, a8, a9⟩ := h2 i hi
        have w0 := (h5 l hl).1
        have s0 : (v 2 i 0 - enP v l n).toInt = (v 2 i 0).toInt - (enP v l n).toInt := ti_sub (by omega) (by omega)
        have s4 : (v 2 i 4 + enP v l n).toInt = (v 2 i 4).toInt + (enP v l n).toInt := ti_add (by omega) (by omega)
        have s5 : (v 2 i 5 + v 4 l 0).toInt = (v 2 i 5).toInt + (v 4 l 0).toInt := ti_add (by omega) (by omega)
        unfold rBi
        simp only [end_2 hno hw hi, true_and, show ¬ (0 : Nat) = 3 by decide, show ¬ (0 : Nat) = 5 by decide, show ¬ (0 : Nat) = 4 by decide, show ¬ (4 : Nat) = 3 by decide, show ¬ (4 : Nat) = 5 by decide, show ¬ (5 : Nat) = 3 by decide, show ¬ (6 : Nat) = 3 by decide, show ¬ (6 : Nat) = 5 by decide, show ¬ (6 : Nat) = 4 by decide, show ¬ (6 : Nat) = 0 by decide, show ¬ (7 : Nat) = 3 by decide, show ¬ (7 : Nat) = 5 by decide, show ¬ (7 : Nat) = 4 by decide, show ¬ (7 : Nat) = 0 by decide, if_false, if_true]
        rw [s0, s4, s5]
        refine ⟨by omega, by omega, by omega, by omega, by omega, by omega, a7, a8, a9⟩
      · refine rBi_congr (fun j _ _ => ?_) (up i hi)
        rw [end_2 hno hw (by omega), if_neg (fun z => hib z.1), if_neg (fun z => hib z.1), if_neg (fun z => hib z.1), if_neg (fun z => hib z.1)]
    · exact absurd e hno
theorem bgW_bd (H : rBd v g T) : rBd (bgW v q) g T := by
  obtain ⟨h0, h2, h3, h5⟩ := H
  refine ⟨by rw [bgW_o (by omega) (by omega) (by omega) (by omega) (by omega)]; exact h0, fun i hi => rBi_congr (fun j _ _ => bgW_o (by omega) (by omega) (by omega) (by omega) (by omega)) (h2 i hi), fun k hk => ?_, fun i hi => ⟨by rw [bgW_4, if_neg (by omega)]; exact (h5 i hi).1, by rw [bgW_o (by omega) (by omega) (by omega) (by omega) (by omega)]; exact (h5 i hi).2⟩⟩
  have e : bgW v q 3 k 1 = 0 := by
    unfold bgW
    rw [clE_o (by omega), clB_at _ _ _ _ (by omega), if_pos hk, if_neg (by omega)]
  rw [e]
  exact ⟨Int.le_refl _, by decide⟩
theorem tick_bd (H : rBd v g T) : rBd (vs v 1 4 0 (v 1 4 0 + 1)) g T := by
  have eo : ∀ a i j, a ≠ 1 → vs v 1 4 0 (v 1 4 0 + 1) a i j = v a i j := fun a i j h => by rw [vs_at, if_neg (fun z => h z.1)]
  obtain ⟨h0, h2, h3, h5⟩ := H
  exact ⟨by rw [eo _ _ _ (by omega)]; exact h0, fun i hi => rBi_congr (fun j _ _ => eo _ _ _ (by omega)) (h2 i hi), fun k hk => by rw [eo _ _ _ (by omega)]; exact h3 k hk, fun i hi => by rw [eo _ _ _ (by omega), eo _ _ _ (by omega)]; exact h5 i hi⟩
end BD
def rBE (v : evVt) (g T : Nat) : Prop := rBd v (if v 1 3 0 = -6 then g else g - 1) T
section BE
variable {v : evVt} {u : Nat → Nat → Int32} {n q T lag g tot l : Nat}
theorem tick13 (w : evVt) (x : Int32) : vs w 1 4 0 x 1 3 0 = w 1 3 0 := by rw [vs_at, if_neg (by omega)]
theorem run_bd (hT : T + 1 < 2 ^ 20) (v4 : v 1 4 0 = nI T) (hn : n ≤ 6) (h10 : v 1 0 0 = nI n) (hl : l < 8) (h13 : v 1 3 0 = nI l) (h12 : v 1 2 0 = nI (l + 1)) (H : rBd v l T) (e : Bool) : ∀ g', g' ≤ 8 → (vs (if e = true then endV l n (takeV l n v) else takeV l n v) 1 4 0 ((if e = true then endV l n (takeV l n v) else takeV l n v) 1 4 0 + 1)) 1 2 0 = nI g' → rBE (vs (if e = true then endV l n (takeV l n v) else takeV l n v) 1 4 0 ((if e = true then endV l n (takeV l n v) else takeV l n v) 1 4 0 + 1)) g' (T + 1) := by
  intro g' hg8 hg'
  have TB := take_bd (l := l) (n := n) (show T < 2 ^ 20 by omega) v4 hn (by omega) H
  have e1 : ∀ i, takeV l n v 1 i 0 = v 1 i 0 := fun i => by
    rw [take_o (by omega) v4 (by omega) (by omega) (by omega), tkV_o (by omega) (by omega) (by omega) (by omega)]
  have n6 : ¬ nI l = -6 := nI_n6 (by omega)
  cases e with
  | true =>
    simp only [if_true] at hg' ⊢
    rw [vs_at, if_neg (by omega), endV_1 (by omega), e1, h12] at hg'
    have hgl := (nI_eq (by omega) (by omega)).mp hg'
    unfold rBE
    rw [tick13, end_13, if_pos rfl, ← hgl]
    exact tick_bd (end_bd hn hl (by omega) (by rw [e1]; exact h10) TB (by omega))
  | false =>
    simp only [Bool.false_eq_true, if_false] at hg' ⊢
    rw [vs_at, if_neg (by omega), e1, h12] at hg'
    have hgl := (nI_eq (by omega) (by omega)).mp hg'
    unfold rBE
    rw [tick13, e1 3, h13, if_neg n6, ← hgl, Nat.add_sub_cancel]
    exact tick_bd TB
theorem rBi_Tu {g T T' : Nat} (h : T ≤ T') (H : rBd v g T) : rBd v g T' := ⟨H.1, fun i hi => rBi_T h (H.2.1 i hi), H.2.2⟩
theorem play_bd (H : rHall v (u 1) n q T lag g tot) (hT : T + 1 < 2 ^ 20) (HB : rBE v g T) : ∀ g', g' ≤ 8 → (playV n v).1 1 2 0 = nI g' → rBE (playV n v).1 g' (T + 1) := by
  obtain ⟨HN, HBd, HL, hg, ⟨HM, ht⟩, HA⟩ := H
  have n1 := HN.1
  have n2 := HN.2.1
  have hv1 := HN.2.2.2.2.2.1.1
  have v4 := HN.2.2.2.2.2.2.1.1
  have h10 := HN.2.2.2.2.1.1
  rcases HA with ⟨a1, a2⟩ | ⟨l, G, a1, a2, a3, a4, a5⟩
  · unfold rBE at HB
    rw [if_pos a1] at HB
    by_cases hgq : g < q
    · have n6 : ¬ nI g = -6 := nI_n6 (by omega)
      have eV : beginV v = bgW v g := begin_eq n2 hv1 hg hgq
      have B8 : bgW v g 1 3 0 = nI g := by rw [bgW_1, if_neg (by omega), if_pos rfl]
      have B7 : bgW v g 1 2 0 = nI (g + 1) := by rw [bgW_1, if_pos rfl]
      have B4 : bgW v g 1 4 0 = nI T := by rw [bgW_1, if_neg (by omega), if_neg (by omega)]; exact v4
      have B0 : bgW v g 1 0 0 = nI n := by rw [bgW_1, if_neg (by omega), if_neg (by omega)]; exact h10
      have hv1' : bgW v g 1 1 0 = nI q := by rw [bgW_1, if_neg (by omega), if_neg (by omega)]; exact hv1
      have hl : lAt (bgW v g) 0 (nI g) ≠ none := by
        rw [lAt_in (b := 0) hgq n2 hv1']
        exact fun z => by cases z
      have R := run_bd (n := n) (l := g) hT B4 n1 B0 (by omega) B8 B7 (bgW_bd HB) (decide (setAt (takeV g n (bgW v g)) 2 + setAt (takeV g n (bgW v g)) 0 ≤ takeV g n (bgW v g) 4 g 4))
      unfold playV
      rw [if_pos a1, eV]
      simp only [B8, nI_cl g (show g < 2 ^ 31 by omega)]
      simp only [hl, if_false]
      exact R
    · have hge : g = q := by have := HL.1; omega
      have eV : beginV v = v := by
        unfold beginV
        rw [if_pos]
        exact lAt_no n2 hv1 (fun k hk z => by
          rw [hg] at z
          have := (nI_eq (by omega) (by omega)).mp z
          omega)
      have hl : lAt v 0 (v 1 3 0) = none := lAt_no n2 hv1 (fun k hk z => nI_n6 (by omega) (z.symm.trans a1))
      intro g' hg8 hg'
      unfold playV at hg' ⊢
      rw [if_pos a1, eV, if_pos hl] at hg' ⊢
      dsimp only at hg' ⊢
      rw [vs_at, if_neg (by omega), hg] at hg'
      have hgl := (nI_eq (by have := HL.1; omega) (by omega)).mp hg'
      unfold rBE
      rw [tick13, if_pos a1, ← hgl]
      exact tick_bd (rBi_Tu (Nat.le_succ T) HB)
  · have hl8 : l < 8 := by have := HL.1; omega
    have n6 : ¬ nI l = -6 := nI_n6 (by omega)
    unfold rBE at HB
    rw [a2, if_neg n6, ← a1, Nat.add_sub_cancel] at HB
    have hl : lAt v 0 (nI l) ≠ none := by
      rw [lAt_in (b := 0) (by have := HL.1; omega) n2 hv1]
      exact fun z => by cases z
    have R := run_bd (n := n) (l := l) hT v4 n1 h10 hl8 a2 (by rw [hg, a1]) HB (decide (setAt (takeV l n v) 2 + setAt (takeV l n v) 0 ≤ takeV l n v 4 l 4))
    unfold playV
    simp only [a2, n6, if_false, nI_cl l (show l < 2 ^ 31 by omega)]
    simp only [hl, if_false]
    exact R
end BE
