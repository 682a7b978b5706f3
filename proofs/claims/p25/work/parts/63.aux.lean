/-! what else is kept: settings, plans and told bids are never below 0, whose bid is highest -/
def rWh (r : Nat → Int32) : Prop := ∀ l, l < 8 → r (58 + 7 * l + 6) = -6 ∨ ∃ b, b < 6 ∧ r (58 + 7 * l + 6) = nI b
def rNn (v : evVt) : Prop := (∀ j, j < 4 → ¬ v 0 j 0 < 0) ∧ ∀ i, i < 6 → ¬ v 2 i 1 < 0 ∧ ¬ v 2 i 2 < 0
theorem rNn_of {v v' : evVt} (h0 : ∀ j, j < 4 → v' 0 j 0 = v 0 j 0) (h1 : ∀ i, i < 6 → v' 2 i 1 = v 2 i 1) (h2 : ∀ i, i < 6 → v' 2 i 2 = 0 ∨ v' 2 i 2 = v 2 i 2) (h : rNn v) : rNn v' := by
  refine ⟨fun j hj => by rw [h0 j hj]; exact h.1 j hj, fun i hi => ⟨by rw [h1 i hi]; exact (h.2 i hi).1, ?_⟩⟩
  rcases h2 i hi with e | e
  · rw [e]; decide
  · rw [e]; exact (h.2 i hi).2
theorem tkV_12 {v : evVt} {q k i : Nat} {bf : Int32} : (tkV q bf v k).1 2 i 1 = v 2 i 1 ∧ ((tkV q bf v k).1 2 i 2 = 0 ∨ (tkV q bf v k).1 2 i 2 = v 2 i 2) := by
  induction k with
  | zero => exact ⟨rfl, Or.inr rfl⟩
  | succ k ih =>
    rw [tkV_s]
    have e1 : vs (tkV q bf v k).1 2 k 2 0 2 i 1 = v 2 i 1 := by rw [vs_at, if_neg (by omega)]; exact ih.1
    have e2 : vs (tkV q bf v k).1 2 k 2 0 2 i 2 = 0 ∨ vs (tkV q bf v k).1 2 k 2 0 2 i 2 = v 2 i 2 := by
      rw [vs_at]
      by_cases hi : i = k
      · rw [if_pos ⟨rfl, hi, rfl⟩]; exact Or.inl rfl
      · rw [if_neg (fun z => hi z.2.1)]; exact ih.2
    split
    · refine ⟨?_, ?_⟩
      · refine (note_2 (vs (tkV q bf v k).1 2 k 2 0) k (bidC q k (tkV q bf v k).1) (if bf < bidC q k (tkV q bf v k).1 then 0 else 1) ((tkV q bf v k).1 7 0 0).toNatClampNeg (nI k) i 1).trans ?_
        rw [if_neg (by omega), if_neg (by omega)]
        exact e1
      · generalize (if bf < bidC q k (tkV q bf v k).1 then (0 : Int32) else 1) = sh
        have e := note_2 (vs (tkV q bf v k).1 2 k 2 0) k (bidC q k (tkV q bf v k).1) sh ((tkV q bf v k).1 7 0 0).toNatClampNeg (nI k) i 2
        rw [if_neg (by omega), if_neg (by omega)] at e
        rcases e2 with z | z
        · exact Or.inl (e.trans z)
        · exact Or.inr (e.trans z)
    · exact ⟨e1, e2⟩
section AX
variable {v : evVt} {u : Nat → Nat → Int32} {n q T lag g tot l : Nat}
theorem take_aux (hT : T < 2 ^ 30) (v4 : v 1 4 0 = nI T) (h : rNn v) : rNn (takeV l n v) :=
  rNn_of (fun j _ => by rw [take_o hT v4 (by omega) (by omega) (by omega), tkV_o (by omega) (by omega) (by omega) (by omega)]) (fun i _ => by rw [take_o hT v4 (by omega) (by omega) (by omega)]; exact tkV_12.1) (fun i _ => by rw [take_o hT v4 (by omega) (by omega) (by omega)]; exact tkV_12.2) h
theorem endV_nn {i j : Nat} (hj : j = 1 ∨ j = 2) : endV l n v 2 i j = v 2 i j := by
  unfold endV
  have a3 : ¬ j = 3 := by omega
  have a5 : ¬ j = 5 := by omega
  have a4 : ¬ j = 4 := by omega
  have a0 : ¬ j = 0 := by omega
  split
  · simp [vs_at]
  · simp [vs_at, a3, a5, a4, a0]
theorem end_aux (h : rNn v) : rNn (endV l n v) := rNn_of (fun j _ => end_o (by omega) (by omega) (by omega)) (fun i _ => endV_nn (Or.inl rfl)) (fun i _ => Or.inr (endV_nn (Or.inr rfl))) h
theorem play_aux (hT : T < 2 ^ 30) (v4 : v 1 4 0 = nI T) (h : rNn v) : rNn (playV n v).1 := by
  have tick : ∀ w : evVt, rNn w → rNn (vs w 1 4 0 (w 1 4 0 + 1)) := fun w hw => rNn_of (fun j _ => by rw [vs_at, if_neg (by omega)]) (fun i _ => by rw [vs_at, if_neg (by omega)]) (fun i _ => Or.inr (by rw [vs_at, if_neg (by omega)])) hw
  have hb : rNn (beginV v) ∧ beginV v 1 4 0 = v 1 4 0 := by
    refine ⟨?_, beginV_10 (by omega) (by omega)⟩
    have o : ∀ i j a, a = 0 ∨ a = 2 → beginV v a i j = v a i j := fun i j a ha => by
      unfold beginV
      split
      · rfl
      · rw [clE_o (by omega), clB_o (by omega), vs_at, if_neg (by omega), vs_at, if_neg (by omega), vs_at, if_neg (by omega), vs_at, if_neg (by omega)]
    exact rNn_of (fun j _ => o _ _ _ (Or.inl rfl)) (fun i _ => o _ _ _ (Or.inr rfl)) (fun i _ => Or.inr (o _ _ _ (Or.inr rfl))) h
  have hv1 : rNn (if v 1 3 0 = -6 then beginV v else v) ∧ (if v 1 3 0 = -6 then beginV v else v) 1 4 0 = nI T := by
    split
    · exact ⟨hb.1, hb.2.trans v4⟩
    · exact ⟨h, v4⟩
  unfold playV
  generalize (if v 1 3 0 = -6 then beginV v else v) = w at hv1
  obtain ⟨w1, w2⟩ := hv1
  dsimp only
  split
  · exact tick _ w1
  · have t := take_aux (l := (w 1 3 0).toNatClampNeg) (n := n) hT w2 w1
    dsimp only
    split
    · exact tick _ (end_aux t)
    · exact tick _ t
theorem mInv_of (H : rHall v (u 1) n q T lag g tot) (W : rWh (u 1)) : mInv u lag n q := by
  obtain ⟨HN, HB, HL, hg, ⟨HM, ht⟩, HA⟩ := H
  obtain ⟨n1, n2, n3, n4, n5, n6, n7, n8, n9⟩ := HN
  refine ⟨n1, n3, n2, n5.2, n8, n6.2, ?_, W⟩
  rcases HA with ⟨a1, a2⟩ | ⟨l, G, a1, a2, a3, a4, a5⟩
  · exact Or.inl a2
  · exact Or.inr ⟨l, by have := HL.1; omega, a3⟩
/-- all of it: a hall and a row -/
def rOK (v : evVt) (r : Nat → Int32) (n q T lag g tot : Nat) : Prop := rHall v r n q T lag g tot ∧ rWh r ∧ rNn v
theorem play_ok (H : rOK v (u 1) n q T lag g tot) (hT : T + 1 < 2 ^ 20) : (playV n v).2 = rdI (rdA u q) lag n ∧ ∃ g' t', rOK (playV n v).1 (rdU u lag n q 1) n q (T + 1) lag g' t' := by
  obtain ⟨h1, h2, h3⟩ := H
  obtain ⟨p1, g', t', p2⟩ := play_rel h1 hT
  exact ⟨p1, g', t', p2, (rdU_inv (mInv_of h1 h2)).2.2.2.2.2.2.2, play_aux (by omega) h1.1.2.2.2.2.2.2.1.1 h3⟩
theorem pass_ok (H : rOK v (u 1) n q T lag g tot) (k : Nat) (hT : T + k < 2 ^ 20) : (passV n v k).2 = psI u lag n q k ∧ ∃ g' t', rOK (passV n v k).1 (psU u lag n q k 1) n q (T + k) lag g' t' := by
  induction k with
  | zero => exact ⟨rfl, g, tot, H⟩
  | succ k ih =>
    obtain ⟨i1, g', t', i2⟩ := ih (by omega)
    obtain ⟨p1, p2⟩ := play_ok i2 (by omega)
    refine ⟨?_, p2⟩
    rw [passV_s]
    show (if (playV n (passV n v k).1).2 = true then (passV n v k).2 + 1 else (passV n v k).2) = psI u lag n q k + evBl (rdI (rdA (psU u lag n q k) q) lag n)
    rw [p1, i1]
    cases rdI (rdA (psU u lag n q k) q) lag n
    · exact (Int32.add_zero _).symm
    · rfl
theorem passI_nI (u : Nat → Nat → Int32) (lag n q k : Nat) : ∃ j, j ≤ k ∧ psI u lag n q k = nI j := by
  induction k with
  | zero => exact ⟨0, Nat.le_refl _, rfl⟩
  | succ k ih =>
    obtain ⟨j, hj, e⟩ := ih
    show ∃ j', j' ≤ k + 1 ∧ psI u lag n q k + evBl (rdI (rdA (psU u lag n q k) q) lag n) = nI j'
    rw [e]
    cases rdI (rdA (psU u lag n q k) q) lag n
    · exact ⟨j, by omega, Int32.add_zero _⟩
    · exact ⟨j + 1, by omega, (nI_succ j).symm⟩
theorem out_ok (H : rOK v (u 1) n q T lag g tot) (k : Nat) (hT : T + k < 2 ^ 20) : ∃ T' g' t', T' ≤ T + k ∧ rOK (outV n v k) (farU u lag n q k 1) n q T' lag g' t' := by
  induction k with
  | zero => exact ⟨T, g, tot, Nat.le_refl _, H⟩
  | succ k ih =>
    obtain ⟨T', g', t', h1, i2⟩ := ih (by omega)
    have hh := has_rel i2.1
    rw [outV_s]
    show ∃ T' g' t', T' ≤ T + (k + 1) ∧ rOK _ ((if hlB (farU u lag n q k) q = true then rdU (farU u lag n q k) lag n q else farU u lag n q k) 1) n q T' lag g' t'
    rw [hh]
    by_cases hc : hlB (farU u lag n q k) q = true
    · rw [if_pos hc, if_pos hc]
      obtain ⟨p1, g'', t'', p2⟩ := play_ok i2 (by omega)
      exact ⟨T' + 1, g'', t'', by omega, p2⟩
    · rw [if_neg hc, if_neg hc]
      exact ⟨T', g', t', by omega, i2⟩
/-- only the row's 328 places matter -/
theorem rOK_row {r r' : Nat → Int32} (e : ∀ j, j < 328 → r' j = r j) (H : rOK v r n q T lag g tot) : rOK v r' n q T lag g tot := by
  obtain ⟨⟨HN, HB, HL, hg, ⟨HM, ht⟩, HA⟩, h2, h3⟩ := H
  have HN' := HN
  obtain ⟨n1, n2, n3, n4, n5, n6, n7, n8, n9⟩ := HN
  refine ⟨⟨⟨n1, n2, n3, n4, ⟨n5.1, by rw [e _ (by omega)]; exact n5.2⟩, ⟨n6.1, by rw [e _ (by omega)]; exact n6.2⟩, ⟨n7.1, by rw [e _ (by omega)]; exact n7.2⟩, by rw [e _ (by omega)]; exact n8, fun j hj => by rw [e _ (by omega)]; exact n9 j hj⟩, rBidA_congr n1 (fun _ _ => rfl) (fun j _ _ => e _ (by omega)) HB, rLot_congr n2 (fun _ _ => rfl) (fun _ _ => rfl) (fun j _ _ => e _ (by omega)) HL, hg, ⟨rMade_congr rfl (fun _ => rfl) (fun j _ _ => e _ (by omega)) (e _ (by omega)) HM, ht⟩, ?_⟩, fun l hl => by rw [e _ (by omega)]; exact h2 l hl, h3⟩
  rcases HA with ⟨a1, a2⟩ | ⟨l, G, a1, a2, a3, a4, a5⟩
  · exact Or.inl ⟨a1, by rw [e _ (by omega)]; exact a2⟩
  · exact Or.inr ⟨l, G, a1, a2, by rw [e _ (by omega)]; exact a3, a4, rRun_congr (fun _ _ => rfl) (fun _ _ => rfl) (fun _ _ => rfl) rfl (fun j _ _ => e _ (by omega)) (e _ (by omega)) a5⟩
end AX
