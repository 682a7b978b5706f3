/-! calls of both objects: what there is-/
theorem wi_of {w : Int32} {m : Nat} {c : Int32} (hm : 0 < m) (hm2 : m ≤ 1000) (hc : nI m - 1 = c) (h : wiB w 0 c = true) : ∃ k, k < m ∧ w = nI k := wiB_nI hm2 (by rw [hc]; exact h)
section AK
variable {v : evVt} {u : Nat → Nat → Int32} {n q T lag g tot : Nat}
theorem run_6 (H : rFu v (u 1) n q T lag g tot) : (v 1 3 0 = -6 ∧ u 1 7 = -6) ∨ (¬ v 1 3 0 = -6 ∧ ¬ u 1 7 = -6 ∧ ∃ l G, l < g ∧ rRun v (u 1) l T n G) := by
  have hL := H.1.1.2.2.1.1
  have hq := H.1.1.1.2.1
  rcases H.1.1.2.2.2.2.2 with ⟨a1, a2⟩ | ⟨l, G, a1, a2, a3, a4, a5⟩
  · exact Or.inl ⟨a1, a2⟩
  · have n6 : ¬ nI l = -6 := nI_n6 (by omega)
    exact Or.inr ⟨by rw [a2]; exact n6, by rw [a3]; exact n6, l, G, by omega, a5⟩
theorem set0 (H : rFu v (u 1) n q T lag g tot) {j : Nat} (hj : j < 4) : setAt v (nI j) = u 1 j := (setAt_nI v hj).trans (H.1.1.1.2.2.2.2.2.2.2.2 j hj)
theorem of_rel (H : rFu v (u 1) n q T lag g tot) {k : Nat} (hk : k < n) (w : Int32) : mofV u lag n k w = ofS v k w := by
  have HB := H.1.1.2.1.1
  have HN := H.1.1.1
  unfold mofV ofS
  have b := fun j (hj : j < 8) => HB k j hk hj
  have bel : ¬ u 1 7 = -6 → allT (u 1) lag k n = (blP v k 1, blP v k 2, blP v k 0) := fun h7 => by
    rcases run_6 H with ⟨_, a⟩ | ⟨_, _, l, G, _, r⟩
    · exact absurd a h7
    · obtain ⟨r1, r2, r3, r4, r5, r6, r7⟩ := r
      have s0 : setAt v 0 = nI lag := (set0 H (j := 0) (by omega)).trans HN.2.2.2.2.2.2.2.1
      exact bel_eq HN.1 hk HN.2.2.1 (by have := HN.2.2.2.1; omega) HN.2.2.2.2.2.2.1.1 s0 HN.2.2.2.2.2.2.1.2 r1 r2 r3 r4 r5
  have e7 : (v 1 3 0 = -6) = (u 1 7 = -6) := by
    rcases run_6 H with ⟨a, c⟩ | ⟨a, c, _⟩
    · exact propext ⟨fun _ => c, fun _ => a⟩
    · exact propext ⟨fun z => absurd z a, fun z => absurd z c⟩
  by_cases h06 : wiB w 0 6 = true
  · rw [if_pos h06]
    obtain ⟨j, hj, rfl⟩ := wi_of (m := 7) (by omega) (by omega) (by decide) h06
    rw [nI_cl j (by omega)]
    rcases (show j = 0 ∨ j = 1 ∨ j = 2 ∨ j = 3 ∨ j = 4 ∨ j = 5 ∨ j = 6 by omega) with rfl | rfl | rfl | rfl | rfl | rfl | rfl
    · exact b 0 (by omega)
    · exact b 1 (by omega)
    · exact b 2 (by omega)
    · exact b 3 (by omega)
    · exact b 4 (by omega)
    · exact b 5 (by omega)
    · exact b 6 (by omega)
  · rw [if_neg h06]
    have h0 : ¬ w = 0 := fun z => h06 (by rw [z]; decide)
    have h1 : ¬ w = 1 := fun z => h06 (by rw [z]; decide)
    have h2 : ¬ w = 2 := fun z => h06 (by rw [z]; decide)
    have h3 : ¬ w = 3 := fun z => h06 (by rw [z]; decide)
    have h4 : ¬ w = 4 := fun z => h06 (by rw [z]; decide)
    have h5 : ¬ w = 5 := fun z => h06 (by rw [z]; decide)
    have h6 : ¬ w = 6 := fun z => h06 (by rw [z]; decide)
    rw [if_neg h0, if_neg h1, if_neg h2, if_neg h3, if_neg h4, if_neg h5, if_neg h6]
    by_cases h9 : w = 9
    · subst h9
      rw [if_pos rfl, if_neg (by decide), if_neg (by decide), if_pos rfl]
      exact b 7 (by omega)
    · rw [if_neg h9]
      by_cases h7 : w = 7
      · subst h7
        rw [if_pos (show wiB 7 7 8 = true by decide)]
        show (if u 1 7 = -6 then (0 : Int32) else (allT (u 1) lag k n).1) = if v 1 3 0 = -6 then 0 else blP v k 1
        by_cases hu : u 1 7 = -6
        · rw [if_pos hu, if_pos (e7.mpr hu)]
        · rw [if_neg hu, if_neg (fun z => hu (e7.mp z)), bel hu]
      · by_cases h8 : w = 8
        · subst h8
          rw [if_pos (show wiB 8 7 8 = true by decide)]
          show (if u 1 7 = -6 then (-6 : Int32) else (allT (u 1) lag k n).2.2) = if v 1 3 0 = -6 then -6 else blP v k 0
          by_cases hu : u 1 7 = -6
          · rw [if_pos hu, if_pos (e7.mpr hu)]
          · rw [if_neg hu, if_neg (fun z => hu (e7.mp z)), bel hu]
        · have h78 : ¬ wiB w 7 8 = true := by
            intro z
            have zz := (wiB_t _ _ _).mp z
            have z7 : (7 : Int32).toInt = 7 := rfl
            have z8 : (8 : Int32).toInt = 8 := rfl
            rw [Int32.lt_iff_toInt_lt, Int32.lt_iff_toInt_lt] at zz
            rw [← Int32.toInt_inj] at h7 h8
            omega
          rw [if_neg h78]
          simp only [h7, h8, h9, if_false]
theorem lAt_wi {v : evVt} {q : Nat} (hn : q ≤ 8) (hv : v 1 1 0 = nI q) (b : Int32) : (∃ k, k < q ∧ b = nI k ∧ wiB b 0 (nI q - 1) = true ∧ lAt v 0 b ≠ none) ∨ (wiB b 0 (nI q - 1) = false ∧ lAt v 0 b = none) := by
  by_cases h : wiB b 0 (nI q - 1) = true
  · left
    obtain ⟨k, hk, rfl⟩ := wiB_nI (by omega) h
    exact ⟨k, hk, rfl, h, by rw [lAt_in (b := 0) hk hn hv]; exact fun z => by cases z⟩
  · right
    refine ⟨b_ne h, lAt_no hn hv (fun k hk z => h ?_)⟩
    rw [z]
    exact wiB_in (by omega) hk
theorem ofL_rel (H : rFu v (u 1) n q T lag g tot) {k : Nat} (hk : k < q) (w : Int32) : (if wiB w 0 6 = true then u 1 (58 + 7 * k + w.toNatClampNeg) else -2) = ofL v k w := by
  obtain ⟨x0, x1, x2, x3, x4, x5, x6⟩ := H.1.1.2.2.1.2.1 k hk
  unfold ofL
  by_cases h06 : wiB w 0 6 = true
  · rw [if_pos h06]
    obtain ⟨j, hj, rfl⟩ := wi_of (m := 7) (by omega) (by omega) (by decide) h06
    rw [nI_cl j (by omega)]
    rcases (show j = 0 ∨ j = 1 ∨ j = 2 ∨ j = 3 ∨ j = 4 ∨ j = 5 ∨ j = 6 by omega) with rfl | rfl | rfl | rfl | rfl | rfl | rfl
    · exact x0
    · exact x1
    · exact x5
    · exact x6
    · exact x2
    · exact x3
    · exact x4
  · rw [if_neg h06]
    have h0 : ¬ w = 0 := fun z => h06 (by rw [z]; decide)
    have h1 : ¬ w = 1 := fun z => h06 (by rw [z]; decide)
    have h2 : ¬ w = 2 := fun z => h06 (by rw [z]; decide)
    have h3 : ¬ w = 3 := fun z => h06 (by rw [z]; decide)
    have h4 : ¬ w = 4 := fun z => h06 (by rw [z]; decide)
    have h5 : ¬ w = 5 := fun z => h06 (by rw [z]; decide)
    have h6 : ¬ w = 6 := fun z => h06 (by rw [z]; decide)
    rw [if_neg h0, if_neg h1, if_neg h2, if_neg h3, if_neg h4, if_neg h5, if_neg h6]
theorem sum_rel {r : Nat → Int32} {p p' : Nat} (e : ∀ k, k < n → r (10 + 8 * k + p) = v 2 k p') (m : Nat) (hm : m ≤ n) : sumV v p' m = mSum r p m := by
  induction m with
  | zero => rfl
  | succ m ih =>
    rw [sumV_s, ih (by omega)]
    show _ = mSum r p m + r (10 + 8 * m + p)
    rw [e m (by omega)]
theorem sum_fu (H : rOK v (u 1) n q T lag g tot) {p : Nat} (hp : p < 8) : sumV v (bp p) n = mSum (u 1) p n := sum_rel (fun k hk => H.1.2.1.1 k p hk hp) n (Nat.le_refl n)
theorem sold_rel {r : Nat → Int32} (e : ∀ k, k < q → r (58 + 7 * k + 1) = v 4 k 1) (m : Nat) (hm : m ≤ q) : soldV v m = mHow r 2 m := by
  induction m with
  | zero => rfl
  | succ m ih =>
    rw [soldV_s, ih (by omega)]
    show _ = mHow r 2 m + (if r (58 + 7 * m + 1) = 2 then 1 else 0)
    rw [e m (by omega)]
    split
    · rfl
    · exact (Int32.add_zero _).symm
theorem cnt_rel (H : rFu v (u 1) n q T lag g tot) {p : Nat → Nat → Int32} (h12 : p 1 1 = u 0 7) (h13 : p 0 2 = u 0 3) (w : Int32) : cntC v p n q w = mcnt u n q w := by
  have HN := H.1.1.1
  have e4 := sold_rel (fun k hk => (H.1.1.2.2.1.2.1 k hk).2.1) q (Nat.le_refl q)
  have e5 : sumV v 4 n = mSum (u 1) 3 n := sum_fu H.1 (p := 3) (by omega)
  have e6 : sumV v 6 n = mSum (u 1) 5 n := sum_fu H.1 (p := 5) (by omega)
  have e7 : sumV v 7 n = mSum (u 1) 6 n := sum_fu H.1 (p := 6) (by omega)
  have e3 : v 1 3 0 = u 1 7 := by
    rcases H.1.1.2.2.2.2.2 with ⟨a1, a2⟩ | ⟨l, G, a1, a2, a3, a4, a5⟩
    · rw [a1, a2]
    · rw [a2, a3]
  unfold cntC mcnt
  by_cases h8 : wiB w 8 11 = true
  · rw [if_pos h8]
    have zz := (wiB_t _ _ _).mp h8
    have z8 : (8 : Int32).toInt = 8 := rfl
    have z11 : (11 : Int32).toInt = 11 := rfl
    rw [Int32.lt_iff_toInt_lt, Int32.lt_iff_toInt_lt] at zz
    have hw : w = 8 ∨ w = 9 ∨ w = 10 ∨ w = 11 := by
      have c8 : (8 : Int32).toInt = 8 := rfl
      have c9 : (9 : Int32).toInt = 9 := rfl
      have c10 : (10 : Int32).toInt = 10 := rfl
      have c11 : (11 : Int32).toInt = 11 := rfl
      rw [← Int32.toInt_inj, ← Int32.toInt_inj, ← Int32.toInt_inj, ← Int32.toInt_inj]
      omega
    rcases hw with rfl | rfl | rfl | rfl
    · exact set0 H (j := 0) (by omega)
    · exact set0 H (j := 1) (by omega)
    · exact set0 H (j := 2) (by omega)
    · exact set0 H (j := 3) (by omega)
  · rw [if_neg h8]
    have n8 : ¬ w = 8 := fun z => h8 (by rw [z]; decide)
    have n9 : ¬ w = 9 := fun z => h8 (by rw [z]; decide)
    have n10 : ¬ w = 10 := fun z => h8 (by rw [z]; decide)
    have n11 : ¬ w = 11 := fun z => h8 (by rw [z]; decide)
    rw [if_neg n8, if_neg n9, if_neg n10, if_neg n11, HN.2.2.2.2.2.2.1.1, HN.2.2.2.2.2.2.1.2, HN.2.2.2.2.1.1, HN.2.2.2.2.1.2, HN.2.2.2.2.2.1.1, HN.2.2.2.2.2.1.2, e3, e4, e5, e6, e7, h12, h13]
end AK
section SA
variable {h : evH} {s : Nat → Option Nat} {n : Nat} {u p : Nat → Nat → Int32} {V : Nat → evVt} {x k L : Nat}
theorem setB_oo (u : Nat → Nat → Int32) (t : evT) {o : Nat} (j : Nat) (ho : o ≠ 0) : setB u t o j = u o j := by
  unfold setB
  rw [if_neg ho]
theorem LR_setB (t : evT) (H : LR h s n u p V x k L) : LR h s n (setB u t) p V x k L := LR_u (fun j _ => setB_oo _ _ _ (by omega)) (fun j => setB_oo _ _ _ (by omega)) (fun j => setB_oo _ _ _ (by omega)) (fun j => setB_oo _ _ _ (by omega)) (fun j => setB_oo _ _ _ (by omega)) rfl rfl H
theorem S_of (H : LR h s n u p V x k L) (y z : Int32) : stepI 66 128 [(1, .int y), (2, .int z)] h n u p V := by
  obtain ⟨hx, hm, -, -, -, ⟨n0, q, T, lag, g, tot, hT, hF⟩, -, -, -, -, -⟩ := id H
  have HN := hF.1.1.1
  have W := W_of (u := u) (p := p) hx HN.1 HN.2.2.2.2.1.1 y z
  have M := c_mof (m := memW u p V n) (u := u) hm HN.1 HN.2.2.1 HN.2.2.2.2.1.2 HN.2.2.2.2.2.2.2.1 y z
  simp only [memW_u] at M
  rcases bAt_wi HN.1 HN.2.2.2.2.1.1 y with ⟨j, hj, rfl, h1, h2⟩ | ⟨h1, h2⟩
  · rw [if_neg h2] at W
    simp only [h1, if_true] at M
    rw [nI_cl j (by have := HN.1; omega)] at W M
    rw [of_rel hF hj] at M
    refine ⟨_, h, s, n, _, _, _, x, k, L, W, M, ?_, rfl⟩
    unfold mofU
    split
    · exact LR_setB _ H
    · exact H
  · rw [if_pos h2] at W
    simp only [h1, Bool.false_eq_true, if_false] at M
    exact ⟨_, h, s, n, _, _, _, _, _, _, W, M, H, rfl⟩
theorem S_ofLot (H : LR h s n u p V x k L) (y z : Int32) : stepI 67 129 [(1, .int y), (2, .int z)] h n u p V := by
  obtain ⟨hx, hm, -, -, -, ⟨n0, q, T, lag, g, tot, hT, hF⟩, -, -, -, -, -⟩ := id H
  have HN := hF.1.1.1
  have W := W_ofLot (u := u) (p := p) hx HN.2.1 HN.2.2.2.2.2.1.1 y z
  have M := c_mofLot (m := memW u p V n) (u := u) hm HN.2.1 HN.2.2.2.2.2.1.2 y z
  simp only [memW_u] at M
  rcases lAt_wi HN.2.1 HN.2.2.2.2.2.1.1 y with ⟨j, hj, rfl, h1, h2⟩ | ⟨h1, h2⟩
  · rw [if_neg h2] at W
    rw [if_pos h1, nI_cl j (by have := HN.2.1; omega), ofL_rel hF hj] at M
    rw [nI_cl j (by have := HN.2.1; omega)] at W
    exact ⟨_, h, s, n, _, _, _, _, _, _, W, M, H, rfl⟩
  · rw [if_pos h2] at W
    rw [if_neg (by rw [h1]; decide)] at M
    exact ⟨_, h, s, n, _, _, _, _, _, _, W, M, H, rfl⟩
theorem S_count (H : LR h s n u p V x k L) (y : Int32) : stepI 69 131 [(1, .int y)] h n u p V := by
  obtain ⟨hx, hm, -, -, -, ⟨n0, q, T, lag, g, tot, hT, hF⟩, -, ⟨p1, p2, u3⟩, -, hg, -⟩ := id H
  have HN := hF.1.1.1
  have W := W_count (u := u) (p := p) hx HN.1 HN.2.2.2.2.1.1 HN.2.1 HN.2.2.2.2.2.1.1 y
  have M := c_mcount (m := memW u p V n) (u := u) hm HN.1 HN.2.1 HN.2.2.2.2.1.2 HN.2.2.2.2.2.1.2 y
  simp only [memW_u] at M
  rw [← cnt_rel hF (p := p) (hg.1.trans hg.2.1.symm) (p2.trans u3.symm) y] at M
  exact ⟨_, h, s, n, _, _, _, _, _, _, W, M, H, rfl⟩
theorem S_made (H : LR h s n u p V x k L) (y z : Int32) : stepI 68 130 [(1, .int y), (2, .int z)] h n u p V := by
  obtain ⟨hx, hm, -, -, -, ⟨n0, q, T, lag, g, tot, hT, hF⟩, -, -, -, -, -⟩ := id H
  have hn2 := hx.1
  obtain ⟨⟨m1, m2, m3⟩, htot⟩ := hF.1.1.2.2.2.2.1
  have W := W_made (u := u) (p := p) (V := V) hx y z
  have M := c_mmade (m := memW u p V n) (u := u) hm (show (if tot < 40 then tot else 40) ≤ 40 by split <;> omega) m1 y z
  simp only [memW_u] at M
  by_cases hw : wiB y 0 (nI (if tot < 40 then tot else 40) - 1) = true
  · obtain ⟨a, ha, rfl⟩ := wiB_nI (by split <;> omega) hw
    have ha2 : a < tot ∧ a < 40 := by split at ha <;> omega
    have hr : rcK (nI a) (V 0 7 0 0) = true := by
      unfold rcK
      rw [m2]
      simp only [Bool.and_eq_true, decide_eq_true_eq]
      exact ⟨nI_pos' (by omega), nI_lt (b := 40) ha2.2 (by decide), nI_lt ha2.1 (by omega)⟩
    rw [if_pos hr] at W
    rw [if_pos hw, nI_cl a (by omega)] at M
    by_cases h03 : wiB z 0 3 = true
    · obtain ⟨j, hj, rfl⟩ := wi_of (m := 4) (by omega) (by omega) (by decide) h03
      rw [if_pos h03, nI_cl j (by omega), m3 a j ha2.1 ha2.2 hj] at M
      have e0 : ¬ (nI j < 0 ∨ 4 ≤ nI j) := by
        rintro (w | w)
        · exact nI_pos (by omega) w
        · exact nI_ge (b := 4) hj (by omega) w
      have er : rcAt (memW u p V n (hRr 1)) (V 0 7 0 0) (nI a) (nI j) = V 0 8 (4 * ((tot - 1 - a) % 40) + j) 0 := by
        have hm40 : (tot - 1 - a) % 40 < 40 := Nat.mod_lt _ (by decide)
        have e1 : rcP (V 0 7 0 0) (nI a) (nI j) = nI (4 * ((tot - 1 - a) % 40) + j) := by
          unfold rcP
          rw [m2, show (1 : Int32) = nI 1 from rfl, pk_sub (by omega), pk_sub (by omega), show (40 : Int32) = nI 40 from rfl, fmod_nI (by omega) (by decide) (by decide), show (4 : Int32) = nI 4 from rfl, pk_mul, nI_add]
          congr 1
          omega
        unfold rcAt
        rw [e1, if_pos ⟨nI_pos' (by omega), nI_lt (b := 160) (by omega) (by decide)⟩, nI_cl _ (by omega)]
        exact (mW_at (i := 0) (by omega) hn2 _ _).trans (pv_Rr (b := 1) (by omega))
      rw [if_neg e0, er] at W
      exact ⟨_, h, s, n, _, _, _, _, _, _, W, M, H, rfl⟩
    · have hf := b_ne h03
      rw [if_neg h03] at M
      have e0 : z < 0 ∨ 4 ≤ z := by
        rcases (wiB_f _ _ _).mp hf with w | w
        · exact Or.inl w
        · right
          rw [Int32.lt_iff_toInt_lt] at w
          rw [Int32.le_iff_toInt_le]
          have z3 : (3 : Int32).toInt = 3 := rfl
          have z4 : (4 : Int32).toInt = 4 := rfl
          omega
      rw [if_pos e0] at W
      exact ⟨_, h, s, n, _, _, _, _, _, _, W, M, H, rfl⟩
  · have hr : ¬ rcK y (V 0 7 0 0) = true := by
      intro hk
      apply hw
      unfold rcK at hk
      rw [m2] at hk
      simp only [Bool.and_eq_true, decide_eq_true_eq] at hk
      obtain ⟨k0, k1, k2⟩ := hk
      obtain ⟨a, ha, rfl⟩ := nI_of (Int32.not_lt.mpr k0)
      have a1 : a < 40 := (nI_ltI (b := 40) ha (by decide)).mp k1
      have a2 : a < tot := (nI_ltI ha (by have := hF.1.1.1.2.2.2.1; omega)).mp k2
      exact wiB_in (by split <;> omega) (by split <;> omega)
    rw [if_neg hr] at W
    rw [if_neg hw] at M
    exact ⟨_, h, s, n, _, _, _, _, _, _, W, M, H, rfl⟩
theorem mv2_row (u : Nat → Nat → Int32) (j : Nat) : mvU u 1 0 2 0 328 1 j = u 1 j := mvU_o _ _ _ _ _ _ _ (by omega)
theorem ei_rel {v : evVt} {n q T lag g tot : Nat} (hF : rFu v (u 1) n q T lag g tot) (hT : T ≤ 9999) (d : Nat) : ∀ k, k + d = 500 → eiC n v d k = eiF u lag n q d k := by
  induction d with
  | zero => intro k _; rfl
  | succ d ih =>
    intro k hk
    obtain ⟨-, g', t', P⟩ := pass_fu hF k (by omega)
    obtain ⟨P1, -⟩ := play_fu P (by omega)
    show (if (playV n (passV n v k).1).2 = true then nI (k + 1) else eiC n v d (k + 1)) = if rdI (rdA (psU u lag n q k) q) lag n = true then nI (k + 1) else eiF u lag n q d (k + 1)
    rw [P1, ih (k + 1) (by omega)]
theorem S_endsIn (H : LR h s n u p V x k L) : stepI 72 135 [] h n u p V := by
  obtain ⟨hx, hm, -, -, -, ⟨n0, q, T, lag, g, tot, hT, hF⟩, -, -, -, -, -⟩ := id H
  have HN := hF.1.1.1
  have htot := hF.1.1.2.2.2.2.1.2
  obtain ⟨w, W⟩ := W_endsIn (u := u) (p := p) hx (okV_of hF) (by omega)
  have hi : mInv u lag n0 q := mInv_of hF.1.1 hF.1.2.1
  obtain ⟨j, M⟩ := c_mendsIn (m := memW u p (Vs V 1 w) n) (u := u) hm hi
  simp only [memW_u] at M
  have hF2 : rFu (V 0) (mvU u 1 0 2 0 328 1) n0 q T lag g tot := rFu_row (fun j _ => mv2_row u j) hF
  rw [has_rel hF.1.1, ei_rel hF2 hT 500 0 rfl] at W
  refine ⟨_, h, s, n, _, _, _, _, _, _, W, M, LR_V1 w (LR_u (fun i hi => ?_) (fun i => ?_) (fun i => ?_) (fun i => ?_) (fun i => ?_) ?_ ?_ H), rfl⟩
  · unfold mvU
    rw [if_pos ⟨rfl, Nat.zero_le _, by omega⟩]
    rw [psU_o _ _ _ _ _ _ (by omega) (by omega) (by omega), if_pos ⟨rfl, Nat.zero_le _, by omega⟩]
    congr 1
    omega
  · rw [mvU_o _ _ _ _ _ _ _ (by omega), psU_o _ _ _ _ _ _ (by omega) (by omega) (by omega), mvU_o _ _ _ _ _ _ _ (by omega)]
  · rw [mvU_o _ _ _ _ _ _ _ (by omega), psU_o _ _ _ _ _ _ (by omega) (by omega) (by omega), mvU_o _ _ _ _ _ _ _ (by omega)]
  · rw [mvU_o _ _ _ _ _ _ _ (by omega), psU_o _ _ _ _ _ _ (by omega) (by omega) (by omega), mvU_o _ _ _ _ _ _ _ (by omega)]
  · rw [mvU_o _ _ _ _ _ _ _ (by omega), psU_o _ _ _ _ _ _ (by omega) (by omega) (by omega), mvU_o _ _ _ _ _ _ _ (by omega)]
  · rw [mvU_o _ _ _ _ _ _ _ (by omega), (psU_3 _ _ _ _ _).1, mvU_o _ _ _ _ _ _ _ (by omega)]
  · rw [mvU_o _ _ _ _ _ _ _ (by omega), (psU_3 _ _ _ _ _).2, mvU_o _ _ _ _ _ _ _ (by omega)]
theorem farU_07 (u : Nat → Nat → Int32) (lag n q k : Nat) : farU u lag n q k 0 3 = u 0 3 ∧ farU u lag n q k 0 7 = u 0 7 := ⟨farU_0 u lag n q k (by decide) (by decide) (by decide), farU_0 u lag n q k (by decide) (by decide) (by decide)⟩
theorem S_ifLag (H : LR h s n u p V x k L) (y : Int32) : stepI 73 137 [(1, .int y)] h n u p V := by
  obtain ⟨hx, hm, ⟨hs0, hs1⟩, -, -, ⟨n0, q, T, lag, g, tot, hT, hF⟩, -, -, -, -, -⟩ := id H
  have HN := hF.1.1.1
  have htot := hF.1.1.2.2.2.2.1.2
  obtain ⟨w, W⟩ := W_ifLag (u := u) (p := p) hx hs0 hs1 (okV_of hF) (by omega) y
  have hi : mInv u lag n0 q := mInv_of hF.1.1 hF.1.2.1
  have M := c_mifLag (m := memW u p (Vs V 1 w) n) (u := u) hm hi y
  simp only [memW_u] at M
  have hF2 : rFu (V 0) (mvU u 1 0 2 0 328 1) n0 q T lag g tot := rFu_row (fun j _ => mv2_row u j) hF
  have e0 : isvB 0 y = wiB y 0 5 := rfl
  rcases set_fu hF2 0 y with ⟨a1, a2, a3, lag', a4⟩ | ⟨a1, a2⟩
  · rw [e0] at a1
    obtain ⟨kk, hkk, rfl⟩ := wi_of (m := 6) (by omega) (by omega) (by decide) a1
    have hl : lag' = kk := by
      have := a4.1.1.1.2.2.2.2.2.2.2.1
      rw [ms_at, if_pos ⟨rfl, by decide⟩] at this
      exact ((nI_eq (by omega) (by have := a4.1.1.1.2.2.1; omega)).mp this).symm
    subst hl
    have hm2 : ¬ (clSet (V 0) 0 (nI lag')).1 = -2 := fun z => a3 (by rw [z]; decide)
    unfold ilC at W
    rw [if_neg hm2] at W
    rw [if_pos a1, if_pos a1, nI_cl lag' (by omega)] at M
    obtain ⟨T', g', t', hT', O⟩ := out_ok (u := ms (mvU u 1 0 2 0 328) 1 0 (nI lag')) a4.1 1000 (by omega)
    have S1 : sumV (outV n0 (clSet (V 0) 0 (nI lag')).2 1000) 4 n0 = mSum (ilU u lag' n0 q 1) 3 n0 := sum_fu (u := ilU u lag' n0 q) O (p := 3) (by omega)
    have S2 : sumV (V 0) 4 n0 = mSum (u 1) 3 n0 := sum_fu hF.1 (p := 3) (by omega)
    rw [S1, S2] at W
    refine ⟨_, h, s, n, _, _, _, _, _, _, W, M, LR_V1 w (LR_u (fun i hi => ?_) (fun i => ?_) (fun i => ?_) (fun i => ?_) (fun i => ?_) ?_ ?_ H), rfl⟩
    · unfold ilU mvU
      rw [if_pos ⟨rfl, Nat.zero_le _, by omega⟩, farU_o _ _ _ _ _ _ (by omega) (by omega) (by omega), ms_at, if_neg (by omega), if_pos ⟨rfl, Nat.zero_le _, by omega⟩]
      congr 1
      omega
    · unfold ilU
      rw [mvU_o _ _ _ _ _ _ _ (by omega), farU_o _ _ _ _ _ _ (by omega) (by omega) (by omega), ms_at, if_neg (by omega), mvU_o _ _ _ _ _ _ _ (by omega)]
    · unfold ilU
      rw [mvU_o _ _ _ _ _ _ _ (by omega), farU_o _ _ _ _ _ _ (by omega) (by omega) (by omega), ms_at, if_neg (by omega), mvU_o _ _ _ _ _ _ _ (by omega)]
    · unfold ilU
      rw [mvU_o _ _ _ _ _ _ _ (by omega), farU_o _ _ _ _ _ _ (by omega) (by omega) (by omega), ms_at, if_neg (by omega), mvU_o _ _ _ _ _ _ _ (by omega)]
    · unfold ilU
      rw [mvU_o _ _ _ _ _ _ _ (by omega), farU_o _ _ _ _ _ _ (by omega) (by omega) (by omega), ms_at, if_neg (by omega), mvU_o _ _ _ _ _ _ _ (by omega)]
    · unfold ilU
      rw [mvU_o _ _ _ _ _ _ _ (by omega), (farU_07 _ _ _ _ _).1, ms_at, if_neg (by omega), mvU_o _ _ _ _ _ _ _ (by omega)]
    · unfold ilU
      rw [mvU_o _ _ _ _ _ _ _ (by omega), (farU_07 _ _ _ _ _).2, ms_at, if_neg (by omega), mvU_o _ _ _ _ _ _ _ (by omega)]
  · rw [e0] at a1
    have hm2 : (clSet (V 0) 0 y).1 = -2 := by rw [a2]
    unfold ilC at W
    rw [if_pos hm2] at W
    rw [if_neg (by rw [a1]; decide), if_neg (by rw [a1]; decide)] at M
    exact ⟨_, h, s, n, _, _, _, _, _, _, W, M, LR_V1 w H, rfl⟩
theorem gn_rel {v : evVt} {n q T lag g tot k : Nat} (hF : rFu v (u 1) n q T lag g tot) (hT : T ≤ 9999) (hk : k < n) (j : Nat) (hj : j ≤ 20) : gnC n v k (nI (10 * j)) = bpG u lag n q k j := by
  have hn := hF.1.1.1.1
  have H1 := rOK_bid hF.1 hk (j := 1) (by omega) (y := nI (10 * j)) (nI_pos (by omega))
  have H2 : rOK (vs v 2 k 1 (nI (10 * j))) (ms (bpZ u lag n q k j) 1 (10 + 8 * k + 1) (nI (10 * j)) 1) n q T lag g tot := by
    refine rOK_row (fun i hi => ?_) H1
    rw [ms_at, rwS_at, bpZ_1 u lag n q k j hi]
    simp only [true_and]
  obtain ⟨T', g', t', hT', O⟩ := out_ok H2 1000 (by omega)
  have B := O.1.2.1.1
  have B0 := hF.1.1.2.1.1
  unfold gnC gnW bpG bpF
  have b5 : outV n (vs v 2 k 1 (nI (10 * j))) 1000 2 k 5 = _ := (B k 4 hk (by omega)).symm
  have b4 : outV n (vs v 2 k 1 (nI (10 * j))) 1000 2 k 4 = _ := (B k 3 hk (by omega)).symm
  have c5 : v 2 k 5 = _ := (B0 k 4 hk (by omega)).symm
  have c4 : v 2 k 4 = _ := (B0 k 3 hk (by omega)).symm
  rw [b5, b4, c5, c4]
theorem bs_rel {v : evVt} {n q T lag g tot k : Nat} (hF : rFu v (u 1) n q T lag g tot) (hT : T ≤ 9999) (hk : k < n) (j : Nat) (hj : j ≤ 20) : bsC n v k j = bpR u lag n q k (j + 1) ∧ ¬ (bpR u lag n q k (j + 1)).1 = -6 := by
  induction j with
  | zero =>
    have e : bpR u lag n q k (0 + 1) = (nI (10 * 0), bpG u lag n q k 0) := by
      show (if (bpR u lag n q k 0).1 = -6 ∨ (bpR u lag n q k 0).2 < bpG u lag n q k 0 then (nI (10 * 0), bpG u lag n q k 0) else bpR u lag n q k 0) = _
      have c : (bpR u lag n q k 0).1 = -6 ∨ (bpR u lag n q k 0).2 < bpG u lag n q k 0 := Or.inl rfl
      rw [if_pos c]
    rw [e, ← gn_rel hF hT hk 0 (by omega)]
    exact ⟨rfl, by show ¬ nI (10 * 0) = -6; exact nI_n6 (by omega)⟩
  | succ j ih =>
    obtain ⟨i1, i2⟩ := ih (by omega)
    have e : bpR u lag n q k (j + 1 + 1) = if (bpR u lag n q k (j + 1)).1 = -6 ∨ (bpR u lag n q k (j + 1)).2 < bpG u lag n q k (j + 1) then (nI (10 * (j + 1)), bpG u lag n q k (j + 1)) else bpR u lag n q k (j + 1) := rfl
    have e2 : bsC n v k (j + 1) = if (bsC n v k j).2 < gnC n v k (nI (10 * (j + 1))) then (nI (10 * (j + 1)), gnC n v k (nI (10 * (j + 1)))) else bsC n v k j := rfl
    rw [e, e2, gn_rel hF hT hk (j + 1) hj, i1]
    by_cases hc : (bpR u lag n q k (j + 1)).2 < bpG u lag n q k (j + 1)
    · rw [if_pos hc, if_pos (Or.inr hc)]
      exact ⟨rfl, by show ¬ nI (10 * (j + 1)) = -6; exact nI_n6 (by omega)⟩
    · rw [if_neg hc, if_neg (fun z => z.elim i2 hc)]
      exact ⟨rfl, i2⟩
theorem S_bestPlan (H : LR h s n u p V x k L) (y z : Int32) : stepI 74 139 [(1, .int y), (2, .int z)] h n u p V := by
  obtain ⟨hx, hm, -, -, -, ⟨n0, q, T, lag, g, tot, hT, hF⟩, -, -, -, -, -⟩ := id H
  have HN := hF.1.1.1
  have htot := hF.1.1.2.2.2.2.1.2
  obtain ⟨w, W⟩ := W_bestPlan (u := u) (p := p) hx (okV_of hF) (by omega) y z
  have hi : mInv u lag n0 q := mInv_of hF.1.1 hF.1.2.1
  have M := c_mbestPlan (m := memW u p (Vs V 1 w) n) (u := u) hm hi y z
  simp only [memW_u] at M
  rcases bAt_wi HN.1 HN.2.2.2.2.1.1 y with ⟨j, hj, rfl, h1, h2⟩ | ⟨h1, h2⟩
  · rw [if_neg h2, nI_cl j (by have := HN.1; omega), (bs_rel hF hT hj 20 (by omega)).1] at W
    rw [nI_cl j (by have := HN.1; omega)] at M
    have ZZ : LR h s n (bpZ u lag n0 q j 21) p V x k L := by
      have o : ∀ m o i, o ≠ 0 → o ≠ 1 → o ≠ 2 → o ≠ 7 → bpZ u lag n0 q j m o i = u o i := fun m o i h0 h1 h2 h7 => by
        induction m with
        | zero => exact mvU_o _ _ _ _ _ _ _ h2
        | succ m ih =>
          show mvU (farU (ms (bpZ u lag n0 q j m) 1 _ _) lag n0 q 1000) 2 0 1 0 328 o i = _
          rw [mvU_o _ _ _ _ _ _ _ h1, farU_o _ _ _ _ _ _ h0 h1 h7, ms_at, if_neg (fun z => h1 z.1), ih]
      have o0 : ∀ m i, i = 3 ∨ i = 7 → bpZ u lag n0 q j m 0 i = u 0 i := fun m i hi => by
        induction m with
        | zero => exact mvU_o _ _ _ _ _ _ _ (by omega)
        | succ m ih =>
          show mvU (farU (ms (bpZ u lag n0 q j m) 1 _ _) lag n0 q 1000) 2 0 1 0 328 0 i = _
          rw [mvU_o _ _ _ _ _ _ _ (by omega), farU_0 _ _ _ _ _ (by omega) (by omega) (by omega), ms_at, if_neg (by omega), ih]
      exact LR_u (fun i hi => bpZ_1 u lag n0 q j 21 hi) (fun i => o 21 3 i (by omega) (by omega) (by omega) (by omega)) (fun i => o 21 4 i (by omega) (by omega) (by omega) (by omega)) (fun i => o 21 5 i (by omega) (by omega) (by omega) (by omega)) (fun i => o 21 6 i (by omega) (by omega) (by omega) (by omega)) (o0 21 3 (Or.inl rfl)) (o0 21 7 (Or.inr rfl)) H
    by_cases hz0 : z = 0
    · subst hz0
      have hw : wiB 0 0 1 = true := by decide
      rw [if_pos rfl] at W
      rw [if_pos h1, if_pos hw, if_pos rfl, if_pos ⟨h1, hw⟩] at M
      exact ⟨_, h, s, n, _, _, _, _, _, _, W, M, LR_V1 w ZZ, rfl⟩
    · by_cases hz1 : z = 1
      · subst hz1
        have hw : wiB 1 0 1 = true := by decide
        rw [if_neg hz0, if_pos rfl] at W
        rw [if_pos h1, if_pos hw, if_neg hz0, if_pos ⟨h1, hw⟩] at M
        exact ⟨_, h, s, n, _, _, _, _, _, _, W, M, LR_V1 w ZZ, rfl⟩
      · have hw : ¬ wiB z 0 1 = true := by
          intro c
          obtain ⟨t, ht, e⟩ := wiB_01 c
          rcases (show t = 0 ∨ t = 1 by omega) with rfl | rfl
          · exact hz0 e
          · exact hz1 e
        rw [if_neg hz0, if_neg hz1] at W
        rw [if_pos h1, if_neg hw, if_neg (fun c => hw c.2)] at M
        exact ⟨_, h, s, n, _, _, _, _, _, _, W, M, LR_V1 w H, rfl⟩
  · rw [if_pos h2] at W
    rw [if_neg (by rw [h1]; decide), if_neg (fun c => by rw [h1] at c; exact absurd c.1 (by decide))] at M
    exact ⟨_, h, s, n, _, _, _, _, _, _, W, M, LR_V1 w H, rfl⟩
theorem S_wipe (H : LR h s n u p V x k L) : stepI 76 141 [] h n u p V := by
  obtain ⟨hx, hm, -, -, -, -, -, -, -, hg, -⟩ := id H
  have W := W_wipe (u := u) (p := p) (V := V) hx
  have M := c_mwipe (m := memW u (ms p 1 1 0) V n) (u := u) hm
  simp only [memW_u] at M
  rw [hg.2.1.trans hg.1.symm] at M
  refine ⟨_, h, s, n, _, _, _, x, k, 0, W, M, LR_pad (Nat.zero_le _) (fun j => by rw [ms_at, if_neg (by omega)]) (fun j => by rw [ms_at, if_neg (by omega)]) (fun j => by rw [ms_at, if_neg (by omega)]) (fun j => by rw [ms_at, if_neg (by omega)]) (fun j => by rw [ms_at, if_neg (by omega)]) (by rw [ms_at, if_neg (by omega)]) ⟨by rw [ms_at, if_pos ⟨rfl, rfl⟩]; rfl, by rw [ms_at, if_pos ⟨rfl, rfl⟩]; rfl, fun j hj => by omega⟩ H, rfl⟩
theorem g_same (hg : rPad p u L) : chV u L = gC p L := by
  funext i
  unfold chV gC
  by_cases hi : i < L
  · rw [if_pos hi, if_pos hi, hg.2.2 i hi]
  · rw [if_neg hi, if_neg hi]
theorem LR_hid {p' : Nat → Nat → Int32} {u' : Nat → Nat → Int32} (hp0 : ∀ j, p' 0 j = p 0 j) (hp2 : ∀ j, p' 2 j = p 2 j) (hp11 : p' 1 1 = p 1 1) (eo : ∀ o j, o ≠ 0 → o ≠ 8 → u' o j = u o j) (e03 : u' 0 3 = u 0 3) (e07 : u' 0 7 = u 0 7) (H : LR h s n u p V x k L) : LR h s n u' p' V x k L := by
  have hL := H.2.2.2.2.2.2.1.2.2
  obtain ⟨g1, g2, g3⟩ := H.2.2.2.2.2.2.2.2.2.1
  exact LR_pad hL hp0 (fun j => eo _ _ (by omega) (by omega)) (fun j => eo _ _ (by omega) (by omega)) (fun j => eo _ _ (by omega) (by omega)) (fun j => eo _ _ (by omega) (by omega)) e03 ⟨by rw [hp11]; exact g1, by rw [e07]; exact g2, fun j hj => by rw [eo _ _ (by omega) (by omega), hp2]; exact g3 j hj⟩ H
theorem S_fault (H : LR h s n u p V x k L) : stepI 77 150 [] h n u p V := by
  obtain ⟨hx, hm, -, -, -, -, ⟨-, -, hL⟩, -, -, hg, -⟩ := id H
  obtain ⟨a, st, mo, kk, f, c, W⟩ := W_fault (u := u) (V := V) hx hL hg.1
  obtain ⟨a', l', k', b', c', M⟩ := c_mfault (m := memW u (pcU p a st mo kk f c) V n) (u := u) hm hL hg.2.1
  simp only [memW_u] at M
  rw [g_same hg] at M
  exact ⟨_, h, s, n, _, _, _, x, k, L, W, M, LR_hid (fun j => pc_o _ _ _ _ _ _ _ _ (by decide)) (fun j => pc_2x _ _ _ _ _ _ _ _) (pc_g1 _ _ _ _ _ _ _) (fun o j h0 h8 => pdU_o _ _ _ _ _ _ _ h0 h8) rfl rfl H, rfl⟩
theorem S_put (H : LR h s n u p V x k L) (y : Int64) : stepI 75 140 [(1, .long y)] h n u p V := by
  obtain ⟨hx, hm, -, -, -, -, ⟨-, -, hL⟩, -, -, hg, -⟩ := id H
  have W := W_put (u := u) (V := V) hx hL hg.1 y
  have M := fun p' => c_mput (m := memW u p' V n) (u := u) hm hL hg.2.1 y
  simp only [memW_u] at M
  rcases cs_pl 8 0 y (by unfold nL; have := y.toUInt64.toNat_lt; omega) with ⟨h1, h2⟩ | ⟨h1, h2⟩
  · rw [h2, if_pos rfl, if_pos (Or.inl rfl)] at W
    exact ⟨_, h, s, n, _, _, _, x, k, L, W, (M p).1 h1, H, rfl⟩
  · have h0 : (plF 8 0 y true).1 ≠ 0 := fun z => h1 (Or.inl z)
    rw [h2, if_neg h0] at W
    have M2 := fun p' => (M p').2 h1
    generalize (plF 8 0 y true).1 = m at *
    by_cases h8 : 80 < L + m
    · rw [if_pos h8, if_pos (Or.inr h8)] at W
      simp only [h8, if_true] at M2
      exact ⟨_, h, s, n, _, _, _, x, k, L, W, M2 p, H, rfl⟩
    · rw [if_neg h8, if_neg (fun z => z.elim h0 h8)] at W
      simp only [h8, if_false] at M2
      refine ⟨_, h, s, n, _, _, _, x, k, L + m, W, M2 _, LR_pad (by omega) (fun j => apU_o _ _ _ _ _ _ _ (by omega) (by omega)) (fun j => apU_o _ _ _ _ _ _ _ (by omega) (by omega)) (fun j => apU_o _ _ _ _ _ _ _ (by omega) (by omega)) (fun j => apU_o _ _ _ _ _ _ _ (by omega) (by omega)) (fun j => apU_o _ _ _ _ _ _ _ (by omega) (by omega)) (apU_o _ _ _ _ _ _ _ (by omega) (by omega)) ⟨apU_len _ _ _ _ _ hg.1 (by decide), apU_len _ _ _ _ _ hg.2.1 (by decide), fun j hj => ?_⟩ H, rfl⟩
      rw [apU_ch _ _ _ _ _ _ (by decide), apU_ch _ _ _ _ _ _ (by decide)]
      by_cases hc : L ≤ j ∧ j < L + m
      · rw [if_pos hc, if_pos hc]
      · rw [if_neg hc, if_neg hc]
        exact hg.2.2 j (by omega)
end SA
