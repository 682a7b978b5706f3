/-! calls of both objects: the changes-/
section ST
variable {h : evH} {s : Nat → Option Nat} {n : Nat} {u p : Nat → Nat → Int32} {V : Nat → evVt} {x k L : Nat}
theorem stP_neg {a : Int32} (ha : a < 0) : stP p x k a = p := by unfold stP; rw [if_pos ha]
theorem rcU_oo (u : Nat → Nat → Int32) (r : Nat) {o : Nat} (h0 : o ≠ 0) (h3 : o ≠ 3) (j : Nat) : rcU u r o j = u o j := rcU_o u r j h0 h3
theorem rcU_07 (u : Nat → Nat → Int32) (r : Nat) : rcU u r 0 7 = u 0 7 := by
  unfold rcU
  split
  · rw [ms_at, if_neg (by omega), mvU_o _ _ _ _ _ _ _ (by omega), ms_at, if_neg (by omega), shU_o _ _ _ (by omega)]
  · rw [ms_at, if_neg (by omega), mvU_o _ _ _ _ _ _ _ (by omega)]
theorem neg2 : (-2 : Int32) < 0 := by decide
theorem neg1 : (-1 : Int32) < 0 := by decide
/-- a change that is made, its model's row behind the record changed in part 1 alone -/
theorem LR_ok1 {w : evVt} {a : Int32} {u' : Nat → Nat → Int32} (ha : ¬ a < 0) (eo : ∀ o j, o ≠ 1 → u' o j = rcU u k o j) (hw : rS w (u' 1)) (H : LR h s n u p V x k L) : LR h s n u' (stP p x k a) (chW V x w) (stN x) (if k + 1 < 6 then k + 1 else 6) L :=
  LR_ok ha (fun j => eo 3 j (by omega)) (eo 0 3 (by omega)) (fun j => (eo 4 j (by omega)).trans (rcU_oo u k (by omega) (by omega) j)) (fun j => (eo 5 j (by omega)).trans (rcU_oo u k (by omega) (by omega) j)) (fun j => (eo 6 j (by omega)).trans (rcU_oo u k (by omega) (by omega) j)) ((eo 0 7 (by omega)).trans (rcU_07 u k)) hw H
theorem S_set (H : LR h s n u p V x k L) (y z : Int32) : stepI 60 115 [(1, .int y), (2, .int z)] h n u p V := by
  obtain ⟨hx, hm, ⟨hs0, hs1⟩, -, -, ⟨n0, q, T, lag, g, tot, hT, hF⟩, ⟨h7, hk, hL⟩, ⟨p1, p2, u3⟩, -, -, -⟩ := id H
  have W := W_set (u := u) (V := V) hx hs0 hs1 h7 hk p1 p2 y z
  have M := fun p' V' => c_mset (m := memW u p' V' n) (u := u) hm hk u3 y z
  simp only [memW_u] at M
  rcases set_fu hF y z with ⟨a1, a2, a3, lag', a4⟩ | ⟨a1, a2⟩
  · simp only [a1, if_true] at M
    rw [← a2] at M
    refine ⟨_, h, s, n, _, _, _, _, _, _, W, M _ _, LR_ok1 a3 (fun o j ho => by rw [ms_at, if_neg (fun z => ho z.1)]) ⟨n0, q, T, lag', g, tot, hT, rFu_row (fun j _ => ?_) a4⟩ H, rfl⟩
    rw [ms_at, ms_at, rcU_1]
  · simp only [a1, Bool.false_eq_true, if_false] at M
    rw [a2, stP_neg neg2] at W
    exact ⟨_, h, s, n, _, _, _, _, _, _, W, M _ _, LR_fail H, rfl⟩
theorem S_bidder (H : LR h s n u p V x k L) (y z : Int32) : stepI 61 118 [(1, .int y), (2, .int z)] h n u p V := by
  obtain ⟨hx, hm, -, -, -, ⟨n0, q, T, lag, g, tot, hT, hF⟩, ⟨h7, hk, hL⟩, ⟨p1, p2, u3⟩, -, -, -⟩ := id H
  have HN := hF.1.1.1
  have W := W_bidder (u := u) hx HN.1 HN.2.2.2.2.1.1 h7 hk p1 p2 y z
  have M := fun p' V' => c_mbidder (m := memW u p' V' n) (u := u) hm hk u3 HN.1 HN.2.2.2.2.1.2 y z
  simp only [memW_u] at M
  rcases bidder_fu (u := rcU u k) (by rw [rcU_row]; exact hF) y z with ⟨a1, a2, a4⟩ | ⟨a1, a2, a3⟩
  · rw [whyB_rc] at a1
    simp only [a1, if_true] at M
    rw [← a2] at M
    refine ⟨_, h, s, n, _, _, _, _, _, _, W, M _ _, LR_ok1 (by rw [a2]; exact nI_pos (by have := HN.1; omega)) (fun o j ho => ?_) ⟨_, q, T, lag, g, tot, hT, a4⟩ H, rfl⟩
    unfold cmU
    rw [ms_at, if_neg (fun z => ho z.1), ms_at, if_neg (fun z => ho z.1), ms_at, if_neg (fun z => ho z.1)]
    have : ∀ m, czU (rcU u k) n0 m o j = rcU u k o j := fun m => by
      induction m with
      | zero => rfl
      | succ m ih =>
        show ms (czU (rcU u k) n0 m) 1 (10 + 8 * n0 + m) 0 o j = _
        rw [ms_at, if_neg (fun z => ho z.1), ih]
    exact this 8
  · rw [whyB_rc] at a1 a2 a3
    simp only [a1, if_false] at M
    rw [a2, stP_neg a3] at W
    exact ⟨_, h, s, n, _, _, _, _, _, _, W, M _ _, LR_fail H, rfl⟩
theorem S_lot (H : LR h s n u p V x k L) (y : Int32) : stepI 63 122 [(1, .int y)] h n u p V := by
  obtain ⟨hx, hm, -, -, -, ⟨n0, q, T, lag, g, tot, hT, hF⟩, ⟨h7, hk, hL⟩, ⟨p1, p2, u3⟩, -, -, -⟩ := id H
  have HN := hF.1.1.1
  have W := W_lot (u := u) hx HN.2.1 HN.2.2.2.2.2.1.1 h7 hk p1 p2 y
  have M := fun p' V' => c_mlot (m := memW u p' V' n) (u := u) hm hk u3 HN.2.1 HN.2.2.2.2.2.1.2 y
  simp only [memW_u] at M
  rcases lot_fu (u := rcU u k) (by rw [rcU_row]; exact hF) y with ⟨a1, a2, a4⟩ | ⟨a1, a2, a3⟩
  · rw [whyL_rc] at a1
    simp only [a1, if_true] at M
    rw [← a2] at M
    refine ⟨_, h, s, n, _, _, _, _, _, _, W, M _ _, LR_ok1 (by rw [a2]; exact nI_pos (by have := HN.2.1; omega)) (fun o j ho => ?_) ⟨n0, _, T, lag, g, tot, hT, a4⟩ H, rfl⟩
    unfold ltU
    rw [ms_at, if_neg (fun z => ho z.1), ms_at, if_neg (fun z => ho z.1), ms_at, if_neg (fun z => ho z.1), ms_at, if_neg (fun z => ho z.1), ms_at, if_neg (fun z => ho z.1), ms_at, if_neg (fun z => ho z.1), ms_at, if_neg (fun z => ho z.1), ms_at, if_neg (fun z => ho z.1)]
  · rw [whyL_rc] at a1 a2 a3
    simp only [a1, if_false] at M
    rw [a2, stP_neg a3] at W
    exact ⟨_, h, s, n, _, _, _, _, _, _, W, M _ _, LR_fail H, rfl⟩
theorem S_bid (H : LR h s n u p V x k L) (y z : Int32) : stepI 64 124 [(1, .int y), (2, .int z)] h n u p V := by
  obtain ⟨hx, hm, -, -, -, ⟨n0, q, T, lag, g, tot, hT, hF⟩, ⟨h7, hk, hL⟩, ⟨p1, p2, u3⟩, -, -, -⟩ := id H
  have HN := hF.1.1.1
  have W := W_bid (u := u) hx HN.1 HN.2.2.2.2.1.1 h7 hk p1 p2 y z
  have M := fun p' V' => c_mbid (m := memW u p' V' n) (u := u) hm hk u3 HN.1 HN.2.2.2.2.1.2 y z
  simp only [memW_u] at M
  rcases told_fu (u := rcU u k) (by rw [rcU_row]; exact hF) y z with ⟨a1, a2, a3, -, a4⟩ | ⟨a1, a2, a3⟩
  · rw [whyT_rc] at a1
    simp only [a1, if_true] at M
    rw [rcU_1] at a2
    rw [← a2] at M
    exact ⟨_, h, s, n, _, _, _, _, _, _, W, M _ _, LR_ok1 a3 (fun o j ho => by rw [ms_at, if_neg (fun z => ho z.1)]) ⟨n0, q, T, lag, g, tot, hT, a4⟩ H, rfl⟩
  · rw [whyT_rc] at a1 a2 a3
    simp only [a1, if_false] at M
    rw [a2, stP_neg a3] at W
    exact ⟨_, h, s, n, _, _, _, _, _, _, W, M _ _, LR_fail H, rfl⟩
theorem S_plan (H : LR h s n u p V x k L) (y z : Int32) : stepI 62 119 [(1, .int y), (2, .int z)] h n u p V := by
  obtain ⟨hx, hm, -, -, -, ⟨n0, q, T, lag, g, tot, hT, hF⟩, ⟨h7, hk, hL⟩, ⟨p1, p2, u3⟩, -, -, -⟩ := id H
  have HN := hF.1.1.1
  have W := W_plan (u := u) hx HN.1 HN.2.2.2.2.1.1 h7 hk p1 p2 y z
  have M := fun p' V' => c_mplan (m := memW u p' V' n) (u := u) hm hk u3 HN.1 HN.2.2.2.2.1.2 y z
  simp only [memW_u] at M
  rcases plan_fu (u := rcU u k) (by rw [rcU_row]; exact hF) y z with ⟨a1, a1', a2, a3, a4⟩ | ⟨a1, a1', a2⟩ | ⟨a1, a2⟩
  · simp only [a1, a1', if_true, and_self] at M
    rw [rcU_1] at a2
    rw [← a2] at M
    exact ⟨_, h, s, n, _, _, _, _, _, _, W, M _ _, LR_ok1 a3 (fun o j ho => by rw [ms_at, if_neg (fun z => ho z.1)]) ⟨n0, q, T, lag, g, tot, hT, a4⟩ H, rfl⟩
  · simp only [a1, a1', if_true, Bool.false_eq_true, and_false, if_false] at M
    rw [a2, stP_neg neg2] at W
    exact ⟨_, h, s, n, _, _, _, _, _, _, W, M _ _, LR_fail H, rfl⟩
  · simp only [a1, Bool.false_eq_true, false_and, if_false] at M
    rw [a2, stP_neg neg1] at W
    exact ⟨_, h, s, n, _, _, _, _, _, _, W, M _ _, LR_fail H, rfl⟩
theorem psU_3 (u : Nat → Nat → Int32) (lag n q k : Nat) : psU u lag n q k 0 3 = u 0 3 ∧ psU u lag n q k 0 7 = u 0 7 := ⟨psU_0 u lag n q k (by decide) (by decide) (by decide), psU_0 u lag n q k (by decide) (by decide) (by decide)⟩
theorem okV_of {v : evVt} {r : Nat → Int32} {n q T lag g tot : Nat} (H : rFu v r n q T lag g tot) : okV v n q tot := ⟨H.1.1.1.2.2.2.2.1.1, H.1.1.1.1, H.1.1.1.2.2.2.2.2.1.1, H.1.1.1.2.1, H.1.1.2.2.2.2.1.1.2.1⟩
theorem S_pass (H : LR h s n u p V x k L) (y : Int32) : stepI 65 126 [(1, .int y)] h n u p V := by
  obtain ⟨hx, hm, -, -, -, ⟨n0, q, T, lag, g, tot, hT, hF⟩, ⟨h7, hk, hL⟩, ⟨p1, p2, u3⟩, -, -, -⟩ := id H
  have HN := hF.1.1.1
  have htot := hF.1.1.2.2.2.2.1.2
  have hFr : rFu (V 0) (rcU u k 1) n0 q T lag g tot := by rw [rcU_row]; exact hF
  have W := W_pass (u := u) hx (okV_of hF) (by omega) HN.2.2.2.2.2.2.1.1 hT h7 hk p1 p2 y
  have hi : mInv u lag n0 q := mInv_of hF.1.1 hF.1.2.1
  have M := fun p' V' => c_mpass (m := memW u p' V' n) (u := u) hm hk u3 hi y
  simp only [memW_u] at M
  rcases pass2_fu (u := rcU u k) hFr hT y with ⟨a1, ⟨j, hj1, hj2, rfl⟩, a2, a3, T', g', t', hT', a4⟩ | ⟨a1, a2, a3⟩
  · rw [whyP_rc] at a1
    simp only [a1, if_true] at M
    rw [← a2] at M
    rw [nI_cl j (by omega)] at a4 M
    refine ⟨_, h, s, n, _, _, _, _, _, _, W, M _ _, LR_ok a3 (fun i => ?_) ?_ (fun i => ?_) (fun i => ?_) (fun i => ?_) ?_ ⟨n0, q, T', lag, g', t', hT', a4⟩ H, rfl⟩
    · exact psU_o _ _ _ _ _ _ (by omega) (by omega) (by omega)
    · exact (psU_3 _ _ _ _ _).1
    · exact (psU_o _ _ _ _ _ _ (by omega) (by omega) (by omega)).trans (rcU_oo u k (by omega) (by omega) i)
    · exact (psU_o _ _ _ _ _ _ (by omega) (by omega) (by omega)).trans (rcU_oo u k (by omega) (by omega) i)
    · exact (psU_o _ _ _ _ _ _ (by omega) (by omega) (by omega)).trans (rcU_oo u k (by omega) (by omega) i)
    · exact (psU_3 _ _ _ _ _).2.trans (rcU_07 u k)
  · rw [whyP_rc] at a1 a2 a3
    simp only [a1, if_false] at M
    rw [a2, stP_neg a3] at W
    exact ⟨_, h, s, n, _, _, _, _, _, _, W, M _ _, LR_fail H, rfl⟩
theorem S_undo (H : LR h s n u p V x k L) : stepI 79 154 [] h n u p V := by
  obtain ⟨hx, hm, -, -, -, -, ⟨h7, hk, hL⟩, ⟨p1, p2, u3⟩, -, -, -⟩ := id H
  have W := W_undo (u := u) (V := V) hx h7 hk p1 p2
  have M := fun p' V' => c_mundo (m := memW u p' V' n) (u := u) hm hk u3
  simp only [memW_u] at M
  by_cases hk0 : k = 0
  · simp only [hk0, if_true] at W M
    exact ⟨_, h, s, n, _, _, _, _, _, _, W, M _ _, H, rfl⟩
  · simp only [hk0, if_false] at W M
    refine ⟨_, h, s, n, _, _, _, _, _, _, W, M _ _, LR_undo hk0 (fun j hj => ?_) (fun j => ?_) ?_ (fun j => ?_) (fun j => ?_) (fun j => ?_) ?_ H, rfl⟩
    · unfold mvU
      rw [if_pos ⟨rfl, Nat.zero_le _, by omega⟩, ms_at, if_neg (by omega), Nat.sub_zero]
    · rw [mvU_o _ _ _ _ _ _ _ (by omega), ms_at, if_neg (by omega)]
    · rw [mvU_o _ _ _ _ _ _ _ (by omega), ms_at, if_pos ⟨rfl, rfl⟩]
    · rw [mvU_o _ _ _ _ _ _ _ (by omega), ms_at, if_neg (by omega)]
    · rw [mvU_o _ _ _ _ _ _ _ (by omega), ms_at, if_neg (by omega)]
    · rw [mvU_o _ _ _ _ _ _ _ (by omega), ms_at, if_neg (by omega)]
    · rw [mvU_o _ _ _ _ _ _ _ (by omega), ms_at, if_neg (by omega)]
theorem sl_cases {y : Int32} : (y < 0 ∨ 2 ≤ y) ∧ wiB y 0 1 = false ∨ ∃ t, t < 2 ∧ y = nI t ∧ wiB y 0 1 = true := by
  by_cases hw : wiB y 0 1 = true
  · obtain ⟨t, ht, e⟩ := wiB_01 hw
    exact Or.inr ⟨t, ht, e, hw⟩
  · left
    refine ⟨?_, b_ne hw⟩
    rcases (wiB_f _ _ _).mp (b_ne hw) with z | z
    · exact Or.inl z
    · right
      rw [Int32.lt_iff_toInt_lt] at z
      rw [Int32.le_iff_toInt_le]
      have z1 : (1 : Int32).toInt = 1 := rfl
      have z2 : (2 : Int32).toInt = 2 := rfl
      omega
theorem S_restore (H : LR h s n u p V x k L) (y : Int32) : stepI 81 156 [(1, .int y)] h n u p V := by
  obtain ⟨hx, hm, -, -, -, -, ⟨h7, hk, hL⟩, ⟨p1, p2, u3⟩, -, -, hs⟩ := id H
  obtain ⟨W1, W2, W3⟩ := W_restore (u := u) (V := V) hx h7 hk p1 p2 y
  have M := fun p' V' => c_mrestore (m := memW u p' V' n) (u := u) hm hk u3 y
  simp only [memW_u] at M
  rcases sl_cases (y := y) with ⟨hy, hw⟩ | ⟨t, ht, rfl, hw⟩
  · simp only [hw, Bool.false_eq_true, false_and, if_false] at M
    exact ⟨_, h, s, n, _, _, _, _, _, _, W1 hy, M _ _, H, rfl⟩
  · rw [nI_cl t (by omega)] at M
    rcases hs t ht with ⟨a, b⟩ | ⟨i, a, b, c⟩
    · simp only [hw, b, if_true, not_true_eq_false, and_false, if_false] at M
      exact ⟨_, h, s, n, _, _, _, _, _, _, W2 t ht rfl a, M _ _, H, rfl⟩
    · simp only [hw, b, if_true, not_false_eq_true, and_self, if_false] at M
      obtain ⟨n0, q, T, lag, g, tot, hT, hF⟩ := c
      have HN := hF.1.1.1
      have ha : u 4 (328 * t + 6) = V i 1 1 0 := HN.2.2.2.2.2.1.2.trans HN.2.2.2.2.2.1.1.symm
      rw [ha] at M
      have hneg : ¬ V i 1 1 0 < 0 := by rw [HN.2.2.2.2.2.1.1]; exact nI_pos (by have := HN.2.1; omega)
      refine ⟨_, h, s, n, _, _, _, _, _, _, W3 t i ht rfl a, M _ _, LR_ok1 hneg (fun o j ho => ?_) ⟨n0, q, T, lag, g, tot, hT, rFu_row (fun j hj => ?_) hF⟩ H, rfl⟩
      · rw [mvU_o _ _ _ _ _ _ _ ho]
      · unfold mvU
        rw [if_pos ⟨rfl, Nat.zero_le _, by omega⟩, rcU_oo u k (by omega) (by omega), Nat.sub_zero]
theorem mOK_grow {h h' : evH} (hN : evN h ≤ evN h') (e : ∀ a, 375 ≤ a → a < 384 → evK h' a = evK h a ∧ evLen h' a = evLen h a ∧ ∀ j, evR h' a j = evR h a j) (H : mOK h 375) : mOK h' 375 := by
  obtain ⟨w0, w1, w2, w3, w4, w5, w6, w7, w8, w9, w10, w11, w12, w13, w14, w15, w16, w17, w18, w19, w20, w21, w22, w23, w24⟩ := id H
  have A : ∀ o c, o < 9 → evAt h (375 + o) c → evAt h' (375 + o) c := fun o c ho h1 => evAt_same (e _ (by omega) (by omega)).1 (Nat.lt_of_lt_of_le h1.1 hN) h1
  have LN : ∀ o, o < 9 → evLen h' (375 + o) = evLen h (375 + o) := fun o ho => (e _ (by omega) (by omega)).2.1
  have RR : ∀ j, evR h' 375 j = evR h 375 j := fun j => (e 375 (by omega) (by omega)).2.2 j
  exact ⟨A 0 _ (by omega) w0, by rw [RR]; exact w1, by rw [RR]; exact w2, by rw [RR]; exact w3, by rw [RR]; exact w4, by rw [RR]; exact w5, by rw [RR]; exact w6, by rw [RR]; exact w7, by rw [RR]; exact w8, A 1 _ (by omega) w9, A 2 _ (by omega) w10, A 3 _ (by omega) w11, A 4 _ (by omega) w12, A 5 _ (by omega) w13, A 6 _ (by omega) w14, A 7 _ (by omega) w15, A 8 _ (by omega) w16, by rw [LN 1 (by omega)]; exact w17, by rw [LN 2 (by omega)]; exact w18, by rw [LN 3 (by omega)]; exact w19, by rw [LN 4 (by omega)]; exact w20, by rw [LN 5 (by omega)]; exact w21, by rw [LN 6 (by omega)]; exact w22, by rw [LN 7 (by omega)]; exact w23, by rw [LN 8 (by omega)]; exact w24⟩
theorem S_save (H : LR h s n u p V x k L) (y : Int32) : stepI 80 155 [(1, .int y)] h n u p V := by
  obtain ⟨hx, hm, hsp, hsl, ⟨hn, hdis⟩, h6, ⟨h7, hk, hL⟩, ⟨p1, p2, u3⟩, h9, hg, hs⟩ := id H
  obtain ⟨W1, W2, W3⟩ := W_save (u := u) (p := p) (V := V) hx y
  rcases sl_cases (y := y) with ⟨hy, hw⟩ | ⟨t, ht, rfl, hw⟩
  · have M := c_msave (m := memW u p V n) (u := u) hm y
    simp only [memW_u, hw, Bool.false_eq_true, if_false] at M
    exact ⟨_, h, s, n, _, _, _, _, _, _, W1 hy, M, H, rfl⟩
  · have hq : u 1 6 = V 0 1 1 0 := by
      obtain ⟨n0, q, T, lag, g, tot, hT, hF⟩ := h6
      exact hF.1.1.1.2.2.2.2.2.1.2.trans hF.1.1.1.2.2.2.2.2.1.1.symm
    have m4 : ∀ t' j, t' < 2 → j < 328 → ms (mvU u 1 0 4 (328 * t) 328) 5 t 1 4 (328 * t' + j) = if t' = t then u 1 j else u 4 (328 * t' + j) := fun t' j ht' hj => by
      rw [ms_at, if_neg (by omega)]
      unfold mvU
      by_cases e : t' = t
      · rw [if_pos e, if_pos (by rw [e]; omega), show 0 + (328 * t' + j - 328 * t) = j by rw [e]; omega]
      · rw [if_neg e, if_neg (by omega)]
    have mo : ∀ o j, o ≠ 4 → o ≠ 5 → ms (mvU u 1 0 4 (328 * t) 328) 5 t 1 o j = u o j := fun o j h4 h5 => by
      rw [ms_at, if_neg (fun z => h5 z.1), mvU_o _ _ _ _ _ _ _ h4]
    have m5 : ∀ t', ms (mvU u 1 0 4 (328 * t) 328) 5 t 1 5 t' = if t' = t then 1 else u 5 t' := fun t' => by
      rw [ms_at, mvU_o _ _ _ _ _ _ _ (by omega)]
      simp only [true_and]
    have n10 : ¬ (1 : Int32) = 0 := by decide
    rcases hs t ht with ⟨a, b⟩ | ⟨i, a, b, c⟩
    · have hn2 : n < 2 := by
        rw [hn]
        unfold sCnt
        rcases (show t = 0 ∨ t = 1 by omega) with rfl | rfl
        · rw [if_pos a]; split <;> omega
        · rw [if_pos a]; split <;> omega
      obtain ⟨K, R, W, hX⟩ := W3 t ht rfl a hn2
      have Lg : evLe (384 + 41 * n) h (evG h (384 + 41 * n) 41 358 K R) := evLe_G
      have Ng : evN (evG h (384 + 41 * n) 41 358 K R) = 384 + 41 * n + 41 := evG_N
      have Sg : evSl (evG h (384 + 41 * n) 41 358 K R) = evSl h + 358 := evG_Sl
      have Pg : evSp (evG h (384 + 41 * n) 41 358 K R) = evSp h := evG_Sp
      generalize hgg : evG h (384 + 41 * n) 41 358 K R = gg at *
      have hm' : mOK (evSetR gg 374 t (some (384 + 41 * n))) 375 := mOK_grow (h := h) (by rw [evSetR_N, Ng, hx.2.1]; omega) (fun a h1 h2 => ⟨(Lg a (by omega)).1, (Lg a (by omega)).2.1, fun j => by rw [evSetR_R, if_neg (by omega)]; exact (Lg a (by omega)).2.2 j⟩) hm
      have M := c_msave (m := memW u p (Vs V (9 + n) (V 0)) (n + 1)) (u := u) hm' (nI t)
      simp only [memW_u, hw, if_true] at M
      rw [nI_cl t (by omega), hq] at M
      refine ⟨_, _, upS s t (9 + n), n + 1, _, _, _, x, k, L, W, M, ⟨hX, hm', ⟨by rw [evSetR_Sp, Pg]; exact hsp.1, by rw [evSetR_Sp, Pg]; exact hsp.2⟩, by rw [evSetR_Sl, Sg]; omega, ⟨?_, ?_⟩, ?_, ⟨h7, hk, hL⟩, ⟨p1, p2, by rw [mo _ _ (by omega) (by omega)]; exact u3⟩, fun i hi => ?_, ⟨hg.1, by rw [mo _ _ (by omega) (by omega)]; exact hg.2.1, fun j hj => by rw [mo _ _ (by omega) (by omega)]; exact hg.2.2 j hj⟩, fun t' ht' => ?_⟩, by rw [evSetR_Sp, Pg]⟩
      · rw [hn]
        unfold sCnt upS
        rcases (show t = 0 ∨ t = 1 by omega) with rfl | rfl
        · simp [a]; omega
        · simp [a]
      · unfold upS
        rcases (show t = 0 ∨ t = 1 by omega) with rfl | rfl
        · right
          simp only [if_true, show ¬ (1 : Nat) = 0 by decide, if_false]
          intro z
          have := slot_lt H (t := 1) (by omega) z.symm
          omega
        · rcases hdis with z | z
          · left; simpa using z
          · right
            simp only [if_true, show ¬ (0 : Nat) = 1 by decide, if_false]
            intro w
            have := slot_lt H (t := 0) (by omega) w
            omega
      · rw [Vs_at, if_neg (by omega)]
        exact rS_row (fun j _ => mo _ _ (by omega) (by omega)) h6
      · rw [Vs_at, if_neg (by omega)]
        exact rS_row (fun j _ => mo _ _ (by omega) (by omega)) (h9 i hi)
      · unfold upS
        by_cases e : t' = t
        · subst e
          refine Or.inr ⟨9 + n, if_pos rfl, by rw [m5, if_pos rfl]; exact n10, ?_⟩
          rw [Vs_at, if_pos rfl]
          exact rS_row (fun j hj => by rw [m4 _ _ ht' hj, if_pos rfl]) h6
        · rw [if_neg e]
          rcases hs t' ht' with ⟨a', b'⟩ | ⟨i, a', b', c'⟩
          · exact Or.inl ⟨a', by rw [m5, if_neg e]; exact b'⟩
          · have := slot_lt H ht' a'
            refine Or.inr ⟨i, a', by rw [m5, if_neg e]; exact b', ?_⟩
            rw [Vs_at, if_neg (by omega)]
            exact rS_row (fun j hj => by rw [m4 _ _ ht' hj, if_neg e]) c'
    · have M := c_msave (m := memW u p (Vs V i (V 0)) n) (u := u) hm (nI t)
      simp only [memW_u, hw, if_true] at M
      rw [nI_cl t (by omega), hq] at M
      have hi9 := slot_lt H ht a
      refine ⟨_, h, s, n, _, _, _, x, k, L, W2 t i ht rfl a, M, ⟨hx, hm, hsp, hsl, ⟨hn, hdis⟩, ?_, ⟨h7, hk, hL⟩, ⟨p1, p2, by rw [mo _ _ (by omega) (by omega)]; exact u3⟩, fun j hj => ?_, ⟨hg.1, by rw [mo _ _ (by omega) (by omega)]; exact hg.2.1, fun j hj => by rw [mo _ _ (by omega) (by omega)]; exact hg.2.2 j hj⟩, fun t' ht' => ?_⟩, rfl⟩
      · rw [Vs_at, if_neg (by omega)]
        exact rS_row (fun j _ => mo _ _ (by omega) (by omega)) h6
      · rw [Vs_at, if_neg (by omega)]
        exact rS_row (fun j _ => mo _ _ (by omega) (by omega)) (h9 j hj)
      · by_cases e : t' = t
        · subst e
          refine Or.inr ⟨i, a, by rw [m5, if_pos rfl]; exact n10, ?_⟩
          rw [Vs_at, if_pos rfl]
          exact rS_row (fun j hj => by rw [m4 _ _ ht' hj, if_pos rfl]) h6
        · rcases hs t' ht' with ⟨a', b'⟩ | ⟨i', a', b', c'⟩
          · exact Or.inl ⟨a', by rw [m5, if_neg e]; exact b'⟩
          · have hne : i' ≠ i := by
              intro z
              rcases hdis with w | w
              · rcases (show t = 0 ∨ t = 1 by omega) with rfl | rfl
                · rw [a] at w; cases w
                · have : t' = 0 := by omega
                  subst this
                  rw [a'] at w; cases w
              · apply w
                rcases (show t = 0 ∨ t = 1 by omega) with rfl | rfl
                · have : t' = 1 := by omega
                  subst this
                  rw [a, a', z]
                · have : t' = 0 := by omega
                  subst this
                  rw [a, a', z]
            refine Or.inr ⟨i', a', by rw [m5, if_neg e]; exact b', ?_⟩
            rw [Vs_at, if_neg hne]
            exact rS_row (fun j hj => by rw [m4 _ _ ht' hj, if_neg e]) c'
end ST
