/-! a round: the law's rows and the thought rows -/
section NO
variable {w u : Nat → Nat → Int32} {G : Nat → Nat → Int32} {L : evLs} {n q l T len : Nat} {H : Int32} {f : Nat → Int32}
theorem noW_10 (w : Nat → Nat → Int32) (l : Nat) (H now : Int32) (f : Nat → Int32) (k : Nat) : noW w l H now f k 0 10 = w 0 10 ∨ noW w l H now f k 0 10 = 1 := by
  induction k with
  | zero => exact Or.inl rfl
  | succ k ih =>
    rw [noW_s]
    split
    · exact ih
    · unfold ntW
      rw [ntC_10]
      split
      · rw [ntB_o (by omega), ntA_o (by omega) (by omega)]; exact ih
      · exact Or.inr rfl
theorem noW_10k {now : Int32} {k : Nat} (h : noW w l H now f (k + 1) 0 10 = 0) : noW w l H now f k 0 10 = 0 := by
  rw [noW_s] at h
  split at h
  · exact h
  · unfold ntW at h
    rw [ntC_10] at h
    split at h
    · rw [ntB_o (by omega), ntA_o (by omega) (by omega)] at h; exact h
    · exact absurd h (by decide)
theorem no_st {u0 w0 : Nat → Nat → Int32} (hS : nSt w0 u0 G L (fun t i => t < T ∨ t = T ∧ i < 0) n q T len H) (hn : n ≤ 3) (hl : l < q) (hq : q ≤ 8) (hT : T < 16384) (h4 : u0 1 4 = nI T) (hf : ∀ k, k < n → ∃ c, c ≤ 9999 ∧ f k = nI c ∧ u0 7 k = nI c ∧ G T k = nI c) (k : Nat) (hk : k ≤ n) (h10 : noW w0 l H (nI T) f k 0 10 = 0) : ∃ L' len', nSt (noW w0 l H (nI T) f k) (mbU H l u0 k) G L' (fun t i => t < T ∨ t = T ∧ i < k) n q T len' H ∧ noW w0 l H (nI T) f k 0 8 = if mbB u0 k = true then 0 else w0 0 8 := by
  induction k with
  | zero => exact ⟨L, len, hS, rfl⟩
  | succ k ih =>
    obtain ⟨L', len', i1, i2⟩ := ih (by omega) (noW_10k h10)
    obtain ⟨c, hc, f1, f2, f3⟩ := hf k (by omega)
    have e7 : mbU H l u0 k 7 k = nI c := by rw [mbU_o _ _ _ _ _ (by omega)]; exact f2
    have e4 : mbU H l u0 k 1 4 = nI T := by rw [mbU_lo _ _ _ _ (by omega)]; exact h4
    rw [noW_s] at h10 ⊢
    show ∃ L' len', nSt _ (mbS H l k (mbU H l u0 k)) G L' _ n q T len' H ∧ _ = if (decide (0 < u0 7 k) || mbB u0 k) = true then 0 else w0 0 8
    unfold mbS
    rw [e7, f2, f1]
    rw [f1] at h10
    by_cases hc0 : c = 0
    · subst hc0
      have z : nI 0 = 0 := rfl
      have z2 : ¬ (0 : Int32) < nI 0 := by decide
      rw [if_pos z, if_neg z2, decide_eq_false z2, Bool.false_or]
      obtain ⟨S1, S2, S5, S6, S7, S8, S9⟩ := i1
      refine ⟨L', len', ⟨S1, S2, S5, S6, ⟨fun i hi => ?_, fun t i hti hi hg => ?_⟩, S8, S9⟩, i2⟩
      · obtain ⟨a1, a2, a3⟩ := S7.1 i hi
        exact ⟨a1, a2.imp id (fun z => ⟨z.1, by omega⟩), a3⟩
      · refine S7.2 t i ?_ hi hg
        rcases hti with z | ⟨z1, z2'⟩
        · exact Or.inl z
        · by_cases hik : i = k
          · subst hik; subst z1
            rw [f3] at hg
            exact absurd hg z2
          · exact Or.inr ⟨z1, by omega⟩
    · have z : ¬ nI c = 0 := nI_ne0 (by omega) (by omega)
      have z2 : (0 : Int32) < nI c := nI_lt (a := 0) (by omega) (by omega)
      rw [if_neg z] at h10 ⊢
      rw [if_pos z2, decide_eq_true z2, Bool.true_or, if_pos rfl]
      have hL := lenW_nI i1.2.1.2.1 i1.2.1.1
      rw [hL] at h10 ⊢
      exact ⟨_, _, nt_st i1 (by omega) hn hl hq hT (by omega) hc f3 e4 h10, ntW_8⟩
end NO
/-- the highest bid is that of the list -/
theorem hi_eq {v : evVt} {l n len T : Nat} {G : Nat → Nat → Int32} {L : evLs} {r3 r4 : Nat → Int32} (hn : n ≤ 6) (hG : rG G n) (hH : rHigh v l G T) (hL : lsE r3 r4 L len) (hS : gLs G L (fun t _ => t < T) n len) : v 5 l 1 = nI (bfL L T len) ∧ bfL L T len < 16384 := by
  obtain ⟨b1, b2⟩ := bfL_max L T len
  have hb : bfL L T len < 16384 := by
    rcases b2 with z | ⟨i, hi, -, e⟩
    · rw [z]; omega
    · rw [← e]; exact (hL i hi).1.2.1
  refine ⟨?_, hb⟩
  obtain ⟨⟨m1, m2⟩, m3⟩ := hH
  have mem : ∀ i, i < len → gB G (fun t _ => t < T) (lsV L i) ∧ 0 < (lsV L i).1 := fun i hi => by
    have h0 : 0 < (lsV L i).1 := nI_lt (a := 0) (hL i hi).1.1 (by have := (hL i hi).1.2.1; omega)
    exact ⟨(gLs_gB hn hG hS _ h0 (fun t k z => z)).mpr ⟨i, hi, (hS.1 i hi).2.1, rfl⟩, h0⟩
  by_cases hx : 0 < v 5 l 1
  · obtain ⟨x1, x2⟩ := m1 hx
    obtain ⟨i, hi, -, e⟩ := (gLs_gB hn hG hS _ hx (fun t k z => z)).mp x1
    have e1 : v 5 l 1 = nI (L i).1 := congrArg (fun z : evT => z.1) e
    rw [e1]
    congr 1
    have le1 := b1 i hi (hS.1 i hi).2.1
    rcases b2 with z | ⟨j, hj, -, ej⟩
    · have := (hL i hi).1.1; omega
    · have c := x2 _ (mem j hj).1 (mem j hj).2
      rw [e] at c
      have le2 : ¬ (L i).1 < (L j).1 := fun z => c (Or.inl (nI_lt z (by have := (hL j hj).1.2.1; omega)))
      omega
  · have z := m3 hx
    have e0 : v 5 l 1 = 0 := congrArg (fun z : evT => z.1) z
    rw [e0]
    rcases b2 with h | ⟨i, hi, -, -⟩
    · rw [h]; rfl
    · exact absurd (mem i hi).2 (m2 hx _ (mem i hi).1)
section RO
variable {v : evVt} {w u : Nat → Nat → Int32} {G : Nat → Nat → Int32} {L : evLs} {n q T lag g tot l len : Nat}
theorem ro_st (HN : rNum v (u 1) n q T lag) (HB : rBidA v (u 1) n) (HL : rLot v (u 1) q g) (hlg : l + 1 = g) (HR : rRun v (u 1) l T n G) (hn : n ≤ 3) (hT : T < 16000) (hbd : rBd v (g - 1) T) (HE : rowE w (u 1) n q) (h8 : w 0 8 = u 1 8) (h9 : w 0 9 = nI len) (hlen : len ≤ 128) (h10 : w 0 10 = 0) (hL : lsE (w 3) (w 4) L len) (hO : lsO L len) (hS : gLs G L (fun t _ => t < T) n len) (hN : ntE (u 1) L len) (hv : roW1 w l n 0 10 = 0) :
    ∃ L' len', rowE (roW2 w l n) (rwS (roE u lag n l 1) 4 (nI (T + 1))) n q ∧ roW2 w l n 0 8 = roE u lag n l 1 8 ∧ (roW2 w l n 0 9 = nI len' ∧ len' ≤ 128 ∧ roW2 w l n 0 10 = 0) ∧ lsE (roW2 w l n 3) (roW2 w l n 4) L' len' ∧ lsO L' len' ∧ gLs (gN G T n (roA u lag n l 7)) L' (fun t _ => t < T + 1) n len' ∧ ntE (roE u lag n l 1) L' len' := by
  obtain ⟨n1, n2, n3, n4, n5, n6, ⟨n7, n7'⟩, n8, n9⟩ := id HN
  obtain ⟨r1, r2, r3, r4, r5, r6, r7⟩ := id HR
  have hlq : l < q := by have := HL.1; omega
  have hl8 : l < 8 := by omega
  have A1 : ∀ j, ¬ (10 ≤ j ∧ j < 58 ∧ (j - 10) % 8 = 7) → roA u lag n l 1 j = u 1 j := fun j hj => roA_1n u hj n1
  obtain ⟨s, hs9, hs⟩ : ∃ s, s ≤ 99 ∧ u 1 1 = nI s := by
    rw [← n9 1 (by omega)]
    exact toN (m := 99) (by omega) hbd.1.1 hbd.1.2
  have q0 : w 0 0 = nI lag := (HE.1 0 (by omega)).trans n8
  have q4 : w 0 4 = nI T := (HE.1 4 (by omega)).trans n7'
  have bid : ∀ k, k < n → chI w l len k = bidV (u 1) lag n l k ∧ ∃ x, x ≤ 9999 ∧ chI w l len k = nI x := fun k hk => by
    obtain ⟨a1, a2⟩ := bl_all (b := k) n1 hk n3 n7' r1 r2 r3 r4 hL hS q0 q4 (by omega)
    exact ch_bid HE hk n1 hlq (by rw [HB.1 k 0 hk (by omega)]; exact (hbd.2.1 k (by omega)).1) hs hs9 a1 a2
  have hlw := lenW_nI hlen h9
  have hf : ∀ k, k < n → ∃ c, c ≤ 9999 ∧ bidsW w l n k = nI c ∧ roA u lag n l 7 k = nI c ∧ gN G T n (roA u lag n l 7) T k = nI c := fun k hk => by
    obtain ⟨b1, x, hx, b2⟩ := bid k hk
    refine ⟨x, hx, ?_, ?_, ?_⟩
    · unfold bidsW
      rw [if_pos hk, hlw, b2]
    · rw [roA_7 u hk, ← b1, b2]
    · rw [gN_T hk, roA_7 u hk, ← b1, b2]
  obtain ⟨hH, hHb⟩ := hi_eq n1 r1 r6 hL hS
  have hH9 : bfL L T len ≤ 9999 := by
    have := (hbd.2.2.2 l hl8).2.2
    rw [hH, nI_toInt (by omega)] at this
    omega
  have hw5 : w 2 (7 * l + 5) = nI (bfL L T len) := by
    rw [HE.2.2 l 5 hlq (by omega), (HL.2.1 l hlq).2.2.2.1, hH]
  have e00 : ∀ j, j ≠ 8 → ms (tzW w n) 0 8 (w 0 8 + 1) 0 j = w 0 j := fun j hj => by
    rw [ms_at, if_neg (fun z => hj z.2), tzW_o w n (by omega)]
  have e0o : ∀ o, o ≠ 0 → ms (tzW w n) 0 8 (w 0 8 + 1) o = tzW w n o := fun o ho => ms_row0 _ _ _ _ ho
  have st0 : nSt (ms (tzW w n) 0 8 (w 0 8 + 1)) (roA u lag n l) (gN G T n (roA u lag n l 7)) L (fun t i => t < T ∨ t = T ∧ i < 0) n q T len (w 2 (7 * l + 5)) := by
    refine ⟨⟨fun j hj => ?_, fun i j hi hj => ?_, fun i j hi hj => ?_⟩, ⟨by rw [e00 _ (by omega)]; exact h9, hlen, by rw [e00 _ (by omega)]; exact h10⟩, ?_, hO, ⟨fun i hi => ?_, fun t k htk hk hg => ?_⟩, ⟨?_, fun a p x1 x2 x3 => ?_⟩, hw5, hH9⟩
    · rw [e00 _ (by omega), A1 _ (by omega)]
      exact HE.1 j hj
    · rw [e0o _ (by omega), tzW_1, roA_1]
      by_cases h7 : j = 7
      · rw [if_pos (by omega), if_pos (by omega)]
      · rw [if_neg (by omega), if_neg (by omega)]
        exact HE.2.1 i j hi hj
    · rw [e0o _ (by omega), tzW_o w n (by omega), A1 _ (by omega)]
      exact HE.2.2 i j hi hj
    · rw [e0o _ (by omega), e0o _ (by omega), tzW_o w n (by omega), tzW_o w n (by omega)]
      exact hL
    · obtain ⟨a1, a2, a3⟩ := hS.1 i hi
      exact ⟨by rw [gN_o (by omega)]; exact a1, Or.inl a2, a3⟩
    · have ht : t < T := by omega
      rw [gN_o (by omega)] at hg
      exact hS.2 t k ht hk hg
    · rw [A1 _ (by omega)]; exact hN.1
    · rw [A1 _ (by omega)]; exact hN.2 a p x1 x2 x3
  have h4 : roA u lag n l 1 4 = nI T := by rw [A1 _ (by omega)]; exact n7'
  have hv' : noW (ms (tzW w n) 0 8 (w 0 8 + 1)) l (w 2 (7 * l + 5)) (nI T) (bidsW w l n) n 0 10 = 0 := by rw [← q4]; exact hv
  obtain ⟨L', len', ⟨S1, ⟨S2, S3, S4⟩, S5, S6, S7, S8, S9, S10⟩, h8'⟩ := no_st st0 hn hlq n2 (by omega) h4 hf n (Nat.le_refl n) hv'
  rw [← q4] at S1 S2 S4 S5 h8'
  have eW : noW (ms (tzW w n) 0 8 (w 0 8 + 1)) l (w 2 (7 * l + 5)) (w 0 4) (bidsW w l n) n = roW1 w l n := rfl
  rw [eW] at S1 S2 S4 S5 h8'
  have eH : w 2 (7 * l + 5) = roA u lag n l 1 (58 + 7 * l + 5) := by rw [A1 _ (by omega)]; exact HE.2.2 l 5 hlq (by omega)
  have eM : mbU (w 2 (7 * l + 5)) l (roA u lag n l) n = roM u lag n l := by rw [eH]; rfl
  rw [eM] at S1 S8
  have c0 : ∀ j, j ≠ 4 → roW2 w l n 0 j = roW1 w l n 0 j := fun j hj => by
    unfold roW2
    rw [ms_at, if_neg (by omega), ms_at, if_neg (by omega)]
  have c1 : ∀ o, o ≠ 0 → o ≠ 2 → roW2 w l n o = roW1 w l n o := fun o h0 h2 => by
    unfold roW2
    rw [ms_row0 _ _ _ _ h2, ms_row0 _ _ _ _ h0]
  have c2 : ∀ j, roW2 w l n 2 j = if j = 7 * l + 4 then roW1 w l n 2 (7 * l + 4) + 1 else roW1 w l n 2 j := fun j => by
    unfold roW2
    rw [ms_at, ms_at, if_neg (show ¬ (2 = 0 ∧ j = 4) by omega)]
    simp only [true_and]
  have c4 : roW2 w l n 0 4 = nI (T + 1) := by
    unfold roW2
    rw [ms_at, if_neg (by omega), ms_at, if_pos ⟨rfl, rfl⟩, roW1_0 (by omega), q4]
    exact (nI_succ T).symm
  refine ⟨L', len', ⟨fun j hj => ?_, fun i j hi hj => ?_, fun i j hi hj => ?_⟩, ?_, ⟨by rw [c0 _ (by omega)]; exact S2, S3, by rw [c0 _ (by omega)]; exact S4⟩, by rw [c1 _ (by omega) (by omega), c1 _ (by omega) (by omega)]; exact S5, S6, ⟨fun i hi => ?_, fun t k htk hk hg => S7.2 t k (by omega) hk hg⟩, ⟨?_, fun a p x1 x2 x3 => ?_⟩⟩
  · rw [rwS_at]
    by_cases hj4 : j = 4
    · rw [if_pos hj4, hj4, c4]
    · rw [if_neg hj4, c0 _ hj4, roE_a u lag n1 (by omega) (by omega) (by omega)]
      exact S1.1 j hj
  · rw [rwS_at, if_neg (by omega), c1 _ (by omega) (by omega), roE_a u lag n1 (by omega) (by omega) (by omega)]
    exact S1.2.1 i j hi hj
  · rw [rwS_at, if_neg (by omega), c2]
    by_cases h : 7 * i + j = 7 * l + 4
    · have e1 : i = l := by omega
      have e2 : j = 4 := by omega
      subst e1 e2
      rw [if_pos rfl, roE_ran u lag hl8, S1.2.2 i 4 hi (by omega)]
    · rw [if_neg h, roE_a u lag n1 (by omega) (by omega) (by omega)]
      exact S1.2.2 i j hi hj
  · have e8 : ms (tzW w n) 0 8 (w 0 8 + 1) 0 8 = w 0 8 + 1 := by rw [ms_at, if_pos ⟨rfl, rfl⟩]
    have m8 : roM u lag n l 1 8 = u 1 8 := by
      unfold roM
      rw [mbU_lo _ _ _ _ (by omega), A1 _ (by omega)]
    rw [c0 _ (by omega), h8', roE_8, e8, m8, h8]
  · obtain ⟨a1, a2, a3⟩ := S7.1 i hi
    exact ⟨a1, by omega, a3⟩
  · rw [roE_a u lag n1 (by omega) (by omega) (by omega)]; exact S8.1
  · rw [roE_a u lag n1 (by omega) (by omega) (by omega)]; exact S8.2 a p x1 x2 x3
end RO
