/-! THE CALL world. -/
section WORLD2
theorem k_world : CALL Value.int 89 147 [] := fun b u v A τ hI => by
  obtain ⟨n, t, hT⟩ := hI.2.2.2.2.1
  obtain ⟨w, hbw⟩ : ∃ w, b + w = 27 := ⟨27 - b, by have := hI.1; omega⟩
  have hb := hI.1
  have hw : w = 8 ∨ w = 19 := by omega
  obtain ⟨z1, z2, z3, z4, z5, z6, z7, z8, z9, z10⟩ := id hI
  obtain ⟨A0, f0, h⟩ := x_into (b := b) (u := u) (v := v) (A := A) (τ := τ) hw hT (some (.int (nI 1280)))
  rcases h with ⟨A1, lc, lt, nw, nb, fr, to, st, g1, g2, g3, g4, g5⟩ | ⟨A1, p, g1, g2, g3, g4⟩
  · have fA : FC w A A1 := FC_tr f0 g4
    obtain ⟨A2, c1, c2, c3, c4⟩ := x_world hbw hw g1 g2 g3
    have e2 : ∀ k, k ≠ 1 → (k < 4 ∨ (7 < k ∧ (k < w ∨ w + 10 < k))) → A2 k = A k := fun k k1 hk => by
      rw [c4 k k1 (by omega)]
      exact fA k (by omega)
    have hTY : TY A2 n t := TY_of (e2 61 (by omega) (by omega)) (by rw [e2 60 (by omega) (by omega)]) (TY_TX hT)
    have h60 : A2 60 = A 60 := e2 60 (by omega) (by omega)
    obtain ⟨B, tk, va, m1, m2, m3, m4⟩ := y_begin (b := w) (u := u) (v := v) (τ := τ) (by rw [h60]; exact z3) hTY
    obtain ⟨B', n', tk', pl', va', m5, m6, m7⟩ := g5 w u v τ B tk va (TY_FM m4 hTY) m2 m3
    obtain ⟨C, d1, ⟨d2, d3, d4, d5, d6, d7, d8, d9, d10⟩, d11, d12, d13, d14⟩ := y_end (b := w) (u := u) (v := v) (τ := τ) (n0 := n') (tk := tk') (pl := pl') (va := va') (l1 := some (.int (nI 1280))) m6 g3
    have fM : FM A2 B' := FM_tr m4 m7
    have eC : ∀ k, k ≠ 60 → k ≠ 62 → k ≠ 63 → k ≠ 64 → k ≠ 65 → C k = A2 k := fun k k1 k2 k3 k4 k5 => by
      rw [d14 k k1 k2 k3 k5, fM.1 k k2 k3 k4]
    have eA : ∀ k, k ≠ 1 → (k < 4 ∨ (7 < k ∧ (k < w ∨ w + 10 < k))) → k ≠ 60 → k ≠ 62 → k ≠ 63 → k ≠ 64 → k ≠ 65 → C k = A k := fun k k0 hk k1 k2 k3 k4 k5 => by
      rw [eC k k1 k2 k3 k4 k5, e2 k k0 hk]
    have hN : ∀ k, (28 < k ∧ k < 57) ∨ k = 57 ∨ k = 58 ∨ k = 59 ∨ 65 < k → ¬ k = w + 10 → C k = A k := fun k hk hk2 => eA k (by omega) (by omega) (by omega) (by omega) (by omega) (by omega) (by omega)
    obtain ⟨w1, ⟨w2, w3⟩, ⟨w4, w5, w6, w7, w8, w9⟩, w10, w11, w12, w13, w14⟩ := c2
    have ew : ∀ k, w ≤ k → k ≤ w + 10 → C k = A2 k := fun k k1 k2 => eC k (by omega) (by omega) (by omega) (by omega) (by omega)
    have e0 := ew w (by omega) (by omega)
    refine ⟨nI nw, w, u, A2, w, u, v, C, c1, (m1.trans m5).trans d1, hw, z2, ?_, ⟨lc, lt, nb, fr, to, ⟨g3.1, ?_, d11, ?_, ?_, ?_, ?_⟩, g3.2.2.1, ⟨?_, ?_⟩, ⟨d8, d12⟩, ?_⟩, ⟨0, t, Nat.zero_le _, ?_, ?_, hT.2.2.2.1, fun i hi => absurd hi (Nat.not_lt_zero i)⟩, ?_, ?_, ?_, ?_, ?_⟩
    · rw [d2, fM.1 60 (by omega) (by omega) (by omega), h60]
      exact z3
    · intro k hk
      rw [ew (w + 1) (by omega) (by omega), ew (w + 2) (by omega) (by omega), ew (w + 3) (by omega) (by omega)]
      exact w1 k hk
    · rw [e0, w4, w5, w6, w7, d4, d5, d6, d7]
      exact ⟨rfl, rfl, rfl, rfl⟩
    · rw [e0, w5, w6, w7]
      exact g3.2.2.2
    · rw [e0, w8, w9, w5, w7, d9, d10]
      exact ⟨rfl, rfl, rfl, rfl⟩
    · intro s hs
      rw [e0, ew (w + 6) (by omega) (by omega), ew (w + 7) (by omega) (by omega), ew (w + 8) (by omega) (by omega), ew (w + 9) (by omega) (by omega), d13 s hs, w8, w9, w6, w7]
      obtain ⟨q1, q2, q3, q4⟩ := w10 s hs
      exact ⟨q1, q2, q2.symm, q3, q4⟩
    · rw [e0]; exact w2
    · intro j hj
      rw [ew (w + 4) (by omega) (by omega), ew (w + 5) (by omega) (by omega)]
      exact w3 j hj
    · rw [ew (w + 10) (by omega) (by omega)]
      exact ⟨w11, w12, w13, w14⟩
    · rw [eC 1 (by omega) (by omega) (by omega) (by omega) (by omega)]
      exact c3
    · exact d3
    · exact PP_of (fun k hk => hN k (by omega) (by omega)) z6
    · exact SP_of (fun k hk => hN k (by omega) (by omega)) z7
    · exact KP_of (fun k hk => hN k (by omega) (by omega)) z8
    · exact IP_of (fun k hk => hN k (by omega) (by omega)) z9
    · exact IP_of (fun k hk => hN k (by omega) (by omega)) z10
  · have fA : FC w A A1 := FC_tr f0 g3
    have hn := hT.1
    have c1 := x_worldN hbw (show p < 2147483648 by omega) g1
    have e2 : ∀ k, (k < 4 ∨ (7 < k ∧ (k < w ∨ w + 5 < k))) → A1 k = A k := fA
    have hTY : TY A1 n t := TY_of (e2 61 (by omega)) (by rw [e2 60 (by omega)]) (TY_TX hT)
    have h60 : A1 60 = A 60 := e2 60 (by omega)
    obtain ⟨B, tk, va, m1, m2, m3, m4⟩ := y_begin (b := b) (u := u) (v := v) (τ := τ) (by rw [h60]; exact z3) hTY
    obtain ⟨B', n', tk', pl', va', dw', db', m5, m7⟩ := g4 b u v τ B tk va (TY_FM m4 hTY) m2 m3
    have fM : FM A1 B' := FM_tr m4 m7
    have hR : ∀ k, k ≠ 60 → k ≠ 62 → k ≠ 63 → k ≠ 64 → (k < 4 ∨ (7 < k ∧ (k < w ∨ w + 5 < k))) → RD B' n' tk' pl' va' (nI p) dw' db' k = A k := fun k k1 k2 k3 k4 hk => by
      rw [RD_ne k1, fM.1 k k2 k3 k4, e2 k hk]
    have r60 : ∀ i, i < 16 → (i ≤ 1 ∨ (7 ≤ i ∧ i ≤ 11) ∨ 14 ≤ i) → RD B' n' tk' pl' va' (nI p) dw' db' 60 i = A 60 i := fun i hi h => by
      rw [← h60, ← fM.1 60 (by omega) (by omega) (by omega)]
      match i, hi, h with
      | 0, _, _ => rfl
      | 1, _, _ => rfl
      | 7, _, _ => rfl
      | 8, _, _ => rfl
      | 9, _, _ => rfl
      | 10, _, _ => rfl
      | 11, _, _ => rfl
      | 14, _, _ => rfl
      | 15, _, _ => rfl
      | 2, _, h | 3, _, h | 4, _, h | 5, _, h | 6, _, h | 12, _, h | 13, _, h => exact absurd h (by omega)
      | i + 16, hi, _ => exact absurd hi (by omega)
    have hN : ∀ k, (28 < k ∧ k < 60) ∨ 64 < k → ¬ k = w + 10 → RD B' n' tk' pl' va' (nI p) dw' db' k = A k := fun k hk hk2 => hR k (by omega) (by omega) (by omega) (by omega) (by omega)
    refine ⟨-10 - nI p, b, u, A1, b, u, v, RD B' n' tk' pl' va' (nI p) dw' db', c1, (m1.trans m5).trans (y_endN (by omega)), z1, z2, by rw [r60 0 (by omega) (by omega)]; exact z3, ?_, ?_, ?_, ?_, ?_, ?_, ?_⟩
    · obtain ⟨lc, lt, nb, fr, to, ⟨r1, r2, r3, r4, r5, r6, r7⟩, hB, ⟨q1, q2⟩, ⟨q3, q4⟩, q5⟩ := z4
      have eb : ∀ k, b ≤ k → k ≤ b + 10 → RD B' n' tk' pl' va' (nI p) dw' db' k = A k := fun k k1 k2 => hR k (by omega) (by omega) (by omega) (by omega) (by omega)
      have e0 := eb b (by omega) (by omega)
      have e62 : ∀ j, j < 640 → RD B' n' tk' pl' va' (nI p) dw' db' 62 j = A 62 j := fun j hj => by rw [RD_ne (by omega), fM.2.1 j hj, e2 62 (by omega)]
      have e63 : ∀ j, j < 20 → RD B' n' tk' pl' va' (nI p) dw' db' 63 j = A 63 j := fun j hj => by rw [RD_ne (by omega), fM.2.2 j hj, e2 63 (by omega)]
      have e65 := hR 65 (by omega) (by omega) (by omega) (by omega) (by omega)
      refine ⟨lc, lt, nb, fr, to, ⟨r1, fun k hk => ?_, fun k hk => ?_, ?_, ?_, ?_, fun s hs => ?_⟩, hB, ⟨?_, fun j hj => ?_⟩, ⟨?_, fun j hj => ?_⟩, ?_⟩
      · rw [eb (b + 1) (by omega) (by omega), eb (b + 2) (by omega) (by omega), eb (b + 3) (by omega) (by omega)]
        exact r2 k hk
      · have hl := (r1 k hk).1
        rw [e62 (5 * k) (by omega)]
        refine ⟨(r3 k hk).1, fun i hi => ?_⟩
        rw [e62 (5 * k + 1 + i) (by omega)]
        exact (r3 k hk).2 i hi
      · rw [e0, r60 7 (by omega) (by omega), r60 8 (by omega) (by omega), r60 9 (by omega) (by omega), r60 10 (by omega) (by omega)]
        exact r4
      · rw [e0]; exact r5
      · rw [e0, r60 14 (by omega) (by omega), r60 15 (by omega) (by omega)]
        exact r6
      · rw [e0, e65, eb (b + 6) (by omega) (by omega), eb (b + 7) (by omega) (by omega), eb (b + 8) (by omega) (by omega), eb (b + 9) (by omega) (by omega)]
        exact r7 s hs
      · rw [e0]; exact q1
      · rw [eb (b + 4) (by omega) (by omega), eb (b + 5) (by omega) (by omega)]
        exact q2 j hj
      · rw [r60 11 (by omega) (by omega)]; exact q3
      · have := hB.1
        rw [e63 (2 * j) (by omega), e63 (2 * j + 1) (by omega)]
        exact q4 j hj
      · rw [eb (b + 10) (by omega) (by omega)]
        exact q5
    · exact TP_of (fun k hk => hR k (by omega) (by omega) (by omega) (by omega) (by omega)) (r60 1 (by omega) (by omega)) z5
    · exact PP_of (fun k hk => hN k (by omega) (by omega)) z6
    · exact SP_of (fun k hk => hN k (by omega) (by omega)) z7
    · exact KP_of (fun k hk => hN k (by omega) (by omega)) z8
    · exact IP_of (fun k hk => hN k (by omega) (by omega)) z9
    · exact IP_of (fun k hk => hN k (by omega) (by omega)) z10
end WORLD2
