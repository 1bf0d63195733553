/-! READING THE WHOLE TEXT, put together; how both sides begin. -/
section INTO2
variable {b w : Nat} {u v : Int64} {A B : Nat → Nat → Int32} {τ : Nat × Nat × Nat × (Nat → Int32)} {lc : Nat → Nat} {lt : Nat → Nat → Nat} {fr to : Nat → Nat} {st : Nat → Int32} {nw nb n i j p e c k q s d z : Nat} {t : Nat → Nat} {x y S n0 tk pl va fa dw db : Int32} {σ : mS} {l1 l2 l3 l4 l5 : Option Value}
theorem into_ok {ec : Option (Option Value × mS)} {em : mS → Option (Option Value × mS)} {MX : (Nat → Nat → Int32) → Prop} (hw : w = 8 ∨ w = 19) (hT : TX A n t) (hi : i ≤ p)
    (hcl : ∀ A', ec = some (some (.int 1), G b u v A' τ) → ev 22 14 [some (.ref 3), some (.ref w), some (.ref 1), some (.int (nI i))] [] (G b u v A τ) = ev 22 14 [some (.ref 3), some (.ref w), some (.ref 1), some (.int (nI (i + 1)))] [] (G b u v A' τ))
    (hmo : ∀ (b1 : Nat) (u1 v1 : Int64) (τ1 : Nat × Nat × Nat × (Nat → Int32)) (B : Nat → Nat → Int32) (tk va : Int32) (σ' : mS), MTk t n p tk va → em (G b1 u1 v1 (YS B n t p tk va (-1) (nI nw) (nI nb)) τ1) = some (none, σ') → ev 147 73 [some (.ref 60), l1] [] (G b1 u1 v1 (YS B n t p tk va (-1) (nI nw) (nI nb)) τ1) = ev 147 73 [some (.ref 60), l1] [] σ')
    (h : ROk b u v τ w n t A p nw nb ec MX em)
    (ih : ∀ (p : Nat) (A : Nat → Nat → Int32) (lc : Nat → Nat) (lt : Nat → Nat → Nat) (nw nb : Nat) (fr to : Nat → Nat) (st : Nat → Int32), i + 1 ≤ p → TX A n t → p ≤ n → CAt A n t p → CD A w lc lt nw nb fr to st → DF lc lt nw nb fr to st → LOk b u v τ w n t A p nw nb (ev 22 14 [some (.ref 3), some (.ref w), some (.ref 1), some (.int (nI (i + 1)))] [] (G b u v A τ)) (fun B => MD B lc lt nb fr to st) l1 ∨ LNo b u v τ w n t A p nw nb (ev 22 14 [some (.ref 3), some (.ref w), some (.ref 1), some (.int (nI (i + 1)))] [] (G b u v A τ)) (fun B => MD B lc lt nb fr to st) l1) :
    LOk b u v τ w n t A p nw nb (ev 22 14 [some (.ref 3), some (.ref w), some (.ref 1), some (.int (nI i))] [] (G b u v A τ)) MX l1 ∨ LNo b u v τ w n t A p nw nb (ev 22 14 [some (.ref 3), some (.ref w), some (.ref 1), some (.int (nI i))] [] (G b u v A τ)) MX l1 := by
  obtain ⟨A', p', lc', lt', nw', nb', fr', to', st', h1, h2, h3, h4, h5, h6, h7, h8⟩ := h
  rcases ih p' A' lc' lt' nw' nb' fr' to' st' (by omega) (TX_FC hw h7 hT) h6 h2 h3 h4 with ⟨A2, lc2, lt2, nw2, nb2, fr2, to2, st2, g1, g2, g3, g4, g5⟩ | ⟨A2, p2, g1, g2, g3, g4⟩
  · refine Or.inl ⟨A2, lc2, lt2, nw2, nb2, fr2, to2, st2, (hcl A' h1).trans g1, g2, g3, FC_tr h7 g4, fun b1 u1 v1 τ1 B tk va hTB hMB hX => ?_⟩
    obtain ⟨B', tk', va', k1, k2, k3, k4⟩ := h8 b1 u1 v1 τ1 B tk va hTB hMB hX
    obtain ⟨B2, n2, tk2, pl2, va2, q1, q2, q3⟩ := g5 b1 u1 v1 τ1 B' tk' va' (TY_FM k4 hTB) k2 k3
    exact ⟨B2, n2, tk2, pl2, va2, (hmo _ _ _ _ _ _ _ _ hMB k1).trans q1, q2, FM_tr k4 q3⟩
  · refine Or.inr ⟨A2, p2, (hcl A' h1).trans g1, g2, FC_tr h7 g3, fun b1 u1 v1 τ1 B tk va hTB hMB hX => ?_⟩
    obtain ⟨B', tk', va', k1, k2, k3, k4⟩ := h8 b1 u1 v1 τ1 B tk va hTB hMB hX
    obtain ⟨B2, n2, tk2, pl2, va2, dw2, db2, q1, q3⟩ := g4 b1 u1 v1 τ1 B' tk' va' (TY_FM k4 hTB) k2 k3
    exact ⟨B2, n2, tk2, pl2, va2, dw2, db2, (hmo _ _ _ _ _ _ _ _ hMB k1).trans q1, FM_tr k4 q3⟩
theorem into_no {ec : Option (Option Value × mS)} {em : mS → Option (Option Value × mS)} {MX : (Nat → Nat → Int32) → Prop} (hT : TX A n t)
    (hcl : ∀ A' p', CAt A' n t p' → ec = some (some (.int 0), G b u v A' τ) → ev 22 14 [some (.ref 3), some (.ref w), some (.ref 1), some (.int (nI i))] [] (G b u v A τ) = some (some (.int (nI p')), G b u v A' τ))
    (hmo : ∀ (b1 : Nat) (u1 v1 : Int64) (τ1 : Nat × Nat × Nat × (Nat → Int32)) (B : Nat → Nat → Int32) (tk va : Int32) (σ' : mS), MTk t n p tk va → em (G b1 u1 v1 (YS B n t p tk va (-1) (nI nw) (nI nb)) τ1) = some (none, σ') → ev 147 73 [some (.ref 60), l1] [] (G b1 u1 v1 (YS B n t p tk va (-1) (nI nw) (nI nb)) τ1) = ev 147 73 [some (.ref 60), l1] [] σ')
    (h : RNo b u v τ w n t A p nw nb ec MX em) :
    LNo b u v τ w n t A p nw nb (ev 22 14 [some (.ref 3), some (.ref w), some (.ref 1), some (.int (nI i))] [] (G b u v A τ)) MX l1 := by
  obtain ⟨A', p', h1, h2, h3, h4, h5⟩ := h
  refine ⟨A', p', hcl A' p' h2 h1, h3, h4, fun b1 u1 v1 τ1 B tk va hTB hMB hX => ?_⟩
  obtain ⟨B', n', tk', pl', va', dw', db', k1, k2⟩ := h5 b1 u1 v1 τ1 B tk va hTB hMB hX
  exact ⟨B', n', tk', pl', va', dw', db', (hmo _ _ _ _ _ _ _ _ hMB k1).trans (y73_x (by have := hT.1; omega)), k2⟩
theorem into_loop (hw : w = 8 ∨ w = 19) (l1 : Option Value) : ∀ (r i p : Nat) (A : Nat → Nat → Int32) (lc : Nat → Nat) (lt : Nat → Nat → Nat) (nw nb : Nat) (fr to : Nat → Nat) (st : Nat → Int32), i + r = 601 → i ≤ p → TX A n t → p ≤ n → CAt A n t p → CD A w lc lt nw nb fr to st → DF lc lt nw nb fr to st → LOk b u v τ w n t A p nw nb (ev 22 14 [some (.ref 3), some (.ref w), some (.ref 1), some (.int (nI i))] [] (G b u v A τ)) (fun B => MD B lc lt nb fr to st) l1 ∨ LNo b u v τ w n t A p nw nb (ev 22 14 [some (.ref 3), some (.ref w), some (.ref 1), some (.int (nI i))] [] (G b u v A τ)) (fun B => MD B lc lt nb fr to st) l1
  | 0, i, p, A, lc, lt, nw, nb, fr, to, st, hir, hip, hT, hp, hA, hC, hD => by
    have := hT.1
    omega
  | r + 1, i, p, A, lc, lt, nw, nb, fr, to, st, hir, hip, hT, hp, hA, hC, hD => by
    have hi : i ≤ 600 := by omega
    have hn : n ≤ 600 := hT.1
    have ih := fun p A lc lt nw nb fr to st h1 h2 => into_loop hw l1 r (i + 1) p A lc lt nw nb fr to st (by omega) h1 h2
    by_cases h0 : tS t n p = 0
    · refine Or.inl ⟨A, lc, lt, nw, nb, fr, to, st, x14_end hi hA h0, hC, hD, FC_rf, fun b1 u1 v1 τ1 B tk va hTB hMB hX => ⟨B, _, _, _, _, y73_end hMB h0, hX, FM_rf⟩⟩
    by_cases h1 : tS t n p = 1
    · have hcl : ∀ (y : Int32) (A' : Nat → Nat → Int32), (y = 0 ∨ y = 1) → evM 24 [.ref 3, .ref w] (G b u v A τ) = some (some (.int y), G b u v A' τ) → evM 23 [.ref 3, .ref w] (G b u v A τ) = some (some (.int y), G b u v A' τ) := fun y A' hy e => x_item hA 1 h1 (Or.inl ⟨rfl, e⟩) hy
      rcases way_item (b := b) (u := u) (v := v) (τ := τ) hw hT hp hA h1 hC hD with h | h
      · exact into_ok hw hT hip (fun A' e => x14_ok hi hA h0 (hcl 1 A' (Or.inr rfl) e)) (fun b1 u1 v1 τ1 B tk va σ' hM e => y73_way hM h1 e) h ih
      · exact Or.inr (into_no hT (fun A' p' hp' e => x14_no (σ' := (G b u v A τ)) hi hA h0 (hcl 0 A' (Or.inl rfl) e) hp') (fun b1 u1 v1 τ1 B tk va σ' hM e => y73_way hM h1 e) h)
    by_cases h3 : 3 ≤ tS t n p ∧ tS t n p ≤ 5
    · obtain ⟨z, hz⟩ : ∃ z, tS t n p = z + 3 := ⟨tS t n p - 3, by omega⟩
      have hz3 : z < 3 := by omega
      have hcl : ∀ (y : Int32) (A' : Nat → Nat → Int32), (y = 0 ∨ y = 1) → evM 25 [.ref 3, .ref w] (G b u v A τ) = some (some (.int y), G b u v A' τ) → evM 23 [.ref 3, .ref w] (G b u v A τ) = some (some (.int y), G b u v A' τ) := fun y A' hy e => x_item hA (z + 3) hz (Or.inr (Or.inl ⟨by omega, e⟩)) hy
      rcases row_item (b := b) (u := u) (v := v) (τ := τ) hw hz3 hT hp hA hz hC hD with h | h
      · exact into_ok hw hT hip (fun A' e => x14_ok hi hA h0 (hcl 1 A' (Or.inr rfl) e)) (fun b1 u1 v1 τ1 B tk va σ' hM e => y73_row hz3 hM hz e) h ih
      · exact Or.inr (into_no hT (fun A' p' hp' e => x14_no (σ' := (G b u v A τ)) hi hA h0 (hcl 0 A' (Or.inl rfl) e) hp') (fun b1 u1 v1 τ1 B tk va σ' hM e => y73_row hz3 hM hz e) h)
    by_cases h6 : tS t n p = 6
    · have hcl : ∀ (y : Int32) (A' : Nat → Nat → Int32), (y = 0 ∨ y = 1) → evM 26 [.ref 3, .ref w] (G b u v A τ) = some (some (.int y), G b u v A' τ) → evM 23 [.ref 3, .ref w] (G b u v A τ) = some (some (.int y), G b u v A' τ) := fun y A' hy e => x_item hA 6 h6 (Or.inr (Or.inr ⟨rfl, e⟩)) hy
      rcases bar_item (b := b) (u := u) (v := v) (τ := τ) hw hT hp hA h6 hC hD with h | h
      · exact into_ok hw hT hip (fun A' e => x14_ok hi hA h0 (hcl 1 A' (Or.inr rfl) e)) (fun b1 u1 v1 τ1 B tk va σ' hM e => y73_bar hM h6 e) h ih
      · exact Or.inr (into_no hT (fun A' p' hp' e => x14_no (σ' := (G b u v A τ)) hi hA h0 (hcl 0 A' (Or.inl rfl) e) hp') (fun b1 u1 v1 τ1 B tk va σ' hM e => y73_bar hM h6 e) h)
    have h36 : ¬ (3 ≤ tS t n p ∧ tS t n p ≤ 6) := by omega
    refine Or.inr ⟨A, p, x14_no (σ' := (G b u v A τ)) hi hA h0 (x_itemNo hA h1 h36) hA, hp, FC_rf, fun b1 u1 v1 τ1 B tk va hTB hMB hX => ⟨B, _, _, _, _, _, _, y73_no (by omega) hMB h0 h1 h36, FM_rf⟩⟩
theorem S16_0 : S16 0 := s16_0
theorem DF_0 : DF (fun _ => 0) (fun _ _ => 0) 0 0 (fun _ => 0) (fun _ => 0) (fun _ => 0) := ⟨fun k hk => ⟨Nat.zero_le _, fun i hi => absurd hi (Nat.not_lt_zero i)⟩, Nat.zero_le _, ⟨Nat.zero_le _, fun j hj => absurd hj (Nat.not_lt_zero j)⟩, s16_0, s16_0, s16_0⟩
/-- the class's reading, from its call on -/
theorem x_into (hw : w = 8 ∨ w = 19) (hT : TX A n t) (l1 : Option Value) : ∃ A0, FC w A A0 ∧ (LOk b u v τ w n t A0 (sk t n 0) 0 0 (evM 22 [.ref 3, .ref w, .ref 1] (G b u v A τ)) (fun B => MD B (fun _ => 0) (fun _ _ => 0) 0 (fun _ => 0) (fun _ => 0) (fun _ => 0)) l1 ∨ LNo b u v τ w n t A0 (sk t n 0) 0 0 (evM 22 [.ref 3, .ref w, .ref 1] (G b u v A τ)) (fun B => MD B (fun _ => 0) (fun _ _ => 0) 0 (fun _ => 0) (fun _ => 0) (fun _ => 0)) l1) := by
  obtain ⟨A1, h1, h2, h3, h4⟩ := x_empty (b := b) (u := u) (v := v) (A := A) (τ := τ) hw
  have hT1 := TX_FC hw h3 hT
  obtain ⟨A2, g1, g2, g3⟩ := x_split (b := b) (u := u) (v := v) (τ := τ) hT1
  have hF : FC w A A2 := FC_tr h3 fun k hk => g3 k (by omega)
  refine ⟨A2, hF, ?_⟩
  have hl := into_loop (b := b) (u := u) (v := v) (τ := τ) hw l1 601 0 (sk t n 0) A2 _ _ _ _ _ _ _ rfl (Nat.zero_le _) (TX_FC hw hF hT) (sk_le (Nat.zero_le n)) g2 (CD_of (fun k a c => g3 k (by omega)) h2) DF_0
  have he : evM 22 [.ref 3, .ref w, .ref 1] (G b u v A τ) = ev 22 14 [some (.ref 3), some (.ref w), some (.ref 1), some (.int (nI 0))] [] (G b u v A2 τ) := by
    simp (disch := first | omega | assumption | exact Nat.le_of_ble_eq_true rfl) only [m22, e22_0, e22_1, e22_4, e22_5, e22_8, e22_9, e22_12, e22_13i, e22_13n, e22_13r, Bool.false_eq_true, Bool.true_eq_false, gfK, pfK, lnK, isC, alK_n, asK_n, List.getElem?_cons_zero, List.getElem?_cons_succ, List.set_cons_zero, List.set_cons_succ, List.length_cons, List.length_nil, ↓reduceIte, if_true, if_false, eq_self, and_true, true_and, and_self, Option.bind_some, Option.bind_none, Option.toList_some, Option.toList_none, List.cons_append, List.nil_append, mset_at, mset_ne, mset_2, mset_mset, Nat.reduceLT, Nat.reduceAdd, G_W0 hw, h1, G_3, G_4, g1]
    rfl
  rw [he]
  exact hl
end INTO2
section WBEGIN
variable {b w : Nat} {u v : Int64} {A B : Nat → Nat → Int32} {τ : Nat × Nat × Nat × (Nat → Int32)} {n i : Nat} {t : Nat → Nat} {x2 x3 x4 x5 x6 x12 x13 n0 tk pl va fa dw db : Int32}
theorem S_60RD : mset (G b u v A τ) 60 (.inr (8, [.int (A 60 0), .long v, .ref 61, .int (A 60 1), .int x2, .int x3, .int x4, .int x5, .int x6, .int (A 60 7), .ref 62, .int (A 60 8), .int (A 60 9), .int (A 60 10), .int (A 60 11), .ref 63, .int x12, .int x13, .ref 64, .int (A 60 14), .int (A 60 15), .ref 65, .ref 66, .ref 67, .ref 68, .ref 69, .ref 70, .ref 71, .ref 72])) = G b u v (RD A x2 x3 x4 x5 x6 x12 x13) τ := S_60
theorem le_3 {i : Nat} (h : i < 2147483648) : ((3 : Int32) ≤ nI i) = (3 ≤ i) := propext (nI_leI (a := 3) (by decide) h)
theorem le_1280 {i : Nat} (h : i < 2147483648) : ((1280 : Int32) ≤ nI i) = (1280 ≤ i) := propext (nI_leI (a := 1280) (by decide) h)
theorem y27 : ∀ (f i : Nat) (A : Nat → Nat → Int32), i + f = 3 → (∀ j, j < i → A 64 j = 0) → ∃ A', ev 147 27 [some (.ref 60), some (.int (nI i))] [] (G b u v (RD A n0 tk pl va fa dw db) τ) = ev 147 45 [some (.ref 60), some (.int (nI 3))] [] (G b u v (RD A' n0 tk pl va fa dw db) τ) ∧ (∀ j, j < 3 → A' 64 j = 0) ∧ ∀ k, k ≠ 64 → A' k = A k
  | 0, i, A, hi, hz => by
    have : i = 3 := by omega
    subst this
    refine ⟨A, ?_, hz, fun k _ => rfl⟩
    rw [e147_27]
    simp (disch := first | omega | assumption | exact Nat.le_of_ble_eq_true rfl) only [m147, e147_28, e147_29, Bool.false_eq_true, Bool.true_eq_false, gfK, pfK, lnK, isC, alK_n, asK_n, List.getElem?_cons_zero, List.getElem?_cons_succ, List.set_cons_zero, List.set_cons_succ, List.length_cons, List.length_nil, ↓reduceIte, if_true, if_false, eq_self, and_true, true_and, and_self, Option.bind_some, Option.bind_none, Option.toList_some, Option.toList_none, List.cons_append, List.nil_append, mset_at, mset_ne, mset_2, mset_mset, Nat.reduceLT, Nat.reduceAdd, le_3, Nat.le_refl]
  | f + 1, i, A, hi, hz => by
    obtain ⟨A', h1, h2, h3⟩ := y27 f (i + 1) (up A 64 (upd (A 64) i 0)) (by omega) (fun j hj => by
      rw [up_at]
      by_cases e : j = i
      · rw [e, upd_at]
      · rw [upd_ne e]
        exact hz j (by omega))
    refine ⟨A', ?_, h2, fun k a => by rw [h3 k a, up_ne a]⟩
    have h8 : ¬ 3 ≤ i := by omega
    rw [e147_27]
    simp (disch := first | omega | assumption | exact Nat.le_of_ble_eq_true rfl) only [m147, e147_28, e147_29, e147_32, e147_33, e147_36, e147_37, e147_38, e147_39i, e147_39n, e147_39r, e147_42, Bool.false_eq_true, Bool.true_eq_false, gfK, pfK, lnK, isC, alK_n, asK_n, List.getElem?_cons_zero, List.getElem?_cons_succ, List.set_cons_zero, List.set_cons_succ, List.length_cons, List.length_nil, ↓reduceIte, if_true, if_false, eq_self, and_true, true_and, and_self, Option.bind_some, Option.bind_none, Option.toList_some, Option.toList_none, List.cons_append, List.nil_append, mset_at, mset_ne, mset_2, mset_mset, Nat.reduceLT, Nat.reduceAdd, le_3, h8, G_RD, G_RD64, S_RD64, nI_succ', h1]
theorem y49 : ∀ (f i : Nat) (A : Nat → Nat → Int32), i + f = 1280 → 640 ≤ i → (∀ j, 640 ≤ j → j < i → A 62 j = 0) → ∃ A', ev 147 49 [some (.ref 60), some (.int (nI i))] [] (G b u v (RD A n0 tk pl va fa dw db) τ) = ev 147 69 [some (.ref 60), some (.int (nI 1280))] [] (G b u v (RD A' n0 tk pl va fa dw db) τ) ∧ (∀ j, 640 ≤ j → j < 1280 → A' 62 j = 0) ∧ (∀ k, k ≠ 62 → A' k = A k) ∧ ∀ j, j < 640 → A' 62 j = A 62 j
  | 0, i, A, hi, hg, hz => by
    have : i = 1280 := by omega
    subst this
    refine ⟨A, ?_, hz, fun k _ => rfl, fun _ _ => rfl⟩
    rw [e147_49]
    simp (disch := first | omega | assumption | exact Nat.le_of_ble_eq_true rfl) only [m147, e147_50, e147_53, Bool.false_eq_true, Bool.true_eq_false, gfK, pfK, lnK, isC, alK_n, asK_n, List.getElem?_cons_zero, List.getElem?_cons_succ, List.set_cons_zero, List.set_cons_succ, List.length_cons, List.length_nil, ↓reduceIte, if_true, if_false, eq_self, and_true, true_and, and_self, Option.bind_some, Option.bind_none, Option.toList_some, Option.toList_none, List.cons_append, List.nil_append, mset_at, mset_ne, mset_2, mset_mset, Nat.reduceLT, Nat.reduceAdd, le_1280, Nat.le_refl]
  | f + 1, i, A, hi, hg, hz => by
    obtain ⟨A', h1, h2, h3, h4⟩ := y49 f (i + 1) (up A 62 (upd (A 62) i 0)) (by omega) (by omega) (fun j hj0 hj => by
      rw [up_at]
      by_cases e : j = i
      · rw [e, upd_at]
      · rw [upd_ne e]
        exact hz j hj0 (by omega))
    refine ⟨A', ?_, h2, fun k a => by rw [h3 k a, up_ne a], fun j hj => by rw [h4 j hj, up_at, upd_ne (by omega)]⟩
    have h8 : ¬ 1280 ≤ i := by omega
    rw [e147_49]
    simp (disch := first | omega | assumption | exact Nat.le_of_ble_eq_true rfl) only [m147, e147_50, e147_53, e147_56, e147_57, e147_60, e147_61, e147_62, e147_63i, e147_63n, e147_63r, e147_66, Bool.false_eq_true, Bool.true_eq_false, gfK, pfK, lnK, isC, alK_n, asK_n, List.getElem?_cons_zero, List.getElem?_cons_succ, List.set_cons_zero, List.set_cons_succ, List.length_cons, List.length_nil, ↓reduceIte, if_true, if_false, eq_self, and_true, true_and, and_self, Option.bind_some, Option.bind_none, Option.toList_some, Option.toList_none, List.cons_append, List.nil_append, mset_at, mset_ne, mset_2, mset_mset, Nat.reduceLT, Nat.reduceAdd, le_1280, h8, G_RD, G_RD62, S_RD62, nI_succ', h1]
theorem y_begin (h0 : A 60 0 = 0) (hT : TY A n t) : ∃ B tk va, evM 147 [.ref 60] (G b u v A τ) = ev 147 73 [some (.ref 60), some (.int (nI 1280))] [] (G b u v (YS B n t (sk t n 0) tk va (-1) (nI 0) (nI 0)) τ) ∧ MTk t n (sk t n 0) tk va ∧ MD B (fun _ => 0) (fun _ _ => 0) 0 (fun _ => 0) (fun _ => 0) (fun _ => 0) ∧ FM A B := by
  obtain ⟨A1, a1, a2, a3⟩ := y27 (b := b) (u := u) (v := v) (τ := τ) (n0 := 0) (tk := A 60 3) (pl := A 60 4) (va := A 60 5) (fa := -1) (dw := 0) (db := 0) 3 0 A rfl (fun j hj => absurd hj (by omega))
  obtain ⟨A2, c1, c2, c3, c4⟩ := y49 (b := b) (u := u) (v := v) (τ := τ) (n0 := 0) (tk := A 60 3) (pl := A 60 4) (va := A 60 5) (fa := -1) (dw := 0) (db := 0) 640 640 A1 rfl (Nat.le_refl _) (fun j hj hj' => absurd hj (by omega))
  have hF : FM A A2 := ⟨fun k k1 k2 k3 => by rw [c3 k k1, a3 k k3], fun j hj => by rw [c4 j hj, a3 62 (by omega)], fun j hj => by rw [c3 63 (by omega), a3 63 (by omega)]⟩
  have hT2 := TY_FM hF hT
  obtain ⟨tk', va', d1, d2⟩ := y_adv (b := b) (u := u) (v := v) (τ := τ) (tk := A 60 3) (pl := A 60 4) (va := A 60 5) (fa := -1) (dw := 0) (db := 0) hT2 (Nat.zero_le n)
  refine ⟨A2, tk', va', ?_, d2, ⟨fun k hk => ⟨c2 _ (by omega) (by omega), fun i hi => absurd hi (Nat.not_lt_zero i)⟩, fun j hj => absurd hj (Nat.not_lt_zero j), by rw [c3 64 (by omega)]; exact a2 0 (by omega), by rw [c3 64 (by omega)]; exact a2 1 (by omega), by rw [c3 64 (by omega)]; exact a2 2 (by omega)⟩, hF⟩
  have a1' : ev 147 27 [some (.ref 60), some (.int 0)] [] (G b u v (RD A 0 (A 60 3) (A 60 4) (A 60 5) (-1) 0 0) τ) = _ := a1
  have c1' : ev 147 49 [some (.ref 60), some (.int 640)] [] (G b u v (RD A1 0 (A 60 3) (A 60 4) (A 60 5) (-1) 0 0) τ) = _ := c1
  have d1' : evM 148 [.ref 60] (G b u v (RD A2 0 (A 60 3) (A 60 4) (A 60 5) (-1) 0 0) τ) = _ := d1
  have g60 := G_60 (b := b) (u := u) (v := v) (A := A) (τ := τ)
  have s60 := fun x2 x3 x4 x5 x6 x12 x13 : Int32 => S_60RD (b := b) (u := u) (v := v) (A := A) (τ := τ) (x2 := x2) (x3 := x3) (x4 := x4) (x5 := x5) (x6 := x6) (x12 := x12) (x13 := x13)
  simp (disch := first | omega | assumption | exact Nat.le_of_ble_eq_true rfl) only [m147, e147_0, e147_1, e147_2, e147_5, e147_6, e147_7, e147_10, e147_11, e147_12, e147_15, e147_16, e147_17, e147_20, e147_21, e147_22, e147_25, e147_26i, e147_26n, e147_26r, Bool.false_eq_true, Bool.true_eq_false, gfK, pfK, lnK, isC, alK_n, asK_n, List.getElem?_cons_zero, List.getElem?_cons_succ, List.set_cons_zero, List.set_cons_succ, List.length_cons, List.length_nil, ↓reduceIte, if_true, if_false, eq_self, and_true, true_and, and_self, Option.bind_some, Option.bind_none, Option.toList_some, Option.toList_none, List.cons_append, List.nil_append, mset_at, mset_ne, mset_2, mset_mset, Nat.reduceLT, Nat.reduceAdd, g60, G_thr h0, s60, G_RD, S_RD, a1']
  simp (disch := first | omega | assumption | exact Nat.le_of_ble_eq_true rfl) only [m147, e147_45, e147_48i, e147_48n, e147_48r, Bool.false_eq_true, Bool.true_eq_false, gfK, pfK, lnK, isC, alK_n, asK_n, List.getElem?_cons_zero, List.getElem?_cons_succ, List.set_cons_zero, List.set_cons_succ, List.length_cons, List.length_nil, ↓reduceIte, if_true, if_false, eq_self, and_true, true_and, and_self, Option.bind_some, Option.bind_none, Option.toList_some, Option.toList_none, List.cons_append, List.nil_append, mset_at, mset_ne, mset_2, mset_mset, Nat.reduceLT, Nat.reduceAdd, c1']
  simp (disch := first | omega | assumption | exact Nat.le_of_ble_eq_true rfl) only [m147, e147_69, e147_70, Bool.false_eq_true, Bool.true_eq_false, gfK, pfK, lnK, isC, alK_n, asK_n, List.getElem?_cons_zero, List.getElem?_cons_succ, List.set_cons_zero, List.set_cons_succ, List.length_cons, List.length_nil, ↓reduceIte, if_true, if_false, eq_self, and_true, true_and, and_self, Option.bind_some, Option.bind_none, Option.toList_some, Option.toList_none, List.cons_append, List.nil_append, mset_at, mset_ne, mset_2, mset_mset, Nat.reduceLT, Nat.reduceAdd, G_RD, d1']
  rfl
end WBEGIN
