/-! WISHED and QUARREL on both sides. -/
/-- by the masters, the least first: which of two is more wished -/
def mor (pa pb : Nat → Nat) : Nat → Nat → Bool
  | _, 0 => false
  | i, n + 1 => if pa i = pb i then mor pa pb (i + 1) n else decide (pb i < pa i)
theorem mor_skip {pa pb : Nat → Nat} {k : Nat} : ∀ (n i : Nat), (∀ j, i ≤ j → j < i + n → k ≤ j → pa j = pb j) → i ≤ k → k ≤ i + n → mor pa pb i n = mor pa pb i (k - i)
  | 0, i, h, h1, h2 => by rw [show k - i = 0 by omega]
  | n + 1, i, h, h1, h2 => by
    by_cases hk : k = i
    · subst hk
      have h0 := h k (by omega) (by omega) (by omega)
      have : mor pa pb k (n + 1) = false := by
        have aux : ∀ (m j : Nat), (∀ e, j ≤ e → e < j + m → pa e = pb e) → mor pa pb j m = false := by
          intro m
          induction m with
          | zero => intro j _; rfl
          | succ m ih =>
            intro j hj
            rw [mor, if_pos (hj j (by omega) (by omega))]
            exact ih (j + 1) (fun e h1 h2 => hj e (by omega) (by omega))
        exact aux (n + 1) k (fun e h1 h2 => h e h1 h2 h1)
      rw [this, Nat.sub_self, mor]
    · rw [show k - i = (k - (i + 1)) + 1 by omega, mor, mor]
      by_cases he : pa i = pb i
      · rw [if_pos he, if_pos he]
        exact mor_skip n (i + 1) (fun j h1 h2 h3 => h j (by omega) (by omega) h3) (by omega) (by omega)
      · rw [if_neg he, if_neg he]
theorem mor_congr {pa pb qa qb : Nat → Nat} : ∀ (n i : Nat), (∀ j, i ≤ j → j < i + n → pa j = qa j ∧ pb j = qb j) → mor pa pb i n = mor qa qb i n
  | 0, i, _ => by rw [mor, mor]
  | n + 1, i, h => by
    obtain ⟨h1, h2⟩ := h i (by omega) (by omega)
    rw [mor, mor, h1, h2, mor_congr n (i + 1) (fun j g1 g2 => h j (by omega) (by omega))]
/-- the best of those let -/
def wsO (L : Nat → Bool) (M : Nat → Nat → Bool) : Nat → Option Nat
  | 0 => none
  | n + 1 => match wsO L M n with
    | none => if L n = true then some n else none
    | some m => if L n = true ∧ M n m = true then some n else some m
theorem wsO_lt {L : Nat → Bool} {M : Nat → Nat → Bool} : ∀ {n m : Nat}, wsO L M n = some m → m < n
  | 0, m, h => by cases h
  | n + 1, m, h => by
    rw [wsO] at h
    split at h
    · split at h
      · cases h; omega
      · cases h
    · rename_i k hk
      split at h
      · cases h; omega
      · cases h
        have := wsO_lt hk
        omega
theorem wsO_congr {L : Nat → Bool} {M M' : Nat → Nat → Bool} : ∀ {n : Nat}, (∀ i j, i < n → j < n → M i j = M' i j) → wsO L M n = wsO L M' n
  | 0, _ => rfl
  | n + 1, h => by
    rw [wsO, wsO, wsO_congr (fun i j hi hj => h i j (by omega) (by omega))]
    cases hn : wsO L M' n with
    | none => rfl
    | some m =>
      have hm := wsO_lt hn
      simp only [h n m (by omega) (by omega)]
/-- how much of a way's lots a set has -/
def prt (lc : Nat → Nat) (lt : Nat → Nat → Nat) (ws : Nat → Int32) (k e : Nat) (m : Nat) : Nat := cntF (bi (setI (lt k) (lc k) &&& ws m)) 16 * lc e
theorem prt_le {lc : Nat → Nat} {lt : Nat → Nat → Nat} {ws : Nat → Int32} {k e m : Nat} (h : lc e ≤ 4) : prt lc lt ws k e m ≤ 64 := by
  unfold prt
  have := cntF_le (bi (setI (lt k) (lc k) &&& ws m)) 16
  exact Nat.mul_le_mul this h
section WISHED
variable {b : Nat} {u v : Int64} {A : Nat → Nat → Int32} {τ : Nat × Nat × Nat × (Nat → Int32)} {lc : Nat → Nat} {lt : Nat → Nat → Nat} {s d e i : Nat} {x y z : Int32} {σ : mS} {ws : Nat → Int32} {l5 l6 : Option Value}
variable {tick kept : Int32} {mr ar lr nr : Nat} {mf af lf nf st : Nat → Int32}
/-- what the class takes for a master's wish -/
def wsC (mr : Nat) (ws : Nat → Int32) (m : Nat) : Int32 := if m < mr then ws m else 0
theorem R_wishOf (hm : mr ≤ 8) (hw : ∀ i, i < 8 → A 59 i = ws i) {m : Nat} (h8 : m < 8) : evM 130 [.ref 0, .int (nI m)] (BS b u v A τ tick kept mr mf ar af lr lf nr nf) = some (some (.int (wsC mr ws m)), (BS b u v A τ tick kept mr mf ar af lr lf nr nf)) := by
  unfold wsC
  by_cases h : m < mr
  · rw [if_pos h]
    have e := hw m h8
    have hin := inY (n := 8) (k := 7) rfl (by omega) h8
    simp (disch := first | omega | assumption | exact Nat.le_of_ble_eq_true rfl) only [m130, e130_0, e130_1, e130_4, e130_7, e130_8, e130_11, e130_14, e130_15, e130_16, e130_18, e130_21, e130_24, e130_25, e130_28, e130_29, e130_30, e130_33, e130_34, Bool.false_eq_true, Bool.true_eq_false, gfK, pfK, lnK, isC, alK_n, asK_n, List.getElem?_cons_zero, List.getElem?_cons_succ, List.set_cons_zero, List.set_cons_succ, List.length_cons, List.length_nil, ↓reduceIte, if_true, if_false, eq_self, and_true, true_and, and_self, Option.bind_some, Option.bind_none, Option.toList_some, Option.toList_none, List.cons_append, List.nil_append, mset_at, mset_ne, mset_2, mset_mset, Nat.reduceLT, Nat.reduceAdd, B_0, B_30, B_S30, mTR, aTR, lTR, nTR, mHas hm h, nz1, R_within, hin, B_59, e]
  · rw [if_neg h]
    have hx : nI mr ≤ nI m := (nI_leI (by omega) (by omega)).2 (by omega)
    simp (disch := first | omega | assumption | exact Nat.le_of_ble_eq_true rfl) only [m130, e130_0, e130_1, e130_4, e130_7, e130_8, e130_11, e130_14, e130_15, e130_16, e130_18, e130_21, e130_24, e130_25, e130_28, e130_29, e130_30, e130_33, e130_34, Bool.false_eq_true, Bool.true_eq_false, gfK, pfK, lnK, isC, alK_n, asK_n, List.getElem?_cons_zero, List.getElem?_cons_succ, List.set_cons_zero, List.set_cons_succ, List.length_cons, List.length_nil, ↓reduceIte, if_true, if_false, eq_self, and_true, true_and, and_self, Option.bind_some, Option.bind_none, Option.toList_some, Option.toList_none, List.cons_append, List.nil_append, mset_at, mset_ne, mset_2, mset_mset, Nat.reduceLT, Nat.reduceAdd, B_0, B_30, B_S30, mTR, aTR, lTR, nTR, mHasN hm (Or.inr hx)]
theorem CW_BA (hb : b = 8 ∨ b = 19) (h : CW A b lc lt) : CW (BA A tick kept mr mf ar af lr lf nr nf) b lc lt := fun k hk => by
  rw [BA_ne (by omega), BA_ne (by omega), BA_ne (by omega)]
  exact h k hk
theorem WR_BA (hb : b = 8 ∨ b = 19) (h : WR b A lc lt) : WR b (BA A tick kept mr mf ar af lr lf nr nf) lc lt := WR_of hb (fun k hk => BA_ne (by omega)) h
theorem B_W0 (hb : b = 8 ∨ b = 19) : (BS b u v A τ tick kept mr mf ar af lr lf nr nf).1 b = some (.inr (6, [.ref (b + 1), .ref (b + 2), .ref (b + 3), .ref (b + 4), .ref (b + 5), .int (A b 0), .int (A b 1), .int (A b 2), .int (A b 3), .int (A b 4), .int (A b 5), .int (A b 6), .ref (b + 6), .ref (b + 7), .ref (b + 8), .ref (b + 9), .ref (b + 10)])) := by
  rw [← BA_ne (A := A) (k := b) (tick := tick) (kept := kept) (mr := mr) (mf := mf) (ar := ar) (af := af) (lr := lr) (lf := lf) (nr := nr) (nf := nf) (by omega)]
  exact G_W0 hb
theorem more_loop (hb : b = 8 ∨ b = 19) (hC : CW A b lc lt) (hW : WF lc lt) (hm : mr ≤ 8) (hw : ∀ i, i < 8 → A 59 i = ws i) (hs : s < 16) (hd : d < 8) (he : e < 8) : ∀ (n i : Nat) (l5 l6 : Option Value), i + n = 8 → ev 129 3 [some (.ref 0), some (.int (nI s)), some (.int (nI d)), some (.int (nI e)), some (.int (nI i)), l5, l6] [] (BS b u v A τ tick kept mr mf ar af lr lf nr nf) = some (some (.int (bI (mor (prt lc lt (wsC mr ws) (s * 8 + d) (s * 8 + e)) (prt lc lt (wsC mr ws) (s * 8 + e) (s * 8 + d)) i n))), (BS b u v A τ tick kept mr mf ar af lr lf nr nf))
  | 0, i, l5, l6, hi => by
    have : i = 8 := by omega
    subst this
    rw [e129_3]
    simp (disch := first | omega | assumption | exact Nat.le_of_ble_eq_true rfl) only [m129, e129_0, e129_1i, e129_1n, e129_1r, e129_5, e129_7, e129_10, e129_11, e129_14, e129_15, e129_16, e129_19, e129_20, e129_22, e129_25, e129_26, e129_29, e129_30, e129_33, e129_34, e129_35, e129_38, e129_39i, e129_39n, e129_39r, e129_41, e129_42, e129_45, e129_46, e129_47, e129_50, e129_51, e129_53, e129_56, e129_57, e129_60, e129_61, e129_64, e129_65, e129_66, e129_69, e129_70i, e129_70n, e129_70r, e129_72, e129_74, e129_76, e129_79, e129_81, e129_83, e129_86, e129_87, e129_90, e129_91b0, e129_91b1, e129_92i, e129_92n, e129_92r, e129_95, e129_98, e129_99b0, e129_99b1, Bool.false_eq_true, Bool.true_eq_false, gfK, pfK, lnK, isC, alK_n, asK_n, List.getElem?_cons_zero, List.getElem?_cons_succ, List.set_cons_zero, List.set_cons_succ, List.length_cons, List.length_nil, ↓reduceIte, if_true, if_false, eq_self, and_true, true_and, and_self, Option.bind_some, Option.bind_none, Option.toList_some, Option.toList_none, List.cons_append, List.nil_append, mset_at, mset_ne, mset_2, mset_mset, Nat.reduceLT, Nat.reduceAdd, le_8, Nat.le_refl, mor, bI_f]
  | n + 1, i, l5, l6, hi => by
    have h8 : ¬ 8 ≤ i := by omega
    have hwi := R_wishOf (b := b) (u := u) (v := v) (τ := τ) (tick := tick) (kept := kept) (mf := mf) (ar := ar) (af := af) (lr := lr) (lf := lf) (nr := nr) (nf := nf) hm hw (m := i) (by omega)
    have hs1 : evM 64 [.ref b, .int (nI s), .int (nI d)] (BS b u v A τ tick kept mr mf ar af lr lf nr nf) = some (some (.int (setI (lt (s * 8 + d)) (lc (s * 8 + d)))), (BS b u v A τ tick kept mr mf ar af lr lf nr nf)) := W_lotSet hb (CW_BA hb hC) hs hd
    have hs2 : evM 64 [.ref b, .int (nI s), .int (nI e)] (BS b u v A τ tick kept mr mf ar af lr lf nr nf) = some (some (.int (setI (lt (s * 8 + e)) (lc (s * 8 + e)))), (BS b u v A τ tick kept mr mf ar af lr lf nr nf)) := W_lotSet hb (CW_BA hb hC) hs he
    have hl1 : evM 62 [.ref b, .int (nI s), .int (nI d)] (BS b u v A τ tick kept mr mf ar af lr lf nr nf) = some (some (.int (nI (lc (s * 8 + d)))), (BS b u v A τ tick kept mr mf ar af lr lf nr nf)) := W_lotsIn hb (CW_BA hb hC) hs hd
    have hl2 : evM 62 [.ref b, .int (nI s), .int (nI e)] (BS b u v A τ tick kept mr mf ar af lr lf nr nf) = some (some (.int (nI (lc (s * 8 + e)))), (BS b u v A τ tick kept mr mf ar af lr lf nr nf)) := W_lotsIn hb (CW_BA hb hC) hs he
    have w1 := hW (s * 8 + d) (by omega)
    have w2 := hW (s * 8 + e) (by omega)
    have c1 := fun σ => R_bitCount (σ := σ) (x := setI (lt (s * 8 + d)) (lc (s * 8 + d)) &&& wsC mr ws i) (s16_and (setI_s16 w1.2))
    have c2 := fun σ => R_bitCount (σ := σ) (x := setI (lt (s * 8 + e)) (lc (s * 8 + e)) &&& wsC mr ws i) (s16_and (setI_s16 w2.2))
    have p1 : nI (cntF (bi (setI (lt (s * 8 + d)) (lc (s * 8 + d)) &&& wsC mr ws i)) 16) * nI (lc (s * 8 + e)) = nI (prt lc lt (wsC mr ws) (s * 8 + d) (s * 8 + e) i) := nI_mulN _ _
    have p2 : nI (cntF (bi (setI (lt (s * 8 + e)) (lc (s * 8 + e)) &&& wsC mr ws i)) 16) * nI (lc (s * 8 + d)) = nI (prt lc lt (wsC mr ws) (s * 8 + e) (s * 8 + d) i) := nI_mulN _ _
    have q1 := prt_le (lt := lt) (ws := wsC mr ws) (k := s * 8 + d) (m := i) w2.1
    have q2 := prt_le (lt := lt) (ws := wsC mr ws) (k := s * 8 + e) (m := i) w1.1
    rw [e129_3]
    by_cases h : prt lc lt (wsC mr ws) (s * 8 + d) (s * 8 + e) i = prt lc lt (wsC mr ws) (s * 8 + e) (s * 8 + d) i
    · have ih := more_loop hb hC hW hm hw hs hd he n (i + 1) (some (.int (nI (prt lc lt (wsC mr ws) (s * 8 + e) (s * 8 + d) i)))) (some (.int (nI (prt lc lt (wsC mr ws) (s * 8 + e) (s * 8 + d) i)))) (by omega)
      rw [mor, if_pos h]
      simp (disch := first | omega | assumption | exact Nat.le_of_ble_eq_true rfl) only [m129, e129_0, e129_1i, e129_1n, e129_1r, e129_5, e129_7, e129_10, e129_11, e129_14, e129_15, e129_16, e129_19, e129_20, e129_22, e129_25, e129_26, e129_29, e129_30, e129_33, e129_34, e129_35, e129_38, e129_39i, e129_39n, e129_39r, e129_41, e129_42, e129_45, e129_46, e129_47, e129_50, e129_51, e129_53, e129_56, e129_57, e129_60, e129_61, e129_64, e129_65, e129_66, e129_69, e129_70i, e129_70n, e129_70r, e129_72, e129_74, e129_76, e129_79, e129_81, e129_83, e129_86, e129_87, e129_90, e129_91b0, e129_91b1, e129_92i, e129_92n, e129_92r, e129_95, e129_98, e129_99b0, e129_99b1, Bool.false_eq_true, Bool.true_eq_false, gfK, pfK, lnK, isC, alK_n, asK_n, List.getElem?_cons_zero, List.getElem?_cons_succ, List.set_cons_zero, List.set_cons_succ, List.length_cons, List.length_nil, ↓reduceIte, if_true, if_false, eq_self, and_true, true_and, and_self, Option.bind_some, Option.bind_none, Option.toList_some, Option.toList_none, List.cons_append, List.nil_append, mset_at, mset_ne, mset_2, mset_mset, Nat.reduceLT, Nat.reduceAdd, le_8, h8, B_0, B_W0 hb, B_30, B_S30, mTR, aTR, lTR, nTR, hwi, hs1, hs2, hl1, hl2, c1, c2, p1, p2, h, nI_succ', ih]
    · have hne : ¬ nI (prt lc lt (wsC mr ws) (s * 8 + d) (s * 8 + e) i) = nI (prt lc lt (wsC mr ws) (s * 8 + e) (s * 8 + d) i) := fun g => h (nI_inj (by omega) (by omega) g)
      rw [mor, if_neg h]
      by_cases g : prt lc lt (wsC mr ws) (s * 8 + d) (s * 8 + e) i ≤ prt lc lt (wsC mr ws) (s * 8 + e) (s * 8 + d) i
      · rw [decide_eq_false (by omega)]
        simp (disch := first | omega | assumption | exact Nat.le_of_ble_eq_true rfl) only [m129, e129_0, e129_1i, e129_1n, e129_1r, e129_5, e129_7, e129_10, e129_11, e129_14, e129_15, e129_16, e129_19, e129_20, e129_22, e129_25, e129_26, e129_29, e129_30, e129_33, e129_34, e129_35, e129_38, e129_39i, e129_39n, e129_39r, e129_41, e129_42, e129_45, e129_46, e129_47, e129_50, e129_51, e129_53, e129_56, e129_57, e129_60, e129_61, e129_64, e129_65, e129_66, e129_69, e129_70i, e129_70n, e129_70r, e129_72, e129_74, e129_76, e129_79, e129_81, e129_83, e129_86, e129_87, e129_90, e129_91b0, e129_91b1, e129_92i, e129_92n, e129_92r, e129_95, e129_98, e129_99b0, e129_99b1, Bool.false_eq_true, Bool.true_eq_false, gfK, pfK, lnK, isC, alK_n, asK_n, List.getElem?_cons_zero, List.getElem?_cons_succ, List.set_cons_zero, List.set_cons_succ, List.length_cons, List.length_nil, ↓reduceIte, if_true, if_false, eq_self, and_true, true_and, and_self, Option.bind_some, Option.bind_none, Option.toList_some, Option.toList_none, List.cons_append, List.nil_append, mset_at, mset_ne, mset_2, mset_mset, Nat.reduceLT, Nat.reduceAdd, le_8, h8, B_0, B_W0 hb, B_30, B_S30, mTR, aTR, lTR, nTR, hwi, hs1, hs2, hl1, hl2, c1, c2, p1, p2, hne, nI_leI, g, bI_f]
      · rw [decide_eq_true (by omega)]
        simp (disch := first | omega | assumption | exact Nat.le_of_ble_eq_true rfl) only [m129, e129_0, e129_1i, e129_1n, e129_1r, e129_5, e129_7, e129_10, e129_11, e129_14, e129_15, e129_16, e129_19, e129_20, e129_22, e129_25, e129_26, e129_29, e129_30, e129_33, e129_34, e129_35, e129_38, e129_39i, e129_39n, e129_39r, e129_41, e129_42, e129_45, e129_46, e129_47, e129_50, e129_51, e129_53, e129_56, e129_57, e129_60, e129_61, e129_64, e129_65, e129_66, e129_69, e129_70i, e129_70n, e129_70r, e129_72, e129_74, e129_76, e129_79, e129_81, e129_83, e129_86, e129_87, e129_90, e129_91b0, e129_91b1, e129_92i, e129_92n, e129_92r, e129_95, e129_98, e129_99b0, e129_99b1, Bool.false_eq_true, Bool.true_eq_false, gfK, pfK, lnK, isC, alK_n, asK_n, List.getElem?_cons_zero, List.getElem?_cons_succ, List.set_cons_zero, List.set_cons_succ, List.length_cons, List.length_nil, ↓reduceIte, if_true, if_false, eq_self, and_true, true_and, and_self, Option.bind_some, Option.bind_none, Option.toList_some, Option.toList_none, List.cons_append, List.nil_append, mset_at, mset_ne, mset_2, mset_mset, Nat.reduceLT, Nat.reduceAdd, le_8, h8, B_0, B_W0 hb, B_30, B_S30, mTR, aTR, lTR, nTR, hwi, hs1, hs2, hl1, hl2, c1, c2, p1, p2, hne, nI_leI, g, bI_t]
theorem R_more (hb : b = 8 ∨ b = 19) (hC : CW A b lc lt) (hW : WF lc lt) (hm : mr ≤ 8) (hw : ∀ i, i < 8 → A 59 i = ws i) (hs : s < 16) (hd : d < 8) (he : e < 8) : evM 129 [.ref 0, .int (nI s), .int (nI d), .int (nI e)] (BS b u v A τ tick kept mr mf ar af lr lf nr nf) = some (some (.int (bI (mor (prt lc lt (wsC mr ws) (s * 8 + d) (s * 8 + e)) (prt lc lt (wsC mr ws) (s * 8 + e) (s * 8 + d)) 0 8))), (BS b u v A τ tick kept mr mf ar af lr lf nr nf)) := by
  have hmo := more_loop (b := b) (u := u) (v := v) (τ := τ) (tick := tick) (kept := kept) (mf := mf) (ar := ar) (af := af) (lr := lr) (lf := lf) (nr := nr) (nf := nf) (ws := ws) hb hC hW hm hw hs hd he 8 0 none none rfl
  rw [← lit_0] at hmo
  simp (disch := first | omega | assumption | exact Nat.le_of_ble_eq_true rfl) only [m129, e129_0, e129_1i, e129_1n, e129_1r, Bool.false_eq_true, Bool.true_eq_false, gfK, pfK, lnK, isC, alK_n, asK_n, List.getElem?_cons_zero, List.getElem?_cons_succ, List.set_cons_zero, List.set_cons_succ, List.length_cons, List.length_nil, ↓reduceIte, if_true, if_false, eq_self, and_true, true_and, and_self, Option.bind_some, Option.bind_none, Option.toList_some, Option.toList_none, List.cons_append, List.nil_append, mset_at, mset_ne, mset_2, mset_mset, Nat.reduceLT, Nat.reduceAdd, hmo]
theorem wished_loop (hb : b = 8 ∨ b = 19) (hR : WR b A lc lt) (hm : mr ≤ 8) (hw : ∀ i, i < 8 → A 59 i = ws i) (hs : s < 16) : ∀ (n d : Nat), d + n = 8 → ev 128 14 [some (.ref 0), some (.int (nI s)), some (.int (oI (wsO (letP lc lt (A b 6) s) (fun d e => mor (prt lc lt (wsC mr ws) (s * 8 + d) (s * 8 + e)) (prt lc lt (wsC mr ws) (s * 8 + e) (s * 8 + d)) 0 8) d))), some (.int (nI d))] [] (BS b u v A τ tick kept mr mf ar af lr lf nr nf) = some (some (.int (oI (wsO (letP lc lt (A b 6) s) (fun d e => mor (prt lc lt (wsC mr ws) (s * 8 + d) (s * 8 + e)) (prt lc lt (wsC mr ws) (s * 8 + e) (s * 8 + d)) 0 8) 8))), (BS b u v A τ tick kept mr mf ar af lr lf nr nf))
  | 0, d, hd => by
    have : d = 8 := by omega
    subst this
    rw [e128_14]
    simp (disch := first | omega | assumption | exact Nat.le_of_ble_eq_true rfl) only [m128, e128_0, e128_1, e128_4, e128_7, e128_8, e128_9, e128_11i, e128_11n, e128_11r, e128_12, e128_13i, e128_13n, e128_13r, e128_15, e128_17, e128_20, e128_21, e128_24, e128_25, e128_26, e128_29, e128_32, e128_33, e128_35, e128_38, e128_39, e128_40, e128_41, e128_42, e128_45, e128_48, e128_49i, e128_49n, e128_49r, e128_50i, e128_50n, e128_50r, e128_53, e128_56, e128_57, Bool.false_eq_true, Bool.true_eq_false, gfK, pfK, lnK, isC, alK_n, asK_n, List.getElem?_cons_zero, List.getElem?_cons_succ, List.set_cons_zero, List.set_cons_succ, List.length_cons, List.length_nil, ↓reduceIte, if_true, if_false, eq_self, and_true, true_and, and_self, Option.bind_some, Option.bind_none, Option.toList_some, Option.toList_none, List.cons_append, List.nil_append, mset_at, mset_ne, mset_2, mset_mset, Nat.reduceLT, Nat.reduceAdd, le_8, Nat.le_refl]
  | n + 1, d, hd => by
    have ih := wished_loop hb hR hm hw hs n (d + 1) (by omega)
    have h8 : ¬ 8 ≤ d := by omega
    have hd' : d < 8 := by omega
    have hl : evM 78 [.ref b, .int (nI s), .int (nI d)] (BS b u v A τ tick kept mr mf ar af lr lf nr nf) = some (some (.int (bI (letP lc lt (BA A tick kept mr mf ar af lr lf nr nf b 6) s d))), (BS b u v A τ tick kept mr mf ar af lr lf nr nf)) := W_isLet hb (WR_BA hb hR) hs hd'
    rw [BA_ne (by omega)] at hl
    rw [e128_14]
    by_cases h1 : letP lc lt (A b 6) s d = true
    · rw [h1, bI_t] at hl
      cases hn : wsO (letP lc lt (A b 6) s) (fun d e => mor (prt lc lt (wsC mr ws) (s * 8 + d) (s * 8 + e)) (prt lc lt (wsC mr ws) (s * 8 + e) (s * 8 + d)) 0 8) d with
      | none =>
        rw [show wsO (letP lc lt (A b 6) s) (fun d e => mor (prt lc lt (wsC mr ws) (s * 8 + d) (s * 8 + e)) (prt lc lt (wsC mr ws) (s * 8 + e) (s * 8 + d)) 0 8) (d + 1) = some d from by rw [wsO, hn]; exact if_pos h1, oI_s] at ih
        simp (disch := first | omega | assumption | exact Nat.le_of_ble_eq_true rfl) only [m128, e128_0, e128_1, e128_4, e128_7, e128_8, e128_9, e128_11i, e128_11n, e128_11r, e128_12, e128_13i, e128_13n, e128_13r, e128_15, e128_17, e128_20, e128_21, e128_24, e128_25, e128_26, e128_29, e128_32, e128_33, e128_35, e128_38, e128_39, e128_40, e128_41, e128_42, e128_45, e128_48, e128_49i, e128_49n, e128_49r, e128_50i, e128_50n, e128_50r, e128_53, e128_56, e128_57, Bool.false_eq_true, Bool.true_eq_false, gfK, pfK, lnK, isC, alK_n, asK_n, List.getElem?_cons_zero, List.getElem?_cons_succ, List.set_cons_zero, List.set_cons_succ, List.length_cons, List.length_nil, ↓reduceIte, if_true, if_false, eq_self, and_true, true_and, and_self, Option.bind_some, Option.bind_none, Option.toList_some, Option.toList_none, List.cons_append, List.nil_append, mset_at, mset_ne, mset_2, mset_mset, Nat.reduceLT, Nat.reduceAdd, le_8, h8, B_0, B_W0 hb, hl, nz1, oI_n, nI_succ', ih]
      | some m =>
        have hmd := wsO_lt hn
        have hm9 := nI_m9 (n := m) (by omega)
        have hmo' := R_more (b := b) (u := u) (v := v) (τ := τ) (tick := tick) (kept := kept) (mf := mf) (ar := ar) (af := af) (lr := lr) (lf := lf) (nr := nr) (nf := nf) (ws := ws) hb hR.2.1 hR.1 hm hw hs hd' (e := m) (by omega)
        by_cases h2 : mor (prt lc lt (wsC mr ws) (s * 8 + d) (s * 8 + m)) (prt lc lt (wsC mr ws) (s * 8 + m) (s * 8 + d)) 0 8 = true
        · rw [show wsO (letP lc lt (A b 6) s) (fun d e => mor (prt lc lt (wsC mr ws) (s * 8 + d) (s * 8 + e)) (prt lc lt (wsC mr ws) (s * 8 + e) (s * 8 + d)) 0 8) (d + 1) = some d from by rw [wsO, hn]; exact if_pos ⟨h1, h2⟩, oI_s] at ih
          simp (disch := first | omega | assumption | exact Nat.le_of_ble_eq_true rfl) only [m128, e128_0, e128_1, e128_4, e128_7, e128_8, e128_9, e128_11i, e128_11n, e128_11r, e128_12, e128_13i, e128_13n, e128_13r, e128_15, e128_17, e128_20, e128_21, e128_24, e128_25, e128_26, e128_29, e128_32, e128_33, e128_35, e128_38, e128_39, e128_40, e128_41, e128_42, e128_45, e128_48, e128_49i, e128_49n, e128_49r, e128_50i, e128_50n, e128_50r, e128_53, e128_56, e128_57, Bool.false_eq_true, Bool.true_eq_false, gfK, pfK, lnK, isC, alK_n, asK_n, List.getElem?_cons_zero, List.getElem?_cons_succ, List.set_cons_zero, List.set_cons_succ, List.length_cons, List.length_nil, ↓reduceIte, if_true, if_false, eq_self, and_true, true_and, and_self, Option.bind_some, Option.bind_none, Option.toList_some, Option.toList_none, List.cons_append, List.nil_append, mset_at, mset_ne, mset_2, mset_mset, Nat.reduceLT, Nat.reduceAdd, le_8, h8, B_0, B_W0 hb, hl, nz1, oI_s, hm9, hmo', h2, bI_t, nI_succ', ih]
        · rw [show wsO (letP lc lt (A b 6) s) (fun d e => mor (prt lc lt (wsC mr ws) (s * 8 + d) (s * 8 + e)) (prt lc lt (wsC mr ws) (s * 8 + e) (s * 8 + d)) 0 8) (d + 1) = some m from by rw [wsO, hn]; exact if_neg (fun g => h2 g.2), oI_s] at ih
          simp (disch := first | omega | assumption | exact Nat.le_of_ble_eq_true rfl) only [m128, e128_0, e128_1, e128_4, e128_7, e128_8, e128_9, e128_11i, e128_11n, e128_11r, e128_12, e128_13i, e128_13n, e128_13r, e128_15, e128_17, e128_20, e128_21, e128_24, e128_25, e128_26, e128_29, e128_32, e128_33, e128_35, e128_38, e128_39, e128_40, e128_41, e128_42, e128_45, e128_48, e128_49i, e128_49n, e128_49r, e128_50i, e128_50n, e128_50r, e128_53, e128_56, e128_57, Bool.false_eq_true, Bool.true_eq_false, gfK, pfK, lnK, isC, alK_n, asK_n, List.getElem?_cons_zero, List.getElem?_cons_succ, List.set_cons_zero, List.set_cons_succ, List.length_cons, List.length_nil, ↓reduceIte, if_true, if_false, eq_self, and_true, true_and, and_self, Option.bind_some, Option.bind_none, Option.toList_some, Option.toList_none, List.cons_append, List.nil_append, mset_at, mset_ne, mset_2, mset_mset, Nat.reduceLT, Nat.reduceAdd, le_8, h8, B_0, B_W0 hb, hl, nz1, oI_s, hm9, hmo', Bool.eq_false_iff.2 h2, bI_f, nI_succ', ih]
    · have h1' := Bool.eq_false_iff.2 h1
      rw [h1', bI_f] at hl
      have e : wsO (letP lc lt (A b 6) s) (fun d e => mor (prt lc lt (wsC mr ws) (s * 8 + d) (s * 8 + e)) (prt lc lt (wsC mr ws) (s * 8 + e) (s * 8 + d)) 0 8) (d + 1) = wsO (letP lc lt (A b 6) s) (fun d e => mor (prt lc lt (wsC mr ws) (s * 8 + d) (s * 8 + e)) (prt lc lt (wsC mr ws) (s * 8 + e) (s * 8 + d)) 0 8) d := by
        rw [wsO]
        cases hn : wsO (letP lc lt (A b 6) s) (fun d e => mor (prt lc lt (wsC mr ws) (s * 8 + d) (s * 8 + e)) (prt lc lt (wsC mr ws) (s * 8 + e) (s * 8 + d)) 0 8) d with
        | none => exact if_neg h1
        | some m => exact if_neg (fun g => h1 g.1)
      rw [e] at ih
      simp (disch := first | omega | assumption | exact Nat.le_of_ble_eq_true rfl) only [m128, e128_0, e128_1, e128_4, e128_7, e128_8, e128_9, e128_11i, e128_11n, e128_11r, e128_12, e128_13i, e128_13n, e128_13r, e128_15, e128_17, e128_20, e128_21, e128_24, e128_25, e128_26, e128_29, e128_32, e128_33, e128_35, e128_38, e128_39, e128_40, e128_41, e128_42, e128_45, e128_48, e128_49i, e128_49n, e128_49r, e128_50i, e128_50n, e128_50r, e128_53, e128_56, e128_57, Bool.false_eq_true, Bool.true_eq_false, gfK, pfK, lnK, isC, alK_n, asK_n, List.getElem?_cons_zero, List.getElem?_cons_succ, List.set_cons_zero, List.set_cons_succ, List.length_cons, List.length_nil, ↓reduceIte, if_true, if_false, eq_self, and_true, true_and, and_self, Option.bind_some, Option.bind_none, Option.toList_some, Option.toList_none, List.cons_append, List.nil_append, mset_at, mset_ne, mset_2, mset_mset, Nat.reduceLT, Nat.reduceAdd, le_8, h8, B_0, B_W0 hb, hl, nI_succ', ih]
theorem mmore_loop (hC : MW A lc lt) (hW : WF lc lt) (hm : mr ≤ 8) (s0 : st 0 = nI mr) (hw : ∀ i, i < 8 → A 69 i = ws i) (hs : s < 16) (hd : d < 8) (he : e < 8) : ∀ (n i : Nat) (l5 l6 : Option Value), i + n = mr → ev 209 3 [some (.ref 60), some (.int (nI s)), some (.int (nI d)), some (.int (nI e)), some (.int (nI i)), l5, l6] [] (MS b u v A τ st) = some (some (.int (bI (mor (prt lc lt ws (s * 8 + d) (s * 8 + e)) (prt lc lt ws (s * 8 + e) (s * 8 + d)) i n))), (MS b u v A τ st))
  | 0, i, l5, l6, hi => by
    have : i = mr := by omega
    subst this
    rw [e209_3]
    simp (disch := first | omega | assumption | exact Nat.le_of_ble_eq_true rfl) only [m209, e209_0, e209_1i, e209_1n, e209_1r, e209_5, e209_6, e209_9, e209_10, e209_11, e209_14, e209_15, e209_16, e209_17, e209_20, e209_21, e209_24, e209_26, e209_27, e209_28, e209_31, e209_32, e209_33, e209_34, e209_37, e209_38i, e209_38n, e209_38r, e209_40, e209_41, e209_42, e209_43, e209_46, e209_47, e209_50, e209_52, e209_53, e209_54, e209_57, e209_58, e209_59, e209_60, e209_63, e209_64i, e209_64n, e209_64r, e209_66, e209_68, e209_70, e209_73, e209_75, e209_77, e209_80, e209_81, e209_84, e209_85b0, e209_85b1, e209_86i, e209_86n, e209_86r, e209_89, e209_92, e209_93b0, e209_93b1, Bool.false_eq_true, Bool.true_eq_false, gfK, pfK, lnK, isC, alK_n, asK_n, List.getElem?_cons_zero, List.getElem?_cons_succ, List.set_cons_zero, List.set_cons_succ, List.length_cons, List.length_nil, ↓reduceIte, if_true, if_false, eq_self, and_true, true_and, and_self, Option.bind_some, Option.bind_none, Option.toList_some, Option.toList_none, List.cons_append, List.nil_append, mset_at, mset_ne, mset_2, mset_mset, Nat.reduceLT, Nat.reduceAdd, M_60, M_70, alK_l0, s0, nI_leI, Nat.le_refl, mor, bI_f]
  | n + 1, i, l5, l6, hi => by
    have h8 : ¬ mr ≤ i := by omega
    have hwi := hw i (by omega)
    have hs1 : evM 142 [.ref 60, .int (nI s), .int (nI d)] (MS b u v A τ st) = some (some (.int (setI (lt (s * 8 + d)) (lc (s * 8 + d)))), (MS b u v A τ st)) := V_lotSet (MW_up (by omega) hC) hW hs hd
    have hs2 : evM 142 [.ref 60, .int (nI s), .int (nI e)] (MS b u v A τ st) = some (some (.int (setI (lt (s * 8 + e)) (lc (s * 8 + e)))), (MS b u v A τ st)) := V_lotSet (MW_up (by omega) hC) hW hs he
    have hl1 : evM 140 [.ref 60, .int (nI s), .int (nI d)] (MS b u v A τ st) = some (some (.int (nI (lc (s * 8 + d)))), (MS b u v A τ st)) := V_lots (MW_up (by omega) hC) hs hd
    have hl2 : evM 140 [.ref 60, .int (nI s), .int (nI e)] (MS b u v A τ st) = some (some (.int (nI (lc (s * 8 + e)))), (MS b u v A τ st)) := V_lots (MW_up (by omega) hC) hs he
    have w1 := hW (s * 8 + d) (by omega)
    have w2 := hW (s * 8 + e) (by omega)
    have c1 := fun σ => V_ones (σ := σ) (x := setI (lt (s * 8 + d)) (lc (s * 8 + d)) &&& ws i) (s16_and (setI_s16 w1.2))
    have c2 := fun σ => V_ones (σ := σ) (x := setI (lt (s * 8 + e)) (lc (s * 8 + e)) &&& ws i) (s16_and (setI_s16 w2.2))
    have p1 : nI (cntF (bi (setI (lt (s * 8 + d)) (lc (s * 8 + d)) &&& ws i)) 16) * nI (lc (s * 8 + e)) = nI (prt lc lt ws (s * 8 + d) (s * 8 + e) i) := nI_mulN _ _
    have p2 : nI (cntF (bi (setI (lt (s * 8 + e)) (lc (s * 8 + e)) &&& ws i)) 16) * nI (lc (s * 8 + d)) = nI (prt lc lt ws (s * 8 + e) (s * 8 + d) i) := nI_mulN _ _
    have q1 := prt_le (lt := lt) (ws := ws) (k := s * 8 + d) (m := i) w2.1
    have q2 := prt_le (lt := lt) (ws := ws) (k := s * 8 + e) (m := i) w1.1
    rw [e209_3]
    by_cases h : prt lc lt ws (s * 8 + d) (s * 8 + e) i = prt lc lt ws (s * 8 + e) (s * 8 + d) i
    · have ih := mmore_loop hC hW hm s0 hw hs hd he n (i + 1) (some (.int (nI (prt lc lt ws (s * 8 + e) (s * 8 + d) i)))) (some (.int (nI (prt lc lt ws (s * 8 + e) (s * 8 + d) i)))) (by omega)
      rw [mor, if_pos h]
      simp (disch := first | omega | assumption | exact Nat.le_of_ble_eq_true rfl) only [m209, e209_0, e209_1i, e209_1n, e209_1r, e209_5, e209_6, e209_9, e209_10, e209_11, e209_14, e209_15, e209_16, e209_17, e209_20, e209_21, e209_24, e209_26, e209_27, e209_28, e209_31, e209_32, e209_33, e209_34, e209_37, e209_38i, e209_38n, e209_38r, e209_40, e209_41, e209_42, e209_43, e209_46, e209_47, e209_50, e209_52, e209_53, e209_54, e209_57, e209_58, e209_59, e209_60, e209_63, e209_64i, e209_64n, e209_64r, e209_66, e209_68, e209_70, e209_73, e209_75, e209_77, e209_80, e209_81, e209_84, e209_85b0, e209_85b1, e209_86i, e209_86n, e209_86r, e209_89, e209_92, e209_93b0, e209_93b1, Bool.false_eq_true, Bool.true_eq_false, gfK, pfK, lnK, isC, alK_n, asK_n, List.getElem?_cons_zero, List.getElem?_cons_succ, List.set_cons_zero, List.set_cons_succ, List.length_cons, List.length_nil, ↓reduceIte, if_true, if_false, eq_self, and_true, true_and, and_self, Option.bind_some, Option.bind_none, Option.toList_some, Option.toList_none, List.cons_append, List.nil_append, mset_at, mset_ne, mset_2, mset_mset, Nat.reduceLT, Nat.reduceAdd, M_60, M_69, M_70, alK_l0, s0, nI_leI, h8, hwi, hs1, hs2, hl1, hl2, c1, c2, p1, p2, h, nI_succ', ih]
    · have hne : ¬ nI (prt lc lt ws (s * 8 + d) (s * 8 + e) i) = nI (prt lc lt ws (s * 8 + e) (s * 8 + d) i) := fun g => h (nI_inj (by omega) (by omega) g)
      rw [mor, if_neg h]
      by_cases g : prt lc lt ws (s * 8 + d) (s * 8 + e) i ≤ prt lc lt ws (s * 8 + e) (s * 8 + d) i
      · rw [decide_eq_false (by omega)]
        simp (disch := first | omega | assumption | exact Nat.le_of_ble_eq_true rfl) only [m209, e209_0, e209_1i, e209_1n, e209_1r, e209_5, e209_6, e209_9, e209_10, e209_11, e209_14, e209_15, e209_16, e209_17, e209_20, e209_21, e209_24, e209_26, e209_27, e209_28, e209_31, e209_32, e209_33, e209_34, e209_37, e209_38i, e209_38n, e209_38r, e209_40, e209_41, e209_42, e209_43, e209_46, e209_47, e209_50, e209_52, e209_53, e209_54, e209_57, e209_58, e209_59, e209_60, e209_63, e209_64i, e209_64n, e209_64r, e209_66, e209_68, e209_70, e209_73, e209_75, e209_77, e209_80, e209_81, e209_84, e209_85b0, e209_85b1, e209_86i, e209_86n, e209_86r, e209_89, e209_92, e209_93b0, e209_93b1, Bool.false_eq_true, Bool.true_eq_false, gfK, pfK, lnK, isC, alK_n, asK_n, List.getElem?_cons_zero, List.getElem?_cons_succ, List.set_cons_zero, List.set_cons_succ, List.length_cons, List.length_nil, ↓reduceIte, if_true, if_false, eq_self, and_true, true_and, and_self, Option.bind_some, Option.bind_none, Option.toList_some, Option.toList_none, List.cons_append, List.nil_append, mset_at, mset_ne, mset_2, mset_mset, Nat.reduceLT, Nat.reduceAdd, M_60, M_69, M_70, alK_l0, s0, nI_leI, h8, hwi, hs1, hs2, hl1, hl2, c1, c2, p1, p2, hne, g, bI_f]
      · rw [decide_eq_true (by omega)]
        simp (disch := first | omega | assumption | exact Nat.le_of_ble_eq_true rfl) only [m209, e209_0, e209_1i, e209_1n, e209_1r, e209_5, e209_6, e209_9, e209_10, e209_11, e209_14, e209_15, e209_16, e209_17, e209_20, e209_21, e209_24, e209_26, e209_27, e209_28, e209_31, e209_32, e209_33, e209_34, e209_37, e209_38i, e209_38n, e209_38r, e209_40, e209_41, e209_42, e209_43, e209_46, e209_47, e209_50, e209_52, e209_53, e209_54, e209_57, e209_58, e209_59, e209_60, e209_63, e209_64i, e209_64n, e209_64r, e209_66, e209_68, e209_70, e209_73, e209_75, e209_77, e209_80, e209_81, e209_84, e209_85b0, e209_85b1, e209_86i, e209_86n, e209_86r, e209_89, e209_92, e209_93b0, e209_93b1, Bool.false_eq_true, Bool.true_eq_false, gfK, pfK, lnK, isC, alK_n, asK_n, List.getElem?_cons_zero, List.getElem?_cons_succ, List.set_cons_zero, List.set_cons_succ, List.length_cons, List.length_nil, ↓reduceIte, if_true, if_false, eq_self, and_true, true_and, and_self, Option.bind_some, Option.bind_none, Option.toList_some, Option.toList_none, List.cons_append, List.nil_append, mset_at, mset_ne, mset_2, mset_mset, Nat.reduceLT, Nat.reduceAdd, M_60, M_69, M_70, alK_l0, s0, nI_leI, h8, hwi, hs1, hs2, hl1, hl2, c1, c2, p1, p2, hne, g, bI_t]
theorem V_more (hC : MW A lc lt) (hW : WF lc lt) (hm : mr ≤ 8) (s0 : st 0 = nI mr) (hw : ∀ i, i < 8 → A 69 i = ws i) (hs : s < 16) (hd : d < 8) (he : e < 8) : evM 209 [.ref 60, .int (nI s), .int (nI d), .int (nI e)] (MS b u v A τ st) = some (some (.int (bI (mor (prt lc lt ws (s * 8 + d) (s * 8 + e)) (prt lc lt ws (s * 8 + e) (s * 8 + d)) 0 mr))), (MS b u v A τ st)) := by
  have hmo := mmore_loop (b := b) (u := u) (v := v) (τ := τ) hC hW hm s0 hw hs hd he mr 0 none none (by omega)
  rw [← lit_0] at hmo
  simp (disch := first | omega | assumption | exact Nat.le_of_ble_eq_true rfl) only [m209, e209_0, e209_1i, e209_1n, e209_1r, Bool.false_eq_true, Bool.true_eq_false, gfK, pfK, lnK, isC, alK_n, asK_n, List.getElem?_cons_zero, List.getElem?_cons_succ, List.set_cons_zero, List.set_cons_succ, List.length_cons, List.length_nil, ↓reduceIte, if_true, if_false, eq_self, and_true, true_and, and_self, Option.bind_some, Option.bind_none, Option.toList_some, Option.toList_none, List.cons_append, List.nil_append, mset_at, mset_ne, mset_2, mset_mset, Nat.reduceLT, Nat.reduceAdd, hmo]
theorem mwished_loop (hC : MW A lc lt) (hW : WF lc lt) (hm : mr ≤ 8) (s0 : st 0 = nI mr) (hw : ∀ i, i < 8 → A 69 i = ws i) (hs : s < 16) : ∀ (n d : Nat), d + n = 8 → ev 208 19 [some (.ref 60), some (.int (nI s)), some (.int (oI (wsO (letP lc lt (A 60 15) s) (fun d e => mor (prt lc lt ws (s * 8 + d) (s * 8 + e)) (prt lc lt ws (s * 8 + e) (s * 8 + d)) 0 mr) d))), some (.int (nI d))] [] (MS b u v A τ st) = some (some (.int (oI (wsO (letP lc lt (A 60 15) s) (fun d e => mor (prt lc lt ws (s * 8 + d) (s * 8 + e)) (prt lc lt ws (s * 8 + e) (s * 8 + d)) 0 mr) 8))), (MS b u v A τ st))
  | 0, d, hd => by
    have : d = 8 := by omega
    subst this
    rw [e208_19]
    simp (disch := first | omega | assumption | exact Nat.le_of_ble_eq_true rfl) only [m208, e208_20, e208_22, e208_25, e208_26, e208_27, e208_28, e208_31, e208_34, e208_35, e208_37, e208_40, e208_41, e208_42, e208_43, e208_44, e208_47, e208_50, e208_51, e208_54, e208_55i, e208_55n, e208_55r, e208_56i, e208_56n, e208_56r, e208_59, e208_62, e208_63, Bool.false_eq_true, Bool.true_eq_false, gfK, pfK, lnK, isC, alK_n, asK_n, List.getElem?_cons_zero, List.getElem?_cons_succ, List.set_cons_zero, List.set_cons_succ, List.length_cons, List.length_nil, ↓reduceIte, if_true, if_false, eq_self, and_true, true_and, and_self, Option.bind_some, Option.bind_none, Option.toList_some, Option.toList_none, List.cons_append, List.nil_append, mset_at, mset_ne, mset_2, mset_mset, Nat.reduceLT, Nat.reduceAdd, le_8, Nat.le_refl]
  | n + 1, d, hd => by
    have ih := mwished_loop hC hW hm s0 hw hs n (d + 1) (by omega)
    have h8 : ¬ 8 ≤ d := by omega
    have hd' : d < 8 := by omega
    have hl : evM 165 [.ref 60, .int (nI s), .int (nI d)] (MS b u v A τ st) = some (some (.int (bI (letP lc lt (up A 70 st 60 15) s d))), (MS b u v A τ st)) := V_isLet (MW_up (by omega) hC) hW hs hd'
    rw [up_ne (by omega)] at hl
    rw [e208_19]
    by_cases h1 : letP lc lt (A 60 15) s d = true
    · rw [h1, bI_t] at hl
      cases hn : wsO (letP lc lt (A 60 15) s) (fun d e => mor (prt lc lt ws (s * 8 + d) (s * 8 + e)) (prt lc lt ws (s * 8 + e) (s * 8 + d)) 0 mr) d with
      | none =>
        rw [show wsO (letP lc lt (A 60 15) s) (fun d e => mor (prt lc lt ws (s * 8 + d) (s * 8 + e)) (prt lc lt ws (s * 8 + e) (s * 8 + d)) 0 mr) (d + 1) = some d from by rw [wsO, hn]; exact if_pos h1, oI_s] at ih
        simp (disch := first | omega | assumption | exact Nat.le_of_ble_eq_true rfl) only [m208, e208_20, e208_22, e208_25, e208_26, e208_27, e208_28, e208_31, e208_34, e208_35, e208_37, e208_40, e208_41, e208_42, e208_43, e208_44, e208_47, e208_50, e208_51, e208_54, e208_55i, e208_55n, e208_55r, e208_56i, e208_56n, e208_56r, e208_59, e208_62, e208_63, Bool.false_eq_true, Bool.true_eq_false, gfK, pfK, lnK, isC, alK_n, asK_n, List.getElem?_cons_zero, List.getElem?_cons_succ, List.set_cons_zero, List.set_cons_succ, List.length_cons, List.length_nil, ↓reduceIte, if_true, if_false, eq_self, and_true, true_and, and_self, Option.bind_some, Option.bind_none, Option.toList_some, Option.toList_none, List.cons_append, List.nil_append, mset_at, mset_ne, mset_2, mset_mset, Nat.reduceLT, Nat.reduceAdd, le_8, h8, M_60, hl, nz1, oI_n, nI_succ', ih]
      | some m =>
        have hmd := wsO_lt hn
        have hm9 := nI_m9 (n := m) (by omega)
        have hmo' := V_more (b := b) (u := u) (v := v) (τ := τ) (ws := ws) (st := st) hC hW hm s0 hw hs hd' (e := m) (by omega)
        by_cases h2 : mor (prt lc lt ws (s * 8 + d) (s * 8 + m)) (prt lc lt ws (s * 8 + m) (s * 8 + d)) 0 mr = true
        · rw [show wsO (letP lc lt (A 60 15) s) (fun d e => mor (prt lc lt ws (s * 8 + d) (s * 8 + e)) (prt lc lt ws (s * 8 + e) (s * 8 + d)) 0 mr) (d + 1) = some d from by rw [wsO, hn]; exact if_pos ⟨h1, h2⟩, oI_s] at ih
          simp (disch := first | omega | assumption | exact Nat.le_of_ble_eq_true rfl) only [m208, e208_20, e208_22, e208_25, e208_26, e208_27, e208_28, e208_31, e208_34, e208_35, e208_37, e208_40, e208_41, e208_42, e208_43, e208_44, e208_47, e208_50, e208_51, e208_54, e208_55i, e208_55n, e208_55r, e208_56i, e208_56n, e208_56r, e208_59, e208_62, e208_63, Bool.false_eq_true, Bool.true_eq_false, gfK, pfK, lnK, isC, alK_n, asK_n, List.getElem?_cons_zero, List.getElem?_cons_succ, List.set_cons_zero, List.set_cons_succ, List.length_cons, List.length_nil, ↓reduceIte, if_true, if_false, eq_self, and_true, true_and, and_self, Option.bind_some, Option.bind_none, Option.toList_some, Option.toList_none, List.cons_append, List.nil_append, mset_at, mset_ne, mset_2, mset_mset, Nat.reduceLT, Nat.reduceAdd, le_8, h8, M_60, hl, nz1, oI_s, hm9, hmo', h2, bI_t, nI_succ', ih]
        · rw [show wsO (letP lc lt (A 60 15) s) (fun d e => mor (prt lc lt ws (s * 8 + d) (s * 8 + e)) (prt lc lt ws (s * 8 + e) (s * 8 + d)) 0 mr) (d + 1) = some m from by rw [wsO, hn]; exact if_neg (fun g => h2 g.2), oI_s] at ih
          simp (disch := first | omega | assumption | exact Nat.le_of_ble_eq_true rfl) only [m208, e208_20, e208_22, e208_25, e208_26, e208_27, e208_28, e208_31, e208_34, e208_35, e208_37, e208_40, e208_41, e208_42, e208_43, e208_44, e208_47, e208_50, e208_51, e208_54, e208_55i, e208_55n, e208_55r, e208_56i, e208_56n, e208_56r, e208_59, e208_62, e208_63, Bool.false_eq_true, Bool.true_eq_false, gfK, pfK, lnK, isC, alK_n, asK_n, List.getElem?_cons_zero, List.getElem?_cons_succ, List.set_cons_zero, List.set_cons_succ, List.length_cons, List.length_nil, ↓reduceIte, if_true, if_false, eq_self, and_true, true_and, and_self, Option.bind_some, Option.bind_none, Option.toList_some, Option.toList_none, List.cons_append, List.nil_append, mset_at, mset_ne, mset_2, mset_mset, Nat.reduceLT, Nat.reduceAdd, le_8, h8, M_60, hl, nz1, oI_s, hm9, hmo', Bool.eq_false_iff.2 h2, bI_f, nI_succ', ih]
    · have h1' := Bool.eq_false_iff.2 h1
      rw [h1', bI_f] at hl
      have e : wsO (letP lc lt (A 60 15) s) (fun d e => mor (prt lc lt ws (s * 8 + d) (s * 8 + e)) (prt lc lt ws (s * 8 + e) (s * 8 + d)) 0 mr) (d + 1) = wsO (letP lc lt (A 60 15) s) (fun d e => mor (prt lc lt ws (s * 8 + d) (s * 8 + e)) (prt lc lt ws (s * 8 + e) (s * 8 + d)) 0 mr) d := by
        rw [wsO]
        cases hn : wsO (letP lc lt (A 60 15) s) (fun d e => mor (prt lc lt ws (s * 8 + d) (s * 8 + e)) (prt lc lt ws (s * 8 + e) (s * 8 + d)) 0 mr) d with
        | none => exact if_neg h1
        | some m => exact if_neg (fun g => h1 g.1)
      rw [e] at ih
      simp (disch := first | omega | assumption | exact Nat.le_of_ble_eq_true rfl) only [m208, e208_20, e208_22, e208_25, e208_26, e208_27, e208_28, e208_31, e208_34, e208_35, e208_37, e208_40, e208_41, e208_42, e208_43, e208_44, e208_47, e208_50, e208_51, e208_54, e208_55i, e208_55n, e208_55r, e208_56i, e208_56n, e208_56r, e208_59, e208_62, e208_63, Bool.false_eq_true, Bool.true_eq_false, gfK, pfK, lnK, isC, alK_n, asK_n, List.getElem?_cons_zero, List.getElem?_cons_succ, List.set_cons_zero, List.set_cons_succ, List.length_cons, List.length_nil, ↓reduceIte, if_true, if_false, eq_self, and_true, true_and, and_self, Option.bind_some, Option.bind_none, Option.toList_some, Option.toList_none, List.cons_append, List.nil_append, mset_at, mset_ne, mset_2, mset_mset, Nat.reduceLT, Nat.reduceAdd, le_8, h8, M_60, hl, nI_succ', ih]
theorem more_eq (hm : mr ≤ 8) : mor (prt lc lt (wsC mr ws) (s * 8 + d) (s * 8 + e)) (prt lc lt (wsC mr ws) (s * 8 + e) (s * 8 + d)) 0 8 = mor (prt lc lt ws (s * 8 + d) (s * 8 + e)) (prt lc lt ws (s * 8 + e) (s * 8 + d)) 0 mr := by
  have h0 : ∀ k e j, mr ≤ j → prt lc lt (wsC mr ws) k e j = 0 := fun k e j hj => by
    have : cntF (bi (setI (lt k) (lc k) &&& wsC mr ws j)) 16 = 0 := cntF_0 16 fun i hi => by
      unfold wsC
      rw [if_neg (by omega), bi_and, bi_0, Bool.and_false]
    unfold prt
    rw [this, Nat.zero_mul]
  rw [mor_skip (k := mr) 8 0 (fun j h1 h2 h3 => by rw [h0 _ _ j h3, h0 _ _ j h3]) (by omega) (by omega), Nat.sub_zero]
  refine mor_congr mr 0 fun j h1 h2 => ?_
  unfold prt wsC
  rw [if_pos (by omega)]
  exact ⟨rfl, rfl⟩
theorem c_wished (hJ : JB tick mr mf ar af lr lf nr nf st) (hb : b = 8 ∨ b = 19) (x : Int32) : ∀ (lc : Nat → Nat) (lt : Nat → Nat → Nat) (ws : Nat → Int32) (sf : Int32), ∃ r, (∀ u v A τ, WR b A lc lt → A b 6 = sf → (∀ i, i < 8 → A 59 i = ws i) → evM 128 [.ref 0, .int x] (BS b u v A τ tick kept mr mf ar af lr lf nr nf) = some (some (.int r), (BS b u v A τ tick kept mr mf ar af lr lf nr nf))) ∧ (∀ u v A τ, A 60 0 = 0 → WR b A lc lt → A b 6 = sf → (∀ i, i < 8 → A 69 i = ws i) → evM 208 [.ref 60, .int x] (MS b u v A τ st) = some (some (.int r), (MS b u v A τ st))) := by
  intro lc lt ws sf
  obtain ⟨⟨c1, c2, c3, c4, c5, s0, s1, s2, s3, s4⟩, jm, ja, jl, jn⟩ := id hJ
  rcases idx x (n := 16) (by omega) with hx | ⟨s, hs, rfl⟩
  · refine ⟨-1, fun u v A τ _ _ _ => ?_, fun u v A τ h0 _ _ _ => ?_⟩
    · simp (disch := first | omega | assumption | exact Nat.le_of_ble_eq_true rfl) only [m128, e128_0, e128_1, e128_4, e128_7, e128_8, Bool.false_eq_true, Bool.true_eq_false, gfK, pfK, lnK, isC, alK_n, asK_n, List.getElem?_cons_zero, List.getElem?_cons_succ, List.set_cons_zero, List.set_cons_succ, List.length_cons, List.length_nil, ↓reduceIte, if_true, if_false, eq_self, and_true, true_and, and_self, Option.bind_some, Option.bind_none, Option.toList_some, Option.toList_none, List.cons_append, List.nil_append, mset_at, mset_ne, mset_2, mset_mset, Nat.reduceLT, Nat.reduceAdd, R_isStateN hx]
    · simp (disch := first | omega | assumption | exact Nat.le_of_ble_eq_true rfl) only [m208, e208_0, e208_1, e208_2, e208_5, e208_6, e208_9, e208_12, e208_13, Bool.false_eq_true, Bool.true_eq_false, gfK, pfK, lnK, isC, alK_n, asK_n, List.getElem?_cons_zero, List.getElem?_cons_succ, List.set_cons_zero, List.set_cons_succ, List.length_cons, List.length_nil, ↓reduceIte, if_true, if_false, eq_self, and_true, true_and, and_self, Option.bind_some, Option.bind_none, Option.toList_some, Option.toList_none, List.cons_append, List.nil_append, mset_at, mset_ne, mset_2, mset_mset, Nat.reduceLT, Nat.reduceAdd, M_60, M_thr h0, M_isStateN hx]
  · refine ⟨oI (wsO (letP lc lt sf s) (fun d e => mor (prt lc lt ws (s * 8 + d) (s * 8 + e)) (prt lc lt ws (s * 8 + e) (s * 8 + d)) 0 mr) 8), fun u v A τ hR hsf hw => ?_, fun u v A τ h0 hR hsf hw => ?_⟩
    · have h := wished_loop (b := b) (u := u) (v := v) (τ := τ) (tick := tick) (kept := kept) (mf := mf) (ar := ar) (af := af) (lr := lr) (lf := lf) (nr := nr) (nf := nf) (ws := ws) hb hR c2 hw hs 8 0 rfl
      rw [hsf, wsO_congr (M' := fun d e => mor (prt lc lt ws (s * 8 + d) (s * 8 + e)) (prt lc lt ws (s * 8 + e) (s * 8 + d)) 0 mr) (n := 8) (fun i j _ _ => more_eq c2), show ∀ M, wsO (letP lc lt sf s) M 0 = none from fun _ => rfl, oI_n, ← lit_0] at h
      simp (disch := first | omega | assumption | exact Nat.le_of_ble_eq_true rfl) only [m128, e128_0, e128_1, e128_4, e128_7, e128_8, e128_9, e128_11i, e128_11n, e128_11r, e128_12, e128_13i, e128_13n, e128_13r, Bool.false_eq_true, Bool.true_eq_false, gfK, pfK, lnK, isC, alK_n, asK_n, List.getElem?_cons_zero, List.getElem?_cons_succ, List.set_cons_zero, List.set_cons_succ, List.length_cons, List.length_nil, ↓reduceIte, if_true, if_false, eq_self, and_true, true_and, and_self, Option.bind_some, Option.bind_none, Option.toList_some, Option.toList_none, List.cons_append, List.nil_append, mset_at, mset_ne, mset_2, mset_mset, Nat.reduceLT, Nat.reduceAdd, R_isState hs, nz1, h]
    · have h := mwished_loop (b := b) (u := u) (v := v) (τ := τ) (ws := ws) (st := st) hR.2.2.1 hR.1 c2 s0 hw hs 8 0 rfl
      rw [← hR.2.2.2.2.2.1.2.2.2, hsf, show ∀ M, wsO (letP lc lt sf s) M 0 = none from fun _ => rfl, oI_n, ← lit_0] at h
      simp (disch := first | omega | assumption | exact Nat.le_of_ble_eq_true rfl) only [m208, e208_0, e208_1, e208_2, e208_5, e208_6, e208_9, e208_12, e208_13, e208_14, e208_16i, e208_16n, e208_16r, e208_17, e208_18i, e208_18n, e208_18r, Bool.false_eq_true, Bool.true_eq_false, gfK, pfK, lnK, isC, alK_n, asK_n, List.getElem?_cons_zero, List.getElem?_cons_succ, List.set_cons_zero, List.set_cons_succ, List.length_cons, List.length_nil, ↓reduceIte, if_true, if_false, eq_self, and_true, true_and, and_self, Option.bind_some, Option.bind_none, Option.toList_some, Option.toList_none, List.cons_append, List.nil_append, mset_at, mset_ne, mset_2, mset_mset, Nat.reduceLT, Nat.reduceAdd, M_60, M_thr h0, M_isState hs, nz1, h]
end WISHED
