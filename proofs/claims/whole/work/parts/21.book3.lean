/-! THE BOOK: taking back; images. -/
/-- the leaves that D marks below i are withdrawn -/
def tbk (D : Nat → Bool) (i : Nat) (f : Nat → Int32) : Nat → Int32 := fun x => if x % 8 = 7 ∧ x / 8 < i ∧ D (x / 8) = true then 1 else f x
theorem tbk_0 (D : Nat → Bool) (f : Nat → Int32) : tbk D 0 f = f := funext fun x => if_neg (by omega)
theorem tbk_yes {D : Nat → Bool} {i : Nat} {f : Nat → Int32} (h : D i = true) : tbk D (i + 1) f = upd (tbk D i f) (i * 8 + 7) 1 := by
  funext x
  unfold upd tbk
  by_cases hx : x = i * 8 + 7
  · rw [if_pos hx, if_pos ⟨by omega, by omega, by rw [show x / 8 = i by omega]; exact h⟩]
  · rw [if_neg hx]
    by_cases h1 : x % 8 = 7 ∧ x / 8 < i ∧ D (x / 8) = true
    · rw [if_pos h1, if_pos ⟨h1.1, by omega, h1.2.2⟩]
    · rw [if_neg h1, if_neg (fun h2 => h1 ⟨h2.1, by have := h2.1; have := h2.2.1; omega, h2.2.2⟩)]
theorem tbk_no {D : Nat → Bool} {i : Nat} {f : Nat → Int32} (h : D i = true → f (i * 8 + 7) = 1) : tbk D (i + 1) f = tbk D i f := by
  funext x
  unfold tbk
  by_cases h1 : x % 8 = 7 ∧ x / 8 < i ∧ D (x / 8) = true
  · rw [if_pos h1, if_pos ⟨h1.1, by omega, h1.2.2⟩]
  · rw [if_neg h1]
    by_cases h2 : x % 8 = 7 ∧ x / 8 < i + 1 ∧ D (x / 8) = true
    · have h3 : x / 8 = i := by
        have h4 : ¬ x / 8 < i := fun h4 => h1 ⟨h2.1, h4, h2.2.2⟩
        omega
      rw [if_pos h2]
      have := h (by rw [← h3]; exact h2.2.2)
      rw [← this]
      congr 1
      omega
    · rw [if_neg h2]
theorem tbk_ne {D : Nat → Bool} {i x : Nat} {f : Nat → Int32} (h : x % 8 ≠ 7 ∨ ¬ x / 8 < i) : tbk D i f x = f x := if_neg (by omega)
theorem tbk_at {D : Nat → Bool} {i p : Nat} {f : Nat → Int32} (h : p < i) : tbk D i f (p * 8 + 7) = if D p = true then 1 else f (p * 8 + 7) := by
  unfold tbk
  rw [show (p * 8 + 7) / 8 = p by omega]
  by_cases hd : D p = true
  · rw [if_pos ⟨by omega, h, hd⟩, if_pos hd]
  · rw [if_neg (fun h => hd h.2.2), if_neg hd]
section BOOK3
variable {b : Nat} {u v : Int64} {A : Nat → Nat → Int32} {τ : Nat × Nat × Nat × (Nat → Int32)} {tick kept a x y z q : Int32} {mr ar lr nr : Nat} {mf af lf nf : Nat → Int32} {l1 : Option Value}
theorem takeBack_loop (hm : lr ≤ 20) {l : Nat} (hl : l < lr) {D : Nat → Bool} (h0 : ∀ i, i < lr → lf (i * 8 + 4) = -9 → D i = decide (i = l)) (h1 : ∀ i p, i < lr → p < i → lf (i * 8 + 4) = nI p → D i = (decide (i = l) || D p)) (hp : ParOK (fun j => lf (j * 8 + 4)) lr) (hw : ∀ i p, i < lr → p < i → lf (i * 8 + 4) = nI p → lf (p * 8 + 7) = 1 → lf (i * 8 + 7) = 1) : ∀ (n i : Nat), i + n = lr → ev 8 4 [some (.ref 30), some (.int (nI l)), some (.int (nI (cntF (fun k => D k && decide (¬ lf (k * 8 + 7) = 1)) i))), some (.int (nI i))] [] (BS b u v A τ tick kept mr mf ar af lr (tbk D i lf) nr nf) = some (some (.int (nI (cntF (fun k => D k && decide (¬ lf (k * 8 + 7) = 1)) lr))), (BS b u v A τ tick kept mr mf ar af lr (tbk D lr lf) nr nf))
  | 0, i, hi => by
    have : i = lr := by omega
    subst this
    rw [e8_4]
    by_cases h8 : 20 ≤ i
    · simp (disch := first | omega | assumption | exact Nat.le_of_ble_eq_true rfl) only [m8, e8_0, e8_1i, e8_1n, e8_1r, e8_2, e8_3i, e8_3n, e8_3r, e8_5, e8_7, e8_10, e8_11, e8_12, e8_15, e8_18, e8_21, e8_22, e8_23, e8_26, e8_29, e8_30, e8_31, e8_34, e8_35, e8_36, e8_39, e8_40, e8_41, e8_44, e8_47, e8_50, e8_51, e8_54, e8_55, e8_57, e8_58, e8_61i, e8_61n, e8_61r, e8_64i, e8_64n, e8_64r, e8_67, e8_70, e8_71, gfK, pfK, lnK, isC, alK_n, asK_n, List.getElem?_cons_zero, List.getElem?_cons_succ, List.set_cons_zero, List.set_cons_succ, List.length_cons, List.length_nil, ↓reduceIte, if_true, if_false, eq_self, and_true, true_and, and_self, Option.bind_some, Option.bind_none, Option.toList_some, Option.toList_none, List.cons_append, List.nil_append, mset_at, mset_ne, mset_2, mset_mset, Nat.reduceLT, Nat.reduceAdd, le_20, h8]
    · simp (disch := first | omega | assumption | exact Nat.le_of_ble_eq_true rfl) only [m8, e8_0, e8_1i, e8_1n, e8_1r, e8_2, e8_3i, e8_3n, e8_3r, e8_5, e8_7, e8_10, e8_11, e8_12, e8_15, e8_18, e8_21, e8_22, e8_23, e8_26, e8_29, e8_30, e8_31, e8_34, e8_35, e8_36, e8_39, e8_40, e8_41, e8_44, e8_47, e8_50, e8_51, e8_54, e8_55, e8_57, e8_58, e8_61i, e8_61n, e8_61r, e8_64i, e8_64n, e8_64r, e8_67, e8_70, e8_71, gfK, pfK, lnK, isC, alK_n, asK_n, List.getElem?_cons_zero, List.getElem?_cons_succ, List.set_cons_zero, List.set_cons_succ, List.length_cons, List.length_nil, ↓reduceIte, if_true, if_false, eq_self, and_true, true_and, and_self, Option.bind_some, Option.bind_none, Option.toList_some, Option.toList_none, List.cons_append, List.nil_append, mset_at, mset_ne, mset_2, mset_mset, Nat.reduceLT, Nat.reduceAdd, le_20, h8, B_30, B_S30, mTR, aTR, lTR, nTR, nI_leI, Nat.le_refl]
  | n + 1, i, hi => by
    have ih := takeBack_loop hm hl h0 h1 hp hw n (i + 1) (by omega)
    have h8 : ¬ 20 ≤ i := by omega
    have h9 : ¬ lr ≤ i := by omega
    have hi' : i < lr := by omega
    have e1 : tbk D i lf (i * 8 + 7) = lf (i * 8 + 7) := tbk_ne (by omega)
    have e2 : tbk D i lf (i * 8 + 4) = lf (i * 8 + 4) := tbk_ne (by omega)
    rw [e8_4]
    by_cases hwi : lf (i * 8 + 7) = 1
    · rw [tbk_no (fun _ => hwi), cntF, if_neg (by rw [Bool.and_eq_true]; exact fun h => absurd hwi (of_decide_eq_true h.2)), Nat.add_zero] at ih
      simp (disch := first | omega | assumption | exact Nat.le_of_ble_eq_true rfl) only [m8, e8_0, e8_1i, e8_1n, e8_1r, e8_2, e8_3i, e8_3n, e8_3r, e8_5, e8_7, e8_10, e8_11, e8_12, e8_15, e8_18, e8_21, e8_22, e8_23, e8_26, e8_29, e8_30, e8_31, e8_34, e8_35, e8_36, e8_39, e8_40, e8_41, e8_44, e8_47, e8_50, e8_51, e8_54, e8_55, e8_57, e8_58, e8_61i, e8_61n, e8_61r, e8_64i, e8_64n, e8_64r, e8_67, e8_70, e8_71, gfK, pfK, lnK, isC, alK_n, asK_n, List.getElem?_cons_zero, List.getElem?_cons_succ, List.set_cons_zero, List.set_cons_succ, List.length_cons, List.length_nil, ↓reduceIte, if_true, if_false, eq_self, and_true, true_and, and_self, Option.bind_some, Option.bind_none, Option.toList_some, Option.toList_none, List.cons_append, List.nil_append, mset_at, mset_ne, mset_2, mset_mset, Nat.reduceLT, Nat.reduceAdd, le_20, h8, h9, B_30, B_S30, mTR, aTR, lTR, nTR, nI_leI, B_isWithdrawn, e1, hwi, show ¬ (1 : Int32) = 0 from by decide, nI_succ', ih]
    · by_cases hil : i = l
      · have hD : D i = true := by
          rcases hp i hi' with h2 | ⟨p, hpi, h2⟩
          · rw [h0 i hi' h2, decide_eq_true hil]
          · rw [h1 i p hi' hpi h2, decide_eq_true hil, Bool.true_or]
        rw [tbk_yes hD, cntF, if_pos (by rw [hD, decide_eq_true hwi]; rfl)] at ih
        subst hil
        simp (disch := first | omega | assumption | exact Nat.le_of_ble_eq_true rfl) only [m8, e8_0, e8_1i, e8_1n, e8_1r, e8_2, e8_3i, e8_3n, e8_3r, e8_5, e8_7, e8_10, e8_11, e8_12, e8_15, e8_18, e8_21, e8_22, e8_23, e8_26, e8_29, e8_30, e8_31, e8_34, e8_35, e8_36, e8_39, e8_40, e8_41, e8_44, e8_47, e8_50, e8_51, e8_54, e8_55, e8_57, e8_58, e8_61i, e8_61n, e8_61r, e8_64i, e8_64n, e8_64r, e8_67, e8_70, e8_71, gfK, pfK, lnK, isC, alK_n, asK_n, List.getElem?_cons_zero, List.getElem?_cons_succ, List.set_cons_zero, List.set_cons_succ, List.length_cons, List.length_nil, ↓reduceIte, if_true, if_false, eq_self, and_true, true_and, and_self, Option.bind_some, Option.bind_none, Option.toList_some, Option.toList_none, List.cons_append, List.nil_append, mset_at, mset_ne, mset_2, mset_mset, Nat.reduceLT, Nat.reduceAdd, le_20, h8, h9, B_30, B_S30, mTR, aTR, lTR, nTR, nI_leI, B_isWithdrawn, e1, hwi, lPut_7, nI_succ', ih]
      · have hne : ¬ nI i = nI l := fun e => hil (nI_inj (by omega) (by omega) e)
        rcases hp i hi' with h2 | ⟨p, hpi, h2⟩
        · have h2' : lf (i * 8 + 4) = -9 := h2
          have hD : D i = false := by rw [h0 i hi' h2, decide_eq_false hil]
          rw [tbk_no (fun h => absurd h (by rw [hD]; exact Bool.false_ne_true)), cntF, if_neg (by rw [hD, Bool.false_and]; exact Bool.false_ne_true), Nat.add_zero] at ih
          simp (disch := first | omega | assumption | exact Nat.le_of_ble_eq_true rfl) only [m8, e8_0, e8_1i, e8_1n, e8_1r, e8_2, e8_3i, e8_3n, e8_3r, e8_5, e8_7, e8_10, e8_11, e8_12, e8_15, e8_18, e8_21, e8_22, e8_23, e8_26, e8_29, e8_30, e8_31, e8_34, e8_35, e8_36, e8_39, e8_40, e8_41, e8_44, e8_47, e8_50, e8_51, e8_54, e8_55, e8_57, e8_58, e8_61i, e8_61n, e8_61r, e8_64i, e8_64n, e8_64r, e8_67, e8_70, e8_71, gfK, pfK, lnK, isC, alK_n, asK_n, List.getElem?_cons_zero, List.getElem?_cons_succ, List.set_cons_zero, List.set_cons_succ, List.length_cons, List.length_nil, ↓reduceIte, if_true, if_false, eq_self, and_true, true_and, and_self, Option.bind_some, Option.bind_none, Option.toList_some, Option.toList_none, List.cons_append, List.nil_append, mset_at, mset_ne, mset_2, mset_mset, Nat.reduceLT, Nat.reduceAdd, le_20, h8, h9, B_30, B_S30, mTR, aTR, lTR, nTR, nI_leI, B_isWithdrawn, B_isWithdrawn9, e1, e2, h2', hwi, hne, lGet_4, nI_succ', ih]
        · have h2' : lf (i * 8 + 4) = nI p := h2
          have hD := h1 i p hi' hpi h2
          rw [decide_eq_false hil, Bool.false_or] at hD
          have hwp : ¬ lf (p * 8 + 7) = 1 := fun h => hwi (hw i p hi' hpi h2 h)
          have e3 := tbk_at (D := D) (f := lf) hpi
          by_cases hDp : D p = true
          · rw [if_pos hDp] at e3
            rw [hDp] at hD
            rw [tbk_yes hD, cntF, if_pos (by rw [hD, decide_eq_true hwi]; rfl)] at ih
            simp (disch := first | omega | assumption | exact Nat.le_of_ble_eq_true rfl) only [m8, e8_0, e8_1i, e8_1n, e8_1r, e8_2, e8_3i, e8_3n, e8_3r, e8_5, e8_7, e8_10, e8_11, e8_12, e8_15, e8_18, e8_21, e8_22, e8_23, e8_26, e8_29, e8_30, e8_31, e8_34, e8_35, e8_36, e8_39, e8_40, e8_41, e8_44, e8_47, e8_50, e8_51, e8_54, e8_55, e8_57, e8_58, e8_61i, e8_61n, e8_61r, e8_64i, e8_64n, e8_64r, e8_67, e8_70, e8_71, gfK, pfK, lnK, isC, alK_n, asK_n, List.getElem?_cons_zero, List.getElem?_cons_succ, List.set_cons_zero, List.set_cons_succ, List.length_cons, List.length_nil, ↓reduceIte, if_true, if_false, eq_self, and_true, true_and, and_self, Option.bind_some, Option.bind_none, Option.toList_some, Option.toList_none, List.cons_append, List.nil_append, mset_at, mset_ne, mset_2, mset_mset, Nat.reduceLT, Nat.reduceAdd, le_20, h8, h9, B_30, B_S30, mTR, aTR, lTR, nTR, nI_leI, B_isWithdrawn, e1, e2, e3, h2', hwi, hne, show ¬ (1 : Int32) = 0 from by decide, lGet_4, lPut_7, nI_succ', ih]
          · rw [if_neg hDp] at e3
            rw [Bool.eq_false_iff.2 hDp] at hD
            rw [tbk_no (fun h => absurd h (by rw [hD]; exact Bool.false_ne_true)), cntF, if_neg (by rw [hD, Bool.false_and]; exact Bool.false_ne_true), Nat.add_zero] at ih
            simp (disch := first | omega | assumption | exact Nat.le_of_ble_eq_true rfl) only [m8, e8_0, e8_1i, e8_1n, e8_1r, e8_2, e8_3i, e8_3n, e8_3r, e8_5, e8_7, e8_10, e8_11, e8_12, e8_15, e8_18, e8_21, e8_22, e8_23, e8_26, e8_29, e8_30, e8_31, e8_34, e8_35, e8_36, e8_39, e8_40, e8_41, e8_44, e8_47, e8_50, e8_51, e8_54, e8_55, e8_57, e8_58, e8_61i, e8_61n, e8_61r, e8_64i, e8_64n, e8_64r, e8_67, e8_70, e8_71, gfK, pfK, lnK, isC, alK_n, asK_n, List.getElem?_cons_zero, List.getElem?_cons_succ, List.set_cons_zero, List.set_cons_succ, List.length_cons, List.length_nil, ↓reduceIte, if_true, if_false, eq_self, and_true, true_and, and_self, Option.bind_some, Option.bind_none, Option.toList_some, Option.toList_none, List.cons_append, List.nil_append, mset_at, mset_ne, mset_2, mset_mset, Nat.reduceLT, Nat.reduceAdd, le_20, h8, h9, B_30, B_S30, mTR, aTR, lTR, nTR, nI_leI, B_isWithdrawn, e1, e2, e3, h2', hwi, hwp, hne, lGet_4, nI_succ', ih]
theorem B_takeBack (hm : lr ≤ 20) {l : Nat} (hl : l < lr) {D : Nat → Bool} (h0 : ∀ i, i < lr → lf (i * 8 + 4) = -9 → D i = decide (i = l)) (h1 : ∀ i p, i < lr → p < i → lf (i * 8 + 4) = nI p → D i = (decide (i = l) || D p)) (hp : ParOK (fun j => lf (j * 8 + 4)) lr) (hw : ∀ i p, i < lr → p < i → lf (i * 8 + 4) = nI p → lf (p * 8 + 7) = 1 → lf (i * 8 + 7) = 1) : evM 8 [.ref 30, .int (nI l)] (BS b u v A τ tick kept mr mf ar af lr lf nr nf) = some (some (.int (nI (cntF (fun k => D k && decide (¬ lf (k * 8 + 7) = 1)) lr))), (BS b u v A τ tick kept mr mf ar af lr (tbk D lr lf) nr nf)) := by
  have := takeBack_loop (b := b) (u := u) (v := v) (A := A) (τ := τ) (tick := tick) (kept := kept) (ar := ar) (af := af) (mr := mr) (mf := mf) (nr := nr) (nf := nf) hm hl h0 h1 hp hw lr 0 (by omega)
  rw [cntF, tbk_0, ← lit_0] at this
  simp (disch := first | omega | assumption | exact Nat.le_of_ble_eq_true rfl) only [m8, e8_0, e8_1i, e8_1n, e8_1r, e8_2, e8_3i, e8_3n, e8_3r, e8_5, e8_7, e8_10, e8_11, e8_12, e8_15, e8_18, e8_21, e8_22, e8_23, e8_26, e8_29, e8_30, e8_31, e8_34, e8_35, e8_36, e8_39, e8_40, e8_41, e8_44, e8_47, e8_50, e8_51, e8_54, e8_55, e8_57, e8_58, e8_61i, e8_61n, e8_61r, e8_64i, e8_64n, e8_64r, e8_67, e8_70, e8_71, gfK, pfK, lnK, isC, alK_n, asK_n, List.getElem?_cons_zero, List.getElem?_cons_succ, List.set_cons_zero, List.set_cons_succ, List.length_cons, List.length_nil, ↓reduceIte, if_true, if_false, eq_self, and_true, true_and, and_self, Option.bind_some, Option.bind_none, Option.toList_some, Option.toList_none, List.cons_append, List.nil_append, mset_at, mset_ne, mset_2, mset_mset, Nat.reduceLT, Nat.reduceAdd, this]
end BOOK3
section IMAGE
variable {b q : Nat} {u v : Int64} {A : Nat → Nat → Int32} {τ : Nat × Nat × Nat × (Nat → Int32)} {tick kept ti ke x y : Int32} {mr ar lr nr mi ai li ni k : Nat} {mf af lf nf mif aif lif nif f : Nat → Int32}
theorem BA_up (h : k < 30 ∨ 38 < k) : up (BA A tick kept mr mf ar af lr lf nr nf) k f = BA (up A k f) tick kept mr mf ar af lr lf nr nf := (up_swap (by omega)).trans (congrArg (fun X => up X 38 nf) ((up_swap (by omega)).trans (congrArg (fun X => up X 37 (fL [nI nr])) ((up_swap (by omega)).trans (congrArg (fun X => up X 36 lf) ((up_swap (by omega)).trans (congrArg (fun X => up X 35 (fL [nI lr])) ((up_swap (by omega)).trans (congrArg (fun X => up X 34 af) ((up_swap (by omega)).trans (congrArg (fun X => up X 33 (fL [nI ar])) ((up_swap (by omega)).trans (congrArg (fun X => up X 32 mf) ((up_swap (by omega)).trans (congrArg (fun X => up X 31 (fL [nI mr])) ((up_swap (by omega)).trans (congrArg (fun X => up X 30 (fL [tick, kept])) (rfl))))))))))))))))))
theorem BS_up (h : k < 30 ∨ 38 < k) : G b u v (up (BA A tick kept mr mf ar af lr lf nr nf) k f) τ = BS b u v (up A k f) τ tick kept mr mf ar af lr lf nr nf := congrArg (fun X => G b u v X τ) (BA_up h)
theorem BA_ne (h : k < 30 ∨ 38 < k) : BA A tick kept mr mf ar af lr lf nr nf k = A k := by
  unfold BA
  rw [up_ne (by omega), up_ne (by omega), up_ne (by omega), up_ne (by omega), up_ne (by omega), up_ne (by omega), up_ne (by omega), up_ne (by omega), up_ne (by omega)]
theorem I_0 (hq : q = 39 ∨ q = 48) : (BS b u v A τ tick kept mr mf ar af lr lf nr nf).1 q = some (.inr (0, [.ref (q + 1), .ref (q + 3), .ref (q + 5), .ref (q + 7), .int (A q 0), .int (A q 1)])) := by
  rw [← BA_ne (A := A) (k := q) (tick := tick) (kept := kept) (mr := mr) (mf := mf) (ar := ar) (af := af) (lr := lr) (lf := lf) (nr := nr) (nf := nf) (by omega)]
  rcases hq with rfl | rfl
  · exact G_39
  · exact G_48
theorem I_S0 (hq : q = 39 ∨ q = 48) : mset (BS b u v A τ tick kept mr mf ar af lr lf nr nf) q (.inr (0, [.ref (q + 1), .ref (q + 3), .ref (q + 5), .ref (q + 7), .int x, .int y])) = (BS b u v (up A q (fL [x, y])) τ tick kept mr mf ar af lr lf nr nf) := by
  rcases hq with rfl | rfl
  · exact S_39.trans (BS_up (by omega))
  · exact S_48.trans (BS_up (by omega))
theorem mIK (hq : q = 39 ∨ q = 48) : (BS b u v A τ tick kept mr mf ar af lr lf nr nf).1 (q + 1) = some (.inr (3, [.int 8, .int 3, .ref (q + 2), .int (A (q + 1) 0)])) := by
  rw [← BA_ne (A := A) (k := q + 1) (tick := tick) (kept := kept) (mr := mr) (mf := mf) (ar := ar) (af := af) (lr := lr) (lf := lf) (nr := nr) (nf := nf) (by omega)]
  rcases hq with rfl | rfl
  · exact G_40
  · exact G_49
theorem mIC (hq : q = 39 ∨ q = 48) : (BS b u v A τ tick kept mr mf ar af lr lf nr nf).1 (q + 2) = some (.inl (0, 24, A (q + 2))) := by
  rw [← BA_ne (A := A) (k := q + 2) (tick := tick) (kept := kept) (mr := mr) (mf := mf) (ar := ar) (af := af) (lr := lr) (lf := lf) (nr := nr) (nf := nf) (by omega)]
  rcases hq with rfl | rfl
  · exact G_41
  · exact G_50
theorem mIAt (hq : q = 39 ∨ q = 48) (hi : A (q + 1) 0 = nI mi) (h : mi ≤ 8) : TblAt (BS b u v A τ tick kept mr mf ar af lr lf nr nf).1 (q + 1) (q + 2) 8 3 mi (A (q + 2)) := ⟨(mIK hq).trans (by rw [hi]; rfl), mIC hq, h, by decide, by omega, by omega, by decide⟩
theorem mITS (hq : q = 39 ∨ q = 48) : tset (BS b u v A τ tick kept mr mf ar af lr lf nr nf) (q + 1) (q + 2) 8 3 k f = (BS b u v (up (up A (q + 1) (fL [nI k])) (q + 2) f) τ tick kept mr mf ar af lr lf nr nf) := by
  unfold tset
  rcases hq with rfl | rfl
  · exact (congrArg (fun X => mset X 41 (.inl (0, 24, f))) (S_40.trans (BS_up (by omega)))).trans (S_41.trans (BS_up (by omega)))
  · exact (congrArg (fun X => mset X 50 (.inl (0, 24, f))) (S_49.trans (BS_up (by omega)))).trans (S_50.trans (BS_up (by omega)))
theorem mBack (hq : q = 39 ∨ q = 48) (h : mr ≤ 8) (hi : A (q + 1) 0 = nI mi) (hl : mi ≤ 8) : evM 40 [.ref 31, .ref (q + 1)] (BS b u v A τ tick kept mr mf ar af lr lf nr nf) = some (none, (BS b u v A τ tick kept mi (mix 24 (A (q + 2)) mf) ar af lr lf nr nf)) := (T_copy (mAt h) (mIAt hq hi hl) (by omega) (by omega) (by omega) (by omega)).trans (by rw [mTS])
theorem mKeep (hq : q = 39 ∨ q = 48) (h : mr ≤ 8) (hi : A (q + 1) 0 = nI mi) (hl : mi ≤ 8) : evM 40 [.ref (q + 1), .ref 31] (BS b u v A τ tick kept mr mf ar af lr lf nr nf) = some (none, (BS b u v (up (up A (q + 1) (fL [nI mr])) (q + 2) (mix 24 mf (A (q + 2)))) τ tick kept mr mf ar af lr lf nr nf)) := (T_copy (mIAt hq hi hl) (mAt h) (by omega) (by omega) (by omega) (by omega)).trans (by rw [mITS hq])
theorem aIK (hq : q = 39 ∨ q = 48) : (BS b u v A τ tick kept mr mf ar af lr lf nr nf).1 (q + 3) = some (.inr (3, [.int 4, .int 5, .ref (q + 4), .int (A (q + 3) 0)])) := by
  rw [← BA_ne (A := A) (k := q + 3) (tick := tick) (kept := kept) (mr := mr) (mf := mf) (ar := ar) (af := af) (lr := lr) (lf := lf) (nr := nr) (nf := nf) (by omega)]
  rcases hq with rfl | rfl
  · exact G_42
  · exact G_51
theorem aIC (hq : q = 39 ∨ q = 48) : (BS b u v A τ tick kept mr mf ar af lr lf nr nf).1 (q + 4) = some (.inl (0, 20, A (q + 4))) := by
  rw [← BA_ne (A := A) (k := q + 4) (tick := tick) (kept := kept) (mr := mr) (mf := mf) (ar := ar) (af := af) (lr := lr) (lf := lf) (nr := nr) (nf := nf) (by omega)]
  rcases hq with rfl | rfl
  · exact G_43
  · exact G_52
theorem aIAt (hq : q = 39 ∨ q = 48) (hi : A (q + 3) 0 = nI ai) (h : ai ≤ 4) : TblAt (BS b u v A τ tick kept mr mf ar af lr lf nr nf).1 (q + 3) (q + 4) 4 5 ai (A (q + 4)) := ⟨(aIK hq).trans (by rw [hi]; rfl), aIC hq, h, by decide, by omega, by omega, by decide⟩
theorem aITS (hq : q = 39 ∨ q = 48) : tset (BS b u v A τ tick kept mr mf ar af lr lf nr nf) (q + 3) (q + 4) 4 5 k f = (BS b u v (up (up A (q + 3) (fL [nI k])) (q + 4) f) τ tick kept mr mf ar af lr lf nr nf) := by
  unfold tset
  rcases hq with rfl | rfl
  · exact (congrArg (fun X => mset X 43 (.inl (0, 20, f))) (S_42.trans (BS_up (by omega)))).trans (S_43.trans (BS_up (by omega)))
  · exact (congrArg (fun X => mset X 52 (.inl (0, 20, f))) (S_51.trans (BS_up (by omega)))).trans (S_52.trans (BS_up (by omega)))
theorem aBack (hq : q = 39 ∨ q = 48) (h : ar ≤ 4) (hi : A (q + 3) 0 = nI ai) (hl : ai ≤ 4) : evM 40 [.ref 33, .ref (q + 3)] (BS b u v A τ tick kept mr mf ar af lr lf nr nf) = some (none, (BS b u v A τ tick kept mr mf ai (mix 20 (A (q + 4)) af) lr lf nr nf)) := (T_copy (aAt h) (aIAt hq hi hl) (by omega) (by omega) (by omega) (by omega)).trans (by rw [aTS])
theorem aKeep (hq : q = 39 ∨ q = 48) (h : ar ≤ 4) (hi : A (q + 3) 0 = nI ai) (hl : ai ≤ 4) : evM 40 [.ref (q + 3), .ref 33] (BS b u v A τ tick kept mr mf ar af lr lf nr nf) = some (none, (BS b u v (up (up A (q + 3) (fL [nI ar])) (q + 4) (mix 20 af (A (q + 4)))) τ tick kept mr mf ar af lr lf nr nf)) := (T_copy (aIAt hq hi hl) (aAt h) (by omega) (by omega) (by omega) (by omega)).trans (by rw [aITS hq])
theorem lIK (hq : q = 39 ∨ q = 48) : (BS b u v A τ tick kept mr mf ar af lr lf nr nf).1 (q + 5) = some (.inr (3, [.int 20, .int 8, .ref (q + 6), .int (A (q + 5) 0)])) := by
  rw [← BA_ne (A := A) (k := q + 5) (tick := tick) (kept := kept) (mr := mr) (mf := mf) (ar := ar) (af := af) (lr := lr) (lf := lf) (nr := nr) (nf := nf) (by omega)]
  rcases hq with rfl | rfl
  · exact G_44
  · exact G_53
theorem lIC (hq : q = 39 ∨ q = 48) : (BS b u v A τ tick kept mr mf ar af lr lf nr nf).1 (q + 6) = some (.inl (0, 160, A (q + 6))) := by
  rw [← BA_ne (A := A) (k := q + 6) (tick := tick) (kept := kept) (mr := mr) (mf := mf) (ar := ar) (af := af) (lr := lr) (lf := lf) (nr := nr) (nf := nf) (by omega)]
  rcases hq with rfl | rfl
  · exact G_45
  · exact G_54
theorem lIAt (hq : q = 39 ∨ q = 48) (hi : A (q + 5) 0 = nI li) (h : li ≤ 20) : TblAt (BS b u v A τ tick kept mr mf ar af lr lf nr nf).1 (q + 5) (q + 6) 20 8 li (A (q + 6)) := ⟨(lIK hq).trans (by rw [hi]; rfl), lIC hq, h, by decide, by omega, by omega, by decide⟩
theorem lITS (hq : q = 39 ∨ q = 48) : tset (BS b u v A τ tick kept mr mf ar af lr lf nr nf) (q + 5) (q + 6) 20 8 k f = (BS b u v (up (up A (q + 5) (fL [nI k])) (q + 6) f) τ tick kept mr mf ar af lr lf nr nf) := by
  unfold tset
  rcases hq with rfl | rfl
  · exact (congrArg (fun X => mset X 45 (.inl (0, 160, f))) (S_44.trans (BS_up (by omega)))).trans (S_45.trans (BS_up (by omega)))
  · exact (congrArg (fun X => mset X 54 (.inl (0, 160, f))) (S_53.trans (BS_up (by omega)))).trans (S_54.trans (BS_up (by omega)))
theorem lBack (hq : q = 39 ∨ q = 48) (h : lr ≤ 20) (hi : A (q + 5) 0 = nI li) (hl : li ≤ 20) : evM 40 [.ref 35, .ref (q + 5)] (BS b u v A τ tick kept mr mf ar af lr lf nr nf) = some (none, (BS b u v A τ tick kept mr mf ar af li (mix 160 (A (q + 6)) lf) nr nf)) := (T_copy (lAt h) (lIAt hq hi hl) (by omega) (by omega) (by omega) (by omega)).trans (by rw [lTS])
theorem lKeep (hq : q = 39 ∨ q = 48) (h : lr ≤ 20) (hi : A (q + 5) 0 = nI li) (hl : li ≤ 20) : evM 40 [.ref (q + 5), .ref 35] (BS b u v A τ tick kept mr mf ar af lr lf nr nf) = some (none, (BS b u v (up (up A (q + 5) (fL [nI lr])) (q + 6) (mix 160 lf (A (q + 6)))) τ tick kept mr mf ar af lr lf nr nf)) := (T_copy (lIAt hq hi hl) (lAt h) (by omega) (by omega) (by omega) (by omega)).trans (by rw [lITS hq])
theorem nIK (hq : q = 39 ∨ q = 48) : (BS b u v A τ tick kept mr mf ar af lr lf nr nf).1 (q + 7) = some (.inr (3, [.int 60, .int 10, .ref (q + 8), .int (A (q + 7) 0)])) := by
  rw [← BA_ne (A := A) (k := q + 7) (tick := tick) (kept := kept) (mr := mr) (mf := mf) (ar := ar) (af := af) (lr := lr) (lf := lf) (nr := nr) (nf := nf) (by omega)]
  rcases hq with rfl | rfl
  · exact G_46
  · exact G_55
theorem nIC (hq : q = 39 ∨ q = 48) : (BS b u v A τ tick kept mr mf ar af lr lf nr nf).1 (q + 8) = some (.inl (0, 600, A (q + 8))) := by
  rw [← BA_ne (A := A) (k := q + 8) (tick := tick) (kept := kept) (mr := mr) (mf := mf) (ar := ar) (af := af) (lr := lr) (lf := lf) (nr := nr) (nf := nf) (by omega)]
  rcases hq with rfl | rfl
  · exact G_47
  · exact G_56
theorem nIAt (hq : q = 39 ∨ q = 48) (hi : A (q + 7) 0 = nI ni) (h : ni ≤ 60) : TblAt (BS b u v A τ tick kept mr mf ar af lr lf nr nf).1 (q + 7) (q + 8) 60 10 ni (A (q + 8)) := ⟨(nIK hq).trans (by rw [hi]; rfl), nIC hq, h, by decide, by omega, by omega, by decide⟩
theorem nITS (hq : q = 39 ∨ q = 48) : tset (BS b u v A τ tick kept mr mf ar af lr lf nr nf) (q + 7) (q + 8) 60 10 k f = (BS b u v (up (up A (q + 7) (fL [nI k])) (q + 8) f) τ tick kept mr mf ar af lr lf nr nf) := by
  unfold tset
  rcases hq with rfl | rfl
  · exact (congrArg (fun X => mset X 47 (.inl (0, 600, f))) (S_46.trans (BS_up (by omega)))).trans (S_47.trans (BS_up (by omega)))
  · exact (congrArg (fun X => mset X 56 (.inl (0, 600, f))) (S_55.trans (BS_up (by omega)))).trans (S_56.trans (BS_up (by omega)))
theorem nBack (hq : q = 39 ∨ q = 48) (h : nr ≤ 60) (hi : A (q + 7) 0 = nI ni) (hl : ni ≤ 60) : evM 40 [.ref 37, .ref (q + 7)] (BS b u v A τ tick kept mr mf ar af lr lf nr nf) = some (none, (BS b u v A τ tick kept mr mf ar af lr lf ni (mix 600 (A (q + 8)) nf))) := (T_copy (nAt h) (nIAt hq hi hl) (by omega) (by omega) (by omega) (by omega)).trans (by rw [nTS])
theorem nKeep (hq : q = 39 ∨ q = 48) (h : nr ≤ 60) (hi : A (q + 7) 0 = nI ni) (hl : ni ≤ 60) : evM 40 [.ref (q + 7), .ref 37] (BS b u v A τ tick kept mr mf ar af lr lf nr nf) = some (none, (BS b u v (up (up A (q + 7) (fL [nI nr])) (q + 8) (mix 600 nf (A (q + 8)))) τ tick kept mr mf ar af lr lf nr nf)) := (T_copy (nIAt hq hi hl) (nAt h) (by omega) (by omega) (by omega) (by omega)).trans (by rw [nITS hq])
theorem B_back (hq : q = 39 ∨ q = 48) (h1 : mr ≤ 8) (h2 : ar ≤ 4) (h3 : lr ≤ 20) (h4 : nr ≤ 60) (j1 : A (q + 1) 0 = nI mi) (j2 : A (q + 3) 0 = nI ai) (j3 : A (q + 5) 0 = nI li) (j4 : A (q + 7) 0 = nI ni) (i1 : mi ≤ 8) (i2 : ai ≤ 4) (i3 : li ≤ 20) (i4 : ni ≤ 60) : evM 19 [.ref 30, .ref q] (BS b u v A τ tick kept mr mf ar af lr lf nr nf) = some (none, (BS b u v A τ (A q 0) kept mi (mix 24 (A (q + 2)) mf) ai (mix 20 (A (q + 4)) af) li (mix 160 (A (q + 6)) lf) ni (mix 600 (A (q + 8)) nf))) := by
  simp (disch := first | omega | assumption | exact Nat.le_of_ble_eq_true rfl) only [m19, e19_0, e19_1, e19_4, e19_5, e19_8, e19_11, e19_12, e19_15, e19_16, e19_19, e19_22, e19_23, e19_26, e19_27, e19_30, e19_33, e19_34, e19_37, e19_38, e19_41, e19_44, e19_45, e19_46, e19_49, e19_52, gfK, pfK, lnK, isC, alK_n, asK_n, List.getElem?_cons_zero, List.getElem?_cons_succ, List.set_cons_zero, List.set_cons_succ, List.length_cons, List.length_nil, ↓reduceIte, if_true, if_false, eq_self, and_true, true_and, and_self, Option.bind_some, Option.bind_none, Option.toList_some, Option.toList_none, List.cons_append, List.nil_append, mset_at, mset_ne, mset_2, mset_mset, Nat.reduceLT, Nat.reduceAdd, B_30, B_S30, mTR, aTR, lTR, nTR, I_0 hq, mBack hq h1 j1 i1, aBack hq h2 j2 i2, lBack hq h3 j3 i3, nBack hq h4 j4 i4]
end IMAGE
