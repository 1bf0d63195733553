/-! THE CLASS'S TEXT AND TOKENS. -/
theorem lt_48 {i : Nat} (h : i < 2147483648) : (nI i < (48 : Int32)) = (i < 48) := propext (nI_ltI (b := 48) h (by decide))
theorem gt_57 {i : Nat} (h : i < 2147483648) : ((57 : Int32) < nI i) = (57 < i) := propext (nI_ltI (a := 57) (by decide) h)
theorem lt_97 {i : Nat} (h : i < 2147483648) : (nI i < (97 : Int32)) = (i < 97) := propext (nI_ltI (b := 97) h (by decide))
theorem gt_122 {i : Nat} (h : i < 2147483648) : ((122 : Int32) < nI i) = (122 < i) := propext (nI_ltI (a := 122) (by decide) h)
theorem gt_104 {i : Nat} (h : i < 2147483648) : ((104 : Int32) < nI i) = (104 < i) := propext (nI_ltI (a := 104) (by decide) h)
theorem le_600 {i : Nat} (h : i < 2147483648) : ((600 : Int32) ≤ nI i) = (600 ≤ i) := propext (nI_leI (a := 600) (by decide) h)
theorem gt_600 {i : Nat} (h : i < 2147483648) : ((600 : Int32) < nI i) = (600 < i) := propext (nI_ltI (a := 600) (by decide) h)
theorem eq_nI {a c : Nat} (h : a < 2147483648) (h' : c < 2147483648) : (nI a = nI c) = (a = c) := propext ⟨fun e => nI_inj h h' e, fun e => by rw [e]⟩
theorem eq_48 {i : Nat} (h : i < 2147483648) : (nI i = (48 : Int32)) = (i = 48) := eq_nI h (by decide)
theorem eq_62 {i : Nat} (h : i < 2147483648) : (nI i = (62 : Int32)) = (i = 62) := eq_nI h (by decide)
theorem eq_59 {i : Nat} (h : i < 2147483648) : (nI i = (59 : Int32)) = (i = 59) := eq_nI h (by decide)
theorem eq_32 {i : Nat} (h : i < 2147483648) : (nI i = (32 : Int32)) = (i = 32) := eq_nI h (by decide)
/-- both hold the same text -/
def TX (A : Nat → Nat → Int32) (n : Nat) (t : Nat → Nat) : Prop := n ≤ 600 ∧ A 1 0 = nI n ∧ A 60 1 = nI n ∧ (∀ i, t i < 256) ∧ ∀ i, i < n → A 2 i = nI (t i) ∧ A 61 i = nI (t i)
theorem TX_of {A A' : Nat → Nat → Int32} {n : Nat} {t : Nat → Nat} (h : ∀ k, k = 1 ∨ k = 2 ∨ k = 61 → A' k = A k) (h1 : A' 60 1 = A 60 1) (hT : TX A n t) : TX A' n t := by
  obtain ⟨a, b, c, d, e⟩ := hT
  refine ⟨a, ?_, ?_, d, fun i hi => ?_⟩
  · rw [h 1 (by omega)]; exact b
  · rw [h1]; exact c
  · rw [h 2 (by omega), h 61 (by omega)]; exact e i hi
def byA (t : Nat → Nat) (n i : Nat) : Int32 := if i < n then nI (t i) else -1
theorem byA_lt {t : Nat → Nat} {n i : Nat} (h : i < n) : byA t n i = nI (t i) := if_pos h
theorem byA_ge {t : Nat → Nat} {n i : Nat} (h : ¬ i < n) : byA t n i = -1 := if_neg h
section XTEXT
variable {b : Nat} {u v : Int64} {A : Nat → Nat → Int32} {τ : Nat × Nat × Nat × (Nat → Int32)} {n : Nat} {t : Nat → Nat} {i j p e c : Nat} {x y z : Int32} {σ : mS} {l2 l3 l4 l5 : Option Value}
theorem x_byteAt (hT : TX A n t) (hi : i < 2147483648) : evM 43 [.ref 1, .int (nI i)] (G b u v A τ) = some (some (.int (byA t n i)), (G b u v A τ)) := by
  obtain ⟨h1, h2, h3, h4, h5⟩ := hT
  by_cases h : i < n
  · have h6 := (h5 i h).1
    rw [byA_lt h]
    simp (disch := first | omega | assumption | exact Nat.le_of_ble_eq_true rfl) only [m43, e43_0, e43_1, e43_4, e43_5, e43_6, e43_9, e43_12, e43_13, e43_16, e43_19, e43_20, e43_23, e43_24, e43_25, e43_28, e43_29, Bool.false_eq_true, Bool.true_eq_false, gfK, pfK, lnK, isC, alK_n, asK_n, List.getElem?_cons_zero, List.getElem?_cons_succ, List.set_cons_zero, List.set_cons_succ, List.length_cons, List.length_nil, ↓reduceIte, if_true, if_false, eq_self, and_true, true_and, and_self, Option.bind_some, Option.bind_none, Option.toList_some, Option.toList_none, List.cons_append, List.nil_append, mset_at, mset_ne, mset_2, mset_mset, Nat.reduceLT, Nat.reduceAdd, nI_not_neg, G_1, G_2, h2, nI_leI, show ¬ n ≤ i from by omega, le_600, show ¬ 600 ≤ i from by omega, h6]
  · rw [byA_ge h]
    simp (disch := first | omega | assumption | exact Nat.le_of_ble_eq_true rfl) only [m43, e43_0, e43_1, e43_4, e43_5, e43_6, e43_9, e43_12, e43_13, e43_16, e43_19, e43_20, e43_23, e43_24, e43_25, e43_28, e43_29, Bool.false_eq_true, Bool.true_eq_false, gfK, pfK, lnK, isC, alK_n, asK_n, List.getElem?_cons_zero, List.getElem?_cons_succ, List.set_cons_zero, List.set_cons_succ, List.length_cons, List.length_nil, ↓reduceIte, if_true, if_false, eq_self, and_true, true_and, and_self, Option.bind_some, Option.bind_none, Option.toList_some, Option.toList_none, List.cons_append, List.nil_append, mset_at, mset_ne, mset_2, mset_mset, Nat.reduceLT, Nat.reduceAdd, nI_not_neg, G_1, G_2, h2, nI_leI, show n ≤ i from by omega]
theorem x_isDigit (ht : ∀ i, t i < 256) : evM 47 [.int (byA t n i)] σ = some (some (.int (bI (dg t n i))), σ) := by
  have h0 := ht i
  by_cases h : i < n
  · rw [byA_lt h]
    by_cases h1 : t i < 48
    · rw [show dg t n i = false from decide_eq_false (by omega)]
      simp (disch := first | omega | assumption | exact Nat.le_of_ble_eq_true rfl) only [m47, e47_0, e47_1, e47_3, e47_6, e47_7, e47_9, e47_12, e47_13, e47_16, e47_17b0, e47_17b1, Bool.false_eq_true, Bool.true_eq_false, gfK, pfK, lnK, isC, alK_n, asK_n, List.getElem?_cons_zero, List.getElem?_cons_succ, List.set_cons_zero, List.set_cons_succ, List.length_cons, List.length_nil, ↓reduceIte, if_true, if_false, eq_self, and_true, true_and, and_self, Option.bind_some, Option.bind_none, Option.toList_some, Option.toList_none, List.cons_append, List.nil_append, mset_at, mset_ne, mset_2, mset_mset, Nat.reduceLT, Nat.reduceAdd, lt_48, h1, bI_f]
    · by_cases h2 : 57 < t i
      · rw [show dg t n i = false from decide_eq_false (by omega)]
        simp (disch := first | omega | assumption | exact Nat.le_of_ble_eq_true rfl) only [m47, e47_0, e47_1, e47_3, e47_6, e47_7, e47_9, e47_12, e47_13, e47_16, e47_17b0, e47_17b1, Bool.false_eq_true, Bool.true_eq_false, gfK, pfK, lnK, isC, alK_n, asK_n, List.getElem?_cons_zero, List.getElem?_cons_succ, List.set_cons_zero, List.set_cons_succ, List.length_cons, List.length_nil, ↓reduceIte, if_true, if_false, eq_self, and_true, true_and, and_self, Option.bind_some, Option.bind_none, Option.toList_some, Option.toList_none, List.cons_append, List.nil_append, mset_at, mset_ne, mset_2, mset_mset, Nat.reduceLT, Nat.reduceAdd, lt_48, h1, gt_57, h2, bI_f]
      · rw [show dg t n i = true from decide_eq_true (by omega)]
        simp (disch := first | omega | assumption | exact Nat.le_of_ble_eq_true rfl) only [m47, e47_0, e47_1, e47_3, e47_6, e47_7, e47_9, e47_12, e47_13, e47_16, e47_17b0, e47_17b1, Bool.false_eq_true, Bool.true_eq_false, gfK, pfK, lnK, isC, alK_n, asK_n, List.getElem?_cons_zero, List.getElem?_cons_succ, List.set_cons_zero, List.set_cons_succ, List.length_cons, List.length_nil, ↓reduceIte, if_true, if_false, eq_self, and_true, true_and, and_self, Option.bind_some, Option.bind_none, Option.toList_some, Option.toList_none, List.cons_append, List.nil_append, mset_at, mset_ne, mset_2, mset_mset, Nat.reduceLT, Nat.reduceAdd, lt_48, h1, gt_57, h2, bI_t]
  · rw [byA_ge h, show dg t n i = false from decide_eq_false (by omega)]
    simp (disch := first | omega | assumption | exact Nat.le_of_ble_eq_true rfl) only [m47, e47_0, e47_1, e47_3, e47_6, e47_7, e47_9, e47_12, e47_13, e47_16, e47_17b0, e47_17b1, Bool.false_eq_true, Bool.true_eq_false, gfK, pfK, lnK, isC, alK_n, asK_n, List.getElem?_cons_zero, List.getElem?_cons_succ, List.set_cons_zero, List.set_cons_succ, List.length_cons, List.length_nil, ↓reduceIte, if_true, if_false, eq_self, and_true, true_and, and_self, Option.bind_some, Option.bind_none, Option.toList_some, Option.toList_none, List.cons_append, List.nil_append, mset_at, mset_ne, mset_2, mset_mset, Nat.reduceLT, Nat.reduceAdd, show (-1 : Int32) < 48 from by decide, bI_f]
theorem x_isLetter (ht : ∀ i, t i < 256) : evM 48 [.int (byA t n i)] σ = some (some (.int (bI (lr t n i))), σ) := by
  have h0 := ht i
  by_cases h : i < n
  · rw [byA_lt h]
    by_cases h1 : t i < 97
    · rw [show lr t n i = false from decide_eq_false (by omega)]
      simp (disch := first | omega | assumption | exact Nat.le_of_ble_eq_true rfl) only [m48, e48_0, e48_1, e48_3, e48_6, e48_7, e48_9, e48_12, e48_13, e48_16, e48_17b0, e48_17b1, Bool.false_eq_true, Bool.true_eq_false, gfK, pfK, lnK, isC, alK_n, asK_n, List.getElem?_cons_zero, List.getElem?_cons_succ, List.set_cons_zero, List.set_cons_succ, List.length_cons, List.length_nil, ↓reduceIte, if_true, if_false, eq_self, and_true, true_and, and_self, Option.bind_some, Option.bind_none, Option.toList_some, Option.toList_none, List.cons_append, List.nil_append, mset_at, mset_ne, mset_2, mset_mset, Nat.reduceLT, Nat.reduceAdd, lt_97, h1, bI_f]
    · by_cases h2 : 122 < t i
      · rw [show lr t n i = false from decide_eq_false (by omega)]
        simp (disch := first | omega | assumption | exact Nat.le_of_ble_eq_true rfl) only [m48, e48_0, e48_1, e48_3, e48_6, e48_7, e48_9, e48_12, e48_13, e48_16, e48_17b0, e48_17b1, Bool.false_eq_true, Bool.true_eq_false, gfK, pfK, lnK, isC, alK_n, asK_n, List.getElem?_cons_zero, List.getElem?_cons_succ, List.set_cons_zero, List.set_cons_succ, List.length_cons, List.length_nil, ↓reduceIte, if_true, if_false, eq_self, and_true, true_and, and_self, Option.bind_some, Option.bind_none, Option.toList_some, Option.toList_none, List.cons_append, List.nil_append, mset_at, mset_ne, mset_2, mset_mset, Nat.reduceLT, Nat.reduceAdd, lt_97, h1, gt_122, h2, bI_f]
      · rw [show lr t n i = true from decide_eq_true (by omega)]
        simp (disch := first | omega | assumption | exact Nat.le_of_ble_eq_true rfl) only [m48, e48_0, e48_1, e48_3, e48_6, e48_7, e48_9, e48_12, e48_13, e48_16, e48_17b0, e48_17b1, Bool.false_eq_true, Bool.true_eq_false, gfK, pfK, lnK, isC, alK_n, asK_n, List.getElem?_cons_zero, List.getElem?_cons_succ, List.set_cons_zero, List.set_cons_succ, List.length_cons, List.length_nil, ↓reduceIte, if_true, if_false, eq_self, and_true, true_and, and_self, Option.bind_some, Option.bind_none, Option.toList_some, Option.toList_none, List.cons_append, List.nil_append, mset_at, mset_ne, mset_2, mset_mset, Nat.reduceLT, Nat.reduceAdd, lt_97, h1, gt_122, h2, bI_t]
  · rw [byA_ge h, show lr t n i = false from decide_eq_false (by omega)]
    simp (disch := first | omega | assumption | exact Nat.le_of_ble_eq_true rfl) only [m48, e48_0, e48_1, e48_3, e48_6, e48_7, e48_9, e48_12, e48_13, e48_16, e48_17b0, e48_17b1, Bool.false_eq_true, Bool.true_eq_false, gfK, pfK, lnK, isC, alK_n, asK_n, List.getElem?_cons_zero, List.getElem?_cons_succ, List.set_cons_zero, List.set_cons_succ, List.length_cons, List.length_nil, ↓reduceIte, if_true, if_false, eq_self, and_true, true_and, and_self, Option.bind_some, Option.bind_none, Option.toList_some, Option.toList_none, List.cons_append, List.nil_append, mset_at, mset_ne, mset_2, mset_mset, Nat.reduceLT, Nat.reduceAdd, show (-1 : Int32) < 97 from by decide, bI_f]
theorem bI_eq1 (a : Bool) : (¬ bI a = 0) = (a = true) := by cases a <;> decide
theorem bI_if {α : Type} (a : Bool) (x y : α) : (if bI a = 0 then x else y) = if a = true then y else x := by cases a <;> rfl
theorem x_endOf_loop (hT : TX A n t) (D L : Bool) : ∀ (f i : Nat) (l5 : Option Value), i + f = n → ev 46 21 [some (.ref 1), some (.int x), some (.int (bI D)), some (.int (bI L)), some (.int (nI i)), l5] [] (G b u v A τ) = some (some (.int (nI (rn (fun j => (D && dg t n j) || (L && lr t n j)) n i))), (G b u v A τ))
  | 0, i, l5, hi => by
    have : i = n := by omega
    subst this
    obtain ⟨h1, h2, h3, h4, h5⟩ := hT
    rw [rn_end, e46_21]
    simp (disch := first | omega | assumption | exact Nat.le_of_ble_eq_true rfl) only [m46, e46_0, e46_1, e46_2, e46_5, e46_8i, e46_8n, e46_8r, e46_9, e46_10, e46_11, e46_14, e46_17i, e46_17n, e46_17r, e46_18, e46_19i, e46_19n, e46_19r, e46_23, e46_24, e46_27, e46_30, e46_31, e46_33, e46_36i, e46_36n, e46_36r, e46_38, e46_39, e46_42, e46_44, e46_47, e46_50, e46_51, e46_54, e46_56, e46_59, e46_62, e46_64, e46_65i, e46_65n, e46_65r, e46_68, e46_71, e46_72, e46_75, Bool.false_eq_true, Bool.true_eq_false, gfK, pfK, lnK, isC, alK_n, asK_n, List.getElem?_cons_zero, List.getElem?_cons_succ, List.set_cons_zero, List.set_cons_succ, List.length_cons, List.length_nil, ↓reduceIte, if_true, if_false, eq_self, and_true, true_and, and_self, Option.bind_some, Option.bind_none, Option.toList_some, Option.toList_none, List.cons_append, List.nil_append, mset_at, mset_ne, mset_2, mset_mset, Nat.reduceLT, Nat.reduceAdd, G_1, h2, nI_leI, Nat.le_refl]
  | f + 1, i, l5, hi => by
    have ih := x_endOf_loop hT D L f (i + 1) (some (.int (byA t n i))) (by omega)
    have hT' := hT
    obtain ⟨h1, h2, h3, h4, h5⟩ := hT'
    rw [e46_21]
    cases hD : D && dg t n i with
    | true =>
      rw [← rn_t (P := fun j => (D && dg t n j) || (L && lr t n j)) (by show (D && dg t n i || L && lr t n i) = true; rw [hD, Bool.true_or]) (by omega)] at ih
      have hd := (Bool.and_eq_true _ _ ▸ hD : D = true ∧ dg t n i = true)
      rw [hd.1, bI_t] at ih ⊢
      simp (disch := first | omega | assumption | exact Nat.le_of_ble_eq_true rfl) only [m46, e46_0, e46_1, e46_2, e46_5, e46_8i, e46_8n, e46_8r, e46_9, e46_10, e46_11, e46_14, e46_17i, e46_17n, e46_17r, e46_18, e46_19i, e46_19n, e46_19r, e46_23, e46_24, e46_27, e46_30, e46_31, e46_33, e46_36i, e46_36n, e46_36r, e46_38, e46_39, e46_42, e46_44, e46_47, e46_50, e46_51, e46_54, e46_56, e46_59, e46_62, e46_64, e46_65i, e46_65n, e46_65r, e46_68, e46_71, e46_72, e46_75, Bool.false_eq_true, Bool.true_eq_false, gfK, pfK, lnK, isC, alK_n, asK_n, List.getElem?_cons_zero, List.getElem?_cons_succ, List.set_cons_zero, List.set_cons_succ, List.length_cons, List.length_nil, ↓reduceIte, if_true, if_false, eq_self, and_true, true_and, and_self, Option.bind_some, Option.bind_none, Option.toList_some, Option.toList_none, List.cons_append, List.nil_append, mset_at, mset_ne, mset_2, mset_mset, Nat.reduceLT, Nat.reduceAdd, G_1, h2, nI_leI, show ¬ n ≤ i from by omega, x_byteAt hT, x_isDigit h4, hd.2, bI_t, nz1, nI_succ', ih]
    | false =>
      cases hL : L && lr t n i with
      | true =>
        rw [← rn_t (P := fun j => (D && dg t n j) || (L && lr t n j)) (by show (D && dg t n i || L && lr t n i) = true; rw [hD, hL, Bool.or_true]) (by omega)] at ih
        have hd := (Bool.and_eq_true _ _ ▸ hL : L = true ∧ lr t n i = true)
        rw [hd.1, bI_t] at ih ⊢
        cases hd1 : D with
        | true =>
          rw [hd1, Bool.true_and] at hD
          rw [hd1, bI_t] at ih
          simp (disch := first | omega | assumption | exact Nat.le_of_ble_eq_true rfl) only [m46, e46_0, e46_1, e46_2, e46_5, e46_8i, e46_8n, e46_8r, e46_9, e46_10, e46_11, e46_14, e46_17i, e46_17n, e46_17r, e46_18, e46_19i, e46_19n, e46_19r, e46_23, e46_24, e46_27, e46_30, e46_31, e46_33, e46_36i, e46_36n, e46_36r, e46_38, e46_39, e46_42, e46_44, e46_47, e46_50, e46_51, e46_54, e46_56, e46_59, e46_62, e46_64, e46_65i, e46_65n, e46_65r, e46_68, e46_71, e46_72, e46_75, Bool.false_eq_true, Bool.true_eq_false, gfK, pfK, lnK, isC, alK_n, asK_n, List.getElem?_cons_zero, List.getElem?_cons_succ, List.set_cons_zero, List.set_cons_succ, List.length_cons, List.length_nil, ↓reduceIte, if_true, if_false, eq_self, and_true, true_and, and_self, Option.bind_some, Option.bind_none, Option.toList_some, Option.toList_none, List.cons_append, List.nil_append, mset_at, mset_ne, mset_2, mset_mset, Nat.reduceLT, Nat.reduceAdd, G_1, h2, nI_leI, show ¬ n ≤ i from by omega, x_byteAt hT, x_isDigit h4, hD, x_isLetter h4, hd.2, bI_t, bI_f, nz1, nI_succ', ih]
        | false =>
          rw [hd1, bI_f] at ih
          simp (disch := first | omega | assumption | exact Nat.le_of_ble_eq_true rfl) only [m46, e46_0, e46_1, e46_2, e46_5, e46_8i, e46_8n, e46_8r, e46_9, e46_10, e46_11, e46_14, e46_17i, e46_17n, e46_17r, e46_18, e46_19i, e46_19n, e46_19r, e46_23, e46_24, e46_27, e46_30, e46_31, e46_33, e46_36i, e46_36n, e46_36r, e46_38, e46_39, e46_42, e46_44, e46_47, e46_50, e46_51, e46_54, e46_56, e46_59, e46_62, e46_64, e46_65i, e46_65n, e46_65r, e46_68, e46_71, e46_72, e46_75, Bool.false_eq_true, Bool.true_eq_false, gfK, pfK, lnK, isC, alK_n, asK_n, List.getElem?_cons_zero, List.getElem?_cons_succ, List.set_cons_zero, List.set_cons_succ, List.length_cons, List.length_nil, ↓reduceIte, if_true, if_false, eq_self, and_true, true_and, and_self, Option.bind_some, Option.bind_none, Option.toList_some, Option.toList_none, List.cons_append, List.nil_append, mset_at, mset_ne, mset_2, mset_mset, Nat.reduceLT, Nat.reduceAdd, G_1, h2, nI_leI, show ¬ n ≤ i from by omega, x_byteAt hT, x_isLetter h4, hd.2, bI_t, bI_f, nz1, nI_succ', ih]
      | false =>
        rw [rn_f (P := fun j => (D && dg t n j) || (L && lr t n j)) (by show (D && dg t n i || L && lr t n i) = false; rw [hD, hL, Bool.or_false])]
        cases hd1 : D with
        | true =>
          rw [hd1, Bool.true_and] at hD
          cases hl1 : L with
          | true =>
            rw [hl1, Bool.true_and] at hL
            simp (disch := first | omega | assumption | exact Nat.le_of_ble_eq_true rfl) only [m46, e46_0, e46_1, e46_2, e46_5, e46_8i, e46_8n, e46_8r, e46_9, e46_10, e46_11, e46_14, e46_17i, e46_17n, e46_17r, e46_18, e46_19i, e46_19n, e46_19r, e46_23, e46_24, e46_27, e46_30, e46_31, e46_33, e46_36i, e46_36n, e46_36r, e46_38, e46_39, e46_42, e46_44, e46_47, e46_50, e46_51, e46_54, e46_56, e46_59, e46_62, e46_64, e46_65i, e46_65n, e46_65r, e46_68, e46_71, e46_72, e46_75, Bool.false_eq_true, Bool.true_eq_false, gfK, pfK, lnK, isC, alK_n, asK_n, List.getElem?_cons_zero, List.getElem?_cons_succ, List.set_cons_zero, List.set_cons_succ, List.length_cons, List.length_nil, ↓reduceIte, if_true, if_false, eq_self, and_true, true_and, and_self, Option.bind_some, Option.bind_none, Option.toList_some, Option.toList_none, List.cons_append, List.nil_append, mset_at, mset_ne, mset_2, mset_mset, Nat.reduceLT, Nat.reduceAdd, G_1, h2, nI_leI, show ¬ n ≤ i from by omega, x_byteAt hT, x_isDigit h4, hD, x_isLetter h4, hL, bI_t, bI_f, nz1]
          | false =>
            simp (disch := first | omega | assumption | exact Nat.le_of_ble_eq_true rfl) only [m46, e46_0, e46_1, e46_2, e46_5, e46_8i, e46_8n, e46_8r, e46_9, e46_10, e46_11, e46_14, e46_17i, e46_17n, e46_17r, e46_18, e46_19i, e46_19n, e46_19r, e46_23, e46_24, e46_27, e46_30, e46_31, e46_33, e46_36i, e46_36n, e46_36r, e46_38, e46_39, e46_42, e46_44, e46_47, e46_50, e46_51, e46_54, e46_56, e46_59, e46_62, e46_64, e46_65i, e46_65n, e46_65r, e46_68, e46_71, e46_72, e46_75, Bool.false_eq_true, Bool.true_eq_false, gfK, pfK, lnK, isC, alK_n, asK_n, List.getElem?_cons_zero, List.getElem?_cons_succ, List.set_cons_zero, List.set_cons_succ, List.length_cons, List.length_nil, ↓reduceIte, if_true, if_false, eq_self, and_true, true_and, and_self, Option.bind_some, Option.bind_none, Option.toList_some, Option.toList_none, List.cons_append, List.nil_append, mset_at, mset_ne, mset_2, mset_mset, Nat.reduceLT, Nat.reduceAdd, G_1, h2, nI_leI, show ¬ n ≤ i from by omega, x_byteAt hT, x_isDigit h4, hD, bI_t, bI_f, nz1]
        | false =>
          cases hl1 : L with
          | true =>
            rw [hl1, Bool.true_and] at hL
            simp (disch := first | omega | assumption | exact Nat.le_of_ble_eq_true rfl) only [m46, e46_0, e46_1, e46_2, e46_5, e46_8i, e46_8n, e46_8r, e46_9, e46_10, e46_11, e46_14, e46_17i, e46_17n, e46_17r, e46_18, e46_19i, e46_19n, e46_19r, e46_23, e46_24, e46_27, e46_30, e46_31, e46_33, e46_36i, e46_36n, e46_36r, e46_38, e46_39, e46_42, e46_44, e46_47, e46_50, e46_51, e46_54, e46_56, e46_59, e46_62, e46_64, e46_65i, e46_65n, e46_65r, e46_68, e46_71, e46_72, e46_75, Bool.false_eq_true, Bool.true_eq_false, gfK, pfK, lnK, isC, alK_n, asK_n, List.getElem?_cons_zero, List.getElem?_cons_succ, List.set_cons_zero, List.set_cons_succ, List.length_cons, List.length_nil, ↓reduceIte, if_true, if_false, eq_self, and_true, true_and, and_self, Option.bind_some, Option.bind_none, Option.toList_some, Option.toList_none, List.cons_append, List.nil_append, mset_at, mset_ne, mset_2, mset_mset, Nat.reduceLT, Nat.reduceAdd, G_1, h2, nI_leI, show ¬ n ≤ i from by omega, x_byteAt hT, x_isLetter h4, hL, bI_t, bI_f, nz1]
          | false =>
            simp (disch := first | omega | assumption | exact Nat.le_of_ble_eq_true rfl) only [m46, e46_0, e46_1, e46_2, e46_5, e46_8i, e46_8n, e46_8r, e46_9, e46_10, e46_11, e46_14, e46_17i, e46_17n, e46_17r, e46_18, e46_19i, e46_19n, e46_19r, e46_23, e46_24, e46_27, e46_30, e46_31, e46_33, e46_36i, e46_36n, e46_36r, e46_38, e46_39, e46_42, e46_44, e46_47, e46_50, e46_51, e46_54, e46_56, e46_59, e46_62, e46_64, e46_65i, e46_65n, e46_65r, e46_68, e46_71, e46_72, e46_75, Bool.false_eq_true, Bool.true_eq_false, gfK, pfK, lnK, isC, alK_n, asK_n, List.getElem?_cons_zero, List.getElem?_cons_succ, List.set_cons_zero, List.set_cons_succ, List.length_cons, List.length_nil, ↓reduceIte, if_true, if_false, eq_self, and_true, true_and, and_self, Option.bind_some, Option.bind_none, Option.toList_some, Option.toList_none, List.cons_append, List.nil_append, mset_at, mset_ne, mset_2, mset_mset, Nat.reduceLT, Nat.reduceAdd, G_1, h2, nI_leI, show ¬ n ≤ i from by omega, x_byteAt hT, bI_t, bI_f, nz1]
/-- where a row ends; the place itself, if none begins there -/
def edE (t : Nat → Nat) (n p : Nat) : Nat := if dg t n p = true then rn (dg t n) n p else if lr t n p = true then rn (lr t n) n p else p
theorem edE_ed {t : Nat → Nat} {n p : Nat} (h : p < n) : max (edE t n p) (p + 1) = ed t n p := by
  have h1 := ed_gt (t := t) h
  unfold ed at h1
  unfold edE ed
  rw [if_pos h] at h1 ⊢
  split
  · rename_i g
    rw [if_pos g] at h1
    omega
  · rename_i g
    rw [if_neg g] at h1
    split
    · rename_i g1
      rw [if_pos g1] at h1
      omega
    · omega
theorem x_endOf (hT : TX A n t) (hp : p ≤ n) : evM 46 [.ref 1, .int (nI p)] (G b u v A τ) = some (some (.int (nI (edE t n p))), (G b u v A τ)) := by
  have hl := x_endOf_loop (b := b) (u := u) (v := v) (τ := τ) (x := nI p) hT (dg t n p) (lr t n p) (n - p) p none (by omega)
  have hT' := hT
  obtain ⟨h1, h2, h3, h4, h5⟩ := hT'
  have he : rn (fun j => (dg t n p && dg t n j) || (lr t n p && lr t n j)) n p = edE t n p := by
    unfold edE
    by_cases hd : dg t n p = true
    · rw [if_pos hd, hd, dg_lr hd]
      congr 1
      funext j
      simp
    · rw [if_neg hd, Bool.eq_false_iff.2 hd]
      by_cases hl : lr t n p = true
      · rw [if_pos hl, hl]
        congr 1
      · rw [if_neg hl, Bool.eq_false_iff.2 hl]
        exact rn_f rfl
  rw [he] at hl
  simp (disch := first | omega | assumption | exact Nat.le_of_ble_eq_true rfl) only [m46, e46_0, e46_1, e46_2, e46_5, e46_8i, e46_8n, e46_8r, e46_9, e46_10, e46_11, e46_14, e46_17i, e46_17n, e46_17r, e46_18, e46_19i, e46_19n, e46_19r, e46_23, e46_24, e46_27, e46_30, e46_31, e46_33, e46_36i, e46_36n, e46_36r, e46_38, e46_39, e46_42, e46_44, e46_47, e46_50, e46_51, e46_54, e46_56, e46_59, e46_62, e46_64, e46_65i, e46_65n, e46_65r, e46_68, e46_71, e46_72, e46_75, Bool.false_eq_true, Bool.true_eq_false, gfK, pfK, lnK, isC, alK_n, asK_n, List.getElem?_cons_zero, List.getElem?_cons_succ, List.set_cons_zero, List.set_cons_succ, List.length_cons, List.length_nil, ↓reduceIte, if_true, if_false, eq_self, and_true, true_and, and_self, Option.bind_some, Option.bind_none, Option.toList_some, Option.toList_none, List.cons_append, List.nil_append, mset_at, mset_ne, mset_2, mset_mset, Nat.reduceLT, Nat.reduceAdd, x_byteAt hT, G_1, x_isDigit h4, x_isLetter h4, hl]
/-- a token put behind the last one -/
def TKA (A : Nat → Nat → Int32) (c : Nat) (x y z : Int32) : Nat → Nat → Int32 := up (up (up (up A 5 (upd (A 5) c x)) 6 (upd (A 6) c y)) 7 (upd (A 7) c z)) 4 (fL [nI (c + 1), A 4 1])
theorem x_addToken (hc : A 4 0 = nI c) (hle : c ≤ 600) : evM 50 [.ref 4, .int x, .int y, .int z] (G b u v A τ) = some (none, G b u v (TKA A c x y z) τ) := by
  simp (disch := first | omega | assumption | exact Nat.le_of_ble_eq_true rfl) only [m50, e50_0, e50_1, e50_4, e50_7, e50_8, e50_11, e50_14, e50_17, e50_18, e50_21, e50_22, e50_25, e50_26, e50_27, e50_28, e50_31, e50_32, e50_35, e50_36, e50_37, e50_38, e50_41, e50_42, e50_45, e50_46, e50_47, e50_48i, e50_48r, e50_49, e50_52, e50_53, e50_54, e50_57, Bool.false_eq_true, Bool.true_eq_false, gfK, pfK, lnK, isC, alK_n, asK_n, List.getElem?_cons_zero, List.getElem?_cons_succ, List.set_cons_zero, List.set_cons_succ, List.length_cons, List.length_nil, ↓reduceIte, if_true, if_false, eq_self, and_true, true_and, and_self, Option.bind_some, Option.bind_none, Option.toList_some, Option.toList_none, List.cons_append, List.nil_append, mset_at, mset_ne, mset_2, mset_mset, Nat.reduceLT, Nat.reduceAdd, G_4, G_5, G_6, G_7, S_4, S_5, S_6, S_7, hc, nI_not_neg, gt_600, show ¬ 600 < c from by omega, nI_succ', upd_at, up_at, up_ne, TKA]
theorem x_addNumber_loop (hT : TX A n t) (hp : p ≤ e) (he : e ≤ n) (hd : ∀ j, p ≤ j → j < e → 48 ≤ t j ∧ t j ≤ 57) : ∀ (f k : Nat), p + k + f = e → ev 49 6 [some (.ref 4), some (.ref 1), some (.int (nI p)), some (.int (nI e)), some (.int (nI (cvl t p k))), some (.int (nI (p + k)))] [] (G b u v A τ) = ev 49 40 [some (.ref 4), some (.ref 1), some (.int (nI p)), some (.int (nI e)), some (.int (nI (cvl t p (e - p)))), some (.int (nI e))] [] (G b u v A τ)
  | 0, k, hk => by
    have h6 := hT.1
    have : p + k = e := by omega
    rw [show e - p = k by omega, this, e49_6]
    simp (disch := first | omega | assumption | exact Nat.le_of_ble_eq_true rfl) only [m49, e49_8, e49_9, Bool.false_eq_true, Bool.true_eq_false, gfK, pfK, lnK, isC, alK_n, asK_n, List.getElem?_cons_zero, List.getElem?_cons_succ, List.set_cons_zero, List.set_cons_succ, List.length_cons, List.length_nil, ↓reduceIte, if_true, if_false, eq_self, and_true, true_and, and_self, Option.bind_some, Option.bind_none, Option.toList_some, Option.toList_none, List.cons_append, List.nil_append, mset_at, mset_ne, mset_2, mset_mset, Nat.reduceLT, Nat.reduceAdd, nI_leI, Nat.le_refl]
  | f + 1, k, hk => by
    have ih := x_addNumber_loop hT hp he hd f (k + 1) (by omega)
    have h6 := hT.1
    have hb := hd (p + k) (by omega) (by omega)
    have hc := cvl_le (t := t) (p := p) k
    have e1 : nI (cvl t p k) * 10 + byA t n (p + k) - 48 = nI (cvl t p k * 10 + t (p + k) - 48) := by
      rw [byA_lt (by omega), lit_10, nI_mulN, nI_addN, lit_48, pk_sub (by omega)]
    have e2 : (if (16 : Int32) < nI (cvl t p k * 10 + t (p + k) - 48) then 16 else nI (cvl t p k * 10 + t (p + k) - 48)) = nI (cvl t p (k + 1)) := by
      rw [cvl]
      by_cases g : 16 < cvl t p k * 10 + t (p + k) - 48
      · rw [if_pos (show (16 : Int32) < nI (cvl t p k * 10 + t (p + k) - 48) from (nI_ltI (a := 16) (by decide) (by omega)).2 g), Nat.min_eq_right (by omega)]
        rfl
      · rw [if_neg (show ¬ (16 : Int32) < nI (cvl t p k * 10 + t (p + k) - 48) from fun q => g ((nI_ltI (a := 16) (by decide) (by omega)).1 q)), Nat.min_eq_left (by omega)]
    rw [← Nat.add_assoc] at ih
    rw [e49_6]
    simp (disch := first | omega | assumption | exact Nat.le_of_ble_eq_true rfl) only [m49, e49_8, e49_9, e49_12, e49_14, e49_16, e49_17, e49_18, e49_20, e49_23, e49_24, e49_26, e49_27, e49_29, e49_32i, e49_32n, e49_32r, e49_34i, e49_34n, e49_34r, e49_37, Bool.false_eq_true, Bool.true_eq_false, gfK, pfK, lnK, isC, alK_n, asK_n, List.getElem?_cons_zero, List.getElem?_cons_succ, List.set_cons_zero, List.set_cons_succ, List.length_cons, List.length_nil, ↓reduceIte, if_true, if_false, eq_self, and_true, true_and, and_self, Option.bind_some, Option.bind_none, Option.toList_some, Option.toList_none, List.cons_append, List.nil_append, mset_at, mset_ne, mset_2, mset_mset, Nat.reduceLT, Nat.reduceAdd, nI_leI, show ¬ e ≤ p + k from by omega, x_byteAt hT, G_1, e1, e2, nI_succ', ih]
theorem x_addNumber (hT : TX A n t) (hp : p < e) (he : e ≤ n) (hd : ∀ j, p ≤ j → j < e → 48 ≤ t j ∧ t j ≤ 57) (hc : A 4 0 = nI c) (hle : c ≤ 600) : evM 49 [.ref 4, .ref 1, .int (nI p), .int (nI e)] (G b u v A τ) = some (none, G b u v (TKA A c (nI (if (t p = 48 ∧ p + 1 < e) ∨ 15 < mvl t p (e - p) then 9 else 1)) (nI (cvl t p (e - p))) (nI p)) τ) := by
  have hl := x_addNumber_loop (b := b) (u := u) (v := v) (τ := τ) hT (Nat.le_of_lt hp) he hd (e - p) 0 (by omega)
  rw [Nat.add_zero] at hl
  have hl2 : ev 49 6 [some (.ref 4), some (.ref 1), some (.int (nI p)), some (.int (nI e)), some (.int 0), some (.int (nI p))] [] (G b u v A τ) = _ := hl
  have h6 := hT.1
  have hcv := cvl_le (t := t) (p := p) (e - p)
  have hb := byA_lt (t := t) (n := n) (i := p) (by omega)
  have hb1 := hd p (Nat.le_refl _) hp
  have hk := fun h => vl_eq (t := t) (p := p) (k := e - p) (by omega) (fun j hj => hd (p + j) (by omega) (by omega)) h
  by_cases h0 : t p = 48 ∧ p + 1 < e
  · rw [if_pos (Or.inl h0)]
    simp (disch := first | omega | assumption | exact Nat.le_of_ble_eq_true rfl) only [m49, e49_0, e49_1i, e49_1n, e49_1r, e49_3, e49_4i, e49_4n, e49_4r, e49_8, e49_9, e49_12, e49_14, e49_16, e49_17, e49_18, e49_20, e49_23, e49_24, e49_26, e49_27, e49_29, e49_32i, e49_32n, e49_32r, e49_34i, e49_34n, e49_34r, e49_37, e49_40, e49_41, e49_42, e49_45, e49_47, e49_50, e49_51, e49_52, e49_53, e49_54, e49_57, e49_58, e49_61, e49_62i, e49_62n, e49_62r, e49_64, e49_65, e49_67, e49_70, e49_72, e49_74, e49_77, e49_79, e49_82, e49_83, e49_85, e49_86, e49_89, Bool.false_eq_true, Bool.true_eq_false, gfK, pfK, lnK, isC, alK_n, asK_n, List.getElem?_cons_zero, List.getElem?_cons_succ, List.set_cons_zero, List.set_cons_succ, List.length_cons, List.length_nil, ↓reduceIte, if_true, if_false, eq_self, and_true, true_and, and_self, Option.bind_some, Option.bind_none, Option.toList_some, Option.toList_none, List.cons_append, List.nil_append, mset_at, mset_ne, mset_2, mset_mset, Nat.reduceLT, Nat.reduceAdd, hl2, x_byteAt hT, G_1, G_4, hb, eq_48, eq_true h0.1, nI_succ', nI_leI, show ¬ e ≤ p + 1 from by omega, nz1, x_addToken hc hle]
    rfl
  · have hk1 := hk (by omega)
    by_cases h1 : 15 < mvl t p (e - p)
    · rw [if_pos (Or.inr h1)]
      have h2 : 16 ≤ cvl t p (e - p) := hk1.1.2 h1
      by_cases h3 : t p = 48
      · simp (disch := first | omega | assumption | exact Nat.le_of_ble_eq_true rfl) only [m49, e49_0, e49_1i, e49_1n, e49_1r, e49_3, e49_4i, e49_4n, e49_4r, e49_8, e49_9, e49_12, e49_14, e49_16, e49_17, e49_18, e49_20, e49_23, e49_24, e49_26, e49_27, e49_29, e49_32i, e49_32n, e49_32r, e49_34i, e49_34n, e49_34r, e49_37, e49_40, e49_41, e49_42, e49_45, e49_47, e49_50, e49_51, e49_52, e49_53, e49_54, e49_57, e49_58, e49_61, e49_62i, e49_62n, e49_62r, e49_64, e49_65, e49_67, e49_70, e49_72, e49_74, e49_77, e49_79, e49_82, e49_83, e49_85, e49_86, e49_89, Bool.false_eq_true, Bool.true_eq_false, gfK, pfK, lnK, isC, alK_n, asK_n, List.getElem?_cons_zero, List.getElem?_cons_succ, List.set_cons_zero, List.set_cons_succ, List.length_cons, List.length_nil, ↓reduceIte, if_true, if_false, eq_self, and_true, true_and, and_self, Option.bind_some, Option.bind_none, Option.toList_some, Option.toList_none, List.cons_append, List.nil_append, mset_at, mset_ne, mset_2, mset_mset, Nat.reduceLT, Nat.reduceAdd, hl2, x_byteAt hT, G_1, G_4, hb, eq_48, eq_true h3, nI_succ', nI_leI, show e ≤ p + 1 from by omega, nz1, lt_16, show ¬ cvl t p (e - p) < 16 from by omega, x_addToken hc hle]
        rfl
      · simp (disch := first | omega | assumption | exact Nat.le_of_ble_eq_true rfl) only [m49, e49_0, e49_1i, e49_1n, e49_1r, e49_3, e49_4i, e49_4n, e49_4r, e49_8, e49_9, e49_12, e49_14, e49_16, e49_17, e49_18, e49_20, e49_23, e49_24, e49_26, e49_27, e49_29, e49_32i, e49_32n, e49_32r, e49_34i, e49_34n, e49_34r, e49_37, e49_40, e49_41, e49_42, e49_45, e49_47, e49_50, e49_51, e49_52, e49_53, e49_54, e49_57, e49_58, e49_61, e49_62i, e49_62n, e49_62r, e49_64, e49_65, e49_67, e49_70, e49_72, e49_74, e49_77, e49_79, e49_82, e49_83, e49_85, e49_86, e49_89, Bool.false_eq_true, Bool.true_eq_false, gfK, pfK, lnK, isC, alK_n, asK_n, List.getElem?_cons_zero, List.getElem?_cons_succ, List.set_cons_zero, List.set_cons_succ, List.length_cons, List.length_nil, ↓reduceIte, if_true, if_false, eq_self, and_true, true_and, and_self, Option.bind_some, Option.bind_none, Option.toList_some, Option.toList_none, List.cons_append, List.nil_append, mset_at, mset_ne, mset_2, mset_mset, Nat.reduceLT, Nat.reduceAdd, hl2, x_byteAt hT, G_1, G_4, hb, eq_48, h3, nI_succ', nz1, lt_16, show ¬ cvl t p (e - p) < 16 from by omega, x_addToken hc hle]
        rfl
    · rw [if_neg (fun q => q.elim h0 h1)]
      have h2 : ¬ 16 ≤ cvl t p (e - p) := fun q => h1 (hk1.1.1 q)
      by_cases h3 : t p = 48
      · simp (disch := first | omega | assumption | exact Nat.le_of_ble_eq_true rfl) only [m49, e49_0, e49_1i, e49_1n, e49_1r, e49_3, e49_4i, e49_4n, e49_4r, e49_8, e49_9, e49_12, e49_14, e49_16, e49_17, e49_18, e49_20, e49_23, e49_24, e49_26, e49_27, e49_29, e49_32i, e49_32n, e49_32r, e49_34i, e49_34n, e49_34r, e49_37, e49_40, e49_41, e49_42, e49_45, e49_47, e49_50, e49_51, e49_52, e49_53, e49_54, e49_57, e49_58, e49_61, e49_62i, e49_62n, e49_62r, e49_64, e49_65, e49_67, e49_70, e49_72, e49_74, e49_77, e49_79, e49_82, e49_83, e49_85, e49_86, e49_89, Bool.false_eq_true, Bool.true_eq_false, gfK, pfK, lnK, isC, alK_n, asK_n, List.getElem?_cons_zero, List.getElem?_cons_succ, List.set_cons_zero, List.set_cons_succ, List.length_cons, List.length_nil, ↓reduceIte, if_true, if_false, eq_self, and_true, true_and, and_self, Option.bind_some, Option.bind_none, Option.toList_some, Option.toList_none, List.cons_append, List.nil_append, mset_at, mset_ne, mset_2, mset_mset, Nat.reduceLT, Nat.reduceAdd, hl2, x_byteAt hT, G_1, G_4, hb, eq_48, eq_true h3, nI_succ', nI_leI, show e ≤ p + 1 from by omega, nz1, lt_16, show cvl t p (e - p) < 16 from by omega, x_addToken hc hle]
        rfl
      · simp (disch := first | omega | assumption | exact Nat.le_of_ble_eq_true rfl) only [m49, e49_0, e49_1i, e49_1n, e49_1r, e49_3, e49_4i, e49_4n, e49_4r, e49_8, e49_9, e49_12, e49_14, e49_16, e49_17, e49_18, e49_20, e49_23, e49_24, e49_26, e49_27, e49_29, e49_32i, e49_32n, e49_32r, e49_34i, e49_34n, e49_34r, e49_37, e49_40, e49_41, e49_42, e49_45, e49_47, e49_50, e49_51, e49_52, e49_53, e49_54, e49_57, e49_58, e49_61, e49_62i, e49_62n, e49_62r, e49_64, e49_65, e49_67, e49_70, e49_72, e49_74, e49_77, e49_79, e49_82, e49_83, e49_85, e49_86, e49_89, Bool.false_eq_true, Bool.true_eq_false, gfK, pfK, lnK, isC, alK_n, asK_n, List.getElem?_cons_zero, List.getElem?_cons_succ, List.set_cons_zero, List.set_cons_succ, List.length_cons, List.length_nil, ↓reduceIte, if_true, if_false, eq_self, and_true, true_and, and_self, Option.bind_some, Option.bind_none, Option.toList_some, Option.toList_none, List.cons_append, List.nil_append, mset_at, mset_ne, mset_2, mset_mset, Nat.reduceLT, Nat.reduceAdd, hl2, x_byteAt hT, G_1, G_4, hb, eq_48, h3, nI_succ', nz1, lt_16, show cvl t p (e - p) < 16 from by omega, x_addToken hc hle]
        rfl
end XTEXT
