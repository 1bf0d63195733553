/-! CALLS on book and s: led, about. -/
section CALLS3
variable {b : Nat} {u v : Int64} {A : Nat → Nat → Int32} {τ : Nat × Nat × Nat × (Nat → Int32)} {a : Int32}
variable {tick kept : Int32} {mr ar lr nr : Nat} {mf af lf nf s : Nat → Int32}
theorem mled_neg (hm : lr ≤ 20) : ∀ (L : List Nat) (x : Int32) (n : Nat), IsCh (fun j => s (45 + 8 * j + 4)) lr x L → n + L.length ≤ 20 → ev 200 40 [some (.ref 60), some (.int a), some (.int (-1)), some (.int (nI n)), some (.int x)] [] (MS b u v A τ s) = some (some (.int (nI (n + L.length))), (MS b u v A τ s))
  | [], x, n, h, hn => by
    have hx : x = -9 := h
    rw [e200_40]
    simp (disch := first | omega | assumption | exact Nat.le_of_ble_eq_true rfl) only [m200, e200_0, e200_1, e200_2, e200_5, e200_6, e200_7, e200_10, e200_13, e200_14, e200_15, e200_18, e200_19, e200_20, e200_21i, e200_21n, e200_21r, e200_22, e200_23, e200_26, e200_29, e200_31, e200_32, e200_33, e200_34, e200_36, e200_37, e200_38i, e200_38n, e200_38r, e200_42, e200_44, e200_47, e200_48, e200_49, e200_52, e200_54, e200_55i, e200_55n, e200_55r, e200_58, e200_59, e200_62, e200_64, e200_67, e200_68, e200_69, e200_70i, e200_70n, e200_70r, e200_72, e200_75, e200_76, e200_79, e200_80, e200_83, e200_84, gfK, pfK, lnK, isC, alK_n, asK_n, List.getElem?_cons_zero, List.getElem?_cons_succ, List.set_cons_zero, List.set_cons_succ, List.length_cons, List.length_nil, ↓reduceIte, if_true, if_false, eq_self, and_true, true_and, and_self, Option.bind_some, Option.bind_none, Option.toList_some, Option.toList_none, List.cons_append, List.nil_append, mset_at, mset_ne, mset_2, mset_mset, Nat.reduceLT, Nat.reduceAdd, hx, show ¬ (0 : Int32) ≤ -1 from by decide, Nat.add_zero, List.length_nil]
  | j :: L, x, n, ⟨h1, h2, h3⟩, hn => by
    subst h1
    simp only [List.length_cons] at hn
    have ih := mled_neg hm L _ (n + 1) h3 (by omega)
    have hne : ¬ nI n = -1 := fun e => by
      have := nI_not_neg (n := n) (by omega)
      rw [e] at this
      exact this.mp (by decide)
    have hj : j < 20 := by omega
    rw [e200_40]
    simp (disch := first | omega | assumption | exact Nat.le_of_ble_eq_true rfl) only [m200, e200_0, e200_1, e200_2, e200_5, e200_6, e200_7, e200_10, e200_13, e200_14, e200_15, e200_18, e200_19, e200_20, e200_21i, e200_21n, e200_21r, e200_22, e200_23, e200_26, e200_29, e200_31, e200_32, e200_33, e200_34, e200_36, e200_37, e200_38i, e200_38n, e200_38r, e200_42, e200_44, e200_47, e200_48, e200_49, e200_52, e200_54, e200_55i, e200_55n, e200_55r, e200_58, e200_59, e200_62, e200_64, e200_67, e200_68, e200_69, e200_70i, e200_70n, e200_70r, e200_72, e200_75, e200_76, e200_79, e200_80, e200_83, e200_84, gfK, pfK, lnK, isC, alK_n, asK_n, List.getElem?_cons_zero, List.getElem?_cons_succ, List.set_cons_zero, List.set_cons_succ, List.length_cons, List.length_nil, ↓reduceIte, if_true, if_false, eq_self, and_true, true_and, and_self, Option.bind_some, Option.bind_none, Option.toList_some, Option.toList_none, List.cons_append, List.nil_append, mset_at, mset_ne, mset_2, mset_mset, Nat.reduceLT, Nat.reduceAdd, nI_ne9, hne, M_60, M_70, M_leaveAt, ra_4, nI_succ', ih, show n + 1 + L.length = n + (L.length + 1) from by omega]
theorem mled_pos (hm : lr ≤ 20) {k : Nat} (hk : k < 2147483648) : ∀ (L : List Nat) (x : Int32) (n : Nat), IsCh (fun j => s (45 + 8 * j + 4)) lr x L → n + L.length ≤ 20 → n ≤ k → ev 200 40 [some (.ref 60), some (.int a), some (.int (nI k)), some (.int (nI n)), some (.int x)] [] (MS b u v A τ s) = some (some (.int (if k - n < L.length then nI (L.getD (k - n) 0) else -1)), (MS b u v A τ s))
  | [], x, n, h, hn, hnk => by
    have hx : x = -9 := h
    rw [e200_40]
    simp (disch := first | omega | assumption | exact Nat.le_of_ble_eq_true rfl) only [m200, e200_0, e200_1, e200_2, e200_5, e200_6, e200_7, e200_10, e200_13, e200_14, e200_15, e200_18, e200_19, e200_20, e200_21i, e200_21n, e200_21r, e200_22, e200_23, e200_26, e200_29, e200_31, e200_32, e200_33, e200_34, e200_36, e200_37, e200_38i, e200_38n, e200_38r, e200_42, e200_44, e200_47, e200_48, e200_49, e200_52, e200_54, e200_55i, e200_55n, e200_55r, e200_58, e200_59, e200_62, e200_64, e200_67, e200_68, e200_69, e200_70i, e200_70n, e200_70r, e200_72, e200_75, e200_76, e200_79, e200_80, e200_83, e200_84, gfK, pfK, lnK, isC, alK_n, asK_n, List.getElem?_cons_zero, List.getElem?_cons_succ, List.set_cons_zero, List.set_cons_succ, List.length_cons, List.length_nil, ↓reduceIte, if_true, if_false, eq_self, and_true, true_and, and_self, Option.bind_some, Option.bind_none, Option.toList_some, Option.toList_none, List.cons_append, List.nil_append, mset_at, mset_ne, mset_2, mset_mset, Nat.reduceLT, Nat.reduceAdd, hx, nI_0_le, List.length_nil, Nat.not_lt_zero]
  | j :: L, x, n, ⟨h1, h2, h3⟩, hn, hnk => by
    subst h1
    simp only [List.length_cons] at hn
    have hj : j < 20 := by omega
    rw [e200_40]
    by_cases hkn : n = k
    · subst hkn
      simp (disch := first | omega | assumption | exact Nat.le_of_ble_eq_true rfl) only [m200, e200_0, e200_1, e200_2, e200_5, e200_6, e200_7, e200_10, e200_13, e200_14, e200_15, e200_18, e200_19, e200_20, e200_21i, e200_21n, e200_21r, e200_22, e200_23, e200_26, e200_29, e200_31, e200_32, e200_33, e200_34, e200_36, e200_37, e200_38i, e200_38n, e200_38r, e200_42, e200_44, e200_47, e200_48, e200_49, e200_52, e200_54, e200_55i, e200_55n, e200_55r, e200_58, e200_59, e200_62, e200_64, e200_67, e200_68, e200_69, e200_70i, e200_70n, e200_70r, e200_72, e200_75, e200_76, e200_79, e200_80, e200_83, e200_84, gfK, pfK, lnK, isC, alK_n, asK_n, List.getElem?_cons_zero, List.getElem?_cons_succ, List.set_cons_zero, List.set_cons_succ, List.length_cons, List.length_nil, ↓reduceIte, if_true, if_false, eq_self, and_true, true_and, and_self, Option.bind_some, Option.bind_none, Option.toList_some, Option.toList_none, List.cons_append, List.nil_append, mset_at, mset_ne, mset_2, mset_mset, Nat.reduceLT, Nat.reduceAdd, nI_ne9, Nat.sub_self, List.getD_cons_zero, Nat.zero_lt_succ]
    · have ih := mled_pos hm hk L _ (n + 1) h3 (by omega) (by omega)
      have hne : ¬ nI n = nI k := fun e => hkn (nI_inj (by omega) hk e)
      rw [show k - n = (k - (n + 1)) + 1 from by omega]
      simp (disch := first | omega | assumption | exact Nat.le_of_ble_eq_true rfl) only [m200, e200_0, e200_1, e200_2, e200_5, e200_6, e200_7, e200_10, e200_13, e200_14, e200_15, e200_18, e200_19, e200_20, e200_21i, e200_21n, e200_21r, e200_22, e200_23, e200_26, e200_29, e200_31, e200_32, e200_33, e200_34, e200_36, e200_37, e200_38i, e200_38n, e200_38r, e200_42, e200_44, e200_47, e200_48, e200_49, e200_52, e200_54, e200_55i, e200_55n, e200_55r, e200_58, e200_59, e200_62, e200_64, e200_67, e200_68, e200_69, e200_70i, e200_70n, e200_70r, e200_72, e200_75, e200_76, e200_79, e200_80, e200_83, e200_84, gfK, pfK, lnK, isC, alK_n, asK_n, List.getElem?_cons_zero, List.getElem?_cons_succ, List.set_cons_zero, List.set_cons_succ, List.length_cons, List.length_nil, ↓reduceIte, if_true, if_false, eq_self, and_true, true_and, and_self, Option.bind_some, Option.bind_none, Option.toList_some, Option.toList_none, List.cons_append, List.nil_append, mset_at, mset_ne, mset_2, mset_mset, Nat.reduceLT, Nat.reduceAdd, nI_ne9, hne, M_60, M_70, M_leaveAt, ra_4, nI_succ', ih, Nat.add_lt_add_iff_right, List.getD_cons_succ]
end CALLS3
