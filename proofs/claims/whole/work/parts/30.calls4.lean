/-! CALLS on book and s: about. -/
section CALLS4
variable {b : Nat} {u v : Int64} {A : Nat → Nat → Int32} {τ : Nat × Nat × Nat × (Nat → Int32)} {a x : Int32}
variable {tick kept : Int32} {mr ar lr nr m : Nat} {mf af lf nf s : Nat → Int32}
theorem cntF_congr {P Q : Nat → Bool} : ∀ n, (∀ k, k < n → P k = Q k) → cntF P n = cntF Q n
  | 0, _ => by rw [cntF, cntF]
  | n + 1, h => by rw [cntF, cntF, cntF_congr n (fun k hk => h k (by omega)), h n (by omega)]
theorem mabout_loop (hn : nr ≤ 60) (s3 : s 3 = nI nr) : ∀ (n i : Nat), i + n = nr → ev 201 37 [some (.ref 60), some (.int a), some (.int x), some (.int (nI m)), some (.int (nI (cntF (fun k => decide (s (205 + 10 * k + 1) = a)) i))), some (.int (nI i))] [] (MS b u v A τ s) = ev 201 84 [some (.ref 60), some (.int a), some (.int x), some (.int (nI m)), some (.int (nI (cntF (fun k => decide (s (205 + 10 * k + 1) = a)) nr))), some (.int (nI nr))] [] (MS b u v A τ s)
  | 0, i, hi => by
    have : i = nr := by omega
    subst this
    rw [e201_37]
    simp (disch := first | omega | assumption | exact Nat.le_of_ble_eq_true rfl) only [m201, e201_39, e201_40, e201_43, e201_44, e201_45, gfK, pfK, lnK, isC, alK_n, asK_n, List.getElem?_cons_zero, List.getElem?_cons_succ, List.set_cons_zero, List.set_cons_succ, List.length_cons, List.length_nil, ↓reduceIte, if_true, if_false, eq_self, and_true, true_and, and_self, Option.bind_some, Option.bind_none, Option.toList_some, Option.toList_none, List.cons_append, List.nil_append, mset_at, mset_ne, mset_2, mset_mset, Nat.reduceLT, Nat.reduceAdd, M_60, M_70, alK_l3, s3, nI_leI, Nat.le_refl]
  | n + 1, i, hi => by
    have ih := mabout_loop hn s3 n (i + 1) (by omega)
    have h9 : ¬ nr ≤ i := by omega
    rw [e201_37]
    by_cases h1 : s (205 + 10 * i + 1) = a
    · rw [cntF, if_pos (decide_eq_true h1)] at ih
      simp (disch := first | omega | assumption | exact Nat.le_of_ble_eq_true rfl) only [m201, e201_39, e201_40, e201_43, e201_44, e201_45, e201_48, e201_50, e201_51, e201_54, e201_57, e201_59, e201_61, e201_62, e201_63, e201_64, e201_65, e201_66, e201_67, e201_70, e201_71, e201_74, e201_75, e201_76i, e201_76n, e201_76r, e201_78i, e201_78n, e201_78r, e201_81, gfK, pfK, lnK, isC, alK_n, asK_n, List.getElem?_cons_zero, List.getElem?_cons_succ, List.set_cons_zero, List.set_cons_succ, List.length_cons, List.length_nil, ↓reduceIte, if_true, if_false, eq_self, and_true, true_and, and_self, Option.bind_some, Option.bind_none, Option.toList_some, Option.toList_none, List.cons_append, List.nil_append, mset_at, mset_ne, mset_2, mset_mset, Nat.reduceLT, Nat.reduceAdd, M_60, M_70, alK_l3, s3, nI_leI, h9, lm_10, la_205, ra_1, h1, ih]
    · rw [cntF, if_neg (by rw [decide_eq_false h1]; exact Bool.false_ne_true), Nat.add_zero] at ih
      simp (disch := first | omega | assumption | exact Nat.le_of_ble_eq_true rfl) only [m201, e201_39, e201_40, e201_43, e201_44, e201_45, e201_48, e201_50, e201_51, e201_54, e201_57, e201_59, e201_61, e201_62, e201_63, e201_64, e201_65, e201_66, e201_67, e201_70, e201_71, e201_74, e201_75, e201_76i, e201_76n, e201_76r, e201_78i, e201_78n, e201_78r, e201_81, gfK, pfK, lnK, isC, alK_n, asK_n, List.getElem?_cons_zero, List.getElem?_cons_succ, List.set_cons_zero, List.set_cons_succ, List.length_cons, List.length_nil, ↓reduceIte, if_true, if_false, eq_self, and_true, true_and, and_self, Option.bind_some, Option.bind_none, Option.toList_some, Option.toList_none, List.cons_append, List.nil_append, mset_at, mset_ne, mset_2, mset_mset, Nat.reduceLT, Nat.reduceAdd, M_60, M_70, alK_l3, s3, nI_leI, h9, lm_10, la_205, ra_1, h1, Int32.add_zero, ih]
end CALLS4
