/-! QUARREL, BESIDE on both sides. -/
def fstO (P : Nat → Bool) : Nat → Nat → Option Nat
  | _, 0 => none
  | i, n + 1 => if P i = true then some i else fstO P (i + 1) n
theorem fstO_none {P : Nat → Bool} : ∀ (n i : Nat), (∀ j, i ≤ j → j < i + n → P j = false) → fstO P i n = none
  | 0, i, _ => rfl
  | n + 1, i, h => by
    rw [fstO, if_neg (by rw [h i (by omega) (by omega)]; exact Bool.false_ne_true)]
    exact fstO_none n (i + 1) fun j h1 h2 => h j (by omega) (by omega)
theorem fstO_cut {P : Nat → Bool} {k : Nat} : ∀ (n i : Nat), (∀ j, k ≤ j → P j = false) → k ≤ i + n → fstO P i n = fstO P i (k - i)
  | 0, i, h, h2 => by rw [show k - i = 0 by omega]
  | n + 1, i, h, h2 => by
    by_cases hk : k ≤ i
    · rw [show k - i = 0 by omega, fstO_none (n + 1) i (fun j h1 _ => h j (by omega))]
      rfl
    · rw [show k - i = (k - (i + 1)) + 1 by omega, fstO, fstO]
      by_cases he : P i = true
      · rw [if_pos he, if_pos he]
      · rw [if_neg he, if_neg he]
        exact fstO_cut n (i + 1) h (by omega)
/-- the first pair -/
def prO (P : Nat → Nat → Bool) (N : Nat) : Nat → Nat → Int32
  | _, 0 => -9
  | a, n + 1 => match fstO (P a) (a + 1) (N - (a + 1)) with
    | some c => nI (8 * a + c)
    | none => prO P N (a + 1) n
section QUARREL
variable {b : Nat} {u v : Int64} {A : Nat → Nat → Int32} {τ : Nat × Nat × Nat × (Nat → Int32)} {lc : Nat → Nat} {lt : Nat → Nat → Nat} {s d e i a : Nat} {x y z : Int32} {σ : mS} {ws : Nat → Int32} {l2 l4 l5 l6 : Option Value}
variable {tick kept : Int32} {mr ar lr nr : Nat} {mf af lf nf st : Nat → Int32}
def qrl (w : Nat → Int32) (a c : Nat) : Bool := decide (¬ w a = 0) && (decide (¬ w c = 0) && decide (w a &&& w c = 0))
theorem quarrel_in (hm : mr ≤ 8) (hw : ∀ i, i < 8 → A 59 i = ws i) (ha : a < 8) : ∀ (n c : Nat), c + n = 8 → ev 131 12 [some (.ref 0), some (.int (nI a)), some (.int (nI c))] [] (BS b u v A τ tick kept mr mf ar af lr lf nr nf) = match fstO (qrl (wsC mr ws) a) c n with
    | some c => some (some (.int (nI (8 * a + c))), (BS b u v A τ tick kept mr mf ar af lr lf nr nf))
    | none => ev 131 61 [some (.ref 0), some (.int (nI a)), some (.int (nI 8))] [] (BS b u v A τ tick kept mr mf ar af lr lf nr nf)
  | 0, c, hc => by
    have : c = 8 := by omega
    subst this
    rw [e131_12]
    simp (disch := first | omega | assumption | exact Nat.le_of_ble_eq_true rfl) only [m131, e131_13, e131_15, Bool.false_eq_true, Bool.true_eq_false, gfK, pfK, lnK, isC, alK_n, asK_n, List.getElem?_cons_zero, List.getElem?_cons_succ, List.set_cons_zero, List.set_cons_succ, List.length_cons, List.length_nil, ↓reduceIte, if_true, if_false, eq_self, and_true, true_and, and_self, Option.bind_some, Option.bind_none, Option.toList_some, Option.toList_none, List.cons_append, List.nil_append, mset_at, mset_ne, mset_2, mset_mset, Nat.reduceLT, Nat.reduceAdd, le_8, Nat.le_refl, fstO]
  | n + 1, c, hc => by
    have ih := quarrel_in hm hw ha n (c + 1) (by omega)
    have h8 : ¬ 8 ≤ c := by omega
    have h1 := R_wishOf (b := b) (u := u) (v := v) (τ := τ) (tick := tick) (kept := kept) (mf := mf) (ar := ar) (af := af) (lr := lr) (lf := lf) (nr := nr) (nf := nf) hm hw ha
    have h2 := R_wishOf (b := b) (u := u) (v := v) (τ := τ) (tick := tick) (kept := kept) (mf := mf) (ar := ar) (af := af) (lr := lr) (lf := lf) (nr := nr) (nf := nf) hm hw (show c < 8 by omega)
    rw [e131_12, fstO]
    by_cases g1 : wsC mr ws a = 0
    · rw [if_neg (by unfold qrl; rw [decide_eq_false (fun q => q g1), Bool.false_and]; exact Bool.false_ne_true)]
      rw [← ih]
      simp (disch := first | omega | assumption | exact Nat.le_of_ble_eq_true rfl) only [m131, e131_13, e131_15, e131_18, e131_19, e131_20, e131_23, e131_26, e131_27, e131_28, e131_31, e131_34, e131_35, e131_36, e131_39, e131_40, e131_41, e131_44, e131_45, e131_48, e131_50, e131_51, e131_52, e131_53, e131_54, e131_55i, e131_55n, e131_55r, e131_58, Bool.false_eq_true, Bool.true_eq_false, gfK, pfK, lnK, isC, alK_n, asK_n, List.getElem?_cons_zero, List.getElem?_cons_succ, List.set_cons_zero, List.set_cons_succ, List.length_cons, List.length_nil, ↓reduceIte, if_true, if_false, eq_self, and_true, true_and, and_self, Option.bind_some, Option.bind_none, Option.toList_some, Option.toList_none, List.cons_append, List.nil_append, mset_at, mset_ne, mset_2, mset_mset, Nat.reduceLT, Nat.reduceAdd, le_8, h8, B_0, h1, eq_true g1, nI_succ']
    · by_cases g2 : wsC mr ws c = 0
      · rw [if_neg (by unfold qrl; rw [decide_eq_false (p := ¬ wsC mr ws c = 0) (fun q => q g2), Bool.false_and, Bool.and_false]; exact Bool.false_ne_true)]
        rw [← ih]
        simp (disch := first | omega | assumption | exact Nat.le_of_ble_eq_true rfl) only [m131, e131_13, e131_15, e131_18, e131_19, e131_20, e131_23, e131_26, e131_27, e131_28, e131_31, e131_34, e131_35, e131_36, e131_39, e131_40, e131_41, e131_44, e131_45, e131_48, e131_50, e131_51, e131_52, e131_53, e131_54, e131_55i, e131_55n, e131_55r, e131_58, Bool.false_eq_true, Bool.true_eq_false, gfK, pfK, lnK, isC, alK_n, asK_n, List.getElem?_cons_zero, List.getElem?_cons_succ, List.set_cons_zero, List.set_cons_succ, List.length_cons, List.length_nil, ↓reduceIte, if_true, if_false, eq_self, and_true, true_and, and_self, Option.bind_some, Option.bind_none, Option.toList_some, Option.toList_none, List.cons_append, List.nil_append, mset_at, mset_ne, mset_2, mset_mset, Nat.reduceLT, Nat.reduceAdd, le_8, h8, B_0, h1, g1, h2, eq_true g2, nI_succ']
      · by_cases g3 : wsC mr ws a &&& wsC mr ws c = 0
        · rw [if_pos (by unfold qrl; rw [decide_eq_true g1, decide_eq_true g2, decide_eq_true g3]; rfl)]
          simp (disch := first | omega | assumption | exact Nat.le_of_ble_eq_true rfl) only [m131, e131_13, e131_15, e131_18, e131_19, e131_20, e131_23, e131_26, e131_27, e131_28, e131_31, e131_34, e131_35, e131_36, e131_39, e131_40, e131_41, e131_44, e131_45, e131_48, e131_50, e131_51, e131_52, e131_53, e131_54, e131_55i, e131_55n, e131_55r, e131_58, Bool.false_eq_true, Bool.true_eq_false, gfK, pfK, lnK, isC, alK_n, asK_n, List.getElem?_cons_zero, List.getElem?_cons_succ, List.set_cons_zero, List.set_cons_succ, List.length_cons, List.length_nil, ↓reduceIte, if_true, if_false, eq_self, and_true, true_and, and_self, Option.bind_some, Option.bind_none, Option.toList_some, Option.toList_none, List.cons_append, List.nil_append, mset_at, mset_ne, mset_2, mset_mset, Nat.reduceLT, Nat.reduceAdd, le_8, h8, B_0, h1, g1, h2, g2, eq_true g3, lm_8, nI_addN]
        · rw [if_neg (by unfold qrl; rw [decide_eq_false g3, Bool.and_false, Bool.and_false]; exact Bool.false_ne_true)]
          rw [← ih]
          simp (disch := first | omega | assumption | exact Nat.le_of_ble_eq_true rfl) only [m131, e131_13, e131_15, e131_18, e131_19, e131_20, e131_23, e131_26, e131_27, e131_28, e131_31, e131_34, e131_35, e131_36, e131_39, e131_40, e131_41, e131_44, e131_45, e131_48, e131_50, e131_51, e131_52, e131_53, e131_54, e131_55i, e131_55n, e131_55r, e131_58, Bool.false_eq_true, Bool.true_eq_false, gfK, pfK, lnK, isC, alK_n, asK_n, List.getElem?_cons_zero, List.getElem?_cons_succ, List.set_cons_zero, List.set_cons_succ, List.length_cons, List.length_nil, ↓reduceIte, if_true, if_false, eq_self, and_true, true_and, and_self, Option.bind_some, Option.bind_none, Option.toList_some, Option.toList_none, List.cons_append, List.nil_append, mset_at, mset_ne, mset_2, mset_mset, Nat.reduceLT, Nat.reduceAdd, le_8, h8, B_0, h1, g1, h2, g2, g3, nI_succ']
theorem quarrel_out (hm : mr ≤ 8) (hw : ∀ i, i < 8 → A 59 i = ws i) : ∀ (n a : Nat) (l2 : Option Value), a + n = 8 → ev 131 2 [some (.ref 0), some (.int (nI a)), l2] [] (BS b u v A τ tick kept mr mf ar af lr lf nr nf) = some (some (.int (prO (qrl (wsC mr ws)) 8 a n)), (BS b u v A τ tick kept mr mf ar af lr lf nr nf))
  | 0, a, l2, ha => by
    have : a = 8 := by omega
    subst this
    rw [e131_2]
    simp (disch := first | omega | assumption | exact Nat.le_of_ble_eq_true rfl) only [m131, e131_3, e131_5, e131_8, e131_9, e131_10, e131_11i, e131_11n, e131_11r, e131_13, e131_15, e131_18, e131_19, e131_20, e131_23, e131_26, e131_27, e131_28, e131_31, e131_34, e131_35, e131_36, e131_39, e131_40, e131_41, e131_44, e131_45, e131_48, e131_50, e131_51, e131_52, e131_53, e131_54, e131_55i, e131_55n, e131_55r, e131_58, e131_61i, e131_61n, e131_61r, e131_64, e131_67, e131_69, Bool.false_eq_true, Bool.true_eq_false, gfK, pfK, lnK, isC, alK_n, asK_n, List.getElem?_cons_zero, List.getElem?_cons_succ, List.set_cons_zero, List.set_cons_succ, List.length_cons, List.length_nil, ↓reduceIte, if_true, if_false, eq_self, and_true, true_and, and_self, Option.bind_some, Option.bind_none, Option.toList_some, Option.toList_none, List.cons_append, List.nil_append, mset_at, mset_ne, mset_2, mset_mset, Nat.reduceLT, Nat.reduceAdd, le_8, Nat.le_refl, prO]
  | n + 1, a, l2, ha => by
    have ih := fun l2 => quarrel_out hm hw n (a + 1) l2 (by omega)
    have h8 : ¬ 8 ≤ a := by omega
    have hin := quarrel_in (b := b) (u := u) (v := v) (τ := τ) (tick := tick) (kept := kept) (mf := mf) (ar := ar) (af := af) (lr := lr) (lf := lf) (nr := nr) (nf := nf) (ws := ws) hm hw (show a < 8 by omega) (8 - (a + 1)) (a + 1) (by omega)
    rw [e131_2, prO]
    cases hf : fstO (qrl (wsC mr ws) a) (a + 1) (8 - (a + 1)) with
    | some c =>
      rw [hf] at hin
      simp (disch := first | omega | assumption | exact Nat.le_of_ble_eq_true rfl) only [m131, e131_3, e131_5, e131_8, e131_9, e131_10, e131_11i, e131_11n, e131_11r, Bool.false_eq_true, Bool.true_eq_false, gfK, pfK, lnK, isC, alK_n, asK_n, List.getElem?_cons_zero, List.getElem?_cons_succ, List.set_cons_zero, List.set_cons_succ, List.length_cons, List.length_nil, ↓reduceIte, if_true, if_false, eq_self, and_true, true_and, and_self, Option.bind_some, Option.bind_none, Option.toList_some, Option.toList_none, List.cons_append, List.nil_append, mset_at, mset_ne, mset_2, mset_mset, Nat.reduceLT, Nat.reduceAdd, le_8, h8, ra_1, hin]
    | none =>
      rw [hf] at hin
      simp (disch := first | omega | assumption | exact Nat.le_of_ble_eq_true rfl) only [m131, e131_3, e131_5, e131_8, e131_9, e131_10, e131_11i, e131_11n, e131_11r, Bool.false_eq_true, Bool.true_eq_false, gfK, pfK, lnK, isC, alK_n, asK_n, List.getElem?_cons_zero, List.getElem?_cons_succ, List.set_cons_zero, List.set_cons_succ, List.length_cons, List.length_nil, ↓reduceIte, if_true, if_false, eq_self, and_true, true_and, and_self, Option.bind_some, Option.bind_none, Option.toList_some, Option.toList_none, List.cons_append, List.nil_append, mset_at, mset_ne, mset_2, mset_mset, Nat.reduceLT, Nat.reduceAdd, le_8, h8, ra_1, hin]
      simp (disch := first | omega | assumption | exact Nat.le_of_ble_eq_true rfl) only [m131, e131_61i, e131_61n, e131_61r, e131_64, Bool.false_eq_true, Bool.true_eq_false, gfK, pfK, lnK, isC, alK_n, asK_n, List.getElem?_cons_zero, List.getElem?_cons_succ, List.set_cons_zero, List.set_cons_succ, List.length_cons, List.length_nil, ↓reduceIte, if_true, if_false, eq_self, and_true, true_and, and_self, Option.bind_some, Option.bind_none, Option.toList_some, Option.toList_none, List.cons_append, List.nil_append, mset_at, mset_ne, mset_2, mset_mset, Nat.reduceLT, Nat.reduceAdd, nI_succ', ih]
theorem mquarrel_in (hm : mr ≤ 8) (s0 : st 0 = nI mr) (hw : ∀ i, i < 8 → A 69 i = ws i) (ha : a < mr) : ∀ (n c : Nat), c + n = mr → ev 211 21 [some (.ref 60), some (.int (nI a)), some (.int (nI c))] [] (MS b u v A τ st) = match fstO (qrl ws a) c n with
    | some c => some (some (.int (nI (8 * a + c))), (MS b u v A τ st))
    | none => ev 211 78 [some (.ref 60), some (.int (nI a)), some (.int (nI mr))] [] (MS b u v A τ st)
  | 0, c, hc => by
    have : c = mr := by omega
    subst this
    rw [e211_21]
    simp (disch := first | omega | assumption | exact Nat.le_of_ble_eq_true rfl) only [m211, e211_22, e211_23, e211_26, e211_27, e211_28, Bool.false_eq_true, Bool.true_eq_false, gfK, pfK, lnK, isC, alK_n, asK_n, List.getElem?_cons_zero, List.getElem?_cons_succ, List.set_cons_zero, List.set_cons_succ, List.length_cons, List.length_nil, ↓reduceIte, if_true, if_false, eq_self, and_true, true_and, and_self, Option.bind_some, Option.bind_none, Option.toList_some, Option.toList_none, List.cons_append, List.nil_append, mset_at, mset_ne, mset_2, mset_mset, Nat.reduceLT, Nat.reduceAdd, M_60, M_70, alK_l0, s0, nI_leI, Nat.le_refl, fstO]
  | n + 1, c, hc => by
    have ih := mquarrel_in hm s0 hw ha n (c + 1) (by omega)
    have h8 : ¬ mr ≤ c := by omega
    have h1 := hw a (by omega)
    have h2 := hw c (by omega)
    rw [e211_21, fstO]
    by_cases g1 : ws a = 0
    · rw [if_neg (by unfold qrl; rw [decide_eq_false (fun q => q g1), Bool.false_and]; exact Bool.false_ne_true)]
      rw [← ih]
      simp (disch := first | omega | assumption | exact Nat.le_of_ble_eq_true rfl) only [m211, e211_22, e211_23, e211_26, e211_27, e211_28, e211_31, e211_32, e211_35, e211_36, e211_37, e211_40, e211_41, e211_44, e211_45, e211_46, e211_49, e211_50, e211_53, e211_54, e211_55, e211_56, e211_59, e211_60, e211_61, e211_62, e211_65, e211_67, e211_68, e211_69, e211_70, e211_71, e211_72i, e211_72n, e211_72r, e211_75, Bool.false_eq_true, Bool.true_eq_false, gfK, pfK, lnK, isC, alK_n, asK_n, List.getElem?_cons_zero, List.getElem?_cons_succ, List.set_cons_zero, List.set_cons_succ, List.length_cons, List.length_nil, ↓reduceIte, if_true, if_false, eq_self, and_true, true_and, and_self, Option.bind_some, Option.bind_none, Option.toList_some, Option.toList_none, List.cons_append, List.nil_append, mset_at, mset_ne, mset_2, mset_mset, Nat.reduceLT, Nat.reduceAdd, M_60, M_69, M_70, alK_l0, s0, nI_leI, h8, h1, eq_true g1, nI_succ']
    · by_cases g2 : ws c = 0
      · rw [if_neg (by unfold qrl; rw [decide_eq_false (p := ¬ ws c = 0) (fun q => q g2), Bool.false_and, Bool.and_false]; exact Bool.false_ne_true)]
        rw [← ih]
        simp (disch := first | omega | assumption | exact Nat.le_of_ble_eq_true rfl) only [m211, e211_22, e211_23, e211_26, e211_27, e211_28, e211_31, e211_32, e211_35, e211_36, e211_37, e211_40, e211_41, e211_44, e211_45, e211_46, e211_49, e211_50, e211_53, e211_54, e211_55, e211_56, e211_59, e211_60, e211_61, e211_62, e211_65, e211_67, e211_68, e211_69, e211_70, e211_71, e211_72i, e211_72n, e211_72r, e211_75, Bool.false_eq_true, Bool.true_eq_false, gfK, pfK, lnK, isC, alK_n, asK_n, List.getElem?_cons_zero, List.getElem?_cons_succ, List.set_cons_zero, List.set_cons_succ, List.length_cons, List.length_nil, ↓reduceIte, if_true, if_false, eq_self, and_true, true_and, and_self, Option.bind_some, Option.bind_none, Option.toList_some, Option.toList_none, List.cons_append, List.nil_append, mset_at, mset_ne, mset_2, mset_mset, Nat.reduceLT, Nat.reduceAdd, M_60, M_69, M_70, alK_l0, s0, nI_leI, h8, h1, g1, h2, eq_true g2, nI_succ']
      · by_cases g3 : ws a &&& ws c = 0
        · rw [if_pos (by unfold qrl; rw [decide_eq_true g1, decide_eq_true g2, decide_eq_true g3]; rfl)]
          simp (disch := first | omega | assumption | exact Nat.le_of_ble_eq_true rfl) only [m211, e211_22, e211_23, e211_26, e211_27, e211_28, e211_31, e211_32, e211_35, e211_36, e211_37, e211_40, e211_41, e211_44, e211_45, e211_46, e211_49, e211_50, e211_53, e211_54, e211_55, e211_56, e211_59, e211_60, e211_61, e211_62, e211_65, e211_67, e211_68, e211_69, e211_70, e211_71, e211_72i, e211_72n, e211_72r, e211_75, Bool.false_eq_true, Bool.true_eq_false, gfK, pfK, lnK, isC, alK_n, asK_n, List.getElem?_cons_zero, List.getElem?_cons_succ, List.set_cons_zero, List.set_cons_succ, List.length_cons, List.length_nil, ↓reduceIte, if_true, if_false, eq_self, and_true, true_and, and_self, Option.bind_some, Option.bind_none, Option.toList_some, Option.toList_none, List.cons_append, List.nil_append, mset_at, mset_ne, mset_2, mset_mset, Nat.reduceLT, Nat.reduceAdd, M_60, M_69, M_70, alK_l0, s0, nI_leI, h8, h1, g1, h2, g2, eq_true g3, lm_8, nI_addN]
        · rw [if_neg (by unfold qrl; rw [decide_eq_false g3, Bool.and_false, Bool.and_false]; exact Bool.false_ne_true)]
          rw [← ih]
          simp (disch := first | omega | assumption | exact Nat.le_of_ble_eq_true rfl) only [m211, e211_22, e211_23, e211_26, e211_27, e211_28, e211_31, e211_32, e211_35, e211_36, e211_37, e211_40, e211_41, e211_44, e211_45, e211_46, e211_49, e211_50, e211_53, e211_54, e211_55, e211_56, e211_59, e211_60, e211_61, e211_62, e211_65, e211_67, e211_68, e211_69, e211_70, e211_71, e211_72i, e211_72n, e211_72r, e211_75, Bool.false_eq_true, Bool.true_eq_false, gfK, pfK, lnK, isC, alK_n, asK_n, List.getElem?_cons_zero, List.getElem?_cons_succ, List.set_cons_zero, List.set_cons_succ, List.length_cons, List.length_nil, ↓reduceIte, if_true, if_false, eq_self, and_true, true_and, and_self, Option.bind_some, Option.bind_none, Option.toList_some, Option.toList_none, List.cons_append, List.nil_append, mset_at, mset_ne, mset_2, mset_mset, Nat.reduceLT, Nat.reduceAdd, M_60, M_69, M_70, alK_l0, s0, nI_leI, h8, h1, g1, h2, g2, g3, nI_succ']
theorem mquarrel_out (hm : mr ≤ 8) (s0 : st 0 = nI mr) (hw : ∀ i, i < 8 → A 69 i = ws i) : ∀ (n a : Nat) (l2 : Option Value), a + n = mr → ev 211 7 [some (.ref 60), some (.int (nI a)), l2] [] (MS b u v A τ st) = some (some (.int (prO (qrl ws) mr a n)), (MS b u v A τ st))
  | 0, a, l2, ha => by
    have : a = mr := by omega
    subst this
    rw [e211_7]
    simp (disch := first | omega | assumption | exact Nat.le_of_ble_eq_true rfl) only [m211, e211_8, e211_9, e211_12, e211_13, e211_14, e211_17, e211_18, e211_19, e211_20i, e211_20n, e211_20r, e211_22, e211_23, e211_26, e211_27, e211_28, e211_31, e211_32, e211_35, e211_36, e211_37, e211_40, e211_41, e211_44, e211_45, e211_46, e211_49, e211_50, e211_53, e211_54, e211_55, e211_56, e211_59, e211_60, e211_61, e211_62, e211_65, e211_67, e211_68, e211_69, e211_70, e211_71, e211_72i, e211_72n, e211_72r, e211_75, e211_78i, e211_78n, e211_78r, e211_81, e211_84, e211_86, Bool.false_eq_true, Bool.true_eq_false, gfK, pfK, lnK, isC, alK_n, asK_n, List.getElem?_cons_zero, List.getElem?_cons_succ, List.set_cons_zero, List.set_cons_succ, List.length_cons, List.length_nil, ↓reduceIte, if_true, if_false, eq_self, and_true, true_and, and_self, Option.bind_some, Option.bind_none, Option.toList_some, Option.toList_none, List.cons_append, List.nil_append, mset_at, mset_ne, mset_2, mset_mset, Nat.reduceLT, Nat.reduceAdd, M_60, M_70, alK_l0, s0, nI_leI, Nat.le_refl, prO]
  | n + 1, a, l2, ha => by
    have ih := fun l2 => mquarrel_out hm s0 hw n (a + 1) l2 (by omega)
    have h8 : ¬ mr ≤ a := by omega
    have hin := mquarrel_in (b := b) (u := u) (v := v) (τ := τ) (ws := ws) (st := st) hm s0 hw (show a < mr by omega) (mr - (a + 1)) (a + 1) (by omega)
    rw [e211_7, prO]
    cases hf : fstO (qrl ws a) (a + 1) (mr - (a + 1)) with
    | some c =>
      rw [hf] at hin
      simp (disch := first | omega | assumption | exact Nat.le_of_ble_eq_true rfl) only [m211, e211_8, e211_9, e211_12, e211_13, e211_14, e211_17, e211_18, e211_19, e211_20i, e211_20n, e211_20r, Bool.false_eq_true, Bool.true_eq_false, gfK, pfK, lnK, isC, alK_n, asK_n, List.getElem?_cons_zero, List.getElem?_cons_succ, List.set_cons_zero, List.set_cons_succ, List.length_cons, List.length_nil, ↓reduceIte, if_true, if_false, eq_self, and_true, true_and, and_self, Option.bind_some, Option.bind_none, Option.toList_some, Option.toList_none, List.cons_append, List.nil_append, mset_at, mset_ne, mset_2, mset_mset, Nat.reduceLT, Nat.reduceAdd, M_60, M_70, alK_l0, s0, nI_leI, h8, ra_1, hin]
    | none =>
      rw [hf] at hin
      simp (disch := first | omega | assumption | exact Nat.le_of_ble_eq_true rfl) only [m211, e211_8, e211_9, e211_12, e211_13, e211_14, e211_17, e211_18, e211_19, e211_20i, e211_20n, e211_20r, Bool.false_eq_true, Bool.true_eq_false, gfK, pfK, lnK, isC, alK_n, asK_n, List.getElem?_cons_zero, List.getElem?_cons_succ, List.set_cons_zero, List.set_cons_succ, List.length_cons, List.length_nil, ↓reduceIte, if_true, if_false, eq_self, and_true, true_and, and_self, Option.bind_some, Option.bind_none, Option.toList_some, Option.toList_none, List.cons_append, List.nil_append, mset_at, mset_ne, mset_2, mset_mset, Nat.reduceLT, Nat.reduceAdd, M_60, M_70, alK_l0, s0, nI_leI, h8, ra_1, hin]
      simp (disch := first | omega | assumption | exact Nat.le_of_ble_eq_true rfl) only [m211, e211_78i, e211_78n, e211_78r, e211_81, Bool.false_eq_true, Bool.true_eq_false, gfK, pfK, lnK, isC, alK_n, asK_n, List.getElem?_cons_zero, List.getElem?_cons_succ, List.set_cons_zero, List.set_cons_succ, List.length_cons, List.length_nil, ↓reduceIte, if_true, if_false, eq_self, and_true, true_and, and_self, Option.bind_some, Option.bind_none, Option.toList_some, Option.toList_none, List.cons_append, List.nil_append, mset_at, mset_ne, mset_2, mset_mset, Nat.reduceLT, Nat.reduceAdd, nI_succ', ih]
theorem fstO_congr {P Q : Nat → Bool} : ∀ (n i : Nat), (∀ j, i ≤ j → j < i + n → P j = Q j) → fstO P i n = fstO Q i n
  | 0, i, _ => rfl
  | n + 1, i, h => by rw [fstO, fstO, h i (by omega) (by omega), fstO_congr n (i + 1) (fun j h1 h2 => h j (by omega) (by omega))]
theorem qrl_hi {c : Nat} (hc : mr ≤ c) : qrl (wsC mr ws) a c = false := by
  unfold qrl
  rw [show wsC mr ws c = 0 from if_neg (by omega), decide_eq_false (p := ¬ (0 : Int32) = 0) (fun g => g rfl), Bool.false_and, Bool.and_false]
theorem prO_eq (hm : mr ≤ 8) : ∀ n a, a + n = 8 → prO (qrl (wsC mr ws)) 8 a n = prO (qrl ws) mr a (mr - a)
  | 0, a, ha => by rw [show mr - a = 0 by omega, prO, prO]
  | n + 1, a, ha => by
    have ih := prO_eq hm n (a + 1) (by omega)
    have e1 : fstO (qrl (wsC mr ws) a) (a + 1) (8 - (a + 1)) = fstO (qrl (wsC mr ws) a) (a + 1) (mr - (a + 1)) := fstO_cut _ _ (fun j hj => qrl_hi hj) (by omega)
    by_cases h : a < mr
    · rw [show mr - a = (mr - (a + 1)) + 1 by omega, prO, prO, e1]
      have e2 : fstO (qrl (wsC mr ws) a) (a + 1) (mr - (a + 1)) = fstO (qrl ws a) (a + 1) (mr - (a + 1)) := fstO_congr _ _ fun j h1 h2 => by
        unfold qrl wsC
        rw [if_pos h, if_pos (by omega)]
      rw [e2, ih]
    · rw [show mr - (a + 1) = 0 by omega] at ih e1
      have e3 : prO (qrl (wsC mr ws)) 8 a (n + 1) = prO (qrl (wsC mr ws)) 8 (a + 1) n := by
        rw [prO, e1]
        rfl
      rw [show mr - a = 0 by omega, e3, ih, prO, prO]
theorem c_quarrel (hJ : JB tick mr mf ar af lr lf nr nf st) (ws : Nat → Int32) : ∃ r, (∀ b u v A τ, (∀ i, i < 8 → A 59 i = ws i) → evM 131 [.ref 0] (BS b u v A τ tick kept mr mf ar af lr lf nr nf) = some (some (.int r), (BS b u v A τ tick kept mr mf ar af lr lf nr nf))) ∧ (∀ b u v A τ, A 60 0 = 0 → (∀ i, i < 8 → A 69 i = ws i) → evM 211 [.ref 60] (MS b u v A τ st) = some (some (.int r), (MS b u v A τ st))) := by
  obtain ⟨⟨c1, c2, c3, c4, c5, s0, s1, s2, s3, s4⟩, jm, ja, jl, jn⟩ := id hJ
  refine ⟨prO (qrl ws) mr 0 mr, fun b u v A τ hw => ?_, fun b u v A τ h0 hw => ?_⟩
  · have h := quarrel_out (b := b) (u := u) (v := v) (τ := τ) (tick := tick) (kept := kept) (mf := mf) (ar := ar) (af := af) (lr := lr) (lf := lf) (nr := nr) (nf := nf) (ws := ws) c2 hw 8 0 none rfl
    rw [prO_eq c2 8 0 rfl, Nat.sub_zero, ← lit_0] at h
    simp (disch := first | omega | assumption | exact Nat.le_of_ble_eq_true rfl) only [m131, e131_0, e131_1i, e131_1n, e131_1r, Bool.false_eq_true, Bool.true_eq_false, gfK, pfK, lnK, isC, alK_n, asK_n, List.getElem?_cons_zero, List.getElem?_cons_succ, List.set_cons_zero, List.set_cons_succ, List.length_cons, List.length_nil, ↓reduceIte, if_true, if_false, eq_self, and_true, true_and, and_self, Option.bind_some, Option.bind_none, Option.toList_some, Option.toList_none, List.cons_append, List.nil_append, mset_at, mset_ne, mset_2, mset_mset, Nat.reduceLT, Nat.reduceAdd, h]
  · have h := mquarrel_out (b := b) (u := u) (v := v) (τ := τ) (ws := ws) (st := st) c2 s0 hw mr 0 none (by omega)
    rw [← lit_0] at h
    simp (disch := first | omega | assumption | exact Nat.le_of_ble_eq_true rfl) only [m211, e211_0, e211_1, e211_2, e211_5, e211_6i, e211_6n, e211_6r, Bool.false_eq_true, Bool.true_eq_false, gfK, pfK, lnK, isC, alK_n, asK_n, List.getElem?_cons_zero, List.getElem?_cons_succ, List.set_cons_zero, List.set_cons_succ, List.length_cons, List.length_nil, ↓reduceIte, if_true, if_false, eq_self, and_true, true_and, and_self, Option.bind_some, Option.bind_none, Option.toList_some, Option.toList_none, List.cons_append, List.nil_append, mset_at, mset_ne, mset_2, mset_mset, Nat.reduceLT, Nat.reduceAdd, M_60, M_thr h0, h]
/-- where a doing leads by a lot -/
def ledS (lc : Nat → Nat) (lt : Nat → Nat → Nat) (s d l : Nat) : Nat := if lc (s * 8 + d) = 0 then s else lt (s * 8 + d) (if l < lc (s * 8 + d) then l else lc (s * 8 + d) - 1)
theorem ledS_lt (hW : WF lc lt) (hs : s < 16) (hd : d < 8) {l : Nat} : ledS lc lt s d l < 16 := by
  unfold ledS
  split
  · exact hs
  · refine (hW (s * 8 + d) (by omega)).2 _ ?_
    split <;> omega
theorem W_ledTo {w : Nat} (hw : w = 8 ∨ w = 19) (hC : CW A w lc lt) (hW : WF lc lt) (hs : s < 16) (hd : d < 8) {l : Nat} (hl : l < 4) : evM 82 [.ref w, .int (nI s), .int (nI d), .int (nI l)] (G b u v A τ) = some (some (.int (nI (ledS lc lt s d l))), (G b u v A τ)) := by
  have h4 := (hW (s * 8 + d) (by omega)).1
  unfold ledS
  by_cases h0 : lc (s * 8 + d) = 0
  · rw [if_pos h0]
    have e : nI (lc (s * 8 + d)) - 1 = -1 := by rw [h0]; decide
    simp (disch := first | omega | assumption | exact Nat.le_of_ble_eq_true rfl) only [m82, e82_0, e82_1, e82_2, e82_3, e82_6, e82_7, e82_8i, e82_8n, e82_8r, e82_10, e82_12, e82_15, e82_16, e82_19, e82_20, e82_21, e82_22, e82_23, e82_25, e82_28, e82_31, Bool.false_eq_true, Bool.true_eq_false, gfK, pfK, lnK, isC, alK_n, asK_n, List.getElem?_cons_zero, List.getElem?_cons_succ, List.set_cons_zero, List.set_cons_succ, List.length_cons, List.length_nil, ↓reduceIte, if_true, if_false, eq_self, and_true, true_and, and_self, Option.bind_some, Option.bind_none, Option.toList_some, Option.toList_none, List.cons_append, List.nil_append, mset_at, mset_ne, mset_2, mset_mset, Nat.reduceLT, Nat.reduceAdd, G_W0 hw, W_lotsIn hw hC hs hd, e, show ¬ (0 : Int32) ≤ -1 from by decide]
  · rw [if_neg h0]
    have e : nI (lc (s * 8 + d)) - 1 = nI (lc (s * 8 + d) - 1) := by
      obtain ⟨m, hm⟩ : ∃ m, lc (s * 8 + d) = m + 1 := ⟨lc (s * 8 + d) - 1, by omega⟩
      rw [hm]
      exact nI_prd m
    by_cases h1 : l < lc (s * 8 + d)
    · rw [if_pos h1]
      simp (disch := first | omega | assumption | exact Nat.le_of_ble_eq_true rfl) only [m82, e82_0, e82_1, e82_2, e82_3, e82_6, e82_7, e82_8i, e82_8n, e82_8r, e82_10, e82_12, e82_15, e82_16, e82_19, e82_20, e82_21, e82_22, e82_23, e82_25, e82_28, e82_31, Bool.false_eq_true, Bool.true_eq_false, gfK, pfK, lnK, isC, alK_n, asK_n, List.getElem?_cons_zero, List.getElem?_cons_succ, List.set_cons_zero, List.set_cons_succ, List.length_cons, List.length_nil, ↓reduceIte, if_true, if_false, eq_self, and_true, true_and, and_self, Option.bind_some, Option.bind_none, Option.toList_some, Option.toList_none, List.cons_append, List.nil_append, mset_at, mset_ne, mset_2, mset_mset, Nat.reduceLT, Nat.reduceAdd, G_W0 hw, W_lotsIn hw hC hs hd, e, nI_0_le, nI_ltI, show ¬ lc (s * 8 + d) - 1 < l from by omega, W_lotAt hw hC hW hs hd h1]
    · rw [if_neg h1]
      have h2 : lc (s * 8 + d) - 1 < lc (s * 8 + d) := by omega
      simp (disch := first | omega | assumption | exact Nat.le_of_ble_eq_true rfl) only [m82, e82_0, e82_1, e82_2, e82_3, e82_6, e82_7, e82_8i, e82_8n, e82_8r, e82_10, e82_12, e82_15, e82_16, e82_19, e82_20, e82_21, e82_22, e82_23, e82_25, e82_28, e82_31, Bool.false_eq_true, Bool.true_eq_false, gfK, pfK, lnK, isC, alK_n, asK_n, List.getElem?_cons_zero, List.getElem?_cons_succ, List.set_cons_zero, List.set_cons_succ, List.length_cons, List.length_nil, ↓reduceIte, if_true, if_false, eq_self, and_true, true_and, and_self, Option.bind_some, Option.bind_none, Option.toList_some, Option.toList_none, List.cons_append, List.nil_append, mset_at, mset_ne, mset_2, mset_mset, Nat.reduceLT, Nat.reduceAdd, G_W0 hw, W_lotsIn hw hC hs hd, e, nI_0_le, nI_ltI, show lc (s * 8 + d) - 1 < l from by omega, W_lotAt hw hC hW hs hd h2]
end QUARREL
