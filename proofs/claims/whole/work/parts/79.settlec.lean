/-! THE CLASS'S settle AGAIN, over the heap of the class alone (printed by gen/mk_dup.py out of 36..38). -/
def cellsC (b : Nat) (u v : Int64) (A : Nat → Nat → Int32) : List mE := (cells b u v A).take 60
def Gc (b : Nat) (u v : Int64) (A : Nat → Nat → Int32) (τ : Nat × Nat × Nat × (Nat → Int32)) : mS := (fun k => (cellsC b u v A)[k]?, τ)
theorem Gc_set {b b1 : Nat} {u v u1 v1 : Int64} {A A1 : Nat → Nat → Int32} {τ : Nat × Nat × Nat × (Nat → Int32)} {k : Nat} {e : mE} (hk : k < 60) (h : (cellsC b u v A).set k e = cellsC b1 u1 v1 A1) : mset (Gc b u v A τ) k e = Gc b1 u1 v1 A1 τ := by
  refine Prod.ext (funext fun j => ?_) rfl
  show hu (fun k => (cellsC b u v A)[k]?) k e j = (cellsC b1 u1 v1 A1)[j]?
  rw [← h, List.getElem?_set]
  unfold hu
  by_cases hj : j = k
  · rw [if_pos hj, if_pos hj.symm, if_pos (show k < (cellsC b u v A).length from hk)]
  · rw [if_neg hj, if_neg (fun z => hj z.symm)]
section HEAPC
variable {b w : Nat} {u v : Int64} {A : Nat → Nat → Int32} {τ : Nat × Nat × Nat × (Nat → Int32)} {f : Nat → Int32} {x0 x1 x2 x3 x4 x5 x6 : Int32}
theorem G_0c : (Gc b u v A τ).1 0 = some (.inr (7, [.ref 1, .ref 3, .ref b, .ref (27 - b), .ref 30, .ref 39, .ref 48, .ref 57, .ref 58, .ref 59, .long u])) := rfl
theorem G_30c : (Gc b u v A τ).1 30 = some (.inr (0, [.ref 31, .ref 33, .ref 35, .ref 37, .int (A 30 0), .int (A 30 1)])) := rfl
theorem S_30c : mset (Gc b u v A τ) 30 (.inr (0, [.ref 31, .ref 33, .ref 35, .ref 37, .int x0, .int x1])) = Gc b u v (up A 30 (fL [x0, x1])) τ := Gc_set (by decide) rfl
theorem G_31c : (Gc b u v A τ).1 31 = some (.inr (3, [.int 8, .int 3, .ref 32, .int (A 31 0)])) := rfl
theorem S_31c : mset (Gc b u v A τ) 31 (.inr (3, [.int 8, .int 3, .ref 32, .int x0])) = Gc b u v (up A 31 (fL [x0])) τ := Gc_set (by decide) rfl
theorem G_32c : (Gc b u v A τ).1 32 = some (.inl (0, 24, (A 32))) := rfl
theorem S_32c : mset (Gc b u v A τ) 32 (.inl (0, 24, f)) = Gc b u v (up A 32 f) τ := Gc_set (by decide) rfl
theorem G_57c : (Gc b u v A τ).1 57 = some (.inl (0, 8, (A 57))) := rfl
theorem S_57c : mset (Gc b u v A τ) 57 (.inl (0, 8, f)) = Gc b u v (up A 57 f) τ := Gc_set (by decide) rfl
theorem G_W0c (hw : w = 8 ∨ w = 19) : (Gc b u v A τ).1 w = some (.inr (6, [.ref (w + 1), .ref (w + 2), .ref (w + 3), .ref (w + 4), .ref (w + 5), .int (A w 0), .int (A w 1), .int (A w 2), .int (A w 3), .int (A w 4), .int (A w 5), .int (A w 6), .ref (w + 6), .ref (w + 7), .ref (w + 8), .ref (w + 9), .ref (w + 10)])) := by
  rcases hw with rfl | rfl <;> rfl
theorem S_W0c (hw : w = 8 ∨ w = 19) : mset (Gc b u v A τ) w (.inr (6, [.ref (w + 1), .ref (w + 2), .ref (w + 3), .ref (w + 4), .ref (w + 5), .int x0, .int x1, .int x2, .int x3, .int x4, .int x5, .int x6, .ref (w + 6), .ref (w + 7), .ref (w + 8), .ref (w + 9), .ref (w + 10)])) = Gc b u v (up A w (fL [x0, x1, x2, x3, x4, x5, x6])) τ := by
  rcases hw with rfl | rfl <;> exact Gc_set (by decide) rfl
theorem G_W1c (hw : w = 8 ∨ w = 19) : (Gc b u v A τ).1 (w + 1) = some (.inl (0, 128, (A (w + 1)))) := by
  rcases hw with rfl | rfl <;> rfl
theorem S_W1c (hw : w = 8 ∨ w = 19) : mset (Gc b u v A τ) (w + 1) (.inl (0, 128, f)) = Gc b u v (up A (w + 1) f) τ := by
  rcases hw with rfl | rfl <;> exact Gc_set (by decide) rfl
theorem G_W2c (hw : w = 8 ∨ w = 19) : (Gc b u v A τ).1 (w + 2) = some (.inl (0, 128, (A (w + 2)))) := by
  rcases hw with rfl | rfl <;> rfl
theorem S_W2c (hw : w = 8 ∨ w = 19) : mset (Gc b u v A τ) (w + 2) (.inl (0, 128, f)) = Gc b u v (up A (w + 2) f) τ := by
  rcases hw with rfl | rfl <;> exact Gc_set (by decide) rfl
theorem G_W3c (hw : w = 8 ∨ w = 19) : (Gc b u v A τ).1 (w + 3) = some (.inl (0, 512, (A (w + 3)))) := by
  rcases hw with rfl | rfl <;> rfl
theorem S_W3c (hw : w = 8 ∨ w = 19) : mset (Gc b u v A τ) (w + 3) (.inl (0, 512, f)) = Gc b u v (up A (w + 3) f) τ := by
  rcases hw with rfl | rfl <;> exact Gc_set (by decide) rfl
theorem G_W4c (hw : w = 8 ∨ w = 19) : (Gc b u v A τ).1 (w + 4) = some (.inl (0, 10, (A (w + 4)))) := by
  rcases hw with rfl | rfl <;> rfl
theorem S_W4c (hw : w = 8 ∨ w = 19) : mset (Gc b u v A τ) (w + 4) (.inl (0, 10, f)) = Gc b u v (up A (w + 4) f) τ := by
  rcases hw with rfl | rfl <;> exact Gc_set (by decide) rfl
theorem G_W5c (hw : w = 8 ∨ w = 19) : (Gc b u v A τ).1 (w + 5) = some (.inl (0, 10, (A (w + 5)))) := by
  rcases hw with rfl | rfl <;> rfl
theorem S_W5c (hw : w = 8 ∨ w = 19) : mset (Gc b u v A τ) (w + 5) (.inl (0, 10, f)) = Gc b u v (up A (w + 5) f) τ := by
  rcases hw with rfl | rfl <;> exact Gc_set (by decide) rfl
theorem G_W6c (hw : w = 8 ∨ w = 19) : (Gc b u v A τ).1 (w + 6) = some (.inl (0, 16, (A (w + 6)))) := by
  rcases hw with rfl | rfl <;> rfl
theorem S_W6c (hw : w = 8 ∨ w = 19) : mset (Gc b u v A τ) (w + 6) (.inl (0, 16, f)) = Gc b u v (up A (w + 6) f) τ := by
  rcases hw with rfl | rfl <;> exact Gc_set (by decide) rfl
theorem G_W7c (hw : w = 8 ∨ w = 19) : (Gc b u v A τ).1 (w + 7) = some (.inl (0, 16, (A (w + 7)))) := by
  rcases hw with rfl | rfl <;> rfl
theorem S_W7c (hw : w = 8 ∨ w = 19) : mset (Gc b u v A τ) (w + 7) (.inl (0, 16, f)) = Gc b u v (up A (w + 7) f) τ := by
  rcases hw with rfl | rfl <;> exact Gc_set (by decide) rfl
theorem G_W8c (hw : w = 8 ∨ w = 19) : (Gc b u v A τ).1 (w + 8) = some (.inl (0, 16, (A (w + 8)))) := by
  rcases hw with rfl | rfl <;> rfl
theorem S_W8c (hw : w = 8 ∨ w = 19) : mset (Gc b u v A τ) (w + 8) (.inl (0, 16, f)) = Gc b u v (up A (w + 8) f) τ := by
  rcases hw with rfl | rfl <;> exact Gc_set (by decide) rfl
theorem G_W9c (hw : w = 8 ∨ w = 19) : (Gc b u v A τ).1 (w + 9) = some (.inl (0, 16, (A (w + 9)))) := by
  rcases hw with rfl | rfl <;> rfl
theorem S_W9c (hw : w = 8 ∨ w = 19) : mset (Gc b u v A τ) (w + 9) (.inl (0, 16, f)) = Gc b u v (up A (w + 9) f) τ := by
  rcases hw with rfl | rfl <;> exact Gc_set (by decide) rfl
theorem G_W10c (hw : w = 8 ∨ w = 19) : (Gc b u v A τ).1 (w + 10) = some (.inr (2, [.int (A (w + 10) 0), .int (A (w + 10) 1), .int (A (w + 10) 2), .int (A (w + 10) 3)])) := by
  rcases hw with rfl | rfl <;> rfl
theorem S_W10c (hw : w = 8 ∨ w = 19) : mset (Gc b u v A τ) (w + 10) (.inr (2, [.int x0, .int x1, .int x2, .int x3])) = Gc b u v (up A (w + 10) (fL [x0, x1, x2, x3])) τ := by
  rcases hw with rfl | rfl <;> exact Gc_set (by decide) rfl
end HEAPC
section WCLASS
variable {b w : Nat} {u v : Int64} {A : Nat → Nat → Int32} {τ : Nat × Nat × Nat × (Nat → Int32)} {lc : Nat → Nat} {lt : Nat → Nat → Nat} {s d i : Nat} {S x y z : Int32} {σ : mS}
theorem W_lotsInc (hw : w = 8 ∨ w = 19) (hC : CW A w lc lt) (hs : s < 16) (hd : d < 8) : evM 62 [.ref w, .int (nI s), .int (nI d)] (Gc b u v A τ) = some (some (.int (nI (lc (s * 8 + d)))), (Gc b u v A τ)) := by
  have hk := (hC (s * 8 + d) (by omega)).1
  simp (disch := first | omega | assumption | exact Nat.le_of_ble_eq_true rfl) only [m62, e62_0, e62_1, e62_2, e62_5i, e62_5n, e62_5r, e62_6, e62_7, e62_10, e62_11, e62_14, e62_15, e62_18, e62_19, e62_20, Bool.false_eq_true, Bool.true_eq_false, gfK, pfK, lnK, isC, alK_n, asK_n, List.getElem?_cons_zero, List.getElem?_cons_succ, List.set_cons_zero, List.set_cons_succ, List.length_cons, List.length_nil, ↓reduceIte, if_true, if_false, eq_self, and_true, true_and, and_self, Option.bind_some, Option.bind_none, Option.toList_some, Option.toList_none, List.cons_append, List.nil_append, mset_at, mset_ne, mset_2, mset_mset, Nat.reduceLT, Nat.reduceAdd, W_wayOf hs hd, G_W0c hw, G_W1c hw, nI_0_le, hk]
theorem W_lotSetc (hw : w = 8 ∨ w = 19) (hC : CW A w lc lt) (hs : s < 16) (hd : d < 8) : evM 64 [.ref w, .int (nI s), .int (nI d)] (Gc b u v A τ) = some (some (.int (setI (lt (s * 8 + d)) (lc (s * 8 + d)))), (Gc b u v A τ)) := by
  have hk := (hC (s * 8 + d) (by omega)).2.1
  simp (disch := first | omega | assumption | exact Nat.le_of_ble_eq_true rfl) only [m64, e64_0, e64_1, e64_2, e64_5i, e64_5n, e64_5r, e64_6, e64_7, e64_10, e64_11, e64_14, e64_15, e64_18, e64_19, e64_20, Bool.false_eq_true, Bool.true_eq_false, gfK, pfK, lnK, isC, alK_n, asK_n, List.getElem?_cons_zero, List.getElem?_cons_succ, List.set_cons_zero, List.set_cons_succ, List.length_cons, List.length_nil, ↓reduceIte, if_true, if_false, eq_self, and_true, true_and, and_self, Option.bind_some, Option.bind_none, Option.toList_some, Option.toList_none, List.cons_append, List.nil_append, mset_at, mset_ne, mset_2, mset_mset, Nat.reduceLT, Nat.reduceAdd, W_wayOf hs hd, G_W0c hw, G_W2c hw, nI_0_le, hk]
theorem W_lotAtc (hw : w = 8 ∨ w = 19) (hC : CW A w lc lt) (hW : WF lc lt) (hs : s < 16) (hd : d < 8) (hi : i < lc (s * 8 + d)) : evM 73 [.ref w, .int (nI s), .int (nI d), .int (nI i)] (Gc b u v A τ) = some (some (.int (nI (lt (s * 8 + d) i))), (Gc b u v A τ)) := by
  obtain ⟨h1, h2, h3⟩ := hC (s * 8 + d) (by omega)
  have h4 := (hW (s * 8 + d) (by omega)).1
  have h5 := h3 i hi
  simp (disch := first | omega | assumption | exact Nat.le_of_ble_eq_true rfl) only [m73, e73_0, e73_1, e73_2, e73_5i, e73_5n, e73_5r, e73_7, e73_9, e73_12, e73_13, e73_16, e73_17, e73_18, e73_21, e73_22, e73_23, e73_26, e73_28, e73_29, e73_32, e73_34, e73_37, e73_38, e73_41, e73_43, e73_44, e73_45, e73_46, e73_47, e73_48, Bool.false_eq_true, Bool.true_eq_false, gfK, pfK, lnK, isC, alK_n, asK_n, List.getElem?_cons_zero, List.getElem?_cons_succ, List.set_cons_zero, List.set_cons_succ, List.length_cons, List.length_nil, ↓reduceIte, if_true, if_false, eq_self, and_true, true_and, and_self, Option.bind_some, Option.bind_none, Option.toList_some, Option.toList_none, List.cons_append, List.nil_append, mset_at, mset_ne, mset_2, mset_mset, Nat.reduceLT, Nat.reduceAdd, W_wayOf hs hd, G_W0c hw, G_W1c hw, G_W3c hw, nI_not_neg, le_4, show ¬ 4 ≤ i from by omega, h1, nI_ltI, hi, rm_4, nI_addN, h5]
theorem W_lotAtNc (hw : w = 8 ∨ w = 19) (hC : CW A w lc lt) (hW : WF lc lt) (hs : s < 16) (hd : d < 8) (hi : x < 0 ∨ nI (lc (s * 8 + d)) ≤ x) : evM 73 [.ref w, .int (nI s), .int (nI d), .int x] (Gc b u v A τ) = some (some (.int (-9)), (Gc b u v A τ)) := by
  obtain ⟨h1, h2, h3⟩ := hC (s * 8 + d) (by omega)
  by_cases h : x < 0
  · simp (disch := first | omega | assumption | exact Nat.le_of_ble_eq_true rfl) only [m73, e73_0, e73_1, e73_2, e73_5i, e73_5n, e73_5r, e73_7, e73_9, e73_12, e73_13, e73_16, e73_17, e73_18, e73_21, e73_22, e73_23, e73_26, e73_28, e73_29, e73_32, e73_34, e73_37, e73_38, e73_41, e73_43, e73_44, e73_45, e73_46, e73_47, e73_48, Bool.false_eq_true, Bool.true_eq_false, gfK, pfK, lnK, isC, alK_n, asK_n, List.getElem?_cons_zero, List.getElem?_cons_succ, List.set_cons_zero, List.set_cons_succ, List.length_cons, List.length_nil, ↓reduceIte, if_true, if_false, eq_self, and_true, true_and, and_self, Option.bind_some, Option.bind_none, Option.toList_some, Option.toList_none, List.cons_append, List.nil_append, mset_at, mset_ne, mset_2, mset_mset, Nat.reduceLT, Nat.reduceAdd, W_wayOf hs hd, G_W0c hw, G_W1c hw, nI_not_neg, h]
  · have h5 := hi.resolve_left h
    by_cases h6 : (4 : Int32) ≤ x
    · simp (disch := first | omega | assumption | exact Nat.le_of_ble_eq_true rfl) only [m73, e73_0, e73_1, e73_2, e73_5i, e73_5n, e73_5r, e73_7, e73_9, e73_12, e73_13, e73_16, e73_17, e73_18, e73_21, e73_22, e73_23, e73_26, e73_28, e73_29, e73_32, e73_34, e73_37, e73_38, e73_41, e73_43, e73_44, e73_45, e73_46, e73_47, e73_48, Bool.false_eq_true, Bool.true_eq_false, gfK, pfK, lnK, isC, alK_n, asK_n, List.getElem?_cons_zero, List.getElem?_cons_succ, List.set_cons_zero, List.set_cons_succ, List.length_cons, List.length_nil, ↓reduceIte, if_true, if_false, eq_self, and_true, true_and, and_self, Option.bind_some, Option.bind_none, Option.toList_some, Option.toList_none, List.cons_append, List.nil_append, mset_at, mset_ne, mset_2, mset_mset, Nat.reduceLT, Nat.reduceAdd, W_wayOf hs hd, G_W0c hw, G_W1c hw, nI_not_neg, h, h6]
    · simp (disch := first | omega | assumption | exact Nat.le_of_ble_eq_true rfl) only [m73, e73_0, e73_1, e73_2, e73_5i, e73_5n, e73_5r, e73_7, e73_9, e73_12, e73_13, e73_16, e73_17, e73_18, e73_21, e73_22, e73_23, e73_26, e73_28, e73_29, e73_32, e73_34, e73_37, e73_38, e73_41, e73_43, e73_44, e73_45, e73_46, e73_47, e73_48, Bool.false_eq_true, Bool.true_eq_false, gfK, pfK, lnK, isC, alK_n, asK_n, List.getElem?_cons_zero, List.getElem?_cons_succ, List.set_cons_zero, List.set_cons_succ, List.length_cons, List.length_nil, ↓reduceIte, if_true, if_false, eq_self, and_true, true_and, and_self, Option.bind_some, Option.bind_none, Option.toList_some, Option.toList_none, List.cons_append, List.nil_append, mset_at, mset_ne, mset_2, mset_mset, Nat.reduceLT, Nat.reduceAdd, W_wayOf hs hd, G_W0c hw, G_W1c hw, nI_not_neg, h, h6, h1, show ¬ x < nI (lc (s * 8 + d)) from by rw [i32lt]; exact fun g => g h5]
theorem W_into_loopc (hw : w = 8 ∨ w = 19) (hC : CW A w lc lt) (hW : WF lc lt) (hs : s < 16) : ∀ (n d : Nat), d + n = 8 → ev 61 5 [some (.ref w), some (.int (nI s)), some (.int S), some (.int (orF (fun d => sty lc lt S (s * 8 + d)) d 0)), some (.int (nI d))] [] (Gc b u v A τ) = some (some (.int (orF (fun d => sty lc lt S (s * 8 + d)) 8 0)), (Gc b u v A τ))
  | 0, d, hd => by
    have : d = 8 := by omega
    subst this
    rw [e61_5]
    simp (disch := first | omega | assumption | exact Nat.le_of_ble_eq_true rfl) only [m61, e61_0, e61_1i, e61_1n, e61_1r, e61_2, e61_3i, e61_3n, e61_3r, e61_7, e61_9, e61_12, e61_13, e61_14, e61_16, e61_19, e61_22, e61_23, e61_24, e61_26, e61_29, e61_30, e61_31, e61_32, e61_33, e61_36, e61_37, e61_38, e61_40, e61_41, e61_42i, e61_42n, e61_42r, e61_43i, e61_43n, e61_43r, e61_46, e61_49, e61_50, Bool.false_eq_true, Bool.true_eq_false, gfK, pfK, lnK, isC, alK_n, asK_n, List.getElem?_cons_zero, List.getElem?_cons_succ, List.set_cons_zero, List.set_cons_succ, List.length_cons, List.length_nil, ↓reduceIte, if_true, if_false, eq_self, and_true, true_and, and_self, Option.bind_some, Option.bind_none, Option.toList_some, Option.toList_none, List.cons_append, List.nil_append, mset_at, mset_ne, mset_2, mset_mset, Nat.reduceLT, Nat.reduceAdd, le_8, Nat.le_refl]
  | n + 1, d, hd => by
    have ih := W_into_loopc hw hC hW hs n (d + 1) (by omega)
    have h8 : ¬ 8 ≤ d := by omega
    have hl := (hW (s * 8 + d) (by omega)).1
    rw [e61_5]
    by_cases h0 : lc (s * 8 + d) = 0
    · rw [orF_f (by unfold sty; rw [decide_eq_false (by omega), Bool.false_and])] at ih
      simp (disch := first | omega | assumption | exact Nat.le_of_ble_eq_true rfl) only [m61, e61_0, e61_1i, e61_1n, e61_1r, e61_2, e61_3i, e61_3n, e61_3r, e61_7, e61_9, e61_12, e61_13, e61_14, e61_16, e61_19, e61_22, e61_23, e61_24, e61_26, e61_29, e61_30, e61_31, e61_32, e61_33, e61_36, e61_37, e61_38, e61_40, e61_41, e61_42i, e61_42n, e61_42r, e61_43i, e61_43n, e61_43r, e61_46, e61_49, e61_50, Bool.false_eq_true, Bool.true_eq_false, gfK, pfK, lnK, isC, alK_n, asK_n, List.getElem?_cons_zero, List.getElem?_cons_succ, List.set_cons_zero, List.set_cons_succ, List.length_cons, List.length_nil, ↓reduceIte, if_true, if_false, eq_self, and_true, true_and, and_self, Option.bind_some, Option.bind_none, Option.toList_some, Option.toList_none, List.cons_append, List.nil_append, mset_at, mset_ne, mset_2, mset_mset, Nat.reduceLT, Nat.reduceAdd, le_8, h8, G_W0c hw, W_lotsInc hw hC hs, le0_nI, h0, nI_succ', ih]
    · by_cases h1 : setI (lt (s * 8 + d)) (lc (s * 8 + d)) &&& (S ^^^ -1) = 0
      · rw [orF_t (by unfold sty; rw [decide_eq_true (p := 0 < lc (s * 8 + d)) (by omega), decide_eq_true h1]; rfl)] at ih
        simp (disch := first | omega | assumption | exact Nat.le_of_ble_eq_true rfl) only [m61, e61_0, e61_1i, e61_1n, e61_1r, e61_2, e61_3i, e61_3n, e61_3r, e61_7, e61_9, e61_12, e61_13, e61_14, e61_16, e61_19, e61_22, e61_23, e61_24, e61_26, e61_29, e61_30, e61_31, e61_32, e61_33, e61_36, e61_37, e61_38, e61_40, e61_41, e61_42i, e61_42n, e61_42r, e61_43i, e61_43n, e61_43r, e61_46, e61_49, e61_50, Bool.false_eq_true, Bool.true_eq_false, gfK, pfK, lnK, isC, alK_n, asK_n, List.getElem?_cons_zero, List.getElem?_cons_succ, List.set_cons_zero, List.set_cons_succ, List.length_cons, List.length_nil, ↓reduceIte, if_true, if_false, eq_self, and_true, true_and, and_self, Option.bind_some, Option.bind_none, Option.toList_some, Option.toList_none, List.cons_append, List.nil_append, mset_at, mset_ne, mset_2, mset_mset, Nat.reduceLT, Nat.reduceAdd, le_8, h8, G_W0c hw, W_lotsInc hw hC hs, W_lotSetc hw hC hs, le0_nI, h0, h1, bit_def, nI_succ', ih]
      · rw [orF_f (by unfold sty; rw [decide_eq_false h1, Bool.and_false])] at ih
        simp (disch := first | omega | assumption | exact Nat.le_of_ble_eq_true rfl) only [m61, e61_0, e61_1i, e61_1n, e61_1r, e61_2, e61_3i, e61_3n, e61_3r, e61_7, e61_9, e61_12, e61_13, e61_14, e61_16, e61_19, e61_22, e61_23, e61_24, e61_26, e61_29, e61_30, e61_31, e61_32, e61_33, e61_36, e61_37, e61_38, e61_40, e61_41, e61_42i, e61_42n, e61_42r, e61_43i, e61_43n, e61_43r, e61_46, e61_49, e61_50, Bool.false_eq_true, Bool.true_eq_false, gfK, pfK, lnK, isC, alK_n, asK_n, List.getElem?_cons_zero, List.getElem?_cons_succ, List.set_cons_zero, List.set_cons_succ, List.length_cons, List.length_nil, ↓reduceIte, if_true, if_false, eq_self, and_true, true_and, and_self, Option.bind_some, Option.bind_none, Option.toList_some, Option.toList_none, List.cons_append, List.nil_append, mset_at, mset_ne, mset_2, mset_mset, Nat.reduceLT, Nat.reduceAdd, le_8, h8, G_W0c hw, W_lotsInc hw hC hs, W_lotSetc hw hC hs, le0_nI, h0, h1, nI_succ', ih]
theorem W_intoc (hw : w = 8 ∨ w = 19) (hC : CW A w lc lt) (hW : WF lc lt) (hs : s < 16) : evM 61 [.ref w, .int (nI s), .int S] (Gc b u v A τ) = some (some (.int (orF (fun d => sty lc lt S (s * 8 + d)) 8 0)), (Gc b u v A τ)) := by
  have := W_into_loopc (b := b) (u := u) (v := v) (τ := τ) (S := S) hw hC hW hs 8 0 rfl
  rw [orF, ← lit_0] at this
  simp (disch := first | omega | assumption | exact Nat.le_of_ble_eq_true rfl) only [m61, e61_0, e61_1i, e61_1n, e61_1r, e61_2, e61_3i, e61_3n, e61_3r, e61_7, e61_9, e61_12, e61_13, e61_14, e61_16, e61_19, e61_22, e61_23, e61_24, e61_26, e61_29, e61_30, e61_31, e61_32, e61_33, e61_36, e61_37, e61_38, e61_40, e61_41, e61_42i, e61_42n, e61_42r, e61_43i, e61_43n, e61_43r, e61_46, e61_49, e61_50, Bool.false_eq_true, Bool.true_eq_false, gfK, pfK, lnK, isC, alK_n, asK_n, List.getElem?_cons_zero, List.getElem?_cons_succ, List.set_cons_zero, List.set_cons_succ, List.length_cons, List.length_nil, ↓reduceIte, if_true, if_false, eq_self, and_true, true_and, and_self, Option.bind_some, Option.bind_none, Option.toList_some, Option.toList_none, List.cons_append, List.nil_append, mset_at, mset_ne, mset_2, mset_mset, Nat.reduceLT, Nat.reduceAdd, this]
theorem W_stuck_loopc (hw : w = 8 ∨ w = 19) (hC : CW A w lc lt) (hW : WF lc lt) : ∀ (n s : Nat), s + n = 16 → ev 60 4 [some (.ref w), some (.int (orF (fun s => !bi (A w 4) s && !anyF (fun d => decide (0 < lc (s * 8 + d))) 8) s 0)), some (.int (nI s))] [] (Gc b u v A τ) = some (some (.int (orF (fun s => !bi (A w 4) s && !anyF (fun d => decide (0 < lc (s * 8 + d))) 8) 16 0)), (Gc b u v A τ))
  | 0, s, hs => by
    have : s = 16 := by omega
    subst this
    rw [e60_4]
    simp (disch := first | omega | assumption | exact Nat.le_of_ble_eq_true rfl) only [m60, e60_0, e60_1i, e60_1n, e60_1r, e60_2, e60_3i, e60_3n, e60_3r, e60_5, e60_7, e60_10, e60_11, e60_14, e60_15, e60_18, e60_21, e60_22, e60_23, e60_25, e60_28, e60_31, e60_32, e60_33, e60_34, e60_35, e60_36i, e60_36n, e60_36r, e60_37i, e60_37n, e60_37r, e60_40, e60_43, e60_44, Bool.false_eq_true, Bool.true_eq_false, gfK, pfK, lnK, isC, alK_n, asK_n, List.getElem?_cons_zero, List.getElem?_cons_succ, List.set_cons_zero, List.set_cons_succ, List.length_cons, List.length_nil, ↓reduceIte, if_true, if_false, eq_self, and_true, true_and, and_self, Option.bind_some, Option.bind_none, Option.toList_some, Option.toList_none, List.cons_append, List.nil_append, mset_at, mset_ne, mset_2, mset_mset, Nat.reduceLT, Nat.reduceAdd, le_16, Nat.le_refl]
  | n + 1, s, hs => by
    have ih := W_stuck_loopc hw hC hW n (s + 1) (by omega)
    have h16 : ¬ 16 ≤ s := by omega
    have hs' : s < 16 := by omega
    rw [e60_4]
    by_cases h0 : bi (A w 4) s = true
    · rw [orF_f (by rw [h0]; rfl)] at ih
      simp (disch := first | omega | assumption | exact Nat.le_of_ble_eq_true rfl) only [m60, e60_0, e60_1i, e60_1n, e60_1r, e60_2, e60_3i, e60_3n, e60_3r, e60_5, e60_7, e60_10, e60_11, e60_14, e60_15, e60_18, e60_21, e60_22, e60_23, e60_25, e60_28, e60_31, e60_32, e60_33, e60_34, e60_35, e60_36i, e60_36n, e60_36r, e60_37i, e60_37n, e60_37r, e60_40, e60_43, e60_44, Bool.false_eq_true, Bool.true_eq_false, gfK, pfK, lnK, isC, alK_n, asK_n, List.getElem?_cons_zero, List.getElem?_cons_succ, List.set_cons_zero, List.set_cons_succ, List.length_cons, List.length_nil, ↓reduceIte, if_true, if_false, eq_self, and_true, true_and, and_self, Option.bind_some, Option.bind_none, Option.toList_some, Option.toList_none, List.cons_append, List.nil_append, mset_at, mset_ne, mset_2, mset_mset, Nat.reduceLT, Nat.reduceAdd, le_16, h16, G_W0c hw, R_bit, h0, nz1, nI_succ', ih]
    · have h0' := Bool.eq_false_iff.2 h0
      by_cases h1 : orF (fun d => sty lc lt 65535 (s * 8 + d)) 8 0 = 0
      · have h2 : anyF (fun d => decide (0 < lc (s * 8 + d))) 8 = false := anyF_f.2 fun d hd => by
          have := (orF_0 (by omega)).1 h1 d hd
          rw [sty_all hW (by omega)] at this
          exact this
        rw [orF_t (by rw [h0', h2]; rfl)] at ih
        simp (disch := first | omega | assumption | exact Nat.le_of_ble_eq_true rfl) only [m60, e60_0, e60_1i, e60_1n, e60_1r, e60_2, e60_3i, e60_3n, e60_3r, e60_5, e60_7, e60_10, e60_11, e60_14, e60_15, e60_18, e60_21, e60_22, e60_23, e60_25, e60_28, e60_31, e60_32, e60_33, e60_34, e60_35, e60_36i, e60_36n, e60_36r, e60_37i, e60_37n, e60_37r, e60_40, e60_43, e60_44, Bool.false_eq_true, Bool.true_eq_false, gfK, pfK, lnK, isC, alK_n, asK_n, List.getElem?_cons_zero, List.getElem?_cons_succ, List.set_cons_zero, List.set_cons_succ, List.length_cons, List.length_nil, ↓reduceIte, if_true, if_false, eq_self, and_true, true_and, and_self, Option.bind_some, Option.bind_none, Option.toList_some, Option.toList_none, List.cons_append, List.nil_append, mset_at, mset_ne, mset_2, mset_mset, Nat.reduceLT, Nat.reduceAdd, le_16, h16, G_W0c hw, R_bit, h0, W_intoc hw hC hW, h1, bit_def, nI_succ', ih]
      · have h2 : anyF (fun d => decide (0 < lc (s * 8 + d))) 8 = true := by
          by_cases g : anyF (fun d => decide (0 < lc (s * 8 + d))) 8 = true
          · exact g
          · refine absurd ((orF_0 (by omega)).2 fun d hd => ?_) h1
            rw [sty_all hW (by omega)]
            exact anyF_f.1 (Bool.eq_false_iff.2 g) d hd
        rw [orF_f (by rw [h2, Bool.not_true, Bool.and_false])] at ih
        simp (disch := first | omega | assumption | exact Nat.le_of_ble_eq_true rfl) only [m60, e60_0, e60_1i, e60_1n, e60_1r, e60_2, e60_3i, e60_3n, e60_3r, e60_5, e60_7, e60_10, e60_11, e60_14, e60_15, e60_18, e60_21, e60_22, e60_23, e60_25, e60_28, e60_31, e60_32, e60_33, e60_34, e60_35, e60_36i, e60_36n, e60_36r, e60_37i, e60_37n, e60_37r, e60_40, e60_43, e60_44, Bool.false_eq_true, Bool.true_eq_false, gfK, pfK, lnK, isC, alK_n, asK_n, List.getElem?_cons_zero, List.getElem?_cons_succ, List.set_cons_zero, List.set_cons_succ, List.length_cons, List.length_nil, ↓reduceIte, if_true, if_false, eq_self, and_true, true_and, and_self, Option.bind_some, Option.bind_none, Option.toList_some, Option.toList_none, List.cons_append, List.nil_append, mset_at, mset_ne, mset_2, mset_mset, Nat.reduceLT, Nat.reduceAdd, le_16, h16, G_W0c hw, R_bit, h0, W_intoc hw hC hW, h1, nI_succ', ih]
theorem W_stuckc (hw : w = 8 ∨ w = 19) (hC : CW A w lc lt) (hW : WF lc lt) : evM 60 [.ref w] (Gc b u v A τ) = some (some (.int (orF (fun s => !bi (A w 4) s && !anyF (fun d => decide (0 < lc (s * 8 + d))) 8) 16 0)), (Gc b u v A τ)) := by
  have := W_stuck_loopc (b := b) (u := u) (v := v) (τ := τ) hw hC hW 16 0 rfl
  rw [orF, ← lit_0] at this
  simp (disch := first | omega | assumption | exact Nat.le_of_ble_eq_true rfl) only [m60, e60_0, e60_1i, e60_1n, e60_1r, e60_2, e60_3i, e60_3n, e60_3r, e60_5, e60_7, e60_10, e60_11, e60_14, e60_15, e60_18, e60_21, e60_22, e60_23, e60_25, e60_28, e60_31, e60_32, e60_33, e60_34, e60_35, e60_36i, e60_36n, e60_36r, e60_37i, e60_37n, e60_37r, e60_40, e60_43, e60_44, Bool.false_eq_true, Bool.true_eq_false, gfK, pfK, lnK, isC, alK_n, asK_n, List.getElem?_cons_zero, List.getElem?_cons_succ, List.set_cons_zero, List.set_cons_succ, List.length_cons, List.length_nil, ↓reduceIte, if_true, if_false, eq_self, and_true, true_and, and_self, Option.bind_some, Option.bind_none, Option.toList_some, Option.toList_none, List.cons_append, List.nil_append, mset_at, mset_ne, mset_2, mset_mset, Nat.reduceLT, Nat.reduceAdd, this]
theorem W_thin_loopc (hw : w = 8 ∨ w = 19) (hC : CW A w lc lt) (hW : WF lc lt) : ∀ (n s : Nat), s + n = 16 → ev 65 4 [some (.ref w), some (.int S), some (.int (orF (fun s => bi S s && (bi (A w 4) s || anyF (fun d => sty lc lt S (s * 8 + d)) 8)) s 0)), some (.int (nI s))] [] (Gc b u v A τ) = some (some (.int (thn lc lt (A w 4) S)), (Gc b u v A τ))
  | 0, s, hs => by
    have : s = 16 := by omega
    subst this
    rw [e65_4]
    simp (disch := first | omega | assumption | exact Nat.le_of_ble_eq_true rfl) only [m65, e65_0, e65_1i, e65_1n, e65_1r, e65_2, e65_3i, e65_3n, e65_3r, e65_5, e65_7, e65_10, e65_11, e65_12, e65_15, e65_18, e65_19, e65_22, e65_23, e65_26, e65_29, e65_30, e65_31, e65_32, e65_35, e65_38, e65_39, e65_40, e65_41, e65_42, e65_43i, e65_43n, e65_43r, e65_44i, e65_44n, e65_44r, e65_47, e65_50, e65_51, Bool.false_eq_true, Bool.true_eq_false, gfK, pfK, lnK, isC, alK_n, asK_n, List.getElem?_cons_zero, List.getElem?_cons_succ, List.set_cons_zero, List.set_cons_succ, List.length_cons, List.length_nil, ↓reduceIte, if_true, if_false, eq_self, and_true, true_and, and_self, Option.bind_some, Option.bind_none, Option.toList_some, Option.toList_none, List.cons_append, List.nil_append, mset_at, mset_ne, mset_2, mset_mset, Nat.reduceLT, Nat.reduceAdd, le_16, Nat.le_refl, thn]
  | n + 1, s, hs => by
    have ih := W_thin_loopc hw hC hW n (s + 1) (by omega)
    have h16 : ¬ 16 ≤ s := by omega
    rw [e65_4]
    by_cases h0 : bi S s = true
    · by_cases h1 : bi (A w 4) s = true
      · rw [orF_t (by rw [h0, h1]; rfl)] at ih
        simp (disch := first | omega | assumption | exact Nat.le_of_ble_eq_true rfl) only [m65, e65_0, e65_1i, e65_1n, e65_1r, e65_2, e65_3i, e65_3n, e65_3r, e65_5, e65_7, e65_10, e65_11, e65_12, e65_15, e65_18, e65_19, e65_22, e65_23, e65_26, e65_29, e65_30, e65_31, e65_32, e65_35, e65_38, e65_39, e65_40, e65_41, e65_42, e65_43i, e65_43n, e65_43r, e65_44i, e65_44n, e65_44r, e65_47, e65_50, e65_51, Bool.false_eq_true, Bool.true_eq_false, gfK, pfK, lnK, isC, alK_n, asK_n, List.getElem?_cons_zero, List.getElem?_cons_succ, List.set_cons_zero, List.set_cons_succ, List.length_cons, List.length_nil, ↓reduceIte, if_true, if_false, eq_self, and_true, true_and, and_self, Option.bind_some, Option.bind_none, Option.toList_some, Option.toList_none, List.cons_append, List.nil_append, mset_at, mset_ne, mset_2, mset_mset, Nat.reduceLT, Nat.reduceAdd, le_16, h16, G_W0c hw, R_bit, h0, h1, nz1, bit_def, nI_succ', ih]
      · by_cases h2 : orF (fun d => sty lc lt S (s * 8 + d)) 8 0 = 0
        · rw [orF_f (by rw [anyF_f.2 ((orF_0 (by omega)).1 h2), Bool.eq_false_iff.2 h1]; exact Bool.and_false _)] at ih
          simp (disch := first | omega | assumption | exact Nat.le_of_ble_eq_true rfl) only [m65, e65_0, e65_1i, e65_1n, e65_1r, e65_2, e65_3i, e65_3n, e65_3r, e65_5, e65_7, e65_10, e65_11, e65_12, e65_15, e65_18, e65_19, e65_22, e65_23, e65_26, e65_29, e65_30, e65_31, e65_32, e65_35, e65_38, e65_39, e65_40, e65_41, e65_42, e65_43i, e65_43n, e65_43r, e65_44i, e65_44n, e65_44r, e65_47, e65_50, e65_51, Bool.false_eq_true, Bool.true_eq_false, gfK, pfK, lnK, isC, alK_n, asK_n, List.getElem?_cons_zero, List.getElem?_cons_succ, List.set_cons_zero, List.set_cons_succ, List.length_cons, List.length_nil, ↓reduceIte, if_true, if_false, eq_self, and_true, true_and, and_self, Option.bind_some, Option.bind_none, Option.toList_some, Option.toList_none, List.cons_append, List.nil_append, mset_at, mset_ne, mset_2, mset_mset, Nat.reduceLT, Nat.reduceAdd, le_16, h16, G_W0c hw, R_bit, h0, h1, nz1, W_intoc hw hC hW, h2, nI_succ', ih]
        · have h3 : anyF (fun d => sty lc lt S (s * 8 + d)) 8 = true := by
            by_cases g : anyF (fun d => sty lc lt S (s * 8 + d)) 8 = true
            · exact g
            · exact absurd ((orF_0 (by omega)).2 (anyF_f.1 (Bool.eq_false_iff.2 g))) h2
          rw [orF_t (by rw [h0, h3, Bool.or_true]; rfl)] at ih
          simp (disch := first | omega | assumption | exact Nat.le_of_ble_eq_true rfl) only [m65, e65_0, e65_1i, e65_1n, e65_1r, e65_2, e65_3i, e65_3n, e65_3r, e65_5, e65_7, e65_10, e65_11, e65_12, e65_15, e65_18, e65_19, e65_22, e65_23, e65_26, e65_29, e65_30, e65_31, e65_32, e65_35, e65_38, e65_39, e65_40, e65_41, e65_42, e65_43i, e65_43n, e65_43r, e65_44i, e65_44n, e65_44r, e65_47, e65_50, e65_51, Bool.false_eq_true, Bool.true_eq_false, gfK, pfK, lnK, isC, alK_n, asK_n, List.getElem?_cons_zero, List.getElem?_cons_succ, List.set_cons_zero, List.set_cons_succ, List.length_cons, List.length_nil, ↓reduceIte, if_true, if_false, eq_self, and_true, true_and, and_self, Option.bind_some, Option.bind_none, Option.toList_some, Option.toList_none, List.cons_append, List.nil_append, mset_at, mset_ne, mset_2, mset_mset, Nat.reduceLT, Nat.reduceAdd, le_16, h16, G_W0c hw, R_bit, h0, h1, nz1, W_intoc hw hC hW, h2, bit_def, nI_succ', ih]
    · rw [orF_f (by rw [Bool.eq_false_iff.2 h0]; rfl)] at ih
      simp (disch := first | omega | assumption | exact Nat.le_of_ble_eq_true rfl) only [m65, e65_0, e65_1i, e65_1n, e65_1r, e65_2, e65_3i, e65_3n, e65_3r, e65_5, e65_7, e65_10, e65_11, e65_12, e65_15, e65_18, e65_19, e65_22, e65_23, e65_26, e65_29, e65_30, e65_31, e65_32, e65_35, e65_38, e65_39, e65_40, e65_41, e65_42, e65_43i, e65_43n, e65_43r, e65_44i, e65_44n, e65_44r, e65_47, e65_50, e65_51, Bool.false_eq_true, Bool.true_eq_false, gfK, pfK, lnK, isC, alK_n, asK_n, List.getElem?_cons_zero, List.getElem?_cons_succ, List.set_cons_zero, List.set_cons_succ, List.length_cons, List.length_nil, ↓reduceIte, if_true, if_false, eq_self, and_true, true_and, and_self, Option.bind_some, Option.bind_none, Option.toList_some, Option.toList_none, List.cons_append, List.nil_append, mset_at, mset_ne, mset_2, mset_mset, Nat.reduceLT, Nat.reduceAdd, le_16, h16, G_W0c hw, R_bit, h0, nI_succ', ih]
theorem W_thinc (hw : w = 8 ∨ w = 19) (hC : CW A w lc lt) (hW : WF lc lt) : evM 65 [.ref w, .int S] (Gc b u v A τ) = some (some (.int (thn lc lt (A w 4) S)), (Gc b u v A τ)) := by
  have := W_thin_loopc (b := b) (u := u) (v := v) (τ := τ) (S := S) hw hC hW 16 0 rfl
  rw [orF, ← lit_0] at this
  simp (disch := first | omega | assumption | exact Nat.le_of_ble_eq_true rfl) only [m65, e65_0, e65_1i, e65_1n, e65_1r, e65_2, e65_3i, e65_3n, e65_3r, e65_5, e65_7, e65_10, e65_11, e65_12, e65_15, e65_18, e65_19, e65_22, e65_23, e65_26, e65_29, e65_30, e65_31, e65_32, e65_35, e65_38, e65_39, e65_40, e65_41, e65_42, e65_43i, e65_43n, e65_43r, e65_44i, e65_44n, e65_44r, e65_47, e65_50, e65_51, Bool.false_eq_true, Bool.true_eq_false, gfK, pfK, lnK, isC, alK_n, asK_n, List.getElem?_cons_zero, List.getElem?_cons_succ, List.set_cons_zero, List.set_cons_succ, List.length_cons, List.length_nil, ↓reduceIte, if_true, if_false, eq_self, and_true, true_and, and_self, Option.bind_some, Option.bind_none, Option.toList_some, Option.toList_none, List.cons_append, List.nil_append, mset_at, mset_ne, mset_2, mset_mset, Nat.reduceLT, Nat.reduceAdd, this]
end WCLASS

section WSETTLE
variable {b w : Nat} {u v : Int64} {A : Nat → Nat → Int32} {τ : Nat × Nat × Nat × (Nat → Int32)} {lc : Nat → Nat} {lt : Nat → Nat → Nat} {s d i r : Nat} {S F x y z : Int32} {σ : mS}
theorem W_dm0c (hw : w = 8 ∨ w = 19) (f0 : Nat → Int32) : ∀ (n s : Nat), s + n = 16 → ev 66 2 [some (.ref w), some (.int (nI s)), none, none, none] [] (Gc b u v (up A (w + 7) (mix s (dm lc lt (A w 5) z 0) f0)) τ) = ev 66 37 [some (.ref w), some (.int (nI 16)), none, none, none] [] (Gc b u v (up A (w + 7) (mix 16 (dm lc lt (A w 5) z 0) f0)) τ)
  | 0, s, hs => by
    have : s = 16 := by omega
    subst this
    rw [e66_2]
    simp (disch := first | omega | assumption | exact Nat.le_of_ble_eq_true rfl) only [m66, e66_3, e66_5, Bool.false_eq_true, Bool.true_eq_false, gfK, pfK, lnK, isC, alK_n, asK_n, List.getElem?_cons_zero, List.getElem?_cons_succ, List.set_cons_zero, List.set_cons_succ, List.length_cons, List.length_nil, ↓reduceIte, if_true, if_false, eq_self, and_true, true_and, and_self, Option.bind_some, Option.bind_none, Option.toList_some, Option.toList_none, List.cons_append, List.nil_append, mset_at, mset_ne, mset_2, mset_mset, Nat.reduceLT, Nat.reduceAdd, le_16, Nat.le_refl]
  | n + 1, s, hs => by
    have ih := W_dm0c hw f0 n (s + 1) (by omega)
    have h16 : ¬ 16 ≤ s := by omega
    have h5 : up A (w + 7) (mix s (dm lc lt (A w 5) z 0) f0) w 5 = A w 5 := by rw [up_ne (by omega)]
    rw [← mix_succ] at ih
    rw [e66_2]
    by_cases h0 : bi (A w 5) s = true
    · rw [show dm lc lt (A w 5) z 0 s = 0 from by rw [dm, if_pos h0]] at ih
      simp (disch := first | omega | assumption | exact Nat.le_of_ble_eq_true rfl) only [m66, e66_3, e66_5, e66_8, e66_9, e66_12, e66_13, e66_14, e66_17, e66_18, e66_21, e66_24, e66_25, e66_28, e66_30, e66_31i, e66_31n, e66_31r, e66_34, Bool.false_eq_true, Bool.true_eq_false, gfK, pfK, lnK, isC, alK_n, asK_n, List.getElem?_cons_zero, List.getElem?_cons_succ, List.set_cons_zero, List.set_cons_succ, List.length_cons, List.length_nil, ↓reduceIte, if_true, if_false, eq_self, and_true, true_and, and_self, Option.bind_some, Option.bind_none, Option.toList_some, Option.toList_none, List.cons_append, List.nil_append, mset_at, mset_ne, mset_2, mset_mset, Nat.reduceLT, Nat.reduceAdd, le_16, h16, G_W0c hw, G_W7c hw, S_W7c hw, h5, up_at, up_up, R_bit, h0, nz1, nI_succ', ih]
    · rw [show dm lc lt (A w 5) z 0 s = -9 from by rw [dm, if_neg h0]] at ih
      simp (disch := first | omega | assumption | exact Nat.le_of_ble_eq_true rfl) only [m66, e66_3, e66_5, e66_8, e66_9, e66_12, e66_13, e66_14, e66_17, e66_18, e66_21, e66_24, e66_25, e66_28, e66_30, e66_31i, e66_31n, e66_31r, e66_34, Bool.false_eq_true, Bool.true_eq_false, gfK, pfK, lnK, isC, alK_n, asK_n, List.getElem?_cons_zero, List.getElem?_cons_succ, List.set_cons_zero, List.set_cons_succ, List.length_cons, List.length_nil, ↓reduceIte, if_true, if_false, eq_self, and_true, true_and, and_self, Option.bind_some, Option.bind_none, Option.toList_some, Option.toList_none, List.cons_append, List.nil_append, mset_at, mset_ne, mset_2, mset_mset, Nat.reduceLT, Nat.reduceAdd, le_16, h16, G_W0c hw, G_W7c hw, S_W7c hw, h5, up_at, up_up, R_bit, h0, nI_succ', ih, Bool.false_eq_true]
theorem W_dm_inc (hw : w = 8 ∨ w = 19) (hC : CW A w lc lt) (hW : WF lc lt) (f0 : Nat → Int32) : ∀ (n s : Nat), s + n = 16 → ev 66 55 [some (.ref w), some (.int F), some (.int x), some (.int (orF (fallP lc lt F (A w 6)) s 0)), some (.int (nI s))] [] (Gc b u v (up A (w + 7) (mix s (fun s => if fallP lc lt F (A w 6) s = true then x else f0 s) f0)) τ) = ev 66 112 [some (.ref w), some (.int F), some (.int x), some (.int (orF (fallP lc lt F (A w 6)) 16 0)), some (.int (nI 16))] [] (Gc b u v (up A (w + 7) (mix 16 (fun s => if fallP lc lt F (A w 6) s = true then x else f0 s) f0)) τ)
  | 0, s, hs => by
    have : s = 16 := by omega
    subst this
    rw [e66_55]
    simp (disch := first | omega | assumption | exact Nat.le_of_ble_eq_true rfl) only [m66, e66_57, e66_59, Bool.false_eq_true, Bool.true_eq_false, gfK, pfK, lnK, isC, alK_n, asK_n, List.getElem?_cons_zero, List.getElem?_cons_succ, List.set_cons_zero, List.set_cons_succ, List.length_cons, List.length_nil, ↓reduceIte, if_true, if_false, eq_self, and_true, true_and, and_self, Option.bind_some, Option.bind_none, Option.toList_some, Option.toList_none, List.cons_append, List.nil_append, mset_at, mset_ne, mset_2, mset_mset, Nat.reduceLT, Nat.reduceAdd, le_16, Nat.le_refl]
  | n + 1, s, hs => by
    have ih := W_dm_inc hw hC hW f0 n (s + 1) (by omega)
    have h16 : ¬ 16 ≤ s := by omega
    have h6 : up A (w + 7) (mix s (fun s => if fallP lc lt F (A w 6) s = true then x else f0 s) f0) w 6 = A w 6 := by rw [up_ne (by omega)]
    have hi := fun S => W_intoc (b := b) (u := u) (v := v) (τ := τ) (S := S) (s := s) hw (CW_up (k := w + 7) (f := mix s (fun s => if fallP lc lt F (A w 6) s = true then x else f0 s) f0) (by omega) hC) hW (by omega)
    rw [e66_55]
    by_cases h0 : bi (F ||| A w 6) s = true
    · have hP : fallP lc lt F (A w 6) s = false := by unfold fallP; rw [h0]; rfl
      rw [orF_f hP, mix_same (by rw [if_neg (by rw [hP]; exact Bool.false_ne_true), mix_ge (by omega)])] at ih
      simp (disch := first | omega | assumption | exact Nat.le_of_ble_eq_true rfl) only [m66, e66_57, e66_59, e66_62, e66_63, e66_64, e66_67, e66_68, e66_70, e66_73, e66_76, e66_77, e66_79, e66_81, e66_82, e66_83, e66_84, e66_85, e66_88, e66_91, e66_92, e66_95, e66_97, e66_98, e66_99, e66_100, e66_101, e66_103, e66_104, e66_105i, e66_105n, e66_105r, e66_106i, e66_106n, e66_106r, e66_109, Bool.false_eq_true, Bool.true_eq_false, gfK, pfK, lnK, isC, alK_n, asK_n, List.getElem?_cons_zero, List.getElem?_cons_succ, List.set_cons_zero, List.set_cons_succ, List.length_cons, List.length_nil, ↓reduceIte, if_true, if_false, eq_self, and_true, true_and, and_self, Option.bind_some, Option.bind_none, Option.toList_some, Option.toList_none, List.cons_append, List.nil_append, mset_at, mset_ne, mset_2, mset_mset, Nat.reduceLT, Nat.reduceAdd, le_16, h16, G_W0c hw, h6, R_bit, h0, nz1, nI_succ', ih]
    · have h0' := Bool.eq_false_iff.2 h0
      by_cases h1 : orF (fun d => sty lc lt (65535 &&& (F ^^^ -1)) (s * 8 + d)) 8 0 = 0
      · have hP : fallP lc lt F (A w 6) s = true := by unfold fallP; rw [h0', decide_eq_true h1]; rfl
        rw [orF_t hP, ← mix_succ, if_pos hP] at ih
        simp (disch := first | omega | assumption | exact Nat.le_of_ble_eq_true rfl) only [m66, e66_57, e66_59, e66_62, e66_63, e66_64, e66_67, e66_68, e66_70, e66_73, e66_76, e66_77, e66_79, e66_81, e66_82, e66_83, e66_84, e66_85, e66_88, e66_91, e66_92, e66_95, e66_97, e66_98, e66_99, e66_100, e66_101, e66_103, e66_104, e66_105i, e66_105n, e66_105r, e66_106i, e66_106n, e66_106r, e66_109, Bool.false_eq_true, Bool.true_eq_false, gfK, pfK, lnK, isC, alK_n, asK_n, List.getElem?_cons_zero, List.getElem?_cons_succ, List.set_cons_zero, List.set_cons_succ, List.length_cons, List.length_nil, ↓reduceIte, if_true, if_false, eq_self, and_true, true_and, and_self, Option.bind_some, Option.bind_none, Option.toList_some, Option.toList_none, List.cons_append, List.nil_append, mset_at, mset_ne, mset_2, mset_mset, Nat.reduceLT, Nat.reduceAdd, le_16, h16, G_W0c hw, G_W7c hw, S_W7c hw, h6, up_at, up_up, R_bit, h0, hi, h1, bit_def, nI_succ', ih]
      · have hP : fallP lc lt F (A w 6) s = false := by unfold fallP; rw [decide_eq_false h1, Bool.and_false]
        rw [orF_f hP, mix_same (by rw [if_neg (by rw [hP]; exact Bool.false_ne_true), mix_ge (by omega)])] at ih
        simp (disch := first | omega | assumption | exact Nat.le_of_ble_eq_true rfl) only [m66, e66_57, e66_59, e66_62, e66_63, e66_64, e66_67, e66_68, e66_70, e66_73, e66_76, e66_77, e66_79, e66_81, e66_82, e66_83, e66_84, e66_85, e66_88, e66_91, e66_92, e66_95, e66_97, e66_98, e66_99, e66_100, e66_101, e66_103, e66_104, e66_105i, e66_105n, e66_105r, e66_106i, e66_106n, e66_106r, e66_109, Bool.false_eq_true, Bool.true_eq_false, gfK, pfK, lnK, isC, alK_n, asK_n, List.getElem?_cons_zero, List.getElem?_cons_succ, List.set_cons_zero, List.set_cons_succ, List.length_cons, List.length_nil, ↓reduceIte, if_true, if_false, eq_self, and_true, true_and, and_self, Option.bind_some, Option.bind_none, Option.toList_some, Option.toList_none, List.cons_append, List.nil_append, mset_at, mset_ne, mset_2, mset_mset, Nat.reduceLT, Nat.reduceAdd, le_16, h16, G_W0c hw, h6, R_bit, h0, hi, h1, nI_succ', ih]
theorem W_dm_outc (hw : w = 8 ∨ w = 19) (hC : CW A w lc lt) (hW : WF lc lt) (f0 : Nat → Int32) : ∀ (n r : Nat) (l3 l4 : Option Value), r + n = 16 → ev 66 44 [some (.ref w), some (.int (fell lc lt (A w 5) (A w 6) r)), some (.int (nI (r + 1))), l3, l4] [] (Gc b u v (up A (w + 7) (mix 16 (dm lc lt (A w 5) (A w 6) r) f0)) τ) = some (none, Gc b u v (up A (w + 7) (mix 16 (dm lc lt (A w 5) (A w 6) 16) f0)) τ)
  | 0, r, l3, l4, hr => by
    have : r = 16 := by omega
    subst this
    rw [e66_44]
    simp (disch := first | omega | assumption | exact Nat.le_of_ble_eq_true rfl) only [m66, e66_45, e66_47, Bool.false_eq_true, Bool.true_eq_false, gfK, pfK, lnK, isC, alK_n, asK_n, List.getElem?_cons_zero, List.getElem?_cons_succ, List.set_cons_zero, List.set_cons_succ, List.length_cons, List.length_nil, ↓reduceIte, if_true, if_false, eq_self, and_true, true_and, and_self, Option.bind_some, Option.bind_none, Option.toList_some, Option.toList_none, List.cons_append, List.nil_append, mset_at, mset_ne, mset_2, mset_mset, Nat.reduceLT, Nat.reduceAdd, lt_16g, show 16 < 16 + 1 from by omega, e66_122]
  | n + 1, r, l3, l4, hr => by
    have ih := fun l3 l4 => W_dm_outc hw hC hW f0 n (r + 1) l3 l4 (by omega)
    have h16 : ¬ 16 < r + 1 := by omega
    have hin := W_dm_inc (b := b) (u := u) (v := v) (τ := τ) (F := fell lc lt (A w 5) (A w 6) r) (x := nI (r + 1)) hw hC hW (mix 16 (dm lc lt (A w 5) (A w 6) r) f0) 16 0 rfl
    rw [mix_0, orF] at hin
    have hm : mix 16 (fun s => if fallP lc lt (fell lc lt (A w 5) (A w 6) r) (A w 6) s = true then nI (r + 1) else mix 16 (dm lc lt (A w 5) (A w 6) r) f0 s) (mix 16 (dm lc lt (A w 5) (A w 6) r) f0) = mix 16 (dm lc lt (A w 5) (A w 6) (r + 1)) f0 := by
      rw [mix_mix]
      exact mix_congr fun s hs => by rw [dm_step hW hs, mix_lt hs]
    rw [hm, ← lit_0] at hin
    rw [e66_44]
    simp (disch := first | omega | assumption | exact Nat.le_of_ble_eq_true rfl) only [m66, e66_45, e66_47, e66_50, e66_51i, e66_51n, e66_51r, e66_52, e66_53i, e66_53n, e66_53r, Bool.false_eq_true, Bool.true_eq_false, gfK, pfK, lnK, isC, alK_n, asK_n, List.getElem?_cons_zero, List.getElem?_cons_succ, List.set_cons_zero, List.set_cons_succ, List.length_cons, List.length_nil, ↓reduceIte, if_true, if_false, eq_self, and_true, true_and, and_self, Option.bind_some, Option.bind_none, Option.toList_some, Option.toList_none, List.cons_append, List.nil_append, mset_at, mset_ne, mset_2, mset_mset, Nat.reduceLT, Nat.reduceAdd, lt_16g, h16, hin]
    simp (disch := first | omega | assumption | exact Nat.le_of_ble_eq_true rfl) only [m66, e66_112, e66_113, e66_114, e66_115i, e66_115n, e66_115r, e66_116i, e66_116n, e66_116r, e66_119, Bool.false_eq_true, Bool.true_eq_false, gfK, pfK, lnK, isC, alK_n, asK_n, List.getElem?_cons_zero, List.getElem?_cons_succ, List.set_cons_zero, List.set_cons_succ, List.length_cons, List.length_nil, ↓reduceIte, if_true, if_false, eq_self, and_true, true_and, and_self, Option.bind_some, Option.bind_none, Option.toList_some, Option.toList_none, List.cons_append, List.nil_append, mset_at, mset_ne, mset_2, mset_mset, Nat.reduceLT, Nat.reduceAdd, fell_step hW (show r < 100 by omega), nI_succ', ih]
theorem W_doomsc (hw : w = 8 ∨ w = 19) (hC : CW A w lc lt) (hW : WF lc lt) (hb : S16 (A w 5)) : evM 66 [.ref w] (Gc b u v A τ) = some (none, Gc b u v (up A (w + 7) (mix 16 (dm lc lt (A w 5) (A w 6) 16) (A (w + 7)))) τ) := by
  have h0 := W_dm0c (b := b) (u := u) (v := v) (A := A) (τ := τ) (lc := lc) (lt := lt) (z := A w 6) hw (A (w + 7)) 16 0 rfl
  rw [mix_0, up_same, ← lit_0] at h0
  have h1 := W_dm_outc (b := b) (u := u) (v := v) (τ := τ) hw hC hW (A (w + 7)) 16 0 none none rfl
  rw [fell_0 hb, show nI (0 + 1) = 1 from rfl] at h1
  have h5 : up A (w + 7) (mix 16 (dm lc lt (A w 5) (A w 6) 0) (A (w + 7))) w 5 = A w 5 := by rw [up_ne (by omega)]
  simp (disch := first | omega | assumption | exact Nat.le_of_ble_eq_true rfl) only [m66, e66_0, e66_1i, e66_1n, e66_1r, Bool.false_eq_true, Bool.true_eq_false, gfK, pfK, lnK, isC, alK_n, asK_n, List.getElem?_cons_zero, List.getElem?_cons_succ, List.set_cons_zero, List.set_cons_succ, List.length_cons, List.length_nil, ↓reduceIte, if_true, if_false, eq_self, and_true, true_and, and_self, Option.bind_some, Option.bind_none, Option.toList_some, Option.toList_none, List.cons_append, List.nil_append, mset_at, mset_ne, mset_2, mset_mset, Nat.reduceLT, Nat.reduceAdd, h0]
  simp (disch := first | omega | assumption | exact Nat.le_of_ble_eq_true rfl) only [m66, e66_37, e66_38, e66_41i, e66_41n, e66_41r, e66_42, e66_43i, e66_43n, e66_43r, Bool.false_eq_true, Bool.true_eq_false, gfK, pfK, lnK, isC, alK_n, asK_n, List.getElem?_cons_zero, List.getElem?_cons_succ, List.set_cons_zero, List.set_cons_succ, List.length_cons, List.length_nil, ↓reduceIte, if_true, if_false, eq_self, and_true, true_and, and_self, Option.bind_some, Option.bind_none, Option.toList_some, Option.toList_none, List.cons_append, List.nil_append, mset_at, mset_ne, mset_2, mset_mset, Nat.reduceLT, Nat.reduceAdd, G_W0c hw, h5, h1]
end WSETTLE

section WSURE
variable {b w t : Nat} {u v : Int64} {A : Nat → Nat → Int32} {τ : Nat × Nat × Nat × (Nat → Int32)} {lc : Nat → Nat} {lt : Nat → Nat → Nat} {s d i r : Nat} {S C x y z br sf set : Int32} {σ : mS} {f : Nat → Int32}
theorem G_tc (hw : w = 8 ∨ w = 19) (ht : t = w + 8 ∨ t = w + 9) : (Gc b u v A τ).1 t = some (.inl (0, 16, (A t))) := by
  rcases ht with rfl | rfl
  · exact G_W8c hw
  · exact G_W9c hw
theorem S_tc (hw : w = 8 ∨ w = 19) (ht : t = w + 8 ∨ t = w + 9) : mset (Gc b u v A τ) t (.inl (0, 16, f)) = Gc b u v (up A t f) τ := by
  rcases ht with rfl | rfl
  · exact S_W8c hw
  · exact S_W9c hw
theorem W_sr0c (hw : w = 8 ∨ w = 19) (ht : t = w + 8 ∨ t = w + 9) (f0 : Nat → Int32) : ∀ (n s : Nat), s + n = 16 → ev 67 10 [some (.ref w), some (.int set), some (.ref t), some (.int (set &&& sf)), some (.int (nI s)), none, none] [] (Gc b u v (up A t (mix s (sr lc lt sf set 0) f0)) τ) = ev 67 49 [some (.ref w), some (.int set), some (.ref t), some (.int (set &&& sf)), some (.int (nI 16)), none, none] [] (Gc b u v (up A t (mix 16 (sr lc lt sf set 0) f0)) τ)
  | 0, s, hs => by
    have : s = 16 := by omega
    subst this
    rw [e67_10]
    simp (disch := first | omega | assumption | exact Nat.le_of_ble_eq_true rfl) only [m67, e67_12, e67_14, Bool.false_eq_true, Bool.true_eq_false, gfK, pfK, lnK, isC, alK_n, asK_n, List.getElem?_cons_zero, List.getElem?_cons_succ, List.set_cons_zero, List.set_cons_succ, List.length_cons, List.length_nil, ↓reduceIte, if_true, if_false, eq_self, and_true, true_and, and_self, Option.bind_some, Option.bind_none, Option.toList_some, Option.toList_none, List.cons_append, List.nil_append, mset_at, mset_ne, mset_2, mset_mset, Nat.reduceLT, Nat.reduceAdd, le_16, Nat.le_refl]
  | n + 1, s, hs => by
    have ih := W_sr0c hw ht f0 n (s + 1) (by omega)
    have h16 : ¬ 16 ≤ s := by omega
    rw [← mix_succ] at ih
    have hb : bi (set &&& sf) s = (bi set s && bi sf s) := bi_and _ _ _
    rw [e67_10]
    by_cases h0 : bi sf s = true ∧ bi set s = true
    · rw [show sr lc lt sf set 0 s = 0 from by rw [sr, if_pos h0]] at ih
      rw [h0.1, h0.2] at hb
      simp (disch := first | omega | assumption | exact Nat.le_of_ble_eq_true rfl) only [m67, e67_12, e67_14, e67_17, e67_19, e67_20, e67_21, e67_24, e67_25, e67_27, e67_28, e67_30, e67_33, e67_36, e67_37, e67_40, e67_42, e67_43i, e67_43n, e67_43r, e67_46, Bool.false_eq_true, Bool.true_eq_false, gfK, pfK, lnK, isC, alK_n, asK_n, List.getElem?_cons_zero, List.getElem?_cons_succ, List.set_cons_zero, List.set_cons_succ, List.length_cons, List.length_nil, ↓reduceIte, if_true, if_false, eq_self, and_true, true_and, and_self, Option.bind_some, Option.bind_none, Option.toList_some, Option.toList_none, List.cons_append, List.nil_append, mset_at, mset_ne, mset_2, mset_mset, Nat.reduceLT, Nat.reduceAdd, le_16, h16, of16, G_tc hw ht, S_tc hw ht, up_at, up_up, R_bit, hb, Bool.and_self, nz1, nI_succ', ih]
    · rw [show sr lc lt sf set 0 s = -9 from by rw [sr, if_neg h0]] at ih
      have hb' : bi (set &&& sf) s = false := by
        rw [hb]
        by_cases h1 : bi sf s = true
        · rw [h1, Bool.eq_false_iff.2 (fun g => h0 ⟨h1, g⟩)]; rfl
        · rw [Bool.eq_false_iff.2 h1, Bool.and_false]
      simp (disch := first | omega | assumption | exact Nat.le_of_ble_eq_true rfl) only [m67, e67_12, e67_14, e67_17, e67_19, e67_20, e67_21, e67_24, e67_25, e67_27, e67_28, e67_30, e67_33, e67_36, e67_37, e67_40, e67_42, e67_43i, e67_43n, e67_43r, e67_46, Bool.false_eq_true, Bool.true_eq_false, gfK, pfK, lnK, isC, alK_n, asK_n, List.getElem?_cons_zero, List.getElem?_cons_succ, List.set_cons_zero, List.set_cons_succ, List.length_cons, List.length_nil, ↓reduceIte, if_true, if_false, eq_self, and_true, true_and, and_self, Option.bind_some, Option.bind_none, Option.toList_some, Option.toList_none, List.cons_append, List.nil_append, mset_at, mset_ne, mset_2, mset_mset, Nat.reduceLT, Nat.reduceAdd, le_16, h16, of16, G_tc hw ht, S_tc hw ht, up_at, up_up, R_bit, hb', nI_succ', ih, Bool.false_eq_true]
theorem W_sr_inc (hw : w = 8 ∨ w = 19) (ht : t = w + 8 ∨ t = w + 9) (hC : CW A w lc lt) (hW : WF lc lt) (f0 : Nat → Int32) : ∀ (n s : Nat), s + n = 16 → ev 67 65 [some (.ref w), some (.int set), some (.ref t), some (.int C), some (.int x), some (.int (orF (comeP lc lt C (A w 6)) s 0)), some (.int (nI s))] [] (Gc b u v (up A t (mix s (fun s => if comeP lc lt C (A w 6) s = true then x else f0 s) f0)) τ) = ev 67 126 [some (.ref w), some (.int set), some (.ref t), some (.int C), some (.int x), some (.int (orF (comeP lc lt C (A w 6)) 16 0)), some (.int (nI 16))] [] (Gc b u v (up A t (mix 16 (fun s => if comeP lc lt C (A w 6) s = true then x else f0 s) f0)) τ)
  | 0, s, hs => by
    have : s = 16 := by omega
    subst this
    rw [e67_65]
    simp (disch := first | omega | assumption | exact Nat.le_of_ble_eq_true rfl) only [m67, e67_67, e67_69, Bool.false_eq_true, Bool.true_eq_false, gfK, pfK, lnK, isC, alK_n, asK_n, List.getElem?_cons_zero, List.getElem?_cons_succ, List.set_cons_zero, List.set_cons_succ, List.length_cons, List.length_nil, ↓reduceIte, if_true, if_false, eq_self, and_true, true_and, and_self, Option.bind_some, Option.bind_none, Option.toList_some, Option.toList_none, List.cons_append, List.nil_append, mset_at, mset_ne, mset_2, mset_mset, Nat.reduceLT, Nat.reduceAdd, le_16, Nat.le_refl]
  | n + 1, s, hs => by
    have ih := W_sr_inc hw ht hC hW f0 n (s + 1) (by omega)
    have h16 : ¬ 16 ≤ s := by omega
    have h6 : up A t (mix s (fun s => if comeP lc lt C (A w 6) s = true then x else f0 s) f0) w 6 = A w 6 := by rw [up_ne (by omega)]
    have hi := fun S => W_intoc (b := b) (u := u) (v := v) (τ := τ) (S := S) (s := s) hw (CW_up (k := t) (f := mix s (fun s => if comeP lc lt C (A w 6) s = true then x else f0 s) f0) (by omega) hC) hW (by omega)
    rw [e67_65]
    by_cases h0 : bi (A w 6 &&& (C ^^^ -1)) s = true
    · by_cases h1 : orF (fun d => sty lc lt C (s * 8 + d)) 8 0 = 0
      · have hP : comeP lc lt C (A w 6) s = false := by unfold comeP; rw [decide_eq_true h1]; exact Bool.and_false _
        rw [orF_f hP, mix_same (by rw [if_neg (by rw [hP]; exact Bool.false_ne_true), mix_ge (by omega)])] at ih
        simp (disch := first | omega | assumption | exact Nat.le_of_ble_eq_true rfl) only [m67, e67_67, e67_69, e67_72, e67_74, e67_75, e67_76, e67_79, e67_80, e67_83, e67_84, e67_85, e67_86, e67_87, e67_89, e67_92, e67_95, e67_96, e67_98, e67_99, e67_102, e67_105, e67_106, e67_108, e67_110, e67_111, e67_113, e67_114, e67_116, e67_117, e67_118i, e67_118n, e67_118r, e67_120i, e67_120n, e67_120r, e67_123, Bool.false_eq_true, Bool.true_eq_false, gfK, pfK, lnK, isC, alK_n, asK_n, List.getElem?_cons_zero, List.getElem?_cons_succ, List.set_cons_zero, List.set_cons_succ, List.length_cons, List.length_nil, ↓reduceIte, if_true, if_false, eq_self, and_true, true_and, and_self, Option.bind_some, Option.bind_none, Option.toList_some, Option.toList_none, List.cons_append, List.nil_append, mset_at, mset_ne, mset_2, mset_mset, Nat.reduceLT, Nat.reduceAdd, le_16, h16, of16, G_tc hw ht, G_W0c hw, h6, R_bit, h0, nz1, hi, h1, nI_succ', ih]
      · have hP : comeP lc lt C (A w 6) s = true := by unfold comeP; rw [h0, decide_eq_false h1]; rfl
        rw [orF_t hP, ← mix_succ, if_pos hP] at ih
        simp (disch := first | omega | assumption | exact Nat.le_of_ble_eq_true rfl) only [m67, e67_67, e67_69, e67_72, e67_74, e67_75, e67_76, e67_79, e67_80, e67_83, e67_84, e67_85, e67_86, e67_87, e67_89, e67_92, e67_95, e67_96, e67_98, e67_99, e67_102, e67_105, e67_106, e67_108, e67_110, e67_111, e67_113, e67_114, e67_116, e67_117, e67_118i, e67_118n, e67_118r, e67_120i, e67_120n, e67_120r, e67_123, Bool.false_eq_true, Bool.true_eq_false, gfK, pfK, lnK, isC, alK_n, asK_n, List.getElem?_cons_zero, List.getElem?_cons_succ, List.set_cons_zero, List.set_cons_succ, List.length_cons, List.length_nil, ↓reduceIte, if_true, if_false, eq_self, and_true, true_and, and_self, Option.bind_some, Option.bind_none, Option.toList_some, Option.toList_none, List.cons_append, List.nil_append, mset_at, mset_ne, mset_2, mset_mset, Nat.reduceLT, Nat.reduceAdd, le_16, h16, of16, G_tc hw ht, S_tc hw ht, G_W0c hw, h6, up_at, up_up, R_bit, h0, nz1, hi, h1, bit_def, nI_succ', ih]
    · have hP : comeP lc lt C (A w 6) s = false := by unfold comeP; rw [Bool.eq_false_iff.2 h0]; rfl
      rw [orF_f hP, mix_same (by rw [if_neg (by rw [hP]; exact Bool.false_ne_true), mix_ge (by omega)])] at ih
      simp (disch := first | omega | assumption | exact Nat.le_of_ble_eq_true rfl) only [m67, e67_67, e67_69, e67_72, e67_74, e67_75, e67_76, e67_79, e67_80, e67_83, e67_84, e67_85, e67_86, e67_87, e67_89, e67_92, e67_95, e67_96, e67_98, e67_99, e67_102, e67_105, e67_106, e67_108, e67_110, e67_111, e67_113, e67_114, e67_116, e67_117, e67_118i, e67_118n, e67_118r, e67_120i, e67_120n, e67_120r, e67_123, Bool.false_eq_true, Bool.true_eq_false, gfK, pfK, lnK, isC, alK_n, asK_n, List.getElem?_cons_zero, List.getElem?_cons_succ, List.set_cons_zero, List.set_cons_succ, List.length_cons, List.length_nil, ↓reduceIte, if_true, if_false, eq_self, and_true, true_and, and_self, Option.bind_some, Option.bind_none, Option.toList_some, Option.toList_none, List.cons_append, List.nil_append, mset_at, mset_ne, mset_2, mset_mset, Nat.reduceLT, Nat.reduceAdd, le_16, h16, of16, G_tc hw ht, G_W0c hw, h6, R_bit, h0, nI_succ', ih]
theorem W_sr_outc (hw : w = 8 ∨ w = 19) (ht : t = w + 8 ∨ t = w + 9) (hC : CW A w lc lt) (hW : WF lc lt) (f0 : Nat → Int32) : ∀ (n r : Nat) (l5 l6 : Option Value), r + n = 16 → ev 67 52 [some (.ref w), some (.int set), some (.ref t), some (.int (came lc lt (A w 6) set r)), some (.int (nI (r + 1))), l5, l6] [] (Gc b u v (up A t (mix 16 (sr lc lt (A w 6) set r) f0)) τ) = some (none, Gc b u v (up A t (mix 16 (sr lc lt (A w 6) set 16) f0)) τ)
  | 0, r, l5, l6, hr => by
    have : r = 16 := by omega
    subst this
    rw [e67_52]
    simp (disch := first | omega | assumption | exact Nat.le_of_ble_eq_true rfl) only [m67, e67_54, e67_56, Bool.false_eq_true, Bool.true_eq_false, gfK, pfK, lnK, isC, alK_n, asK_n, List.getElem?_cons_zero, List.getElem?_cons_succ, List.set_cons_zero, List.set_cons_succ, List.length_cons, List.length_nil, ↓reduceIte, if_true, if_false, eq_self, and_true, true_and, and_self, Option.bind_some, Option.bind_none, Option.toList_some, Option.toList_none, List.cons_append, List.nil_append, mset_at, mset_ne, mset_2, mset_mset, Nat.reduceLT, Nat.reduceAdd, lt_16g, show 16 < 16 + 1 from by omega, e67_137]
  | n + 1, r, l5, l6, hr => by
    have ih := fun l5 l6 => W_sr_outc hw ht hC hW f0 n (r + 1) l5 l6 (by omega)
    have h16 : ¬ 16 < r + 1 := by omega
    have hin := W_sr_inc (b := b) (u := u) (v := v) (τ := τ) (set := set) (C := came lc lt (A w 6) set r) (x := nI (r + 1)) hw ht hC hW (mix 16 (sr lc lt (A w 6) set r) f0) 16 0 rfl
    rw [mix_0, orF] at hin
    have hm : mix 16 (fun s => if comeP lc lt (came lc lt (A w 6) set r) (A w 6) s = true then nI (r + 1) else mix 16 (sr lc lt (A w 6) set r) f0 s) (mix 16 (sr lc lt (A w 6) set r) f0) = mix 16 (sr lc lt (A w 6) set (r + 1)) f0 := by
      rw [mix_mix]
      exact mix_congr fun s hs => by rw [sr_step hW hs, mix_lt hs]
    rw [hm, ← lit_0] at hin
    rw [e67_52]
    simp (disch := first | omega | assumption | exact Nat.le_of_ble_eq_true rfl) only [m67, e67_54, e67_56, e67_59, e67_60i, e67_60n, e67_60r, e67_62, e67_63i, e67_63n, e67_63r, Bool.false_eq_true, Bool.true_eq_false, gfK, pfK, lnK, isC, alK_n, asK_n, List.getElem?_cons_zero, List.getElem?_cons_succ, List.set_cons_zero, List.set_cons_succ, List.length_cons, List.length_nil, ↓reduceIte, if_true, if_false, eq_self, and_true, true_and, and_self, Option.bind_some, Option.bind_none, Option.toList_some, Option.toList_none, List.cons_append, List.nil_append, mset_at, mset_ne, mset_2, mset_mset, Nat.reduceLT, Nat.reduceAdd, lt_16g, h16, hin]
    simp (disch := first | omega | assumption | exact Nat.le_of_ble_eq_true rfl) only [m67, e67_126, e67_127, e67_129, e67_130i, e67_130n, e67_130r, e67_131i, e67_131n, e67_131r, e67_134, Bool.false_eq_true, Bool.true_eq_false, gfK, pfK, lnK, isC, alK_n, asK_n, List.getElem?_cons_zero, List.getElem?_cons_succ, List.set_cons_zero, List.set_cons_succ, List.length_cons, List.length_nil, ↓reduceIte, if_true, if_false, eq_self, and_true, true_and, and_self, Option.bind_some, Option.bind_none, Option.toList_some, Option.toList_none, List.cons_append, List.nil_append, mset_at, mset_ne, mset_2, mset_mset, Nat.reduceLT, Nat.reduceAdd, came_step hW (show r < 100 by omega), nI_succ', ih]
theorem W_surec (hw : w = 8 ∨ w = 19) (ht : t = w + 8 ∨ t = w + 9) (hC : CW A w lc lt) (hW : WF lc lt) (hb : S16 (A w 6)) : evM 67 [.ref w, .int set, .ref t] (Gc b u v A τ) = some (none, Gc b u v (up A t (mix 16 (sr lc lt (A w 6) set 16) (A t))) τ) := by
  have h0 := W_sr0c (b := b) (u := u) (v := v) (A := A) (τ := τ) (lc := lc) (lt := lt) (set := set) (sf := A w 6) hw ht (A t) 16 0 rfl
  rw [mix_0, up_same, ← lit_0] at h0
  have h1 := W_sr_outc (b := b) (u := u) (v := v) (τ := τ) (set := set) hw ht hC hW (A t) 16 0 none none rfl
  rw [came_0 hb, show nI (0 + 1) = 1 from rfl] at h1
  simp (disch := first | omega | assumption | exact Nat.le_of_ble_eq_true rfl) only [m67, e67_0, e67_1, e67_2, e67_5, e67_6i, e67_6n, e67_6r, e67_7, e67_8i, e67_8n, e67_8r, Bool.false_eq_true, Bool.true_eq_false, gfK, pfK, lnK, isC, alK_n, asK_n, List.getElem?_cons_zero, List.getElem?_cons_succ, List.set_cons_zero, List.set_cons_succ, List.length_cons, List.length_nil, ↓reduceIte, if_true, if_false, eq_self, and_true, true_and, and_self, Option.bind_some, Option.bind_none, Option.toList_some, Option.toList_none, List.cons_append, List.nil_append, mset_at, mset_ne, mset_2, mset_mset, Nat.reduceLT, Nat.reduceAdd, G_W0c hw, h0]
  simp (disch := first | omega | assumption | exact Nat.le_of_ble_eq_true rfl) only [m67, e67_49, e67_50i, e67_50n, e67_50r, Bool.false_eq_true, Bool.true_eq_false, gfK, pfK, lnK, isC, alK_n, asK_n, List.getElem?_cons_zero, List.getElem?_cons_succ, List.set_cons_zero, List.set_cons_succ, List.length_cons, List.length_nil, ↓reduceIte, if_true, if_false, eq_self, and_true, true_and, and_self, Option.bind_some, Option.bind_none, Option.toList_some, Option.toList_none, List.cons_append, List.nil_append, mset_at, mset_ne, mset_2, mset_mset, Nat.reduceLT, Nat.reduceAdd, h1]
theorem G_WAc (hw : w = 8 ∨ w = 19) : (Gc b u v (WA A w br S) τ).1 w = some (.inr (6, [.ref (w + 1), .ref (w + 2), .ref (w + 3), .ref (w + 4), .ref (w + 5), .int (A w 0), .int (A w 1), .int (A w 2), .int (A w 3), .int (A w 4), .int br, .int S, .ref (w + 6), .ref (w + 7), .ref (w + 8), .ref (w + 9), .ref (w + 10)])) := (G_W0c hw).trans (by rw [WA_w]; rfl)
theorem S_WAc (hw : w = 8 ∨ w = 19) : mset (Gc b u v (WA A w br S) τ) w (.inr (6, [.ref (w + 1), .ref (w + 2), .ref (w + 3), .ref (w + 4), .ref (w + 5), .int (A w 0), .int (A w 1), .int (A w 2), .int (A w 3), .int (A w 4), .int x, .int y, .ref (w + 6), .ref (w + 7), .ref (w + 8), .ref (w + 9), .ref (w + 10)])) = Gc b u v (WA A w x y) τ := (S_W0c hw).trans (congrArg (fun X => Gc b u v X τ) up_up)
theorem S_WA0c (hw : w = 8 ∨ w = 19) : mset (Gc b u v A τ) w (.inr (6, [.ref (w + 1), .ref (w + 2), .ref (w + 3), .ref (w + 4), .ref (w + 5), .int (A w 0), .int (A w 1), .int (A w 2), .int (A w 3), .int (A w 4), .int x, .int y, .ref (w + 6), .ref (w + 7), .ref (w + 8), .ref (w + 9), .ref (w + 10)])) = Gc b u v (WA A w x y) τ := S_W0c hw
theorem W_safe_loopc (hw : w = 8 ∨ w = 19) (hC : CW A w lc lt) (hW : WF lc lt) : ∀ (n i : Nat) (S : Int32), i + n = 16 → ev 59 28 [some (.ref w), some (.int (nI i))] [] (Gc b u v (WA A w br S) τ) = ev 59 52 [some (.ref w), some (.int (nI 16))] [] (Gc b u v (WA A w br (itr (thn lc lt (A w 4)) n S)) τ)
  | 0, i, S, hi => by
    have : i = 16 := by omega
    subst this
    rw [e59_28]
    simp (disch := first | omega | assumption | exact Nat.le_of_ble_eq_true rfl) only [m59, e59_29, e59_31, Bool.false_eq_true, Bool.true_eq_false, gfK, pfK, lnK, isC, alK_n, asK_n, List.getElem?_cons_zero, List.getElem?_cons_succ, List.set_cons_zero, List.set_cons_succ, List.length_cons, List.length_nil, ↓reduceIte, if_true, if_false, eq_self, and_true, true_and, and_self, Option.bind_some, Option.bind_none, Option.toList_some, Option.toList_none, List.cons_append, List.nil_append, mset_at, mset_ne, mset_2, mset_mset, Nat.reduceLT, Nat.reduceAdd, le_16, Nat.le_refl, itr]
  | n + 1, i, S, hi => by
    have ih := W_safe_loopc hw hC hW n (i + 1) (thn lc lt (A w 4) S) (by omega)
    have h16 : ¬ 16 ≤ i := by omega
    have ht := W_thinc (b := b) (u := u) (v := v) (A := WA A w br S) (τ := τ) (S := S) hw (CW_up (by omega) hC) hW
    rw [WA_w] at ht
    rw [e59_28]
    simp (disch := first | omega | assumption | exact Nat.le_of_ble_eq_true rfl) only [m59, e59_29, e59_31, e59_34, e59_35, e59_36, e59_37, e59_40, e59_43, e59_46i, e59_46n, e59_46r, e59_49, Bool.false_eq_true, Bool.true_eq_false, gfK, pfK, lnK, isC, alK_n, asK_n, List.getElem?_cons_zero, List.getElem?_cons_succ, List.set_cons_zero, List.set_cons_succ, List.length_cons, List.length_nil, ↓reduceIte, if_true, if_false, eq_self, and_true, true_and, and_self, Option.bind_some, Option.bind_none, Option.toList_some, Option.toList_none, List.cons_append, List.nil_append, mset_at, mset_ne, mset_2, mset_mset, Nat.reduceLT, Nat.reduceAdd, le_16, h16, G_WAc hw, S_WAc hw, ht, fL_s, fL_0, nI_succ', ih, itr]
theorem W_let_loopc (hw : w = 8 ∨ w = 19) (hC : CW A w lc lt) (hW : WF lc lt) (f0 : Nat → Int32) : ∀ (n s : Nat), s + n = 16 → ev 59 54 [some (.ref w), some (.int (nI s))] [] (Gc b u v (up A (w + 6) (mix s (letF lc lt (A w 6)) f0)) τ) = ev 59 96 [some (.ref w), some (.int (nI 16))] [] (Gc b u v (up A (w + 6) (mix 16 (letF lc lt (A w 6)) f0)) τ)
  | 0, s, hs => by
    have : s = 16 := by omega
    subst this
    rw [e59_54]
    simp (disch := first | omega | assumption | exact Nat.le_of_ble_eq_true rfl) only [m59, e59_55, e59_57, Bool.false_eq_true, Bool.true_eq_false, gfK, pfK, lnK, isC, alK_n, asK_n, List.getElem?_cons_zero, List.getElem?_cons_succ, List.set_cons_zero, List.set_cons_succ, List.length_cons, List.length_nil, ↓reduceIte, if_true, if_false, eq_self, and_true, true_and, and_self, Option.bind_some, Option.bind_none, Option.toList_some, Option.toList_none, List.cons_append, List.nil_append, mset_at, mset_ne, mset_2, mset_mset, Nat.reduceLT, Nat.reduceAdd, le_16, Nat.le_refl]
  | n + 1, s, hs => by
    have ih := W_let_loopc hw hC hW f0 n (s + 1) (by omega)
    have h16 : ¬ 16 ≤ s := by omega
    have h6 : up A (w + 6) (mix s (letF lc lt (A w 6)) f0) w 6 = A w 6 := by rw [up_ne (by omega)]
    have hi := fun S => W_intoc (b := b) (u := u) (v := v) (τ := τ) (S := S) (s := s) hw (CW_up (k := w + 6) (f := mix s (letF lc lt (A w 6)) f0) (by omega) hC) hW (by omega)
    rw [← mix_succ] at ih
    rw [e59_54]
    by_cases h0 : bi (A w 6) s = true
    · rw [letF, if_pos h0] at ih
      simp (disch := first | omega | assumption | exact Nat.le_of_ble_eq_true rfl) only [m59, e59_55, e59_57, e59_60, e59_61, e59_64, e59_65, e59_66, e59_69, e59_70, e59_73, e59_76, e59_77, e59_78, e59_79, e59_82, e59_85, e59_88, e59_89, e59_90i, e59_90n, e59_90r, e59_93, Bool.false_eq_true, Bool.true_eq_false, gfK, pfK, lnK, isC, alK_n, asK_n, List.getElem?_cons_zero, List.getElem?_cons_succ, List.set_cons_zero, List.set_cons_succ, List.length_cons, List.length_nil, ↓reduceIte, if_true, if_false, eq_self, and_true, true_and, and_self, Option.bind_some, Option.bind_none, Option.toList_some, Option.toList_none, List.cons_append, List.nil_append, mset_at, mset_ne, mset_2, mset_mset, Nat.reduceLT, Nat.reduceAdd, le_16, h16, G_W0c hw, G_W6c hw, S_W6c hw, h6, up_at, up_up, R_bit, h0, nz1, hi, nI_succ', ih]
    · rw [letF, if_neg h0] at ih
      simp (disch := first | omega | assumption | exact Nat.le_of_ble_eq_true rfl) only [m59, e59_55, e59_57, e59_60, e59_61, e59_64, e59_65, e59_66, e59_69, e59_70, e59_73, e59_76, e59_77, e59_78, e59_79, e59_82, e59_85, e59_88, e59_89, e59_90i, e59_90n, e59_90r, e59_93, Bool.false_eq_true, Bool.true_eq_false, gfK, pfK, lnK, isC, alK_n, asK_n, List.getElem?_cons_zero, List.getElem?_cons_succ, List.set_cons_zero, List.set_cons_succ, List.length_cons, List.length_nil, ↓reduceIte, if_true, if_false, eq_self, and_true, true_and, and_self, Option.bind_some, Option.bind_none, Option.toList_some, Option.toList_none, List.cons_append, List.nil_append, mset_at, mset_ne, mset_2, mset_mset, Nat.reduceLT, Nat.reduceAdd, le_16, h16, G_W0c hw, G_W6c hw, S_W6c hw, h6, up_at, up_up, R_bit, h0, nI_succ', ih, Bool.false_eq_true]
theorem W_settlec (hw : w = 8 ∨ w = 19) (hC : CW A w lc lt) (hW : WF lc lt) (hn : S16 (A w 2)) : evM 59 [.ref w] (Gc b u v A τ) = some (none, Gc b u v (stl A w lc lt (brk lc (A w 4) (A w 2)) (saf lc lt (A w 4) (A w 2))) τ) := by
  have h1 := W_stuckc (b := b) (u := u) (v := v) (τ := τ) hw hC hW
  have h2 := W_safe_loopc (b := b) (u := u) (v := v) (τ := τ) (br := brk lc (A w 4) (A w 2)) hw hC hW 16 0 (65535 &&& (brk lc (A w 4) (A w 2) ^^^ -1)) rfl
  have e1 : A w 2 ||| orF (fun s => !bi (A w 4) s && !anyF (fun d => decide (0 < lc (s * 8 + d))) 8) 16 0 = brk lc (A w 4) (A w 2) := (orF_or 16).symm
  obtain ⟨br, hbr⟩ : ∃ br, br = brk lc (A w 4) (A w 2) := ⟨_, rfl⟩
  have e2 : itr (thn lc lt (A w 4)) 16 (65535 &&& (brk lc (A w 4) (A w 2) ^^^ -1)) = saf lc lt (A w 4) (A w 2) := rfl
  obtain ⟨sf, hsf⟩ : ∃ sf, sf = saf lc lt (A w 4) (A w 2) := ⟨_, rfl⟩
  have hbs : S16 br := hbr ▸ brk_s16 hn
  have hss : S16 sf := hsf ▸ saf_s16
  rw [e2, ← hbr, ← hsf, ← lit_0] at h2
  rw [← hbr] at e1
  rw [← hbr, ← hsf]
  have h3 := W_let_loopc (b := b) (u := u) (v := v) (A := WA A w br sf) (τ := τ) hw (CW_up (by omega) hC) hW (A (w + 6)) 16 0 rfl
  rw [mix_0, WA_w, show fL [A w 0, A w 1, A w 2, A w 3, A w 4, br, sf] 6 = sf from rfl, ← WA_ne (A := A) (w := w) (br := br) (S := sf) (k := w + 6) (by omega), up_same, ← lit_0] at h3
  obtain ⟨A2, hA2⟩ : ∃ A2, A2 = up (WA A w br sf) (w + 6) (mix 16 (letF lc lt sf) (WA A w br sf (w + 6))) := ⟨_, rfl⟩
  rw [← hA2] at h3
  have g2 : A2 w = fL [A w 0, A w 1, A w 2, A w 3, A w 4, br, sf] := by rw [hA2, up_ne (by omega), WA_w]
  have n2 : ∀ k, k ≠ w → k ≠ w + 6 → A2 k = A k := fun k k1 k2 => by rw [hA2, up_ne k2, WA_ne k1]
  have c2 : CW A2 w lc lt := hA2 ▸ CW_up (by omega) (CW_up (by omega) hC)
  have h4 := W_doomsc (b := b) (u := u) (v := v) (A := A2) (τ := τ) hw c2 hW (by rw [g2]; exact hbs)
  rw [g2, n2 (w + 7) (by omega) (by omega), show fL [A w 0, A w 1, A w 2, A w 3, A w 4, br, sf] 6 = sf from rfl, show fL [A w 0, A w 1, A w 2, A w 3, A w 4, br, sf] 5 = br from rfl] at h4
  obtain ⟨A3, hA3⟩ : ∃ A3, A3 = up A2 (w + 7) (mix 16 (dm lc lt br sf 16) (A (w + 7))) := ⟨_, rfl⟩
  rw [← hA3] at h4
  have g3 : A3 w = fL [A w 0, A w 1, A w 2, A w 3, A w 4, br, sf] := by rw [hA3, up_ne (by omega), g2]
  have n3 : ∀ k, k ≠ w → k ≠ w + 6 → k ≠ w + 7 → A3 k = A k := fun k k1 k2 k3 => by rw [hA3, up_ne k3, n2 k k1 k2]
  have c3 : CW A3 w lc lt := hA3 ▸ CW_up (by omega) c2
  have h5 := W_surec (b := b) (u := u) (v := v) (A := A3) (τ := τ) (t := w + 8) (set := A w 3) hw (Or.inl rfl) c3 hW (by rw [g3]; exact hss)
  rw [g3, n3 (w + 8) (by omega) (by omega) (by omega), show fL [A w 0, A w 1, A w 2, A w 3, A w 4, br, sf] 6 = sf from rfl] at h5
  obtain ⟨A4, hA4⟩ : ∃ A4, A4 = up A3 (w + 8) (mix 16 (sr lc lt sf (A w 3) 16) (A (w + 8))) := ⟨_, rfl⟩
  rw [← hA4] at h5
  have g4 : A4 w = fL [A w 0, A w 1, A w 2, A w 3, A w 4, br, sf] := by rw [hA4, up_ne (by omega), g3]
  have n4 : ∀ k, k ≠ w → k ≠ w + 6 → k ≠ w + 7 → k ≠ w + 8 → A4 k = A k := fun k k1 k2 k3 k4 => by rw [hA4, up_ne k4, n3 k k1 k2 k3]
  have c4 : CW A4 w lc lt := hA4 ▸ CW_up (by omega) c3
  have h6 := W_surec (b := b) (u := u) (v := v) (A := A4) (τ := τ) (t := w + 9) (set := A w 4) hw (Or.inr rfl) c4 hW (by rw [g4]; exact hss)
  rw [g4, n4 (w + 9) (by omega) (by omega) (by omega) (by omega), show fL [A w 0, A w 1, A w 2, A w 3, A w 4, br, sf] 6 = sf from rfl] at h6
  have e9 : up A4 (w + 9) (mix 16 (sr lc lt sf (A w 4) 16) (A (w + 9))) = stl A w lc lt br sf := by
    rw [hA4, hA3, hA2, WA_ne (by omega)]
    rfl
  rw [e9] at h6
  simp (disch := first | omega | assumption | exact Nat.le_of_ble_eq_true rfl) only [m59, e59_0, e59_1, e59_2, e59_5, e59_6, e59_9, e59_10, Bool.false_eq_true, Bool.true_eq_false, gfK, pfK, lnK, isC, alK_n, asK_n, List.getElem?_cons_zero, List.getElem?_cons_succ, List.set_cons_zero, List.set_cons_succ, List.length_cons, List.length_nil, ↓reduceIte, if_true, if_false, eq_self, and_true, true_and, and_self, Option.bind_some, Option.bind_none, Option.toList_some, Option.toList_none, List.cons_append, List.nil_append, mset_at, mset_ne, mset_2, mset_mset, Nat.reduceLT, Nat.reduceAdd, G_W0c hw, S_WA0c hw, h1, e1]
  simp (disch := first | omega | assumption | exact Nat.le_of_ble_eq_true rfl) only [m59, e59_13, e59_14, e59_16, e59_17, e59_20, e59_21, e59_22, e59_23, e59_26, e59_27i, e59_27n, e59_27r, Bool.false_eq_true, Bool.true_eq_false, gfK, pfK, lnK, isC, alK_n, asK_n, List.getElem?_cons_zero, List.getElem?_cons_succ, List.set_cons_zero, List.set_cons_succ, List.length_cons, List.length_nil, ↓reduceIte, if_true, if_false, eq_self, and_true, true_and, and_self, Option.bind_some, Option.bind_none, Option.toList_some, Option.toList_none, List.cons_append, List.nil_append, mset_at, mset_ne, mset_2, mset_mset, Nat.reduceLT, Nat.reduceAdd, G_WAc hw, S_WAc hw, h2]
  simp (disch := first | omega | assumption | exact Nat.le_of_ble_eq_true rfl) only [m59, e59_52, e59_53i, e59_53n, e59_53r, Bool.false_eq_true, Bool.true_eq_false, gfK, pfK, lnK, isC, alK_n, asK_n, List.getElem?_cons_zero, List.getElem?_cons_succ, List.set_cons_zero, List.set_cons_succ, List.length_cons, List.length_nil, ↓reduceIte, if_true, if_false, eq_self, and_true, true_and, and_self, Option.bind_some, Option.bind_none, Option.toList_some, Option.toList_none, List.cons_append, List.nil_append, mset_at, mset_ne, mset_2, mset_mset, Nat.reduceLT, Nat.reduceAdd, h3]
  simp (disch := first | omega | assumption | exact Nat.le_of_ble_eq_true rfl) only [m59, e59_96, e59_97, e59_100, e59_101, e59_102, e59_105, e59_106, e59_109, e59_112, e59_113, e59_114, e59_117, e59_118, e59_121, e59_124, Bool.false_eq_true, Bool.true_eq_false, gfK, pfK, lnK, isC, alK_n, asK_n, List.getElem?_cons_zero, List.getElem?_cons_succ, List.set_cons_zero, List.set_cons_succ, List.length_cons, List.length_nil, ↓reduceIte, if_true, if_false, eq_self, and_true, true_and, and_self, Option.bind_some, Option.bind_none, Option.toList_some, Option.toList_none, List.cons_append, List.nil_append, mset_at, mset_ne, mset_2, mset_mset, Nat.reduceLT, Nat.reduceAdd, G_W0c hw, h4, g3, g4, fL_s, fL_0, h5, h6]
end WSURE

