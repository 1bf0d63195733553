/-! THE CONSTRUCTORS over a list of cells: what was there (l), and what is new. -/
def HX (l r : List mE) (s : Nat) (sc : Nat × (Nat → Int32)) : mS := (fun k => (l ++ r)[k]?, (l ++ r).length, s, sc)
theorem HX_app {l r r' : List mE} {s : Nat} {sc : Nat × (Nat → Int32)} : HX (l ++ r) r' s sc = HX l (r ++ r') s sc := by
  unfold HX
  rw [List.append_assoc]
section CTOR
variable {l r : List mE} {s n : Nat} {sc : Nat × (Nat → Int32)} {o e c0 : mE}
theorem HX_n : (HX l r s sc).2.1 = l.length + r.length := List.length_append
theorem HX_at : (HX l (o :: r) s sc).1 l.length = some o := by
  show (l ++ o :: r)[l.length]? = _
  rw [List.getElem?_append_right (Nat.le_refl _), Nat.sub_self]
  rfl
theorem HX_set : mset (HX l (o :: r) s sc) l.length e = HX l (e :: r) s sc := by
  refine Prod.ext (funext fun j => ?_) ?_
  · show hu (fun k => (l ++ o :: r)[k]?) l.length e j = (l ++ e :: r)[j]?
    unfold hu
    by_cases h : j = l.length
    · rw [if_pos h, h, List.getElem?_append_right (Nat.le_refl _), Nat.sub_self]
      rfl
    · rw [if_neg h]
      show (l ++ o :: r)[j]? = _
      by_cases h1 : j < l.length
      · rw [List.getElem?_append_left h1, List.getElem?_append_left h1]
      · rw [List.getElem?_append_right (by omega), List.getElem?_append_right (by omega)]
        obtain ⟨k, hk⟩ : ∃ k, j - l.length = k + 1 := ⟨j - l.length - 1, by omega⟩
        rw [hk]
        rfl
  · show ((l ++ o :: r).length, s, sc) = ((l ++ e :: r).length, s, sc)
    simp
theorem HX_new : mnew (HX l r s sc) e n = HX l (r ++ [e]) (s + n) sc := by
  refine Prod.ext (funext fun j => ?_) ?_
  · show hu (fun k => (l ++ r)[k]?) (l ++ r).length e j = (l ++ (r ++ [e]))[j]?
    rw [← List.append_assoc]
    unfold hu
    by_cases h : j = (l ++ r).length
    · rw [if_pos h, h, List.getElem?_append_right (Nat.le_refl _), Nat.sub_self]
      rfl
    · rw [if_neg h]
      show (l ++ r)[j]? = _
      by_cases h1 : j < (l ++ r).length
      · rw [List.getElem?_append_left h1]
      · have e1 : (l ++ r)[j]? = none := List.getElem?_eq_none (by omega)
        have e2 : ((l ++ r) ++ [e])[j]? = none := List.getElem?_eq_none (by rw [List.length_append, List.length_singleton]; omega)
        rw [e1, e2]
  · show ((l ++ r).length + 1, s + n, sc) = ((l ++ (r ++ [e])).length, s + n, sc)
    simp only [List.length_append, List.length_cons, List.length_nil]
    rfl
theorem HX_at0 : (HX (c0 :: l) r s sc).1 0 = some c0 := rfl
theorem HX_set0 : mset (HX (c0 :: l) r s sc) 0 e = HX (e :: l) r s sc := by
  refine Prod.ext (funext fun j => ?_) rfl
  show hu (fun k => (c0 :: (l ++ r))[k]?) 0 e j = (e :: (l ++ r))[j]?
  unfold hu
  cases j with
  | zero => rfl
  | succ j => rfl
theorem HX_in : HX l r s sc = HX (l ++ r) [] s sc := by
  unfold HX
  rw [List.append_nil]
theorem ct_0 : (ctT 0).map dfv = [.null, .null, .null, .null, .int 0, .int 0] := rfl
theorem ct_1 : (ctT 1).map dfv = [.null] := rfl
theorem ct_2 : (ctT 2).map dfv = [.int 0, .int 0, .int 0, .int 0] := rfl
theorem ct_3 : (ctT 3).map dfv = [.int 0, .int 0, .null, .int 0] := rfl
theorem ct_4 : (ctT 4).map dfv = [.null, .int 0] := rfl
theorem ct_5 : (ctT 5).map dfv = [.null, .null, .null, .int 0, .int 0] := rfl
theorem ct_6 : (ctT 6).map dfv = [.null, .null, .null, .null, .null, .int 0, .int 0, .int 0, .int 0, .int 0, .int 0, .int 0, .null, .null, .null, .null, .null] := rfl
theorem ct_7 : (ctT 7).map dfv = [.null, .null, .null, .null, .null, .null, .null, .null, .null, .null, .long 0] := rfl
theorem ct_8 : (ctT 8).map dfv = [.int 0, .long 0, .null, .int 0, .int 0, .int 0, .int 0, .int 0, .int 0, .int 0, .null, .int 0, .int 0, .int 0, .int 0, .null, .int 0, .int 0, .null, .int 0, .int 0, .null, .null, .null, .null, .null, .null, .null, .null] := rfl
theorem cl_0 : (ctT 0).length = 6 := rfl
theorem cl_1 : (ctT 1).length = 1 := rfl
theorem cl_2 : (ctT 2).length = 4 := rfl
theorem cl_3 : (ctT 3).length = 4 := rfl
theorem cl_4 : (ctT 4).length = 2 := rfl
theorem cl_5 : (ctT 5).length = 5 := rfl
theorem cl_6 : (ctT 6).length = 17 := rfl
theorem cl_7 : (ctT 7).length = 11 := rfl
theorem cl_8 : (ctT 8).length = 29 := rfl
theorem na_600 : ¬ ((600 : Int32) < 0 ∨ 100000 < (600 : Int32).toNatClampNeg) := by decide
theorem nc_600 : (600 : Int32).toNatClampNeg = 600 := by decide
theorem na_601 : ¬ ((601 : Int32) < 0 ∨ 100000 < (601 : Int32).toNatClampNeg) := by decide
theorem nc_601 : (601 : Int32).toNatClampNeg = 601 := by decide
theorem na_128 : ¬ ((128 : Int32) < 0 ∨ 100000 < (128 : Int32).toNatClampNeg) := by decide
theorem nc_128 : (128 : Int32).toNatClampNeg = 128 := by decide
theorem na_512 : ¬ ((512 : Int32) < 0 ∨ 100000 < (512 : Int32).toNatClampNeg) := by decide
theorem nc_512 : (512 : Int32).toNatClampNeg = 512 := by decide
theorem na_10 : ¬ ((10 : Int32) < 0 ∨ 100000 < (10 : Int32).toNatClampNeg) := by decide
theorem nc_10 : (10 : Int32).toNatClampNeg = 10 := by decide
theorem na_16 : ¬ ((16 : Int32) < 0 ∨ 100000 < (16 : Int32).toNatClampNeg) := by decide
theorem nc_16 : (16 : Int32).toNatClampNeg = 16 := by decide
theorem na_8 : ¬ ((8 : Int32) < 0 ∨ 100000 < (8 : Int32).toNatClampNeg) := by decide
theorem nc_8 : (8 : Int32).toNatClampNeg = 8 := by decide
theorem na_1280 : ¬ ((1280 : Int32) < 0 ∨ 100000 < (1280 : Int32).toNatClampNeg) := by decide
theorem nc_1280 : (1280 : Int32).toNatClampNeg = 1280 := by decide
theorem na_40 : ¬ ((40 : Int32) < 0 ∨ 100000 < (40 : Int32).toNatClampNeg) := by decide
theorem nc_40 : (40 : Int32).toNatClampNeg = 40 := by decide
theorem na_3 : ¬ ((3 : Int32) < 0 ∨ 100000 < (3 : Int32).toNatClampNeg) := by decide
theorem nc_3 : (3 : Int32).toNatClampNeg = 3 := by decide
theorem na_805 : ¬ ((805 : Int32) < 0 ∨ 100000 < (805 : Int32).toNatClampNeg) := by decide
theorem nc_805 : (805 : Int32).toNatClampNeg = 805 := by decide
theorem na_1610 : ¬ ((1610 : Int32) < 0 ∨ 100000 < (1610 : Int32).toNatClampNeg) := by decide
theorem nc_1610 : (1610 : Int32).toNatClampNeg = 1610 := by decide
theorem na_2 : ¬ ((2 : Int32) < 0 ∨ 100000 < (2 : Int32).toNatClampNeg) := by decide
theorem nc_2 : (2 : Int32).toNatClampNeg = 2 := by decide
theorem K_Text : evM 41 [.ref l.length] (HX l [.inr (4, [.null, .int 0])] (s) sc) = some (none, (HX l [.inr (4, [.ref (l.length + 1), .int 0]), .inl (0, 600, fun _ => 0)] (s + 600) sc)) := by
  have h600 := na_600
  have h601 := na_601
  have h128 := na_128
  have h512 := na_512
  have h10 := na_10
  have h16 := na_16
  have h8 := na_8
  have h1280 := na_1280
  have h40 := na_40
  have h3 := na_3
  have h805 := na_805
  have h1610 := na_1610
  have h2 := na_2
  simp (disch := first | omega | assumption | exact Nat.le_of_ble_eq_true rfl) only [m41, e41_0, e41_1, e41_4, e41_5, e41_8, e41_10, e41_13, Bool.false_eq_true, Bool.true_eq_false, gfK, pfK, lnK, isC, alK_n, asK_n, List.getElem?_cons_zero, List.getElem?_cons_succ, List.set_cons_zero, List.set_cons_succ, List.length_cons, List.length_nil, ↓reduceIte, if_true, if_false, eq_self, and_true, true_and, and_self, Option.bind_some, Option.bind_none, Option.toList_some, Option.toList_none, List.cons_append, List.nil_append, mset_at, mset_ne, mset_2, mset_mset, Nat.reduceLT, Nat.reduceAdd, HX_at, HX_set, HX_new, HX_n, ct_0, cl_0, ct_1, cl_1, ct_2, cl_2, ct_3, cl_3, ct_4, cl_4, ct_5, cl_5, ct_6, cl_6, ct_7, cl_7, ct_8, cl_8, nc_600, nc_601, nc_128, nc_512, nc_10, nc_16, nc_8, nc_1280, nc_40, nc_3, nc_805, nc_1610, nc_2]
theorem K_Tokens : evM 44 [.ref l.length] (HX l [.inr (5, [.null, .null, .null, .int 0, .int 0])] (s) sc) = some (none, (HX l [.inr (5, [.ref (l.length + 1), .ref (l.length + 2), .ref (l.length + 3), .int 0, .int 0]), .inl (0, 601, fun _ => 0), .inl (0, 601, fun _ => 0), .inl (0, 601, fun _ => 0)] (s + 601 + 601 + 601) sc)) := by
  have h600 := na_600
  have h601 := na_601
  have h128 := na_128
  have h512 := na_512
  have h10 := na_10
  have h16 := na_16
  have h8 := na_8
  have h1280 := na_1280
  have h40 := na_40
  have h3 := na_3
  have h805 := na_805
  have h1610 := na_1610
  have h2 := na_2
  simp (disch := first | omega | assumption | exact Nat.le_of_ble_eq_true rfl) only [m44, e44_0, e44_1, e44_4, e44_5, e44_8, e44_10, e44_13, e44_14, e44_17, e44_19, e44_22, e44_23, e44_26, e44_28, e44_31, Bool.false_eq_true, Bool.true_eq_false, gfK, pfK, lnK, isC, alK_n, asK_n, List.getElem?_cons_zero, List.getElem?_cons_succ, List.set_cons_zero, List.set_cons_succ, List.length_cons, List.length_nil, ↓reduceIte, if_true, if_false, eq_self, and_true, true_and, and_self, Option.bind_some, Option.bind_none, Option.toList_some, Option.toList_none, List.cons_append, List.nil_append, mset_at, mset_ne, mset_2, mset_mset, Nat.reduceLT, Nat.reduceAdd, HX_at, HX_set, HX_new, HX_n, ct_0, cl_0, ct_1, cl_1, ct_2, cl_2, ct_3, cl_3, ct_4, cl_4, ct_5, cl_5, ct_6, cl_6, ct_7, cl_7, ct_8, cl_8, nc_600, nc_601, nc_128, nc_512, nc_10, nc_16, nc_8, nc_1280, nc_40, nc_3, nc_805, nc_1610, nc_2]
theorem K_Rounds {o : mE} : evM 27 [.ref l.length] (HX l [o] s sc) = some (none, HX l [o] s sc) := by
  simp (disch := first | omega | assumption | exact Nat.le_of_ble_eq_true rfl) only [m27, e27_0, e27_1, e27_4, Bool.false_eq_true, Bool.true_eq_false, gfK, pfK, lnK, isC, alK_n, asK_n, List.getElem?_cons_zero, List.getElem?_cons_succ, List.set_cons_zero, List.set_cons_succ, List.length_cons, List.length_nil, ↓reduceIte, if_true, if_false, eq_self, and_true, true_and, and_self, Option.bind_some, Option.bind_none, Option.toList_some, Option.toList_none, List.cons_append, List.nil_append, mset_at, mset_ne, mset_2, mset_mset, Nat.reduceLT, Nat.reduceAdd, HX_n]
theorem K_Table {w q : Nat} (h1 : w < 1000) (h2 : q < 1000) (h3 : w * q < 10000) : evM 32 [.ref l.length, .int (nI w), .int (nI q)] (HX l [.inr (3, [.int 0, .int 0, .null, .int 0])] s sc) = some (none, HX l [.inr (3, [.int (nI w), .int (nI q), .ref (l.length + 1), .int 0]), .inl (0, w * q, fun _ => 0)] (s + w * q) sc) := by
  have hn : ¬ (nI (w * q) < 0 ∨ 100000 < (nI (w * q)).toNatClampNeg) := by
    rw [nI_clamp (by omega), nI_not_neg (by omega)]
    exact fun h => h.elim id (fun h => by omega)
  simp (disch := first | omega | assumption | exact Nat.le_of_ble_eq_true rfl) only [m32, e32_0, e32_1, e32_4, e32_5, e32_6, e32_7, e32_10, e32_13, e32_14, e32_15, e32_16, e32_19, e32_22, e32_23, e32_24, e32_25, e32_28, e32_29, e32_30, e32_33, e32_34, e32_36, e32_39, Bool.false_eq_true, Bool.true_eq_false, gfK, pfK, lnK, isC, alK_n, asK_n, List.getElem?_cons_zero, List.getElem?_cons_succ, List.set_cons_zero, List.set_cons_succ, List.length_cons, List.length_nil, ↓reduceIte, if_true, if_false, eq_self, and_true, true_and, and_self, Option.bind_some, Option.bind_none, Option.toList_some, Option.toList_none, List.cons_append, List.nil_append, mset_at, mset_ne, mset_2, mset_mset, Nat.reduceLT, Nat.reduceAdd, HX_at, HX_set, HX_new, HX_n, ct_0, cl_0, ct_1, cl_1, ct_2, cl_2, ct_3, cl_3, ct_4, cl_4, ct_5, cl_5, ct_6, cl_6, ct_7, cl_7, ct_8, cl_8, nI_not_neg, pk_mul, nI_clamp]
theorem K_TableR {w q : Nat} (h1 : w < 1000) (h2 : q < 1000) (h3 : w * q < 10000) : evM 32 [.ref (l.length + r.length), .int (nI w), .int (nI q)] (HX l (r ++ [.inr (3, [.int 0, .int 0, .null, .int 0])]) s sc) = some (none, HX l (r ++ [.inr (3, [.int (nI w), .int (nI q), .ref (l.length + r.length + 1), .int 0]), .inl (0, w * q, fun _ => 0)]) (s + w * q) sc) := by
  have h := K_Table (l := l ++ r) (s := s) (sc := sc) h1 h2 h3
  rw [HX_app, HX_app, List.length_append] at h
  exact h
set_option maxRecDepth 4000 in
theorem K_Book : evM 0 [.ref l.length] (HX l [.inr (0, [.null, .null, .null, .null, .int 0, .int 0])] (s) sc) = some (none, (HX l [.inr (0, [.ref (l.length + 1), .ref (l.length + 3), .ref (l.length + 5), .ref (l.length + 7), .int 0, .int 0]), .inr (3, [.int 8, .int 3, .ref (l.length + 2), .int 0]), .inl (0, 24, fun _ => 0), .inr (3, [.int 4, .int 5, .ref (l.length + 4), .int 0]), .inl (0, 20, fun _ => 0), .inr (3, [.int 20, .int 8, .ref (l.length + 6), .int 0]), .inl (0, 160, fun _ => 0), .inr (3, [.int 60, .int 10, .ref (l.length + 8), .int 0]), .inl (0, 600, fun _ => 0)] (s + 4 + 24 + 4 + 20 + 4 + 160 + 4 + 600) sc)) := by
  have t0 : evM 32 [.ref (l.length + 1), .int 8, .int 3] (HX l [.inr (0, [.null, .null, .null, .null, .int 0, .int 0]), .inr (3, [.int 0, .int 0, .null, .int 0])] (s + 4) sc) = some (none, (HX l [.inr (0, [.null, .null, .null, .null, .int 0, .int 0]), .inr (3, [.int 8, .int 3, .ref (l.length + 2), .int 0]), .inl (0, 24, fun _ => 0)] (s + 4 + 24) sc)) := K_TableR (l := l) (r := [.inr (0, [.null, .null, .null, .null, .int 0, .int 0])]) (s := s + 4) (sc := sc) (w := 8) (q := 3) (by decide) (by decide) (by decide)
  have t1 : evM 32 [.ref (l.length + 3), .int 4, .int 5] (HX l [.inr (0, [.ref (l.length + 1), .null, .null, .null, .int 0, .int 0]), .inr (3, [.int 8, .int 3, .ref (l.length + 2), .int 0]), .inl (0, 24, fun _ => 0), .inr (3, [.int 0, .int 0, .null, .int 0])] (s + 4 + 24 + 4) sc) = some (none, (HX l [.inr (0, [.ref (l.length + 1), .null, .null, .null, .int 0, .int 0]), .inr (3, [.int 8, .int 3, .ref (l.length + 2), .int 0]), .inl (0, 24, fun _ => 0), .inr (3, [.int 4, .int 5, .ref (l.length + 4), .int 0]), .inl (0, 20, fun _ => 0)] (s + 4 + 24 + 4 + 20) sc)) := K_TableR (l := l) (r := [.inr (0, [.ref (l.length + 1), .null, .null, .null, .int 0, .int 0]), .inr (3, [.int 8, .int 3, .ref (l.length + 2), .int 0]), .inl (0, 24, fun _ => 0)]) (s := s + 4 + 24 + 4) (sc := sc) (w := 4) (q := 5) (by decide) (by decide) (by decide)
  have t2 : evM 32 [.ref (l.length + 5), .int 20, .int 8] (HX l [.inr (0, [.ref (l.length + 1), .ref (l.length + 3), .null, .null, .int 0, .int 0]), .inr (3, [.int 8, .int 3, .ref (l.length + 2), .int 0]), .inl (0, 24, fun _ => 0), .inr (3, [.int 4, .int 5, .ref (l.length + 4), .int 0]), .inl (0, 20, fun _ => 0), .inr (3, [.int 0, .int 0, .null, .int 0])] (s + 4 + 24 + 4 + 20 + 4) sc) = some (none, (HX l [.inr (0, [.ref (l.length + 1), .ref (l.length + 3), .null, .null, .int 0, .int 0]), .inr (3, [.int 8, .int 3, .ref (l.length + 2), .int 0]), .inl (0, 24, fun _ => 0), .inr (3, [.int 4, .int 5, .ref (l.length + 4), .int 0]), .inl (0, 20, fun _ => 0), .inr (3, [.int 20, .int 8, .ref (l.length + 6), .int 0]), .inl (0, 160, fun _ => 0)] (s + 4 + 24 + 4 + 20 + 4 + 160) sc)) := K_TableR (l := l) (r := [.inr (0, [.ref (l.length + 1), .ref (l.length + 3), .null, .null, .int 0, .int 0]), .inr (3, [.int 8, .int 3, .ref (l.length + 2), .int 0]), .inl (0, 24, fun _ => 0), .inr (3, [.int 4, .int 5, .ref (l.length + 4), .int 0]), .inl (0, 20, fun _ => 0)]) (s := s + 4 + 24 + 4 + 20 + 4) (sc := sc) (w := 20) (q := 8) (by decide) (by decide) (by decide)
  have t3 : evM 32 [.ref (l.length + 7), .int 60, .int 10] (HX l [.inr (0, [.ref (l.length + 1), .ref (l.length + 3), .ref (l.length + 5), .null, .int 0, .int 0]), .inr (3, [.int 8, .int 3, .ref (l.length + 2), .int 0]), .inl (0, 24, fun _ => 0), .inr (3, [.int 4, .int 5, .ref (l.length + 4), .int 0]), .inl (0, 20, fun _ => 0), .inr (3, [.int 20, .int 8, .ref (l.length + 6), .int 0]), .inl (0, 160, fun _ => 0), .inr (3, [.int 0, .int 0, .null, .int 0])] (s + 4 + 24 + 4 + 20 + 4 + 160 + 4) sc) = some (none, (HX l [.inr (0, [.ref (l.length + 1), .ref (l.length + 3), .ref (l.length + 5), .null, .int 0, .int 0]), .inr (3, [.int 8, .int 3, .ref (l.length + 2), .int 0]), .inl (0, 24, fun _ => 0), .inr (3, [.int 4, .int 5, .ref (l.length + 4), .int 0]), .inl (0, 20, fun _ => 0), .inr (3, [.int 20, .int 8, .ref (l.length + 6), .int 0]), .inl (0, 160, fun _ => 0), .inr (3, [.int 60, .int 10, .ref (l.length + 8), .int 0]), .inl (0, 600, fun _ => 0)] (s + 4 + 24 + 4 + 20 + 4 + 160 + 4 + 600) sc)) := K_TableR (l := l) (r := [.inr (0, [.ref (l.length + 1), .ref (l.length + 3), .ref (l.length + 5), .null, .int 0, .int 0]), .inr (3, [.int 8, .int 3, .ref (l.length + 2), .int 0]), .inl (0, 24, fun _ => 0), .inr (3, [.int 4, .int 5, .ref (l.length + 4), .int 0]), .inl (0, 20, fun _ => 0), .inr (3, [.int 20, .int 8, .ref (l.length + 6), .int 0]), .inl (0, 160, fun _ => 0)]) (s := s + 4 + 24 + 4 + 20 + 4 + 160 + 4) (sc := sc) (w := 60) (q := 10) (by decide) (by decide) (by decide)
  simp (disch := first | omega | assumption | exact Nat.le_of_ble_eq_true rfl) only [m0, e0_0, e0_1, e0_4, e0_5, e0_8i, e0_8r, e0_9, e0_11, e0_12, e0_15, e0_18, e0_19, e0_22i, e0_22r, e0_23, e0_24, e0_25, e0_28, e0_31, e0_32, e0_35i, e0_35r, e0_36, e0_38, e0_40, e0_43, e0_46, e0_47, e0_50i, e0_50r, e0_51, e0_53, e0_55, e0_58, e0_61, Bool.false_eq_true, Bool.true_eq_false, gfK, pfK, lnK, isC, alK_n, asK_n, List.getElem?_cons_zero, List.getElem?_cons_succ, List.set_cons_zero, List.set_cons_succ, List.length_cons, List.length_nil, ↓reduceIte, if_true, if_false, eq_self, and_true, true_and, and_self, Option.bind_some, Option.bind_none, Option.toList_some, Option.toList_none, List.cons_append, List.nil_append, mset_at, mset_ne, mset_2, mset_mset, Nat.reduceLT, Nat.reduceAdd, HX_at, HX_set, HX_new, HX_n, ct_0, cl_0, ct_1, cl_1, ct_2, cl_2, ct_3, cl_3, ct_4, cl_4, ct_5, cl_5, ct_6, cl_6, ct_7, cl_7, ct_8, cl_8, t0, t1, t2, t3]
theorem K_Reader : evM 21 [.ref l.length] (HX l [.inr (1, [.null])] (s) sc) = some (none, (HX l [.inr (1, [.ref (l.length + 1)]), .inr (5, [.ref (l.length + 2), .ref (l.length + 3), .ref (l.length + 4), .int 0, .int 0]), .inl (0, 601, fun _ => 0), .inl (0, 601, fun _ => 0), .inl (0, 601, fun _ => 0)] (s + 5 + 601 + 601 + 601) sc)) := by
  have t0 : evM 44 [.ref (l.length + 1)] (HX l [.inr (1, [.null]), .inr (5, [.null, .null, .null, .int 0, .int 0])] (s + 5) sc) = some (none, (HX l [.inr (1, [.null]), .inr (5, [.ref (l.length + 2), .ref (l.length + 3), .ref (l.length + 4), .int 0, .int 0]), .inl (0, 601, fun _ => 0), .inl (0, 601, fun _ => 0), .inl (0, 601, fun _ => 0)] (s + 5 + 601 + 601 + 601) sc)) := by
    have h := K_Tokens (l := l ++ [.inr (1, [.null])]) (s := s + 5) (sc := sc)
    rw [HX_app, HX_app, List.length_append] at h
    exact h
  simp (disch := first | omega | assumption | exact Nat.le_of_ble_eq_true rfl) only [m21, e21_0, e21_1, e21_4, e21_5, e21_8i, e21_8r, e21_9, e21_12, e21_15, Bool.false_eq_true, Bool.true_eq_false, gfK, pfK, lnK, isC, alK_n, asK_n, List.getElem?_cons_zero, List.getElem?_cons_succ, List.set_cons_zero, List.set_cons_succ, List.length_cons, List.length_nil, ↓reduceIte, if_true, if_false, eq_self, and_true, true_and, and_self, Option.bind_some, Option.bind_none, Option.toList_some, Option.toList_none, List.cons_append, List.nil_append, mset_at, mset_ne, mset_2, mset_mset, Nat.reduceLT, Nat.reduceAdd, HX_at, HX_set, HX_new, HX_n, ct_0, cl_0, ct_1, cl_1, ct_2, cl_2, ct_3, cl_3, ct_4, cl_4, ct_5, cl_5, ct_6, cl_6, ct_7, cl_7, ct_8, cl_8, t0]
set_option maxRecDepth 4000 in
theorem K_World : evM 58 [.ref l.length] (HX l [.inr (6, [.null, .null, .null, .null, .null, .int 0, .int 0, .int 0, .int 0, .int 0, .int 0, .int 0, .null, .null, .null, .null, .null])] (s) sc) = some (none, (HX l [.inr (6, [.ref (l.length + 1), .ref (l.length + 2), .ref (l.length + 3), .ref (l.length + 4), .ref (l.length + 5), .int 0, .int 0, .int 0, .int 0, .int 0, .int 0, .int 0, .ref (l.length + 6), .ref (l.length + 7), .ref (l.length + 8), .ref (l.length + 9), .ref (l.length + 10)]), .inl (0, 128, fun _ => 0), .inl (0, 128, fun _ => 0), .inl (0, 512, fun _ => 0), .inl (0, 10, fun _ => 0), .inl (0, 10, fun _ => 0), .inl (0, 16, fun _ => 0), .inl (0, 16, fun _ => 0), .inl (0, 16, fun _ => 0), .inl (0, 16, fun _ => 0), .inr (2, [.int 0, .int 0, .int 0, .int 0])] (s + 128 + 128 + 512 + 10 + 10 + 16 + 16 + 16 + 16 + 4) sc)) := by
  have h600 := na_600
  have h601 := na_601
  have h128 := na_128
  have h512 := na_512
  have h10 := na_10
  have h16 := na_16
  have h8 := na_8
  have h1280 := na_1280
  have h40 := na_40
  have h3 := na_3
  have h805 := na_805
  have h1610 := na_1610
  have h2 := na_2
  have t0 : evM 27 [.ref (l.length + 10)] (HX l [.inr (6, [.ref (l.length + 1), .ref (l.length + 2), .ref (l.length + 3), .ref (l.length + 4), .ref (l.length + 5), .int 0, .int 0, .int 0, .int 0, .int 0, .int 0, .int 0, .ref (l.length + 6), .ref (l.length + 7), .ref (l.length + 8), .ref (l.length + 9), .null]), .inl (0, 128, fun _ => 0), .inl (0, 128, fun _ => 0), .inl (0, 512, fun _ => 0), .inl (0, 10, fun _ => 0), .inl (0, 10, fun _ => 0), .inl (0, 16, fun _ => 0), .inl (0, 16, fun _ => 0), .inl (0, 16, fun _ => 0), .inl (0, 16, fun _ => 0), .inr (2, [.int 0, .int 0, .int 0, .int 0])] (s + 128 + 128 + 512 + 10 + 10 + 16 + 16 + 16 + 16 + 4) sc) = some (none, (HX l [.inr (6, [.ref (l.length + 1), .ref (l.length + 2), .ref (l.length + 3), .ref (l.length + 4), .ref (l.length + 5), .int 0, .int 0, .int 0, .int 0, .int 0, .int 0, .int 0, .ref (l.length + 6), .ref (l.length + 7), .ref (l.length + 8), .ref (l.length + 9), .null]), .inl (0, 128, fun _ => 0), .inl (0, 128, fun _ => 0), .inl (0, 512, fun _ => 0), .inl (0, 10, fun _ => 0), .inl (0, 10, fun _ => 0), .inl (0, 16, fun _ => 0), .inl (0, 16, fun _ => 0), .inl (0, 16, fun _ => 0), .inl (0, 16, fun _ => 0), .inr (2, [.int 0, .int 0, .int 0, .int 0])] (s + 128 + 128 + 512 + 10 + 10 + 16 + 16 + 16 + 16 + 4) sc)) := by
    have h := K_Rounds (l := l ++ [.inr (6, [.ref (l.length + 1), .ref (l.length + 2), .ref (l.length + 3), .ref (l.length + 4), .ref (l.length + 5), .int 0, .int 0, .int 0, .int 0, .int 0, .int 0, .int 0, .ref (l.length + 6), .ref (l.length + 7), .ref (l.length + 8), .ref (l.length + 9), .null]), .inl (0, 128, fun _ => 0), .inl (0, 128, fun _ => 0), .inl (0, 512, fun _ => 0), .inl (0, 10, fun _ => 0), .inl (0, 10, fun _ => 0), .inl (0, 16, fun _ => 0), .inl (0, 16, fun _ => 0), .inl (0, 16, fun _ => 0), .inl (0, 16, fun _ => 0)]) (s := s + 128 + 128 + 512 + 10 + 10 + 16 + 16 + 16 + 16 + 4) (sc := sc) (o := .inr (2, [.int 0, .int 0, .int 0, .int 0]))
    rw [HX_app, List.length_append] at h
    exact h
  simp (disch := first | omega | assumption | exact Nat.le_of_ble_eq_true rfl) only [m58, e58_0, e58_1, e58_4, e58_5, e58_8, e58_10, e58_13, e58_14, e58_17, e58_19, e58_22, e58_23, e58_26, e58_28, e58_31, e58_32, e58_34, e58_36, e58_39, e58_40, e58_42, e58_44, e58_47, e58_48, e58_50, e58_52, e58_55, e58_56, e58_58, e58_60, e58_63, e58_64, e58_66, e58_68, e58_71, e58_72, e58_74, e58_76, e58_79, e58_80, e58_83i, e58_83r, e58_84, e58_87, e58_90, Bool.false_eq_true, Bool.true_eq_false, gfK, pfK, lnK, isC, alK_n, asK_n, List.getElem?_cons_zero, List.getElem?_cons_succ, List.set_cons_zero, List.set_cons_succ, List.length_cons, List.length_nil, ↓reduceIte, if_true, if_false, eq_self, and_true, true_and, and_self, Option.bind_some, Option.bind_none, Option.toList_some, Option.toList_none, List.cons_append, List.nil_append, mset_at, mset_ne, mset_2, mset_mset, Nat.reduceLT, Nat.reduceAdd, HX_at, HX_set, HX_new, HX_n, ct_0, cl_0, ct_1, cl_1, ct_2, cl_2, ct_3, cl_3, ct_4, cl_4, ct_5, cl_5, ct_6, cl_6, ct_7, cl_7, ct_8, cl_8, nc_600, nc_601, nc_128, nc_512, nc_10, nc_16, nc_8, nc_1280, nc_40, nc_3, nc_805, nc_1610, nc_2, t0]
end CTOR
