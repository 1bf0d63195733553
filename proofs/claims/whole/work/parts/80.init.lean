/-! ReinHall.<init> (printed by gen/mk_init.py): its fields, one by one. -/
section INITC
variable {l R : List mE} {s : Nat} {sc : Nat × (Nat → Int32)} {a0 a1 a2 a3 a4 a5 a6 a7 a8 a9 a10 : Value} {l1 : Option Value}
set_option maxRecDepth 4000 in
theorem ci_text (hR : R.length = 0) : ev 83 4 [some (.ref 0), l1] [] (HX (.inr (7, [a0, a1, a2, a3, a4, a5, a6, a7, a8, a9, a10]) :: R) [] s sc) = ev 83 15 [some (.ref 0), l1] [] (HX (.inr (7, [.ref 1, a1, a2, a3, a4, a5, a6, a7, a8, a9, a10]) :: (R ++ [.inr (4, [.ref (1 + 1), .int 0]), .inl (0, 600, fun _ => 0)])) [] (s + 2 + 600) sc) := by
  have hl : (.inr (7, [a0, a1, a2, a3, a4, a5, a6, a7, a8, a9, a10]) :: R).length = 1 := by rw [List.length_cons, hR]
  have hn : (HX (.inr (7, [a0, a1, a2, a3, a4, a5, a6, a7, a8, a9, a10]) :: R) [] s sc).2.1 = 1 := HX_n.trans (by rw [hl]; rfl)
  have hc := K_Text (l := .inr (7, [a0, a1, a2, a3, a4, a5, a6, a7, a8, a9, a10]) :: R) (s := s + 2) (sc := sc)
  rw [hl] at hc
  simp (disch := first | omega | assumption | exact Nat.le_of_ble_eq_true rfl) only [m83, e83_4, e83_5, e83_8i, e83_8r, e83_9, e83_12, Bool.false_eq_true, Bool.true_eq_false, gfK, pfK, lnK, isC, alK_n, asK_n, List.getElem?_cons_zero, List.getElem?_cons_succ, List.set_cons_zero, List.set_cons_succ, List.length_cons, List.length_nil, ↓reduceIte, if_true, if_false, eq_self, and_true, true_and, and_self, Option.bind_some, Option.bind_none, Option.toList_some, Option.toList_none, List.cons_append, List.nil_append, mset_at, mset_ne, mset_2, mset_mset, Nat.reduceLT, Nat.reduceAdd, hn, HX_new, ct_4, cl_4, hc, HX_at0, HX_set0]
  rw [HX_in, List.cons_append]
set_option maxRecDepth 4000 in
theorem ci_reader (hR : R.length = 2) : ev 83 15 [some (.ref 0), l1] [] (HX (.inr (7, [a0, a1, a2, a3, a4, a5, a6, a7, a8, a9, a10]) :: R) [] s sc) = ev 83 26 [some (.ref 0), l1] [] (HX (.inr (7, [a0, .ref 3, a2, a3, a4, a5, a6, a7, a8, a9, a10]) :: (R ++ [.inr (1, [.ref (3 + 1)]), .inr (5, [.ref (3 + 2), .ref (3 + 3), .ref (3 + 4), .int 0, .int 0]), .inl (0, 601, fun _ => 0), .inl (0, 601, fun _ => 0), .inl (0, 601, fun _ => 0)])) [] (s + 1 + 5 + 601 + 601 + 601) sc) := by
  have hl : (.inr (7, [a0, a1, a2, a3, a4, a5, a6, a7, a8, a9, a10]) :: R).length = 3 := by rw [List.length_cons, hR]
  have hn : (HX (.inr (7, [a0, a1, a2, a3, a4, a5, a6, a7, a8, a9, a10]) :: R) [] s sc).2.1 = 3 := HX_n.trans (by rw [hl]; rfl)
  have hc := K_Reader (l := .inr (7, [a0, a1, a2, a3, a4, a5, a6, a7, a8, a9, a10]) :: R) (s := s + 1) (sc := sc)
  rw [hl] at hc
  simp (disch := first | omega | assumption | exact Nat.le_of_ble_eq_true rfl) only [m83, e83_15, e83_16, e83_19i, e83_19r, e83_20, e83_23, Bool.false_eq_true, Bool.true_eq_false, gfK, pfK, lnK, isC, alK_n, asK_n, List.getElem?_cons_zero, List.getElem?_cons_succ, List.set_cons_zero, List.set_cons_succ, List.length_cons, List.length_nil, ↓reduceIte, if_true, if_false, eq_self, and_true, true_and, and_self, Option.bind_some, Option.bind_none, Option.toList_some, Option.toList_none, List.cons_append, List.nil_append, mset_at, mset_ne, mset_2, mset_mset, Nat.reduceLT, Nat.reduceAdd, hn, HX_new, ct_1, cl_1, hc, HX_at0, HX_set0]
  rw [HX_in, List.cons_append]
set_option maxRecDepth 4000 in
theorem ci_land (hR : R.length = 7) : ev 83 26 [some (.ref 0), l1] [] (HX (.inr (7, [a0, a1, a2, a3, a4, a5, a6, a7, a8, a9, a10]) :: R) [] s sc) = ev 83 37 [some (.ref 0), l1] [] (HX (.inr (7, [a0, a1, .ref 8, a3, a4, a5, a6, a7, a8, a9, a10]) :: (R ++ [.inr (6, [.ref (8 + 1), .ref (8 + 2), .ref (8 + 3), .ref (8 + 4), .ref (8 + 5), .int 0, .int 0, .int 0, .int 0, .int 0, .int 0, .int 0, .ref (8 + 6), .ref (8 + 7), .ref (8 + 8), .ref (8 + 9), .ref (8 + 10)]), .inl (0, 128, fun _ => 0), .inl (0, 128, fun _ => 0), .inl (0, 512, fun _ => 0), .inl (0, 10, fun _ => 0), .inl (0, 10, fun _ => 0), .inl (0, 16, fun _ => 0), .inl (0, 16, fun _ => 0), .inl (0, 16, fun _ => 0), .inl (0, 16, fun _ => 0), .inr (2, [.int 0, .int 0, .int 0, .int 0])])) [] (s + 17 + 128 + 128 + 512 + 10 + 10 + 16 + 16 + 16 + 16 + 4) sc) := by
  have hl : (.inr (7, [a0, a1, a2, a3, a4, a5, a6, a7, a8, a9, a10]) :: R).length = 8 := by rw [List.length_cons, hR]
  have hn : (HX (.inr (7, [a0, a1, a2, a3, a4, a5, a6, a7, a8, a9, a10]) :: R) [] s sc).2.1 = 8 := HX_n.trans (by rw [hl]; rfl)
  have hc := K_World (l := .inr (7, [a0, a1, a2, a3, a4, a5, a6, a7, a8, a9, a10]) :: R) (s := s + 17) (sc := sc)
  rw [hl] at hc
  simp (disch := first | omega | assumption | exact Nat.le_of_ble_eq_true rfl) only [m83, e83_26, e83_27, e83_30i, e83_30r, e83_31, e83_34, Bool.false_eq_true, Bool.true_eq_false, gfK, pfK, lnK, isC, alK_n, asK_n, List.getElem?_cons_zero, List.getElem?_cons_succ, List.set_cons_zero, List.set_cons_succ, List.length_cons, List.length_nil, ↓reduceIte, if_true, if_false, eq_self, and_true, true_and, and_self, Option.bind_some, Option.bind_none, Option.toList_some, Option.toList_none, List.cons_append, List.nil_append, mset_at, mset_ne, mset_2, mset_mset, Nat.reduceLT, Nat.reduceAdd, hn, HX_new, ct_6, cl_6, hc, HX_at0, HX_set0]
  rw [HX_in, List.cons_append]
set_option maxRecDepth 4000 in
theorem ci_spare (hR : R.length = 18) : ev 83 37 [some (.ref 0), l1] [] (HX (.inr (7, [a0, a1, a2, a3, a4, a5, a6, a7, a8, a9, a10]) :: R) [] s sc) = ev 83 48 [some (.ref 0), l1] [] (HX (.inr (7, [a0, a1, a2, .ref 19, a4, a5, a6, a7, a8, a9, a10]) :: (R ++ [.inr (6, [.ref (19 + 1), .ref (19 + 2), .ref (19 + 3), .ref (19 + 4), .ref (19 + 5), .int 0, .int 0, .int 0, .int 0, .int 0, .int 0, .int 0, .ref (19 + 6), .ref (19 + 7), .ref (19 + 8), .ref (19 + 9), .ref (19 + 10)]), .inl (0, 128, fun _ => 0), .inl (0, 128, fun _ => 0), .inl (0, 512, fun _ => 0), .inl (0, 10, fun _ => 0), .inl (0, 10, fun _ => 0), .inl (0, 16, fun _ => 0), .inl (0, 16, fun _ => 0), .inl (0, 16, fun _ => 0), .inl (0, 16, fun _ => 0), .inr (2, [.int 0, .int 0, .int 0, .int 0])])) [] (s + 17 + 128 + 128 + 512 + 10 + 10 + 16 + 16 + 16 + 16 + 4) sc) := by
  have hl : (.inr (7, [a0, a1, a2, a3, a4, a5, a6, a7, a8, a9, a10]) :: R).length = 19 := by rw [List.length_cons, hR]
  have hn : (HX (.inr (7, [a0, a1, a2, a3, a4, a5, a6, a7, a8, a9, a10]) :: R) [] s sc).2.1 = 19 := HX_n.trans (by rw [hl]; rfl)
  have hc := K_World (l := .inr (7, [a0, a1, a2, a3, a4, a5, a6, a7, a8, a9, a10]) :: R) (s := s + 17) (sc := sc)
  rw [hl] at hc
  simp (disch := first | omega | assumption | exact Nat.le_of_ble_eq_true rfl) only [m83, e83_37, e83_38, e83_41i, e83_41r, e83_42, e83_45, Bool.false_eq_true, Bool.true_eq_false, gfK, pfK, lnK, isC, alK_n, asK_n, List.getElem?_cons_zero, List.getElem?_cons_succ, List.set_cons_zero, List.set_cons_succ, List.length_cons, List.length_nil, ↓reduceIte, if_true, if_false, eq_self, and_true, true_and, and_self, Option.bind_some, Option.bind_none, Option.toList_some, Option.toList_none, List.cons_append, List.nil_append, mset_at, mset_ne, mset_2, mset_mset, Nat.reduceLT, Nat.reduceAdd, hn, HX_new, ct_6, cl_6, hc, HX_at0, HX_set0]
  rw [HX_in, List.cons_append]
set_option maxRecDepth 4000 in
theorem ci_book (hR : R.length = 29) : ev 83 48 [some (.ref 0), l1] [] (HX (.inr (7, [a0, a1, a2, a3, a4, a5, a6, a7, a8, a9, a10]) :: R) [] s sc) = ev 83 59 [some (.ref 0), l1] [] (HX (.inr (7, [a0, a1, a2, a3, .ref 30, a5, a6, a7, a8, a9, a10]) :: (R ++ [.inr (0, [.ref (30 + 1), .ref (30 + 3), .ref (30 + 5), .ref (30 + 7), .int 0, .int 0]), .inr (3, [.int 8, .int 3, .ref (30 + 2), .int 0]), .inl (0, 24, fun _ => 0), .inr (3, [.int 4, .int 5, .ref (30 + 4), .int 0]), .inl (0, 20, fun _ => 0), .inr (3, [.int 20, .int 8, .ref (30 + 6), .int 0]), .inl (0, 160, fun _ => 0), .inr (3, [.int 60, .int 10, .ref (30 + 8), .int 0]), .inl (0, 600, fun _ => 0)])) [] (s + 6 + 4 + 24 + 4 + 20 + 4 + 160 + 4 + 600) sc) := by
  have hl : (.inr (7, [a0, a1, a2, a3, a4, a5, a6, a7, a8, a9, a10]) :: R).length = 30 := by rw [List.length_cons, hR]
  have hn : (HX (.inr (7, [a0, a1, a2, a3, a4, a5, a6, a7, a8, a9, a10]) :: R) [] s sc).2.1 = 30 := HX_n.trans (by rw [hl]; rfl)
  have hc := K_Book (l := .inr (7, [a0, a1, a2, a3, a4, a5, a6, a7, a8, a9, a10]) :: R) (s := s + 6) (sc := sc)
  rw [hl] at hc
  simp (disch := first | omega | assumption | exact Nat.le_of_ble_eq_true rfl) only [m83, e83_48, e83_49, e83_52i, e83_52r, e83_53, e83_56, Bool.false_eq_true, Bool.true_eq_false, gfK, pfK, lnK, isC, alK_n, asK_n, List.getElem?_cons_zero, List.getElem?_cons_succ, List.set_cons_zero, List.set_cons_succ, List.length_cons, List.length_nil, ↓reduceIte, if_true, if_false, eq_self, and_true, true_and, and_self, Option.bind_some, Option.bind_none, Option.toList_some, Option.toList_none, List.cons_append, List.nil_append, mset_at, mset_ne, mset_2, mset_mset, Nat.reduceLT, Nat.reduceAdd, hn, HX_new, ct_0, cl_0, hc, HX_at0, HX_set0]
  rw [HX_in, List.cons_append]
set_option maxRecDepth 4000 in
theorem ci_first (hR : R.length = 38) : ev 83 59 [some (.ref 0), l1] [] (HX (.inr (7, [a0, a1, a2, a3, a4, a5, a6, a7, a8, a9, a10]) :: R) [] s sc) = ev 83 70 [some (.ref 0), l1] [] (HX (.inr (7, [a0, a1, a2, a3, a4, .ref 39, a6, a7, a8, a9, a10]) :: (R ++ [.inr (0, [.ref (39 + 1), .ref (39 + 3), .ref (39 + 5), .ref (39 + 7), .int 0, .int 0]), .inr (3, [.int 8, .int 3, .ref (39 + 2), .int 0]), .inl (0, 24, fun _ => 0), .inr (3, [.int 4, .int 5, .ref (39 + 4), .int 0]), .inl (0, 20, fun _ => 0), .inr (3, [.int 20, .int 8, .ref (39 + 6), .int 0]), .inl (0, 160, fun _ => 0), .inr (3, [.int 60, .int 10, .ref (39 + 8), .int 0]), .inl (0, 600, fun _ => 0)])) [] (s + 6 + 4 + 24 + 4 + 20 + 4 + 160 + 4 + 600) sc) := by
  have hl : (.inr (7, [a0, a1, a2, a3, a4, a5, a6, a7, a8, a9, a10]) :: R).length = 39 := by rw [List.length_cons, hR]
  have hn : (HX (.inr (7, [a0, a1, a2, a3, a4, a5, a6, a7, a8, a9, a10]) :: R) [] s sc).2.1 = 39 := HX_n.trans (by rw [hl]; rfl)
  have hc := K_Book (l := .inr (7, [a0, a1, a2, a3, a4, a5, a6, a7, a8, a9, a10]) :: R) (s := s + 6) (sc := sc)
  rw [hl] at hc
  simp (disch := first | omega | assumption | exact Nat.le_of_ble_eq_true rfl) only [m83, e83_59, e83_60, e83_63i, e83_63r, e83_64, e83_67, Bool.false_eq_true, Bool.true_eq_false, gfK, pfK, lnK, isC, alK_n, asK_n, List.getElem?_cons_zero, List.getElem?_cons_succ, List.set_cons_zero, List.set_cons_succ, List.length_cons, List.length_nil, ↓reduceIte, if_true, if_false, eq_self, and_true, true_and, and_self, Option.bind_some, Option.bind_none, Option.toList_some, Option.toList_none, List.cons_append, List.nil_append, mset_at, mset_ne, mset_2, mset_mset, Nat.reduceLT, Nat.reduceAdd, hn, HX_new, ct_0, cl_0, hc, HX_at0, HX_set0]
  rw [HX_in, List.cons_append]
set_option maxRecDepth 4000 in
theorem ci_second (hR : R.length = 47) : ev 83 70 [some (.ref 0), l1] [] (HX (.inr (7, [a0, a1, a2, a3, a4, a5, a6, a7, a8, a9, a10]) :: R) [] s sc) = ev 83 81 [some (.ref 0), l1] [] (HX (.inr (7, [a0, a1, a2, a3, a4, a5, .ref 48, a7, a8, a9, a10]) :: (R ++ [.inr (0, [.ref (48 + 1), .ref (48 + 3), .ref (48 + 5), .ref (48 + 7), .int 0, .int 0]), .inr (3, [.int 8, .int 3, .ref (48 + 2), .int 0]), .inl (0, 24, fun _ => 0), .inr (3, [.int 4, .int 5, .ref (48 + 4), .int 0]), .inl (0, 20, fun _ => 0), .inr (3, [.int 20, .int 8, .ref (48 + 6), .int 0]), .inl (0, 160, fun _ => 0), .inr (3, [.int 60, .int 10, .ref (48 + 8), .int 0]), .inl (0, 600, fun _ => 0)])) [] (s + 6 + 4 + 24 + 4 + 20 + 4 + 160 + 4 + 600) sc) := by
  have hl : (.inr (7, [a0, a1, a2, a3, a4, a5, a6, a7, a8, a9, a10]) :: R).length = 48 := by rw [List.length_cons, hR]
  have hn : (HX (.inr (7, [a0, a1, a2, a3, a4, a5, a6, a7, a8, a9, a10]) :: R) [] s sc).2.1 = 48 := HX_n.trans (by rw [hl]; rfl)
  have hc := K_Book (l := .inr (7, [a0, a1, a2, a3, a4, a5, a6, a7, a8, a9, a10]) :: R) (s := s + 6) (sc := sc)
  rw [hl] at hc
  simp (disch := first | omega | assumption | exact Nat.le_of_ble_eq_true rfl) only [m83, e83_70, e83_71, e83_74i, e83_74r, e83_75, e83_78, Bool.false_eq_true, Bool.true_eq_false, gfK, pfK, lnK, isC, alK_n, asK_n, List.getElem?_cons_zero, List.getElem?_cons_succ, List.set_cons_zero, List.set_cons_succ, List.length_cons, List.length_nil, ↓reduceIte, if_true, if_false, eq_self, and_true, true_and, and_self, Option.bind_some, Option.bind_none, Option.toList_some, Option.toList_none, List.cons_append, List.nil_append, mset_at, mset_ne, mset_2, mset_mset, Nat.reduceLT, Nat.reduceAdd, hn, HX_new, ct_0, cl_0, hc, HX_at0, HX_set0]
  rw [HX_in, List.cons_append]
set_option maxRecDepth 4000 in
theorem ci_prices (hR : R.length = 56) : ev 83 81 [some (.ref 0), l1] [] (HX (.inr (7, [a0, a1, a2, a3, a4, a5, a6, a7, a8, a9, a10]) :: R) [] s sc) = ev 83 89 [some (.ref 0), l1] [] (HX (.inr (7, [a0, a1, a2, a3, a4, a5, a6, .ref 57, a8, a9, a10]) :: (R ++ [.inl (0, 8, fun _ => 0)])) [] (s + 8) sc) := by
  have hl : (.inr (7, [a0, a1, a2, a3, a4, a5, a6, a7, a8, a9, a10]) :: R).length = 57 := by rw [List.length_cons, hR]
  have hn : (HX (.inr (7, [a0, a1, a2, a3, a4, a5, a6, a7, a8, a9, a10]) :: R) [] s sc).2.1 = 57 := HX_n.trans (by rw [hl]; rfl)
  have h8 := na_8
  simp (disch := first | omega | assumption | exact Nat.le_of_ble_eq_true rfl) only [m83, e83_81, e83_82, e83_84, e83_86, Bool.false_eq_true, Bool.true_eq_false, gfK, pfK, lnK, isC, alK_n, asK_n, List.getElem?_cons_zero, List.getElem?_cons_succ, List.set_cons_zero, List.set_cons_succ, List.length_cons, List.length_nil, ↓reduceIte, if_true, if_false, eq_self, and_true, true_and, and_self, Option.bind_some, Option.bind_none, Option.toList_some, Option.toList_none, List.cons_append, List.nil_append, mset_at, mset_ne, mset_2, mset_mset, Nat.reduceLT, Nat.reduceAdd, hn, HX_new, nc_8, HX_at0, HX_set0]
  rw [HX_in, List.cons_append]
set_option maxRecDepth 4000 in
theorem ci_kinds (hR : R.length = 57) : ev 83 89 [some (.ref 0), l1] [] (HX (.inr (7, [a0, a1, a2, a3, a4, a5, a6, a7, a8, a9, a10]) :: R) [] s sc) = ev 83 97 [some (.ref 0), l1] [] (HX (.inr (7, [a0, a1, a2, a3, a4, a5, a6, a7, .ref 58, a9, a10]) :: (R ++ [.inl (0, 8, fun _ => 0)])) [] (s + 8) sc) := by
  have hl : (.inr (7, [a0, a1, a2, a3, a4, a5, a6, a7, a8, a9, a10]) :: R).length = 58 := by rw [List.length_cons, hR]
  have hn : (HX (.inr (7, [a0, a1, a2, a3, a4, a5, a6, a7, a8, a9, a10]) :: R) [] s sc).2.1 = 58 := HX_n.trans (by rw [hl]; rfl)
  have h8 := na_8
  simp (disch := first | omega | assumption | exact Nat.le_of_ble_eq_true rfl) only [m83, e83_89, e83_90, e83_92, e83_94, Bool.false_eq_true, Bool.true_eq_false, gfK, pfK, lnK, isC, alK_n, asK_n, List.getElem?_cons_zero, List.getElem?_cons_succ, List.set_cons_zero, List.set_cons_succ, List.length_cons, List.length_nil, ↓reduceIte, if_true, if_false, eq_self, and_true, true_and, and_self, Option.bind_some, Option.bind_none, Option.toList_some, Option.toList_none, List.cons_append, List.nil_append, mset_at, mset_ne, mset_2, mset_mset, Nat.reduceLT, Nat.reduceAdd, hn, HX_new, nc_8, HX_at0, HX_set0]
  rw [HX_in, List.cons_append]
set_option maxRecDepth 4000 in
theorem ci_wishes (hR : R.length = 58) : ev 83 97 [some (.ref 0), l1] [] (HX (.inr (7, [a0, a1, a2, a3, a4, a5, a6, a7, a8, a9, a10]) :: R) [] s sc) = ev 83 105 [some (.ref 0), l1] [] (HX (.inr (7, [a0, a1, a2, a3, a4, a5, a6, a7, a8, .ref 59, a10]) :: (R ++ [.inl (0, 8, fun _ => 0)])) [] (s + 8) sc) := by
  have hl : (.inr (7, [a0, a1, a2, a3, a4, a5, a6, a7, a8, a9, a10]) :: R).length = 59 := by rw [List.length_cons, hR]
  have hn : (HX (.inr (7, [a0, a1, a2, a3, a4, a5, a6, a7, a8, a9, a10]) :: R) [] s sc).2.1 = 59 := HX_n.trans (by rw [hl]; rfl)
  have h8 := na_8
  simp (disch := first | omega | assumption | exact Nat.le_of_ble_eq_true rfl) only [m83, e83_97, e83_98, e83_100, e83_102, Bool.false_eq_true, Bool.true_eq_false, gfK, pfK, lnK, isC, alK_n, asK_n, List.getElem?_cons_zero, List.getElem?_cons_succ, List.set_cons_zero, List.set_cons_succ, List.length_cons, List.length_nil, ↓reduceIte, if_true, if_false, eq_self, and_true, true_and, and_self, Option.bind_some, Option.bind_none, Option.toList_some, Option.toList_none, List.cons_append, List.nil_append, mset_at, mset_ne, mset_2, mset_mset, Nat.reduceLT, Nat.reduceAdd, hn, HX_new, nc_8, HX_at0, HX_set0]
  rw [HX_in, List.cons_append]
def Z : Nat → Nat → Int32 := fun _ _ => 0
set_option maxRecDepth 8000 in
theorem ci_cells : .inr (7, [.ref 1, .ref 3, .ref 8, .ref 19, .ref 30, .ref 39, .ref 48, .ref 57, .ref 58, .ref 59, .long 0]) :: (((((((((([] ++ [.inr (4, [.ref (1 + 1), .int 0]), .inl (0, 600, fun _ => 0)]) ++ [.inr (1, [.ref (3 + 1)]), .inr (5, [.ref (3 + 2), .ref (3 + 3), .ref (3 + 4), .int 0, .int 0]), .inl (0, 601, fun _ => 0), .inl (0, 601, fun _ => 0), .inl (0, 601, fun _ => 0)]) ++ [.inr (6, [.ref (8 + 1), .ref (8 + 2), .ref (8 + 3), .ref (8 + 4), .ref (8 + 5), .int 0, .int 0, .int 0, .int 0, .int 0, .int 0, .int 0, .ref (8 + 6), .ref (8 + 7), .ref (8 + 8), .ref (8 + 9), .ref (8 + 10)]), .inl (0, 128, fun _ => 0), .inl (0, 128, fun _ => 0), .inl (0, 512, fun _ => 0), .inl (0, 10, fun _ => 0), .inl (0, 10, fun _ => 0), .inl (0, 16, fun _ => 0), .inl (0, 16, fun _ => 0), .inl (0, 16, fun _ => 0), .inl (0, 16, fun _ => 0), .inr (2, [.int 0, .int 0, .int 0, .int 0])]) ++ [.inr (6, [.ref (19 + 1), .ref (19 + 2), .ref (19 + 3), .ref (19 + 4), .ref (19 + 5), .int 0, .int 0, .int 0, .int 0, .int 0, .int 0, .int 0, .ref (19 + 6), .ref (19 + 7), .ref (19 + 8), .ref (19 + 9), .ref (19 + 10)]), .inl (0, 128, fun _ => 0), .inl (0, 128, fun _ => 0), .inl (0, 512, fun _ => 0), .inl (0, 10, fun _ => 0), .inl (0, 10, fun _ => 0), .inl (0, 16, fun _ => 0), .inl (0, 16, fun _ => 0), .inl (0, 16, fun _ => 0), .inl (0, 16, fun _ => 0), .inr (2, [.int 0, .int 0, .int 0, .int 0])]) ++ [.inr (0, [.ref (30 + 1), .ref (30 + 3), .ref (30 + 5), .ref (30 + 7), .int 0, .int 0]), .inr (3, [.int 8, .int 3, .ref (30 + 2), .int 0]), .inl (0, 24, fun _ => 0), .inr (3, [.int 4, .int 5, .ref (30 + 4), .int 0]), .inl (0, 20, fun _ => 0), .inr (3, [.int 20, .int 8, .ref (30 + 6), .int 0]), .inl (0, 160, fun _ => 0), .inr (3, [.int 60, .int 10, .ref (30 + 8), .int 0]), .inl (0, 600, fun _ => 0)]) ++ [.inr (0, [.ref (39 + 1), .ref (39 + 3), .ref (39 + 5), .ref (39 + 7), .int 0, .int 0]), .inr (3, [.int 8, .int 3, .ref (39 + 2), .int 0]), .inl (0, 24, fun _ => 0), .inr (3, [.int 4, .int 5, .ref (39 + 4), .int 0]), .inl (0, 20, fun _ => 0), .inr (3, [.int 20, .int 8, .ref (39 + 6), .int 0]), .inl (0, 160, fun _ => 0), .inr (3, [.int 60, .int 10, .ref (39 + 8), .int 0]), .inl (0, 600, fun _ => 0)]) ++ [.inr (0, [.ref (48 + 1), .ref (48 + 3), .ref (48 + 5), .ref (48 + 7), .int 0, .int 0]), .inr (3, [.int 8, .int 3, .ref (48 + 2), .int 0]), .inl (0, 24, fun _ => 0), .inr (3, [.int 4, .int 5, .ref (48 + 4), .int 0]), .inl (0, 20, fun _ => 0), .inr (3, [.int 20, .int 8, .ref (48 + 6), .int 0]), .inl (0, 160, fun _ => 0), .inr (3, [.int 60, .int 10, .ref (48 + 8), .int 0]), .inl (0, 600, fun _ => 0)]) ++ [.inl (0, 8, fun _ => 0)]) ++ [.inl (0, 8, fun _ => 0)]) ++ [.inl (0, 8, fun _ => 0)]) = cellsC 8 0 0 Z := rfl
theorem HX_Gc {b : Nat} {u v : Int64} {A : Nat → Nat → Int32} : HX (cellsC b u v A) [] s sc = Gc b u v A (60, s, sc) := by
  unfold HX
  rw [List.append_nil]
  rfl
set_option maxRecDepth 8000 in
theorem ci_fields : evM 83 [.ref 0] (HX [.inr (7, [.null, .null, .null, .null, .null, .null, .null, .null, .null, .null, .long 0])] [] s sc) = ev 83 105 [some (.ref 0), none] [] (Gc 8 0 0 Z (60, s + 2 + 600 + 1 + 5 + 601 + 601 + 601 + 17 + 128 + 128 + 512 + 10 + 10 + 16 + 16 + 16 + 16 + 4 + 17 + 128 + 128 + 512 + 10 + 10 + 16 + 16 + 16 + 16 + 4 + 6 + 4 + 24 + 4 + 20 + 4 + 160 + 4 + 600 + 6 + 4 + 24 + 4 + 20 + 4 + 160 + 4 + 600 + 6 + 4 + 24 + 4 + 20 + 4 + 160 + 4 + 600 + 8 + 8 + 8, sc)) := by
  simp (disch := first | omega | assumption | exact Nat.le_of_ble_eq_true rfl) only [m83, e83_0, e83_1, Bool.false_eq_true, Bool.true_eq_false, gfK, pfK, lnK, isC, alK_n, asK_n, List.getElem?_cons_zero, List.getElem?_cons_succ, List.set_cons_zero, List.set_cons_succ, List.length_cons, List.length_nil, ↓reduceIte, if_true, if_false, eq_self, and_true, true_and, and_self, Option.bind_some, Option.bind_none, Option.toList_some, Option.toList_none, List.cons_append, List.nil_append, mset_at, mset_ne, mset_2, mset_mset, Nat.reduceLT, Nat.reduceAdd]
  rw [ci_text (R := []) rfl, ci_reader rfl, ci_land rfl, ci_spare rfl, ci_book rfl, ci_first rfl, ci_second rfl, ci_prices rfl, ci_kinds rfl, ci_wishes rfl]
  rw [ci_cells, HX_Gc]
end INITC
section INITC2
variable {b : Nat} {u v : Int64} {A : Nat → Nat → Int32} {τ : Nat × Nat × Nat × (Nat → Int32)} {l1 : Option Value}
theorem ci_prices_loop : ∀ (f i : Nat) (A : Nat → Nat → Int32), i + f = 8 → (∀ j, j < i → A 57 j = 1) → ∃ A', ev 83 107 [some (.ref 0), some (.int (nI i))] [] (Gc b u v A τ) = ev 83 126 [some (.ref 0), some (.int (nI 8))] [] (Gc b u v A' τ) ∧ (∀ j, j < 8 → A' 57 j = 1) ∧ ∀ k, k ≠ 57 → A' k = A k
  | 0, i, A, hi, hz => by
    have : i = 8 := by omega
    subst this
    refine ⟨A, ?_, hz, fun k _ => rfl⟩
    rw [e83_107]
    simp (disch := first | omega | assumption | exact Nat.le_of_ble_eq_true rfl) only [m83, e83_108, e83_110, Bool.false_eq_true, Bool.true_eq_false, gfK, pfK, lnK, isC, alK_n, asK_n, List.getElem?_cons_zero, List.getElem?_cons_succ, List.set_cons_zero, List.set_cons_succ, List.length_cons, List.length_nil, ↓reduceIte, if_true, if_false, eq_self, and_true, true_and, and_self, Option.bind_some, Option.bind_none, Option.toList_some, Option.toList_none, List.cons_append, List.nil_append, mset_at, mset_ne, mset_2, mset_mset, Nat.reduceLT, Nat.reduceAdd, le_8, Nat.le_refl]
  | f + 1, i, A, hi, hz => by
    obtain ⟨A', h1, h2, h3⟩ := ci_prices_loop f (i + 1) (up A 57 (upd (A 57) i 1)) (by omega) (fun j hj => by
      rw [up_at]
      by_cases e : j = i
      · rw [e, upd_at]
      · rw [upd_ne e]
        exact hz j (by omega))
    refine ⟨A', ?_, h2, fun k a => by rw [h3 k a, up_ne a]⟩
    have h8 : ¬ 8 ≤ i := by omega
    rw [e83_107]
    simp (disch := first | omega | assumption | exact Nat.le_of_ble_eq_true rfl) only [m83, e83_108, e83_110, e83_113, e83_114, e83_117, e83_118, e83_119, e83_120i, e83_120n, e83_120r, e83_123, Bool.false_eq_true, Bool.true_eq_false, gfK, pfK, lnK, isC, alK_n, asK_n, List.getElem?_cons_zero, List.getElem?_cons_succ, List.set_cons_zero, List.set_cons_succ, List.length_cons, List.length_nil, ↓reduceIte, if_true, if_false, eq_self, and_true, true_and, and_self, Option.bind_some, Option.bind_none, Option.toList_some, Option.toList_none, List.cons_append, List.nil_append, mset_at, mset_ne, mset_2, mset_mset, Nat.reduceLT, Nat.reduceAdd, le_8, h8, G_0c, G_57c, S_57c, nI_succ', h1]
theorem ci_find (h1 : A 8 1 = 0) : evM 28 [.ref 18, .ref 8] (Gc b u v A τ) = some (none, Gc b u v (up A 18 (fL [0, -9, -9, -9])) τ) := by
  have hw : 8 = 8 ∨ 8 = 19 := Or.inl rfl
  have hG := fun A : Nat → Nat → Int32 => G_W10c (b := b) (u := u) (v := v) (A := A) (τ := τ) hw
  have hS := fun (A : Nat → Nat → Int32) (x y z w0 : Int32) => S_W10c (b := b) (u := u) (v := v) (A := A) (τ := τ) (x0 := x) (x1 := y) (x2 := z) (x3 := w0) hw
  have hG' : ∀ A : Nat → Nat → Int32, (Gc b u v A τ).1 18 = some (.inr (2, [.int (A 18 0), .int (A 18 1), .int (A 18 2), .int (A 18 3)])) := hG
  have hS' : ∀ (A : Nat → Nat → Int32) (x y z w0 : Int32), mset (Gc b u v A τ) 18 (.inr (2, [.int x, .int y, .int z, .int w0])) = Gc b u v (up A 18 (fL [x, y, z, w0])) τ := hS
  have hW : ∀ A : Nat → Nat → Int32, (Gc b u v A τ).1 8 = _ := fun A => G_W0c hw
  have h1' : up A 18 (fL [0, -9, -9, -9]) 8 1 = 0 := by rw [up_ne (by omega)]; exact h1
  simp (disch := first | omega | assumption | exact Nat.le_of_ble_eq_true rfl) only [m28, e28_0, e28_1, e28_2, e28_5, e28_6, e28_8, e28_11, e28_12, e28_14, e28_17, e28_18, e28_20, e28_23, e28_24i, e28_24n, e28_24r, Bool.false_eq_true, Bool.true_eq_false, gfK, pfK, lnK, isC, alK_n, asK_n, List.getElem?_cons_zero, List.getElem?_cons_succ, List.set_cons_zero, List.set_cons_succ, List.length_cons, List.length_nil, ↓reduceIte, if_true, if_false, eq_self, and_true, true_and, and_self, Option.bind_some, Option.bind_none, Option.toList_some, Option.toList_none, List.cons_append, List.nil_append, mset_at, mset_ne, mset_2, mset_mset, Nat.reduceLT, Nat.reduceAdd, hG', hS', up_at, up_up, fL_0, fL_s]
  rw [e28_25]
  simp (disch := first | omega | assumption | exact Nat.le_of_ble_eq_true rfl) only [m28, e28_26, e28_27, e28_30, e28_33, e28_34, e28_36, e28_39, e28_40, e28_41, e28_42, e28_45, e28_46, e28_47, e28_48, e28_51i, e28_51n, e28_51r, e28_54, e28_57, Bool.false_eq_true, Bool.true_eq_false, gfK, pfK, lnK, isC, alK_n, asK_n, List.getElem?_cons_zero, List.getElem?_cons_succ, List.set_cons_zero, List.set_cons_succ, List.length_cons, List.length_nil, ↓reduceIte, if_true, if_false, eq_self, and_true, true_and, and_self, Option.bind_some, Option.bind_none, Option.toList_some, Option.toList_none, List.cons_append, List.nil_append, mset_at, mset_ne, mset_2, mset_mset, Nat.reduceLT, Nat.reduceAdd, hW, h1', show ((0 : Int32) ≤ 0) = True from eq_true (by decide)]
theorem ci_master (h : A 31 0 = 0) : evM 1 [.ref 30, .int (-9), .int 1000] (Gc b u v A τ) = some (some (.int (nI 0)), Gc b u v (up (up A 31 (fL [nI 1])) 32 (upd (upd (zrow (A 32) 0 3) 0 (-9)) 1 1000)) τ) := by
  have hT : TblAt (Gc b u v A τ).1 31 32 8 3 0 (A 32) := ⟨G_31c.trans (by rw [h]; rfl), G_32c, Nat.zero_le _, by decide, by decide, by decide, by decide⟩
  have r1 := T_addRow hT (by decide)
  have hT1 := tset_at (rows' := 1) (f' := zrow (A 32) (0 * 3) 3) hT (by decide)
  have r2 := T_put_in (j := 0) (k := 0) (v := -9) hT1 (by decide) (by decide)
  rw [tset_tset (by decide)] at r2
  have hT2 := tset_at (rows' := 1) (f' := upd (zrow (A 32) (0 * 3) 3) (0 * 3 + 0) (-9)) hT (by decide)
  have r3 := T_put_in (j := 0) (k := 1) (v := 1000) hT2 (by decide) (by decide)
  rw [tset_tset (by decide)] at r3
  have e : tset (Gc b u v A τ) 31 32 8 3 1 (upd (upd (zrow (A 32) (0 * 3) 3) (0 * 3 + 0) (-9)) (0 * 3 + 1) 1000) = Gc b u v (up (up A 31 (fL [nI 1])) 32 (upd (upd (zrow (A 32) 0 3) 0 (-9)) 1 1000)) τ := by
    unfold tset
    rw [show (.inr (3, [.int (nI 8), .int (nI 3), .ref 32, .int (nI 1)]) : mE) = .inr (3, [.int 8, .int 3, .ref 32, .int (nI 1)]) from rfl, S_31c]
    exact S_32c
  have r2' : evM 35 [.ref 31, .int (nI 0), .int 0, .int (-9)] (tset (Gc b u v A τ) 31 32 8 3 1 (zrow (A 32) (0 * 3) 3)) = _ := r2
  have r3' : evM 35 [.ref 31, .int (nI 0), .int 1, .int 1000] (tset (Gc b u v A τ) 31 32 8 3 1 (upd (zrow (A 32) (0 * 3) 3) (0 * 3 + 0) (-9))) = _ := r3
  have g30 : ∀ f, (tset (Gc b u v A τ) 31 32 8 3 1 f).1 30 = some (.inr (0, [.ref 31, .ref 33, .ref 35, .ref 37, .int (A 30 0), .int (A 30 1)])) := fun f => (tset_ne (by decide) (by decide)).trans G_30c
  have g31 : (Gc b u v A τ).1 31 = some (.inr (3, [.int 8, .int 3, .ref 32, .int (A 31 0)])) := G_31c
  have g31' : ∀ f, (tset (Gc b u v A τ) 31 32 8 3 1 f).1 31 = some (.inr (3, [.int (nI 8), .int (nI 3), .ref 32, .int (nI 1)])) := fun f => (tset_at (rows' := 1) (f' := f) hT (by decide)).1
  rw [← e]
  simp (disch := first | omega | assumption | exact Nat.le_of_ble_eq_true rfl) only [m1, e1_0, e1_1, e1_4, e1_7i, e1_7n, e1_7r, e1_8, e1_9, e1_12, e1_13, e1_14, e1_15, e1_18, e1_19, e1_22, e1_23, e1_24, e1_25, e1_28, e1_29, Bool.false_eq_true, Bool.true_eq_false, gfK, pfK, lnK, isC, alK_n, asK_n, List.getElem?_cons_zero, List.getElem?_cons_succ, List.set_cons_zero, List.set_cons_succ, List.length_cons, List.length_nil, ↓reduceIte, if_true, if_false, eq_self, and_true, true_and, and_self, Option.bind_some, Option.bind_none, Option.toList_some, Option.toList_none, List.cons_append, List.nil_append, mset_at, mset_ne, mset_2, mset_mset, Nat.reduceLT, Nat.reduceAdd, G_30c, g31, r1, g30, g31', r2', r3']
/-- the heap of a new ReinHall -/
theorem ci_all {s : Nat} {sc : Nat × (Nat → Int32)} : ∃ A τ1, τ1 ≤ s + 10000 ∧ evM 83 [.ref 0] (HX [.inr (7, [.null, .null, .null, .null, .null, .null, .null, .null, .null, .null, .long 0])] [] s sc) = some (none, Gc 8 0 0 A (60, τ1, sc)) ∧ WC A 8 (fun _ => 0) (fun _ _ => 0) 0 0 (fun _ => 0) (fun _ => 0) (fun i => if i = 2 then 65535 else 0) ∧ (∀ j, j < 8 → A 57 j = 1) ∧ A 31 0 = nI 1 ∧ A 32 = upd (upd (zrow (fun _ => 0) 0 3) 0 (-9)) 1 1000 ∧ ∀ k, k ≠ 57 → k ≠ 31 → k ≠ 32 → (k < 8 ∨ 18 < k) → A k = fun _ => 0 := by
  obtain ⟨τ1, ht, h0⟩ : ∃ τ1, τ1 ≤ s + 10000 ∧ evM 83 [.ref 0] (HX [.inr (7, [.null, .null, .null, .null, .null, .null, .null, .null, .null, .null, .long 0])] [] s sc) = ev 83 105 [some (.ref 0), none] [] (Gc 8 0 0 Z (60, τ1, sc)) := ⟨_, by omega, ci_fields⟩
  obtain ⟨A1, p1, p2, p3⟩ := ci_prices_loop (b := 8) (u := 0) (v := 0) (τ := (60, τ1, sc)) 8 0 Z rfl (fun j hj => absurd hj (Nat.not_lt_zero j))
  have hw : 8 = 8 ∨ 8 = 19 := Or.inl rfl
  obtain ⟨A2, hA2⟩ : ∃ A2, A2 = up A1 8 (fL [0, 0, 0, 0, 65535, 0, 0]) := ⟨_, rfl⟩
  have z : ∀ k, k ≠ 57 → k ≠ 8 → A2 k = fun _ => 0 := fun k k1 k2 => by rw [hA2, up_ne k2, p3 k k1]; rfl
  have hC : CD A2 8 (fun _ => 0) (fun _ _ => 0) 0 0 (fun _ => 0) (fun _ => 0) (fun i => if i = 2 then 65535 else 0) := by
    have e8 : A2 8 = fL [0, 0, 0, 0, 65535, 0, 0] := by rw [hA2, up_at]
    refine ⟨fun k hk => ⟨?_, ?_, fun i hi => absurd hi (Nat.not_lt_zero i)⟩, by rw [e8]; rfl, ⟨by rw [e8]; rfl, fun j hj => absurd hj (Nat.not_lt_zero j)⟩, by rw [e8]; rfl, by rw [e8]; rfl, by rw [e8]; rfl⟩
    · rw [z (8 + 1) (by omega) (by omega)]; rfl
    · rw [z (8 + 2) (by omega) (by omega)]; rfl
  have hWF : WF (fun _ => 0) (fun _ _ => 0) := DF_0.1
  obtain ⟨s1, s2, s3, s4⟩ := WC_stl hC
  have hs := W_settlec (b := 8) (u := 0) (v := 0) (τ := (60, τ1, sc)) hw hC.1 hWF (by rw [hC.2.2.2.1]; exact s16_0)
  rw [hC.2.2.2.1, hC.2.2.2.2.2] at hs
  obtain ⟨A3, hA3⟩ : ∃ A3, A3 = stl A2 8 (fun _ => 0) (fun _ _ => 0) (brk (fun _ => 0) ((fun i => if i = 2 then 65535 else 0 : Nat → Int32) 2) ((fun i => if i = 2 then 65535 else 0 : Nat → Int32) 0)) (saf (fun _ => 0) (fun _ _ => 0) ((fun i => if i = 2 then 65535 else 0 : Nat → Int32) 2) ((fun i => if i = 2 then 65535 else 0 : Nat → Int32) 0)) := ⟨_, rfl⟩
  rw [← hA3] at hs s1 s2 s3 s4
  have hf := ci_find (b := 8) (u := 0) (v := 0) (τ := (60, τ1, sc)) (A := A3) s2.1
  have eR : RSA A3 8 (rnd (fun _ => 0) (fun _ _ => 0) 0 (fun _ => 0) (fun _ => 0)) = up A3 18 (fL [0, -9, -9, -9]) := rfl
  rw [eR] at s3 s4
  obtain ⟨A4, hA4⟩ : ∃ A4, A4 = up A3 18 (fL [0, -9, -9, -9]) := ⟨_, rfl⟩
  rw [← hA4] at hf s3 s4
  have e31 : A4 31 0 = 0 := by rw [s4 31 (by omega), z 31 (by omega) (by omega)]
  have e32 : A4 32 = fun _ => 0 := by rw [s4 32 (by omega), z 32 (by omega) (by omega)]
  have hm := ci_master (b := 8) (u := 0) (v := 0) (τ := (60, τ1, sc)) (A := A4) e31
  rw [e32] at hm
  refine ⟨up (up A4 31 (fL [nI 1])) 32 (upd (upd (zrow (fun _ => 0) 0 3) 0 (-9)) 1 1000), τ1, ht, ?_, ?_, fun j hj => ?_, ?_, ?_, fun k k1 k2 k3 k4 => ?_⟩
  rotate_left 1
  · obtain ⟨d1, ⟨d2, d3⟩, d4, d5, d6⟩ := s3
    have u1 : ∀ k, k ≤ 18 → up (up A4 31 (fL [nI 1])) 32 (upd (upd (zrow (fun _ => 0) 0 3) 0 (-9)) 1 1000) k = A4 k := fun k hk => by rw [up_ne (by omega), up_ne (by omega)]
    refine ⟨CW_up (by omega) (CW_up (by omega) d1), ⟨by rw [u1 8 (by omega)]; exact d2, fun j hj => absurd hj (Nat.not_lt_zero j)⟩, by rw [u1 8 (by omega)]; exact d4, fun s hs => by rw [u1 (8 + 6) (by omega), u1 (8 + 7) (by omega), u1 (8 + 8) (by omega), u1 (8 + 9) (by omega)]; exact d5 s hs, by rw [u1 (8 + 10) (by omega)]; exact d6⟩
  · rw [up_ne (by omega), up_ne (by omega), s4 57 (by omega), hA2, up_ne (by omega)]
    exact p2 j hj
  · rw [up_ne (by omega), up_at]; rfl
  · rw [up_at]
  · rw [up_ne k3, up_ne k2, s4 k (by omega), z k k1 (by omega)]
  · have p1' : ev 83 107 [some (.ref 0), some (.int 0)] [] (Gc 8 0 0 Z (60, τ1, sc)) = _ := p1
    have e8 : A1 8 = fun _ => 0 := by rw [p3 8 (by omega)]; rfl
    have gW : (Gc 8 0 0 A1 (60, τ1, sc)).1 8 = some (.inr (6, [.ref 9, .ref 10, .ref 11, .ref 12, .ref 13, .int 0, .int 0, .int 0, .int 0, .int 0, .int 0, .int 0, .ref 14, .ref 15, .ref 16, .ref 17, .ref 18])) := (G_W0c hw).trans (by rw [e8])
    have sW : mset (Gc 8 0 0 A1 (60, τ1, sc)) 8 (.inr (6, [.ref 9, .ref 10, .ref 11, .ref 12, .ref 13, .int 0, .int 0, .int 0, .int 0, .int 65535, .int 0, .int 0, .ref 14, .ref 15, .ref 16, .ref 17, .ref 18])) = Gc 8 0 0 A2 (60, τ1, sc) := (S_W0c hw).trans (by rw [hA2])
    have gW2 : ∀ A : Nat → Nat → Int32, (Gc 8 0 0 A (60, τ1, sc)).1 8 = some (.inr (6, [.ref 9, .ref 10, .ref 11, .ref 12, .ref 13, .int (A 8 0), .int (A 8 1), .int (A 8 2), .int (A 8 3), .int (A 8 4), .int (A 8 5), .int (A 8 6), .ref 14, .ref 15, .ref 16, .ref 17, .ref 18])) := fun A => G_W0c hw
    have gR : ∀ A : Nat → Nat → Int32, (Gc 8 0 0 A (60, τ1, sc)).1 18 = some (.inr (2, [.int (A 18 0), .int (A 18 1), .int (A 18 2), .int (A 18 3)])) := fun A => G_W10c hw
    rw [h0]
    simp (disch := first | omega | assumption | exact Nat.le_of_ble_eq_true rfl) only [m83, e83_105, e83_106i, e83_106n, e83_106r, Bool.false_eq_true, Bool.true_eq_false, gfK, pfK, lnK, isC, alK_n, asK_n, List.getElem?_cons_zero, List.getElem?_cons_succ, List.set_cons_zero, List.set_cons_succ, List.length_cons, List.length_nil, ↓reduceIte, if_true, if_false, eq_self, and_true, true_and, and_self, Option.bind_some, Option.bind_none, Option.toList_some, Option.toList_none, List.cons_append, List.nil_append, mset_at, mset_ne, mset_2, mset_mset, Nat.reduceLT, Nat.reduceAdd, p1']
    simp (disch := first | omega | assumption | exact Nat.le_of_ble_eq_true rfl) only [m83, e83_126, e83_127, e83_130, e83_132, Bool.false_eq_true, Bool.true_eq_false, gfK, pfK, lnK, isC, alK_n, asK_n, List.getElem?_cons_zero, List.getElem?_cons_succ, List.set_cons_zero, List.set_cons_succ, List.length_cons, List.length_nil, ↓reduceIte, if_true, if_false, eq_self, and_true, true_and, and_self, Option.bind_some, Option.bind_none, Option.toList_some, Option.toList_none, List.cons_append, List.nil_append, mset_at, mset_ne, mset_2, mset_mset, Nat.reduceLT, Nat.reduceAdd, G_0c, gW, sW]
    simp (disch := first | omega | assumption | exact Nat.le_of_ble_eq_true rfl) only [m83, e83_135, e83_136, e83_139, Bool.false_eq_true, Bool.true_eq_false, gfK, pfK, lnK, isC, alK_n, asK_n, List.getElem?_cons_zero, List.getElem?_cons_succ, List.set_cons_zero, List.set_cons_succ, List.length_cons, List.length_nil, ↓reduceIte, if_true, if_false, eq_self, and_true, true_and, and_self, Option.bind_some, Option.bind_none, Option.toList_some, Option.toList_none, List.cons_append, List.nil_append, mset_at, mset_ne, mset_2, mset_mset, Nat.reduceLT, Nat.reduceAdd, G_0c, gW2, hs]
    simp (disch := first | omega | assumption | exact Nat.le_of_ble_eq_true rfl) only [m83, e83_142, e83_143, e83_146, e83_149, e83_150, e83_153, Bool.false_eq_true, Bool.true_eq_false, gfK, pfK, lnK, isC, alK_n, asK_n, List.getElem?_cons_zero, List.getElem?_cons_succ, List.set_cons_zero, List.set_cons_succ, List.length_cons, List.length_nil, ↓reduceIte, if_true, if_false, eq_self, and_true, true_and, and_self, Option.bind_some, Option.bind_none, Option.toList_some, Option.toList_none, List.cons_append, List.nil_append, mset_at, mset_ne, mset_2, mset_mset, Nat.reduceLT, Nat.reduceAdd, G_0c, gW2, gR, hf]
    simp (disch := first | omega | assumption | exact Nat.le_of_ble_eq_true rfl) only [m83, e83_156, e83_157, e83_160, e83_162, e83_165, e83_168, e83_169, Bool.false_eq_true, Bool.true_eq_false, gfK, pfK, lnK, isC, alK_n, asK_n, List.getElem?_cons_zero, List.getElem?_cons_succ, List.set_cons_zero, List.set_cons_succ, List.length_cons, List.length_nil, ↓reduceIte, if_true, if_false, eq_self, and_true, true_and, and_self, Option.bind_some, Option.bind_none, Option.toList_some, Option.toList_none, List.cons_append, List.nil_append, mset_at, mset_ne, mset_2, mset_mset, Nat.reduceLT, Nat.reduceAdd, G_0c, G_30c, hm]
end INITC2

