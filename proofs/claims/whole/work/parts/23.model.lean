/-! THE MODEL: its state with s (cell 70) apart; places; small methods (printed by gen/mk_model.py). -/
theorem nI_addN (a b : Nat) : nI a + nI b = nI (a + b) := nI_add a b
theorem nI_mulN (a b : Nat) : nI a * nI b = nI (a * b) := pk_mul a b
theorem lm_0 (m : Nat) : (0 : Int32) * nI m = nI (0 * m) := nI_mulN 0 m
theorem la_0 (m : Nat) : (0 : Int32) + nI m = nI (0 + m) := nI_addN 0 m
theorem ra_0 (m : Nat) : nI m + (0 : Int32) = nI (m + 0) := nI_addN m 0
theorem lm_1 (m : Nat) : (1 : Int32) * nI m = nI (1 * m) := nI_mulN 1 m
theorem la_1 (m : Nat) : (1 : Int32) + nI m = nI (1 + m) := nI_addN 1 m
theorem ra_1 (m : Nat) : nI m + (1 : Int32) = nI (m + 1) := nI_addN m 1
theorem lm_2 (m : Nat) : (2 : Int32) * nI m = nI (2 * m) := nI_mulN 2 m
theorem la_2 (m : Nat) : (2 : Int32) + nI m = nI (2 + m) := nI_addN 2 m
theorem ra_2 (m : Nat) : nI m + (2 : Int32) = nI (m + 2) := nI_addN m 2
theorem lm_3 (m : Nat) : (3 : Int32) * nI m = nI (3 * m) := nI_mulN 3 m
theorem la_3 (m : Nat) : (3 : Int32) + nI m = nI (3 + m) := nI_addN 3 m
theorem ra_3 (m : Nat) : nI m + (3 : Int32) = nI (m + 3) := nI_addN m 3
theorem lm_4 (m : Nat) : (4 : Int32) * nI m = nI (4 * m) := nI_mulN 4 m
theorem la_4 (m : Nat) : (4 : Int32) + nI m = nI (4 + m) := nI_addN 4 m
theorem ra_4 (m : Nat) : nI m + (4 : Int32) = nI (m + 4) := nI_addN m 4
theorem lm_5 (m : Nat) : (5 : Int32) * nI m = nI (5 * m) := nI_mulN 5 m
theorem la_5 (m : Nat) : (5 : Int32) + nI m = nI (5 + m) := nI_addN 5 m
theorem ra_5 (m : Nat) : nI m + (5 : Int32) = nI (m + 5) := nI_addN m 5
theorem lm_6 (m : Nat) : (6 : Int32) * nI m = nI (6 * m) := nI_mulN 6 m
theorem la_6 (m : Nat) : (6 : Int32) + nI m = nI (6 + m) := nI_addN 6 m
theorem ra_6 (m : Nat) : nI m + (6 : Int32) = nI (m + 6) := nI_addN m 6
theorem lm_7 (m : Nat) : (7 : Int32) * nI m = nI (7 * m) := nI_mulN 7 m
theorem la_7 (m : Nat) : (7 : Int32) + nI m = nI (7 + m) := nI_addN 7 m
theorem ra_7 (m : Nat) : nI m + (7 : Int32) = nI (m + 7) := nI_addN m 7
theorem lm_8 (m : Nat) : (8 : Int32) * nI m = nI (8 * m) := nI_mulN 8 m
theorem la_8 (m : Nat) : (8 : Int32) + nI m = nI (8 + m) := nI_addN 8 m
theorem ra_8 (m : Nat) : nI m + (8 : Int32) = nI (m + 8) := nI_addN m 8
theorem lm_9 (m : Nat) : (9 : Int32) * nI m = nI (9 * m) := nI_mulN 9 m
theorem la_9 (m : Nat) : (9 : Int32) + nI m = nI (9 + m) := nI_addN 9 m
theorem ra_9 (m : Nat) : nI m + (9 : Int32) = nI (m + 9) := nI_addN m 9
theorem lm_10 (m : Nat) : (10 : Int32) * nI m = nI (10 * m) := nI_mulN 10 m
theorem la_10 (m : Nat) : (10 : Int32) + nI m = nI (10 + m) := nI_addN 10 m
theorem ra_10 (m : Nat) : nI m + (10 : Int32) = nI (m + 10) := nI_addN m 10
theorem lm_15 (m : Nat) : (15 : Int32) * nI m = nI (15 * m) := nI_mulN 15 m
theorem la_15 (m : Nat) : (15 : Int32) + nI m = nI (15 + m) := nI_addN 15 m
theorem ra_15 (m : Nat) : nI m + (15 : Int32) = nI (m + 15) := nI_addN m 15
theorem lm_16 (m : Nat) : (16 : Int32) * nI m = nI (16 * m) := nI_mulN 16 m
theorem la_16 (m : Nat) : (16 : Int32) + nI m = nI (16 + m) := nI_addN 16 m
theorem ra_16 (m : Nat) : nI m + (16 : Int32) = nI (m + 16) := nI_addN m 16
theorem lm_20 (m : Nat) : (20 : Int32) * nI m = nI (20 * m) := nI_mulN 20 m
theorem la_20 (m : Nat) : (20 : Int32) + nI m = nI (20 + m) := nI_addN 20 m
theorem ra_20 (m : Nat) : nI m + (20 : Int32) = nI (m + 20) := nI_addN m 20
theorem lm_21 (m : Nat) : (21 : Int32) * nI m = nI (21 * m) := nI_mulN 21 m
theorem la_21 (m : Nat) : (21 : Int32) + nI m = nI (21 + m) := nI_addN 21 m
theorem ra_21 (m : Nat) : nI m + (21 : Int32) = nI (m + 21) := nI_addN m 21
theorem lm_29 (m : Nat) : (29 : Int32) * nI m = nI (29 * m) := nI_mulN 29 m
theorem la_29 (m : Nat) : (29 : Int32) + nI m = nI (29 + m) := nI_addN 29 m
theorem ra_29 (m : Nat) : nI m + (29 : Int32) = nI (m + 29) := nI_addN m 29
theorem lm_45 (m : Nat) : (45 : Int32) * nI m = nI (45 * m) := nI_mulN 45 m
theorem la_45 (m : Nat) : (45 : Int32) + nI m = nI (45 + m) := nI_addN 45 m
theorem ra_45 (m : Nat) : nI m + (45 : Int32) = nI (m + 45) := nI_addN m 45
theorem lm_205 (m : Nat) : (205 : Int32) * nI m = nI (205 * m) := nI_mulN 205 m
theorem la_205 (m : Nat) : (205 : Int32) + nI m = nI (205 + m) := nI_addN 205 m
theorem ra_205 (m : Nat) : nI m + (205 : Int32) = nI (m + 205) := nI_addN m 205
theorem lm_640 (m : Nat) : (640 : Int32) * nI m = nI (640 * m) := nI_mulN 640 m
theorem la_640 (m : Nat) : (640 : Int32) + nI m = nI (640 + m) := nI_addN 640 m
theorem ra_640 (m : Nat) : nI m + (640 : Int32) = nI (m + 640) := nI_addN m 640
theorem lm_805 (m : Nat) : (805 : Int32) * nI m = nI (805 * m) := nI_mulN 805 m
theorem la_805 (m : Nat) : (805 : Int32) + nI m = nI (805 + m) := nI_addN 805 m
theorem ra_805 (m : Nat) : nI m + (805 : Int32) = nI (m + 805) := nI_addN m 805
theorem alK_l0 {α : Type} {t n : Nat} {f : Nat → Int32} {K : Int32 → Option α} (h : 0 < n) (hn : n < 2147483648) : alK (some (.inl (t, n, f))) t 0 K = K (f 0) := alK_n (i := 0) h hn
theorem asK_l0 {α : Type} {t n : Nat} {f : Nat → Int32} {v : Int32} {K : mE → Option α} (h : 0 < n) (hn : n < 2147483648) : asK (some (.inl (t, n, f))) t 0 v K = K (.inl (t, n, upd f 0 v)) := asK_n (i := 0) h hn
theorem alK_l1 {α : Type} {t n : Nat} {f : Nat → Int32} {K : Int32 → Option α} (h : 1 < n) (hn : n < 2147483648) : alK (some (.inl (t, n, f))) t 1 K = K (f 1) := alK_n (i := 1) h hn
theorem asK_l1 {α : Type} {t n : Nat} {f : Nat → Int32} {v : Int32} {K : mE → Option α} (h : 1 < n) (hn : n < 2147483648) : asK (some (.inl (t, n, f))) t 1 v K = K (.inl (t, n, upd f 1 v)) := asK_n (i := 1) h hn
theorem alK_l2 {α : Type} {t n : Nat} {f : Nat → Int32} {K : Int32 → Option α} (h : 2 < n) (hn : n < 2147483648) : alK (some (.inl (t, n, f))) t 2 K = K (f 2) := alK_n (i := 2) h hn
theorem asK_l2 {α : Type} {t n : Nat} {f : Nat → Int32} {v : Int32} {K : mE → Option α} (h : 2 < n) (hn : n < 2147483648) : asK (some (.inl (t, n, f))) t 2 v K = K (.inl (t, n, upd f 2 v)) := asK_n (i := 2) h hn
theorem alK_l3 {α : Type} {t n : Nat} {f : Nat → Int32} {K : Int32 → Option α} (h : 3 < n) (hn : n < 2147483648) : alK (some (.inl (t, n, f))) t 3 K = K (f 3) := alK_n (i := 3) h hn
theorem asK_l3 {α : Type} {t n : Nat} {f : Nat → Int32} {v : Int32} {K : mE → Option α} (h : 3 < n) (hn : n < 2147483648) : asK (some (.inl (t, n, f))) t 3 v K = K (.inl (t, n, upd f 3 v)) := asK_n (i := 3) h hn
theorem alK_l4 {α : Type} {t n : Nat} {f : Nat → Int32} {K : Int32 → Option α} (h : 4 < n) (hn : n < 2147483648) : alK (some (.inl (t, n, f))) t 4 K = K (f 4) := alK_n (i := 4) h hn
theorem asK_l4 {α : Type} {t n : Nat} {f : Nat → Int32} {v : Int32} {K : mE → Option α} (h : 4 < n) (hn : n < 2147483648) : asK (some (.inl (t, n, f))) t 4 v K = K (.inl (t, n, upd f 4 v)) := asK_n (i := 4) h hn
theorem le_pred {x : Int32} {n : Nat} (h : n < 2147483648) : (x ≤ nI n - 1) = (x < nI n) := by
  have h1 : (nI n - 1).toInt = (n : Int) - 1 := by
    rw [Int32.toInt_sub, nI_toInt h, show (1 : Int32).toInt = 1 from by decide]
    exact Int.bmod_eq_of_le (by omega) (by omega)
  refine propext ?_
  rw [Int32.le_iff_toInt_le, Int32.lt_iff_toInt_lt, h1, nI_toInt h]
  omega
theorem b01 (p : Prop) [Decidable p] : ((if p then (1 : Int32) else 0) = 0 ∨ (if p then (1 : Int32) else 0) = 1) = True := eq_true (by by_cases h : p <;> simp [h])
def MS (b : Nat) (u v : Int64) (A : Nat → Nat → Int32) (τ : Nat × Nat × Nat × (Nat → Int32)) (s : Nat → Int32) : mS := G b u v (up A 70 s) τ
section MODEL
variable {b : Nat} {u v : Int64} {A : Nat → Nat → Int32} {τ : Nat × Nat × Nat × (Nat → Int32)} {s f : Nat → Int32} {x y z : Int32}
theorem M_60 : (MS b u v A τ s).1 60 = some (.inr (8, [.int (A 60 0), .long v, .ref 61, .int (A 60 1), .int (A 60 2), .int (A 60 3), .int (A 60 4), .int (A 60 5), .int (A 60 6), .int (A 60 7), .ref 62, .int (A 60 8), .int (A 60 9), .int (A 60 10), .int (A 60 11), .ref 63, .int (A 60 12), .int (A 60 13), .ref 64, .int (A 60 14), .int (A 60 15), .ref 65, .ref 66, .ref 67, .ref 68, .ref 69, .ref 70, .ref 71, .ref 72])) := rfl
theorem M_thr (h : A 60 0 = 0) : mset (MS b u v A τ s) 60 (.inr (8, [.int 0, .long v, .ref 61, .int (A 60 1), .int (A 60 2), .int (A 60 3), .int (A 60 4), .int (A 60 5), .int (A 60 6), .int (A 60 7), .ref 62, .int (A 60 8), .int (A 60 9), .int (A 60 10), .int (A 60 11), .ref 63, .int (A 60 12), .int (A 60 13), .ref 64, .int (A 60 14), .int (A 60 15), .ref 65, .ref 66, .ref 67, .ref 68, .ref 69, .ref 70, .ref 71, .ref 72])) = MS b u v A τ s := mset_same (M_60.trans (by rw [h]))
theorem M_61 : (MS b u v A τ s).1 61 = some (.inl (0, 600, (A 61))) := rfl
theorem M_62 : (MS b u v A τ s).1 62 = some (.inl (0, 1280, (A 62))) := rfl
theorem M_63 : (MS b u v A τ s).1 63 = some (.inl (0, 40, (A 63))) := rfl
theorem M_64 : (MS b u v A τ s).1 64 = some (.inl (0, 3, (A 64))) := rfl
theorem M_65 : (MS b u v A τ s).1 65 = some (.inl (0, 16, (A 65))) := rfl
theorem M_66 : (MS b u v A τ s).1 66 = some (.inl (0, 16, (A 66))) := rfl
theorem M_67 : (MS b u v A τ s).1 67 = some (.inl (0, 8, (A 67))) := rfl
theorem M_68 : (MS b u v A τ s).1 68 = some (.inl (0, 8, (A 68))) := rfl
theorem M_69 : (MS b u v A τ s).1 69 = some (.inl (0, 8, (A 69))) := rfl
theorem M_71 : (MS b u v A τ s).1 71 = some (.inl (0, 1610, (A 71))) := rfl
theorem M_72 : (MS b u v A τ s).1 72 = some (.inl (1, 2, (A 72))) := rfl
theorem M_70 : (MS b u v A τ s).1 70 = some (.inl (0, 805, s)) := rfl
theorem M_S70 : mset (MS b u v A τ s) 70 (.inl (0, 805, f)) = MS b u v A τ f := S_70.trans (congrArg (fun X => G b u v X τ) up_up)
theorem M_in {σ : mS} {lo hi : Int32} : evM 145 [.int x, .int lo, .int hi] σ = some (some (.int (if lo ≤ x ∧ x ≤ hi then 1 else 0)), σ) := by
  by_cases h1 : lo ≤ x
  · by_cases h2 : x ≤ hi
    · simp (disch := first | omega | assumption | exact Nat.le_of_ble_eq_true rfl) only [m145, e145_0, e145_1, e145_2, e145_5, e145_6, e145_7, e145_10, e145_11, e145_14, e145_15b0, e145_15b1, gfK, pfK, lnK, isC, alK_n, asK_n, List.getElem?_cons_zero, List.getElem?_cons_succ, List.set_cons_zero, List.set_cons_succ, List.length_cons, List.length_nil, ↓reduceIte, if_true, if_false, eq_self, and_true, true_and, and_self, Option.bind_some, Option.bind_none, Option.toList_some, Option.toList_none, List.cons_append, List.nil_append, mset_at, mset_ne, mset_2, mset_mset, Nat.reduceLT, Nat.reduceAdd, i32lt, h1, h2, not_true, not_false_eq_true]
    · simp (disch := first | omega | assumption | exact Nat.le_of_ble_eq_true rfl) only [m145, e145_0, e145_1, e145_2, e145_5, e145_6, e145_7, e145_10, e145_11, e145_14, e145_15b0, e145_15b1, gfK, pfK, lnK, isC, alK_n, asK_n, List.getElem?_cons_zero, List.getElem?_cons_succ, List.set_cons_zero, List.set_cons_succ, List.length_cons, List.length_nil, ↓reduceIte, if_true, if_false, eq_self, and_true, true_and, and_self, Option.bind_some, Option.bind_none, Option.toList_some, Option.toList_none, List.cons_append, List.nil_append, mset_at, mset_ne, mset_2, mset_mset, Nat.reduceLT, Nat.reduceAdd, i32lt, h1, h2, not_true, not_false_eq_true, and_false]
  · simp (disch := first | omega | assumption | exact Nat.le_of_ble_eq_true rfl) only [m145, e145_0, e145_1, e145_2, e145_5, e145_6, e145_7, e145_10, e145_11, e145_14, e145_15b0, e145_15b1, gfK, pfK, lnK, isC, alK_n, asK_n, List.getElem?_cons_zero, List.getElem?_cons_succ, List.set_cons_zero, List.set_cons_succ, List.length_cons, List.length_nil, ↓reduceIte, if_true, if_false, eq_self, and_true, true_and, and_self, Option.bind_some, Option.bind_none, Option.toList_some, Option.toList_none, List.cons_append, List.nil_append, mset_at, mset_ne, mset_2, mset_mset, Nat.reduceLT, Nat.reduceAdd, i32lt, h1, not_true, not_false_eq_true, false_and]
theorem M_leaveAt {σ : mS} {l : Nat} : evM 185 [.int (nI l)] σ = some (some (.int (nI (45 + 8 * l))), σ) := by
  simp (disch := first | omega | assumption | exact Nat.le_of_ble_eq_true rfl) only [m185, e185_0, e185_2, e185_4, e185_5, e185_6, e185_7, gfK, pfK, lnK, isC, alK_n, asK_n, List.getElem?_cons_zero, List.getElem?_cons_succ, List.set_cons_zero, List.set_cons_succ, List.length_cons, List.length_nil, ↓reduceIte, if_true, if_false, eq_self, and_true, true_and, and_self, Option.bind_some, Option.bind_none, Option.toList_some, Option.toList_none, List.cons_append, List.nil_append, mset_at, mset_ne, mset_2, mset_mset, Nat.reduceLT, Nat.reduceAdd, lm_8, la_45]
theorem M_isMaster {n : Nat} (h : s 0 = nI n) (hn : n < 100) : evM 177 [.ref 60, .int x] (MS b u v A τ s) = some (some (.int (if 0 ≤ x ∧ x < nI n then 1 else 0)), (MS b u v A τ s)) := by
  simp (disch := first | omega | assumption | exact Nat.le_of_ble_eq_true rfl) only [m177, e177_0, e177_1, e177_2, e177_3, e177_6, e177_7, e177_8, e177_9, e177_10, e177_13b0, e177_13b1, gfK, pfK, lnK, isC, alK_n, asK_n, List.getElem?_cons_zero, List.getElem?_cons_succ, List.set_cons_zero, List.set_cons_succ, List.length_cons, List.length_nil, ↓reduceIte, if_true, if_false, eq_self, and_true, true_and, and_self, Option.bind_some, Option.bind_none, Option.toList_some, Option.toList_none, List.cons_append, List.nil_append, mset_at, mset_ne, mset_2, mset_mset, Nat.reduceLT, Nat.reduceAdd, e177_13, b01, M_60, M_70, M_in, alK_l0, h, le_pred]
theorem M_isMachine {n : Nat} (h : s 1 = nI n) (hn : n < 100) : evM 181 [.ref 60, .int x] (MS b u v A τ s) = some (some (.int (if 0 ≤ x ∧ x < nI n then 1 else 0)), (MS b u v A τ s)) := by
  simp (disch := first | omega | assumption | exact Nat.le_of_ble_eq_true rfl) only [m181, e181_0, e181_1, e181_2, e181_3, e181_6, e181_7, e181_8, e181_9, e181_10, e181_13b0, e181_13b1, gfK, pfK, lnK, isC, alK_n, asK_n, List.getElem?_cons_zero, List.getElem?_cons_succ, List.set_cons_zero, List.set_cons_succ, List.length_cons, List.length_nil, ↓reduceIte, if_true, if_false, eq_self, and_true, true_and, and_self, Option.bind_some, Option.bind_none, Option.toList_some, Option.toList_none, List.cons_append, List.nil_append, mset_at, mset_ne, mset_2, mset_mset, Nat.reduceLT, Nat.reduceAdd, e181_13, b01, M_60, M_70, M_in, alK_l1, h, le_pred]
theorem M_isLeave {n : Nat} (h : s 2 = nI n) (hn : n < 100) : evM 187 [.ref 60, .int x] (MS b u v A τ s) = some (some (.int (if 0 ≤ x ∧ x < nI n then 1 else 0)), (MS b u v A τ s)) := by
  simp (disch := first | omega | assumption | exact Nat.le_of_ble_eq_true rfl) only [m187, e187_0, e187_1, e187_2, e187_3, e187_6, e187_7, e187_8, e187_9, e187_10, e187_13b0, e187_13b1, gfK, pfK, lnK, isC, alK_n, asK_n, List.getElem?_cons_zero, List.getElem?_cons_succ, List.set_cons_zero, List.set_cons_succ, List.length_cons, List.length_nil, ↓reduceIte, if_true, if_false, eq_self, and_true, true_and, and_self, Option.bind_some, Option.bind_none, Option.toList_some, Option.toList_none, List.cons_append, List.nil_append, mset_at, mset_ne, mset_2, mset_mset, Nat.reduceLT, Nat.reduceAdd, e187_13, b01, M_60, M_70, M_in, alK_l2, h, le_pred]
theorem M_isLine {n : Nat} (h : s 3 = nI n) (hn : n < 100) : evM 199 [.ref 60, .int x] (MS b u v A τ s) = some (some (.int (if 0 ≤ x ∧ x < nI n then 1 else 0)), (MS b u v A τ s)) := by
  simp (disch := first | omega | assumption | exact Nat.le_of_ble_eq_true rfl) only [m199, e199_0, e199_1, e199_2, e199_3, e199_6, e199_7, e199_8, e199_9, e199_10, e199_13b0, e199_13b1, gfK, pfK, lnK, isC, alK_n, asK_n, List.getElem?_cons_zero, List.getElem?_cons_succ, List.set_cons_zero, List.set_cons_succ, List.length_cons, List.length_nil, ↓reduceIte, if_true, if_false, eq_self, and_true, true_and, and_self, Option.bind_some, Option.bind_none, Option.toList_some, Option.toList_none, List.cons_append, List.nil_append, mset_at, mset_ne, mset_2, mset_mset, Nat.reduceLT, Nat.reduceAdd, e199_13, b01, M_60, M_70, M_in, alK_l3, h, le_pred]
end MODEL
